/-! THE COMPUTED CONDITION IS SOUND; a method's contract out of it -/
theorem ab_sw_or {x : Int} {D : Nat} {J : Nat → Prop} {sw : List (Int × Nat)} (h : ab_sw x D J sw) : (∃ t, (x, t) ∈ sw ∧ J t) ∨ ((∀ t, (x, t) ∉ sw) ∧ J D) := by
  induction sw with
  | nil => exact Or.inr ⟨fun t h => (by cases h), h⟩
  | cons a t ih =>
    by_cases hx : x = a.1
    · exact Or.inl ⟨a.2, by rw [hx]; exact List.mem_cons_self, h.1 hx⟩
    · rcases ih (h.2 hx) with ⟨u, h1, h2⟩ | ⟨h1, h2⟩
      · exact Or.inl ⟨u, List.mem_cons_of_mem _ h1, h2⟩
      · refine Or.inr ⟨fun u hu => ?_, h2⟩
        rcases List.mem_cons.mp hu with h | h
        · exact hx (by rw [← h])
        · exact h1 u h
theorem ab_sw_look {x : Int} {D pc : Nat} {d : Int} {J : Nat → Prop} (hD : (pc : Int) + d = (D : Int)) : ∀ (ps : List (Int × Int)) (sw : List (Int × Nat)), ps.map (fun q => (q.1, (pc : Int) + q.2)) = sw.map (fun q => (q.1, (q.2 : Int))) → ab_sw x D J sw → ∃ t : Nat, (pc : Int) + Op.lookupswitch.offset ps d x = (t : Int) ∧ J t
  | [], [], _, h => ⟨D, hD, h⟩
  | [], _ :: _, h, _ => by simp at h
  | _ :: _, [], h, _ => by simp at h
  | a :: ps, b :: sw, h, hs => by
    simp only [List.map_cons, List.cons.injEq, Prod.mk.injEq] at h
    obtain ⟨⟨h1, h2⟩, h3⟩ := h
    obtain ⟨k, o⟩ := a
    rw [Op.lookupswitch.offset_cons]
    by_cases hx : k = x
    · rw [if_pos hx]
      exact ⟨b.2, h2, hs.1 (by rw [← hx]; exact h1)⟩
    · rw [if_neg hx]
      exact ab_sw_look hD ps sw h3 (hs.2 (fun h => hx (by rw [h]; exact h1)))
theorem ab_tb_head {own : Nat} {cc : ByteArray} {e : ab_T} {t : List ab_T} (h : ab_tb own cc (e :: t) = true) : ab_ck own cc e = true := by
  cases t with
  | nil => exact h
  | cons f t =>
    unfold ab_tb at h
    rw [Bool.and_eq_true] at h
    exact h.1
theorem ab_tb_tail {own : Nat} {cc : ByteArray} {e : ab_T} {t : List ab_T} (h : ab_tb own cc (e :: t) = true) : ab_tb own cc t = true ∧ ∀ f t', t = f :: t' → ab_stop e.2.1 = false → e.1 + e.2.2.1 = f.1 := by
  cases t with
  | nil => exact ⟨rfl, fun _ _ h _ => by cases h⟩
  | cons f t =>
    unfold ab_tb at h
    simp only [Bool.and_eq_true] at h
    refine ⟨h.2.2, fun f' t' h9 hst => ?_⟩
    cases h9
    have h1 := h.2.1
    rw [hst, Bool.or_false] at h1
    exact Nat.eq_of_beq_eq_true h1
theorem ab_tb_seek {own : Nat} {cc : ByteArray} {t : List ab_T} (h : ab_tb own cc t = true) (pc : Nat) : ab_tb own cc (ab_seek t pc) = true ∧ ∀ f t', ab_seek t pc = f :: t' → f.1 = pc := by
  induction t with
  | nil => exact ⟨rfl, fun _ _ h => by cases h⟩
  | cons e t ih =>
    unfold ab_seek
    cases hb : Nat.beq e.1 pc with
    | true =>
      refine ⟨h, fun f t' h9 => ?_⟩
      have h9 : e :: t = f :: t' := h9
      cases h9
      exact Nat.eq_of_beq_eq_true hb
    | false => exact ih (ab_tb_tail h).1
theorem ab_ck_dec {own : Nat} {cc : ByteArray} {e : ab_T} (h : ab_ck own cc e = true) : decode cc e.1 = .ok (e.2.1, e.2.2.1) ∧ (ab_len e.2.1 ≠ 0 → e.2.2.1 = ab_len e.2.1) ∧ ab_cr own e = true := by
  unfold ab_ck at h
  simp only [Bool.and_eq_true, Bool.or_eq_true, decide_eq_true_eq] at h
  obtain ⟨h1, h2, h3⟩ := h
  refine ⟨h1, fun h4 => ?_, h3⟩
  rcases h2 with h2 | h2
  · exact absurd (Nat.eq_of_beq_eq_true h2) h4
  · exact Nat.eq_of_beq_eq_true h2
/-- what a method returns -/
def ab_rt (rt : Nat) (ret : Option FieldType) : Prop := match rt with
  | 0 => ret = none
  | 1 => ret = some .int
  | 2 => ret = some .boolean
  | 3 => ret = some .long
  | _ => ∃ n, ret = some (.object n)
set_option maxRecDepth 100000 in
theorem ab_acp : Cond.native arraycopyName ∈ ab_tn ∧ Cond.static arraycopyName ∈ ab_tn ∧ Cond.initialized "java/lang/System" ∈ ab_tn := by
  refine ⟨ab_tnm (List.mem_of_getElem? (i := 761) (by decide +kernel)) rfl, ab_tnm (List.mem_of_getElem? (i := 760) (by decide +kernel)) rfl, ab_tnm (List.mem_of_getElem? (i := 108) (by decide +kernel)) rfl⟩
set_option maxRecDepth 100000 in
theorem ab_mmx : Cond.static yJ9_max_7cf53 ∈ ab_tn ∧ Cond.initialized "java/lang/Math" ∈ ab_tn ∧ Cond.code yJ9_max_7cf53 cJ9_max_7cf53 2 (some .int) ∈ ab_tn := by
  refine ⟨ab_tnm (List.mem_of_getElem? (i := 127) (by decide +kernel)) rfl, ab_tnm (List.mem_of_getElem? (i := 96) (by decide +kernel)) rfl, ab_tnm (List.mem_of_getElem? (i := 128) rfl) rfl⟩
set_option maxRecDepth 100000 in
theorem ab_mmn : Cond.static yJ9_min_7cf53 ∈ ab_tn ∧ Cond.initialized "java/lang/Math" ∈ ab_tn ∧ Cond.code yJ9_min_7cf53 cJ9_min_7cf53 2 (some .int) ∈ ab_tn := by
  refine ⟨ab_tnm (List.mem_of_getElem? (i := 757) (by decide +kernel)) rfl, ab_tnm (List.mem_of_getElem? (i := 96) (by decide +kernel)) rfl, ab_tnm (List.mem_of_getElem? (i := 758) rfl) rfl⟩
theorem ab_cpy_o {M : ab_M} {a b : Nat} {sp dp n : Int} {o : Nat} (h : o ≠ b) (k : Nat) : ab_cpy M a sp b dp n o k = M o k := by
  unfold ab_cpy
  rw [ab_nbeq h]
  rfl
theorem ab_cpy_a (M : ab_M) (a b : Nat) (sp dp n : Int) (k : Nat) : ab_cpy M a sp b dp n b k = if dp.toNat ≤ k ∧ k < dp.toNat + n.toNat then M a (sp.toNat + (k - dp.toNat)) else M b k := by
  unfold ab_cpy
  rw [Nat.beq_refl, Bool.true_and]
  by_cases h : dp.toNat ≤ k ∧ k < dp.toNat + n.toNat
  · rw [if_pos h, show (Nat.ble dp.toNat k && Nat.blt k (dp.toNat + n.toNat)) = true from by rw [Bool.and_eq_true]; exact ⟨Nat.ble_eq.mpr h.1, Nat.ble_eq.mpr h.2⟩]
    rfl
  · rw [if_neg h, show (Nat.ble dp.toNat k && Nat.blt k (dp.toNat + n.toNat)) = false from by
      cases hb : (Nat.ble dp.toNat k && Nat.blt k (dp.toNat + n.toNat)) with
      | false => rfl
      | true =>
        rw [Bool.and_eq_true] at hb
        exact absurd ⟨Nat.ble_eq.mp hb.1, Nat.ble_eq.mp hb.2⟩ h]
    rfl
theorem ab_cpy_i (M : ab_M) (a b : Nat) (sp dp n : Int) : va_cpy (fun j => Int32.ofInt (M a j)) (fun j => Int32.ofInt (M b j)) sp.toNat dp.toNat n.toNat = fun j => Int32.ofInt (ab_cpy M a sp b dp n b j) := by
  funext k
  rw [ab_cpy_a]
  unfold va_cpy
  by_cases h : dp.toNat ≤ k ∧ k < dp.toNat + n.toNat
  · rw [if_pos h, if_pos h]
  · rw [if_neg h, if_neg h]
section AB
variable {p : Program} {l : Launch} {e : Env} {R : Room} {s : State} {m : MethodId} {args : Array Value} {below : List Frame} {meth : Method} {c : Code} {E : ab_E} {cc : ByteArray} {own nL : Nat}
set_option maxHeartbeats 4000000 in
theorem ab_wp_go (hC : ab_Cx p s m args meth c E cc own nL) (hN : ab_NK s) {d : Nat} {G : List (Nat × ab_PT)} (hG : ab_Oks E d G) (hd1 : 1 ≤ d) (hR : R = ab_rm d) {rt : Nat} (hrt : ab_rt rt meth.sig.returnType) {cuts : List Nat} {tb : List ab_T} (htb : ab_tb own cc tb = true) {Ct : Nat → ab_K} {Rr : List ab_V → ab_M → Prop}
    (hCt : ∀ (pc : Nat) (L st : List ab_V) (M : ab_M), Ct pc L st M → ab_Go p l e R s m args below meth c (MQ below (ab_Q E Rr) args s 0 0 (fun q => E.1 ≤ q)) E nL pc L st M) :
    ∀ (n : Nat) (f : Bool) (code : List ab_T) (L st : List ab_V) (M : ab_M), ab_tb own cc code = true → ab_wp rt cuts G tb Ct Rr n f code L st M → ∀ (e0 : ab_T) (rest : List ab_T), code = e0 :: rest → ab_Go p l e R s m args below meth c (MQ below (ab_Q E Rr) args s 0 0 (fun q => E.1 ≤ q)) E nL e0.1 L st M := by
  intro n
  induction n with
  | zero => intro f code L st M _ h; exact h.elim
  | succ n ih =>
    intro f code L st M hcode h e0 rest hc0
    subst hc0
    -- what comes next, and where a jump leads
    have hne : ∀ (code : List ab_T) (L st : List ab_V) (M : ab_M), ab_wp rt cuts G tb Ct Rr n true code L st M → ∃ f t, code = f :: t := by
      intro code L st M h
      cases n with
      | zero => exact h.elim
      | succ n =>
        cases code with
        | nil => exact h.elim
        | cons f t => exact ⟨f, t, rfl⟩
    have next0 : ab_stop e0.2.1 = false → ∀ (L st : List ab_V) (M : ab_M), ab_wp rt cuts G tb Ct Rr n true rest L st M → ab_Go p l e R s m args below meth c (MQ below (ab_Q E Rr) args s 0 0 (fun q => E.1 ≤ q)) E nL (e0.1 + e0.2.2.1) L st M := by
      intro hns L st M h
      obtain ⟨f, t, hf⟩ := hne _ _ _ _ h
      rw [(ab_tb_tail hcode).2 f t hf hns]
      exact ih true rest L st M (ab_tb_tail hcode).1 h f t hf
    have jump : ∀ (tg : Nat) (L st : List ab_V) (M : ab_M), ab_wp rt cuts G tb Ct Rr n true (ab_seek tb tg) L st M → ab_Go p l e R s m args below meth c (MQ below (ab_Q E Rr) args s 0 0 (fun q => E.1 ≤ q)) E nL tg L st M := by
      intro tg L st M h
      obtain ⟨f, t, hf⟩ := hne _ _ _ _ h
      rw [← (ab_tb_seek htb tg).2 f t hf]
      exact ih true _ L st M (ab_tb_seek htb tg).1 h f t hf
    obtain ⟨hdec, hlen, hcr⟩ := ab_ck_dec (ab_tb_head hcode)
    obtain ⟨hx, hb, hml, hown, hts, hK, hlk, hsz⟩ := id hC
    obtain ⟨pc, I, ln, r, sw⟩ := e0
    dsimp only at hdec hlen next0 ⊢
    unfold ab_wp at h
    cases hcut : (f && ab_isc cuts pc) with
    | true =>
      have h : Ct pc L st M := by
        dsimp only at h
        rw [hcut] at h
        exact h
      exact hCt _ _ _ _ h
    | false =>
      dsimp only at h
      rw [hcut] at h
      simp only [cond_false] at h
      have hns : ab_stop I = false := by
        cases I with
        | new _ => exact h.elim
        | _ => rfl
      have next := next0 hns
      split at h
      · -- goto
        rename_i off
        intro wd wL wst hLn H locs ls hP hS hl
        have hln : ln = 3 := hlen (Nat.succ_ne_zero _)
        subst hln
        exact lv_goto hx hb hdec (of_decide_eq_true hcr) (jump _ _ _ _ h wd wL wst hLn H locs ls hP hS hl)
      · -- if<cond>
        rename_i cnd off
        split at h
        · rename_i a st'
          intro wd wL wst hLn H locs ls hP hS hl
          have hln : ln = 3 := hlen (Nat.succ_ne_zero _)
          subst hln
          have ht := of_decide_eq_true hcr
          have h0 : ab_ir 0 := ⟨by decide, by decide⟩
          obtain ⟨ha, h⟩ := h
          cases cnd with
          | eq => exact lv_if_eq hx hb hdec ht (fun q => jump _ _ _ _ (h.1 ((ab_ieq ha h0).1 q)) wd wL (ab_tail wst) hLn H locs ls hP hS hl) (fun q => next _ _ _ (h.2 (fun z => q ((ab_ieq ha h0).2 z))) wd wL (ab_tail wst) hLn H locs ls hP hS hl)
          | ne => exact lv_if_ne hx hb hdec ht (fun q => jump _ _ _ _ (h.1 (fun z => q ((ab_ieq ha h0).2 z))) wd wL (ab_tail wst) hLn H locs ls hP hS hl) (fun q => next _ _ _ (h.2 ((ab_ieq ha h0).1 q)) wd wL (ab_tail wst) hLn H locs ls hP hS hl)
          | lt => exact lv_if_lt hx hb hdec ht (fun q => jump _ _ _ _ (h.1 ((ab_ilt ha h0).1 q)) wd wL (ab_tail wst) hLn H locs ls hP hS hl) (fun q => next _ _ _ (h.2 (Int.not_lt.mp (fun z => q ((ab_ilt ha h0).2 z)))) wd wL (ab_tail wst) hLn H locs ls hP hS hl)
          | ge => exact lv_if_ge hx hb hdec ht (fun q => jump _ _ _ _ (h.1 ((ab_ile h0 ha).1 q)) wd wL (ab_tail wst) hLn H locs ls hP hS hl) (fun q => next _ _ _ (h.2 (Int.not_le.mp (fun z => q ((ab_ile h0 ha).2 z)))) wd wL (ab_tail wst) hLn H locs ls hP hS hl)
          | gt => exact lv_if_gt hx hb hdec ht (fun q => jump _ _ _ _ (h.1 ((ab_ilt h0 ha).1 q)) wd wL (ab_tail wst) hLn H locs ls hP hS hl) (fun q => next _ _ _ (h.2 (Int.not_lt.mp (fun z => q ((ab_ilt h0 ha).2 z)))) wd wL (ab_tail wst) hLn H locs ls hP hS hl)
          | le => exact lv_if_le hx hb hdec ht (fun q => jump _ _ _ _ (h.1 ((ab_ile ha h0).1 q)) wd wL (ab_tail wst) hLn H locs ls hP hS hl) (fun q => next _ _ _ (h.2 (Int.not_le.mp (fun z => q ((ab_ile ha h0).2 z)))) wd wL (ab_tail wst) hLn H locs ls hP hS hl)
        · exact h.elim
      · -- if_icmp<cond>
        rename_i cnd off
        split at h
        · rename_i b a st'
          intro wd wL wst hLn H locs ls hP hS hl
          have hln : ln = 3 := hlen (Nat.succ_ne_zero _)
          subst hln
          have ht := of_decide_eq_true hcr
          obtain ⟨⟨ha, hb2⟩, h⟩ := h
          have wst := ab_tail (ab_tail wst)
          cases cnd with
          | eq => exact lv_icmp_eq hx hb hdec ht (fun q => jump _ _ _ _ (h.1 ((ab_ieq ha hb2).1 q)) wd wL wst hLn H locs ls hP hS hl) (fun q => next _ _ _ (h.2 (fun z => q ((ab_ieq ha hb2).2 z))) wd wL wst hLn H locs ls hP hS hl)
          | ne => exact lv_icmp_ne hx hb hdec ht (fun q => jump _ _ _ _ (h.1 (fun z => q ((ab_ieq ha hb2).2 z))) wd wL wst hLn H locs ls hP hS hl) (fun q => next _ _ _ (h.2 ((ab_ieq ha hb2).1 q)) wd wL wst hLn H locs ls hP hS hl)
          | lt => exact lv_icmp_lt hx hb hdec ht (fun q => jump _ _ _ _ (h.1 ((ab_ilt ha hb2).1 q)) wd wL wst hLn H locs ls hP hS hl) (fun q => next _ _ _ (h.2 (Int.not_lt.mp (fun z => q ((ab_ilt ha hb2).2 z)))) wd wL wst hLn H locs ls hP hS hl)
          | ge => exact lv_icmp_ge hx hb hdec ht (fun q => jump _ _ _ _ (h.1 ((ab_ile hb2 ha).1 q)) wd wL wst hLn H locs ls hP hS hl) (fun q => next _ _ _ (h.2 (Int.not_le.mp (fun z => q ((ab_ile hb2 ha).2 z)))) wd wL wst hLn H locs ls hP hS hl)
          | gt => exact lv_icmp_gt hx hb hdec ht (fun q => jump _ _ _ _ (h.1 ((ab_ilt hb2 ha).1 q)) wd wL wst hLn H locs ls hP hS hl) (fun q => next _ _ _ (h.2 (Int.not_lt.mp (fun z => q ((ab_ilt hb2 ha).2 z)))) wd wL wst hLn H locs ls hP hS hl)
          | le => exact lv_icmp_le hx hb hdec ht (fun q => jump _ _ _ _ (h.1 ((ab_ile ha hb2).1 q)) wd wL wst hLn H locs ls hP hS hl) (fun q => next _ _ _ (h.2 (Int.not_le.mp (fun z => q ((ab_ile ha hb2).2 z)))) wd wL wst hLn H locs ls hP hS hl)
        · exact h.elim
      · -- if_acmp
        rename_i cnd off
        split at h
        · rename_i b qb a qa st'
          intro wd wL wst hLn H locs ls hP hS hl
          have hln : ln = 3 := hlen (Nat.succ_ne_zero _)
          subst hln
          have ht := of_decide_eq_true hcr
          have wst := ab_tail (ab_tail wst)
          exact lv_acmp_eq (rx := some (E.1 + a)) (ry := some (E.1 + b)) hx hb hdec ht (fun q => jump _ _ _ _ (h.1 (by have := Option.some.inj q; omega)) wd wL wst hLn H locs ls hP hS hl) (fun q => next _ _ _ (h.2 (fun z => q (by rw [z]))) wd wL wst hLn H locs ls hP hS hl)
        · exact h.elim
      · -- tableswitch
        rename_i dflt lo hi offs
        split at h
        · rename_i x st'
          intro wd wL wst hLn H locs ls hP hS hl
          have hcr : (decide ((pc : Int) + dflt = (r.2.1 : Int)) && (decide (hi = lo + (offs.size : Int) - 1) && decide ((offs.toList.zipIdx.filter (fun q => !decide (q.1 = dflt))).map (fun q => (lo + (q.2 : Int), (pc : Int) + q.1)) = sw.map (fun q => (q.1, (q.2 : Int)))))) = true := hcr
          simp only [Bool.and_eq_true, decide_eq_true_eq] at hcr
          obtain ⟨hD, hhi, hsw⟩ := hcr
          have hmem : ∀ (k : Int) (t : Nat), (k, t) ∈ sw ↔ ∃ (o : Int) (j : Nat), offs[j]? = some o ∧ o ≠ dflt ∧ lo + (j : Int) = k ∧ (pc : Int) + o = (t : Int) := by
            intro k t
            have h1 : (k, t) ∈ sw ↔ (k, (t : Int)) ∈ sw.map (fun q => (q.1, (q.2 : Int))) := by
              constructor
              · intro h; exact List.mem_map.mpr ⟨_, h, rfl⟩
              · intro h
                obtain ⟨⟨k', t'⟩, h2, h3⟩ := List.mem_map.mp h
                simp only [Prod.mk.injEq] at h3
                obtain ⟨rfl, h4⟩ := h3
                have : t' = t := by omega
                rw [← this]; exact h2
            rw [h1, ← hsw]
            constructor
            · intro h
              obtain ⟨⟨o, j⟩, h2, h3⟩ := List.mem_map.mp h
              obtain ⟨h4, h5⟩ := List.mem_filter.mp h2
              simp only [Bool.not_eq_true', decide_eq_false_iff_not] at h5
              simp only [Prod.mk.injEq] at h3
              have h6 := List.mem_zipIdx_iff_getElem?.mp h4
              exact ⟨o, j, by simpa using h6, h5, h3.1, h3.2⟩
            · rintro ⟨o, j, h2, h3, h4, h5⟩
              refine List.mem_map.mpr ⟨(o, j), List.mem_filter.mpr ⟨List.mem_zipIdx_iff_getElem?.mpr (by simpa using h2), by simpa using h3⟩, by simp [h4, h5]⟩
          have wst := ab_tail wst
          have hxi : (Int32.ofInt x).toInt = x := ab_i32 h.1
          rcases ab_sw_or h.2 with ⟨t, h1, h2⟩ | ⟨h1, h2⟩
          · obtain ⟨o, j, g1, g2, g3, g4⟩ := (hmem _ _).mp h1
            have hj : j < offs.size := (Array.getElem?_eq_some_iff.mp g1).1
            exact lv_tableIn hx hb hdec (by rw [hxi]; omega) (by rw [hxi]; omega) (off := o) (by rw [hxi, show (x - lo).toNat = j by omega]; exact g1) g4 (jump _ _ _ _ h2 wd wL wst hLn H locs ls hP hS hl)
          · by_cases hr : x < lo ∨ hi < x
            · exact lv_tableOut hx hb hdec (by rw [hxi]; exact hr) hD (jump _ _ _ _ h2 wd wL wst hLn H locs ls hP hS hl)
            · have hj : (x - lo).toNat < offs.size := by omega
              obtain ⟨o, ho⟩ : ∃ o, offs[(x - lo).toNat]? = some o := ⟨_, Array.getElem?_eq_getElem hj⟩
              by_cases hod : o = dflt
              · exact lv_tableIn hx hb hdec (by rw [hxi]; omega) (by rw [hxi]; omega) (off := o) (by rw [hxi]; exact ho) (by rw [hod]; exact hD) (jump _ _ _ _ h2 wd wL wst hLn H locs ls hP hS hl)
              · exfalso
                have h3 : (x, (pc : Int) + o) ∈ sw.map (fun q => (q.1, (q.2 : Int))) := by
                  rw [← hsw]
                  exact List.mem_map.mpr ⟨(o, (x - lo).toNat), List.mem_filter.mpr ⟨List.mem_zipIdx_iff_getElem?.mpr (by simpa using ho), by simpa using hod⟩, by simp; omega⟩
                obtain ⟨⟨k', t'⟩, h4, h5⟩ := List.mem_map.mp h3
                simp only [Prod.mk.injEq] at h5
                exact h1 t' (by rw [← h5.1]; exact h4)
        · exact h.elim
      · -- lookupswitch
        rename_i dflt ps
        split at h
        · rename_i x st'
          intro wd wL wst hLn H locs ls hP hS hl
          have hcr : (decide ((pc : Int) + dflt = (r.2.1 : Int)) && ((ps.toList.zip (ps.toList.drop 1)).all (fun (a, next) => a.1 < next.1) && decide (ps.toList.map (fun q => (q.1, (pc : Int) + q.2)) = sw.map (fun q => (q.1, (q.2 : Int)))))) = true := hcr
          simp only [Bool.and_eq_true, decide_eq_true_eq] at hcr
          obtain ⟨hD, hp, hsw⟩ := hcr
          obtain ⟨t, h1, h2⟩ := ab_sw_look hD ps.toList sw hsw h.2
          have hxi : (Int32.ofInt x).toInt = x := ab_i32 h.1
          exact lv_lookup hx hb hdec hp (by rw [hxi]) h1 (jump _ _ _ _ h2 wd wL (ab_tail wst) hLn H locs ls hP hS hl)
        · exact h.elim
      · -- ireturn
        have hln : ln = 1 := hlen (Nat.succ_ne_zero _)
        subst hln
        split at h
        · rename_i z
          intro wd wL wst hLn H locs ls hP hS hl
          exact W.iret hx hb hrt (fun t ht hW => ⟨⟨[.inr (.inl z)], M, h, wd, wst, Nat.le_refl _, rfl, by rw [ht]; exact hP⟩, hS.F ht⟩) hS.2.2 hdec
        · rename_i z
          intro wd wL wst hLn H locs ls hP hS hl
          exact W.zret hx hb hrt (ab_narz h.1) (fun t ht hW => ⟨⟨[.inr (.inl z)], M, h.2, wd, wst, Nat.le_refl _, rfl, by rw [ht]; exact hP⟩, hS.F ht⟩) hS.2.2 hdec
        · exact h.elim
      · -- lreturn
        have hln : ln = 1 := hlen (Nat.succ_ne_zero _)
        subst hln
        split at h
        · rename_i z
          intro wd wL wst hLn H locs ls hP hS hl
          exact W.lret hx hb hrt (fun t ht hW => ⟨⟨[.inr (.inr (.inl z))], M, h, wd, wst, Nat.le_refl _, rfl, by rw [ht]; exact hP⟩, hS.F ht⟩) hS.2.2 hdec
        · exact h.elim
      · -- areturn
        have hln : ln = 1 := hlen (Nat.succ_ne_zero _)
        subst hln
        split at h
        · rename_i a
          intro wd wL wst hLn H locs ls hP hS hl
          obtain ⟨nm, hrt⟩ := hrt
          exact W.aret hx hb hrt (Or.inl ⟨_, rfl⟩) (Or.inr ⟨_, rfl⟩) (fun t ht hW => ⟨⟨[.inr (.inr (.inr a))], M, h, wd, wst, Nat.le_refl _, rfl, by rw [ht]; exact hP⟩, hS.F ht⟩) hS.2.2 hdec
        · exact h.elim
      · -- return
        have hln : ln = 1 := hlen (Nat.succ_ne_zero _)
        subst hln
        split at h
        · intro wd wL wst hLn H locs ls hP hS hl
          exact W.vret hx hb hrt (fun t ht hW => ⟨⟨[], M, h, wd, wst, Nat.zero_le _, rfl, by rw [ht]; exact hP⟩, hS.F ht⟩) hS.2.2 hdec
        · exact h.elim
      · -- invokevirtual
        rename_i i
        have hln : ln = 3 := hlen (Nat.succ_ne_zero _)
        subst hln
        split at h
        · rename_i o cl n1 as hrev
          cases hbq : Nat.beq cl r.1.toNat with
          | false => rw [hbq] at h; exact h.elim
          | true =>
            rw [hbq] at h
            have hce := Nat.eq_of_beq_eq_true hbq
            subst hce
            exact ab_virt hC hN hG hR hdec hcr hrev h (fun st' M' hk => next _ _ _ hk)
        · exact h.elim
      · -- invokestatic
        rename_i i
        have hln : ln = 3 := hlen (Nat.succ_ne_zero _)
        subst hln
        have hcr : (bif Nat.beq r.2.1 9 then decide (lw_tbl[r.2.2.2.2]? = some (.methodLink (ab_cn own) i arraycopyName)) else bif Nat.beq r.2.1 10 then decide (lw_tbl[r.2.2.2.2]? = some (.methodLink (ab_cn own) i yJ9_max_7cf53)) else bif Nat.beq r.2.1 11 then decide (lw_tbl[r.2.2.2.2]? = some (.methodLink (ab_cn own) i yJ9_min_7cf53)) else ab_cm own i 1 r) = true := hcr
        split at h
        · rename_i hf
          rw [hf] at hcr
          exact ab_stat hC hN hG hR hdec hcr h (fun st' M' hk => next _ _ _ hk)
        · rename_i hf
          rw [hf] at hcr
          exact ab_stat hC hN hG hR hdec hcr h (fun st' M' hk => next _ _ _ hk)
        · -- arraycopy
          rename_i n' dp b cb nb sp a ca na st' hf
          rw [hf] at hcr
          cases hbq : (Nat.beq ca cb && (Nat.beq ca 20 || Nat.beq ca 24) && Nat.ble (ab_cat st') 8) with
          | false => rw [hbq] at h; exact h.elim
          | true =>
            rw [hbq] at h
            simp only [Bool.and_eq_true, Bool.or_eq_true] at hbq
            obtain ⟨⟨q1, q2⟩, q3⟩ := hbq
            have q1 := Nat.eq_of_beq_eq_true q1
            subst q1
            have q3 := Nat.le_of_ble_eq_true q3
            have h : ((0 ≤ sp ∧ 0 ≤ dp ∧ 0 ≤ n' ∧ sp + n' ≤ (na : Int) ∧ dp + n' ≤ (nb : Int)) ∧ (ca = 24 → ∀ i : Nat, (i : Int) < n' → 0 ≤ M a (sp.toNat + i) ∧ M a (sp.toNat + i) < 65536)) ∧ _ := h
            obtain ⟨⟨⟨b1, b2, b3, b4, b5⟩, hch⟩, h⟩ := h
            intro wd wL wst hLn H locs ls hP hS hl
            have wb := ab_head (ab_tail (ab_tail wst))
            have wa := ab_head (ab_tail (ab_tail (ab_tail (ab_tail wst))))
            have hna : na < 2 ^ 31 := by rw [← wa.2.2]; exact ab_ln_small wa.1
            have hnb : nb < 2 ^ 31 := by rw [← wb.2.2]; exact ab_ln_small wb.1
            have r1 : ab_ir sp := ⟨by omega, by omega⟩
            have r2 : ab_ir dp := ⟨by omega, by omega⟩
            have r3 : ab_ir n' := ⟨by omega, by omega⟩
            have e1 : (Int32.ofInt sp).toNatClampNeg = sp.toNat := ab_cl1 b1 (by omega)
            have e2 : (Int32.ofInt dp).toNatClampNeg = dp.toNat := ab_cl1 b2 (by omega)
            have e3 : (Int32.ofInt n').toNatClampNeg = n'.toNat := ab_cl1 b3 (by omega)
            have h0 : ab_ir 0 := ⟨by decide, by decide⟩
            have hz : ∀ x : Int, 0 ≤ x → ab_ir x → ¬ Int32.ofInt x < 0 := fun x hx hr q => by
              have := (ab_ilt hr h0).1 q
              omega
            have hc20 : ca = 20 ∨ ca = 24 := by
              rcases q2 with q2 | q2
              · exact Or.inl (Nat.eq_of_beq_eq_true q2)
              · exact Or.inr (Nat.eq_of_beq_eq_true q2)
            have he0 : (ab_W E ab_n M)[a]? = some (E.1 + a, .inl (E.2.2 ca, na, .inl fun j => Int32.ofInt (M a j))) := by rw [ab_W_get E M wa.1, ab_ent_i E M wa.2.1 (by omega), wa.2.2]
            have he1 : (ab_W E ab_n M)[b]? = some (E.1 + b, .inl (E.2.2 ca, nb, .inl fun j => Int32.ofInt (M b j))) := by rw [ab_W_get E M wb.1, ab_ent_i E M wb.2.1 (by omega), wb.2.2]
            obtain ⟨t0, ty, hty, hprim, hfit⟩ : ∃ (t0 : Nat) (ty : FieldType), (ab_tys E.2.2)[t0]? = some (E.2.2 ca, ty) ∧ refKind ty = false ∧ ∀ i, i < (Int32.ofInt n').toNatClampNeg → fits ty (.int ((fun j => Int32.ofInt (M a j)) ((Int32.ofInt sp).toNatClampNeg + i))) = true := by
              rcases hc20 with rfl | rfl
              · exact ⟨0, .int, rfl, rfl, fun i hi => rfl⟩
              · refine ⟨4, .char, rfl, rfl, fun i hi => ?_⟩
                rw [e1]
                rw [e3] at hi
                exact ab_fitc (hch rfl i (by omega))
            have hnf : nativeFrameWords "java/lang/System" "arraycopy" 5 ≤ 40 := by decide +kernel
            refine va_copyi hx hb (hml.trans hl.1.symm) hown (hts _ (ab_tnm (List.mem_of_getElem? (of_decide_eq_true hcr)) rfl)) (hts _ ab_acp.1) (hts _ ab_acp.2.1) (hts _ ab_acp.2.2) hK hP (ab_D E ab_n M) hS a b t0 t0 he0 he1 hty hty hprim (hz sp b1 r1) (hz dp b2 r2) (hz n' b3 r3) (by rw [e1, e3]; omega) (by rw [e2, e3]; omega) hfit (by rw [hR]; exact hd1) (by
              rw [ab_cat_sum, hR]
              show _ ≤ 64 * d
              omega) hdec (fun H1 locs1 a1 a2 a3 => ?_)
            rw [e1, e2, e3, ab_cpy_i, ab_W_set E (M' := ab_cpy M a sp b dp n') wb.1 (by rw [ab_ent_i E _ wb.2.1 (by omega), wb.2.2]) (fun o' h j => (ab_cpy_o h j).symm)] at a1
            have wd' : ab_wd (ab_cpy M a sp b dp n') := ab_wd_ext wd (fun o k hk => ab_cpy_o (fun h => by rw [h, wb.2.1] at hk; omega) k) (fun c k hk => ab_ft9 c k hk)
            exact next _ _ _ h wd' wL (ab_tail (ab_tail (ab_tail (ab_tail (ab_tail wst))))) hLn H1 locs1 ls a1 a3 hl
        · -- max
          rename_i y x st' hf
          rw [hf] at hcr
          cases hbq : Nat.ble (ab_cat st') 8 with
          | false => rw [hbq] at h; exact h.elim
          | true =>
            rw [hbq] at h
            have q3 := Nat.le_of_ble_eq_true hbq
            have h : (ab_ir x ∧ ab_ir y) ∧ _ := h
            intro wd wL wst hLn H locs ls hP hS hl
            refine va_mmax hx hb (hml.trans hl.1.symm) hown (hts _ (ab_tnm (List.mem_of_getElem? (of_decide_eq_true hcr)) rfl)) (hts _ ab_mmx.1) (hts _ ab_mmx.2.1) (hts _ ab_mmx.2.2) (by rw [hR]; exact hd1) (by
              rw [ab_cat_sum, hR]
              show _ ≤ 64 * d
              omega) (Nat.zero_le _) (Nat.zero_le _) hdec ?_
            have e1 : (if Int32.ofInt x < Int32.ofInt y then Int32.ofInt y else Int32.ofInt x) = Int32.ofInt (if x < y then y else x) := by
              by_cases hxy : x < y
              · rw [if_pos hxy, if_pos ((ab_ilt h.1.1 h.1.2).2 hxy)]
              · rw [if_neg hxy, if_neg (fun q => hxy ((ab_ilt h.1.1 h.1.2).1 q))]
            rw [e1]
            exact next _ _ _ h.2 wd wL (ab_cons trivial (ab_tail (ab_tail wst))) hLn H locs ls hP hS hl
        · -- min
          rename_i y x st' hf
          rw [hf] at hcr
          cases hbq : Nat.ble (ab_cat st') 8 with
          | false => rw [hbq] at h; exact h.elim
          | true =>
            rw [hbq] at h
            have q3 := Nat.le_of_ble_eq_true hbq
            have h : (ab_ir x ∧ ab_ir y) ∧ _ := h
            intro wd wL wst hLn H locs ls hP hS hl
            refine va_mmin hx hb (hml.trans hl.1.symm) hown (hts _ (ab_tnm (List.mem_of_getElem? (of_decide_eq_true hcr)) rfl)) (hts _ ab_mmn.1) (hts _ ab_mmn.2.1) (hts _ ab_mmn.2.2) (by rw [hR]; exact hd1) (by
              rw [ab_cat_sum, hR]
              show _ ≤ 64 * d
              omega) (Nat.zero_le _) (Nat.zero_le _) hdec ?_
            have e1 : (if Int32.ofInt y < Int32.ofInt x then Int32.ofInt y else Int32.ofInt x) = Int32.ofInt (if y < x then y else x) := by
              by_cases hxy : y < x
              · rw [if_pos hxy, if_pos ((ab_ilt h.1.2 h.1.1).2 hxy)]
              · rw [if_neg hxy, if_neg (fun q => hxy ((ab_ilt h.1.2 h.1.1).1 q))]
            rw [e1]
            exact next _ _ _ h.2 wd wL (ab_cons trivial (ab_tail (ab_tail wst))) hLn H locs ls hP hS hl
        · exact h.elim
      · rename_i h1 h2 h3 h4 h5 h6 h7 h8 h9 h10 h11 h12
        by_cases hz : ab_len I = 0
        · exfalso
          unfold ab_st at h
          cases I <;> first | exact h | exact absurd hz (Nat.succ_ne_zero _)
        · have hln := hlen hz
          subst hln
          exact ab_st_go hC hdec hcr h (fun L' st' M' hk => next _ _ _ hk)
end AB
