/-! THE WALK: a computed condition holds, so the machine walks; contracts of calls -/
def ab_ws (q : ab_R) : List Cond := Cond.code q.1 q.2.1 q.2.2.1 q.2.2.2.1 :: ab_tt
def ab_rm (d : Nat) : Room := { frames := d, cells := 0, slots := 0, locals := 64 * d }
def ab_NK (U : State) : Prop := ∀ w ∈ lw_tbl, ab_nest w = true → va_Nw w U
theorem ab_NK.warm {s U : State} (hW : s.WarmedH U.vm) (h : ab_NK s) : ab_NK U := fun w hw hn => by
  cases w <;> first | exact va_Nw.warmF hW (h _ hw hn) | exact va_Nw.warmM hW (h _ hw hn) | exact absurd hn Bool.false_ne_true
theorem ab_NK.moved {u U : State} (hv : u.vm = U.vm) (h : ab_NK u) : ab_NK U := fun w hw hn => by
  cases w <;> first | exact absurd hn Bool.false_ne_true | exact va_Nw.same rfl hv (h _ hw hn)
def ab_Pre (E : ab_E) (a : List ab_V) (M : ab_M) : Array Value → State → Prop := va_Pc (a.map (ab_cv E.1)) (fun U => va_P E.2.1 ab_cl (ab_W E ab_n M) U.heap ∧ va_K E.2.1 ab_cl (ab_tys E.2.2) U ∧ ab_NK U ∧ E.1 ≤ U.heap.size)
def ab_Q (E : ab_E) (K : List ab_V → ab_M → Prop) : Array Value → State → Outcome → State → Prop := fun _ st oc t => (∃ (rv : List ab_V) (M' : ab_M), K rv M' ∧ ab_wd M' ∧ (∀ v ∈ rv, ab_wf v) ∧ rv.length ≤ 1 ∧ oc = .returned (rv.head?.map (ab_cv E.1)) ∧ va_P E.2.1 ab_cl (ab_W E ab_n M') t.heap) ∧ va_F (fun q => E.1 ≤ q) st t
theorem ab_Pre_blind (E : ab_E) (a : List ab_V) (M : ab_M) : FrameBlind (ab_Pre E a M) := fun x U g mk h => by
  obtain ⟨h1, h2, h3, h4, h5⟩ := h
  exact ⟨h1, h2, va_K.moved (u := U) (U := U.calling g mk x) (Vm.Alike.refl U.vm) h3, ab_NK.moved (u := U) (U := U.calling g mk x) rfl h4, h5⟩
/-- method i meets the specification Sp, with room for d frames -/
def ab_Ok (E : ab_E) (d i : Nat) (Sp : ab_PT) : Prop := ∀ q : ab_R, ab_reg[i]? = some q → ∀ (a : List ab_V) (M : ab_M) (K : List ab_V → ab_M → Prop), ab_wd M → (∀ v ∈ a, ab_wf v) → Sp a M K → ∀ l : Launch, Met l q.1 (ab_ws q) (ab_rm d) (ab_Pre E a M) (ab_Q E K) 0 0 (fun q => E.1 ≤ q)
def ab_Oks (E : ab_E) (d : Nat) (G : List (Nat × ab_PT)) : Prop := ∀ g ∈ G, ∃ d' : Nat, d' + 1 ≤ d ∧ ab_Ok E d' g.1 g.2
theorem ab_find_of {G : List (Nat × ab_PT)} {i : Nat} {a : List ab_V} {M : ab_M} {K : List ab_V → ab_M → Prop} (h : ab_find G i a M K) : ∃ g ∈ G, g.1 = i ∧ g.2 a M K := by
  induction G with
  | nil => exact h.elim
  | cons g t ih =>
    unfold ab_find at h
    cases hb : Nat.beq g.1 i with
    | true => rw [hb] at h; exact ⟨g, List.mem_cons_self, Nat.eq_of_beq_eq_true hb, h⟩
    | false =>
      rw [hb] at h
      obtain ⟨g', h1, h2, h3⟩ := ih h
      exact ⟨g', List.mem_cons_of_mem _ h1, h2, h3⟩
theorem ab_rk_of {i : Nat} {q : ab_R} (h : ab_reg[i]? = some q) : ab_rk q = true := List.all_eq_true.mp ab_rk_all q (List.mem_of_getElem? h)
/-- what the registry says of a method -/
theorem ab_rg {i : Nat} {q : ab_R} (h : ab_reg[i]? = some q) : Cond.code q.1 q.2.1 q.2.2.1 q.2.2.2.1 ∈ ab_tt ∧ Cond.initialized q.1.cls ∈ ab_tt ∧ (q.1.cls ≠ "java/lang/invoke/MethodHandle" ∧ q.1.cls ≠ "java/lang/invoke/VarHandle") ∧ plainName q.1.cls = true ∧ q.1.cls = ab_cn q.2.2.2.2.1 ∧ q.2.2.1 ≤ 45 := by
  have h0 := ab_rk_of h
  unfold ab_rk at h0
  simp only [Bool.and_eq_true, decide_eq_true_eq] at h0
  obtain ⟨h1, h2, h3, h4, h5, -⟩ := h0
  exact ⟨ab_ttm (ab_rcs q (List.mem_of_getElem? h)) rfl, ab_ttm (List.mem_of_getElem? h1) rfl, h2, h3, h4, Nat.le_of_ble_eq_true h5⟩
theorem ab_rg0 {i : Nat} {q : ab_R} (h : ab_reg[i]? = some q) (hk : q.2.2.2.2.2.2 = 0) : Cond.instanceMethod q.1 ∈ ab_tt ∧ Cond.selects q.1.cls q.1 q.1 ∈ ab_tt ∧ q.2.2.2.2.1 ≤ 12 := by
  have h0 := ab_rk_of h
  unfold ab_rk at h0
  rw [hk] at h0
  simp only [Bool.and_eq_true, decide_eq_true_eq] at h0
  obtain ⟨h1, h2, h3, h4, h5, h6, h7, h8⟩ := h0
  exact ⟨ab_ttm (List.mem_of_getElem? h6) rfl, ab_ttm (List.mem_of_getElem? h7) rfl, Nat.le_of_ble_eq_true h8⟩
theorem ab_rg1 {i : Nat} {q : ab_R} (h : ab_reg[i]? = some q) (hk : q.2.2.2.2.2.2 = 1) : Cond.static q.1 ∈ ab_tt := by
  have h0 := ab_rk_of h
  unfold ab_rk at h0
  rw [hk] at h0
  simp only [Bool.and_eq_true, decide_eq_true_eq] at h0
  obtain ⟨h1, h2, h3, h4, h5, h6⟩ := h0
  exact ab_ttm (List.mem_of_getElem? h6) rfl
theorem ab_cm_ok {own i k : Nat} {r : Int × Nat × Nat × Nat × Nat} (h : ab_cm own i k r = true) : ∃ q : ab_R, ab_reg[r.2.2.1]? = some q ∧ q.2.2.2.2.2.2 = k ∧ (k = 0 → r.1.toNat = q.2.2.2.2.1) ∧ (parseMethodDescriptor q.1.desc).map (fun d => d.parameters.length) = some r.2.2.2.1 ∧ ((r.2.1 = 2 * k ∧ Cond.methodLink (ab_cn own) i q.1 ∈ ab_tn) ∨ (r.2.1 = 2 * k + 1 ∧ ∃ host : String, Cond.methodLinkNest (ab_cn own) i q.1 host ∈ lw_tbl)) := by
  unfold ab_cm at h
  split at h
  · rename_i hw hq
    simp only [Bool.and_eq_true, decide_eq_true_eq, Bool.or_eq_true, bne_iff_ne, ne_eq] at h
    obtain ⟨⟨rfl, rfl, rfl⟩, h2, ⟨h3, h4⟩, h5⟩ := h
    refine ⟨_, hq, Nat.eq_of_beq_eq_true h4, fun hk => ?_, h5, Or.inl ⟨Nat.eq_of_beq_eq_true h2, ab_tnm (List.mem_of_getElem? hw) rfl⟩⟩
    rcases h3 with h3 | h3
    · exact absurd hk h3
    · exact Nat.eq_of_beq_eq_true h3
  · rename_i hw hq
    simp only [Bool.and_eq_true, decide_eq_true_eq, Bool.or_eq_true, bne_iff_ne, ne_eq] at h
    obtain ⟨⟨rfl, rfl, rfl⟩, h2, ⟨h3, h4⟩, h5⟩ := h
    refine ⟨_, hq, Nat.eq_of_beq_eq_true h4, fun hk => ?_, h5, Or.inr ⟨Nat.eq_of_beq_eq_true h2, _, List.mem_of_getElem? hw⟩⟩
    rcases h3 with h3 | h3
    · exact absurd hk h3
    · exact Nat.eq_of_beq_eq_true h3
  · cases h
theorem ab_tn_tt {w : Cond} (h : w ∈ ab_tt) : w ∈ ab_tn := by
  obtain ⟨h1, h2⟩ := List.mem_filter.mp h
  exact ab_tnm h1 (by rw [h2]; rfl)
theorem ab_goodIn {big : List Cond} {q : ab_R} (hb : ∀ w ∈ ab_tt, w ∈ big) (hc : Cond.code q.1 q.2.1 q.2.2.1 q.2.2.2.1 ∈ ab_tt) : GoodIn big (ab_ws q) := fun w h => by
  have hw : w ∈ ab_tt := by
    rcases List.mem_cons.mp h with rfl | h
    · exact hc
    · exact h
  exact ⟨hb w hw, good_of_word (List.mem_filter.mp hw).2⟩
theorem ab_cat_sum (S : Nat) (st : List ab_V) : ((st.map (ab_cv S)).map fun v => v.category).sum = ab_cat st := by
  induction st with
  | nil => rfl
  | cons v t ih =>
    simp only [List.map_cons, List.sum_cons, ih]
    rcases v with u | z | z | ⟨o, c, n⟩ <;> simp [ab_cv, ab_cat, Value.category] <;> omega
section AB
variable {p : Program} {l : Launch} {e : Env} {R : Room} {s : State} {m : MethodId} {args : Array Value} {below : List Frame} {meth : Method} {c : Code} {Q : State → Prop} {E : ab_E} {cc : ByteArray} {own nL : Nat}
variable {pc : Nat} {L st : List ab_V} {M : ab_M}
/-- behind a call -/
theorem ab_back (hC : ab_Cx p s m args meth c E cc own nL) {a : Array Value} {rest : List ab_V} {g : JFrame} {H : Heap} {locs : List Loc} {ls : Array Slot} {K : List ab_V → ab_M → Prop} (hg : g = F0 m pc ls g.stack)
    (hr : va_Run p l e R s m args below meth c H locs 0 0 0 0 g (rest.map (ab_cv E.1)) (ab_Q E K a) (fun q => E.1 ≤ q)) (hS : va_S (fun q => E.1 ≤ q) s.heap H locs) (hl : lv_has ls nL (ab_lv E.1 L)) (wL : ∀ v ∈ L, ab_wf v) (wr : ∀ v ∈ rest, ab_wf v) (hLn : L.length = nL)
    (k : ∀ (rv : List ab_V) (M' : ab_M), K rv M' → ab_Go p l e R s m args below meth c Q E nL (pc + 3) L (rv ++ rest) M') : W p l e R s m args below meth c H locs 0 0 Q g := by
  intro T hT X
  obtain ⟨v, st₀, t, T', L', h0, X', hL, e1, e2, ⟨⟨rv, M', hK', wd', wf', hlen, hv, hP'⟩, hz, hk⟩, stp⟩ := hr T hT X
  rw [h0] at hz hk
  have hv : v = rv.head?.map (ab_cv E.1) := by injection hv
  have hstk : v.toList ++ rest.map (ab_cv E.1) = (rv ++ rest).map (ab_cv E.1) := by
    rw [hv]
    match rv, hlen with
    | [], _ => rfl
    | [w], _ => rfl
  have hS1 : va_S (fun q => E.1 ≤ q) s.heap T'.heap (locs ++ L') := ⟨Nat.le_trans hS.1 (by rw [e1]; exact hz), fun q h1 h2 => by rw [e1, hk q (Nat.lt_of_lt_of_le h1 hS.1) h2]; exact hS.2.1 q h1 h2, fun q hq => by
    rcases List.mem_append.mp hq with h | h
    · exact hS.2.2 q h
    · exact hL q h⟩
  have hG := k rv M' hK' wd' wL (fun v hv => by
    rcases List.mem_append.mp hv with h | h
    · exact wf' v h
    · exact wr v h) hLn T'.heap (locs ++ L') ls (by rw [e1]; exact hP') hS1 hl
  obtain ⟨t2, a1, b1⟩ := hG T' rfl X'
  refine ⟨t2, stp t2 ?_, b1⟩
  rw [hg]
  rw [← hstk] at a1
  exact a1
theorem ab_take_drop (k : Nat) (st : List ab_V) : st = (st.take k).reverse.reverse ++ st.drop k := by simp
theorem ab_ca_go (hC : ab_Cx p s m args meth c E cc own nL) (hN : ab_NK s) {d : Nat} {G : List (Nat × ab_PT)} (hG : ab_Oks E d G) (hR : R = ab_rm d) {r : Int × Nat × Nat × Nat × Nat} {kk : Nat} {K : List ab_V → ab_M → Prop} (h : ab_ca G r kk st M K) (wd : ab_wd M) (wst : ∀ v ∈ st, ab_wf v) :
    (st.take kk).length = kk ∧ ab_cat (st.drop kk) ≤ 8 ∧ ∃ (d' : Nat) (Sp : ab_PT), d' + 1 ≤ d ∧ ab_Ok E d' r.2.2.1 Sp ∧ Sp (st.take kk).reverse M (fun rv M' => K (rv ++ st.drop kk) M') := by
  unfold ab_ca at h
  cases hb : (Nat.beq (st.take kk).length kk && Nat.ble (ab_cat (st.drop kk)) 8) with
  | false => rw [hb] at h; exact h.elim
  | true =>
    rw [hb] at h
    rw [Bool.and_eq_true] at hb
    obtain ⟨g, hg, hi, hSp⟩ := ab_find_of h
    obtain ⟨d', hd, hok⟩ := hG g hg
    rw [hi] at hok
    exact ⟨Nat.eq_of_beq_eq_true hb.1, Nat.le_of_ble_eq_true hb.2, d', g.2, hd, hok, hSp⟩
theorem ab_rooms {d d' maxl : Nat} (hd : d' + 1 ≤ d) (hm : maxl ≤ 45) : (ab_rm d').frames + 1 ≤ (ab_rm d).frames ∧ 8 + (maxl + 11) + (ab_rm d').locals ≤ (ab_rm d).locals := by
  show d' + 1 ≤ d ∧ 8 + (maxl + 11) + 64 * d' ≤ 64 * d
  omega
theorem ab_preU (hC : ab_Cx p s m args meth c E cc own nL) (hN : ab_NK s) {H : Heap} {locs : List Loc} (hP : va_P E.2.1 ab_cl (ab_W E ab_n M) H) (hS : va_S (fun q => E.1 ≤ q) s.heap H locs) {a : List ab_V} : ∀ U : State, U.heap = H → s.WarmedH U.vm → ab_Pre E a M (a.map (ab_cv E.1)).toArray U := fun U hU hW => by
  obtain ⟨hx, hb, hml, hown, hts, hK, hlk, hsz⟩ := hC
  exact ⟨rfl, by rw [hU]; exact hP, va_K.moved hW.alike hK, ab_NK.warm hW hN, by rw [hU]; exact Nat.le_trans hsz hS.1⟩
theorem ab_virt (hC : ab_Cx p s m args meth c E cc own nL) (hN : ab_NK s) {d : Nat} {G : List (Nat × ab_PT)} (hG : ab_Oks E d G) (hR : R = ab_rm d) {i : Nat} {r : Int × Nat × Nat × Nat × Nat} {K : List ab_V → ab_M → Prop} (hdg : decode cc pc = .ok (.invokevirtual i, 3)) (hck : ab_cm own i 0 r = true) {o n1 : Nat} {as : List ab_V} (hrev : (st.take (r.2.2.2.1 + 1)).reverse = .inr (.inr (.inr (o, r.1.toNat, n1))) :: as) (h : ab_ca G r (r.2.2.2.1 + 1) st M K)
    (k : ∀ (st' : List ab_V) (M' : ab_M), K st' M' → ab_Go p l e R s m args below meth c Q E nL (pc + 3) L st' M') : ab_Go p l e R s m args below meth c Q E nL pc L st M := by
  intro wd wL wst hLn H locs ls hP hS hl
  obtain ⟨hlen, hcat, d', Sp, hd, hok, hSp⟩ := ab_ca_go hC hN hG hR h wd wst
  obtain ⟨hx, hb, hml, hown, hts, hK, hlk, hsz⟩ := id hC
  obtain ⟨q, hq, hk0, hcls, hpar, hlink⟩ := ab_cm_ok hck
  have hcls := hcls rfl
  obtain ⟨g1, g2, g3, g4, g5, g6⟩ := ab_rg hq
  obtain ⟨g7, g8, g9⟩ := ab_rg0 hq hk0
  have wtake : ∀ v ∈ (st.take (r.2.2.2.1 + 1)).reverse, ab_wf v := fun v hv => wst v (List.mem_of_mem_take (List.mem_reverse.mp hv))
  have hmet := hok q hq _ M _ wd wtake hSp l
  rw [hrev] at hmet wtake
  have hw0 := wtake _ List.mem_cons_self
  obtain ⟨ho, hkd, hln⟩ := hw0
  have hst : st = as.reverse ++ .inr (.inr (.inr (o, r.1.toNat, n1))) :: st.drop (r.2.2.2.1 + 1) := by
    have h1 := ab_take_drop (r.2.2.2.1 + 1) st
    rw [hrev] at h1
    simpa using h1
  have hasl : as.length = r.2.2.2.1 := by
    have h1 := congrArg List.length hrev
    rw [List.length_reverse, hlen] at h1
    simp at h1
    omega
  have hclt : r.1.toNat ≤ 12 := by rw [hcls]; exact g9
  obtain ⟨vc, hvc⟩ : ∃ vc : vw_C, ab_cl[r.1.toNat]? = some vc := ⟨_, List.getElem?_eq_getElem (show r.1.toNat < 13 by omega)⟩
  have hvn : vc.1 = q.1.cls := by
    rw [g5, ← hcls]
    have : ∀ j, j < 13 → ∀ vc, ab_cl[j]? = some vc → vc.1 = ab_cn j := by
      intro j hj vc h
      match j, hj, h with
      | 0, _, h => cases h; rfl
      | 1, _, h => cases h; rfl
      | 2, _, h => cases h; rfl
      | 3, _, h => cases h; rfl
      | 4, _, h => cases h; rfl
      | 5, _, h => cases h; rfl
      | 6, _, h => cases h; rfl
      | 7, _, h => cases h; rfl
      | 8, _, h => cases h; rfl
      | 9, _, h => cases h; rfl
      | 10, _, h => cases h; rfl
      | 11, _, h => cases h; rfl
      | 12, _, h => cases h; rfl
    exact this _ (by omega) _ hvc
  have hrecv := va_recv (s := s) hK hP hvc (q0 := o) (a := E.1 + o) (by rw [ab_W_get E M ho, ab_ent_c E M hkd (by omega)])
  rw [hvn] at hrecv
  subst hR
  have hS0 : CallFix p m c cc nL s args ab_tn (ab_cn own) := ⟨hx, hb, hml, hown, hts⟩
  have hpre : PreV s H q.1.cls (E.1 + o) (ab_Pre E (.inr (.inr (.inr (o, r.1.toNat, n1))) :: as) M) (as.map (ab_cv E.1)) := ⟨ab_Pre_blind E _ M, hrecv, ab_preU hC hN hP hS⟩
  have hstk : st.map (ab_cv E.1) = (as.map (ab_cv E.1)).reverse ++ .ref (E.1 + o) :: (st.drop (r.2.2.2.1 + 1)).map (ab_cv E.1) := by
    conv => lhs; rw [hst]
    simp [ab_cv]
  have hroom : 2 * (F0 m pc ls (st.map (ab_cv E.1))).monitorRoom + (((st.drop (r.2.2.2.1 + 1)).map (ab_cv E.1)).map fun v => v.category).sum ≤ 8 := by
    have := lv_room (m := m) (pc := pc) (ls := ls) (rest := st.map (ab_cv E.1)) (st := (st.drop (r.2.2.2.1 + 1)).map (ab_cv E.1)) (by rw [ab_cat_sum]; exact hcat)
    exact this
  have hgi : GoodIn ab_tn (ab_ws q) := ab_goodIn (fun w h => ab_tn_tt h) g1
  rcases hlink with ⟨-, hl0⟩ | ⟨-, host, hl0⟩
  · have hT : GoodIn ab_tn (wsV (ab_cn own) i q.1.cls q.1 (ab_ws q)) := fun w h => by
      unfold wsV at h
      rcases List.mem_append.mp h with h | h
      · simp only [List.mem_cons, List.not_mem_nil, or_false] at h
        rcases h with rfl | rfl | rfl | rfl
        · exact ⟨hl0, Or.inl rfl⟩
        · exact ⟨ab_tn_tt g7, Or.inl rfl⟩
        · exact ⟨ab_tn_tt g8, Or.inl rfl⟩
        · exact ⟨ab_tn_tt g2, Or.inl rfl⟩
      · exact hgi w h
    have hrun := va_runV (e := e) (below := below) (meth := meth) (As := as.map (ab_cv E.1)) (rest := (st.drop (r.2.2.2.1 + 1)).map (ab_cv E.1)) (g := F0 m pc ls (st.map (ab_cv E.1))) (H := H) (locs := locs) (cells := 0) (slots := 0) hS0 hmet (cwV r.2.2.2.1 hts hT rfl rfl rfl ⟨rfl, g3.1, g3.2, hpar⟩ (ab_rooms hd g6)) hpre rfl (by simpa using hasl) hl.1 hstk hroom hdg ⟨Nat.zero_le _, Nat.zero_le _⟩
    exact ab_back hC rfl hrun hS hl wL (fun v hv => wst v (List.mem_of_mem_drop hv)) hLn (fun rv M' hK' => k _ _ hK')
  · have hrun := va_runVN (e := e) (below := below) (meth := meth) (As := as.map (ab_cv E.1)) (rest := (st.drop (r.2.2.2.1 + 1)).map (ab_cv E.1)) (g := F0 m pc ls (st.map (ab_cv E.1))) (H := H) (locs := locs) (cells := 0) (slots := 0) hS0 hmet ⟨va_cnB r.2.2.2.1 hts hgi rfl rfl rfl (hN _ hl0 rfl) (hts _ (ab_tn_tt g2)) ⟨g3.1, g3.2, hpar⟩ (ab_rooms hd g6), hts _ (ab_tn_tt g7), hts _ (ab_tn_tt g8)⟩ hpre rfl (by simpa using hasl) hl.1 hstk hroom hdg ⟨Nat.zero_le _, Nat.zero_le _⟩
    exact ab_back hC rfl hrun hS hl wL (fun v hv => wst v (List.mem_of_mem_drop hv)) hLn (fun rv M' hK' => k _ _ hK')
theorem ab_stat (hC : ab_Cx p s m args meth c E cc own nL) (hN : ab_NK s) {d : Nat} {G : List (Nat × ab_PT)} (hG : ab_Oks E d G) (hR : R = ab_rm d) {i : Nat} {r : Int × Nat × Nat × Nat × Nat} {K : List ab_V → ab_M → Prop} (hdg : decode cc pc = .ok (.invokestatic i, 3)) (hck : ab_cm own i 1 r = true) (h : ab_ca G r r.2.2.2.1 st M K)
    (k : ∀ (st' : List ab_V) (M' : ab_M), K st' M' → ab_Go p l e R s m args below meth c Q E nL (pc + 3) L st' M') : ab_Go p l e R s m args below meth c Q E nL pc L st M := by
  intro wd wL wst hLn H locs ls hP hS hl
  obtain ⟨hlen, hcat, d', Sp, hd, hok, hSp⟩ := ab_ca_go hC hN hG hR h wd wst
  obtain ⟨hx, hb, hml, hown, hts, hK, hlk, hsz⟩ := id hC
  obtain ⟨q, hq, hk0, -, hpar, hlink⟩ := ab_cm_ok hck
  obtain ⟨g1, g2, g3, g4, g5, g6⟩ := ab_rg hq
  have g7 := ab_rg1 hq hk0
  have wtake : ∀ v ∈ (st.take r.2.2.2.1).reverse, ab_wf v := fun v hv => wst v (List.mem_of_mem_take (List.mem_reverse.mp hv))
  have hmet := hok q hq _ M _ wd wtake hSp l
  generalize hrev : (st.take r.2.2.2.1).reverse = as at hmet wtake
  have hst : st = as.reverse ++ st.drop r.2.2.2.1 := by
    have h1 := ab_take_drop r.2.2.2.1 st
    rw [hrev] at h1
    exact h1
  have hasl : as.length = r.2.2.2.1 := by
    rw [← hrev, List.length_reverse, hlen]
  subst hR
  have hS0 : CallFix p m c cc nL s args ab_tn (ab_cn own) := ⟨hx, hb, hml, hown, hts⟩
  have hpre : PreS s H (ab_Pre E as M) (as.map (ab_cv E.1)) := ⟨ab_Pre_blind E _ M, ab_preU hC hN hP hS⟩
  have hstk : st.map (ab_cv E.1) = (as.map (ab_cv E.1)).reverse ++ (st.drop r.2.2.2.1).map (ab_cv E.1) := by
    conv => lhs; rw [hst]
    simp
  have hroom : 2 * (F0 m pc ls (st.map (ab_cv E.1))).monitorRoom + (((st.drop r.2.2.2.1).map (ab_cv E.1)).map fun v => v.category).sum ≤ 8 := by
    have := lv_room (m := m) (pc := pc) (ls := ls) (rest := st.map (ab_cv E.1)) (st := (st.drop r.2.2.2.1).map (ab_cv E.1)) (by rw [ab_cat_sum]; exact hcat)
    exact this
  have hgi : GoodIn ab_tn (ab_ws q) := ab_goodIn (fun w h => ab_tn_tt h) g1
  rcases hlink with ⟨-, hl0⟩ | ⟨-, host, hl0⟩
  · have hcb : CallB (ab_rm d) s args (ab_cn own) i q.1 q.2.1 q.2.2.1 q.2.2.2.1 (ab_ws q) (ab_rm d') 0 0 r.2.2.2.1 := callB_of r.2.2.2.1 hts hgi rfl rfl rfl (hts _ (ab_tn_tt g2)) (hts _ hl0) ⟨g3.1, g3.2, hpar⟩ (ab_rooms hd g6)
    have hrun := va_runS (e := e) (below := below) (meth := meth) (As := as.map (ab_cv E.1)) (rest := (st.drop r.2.2.2.1).map (ab_cv E.1)) (g := F0 m pc ls (st.map (ab_cv E.1))) (H := H) (locs := locs) (cells := 0) (slots := 0) hS0 hmet ⟨hcb, hts _ (ab_tn_tt g7)⟩ hpre rfl (by simpa using hasl) hl.1 hstk hroom hdg ⟨Nat.zero_le _, Nat.zero_le _⟩
    exact ab_back hC rfl hrun hS hl wL (fun v hv => wst v (List.mem_of_mem_drop hv)) hLn (fun rv M' hK' => k _ _ hK')
  · have hrun := va_runSN (e := e) (below := below) (meth := meth) (As := as.map (ab_cv E.1)) (rest := (st.drop r.2.2.2.1).map (ab_cv E.1)) (g := F0 m pc ls (st.map (ab_cv E.1))) (H := H) (locs := locs) (cells := 0) (slots := 0) hS0 hmet ⟨va_cnB r.2.2.2.1 hts hgi rfl rfl rfl (hN _ hl0 rfl) (hts _ (ab_tn_tt g2)) ⟨g3.1, g3.2, hpar⟩ (ab_rooms hd g6), hts _ (ab_tn_tt g7), trivial⟩ hpre rfl (by simpa using hasl) hl.1 hstk hroom hdg ⟨Nat.zero_le _, Nat.zero_le _⟩
    exact ab_back hC rfl hrun hS hl wL (fun v hv => wst v (List.mem_of_mem_drop hv)) hLn (fun rv M' hK' => k _ _ hK')
end AB
