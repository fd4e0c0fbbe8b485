/-! EACH INSTRUCTION that goes on to the next -/
set_option maxRecDepth 100000 in
theorem ab_cl74 : ab_cl.all (fun q => Nat.ble q.2.2 74) = true := by decide +kernel
theorem ab_k74 {ci k : Nat} {q : vw_C} (h : ab_cl[ci]? = some q) (hk : k < q.2.2) : k < 74 := by
  have := List.all_eq_true.mp ab_cl74 q (List.mem_of_getElem? h)
  have := Nat.le_of_ble_eq_true this
  omega
theorem ab_lk_ok {o c k : Nat} (ho : o < ab_n) (hc : ab_kd o = c) (hlt : c < 20) (hk : k < 74) : ab_lk o k = true := by
  have h1 := List.all_eq_true.mp (List.all_eq_true.mp ab_lk_all o (List.mem_range.mpr ho)) k (List.mem_range.mpr hk)
  rw [Bool.or_eq_true] at h1
  rcases h1 with h1 | h1
  · have := Nat.le_of_ble_eq_true h1
    omega
  · exact h1
theorem ab_wf2 {o c k d c' n' : Nat} (ho : o < ab_n) (hc : ab_kd o = c) (hlt : c < 20) (hk : k < 74) (hf : ab_ft c k = (2, d, c', n')) : ab_wf (.inr (.inr (.inr (d, c', n')))) := by
  have h := ab_lk_ok ho hc hlt hk
  unfold ab_lk at h
  rw [hc, hf] at h
  simp only [Bool.and_eq_true] at h
  exact ⟨Nat.le_of_ble_eq_true h.1, Nat.eq_of_beq_eq_true h.2.1, Nat.eq_of_beq_eq_true h.2.2⟩
theorem ab_wf4 {o c k d c' n' : Nat} (ho : o < ab_n) (hc : ab_kd o = c) (hlt : c < 20) (hk : k < 74) (hf : ab_ft c k = (4, d, c', n')) : ab_wf (.inr (.inr (.inr (o + d, c', ab_ln (o + d))))) := by
  have h := ab_lk_ok ho hc hlt hk
  unfold ab_lk at h
  rw [hc, hf] at h
  simp only [Bool.and_eq_true] at h
  exact ⟨Nat.le_of_ble_eq_true h.1, Nat.eq_of_beq_eq_true h.2, rfl⟩
theorem ab_wf5 {o c k d c' n' : Nat} (ho : o < ab_n) (hc : ab_kd o = c) (hlt : c < 20) (hk : k < 74) (hf : ab_ft c k = (5, d, c', n')) : ab_wf (.inr (.inr (.inr (o + d, c', n')))) := by
  have h := ab_lk_ok ho hc hlt hk
  unfold ab_lk at h
  rw [hc, hf] at h
  simp only [Bool.and_eq_true] at h
  exact ⟨Nat.le_of_ble_eq_true h.1, Nat.eq_of_beq_eq_true h.2.1, Nat.eq_of_beq_eq_true h.2.2⟩
theorem ab_wfS {o i : Nat} (ho : o < ab_n) (hc : ab_kd o = 25) (hi : i < ab_ln o) : ab_wf (.inr (.inr (.inr (o + 1 + 3 * i, 4, 0)))) := by
  have h := List.all_eq_true.mp ab_st_all o (List.mem_range.mpr ho)
  rw [hc] at h
  have h := List.all_eq_true.mp h i (List.mem_range.mpr hi)
  simp only [Bool.and_eq_true] at h
  exact ⟨Nat.le_of_ble_eq_true h.1, Nat.eq_of_beq_eq_true h.2.1, Nat.eq_of_beq_eq_true h.2.2⟩
theorem ab_rf_ref (S : Nat) {z : Int} (h : 0 ≤ z) : va_rf (ab_rf S z) = .ref (S + z.toNat) := by
  unfold ab_rf
  rw [if_neg (by omega)]
  rfl
section AB
variable {p : Program} {l : Launch} {e : Env} {R : Room} {s : State} {m : MethodId} {args : Array Value} {below : List Frame} {meth : Method} {c : Code} {Q : State → Prop} {E : ab_E} {cc : ByteArray} {own nL : Nat}
variable {pc : Nat} {L st : List ab_V} {M : ab_M}
set_option maxHeartbeats 4000000 in
theorem ab_st_go (hC : ab_Cx p s m args meth c E cc own nL) {I : Instr} {r : Int × Nat × Nat × Nat × Nat} {sw : List (Int × Nat)} {K : ab_K} (hdg : decode cc pc = .ok (I, ab_len I)) (hck : ab_cr own (pc, I, ab_len I, r, sw) = true) (h : ab_st I r L st M K)
    (k : ∀ (L' st' : List ab_V) (M' : ab_M), K L' st' M' → ab_Go p l e R s m args below meth c Q E nL (pc + ab_len I) L' st' M') : ab_Go p l e R s m args below meth c Q E nL pc L st M := by
  obtain ⟨hx, hb, hml, hown, hts, hK, hlk, hsz⟩ := id hC
  intro wd wL wst hLn H locs ls hP hS hl
  unfold ab_st at h
  split at h
  · exact lv_iconst hx hb hdg rfl (k _ _ _ h wd wL (ab_cons trivial wst) hLn H locs ls hP hS hl)
  · exact lv_bipush hx hb hdg (ab_bipush h.1) (k _ _ _ h.2 wd wL (ab_cons trivial wst) hLn H locs ls hP hS hl)
  · exact lv_sipush hx hb hdg (ab_sipush h.1) (k _ _ _ h.2 wd wL (ab_cons trivial wst) hLn H locs ls hP hS hl)
  · exact lv_lconst hx hb hdg (by rw [← Int64.ofInt_eq_ofNat]) (k _ _ _ h wd wL (ab_cons trivial wst) hLn H locs ls hP hS hl)
  · exact lv_ldc hx hb hown (hts _ (ab_tnm (List.mem_of_getElem? (of_decide_eq_true hck)) rfl)) hdg (k _ _ _ h wd wL (ab_cons trivial wst) hLn H locs ls hP hS hl)
  · exact lv_ldcw hx hb hown (hts _ (ab_tnm (List.mem_of_getElem? (of_decide_eq_true hck)) rfl)) hdg (k _ _ _ h wd wL (ab_cons trivial wst) hLn H locs ls hP hS hl)
  · exact lv_ldc2 hx hb hown (hts _ (ab_tnm (List.mem_of_getElem? (of_decide_eq_true hck)) rfl)) hdg (k _ _ _ h wd wL (ab_cons trivial wst) hLn H locs ls hP hS hl)
  · split at h
    · rename_i hv
      exact lv_iload hx hb hdg (ab_lval hl hv (fun h => by cases h)) (k _ _ _ h wd wL (ab_cons trivial wst) hLn H locs ls hP hS hl)
    · exact h.elim
  · split at h
    · rename_i hv
      exact lv_iload_n hx hb hdg rfl (ab_lval hl hv (fun h => by cases h)) (k _ _ _ h wd wL (ab_cons trivial wst) hLn H locs ls hP hS hl)
    · exact h.elim
  · split at h
    · rename_i hv
      exact lv_lload hx hb hdg (ab_lval hl hv (fun h => by cases h)) (k _ _ _ h wd wL (ab_cons trivial wst) hLn H locs ls hP hS hl)
    · exact h.elim
  · split at h
    · rename_i hv
      exact lv_lload_n hx hb hdg rfl (ab_lval hl hv (fun h => by cases h)) (k _ _ _ h wd wL (ab_cons trivial wst) hLn H locs ls hP hS hl)
    · exact h.elim
  · split at h
    · rename_i hv
      exact lv_aload hx hb hdg (ab_lval hl hv (fun h => by cases h)) (k _ _ _ h wd wL (ab_cons (ab_lwf wL hv (fun h => by cases h)) wst) hLn H locs ls hP hS hl)
    · exact h.elim
  · split at h
    · rename_i hv
      exact lv_aload_n hx hb hdg rfl (ab_lval hl hv (fun h => by cases h)) (k _ _ _ h wd wL (ab_cons (ab_lwf wL hv (fun h => by cases h)) wst) hLn H locs ls hP hS hl)
    · exact h.elim
  · split at h
    · rename_i i _ _ _
      cases hi : Nat.ble (i + 1) L.length with
      | false => rw [hi] at h; exact h.elim
      | true =>
        rw [hi] at h
        have hi := Nat.le_of_ble_eq_true hi
        exact lv_istore hx hb hdg hl (by omega) rfl (fun ls' hl' => k _ _ _ h wd (ab_s1_wf wL trivial) (ab_tail wst) (by rw [ab_s1_len]; exact hLn) H locs ls' hP hS (ab_lst1 hLn (by omega) hl'))
    · exact h.elim
  · split at h
    · rename_i i _ _ _
      cases hi : Nat.ble (i.val + 1) L.length with
      | false => rw [hi] at h; exact h.elim
      | true =>
        rw [hi] at h
        have hi := Nat.le_of_ble_eq_true hi
        exact lv_istore_n hx hb hdg rfl hl (by omega) rfl (fun ls' hl' => k _ _ _ h wd (ab_s1_wf wL trivial) (ab_tail wst) (by rw [ab_s1_len]; exact hLn) H locs ls' hP hS (ab_lst1 hLn (by omega) hl'))
    · exact h.elim
  · split at h
    · rename_i i _ _ _
      cases hi : Nat.ble (i + 2) L.length with
      | false => rw [hi] at h; exact h.elim
      | true =>
        rw [hi] at h
        have hi := Nat.le_of_ble_eq_true hi
        exact lv_lstore hx hb hdg hl (by omega) rfl (fun ls' hl' => k _ _ _ h wd (ab_s2_wf wL trivial) (ab_tail wst) (by rw [ab_s2_len]; exact hLn) H locs ls' hP hS (ab_lst2 hLn (by omega) hl'))
    · exact h.elim
  · split at h
    · rename_i i _ _ _
      cases hi : Nat.ble (i.val + 2) L.length with
      | false => rw [hi] at h; exact h.elim
      | true =>
        rw [hi] at h
        have hi := Nat.le_of_ble_eq_true hi
        exact lv_lstore_n hx hb hdg rfl hl (by omega) rfl (fun ls' hl' => k _ _ _ h wd (ab_s2_wf wL trivial) (ab_tail wst) (by rw [ab_s2_len]; exact hLn) H locs ls' hP hS (ab_lst2 hLn (by omega) hl'))
    · exact h.elim
  · split at h
    · rename_i i _ _ _
      cases hi : Nat.ble (i + 1) L.length with
      | false => rw [hi] at h; exact h.elim
      | true =>
        rw [hi] at h
        have hi := Nat.le_of_ble_eq_true hi
        exact lv_astore hx hb hdg hl (by omega) rfl (fun ls' hl' => k _ _ _ h wd (ab_s1_wf wL (ab_head wst)) (ab_tail wst) (by rw [ab_s1_len]; exact hLn) H locs ls' hP hS (ab_lst1 hLn (by omega) hl'))
    · exact h.elim
  · split at h
    · rename_i i _ _ _
      cases hi : Nat.ble (i.val + 1) L.length with
      | false => rw [hi] at h; exact h.elim
      | true =>
        rw [hi] at h
        have hi := Nat.le_of_ble_eq_true hi
        exact lv_astore_n hx hb hdg rfl hl (by omega) rfl (fun ls' hl' => k _ _ _ h wd (ab_s1_wf wL (ab_head wst)) (ab_tail wst) (by rw [ab_s1_len]; exact hLn) H locs ls' hP hS (ab_lst1 hLn (by omega) hl'))
    · exact h.elim
  · split at h
    · rename_i i d _ z hv
      have hlt : i < L.length := ab_ld_lt (by rw [hv]; exact fun h => by cases h)
      have hmem : (i, Value.int (Int32.ofInt z)) ∈ ab_lv E.1 L := ab_lv_mem.mpr ⟨hlt, (by show ab_ld L i ≠ _; rw [hv]; exact fun h => (by cases h)), (by show _ = ab_cv E.1 (ab_ld L i); rw [hv]; rfl)⟩
      obtain ⟨j, hj⟩ := List.getElem?_of_mem hmem
      exact lv_iinc hx hb hdg hl hj (ab_add z d) (by omega) rfl (fun ls' hl' => k _ _ _ h wd (ab_s1_wf wL trivial) wst (by rw [ab_s1_len]; exact hLn) H locs ls' hP hS (ab_lst1 hLn (by omega) hl'))
    · exact h.elim
  · split at h
    · exact lv_iadd hx hb hdg (by rw [ab_add]; exact k _ _ _ h wd wL (ab_cons trivial (ab_tail (ab_tail wst))) hLn H locs ls hP hS hl)
    · exact h.elim
  · split at h
    · exact lv_isub hx hb hdg (by rw [ab_sub]; exact k _ _ _ h wd wL (ab_cons trivial (ab_tail (ab_tail wst))) hLn H locs ls hP hS hl)
    · exact h.elim
  · split at h
    · exact lv_imul hx hb hdg (by rw [ab_mul]; exact k _ _ _ h wd wL (ab_cons trivial (ab_tail (ab_tail wst))) hLn H locs ls hP hS hl)
    · exact h.elim
  · split at h
    · rename_i a b _
      refine lv_idiv hx hb hdg (fun hz => ?_) (by rw [ab_div h.1]; exact k _ _ _ h.2 wd wL (ab_cons trivial (ab_tail (ab_tail wst))) hLn H locs ls hP hS hl)
      have h2 := congrArg Int32.toInt hz
      rw [ab_i32 ⟨by omega, h.1.2.2.2⟩, Int32.toInt_zero] at h2
      omega
    · exact h.elim
  · split at h
    · rename_i a b _
      refine lv_irem hx hb hdg (fun hz => ?_) (by rw [ab_rem h.1]; exact k _ _ _ h.2 wd wL (ab_cons trivial (ab_tail (ab_tail wst))) hLn H locs ls hP hS hl)
      have h2 := congrArg Int32.toInt hz
      rw [ab_i32 ⟨by omega, h.1.2.2.2⟩, Int32.toInt_zero] at h2
      omega
    · exact h.elim
  · split at h
    · exact lv_iand hx hb hdg (by rw [ab_and_i]; exact k _ _ _ h wd wL (ab_cons trivial (ab_tail (ab_tail wst))) hLn H locs ls hP hS hl)
    · exact h.elim
  · split at h
    · exact lv_ior hx hb hdg (by rw [ab_or_i]; exact k _ _ _ h wd wL (ab_cons trivial (ab_tail (ab_tail wst))) hLn H locs ls hP hS hl)
    · exact h.elim
  · split at h
    · exact lv_ixor hx hb hdg (by rw [ab_xor_i]; exact k _ _ _ h wd wL (ab_cons trivial (ab_tail (ab_tail wst))) hLn H locs ls hP hS hl)
    · exact h.elim
  · split at h
    · exact lv_ishl hx hb hdg (by rw [ab_shl_i]; exact k _ _ _ h wd wL (ab_cons trivial (ab_tail (ab_tail wst))) hLn H locs ls hP hS hl)
    · exact h.elim
  · split at h
    · exact lv_ishr hx hb hdg (by rw [ab_shr_i]; exact k _ _ _ h wd wL (ab_cons trivial (ab_tail (ab_tail wst))) hLn H locs ls hP hS hl)
    · exact h.elim
  · split at h
    · exact lv_iushr hx hb hdg (ab_ushr_i _ _) (k _ _ _ h wd wL (ab_cons trivial (ab_tail (ab_tail wst))) hLn H locs ls hP hS hl)
    · exact h.elim
  · split at h
    · exact lv_ladd hx hb hdg (by rw [ab_addl]; exact k _ _ _ h wd wL (ab_cons trivial (ab_tail (ab_tail wst))) hLn H locs ls hP hS hl)
    · exact h.elim
  · split at h
    · exact lv_lsub hx hb hdg (by rw [ab_subl]; exact k _ _ _ h wd wL (ab_cons trivial (ab_tail (ab_tail wst))) hLn H locs ls hP hS hl)
    · exact h.elim
  · split at h
    · exact lv_lmul hx hb hdg (by rw [ab_mull]; exact k _ _ _ h wd wL (ab_cons trivial (ab_tail (ab_tail wst))) hLn H locs ls hP hS hl)
    · exact h.elim
  · split at h
    · exact lv_land hx hb hdg (by rw [ab_land_i]; exact k _ _ _ h wd wL (ab_cons trivial (ab_tail (ab_tail wst))) hLn H locs ls hP hS hl)
    · exact h.elim
  · split at h
    · exact lv_lor hx hb hdg (by rw [ab_lor_i]; exact k _ _ _ h wd wL (ab_cons trivial (ab_tail (ab_tail wst))) hLn H locs ls hP hS hl)
    · exact h.elim
  · split at h
    · exact lv_lxor hx hb hdg (by rw [ab_lxor_i]; exact k _ _ _ h wd wL (ab_cons trivial (ab_tail (ab_tail wst))) hLn H locs ls hP hS hl)
    · exact h.elim
  · split at h
    · exact lv_lshl hx hb hdg (ab_lshl_i _ _) (k _ _ _ h wd wL (ab_cons trivial (ab_tail (ab_tail wst))) hLn H locs ls hP hS hl)
    · exact h.elim
  · split at h
    · exact lv_lshr hx hb hdg (ab_lshr_i _ _) (k _ _ _ h wd wL (ab_cons trivial (ab_tail (ab_tail wst))) hLn H locs ls hP hS hl)
    · exact h.elim
  · split at h
    · exact lv_lushr hx hb hdg (ab_lushr_i _ _) (k _ _ _ h wd wL (ab_cons trivial (ab_tail (ab_tail wst))) hLn H locs ls hP hS hl)
    · exact h.elim
  · split at h
    · exact W.lcmp hx hb hdg (by rw [ab_lgc h.1]; exact k _ _ _ h.2 wd wL (ab_cons trivial (ab_tail (ab_tail wst))) hLn H locs ls hP hS hl)
    · exact h.elim
  · split at h
    · exact lv_i2l hx hb hdg (ab_i2l h.1) (k _ _ _ h.2 wd wL (ab_cons trivial (ab_tail wst)) hLn H locs ls hP hS hl)
    · exact h.elim
  · split at h
    · exact lv_l2i hx hb hdg (ab_l2i _) (k _ _ _ h wd wL (ab_cons trivial (ab_tail wst)) hLn H locs ls hP hS hl)
    · exact h.elim
  · split at h
    · exact lv_i2b hx hb hdg (ab_i2b h.1) (k _ _ _ h.2 wd wL (ab_cons trivial (ab_tail wst)) hLn H locs ls hP hS hl)
    · exact h.elim
  · split at h
    · exact lv_i2c hx hb hdg (ab_i2c h.1) (k _ _ _ h.2 wd wL (ab_cons trivial (ab_tail wst)) hLn H locs ls hP hS hl)
    · exact h.elim
  · split at h
    · exact lv_dup hx hb hdg rfl (k _ _ _ h wd wL (ab_cons trivial wst) hLn H locs ls hP hS hl)
    · exact lv_dup hx hb hdg rfl (k _ _ _ h wd wL (ab_cons (ab_head wst) wst) hLn H locs ls hP hS hl)
    · exact h.elim
  · split at h
    · exact lv_dup2_11 hx hb hdg rfl rfl (k _ _ _ h wd wL (ab_cons trivial (ab_cons (ab_head (ab_tail wst)) wst)) hLn H locs ls hP hS hl)
    · exact h.elim
  · split at h
    · exact lv_pop hx hb hdg rfl (k _ _ _ h wd wL (ab_tail wst) hLn H locs ls hP hS hl)
    · exact lv_pop hx hb hdg rfl (k _ _ _ h wd wL (ab_tail wst) hLn H locs ls hP hS hl)
    · exact h.elim
  · split at h
    · exact lv_pop2_2 hx hb hdg rfl (k _ _ _ h wd wL (ab_tail wst) hLn H locs ls hP hS hl)
    · exact h.elim
  · -- getfield
    split at h
    · rename_i o ci n' st'
      cases hbq : Nat.beq ci r.2.2.1 with
      | false => rw [hbq] at h; exact h.elim
      | true =>
        rw [hbq] at h
        have hce := Nat.eq_of_beq_eq_true hbq
        subst hce
        have hw := ab_head wst
        obtain ⟨qc, hqc, hkk, -⟩ := ab_cf_ok hck
        have h74 := ab_k74 hqc hkk
        have hlt : r.2.2.1 < 20 := (ab_clok _ _ hqc).2.2.2
        refine ab_rd hC hdg hck hw hP ?_
        simp only [cond_true] at h
        split at h
        · rename_i hf
          rw [hf]
          exact k _ _ _ h wd wL (ab_cons trivial (ab_tail wst)) hLn H locs ls hP hS hl
        · rename_i hf
          rw [hf]
          exact k _ _ _ h wd wL (ab_cons trivial (ab_tail wst)) hLn H locs ls hP hS hl
        · rename_i d c' n2 hf
          have hM := wd.1 o r.2.2.2.1 hw.1 (by rw [hw.2.1, hf])
          rw [hw.2.1, hf] at hM
          have hM : M o r.2.2.2.1 = (d : Int) := hM
          have e2 : ab_fv E.1 2 (d : Int) = .ref (E.1 + d) := by
            show va_rf (ab_rf E.1 (d : Int)) = _
            rw [ab_rf_ref E.1 (by omega), Int.toNat_natCast]
          rw [hf, hM]
          show W p l e R s m args below meth c H locs 0 0 Q (F0 m (pc + 3) ls (ab_fv E.1 2 (d : Int) :: _))
          rw [e2]
          exact k _ _ _ h wd wL (ab_cons (ab_wf2 hw.1 hw.2.1 hlt h74 hf) (ab_tail wst)) hLn H locs ls hP hS hl
        · rename_i d c' n2 hf
          have e2 : ab_fv E.1 3 (M o r.2.2.2.1) = .ref (E.1 + (M o r.2.2.2.1).toNat) := ab_rf_ref E.1 h.1.1
          rw [hf]
          show W p l e R s m args below meth c H locs 0 0 Q (F0 m (pc + 3) ls (ab_fv E.1 3 (M o r.2.2.2.1) :: _))
          rw [e2]
          exact k _ _ _ h.2 wd wL (ab_cons h.1.2 (ab_tail wst)) hLn H locs ls hP hS hl
        · rename_i d c' n2 hf
          have hM := wd.2.1 o r.2.2.2.1 hw.1 (Or.inl (by rw [hw.2.1, hf]))
          rw [hw.2.1, hf] at hM
          have hM : M o r.2.2.2.1 = ((o + d : Nat) : Int) := hM
          have e2 : ab_fv E.1 4 ((o + d : Nat) : Int) = .ref (E.1 + (o + d)) := by
            show va_rf (ab_rf E.1 ((o + d : Nat) : Int)) = _
            rw [ab_rf_ref E.1 (by omega), Int.toNat_natCast]
          rw [hf, hM]
          show W p l e R s m args below meth c H locs 0 0 Q (F0 m (pc + 3) ls (ab_fv E.1 4 ((o + d : Nat) : Int) :: _))
          rw [e2]
          exact k _ _ _ h wd wL (ab_cons (ab_wf4 hw.1 hw.2.1 hlt h74 hf) (ab_tail wst)) hLn H locs ls hP hS hl
        · rename_i d c' n2 hf
          have hM := wd.2.1 o r.2.2.2.1 hw.1 (Or.inr (by rw [hw.2.1, hf]))
          rw [hw.2.1, hf] at hM
          have hM : M o r.2.2.2.1 = ((o + d : Nat) : Int) := hM
          have e2 : ab_fv E.1 5 ((o + d : Nat) : Int) = .ref (E.1 + (o + d)) := by
            show va_rf (ab_rf E.1 ((o + d : Nat) : Int)) = _
            rw [ab_rf_ref E.1 (by omega), Int.toNat_natCast]
          rw [hf, hM]
          show W p l e R s m args below meth c H locs 0 0 Q (F0 m (pc + 3) ls (ab_fv E.1 5 ((o + d : Nat) : Int) :: _))
          rw [e2]
          exact k _ _ _ h wd wL (ab_cons (ab_wf5 hw.1 hw.2.1 hlt h74 hf) (ab_tail wst)) hLn H locs ls hP hS hl
        · exact h.elim
    · exact h.elim
  · -- putfield
    split at h
    · rename_i z o ci n' st'
      cases hbq : Nat.beq ci r.2.2.1 with
      | false => rw [hbq] at h; exact h.elim
      | true =>
        rw [hbq] at h
        have hce := Nat.eq_of_beq_eq_true hbq
        subst hce
        have hw := ab_head (ab_tail wst)
        obtain ⟨qc, hqc, hkk, -⟩ := ab_cf_ok hck
        have hlt : r.2.2.1 < 20 := (ab_clok _ _ hqc).2.2.2
        have h25 : ab_kd o ≠ 25 := by rw [hw.2.1]; omega
        simp only [cond_true] at h
        split at h
        · rename_i hf
          have := ab_wr (l := l) (e := e) (R := R) (below := below) (Q := Q) (locs := locs) (ls := ls) (rest := st'.map (ab_cv E.1)) (z := z) hC hdg hck hw hP hS (Or.inl (by rw [hf]))
            (fun H1 locs1 a1 a2 => k _ _ _ h (ab_wd_up wd (by rw [hw.2.1, hf]; exact ⟨by simp, by simp, by simp⟩) h25) wL (ab_tail (ab_tail wst)) hLn H1 locs1 ls a1 a2 hl)
          rw [hf] at this
          exact this
        · rename_i hf
          have := ab_wr (l := l) (e := e) (R := R) (below := below) (Q := Q) (locs := locs) (ls := ls) (rest := st'.map (ab_cv E.1)) (z := z) hC hdg hck hw hP hS (Or.inr (Or.inl ⟨by rw [hf], h.1⟩))
            (fun H1 locs1 a1 a2 => k _ _ _ h.2 (ab_wd_up wd (by rw [hw.2.1, hf]; exact ⟨by simp, by simp, by simp⟩) h25) wL (ab_tail (ab_tail wst)) hLn H1 locs1 ls a1 a2 hl)
          rw [hf] at this
          exact this
        · exact h.elim
    · rename_i o' c' n2 o ci n' st'
      cases hbq : Nat.beq ci r.2.2.1 with
      | false => rw [hbq] at h; exact h.elim
      | true =>
        rw [hbq] at h
        have hce := Nat.eq_of_beq_eq_true hbq
        subst hce
        have hw := ab_head (ab_tail wst)
        obtain ⟨qc, hqc, hkk, -⟩ := ab_cf_ok hck
        have hlt : r.2.2.1 < 20 := (ab_clok _ _ hqc).2.2.2
        have h25 : ab_kd o ≠ 25 := by rw [hw.2.1]; omega
        simp only [cond_true] at h
        split at h
        · rename_i d3 c3 n3 hf
          cases hb3 : Nat.beq c' c3 with
          | false => rw [hb3] at h; exact h.elim
          | true =>
            rw [hb3] at h
            have := ab_wr (l := l) (e := e) (R := R) (below := below) (Q := Q) (locs := locs) (ls := ls) (rest := st'.map (ab_cv E.1)) (z := (o' : Int)) hC hdg hck hw hP hS (Or.inr (Or.inr ⟨by rw [hf], by omega⟩))
              (fun H1 locs1 a1 a2 => k _ _ _ h (ab_wd_up wd (by rw [hw.2.1, hf]; exact ⟨by simp, by simp, by simp⟩) h25) wL (ab_tail (ab_tail wst)) hLn H1 locs1 ls a1 a2 hl)
            rw [hf] at this
            have e2 : ab_fv E.1 3 (o' : Int) = .ref (E.1 + o') := by
              show va_rf (ab_rf E.1 (o' : Int)) = _
              rw [ab_rf_ref E.1 (by omega), Int.toNat_natCast]
            have this : W p l e R s m args below meth c H locs 0 0 Q (F0 m pc ls (ab_fv E.1 3 (o' : Int) :: .ref (E.1 + o) :: st'.map (ab_cv E.1))) := this
            rw [e2] at this
            exact this
        · exact h.elim
    · exact h.elim
  · -- arraylength
    split at h
    · rename_i o ci n' st'
      cases hbq : Nat.ble 20 ci with
      | false => rw [hbq] at h; exact h.elim
      | true =>
        rw [hbq] at h
        have hle := Nat.le_of_ble_eq_true hbq
        have hw := ab_head wst
        have hk1 := List.all_eq_true.mp ab_kd_all o (List.mem_range.mpr hw.1)
        simp only [Bool.or_eq_true, Bool.and_eq_true, Nat.ble_eq, Nat.beq_eq, hw.2.1] at hk1
        obtain ⟨x, t, ty, hx1, hx2, ht⟩ : ∃ (x : vp_A) (t : Nat) (ty : FieldType), ab_ent E M o = .inl (E.2.2 ci, x) ∧ x.1 = n' ∧ (ab_tys E.2.2)[t]? = some (E.2.2 ci, ty) := by
          have h9 : ci = 20 ∨ ci = 21 ∨ ci = 22 ∨ ci = 23 ∨ ci = 24 ∨ ci = 25 ∨ ci = 26 := by omega
          rcases h9 with h9 | h9 | h9 | h9 | h9 | h9 | h9
          · subst h9; exact ⟨_, 0, _, ab_ent_i E M hw.2.1 (by omega), hw.2.2, rfl⟩
          · subst h9; exact ⟨_, 1, _, ab_ent_l E M hw.2.1, hw.2.2, rfl⟩
          · subst h9; exact ⟨_, 2, _, ab_ent_i E M hw.2.1 (by omega), hw.2.2, rfl⟩
          · subst h9; exact ⟨_, 3, _, ab_ent_i E M hw.2.1 (by omega), hw.2.2, rfl⟩
          · subst h9; exact ⟨_, 4, _, ab_ent_i E M hw.2.1 (by omega), hw.2.2, rfl⟩
          · subst h9; exact ⟨_, 5, _, ab_ent_q E M hw.2.1 (by omega), hw.2.2, rfl⟩
          · subst h9; exact ⟨_, 6, _, ab_ent_q E M hw.2.1 (by omega), hw.2.2, rfl⟩
        have he : (ab_W E ab_n M)[o]? = some (E.1 + o, .inl (E.2.2 ci, x)) := by rw [ab_W_get E M hw.1, hx1]
        exact va_alen hx hb hK hP o t he ht (v := Int32.ofInt (n' : Int)) (by rw [hx2, Int32.ofInt_eq_ofNat]) hdg (k _ _ _ h wd wL (ab_cons trivial (ab_tail wst)) hLn H locs ls hP hS hl)
    · exact h.elim
  · -- va_iald
    split at h
    · rename_i i o ci n' st'
      cases hbq : Nat.beq ci 20 with
      | false => rw [hbq] at h; exact h.elim
      | true =>
        rw [hbq] at h
        have hce := Nat.eq_of_beq_eq_true hbq
        subst hce
        have hw := ab_head (ab_tail wst)
        have hn : n' < 2 ^ 31 := by rw [← hw.2.2]; exact ab_ln_small hw.1
        have he : (ab_W E ab_n M)[o]? = some (E.1 + o, .inl (E.2.2 20, n', .inl fun j => Int32.ofInt (M o j))) := by rw [ab_W_get E M hw.1, ab_ent_i E M hw.2.1 (by omega), hw.2.2]
        have h : (0 ≤ i ∧ i < (n' : Int)) ∧ _ := h
        refine va_iald hx hb hK hP o 0 he rfl (ab_in h.1 hn) hdg ?_
        rw [ab_cl0 h.1 hn]
        exact k _ _ _ h.2 wd wL (ab_cons trivial (ab_tail (ab_tail wst))) hLn H locs ls hP hS hl
    · exact h.elim
  · -- va_lald
    split at h
    · rename_i i o ci n' st'
      cases hbq : Nat.beq ci 21 with
      | false => rw [hbq] at h; exact h.elim
      | true =>
        rw [hbq] at h
        have hce := Nat.eq_of_beq_eq_true hbq
        subst hce
        have hw := ab_head (ab_tail wst)
        have hn : n' < 2 ^ 31 := by rw [← hw.2.2]; exact ab_ln_small hw.1
        have he : (ab_W E ab_n M)[o]? = some (E.1 + o, .inl (E.2.2 21, n', .inr (.inl fun j => Int64.ofInt (M o j)))) := by rw [ab_W_get E M hw.1, ab_ent_l E M hw.2.1, hw.2.2]
        have h : (0 ≤ i ∧ i < (n' : Int)) ∧ _ := h
        refine va_lald hx hb hK hP o 1 he rfl (ab_in h.1 hn) hdg ?_
        rw [ab_cl0 h.1 hn]
        exact k _ _ _ h.2 wd wL (ab_cons trivial (ab_tail (ab_tail wst))) hLn H locs ls hP hS hl
    · exact h.elim
  · -- baload
    split at h
    · rename_i i o ci n' st'
      cases hbq : (Nat.beq ci 22 || Nat.beq ci 23) with
      | false => rw [hbq] at h; exact h.elim
      | true =>
        rw [hbq] at h
        have h : (0 ≤ i ∧ i < (n' : Int)) ∧ _ := h
        have hw := ab_head (ab_tail wst)
        have hn : n' < 2 ^ 31 := by rw [← hw.2.2]; exact ab_ln_small hw.1
        rw [Bool.or_eq_true] at hbq
        rcases hbq with hbq | hbq
        · have hce := Nat.eq_of_beq_eq_true hbq
          subst hce
          have he : (ab_W E ab_n M)[o]? = some (E.1 + o, .inl (E.2.2 22, n', .inl fun j => Int32.ofInt (M o j))) := by rw [ab_W_get E M hw.1, ab_ent_i E M hw.2.1 (by omega), hw.2.2]
          refine va_bald hx hb hK hP o 2 he rfl (ab_in h.1 hn) hdg ?_
          rw [ab_cl0 h.1 hn]
          exact k _ _ _ h.2 wd wL (ab_cons trivial (ab_tail (ab_tail wst))) hLn H locs ls hP hS hl
        · have hce := Nat.eq_of_beq_eq_true hbq
          subst hce
          have he : (ab_W E ab_n M)[o]? = some (E.1 + o, .inl (E.2.2 23, n', .inl fun j => Int32.ofInt (M o j))) := by rw [ab_W_get E M hw.1, ab_ent_i E M hw.2.1 (by omega), hw.2.2]
          refine va_zald hx hb hK hP o 3 he rfl (ab_in h.1 hn) hdg ?_
          rw [ab_cl0 h.1 hn]
          exact k _ _ _ h.2 wd wL (ab_cons trivial (ab_tail (ab_tail wst))) hLn H locs ls hP hS hl
    · exact h.elim
  · -- va_cald
    split at h
    · rename_i i o ci n' st'
      cases hbq : Nat.beq ci 24 with
      | false => rw [hbq] at h; exact h.elim
      | true =>
        rw [hbq] at h
        have hce := Nat.eq_of_beq_eq_true hbq
        subst hce
        have hw := ab_head (ab_tail wst)
        have hn : n' < 2 ^ 31 := by rw [← hw.2.2]; exact ab_ln_small hw.1
        have he : (ab_W E ab_n M)[o]? = some (E.1 + o, .inl (E.2.2 24, n', .inl fun j => Int32.ofInt (M o j))) := by rw [ab_W_get E M hw.1, ab_ent_i E M hw.2.1 (by omega), hw.2.2]
        have h : (0 ≤ i ∧ i < (n' : Int)) ∧ _ := h
        refine va_cald hx hb hK hP o 4 he rfl (ab_in h.1 hn) hdg ?_
        rw [ab_cl0 h.1 hn]
        exact k _ _ _ h.2 wd wL (ab_cons trivial (ab_tail (ab_tail wst))) hLn H locs ls hP hS hl
    · exact h.elim
  · -- aaload
    split at h
    · rename_i i o ci n' st'
      have hw := ab_head (ab_tail wst)
      have hn : n' < 2 ^ 31 := by rw [← hw.2.2]; exact ab_ln_small hw.1
      cases hbq : Nat.beq ci 25 with
      | true =>
        rw [hbq] at h
        have h : (0 ≤ i ∧ i < (n' : Int)) ∧ _ := h
        have hce := Nat.eq_of_beq_eq_true hbq
        subst hce
        have he : (ab_W E ab_n M)[o]? = some (E.1 + o, .inl (E.2.2 25, n', .inr (.inr (.inr (.inr fun j => ab_rf E.1 (M o j)))))) := by rw [ab_W_get E M hw.1, ab_ent_q E M hw.2.1 (by omega), hw.2.2]
        have hlt : i.toNat < ab_ln o := by rw [hw.2.2]; omega
        refine va_aldq hx hb hK hP o 5 he rfl (ab_in h.1 hn) hdg ?_
        rw [ab_cl0 h.1 hn, wd.2.2 o i.toNat hw.1 hw.2.1 hlt, ab_rf_ref E.1 (by omega), Int.toNat_natCast]
        exact k _ _ _ h.2 wd wL (ab_cons (ab_wfS hw.1 hw.2.1 hlt) (ab_tail (ab_tail wst))) hLn H locs ls hP hS hl
      | false =>
        rw [hbq] at h
        simp only [cond_false] at h
        cases hbq2 : Nat.beq ci 26 with
        | false => rw [hbq2] at h; exact h.elim
        | true =>
          rw [hbq2] at h
          have h : ((0 ≤ i ∧ i < (n' : Int)) ∧ 0 ≤ M o i.toNat ∧ ab_wf (.inr (.inr (.inr ((M o i.toNat).toNat, 6, 0))))) ∧ _ := h
          have hce := Nat.eq_of_beq_eq_true hbq2
          subst hce
          have he : (ab_W E ab_n M)[o]? = some (E.1 + o, .inl (E.2.2 26, n', .inr (.inr (.inr (.inr fun j => ab_rf E.1 (M o j)))))) := by rw [ab_W_get E M hw.1, ab_ent_q E M hw.2.1 (by omega), hw.2.2]
          refine va_aldq hx hb hK hP o 6 he rfl (ab_in h.1.1 hn) hdg ?_
          rw [ab_cl0 h.1.1 hn, ab_rf_ref E.1 h.1.2.1]
          exact k _ _ _ h.2 wd wL (ab_cons h.1.2.2 (ab_tail (ab_tail wst))) hLn H locs ls hP hS hl
    · exact h.elim
  · -- iastore
    split at h
    · rename_i z i o ci n' st'
      have hw := ab_head (ab_tail (ab_tail wst))
      have hn : n' < 2 ^ 31 := by rw [← hw.2.2]; exact ab_ln_small hw.1
      cases hbq : Nat.beq ci 20 with
      | false => rw [hbq] at h; exact h.elim
      | true =>
        rw [hbq] at h
        have h : (0 ≤ i ∧ i < (n' : Int)) ∧ _ := h
        have hce := Nat.eq_of_beq_eq_true hbq
        subst hce
        have hin : 0 ≤ i ∧ i < (n' : Int) := h.1
        have he : (ab_W E ab_n M)[o]? = some (E.1 + o, .inl (E.2.2 20, n', .inl fun j => Int32.ofInt (M o j))) := by rw [ab_W_get E M hw.1, ab_ent_i E M hw.2.1 (by omega), hw.2.2]
        refine va_iast hx hb hK hP (ab_D E ab_n M) hS o 0 he rfl (ab_in hin hn) hdg (fun H1 locs1 a1 a2 a3 => ?_)
        rw [ab_cl0 hin hn, ab_upd_i, ab_W_set E (M' := ab_up M o i.toNat z) hw.1 (by rw [ab_ent_i E _ hw.2.1 (by omega), hw.2.2]) (fun o' h j => (ab_up_o h j).symm)] at a1
        exact k _ _ _ h.2 (ab_wd_arr wd (by rw [hw.2.1]; omega) (by rw [hw.2.1]; omega)) wL (ab_tail (ab_tail (ab_tail wst))) hLn H1 locs1 ls a1 a3 hl
    · exact h.elim
  · -- lastore
    split at h
    · rename_i z i o ci n' st'
      have hw := ab_head (ab_tail (ab_tail wst))
      have hn : n' < 2 ^ 31 := by rw [← hw.2.2]; exact ab_ln_small hw.1
      cases hbq : Nat.beq ci 21 with
      | false => rw [hbq] at h; exact h.elim
      | true =>
        rw [hbq] at h
        have h : (0 ≤ i ∧ i < (n' : Int)) ∧ _ := h
        have hce := Nat.eq_of_beq_eq_true hbq
        subst hce
        have hin : 0 ≤ i ∧ i < (n' : Int) := h.1
        have he : (ab_W E ab_n M)[o]? = some (E.1 + o, .inl (E.2.2 21, n', .inr (.inl fun j => Int64.ofInt (M o j)))) := by rw [ab_W_get E M hw.1, ab_ent_l E M hw.2.1, hw.2.2]
        refine va_last hx hb hK hP (ab_D E ab_n M) hS o 1 he rfl (ab_in hin hn) hdg (fun H1 locs1 a1 a2 a3 => ?_)
        rw [ab_cl0 hin hn, ab_upd_l, ab_W_set E (M' := ab_up M o i.toNat z) hw.1 (by rw [ab_ent_l E _ hw.2.1, hw.2.2]) (fun o' h j => (ab_up_o h j).symm)] at a1
        exact k _ _ _ h.2 (ab_wd_arr wd (by rw [hw.2.1]; omega) (by rw [hw.2.1]; omega)) wL (ab_tail (ab_tail (ab_tail wst))) hLn H1 locs1 ls a1 a3 hl
    · exact h.elim
  · -- bastore
    split at h
    · rename_i z i o ci n' st'
      have hw := ab_head (ab_tail (ab_tail wst))
      have hn : n' < 2 ^ 31 := by rw [← hw.2.2]; exact ab_ln_small hw.1
      cases hbq : Nat.beq ci 22 with
      | false =>
        rw [hbq] at h
        simp only [cond_false] at h
        cases hbq2 : Nat.beq ci 23 with
        | false => rw [hbq2] at h; exact h.elim
        | true =>
          rw [hbq2] at h
          have h : ((0 ≤ i ∧ i < (n' : Int)) ∧ (z = 0 ∨ z = 1)) ∧ _ := h
          have hce := Nat.eq_of_beq_eq_true hbq2
          subst hce
          have hin : 0 ≤ i ∧ i < (n' : Int) := h.1.1
          have he : (ab_W E ab_n M)[o]? = some (E.1 + o, .inl (E.2.2 23, n', .inl fun j => Int32.ofInt (M o j))) := by rw [ab_W_get E M hw.1, ab_ent_i E M hw.2.1 (by omega), hw.2.2]
          refine va_zast hx hb hK hP (ab_D E ab_n M) hS o 3 he rfl (ab_in hin hn) hdg (fun H1 locs1 a1 a2 a3 => ?_)
          rw [ab_cl0 hin hn, ab_narz2 h.1.2, ab_upd_i, ab_W_set E (M' := ab_up M o i.toNat z) hw.1 (by rw [ab_ent_i E _ hw.2.1 (by omega), hw.2.2]) (fun o' h j => (ab_up_o h j).symm)] at a1
          exact k _ _ _ h.2 (ab_wd_arr wd (by rw [hw.2.1]; omega) (by rw [hw.2.1]; omega)) wL (ab_tail (ab_tail (ab_tail wst))) hLn H1 locs1 ls a1 a3 hl
      | true =>
        rw [hbq] at h
        have h : ((0 ≤ i ∧ i < (n' : Int)) ∧ -128 ≤ z ∧ z < 128) ∧ _ := h
        have hce := Nat.eq_of_beq_eq_true hbq
        subst hce
        have hin : 0 ≤ i ∧ i < (n' : Int) := h.1.1
        have he : (ab_W E ab_n M)[o]? = some (E.1 + o, .inl (E.2.2 22, n', .inl fun j => Int32.ofInt (M o j))) := by rw [ab_W_get E M hw.1, ab_ent_i E M hw.2.1 (by omega), hw.2.2]
        refine va_bast hx hb hK hP (ab_D E ab_n M) hS o 2 he rfl (ab_in hin hn) hdg (fun H1 locs1 a1 a2 a3 => ?_)
        rw [ab_cl0 hin hn, ab_narb h.1.2, ab_upd_i, ab_W_set E (M' := ab_up M o i.toNat z) hw.1 (by rw [ab_ent_i E _ hw.2.1 (by omega), hw.2.2]) (fun o' h j => (ab_up_o h j).symm)] at a1
        exact k _ _ _ h.2 (ab_wd_arr wd (by rw [hw.2.1]; omega) (by rw [hw.2.1]; omega)) wL (ab_tail (ab_tail (ab_tail wst))) hLn H1 locs1 ls a1 a3 hl
    · exact h.elim
  · -- castore
    split at h
    · rename_i z i o ci n' st'
      have hw := ab_head (ab_tail (ab_tail wst))
      have hn : n' < 2 ^ 31 := by rw [← hw.2.2]; exact ab_ln_small hw.1
      cases hbq : Nat.beq ci 24 with
      | false => rw [hbq] at h; exact h.elim
      | true =>
        rw [hbq] at h
        have h : ((0 ≤ i ∧ i < (n' : Int)) ∧ 0 ≤ z ∧ z < 65536) ∧ _ := h
        have hce := Nat.eq_of_beq_eq_true hbq
        subst hce
        have hin : 0 ≤ i ∧ i < (n' : Int) := h.1.1
        have he : (ab_W E ab_n M)[o]? = some (E.1 + o, .inl (E.2.2 24, n', .inl fun j => Int32.ofInt (M o j))) := by rw [ab_W_get E M hw.1, ab_ent_i E M hw.2.1 (by omega), hw.2.2]
        refine va_cast hx hb hK hP (ab_D E ab_n M) hS o 4 he rfl (ab_in hin hn) hdg (fun H1 locs1 a1 a2 a3 => ?_)
        rw [ab_cl0 hin hn, ab_narc h.1.2, ab_upd_i, ab_W_set E (M' := ab_up M o i.toNat z) hw.1 (by rw [ab_ent_i E _ hw.2.1 (by omega), hw.2.2]) (fun o' h j => (ab_up_o h j).symm)] at a1
        exact k _ _ _ h.2 (ab_wd_arr wd (by rw [hw.2.1]; omega) (by rw [hw.2.1]; omega)) wL (ab_tail (ab_tail (ab_tail wst))) hLn H1 locs1 ls a1 a3 hl
    · exact h.elim
  · -- aastore
    split at h
    · rename_i o' c' n2 i o ci n' st'
      have hw := ab_head (ab_tail (ab_tail wst))
      have hw' := ab_head wst
      have hn : n' < 2 ^ 31 := by rw [← hw.2.2]; exact ab_ln_small hw.1
      cases hbq : (Nat.beq ci 26 && Nat.beq c' 6) with
      | false => rw [hbq] at h; exact h.elim
      | true =>
        rw [hbq] at h
        rw [Bool.and_eq_true] at hbq
        have h : (0 ≤ i ∧ i < (n' : Int)) ∧ _ := h
        have hce := Nat.eq_of_beq_eq_true hbq.1
        subst hce
        have hce2 := Nat.eq_of_beq_eq_true hbq.2
        subst hce2
        have he : (ab_W E ab_n M)[o]? = some (E.1 + o, .inl (E.2.2 26, n', .inr (.inr (.inr (.inr fun j => ab_rf E.1 (M o j)))))) := by rw [ab_W_get E M hw.1, ab_ent_q E M hw.2.1 (by omega), hw.2.2]
        have he' : (ab_W E ab_n M)[o']? = some (E.1 + o', .inr (6, (List.range (ab_nf 6)).map fun k => ab_fv E.1 (ab_ft 6 k).1 (M o' k))) := by rw [ab_W_get E M hw'.1, ab_ent_c E M hw'.2.1 (by omega)]
        refine va_astq (r := (RX6, TX6, 2)) hx hb hK hP (ab_D E ab_n M) hS o 6 o' 6 he rfl he' rfl (ab_in h.1 hn) hdg (fun H1 locs1 a1 a2 a3 => ?_)
        rw [ab_cl0 h.1 hn, ab_upd_q, ab_W_set E (M' := ab_up M o i.toNat (o' : Int)) hw.1 (by rw [ab_ent_q E _ hw.2.1 (by omega), hw.2.2]) (fun o' h j => (ab_up_o h j).symm)] at a1
        exact k _ _ _ h.2 (ab_wd_arr wd (by rw [hw.2.1]; omega) (by rw [hw.2.1]; omega)) wL (ab_tail (ab_tail (ab_tail wst))) hLn H1 locs1 ls a1 a3 hl
    · exact h.elim
  · exact h.elim
end AB
