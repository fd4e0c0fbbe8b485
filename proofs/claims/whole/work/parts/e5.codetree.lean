/-! the reference's code and what may come of a run -/
theorem co_w_e (P : pz_P) (mk : Int) (c : Nat) : co_w P mk c = (2, (c : Int), P.2.2.2, 0, false) :: ((em_h mk 4).map co_of ++ [(3, 0, P.2.2.2, 0, false)]) := by
  unfold co_w
  rw [List.map_append]
  rfl
theorem co_w_l (P : pz_P) (mk : Int) (c : Nat) : (co_w P mk c).length = 1 + (em_h mk 4).length + 1 := by
  rw [co_w_e, List.length_cons, List.length_append, List.length_map, List.length_singleton]
  omega
section
variable {S : Nat → List Int} {O : Nat → Prop} {Qf : mp_Q} {md : Int} {P : pz_P} {f : Nat → Bool} {c : Nat} {A B : Nat → List co_I} {TA TB : mp_Q → mp_Q → mp_Q}
/-- the parts of a choice's code -/
theorem ck_6 {r : Nat} {κ : Int} (h : co_g S O Qf κ r (co_P md P (pz_mk f) A B r c)) (z : P.1 = 6) : (co_P md P (pz_mk f) A B r c).length = 1 + (A (r + 1)).length + 1 + (B (r + 1 + (A (r + 1)).length + 1)).length ∧ ck_at S O Qf κ ((r : Nat) : Int) (4, 0, P.2.2.1, ((r + 1 + (A (r + 1)).length + 1 : Nat) : Int), false) ∧ co_g S O Qf κ (r + 1) (A (r + 1)) ∧ ck_at S O Qf κ ((r + 1 + (A (r + 1)).length : Nat) : Int) (5, 0, [], ((r + 1 + (A (r + 1)).length + 1 + (B (r + 1 + (A (r + 1)).length + 1)).length : Nat) : Int), false) ∧ co_g S O Qf κ (r + 1 + (A (r + 1)).length + 1) (B (r + 1 + (A (r + 1)).length + 1)) := by
  have e : co_P md P (pz_mk f) A B r c = (4, 0, P.2.2.1, ((r + 1 + (A (r + 1)).length + 1 : Nat) : Int), false) :: (A (r + 1) ++ (5, 0, [], ((r + 1 + (A (r + 1)).length + 1 + (B (r + 1 + (A (r + 1)).length + 1)).length : Nat) : Int), false) :: B (r + 1 + (A (r + 1)).length + 1)) := by
    unfold co_P
    rw [if_neg (by omega), if_neg (by omega), if_neg (by omega), if_neg (by omega), if_neg (by omega), if_neg (by omega), if_pos z]
  rw [e] at h ⊢
  refine ⟨by rw [List.length_cons, List.length_append, List.length_cons]; omega, h.head, h.tail.left, h.tail.right.head, h.tail.right.tail⟩
theorem ck_8 {r : Nat} {κ : Int} (h : co_g S O Qf κ r (co_P md P (pz_mk f) A B r c)) (h6 : 8 ≤ P.1) : (co_P md P (pz_mk f) A B r c).length = (A r).length + 1 + (B (r + (A r).length + 1)).length ∧ co_g S O Qf ((r + (A r).length + 1 : Nat) : Int) r (A r) ∧ ck_at S O Qf κ ((r + (A r).length : Nat) : Int) (5, 0, [], ((r + (A r).length + 1 + (B (r + (A r).length + 1)).length : Nat) : Int), false) ∧ co_g S O Qf κ (r + (A r).length + 1) (B (r + (A r).length + 1)) := by
  have e : co_P md P (pz_mk f) A B r c = co_pa ((r + (A r).length + 1 : Nat) : Int) (A r) ++ (5, 0, [], ((r + (A r).length + 1 + (B (r + (A r).length + 1)).length : Nat) : Int), false) :: B (r + (A r).length + 1) := by
    unfold co_P
    rw [if_neg (by omega), if_neg (by omega), if_neg (by omega), if_neg (by omega), if_neg (by omega), if_neg (by omega), if_neg (by omega), if_neg (by omega)]
  rw [e] at h ⊢
  have h1 := h.right
  rw [co_pa_len] at h1
  exact ⟨by rw [List.length_append, co_pa_len, List.length_cons]; omega, h.left.pa, h1.head, h1.tail⟩
theorem ck_70 {r : Nat} {κ : Int} (h : co_g S O Qf κ r (co_P md P (pz_mk f) A B r c)) (z : P.1 = 7) (hm : ¬ md = 1) : (co_P md P (pz_mk f) A B r c).length = 1 + (A (r + 1)).length + 1 ∧ ck_at S O Qf κ ((r : Nat) : Int) (4, 0, P.2.2.1, ((r + 1 + (A (r + 1)).length + 1 : Nat) : Int), false) ∧ co_g S O Qf κ (r + 1) (A (r + 1)) ∧ ck_at S O Qf κ ((r + 1 + (A (r + 1)).length : Nat) : Int) (5, 0, [], (r : Int), false) := by
  have e : co_P md P (pz_mk f) A B r c = (4, 0, P.2.2.1, ((r + 1 + (A (r + 1)).length + 1 : Nat) : Int), false) :: (A (r + 1) ++ [(5, 0, [], (r : Int), false)]) := by
    unfold co_P
    rw [if_neg (by omega), if_neg (by omega), if_neg (by omega), if_neg (by omega), if_neg (by omega), if_neg (by omega), if_neg (by omega), if_pos z, if_neg hm]
  rw [e] at h ⊢
  exact ⟨by rw [List.length_cons, List.length_append, List.length_singleton]; omega, h.head, h.tail.left, h.tail.right.head⟩
theorem ck_71 {r : Nat} {κ : Int} (h : co_g S O Qf κ r (co_P md P (pz_mk f) A B r c)) (z : P.1 = 7) (hm : md = 1) : ∃ w ra : Nat, w = (em_h (pz_mk f) 4).length ∧ ra = r + w + 3 ∧ (co_P md P (pz_mk f) A B r c).length = w + 3 + (A ra).length + 2 ∧ ck_at S O Qf κ ((r : Nat) : Int) (2, (c : Int), P.2.2.2, 0, false) ∧ co_g S O Qf κ (r + 1) ((em_h (pz_mk f) 4).map co_of) ∧ ck_at S O Qf κ ((r + 1 + w : Nat) : Int) (3, 0, P.2.2.2, 0, false) ∧ ck_at S O Qf κ ((r + 2 + w : Nat) : Int) (4, 0, P.2.2.1, ((ra + (A ra).length + 2 : Nat) : Int), false) ∧ co_g S O Qf κ ra (A ra) ∧ ck_at S O Qf κ ((ra + (A ra).length : Nat) : Int) (2, ((c + 1 : Nat) : Int), P.2.2.2, 0, false) ∧ ck_at S O Qf κ ((ra + (A ra).length + 1 : Nat) : Int) (6, 0, [], 0, false) := by
  have hl := co_w_l P (pz_mk f) c
  have e : co_P md P (pz_mk f) A B r c = co_w P (pz_mk f) c ++ (4, 0, P.2.2.1, ((r + (co_w P (pz_mk f) c).length + 1 + (A (r + (co_w P (pz_mk f) c).length + 1)).length + 2 : Nat) : Int), false) :: (A (r + (co_w P (pz_mk f) c).length + 1) ++ [(2, (c : Int) + 1, P.2.2.2, 0, false), (6, 0, [], 0, false)]) := by
    unfold co_P
    rw [if_neg (by omega), if_neg (by omega), if_neg (by omega), if_neg (by omega), if_neg (by omega), if_neg (by omega), if_neg (by omega), if_pos z, if_pos hm]
  rw [e] at h ⊢
  refine ⟨(em_h (pz_mk f) 4).length, r + (co_w P (pz_mk f) c).length + 1, rfl, by omega, by rw [List.length_append, List.length_cons, List.length_append]; show _ + (_ + 2 + 1) = _; omega, ?_⟩
  have h1 := h.left
  rw [co_w_e] at h1
  have h2 := h1.tail.right.head
  rw [List.length_map] at h2
  have h3 := h.right.head
  have h4 := h.right.tail.left
  have h5 := h.right.tail.right.head
  have h6 := h.right.tail.right.tail.head
  refine ⟨h1.head, h1.tail.left, h2, ?_, h4, ?_, h6⟩
  · rw [show r + 2 + (em_h (pz_mk f) 4).length = r + (co_w P (pz_mk f) c).length by omega]
    exact h3
  · rw [show ((c + 1 : Nat) : Int) = (c : Int) + 1 by omega]
    exact h5
theorem ck_s1 {r : Nat} {κ : Int} {I : co_I} (h : co_g S O Qf κ r (co_P md P (pz_mk f) A B r c)) (e : co_P md P (pz_mk f) A B r c = [I]) : (co_P md P (pz_mk f) A B r c).length = 1 ∧ ck_at S O Qf κ ((r : Nat) : Int) I := by
  rw [e] at h ⊢
  exact ⟨rfl, h.head⟩
theorem ck_5 {r : Nat} {κ : Int} (h : co_g S O Qf κ r (co_P md P (pz_mk f) A B r c)) (z : P.1 = 5) : (co_P md P (pz_mk f) A B r c).length = 3 ∧ ck_at S O Qf κ ((r : Nat) : Int) (2, (c : Int), P.2.2.1, 0, false) ∧ ck_at S O Qf κ ((r + 1 : Nat) : Int) (1, P.2.1, [], 0, false) ∧ ck_at S O Qf κ ((r + 2 : Nat) : Int) (3, 0, P.2.2.2, 0, false) := by
  have e : co_P md P (pz_mk f) A B r c = [(2, (c : Int), P.2.2.1, 0, false), (1, P.2.1, [], 0, false), (3, 0, P.2.2.2, 0, false)] := by
    unfold co_P
    rw [if_neg (by omega), if_neg (by omega), if_neg (by omega), if_neg (by omega), if_neg (by omega), if_pos z]
  rw [e] at h ⊢
  exact ⟨rfl, h.head, h.tail.head, h.tail.tail.head⟩
theorem ck_c1 (r : Nat) : ((r : Nat) : Int) + 1 = ((r + 1 : Nat) : Int) := rfl
theorem ck_fw_st (hmd : md = 0 ∨ md = 1) (hP : pz_wfP P) (mA : mp_mo TA) (mB : mp_mo TB)
    (hA : 6 ≤ P.1 → ∀ (r : Nat) (κ : Int), co_g S O Qf κ r (A r) → ∀ n s, s < 256 → ck_W S O n ((r : Nat) : Int) s → TA (ck_W S O n ((r + (A r).length : Nat) : Int)) (ck_W S O n κ) s)
    (hB : 6 ≤ P.1 → P.1 ≠ 7 → ∀ (r : Nat) (κ : Int), co_g S O Qf κ r (B r) → ∀ n s, s < 256 → ck_W S O n ((r : Nat) : Int) s → TB (ck_W S O n ((r + (B r).length : Nat) : Int)) (ck_W S O n κ) s)
    (r : Nat) (κ : Int) (h : co_g S O Qf κ r (co_P md P (pz_mk f) A B r c)) (n s : Nat) (hs : s < 256) (hW : ck_W S O n ((r : Nat) : Int) s) : mp_P md P f c TA TB Qf (ck_W S O n ((r + (co_P md P (pz_mk f) A B r c).length : Nat) : Int)) (ck_W S O n κ) s := by
  have p1 := hP.1
  have p2 := hP.2.1
  have hle : ∀ {m : Nat} {pc : Int} {s : Nat}, m < n → ck_W S O m pc s → ck_W S O n pc s := fun hm h => gx_W_le (Nat.le_of_lt hm) h
  unfold mp_P
  by_cases z0 : P.1 = 0
  · rw [if_pos z0]
    obtain ⟨el, h⟩ := ck_s1 (I := (0, P.2.1, P.2.2.1, 0, false)) h (by unfold co_P; rw [if_pos z0])
    rw [el]
    obtain ⟨m, h1, h2⟩ := ck_f0 h hs hW
    exact hle h1 h2
  rw [if_neg z0]
  by_cases z1 : P.1 = 1
  · rw [if_pos z1]
    obtain ⟨el, h⟩ := ck_s1 (I := (1, P.2.1, [], 0, false)) h (by unfold co_P; rw [if_neg z0, if_pos z1])
    rw [el]
    obtain ⟨x, hx, m, h1, h2⟩ := ck_f1 h hs hW
    exact ⟨x, hx, hle h1 h2⟩
  rw [if_neg z1]
  by_cases z2 : P.1 = 2
  · rw [if_pos z2]
    obtain ⟨el, h⟩ := ck_s1 (I := (2, (c : Int), P.2.2.1, 0, false)) h (by unfold co_P; rw [if_neg z0, if_neg z1, if_pos z2])
    rw [el]
    rcases ck_f2 h hs hW with ⟨v, c', h1, h2⟩ | ⟨v, m, h1, h2⟩
    · have : c = c' := by omega
      subst this
      exact Or.inl ⟨v, h2⟩
    · exact Or.inr ⟨v, hle h1 h2⟩
  rw [if_neg z2]
  by_cases z3 : P.1 = 3
  · rw [if_pos z3]
    obtain ⟨el, h⟩ := ck_s1 (I := (3, 0, P.2.2.1, 0, false)) h (by unfold co_P; rw [if_neg z0, if_neg z1, if_neg z2, if_pos z3])
    rw [el]
    obtain ⟨v, m, h1, h2⟩ := ck_f3 h hs hW
    exact ⟨v, hle h1 h2⟩
  rw [if_neg z3]
  by_cases z4 : P.1 = 4
  · rw [if_pos z4]
    obtain ⟨el, h⟩ := ck_s1 (I := (5, 0, [], -1, true)) h (by unfold co_P; rw [if_neg z0, if_neg z1, if_neg z2, if_neg z3, if_pos z4])
    obtain ⟨m, h1, h2⟩ := ck_f5 h hs hW
    rw [if_pos rfl] at h2
    exact hle h1 h2
  rw [if_neg z4]
  by_cases z5 : P.1 = 5
  · rw [if_pos z5]
    rw [if_pos (Or.inr (Or.inr z5))] at p2
    obtain ⟨el, h1, h2, h3⟩ := ck_5 h z5
    rw [el]
    rcases ck_f2 h1 hs hW with ⟨v, c', y1, y2⟩ | ⟨v, m, y1, y2⟩
    · have : c = c' := by omega
      subst this
      exact Or.inl ⟨v, y2⟩
    · obtain ⟨x, hx, m', y3, y4⟩ := ck_f1 h2 hs y2
      obtain ⟨v2, m2, y5, y6⟩ := ck_f3 h3 (mp_w_lt hs p2 (by omega)) y4
      exact Or.inr ⟨v, x, hx, v2, hle (by omega) y6⟩
  rw [if_neg z5]
  by_cases z6 : P.1 = 6
  · rw [if_pos z6]
    obtain ⟨el, h1, h2, h3, h4⟩ := ck_6 h z6
    rw [el]
    have en : r + (1 + (A (r + 1)).length + 1 + (B (r + 1 + (A (r + 1)).length + 1)).length) = r + 1 + (A (r + 1)).length + 1 + (B (r + 1 + (A (r + 1)).length + 1)).length := by omega
    rw [en]
    obtain ⟨m, y1, y2⟩ := ck_f4 h1 hs hW
    by_cases v : mp_v s P.2.2.1 = 0
    · rw [if_pos v] at y2
      exact Or.inr ⟨v, hB (by omega) (by omega) _ κ h4 n s hs (hle y1 y2)⟩
    · rw [if_neg v] at y2
      refine Or.inl ⟨v, mA _ _ _ _ (fun s2 hs2 h => ?_) (mp_le.rf _) s hs (hA (by omega) _ κ h2 n s hs (hle y1 y2))⟩
      obtain ⟨m, y1, y2⟩ := ck_f5 h3 hs2 h
      exact hle y1 y2
  rw [if_neg z6]
  by_cases z7 : P.1 = 7
  · rw [if_pos z7]
    have hA := hA (by omega)
    by_cases hm1 : md = 1
    · rw [if_pos hm1]
      obtain ⟨w, ra, ew, er, el, h1, h2, h3, h4, h5, h6, h7⟩ := ck_71 h z7 hm1
      rw [el, show r + (w + 3 + (A ra).length + 2) = ra + (A ra).length + 2 by omega]
      rcases ck_f2 h1 hs hW with ⟨v, c', y1, y2⟩ | ⟨v, m, y1, y2⟩
      · have : c = c' := by omega
        subst this
        exact Or.inl ⟨v, y2⟩
      · refine Or.inr ⟨v, ?_⟩
        have hv := (ck_hv 4 (Nat.le_refl _) _ h2).1 n s hs (hle y1 y2)
        rw [mp_hv_ag hs, ← ew] at hv
        obtain ⟨s', a1, a2⟩ := hv
        obtain ⟨v2, m2, y5, y6⟩ := ck_f3 h3 a1.1 a2
        refine ⟨s', a1, v2, ?_⟩
        have y6 : ck_W S O m2 ((r + 2 + w : Nat) : Int) s' := by
          rw [show ((r + 2 + w : Nat) : Int) = ((r + 1 + w : Nat) : Int) + 1 by omega]; exact y6
        obtain ⟨m3, y7, y8⟩ := ck_f4 h4 a1.1 y6
        by_cases v3 : mp_v s' P.2.2.1 = 0
        · rw [if_pos v3] at y8
          exact Or.inl ⟨v3, hle (by omega) y8⟩
        · rw [if_neg v3, show ((r + 2 + w : Nat) : Int) + 1 = ((ra : Nat) : Int) by omega] at y8
          refine Or.inr ⟨v3, mA _ _ _ _ (fun s2 hs2 h => ?_) (mp_le.rf _) s' a1.1 (hA _ κ h5 n s' a1.1 (hle (by omega) y8))⟩
          rcases ck_f2 h6 hs2 h with ⟨v4, c', u1, u2⟩ | ⟨v4, m4, u1, u2⟩
          · have : c + 1 = c' := by omega
            subst this
            exact ⟨v4, u2⟩
          · exact (ck_f6 h7 hs2 u2).elim
    · rw [if_neg hm1]
      obtain ⟨el, h1, h2, h3⟩ := ck_70 h z7 hm1
      rw [el, show r + (1 + (A (r + 1)).length + 1) = r + 1 + (A (r + 1)).length + 1 by omega]
      intro I hI
      have key : ∀ m s, m ≤ n → s < 256 → ck_W S O m ((r : Nat) : Int) s → I s := by
        intro m
        induction m using Nat.strongRecOn with
        | ind m ih =>
          intro s hmn hs hW
          obtain ⟨m', y1, y2⟩ := ck_f4 h1 hs hW
          refine hI s hs ?_
          by_cases v : mp_v s P.2.2.1 = 0
          · rw [if_pos v] at y2
            exact Or.inl ⟨v, hle (by omega) y2⟩
          · rw [if_neg v] at y2
            refine Or.inr ⟨v, mA _ _ _ _ (fun s2 hs2 h => ?_) (fun s2 hs2 h => hle (by omega) h) _ hs (hA _ κ h2 m' s hs y2)⟩
            obtain ⟨m2, y3, y4⟩ := ck_f5 h3 hs2 h
            exact ih m2 (by omega) s2 (by omega) hs2 y4
      exact key n s (Nat.le_refl _) hs hW
  rw [if_neg z7]
  obtain ⟨el, h1, h2, h3⟩ := ck_8 h (by omega)
  rw [el, show r + ((A r).length + 1 + (B (r + (A r).length + 1)).length) = r + (A r).length + 1 + (B (r + (A r).length + 1)).length by omega]
  refine mA _ _ _ _ (fun s2 hs2 h => ?_) (fun s2 hs2 h => hB (by omega) (by omega) _ κ h3 n s2 hs2 h) s hs (hA (by omega) _ _ h1 n s hs hW)
  obtain ⟨m, y1, y2⟩ := ck_f5 h2 hs2 h
  exact hle y1 y2
theorem ck_bw_st (hmd : md = 0 ∨ md = 1) (hP : pz_wfP P) (mA : mp_mo TA)
    (hA : 6 ≤ P.1 → ∀ (r : Nat) (κ : Int), co_g S O Qf κ r (A r) → ∀ s, s < 256 → TA (ck_Y S O ((r + (A r).length : Nat) : Int)) (ck_Y S O κ) s → ck_Y S O ((r : Nat) : Int) s)
    (hB : 6 ≤ P.1 → P.1 ≠ 7 → ∀ (r : Nat) (κ : Int), co_g S O Qf κ r (B r) → ∀ s, s < 256 → TB (ck_Y S O ((r + (B r).length : Nat) : Int)) (ck_Y S O κ) s → ck_Y S O ((r : Nat) : Int) s)
    (r : Nat) (κ : Int) (h : co_g S O Qf κ r (co_P md P (pz_mk f) A B r c)) (s : Nat) (hs : s < 256) (hW : mp_P md P f c TA TB Qf (ck_Y S O ((r + (co_P md P (pz_mk f) A B r c).length : Nat) : Int)) (ck_Y S O κ) s) : ck_Y S O ((r : Nat) : Int) s := by
  have p1 := hP.1
  have p2 := hP.2.1
  unfold mp_P at hW
  by_cases z0 : P.1 = 0
  · rw [if_pos z0] at hW
    obtain ⟨el, h⟩ := ck_s1 (I := (0, P.2.1, P.2.2.1, 0, false)) h (by unfold co_P; rw [if_pos z0])
    rw [el] at hW
    exact ck_b0 h hs hW
  rw [if_neg z0] at hW
  by_cases z1 : P.1 = 1
  · rw [if_pos z1] at hW
    obtain ⟨el, h⟩ := ck_s1 (I := (1, P.2.1, [], 0, false)) h (by unfold co_P; rw [if_neg z0, if_pos z1])
    rw [el] at hW
    obtain ⟨x, hx, hW⟩ := hW
    exact ck_b1 h hs hx hW
  rw [if_neg z1] at hW
  by_cases z2 : P.1 = 2
  · rw [if_pos z2] at hW
    obtain ⟨el, h⟩ := ck_s1 (I := (2, (c : Int), P.2.2.1, 0, false)) h (by unfold co_P; rw [if_neg z0, if_neg z1, if_pos z2])
    rw [el] at hW
    exact ck_b2 h hs hW
  rw [if_neg z2] at hW
  by_cases z3 : P.1 = 3
  · rw [if_pos z3] at hW
    obtain ⟨el, h⟩ := ck_s1 (I := (3, 0, P.2.2.1, 0, false)) h (by unfold co_P; rw [if_neg z0, if_neg z1, if_neg z2, if_pos z3])
    rw [el] at hW
    exact ck_b3 h hs hW.1 hW.2
  rw [if_neg z3] at hW
  by_cases z4 : P.1 = 4
  · rw [if_pos z4] at hW
    obtain ⟨el, h⟩ := ck_s1 (I := (5, 0, [], -1, true)) h (by unfold co_P; rw [if_neg z0, if_neg z1, if_neg z2, if_neg z3, if_pos z4])
    exact ck_b5 h hs (by rw [if_pos rfl]; exact hW)
  rw [if_neg z4] at hW
  by_cases z5 : P.1 = 5
  · rw [if_pos z5] at hW
    rw [if_pos (Or.inr (Or.inr z5))] at p2
    obtain ⟨el, h1, h2, h3⟩ := ck_5 h z5
    rw [el] at hW
    refine ck_b2 h1 hs (hW.imp id fun ⟨v, x, hx, v2, y⟩ => ⟨v, ?_⟩)
    exact ck_b1 h2 hs hx (ck_b3 h3 (mp_w_lt hs p2 (by omega)) v2 y)
  rw [if_neg z5] at hW
  by_cases z6 : P.1 = 6
  · rw [if_pos z6] at hW
    obtain ⟨el, h1, h2, h3, h4⟩ := ck_6 h z6
    have en : r + (1 + (A (r + 1)).length + 1 + (B (r + 1 + (A (r + 1)).length + 1)).length) = r + 1 + (A (r + 1)).length + 1 + (B (r + 1 + (A (r + 1)).length + 1)).length := by omega
    rw [el, en] at hW
    refine ck_b4 h1 hs ?_
    rcases hW with ⟨v, y⟩ | ⟨v, y⟩
    · rw [if_neg v]
      exact hA (by omega) _ κ h2 s hs (mA _ _ _ _ (fun s2 hs2 h => ck_b5 h3 hs2 h) (mp_le.rf _) s hs y)
    · rw [if_pos v]
      exact hB (by omega) (by omega) _ κ h4 s hs y
  rw [if_neg z6] at hW
  by_cases z7 : P.1 = 7
  · rw [if_pos z7] at hW
    have hA := hA (by omega)
    by_cases hm1 : md = 1
    · rw [if_pos hm1] at hW
      obtain ⟨w, ra, ew, er, el, h1, h2, h3, h4, h5, h6, h7⟩ := ck_71 h z7 hm1
      rw [el, show r + (w + 3 + (A ra).length + 2) = ra + (A ra).length + 2 by omega] at hW
      refine ck_b2 h1 hs (hW.imp id fun ⟨v, s', a1, v2, y⟩ => ⟨v, ?_⟩)
      refine (ck_hv 4 (Nat.le_refl _) _ h2).2 s hs ?_
      rw [mp_hv_ag hs, ← ew]
      refine ⟨s', a1, ck_b3 h3 a1.1 v2 ?_⟩
      rw [show ((r + 1 + w : Nat) : Int) + 1 = ((r + 2 + w : Nat) : Int) by omega]
      refine ck_b4 h4 a1.1 ?_
      rcases y with ⟨v3, y⟩ | ⟨v3, y⟩
      · rw [if_pos v3]; exact y
      · rw [if_neg v3, show ((r + 2 + w : Nat) : Int) + 1 = ((ra : Nat) : Int) by omega]
        exact hA _ κ h5 s' a1.1 (mA _ _ _ _ (fun s2 hs2 h => ck_b2 h6 hs2 (Or.inl h)) (mp_le.rf _) s' a1.1 y)
    · rw [if_neg hm1] at hW
      obtain ⟨el, h1, h2, h3⟩ := ck_70 h z7 hm1
      rw [el, show r + (1 + (A (r + 1)).length + 1) = r + 1 + (A (r + 1)).length + 1 by omega] at hW
      refine hW _ fun s' hs' y => ck_b4 h1 hs' ?_
      rcases y with ⟨v, y⟩ | ⟨v, y⟩
      · rw [if_pos v]; exact y
      · rw [if_neg v]
        exact hA _ κ h2 s' hs' (mA _ _ _ _ (fun s2 hs2 h => ck_b5 h3 hs2 h) (mp_le.rf _) s' hs' y)
  rw [if_neg z7] at hW
  obtain ⟨el, h1, h2, h3⟩ := ck_8 h (by omega)
  rw [el, show r + ((A r).length + 1 + (B (r + (A r).length + 1)).length) = r + (A r).length + 1 + (B (r + (A r).length + 1)).length by omega] at hW
  exact hA (by omega) _ _ h1 s hs (mA _ _ _ _ (fun s2 hs2 h => ck_b5 h2 hs2 h) (fun s2 hs2 h => hB (by omega) (by omega) _ κ h3 s2 hs2 h) s hs hW)
end
theorem ck_tree {S : Nat → List Int} {O : Nat → Prop} {Qf : mp_Q} {md : Int} (hmd : md = 0 ∨ md = 1) : ∀ (t : pz_T), pz_wf t → ∀ (r c : Nat) (κ : Int), co_g S O Qf κ r (co_t md t r c) → (∀ n s, s < 256 → ck_W S O n ((r : Nat) : Int) s → mp_t md Qf t c (ck_W S O n ((r + (co_t md t r c).length : Nat) : Int)) (ck_W S O n κ) s) ∧ ∀ s, s < 256 → mp_t md Qf t c (ck_Y S O ((r + (co_t md t r c).length : Nat) : Int)) (ck_Y S O κ) s → ck_Y S O ((r : Nat) : Int) s := by
  intro t
  induction t using pz_ind with
  | h0 => intro _ r c κ _; exact ⟨fun n s _ h => h, fun s _ h => h⟩
  | h2 s P v t => intro h; exact h.elim
  | h1 s P v t s' P' v' a b iht iha ihb =>
    intro hw r c κ h
    obtain ⟨w1, w2, w3, w4, w5, w6⟩ := hw
    have e : co_t md (.inner s P v t (.inner s' P' v' a b)) r c = co_t md t r c ++ co_P md P (pz_mk (pz_md a)) (fun r' => co_t md a r' (c + pz_kn t + (pz_kd (P.1, 0, 0, 0, 0, 0, 0, 0)).length)) (fun r' => co_t md b r' (c + pz_kn t + (pz_kd (P.1, 0, 0, 0, 0, 0, 0, 0)).length + pz_kn a)) (r + (co_t md t r c).length) (c + pz_kn t) := rfl
    rw [e] at h ⊢
    rw [List.length_append, ← Nat.add_assoc]
    have ht := iht w1 r c κ h.left
    have mA : mp_mo (fun Q1 Q2 => mp_t md Qf a (c + pz_kn t + (pz_kd (P.1, 0, 0, 0, 0, 0, 0, 0)).length) Q1 Q2) := fun Q1 Q2 Q1' Q2' => mp_t_mono (fun _ h => h) a w2 _ Q1 Q2 Q1' Q2'
    have mB : mp_mo (fun Q1 Q2 => mp_t md Qf b (c + pz_kn t + (pz_kd (P.1, 0, 0, 0, 0, 0, 0, 0)).length + pz_kn a) Q1 Q2) := fun Q1 Q2 Q1' Q2' => mp_t_mono (fun _ h => h) b w3 _ Q1 Q2 Q1' Q2'
    have hf := ck_fw_st (S := S) (O := O) (Qf := Qf) hmd w4 mA mB (fun _ r' κ' g => (iha w2 r' _ κ' g).1) (fun _ _ r' κ' g => (ihb w3 r' _ κ' g).1) _ κ h.right
    have hb := ck_bw_st (S := S) (O := O) (Qf := Qf) (TB := fun Q1 Q2 => mp_t md Qf b (c + pz_kn t + (pz_kd (P.1, 0, 0, 0, 0, 0, 0, 0)).length + pz_kn a) Q1 Q2) hmd w4 mA (fun _ r' κ' g => (iha w2 r' _ κ' g).2) (fun _ _ r' κ' g => (ihb w3 r' _ κ' g).2) _ κ h.right
    exact ⟨fun n s hs hW => mp_t_mono (fun _ h => h) t w1 c _ _ _ _ (fun s2 hs2 h => hf n s2 hs2 h) (mp_le.rf _) s hs (ht.1 n s hs hW), fun s hs hW => ht.2 s hs (mp_t_mono (fun _ h => h) t w1 c _ _ _ _ (fun s2 hs2 h => hb s2 hs2 h) (mp_le.rf _) s hs hW)⟩
theorem ck_tree_iff {S : Nat → List Int} {O : Nat → Prop} {Qf : mp_Q} {md : Int} (hmd : md = 0 ∨ md = 1) {t : pz_T} (hw : pz_wf t) {r c : Nat} {κ : Int} (h : co_g S O Qf κ r (co_t md t r c)) {s : Nat} (hs : s < 256) : ck_Y S O ((r : Nat) : Int) s ↔ mp_t md Qf t c (ck_Y S O ((r + (co_t md t r c).length : Nat) : Int)) (ck_Y S O κ) s := by
  obtain ⟨h1, h2⟩ := ck_tree hmd t hw r c κ h
  exact ⟨fun ⟨n, h⟩ => mp_t_mono (fun _ h => h) t hw c _ _ _ _ (fun s2 _ h => ⟨n, h⟩) (fun s2 _ h => ⟨n, h⟩) s hs (h1 n s hs h), h2 s hs⟩
