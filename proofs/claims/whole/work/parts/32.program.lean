/-! the reference reads a program -/
/-- so far the rows of the reference are long enough -/
def pz_okr (ls : List Int) : Nat → List pz_Ev → List Nat → Int → Prop
  | 0, _, _, _ => True
  | n + 1, E, op, a => E.length < 398 ∧ op.length < 130 ∧ (a < (ls.length : Int) → match pz_turn ls E op a with
    | .inl _ => True
    | .inr r => pz_okr ls n r.1 r.2.1 r.2.2)
theorem pz_te_mono (ls : List Int) (a f : Int) : a ≤ (pz_te ls a f).2.1 := by
  unfold pz_te
  split
  · show a ≤ a + _; omega
  · exact Int.le_refl a
theorem pz_nm_mono (ls : List Int) (a f : Int) : a ≤ (pz_nm ls a f).2.1 := by
  unfold pz_nm
  split
  · split
    · show a ≤ a + 1; omega
    · exact Int.le_refl a
  · exact Int.le_refl a
theorem pz_t2_mono (ls : List Int) (its v0 a : Int) : a ≤ (pz_t2 ls its v0 a).2.1 := by
  have h1 : a ≤ (pz_n1 ls its v0 a).2.1 := by
    unfold pz_n1
    split
    · exact pz_nm_mono _ _ _
    · exact Int.le_refl a
  have h2 : (pz_n1 ls its v0 a).2.1 ≤ (pz_t1 ls its v0 a).2.1 := by
    unfold pz_t1
    split
    · exact Int.le_refl _
    · exact pz_te_mono _ _ _
  have h3 : (pz_t1 ls its v0 a).2.1 ≤ (pz_n2 ls its v0 a).2.1 := by
    unfold pz_n2
    split
    · exact pz_nm_mono _ _ _
    · exact Int.le_refl _
  have h4 : (pz_n2 ls its v0 a).2.1 ≤ (pz_t2 ls its v0 a).2.1 := by
    unfold pz_t2
    split
    · exact pz_te_mono _ _ _
    · exact Int.le_refl _
  omega
theorem pz_pop_prog {ls : List Int} {E : List pz_Ev} {op : List Nat} {a w i : Int} {r : List pz_Ev × List Nat × Int} (h : pz_pop ls E op a w i = .inr r) : a + 1 ≤ r.2.2 := by
  unfold pz_pop at h
  split at h
  · cases h; exact Int.le_refl _
  · cases h
theorem pz_stm_prog {ls : List Int} {E : List pz_Ev} {op : List Nat} {a its : Int} {r : List pz_Ev × List Nat × Int} (h : pz_stm ls E op a its = .inr r) : a + 1 ≤ r.2.2 := by
  have hm := pz_t2_mono ls its (if its = 0 then pz_at ls a.toNat - 97 else 0) (a + 1)
  unfold pz_stm at h
  generalize (if its = 0 then pz_at ls a.toNat - 97 else 0) = v0 at h hm
  split at h
  · split at h
    · have := pz_pop_prog h
      omega
    · cases h
      exact hm
  · cases h
theorem pz_turn_prog {ls : List Int} {E : List pz_Ev} {op : List Nat} {a : Int} {r : List pz_Ev × List Nat × Int} (h : pz_turn ls E op a = .inr r) : a + 1 ≤ r.2.2 := by
  unfold pz_turn at h
  split at h
  · split at h
    · split at h
      · have := pz_pop_prog h
        omega
      · cases h
        exact Int.le_refl _
    · split at h
      · exact pz_stm_prog h
      · cases h
  · split at h
    · exact pz_stm_prog h
    · cases h
theorem pz_turn_cl {ls : List Int} {E : List pz_Ev} {o : Nat} {op : List Nat} {a : Int} (h : pz_at ls a.toNat = 41) : pz_turn ls E (o :: op) a = pz_cl ls E o op a := by
  show (if pz_at ls a.toNat = 41 then _ else _) = _
  rw [if_pos h]
  rfl
theorem pz_turn_st {M : ab_M} (h : ¬ (pz_at (pz_L M) (M 797 24).toNat = 41 ∧ pz_op M ≠ [])) : pz_turn (pz_L M) (pz_E M) (pz_op M) (M 797 24) = if pz_its M ≠ -9 ∧ (((pz_kds (pz_E M)).length : Nat) : Int) + pz_nck (pz_its M) ≤ 16 ∧ (pz_its M = 7 → (((pz_lps (pz_E M)).length : Nat) : Int) < 4 ∧ ((pz_la (pz_E M) (pz_op M) : Nat) : Int) < 2) then pz_stm (pz_L M) (pz_E M) (pz_op M) (M 797 24) (pz_its M) else .inl (M 797 24) := by
  unfold pz_turn
  split
  · rename_i o op' heq
    rw [if_neg (fun q => h ⟨q, by rw [heq]; exact fun z => by cases z⟩), heq]
    rfl
  · rename_i heq
    rw [heq]
    rfl
/-- in the middle of reading a program -/
def pz_RR (M M1 : ab_M) : Prop := pz_pf M M1 ∧ (0 ≤ M1 797 24 ∧ M1 797 24 ≤ M 797 9) ∧
  ((M1 797 25 = -9 ∧ pz_RI M1 ∧ ∃ k, (M 797 9 - M1 797 24).toNat + 1 ≤ k ∧ pz_okr (pz_L M) k (pz_E M1) (pz_op M1) (M1 797 24) ∧ pz_run (pz_L M) k (pz_E M1) (pz_op M1) (M1 797 24) = pz_read (pz_L M)) ∨
   (M1 797 25 ≠ -9 ∧ ab_ir (M1 797 25) ∧ ab_ir (M1 797 27) ∧ pz_read (pz_L M) = .inl (M1 797 25)))
theorem pz_RR.turn {M M1 M' : ab_M} (hs : 0 ≤ M 797 9) (h : pz_RR M M1) (hf : M1 797 25 = -9) (hlt : M1 797 24 < M 797 9) (ht : pz_res M1 M' (pz_turn (pz_L M1) (pz_E M1) (pz_op M1) (M1 797 24))) (h27 : ab_ir (M' 797 27)) : pz_RR M M' ∧ (if M' 797 25 = -9 then (M 797 9 - M' 797 24).toNat + 1 else 0) < (if M1 797 25 = -9 then (M 797 9 - M1 797 24).toNat + 1 else 0) := by
  obtain ⟨h1, ⟨h2, h3⟩, h4⟩ := h
  rcases h4 with ⟨g0, g1, k, g2, g3, g4⟩ | ⟨g0, -⟩
  · have hL := h1.L
    have hlen : (((pz_L M).length : Nat) : Int) = M 797 9 := by rw [pz_ls_len]; omega
    have h9 : M1 797 9 = M 797 9 := h1.2 9 (by decide) (by decide) (by decide) (by decide) (by decide) (by decide) (by decide)
    rw [hL] at ht
    obtain ⟨k', rfl⟩ : ∃ k', k = k' + 1 := ⟨k - 1, by omega⟩
    obtain ⟨b1, b2, b3⟩ := g3
    have b3 := b3 (by omega)
    unfold pz_run at g4
    rw [if_pos (by omega)] at g4
    obtain ⟨t1, ⟨t2, t3, t4⟩, t5⟩ := ht
    cases hx : pz_turn (pz_L M) (pz_E M1) (pz_op M1) (M1 797 24) with
    | inl p =>
      rw [hx] at t5 g4
      have t5 : M' 797 25 = p ∧ p ≠ -9 := t5
      have g4 : Sum.inl p = pz_read (pz_L M) := g4
      refine ⟨⟨h1.tr t1, ⟨t2, by omega⟩, Or.inr ⟨by rw [t5.1]; exact t5.2, t4, h27, by rw [← g4, t5.1]⟩⟩, ?_⟩
      rw [if_neg (by rw [t5.1]; exact t5.2), if_pos hf]
      omega
    | inr r =>
      rw [hx] at t5 g4 b3
      have hp := pz_turn_prog hx
      obtain ⟨u1, u2, u3, u4, u5⟩ := t5
      have b3 : pz_okr (pz_L M) k' r.1 r.2.1 r.2.2 := b3
      have g4 : pz_run (pz_L M) k' r.1 r.2.1 r.2.2 = pz_read (pz_L M) := g4
      rw [← u1, ← u2, ← u3] at b3 g4
      refine ⟨⟨h1.tr t1, ⟨t2, by omega⟩, Or.inl ⟨u4, u5, k', by omega, b3, g4⟩⟩, ?_⟩
      rw [if_pos u4, if_pos hf]
      omega
  · exact absurd hf g0
theorem pz_RR.bd {M M1 : ab_M} (h : pz_RR M M1) (hf : M1 797 25 = -9) : pz_RI M1 ∧ M1 797 10 < 398 ∧ M1 797 27 < 130 := by
  obtain ⟨h1, ⟨h2, h3⟩, h4⟩ := h
  rcases h4 with ⟨g0, g1, k, g2, g3, g4⟩ | ⟨g0, -⟩
  · obtain ⟨k', rfl⟩ : ∃ k', k = k' + 1 := ⟨k - 1, by omega⟩
    obtain ⟨b1, b2, b3⟩ := g3
    rw [pz_E_len] at b1
    have : (pz_op M1).length = (M1 797 27).toNat := by simp [pz_op]
    rw [this] at b2
    exact ⟨g1, by omega, by omega⟩
  · exact absurd hf g0
/-- at the end of reading a program -/
def pz_PP (M M' : ab_M) (r : Int) : Prop := pz_pf M M' ∧ M' 797 25 = r ∧ ab_ir r ∧ match pz_read (pz_L M) with
  | .inl p => r = p ∧ p ≠ -9
  | .inr E => r = -9 ∧ pz_E M' = E ∧ pz_RI M'
theorem pz_op_nil {M : ab_M} (h : 0 ≤ M 797 27) : pz_op M = [] ↔ M 797 27 = 0 := by
  have : (pz_op M).length = (M 797 27).toNat := by simp [pz_op]
  constructor
  · intro q
    rw [q] at this
    have : (0 : Nat) = (M 797 27).toNat := this
    omega
  · intro q
    apply List.eq_nil_of_length_eq_zero
    rw [this, q]
    rfl
theorem pz_RR.fin {M M1 M' : ab_M} {b : Int} (hs : 0 ≤ M 797 9 ∧ M 797 9 ≤ 640) (h : pz_RR M M1) (he : M1 797 25 ≠ -9 ∨ M 797 9 ≤ M1 797 24) (hb : b = if M1 797 27 = 0 then 1 else 0) (hM : M' = if M1 797 25 = -9 ∧ b = 0 then ab_up M1 797 25 (M1 797 24) else M1) : pz_PP M M' (M' 797 25) := by
  obtain ⟨h1, ⟨h2, h3⟩, h4⟩ := h
  rcases h4 with ⟨g0, g1, k, g2, g3, g4⟩ | ⟨g0, g1, -, g2⟩
  · have hlen : (((pz_L M).length : Nat) : Int) = M 797 9 := by rw [pz_ls_len]; omega
    obtain ⟨k', rfl⟩ : ∃ k', k = k' + 1 := ⟨k - 1, by omega⟩
    unfold pz_run at g4
    rw [if_neg (by omega)] at g4
    have hn := pz_op_nil (M := M1) g1.1.2.2.1
    by_cases h0 : M1 797 27 = 0
    · rw [if_pos (hn.2 h0)] at g4
      have e : M' = M1 := by rw [hM, if_neg (by rw [hb, if_pos h0]; omega)]
      rw [e]
      refine ⟨h1, rfl, by rw [g0]; exact ⟨by decide, by decide⟩, ?_⟩
      rw [← g4]
      exact ⟨g0, rfl, g1⟩
    · rw [if_neg (fun q => h0 (hn.1 q))] at g4
      have e : M' = ab_up M1 797 25 (M1 797 24) := by rw [hM, if_pos ⟨g0, by rw [hb, if_neg h0]⟩]
      rw [e, ab_up_s]
      refine ⟨h1.tr ⟨fun o k x y => ab_up_o x k, fun k x1 x2 x3 x4 x5 x6 x7 => ab_up_k x6 _⟩, ab_up_s, ⟨by omega, by omega⟩, ?_⟩
      rw [← g4]
      exact ⟨rfl, by omega⟩
  · have e : M' = M1 := by rw [hM, if_neg (fun q => g0 q.1)]
    rw [e]
    refine ⟨h1, rfl, g1, ?_⟩
    rw [g2]
    exact ⟨rfl, g0⟩
theorem pz_E0 (M : ab_M) (h : M 797 10 = 0) : pz_E M = [] := by
  unfold pz_E
  rw [h]
  rfl
theorem pz_op0 (M : ab_M) (h : M 797 27 = 0) : pz_op M = [] := by
  unfold pz_op
  rw [h]
  rfl
theorem pz_RI0 (M : ab_M) (h1 : M 797 10 = 0) (h2 : M 797 19 = 0) (h3 : M 797 20 = 0) (h4 : M 797 21 = 0) (h5 : M 797 27 = 0) : pz_RI M := by
  have e := pz_E0 M h1
  refine ⟨⟨by omega, by omega, by omega, by omega⟩, by rw [e, h2]; rfl, ⟨by rw [e, h3]; rfl, by rw [e]; decide, fun k v hk => by rw [e] at hk; simp [pz_kds] at hk⟩, ⟨by rw [e, h4]; rfl, by rw [e]; decide, fun k v hk => by rw [e] at hk; simp [pz_lps] at hk⟩, fun i hi => by omega, fun i hi => by omega⟩

def S_X9_readProgram : ab_PT := fun a M K => match a with
  | [.inr (.inr (.inr (797, 9, 0)))] => (0 ≤ M 797 9 ∧ M 797 9 ≤ 640 ∧ (∀ j, 0 ≤ M 803 j ∧ M 803 j < 256) ∧ pz_okr (pz_L M) ((pz_L M).length + 1) [] [] 0) ∧ (∀ rx : Int, ∀ Mx : ab_M, (pz_PP M Mx rx) → K [Xi rx] Mx)
  | _ => False
set_option maxRecDepth 20000 in
theorem vc_X9_readProgram_0  (M : ab_M) (K : List ab_V → ab_M → Prop) (hS : (0 ≤ M 797 9 ∧ M 797 9 ≤ 640 ∧ (∀ j, 0 ≤ M 803 j ∧ M 803 j < 256) ∧ pz_okr (pz_L M) ((pz_L M).length + 1) [] [] 0) ∧ (∀ rx : Int, ∀ Mx : ab_M, (pz_PP M Mx rx) → K [Xi rx] Mx)) : (-128 ≤ (-9 : Int) ∧ (-9 : Int) < 128) ∧ (∃ n', ((n' = (if (ab_up (ab_up (ab_up (ab_up (ab_up (ab_up (ab_up M 797 10 (0 : Int)) 797 19 (0 : Int)) 797 20 (0 : Int)) 797 21 (0 : Int)) 797 24 (0 : Int)) 797 25 (-9 : Int)) 797 27 (0 : Int)) 797 25 = -9 then (M 797 9 - (ab_up (ab_up (ab_up (ab_up (ab_up (ab_up (ab_up M 797 10 (0 : Int)) 797 19 (0 : Int)) 797 20 (0 : Int)) 797 21 (0 : Int)) 797 24 (0 : Int)) 797 25 (-9 : Int)) 797 27 (0 : Int)) 797 24).toNat + 1 else 0) ∧ pz_RR M (ab_up (ab_up (ab_up (ab_up (ab_up (ab_up (ab_up M 797 10 (0 : Int)) 797 19 (0 : Int)) 797 20 (0 : Int)) 797 21 (0 : Int)) 797 24 (0 : Int)) 797 25 (-9 : Int)) 797 27 (0 : Int))))) := by
  skip
  refine And.intro (by
    first
      | omega
      | (simp [ab_up_a]; done)
      | (simp [ab_up_a]; omega)) ?_
  obtain ⟨g1, g2, g3, g4⟩ := hS.1
  refine ⟨_, rfl, ⟨fun o k x y => ?_, fun k x1 x2 x3 x4 x5 x6 x7 => ?_⟩, ⟨?_, ?_⟩, Or.inl ⟨?_, ?_, (pz_L M).length + 1, ?_, ?_, ?_⟩⟩
  · simp only [ab_up_a]
    rw [if_neg (by omega), if_neg (by omega), if_neg (by omega), if_neg (by omega), if_neg (by omega), if_neg (by omega), if_neg (by omega)]
  · simp only [ab_up_a]
    rw [if_neg (by omega), if_neg (by omega), if_neg (by omega), if_neg (by omega), if_neg (by omega), if_neg (by omega), if_neg (by omega)]
  · simp [ab_up_a]
  · simp [ab_up_a]; exact g1
  · simp [ab_up_a]
  · exact pz_RI0 _ (by simp [ab_up_a]) (by simp [ab_up_a]) (by simp [ab_up_a]) (by simp [ab_up_a]) (by simp [ab_up_a])
  · rw [pz_ls_len]; simp [ab_up_a]
  · rw [pz_E0 _ (by simp [ab_up_a]), pz_op0 _ (by simp [ab_up_a]), show ∀ x : Int, x = 0 → pz_okr (pz_L M) ((pz_L M).length + 1) [] [] x = pz_okr (pz_L M) ((pz_L M).length + 1) [] [] 0 from fun x hx => by rw [hx]]
    · exact g4
    · simp [ab_up_a]
  · rw [pz_E0 _ (by simp [ab_up_a]), pz_op0 _ (by simp [ab_up_a]), show ∀ x : Int, x = 0 → pz_run (pz_L M) ((pz_L M).length + 1) [] [] x = pz_read (pz_L M) from fun x hx => by rw [hx]; rfl]
    simp [ab_up_a]

set_option maxRecDepth 20000 in
theorem vc_X9_readProgram_36  (M : ab_M) (K : List ab_V → ab_M → Prop) (hS : (0 ≤ M 797 9 ∧ M 797 9 ≤ 640 ∧ (∀ j, 0 ≤ M 803 j ∧ M 803 j < 256) ∧ pz_okr (pz_L M) ((pz_L M).length + 1) [] [] 0) ∧ (∀ rx : Int, ∀ Mx : ab_M, (pz_PP M Mx rx) → K [Xi rx] Mx)) (n : Nat)  (M1 : ab_M) (hI : n = (if M1 797 25 = -9 then (M 797 9 - M1 797 24).toNat + 1 else 0) ∧ pz_RR M M1) : (-128 ≤ (-9 : Int) ∧ (-9 : Int) < 128) ∧ (ab_ir (M1 797 25) ∧ ab_ir (-9 : Int)) ∧ ((¬ (M1 797 25) = (-9 : Int) → (ab_ir (M1 797 27)) ∧ ((¬ (M1 797 27) = 0 → (((0 : Int) = 0 ∨ (0 : Int) = 1) ∧ ab_ir (M1 797 25)) ∧ (∀ M99 : ab_M, (M99 = if M1 797 25 = -9 ∧ (0 : Int) = 0 then ab_up M1 797 25 (M1 797 24) else M1) → K [Xi (M99 797 25)] M99)) ∧ ((M1 797 27) = 0 → (((1 : Int) = 0 ∨ (1 : Int) = 1) ∧ ab_ir (M1 797 25)) ∧ (∀ M99 : ab_M, (M99 = if M1 797 25 = -9 ∧ (1 : Int) = 0 then ab_up M1 797 25 (M1 797 24) else M1) → K [Xi (M99 797 25)] M99)))) ∧ ((M1 797 25) = (-9 : Int) → (ab_ir (M1 797 24) ∧ ab_ir (M1 797 9)) ∧ (((M1 797 9) ≤ (M1 797 24) → (ab_ir (M1 797 27)) ∧ ((¬ (M1 797 27) = 0 → (((0 : Int) = 0 ∨ (0 : Int) = 1) ∧ ab_ir (M1 797 25)) ∧ (∀ M99 : ab_M, (M99 = if M1 797 25 = -9 ∧ (0 : Int) = 0 then ab_up M1 797 25 (M1 797 24) else M1) → K [Xi (M99 797 25)] M99)) ∧ ((M1 797 27) = 0 → (((1 : Int) = 0 ∨ (1 : Int) = 1) ∧ ab_ir (M1 797 25)) ∧ (∀ M99 : ab_M, (M99 = if M1 797 25 = -9 ∧ (1 : Int) = 0 then ab_up M1 797 25 (M1 797 24) else M1) → K [Xi (M99 797 25)] M99)))) ∧ ((M1 797 24) < (M1 797 9) → ((0 ≤ M1 797 9 ∧ M1 797 9 ≤ 640 ∧ (∀ j, 0 ≤ M1 803 j ∧ M1 803 j < 256) ∧ 0 ≤ M1 797 24 ∧ M1 797 24 ≤ M1 797 9)) ∧ (∀ r57 : Int, (r57 = if M1 797 24 < M1 797 9 then M1 803 (M1 797 24).toNat else -9) → (-128 ≤ (41 : Int) ∧ (41 : Int) < 128) ∧ (ab_ir r57 ∧ ab_ir (41 : Int)) ∧ ((¬ r57 = (41 : Int) → (pz_LS M1 ∧ M1 797 25 = -9 ∧ pz_RI M1 ∧ M1 797 10 < 398 ∧ M1 797 27 < 130) ∧ (∀ M80 : ab_M, (pz_SP M1 M80 ∧ ab_ir (M80 797 27)) → (∃ n', n' < n ∧ ((n' = (if M80 797 25 = -9 then (M 797 9 - M80 797 24).toNat + 1 else 0) ∧ pz_RR M M80))))) ∧ (r57 = (41 : Int) → (ab_ir (M1 797 27)) ∧ (((M1 797 27) ≤ 0 → (pz_LS M1 ∧ M1 797 25 = -9 ∧ pz_RI M1 ∧ M1 797 10 < 398 ∧ M1 797 27 < 130) ∧ (∀ M80 : ab_M, (pz_SP M1 M80 ∧ ab_ir (M80 797 27)) → (∃ n', n' < n ∧ ((n' = (if M80 797 25 = -9 then (M 797 9 - M80 797 24).toNat + 1 else 0) ∧ pz_RR M M80))))) ∧ (0 < (M1 797 27) → (pz_LS M1 ∧ M1 797 25 = -9 ∧ pz_RI M1 ∧ M1 797 10 < 398 ∧ 1 ≤ M1 797 27 ∧ M1 797 24 < M1 797 9) ∧ (∀ M73 : ab_M, (pz_CP M1 M73 ∧ ab_ir (M73 797 27)) → (∃ n', n' < n ∧ ((n' = (if M73 797 25 = -9 then (M 797 9 - M73 797 24).toNat + 1 else 0) ∧ pz_RR M M73))))))))))))) := by
  obtain ⟨hn, hR⟩ := hI
  obtain ⟨⟨g1, g2, g3, g4⟩, gK⟩ := hS
  obtain ⟨hpf, ⟨hb1, hb2⟩, hcase⟩ := id hR
  have h9 : M1 797 9 = M 797 9 := hpf.2 9 (by decide) (by decide) (by decide) (by decide) (by decide) (by decide) (by decide)
  have hLS : pz_LS M1 := ⟨by omega, by omega, fun j => by rw [hpf.1 803 j (by decide) (by omega)]; exact g3 j, hb1, by omega⟩
  have hir : ab_ir (M1 797 25) := by
    rcases hcase with ⟨q, -⟩ | ⟨-, q, -⟩
    · rw [q]; exact ⟨by decide, by decide⟩
    · exact q
  have hdr : M1 797 25 = -9 → pz_RI M1 ∧ M1 797 10 < 398 ∧ M1 797 27 < 130 := hR.bd
  refine And.intro (by
    first
      | omega
      | (simp [ab_up_a]; done)
      | (simp [ab_up_a]; omega)) ?_
  refine And.intro (by
    first
      | omega
      | (simp [ab_up_a]; done)
      | (simp [ab_up_a]; omega)) ?_
  refine ⟨?_, ?_⟩
  · intro c42
    refine And.intro (by
      rcases hcase with ⟨q, -⟩ | ⟨-, -, q, -⟩
      · have := (hdr q).1.1.2.2
        exact ⟨by omega, by omega⟩
      · exact q) ?_
    refine ⟨?_, ?_⟩
    · intro c91
      refine And.intro (by
        exact ⟨by omega, hir⟩) ?_
      intro M99 hM99
      exact gK _ _ (hR.fin ⟨g1, g2⟩ (Or.inl c42) (by rw [if_neg c91]) hM99)
    · intro c91
      refine And.intro (by
        exact ⟨by omega, hir⟩) ?_
      intro M99 hM99
      exact gK _ _ (hR.fin ⟨g1, g2⟩ (Or.inl c42) (by rw [if_pos c91]) hM99)
  · intro c42
    refine And.intro (by
      first
        | omega
        | (simp [ab_up_a]; done)
        | (simp [ab_up_a]; omega)) ?_
    refine ⟨?_, ?_⟩
    · intro c53
      refine And.intro (by
        rcases hcase with ⟨q, -⟩ | ⟨-, -, q, -⟩
        · have := (hdr q).1.1.2.2
          exact ⟨by omega, by omega⟩
        · exact q) ?_
      refine ⟨?_, ?_⟩
      · intro c91
        refine And.intro (by
          exact ⟨by omega, hir⟩) ?_
        intro M99 hM99
        exact gK _ _ (hR.fin ⟨g1, g2⟩ (Or.inr (by omega)) (by rw [if_neg c91]) hM99)
      · intro c91
        refine And.intro (by
          exact ⟨by omega, hir⟩) ?_
        intro M99 hM99
        exact gK _ _ (hR.fin ⟨g1, g2⟩ (Or.inr (by omega)) (by rw [if_pos c91]) hM99)
    · intro c53
      refine And.intro (by
        exact hLS) ?_
      intro r57 hr57
      have hcc := pz_here hLS hr57
      have hcr : ab_ir r57 := by
        have := hLS.2.2.1 (M1 797 24).toNat
        rw [hr57]
        repeat' split
        all_goals first
          | omega
          | exact ⟨by decide, by decide⟩
          | exact ⟨by omega, by omega⟩
      obtain ⟨hRI, hd1, hd2⟩ := hdr c42
      have hd3 := hRI.1.2.2
      have hnil := pz_op_nil (M := M1) hd3.1
      refine And.intro (by
        first
          | omega
          | (simp [ab_up_a]; done)
          | (simp [ab_up_a]; omega)) ?_
      refine And.intro (by
        first
          | omega
          | (simp [ab_up_a]; done)
          | (simp [ab_up_a]; omega)) ?_
      refine ⟨?_, ?_⟩
      · intro c62
        refine And.intro (by
          exact ⟨hLS, c42, hRI, hd1, hd2⟩) ?_
        intro M80 hM80
        have hno : ¬ (pz_at (pz_L M1) (M1 797 24).toNat = 41 ∧ pz_op M1 ≠ []) := by
          rintro ⟨y1, y2⟩
          rw [← hcc] at y1
          have y3 : ¬ M1 797 27 = 0 := fun z => y2 (hnil.2 z)
          omega
        have ht := pz_turn_st hno
        have hq := hR.turn g1 c42 (by omega) (M' := M80) (by
          rw [ht]
          by_cases hmay : pz_mayM M1
          · have hmay2 := hmay
            unfold pz_mayM at hmay2
            rw [if_pos hmay2]; exact hM80.1.1 hmay
          · have hmay2 := hmay
            unfold pz_mayM at hmay2
            rw [if_neg hmay2]; exact hM80.1.2 hmay) hM80.2
        exact ⟨_, by rw [hn]; exact hq.2, rfl, hq.1⟩
      · intro c62
        refine And.intro (by
          first
            | omega
            | (simp [ab_up_a]; done)
            | (simp [ab_up_a]; omega)) ?_
        refine ⟨?_, ?_⟩
        · intro c69
          refine And.intro (by
            exact ⟨hLS, c42, hRI, hd1, hd2⟩) ?_
          intro M80 hM80
          have hno : ¬ (pz_at (pz_L M1) (M1 797 24).toNat = 41 ∧ pz_op M1 ≠ []) := by
            rintro ⟨y1, y2⟩
            rw [← hcc] at y1
            have y3 : ¬ M1 797 27 = 0 := fun z => y2 (hnil.2 z)
            omega
          have ht := pz_turn_st hno
          have hq := hR.turn g1 c42 (by omega) (M' := M80) (by
            rw [ht]
            by_cases hmay : pz_mayM M1
            · have hmay2 := hmay
              unfold pz_mayM at hmay2
              rw [if_pos hmay2]; exact hM80.1.1 hmay
            · have hmay2 := hmay
              unfold pz_mayM at hmay2
              rw [if_neg hmay2]; exact hM80.1.2 hmay) hM80.2
          exact ⟨_, by rw [hn]; exact hq.2, rfl, hq.1⟩
        · intro c69
          refine And.intro (by
            exact ⟨hLS, c42, hRI, hd1, by omega, by omega⟩) ?_
          intro M73 hM73
          obtain ⟨⟨o, op, q1, q2⟩, h27⟩ := hM73
          have hq := hR.turn g1 c42 (by omega) (M' := M73) (by rw [q1, pz_turn_cl (by rw [← hcc]; exact c62)]; exact q2) h27
          exact ⟨_, by rw [hn]; exact hq.2, rfl, hq.1⟩

set_option maxRecDepth 20000 in
set_option maxHeartbeats 1000000 in
theorem ok_X9_readProgram (E : ab_E) : ab_Ok E 6 174 S_X9_readProgram := by
  refine ab_mk rq_X9_readProgram tk_X9_readProgram (rt := 1) (rfl) (cuts := [36]) (G := [(144, S_X9_here), (163, S_X9_must), (171, S_X9_readClose), (176, S_X9_readStatement)]) (List.forall_mem_cons.mpr ⟨⟨1, by decide, ok_X9_here E⟩, List.forall_mem_cons.mpr ⟨⟨1, by decide, ok_X9_must E⟩, List.forall_mem_cons.mpr ⟨⟨3, by decide, ok_X9_readClose E⟩, List.forall_mem_cons.mpr ⟨⟨5, by decide, ok_X9_readStatement E⟩, fun _ h => absurd h List.not_mem_nil⟩⟩⟩⟩) (by decide) 104 rfl ?_
  intro a M K wd wa hS
  unfold S_X9_readProgram at hS
  split at hS
  ·
    refine ⟨Nat.le_of_ble_eq_true rfl, fun pc n L st M1 => match pc, L, st with
      | 36, [.inr (.inr (.inr (797, 9, 0)))], [] => (n = (if M1 797 25 = -9 then (M 797 9 - M1 797 24).toNat + 1 else 0) ∧ pz_RR M M1)
      | _, _, _ => False, ?_, ?_⟩
    · exact vc_X9_readProgram_0  M K  hS
    · intro pc n L st M1 hI wd1 wL wst
      (try dsimp only at hI)
      split at hI
      ·
        exact vc_X9_readProgram_36  M K  hS n  _ hI
      · exact hI.elim
  · exact hS.elim
