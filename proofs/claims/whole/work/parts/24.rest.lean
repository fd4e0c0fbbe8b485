/-! the reference reads the rest of a statement -/
def S_X9_readRest : ab_PT := fun a M K => match a with
  | [.inr (.inr (.inr (797, 9, 0))), .inr (.inl e), .inr (.inl its)] => (pz_LS M ∧ M 797 25 = -9 ∧ 0 ≤ e ∧ e < 399 ∧ M 797 10 = e + 1 ∧ 0 ≤ M 797 27 ∧ M 797 27 < 130 ∧ 0 ≤ its ∧ its ≤ 8) ∧ (∀ Mx : ab_M, (∃ N : ab_M, pz_c105 M N e its ∧ Mx = if its = 6 ∨ its = 7 ∨ its = 8 then pz_ro N (if its = 6 then 0 else if its = 7 then 2 else 3) e else N) → K [] Mx)
  | _ => False
set_option maxRecDepth 20000 in
theorem vc_X9_readRest_0 (e : Int) (its : Int) (M : ab_M) (K : List ab_V → ab_M → Prop) (hS : (pz_LS M ∧ M 797 25 = -9 ∧ 0 ≤ e ∧ e < 399 ∧ M 797 10 = e + 1 ∧ 0 ≤ M 797 27 ∧ M 797 27 < 130 ∧ 0 ≤ its ∧ its ≤ 8) ∧ (∀ Mx : ab_M, (∃ N : ab_M, pz_c105 M N e its ∧ Mx = if its = 6 ∨ its = 7 ∨ its = 8 then pz_ro N (if its = 6 then 0 else if its = 7 then 2 else 3) e else N) → K [] Mx)) : (ab_ir its ∧ ab_ir (1 : Int)) ∧ ((¬ its = (1 : Int) → (∃ n', ((n' = 4 ∧ e = e ∧ its = its ∧ pz_c15 M M e its)))) ∧ (its = (1 : Int) → (pz_LS M ∧ ab_ir (M 797 25)) ∧ (∀ r11 : Int, ∀ M11 : ab_M, (pz_fr M M11 ∧ 0 ≤ M11 797 24 ∧ M11 797 24 ≤ M 797 9 ∧ ab_ir (M11 797 25) ∧ 0 ≤ (pz_nm (pz_L M) (M 797 24) (M 797 25)).1 ∧ (pz_nm (pz_L M) (M 797 24) (M 797 25)).1 ≤ 3) → (r11 = (pz_nm (pz_L M) (M 797 24) (M 797 25)).1 ∧ M11 797 24 = (pz_nm (pz_L M) (M 797 24) (M 797 25)).2.1 ∧ M11 797 25 = (pz_nm (pz_L M) (M 797 24) (M 797 25)).2.2) → (0 ≤ e ∧ e < ((400 : Nat) : Int)) ∧ (∃ n', ((n' = 4 ∧ e = e ∧ its = its ∧ pz_c15 M (ab_up M11 806 e.toNat r11) e its)))))) := by
  obtain ⟨⟨g1, g2, g3, g4, g5, g6, g7, g8, g9⟩, gK⟩ := hS
  refine And.intro (by
    first
      | omega
      | (simp [ab_up_a]; done)
      | (simp [ab_up_a]; omega)) ?_
  refine ⟨?_, ?_⟩
  · intro c2
    refine ⟨_, rfl, rfl, rfl, fun _ _ _ _ => rfl, ⟨g1.2.2.2.1, g1.2.2.2.2, by rw [g2]; exact ⟨by decide, by decide⟩⟩, ?_⟩
    unfold pz_n1
    rw [if_neg c2, g2]
    exact ⟨rfl, rfl, rfl⟩
  · intro c2
    refine And.intro (by
      exact ⟨g1, by rw [g2]; exact ⟨by decide, by decide⟩⟩) ?_
    intro r11 M11 hM11 hr11
    refine And.intro (by
      first
        | omega
        | (simp [ab_up_a]; done)
        | (simp [ab_up_a]; omega)) ?_
    obtain ⟨q1, q2, q3, q4, -⟩ := hM11
    obtain ⟨s1, s2, s3⟩ := hr11
    have hf : pz_f5 M M11 e.toNat := fun o k a _ => q1 o k a
    refine ⟨_, rfl, rfl, rfl, hf.up (by omega), ?_, ?_⟩
    · refine ⟨?_, ?_, ?_⟩ <;> rw [ab_up_o (by decide)]
      · exact q2
      · exact q3
      · exact q4
    · unfold pz_n1
      rw [if_pos c2, ab_up_s, ab_up_o (by decide), ab_up_o (by decide), ← g2]
      exact ⟨s1, s2, s3⟩

set_option maxRecDepth 20000 in
theorem vc_X9_readRest_15 (e : Int) (its : Int) (M : ab_M) (K : List ab_V → ab_M → Prop) (hS : (pz_LS M ∧ M 797 25 = -9 ∧ 0 ≤ e ∧ e < 399 ∧ M 797 10 = e + 1 ∧ 0 ≤ M 797 27 ∧ M 797 27 < 130 ∧ 0 ≤ its ∧ its ≤ 8) ∧ (∀ Mx : ab_M, (∃ N : ab_M, pz_c105 M N e its ∧ Mx = if its = 6 ∨ its = 7 ∨ its = 8 then pz_ro N (if its = 6 then 0 else if its = 7 then 2 else 3) e else N) → K [] Mx)) (n : Nat) (e1 : Int) (i1 : Int) (M1 : ab_M) (hI : n = 4 ∧ e = e1 ∧ its = i1 ∧ pz_c15 M M1 e its) : (0 ≤ e1 ∧ e1 < ((400 : Nat) : Int)) ∧ (ab_ir i1 ∧ ab_ir (1 : Int)) ∧ ((i1 = (1 : Int) → (0 ≤ e1 ∧ e1 < ((400 : Nat) : Int)) ∧ (∃ n', n' < n ∧ ((n' = 3 ∧ e = e1 ∧ its = i1 ∧ pz_c55 M (ab_up (ab_up M1 807 e1.toNat (M1 797 24)) 808 e1.toNat (0 : Int)) e its)))) ∧ (¬ i1 = (1 : Int) → (ab_ir i1 ∧ ab_ir (4 : Int)) ∧ ((i1 = (4 : Int) → (0 ≤ e1 ∧ e1 < ((400 : Nat) : Int)) ∧ (∃ n', n' < n ∧ ((n' = 3 ∧ e = e1 ∧ its = i1 ∧ pz_c55 M (ab_up (ab_up M1 807 e1.toNat (M1 797 24)) 808 e1.toNat (0 : Int)) e its)))) ∧ (¬ i1 = (4 : Int) → (-128 ≤ (8 : Int) ∧ (8 : Int) < 128) ∧ (ab_ir i1 ∧ ab_ir (8 : Int)) ∧ ((¬ i1 = (8 : Int) → (pz_LS (ab_up M1 807 e1.toNat (M1 797 24)) ∧ ab_ir ((ab_up M1 807 e1.toNat (M1 797 24)) 797 25)) ∧ (∀ r51 : Int, ∀ M51 : ab_M, (pz_fr (ab_up M1 807 e1.toNat (M1 797 24)) M51 ∧ 0 ≤ M51 797 24 ∧ M51 797 24 ≤ (ab_up M1 807 e1.toNat (M1 797 24)) 797 9 ∧ ab_ir (M51 797 25)) → (r51 = (pz_te (pz_L (ab_up M1 807 e1.toNat (M1 797 24))) ((ab_up M1 807 e1.toNat (M1 797 24)) 797 24) ((ab_up M1 807 e1.toNat (M1 797 24)) 797 25)).1 ∧ M51 797 24 = (pz_te (pz_L (ab_up M1 807 e1.toNat (M1 797 24))) ((ab_up M1 807 e1.toNat (M1 797 24)) 797 24) ((ab_up M1 807 e1.toNat (M1 797 24)) 797 25)).2.1 ∧ M51 797 25 = (pz_te (pz_L (ab_up M1 807 e1.toNat (M1 797 24))) ((ab_up M1 807 e1.toNat (M1 797 24)) 797 24) ((ab_up M1 807 e1.toNat (M1 797 24)) 797 25)).2.2) → (0 ≤ e1 ∧ e1 < ((400 : Nat) : Int)) ∧ (∃ n', n' < n ∧ ((n' = 3 ∧ e = e1 ∧ its = i1 ∧ pz_c55 M (ab_up M51 808 e1.toNat r51) e its))))) ∧ (i1 = (8 : Int) → (0 ≤ e1 ∧ e1 < ((400 : Nat) : Int)) ∧ (∃ n', n' < n ∧ ((n' = 3 ∧ e = e1 ∧ its = i1 ∧ pz_c55 M (ab_up (ab_up M1 807 e1.toNat (M1 797 24)) 808 e1.toNat (0 : Int)) e its))))))))) := by
  obtain ⟨hn, rfl, rfl, hc⟩ := hI
  obtain ⟨⟨g1, g2, g3, g4, g5, g6, g7, g8, g9⟩, gK⟩ := hS
  obtain ⟨hf5, ⟨hb1, hb2, hb3⟩, hc⟩ := hc
  have hLS := hf5.LS g1 hb1 hb2
  have h9 : M1 797 9 = M 797 9 := hf5 797 9 (by omega) (by omega)
  refine And.intro (by
    first
      | omega
      | (simp [ab_up_a]; done)
      | (simp [ab_up_a]; omega)) ?_
  refine And.intro (by
    first
      | omega
      | (simp [ab_up_a]; done)
      | (simp [ab_up_a]; omega)) ?_
  refine ⟨?_, ?_⟩
  · intro c32
    refine And.intro (by
      first
        | omega
        | (simp [ab_up_a]; done)
        | (simp [ab_up_a]; omega)) ?_
    refine ⟨_, by omega, rfl, rfl, rfl, (hf5.up (by omega)).up (by omega), ?_, ?_⟩
    · refine ⟨?_, ?_, ?_⟩ <;> rw [ab_up_o (by decide), ab_up_o (by decide)]
      · exact hb1
      · exact hb2
      · exact hb3
    · obtain ⟨s1, s2, s3⟩ := hc
      unfold pz_t1
      rw [if_pos (by omega)]
      refine ⟨?_, ?_, ?_, ?_, ?_⟩
      · rw [ab_up_o (by decide), ab_up_o (by decide)]; exact s1
      · rw [ab_up_o (by decide), ab_up_s]; exact s2
      · rw [ab_up_s]
      · rw [ab_up_o (by decide), ab_up_o (by decide)]; exact s2
      · rw [ab_up_o (by decide), ab_up_o (by decide)]; exact s3
  · intro c32
    refine And.intro (by
      first
        | omega
        | (simp [ab_up_a]; done)
        | (simp [ab_up_a]; omega)) ?_
    refine ⟨?_, ?_⟩
    · intro c37
      refine And.intro (by
        first
          | omega
          | (simp [ab_up_a]; done)
          | (simp [ab_up_a]; omega)) ?_
      refine ⟨_, by omega, rfl, rfl, rfl, (hf5.up (by omega)).up (by omega), ?_, ?_⟩
      · refine ⟨?_, ?_, ?_⟩ <;> rw [ab_up_o (by decide), ab_up_o (by decide)]
        · exact hb1
        · exact hb2
        · exact hb3
      · obtain ⟨s1, s2, s3⟩ := hc
        unfold pz_t1
        rw [if_pos (by omega)]
        refine ⟨?_, ?_, ?_, ?_, ?_⟩
        · rw [ab_up_o (by decide), ab_up_o (by decide)]; exact s1
        · rw [ab_up_o (by decide), ab_up_s]; exact s2
        · rw [ab_up_s]
        · rw [ab_up_o (by decide), ab_up_o (by decide)]; exact s2
        · rw [ab_up_o (by decide), ab_up_o (by decide)]; exact s3
    · intro c37
      refine And.intro (by
        first
          | omega
          | (simp [ab_up_a]; done)
          | (simp [ab_up_a]; omega)) ?_
      refine And.intro (by
        first
          | omega
          | (simp [ab_up_a]; done)
          | (simp [ab_up_a]; omega)) ?_
      refine ⟨?_, ?_⟩
      · intro c43
        refine And.intro (by
          exact ⟨(hf5.up (r := 807) (v := M1 797 24) (by omega)).LS g1 (by rw [ab_up_o (by decide)]; exact hb1) (by rw [ab_up_o (by decide)]; exact hb2), by rw [ab_up_o (by decide)]; exact hb3⟩) ?_
        intro r51 M51 hM51 hr51
        refine And.intro (by
          first
            | omega
            | (simp [ab_up_a]; done)
            | (simp [ab_up_a]; omega)) ?_
        obtain ⟨s1, s2, s3⟩ := hc
        obtain ⟨q1, q2, q3, q4⟩ := hM51
        have hf := (hf5.up (r := 807) (v := M1 797 24) (by omega))
        rw [hf.L, ab_up_o (by decide), ab_up_o (by decide)] at hr51
        rw [ab_up_o (by decide)] at q3
        obtain ⟨w1, w2, w3⟩ := hr51
        refine ⟨_, by omega, rfl, rfl, rfl, (hf.fr q1).up (by omega), ?_, ?_⟩
        · refine ⟨?_, ?_, ?_⟩ <;> rw [ab_up_o (by decide)]
          · exact q2
          · rw [← h9]; exact q3
          · exact q4
        · unfold pz_t1
          rw [if_neg (by omega), ← s2, ← s3]
          rw [ab_up_s, ab_up_o (by decide), ab_up_o (by decide), ab_up_o (by decide), ab_up_o (by decide), q1 806 _ (by omega), q1 807 _ (by omega), ab_up_s, ab_up_o (by decide)]
          exact ⟨s1, rfl, w1, w2, w3⟩
      · intro c43
        refine And.intro (by
          first
            | omega
            | (simp [ab_up_a]; done)
            | (simp [ab_up_a]; omega)) ?_
        refine ⟨_, by omega, rfl, rfl, rfl, (hf5.up (by omega)).up (by omega), ?_, ?_⟩
        · refine ⟨?_, ?_, ?_⟩ <;> rw [ab_up_o (by decide), ab_up_o (by decide)]
          · exact hb1
          · exact hb2
          · exact hb3
        · obtain ⟨s1, s2, s3⟩ := hc
          unfold pz_t1
          rw [if_pos (by omega)]
          refine ⟨?_, ?_, ?_, ?_, ?_⟩
          · rw [ab_up_o (by decide), ab_up_o (by decide)]; exact s1
          · rw [ab_up_o (by decide), ab_up_s]; exact s2
          · rw [ab_up_s]
          · rw [ab_up_o (by decide), ab_up_o (by decide)]; exact s2
          · rw [ab_up_o (by decide), ab_up_o (by decide)]; exact s3

set_option maxRecDepth 20000 in
theorem vc_X9_readRest_55 (e : Int) (its : Int) (M : ab_M) (K : List ab_V → ab_M → Prop) (hS : (pz_LS M ∧ M 797 25 = -9 ∧ 0 ≤ e ∧ e < 399 ∧ M 797 10 = e + 1 ∧ 0 ≤ M 797 27 ∧ M 797 27 < 130 ∧ 0 ≤ its ∧ its ≤ 8) ∧ (∀ Mx : ab_M, (∃ N : ab_M, pz_c105 M N e its ∧ Mx = if its = 6 ∨ its = 7 ∨ its = 8 then pz_ro N (if its = 6 then 0 else if its = 7 then 2 else 3) e else N) → K [] Mx)) (n : Nat) (e1 : Int) (i1 : Int) (M1 : ab_M) (hI : n = 3 ∧ e = e1 ∧ its = i1 ∧ pz_c55 M M1 e its) : (ab_ir i1 ∧ ab_ir (5 : Int)) ∧ ((¬ i1 = (5 : Int) → (∃ n', n' < n ∧ ((n' = 2 ∧ e = e1 ∧ its = i1 ∧ pz_c70 M M1 e its)))) ∧ (i1 = (5 : Int) → (pz_LS M1 ∧ ab_ir (M1 797 25)) ∧ (∀ r66 : Int, ∀ M66 : ab_M, (pz_fr M1 M66 ∧ 0 ≤ M66 797 24 ∧ M66 797 24 ≤ M1 797 9 ∧ ab_ir (M66 797 25) ∧ 0 ≤ (pz_nm (pz_L M1) (M1 797 24) (M1 797 25)).1 ∧ (pz_nm (pz_L M1) (M1 797 24) (M1 797 25)).1 ≤ 3) → (r66 = (pz_nm (pz_L M1) (M1 797 24) (M1 797 25)).1 ∧ M66 797 24 = (pz_nm (pz_L M1) (M1 797 24) (M1 797 25)).2.1 ∧ M66 797 25 = (pz_nm (pz_L M1) (M1 797 24) (M1 797 25)).2.2) → (0 ≤ e1 ∧ e1 < ((400 : Nat) : Int)) ∧ (∃ n', n' < n ∧ ((n' = 2 ∧ e = e1 ∧ its = i1 ∧ pz_c70 M (ab_up M66 806 e1.toNat r66) e its)))))) := by
  obtain ⟨hn, rfl, rfl, hc⟩ := hI
  obtain ⟨⟨g1, g2, g3, g4, g5, g6, g7, g8, g9⟩, gK⟩ := hS
  obtain ⟨hf5, ⟨hb1, hb2, hb3⟩, hc⟩ := hc
  have hLS := hf5.LS g1 hb1 hb2
  have h9 : M1 797 9 = M 797 9 := hf5 797 9 (by omega) (by omega)
  refine And.intro (by
    first
      | omega
      | (simp [ab_up_a]; done)
      | (simp [ab_up_a]; omega)) ?_
  refine ⟨?_, ?_⟩
  · intro c57
    obtain ⟨s1, s2, s3, s4, s5⟩ := hc
    refine ⟨_, by omega, rfl, rfl, rfl, hf5, ⟨hb1, hb2, hb3⟩, ?_⟩
    unfold pz_n2
    rw [if_neg c57]
    exact ⟨s1, s2, s3, s4, s5⟩
  · intro c57
    refine And.intro (by
      exact ⟨hLS, hb3⟩) ?_
    intro r66 M66 hM66 hr66
    refine And.intro (by
      first
        | omega
        | (simp [ab_up_a]; done)
        | (simp [ab_up_a]; omega)) ?_
    obtain ⟨s1, s2, s3, s4, s5⟩ := hc
    obtain ⟨q1, q2, q3, q4, -⟩ := hM66
    rw [hf5.L] at hr66
    obtain ⟨w1, w2, w3⟩ := hr66
    refine ⟨_, by omega, rfl, rfl, rfl, (hf5.fr q1).up (by omega), ?_, ?_⟩
    · refine ⟨?_, ?_, ?_⟩ <;> rw [ab_up_o (by decide)]
      · exact q2
      · rw [← h9]; exact q3
      · exact q4
    · unfold pz_n2
      rw [if_pos c57, ← s4, ← s5]
      rw [ab_up_s, ab_up_o (by decide), ab_up_o (by decide), ab_up_o (by decide), ab_up_o (by decide), q1 807 _ (by omega), q1 808 _ (by omega)]
      exact ⟨w1, s2, s3, w2, w3⟩

set_option maxRecDepth 20000 in
theorem vc_X9_readRest_70 (e : Int) (its : Int) (M : ab_M) (K : List ab_V → ab_M → Prop) (hS : (pz_LS M ∧ M 797 25 = -9 ∧ 0 ≤ e ∧ e < 399 ∧ M 797 10 = e + 1 ∧ 0 ≤ M 797 27 ∧ M 797 27 < 130 ∧ 0 ≤ its ∧ its ≤ 8) ∧ (∀ Mx : ab_M, (∃ N : ab_M, pz_c105 M N e its ∧ Mx = if its = 6 ∨ its = 7 ∨ its = 8 then pz_ro N (if its = 6 then 0 else if its = 7 then 2 else 3) e else N) → K [] Mx)) (n : Nat) (e1 : Int) (i1 : Int) (M1 : ab_M) (hI : n = 2 ∧ e = e1 ∧ its = i1 ∧ pz_c70 M M1 e its) : (0 ≤ e1 ∧ e1 < ((400 : Nat) : Int)) ∧ (ab_ir i1 ∧ ab_ir (5 : Int)) ∧ ((i1 = (5 : Int) → (pz_LS (ab_up M1 809 e1.toNat (M1 797 24)) ∧ ab_ir ((ab_up M1 809 e1.toNat (M1 797 24)) 797 25)) ∧ (∀ r97 : Int, ∀ M97 : ab_M, (pz_fr (ab_up M1 809 e1.toNat (M1 797 24)) M97 ∧ 0 ≤ M97 797 24 ∧ M97 797 24 ≤ (ab_up M1 809 e1.toNat (M1 797 24)) 797 9 ∧ ab_ir (M97 797 25)) → (r97 = (pz_te (pz_L (ab_up M1 809 e1.toNat (M1 797 24))) ((ab_up M1 809 e1.toNat (M1 797 24)) 797 24) ((ab_up M1 809 e1.toNat (M1 797 24)) 797 25)).1 ∧ M97 797 24 = (pz_te (pz_L (ab_up M1 809 e1.toNat (M1 797 24))) ((ab_up M1 809 e1.toNat (M1 797 24)) 797 24) ((ab_up M1 809 e1.toNat (M1 797 24)) 797 25)).2.1 ∧ M97 797 25 = (pz_te (pz_L (ab_up M1 809 e1.toNat (M1 797 24))) ((ab_up M1 809 e1.toNat (M1 797 24)) 797 24) ((ab_up M1 809 e1.toNat (M1 797 24)) 797 25)).2.2) → (0 ≤ e1 ∧ e1 < ((400 : Nat) : Int)) ∧ (∃ n', n' < n ∧ ((n' = 1 ∧ e = e1 ∧ its = i1 ∧ pz_c105 M (ab_up M97 810 e1.toNat r97) e its))))) ∧ (¬ i1 = (5 : Int) → (-128 ≤ (7 : Int) ∧ (7 : Int) < 128) ∧ (ab_ir i1 ∧ ab_ir (7 : Int)) ∧ ((¬ i1 = (7 : Int) → (0 ≤ e1 ∧ e1 < ((400 : Nat) : Int)) ∧ (∃ n', n' < n ∧ ((n' = 1 ∧ e = e1 ∧ its = i1 ∧ pz_c105 M (ab_up (ab_up M1 809 e1.toNat (M1 797 24)) 810 e1.toNat (0 : Int)) e its)))) ∧ (i1 = (7 : Int) → (pz_LS (ab_up M1 809 e1.toNat (M1 797 24)) ∧ ab_ir ((ab_up M1 809 e1.toNat (M1 797 24)) 797 25)) ∧ (∀ r97 : Int, ∀ M97 : ab_M, (pz_fr (ab_up M1 809 e1.toNat (M1 797 24)) M97 ∧ 0 ≤ M97 797 24 ∧ M97 797 24 ≤ (ab_up M1 809 e1.toNat (M1 797 24)) 797 9 ∧ ab_ir (M97 797 25)) → (r97 = (pz_te (pz_L (ab_up M1 809 e1.toNat (M1 797 24))) ((ab_up M1 809 e1.toNat (M1 797 24)) 797 24) ((ab_up M1 809 e1.toNat (M1 797 24)) 797 25)).1 ∧ M97 797 24 = (pz_te (pz_L (ab_up M1 809 e1.toNat (M1 797 24))) ((ab_up M1 809 e1.toNat (M1 797 24)) 797 24) ((ab_up M1 809 e1.toNat (M1 797 24)) 797 25)).2.1 ∧ M97 797 25 = (pz_te (pz_L (ab_up M1 809 e1.toNat (M1 797 24))) ((ab_up M1 809 e1.toNat (M1 797 24)) 797 24) ((ab_up M1 809 e1.toNat (M1 797 24)) 797 25)).2.2) → (0 ≤ e1 ∧ e1 < ((400 : Nat) : Int)) ∧ (∃ n', n' < n ∧ ((n' = 1 ∧ e = e1 ∧ its = i1 ∧ pz_c105 M (ab_up M97 810 e1.toNat r97) e its)))))))) := by
  obtain ⟨hn, rfl, rfl, hc⟩ := hI
  obtain ⟨⟨g1, g2, g3, g4, g5, g6, g7, g8, g9⟩, gK⟩ := hS
  obtain ⟨hf5, ⟨hb1, hb2, hb3⟩, hc⟩ := hc
  have hLS := hf5.LS g1 hb1 hb2
  have h9 : M1 797 9 = M 797 9 := hf5 797 9 (by omega) (by omega)
  refine And.intro (by
    first
      | omega
      | (simp [ab_up_a]; done)
      | (simp [ab_up_a]; omega)) ?_
  refine And.intro (by
    first
      | omega
      | (simp [ab_up_a]; done)
      | (simp [ab_up_a]; omega)) ?_
  refine ⟨?_, ?_⟩
  · intro c87
    refine And.intro (by
      exact ⟨(hf5.up (r := 809) (v := M1 797 24) (by omega)).LS g1 (by rw [ab_up_o (by decide)]; exact hb1) (by rw [ab_up_o (by decide)]; exact hb2), by rw [ab_up_o (by decide)]; exact hb3⟩) ?_
    intro r97 M97 hM97 hr97
    refine And.intro (by
      first
        | omega
        | (simp [ab_up_a]; done)
        | (simp [ab_up_a]; omega)) ?_
    obtain ⟨s1, s2, s3, s4, s5⟩ := hc
    obtain ⟨q1, q2, q3, q4⟩ := hM97
    have hf := (hf5.up (r := 809) (v := M1 797 24) (by omega))
    rw [hf.L, ab_up_o (by decide), ab_up_o (by decide)] at hr97
    rw [ab_up_o (by decide)] at q3
    obtain ⟨w1, w2, w3⟩ := hr97
    refine ⟨_, by omega, rfl, rfl, rfl, (hf.fr q1).up (by omega), ?_, ?_⟩
    · refine ⟨?_, ?_, ?_⟩ <;> rw [ab_up_o (by decide)]
      · exact q2
      · rw [← h9]; exact q3
      · exact q4
    · unfold pz_t2
      rw [if_pos (by omega), ← s4, ← s5]
      rw [ab_up_s, ab_up_o (by decide), ab_up_o (by decide), ab_up_o (by decide), ab_up_o (by decide), ab_up_o (by decide), ab_up_o (by decide), q1 806 _ (by omega), q1 807 _ (by omega), q1 808 _ (by omega), q1 809 _ (by omega), ab_up_s, ab_up_o (by decide), ab_up_o (by decide), ab_up_o (by decide)]
      exact ⟨s1, s2, s3, rfl, w1, w2, w3⟩
  · intro c87
    refine And.intro (by
      first
        | omega
        | (simp [ab_up_a]; done)
        | (simp [ab_up_a]; omega)) ?_
    refine And.intro (by
      first
        | omega
        | (simp [ab_up_a]; done)
        | (simp [ab_up_a]; omega)) ?_
    refine ⟨?_, ?_⟩
    · intro c93
      refine And.intro (by
        first
          | omega
          | (simp [ab_up_a]; done)
          | (simp [ab_up_a]; omega)) ?_
      obtain ⟨s1, s2, s3, s4, s5⟩ := hc
      refine ⟨_, by omega, rfl, rfl, rfl, (hf5.up (by omega)).up (by omega), ?_, ?_⟩
      · refine ⟨?_, ?_, ?_⟩ <;> rw [ab_up_o (by decide), ab_up_o (by decide)]
        · exact hb1
        · exact hb2
        · exact hb3
      · unfold pz_t2
        rw [if_neg (by omega)]
        refine ⟨?_, ?_, ?_, ?_, ?_, ?_, ?_⟩
        · rw [ab_up_o (by decide), ab_up_o (by decide)]; exact s1
        · rw [ab_up_o (by decide), ab_up_o (by decide)]; exact s2
        · rw [ab_up_o (by decide), ab_up_o (by decide)]; exact s3
        · rw [ab_up_o (by decide), ab_up_s]; exact s4
        · rw [ab_up_s]
        · rw [ab_up_o (by decide), ab_up_o (by decide)]; exact s4
        · rw [ab_up_o (by decide), ab_up_o (by decide)]; exact s5
    · intro c93
      refine And.intro (by
        exact ⟨(hf5.up (r := 809) (v := M1 797 24) (by omega)).LS g1 (by rw [ab_up_o (by decide)]; exact hb1) (by rw [ab_up_o (by decide)]; exact hb2), by rw [ab_up_o (by decide)]; exact hb3⟩) ?_
      intro r97 M97 hM97 hr97
      refine And.intro (by
        first
          | omega
          | (simp [ab_up_a]; done)
          | (simp [ab_up_a]; omega)) ?_
      obtain ⟨s1, s2, s3, s4, s5⟩ := hc
      obtain ⟨q1, q2, q3, q4⟩ := hM97
      have hf := (hf5.up (r := 809) (v := M1 797 24) (by omega))
      rw [hf.L, ab_up_o (by decide), ab_up_o (by decide)] at hr97
      rw [ab_up_o (by decide)] at q3
      obtain ⟨w1, w2, w3⟩ := hr97
      refine ⟨_, by omega, rfl, rfl, rfl, (hf.fr q1).up (by omega), ?_, ?_⟩
      · refine ⟨?_, ?_, ?_⟩ <;> rw [ab_up_o (by decide)]
        · exact q2
        · rw [← h9]; exact q3
        · exact q4
      · unfold pz_t2
        rw [if_pos (by omega), ← s4, ← s5]
        rw [ab_up_s, ab_up_o (by decide), ab_up_o (by decide), ab_up_o (by decide), ab_up_o (by decide), ab_up_o (by decide), ab_up_o (by decide), q1 806 _ (by omega), q1 807 _ (by omega), q1 808 _ (by omega), q1 809 _ (by omega), ab_up_s, ab_up_o (by decide), ab_up_o (by decide), ab_up_o (by decide)]
        exact ⟨s1, s2, s3, rfl, w1, w2, w3⟩

set_option maxRecDepth 20000 in
theorem vc_X9_readRest_105 (e : Int) (its : Int) (M : ab_M) (K : List ab_V → ab_M → Prop) (hS : (pz_LS M ∧ M 797 25 = -9 ∧ 0 ≤ e ∧ e < 399 ∧ M 797 10 = e + 1 ∧ 0 ≤ M 797 27 ∧ M 797 27 < 130 ∧ 0 ≤ its ∧ its ≤ 8) ∧ (∀ Mx : ab_M, (∃ N : ab_M, pz_c105 M N e its ∧ Mx = if its = 6 ∨ its = 7 ∨ its = 8 then pz_ro N (if its = 6 then 0 else if its = 7 then 2 else 3) e else N) → K [] Mx)) (n : Nat) (e1 : Int) (i1 : Int) (M1 : ab_M) (hI : n = 1 ∧ e = e1 ∧ its = i1 ∧ pz_c105 M M1 e its) : (-128 ≤ (6 : Int) ∧ (6 : Int) < 128) ∧ (ab_ir i1 ∧ ab_ir (6 : Int)) ∧ ((i1 = (6 : Int) → (-128 ≤ (6 : Int) ∧ (6 : Int) < 128) ∧ (ab_ir i1 ∧ ab_ir (6 : Int)) ∧ ((¬ i1 = (6 : Int) → (-128 ≤ (7 : Int) ∧ (7 : Int) < 128) ∧ (ab_ir i1 ∧ ab_ir (7 : Int)) ∧ ((¬ i1 = (7 : Int) → (pz_LS M1 ∧ ab_ir (M1 797 25) ∧ 0 ≤ M1 797 10 ∧ M1 797 10 < 400 ∧ 0 ≤ M1 797 27 ∧ M1 797 27 < 130) ∧ (∀ M146 : ab_M, (M146 = pz_ro M1 (3 : Int) e1) → K [] M146)) ∧ (i1 = (7 : Int) → (pz_LS M1 ∧ ab_ir (M1 797 25) ∧ 0 ≤ M1 797 10 ∧ M1 797 10 < 400 ∧ 0 ≤ M1 797 27 ∧ M1 797 27 < 130) ∧ (∀ M146 : ab_M, (M146 = pz_ro M1 (2 : Int) e1) → K [] M146)))) ∧ (i1 = (6 : Int) → (pz_LS M1 ∧ ab_ir (M1 797 25) ∧ 0 ≤ M1 797 10 ∧ M1 797 10 < 400 ∧ 0 ≤ M1 797 27 ∧ M1 797 27 < 130) ∧ (∀ M146 : ab_M, (M146 = pz_ro M1 (0 : Int) e1) → K [] M146)))) ∧ (¬ i1 = (6 : Int) → (-128 ≤ (7 : Int) ∧ (7 : Int) < 128) ∧ (ab_ir i1 ∧ ab_ir (7 : Int)) ∧ ((i1 = (7 : Int) → (-128 ≤ (6 : Int) ∧ (6 : Int) < 128) ∧ (ab_ir i1 ∧ ab_ir (6 : Int)) ∧ ((¬ i1 = (6 : Int) → (-128 ≤ (7 : Int) ∧ (7 : Int) < 128) ∧ (ab_ir i1 ∧ ab_ir (7 : Int)) ∧ ((¬ i1 = (7 : Int) → (pz_LS M1 ∧ ab_ir (M1 797 25) ∧ 0 ≤ M1 797 10 ∧ M1 797 10 < 400 ∧ 0 ≤ M1 797 27 ∧ M1 797 27 < 130) ∧ (∀ M146 : ab_M, (M146 = pz_ro M1 (3 : Int) e1) → K [] M146)) ∧ (i1 = (7 : Int) → (pz_LS M1 ∧ ab_ir (M1 797 25) ∧ 0 ≤ M1 797 10 ∧ M1 797 10 < 400 ∧ 0 ≤ M1 797 27 ∧ M1 797 27 < 130) ∧ (∀ M146 : ab_M, (M146 = pz_ro M1 (2 : Int) e1) → K [] M146)))) ∧ (i1 = (6 : Int) → (pz_LS M1 ∧ ab_ir (M1 797 25) ∧ 0 ≤ M1 797 10 ∧ M1 797 10 < 400 ∧ 0 ≤ M1 797 27 ∧ M1 797 27 < 130) ∧ (∀ M146 : ab_M, (M146 = pz_ro M1 (0 : Int) e1) → K [] M146)))) ∧ (¬ i1 = (7 : Int) → (-128 ≤ (8 : Int) ∧ (8 : Int) < 128) ∧ (ab_ir i1 ∧ ab_ir (8 : Int)) ∧ ((¬ i1 = (8 : Int) → K [] M1) ∧ (i1 = (8 : Int) → (-128 ≤ (6 : Int) ∧ (6 : Int) < 128) ∧ (ab_ir i1 ∧ ab_ir (6 : Int)) ∧ ((¬ i1 = (6 : Int) → (-128 ≤ (7 : Int) ∧ (7 : Int) < 128) ∧ (ab_ir i1 ∧ ab_ir (7 : Int)) ∧ ((¬ i1 = (7 : Int) → (pz_LS M1 ∧ ab_ir (M1 797 25) ∧ 0 ≤ M1 797 10 ∧ M1 797 10 < 400 ∧ 0 ≤ M1 797 27 ∧ M1 797 27 < 130) ∧ (∀ M146 : ab_M, (M146 = pz_ro M1 (3 : Int) e1) → K [] M146)) ∧ (i1 = (7 : Int) → (pz_LS M1 ∧ ab_ir (M1 797 25) ∧ 0 ≤ M1 797 10 ∧ M1 797 10 < 400 ∧ 0 ≤ M1 797 27 ∧ M1 797 27 < 130) ∧ (∀ M146 : ab_M, (M146 = pz_ro M1 (2 : Int) e1) → K [] M146)))) ∧ (i1 = (6 : Int) → (pz_LS M1 ∧ ab_ir (M1 797 25) ∧ 0 ≤ M1 797 10 ∧ M1 797 10 < 400 ∧ 0 ≤ M1 797 27 ∧ M1 797 27 < 130) ∧ (∀ M146 : ab_M, (M146 = pz_ro M1 (0 : Int) e1) → K [] M146))))))))) := by
  obtain ⟨hn, rfl, rfl, hc⟩ := hI
  obtain ⟨⟨g1, g2, g3, g4, g5, g6, g7, g8, g9⟩, gK⟩ := hS
  obtain ⟨hf5, ⟨hb1, hb2, hb3⟩, hc⟩ := hc
  have hLS := hf5.LS g1 hb1 hb2
  have h9 : M1 797 9 = M 797 9 := hf5 797 9 (by omega) (by omega)
  refine And.intro (by
    first
      | omega
      | (simp [ab_up_a]; done)
      | (simp [ab_up_a]; omega)) ?_
  refine And.intro (by
    first
      | omega
      | (simp [ab_up_a]; done)
      | (simp [ab_up_a]; omega)) ?_
  refine ⟨?_, ?_⟩
  · intro c108
    refine And.intro (by
      first
        | omega
        | (simp [ab_up_a]; done)
        | (simp [ab_up_a]; omega)) ?_
    refine And.intro (by
      first
        | omega
        | (simp [ab_up_a]; done)
        | (simp [ab_up_a]; omega)) ?_
    refine ⟨?_, ?_⟩
    · intro c127
      refine And.intro (by
        first
          | omega
          | (simp [ab_up_a]; done)
          | (simp [ab_up_a]; omega)) ?_
      refine And.intro (by
        first
          | omega
          | (simp [ab_up_a]; done)
          | (simp [ab_up_a]; omega)) ?_
      refine ⟨?_, ?_⟩
      · intro c137
        refine And.intro (by
          have h10 : M1 797 10 = M 797 10 := hf5 797 10 (by omega) (by omega)
          have h27 : M1 797 27 = M 797 27 := hf5 797 27 (by omega) (by omega)
          exact ⟨hLS, hb3, by omega, by omega, by omega, by omega⟩) ?_
        intro M146 hM146
        refine gK _ ⟨M1, ⟨hf5, ⟨hb1, hb2, hb3⟩, hc⟩, ?_⟩
        rw [if_pos (by omega), hM146]
        first
          | rfl
          | (congr 1; first | omega | ((repeat' split) <;> omega))
      · intro c137
        refine And.intro (by
          have h10 : M1 797 10 = M 797 10 := hf5 797 10 (by omega) (by omega)
          have h27 : M1 797 27 = M 797 27 := hf5 797 27 (by omega) (by omega)
          exact ⟨hLS, hb3, by omega, by omega, by omega, by omega⟩) ?_
        intro M146 hM146
        refine gK _ ⟨M1, ⟨hf5, ⟨hb1, hb2, hb3⟩, hc⟩, ?_⟩
        rw [if_pos (by omega), hM146]
        first
          | rfl
          | (congr 1; first | omega | ((repeat' split) <;> omega))
    · intro c127
      refine And.intro (by
        have h10 : M1 797 10 = M 797 10 := hf5 797 10 (by omega) (by omega)
        have h27 : M1 797 27 = M 797 27 := hf5 797 27 (by omega) (by omega)
        exact ⟨hLS, hb3, by omega, by omega, by omega, by omega⟩) ?_
      intro M146 hM146
      refine gK _ ⟨M1, ⟨hf5, ⟨hb1, hb2, hb3⟩, hc⟩, ?_⟩
      rw [if_pos (by omega), hM146]
      first
        | rfl
        | (congr 1; first | omega | ((repeat' split) <;> omega))
  · intro c108
    refine And.intro (by
      first
        | omega
        | (simp [ab_up_a]; done)
        | (simp [ab_up_a]; omega)) ?_
    refine And.intro (by
      first
        | omega
        | (simp [ab_up_a]; done)
        | (simp [ab_up_a]; omega)) ?_
    refine ⟨?_, ?_⟩
    · intro c114
      refine And.intro (by
        first
          | omega
          | (simp [ab_up_a]; done)
          | (simp [ab_up_a]; omega)) ?_
      refine And.intro (by
        first
          | omega
          | (simp [ab_up_a]; done)
          | (simp [ab_up_a]; omega)) ?_
      refine ⟨?_, ?_⟩
      · intro c127
        refine And.intro (by
          first
            | omega
            | (simp [ab_up_a]; done)
            | (simp [ab_up_a]; omega)) ?_
        refine And.intro (by
          first
            | omega
            | (simp [ab_up_a]; done)
            | (simp [ab_up_a]; omega)) ?_
        refine ⟨?_, ?_⟩
        · intro c137
          refine And.intro (by
            have h10 : M1 797 10 = M 797 10 := hf5 797 10 (by omega) (by omega)
            have h27 : M1 797 27 = M 797 27 := hf5 797 27 (by omega) (by omega)
            exact ⟨hLS, hb3, by omega, by omega, by omega, by omega⟩) ?_
          intro M146 hM146
          refine gK _ ⟨M1, ⟨hf5, ⟨hb1, hb2, hb3⟩, hc⟩, ?_⟩
          rw [if_pos (by omega), hM146]
          first
            | rfl
            | (congr 1; first | omega | ((repeat' split) <;> omega))
        · intro c137
          refine And.intro (by
            have h10 : M1 797 10 = M 797 10 := hf5 797 10 (by omega) (by omega)
            have h27 : M1 797 27 = M 797 27 := hf5 797 27 (by omega) (by omega)
            exact ⟨hLS, hb3, by omega, by omega, by omega, by omega⟩) ?_
          intro M146 hM146
          refine gK _ ⟨M1, ⟨hf5, ⟨hb1, hb2, hb3⟩, hc⟩, ?_⟩
          rw [if_pos (by omega), hM146]
          first
            | rfl
            | (congr 1; first | omega | ((repeat' split) <;> omega))
      · intro c127
        refine And.intro (by
          have h10 : M1 797 10 = M 797 10 := hf5 797 10 (by omega) (by omega)
          have h27 : M1 797 27 = M 797 27 := hf5 797 27 (by omega) (by omega)
          exact ⟨hLS, hb3, by omega, by omega, by omega, by omega⟩) ?_
        intro M146 hM146
        refine gK _ ⟨M1, ⟨hf5, ⟨hb1, hb2, hb3⟩, hc⟩, ?_⟩
        rw [if_pos (by omega), hM146]
        first
          | rfl
          | (congr 1; first | omega | ((repeat' split) <;> omega))
    · intro c114
      refine And.intro (by
        first
          | omega
          | (simp [ab_up_a]; done)
          | (simp [ab_up_a]; omega)) ?_
      refine And.intro (by
        first
          | omega
          | (simp [ab_up_a]; done)
          | (simp [ab_up_a]; omega)) ?_
      refine ⟨?_, ?_⟩
      · intro c120
        refine gK _ ⟨M1, ⟨hf5, ⟨hb1, hb2, hb3⟩, hc⟩, ?_⟩
        rw [if_neg (by omega)]
      · intro c120
        refine And.intro (by
          first
            | omega
            | (simp [ab_up_a]; done)
            | (simp [ab_up_a]; omega)) ?_
        refine And.intro (by
          first
            | omega
            | (simp [ab_up_a]; done)
            | (simp [ab_up_a]; omega)) ?_
        refine ⟨?_, ?_⟩
        · intro c127
          refine And.intro (by
            first
              | omega
              | (simp [ab_up_a]; done)
              | (simp [ab_up_a]; omega)) ?_
          refine And.intro (by
            first
              | omega
              | (simp [ab_up_a]; done)
              | (simp [ab_up_a]; omega)) ?_
          refine ⟨?_, ?_⟩
          · intro c137
            refine And.intro (by
              have h10 : M1 797 10 = M 797 10 := hf5 797 10 (by omega) (by omega)
              have h27 : M1 797 27 = M 797 27 := hf5 797 27 (by omega) (by omega)
              exact ⟨hLS, hb3, by omega, by omega, by omega, by omega⟩) ?_
            intro M146 hM146
            refine gK _ ⟨M1, ⟨hf5, ⟨hb1, hb2, hb3⟩, hc⟩, ?_⟩
            rw [if_pos (by omega), hM146]
            first
              | rfl
              | (congr 1; first | omega | ((repeat' split) <;> omega))
          · intro c137
            refine And.intro (by
              have h10 : M1 797 10 = M 797 10 := hf5 797 10 (by omega) (by omega)
              have h27 : M1 797 27 = M 797 27 := hf5 797 27 (by omega) (by omega)
              exact ⟨hLS, hb3, by omega, by omega, by omega, by omega⟩) ?_
            intro M146 hM146
            refine gK _ ⟨M1, ⟨hf5, ⟨hb1, hb2, hb3⟩, hc⟩, ?_⟩
            rw [if_pos (by omega), hM146]
            first
              | rfl
              | (congr 1; first | omega | ((repeat' split) <;> omega))
        · intro c127
          refine And.intro (by
            have h10 : M1 797 10 = M 797 10 := hf5 797 10 (by omega) (by omega)
            have h27 : M1 797 27 = M 797 27 := hf5 797 27 (by omega) (by omega)
            exact ⟨hLS, hb3, by omega, by omega, by omega, by omega⟩) ?_
          intro M146 hM146
          refine gK _ ⟨M1, ⟨hf5, ⟨hb1, hb2, hb3⟩, hc⟩, ?_⟩
          rw [if_pos (by omega), hM146]
          first
            | rfl
            | (congr 1; first | omega | ((repeat' split) <;> omega))

set_option maxRecDepth 20000 in
set_option maxHeartbeats 1000000 in
theorem ok_X9_readRest (E : ab_E) : ab_Ok E 4 175 S_X9_readRest := by
  refine ab_mk rq_X9_readRest tk_X9_readRest (rt := 0) (rfl) (cuts := [15, 55, 70, 105]) (G := [(172, S_X9_readName), (173, S_X9_readOpen), (177, S_X9_readTerm)]) (List.forall_mem_cons.mpr ⟨⟨3, by decide, ok_X9_readName E⟩, List.forall_mem_cons.mpr ⟨⟨2, by decide, ok_X9_readOpen E⟩, List.forall_mem_cons.mpr ⟨⟨3, by decide, ok_X9_readTerm E⟩, fun _ h => absurd h List.not_mem_nil⟩⟩⟩) (by decide) 135 rfl ?_
  intro a M K wd wa hS
  unfold S_X9_readRest at hS
  split at hS
  ·
    rename_i e its
    refine ⟨Nat.le_of_ble_eq_true rfl, fun pc n L st M1 => match pc, L, st with
      | 15, [.inr (.inr (.inr (797, 9, 0))), .inr (.inl e1), .inr (.inl i1)], [] => (n = 4 ∧ e = e1 ∧ its = i1 ∧ pz_c15 M M1 e its)
      | 55, [.inr (.inr (.inr (797, 9, 0))), .inr (.inl e1), .inr (.inl i1)], [] => (n = 3 ∧ e = e1 ∧ its = i1 ∧ pz_c55 M M1 e its)
      | 70, [.inr (.inr (.inr (797, 9, 0))), .inr (.inl e1), .inr (.inl i1)], [] => (n = 2 ∧ e = e1 ∧ its = i1 ∧ pz_c70 M M1 e its)
      | 105, [.inr (.inr (.inr (797, 9, 0))), .inr (.inl e1), .inr (.inl i1)], [] => (n = 1 ∧ e = e1 ∧ its = i1 ∧ pz_c105 M M1 e its)
      | _, _, _ => False, ?_, ?_⟩
    · exact vc_X9_readRest_0 e its M K  hS
    · intro pc n L st M1 hI wd1 wL wst
      (try dsimp only at hI)
      split at hI
      ·
        rename_i e1 i1
        exact vc_X9_readRest_15 e its M K  hS n e1 i1 _ hI
      ·
        rename_i e1 i1
        exact vc_X9_readRest_55 e its M K  hS n e1 i1 _ hI
      ·
        rename_i e1 i1
        exact vc_X9_readRest_70 e its M K  hS n e1 i1 _ hI
      ·
        rename_i e1 i1
        exact vc_X9_readRest_105 e its M K  hS n e1 i1 _ hI
      · exact hI.elim
  · exact hS.elim
