/-! the reference passes a block that opens -/
def S_X9_passOpen : ab_PT := fun a M K => match a with
  | [.inr (.inr (.inr (797, 9, 0))), .inr (.inl e)] => (ev_A M ∧ (0 ≤ e ∧ e < M 797 10) ∧ M 805 e.toNat = 9 ∧ pa_S M e.toNat) ∧ (∀ Mx : ab_M, (pO M Mx e.toNat) → K [] Mx)
  | _ => False
set_option maxRecDepth 20000 in
theorem vc_X9_passOpen_0 (e : Int) (M : ab_M) (K : List ab_V → ab_M → Prop) (hS : (ev_A M ∧ (0 ≤ e ∧ e < M 797 10) ∧ M 805 e.toNat = 9 ∧ pa_S M e.toNat) ∧ (∀ Mx : ab_M, (pO M Mx e.toNat) → K [] Mx)) : (0 ≤ e ∧ e < ((400 : Nat) : Int)) ∧ (0 ≤ (M 797 27) ∧ (M 797 27) < ((130 : Nat) : Int)) ∧ (0 ≤ e ∧ e < ((400 : Nat) : Int)) ∧ (ab_ir (M 806 e.toNat) ∧ ab_ir (1 : Int)) ∧ ((¬ (M 806 e.toNat) = (1 : Int) → (0 ≤ e ∧ e < ((400 : Nat) : Int)) ∧ (ab_ir (M 806 e.toNat) ∧ ab_ir (4 : Int)) ∧ ((¬ (M 806 e.toNat) = (4 : Int) → K [] (ab_up (ab_up M 815 ((M 797 27).toNat) e) 797 27 ((M 797 27) + (1 : Int)))) ∧ ((M 806 e.toNat) = (4 : Int) → (∃ n', ((n' = 10 + (M 797 66 - (0 : Int)).toNat ∧ e = e ∧ (M 812 e.toNat) = M 812 e.toNat ∧ M 806 e.toNat = 4 ∧ 0 ≤ (0 : Int) ∧ (0 : Int) ≤ M 797 66 ∧ (0 : Int) = (((jv_L M (M 812 e.toNat) 0 (0 : Int).toNat).length : Nat) : Int) ∧ (ab_up (ab_up M 815 ((M 797 27).toNat) e) 797 27 ((M 797 27) + (1 : Int))) = (ab_up (ab_up M 815 (M 797 27).toNat e) 797 27 ((M 797 27) + (1 : Int))))))))) ∧ ((M 806 e.toNat) = (1 : Int) → (0 ≤ (M 812 e.toNat) ∧ (M 812 e.toNat) < ((400 : Nat) : Int)) ∧ (ab_ir (M 839 ((M 812 e.toNat).toNat))) ∧ (((M 839 ((M 812 e.toNat).toNat)) = 0 → (0 ≤ e ∧ e < ((400 : Nat) : Int)) ∧ (ab_ir (M 806 e.toNat) ∧ ab_ir (4 : Int)) ∧ ((¬ (M 806 e.toNat) = (4 : Int) → K [] (ab_up (ab_up M 815 ((M 797 27).toNat) e) 797 27 ((M 797 27) + (1 : Int)))) ∧ ((M 806 e.toNat) = (4 : Int) → (∃ n', ((n' = 10 + (M 797 66 - (0 : Int)).toNat ∧ e = e ∧ (M 812 e.toNat) = M 812 e.toNat ∧ M 806 e.toNat = 4 ∧ 0 ≤ (0 : Int) ∧ (0 : Int) ≤ M 797 66 ∧ (0 : Int) = (((jv_L M (M 812 e.toNat) 0 (0 : Int).toNat).length : Nat) : Int) ∧ (ab_up (ab_up M 815 ((M 797 27).toNat) e) 797 27 ((M 797 27) + (1 : Int))) = (ab_up (ab_up M 815 (M 797 27).toNat e) 797 27 ((M 797 27) + (1 : Int))))))))) ∧ (¬ (M 839 ((M 812 e.toNat).toNat)) = 0 → (0 ≤ (M 812 e.toNat) ∧ 4 * (M 812 e.toNat) + 3 < ((1600 : Nat) : Int) ∧ 836 ≠ 834 ∧ (M 812 e.toNat) < 100000) ∧ (∀ M52 : ab_M, (∀ o' k' : Nat, M52 o' k' = if o' = 834 ∧ k' < 4 then (ab_up (ab_up M 815 ((M 797 27).toNat) e) 797 27 ((M 797 27) + (1 : Int))) 836 (4 * (M 812 e.toNat).toNat + k') else (ab_up (ab_up M 815 ((M 797 27).toNat) e) 797 27 ((M 797 27) + (1 : Int))) o' k') → ((1 : Int) = 0 ∨ (1 : Int) = 1) ∧ K [] (ab_up M52 797 57 (1 : Int))))))) := by
  obtain ⟨⟨gA, ⟨ge0, ge1⟩, g9, gS⟩, gK⟩ := hS
  obtain ⟨a0, a1, a2, a3⟩ := id gA
  obtain ⟨b1, b2, -, b5, -, -⟩ := a1 e.toNat (by omega)
  have b5 := b5 (by omega)
  obtain ⟨⟨s1, s2⟩, s3, s4, s5, s6, s7, s8, s9⟩ := id gS
  have hd := a2 e.toNat (by omega)
  have hd1 := a2 (e.toNat + 1) (by omega)
  have htm : M 797 66 ≤ 129 := by
    have h1 := ev_tm_le M (show e.toNat ≤ (M 797 10).toNat by omega)
    omega
  have hee : ((e.toNat : Nat) : Int) = e := by omega
  have h826 := s6 (M 812 e.toNat).toNat
  refine And.intro (by
    first
      | omega
      | exact ⟨by omega, by omega⟩
      | exact ⟨⟨by omega, by omega⟩, by omega, by omega⟩
      | ((try simp only [ab_up_2, Nat.reduceEqDiff, if_true, if_false]); first | omega | exact ⟨by omega, by omega⟩ | exact ⟨⟨by omega, by omega⟩, by omega, by omega⟩ | exact ⟨by omega, by omega, by decide, by omega⟩)
      | (split <;> exact ⟨by decide, by decide⟩)
      | (split <;> first | exact Or.inl rfl | exact Or.inr rfl)) ?_
  refine And.intro (by
    first
      | omega
      | exact ⟨by omega, by omega⟩
      | exact ⟨⟨by omega, by omega⟩, by omega, by omega⟩
      | ((try simp only [ab_up_2, Nat.reduceEqDiff, if_true, if_false]); first | omega | exact ⟨by omega, by omega⟩ | exact ⟨⟨by omega, by omega⟩, by omega, by omega⟩ | exact ⟨by omega, by omega, by decide, by omega⟩)
      | (split <;> exact ⟨by decide, by decide⟩)
      | (split <;> first | exact Or.inl rfl | exact Or.inr rfl)) ?_
  refine And.intro (by
    first
      | omega
      | exact ⟨by omega, by omega⟩
      | exact ⟨⟨by omega, by omega⟩, by omega, by omega⟩
      | ((try simp only [ab_up_2, Nat.reduceEqDiff, if_true, if_false]); first | omega | exact ⟨by omega, by omega⟩ | exact ⟨⟨by omega, by omega⟩, by omega, by omega⟩ | exact ⟨by omega, by omega, by decide, by omega⟩)
      | (split <;> exact ⟨by decide, by decide⟩)
      | (split <;> first | exact Or.inl rfl | exact Or.inr rfl)) ?_
  refine And.intro (by
    first
      | omega
      | exact ⟨by omega, by omega⟩
      | exact ⟨⟨by omega, by omega⟩, by omega, by omega⟩
      | ((try simp only [ab_up_2, Nat.reduceEqDiff, if_true, if_false]); first | omega | exact ⟨by omega, by omega⟩ | exact ⟨⟨by omega, by omega⟩, by omega, by omega⟩ | exact ⟨by omega, by omega, by decide, by omega⟩)
      | (split <;> exact ⟨by decide, by decide⟩)
      | (split <;> first | exact Or.inl rfl | exact Or.inr rfl)) ?_
  refine ⟨?_, ?_⟩
  · intro c34
    refine And.intro (by
      first
        | omega
        | exact ⟨by omega, by omega⟩
        | exact ⟨⟨by omega, by omega⟩, by omega, by omega⟩
        | ((try simp only [ab_up_2, Nat.reduceEqDiff, if_true, if_false]); first | omega | exact ⟨by omega, by omega⟩ | exact ⟨⟨by omega, by omega⟩, by omega, by omega⟩ | exact ⟨by omega, by omega, by decide, by omega⟩)
        | (split <;> exact ⟨by decide, by decide⟩)
        | (split <;> first | exact Or.inl rfl | exact Or.inr rfl)) ?_
    refine And.intro (by
      first
        | omega
        | exact ⟨by omega, by omega⟩
        | exact ⟨⟨by omega, by omega⟩, by omega, by omega⟩
        | ((try simp only [ab_up_2, Nat.reduceEqDiff, if_true, if_false]); first | omega | exact ⟨by omega, by omega⟩ | exact ⟨⟨by omega, by omega⟩, by omega, by omega⟩ | exact ⟨by omega, by omega, by decide, by omega⟩)
        | (split <;> exact ⟨by decide, by decide⟩)
        | (split <;> first | exact Or.inl rfl | exact Or.inr rfl)) ?_
    refine ⟨?_, ?_⟩
    · intro c70
      try simp only [ab_up_o (show (806 : Nat) ≠ 797 by decide), ab_up_o (show (806 : Nat) ≠ 815 by decide), ab_up_o (show (839 : Nat) ≠ 797 by decide), ab_up_o (show (839 : Nat) ≠ 815 by decide)] at *
      refine gK _ ⟨⟨ab_up_s, ?_⟩, fun q => by omega, fun q => by omega, fun _ => ⟨fun v hv => ?_, fun v hv => ?_, ?_, ?_⟩, fun o k q1 q2 q3 q4 => ?_⟩
      · rw [ab_up_o (by decide), ab_up_s]; omega
      · rw [ab_up_o (by decide), ab_up_o (by decide)]
      · rw [ab_up_o (by decide), ab_up_o (by decide)]
      · rw [ab_up_k (by decide), ab_up_o (by decide)]
      · rw [ab_up_k (by decide), ab_up_o (by decide)]
      · rw [up_ne (fun z => q1 ⟨z.1, by omega⟩), up_ne (fun z => q2 z)]
    · intro c70
      refine ⟨_, rfl, rfl, rfl, ?_, by decide, s3.1, rfl, rfl⟩
      first
        | omega
        | assumption
        | (have h := (by assumption : (ab_up _ _ _ _) 806 e.toNat = 4); rw [ab_up_o (by decide), ab_up_o (by decide)] at h; exact h)
  · intro c34
    refine And.intro (by
      first
        | omega
        | exact ⟨by omega, by omega⟩
        | exact ⟨⟨by omega, by omega⟩, by omega, by omega⟩
        | ((try simp only [ab_up_2, Nat.reduceEqDiff, if_true, if_false]); first | omega | exact ⟨by omega, by omega⟩ | exact ⟨⟨by omega, by omega⟩, by omega, by omega⟩ | exact ⟨by omega, by omega, by decide, by omega⟩)
        | (split <;> exact ⟨by decide, by decide⟩)
        | (split <;> first | exact Or.inl rfl | exact Or.inr rfl)) ?_
    refine And.intro (by
      first
        | omega
        | exact ⟨by omega, by omega⟩
        | exact ⟨⟨by omega, by omega⟩, by omega, by omega⟩
        | ((try simp only [ab_up_2, Nat.reduceEqDiff, if_true, if_false]); first | omega | exact ⟨by omega, by omega⟩ | exact ⟨⟨by omega, by omega⟩, by omega, by omega⟩ | exact ⟨by omega, by omega, by decide, by omega⟩)
        | (split <;> exact ⟨by decide, by decide⟩)
        | (split <;> first | exact Or.inl rfl | exact Or.inr rfl)) ?_
    refine ⟨?_, ?_⟩
    · intro c43
      refine And.intro (by
        first
          | omega
          | exact ⟨by omega, by omega⟩
          | exact ⟨⟨by omega, by omega⟩, by omega, by omega⟩
          | ((try simp only [ab_up_2, Nat.reduceEqDiff, if_true, if_false]); first | omega | exact ⟨by omega, by omega⟩ | exact ⟨⟨by omega, by omega⟩, by omega, by omega⟩ | exact ⟨by omega, by omega, by decide, by omega⟩)
          | (split <;> exact ⟨by decide, by decide⟩)
          | (split <;> first | exact Or.inl rfl | exact Or.inr rfl)) ?_
      refine And.intro (by
        first
          | omega
          | exact ⟨by omega, by omega⟩
          | exact ⟨⟨by omega, by omega⟩, by omega, by omega⟩
          | ((try simp only [ab_up_2, Nat.reduceEqDiff, if_true, if_false]); first | omega | exact ⟨by omega, by omega⟩ | exact ⟨⟨by omega, by omega⟩, by omega, by omega⟩ | exact ⟨by omega, by omega, by decide, by omega⟩)
          | (split <;> exact ⟨by decide, by decide⟩)
          | (split <;> first | exact Or.inl rfl | exact Or.inr rfl)) ?_
      refine ⟨?_, ?_⟩
      · intro c70
        try simp only [ab_up_o (show (806 : Nat) ≠ 797 by decide), ab_up_o (show (806 : Nat) ≠ 815 by decide), ab_up_o (show (839 : Nat) ≠ 797 by decide), ab_up_o (show (839 : Nat) ≠ 815 by decide)] at *
        refine gK _ ⟨⟨ab_up_s, ?_⟩, fun q => by omega, fun q => by omega, fun _ => ⟨fun v hv => ?_, fun v hv => ?_, ?_, ?_⟩, fun o k q1 q2 q3 q4 => ?_⟩
        · rw [ab_up_o (by decide), ab_up_s]; omega
        · rw [ab_up_o (by decide), ab_up_o (by decide)]
        · rw [ab_up_o (by decide), ab_up_o (by decide)]
        · rw [ab_up_k (by decide), ab_up_o (by decide)]
        · rw [ab_up_k (by decide), ab_up_o (by decide)]
        · rw [up_ne (fun z => q1 ⟨z.1, by omega⟩), up_ne (fun z => q2 z)]
      · intro c70
        refine ⟨_, rfl, rfl, rfl, ?_, by decide, s3.1, rfl, rfl⟩
        first
          | omega
          | assumption
          | (have h := (by assumption : (ab_up _ _ _ _) 806 e.toNat = 4); rw [ab_up_o (by decide), ab_up_o (by decide)] at h; exact h)
    · intro c43
      refine And.intro (by
        exact ⟨by omega, by omega, by decide, by omega⟩) ?_
      intro M52 hM52
      refine And.intro (by
        first
          | omega
          | exact ⟨by omega, by omega⟩
          | exact ⟨⟨by omega, by omega⟩, by omega, by omega⟩
          | ((try simp only [ab_up_2, Nat.reduceEqDiff, if_true, if_false]); first | omega | exact ⟨by omega, by omega⟩ | exact ⟨⟨by omega, by omega⟩, by omega, by omega⟩ | exact ⟨by omega, by omega, by decide, by omega⟩)
          | (split <;> exact ⟨by decide, by decide⟩)
          | (split <;> first | exact Or.inl rfl | exact Or.inr rfl)) ?_
      try simp only [ab_up_o (show (806 : Nat) ≠ 797 by decide), ab_up_o (show (806 : Nat) ≠ 815 by decide), ab_up_o (show (839 : Nat) ≠ 797 by decide), ab_up_o (show (839 : Nat) ≠ 815 by decide)] at *
      have h826' : M 839 (M 812 e.toNat).toNat = 1 := by omega
      have h793 : M 806 e.toNat = 1 := by omega
      refine gK _ ⟨⟨?_, ?_⟩, fun _ => ⟨fun v hv => ?_, fun v hv => ?_, ab_up_s, ?_⟩, fun q => by omega, fun q => absurd ⟨h793, h826'⟩ q.1, fun o k q1 q2 q3 q4 => ?_⟩
      · rw [ab_up_k (by decide), hM52, if_neg (by omega), ab_up_s]
      · rw [ab_up_o (by decide), hM52, if_neg (by omega), ab_up_o (by decide), ab_up_s]; omega
      · rw [ab_up_o (by decide), hM52, if_pos ⟨rfl, hv⟩, ab_up_o (by decide), ab_up_o (by decide)]
      · rw [ab_up_o (by decide), hM52, if_neg (by omega), ab_up_o (by decide), ab_up_o (by decide)]
      · rw [ab_up_k (by decide), hM52, if_neg (by omega), ab_up_k (by decide), ab_up_o (by decide)]
      · rw [up_ne (fun z => q1 ⟨z.1, by omega⟩), hM52, if_neg (fun z => q3 z), up_ne (fun z => q1 ⟨z.1, by omega⟩), up_ne (fun z => q2 z)]

set_option maxRecDepth 20000 in
theorem vc_X9_passOpen_78 (e : Int) (M : ab_M) (K : List ab_V → ab_M → Prop) (hS : (ev_A M ∧ (0 ≤ e ∧ e < M 797 10) ∧ M 805 e.toNat = 9 ∧ pa_S M e.toNat) ∧ (∀ Mx : ab_M, (pO M Mx e.toNat) → K [] Mx)) (n : Nat) (e1 : Int) (its : Int) (m : Int) (k : Int) (M1 : ab_M) (hI : n = 10 + (M 797 66 - k).toNat ∧ e = e1 ∧ its = M 812 e.toNat ∧ M 806 e.toNat = 4 ∧ 0 ≤ k ∧ k ≤ M 797 66 ∧ m = (((jv_L M its 0 k.toNat).length : Nat) : Int) ∧ M1 = (ab_up (ab_up M 815 (M 797 27).toNat e) 797 27 ((M 797 27) + (1 : Int)))) : (ab_ir k ∧ ab_ir (M1 797 66)) ∧ (((M1 797 66) ≤ k → (ab_ir m) ∧ ((m ≤ 0 → ((0 : Int) = 0 ∨ (0 : Int) = 1) ∧ (∃ n', n' < n ∧ ((n' = (4 - (0 : Int)).toNat ∧ e = e1 ∧ its = M 812 e.toNat ∧ M 806 e.toNat = 4 ∧ 0 ≤ (0 : Int) ∧ (0 : Int) ≤ 4 ∧ m = (((pO_L M its 0).length : Nat) : Int) ∧ (m = 0 → (0 : Int) = 0) ∧ pO_I M (ab_up M1 797 57 (0 : Int)) its e.toNat (0 : Int).toNat)))) ∧ (0 < m → ((1 : Int) = 0 ∨ (1 : Int) = 1) ∧ (∃ n', n' < n ∧ ((n' = (4 - (0 : Int)).toNat ∧ e = e1 ∧ its = M 812 e.toNat ∧ M 806 e.toNat = 4 ∧ 0 ≤ (0 : Int) ∧ (0 : Int) ≤ 4 ∧ m = (((pO_L M its 0).length : Nat) : Int) ∧ (m = 0 → (0 : Int) = 0) ∧ pO_I M (ab_up M1 797 57 (1 : Int)) its e.toNat (0 : Int).toNat)))))) ∧ (k < (M1 797 66) → (0 ≤ k ∧ k < ((130 : Nat) : Int)) ∧ (ab_ir (M1 841 k.toNat) ∧ ab_ir its) ∧ ((¬ (M1 841 k.toNat) = its → (∃ n', n' < n ∧ ((n' = 10 + (M 797 66 - (k + 1)).toNat ∧ e = e1 ∧ its = M 812 e.toNat ∧ M 806 e.toNat = 4 ∧ 0 ≤ (k + 1) ∧ (k + 1) ≤ M 797 66 ∧ (m + (0 : Int)) = (((jv_L M its 0 (k + 1).toNat).length : Nat) : Int) ∧ M1 = (ab_up (ab_up M 815 (M 797 27).toNat e) 797 27 ((M 797 27) + (1 : Int))))))) ∧ ((M1 841 k.toNat) = its → (∃ n', n' < n ∧ ((n' = 10 + (M 797 66 - (k + 1)).toNat ∧ e = e1 ∧ its = M 812 e.toNat ∧ M 806 e.toNat = 4 ∧ 0 ≤ (k + 1) ∧ (k + 1) ≤ M 797 66 ∧ (m + (1 : Int)) = (((jv_L M its 0 (k + 1).toNat).length : Nat) : Int) ∧ M1 = (ab_up (ab_up M 815 (M 797 27).toNat e) 797 27 ((M 797 27) + (1 : Int)))))))))) := by
  obtain ⟨hn, q1, q2, h4, hk0, hk1, hm, hM1⟩ := hI
  subst q1
  subst q2
  subst hM1
  obtain ⟨⟨gA, ⟨ge0, ge1⟩, g9, gS⟩, gK⟩ := hS
  obtain ⟨a0, a1, a2, a3⟩ := id gA
  obtain ⟨b1, b2, -, b5, -, -⟩ := a1 e.toNat (by omega)
  have b5 := b5 (by omega)
  obtain ⟨⟨s1, s2⟩, s3, s4, s5, s6, s7, s8, s9⟩ := id gS
  have hd := a2 e.toNat (by omega)
  have hd1 := a2 (e.toNat + 1) (by omega)
  have htm : M 797 66 ≤ 129 := by
    have h1 := ev_tm_le M (show e.toNat ≤ (M 797 10).toNat by omega)
    omega
  have hee : ((e.toNat : Nat) : Int) = e := by omega
  have h826 := s6 (M 812 e.toNat).toNat
  have hs := fun q : k < M 797 66 => show jv_L M (M 812 e.toNat) 0 (k + 1).toNat = jv_L M (M 812 e.toNat) 0 k.toNat ++ (if M 841 k.toNat = M 812 e.toNat then [M 840 (4 * k.toNat + (0 : Int).toNat)] else []) by
    rw [show (k + 1).toNat = k.toNat + 1 by omega]
    rfl
  have hlen := jv_L_len M (M 812 e.toNat) 0 k.toNat
  have h828 := s9 k.toNat
  refine And.intro (by
    first
      | omega
      | exact ⟨by omega, by omega⟩
      | exact ⟨⟨by omega, by omega⟩, by omega, by omega⟩
      | ((try simp only [ab_up_2, Nat.reduceEqDiff, if_true, if_false]); first | omega | exact ⟨by omega, by omega⟩ | exact ⟨⟨by omega, by omega⟩, by omega, by omega⟩ | exact ⟨by omega, by omega, by decide, by omega⟩)
      | (split <;> exact ⟨by decide, by decide⟩)
      | (split <;> first | exact Or.inl rfl | exact Or.inr rfl)) ?_
  refine ⟨?_, ?_⟩
  · intro c84
    refine And.intro (by
      first
        | omega
        | exact ⟨by omega, by omega⟩
        | exact ⟨⟨by omega, by omega⟩, by omega, by omega⟩
        | ((try simp only [ab_up_2, Nat.reduceEqDiff, if_true, if_false]); first | omega | exact ⟨by omega, by omega⟩ | exact ⟨⟨by omega, by omega⟩, by omega, by omega⟩ | exact ⟨by omega, by omega, by decide, by omega⟩)
        | (split <;> exact ⟨by decide, by decide⟩)
        | (split <;> first | exact Or.inl rfl | exact Or.inr rfl)) ?_
    refine ⟨?_, ?_⟩
    · intro c114
      refine And.intro (by
        first
          | omega
          | exact ⟨by omega, by omega⟩
          | exact ⟨⟨by omega, by omega⟩, by omega, by omega⟩
          | ((try simp only [ab_up_2, Nat.reduceEqDiff, if_true, if_false]); first | omega | exact ⟨by omega, by omega⟩ | exact ⟨⟨by omega, by omega⟩, by omega, by omega⟩ | exact ⟨by omega, by omega, by decide, by omega⟩)
          | (split <;> exact ⟨by decide, by decide⟩)
          | (split <;> first | exact Or.inl rfl | exact Or.inr rfl)) ?_
      have hkt : k = M 797 66 := by first | omega | (rw [ab_up_k (by decide), ab_up_o (by decide)] at c84; omega)
      subst hkt
      have hmz : m = 0 ↔ pO_L M (M 812 e.toNat) 0 = [] := by
        have hm' : m = (((pO_L M (M 812 e.toNat) 0).length : Nat) : Int) := hm
        rw [hm']
        exact ⟨fun z => List.length_eq_zero_iff.1 (by omega), fun z => by rw [z]; rfl⟩
      refine ⟨_, ?_, rfl, rfl, rfl, h4, by decide, by decide, hm, fun _ => rfl, fun w hw => ?_, fun w hw => ?_, ?_, ?_, ⟨?_, ?_⟩, fun o k q1 q2 q3 q4 => ?_⟩
      · omega
      · rw [ab_up_o (by decide), ab_up_o (by decide), ab_up_o (by decide), if_neg (fun z => Nat.not_lt_zero w z.1)]; omega
      · rw [ab_up_o (by decide), ab_up_o (by decide), ab_up_o (by decide), if_neg (show ¬ w < (0 : Int).toNat from Nat.not_lt_zero w)]
      · rw [ab_up_k (by decide), ab_up_k (by decide), ab_up_o (by decide)]
        show _ = _ + _ * ps_cnt (fun w => decide (w < 0) && _)
        rw [ps_cnt_0]; omega
      · rw [ab_up_s]
        first
          | (rw [if_neg (fun z => by have := hmz.2 z; omega)]; done)
          | (rw [if_pos (hmz.1 (by omega))]; done)
      · rw [ab_up_k (by decide), ab_up_s]
      · rw [ab_up_o (by decide), ab_up_o (by decide), ab_up_s]; omega
      · rw [up_ne (fun z => q1 ⟨z.1, by omega⟩), up_ne (fun z => q1 ⟨z.1, by omega⟩), up_ne (fun z => q2 z)]
    · intro c114
      refine And.intro (by
        first
          | omega
          | exact ⟨by omega, by omega⟩
          | exact ⟨⟨by omega, by omega⟩, by omega, by omega⟩
          | ((try simp only [ab_up_2, Nat.reduceEqDiff, if_true, if_false]); first | omega | exact ⟨by omega, by omega⟩ | exact ⟨⟨by omega, by omega⟩, by omega, by omega⟩ | exact ⟨by omega, by omega, by decide, by omega⟩)
          | (split <;> exact ⟨by decide, by decide⟩)
          | (split <;> first | exact Or.inl rfl | exact Or.inr rfl)) ?_
      have hkt : k = M 797 66 := by first | omega | (rw [ab_up_k (by decide), ab_up_o (by decide)] at c84; omega)
      subst hkt
      have hmz : m = 0 ↔ pO_L M (M 812 e.toNat) 0 = [] := by
        have hm' : m = (((pO_L M (M 812 e.toNat) 0).length : Nat) : Int) := hm
        rw [hm']
        exact ⟨fun z => List.length_eq_zero_iff.1 (by omega), fun z => by rw [z]; rfl⟩
      refine ⟨_, ?_, rfl, rfl, rfl, h4, by decide, by decide, hm, fun _ => rfl, fun w hw => ?_, fun w hw => ?_, ?_, ?_, ⟨?_, ?_⟩, fun o k q1 q2 q3 q4 => ?_⟩
      · omega
      · rw [ab_up_o (by decide), ab_up_o (by decide), ab_up_o (by decide), if_neg (fun z => Nat.not_lt_zero w z.1)]; omega
      · rw [ab_up_o (by decide), ab_up_o (by decide), ab_up_o (by decide), if_neg (show ¬ w < (0 : Int).toNat from Nat.not_lt_zero w)]
      · rw [ab_up_k (by decide), ab_up_k (by decide), ab_up_o (by decide)]
        show _ = _ + _ * ps_cnt (fun w => decide (w < 0) && _)
        rw [ps_cnt_0]; omega
      · rw [ab_up_s]
        first
          | (rw [if_neg (fun z => by have := hmz.2 z; omega)]; done)
          | (rw [if_pos (hmz.1 (by omega))]; done)
      · rw [ab_up_k (by decide), ab_up_s]
      · rw [ab_up_o (by decide), ab_up_o (by decide), ab_up_s]; omega
      · rw [up_ne (fun z => q1 ⟨z.1, by omega⟩), up_ne (fun z => q1 ⟨z.1, by omega⟩), up_ne (fun z => q2 z)]
  · intro c84
    refine And.intro (by
      first
        | omega
        | exact ⟨by omega, by omega⟩
        | exact ⟨⟨by omega, by omega⟩, by omega, by omega⟩
        | ((try simp only [ab_up_2, Nat.reduceEqDiff, if_true, if_false]); first | omega | exact ⟨by omega, by omega⟩ | exact ⟨⟨by omega, by omega⟩, by omega, by omega⟩ | exact ⟨by omega, by omega, by decide, by omega⟩)
        | (split <;> exact ⟨by decide, by decide⟩)
        | (split <;> first | exact Or.inl rfl | exact Or.inr rfl)) ?_
    refine And.intro (by
      rw [ab_up_o (by decide), ab_up_o (by decide)]; exact ⟨h828, by omega, by omega⟩) ?_
    refine ⟨?_, ?_⟩
    · intro c96
      have hadd := hs (by first | omega | (rw [ab_up_k (by decide), ab_up_o (by decide)] at c84; omega))
      rw [ab_up_o (by decide), ab_up_o (by decide)] at c96
      refine ⟨_, ?_, rfl, rfl, rfl, h4, by omega, ?_, ?_, rfl⟩
      · first | omega | (rw [ab_up_k (by decide), ab_up_o (by decide)] at c84; omega)
      · first | omega | (rw [ab_up_k (by decide), ab_up_o (by decide)] at c84; omega)
      · rw [hadd, List.length_append, hm]
        first
          | (rw [if_pos c96]; simp only [List.length_cons, List.length_nil]; omega)
          | (rw [if_neg c96]; simp only [List.length_nil]; omega)
    · intro c96
      have hadd := hs (by first | omega | (rw [ab_up_k (by decide), ab_up_o (by decide)] at c84; omega))
      rw [ab_up_o (by decide), ab_up_o (by decide)] at c96
      refine ⟨_, ?_, rfl, rfl, rfl, h4, by omega, ?_, ?_, rfl⟩
      · first | omega | (rw [ab_up_k (by decide), ab_up_o (by decide)] at c84; omega)
      · first | omega | (rw [ab_up_k (by decide), ab_up_o (by decide)] at c84; omega)
      · rw [hadd, List.length_append, hm]
        first
          | (rw [if_pos c96]; simp only [List.length_cons, List.length_nil]; omega)
          | (rw [if_neg c96]; simp only [List.length_nil]; omega)

set_option maxRecDepth 20000 in
theorem vc_X9_passOpen_128 (e : Int) (M : ab_M) (K : List ab_V → ab_M → Prop) (hS : (ev_A M ∧ (0 ≤ e ∧ e < M 797 10) ∧ M 805 e.toNat = 9 ∧ pa_S M e.toNat) ∧ (∀ Mx : ab_M, (pO M Mx e.toNat) → K [] Mx)) (n : Nat) (e1 : Int) (its : Int) (m : Int) (v : Int) (M1 : ab_M) (hI : n = (4 - v).toNat ∧ e = e1 ∧ its = M 812 e.toNat ∧ M 806 e.toNat = 4 ∧ 0 ≤ v ∧ v ≤ 4 ∧ m = (((pO_L M its 0).length : Nat) : Int) ∧ (m = 0 → v = 0) ∧ pO_I M M1 its e.toNat v.toNat) : (ab_ir v ∧ ab_ir (4 : Int)) ∧ (((4 : Int) ≤ v → K [] M1) ∧ (v < (4 : Int) → (ab_ir m) ∧ ((m ≤ 0 → K [] M1) ∧ (0 < m → ((0 ≤ v ∧ v ≤ 3) ∧ (0 : Int) = 0 ∧ (0 ≤ (M1 797 66) ∧ (M1 797 66) ≤ 130) ∧ ab_ir its ∧ ∀ k : Nat, (k : Int) < (M1 797 66) → ab_ir (M1 841 k) ∧ ab_ir (M1 840 (4 * k + v.toNat))) ∧ (∀ M147 : ab_M, ((jv_a (jv_L M1 its v (M1 797 66).toNat) → M147 = ab_up M1 834 v.toNat ((jv_L M1 its v (M1 797 66).toNat).headD (-9))) ∧ (¬ jv_a (jv_L M1 its v (M1 797 66).toNat) → M147 = ab_up (ab_up (ab_up M1 835 v.toNat (M1 835 v.toNat + 1)) 834 v.toNat (M1 835 v.toNat + 1)) 797 58 (M1 797 58 + (((jv_L M1 its v (M1 797 66).toNat).length : Nat) : Int)))) → (∃ n', n' < n ∧ ((n' = (4 - (v + 1)).toNat ∧ e = e1 ∧ its = M 812 e.toNat ∧ M 806 e.toNat = 4 ∧ 0 ≤ (v + 1) ∧ (v + 1) ≤ 4 ∧ m = (((pO_L M its 0).length : Nat) : Int) ∧ (m = 0 → (v + 1) = 0) ∧ pO_I M M147 its e.toNat (v + 1).toNat)))))))) := by
  obtain ⟨hn, q1, q2, h4, hv0, hv1, hm, hmv, hI⟩ := hI
  subst q1
  subst q2
  obtain ⟨⟨gA, ⟨ge0, ge1⟩, g9, gS⟩, gK⟩ := hS
  obtain ⟨a0, a1, a2, a3⟩ := id gA
  obtain ⟨b1, b2, -, b5, -, -⟩ := a1 e.toNat (by omega)
  have b5 := b5 (by omega)
  obtain ⟨⟨s1, s2⟩, s3, s4, s5, s6, s7, s8, s9⟩ := id gS
  have hd := a2 e.toNat (by omega)
  have hd1 := a2 (e.toNat + 1) (by omega)
  have htm : M 797 66 ≤ 129 := by
    have h1 := ev_tm_le M (show e.toNat ≤ (M 797 10).toNat by omega)
    omega
  have hee : ((e.toNat : Nat) : Int) = e := by omega
  have h826 := s6 (M 812 e.toNat).toNat
  have hlen := jv_L_len M (M 812 e.toNat) 0 (M 797 66).toNat
  obtain ⟨i1, i2, i3, i4, i5, i6⟩ := id hI
  have j66 : M1 797 66 = M 797 66 := i6 797 66 (by omega) (by omega) (by omega) (by omega)
  have j827 : ∀ k, M1 840 k = M 840 k := fun k => i6 840 k (by omega) (by omega) (by omega) (by omega)
  have j828 : ∀ k, M1 841 k = M 841 k := fun k => i6 841 k (by omega) (by omega) (by omega) (by omega)
  have hmb : m ≤ 200 := by
    rw [hm]
    have : (pO_L M (M 812 e.toNat) 0).length ≤ (M 797 66).toNat := hlen
    omega
  refine And.intro (by
    first
      | omega
      | exact ⟨by omega, by omega⟩
      | exact ⟨⟨by omega, by omega⟩, by omega, by omega⟩
      | ((try simp only [ab_up_2, Nat.reduceEqDiff, if_true, if_false]); first | omega | exact ⟨by omega, by omega⟩ | exact ⟨⟨by omega, by omega⟩, by omega, by omega⟩ | exact ⟨by omega, by omega, by decide, by omega⟩)
      | (split <;> exact ⟨by decide, by decide⟩)
      | (split <;> first | exact Or.inl rfl | exact Or.inr rfl)) ?_
  refine ⟨?_, ?_⟩
  · intro c131
    have hmz : m = 0 ↔ pO_L M (M 812 e.toNat) 0 = [] := by
      rw [hm]
      constructor
      · intro z; exact List.length_eq_zero_iff.1 (by omega)
      · intro z; rw [z]; rfl
    refine gK _ (hI.done (its := M 812 e.toNat) ?_ h4 rfl)
    by_cases c : m = 0
    · exact Or.inr ⟨by have := hmv c; omega, hmz.1 c⟩
    · exact Or.inl ⟨by omega, fun z => c (hmz.2 z)⟩
  · intro c131
    refine And.intro (by
      first
        | omega
        | exact ⟨by omega, by omega⟩
        | exact ⟨⟨by omega, by omega⟩, by omega, by omega⟩
        | ((try simp only [ab_up_2, Nat.reduceEqDiff, if_true, if_false]); first | omega | exact ⟨by omega, by omega⟩ | exact ⟨⟨by omega, by omega⟩, by omega, by omega⟩ | exact ⟨by omega, by omega, by decide, by omega⟩)
        | (split <;> exact ⟨by decide, by decide⟩)
        | (split <;> first | exact Or.inl rfl | exact Or.inr rfl)) ?_
    refine ⟨?_, ?_⟩
    · intro c135
      have hmz : m = 0 ↔ pO_L M (M 812 e.toNat) 0 = [] := by
        rw [hm]
        constructor
        · intro z; exact List.length_eq_zero_iff.1 (by omega)
        · intro z; rw [z]; rfl
      refine gK _ (hI.done (its := M 812 e.toNat) ?_ h4 rfl)
      by_cases c : m = 0
      · exact Or.inr ⟨by have := hmv c; omega, hmz.1 c⟩
      · exact Or.inl ⟨by omega, fun z => c (hmz.2 z)⟩
    · intro c135
      refine And.intro (by
        refine ⟨⟨by omega, by omega⟩, rfl, ⟨by omega, by omega⟩, ⟨by omega, by omega⟩, fun k _ => ⟨?_, ?_⟩⟩
        · rw [j828]; exact s9 k
        · rw [j827]
          have := (s8 (4 * k + v.toNat)).2.2.2
          exact ⟨by omega, by omega⟩) ?_
      intro M147 hM147
      have hvv : ((v.toNat : Nat) : Int) = v := by omega
      refine ⟨_, ?_, rfl, rfl, rfl, h4, by omega, by omega, hm, fun z => by omega, ?_⟩
      · omega
      rw [show (v + 1).toNat = v.toNat + 1 by omega]
      rw [j66] at hM147
      rw [jv_L_fr j827 j828] at hM147
      refine hI.next (its := M 812 e.toNat) (by omega) (fun z => ?_) (fun z => ?_)
      · have z2 : jv_a (jv_L M (M 812 e.toNat) v (M 797 66).toNat) := by
          have z3 : jv_a (jv_L M (M 812 e.toNat) ((v.toNat : Nat) : Int) (M 797 66).toNat) := z
          rw [hvv] at z3; exact z3
        rw [hM147.1 z2]
        show _ = ab_up M1 834 v.toNat ((jv_L M (M 812 e.toNat) ((v.toNat : Nat) : Int) (M 797 66).toNat).headD (-9))
        rw [hvv]
      · have z2 : ¬ jv_a (jv_L M (M 812 e.toNat) v (M 797 66).toNat) := fun w => z (by
          show jv_a (jv_L M (M 812 e.toNat) ((v.toNat : Nat) : Int) (M 797 66).toNat)
          rw [hvv]; exact w)
        rw [hM147.2 z2, jv_len_eq M (M 812 e.toNat) v 0]
        rfl

set_option maxRecDepth 20000 in
set_option maxHeartbeats 1000000 in
theorem ok_X9_passOpen (E : ab_E) : ab_Ok E 3 167 S_X9_passOpen := by
  refine ab_mk rq_X9_passOpen tk_X9_passOpen (rt := 0) (rfl) (cuts := [78, 128]) (G := [(152, S_X9_joinVariable), (158, S_X9_layVersions)]) (List.forall_mem_cons.mpr ⟨⟨2, by decide, ok_X9_joinVariable E⟩, List.forall_mem_cons.mpr ⟨⟨1, by decide, ok_X9_layVersions E⟩, fun _ h => absurd h List.not_mem_nil⟩⟩) (by decide) 139 rfl ?_
  intro a M K wd wa hS
  unfold S_X9_passOpen at hS
  split at hS
  ·
    rename_i e
    refine ⟨Nat.le_of_ble_eq_true rfl, fun pc n L st M1 => match pc, L, st with
      | 78, [.inr (.inr (.inr (797, 9, 0))), .inr (.inl e1), .inr (.inl its), .inr (.inl m), .inr (.inl k)], [] => (n = 10 + (M 797 66 - k).toNat ∧ e = e1 ∧ its = M 812 e.toNat ∧ M 806 e.toNat = 4 ∧ 0 ≤ k ∧ k ≤ M 797 66 ∧ m = (((jv_L M its 0 k.toNat).length : Nat) : Int) ∧ M1 = (ab_up (ab_up M 815 (M 797 27).toNat e) 797 27 ((M 797 27) + (1 : Int))))
      | 128, [.inr (.inr (.inr (797, 9, 0))), .inr (.inl e1), .inr (.inl its), .inr (.inl m), .inr (.inl v)], [] => (n = (4 - v).toNat ∧ e = e1 ∧ its = M 812 e.toNat ∧ M 806 e.toNat = 4 ∧ 0 ≤ v ∧ v ≤ 4 ∧ m = (((pO_L M its 0).length : Nat) : Int) ∧ (m = 0 → v = 0) ∧ pO_I M M1 its e.toNat v.toNat)
      | _, _, _ => False, ?_, ?_⟩
    · exact vc_X9_passOpen_0 e M K  hS
    · intro pc n L st M1 hI wd1 wL wst
      (try dsimp only at hI)
      split at hI
      ·
        rename_i e1 its m k
        exact vc_X9_passOpen_78 e M K  hS n e1 its m k _ hI
      ·
        rename_i e1 its m v
        exact vc_X9_passOpen_128 e M K  hS n e1 its m v _ hI
      · exact hI.elim
  · exact hS.elim
