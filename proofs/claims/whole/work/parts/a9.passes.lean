/-! the reference passes all events -/
theorem pa_S.at {M : ab_M} {e : Nat} {x : Int} (h : pa_S M e) (hx : x = 0 ∨ x = 1) : pa_S (ab_up M 839 e x) e := by
  obtain ⟨⟨s1, s2⟩, s3, s4, s5, s6, s7, s8, s9⟩ := h
  have g : ∀ o k : Nat, o ≠ 839 → ab_up M 839 e x o k = M o k := fun o k q => ab_up_o q _
  have h792 : ∀ k, ab_up M 839 e x 805 k = M 805 k := fun k => g _ _ (by decide)
  refine ⟨⟨by rw [g _ _ (by decide), ev_dm_fr h792]; exact s1, fun k hk => by rw [g _ _ (by decide)] at hk ⊢; exact s2 k hk⟩, by rw [g _ _ (by decide), ev_tm_fr h792]; exact s3, by rw [g _ _ (by decide)]; exact s4, fun i => by rw [g _ _ (by decide)]; exact s5 i, fun i => ?_, fun v hv => by rw [g _ _ (by decide)]; exact s7 v hv, fun j => by rw [g _ _ (by decide), g _ _ (by decide), g _ _ (by decide), g _ _ (by decide)]; exact s8 j, fun j => by rw [g _ _ (by decide)]; exact s9 j⟩
  by_cases w : i = e
  · rw [w, ab_up_s]; exact hx
  · rw [ab_up_k w]; exact s6 i
/-- what the reference's rows for this keep -/
def pa_G (M : ab_M) : Prop := (∀ i, M 838 i = 0 ∨ M 838 i = 1) ∧ (∀ i, M 839 i = 0 ∨ M 839 i = 1) ∧ (∀ j, (-9 ≤ M 834 j ∧ M 834 j ≤ 1000) ∧ (-9 ≤ M 836 j ∧ M 836 j ≤ 1000) ∧ (-9 ≤ M 837 j ∧ M 837 j ≤ 1000) ∧ (-9 ≤ M 840 j ∧ M 840 j ≤ 1000)) ∧ ∀ j, ab_ir (M 841 j)
theorem pa_S.G {M : ab_M} {e : Nat} (h : pa_S M e) : pa_G M := ⟨h.2.2.2.1, h.2.2.2.2.1, h.2.2.2.2.2.2.1, h.2.2.2.2.2.2.2⟩
/-- over the first events -/
def pa_C (N : ab_M) (n : Nat) (M' : ab_M) : Prop := ∃ m : Nat → ab_M, m 0 = N ∧ (∀ i, i < n → pR i (m i) (m (i + 1))) ∧ m n = M'
theorem pa_C.next {N M1 M2 : ab_M} {n : Nat} (h : pa_C N n M1) (hR : pR n M1 M2) : pa_C N (n + 1) M2 := by
  obtain ⟨m, h1, h2, h3⟩ := h
  refine ⟨fun i => if i ≤ n then m i else M2, by show (if 0 ≤ n then m 0 else M2) = N; rw [if_pos (Nat.zero_le _)]; exact h1, fun i hi => ?_, if_neg (by omega)⟩
  show pR i (if i ≤ n then m i else M2) (if i + 1 ≤ n then m (i + 1) else M2)
  rw [if_pos (by omega)]
  by_cases c : i = n
  · subst c
    rw [if_neg (by omega), h3]; exact hR
  · rw [if_pos (by omega)]; exact h2 i (by omega)
/-- the beginning -/
def pa_N (N N1 : ab_M) : Prop := ∀ o k : Nat, N1 o k = if o = 797 ∧ (k = 31 ∨ k = 57) then 1 else if o = 797 ∧ (k = 58 ∨ k = 59 ∨ k = 66 ∨ k = 27) then 0 else if (o = 834 ∨ o = 835) ∧ k < 4 then 0 else N o k
def pa_P (M M' : ab_M) : Prop := ∃ N, pz_rdn M N ∧ ((N 797 31 = 1 ∧ M' = N) ∨ (N 797 31 = 0 ∧ ∃ N1, pa_N N N1 ∧ pa_C N1 (N 797 10).toNat M' ∧ pa_S M' (N 797 10).toNat ∧ ev_E N1 M'))
theorem pa_N.E {N N1 : ab_M} (h : pa_N N N1) : ev_E N N1 := by
  refine ⟨fun o k a b => ?_, ?_⟩
  · rw [h, if_neg (by omega), if_neg (by omega), if_neg (by omega)]
  · rw [h, if_neg (by omega), if_neg (by omega), if_neg (by omega)]
theorem pa_N.S {N N1 : ab_M} (h : pa_N N N1) (hG : pa_G N) : pa_S N1 0 ∧ pa_O N1 := by
  obtain ⟨g1, g2, g3, g4⟩ := hG
  have h27 : N1 797 27 = 0 := by rw [h, if_neg (by omega), if_pos (by omega)]
  have hn : ∀ o k : Nat, o ≠ 797 → o ≠ 834 → o ≠ 835 → N1 o k = N o k := fun o k a b c => by rw [h, if_neg (by omega), if_neg (by omega), if_neg (by omega)]
  refine ⟨⟨⟨h27, fun k hk => by omega⟩, ?_, ?_, fun i => by rw [hn _ _ (by decide) (by decide) (by decide)]; exact g1 i, fun i => by rw [hn _ _ (by decide) (by decide) (by decide)]; exact g2 i, fun v hv => ?_, fun j => ⟨?_, ?_, ?_, ?_⟩, fun j => by rw [hn _ _ (by decide) (by decide) (by decide)]; exact g4 j⟩, fun k hk => by omega⟩
  · rw [h, if_neg (by omega), if_pos (by omega)]
    exact ⟨Int.le_refl _, Int.le_refl _⟩
  · rw [h, if_pos (by omega)]; exact Or.inr rfl
  · rw [h, if_neg (by omega), if_neg (by omega), if_pos ⟨Or.inr rfl, hv⟩]; exact ⟨Int.le_refl _, Int.le_refl _⟩
  · rw [h, if_neg (by omega), if_neg (by omega)]
    split
    · exact ⟨by decide, by decide⟩
    · exact (g3 j).1
  · rw [hn _ _ (by decide) (by decide) (by decide)]; exact (g3 j).2.1
  · rw [hn _ _ (by decide) (by decide) (by decide)]; exact (g3 j).2.2.1
  · rw [hn _ _ (by decide) (by decide) (by decide)]; exact (g3 j).2.2.2
theorem pa_G.rd {M N : ab_M} (h : pa_G M) (hr : pz_rdn M N) : pa_G N := by
  have f : ∀ o k : Nat, 816 ≤ o → N o k = M o k := fun o k q => hr.2.1.1 o k (by omega) (by omega) (by omega)
  obtain ⟨g1, g2, g3, g4⟩ := h
  refine ⟨fun i => by rw [f _ _ (by decide)]; exact g1 i, fun i => by rw [f _ _ (by decide)]; exact g2 i, fun j => ?_, fun j => by rw [f _ _ (by decide)]; exact g4 j⟩
  rw [f _ _ (by decide), f _ _ (by decide), f _ _ (by decide), f _ _ (by decide)]
  exact g3 j

def S_X9_passClose : ab_PT := fun a M K => match a with
  | [.inr (.inr (.inr (797, 9, 0))), .inr (.inl e)] => (ev_A M ∧ (0 ≤ e ∧ e < M 797 10) ∧ M 805 e.toNat = 10 ∧ pa_S M e.toNat) ∧ (∀ Mx : ab_M, (pC M Mx e.toNat) → K [] Mx)
  | _ => False
set_option maxRecDepth 20000 in
theorem vc_X9_passClose_0 (e : Int) (M : ab_M) (K : List ab_V → ab_M → Prop) (hS : (ev_A M ∧ (0 ≤ e ∧ e < M 797 10) ∧ M 805 e.toNat = 10 ∧ pa_S M e.toNat) ∧ (∀ Mx : ab_M, (pC M Mx e.toNat) → K [] Mx)) : (0 ≤ e ∧ e < ((400 : Nat) : Int)) ∧ (0 ≤ e ∧ e < ((400 : Nat) : Int)) ∧ (ab_ir (M 806 e.toNat)) ∧ (((M 806 e.toNat) = 0 → ((0 ≤ (M 812 e.toNat) ∧ (M 812 e.toNat) < ((400 : Nat) : Int)) ∧ ((M 797 57) = 0 ∨ (M 797 57) = 1)) ∧ (0 ≤ (M 812 e.toNat) ∧ 4 * (M 812 e.toNat) + 3 < ((1600 : Nat) : Int) ∧ 837 ≠ 834 ∧ (M 812 e.toNat) < 100000) ∧ (∀ M52 : ab_M, (∀ o' k' : Nat, M52 o' k' = if o' = 837 ∧ 4 * (M 812 e.toNat).toNat ≤ k' ∧ k' < 4 * (M 812 e.toNat).toNat + 4 then (ab_up (ab_up M 797 27 ((M 797 27) - (1 : Int))) 838 ((M 812 e.toNat).toNat) (M 797 57)) 834 (k' - 4 * (M 812 e.toNat).toNat) else (ab_up (ab_up M 797 27 ((M 797 27) - (1 : Int))) 838 ((M 812 e.toNat).toNat) (M 797 57)) o' k') → K [] M52)) ∧ (¬ (M 806 e.toNat) = 0 → (0 ≤ e ∧ e < ((400 : Nat) : Int)) ∧ (ab_ir (M 806 e.toNat) ∧ ab_ir (3 : Int)) ∧ ((¬ (M 806 e.toNat) = (3 : Int) → (0 ≤ e ∧ e < ((400 : Nat) : Int)) ∧ (ab_ir (M 806 e.toNat) ∧ ab_ir (2 : Int)) ∧ ((¬ (M 806 e.toNat) = (2 : Int) → ((0 ≤ (M 812 e.toNat) ∧ (M 812 e.toNat) < 400) ∧ ((ab_up M 797 27 ((M 797 27) - (1 : Int))) 838 (M 812 e.toNat).toNat = 0 ∨ (ab_up M 797 27 ((M 797 27) - (1 : Int))) 838 (M 812 e.toNat).toNat = 1) ∧ ((ab_up M 797 27 ((M 797 27) - (1 : Int))) 797 57 = 0 ∨ (ab_up M 797 27 ((M 797 27) - (1 : Int))) 797 57 = 1) ∧ ∀ v : Nat, v < 4 → ab_ir ((ab_up M 797 27 ((M 797 27) - (1 : Int))) 837 (4 * (M 812 e.toNat).toNat + v)) ∧ ab_ir ((ab_up M 797 27 ((M 797 27) - (1 : Int))) 834 v) ∧ ab_ir ((ab_up M 797 27 ((M 797 27) - (1 : Int))) 835 v + 1)) ∧ (∀ M99 : ab_M, (jb_P (ab_up M 797 27 ((M 797 27) - (1 : Int))) M99 (M 812 e.toNat).toNat) → K [] M99)) ∧ ((M 806 e.toNat) = (2 : Int) → (0 ≤ (M 812 e.toNat) ∧ (M 812 e.toNat) < ((400 : Nat) : Int)) ∧ ((M 839 ((M 812 e.toNat).toNat)) = 0 ∨ (M 839 ((M 812 e.toNat).toNat)) = 1) ∧ (ab_ir (M 839 ((M 812 e.toNat).toNat))) ∧ (((M 839 ((M 812 e.toNat).toNat)) = 0 → K [] (ab_up (ab_up M 797 27 ((M 797 27) - (1 : Int))) 797 57 (M 839 ((M 812 e.toNat).toNat)))) ∧ (¬ (M 839 ((M 812 e.toNat).toNat)) = 0 → (0 ≤ (M 812 e.toNat) ∧ 4 * (M 812 e.toNat) + 3 < ((1600 : Nat) : Int) ∧ 836 ≠ 834 ∧ (M 812 e.toNat) < 100000) ∧ (∀ M91 : ab_M, (∀ o' k' : Nat, M91 o' k' = if o' = 834 ∧ k' < 4 then (ab_up (ab_up M 797 27 ((M 797 27) - (1 : Int))) 797 57 (M 839 ((M 812 e.toNat).toNat))) 836 (4 * (M 812 e.toNat).toNat + k') else (ab_up (ab_up M 797 27 ((M 797 27) - (1 : Int))) 797 57 (M 839 ((M 812 e.toNat).toNat))) o' k') → K [] M91)))))) ∧ ((M 806 e.toNat) = (3 : Int) → ((0 ≤ (M 812 e.toNat) ∧ (M 812 e.toNat) < ((400 : Nat) : Int)) ∧ ((M 797 57) = 0 ∨ (M 797 57) = 1)) ∧ (0 ≤ (M 812 e.toNat) ∧ 4 * (M 812 e.toNat) + 3 < ((1600 : Nat) : Int) ∧ 837 ≠ 834 ∧ (M 812 e.toNat) < 100000) ∧ (∀ M52 : ab_M, (∀ o' k' : Nat, M52 o' k' = if o' = 837 ∧ 4 * (M 812 e.toNat).toNat ≤ k' ∧ k' < 4 * (M 812 e.toNat).toNat + 4 then (ab_up (ab_up M 797 27 ((M 797 27) - (1 : Int))) 838 ((M 812 e.toNat).toNat) (M 797 57)) 834 (k' - 4 * (M 812 e.toNat).toNat) else (ab_up (ab_up M 797 27 ((M 797 27) - (1 : Int))) 838 ((M 812 e.toNat).toNat) (M 797 57)) o' k') → K [] M52))))) := by
  obtain ⟨⟨gA, ⟨ge0, ge1⟩, g9, gS⟩, gK⟩ := hS
  obtain ⟨a0, a1, a2, a3⟩ := id gA
  obtain ⟨b1, b2, -, b5, -, -⟩ := a1 e.toNat (by omega)
  have b5 := b5 (by omega)
  obtain ⟨⟨s1, s2⟩, s3, s4, s5, s6, s7, s8, s9⟩ := id gS
  have hd := a2 e.toNat (by omega)
  have hd1 := a2 (e.toNat + 1) (by omega)
  have htm : M 797 66 ≤ 129 := by
    have h1 := ev_tm_le M (show e.toNat ≤ (M 797 10).toNat by omega)
    omega
  have hee : ((e.toNat : Nat) : Int) = e := by omega
  have h826 := s6 (M 812 e.toNat).toNat
  clear h826
  have h826 := s6 (M 812 e.toNat).toNat
  refine And.intro (by
    first
      | omega
      | exact ⟨by omega, by omega⟩
      | exact ⟨⟨by omega, by omega⟩, by omega, by omega⟩
      | ((try simp only [ab_up_2, Nat.reduceEqDiff, if_true, if_false]); first | omega | exact ⟨by omega, by omega⟩ | exact ⟨⟨by omega, by omega⟩, by omega, by omega⟩ | exact ⟨by omega, by omega, by decide, by omega⟩)
      | (split <;> exact ⟨by decide, by decide⟩)
      | (split <;> first | exact Or.inl rfl | exact Or.inr rfl)) ?_
  refine And.intro (by
    first
      | omega
      | exact ⟨by omega, by omega⟩
      | exact ⟨⟨by omega, by omega⟩, by omega, by omega⟩
      | ((try simp only [ab_up_2, Nat.reduceEqDiff, if_true, if_false]); first | omega | exact ⟨by omega, by omega⟩ | exact ⟨⟨by omega, by omega⟩, by omega, by omega⟩ | exact ⟨by omega, by omega, by decide, by omega⟩)
      | (split <;> exact ⟨by decide, by decide⟩)
      | (split <;> first | exact Or.inl rfl | exact Or.inr rfl)) ?_
  refine And.intro (by
    first
      | omega
      | exact ⟨by omega, by omega⟩
      | exact ⟨⟨by omega, by omega⟩, by omega, by omega⟩
      | ((try simp only [ab_up_2, Nat.reduceEqDiff, if_true, if_false]); first | omega | exact ⟨by omega, by omega⟩ | exact ⟨⟨by omega, by omega⟩, by omega, by omega⟩ | exact ⟨by omega, by omega, by decide, by omega⟩)
      | (split <;> exact ⟨by decide, by decide⟩)
      | (split <;> first | exact Or.inl rfl | exact Or.inr rfl)) ?_
  refine ⟨?_, ?_⟩
  · intro c23
    refine And.intro (by
      first
        | omega
        | exact ⟨by omega, by omega⟩
        | exact ⟨⟨by omega, by omega⟩, by omega, by omega⟩
        | ((try simp only [ab_up_2, Nat.reduceEqDiff, if_true, if_false]); first | omega | exact ⟨by omega, by omega⟩ | exact ⟨⟨by omega, by omega⟩, by omega, by omega⟩ | exact ⟨by omega, by omega, by decide, by omega⟩)
        | (split <;> exact ⟨by decide, by decide⟩)
        | (split <;> first | exact Or.inl rfl | exact Or.inr rfl)) ?_
    refine And.intro (by
      first
        | omega
        | exact ⟨by omega, by omega⟩
        | exact ⟨⟨by omega, by omega⟩, by omega, by omega⟩
        | ((try simp only [ab_up_2, Nat.reduceEqDiff, if_true, if_false]); first | omega | exact ⟨by omega, by omega⟩ | exact ⟨⟨by omega, by omega⟩, by omega, by omega⟩ | exact ⟨by omega, by omega, by decide, by omega⟩)
        | (split <;> exact ⟨by decide, by decide⟩)
        | (split <;> first | exact Or.inl rfl | exact Or.inr rfl)) ?_
    intro M52 hM52
    refine gK _ ⟨fun _ o k => ?_, fun q => by omega, fun q => by omega⟩
    rw [hM52, ab_up_o (by decide), ab_up_o (by decide)]
  · intro c23
    refine And.intro (by
      first
        | omega
        | exact ⟨by omega, by omega⟩
        | exact ⟨⟨by omega, by omega⟩, by omega, by omega⟩
        | ((try simp only [ab_up_2, Nat.reduceEqDiff, if_true, if_false]); first | omega | exact ⟨by omega, by omega⟩ | exact ⟨⟨by omega, by omega⟩, by omega, by omega⟩ | exact ⟨by omega, by omega, by decide, by omega⟩)
        | (split <;> exact ⟨by decide, by decide⟩)
        | (split <;> first | exact Or.inl rfl | exact Or.inr rfl)) ?_
    refine And.intro (by
      first
        | omega
        | exact ⟨by omega, by omega⟩
        | exact ⟨⟨by omega, by omega⟩, by omega, by omega⟩
        | ((try simp only [ab_up_2, Nat.reduceEqDiff, if_true, if_false]); first | omega | exact ⟨by omega, by omega⟩ | exact ⟨⟨by omega, by omega⟩, by omega, by omega⟩ | exact ⟨by omega, by omega, by decide, by omega⟩)
        | (split <;> exact ⟨by decide, by decide⟩)
        | (split <;> first | exact Or.inl rfl | exact Or.inr rfl)) ?_
    refine ⟨?_, ?_⟩
    · intro c33
      refine And.intro (by
        first
          | omega
          | exact ⟨by omega, by omega⟩
          | exact ⟨⟨by omega, by omega⟩, by omega, by omega⟩
          | ((try simp only [ab_up_2, Nat.reduceEqDiff, if_true, if_false]); first | omega | exact ⟨by omega, by omega⟩ | exact ⟨⟨by omega, by omega⟩, by omega, by omega⟩ | exact ⟨by omega, by omega, by decide, by omega⟩)
          | (split <;> exact ⟨by decide, by decide⟩)
          | (split <;> first | exact Or.inl rfl | exact Or.inr rfl)) ?_
      refine And.intro (by
        first
          | omega
          | exact ⟨by omega, by omega⟩
          | exact ⟨⟨by omega, by omega⟩, by omega, by omega⟩
          | ((try simp only [ab_up_2, Nat.reduceEqDiff, if_true, if_false]); first | omega | exact ⟨by omega, by omega⟩ | exact ⟨⟨by omega, by omega⟩, by omega, by omega⟩ | exact ⟨by omega, by omega, by decide, by omega⟩)
          | (split <;> exact ⟨by decide, by decide⟩)
          | (split <;> first | exact Or.inl rfl | exact Or.inr rfl)) ?_
      refine ⟨?_, ?_⟩
      · intro c65
        refine And.intro (by
          refine ⟨⟨by omega, by omega⟩, ?_, ?_, fun v hv => ⟨?_, ?_, ?_⟩⟩
          · rw [ab_up_o (by decide)]; exact s5 _
          · rw [ab_up_k (by decide)]; exact s4
          · rw [ab_up_o (by decide)]; have := (s8 (4 * (M 812 e.toNat).toNat + v)).2.2.1; exact ⟨by omega, by omega⟩
          · rw [ab_up_o (by decide)]; have := (s8 v).1; exact ⟨by omega, by omega⟩
          · rw [ab_up_o (by decide)]; have := s7 v hv; exact ⟨by omega, by omega⟩) ?_
        intro M99 hM99
        refine gK _ ⟨fun q => by omega, fun q => by omega, fun _ => ?_⟩
        exact hM99
      · intro c65
        refine And.intro (by
          first
            | omega
            | exact ⟨by omega, by omega⟩
            | exact ⟨⟨by omega, by omega⟩, by omega, by omega⟩
            | ((try simp only [ab_up_2, Nat.reduceEqDiff, if_true, if_false]); first | omega | exact ⟨by omega, by omega⟩ | exact ⟨⟨by omega, by omega⟩, by omega, by omega⟩ | exact ⟨by omega, by omega, by decide, by omega⟩)
            | (split <;> exact ⟨by decide, by decide⟩)
            | (split <;> first | exact Or.inl rfl | exact Or.inr rfl)) ?_
        refine And.intro (by
          first
            | omega
            | exact ⟨by omega, by omega⟩
            | exact ⟨⟨by omega, by omega⟩, by omega, by omega⟩
            | ((try simp only [ab_up_2, Nat.reduceEqDiff, if_true, if_false]); first | omega | exact ⟨by omega, by omega⟩ | exact ⟨⟨by omega, by omega⟩, by omega, by omega⟩ | exact ⟨by omega, by omega, by decide, by omega⟩)
            | (split <;> exact ⟨by decide, by decide⟩)
            | (split <;> first | exact Or.inl rfl | exact Or.inr rfl)) ?_
        refine And.intro (by
          first
            | omega
            | exact ⟨by omega, by omega⟩
            | exact ⟨⟨by omega, by omega⟩, by omega, by omega⟩
            | ((try simp only [ab_up_2, Nat.reduceEqDiff, if_true, if_false]); first | omega | exact ⟨by omega, by omega⟩ | exact ⟨⟨by omega, by omega⟩, by omega, by omega⟩ | exact ⟨by omega, by omega, by decide, by omega⟩)
            | (split <;> exact ⟨by decide, by decide⟩)
            | (split <;> first | exact Or.inl rfl | exact Or.inr rfl)) ?_
        refine ⟨?_, ?_⟩
        · intro c82
          have hz : M 839 (M 812 e.toNat).toNat = 0 := by
            first
              | assumption
              | (rw [ab_up_s] at c82; assumption)
          refine gK _ ⟨fun q => by omega, fun _ => ⟨fun q => by omega, fun _ => ?_⟩, fun q => by omega⟩
          try rw [hz]
        · intro c82
          refine And.intro (by
            first
              | omega
              | exact ⟨by omega, by omega⟩
              | exact ⟨⟨by omega, by omega⟩, by omega, by omega⟩
              | ((try simp only [ab_up_2, Nat.reduceEqDiff, if_true, if_false]); first | omega | exact ⟨by omega, by omega⟩ | exact ⟨⟨by omega, by omega⟩, by omega, by omega⟩ | exact ⟨by omega, by omega, by decide, by omega⟩)
              | (split <;> exact ⟨by decide, by decide⟩)
              | (split <;> first | exact Or.inl rfl | exact Or.inr rfl)) ?_
          intro M91 hM91
          have hz : M 839 (M 812 e.toNat).toNat = 1 := by
            first
              | omega
              | (rw [ab_up_s] at c82; omega)
          refine gK _ ⟨fun q => by omega, fun _ => ⟨fun _ o k => ?_, fun q => by omega⟩, fun q => by omega⟩
          rw [hM91, ab_up_o (by decide), ab_up_o (by decide)]
          try rw [hz]
    · intro c33
      refine And.intro (by
        first
          | omega
          | exact ⟨by omega, by omega⟩
          | exact ⟨⟨by omega, by omega⟩, by omega, by omega⟩
          | ((try simp only [ab_up_2, Nat.reduceEqDiff, if_true, if_false]); first | omega | exact ⟨by omega, by omega⟩ | exact ⟨⟨by omega, by omega⟩, by omega, by omega⟩ | exact ⟨by omega, by omega, by decide, by omega⟩)
          | (split <;> exact ⟨by decide, by decide⟩)
          | (split <;> first | exact Or.inl rfl | exact Or.inr rfl)) ?_
      refine And.intro (by
        first
          | omega
          | exact ⟨by omega, by omega⟩
          | exact ⟨⟨by omega, by omega⟩, by omega, by omega⟩
          | ((try simp only [ab_up_2, Nat.reduceEqDiff, if_true, if_false]); first | omega | exact ⟨by omega, by omega⟩ | exact ⟨⟨by omega, by omega⟩, by omega, by omega⟩ | exact ⟨by omega, by omega, by decide, by omega⟩)
          | (split <;> exact ⟨by decide, by decide⟩)
          | (split <;> first | exact Or.inl rfl | exact Or.inr rfl)) ?_
      intro M52 hM52
      refine gK _ ⟨fun _ o k => ?_, fun q => by omega, fun q => by omega⟩
      rw [hM52, ab_up_o (by decide), ab_up_o (by decide)]

set_option maxRecDepth 20000 in
set_option maxHeartbeats 1000000 in
theorem ok_X9_passClose (E : ab_E) : ab_Ok E 3 166 S_X9_passClose := by
  refine ab_mk rq_X9_passClose tk_X9_passClose (rt := 0) (rfl) (cuts := []) (G := [(151, S_X9_joinBoth), (154, S_X9_keepVersions), (158, S_X9_layVersions)]) (List.forall_mem_cons.mpr ⟨⟨2, by decide, ok_X9_joinBoth E⟩, List.forall_mem_cons.mpr ⟨⟨1, by decide, ok_X9_keepVersions E⟩, List.forall_mem_cons.mpr ⟨⟨1, by decide, ok_X9_layVersions E⟩, fun _ h => absurd h List.not_mem_nil⟩⟩⟩) (by decide) 109 rfl ?_
  intro a M K wd wa hS
  unfold S_X9_passClose at hS
  split at hS
  ·
    rename_i e
    refine ⟨Nat.le_of_ble_eq_true rfl, fun _ _ _ _ _ => False, ?_, ?_⟩
    · exact vc_X9_passClose_0 e M K  hS
    · exact fun _ _ _ _ _ h => h.elim
  · exact hS.elim
def S_X9_pass : ab_PT := fun a M K => match a with
  | [.inr (.inr (.inr (797, 9, 0)))] => (pz_PR M ∧ (∀ N, pz_rdn M N → ev_A N) ∧ pa_G M ∧ (M 797 31 = 0 ∨ M 797 31 = 1)) ∧ (∀ Mx : ab_M, (pa_P M Mx) → K [] Mx)
  | _ => False
set_option maxRecDepth 20000 in
theorem vc_X9_pass_0  (M : ab_M) (K : List ab_V → ab_M → Prop) (hS : (pz_PR M ∧ (∀ N, pz_rdn M N → ev_A N) ∧ pa_G M ∧ (M 797 31 = 0 ∨ M 797 31 = 1)) ∧ (∀ Mx : ab_M, (pa_P M Mx) → K [] Mx)) : (pz_PR M) ∧ (∀ M1 : ab_M, (pz_rdn M M1) → (ab_ir (M1 797 31)) ∧ (((M1 797 31) = 0 → ((1 : Int) = 0 ∨ (1 : Int) = 1) ∧ (∃ n', ((n' = 1000 + (4 - (0 : Int)).toNat ∧ 0 ≤ (0 : Int) ∧ (0 : Int) ≤ 4 ∧ ∃ N : ab_M, pz_rdn M N ∧ N 797 31 = 0 ∧ ∀ o k' : Nat, (ab_up M1 797 31 (1 : Int)) o k' = if o = 797 ∧ k' = 31 then 1 else if (o = 834 ∨ o = 835) ∧ k' < (0 : Int).toNat then 0 else N o k')))) ∧ (¬ (M1 797 31) = 0 → K [] M1))) := by
  obtain ⟨⟨gP, gA, gG, g31⟩, gK⟩ := hS
  refine And.intro (by
    first
      | omega
      | exact gP
      | exact ⟨by omega, by omega⟩
      | exact ⟨⟨by omega, by omega⟩, by omega, by omega⟩
      | (have h := hM1.2.1.2 31 (by decide) (by decide) (by decide) (by decide) (by decide) (by decide) (by decide) (by decide) (by decide); rw [h]; rcases g31 with z | z <;> (rw [z]; exact ⟨by decide, by decide⟩))
      | (have := a1e (by omega); exact ⟨⟨by omega, by omega⟩, by decide, by decide⟩)
      | (rcases hS1.2.2.1 with z | z <;> (rw [z]; exact ⟨by decide, by decide⟩))
      | exact hS1.2.2.1
      | exact trivial
      | exact ⟨⟨by omega, by omega⟩, hS1.2.2.1⟩
      | ((try simp only [ab_up_2, Nat.reduceEqDiff, if_true, if_false]); first | (rcases hS1.2.2.1 with z | z <;> (rw [z]; exact ⟨by decide, by decide⟩)) | exact hS1.2.2.1 | exact ⟨by omega, by omega⟩)
      | exact ⟨by decide, by decide⟩) ?_
  intro M1 hM1
  refine And.intro (by
    first
      | omega
      | exact gP
      | exact ⟨by omega, by omega⟩
      | exact ⟨⟨by omega, by omega⟩, by omega, by omega⟩
      | (have h := hM1.2.1.2 31 (by decide) (by decide) (by decide) (by decide) (by decide) (by decide) (by decide) (by decide) (by decide); rw [h]; rcases g31 with z | z <;> (rw [z]; exact ⟨by decide, by decide⟩))
      | (have := a1e (by omega); exact ⟨⟨by omega, by omega⟩, by decide, by decide⟩)
      | (rcases hS1.2.2.1 with z | z <;> (rw [z]; exact ⟨by decide, by decide⟩))
      | exact hS1.2.2.1
      | exact trivial
      | exact ⟨⟨by omega, by omega⟩, hS1.2.2.1⟩
      | ((try simp only [ab_up_2, Nat.reduceEqDiff, if_true, if_false]); first | (rcases hS1.2.2.1 with z | z <;> (rw [z]; exact ⟨by decide, by decide⟩)) | exact hS1.2.2.1 | exact ⟨by omega, by omega⟩)
      | exact ⟨by decide, by decide⟩) ?_
  refine ⟨?_, ?_⟩
  · intro c8
    refine And.intro (by
      first
        | omega
        | exact gP
        | exact ⟨by omega, by omega⟩
        | exact ⟨⟨by omega, by omega⟩, by omega, by omega⟩
        | (have h := hM1.2.1.2 31 (by decide) (by decide) (by decide) (by decide) (by decide) (by decide) (by decide) (by decide) (by decide); rw [h]; rcases g31 with z | z <;> (rw [z]; exact ⟨by decide, by decide⟩))
        | (have := a1e (by omega); exact ⟨⟨by omega, by omega⟩, by decide, by decide⟩)
        | (rcases hS1.2.2.1 with z | z <;> (rw [z]; exact ⟨by decide, by decide⟩))
        | exact hS1.2.2.1
        | exact trivial
        | exact ⟨⟨by omega, by omega⟩, hS1.2.2.1⟩
        | ((try simp only [ab_up_2, Nat.reduceEqDiff, if_true, if_false]); first | (rcases hS1.2.2.1 with z | z <;> (rw [z]; exact ⟨by decide, by decide⟩)) | exact hS1.2.2.1 | exact ⟨by omega, by omega⟩)
        | exact ⟨by decide, by decide⟩) ?_
    refine ⟨_, rfl, by decide, by decide, M1, hM1, ?_, fun o k' => ?_⟩
    · have h := hM1.2.1.2 31 (by decide) (by decide) (by decide) (by decide) (by decide) (by decide) (by decide) (by decide) (by decide)
      rw [h] at c8 ⊢
      first
        | assumption
        | exact g31.resolve_right (fun z => by omega)
    · by_cases c : o = 797 ∧ k' = 31
      · rw [if_pos c, c.1, c.2, ab_up_s]
      · rw [if_neg c, up_ne c, if_neg (by omega)]
  · intro c8
    refine gK _ ⟨M1, hM1, Or.inl ⟨?_, rfl⟩⟩
    have h := hM1.2.1.2 31 (by decide) (by decide) (by decide) (by decide) (by decide) (by decide) (by decide) (by decide) (by decide)
    rw [h] at c8 ⊢
    exact g31.resolve_left (by assumption)

set_option maxRecDepth 20000 in
theorem vc_X9_pass_19  (M : ab_M) (K : List ab_V → ab_M → Prop) (hS : (pz_PR M ∧ (∀ N, pz_rdn M N → ev_A N) ∧ pa_G M ∧ (M 797 31 = 0 ∨ M 797 31 = 1)) ∧ (∀ Mx : ab_M, (pa_P M Mx) → K [] Mx)) (n : Nat) (k : Int) (M1 : ab_M) (hI : n = 1000 + (4 - k).toNat ∧ 0 ≤ k ∧ k ≤ 4 ∧ ∃ N : ab_M, pz_rdn M N ∧ N 797 31 = 0 ∧ ∀ o k' : Nat, M1 o k' = if o = 797 ∧ k' = 31 then 1 else if (o = 834 ∨ o = 835) ∧ k' < k.toNat then 0 else N o k') : (ab_ir k ∧ ab_ir (4 : Int)) ∧ (((4 : Int) ≤ k → ((1 : Int) = 0 ∨ (1 : Int) = 1) ∧ (∃ n', n' < n ∧ ((n' = (400 - (0 : Int)).toNat ∧ 0 ≤ (0 : Int) ∧ ∃ N N1 : ab_M, pz_rdn M N ∧ N 797 31 = 0 ∧ pa_N N N1 ∧ pa_C N1 (0 : Int).toNat (ab_up (ab_up (ab_up (ab_up (ab_up M1 797 57 (1 : Int)) 797 58 (0 : Int)) 797 59 (0 : Int)) 797 66 (0 : Int)) 797 27 (0 : Int)) ∧ pa_S (ab_up (ab_up (ab_up (ab_up (ab_up M1 797 57 (1 : Int)) 797 58 (0 : Int)) 797 59 (0 : Int)) 797 66 (0 : Int)) 797 27 (0 : Int)) (0 : Int).toNat ∧ pa_O (ab_up (ab_up (ab_up (ab_up (ab_up M1 797 57 (1 : Int)) 797 58 (0 : Int)) 797 59 (0 : Int)) 797 66 (0 : Int)) 797 27 (0 : Int)) ∧ ev_E N1 (ab_up (ab_up (ab_up (ab_up (ab_up M1 797 57 (1 : Int)) 797 58 (0 : Int)) 797 59 (0 : Int)) 797 66 (0 : Int)) 797 27 (0 : Int)) ∧ (0 : Int) ≤ N 797 10)))) ∧ (k < (4 : Int) → (0 ≤ k ∧ k < ((4 : Nat) : Int)) ∧ (0 ≤ k ∧ k < ((4 : Nat) : Int)) ∧ (∃ n', n' < n ∧ ((n' = 1000 + (4 - (k + 1)).toNat ∧ 0 ≤ (k + 1) ∧ (k + 1) ≤ 4 ∧ ∃ N : ab_M, pz_rdn M N ∧ N 797 31 = 0 ∧ ∀ o k' : Nat, (ab_up (ab_up M1 834 k.toNat (0 : Int)) 835 k.toNat (0 : Int)) o k' = if o = 797 ∧ k' = 31 then 1 else if (o = 834 ∨ o = 835) ∧ k' < (k + 1).toNat then 0 else N o k'))))) := by
  obtain ⟨hn, hk0, hk1, N, hr, h31, hM1⟩ := hI
  obtain ⟨⟨gP, gA, gG, g31⟩, gK⟩ := hS
  refine And.intro (by
    first
      | omega
      | exact gP
      | exact ⟨by omega, by omega⟩
      | exact ⟨⟨by omega, by omega⟩, by omega, by omega⟩
      | (have h := hM1.2.1.2 31 (by decide) (by decide) (by decide) (by decide) (by decide) (by decide) (by decide) (by decide) (by decide); rw [h]; rcases g31 with z | z <;> (rw [z]; exact ⟨by decide, by decide⟩))
      | (have := a1e (by omega); exact ⟨⟨by omega, by omega⟩, by decide, by decide⟩)
      | (rcases hS1.2.2.1 with z | z <;> (rw [z]; exact ⟨by decide, by decide⟩))
      | exact hS1.2.2.1
      | exact trivial
      | exact ⟨⟨by omega, by omega⟩, hS1.2.2.1⟩
      | ((try simp only [ab_up_2, Nat.reduceEqDiff, if_true, if_false]); first | (rcases hS1.2.2.1 with z | z <;> (rw [z]; exact ⟨by decide, by decide⟩)) | exact hS1.2.2.1 | exact ⟨by omega, by omega⟩)
      | exact ⟨by decide, by decide⟩) ?_
  refine ⟨?_, ?_⟩
  · intro c21
    refine And.intro (by
      first
        | omega
        | exact gP
        | exact ⟨by omega, by omega⟩
        | exact ⟨⟨by omega, by omega⟩, by omega, by omega⟩
        | (have h := hM1.2.1.2 31 (by decide) (by decide) (by decide) (by decide) (by decide) (by decide) (by decide) (by decide) (by decide); rw [h]; rcases g31 with z | z <;> (rw [z]; exact ⟨by decide, by decide⟩))
        | (have := a1e (by omega); exact ⟨⟨by omega, by omega⟩, by decide, by decide⟩)
        | (rcases hS1.2.2.1 with z | z <;> (rw [z]; exact ⟨by decide, by decide⟩))
        | exact hS1.2.2.1
        | exact trivial
        | exact ⟨⟨by omega, by omega⟩, hS1.2.2.1⟩
        | ((try simp only [ab_up_2, Nat.reduceEqDiff, if_true, if_false]); first | (rcases hS1.2.2.1 with z | z <;> (rw [z]; exact ⟨by decide, by decide⟩)) | exact hS1.2.2.1 | exact ⟨by omega, by omega⟩)
        | exact ⟨by decide, by decide⟩) ?_
    have hNN : pa_N N (ab_up (ab_up (ab_up (ab_up (ab_up M1 797 57 1) 797 58 0) 797 59 0) 797 66 0) 797 27 0) := fun o k' => by
      simp only [ab_up_2]
      rw [hM1, show k.toNat = 4 by omega]
      by_cases c0 : o = 797
      · by_cases c1 : k' = 31
        · simp [c0, c1]
        · by_cases c2 : k' = 57
          · simp [c0, c2]
          · by_cases c3 : k' = 58 ∨ k' = 59 ∨ k' = 66 ∨ k' = 27
            · rcases c3 with c3 | c3 | c3 | c3 <;> simp [c0, c3]
            · have d1 : ¬ k' = 58 := fun z => c3 (Or.inl z)
              have d2 : ¬ k' = 59 := fun z => c3 (Or.inr (Or.inl z))
              have d3 : ¬ k' = 66 := fun z => c3 (Or.inr (Or.inr (Or.inl z)))
              have d4 : ¬ k' = 27 := fun z => c3 (Or.inr (Or.inr (Or.inr z)))
              simp [c0, c1, c2, d1, d2, d3, d4]
      · simp [c0]
    obtain ⟨z1, z2⟩ := hNN.S (gG.rd hr)
    refine ⟨_, ?_, rfl, by decide, N, _, hr, h31, hNN, ⟨fun _ => _, rfl, fun i hi => absurd hi (Nat.not_lt_zero i), rfl⟩, z1, z2, ev_E.rf _, (gA N hr).1.1⟩
    omega
  · intro c21
    refine And.intro (by
      first
        | omega
        | exact gP
        | exact ⟨by omega, by omega⟩
        | exact ⟨⟨by omega, by omega⟩, by omega, by omega⟩
        | (have h := hM1.2.1.2 31 (by decide) (by decide) (by decide) (by decide) (by decide) (by decide) (by decide) (by decide) (by decide); rw [h]; rcases g31 with z | z <;> (rw [z]; exact ⟨by decide, by decide⟩))
        | (have := a1e (by omega); exact ⟨⟨by omega, by omega⟩, by decide, by decide⟩)
        | (rcases hS1.2.2.1 with z | z <;> (rw [z]; exact ⟨by decide, by decide⟩))
        | exact hS1.2.2.1
        | exact trivial
        | exact ⟨⟨by omega, by omega⟩, hS1.2.2.1⟩
        | ((try simp only [ab_up_2, Nat.reduceEqDiff, if_true, if_false]); first | (rcases hS1.2.2.1 with z | z <;> (rw [z]; exact ⟨by decide, by decide⟩)) | exact hS1.2.2.1 | exact ⟨by omega, by omega⟩)
        | exact ⟨by decide, by decide⟩) ?_
    refine And.intro (by
      first
        | omega
        | exact gP
        | exact ⟨by omega, by omega⟩
        | exact ⟨⟨by omega, by omega⟩, by omega, by omega⟩
        | (have h := hM1.2.1.2 31 (by decide) (by decide) (by decide) (by decide) (by decide) (by decide) (by decide) (by decide) (by decide); rw [h]; rcases g31 with z | z <;> (rw [z]; exact ⟨by decide, by decide⟩))
        | (have := a1e (by omega); exact ⟨⟨by omega, by omega⟩, by decide, by decide⟩)
        | (rcases hS1.2.2.1 with z | z <;> (rw [z]; exact ⟨by decide, by decide⟩))
        | exact hS1.2.2.1
        | exact trivial
        | exact ⟨⟨by omega, by omega⟩, hS1.2.2.1⟩
        | ((try simp only [ab_up_2, Nat.reduceEqDiff, if_true, if_false]); first | (rcases hS1.2.2.1 with z | z <;> (rw [z]; exact ⟨by decide, by decide⟩)) | exact hS1.2.2.1 | exact ⟨by omega, by omega⟩)
        | exact ⟨by decide, by decide⟩) ?_
    refine ⟨_, ?_, rfl, by omega, by omega, N, hr, h31, fun o k' => ?_⟩
    · omega
    · by_cases c2 : o = 835 ∧ k' = k.toNat
      · rw [c2.1, c2.2, ab_up_s, if_neg (by omega), if_pos ⟨Or.inr rfl, by omega⟩]
      · rw [up_ne c2]
        by_cases c1 : o = 834 ∧ k' = k.toNat
        · rw [c1.1, c1.2, ab_up_s, if_neg (by omega), if_pos ⟨Or.inl rfl, by omega⟩]
        · rw [up_ne c1, hM1]
          by_cases d : o = 797 ∧ k' = 31
          · rw [if_pos d, if_pos d]
          · rw [if_neg d, if_neg d]
            refine if_cg ⟨fun q => ⟨q.1, by omega⟩, fun q => ⟨q.1, ?_⟩⟩
            by_cases w : k' = k.toNat
            · rcases q.1 with y | y
              · exact absurd ⟨y, w⟩ c1
              · exact absurd ⟨y, w⟩ c2
            · omega

set_option maxRecDepth 20000 in
theorem vc_X9_pass_71  (M : ab_M) (K : List ab_V → ab_M → Prop) (hS : (pz_PR M ∧ (∀ N, pz_rdn M N → ev_A N) ∧ pa_G M ∧ (M 797 31 = 0 ∨ M 797 31 = 1)) ∧ (∀ Mx : ab_M, (pa_P M Mx) → K [] Mx)) (n : Nat) (e : Int) (M1 : ab_M) (hI : n = (400 - e).toNat ∧ 0 ≤ e ∧ ∃ N N1 : ab_M, pz_rdn M N ∧ N 797 31 = 0 ∧ pa_N N N1 ∧ pa_C N1 e.toNat M1 ∧ pa_S M1 e.toNat ∧ pa_O M1 ∧ ev_E N1 M1 ∧ e ≤ N 797 10) : (ab_ir e ∧ ab_ir (M1 797 10)) ∧ (((M1 797 10) ≤ e → K [] M1) ∧ (e < (M1 797 10) → (0 ≤ e ∧ e < ((400 : Nat) : Int)) ∧ (-128 ≤ (9 : Int) ∧ (9 : Int) < 128) ∧ (ab_ir (M1 805 e.toNat) ∧ ab_ir (9 : Int)) ∧ ((¬ (M1 805 e.toNat) = (9 : Int) → (0 ≤ e ∧ e < ((400 : Nat) : Int)) ∧ (-128 ≤ (10 : Int) ∧ (10 : Int) < 128) ∧ (ab_ir (M1 805 e.toNat) ∧ ab_ir (10 : Int)) ∧ ((¬ (M1 805 e.toNat) = (10 : Int) → ((0 ≤ e ∧ e < ((400 : Nat) : Int)) ∧ ((M1 797 57) = 0 ∨ (M1 797 57) = 1)) ∧ (ab_ir (M1 797 57)) ∧ (((M1 797 57) = 0 → (∃ n', n' < n ∧ ((n' = (400 - (e + 1)).toNat ∧ 0 ≤ (e + 1) ∧ ∃ N N1 : ab_M, pz_rdn M N ∧ N 797 31 = 0 ∧ pa_N N N1 ∧ pa_C N1 (e + 1).toNat (ab_up M1 839 e.toNat (M1 797 57)) ∧ pa_S (ab_up M1 839 e.toNat (M1 797 57)) (e + 1).toNat ∧ pa_O (ab_up M1 839 e.toNat (M1 797 57)) ∧ ev_E N1 (ab_up M1 839 e.toNat (M1 797 57)) ∧ (e + 1) ≤ N 797 10)))) ∧ (¬ (M1 797 57) = 0 → (ev_A (ab_up M1 839 e.toNat (M1 797 57)) ∧ (0 ≤ e ∧ e < (ab_up M1 839 e.toNat (M1 797 57)) 797 10) ∧ (ab_up M1 839 e.toNat (M1 797 57)) 805 e.toNat ≤ 8 ∧ pa_S (ab_up M1 839 e.toNat (M1 797 57)) e.toNat ∧ ∀ k : Nat, (k : Int) < (ab_up M1 839 e.toNat (M1 797 57)) 797 27 → 9 ≤ (ab_up M1 839 e.toNat (M1 797 57)) 805 ((ab_up M1 839 e.toNat (M1 797 57)) 815 k).toNat) ∧ (∀ M136 : ab_M, (pS (ab_up M1 839 e.toNat (M1 797 57)) M136 e.toNat) → (∃ n', n' < n ∧ ((n' = (400 - (e + 1)).toNat ∧ 0 ≤ (e + 1) ∧ ∃ N N1 : ab_M, pz_rdn M N ∧ N 797 31 = 0 ∧ pa_N N N1 ∧ pa_C N1 (e + 1).toNat M136 ∧ pa_S M136 (e + 1).toNat ∧ pa_O M136 ∧ ev_E N1 M136 ∧ (e + 1) ≤ N 797 10))))))) ∧ ((M1 805 e.toNat) = (10 : Int) → (ev_A M1 ∧ (0 ≤ e ∧ e < M1 797 10) ∧ M1 805 e.toNat = 10 ∧ pa_S M1 e.toNat) ∧ (∀ M111 : ab_M, (pC M1 M111 e.toNat) → (∃ n', n' < n ∧ ((n' = (400 - (e + 1)).toNat ∧ 0 ≤ (e + 1) ∧ ∃ N N1 : ab_M, pz_rdn M N ∧ N 797 31 = 0 ∧ pa_N N N1 ∧ pa_C N1 (e + 1).toNat M111 ∧ pa_S M111 (e + 1).toNat ∧ pa_O M111 ∧ ev_E N1 M111 ∧ (e + 1) ≤ N 797 10))))))) ∧ ((M1 805 e.toNat) = (9 : Int) → (ev_A M1 ∧ (0 ≤ e ∧ e < M1 797 10) ∧ M1 805 e.toNat = 9 ∧ pa_S M1 e.toNat) ∧ (∀ M92 : ab_M, (pO M1 M92 e.toNat) → (∃ n', n' < n ∧ ((n' = (400 - (e + 1)).toNat ∧ 0 ≤ (e + 1) ∧ ∃ N N1 : ab_M, pz_rdn M N ∧ N 797 31 = 0 ∧ pa_N N N1 ∧ pa_C N1 (e + 1).toNat M92 ∧ pa_S M92 (e + 1).toNat ∧ pa_O M92 ∧ ev_E N1 M92 ∧ (e + 1) ≤ N 797 10)))))))) := by
  obtain ⟨hn, he0, N, N1, hr, h31, hN1, hC1, hS1, hO1, hE1, hle⟩ := hI
  obtain ⟨⟨gP, gA, gG, g31⟩, gK⟩ := hS
  have hAN := gA N hr
  have hA1 : ev_A M1 := hE1.A (hN1.E.A hAN)
  have h10 : M1 797 10 = N 797 10 := hE1.2.trans hN1.E.2
  obtain ⟨a0, a1, -, -⟩ := id hA1
  have a1e := fun q : e < M1 797 10 => (a1 e.toNat (by omega)).1
  refine And.intro (by
    first
      | omega
      | exact gP
      | exact ⟨by omega, by omega⟩
      | exact ⟨⟨by omega, by omega⟩, by omega, by omega⟩
      | (have h := hM1.2.1.2 31 (by decide) (by decide) (by decide) (by decide) (by decide) (by decide) (by decide) (by decide) (by decide); rw [h]; rcases g31 with z | z <;> (rw [z]; exact ⟨by decide, by decide⟩))
      | (have := a1e (by omega); exact ⟨⟨by omega, by omega⟩, by decide, by decide⟩)
      | (rcases hS1.2.2.1 with z | z <;> (rw [z]; exact ⟨by decide, by decide⟩))
      | exact hS1.2.2.1
      | exact trivial
      | exact ⟨⟨by omega, by omega⟩, hS1.2.2.1⟩
      | ((try simp only [ab_up_2, Nat.reduceEqDiff, if_true, if_false]); first | (rcases hS1.2.2.1 with z | z <;> (rw [z]; exact ⟨by decide, by decide⟩)) | exact hS1.2.2.1 | exact ⟨by omega, by omega⟩)
      | exact ⟨by decide, by decide⟩) ?_
  refine ⟨?_, ?_⟩
  · intro c76
    refine gK _ ⟨N, hr, Or.inr ⟨h31, N1, hN1, ?_, ?_, hE1⟩⟩
    · rw [show (N 797 10).toNat = e.toNat by omega]; exact hC1
    · rw [show (N 797 10).toNat = e.toNat by omega]; exact hS1
  · intro c76
    refine And.intro (by
      first
        | omega
        | exact gP
        | exact ⟨by omega, by omega⟩
        | exact ⟨⟨by omega, by omega⟩, by omega, by omega⟩
        | (have h := hM1.2.1.2 31 (by decide) (by decide) (by decide) (by decide) (by decide) (by decide) (by decide) (by decide) (by decide); rw [h]; rcases g31 with z | z <;> (rw [z]; exact ⟨by decide, by decide⟩))
        | (have := a1e (by omega); exact ⟨⟨by omega, by omega⟩, by decide, by decide⟩)
        | (rcases hS1.2.2.1 with z | z <;> (rw [z]; exact ⟨by decide, by decide⟩))
        | exact hS1.2.2.1
        | exact trivial
        | exact ⟨⟨by omega, by omega⟩, hS1.2.2.1⟩
        | ((try simp only [ab_up_2, Nat.reduceEqDiff, if_true, if_false]); first | (rcases hS1.2.2.1 with z | z <;> (rw [z]; exact ⟨by decide, by decide⟩)) | exact hS1.2.2.1 | exact ⟨by omega, by omega⟩)
        | exact ⟨by decide, by decide⟩) ?_
    refine And.intro (by
      first
        | omega
        | exact gP
        | exact ⟨by omega, by omega⟩
        | exact ⟨⟨by omega, by omega⟩, by omega, by omega⟩
        | (have h := hM1.2.1.2 31 (by decide) (by decide) (by decide) (by decide) (by decide) (by decide) (by decide) (by decide) (by decide); rw [h]; rcases g31 with z | z <;> (rw [z]; exact ⟨by decide, by decide⟩))
        | (have := a1e (by omega); exact ⟨⟨by omega, by omega⟩, by decide, by decide⟩)
        | (rcases hS1.2.2.1 with z | z <;> (rw [z]; exact ⟨by decide, by decide⟩))
        | exact hS1.2.2.1
        | exact trivial
        | exact ⟨⟨by omega, by omega⟩, hS1.2.2.1⟩
        | ((try simp only [ab_up_2, Nat.reduceEqDiff, if_true, if_false]); first | (rcases hS1.2.2.1 with z | z <;> (rw [z]; exact ⟨by decide, by decide⟩)) | exact hS1.2.2.1 | exact ⟨by omega, by omega⟩)
        | exact ⟨by decide, by decide⟩) ?_
    refine And.intro (by
      first
        | omega
        | exact gP
        | exact ⟨by omega, by omega⟩
        | exact ⟨⟨by omega, by omega⟩, by omega, by omega⟩
        | (have h := hM1.2.1.2 31 (by decide) (by decide) (by decide) (by decide) (by decide) (by decide) (by decide) (by decide) (by decide); rw [h]; rcases g31 with z | z <;> (rw [z]; exact ⟨by decide, by decide⟩))
        | (have := a1e (by omega); exact ⟨⟨by omega, by omega⟩, by decide, by decide⟩)
        | (rcases hS1.2.2.1 with z | z <;> (rw [z]; exact ⟨by decide, by decide⟩))
        | exact hS1.2.2.1
        | exact trivial
        | exact ⟨⟨by omega, by omega⟩, hS1.2.2.1⟩
        | ((try simp only [ab_up_2, Nat.reduceEqDiff, if_true, if_false]); first | (rcases hS1.2.2.1 with z | z <;> (rw [z]; exact ⟨by decide, by decide⟩)) | exact hS1.2.2.1 | exact ⟨by omega, by omega⟩)
        | exact ⟨by decide, by decide⟩) ?_
    refine ⟨?_, ?_⟩
    · intro c87
      refine And.intro (by
        first
          | omega
          | exact gP
          | exact ⟨by omega, by omega⟩
          | exact ⟨⟨by omega, by omega⟩, by omega, by omega⟩
          | (have h := hM1.2.1.2 31 (by decide) (by decide) (by decide) (by decide) (by decide) (by decide) (by decide) (by decide) (by decide); rw [h]; rcases g31 with z | z <;> (rw [z]; exact ⟨by decide, by decide⟩))
          | (have := a1e (by omega); exact ⟨⟨by omega, by omega⟩, by decide, by decide⟩)
          | (rcases hS1.2.2.1 with z | z <;> (rw [z]; exact ⟨by decide, by decide⟩))
          | exact hS1.2.2.1
          | exact trivial
          | exact ⟨⟨by omega, by omega⟩, hS1.2.2.1⟩
          | ((try simp only [ab_up_2, Nat.reduceEqDiff, if_true, if_false]); first | (rcases hS1.2.2.1 with z | z <;> (rw [z]; exact ⟨by decide, by decide⟩)) | exact hS1.2.2.1 | exact ⟨by omega, by omega⟩)
          | exact ⟨by decide, by decide⟩) ?_
      refine And.intro (by
        first
          | omega
          | exact gP
          | exact ⟨by omega, by omega⟩
          | exact ⟨⟨by omega, by omega⟩, by omega, by omega⟩
          | (have h := hM1.2.1.2 31 (by decide) (by decide) (by decide) (by decide) (by decide) (by decide) (by decide) (by decide) (by decide); rw [h]; rcases g31 with z | z <;> (rw [z]; exact ⟨by decide, by decide⟩))
          | (have := a1e (by omega); exact ⟨⟨by omega, by omega⟩, by decide, by decide⟩)
          | (rcases hS1.2.2.1 with z | z <;> (rw [z]; exact ⟨by decide, by decide⟩))
          | exact hS1.2.2.1
          | exact trivial
          | exact ⟨⟨by omega, by omega⟩, hS1.2.2.1⟩
          | ((try simp only [ab_up_2, Nat.reduceEqDiff, if_true, if_false]); first | (rcases hS1.2.2.1 with z | z <;> (rw [z]; exact ⟨by decide, by decide⟩)) | exact hS1.2.2.1 | exact ⟨by omega, by omega⟩)
          | exact ⟨by decide, by decide⟩) ?_
      refine And.intro (by
        first
          | omega
          | exact gP
          | exact ⟨by omega, by omega⟩
          | exact ⟨⟨by omega, by omega⟩, by omega, by omega⟩
          | (have h := hM1.2.1.2 31 (by decide) (by decide) (by decide) (by decide) (by decide) (by decide) (by decide) (by decide) (by decide); rw [h]; rcases g31 with z | z <;> (rw [z]; exact ⟨by decide, by decide⟩))
          | (have := a1e (by omega); exact ⟨⟨by omega, by omega⟩, by decide, by decide⟩)
          | (rcases hS1.2.2.1 with z | z <;> (rw [z]; exact ⟨by decide, by decide⟩))
          | exact hS1.2.2.1
          | exact trivial
          | exact ⟨⟨by omega, by omega⟩, hS1.2.2.1⟩
          | ((try simp only [ab_up_2, Nat.reduceEqDiff, if_true, if_false]); first | (rcases hS1.2.2.1 with z | z <;> (rw [z]; exact ⟨by decide, by decide⟩)) | exact hS1.2.2.1 | exact ⟨by omega, by omega⟩)
          | exact ⟨by decide, by decide⟩) ?_
      refine ⟨?_, ?_⟩
      · intro c106
        refine And.intro (by
          first
            | omega
            | exact gP
            | exact ⟨by omega, by omega⟩
            | exact ⟨⟨by omega, by omega⟩, by omega, by omega⟩
            | (have h := hM1.2.1.2 31 (by decide) (by decide) (by decide) (by decide) (by decide) (by decide) (by decide) (by decide) (by decide); rw [h]; rcases g31 with z | z <;> (rw [z]; exact ⟨by decide, by decide⟩))
            | (have := a1e (by omega); exact ⟨⟨by omega, by omega⟩, by decide, by decide⟩)
            | (rcases hS1.2.2.1 with z | z <;> (rw [z]; exact ⟨by decide, by decide⟩))
            | exact hS1.2.2.1
            | exact trivial
            | exact ⟨⟨by omega, by omega⟩, hS1.2.2.1⟩
            | ((try simp only [ab_up_2, Nat.reduceEqDiff, if_true, if_false]); first | (rcases hS1.2.2.1 with z | z <;> (rw [z]; exact ⟨by decide, by decide⟩)) | exact hS1.2.2.1 | exact ⟨by omega, by omega⟩)
            | exact ⟨by decide, by decide⟩) ?_
        refine And.intro (by
          first
            | omega
            | exact gP
            | exact ⟨by omega, by omega⟩
            | exact ⟨⟨by omega, by omega⟩, by omega, by omega⟩
            | (have h := hM1.2.1.2 31 (by decide) (by decide) (by decide) (by decide) (by decide) (by decide) (by decide) (by decide) (by decide); rw [h]; rcases g31 with z | z <;> (rw [z]; exact ⟨by decide, by decide⟩))
            | (have := a1e (by omega); exact ⟨⟨by omega, by omega⟩, by decide, by decide⟩)
            | (rcases hS1.2.2.1 with z | z <;> (rw [z]; exact ⟨by decide, by decide⟩))
            | exact hS1.2.2.1
            | exact trivial
            | exact ⟨⟨by omega, by omega⟩, hS1.2.2.1⟩
            | ((try simp only [ab_up_2, Nat.reduceEqDiff, if_true, if_false]); first | (rcases hS1.2.2.1 with z | z <;> (rw [z]; exact ⟨by decide, by decide⟩)) | exact hS1.2.2.1 | exact ⟨by omega, by omega⟩)
            | exact ⟨by decide, by decide⟩) ?_
        refine ⟨?_, ?_⟩
        · intro c131
          try rw [ab_up_o (by decide)] at c131
          have hR : pR e.toNat M1 (ab_up M1 839 e.toNat (M1 797 57)) := ⟨fun q => by omega, fun q => by omega, fun _ => ⟨fun _ => rfl, fun q => by omega⟩⟩
          have hst := pa_S.step hA1 (show ((e.toNat : Nat) : Int) < M1 797 10 by omega) hS1 hO1 hR
          refine ⟨_, ?_, rfl, by omega, N, N1, hr, h31, hN1, ?_, ?_, hst.2.2, hE1.tr hst.1, by omega⟩
          · omega
          · rw [show (e + 1).toNat = e.toNat + 1 by omega]; exact hC1.next hR
          · rw [show (e + 1).toNat = e.toNat + 1 by omega]; exact hst.2.1
        · intro c131
          refine And.intro (by
            have hEE : ev_E M1 (ab_up M1 839 e.toNat (M1 797 57)) := ⟨fun o k a b => up_ne (fun q => by omega), ab_up_o (by decide) _⟩
            refine ⟨hEE.A hA1, ⟨he0, by rw [ab_up_o (by decide)]; omega⟩, ?_, hS1.at hS1.2.2.1, fun k hk => ?_⟩
            · rw [ab_up_o (by decide)]; have := a1e (by omega); omega
            · rw [ab_up_o (by decide)] at hk
              rw [ab_up_o (by decide), ab_up_o (by decide)]
              have := hO1 k hk
              omega) ?_
          intro M136 hM136
          try rw [ab_up_o (by decide)] at c131
          have hR : pR e.toNat M1 M136 := ⟨fun q => by omega, fun q => by omega, fun _ => ⟨fun q => by omega, fun _ => hM136⟩⟩
          have hst := pa_S.step hA1 (show ((e.toNat : Nat) : Int) < M1 797 10 by omega) hS1 hO1 hR
          refine ⟨_, ?_, rfl, by omega, N, N1, hr, h31, hN1, ?_, ?_, hst.2.2, hE1.tr hst.1, by omega⟩
          · omega
          · rw [show (e + 1).toNat = e.toNat + 1 by omega]; exact hC1.next hR
          · rw [show (e + 1).toNat = e.toNat + 1 by omega]; exact hst.2.1
      · intro c106
        refine And.intro (by
          exact ⟨hA1, ⟨he0, by omega⟩, by assumption, hS1⟩) ?_
        intro M111 hM111
        have hR : pR e.toNat M1 M111 := ⟨fun q => by omega, fun _ => hM111, fun q => by omega⟩
        have hst := pa_S.step hA1 (show ((e.toNat : Nat) : Int) < M1 797 10 by omega) hS1 hO1 hR
        refine ⟨_, ?_, rfl, by omega, N, N1, hr, h31, hN1, ?_, ?_, hst.2.2, hE1.tr hst.1, by omega⟩
        · omega
        · rw [show (e + 1).toNat = e.toNat + 1 by omega]; exact hC1.next hR
        · rw [show (e + 1).toNat = e.toNat + 1 by omega]; exact hst.2.1
    · intro c87
      refine And.intro (by
        exact ⟨hA1, ⟨he0, by omega⟩, by assumption, hS1⟩) ?_
      intro M92 hM92
      have hR : pR e.toNat M1 M92 := ⟨fun _ => hM92, fun q => by omega, fun q => by omega⟩
      have hst := pa_S.step hA1 (show ((e.toNat : Nat) : Int) < M1 797 10 by omega) hS1 hO1 hR
      refine ⟨_, ?_, rfl, by omega, N, N1, hr, h31, hN1, ?_, ?_, hst.2.2, hE1.tr hst.1, by omega⟩
      · omega
      · rw [show (e + 1).toNat = e.toNat + 1 by omega]; exact hC1.next hR
      · rw [show (e + 1).toNat = e.toNat + 1 by omega]; exact hst.2.1

set_option maxRecDepth 20000 in
set_option maxHeartbeats 1000000 in
theorem ok_X9_pass (E : ab_E) : ab_Ok E 8 165 S_X9_pass := by
  refine ab_mk rq_X9_pass tk_X9_pass (rt := 0) (rfl) (cuts := [19, 71]) (G := [(166, S_X9_passClose), (167, S_X9_passOpen), (168, S_X9_passStatement), (170, S_X9_read)]) (List.forall_mem_cons.mpr ⟨⟨3, by decide, ok_X9_passClose E⟩, List.forall_mem_cons.mpr ⟨⟨3, by decide, ok_X9_passOpen E⟩, List.forall_mem_cons.mpr ⟨⟨2, by decide, ok_X9_passStatement E⟩, List.forall_mem_cons.mpr ⟨⟨7, by decide, ok_X9_read E⟩, fun _ h => absurd h List.not_mem_nil⟩⟩⟩⟩) (by decide) 132 rfl ?_
  intro a M K wd wa hS
  unfold S_X9_pass at hS
  split at hS
  ·
    refine ⟨Nat.le_of_ble_eq_true rfl, fun pc n L st M1 => match pc, L, st with
      | 19, [.inr (.inr (.inr (797, 9, 0))), .inr (.inl k)], [] => (n = 1000 + (4 - k).toNat ∧ 0 ≤ k ∧ k ≤ 4 ∧ ∃ N : ab_M, pz_rdn M N ∧ N 797 31 = 0 ∧ ∀ o k' : Nat, M1 o k' = if o = 797 ∧ k' = 31 then 1 else if (o = 834 ∨ o = 835) ∧ k' < k.toNat then 0 else N o k')
      | 71, [.inr (.inr (.inr (797, 9, 0))), .inr (.inl e)], [] => (n = (400 - e).toNat ∧ 0 ≤ e ∧ ∃ N N1 : ab_M, pz_rdn M N ∧ N 797 31 = 0 ∧ pa_N N N1 ∧ pa_C N1 e.toNat M1 ∧ pa_S M1 e.toNat ∧ pa_O M1 ∧ ev_E N1 M1 ∧ e ≤ N 797 10)
      | _, _, _ => False, ?_, ?_⟩
    · exact vc_X9_pass_0  M K  hS
    · intro pc n L st M1 hI wd1 wL wst
      (try dsimp only at hI)
      split at hI
      ·
        rename_i k
        exact vc_X9_pass_19  M K  hS n k _ hI
      ·
        rename_i e
        exact vc_X9_pass_71  M K  hS n e _ hI
      · exact hI.elim
  · exact hS.elim
