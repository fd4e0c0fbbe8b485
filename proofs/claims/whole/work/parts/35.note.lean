/-! the reference notes the past -/
/-- the past: programs one behind another, 641 places each -/
def pz_q0 (M : ab_M) : Int := if M 797 2 = 6 then 5 else M 797 2
def pz_sh (M : ab_M) : Nat := if M 797 2 = 6 then 641 else 0
def pz_n11 (M M1 : ab_M) (i : Int) : Prop := M 797 2 = 6 ∧ (∀ o k, o ≠ 799 → M1 o k = M o k) ∧ (∀ k : Nat, (k : Int) < i → M1 799 k = M 799 (k + 641)) ∧ ∀ k : Nat, i ≤ (k : Int) → M1 799 k = M 799 k
def pz_n54 (M M1 : ab_M) (i : Int) : Prop := (∀ o k, o ≠ 799 → ¬ (o = 797 ∧ k = 2) → M1 o k = M o k) ∧ M1 797 2 = pz_q0 M ∧ (∀ k : Nat, (k : Int) < 641 * pz_q0 M → M1 799 k = M 799 (k + pz_sh M)) ∧ ∀ k : Nat, (k : Int) < i → M1 799 (641 * pz_q0 M + (k : Int)).toNat = M 798 k
def pz_NT (M M' : ab_M) : Prop := (∀ o k, o ≠ 799 → ¬ (o = 797 ∧ k = 2) → M' o k = M o k) ∧ M' 797 2 = pz_q0 M + 1 ∧ (∀ k : Nat, (k : Int) < 641 * pz_q0 M → M' 799 k = M 799 (k + pz_sh M)) ∧ ∀ k : Nat, k ≤ 640 → M' 799 (641 * pz_q0 M + (k : Int)).toNat = M 798 k

def S_X9_note : ab_PT := fun a M K => match a with
  | [.inr (.inr (.inr (797, 9, 0)))] => (0 ≤ M 797 2 ∧ M 797 2 ≤ 6) ∧ (∀ Mx : ab_M, (pz_NT M Mx) → K [] Mx)
  | _ => False
set_option maxRecDepth 20000 in
theorem vc_X9_note_0  (M : ab_M) (K : List ab_V → ab_M → Prop) (hS : (0 ≤ M 797 2 ∧ M 797 2 ≤ 6) ∧ (∀ Mx : ab_M, (pz_NT M Mx) → K [] Mx)) : (-128 ≤ (6 : Int) ∧ (6 : Int) < 128) ∧ (ab_ir (M 797 2) ∧ ab_ir (6 : Int)) ∧ ((¬ (M 797 2) = (6 : Int) → (∃ n', ((n' = (641 - (0 : Int)).toNat ∧ 0 ≤ (0 : Int) ∧ (0 : Int) ≤ 641 ∧ pz_n54 M M (0 : Int))))) ∧ ((M 797 2) = (6 : Int) → (∃ n', ((n' = (4000 - (0 : Int)).toNat + 1000 ∧ 0 ≤ (0 : Int) ∧ (0 : Int) ≤ 3205 ∧ pz_n11 M M (0 : Int)))))) := by
  obtain ⟨⟨g1, g2⟩, gK⟩ := hS
  refine And.intro (by
    first
      | omega
      | (simp [ab_up_a]; done)
      | (simp [ab_up_a]; omega)) ?_
  refine And.intro (by
    first
      | omega
      | (simp [ab_up_a]; done)
      | (simp [ab_up_a]; omega)) ?_
  refine ⟨?_, ?_⟩
  · intro c6
    have hq : pz_q0 M = M 797 2 := by unfold pz_q0; rw [if_neg c6]
    have hs : pz_sh M = 0 := by unfold pz_sh; rw [if_neg c6]
    exact ⟨_, rfl, by omega, by omega, fun o k x y => rfl, hq.symm, fun k hk => by rw [hs]; rfl, fun k hk => by omega⟩
  · intro c6
    exact ⟨_, rfl, by omega, by omega, c6, fun _ _ _ => rfl, fun k hk => by omega, fun _ _ => rfl⟩

set_option maxRecDepth 20000 in
theorem vc_X9_note_11  (M : ab_M) (K : List ab_V → ab_M → Prop) (hS : (0 ≤ M 797 2 ∧ M 797 2 ≤ 6) ∧ (∀ Mx : ab_M, (pz_NT M Mx) → K [] Mx)) (n : Nat) (i1 : Int) (M1 : ab_M) (hI : n = (4000 - i1).toNat + 1000 ∧ 0 ≤ i1 ∧ i1 ≤ 3205 ∧ pz_n11 M M1 i1) : (-32768 ≤ (3205 : Int) ∧ (3205 : Int) < 32768) ∧ (ab_ir i1 ∧ ab_ir (3205 : Int)) ∧ (((3205 : Int) ≤ i1 → (∃ n', n' < n ∧ ((n' = (641 - (0 : Int)).toNat ∧ 0 ≤ (0 : Int) ∧ (0 : Int) ≤ 641 ∧ pz_n54 M (ab_up M1 797 2 ((M1 797 2) - (1 : Int))) (0 : Int))))) ∧ (i1 < (3205 : Int) → (-32768 ≤ (640 : Int) ∧ (640 : Int) < 32768) ∧ (0 ≤ ((i1 + (640 : Int)) + (1 : Int)) ∧ ((i1 + (640 : Int)) + (1 : Int)) < ((3846 : Nat) : Int)) ∧ (0 ≤ i1 ∧ i1 < ((3846 : Nat) : Int)) ∧ (∃ n', n' < n ∧ ((n' = (4000 - (i1 + 1)).toNat + 1000 ∧ 0 ≤ (i1 + 1) ∧ (i1 + 1) ≤ 3205 ∧ pz_n11 M (ab_up M1 799 i1.toNat (M1 799 (((i1 + (640 : Int)) + (1 : Int)).toNat))) (i1 + 1)))))) := by
  obtain ⟨hn, h0, h1, hq1, hq2, hq3, hq4⟩ := hI
  obtain ⟨⟨g1, g2⟩, gK⟩ := hS
  refine And.intro (by
    first
      | omega
      | (simp [ab_up_a]; done)
      | (simp [ab_up_a]; omega)) ?_
  refine And.intro (by
    first
      | omega
      | (simp [ab_up_a]; done)
      | (simp [ab_up_a]; omega)) ?_
  refine ⟨?_, ?_⟩
  · intro c15
    have h3 : M1 797 2 = 6 := by rw [hq2 797 2 (by decide)]; exact hq1
    have hq : pz_q0 M = 5 := by unfold pz_q0; rw [if_pos hq1]
    have hs : pz_sh M = 641 := by unfold pz_sh; rw [if_pos hq1]
    refine ⟨_, ?_, rfl, by omega, by omega, fun o k x y => by rw [ab_up_a, if_neg (by omega)]; exact hq2 o k x, by rw [ab_up_s, hq]; omega, fun k hk => ?_, fun k hk => by omega⟩
    · omega
    · rw [ab_up_o (by decide), hs]
      rw [hq] at hk
      exact hq3 k (by omega)
  · intro c15
    refine And.intro (by
      first
        | omega
        | (simp [ab_up_a]; done)
        | (simp [ab_up_a]; omega)) ?_
    refine And.intro (by
      first
        | omega
        | (simp [ab_up_a]; done)
        | (simp [ab_up_a]; omega)) ?_
    refine And.intro (by
      first
        | omega
        | (simp [ab_up_a]; done)
        | (simp [ab_up_a]; omega)) ?_
    refine ⟨_, ?_, rfl, by omega, by omega, hq1, fun o k x => by rw [ab_up_o x]; exact hq2 o k x, fun k hk => ?_, fun k hk => ?_⟩
    · omega
    · rw [ab_up_a]
      by_cases hki : k = i1.toNat
      · rw [if_pos ⟨rfl, hki⟩, hq4 _ (by omega), hki, show (i1 + 640 + 1).toNat = i1.toNat + 641 by omega]
      · rw [if_neg (fun q => hki q.2)]
        exact hq3 k (by omega)
    · rw [ab_up_k (by omega)]
      exact hq4 k (by omega)

set_option maxRecDepth 20000 in
theorem vc_X9_note_54  (M : ab_M) (K : List ab_V → ab_M → Prop) (hS : (0 ≤ M 797 2 ∧ M 797 2 ≤ 6) ∧ (∀ Mx : ab_M, (pz_NT M Mx) → K [] Mx)) (n : Nat) (i1 : Int) (M1 : ab_M) (hI : n = (641 - i1).toNat ∧ 0 ≤ i1 ∧ i1 ≤ 641 ∧ pz_n54 M M1 i1) : (-32768 ≤ (640 : Int) ∧ (640 : Int) < 32768) ∧ (ab_ir i1 ∧ ab_ir (640 : Int)) ∧ (((640 : Int) < i1 → K [] (ab_up M1 797 2 ((M1 797 2) + (1 : Int)))) ∧ (i1 ≤ (640 : Int) → (-32768 ≤ (641 : Int) ∧ (641 : Int) < 32768) ∧ (0 ≤ i1 ∧ i1 < ((641 : Nat) : Int)) ∧ (0 ≤ (((641 : Int) * (M1 797 2)) + i1) ∧ (((641 : Int) * (M1 797 2)) + i1) < ((3846 : Nat) : Int)) ∧ (∃ n', n' < n ∧ ((n' = (641 - (i1 + 1)).toNat ∧ 0 ≤ (i1 + 1) ∧ (i1 + 1) ≤ 641 ∧ pz_n54 M (ab_up M1 799 ((((641 : Int) * (M1 797 2)) + i1).toNat) (M1 798 i1.toNat)) (i1 + 1)))))) := by
  obtain ⟨hn, h0, h1, hq1, hq2, hq3, hq4⟩ := hI
  obtain ⟨⟨g1, g2⟩, gK⟩ := hS
  have hq5 : 0 ≤ pz_q0 M ∧ pz_q0 M ≤ 5 := by
    unfold pz_q0
    split <;> omega
  refine And.intro (by
    first
      | omega
      | (simp [ab_up_a]; done)
      | (simp [ab_up_a]; omega)) ?_
  refine And.intro (by
    first
      | omega
      | (simp [ab_up_a]; done)
      | (simp [ab_up_a]; omega)) ?_
  refine ⟨?_, ?_⟩
  · intro c58
    exact gK _ ⟨fun o k x y => by rw [ab_up_a, if_neg y]; exact hq1 o k x y, by rw [ab_up_s, hq2], fun k hk => by rw [ab_up_o (by decide)]; exact hq3 k hk, fun k hk => by rw [ab_up_o (by decide)]; exact hq4 k (by omega)⟩
  · intro c58
    refine And.intro (by
      first
        | omega
        | (simp [ab_up_a]; done)
        | (simp [ab_up_a]; omega)) ?_
    refine And.intro (by
      first
        | omega
        | (simp [ab_up_a]; done)
        | (simp [ab_up_a]; omega)) ?_
    refine And.intro (by
      rw [hq2]
      exact ⟨by omega, by omega⟩) ?_
    refine ⟨_, ?_, rfl, by omega, by omega, fun o k x y => by rw [ab_up_o x]; exact hq1 o k x y, by rw [ab_up_o (by decide)]; exact hq2, fun k hk => ?_, fun k hk => ?_⟩
    · omega
    · rw [ab_up_k (by omega)]
      exact hq3 k hk
    · rw [ab_up_a]
      by_cases hki : (k : Int) = i1
      · rw [if_pos ⟨rfl, by rw [hq2, hki]⟩, hq1 798 _ (by decide) (by omega), show i1.toNat = k by omega]
      · rw [if_neg (by rw [hq2]; omega)]
        exact hq4 k (by omega)

set_option maxRecDepth 20000 in
set_option maxHeartbeats 1000000 in
theorem ok_X9_note (E : ab_E) : ab_Ok E 1 164 S_X9_note := by
  refine ab_mk rq_X9_note tk_X9_note (rt := 0) (rfl) (cuts := [11, 54]) (G := []) (fun g hg => by cases hg) (by decide) 106 rfl ?_
  intro a M K wd wa hS
  unfold S_X9_note at hS
  split at hS
  ·
    refine ⟨Nat.le_of_ble_eq_true rfl, fun pc n L st M1 => match pc, L, st with
      | 11, [.inr (.inr (.inr (797, 9, 0))), .inr (.inl i1)], [] => (n = (4000 - i1).toNat + 1000 ∧ 0 ≤ i1 ∧ i1 ≤ 3205 ∧ pz_n11 M M1 i1)
      | 54, [.inr (.inr (.inr (797, 9, 0))), .inr (.inl i1)], [] => (n = (641 - i1).toNat ∧ 0 ≤ i1 ∧ i1 ≤ 641 ∧ pz_n54 M M1 i1)
      | _, _, _ => False, ?_, ?_⟩
    · exact vc_X9_note_0  M K  hS
    · intro pc n L st M1 hI wd1 wL wst
      (try dsimp only at hI)
      split at hI
      ·
        rename_i i1
        exact vc_X9_note_11  M K  hS n i1 _ hI
      ·
        rename_i i1
        exact vc_X9_note_54  M K  hS n i1 _ hI
      · exact hI.elim
  · exact hS.elim
