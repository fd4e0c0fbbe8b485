/-! the fixed points of the class: prepare -/
theorem pr_n1 {n w : Nat} (hn : n = (((w : Int) + 1) * 2000002).toNat) : (((w : Int) * 2000002 + 1 + (1000000 - (0 : Int)))).toNat < n := by omega
def S_X3_prepare : ab_PT := fun a M K => match a with
  | [.inr (.inr (.inr (768, 3, 0))), .inr (.inl cut)] => ((cut = 0 ∨ cut = 1) ∧ vl_T M ∧ tv_ok M ∧ gc_A M ∧ (M 769 3 = 0 ∨ M 769 3 = 1 ∧ vl_V M M (M 26 11)) ∧ (M 776 cut.toNat = 0 ∨ M 776 cut.toNat = 1) ∧ ∀ k : Nat, 33280 ≤ k → M 774 k = 0) ∧ (∀ Mx : ab_M, ((M 776 cut.toNat = 1 → Mx = M) ∧ (M 776 cut.toNat = 0 → pr_N M Mx cut)) → K [] Mx)
  | _ => False
set_option maxRecDepth 20000 in
theorem vc_X3_prepare_0 (cut : Int) (M : ab_M) (K : List ab_V → ab_M → Prop) (hS : ((cut = 0 ∨ cut = 1) ∧ vl_T M ∧ tv_ok M ∧ gc_A M ∧ (M 769 3 = 0 ∨ M 769 3 = 1 ∧ vl_V M M (M 26 11)) ∧ (M 776 cut.toNat = 0 ∨ M 776 cut.toNat = 1) ∧ ∀ k : Nat, 33280 ≤ k → M 774 k = 0) ∧ (∀ Mx : ab_M, ((M 776 cut.toNat = 1 → Mx = M) ∧ (M 776 cut.toNat = 0 → pr_N M Mx cut)) → K [] Mx)) : (0 ≤ (ab_and cut (1 : Int)) ∧ (ab_and cut (1 : Int)) < ((2 : Nat) : Int)) ∧ (ab_ir (M 776 ((ab_and cut (1 : Int)).toNat))) ∧ (((M 776 ((ab_and cut (1 : Int)).toNat)) = 0 → ((vl_T M ∧ tv_ok M) ∧ (M 769 3 = 0 ∨ M 769 3 = 1 ∧ vl_V M M (M 26 11)) ∧ ∀ k : Nat, 33280 ≤ k → M 774 k = 0) ∧ (∀ M15 : ab_M, (M15 769 3 = 1 ∧ vl_V M M15 (M 26 11) ∧ tv_ok M15 ∧ (∀ k : Nat, M15 774 k = 0) ∧ (∀ o' k' : Nat, ¬ (o' = 770 ∨ o' = 771 ∨ o' = 774 ∨ o' = 769 ∧ k' = 3) → M15 o' k' = M o' k')) → (∃ n', ((M 776 cut.toNat = 0 ∧ n' = 300000000 + (256 - (0 : Int)).toNat ∧ cut = cut ∧ cut = (ab_and cut (1 : Int)) ∧ 0 ≤ (0 : Int) ∧ (0 : Int) ≤ 256 ∧ M15 769 3 = 1 ∧ vl_V M M15 (M 26 11) ∧ tv_ok M15 ∧ pr_k M M15 ∧ M15 774 = pr_0 (0 : Int)))))) ∧ (¬ (M 776 ((ab_and cut (1 : Int)).toNat)) = 0 → K [] M)) := by
  obtain ⟨⟨gc, gT, gv, gA, gV, gk, gz⟩, gK⟩ := hS
  have hw : ab_and cut 1 = cut := by
    rcases gc with rfl | rfl
    · rfl
    · rfl
  have hcr : ab_ir cut := by omega
  have gL := gA.2.1
  have gp := gA.1
  have g3 := gL.1
  have g8 := gp.2.1
  refine And.intro (by
    first
      | exact hsx
      | exact ⟨⟨by omega, by omega⟩, hsy.1, hsy.2, hall⟩
      | exact ⟨⟨gT, gv⟩, gV, gz⟩
      | omega
      | (rw [hw]; omega)
      | exact ⟨by omega, by omega⟩
      | exact ⟨⟨by omega, by omega⟩, by omega, by omega⟩
      | exact trivial) ?_
  refine And.intro (by
    first
      | exact hsx
      | exact ⟨⟨by omega, by omega⟩, hsy.1, hsy.2, hall⟩
      | exact ⟨⟨gT, gv⟩, gV, gz⟩
      | omega
      | (rw [hw]; omega)
      | exact ⟨by omega, by omega⟩
      | exact ⟨⟨by omega, by omega⟩, by omega, by omega⟩
      | exact trivial) ?_
  refine ⟨?_, ?_⟩
  · intro c10
    refine And.intro (by
      first
        | exact hsx
        | exact ⟨⟨by omega, by omega⟩, hsy.1, hsy.2, hall⟩
        | exact ⟨⟨gT, gv⟩, gV, gz⟩
        | omega
        | (rw [hw]; omega)
        | exact ⟨by omega, by omega⟩
        | exact ⟨⟨by omega, by omega⟩, by omega, by omega⟩
        | exact trivial) ?_
    intro M15 hM15
    rw [hw] at c10
    obtain ⟨h1, h2, h3, h5, h6⟩ := hM15
    exact ⟨_, c10, rfl, rfl, hw.symm, by decide, by decide, h1, h2, h3, fun o k q => h6 o k (by omega), funext fun j => by
      rw [h5 j]
      unfold pr_0
      rw [if_neg (by omega), if_neg (by omega)]⟩
  · intro c10
    rw [hw] at c10
    exact gK _ ⟨fun _ => rfl, fun q => absurd q c10⟩

set_option maxRecDepth 20000 in
theorem vc_X3_prepare_20 (cut : Int) (M : ab_M) (K : List ab_V → ab_M → Prop) (hS : ((cut = 0 ∨ cut = 1) ∧ vl_T M ∧ tv_ok M ∧ gc_A M ∧ (M 769 3 = 0 ∨ M 769 3 = 1 ∧ vl_V M M (M 26 11)) ∧ (M 776 cut.toNat = 0 ∨ M 776 cut.toNat = 1) ∧ ∀ k : Nat, 33280 ≤ k → M 774 k = 0) ∧ (∀ Mx : ab_M, ((M 776 cut.toNat = 1 → Mx = M) ∧ (M 776 cut.toNat = 0 → pr_N M Mx cut)) → K [] Mx)) (n : Nat) (c1 : Int) (w1 : Int) (k : Int) (M1 : ab_M) (hI : M 776 cut.toNat = 0 ∧ n = 300000000 + (256 - k).toNat ∧ cut = c1 ∧ cut = w1 ∧ 0 ≤ k ∧ k ≤ 256 ∧ M1 769 3 = 1 ∧ vl_V M M1 (M 26 11) ∧ tv_ok M1 ∧ pr_k M M1 ∧ M1 774 = pr_0 k) : (-32768 ≤ (256 : Int) ∧ (256 : Int) < 32768) ∧ (ab_ir k ∧ ab_ir (256 : Int)) ∧ (((256 : Int) ≤ k → (∃ n', n' < n ∧ ((M 776 cut.toNat = 0 ∧ n' = ((((M1 26 3) - (1 : Int)) + 1) * 2000002).toNat ∧ cut = c1 ∧ cut = w1 ∧ -1 ≤ ((M1 26 3) - (1 : Int)) ∧ ((M1 26 3) - (1 : Int)) < M 26 3 ∧ pr_I M M1 cut ∧ prC M1 cut ((M1 26 3) - (1 : Int)) (M1 774))))) ∧ (k < (256 : Int) → (-32768 ≤ (30720 : Int) ∧ (30720 : Int) < 32768) ∧ (0 ≤ ((30720 : Int) + k) ∧ ((30720 : Int) + k) < ((33280 : Nat) : Int)) ∧ (-32768 ≤ (30976 : Int) ∧ (30976 : Int) < 32768) ∧ (0 ≤ ((30976 : Int) + k) ∧ ((30976 : Int) + k) < ((33280 : Nat) : Int)) ∧ (∃ n', n' < n ∧ ((M 776 cut.toNat = 0 ∧ n' = 300000000 + (256 - (k + 1)).toNat ∧ cut = c1 ∧ cut = w1 ∧ 0 ≤ (k + 1) ∧ (k + 1) ≤ 256 ∧ (ab_up (ab_up M1 774 (((30720 : Int) + k).toNat) (65536 : Int)) 774 (((30976 : Int) + k).toNat) (131072 : Int)) 769 3 = 1 ∧ vl_V M (ab_up (ab_up M1 774 (((30720 : Int) + k).toNat) (65536 : Int)) 774 (((30976 : Int) + k).toNat) (131072 : Int)) (M 26 11) ∧ tv_ok (ab_up (ab_up M1 774 (((30720 : Int) + k).toNat) (65536 : Int)) 774 (((30976 : Int) + k).toNat) (131072 : Int)) ∧ pr_k M (ab_up (ab_up M1 774 (((30720 : Int) + k).toNat) (65536 : Int)) 774 (((30976 : Int) + k).toNat) (131072 : Int)) ∧ (ab_up (ab_up M1 774 (((30720 : Int) + k).toNat) (65536 : Int)) 774 (((30976 : Int) + k).toNat) (131072 : Int)) 774 = pr_0 (k + 1)))))) := by
  obtain ⟨g776, hn, q1, q2, hk0, hk1, h1, h2, h3, h5, h6⟩ := hI
  subst q1
  subst q2
  obtain ⟨⟨gc, gT, gv, gA, gV, gk, gz⟩, gK⟩ := hS
  have hw : ab_and cut 1 = cut := by
    rcases gc with rfl | rfl
    · rfl
    · rfl
  have hcr : ab_ir cut := by omega
  have gL := gA.2.1
  have gp := gA.1
  have g3 := gL.1
  have g8 := gp.2.1
  refine And.intro (by
    first
      | exact hsx
      | exact ⟨⟨by omega, by omega⟩, hsy.1, hsy.2, hall⟩
      | exact ⟨⟨gT, gv⟩, gV, gz⟩
      | omega
      | (rw [hw]; omega)
      | exact ⟨by omega, by omega⟩
      | exact ⟨⟨by omega, by omega⟩, by omega, by omega⟩
      | exact trivial) ?_
  refine And.intro (by
    first
      | exact hsx
      | exact ⟨⟨by omega, by omega⟩, hsy.1, hsy.2, hall⟩
      | exact ⟨⟨gT, gv⟩, gV, gz⟩
      | omega
      | (rw [hw]; omega)
      | exact ⟨by omega, by omega⟩
      | exact ⟨⟨by omega, by omega⟩, by omega, by omega⟩
      | exact trivial) ?_
  refine ⟨?_, ?_⟩
  · intro c24
    have e3 : M1 26 3 = M 26 3 := h5 26 3 (by omega)
    have hA1 := gc_A_fr h5.lo gA
    have hk : k = 256 := by omega
    subst hk
    obtain ⟨z1, z2⟩ := pr_0_ok (cut := cut) hA1.1 hA1.2.1
    refine ⟨_, ?_, g776, rfl, rfl, rfl, ?_, ?_, ⟨h1, h2, h3, h5, ?_, fun j hj => ?_⟩, ?_⟩
    · omega
    · omega
    · omega
    · rw [h6]; exact z1
    · rw [h6]
      unfold pr_0
      rw [if_neg (by omega), if_neg (by omega)]
    · rw [h6]; exact z2
  · intro c24
    refine And.intro (by
      first
        | exact hsx
        | exact ⟨⟨by omega, by omega⟩, hsy.1, hsy.2, hall⟩
        | exact ⟨⟨gT, gv⟩, gV, gz⟩
        | omega
        | (rw [hw]; omega)
        | exact ⟨by omega, by omega⟩
        | exact ⟨⟨by omega, by omega⟩, by omega, by omega⟩
        | exact trivial) ?_
    refine And.intro (by
      first
        | exact hsx
        | exact ⟨⟨by omega, by omega⟩, hsy.1, hsy.2, hall⟩
        | exact ⟨⟨gT, gv⟩, gV, gz⟩
        | omega
        | (rw [hw]; omega)
        | exact ⟨by omega, by omega⟩
        | exact ⟨⟨by omega, by omega⟩, by omega, by omega⟩
        | exact trivial) ?_
    refine And.intro (by
      first
        | exact hsx
        | exact ⟨⟨by omega, by omega⟩, hsy.1, hsy.2, hall⟩
        | exact ⟨⟨gT, gv⟩, gV, gz⟩
        | omega
        | (rw [hw]; omega)
        | exact ⟨by omega, by omega⟩
        | exact ⟨⟨by omega, by omega⟩, by omega, by omega⟩
        | exact trivial) ?_
    refine And.intro (by
      first
        | exact hsx
        | exact ⟨⟨by omega, by omega⟩, hsy.1, hsy.2, hall⟩
        | exact ⟨⟨gT, gv⟩, gV, gz⟩
        | omega
        | (rw [hw]; omega)
        | exact ⟨by omega, by omega⟩
        | exact ⟨⟨by omega, by omega⟩, by omega, by omega⟩
        | exact trivial) ?_
    have hM2 : ∀ o' k' : Nat, o' ≠ 774 → (ab_up (ab_up M1 774 ((30720 : Int) + k).toNat (65536 : Int)) 774 ((30976 : Int) + k).toNat (131072 : Int)) o' k' = M1 o' k' := fun o' k' q => by rw [ab_up_o q, ab_up_o q]
    refine ⟨_, ?_, g776, rfl, rfl, rfl, ?_, ?_, ?_, ?_, ?_, ?_, ?_⟩
    · omega
    · omega
    · omega
    · rw [hM2 _ _ (by decide)]; exact h1
    · intro k' s a b
      rw [hM2 _ _ (by decide)]; exact h2 k' s a b
    · intro k'
      rw [hM2 _ _ (by decide)]; exact h3 k'
    · intro o' k' q
      rw [hM2 _ _ (by omega)]; exact h5 o' k' q
    · funext j
      by_cases e1 : j = ((30976 : Int) + k).toNat
      · rw [e1, ab_up_s]
        unfold pr_0
        rw [if_neg (by omega), if_pos (by omega)]
      · rw [ab_up_k e1]
        by_cases e2 : j = ((30720 : Int) + k).toNat
        · rw [e2, ab_up_s]
          unfold pr_0
          rw [if_pos (by omega)]
        · rw [ab_up_k e2, h6]
          unfold pr_0
          repeat' split
          all_goals first
            | rfl
            | omega

set_option maxRecDepth 20000 in
theorem vc_X3_prepare_67 (cut : Int) (M : ab_M) (K : List ab_V → ab_M → Prop) (hS : ((cut = 0 ∨ cut = 1) ∧ vl_T M ∧ tv_ok M ∧ gc_A M ∧ (M 769 3 = 0 ∨ M 769 3 = 1 ∧ vl_V M M (M 26 11)) ∧ (M 776 cut.toNat = 0 ∨ M 776 cut.toNat = 1) ∧ ∀ k : Nat, 33280 ≤ k → M 774 k = 0) ∧ (∀ Mx : ab_M, ((M 776 cut.toNat = 1 → Mx = M) ∧ (M 776 cut.toNat = 0 → pr_N M Mx cut)) → K [] Mx)) (n : Nat) (c1 : Int) (w1 : Int) (row : Int) (M1 : ab_M) (hI : M 776 cut.toNat = 0 ∧ n = ((row + 1) * 2000002).toNat ∧ cut = c1 ∧ cut = w1 ∧ -1 ≤ row ∧ row < M 26 3 ∧ pr_I M M1 cut ∧ prC M1 cut row (M1 774)) : (ab_ir row) ∧ ((row < 0 → (0 ≤ M1 26 3 ∧ M1 26 3 ≤ 120) ∧ (∀ r192 : Int, (r192 = if 0 < M1 26 3 then 0 else 120) → (-32768 ≤ (256 : Int) ∧ (256 : Int) < 32768) ∧ (-32768 ≤ (256 : Int) ∧ (256 : Int) < 32768) ∧ (-32768 ≤ (256 : Int) ∧ (256 : Int) < 32768) ∧ ((0 ≤ (r192 * (256 : Int)) ∧ 0 ≤ (w1 * (256 : Int)) ∧ 0 ≤ (256 : Int) ∧ (r192 * (256 : Int)) + (256 : Int) ≤ ((33280 : Nat) : Int) ∧ (w1 * (256 : Int)) + (256 : Int) ≤ ((512 : Nat) : Int)) ∧ ((20 : Nat) = 24 → ∀ i : Nat, (i : Int) < (256 : Int) → 0 ≤ M1 774 ((r192 * (256 : Int)).toNat + i) ∧ M1 774 ((r192 * (256 : Int)).toNat + i) < 65536)) ∧ ((0 ≤ w1 ∧ w1 < ((2 : Nat) : Int)) ∧ ((1 : Int) = 0 ∨ (1 : Int) = 1)) ∧ K [] (ab_up (ab_cpy M1 774 (r192 * (256 : Int)) 775 (w1 * (256 : Int)) (256 : Int)) 776 w1.toNat (1 : Int)))) ∧ (0 ≤ row → (ab_ir row ∧ 0 ≤ M1 26 3 ∧ M1 26 3 ≤ 120) ∧ (∀ o76 : Nat, (o76 = if 0 ≤ row ∧ row < M1 26 3 then 26 + 1 + 1 + 3 * row.toNat else 26 + 362) → (ab_ir w1) ∧ ((¬ w1 = 0 → ((0 ≤ M1 26 3 ∧ M1 26 3 ≤ 120) ∧ ab_ir (M1 o76 8) ∧ M1 o76 8 < M1 26 3 ∧ ∀ r106 : Nat, (r106 : Int) < M1 26 3 → ab_ir (M1 (26 + 1 + 1 + 3 * r106) 0) ∧ ab_ir (M1 (26 + 1 + 1 + 3 * r106) 8) ∧ M1 (26 + 1 + 1 + 3 * r106) 8 < M1 26 3) ∧ (∀ r106 : Int, (r106 = if cr_iIL M1 26 o76 = true then 1 else 0) → (ab_ir r106) ∧ ((¬ r106 = 0 → (∃ n', n' < n ∧ ((M 776 cut.toNat = 0 ∧ n' = (row * 2000002 + 1 + (1000000 - (0 : Int))).toNat ∧ cut = c1 ∧ cut = w1 ∧ 0 ≤ row ∧ row < M 26 3 ∧ o76 = 26 + 1 + 1 + 3 * row.toNat ∧ 0 ≤ (0 : Int) ∧ (0 : Int) ≤ 1000000 ∧ (0 : Int) = (if cut = 0 ∧ M1 o76 0 = 119 then 1 else 0) ∧ pr_I M M1 cut ∧ ((0 : Int) = 0 ∧ prC M1 cut (row - 1) (M1 774) ∨ (0 : Int) = 1 ∧ prC M1 cut row (M1 774) ∧ (0 : Int) ≤ ((gx_c 33280 (M1 774) : Nat) : Int)))))) ∧ (r106 = 0 → (∃ n', n' < n ∧ ((M 776 cut.toNat = 0 ∧ n' = (row * 2000002 + 1 + (1000000 - (0 : Int))).toNat ∧ cut = c1 ∧ cut = w1 ∧ 0 ≤ row ∧ row < M 26 3 ∧ o76 = 26 + 1 + 1 + 3 * row.toNat ∧ 0 ≤ (0 : Int) ∧ (0 : Int) ≤ 1000000 ∧ (0 : Int) = (if cut = 0 ∧ M1 o76 0 = 119 then 1 else 0) ∧ pr_I M M1 cut ∧ ((1 : Int) = 0 ∧ prC M1 cut (row - 1) (M1 774) ∨ (1 : Int) = 1 ∧ prC M1 cut row (M1 774) ∧ (0 : Int) ≤ ((gx_c 33280 (M1 774) : Nat) : Int))))))))) ∧ (w1 = 0 → (ab_ir (M1 o76 0)) ∧ (∀ r87 : Int, (r87 = if M1 o76 0 = 119 then 1 else 0) → (ab_ir r87) ∧ ((r87 = 0 → ((0 ≤ M1 26 3 ∧ M1 26 3 ≤ 120) ∧ ab_ir (M1 o76 8) ∧ M1 o76 8 < M1 26 3 ∧ ∀ r106 : Nat, (r106 : Int) < M1 26 3 → ab_ir (M1 (26 + 1 + 1 + 3 * r106) 0) ∧ ab_ir (M1 (26 + 1 + 1 + 3 * r106) 8) ∧ M1 (26 + 1 + 1 + 3 * r106) 8 < M1 26 3) ∧ (∀ r106 : Int, (r106 = if cr_iIL M1 26 o76 = true then 1 else 0) → (ab_ir r106) ∧ ((¬ r106 = 0 → (∃ n', n' < n ∧ ((M 776 cut.toNat = 0 ∧ n' = (row * 2000002 + 1 + (1000000 - (0 : Int))).toNat ∧ cut = c1 ∧ cut = w1 ∧ 0 ≤ row ∧ row < M 26 3 ∧ o76 = 26 + 1 + 1 + 3 * row.toNat ∧ 0 ≤ (0 : Int) ∧ (0 : Int) ≤ 1000000 ∧ (0 : Int) = (if cut = 0 ∧ M1 o76 0 = 119 then 1 else 0) ∧ pr_I M M1 cut ∧ ((0 : Int) = 0 ∧ prC M1 cut (row - 1) (M1 774) ∨ (0 : Int) = 1 ∧ prC M1 cut row (M1 774) ∧ (0 : Int) ≤ ((gx_c 33280 (M1 774) : Nat) : Int)))))) ∧ (r106 = 0 → (∃ n', n' < n ∧ ((M 776 cut.toNat = 0 ∧ n' = (row * 2000002 + 1 + (1000000 - (0 : Int))).toNat ∧ cut = c1 ∧ cut = w1 ∧ 0 ≤ row ∧ row < M 26 3 ∧ o76 = 26 + 1 + 1 + 3 * row.toNat ∧ 0 ≤ (0 : Int) ∧ (0 : Int) ≤ 1000000 ∧ (0 : Int) = (if cut = 0 ∧ M1 o76 0 = 119 then 1 else 0) ∧ pr_I M M1 cut ∧ ((1 : Int) = 0 ∧ prC M1 cut (row - 1) (M1 774) ∨ (1 : Int) = 1 ∧ prC M1 cut row (M1 774) ∧ (0 : Int) ≤ ((gx_c 33280 (M1 774) : Nat) : Int))))))))) ∧ (¬ r87 = 0 → ((0 ≤ M1 26 3 ∧ M1 26 3 ≤ 120) ∧ ab_ir (M1 o76 8) ∧ M1 o76 8 < M1 26 3 ∧ ∀ r106 : Nat, (r106 : Int) < M1 26 3 → ab_ir (M1 (26 + 1 + 1 + 3 * r106) 0) ∧ ab_ir (M1 (26 + 1 + 1 + 3 * r106) 8) ∧ M1 (26 + 1 + 1 + 3 * r106) 8 < M1 26 3) ∧ (∀ r106 : Int, (r106 = if cr_iIL M1 26 o76 = true then 1 else 0) → (ab_ir r106) ∧ ((¬ r106 = 0 → (∃ n', n' < n ∧ ((M 776 cut.toNat = 0 ∧ n' = (row * 2000002 + 1 + (1000000 - (0 : Int))).toNat ∧ cut = c1 ∧ cut = w1 ∧ 0 ≤ row ∧ row < M 26 3 ∧ o76 = 26 + 1 + 1 + 3 * row.toNat ∧ 0 ≤ (0 : Int) ∧ (0 : Int) ≤ 1000000 ∧ (1 : Int) = (if cut = 0 ∧ M1 o76 0 = 119 then 1 else 0) ∧ pr_I M M1 cut ∧ ((0 : Int) = 0 ∧ prC M1 cut (row - 1) (M1 774) ∨ (0 : Int) = 1 ∧ prC M1 cut row (M1 774) ∧ (0 : Int) ≤ ((gx_c 33280 (M1 774) : Nat) : Int)))))) ∧ (r106 = 0 → (∃ n', n' < n ∧ ((M 776 cut.toNat = 0 ∧ n' = (row * 2000002 + 1 + (1000000 - (0 : Int))).toNat ∧ cut = c1 ∧ cut = w1 ∧ 0 ≤ row ∧ row < M 26 3 ∧ o76 = 26 + 1 + 1 + 3 * row.toNat ∧ 0 ≤ (0 : Int) ∧ (0 : Int) ≤ 1000000 ∧ (1 : Int) = (if cut = 0 ∧ M1 o76 0 = 119 then 1 else 0) ∧ pr_I M M1 cut ∧ ((1 : Int) = 0 ∧ prC M1 cut (row - 1) (M1 774) ∨ (1 : Int) = 1 ∧ prC M1 cut row (M1 774) ∧ (0 : Int) ≤ ((gx_c 33280 (M1 774) : Nat) : Int)))))))))))))))) := by
  obtain ⟨g776, hn, q1, q2, hr0, hr1, hI, hC⟩ := hI
  subst q1
  subst q2
  obtain ⟨⟨gc, gT, gv, gA, gV, gk, gz⟩, gK⟩ := hS
  have hw : ab_and cut 1 = cut := by
    rcases gc with rfl | rfl
    · rfl
    · rfl
  have hcr : ab_ir cut := by omega
  have gL := gA.2.1
  have gp := gA.1
  have g3 := gL.1
  have g8 := gp.2.1
  obtain ⟨i1, i2, i3, i4, i5, i6⟩ := id hI
  have hA1 := gc_A_fr i4.lo gA
  have e3 : M1 26 3 = M 26 3 := i4 26 3 (by omega)
  refine And.intro (by
    first
      | exact hsx
      | exact ⟨⟨by omega, by omega⟩, hsy.1, hsy.2, hall⟩
      | exact ⟨⟨gT, gv⟩, gV, gz⟩
      | omega
      | (rw [hw]; omega)
      | exact ⟨by omega, by omega⟩
      | exact ⟨⟨by omega, by omega⟩, by omega, by omega⟩
      | exact trivial) ?_
  refine ⟨?_, ?_⟩
  · intro c68
    refine And.intro (by
      first
        | exact hsx
        | exact ⟨⟨by omega, by omega⟩, hsy.1, hsy.2, hall⟩
        | exact ⟨⟨gT, gv⟩, gV, gz⟩
        | omega
        | (rw [hw]; omega)
        | exact ⟨by omega, by omega⟩
        | exact ⟨⟨by omega, by omega⟩, by omega, by omega⟩
        | exact trivial) ?_
    intro r192 hr192
    refine And.intro (by
      first
        | exact hsx
        | exact ⟨⟨by omega, by omega⟩, hsy.1, hsy.2, hall⟩
        | exact ⟨⟨gT, gv⟩, gV, gz⟩
        | omega
        | (rw [hw]; omega)
        | exact ⟨by omega, by omega⟩
        | exact ⟨⟨by omega, by omega⟩, by omega, by omega⟩
        | exact trivial) ?_
    refine And.intro (by
      first
        | exact hsx
        | exact ⟨⟨by omega, by omega⟩, hsy.1, hsy.2, hall⟩
        | exact ⟨⟨gT, gv⟩, gV, gz⟩
        | omega
        | (rw [hw]; omega)
        | exact ⟨by omega, by omega⟩
        | exact ⟨⟨by omega, by omega⟩, by omega, by omega⟩
        | exact trivial) ?_
    refine And.intro (by
      first
        | exact hsx
        | exact ⟨⟨by omega, by omega⟩, hsy.1, hsy.2, hall⟩
        | exact ⟨⟨gT, gv⟩, gV, gz⟩
        | omega
        | (rw [hw]; omega)
        | exact ⟨by omega, by omega⟩
        | exact ⟨⟨by omega, by omega⟩, by omega, by omega⟩
        | exact trivial) ?_
    refine And.intro (by
      first
        | exact hsx
        | exact ⟨⟨by omega, by omega⟩, hsy.1, hsy.2, hall⟩
        | exact ⟨⟨gT, gv⟩, gV, gz⟩
        | omega
        | (rw [hw]; omega)
        | exact ⟨by omega, by omega⟩
        | exact ⟨⟨by omega, by omega⟩, by omega, by omega⟩
        | exact trivial) ?_
    refine And.intro (by
      first
        | exact hsx
        | exact ⟨⟨by omega, by omega⟩, hsy.1, hsy.2, hall⟩
        | exact ⟨⟨gT, gv⟩, gV, gz⟩
        | omega
        | (rw [hw]; omega)
        | exact ⟨by omega, by omega⟩
        | exact ⟨⟨by omega, by omega⟩, by omega, by omega⟩
        | exact trivial) ?_
    rw [hr192]
    refine gK _ ⟨fun q => by omega, fun _ => ?_⟩
    have hrow : row = -1 := by omega
    subst hrow
    refine pr_end gA gc hI hC ?_
    have e : (((pr_s M : Nat) : Int)) = if 0 < M1 26 3 then 0 else 120 := by
      unfold pr_s
      rw [e3]
      split <;> rfl
    rw [e]
  · intro c68
    refine And.intro (by
      first
        | exact hsx
        | exact ⟨⟨by omega, by omega⟩, hsy.1, hsy.2, hall⟩
        | exact ⟨⟨gT, gv⟩, gV, gz⟩
        | omega
        | (rw [hw]; omega)
        | exact ⟨by omega, by omega⟩
        | exact ⟨⟨by omega, by omega⟩, by omega, by omega⟩
        | exact trivial) ?_
    intro o76 hr76
    have hs76 : o76 = 26 + 1 + 1 + 3 * row.toNat := by
      rw [hr76, if_pos ⟨by omega, by omega⟩]
    clear hr76
    subst hs76
    obtain ⟨w, rfl⟩ : ∃ w : Nat, row = (w : Int) := ⟨row.toNat, by omega⟩
    rw [show ((w : Int)).toNat = w from rfl]
    have hw1 : (w : Int) < M1 26 3 := by omega
    have hsx : ab_ir (M1 (26 + 1 + 1 + 3 * w) 0) := (hA1.2.2 w hw1).1
    have hsy : ab_ir (M1 (26 + 1 + 1 + 3 * w) 8) ∧ M1 (26 + 1 + 1 + 3 * w) 8 < M1 26 3 := (hA1.2.2 w hw1).2
    have hall : ∀ rx : Nat, (rx : Int) < M1 26 3 → ab_ir (M1 (26 + 1 + 1 + 3 * rx) 0) ∧ ab_ir (M1 (26 + 1 + 1 + 3 * rx) 8) ∧ M1 (26 + 1 + 1 + 3 * rx) 8 < M1 26 3 := hA1.2.2
    refine And.intro (by
      first
        | exact hsx
        | exact ⟨⟨by omega, by omega⟩, hsy.1, hsy.2, hall⟩
        | exact ⟨⟨gT, gv⟩, gV, gz⟩
        | omega
        | (rw [hw]; omega)
        | exact ⟨by omega, by omega⟩
        | exact ⟨⟨by omega, by omega⟩, by omega, by omega⟩
        | exact trivial) ?_
    refine ⟨?_, ?_⟩
    · intro c82
      refine And.intro (by
        first
          | exact hsx
          | exact ⟨⟨by omega, by omega⟩, hsy.1, hsy.2, hall⟩
          | exact ⟨⟨gT, gv⟩, gV, gz⟩
          | omega
          | (rw [hw]; omega)
          | exact ⟨by omega, by omega⟩
          | exact ⟨⟨by omega, by omega⟩, by omega, by omega⟩
          | exact trivial) ?_
      intro r106 hr106
      refine And.intro (by
        first
          | exact hsx
          | exact ⟨⟨by omega, by omega⟩, hsy.1, hsy.2, hall⟩
          | exact ⟨⟨gT, gv⟩, gV, gz⟩
          | omega
          | (rw [hw]; omega)
          | exact ⟨by omega, by omega⟩
          | exact ⟨⟨by omega, by omega⟩, by omega, by omega⟩
          | exact trivial) ?_
      refine ⟨?_, ?_⟩
      · intro c109
        rw [hr106] at c109
        rw [ab_bt] at c109
        clear hr106 r106
        refine ⟨_, ?_, g776, rfl, rfl, rfl, by omega, by omega, rfl, by decide, by decide, ?_, hI, ?_⟩
        · exact pr_n1 hn
        · first
            | (rw [if_pos ⟨by omega, by assumption⟩]; done)
            | (rw [if_neg (fun q => by first | exact absurd q.2 (by assumption) | (have := q.1; omega))]; done)
        · first
            | exact Or.inr ⟨rfl, hC, by omega⟩
            | exact Or.inl ⟨rfl, hC.inner hA1.2.1 hw1 ((hA1.2.1.2.2.2.2.2.2 w hw1).1 (by assumption))⟩
      · intro c109
        rw [hr106] at c109
        rw [ab_bf] at c109
        clear hr106 r106
        refine ⟨_, ?_, g776, rfl, rfl, rfl, by omega, by omega, rfl, by decide, by decide, ?_, hI, ?_⟩
        · exact pr_n1 hn
        · first
            | (rw [if_pos ⟨by omega, by assumption⟩]; done)
            | (rw [if_neg (fun q => by first | exact absurd q.2 (by assumption) | (have := q.1; omega))]; done)
        · first
            | exact Or.inr ⟨rfl, hC, by omega⟩
            | exact Or.inl ⟨rfl, hC.inner hA1.2.1 hw1 ((hA1.2.1.2.2.2.2.2.2 w hw1).1 (by assumption))⟩
    · intro c82
      refine And.intro (by
        first
          | exact hsx
          | exact ⟨⟨by omega, by omega⟩, hsy.1, hsy.2, hall⟩
          | exact ⟨⟨gT, gv⟩, gV, gz⟩
          | omega
          | (rw [hw]; omega)
          | exact ⟨by omega, by omega⟩
          | exact ⟨⟨by omega, by omega⟩, by omega, by omega⟩
          | exact trivial) ?_
      intro r87 hr87
      refine And.intro (by
        first
          | exact hsx
          | exact ⟨⟨by omega, by omega⟩, hsy.1, hsy.2, hall⟩
          | exact ⟨⟨gT, gv⟩, gV, gz⟩
          | omega
          | (rw [hw]; omega)
          | exact ⟨by omega, by omega⟩
          | exact ⟨⟨by omega, by omega⟩, by omega, by omega⟩
          | exact trivial) ?_
      refine ⟨?_, ?_⟩
      · intro c90
        rw [hr87] at c90
        rw [ab_bf] at c90
        clear hr87 r87
        refine And.intro (by
          first
            | exact hsx
            | exact ⟨⟨by omega, by omega⟩, hsy.1, hsy.2, hall⟩
            | exact ⟨⟨gT, gv⟩, gV, gz⟩
            | omega
            | (rw [hw]; omega)
            | exact ⟨by omega, by omega⟩
            | exact ⟨⟨by omega, by omega⟩, by omega, by omega⟩
            | exact trivial) ?_
        intro r106 hr106
        refine And.intro (by
          first
            | exact hsx
            | exact ⟨⟨by omega, by omega⟩, hsy.1, hsy.2, hall⟩
            | exact ⟨⟨gT, gv⟩, gV, gz⟩
            | omega
            | (rw [hw]; omega)
            | exact ⟨by omega, by omega⟩
            | exact ⟨⟨by omega, by omega⟩, by omega, by omega⟩
            | exact trivial) ?_
        refine ⟨?_, ?_⟩
        · intro c109
          rw [hr106] at c109
          rw [ab_bt] at c109
          clear hr106 r106
          refine ⟨_, ?_, g776, rfl, rfl, rfl, by omega, by omega, rfl, by decide, by decide, ?_, hI, ?_⟩
          · exact pr_n1 hn
          · first
              | (rw [if_pos ⟨by omega, by assumption⟩]; done)
              | (rw [if_neg (fun q => by first | exact absurd q.2 (by assumption) | (have := q.1; omega))]; done)
          · first
              | exact Or.inr ⟨rfl, hC, by omega⟩
              | exact Or.inl ⟨rfl, hC.inner hA1.2.1 hw1 ((hA1.2.1.2.2.2.2.2.2 w hw1).1 (by assumption))⟩
        · intro c109
          rw [hr106] at c109
          rw [ab_bf] at c109
          clear hr106 r106
          refine ⟨_, ?_, g776, rfl, rfl, rfl, by omega, by omega, rfl, by decide, by decide, ?_, hI, ?_⟩
          · exact pr_n1 hn
          · first
              | (rw [if_pos ⟨by omega, by assumption⟩]; done)
              | (rw [if_neg (fun q => by first | exact absurd q.2 (by assumption) | (have := q.1; omega))]; done)
          · first
              | exact Or.inr ⟨rfl, hC, by omega⟩
              | exact Or.inl ⟨rfl, hC.inner hA1.2.1 hw1 ((hA1.2.1.2.2.2.2.2.2 w hw1).1 (by assumption))⟩
      · intro c90
        rw [hr87] at c90
        rw [ab_bt] at c90
        clear hr87 r87
        refine And.intro (by
          first
            | exact hsx
            | exact ⟨⟨by omega, by omega⟩, hsy.1, hsy.2, hall⟩
            | exact ⟨⟨gT, gv⟩, gV, gz⟩
            | omega
            | (rw [hw]; omega)
            | exact ⟨by omega, by omega⟩
            | exact ⟨⟨by omega, by omega⟩, by omega, by omega⟩
            | exact trivial) ?_
        intro r106 hr106
        refine And.intro (by
          first
            | exact hsx
            | exact ⟨⟨by omega, by omega⟩, hsy.1, hsy.2, hall⟩
            | exact ⟨⟨gT, gv⟩, gV, gz⟩
            | omega
            | (rw [hw]; omega)
            | exact ⟨by omega, by omega⟩
            | exact ⟨⟨by omega, by omega⟩, by omega, by omega⟩
            | exact trivial) ?_
        refine ⟨?_, ?_⟩
        · intro c109
          rw [hr106] at c109
          rw [ab_bt] at c109
          clear hr106 r106
          refine ⟨_, ?_, g776, rfl, rfl, rfl, by omega, by omega, rfl, by decide, by decide, ?_, hI, ?_⟩
          · exact pr_n1 hn
          · first
              | (rw [if_pos ⟨by omega, by assumption⟩]; done)
              | (rw [if_neg (fun q => by first | exact absurd q.2 (by assumption) | (have := q.1; omega))]; done)
          · first
              | exact Or.inr ⟨rfl, hC, by omega⟩
              | exact Or.inl ⟨rfl, hC.inner hA1.2.1 hw1 ((hA1.2.1.2.2.2.2.2.2 w hw1).1 (by assumption))⟩
        · intro c109
          rw [hr106] at c109
          rw [ab_bf] at c109
          clear hr106 r106
          refine ⟨_, ?_, g776, rfl, rfl, rfl, by omega, by omega, rfl, by decide, by decide, ?_, hI, ?_⟩
          · exact pr_n1 hn
          · first
              | (rw [if_pos ⟨by omega, by assumption⟩]; done)
              | (rw [if_neg (fun q => by first | exact absurd q.2 (by assumption) | (have := q.1; omega))]; done)
          · first
              | exact Or.inr ⟨rfl, hC, by omega⟩
              | exact Or.inl ⟨rfl, hC.inner hA1.2.1 hw1 ((hA1.2.1.2.2.2.2.2.2 w hw1).1 (by assumption))⟩

set_option maxRecDepth 20000 in
theorem vc_X3_prepare_122 (cut : Int) (M : ab_M) (K : List ab_V → ab_M → Prop) (hS : ((cut = 0 ∨ cut = 1) ∧ vl_T M ∧ tv_ok M ∧ gc_A M ∧ (M 769 3 = 0 ∨ M 769 3 = 1 ∧ vl_V M M (M 26 11)) ∧ (M 776 cut.toNat = 0 ∨ M 776 cut.toNat = 1) ∧ ∀ k : Nat, 33280 ≤ k → M 774 k = 0) ∧ (∀ Mx : ab_M, ((M 776 cut.toNat = 1 → Mx = M) ∧ (M 776 cut.toNat = 0 → pr_N M Mx cut)) → K [] Mx)) (n : Nat) (c1 : Int) (w1 : Int) (row : Int) (s4 : Nat) (may : Int) (again : Int) (n7 : Int) (M1 : ab_M) (hI : M 776 cut.toNat = 0 ∧ n = (row * 2000002 + 1 + (1000000 - n7)).toNat ∧ cut = c1 ∧ cut = w1 ∧ 0 ≤ row ∧ row < M 26 3 ∧ s4 = 26 + 1 + 1 + 3 * row.toNat ∧ 0 ≤ n7 ∧ n7 ≤ 1000000 ∧ may = (if cut = 0 ∧ M1 s4 0 = 119 then 1 else 0) ∧ pr_I M M1 cut ∧ (again = 0 ∧ prC M1 cut (row - 1) (M1 774) ∨ again = 1 ∧ prC M1 cut row (M1 774) ∧ n7 ≤ ((gx_c 33280 (M1 774) : Nat) : Int))) : (ab_ir n7 ∧ ab_ir (1000000 : Int)) ∧ (((1000000 : Int) ≤ n7 → (∃ n', n' < n ∧ ((M 776 cut.toNat = 0 ∧ n' = (((row + (-1)) + 1) * 2000002).toNat ∧ cut = c1 ∧ cut = w1 ∧ -1 ≤ (row + (-1)) ∧ (row + (-1)) < M 26 3 ∧ pr_I M M1 cut ∧ prC M1 cut (row + (-1)) (M1 774))))) ∧ (n7 < (1000000 : Int) → (ab_ir again) ∧ ((again = 0 → (∃ n', n' < n ∧ ((M 776 cut.toNat = 0 ∧ n' = (((row + (-1)) + 1) * 2000002).toNat ∧ cut = c1 ∧ cut = w1 ∧ -1 ≤ (row + (-1)) ∧ (row + (-1)) < M 26 3 ∧ pr_I M M1 cut ∧ prC M1 cut (row + (-1)) (M1 774))))) ∧ (¬ again = 0 → (ab_ir (M1 s4 0)) ∧ (∀ r138 : Int, (r138 = if M1 s4 0 = 119 then 1 else 0) → (ab_ir r138) ∧ ((r138 = 0 → ((tv_ok M1 ∧ ts_p M1) ∧ (0 ≤ row ∧ row ≤ row + 1 ∧ row < M1 26 3) ∧ ab_ir w1 ∧ ∀ j, ab_ir (M1 774 j)) ∧ (∀ r154 : Int, ∀ M154 : ab_M, (sw_I M1 M154 w1 (sw_R M1 row row w1) r154) → (r154 = 0 ∨ r154 = 1) → (ab_ir r154) ∧ ((r154 = 0 → (∃ n', n' < n ∧ ((M 776 cut.toNat = 0 ∧ n' = (row * 2000002 + 1 + (1000000 - (n7 + 1))).toNat ∧ cut = c1 ∧ cut = w1 ∧ 0 ≤ row ∧ row < M 26 3 ∧ s4 = 26 + 1 + 1 + 3 * row.toNat ∧ 0 ≤ (n7 + 1) ∧ (n7 + 1) ≤ 1000000 ∧ may = (if cut = 0 ∧ M154 s4 0 = 119 then 1 else 0) ∧ pr_I M M154 cut ∧ ((0 : Int) = 0 ∧ prC M154 cut (row - 1) (M154 774) ∨ (0 : Int) = 1 ∧ prC M154 cut row (M154 774) ∧ (n7 + 1) ≤ ((gx_c 33280 (M154 774) : Nat) : Int)))))) ∧ (¬ r154 = 0 → (ab_ir may) ∧ ((may = 0 → (∃ n', n' < n ∧ ((M 776 cut.toNat = 0 ∧ n' = (row * 2000002 + 1 + (1000000 - (n7 + 1))).toNat ∧ cut = c1 ∧ cut = w1 ∧ 0 ≤ row ∧ row < M 26 3 ∧ s4 = 26 + 1 + 1 + 3 * row.toNat ∧ 0 ≤ (n7 + 1) ∧ (n7 + 1) ≤ 1000000 ∧ may = (if cut = 0 ∧ M154 s4 0 = 119 then 1 else 0) ∧ pr_I M M154 cut ∧ ((0 : Int) = 0 ∧ prC M154 cut (row - 1) (M154 774) ∨ (0 : Int) = 1 ∧ prC M154 cut row (M154 774) ∧ (n7 + 1) ≤ ((gx_c 33280 (M154 774) : Nat) : Int)))))) ∧ (¬ may = 0 → (∃ n', n' < n ∧ ((M 776 cut.toNat = 0 ∧ n' = (row * 2000002 + 1 + (1000000 - (n7 + 1))).toNat ∧ cut = c1 ∧ cut = w1 ∧ 0 ≤ row ∧ row < M 26 3 ∧ s4 = 26 + 1 + 1 + 3 * row.toNat ∧ 0 ≤ (n7 + 1) ∧ (n7 + 1) ≤ 1000000 ∧ may = (if cut = 0 ∧ M154 s4 0 = 119 then 1 else 0) ∧ pr_I M M154 cut ∧ ((1 : Int) = 0 ∧ prC M154 cut (row - 1) (M154 774) ∨ (1 : Int) = 1 ∧ prC M154 cut row (M154 774) ∧ (n7 + 1) ≤ ((gx_c 33280 (M154 774) : Nat) : Int))))))))))) ∧ (¬ r138 = 0 → ((tv_ok M1 ∧ ts_p M1) ∧ (0 ≤ row ∧ row ≤ (M1 s4 14) + 1 ∧ (M1 s4 14) < M1 26 3) ∧ ab_ir w1 ∧ ∀ j, ab_ir (M1 774 j)) ∧ (∀ r154 : Int, ∀ M154 : ab_M, (sw_I M1 M154 w1 (sw_R M1 row (M1 s4 14) w1) r154) → (r154 = 0 ∨ r154 = 1) → (ab_ir r154) ∧ ((r154 = 0 → (∃ n', n' < n ∧ ((M 776 cut.toNat = 0 ∧ n' = (row * 2000002 + 1 + (1000000 - (n7 + 1))).toNat ∧ cut = c1 ∧ cut = w1 ∧ 0 ≤ row ∧ row < M 26 3 ∧ s4 = 26 + 1 + 1 + 3 * row.toNat ∧ 0 ≤ (n7 + 1) ∧ (n7 + 1) ≤ 1000000 ∧ may = (if cut = 0 ∧ M154 s4 0 = 119 then 1 else 0) ∧ pr_I M M154 cut ∧ ((0 : Int) = 0 ∧ prC M154 cut (row - 1) (M154 774) ∨ (0 : Int) = 1 ∧ prC M154 cut row (M154 774) ∧ (n7 + 1) ≤ ((gx_c 33280 (M154 774) : Nat) : Int)))))) ∧ (¬ r154 = 0 → (ab_ir may) ∧ ((may = 0 → (∃ n', n' < n ∧ ((M 776 cut.toNat = 0 ∧ n' = (row * 2000002 + 1 + (1000000 - (n7 + 1))).toNat ∧ cut = c1 ∧ cut = w1 ∧ 0 ≤ row ∧ row < M 26 3 ∧ s4 = 26 + 1 + 1 + 3 * row.toNat ∧ 0 ≤ (n7 + 1) ∧ (n7 + 1) ≤ 1000000 ∧ may = (if cut = 0 ∧ M154 s4 0 = 119 then 1 else 0) ∧ pr_I M M154 cut ∧ ((0 : Int) = 0 ∧ prC M154 cut (row - 1) (M154 774) ∨ (0 : Int) = 1 ∧ prC M154 cut row (M154 774) ∧ (n7 + 1) ≤ ((gx_c 33280 (M154 774) : Nat) : Int)))))) ∧ (¬ may = 0 → (∃ n', n' < n ∧ ((M 776 cut.toNat = 0 ∧ n' = (row * 2000002 + 1 + (1000000 - (n7 + 1))).toNat ∧ cut = c1 ∧ cut = w1 ∧ 0 ≤ row ∧ row < M 26 3 ∧ s4 = 26 + 1 + 1 + 3 * row.toNat ∧ 0 ≤ (n7 + 1) ∧ (n7 + 1) ≤ 1000000 ∧ may = (if cut = 0 ∧ M154 s4 0 = 119 then 1 else 0) ∧ pr_I M M154 cut ∧ ((1 : Int) = 0 ∧ prC M154 cut (row - 1) (M154 774) ∨ (1 : Int) = 1 ∧ prC M154 cut row (M154 774) ∧ (n7 + 1) ≤ ((gx_c 33280 (M154 774) : Nat) : Int))))))))))))))))) := by
  obtain ⟨g776, hn, q1, q2, hr0, hr1, hs, hc0, hc1, hmay, hI, hX⟩ := hI
  subst q1
  subst q2
  obtain ⟨⟨gc, gT, gv, gA, gV, gk, gz⟩, gK⟩ := hS
  have hw : ab_and cut 1 = cut := by
    rcases gc with rfl | rfl
    · rfl
    · rfl
  have hcr : ab_ir cut := by omega
  have gL := gA.2.1
  have gp := gA.1
  have g3 := gL.1
  have g8 := gp.2.1
  obtain ⟨w, rfl⟩ : ∃ w : Nat, row = (w : Int) := ⟨row.toNat, by omega⟩
  obtain ⟨i1, i2, i3, i4, i5, i6⟩ := id hI
  have hA1 := gc_A_fr i4.lo gA
  have e3 : M1 26 3 = M 26 3 := i4 26 3 (by omega)
  rw [show ((w : Int)).toNat = w from rfl] at hs
  subst hs
  have hw1 : (w : Int) < M1 26 3 := by omega
  have hsx : ab_ir (M1 (26 + 1 + 1 + 3 * w) 0) := (hA1.2.2 w hw1).1
  have hH := prH_rng hA1.2.1 hw1
  have hHe : prH M1 w = if M1 (26 + 1 + 1 + 3 * w) 0 = 119 then M1 (26 + 1 + 1 + 3 * w) 14 else (w : Int) := rfl
  have hbg := gx_m_bd (fun x => pz_b (M1 774 (x / 18)) (x % 18)) (18 * 33280)
  have hbd : gx_c 33280 (M1 774) ≤ 599040 := hbg
  refine And.intro (by
    first
      | exact hsx
      | exact ⟨⟨i3, hA1.1⟩, ⟨by omega, by omega, by omega⟩, hcr, hI.2.2.2.2.1.2.2⟩
      | (refine ⟨⟨i3, hA1.1⟩, ⟨by omega, ?_, ?_⟩, hcr, hI.2.2.2.2.1.2.2⟩ <;> (first | (rw [hHe, if_pos (by assumption)] at hH; omega) | (rw [hHe, if_neg (by assumption)] at hH; omega)))
      | exact ⟨⟨gT, gv⟩, gV, gz⟩
      | omega
      | (rw [hw]; omega)
      | exact ⟨by omega, by omega⟩
      | exact ⟨⟨by omega, by omega⟩, by omega, by omega⟩
      | exact trivial) ?_
  refine ⟨?_, ?_⟩
  · intro c126
    refine ⟨_, ?_, g776, rfl, rfl, rfl, by omega, by omega, hI, ?_⟩
    · omega
    · rw [show (w : Int) + -1 = (w : Int) - 1 by omega]
      rcases hX with z | z
      · exact z.2
      · exact absurd z (by omega)
  · intro c126
    refine And.intro (by
      first
        | exact hsx
        | exact ⟨⟨i3, hA1.1⟩, ⟨by omega, by omega, by omega⟩, hcr, hI.2.2.2.2.1.2.2⟩
        | (refine ⟨⟨i3, hA1.1⟩, ⟨by omega, ?_, ?_⟩, hcr, hI.2.2.2.2.1.2.2⟩ <;> (first | (rw [hHe, if_pos (by assumption)] at hH; omega) | (rw [hHe, if_neg (by assumption)] at hH; omega)))
        | exact ⟨⟨gT, gv⟩, gV, gz⟩
        | omega
        | (rw [hw]; omega)
        | exact ⟨by omega, by omega⟩
        | exact ⟨⟨by omega, by omega⟩, by omega, by omega⟩
        | exact trivial) ?_
    refine ⟨?_, ?_⟩
    · intro c131
      refine ⟨_, ?_, g776, rfl, rfl, rfl, by omega, by omega, hI, ?_⟩
      · omega
      · rw [show (w : Int) + -1 = (w : Int) - 1 by omega]
        rcases hX with z | z
        · exact z.2
        · exact absurd z (by omega)
    · intro c131
      refine And.intro (by
        first
          | exact hsx
          | exact ⟨⟨i3, hA1.1⟩, ⟨by omega, by omega, by omega⟩, hcr, hI.2.2.2.2.1.2.2⟩
          | (refine ⟨⟨i3, hA1.1⟩, ⟨by omega, ?_, ?_⟩, hcr, hI.2.2.2.2.1.2.2⟩ <;> (first | (rw [hHe, if_pos (by assumption)] at hH; omega) | (rw [hHe, if_neg (by assumption)] at hH; omega)))
          | exact ⟨⟨gT, gv⟩, gV, gz⟩
          | omega
          | (rw [hw]; omega)
          | exact ⟨by omega, by omega⟩
          | exact ⟨⟨by omega, by omega⟩, by omega, by omega⟩
          | exact trivial) ?_
      intro r138 hr138
      refine And.intro (by
        first
          | exact hsx
          | exact ⟨⟨i3, hA1.1⟩, ⟨by omega, by omega, by omega⟩, hcr, hI.2.2.2.2.1.2.2⟩
          | (refine ⟨⟨i3, hA1.1⟩, ⟨by omega, ?_, ?_⟩, hcr, hI.2.2.2.2.1.2.2⟩ <;> (first | (rw [hHe, if_pos (by assumption)] at hH; omega) | (rw [hHe, if_neg (by assumption)] at hH; omega)))
          | exact ⟨⟨gT, gv⟩, gV, gz⟩
          | omega
          | (rw [hw]; omega)
          | exact ⟨by omega, by omega⟩
          | exact ⟨⟨by omega, by omega⟩, by omega, by omega⟩
          | exact trivial) ?_
      refine ⟨?_, ?_⟩
      · intro c141
        rw [hr138] at c141
        rw [ab_bf] at c141
        clear hr138 r138
        refine And.intro (by
          first
            | exact hsx
            | exact ⟨⟨i3, hA1.1⟩, ⟨by omega, by omega, by omega⟩, hcr, hI.2.2.2.2.1.2.2⟩
            | (refine ⟨⟨i3, hA1.1⟩, ⟨by omega, ?_, ?_⟩, hcr, hI.2.2.2.2.1.2.2⟩ <;> (first | (rw [hHe, if_pos (by assumption)] at hH; omega) | (rw [hHe, if_neg (by assumption)] at hH; omega)))
            | exact ⟨⟨gT, gv⟩, gV, gz⟩
            | omega
            | (rw [hw]; omega)
            | exact ⟨by omega, by omega⟩
            | exact ⟨⟨by omega, by omega⟩, by omega, by omega⟩
            | exact trivial) ?_
        intro r154 M154 hM154 hr154
        refine And.intro (by
          first
            | exact hsx
            | exact ⟨⟨i3, hA1.1⟩, ⟨by omega, by omega, by omega⟩, hcr, hI.2.2.2.2.1.2.2⟩
            | (refine ⟨⟨i3, hA1.1⟩, ⟨by omega, ?_, ?_⟩, hcr, hI.2.2.2.2.1.2.2⟩ <;> (first | (rw [hHe, if_pos (by assumption)] at hH; omega) | (rw [hHe, if_neg (by assumption)] at hH; omega)))
            | exact ⟨⟨gT, gv⟩, gV, gz⟩
            | omega
            | (rw [hw]; omega)
            | exact ⟨by omega, by omega⟩
            | exact ⟨⟨by omega, by omega⟩, by omega, by omega⟩
            | exact trivial) ?_
        refine ⟨?_, ?_⟩
        · intro c157
          have hCx : prC M1 cut (w : Int) (M1 774) ∧ n7 ≤ ((gx_c 33280 (M1 774) : Nat) : Int) := by
            rcases hX with z | z
            · exact absurd z.1 (by assumption)
            · exact z.2
          have hS : sw_I M1 M154 cut (sw_R M1 (w : Int) (prH M1 w) cut) r154 := by
            first
              | (rw [hHe, if_pos (by assumption)]; exact hM154)
              | (rw [hHe, if_neg (by assumption)]; exact hM154)
          obtain ⟨t1, t2, t3, t4⟩ := pr_step gA gc hI (by omega) hCx.1 hS
          have hss : M154 (26 + 1 + 1 + 3 * w) 0 = M1 (26 + 1 + 1 + 3 * w) 0 := hS.1 _ _ (by omega) (by omega) (by omega)
          refine ⟨_, ?_, g776, rfl, rfl, rfl, by omega, by omega, rfl, by omega, by omega, ?_, t1, ?_⟩
          · omega
          · rw [hss]; exact hmay
          · first
              | exact Or.inl ⟨rfl, t3 (by assumption)⟩
              | (refine Or.inl ⟨rfl, (t4 (by omega)).1 fun q => ?_⟩
                 rw [if_pos q] at hmay
                 omega)
              | (refine Or.inr ⟨rfl, t2, ?_⟩
                 have := (t4 (by omega)).2
                 omega)
        · intro c157
          refine And.intro (by
            first
              | exact hsx
              | exact ⟨⟨i3, hA1.1⟩, ⟨by omega, by omega, by omega⟩, hcr, hI.2.2.2.2.1.2.2⟩
              | (refine ⟨⟨i3, hA1.1⟩, ⟨by omega, ?_, ?_⟩, hcr, hI.2.2.2.2.1.2.2⟩ <;> (first | (rw [hHe, if_pos (by assumption)] at hH; omega) | (rw [hHe, if_neg (by assumption)] at hH; omega)))
              | exact ⟨⟨gT, gv⟩, gV, gz⟩
              | omega
              | (rw [hw]; omega)
              | exact ⟨by omega, by omega⟩
              | exact ⟨⟨by omega, by omega⟩, by omega, by omega⟩
              | exact trivial) ?_
          refine ⟨?_, ?_⟩
          · intro c162
            have hCx : prC M1 cut (w : Int) (M1 774) ∧ n7 ≤ ((gx_c 33280 (M1 774) : Nat) : Int) := by
              rcases hX with z | z
              · exact absurd z.1 (by assumption)
              · exact z.2
            have hS : sw_I M1 M154 cut (sw_R M1 (w : Int) (prH M1 w) cut) r154 := by
              first
                | (rw [hHe, if_pos (by assumption)]; exact hM154)
                | (rw [hHe, if_neg (by assumption)]; exact hM154)
            obtain ⟨t1, t2, t3, t4⟩ := pr_step gA gc hI (by omega) hCx.1 hS
            have hss : M154 (26 + 1 + 1 + 3 * w) 0 = M1 (26 + 1 + 1 + 3 * w) 0 := hS.1 _ _ (by omega) (by omega) (by omega)
            refine ⟨_, ?_, g776, rfl, rfl, rfl, by omega, by omega, rfl, by omega, by omega, ?_, t1, ?_⟩
            · omega
            · rw [hss]; exact hmay
            · first
                | exact Or.inl ⟨rfl, t3 (by assumption)⟩
                | (refine Or.inl ⟨rfl, (t4 (by omega)).1 fun q => ?_⟩
                   rw [if_pos q] at hmay
                   omega)
                | (refine Or.inr ⟨rfl, t2, ?_⟩
                   have := (t4 (by omega)).2
                   omega)
          · intro c162
            have hCx : prC M1 cut (w : Int) (M1 774) ∧ n7 ≤ ((gx_c 33280 (M1 774) : Nat) : Int) := by
              rcases hX with z | z
              · exact absurd z.1 (by assumption)
              · exact z.2
            have hS : sw_I M1 M154 cut (sw_R M1 (w : Int) (prH M1 w) cut) r154 := by
              first
                | (rw [hHe, if_pos (by assumption)]; exact hM154)
                | (rw [hHe, if_neg (by assumption)]; exact hM154)
            obtain ⟨t1, t2, t3, t4⟩ := pr_step gA gc hI (by omega) hCx.1 hS
            have hss : M154 (26 + 1 + 1 + 3 * w) 0 = M1 (26 + 1 + 1 + 3 * w) 0 := hS.1 _ _ (by omega) (by omega) (by omega)
            refine ⟨_, ?_, g776, rfl, rfl, rfl, by omega, by omega, rfl, by omega, by omega, ?_, t1, ?_⟩
            · omega
            · rw [hss]; exact hmay
            · first
                | exact Or.inl ⟨rfl, t3 (by assumption)⟩
                | (refine Or.inl ⟨rfl, (t4 (by omega)).1 fun q => ?_⟩
                   rw [if_pos q] at hmay
                   omega)
                | (refine Or.inr ⟨rfl, t2, ?_⟩
                   have := (t4 (by omega)).2
                   omega)
      · intro c141
        rw [hr138] at c141
        rw [ab_bt] at c141
        clear hr138 r138
        refine And.intro (by
          first
            | exact hsx
            | exact ⟨⟨i3, hA1.1⟩, ⟨by omega, by omega, by omega⟩, hcr, hI.2.2.2.2.1.2.2⟩
            | (refine ⟨⟨i3, hA1.1⟩, ⟨by omega, ?_, ?_⟩, hcr, hI.2.2.2.2.1.2.2⟩ <;> (first | (rw [hHe, if_pos (by assumption)] at hH; omega) | (rw [hHe, if_neg (by assumption)] at hH; omega)))
            | exact ⟨⟨gT, gv⟩, gV, gz⟩
            | omega
            | (rw [hw]; omega)
            | exact ⟨by omega, by omega⟩
            | exact ⟨⟨by omega, by omega⟩, by omega, by omega⟩
            | exact trivial) ?_
        intro r154 M154 hM154 hr154
        refine And.intro (by
          first
            | exact hsx
            | exact ⟨⟨i3, hA1.1⟩, ⟨by omega, by omega, by omega⟩, hcr, hI.2.2.2.2.1.2.2⟩
            | (refine ⟨⟨i3, hA1.1⟩, ⟨by omega, ?_, ?_⟩, hcr, hI.2.2.2.2.1.2.2⟩ <;> (first | (rw [hHe, if_pos (by assumption)] at hH; omega) | (rw [hHe, if_neg (by assumption)] at hH; omega)))
            | exact ⟨⟨gT, gv⟩, gV, gz⟩
            | omega
            | (rw [hw]; omega)
            | exact ⟨by omega, by omega⟩
            | exact ⟨⟨by omega, by omega⟩, by omega, by omega⟩
            | exact trivial) ?_
        refine ⟨?_, ?_⟩
        · intro c157
          have hCx : prC M1 cut (w : Int) (M1 774) ∧ n7 ≤ ((gx_c 33280 (M1 774) : Nat) : Int) := by
            rcases hX with z | z
            · exact absurd z.1 (by assumption)
            · exact z.2
          have hS : sw_I M1 M154 cut (sw_R M1 (w : Int) (prH M1 w) cut) r154 := by
            first
              | (rw [hHe, if_pos (by assumption)]; exact hM154)
              | (rw [hHe, if_neg (by assumption)]; exact hM154)
          obtain ⟨t1, t2, t3, t4⟩ := pr_step gA gc hI (by omega) hCx.1 hS
          have hss : M154 (26 + 1 + 1 + 3 * w) 0 = M1 (26 + 1 + 1 + 3 * w) 0 := hS.1 _ _ (by omega) (by omega) (by omega)
          refine ⟨_, ?_, g776, rfl, rfl, rfl, by omega, by omega, rfl, by omega, by omega, ?_, t1, ?_⟩
          · omega
          · rw [hss]; exact hmay
          · first
              | exact Or.inl ⟨rfl, t3 (by assumption)⟩
              | (refine Or.inl ⟨rfl, (t4 (by omega)).1 fun q => ?_⟩
                 rw [if_pos q] at hmay
                 omega)
              | (refine Or.inr ⟨rfl, t2, ?_⟩
                 have := (t4 (by omega)).2
                 omega)
        · intro c157
          refine And.intro (by
            first
              | exact hsx
              | exact ⟨⟨i3, hA1.1⟩, ⟨by omega, by omega, by omega⟩, hcr, hI.2.2.2.2.1.2.2⟩
              | (refine ⟨⟨i3, hA1.1⟩, ⟨by omega, ?_, ?_⟩, hcr, hI.2.2.2.2.1.2.2⟩ <;> (first | (rw [hHe, if_pos (by assumption)] at hH; omega) | (rw [hHe, if_neg (by assumption)] at hH; omega)))
              | exact ⟨⟨gT, gv⟩, gV, gz⟩
              | omega
              | (rw [hw]; omega)
              | exact ⟨by omega, by omega⟩
              | exact ⟨⟨by omega, by omega⟩, by omega, by omega⟩
              | exact trivial) ?_
          refine ⟨?_, ?_⟩
          · intro c162
            have hCx : prC M1 cut (w : Int) (M1 774) ∧ n7 ≤ ((gx_c 33280 (M1 774) : Nat) : Int) := by
              rcases hX with z | z
              · exact absurd z.1 (by assumption)
              · exact z.2
            have hS : sw_I M1 M154 cut (sw_R M1 (w : Int) (prH M1 w) cut) r154 := by
              first
                | (rw [hHe, if_pos (by assumption)]; exact hM154)
                | (rw [hHe, if_neg (by assumption)]; exact hM154)
            obtain ⟨t1, t2, t3, t4⟩ := pr_step gA gc hI (by omega) hCx.1 hS
            have hss : M154 (26 + 1 + 1 + 3 * w) 0 = M1 (26 + 1 + 1 + 3 * w) 0 := hS.1 _ _ (by omega) (by omega) (by omega)
            refine ⟨_, ?_, g776, rfl, rfl, rfl, by omega, by omega, rfl, by omega, by omega, ?_, t1, ?_⟩
            · omega
            · rw [hss]; exact hmay
            · first
                | exact Or.inl ⟨rfl, t3 (by assumption)⟩
                | (refine Or.inl ⟨rfl, (t4 (by omega)).1 fun q => ?_⟩
                   rw [if_pos q] at hmay
                   omega)
                | (refine Or.inr ⟨rfl, t2, ?_⟩
                   have := (t4 (by omega)).2
                   omega)
          · intro c162
            have hCx : prC M1 cut (w : Int) (M1 774) ∧ n7 ≤ ((gx_c 33280 (M1 774) : Nat) : Int) := by
              rcases hX with z | z
              · exact absurd z.1 (by assumption)
              · exact z.2
            have hS : sw_I M1 M154 cut (sw_R M1 (w : Int) (prH M1 w) cut) r154 := by
              first
                | (rw [hHe, if_pos (by assumption)]; exact hM154)
                | (rw [hHe, if_neg (by assumption)]; exact hM154)
            obtain ⟨t1, t2, t3, t4⟩ := pr_step gA gc hI (by omega) hCx.1 hS
            have hss : M154 (26 + 1 + 1 + 3 * w) 0 = M1 (26 + 1 + 1 + 3 * w) 0 := hS.1 _ _ (by omega) (by omega) (by omega)
            refine ⟨_, ?_, g776, rfl, rfl, rfl, by omega, by omega, rfl, by omega, by omega, ?_, t1, ?_⟩
            · omega
            · rw [hss]; exact hmay
            · first
                | exact Or.inl ⟨rfl, t3 (by assumption)⟩
                | (refine Or.inl ⟨rfl, (t4 (by omega)).1 fun q => ?_⟩
                   rw [if_pos q] at hmay
                   omega)
                | (refine Or.inr ⟨rfl, t2, ?_⟩
                   have := (t4 (by omega)).2
                   omega)

set_option maxRecDepth 20000 in
set_option maxHeartbeats 1000000 in
theorem ok_X3_prepare (E : ab_E) : ab_Ok E 7 52 S_X3_prepare := by
  refine ab_mk rq_X3_prepare tk_X3_prepare (rt := 0) (rfl) (cuts := [20, 67, 122]) (G := [(16, S_X1_at), (20, S_X1_isInLoop), (29, S_X1_startRow), (49, S_X3_clearNotes), (59, S_X3_sweep), (62, S_X4_isLoop)]) (List.forall_mem_cons.mpr ⟨⟨1, by decide, ok_X1_at E⟩, List.forall_mem_cons.mpr ⟨⟨2, by decide, ok_X1_isInLoop E⟩, List.forall_mem_cons.mpr ⟨⟨1, by decide, ok_X1_startRow E⟩, List.forall_mem_cons.mpr ⟨⟨5, by decide, ok_X3_clearNotes E⟩, List.forall_mem_cons.mpr ⟨⟨6, by decide, ok_X3_sweep E⟩, List.forall_mem_cons.mpr ⟨⟨1, by decide, ok_X4_isLoop E⟩, fun _ h => absurd h List.not_mem_nil⟩⟩⟩⟩⟩⟩) (by decide) 163 rfl ?_
  intro a M K wd wa hS
  unfold S_X3_prepare at hS
  split at hS
  ·
    rename_i cut
    refine ⟨Nat.le_of_ble_eq_true rfl, fun pc n L st M1 => match pc, L, st with
      | 20, [.inr (.inr (.inr (768, 3, 0))), .inr (.inl c1), .inr (.inl w1), .inr (.inl k), u5_, u6_, u7_, u8_], [] => (M 776 cut.toNat = 0 ∧ n = 300000000 + (256 - k).toNat ∧ cut = c1 ∧ cut = w1 ∧ 0 ≤ k ∧ k ≤ 256 ∧ M1 769 3 = 1 ∧ vl_V M M1 (M 26 11) ∧ tv_ok M1 ∧ pr_k M M1 ∧ M1 774 = pr_0 k)
      | 67, [.inr (.inr (.inr (768, 3, 0))), .inr (.inl c1), .inr (.inl w1), .inr (.inl row), u5_, u6_, u7_, u8_], [] => (M 776 cut.toNat = 0 ∧ n = ((row + 1) * 2000002).toNat ∧ cut = c1 ∧ cut = w1 ∧ -1 ≤ row ∧ row < M 26 3 ∧ pr_I M M1 cut ∧ prC M1 cut row (M1 774))
      | 122, [.inr (.inr (.inr (768, 3, 0))), .inr (.inl c1), .inr (.inl w1), .inr (.inl row), .inr (.inr (.inr (s4, 4, 0))), .inr (.inl may), .inr (.inl again), .inr (.inl n7)], [] => (M 776 cut.toNat = 0 ∧ n = (row * 2000002 + 1 + (1000000 - n7)).toNat ∧ cut = c1 ∧ cut = w1 ∧ 0 ≤ row ∧ row < M 26 3 ∧ s4 = 26 + 1 + 1 + 3 * row.toNat ∧ 0 ≤ n7 ∧ n7 ≤ 1000000 ∧ may = (if cut = 0 ∧ M1 s4 0 = 119 then 1 else 0) ∧ pr_I M M1 cut ∧ (again = 0 ∧ prC M1 cut (row - 1) (M1 774) ∨ again = 1 ∧ prC M1 cut row (M1 774) ∧ n7 ≤ ((gx_c 33280 (M1 774) : Nat) : Int)))
      | _, _, _ => False, ?_, ?_⟩
    · exact vc_X3_prepare_0 cut M K  hS
    · intro pc n L st M1 hI wd1 wL wst
      (try dsimp only at hI)
      split at hI
      ·
        rename_i c1 w1 k u5_ u6_ u7_ u8_
        exact vc_X3_prepare_20 cut M K  hS n c1 w1 k _ hI
      ·
        rename_i c1 w1 row u5_ u6_ u7_ u8_
        exact vc_X3_prepare_67 cut M K  hS n c1 w1 row _ hI
      ·
        rename_i c1 w1 row s4 may again n7
        exact vc_X3_prepare_122 cut M K  hS n c1 w1 row s4 may again n7 _ hI
      · exact hI.elim
  · exact hS.elim
