/-! the states in which runs end -/
/-- the k-th of a set, or how many -/
def en_v (f : Nat → Bool) (k r : Int) : Prop := (k = -1 → r = ((gx_m f 256 : Nat) : Int)) ∧ (0 ≤ k → (∃ x : Nat, x < 256 ∧ f x = true ∧ ((gx_m f x : Nat) : Int) = k ∧ r = (x : Int)) ∨ (((gx_m f 256 : Nat) : Int) ≤ k ∧ r = -9))
def en_f (M : ab_M) (q : Int) (x : Nat) : Bool := decide ((if q = 0 then M 829 x else M 830 x) = M 797 44)
def en_A (M : ab_M) (md : Int) (W1 W2 : Nat → List Int) : Prop := pz_PR M ∧ ab_ir (M 797 29) ∧ (∀ N, pz_rdn M N → la_A N md W1 W2) ∧ ∀ M2, la_P M M2 md W1 W2 → cb_K M2 ∧ gt_B M2 ∧ M2 797 44 < 1999999999
def en_P (M M' : ab_M) (md s q k r : Int) (W1 W2 : Nat → List Int) : Prop := (¬ ((0 ≤ md ∧ md ≤ 1) ∧ (0 ≤ s ∧ s ≤ 255) ∧ (0 ≤ q ∧ q ≤ 1) ∧ -1 ≤ k) → M' = M ∧ r = -1) ∧ ((0 ≤ md ∧ md ≤ 1) ∧ (0 ≤ s ∧ s ≤ 255) ∧ (0 ≤ q ∧ q ≤ 1) ∧ -1 ≤ k → ∃ M2, la_P M M2 md W1 W2 ∧ gt_P M2 M' 0 (M2 797 33) s ∧ en_v (en_f M' q) k r)

def S_X9_ends : ab_PT := fun a M K => match a with
  | [.inr (.inr (.inr (797, 9, 0))), .inr (.inl md), .inr (.inl s), .inr (.inl q), .inr (.inl k)] => (∃ W1 : Nat → List Int, ∃ W2 : Nat → List Int, ((ab_ir md ∧ ab_ir s ∧ ab_ir q ∧ ab_ir k) ∧ (0 ≤ md ∧ md ≤ 1 → en_A M md W1 W2)) ∧ (∀ rx : Int, ∀ Mx : ab_M, (en_P M Mx md s q k rx W1 W2) → K [Xi rx] Mx))
  | _ => False
set_option maxRecDepth 20000 in
theorem vc_X9_ends_0 (md : Int) (s : Int) (q : Int) (k : Int) (M : ab_M) (K : List ab_V → ab_M → Prop) (hS : (∃ W1 : Nat → List Int, ∃ W2 : Nat → List Int, ((ab_ir md ∧ ab_ir s ∧ ab_ir q ∧ ab_ir k) ∧ (0 ≤ md ∧ md ≤ 1 → en_A M md W1 W2)) ∧ (∀ rx : Int, ∀ Mx : ab_M, (en_P M Mx md s q k rx W1 W2) → K [Xi rx] Mx))) : (ab_ir md ∧ ab_ir (0 : Int) ∧ ab_ir (1 : Int)) ∧ (∀ r3 : Int, (r3 = if (0 : Int) ≤ md ∧ md ≤ (1 : Int) then 1 else 0) → (ab_ir r3) ∧ ((r3 = 0 → K [Xi (-1 : Int)] M) ∧ (¬ r3 = 0 → (-32768 ≤ (255 : Int) ∧ (255 : Int) < 32768) ∧ (ab_ir s ∧ ab_ir (0 : Int) ∧ ab_ir (255 : Int)) ∧ (∀ r14 : Int, (r14 = if (0 : Int) ≤ s ∧ s ≤ (255 : Int) then 1 else 0) → (ab_ir r14) ∧ ((r14 = 0 → K [Xi (-1 : Int)] M) ∧ (¬ r14 = 0 → (ab_ir q ∧ ab_ir (0 : Int) ∧ ab_ir (1 : Int)) ∧ (∀ r23 : Int, (r23 = if (0 : Int) ≤ q ∧ q ≤ (1 : Int) then 1 else 0) → (ab_ir r23) ∧ ((r23 = 0 → K [Xi (-1 : Int)] M) ∧ (¬ r23 = 0 → (ab_ir k ∧ ab_ir (-1 : Int)) ∧ (((-1 : Int) ≤ k → (∃ W1_39 : Nat → List Int, ∃ W2_39 : Nat → List Int, (pz_PR M ∧ ab_ir md ∧ ab_ir (M 797 29) ∧ ∀ N, pz_rdn M N → la_A N md W1_39 W2_39) ∧ (∀ M39 : ab_M, (la_P M M39 md W1_39 W2_39) → (gt_A M39 (0 : Int) (M39 797 33) s) ∧ (∀ M49 : ab_M, (gt_P M39 M49 (0 : Int) (M39 797 33) s) → (∃ n', ((n' = (256 - (0 : Int)).toNat ∧ 0 ≤ (0 : Int) ∧ (0 : Int) ≤ 256 ∧ md = md ∧ s = s ∧ q = q ∧ k = k ∧ ab_ir k ∧ ((0 ≤ md ∧ md ≤ 1) ∧ (0 ≤ s ∧ s ≤ 255) ∧ (0 ≤ q ∧ q ≤ 1) ∧ -1 ≤ k) ∧ ∃ W1 W2 M2, (∀ rx : Int, ∀ Mx : ab_M, en_P M Mx md s q k rx W1 W2 → K [Xi rx] Mx) ∧ la_P M M2 md W1 W2 ∧ gt_P M2 M49 0 (M2 797 33) s ∧ (0 : Int) = ((gx_m (en_f M49 q) (0 : Int).toNat : Nat) : Int) ∧ (k = -1 ∨ (0 : Int) ≤ k)))))))) ∧ (k < (-1 : Int) → K [Xi (-1 : Int)] M))))))))))) := by
  obtain ⟨W1, W2, ⟨⟨gm, gs, gq, gk⟩, gA⟩, gK⟩ := hS
  refine And.intro (by
    first
      | omega
      | exact ⟨by omega, by omega⟩
      | exact ⟨gm, ⟨by decide, by decide⟩, by decide, by decide⟩
      | exact ⟨gs, ⟨by decide, by decide⟩, by decide, by decide⟩
      | exact ⟨gq, ⟨by decide, by decide⟩, by decide, by decide⟩
      | exact ⟨gk, by decide, by decide⟩
      | exact gq
      | exact gk
      | (split <;> exact ⟨by decide, by decide⟩)
      | (have h := gA (by omega); exact ⟨h.1, gm, h.2.1, h.2.2.1⟩)
      | (have h := (gA (by omega)).2.2.2 _ hM39; have h2 := h.1.1; exact ⟨h.1, ⟨by decide, by omega, by omega⟩, ⟨by omega, by omega⟩, h.2⟩)
      | exact ⟨⟨by omega, by omega⟩, by omega, by omega⟩
      | trivial) ?_
  intro r3 hr3
  refine And.intro (by
    first
      | omega
      | exact ⟨by omega, by omega⟩
      | exact ⟨gm, ⟨by decide, by decide⟩, by decide, by decide⟩
      | exact ⟨gs, ⟨by decide, by decide⟩, by decide, by decide⟩
      | exact ⟨gq, ⟨by decide, by decide⟩, by decide, by decide⟩
      | exact ⟨gk, by decide, by decide⟩
      | exact gq
      | exact gk
      | (split <;> exact ⟨by decide, by decide⟩)
      | (have h := gA (by omega); exact ⟨h.1, gm, h.2.1, h.2.2.1⟩)
      | (have h := (gA (by omega)).2.2.2 _ hM39; have h2 := h.1.1; exact ⟨h.1, ⟨by decide, by omega, by omega⟩, ⟨by omega, by omega⟩, h.2⟩)
      | exact ⟨⟨by omega, by omega⟩, by omega, by omega⟩
      | trivial) ?_
  refine ⟨?_, ?_⟩
  · intro c6
    rw [hr3] at c6
    rw [ab_bf] at c6
    clear hr3 r3
    exact gK _ _ ⟨fun _ => ⟨rfl, rfl⟩, fun z => by omega⟩
  · intro c6
    rw [hr3] at c6
    rw [ab_bt] at c6
    clear hr3 r3
    refine And.intro (by
      first
        | omega
        | exact ⟨by omega, by omega⟩
        | exact ⟨gm, ⟨by decide, by decide⟩, by decide, by decide⟩
        | exact ⟨gs, ⟨by decide, by decide⟩, by decide, by decide⟩
        | exact ⟨gq, ⟨by decide, by decide⟩, by decide, by decide⟩
        | exact ⟨gk, by decide, by decide⟩
        | exact gq
        | exact gk
        | (split <;> exact ⟨by decide, by decide⟩)
        | (have h := gA (by omega); exact ⟨h.1, gm, h.2.1, h.2.2.1⟩)
        | (have h := (gA (by omega)).2.2.2 _ hM39; have h2 := h.1.1; exact ⟨h.1, ⟨by decide, by omega, by omega⟩, ⟨by omega, by omega⟩, h.2⟩)
        | exact ⟨⟨by omega, by omega⟩, by omega, by omega⟩
        | trivial) ?_
    refine And.intro (by
      first
        | omega
        | exact ⟨by omega, by omega⟩
        | exact ⟨gm, ⟨by decide, by decide⟩, by decide, by decide⟩
        | exact ⟨gs, ⟨by decide, by decide⟩, by decide, by decide⟩
        | exact ⟨gq, ⟨by decide, by decide⟩, by decide, by decide⟩
        | exact ⟨gk, by decide, by decide⟩
        | exact gq
        | exact gk
        | (split <;> exact ⟨by decide, by decide⟩)
        | (have h := gA (by omega); exact ⟨h.1, gm, h.2.1, h.2.2.1⟩)
        | (have h := (gA (by omega)).2.2.2 _ hM39; have h2 := h.1.1; exact ⟨h.1, ⟨by decide, by omega, by omega⟩, ⟨by omega, by omega⟩, h.2⟩)
        | exact ⟨⟨by omega, by omega⟩, by omega, by omega⟩
        | trivial) ?_
    intro r14 hr14
    refine And.intro (by
      first
        | omega
        | exact ⟨by omega, by omega⟩
        | exact ⟨gm, ⟨by decide, by decide⟩, by decide, by decide⟩
        | exact ⟨gs, ⟨by decide, by decide⟩, by decide, by decide⟩
        | exact ⟨gq, ⟨by decide, by decide⟩, by decide, by decide⟩
        | exact ⟨gk, by decide, by decide⟩
        | exact gq
        | exact gk
        | (split <;> exact ⟨by decide, by decide⟩)
        | (have h := gA (by omega); exact ⟨h.1, gm, h.2.1, h.2.2.1⟩)
        | (have h := (gA (by omega)).2.2.2 _ hM39; have h2 := h.1.1; exact ⟨h.1, ⟨by decide, by omega, by omega⟩, ⟨by omega, by omega⟩, h.2⟩)
        | exact ⟨⟨by omega, by omega⟩, by omega, by omega⟩
        | trivial) ?_
    refine ⟨?_, ?_⟩
    · intro c17
      rw [hr14] at c17
      rw [ab_bf] at c17
      clear hr14 r14
      exact gK _ _ ⟨fun _ => ⟨rfl, rfl⟩, fun z => by omega⟩
    · intro c17
      rw [hr14] at c17
      rw [ab_bt] at c17
      clear hr14 r14
      refine And.intro (by
        first
          | omega
          | exact ⟨by omega, by omega⟩
          | exact ⟨gm, ⟨by decide, by decide⟩, by decide, by decide⟩
          | exact ⟨gs, ⟨by decide, by decide⟩, by decide, by decide⟩
          | exact ⟨gq, ⟨by decide, by decide⟩, by decide, by decide⟩
          | exact ⟨gk, by decide, by decide⟩
          | exact gq
          | exact gk
          | (split <;> exact ⟨by decide, by decide⟩)
          | (have h := gA (by omega); exact ⟨h.1, gm, h.2.1, h.2.2.1⟩)
          | (have h := (gA (by omega)).2.2.2 _ hM39; have h2 := h.1.1; exact ⟨h.1, ⟨by decide, by omega, by omega⟩, ⟨by omega, by omega⟩, h.2⟩)
          | exact ⟨⟨by omega, by omega⟩, by omega, by omega⟩
          | trivial) ?_
      intro r23 hr23
      refine And.intro (by
        first
          | omega
          | exact ⟨by omega, by omega⟩
          | exact ⟨gm, ⟨by decide, by decide⟩, by decide, by decide⟩
          | exact ⟨gs, ⟨by decide, by decide⟩, by decide, by decide⟩
          | exact ⟨gq, ⟨by decide, by decide⟩, by decide, by decide⟩
          | exact ⟨gk, by decide, by decide⟩
          | exact gq
          | exact gk
          | (split <;> exact ⟨by decide, by decide⟩)
          | (have h := gA (by omega); exact ⟨h.1, gm, h.2.1, h.2.2.1⟩)
          | (have h := (gA (by omega)).2.2.2 _ hM39; have h2 := h.1.1; exact ⟨h.1, ⟨by decide, by omega, by omega⟩, ⟨by omega, by omega⟩, h.2⟩)
          | exact ⟨⟨by omega, by omega⟩, by omega, by omega⟩
          | trivial) ?_
      refine ⟨?_, ?_⟩
      · intro c26
        rw [hr23] at c26
        rw [ab_bf] at c26
        clear hr23 r23
        exact gK _ _ ⟨fun _ => ⟨rfl, rfl⟩, fun z => by omega⟩
      · intro c26
        rw [hr23] at c26
        rw [ab_bt] at c26
        clear hr23 r23
        refine And.intro (by
          first
            | omega
            | exact ⟨by omega, by omega⟩
            | exact ⟨gm, ⟨by decide, by decide⟩, by decide, by decide⟩
            | exact ⟨gs, ⟨by decide, by decide⟩, by decide, by decide⟩
            | exact ⟨gq, ⟨by decide, by decide⟩, by decide, by decide⟩
            | exact ⟨gk, by decide, by decide⟩
            | exact gq
            | exact gk
            | (split <;> exact ⟨by decide, by decide⟩)
            | (have h := gA (by omega); exact ⟨h.1, gm, h.2.1, h.2.2.1⟩)
            | (have h := (gA (by omega)).2.2.2 _ hM39; have h2 := h.1.1; exact ⟨h.1, ⟨by decide, by omega, by omega⟩, ⟨by omega, by omega⟩, h.2⟩)
            | exact ⟨⟨by omega, by omega⟩, by omega, by omega⟩
            | trivial) ?_
        refine ⟨?_, ?_⟩
        · intro c32
          refine Exists.intro (W1) <| Exists.intro (W2) <| ?_
          refine And.intro (by
            first
              | omega
              | exact ⟨by omega, by omega⟩
              | exact ⟨gm, ⟨by decide, by decide⟩, by decide, by decide⟩
              | exact ⟨gs, ⟨by decide, by decide⟩, by decide, by decide⟩
              | exact ⟨gq, ⟨by decide, by decide⟩, by decide, by decide⟩
              | exact ⟨gk, by decide, by decide⟩
              | exact gq
              | exact gk
              | (split <;> exact ⟨by decide, by decide⟩)
              | (have h := gA (by omega); exact ⟨h.1, gm, h.2.1, h.2.2.1⟩)
              | (have h := (gA (by omega)).2.2.2 _ hM39; have h2 := h.1.1; exact ⟨h.1, ⟨by decide, by omega, by omega⟩, ⟨by omega, by omega⟩, h.2⟩)
              | exact ⟨⟨by omega, by omega⟩, by omega, by omega⟩
              | trivial) ?_
          intro M39 hM39
          refine And.intro (by
            first
              | omega
              | exact ⟨by omega, by omega⟩
              | exact ⟨gm, ⟨by decide, by decide⟩, by decide, by decide⟩
              | exact ⟨gs, ⟨by decide, by decide⟩, by decide, by decide⟩
              | exact ⟨gq, ⟨by decide, by decide⟩, by decide, by decide⟩
              | exact ⟨gk, by decide, by decide⟩
              | exact gq
              | exact gk
              | (split <;> exact ⟨by decide, by decide⟩)
              | (have h := gA (by omega); exact ⟨h.1, gm, h.2.1, h.2.2.1⟩)
              | (have h := (gA (by omega)).2.2.2 _ hM39; have h2 := h.1.1; exact ⟨h.1, ⟨by decide, by omega, by omega⟩, ⟨by omega, by omega⟩, h.2⟩)
              | exact ⟨⟨by omega, by omega⟩, by omega, by omega⟩
              | trivial) ?_
          intro M49 hM49
          refine ⟨_, rfl, by decide, by decide, rfl, rfl, rfl, rfl, gk, ⟨⟨by omega, by omega⟩, ⟨by omega, by omega⟩, ⟨by omega, by omega⟩, by omega⟩, W1, W2, M39, gK, hM39, hM49, rfl, by omega⟩
        · intro c32
          exact gK _ _ ⟨fun _ => ⟨rfl, rfl⟩, fun z => by omega⟩

set_option maxRecDepth 20000 in
theorem vc_X9_ends_58 (md : Int) (s : Int) (q : Int) (k : Int) (M : ab_M) (K : List ab_V → ab_M → Prop) (hS : (∃ W1 : Nat → List Int, ∃ W2 : Nat → List Int, ((ab_ir md ∧ ab_ir s ∧ ab_ir q ∧ ab_ir k) ∧ (0 ≤ md ∧ md ≤ 1 → en_A M md W1 W2)) ∧ (∀ rx : Int, ∀ Mx : ab_M, (en_P M Mx md s q k rx W1 W2) → K [Xi rx] Mx))) (n : Nat) (m1 : Int) (s1 : Int) (q1 : Int) (k1 : Int) (cnt : Int) (x : Int) (M1 : ab_M) (hI : n = (256 - x).toNat ∧ 0 ≤ x ∧ x ≤ 256 ∧ md = m1 ∧ s = s1 ∧ q = q1 ∧ k = k1 ∧ ab_ir k ∧ ((0 ≤ md ∧ md ≤ 1) ∧ (0 ≤ s ∧ s ≤ 255) ∧ (0 ≤ q ∧ q ≤ 1) ∧ -1 ≤ k) ∧ ∃ W1 W2 M2, (∀ rx : Int, ∀ Mx : ab_M, en_P M Mx md s q k rx W1 W2 → K [Xi rx] Mx) ∧ la_P M M2 md W1 W2 ∧ gt_P M2 M1 0 (M2 797 33) s ∧ cnt = ((gx_m (en_f M1 q) x.toNat : Nat) : Int) ∧ (k = -1 ∨ cnt ≤ k)) : (-32768 ≤ (256 : Int) ∧ (256 : Int) < 32768) ∧ (ab_ir x ∧ ab_ir (256 : Int)) ∧ (((256 : Int) ≤ x → (ab_ir k1) ∧ ((0 ≤ k1 → (-128 ≤ (-9 : Int) ∧ (-9 : Int) < 128) ∧ K [Xi (-9 : Int)] M1) ∧ (k1 < 0 → K [Xi cnt] M1))) ∧ (x < (256 : Int) → (ab_ir q1) ∧ ((¬ q1 = 0 → (0 ≤ x ∧ x < ((256 : Nat) : Int)) ∧ (ab_ir (M1 830 x.toNat) ∧ ab_ir (M1 797 44)) ∧ ((¬ (M1 830 x.toNat) = (M1 797 44) → (∃ n', n' < n ∧ ((n' = (256 - (x + 1)).toNat ∧ 0 ≤ (x + 1) ∧ (x + 1) ≤ 256 ∧ md = m1 ∧ s = s1 ∧ q = q1 ∧ k = k1 ∧ ab_ir k ∧ ((0 ≤ md ∧ md ≤ 1) ∧ (0 ≤ s ∧ s ≤ 255) ∧ (0 ≤ q ∧ q ≤ 1) ∧ -1 ≤ k) ∧ ∃ W1 W2 M2, (∀ rx : Int, ∀ Mx : ab_M, en_P M Mx md s q k rx W1 W2 → K [Xi rx] Mx) ∧ la_P M M2 md W1 W2 ∧ gt_P M2 M1 0 (M2 797 33) s ∧ cnt = ((gx_m (en_f M1 q) (x + 1).toNat : Nat) : Int) ∧ (k = -1 ∨ cnt ≤ k))))) ∧ ((M1 830 x.toNat) = (M1 797 44) → (ab_ir cnt ∧ ab_ir k1) ∧ ((¬ cnt = k1 → (∃ n', n' < n ∧ ((n' = (256 - (x + 1)).toNat ∧ 0 ≤ (x + 1) ∧ (x + 1) ≤ 256 ∧ md = m1 ∧ s = s1 ∧ q = q1 ∧ k = k1 ∧ ab_ir k ∧ ((0 ≤ md ∧ md ≤ 1) ∧ (0 ≤ s ∧ s ≤ 255) ∧ (0 ≤ q ∧ q ≤ 1) ∧ -1 ≤ k) ∧ ∃ W1 W2 M2, (∀ rx : Int, ∀ Mx : ab_M, en_P M Mx md s q k rx W1 W2 → K [Xi rx] Mx) ∧ la_P M M2 md W1 W2 ∧ gt_P M2 M1 0 (M2 797 33) s ∧ (cnt + 1) = ((gx_m (en_f M1 q) (x + 1).toNat : Nat) : Int) ∧ (k = -1 ∨ (cnt + 1) ≤ k))))) ∧ (cnt = k1 → K [Xi x] M1))))) ∧ (q1 = 0 → (0 ≤ x ∧ x < ((256 : Nat) : Int)) ∧ (ab_ir (M1 829 x.toNat) ∧ ab_ir (M1 797 44)) ∧ ((¬ (M1 829 x.toNat) = (M1 797 44) → (∃ n', n' < n ∧ ((n' = (256 - (x + 1)).toNat ∧ 0 ≤ (x + 1) ∧ (x + 1) ≤ 256 ∧ md = m1 ∧ s = s1 ∧ q = q1 ∧ k = k1 ∧ ab_ir k ∧ ((0 ≤ md ∧ md ≤ 1) ∧ (0 ≤ s ∧ s ≤ 255) ∧ (0 ≤ q ∧ q ≤ 1) ∧ -1 ≤ k) ∧ ∃ W1 W2 M2, (∀ rx : Int, ∀ Mx : ab_M, en_P M Mx md s q k rx W1 W2 → K [Xi rx] Mx) ∧ la_P M M2 md W1 W2 ∧ gt_P M2 M1 0 (M2 797 33) s ∧ cnt = ((gx_m (en_f M1 q) (x + 1).toNat : Nat) : Int) ∧ (k = -1 ∨ cnt ≤ k))))) ∧ ((M1 829 x.toNat) = (M1 797 44) → (ab_ir cnt ∧ ab_ir k1) ∧ ((¬ cnt = k1 → (∃ n', n' < n ∧ ((n' = (256 - (x + 1)).toNat ∧ 0 ≤ (x + 1) ∧ (x + 1) ≤ 256 ∧ md = m1 ∧ s = s1 ∧ q = q1 ∧ k = k1 ∧ ab_ir k ∧ ((0 ≤ md ∧ md ≤ 1) ∧ (0 ≤ s ∧ s ≤ 255) ∧ (0 ≤ q ∧ q ≤ 1) ∧ -1 ≤ k) ∧ ∃ W1 W2 M2, (∀ rx : Int, ∀ Mx : ab_M, en_P M Mx md s q k rx W1 W2 → K [Xi rx] Mx) ∧ la_P M M2 md W1 W2 ∧ gt_P M2 M1 0 (M2 797 33) s ∧ (cnt + 1) = ((gx_m (en_f M1 q) (x + 1).toNat : Nat) : Int) ∧ (k = -1 ∨ (cnt + 1) ≤ k))))) ∧ (cnt = k1 → K [Xi x] M1)))))))) := by
  obtain ⟨hn, hx0, hx1, e1, e2, e3, e4, gk, hin, W1, W2, M2, gK, hla, hgt, hcnt, hck⟩ := hI
  clear hS
  subst e1
  subst e2
  subst e3
  subst e4
  have hbd := gx_m_bd (en_f M1 q) x.toNat
  obtain ⟨⟨hb1, hb2⟩, hb3⟩ := hgt.2.1.2
  have hb4 := hb3 x.toNat
  refine And.intro (by
    first
      | omega
      | exact ⟨by omega, by omega⟩
      | exact ⟨gm, ⟨by decide, by decide⟩, by decide, by decide⟩
      | exact ⟨gs, ⟨by decide, by decide⟩, by decide, by decide⟩
      | exact ⟨gq, ⟨by decide, by decide⟩, by decide, by decide⟩
      | exact ⟨gk, by decide, by decide⟩
      | exact gq
      | exact gk
      | (split <;> exact ⟨by decide, by decide⟩)
      | (have h := gA (by omega); exact ⟨h.1, gm, h.2.1, h.2.2.1⟩)
      | (have h := (gA (by omega)).2.2.2 _ hM39; have h2 := h.1.1; exact ⟨h.1, ⟨by decide, by omega, by omega⟩, ⟨by omega, by omega⟩, h.2⟩)
      | exact ⟨⟨by omega, by omega⟩, by omega, by omega⟩
      | trivial) ?_
  refine And.intro (by
    first
      | omega
      | exact ⟨by omega, by omega⟩
      | exact ⟨gm, ⟨by decide, by decide⟩, by decide, by decide⟩
      | exact ⟨gs, ⟨by decide, by decide⟩, by decide, by decide⟩
      | exact ⟨gq, ⟨by decide, by decide⟩, by decide, by decide⟩
      | exact ⟨gk, by decide, by decide⟩
      | exact gq
      | exact gk
      | (split <;> exact ⟨by decide, by decide⟩)
      | (have h := gA (by omega); exact ⟨h.1, gm, h.2.1, h.2.2.1⟩)
      | (have h := (gA (by omega)).2.2.2 _ hM39; have h2 := h.1.1; exact ⟨h.1, ⟨by decide, by omega, by omega⟩, ⟨by omega, by omega⟩, h.2⟩)
      | exact ⟨⟨by omega, by omega⟩, by omega, by omega⟩
      | trivial) ?_
  refine ⟨?_, ?_⟩
  · intro c63
    refine And.intro (by
      first
        | omega
        | exact ⟨by omega, by omega⟩
        | exact ⟨gm, ⟨by decide, by decide⟩, by decide, by decide⟩
        | exact ⟨gs, ⟨by decide, by decide⟩, by decide, by decide⟩
        | exact ⟨gq, ⟨by decide, by decide⟩, by decide, by decide⟩
        | exact ⟨gk, by decide, by decide⟩
        | exact gq
        | exact gk
        | (split <;> exact ⟨by decide, by decide⟩)
        | (have h := gA (by omega); exact ⟨h.1, gm, h.2.1, h.2.2.1⟩)
        | (have h := (gA (by omega)).2.2.2 _ hM39; have h2 := h.1.1; exact ⟨h.1, ⟨by decide, by omega, by omega⟩, ⟨by omega, by omega⟩, h.2⟩)
        | exact ⟨⟨by omega, by omega⟩, by omega, by omega⟩
        | trivial) ?_
    refine ⟨?_, ?_⟩
    · intro c115
      refine And.intro (by
        first
          | omega
          | exact ⟨by omega, by omega⟩
          | exact ⟨gm, ⟨by decide, by decide⟩, by decide, by decide⟩
          | exact ⟨gs, ⟨by decide, by decide⟩, by decide, by decide⟩
          | exact ⟨gq, ⟨by decide, by decide⟩, by decide, by decide⟩
          | exact ⟨gk, by decide, by decide⟩
          | exact gq
          | exact gk
          | (split <;> exact ⟨by decide, by decide⟩)
          | (have h := gA (by omega); exact ⟨h.1, gm, h.2.1, h.2.2.1⟩)
          | (have h := (gA (by omega)).2.2.2 _ hM39; have h2 := h.1.1; exact ⟨h.1, ⟨by decide, by omega, by omega⟩, ⟨by omega, by omega⟩, h.2⟩)
          | exact ⟨⟨by omega, by omega⟩, by omega, by omega⟩
          | trivial) ?_
      have h256 : x.toNat = 256 := by omega
      rw [h256] at hcnt
      first
        | exact gK _ _ ⟨fun z => absurd hin z, fun _ => ⟨M2, hla, hgt, fun z => hcnt, fun z => by omega⟩⟩
        | exact gK _ _ ⟨fun z => absurd hin z, fun _ => ⟨M2, hla, hgt, fun z => by omega, fun _ => Or.inr ⟨by omega, rfl⟩⟩⟩
    · intro c115
      have h256 : x.toNat = 256 := by omega
      rw [h256] at hcnt
      first
        | exact gK _ _ ⟨fun z => absurd hin z, fun _ => ⟨M2, hla, hgt, fun z => hcnt, fun z => by omega⟩⟩
        | exact gK _ _ ⟨fun z => absurd hin z, fun _ => ⟨M2, hla, hgt, fun z => by omega, fun _ => Or.inr ⟨by omega, rfl⟩⟩⟩
  · intro c63
    refine And.intro (by
      first
        | omega
        | exact ⟨by omega, by omega⟩
        | exact ⟨gm, ⟨by decide, by decide⟩, by decide, by decide⟩
        | exact ⟨gs, ⟨by decide, by decide⟩, by decide, by decide⟩
        | exact ⟨gq, ⟨by decide, by decide⟩, by decide, by decide⟩
        | exact ⟨gk, by decide, by decide⟩
        | exact gq
        | exact gk
        | (split <;> exact ⟨by decide, by decide⟩)
        | (have h := gA (by omega); exact ⟨h.1, gm, h.2.1, h.2.2.1⟩)
        | (have h := (gA (by omega)).2.2.2 _ hM39; have h2 := h.1.1; exact ⟨h.1, ⟨by decide, by omega, by omega⟩, ⟨by omega, by omega⟩, h.2⟩)
        | exact ⟨⟨by omega, by omega⟩, by omega, by omega⟩
        | trivial) ?_
    refine ⟨?_, ?_⟩
    · intro c67
      refine And.intro (by
        first
          | omega
          | exact ⟨by omega, by omega⟩
          | exact ⟨gm, ⟨by decide, by decide⟩, by decide, by decide⟩
          | exact ⟨gs, ⟨by decide, by decide⟩, by decide, by decide⟩
          | exact ⟨gq, ⟨by decide, by decide⟩, by decide, by decide⟩
          | exact ⟨gk, by decide, by decide⟩
          | exact gq
          | exact gk
          | (split <;> exact ⟨by decide, by decide⟩)
          | (have h := gA (by omega); exact ⟨h.1, gm, h.2.1, h.2.2.1⟩)
          | (have h := (gA (by omega)).2.2.2 _ hM39; have h2 := h.1.1; exact ⟨h.1, ⟨by decide, by omega, by omega⟩, ⟨by omega, by omega⟩, h.2⟩)
          | exact ⟨⟨by omega, by omega⟩, by omega, by omega⟩
          | trivial) ?_
      refine And.intro (by
        first
          | omega
          | exact ⟨by omega, by omega⟩
          | exact ⟨gm, ⟨by decide, by decide⟩, by decide, by decide⟩
          | exact ⟨gs, ⟨by decide, by decide⟩, by decide, by decide⟩
          | exact ⟨gq, ⟨by decide, by decide⟩, by decide, by decide⟩
          | exact ⟨gk, by decide, by decide⟩
          | exact gq
          | exact gk
          | (split <;> exact ⟨by decide, by decide⟩)
          | (have h := gA (by omega); exact ⟨h.1, gm, h.2.1, h.2.2.1⟩)
          | (have h := (gA (by omega)).2.2.2 _ hM39; have h2 := h.1.1; exact ⟨h.1, ⟨by decide, by omega, by omega⟩, ⟨by omega, by omega⟩, h.2⟩)
          | exact ⟨⟨by omega, by omega⟩, by omega, by omega⟩
          | trivial) ?_
      refine ⟨?_, ?_⟩
      · intro c91
        have hk1' : (x + 1).toNat = x.toNat + 1 := by omega
        have hcn : gx_m (en_f M1 q) (x.toNat + 1) = gx_m (en_f M1 q) x.toNat + (if en_f M1 q x.toNat = true then 1 else 0) := rfl
        have hf : ¬ en_f M1 q x.toNat = true := fun z => by
          have z := of_decide_eq_true z
          rw [if_neg (by assumption)] at z
          contradiction
        rw [if_neg hf] at hcn
        refine ⟨_, ?_, rfl, by omega, by omega, rfl, rfl, rfl, rfl, gk, hin, W1, W2, M2, gK, hla, hgt, ?_, by omega⟩
        · omega
        · rw [hk1', hcn]; omega
      · intro c91
        refine And.intro (by
          first
            | omega
            | exact ⟨by omega, by omega⟩
            | exact ⟨gm, ⟨by decide, by decide⟩, by decide, by decide⟩
            | exact ⟨gs, ⟨by decide, by decide⟩, by decide, by decide⟩
            | exact ⟨gq, ⟨by decide, by decide⟩, by decide, by decide⟩
            | exact ⟨gk, by decide, by decide⟩
            | exact gq
            | exact gk
            | (split <;> exact ⟨by decide, by decide⟩)
            | (have h := gA (by omega); exact ⟨h.1, gm, h.2.1, h.2.2.1⟩)
            | (have h := (gA (by omega)).2.2.2 _ hM39; have h2 := h.1.1; exact ⟨h.1, ⟨by decide, by omega, by omega⟩, ⟨by omega, by omega⟩, h.2⟩)
            | exact ⟨⟨by omega, by omega⟩, by omega, by omega⟩
            | trivial) ?_
        refine ⟨?_, ?_⟩
        · intro c98
          have hk1' : (x + 1).toNat = x.toNat + 1 := by omega
          have hcn : gx_m (en_f M1 q) (x.toNat + 1) = gx_m (en_f M1 q) x.toNat + (if en_f M1 q x.toNat = true then 1 else 0) := rfl
          have hf :  en_f M1 q x.toNat = true := decide_eq_true (by rw [if_neg (by assumption)]; assumption)
          rw [if_pos hf] at hcn
          refine ⟨_, ?_, rfl, by omega, by omega, rfl, rfl, rfl, rfl, gk, hin, W1, W2, M2, gK, hla, hgt, ?_, by omega⟩
          · omega
          · rw [hk1', hcn]; omega
        · intro c98
          have hf : en_f M1 q x.toNat = true := decide_eq_true (by rw [if_neg (by assumption)]; assumption)
          exact gK _ _ ⟨fun z => absurd hin z, fun _ => ⟨M2, hla, hgt, fun z => by omega, fun _ => Or.inl ⟨x.toNat, by omega, hf, by omega, by omega⟩⟩⟩
    · intro c67
      refine And.intro (by
        first
          | omega
          | exact ⟨by omega, by omega⟩
          | exact ⟨gm, ⟨by decide, by decide⟩, by decide, by decide⟩
          | exact ⟨gs, ⟨by decide, by decide⟩, by decide, by decide⟩
          | exact ⟨gq, ⟨by decide, by decide⟩, by decide, by decide⟩
          | exact ⟨gk, by decide, by decide⟩
          | exact gq
          | exact gk
          | (split <;> exact ⟨by decide, by decide⟩)
          | (have h := gA (by omega); exact ⟨h.1, gm, h.2.1, h.2.2.1⟩)
          | (have h := (gA (by omega)).2.2.2 _ hM39; have h2 := h.1.1; exact ⟨h.1, ⟨by decide, by omega, by omega⟩, ⟨by omega, by omega⟩, h.2⟩)
          | exact ⟨⟨by omega, by omega⟩, by omega, by omega⟩
          | trivial) ?_
      refine And.intro (by
        first
          | omega
          | exact ⟨by omega, by omega⟩
          | exact ⟨gm, ⟨by decide, by decide⟩, by decide, by decide⟩
          | exact ⟨gs, ⟨by decide, by decide⟩, by decide, by decide⟩
          | exact ⟨gq, ⟨by decide, by decide⟩, by decide, by decide⟩
          | exact ⟨gk, by decide, by decide⟩
          | exact gq
          | exact gk
          | (split <;> exact ⟨by decide, by decide⟩)
          | (have h := gA (by omega); exact ⟨h.1, gm, h.2.1, h.2.2.1⟩)
          | (have h := (gA (by omega)).2.2.2 _ hM39; have h2 := h.1.1; exact ⟨h.1, ⟨by decide, by omega, by omega⟩, ⟨by omega, by omega⟩, h.2⟩)
          | exact ⟨⟨by omega, by omega⟩, by omega, by omega⟩
          | trivial) ?_
      refine ⟨?_, ?_⟩
      · intro c91
        have hk1' : (x + 1).toNat = x.toNat + 1 := by omega
        have hcn : gx_m (en_f M1 q) (x.toNat + 1) = gx_m (en_f M1 q) x.toNat + (if en_f M1 q x.toNat = true then 1 else 0) := rfl
        have hf : ¬ en_f M1 q x.toNat = true := fun z => by
          have z := of_decide_eq_true z
          rw [if_pos (by assumption)] at z
          contradiction
        rw [if_neg hf] at hcn
        refine ⟨_, ?_, rfl, by omega, by omega, rfl, rfl, rfl, rfl, gk, hin, W1, W2, M2, gK, hla, hgt, ?_, by omega⟩
        · omega
        · rw [hk1', hcn]; omega
      · intro c91
        refine And.intro (by
          first
            | omega
            | exact ⟨by omega, by omega⟩
            | exact ⟨gm, ⟨by decide, by decide⟩, by decide, by decide⟩
            | exact ⟨gs, ⟨by decide, by decide⟩, by decide, by decide⟩
            | exact ⟨gq, ⟨by decide, by decide⟩, by decide, by decide⟩
            | exact ⟨gk, by decide, by decide⟩
            | exact gq
            | exact gk
            | (split <;> exact ⟨by decide, by decide⟩)
            | (have h := gA (by omega); exact ⟨h.1, gm, h.2.1, h.2.2.1⟩)
            | (have h := (gA (by omega)).2.2.2 _ hM39; have h2 := h.1.1; exact ⟨h.1, ⟨by decide, by omega, by omega⟩, ⟨by omega, by omega⟩, h.2⟩)
            | exact ⟨⟨by omega, by omega⟩, by omega, by omega⟩
            | trivial) ?_
        refine ⟨?_, ?_⟩
        · intro c98
          have hk1' : (x + 1).toNat = x.toNat + 1 := by omega
          have hcn : gx_m (en_f M1 q) (x.toNat + 1) = gx_m (en_f M1 q) x.toNat + (if en_f M1 q x.toNat = true then 1 else 0) := rfl
          have hf :  en_f M1 q x.toNat = true := decide_eq_true (by rw [if_pos (by assumption)]; assumption)
          rw [if_pos hf] at hcn
          refine ⟨_, ?_, rfl, by omega, by omega, rfl, rfl, rfl, rfl, gk, hin, W1, W2, M2, gK, hla, hgt, ?_, by omega⟩
          · omega
          · rw [hk1', hcn]; omega
        · intro c98
          have hf : en_f M1 q x.toNat = true := decide_eq_true (by rw [if_pos (by assumption)]; assumption)
          exact gK _ _ ⟨fun z => absurd hin z, fun _ => ⟨M2, hla, hgt, fun z => by omega, fun _ => Or.inl ⟨x.toNat, by omega, hf, by omega, by omega⟩⟩⟩

set_option maxRecDepth 20000 in
set_option maxHeartbeats 1000000 in
theorem ok_X9_ends (E : ab_E) : ab_Ok E 9 135 S_X9_ends := by
  refine ab_mk rq_X9_ends tk_X9_ends (rt := 1) (rfl) (cuts := [58]) (G := [(142, S_X9_goThrough), (145, S_X9_in), (157, S_X9_lay)]) (List.forall_mem_cons.mpr ⟨⟨4, by decide, ok_X9_goThrough E⟩, List.forall_mem_cons.mpr ⟨⟨1, by decide, ok_X9_in E⟩, List.forall_mem_cons.mpr ⟨⟨8, by decide, ok_X9_lay E⟩, fun _ h => absurd h List.not_mem_nil⟩⟩⟩) (by decide) 114 rfl ?_
  intro a M K wd wa hS
  unfold S_X9_ends at hS
  split at hS
  ·
    rename_i md s q k
    refine ⟨Nat.le_of_ble_eq_true rfl, fun pc n L st M1 => match pc, L, st with
      | 58, [.inr (.inr (.inr (797, 9, 0))), .inr (.inl m1), .inr (.inl s1), .inr (.inl q1), .inr (.inl k1), .inr (.inl cnt), .inr (.inl x)], [] => (n = (256 - x).toNat ∧ 0 ≤ x ∧ x ≤ 256 ∧ md = m1 ∧ s = s1 ∧ q = q1 ∧ k = k1 ∧ ab_ir k ∧ ((0 ≤ md ∧ md ≤ 1) ∧ (0 ≤ s ∧ s ≤ 255) ∧ (0 ≤ q ∧ q ≤ 1) ∧ -1 ≤ k) ∧ ∃ W1 W2 M2, (∀ rx : Int, ∀ Mx : ab_M, en_P M Mx md s q k rx W1 W2 → K [Xi rx] Mx) ∧ la_P M M2 md W1 W2 ∧ gt_P M2 M1 0 (M2 797 33) s ∧ cnt = ((gx_m (en_f M1 q) x.toNat : Nat) : Int) ∧ (k = -1 ∨ cnt ≤ k))
      | _, _, _ => False, ?_, ?_⟩
    · exact vc_X9_ends_0 md s q k M K  hS
    · intro pc n L st M1 hI wd1 wL wst
      (try dsimp only at hI)
      split at hI
      ·
        rename_i m1 s1 q1 k1 cnt x
        exact vc_X9_ends_58 md s q k M K  hS n m1 s1 q1 k1 cnt x _ hI
      · exact hI.elim
  · exact hS.elim
