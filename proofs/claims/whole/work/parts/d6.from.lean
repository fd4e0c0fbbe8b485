/-! what is told of masks -/
/-- what a mask says: the least check that can go wrong, the end, a throw -/
def fr_v (m q r : Int) : Prop := (q = 1 → r = ab_and (ab_shr m 16) 1) ∧ (q = 2 → r = ab_and (ab_shr m 17) 1) ∧ (q = 0 → (∃ b : Nat, b < 16 ∧ pz_b m b = true ∧ (∀ c, c < b → ¬ pz_b m c = true) ∧ r = (b : Int)) ∨ ((∀ c, c < 16 → ¬ pz_b m c = true) ∧ r = -9))
def fr_P (M M' : ab_M) (md s q r : Int) (W1 W2 : Nat → List Int) : Prop := (¬ ((0 ≤ md ∧ md ≤ 1) ∧ (0 ≤ s ∧ s ≤ 255) ∧ 0 ≤ q ∧ q ≤ 2) → M' = M ∧ r = -1) ∧ ((0 ≤ md ∧ md ≤ 1) ∧ (0 ≤ s ∧ s ≤ 255) ∧ 0 ≤ q ∧ q ≤ 2 → fm_P M M' md W1 W2 ∧ fr_v (M' 826 (256 * md + s).toNat) q r)

def S_X9_isCheck : ab_PT := fun a M K => match a with
  | [.inr (.inr (.inr (797, 9, 0))), .inr (.inl c)] => (pz_PR M ∧ ab_ir c) ∧ (∀ rx : Int, ∀ Mx : ab_M, (pz_rdn M Mx) → (rx = if 0 ≤ c ∧ c < Mx 797 20 then 1 else 0) → K [Xi rx] Mx)
  | _ => False
set_option maxRecDepth 20000 in
theorem vc_X9_isCheck_0 (c : Int) (M : ab_M) (K : List ab_V → ab_M → Prop) (hS : (pz_PR M ∧ ab_ir c) ∧ (∀ rx : Int, ∀ Mx : ab_M, (pz_rdn M Mx) → (rx = if 0 ≤ c ∧ c < Mx 797 20 then 1 else 0) → K [Xi rx] Mx)) : (pz_PR M) ∧ (∀ M1 : ab_M, (pz_rdn M M1) → (ab_ir c ∧ ab_ir (0 : Int) ∧ ab_ir ((M1 797 20) - (1 : Int))) ∧ (∀ r12 : Int, (r12 = if (0 : Int) ≤ c ∧ c ≤ ((M1 797 20) - (1 : Int)) then 1 else 0) → (r12 = 0 ∨ r12 = 1) ∧ K [Xi r12] M1)) := by
  obtain ⟨⟨gP, gc⟩, gK⟩ := hS
  refine And.intro (by
    first
      | exact gP
      | exact ⟨gc, by decide, by omega, by omega⟩
      | exact ⟨gc, ⟨by decide, by decide⟩, by omega, by omega⟩
      | omega) ?_
  intro M1 hM1
  have hri := hM1.2.2.2.2.2.1.2.2.1
  refine And.intro (by
    first
      | exact gP
      | exact ⟨gc, by decide, by omega, by omega⟩
      | exact ⟨gc, ⟨by decide, by decide⟩, by omega, by omega⟩
      | omega) ?_
  intro r12 hr12
  refine And.intro (by
    first
      | exact gP
      | exact ⟨gc, by decide, by omega, by omega⟩
      | exact ⟨gc, ⟨by decide, by decide⟩, by omega, by omega⟩
      | omega) ?_
  refine gK _ _ hM1 ?_
  rw [hr12]
  exact if_cg (by omega)

set_option maxRecDepth 20000 in
set_option maxHeartbeats 1000000 in
theorem ok_X9_isCheck (E : ab_E) : ab_Ok E 8 147 S_X9_isCheck := by
  refine ab_mk rq_X9_isCheck tk_X9_isCheck (rt := 2) (rfl) (cuts := []) (G := [(145, S_X9_in), (170, S_X9_read)]) (List.forall_mem_cons.mpr ⟨⟨1, by decide, ok_X9_in E⟩, List.forall_mem_cons.mpr ⟨⟨7, by decide, ok_X9_read E⟩, fun _ h => absurd h List.not_mem_nil⟩⟩) (by decide) 60 rfl ?_
  intro a M K wd wa hS
  unfold S_X9_isCheck at hS
  split at hS
  ·
    rename_i c
    refine ⟨Nat.le_of_ble_eq_true rfl, fun _ _ _ _ _ => False, ?_, ?_⟩
    · exact vc_X9_isCheck_0 c M K  hS
    · exact fun _ _ _ _ _ h => h.elim
  · exact hS.elim
def S_X9_from : ab_PT := fun a M K => match a with
  | [.inr (.inr (.inr (797, 9, 0))), .inr (.inl md), .inr (.inl s), .inr (.inl q)] => (∃ W1 : Nat → List Int, ∃ W2 : Nat → List Int, ((ab_ir md ∧ ab_ir s ∧ ab_ir q) ∧ (0 ≤ md ∧ md ≤ 1 → fm_A M md W1 W2)) ∧ (∀ rx : Int, ∀ Mx : ab_M, (fr_P M Mx md s q rx W1 W2) → K [Xi rx] Mx))
  | _ => False
set_option maxRecDepth 20000 in
theorem vc_X9_from_0 (md : Int) (s : Int) (q : Int) (M : ab_M) (K : List ab_V → ab_M → Prop) (hS : (∃ W1 : Nat → List Int, ∃ W2 : Nat → List Int, ((ab_ir md ∧ ab_ir s ∧ ab_ir q) ∧ (0 ≤ md ∧ md ≤ 1 → fm_A M md W1 W2)) ∧ (∀ rx : Int, ∀ Mx : ab_M, (fr_P M Mx md s q rx W1 W2) → K [Xi rx] Mx))) : (ab_ir md ∧ ab_ir (0 : Int) ∧ ab_ir (1 : Int)) ∧ (∀ r3 : Int, (r3 = if (0 : Int) ≤ md ∧ md ≤ (1 : Int) then 1 else 0) → (ab_ir r3) ∧ ((r3 = 0 → K [Xi (-1 : Int)] M) ∧ (¬ r3 = 0 → (-32768 ≤ (255 : Int) ∧ (255 : Int) < 32768) ∧ (ab_ir s ∧ ab_ir (0 : Int) ∧ ab_ir (255 : Int)) ∧ (∀ r14 : Int, (r14 = if (0 : Int) ≤ s ∧ s ≤ (255 : Int) then 1 else 0) → (ab_ir r14) ∧ ((r14 = 0 → K [Xi (-1 : Int)] M) ∧ (¬ r14 = 0 → (ab_ir q ∧ ab_ir (0 : Int) ∧ ab_ir (2 : Int)) ∧ (∀ r23 : Int, (r23 = if (0 : Int) ≤ q ∧ q ≤ (2 : Int) then 1 else 0) → (ab_ir r23) ∧ ((¬ r23 = 0 → (∃ W1_33 : Nat → List Int, ∃ W2_33 : Nat → List Int, (fm_A M md W1_33 W2_33) ∧ (∀ M33 : ab_M, (fm_P M M33 md W1_33 W2_33) → (-32768 ≤ (256 : Int) ∧ (256 : Int) < 32768) ∧ (0 ≤ (((256 : Int) * md) + s) ∧ (((256 : Int) * md) + s) < ((512 : Nat) : Int)) ∧ (ab_ir q) ∧ ((q ≤ 0 → (∃ n', ((n' = (16 - (0 : Int)).toNat ∧ 0 ≤ (0 : Int) ∧ (0 : Int) ≤ 16 ∧ md = md ∧ s = s ∧ q = q ∧ ((0 ≤ md ∧ md ≤ 1) ∧ (0 ≤ s ∧ s ≤ 255) ∧ q = 0) ∧ ∃ W1 W2, (∀ rx : Int, ∀ Mx : ab_M, fr_P M Mx md s q rx W1 W2 → K [Xi rx] Mx) ∧ fm_P M M33 md W1 W2 ∧ (M33 826 ((((256 : Int) * md) + s).toNat)) = M33 826 (256 * md + s).toNat ∧ ∀ c : Nat, (c : Int) < (0 : Int) → ¬ pz_b (M33 826 ((((256 : Int) * md) + s).toNat)) c = true)))) ∧ (0 < q → (ab_ir q ∧ ab_ir (1 : Int)) ∧ ((¬ q = (1 : Int) → (-128 ≤ (17 : Int) ∧ (17 : Int) < 128) ∧ K [Xi (ab_and (ab_shr (M33 826 ((((256 : Int) * md) + s).toNat)) (17 : Int)) (1 : Int))] M33) ∧ (q = (1 : Int) → (-128 ≤ (16 : Int) ∧ (16 : Int) < 128) ∧ K [Xi (ab_and (ab_shr (M33 826 ((((256 : Int) * md) + s).toNat)) (16 : Int)) (1 : Int))] M33))))))) ∧ (r23 = 0 → K [Xi (-1 : Int)] M))))))))) := by
  obtain ⟨W1, W2, ⟨⟨gm, gs, gq⟩, gA⟩, gK⟩ := hS
  refine And.intro (by
    first
      | omega
      | exact ⟨by omega, by omega⟩
      | exact ⟨gm, by decide, by decide⟩
      | exact ⟨gs, ⟨by decide, by decide⟩, by decide, by decide⟩
      | exact ⟨gm, ⟨by decide, by decide⟩, by decide, by decide⟩
      | exact ⟨gq, ⟨by decide, by decide⟩, by decide, by decide⟩
      | exact ⟨gq, by decide, by decide⟩
      | exact gq
      | (split <;> exact ⟨by decide, by decide⟩)
      | exact gA (by omega)
      | exact ⟨⟨by omega, by omega⟩, by omega, by omega⟩
      | trivial) ?_
  intro r3 hr3
  refine And.intro (by
    first
      | omega
      | exact ⟨by omega, by omega⟩
      | exact ⟨gm, by decide, by decide⟩
      | exact ⟨gs, ⟨by decide, by decide⟩, by decide, by decide⟩
      | exact ⟨gm, ⟨by decide, by decide⟩, by decide, by decide⟩
      | exact ⟨gq, ⟨by decide, by decide⟩, by decide, by decide⟩
      | exact ⟨gq, by decide, by decide⟩
      | exact gq
      | (split <;> exact ⟨by decide, by decide⟩)
      | exact gA (by omega)
      | exact ⟨⟨by omega, by omega⟩, by omega, by omega⟩
      | trivial) ?_
  refine ⟨?_, ?_⟩
  · intro c6
    rw [hr3] at c6
    rw [ab_bf] at c6
    clear hr3 r3
    exact gK _ _ ⟨fun _ => ⟨rfl, rfl⟩, fun z => by omega⟩
  · intro c6
    rw [hr3] at c6
    rw [ab_bt] at c6
    clear hr3 r3
    refine And.intro (by
      first
        | omega
        | exact ⟨by omega, by omega⟩
        | exact ⟨gm, by decide, by decide⟩
        | exact ⟨gs, ⟨by decide, by decide⟩, by decide, by decide⟩
        | exact ⟨gm, ⟨by decide, by decide⟩, by decide, by decide⟩
        | exact ⟨gq, ⟨by decide, by decide⟩, by decide, by decide⟩
        | exact ⟨gq, by decide, by decide⟩
        | exact gq
        | (split <;> exact ⟨by decide, by decide⟩)
        | exact gA (by omega)
        | exact ⟨⟨by omega, by omega⟩, by omega, by omega⟩
        | trivial) ?_
    refine And.intro (by
      first
        | omega
        | exact ⟨by omega, by omega⟩
        | exact ⟨gm, by decide, by decide⟩
        | exact ⟨gs, ⟨by decide, by decide⟩, by decide, by decide⟩
        | exact ⟨gm, ⟨by decide, by decide⟩, by decide, by decide⟩
        | exact ⟨gq, ⟨by decide, by decide⟩, by decide, by decide⟩
        | exact ⟨gq, by decide, by decide⟩
        | exact gq
        | (split <;> exact ⟨by decide, by decide⟩)
        | exact gA (by omega)
        | exact ⟨⟨by omega, by omega⟩, by omega, by omega⟩
        | trivial) ?_
    intro r14 hr14
    refine And.intro (by
      first
        | omega
        | exact ⟨by omega, by omega⟩
        | exact ⟨gm, by decide, by decide⟩
        | exact ⟨gs, ⟨by decide, by decide⟩, by decide, by decide⟩
        | exact ⟨gm, ⟨by decide, by decide⟩, by decide, by decide⟩
        | exact ⟨gq, ⟨by decide, by decide⟩, by decide, by decide⟩
        | exact ⟨gq, by decide, by decide⟩
        | exact gq
        | (split <;> exact ⟨by decide, by decide⟩)
        | exact gA (by omega)
        | exact ⟨⟨by omega, by omega⟩, by omega, by omega⟩
        | trivial) ?_
    refine ⟨?_, ?_⟩
    · intro c17
      rw [hr14] at c17
      rw [ab_bf] at c17
      clear hr14 r14
      exact gK _ _ ⟨fun _ => ⟨rfl, rfl⟩, fun z => by omega⟩
    · intro c17
      rw [hr14] at c17
      rw [ab_bt] at c17
      clear hr14 r14
      refine And.intro (by
        first
          | omega
          | exact ⟨by omega, by omega⟩
          | exact ⟨gm, by decide, by decide⟩
          | exact ⟨gs, ⟨by decide, by decide⟩, by decide, by decide⟩
          | exact ⟨gm, ⟨by decide, by decide⟩, by decide, by decide⟩
          | exact ⟨gq, ⟨by decide, by decide⟩, by decide, by decide⟩
          | exact ⟨gq, by decide, by decide⟩
          | exact gq
          | (split <;> exact ⟨by decide, by decide⟩)
          | exact gA (by omega)
          | exact ⟨⟨by omega, by omega⟩, by omega, by omega⟩
          | trivial) ?_
      intro r23 hr23
      refine And.intro (by
        first
          | omega
          | exact ⟨by omega, by omega⟩
          | exact ⟨gm, by decide, by decide⟩
          | exact ⟨gs, ⟨by decide, by decide⟩, by decide, by decide⟩
          | exact ⟨gm, ⟨by decide, by decide⟩, by decide, by decide⟩
          | exact ⟨gq, ⟨by decide, by decide⟩, by decide, by decide⟩
          | exact ⟨gq, by decide, by decide⟩
          | exact gq
          | (split <;> exact ⟨by decide, by decide⟩)
          | exact gA (by omega)
          | exact ⟨⟨by omega, by omega⟩, by omega, by omega⟩
          | trivial) ?_
      refine ⟨?_, ?_⟩
      · intro c26
        rw [hr23] at c26
        rw [ab_bt] at c26
        clear hr23 r23
        refine Exists.intro (W1) <| Exists.intro (W2) <| ?_
        refine And.intro (by
          first
            | omega
            | exact ⟨by omega, by omega⟩
            | exact ⟨gm, by decide, by decide⟩
            | exact ⟨gs, ⟨by decide, by decide⟩, by decide, by decide⟩
            | exact ⟨gm, ⟨by decide, by decide⟩, by decide, by decide⟩
            | exact ⟨gq, ⟨by decide, by decide⟩, by decide, by decide⟩
            | exact ⟨gq, by decide, by decide⟩
            | exact gq
            | (split <;> exact ⟨by decide, by decide⟩)
            | exact gA (by omega)
            | exact ⟨⟨by omega, by omega⟩, by omega, by omega⟩
            | trivial) ?_
        intro M33 hM33
        refine And.intro (by
          first
            | omega
            | exact ⟨by omega, by omega⟩
            | exact ⟨gm, by decide, by decide⟩
            | exact ⟨gs, ⟨by decide, by decide⟩, by decide, by decide⟩
            | exact ⟨gm, ⟨by decide, by decide⟩, by decide, by decide⟩
            | exact ⟨gq, ⟨by decide, by decide⟩, by decide, by decide⟩
            | exact ⟨gq, by decide, by decide⟩
            | exact gq
            | (split <;> exact ⟨by decide, by decide⟩)
            | exact gA (by omega)
            | exact ⟨⟨by omega, by omega⟩, by omega, by omega⟩
            | trivial) ?_
        refine And.intro (by
          first
            | omega
            | exact ⟨by omega, by omega⟩
            | exact ⟨gm, by decide, by decide⟩
            | exact ⟨gs, ⟨by decide, by decide⟩, by decide, by decide⟩
            | exact ⟨gm, ⟨by decide, by decide⟩, by decide, by decide⟩
            | exact ⟨gq, ⟨by decide, by decide⟩, by decide, by decide⟩
            | exact ⟨gq, by decide, by decide⟩
            | exact gq
            | (split <;> exact ⟨by decide, by decide⟩)
            | exact gA (by omega)
            | exact ⟨⟨by omega, by omega⟩, by omega, by omega⟩
            | trivial) ?_
        refine And.intro (by
          first
            | omega
            | exact ⟨by omega, by omega⟩
            | exact ⟨gm, by decide, by decide⟩
            | exact ⟨gs, ⟨by decide, by decide⟩, by decide, by decide⟩
            | exact ⟨gm, ⟨by decide, by decide⟩, by decide, by decide⟩
            | exact ⟨gq, ⟨by decide, by decide⟩, by decide, by decide⟩
            | exact ⟨gq, by decide, by decide⟩
            | exact gq
            | (split <;> exact ⟨by decide, by decide⟩)
            | exact gA (by omega)
            | exact ⟨⟨by omega, by omega⟩, by omega, by omega⟩
            | trivial) ?_
        refine ⟨?_, ?_⟩
        · intro c51
          refine ⟨_, rfl, by decide, by decide, rfl, rfl, rfl, ⟨by omega, by omega, by omega⟩, W1, W2, gK, hM33, rfl, fun c hc => by omega⟩
        · intro c51
          refine And.intro (by
            first
              | omega
              | exact ⟨by omega, by omega⟩
              | exact ⟨gm, by decide, by decide⟩
              | exact ⟨gs, ⟨by decide, by decide⟩, by decide, by decide⟩
              | exact ⟨gm, ⟨by decide, by decide⟩, by decide, by decide⟩
              | exact ⟨gq, ⟨by decide, by decide⟩, by decide, by decide⟩
              | exact ⟨gq, by decide, by decide⟩
              | exact gq
              | (split <;> exact ⟨by decide, by decide⟩)
              | exact gA (by omega)
              | exact ⟨⟨by omega, by omega⟩, by omega, by omega⟩
              | trivial) ?_
          refine ⟨?_, ?_⟩
          · intro c58
            refine And.intro (by
              first
                | omega
                | exact ⟨by omega, by omega⟩
                | exact ⟨gm, by decide, by decide⟩
                | exact ⟨gs, ⟨by decide, by decide⟩, by decide, by decide⟩
                | exact ⟨gm, ⟨by decide, by decide⟩, by decide, by decide⟩
                | exact ⟨gq, ⟨by decide, by decide⟩, by decide, by decide⟩
                | exact ⟨gq, by decide, by decide⟩
                | exact gq
                | (split <;> exact ⟨by decide, by decide⟩)
                | exact gA (by omega)
                | exact ⟨⟨by omega, by omega⟩, by omega, by omega⟩
                | trivial) ?_
            refine gK _ _ ⟨fun z => by omega, fun _ => ⟨hM33, fun z => ?_, fun z => ?_, fun z => by omega⟩⟩
            · first
                | rfl
                | omega
            · first
                | rfl
                | omega
          · intro c58
            refine And.intro (by
              first
                | omega
                | exact ⟨by omega, by omega⟩
                | exact ⟨gm, by decide, by decide⟩
                | exact ⟨gs, ⟨by decide, by decide⟩, by decide, by decide⟩
                | exact ⟨gm, ⟨by decide, by decide⟩, by decide, by decide⟩
                | exact ⟨gq, ⟨by decide, by decide⟩, by decide, by decide⟩
                | exact ⟨gq, by decide, by decide⟩
                | exact gq
                | (split <;> exact ⟨by decide, by decide⟩)
                | exact gA (by omega)
                | exact ⟨⟨by omega, by omega⟩, by omega, by omega⟩
                | trivial) ?_
            refine gK _ _ ⟨fun z => by omega, fun _ => ⟨hM33, fun z => ?_, fun z => ?_, fun z => by omega⟩⟩
            · first
                | rfl
                | omega
            · first
                | rfl
                | omega
      · intro c26
        rw [hr23] at c26
        rw [ab_bf] at c26
        clear hr23 r23
        exact gK _ _ ⟨fun _ => ⟨rfl, rfl⟩, fun z => by omega⟩

set_option maxRecDepth 20000 in
theorem vc_X9_from_75 (md : Int) (s : Int) (q : Int) (M : ab_M) (K : List ab_V → ab_M → Prop) (hS : (∃ W1 : Nat → List Int, ∃ W2 : Nat → List Int, ((ab_ir md ∧ ab_ir s ∧ ab_ir q) ∧ (0 ≤ md ∧ md ≤ 1 → fm_A M md W1 W2)) ∧ (∀ rx : Int, ∀ Mx : ab_M, (fr_P M Mx md s q rx W1 W2) → K [Xi rx] Mx))) (n : Nat) (m1 : Int) (s1 : Int) (q1 : Int) (m : Int) (k : Int) (M1 : ab_M) (hI : n = (16 - k).toNat ∧ 0 ≤ k ∧ k ≤ 16 ∧ md = m1 ∧ s = s1 ∧ q = q1 ∧ ((0 ≤ md ∧ md ≤ 1) ∧ (0 ≤ s ∧ s ≤ 255) ∧ q = 0) ∧ ∃ W1 W2, (∀ rx : Int, ∀ Mx : ab_M, fr_P M Mx md s q rx W1 W2 → K [Xi rx] Mx) ∧ fm_P M M1 md W1 W2 ∧ m = M1 826 (256 * md + s).toNat ∧ ∀ c : Nat, (c : Int) < k → ¬ pz_b m c = true) : (-128 ≤ (16 : Int) ∧ (16 : Int) < 128) ∧ (ab_ir k ∧ ab_ir (16 : Int)) ∧ (((16 : Int) ≤ k → (-128 ≤ (-9 : Int) ∧ (-9 : Int) < 128) ∧ K [Xi (-9 : Int)] M1) ∧ (k < (16 : Int) → (True) ∧ (∀ r86 : Int, (r86 = if ab_and (ab_shr m k) 1 = 1 then 1 else 0) → (ab_ir r86) ∧ ((r86 = 0 → (∃ n', n' < n ∧ ((n' = (16 - (k + 1)).toNat ∧ 0 ≤ (k + 1) ∧ (k + 1) ≤ 16 ∧ md = m1 ∧ s = s1 ∧ q = q1 ∧ ((0 ≤ md ∧ md ≤ 1) ∧ (0 ≤ s ∧ s ≤ 255) ∧ q = 0) ∧ ∃ W1 W2, (∀ rx : Int, ∀ Mx : ab_M, fr_P M Mx md s q rx W1 W2 → K [Xi rx] Mx) ∧ fm_P M M1 md W1 W2 ∧ m = M1 826 (256 * md + s).toNat ∧ ∀ c : Nat, (c : Int) < (k + 1) → ¬ pz_b m c = true)))) ∧ (¬ r86 = 0 → K [Xi k] M1))))) := by
  obtain ⟨hn, hk0, hk1, q1', q2', q3', ⟨hmd, hs, hq⟩, W1, W2, gK, hP, hm, hno⟩ := hI
  clear hS
  subst q1'
  subst q2'
  subst q3'
  refine And.intro (by
    first
      | omega
      | exact ⟨by omega, by omega⟩
      | exact ⟨gm, by decide, by decide⟩
      | exact ⟨gs, ⟨by decide, by decide⟩, by decide, by decide⟩
      | exact ⟨gm, ⟨by decide, by decide⟩, by decide, by decide⟩
      | exact ⟨gq, ⟨by decide, by decide⟩, by decide, by decide⟩
      | exact ⟨gq, by decide, by decide⟩
      | exact gq
      | (split <;> exact ⟨by decide, by decide⟩)
      | exact gA (by omega)
      | exact ⟨⟨by omega, by omega⟩, by omega, by omega⟩
      | trivial) ?_
  refine And.intro (by
    first
      | omega
      | exact ⟨by omega, by omega⟩
      | exact ⟨gm, by decide, by decide⟩
      | exact ⟨gs, ⟨by decide, by decide⟩, by decide, by decide⟩
      | exact ⟨gm, ⟨by decide, by decide⟩, by decide, by decide⟩
      | exact ⟨gq, ⟨by decide, by decide⟩, by decide, by decide⟩
      | exact ⟨gq, by decide, by decide⟩
      | exact gq
      | (split <;> exact ⟨by decide, by decide⟩)
      | exact gA (by omega)
      | exact ⟨⟨by omega, by omega⟩, by omega, by omega⟩
      | trivial) ?_
  refine ⟨?_, ?_⟩
  · intro c79
    refine And.intro (by
      first
        | omega
        | exact ⟨by omega, by omega⟩
        | exact ⟨gm, by decide, by decide⟩
        | exact ⟨gs, ⟨by decide, by decide⟩, by decide, by decide⟩
        | exact ⟨gm, ⟨by decide, by decide⟩, by decide, by decide⟩
        | exact ⟨gq, ⟨by decide, by decide⟩, by decide, by decide⟩
        | exact ⟨gq, by decide, by decide⟩
        | exact gq
        | (split <;> exact ⟨by decide, by decide⟩)
        | exact gA (by omega)
        | exact ⟨⟨by omega, by omega⟩, by omega, by omega⟩
        | trivial) ?_
    refine gK _ _ ⟨fun z => absurd ⟨hmd, hs, by omega, by omega⟩ z, fun _ => ⟨hP, fun z => by omega, fun z => by omega, fun _ => Or.inr ⟨fun c hc => ?_, rfl⟩⟩⟩
    rw [← hm]
    exact hno c (by omega)
  · intro c79
    refine And.intro trivial ?_
    intro r86 hr86
    refine And.intro (by
      first
        | omega
        | exact ⟨by omega, by omega⟩
        | exact ⟨gm, by decide, by decide⟩
        | exact ⟨gs, ⟨by decide, by decide⟩, by decide, by decide⟩
        | exact ⟨gm, ⟨by decide, by decide⟩, by decide, by decide⟩
        | exact ⟨gq, ⟨by decide, by decide⟩, by decide, by decide⟩
        | exact ⟨gq, by decide, by decide⟩
        | exact gq
        | (split <;> exact ⟨by decide, by decide⟩)
        | exact gA (by omega)
        | exact ⟨⟨by omega, by omega⟩, by omega, by omega⟩
        | trivial) ?_
    refine ⟨?_, ?_⟩
    · intro c89
      rw [hr86] at c89
      rw [ab_bf] at c89
      clear hr86 r86
      have hb : ¬ pz_b m k.toNat = true := fun z => c89 (by rw [pz_b_has (by omega) (by omega), if_pos z])
      refine ⟨_, ?_, rfl, by omega, by omega, rfl, rfl, rfl, ⟨hmd, hs, hq⟩, W1, W2, gK, hP, hm, fun c hc => ?_⟩
      · omega
      by_cases y : c = k.toNat
      · rw [y]; exact hb
      · exact hno c (by omega)
    · intro c89
      rw [hr86] at c89
      rw [ab_bt] at c89
      clear hr86 r86
      have hb : pz_b m k.toNat = true := Classical.byContradiction fun z => by
        rw [pz_b_has (by omega) (by omega), if_neg z] at c89
        omega
      refine gK _ _ ⟨fun z => absurd ⟨hmd, hs, by omega, by omega⟩ z, fun _ => ⟨hP, fun z => by omega, fun z => by omega, fun _ => Or.inl ⟨k.toNat, by omega, ?_, fun c hc => ?_, by omega⟩⟩⟩
      · rw [← hm]; exact hb
      · rw [← hm]; exact hno c (by omega)

set_option maxRecDepth 20000 in
set_option maxHeartbeats 1000000 in
theorem ok_X9_from (E : ab_E) : ab_Ok E 10 140 S_X9_from := by
  refine ab_mk rq_X9_from tk_X9_from (rt := 1) (rfl) (cuts := [75]) (G := [(137, S_X9_findMasks), (143, S_X9_has), (145, S_X9_in)]) (List.forall_mem_cons.mpr ⟨⟨9, by decide, ok_X9_findMasks E⟩, List.forall_mem_cons.mpr ⟨⟨1, by decide, ok_X9_has E⟩, List.forall_mem_cons.mpr ⟨⟨1, by decide, ok_X9_in E⟩, fun _ h => absurd h List.not_mem_nil⟩⟩⟩) (by decide) 107 rfl ?_
  intro a M K wd wa hS
  unfold S_X9_from at hS
  split at hS
  ·
    rename_i md s q
    refine ⟨Nat.le_of_ble_eq_true rfl, fun pc n L st M1 => match pc, L, st with
      | 75, [.inr (.inr (.inr (797, 9, 0))), .inr (.inl m1), .inr (.inl s1), .inr (.inl q1), .inr (.inl m), .inr (.inl k)], [] => (n = (16 - k).toNat ∧ 0 ≤ k ∧ k ≤ 16 ∧ md = m1 ∧ s = s1 ∧ q = q1 ∧ ((0 ≤ md ∧ md ≤ 1) ∧ (0 ≤ s ∧ s ≤ 255) ∧ q = 0) ∧ ∃ W1 W2, (∀ rx : Int, ∀ Mx : ab_M, fr_P M Mx md s q rx W1 W2 → K [Xi rx] Mx) ∧ fm_P M M1 md W1 W2 ∧ m = M1 826 (256 * md + s).toNat ∧ ∀ c : Nat, (c : Int) < k → ¬ pz_b m c = true)
      | _, _, _ => False, ?_, ?_⟩
    · exact vc_X9_from_0 md s q M K  hS
    · intro pc n L st M1 hI wd1 wL wst
      (try dsimp only at hI)
      split at hI
      ·
        rename_i m1 s1 q1 m k
        exact vc_X9_from_75 md s q M K  hS n m1 s1 q1 m k _ hI
      · exact hI.elim
  · exact hS.elim
