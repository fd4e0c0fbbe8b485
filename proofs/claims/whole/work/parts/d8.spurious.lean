/-! failures of cut runs alone -/
/-- failures that only the cut runs have -/
def sp_f (M : ab_M) (c : Int) (x : Nat) : Bool := pz_b (M 826 (256 + x)) c.toNat && !pz_b (M 826 x) c.toNat
def sp_P (M M' : ab_M) (c r : Int) (W1 W2 : Nat → List Int) : Prop := ∃ N, pz_rdn M N ∧ (¬ (0 ≤ c ∧ c < N 797 20) → M' = N ∧ r = -1) ∧ (0 ≤ c ∧ c < N 797 20 → ∃ M1, fm_P M M1 0 W1 W2 ∧ fm_P M1 M' 1 W1 W2 ∧ r = ((gx_m (sp_f M' c) 256 : Nat) : Int))

def S_X9_spurious : ab_PT := fun a M K => match a with
  | [.inr (.inr (.inr (797, 9, 0))), .inr (.inl c)] => (∃ W1 : Nat → List Int, ∃ W2 : Nat → List Int, (ab_ir c ∧ fm_A M 0 W1 W2 ∧ ∀ M1, fm_P M M1 0 W1 W2 → fm_A M1 1 W1 W2) ∧ (∀ rx : Int, ∀ Mx : ab_M, (sp_P M Mx c rx W1 W2) → K [Xi rx] Mx))
  | _ => False
set_option maxRecDepth 20000 in
theorem vc_X9_spurious_0 (c : Int) (M : ab_M) (K : List ab_V → ab_M → Prop) (hS : (∃ W1 : Nat → List Int, ∃ W2 : Nat → List Int, (ab_ir c ∧ fm_A M 0 W1 W2 ∧ ∀ M1, fm_P M M1 0 W1 W2 → fm_A M1 1 W1 W2) ∧ (∀ rx : Int, ∀ Mx : ab_M, (sp_P M Mx c rx W1 W2) → K [Xi rx] Mx))) : (pz_PR M ∧ ab_ir c) ∧ (∀ r2 : Int, ∀ M2 : ab_M, (pz_rdn M M2) → (r2 = if 0 ≤ c ∧ c < M2 797 20 then 1 else 0) → (ab_ir r2) ∧ ((¬ r2 = 0 → (∃ W1_12 : Nat → List Int, ∃ W2_12 : Nat → List Int, (fm_A M2 (0 : Int) W1_12 W2_12) ∧ (∀ M12 : ab_M, (fm_P M2 M12 (0 : Int) W1_12 W2_12) → (∃ W1_17 : Nat → List Int, ∃ W2_17 : Nat → List Int, (fm_A M12 (1 : Int) W1_17 W2_17) ∧ (∀ M17 : ab_M, (fm_P M12 M17 (1 : Int) W1_17 W2_17) → (∃ n', ((n' = (256 - (0 : Int)).toNat ∧ 0 ≤ (0 : Int) ∧ (0 : Int) ≤ 256 ∧ c = c ∧ (0 ≤ c ∧ c < 16) ∧ ∃ W1 W2 N M2, (∀ rx : Int, ∀ Mx : ab_M, sp_P M Mx c rx W1 W2 → K [Xi rx] Mx) ∧ pz_rdn M N ∧ c < N 797 20 ∧ fm_P M M2 0 W1 W2 ∧ fm_P M2 M17 1 W1 W2 ∧ (0 : Int) = ((gx_m (sp_f M17 c) (0 : Int).toNat : Nat) : Int))))))))) ∧ (r2 = 0 → K [Xi (-1 : Int)] M2))) := by
  obtain ⟨W1, W2, ⟨gc, gA, gB⟩, gK⟩ := hS
  refine And.intro (by
    first
      | omega
      | exact ⟨by omega, by omega⟩
      | exact ⟨gA.2.1, gc⟩
      | (split <;> exact ⟨by decide, by decide⟩)
      | exact gA.rd hM2
      | exact gB _ (fm_P.rd hM2 hM12)
      | exact ⟨⟨by omega, by omega⟩, by omega, by omega⟩
      | trivial) ?_
  intro r2 M2 hM2 hr2
  have hri := hM2.2.2.2.2.2.1.2.2.1
  refine And.intro (by
    first
      | omega
      | exact ⟨by omega, by omega⟩
      | exact ⟨gA.2.1, gc⟩
      | (split <;> exact ⟨by decide, by decide⟩)
      | exact gA.rd hM2
      | exact gB _ (fm_P.rd hM2 hM12)
      | exact ⟨⟨by omega, by omega⟩, by omega, by omega⟩
      | trivial) ?_
  refine ⟨?_, ?_⟩
  · intro c5
    rw [hr2] at c5
    rw [ab_bt] at c5
    clear hr2 r2
    refine Exists.intro (W1) <| Exists.intro (W2) <| ?_
    refine And.intro (by
      first
        | omega
        | exact ⟨by omega, by omega⟩
        | exact ⟨gA.2.1, gc⟩
        | (split <;> exact ⟨by decide, by decide⟩)
        | exact gA.rd hM2
        | exact gB _ (fm_P.rd hM2 hM12)
        | exact ⟨⟨by omega, by omega⟩, by omega, by omega⟩
        | trivial) ?_
    intro M12 hM12
    refine Exists.intro (W1) <| Exists.intro (W2) <| ?_
    refine And.intro (by
      first
        | omega
        | exact ⟨by omega, by omega⟩
        | exact ⟨gA.2.1, gc⟩
        | (split <;> exact ⟨by decide, by decide⟩)
        | exact gA.rd hM2
        | exact gB _ (fm_P.rd hM2 hM12)
        | exact ⟨⟨by omega, by omega⟩, by omega, by omega⟩
        | trivial) ?_
    intro M17 hM17
    have hc20 : 0 ≤ c ∧ c < M2 797 20 := by assumption
    refine ⟨_, rfl, by decide, by decide, rfl, ⟨by omega, by omega⟩, W1, W2, M2, M12, gK, hM2, hc20.2, fm_P.rd hM2 hM12, hM17, rfl⟩
  · intro c5
    rw [hr2] at c5
    rw [ab_bf] at c5
    clear hr2 r2
    exact gK _ _ ⟨M2, hM2, fun _ => ⟨rfl, rfl⟩, fun z => by omega⟩

set_option maxRecDepth 20000 in
theorem vc_X9_spurious_24 (c : Int) (M : ab_M) (K : List ab_V → ab_M → Prop) (hS : (∃ W1 : Nat → List Int, ∃ W2 : Nat → List Int, (ab_ir c ∧ fm_A M 0 W1 W2 ∧ ∀ M1, fm_P M M1 0 W1 W2 → fm_A M1 1 W1 W2) ∧ (∀ rx : Int, ∀ Mx : ab_M, (sp_P M Mx c rx W1 W2) → K [Xi rx] Mx))) (n : Nat) (c1 : Int) (cnt : Int) (k : Int) (M1 : ab_M) (hI : n = (256 - k).toNat ∧ 0 ≤ k ∧ k ≤ 256 ∧ c = c1 ∧ (0 ≤ c ∧ c < 16) ∧ ∃ W1 W2 N M2, (∀ rx : Int, ∀ Mx : ab_M, sp_P M Mx c rx W1 W2 → K [Xi rx] Mx) ∧ pz_rdn M N ∧ c < N 797 20 ∧ fm_P M M2 0 W1 W2 ∧ fm_P M2 M1 1 W1 W2 ∧ cnt = ((gx_m (sp_f M1 c) k.toNat : Nat) : Int)) : (-32768 ≤ (256 : Int) ∧ (256 : Int) < 32768) ∧ (ab_ir k ∧ ab_ir (256 : Int)) ∧ (((256 : Int) ≤ k → K [Xi cnt] M1) ∧ (k < (256 : Int) → (-32768 ≤ (256 : Int) ∧ (256 : Int) < 32768) ∧ (0 ≤ ((256 : Int) + k) ∧ ((256 : Int) + k) < ((512 : Nat) : Int)) ∧ (True) ∧ (∀ r43 : Int, (r43 = if ab_and (ab_shr (M1 826 (((256 : Int) + k).toNat)) c1) 1 = 1 then 1 else 0) → (ab_ir r43) ∧ ((r43 = 0 → (∃ n', n' < n ∧ ((n' = (256 - (k + 1)).toNat ∧ 0 ≤ (k + 1) ∧ (k + 1) ≤ 256 ∧ c = c1 ∧ (0 ≤ c ∧ c < 16) ∧ ∃ W1 W2 N M2, (∀ rx : Int, ∀ Mx : ab_M, sp_P M Mx c rx W1 W2 → K [Xi rx] Mx) ∧ pz_rdn M N ∧ c < N 797 20 ∧ fm_P M M2 0 W1 W2 ∧ fm_P M2 M1 1 W1 W2 ∧ (cnt + (0 : Int)) = ((gx_m (sp_f M1 c) (k + 1).toNat : Nat) : Int))))) ∧ (¬ r43 = 0 → (0 ≤ k ∧ k < ((512 : Nat) : Int)) ∧ (True) ∧ (∀ r56 : Int, (r56 = if ab_and (ab_shr (M1 826 k.toNat) c1) 1 = 1 then 1 else 0) → (ab_ir r56) ∧ ((¬ r56 = 0 → (∃ n', n' < n ∧ ((n' = (256 - (k + 1)).toNat ∧ 0 ≤ (k + 1) ∧ (k + 1) ≤ 256 ∧ c = c1 ∧ (0 ≤ c ∧ c < 16) ∧ ∃ W1 W2 N M2, (∀ rx : Int, ∀ Mx : ab_M, sp_P M Mx c rx W1 W2 → K [Xi rx] Mx) ∧ pz_rdn M N ∧ c < N 797 20 ∧ fm_P M M2 0 W1 W2 ∧ fm_P M2 M1 1 W1 W2 ∧ (cnt + (0 : Int)) = ((gx_m (sp_f M1 c) (k + 1).toNat : Nat) : Int))))) ∧ (r56 = 0 → (∃ n', n' < n ∧ ((n' = (256 - (k + 1)).toNat ∧ 0 ≤ (k + 1) ∧ (k + 1) ≤ 256 ∧ c = c1 ∧ (0 ≤ c ∧ c < 16) ∧ ∃ W1 W2 N M2, (∀ rx : Int, ∀ Mx : ab_M, sp_P M Mx c rx W1 W2 → K [Xi rx] Mx) ∧ pz_rdn M N ∧ c < N 797 20 ∧ fm_P M M2 0 W1 W2 ∧ fm_P M2 M1 1 W1 W2 ∧ (cnt + (1 : Int)) = ((gx_m (sp_f M1 c) (k + 1).toNat : Nat) : Int)))))))))))) := by
  obtain ⟨hn, hk0, hk1, q1', hc, W1, W2, N, M2, gK, hr, hc20, hP1, hP2, hcnt⟩ := hI
  clear hS
  subst q1'
  have hix : (256 + k).toNat = 256 + k.toNat := by omega
  have hbd := gx_m_bd (sp_f M1 c) k.toNat
  refine And.intro (by
    first
      | omega
      | exact ⟨by omega, by omega⟩
      | exact ⟨gA.2.1, gc⟩
      | (split <;> exact ⟨by decide, by decide⟩)
      | exact gA.rd hM2
      | exact gB _ (fm_P.rd hM2 hM12)
      | exact ⟨⟨by omega, by omega⟩, by omega, by omega⟩
      | trivial) ?_
  refine And.intro (by
    first
      | omega
      | exact ⟨by omega, by omega⟩
      | exact ⟨gA.2.1, gc⟩
      | (split <;> exact ⟨by decide, by decide⟩)
      | exact gA.rd hM2
      | exact gB _ (fm_P.rd hM2 hM12)
      | exact ⟨⟨by omega, by omega⟩, by omega, by omega⟩
      | trivial) ?_
  refine ⟨?_, ?_⟩
  · intro c28
    rw [show k.toNat = 256 by omega] at hcnt
    exact gK _ _ ⟨N, hr, fun z => absurd ⟨hc.1, hc20⟩ z, fun _ => ⟨M2, hP1, hP2, hcnt⟩⟩
  · intro c28
    refine And.intro (by
      first
        | omega
        | exact ⟨by omega, by omega⟩
        | exact ⟨gA.2.1, gc⟩
        | (split <;> exact ⟨by decide, by decide⟩)
        | exact gA.rd hM2
        | exact gB _ (fm_P.rd hM2 hM12)
        | exact ⟨⟨by omega, by omega⟩, by omega, by omega⟩
        | trivial) ?_
    refine And.intro (by
      first
        | omega
        | exact ⟨by omega, by omega⟩
        | exact ⟨gA.2.1, gc⟩
        | (split <;> exact ⟨by decide, by decide⟩)
        | exact gA.rd hM2
        | exact gB _ (fm_P.rd hM2 hM12)
        | exact ⟨⟨by omega, by omega⟩, by omega, by omega⟩
        | trivial) ?_
    refine And.intro trivial ?_
    intro r43 hr43
    refine And.intro (by
      first
        | omega
        | exact ⟨by omega, by omega⟩
        | exact ⟨gA.2.1, gc⟩
        | (split <;> exact ⟨by decide, by decide⟩)
        | exact gA.rd hM2
        | exact gB _ (fm_P.rd hM2 hM12)
        | exact ⟨⟨by omega, by omega⟩, by omega, by omega⟩
        | trivial) ?_
    refine ⟨?_, ?_⟩
    · intro c46
      rw [hr43] at c46
      rw [ab_bf] at c46
      clear hr43 r43
      have hk1' : (k + 1).toNat = k.toNat + 1 := by omega
      have hcn : gx_m (sp_f M1 c) (k.toNat + 1) = gx_m (sp_f M1 c) k.toNat + (if sp_f M1 c k.toNat = true then 1 else 0) := rfl
      have h43 : ∀ m : Int, (ab_and (ab_shr m c) 1 = 1) ↔ pz_b m c.toNat = true := fun m => by
        rw [pz_b_has (by omega) (by omega)]
        constructor
        · intro z; exact Classical.byContradiction fun y => by rw [if_neg y] at z; omega
        · intro z; exact if_pos z
      rw [h43, hix] at c46
      rw [if_neg (show ¬ sp_f M1 c k.toNat = true from fun z => c46 ((Bool.and_eq_true_iff.1 z).1))] at hcn
      refine ⟨_, ?_, rfl, by omega, by omega, rfl, hc, W1, W2, N, M2, gK, hr, hc20, hP1, hP2, ?_⟩
      · omega
      rw [hk1', hcn]
      omega
    · intro c46
      rw [hr43] at c46
      rw [ab_bt] at c46
      clear hr43 r43
      refine And.intro (by
        first
          | omega
          | exact ⟨by omega, by omega⟩
          | exact ⟨gA.2.1, gc⟩
          | (split <;> exact ⟨by decide, by decide⟩)
          | exact gA.rd hM2
          | exact gB _ (fm_P.rd hM2 hM12)
          | exact ⟨⟨by omega, by omega⟩, by omega, by omega⟩
          | trivial) ?_
      refine And.intro trivial ?_
      intro r56 hr56
      refine And.intro (by
        first
          | omega
          | exact ⟨by omega, by omega⟩
          | exact ⟨gA.2.1, gc⟩
          | (split <;> exact ⟨by decide, by decide⟩)
          | exact gA.rd hM2
          | exact gB _ (fm_P.rd hM2 hM12)
          | exact ⟨⟨by omega, by omega⟩, by omega, by omega⟩
          | trivial) ?_
      refine ⟨?_, ?_⟩
      · intro c59
        rw [hr56] at c59
        rw [ab_bt] at c59
        clear hr56 r56
        have hk1' : (k + 1).toNat = k.toNat + 1 := by omega
        have hcn : gx_m (sp_f M1 c) (k.toNat + 1) = gx_m (sp_f M1 c) k.toNat + (if sp_f M1 c k.toNat = true then 1 else 0) := rfl
        have h43 : ∀ m : Int, (ab_and (ab_shr m c) 1 = 1) ↔ pz_b m c.toNat = true := fun m => by
          rw [pz_b_has (by omega) (by omega)]
          constructor
          · intro z; exact Classical.byContradiction fun y => by rw [if_neg y] at z; omega
          · intro z; exact if_pos z
        rw [h43] at c59
        rw [if_neg (show ¬ sp_f M1 c k.toNat = true from fun z => by have := (Bool.and_eq_true_iff.1 z).2; rw [c59] at this; cases this)] at hcn
        refine ⟨_, ?_, rfl, by omega, by omega, rfl, hc, W1, W2, N, M2, gK, hr, hc20, hP1, hP2, ?_⟩
        · omega
        rw [hk1', hcn]
        omega
      · intro c59
        rw [hr56] at c59
        rw [ab_bf] at c59
        clear hr56 r56
        have hk1' : (k + 1).toNat = k.toNat + 1 := by omega
        have hcn : gx_m (sp_f M1 c) (k.toNat + 1) = gx_m (sp_f M1 c) k.toNat + (if sp_f M1 c k.toNat = true then 1 else 0) := rfl
        have h43 : ∀ m : Int, (ab_and (ab_shr m c) 1 = 1) ↔ pz_b m c.toNat = true := fun m => by
          rw [pz_b_has (by omega) (by omega)]
          constructor
          · intro z; exact Classical.byContradiction fun y => by rw [if_neg y] at z; omega
          · intro z; exact if_pos z
        rw [h43, hix] at c46
        rw [h43] at c59
        rw [if_pos (show sp_f M1 c k.toNat = true from Bool.and_eq_true_iff.2 ⟨c46, by rw [Bool.not_eq_true'] ; exact Bool.eq_false_iff.2 c59⟩)] at hcn
        refine ⟨_, ?_, rfl, by omega, by omega, rfl, hc, W1, W2, N, M2, gK, hr, hc20, hP1, hP2, ?_⟩
        · omega
        rw [hk1', hcn]
        omega

set_option maxRecDepth 20000 in
set_option maxHeartbeats 1000000 in
theorem ok_X9_spurious (E : ab_E) : ab_Ok E 10 181 S_X9_spurious := by
  refine ab_mk rq_X9_spurious tk_X9_spurious (rt := 1) (rfl) (cuts := [24]) (G := [(137, S_X9_findMasks), (143, S_X9_has), (147, S_X9_isCheck)]) (List.forall_mem_cons.mpr ⟨⟨9, by decide, ok_X9_findMasks E⟩, List.forall_mem_cons.mpr ⟨⟨1, by decide, ok_X9_has E⟩, List.forall_mem_cons.mpr ⟨⟨8, by decide, ok_X9_isCheck E⟩, fun _ h => absurd h List.not_mem_nil⟩⟩⟩) (by decide) 95 rfl ?_
  intro a M K wd wa hS
  unfold S_X9_spurious at hS
  split at hS
  ·
    rename_i c
    refine ⟨Nat.le_of_ble_eq_true rfl, fun pc n L st M1 => match pc, L, st with
      | 24, [.inr (.inr (.inr (797, 9, 0))), .inr (.inl c1), .inr (.inl cnt), .inr (.inl k)], [] => (n = (256 - k).toNat ∧ 0 ≤ k ∧ k ≤ 256 ∧ c = c1 ∧ (0 ≤ c ∧ c < 16) ∧ ∃ W1 W2 N M2, (∀ rx : Int, ∀ Mx : ab_M, sp_P M Mx c rx W1 W2 → K [Xi rx] Mx) ∧ pz_rdn M N ∧ c < N 797 20 ∧ fm_P M M2 0 W1 W2 ∧ fm_P M2 M1 1 W1 W2 ∧ cnt = ((gx_m (sp_f M1 c) k.toNat : Nat) : Int))
      | _, _, _ => False, ?_, ?_⟩
    · exact vc_X9_spurious_0 c M K  hS
    · intro pc n L st M1 hI wd1 wL wst
      (try dsimp only at hI)
      split at hI
      ·
        rename_i c1 cnt k
        exact vc_X9_spurious_24 c M K  hS n c1 cnt k _ hI
      · exact hI.elim
  · exact hS.elim
