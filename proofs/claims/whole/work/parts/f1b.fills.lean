/-! bits counted, arrays filled -/
def S_J13_bitCount_95d88 : ab_PT := fun a M K => match a with
  | [.inr (.inr (.inl x))] => (True) ∧ (∀ rx : Int, (rx = ((gx_m (pz_lb x) 64 : Nat) : Int)) → K [Xi rx] M)
  | _ => False
set_option maxRecDepth 20000 in
theorem vc_J13_bitCount_95d88_0 (x : Int) (M : ab_M) (K : List ab_V → ab_M → Prop) (hS : (True) ∧ (∀ rx : Int, (rx = ((gx_m (pz_lb x) 64 : Nat) : Int)) → K [Xi rx] M)) : (-128 ≤ (8 : Int) ∧ (8 : Int) < 128) ∧ (-128 ≤ (16 : Int) ∧ (16 : Int) < 128) ∧ (-128 ≤ (32 : Int) ∧ (32 : Int) < 128) ∧ (-128 ≤ (127 : Int) ∧ (127 : Int) < 128) ∧ K [Xi (ab_and ((((ab_land (((ab_land (x - (ab_land (ab_lushr x (1 : Int)) (6148914691236517205 : Int))) (3689348814741910323 : Int)) + (ab_land (ab_lushr (x - (ab_land (ab_lushr x (1 : Int)) (6148914691236517205 : Int))) (2 : Int)) (3689348814741910323 : Int))) + (ab_lushr ((ab_land (x - (ab_land (ab_lushr x (1 : Int)) (6148914691236517205 : Int))) (3689348814741910323 : Int)) + (ab_land (ab_lushr (x - (ab_land (ab_lushr x (1 : Int)) (6148914691236517205 : Int))) (2 : Int)) (3689348814741910323 : Int))) (4 : Int))) (1085102592571150095 : Int)) + (ab_lushr (ab_land (((ab_land (x - (ab_land (ab_lushr x (1 : Int)) (6148914691236517205 : Int))) (3689348814741910323 : Int)) + (ab_land (ab_lushr (x - (ab_land (ab_lushr x (1 : Int)) (6148914691236517205 : Int))) (2 : Int)) (3689348814741910323 : Int))) + (ab_lushr ((ab_land (x - (ab_land (ab_lushr x (1 : Int)) (6148914691236517205 : Int))) (3689348814741910323 : Int)) + (ab_land (ab_lushr (x - (ab_land (ab_lushr x (1 : Int)) (6148914691236517205 : Int))) (2 : Int)) (3689348814741910323 : Int))) (4 : Int))) (1085102592571150095 : Int)) (8 : Int))) + (ab_lushr ((ab_land (((ab_land (x - (ab_land (ab_lushr x (1 : Int)) (6148914691236517205 : Int))) (3689348814741910323 : Int)) + (ab_land (ab_lushr (x - (ab_land (ab_lushr x (1 : Int)) (6148914691236517205 : Int))) (2 : Int)) (3689348814741910323 : Int))) + (ab_lushr ((ab_land (x - (ab_land (ab_lushr x (1 : Int)) (6148914691236517205 : Int))) (3689348814741910323 : Int)) + (ab_land (ab_lushr (x - (ab_land (ab_lushr x (1 : Int)) (6148914691236517205 : Int))) (2 : Int)) (3689348814741910323 : Int))) (4 : Int))) (1085102592571150095 : Int)) + (ab_lushr (ab_land (((ab_land (x - (ab_land (ab_lushr x (1 : Int)) (6148914691236517205 : Int))) (3689348814741910323 : Int)) + (ab_land (ab_lushr (x - (ab_land (ab_lushr x (1 : Int)) (6148914691236517205 : Int))) (2 : Int)) (3689348814741910323 : Int))) + (ab_lushr ((ab_land (x - (ab_land (ab_lushr x (1 : Int)) (6148914691236517205 : Int))) (3689348814741910323 : Int)) + (ab_land (ab_lushr (x - (ab_land (ab_lushr x (1 : Int)) (6148914691236517205 : Int))) (2 : Int)) (3689348814741910323 : Int))) (4 : Int))) (1085102592571150095 : Int)) (8 : Int))) (16 : Int))) + (ab_lushr (((ab_land (((ab_land (x - (ab_land (ab_lushr x (1 : Int)) (6148914691236517205 : Int))) (3689348814741910323 : Int)) + (ab_land (ab_lushr (x - (ab_land (ab_lushr x (1 : Int)) (6148914691236517205 : Int))) (2 : Int)) (3689348814741910323 : Int))) + (ab_lushr ((ab_land (x - (ab_land (ab_lushr x (1 : Int)) (6148914691236517205 : Int))) (3689348814741910323 : Int)) + (ab_land (ab_lushr (x - (ab_land (ab_lushr x (1 : Int)) (6148914691236517205 : Int))) (2 : Int)) (3689348814741910323 : Int))) (4 : Int))) (1085102592571150095 : Int)) + (ab_lushr (ab_land (((ab_land (x - (ab_land (ab_lushr x (1 : Int)) (6148914691236517205 : Int))) (3689348814741910323 : Int)) + (ab_land (ab_lushr (x - (ab_land (ab_lushr x (1 : Int)) (6148914691236517205 : Int))) (2 : Int)) (3689348814741910323 : Int))) + (ab_lushr ((ab_land (x - (ab_land (ab_lushr x (1 : Int)) (6148914691236517205 : Int))) (3689348814741910323 : Int)) + (ab_land (ab_lushr (x - (ab_land (ab_lushr x (1 : Int)) (6148914691236517205 : Int))) (2 : Int)) (3689348814741910323 : Int))) (4 : Int))) (1085102592571150095 : Int)) (8 : Int))) + (ab_lushr ((ab_land (((ab_land (x - (ab_land (ab_lushr x (1 : Int)) (6148914691236517205 : Int))) (3689348814741910323 : Int)) + (ab_land (ab_lushr (x - (ab_land (ab_lushr x (1 : Int)) (6148914691236517205 : Int))) (2 : Int)) (3689348814741910323 : Int))) + (ab_lushr ((ab_land (x - (ab_land (ab_lushr x (1 : Int)) (6148914691236517205 : Int))) (3689348814741910323 : Int)) + (ab_land (ab_lushr (x - (ab_land (ab_lushr x (1 : Int)) (6148914691236517205 : Int))) (2 : Int)) (3689348814741910323 : Int))) (4 : Int))) (1085102592571150095 : Int)) + (ab_lushr (ab_land (((ab_land (x - (ab_land (ab_lushr x (1 : Int)) (6148914691236517205 : Int))) (3689348814741910323 : Int)) + (ab_land (ab_lushr (x - (ab_land (ab_lushr x (1 : Int)) (6148914691236517205 : Int))) (2 : Int)) (3689348814741910323 : Int))) + (ab_lushr ((ab_land (x - (ab_land (ab_lushr x (1 : Int)) (6148914691236517205 : Int))) (3689348814741910323 : Int)) + (ab_land (ab_lushr (x - (ab_land (ab_lushr x (1 : Int)) (6148914691236517205 : Int))) (2 : Int)) (3689348814741910323 : Int))) (4 : Int))) (1085102592571150095 : Int)) (8 : Int))) (16 : Int))) (32 : Int))) (127 : Int))] M := by
  obtain ⟨-, gK⟩ := hS
  refine And.intro (by
    decide) ?_
  refine And.intro (by
    decide) ?_
  refine And.intro (by
    decide) ?_
  refine And.intro (by
    decide) ?_
  exact gK _ (pc_long x _ _ _ _ _ _ rfl rfl rfl rfl rfl rfl)

set_option maxRecDepth 20000 in
set_option maxHeartbeats 1000000 in
theorem ok_J13_bitCount_95d88 (E : ab_E) : ab_Ok E 1 222 S_J13_bitCount_95d88 := by
  refine ab_mk rq_J13_bitCount_95d88 tk_J13_bitCount_95d88 (rt := 1) (rfl) (cuts := []) (G := []) (fun g hg => by cases hg) (by decide) 99 rfl ?_
  intro a M K wd wa hS
  unfold S_J13_bitCount_95d88 at hS
  split at hS
  ·
    rename_i x
    refine ⟨Nat.le_of_ble_eq_true rfl, fun _ _ _ _ _ => False, ?_, ?_⟩
    · exact vc_J13_bitCount_95d88_0 x M K  hS
    · exact fun _ _ _ _ _ h => h.elim
  · exact hS.elim
def S_J7_rangeCheck_23922 : ab_PT := fun a M K => match a with
  | [.inr (.inl ln), .inr (.inl a), .inr (.inl b)] => (0 ≤ a ∧ a ≤ b ∧ b ≤ ln ∧ ln ≤ 65536) ∧ (K [] M)
  | _ => False
set_option maxRecDepth 20000 in
theorem vc_J7_rangeCheck_23922_0 (ln : Int) (a : Int) (b : Int) (M : ab_M) (K : List ab_V → ab_M → Prop) (hS : (0 ≤ a ∧ a ≤ b ∧ b ≤ ln ∧ ln ≤ 65536) ∧ (K [] M)) : (ab_ir a ∧ ab_ir b) ∧ ((a ≤ b → (ab_ir a) ∧ ((0 ≤ a → (ab_ir b ∧ ab_ir ln) ∧ ((b ≤ ln → K [] M) ∧ (ln < b → False))) ∧ (a < 0 → False))) ∧ (b < a → False)) := by
  obtain ⟨⟨g1, g2, g3, g4⟩, gK⟩ := hS
  refine And.intro (by
    first
      | omega
      | exact ⟨by omega, by omega⟩
      | exact ⟨⟨by omega, by omega⟩, by omega, by omega⟩
      | trivial) ?_
  refine ⟨?_, ?_⟩
  · intro c2
    refine And.intro (by
      first
        | omega
        | exact ⟨by omega, by omega⟩
        | exact ⟨⟨by omega, by omega⟩, by omega, by omega⟩
        | trivial) ?_
    refine ⟨?_, ?_⟩
    · intro c47
      refine And.intro (by
        first
          | omega
          | exact ⟨by omega, by omega⟩
          | exact ⟨⟨by omega, by omega⟩, by omega, by omega⟩
          | trivial) ?_
      refine ⟨?_, ?_⟩
      · intro c61
        exact gK
      · intro c61
        omega
    · intro c47
      omega
  · intro c2
    omega

set_option maxRecDepth 20000 in
set_option maxHeartbeats 1000000 in
theorem ok_J7_rangeCheck_23922 (E : ab_E) : ab_Ok E 1 221 S_J7_rangeCheck_23922 := by
  refine ab_mk rq_J7_rangeCheck_23922 tk_J7_rangeCheck_23922 (rt := 0) (rfl) (cuts := []) (G := []) (fun g hg => by cases hg) (by decide) 62 rfl ?_
  intro a M K wd wa hS
  unfold S_J7_rangeCheck_23922 at hS
  split at hS
  ·
    rename_i ln a b
    refine ⟨Nat.le_of_ble_eq_true rfl, fun _ _ _ _ _ => False, ?_, ?_⟩
    · exact vc_J7_rangeCheck_23922_0 ln a b M K  hS
    · exact fun _ _ _ _ _ h => h.elim
  · exact hS.elim
def S_J7_fill_fda19 : ab_PT := fun a M K => match a with
  | [.inr (.inr (.inr (A, 20, ln))), .inr (.inl a), .inr (.inl b), .inr (.inl v)] => (0 ≤ a ∧ a ≤ b ∧ b ≤ (ln : Int) ∧ ln ≤ 65536) ∧ (∀ Mx : ab_M, (∀ o' k' : Nat, Mx o' k' = if o' = A ∧ a ≤ (k' : Int) ∧ (k' : Int) < b then v else M o' k') → K [] Mx)
  | _ => False
set_option maxRecDepth 20000 in
theorem vc_J7_fill_fda19_0 (A : Nat) (ln : Nat) (a : Int) (b : Int) (v : Int) (M : ab_M) (K : List ab_V → ab_M → Prop) (hS : (0 ≤ a ∧ a ≤ b ∧ b ≤ (ln : Int) ∧ ln ≤ 65536) ∧ (∀ Mx : ab_M, (∀ o' k' : Nat, Mx o' k' = if o' = A ∧ a ≤ (k' : Int) ∧ (k' : Int) < b then v else M o' k') → K [] Mx)) : (0 ≤ a ∧ a ≤ b ∧ b ≤ ((ln : Nat) : Int) ∧ ((ln : Nat) : Int) ≤ 65536) ∧ ((∃ n', (A = A ∧ ln = ln ∧ (n' = (b - a).toNat ∧ a = a ∧ b = b ∧ v = v ∧ a ≤ a ∧ a ≤ b ∧ ∀ o' k' : Nat, M o' k' = if o' = A ∧ a ≤ (k' : Int) ∧ (k' : Int) < a then v else M o' k')))) := by
  obtain ⟨⟨g1, g2, g3, g4⟩, gK⟩ := hS
  refine And.intro (by
    first
      | omega
      | exact ⟨by omega, by omega⟩
      | exact ⟨⟨by omega, by omega⟩, by omega, by omega⟩
      | trivial
      | exact ⟨g1, g2, g3, by omega⟩) ?_
  exact ⟨_, rfl, rfl, rfl, rfl, rfl, rfl, by omega, by omega, fun o' k' => (if_neg (by omega)).symm⟩

set_option maxRecDepth 20000 in
theorem vc_J7_fill_fda19_10 (A : Nat) (ln : Nat) (a : Int) (b : Int) (v : Int) (M : ab_M) (K : List ab_V → ab_M → Prop) (hS : (0 ≤ a ∧ a ≤ b ∧ b ≤ (ln : Int) ∧ ln ≤ 65536) ∧ (∀ Mx : ab_M, (∀ o' k' : Nat, Mx o' k' = if o' = A ∧ a ≤ (k' : Int) ∧ (k' : Int) < b then v else M o' k') → K [] Mx)) (n : Nat) (a1 : Int) (b1 : Int) (v1 : Int) (k : Int) (M1 : ab_M) (hI : n = (b - k).toNat ∧ a = a1 ∧ b = b1 ∧ v = v1 ∧ a ≤ k ∧ k ≤ b ∧ ∀ o' k' : Nat, M1 o' k' = if o' = A ∧ a ≤ (k' : Int) ∧ (k' : Int) < k then v else M o' k') : (ab_ir k ∧ ab_ir b1) ∧ ((b1 ≤ k → K [] M1) ∧ (k < b1 → (0 ≤ k ∧ k < ((ln : Nat) : Int)) ∧ (∃ n', n' < n ∧ (A = A ∧ ln = ln ∧ (n' = (b - (k + 1)).toNat ∧ a = a1 ∧ b = b1 ∧ v = v1 ∧ a ≤ (k + 1) ∧ (k + 1) ≤ b ∧ ∀ o' k' : Nat, (ab_up M1 A k.toNat v1) o' k' = if o' = A ∧ a ≤ (k' : Int) ∧ (k' : Int) < (k + 1) then v else M o' k'))))) := by
  obtain ⟨hn, q1, q2, q3, hk0, hk1, hI⟩ := hI
  subst q1
  subst q2
  subst q3
  obtain ⟨⟨g1, g2, g3, g4⟩, gK⟩ := hS
  refine And.intro (by
    first
      | omega
      | exact ⟨by omega, by omega⟩
      | exact ⟨⟨by omega, by omega⟩, by omega, by omega⟩
      | trivial
      | exact ⟨g1, g2, g3, by omega⟩) ?_
  refine ⟨?_, ?_⟩
  · intro c13
    refine gK _ fun o' k' => ?_
    rw [hI o' k']
    repeat' split
    all_goals first
      | rfl
      | omega
  · intro c13
    refine And.intro (by
      first
        | omega
        | exact ⟨by omega, by omega⟩
        | exact ⟨⟨by omega, by omega⟩, by omega, by omega⟩
        | trivial
        | exact ⟨g1, g2, g3, by omega⟩) ?_
    refine ⟨_, ?_, rfl, rfl, rfl, rfl, rfl, rfl, by omega, by omega, fun o' k' => ?_⟩
    · omega
    rw [ab_up_a, hI o' k']
    repeat' split
    all_goals first
      | rfl
      | omega

set_option maxRecDepth 20000 in
set_option maxHeartbeats 1000000 in
theorem ok_J7_fill_fda19 (E : ab_E) : ab_Ok E 2 218 S_J7_fill_fda19 := by
  refine ab_mk rq_J7_fill_fda19 tk_J7_fill_fda19 (rt := 0) (rfl) (cuts := [10]) (G := [(221, S_J7_rangeCheck_23922)]) (List.forall_mem_cons.mpr ⟨⟨1, by decide, ok_J7_rangeCheck_23922 E⟩, fun _ h => absurd h List.not_mem_nil⟩) (by decide) 67 rfl ?_
  intro a M K wd wa hS
  unfold S_J7_fill_fda19 at hS
  split at hS
  ·
    rename_i A ln a b v
    refine ⟨Nat.le_of_ble_eq_true rfl, fun pc n L st M1 => match pc, L, st with
      | 10, [.inr (.inr (.inr (A_, 20, ln_))), .inr (.inl a1), .inr (.inl b1), .inr (.inl v1), .inr (.inl k)], [] => A_ = A ∧ ln_ = ln ∧ (n = (b - k).toNat ∧ a = a1 ∧ b = b1 ∧ v = v1 ∧ a ≤ k ∧ k ≤ b ∧ ∀ o' k' : Nat, M1 o' k' = if o' = A ∧ a ≤ (k' : Int) ∧ (k' : Int) < k then v else M o' k')
      | _, _, _ => False, ?_, ?_⟩
    · exact vc_J7_fill_fda19_0 A ln a b v M K  hS
    · intro pc n L st M1 hI wd1 wL wst
      (try dsimp only at hI)
      split at hI
      ·
        rename_i A_ ln_ a1 b1 v1 k
        obtain ⟨e0_, e1_, hI⟩ := hI
        have e0_ := e0_.symm
        subst e0_
        have e1_ := e1_.symm
        subst e1_
        exact vc_J7_fill_fda19_10 A ln a b v M K  hS n a1 b1 v1 k _ hI
      · exact hI.elim
  · exact hS.elim
def S_J7_fill_bad5a : ab_PT := fun a M K => match a with
  | [.inr (.inr (.inr (A, 21, ln))), .inr (.inl a), .inr (.inl b), .inr (.inr (.inl v))] => (0 ≤ a ∧ a ≤ b ∧ b ≤ (ln : Int) ∧ ln ≤ 65536) ∧ (∀ Mx : ab_M, (∀ o' k' : Nat, Mx o' k' = if o' = A ∧ a ≤ (k' : Int) ∧ (k' : Int) < b then v else M o' k') → K [] Mx)
  | _ => False
set_option maxRecDepth 20000 in
theorem vc_J7_fill_bad5a_0 (A : Nat) (ln : Nat) (a : Int) (b : Int) (v : Int) (M : ab_M) (K : List ab_V → ab_M → Prop) (hS : (0 ≤ a ∧ a ≤ b ∧ b ≤ (ln : Int) ∧ ln ≤ 65536) ∧ (∀ Mx : ab_M, (∀ o' k' : Nat, Mx o' k' = if o' = A ∧ a ≤ (k' : Int) ∧ (k' : Int) < b then v else M o' k') → K [] Mx)) : (0 ≤ a ∧ a ≤ b ∧ b ≤ ((ln : Nat) : Int) ∧ ((ln : Nat) : Int) ≤ 65536) ∧ ((∃ n', (A = A ∧ ln = ln ∧ (n' = (b - a).toNat ∧ a = a ∧ b = b ∧ v = v ∧ a ≤ a ∧ a ≤ b ∧ ∀ o' k' : Nat, M o' k' = if o' = A ∧ a ≤ (k' : Int) ∧ (k' : Int) < a then v else M o' k')))) := by
  obtain ⟨⟨g1, g2, g3, g4⟩, gK⟩ := hS
  refine And.intro (by
    first
      | omega
      | exact ⟨by omega, by omega⟩
      | exact ⟨⟨by omega, by omega⟩, by omega, by omega⟩
      | trivial
      | exact ⟨g1, g2, g3, by omega⟩) ?_
  exact ⟨_, rfl, rfl, rfl, rfl, rfl, rfl, by omega, by omega, fun o' k' => (if_neg (by omega)).symm⟩

set_option maxRecDepth 20000 in
theorem vc_J7_fill_bad5a_10 (A : Nat) (ln : Nat) (a : Int) (b : Int) (v : Int) (M : ab_M) (K : List ab_V → ab_M → Prop) (hS : (0 ≤ a ∧ a ≤ b ∧ b ≤ (ln : Int) ∧ ln ≤ 65536) ∧ (∀ Mx : ab_M, (∀ o' k' : Nat, Mx o' k' = if o' = A ∧ a ≤ (k' : Int) ∧ (k' : Int) < b then v else M o' k') → K [] Mx)) (n : Nat) (a1 : Int) (b1 : Int) (v1 : Int) (k : Int) (M1 : ab_M) (hI : n = (b - k).toNat ∧ a = a1 ∧ b = b1 ∧ v = v1 ∧ a ≤ k ∧ k ≤ b ∧ ∀ o' k' : Nat, M1 o' k' = if o' = A ∧ a ≤ (k' : Int) ∧ (k' : Int) < k then v else M o' k') : (ab_ir k ∧ ab_ir b1) ∧ ((b1 ≤ k → K [] M1) ∧ (k < b1 → (0 ≤ k ∧ k < ((ln : Nat) : Int)) ∧ (∃ n', n' < n ∧ (A = A ∧ ln = ln ∧ (n' = (b - (k + 1)).toNat ∧ a = a1 ∧ b = b1 ∧ v = v1 ∧ a ≤ (k + 1) ∧ (k + 1) ≤ b ∧ ∀ o' k' : Nat, (ab_up M1 A k.toNat v1) o' k' = if o' = A ∧ a ≤ (k' : Int) ∧ (k' : Int) < (k + 1) then v else M o' k'))))) := by
  obtain ⟨hn, q1, q2, q3, hk0, hk1, hI⟩ := hI
  subst q1
  subst q2
  subst q3
  obtain ⟨⟨g1, g2, g3, g4⟩, gK⟩ := hS
  refine And.intro (by
    first
      | omega
      | exact ⟨by omega, by omega⟩
      | exact ⟨⟨by omega, by omega⟩, by omega, by omega⟩
      | trivial
      | exact ⟨g1, g2, g3, by omega⟩) ?_
  refine ⟨?_, ?_⟩
  · intro c13
    refine gK _ fun o' k' => ?_
    rw [hI o' k']
    repeat' split
    all_goals first
      | rfl
      | omega
  · intro c13
    refine And.intro (by
      first
        | omega
        | exact ⟨by omega, by omega⟩
        | exact ⟨⟨by omega, by omega⟩, by omega, by omega⟩
        | trivial
        | exact ⟨g1, g2, g3, by omega⟩) ?_
    refine ⟨_, ?_, rfl, rfl, rfl, rfl, rfl, rfl, by omega, by omega, fun o' k' => ?_⟩
    · omega
    rw [ab_up_a, hI o' k']
    repeat' split
    all_goals first
      | rfl
      | omega

set_option maxRecDepth 20000 in
set_option maxHeartbeats 1000000 in
theorem ok_J7_fill_bad5a (E : ab_E) : ab_Ok E 2 219 S_J7_fill_bad5a := by
  refine ab_mk rq_J7_fill_bad5a tk_J7_fill_bad5a (rt := 0) (rfl) (cuts := [10]) (G := [(221, S_J7_rangeCheck_23922)]) (List.forall_mem_cons.mpr ⟨⟨1, by decide, ok_J7_rangeCheck_23922 E⟩, fun _ h => absurd h List.not_mem_nil⟩) (by decide) 67 rfl ?_
  intro a M K wd wa hS
  unfold S_J7_fill_bad5a at hS
  split at hS
  ·
    rename_i A ln a b v
    refine ⟨Nat.le_of_ble_eq_true rfl, fun pc n L st M1 => match pc, L, st with
      | 10, [.inr (.inr (.inr (A_, 21, ln_))), .inr (.inl a1), .inr (.inl b1), .inr (.inr (.inl v1)), .inl (), .inr (.inl k)], [] => A_ = A ∧ ln_ = ln ∧ (n = (b - k).toNat ∧ a = a1 ∧ b = b1 ∧ v = v1 ∧ a ≤ k ∧ k ≤ b ∧ ∀ o' k' : Nat, M1 o' k' = if o' = A ∧ a ≤ (k' : Int) ∧ (k' : Int) < k then v else M o' k')
      | _, _, _ => False, ?_, ?_⟩
    · exact vc_J7_fill_bad5a_0 A ln a b v M K  hS
    · intro pc n L st M1 hI wd1 wL wst
      (try dsimp only at hI)
      split at hI
      ·
        rename_i A_ ln_ a1 b1 v1 k
        obtain ⟨e0_, e1_, hI⟩ := hI
        have e0_ := e0_.symm
        subst e0_
        have e1_ := e1_.symm
        subst e1_
        exact vc_J7_fill_bad5a_10 A ln a b v M K  hS n a1 b1 v1 k _ hI
      · exact hI.elim
  · exact hS.elim
def S_J7_fill_d0a16 : ab_PT := fun a M K => match a with
  | [.inr (.inr (.inr (A, 21, ln))), .inr (.inr (.inl v))] => (ln ≤ 65536) ∧ (∀ Mx : ab_M, (∀ o' k' : Nat, Mx o' k' = if o' = A ∧ k' < ln then v else M o' k') → K [] Mx)
  | _ => False
set_option maxRecDepth 20000 in
theorem vc_J7_fill_d0a16_0 (A : Nat) (ln : Nat) (v : Int) (M : ab_M) (K : List ab_V → ab_M → Prop) (hS : (ln ≤ 65536) ∧ (∀ Mx : ab_M, (∀ o' k' : Nat, Mx o' k' = if o' = A ∧ k' < ln then v else M o' k') → K [] Mx)) : (∃ n', (A = A ∧ ln = ln ∧ (n' = (ln - (0 : Int)).toNat ∧ v = v ∧ ((ln : Nat) : Int) = ((ln : Nat) : Int) ∧ 0 ≤ (0 : Int) ∧ (0 : Int) ≤ ((ln : Nat) : Int) ∧ ∀ o' k' : Nat, M o' k' = if o' = A ∧ (k' : Int) < (0 : Int) then v else M o' k'))) := by
  obtain ⟨gl, gK⟩ := hS
  exact ⟨_, rfl, rfl, rfl, rfl, rfl, by decide, by omega, fun o' k' => (if_neg (by omega)).symm⟩

set_option maxRecDepth 20000 in
theorem vc_J7_fill_d0a16_6 (A : Nat) (ln : Nat) (v : Int) (M : ab_M) (K : List ab_V → ab_M → Prop) (hS : (ln ≤ 65536) ∧ (∀ Mx : ab_M, (∀ o' k' : Nat, Mx o' k' = if o' = A ∧ k' < ln then v else M o' k') → K [] Mx)) (n : Nat) (v1 : Int) (k : Int) (l1 : Int) (M1 : ab_M) (hI : n = (ln - k).toNat ∧ v = v1 ∧ l1 = ((ln : Nat) : Int) ∧ 0 ≤ k ∧ k ≤ ((ln : Nat) : Int) ∧ ∀ o' k' : Nat, M1 o' k' = if o' = A ∧ (k' : Int) < k then v else M o' k') : (ab_ir k ∧ ab_ir l1) ∧ ((l1 ≤ k → K [] M1) ∧ (k < l1 → (0 ≤ k ∧ k < ((ln : Nat) : Int)) ∧ (∃ n', n' < n ∧ (A = A ∧ ln = ln ∧ (n' = (ln - (k + 1)).toNat ∧ v = v1 ∧ l1 = ((ln : Nat) : Int) ∧ 0 ≤ (k + 1) ∧ (k + 1) ≤ ((ln : Nat) : Int) ∧ ∀ o' k' : Nat, (ab_up M1 A k.toNat v1) o' k' = if o' = A ∧ (k' : Int) < (k + 1) then v else M o' k'))))) := by
  obtain ⟨hn, q1, q2, hk0, hk1, hI⟩ := hI
  subst q1
  subst q2
  obtain ⟨gl, gK⟩ := hS
  refine And.intro (by
    first
      | omega
      | exact ⟨by omega, by omega⟩
      | exact ⟨⟨by omega, by omega⟩, by omega, by omega⟩
      | trivial) ?_
  refine ⟨?_, ?_⟩
  · intro c9
    refine gK _ fun o' k' => ?_
    rw [hI o' k']
    repeat' split
    all_goals first
      | rfl
      | omega
  · intro c9
    refine And.intro (by
      first
        | omega
        | exact ⟨by omega, by omega⟩
        | exact ⟨⟨by omega, by omega⟩, by omega, by omega⟩
        | trivial) ?_
    refine ⟨_, ?_, rfl, rfl, rfl, rfl, rfl, by omega, by omega, fun o' k' => ?_⟩
    · omega
    rw [ab_up_a, hI o' k']
    repeat' split
    all_goals first
      | rfl
      | omega

set_option maxRecDepth 20000 in
set_option maxHeartbeats 1000000 in
theorem ok_J7_fill_d0a16 (E : ab_E) : ab_Ok E 1 220 S_J7_fill_d0a16 := by
  refine ab_mk rq_J7_fill_d0a16 tk_J7_fill_d0a16 (rt := 0) (rfl) (cuts := [6]) (G := []) (fun g hg => by cases hg) (by decide) 65 rfl ?_
  intro a M K wd wa hS
  unfold S_J7_fill_d0a16 at hS
  split at hS
  ·
    rename_i A ln v
    refine ⟨Nat.le_of_ble_eq_true rfl, fun pc n L st M1 => match pc, L, st with
      | 6, [.inr (.inr (.inr (A_, 21, ln_))), .inr (.inr (.inl v1)), .inl (), .inr (.inl k), .inr (.inl l1)], [] => A_ = A ∧ ln_ = ln ∧ (n = (ln - k).toNat ∧ v = v1 ∧ l1 = ((ln : Nat) : Int) ∧ 0 ≤ k ∧ k ≤ ((ln : Nat) : Int) ∧ ∀ o' k' : Nat, M1 o' k' = if o' = A ∧ (k' : Int) < k then v else M o' k')
      | _, _, _ => False, ?_, ?_⟩
    · exact vc_J7_fill_d0a16_0 A ln v M K  hS
    · intro pc n L st M1 hI wd1 wL wst
      (try dsimp only at hI)
      split at hI
      ·
        rename_i A_ ln_ v1 k l1
        obtain ⟨e0_, e1_, hI⟩ := hI
        have e0_ := e0_.symm
        subst e0_
        have e1_ := e1_.symm
        subst e1_
        exact vc_J7_fill_d0a16_6 A ln v M K  hS n v1 k l1 _ hI
      · exact hI.elim
  · exact hS.elim
