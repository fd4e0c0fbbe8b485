/-! filling an array -/
def S_J7_fill_53178 : ab_PT := fun a M K => match a with
  | [.inr (.inr (.inr (a, 20, ln))), .inr (.inl v)] => (ln ≤ 65536) ∧ (∀ Mx : ab_M, (∀ o' k' : Nat, Mx o' k' = if o' = a ∧ k' < ln then v else M o' k') → K [] Mx)
  | _ => False
set_option maxRecDepth 20000 in
theorem vc_J7_fill_53178_0 (a : Nat) (ln : Nat) (v : Int) (M : ab_M) (K : List ab_V → ab_M → Prop) (hS : (ln ≤ 65536) ∧ (∀ Mx : ab_M, (∀ o' k' : Nat, Mx o' k' = if o' = a ∧ k' < ln then v else M o' k') → K [] Mx)) : (∃ n', (a = a ∧ ln = ln ∧ (n' = (ln - (0 : Int)).toNat ∧ v = v ∧ ((ln : Nat) : Int) = ((ln : Nat) : Int) ∧ 0 ≤ (0 : Int) ∧ (0 : Int) ≤ ((ln : Nat) : Int) ∧ ∀ o' k' : Nat, M o' k' = if o' = a ∧ (k' : Int) < (0 : Int) then v else M o' k'))) := by
  obtain ⟨gl, gK⟩ := hS
  exact ⟨_, rfl, rfl, rfl, rfl, rfl, by decide, by omega, fun o' k' => (if_neg (by omega)).symm⟩

set_option maxRecDepth 20000 in
theorem vc_J7_fill_53178_5 (a : Nat) (ln : Nat) (v : Int) (M : ab_M) (K : List ab_V → ab_M → Prop) (hS : (ln ≤ 65536) ∧ (∀ Mx : ab_M, (∀ o' k' : Nat, Mx o' k' = if o' = a ∧ k' < ln then v else M o' k') → K [] Mx)) (n : Nat) (v1 : Int) (k : Int) (l1 : Int) (M1 : ab_M) (hI : n = (ln - k).toNat ∧ v = v1 ∧ l1 = ((ln : Nat) : Int) ∧ 0 ≤ k ∧ k ≤ ((ln : Nat) : Int) ∧ ∀ o' k' : Nat, M1 o' k' = if o' = a ∧ (k' : Int) < k then v else M o' k') : (ab_ir k ∧ ab_ir l1) ∧ ((l1 ≤ k → K [] M1) ∧ (k < l1 → (0 ≤ k ∧ k < ((ln : Nat) : Int)) ∧ (∃ n', n' < n ∧ (a = a ∧ ln = ln ∧ (n' = (ln - (k + 1)).toNat ∧ v = v1 ∧ l1 = ((ln : Nat) : Int) ∧ 0 ≤ (k + 1) ∧ (k + 1) ≤ ((ln : Nat) : Int) ∧ ∀ o' k' : Nat, (ab_up M1 a k.toNat v1) o' k' = if o' = a ∧ (k' : Int) < (k + 1) then v else M o' k'))))) := by
  obtain ⟨hn, q1, q2, hk0, hk1, hI⟩ := hI
  subst q1
  subst q2
  obtain ⟨gl, gK⟩ := hS
  refine And.intro (by
    first
      | omega
      | exact ⟨by omega, by omega⟩
      | exact ⟨⟨by omega, by omega⟩, by omega, by omega⟩) ?_
  refine ⟨?_, ?_⟩
  · intro c7
    refine gK _ fun o' k' => ?_
    rw [hI o' k']
    repeat' split
    all_goals first
      | rfl
      | omega
  · intro c7
    refine And.intro (by
      first
        | omega
        | exact ⟨by omega, by omega⟩
        | exact ⟨⟨by omega, by omega⟩, by omega, by omega⟩) ?_
    refine ⟨_, ?_, rfl, rfl, rfl, rfl, rfl, by omega, by omega, fun o' k' => ?_⟩
    · omega
    rw [ab_up_a, hI o' k']
    repeat' split
    all_goals first
      | rfl
      | omega

set_option maxRecDepth 20000 in
set_option maxHeartbeats 1000000 in
theorem ok_J7_fill_53178 (E : ab_E) : ab_Ok E 1 200 S_J7_fill_53178 := by
  refine ab_mk rq_J7_fill_53178 tk_J7_fill_53178 (rt := 0) (rfl) (cuts := [5]) (G := []) (fun g hg => by cases hg) (by decide) 65 rfl ?_
  intro a M K wd wa hS
  unfold S_J7_fill_53178 at hS
  split at hS
  ·
    rename_i a ln v
    refine ⟨Nat.le_of_ble_eq_true rfl, fun pc n L st M1 => match pc, L, st with
      | 5, [.inr (.inr (.inr (a_, 20, ln_))), .inr (.inl v1), .inr (.inl k), .inr (.inl l1)], [] => a_ = a ∧ ln_ = ln ∧ (n = (ln - k).toNat ∧ v = v1 ∧ l1 = ((ln : Nat) : Int) ∧ 0 ≤ k ∧ k ≤ ((ln : Nat) : Int) ∧ ∀ o' k' : Nat, M1 o' k' = if o' = a ∧ (k' : Int) < k then v else M o' k')
      | _, _, _ => False, ?_, ?_⟩
    · exact vc_J7_fill_53178_0 a ln v M K  hS
    · intro pc n L st M1 hI wd1 wL wst
      (try dsimp only at hI)
      split at hI
      ·
        rename_i a_ ln_ v1 k l1
        obtain ⟨e0_, e1_, hI⟩ := hI
        have e0_ := e0_.symm
        subst e0_
        have e1_ := e1_.symm
        subst e1_
        exact vc_J7_fill_53178_5 a ln v M K  hS n v1 k l1 _ hI
      · exact hI.elim
  · exact hS.elim
