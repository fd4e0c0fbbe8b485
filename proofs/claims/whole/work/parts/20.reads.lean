/-! small reads of the class -/
def S_X8_isFlag : ab_PT := fun a M K => match a with
  | [.inr (.inl v)] => (ab_ir v) ∧ (∀ r1 : Int, (r1 = if v = 0 ∨ v = 1 then 1 else 0) → K [Xi r1] M)
  | _ => False
set_option maxRecDepth 20000 in
theorem vc_X8_isFlag_0 (v : Int) (M : ab_M) (K : List ab_V → ab_M → Prop) (hS : (ab_ir v) ∧ (∀ r1 : Int, (r1 = if v = 0 ∨ v = 1 then 1 else 0) → K [Xi r1] M)) : (ab_ir v) ∧ ((v = 0 → ((1 : Int) = 0 ∨ (1 : Int) = 1) ∧ K [Xi (1 : Int)] M) ∧ (¬ v = 0 → (ab_ir v ∧ ab_ir (1 : Int)) ∧ ((¬ v = (1 : Int) → ((0 : Int) = 0 ∨ (0 : Int) = 1) ∧ K [Xi (0 : Int)] M) ∧ (v = (1 : Int) → ((1 : Int) = 0 ∨ (1 : Int) = 1) ∧ K [Xi (1 : Int)] M)))) := by
  repeat' first
    | (refine And.intro ?_ ?_)
    | intro _
  all_goals first
    | omega
    | exact hS.2 _ (by first | omega | (split <;> omega))
    | exact ⟨_, by omega, rfl, by omega⟩
    | exact ⟨_, rfl, by omega⟩
set_option maxRecDepth 20000 in
set_option maxHeartbeats 1000000 in
theorem ok_X8_isFlag (E : ab_E) : ab_Ok E 1 99 S_X8_isFlag := by
  refine ab_mk rq_X8_isFlag tk_X8_isFlag (rt := 2) (rfl) (cuts := []) (G := []) (fun g hg => by cases hg) (by decide) 59 rfl ?_
  intro a M K wd wa hS
  unfold S_X8_isFlag at hS
  split at hS
  ·
    refine ⟨Nat.le_of_ble_eq_true rfl, fun _ _ _ _ _ => False, ?_, ?_⟩
    · exact vc_X8_isFlag_0 _ M K  hS
    · exact fun _ _ _ _ _ h => h.elim
  · exact hS.elim
def S_X8_isState : ab_PT := fun a M K => match a with
  | [.inr (.inl v)] => (ab_ir v) ∧ (∀ r1 : Int, (r1 = if 0 ≤ v ∧ v < 256 then 1 else 0) → K [Xi r1] M)
  | _ => False
set_option maxRecDepth 20000 in
theorem vc_X8_isState_0 (v : Int) (M : ab_M) (K : List ab_V → ab_M → Prop) (hS : (ab_ir v) ∧ (∀ r1 : Int, (r1 = if 0 ≤ v ∧ v < 256 then 1 else 0) → K [Xi r1] M)) : (ab_ir v) ∧ ((v < 0 → ((0 : Int) = 0 ∨ (0 : Int) = 1) ∧ K [Xi (0 : Int)] M) ∧ (0 ≤ v → (-32768 ≤ (256 : Int) ∧ (256 : Int) < 32768) ∧ (ab_ir v ∧ ab_ir (256 : Int)) ∧ (((256 : Int) ≤ v → ((0 : Int) = 0 ∨ (0 : Int) = 1) ∧ K [Xi (0 : Int)] M) ∧ (v < (256 : Int) → ((1 : Int) = 0 ∨ (1 : Int) = 1) ∧ K [Xi (1 : Int)] M)))) := by
  repeat' first
    | (refine And.intro ?_ ?_)
    | intro _
  all_goals first
    | omega
    | exact hS.2 _ (by first | omega | (split <;> omega))
    | exact ⟨_, by omega, rfl, by omega⟩
    | exact ⟨_, rfl, by omega⟩
set_option maxRecDepth 20000 in
set_option maxHeartbeats 1000000 in
theorem ok_X8_isState (E : ab_E) : ab_Ok E 1 101 S_X8_isState := by
  refine ab_mk rq_X8_isState tk_X8_isState (rt := 2) (rfl) (cuts := []) (G := []) (fun g hg => by cases hg) (by decide) 59 rfl ?_
  intro a M K wd wa hS
  unfold S_X8_isState at hS
  split at hS
  ·
    refine ⟨Nat.le_of_ble_eq_true rfl, fun _ _ _ _ _ => False, ?_, ?_⟩
    · exact vc_X8_isState_0 _ M K  hS
    · exact fun _ _ _ _ _ h => h.elim
  · exact hS.elim
def S_X8_isVariable : ab_PT := fun a M K => match a with
  | [.inr (.inl v)] => (ab_ir v) ∧ (∀ r1 : Int, (r1 = if 97 ≤ v ∧ v ≤ 100 then 1 else 0) → K [Xi r1] M)
  | _ => False
set_option maxRecDepth 20000 in
theorem vc_X8_isVariable_0 (v : Int) (M : ab_M) (K : List ab_V → ab_M → Prop) (hS : (ab_ir v) ∧ (∀ r1 : Int, (r1 = if 97 ≤ v ∧ v ≤ 100 then 1 else 0) → K [Xi r1] M)) : (-128 ≤ (97 : Int) ∧ (97 : Int) < 128) ∧ (ab_ir v ∧ ab_ir (97 : Int)) ∧ ((v < (97 : Int) → ((0 : Int) = 0 ∨ (0 : Int) = 1) ∧ K [Xi (0 : Int)] M) ∧ ((97 : Int) ≤ v → (-128 ≤ (100 : Int) ∧ (100 : Int) < 128) ∧ (ab_ir v ∧ ab_ir (100 : Int)) ∧ (((100 : Int) < v → ((0 : Int) = 0 ∨ (0 : Int) = 1) ∧ K [Xi (0 : Int)] M) ∧ (v ≤ (100 : Int) → ((1 : Int) = 0 ∨ (1 : Int) = 1) ∧ K [Xi (1 : Int)] M)))) := by
  repeat' first
    | (refine And.intro ?_ ?_)
    | intro _
  all_goals first
    | omega
    | exact hS.2 _ (by first | omega | (split <;> omega))
    | exact ⟨_, by omega, rfl, by omega⟩
    | exact ⟨_, rfl, by omega⟩
set_option maxRecDepth 20000 in
set_option maxHeartbeats 1000000 in
theorem ok_X8_isVariable (E : ab_E) : ab_Ok E 1 102 S_X8_isVariable := by
  refine ab_mk rq_X8_isVariable tk_X8_isVariable (rt := 2) (rfl) (cuts := []) (G := []) (fun g hg => by cases hg) (by decide) 60 rfl ?_
  intro a M K wd wa hS
  unfold S_X8_isVariable at hS
  split at hS
  ·
    refine ⟨Nat.le_of_ble_eq_true rfl, fun _ _ _ _ _ => False, ?_, ?_⟩
    · exact vc_X8_isVariable_0 _ M K  hS
    · exact fun _ _ _ _ _ h => h.elim
  · exact hS.elim
def S_X8_isDigit : ab_PT := fun a M K => match a with
  | [.inr (.inl v)] => (ab_ir v) ∧ (∀ r1 : Int, (r1 = if 48 ≤ v ∧ v ≤ 51 then 1 else 0) → K [Xi r1] M)
  | _ => False
set_option maxRecDepth 20000 in
theorem vc_X8_isDigit_0 (v : Int) (M : ab_M) (K : List ab_V → ab_M → Prop) (hS : (ab_ir v) ∧ (∀ r1 : Int, (r1 = if 48 ≤ v ∧ v ≤ 51 then 1 else 0) → K [Xi r1] M)) : (-128 ≤ (48 : Int) ∧ (48 : Int) < 128) ∧ (ab_ir v ∧ ab_ir (48 : Int)) ∧ ((v < (48 : Int) → ((0 : Int) = 0 ∨ (0 : Int) = 1) ∧ K [Xi (0 : Int)] M) ∧ ((48 : Int) ≤ v → (-128 ≤ (51 : Int) ∧ (51 : Int) < 128) ∧ (ab_ir v ∧ ab_ir (51 : Int)) ∧ (((51 : Int) < v → ((0 : Int) = 0 ∨ (0 : Int) = 1) ∧ K [Xi (0 : Int)] M) ∧ (v ≤ (51 : Int) → ((1 : Int) = 0 ∨ (1 : Int) = 1) ∧ K [Xi (1 : Int)] M)))) := by
  repeat' first
    | (refine And.intro ?_ ?_)
    | intro _
  all_goals first
    | omega
    | exact hS.2 _ (by first | omega | (split <;> omega))
    | exact ⟨_, by omega, rfl, by omega⟩
    | exact ⟨_, rfl, by omega⟩
set_option maxRecDepth 20000 in
set_option maxHeartbeats 1000000 in
theorem ok_X8_isDigit (E : ab_E) : ab_Ok E 1 98 S_X8_isDigit := by
  refine ab_mk rq_X8_isDigit tk_X8_isDigit (rt := 2) (rfl) (cuts := []) (G := []) (fun g hg => by cases hg) (by decide) 60 rfl ?_
  intro a M K wd wa hS
  unfold S_X8_isDigit at hS
  split at hS
  ·
    refine ⟨Nat.le_of_ble_eq_true rfl, fun _ _ _ _ _ => False, ?_, ?_⟩
    · exact vc_X8_isDigit_0 _ M K  hS
    · exact fun _ _ _ _ _ h => h.elim
  · exact hS.elim
def S_X6_sign : ab_PT := fun a M K => match a with
  | [.inr (.inr (.inr (o, 6, nn))), .inr (.inl i)] => (ab_ir i ∧ 0 ≤ M o 1 ∧ M o 1 ≤ ((ab_ln (o + 1) : Nat) : Int) ∧ ab_ln (o + 1) ≤ 640) ∧ (∀ r1 : Int, (r1 = if 0 ≤ i ∧ i < M o 1 then M (o + 1) i.toNat else -1) → K [Xi r1] M)
  | _ => False
set_option maxRecDepth 20000 in
theorem vc_X6_sign_0 (o : Nat) (nn : Nat) (i : Int) (M : ab_M) (K : List ab_V → ab_M → Prop) (hS : (ab_ir i ∧ 0 ≤ M o 1 ∧ M o 1 ≤ ((ab_ln (o + 1) : Nat) : Int) ∧ ab_ln (o + 1) ≤ 640) ∧ (∀ r1 : Int, (r1 = if 0 ≤ i ∧ i < M o 1 then M (o + 1) i.toNat else -1) → K [Xi r1] M)) : (ab_ir i) ∧ ((i < 0 → K [Xi (-1 : Int)] M) ∧ (0 ≤ i → (ab_ir i ∧ ab_ir (M o 1)) ∧ (((M o 1) ≤ i → K [Xi (-1 : Int)] M) ∧ (i < (M o 1) → (0 ≤ i ∧ i < (((ab_ln (o + 1)) : Nat) : Int)) ∧ K [Xi (M (o + 1) i.toNat)] M)))) := by
  repeat' first
    | (refine And.intro ?_ ?_)
    | intro _
  all_goals first
    | omega
    | exact hS.2 _ (by first | omega | (split <;> omega))
    | exact ⟨_, by omega, rfl, by omega⟩
    | exact ⟨_, rfl, by omega⟩
set_option maxRecDepth 20000 in
set_option maxHeartbeats 1000000 in
theorem ok_X6_sign (E : ab_E) : ab_Ok E 1 76 S_X6_sign := by
  refine ab_mk rq_X6_sign tk_X6_sign (rt := 1) (rfl) (cuts := []) (G := []) (fun g hg => by cases hg) (by decide) 63 rfl ?_
  intro a M K wd wa hS
  unfold S_X6_sign at hS
  split at hS
  ·
    refine ⟨Nat.le_of_ble_eq_true rfl, fun _ _ _ _ _ => False, ?_, ?_⟩
    · exact vc_X6_sign_0 _ _ _ M K  hS
    · exact fun _ _ _ _ _ h => h.elim
  · exact hS.elim
