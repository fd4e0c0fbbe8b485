/-! small reads of the class -/
def S_X8_isFlag : ab_PT := fun a M K => match a with
  | [.inr (.inl v)] => (ab_ir v) ∧ (∀ rx : Int, (rx = if v = 0 ∨ v = 1 then 1 else 0) → K [Xi rx] M)
  | _ => False
set_option maxRecDepth 20000 in
theorem vc_X8_isFlag_0 (v : Int) (M : ab_M) (K : List ab_V → ab_M → Prop) (hS : (ab_ir v) ∧ (∀ rx : Int, (rx = if v = 0 ∨ v = 1 then 1 else 0) → K [Xi rx] M)) : (ab_ir v) ∧ ((v = 0 → ((1 : Int) = 0 ∨ (1 : Int) = 1) ∧ K [Xi (1 : Int)] M) ∧ (¬ v = 0 → (ab_ir v ∧ ab_ir (1 : Int)) ∧ ((¬ v = (1 : Int) → ((0 : Int) = 0 ∨ (0 : Int) = 1) ∧ K [Xi (0 : Int)] M) ∧ (v = (1 : Int) → ((1 : Int) = 0 ∨ (1 : Int) = 1) ∧ K [Xi (1 : Int)] M)))) := by
  repeat' first
    | (refine And.intro ?_ ?_)
    | intro _
  all_goals first
    | omega
    | (simp [ab_up_a]; done)
    | (simp [ab_up_a]; omega)
    | (refine hS.2 _ ?_; first | done | (first | omega | ((repeat' split) <;> omega) | (subst_vars; (repeat' split) <;> omega)) | (first | rfl | (rw [if_pos (by omega)]; done) | (rw [if_neg (by omega)]; done) | (rw [if_pos (by omega)]; simp [ab_up_a]; done) | (rw [if_neg (by omega)]; simp [ab_up_a]; done) | (simp [ab_up_a]; done)))
    | (refine hS.2 _ _ ?_ ?_ <;> first | done | (first | omega | ((repeat' split) <;> omega) | (subst_vars; (repeat' split) <;> omega)) | (first | rfl | (rw [if_pos (by omega)]; done) | (rw [if_neg (by omega)]; done) | (rw [if_pos (by omega)]; simp [ab_up_a]; done) | (rw [if_neg (by omega)]; simp [ab_up_a]; done) | (simp [ab_up_a]; done)))
    | (refine hS.2 _ _ ?_; first | done | (first | omega | ((repeat' split) <;> omega) | (subst_vars; (repeat' split) <;> omega)) | (first | rfl | (rw [if_pos (by omega)]; done) | (rw [if_neg (by omega)]; done) | (rw [if_pos (by omega)]; simp [ab_up_a]; done) | (rw [if_neg (by omega)]; simp [ab_up_a]; done) | (simp [ab_up_a]; done)))
    | exact hS.2
    | (refine ⟨_, ?_, rfl, ?_⟩ <;> omega)
    | (refine ⟨_, rfl, ?_⟩ <;> omega)
set_option maxRecDepth 20000 in
set_option maxHeartbeats 1000000 in
theorem ok_X8_isFlag (E : ab_E) : ab_Ok E 1 93 S_X8_isFlag := by
  refine ab_mk rq_X8_isFlag tk_X8_isFlag (rt := 2) (rfl) (cuts := []) (G := []) (fun g hg => by cases hg) (by decide) 59 rfl ?_
  intro a M K wd wa hS
  unfold S_X8_isFlag at hS
  split at hS
  ·
    rename_i v
    refine ⟨Nat.le_of_ble_eq_true rfl, fun _ _ _ _ _ => False, ?_, ?_⟩
    · exact vc_X8_isFlag_0 v M K  hS
    · exact fun _ _ _ _ _ h => h.elim
  · exact hS.elim
def S_X8_isState : ab_PT := fun a M K => match a with
  | [.inr (.inl v)] => (ab_ir v) ∧ (∀ rx : Int, (rx = if 0 ≤ v ∧ v < 256 then 1 else 0) → K [Xi rx] M)
  | _ => False
set_option maxRecDepth 20000 in
theorem vc_X8_isState_0 (v : Int) (M : ab_M) (K : List ab_V → ab_M → Prop) (hS : (ab_ir v) ∧ (∀ rx : Int, (rx = if 0 ≤ v ∧ v < 256 then 1 else 0) → K [Xi rx] M)) : (ab_ir v) ∧ ((v < 0 → ((0 : Int) = 0 ∨ (0 : Int) = 1) ∧ K [Xi (0 : Int)] M) ∧ (0 ≤ v → (-32768 ≤ (256 : Int) ∧ (256 : Int) < 32768) ∧ (ab_ir v ∧ ab_ir (256 : Int)) ∧ (((256 : Int) ≤ v → ((0 : Int) = 0 ∨ (0 : Int) = 1) ∧ K [Xi (0 : Int)] M) ∧ (v < (256 : Int) → ((1 : Int) = 0 ∨ (1 : Int) = 1) ∧ K [Xi (1 : Int)] M)))) := by
  repeat' first
    | (refine And.intro ?_ ?_)
    | intro _
  all_goals first
    | omega
    | (simp [ab_up_a]; done)
    | (simp [ab_up_a]; omega)
    | (refine hS.2 _ ?_; first | done | (first | omega | ((repeat' split) <;> omega) | (subst_vars; (repeat' split) <;> omega)) | (first | rfl | (rw [if_pos (by omega)]; done) | (rw [if_neg (by omega)]; done) | (rw [if_pos (by omega)]; simp [ab_up_a]; done) | (rw [if_neg (by omega)]; simp [ab_up_a]; done) | (simp [ab_up_a]; done)))
    | (refine hS.2 _ _ ?_ ?_ <;> first | done | (first | omega | ((repeat' split) <;> omega) | (subst_vars; (repeat' split) <;> omega)) | (first | rfl | (rw [if_pos (by omega)]; done) | (rw [if_neg (by omega)]; done) | (rw [if_pos (by omega)]; simp [ab_up_a]; done) | (rw [if_neg (by omega)]; simp [ab_up_a]; done) | (simp [ab_up_a]; done)))
    | (refine hS.2 _ _ ?_; first | done | (first | omega | ((repeat' split) <;> omega) | (subst_vars; (repeat' split) <;> omega)) | (first | rfl | (rw [if_pos (by omega)]; done) | (rw [if_neg (by omega)]; done) | (rw [if_pos (by omega)]; simp [ab_up_a]; done) | (rw [if_neg (by omega)]; simp [ab_up_a]; done) | (simp [ab_up_a]; done)))
    | exact hS.2
    | (refine ⟨_, ?_, rfl, ?_⟩ <;> omega)
    | (refine ⟨_, rfl, ?_⟩ <;> omega)
set_option maxRecDepth 20000 in
set_option maxHeartbeats 1000000 in
theorem ok_X8_isState (E : ab_E) : ab_Ok E 1 95 S_X8_isState := by
  refine ab_mk rq_X8_isState tk_X8_isState (rt := 2) (rfl) (cuts := []) (G := []) (fun g hg => by cases hg) (by decide) 59 rfl ?_
  intro a M K wd wa hS
  unfold S_X8_isState at hS
  split at hS
  ·
    rename_i v
    refine ⟨Nat.le_of_ble_eq_true rfl, fun _ _ _ _ _ => False, ?_, ?_⟩
    · exact vc_X8_isState_0 v M K  hS
    · exact fun _ _ _ _ _ h => h.elim
  · exact hS.elim
def S_X8_isVariable : ab_PT := fun a M K => match a with
  | [.inr (.inl v)] => (ab_ir v) ∧ (∀ rx : Int, (rx = if 97 ≤ v ∧ v ≤ 100 then 1 else 0) → K [Xi rx] M)
  | _ => False
set_option maxRecDepth 20000 in
theorem vc_X8_isVariable_0 (v : Int) (M : ab_M) (K : List ab_V → ab_M → Prop) (hS : (ab_ir v) ∧ (∀ rx : Int, (rx = if 97 ≤ v ∧ v ≤ 100 then 1 else 0) → K [Xi rx] M)) : (-128 ≤ (97 : Int) ∧ (97 : Int) < 128) ∧ (ab_ir v ∧ ab_ir (97 : Int)) ∧ ((v < (97 : Int) → ((0 : Int) = 0 ∨ (0 : Int) = 1) ∧ K [Xi (0 : Int)] M) ∧ ((97 : Int) ≤ v → (-128 ≤ (100 : Int) ∧ (100 : Int) < 128) ∧ (ab_ir v ∧ ab_ir (100 : Int)) ∧ (((100 : Int) < v → ((0 : Int) = 0 ∨ (0 : Int) = 1) ∧ K [Xi (0 : Int)] M) ∧ (v ≤ (100 : Int) → ((1 : Int) = 0 ∨ (1 : Int) = 1) ∧ K [Xi (1 : Int)] M)))) := by
  repeat' first
    | (refine And.intro ?_ ?_)
    | intro _
  all_goals first
    | omega
    | (simp [ab_up_a]; done)
    | (simp [ab_up_a]; omega)
    | (refine hS.2 _ ?_; first | done | (first | omega | ((repeat' split) <;> omega) | (subst_vars; (repeat' split) <;> omega)) | (first | rfl | (rw [if_pos (by omega)]; done) | (rw [if_neg (by omega)]; done) | (rw [if_pos (by omega)]; simp [ab_up_a]; done) | (rw [if_neg (by omega)]; simp [ab_up_a]; done) | (simp [ab_up_a]; done)))
    | (refine hS.2 _ _ ?_ ?_ <;> first | done | (first | omega | ((repeat' split) <;> omega) | (subst_vars; (repeat' split) <;> omega)) | (first | rfl | (rw [if_pos (by omega)]; done) | (rw [if_neg (by omega)]; done) | (rw [if_pos (by omega)]; simp [ab_up_a]; done) | (rw [if_neg (by omega)]; simp [ab_up_a]; done) | (simp [ab_up_a]; done)))
    | (refine hS.2 _ _ ?_; first | done | (first | omega | ((repeat' split) <;> omega) | (subst_vars; (repeat' split) <;> omega)) | (first | rfl | (rw [if_pos (by omega)]; done) | (rw [if_neg (by omega)]; done) | (rw [if_pos (by omega)]; simp [ab_up_a]; done) | (rw [if_neg (by omega)]; simp [ab_up_a]; done) | (simp [ab_up_a]; done)))
    | exact hS.2
    | (refine ⟨_, ?_, rfl, ?_⟩ <;> omega)
    | (refine ⟨_, rfl, ?_⟩ <;> omega)
set_option maxRecDepth 20000 in
set_option maxHeartbeats 1000000 in
theorem ok_X8_isVariable (E : ab_E) : ab_Ok E 1 96 S_X8_isVariable := by
  refine ab_mk rq_X8_isVariable tk_X8_isVariable (rt := 2) (rfl) (cuts := []) (G := []) (fun g hg => by cases hg) (by decide) 60 rfl ?_
  intro a M K wd wa hS
  unfold S_X8_isVariable at hS
  split at hS
  ·
    rename_i v
    refine ⟨Nat.le_of_ble_eq_true rfl, fun _ _ _ _ _ => False, ?_, ?_⟩
    · exact vc_X8_isVariable_0 v M K  hS
    · exact fun _ _ _ _ _ h => h.elim
  · exact hS.elim
def S_X8_isDigit : ab_PT := fun a M K => match a with
  | [.inr (.inl v)] => (ab_ir v) ∧ (∀ rx : Int, (rx = if 48 ≤ v ∧ v ≤ 51 then 1 else 0) → K [Xi rx] M)
  | _ => False
set_option maxRecDepth 20000 in
theorem vc_X8_isDigit_0 (v : Int) (M : ab_M) (K : List ab_V → ab_M → Prop) (hS : (ab_ir v) ∧ (∀ rx : Int, (rx = if 48 ≤ v ∧ v ≤ 51 then 1 else 0) → K [Xi rx] M)) : (-128 ≤ (48 : Int) ∧ (48 : Int) < 128) ∧ (ab_ir v ∧ ab_ir (48 : Int)) ∧ ((v < (48 : Int) → ((0 : Int) = 0 ∨ (0 : Int) = 1) ∧ K [Xi (0 : Int)] M) ∧ ((48 : Int) ≤ v → (-128 ≤ (51 : Int) ∧ (51 : Int) < 128) ∧ (ab_ir v ∧ ab_ir (51 : Int)) ∧ (((51 : Int) < v → ((0 : Int) = 0 ∨ (0 : Int) = 1) ∧ K [Xi (0 : Int)] M) ∧ (v ≤ (51 : Int) → ((1 : Int) = 0 ∨ (1 : Int) = 1) ∧ K [Xi (1 : Int)] M)))) := by
  repeat' first
    | (refine And.intro ?_ ?_)
    | intro _
  all_goals first
    | omega
    | (simp [ab_up_a]; done)
    | (simp [ab_up_a]; omega)
    | (refine hS.2 _ ?_; first | done | (first | omega | ((repeat' split) <;> omega) | (subst_vars; (repeat' split) <;> omega)) | (first | rfl | (rw [if_pos (by omega)]; done) | (rw [if_neg (by omega)]; done) | (rw [if_pos (by omega)]; simp [ab_up_a]; done) | (rw [if_neg (by omega)]; simp [ab_up_a]; done) | (simp [ab_up_a]; done)))
    | (refine hS.2 _ _ ?_ ?_ <;> first | done | (first | omega | ((repeat' split) <;> omega) | (subst_vars; (repeat' split) <;> omega)) | (first | rfl | (rw [if_pos (by omega)]; done) | (rw [if_neg (by omega)]; done) | (rw [if_pos (by omega)]; simp [ab_up_a]; done) | (rw [if_neg (by omega)]; simp [ab_up_a]; done) | (simp [ab_up_a]; done)))
    | (refine hS.2 _ _ ?_; first | done | (first | omega | ((repeat' split) <;> omega) | (subst_vars; (repeat' split) <;> omega)) | (first | rfl | (rw [if_pos (by omega)]; done) | (rw [if_neg (by omega)]; done) | (rw [if_pos (by omega)]; simp [ab_up_a]; done) | (rw [if_neg (by omega)]; simp [ab_up_a]; done) | (simp [ab_up_a]; done)))
    | exact hS.2
    | (refine ⟨_, ?_, rfl, ?_⟩ <;> omega)
    | (refine ⟨_, rfl, ?_⟩ <;> omega)
set_option maxRecDepth 20000 in
set_option maxHeartbeats 1000000 in
theorem ok_X8_isDigit (E : ab_E) : ab_Ok E 1 92 S_X8_isDigit := by
  refine ab_mk rq_X8_isDigit tk_X8_isDigit (rt := 2) (rfl) (cuts := []) (G := []) (fun g hg => by cases hg) (by decide) 60 rfl ?_
  intro a M K wd wa hS
  unfold S_X8_isDigit at hS
  split at hS
  ·
    rename_i v
    refine ⟨Nat.le_of_ble_eq_true rfl, fun _ _ _ _ _ => False, ?_, ?_⟩
    · exact vc_X8_isDigit_0 v M K  hS
    · exact fun _ _ _ _ _ h => h.elim
  · exact hS.elim
def S_X7_oneIf : ab_PT := fun a M K => match a with
  | [.inr (.inl v)] => (v = 0 ∨ v = 1) ∧ (∀ rx : Int, (rx = v) → K [Xi rx] M)
  | _ => False
set_option maxRecDepth 20000 in
theorem vc_X7_oneIf_0 (v : Int) (M : ab_M) (K : List ab_V → ab_M → Prop) (hS : (v = 0 ∨ v = 1) ∧ (∀ rx : Int, (rx = v) → K [Xi rx] M)) : (ab_ir v) ∧ ((v = 0 → K [Xi (0 : Int)] M) ∧ (¬ v = 0 → K [Xi (1 : Int)] M)) := by
  repeat' first
    | (refine And.intro ?_ ?_)
    | intro _
  all_goals first
    | omega
    | (simp [ab_up_a]; done)
    | (simp [ab_up_a]; omega)
    | (refine hS.2 _ ?_; first | done | (first | omega | ((repeat' split) <;> omega) | (subst_vars; (repeat' split) <;> omega)) | (first | rfl | (rw [if_pos (by omega)]; done) | (rw [if_neg (by omega)]; done) | (rw [if_pos (by omega)]; simp [ab_up_a]; done) | (rw [if_neg (by omega)]; simp [ab_up_a]; done) | (simp [ab_up_a]; done)))
    | (refine hS.2 _ _ ?_ ?_ <;> first | done | (first | omega | ((repeat' split) <;> omega) | (subst_vars; (repeat' split) <;> omega)) | (first | rfl | (rw [if_pos (by omega)]; done) | (rw [if_neg (by omega)]; done) | (rw [if_pos (by omega)]; simp [ab_up_a]; done) | (rw [if_neg (by omega)]; simp [ab_up_a]; done) | (simp [ab_up_a]; done)))
    | (refine hS.2 _ _ ?_; first | done | (first | omega | ((repeat' split) <;> omega) | (subst_vars; (repeat' split) <;> omega)) | (first | rfl | (rw [if_pos (by omega)]; done) | (rw [if_neg (by omega)]; done) | (rw [if_pos (by omega)]; simp [ab_up_a]; done) | (rw [if_neg (by omega)]; simp [ab_up_a]; done) | (simp [ab_up_a]; done)))
    | exact hS.2
    | (refine ⟨_, ?_, rfl, ?_⟩ <;> omega)
    | (refine ⟨_, rfl, ?_⟩ <;> omega)
set_option maxRecDepth 20000 in
set_option maxHeartbeats 1000000 in
theorem ok_X7_oneIf (E : ab_E) : ab_Ok E 1 77 S_X7_oneIf := by
  refine ab_mk rq_X7_oneIf tk_X7_oneIf (rt := 1) (rfl) (cuts := []) (G := []) (fun g hg => by cases hg) (by decide) 56 rfl ?_
  intro a M K wd wa hS
  unfold S_X7_oneIf at hS
  split at hS
  ·
    rename_i v
    refine ⟨Nat.le_of_ble_eq_true rfl, fun _ _ _ _ _ => False, ?_, ?_⟩
    · exact vc_X7_oneIf_0 v M K  hS
    · exact fun _ _ _ _ _ h => h.elim
  · exact hS.elim
def S_X2_isBinary : ab_PT := fun a M K => match a with
  | [.inr (.inl v)] => (ab_ir v) ∧ (∀ rx : Int, (rx = if v = 43 ∨ v = 45 ∨ v = 61 ∨ v = 60 ∨ v = 38 ∨ v = 124 then 1 else 0) → K [Xi rx] M)
  | _ => False
set_option maxRecDepth 20000 in
theorem vc_X2_isBinary_0 (v : Int) (M : ab_M) (K : List ab_V → ab_M → Prop) (hS : (ab_ir v) ∧ (∀ rx : Int, (rx = if v = 43 ∨ v = 45 ∨ v = 61 ∨ v = 60 ∨ v = 38 ∨ v = 124 then 1 else 0) → K [Xi rx] M)) : (-128 ≤ (43 : Int) ∧ (43 : Int) < 128) ∧ (ab_ir v ∧ ab_ir (43 : Int)) ∧ ((v = (43 : Int) → ((1 : Int) = 0 ∨ (1 : Int) = 1) ∧ K [Xi (1 : Int)] M) ∧ (¬ v = (43 : Int) → (-128 ≤ (45 : Int) ∧ (45 : Int) < 128) ∧ (ab_ir v ∧ ab_ir (45 : Int)) ∧ ((v = (45 : Int) → ((1 : Int) = 0 ∨ (1 : Int) = 1) ∧ K [Xi (1 : Int)] M) ∧ (¬ v = (45 : Int) → (-128 ≤ (61 : Int) ∧ (61 : Int) < 128) ∧ (ab_ir v ∧ ab_ir (61 : Int)) ∧ ((v = (61 : Int) → ((1 : Int) = 0 ∨ (1 : Int) = 1) ∧ K [Xi (1 : Int)] M) ∧ (¬ v = (61 : Int) → (-128 ≤ (60 : Int) ∧ (60 : Int) < 128) ∧ (ab_ir v ∧ ab_ir (60 : Int)) ∧ ((v = (60 : Int) → ((1 : Int) = 0 ∨ (1 : Int) = 1) ∧ K [Xi (1 : Int)] M) ∧ (¬ v = (60 : Int) → (-128 ≤ (38 : Int) ∧ (38 : Int) < 128) ∧ (ab_ir v ∧ ab_ir (38 : Int)) ∧ ((v = (38 : Int) → ((1 : Int) = 0 ∨ (1 : Int) = 1) ∧ K [Xi (1 : Int)] M) ∧ (¬ v = (38 : Int) → (-128 ≤ (124 : Int) ∧ (124 : Int) < 128) ∧ (ab_ir v ∧ ab_ir (124 : Int)) ∧ ((¬ v = (124 : Int) → ((0 : Int) = 0 ∨ (0 : Int) = 1) ∧ K [Xi (0 : Int)] M) ∧ (v = (124 : Int) → ((1 : Int) = 0 ∨ (1 : Int) = 1) ∧ K [Xi (1 : Int)] M)))))))))))) := by
  repeat' first
    | (refine And.intro ?_ ?_)
    | intro _
  all_goals first
    | omega
    | (simp [ab_up_a]; done)
    | (simp [ab_up_a]; omega)
    | (refine hS.2 _ ?_; first | done | (first | omega | ((repeat' split) <;> omega) | (subst_vars; (repeat' split) <;> omega)) | (first | rfl | (rw [if_pos (by omega)]; done) | (rw [if_neg (by omega)]; done) | (rw [if_pos (by omega)]; simp [ab_up_a]; done) | (rw [if_neg (by omega)]; simp [ab_up_a]; done) | (simp [ab_up_a]; done)))
    | (refine hS.2 _ _ ?_ ?_ <;> first | done | (first | omega | ((repeat' split) <;> omega) | (subst_vars; (repeat' split) <;> omega)) | (first | rfl | (rw [if_pos (by omega)]; done) | (rw [if_neg (by omega)]; done) | (rw [if_pos (by omega)]; simp [ab_up_a]; done) | (rw [if_neg (by omega)]; simp [ab_up_a]; done) | (simp [ab_up_a]; done)))
    | (refine hS.2 _ _ ?_; first | done | (first | omega | ((repeat' split) <;> omega) | (subst_vars; (repeat' split) <;> omega)) | (first | rfl | (rw [if_pos (by omega)]; done) | (rw [if_neg (by omega)]; done) | (rw [if_pos (by omega)]; simp [ab_up_a]; done) | (rw [if_neg (by omega)]; simp [ab_up_a]; done) | (simp [ab_up_a]; done)))
    | exact hS.2
    | (refine ⟨_, ?_, rfl, ?_⟩ <;> omega)
    | (refine ⟨_, rfl, ?_⟩ <;> omega)
set_option maxRecDepth 20000 in
set_option maxHeartbeats 1000000 in
theorem ok_X2_isBinary (E : ab_E) : ab_Ok E 1 36 S_X2_isBinary := by
  refine ab_mk rq_X2_isBinary tk_X2_isBinary (rt := 2) (rfl) (cuts := []) (G := []) (fun g hg => by cases hg) (by decide) 72 rfl ?_
  intro a M K wd wa hS
  unfold S_X2_isBinary at hS
  split at hS
  ·
    rename_i v
    refine ⟨Nat.le_of_ble_eq_true rfl, fun _ _ _ _ _ => False, ?_, ?_⟩
    · exact vc_X2_isBinary_0 v M K  hS
    · exact fun _ _ _ _ _ h => h.elim
  · exact hS.elim
def S_X6_sign : ab_PT := fun a M K => match a with
  | [.inr (.inr (.inr (o, 6, nn))), .inr (.inl i)] => (ab_ir i ∧ 0 ≤ M o 1 ∧ M o 1 ≤ ((ab_ln (o + 1) : Nat) : Int) ∧ ab_ln (o + 1) ≤ 640) ∧ (∀ rx : Int, (rx = if 0 ≤ i ∧ i < M o 1 then M (o + 1) i.toNat else -1) → K [Xi rx] M)
  | _ => False
set_option maxRecDepth 20000 in
theorem vc_X6_sign_0 (o : Nat) (nn : Nat) (i : Int) (M : ab_M) (K : List ab_V → ab_M → Prop) (hS : (ab_ir i ∧ 0 ≤ M o 1 ∧ M o 1 ≤ ((ab_ln (o + 1) : Nat) : Int) ∧ ab_ln (o + 1) ≤ 640) ∧ (∀ rx : Int, (rx = if 0 ≤ i ∧ i < M o 1 then M (o + 1) i.toNat else -1) → K [Xi rx] M)) : (ab_ir i) ∧ ((i < 0 → K [Xi (-1 : Int)] M) ∧ (0 ≤ i → (ab_ir i ∧ ab_ir (M o 1)) ∧ (((M o 1) ≤ i → K [Xi (-1 : Int)] M) ∧ (i < (M o 1) → (0 ≤ i ∧ i < (((ab_ln (o + 1)) : Nat) : Int)) ∧ K [Xi (M (o + 1) i.toNat)] M)))) := by
  repeat' first
    | (refine And.intro ?_ ?_)
    | intro _
  all_goals first
    | omega
    | (simp [ab_up_a]; done)
    | (simp [ab_up_a]; omega)
    | (refine hS.2 _ ?_; first | done | (first | omega | ((repeat' split) <;> omega) | (subst_vars; (repeat' split) <;> omega)) | (first | rfl | (rw [if_pos (by omega)]; done) | (rw [if_neg (by omega)]; done) | (rw [if_pos (by omega)]; simp [ab_up_a]; done) | (rw [if_neg (by omega)]; simp [ab_up_a]; done) | (simp [ab_up_a]; done)))
    | (refine hS.2 _ _ ?_ ?_ <;> first | done | (first | omega | ((repeat' split) <;> omega) | (subst_vars; (repeat' split) <;> omega)) | (first | rfl | (rw [if_pos (by omega)]; done) | (rw [if_neg (by omega)]; done) | (rw [if_pos (by omega)]; simp [ab_up_a]; done) | (rw [if_neg (by omega)]; simp [ab_up_a]; done) | (simp [ab_up_a]; done)))
    | (refine hS.2 _ _ ?_; first | done | (first | omega | ((repeat' split) <;> omega) | (subst_vars; (repeat' split) <;> omega)) | (first | rfl | (rw [if_pos (by omega)]; done) | (rw [if_neg (by omega)]; done) | (rw [if_pos (by omega)]; simp [ab_up_a]; done) | (rw [if_neg (by omega)]; simp [ab_up_a]; done) | (simp [ab_up_a]; done)))
    | exact hS.2
    | (refine ⟨_, ?_, rfl, ?_⟩ <;> omega)
    | (refine ⟨_, rfl, ?_⟩ <;> omega)
set_option maxRecDepth 20000 in
set_option maxHeartbeats 1000000 in
theorem ok_X6_sign (E : ab_E) : ab_Ok E 1 70 S_X6_sign := by
  refine ab_mk rq_X6_sign tk_X6_sign (rt := 1) (rfl) (cuts := []) (G := []) (fun g hg => by cases hg) (by decide) 63 rfl ?_
  intro a M K wd wa hS
  unfold S_X6_sign at hS
  split at hS
  ·
    rename_i o nn i
    refine ⟨Nat.le_of_ble_eq_true rfl, fun _ _ _ _ _ => False, ?_, ?_⟩
    · exact vc_X6_sign_0 o nn i M K  hS
    · exact fun _ _ _ _ _ h => h.elim
  · exact hS.elim
def S_X6_add : ab_PT := fun a M K => match a with
  | [.inr (.inr (.inr (o, 6, nn))), .inr (.inl z)] => (0 ≤ z ∧ z < 65536 ∧ 0 ≤ M o 1 ∧ ab_ln (o + 1) ≤ 640 ∧ M o 1 ≤ 640) ∧ (∀ rx : Int, ∀ Mx : ab_M, (Mx = if M o 1 < ((ab_ln (o + 1) : Nat) : Int) then ab_up (ab_up M (o + 1) (M o 1).toNat z) o 1 (M o 1 + 1) else M) → (rx = (if M o 1 < ((ab_ln (o + 1) : Nat) : Int) then 1 else 0)) → K [Xi rx] Mx)
  | _ => False
set_option maxRecDepth 20000 in
theorem vc_X6_add_0 (o : Nat) (nn : Nat) (z : Int) (M : ab_M) (K : List ab_V → ab_M → Prop) (hS : (0 ≤ z ∧ z < 65536 ∧ 0 ≤ M o 1 ∧ ab_ln (o + 1) ≤ 640 ∧ M o 1 ≤ 640) ∧ (∀ rx : Int, ∀ Mx : ab_M, (Mx = if M o 1 < ((ab_ln (o + 1) : Nat) : Int) then ab_up (ab_up M (o + 1) (M o 1).toNat z) o 1 (M o 1 + 1) else M) → (rx = (if M o 1 < ((ab_ln (o + 1) : Nat) : Int) then 1 else 0)) → K [Xi rx] Mx)) : (ab_ir (M o 1) ∧ ab_ir (((ab_ln (o + 1)) : Nat) : Int)) ∧ (((M o 1) < (((ab_ln (o + 1)) : Nat) : Int) → (0 ≤ z ∧ z < 65536) ∧ ((0 ≤ (M o 1) ∧ (M o 1) < (((ab_ln (o + 1)) : Nat) : Int)) ∧ 0 ≤ z ∧ z < 65536) ∧ ((1 : Int) = 0 ∨ (1 : Int) = 1) ∧ K [Xi (1 : Int)] (ab_up (ab_up M (o + 1) ((M o 1).toNat) z) o 1 (((ab_up M (o + 1) ((M o 1).toNat) z) o 1) + (1 : Int)))) ∧ ((((ab_ln (o + 1)) : Nat) : Int) ≤ (M o 1) → ((0 : Int) = 0 ∨ (0 : Int) = 1) ∧ K [Xi (0 : Int)] M)) := by
  repeat' first
    | (refine And.intro ?_ ?_)
    | intro _
  all_goals first
    | omega
    | (simp [ab_up_a]; done)
    | (simp [ab_up_a]; omega)
    | (refine hS.2 _ ?_; first | done | (first | omega | ((repeat' split) <;> omega) | (subst_vars; (repeat' split) <;> omega)) | (first | rfl | (rw [if_pos (by omega)]; done) | (rw [if_neg (by omega)]; done) | (rw [if_pos (by omega)]; simp [ab_up_a]; done) | (rw [if_neg (by omega)]; simp [ab_up_a]; done) | (simp [ab_up_a]; done)))
    | (refine hS.2 _ _ ?_ ?_ <;> first | done | (first | omega | ((repeat' split) <;> omega) | (subst_vars; (repeat' split) <;> omega)) | (first | rfl | (rw [if_pos (by omega)]; done) | (rw [if_neg (by omega)]; done) | (rw [if_pos (by omega)]; simp [ab_up_a]; done) | (rw [if_neg (by omega)]; simp [ab_up_a]; done) | (simp [ab_up_a]; done)))
    | (refine hS.2 _ _ ?_; first | done | (first | omega | ((repeat' split) <;> omega) | (subst_vars; (repeat' split) <;> omega)) | (first | rfl | (rw [if_pos (by omega)]; done) | (rw [if_neg (by omega)]; done) | (rw [if_pos (by omega)]; simp [ab_up_a]; done) | (rw [if_neg (by omega)]; simp [ab_up_a]; done) | (simp [ab_up_a]; done)))
    | exact hS.2
    | (refine ⟨_, ?_, rfl, ?_⟩ <;> omega)
    | (refine ⟨_, rfl, ?_⟩ <;> omega)
set_option maxRecDepth 20000 in
set_option maxHeartbeats 1000000 in
theorem ok_X6_add (E : ab_E) : ab_Ok E 1 67 S_X6_add := by
  refine ab_mk rq_X6_add tk_X6_add (rt := 2) (rfl) (cuts := []) (G := []) (fun g hg => by cases hg) (by decide) 73 rfl ?_
  intro a M K wd wa hS
  unfold S_X6_add at hS
  split at hS
  ·
    rename_i o nn z
    refine ⟨Nat.le_of_ble_eq_true rfl, fun _ _ _ _ _ => False, ?_, ?_⟩
    · exact vc_X6_add_0 o nn z M K  hS
    · exact fun _ _ _ _ _ h => h.elim
  · exact hS.elim
def S_X4_isLoop : ab_PT := fun a M K => match a with
  | [.inr (.inr (.inr (o, 4, nn)))] => (ab_ir (M o 0)) ∧ (∀ rx : Int, (rx = if M o 0 = 119 then 1 else 0) → K [Xi rx] M)
  | _ => False
set_option maxRecDepth 20000 in
theorem vc_X4_isLoop_0 (o : Nat) (nn : Nat) (M : ab_M) (K : List ab_V → ab_M → Prop) (hS : (ab_ir (M o 0)) ∧ (∀ rx : Int, (rx = if M o 0 = 119 then 1 else 0) → K [Xi rx] M)) : (-128 ≤ (119 : Int) ∧ (119 : Int) < 128) ∧ (ab_ir (M o 0) ∧ ab_ir (119 : Int)) ∧ ((¬ (M o 0) = (119 : Int) → ((0 : Int) = 0 ∨ (0 : Int) = 1) ∧ K [Xi (0 : Int)] M) ∧ ((M o 0) = (119 : Int) → ((1 : Int) = 0 ∨ (1 : Int) = 1) ∧ K [Xi (1 : Int)] M)) := by
  repeat' first
    | (refine And.intro ?_ ?_)
    | intro _
  all_goals first
    | omega
    | (simp [ab_up_a]; done)
    | (simp [ab_up_a]; omega)
    | (refine hS.2 _ ?_; first | done | (first | omega | ((repeat' split) <;> omega) | (subst_vars; (repeat' split) <;> omega)) | (first | rfl | (rw [if_pos (by omega)]; done) | (rw [if_neg (by omega)]; done) | (rw [if_pos (by omega)]; simp [ab_up_a]; done) | (rw [if_neg (by omega)]; simp [ab_up_a]; done) | (simp [ab_up_a]; done)))
    | (refine hS.2 _ _ ?_ ?_ <;> first | done | (first | omega | ((repeat' split) <;> omega) | (subst_vars; (repeat' split) <;> omega)) | (first | rfl | (rw [if_pos (by omega)]; done) | (rw [if_neg (by omega)]; done) | (rw [if_pos (by omega)]; simp [ab_up_a]; done) | (rw [if_neg (by omega)]; simp [ab_up_a]; done) | (simp [ab_up_a]; done)))
    | (refine hS.2 _ _ ?_; first | done | (first | omega | ((repeat' split) <;> omega) | (subst_vars; (repeat' split) <;> omega)) | (first | rfl | (rw [if_pos (by omega)]; done) | (rw [if_neg (by omega)]; done) | (rw [if_pos (by omega)]; simp [ab_up_a]; done) | (rw [if_neg (by omega)]; simp [ab_up_a]; done) | (simp [ab_up_a]; done)))
    | exact hS.2
    | (refine ⟨_, ?_, rfl, ?_⟩ <;> omega)
    | (refine ⟨_, rfl, ?_⟩ <;> omega)
set_option maxRecDepth 20000 in
set_option maxHeartbeats 1000000 in
theorem ok_X4_isLoop (E : ab_E) : ab_Ok E 1 56 S_X4_isLoop := by
  refine ab_mk rq_X4_isLoop tk_X4_isLoop (rt := 2) (rfl) (cuts := []) (G := []) (fun g hg => by cases hg) (by decide) 58 rfl ?_
  intro a M K wd wa hS
  unfold S_X4_isLoop at hS
  split at hS
  ·
    rename_i o nn
    refine ⟨Nat.le_of_ble_eq_true rfl, fun _ _ _ _ _ => False, ?_, ?_⟩
    · exact vc_X4_isLoop_0 o nn M K  hS
    · exact fun _ _ _ _ _ h => h.elim
  · exact hS.elim
def S_X4_hasTwoBlocks : ab_PT := fun a M K => match a with
  | [.inr (.inr (.inr (o, 4, nn)))] => (ab_ir (M o 0)) ∧ (∀ rx : Int, (rx = if M o 0 = 105 ∨ M o 0 = 121 then 1 else 0) → K [Xi rx] M)
  | _ => False
set_option maxRecDepth 20000 in
theorem vc_X4_hasTwoBlocks_0 (o : Nat) (nn : Nat) (M : ab_M) (K : List ab_V → ab_M → Prop) (hS : (ab_ir (M o 0)) ∧ (∀ rx : Int, (rx = if M o 0 = 105 ∨ M o 0 = 121 then 1 else 0) → K [Xi rx] M)) : (-128 ≤ (105 : Int) ∧ (105 : Int) < 128) ∧ (ab_ir (M o 0) ∧ ab_ir (105 : Int)) ∧ (((M o 0) = (105 : Int) → ((1 : Int) = 0 ∨ (1 : Int) = 1) ∧ K [Xi (1 : Int)] M) ∧ (¬ (M o 0) = (105 : Int) → (-128 ≤ (121 : Int) ∧ (121 : Int) < 128) ∧ (ab_ir (M o 0) ∧ ab_ir (121 : Int)) ∧ ((¬ (M o 0) = (121 : Int) → ((0 : Int) = 0 ∨ (0 : Int) = 1) ∧ K [Xi (0 : Int)] M) ∧ ((M o 0) = (121 : Int) → ((1 : Int) = 0 ∨ (1 : Int) = 1) ∧ K [Xi (1 : Int)] M)))) := by
  repeat' first
    | (refine And.intro ?_ ?_)
    | intro _
  all_goals first
    | omega
    | (simp [ab_up_a]; done)
    | (simp [ab_up_a]; omega)
    | (refine hS.2 _ ?_; first | done | (first | omega | ((repeat' split) <;> omega) | (subst_vars; (repeat' split) <;> omega)) | (first | rfl | (rw [if_pos (by omega)]; done) | (rw [if_neg (by omega)]; done) | (rw [if_pos (by omega)]; simp [ab_up_a]; done) | (rw [if_neg (by omega)]; simp [ab_up_a]; done) | (simp [ab_up_a]; done)))
    | (refine hS.2 _ _ ?_ ?_ <;> first | done | (first | omega | ((repeat' split) <;> omega) | (subst_vars; (repeat' split) <;> omega)) | (first | rfl | (rw [if_pos (by omega)]; done) | (rw [if_neg (by omega)]; done) | (rw [if_pos (by omega)]; simp [ab_up_a]; done) | (rw [if_neg (by omega)]; simp [ab_up_a]; done) | (simp [ab_up_a]; done)))
    | (refine hS.2 _ _ ?_; first | done | (first | omega | ((repeat' split) <;> omega) | (subst_vars; (repeat' split) <;> omega)) | (first | rfl | (rw [if_pos (by omega)]; done) | (rw [if_neg (by omega)]; done) | (rw [if_pos (by omega)]; simp [ab_up_a]; done) | (rw [if_neg (by omega)]; simp [ab_up_a]; done) | (simp [ab_up_a]; done)))
    | exact hS.2
    | (refine ⟨_, ?_, rfl, ?_⟩ <;> omega)
    | (refine ⟨_, rfl, ?_⟩ <;> omega)
set_option maxRecDepth 20000 in
set_option maxHeartbeats 1000000 in
theorem ok_X4_hasTwoBlocks (E : ab_E) : ab_Ok E 1 55 S_X4_hasTwoBlocks := by
  refine ab_mk rq_X4_hasTwoBlocks tk_X4_hasTwoBlocks (rt := 2) (rfl) (cuts := []) (G := []) (fun g hg => by cases hg) (by decide) 62 rfl ?_
  intro a M K wd wa hS
  unfold S_X4_hasTwoBlocks at hS
  split at hS
  ·
    rename_i o nn
    refine ⟨Nat.le_of_ble_eq_true rfl, fun _ _ _ _ _ => False, ?_, ?_⟩
    · exact vc_X4_hasTwoBlocks_0 o nn M K  hS
    · exact fun _ _ _ _ _ h => h.elim
  · exact hS.elim
def S_X1_at : ab_PT := fun a M K => match a with
  | [.inr (.inr (.inr (p, 1, nn))), .inr (.inl row)] => (ab_ir row ∧ 0 ≤ M p 3 ∧ M p 3 ≤ 120) ∧ (∀ ox : Nat, (ox = if 0 ≤ row ∧ row < M p 3 then p + 1 + 1 + 3 * row.toNat else p + 362) → K [Xr ox 4 0] M)
  | _ => False
set_option maxRecDepth 20000 in
theorem vc_X1_at_0 (p : Nat) (nn : Nat) (row : Int) (M : ab_M) (K : List ab_V → ab_M → Prop) (hS : (ab_ir row ∧ 0 ≤ M p 3 ∧ M p 3 ≤ 120) ∧ (∀ ox : Nat, (ox = if 0 ≤ row ∧ row < M p 3 then p + 1 + 1 + 3 * row.toNat else p + 362) → K [Xr ox 4 0] M)) : (ab_ir row) ∧ ((row < 0 → K [Xr (p + 362) 4 0] M) ∧ (0 ≤ row → (ab_ir row ∧ ab_ir (M p 3)) ∧ (((M p 3) ≤ row → K [Xr (p + 362) 4 0] M) ∧ (row < (M p 3) → (0 ≤ row ∧ row < ((120 : Nat) : Int)) ∧ K [Xr (p + 1 + 1 + 3 * row.toNat) 4 0] M)))) := by
  repeat' first
    | (refine And.intro ?_ ?_)
    | intro _
  all_goals first
    | omega
    | (simp [ab_up_a]; done)
    | (simp [ab_up_a]; omega)
    | (refine hS.2 _ ?_; first | done | (first | omega | ((repeat' split) <;> omega) | (subst_vars; (repeat' split) <;> omega)) | (first | rfl | (rw [if_pos (by omega)]; done) | (rw [if_neg (by omega)]; done) | (rw [if_pos (by omega)]; simp [ab_up_a]; done) | (rw [if_neg (by omega)]; simp [ab_up_a]; done) | (simp [ab_up_a]; done)))
    | (refine hS.2 _ _ ?_ ?_ <;> first | done | (first | omega | ((repeat' split) <;> omega) | (subst_vars; (repeat' split) <;> omega)) | (first | rfl | (rw [if_pos (by omega)]; done) | (rw [if_neg (by omega)]; done) | (rw [if_pos (by omega)]; simp [ab_up_a]; done) | (rw [if_neg (by omega)]; simp [ab_up_a]; done) | (simp [ab_up_a]; done)))
    | (refine hS.2 _ _ ?_; first | done | (first | omega | ((repeat' split) <;> omega) | (subst_vars; (repeat' split) <;> omega)) | (first | rfl | (rw [if_pos (by omega)]; done) | (rw [if_neg (by omega)]; done) | (rw [if_pos (by omega)]; simp [ab_up_a]; done) | (rw [if_neg (by omega)]; simp [ab_up_a]; done) | (simp [ab_up_a]; done)))
    | exact hS.2
    | (refine ⟨_, ?_, rfl, ?_⟩ <;> omega)
    | (refine ⟨_, rfl, ?_⟩ <;> omega)
set_option maxRecDepth 20000 in
set_option maxHeartbeats 1000000 in
theorem ok_X1_at (E : ab_E) : ab_Ok E 1 16 S_X1_at := by
  refine ab_mk rq_X1_at tk_X1_at (rt := 4) (⟨_, rfl⟩) (cuts := []) (G := []) (fun g hg => by cases hg) (by decide) 64 rfl ?_
  intro a M K wd wa hS
  unfold S_X1_at at hS
  split at hS
  ·
    rename_i p nn row
    refine ⟨Nat.le_of_ble_eq_true rfl, fun _ _ _ _ _ => False, ?_, ?_⟩
    · exact vc_X1_at_0 p nn row M K  hS
    · exact fun _ _ _ _ _ h => h.elim
  · exact hS.elim
def S_X1_hasCheck : ab_PT := fun a M K => match a with
  | [.inr (.inr (.inr (p, 1, nn))), .inr (.inl c)] => (ab_ir c ∧ ab_ir (M p 6)) ∧ (∀ rx : Int, (rx = if 0 ≤ c ∧ c < M p 6 then 1 else 0) → K [Xi rx] M)
  | _ => False
set_option maxRecDepth 20000 in
theorem vc_X1_hasCheck_0 (p : Nat) (nn : Nat) (c : Int) (M : ab_M) (K : List ab_V → ab_M → Prop) (hS : (ab_ir c ∧ ab_ir (M p 6)) ∧ (∀ rx : Int, (rx = if 0 ≤ c ∧ c < M p 6 then 1 else 0) → K [Xi rx] M)) : (ab_ir c) ∧ ((c < 0 → ((0 : Int) = 0 ∨ (0 : Int) = 1) ∧ K [Xi (0 : Int)] M) ∧ (0 ≤ c → (ab_ir c ∧ ab_ir (M p 6)) ∧ (((M p 6) ≤ c → ((0 : Int) = 0 ∨ (0 : Int) = 1) ∧ K [Xi (0 : Int)] M) ∧ (c < (M p 6) → ((1 : Int) = 0 ∨ (1 : Int) = 1) ∧ K [Xi (1 : Int)] M)))) := by
  repeat' first
    | (refine And.intro ?_ ?_)
    | intro _
  all_goals first
    | omega
    | (simp [ab_up_a]; done)
    | (simp [ab_up_a]; omega)
    | (refine hS.2 _ ?_; first | done | (first | omega | ((repeat' split) <;> omega) | (subst_vars; (repeat' split) <;> omega)) | (first | rfl | (rw [if_pos (by omega)]; done) | (rw [if_neg (by omega)]; done) | (rw [if_pos (by omega)]; simp [ab_up_a]; done) | (rw [if_neg (by omega)]; simp [ab_up_a]; done) | (simp [ab_up_a]; done)))
    | (refine hS.2 _ _ ?_ ?_ <;> first | done | (first | omega | ((repeat' split) <;> omega) | (subst_vars; (repeat' split) <;> omega)) | (first | rfl | (rw [if_pos (by omega)]; done) | (rw [if_neg (by omega)]; done) | (rw [if_pos (by omega)]; simp [ab_up_a]; done) | (rw [if_neg (by omega)]; simp [ab_up_a]; done) | (simp [ab_up_a]; done)))
    | (refine hS.2 _ _ ?_; first | done | (first | omega | ((repeat' split) <;> omega) | (subst_vars; (repeat' split) <;> omega)) | (first | rfl | (rw [if_pos (by omega)]; done) | (rw [if_neg (by omega)]; done) | (rw [if_pos (by omega)]; simp [ab_up_a]; done) | (rw [if_neg (by omega)]; simp [ab_up_a]; done) | (simp [ab_up_a]; done)))
    | exact hS.2
    | (refine ⟨_, ?_, rfl, ?_⟩ <;> omega)
    | (refine ⟨_, rfl, ?_⟩ <;> omega)
set_option maxRecDepth 20000 in
set_option maxHeartbeats 1000000 in
theorem ok_X1_hasCheck (E : ab_E) : ab_Ok E 1 18 S_X1_hasCheck := by
  refine ab_mk rq_X1_hasCheck tk_X1_hasCheck (rt := 2) (rfl) (cuts := []) (G := []) (fun g hg => by cases hg) (by decide) 60 rfl ?_
  intro a M K wd wa hS
  unfold S_X1_hasCheck at hS
  split at hS
  ·
    rename_i p nn c
    refine ⟨Nat.le_of_ble_eq_true rfl, fun _ _ _ _ _ => False, ?_, ?_⟩
    · exact vc_X1_hasCheck_0 p nn c M K  hS
    · exact fun _ _ _ _ _ h => h.elim
  · exact hS.elim
def S_X1_hasLoop : ab_PT := fun a M K => match a with
  | [.inr (.inr (.inr (p, 1, nn))), .inr (.inl c)] => (ab_ir c ∧ ab_ir (M p 8)) ∧ (∀ rx : Int, (rx = if 0 ≤ c ∧ c < M p 8 then 1 else 0) → K [Xi rx] M)
  | _ => False
set_option maxRecDepth 20000 in
theorem vc_X1_hasLoop_0 (p : Nat) (nn : Nat) (c : Int) (M : ab_M) (K : List ab_V → ab_M → Prop) (hS : (ab_ir c ∧ ab_ir (M p 8)) ∧ (∀ rx : Int, (rx = if 0 ≤ c ∧ c < M p 8 then 1 else 0) → K [Xi rx] M)) : (ab_ir c) ∧ ((c < 0 → ((0 : Int) = 0 ∨ (0 : Int) = 1) ∧ K [Xi (0 : Int)] M) ∧ (0 ≤ c → (ab_ir c ∧ ab_ir (M p 8)) ∧ (((M p 8) ≤ c → ((0 : Int) = 0 ∨ (0 : Int) = 1) ∧ K [Xi (0 : Int)] M) ∧ (c < (M p 8) → ((1 : Int) = 0 ∨ (1 : Int) = 1) ∧ K [Xi (1 : Int)] M)))) := by
  repeat' first
    | (refine And.intro ?_ ?_)
    | intro _
  all_goals first
    | omega
    | (simp [ab_up_a]; done)
    | (simp [ab_up_a]; omega)
    | (refine hS.2 _ ?_; first | done | (first | omega | ((repeat' split) <;> omega) | (subst_vars; (repeat' split) <;> omega)) | (first | rfl | (rw [if_pos (by omega)]; done) | (rw [if_neg (by omega)]; done) | (rw [if_pos (by omega)]; simp [ab_up_a]; done) | (rw [if_neg (by omega)]; simp [ab_up_a]; done) | (simp [ab_up_a]; done)))
    | (refine hS.2 _ _ ?_ ?_ <;> first | done | (first | omega | ((repeat' split) <;> omega) | (subst_vars; (repeat' split) <;> omega)) | (first | rfl | (rw [if_pos (by omega)]; done) | (rw [if_neg (by omega)]; done) | (rw [if_pos (by omega)]; simp [ab_up_a]; done) | (rw [if_neg (by omega)]; simp [ab_up_a]; done) | (simp [ab_up_a]; done)))
    | (refine hS.2 _ _ ?_; first | done | (first | omega | ((repeat' split) <;> omega) | (subst_vars; (repeat' split) <;> omega)) | (first | rfl | (rw [if_pos (by omega)]; done) | (rw [if_neg (by omega)]; done) | (rw [if_pos (by omega)]; simp [ab_up_a]; done) | (rw [if_neg (by omega)]; simp [ab_up_a]; done) | (simp [ab_up_a]; done)))
    | exact hS.2
    | (refine ⟨_, ?_, rfl, ?_⟩ <;> omega)
    | (refine ⟨_, rfl, ?_⟩ <;> omega)
set_option maxRecDepth 20000 in
set_option maxHeartbeats 1000000 in
theorem ok_X1_hasLoop (E : ab_E) : ab_Ok E 1 19 S_X1_hasLoop := by
  refine ab_mk rq_X1_hasLoop tk_X1_hasLoop (rt := 2) (rfl) (cuts := []) (G := []) (fun g hg => by cases hg) (by decide) 60 rfl ?_
  intro a M K wd wa hS
  unfold S_X1_hasLoop at hS
  split at hS
  ·
    rename_i p nn c
    refine ⟨Nat.le_of_ble_eq_true rfl, fun _ _ _ _ _ => False, ?_, ?_⟩
    · exact vc_X1_hasLoop_0 p nn c M K  hS
    · exact fun _ _ _ _ _ h => h.elim
  · exact hS.elim
def S_X1_loopRow : ab_PT := fun a M K => match a with
  | [.inr (.inr (.inr (p, 1, nn))), .inr (.inl c)] => (ab_ir c ∧ M p 8 ≤ 4 ∧ 0 ≤ M p 8) ∧ (∀ rx : Int, (rx = if 0 ≤ c ∧ c < M p 8 then M (p + 366) c.toNat else -1) → K [Xi rx] M)
  | _ => False
set_option maxRecDepth 20000 in
theorem vc_X1_loopRow_0 (p : Nat) (nn : Nat) (c : Int) (M : ab_M) (K : List ab_V → ab_M → Prop) (hS : (ab_ir c ∧ M p 8 ≤ 4 ∧ 0 ≤ M p 8) ∧ (∀ rx : Int, (rx = if 0 ≤ c ∧ c < M p 8 then M (p + 366) c.toNat else -1) → K [Xi rx] M)) : (ab_ir c) ∧ ((c < 0 → K [Xi (-1 : Int)] M) ∧ (0 ≤ c → (ab_ir c ∧ ab_ir (M p 8)) ∧ (((M p 8) ≤ c → K [Xi (-1 : Int)] M) ∧ (c < (M p 8) → (0 ≤ c ∧ c < ((4 : Nat) : Int)) ∧ K [Xi (M (p + 366) c.toNat)] M)))) := by
  repeat' first
    | (refine And.intro ?_ ?_)
    | intro _
  all_goals first
    | omega
    | (simp [ab_up_a]; done)
    | (simp [ab_up_a]; omega)
    | (refine hS.2 _ ?_; first | done | (first | omega | ((repeat' split) <;> omega) | (subst_vars; (repeat' split) <;> omega)) | (first | rfl | (rw [if_pos (by omega)]; done) | (rw [if_neg (by omega)]; done) | (rw [if_pos (by omega)]; simp [ab_up_a]; done) | (rw [if_neg (by omega)]; simp [ab_up_a]; done) | (simp [ab_up_a]; done)))
    | (refine hS.2 _ _ ?_ ?_ <;> first | done | (first | omega | ((repeat' split) <;> omega) | (subst_vars; (repeat' split) <;> omega)) | (first | rfl | (rw [if_pos (by omega)]; done) | (rw [if_neg (by omega)]; done) | (rw [if_pos (by omega)]; simp [ab_up_a]; done) | (rw [if_neg (by omega)]; simp [ab_up_a]; done) | (simp [ab_up_a]; done)))
    | (refine hS.2 _ _ ?_; first | done | (first | omega | ((repeat' split) <;> omega) | (subst_vars; (repeat' split) <;> omega)) | (first | rfl | (rw [if_pos (by omega)]; done) | (rw [if_neg (by omega)]; done) | (rw [if_pos (by omega)]; simp [ab_up_a]; done) | (rw [if_neg (by omega)]; simp [ab_up_a]; done) | (simp [ab_up_a]; done)))
    | exact hS.2
    | (refine ⟨_, ?_, rfl, ?_⟩ <;> omega)
    | (refine ⟨_, rfl, ?_⟩ <;> omega)
set_option maxRecDepth 20000 in
set_option maxHeartbeats 1000000 in
theorem ok_X1_loopRow (E : ab_E) : ab_Ok E 1 23 S_X1_loopRow := by
  refine ab_mk rq_X1_loopRow tk_X1_loopRow (rt := 1) (rfl) (cuts := []) (G := []) (fun g hg => by cases hg) (by decide) 63 rfl ?_
  intro a M K wd wa hS
  unfold S_X1_loopRow at hS
  split at hS
  ·
    rename_i p nn c
    refine ⟨Nat.le_of_ble_eq_true rfl, fun _ _ _ _ _ => False, ?_, ?_⟩
    · exact vc_X1_loopRow_0 p nn c M K  hS
    · exact fun _ _ _ _ _ h => h.elim
  · exact hS.elim
def S_X1_termBegin : ab_PT := fun a M K => match a with
  | [.inr (.inr (.inr (p, 1, nn))), .inr (.inl c)] => (ab_ir c ∧ M p 11 ≤ 64 ∧ 0 ≤ M p 11) ∧ (∀ rx : Int, (rx = if 0 ≤ c ∧ c < M p 11 then M (p + 367) c.toNat else 0) → K [Xi rx] M)
  | _ => False
set_option maxRecDepth 20000 in
theorem vc_X1_termBegin_0 (p : Nat) (nn : Nat) (c : Int) (M : ab_M) (K : List ab_V → ab_M → Prop) (hS : (ab_ir c ∧ M p 11 ≤ 64 ∧ 0 ≤ M p 11) ∧ (∀ rx : Int, (rx = if 0 ≤ c ∧ c < M p 11 then M (p + 367) c.toNat else 0) → K [Xi rx] M)) : (ab_ir c) ∧ ((c < 0 → K [Xi (0 : Int)] M) ∧ (0 ≤ c → (ab_ir c ∧ ab_ir (M p 11)) ∧ (((M p 11) ≤ c → K [Xi (0 : Int)] M) ∧ (c < (M p 11) → (0 ≤ c ∧ c < ((64 : Nat) : Int)) ∧ K [Xi (M (p + 367) c.toNat)] M)))) := by
  repeat' first
    | (refine And.intro ?_ ?_)
    | intro _
  all_goals first
    | omega
    | (simp [ab_up_a]; done)
    | (simp [ab_up_a]; omega)
    | (refine hS.2 _ ?_; first | done | (first | omega | ((repeat' split) <;> omega) | (subst_vars; (repeat' split) <;> omega)) | (first | rfl | (rw [if_pos (by omega)]; done) | (rw [if_neg (by omega)]; done) | (rw [if_pos (by omega)]; simp [ab_up_a]; done) | (rw [if_neg (by omega)]; simp [ab_up_a]; done) | (simp [ab_up_a]; done)))
    | (refine hS.2 _ _ ?_ ?_ <;> first | done | (first | omega | ((repeat' split) <;> omega) | (subst_vars; (repeat' split) <;> omega)) | (first | rfl | (rw [if_pos (by omega)]; done) | (rw [if_neg (by omega)]; done) | (rw [if_pos (by omega)]; simp [ab_up_a]; done) | (rw [if_neg (by omega)]; simp [ab_up_a]; done) | (simp [ab_up_a]; done)))
    | (refine hS.2 _ _ ?_; first | done | (first | omega | ((repeat' split) <;> omega) | (subst_vars; (repeat' split) <;> omega)) | (first | rfl | (rw [if_pos (by omega)]; done) | (rw [if_neg (by omega)]; done) | (rw [if_pos (by omega)]; simp [ab_up_a]; done) | (rw [if_neg (by omega)]; simp [ab_up_a]; done) | (simp [ab_up_a]; done)))
    | exact hS.2
    | (refine ⟨_, ?_, rfl, ?_⟩ <;> omega)
    | (refine ⟨_, rfl, ?_⟩ <;> omega)
set_option maxRecDepth 20000 in
set_option maxHeartbeats 1000000 in
theorem ok_X1_termBegin (E : ab_E) : ab_Ok E 1 29 S_X1_termBegin := by
  refine ab_mk rq_X1_termBegin tk_X1_termBegin (rt := 1) (rfl) (cuts := []) (G := []) (fun g hg => by cases hg) (by decide) 63 rfl ?_
  intro a M K wd wa hS
  unfold S_X1_termBegin at hS
  split at hS
  ·
    rename_i p nn c
    refine ⟨Nat.le_of_ble_eq_true rfl, fun _ _ _ _ _ => False, ?_, ?_⟩
    · exact vc_X1_termBegin_0 p nn c M K  hS
    · exact fun _ _ _ _ _ h => h.elim
  · exact hS.elim
def S_X1_termLength : ab_PT := fun a M K => match a with
  | [.inr (.inr (.inr (p, 1, nn))), .inr (.inl c)] => (ab_ir c ∧ M p 11 ≤ 64 ∧ 0 ≤ M p 11) ∧ (∀ rx : Int, (rx = if 0 ≤ c ∧ c < M p 11 then M (p + 368) c.toNat else 0) → K [Xi rx] M)
  | _ => False
set_option maxRecDepth 20000 in
theorem vc_X1_termLength_0 (p : Nat) (nn : Nat) (c : Int) (M : ab_M) (K : List ab_V → ab_M → Prop) (hS : (ab_ir c ∧ M p 11 ≤ 64 ∧ 0 ≤ M p 11) ∧ (∀ rx : Int, (rx = if 0 ≤ c ∧ c < M p 11 then M (p + 368) c.toNat else 0) → K [Xi rx] M)) : (ab_ir c) ∧ ((c < 0 → K [Xi (0 : Int)] M) ∧ (0 ≤ c → (ab_ir c ∧ ab_ir (M p 11)) ∧ (((M p 11) ≤ c → K [Xi (0 : Int)] M) ∧ (c < (M p 11) → (0 ≤ c ∧ c < ((64 : Nat) : Int)) ∧ K [Xi (M (p + 368) c.toNat)] M)))) := by
  repeat' first
    | (refine And.intro ?_ ?_)
    | intro _
  all_goals first
    | omega
    | (simp [ab_up_a]; done)
    | (simp [ab_up_a]; omega)
    | (refine hS.2 _ ?_; first | done | (first | omega | ((repeat' split) <;> omega) | (subst_vars; (repeat' split) <;> omega)) | (first | rfl | (rw [if_pos (by omega)]; done) | (rw [if_neg (by omega)]; done) | (rw [if_pos (by omega)]; simp [ab_up_a]; done) | (rw [if_neg (by omega)]; simp [ab_up_a]; done) | (simp [ab_up_a]; done)))
    | (refine hS.2 _ _ ?_ ?_ <;> first | done | (first | omega | ((repeat' split) <;> omega) | (subst_vars; (repeat' split) <;> omega)) | (first | rfl | (rw [if_pos (by omega)]; done) | (rw [if_neg (by omega)]; done) | (rw [if_pos (by omega)]; simp [ab_up_a]; done) | (rw [if_neg (by omega)]; simp [ab_up_a]; done) | (simp [ab_up_a]; done)))
    | (refine hS.2 _ _ ?_; first | done | (first | omega | ((repeat' split) <;> omega) | (subst_vars; (repeat' split) <;> omega)) | (first | rfl | (rw [if_pos (by omega)]; done) | (rw [if_neg (by omega)]; done) | (rw [if_pos (by omega)]; simp [ab_up_a]; done) | (rw [if_neg (by omega)]; simp [ab_up_a]; done) | (simp [ab_up_a]; done)))
    | exact hS.2
    | (refine ⟨_, ?_, rfl, ?_⟩ <;> omega)
    | (refine ⟨_, rfl, ?_⟩ <;> omega)
set_option maxRecDepth 20000 in
set_option maxHeartbeats 1000000 in
theorem ok_X1_termLength (E : ab_E) : ab_Ok E 1 30 S_X1_termLength := by
  refine ab_mk rq_X1_termLength tk_X1_termLength (rt := 1) (rfl) (cuts := []) (G := []) (fun g hg => by cases hg) (by decide) 63 rfl ?_
  intro a M K wd wa hS
  unfold S_X1_termLength at hS
  split at hS
  ·
    rename_i p nn c
    refine ⟨Nat.le_of_ble_eq_true rfl, fun _ _ _ _ _ => False, ?_, ?_⟩
    · exact vc_X1_termLength_0 p nn c M K  hS
    · exact fun _ _ _ _ _ h => h.elim
  · exact hS.elim
def S_X1_startRow : ab_PT := fun a M K => match a with
  | [.inr (.inr (.inr (p, 1, nn)))] => (0 ≤ M p 3 ∧ M p 3 ≤ 120) ∧ (∀ rx : Int, (rx = if 0 < M p 3 then 0 else 120) → K [Xi rx] M)
  | _ => False
set_option maxRecDepth 20000 in
theorem vc_X1_startRow_0 (p : Nat) (nn : Nat) (M : ab_M) (K : List ab_V → ab_M → Prop) (hS : (0 ≤ M p 3 ∧ M p 3 ≤ 120) ∧ (∀ rx : Int, (rx = if 0 < M p 3 then 0 else 120) → K [Xi rx] M)) : (ab_ir (M p 3)) ∧ (((M p 3) ≤ 0 → (-128 ≤ (120 : Int) ∧ (120 : Int) < 128) ∧ K [Xi (120 : Int)] M) ∧ (0 < (M p 3) → K [Xi (0 : Int)] M)) := by
  repeat' first
    | (refine And.intro ?_ ?_)
    | intro _
  all_goals first
    | omega
    | (simp [ab_up_a]; done)
    | (simp [ab_up_a]; omega)
    | (refine hS.2 _ ?_; first | done | (first | omega | ((repeat' split) <;> omega) | (subst_vars; (repeat' split) <;> omega)) | (first | rfl | (rw [if_pos (by omega)]; done) | (rw [if_neg (by omega)]; done) | (rw [if_pos (by omega)]; simp [ab_up_a]; done) | (rw [if_neg (by omega)]; simp [ab_up_a]; done) | (simp [ab_up_a]; done)))
    | (refine hS.2 _ _ ?_ ?_ <;> first | done | (first | omega | ((repeat' split) <;> omega) | (subst_vars; (repeat' split) <;> omega)) | (first | rfl | (rw [if_pos (by omega)]; done) | (rw [if_neg (by omega)]; done) | (rw [if_pos (by omega)]; simp [ab_up_a]; done) | (rw [if_neg (by omega)]; simp [ab_up_a]; done) | (simp [ab_up_a]; done)))
    | (refine hS.2 _ _ ?_; first | done | (first | omega | ((repeat' split) <;> omega) | (subst_vars; (repeat' split) <;> omega)) | (first | rfl | (rw [if_pos (by omega)]; done) | (rw [if_neg (by omega)]; done) | (rw [if_pos (by omega)]; simp [ab_up_a]; done) | (rw [if_neg (by omega)]; simp [ab_up_a]; done) | (simp [ab_up_a]; done)))
    | exact hS.2
    | (refine ⟨_, ?_, rfl, ?_⟩ <;> omega)
    | (refine ⟨_, rfl, ?_⟩ <;> omega)
set_option maxRecDepth 20000 in
set_option maxHeartbeats 1000000 in
theorem ok_X1_startRow (E : ab_E) : ab_Ok E 1 28 S_X1_startRow := by
  refine ab_mk rq_X1_startRow tk_X1_startRow (rt := 1) (rfl) (cuts := []) (G := []) (fun g hg => by cases hg) (by decide) 57 rfl ?_
  intro a M K wd wa hS
  unfold S_X1_startRow at hS
  split at hS
  ·
    rename_i p nn
    refine ⟨Nat.le_of_ble_eq_true rfl, fun _ _ _ _ _ => False, ?_, ?_⟩
    · exact vc_X1_startRow_0 p nn M K  hS
    · exact fun _ _ _ _ _ h => h.elim
  · exact hS.elim
def S_X1_loopStatement : ab_PT := fun a M K => match a with
  | [.inr (.inr (.inr (p, 1, nn))), .inr (.inl c)] => (ab_ir c ∧ M p 8 ≤ 4 ∧ 0 ≤ M p 8 ∧ (0 ≤ c ∧ c < M p 8 → ab_ir (M (p + 366) c.toNat)) ∧ 0 ≤ M p 3 ∧ M p 3 ≤ 120) ∧ (∀ ox : Nat, (ox = if 0 ≤ c ∧ c < M p 8 ∧ 0 ≤ M (p + 366) c.toNat ∧ M (p + 366) c.toNat < M p 3 then p + 1 + 1 + 3 * (M (p + 366) c.toNat).toNat else p + 362) → K [Xr ox 4 0] M)
  | _ => False
set_option maxRecDepth 20000 in
theorem vc_X1_loopStatement_0 (p : Nat) (nn : Nat) (c : Int) (M : ab_M) (K : List ab_V → ab_M → Prop) (hS : (ab_ir c ∧ M p 8 ≤ 4 ∧ 0 ≤ M p 8 ∧ (0 ≤ c ∧ c < M p 8 → ab_ir (M (p + 366) c.toNat)) ∧ 0 ≤ M p 3 ∧ M p 3 ≤ 120) ∧ (∀ ox : Nat, (ox = if 0 ≤ c ∧ c < M p 8 ∧ 0 ≤ M (p + 366) c.toNat ∧ M (p + 366) c.toNat < M p 3 then p + 1 + 1 + 3 * (M (p + 366) c.toNat).toNat else p + 362) → K [Xr ox 4 0] M)) : (ab_ir c ∧ M p 8 ≤ 4 ∧ 0 ≤ M p 8) ∧ (∀ r3 : Int, (r3 = if 0 ≤ c ∧ c < M p 8 then M (p + 366) c.toNat else -1) → (ab_ir r3 ∧ 0 ≤ M p 3 ∧ M p 3 ≤ 120) ∧ (∀ o6 : Nat, (o6 = if 0 ≤ r3 ∧ r3 < M p 3 then p + 1 + 1 + 3 * r3.toNat else p + 362) → K [Xr o6 4 0] M)) := by
  repeat' first
    | (refine And.intro ?_ ?_)
    | intro _
  all_goals first
    | omega
    | (simp [ab_up_a]; done)
    | (simp [ab_up_a]; omega)
    | (refine hS.2 _ ?_; first | done | (first | omega | ((repeat' split) <;> omega) | (subst_vars; (repeat' split) <;> omega)) | (first | rfl | (rw [if_pos (by omega)]; done) | (rw [if_neg (by omega)]; done) | (rw [if_pos (by omega)]; simp [ab_up_a]; done) | (rw [if_neg (by omega)]; simp [ab_up_a]; done) | (simp [ab_up_a]; done)))
    | (refine hS.2 _ _ ?_ ?_ <;> first | done | (first | omega | ((repeat' split) <;> omega) | (subst_vars; (repeat' split) <;> omega)) | (first | rfl | (rw [if_pos (by omega)]; done) | (rw [if_neg (by omega)]; done) | (rw [if_pos (by omega)]; simp [ab_up_a]; done) | (rw [if_neg (by omega)]; simp [ab_up_a]; done) | (simp [ab_up_a]; done)))
    | (refine hS.2 _ _ ?_; first | done | (first | omega | ((repeat' split) <;> omega) | (subst_vars; (repeat' split) <;> omega)) | (first | rfl | (rw [if_pos (by omega)]; done) | (rw [if_neg (by omega)]; done) | (rw [if_pos (by omega)]; simp [ab_up_a]; done) | (rw [if_neg (by omega)]; simp [ab_up_a]; done) | (simp [ab_up_a]; done)))
    | exact hS.2
    | (refine ⟨_, ?_, rfl, ?_⟩ <;> omega)
    | (refine ⟨_, rfl, ?_⟩ <;> omega)
set_option maxRecDepth 20000 in
set_option maxHeartbeats 1000000 in
theorem ok_X1_loopStatement (E : ab_E) : ab_Ok E 2 24 S_X1_loopStatement := by
  refine ab_mk rq_X1_loopStatement tk_X1_loopStatement (rt := 4) (⟨_, rfl⟩) (cuts := []) (G := [(16, S_X1_at), (23, S_X1_loopRow)]) (List.forall_mem_cons.mpr ⟨⟨1, by decide, ok_X1_at E⟩, List.forall_mem_cons.mpr ⟨⟨1, by decide, ok_X1_loopRow E⟩, fun _ h => absurd h List.not_mem_nil⟩⟩) (by decide) 56 rfl ?_
  intro a M K wd wa hS
  unfold S_X1_loopStatement at hS
  split at hS
  ·
    rename_i p nn c
    refine ⟨Nat.le_of_ble_eq_true rfl, fun _ _ _ _ _ => False, ?_, ?_⟩
    · exact vc_X1_loopStatement_0 p nn c M K  hS
    · exact fun _ _ _ _ _ h => h.elim
  · exact hS.elim
