/-! the smallest methods of the reference -/
def S_X9_in : ab_PT := fun a M K => match a with
  | [.inr (.inl v), .inr (.inl a), .inr (.inl b)] => (ab_ir v ∧ ab_ir a ∧ ab_ir b) ∧ (∀ rx : Int, (rx = if a ≤ v ∧ v ≤ b then 1 else 0) → K [Xi rx] M)
  | _ => False
set_option maxRecDepth 20000 in
theorem vc_X9_in_0 (v : Int) (a : Int) (b : Int) (M : ab_M) (K : List ab_V → ab_M → Prop) (hS : (ab_ir v ∧ ab_ir a ∧ ab_ir b) ∧ (∀ rx : Int, (rx = if a ≤ v ∧ v ≤ b then 1 else 0) → K [Xi rx] M)) : (ab_ir v ∧ ab_ir a) ∧ ((v < a → ((0 : Int) = 0 ∨ (0 : Int) = 1) ∧ K [Xi (0 : Int)] M) ∧ (a ≤ v → (ab_ir v ∧ ab_ir b) ∧ ((b < v → ((0 : Int) = 0 ∨ (0 : Int) = 1) ∧ K [Xi (0 : Int)] M) ∧ (v ≤ b → ((1 : Int) = 0 ∨ (1 : Int) = 1) ∧ K [Xi (1 : Int)] M)))) := by
  repeat' first
    | (refine And.intro ?_ ?_)
    | intro _
  all_goals first
    | omega
    | (simp [ab_up_a]; done)
    | (simp [ab_up_a]; omega)
    | (refine hS.2 _ ?_; first | done | (first | omega | ((repeat' split) <;> omega) | (subst_vars; (repeat' split) <;> omega)) | (first | rfl | (rw [if_pos (by omega)]; done) | (rw [if_neg (by omega)]; done) | (rw [if_pos (by omega)]; simp [ab_up_a]; done) | (rw [if_neg (by omega)]; simp [ab_up_a]; done) | (simp [ab_up_a]; done)))
    | (refine hS.2 _ _ ?_ ?_ <;> first | done | (first | omega | ((repeat' split) <;> omega) | (subst_vars; (repeat' split) <;> omega)) | (first | rfl | (rw [if_pos (by omega)]; done) | (rw [if_neg (by omega)]; done) | (rw [if_pos (by omega)]; simp [ab_up_a]; done) | (rw [if_neg (by omega)]; simp [ab_up_a]; done) | (simp [ab_up_a]; done)))
    | (refine hS.2 _ _ ?_; first | done | (first | omega | ((repeat' split) <;> omega) | (subst_vars; (repeat' split) <;> omega)) | (first | rfl | (rw [if_pos (by omega)]; done) | (rw [if_neg (by omega)]; done) | (rw [if_pos (by omega)]; simp [ab_up_a]; done) | (rw [if_neg (by omega)]; simp [ab_up_a]; done) | (simp [ab_up_a]; done)))
    | exact hS.2
    | (refine ⟨_, ?_, rfl, ?_⟩ <;> omega)
    | (refine ⟨_, rfl, ?_⟩ <;> omega)
set_option maxRecDepth 20000 in
set_option maxHeartbeats 1000000 in
theorem ok_X9_in (E : ab_E) : ab_Ok E 1 145 S_X9_in := by
  refine ab_mk rq_X9_in tk_X9_in (rt := 2) (rfl) (cuts := []) (G := []) (fun g hg => by cases hg) (by decide) 60 rfl ?_
  intro a M K wd wa hS
  unfold S_X9_in at hS
  split at hS
  ·
    rename_i v a b
    refine ⟨Nat.le_of_ble_eq_true rfl, fun _ _ _ _ _ => False, ?_, ?_⟩
    · exact vc_X9_in_0 v a b M K  hS
    · exact fun _ _ _ _ _ h => h.elim
  · exact hS.elim
def S_X9_isName : ab_PT := fun a M K => match a with
  | [.inr (.inl c)] => (ab_ir c) ∧ (∀ rx : Int, (rx = if 97 ≤ c ∧ c ≤ 100 then 1 else 0) → K [Xi rx] M)
  | _ => False
set_option maxRecDepth 20000 in
theorem vc_X9_isName_0 (c : Int) (M : ab_M) (K : List ab_V → ab_M → Prop) (hS : (ab_ir c) ∧ (∀ rx : Int, (rx = if 97 ≤ c ∧ c ≤ 100 then 1 else 0) → K [Xi rx] M)) : (-128 ≤ (97 : Int) ∧ (97 : Int) < 128) ∧ (-128 ≤ (100 : Int) ∧ (100 : Int) < 128) ∧ (ab_ir c ∧ ab_ir (97 : Int) ∧ ab_ir (100 : Int)) ∧ (∀ r5 : Int, (r5 = if (97 : Int) ≤ c ∧ c ≤ (100 : Int) then 1 else 0) → (r5 = 0 ∨ r5 = 1) ∧ K [Xi r5] M) := by
  repeat' first
    | (refine And.intro ?_ ?_)
    | intro _
  all_goals first
    | omega
    | (simp [ab_up_a]; done)
    | (simp [ab_up_a]; omega)
    | (refine hS.2 _ ?_; first | done | (first | omega | ((repeat' split) <;> omega) | (subst_vars; (repeat' split) <;> omega)) | (first | rfl | (rw [if_pos (by omega)]; done) | (rw [if_neg (by omega)]; done) | (rw [if_pos (by omega)]; simp [ab_up_a]; done) | (rw [if_neg (by omega)]; simp [ab_up_a]; done) | (simp [ab_up_a]; done)))
    | (refine hS.2 _ _ ?_ ?_ <;> first | done | (first | omega | ((repeat' split) <;> omega) | (subst_vars; (repeat' split) <;> omega)) | (first | rfl | (rw [if_pos (by omega)]; done) | (rw [if_neg (by omega)]; done) | (rw [if_pos (by omega)]; simp [ab_up_a]; done) | (rw [if_neg (by omega)]; simp [ab_up_a]; done) | (simp [ab_up_a]; done)))
    | (refine hS.2 _ _ ?_; first | done | (first | omega | ((repeat' split) <;> omega) | (subst_vars; (repeat' split) <;> omega)) | (first | rfl | (rw [if_pos (by omega)]; done) | (rw [if_neg (by omega)]; done) | (rw [if_pos (by omega)]; simp [ab_up_a]; done) | (rw [if_neg (by omega)]; simp [ab_up_a]; done) | (simp [ab_up_a]; done)))
    | exact hS.2
    | (refine ⟨_, ?_, rfl, ?_⟩ <;> omega)
    | (refine ⟨_, rfl, ?_⟩ <;> omega)
set_option maxRecDepth 20000 in
set_option maxHeartbeats 1000000 in
theorem ok_X9_isName (E : ab_E) : ab_Ok E 2 148 S_X9_isName := by
  refine ab_mk rq_X9_isName tk_X9_isName (rt := 2) (rfl) (cuts := []) (G := [(145, S_X9_in)]) (List.forall_mem_cons.mpr ⟨⟨1, by decide, ok_X9_in E⟩, fun _ h => absurd h List.not_mem_nil⟩) (by decide) 55 rfl ?_
  intro a M K wd wa hS
  unfold S_X9_isName at hS
  split at hS
  ·
    rename_i c
    refine ⟨Nat.le_of_ble_eq_true rfl, fun _ _ _ _ _ => False, ?_, ?_⟩
    · exact vc_X9_isName_0 c M K  hS
    · exact fun _ _ _ _ _ h => h.elim
  · exact hS.elim
def S_X9_isTwo : ab_PT := fun a M K => match a with
  | [.inr (.inl c)] => (ab_ir c) ∧ (∀ rx : Int, (rx = if c = 43 ∨ c = 45 ∨ c = 61 ∨ c = 60 ∨ c = 38 ∨ c = 124 then 1 else 0) → K [Xi rx] M)
  | _ => False
set_option maxRecDepth 20000 in
theorem vc_X9_isTwo_0 (c : Int) (M : ab_M) (K : List ab_V → ab_M → Prop) (hS : (ab_ir c) ∧ (∀ rx : Int, (rx = if c = 43 ∨ c = 45 ∨ c = 61 ∨ c = 60 ∨ c = 38 ∨ c = 124 then 1 else 0) → K [Xi rx] M)) : (-128 ≤ (43 : Int) ∧ (43 : Int) < 128) ∧ (ab_ir c ∧ ab_ir (43 : Int)) ∧ ((c = (43 : Int) → ((1 : Int) = 0 ∨ (1 : Int) = 1) ∧ K [Xi (1 : Int)] M) ∧ (¬ c = (43 : Int) → (-128 ≤ (45 : Int) ∧ (45 : Int) < 128) ∧ (ab_ir c ∧ ab_ir (45 : Int)) ∧ ((c = (45 : Int) → ((1 : Int) = 0 ∨ (1 : Int) = 1) ∧ K [Xi (1 : Int)] M) ∧ (¬ c = (45 : Int) → (-128 ≤ (61 : Int) ∧ (61 : Int) < 128) ∧ (ab_ir c ∧ ab_ir (61 : Int)) ∧ ((c = (61 : Int) → ((1 : Int) = 0 ∨ (1 : Int) = 1) ∧ K [Xi (1 : Int)] M) ∧ (¬ c = (61 : Int) → (-128 ≤ (60 : Int) ∧ (60 : Int) < 128) ∧ (ab_ir c ∧ ab_ir (60 : Int)) ∧ ((c = (60 : Int) → ((1 : Int) = 0 ∨ (1 : Int) = 1) ∧ K [Xi (1 : Int)] M) ∧ (¬ c = (60 : Int) → (-128 ≤ (38 : Int) ∧ (38 : Int) < 128) ∧ (ab_ir c ∧ ab_ir (38 : Int)) ∧ ((c = (38 : Int) → ((1 : Int) = 0 ∨ (1 : Int) = 1) ∧ K [Xi (1 : Int)] M) ∧ (¬ c = (38 : Int) → (-128 ≤ (124 : Int) ∧ (124 : Int) < 128) ∧ (ab_ir c ∧ ab_ir (124 : Int)) ∧ ((¬ c = (124 : Int) → ((0 : Int) = 0 ∨ (0 : Int) = 1) ∧ K [Xi (0 : Int)] M) ∧ (c = (124 : Int) → ((1 : Int) = 0 ∨ (1 : Int) = 1) ∧ K [Xi (1 : Int)] M)))))))))))) := by
  repeat' first
    | (refine And.intro ?_ ?_)
    | intro _
  all_goals first
    | omega
    | (simp [ab_up_a]; done)
    | (simp [ab_up_a]; omega)
    | (refine hS.2 _ ?_; first | done | (first | omega | ((repeat' split) <;> omega) | (subst_vars; (repeat' split) <;> omega)) | (first | rfl | (rw [if_pos (by omega)]; done) | (rw [if_neg (by omega)]; done) | (rw [if_pos (by omega)]; simp [ab_up_a]; done) | (rw [if_neg (by omega)]; simp [ab_up_a]; done) | (simp [ab_up_a]; done)))
    | (refine hS.2 _ _ ?_ ?_ <;> first | done | (first | omega | ((repeat' split) <;> omega) | (subst_vars; (repeat' split) <;> omega)) | (first | rfl | (rw [if_pos (by omega)]; done) | (rw [if_neg (by omega)]; done) | (rw [if_pos (by omega)]; simp [ab_up_a]; done) | (rw [if_neg (by omega)]; simp [ab_up_a]; done) | (simp [ab_up_a]; done)))
    | (refine hS.2 _ _ ?_; first | done | (first | omega | ((repeat' split) <;> omega) | (subst_vars; (repeat' split) <;> omega)) | (first | rfl | (rw [if_pos (by omega)]; done) | (rw [if_neg (by omega)]; done) | (rw [if_pos (by omega)]; simp [ab_up_a]; done) | (rw [if_neg (by omega)]; simp [ab_up_a]; done) | (simp [ab_up_a]; done)))
    | exact hS.2
    | (refine ⟨_, ?_, rfl, ?_⟩ <;> omega)
    | (refine ⟨_, rfl, ?_⟩ <;> omega)
set_option maxRecDepth 20000 in
set_option maxHeartbeats 1000000 in
theorem ok_X9_isTwo (E : ab_E) : ab_Ok E 1 150 S_X9_isTwo := by
  refine ab_mk rq_X9_isTwo tk_X9_isTwo (rt := 2) (rfl) (cuts := []) (G := []) (fun g hg => by cases hg) (by decide) 72 rfl ?_
  intro a M K wd wa hS
  unfold S_X9_isTwo at hS
  split at hS
  ·
    rename_i c
    refine ⟨Nat.le_of_ble_eq_true rfl, fun _ _ _ _ _ => False, ?_, ?_⟩
    · exact vc_X9_isTwo_0 c M K  hS
    · exact fun _ _ _ _ _ h => h.elim
  · exact hS.elim
def S_X9_here : ab_PT := fun a M K => match a with
  | [.inr (.inr (.inr (797, 9, 0)))] => ((0 ≤ M 797 9 ∧ M 797 9 ≤ 640 ∧ (∀ j, 0 ≤ M 803 j ∧ M 803 j < 256) ∧ 0 ≤ M 797 24 ∧ M 797 24 ≤ M 797 9)) ∧ (∀ rx : Int, (rx = if M 797 24 < M 797 9 then M 803 (M 797 24).toNat else -9) → K [Xi rx] M)
  | _ => False
set_option maxRecDepth 20000 in
theorem vc_X9_here_0  (M : ab_M) (K : List ab_V → ab_M → Prop) (hS : ((0 ≤ M 797 9 ∧ M 797 9 ≤ 640 ∧ (∀ j, 0 ≤ M 803 j ∧ M 803 j < 256) ∧ 0 ≤ M 797 24 ∧ M 797 24 ≤ M 797 9)) ∧ (∀ rx : Int, (rx = if M 797 24 < M 797 9 then M 803 (M 797 24).toNat else -9) → K [Xi rx] M)) : (ab_ir (M 797 24) ∧ ab_ir (M 797 9)) ∧ (((M 797 9) ≤ (M 797 24) → (-128 ≤ (-9 : Int) ∧ (-9 : Int) < 128) ∧ K [Xi (-9 : Int)] M) ∧ ((M 797 24) < (M 797 9) → (0 ≤ (M 797 24) ∧ (M 797 24) < ((640 : Nat) : Int)) ∧ K [Xi (M 803 ((M 797 24).toNat))] M)) := by
  repeat' first
    | (refine And.intro ?_ ?_)
    | intro _
  all_goals first
    | omega
    | (simp [ab_up_a]; done)
    | (simp [ab_up_a]; omega)
    | (refine hS.2 _ ?_; first | done | (first | omega | ((repeat' split) <;> omega) | (subst_vars; (repeat' split) <;> omega)) | (first | rfl | (rw [if_pos (by omega)]; done) | (rw [if_neg (by omega)]; done) | (rw [if_pos (by omega)]; simp [ab_up_a]; done) | (rw [if_neg (by omega)]; simp [ab_up_a]; done) | (simp [ab_up_a]; done)))
    | (refine hS.2 _ _ ?_ ?_ <;> first | done | (first | omega | ((repeat' split) <;> omega) | (subst_vars; (repeat' split) <;> omega)) | (first | rfl | (rw [if_pos (by omega)]; done) | (rw [if_neg (by omega)]; done) | (rw [if_pos (by omega)]; simp [ab_up_a]; done) | (rw [if_neg (by omega)]; simp [ab_up_a]; done) | (simp [ab_up_a]; done)))
    | (refine hS.2 _ _ ?_; first | done | (first | omega | ((repeat' split) <;> omega) | (subst_vars; (repeat' split) <;> omega)) | (first | rfl | (rw [if_pos (by omega)]; done) | (rw [if_neg (by omega)]; done) | (rw [if_pos (by omega)]; simp [ab_up_a]; done) | (rw [if_neg (by omega)]; simp [ab_up_a]; done) | (simp [ab_up_a]; done)))
    | exact hS.2
    | (refine ⟨_, ?_, rfl, ?_⟩ <;> omega)
    | (refine ⟨_, rfl, ?_⟩ <;> omega)
set_option maxRecDepth 20000 in
set_option maxHeartbeats 1000000 in
theorem ok_X9_here (E : ab_E) : ab_Ok E 1 144 S_X9_here := by
  refine ab_mk rq_X9_here tk_X9_here (rt := 1) (rfl) (cuts := []) (G := []) (fun g hg => by cases hg) (by decide) 63 rfl ?_
  intro a M K wd wa hS
  unfold S_X9_here at hS
  split at hS
  ·
    refine ⟨Nat.le_of_ble_eq_true rfl, fun _ _ _ _ _ => False, ?_, ?_⟩
    · exact vc_X9_here_0  M K  hS
    · exact fun _ _ _ _ _ h => h.elim
  · exact hS.elim
def S_X9_must : ab_PT := fun a M K => match a with
  | [.inr (.inr (.inr (797, 9, 0))), .inr (.inl b)] => ((b = 0 ∨ b = 1) ∧ ab_ir (M 797 25)) ∧ (∀ Mx : ab_M, (Mx = if M 797 25 = -9 ∧ b = 0 then ab_up M 797 25 (M 797 24) else M) → K [] Mx)
  | _ => False
set_option maxRecDepth 20000 in
theorem vc_X9_must_0 (b : Int) (M : ab_M) (K : List ab_V → ab_M → Prop) (hS : ((b = 0 ∨ b = 1) ∧ ab_ir (M 797 25)) ∧ (∀ Mx : ab_M, (Mx = if M 797 25 = -9 ∧ b = 0 then ab_up M 797 25 (M 797 24) else M) → K [] Mx)) : (-128 ≤ (-9 : Int) ∧ (-9 : Int) < 128) ∧ (ab_ir (M 797 25) ∧ ab_ir (-9 : Int)) ∧ ((¬ (M 797 25) = (-9 : Int) → K [] M) ∧ ((M 797 25) = (-9 : Int) → (ab_ir b) ∧ ((¬ b = 0 → K [] M) ∧ (b = 0 → K [] (ab_up M 797 25 (M 797 24)))))) := by
  repeat' first
    | (refine And.intro ?_ ?_)
    | intro _
  all_goals first
    | omega
    | (simp [ab_up_a]; done)
    | (simp [ab_up_a]; omega)
    | (refine hS.2 _ ?_; first | done | (first | omega | ((repeat' split) <;> omega) | (subst_vars; (repeat' split) <;> omega)) | (first | rfl | (rw [if_pos (by omega)]; done) | (rw [if_neg (by omega)]; done) | (rw [if_pos (by omega)]; simp [ab_up_a]; done) | (rw [if_neg (by omega)]; simp [ab_up_a]; done) | (simp [ab_up_a]; done)))
    | (refine hS.2 _ _ ?_ ?_ <;> first | done | (first | omega | ((repeat' split) <;> omega) | (subst_vars; (repeat' split) <;> omega)) | (first | rfl | (rw [if_pos (by omega)]; done) | (rw [if_neg (by omega)]; done) | (rw [if_pos (by omega)]; simp [ab_up_a]; done) | (rw [if_neg (by omega)]; simp [ab_up_a]; done) | (simp [ab_up_a]; done)))
    | (refine hS.2 _ _ ?_; first | done | (first | omega | ((repeat' split) <;> omega) | (subst_vars; (repeat' split) <;> omega)) | (first | rfl | (rw [if_pos (by omega)]; done) | (rw [if_neg (by omega)]; done) | (rw [if_pos (by omega)]; simp [ab_up_a]; done) | (rw [if_neg (by omega)]; simp [ab_up_a]; done) | (simp [ab_up_a]; done)))
    | exact hS.2
    | (refine ⟨_, ?_, rfl, ?_⟩ <;> omega)
    | (refine ⟨_, rfl, ?_⟩ <;> omega)
set_option maxRecDepth 20000 in
set_option maxHeartbeats 1000000 in
theorem ok_X9_must (E : ab_E) : ab_Ok E 1 163 S_X9_must := by
  refine ab_mk rq_X9_must tk_X9_must (rt := 0) (rfl) (cuts := []) (G := []) (fun g hg => by cases hg) (by decide) 61 rfl ?_
  intro a M K wd wa hS
  unfold S_X9_must at hS
  split at hS
  ·
    rename_i b
    refine ⟨Nat.le_of_ble_eq_true rfl, fun _ _ _ _ _ => False, ?_, ?_⟩
    · exact vc_X9_must_0 b M K  hS
    · exact fun _ _ _ _ _ h => h.elim
  · exact hS.elim
def S_X9_sortOf : ab_PT := fun a M K => match a with
  | [.inr (.inl c)] => (ab_ir c) ∧ (∀ rx : Int, (rx = if c = 104 then 1 else if c = 107 then 2 else if c = 115 then 3 else if c = 116 then 4 else if c = 112 then 5 else if c = 105 then 6 else if c = 119 then 7 else if c = 121 then 8 else if 97 ≤ c ∧ c ≤ 100 then 0 else -9) → K [Xi rx] M)
  | _ => False
set_option maxRecDepth 20000 in
theorem vc_X9_sortOf_0 (c : Int) (M : ab_M) (K : List ab_V → ab_M → Prop) (hS : (ab_ir c) ∧ (∀ rx : Int, (rx = if c = 104 then 1 else if c = 107 then 2 else if c = 115 then 3 else if c = 116 then 4 else if c = 112 then 5 else if c = 105 then 6 else if c = 119 then 7 else if c = 121 then 8 else if 97 ≤ c ∧ c ≤ 100 then 0 else -9) → K [Xi rx] M)) : (ab_ir c) ∧ ((c = 104 → K [Xi (1 : Int)] M) ∧ (¬ c = 104 → ((c = 105 → (-128 ≤ (6 : Int) ∧ (6 : Int) < 128) ∧ K [Xi (6 : Int)] M) ∧ (¬ c = 105 → ((c = 107 → K [Xi (2 : Int)] M) ∧ (¬ c = 107 → ((c = 112 → K [Xi (5 : Int)] M) ∧ (¬ c = 112 → ((c = 115 → K [Xi (3 : Int)] M) ∧ (¬ c = 115 → ((c = 116 → K [Xi (4 : Int)] M) ∧ (¬ c = 116 → ((c = 119 → (-128 ≤ (7 : Int) ∧ (7 : Int) < 128) ∧ K [Xi (7 : Int)] M) ∧ (¬ c = 119 → ((c = 121 → (-128 ≤ (8 : Int) ∧ (8 : Int) < 128) ∧ K [Xi (8 : Int)] M) ∧ (¬ c = 121 → (ab_ir c) ∧ (∀ r108 : Int, (r108 = if 97 ≤ c ∧ c ≤ 100 then 1 else 0) → (ab_ir r108) ∧ ((r108 = 0 → (-128 ≤ (-9 : Int) ∧ (-9 : Int) < 128) ∧ K [Xi (-9 : Int)] M) ∧ (¬ r108 = 0 → K [Xi (0 : Int)] M))))))))))))))))))) := by
  repeat' first
    | (refine And.intro ?_ ?_)
    | intro _
  all_goals first
    | omega
    | (simp [ab_up_a]; done)
    | (simp [ab_up_a]; omega)
    | (refine hS.2 _ ?_; first | done | (first | omega | ((repeat' split) <;> omega) | (subst_vars; (repeat' split) <;> omega)) | (first | rfl | (rw [if_pos (by omega)]; done) | (rw [if_neg (by omega)]; done) | (rw [if_pos (by omega)]; simp [ab_up_a]; done) | (rw [if_neg (by omega)]; simp [ab_up_a]; done) | (simp [ab_up_a]; done)))
    | (refine hS.2 _ _ ?_ ?_ <;> first | done | (first | omega | ((repeat' split) <;> omega) | (subst_vars; (repeat' split) <;> omega)) | (first | rfl | (rw [if_pos (by omega)]; done) | (rw [if_neg (by omega)]; done) | (rw [if_pos (by omega)]; simp [ab_up_a]; done) | (rw [if_neg (by omega)]; simp [ab_up_a]; done) | (simp [ab_up_a]; done)))
    | (refine hS.2 _ _ ?_; first | done | (first | omega | ((repeat' split) <;> omega) | (subst_vars; (repeat' split) <;> omega)) | (first | rfl | (rw [if_pos (by omega)]; done) | (rw [if_neg (by omega)]; done) | (rw [if_pos (by omega)]; simp [ab_up_a]; done) | (rw [if_neg (by omega)]; simp [ab_up_a]; done) | (simp [ab_up_a]; done)))
    | exact hS.2
    | (refine ⟨_, ?_, rfl, ?_⟩ <;> omega)
    | (refine ⟨_, rfl, ?_⟩ <;> omega)
set_option maxRecDepth 20000 in
set_option maxHeartbeats 1000000 in
theorem ok_X9_sortOf (E : ab_E) : ab_Ok E 3 180 S_X9_sortOf := by
  refine ab_mk rq_X9_sortOf tk_X9_sortOf (rt := 1) (rfl) (cuts := []) (G := [(148, S_X9_isName)]) (List.forall_mem_cons.mpr ⟨⟨2, by decide, ok_X9_isName E⟩, fun _ h => absurd h List.not_mem_nil⟩) (by decide) 75 rfl ?_
  intro a M K wd wa hS
  unfold S_X9_sortOf at hS
  split at hS
  ·
    rename_i c
    refine ⟨Nat.le_of_ble_eq_true rfl, fun _ _ _ _ _ => False, ?_, ?_⟩
    · exact vc_X9_sortOf_0 c M K  hS
    · exact fun _ _ _ _ _ h => h.elim
  · exact hS.elim
def S_X9_checksOf : ab_PT := fun a M K => match a with
  | [.inr (.inl c)] => (ab_ir c) ∧ (∀ rx : Int, (rx = if c = 2 ∨ c = 5 then 1 else if c = 7 then 2 else 0) → K [Xi rx] M)
  | _ => False
set_option maxRecDepth 20000 in
theorem vc_X9_checksOf_0 (c : Int) (M : ab_M) (K : List ab_V → ab_M → Prop) (hS : (ab_ir c) ∧ (∀ rx : Int, (rx = if c = 2 ∨ c = 5 then 1 else if c = 7 then 2 else 0) → K [Xi rx] M)) : (ab_ir c ∧ ab_ir (2 : Int)) ∧ ((c = (2 : Int) → K [Xi (1 : Int)] M) ∧ (¬ c = (2 : Int) → (ab_ir c ∧ ab_ir (5 : Int)) ∧ ((¬ c = (5 : Int) → (-128 ≤ (7 : Int) ∧ (7 : Int) < 128) ∧ (ab_ir c ∧ ab_ir (7 : Int)) ∧ ((¬ c = (7 : Int) → K [Xi (0 : Int)] M) ∧ (c = (7 : Int) → K [Xi (2 : Int)] M))) ∧ (c = (5 : Int) → K [Xi (1 : Int)] M)))) := by
  repeat' first
    | (refine And.intro ?_ ?_)
    | intro _
  all_goals first
    | omega
    | (simp [ab_up_a]; done)
    | (simp [ab_up_a]; omega)
    | (refine hS.2 _ ?_; first | done | (first | omega | ((repeat' split) <;> omega) | (subst_vars; (repeat' split) <;> omega)) | (first | rfl | (rw [if_pos (by omega)]; done) | (rw [if_neg (by omega)]; done) | (rw [if_pos (by omega)]; simp [ab_up_a]; done) | (rw [if_neg (by omega)]; simp [ab_up_a]; done) | (simp [ab_up_a]; done)))
    | (refine hS.2 _ _ ?_ ?_ <;> first | done | (first | omega | ((repeat' split) <;> omega) | (subst_vars; (repeat' split) <;> omega)) | (first | rfl | (rw [if_pos (by omega)]; done) | (rw [if_neg (by omega)]; done) | (rw [if_pos (by omega)]; simp [ab_up_a]; done) | (rw [if_neg (by omega)]; simp [ab_up_a]; done) | (simp [ab_up_a]; done)))
    | (refine hS.2 _ _ ?_; first | done | (first | omega | ((repeat' split) <;> omega) | (subst_vars; (repeat' split) <;> omega)) | (first | rfl | (rw [if_pos (by omega)]; done) | (rw [if_neg (by omega)]; done) | (rw [if_pos (by omega)]; simp [ab_up_a]; done) | (rw [if_neg (by omega)]; simp [ab_up_a]; done) | (simp [ab_up_a]; done)))
    | exact hS.2
    | (refine ⟨_, ?_, rfl, ?_⟩ <;> omega)
    | (refine ⟨_, rfl, ?_⟩ <;> omega)
set_option maxRecDepth 20000 in
set_option maxHeartbeats 1000000 in
theorem ok_X9_checksOf (E : ab_E) : ab_Ok E 1 125 S_X9_checksOf := by
  refine ab_mk rq_X9_checksOf tk_X9_checksOf (rt := 1) (rfl) (cuts := []) (G := []) (fun g hg => by cases hg) (by decide) 65 rfl ?_
  intro a M K wd wa hS
  unfold S_X9_checksOf at hS
  split at hS
  ·
    rename_i c
    refine ⟨Nat.le_of_ble_eq_true rfl, fun _ _ _ _ _ => False, ?_, ?_⟩
    · exact vc_X9_checksOf_0 c M K  hS
    · exact fun _ _ _ _ _ h => h.elim
  · exact hS.elim
