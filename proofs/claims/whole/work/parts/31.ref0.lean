/-! the reference: simple calls -/
def S_X9_type : ab_PT := fun a M K => match a with
  | [.inr (.inr (.inr (797, 9, 0))), .inr (.inl z)] => (ab_ir z ∧ 0 ≤ M 797 6 ∧ M 797 6 ≤ 120) ∧ (∀ rx : Int, ∀ Mx : ab_M, (Mx = if z < 0 ∨ 255 < z ∨ 120 ≤ M 797 6 then M else ab_up (ab_up M 802 (M 797 6).toNat z) 797 6 (M 797 6 + 1)) → (rx = if z < 0 ∨ 255 < z then -1 else if 120 ≤ M 797 6 then -3 else M 797 6 + 1) → K [Xi rx] Mx)
  | _ => False
set_option maxRecDepth 20000 in
theorem vc_X9_type_0 (z : Int) (M : ab_M) (K : List ab_V → ab_M → Prop) (hS : (ab_ir z ∧ 0 ≤ M 797 6 ∧ M 797 6 ≤ 120) ∧ (∀ rx : Int, ∀ Mx : ab_M, (Mx = if z < 0 ∨ 255 < z ∨ 120 ≤ M 797 6 then M else ab_up (ab_up M 802 (M 797 6).toNat z) 797 6 (M 797 6 + 1)) → (rx = if z < 0 ∨ 255 < z then -1 else if 120 ≤ M 797 6 then -3 else M 797 6 + 1) → K [Xi rx] Mx)) : (-32768 ≤ (255 : Int) ∧ (255 : Int) < 32768) ∧ (ab_ir z ∧ ab_ir (0 : Int) ∧ ab_ir (255 : Int)) ∧ (∀ r5 : Int, (r5 = if (0 : Int) ≤ z ∧ z ≤ (255 : Int) then 1 else 0) → (ab_ir r5) ∧ ((¬ r5 = 0 → (-128 ≤ (120 : Int) ∧ (120 : Int) < 128) ∧ (ab_ir (M 797 6) ∧ ab_ir (120 : Int)) ∧ ((¬ (M 797 6) = (120 : Int) → (0 ≤ (M 797 6) ∧ (M 797 6) < ((120 : Nat) : Int)) ∧ K [Xi ((M 797 6) + (1 : Int))] (ab_up (ab_up M 802 ((M 797 6).toNat) z) 797 6 ((M 797 6) + (1 : Int)))) ∧ ((M 797 6) = (120 : Int) → (-128 ≤ (-3 : Int) ∧ (-3 : Int) < 128) ∧ K [Xi (-3 : Int)] M))) ∧ (r5 = 0 → K [Xi (-1 : Int)] M))) := by
  repeat' first
    | (refine And.intro ?_ ?_)
    | intro _
  all_goals first
    | omega
    | (simp [ab_up_a]; done)
    | (simp [ab_up_a]; omega)
    | (refine hS.2 _ ?_; first | done | (first | omega | ((repeat' split) <;> omega) | (subst_vars; (repeat' split) <;> omega)) | (first | rfl | (rw [if_pos (by omega)]; done) | (rw [if_neg (by omega)]; done) | (rw [if_pos (by omega)]; simp [ab_up_a]; done) | (rw [if_neg (by omega)]; simp [ab_up_a]; done) | (simp [ab_up_a]; done)))
    | (refine hS.2 _ _ ?_ ?_ <;> first | done | (first | omega | ((repeat' split) <;> omega) | (subst_vars; (repeat' split) <;> omega)) | (first | rfl | (rw [if_pos (by omega)]; done) | (rw [if_neg (by omega)]; done) | (rw [if_pos (by omega)]; simp [ab_up_a]; done) | (rw [if_neg (by omega)]; simp [ab_up_a]; done) | (simp [ab_up_a]; done)))
    | (refine hS.2 _ _ ?_; first | done | (first | omega | ((repeat' split) <;> omega) | (subst_vars; (repeat' split) <;> omega)) | (first | rfl | (rw [if_pos (by omega)]; done) | (rw [if_neg (by omega)]; done) | (rw [if_pos (by omega)]; simp [ab_up_a]; done) | (rw [if_neg (by omega)]; simp [ab_up_a]; done) | (simp [ab_up_a]; done)))
    | exact hS.2
    | (refine ⟨_, ?_, rfl, ?_⟩ <;> omega)
    | (refine ⟨_, rfl, ?_⟩ <;> omega)
set_option maxRecDepth 20000 in
set_option maxHeartbeats 1000000 in
theorem ok_X9_type (E : ab_E) : ab_Ok E 2 187 S_X9_type := by
  refine ab_mk rq_X9_type tk_X9_type (rt := 1) (rfl) (cuts := []) (G := [(145, S_X9_in)]) (List.forall_mem_cons.mpr ⟨⟨1, by decide, ok_X9_in E⟩, fun _ h => absurd h List.not_mem_nil⟩) (by decide) 78 rfl ?_
  intro a M K wd wa hS
  unfold S_X9_type at hS
  split at hS
  ·
    rename_i z
    refine ⟨Nat.le_of_ble_eq_true rfl, fun _ _ _ _ _ => False, ?_, ?_⟩
    · exact vc_X9_type_0 z M K  hS
    · exact fun _ _ _ _ _ h => h.elim
  · exact hS.elim
def S_X9_clear : ab_PT := fun a M K => match a with
  | [.inr (.inr (.inr (797, 9, 0)))] => (True) ∧ (∀ rx : Int, ∀ Mx : ab_M, (Mx = ab_up M 797 6 0) → (rx = M 797 6) → K [Xi rx] Mx)
  | _ => False
set_option maxRecDepth 20000 in
theorem vc_X9_clear_0  (M : ab_M) (K : List ab_V → ab_M → Prop) (hS : (True) ∧ (∀ rx : Int, ∀ Mx : ab_M, (Mx = ab_up M 797 6 0) → (rx = M 797 6) → K [Xi rx] Mx)) : K [Xi (M 797 6)] (ab_up M 797 6 (0 : Int)) := by
  repeat' first
    | (refine And.intro ?_ ?_)
    | intro _
  all_goals first
    | omega
    | (simp [ab_up_a]; done)
    | (simp [ab_up_a]; omega)
    | (refine hS.2 _ ?_; first | done | (first | omega | ((repeat' split) <;> omega) | (subst_vars; (repeat' split) <;> omega)) | (first | rfl | (rw [if_pos (by omega)]; done) | (rw [if_neg (by omega)]; done) | (rw [if_pos (by omega)]; simp [ab_up_a]; done) | (rw [if_neg (by omega)]; simp [ab_up_a]; done) | (simp [ab_up_a]; done)))
    | (refine hS.2 _ _ ?_ ?_ <;> first | done | (first | omega | ((repeat' split) <;> omega) | (subst_vars; (repeat' split) <;> omega)) | (first | rfl | (rw [if_pos (by omega)]; done) | (rw [if_neg (by omega)]; done) | (rw [if_pos (by omega)]; simp [ab_up_a]; done) | (rw [if_neg (by omega)]; simp [ab_up_a]; done) | (simp [ab_up_a]; done)))
    | (refine hS.2 _ _ ?_; first | done | (first | omega | ((repeat' split) <;> omega) | (subst_vars; (repeat' split) <;> omega)) | (first | rfl | (rw [if_pos (by omega)]; done) | (rw [if_neg (by omega)]; done) | (rw [if_pos (by omega)]; simp [ab_up_a]; done) | (rw [if_neg (by omega)]; simp [ab_up_a]; done) | (simp [ab_up_a]; done)))
    | exact hS.2
    | (refine ⟨_, ?_, rfl, ?_⟩ <;> omega)
    | (refine ⟨_, rfl, ?_⟩ <;> omega)
set_option maxRecDepth 20000 in
set_option maxHeartbeats 1000000 in
theorem ok_X9_clear (E : ab_E) : ab_Ok E 1 126 S_X9_clear := by
  refine ab_mk rq_X9_clear tk_X9_clear (rt := 1) (rfl) (cuts := []) (G := []) (fun g hg => by cases hg) (by decide) 58 rfl ?_
  intro a M K wd wa hS
  unfold S_X9_clear at hS
  split at hS
  ·
    refine ⟨Nat.le_of_ble_eq_true rfl, fun _ _ _ _ _ => False, ?_, ?_⟩
    · exact vc_X9_clear_0  M K  hS
    · exact fun _ _ _ _ _ h => h.elim
  · exact hS.elim
def S_X9_told : ab_PT := fun a M K => match a with
  | [.inr (.inr (.inr (797, 9, 0))), .inr (.inl k)] => (ab_ir k ∧ 0 ≤ M 798 640 ∧ M 798 640 ≤ 640) ∧ (∀ rx : Int, (rx = if k < -1 then -1 else if k = -1 then M 798 640 else if k < M 798 640 then M 798 k.toNat else -9) → K [Xi rx] M)
  | _ => False
set_option maxRecDepth 20000 in
theorem vc_X9_told_0 (k : Int) (M : ab_M) (K : List ab_V → ab_M → Prop) (hS : (ab_ir k ∧ 0 ≤ M 798 640 ∧ M 798 640 ≤ 640) ∧ (∀ rx : Int, (rx = if k < -1 then -1 else if k = -1 then M 798 640 else if k < M 798 640 then M 798 k.toNat else -9) → K [Xi rx] M)) : (ab_ir k ∧ ab_ir (-1 : Int)) ∧ (((-1 : Int) ≤ k → (ab_ir k) ∧ ((0 ≤ k → (-32768 ≤ (640 : Int) ∧ (640 : Int) < 32768) ∧ (0 ≤ (640 : Int) ∧ (640 : Int) < ((641 : Nat) : Int)) ∧ (ab_ir k ∧ ab_ir (M 798 640)) ∧ (((M 798 640) ≤ k → (-128 ≤ (-9 : Int) ∧ (-9 : Int) < 128) ∧ K [Xi (-9 : Int)] M) ∧ (k < (M 798 640) → (0 ≤ k ∧ k < ((641 : Nat) : Int)) ∧ K [Xi (M 798 k.toNat)] M))) ∧ (k < 0 → (-32768 ≤ (640 : Int) ∧ (640 : Int) < 32768) ∧ (0 ≤ (640 : Int) ∧ (640 : Int) < ((641 : Nat) : Int)) ∧ K [Xi (M 798 640)] M))) ∧ (k < (-1 : Int) → K [Xi (-1 : Int)] M)) := by
  repeat' first
    | (refine And.intro ?_ ?_)
    | intro _
  all_goals first
    | omega
    | (simp [ab_up_a]; done)
    | (simp [ab_up_a]; omega)
    | (refine hS.2 _ ?_; first | done | (first | omega | ((repeat' split) <;> omega) | (subst_vars; (repeat' split) <;> omega)) | (first | rfl | (rw [if_pos (by omega)]; done) | (rw [if_neg (by omega)]; done) | (rw [if_pos (by omega)]; simp [ab_up_a]; done) | (rw [if_neg (by omega)]; simp [ab_up_a]; done) | (simp [ab_up_a]; done)))
    | (refine hS.2 _ _ ?_ ?_ <;> first | done | (first | omega | ((repeat' split) <;> omega) | (subst_vars; (repeat' split) <;> omega)) | (first | rfl | (rw [if_pos (by omega)]; done) | (rw [if_neg (by omega)]; done) | (rw [if_pos (by omega)]; simp [ab_up_a]; done) | (rw [if_neg (by omega)]; simp [ab_up_a]; done) | (simp [ab_up_a]; done)))
    | (refine hS.2 _ _ ?_; first | done | (first | omega | ((repeat' split) <;> omega) | (subst_vars; (repeat' split) <;> omega)) | (first | rfl | (rw [if_pos (by omega)]; done) | (rw [if_neg (by omega)]; done) | (rw [if_pos (by omega)]; simp [ab_up_a]; done) | (rw [if_neg (by omega)]; simp [ab_up_a]; done) | (simp [ab_up_a]; done)))
    | exact hS.2
    | (refine ⟨_, ?_, rfl, ?_⟩ <;> omega)
    | (refine ⟨_, rfl, ?_⟩ <;> omega)
set_option maxRecDepth 20000 in
set_option maxHeartbeats 1000000 in
theorem ok_X9_told (E : ab_E) : ab_Ok E 1 185 S_X9_told := by
  refine ab_mk rq_X9_told tk_X9_told (rt := 1) (rfl) (cuts := []) (G := []) (fun g hg => by cases hg) (by decide) 75 rfl ?_
  intro a M K wd wa hS
  unfold S_X9_told at hS
  split at hS
  ·
    rename_i k
    refine ⟨Nat.le_of_ble_eq_true rfl, fun _ _ _ _ _ => False, ?_, ?_⟩
    · exact vc_X9_told_0 k M K  hS
    · exact fun _ _ _ _ _ h => h.elim
  · exact hS.elim
def S_X9_forget : ab_PT := fun a M K => match a with
  | [.inr (.inr (.inr (797, 9, 0)))] => (True) ∧ (∀ rx : Int, ∀ Mx : ab_M, (Mx = ab_up M 797 71 0) → (rx = M 797 71) → K [Xi rx] Mx)
  | _ => False
set_option maxRecDepth 20000 in
theorem vc_X9_forget_0  (M : ab_M) (K : List ab_V → ab_M → Prop) (hS : (True) ∧ (∀ rx : Int, ∀ Mx : ab_M, (Mx = ab_up M 797 71 0) → (rx = M 797 71) → K [Xi rx] Mx)) : K [Xi (M 797 71)] (ab_up M 797 71 (0 : Int)) := by
  repeat' first
    | (refine And.intro ?_ ?_)
    | intro _
  all_goals first
    | omega
    | (simp [ab_up_a]; done)
    | (simp [ab_up_a]; omega)
    | (refine hS.2 _ ?_; first | done | (first | omega | ((repeat' split) <;> omega) | (subst_vars; (repeat' split) <;> omega)) | (first | rfl | (rw [if_pos (by omega)]; done) | (rw [if_neg (by omega)]; done) | (rw [if_pos (by omega)]; simp [ab_up_a]; done) | (rw [if_neg (by omega)]; simp [ab_up_a]; done) | (simp [ab_up_a]; done)))
    | (refine hS.2 _ _ ?_ ?_ <;> first | done | (first | omega | ((repeat' split) <;> omega) | (subst_vars; (repeat' split) <;> omega)) | (first | rfl | (rw [if_pos (by omega)]; done) | (rw [if_neg (by omega)]; done) | (rw [if_pos (by omega)]; simp [ab_up_a]; done) | (rw [if_neg (by omega)]; simp [ab_up_a]; done) | (simp [ab_up_a]; done)))
    | (refine hS.2 _ _ ?_; first | done | (first | omega | ((repeat' split) <;> omega) | (subst_vars; (repeat' split) <;> omega)) | (first | rfl | (rw [if_pos (by omega)]; done) | (rw [if_neg (by omega)]; done) | (rw [if_pos (by omega)]; simp [ab_up_a]; done) | (rw [if_neg (by omega)]; simp [ab_up_a]; done) | (simp [ab_up_a]; done)))
    | exact hS.2
    | (refine ⟨_, ?_, rfl, ?_⟩ <;> omega)
    | (refine ⟨_, rfl, ?_⟩ <;> omega)
set_option maxRecDepth 20000 in
set_option maxHeartbeats 1000000 in
theorem ok_X9_forget (E : ab_E) : ab_Ok E 1 138 S_X9_forget := by
  refine ab_mk rq_X9_forget tk_X9_forget (rt := 1) (rfl) (cuts := []) (G := []) (fun g hg => by cases hg) (by decide) 58 rfl ?_
  intro a M K wd wa hS
  unfold S_X9_forget at hS
  split at hS
  ·
    refine ⟨Nat.le_of_ble_eq_true rfl, fun _ _ _ _ _ => False, ?_, ?_⟩
    · exact vc_X9_forget_0  M K  hS
    · exact fun _ _ _ _ _ h => h.elim
  · exact hS.elim
def S_X9_sees : ab_PT := fun a M K => match a with
  | [.inr (.inr (.inr (797, 9, 0))), .inr (.inl w), .inr (.inl z)] => (ab_ir w ∧ ab_ir z ∧ 0 ≤ M 797 71 ∧ M 797 71 ≤ 6) ∧ (∀ rx : Int, ∀ Mx : ab_M, (Mx = if w < 0 ∨ 17 < w ∨ ¬ (z = 0 ∨ z = 1) ∨ 6 ≤ M 797 71 then M else ab_up (ab_up (ab_up M 846 (M 797 71).toNat w) 847 (M 797 71).toNat z) 797 71 (M 797 71 + 1)) → (rx = if w < 0 ∨ 17 < w ∨ ¬ (z = 0 ∨ z = 1) then -1 else if 6 ≤ M 797 71 then -3 else M 797 71 + 1) → K [Xi rx] Mx)
  | _ => False
set_option maxRecDepth 20000 in
theorem vc_X9_sees_0 (w : Int) (z : Int) (M : ab_M) (K : List ab_V → ab_M → Prop) (hS : (ab_ir w ∧ ab_ir z ∧ 0 ≤ M 797 71 ∧ M 797 71 ≤ 6) ∧ (∀ rx : Int, ∀ Mx : ab_M, (Mx = if w < 0 ∨ 17 < w ∨ ¬ (z = 0 ∨ z = 1) ∨ 6 ≤ M 797 71 then M else ab_up (ab_up (ab_up M 846 (M 797 71).toNat w) 847 (M 797 71).toNat z) 797 71 (M 797 71 + 1)) → (rx = if w < 0 ∨ 17 < w ∨ ¬ (z = 0 ∨ z = 1) then -1 else if 6 ≤ M 797 71 then -3 else M 797 71 + 1) → K [Xi rx] Mx)) : (-128 ≤ (17 : Int) ∧ (17 : Int) < 128) ∧ (ab_ir w ∧ ab_ir (0 : Int) ∧ ab_ir (17 : Int)) ∧ (∀ r4 : Int, (r4 = if (0 : Int) ≤ w ∧ w ≤ (17 : Int) then 1 else 0) → (ab_ir r4) ∧ ((r4 = 0 → K [Xi (-1 : Int)] M) ∧ (¬ r4 = 0 → (ab_ir z ∧ ab_ir (0 : Int) ∧ ab_ir (1 : Int)) ∧ (∀ r13 : Int, (r13 = if (0 : Int) ≤ z ∧ z ≤ (1 : Int) then 1 else 0) → (ab_ir r13) ∧ ((¬ r13 = 0 → (-128 ≤ (6 : Int) ∧ (6 : Int) < 128) ∧ (ab_ir (M 797 71) ∧ ab_ir (6 : Int)) ∧ ((¬ (M 797 71) = (6 : Int) → (0 ≤ (M 797 71) ∧ (M 797 71) < ((6 : Nat) : Int)) ∧ (0 ≤ (M 797 71) ∧ (M 797 71) < ((6 : Nat) : Int)) ∧ K [Xi ((M 797 71) + (1 : Int))] (ab_up (ab_up (ab_up M 846 ((M 797 71).toNat) w) 847 ((M 797 71).toNat) z) 797 71 ((M 797 71) + (1 : Int)))) ∧ ((M 797 71) = (6 : Int) → (-128 ≤ (-3 : Int) ∧ (-3 : Int) < 128) ∧ K [Xi (-3 : Int)] M))) ∧ (r13 = 0 → K [Xi (-1 : Int)] M)))))) := by
  repeat' first
    | (refine And.intro ?_ ?_)
    | intro _
  all_goals first
    | omega
    | (simp [ab_up_a]; done)
    | (simp [ab_up_a]; omega)
    | (refine hS.2 _ ?_; first | done | (first | omega | ((repeat' split) <;> omega) | (subst_vars; (repeat' split) <;> omega)) | (first | rfl | (rw [if_pos (by omega)]; done) | (rw [if_neg (by omega)]; done) | (rw [if_pos (by omega)]; simp [ab_up_a]; done) | (rw [if_neg (by omega)]; simp [ab_up_a]; done) | (simp [ab_up_a]; done)))
    | (refine hS.2 _ _ ?_ ?_ <;> first | done | (first | omega | ((repeat' split) <;> omega) | (subst_vars; (repeat' split) <;> omega)) | (first | rfl | (rw [if_pos (by omega)]; done) | (rw [if_neg (by omega)]; done) | (rw [if_pos (by omega)]; simp [ab_up_a]; done) | (rw [if_neg (by omega)]; simp [ab_up_a]; done) | (simp [ab_up_a]; done)))
    | (refine hS.2 _ _ ?_; first | done | (first | omega | ((repeat' split) <;> omega) | (subst_vars; (repeat' split) <;> omega)) | (first | rfl | (rw [if_pos (by omega)]; done) | (rw [if_neg (by omega)]; done) | (rw [if_pos (by omega)]; simp [ab_up_a]; done) | (rw [if_neg (by omega)]; simp [ab_up_a]; done) | (simp [ab_up_a]; done)))
    | exact hS.2
    | (refine ⟨_, ?_, rfl, ?_⟩ <;> omega)
    | (refine ⟨_, rfl, ?_⟩ <;> omega)
set_option maxRecDepth 20000 in
set_option maxHeartbeats 1000000 in
theorem ok_X9_sees (E : ab_E) : ab_Ok E 2 179 S_X9_sees := by
  refine ab_mk rq_X9_sees tk_X9_sees (rt := 1) (rfl) (cuts := []) (G := [(145, S_X9_in)]) (List.forall_mem_cons.mpr ⟨⟨1, by decide, ok_X9_in E⟩, fun _ h => absurd h List.not_mem_nil⟩) (by decide) 89 rfl ?_
  intro a M K wd wa hS
  unfold S_X9_sees at hS
  split at hS
  ·
    rename_i w z
    refine ⟨Nat.le_of_ble_eq_true rfl, fun _ _ _ _ _ => False, ?_, ?_⟩
    · exact vc_X9_sees_0 w z M K  hS
    · exact fun _ _ _ _ _ h => h.elim
  · exact hS.elim
def S_X9_forgetAll : ab_PT := fun a M K => match a with
  | [.inr (.inr (.inr (797, 9, 0)))] => (True) ∧ (∀ Mx : ab_M, (Mx = ab_up (ab_up (ab_up (ab_up (ab_up M 797 28 0) 797 29 (-9)) 816 0 0) 816 1 0) 797 31 0) → K [] Mx)
  | _ => False
set_option maxRecDepth 20000 in
theorem vc_X9_forgetAll_0  (M : ab_M) (K : List ab_V → ab_M → Prop) (hS : (True) ∧ (∀ Mx : ab_M, (Mx = ab_up (ab_up (ab_up (ab_up (ab_up M 797 28 0) 797 29 (-9)) 816 0 0) 816 1 0) 797 31 0) → K [] Mx)) : ((0 : Int) = 0 ∨ (0 : Int) = 1) ∧ (-128 ≤ (-9 : Int) ∧ (-9 : Int) < 128) ∧ ((0 ≤ (0 : Int) ∧ (0 : Int) < ((2 : Nat) : Int)) ∧ ((0 : Int) = 0 ∨ (0 : Int) = 1)) ∧ ((0 ≤ (1 : Int) ∧ (1 : Int) < ((2 : Nat) : Int)) ∧ ((0 : Int) = 0 ∨ (0 : Int) = 1)) ∧ ((0 : Int) = 0 ∨ (0 : Int) = 1) ∧ K [] (ab_up (ab_up (ab_up (ab_up (ab_up M 797 28 (0 : Int)) 797 29 (-9 : Int)) 816 0 (0 : Int)) 816 1 (0 : Int)) 797 31 (0 : Int)) := by
  repeat' first
    | (refine And.intro ?_ ?_)
    | intro _
  all_goals first
    | omega
    | (simp [ab_up_a]; done)
    | (simp [ab_up_a]; omega)
    | (refine hS.2 _ ?_; first | done | (first | omega | ((repeat' split) <;> omega) | (subst_vars; (repeat' split) <;> omega)) | (first | rfl | (rw [if_pos (by omega)]; done) | (rw [if_neg (by omega)]; done) | (rw [if_pos (by omega)]; simp [ab_up_a]; done) | (rw [if_neg (by omega)]; simp [ab_up_a]; done) | (simp [ab_up_a]; done)))
    | (refine hS.2 _ _ ?_ ?_ <;> first | done | (first | omega | ((repeat' split) <;> omega) | (subst_vars; (repeat' split) <;> omega)) | (first | rfl | (rw [if_pos (by omega)]; done) | (rw [if_neg (by omega)]; done) | (rw [if_pos (by omega)]; simp [ab_up_a]; done) | (rw [if_neg (by omega)]; simp [ab_up_a]; done) | (simp [ab_up_a]; done)))
    | (refine hS.2 _ _ ?_; first | done | (first | omega | ((repeat' split) <;> omega) | (subst_vars; (repeat' split) <;> omega)) | (first | rfl | (rw [if_pos (by omega)]; done) | (rw [if_neg (by omega)]; done) | (rw [if_pos (by omega)]; simp [ab_up_a]; done) | (rw [if_neg (by omega)]; simp [ab_up_a]; done) | (simp [ab_up_a]; done)))
    | exact hS.2
    | (refine ⟨_, ?_, rfl, ?_⟩ <;> omega)
    | (refine ⟨_, rfl, ?_⟩ <;> omega)
set_option maxRecDepth 20000 in
set_option maxHeartbeats 1000000 in
theorem ok_X9_forgetAll (E : ab_E) : ab_Ok E 1 139 S_X9_forgetAll := by
  refine ab_mk rq_X9_forgetAll tk_X9_forgetAll (rt := 0) (rfl) (cuts := []) (G := []) (fun g hg => by cases hg) (by decide) 70 rfl ?_
  intro a M K wd wa hS
  unfold S_X9_forgetAll at hS
  split at hS
  ·
    refine ⟨Nat.le_of_ble_eq_true rfl, fun _ _ _ _ _ => False, ?_, ?_⟩
    · exact vc_X9_forgetAll_0  M K  hS
    · exact fun _ _ _ _ _ h => h.elim
  · exact hS.elim
