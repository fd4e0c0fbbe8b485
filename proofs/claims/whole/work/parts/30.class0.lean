/-! the class: simple calls -/
def S_X8_type : ab_PT := fun a M K => match a with
  | [.inr (.inr (.inr (0, 8, 0))), .inr (.inl z)] => (ab_ir z ∧ 0 ≤ M 1 1 ∧ M 1 1 ≤ 120) ∧ (∀ rx : Int, ∀ Mx : ab_M, (Mx = if z < 0 ∨ 255 < z ∨ 120 ≤ M 1 1 then M else ab_up (ab_up M 2 (M 1 1).toNat z) 1 1 (M 1 1 + 1)) → (rx = if z < 0 ∨ 255 < z then -1 else if 120 ≤ M 1 1 then -3 else M 1 1 + 1) → K [Xi rx] Mx)
  | _ => False
set_option maxRecDepth 20000 in
theorem vc_X8_type_0 (z : Int) (M : ab_M) (K : List ab_V → ab_M → Prop) (hS : (ab_ir z ∧ 0 ≤ M 1 1 ∧ M 1 1 ≤ 120) ∧ (∀ rx : Int, ∀ Mx : ab_M, (Mx = if z < 0 ∨ 255 < z ∨ 120 ≤ M 1 1 then M else ab_up (ab_up M 2 (M 1 1).toNat z) 1 1 (M 1 1 + 1)) → (rx = if z < 0 ∨ 255 < z then -1 else if 120 ≤ M 1 1 then -3 else M 1 1 + 1) → K [Xi rx] Mx)) : (ab_ir z) ∧ ((z < 0 → K [Xi (-1 : Int)] M) ∧ (0 ≤ z → (-32768 ≤ (255 : Int) ∧ (255 : Int) < 32768) ∧ (ab_ir z ∧ ab_ir (255 : Int)) ∧ ((z ≤ (255 : Int) → (0 ≤ z ∧ z < 65536 ∧ 0 ≤ M 1 1 ∧ 120 ≤ 640 ∧ M 1 1 ≤ 640) ∧ (∀ r18 : Int, ∀ M18 : ab_M, (M18 = if M 1 1 < ((120 : Nat) : Int) then ab_up (ab_up M 2 (M 1 1).toNat z) 1 1 (M 1 1 + 1) else M) → (r18 = (if M 1 1 < ((120 : Nat) : Int) then 1 else 0)) → (ab_ir r18) ∧ ((¬ r18 = 0 → K [Xi (M18 1 1)] M18) ∧ (r18 = 0 → (-128 ≤ (-3 : Int) ∧ (-3 : Int) < 128) ∧ K [Xi (-3 : Int)] M18)))) ∧ ((255 : Int) < z → K [Xi (-1 : Int)] M)))) := by
  refine And.intro (by
    omega) ?_
  refine ⟨?_, ?_⟩
  · intro c1
    first
      | (refine hS.2 _ _ ?_ ?_
         · rw [if_pos (by omega)]
         · omega)
      | (rw [if_neg (by omega)] at hM18
         refine hS.2 _ _ ?_ ?_
         · rw [hM18, if_pos (by omega)]
         · omega)
      | (rw [if_pos (by omega)] at hM18
         refine hS.2 _ _ ?_ ?_
         · rw [hM18, if_neg (by omega)]
         · rw [hM18, ab_up_s]; omega)
  · intro c1
    refine And.intro (by
      omega) ?_
    refine And.intro (by
      omega) ?_
    refine ⟨?_, ?_⟩
    · intro c8
      refine And.intro (by
        omega) ?_
      intro r18 M18 hM18 hr18
      refine And.intro (by
        omega) ?_
      refine ⟨?_, ?_⟩
      · intro c21
        rw [hr18] at c21
        rw [ab_bt] at c21
        clear hr18 r18
        first
          | (refine hS.2 _ _ ?_ ?_
             · rw [if_pos (by omega)]
             · omega)
          | (rw [if_neg (by omega)] at hM18
             refine hS.2 _ _ ?_ ?_
             · rw [hM18, if_pos (by omega)]
             · omega)
          | (rw [if_pos (by omega)] at hM18
             refine hS.2 _ _ ?_ ?_
             · rw [hM18, if_neg (by omega)]
             · rw [hM18, ab_up_s]; omega)
      · intro c21
        rw [hr18] at c21
        rw [ab_bf] at c21
        clear hr18 r18
        refine And.intro (by
          omega) ?_
        first
          | (refine hS.2 _ _ ?_ ?_
             · rw [if_pos (by omega)]
             · omega)
          | (rw [if_neg (by omega)] at hM18
             refine hS.2 _ _ ?_ ?_
             · rw [hM18, if_pos (by omega)]
             · omega)
          | (rw [if_pos (by omega)] at hM18
             refine hS.2 _ _ ?_ ?_
             · rw [hM18, if_neg (by omega)]
             · rw [hM18, ab_up_s]; omega)
    · intro c8
      first
        | (refine hS.2 _ _ ?_ ?_
           · rw [if_pos (by omega)]
           · omega)
        | (rw [if_neg (by omega)] at hM18
           refine hS.2 _ _ ?_ ?_
           · rw [hM18, if_pos (by omega)]
           · omega)
        | (rw [if_pos (by omega)] at hM18
           refine hS.2 _ _ ?_ ?_
           · rw [hM18, if_neg (by omega)]
           · rw [hM18, ab_up_s]; omega)

set_option maxRecDepth 20000 in
set_option maxHeartbeats 1000000 in
theorem ok_X8_type (E : ab_E) : ab_Ok E 2 112 S_X8_type := by
  refine ab_mk rq_X8_type tk_X8_type (rt := 1) (rfl) (cuts := []) (G := [(67, S_X6_add)]) (List.forall_mem_cons.mpr ⟨⟨1, by decide, ok_X6_add E⟩, fun _ h => absurd h List.not_mem_nil⟩) (by decide) 68 rfl ?_
  intro a M K wd wa hS
  unfold S_X8_type at hS
  split at hS
  ·
    rename_i z
    refine ⟨Nat.le_of_ble_eq_true rfl, fun _ _ _ _ _ => False, ?_, ?_⟩
    · exact vc_X8_type_0 z M K  hS
    · exact fun _ _ _ _ _ h => h.elim
  · exact hS.elim
def S_X8_clear : ab_PT := fun a M K => match a with
  | [.inr (.inr (.inr (0, 8, 0)))] => (True) ∧ (∀ rx : Int, ∀ Mx : ab_M, (Mx = ab_up M 1 1 0) → (rx = M 1 1) → K [Xi rx] Mx)
  | _ => False
set_option maxRecDepth 20000 in
theorem vc_X8_clear_0  (M : ab_M) (K : List ab_V → ab_M → Prop) (hS : (True) ∧ (∀ rx : Int, ∀ Mx : ab_M, (Mx = ab_up M 1 1 0) → (rx = M 1 1) → K [Xi rx] Mx)) : K [Xi (M 1 1)] (ab_up M 1 1 (0 : Int)) := by
  repeat' first
    | (refine And.intro ?_ ?_)
    | intro _
  all_goals first
    | omega
    | (simp [ab_up_a]; done)
    | (simp [ab_up_a]; omega)
    | (refine hS.2 _ ?_; first | done | (first | omega | ((repeat' split) <;> omega) | (subst_vars; (repeat' split) <;> omega)) | (first | rfl | (rw [if_pos (by omega)]; done) | (rw [if_neg (by omega)]; done) | (rw [if_pos (by omega)]; simp [ab_up_a]; done) | (rw [if_neg (by omega)]; simp [ab_up_a]; done) | (simp [ab_up_a]; done)))
    | (refine hS.2 _ _ ?_ ?_ <;> first | done | (first | omega | ((repeat' split) <;> omega) | (subst_vars; (repeat' split) <;> omega)) | (first | rfl | (rw [if_pos (by omega)]; done) | (rw [if_neg (by omega)]; done) | (rw [if_pos (by omega)]; simp [ab_up_a]; done) | (rw [if_neg (by omega)]; simp [ab_up_a]; done) | (simp [ab_up_a]; done)))
    | (refine hS.2 _ _ ?_; first | done | (first | omega | ((repeat' split) <;> omega) | (subst_vars; (repeat' split) <;> omega)) | (first | rfl | (rw [if_pos (by omega)]; done) | (rw [if_neg (by omega)]; done) | (rw [if_pos (by omega)]; simp [ab_up_a]; done) | (rw [if_neg (by omega)]; simp [ab_up_a]; done) | (simp [ab_up_a]; done)))
    | exact hS.2
    | (refine ⟨_, ?_, rfl, ?_⟩ <;> omega)
    | (refine ⟨_, rfl, ?_⟩ <;> omega)
set_option maxRecDepth 20000 in
set_option maxHeartbeats 1000000 in
theorem ok_X8_clear (E : ab_E) : ab_Ok E 1 83 S_X8_clear := by
  refine ab_mk rq_X8_clear tk_X8_clear (rt := 1) (rfl) (cuts := []) (G := []) (fun g hg => by cases hg) (by decide) 60 rfl ?_
  intro a M K wd wa hS
  unfold S_X8_clear at hS
  split at hS
  ·
    refine ⟨Nat.le_of_ble_eq_true rfl, fun _ _ _ _ _ => False, ?_, ?_⟩
    · exact vc_X8_clear_0  M K  hS
    · exact fun _ _ _ _ _ h => h.elim
  · exact hS.elim
def S_X8_told : ab_PT := fun a M K => match a with
  | [.inr (.inr (.inr (0, 8, 0))), .inr (.inl k)] => (ab_ir k ∧ 0 ≤ M 3 1 ∧ M 3 1 ≤ 640 ∧ (∀ j, 0 ≤ M 4 j ∧ M 4 j < 256)) ∧ (∀ rx : Int, (rx = if k < -1 then -1 else if k = -1 then M 3 1 else if k < M 3 1 then M 4 k.toNat else -9) → K [Xi rx] M)
  | _ => False
set_option maxRecDepth 20000 in
theorem vc_X8_told_0 (k : Int) (M : ab_M) (K : List ab_V → ab_M → Prop) (hS : (ab_ir k ∧ 0 ≤ M 3 1 ∧ M 3 1 ≤ 640 ∧ (∀ j, 0 ≤ M 4 j ∧ M 4 j < 256)) ∧ (∀ rx : Int, (rx = if k < -1 then -1 else if k = -1 then M 3 1 else if k < M 3 1 then M 4 k.toNat else -9) → K [Xi rx] M)) : (ab_ir k ∧ ab_ir (-1 : Int)) ∧ (((-1 : Int) ≤ k → (ab_ir k ∧ ab_ir (-1 : Int)) ∧ ((¬ k = (-1 : Int) → (ab_ir k ∧ 0 ≤ M 3 1 ∧ M 3 1 ≤ ((640 : Nat) : Int) ∧ 640 ≤ 640) ∧ (∀ r25 : Int, (r25 = if 0 ≤ k ∧ k < M 3 1 then M 4 k.toNat else -1) → (ab_ir r25 ∧ ab_ir (-1 : Int)) ∧ ((¬ r25 = (-1 : Int) → K [Xi r25] M) ∧ (r25 = (-1 : Int) → (-128 ≤ (-9 : Int) ∧ (-9 : Int) < 128) ∧ K [Xi (-9 : Int)] M)))) ∧ (k = (-1 : Int) → K [Xi (M 3 1)] M))) ∧ (k < (-1 : Int) → K [Xi (-1 : Int)] M)) := by
  obtain ⟨⟨h1, h2, h3, h4⟩, hK⟩ := hS
  have h5 := h4 k.toNat
  refine And.intro (by
    first
      | omega
      | (simp [ab_up_a]; done)
      | (simp [ab_up_a]; omega)) ?_
  refine ⟨?_, ?_⟩
  · intro c2
    refine And.intro (by
      first
        | omega
        | (simp [ab_up_a]; done)
        | (simp [ab_up_a]; omega)) ?_
    refine ⟨?_, ?_⟩
    · intro c9
      refine And.intro (by
        first
          | omega
          | (simp [ab_up_a]; done)
          | (simp [ab_up_a]; omega)) ?_
      intro r25 hr25
      refine And.intro (by
        first
          | omega
          | (simp [ab_up_a]; done)
          | (simp [ab_up_a]; omega)) ?_
      refine ⟨?_, ?_⟩
      · intro c31
        first
          | (refine hK _ ?_; first | omega | ((repeat' split) <;> omega))
          | (refine hK _ ?_; subst_vars; (repeat' split) <;> omega)
      · intro c31
        refine And.intro (by
          first
            | omega
            | (simp [ab_up_a]; done)
            | (simp [ab_up_a]; omega)) ?_
        first
          | (refine hK _ ?_; first | omega | ((repeat' split) <;> omega))
          | (refine hK _ ?_; subst_vars; (repeat' split) <;> omega)
    · intro c9
      first
        | (refine hK _ ?_; first | omega | ((repeat' split) <;> omega))
        | (refine hK _ ?_; subst_vars; (repeat' split) <;> omega)
  · intro c2
    first
      | (refine hK _ ?_; first | omega | ((repeat' split) <;> omega))
      | (refine hK _ ?_; subst_vars; (repeat' split) <;> omega)

set_option maxRecDepth 20000 in
set_option maxHeartbeats 1000000 in
theorem ok_X8_told (E : ab_E) : ab_Ok E 2 111 S_X8_told := by
  refine ab_mk rq_X8_told tk_X8_told (rt := 1) (rfl) (cuts := []) (G := [(70, S_X6_sign)]) (List.forall_mem_cons.mpr ⟨⟨1, by decide, ok_X6_sign E⟩, fun _ h => absurd h List.not_mem_nil⟩) (by decide) 74 rfl ?_
  intro a M K wd wa hS
  unfold S_X8_told at hS
  split at hS
  ·
    rename_i k
    refine ⟨Nat.le_of_ble_eq_true rfl, fun _ _ _ _ _ => False, ?_, ?_⟩
    · exact vc_X8_told_0 k M K  hS
    · exact fun _ _ _ _ _ h => h.elim
  · exact hS.elim
def S_X8_kind : ab_PT := fun a M K => match a with
  | [.inr (.inr (.inr (0, 8, 0))), .inr (.inl c)] => (ab_ir c ∧ 0 ≤ M 26 6 ∧ M 26 6 ≤ 16) ∧ (∀ rx : Int, (rx = if 0 ≤ c ∧ c < M 26 6 then M 391 c.toNat else -1) → K [Xi rx] M)
  | _ => False
set_option maxRecDepth 20000 in
theorem vc_X8_kind_0 (c : Int) (M : ab_M) (K : List ab_V → ab_M → Prop) (hS : (ab_ir c ∧ 0 ≤ M 26 6 ∧ M 26 6 ≤ 16) ∧ (∀ rx : Int, (rx = if 0 ≤ c ∧ c < M 26 6 then M 391 c.toNat else -1) → K [Xi rx] M)) : (ab_ir c ∧ ab_ir (M 26 6)) ∧ (∀ r5 : Int, (r5 = if 0 ≤ c ∧ c < M 26 6 then 1 else 0) → (ab_ir r5) ∧ ((r5 = 0 → K [Xi (-1 : Int)] M) ∧ (¬ r5 = 0 → (0 ≤ c ∧ c < ((16 : Nat) : Int)) ∧ K [Xi (M 391 c.toNat)] M))) := by
  repeat' first
    | (refine And.intro ?_ ?_)
    | intro _
  all_goals first
    | omega
    | (simp [ab_up_a]; done)
    | (simp [ab_up_a]; omega)
    | (refine hS.2 _ ?_; first | done | (first | omega | ((repeat' split) <;> omega) | (subst_vars; (repeat' split) <;> omega)) | (first | rfl | (rw [if_pos (by omega)]; done) | (rw [if_neg (by omega)]; done) | (rw [if_pos (by omega)]; simp [ab_up_a]; done) | (rw [if_neg (by omega)]; simp [ab_up_a]; done) | (simp [ab_up_a]; done)))
    | (refine hS.2 _ _ ?_ ?_ <;> first | done | (first | omega | ((repeat' split) <;> omega) | (subst_vars; (repeat' split) <;> omega)) | (first | rfl | (rw [if_pos (by omega)]; done) | (rw [if_neg (by omega)]; done) | (rw [if_pos (by omega)]; simp [ab_up_a]; done) | (rw [if_neg (by omega)]; simp [ab_up_a]; done) | (simp [ab_up_a]; done)))
    | (refine hS.2 _ _ ?_; first | done | (first | omega | ((repeat' split) <;> omega) | (subst_vars; (repeat' split) <;> omega)) | (first | rfl | (rw [if_pos (by omega)]; done) | (rw [if_neg (by omega)]; done) | (rw [if_pos (by omega)]; simp [ab_up_a]; done) | (rw [if_neg (by omega)]; simp [ab_up_a]; done) | (simp [ab_up_a]; done)))
    | exact hS.2
    | (refine ⟨_, ?_, rfl, ?_⟩ <;> omega)
    | (refine ⟨_, rfl, ?_⟩ <;> omega)
set_option maxRecDepth 20000 in
set_option maxHeartbeats 1000000 in
theorem ok_X8_kind (E : ab_E) : ab_Ok E 2 99 S_X8_kind := by
  refine ab_mk rq_X8_kind tk_X8_kind (rt := 1) (rfl) (cuts := []) (G := [(18, S_X1_hasCheck)]) (List.forall_mem_cons.mpr ⟨⟨1, by decide, ok_X1_hasCheck E⟩, fun _ h => absurd h List.not_mem_nil⟩) (by decide) 63 rfl ?_
  intro a M K wd wa hS
  unfold S_X8_kind at hS
  split at hS
  ·
    rename_i c
    refine ⟨Nat.le_of_ble_eq_true rfl, fun _ _ _ _ _ => False, ?_, ?_⟩
    · exact vc_X8_kind_0 c M K  hS
    · exact fun _ _ _ _ _ h => h.elim
  · exact hS.elim
def S_X8_forget : ab_PT := fun a M K => match a with
  | [.inr (.inr (.inr (0, 8, 0)))] => (True) ∧ (∀ rx : Int, ∀ Mx : ab_M, (Mx = ab_up M 0 14 0) → (rx = M 0 14) → K [Xi rx] Mx)
  | _ => False
set_option maxRecDepth 20000 in
theorem vc_X8_forget_0  (M : ab_M) (K : List ab_V → ab_M → Prop) (hS : (True) ∧ (∀ rx : Int, ∀ Mx : ab_M, (Mx = ab_up M 0 14 0) → (rx = M 0 14) → K [Xi rx] Mx)) : K [Xi (M 0 14)] (ab_up M 0 14 (0 : Int)) := by
  repeat' first
    | (refine And.intro ?_ ?_)
    | intro _
  all_goals first
    | omega
    | (simp [ab_up_a]; done)
    | (simp [ab_up_a]; omega)
    | (refine hS.2 _ ?_; first | done | (first | omega | ((repeat' split) <;> omega) | (subst_vars; (repeat' split) <;> omega)) | (first | rfl | (rw [if_pos (by omega)]; done) | (rw [if_neg (by omega)]; done) | (rw [if_pos (by omega)]; simp [ab_up_a]; done) | (rw [if_neg (by omega)]; simp [ab_up_a]; done) | (simp [ab_up_a]; done)))
    | (refine hS.2 _ _ ?_ ?_ <;> first | done | (first | omega | ((repeat' split) <;> omega) | (subst_vars; (repeat' split) <;> omega)) | (first | rfl | (rw [if_pos (by omega)]; done) | (rw [if_neg (by omega)]; done) | (rw [if_pos (by omega)]; simp [ab_up_a]; done) | (rw [if_neg (by omega)]; simp [ab_up_a]; done) | (simp [ab_up_a]; done)))
    | (refine hS.2 _ _ ?_; first | done | (first | omega | ((repeat' split) <;> omega) | (subst_vars; (repeat' split) <;> omega)) | (first | rfl | (rw [if_pos (by omega)]; done) | (rw [if_neg (by omega)]; done) | (rw [if_pos (by omega)]; simp [ab_up_a]; done) | (rw [if_neg (by omega)]; simp [ab_up_a]; done) | (simp [ab_up_a]; done)))
    | exact hS.2
    | (refine ⟨_, ?_, rfl, ?_⟩ <;> omega)
    | (refine ⟨_, rfl, ?_⟩ <;> omega)
set_option maxRecDepth 20000 in
set_option maxHeartbeats 1000000 in
theorem ok_X8_forget (E : ab_E) : ab_Ok E 1 89 S_X8_forget := by
  refine ab_mk rq_X8_forget tk_X8_forget (rt := 1) (rfl) (cuts := []) (G := []) (fun g hg => by cases hg) (by decide) 58 rfl ?_
  intro a M K wd wa hS
  unfold S_X8_forget at hS
  split at hS
  ·
    refine ⟨Nat.le_of_ble_eq_true rfl, fun _ _ _ _ _ => False, ?_, ?_⟩
    · exact vc_X8_forget_0  M K  hS
    · exact fun _ _ _ _ _ h => h.elim
  · exact hS.elim
def S_X8_sees : ab_PT := fun a M K => match a with
  | [.inr (.inr (.inr (0, 8, 0))), .inr (.inl w), .inr (.inl z)] => (ab_ir w ∧ ab_ir z ∧ 0 ≤ M 0 14 ∧ M 0 14 ≤ 6) ∧ (∀ rx : Int, ∀ Mx : ab_M, (Mx = if w < 0 ∨ 17 < w ∨ ¬ (z = 0 ∨ z = 1) ∨ 6 ≤ M 0 14 then M else ab_up (ab_up (ab_up M 795 (M 0 14).toNat w) 796 (M 0 14).toNat z) 0 14 (M 0 14 + 1)) → (rx = if w < 0 ∨ 17 < w ∨ ¬ (z = 0 ∨ z = 1) then -1 else if 6 ≤ M 0 14 then -3 else M 0 14 + 1) → K [Xi rx] Mx)
  | _ => False
set_option maxRecDepth 20000 in
theorem vc_X8_sees_0 (w : Int) (z : Int) (M : ab_M) (K : List ab_V → ab_M → Prop) (hS : (ab_ir w ∧ ab_ir z ∧ 0 ≤ M 0 14 ∧ M 0 14 ≤ 6) ∧ (∀ rx : Int, ∀ Mx : ab_M, (Mx = if w < 0 ∨ 17 < w ∨ ¬ (z = 0 ∨ z = 1) ∨ 6 ≤ M 0 14 then M else ab_up (ab_up (ab_up M 795 (M 0 14).toNat w) 796 (M 0 14).toNat z) 0 14 (M 0 14 + 1)) → (rx = if w < 0 ∨ 17 < w ∨ ¬ (z = 0 ∨ z = 1) then -1 else if 6 ≤ M 0 14 then -3 else M 0 14 + 1) → K [Xi rx] Mx)) : (ab_ir w) ∧ ((w < 0 → K [Xi (-1 : Int)] M) ∧ (0 ≤ w → (-128 ≤ (17 : Int) ∧ (17 : Int) < 128) ∧ (ab_ir w ∧ ab_ir (17 : Int)) ∧ (((17 : Int) < w → K [Xi (-1 : Int)] M) ∧ (w ≤ (17 : Int) → (ab_ir z) ∧ (∀ r11 : Int, (r11 = if z = 0 ∨ z = 1 then 1 else 0) → (ab_ir r11) ∧ ((¬ r11 = 0 → (-128 ≤ (6 : Int) ∧ (6 : Int) < 128) ∧ (ab_ir (M 0 14) ∧ ab_ir (6 : Int)) ∧ (((M 0 14) < (6 : Int) → (0 ≤ (M 0 14) ∧ (M 0 14) < ((6 : Nat) : Int)) ∧ (0 ≤ (M 0 14) ∧ (M 0 14) < ((6 : Nat) : Int)) ∧ K [Xi ((M 0 14) + (1 : Int))] (ab_up (ab_up (ab_up M 795 ((M 0 14).toNat) w) 796 ((M 0 14).toNat) z) 0 14 ((M 0 14) + (1 : Int)))) ∧ ((6 : Int) ≤ (M 0 14) → (-128 ≤ (-3 : Int) ∧ (-3 : Int) < 128) ∧ K [Xi (-3 : Int)] M))) ∧ (r11 = 0 → K [Xi (-1 : Int)] M))))))) := by
  repeat' first
    | (refine And.intro ?_ ?_)
    | intro _
  all_goals first
    | omega
    | (simp [ab_up_a]; done)
    | (simp [ab_up_a]; omega)
    | (refine hS.2 _ ?_; first | done | (first | omega | ((repeat' split) <;> omega) | (subst_vars; (repeat' split) <;> omega)) | (first | rfl | (rw [if_pos (by omega)]; done) | (rw [if_neg (by omega)]; done) | (rw [if_pos (by omega)]; simp [ab_up_a]; done) | (rw [if_neg (by omega)]; simp [ab_up_a]; done) | (simp [ab_up_a]; done)))
    | (refine hS.2 _ _ ?_ ?_ <;> first | done | (first | omega | ((repeat' split) <;> omega) | (subst_vars; (repeat' split) <;> omega)) | (first | rfl | (rw [if_pos (by omega)]; done) | (rw [if_neg (by omega)]; done) | (rw [if_pos (by omega)]; simp [ab_up_a]; done) | (rw [if_neg (by omega)]; simp [ab_up_a]; done) | (simp [ab_up_a]; done)))
    | (refine hS.2 _ _ ?_; first | done | (first | omega | ((repeat' split) <;> omega) | (subst_vars; (repeat' split) <;> omega)) | (first | rfl | (rw [if_pos (by omega)]; done) | (rw [if_neg (by omega)]; done) | (rw [if_pos (by omega)]; simp [ab_up_a]; done) | (rw [if_neg (by omega)]; simp [ab_up_a]; done) | (simp [ab_up_a]; done)))
    | exact hS.2
    | (refine ⟨_, ?_, rfl, ?_⟩ <;> omega)
    | (refine ⟨_, rfl, ?_⟩ <;> omega)
set_option maxRecDepth 20000 in
set_option maxHeartbeats 1000000 in
theorem ok_X8_sees (E : ab_E) : ab_Ok E 2 106 S_X8_sees := by
  refine ab_mk rq_X8_sees tk_X8_sees (rt := 1) (rfl) (cuts := []) (G := [(93, S_X8_isFlag)]) (List.forall_mem_cons.mpr ⟨⟨1, by decide, ok_X8_isFlag E⟩, fun _ h => absurd h List.not_mem_nil⟩) (by decide) 87 rfl ?_
  intro a M K wd wa hS
  unfold S_X8_sees at hS
  split at hS
  ·
    rename_i w z
    refine ⟨Nat.le_of_ble_eq_true rfl, fun _ _ _ _ _ => False, ?_, ?_⟩
    · exact vc_X8_sees_0 w z M K  hS
    · exact fun _ _ _ _ _ h => h.elim
  · exact hS.elim
def S_X8_count : ab_PT := fun a M K => match a with
  | [.inr (.inr (.inr (0, 8, 0))), .inr (.inl w)] => (ab_ir w) ∧ (∀ rx : Int, (rx = if w = 0 then M 26 3 else if w = 1 then M 26 6 else if w = 2 then M 26 8 else if w = 3 then M 0 14 else if w = 4 then M 1 1 else if w = 5 then M 0 13 else -1) → K [Xi rx] M)
  | _ => False
set_option maxRecDepth 20000 in
theorem vc_X8_count_0 (w : Int) (M : ab_M) (K : List ab_V → ab_M → Prop) (hS : (ab_ir w) ∧ (∀ rx : Int, (rx = if w = 0 then M 26 3 else if w = 1 then M 26 6 else if w = 2 then M 26 8 else if w = 3 then M 0 14 else if w = 4 then M 1 1 else if w = 5 then M 0 13 else -1) → K [Xi rx] M)) : (ab_ir w) ∧ ((w = 0 → K [Xi (M 26 3)] M) ∧ (¬ w = 0 → ((w = 1 → K [Xi (M 26 6)] M) ∧ (¬ w = 1 → ((w = 2 → K [Xi (M 26 8)] M) ∧ (¬ w = 2 → ((w = 3 → K [Xi (M 0 14)] M) ∧ (¬ w = 3 → ((w = 4 → K [Xi (M 1 1)] M) ∧ (¬ w = 4 → ((w = 5 → K [Xi (M 0 13)] M) ∧ (¬ w = 5 → K [Xi (-1 : Int)] M)))))))))))) := by
  repeat' first
    | (refine And.intro ?_ ?_)
    | intro _
  all_goals first
    | omega
    | (simp [ab_up_a]; done)
    | (simp [ab_up_a]; omega)
    | (refine hS.2 _ ?_; first | done | (first | omega | ((repeat' split) <;> omega) | (subst_vars; (repeat' split) <;> omega)) | (first | rfl | (rw [if_pos (by omega)]; done) | (rw [if_neg (by omega)]; done) | (rw [if_pos (by omega)]; simp [ab_up_a]; done) | (rw [if_neg (by omega)]; simp [ab_up_a]; done) | (simp [ab_up_a]; done)))
    | (refine hS.2 _ _ ?_ ?_ <;> first | done | (first | omega | ((repeat' split) <;> omega) | (subst_vars; (repeat' split) <;> omega)) | (first | rfl | (rw [if_pos (by omega)]; done) | (rw [if_neg (by omega)]; done) | (rw [if_pos (by omega)]; simp [ab_up_a]; done) | (rw [if_neg (by omega)]; simp [ab_up_a]; done) | (simp [ab_up_a]; done)))
    | (refine hS.2 _ _ ?_; first | done | (first | omega | ((repeat' split) <;> omega) | (subst_vars; (repeat' split) <;> omega)) | (first | rfl | (rw [if_pos (by omega)]; done) | (rw [if_neg (by omega)]; done) | (rw [if_pos (by omega)]; simp [ab_up_a]; done) | (rw [if_neg (by omega)]; simp [ab_up_a]; done) | (simp [ab_up_a]; done)))
    | exact hS.2
    | (refine ⟨_, ?_, rfl, ?_⟩ <;> omega)
    | (refine ⟨_, rfl, ?_⟩ <;> omega)
set_option maxRecDepth 20000 in
set_option maxHeartbeats 1000000 in
theorem ok_X8_count (E : ab_E) : ab_Ok E 1 85 S_X8_count := by
  refine ab_mk rq_X8_count tk_X8_count (rt := 1) (rfl) (cuts := []) (G := []) (fun g hg => by cases hg) (by decide) 76 rfl ?_
  intro a M K wd wa hS
  unfold S_X8_count at hS
  split at hS
  ·
    rename_i w
    refine ⟨Nat.le_of_ble_eq_true rfl, fun _ _ _ _ _ => False, ?_, ?_⟩
    · exact vc_X8_count_0 w M K  hS
    · exact fun _ _ _ _ _ h => h.elim
  · exact hS.elim
