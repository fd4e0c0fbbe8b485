/-! texts and programs, written -/
def S_X6_become : ab_PT := fun a M K => match a with
  | [.inr (.inr (.inr (o, 6, nn))), .inr (.inr (.inr (q, 6, n2)))] => (o ≠ q ∧ o + 1 ≠ q ∧ q + 1 ≠ o ∧ 0 ≤ M q 1 ∧ M q 1 ≤ ((ab_ln (q + 1) : Nat) : Int) ∧ ab_ln (q + 1) ≤ 640 ∧ ab_ln (o + 1) ≤ 640 ∧ (∀ j, 0 ≤ M (q + 1) j ∧ M (q + 1) j < 256)) ∧ (∀ Mx : ab_M, (Mx = ab_cpy (ab_up M o 1 (if ((ab_ln (o + 1) : Nat) : Int) < M q 1 then ((ab_ln (o + 1) : Nat) : Int) else M q 1)) (q + 1) 0 (o + 1) 0 (if ((ab_ln (o + 1) : Nat) : Int) < M q 1 then ((ab_ln (o + 1) : Nat) : Int) else M q 1)) → K [] Mx)
  | _ => False
set_option maxRecDepth 20000 in
theorem vc_X6_become_0 (o : Nat) (nn : Nat) (q : Nat) (n2 : Nat) (M : ab_M) (K : List ab_V → ab_M → Prop) (hS : (o ≠ q ∧ o + 1 ≠ q ∧ q + 1 ≠ o ∧ 0 ≤ M q 1 ∧ M q 1 ≤ ((ab_ln (q + 1) : Nat) : Int) ∧ ab_ln (q + 1) ≤ 640 ∧ ab_ln (o + 1) ≤ 640 ∧ (∀ j, 0 ≤ M (q + 1) j ∧ M (q + 1) j < 256)) ∧ (∀ Mx : ab_M, (Mx = ab_cpy (ab_up M o 1 (if ((ab_ln (o + 1) : Nat) : Int) < M q 1 then ((ab_ln (o + 1) : Nat) : Int) else M q 1)) (q + 1) 0 (o + 1) 0 (if ((ab_ln (o + 1) : Nat) : Int) < M q 1 then ((ab_ln (o + 1) : Nat) : Int) else M q 1)) → K [] Mx)) : (ab_ir (M q 1) ∧ ab_ir (((ab_ln (o + 1)) : Nat) : Int)) ∧ ((0 ≤ (0 : Int) ∧ 0 ≤ (0 : Int) ∧ 0 ≤ ((ab_up M o 1 (if (((ab_ln (o + 1)) : Nat) : Int) < (M q 1) then (((ab_ln (o + 1)) : Nat) : Int) else (M q 1))) o 1) ∧ (0 : Int) + ((ab_up M o 1 (if (((ab_ln (o + 1)) : Nat) : Int) < (M q 1) then (((ab_ln (o + 1)) : Nat) : Int) else (M q 1))) o 1) ≤ (((ab_ln (q + 1)) : Nat) : Int) ∧ (0 : Int) + ((ab_up M o 1 (if (((ab_ln (o + 1)) : Nat) : Int) < (M q 1) then (((ab_ln (o + 1)) : Nat) : Int) else (M q 1))) o 1) ≤ (((ab_ln (o + 1)) : Nat) : Int)) ∧ ((24 : Nat) = 24 → ∀ i : Nat, (i : Int) < ((ab_up M o 1 (if (((ab_ln (o + 1)) : Nat) : Int) < (M q 1) then (((ab_ln (o + 1)) : Nat) : Int) else (M q 1))) o 1) → 0 ≤ (ab_up M o 1 (if (((ab_ln (o + 1)) : Nat) : Int) < (M q 1) then (((ab_ln (o + 1)) : Nat) : Int) else (M q 1))) (q + 1) ((0 : Int).toNat + i) ∧ (ab_up M o 1 (if (((ab_ln (o + 1)) : Nat) : Int) < (M q 1) then (((ab_ln (o + 1)) : Nat) : Int) else (M q 1))) (q + 1) ((0 : Int).toNat + i) < 65536)) ∧ K [] (ab_cpy (ab_up M o 1 (if (((ab_ln (o + 1)) : Nat) : Int) < (M q 1) then (((ab_ln (o + 1)) : Nat) : Int) else (M q 1))) (q + 1) (0 : Int) (o + 1) (0 : Int) ((ab_up M o 1 (if (((ab_ln (o + 1)) : Nat) : Int) < (M q 1) then (((ab_ln (o + 1)) : Nat) : Int) else (M q 1))) o 1)) := by
  obtain ⟨⟨h1, h2, h3, h4, h5, h6, h7, h8⟩, h9⟩ := hS
  refine ⟨⟨⟨by omega, by omega⟩, ⟨by omega, by omega⟩⟩, ⟨⟨by omega, by omega, ?_, ?_, ?_⟩, fun _ i hi => ?_⟩, ?_⟩
  · rw [ab_up_s]; split <;> omega
  · rw [ab_up_s]; split <;> omega
  · rw [ab_up_s]; split <;> omega
  · rw [ab_up_o (by omega)]
    have := h8 ((0 : Int).toNat + i)
    omega
  · exact h9 _ (by rw [ab_up_s])
set_option maxRecDepth 20000 in
set_option maxHeartbeats 1000000 in
theorem ok_X6_become (E : ab_E) : ab_Ok E 1 69 S_X6_become := by
  refine ab_mk rq_X6_become tk_X6_become (rt := 0) (rfl) (cuts := []) (G := []) (fun g hg => by cases hg) (by decide) 68 rfl ?_
  intro a M K wd wa hS
  unfold S_X6_become at hS
  split at hS
  ·
    rename_i o nn q n2
    refine ⟨Nat.le_of_ble_eq_true rfl, fun _ _ _ _ _ => False, ?_, ?_⟩
    · exact vc_X6_become_0 o nn q n2 M K  hS
    · exact fun _ _ _ _ _ h => h.elim
  · exact hS.elim
def S_X1_reset : ab_PT := fun a M K => match a with
  | [.inr (.inr (.inr (p, 1, nn))), .inr (.inr (.inr (t, 6, n2)))] => (True) ∧ (∀ Mx : ab_M, (Mx = ab_up (ab_up (ab_up (ab_up (ab_up (ab_up M p 0 ((t : Nat) : Int)) p 3 0) p 4 (-1)) p 6 0) p 8 0) p 11 0) → K [] Mx)
  | _ => False
set_option maxRecDepth 20000 in
theorem vc_X1_reset_0 (p : Nat) (nn : Nat) (t : Nat) (n2 : Nat) (M : ab_M) (K : List ab_V → ab_M → Prop) (hS : (True) ∧ (∀ Mx : ab_M, (Mx = ab_up (ab_up (ab_up (ab_up (ab_up (ab_up M p 0 ((t : Nat) : Int)) p 3 0) p 4 (-1)) p 6 0) p 8 0) p 11 0) → K [] Mx)) : K [] (ab_up (ab_up (ab_up (ab_up (ab_up (ab_up M p 0 ((t : Nat) : Int)) p 3 (0 : Int)) p 4 (-1 : Int)) p 6 (0 : Int)) p 8 (0 : Int)) p 11 (0 : Int)) := by
  repeat' first
    | (refine And.intro ?_ ?_)
    | intro _
  all_goals first
    | omega
    | (simp [ab_up_a]; done)
    | (simp [ab_up_a]; omega)
    | (refine hS.2 _ ?_; first | done | (first | omega | ((repeat' split) <;> omega) | (subst_vars; (repeat' split) <;> omega)) | (first | rfl | (rw [if_pos (by omega)]; done) | (rw [if_neg (by omega)]; done) | (rw [if_pos (by omega)]; simp [ab_up_a]; done) | (rw [if_neg (by omega)]; simp [ab_up_a]; done) | (simp [ab_up_a]; done)))
    | (refine hS.2 _ _ ?_ ?_ <;> first | done | (first | omega | ((repeat' split) <;> omega) | (subst_vars; (repeat' split) <;> omega)) | (first | rfl | (rw [if_pos (by omega)]; done) | (rw [if_neg (by omega)]; done) | (rw [if_pos (by omega)]; simp [ab_up_a]; done) | (rw [if_neg (by omega)]; simp [ab_up_a]; done) | (simp [ab_up_a]; done)))
    | (refine hS.2 _ _ ?_; first | done | (first | omega | ((repeat' split) <;> omega) | (subst_vars; (repeat' split) <;> omega)) | (first | rfl | (rw [if_pos (by omega)]; done) | (rw [if_neg (by omega)]; done) | (rw [if_pos (by omega)]; simp [ab_up_a]; done) | (rw [if_neg (by omega)]; simp [ab_up_a]; done) | (simp [ab_up_a]; done)))
    | exact hS.2
    | (refine ⟨_, ?_, rfl, ?_⟩ <;> omega)
    | (refine ⟨_, rfl, ?_⟩ <;> omega)
set_option maxRecDepth 20000 in
set_option maxHeartbeats 1000000 in
theorem ok_X1_reset (E : ab_E) : ab_Ok E 1 26 S_X1_reset := by
  refine ab_mk rq_X1_reset tk_X1_reset (rt := 0) (rfl) (cuts := []) (G := []) (fun g hg => by cases hg) (by decide) 69 rfl ?_
  intro a M K wd wa hS
  unfold S_X1_reset at hS
  split at hS
  ·
    rename_i p nn t n2
    refine ⟨Nat.le_of_ble_eq_true rfl, fun _ _ _ _ _ => False, ?_, ?_⟩
    · exact vc_X1_reset_0 p nn t n2 M K  hS
    · exact fun _ _ _ _ _ h => h.elim
  · exact hS.elim
def S_X1_addTerm : ab_PT := fun a M K => match a with
  | [.inr (.inr (.inr (p, 1, nn))), .inr (.inl b), .inr (.inl l)] => (0 ≤ M p 11 ∧ M p 11 ≤ 64) ∧ (∀ rx : Int, ∀ Mx : ab_M, (Mx = if 64 ≤ M p 11 then M else ab_up (ab_up (ab_up M (p + 367) (M p 11).toNat b) (p + 368) (M p 11).toNat l) p 11 (M p 11 + 1)) → (rx = if 64 ≤ M p 11 then -1 else M p 11) → K [Xi rx] Mx)
  | _ => False
set_option maxRecDepth 20000 in
theorem vc_X1_addTerm_0 (p : Nat) (nn : Nat) (b : Int) (l : Int) (M : ab_M) (K : List ab_V → ab_M → Prop) (hS : (0 ≤ M p 11 ∧ M p 11 ≤ 64) ∧ (∀ rx : Int, ∀ Mx : ab_M, (Mx = if 64 ≤ M p 11 then M else ab_up (ab_up (ab_up M (p + 367) (M p 11).toNat b) (p + 368) (M p 11).toNat l) p 11 (M p 11 + 1)) → (rx = if 64 ≤ M p 11 then -1 else M p 11) → K [Xi rx] Mx)) : (-128 ≤ (64 : Int) ∧ (64 : Int) < 128) ∧ (ab_ir (M p 11) ∧ ab_ir (64 : Int)) ∧ (((M p 11) < (64 : Int) → (0 ≤ (M p 11) ∧ (M p 11) < ((64 : Nat) : Int)) ∧ (0 ≤ ((ab_up M (p + 367) ((M p 11).toNat) b) p 11) ∧ ((ab_up M (p + 367) ((M p 11).toNat) b) p 11) < ((64 : Nat) : Int)) ∧ K [Xi (((ab_up (ab_up (ab_up M (p + 367) ((M p 11).toNat) b) (p + 368) (((ab_up M (p + 367) ((M p 11).toNat) b) p 11).toNat) l) p 11 (((ab_up (ab_up M (p + 367) ((M p 11).toNat) b) (p + 368) (((ab_up M (p + 367) ((M p 11).toNat) b) p 11).toNat) l) p 11) + (1 : Int))) p 11) - (1 : Int))] (ab_up (ab_up (ab_up M (p + 367) ((M p 11).toNat) b) (p + 368) (((ab_up M (p + 367) ((M p 11).toNat) b) p 11).toNat) l) p 11 (((ab_up (ab_up M (p + 367) ((M p 11).toNat) b) (p + 368) (((ab_up M (p + 367) ((M p 11).toNat) b) p 11).toNat) l) p 11) + (1 : Int)))) ∧ ((64 : Int) ≤ (M p 11) → K [Xi (-1 : Int)] M)) := by
  repeat' first
    | (refine And.intro ?_ ?_)
    | intro _
  all_goals first
    | omega
    | (simp [ab_up_a]; done)
    | (simp [ab_up_a]; omega)
    | (refine hS.2 _ ?_; first | done | (first | omega | ((repeat' split) <;> omega) | (subst_vars; (repeat' split) <;> omega)) | (first | rfl | (rw [if_pos (by omega)]; done) | (rw [if_neg (by omega)]; done) | (rw [if_pos (by omega)]; simp [ab_up_a]; done) | (rw [if_neg (by omega)]; simp [ab_up_a]; done) | (simp [ab_up_a]; done)))
    | (refine hS.2 _ _ ?_ ?_ <;> first | done | (first | omega | ((repeat' split) <;> omega) | (subst_vars; (repeat' split) <;> omega)) | (first | rfl | (rw [if_pos (by omega)]; done) | (rw [if_neg (by omega)]; done) | (rw [if_pos (by omega)]; simp [ab_up_a]; done) | (rw [if_neg (by omega)]; simp [ab_up_a]; done) | (simp [ab_up_a]; done)))
    | (refine hS.2 _ _ ?_; first | done | (first | omega | ((repeat' split) <;> omega) | (subst_vars; (repeat' split) <;> omega)) | (first | rfl | (rw [if_pos (by omega)]; done) | (rw [if_neg (by omega)]; done) | (rw [if_pos (by omega)]; simp [ab_up_a]; done) | (rw [if_neg (by omega)]; simp [ab_up_a]; done) | (simp [ab_up_a]; done)))
    | exact hS.2
    | (refine ⟨_, ?_, rfl, ?_⟩ <;> omega)
    | (refine ⟨_, rfl, ?_⟩ <;> omega)
set_option maxRecDepth 20000 in
set_option maxHeartbeats 1000000 in
theorem ok_X1_addTerm (E : ab_E) : ab_Ok E 1 15 S_X1_addTerm := by
  refine ab_mk rq_X1_addTerm tk_X1_addTerm (rt := 1) (rfl) (cuts := []) (G := []) (fun g hg => by cases hg) (by decide) 79 rfl ?_
  intro a M K wd wa hS
  unfold S_X1_addTerm at hS
  split at hS
  ·
    rename_i p nn b l
    refine ⟨Nat.le_of_ble_eq_true rfl, fun _ _ _ _ _ => False, ?_, ?_⟩
    · exact vc_X1_addTerm_0 p nn b l M K  hS
    · exact fun _ _ _ _ _ h => h.elim
  · exact hS.elim
def S_X1_addCheck : ab_PT := fun a M K => match a with
  | [.inr (.inr (.inr (p, 1, nn))), .inr (.inl k)] => (0 ≤ M p 6 ∧ M p 6 ≤ 16) ∧ (∀ Mx : ab_M, (Mx = if 16 ≤ M p 6 then M else ab_up (ab_up M (p + 365) (M p 6).toNat k) p 6 (M p 6 + 1)) → K [] Mx)
  | _ => False
set_option maxRecDepth 20000 in
theorem vc_X1_addCheck_0 (p : Nat) (nn : Nat) (k : Int) (M : ab_M) (K : List ab_V → ab_M → Prop) (hS : (0 ≤ M p 6 ∧ M p 6 ≤ 16) ∧ (∀ Mx : ab_M, (Mx = if 16 ≤ M p 6 then M else ab_up (ab_up M (p + 365) (M p 6).toNat k) p 6 (M p 6 + 1)) → K [] Mx)) : (-128 ≤ (16 : Int) ∧ (16 : Int) < 128) ∧ (ab_ir (M p 6) ∧ ab_ir (16 : Int)) ∧ (((16 : Int) ≤ (M p 6) → K [] M) ∧ ((M p 6) < (16 : Int) → (0 ≤ (M p 6) ∧ (M p 6) < ((16 : Nat) : Int)) ∧ K [] (ab_up (ab_up M (p + 365) ((M p 6).toNat) k) p 6 (((ab_up M (p + 365) ((M p 6).toNat) k) p 6) + (1 : Int))))) := by
  repeat' first
    | (refine And.intro ?_ ?_)
    | intro _
  all_goals first
    | omega
    | (simp [ab_up_a]; done)
    | (simp [ab_up_a]; omega)
    | (refine hS.2 _ ?_; first | done | (first | omega | ((repeat' split) <;> omega) | (subst_vars; (repeat' split) <;> omega)) | (first | rfl | (rw [if_pos (by omega)]; done) | (rw [if_neg (by omega)]; done) | (rw [if_pos (by omega)]; simp [ab_up_a]; done) | (rw [if_neg (by omega)]; simp [ab_up_a]; done) | (simp [ab_up_a]; done)))
    | (refine hS.2 _ _ ?_ ?_ <;> first | done | (first | omega | ((repeat' split) <;> omega) | (subst_vars; (repeat' split) <;> omega)) | (first | rfl | (rw [if_pos (by omega)]; done) | (rw [if_neg (by omega)]; done) | (rw [if_pos (by omega)]; simp [ab_up_a]; done) | (rw [if_neg (by omega)]; simp [ab_up_a]; done) | (simp [ab_up_a]; done)))
    | (refine hS.2 _ _ ?_; first | done | (first | omega | ((repeat' split) <;> omega) | (subst_vars; (repeat' split) <;> omega)) | (first | rfl | (rw [if_pos (by omega)]; done) | (rw [if_neg (by omega)]; done) | (rw [if_pos (by omega)]; simp [ab_up_a]; done) | (rw [if_neg (by omega)]; simp [ab_up_a]; done) | (simp [ab_up_a]; done)))
    | exact hS.2
    | (refine ⟨_, ?_, rfl, ?_⟩ <;> omega)
    | (refine ⟨_, rfl, ?_⟩ <;> omega)
set_option maxRecDepth 20000 in
set_option maxHeartbeats 1000000 in
theorem ok_X1_addCheck (E : ab_E) : ab_Ok E 1 13 S_X1_addCheck := by
  refine ab_mk rq_X1_addCheck tk_X1_addCheck (rt := 0) (rfl) (cuts := []) (G := []) (fun g hg => by cases hg) (by decide) 67 rfl ?_
  intro a M K wd wa hS
  unfold S_X1_addCheck at hS
  split at hS
  ·
    rename_i p nn k
    refine ⟨Nat.le_of_ble_eq_true rfl, fun _ _ _ _ _ => False, ?_, ?_⟩
    · exact vc_X1_addCheck_0 p nn k M K  hS
    · exact fun _ _ _ _ _ h => h.elim
  · exact hS.elim
def S_X1_addLoop : ab_PT := fun a M K => match a with
  | [.inr (.inr (.inr (p, 1, nn))), .inr (.inl k)] => (0 ≤ M p 8 ∧ M p 8 ≤ 4) ∧ (∀ Mx : ab_M, (Mx = if 4 ≤ M p 8 then M else ab_up (ab_up M (p + 366) (M p 8).toNat k) p 8 (M p 8 + 1)) → K [] Mx)
  | _ => False
set_option maxRecDepth 20000 in
theorem vc_X1_addLoop_0 (p : Nat) (nn : Nat) (k : Int) (M : ab_M) (K : List ab_V → ab_M → Prop) (hS : (0 ≤ M p 8 ∧ M p 8 ≤ 4) ∧ (∀ Mx : ab_M, (Mx = if 4 ≤ M p 8 then M else ab_up (ab_up M (p + 366) (M p 8).toNat k) p 8 (M p 8 + 1)) → K [] Mx)) : (ab_ir (M p 8) ∧ ab_ir (4 : Int)) ∧ (((4 : Int) ≤ (M p 8) → K [] M) ∧ ((M p 8) < (4 : Int) → (0 ≤ (M p 8) ∧ (M p 8) < ((4 : Nat) : Int)) ∧ K [] (ab_up (ab_up M (p + 366) ((M p 8).toNat) k) p 8 (((ab_up M (p + 366) ((M p 8).toNat) k) p 8) + (1 : Int))))) := by
  repeat' first
    | (refine And.intro ?_ ?_)
    | intro _
  all_goals first
    | omega
    | (simp [ab_up_a]; done)
    | (simp [ab_up_a]; omega)
    | (refine hS.2 _ ?_; first | done | (first | omega | ((repeat' split) <;> omega) | (subst_vars; (repeat' split) <;> omega)) | (first | rfl | (rw [if_pos (by omega)]; done) | (rw [if_neg (by omega)]; done) | (rw [if_pos (by omega)]; simp [ab_up_a]; done) | (rw [if_neg (by omega)]; simp [ab_up_a]; done) | (simp [ab_up_a]; done)))
    | (refine hS.2 _ _ ?_ ?_ <;> first | done | (first | omega | ((repeat' split) <;> omega) | (subst_vars; (repeat' split) <;> omega)) | (first | rfl | (rw [if_pos (by omega)]; done) | (rw [if_neg (by omega)]; done) | (rw [if_pos (by omega)]; simp [ab_up_a]; done) | (rw [if_neg (by omega)]; simp [ab_up_a]; done) | (simp [ab_up_a]; done)))
    | (refine hS.2 _ _ ?_; first | done | (first | omega | ((repeat' split) <;> omega) | (subst_vars; (repeat' split) <;> omega)) | (first | rfl | (rw [if_pos (by omega)]; done) | (rw [if_neg (by omega)]; done) | (rw [if_pos (by omega)]; simp [ab_up_a]; done) | (rw [if_neg (by omega)]; simp [ab_up_a]; done) | (simp [ab_up_a]; done)))
    | exact hS.2
    | (refine ⟨_, ?_, rfl, ?_⟩ <;> omega)
    | (refine ⟨_, rfl, ?_⟩ <;> omega)
set_option maxRecDepth 20000 in
set_option maxHeartbeats 1000000 in
theorem ok_X1_addLoop (E : ab_E) : ab_Ok E 1 14 S_X1_addLoop := by
  refine ab_mk rq_X1_addLoop tk_X1_addLoop (rt := 0) (rfl) (cuts := []) (G := []) (fun g hg => by cases hg) (by decide) 67 rfl ?_
  intro a M K wd wa hS
  unfold S_X1_addLoop at hS
  split at hS
  ·
    rename_i p nn k
    refine ⟨Nat.le_of_ble_eq_true rfl, fun _ _ _ _ _ => False, ?_, ?_⟩
    · exact vc_X1_addLoop_0 p nn k M K  hS
    · exact fun _ _ _ _ _ h => h.elim
  · exact hS.elim
