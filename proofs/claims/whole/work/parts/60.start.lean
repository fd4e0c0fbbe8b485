/-! the class: its reader begins; rows put into statements -/
/-- what start() does -/
def cr_ST (o p : Nat) (M M' : ab_M) : Prop := cr_ok o p M' ∧ cr_st o M' 0 (-9) ∧ (M' p 3 = 0 ∧ M' p 4 = -1 ∧ M' p 6 = 0 ∧ M' p 8 = 0 ∧ M' p 11 = 0 ∧ M' 764 8 = 0 ∧ M' 764 9 = 0 ∧ M' 767 0 = -1) ∧ (∀ o' k' : Nat, ¬ o' = 764 → ¬ (o' = 767 ∧ k' = 0) → ¬ (o' = p ∧ ¬ k' = 0) → M' o' k' = M o' k')
theorem cr_st0 {o p : Nat} {M N M' : ab_M} (hop : cr_op o p) (hl : 0 ≤ M o 1 ∧ M o 1 ≤ (if o = 1 then 120 else 640)) (hc : ∀ j, 0 ≤ M (o + 1) j ∧ M (o + 1) j < 256) (h0 : N 764 0 = (o : Int)) (h1 : N 764 1 = (p : Int)) (h4 : N 764 4 = -1) (ho : N o 1 = M o 1) (hoo : ∀ j, N (o + 1) j = M (o + 1) j) {j : Nat} (hj : cr_to N 0 j) (hM : M' = ab_up (ab_up N 764 2 (j : Int)) 764 3 (cr_sg N j)) : cr_ok o p M' ∧ cr_st o M' 0 (-9) := by
  have hne := cr_op_ne hop
  unfold cr_to at hj
  unfold cr_sg at hM
  rw [h0, Int.toNat_natCast] at hj hM
  obtain ⟨j1, j2, j3, j4⟩ := hj
  have hk : ∀ o' k', ¬ (o' = 764 ∧ (k' = 2 ∨ k' = 3)) → M' o' k' = N o' k' := fun o' k' g => by rw [hM, up_ne (by omega), up_ne (by omega)]
  have e1 : M' o 1 = M o 1 := by rw [hk _ _ (by omega), ho]
  have e2 : ∀ i, M' (o + 1) i = M (o + 1) i := fun i => by rw [hk _ _ (by omega), hoo]
  refine ⟨⟨by rw [hk _ _ (by omega)]; exact h0, by rw [hk _ _ (by omega)]; exact h1, hop, by rw [e1]; exact hl.1, by rw [e1]; exact hl.2, fun i => by rw [e2]; exact hc i⟩, Or.inl ⟨rfl, by rw [hk _ _ (by omega)]; exact h4, j, ⟨?_, by rw [e1, ← ho]; exact j2, fun q => by rw [e2, ← hoo]; rw [e1, ← ho] at q; exact j3 q, ?_⟩, ?_⟩⟩
  · rw [hM, up_ne (by omega), ab_up_s]
  · rw [e1, e2, hM, ab_up_s, ho, hoo]
  · show (0 : Int) = (((pz_pos (M' (o + 1)) j).length : Nat) : Int)
    rw [pz_pos_skip (M' (o + 1)) (Nat.zero_le j) (fun m _ b => by rw [e2, ← hoo]; exact j4 m (by omega) b)]
    rfl
/-- the row behind a block; where a block is entered; the rows behind, of throws -/
def cr_rb (M : ab_M) (w : Nat) : Int := if M w 0 = 119 then 122 + M w 5 else M w 15
def cr_en (M : ab_M) (w k : Nat) : Int := if 0 ≤ M (w + 1) k then M (w + 1) k else cr_rb M w
abbrev cr_ow (M : ab_M) (p s : Nat) : Nat := p + 1 + 1 + 3 * (M s 8).toNat
def cr_aft (M : ab_M) (p s : Nat) : Int := if 0 ≤ M s 10 then M s 10 else if 0 ≤ M s 8 then cr_rb M (cr_ow M p s) else 120
def cr_cau (M : ab_M) (p s : Nat) : Int := if 0 ≤ M s 8 then (if M (cr_ow M p s) 0 = 121 ∧ M s 9 = 0 then cr_en M (cr_ow M p s) 1 else M (cr_ow M p s) 16) else 121
def cr_go (M : ab_M) (s : Nat) : Int := if M s 0 = 116 then M s 16 else if M s 0 = 105 ∨ M s 0 = 119 ∨ M s 0 = 121 then cr_en M s 0 else M s 15
def cr_ot (M : ab_M) (s : Nat) : Int := if M s 0 = 105 then cr_en M s 1 else M s 15
theorem cr_en_up {M : ab_M} {s w k : Nat} {x : Int} (h : ¬ w + 1 = s) : cr_en (ab_up M s 15 x) w k = if w = s then cr_en (ab_up M s 15 x) w k else cr_en M w k := by
  by_cases q : w = s
  · rw [if_pos q]
  · rw [if_neg q]
    unfold cr_en cr_rb
    simp only [ab_up_2, q, h, if_false]
theorem cr_up2 {M : ab_M} {s : Nat} {A B A' B' : Int} (h1 : A = A') (h2 : B = B') : ab_up (ab_up M s 15 A) s 16 B = ab_up (ab_up M s 15 A') s 16 B' := by rw [h1, h2]

def S_X8_stateWith : ab_PT := fun a M K => match a with
  | [.inr (.inl s), .inr (.inl v), .inr (.inl x)] => (True) ∧ (∀ rx : Int, (rx = ab_or (ab_and s (ab_xor (ab_shl (4 - 1) (6 - 2 * v)) (-1))) (ab_shl x (6 - 2 * v))) → K [Xi rx] M)
  | _ => False
set_option maxRecDepth 20000 in
theorem vc_X8_stateWith_0 (s : Int) (v : Int) (x : Int) (M : ab_M) (K : List ab_V → ab_M → Prop) (hS : (True) ∧ (∀ rx : Int, (rx = ab_or (ab_and s (ab_xor (ab_shl (4 - 1) (6 - 2 * v)) (-1))) (ab_shl x (6 - 2 * v))) → K [Xi rx] M)) : (-128 ≤ (6 : Int) ∧ (6 : Int) < 128) ∧ K [Xi (ab_or (ab_and s (ab_xor (ab_shl (3 : Int) ((6 : Int) - ((2 : Int) * v))) (-1 : Int))) (ab_shl x ((6 : Int) - ((2 : Int) * v))))] M := by
  repeat' first
    | (refine And.intro ?_ ?_)
    | intro _
  all_goals first
    | omega
    | (simp [ab_up_a]; done)
    | (simp [ab_up_a]; omega)
    | (refine hS.2 _ ?_; first | done | (first | omega | ((repeat' split) <;> omega) | (subst_vars; (repeat' split) <;> omega)) | (first | rfl | (rw [if_pos (by omega)]; done) | (rw [if_neg (by omega)]; done) | (rw [if_pos (by omega)]; simp [ab_up_a]; done) | (rw [if_neg (by omega)]; simp [ab_up_a]; done) | (simp [ab_up_a]; done)))
    | (refine hS.2 _ _ ?_ ?_ <;> first | done | (first | omega | ((repeat' split) <;> omega) | (subst_vars; (repeat' split) <;> omega)) | (first | rfl | (rw [if_pos (by omega)]; done) | (rw [if_neg (by omega)]; done) | (rw [if_pos (by omega)]; simp [ab_up_a]; done) | (rw [if_neg (by omega)]; simp [ab_up_a]; done) | (simp [ab_up_a]; done)))
    | (refine hS.2 _ _ ?_; first | done | (first | omega | ((repeat' split) <;> omega) | (subst_vars; (repeat' split) <;> omega)) | (first | rfl | (rw [if_pos (by omega)]; done) | (rw [if_neg (by omega)]; done) | (rw [if_pos (by omega)]; simp [ab_up_a]; done) | (rw [if_neg (by omega)]; simp [ab_up_a]; done) | (simp [ab_up_a]; done)))
    | exact hS.2
    | (refine ⟨_, ?_, rfl, ?_⟩ <;> omega)
    | (refine ⟨_, rfl, ?_⟩ <;> omega)
set_option maxRecDepth 20000 in
set_option maxHeartbeats 1000000 in
theorem ok_X8_stateWith (E : ab_E) : ab_Ok E 1 110 S_X8_stateWith := by
  refine ab_mk rq_X8_stateWith tk_X8_stateWith (rt := 1) (rfl) (cuts := []) (G := []) (fun g hg => by cases hg) (by decide) 68 rfl ?_
  intro a M K wd wa hS
  unfold S_X8_stateWith at hS
  split at hS
  ·
    rename_i s v x
    refine ⟨Nat.le_of_ble_eq_true rfl, fun _ _ _ _ _ => False, ?_, ?_⟩
    · exact vc_X8_stateWith_0 s v x M K  hS
    · exact fun _ _ _ _ _ h => h.elim
  · exact hS.elim
def S_X8_valueIn : ab_PT := fun a M K => match a with
  | [.inr (.inl s), .inr (.inl v)] => (True) ∧ (∀ rx : Int, (rx = ab_and (ab_shr s (6 - 2 * v)) (4 - 1)) → K [Xi rx] M)
  | _ => False
set_option maxRecDepth 20000 in
theorem vc_X8_valueIn_0 (s : Int) (v : Int) (M : ab_M) (K : List ab_V → ab_M → Prop) (hS : (True) ∧ (∀ rx : Int, (rx = ab_and (ab_shr s (6 - 2 * v)) (4 - 1)) → K [Xi rx] M)) : (-128 ≤ (6 : Int) ∧ (6 : Int) < 128) ∧ K [Xi (ab_and (ab_shr s ((6 : Int) - ((2 : Int) * v))) (3 : Int))] M := by
  repeat' first
    | (refine And.intro ?_ ?_)
    | intro _
  all_goals first
    | omega
    | (simp [ab_up_a]; done)
    | (simp [ab_up_a]; omega)
    | (refine hS.2 _ ?_; first | done | (first | omega | ((repeat' split) <;> omega) | (subst_vars; (repeat' split) <;> omega)) | (first | rfl | (rw [if_pos (by omega)]; done) | (rw [if_neg (by omega)]; done) | (rw [if_pos (by omega)]; simp [ab_up_a]; done) | (rw [if_neg (by omega)]; simp [ab_up_a]; done) | (simp [ab_up_a]; done)))
    | (refine hS.2 _ _ ?_ ?_ <;> first | done | (first | omega | ((repeat' split) <;> omega) | (subst_vars; (repeat' split) <;> omega)) | (first | rfl | (rw [if_pos (by omega)]; done) | (rw [if_neg (by omega)]; done) | (rw [if_pos (by omega)]; simp [ab_up_a]; done) | (rw [if_neg (by omega)]; simp [ab_up_a]; done) | (simp [ab_up_a]; done)))
    | (refine hS.2 _ _ ?_; first | done | (first | omega | ((repeat' split) <;> omega) | (subst_vars; (repeat' split) <;> omega)) | (first | rfl | (rw [if_pos (by omega)]; done) | (rw [if_neg (by omega)]; done) | (rw [if_pos (by omega)]; simp [ab_up_a]; done) | (rw [if_neg (by omega)]; simp [ab_up_a]; done) | (simp [ab_up_a]; done)))
    | exact hS.2
    | (refine ⟨_, ?_, rfl, ?_⟩ <;> omega)
    | (refine ⟨_, rfl, ?_⟩ <;> omega)
set_option maxRecDepth 20000 in
set_option maxHeartbeats 1000000 in
theorem ok_X8_valueIn (E : ab_E) : ab_Ok E 1 114 S_X8_valueIn := by
  refine ab_mk rq_X8_valueIn tk_X8_valueIn (rt := 1) (rfl) (cuts := []) (G := []) (fun g hg => by cases hg) (by decide) 60 rfl ?_
  intro a M K wd wa hS
  unfold S_X8_valueIn at hS
  split at hS
  ·
    rename_i s v
    refine ⟨Nat.le_of_ble_eq_true rfl, fun _ _ _ _ _ => False, ?_, ?_⟩
    · exact vc_X8_valueIn_0 s v M K  hS
    · exact fun _ _ _ _ _ h => h.elim
  · exact hS.elim
def S_X2_start : ab_PT := fun a M K => match a with
  | [.inr (.inr (.inr (764, 2, 0))), .inr (.inr (.inr (o, 6, n1))), .inr (.inr (.inr (p, 1, n2)))] => (cr_op o p ∧ M p 0 = (o : Int) ∧ (0 ≤ M o 1 ∧ M o 1 ≤ (if o = 1 then 120 else 640)) ∧ ∀ j, 0 ≤ M (o + 1) j ∧ M (o + 1) j < 256) ∧ (∀ Mx : ab_M, (cr_ST o p M Mx) → K [] Mx)
  | _ => False
set_option maxRecDepth 20000 in
theorem vc_X2_start_0 (o : Nat) (n1 : Nat) (p : Nat) (n2 : Nat) (M : ab_M) (K : List ab_V → ab_M → Prop) (hS : (cr_op o p ∧ M p 0 = (o : Int) ∧ (0 ≤ M o 1 ∧ M o 1 ≤ (if o = 1 then 120 else 640)) ∧ ∀ j, 0 ≤ M (o + 1) j ∧ M (o + 1) j < 256) ∧ (∀ Mx : ab_M, (cr_ST o p M Mx) → K [] Mx)) : (0 ≤ ((p : Nat) : Int) ∧ ab_wf (Xr (((p : Nat) : Int).toNat) 1 0)) ∧ (True) ∧ (∀ M15 : ab_M, (M15 = ab_up (ab_up (ab_up (ab_up (ab_up (ab_up (ab_up (ab_up M 764 0 ((o : Nat) : Int)) 764 1 ((p : Nat) : Int)) (((p : Nat) : Int).toNat) 0 ((o : Nat) : Int)) (((p : Nat) : Int).toNat) 3 0) (((p : Nat) : Int).toNat) 4 (-1)) (((p : Nat) : Int).toNat) 6 0) (((p : Nat) : Int).toNat) 8 0) (((p : Nat) : Int).toNat) 11 0) → (0 ≤ (0 : Int) ∧ (0 : Int) < ((121 : Nat) : Int)) ∧ ((∃ o p, cr_ok o p (ab_up (ab_up (ab_up (ab_up M15 764 4 (-1 : Int)) 764 8 (0 : Int)) 764 9 (0 : Int)) 767 0 (-1 : Int))) ∧ 0 ≤ (0 : Int) ∧ (0 : Int) ≤ (ab_up (ab_up (ab_up (ab_up M15 764 4 (-1 : Int)) 764 8 (0 : Int)) 764 9 (0 : Int)) 767 0 (-1 : Int)) ((ab_up (ab_up (ab_up (ab_up M15 764 4 (-1 : Int)) 764 8 (0 : Int)) 764 9 (0 : Int)) 767 0 (-1 : Int)) 764 0).toNat 1) ∧ (∀ M42 : ab_M, (∃ j : Nat, cr_to (ab_up (ab_up (ab_up (ab_up M15 764 4 (-1 : Int)) 764 8 (0 : Int)) 764 9 (0 : Int)) 767 0 (-1 : Int)) (0 : Int) j ∧ M42 = ab_up (ab_up (ab_up (ab_up (ab_up (ab_up M15 764 4 (-1 : Int)) 764 8 (0 : Int)) 764 9 (0 : Int)) 767 0 (-1 : Int)) 764 2 (j : Int)) 764 3 (cr_sg (ab_up (ab_up (ab_up (ab_up M15 764 4 (-1 : Int)) 764 8 (0 : Int)) 764 9 (0 : Int)) 767 0 (-1 : Int)) j)) → K [] M42)) := by
  obtain ⟨⟨hop, hp0, hl, hc⟩, gK⟩ := hS
  have hpp := cr_opp hop
  have hne := cr_neq0 hpp
  have hwp := cr_wp hop
  have hoo : ¬ o = 764 ∧ ¬ o = 767 ∧ ¬ o = p ∧ ¬ o + 1 = 764 ∧ ¬ o + 1 = 767 ∧ ¬ o + 1 = p := by
    rcases hop with ⟨z, z'⟩ | ⟨z, z'⟩ <;> (refine ⟨?_, ?_, ?_, ?_, ?_, ?_⟩ <;> omega)
  simp only [Int.toNat_natCast]
  refine And.intro (by
    first
      | exact hwp
      | exact trivial
      | exact ⟨by decide, by decide⟩
      | omega) ?_
  refine And.intro trivial ?_
  intro M15 hM15
  subst hM15
  simp only [ab_up_2, hne, Nat.reduceEqDiff, if_false, if_true]
  refine And.intro (by
    first
      | exact hwp
      | exact trivial
      | exact ⟨by decide, by decide⟩
      | omega) ?_
  refine And.intro (by
    refine ⟨⟨o, p, ?_⟩, Int.le_refl 0, ?_⟩
    · refine ⟨?_, ?_, hop, ?_, ?_, fun j => ?_⟩
      all_goals simp only [ab_up_2, hne, hoo, Nat.reduceEqDiff, if_false, if_true]
      · exact hl.1
      · exact hl.2
      · exact hc j
    · simp only [ab_up_2, hne, hoo, Nat.reduceEqDiff, if_false, if_true, Int.toNat_natCast]
      exact hl.1) ?_
  intro M42 hM42
  obtain ⟨j, hj, hM42⟩ := hM42
  refine gK _ ?_
  have hst := cr_st0 hop hl hc (by simp only [ab_up_2, hne, Nat.reduceEqDiff, if_false, if_true]) (by simp only [ab_up_2, hne, Nat.reduceEqDiff, if_false, if_true]) (by simp only [ab_up_2, hne, Nat.reduceEqDiff, if_false, if_true]) (by simp only [ab_up_2, hne, hoo, Nat.reduceEqDiff, if_false, if_true]) (fun j => by simp only [ab_up_2, hne, hoo, Nat.reduceEqDiff, if_false, if_true]) hj hM42
  refine ⟨hst.1, hst.2, ⟨?_, ?_, ?_, ?_, ?_, ?_, ?_, ?_⟩, fun o' k' g1 g2 g3 => ?_⟩
  all_goals rw [hM42]
  all_goals first
    | (simp only [ab_up_2, hne, Nat.reduceEqDiff, if_false, if_true]; done)
    | (simp only [ab_up_2, Nat.reduceEqDiff, if_false, if_true, g1]
       by_cases qp : o' = p
       · have q0 : k' = 0 := by
           by_cases z : k' = 0
           · exact z
           · exact absurd ⟨qp, z⟩ g3
         subst q0
         rw [qp]
         simp only [hne, Nat.reduceEqDiff, if_false, if_true]
         exact hp0.symm
       simp only [qp, if_false]
       by_cases q : o' = 767
       · rw [if_pos q, if_neg (fun z => g2 ⟨q, z⟩)]
       · rw [if_neg q])

set_option maxRecDepth 20000 in
set_option maxHeartbeats 1000000 in
theorem ok_X2_start (E : ab_E) : ab_Ok E 3 43 S_X2_start := by
  refine ab_mk rq_X2_start tk_X2_start (rt := 0) (rfl) (cuts := []) (G := [(26, S_X1_reset), (37, S_X2_moveTo)]) (List.forall_mem_cons.mpr ⟨⟨1, by decide, ok_X1_reset E⟩, List.forall_mem_cons.mpr ⟨⟨2, by decide, ok_X2_moveTo E⟩, fun _ h => absurd h List.not_mem_nil⟩⟩) (by decide) 78 rfl ?_
  intro a M K wd wa hS
  unfold S_X2_start at hS
  split at hS
  ·
    rename_i o n1 p n2
    refine ⟨Nat.le_of_ble_eq_true rfl, fun _ _ _ _ _ => False, ?_, ?_⟩
    · exact vc_X2_start_0 o n1 p n2 M K  hS
    · exact fun _ _ _ _ _ h => h.elim
  · exact hS.elim
def S_X1_rowBehindBlock : ab_PT := fun a M K => match a with
  | [.inr (.inr (.inr (p, 1, n1))), .inr (.inr (.inr (w, 4, n2)))] => (ab_ir (M w 0)) ∧ (∀ rx : Int, (rx = cr_rb M w) → K [Xi rx] M)
  | _ => False
set_option maxRecDepth 20000 in
theorem vc_X1_rowBehindBlock_0 (p : Nat) (n1 : Nat) (w : Nat) (n2 : Nat) (M : ab_M) (K : List ab_V → ab_M → Prop) (hS : (ab_ir (M w 0)) ∧ (∀ rx : Int, (rx = cr_rb M w) → K [Xi rx] M)) : (ab_ir (M w 0)) ∧ (∀ r1 : Int, (r1 = if M w 0 = 119 then 1 else 0) → (ab_ir r1) ∧ ((r1 = 0 → K [Xi (M w 15)] M) ∧ (¬ r1 = 0 → (-128 ≤ (122 : Int) ∧ (122 : Int) < 128) ∧ K [Xi ((122 : Int) + (M w 5))] M))) := by
  obtain ⟨h1, gK⟩ := hS
  refine And.intro (by
    first
      | exact h1
      | (rw [hr1]; split <;> exact ⟨by decide, by decide⟩)
      | omega) ?_
  intro r1 hr1
  refine And.intro (by
    first
      | exact h1
      | (rw [hr1]; split <;> exact ⟨by decide, by decide⟩)
      | omega) ?_
  refine ⟨?_, ?_⟩
  · intro c4
    rw [hr1] at c4
    rw [ab_bf] at c4
    clear hr1 r1
    refine gK _ ?_
    unfold cr_rb
    first
      | (rw [if_pos (by omega)]; done)
      | (rw [if_neg (by omega)]; done)
  · intro c4
    rw [hr1] at c4
    rw [ab_bt] at c4
    clear hr1 r1
    refine And.intro (by
      first
        | exact h1
        | (rw [hr1]; split <;> exact ⟨by decide, by decide⟩)
        | omega) ?_
    refine gK _ ?_
    unfold cr_rb
    first
      | (rw [if_pos (by omega)]; done)
      | (rw [if_neg (by omega)]; done)

set_option maxRecDepth 20000 in
set_option maxHeartbeats 1000000 in
theorem ok_X1_rowBehindBlock (E : ab_E) : ab_Ok E 2 27 S_X1_rowBehindBlock := by
  refine ab_mk rq_X1_rowBehindBlock tk_X1_rowBehindBlock (rt := 1) (rfl) (cuts := []) (G := [(56, S_X4_isLoop)]) (List.forall_mem_cons.mpr ⟨⟨1, by decide, ok_X4_isLoop E⟩, fun _ h => absurd h List.not_mem_nil⟩) (by decide) 61 rfl ?_
  intro a M K wd wa hS
  unfold S_X1_rowBehindBlock at hS
  split at hS
  ·
    rename_i p n1 w n2
    refine ⟨Nat.le_of_ble_eq_true rfl, fun _ _ _ _ _ => False, ?_, ?_⟩
    · exact vc_X1_rowBehindBlock_0 p n1 w n2 M K  hS
    · exact fun _ _ _ _ _ h => h.elim
  · exact hS.elim
def S_X1_entry : ab_PT := fun a M K => match a with
  | [.inr (.inr (.inr (p, 1, n1))), .inr (.inr (.inr (w, 4, n2))), .inr (.inl k)] => (ab_ir (M w 0) ∧ ab_ir (M (w + 1) k.toNat) ∧ 0 ≤ k ∧ k < 2) ∧ (∀ rx : Int, (rx = cr_en M w k.toNat) → K [Xi rx] M)
  | _ => False
set_option maxRecDepth 20000 in
theorem vc_X1_entry_0 (p : Nat) (n1 : Nat) (w : Nat) (n2 : Nat) (k : Int) (M : ab_M) (K : List ab_V → ab_M → Prop) (hS : (ab_ir (M w 0) ∧ ab_ir (M (w + 1) k.toNat) ∧ 0 ≤ k ∧ k < 2) ∧ (∀ rx : Int, (rx = cr_en M w k.toNat) → K [Xi rx] M)) : (0 ≤ k ∧ k < ((2 : Nat) : Int)) ∧ (ab_ir (M (w + 1) k.toNat)) ∧ (((M (w + 1) k.toNat) < 0 → (ab_ir (M w 0)) ∧ (∀ r20 : Int, (r20 = cr_rb M w) → K [Xi r20] M)) ∧ (0 ≤ (M (w + 1) k.toNat) → (0 ≤ k ∧ k < ((2 : Nat) : Int)) ∧ K [Xi (M (w + 1) k.toNat)] M)) := by
  obtain ⟨⟨h1, h2, h3, h4⟩, gK⟩ := hS
  refine And.intro (by
    first
      | exact h1
      | exact h2
      | omega) ?_
  refine And.intro (by
    first
      | exact h1
      | exact h2
      | omega) ?_
  refine ⟨?_, ?_⟩
  · intro c6
    refine And.intro (by
      first
        | exact h1
        | exact h2
        | omega) ?_
    intro r20 hr20
    refine gK _ ?_
    unfold cr_en
    first
      | (rw [if_pos (by omega)]; done)
      | (rw [if_neg (by omega)]; assumption)
  · intro c6
    refine And.intro (by
      first
        | exact h1
        | exact h2
        | omega) ?_
    refine gK _ ?_
    unfold cr_en
    first
      | (rw [if_pos (by omega)]; done)
      | (rw [if_neg (by omega)]; assumption)

set_option maxRecDepth 20000 in
set_option maxHeartbeats 1000000 in
theorem ok_X1_entry (E : ab_E) : ab_Ok E 3 17 S_X1_entry := by
  refine ab_mk rq_X1_entry tk_X1_entry (rt := 1) (rfl) (cuts := []) (G := [(27, S_X1_rowBehindBlock)]) (List.forall_mem_cons.mpr ⟨⟨2, by decide, ok_X1_rowBehindBlock E⟩, fun _ h => absurd h List.not_mem_nil⟩) (by decide) 64 rfl ?_
  intro a M K wd wa hS
  unfold S_X1_entry at hS
  split at hS
  ·
    rename_i p n1 w n2 k
    refine ⟨Nat.le_of_ble_eq_true rfl, fun _ _ _ _ _ => False, ?_, ?_⟩
    · exact vc_X1_entry_0 p n1 w n2 k M K  hS
    · exact fun _ _ _ _ _ h => h.elim
  · exact hS.elim
def S_X1_linkOut : ab_PT := fun a M K => match a with
  | [.inr (.inr (.inr (p, 1, n1))), .inr (.inr (.inr (s, 4, n2)))] => ((0 ≤ M p 3 ∧ M p 3 ≤ 120) ∧ (ab_ir (M s 8) ∧ ab_ir (M s 9) ∧ ab_ir (M s 10)) ∧ (0 ≤ M s 8 → M s 8 < M p 3 ∧ ab_ir (M (cr_ow M p s) 0) ∧ ab_ir (M (cr_ow M p s + 1) 1) ∧ ¬ cr_ow M p s = s ∧ ¬ cr_ow M p s + 1 = s)) ∧ (∀ Mx : ab_M, (Mx = ab_up (ab_up M s 15 (cr_aft M p s)) s 16 (cr_cau M p s)) → K [] Mx)
  | _ => False
set_option maxRecDepth 20000 in
theorem vc_X1_linkOut_0 (p : Nat) (n1 : Nat) (s : Nat) (n2 : Nat) (M : ab_M) (K : List ab_V → ab_M → Prop) (hS : ((0 ≤ M p 3 ∧ M p 3 ≤ 120) ∧ (ab_ir (M s 8) ∧ ab_ir (M s 9) ∧ ab_ir (M s 10)) ∧ (0 ≤ M s 8 → M s 8 < M p 3 ∧ ab_ir (M (cr_ow M p s) 0) ∧ ab_ir (M (cr_ow M p s + 1) 1) ∧ ¬ cr_ow M p s = s ∧ ¬ cr_ow M p s + 1 = s)) ∧ (∀ Mx : ab_M, (Mx = ab_up (ab_up M s 15 (cr_aft M p s)) s 16 (cr_cau M p s)) → K [] Mx)) : (ab_ir (M s 8) ∧ 0 ≤ M p 3 ∧ M p 3 ≤ 120) ∧ (∀ o5 : Nat, (o5 = if 0 ≤ (M s 8) ∧ (M s 8) < M p 3 then p + 1 + 1 + 3 * (M s 8).toNat else p + 362) → (ab_ir (M s 8)) ∧ (((M s 8) < 0 → (ab_ir (M s 10)) ∧ (((M s 10) < 0 → (ab_ir (0 : Int)) ∧ (((0 : Int) = 0 → (-128 ≤ (120 : Int) ∧ (120 : Int) < 128) ∧ (ab_ir (0 : Int)) ∧ (((0 : Int) = 0 → (ab_ir (0 : Int)) ∧ (((0 : Int) = 0 → (-128 ≤ (121 : Int) ∧ (121 : Int) < 128) ∧ K [] (ab_up (ab_up M s 15 (120 : Int)) s 16 (121 : Int))) ∧ (¬ (0 : Int) = 0 → K [] (ab_up (ab_up M s 15 (120 : Int)) s 16 ((ab_up M s 15 (120 : Int)) o5 16))))) ∧ (¬ (0 : Int) = 0 → (-128 ≤ (121 : Int) ∧ (121 : Int) < 128) ∧ (ab_ir ((ab_up M s 15 (120 : Int)) o5 0) ∧ ab_ir (121 : Int)) ∧ ((¬ ((ab_up M s 15 (120 : Int)) o5 0) = (121 : Int) → (ab_ir (0 : Int)) ∧ (((0 : Int) = 0 → (-128 ≤ (121 : Int) ∧ (121 : Int) < 128) ∧ K [] (ab_up (ab_up M s 15 (120 : Int)) s 16 (121 : Int))) ∧ (¬ (0 : Int) = 0 → K [] (ab_up (ab_up M s 15 (120 : Int)) s 16 ((ab_up M s 15 (120 : Int)) o5 16))))) ∧ (((ab_up M s 15 (120 : Int)) o5 0) = (121 : Int) → (ab_ir ((ab_up M s 15 (120 : Int)) s 9)) ∧ ((¬ ((ab_up M s 15 (120 : Int)) s 9) = 0 → (ab_ir (0 : Int)) ∧ (((0 : Int) = 0 → (-128 ≤ (121 : Int) ∧ (121 : Int) < 128) ∧ K [] (ab_up (ab_up M s 15 (120 : Int)) s 16 (121 : Int))) ∧ (¬ (0 : Int) = 0 → K [] (ab_up (ab_up M s 15 (120 : Int)) s 16 ((ab_up M s 15 (120 : Int)) o5 16))))) ∧ (((ab_up M s 15 (120 : Int)) s 9) = 0 → (ab_ir ((ab_up M s 15 (120 : Int)) o5 0) ∧ ab_ir ((ab_up M s 15 (120 : Int)) (o5 + 1) (1 : Int).toNat) ∧ 0 ≤ (1 : Int) ∧ (1 : Int) < 2) ∧ (∀ r82 : Int, (r82 = cr_en (ab_up M s 15 (120 : Int)) o5 (1 : Int).toNat) → K [] (ab_up (ab_up M s 15 (120 : Int)) s 16 r82))))))))) ∧ (¬ (0 : Int) = 0 → (ab_ir (M o5 0)) ∧ (∀ r47 : Int, (r47 = cr_rb M o5) → (ab_ir (0 : Int)) ∧ (((0 : Int) = 0 → (ab_ir (0 : Int)) ∧ (((0 : Int) = 0 → (-128 ≤ (121 : Int) ∧ (121 : Int) < 128) ∧ K [] (ab_up (ab_up M s 15 r47) s 16 (121 : Int))) ∧ (¬ (0 : Int) = 0 → K [] (ab_up (ab_up M s 15 r47) s 16 ((ab_up M s 15 r47) o5 16))))) ∧ (¬ (0 : Int) = 0 → (-128 ≤ (121 : Int) ∧ (121 : Int) < 128) ∧ (ab_ir ((ab_up M s 15 r47) o5 0) ∧ ab_ir (121 : Int)) ∧ ((¬ ((ab_up M s 15 r47) o5 0) = (121 : Int) → (ab_ir (0 : Int)) ∧ (((0 : Int) = 0 → (-128 ≤ (121 : Int) ∧ (121 : Int) < 128) ∧ K [] (ab_up (ab_up M s 15 r47) s 16 (121 : Int))) ∧ (¬ (0 : Int) = 0 → K [] (ab_up (ab_up M s 15 r47) s 16 ((ab_up M s 15 r47) o5 16))))) ∧ (((ab_up M s 15 r47) o5 0) = (121 : Int) → (ab_ir ((ab_up M s 15 r47) s 9)) ∧ ((¬ ((ab_up M s 15 r47) s 9) = 0 → (ab_ir (0 : Int)) ∧ (((0 : Int) = 0 → (-128 ≤ (121 : Int) ∧ (121 : Int) < 128) ∧ K [] (ab_up (ab_up M s 15 r47) s 16 (121 : Int))) ∧ (¬ (0 : Int) = 0 → K [] (ab_up (ab_up M s 15 r47) s 16 ((ab_up M s 15 r47) o5 16))))) ∧ (((ab_up M s 15 r47) s 9) = 0 → (ab_ir ((ab_up M s 15 r47) o5 0) ∧ ab_ir ((ab_up M s 15 r47) (o5 + 1) (1 : Int).toNat) ∧ 0 ≤ (1 : Int) ∧ (1 : Int) < 2) ∧ (∀ r82 : Int, (r82 = cr_en (ab_up M s 15 r47) o5 (1 : Int).toNat) → K [] (ab_up (ab_up M s 15 r47) s 16 r82)))))))))))) ∧ (0 ≤ (M s 10) → (ab_ir (0 : Int)) ∧ (((0 : Int) = 0 → (ab_ir (0 : Int)) ∧ (((0 : Int) = 0 → (-128 ≤ (121 : Int) ∧ (121 : Int) < 128) ∧ K [] (ab_up (ab_up M s 15 (M s 10)) s 16 (121 : Int))) ∧ (¬ (0 : Int) = 0 → K [] (ab_up (ab_up M s 15 (M s 10)) s 16 ((ab_up M s 15 (M s 10)) o5 16))))) ∧ (¬ (0 : Int) = 0 → (-128 ≤ (121 : Int) ∧ (121 : Int) < 128) ∧ (ab_ir ((ab_up M s 15 (M s 10)) o5 0) ∧ ab_ir (121 : Int)) ∧ ((¬ ((ab_up M s 15 (M s 10)) o5 0) = (121 : Int) → (ab_ir (0 : Int)) ∧ (((0 : Int) = 0 → (-128 ≤ (121 : Int) ∧ (121 : Int) < 128) ∧ K [] (ab_up (ab_up M s 15 (M s 10)) s 16 (121 : Int))) ∧ (¬ (0 : Int) = 0 → K [] (ab_up (ab_up M s 15 (M s 10)) s 16 ((ab_up M s 15 (M s 10)) o5 16))))) ∧ (((ab_up M s 15 (M s 10)) o5 0) = (121 : Int) → (ab_ir ((ab_up M s 15 (M s 10)) s 9)) ∧ ((¬ ((ab_up M s 15 (M s 10)) s 9) = 0 → (ab_ir (0 : Int)) ∧ (((0 : Int) = 0 → (-128 ≤ (121 : Int) ∧ (121 : Int) < 128) ∧ K [] (ab_up (ab_up M s 15 (M s 10)) s 16 (121 : Int))) ∧ (¬ (0 : Int) = 0 → K [] (ab_up (ab_up M s 15 (M s 10)) s 16 ((ab_up M s 15 (M s 10)) o5 16))))) ∧ (((ab_up M s 15 (M s 10)) s 9) = 0 → (ab_ir ((ab_up M s 15 (M s 10)) o5 0) ∧ ab_ir ((ab_up M s 15 (M s 10)) (o5 + 1) (1 : Int).toNat) ∧ 0 ≤ (1 : Int) ∧ (1 : Int) < 2) ∧ (∀ r82 : Int, (r82 = cr_en (ab_up M s 15 (M s 10)) o5 (1 : Int).toNat) → K [] (ab_up (ab_up M s 15 (M s 10)) s 16 r82))))))))))) ∧ (0 ≤ (M s 8) → (ab_ir (M s 10)) ∧ (((M s 10) < 0 → (ab_ir (1 : Int)) ∧ (((1 : Int) = 0 → (-128 ≤ (120 : Int) ∧ (120 : Int) < 128) ∧ (ab_ir (1 : Int)) ∧ (((1 : Int) = 0 → (ab_ir (1 : Int)) ∧ (((1 : Int) = 0 → (-128 ≤ (121 : Int) ∧ (121 : Int) < 128) ∧ K [] (ab_up (ab_up M s 15 (120 : Int)) s 16 (121 : Int))) ∧ (¬ (1 : Int) = 0 → K [] (ab_up (ab_up M s 15 (120 : Int)) s 16 ((ab_up M s 15 (120 : Int)) o5 16))))) ∧ (¬ (1 : Int) = 0 → (-128 ≤ (121 : Int) ∧ (121 : Int) < 128) ∧ (ab_ir ((ab_up M s 15 (120 : Int)) o5 0) ∧ ab_ir (121 : Int)) ∧ ((¬ ((ab_up M s 15 (120 : Int)) o5 0) = (121 : Int) → (ab_ir (1 : Int)) ∧ (((1 : Int) = 0 → (-128 ≤ (121 : Int) ∧ (121 : Int) < 128) ∧ K [] (ab_up (ab_up M s 15 (120 : Int)) s 16 (121 : Int))) ∧ (¬ (1 : Int) = 0 → K [] (ab_up (ab_up M s 15 (120 : Int)) s 16 ((ab_up M s 15 (120 : Int)) o5 16))))) ∧ (((ab_up M s 15 (120 : Int)) o5 0) = (121 : Int) → (ab_ir ((ab_up M s 15 (120 : Int)) s 9)) ∧ ((¬ ((ab_up M s 15 (120 : Int)) s 9) = 0 → (ab_ir (1 : Int)) ∧ (((1 : Int) = 0 → (-128 ≤ (121 : Int) ∧ (121 : Int) < 128) ∧ K [] (ab_up (ab_up M s 15 (120 : Int)) s 16 (121 : Int))) ∧ (¬ (1 : Int) = 0 → K [] (ab_up (ab_up M s 15 (120 : Int)) s 16 ((ab_up M s 15 (120 : Int)) o5 16))))) ∧ (((ab_up M s 15 (120 : Int)) s 9) = 0 → (ab_ir ((ab_up M s 15 (120 : Int)) o5 0) ∧ ab_ir ((ab_up M s 15 (120 : Int)) (o5 + 1) (1 : Int).toNat) ∧ 0 ≤ (1 : Int) ∧ (1 : Int) < 2) ∧ (∀ r82 : Int, (r82 = cr_en (ab_up M s 15 (120 : Int)) o5 (1 : Int).toNat) → K [] (ab_up (ab_up M s 15 (120 : Int)) s 16 r82))))))))) ∧ (¬ (1 : Int) = 0 → (ab_ir (M o5 0)) ∧ (∀ r47 : Int, (r47 = cr_rb M o5) → (ab_ir (1 : Int)) ∧ (((1 : Int) = 0 → (ab_ir (1 : Int)) ∧ (((1 : Int) = 0 → (-128 ≤ (121 : Int) ∧ (121 : Int) < 128) ∧ K [] (ab_up (ab_up M s 15 r47) s 16 (121 : Int))) ∧ (¬ (1 : Int) = 0 → K [] (ab_up (ab_up M s 15 r47) s 16 ((ab_up M s 15 r47) o5 16))))) ∧ (¬ (1 : Int) = 0 → (-128 ≤ (121 : Int) ∧ (121 : Int) < 128) ∧ (ab_ir ((ab_up M s 15 r47) o5 0) ∧ ab_ir (121 : Int)) ∧ ((¬ ((ab_up M s 15 r47) o5 0) = (121 : Int) → (ab_ir (1 : Int)) ∧ (((1 : Int) = 0 → (-128 ≤ (121 : Int) ∧ (121 : Int) < 128) ∧ K [] (ab_up (ab_up M s 15 r47) s 16 (121 : Int))) ∧ (¬ (1 : Int) = 0 → K [] (ab_up (ab_up M s 15 r47) s 16 ((ab_up M s 15 r47) o5 16))))) ∧ (((ab_up M s 15 r47) o5 0) = (121 : Int) → (ab_ir ((ab_up M s 15 r47) s 9)) ∧ ((¬ ((ab_up M s 15 r47) s 9) = 0 → (ab_ir (1 : Int)) ∧ (((1 : Int) = 0 → (-128 ≤ (121 : Int) ∧ (121 : Int) < 128) ∧ K [] (ab_up (ab_up M s 15 r47) s 16 (121 : Int))) ∧ (¬ (1 : Int) = 0 → K [] (ab_up (ab_up M s 15 r47) s 16 ((ab_up M s 15 r47) o5 16))))) ∧ (((ab_up M s 15 r47) s 9) = 0 → (ab_ir ((ab_up M s 15 r47) o5 0) ∧ ab_ir ((ab_up M s 15 r47) (o5 + 1) (1 : Int).toNat) ∧ 0 ≤ (1 : Int) ∧ (1 : Int) < 2) ∧ (∀ r82 : Int, (r82 = cr_en (ab_up M s 15 r47) o5 (1 : Int).toNat) → K [] (ab_up (ab_up M s 15 r47) s 16 r82)))))))))))) ∧ (0 ≤ (M s 10) → (ab_ir (1 : Int)) ∧ (((1 : Int) = 0 → (ab_ir (1 : Int)) ∧ (((1 : Int) = 0 → (-128 ≤ (121 : Int) ∧ (121 : Int) < 128) ∧ K [] (ab_up (ab_up M s 15 (M s 10)) s 16 (121 : Int))) ∧ (¬ (1 : Int) = 0 → K [] (ab_up (ab_up M s 15 (M s 10)) s 16 ((ab_up M s 15 (M s 10)) o5 16))))) ∧ (¬ (1 : Int) = 0 → (-128 ≤ (121 : Int) ∧ (121 : Int) < 128) ∧ (ab_ir ((ab_up M s 15 (M s 10)) o5 0) ∧ ab_ir (121 : Int)) ∧ ((¬ ((ab_up M s 15 (M s 10)) o5 0) = (121 : Int) → (ab_ir (1 : Int)) ∧ (((1 : Int) = 0 → (-128 ≤ (121 : Int) ∧ (121 : Int) < 128) ∧ K [] (ab_up (ab_up M s 15 (M s 10)) s 16 (121 : Int))) ∧ (¬ (1 : Int) = 0 → K [] (ab_up (ab_up M s 15 (M s 10)) s 16 ((ab_up M s 15 (M s 10)) o5 16))))) ∧ (((ab_up M s 15 (M s 10)) o5 0) = (121 : Int) → (ab_ir ((ab_up M s 15 (M s 10)) s 9)) ∧ ((¬ ((ab_up M s 15 (M s 10)) s 9) = 0 → (ab_ir (1 : Int)) ∧ (((1 : Int) = 0 → (-128 ≤ (121 : Int) ∧ (121 : Int) < 128) ∧ K [] (ab_up (ab_up M s 15 (M s 10)) s 16 (121 : Int))) ∧ (¬ (1 : Int) = 0 → K [] (ab_up (ab_up M s 15 (M s 10)) s 16 ((ab_up M s 15 (M s 10)) o5 16))))) ∧ (((ab_up M s 15 (M s 10)) s 9) = 0 → (ab_ir ((ab_up M s 15 (M s 10)) o5 0) ∧ ab_ir ((ab_up M s 15 (M s 10)) (o5 + 1) (1 : Int).toNat) ∧ 0 ≤ (1 : Int) ∧ (1 : Int) < 2) ∧ (∀ r82 : Int, (r82 = cr_en (ab_up M s 15 (M s 10)) o5 (1 : Int).toNat) → K [] (ab_up (ab_up M s 15 (M s 10)) s 16 r82))))))))))))) := by
  obtain ⟨⟨⟨h1, h2⟩, ⟨h3, h4, h5⟩, h6⟩, gK⟩ := hS
  unfold cr_aft cr_cau at gK
  refine And.intro (by
    first
      | exact h3
      | exact h5
      | exact ⟨h3, by omega, by omega⟩
      | exact ⟨by decide, by decide⟩
      | (exfalso; omega)
      | (have hq : 0 ≤ M s 8 := by omega
         have e := e5 hq
         have h7 := h6 hq
         clear hr5 e5
         subst e
         (try rw [ab_up_k (by decide)])
         first
           | exact h7.2.1
           | exact ⟨h7.2.1, by decide, by decide⟩
           | exact h4
           | (rw [ab_up_o h7.2.2.2.2]; exact ⟨h7.2.1, h7.2.2.1, by decide, by decide⟩))
      | omega) ?_
  intro o5 hr5
  have e5 : 0 ≤ M s 8 → o5 = cr_ow M p s := fun q => by rw [hr5, if_pos ⟨q, (h6 q).1⟩]
  refine And.intro (by
    first
      | exact h3
      | exact h5
      | exact ⟨h3, by omega, by omega⟩
      | exact ⟨by decide, by decide⟩
      | (exfalso; omega)
      | (have hq : 0 ≤ M s 8 := by omega
         have e := e5 hq
         have h7 := h6 hq
         clear hr5 e5
         subst e
         (try rw [ab_up_k (by decide)])
         first
           | exact h7.2.1
           | exact ⟨h7.2.1, by decide, by decide⟩
           | exact h4
           | (rw [ab_up_o h7.2.2.2.2]; exact ⟨h7.2.1, h7.2.2.1, by decide, by decide⟩))
      | omega) ?_
  refine ⟨?_, ?_⟩
  · intro c13
    refine And.intro (by
      first
        | exact h3
        | exact h5
        | exact ⟨h3, by omega, by omega⟩
        | exact ⟨by decide, by decide⟩
        | (exfalso; omega)
        | (have hq : 0 ≤ M s 8 := by omega
           have e := e5 hq
           have h7 := h6 hq
           clear hr5 e5
           subst e
           (try rw [ab_up_k (by decide)])
           first
             | exact h7.2.1
             | exact ⟨h7.2.1, by decide, by decide⟩
             | exact h4
             | (rw [ab_up_o h7.2.2.2.2]; exact ⟨h7.2.1, h7.2.2.1, by decide, by decide⟩))
        | omega) ?_
    refine ⟨?_, ?_⟩
    · intro c26
      refine And.intro (by
        first
          | exact h3
          | exact h5
          | exact ⟨h3, by omega, by omega⟩
          | exact ⟨by decide, by decide⟩
          | (exfalso; omega)
          | (have hq : 0 ≤ M s 8 := by omega
             have e := e5 hq
             have h7 := h6 hq
             clear hr5 e5
             subst e
             (try rw [ab_up_k (by decide)])
             first
               | exact h7.2.1
               | exact ⟨h7.2.1, by decide, by decide⟩
               | exact h4
               | (rw [ab_up_o h7.2.2.2.2]; exact ⟨h7.2.1, h7.2.2.1, by decide, by decide⟩))
          | omega) ?_
      refine ⟨?_, ?_⟩
      · intro c42
        refine And.intro (by
          first
            | exact h3
            | exact h5
            | exact ⟨h3, by omega, by omega⟩
            | exact ⟨by decide, by decide⟩
            | (exfalso; omega)
            | (have hq : 0 ≤ M s 8 := by omega
               have e := e5 hq
               have h7 := h6 hq
               clear hr5 e5
               subst e
               (try rw [ab_up_k (by decide)])
               first
                 | exact h7.2.1
                 | exact ⟨h7.2.1, by decide, by decide⟩
                 | exact h4
                 | (rw [ab_up_o h7.2.2.2.2]; exact ⟨h7.2.1, h7.2.2.1, by decide, by decide⟩))
            | omega) ?_
        refine And.intro (by
          first
            | exact h3
            | exact h5
            | exact ⟨h3, by omega, by omega⟩
            | exact ⟨by decide, by decide⟩
            | (exfalso; omega)
            | (have hq : 0 ≤ M s 8 := by omega
               have e := e5 hq
               have h7 := h6 hq
               clear hr5 e5
               subst e
               (try rw [ab_up_k (by decide)])
               first
                 | exact h7.2.1
                 | exact ⟨h7.2.1, by decide, by decide⟩
                 | exact h4
                 | (rw [ab_up_o h7.2.2.2.2]; exact ⟨h7.2.1, h7.2.2.1, by decide, by decide⟩))
            | omega) ?_
        refine ⟨?_, ?_⟩
        · intro c59
          refine And.intro (by
            first
              | exact h3
              | exact h5
              | exact ⟨h3, by omega, by omega⟩
              | exact ⟨by decide, by decide⟩
              | (exfalso; omega)
              | (have hq : 0 ≤ M s 8 := by omega
                 have e := e5 hq
                 have h7 := h6 hq
                 clear hr5 e5
                 subst e
                 (try rw [ab_up_k (by decide)])
                 first
                   | exact h7.2.1
                   | exact ⟨h7.2.1, by decide, by decide⟩
                   | exact h4
                   | (rw [ab_up_o h7.2.2.2.2]; exact ⟨h7.2.1, h7.2.2.1, by decide, by decide⟩))
              | omega) ?_
          refine ⟨?_, ?_⟩
          · intro c93
            refine And.intro (by
              first
                | exact h3
                | exact h5
                | exact ⟨h3, by omega, by omega⟩
                | exact ⟨by decide, by decide⟩
                | (exfalso; omega)
                | (have hq : 0 ≤ M s 8 := by omega
                   have e := e5 hq
                   have h7 := h6 hq
                   clear hr5 e5
                   subst e
                   (try rw [ab_up_k (by decide)])
                   first
                     | exact h7.2.1
                     | exact ⟨h7.2.1, by decide, by decide⟩
                     | exact h4
                     | (rw [ab_up_o h7.2.2.2.2]; exact ⟨h7.2.1, h7.2.2.1, by decide, by decide⟩))
                | omega) ?_
            (try rw [ab_up_k (by decide)] at c68)
            (try rw [ab_up_k (by decide)] at c75)
            first
              | (exfalso; omega)
              | (have hq : 0 ≤ M s 8 := by omega
                 have e := e5 hq
                 have h7 := h6 hq
                 clear hr5 e5
                 subst e
                 refine gK _ (cr_up2 ?_ ?_)
                 · first
                     | (rw [if_pos (by omega)]; done)
                     | (rw [if_neg (by omega), if_pos (by omega), hr47]; done)
                 · first
                     | (rw [if_pos (by omega), if_pos (by omega), hr82]; exact (cr_en_up h7.2.2.2.2).trans (if_neg h7.2.2.2.1))
                     | (rw [if_pos (by omega), if_neg (by omega)]; exact ab_up_k (by decide) _))
              | (have hq : ¬ 0 ≤ M s 8 := by omega
                 refine gK _ (cr_up2 ?_ ?_)
                 · first
                     | (rw [if_pos (by omega)]; done)
                     | (rw [if_neg (by omega), if_neg (by omega)]; done)
                 · rw [if_neg (by omega)])
          · intro c93
            (try rw [ab_up_k (by decide)] at c68)
            (try rw [ab_up_k (by decide)] at c75)
            first
              | (exfalso; omega)
              | (have hq : 0 ≤ M s 8 := by omega
                 have e := e5 hq
                 have h7 := h6 hq
                 clear hr5 e5
                 subst e
                 refine gK _ (cr_up2 ?_ ?_)
                 · first
                     | (rw [if_pos (by omega)]; done)
                     | (rw [if_neg (by omega), if_pos (by omega), hr47]; done)
                 · first
                     | (rw [if_pos (by omega), if_pos (by omega), hr82]; exact (cr_en_up h7.2.2.2.2).trans (if_neg h7.2.2.2.1))
                     | (rw [if_pos (by omega), if_neg (by omega)]; exact ab_up_k (by decide) _))
              | (have hq : ¬ 0 ≤ M s 8 := by omega
                 refine gK _ (cr_up2 ?_ ?_)
                 · first
                     | (rw [if_pos (by omega)]; done)
                     | (rw [if_neg (by omega), if_neg (by omega)]; done)
                 · rw [if_neg (by omega)])
        · intro c59
          refine And.intro (by
            first
              | exact h3
              | exact h5
              | exact ⟨h3, by omega, by omega⟩
              | exact ⟨by decide, by decide⟩
              | (exfalso; omega)
              | (have hq : 0 ≤ M s 8 := by omega
                 have e := e5 hq
                 have h7 := h6 hq
                 clear hr5 e5
                 subst e
                 (try rw [ab_up_k (by decide)])
                 first
                   | exact h7.2.1
                   | exact ⟨h7.2.1, by decide, by decide⟩
                   | exact h4
                   | (rw [ab_up_o h7.2.2.2.2]; exact ⟨h7.2.1, h7.2.2.1, by decide, by decide⟩))
              | omega) ?_
          refine And.intro (by
            first
              | exact h3
              | exact h5
              | exact ⟨h3, by omega, by omega⟩
              | exact ⟨by decide, by decide⟩
              | (exfalso; omega)
              | (have hq : 0 ≤ M s 8 := by omega
                 have e := e5 hq
                 have h7 := h6 hq
                 clear hr5 e5
                 subst e
                 (try rw [ab_up_k (by decide)])
                 first
                   | exact h7.2.1
                   | exact ⟨h7.2.1, by decide, by decide⟩
                   | exact h4
                   | (rw [ab_up_o h7.2.2.2.2]; exact ⟨h7.2.1, h7.2.2.1, by decide, by decide⟩))
              | omega) ?_
          refine ⟨?_, ?_⟩
          · intro c68
            refine And.intro (by
              first
                | exact h3
                | exact h5
                | exact ⟨h3, by omega, by omega⟩
                | exact ⟨by decide, by decide⟩
                | (exfalso; omega)
                | (have hq : 0 ≤ M s 8 := by omega
                   have e := e5 hq
                   have h7 := h6 hq
                   clear hr5 e5
                   subst e
                   (try rw [ab_up_k (by decide)])
                   first
                     | exact h7.2.1
                     | exact ⟨h7.2.1, by decide, by decide⟩
                     | exact h4
                     | (rw [ab_up_o h7.2.2.2.2]; exact ⟨h7.2.1, h7.2.2.1, by decide, by decide⟩))
                | omega) ?_
            refine ⟨?_, ?_⟩
            · intro c93
              refine And.intro (by
                first
                  | exact h3
                  | exact h5
                  | exact ⟨h3, by omega, by omega⟩
                  | exact ⟨by decide, by decide⟩
                  | (exfalso; omega)
                  | (have hq : 0 ≤ M s 8 := by omega
                     have e := e5 hq
                     have h7 := h6 hq
                     clear hr5 e5
                     subst e
                     (try rw [ab_up_k (by decide)])
                     first
                       | exact h7.2.1
                       | exact ⟨h7.2.1, by decide, by decide⟩
                       | exact h4
                       | (rw [ab_up_o h7.2.2.2.2]; exact ⟨h7.2.1, h7.2.2.1, by decide, by decide⟩))
                  | omega) ?_
              (try rw [ab_up_k (by decide)] at c68)
              (try rw [ab_up_k (by decide)] at c75)
              first
                | (exfalso; omega)
                | (have hq : 0 ≤ M s 8 := by omega
                   have e := e5 hq
                   have h7 := h6 hq
                   clear hr5 e5
                   subst e
                   refine gK _ (cr_up2 ?_ ?_)
                   · first
                       | (rw [if_pos (by omega)]; done)
                       | (rw [if_neg (by omega), if_pos (by omega), hr47]; done)
                   · first
                       | (rw [if_pos (by omega), if_pos (by omega), hr82]; exact (cr_en_up h7.2.2.2.2).trans (if_neg h7.2.2.2.1))
                       | (rw [if_pos (by omega), if_neg (by omega)]; exact ab_up_k (by decide) _))
                | (have hq : ¬ 0 ≤ M s 8 := by omega
                   refine gK _ (cr_up2 ?_ ?_)
                   · first
                       | (rw [if_pos (by omega)]; done)
                       | (rw [if_neg (by omega), if_neg (by omega)]; done)
                   · rw [if_neg (by omega)])
            · intro c93
              (try rw [ab_up_k (by decide)] at c68)
              (try rw [ab_up_k (by decide)] at c75)
              first
                | (exfalso; omega)
                | (have hq : 0 ≤ M s 8 := by omega
                   have e := e5 hq
                   have h7 := h6 hq
                   clear hr5 e5
                   subst e
                   refine gK _ (cr_up2 ?_ ?_)
                   · first
                       | (rw [if_pos (by omega)]; done)
                       | (rw [if_neg (by omega), if_pos (by omega), hr47]; done)
                   · first
                       | (rw [if_pos (by omega), if_pos (by omega), hr82]; exact (cr_en_up h7.2.2.2.2).trans (if_neg h7.2.2.2.1))
                       | (rw [if_pos (by omega), if_neg (by omega)]; exact ab_up_k (by decide) _))
                | (have hq : ¬ 0 ≤ M s 8 := by omega
                   refine gK _ (cr_up2 ?_ ?_)
                   · first
                       | (rw [if_pos (by omega)]; done)
                       | (rw [if_neg (by omega), if_neg (by omega)]; done)
                   · rw [if_neg (by omega)])
          · intro c68
            refine And.intro (by
              first
                | exact h3
                | exact h5
                | exact ⟨h3, by omega, by omega⟩
                | exact ⟨by decide, by decide⟩
                | (exfalso; omega)
                | (have hq : 0 ≤ M s 8 := by omega
                   have e := e5 hq
                   have h7 := h6 hq
                   clear hr5 e5
                   subst e
                   (try rw [ab_up_k (by decide)])
                   first
                     | exact h7.2.1
                     | exact ⟨h7.2.1, by decide, by decide⟩
                     | exact h4
                     | (rw [ab_up_o h7.2.2.2.2]; exact ⟨h7.2.1, h7.2.2.1, by decide, by decide⟩))
                | omega) ?_
            refine ⟨?_, ?_⟩
            · intro c75
              refine And.intro (by
                first
                  | exact h3
                  | exact h5
                  | exact ⟨h3, by omega, by omega⟩
                  | exact ⟨by decide, by decide⟩
                  | (exfalso; omega)
                  | (have hq : 0 ≤ M s 8 := by omega
                     have e := e5 hq
                     have h7 := h6 hq
                     clear hr5 e5
                     subst e
                     (try rw [ab_up_k (by decide)])
                     first
                       | exact h7.2.1
                       | exact ⟨h7.2.1, by decide, by decide⟩
                       | exact h4
                       | (rw [ab_up_o h7.2.2.2.2]; exact ⟨h7.2.1, h7.2.2.1, by decide, by decide⟩))
                  | omega) ?_
              refine ⟨?_, ?_⟩
              · intro c93
                refine And.intro (by
                  first
                    | exact h3
                    | exact h5
                    | exact ⟨h3, by omega, by omega⟩
                    | exact ⟨by decide, by decide⟩
                    | (exfalso; omega)
                    | (have hq : 0 ≤ M s 8 := by omega
                       have e := e5 hq
                       have h7 := h6 hq
                       clear hr5 e5
                       subst e
                       (try rw [ab_up_k (by decide)])
                       first
                         | exact h7.2.1
                         | exact ⟨h7.2.1, by decide, by decide⟩
                         | exact h4
                         | (rw [ab_up_o h7.2.2.2.2]; exact ⟨h7.2.1, h7.2.2.1, by decide, by decide⟩))
                    | omega) ?_
                (try rw [ab_up_k (by decide)] at c68)
                (try rw [ab_up_k (by decide)] at c75)
                first
                  | (exfalso; omega)
                  | (have hq : 0 ≤ M s 8 := by omega
                     have e := e5 hq
                     have h7 := h6 hq
                     clear hr5 e5
                     subst e
                     refine gK _ (cr_up2 ?_ ?_)
                     · first
                         | (rw [if_pos (by omega)]; done)
                         | (rw [if_neg (by omega), if_pos (by omega), hr47]; done)
                     · first
                         | (rw [if_pos (by omega), if_pos (by omega), hr82]; exact (cr_en_up h7.2.2.2.2).trans (if_neg h7.2.2.2.1))
                         | (rw [if_pos (by omega), if_neg (by omega)]; exact ab_up_k (by decide) _))
                  | (have hq : ¬ 0 ≤ M s 8 := by omega
                     refine gK _ (cr_up2 ?_ ?_)
                     · first
                         | (rw [if_pos (by omega)]; done)
                         | (rw [if_neg (by omega), if_neg (by omega)]; done)
                     · rw [if_neg (by omega)])
              · intro c93
                (try rw [ab_up_k (by decide)] at c68)
                (try rw [ab_up_k (by decide)] at c75)
                first
                  | (exfalso; omega)
                  | (have hq : 0 ≤ M s 8 := by omega
                     have e := e5 hq
                     have h7 := h6 hq
                     clear hr5 e5
                     subst e
                     refine gK _ (cr_up2 ?_ ?_)
                     · first
                         | (rw [if_pos (by omega)]; done)
                         | (rw [if_neg (by omega), if_pos (by omega), hr47]; done)
                     · first
                         | (rw [if_pos (by omega), if_pos (by omega), hr82]; exact (cr_en_up h7.2.2.2.2).trans (if_neg h7.2.2.2.1))
                         | (rw [if_pos (by omega), if_neg (by omega)]; exact ab_up_k (by decide) _))
                  | (have hq : ¬ 0 ≤ M s 8 := by omega
                     refine gK _ (cr_up2 ?_ ?_)
                     · first
                         | (rw [if_pos (by omega)]; done)
                         | (rw [if_neg (by omega), if_neg (by omega)]; done)
                     · rw [if_neg (by omega)])
            · intro c75
              refine And.intro (by
                first
                  | exact h3
                  | exact h5
                  | exact ⟨h3, by omega, by omega⟩
                  | exact ⟨by decide, by decide⟩
                  | (exfalso; omega)
                  | (have hq : 0 ≤ M s 8 := by omega
                     have e := e5 hq
                     have h7 := h6 hq
                     clear hr5 e5
                     subst e
                     (try rw [ab_up_k (by decide)])
                     first
                       | exact h7.2.1
                       | exact ⟨h7.2.1, by decide, by decide⟩
                       | exact h4
                       | (rw [ab_up_o h7.2.2.2.2]; exact ⟨h7.2.1, h7.2.2.1, by decide, by decide⟩))
                  | omega) ?_
              intro r82 hr82
              (try rw [ab_up_k (by decide)] at c68)
              (try rw [ab_up_k (by decide)] at c75)
              first
                | (exfalso; omega)
                | (have hq : 0 ≤ M s 8 := by omega
                   have e := e5 hq
                   have h7 := h6 hq
                   clear hr5 e5
                   subst e
                   refine gK _ (cr_up2 ?_ ?_)
                   · first
                       | (rw [if_pos (by omega)]; done)
                       | (rw [if_neg (by omega), if_pos (by omega), hr47]; done)
                   · first
                       | (rw [if_pos (by omega), if_pos (by omega), hr82]; exact (cr_en_up h7.2.2.2.2).trans (if_neg h7.2.2.2.1))
                       | (rw [if_pos (by omega), if_neg (by omega)]; exact ab_up_k (by decide) _))
                | (have hq : ¬ 0 ≤ M s 8 := by omega
                   refine gK _ (cr_up2 ?_ ?_)
                   · first
                       | (rw [if_pos (by omega)]; done)
                       | (rw [if_neg (by omega), if_neg (by omega)]; done)
                   · rw [if_neg (by omega)])
      · intro c42
        refine And.intro (by
          first
            | exact h3
            | exact h5
            | exact ⟨h3, by omega, by omega⟩
            | exact ⟨by decide, by decide⟩
            | (exfalso; omega)
            | (have hq : 0 ≤ M s 8 := by omega
               have e := e5 hq
               have h7 := h6 hq
               clear hr5 e5
               subst e
               (try rw [ab_up_k (by decide)])
               first
                 | exact h7.2.1
                 | exact ⟨h7.2.1, by decide, by decide⟩
                 | exact h4
                 | (rw [ab_up_o h7.2.2.2.2]; exact ⟨h7.2.1, h7.2.2.1, by decide, by decide⟩))
            | omega) ?_
        intro r47 hr47
        refine And.intro (by
          first
            | exact h3
            | exact h5
            | exact ⟨h3, by omega, by omega⟩
            | exact ⟨by decide, by decide⟩
            | (exfalso; omega)
            | (have hq : 0 ≤ M s 8 := by omega
               have e := e5 hq
               have h7 := h6 hq
               clear hr5 e5
               subst e
               (try rw [ab_up_k (by decide)])
               first
                 | exact h7.2.1
                 | exact ⟨h7.2.1, by decide, by decide⟩
                 | exact h4
                 | (rw [ab_up_o h7.2.2.2.2]; exact ⟨h7.2.1, h7.2.2.1, by decide, by decide⟩))
            | omega) ?_
        refine ⟨?_, ?_⟩
        · intro c59
          refine And.intro (by
            first
              | exact h3
              | exact h5
              | exact ⟨h3, by omega, by omega⟩
              | exact ⟨by decide, by decide⟩
              | (exfalso; omega)
              | (have hq : 0 ≤ M s 8 := by omega
                 have e := e5 hq
                 have h7 := h6 hq
                 clear hr5 e5
                 subst e
                 (try rw [ab_up_k (by decide)])
                 first
                   | exact h7.2.1
                   | exact ⟨h7.2.1, by decide, by decide⟩
                   | exact h4
                   | (rw [ab_up_o h7.2.2.2.2]; exact ⟨h7.2.1, h7.2.2.1, by decide, by decide⟩))
              | omega) ?_
          refine ⟨?_, ?_⟩
          · intro c93
            refine And.intro (by
              first
                | exact h3
                | exact h5
                | exact ⟨h3, by omega, by omega⟩
                | exact ⟨by decide, by decide⟩
                | (exfalso; omega)
                | (have hq : 0 ≤ M s 8 := by omega
                   have e := e5 hq
                   have h7 := h6 hq
                   clear hr5 e5
                   subst e
                   (try rw [ab_up_k (by decide)])
                   first
                     | exact h7.2.1
                     | exact ⟨h7.2.1, by decide, by decide⟩
                     | exact h4
                     | (rw [ab_up_o h7.2.2.2.2]; exact ⟨h7.2.1, h7.2.2.1, by decide, by decide⟩))
                | omega) ?_
            (try rw [ab_up_k (by decide)] at c68)
            (try rw [ab_up_k (by decide)] at c75)
            first
              | (exfalso; omega)
              | (have hq : 0 ≤ M s 8 := by omega
                 have e := e5 hq
                 have h7 := h6 hq
                 clear hr5 e5
                 subst e
                 refine gK _ (cr_up2 ?_ ?_)
                 · first
                     | (rw [if_pos (by omega)]; done)
                     | (rw [if_neg (by omega), if_pos (by omega), hr47]; done)
                 · first
                     | (rw [if_pos (by omega), if_pos (by omega), hr82]; exact (cr_en_up h7.2.2.2.2).trans (if_neg h7.2.2.2.1))
                     | (rw [if_pos (by omega), if_neg (by omega)]; exact ab_up_k (by decide) _))
              | (have hq : ¬ 0 ≤ M s 8 := by omega
                 refine gK _ (cr_up2 ?_ ?_)
                 · first
                     | (rw [if_pos (by omega)]; done)
                     | (rw [if_neg (by omega), if_neg (by omega)]; done)
                 · rw [if_neg (by omega)])
          · intro c93
            (try rw [ab_up_k (by decide)] at c68)
            (try rw [ab_up_k (by decide)] at c75)
            first
              | (exfalso; omega)
              | (have hq : 0 ≤ M s 8 := by omega
                 have e := e5 hq
                 have h7 := h6 hq
                 clear hr5 e5
                 subst e
                 refine gK _ (cr_up2 ?_ ?_)
                 · first
                     | (rw [if_pos (by omega)]; done)
                     | (rw [if_neg (by omega), if_pos (by omega), hr47]; done)
                 · first
                     | (rw [if_pos (by omega), if_pos (by omega), hr82]; exact (cr_en_up h7.2.2.2.2).trans (if_neg h7.2.2.2.1))
                     | (rw [if_pos (by omega), if_neg (by omega)]; exact ab_up_k (by decide) _))
              | (have hq : ¬ 0 ≤ M s 8 := by omega
                 refine gK _ (cr_up2 ?_ ?_)
                 · first
                     | (rw [if_pos (by omega)]; done)
                     | (rw [if_neg (by omega), if_neg (by omega)]; done)
                 · rw [if_neg (by omega)])
        · intro c59
          refine And.intro (by
            first
              | exact h3
              | exact h5
              | exact ⟨h3, by omega, by omega⟩
              | exact ⟨by decide, by decide⟩
              | (exfalso; omega)
              | (have hq : 0 ≤ M s 8 := by omega
                 have e := e5 hq
                 have h7 := h6 hq
                 clear hr5 e5
                 subst e
                 (try rw [ab_up_k (by decide)])
                 first
                   | exact h7.2.1
                   | exact ⟨h7.2.1, by decide, by decide⟩
                   | exact h4
                   | (rw [ab_up_o h7.2.2.2.2]; exact ⟨h7.2.1, h7.2.2.1, by decide, by decide⟩))
              | omega) ?_
          refine And.intro (by
            first
              | exact h3
              | exact h5
              | exact ⟨h3, by omega, by omega⟩
              | exact ⟨by decide, by decide⟩
              | (exfalso; omega)
              | (have hq : 0 ≤ M s 8 := by omega
                 have e := e5 hq
                 have h7 := h6 hq
                 clear hr5 e5
                 subst e
                 (try rw [ab_up_k (by decide)])
                 first
                   | exact h7.2.1
                   | exact ⟨h7.2.1, by decide, by decide⟩
                   | exact h4
                   | (rw [ab_up_o h7.2.2.2.2]; exact ⟨h7.2.1, h7.2.2.1, by decide, by decide⟩))
              | omega) ?_
          refine ⟨?_, ?_⟩
          · intro c68
            refine And.intro (by
              first
                | exact h3
                | exact h5
                | exact ⟨h3, by omega, by omega⟩
                | exact ⟨by decide, by decide⟩
                | (exfalso; omega)
                | (have hq : 0 ≤ M s 8 := by omega
                   have e := e5 hq
                   have h7 := h6 hq
                   clear hr5 e5
                   subst e
                   (try rw [ab_up_k (by decide)])
                   first
                     | exact h7.2.1
                     | exact ⟨h7.2.1, by decide, by decide⟩
                     | exact h4
                     | (rw [ab_up_o h7.2.2.2.2]; exact ⟨h7.2.1, h7.2.2.1, by decide, by decide⟩))
                | omega) ?_
            refine ⟨?_, ?_⟩
            · intro c93
              refine And.intro (by
                first
                  | exact h3
                  | exact h5
                  | exact ⟨h3, by omega, by omega⟩
                  | exact ⟨by decide, by decide⟩
                  | (exfalso; omega)
                  | (have hq : 0 ≤ M s 8 := by omega
                     have e := e5 hq
                     have h7 := h6 hq
                     clear hr5 e5
                     subst e
                     (try rw [ab_up_k (by decide)])
                     first
                       | exact h7.2.1
                       | exact ⟨h7.2.1, by decide, by decide⟩
                       | exact h4
                       | (rw [ab_up_o h7.2.2.2.2]; exact ⟨h7.2.1, h7.2.2.1, by decide, by decide⟩))
                  | omega) ?_
              (try rw [ab_up_k (by decide)] at c68)
              (try rw [ab_up_k (by decide)] at c75)
              first
                | (exfalso; omega)
                | (have hq : 0 ≤ M s 8 := by omega
                   have e := e5 hq
                   have h7 := h6 hq
                   clear hr5 e5
                   subst e
                   refine gK _ (cr_up2 ?_ ?_)
                   · first
                       | (rw [if_pos (by omega)]; done)
                       | (rw [if_neg (by omega), if_pos (by omega), hr47]; done)
                   · first
                       | (rw [if_pos (by omega), if_pos (by omega), hr82]; exact (cr_en_up h7.2.2.2.2).trans (if_neg h7.2.2.2.1))
                       | (rw [if_pos (by omega), if_neg (by omega)]; exact ab_up_k (by decide) _))
                | (have hq : ¬ 0 ≤ M s 8 := by omega
                   refine gK _ (cr_up2 ?_ ?_)
                   · first
                       | (rw [if_pos (by omega)]; done)
                       | (rw [if_neg (by omega), if_neg (by omega)]; done)
                   · rw [if_neg (by omega)])
            · intro c93
              (try rw [ab_up_k (by decide)] at c68)
              (try rw [ab_up_k (by decide)] at c75)
              first
                | (exfalso; omega)
                | (have hq : 0 ≤ M s 8 := by omega
                   have e := e5 hq
                   have h7 := h6 hq
                   clear hr5 e5
                   subst e
                   refine gK _ (cr_up2 ?_ ?_)
                   · first
                       | (rw [if_pos (by omega)]; done)
                       | (rw [if_neg (by omega), if_pos (by omega), hr47]; done)
                   · first
                       | (rw [if_pos (by omega), if_pos (by omega), hr82]; exact (cr_en_up h7.2.2.2.2).trans (if_neg h7.2.2.2.1))
                       | (rw [if_pos (by omega), if_neg (by omega)]; exact ab_up_k (by decide) _))
                | (have hq : ¬ 0 ≤ M s 8 := by omega
                   refine gK _ (cr_up2 ?_ ?_)
                   · first
                       | (rw [if_pos (by omega)]; done)
                       | (rw [if_neg (by omega), if_neg (by omega)]; done)
                   · rw [if_neg (by omega)])
          · intro c68
            refine And.intro (by
              first
                | exact h3
                | exact h5
                | exact ⟨h3, by omega, by omega⟩
                | exact ⟨by decide, by decide⟩
                | (exfalso; omega)
                | (have hq : 0 ≤ M s 8 := by omega
                   have e := e5 hq
                   have h7 := h6 hq
                   clear hr5 e5
                   subst e
                   (try rw [ab_up_k (by decide)])
                   first
                     | exact h7.2.1
                     | exact ⟨h7.2.1, by decide, by decide⟩
                     | exact h4
                     | (rw [ab_up_o h7.2.2.2.2]; exact ⟨h7.2.1, h7.2.2.1, by decide, by decide⟩))
                | omega) ?_
            refine ⟨?_, ?_⟩
            · intro c75
              refine And.intro (by
                first
                  | exact h3
                  | exact h5
                  | exact ⟨h3, by omega, by omega⟩
                  | exact ⟨by decide, by decide⟩
                  | (exfalso; omega)
                  | (have hq : 0 ≤ M s 8 := by omega
                     have e := e5 hq
                     have h7 := h6 hq
                     clear hr5 e5
                     subst e
                     (try rw [ab_up_k (by decide)])
                     first
                       | exact h7.2.1
                       | exact ⟨h7.2.1, by decide, by decide⟩
                       | exact h4
                       | (rw [ab_up_o h7.2.2.2.2]; exact ⟨h7.2.1, h7.2.2.1, by decide, by decide⟩))
                  | omega) ?_
              refine ⟨?_, ?_⟩
              · intro c93
                refine And.intro (by
                  first
                    | exact h3
                    | exact h5
                    | exact ⟨h3, by omega, by omega⟩
                    | exact ⟨by decide, by decide⟩
                    | (exfalso; omega)
                    | (have hq : 0 ≤ M s 8 := by omega
                       have e := e5 hq
                       have h7 := h6 hq
                       clear hr5 e5
                       subst e
                       (try rw [ab_up_k (by decide)])
                       first
                         | exact h7.2.1
                         | exact ⟨h7.2.1, by decide, by decide⟩
                         | exact h4
                         | (rw [ab_up_o h7.2.2.2.2]; exact ⟨h7.2.1, h7.2.2.1, by decide, by decide⟩))
                    | omega) ?_
                (try rw [ab_up_k (by decide)] at c68)
                (try rw [ab_up_k (by decide)] at c75)
                first
                  | (exfalso; omega)
                  | (have hq : 0 ≤ M s 8 := by omega
                     have e := e5 hq
                     have h7 := h6 hq
                     clear hr5 e5
                     subst e
                     refine gK _ (cr_up2 ?_ ?_)
                     · first
                         | (rw [if_pos (by omega)]; done)
                         | (rw [if_neg (by omega), if_pos (by omega), hr47]; done)
                     · first
                         | (rw [if_pos (by omega), if_pos (by omega), hr82]; exact (cr_en_up h7.2.2.2.2).trans (if_neg h7.2.2.2.1))
                         | (rw [if_pos (by omega), if_neg (by omega)]; exact ab_up_k (by decide) _))
                  | (have hq : ¬ 0 ≤ M s 8 := by omega
                     refine gK _ (cr_up2 ?_ ?_)
                     · first
                         | (rw [if_pos (by omega)]; done)
                         | (rw [if_neg (by omega), if_neg (by omega)]; done)
                     · rw [if_neg (by omega)])
              · intro c93
                (try rw [ab_up_k (by decide)] at c68)
                (try rw [ab_up_k (by decide)] at c75)
                first
                  | (exfalso; omega)
                  | (have hq : 0 ≤ M s 8 := by omega
                     have e := e5 hq
                     have h7 := h6 hq
                     clear hr5 e5
                     subst e
                     refine gK _ (cr_up2 ?_ ?_)
                     · first
                         | (rw [if_pos (by omega)]; done)
                         | (rw [if_neg (by omega), if_pos (by omega), hr47]; done)
                     · first
                         | (rw [if_pos (by omega), if_pos (by omega), hr82]; exact (cr_en_up h7.2.2.2.2).trans (if_neg h7.2.2.2.1))
                         | (rw [if_pos (by omega), if_neg (by omega)]; exact ab_up_k (by decide) _))
                  | (have hq : ¬ 0 ≤ M s 8 := by omega
                     refine gK _ (cr_up2 ?_ ?_)
                     · first
                         | (rw [if_pos (by omega)]; done)
                         | (rw [if_neg (by omega), if_neg (by omega)]; done)
                     · rw [if_neg (by omega)])
            · intro c75
              refine And.intro (by
                first
                  | exact h3
                  | exact h5
                  | exact ⟨h3, by omega, by omega⟩
                  | exact ⟨by decide, by decide⟩
                  | (exfalso; omega)
                  | (have hq : 0 ≤ M s 8 := by omega
                     have e := e5 hq
                     have h7 := h6 hq
                     clear hr5 e5
                     subst e
                     (try rw [ab_up_k (by decide)])
                     first
                       | exact h7.2.1
                       | exact ⟨h7.2.1, by decide, by decide⟩
                       | exact h4
                       | (rw [ab_up_o h7.2.2.2.2]; exact ⟨h7.2.1, h7.2.2.1, by decide, by decide⟩))
                  | omega) ?_
              intro r82 hr82
              (try rw [ab_up_k (by decide)] at c68)
              (try rw [ab_up_k (by decide)] at c75)
              first
                | (exfalso; omega)
                | (have hq : 0 ≤ M s 8 := by omega
                   have e := e5 hq
                   have h7 := h6 hq
                   clear hr5 e5
                   subst e
                   refine gK _ (cr_up2 ?_ ?_)
                   · first
                       | (rw [if_pos (by omega)]; done)
                       | (rw [if_neg (by omega), if_pos (by omega), hr47]; done)
                   · first
                       | (rw [if_pos (by omega), if_pos (by omega), hr82]; exact (cr_en_up h7.2.2.2.2).trans (if_neg h7.2.2.2.1))
                       | (rw [if_pos (by omega), if_neg (by omega)]; exact ab_up_k (by decide) _))
                | (have hq : ¬ 0 ≤ M s 8 := by omega
                   refine gK _ (cr_up2 ?_ ?_)
                   · first
                       | (rw [if_pos (by omega)]; done)
                       | (rw [if_neg (by omega), if_neg (by omega)]; done)
                   · rw [if_neg (by omega)])
    · intro c26
      refine And.intro (by
        first
          | exact h3
          | exact h5
          | exact ⟨h3, by omega, by omega⟩
          | exact ⟨by decide, by decide⟩
          | (exfalso; omega)
          | (have hq : 0 ≤ M s 8 := by omega
             have e := e5 hq
             have h7 := h6 hq
             clear hr5 e5
             subst e
             (try rw [ab_up_k (by decide)])
             first
               | exact h7.2.1
               | exact ⟨h7.2.1, by decide, by decide⟩
               | exact h4
               | (rw [ab_up_o h7.2.2.2.2]; exact ⟨h7.2.1, h7.2.2.1, by decide, by decide⟩))
          | omega) ?_
      refine ⟨?_, ?_⟩
      · intro c59
        refine And.intro (by
          first
            | exact h3
            | exact h5
            | exact ⟨h3, by omega, by omega⟩
            | exact ⟨by decide, by decide⟩
            | (exfalso; omega)
            | (have hq : 0 ≤ M s 8 := by omega
               have e := e5 hq
               have h7 := h6 hq
               clear hr5 e5
               subst e
               (try rw [ab_up_k (by decide)])
               first
                 | exact h7.2.1
                 | exact ⟨h7.2.1, by decide, by decide⟩
                 | exact h4
                 | (rw [ab_up_o h7.2.2.2.2]; exact ⟨h7.2.1, h7.2.2.1, by decide, by decide⟩))
            | omega) ?_
        refine ⟨?_, ?_⟩
        · intro c93
          refine And.intro (by
            first
              | exact h3
              | exact h5
              | exact ⟨h3, by omega, by omega⟩
              | exact ⟨by decide, by decide⟩
              | (exfalso; omega)
              | (have hq : 0 ≤ M s 8 := by omega
                 have e := e5 hq
                 have h7 := h6 hq
                 clear hr5 e5
                 subst e
                 (try rw [ab_up_k (by decide)])
                 first
                   | exact h7.2.1
                   | exact ⟨h7.2.1, by decide, by decide⟩
                   | exact h4
                   | (rw [ab_up_o h7.2.2.2.2]; exact ⟨h7.2.1, h7.2.2.1, by decide, by decide⟩))
              | omega) ?_
          (try rw [ab_up_k (by decide)] at c68)
          (try rw [ab_up_k (by decide)] at c75)
          first
            | (exfalso; omega)
            | (have hq : 0 ≤ M s 8 := by omega
               have e := e5 hq
               have h7 := h6 hq
               clear hr5 e5
               subst e
               refine gK _ (cr_up2 ?_ ?_)
               · first
                   | (rw [if_pos (by omega)]; done)
                   | (rw [if_neg (by omega), if_pos (by omega), hr47]; done)
               · first
                   | (rw [if_pos (by omega), if_pos (by omega), hr82]; exact (cr_en_up h7.2.2.2.2).trans (if_neg h7.2.2.2.1))
                   | (rw [if_pos (by omega), if_neg (by omega)]; exact ab_up_k (by decide) _))
            | (have hq : ¬ 0 ≤ M s 8 := by omega
               refine gK _ (cr_up2 ?_ ?_)
               · first
                   | (rw [if_pos (by omega)]; done)
                   | (rw [if_neg (by omega), if_neg (by omega)]; done)
               · rw [if_neg (by omega)])
        · intro c93
          (try rw [ab_up_k (by decide)] at c68)
          (try rw [ab_up_k (by decide)] at c75)
          first
            | (exfalso; omega)
            | (have hq : 0 ≤ M s 8 := by omega
               have e := e5 hq
               have h7 := h6 hq
               clear hr5 e5
               subst e
               refine gK _ (cr_up2 ?_ ?_)
               · first
                   | (rw [if_pos (by omega)]; done)
                   | (rw [if_neg (by omega), if_pos (by omega), hr47]; done)
               · first
                   | (rw [if_pos (by omega), if_pos (by omega), hr82]; exact (cr_en_up h7.2.2.2.2).trans (if_neg h7.2.2.2.1))
                   | (rw [if_pos (by omega), if_neg (by omega)]; exact ab_up_k (by decide) _))
            | (have hq : ¬ 0 ≤ M s 8 := by omega
               refine gK _ (cr_up2 ?_ ?_)
               · first
                   | (rw [if_pos (by omega)]; done)
                   | (rw [if_neg (by omega), if_neg (by omega)]; done)
               · rw [if_neg (by omega)])
      · intro c59
        refine And.intro (by
          first
            | exact h3
            | exact h5
            | exact ⟨h3, by omega, by omega⟩
            | exact ⟨by decide, by decide⟩
            | (exfalso; omega)
            | (have hq : 0 ≤ M s 8 := by omega
               have e := e5 hq
               have h7 := h6 hq
               clear hr5 e5
               subst e
               (try rw [ab_up_k (by decide)])
               first
                 | exact h7.2.1
                 | exact ⟨h7.2.1, by decide, by decide⟩
                 | exact h4
                 | (rw [ab_up_o h7.2.2.2.2]; exact ⟨h7.2.1, h7.2.2.1, by decide, by decide⟩))
            | omega) ?_
        refine And.intro (by
          first
            | exact h3
            | exact h5
            | exact ⟨h3, by omega, by omega⟩
            | exact ⟨by decide, by decide⟩
            | (exfalso; omega)
            | (have hq : 0 ≤ M s 8 := by omega
               have e := e5 hq
               have h7 := h6 hq
               clear hr5 e5
               subst e
               (try rw [ab_up_k (by decide)])
               first
                 | exact h7.2.1
                 | exact ⟨h7.2.1, by decide, by decide⟩
                 | exact h4
                 | (rw [ab_up_o h7.2.2.2.2]; exact ⟨h7.2.1, h7.2.2.1, by decide, by decide⟩))
            | omega) ?_
        refine ⟨?_, ?_⟩
        · intro c68
          refine And.intro (by
            first
              | exact h3
              | exact h5
              | exact ⟨h3, by omega, by omega⟩
              | exact ⟨by decide, by decide⟩
              | (exfalso; omega)
              | (have hq : 0 ≤ M s 8 := by omega
                 have e := e5 hq
                 have h7 := h6 hq
                 clear hr5 e5
                 subst e
                 (try rw [ab_up_k (by decide)])
                 first
                   | exact h7.2.1
                   | exact ⟨h7.2.1, by decide, by decide⟩
                   | exact h4
                   | (rw [ab_up_o h7.2.2.2.2]; exact ⟨h7.2.1, h7.2.2.1, by decide, by decide⟩))
              | omega) ?_
          refine ⟨?_, ?_⟩
          · intro c93
            refine And.intro (by
              first
                | exact h3
                | exact h5
                | exact ⟨h3, by omega, by omega⟩
                | exact ⟨by decide, by decide⟩
                | (exfalso; omega)
                | (have hq : 0 ≤ M s 8 := by omega
                   have e := e5 hq
                   have h7 := h6 hq
                   clear hr5 e5
                   subst e
                   (try rw [ab_up_k (by decide)])
                   first
                     | exact h7.2.1
                     | exact ⟨h7.2.1, by decide, by decide⟩
                     | exact h4
                     | (rw [ab_up_o h7.2.2.2.2]; exact ⟨h7.2.1, h7.2.2.1, by decide, by decide⟩))
                | omega) ?_
            (try rw [ab_up_k (by decide)] at c68)
            (try rw [ab_up_k (by decide)] at c75)
            first
              | (exfalso; omega)
              | (have hq : 0 ≤ M s 8 := by omega
                 have e := e5 hq
                 have h7 := h6 hq
                 clear hr5 e5
                 subst e
                 refine gK _ (cr_up2 ?_ ?_)
                 · first
                     | (rw [if_pos (by omega)]; done)
                     | (rw [if_neg (by omega), if_pos (by omega), hr47]; done)
                 · first
                     | (rw [if_pos (by omega), if_pos (by omega), hr82]; exact (cr_en_up h7.2.2.2.2).trans (if_neg h7.2.2.2.1))
                     | (rw [if_pos (by omega), if_neg (by omega)]; exact ab_up_k (by decide) _))
              | (have hq : ¬ 0 ≤ M s 8 := by omega
                 refine gK _ (cr_up2 ?_ ?_)
                 · first
                     | (rw [if_pos (by omega)]; done)
                     | (rw [if_neg (by omega), if_neg (by omega)]; done)
                 · rw [if_neg (by omega)])
          · intro c93
            (try rw [ab_up_k (by decide)] at c68)
            (try rw [ab_up_k (by decide)] at c75)
            first
              | (exfalso; omega)
              | (have hq : 0 ≤ M s 8 := by omega
                 have e := e5 hq
                 have h7 := h6 hq
                 clear hr5 e5
                 subst e
                 refine gK _ (cr_up2 ?_ ?_)
                 · first
                     | (rw [if_pos (by omega)]; done)
                     | (rw [if_neg (by omega), if_pos (by omega), hr47]; done)
                 · first
                     | (rw [if_pos (by omega), if_pos (by omega), hr82]; exact (cr_en_up h7.2.2.2.2).trans (if_neg h7.2.2.2.1))
                     | (rw [if_pos (by omega), if_neg (by omega)]; exact ab_up_k (by decide) _))
              | (have hq : ¬ 0 ≤ M s 8 := by omega
                 refine gK _ (cr_up2 ?_ ?_)
                 · first
                     | (rw [if_pos (by omega)]; done)
                     | (rw [if_neg (by omega), if_neg (by omega)]; done)
                 · rw [if_neg (by omega)])
        · intro c68
          refine And.intro (by
            first
              | exact h3
              | exact h5
              | exact ⟨h3, by omega, by omega⟩
              | exact ⟨by decide, by decide⟩
              | (exfalso; omega)
              | (have hq : 0 ≤ M s 8 := by omega
                 have e := e5 hq
                 have h7 := h6 hq
                 clear hr5 e5
                 subst e
                 (try rw [ab_up_k (by decide)])
                 first
                   | exact h7.2.1
                   | exact ⟨h7.2.1, by decide, by decide⟩
                   | exact h4
                   | (rw [ab_up_o h7.2.2.2.2]; exact ⟨h7.2.1, h7.2.2.1, by decide, by decide⟩))
              | omega) ?_
          refine ⟨?_, ?_⟩
          · intro c75
            refine And.intro (by
              first
                | exact h3
                | exact h5
                | exact ⟨h3, by omega, by omega⟩
                | exact ⟨by decide, by decide⟩
                | (exfalso; omega)
                | (have hq : 0 ≤ M s 8 := by omega
                   have e := e5 hq
                   have h7 := h6 hq
                   clear hr5 e5
                   subst e
                   (try rw [ab_up_k (by decide)])
                   first
                     | exact h7.2.1
                     | exact ⟨h7.2.1, by decide, by decide⟩
                     | exact h4
                     | (rw [ab_up_o h7.2.2.2.2]; exact ⟨h7.2.1, h7.2.2.1, by decide, by decide⟩))
                | omega) ?_
            refine ⟨?_, ?_⟩
            · intro c93
              refine And.intro (by
                first
                  | exact h3
                  | exact h5
                  | exact ⟨h3, by omega, by omega⟩
                  | exact ⟨by decide, by decide⟩
                  | (exfalso; omega)
                  | (have hq : 0 ≤ M s 8 := by omega
                     have e := e5 hq
                     have h7 := h6 hq
                     clear hr5 e5
                     subst e
                     (try rw [ab_up_k (by decide)])
                     first
                       | exact h7.2.1
                       | exact ⟨h7.2.1, by decide, by decide⟩
                       | exact h4
                       | (rw [ab_up_o h7.2.2.2.2]; exact ⟨h7.2.1, h7.2.2.1, by decide, by decide⟩))
                  | omega) ?_
              (try rw [ab_up_k (by decide)] at c68)
              (try rw [ab_up_k (by decide)] at c75)
              first
                | (exfalso; omega)
                | (have hq : 0 ≤ M s 8 := by omega
                   have e := e5 hq
                   have h7 := h6 hq
                   clear hr5 e5
                   subst e
                   refine gK _ (cr_up2 ?_ ?_)
                   · first
                       | (rw [if_pos (by omega)]; done)
                       | (rw [if_neg (by omega), if_pos (by omega), hr47]; done)
                   · first
                       | (rw [if_pos (by omega), if_pos (by omega), hr82]; exact (cr_en_up h7.2.2.2.2).trans (if_neg h7.2.2.2.1))
                       | (rw [if_pos (by omega), if_neg (by omega)]; exact ab_up_k (by decide) _))
                | (have hq : ¬ 0 ≤ M s 8 := by omega
                   refine gK _ (cr_up2 ?_ ?_)
                   · first
                       | (rw [if_pos (by omega)]; done)
                       | (rw [if_neg (by omega), if_neg (by omega)]; done)
                   · rw [if_neg (by omega)])
            · intro c93
              (try rw [ab_up_k (by decide)] at c68)
              (try rw [ab_up_k (by decide)] at c75)
              first
                | (exfalso; omega)
                | (have hq : 0 ≤ M s 8 := by omega
                   have e := e5 hq
                   have h7 := h6 hq
                   clear hr5 e5
                   subst e
                   refine gK _ (cr_up2 ?_ ?_)
                   · first
                       | (rw [if_pos (by omega)]; done)
                       | (rw [if_neg (by omega), if_pos (by omega), hr47]; done)
                   · first
                       | (rw [if_pos (by omega), if_pos (by omega), hr82]; exact (cr_en_up h7.2.2.2.2).trans (if_neg h7.2.2.2.1))
                       | (rw [if_pos (by omega), if_neg (by omega)]; exact ab_up_k (by decide) _))
                | (have hq : ¬ 0 ≤ M s 8 := by omega
                   refine gK _ (cr_up2 ?_ ?_)
                   · first
                       | (rw [if_pos (by omega)]; done)
                       | (rw [if_neg (by omega), if_neg (by omega)]; done)
                   · rw [if_neg (by omega)])
          · intro c75
            refine And.intro (by
              first
                | exact h3
                | exact h5
                | exact ⟨h3, by omega, by omega⟩
                | exact ⟨by decide, by decide⟩
                | (exfalso; omega)
                | (have hq : 0 ≤ M s 8 := by omega
                   have e := e5 hq
                   have h7 := h6 hq
                   clear hr5 e5
                   subst e
                   (try rw [ab_up_k (by decide)])
                   first
                     | exact h7.2.1
                     | exact ⟨h7.2.1, by decide, by decide⟩
                     | exact h4
                     | (rw [ab_up_o h7.2.2.2.2]; exact ⟨h7.2.1, h7.2.2.1, by decide, by decide⟩))
                | omega) ?_
            intro r82 hr82
            (try rw [ab_up_k (by decide)] at c68)
            (try rw [ab_up_k (by decide)] at c75)
            first
              | (exfalso; omega)
              | (have hq : 0 ≤ M s 8 := by omega
                 have e := e5 hq
                 have h7 := h6 hq
                 clear hr5 e5
                 subst e
                 refine gK _ (cr_up2 ?_ ?_)
                 · first
                     | (rw [if_pos (by omega)]; done)
                     | (rw [if_neg (by omega), if_pos (by omega), hr47]; done)
                 · first
                     | (rw [if_pos (by omega), if_pos (by omega), hr82]; exact (cr_en_up h7.2.2.2.2).trans (if_neg h7.2.2.2.1))
                     | (rw [if_pos (by omega), if_neg (by omega)]; exact ab_up_k (by decide) _))
              | (have hq : ¬ 0 ≤ M s 8 := by omega
                 refine gK _ (cr_up2 ?_ ?_)
                 · first
                     | (rw [if_pos (by omega)]; done)
                     | (rw [if_neg (by omega), if_neg (by omega)]; done)
                 · rw [if_neg (by omega)])
  · intro c13
    refine And.intro (by
      first
        | exact h3
        | exact h5
        | exact ⟨h3, by omega, by omega⟩
        | exact ⟨by decide, by decide⟩
        | (exfalso; omega)
        | (have hq : 0 ≤ M s 8 := by omega
           have e := e5 hq
           have h7 := h6 hq
           clear hr5 e5
           subst e
           (try rw [ab_up_k (by decide)])
           first
             | exact h7.2.1
             | exact ⟨h7.2.1, by decide, by decide⟩
             | exact h4
             | (rw [ab_up_o h7.2.2.2.2]; exact ⟨h7.2.1, h7.2.2.1, by decide, by decide⟩))
        | omega) ?_
    refine ⟨?_, ?_⟩
    · intro c26
      refine And.intro (by
        first
          | exact h3
          | exact h5
          | exact ⟨h3, by omega, by omega⟩
          | exact ⟨by decide, by decide⟩
          | (exfalso; omega)
          | (have hq : 0 ≤ M s 8 := by omega
             have e := e5 hq
             have h7 := h6 hq
             clear hr5 e5
             subst e
             (try rw [ab_up_k (by decide)])
             first
               | exact h7.2.1
               | exact ⟨h7.2.1, by decide, by decide⟩
               | exact h4
               | (rw [ab_up_o h7.2.2.2.2]; exact ⟨h7.2.1, h7.2.2.1, by decide, by decide⟩))
          | omega) ?_
      refine ⟨?_, ?_⟩
      · intro c42
        refine And.intro (by
          first
            | exact h3
            | exact h5
            | exact ⟨h3, by omega, by omega⟩
            | exact ⟨by decide, by decide⟩
            | (exfalso; omega)
            | (have hq : 0 ≤ M s 8 := by omega
               have e := e5 hq
               have h7 := h6 hq
               clear hr5 e5
               subst e
               (try rw [ab_up_k (by decide)])
               first
                 | exact h7.2.1
                 | exact ⟨h7.2.1, by decide, by decide⟩
                 | exact h4
                 | (rw [ab_up_o h7.2.2.2.2]; exact ⟨h7.2.1, h7.2.2.1, by decide, by decide⟩))
            | omega) ?_
        refine And.intro (by
          first
            | exact h3
            | exact h5
            | exact ⟨h3, by omega, by omega⟩
            | exact ⟨by decide, by decide⟩
            | (exfalso; omega)
            | (have hq : 0 ≤ M s 8 := by omega
               have e := e5 hq
               have h7 := h6 hq
               clear hr5 e5
               subst e
               (try rw [ab_up_k (by decide)])
               first
                 | exact h7.2.1
                 | exact ⟨h7.2.1, by decide, by decide⟩
                 | exact h4
                 | (rw [ab_up_o h7.2.2.2.2]; exact ⟨h7.2.1, h7.2.2.1, by decide, by decide⟩))
            | omega) ?_
        refine ⟨?_, ?_⟩
        · intro c59
          refine And.intro (by
            first
              | exact h3
              | exact h5
              | exact ⟨h3, by omega, by omega⟩
              | exact ⟨by decide, by decide⟩
              | (exfalso; omega)
              | (have hq : 0 ≤ M s 8 := by omega
                 have e := e5 hq
                 have h7 := h6 hq
                 clear hr5 e5
                 subst e
                 (try rw [ab_up_k (by decide)])
                 first
                   | exact h7.2.1
                   | exact ⟨h7.2.1, by decide, by decide⟩
                   | exact h4
                   | (rw [ab_up_o h7.2.2.2.2]; exact ⟨h7.2.1, h7.2.2.1, by decide, by decide⟩))
              | omega) ?_
          refine ⟨?_, ?_⟩
          · intro c93
            refine And.intro (by
              first
                | exact h3
                | exact h5
                | exact ⟨h3, by omega, by omega⟩
                | exact ⟨by decide, by decide⟩
                | (exfalso; omega)
                | (have hq : 0 ≤ M s 8 := by omega
                   have e := e5 hq
                   have h7 := h6 hq
                   clear hr5 e5
                   subst e
                   (try rw [ab_up_k (by decide)])
                   first
                     | exact h7.2.1
                     | exact ⟨h7.2.1, by decide, by decide⟩
                     | exact h4
                     | (rw [ab_up_o h7.2.2.2.2]; exact ⟨h7.2.1, h7.2.2.1, by decide, by decide⟩))
                | omega) ?_
            (try rw [ab_up_k (by decide)] at c68)
            (try rw [ab_up_k (by decide)] at c75)
            first
              | (exfalso; omega)
              | (have hq : 0 ≤ M s 8 := by omega
                 have e := e5 hq
                 have h7 := h6 hq
                 clear hr5 e5
                 subst e
                 refine gK _ (cr_up2 ?_ ?_)
                 · first
                     | (rw [if_pos (by omega)]; done)
                     | (rw [if_neg (by omega), if_pos (by omega), hr47]; done)
                 · first
                     | (rw [if_pos (by omega), if_pos (by omega), hr82]; exact (cr_en_up h7.2.2.2.2).trans (if_neg h7.2.2.2.1))
                     | (rw [if_pos (by omega), if_neg (by omega)]; exact ab_up_k (by decide) _))
              | (have hq : ¬ 0 ≤ M s 8 := by omega
                 refine gK _ (cr_up2 ?_ ?_)
                 · first
                     | (rw [if_pos (by omega)]; done)
                     | (rw [if_neg (by omega), if_neg (by omega)]; done)
                 · rw [if_neg (by omega)])
          · intro c93
            (try rw [ab_up_k (by decide)] at c68)
            (try rw [ab_up_k (by decide)] at c75)
            first
              | (exfalso; omega)
              | (have hq : 0 ≤ M s 8 := by omega
                 have e := e5 hq
                 have h7 := h6 hq
                 clear hr5 e5
                 subst e
                 refine gK _ (cr_up2 ?_ ?_)
                 · first
                     | (rw [if_pos (by omega)]; done)
                     | (rw [if_neg (by omega), if_pos (by omega), hr47]; done)
                 · first
                     | (rw [if_pos (by omega), if_pos (by omega), hr82]; exact (cr_en_up h7.2.2.2.2).trans (if_neg h7.2.2.2.1))
                     | (rw [if_pos (by omega), if_neg (by omega)]; exact ab_up_k (by decide) _))
              | (have hq : ¬ 0 ≤ M s 8 := by omega
                 refine gK _ (cr_up2 ?_ ?_)
                 · first
                     | (rw [if_pos (by omega)]; done)
                     | (rw [if_neg (by omega), if_neg (by omega)]; done)
                 · rw [if_neg (by omega)])
        · intro c59
          refine And.intro (by
            first
              | exact h3
              | exact h5
              | exact ⟨h3, by omega, by omega⟩
              | exact ⟨by decide, by decide⟩
              | (exfalso; omega)
              | (have hq : 0 ≤ M s 8 := by omega
                 have e := e5 hq
                 have h7 := h6 hq
                 clear hr5 e5
                 subst e
                 (try rw [ab_up_k (by decide)])
                 first
                   | exact h7.2.1
                   | exact ⟨h7.2.1, by decide, by decide⟩
                   | exact h4
                   | (rw [ab_up_o h7.2.2.2.2]; exact ⟨h7.2.1, h7.2.2.1, by decide, by decide⟩))
              | omega) ?_
          refine And.intro (by
            first
              | exact h3
              | exact h5
              | exact ⟨h3, by omega, by omega⟩
              | exact ⟨by decide, by decide⟩
              | (exfalso; omega)
              | (have hq : 0 ≤ M s 8 := by omega
                 have e := e5 hq
                 have h7 := h6 hq
                 clear hr5 e5
                 subst e
                 (try rw [ab_up_k (by decide)])
                 first
                   | exact h7.2.1
                   | exact ⟨h7.2.1, by decide, by decide⟩
                   | exact h4
                   | (rw [ab_up_o h7.2.2.2.2]; exact ⟨h7.2.1, h7.2.2.1, by decide, by decide⟩))
              | omega) ?_
          refine ⟨?_, ?_⟩
          · intro c68
            refine And.intro (by
              first
                | exact h3
                | exact h5
                | exact ⟨h3, by omega, by omega⟩
                | exact ⟨by decide, by decide⟩
                | (exfalso; omega)
                | (have hq : 0 ≤ M s 8 := by omega
                   have e := e5 hq
                   have h7 := h6 hq
                   clear hr5 e5
                   subst e
                   (try rw [ab_up_k (by decide)])
                   first
                     | exact h7.2.1
                     | exact ⟨h7.2.1, by decide, by decide⟩
                     | exact h4
                     | (rw [ab_up_o h7.2.2.2.2]; exact ⟨h7.2.1, h7.2.2.1, by decide, by decide⟩))
                | omega) ?_
            refine ⟨?_, ?_⟩
            · intro c93
              refine And.intro (by
                first
                  | exact h3
                  | exact h5
                  | exact ⟨h3, by omega, by omega⟩
                  | exact ⟨by decide, by decide⟩
                  | (exfalso; omega)
                  | (have hq : 0 ≤ M s 8 := by omega
                     have e := e5 hq
                     have h7 := h6 hq
                     clear hr5 e5
                     subst e
                     (try rw [ab_up_k (by decide)])
                     first
                       | exact h7.2.1
                       | exact ⟨h7.2.1, by decide, by decide⟩
                       | exact h4
                       | (rw [ab_up_o h7.2.2.2.2]; exact ⟨h7.2.1, h7.2.2.1, by decide, by decide⟩))
                  | omega) ?_
              (try rw [ab_up_k (by decide)] at c68)
              (try rw [ab_up_k (by decide)] at c75)
              first
                | (exfalso; omega)
                | (have hq : 0 ≤ M s 8 := by omega
                   have e := e5 hq
                   have h7 := h6 hq
                   clear hr5 e5
                   subst e
                   refine gK _ (cr_up2 ?_ ?_)
                   · first
                       | (rw [if_pos (by omega)]; done)
                       | (rw [if_neg (by omega), if_pos (by omega), hr47]; done)
                   · first
                       | (rw [if_pos (by omega), if_pos (by omega), hr82]; exact (cr_en_up h7.2.2.2.2).trans (if_neg h7.2.2.2.1))
                       | (rw [if_pos (by omega), if_neg (by omega)]; exact ab_up_k (by decide) _))
                | (have hq : ¬ 0 ≤ M s 8 := by omega
                   refine gK _ (cr_up2 ?_ ?_)
                   · first
                       | (rw [if_pos (by omega)]; done)
                       | (rw [if_neg (by omega), if_neg (by omega)]; done)
                   · rw [if_neg (by omega)])
            · intro c93
              (try rw [ab_up_k (by decide)] at c68)
              (try rw [ab_up_k (by decide)] at c75)
              first
                | (exfalso; omega)
                | (have hq : 0 ≤ M s 8 := by omega
                   have e := e5 hq
                   have h7 := h6 hq
                   clear hr5 e5
                   subst e
                   refine gK _ (cr_up2 ?_ ?_)
                   · first
                       | (rw [if_pos (by omega)]; done)
                       | (rw [if_neg (by omega), if_pos (by omega), hr47]; done)
                   · first
                       | (rw [if_pos (by omega), if_pos (by omega), hr82]; exact (cr_en_up h7.2.2.2.2).trans (if_neg h7.2.2.2.1))
                       | (rw [if_pos (by omega), if_neg (by omega)]; exact ab_up_k (by decide) _))
                | (have hq : ¬ 0 ≤ M s 8 := by omega
                   refine gK _ (cr_up2 ?_ ?_)
                   · first
                       | (rw [if_pos (by omega)]; done)
                       | (rw [if_neg (by omega), if_neg (by omega)]; done)
                   · rw [if_neg (by omega)])
          · intro c68
            refine And.intro (by
              first
                | exact h3
                | exact h5
                | exact ⟨h3, by omega, by omega⟩
                | exact ⟨by decide, by decide⟩
                | (exfalso; omega)
                | (have hq : 0 ≤ M s 8 := by omega
                   have e := e5 hq
                   have h7 := h6 hq
                   clear hr5 e5
                   subst e
                   (try rw [ab_up_k (by decide)])
                   first
                     | exact h7.2.1
                     | exact ⟨h7.2.1, by decide, by decide⟩
                     | exact h4
                     | (rw [ab_up_o h7.2.2.2.2]; exact ⟨h7.2.1, h7.2.2.1, by decide, by decide⟩))
                | omega) ?_
            refine ⟨?_, ?_⟩
            · intro c75
              refine And.intro (by
                first
                  | exact h3
                  | exact h5
                  | exact ⟨h3, by omega, by omega⟩
                  | exact ⟨by decide, by decide⟩
                  | (exfalso; omega)
                  | (have hq : 0 ≤ M s 8 := by omega
                     have e := e5 hq
                     have h7 := h6 hq
                     clear hr5 e5
                     subst e
                     (try rw [ab_up_k (by decide)])
                     first
                       | exact h7.2.1
                       | exact ⟨h7.2.1, by decide, by decide⟩
                       | exact h4
                       | (rw [ab_up_o h7.2.2.2.2]; exact ⟨h7.2.1, h7.2.2.1, by decide, by decide⟩))
                  | omega) ?_
              refine ⟨?_, ?_⟩
              · intro c93
                refine And.intro (by
                  first
                    | exact h3
                    | exact h5
                    | exact ⟨h3, by omega, by omega⟩
                    | exact ⟨by decide, by decide⟩
                    | (exfalso; omega)
                    | (have hq : 0 ≤ M s 8 := by omega
                       have e := e5 hq
                       have h7 := h6 hq
                       clear hr5 e5
                       subst e
                       (try rw [ab_up_k (by decide)])
                       first
                         | exact h7.2.1
                         | exact ⟨h7.2.1, by decide, by decide⟩
                         | exact h4
                         | (rw [ab_up_o h7.2.2.2.2]; exact ⟨h7.2.1, h7.2.2.1, by decide, by decide⟩))
                    | omega) ?_
                (try rw [ab_up_k (by decide)] at c68)
                (try rw [ab_up_k (by decide)] at c75)
                first
                  | (exfalso; omega)
                  | (have hq : 0 ≤ M s 8 := by omega
                     have e := e5 hq
                     have h7 := h6 hq
                     clear hr5 e5
                     subst e
                     refine gK _ (cr_up2 ?_ ?_)
                     · first
                         | (rw [if_pos (by omega)]; done)
                         | (rw [if_neg (by omega), if_pos (by omega), hr47]; done)
                     · first
                         | (rw [if_pos (by omega), if_pos (by omega), hr82]; exact (cr_en_up h7.2.2.2.2).trans (if_neg h7.2.2.2.1))
                         | (rw [if_pos (by omega), if_neg (by omega)]; exact ab_up_k (by decide) _))
                  | (have hq : ¬ 0 ≤ M s 8 := by omega
                     refine gK _ (cr_up2 ?_ ?_)
                     · first
                         | (rw [if_pos (by omega)]; done)
                         | (rw [if_neg (by omega), if_neg (by omega)]; done)
                     · rw [if_neg (by omega)])
              · intro c93
                (try rw [ab_up_k (by decide)] at c68)
                (try rw [ab_up_k (by decide)] at c75)
                first
                  | (exfalso; omega)
                  | (have hq : 0 ≤ M s 8 := by omega
                     have e := e5 hq
                     have h7 := h6 hq
                     clear hr5 e5
                     subst e
                     refine gK _ (cr_up2 ?_ ?_)
                     · first
                         | (rw [if_pos (by omega)]; done)
                         | (rw [if_neg (by omega), if_pos (by omega), hr47]; done)
                     · first
                         | (rw [if_pos (by omega), if_pos (by omega), hr82]; exact (cr_en_up h7.2.2.2.2).trans (if_neg h7.2.2.2.1))
                         | (rw [if_pos (by omega), if_neg (by omega)]; exact ab_up_k (by decide) _))
                  | (have hq : ¬ 0 ≤ M s 8 := by omega
                     refine gK _ (cr_up2 ?_ ?_)
                     · first
                         | (rw [if_pos (by omega)]; done)
                         | (rw [if_neg (by omega), if_neg (by omega)]; done)
                     · rw [if_neg (by omega)])
            · intro c75
              refine And.intro (by
                first
                  | exact h3
                  | exact h5
                  | exact ⟨h3, by omega, by omega⟩
                  | exact ⟨by decide, by decide⟩
                  | (exfalso; omega)
                  | (have hq : 0 ≤ M s 8 := by omega
                     have e := e5 hq
                     have h7 := h6 hq
                     clear hr5 e5
                     subst e
                     (try rw [ab_up_k (by decide)])
                     first
                       | exact h7.2.1
                       | exact ⟨h7.2.1, by decide, by decide⟩
                       | exact h4
                       | (rw [ab_up_o h7.2.2.2.2]; exact ⟨h7.2.1, h7.2.2.1, by decide, by decide⟩))
                  | omega) ?_
              intro r82 hr82
              (try rw [ab_up_k (by decide)] at c68)
              (try rw [ab_up_k (by decide)] at c75)
              first
                | (exfalso; omega)
                | (have hq : 0 ≤ M s 8 := by omega
                   have e := e5 hq
                   have h7 := h6 hq
                   clear hr5 e5
                   subst e
                   refine gK _ (cr_up2 ?_ ?_)
                   · first
                       | (rw [if_pos (by omega)]; done)
                       | (rw [if_neg (by omega), if_pos (by omega), hr47]; done)
                   · first
                       | (rw [if_pos (by omega), if_pos (by omega), hr82]; exact (cr_en_up h7.2.2.2.2).trans (if_neg h7.2.2.2.1))
                       | (rw [if_pos (by omega), if_neg (by omega)]; exact ab_up_k (by decide) _))
                | (have hq : ¬ 0 ≤ M s 8 := by omega
                   refine gK _ (cr_up2 ?_ ?_)
                   · first
                       | (rw [if_pos (by omega)]; done)
                       | (rw [if_neg (by omega), if_neg (by omega)]; done)
                   · rw [if_neg (by omega)])
      · intro c42
        refine And.intro (by
          first
            | exact h3
            | exact h5
            | exact ⟨h3, by omega, by omega⟩
            | exact ⟨by decide, by decide⟩
            | (exfalso; omega)
            | (have hq : 0 ≤ M s 8 := by omega
               have e := e5 hq
               have h7 := h6 hq
               clear hr5 e5
               subst e
               (try rw [ab_up_k (by decide)])
               first
                 | exact h7.2.1
                 | exact ⟨h7.2.1, by decide, by decide⟩
                 | exact h4
                 | (rw [ab_up_o h7.2.2.2.2]; exact ⟨h7.2.1, h7.2.2.1, by decide, by decide⟩))
            | omega) ?_
        intro r47 hr47
        refine And.intro (by
          first
            | exact h3
            | exact h5
            | exact ⟨h3, by omega, by omega⟩
            | exact ⟨by decide, by decide⟩
            | (exfalso; omega)
            | (have hq : 0 ≤ M s 8 := by omega
               have e := e5 hq
               have h7 := h6 hq
               clear hr5 e5
               subst e
               (try rw [ab_up_k (by decide)])
               first
                 | exact h7.2.1
                 | exact ⟨h7.2.1, by decide, by decide⟩
                 | exact h4
                 | (rw [ab_up_o h7.2.2.2.2]; exact ⟨h7.2.1, h7.2.2.1, by decide, by decide⟩))
            | omega) ?_
        refine ⟨?_, ?_⟩
        · intro c59
          refine And.intro (by
            first
              | exact h3
              | exact h5
              | exact ⟨h3, by omega, by omega⟩
              | exact ⟨by decide, by decide⟩
              | (exfalso; omega)
              | (have hq : 0 ≤ M s 8 := by omega
                 have e := e5 hq
                 have h7 := h6 hq
                 clear hr5 e5
                 subst e
                 (try rw [ab_up_k (by decide)])
                 first
                   | exact h7.2.1
                   | exact ⟨h7.2.1, by decide, by decide⟩
                   | exact h4
                   | (rw [ab_up_o h7.2.2.2.2]; exact ⟨h7.2.1, h7.2.2.1, by decide, by decide⟩))
              | omega) ?_
          refine ⟨?_, ?_⟩
          · intro c93
            refine And.intro (by
              first
                | exact h3
                | exact h5
                | exact ⟨h3, by omega, by omega⟩
                | exact ⟨by decide, by decide⟩
                | (exfalso; omega)
                | (have hq : 0 ≤ M s 8 := by omega
                   have e := e5 hq
                   have h7 := h6 hq
                   clear hr5 e5
                   subst e
                   (try rw [ab_up_k (by decide)])
                   first
                     | exact h7.2.1
                     | exact ⟨h7.2.1, by decide, by decide⟩
                     | exact h4
                     | (rw [ab_up_o h7.2.2.2.2]; exact ⟨h7.2.1, h7.2.2.1, by decide, by decide⟩))
                | omega) ?_
            (try rw [ab_up_k (by decide)] at c68)
            (try rw [ab_up_k (by decide)] at c75)
            first
              | (exfalso; omega)
              | (have hq : 0 ≤ M s 8 := by omega
                 have e := e5 hq
                 have h7 := h6 hq
                 clear hr5 e5
                 subst e
                 refine gK _ (cr_up2 ?_ ?_)
                 · first
                     | (rw [if_pos (by omega)]; done)
                     | (rw [if_neg (by omega), if_pos (by omega), hr47]; done)
                 · first
                     | (rw [if_pos (by omega), if_pos (by omega), hr82]; exact (cr_en_up h7.2.2.2.2).trans (if_neg h7.2.2.2.1))
                     | (rw [if_pos (by omega), if_neg (by omega)]; exact ab_up_k (by decide) _))
              | (have hq : ¬ 0 ≤ M s 8 := by omega
                 refine gK _ (cr_up2 ?_ ?_)
                 · first
                     | (rw [if_pos (by omega)]; done)
                     | (rw [if_neg (by omega), if_neg (by omega)]; done)
                 · rw [if_neg (by omega)])
          · intro c93
            (try rw [ab_up_k (by decide)] at c68)
            (try rw [ab_up_k (by decide)] at c75)
            first
              | (exfalso; omega)
              | (have hq : 0 ≤ M s 8 := by omega
                 have e := e5 hq
                 have h7 := h6 hq
                 clear hr5 e5
                 subst e
                 refine gK _ (cr_up2 ?_ ?_)
                 · first
                     | (rw [if_pos (by omega)]; done)
                     | (rw [if_neg (by omega), if_pos (by omega), hr47]; done)
                 · first
                     | (rw [if_pos (by omega), if_pos (by omega), hr82]; exact (cr_en_up h7.2.2.2.2).trans (if_neg h7.2.2.2.1))
                     | (rw [if_pos (by omega), if_neg (by omega)]; exact ab_up_k (by decide) _))
              | (have hq : ¬ 0 ≤ M s 8 := by omega
                 refine gK _ (cr_up2 ?_ ?_)
                 · first
                     | (rw [if_pos (by omega)]; done)
                     | (rw [if_neg (by omega), if_neg (by omega)]; done)
                 · rw [if_neg (by omega)])
        · intro c59
          refine And.intro (by
            first
              | exact h3
              | exact h5
              | exact ⟨h3, by omega, by omega⟩
              | exact ⟨by decide, by decide⟩
              | (exfalso; omega)
              | (have hq : 0 ≤ M s 8 := by omega
                 have e := e5 hq
                 have h7 := h6 hq
                 clear hr5 e5
                 subst e
                 (try rw [ab_up_k (by decide)])
                 first
                   | exact h7.2.1
                   | exact ⟨h7.2.1, by decide, by decide⟩
                   | exact h4
                   | (rw [ab_up_o h7.2.2.2.2]; exact ⟨h7.2.1, h7.2.2.1, by decide, by decide⟩))
              | omega) ?_
          refine And.intro (by
            first
              | exact h3
              | exact h5
              | exact ⟨h3, by omega, by omega⟩
              | exact ⟨by decide, by decide⟩
              | (exfalso; omega)
              | (have hq : 0 ≤ M s 8 := by omega
                 have e := e5 hq
                 have h7 := h6 hq
                 clear hr5 e5
                 subst e
                 (try rw [ab_up_k (by decide)])
                 first
                   | exact h7.2.1
                   | exact ⟨h7.2.1, by decide, by decide⟩
                   | exact h4
                   | (rw [ab_up_o h7.2.2.2.2]; exact ⟨h7.2.1, h7.2.2.1, by decide, by decide⟩))
              | omega) ?_
          refine ⟨?_, ?_⟩
          · intro c68
            refine And.intro (by
              first
                | exact h3
                | exact h5
                | exact ⟨h3, by omega, by omega⟩
                | exact ⟨by decide, by decide⟩
                | (exfalso; omega)
                | (have hq : 0 ≤ M s 8 := by omega
                   have e := e5 hq
                   have h7 := h6 hq
                   clear hr5 e5
                   subst e
                   (try rw [ab_up_k (by decide)])
                   first
                     | exact h7.2.1
                     | exact ⟨h7.2.1, by decide, by decide⟩
                     | exact h4
                     | (rw [ab_up_o h7.2.2.2.2]; exact ⟨h7.2.1, h7.2.2.1, by decide, by decide⟩))
                | omega) ?_
            refine ⟨?_, ?_⟩
            · intro c93
              refine And.intro (by
                first
                  | exact h3
                  | exact h5
                  | exact ⟨h3, by omega, by omega⟩
                  | exact ⟨by decide, by decide⟩
                  | (exfalso; omega)
                  | (have hq : 0 ≤ M s 8 := by omega
                     have e := e5 hq
                     have h7 := h6 hq
                     clear hr5 e5
                     subst e
                     (try rw [ab_up_k (by decide)])
                     first
                       | exact h7.2.1
                       | exact ⟨h7.2.1, by decide, by decide⟩
                       | exact h4
                       | (rw [ab_up_o h7.2.2.2.2]; exact ⟨h7.2.1, h7.2.2.1, by decide, by decide⟩))
                  | omega) ?_
              (try rw [ab_up_k (by decide)] at c68)
              (try rw [ab_up_k (by decide)] at c75)
              first
                | (exfalso; omega)
                | (have hq : 0 ≤ M s 8 := by omega
                   have e := e5 hq
                   have h7 := h6 hq
                   clear hr5 e5
                   subst e
                   refine gK _ (cr_up2 ?_ ?_)
                   · first
                       | (rw [if_pos (by omega)]; done)
                       | (rw [if_neg (by omega), if_pos (by omega), hr47]; done)
                   · first
                       | (rw [if_pos (by omega), if_pos (by omega), hr82]; exact (cr_en_up h7.2.2.2.2).trans (if_neg h7.2.2.2.1))
                       | (rw [if_pos (by omega), if_neg (by omega)]; exact ab_up_k (by decide) _))
                | (have hq : ¬ 0 ≤ M s 8 := by omega
                   refine gK _ (cr_up2 ?_ ?_)
                   · first
                       | (rw [if_pos (by omega)]; done)
                       | (rw [if_neg (by omega), if_neg (by omega)]; done)
                   · rw [if_neg (by omega)])
            · intro c93
              (try rw [ab_up_k (by decide)] at c68)
              (try rw [ab_up_k (by decide)] at c75)
              first
                | (exfalso; omega)
                | (have hq : 0 ≤ M s 8 := by omega
                   have e := e5 hq
                   have h7 := h6 hq
                   clear hr5 e5
                   subst e
                   refine gK _ (cr_up2 ?_ ?_)
                   · first
                       | (rw [if_pos (by omega)]; done)
                       | (rw [if_neg (by omega), if_pos (by omega), hr47]; done)
                   · first
                       | (rw [if_pos (by omega), if_pos (by omega), hr82]; exact (cr_en_up h7.2.2.2.2).trans (if_neg h7.2.2.2.1))
                       | (rw [if_pos (by omega), if_neg (by omega)]; exact ab_up_k (by decide) _))
                | (have hq : ¬ 0 ≤ M s 8 := by omega
                   refine gK _ (cr_up2 ?_ ?_)
                   · first
                       | (rw [if_pos (by omega)]; done)
                       | (rw [if_neg (by omega), if_neg (by omega)]; done)
                   · rw [if_neg (by omega)])
          · intro c68
            refine And.intro (by
              first
                | exact h3
                | exact h5
                | exact ⟨h3, by omega, by omega⟩
                | exact ⟨by decide, by decide⟩
                | (exfalso; omega)
                | (have hq : 0 ≤ M s 8 := by omega
                   have e := e5 hq
                   have h7 := h6 hq
                   clear hr5 e5
                   subst e
                   (try rw [ab_up_k (by decide)])
                   first
                     | exact h7.2.1
                     | exact ⟨h7.2.1, by decide, by decide⟩
                     | exact h4
                     | (rw [ab_up_o h7.2.2.2.2]; exact ⟨h7.2.1, h7.2.2.1, by decide, by decide⟩))
                | omega) ?_
            refine ⟨?_, ?_⟩
            · intro c75
              refine And.intro (by
                first
                  | exact h3
                  | exact h5
                  | exact ⟨h3, by omega, by omega⟩
                  | exact ⟨by decide, by decide⟩
                  | (exfalso; omega)
                  | (have hq : 0 ≤ M s 8 := by omega
                     have e := e5 hq
                     have h7 := h6 hq
                     clear hr5 e5
                     subst e
                     (try rw [ab_up_k (by decide)])
                     first
                       | exact h7.2.1
                       | exact ⟨h7.2.1, by decide, by decide⟩
                       | exact h4
                       | (rw [ab_up_o h7.2.2.2.2]; exact ⟨h7.2.1, h7.2.2.1, by decide, by decide⟩))
                  | omega) ?_
              refine ⟨?_, ?_⟩
              · intro c93
                refine And.intro (by
                  first
                    | exact h3
                    | exact h5
                    | exact ⟨h3, by omega, by omega⟩
                    | exact ⟨by decide, by decide⟩
                    | (exfalso; omega)
                    | (have hq : 0 ≤ M s 8 := by omega
                       have e := e5 hq
                       have h7 := h6 hq
                       clear hr5 e5
                       subst e
                       (try rw [ab_up_k (by decide)])
                       first
                         | exact h7.2.1
                         | exact ⟨h7.2.1, by decide, by decide⟩
                         | exact h4
                         | (rw [ab_up_o h7.2.2.2.2]; exact ⟨h7.2.1, h7.2.2.1, by decide, by decide⟩))
                    | omega) ?_
                (try rw [ab_up_k (by decide)] at c68)
                (try rw [ab_up_k (by decide)] at c75)
                first
                  | (exfalso; omega)
                  | (have hq : 0 ≤ M s 8 := by omega
                     have e := e5 hq
                     have h7 := h6 hq
                     clear hr5 e5
                     subst e
                     refine gK _ (cr_up2 ?_ ?_)
                     · first
                         | (rw [if_pos (by omega)]; done)
                         | (rw [if_neg (by omega), if_pos (by omega), hr47]; done)
                     · first
                         | (rw [if_pos (by omega), if_pos (by omega), hr82]; exact (cr_en_up h7.2.2.2.2).trans (if_neg h7.2.2.2.1))
                         | (rw [if_pos (by omega), if_neg (by omega)]; exact ab_up_k (by decide) _))
                  | (have hq : ¬ 0 ≤ M s 8 := by omega
                     refine gK _ (cr_up2 ?_ ?_)
                     · first
                         | (rw [if_pos (by omega)]; done)
                         | (rw [if_neg (by omega), if_neg (by omega)]; done)
                     · rw [if_neg (by omega)])
              · intro c93
                (try rw [ab_up_k (by decide)] at c68)
                (try rw [ab_up_k (by decide)] at c75)
                first
                  | (exfalso; omega)
                  | (have hq : 0 ≤ M s 8 := by omega
                     have e := e5 hq
                     have h7 := h6 hq
                     clear hr5 e5
                     subst e
                     refine gK _ (cr_up2 ?_ ?_)
                     · first
                         | (rw [if_pos (by omega)]; done)
                         | (rw [if_neg (by omega), if_pos (by omega), hr47]; done)
                     · first
                         | (rw [if_pos (by omega), if_pos (by omega), hr82]; exact (cr_en_up h7.2.2.2.2).trans (if_neg h7.2.2.2.1))
                         | (rw [if_pos (by omega), if_neg (by omega)]; exact ab_up_k (by decide) _))
                  | (have hq : ¬ 0 ≤ M s 8 := by omega
                     refine gK _ (cr_up2 ?_ ?_)
                     · first
                         | (rw [if_pos (by omega)]; done)
                         | (rw [if_neg (by omega), if_neg (by omega)]; done)
                     · rw [if_neg (by omega)])
            · intro c75
              refine And.intro (by
                first
                  | exact h3
                  | exact h5
                  | exact ⟨h3, by omega, by omega⟩
                  | exact ⟨by decide, by decide⟩
                  | (exfalso; omega)
                  | (have hq : 0 ≤ M s 8 := by omega
                     have e := e5 hq
                     have h7 := h6 hq
                     clear hr5 e5
                     subst e
                     (try rw [ab_up_k (by decide)])
                     first
                       | exact h7.2.1
                       | exact ⟨h7.2.1, by decide, by decide⟩
                       | exact h4
                       | (rw [ab_up_o h7.2.2.2.2]; exact ⟨h7.2.1, h7.2.2.1, by decide, by decide⟩))
                  | omega) ?_
              intro r82 hr82
              (try rw [ab_up_k (by decide)] at c68)
              (try rw [ab_up_k (by decide)] at c75)
              first
                | (exfalso; omega)
                | (have hq : 0 ≤ M s 8 := by omega
                   have e := e5 hq
                   have h7 := h6 hq
                   clear hr5 e5
                   subst e
                   refine gK _ (cr_up2 ?_ ?_)
                   · first
                       | (rw [if_pos (by omega)]; done)
                       | (rw [if_neg (by omega), if_pos (by omega), hr47]; done)
                   · first
                       | (rw [if_pos (by omega), if_pos (by omega), hr82]; exact (cr_en_up h7.2.2.2.2).trans (if_neg h7.2.2.2.1))
                       | (rw [if_pos (by omega), if_neg (by omega)]; exact ab_up_k (by decide) _))
                | (have hq : ¬ 0 ≤ M s 8 := by omega
                   refine gK _ (cr_up2 ?_ ?_)
                   · first
                       | (rw [if_pos (by omega)]; done)
                       | (rw [if_neg (by omega), if_neg (by omega)]; done)
                   · rw [if_neg (by omega)])
    · intro c26
      refine And.intro (by
        first
          | exact h3
          | exact h5
          | exact ⟨h3, by omega, by omega⟩
          | exact ⟨by decide, by decide⟩
          | (exfalso; omega)
          | (have hq : 0 ≤ M s 8 := by omega
             have e := e5 hq
             have h7 := h6 hq
             clear hr5 e5
             subst e
             (try rw [ab_up_k (by decide)])
             first
               | exact h7.2.1
               | exact ⟨h7.2.1, by decide, by decide⟩
               | exact h4
               | (rw [ab_up_o h7.2.2.2.2]; exact ⟨h7.2.1, h7.2.2.1, by decide, by decide⟩))
          | omega) ?_
      refine ⟨?_, ?_⟩
      · intro c59
        refine And.intro (by
          first
            | exact h3
            | exact h5
            | exact ⟨h3, by omega, by omega⟩
            | exact ⟨by decide, by decide⟩
            | (exfalso; omega)
            | (have hq : 0 ≤ M s 8 := by omega
               have e := e5 hq
               have h7 := h6 hq
               clear hr5 e5
               subst e
               (try rw [ab_up_k (by decide)])
               first
                 | exact h7.2.1
                 | exact ⟨h7.2.1, by decide, by decide⟩
                 | exact h4
                 | (rw [ab_up_o h7.2.2.2.2]; exact ⟨h7.2.1, h7.2.2.1, by decide, by decide⟩))
            | omega) ?_
        refine ⟨?_, ?_⟩
        · intro c93
          refine And.intro (by
            first
              | exact h3
              | exact h5
              | exact ⟨h3, by omega, by omega⟩
              | exact ⟨by decide, by decide⟩
              | (exfalso; omega)
              | (have hq : 0 ≤ M s 8 := by omega
                 have e := e5 hq
                 have h7 := h6 hq
                 clear hr5 e5
                 subst e
                 (try rw [ab_up_k (by decide)])
                 first
                   | exact h7.2.1
                   | exact ⟨h7.2.1, by decide, by decide⟩
                   | exact h4
                   | (rw [ab_up_o h7.2.2.2.2]; exact ⟨h7.2.1, h7.2.2.1, by decide, by decide⟩))
              | omega) ?_
          (try rw [ab_up_k (by decide)] at c68)
          (try rw [ab_up_k (by decide)] at c75)
          first
            | (exfalso; omega)
            | (have hq : 0 ≤ M s 8 := by omega
               have e := e5 hq
               have h7 := h6 hq
               clear hr5 e5
               subst e
               refine gK _ (cr_up2 ?_ ?_)
               · first
                   | (rw [if_pos (by omega)]; done)
                   | (rw [if_neg (by omega), if_pos (by omega), hr47]; done)
               · first
                   | (rw [if_pos (by omega), if_pos (by omega), hr82]; exact (cr_en_up h7.2.2.2.2).trans (if_neg h7.2.2.2.1))
                   | (rw [if_pos (by omega), if_neg (by omega)]; exact ab_up_k (by decide) _))
            | (have hq : ¬ 0 ≤ M s 8 := by omega
               refine gK _ (cr_up2 ?_ ?_)
               · first
                   | (rw [if_pos (by omega)]; done)
                   | (rw [if_neg (by omega), if_neg (by omega)]; done)
               · rw [if_neg (by omega)])
        · intro c93
          (try rw [ab_up_k (by decide)] at c68)
          (try rw [ab_up_k (by decide)] at c75)
          first
            | (exfalso; omega)
            | (have hq : 0 ≤ M s 8 := by omega
               have e := e5 hq
               have h7 := h6 hq
               clear hr5 e5
               subst e
               refine gK _ (cr_up2 ?_ ?_)
               · first
                   | (rw [if_pos (by omega)]; done)
                   | (rw [if_neg (by omega), if_pos (by omega), hr47]; done)
               · first
                   | (rw [if_pos (by omega), if_pos (by omega), hr82]; exact (cr_en_up h7.2.2.2.2).trans (if_neg h7.2.2.2.1))
                   | (rw [if_pos (by omega), if_neg (by omega)]; exact ab_up_k (by decide) _))
            | (have hq : ¬ 0 ≤ M s 8 := by omega
               refine gK _ (cr_up2 ?_ ?_)
               · first
                   | (rw [if_pos (by omega)]; done)
                   | (rw [if_neg (by omega), if_neg (by omega)]; done)
               · rw [if_neg (by omega)])
      · intro c59
        refine And.intro (by
          first
            | exact h3
            | exact h5
            | exact ⟨h3, by omega, by omega⟩
            | exact ⟨by decide, by decide⟩
            | (exfalso; omega)
            | (have hq : 0 ≤ M s 8 := by omega
               have e := e5 hq
               have h7 := h6 hq
               clear hr5 e5
               subst e
               (try rw [ab_up_k (by decide)])
               first
                 | exact h7.2.1
                 | exact ⟨h7.2.1, by decide, by decide⟩
                 | exact h4
                 | (rw [ab_up_o h7.2.2.2.2]; exact ⟨h7.2.1, h7.2.2.1, by decide, by decide⟩))
            | omega) ?_
        refine And.intro (by
          first
            | exact h3
            | exact h5
            | exact ⟨h3, by omega, by omega⟩
            | exact ⟨by decide, by decide⟩
            | (exfalso; omega)
            | (have hq : 0 ≤ M s 8 := by omega
               have e := e5 hq
               have h7 := h6 hq
               clear hr5 e5
               subst e
               (try rw [ab_up_k (by decide)])
               first
                 | exact h7.2.1
                 | exact ⟨h7.2.1, by decide, by decide⟩
                 | exact h4
                 | (rw [ab_up_o h7.2.2.2.2]; exact ⟨h7.2.1, h7.2.2.1, by decide, by decide⟩))
            | omega) ?_
        refine ⟨?_, ?_⟩
        · intro c68
          refine And.intro (by
            first
              | exact h3
              | exact h5
              | exact ⟨h3, by omega, by omega⟩
              | exact ⟨by decide, by decide⟩
              | (exfalso; omega)
              | (have hq : 0 ≤ M s 8 := by omega
                 have e := e5 hq
                 have h7 := h6 hq
                 clear hr5 e5
                 subst e
                 (try rw [ab_up_k (by decide)])
                 first
                   | exact h7.2.1
                   | exact ⟨h7.2.1, by decide, by decide⟩
                   | exact h4
                   | (rw [ab_up_o h7.2.2.2.2]; exact ⟨h7.2.1, h7.2.2.1, by decide, by decide⟩))
              | omega) ?_
          refine ⟨?_, ?_⟩
          · intro c93
            refine And.intro (by
              first
                | exact h3
                | exact h5
                | exact ⟨h3, by omega, by omega⟩
                | exact ⟨by decide, by decide⟩
                | (exfalso; omega)
                | (have hq : 0 ≤ M s 8 := by omega
                   have e := e5 hq
                   have h7 := h6 hq
                   clear hr5 e5
                   subst e
                   (try rw [ab_up_k (by decide)])
                   first
                     | exact h7.2.1
                     | exact ⟨h7.2.1, by decide, by decide⟩
                     | exact h4
                     | (rw [ab_up_o h7.2.2.2.2]; exact ⟨h7.2.1, h7.2.2.1, by decide, by decide⟩))
                | omega) ?_
            (try rw [ab_up_k (by decide)] at c68)
            (try rw [ab_up_k (by decide)] at c75)
            first
              | (exfalso; omega)
              | (have hq : 0 ≤ M s 8 := by omega
                 have e := e5 hq
                 have h7 := h6 hq
                 clear hr5 e5
                 subst e
                 refine gK _ (cr_up2 ?_ ?_)
                 · first
                     | (rw [if_pos (by omega)]; done)
                     | (rw [if_neg (by omega), if_pos (by omega), hr47]; done)
                 · first
                     | (rw [if_pos (by omega), if_pos (by omega), hr82]; exact (cr_en_up h7.2.2.2.2).trans (if_neg h7.2.2.2.1))
                     | (rw [if_pos (by omega), if_neg (by omega)]; exact ab_up_k (by decide) _))
              | (have hq : ¬ 0 ≤ M s 8 := by omega
                 refine gK _ (cr_up2 ?_ ?_)
                 · first
                     | (rw [if_pos (by omega)]; done)
                     | (rw [if_neg (by omega), if_neg (by omega)]; done)
                 · rw [if_neg (by omega)])
          · intro c93
            (try rw [ab_up_k (by decide)] at c68)
            (try rw [ab_up_k (by decide)] at c75)
            first
              | (exfalso; omega)
              | (have hq : 0 ≤ M s 8 := by omega
                 have e := e5 hq
                 have h7 := h6 hq
                 clear hr5 e5
                 subst e
                 refine gK _ (cr_up2 ?_ ?_)
                 · first
                     | (rw [if_pos (by omega)]; done)
                     | (rw [if_neg (by omega), if_pos (by omega), hr47]; done)
                 · first
                     | (rw [if_pos (by omega), if_pos (by omega), hr82]; exact (cr_en_up h7.2.2.2.2).trans (if_neg h7.2.2.2.1))
                     | (rw [if_pos (by omega), if_neg (by omega)]; exact ab_up_k (by decide) _))
              | (have hq : ¬ 0 ≤ M s 8 := by omega
                 refine gK _ (cr_up2 ?_ ?_)
                 · first
                     | (rw [if_pos (by omega)]; done)
                     | (rw [if_neg (by omega), if_neg (by omega)]; done)
                 · rw [if_neg (by omega)])
        · intro c68
          refine And.intro (by
            first
              | exact h3
              | exact h5
              | exact ⟨h3, by omega, by omega⟩
              | exact ⟨by decide, by decide⟩
              | (exfalso; omega)
              | (have hq : 0 ≤ M s 8 := by omega
                 have e := e5 hq
                 have h7 := h6 hq
                 clear hr5 e5
                 subst e
                 (try rw [ab_up_k (by decide)])
                 first
                   | exact h7.2.1
                   | exact ⟨h7.2.1, by decide, by decide⟩
                   | exact h4
                   | (rw [ab_up_o h7.2.2.2.2]; exact ⟨h7.2.1, h7.2.2.1, by decide, by decide⟩))
              | omega) ?_
          refine ⟨?_, ?_⟩
          · intro c75
            refine And.intro (by
              first
                | exact h3
                | exact h5
                | exact ⟨h3, by omega, by omega⟩
                | exact ⟨by decide, by decide⟩
                | (exfalso; omega)
                | (have hq : 0 ≤ M s 8 := by omega
                   have e := e5 hq
                   have h7 := h6 hq
                   clear hr5 e5
                   subst e
                   (try rw [ab_up_k (by decide)])
                   first
                     | exact h7.2.1
                     | exact ⟨h7.2.1, by decide, by decide⟩
                     | exact h4
                     | (rw [ab_up_o h7.2.2.2.2]; exact ⟨h7.2.1, h7.2.2.1, by decide, by decide⟩))
                | omega) ?_
            refine ⟨?_, ?_⟩
            · intro c93
              refine And.intro (by
                first
                  | exact h3
                  | exact h5
                  | exact ⟨h3, by omega, by omega⟩
                  | exact ⟨by decide, by decide⟩
                  | (exfalso; omega)
                  | (have hq : 0 ≤ M s 8 := by omega
                     have e := e5 hq
                     have h7 := h6 hq
                     clear hr5 e5
                     subst e
                     (try rw [ab_up_k (by decide)])
                     first
                       | exact h7.2.1
                       | exact ⟨h7.2.1, by decide, by decide⟩
                       | exact h4
                       | (rw [ab_up_o h7.2.2.2.2]; exact ⟨h7.2.1, h7.2.2.1, by decide, by decide⟩))
                  | omega) ?_
              (try rw [ab_up_k (by decide)] at c68)
              (try rw [ab_up_k (by decide)] at c75)
              first
                | (exfalso; omega)
                | (have hq : 0 ≤ M s 8 := by omega
                   have e := e5 hq
                   have h7 := h6 hq
                   clear hr5 e5
                   subst e
                   refine gK _ (cr_up2 ?_ ?_)
                   · first
                       | (rw [if_pos (by omega)]; done)
                       | (rw [if_neg (by omega), if_pos (by omega), hr47]; done)
                   · first
                       | (rw [if_pos (by omega), if_pos (by omega), hr82]; exact (cr_en_up h7.2.2.2.2).trans (if_neg h7.2.2.2.1))
                       | (rw [if_pos (by omega), if_neg (by omega)]; exact ab_up_k (by decide) _))
                | (have hq : ¬ 0 ≤ M s 8 := by omega
                   refine gK _ (cr_up2 ?_ ?_)
                   · first
                       | (rw [if_pos (by omega)]; done)
                       | (rw [if_neg (by omega), if_neg (by omega)]; done)
                   · rw [if_neg (by omega)])
            · intro c93
              (try rw [ab_up_k (by decide)] at c68)
              (try rw [ab_up_k (by decide)] at c75)
              first
                | (exfalso; omega)
                | (have hq : 0 ≤ M s 8 := by omega
                   have e := e5 hq
                   have h7 := h6 hq
                   clear hr5 e5
                   subst e
                   refine gK _ (cr_up2 ?_ ?_)
                   · first
                       | (rw [if_pos (by omega)]; done)
                       | (rw [if_neg (by omega), if_pos (by omega), hr47]; done)
                   · first
                       | (rw [if_pos (by omega), if_pos (by omega), hr82]; exact (cr_en_up h7.2.2.2.2).trans (if_neg h7.2.2.2.1))
                       | (rw [if_pos (by omega), if_neg (by omega)]; exact ab_up_k (by decide) _))
                | (have hq : ¬ 0 ≤ M s 8 := by omega
                   refine gK _ (cr_up2 ?_ ?_)
                   · first
                       | (rw [if_pos (by omega)]; done)
                       | (rw [if_neg (by omega), if_neg (by omega)]; done)
                   · rw [if_neg (by omega)])
          · intro c75
            refine And.intro (by
              first
                | exact h3
                | exact h5
                | exact ⟨h3, by omega, by omega⟩
                | exact ⟨by decide, by decide⟩
                | (exfalso; omega)
                | (have hq : 0 ≤ M s 8 := by omega
                   have e := e5 hq
                   have h7 := h6 hq
                   clear hr5 e5
                   subst e
                   (try rw [ab_up_k (by decide)])
                   first
                     | exact h7.2.1
                     | exact ⟨h7.2.1, by decide, by decide⟩
                     | exact h4
                     | (rw [ab_up_o h7.2.2.2.2]; exact ⟨h7.2.1, h7.2.2.1, by decide, by decide⟩))
                | omega) ?_
            intro r82 hr82
            (try rw [ab_up_k (by decide)] at c68)
            (try rw [ab_up_k (by decide)] at c75)
            first
              | (exfalso; omega)
              | (have hq : 0 ≤ M s 8 := by omega
                 have e := e5 hq
                 have h7 := h6 hq
                 clear hr5 e5
                 subst e
                 refine gK _ (cr_up2 ?_ ?_)
                 · first
                     | (rw [if_pos (by omega)]; done)
                     | (rw [if_neg (by omega), if_pos (by omega), hr47]; done)
                 · first
                     | (rw [if_pos (by omega), if_pos (by omega), hr82]; exact (cr_en_up h7.2.2.2.2).trans (if_neg h7.2.2.2.1))
                     | (rw [if_pos (by omega), if_neg (by omega)]; exact ab_up_k (by decide) _))
              | (have hq : ¬ 0 ≤ M s 8 := by omega
                 refine gK _ (cr_up2 ?_ ?_)
                 · first
                     | (rw [if_pos (by omega)]; done)
                     | (rw [if_neg (by omega), if_neg (by omega)]; done)
                 · rw [if_neg (by omega)])

set_option maxRecDepth 20000 in
set_option maxHeartbeats 1000000 in
theorem ok_X1_linkOut (E : ab_E) : ab_Ok E 4 22 S_X1_linkOut := by
  refine ab_mk rq_X1_linkOut tk_X1_linkOut (rt := 0) (rfl) (cuts := []) (G := [(16, S_X1_at), (17, S_X1_entry), (27, S_X1_rowBehindBlock)]) (List.forall_mem_cons.mpr ⟨⟨1, by decide, ok_X1_at E⟩, List.forall_mem_cons.mpr ⟨⟨3, by decide, ok_X1_entry E⟩, List.forall_mem_cons.mpr ⟨⟨2, by decide, ok_X1_rowBehindBlock E⟩, fun _ h => absurd h List.not_mem_nil⟩⟩⟩) (by decide) 104 rfl ?_
  intro a M K wd wa hS
  unfold S_X1_linkOut at hS
  split at hS
  ·
    rename_i p n1 s n2
    refine ⟨Nat.le_of_ble_eq_true rfl, fun _ _ _ _ _ => False, ?_, ?_⟩
    · exact vc_X1_linkOut_0 p n1 s n2 M K  hS
    · exact fun _ _ _ _ _ h => h.elim
  · exact hS.elim
