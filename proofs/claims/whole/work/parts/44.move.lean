/-! the class: its reader, from sign to sign -/
def cr_b2 (A : ab_M) (s : Nat) : Nat → ab_M
  | 0 => A
  | k + 1 => ab_up (ab_up (cr_b2 A s k) (s + 1) k (-1)) (s + 2) k (-1)
/-- the reader of the class is at a text o and fills a program p -/
def cr_op (o p : Nat) : Prop := o = 1 ∧ p = 395 ∨ o = 3 ∧ p = 26
def cr_ok (o p : Nat) (M : ab_M) : Prop := M 764 0 = (o : Int) ∧ M 764 1 = (p : Int) ∧ cr_op o p ∧ 0 ≤ M o 1 ∧ M o 1 ≤ (if o = 1 then 120 else 640) ∧ ∀ j, 0 ≤ M (o + 1) j ∧ M (o + 1) j < 256
theorem cr_wo {o p : Nat} (h : cr_op o p) : 0 ≤ (o : Int) ∧ ab_wf (Xr o 6 0) := by
  rcases h with ⟨rfl, rfl⟩ | ⟨rfl, rfl⟩
  · exact ⟨by decide, by decide +kernel, by decide +kernel, by decide +kernel⟩
  · exact ⟨by decide, by decide +kernel, by decide +kernel, by decide +kernel⟩
theorem cr_wp {o p : Nat} (h : cr_op o p) : 0 ≤ (p : Int) ∧ ab_wf (Xr p 1 0) := by
  rcases h with ⟨rfl, rfl⟩ | ⟨rfl, rfl⟩
  · exact ⟨by decide, by decide +kernel, by decide +kernel, by decide +kernel⟩
  · exact ⟨by decide, by decide +kernel, by decide +kernel, by decide +kernel⟩
theorem cr_ln {o p : Nat} (h : cr_op o p) : ab_ln (o + 1) = if o = 1 then 120 else 640 := by
  rcases h with ⟨rfl, rfl⟩ | ⟨rfl, rfl⟩
  · decide +kernel
  · decide +kernel
theorem cr_l6 {o p : Nat} (h : cr_op o p) : ab_ln (o + 1) ≤ 640 := by
  rw [cr_ln h]
  split <;> omega
theorem cr_bd {o p : Nat} {M : ab_M} (h : cr_ok o p M) : 0 ≤ M o 1 ∧ M o 1 ≤ 640 := by
  obtain ⟨-, -, -, h1, h2, -⟩ := h
  refine ⟨h1, ?_⟩
  split at h2 <;> omega
theorem cr_le {o p : Nat} {M : ab_M} (h : cr_ok o p M) : M o 1 ≤ ((ab_ln (o + 1) : Nat) : Int) := by
  rw [cr_ln h.2.2.1]
  have := h.2.2.2.2.1
  split
  · rename_i q; rw [if_pos q] at this; exact this
  · rename_i q; rw [if_neg q] at this; exact this
/-- from i on the next place that is no space is j -/
def cr_to (M : ab_M) (i : Int) (j : Nat) : Prop := i ≤ (j : Int) ∧ (j : Int) ≤ M (M 764 0).toNat 1 ∧ ((j : Int) < M (M 764 0).toNat 1 → M ((M 764 0).toNat + 1) j ≠ 32) ∧ ∀ m : Nat, i ≤ (m : Int) → m < j → M ((M 764 0).toNat + 1) m = 32
def cr_sg (M : ab_M) (j : Nat) : Int := if (j : Int) < M (M 764 0).toNat 1 then M ((M 764 0).toNat + 1) j else -1
def cr_mi (M M1 : ab_M) (i : Int) : Prop := ∃ k : Nat, M1 = ab_up M 764 2 (k : Int) ∧ i ≤ (k : Int) ∧ (k : Int) ≤ M (M 764 0).toNat 1 ∧ ∀ m : Nat, i ≤ (m : Int) → m < k → M ((M 764 0).toNat + 1) m = 32

def S_X4_reset : ab_PT := fun a M K => match a with
  | [.inr (.inr (.inr (s, 4, nn))), .inr (.inl z)] => (True) ∧ (∀ Mx : ab_M, (Mx = ab_up (ab_up (ab_up (ab_up (ab_up (ab_up (ab_up (ab_up (ab_up (ab_up (ab_up (ab_up (ab_up (ab_up (ab_up (ab_up (ab_up (ab_up (ab_up (ab_up (ab_up M s 0 z) s 1 (-1)) s 2 (-1)) s 3 (-1)) s 4 (-1)) s 5 (-1)) s 6 0) s 7 0) s 8 (-1)) s 9 0) s 10 (-1)) s 11 (-1)) s 14 (-1)) (s + 1) 0 (-1)) (s + 2) 0 (-1)) (s + 1) 1 (-1)) (s + 2) 1 (-1)) s 15 120) s 16 121) s 17 120) s 18 120) → K [] Mx)
  | _ => False
set_option maxRecDepth 20000 in
theorem vc_X4_reset_0 (s : Nat) (nn : Nat) (z : Int) (M : ab_M) (K : List ab_V → ab_M → Prop) (hS : (True) ∧ (∀ Mx : ab_M, (Mx = ab_up (ab_up (ab_up (ab_up (ab_up (ab_up (ab_up (ab_up (ab_up (ab_up (ab_up (ab_up (ab_up (ab_up (ab_up (ab_up (ab_up (ab_up (ab_up (ab_up (ab_up M s 0 z) s 1 (-1)) s 2 (-1)) s 3 (-1)) s 4 (-1)) s 5 (-1)) s 6 0) s 7 0) s 8 (-1)) s 9 0) s 10 (-1)) s 11 (-1)) s 14 (-1)) (s + 1) 0 (-1)) (s + 2) 0 (-1)) (s + 1) 1 (-1)) (s + 2) 1 (-1)) s 15 120) s 16 121) s 17 120) s 18 120) → K [] Mx)) : (∃ n', (s = s ∧ nn = nn ∧ (n' = (2 - (0 : Int)).toNat ∧ 0 ≤ (0 : Int) ∧ (0 : Int) ≤ 2 ∧ (ab_up (ab_up (ab_up (ab_up (ab_up (ab_up (ab_up (ab_up (ab_up (ab_up (ab_up (ab_up (ab_up M s 0 z) s 1 (-1 : Int)) s 2 (-1 : Int)) s 3 (-1 : Int)) s 4 (-1 : Int)) s 5 (-1 : Int)) s 6 (0 : Int)) s 7 (0 : Int)) s 8 (-1 : Int)) s 9 (0 : Int)) s 10 (-1 : Int)) s 11 (-1 : Int)) s 14 (-1 : Int)) = cr_b2 (ab_up (ab_up (ab_up (ab_up (ab_up (ab_up (ab_up (ab_up (ab_up (ab_up (ab_up (ab_up (ab_up M s 0 z) s 1 (-1)) s 2 (-1)) s 3 (-1)) s 4 (-1)) s 5 (-1)) s 6 0) s 7 0) s 8 (-1)) s 9 0) s 10 (-1)) s 11 (-1)) s 14 (-1)) s (0 : Int).toNat))) := by
  skip
  exact ⟨_, rfl, rfl, rfl, Int.le_refl 0, by decide, rfl⟩

set_option maxRecDepth 20000 in
theorem vc_X4_reset_67 (s : Nat) (nn : Nat) (z : Int) (M : ab_M) (K : List ab_V → ab_M → Prop) (hS : (True) ∧ (∀ Mx : ab_M, (Mx = ab_up (ab_up (ab_up (ab_up (ab_up (ab_up (ab_up (ab_up (ab_up (ab_up (ab_up (ab_up (ab_up (ab_up (ab_up (ab_up (ab_up (ab_up (ab_up (ab_up (ab_up M s 0 z) s 1 (-1)) s 2 (-1)) s 3 (-1)) s 4 (-1)) s 5 (-1)) s 6 0) s 7 0) s 8 (-1)) s 9 0) s 10 (-1)) s 11 (-1)) s 14 (-1)) (s + 1) 0 (-1)) (s + 2) 0 (-1)) (s + 1) 1 (-1)) (s + 2) 1 (-1)) s 15 120) s 16 121) s 17 120) s 18 120) → K [] Mx)) (n : Nat) (u : Int) (k : Int) (M1 : ab_M) (hI : n = (2 - k).toNat ∧ 0 ≤ k ∧ k ≤ 2 ∧ M1 = cr_b2 (ab_up (ab_up (ab_up (ab_up (ab_up (ab_up (ab_up (ab_up (ab_up (ab_up (ab_up (ab_up (ab_up M s 0 z) s 1 (-1)) s 2 (-1)) s 3 (-1)) s 4 (-1)) s 5 (-1)) s 6 0) s 7 0) s 8 (-1)) s 9 0) s 10 (-1)) s 11 (-1)) s 14 (-1)) s k.toNat) : (ab_ir k ∧ ab_ir (2 : Int)) ∧ (((2 : Int) ≤ k → (-128 ≤ (120 : Int) ∧ (120 : Int) < 128) ∧ (-128 ≤ (121 : Int) ∧ (121 : Int) < 128) ∧ (-128 ≤ (120 : Int) ∧ (120 : Int) < 128) ∧ (-128 ≤ (120 : Int) ∧ (120 : Int) < 128) ∧ K [] (ab_up (ab_up (ab_up (ab_up M1 s 15 (120 : Int)) s 16 (121 : Int)) s 17 (120 : Int)) s 18 (120 : Int))) ∧ (k < (2 : Int) → (0 ≤ k ∧ k < ((2 : Nat) : Int)) ∧ (0 ≤ k ∧ k < ((2 : Nat) : Int)) ∧ (∃ n', n' < n ∧ (s = s ∧ nn = nn ∧ (n' = (2 - (k + 1)).toNat ∧ 0 ≤ (k + 1) ∧ (k + 1) ≤ 2 ∧ (ab_up (ab_up M1 (s + 1) k.toNat (-1 : Int)) (s + 2) k.toNat (-1 : Int)) = cr_b2 (ab_up (ab_up (ab_up (ab_up (ab_up (ab_up (ab_up (ab_up (ab_up (ab_up (ab_up (ab_up (ab_up M s 0 z) s 1 (-1)) s 2 (-1)) s 3 (-1)) s 4 (-1)) s 5 (-1)) s 6 0) s 7 0) s 8 (-1)) s 9 0) s 10 (-1)) s 11 (-1)) s 14 (-1)) s (k + 1).toNat))))) := by
  obtain ⟨hn, h0, h1, h2⟩ := hI
  refine And.intro (by
    first
      | omega
      | (simp [ab_up_a]; done)
      | (simp [ab_up_a]; omega)) ?_
  refine ⟨?_, ?_⟩
  · intro c69
    refine And.intro (by
      first
        | omega
        | (simp [ab_up_a]; done)
        | (simp [ab_up_a]; omega)) ?_
    refine And.intro (by
      first
        | omega
        | (simp [ab_up_a]; done)
        | (simp [ab_up_a]; omega)) ?_
    refine And.intro (by
      first
        | omega
        | (simp [ab_up_a]; done)
        | (simp [ab_up_a]; omega)) ?_
    refine And.intro (by
      first
        | omega
        | (simp [ab_up_a]; done)
        | (simp [ab_up_a]; omega)) ?_
    have e : k = 2 := by omega
    subst e
    exact hS.2 _ (by rw [h2]; rfl)
  · intro c69
    refine And.intro (by
      first
        | omega
        | (simp [ab_up_a]; done)
        | (simp [ab_up_a]; omega)) ?_
    refine And.intro (by
      first
        | omega
        | (simp [ab_up_a]; done)
        | (simp [ab_up_a]; omega)) ?_
    refine ⟨_, ?_, rfl, rfl, rfl, by omega, by omega, ?_⟩
    · omega
    · rw [h2, show (k + 1).toNat = k.toNat + 1 by omega]
      rfl

set_option maxRecDepth 20000 in
set_option maxHeartbeats 1000000 in
theorem ok_X4_reset (E : ab_E) : ab_Ok E 1 57 S_X4_reset := by
  refine ab_mk rq_X4_reset tk_X4_reset (rt := 0) (rfl) (cuts := [67]) (G := []) (fun g hg => by cases hg) (by decide) 119 rfl ?_
  intro a M K wd wa hS
  unfold S_X4_reset at hS
  split at hS
  ·
    rename_i s nn z
    refine ⟨Nat.le_of_ble_eq_true rfl, fun pc n L st M1 => match pc, L, st with
      | 67, [.inr (.inr (.inr (s_, 4, nn_))), .inr (.inl u), .inr (.inl k)], [] => s_ = s ∧ nn_ = nn ∧ (n = (2 - k).toNat ∧ 0 ≤ k ∧ k ≤ 2 ∧ M1 = cr_b2 (ab_up (ab_up (ab_up (ab_up (ab_up (ab_up (ab_up (ab_up (ab_up (ab_up (ab_up (ab_up (ab_up M s 0 z) s 1 (-1)) s 2 (-1)) s 3 (-1)) s 4 (-1)) s 5 (-1)) s 6 0) s 7 0) s 8 (-1)) s 9 0) s 10 (-1)) s 11 (-1)) s 14 (-1)) s k.toNat)
      | _, _, _ => False, ?_, ?_⟩
    · exact vc_X4_reset_0 s nn z M K  hS
    · intro pc n L st M1 hI wd1 wL wst
      (try dsimp only at hI)
      split at hI
      ·
        rename_i s_ nn_ u k
        obtain ⟨e0_, e1_, hI⟩ := hI
        have e0_ := e0_.symm
        subst e0_
        have e1_ := e1_.symm
        subst e1_
        exact vc_X4_reset_67 s nn z M K  hS n u k _ hI
      · exact hI.elim
  · exact hS.elim
def S_X2_moveTo : ab_PT := fun a M K => match a with
  | [.inr (.inr (.inr (764, 2, 0))), .inr (.inl i)] => ((∃ o p, cr_ok o p M) ∧ 0 ≤ i ∧ i ≤ M (M 764 0).toNat 1) ∧ (∀ Mx : ab_M, (∃ j : Nat, cr_to M i j ∧ Mx = ab_up (ab_up M 764 2 (j : Int)) 764 3 (cr_sg M j)) → K [] Mx)
  | _ => False
set_option maxRecDepth 20000 in
theorem vc_X2_moveTo_0 (i : Int) (M : ab_M) (K : List ab_V → ab_M → Prop) (hS : ((∃ o p, cr_ok o p M) ∧ 0 ≤ i ∧ i ≤ M (M 764 0).toNat 1) ∧ (∀ Mx : ab_M, (∃ j : Nat, cr_to M i j ∧ Mx = ab_up (ab_up M 764 2 (j : Int)) 764 3 (cr_sg M j)) → K [] Mx)) : (∃ n', ((n' = (M (M 764 0).toNat 1 - (ab_up M 764 2 i) 764 2).toNat ∧ i = i ∧ cr_mi M (ab_up M 764 2 i) i))) := by
  obtain ⟨⟨⟨o, p, hok⟩, g2, g3⟩, gK⟩ := hS
  exact ⟨_, rfl, rfl, i.toNat, by rw [Int.toNat_of_nonneg g2], by omega, by omega, fun m h1 h2 => by omega⟩

set_option maxRecDepth 20000 in
theorem vc_X2_moveTo_5 (i : Int) (M : ab_M) (K : List ab_V → ab_M → Prop) (hS : ((∃ o p, cr_ok o p M) ∧ 0 ≤ i ∧ i ≤ M (M 764 0).toNat 1) ∧ (∀ Mx : ab_M, (∃ j : Nat, cr_to M i j ∧ Mx = ab_up (ab_up M 764 2 (j : Int)) 764 3 (cr_sg M j)) → K [] Mx)) (n : Nat) (u : Int) (M1 : ab_M) (hI : n = (M (M 764 0).toNat 1 - M1 764 2).toNat ∧ u = i ∧ cr_mi M M1 i) : (0 ≤ (M1 764 0) ∧ ab_wf (Xr ((M1 764 0).toNat) 6 0)) ∧ (ab_ir (M1 764 2) ∧ ab_ir (M1 ((M1 764 0).toNat) 1)) ∧ (((M1 ((M1 764 0).toNat) 1) ≤ (M1 764 2) → (0 ≤ (M1 764 0) ∧ ab_wf (Xr ((M1 764 0).toNat) 6 0)) ∧ (ab_ir (M1 764 2) ∧ 0 ≤ M1 ((M1 764 0).toNat) 1 ∧ M1 ((M1 764 0).toNat) 1 ≤ ((ab_ln (((M1 764 0).toNat) + 1) : Nat) : Int) ∧ ab_ln (((M1 764 0).toNat) + 1) ≤ 640) ∧ (∀ r57 : Int, (r57 = if 0 ≤ (M1 764 2) ∧ (M1 764 2) < M1 ((M1 764 0).toNat) 1 then M1 (((M1 764 0).toNat) + 1) (M1 764 2).toNat else -1) → K [] (ab_up M1 764 3 r57))) ∧ ((M1 764 2) < (M1 ((M1 764 0).toNat) 1) → (0 ≤ (M1 764 0) ∧ ab_wf (Xr ((M1 764 0).toNat) 6 0)) ∧ (ab_ir (M1 764 2) ∧ 0 ≤ M1 ((M1 764 0).toNat) 1 ∧ M1 ((M1 764 0).toNat) 1 ≤ ((ab_ln (((M1 764 0).toNat) + 1) : Nat) : Int) ∧ ab_ln (((M1 764 0).toNat) + 1) ≤ 640) ∧ (∀ r27 : Int, (r27 = if 0 ≤ (M1 764 2) ∧ (M1 764 2) < M1 ((M1 764 0).toNat) 1 then M1 (((M1 764 0).toNat) + 1) (M1 764 2).toNat else -1) → (-128 ≤ (32 : Int) ∧ (32 : Int) < 128) ∧ (ab_ir r27 ∧ ab_ir (32 : Int)) ∧ ((¬ r27 = (32 : Int) → (0 ≤ (M1 764 0) ∧ ab_wf (Xr ((M1 764 0).toNat) 6 0)) ∧ (ab_ir (M1 764 2) ∧ 0 ≤ M1 ((M1 764 0).toNat) 1 ∧ M1 ((M1 764 0).toNat) 1 ≤ ((ab_ln (((M1 764 0).toNat) + 1) : Nat) : Int) ∧ ab_ln (((M1 764 0).toNat) + 1) ≤ 640) ∧ (∀ r57 : Int, (r57 = if 0 ≤ (M1 764 2) ∧ (M1 764 2) < M1 ((M1 764 0).toNat) 1 then M1 (((M1 764 0).toNat) + 1) (M1 764 2).toNat else -1) → K [] (ab_up M1 764 3 r57))) ∧ (r27 = (32 : Int) → (∃ n', n' < n ∧ ((n' = (M (M 764 0).toNat 1 - (ab_up M1 764 2 ((M1 764 2) + (1 : Int))) 764 2).toNat ∧ u = i ∧ cr_mi M (ab_up M1 764 2 ((M1 764 2) + (1 : Int))) i)))))))) := by
  obtain ⟨hn, rfl, k, hk0, hk1, hk2, hk3⟩ := hI
  obtain ⟨⟨⟨o, p, hok⟩, g2, g3⟩, gK⟩ := hS
  obtain ⟨q1, q2, q3, q4, q5, q6⟩ := id hok
  have hb := cr_bd hok
  have hle := cr_le hok
  have hl6 := cr_l6 q3
  have hwf := cr_wo q3
  have ho : o ≠ 764 := by rcases q3 with ⟨w1, w2⟩ | ⟨w1, w2⟩ <;> omega
  have ho1 : o + 1 ≠ 764 := by rcases q3 with ⟨w1, w2⟩ | ⟨w1, w2⟩ <;> omega
  have e0 : M1 764 0 = (o : Int) := by rw [hk0, ab_up_k (by decide)]; exact q1
  have e1 : M1 o 1 = M o 1 := by rw [hk0, ab_up_o ho]
  have e2 : ∀ j, M1 (o + 1) j = M (o + 1) j := fun j => by rw [hk0, ab_up_o ho1]
  have e3 : M1 764 2 = (k : Int) := by rw [hk0, ab_up_s]
  unfold cr_to cr_sg at gK
  rw [q1, Int.toNat_natCast] at hk2 hk3 gK
  have q6k := q6 k
  simp only [e0, e1, e2, e3, Int.toNat_natCast]
  rw [q1, Int.toNat_natCast, e3] at hn
  refine And.intro (by
    first
      | exact hwf
      | omega
      | exact ⟨⟨by omega, by omega⟩, ⟨by omega, by omega⟩⟩
      | exact ⟨⟨by omega, by omega⟩, by omega, by omega, by omega⟩
      | (rw [hr27]; split <;> exact ⟨⟨by omega, by omega⟩, ⟨by omega, by omega⟩⟩)) ?_
  refine And.intro (by
    first
      | exact hwf
      | omega
      | exact ⟨⟨by omega, by omega⟩, ⟨by omega, by omega⟩⟩
      | exact ⟨⟨by omega, by omega⟩, by omega, by omega, by omega⟩
      | (rw [hr27]; split <;> exact ⟨⟨by omega, by omega⟩, ⟨by omega, by omega⟩⟩)) ?_
  refine ⟨?_, ?_⟩
  · intro c16
    refine And.intro (by
      first
        | exact hwf
        | omega
        | exact ⟨⟨by omega, by omega⟩, ⟨by omega, by omega⟩⟩
        | exact ⟨⟨by omega, by omega⟩, by omega, by omega, by omega⟩
        | (rw [hr27]; split <;> exact ⟨⟨by omega, by omega⟩, ⟨by omega, by omega⟩⟩)) ?_
    refine And.intro (by
      first
        | exact hwf
        | omega
        | exact ⟨⟨by omega, by omega⟩, ⟨by omega, by omega⟩⟩
        | exact ⟨⟨by omega, by omega⟩, by omega, by omega, by omega⟩
        | (rw [hr27]; split <;> exact ⟨⟨by omega, by omega⟩, ⟨by omega, by omega⟩⟩)) ?_
    intro r57 hr57
    refine gK _ ⟨k, ⟨by omega, by omega, fun q => ?_, hk3⟩, ?_⟩
    · first
        | omega
        | (rw [if_pos (by omega)] at hr27; omega)
    · rw [hk0, hr57]
      by_cases hq : (k : Int) < M o 1
      · rw [if_pos hq, if_pos ⟨by omega, hq⟩]
      · rw [if_neg hq, if_neg (by omega)]
  · intro c16
    refine And.intro (by
      first
        | exact hwf
        | omega
        | exact ⟨⟨by omega, by omega⟩, ⟨by omega, by omega⟩⟩
        | exact ⟨⟨by omega, by omega⟩, by omega, by omega, by omega⟩
        | (rw [hr27]; split <;> exact ⟨⟨by omega, by omega⟩, ⟨by omega, by omega⟩⟩)) ?_
    refine And.intro (by
      first
        | exact hwf
        | omega
        | exact ⟨⟨by omega, by omega⟩, ⟨by omega, by omega⟩⟩
        | exact ⟨⟨by omega, by omega⟩, by omega, by omega, by omega⟩
        | (rw [hr27]; split <;> exact ⟨⟨by omega, by omega⟩, ⟨by omega, by omega⟩⟩)) ?_
    intro r27 hr27
    refine And.intro (by
      first
        | exact hwf
        | omega
        | exact ⟨⟨by omega, by omega⟩, ⟨by omega, by omega⟩⟩
        | exact ⟨⟨by omega, by omega⟩, by omega, by omega, by omega⟩
        | (rw [hr27]; split <;> exact ⟨⟨by omega, by omega⟩, ⟨by omega, by omega⟩⟩)) ?_
    refine And.intro (by
      first
        | exact hwf
        | omega
        | exact ⟨⟨by omega, by omega⟩, ⟨by omega, by omega⟩⟩
        | exact ⟨⟨by omega, by omega⟩, by omega, by omega, by omega⟩
        | (rw [hr27]; split <;> exact ⟨⟨by omega, by omega⟩, ⟨by omega, by omega⟩⟩)) ?_
    refine ⟨?_, ?_⟩
    · intro c32
      refine And.intro (by
        first
          | exact hwf
          | omega
          | exact ⟨⟨by omega, by omega⟩, ⟨by omega, by omega⟩⟩
          | exact ⟨⟨by omega, by omega⟩, by omega, by omega, by omega⟩
          | (rw [hr27]; split <;> exact ⟨⟨by omega, by omega⟩, ⟨by omega, by omega⟩⟩)) ?_
      refine And.intro (by
        first
          | exact hwf
          | omega
          | exact ⟨⟨by omega, by omega⟩, ⟨by omega, by omega⟩⟩
          | exact ⟨⟨by omega, by omega⟩, by omega, by omega, by omega⟩
          | (rw [hr27]; split <;> exact ⟨⟨by omega, by omega⟩, ⟨by omega, by omega⟩⟩)) ?_
      intro r57 hr57
      refine gK _ ⟨k, ⟨by omega, by omega, fun q => ?_, hk3⟩, ?_⟩
      · first
          | omega
          | (rw [if_pos (by omega)] at hr27; omega)
      · rw [hk0, hr57]
        by_cases hq : (k : Int) < M o 1
        · rw [if_pos hq, if_pos ⟨by omega, hq⟩]
        · rw [if_neg hq, if_neg (by omega)]
    · intro c32
      refine ⟨_, ?_, rfl, by trivial, k + 1, ?_, by omega, by rw [q1, Int.toNat_natCast]; omega, fun m h1 h2 => ?_⟩
      · rw [q1, Int.toNat_natCast, ab_up_s]
        omega
      · rw [hk0]
        funext o' k'
        rw [ab_up_a, ab_up_a, ab_up_a]
        split <;> rfl
      · rw [q1, Int.toNat_natCast]
        by_cases hm : m = k
        · rw [hm]
          rw [if_pos (by omega)] at hr27
          omega
        · exact hk3 m h1 (by omega)

set_option maxRecDepth 20000 in
set_option maxHeartbeats 1000000 in
theorem ok_X2_moveTo (E : ab_E) : ab_Ok E 2 37 S_X2_moveTo := by
  refine ab_mk rq_X2_moveTo tk_X2_moveTo (rt := 0) (rfl) (cuts := [5]) (G := [(70, S_X6_sign)]) (List.forall_mem_cons.mpr ⟨⟨1, by decide, ok_X6_sign E⟩, fun _ h => absurd h List.not_mem_nil⟩) (by decide) 81 rfl ?_
  intro a M K wd wa hS
  unfold S_X2_moveTo at hS
  split at hS
  ·
    rename_i i
    refine ⟨Nat.le_of_ble_eq_true rfl, fun pc n L st M1 => match pc, L, st with
      | 5, [.inr (.inr (.inr (764, 2, 0))), .inr (.inl u)], [] => (n = (M (M 764 0).toNat 1 - M1 764 2).toNat ∧ u = i ∧ cr_mi M M1 i)
      | _, _, _ => False, ?_, ?_⟩
    · exact vc_X2_moveTo_0 i M K  hS
    · intro pc n L st M1 hI wd1 wL wst
      (try dsimp only at hI)
      split at hI
      ·
        rename_i u
        exact vc_X2_moveTo_5 i M K  hS n u _ hI
      · exact hI.elim
  · exact hS.elim
