/-! the class: a statement added -/
/-- the cells that a new row touches are apart -/
theorem cr_neq {p s R : Nat} (hp : p = 395 ∨ p = 26) (hR : R < 120) (hs : s = p + 1 + 1 + 3 * R) :
    (¬ s = 764 ∧ ¬ s = 765 ∧ ¬ s = 766 ∧ ¬ s = 767 ∧ ¬ 764 = s ∧ ¬ 765 = s ∧ ¬ 766 = s ∧ ¬ 767 = s ∧ ¬ s = p ∧ ¬ p = s ∧ ¬ s = p + 365 ∧ ¬ p + 365 = s ∧ ¬ s = p + 366 ∧ ¬ p + 366 = s ∧ ¬ s = s + 1 ∧ ¬ s + 1 = s ∧ ¬ s = s + 2 ∧ ¬ s + 2 = s ∧ ¬ s + 1 = s + 2 ∧ ¬ s + 2 = s + 1) ∧
    (¬ s + 1 = 764 ∧ ¬ s + 1 = 765 ∧ ¬ s + 1 = 766 ∧ ¬ s + 1 = 767 ∧ ¬ 764 = s + 1 ∧ ¬ 765 = s + 1 ∧ ¬ 766 = s + 1 ∧ ¬ 767 = s + 1 ∧ ¬ s + 1 = p ∧ ¬ p = s + 1 ∧ ¬ s + 1 = p + 365 ∧ ¬ p + 365 = s + 1 ∧ ¬ s + 1 = p + 366 ∧ ¬ p + 366 = s + 1) ∧
    (¬ s + 2 = 764 ∧ ¬ s + 2 = 765 ∧ ¬ s + 2 = 766 ∧ ¬ s + 2 = 767 ∧ ¬ 764 = s + 2 ∧ ¬ 765 = s + 2 ∧ ¬ 766 = s + 2 ∧ ¬ 767 = s + 2 ∧ ¬ s + 2 = p ∧ ¬ p = s + 2 ∧ ¬ s + 2 = p + 365 ∧ ¬ p + 365 = s + 2 ∧ ¬ s + 2 = p + 366 ∧ ¬ p + 366 = s + 2) ∧
    (¬ p = 764 ∧ ¬ p = 765 ∧ ¬ p = 766 ∧ ¬ p = 767 ∧ ¬ 764 = p ∧ ¬ 765 = p ∧ ¬ 766 = p ∧ ¬ 767 = p ∧ ¬ p = p + 365 ∧ ¬ p + 365 = p ∧ ¬ p = p + 366 ∧ ¬ p + 366 = p ∧ ¬ p + 366 = p + 365 ∧ ¬ p + 365 = p + 366 ∧ ¬ p + 365 = 764 ∧ ¬ p + 365 = 765 ∧ ¬ p + 365 = 766 ∧ ¬ p + 365 = 767 ∧ ¬ p + 366 = 764 ∧ ¬ p + 366 = 765 ∧ ¬ p + 366 = 766 ∧ ¬ p + 366 = 767) ∧
    (¬ 764 = p + 365 ∧ ¬ 765 = p + 365 ∧ ¬ 766 = p + 365 ∧ ¬ 767 = p + 365 ∧ ¬ 764 = p + 366 ∧ ¬ 765 = p + 366 ∧ ¬ 766 = p + 366 ∧ ¬ 767 = p + 366) := by
  subst hs
  refine ⟨?_, ?_, ?_, ?_, ?_⟩ <;> (repeat' (refine And.intro ?_ ?_)) <;> omega
/-- two rows are apart -/
theorem cr_neq2 {p s R v V : Nat} (hs : s = p + 1 + 1 + 3 * R) (hv : v = p + 1 + 1 + 3 * V) (h : V < R) : ¬ s = v ∧ ¬ v = s ∧ ¬ s + 1 = v ∧ ¬ v = s + 1 ∧ ¬ s + 2 = v ∧ ¬ v = s + 2 ∧ ¬ s = v + 1 ∧ ¬ v + 1 = s ∧ ¬ s = v + 2 ∧ ¬ v + 2 = s ∧ ¬ s + 1 = v + 1 ∧ ¬ v + 1 = s + 1 ∧ ¬ s + 1 = v + 2 ∧ ¬ v + 2 = s + 1 ∧ ¬ s + 2 = v + 1 ∧ ¬ v + 1 = s + 2 ∧ ¬ s + 2 = v + 2 ∧ ¬ v + 2 = s + 2 := by
  subst hs
  subst hv
  (repeat' (refine And.intro ?_ ?_)) <;> omega
theorem cr_neq3 {p v V w W : Nat} (hv : v = p + 1 + 1 + 3 * V) (hw : w = p + 1 + 1 + 3 * W) : ¬ v = w + 1 ∧ ¬ w + 1 = v ∧ ¬ v = w + 2 ∧ ¬ w + 2 = v := by
  subst hv
  subst hw
  (repeat' (refine And.intro ?_ ?_)) <;> omega
theorem ab_up_2 (M : ab_M) (o k : Nat) (v : Int) (o' k' : Nat) : ab_up M o k v o' k' = if o' = o then (if k' = k then v else M o' k') else M o' k' := by
  rw [ab_up_a]
  by_cases h : o' = o
  · rw [if_pos h]
    by_cases h2 : k' = k
    · rw [if_pos h2, if_pos ⟨h, h2⟩]
    · rw [if_neg h2, if_neg (fun q => h2 q.2)]
  · rw [if_neg h, if_neg (fun q => h q.1)]
def cr_gH (M : ab_M) (p R v w d sd : Nat) : Prop := (M 767 d = -1 ∨ ∃ V, V < R ∧ M 767 d = (V : Int) ∧ v = p + 1 + 1 + 3 * V) ∧ (0 < d → ∃ W, W < R ∧ M 765 (d - 1) = (W : Int) ∧ w = p + 1 + 1 + 3 * W ∧ M 766 (d - 1) = (sd : Int) ∧ sd ≤ 1)
theorem cr_gH.a {M : ab_M} {p R v w d sd : Nat} (h : cr_gH M p R v w d sd) : -1 ≤ M 767 d ∧ M 767 d < (R : Int) := by
  rcases h.1 with q | ⟨V, q1, q2, -⟩
  · omega
  · omega
theorem cr_gH.b {M : ab_M} {p R v w d sd : Nat} (h : cr_gH M p R v w d sd) (hd : 0 < d) : 0 ≤ M 765 (d - 1) ∧ M 765 (d - 1) < (R : Int) ∧ w = p + 1 + 1 + 3 * (M 765 (d - 1)).toNat ∧ M 766 (d - 1) = (sd : Int) ∧ sd ≤ 1 := by
  obtain ⟨W, q1, q2, q3, q4, q5⟩ := h.2 hd
  exact ⟨by omega, by omega, by rw [q2]; exact q3, q4, q5⟩
theorem cr_gH.v {M : ab_M} {p R v w d sd : Nat} (h : cr_gH M p R v w d sd) (hd : 0 ≤ M 767 d) : v = p + 1 + 1 + 3 * (M 767 d).toNat := by
  rcases h.1 with q | ⟨V, q1, q2, q3⟩
  · omega
  · rw [q2]; exact q3
/-- before a statement is added: the program, the new row, the row before it (if there is one), the row whose block it is in (if any), the depth, which block -/
def cr_adp (M : ab_M) (p s R v w d sd : Nat) : Prop := (∃ o, cr_ok o p M) ∧ (M p 3 = (R : Int) ∧ R < 120 ∧ s = p + 1 + 1 + 3 * R) ∧ (0 ≤ M p 6 ∧ M p 6 ≤ 16 ∧ 0 ≤ M p 8 ∧ M p 8 ≤ 4) ∧ (M 764 3 = 119 → M p 6 + 1 < 16 ∧ M p 8 < 4) ∧ (M 764 3 = 107 ∨ M 764 3 = 112 → M p 6 < 16) ∧ (0 ≤ M 764 3 ∧ M 764 3 < 256 ∧ M 764 3 ≠ 118) ∧ (M 764 8 = (d : Int) ∧ d ≤ 120) ∧
  cr_gH M p R v w d sd
/-- a new row is there, with its letter -/
def cr_A1 (p s : Nat) (M M1 : ab_M) : Prop := (∀ o k : Nat, ¬ (o = p ∧ k = 3) → o ≠ s → o ≠ s + 1 → o ≠ s + 2 → M1 o k = M o k) ∧ M1 p 3 = M p 3 + 1 ∧
  (M1 s 0 = (if 97 ≤ M 764 3 ∧ M 764 3 ≤ 100 then 118 else M 764 3) ∧ M1 s 1 = (if 97 ≤ M 764 3 ∧ M 764 3 ≤ 100 then M 764 3 - 97 else -1) ∧ M1 s 2 = -1 ∧ M1 s 3 = -1 ∧ M1 s 4 = -1 ∧ M1 s 5 = -1 ∧ M1 s 6 = 0 ∧ M1 s 7 = 0 ∧ M1 s 8 = -1 ∧ M1 s 9 = 0 ∧ M1 s 10 = -1 ∧ M1 s 11 = -1 ∧ M1 s 14 = -1) ∧
  (M1 (s + 1) 0 = -1 ∧ M1 (s + 1) 1 = -1 ∧ M1 (s + 2) 0 = -1 ∧ M1 (s + 2) 1 = -1)
/-- its checks are there -/
def cr_ck3 (p s : Nat) (M M1 : ab_M) : Prop :=
  (M 764 3 = 119 → M1 p 6 = M p 6 + 2 ∧ M1 p 8 = M p 8 + 1 ∧ M1 (p + 365) (M p 6).toNat = 1 ∧ M1 (p + 365) (M p 6 + 1).toNat = 2 ∧ M1 (p + 366) (M p 8).toNat = M p 3 ∧ M1 s 4 = M p 6 ∧ M1 s 5 = M p 8) ∧
  (M 764 3 = 107 ∨ M 764 3 = 112 → M1 p 6 = M p 6 + 1 ∧ M1 p 8 = M p 8 ∧ M1 (p + 365) (M p 6).toNat = (if M 764 3 = 107 then 0 else 3) ∧ M1 s 4 = M p 6 ∧ M1 s 5 = -1) ∧
  (¬ M 764 3 = 119 → ¬ (M 764 3 = 107 ∨ M 764 3 = 112) → M1 p 6 = M p 6 ∧ M1 p 8 = M p 8 ∧ M1 s 4 = -1 ∧ M1 s 5 = -1)
/-- the frame so far, and the new row's cells -/
def cr_A15 (p s : Nat) (M M1 : ab_M) : Prop := (∀ o k : Nat, ¬ (o = p ∧ (k = 3 ∨ k = 6 ∨ k = 8)) → ¬ (o = p + 365 ∧ M p 6 ≤ (k : Int)) → ¬ (o = p + 366 ∧ (k : Int) = M p 8) → o ≠ s → o ≠ s + 1 → o ≠ s + 2 → M1 o k = M o k) ∧ M1 p 3 = M p 3 + 1 ∧
  (M1 s 0 = (if 97 ≤ M 764 3 ∧ M 764 3 ≤ 100 then 118 else M 764 3) ∧ M1 s 1 = (if 97 ≤ M 764 3 ∧ M 764 3 ≤ 100 then M 764 3 - 97 else -1) ∧ M1 s 2 = -1 ∧ M1 s 3 = -1 ∧ M1 s 6 = 0 ∧ M1 s 7 = 0 ∧ M1 s 8 = -1 ∧ M1 s 9 = 0 ∧ M1 s 10 = -1 ∧ M1 s 11 = -1 ∧ M1 s 14 = -1) ∧
  (M1 (s + 1) 0 = -1 ∧ M1 (s + 1) 1 = -1 ∧ M1 (s + 2) 0 = -1 ∧ M1 (s + 2) 1 = -1) ∧ cr_ck3 p s M M1
/-- behind the row before it, in its block: what is written over cr_A15 -/
def cr_B (M N : ab_M) (s v d : Nat) (R : Int) : ab_M := if M 767 d < 0 then ab_up (ab_up N s 11 (M 767 d)) 767 d R else ab_up (ab_up (ab_up N s 11 (M 767 d)) 767 d R) v 10 R
def cr_C (M N : ab_M) (p s w d sd : Nat) (R : Int) : ab_M := if d = 0 then ab_up N p 4 R else if M 767 d < 0 then ab_up (ab_up (ab_up (ab_up N s 8 (M 765 (d - 1))) s 9 (sd : Int)) (w + 2) sd R) (w + 1) sd R else ab_up (ab_up (ab_up N s 8 (M 765 (d - 1))) s 9 (sd : Int)) (w + 2) sd R
def cr_AD (M M' : ab_M) (p s R v w d sd : Nat) : Prop := ∃ N, cr_A15 p s M N ∧ M' = cr_C M (cr_B M N s v d (R : Int)) p s w d sd (R : Int)
theorem cr_adp_uq {M : ab_M} {p s R v w d sd p' s' R' v' w' d' sd' : Nat} (h : cr_adp M p s R v w d sd) (h' : cr_adp M p' s' R' v' w' d' sd') : p = p' ∧ s = s' ∧ R = R' ∧ d = d' ∧ (0 ≤ M 767 d → v = v') ∧ (0 < d → w = w' ∧ sd = sd') := by
  obtain ⟨⟨o, ho⟩, ⟨a1, a2, a3⟩, -, -, -, -, ⟨a4, a5⟩, ag⟩ := h
  obtain ⟨⟨o', ho'⟩, ⟨b1, b2, b3⟩, -, -, -, -, ⟨b4, b5⟩, bg⟩ := h'
  obtain ⟨-, e⟩ := cr_uq ho ho'
  subst e
  have eR : R = R' := by omega
  subst eR
  have ed : d = d' := by omega
  subst ed
  refine ⟨rfl, by omega, rfl, rfl, fun q => ?_, fun q => ?_⟩
  · rw [ag.v q, bg.v q]
  · obtain ⟨-, -, c1, c2, -⟩ := ag.b q
    obtain ⟨-, -, d1, d2, -⟩ := bg.b q
    exact ⟨by rw [c1, d1], by omega⟩
theorem cr_ok_fr {o p : Nat} {M M' : ab_M} (h : cr_ok o p M) (h1 : M' 764 0 = M 764 0 ∧ M' 764 1 = M 764 1) (h2 : M' o 1 = M o 1) (h3 : ∀ j, M' (o + 1) j = M (o + 1) j) : cr_ok o p M' := by
  obtain ⟨q1, q2, q3, q4, q5, q6⟩ := h
  exact ⟨by rw [h1.1]; exact q1, by rw [h1.2]; exact q2, q3, by rw [h2]; exact q4, by rw [h2]; exact q5, fun j => by rw [h3]; exact q6 j⟩
theorem cr_ac_ok {p s R v w d sd : Nat} {M M1 N : ab_M} (had : cr_adp M p s R v w d sd) (h : cr_A1 p s M M1) (hM : N = cr_ac M1 p s (M p 3)) : cr_A15 p s M N := by
  obtain ⟨⟨o, hok⟩, ⟨hA1, hA2, hA3⟩, hB, hC, hD, hE, -⟩ := had
  have q3 := hok.2.2.1
  have hpp : p = 395 ∨ p = 26 := by rcases q3 with ⟨-, w⟩ | ⟨-, w⟩ <;> omega
  have hne := cr_neq hpp hA2 hA3
  clear hA3 hpp q3 hok
  obtain ⟨f1, a3, ⟨z0, z1, z2, z3, z4, z5, z6, z7, z8, z9, z10, z11, z14⟩, w1, w2, w3, w4⟩ := h
  have e6 : M1 p 6 = M p 6 := f1 _ _ (by simp) (by simp [hne]) (by simp [hne]) (by simp [hne])
  have e8 : M1 p 8 = M p 8 := f1 _ _ (by simp) (by simp [hne]) (by simp [hne]) (by simp [hne])
  unfold cr_ac at hM
  rw [z0, e6, e8] at hM
  by_cases h1 : M 764 3 = 119
  · rw [show (if 97 ≤ M 764 3 ∧ M 764 3 ≤ 100 then (118 : Int) else M 764 3) = M 764 3 from if_neg (by clear hne; omega), if_pos h1] at hM
    have hk : ¬ (M p 6).toNat = (M p 6 + 1).toNat := by clear hne; omega
    refine ⟨fun o' k' g1 g2 g3 g4 g5 g6 => ?_, ?_, ⟨?_, ?_, ?_, ?_, ?_, ?_, ?_, ?_, ?_, ?_, ?_⟩, ⟨?_, ?_, ?_, ?_⟩, fun _ => ⟨?_, ?_, ?_, ?_, ?_, ?_, ?_⟩, fun q => by clear hne; omega, fun q => absurd h1 q⟩
    · rw [hM]
      simp only [ab_up_a]
      rw [if_neg (fun q => g1 ⟨q.1, Or.inr (Or.inl q.2)⟩), if_neg (fun q => g2 ⟨q.1, by have := q.2; clear hne; omega⟩), if_neg (fun q => g1 ⟨q.1, Or.inr (Or.inl q.2)⟩), if_neg (fun q => g2 ⟨q.1, by have := q.2; clear hne; omega⟩), if_neg (fun q => g1 ⟨q.1, Or.inr (Or.inr q.2)⟩), if_neg (fun q => g3 ⟨q.1, by have := q.2; clear hne; omega⟩), if_neg (fun q => g4 q.1), if_neg (fun q => g4 q.1)]
      exact f1 o' k' (fun q => g1 ⟨q.1, Or.inl q.2⟩) g4 g5 g6
    all_goals (rw [hM]; simp only [ab_up_a, hne, hk, Nat.reduceEqDiff, and_false, false_and, and_true, true_and, if_false, if_true, and_self, z0, z1, z2, z3, z6, z7, z8, z9, z10, z11, z14, w1, w2, w3, w4, e6, e8, a3])
    all_goals (clear hne; omega)
  · by_cases h2 : M 764 3 = 107 ∨ M 764 3 = 112
    · rw [show (if 97 ≤ M 764 3 ∧ M 764 3 ≤ 100 then (118 : Int) else M 764 3) = M 764 3 from if_neg (by clear hne; omega), if_neg h1, if_pos h2] at hM
      refine ⟨fun o' k' g1 g2 g3 g4 g5 g6 => ?_, ?_, ⟨?_, ?_, ?_, ?_, ?_, ?_, ?_, ?_, ?_, ?_, ?_⟩, ⟨?_, ?_, ?_, ?_⟩, fun q => absurd q h1, fun _ => ⟨?_, ?_, ?_, ?_, ?_⟩, fun _ q => absurd h2 q⟩
      · rw [hM]
        simp only [ab_up_a]
        rw [if_neg (fun q => g1 ⟨q.1, Or.inr (Or.inl q.2)⟩), if_neg (fun q => g2 ⟨q.1, by have := q.2; clear hne; omega⟩), if_neg (fun q => g4 q.1)]
        exact f1 o' k' (fun q => g1 ⟨q.1, Or.inl q.2⟩) g4 g5 g6
      all_goals (rw [hM]; simp only [ab_up_a, hne, Nat.reduceEqDiff, and_false, false_and, and_true, true_and, if_false, if_true, and_self, z0, z1, z2, z3, z5, z6, z7, z8, z9, z10, z11, z14, w1, w2, w3, w4, e6, e8, a3])
    · have hM : N = M1 := by
        rw [hM]
        by_cases h3 : 97 ≤ M 764 3 ∧ M 764 3 ≤ 100
        · rw [if_pos h3, if_neg (by decide), if_neg (by decide)]
        · rw [if_neg h3, if_neg h1, if_neg h2]
      rw [hM]
      exact ⟨fun o' k' g1 g2 g3 g4 g5 g6 => f1 o' k' (fun q => g1 ⟨q.1, Or.inl q.2⟩) g4 g5 g6, a3, ⟨z0, z1, z2, z3, z6, z7, z8, z9, z10, z11, z14⟩, ⟨w1, w2, w3, w4⟩, fun q => absurd q h1, fun q => absurd q h2, fun _ _ => ⟨e6, e8, z4, z5⟩⟩

def S_X2_addStatement : ab_PT := fun a M K => match a with
  | [.inr (.inr (.inr (764, 2, 0))), .inr (.inl row)] => ((∃ p s R v w d sd, cr_adp M p s R v w d sd) ∧ ∀ p : Nat, M 764 1 = (p : Int) → row = M p 3) ∧ (∀ ox : Nat, ∀ Mx : ab_M, (True) → (∀ p s R v w d sd, cr_adp M p s R v w d sd → ox = s ∧ cr_AD M Mx p s R v w d sd) → K [Xr ox 4 0] Mx)
  | _ => False
set_option maxRecDepth 20000 in
theorem vc_X2_addStatement_0 (row : Int) (M : ab_M) (K : List ab_V → ab_M → Prop) (hS : ((∃ p s R v w d sd, cr_adp M p s R v w d sd) ∧ ∀ p : Nat, M 764 1 = (p : Int) → row = M p 3) ∧ (∀ ox : Nat, ∀ Mx : ab_M, (True) → (∀ p s R v w d sd, cr_adp M p s R v w d sd → ox = s ∧ cr_AD M Mx p s R v w d sd) → K [Xr ox 4 0] Mx)) : (0 ≤ (M 764 1) ∧ ab_wf (Xr ((M 764 1).toNat) 1 0)) ∧ (0 ≤ ((ab_up M ((M 764 1).toNat) 3 ((M ((M 764 1).toNat) 3) + (1 : Int))) 764 1) ∧ ab_wf (Xr (((ab_up M ((M 764 1).toNat) 3 ((M ((M 764 1).toNat) 3) + (1 : Int))) 764 1).toNat) 1 0)) ∧ (ab_ir row ∧ 0 ≤ (ab_up M ((M 764 1).toNat) 3 ((M ((M 764 1).toNat) 3) + (1 : Int))) (((ab_up M ((M 764 1).toNat) 3 ((M ((M 764 1).toNat) 3) + (1 : Int))) 764 1).toNat) 3 ∧ (ab_up M ((M 764 1).toNat) 3 ((M ((M 764 1).toNat) 3) + (1 : Int))) (((ab_up M ((M 764 1).toNat) 3 ((M ((M 764 1).toNat) 3) + (1 : Int))) 764 1).toNat) 3 ≤ 120) ∧ (∀ o18 : Nat, (o18 = if 0 ≤ row ∧ row < (ab_up M ((M 764 1).toNat) 3 ((M ((M 764 1).toNat) 3) + (1 : Int))) (((ab_up M ((M 764 1).toNat) 3 ((M ((M 764 1).toNat) 3) + (1 : Int))) 764 1).toNat) 3 then (((ab_up M ((M 764 1).toNat) 3 ((M ((M 764 1).toNat) 3) + (1 : Int))) 764 1).toNat) + 1 + 1 + 3 * row.toNat else (((ab_up M ((M 764 1).toNat) 3 ((M ((M 764 1).toNat) 3) + (1 : Int))) 764 1).toNat) + 362) → (ab_ir ((ab_up M ((M 764 1).toNat) 3 ((M ((M 764 1).toNat) 3) + (1 : Int))) 764 3)) ∧ (∀ r27 : Int, (r27 = if 97 ≤ ((ab_up M ((M 764 1).toNat) 3 ((M ((M 764 1).toNat) 3) + (1 : Int))) 764 3) ∧ ((ab_up M ((M 764 1).toNat) 3 ((M ((M 764 1).toNat) 3) + (1 : Int))) 764 3) ≤ 100 then 1 else 0) → (ab_ir r27) ∧ ((r27 = 0 → (True) ∧ (∀ M42 : ab_M, (M42 = ab_up (ab_up (ab_up (ab_up (ab_up (ab_up (ab_up (ab_up (ab_up (ab_up (ab_up (ab_up (ab_up (ab_up (ab_up (ab_up (ab_up (ab_up (ab_up (ab_up (ab_up (ab_up M ((M 764 1).toNat) 3 ((M ((M 764 1).toNat) 3) + (1 : Int))) o18 0 ((ab_up M ((M 764 1).toNat) 3 ((M ((M 764 1).toNat) 3) + (1 : Int))) 764 3)) o18 1 (-1)) o18 2 (-1)) o18 3 (-1)) o18 4 (-1)) o18 5 (-1)) o18 6 0) o18 7 0) o18 8 (-1)) o18 9 0) o18 10 (-1)) o18 11 (-1)) o18 14 (-1)) (o18 + 1) 0 (-1)) (o18 + 2) 0 (-1)) (o18 + 1) 1 (-1)) (o18 + 2) 1 (-1)) o18 15 120) o18 16 121) o18 17 120) o18 18 120) → (-128 ≤ (118 : Int) ∧ (118 : Int) < 128) ∧ (ab_ir (M42 o18 0) ∧ ab_ir (118 : Int)) ∧ ((¬ (M42 o18 0) = (118 : Int) → (∃ n', ((n' = 2 ∧ row = row ∧ ∃ p R v w d sd, cr_adp M p o18 R v w d sd ∧ cr_A1 p o18 M M42)))) ∧ ((M42 o18 0) = (118 : Int) → (-128 ≤ (97 : Int) ∧ (97 : Int) < 128) ∧ (∃ n', ((n' = 2 ∧ row = row ∧ ∃ p R v w d sd, cr_adp M p o18 R v w d sd ∧ cr_A1 p o18 M (ab_up M42 o18 1 ((M42 764 3) - (97 : Int)))))))))) ∧ (¬ r27 = 0 → (-128 ≤ (118 : Int) ∧ (118 : Int) < 128) ∧ (True) ∧ (∀ M42 : ab_M, (M42 = ab_up (ab_up (ab_up (ab_up (ab_up (ab_up (ab_up (ab_up (ab_up (ab_up (ab_up (ab_up (ab_up (ab_up (ab_up (ab_up (ab_up (ab_up (ab_up (ab_up (ab_up (ab_up M ((M 764 1).toNat) 3 ((M ((M 764 1).toNat) 3) + (1 : Int))) o18 0 (118 : Int)) o18 1 (-1)) o18 2 (-1)) o18 3 (-1)) o18 4 (-1)) o18 5 (-1)) o18 6 0) o18 7 0) o18 8 (-1)) o18 9 0) o18 10 (-1)) o18 11 (-1)) o18 14 (-1)) (o18 + 1) 0 (-1)) (o18 + 2) 0 (-1)) (o18 + 1) 1 (-1)) (o18 + 2) 1 (-1)) o18 15 120) o18 16 121) o18 17 120) o18 18 120) → (-128 ≤ (118 : Int) ∧ (118 : Int) < 128) ∧ (ab_ir (M42 o18 0) ∧ ab_ir (118 : Int)) ∧ ((¬ (M42 o18 0) = (118 : Int) → (∃ n', ((n' = 2 ∧ row = row ∧ ∃ p R v w d sd, cr_adp M p o18 R v w d sd ∧ cr_A1 p o18 M M42)))) ∧ ((M42 o18 0) = (118 : Int) → (-128 ≤ (97 : Int) ∧ (97 : Int) < 128) ∧ (∃ n', ((n' = 2 ∧ row = row ∧ ∃ p R v w d sd, cr_adp M p o18 R v w d sd ∧ cr_A1 p o18 M (ab_up M42 o18 1 ((M42 764 3) - (97 : Int))))))))))))) := by
  obtain ⟨⟨⟨p, s, R, v, w, d, sd, had⟩, hrow⟩, gK⟩ := hS
  obtain ⟨⟨o, hok⟩, ⟨hA1, hA2, hA3⟩, hB, hC, hD, hE, ⟨hd, hd2⟩, hGH⟩ := id had
  have hGa := hGH.a
  have q2 := hok.2.1
  have q3 := hok.2.2.1
  have hwp := cr_wp q3
  have hpp : p = 395 ∨ p = 26 := by rcases q3 with ⟨-, w⟩ | ⟨-, w⟩ <;> omega
  have hne := cr_neq hpp hA2 hA3
  have hrow := hrow p q2
  subst hrow
  (try simp only [ab_up_2, hne, Nat.reduceEqDiff, if_false, if_true, q2, hd, Int.toNat_natCast, hA1])
  refine And.intro (by
    first
      | exact hwp
      | exact trivial
      | exact ⟨trivial, trivial⟩
      | (clear hne; omega)
      | exact ⟨by clear hne; omega, by clear hne; omega⟩
      | exact ⟨⟨by clear hne; omega, by clear hne; omega⟩, ⟨by clear hne; omega, by clear hne; omega⟩⟩
      | exact ⟨⟨by clear hne; omega, by clear hne; omega⟩, trivial, trivial⟩
      | exact ⟨⟨trivial, trivial⟩, trivial, trivial⟩
      | exact ⟨⟨by clear hne; omega, by clear hne; omega⟩, by clear hne; omega, by clear hne; omega⟩
      | exact ⟨by clear hne; omega, by clear hne; omega, by clear hne; omega⟩
      | (clear hne; split <;> exact ⟨by omega, by omega⟩)
      | (clear hne; split <;> exact ⟨⟨by omega, by omega⟩, trivial, trivial⟩)
      | (clear hne; rw [hr27]; split <;> exact ⟨by omega, by omega⟩)
      | (clear hne
         have hd0 : 0 < d := by omega
         obtain ⟨g1, g2, g3, g4, g5⟩ := hGH.b hd0
         first
           | omega
           | exact ⟨by omega, by omega⟩
           | exact ⟨⟨by omega, by omega⟩, by omega, by omega⟩)) ?_
  refine And.intro (by
    first
      | exact hwp
      | exact trivial
      | exact ⟨trivial, trivial⟩
      | (clear hne; omega)
      | exact ⟨by clear hne; omega, by clear hne; omega⟩
      | exact ⟨⟨by clear hne; omega, by clear hne; omega⟩, ⟨by clear hne; omega, by clear hne; omega⟩⟩
      | exact ⟨⟨by clear hne; omega, by clear hne; omega⟩, trivial, trivial⟩
      | exact ⟨⟨trivial, trivial⟩, trivial, trivial⟩
      | exact ⟨⟨by clear hne; omega, by clear hne; omega⟩, by clear hne; omega, by clear hne; omega⟩
      | exact ⟨by clear hne; omega, by clear hne; omega, by clear hne; omega⟩
      | (clear hne; split <;> exact ⟨by omega, by omega⟩)
      | (clear hne; split <;> exact ⟨⟨by omega, by omega⟩, trivial, trivial⟩)
      | (clear hne; rw [hr27]; split <;> exact ⟨by omega, by omega⟩)
      | (clear hne
         have hd0 : 0 < d := by omega
         obtain ⟨g1, g2, g3, g4, g5⟩ := hGH.b hd0
         first
           | omega
           | exact ⟨by omega, by omega⟩
           | exact ⟨⟨by omega, by omega⟩, by omega, by omega⟩)) ?_
  refine And.intro (by
    first
      | exact hwp
      | exact trivial
      | exact ⟨trivial, trivial⟩
      | (clear hne; omega)
      | exact ⟨by clear hne; omega, by clear hne; omega⟩
      | exact ⟨⟨by clear hne; omega, by clear hne; omega⟩, ⟨by clear hne; omega, by clear hne; omega⟩⟩
      | exact ⟨⟨by clear hne; omega, by clear hne; omega⟩, trivial, trivial⟩
      | exact ⟨⟨trivial, trivial⟩, trivial, trivial⟩
      | exact ⟨⟨by clear hne; omega, by clear hne; omega⟩, by clear hne; omega, by clear hne; omega⟩
      | exact ⟨by clear hne; omega, by clear hne; omega, by clear hne; omega⟩
      | (clear hne; split <;> exact ⟨by omega, by omega⟩)
      | (clear hne; split <;> exact ⟨⟨by omega, by omega⟩, trivial, trivial⟩)
      | (clear hne; rw [hr27]; split <;> exact ⟨by omega, by omega⟩)
      | (clear hne
         have hd0 : 0 < d := by omega
         obtain ⟨g1, g2, g3, g4, g5⟩ := hGH.b hd0
         first
           | omega
           | exact ⟨by omega, by omega⟩
           | exact ⟨⟨by omega, by omega⟩, by omega, by omega⟩)) ?_
  intro o18 hr18
  have e18 : o18 = s := by rw [hr18, if_pos ⟨by omega, by omega⟩, hA3]
  subst e18
  (try simp only [ab_up_2, hne, Nat.reduceEqDiff, if_false, if_true, q2, hd, Int.toNat_natCast, hA1])
  refine And.intro (by
    first
      | exact hwp
      | exact trivial
      | exact ⟨trivial, trivial⟩
      | (clear hne; omega)
      | exact ⟨by clear hne; omega, by clear hne; omega⟩
      | exact ⟨⟨by clear hne; omega, by clear hne; omega⟩, ⟨by clear hne; omega, by clear hne; omega⟩⟩
      | exact ⟨⟨by clear hne; omega, by clear hne; omega⟩, trivial, trivial⟩
      | exact ⟨⟨trivial, trivial⟩, trivial, trivial⟩
      | exact ⟨⟨by clear hne; omega, by clear hne; omega⟩, by clear hne; omega, by clear hne; omega⟩
      | exact ⟨by clear hne; omega, by clear hne; omega, by clear hne; omega⟩
      | (clear hne; split <;> exact ⟨by omega, by omega⟩)
      | (clear hne; split <;> exact ⟨⟨by omega, by omega⟩, trivial, trivial⟩)
      | (clear hne; rw [hr27]; split <;> exact ⟨by omega, by omega⟩)
      | (clear hne
         have hd0 : 0 < d := by omega
         obtain ⟨g1, g2, g3, g4, g5⟩ := hGH.b hd0
         first
           | omega
           | exact ⟨by omega, by omega⟩
           | exact ⟨⟨by omega, by omega⟩, by omega, by omega⟩)) ?_
  intro r27 hr27
  refine And.intro (by
    first
      | exact hwp
      | exact trivial
      | exact ⟨trivial, trivial⟩
      | (clear hne; omega)
      | exact ⟨by clear hne; omega, by clear hne; omega⟩
      | exact ⟨⟨by clear hne; omega, by clear hne; omega⟩, ⟨by clear hne; omega, by clear hne; omega⟩⟩
      | exact ⟨⟨by clear hne; omega, by clear hne; omega⟩, trivial, trivial⟩
      | exact ⟨⟨trivial, trivial⟩, trivial, trivial⟩
      | exact ⟨⟨by clear hne; omega, by clear hne; omega⟩, by clear hne; omega, by clear hne; omega⟩
      | exact ⟨by clear hne; omega, by clear hne; omega, by clear hne; omega⟩
      | (clear hne; split <;> exact ⟨by omega, by omega⟩)
      | (clear hne; split <;> exact ⟨⟨by omega, by omega⟩, trivial, trivial⟩)
      | (clear hne; rw [hr27]; split <;> exact ⟨by omega, by omega⟩)
      | (clear hne
         have hd0 : 0 < d := by omega
         obtain ⟨g1, g2, g3, g4, g5⟩ := hGH.b hd0
         first
           | omega
           | exact ⟨by omega, by omega⟩
           | exact ⟨⟨by omega, by omega⟩, by omega, by omega⟩)) ?_
  refine ⟨?_, ?_⟩
  · intro c30
    rw [hr27] at c30
    rw [ab_bf] at c30
    clear hr27 r27
    refine And.intro trivial ?_
    intro M42 hM42
    subst hM42
    (try simp only [ab_up_2, hne, Nat.reduceEqDiff, if_false, if_true, q2, hd, Int.toNat_natCast, hA1])
    refine And.intro (by
      first
        | exact hwp
        | exact trivial
        | exact ⟨trivial, trivial⟩
        | (clear hne; omega)
        | exact ⟨by clear hne; omega, by clear hne; omega⟩
        | exact ⟨⟨by clear hne; omega, by clear hne; omega⟩, ⟨by clear hne; omega, by clear hne; omega⟩⟩
        | exact ⟨⟨by clear hne; omega, by clear hne; omega⟩, trivial, trivial⟩
        | exact ⟨⟨trivial, trivial⟩, trivial, trivial⟩
        | exact ⟨⟨by clear hne; omega, by clear hne; omega⟩, by clear hne; omega, by clear hne; omega⟩
        | exact ⟨by clear hne; omega, by clear hne; omega, by clear hne; omega⟩
        | (clear hne; split <;> exact ⟨by omega, by omega⟩)
        | (clear hne; split <;> exact ⟨⟨by omega, by omega⟩, trivial, trivial⟩)
        | (clear hne; rw [hr27]; split <;> exact ⟨by omega, by omega⟩)
        | (clear hne
           have hd0 : 0 < d := by omega
           obtain ⟨g1, g2, g3, g4, g5⟩ := hGH.b hd0
           first
             | omega
             | exact ⟨by omega, by omega⟩
             | exact ⟨⟨by omega, by omega⟩, by omega, by omega⟩)) ?_
    refine And.intro (by
      first
        | exact hwp
        | exact trivial
        | exact ⟨trivial, trivial⟩
        | (clear hne; omega)
        | exact ⟨by clear hne; omega, by clear hne; omega⟩
        | exact ⟨⟨by clear hne; omega, by clear hne; omega⟩, ⟨by clear hne; omega, by clear hne; omega⟩⟩
        | exact ⟨⟨by clear hne; omega, by clear hne; omega⟩, trivial, trivial⟩
        | exact ⟨⟨trivial, trivial⟩, trivial, trivial⟩
        | exact ⟨⟨by clear hne; omega, by clear hne; omega⟩, by clear hne; omega, by clear hne; omega⟩
        | exact ⟨by clear hne; omega, by clear hne; omega, by clear hne; omega⟩
        | (clear hne; split <;> exact ⟨by omega, by omega⟩)
        | (clear hne; split <;> exact ⟨⟨by omega, by omega⟩, trivial, trivial⟩)
        | (clear hne; rw [hr27]; split <;> exact ⟨by omega, by omega⟩)
        | (clear hne
           have hd0 : 0 < d := by omega
           obtain ⟨g1, g2, g3, g4, g5⟩ := hGH.b hd0
           first
             | omega
             | exact ⟨by omega, by omega⟩
             | exact ⟨⟨by omega, by omega⟩, by omega, by omega⟩)) ?_
    refine ⟨?_, ?_⟩
    · intro c51
      refine ⟨_, rfl, by first | rfl | trivial | exact hA1.symm, p, _, v, w, d, sd, had, ?_, ?_, ⟨?_, ?_, ?_, ?_, ?_, ?_, ?_, ?_, ?_, ?_, ?_, ?_, ?_⟩, ?_, ?_, ?_, ?_⟩
      · intro o' k' h1 h2 h3 h4
        simp only [ab_up_a]
        repeat rw [if_neg (fun q => by first | exact h2 q.1 | exact h3 q.1 | exact h4 q.1 | exact h1 q)]
      all_goals simp only [ab_up_2, hne, Nat.reduceEqDiff, if_false, if_true]
      all_goals clear hne
      all_goals first
        | rfl
        | (rw [if_pos (by omega)]; done)
        | (rw [if_neg (by omega)]; done)
        | omega
        | (exfalso; revert c51; simp; done)
    · intro c51
      refine And.intro (by
        first
          | exact hwp
          | exact trivial
          | exact ⟨trivial, trivial⟩
          | (clear hne; omega)
          | exact ⟨by clear hne; omega, by clear hne; omega⟩
          | exact ⟨⟨by clear hne; omega, by clear hne; omega⟩, ⟨by clear hne; omega, by clear hne; omega⟩⟩
          | exact ⟨⟨by clear hne; omega, by clear hne; omega⟩, trivial, trivial⟩
          | exact ⟨⟨trivial, trivial⟩, trivial, trivial⟩
          | exact ⟨⟨by clear hne; omega, by clear hne; omega⟩, by clear hne; omega, by clear hne; omega⟩
          | exact ⟨by clear hne; omega, by clear hne; omega, by clear hne; omega⟩
          | (clear hne; split <;> exact ⟨by omega, by omega⟩)
          | (clear hne; split <;> exact ⟨⟨by omega, by omega⟩, trivial, trivial⟩)
          | (clear hne; rw [hr27]; split <;> exact ⟨by omega, by omega⟩)
          | (clear hne
             have hd0 : 0 < d := by omega
             obtain ⟨g1, g2, g3, g4, g5⟩ := hGH.b hd0
             first
               | omega
               | exact ⟨by omega, by omega⟩
               | exact ⟨⟨by omega, by omega⟩, by omega, by omega⟩)) ?_
      refine ⟨_, rfl, by first | rfl | trivial | exact hA1.symm, p, _, v, w, d, sd, had, ?_, ?_, ⟨?_, ?_, ?_, ?_, ?_, ?_, ?_, ?_, ?_, ?_, ?_, ?_, ?_⟩, ?_, ?_, ?_, ?_⟩
      · intro o' k' h1 h2 h3 h4
        simp only [ab_up_a]
        repeat rw [if_neg (fun q => by first | exact h2 q.1 | exact h3 q.1 | exact h4 q.1 | exact h1 q)]
      all_goals simp only [ab_up_2, hne, Nat.reduceEqDiff, if_false, if_true]
      all_goals clear hne
      all_goals first
        | rfl
        | (rw [if_pos (by omega)]; done)
        | (rw [if_neg (by omega)]; done)
        | omega
        | (exfalso; revert c51; simp; done)
  · intro c30
    rw [hr27] at c30
    rw [ab_bt] at c30
    clear hr27 r27
    refine And.intro (by
      first
        | exact hwp
        | exact trivial
        | exact ⟨trivial, trivial⟩
        | (clear hne; omega)
        | exact ⟨by clear hne; omega, by clear hne; omega⟩
        | exact ⟨⟨by clear hne; omega, by clear hne; omega⟩, ⟨by clear hne; omega, by clear hne; omega⟩⟩
        | exact ⟨⟨by clear hne; omega, by clear hne; omega⟩, trivial, trivial⟩
        | exact ⟨⟨trivial, trivial⟩, trivial, trivial⟩
        | exact ⟨⟨by clear hne; omega, by clear hne; omega⟩, by clear hne; omega, by clear hne; omega⟩
        | exact ⟨by clear hne; omega, by clear hne; omega, by clear hne; omega⟩
        | (clear hne; split <;> exact ⟨by omega, by omega⟩)
        | (clear hne; split <;> exact ⟨⟨by omega, by omega⟩, trivial, trivial⟩)
        | (clear hne; rw [hr27]; split <;> exact ⟨by omega, by omega⟩)
        | (clear hne
           have hd0 : 0 < d := by omega
           obtain ⟨g1, g2, g3, g4, g5⟩ := hGH.b hd0
           first
             | omega
             | exact ⟨by omega, by omega⟩
             | exact ⟨⟨by omega, by omega⟩, by omega, by omega⟩)) ?_
    refine And.intro trivial ?_
    intro M42 hM42
    subst hM42
    (try simp only [ab_up_2, hne, Nat.reduceEqDiff, if_false, if_true, q2, hd, Int.toNat_natCast, hA1])
    refine And.intro (by
      first
        | exact hwp
        | exact trivial
        | exact ⟨trivial, trivial⟩
        | (clear hne; omega)
        | exact ⟨by clear hne; omega, by clear hne; omega⟩
        | exact ⟨⟨by clear hne; omega, by clear hne; omega⟩, ⟨by clear hne; omega, by clear hne; omega⟩⟩
        | exact ⟨⟨by clear hne; omega, by clear hne; omega⟩, trivial, trivial⟩
        | exact ⟨⟨trivial, trivial⟩, trivial, trivial⟩
        | exact ⟨⟨by clear hne; omega, by clear hne; omega⟩, by clear hne; omega, by clear hne; omega⟩
        | exact ⟨by clear hne; omega, by clear hne; omega, by clear hne; omega⟩
        | (clear hne; split <;> exact ⟨by omega, by omega⟩)
        | (clear hne; split <;> exact ⟨⟨by omega, by omega⟩, trivial, trivial⟩)
        | (clear hne; rw [hr27]; split <;> exact ⟨by omega, by omega⟩)
        | (clear hne
           have hd0 : 0 < d := by omega
           obtain ⟨g1, g2, g3, g4, g5⟩ := hGH.b hd0
           first
             | omega
             | exact ⟨by omega, by omega⟩
             | exact ⟨⟨by omega, by omega⟩, by omega, by omega⟩)) ?_
    refine And.intro (by
      first
        | exact hwp
        | exact trivial
        | exact ⟨trivial, trivial⟩
        | (clear hne; omega)
        | exact ⟨by clear hne; omega, by clear hne; omega⟩
        | exact ⟨⟨by clear hne; omega, by clear hne; omega⟩, ⟨by clear hne; omega, by clear hne; omega⟩⟩
        | exact ⟨⟨by clear hne; omega, by clear hne; omega⟩, trivial, trivial⟩
        | exact ⟨⟨trivial, trivial⟩, trivial, trivial⟩
        | exact ⟨⟨by clear hne; omega, by clear hne; omega⟩, by clear hne; omega, by clear hne; omega⟩
        | exact ⟨by clear hne; omega, by clear hne; omega, by clear hne; omega⟩
        | (clear hne; split <;> exact ⟨by omega, by omega⟩)
        | (clear hne; split <;> exact ⟨⟨by omega, by omega⟩, trivial, trivial⟩)
        | (clear hne; rw [hr27]; split <;> exact ⟨by omega, by omega⟩)
        | (clear hne
           have hd0 : 0 < d := by omega
           obtain ⟨g1, g2, g3, g4, g5⟩ := hGH.b hd0
           first
             | omega
             | exact ⟨by omega, by omega⟩
             | exact ⟨⟨by omega, by omega⟩, by omega, by omega⟩)) ?_
    refine ⟨?_, ?_⟩
    · intro c51
      refine ⟨_, rfl, by first | rfl | trivial | exact hA1.symm, p, _, v, w, d, sd, had, ?_, ?_, ⟨?_, ?_, ?_, ?_, ?_, ?_, ?_, ?_, ?_, ?_, ?_, ?_, ?_⟩, ?_, ?_, ?_, ?_⟩
      · intro o' k' h1 h2 h3 h4
        simp only [ab_up_a]
        repeat rw [if_neg (fun q => by first | exact h2 q.1 | exact h3 q.1 | exact h4 q.1 | exact h1 q)]
      all_goals simp only [ab_up_2, hne, Nat.reduceEqDiff, if_false, if_true]
      all_goals clear hne
      all_goals first
        | rfl
        | (rw [if_pos (by omega)]; done)
        | (rw [if_neg (by omega)]; done)
        | omega
        | (exfalso; revert c51; simp; done)
    · intro c51
      refine And.intro (by
        first
          | exact hwp
          | exact trivial
          | exact ⟨trivial, trivial⟩
          | (clear hne; omega)
          | exact ⟨by clear hne; omega, by clear hne; omega⟩
          | exact ⟨⟨by clear hne; omega, by clear hne; omega⟩, ⟨by clear hne; omega, by clear hne; omega⟩⟩
          | exact ⟨⟨by clear hne; omega, by clear hne; omega⟩, trivial, trivial⟩
          | exact ⟨⟨trivial, trivial⟩, trivial, trivial⟩
          | exact ⟨⟨by clear hne; omega, by clear hne; omega⟩, by clear hne; omega, by clear hne; omega⟩
          | exact ⟨by clear hne; omega, by clear hne; omega, by clear hne; omega⟩
          | (clear hne; split <;> exact ⟨by omega, by omega⟩)
          | (clear hne; split <;> exact ⟨⟨by omega, by omega⟩, trivial, trivial⟩)
          | (clear hne; rw [hr27]; split <;> exact ⟨by omega, by omega⟩)
          | (clear hne
             have hd0 : 0 < d := by omega
             obtain ⟨g1, g2, g3, g4, g5⟩ := hGH.b hd0
             first
               | omega
               | exact ⟨by omega, by omega⟩
               | exact ⟨⟨by omega, by omega⟩, by omega, by omega⟩)) ?_
      refine ⟨_, rfl, by first | rfl | trivial | exact hA1.symm, p, _, v, w, d, sd, had, ?_, ?_, ⟨?_, ?_, ?_, ?_, ?_, ?_, ?_, ?_, ?_, ?_, ?_, ?_, ?_⟩, ?_, ?_, ?_, ?_⟩
      · intro o' k' h1 h2 h3 h4
        simp only [ab_up_a]
        repeat rw [if_neg (fun q => by first | exact h2 q.1 | exact h3 q.1 | exact h4 q.1 | exact h1 q)]
      all_goals simp only [ab_up_2, hne, Nat.reduceEqDiff, if_false, if_true]
      all_goals clear hne
      all_goals first
        | rfl
        | (rw [if_pos (by omega)]; done)
        | (rw [if_neg (by omega)]; done)
        | omega
        | (exfalso; revert c51; simp; done)

set_option maxRecDepth 20000 in
theorem vc_X2_addStatement_65 (row : Int) (M : ab_M) (K : List ab_V → ab_M → Prop) (hS : ((∃ p s R v w d sd, cr_adp M p s R v w d sd) ∧ ∀ p : Nat, M 764 1 = (p : Int) → row = M p 3) ∧ (∀ ox : Nat, ∀ Mx : ab_M, (True) → (∀ p s R v w d sd, cr_adp M p s R v w d sd → ox = s ∧ cr_AD M Mx p s R v w d sd) → K [Xr ox 4 0] Mx)) (n : Nat) (ro : Int) (s1 : Nat) (M1 : ab_M) (hI : n = 2 ∧ ro = row ∧ ∃ p R v w d sd, cr_adp M p s1 R v w d sd ∧ cr_A1 p s1 M M1) : ((∃ o p, cr_ok o p M1 ∧ 0 ≤ M1 p 6 ∧ (M1 s1 0 = 119 → M1 p 6 + 1 < 16) ∧ (M1 s1 0 = 107 ∨ M1 s1 0 = 112 → M1 p 6 < 16) ∧ 0 ≤ M1 p 8 ∧ M1 p 8 ≤ 4 ∧ (M1 s1 0 = 119 → M1 p 8 < 4) ∧ s1 ≠ 764 ∧ s1 ≠ p ∧ s1 ≠ p + 365 ∧ s1 ≠ p + 366) ∧ ab_ir (M1 s1 0)) ∧ (∀ M68 : ab_M, (M68 = cr_ac M1 (M1 764 1).toNat s1 ro) → (0 ≤ (M68 764 8) ∧ (M68 764 8) < ((121 : Nat) : Int)) ∧ (0 ≤ ((ab_up M68 s1 11 (M68 767 ((M68 764 8).toNat))) 764 8) ∧ ((ab_up M68 s1 11 (M68 767 ((M68 764 8).toNat))) 764 8) < ((121 : Nat) : Int)) ∧ (ab_ir ((ab_up (ab_up M68 s1 11 (M68 767 ((M68 764 8).toNat))) 767 (((ab_up M68 s1 11 (M68 767 ((M68 764 8).toNat))) 764 8).toNat) ro) s1 11)) ∧ ((((ab_up (ab_up M68 s1 11 (M68 767 ((M68 764 8).toNat))) 767 (((ab_up M68 s1 11 (M68 767 ((M68 764 8).toNat))) 764 8).toNat) ro) s1 11) < 0 → (∃ n', n' < n ∧ ((n' = 1 ∧ ro = row ∧ ∃ p R v w d sd, cr_adp M p s1 R v w d sd ∧ ∃ N, cr_A15 p s1 M N ∧ (ab_up (ab_up M68 s1 11 (M68 767 ((M68 764 8).toNat))) 767 (((ab_up M68 s1 11 (M68 767 ((M68 764 8).toNat))) 764 8).toNat) ro) = cr_B M N s1 v d (R : Int))))) ∧ (0 ≤ ((ab_up (ab_up M68 s1 11 (M68 767 ((M68 764 8).toNat))) 767 (((ab_up M68 s1 11 (M68 767 ((M68 764 8).toNat))) 764 8).toNat) ro) s1 11) → (0 ≤ ((ab_up M68 s1 11 (M68 767 ((M68 764 8).toNat))) 764 1) ∧ ab_wf (Xr (((ab_up M68 s1 11 (M68 767 ((M68 764 8).toNat))) 764 1).toNat) 1 0)) ∧ (ab_ir ((ab_up (ab_up M68 s1 11 (M68 767 ((M68 764 8).toNat))) 767 (((ab_up M68 s1 11 (M68 767 ((M68 764 8).toNat))) 764 8).toNat) ro) s1 11) ∧ 0 ≤ (ab_up (ab_up M68 s1 11 (M68 767 ((M68 764 8).toNat))) 767 (((ab_up M68 s1 11 (M68 767 ((M68 764 8).toNat))) 764 8).toNat) ro) (((ab_up M68 s1 11 (M68 767 ((M68 764 8).toNat))) 764 1).toNat) 3 ∧ (ab_up (ab_up M68 s1 11 (M68 767 ((M68 764 8).toNat))) 767 (((ab_up M68 s1 11 (M68 767 ((M68 764 8).toNat))) 764 8).toNat) ro) (((ab_up M68 s1 11 (M68 767 ((M68 764 8).toNat))) 764 1).toNat) 3 ≤ 120) ∧ (∀ o109 : Nat, (o109 = if 0 ≤ ((ab_up (ab_up M68 s1 11 (M68 767 ((M68 764 8).toNat))) 767 (((ab_up M68 s1 11 (M68 767 ((M68 764 8).toNat))) 764 8).toNat) ro) s1 11) ∧ ((ab_up (ab_up M68 s1 11 (M68 767 ((M68 764 8).toNat))) 767 (((ab_up M68 s1 11 (M68 767 ((M68 764 8).toNat))) 764 8).toNat) ro) s1 11) < (ab_up (ab_up M68 s1 11 (M68 767 ((M68 764 8).toNat))) 767 (((ab_up M68 s1 11 (M68 767 ((M68 764 8).toNat))) 764 8).toNat) ro) (((ab_up M68 s1 11 (M68 767 ((M68 764 8).toNat))) 764 1).toNat) 3 then (((ab_up M68 s1 11 (M68 767 ((M68 764 8).toNat))) 764 1).toNat) + 1 + 1 + 3 * ((ab_up (ab_up M68 s1 11 (M68 767 ((M68 764 8).toNat))) 767 (((ab_up M68 s1 11 (M68 767 ((M68 764 8).toNat))) 764 8).toNat) ro) s1 11).toNat else (((ab_up M68 s1 11 (M68 767 ((M68 764 8).toNat))) 764 1).toNat) + 362) → (∃ n', n' < n ∧ ((n' = 1 ∧ ro = row ∧ ∃ p R v w d sd, cr_adp M p s1 R v w d sd ∧ ∃ N, cr_A15 p s1 M N ∧ (ab_up (ab_up (ab_up M68 s1 11 (M68 767 ((M68 764 8).toNat))) 767 (((ab_up M68 s1 11 (M68 767 ((M68 764 8).toNat))) 764 8).toNat) ro) o109 10 ro) = cr_B M N s1 v d (R : Int)))))))) := by
  obtain ⟨hn, rfl, p, R, v, w, d, sd, had, hA⟩ := hI
  obtain ⟨⟨-, hrow⟩, gK⟩ := hS
  obtain ⟨⟨o, hok⟩, ⟨hA1, hA2, hA3⟩, hB, hC, hD, hE, ⟨hd, hd2⟩, hGH⟩ := id had
  have hGa := hGH.a
  have q2 := hok.2.1
  have q3 := hok.2.2.1
  have hwp := cr_wp q3
  have hpp : p = 395 ∨ p = 26 := by rcases q3 with ⟨-, w⟩ | ⟨-, w⟩ <;> omega
  have hne := cr_neq hpp hA2 hA3
  have hrow := hrow p q2
  subst hrow
  obtain ⟨f1, a3, ⟨z0, z1, z2, z3, z4, z5, z6, z7, z8, z9, z10, z11, z14⟩, w1, w2, w3, w4⟩ := id hA
  have h764 : ∀ k, M1 764 k = M 764 k := fun k => f1 764 k (by simp [hne]) (by simp [hne]) (by simp [hne]) (by simp [hne])
  have hoo : (∀ j, ¬ (o = p ∧ j = 3)) ∧ o ≠ s1 ∧ o ≠ s1 + 1 ∧ o ≠ s1 + 2 ∧ (∀ j, ¬ (o + 1 = p ∧ j = 3)) ∧ o + 1 ≠ s1 ∧ o + 1 ≠ s1 + 1 ∧ o + 1 ≠ s1 + 2 := by
    rcases q3 with ⟨t, t'⟩ | ⟨t, t'⟩
    · exact ⟨fun j => by omega, by omega, by omega, by omega, fun j => by omega, by omega, by omega, by omega⟩
    · exact ⟨fun j => by omega, by omega, by omega, by omega, fun j => by omega, by omega, by omega, by omega⟩
  have hok1 : cr_ok o p M1 := cr_ok_fr hok ⟨h764 0, h764 1⟩ (f1 _ _ (hoo.1 _) hoo.2.1 hoo.2.2.1 hoo.2.2.2.1) (fun j => f1 _ _ (hoo.2.2.2.2.1 _) hoo.2.2.2.2.2.1 hoo.2.2.2.2.2.2.1 hoo.2.2.2.2.2.2.2)
  have e6 : M1 p 6 = M p 6 := f1 _ _ (by simp) (by simp [hne]) (by simp [hne]) (by simp [hne])
  have e8 : M1 p 8 = M p 8 := f1 _ _ (by simp) (by simp [hne]) (by simp [hne]) (by simp [hne])
  refine And.intro (by
    refine ⟨⟨o, p, hok1, ?_⟩, ?_⟩
    · rw [e6, e8, z0]
      refine ⟨by clear hne; omega, fun w => ?_, fun w => ?_, by clear hne; omega, by clear hne; omega, fun w => ?_, by simp [hne], by simp [hne], by simp [hne], by simp [hne]⟩
      all_goals (clear hne; split at w <;> omega)
    · rw [z0]
      clear hne
      split <;> exact ⟨by omega, by omega⟩) ?_
  intro M68 hM68
  rw [h764 1, q2, Int.toNat_natCast] at hM68
  have hA15 := cr_ac_ok had hA hM68
  obtain ⟨fA, bA, -⟩ := id hA15
  have k764 : ∀ k, M68 764 k = M 764 k := fun k => fA 764 k (by simp [hne]) (by simp [hne]) (by simp [hne]) (by simp [hne]) (by simp [hne]) (by simp [hne])
  have k767 : ∀ k, M68 767 k = M 767 k := fun k => fA 767 k (by simp [hne]) (by simp [hne]) (by simp [hne]) (by simp [hne]) (by simp [hne]) (by simp [hne])
  (try simp only [ab_up_2, hne, Nat.reduceEqDiff, if_false, if_true, q2, hd, Int.toNat_natCast, k764, k767, hA1, bA])
  refine And.intro (by
    first
      | exact hwp
      | exact trivial
      | exact ⟨trivial, trivial⟩
      | (clear hne; omega)
      | exact ⟨by clear hne; omega, by clear hne; omega⟩
      | exact ⟨⟨by clear hne; omega, by clear hne; omega⟩, ⟨by clear hne; omega, by clear hne; omega⟩⟩
      | exact ⟨⟨by clear hne; omega, by clear hne; omega⟩, trivial, trivial⟩
      | exact ⟨⟨trivial, trivial⟩, trivial, trivial⟩
      | exact ⟨⟨by clear hne; omega, by clear hne; omega⟩, by clear hne; omega, by clear hne; omega⟩
      | exact ⟨by clear hne; omega, by clear hne; omega, by clear hne; omega⟩
      | (clear hne; split <;> exact ⟨by omega, by omega⟩)
      | (clear hne; split <;> exact ⟨⟨by omega, by omega⟩, trivial, trivial⟩)
      | (clear hne; rw [hr27]; split <;> exact ⟨by omega, by omega⟩)
      | (clear hne
         have hd0 : 0 < d := by omega
         obtain ⟨g1, g2, g3, g4, g5⟩ := hGH.b hd0
         first
           | omega
           | exact ⟨by omega, by omega⟩
           | exact ⟨⟨by omega, by omega⟩, by omega, by omega⟩)) ?_
  refine And.intro (by
    first
      | exact hwp
      | exact trivial
      | exact ⟨trivial, trivial⟩
      | (clear hne; omega)
      | exact ⟨by clear hne; omega, by clear hne; omega⟩
      | exact ⟨⟨by clear hne; omega, by clear hne; omega⟩, ⟨by clear hne; omega, by clear hne; omega⟩⟩
      | exact ⟨⟨by clear hne; omega, by clear hne; omega⟩, trivial, trivial⟩
      | exact ⟨⟨trivial, trivial⟩, trivial, trivial⟩
      | exact ⟨⟨by clear hne; omega, by clear hne; omega⟩, by clear hne; omega, by clear hne; omega⟩
      | exact ⟨by clear hne; omega, by clear hne; omega, by clear hne; omega⟩
      | (clear hne; split <;> exact ⟨by omega, by omega⟩)
      | (clear hne; split <;> exact ⟨⟨by omega, by omega⟩, trivial, trivial⟩)
      | (clear hne; rw [hr27]; split <;> exact ⟨by omega, by omega⟩)
      | (clear hne
         have hd0 : 0 < d := by omega
         obtain ⟨g1, g2, g3, g4, g5⟩ := hGH.b hd0
         first
           | omega
           | exact ⟨by omega, by omega⟩
           | exact ⟨⟨by omega, by omega⟩, by omega, by omega⟩)) ?_
  refine And.intro (by
    first
      | exact hwp
      | exact trivial
      | exact ⟨trivial, trivial⟩
      | (clear hne; omega)
      | exact ⟨by clear hne; omega, by clear hne; omega⟩
      | exact ⟨⟨by clear hne; omega, by clear hne; omega⟩, ⟨by clear hne; omega, by clear hne; omega⟩⟩
      | exact ⟨⟨by clear hne; omega, by clear hne; omega⟩, trivial, trivial⟩
      | exact ⟨⟨trivial, trivial⟩, trivial, trivial⟩
      | exact ⟨⟨by clear hne; omega, by clear hne; omega⟩, by clear hne; omega, by clear hne; omega⟩
      | exact ⟨by clear hne; omega, by clear hne; omega, by clear hne; omega⟩
      | (clear hne; split <;> exact ⟨by omega, by omega⟩)
      | (clear hne; split <;> exact ⟨⟨by omega, by omega⟩, trivial, trivial⟩)
      | (clear hne; rw [hr27]; split <;> exact ⟨by omega, by omega⟩)
      | (clear hne
         have hd0 : 0 < d := by omega
         obtain ⟨g1, g2, g3, g4, g5⟩ := hGH.b hd0
         first
           | omega
           | exact ⟨by omega, by omega⟩
           | exact ⟨⟨by omega, by omega⟩, by omega, by omega⟩)) ?_
  refine ⟨?_, ?_⟩
  · intro c98
    refine ⟨_, by rw [hn]; exact Nat.lt_succ_self 1, rfl, by first | rfl | trivial | exact hA1.symm, p, R, _, w, d, sd, had, M68, hA15, ?_⟩
    clear hne
    unfold cr_B
    first
      | (rw [if_pos (by omega)]; done)
      | (rw [if_neg (by omega)]; done)
  · intro c98
    refine And.intro (by
      first
        | exact hwp
        | exact trivial
        | exact ⟨trivial, trivial⟩
        | (clear hne; omega)
        | exact ⟨by clear hne; omega, by clear hne; omega⟩
        | exact ⟨⟨by clear hne; omega, by clear hne; omega⟩, ⟨by clear hne; omega, by clear hne; omega⟩⟩
        | exact ⟨⟨by clear hne; omega, by clear hne; omega⟩, trivial, trivial⟩
        | exact ⟨⟨trivial, trivial⟩, trivial, trivial⟩
        | exact ⟨⟨by clear hne; omega, by clear hne; omega⟩, by clear hne; omega, by clear hne; omega⟩
        | exact ⟨by clear hne; omega, by clear hne; omega, by clear hne; omega⟩
        | (clear hne; split <;> exact ⟨by omega, by omega⟩)
        | (clear hne; split <;> exact ⟨⟨by omega, by omega⟩, trivial, trivial⟩)
        | (clear hne; rw [hr27]; split <;> exact ⟨by omega, by omega⟩)
        | (clear hne
           have hd0 : 0 < d := by omega
           obtain ⟨g1, g2, g3, g4, g5⟩ := hGH.b hd0
           first
             | omega
             | exact ⟨by omega, by omega⟩
             | exact ⟨⟨by omega, by omega⟩, by omega, by omega⟩)) ?_
    refine And.intro (by
      first
        | exact hwp
        | exact trivial
        | exact ⟨trivial, trivial⟩
        | (clear hne; omega)
        | exact ⟨by clear hne; omega, by clear hne; omega⟩
        | exact ⟨⟨by clear hne; omega, by clear hne; omega⟩, ⟨by clear hne; omega, by clear hne; omega⟩⟩
        | exact ⟨⟨by clear hne; omega, by clear hne; omega⟩, trivial, trivial⟩
        | exact ⟨⟨trivial, trivial⟩, trivial, trivial⟩
        | exact ⟨⟨by clear hne; omega, by clear hne; omega⟩, by clear hne; omega, by clear hne; omega⟩
        | exact ⟨by clear hne; omega, by clear hne; omega, by clear hne; omega⟩
        | (clear hne; split <;> exact ⟨by omega, by omega⟩)
        | (clear hne; split <;> exact ⟨⟨by omega, by omega⟩, trivial, trivial⟩)
        | (clear hne; rw [hr27]; split <;> exact ⟨by omega, by omega⟩)
        | (clear hne
           have hd0 : 0 < d := by omega
           obtain ⟨g1, g2, g3, g4, g5⟩ := hGH.b hd0
           first
             | omega
             | exact ⟨by omega, by omega⟩
             | exact ⟨⟨by omega, by omega⟩, by omega, by omega⟩)) ?_
    intro o109 hr109
    have e109 : o109 = v := by
      clear hne
      rw [hr109, if_pos ⟨by omega, by omega⟩, hGH.v (by omega)]
    subst e109
    refine ⟨_, by rw [hn]; exact Nat.lt_succ_self 1, rfl, by first | rfl | trivial | exact hA1.symm, p, R, _, w, d, sd, had, M68, hA15, ?_⟩
    clear hne
    unfold cr_B
    first
      | (rw [if_pos (by omega)]; done)
      | (rw [if_neg (by omega)]; done)

set_option maxRecDepth 20000 in
theorem vc_X2_addStatement_116 (row : Int) (M : ab_M) (K : List ab_V → ab_M → Prop) (hS : ((∃ p s R v w d sd, cr_adp M p s R v w d sd) ∧ ∀ p : Nat, M 764 1 = (p : Int) → row = M p 3) ∧ (∀ ox : Nat, ∀ Mx : ab_M, (True) → (∀ p s R v w d sd, cr_adp M p s R v w d sd → ox = s ∧ cr_AD M Mx p s R v w d sd) → K [Xr ox 4 0] Mx)) (n : Nat) (ro : Int) (s1 : Nat) (M1 : ab_M) (hI : n = 1 ∧ ro = row ∧ ∃ p R v w d sd, cr_adp M p s1 R v w d sd ∧ ∃ N, cr_A15 p s1 M N ∧ M1 = cr_B M N s1 v d (R : Int)) : (ab_ir (M1 764 8)) ∧ ((¬ (M1 764 8) = 0 → (0 ≤ ((M1 764 8) - (1 : Int)) ∧ ((M1 764 8) - (1 : Int)) < ((121 : Nat) : Int)) ∧ (0 ≤ (((ab_up M1 s1 8 (M1 765 (((M1 764 8) - (1 : Int)).toNat))) 764 8) - (1 : Int)) ∧ (((ab_up M1 s1 8 (M1 765 (((M1 764 8) - (1 : Int)).toNat))) 764 8) - (1 : Int)) < ((121 : Nat) : Int)) ∧ (0 ≤ ((ab_up (ab_up M1 s1 8 (M1 765 (((M1 764 8) - (1 : Int)).toNat))) s1 9 ((ab_up M1 s1 8 (M1 765 (((M1 764 8) - (1 : Int)).toNat))) 766 ((((ab_up M1 s1 8 (M1 765 (((M1 764 8) - (1 : Int)).toNat))) 764 8) - (1 : Int)).toNat))) 764 1) ∧ ab_wf (Xr (((ab_up (ab_up M1 s1 8 (M1 765 (((M1 764 8) - (1 : Int)).toNat))) s1 9 ((ab_up M1 s1 8 (M1 765 (((M1 764 8) - (1 : Int)).toNat))) 766 ((((ab_up M1 s1 8 (M1 765 (((M1 764 8) - (1 : Int)).toNat))) 764 8) - (1 : Int)).toNat))) 764 1).toNat) 1 0)) ∧ (ab_ir ((ab_up (ab_up M1 s1 8 (M1 765 (((M1 764 8) - (1 : Int)).toNat))) s1 9 ((ab_up M1 s1 8 (M1 765 (((M1 764 8) - (1 : Int)).toNat))) 766 ((((ab_up M1 s1 8 (M1 765 (((M1 764 8) - (1 : Int)).toNat))) 764 8) - (1 : Int)).toNat))) s1 8) ∧ 0 ≤ (ab_up (ab_up M1 s1 8 (M1 765 (((M1 764 8) - (1 : Int)).toNat))) s1 9 ((ab_up M1 s1 8 (M1 765 (((M1 764 8) - (1 : Int)).toNat))) 766 ((((ab_up M1 s1 8 (M1 765 (((M1 764 8) - (1 : Int)).toNat))) 764 8) - (1 : Int)).toNat))) (((ab_up (ab_up M1 s1 8 (M1 765 (((M1 764 8) - (1 : Int)).toNat))) s1 9 ((ab_up M1 s1 8 (M1 765 (((M1 764 8) - (1 : Int)).toNat))) 766 ((((ab_up M1 s1 8 (M1 765 (((M1 764 8) - (1 : Int)).toNat))) 764 8) - (1 : Int)).toNat))) 764 1).toNat) 3 ∧ (ab_up (ab_up M1 s1 8 (M1 765 (((M1 764 8) - (1 : Int)).toNat))) s1 9 ((ab_up M1 s1 8 (M1 765 (((M1 764 8) - (1 : Int)).toNat))) 766 ((((ab_up M1 s1 8 (M1 765 (((M1 764 8) - (1 : Int)).toNat))) 764 8) - (1 : Int)).toNat))) (((ab_up (ab_up M1 s1 8 (M1 765 (((M1 764 8) - (1 : Int)).toNat))) s1 9 ((ab_up M1 s1 8 (M1 765 (((M1 764 8) - (1 : Int)).toNat))) 766 ((((ab_up M1 s1 8 (M1 765 (((M1 764 8) - (1 : Int)).toNat))) 764 8) - (1 : Int)).toNat))) 764 1).toNat) 3 ≤ 120) ∧ (∀ o171 : Nat, (o171 = if 0 ≤ ((ab_up (ab_up M1 s1 8 (M1 765 (((M1 764 8) - (1 : Int)).toNat))) s1 9 ((ab_up M1 s1 8 (M1 765 (((M1 764 8) - (1 : Int)).toNat))) 766 ((((ab_up M1 s1 8 (M1 765 (((M1 764 8) - (1 : Int)).toNat))) 764 8) - (1 : Int)).toNat))) s1 8) ∧ ((ab_up (ab_up M1 s1 8 (M1 765 (((M1 764 8) - (1 : Int)).toNat))) s1 9 ((ab_up M1 s1 8 (M1 765 (((M1 764 8) - (1 : Int)).toNat))) 766 ((((ab_up M1 s1 8 (M1 765 (((M1 764 8) - (1 : Int)).toNat))) 764 8) - (1 : Int)).toNat))) s1 8) < (ab_up (ab_up M1 s1 8 (M1 765 (((M1 764 8) - (1 : Int)).toNat))) s1 9 ((ab_up M1 s1 8 (M1 765 (((M1 764 8) - (1 : Int)).toNat))) 766 ((((ab_up M1 s1 8 (M1 765 (((M1 764 8) - (1 : Int)).toNat))) 764 8) - (1 : Int)).toNat))) (((ab_up (ab_up M1 s1 8 (M1 765 (((M1 764 8) - (1 : Int)).toNat))) s1 9 ((ab_up M1 s1 8 (M1 765 (((M1 764 8) - (1 : Int)).toNat))) 766 ((((ab_up M1 s1 8 (M1 765 (((M1 764 8) - (1 : Int)).toNat))) 764 8) - (1 : Int)).toNat))) 764 1).toNat) 3 then (((ab_up (ab_up M1 s1 8 (M1 765 (((M1 764 8) - (1 : Int)).toNat))) s1 9 ((ab_up M1 s1 8 (M1 765 (((M1 764 8) - (1 : Int)).toNat))) 766 ((((ab_up M1 s1 8 (M1 765 (((M1 764 8) - (1 : Int)).toNat))) 764 8) - (1 : Int)).toNat))) 764 1).toNat) + 1 + 1 + 3 * ((ab_up (ab_up M1 s1 8 (M1 765 (((M1 764 8) - (1 : Int)).toNat))) s1 9 ((ab_up M1 s1 8 (M1 765 (((M1 764 8) - (1 : Int)).toNat))) 766 ((((ab_up M1 s1 8 (M1 765 (((M1 764 8) - (1 : Int)).toNat))) 764 8) - (1 : Int)).toNat))) s1 8).toNat else (((ab_up (ab_up M1 s1 8 (M1 765 (((M1 764 8) - (1 : Int)).toNat))) s1 9 ((ab_up M1 s1 8 (M1 765 (((M1 764 8) - (1 : Int)).toNat))) 766 ((((ab_up M1 s1 8 (M1 765 (((M1 764 8) - (1 : Int)).toNat))) 764 8) - (1 : Int)).toNat))) 764 1).toNat) + 362) → (0 ≤ ((ab_up (ab_up M1 s1 8 (M1 765 (((M1 764 8) - (1 : Int)).toNat))) s1 9 ((ab_up M1 s1 8 (M1 765 (((M1 764 8) - (1 : Int)).toNat))) 766 ((((ab_up M1 s1 8 (M1 765 (((M1 764 8) - (1 : Int)).toNat))) 764 8) - (1 : Int)).toNat))) s1 9) ∧ ((ab_up (ab_up M1 s1 8 (M1 765 (((M1 764 8) - (1 : Int)).toNat))) s1 9 ((ab_up M1 s1 8 (M1 765 (((M1 764 8) - (1 : Int)).toNat))) 766 ((((ab_up M1 s1 8 (M1 765 (((M1 764 8) - (1 : Int)).toNat))) 764 8) - (1 : Int)).toNat))) s1 9) < ((2 : Nat) : Int)) ∧ (ab_ir ((ab_up (ab_up (ab_up M1 s1 8 (M1 765 (((M1 764 8) - (1 : Int)).toNat))) s1 9 ((ab_up M1 s1 8 (M1 765 (((M1 764 8) - (1 : Int)).toNat))) 766 ((((ab_up M1 s1 8 (M1 765 (((M1 764 8) - (1 : Int)).toNat))) 764 8) - (1 : Int)).toNat))) (o171 + 2) (((ab_up (ab_up M1 s1 8 (M1 765 (((M1 764 8) - (1 : Int)).toNat))) s1 9 ((ab_up M1 s1 8 (M1 765 (((M1 764 8) - (1 : Int)).toNat))) 766 ((((ab_up M1 s1 8 (M1 765 (((M1 764 8) - (1 : Int)).toNat))) 764 8) - (1 : Int)).toNat))) s1 9).toNat) ro) s1 11)) ∧ ((0 ≤ ((ab_up (ab_up (ab_up M1 s1 8 (M1 765 (((M1 764 8) - (1 : Int)).toNat))) s1 9 ((ab_up M1 s1 8 (M1 765 (((M1 764 8) - (1 : Int)).toNat))) 766 ((((ab_up M1 s1 8 (M1 765 (((M1 764 8) - (1 : Int)).toNat))) 764 8) - (1 : Int)).toNat))) (o171 + 2) (((ab_up (ab_up M1 s1 8 (M1 765 (((M1 764 8) - (1 : Int)).toNat))) s1 9 ((ab_up M1 s1 8 (M1 765 (((M1 764 8) - (1 : Int)).toNat))) 766 ((((ab_up M1 s1 8 (M1 765 (((M1 764 8) - (1 : Int)).toNat))) 764 8) - (1 : Int)).toNat))) s1 9).toNat) ro) s1 11) → K [Xr s1 4 0] (ab_up (ab_up (ab_up M1 s1 8 (M1 765 (((M1 764 8) - (1 : Int)).toNat))) s1 9 ((ab_up M1 s1 8 (M1 765 (((M1 764 8) - (1 : Int)).toNat))) 766 ((((ab_up M1 s1 8 (M1 765 (((M1 764 8) - (1 : Int)).toNat))) 764 8) - (1 : Int)).toNat))) (o171 + 2) (((ab_up (ab_up M1 s1 8 (M1 765 (((M1 764 8) - (1 : Int)).toNat))) s1 9 ((ab_up M1 s1 8 (M1 765 (((M1 764 8) - (1 : Int)).toNat))) 766 ((((ab_up M1 s1 8 (M1 765 (((M1 764 8) - (1 : Int)).toNat))) 764 8) - (1 : Int)).toNat))) s1 9).toNat) ro)) ∧ (((ab_up (ab_up (ab_up M1 s1 8 (M1 765 (((M1 764 8) - (1 : Int)).toNat))) s1 9 ((ab_up M1 s1 8 (M1 765 (((M1 764 8) - (1 : Int)).toNat))) 766 ((((ab_up M1 s1 8 (M1 765 (((M1 764 8) - (1 : Int)).toNat))) 764 8) - (1 : Int)).toNat))) (o171 + 2) (((ab_up (ab_up M1 s1 8 (M1 765 (((M1 764 8) - (1 : Int)).toNat))) s1 9 ((ab_up M1 s1 8 (M1 765 (((M1 764 8) - (1 : Int)).toNat))) 766 ((((ab_up M1 s1 8 (M1 765 (((M1 764 8) - (1 : Int)).toNat))) 764 8) - (1 : Int)).toNat))) s1 9).toNat) ro) s1 11) < 0 → (0 ≤ ((ab_up (ab_up (ab_up M1 s1 8 (M1 765 (((M1 764 8) - (1 : Int)).toNat))) s1 9 ((ab_up M1 s1 8 (M1 765 (((M1 764 8) - (1 : Int)).toNat))) 766 ((((ab_up M1 s1 8 (M1 765 (((M1 764 8) - (1 : Int)).toNat))) 764 8) - (1 : Int)).toNat))) (o171 + 2) (((ab_up (ab_up M1 s1 8 (M1 765 (((M1 764 8) - (1 : Int)).toNat))) s1 9 ((ab_up M1 s1 8 (M1 765 (((M1 764 8) - (1 : Int)).toNat))) 766 ((((ab_up M1 s1 8 (M1 765 (((M1 764 8) - (1 : Int)).toNat))) 764 8) - (1 : Int)).toNat))) s1 9).toNat) ro) s1 9) ∧ ((ab_up (ab_up (ab_up M1 s1 8 (M1 765 (((M1 764 8) - (1 : Int)).toNat))) s1 9 ((ab_up M1 s1 8 (M1 765 (((M1 764 8) - (1 : Int)).toNat))) 766 ((((ab_up M1 s1 8 (M1 765 (((M1 764 8) - (1 : Int)).toNat))) 764 8) - (1 : Int)).toNat))) (o171 + 2) (((ab_up (ab_up M1 s1 8 (M1 765 (((M1 764 8) - (1 : Int)).toNat))) s1 9 ((ab_up M1 s1 8 (M1 765 (((M1 764 8) - (1 : Int)).toNat))) 766 ((((ab_up M1 s1 8 (M1 765 (((M1 764 8) - (1 : Int)).toNat))) 764 8) - (1 : Int)).toNat))) s1 9).toNat) ro) s1 9) < ((2 : Nat) : Int)) ∧ K [Xr s1 4 0] (ab_up (ab_up (ab_up (ab_up M1 s1 8 (M1 765 (((M1 764 8) - (1 : Int)).toNat))) s1 9 ((ab_up M1 s1 8 (M1 765 (((M1 764 8) - (1 : Int)).toNat))) 766 ((((ab_up M1 s1 8 (M1 765 (((M1 764 8) - (1 : Int)).toNat))) 764 8) - (1 : Int)).toNat))) (o171 + 2) (((ab_up (ab_up M1 s1 8 (M1 765 (((M1 764 8) - (1 : Int)).toNat))) s1 9 ((ab_up M1 s1 8 (M1 765 (((M1 764 8) - (1 : Int)).toNat))) 766 ((((ab_up M1 s1 8 (M1 765 (((M1 764 8) - (1 : Int)).toNat))) 764 8) - (1 : Int)).toNat))) s1 9).toNat) ro) (o171 + 1) (((ab_up (ab_up (ab_up M1 s1 8 (M1 765 (((M1 764 8) - (1 : Int)).toNat))) s1 9 ((ab_up M1 s1 8 (M1 765 (((M1 764 8) - (1 : Int)).toNat))) 766 ((((ab_up M1 s1 8 (M1 765 (((M1 764 8) - (1 : Int)).toNat))) 764 8) - (1 : Int)).toNat))) (o171 + 2) (((ab_up (ab_up M1 s1 8 (M1 765 (((M1 764 8) - (1 : Int)).toNat))) s1 9 ((ab_up M1 s1 8 (M1 765 (((M1 764 8) - (1 : Int)).toNat))) 766 ((((ab_up M1 s1 8 (M1 765 (((M1 764 8) - (1 : Int)).toNat))) 764 8) - (1 : Int)).toNat))) s1 9).toNat) ro) s1 9).toNat) ro))))) ∧ ((M1 764 8) = 0 → (0 ≤ (M1 764 1) ∧ ab_wf (Xr ((M1 764 1).toNat) 1 0)) ∧ K [Xr s1 4 0] (ab_up M1 ((M1 764 1).toNat) 4 ro))) := by
  obtain ⟨hn, rfl, p, R, v, w, d, sd, had, N, hA, rfl⟩ := hI
  obtain ⟨⟨-, hrow⟩, gK⟩ := hS
  obtain ⟨⟨o, hok⟩, ⟨hA1, hA2, hA3⟩, hB, hC, hD, hE, ⟨hd, hd2⟩, hGH⟩ := id had
  have hGa := hGH.a
  have q2 := hok.2.1
  have q3 := hok.2.2.1
  have hwp := cr_wp q3
  have hpp : p = 395 ∨ p = 26 := by rcases q3 with ⟨-, w⟩ | ⟨-, w⟩ <;> omega
  have hne := cr_neq hpp hA2 hA3
  have hrow := hrow p q2
  subst hrow
  obtain ⟨fA, bA, -⟩ := id hA
  have k764 : ∀ k, cr_B M N s1 v d (R : Int) 764 k = M 764 k := fun k => by
    have q := fA 764 k (by simp [hne]) (by simp [hne]) (by simp [hne]) (by simp [hne]) (by simp [hne]) (by simp [hne])
    unfold cr_B
    split
    · simp only [ab_up_2, hne, Nat.reduceEqDiff, if_false, q]
    · have hv := hGH.v (by clear hne; omega)
      simp only [ab_up_2, hne, Nat.reduceEqDiff, if_false, q]
      rw [if_neg (by clear hne; omega)]
  have k765 : ∀ k, cr_B M N s1 v d (R : Int) 765 k = M 765 k := fun k => by
    have q := fA 765 k (by simp [hne]) (by simp [hne]) (by simp [hne]) (by simp [hne]) (by simp [hne]) (by simp [hne])
    unfold cr_B
    split
    · simp only [ab_up_2, hne, Nat.reduceEqDiff, if_false, q]
    · have hv := hGH.v (by clear hne; omega)
      simp only [ab_up_2, hne, Nat.reduceEqDiff, if_false, q]
      rw [if_neg (by clear hne; omega)]
  have k766 : ∀ k, cr_B M N s1 v d (R : Int) 766 k = M 766 k := fun k => by
    have q := fA 766 k (by simp [hne]) (by simp [hne]) (by simp [hne]) (by simp [hne]) (by simp [hne]) (by simp [hne])
    unfold cr_B
    split
    · simp only [ab_up_2, hne, Nat.reduceEqDiff, if_false, q]
    · have hv := hGH.v (by clear hne; omega)
      simp only [ab_up_2, hne, Nat.reduceEqDiff, if_false, q]
      rw [if_neg (by clear hne; omega)]
  have kp3 : cr_B M N s1 v d (R : Int) p 3 = (R : Int) + 1 := by
    unfold cr_B
    split
    · simp only [ab_up_2, hne, Nat.reduceEqDiff, if_false, bA, hA1]
    · simp only [ab_up_2, hne, Nat.reduceEqDiff, if_false, bA, hA1, ite_self]
  have ks11 : cr_B M N s1 v d (R : Int) s1 11 = M 767 d := by
    unfold cr_B
    split
    · simp only [ab_up_2, hne, Nat.reduceEqDiff, if_false, if_true]
    · simp only [ab_up_2, hne, Nat.reduceEqDiff, if_false, if_true, ite_self]
  have ed1 : ((d : Int) - 1).toNat = d - 1 := by clear hne; omega
  (try simp only [ab_up_2, hne, Nat.reduceEqDiff, if_false, if_true, q2, hd, Int.toNat_natCast, k764, k765, k766, kp3, ks11, ed1, hA1])
  refine And.intro (by
    first
      | exact hwp
      | exact trivial
      | exact ⟨trivial, trivial⟩
      | (clear hne; omega)
      | exact ⟨by clear hne; omega, by clear hne; omega⟩
      | exact ⟨⟨by clear hne; omega, by clear hne; omega⟩, ⟨by clear hne; omega, by clear hne; omega⟩⟩
      | exact ⟨⟨by clear hne; omega, by clear hne; omega⟩, trivial, trivial⟩
      | exact ⟨⟨trivial, trivial⟩, trivial, trivial⟩
      | exact ⟨⟨by clear hne; omega, by clear hne; omega⟩, by clear hne; omega, by clear hne; omega⟩
      | exact ⟨by clear hne; omega, by clear hne; omega, by clear hne; omega⟩
      | (clear hne; split <;> exact ⟨by omega, by omega⟩)
      | (clear hne; split <;> exact ⟨⟨by omega, by omega⟩, trivial, trivial⟩)
      | (clear hne; rw [hr27]; split <;> exact ⟨by omega, by omega⟩)
      | (clear hne
         have hd0 : 0 < d := by omega
         obtain ⟨g1, g2, g3, g4, g5⟩ := hGH.b hd0
         first
           | omega
           | exact ⟨by omega, by omega⟩
           | exact ⟨⟨by omega, by omega⟩, by omega, by omega⟩)) ?_
  refine ⟨?_, ?_⟩
  · intro c120
    refine And.intro (by
      first
        | exact hwp
        | exact trivial
        | exact ⟨trivial, trivial⟩
        | (clear hne; omega)
        | exact ⟨by clear hne; omega, by clear hne; omega⟩
        | exact ⟨⟨by clear hne; omega, by clear hne; omega⟩, ⟨by clear hne; omega, by clear hne; omega⟩⟩
        | exact ⟨⟨by clear hne; omega, by clear hne; omega⟩, trivial, trivial⟩
        | exact ⟨⟨trivial, trivial⟩, trivial, trivial⟩
        | exact ⟨⟨by clear hne; omega, by clear hne; omega⟩, by clear hne; omega, by clear hne; omega⟩
        | exact ⟨by clear hne; omega, by clear hne; omega, by clear hne; omega⟩
        | (clear hne; split <;> exact ⟨by omega, by omega⟩)
        | (clear hne; split <;> exact ⟨⟨by omega, by omega⟩, trivial, trivial⟩)
        | (clear hne; rw [hr27]; split <;> exact ⟨by omega, by omega⟩)
        | (clear hne
           have hd0 : 0 < d := by omega
           obtain ⟨g1, g2, g3, g4, g5⟩ := hGH.b hd0
           first
             | omega
             | exact ⟨by omega, by omega⟩
             | exact ⟨⟨by omega, by omega⟩, by omega, by omega⟩)) ?_
    refine And.intro (by
      first
        | exact hwp
        | exact trivial
        | exact ⟨trivial, trivial⟩
        | (clear hne; omega)
        | exact ⟨by clear hne; omega, by clear hne; omega⟩
        | exact ⟨⟨by clear hne; omega, by clear hne; omega⟩, ⟨by clear hne; omega, by clear hne; omega⟩⟩
        | exact ⟨⟨by clear hne; omega, by clear hne; omega⟩, trivial, trivial⟩
        | exact ⟨⟨trivial, trivial⟩, trivial, trivial⟩
        | exact ⟨⟨by clear hne; omega, by clear hne; omega⟩, by clear hne; omega, by clear hne; omega⟩
        | exact ⟨by clear hne; omega, by clear hne; omega, by clear hne; omega⟩
        | (clear hne; split <;> exact ⟨by omega, by omega⟩)
        | (clear hne; split <;> exact ⟨⟨by omega, by omega⟩, trivial, trivial⟩)
        | (clear hne; rw [hr27]; split <;> exact ⟨by omega, by omega⟩)
        | (clear hne
           have hd0 : 0 < d := by omega
           obtain ⟨g1, g2, g3, g4, g5⟩ := hGH.b hd0
           first
             | omega
             | exact ⟨by omega, by omega⟩
             | exact ⟨⟨by omega, by omega⟩, by omega, by omega⟩)) ?_
    refine And.intro (by
      first
        | exact hwp
        | exact trivial
        | exact ⟨trivial, trivial⟩
        | (clear hne; omega)
        | exact ⟨by clear hne; omega, by clear hne; omega⟩
        | exact ⟨⟨by clear hne; omega, by clear hne; omega⟩, ⟨by clear hne; omega, by clear hne; omega⟩⟩
        | exact ⟨⟨by clear hne; omega, by clear hne; omega⟩, trivial, trivial⟩
        | exact ⟨⟨trivial, trivial⟩, trivial, trivial⟩
        | exact ⟨⟨by clear hne; omega, by clear hne; omega⟩, by clear hne; omega, by clear hne; omega⟩
        | exact ⟨by clear hne; omega, by clear hne; omega, by clear hne; omega⟩
        | (clear hne; split <;> exact ⟨by omega, by omega⟩)
        | (clear hne; split <;> exact ⟨⟨by omega, by omega⟩, trivial, trivial⟩)
        | (clear hne; rw [hr27]; split <;> exact ⟨by omega, by omega⟩)
        | (clear hne
           have hd0 : 0 < d := by omega
           obtain ⟨g1, g2, g3, g4, g5⟩ := hGH.b hd0
           first
             | omega
             | exact ⟨by omega, by omega⟩
             | exact ⟨⟨by omega, by omega⟩, by omega, by omega⟩)) ?_
    refine And.intro (by
      first
        | exact hwp
        | exact trivial
        | exact ⟨trivial, trivial⟩
        | (clear hne; omega)
        | exact ⟨by clear hne; omega, by clear hne; omega⟩
        | exact ⟨⟨by clear hne; omega, by clear hne; omega⟩, ⟨by clear hne; omega, by clear hne; omega⟩⟩
        | exact ⟨⟨by clear hne; omega, by clear hne; omega⟩, trivial, trivial⟩
        | exact ⟨⟨trivial, trivial⟩, trivial, trivial⟩
        | exact ⟨⟨by clear hne; omega, by clear hne; omega⟩, by clear hne; omega, by clear hne; omega⟩
        | exact ⟨by clear hne; omega, by clear hne; omega, by clear hne; omega⟩
        | (clear hne; split <;> exact ⟨by omega, by omega⟩)
        | (clear hne; split <;> exact ⟨⟨by omega, by omega⟩, trivial, trivial⟩)
        | (clear hne; rw [hr27]; split <;> exact ⟨by omega, by omega⟩)
        | (clear hne
           have hd0 : 0 < d := by omega
           obtain ⟨g1, g2, g3, g4, g5⟩ := hGH.b hd0
           first
             | omega
             | exact ⟨by omega, by omega⟩
             | exact ⟨⟨by omega, by omega⟩, by omega, by omega⟩)) ?_
    intro o171 hr171
    have hd0 : 0 < d := by clear hne; omega
    obtain ⟨g1, g2, g3, g4, g5⟩ := hGH.b hd0
    have e171 : o171 = w := by
      clear hne
      rw [hr171, if_pos ⟨by omega, by omega⟩, g3]
    subst e171
    have hn2 := cr_neq2 hA3 g3 (by clear hne; omega)
    (try simp only [ab_up_2, hne, Nat.reduceEqDiff, if_false, if_true, q2, hd, Int.toNat_natCast, k764, k765, k766, ks11, hn2, g4, ed1, hA1])
    clear hn2
    refine And.intro (by
      first
        | exact hwp
        | exact trivial
        | exact ⟨trivial, trivial⟩
        | (clear hne; omega)
        | exact ⟨by clear hne; omega, by clear hne; omega⟩
        | exact ⟨⟨by clear hne; omega, by clear hne; omega⟩, ⟨by clear hne; omega, by clear hne; omega⟩⟩
        | exact ⟨⟨by clear hne; omega, by clear hne; omega⟩, trivial, trivial⟩
        | exact ⟨⟨trivial, trivial⟩, trivial, trivial⟩
        | exact ⟨⟨by clear hne; omega, by clear hne; omega⟩, by clear hne; omega, by clear hne; omega⟩
        | exact ⟨by clear hne; omega, by clear hne; omega, by clear hne; omega⟩
        | (clear hne; split <;> exact ⟨by omega, by omega⟩)
        | (clear hne; split <;> exact ⟨⟨by omega, by omega⟩, trivial, trivial⟩)
        | (clear hne; rw [hr27]; split <;> exact ⟨by omega, by omega⟩)
        | (clear hne
           have hd0 : 0 < d := by omega
           obtain ⟨g1, g2, g3, g4, g5⟩ := hGH.b hd0
           first
             | omega
             | exact ⟨by omega, by omega⟩
             | exact ⟨⟨by omega, by omega⟩, by omega, by omega⟩)) ?_
    refine And.intro (by
      first
        | exact hwp
        | exact trivial
        | exact ⟨trivial, trivial⟩
        | (clear hne; omega)
        | exact ⟨by clear hne; omega, by clear hne; omega⟩
        | exact ⟨⟨by clear hne; omega, by clear hne; omega⟩, ⟨by clear hne; omega, by clear hne; omega⟩⟩
        | exact ⟨⟨by clear hne; omega, by clear hne; omega⟩, trivial, trivial⟩
        | exact ⟨⟨trivial, trivial⟩, trivial, trivial⟩
        | exact ⟨⟨by clear hne; omega, by clear hne; omega⟩, by clear hne; omega, by clear hne; omega⟩
        | exact ⟨by clear hne; omega, by clear hne; omega, by clear hne; omega⟩
        | (clear hne; split <;> exact ⟨by omega, by omega⟩)
        | (clear hne; split <;> exact ⟨⟨by omega, by omega⟩, trivial, trivial⟩)
        | (clear hne; rw [hr27]; split <;> exact ⟨by omega, by omega⟩)
        | (clear hne
           have hd0 : 0 < d := by omega
           obtain ⟨g1, g2, g3, g4, g5⟩ := hGH.b hd0
           first
             | omega
             | exact ⟨by omega, by omega⟩
             | exact ⟨⟨by omega, by omega⟩, by omega, by omega⟩)) ?_
    refine ⟨?_, ?_⟩
    · intro c189
      refine gK _ _ trivial (fun p'' s'' R'' v'' w'' d'' sd'' had'' => ?_)
      obtain ⟨u1, u2, u3, u4, u5, u6⟩ := cr_adp_uq had had''
      subst u1
      subst u2
      subst u3
      subst u4
      refine ⟨rfl, N, hA, ?_⟩
      have hBv : cr_B M N s1 v'' d (R : Int) = cr_B M N s1 v d (R : Int) := by
        unfold cr_B
        split
        · rfl
        · first
            | rfl
            | (rw [u5 (by clear hne; omega)])
      rw [hBv]
      clear hne
      unfold cr_C
      obtain ⟨y1, y2⟩ := u6 hd0
      subst y1
      subst y2
      first
        | (rw [if_neg (by omega), if_pos (by omega)]; done)
        | (rw [if_neg (by omega), if_neg (by omega)]; done)
    · intro c189
      refine And.intro (by
        first
          | exact hwp
          | exact trivial
          | exact ⟨trivial, trivial⟩
          | (clear hne; omega)
          | exact ⟨by clear hne; omega, by clear hne; omega⟩
          | exact ⟨⟨by clear hne; omega, by clear hne; omega⟩, ⟨by clear hne; omega, by clear hne; omega⟩⟩
          | exact ⟨⟨by clear hne; omega, by clear hne; omega⟩, trivial, trivial⟩
          | exact ⟨⟨trivial, trivial⟩, trivial, trivial⟩
          | exact ⟨⟨by clear hne; omega, by clear hne; omega⟩, by clear hne; omega, by clear hne; omega⟩
          | exact ⟨by clear hne; omega, by clear hne; omega, by clear hne; omega⟩
          | (clear hne; split <;> exact ⟨by omega, by omega⟩)
          | (clear hne; split <;> exact ⟨⟨by omega, by omega⟩, trivial, trivial⟩)
          | (clear hne; rw [hr27]; split <;> exact ⟨by omega, by omega⟩)
          | (clear hne
             have hd0 : 0 < d := by omega
             obtain ⟨g1, g2, g3, g4, g5⟩ := hGH.b hd0
             first
               | omega
               | exact ⟨by omega, by omega⟩
               | exact ⟨⟨by omega, by omega⟩, by omega, by omega⟩)) ?_
      refine gK _ _ trivial (fun p'' s'' R'' v'' w'' d'' sd'' had'' => ?_)
      obtain ⟨u1, u2, u3, u4, u5, u6⟩ := cr_adp_uq had had''
      subst u1
      subst u2
      subst u3
      subst u4
      refine ⟨rfl, N, hA, ?_⟩
      have hBv : cr_B M N s1 v'' d (R : Int) = cr_B M N s1 v d (R : Int) := by
        unfold cr_B
        split
        · rfl
        · first
            | rfl
            | (rw [u5 (by clear hne; omega)])
      rw [hBv]
      clear hne
      unfold cr_C
      obtain ⟨y1, y2⟩ := u6 hd0
      subst y1
      subst y2
      first
        | (rw [if_neg (by omega), if_pos (by omega)]; done)
        | (rw [if_neg (by omega), if_neg (by omega)]; done)
  · intro c120
    refine And.intro (by
      first
        | exact hwp
        | exact trivial
        | exact ⟨trivial, trivial⟩
        | (clear hne; omega)
        | exact ⟨by clear hne; omega, by clear hne; omega⟩
        | exact ⟨⟨by clear hne; omega, by clear hne; omega⟩, ⟨by clear hne; omega, by clear hne; omega⟩⟩
        | exact ⟨⟨by clear hne; omega, by clear hne; omega⟩, trivial, trivial⟩
        | exact ⟨⟨trivial, trivial⟩, trivial, trivial⟩
        | exact ⟨⟨by clear hne; omega, by clear hne; omega⟩, by clear hne; omega, by clear hne; omega⟩
        | exact ⟨by clear hne; omega, by clear hne; omega, by clear hne; omega⟩
        | (clear hne; split <;> exact ⟨by omega, by omega⟩)
        | (clear hne; split <;> exact ⟨⟨by omega, by omega⟩, trivial, trivial⟩)
        | (clear hne; rw [hr27]; split <;> exact ⟨by omega, by omega⟩)
        | (clear hne
           have hd0 : 0 < d := by omega
           obtain ⟨g1, g2, g3, g4, g5⟩ := hGH.b hd0
           first
             | omega
             | exact ⟨by omega, by omega⟩
             | exact ⟨⟨by omega, by omega⟩, by omega, by omega⟩)) ?_
    refine gK _ _ trivial (fun p'' s'' R'' v'' w'' d'' sd'' had'' => ?_)
    obtain ⟨u1, u2, u3, u4, u5, u6⟩ := cr_adp_uq had had''
    subst u1
    subst u2
    subst u3
    subst u4
    refine ⟨rfl, N, hA, ?_⟩
    have hBv : cr_B M N s1 v'' d (R : Int) = cr_B M N s1 v d (R : Int) := by
      unfold cr_B
      split
      · rfl
      · first
          | rfl
          | (rw [u5 (by clear hne; omega)])
    rw [hBv]
    clear hne
    unfold cr_C
    rw [if_pos (by omega)]

set_option maxRecDepth 20000 in
set_option maxHeartbeats 1000000 in
theorem ok_X2_addStatement (E : ab_E) : ab_Ok E 3 33 S_X2_addStatement := by
  refine ab_mk rq_X2_addStatement tk_X2_addStatement (rt := 4) (⟨_, rfl⟩) (cuts := [65, 116]) (G := [(16, S_X1_at), (32, S_X2_addChecks), (57, S_X4_reset), (96, S_X8_isVariable)]) (List.forall_mem_cons.mpr ⟨⟨1, by decide, ok_X1_at E⟩, List.forall_mem_cons.mpr ⟨⟨2, by decide, ok_X2_addChecks E⟩, List.forall_mem_cons.mpr ⟨⟨1, by decide, ok_X4_reset E⟩, List.forall_mem_cons.mpr ⟨⟨1, by decide, ok_X8_isVariable E⟩, fun _ h => absurd h List.not_mem_nil⟩⟩⟩⟩) (by decide) 159 rfl ?_
  intro a M K wd wa hS
  unfold S_X2_addStatement at hS
  split at hS
  ·
    rename_i row
    refine ⟨Nat.le_of_ble_eq_true rfl, fun pc n L st M1 => match pc, L, st with
      | 65, [.inr (.inr (.inr (764, 2, 0))), .inr (.inl ro), .inr (.inr (.inr (s1, 4, 0))), u4_], [] => (n = 2 ∧ ro = row ∧ ∃ p R v w d sd, cr_adp M p s1 R v w d sd ∧ cr_A1 p s1 M M1)
      | 116, [.inr (.inr (.inr (764, 2, 0))), .inr (.inl ro), .inr (.inr (.inr (s1, 4, 0))), u4_], [] => (n = 1 ∧ ro = row ∧ ∃ p R v w d sd, cr_adp M p s1 R v w d sd ∧ ∃ N, cr_A15 p s1 M N ∧ M1 = cr_B M N s1 v d (R : Int))
      | _, _, _ => False, ?_, ?_⟩
    · exact vc_X2_addStatement_0 row M K  hS
    · intro pc n L st M1 hI wd1 wL wst
      (try dsimp only at hI)
      split at hI
      ·
        rename_i ro s1 u4_
        exact vc_X2_addStatement_65 row M K  hS n ro s1 _ hI
      ·
        rename_i ro s1 u4_
        exact vc_X2_addStatement_116 row M K  hS n ro s1 _ hI
      · exact hI.elim
  · exact hS.elim
