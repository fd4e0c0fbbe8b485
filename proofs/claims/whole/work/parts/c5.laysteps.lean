/-! what writing an event's rows keeps -/
def la_s (c : Int) (A B : ab_M) : Prop := (∀ o j : Nat, ¬ (o = 797 ∧ j = 33) → ¬ (817 ≤ o ∧ o ≤ 824) → B o j = A o j) ∧ (A 797 33 ≤ B 797 33 ∧ B 797 33 ≤ A 797 33 + c) ∧ (em_G A → em_G B)
theorem la_s.tr {a b c : Int} {A B C : ab_M} (h : la_s a A B) (h' : la_s b B C) (hc : a + b ≤ c) : la_s c A C := ⟨fun o j x y => (h'.1 o j x y).trans (h.1 o j x y), ⟨by have := h.2.1.1; have := h'.2.1.1; omega, by have := h.2.1.2; have := h'.2.1.2; omega⟩, fun g => h'.2.2 (h.2.2 g)⟩
theorem la_s.rf {c : Int} (A : ab_M) (hc : 0 ≤ c) : la_s c A A := ⟨fun _ _ _ _ => rfl, ⟨Int.le_refl _, by omega⟩, fun g => g⟩
theorem em_P.s {M M' : ab_M} {op q nn : Int} {w : List Int} (h : em_P M M' op q nn w) : la_s 1 M M' := by
  obtain ⟨f, g⟩ := h.F
  refine ⟨fun o j x y => f o j x (by omega), by omega, fun ⟨g1, g2, g3⟩ => ⟨fun j => ?_, fun j => ?_, h.i8 g3⟩⟩
  · rw [f 823 j (by omega) (by omega)]; exact g1 j
  · rw [f 824 j (by omega) (by omega)]; exact g2 j
theorem em_L.s : ∀ {xs : List em_I} {M M' : ab_M}, em_L xs M M' → la_s ((xs.length : Nat) : Int) M M'
  | [], M, M', h => by
    have h : M' = M := h
    rw [h]
    exact la_s.rf _ (by omega)
  | x :: xs, M, M', ⟨A, h1, h2⟩ => h1.s.tr (em_L.s h2) (by rw [List.length_cons]; omega)
theorem la_s.u10 (M : ab_M) (e : Nat) {v : Int} (h : 0 ≤ v ∧ v < 256) : la_s 0 M (ab_up M 823 e v) := by
  refine ⟨fun o j x y => up_ne (by omega), ?_, fun ⟨g1, g2, g3⟩ => ⟨fun j => ?_, fun j => ?_, fun j => ?_⟩⟩
  · rw [ab_up_o (by decide)]; omega
  · by_cases c : j = e
    · rw [c, ab_up_s]; exact h
    · rw [up_ne (by omega)]; exact g1 j
  · rw [up_ne (by omega)]; exact g2 j
  · rw [up_ne (by omega)]; exact g3 j
theorem la_s.u11 (M : ab_M) (e : Nat) {v : Int} (h : 0 ≤ v ∧ v < 256) : la_s 0 M (ab_up M 824 e v) := by
  refine ⟨fun o j x y => up_ne (by omega), ?_, fun ⟨g1, g2, g3⟩ => ⟨fun j => ?_, fun j => ?_, fun j => ?_⟩⟩
  · rw [ab_up_o (by decide)]; omega
  · rw [up_ne (by omega)]; exact g1 j
  · by_cases c : j = e
    · rw [c, ab_up_s]; exact h
    · rw [up_ne (by omega)]; exact g2 j
  · rw [up_ne (by omega)]; exact g3 j
theorem la_s.u8 (M : ab_M) (e : Nat) {v : Int} (h : ab_ir v) : la_s 0 M (ab_up M 821 e v) := by
  refine ⟨fun o j x y => up_ne (by omega), ?_, fun ⟨g1, g2, g3⟩ => ⟨fun j => ?_, fun j => ?_, fun j => ?_⟩⟩
  · rw [ab_up_o (by decide)]; omega
  · rw [up_ne (by omega)]; exact g1 j
  · rw [up_ne (by omega)]; exact g2 j
  · by_cases c : j = e
    · rw [c, ab_up_s]; exact h
    · rw [up_ne (by omega)]; exact g3 j
theorem la_s.u7 (M : ab_M) (e : Nat) (v : Int) : la_s 0 M (ab_up M 820 e v) := by
  refine ⟨fun o j x y => up_ne (by omega), ?_, fun ⟨g1, g2, g3⟩ => ⟨fun j => ?_, fun j => ?_, fun j => ?_⟩⟩
  · rw [ab_up_o (by decide)]; omega
  · rw [up_ne (by omega)]; exact g1 j
  · rw [up_ne (by omega)]; exact g2 j
  · rw [up_ne (by omega)]; exact g3 j
/-- how many rows an event needs at most -/
def la_k (M : ab_M) (e : Nat) : Int := if M 805 e = 7 then 7 else if M 805 e = 5 then 3 else if M 805 e = 9 ∨ M 805 e = 8 then 0 else if M 805 e = 10 then (if M 806 e = 2 then 2 else if M 806 e = 0 ∨ M 806 e = 3 then 1 else 0) else 1
def la_c (M : ab_M) : Nat → Int
  | 0 => 0
  | i + 1 => la_c M i + la_k M i
theorem la_k_0 (M : ab_M) (e : Nat) : 0 ≤ la_k M e := by
  unfold la_k
  repeat' split
  all_goals omega
theorem la_c_le (M : ab_M) {i j : Nat} (h : i ≤ j) : la_c M i ≤ la_c M j := by
  induction j with
  | zero => rw [show i = 0 by omega]; exact Int.le_refl _
  | succ j ih =>
    by_cases e : i = j + 1
    · rw [e]; exact Int.le_refl _
    · have := ih (by omega)
      have := la_k_0 M j
      show la_c M i ≤ la_c M j + la_k M j
      omega
theorem tr_a_ir2 {M : ab_M} : ∀ n : Nat, (∀ k, k < n → ab_ir (M 812 (M 815 k).toNat)) → ab_ir (tr_a M n)
  | 0, _ => by
    show ab_ir (-9)
    exact ⟨by decide, by decide⟩
  | n + 1, h => by
    show ab_ir (if _ then _ else tr_a M n)
    split
    · exact h _ (by omega)
    · exact tr_a_ir2 n fun k hk => h k (by omega)
theorem em_l.s {M M' : ab_M} {e : Nat} {md : Int} {W1 W2 : Nat → List Int} (h : em_l M M' e md W1 W2) (h0 : 0 ≤ M 797 33 ∧ M 797 33 ≤ 249) : la_s 7 M M' := by
  by_cases c : md = 1
  · obtain ⟨a, M1, -, h2, h3⟩ := h.1 c
    have s1 := h2.s
    have hl : (((2, M 811 e, M 810 e, W2 e) :: em_h a 4) ++ [((3 : Int), (0 : Int), M 810 e, W2 e)]).length ≤ 6 := by
      rw [List.length_append, List.length_cons]
      have := em_h_len a 4
      show _ + 1 + 1 ≤ 6
      omega
    have hs1 := s1.2.1
    exact s1.tr ((la_s.u10 M1 e (by omega)).tr h3.s (c := 1) (by omega)) (by omega)
  · exact (la_s.u10 M e (by omega)).tr (h.2 c).s (by omega)
theorem em_c.s {M M' : ab_M} {e : Nat} {md : Int} {W1 W2 : Nat → List Int} (h : em_c M M' e md W1 W2) (h0 : 0 ≤ M 797 33 ∧ M 797 33 ≤ 249) (h10 : M 805 e = 10) (hw : 0 ≤ M 806 e ∧ M 806 e ≤ 4) : la_s (la_k M e) (ab_up M 797 27 (M 797 27 - 1)) M' := by
  obtain ⟨c0, c3, c2, c1⟩ := h
  have hb : la_s 0 (ab_up M 797 27 (M 797 27 - 1)) (em_b M e) := la_s.u11 _ _ ⟨h0.1, by omega⟩
  have hk : la_k M e = if M 806 e = 2 then 2 else if M 806 e = 0 ∨ M 806 e = 3 then 1 else 0 := by
    unfold la_k
    rw [if_neg (by omega), if_neg (by omega), if_neg (by omega), if_pos h10]
  rw [hk]
  by_cases z0 : M 806 e = 0
  · obtain ⟨M2, h1, h2⟩ := c0 z0
    rw [h2, if_neg (by omega), if_pos (Or.inl z0)]
    exact hb.tr (h1.s.tr (la_s.u7 _ _ _) (c := 1) (by omega)) (by omega)
  · by_cases z3 : M 806 e = 3
    · obtain ⟨M2, h1, h2⟩ := c3 z3
      rw [if_neg (by omega), if_pos (Or.inr z3)]
      have h3 : la_s 0 M2 M' := by
        have f : ∀ o k : Nat, o ≠ 820 → M' o k = M2 o k := fun o k x => by rw [h2, if_neg (fun y => x y.1)]
        refine ⟨fun o j _ y => f o j (by omega), by rw [f _ _ (by decide)]; omega, fun ⟨g1, g2, g3⟩ => ⟨fun j => ?_, fun j => ?_, fun j => ?_⟩⟩
        · rw [f _ _ (by decide)]; exact g1 j
        · rw [f _ _ (by decide)]; exact g2 j
        · rw [f _ _ (by decide)]; exact g3 j
      exact hb.tr (h1.s.tr h3 (c := 1) (by omega)) (by omega)
    · by_cases z2 : M 806 e = 2
      · rw [if_pos z2]
        obtain ⟨d1, d2⟩ := c2 z2
        by_cases m : md = 1
        · obtain ⟨M2, h1, h2⟩ := d1 m
          rw [h2]
          have hs := h1.s
          rw [show ((([(2, M 811 (M 812 e).toNat + 1, M 810 (M 812 e).toNat, W2 (M 812 e).toNat), (6, 0, 0, [])] : List em_I).length : Nat) : Int) = 2 from rfl] at hs
          exact hb.tr (hs.tr (la_s.u7 _ _ _) (c := 2) (by omega)) (by omega)
        · obtain ⟨M2, h1, h2⟩ := d2 m
          rw [h2]
          exact hb.tr (h1.s.tr ((la_s.u7 _ _ _).tr (la_s.u7 _ _ _) (c := 0) (by omega)) (c := 1) (by omega)) (by omega)
      · rw [c1 (by omega), if_neg z2, if_neg (fun y => y.elim z0 z3)]
        exact la_s.u7 _ _ _
theorem em_e.s {M M' : ab_M} {e : Nat} {md : Int} {W1 W2 : Nat → List Int} (h : em_e M M' e md W1 W2) (h0 : 0 ≤ M 797 33 ∧ M 797 33 ≤ 249) (hr : 0 ≤ M 805 e ∧ M 805 e ≤ 10) (hw : M 805 e = 10 → 0 ≤ M 806 e ∧ M 806 e ≤ 4) (ht : ab_ir (tr_a M (M 797 27).toNat)) :
    (M 805 e = 10 → la_s (la_k M e) (ab_up M 797 27 (M 797 27 - 1)) M') ∧ (M 805 e ≤ 8 → la_s (la_k M e) M M') := by
  obtain ⟨e0, e1, e2, e3, e4, e5, e6, e7, e8, e9, e10⟩ := h
  refine ⟨fun q => (e10 q).s h0 q (hw q), fun q => ?_⟩
  have k1 : ¬ M 805 e = 7 → ¬ M 805 e = 5 → ¬ M 805 e = 8 → la_k M e = 1 := fun a b c => by
    unfold la_k
    rw [if_neg a, if_neg b, if_neg (by omega), if_neg (by omega)]
  by_cases z0 : M 805 e = 0
  · rw [k1 (by omega) (by omega) (by omega)]; exact (e0 z0).s
  · by_cases z1 : M 805 e = 1
    · rw [k1 (by omega) (by omega) (by omega)]; exact (e1 z1).s
    · by_cases z2 : M 805 e = 2
      · rw [k1 (by omega) (by omega) (by omega)]; exact (e2 z2).s
      · by_cases z3 : M 805 e = 3
        · rw [k1 (by omega) (by omega) (by omega)]; exact (e3 z3).s
        · by_cases z4 : M 805 e = 4
          · rw [k1 (by omega) (by omega) (by omega)]
            obtain ⟨M1, h1, h2⟩ := e4 z4
            rw [h2]
            exact h1.s.tr ((la_s.u8 _ _ ht).tr (la_s.u7 _ _ _) (c := 0) (by omega)) (by omega)
          · by_cases z5 : M 805 e = 5
            · have hk : la_k M e = 3 := by
                unfold la_k
                rw [if_neg (by omega), if_pos z5]
              rw [hk]
              exact (e5 z5).s
            · by_cases z6 : M 805 e = 6
              · rw [k1 (by omega) (by omega) (by omega)]
                exact (la_s.u10 _ _ ⟨h0.1, by omega⟩).tr (e6 z6).s (by omega)
              · by_cases z7 : M 805 e = 7
                · have hk : la_k M e = 7 := by
                    unfold la_k
                    rw [if_pos z7]
                  rw [hk]
                  exact (e7 z7).s h0
                · rw [e8 (by omega)]
                  exact la_s.rf _ (la_k_0 _ _)
