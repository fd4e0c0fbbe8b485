/-! the reference passes its events, pure -/
/-- open blocks and throws before an event -/
def ev_dm (M : ab_M) : Nat → Int
  | 0 => 0
  | i + 1 => ev_dm M i + (if M 805 i = 9 then 1 else if M 805 i = 10 then -1 else 0)
def ev_tm (M : ab_M) : Nat → Int
  | 0 => 0
  | i + 1 => ev_tm M i + (if M 805 i = 4 then 1 else 0)
/-- what the events of a program are like -/
def ev_A (M : ab_M) : Prop := (0 ≤ M 797 10 ∧ M 797 10 ≤ 400) ∧ (∀ i : Nat, (i : Int) < M 797 10 → (0 ≤ M 805 i ∧ M 805 i ≤ 10) ∧ (0 ≤ M 806 i ∧ M 806 i ≤ 4) ∧ ((M 805 i = 0 ∨ M 805 i = 1 ∨ M 805 i = 5) → M 806 i ≤ 3) ∧ (9 ≤ M 805 i → 0 ≤ M 812 i ∧ M 812 i < (i : Int)) ∧ (M 805 i ≤ 8 → (0 ≤ M 808 i ∧ M 808 i ≤ 640) ∧ (0 ≤ M 810 i ∧ M 810 i ≤ 640)) ∧ (M 805 i = 7 → ∃ ce : Nat, i < ce ∧ (ce : Int) < M 797 10 ∧ M 805 ce = 10 ∧ M 812 ce = (i : Int))) ∧
  (∀ i : Nat, (i : Int) ≤ M 797 10 → 0 ≤ ev_dm M i ∧ ev_dm M i ≤ 120) ∧ ev_tm M (M 797 10).toNat ≤ 129
theorem ev_tm_le (M : ab_M) : ∀ {i j : Nat}, i ≤ j → ev_tm M i ≤ ev_tm M j := by
  intro i j h
  induction j with
  | zero => rw [show i = 0 by omega]; exact Int.le_refl _
  | succ j ih =>
    by_cases e : i = j + 1
    · rw [e]; exact Int.le_refl _
    · refine Int.le_trans (ih (by omega)) ?_
      show ev_tm M j ≤ ev_tm M j + _
      split <;> omega
theorem ev_tm_0 (M : ab_M) (i : Nat) : 0 ≤ ev_tm M i := ev_tm_le M (Nat.zero_le i)
/-- what holds before an event -/
def pa_S (M : ab_M) (e : Nat) : Prop := (M 797 27 = ev_dm M e ∧ ∀ k : Nat, (k : Int) < M 797 27 → 0 ≤ M 815 k ∧ M 815 k < (e : Int)) ∧ (0 ≤ M 797 66 ∧ M 797 66 ≤ ev_tm M e) ∧ (M 797 57 = 0 ∨ M 797 57 = 1) ∧ (∀ i, M 838 i = 0 ∨ M 838 i = 1) ∧ (∀ i, M 839 i = 0 ∨ M 839 i = 1) ∧ (∀ v, v < 4 → 0 ≤ M 835 v ∧ M 835 v ≤ (e : Int)) ∧ (∀ j, (-9 ≤ M 834 j ∧ M 834 j ≤ 1000) ∧ (-9 ≤ M 836 j ∧ M 836 j ≤ 1000) ∧ (-9 ≤ M 837 j ∧ M 837 j ≤ 1000) ∧ (-9 ≤ M 840 j ∧ M 840 j ≤ 1000)) ∧ ∀ j, ab_ir (M 841 j)
/-- which variables a loop's block sets -/
def pa_any (M : ab_M) (e : Nat) (a : Int) : Prop := ∃ n : Nat, a = an_s M (e + 1) n ∧ e + 1 + n < 400 ∧ (M 805 (e + 1 + n) = 10 ∧ M 812 (e + 1 + n) = (e : Int)) ∧ ∀ j : Nat, j < n → ¬ (M 805 (e + 1 + j) = 10 ∧ M 812 (e + 1 + j) = (e : Int))
def pS_x (M : ab_M) (e : Nat) : Int := M 797 59 + (1 + M 808 e + (if M 805 e = 7 then 3 else 1) * M 810 e)
def pS_t (M : ab_M) (e : Nat) : Prop := M 805 e = 4 ∧ tr_a M (M 797 27).toNat ≠ -9
/-- a statement is passed -/
def pS (M M' : ab_M) (e : Nat) : Prop := ∃ S : Nat → Bool, ((M 805 e = 0 ∨ M 805 e = 1 ∨ M 805 e = 5) → ∀ v, S v = decide ((v : Int) = M 806 e)) ∧ (M 805 e = 7 → ∃ a, pa_any M e a ∧ ∀ v, S v = pz_b a v) ∧ (¬ (M 805 e = 0 ∨ M 805 e = 1 ∨ M 805 e = 5 ∨ M 805 e = 7) → ∀ v, S v = false) ∧
  (∀ v, v < 4 → M' 835 v = M 835 v + (if S v = true then 1 else 0)) ∧ (∀ v, v < 4 → M' 834 v = if S v = true then M 835 v + 1 else M 834 v) ∧ (∀ v, v < 4 → M' 836 (4 * e + v) = M' 834 v) ∧
  M' 797 59 = pS_x M e ∧ M' 797 57 = (if M 805 e = 4 then 0 else M 797 57) ∧
  (pS_t M e → M' 797 66 = M 797 66 + 1 ∧ M' 841 (M 797 66).toNat = tr_a M (M 797 27).toNat ∧ ∀ v, v < 4 → M' 840 (4 * (M 797 66).toNat + v) = M 834 v) ∧ (¬ pS_t M e → M' 797 66 = M 797 66) ∧
  ∀ o k : Nat, ¬ (o = 797 ∧ (k = 57 ∨ k = 59 ∨ k = 66)) → ¬ (o = 834 ∧ k < 4) → ¬ (o = 835 ∧ k < 4) → ¬ (o = 836 ∧ 4 * e ≤ k ∧ k < 4 * e + 4) → ¬ (pS_t M e ∧ (o = 841 ∧ k = (M 797 66).toNat ∨ o = 840 ∧ 4 * (M 797 66).toNat ≤ k ∧ k < 4 * (M 797 66).toNat + 4)) → M' o k = M o k
/-- before the versions are kept -/
def pS0 (M Ma : ab_M) (e : Nat) : Prop := ∃ S : Nat → Bool, ((M 805 e = 0 ∨ M 805 e = 1 ∨ M 805 e = 5) → ∀ v, S v = decide ((v : Int) = M 806 e)) ∧ (M 805 e = 7 → ∃ a, pa_any M e a ∧ ∀ v, S v = pz_b a v) ∧ (¬ (M 805 e = 0 ∨ M 805 e = 1 ∨ M 805 e = 5 ∨ M 805 e = 7) → ∀ v, S v = false) ∧
  (∀ v, v < 4 → Ma 835 v = M 835 v + (if S v = true then 1 else 0)) ∧ (∀ v, v < 4 → Ma 834 v = if S v = true then M 835 v + 1 else M 834 v) ∧
  Ma 797 59 = pS_x M e ∧ Ma 797 57 = (if M 805 e = 4 then 0 else M 797 57) ∧
  (pS_t M e → Ma 797 66 = M 797 66 + 1 ∧ Ma 841 (M 797 66).toNat = tr_a M (M 797 27).toNat ∧ ∀ v, v < 4 → Ma 840 (4 * (M 797 66).toNat + v) = M 834 v) ∧ (¬ pS_t M e → Ma 797 66 = M 797 66) ∧
  ∀ o k : Nat, ¬ (o = 797 ∧ (k = 57 ∨ k = 59 ∨ k = 66)) → ¬ (o = 834 ∧ k < 4) → ¬ (o = 835 ∧ k < 4) → ¬ (pS_t M e ∧ (o = 841 ∧ k = (M 797 66).toNat ∨ o = 840 ∧ 4 * (M 797 66).toNat ≤ k ∧ k < 4 * (M 797 66).toNat + 4)) → Ma o k = M o k
theorem pS0.kept {M Ma M' : ab_M} {e : Nat} (h : pS0 M Ma e) (hk : ∀ o' k' : Nat, M' o' k' = if o' = 836 ∧ 4 * e ≤ k' ∧ k' < 4 * e + 4 then Ma 834 (k' - 4 * e) else Ma o' k') : pS M M' e := by
  obtain ⟨S, a1, a2, a3, b1, b2, c1, c2, d1, d2, f⟩ := h
  have hne : ∀ o k : Nat, o ≠ 836 → M' o k = Ma o k := fun o k q => by rw [hk, if_neg (fun z => q z.1)]
  refine ⟨S, a1, a2, a3, fun v hv => ?_, fun v hv => ?_, fun v hv => ?_, ?_, ?_, fun q => ?_, fun q => ?_, fun o k q1 q2 q3 q4 q5 => ?_⟩
  · rw [hne _ _ (by decide)]; exact b1 v hv
  · rw [hne _ _ (by decide)]; exact b2 v hv
  · rw [hk, if_pos ⟨rfl, by omega, by omega⟩, hne 834 v (by decide), show 4 * e + v - 4 * e = v by omega]
  · rw [hne _ _ (by decide)]; exact c1
  · rw [hne _ _ (by decide)]; exact c2
  · obtain ⟨y1, y2, y3⟩ := d1 q
    refine ⟨by rw [hne _ _ (by decide)]; exact y1, by rw [hne _ _ (by decide)]; exact y2, fun v hv => by rw [hne _ _ (by decide)]; exact y3 v hv⟩
  · rw [hne _ _ (by decide)]; exact d2 q
  · rw [hk, if_neg q4]
    exact f o k q1 q2 q3 q5
/-- a single variable is renewed -/
theorem pS0.one {M Ma : ab_M} {e : Nat} {x v0 : Int} (hs : M 805 e = 0 ∨ M 805 e = 1 ∨ M 805 e = 5) (hx : x = pS_x M e) (hv : M 806 e = v0) (h0 : 0 ≤ v0 ∧ v0 ≤ 3) (h : Ma = ab_up (ab_up (ab_up M 797 59 x) 835 v0.toNat (ab_up M 797 59 x 835 v0.toNat + 1)) 834 v0.toNat (ab_up M 797 59 x 835 v0.toNat + 1)) : pS0 M Ma e := by
  have e0 : ab_up M 797 59 x 835 v0.toNat = M 835 v0.toNat := ab_up_o (by decide) _
  rw [e0] at h
  subst h
  refine ⟨fun v => decide ((v : Int) = M 806 e), fun _ _ => rfl, fun q => absurd q (by omega), fun q => absurd hs (by omega), fun v hv4 => ?_, fun v hv4 => ?_, ?_, ?_, fun q => absurd q.1 (by omega), fun _ => ?_, fun o k q1 q2 q3 _ => ?_⟩
  · rw [ab_up_o (by decide)]
    by_cases c : v = v0.toNat
    · rw [c, ab_up_s, if_pos (decide_eq_true (by omega))]
    · rw [ab_up_k c, ab_up_o (by decide), if_neg (by rw [decide_eq_true_iff]; omega)]
      omega
  · by_cases c : v = v0.toNat
    · rw [c, ab_up_s, if_pos (decide_eq_true (by omega))]
    · rw [ab_up_k c, ab_up_o (by decide), ab_up_o (by decide), if_neg (by rw [decide_eq_true_iff]; omega)]
  · rw [ab_up_o (by decide), ab_up_o (by decide), ab_up_s]; exact hx
  · rw [ab_up_o (by decide), ab_up_o (by decide), ab_up_k (by decide), if_neg (by omega)]
  · rw [ab_up_o (by decide), ab_up_o (by decide), ab_up_k (by decide)]
  · rw [up_ne (fun z => q2 ⟨z.1, by omega⟩), up_ne (fun z => q3 ⟨z.1, by omega⟩), up_ne (fun z => q1 ⟨z.1, by omega⟩)]
/-- nothing but the size -/
theorem pS0.none {M Ma : ab_M} {e : Nat} {x : Int} (hs : ¬ (M 805 e = 0 ∨ M 805 e = 1 ∨ M 805 e = 5 ∨ M 805 e = 7 ∨ M 805 e = 4)) (hx : x = pS_x M e) (h : Ma = ab_up M 797 59 x) : pS0 M Ma e := by
  subst h
  refine ⟨fun _ => false, fun q => absurd q (by omega), fun q => absurd q (by omega), fun _ _ => rfl, fun v _ => ?_, fun v _ => ?_, ?_, ?_, fun q => absurd q.1 (by omega), fun _ => ?_, fun o k q1 q2 q3 _ => ?_⟩
  · rw [ab_up_o (by decide)]; simp
  · rw [ab_up_o (by decide)]; simp
  · rw [ab_up_s]; exact hx
  · rw [ab_up_k (by decide), if_neg (by omega)]
  · rw [ab_up_k (by decide)]
  · rw [up_ne (fun z => q1 ⟨z.1, by omega⟩)]
theorem pS0.thr0 {M Ma : ab_M} {e : Nat} {x : Int} (hs : M 805 e = 4) (ht : tr_a M (M 797 27).toNat = -9) (hx : x = pS_x M e) (h : Ma = ab_up (ab_up M 797 59 x) 797 57 0) : pS0 M Ma e := by
  subst h
  refine ⟨fun _ => false, fun q => absurd q (by omega), fun q => absurd q (by omega), fun _ _ => rfl, fun v _ => ?_, fun v _ => ?_, ?_, ?_, fun q => absurd ht q.2, fun _ => ?_, fun o k q1 q2 q3 _ => ?_⟩
  · rw [ab_up_o (by decide), ab_up_o (by decide)]; simp
  · rw [ab_up_o (by decide), ab_up_o (by decide)]; simp
  · rw [ab_up_k (by decide), ab_up_s]; exact hx
  · rw [ab_up_s, if_pos hs]
  · rw [ab_up_k (by decide), ab_up_k (by decide)]
  · rw [up_ne (fun z => q1 ⟨z.1, by omega⟩), up_ne (fun z => q1 ⟨z.1, by omega⟩)]
theorem pS0.thr1 {M Mk Ma : ab_M} {e : Nat} {x : Int} (hs : M 805 e = 4) (ht : tr_a M (M 797 27).toNat ≠ -9) (hx : x = pS_x M e) (h66 : 0 ≤ M 797 66)
    (hk : ∀ o' k' : Nat, Mk o' k' = if o' = 840 ∧ 4 * (M 797 66).toNat ≤ k' ∧ k' < 4 * (M 797 66).toNat + 4 then (ab_up M 797 59 x) 834 (k' - 4 * (M 797 66).toNat) else (ab_up M 797 59 x) o' k')
    (h : Ma = ab_up (ab_up (ab_up Mk 841 (Mk 797 66).toNat (tr_a M (M 797 27).toNat)) 797 66 (Mk 797 66 + 1)) 797 57 0) : pS0 M Ma e := by
  have e66 : Mk 797 66 = M 797 66 := by rw [hk, if_neg (by omega), ab_up_k (by decide)]
  rw [e66] at h
  subst h
  refine ⟨fun _ => false, fun q => absurd q (by omega), fun q => absurd q (by omega), fun _ _ => rfl, fun v _ => ?_, fun v _ => ?_, ?_, ?_, fun q => ⟨?_, ?_, fun v hv => ?_⟩, fun q => absurd ⟨hs, ht⟩ q, fun o k q1 q2 q3 q4 => ?_⟩
  · rw [ab_up_o (by decide), ab_up_o (by decide), ab_up_o (by decide), hk, if_neg (by omega), ab_up_o (by decide)]; simp
  · rw [ab_up_o (by decide), ab_up_o (by decide), ab_up_o (by decide), hk, if_neg (by omega), ab_up_o (by decide)]; simp
  · rw [ab_up_k (by decide), ab_up_k (by decide), ab_up_o (by decide), hk, if_neg (by omega), ab_up_s]; exact hx
  · rw [ab_up_s, if_pos hs]
  · rw [ab_up_k (by decide), ab_up_s]
  · rw [ab_up_o (by decide), ab_up_o (by decide), ab_up_s]
  · rw [ab_up_o (by decide), ab_up_o (by decide), ab_up_o (by decide), hk, if_pos ⟨rfl, by omega, by omega⟩, ab_up_o (by decide)]
    congr 1
    omega
  · have q5 : ¬ (o = 841 ∧ k = (M 797 66).toNat ∨ o = 840 ∧ 4 * (M 797 66).toNat ≤ k ∧ k < 4 * (M 797 66).toNat + 4) := fun z => q4 ⟨⟨hs, ht⟩, z⟩
    rw [up_ne (fun z => q1 ⟨z.1, by omega⟩), up_ne (fun z => q1 ⟨z.1, by omega⟩), up_ne (fun z => q5 (Or.inl z)), hk, if_neg (fun z => q5 (Or.inr z)), up_ne (fun z => q1 ⟨z.1, by omega⟩)]
/-- the variables of a loop, one after another -/
def pL_k (M M1 : ab_M) (e : Nat) (a : Int) (k : Nat) : Prop := (∀ v, v < 4 → M1 835 v = (rn_k (M 835, 0, 0) (M 834) (fun v => pz_b a v) k).1.1 v) ∧ (∀ v, v < 4 → M1 834 v = (rn_k (M 835, 0, 0) (M 834) (fun v => pz_b a v) k).2 v) ∧ M1 797 59 = pS_x M e ∧ ∀ o k : Nat, ¬ (o = 797 ∧ k = 59) → ¬ (o = 834 ∧ k < 4) → ¬ (o = 835 ∧ k < 4) → M1 o k = M o k
theorem pL_k.start {M M1 : ab_M} {e : Nat} {x : Int} (a : Int) (hx : x = pS_x M e) (h : M1 = ab_up M 797 59 x) : pL_k M M1 e a 0 := by
  obtain ⟨z1, z2⟩ := rn_k_0 (M 835, 0, 0) (M 834) (fun v => pz_b a v)
  subst h
  refine ⟨fun v _ => ?_, fun v _ => ?_, ?_, fun o k q1 q2 q3 => ?_⟩
  · rw [ab_up_o (by decide)]; exact (z1 v).symm
  · rw [ab_up_o (by decide)]; exact (z2 v).symm
  · rw [ab_up_s]; exact hx
  · rw [up_ne (fun z => q1 z)]
theorem pL_k.skip {M M1 : ab_M} {e k : Nat} {a : Int} (h : pL_k M M1 e a k) (hS : ¬ pz_b a k = true) : pL_k M M1 e a (k + 1) := by
  obtain ⟨h1, h2, h3, h4⟩ := h
  obtain ⟨s1, s2⟩ := rn_k_s (M 835, 0, 0) (M 834) (fun v => pz_b a v) k
  refine ⟨fun v hv => ?_, fun v hv => ?_, h3, h4⟩
  · rw [s1 v, if_neg (show ¬ (v = k ∧ pz_b a k = true) from fun q => hS q.2)]; exact h1 v hv
  · rw [s2 v, if_neg (show ¬ (v = k ∧ pz_b a k = true) from fun q => hS q.2)]; exact h2 v hv
theorem pL_k.step {M M1 M2 : ab_M} {e k : Nat} {a : Int} (h : pL_k M M1 e a k) (hk : k < 4) (hS : pz_b a k = true) (h2' : M2 = ab_up (ab_up M1 835 k (M1 835 k + 1)) 834 k (M1 835 k + 1)) : pL_k M M2 e a (k + 1) := by
  obtain ⟨h1, h2, h3, h4⟩ := h
  obtain ⟨s1, s2⟩ := rn_k_s (M 835, 0, 0) (M 834) (fun v => pz_b a v) k
  have hkk : M1 835 k = M 835 k := by
    rw [h1 k hk]
    show M 835 k + (if (decide (k < k) && _) = true then 1 else 0) = _
    rw [decide_eq_false (Nat.lt_irrefl _)]
    simp
  subst h2'
  refine ⟨fun v hv => ?_, fun v hv => ?_, ?_, fun o j q1 q2 q3 => ?_⟩
  · rw [s1 v, ab_up_o (by decide)]
    by_cases c : v = k
    · subst c
      rw [ab_up_s, if_pos (show v = v ∧ pz_b a v = true from ⟨rfl, hS⟩), hkk]
    · rw [ab_up_k c, if_neg (show ¬ (v = k ∧ pz_b a k = true) from fun q => c q.1)]; exact h1 v hv
  · rw [s2 v]
    by_cases c : v = k
    · subst c
      rw [ab_up_s, if_pos (show v = v ∧ pz_b a v = true from ⟨rfl, hS⟩), hkk]
    · rw [ab_up_k c, ab_up_o (by decide), if_neg (show ¬ (v = k ∧ pz_b a k = true) from fun q => c q.1)]; exact h2 v hv
  · rw [ab_up_o (by decide), ab_up_o (by decide)]; exact h3
  · rw [up_ne (fun z => q2 ⟨z.1, by omega⟩), up_ne (fun z => q3 ⟨z.1, by omega⟩)]
    exact h4 o j q1 q2 q3
theorem pL_k.done {M M1 : ab_M} {e : Nat} {a : Int} (h : pL_k M M1 e a 4) (hs : M 805 e = 7) (ha : pa_any M e a) : pS0 M M1 e := by
  obtain ⟨h1, h2, h3, h4⟩ := h
  obtain ⟨z1, z2⟩ := rn_k_4 (M 835, 0, 0) (M 834) (fun v => pz_b a v)
  refine ⟨fun v => pz_b a v, fun q => absurd q (by omega), fun _ => ⟨a, ha, fun _ => rfl⟩, fun q => absurd hs (by omega), fun v hv => ?_, fun v hv => ?_, h3, ?_, fun q => absurd q.1 (by omega), fun _ => h4 797 66 (by omega) (by omega) (by omega), fun o k q1 q2 q3 _ => h4 o k (by omega) q2 q3⟩
  · rw [h1 v hv, z1 v hv]; rfl
  · rw [h2 v hv, z2 v hv]; rfl
  · rw [h4 797 57 (by omega) (by omega) (by omega), if_neg (by omega)]

