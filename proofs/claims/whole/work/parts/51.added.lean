/-! the class: what is the same behind a statement added -/
/-- where a new statement was added: what is the same, what is new -/
def cr_AF (M M' : ab_M) (p s R v w d sd : Nat) : Prop :=
  (∀ i j k : Nat, i < R → j ≤ 2 → ¬ (j = 0 ∧ k = 10 ∧ M 767 d = (i : Int)) → ¬ (0 < d ∧ w = p + 1 + 1 + 3 * i ∧ 1 ≤ j ∧ k = sd) → M' (p + 1 + 1 + 3 * i + j) k = M (p + 1 + 1 + 3 * i + j) k) ∧
  (M' p 3 = (R : Int) + 1 ∧ M' p 4 = (if d = 0 then (R : Int) else M p 4) ∧ M' p 11 = M p 11) ∧
  ((∀ k : Nat, (k : Int) < M p 6 → M' (p + 365) k = M (p + 365) k) ∧ (∀ k : Nat, (k : Int) < M p 8 → M' (p + 366) k = M (p + 366) k) ∧ (∀ k, M' (p + 367) k = M (p + 367) k) ∧ ∀ k, M' (p + 368) k = M (p + 368) k) ∧
  ((∀ k, M' 764 k = M 764 k) ∧ (∀ k, M' 765 k = M 765 k) ∧ (∀ k, M' 766 k = M 766 k) ∧ (∀ k, k ≠ d → M' 767 k = M 767 k) ∧ M' 767 d = (R : Int)) ∧
  (∀ o k : Nat, ¬ (764 ≤ o ∧ o ≤ 767) → ¬ ((p ≤ o ∧ o ≤ p + 368) ∧ ¬ (o = p ∧ k = 0) ∧ ¬ o = p + 362) → M' o k = M o k) ∧
  ((M' s 0 = (if 97 ≤ M 764 3 ∧ M 764 3 ≤ 100 then 118 else M 764 3) ∧ M' s 1 = (if 97 ≤ M 764 3 ∧ M 764 3 ≤ 100 then M 764 3 - 97 else -1) ∧ M' s 2 = -1 ∧ M' s 3 = -1 ∧ M' s 6 = 0 ∧ M' s 7 = 0 ∧ M' s 8 = (if d = 0 then -1 else M 765 (d - 1)) ∧ M' s 9 = (if d = 0 then 0 else (sd : Int)) ∧ M' s 10 = -1 ∧ M' s 11 = M 767 d ∧ M' s 14 = -1) ∧ (M' (s + 1) 0 = -1 ∧ M' (s + 1) 1 = -1 ∧ M' (s + 2) 0 = -1 ∧ M' (s + 2) 1 = -1) ∧ cr_ck3 p s M M') ∧
  (0 ≤ M 767 d → M' v 10 = (R : Int)) ∧ (0 < d → M' (w + 2) sd = (R : Int) ∧ M' (w + 1) sd = (if M 767 d < 0 then (R : Int) else M (w + 1) sd))
theorem cr_ck3.fr {p s : Nat} {M M1 M2 : ab_M} (h : cr_ck3 p s M M1) (h1 : M2 p 6 = M1 p 6) (h2 : M2 p 8 = M1 p 8) (h3 : ∀ k, M2 (p + 365) k = M1 (p + 365) k) (h4 : ∀ k, M2 (p + 366) k = M1 (p + 366) k) (h5 : M2 s 4 = M1 s 4) (h6 : M2 s 5 = M1 s 5) : cr_ck3 p s M M2 := by
  unfold cr_ck3
  simp only [h1, h2, h3, h4, h5, h6]
  exact h
theorem up_ne {M : ab_M} {o k o' k' : Nat} {v : Int} (h : ¬ (o' = o ∧ k' = k)) : ab_up M o k v o' k' = M o' k' := by rw [ab_up_a, if_neg h]
theorem cr_neq6 {p s R : Nat} (hp : p = 395 ∨ p = 26) (hR : R < 120) (hs : s = p + 1 + 1 + 3 * R) : (¬ p + 367 = s ∧ ¬ p + 367 = s + 1 ∧ ¬ p + 367 = s + 2 ∧ ¬ p + 368 = s ∧ ¬ p + 368 = s + 1 ∧ ¬ p + 368 = s + 2 ∧ ¬ p + 367 = p ∧ ¬ p + 368 = p ∧ ¬ p + 367 = 767 ∧ ¬ p + 368 = 767 ∧ ¬ p + 367 = p + 365 ∧ ¬ p + 367 = p + 366 ∧ ¬ p + 368 = p + 365 ∧ ¬ p + 368 = p + 366) := by
  subst hs
  (repeat' (refine And.intro ?_ ?_)) <;> omega
theorem cr_rown {p s R i j : Nat} (hp : p = 395 ∨ p = 26) (hR : R < 120) (hs : s = p + 1 + 1 + 3 * R) (hi : i < R) (hj : j ≤ 2) : (¬ p + 1 + 1 + 3 * i + j = p ∧ ¬ p + 1 + 1 + 3 * i + j = p + 365 ∧ ¬ p + 1 + 1 + 3 * i + j = p + 366 ∧ ¬ p + 1 + 1 + 3 * i + j = 767 ∧ ¬ p + 1 + 1 + 3 * i + j = s ∧ ¬ p + 1 + 1 + 3 * i + j = s + 1 ∧ ¬ p + 1 + 1 + 3 * i + j = s + 2) := by
  subst hs
  (repeat' (refine And.intro ?_ ?_)) <;> omega
theorem cr_far {p s R o : Nat} (hR : R < 120) (hs : s = p + 1 + 1 + 3 * R) (ho : ¬ (p ≤ o ∧ o ≤ p + 368 ∧ ¬ o = p + 362)) : (¬ o = p ∧ ¬ o = p + 365 ∧ ¬ o = p + 366 ∧ ¬ o = s ∧ ¬ o = s + 1 ∧ ¬ o = s + 2) := by
  subst hs
  (repeat' (refine And.intro ?_ ?_)) <;> omega
theorem cr_AD.f {M M' : ab_M} {p s R v w d sd : Nat} (had : cr_adp M p s R v w d sd) (h : cr_AD M M' p s R v w d sd) : cr_AF M M' p s R v w d sd := by
  obtain ⟨⟨o, hok⟩, ⟨hA1, hA2, hA3⟩, -, -, -, -, -, hGH⟩ := had
  have hpp := cr_opp hok.2.2.1
  clear hok
  obtain ⟨N, ⟨f1, n3, ⟨y0, y1, y2, y3, y6, y7, y8, y9, y10, y11, y14⟩, ⟨v1, v2, v3, v4⟩, hck⟩, hM⟩ := h
  have hne := cr_neq hpp hA2 hA3
  have hn6 := cr_neq6 hpp hA2 hA3
  have hn0 := cr_neq0 hpp
  by_cases hdz : d = 0
  · by_cases hpv : M 767 d < 0
    · skip
      unfold cr_C cr_B at hM
      rw [if_pos hdz] at hM
      simp only [hpv, if_true] at hM
      refine ⟨fun i j k hi hj h1 h2 => ?_, ⟨?_, ?_, ?_⟩, ⟨fun k hk => ?_, fun k hk => ?_, fun k => ?_, fun k => ?_⟩, ⟨fun k => ?_, fun k => ?_, fun k => ?_, fun k hk => ?_, ?_⟩, fun o' k h1 h2 => ?_, ⟨⟨?_, ?_, ?_, ?_, ?_, ?_, ?_, ?_, ?_, ?_, ?_⟩, ⟨?_, ?_, ?_, ?_⟩, hck.fr ?_ ?_ (fun k => ?_) (fun k => ?_) ?_ ?_⟩, fun q => ?_, fun q => ?_⟩
      · have hr := cr_rown hpp hA2 hA3 hi hj
        rw [hM, up_ne (fun y => hr.1 y.1), up_ne (fun y => hr.2.2.2.1 y.1), up_ne (fun y => hr.2.2.2.2.1 y.1)]
        exact f1 _ _ (fun y => hr.1 y.1) (fun y => hr.2.1 y.1) (fun y => hr.2.2.1 y.1) hr.2.2.2.2.1 hr.2.2.2.2.2.1 hr.2.2.2.2.2.2
      · simp only [hM, ab_up_2, hne, hn0, hn6, Nat.reduceEqDiff, if_true, if_false, ite_self]
        rw [n3, hA1]
      · simp only [hM, ab_up_2, hne, hn0, hn6, Nat.reduceEqDiff, if_true, if_false, ite_self]
        rw [if_pos hdz]
      · simp only [hM, ab_up_2, hne, hn0, hn6, Nat.reduceEqDiff, if_true, if_false, ite_self]
        exact f1 p 11 (fun y => absurd y.2 (by decide)) (fun y => hne.2.2.2.1.2.2.2.2.2.2.2.2.1 y.1) (fun y => hne.2.2.2.1.2.2.2.2.2.2.2.2.2.2.1 y.1) hne.1.2.2.2.2.2.2.2.2.2.1 hne.2.1.2.2.2.2.2.2.2.2.2.1 hne.2.2.1.2.2.2.2.2.2.2.2.2.1
      · simp only [hM, ab_up_2, hne, hn0, hn6, Nat.reduceEqDiff, if_true, if_false, ite_self]
        exact f1 _ _ (fun y => hne.2.2.2.1.2.2.2.2.2.2.2.2.2.1 y.1) (fun y => by have := y.2; omega) (fun y => hne.2.2.2.1.2.2.2.2.2.2.2.2.2.2.2.2.2.1 y.1) (by simp [hne]) (by simp [hne]) (by simp [hne])
      · simp only [hM, ab_up_2, hne, hn0, hn6, Nat.reduceEqDiff, if_true, if_false, ite_self]
        exact f1 _ _ (fun y => hne.2.2.2.1.2.2.2.2.2.2.2.2.2.2.2.1 y.1) (fun y => hne.2.2.2.1.2.2.2.2.2.2.2.2.2.2.2.2.1 y.1) (fun y => by have := y.2; omega) (by simp [hne]) (by simp [hne]) (by simp [hne])
      · simp only [hM, ab_up_2, hne, hn0, hn6, Nat.reduceEqDiff, if_true, if_false, ite_self]
        exact f1 _ _ (by simp [hn6]) (by simp) (by simp) (by simp [hn6]) (by simp [hn6]) (by simp [hn6])
      · simp only [hM, ab_up_2, hne, hn0, hn6, Nat.reduceEqDiff, if_true, if_false, ite_self]
        exact f1 _ _ (by simp [hn6]) (by simp) (by simp) (by simp [hn6]) (by simp [hn6]) (by simp [hn6])
      · simp only [hM, ab_up_2, hne, hn0, hn6, Nat.reduceEqDiff, if_true, if_false, ite_self]
        exact f1 _ _ (by simp [hne]) (by simp [hne]) (by simp [hne]) (by simp [hne]) (by simp [hne]) (by simp [hne])
      · simp only [hM, ab_up_2, hne, hn0, hn6, Nat.reduceEqDiff, if_true, if_false, ite_self]
        exact f1 _ _ (by simp [hne]) (by simp [hne]) (by simp [hne]) (by simp [hne]) (by simp [hne]) (by simp [hne])
      · simp only [hM, ab_up_2, hne, hn0, hn6, Nat.reduceEqDiff, if_true, if_false, ite_self]
        exact f1 _ _ (by simp [hne]) (by simp [hne]) (by simp [hne]) (by simp [hne]) (by simp [hne]) (by simp [hne])
      · simp only [hM, ab_up_2, hne, hn0, hn6, Nat.reduceEqDiff, if_true, if_false, hk, ite_self]
        exact f1 _ _ (by simp [hne]) (by simp [hne]) (by simp [hne]) (by simp [hne]) (by simp [hne]) (by simp [hne])
      · simp only [hM, ab_up_2, hne, hn0, hn6, Nat.reduceEqDiff, if_true, if_false, ite_self]
      · by_cases hz : o' = p ∧ k = 0
        · obtain ⟨hz1, hz2⟩ := hz
          subst hz2
          rw [hz1]
          simp only [hM, ab_up_2, hne, hn0, hn6, Nat.reduceEqDiff, if_true, if_false, ite_self]
          exact f1 p 0 (fun y => absurd y.2 (by decide)) (fun y => hne.2.2.2.1.2.2.2.2.2.2.2.2.1 y.1) (fun y => hne.2.2.2.1.2.2.2.2.2.2.2.2.2.2.1 y.1) hne.1.2.2.2.2.2.2.2.2.2.1 hne.2.1.2.2.2.2.2.2.2.2.2.1 hne.2.2.1.2.2.2.2.2.2.2.2.2.1
        have h2 : ¬ (p ≤ o' ∧ o' ≤ p + 368 ∧ ¬ o' = p + 362) := fun y => h2 ⟨⟨y.1, y.2.1⟩, hz, y.2.2⟩
        have hf := cr_far hA2 hA3 h2
        rw [hM, up_ne (fun y => hf.1 y.1), up_ne (fun y => h1 (by have := y.1; omega)), up_ne (fun y => hf.2.2.2.1 y.1)]
        exact f1 _ _ (fun y => hf.1 y.1) (fun y => hf.2.1 y.1) (fun y => hf.2.2.1 y.1) hf.2.2.2.1 hf.2.2.2.2.1 hf.2.2.2.2.2
      · simp only [hM, ab_up_2, hne, hn0, hn6, Nat.reduceEqDiff, if_true, if_false, ite_self]
        exact y0
      · simp only [hM, ab_up_2, hne, hn0, hn6, Nat.reduceEqDiff, if_true, if_false, ite_self]
        exact y1
      · simp only [hM, ab_up_2, hne, hn0, hn6, Nat.reduceEqDiff, if_true, if_false, ite_self]
        exact y2
      · simp only [hM, ab_up_2, hne, hn0, hn6, Nat.reduceEqDiff, if_true, if_false, ite_self]
        exact y3
      · simp only [hM, ab_up_2, hne, hn0, hn6, Nat.reduceEqDiff, if_true, if_false, ite_self]
        exact y6
      · simp only [hM, ab_up_2, hne, hn0, hn6, Nat.reduceEqDiff, if_true, if_false, ite_self]
        exact y7
      · simp only [hM, ab_up_2, hne, hn0, hn6, Nat.reduceEqDiff, if_true, if_false, ite_self]
        rw [if_pos hdz]
        exact y8
      · simp only [hM, ab_up_2, hne, hn0, hn6, Nat.reduceEqDiff, if_true, if_false, ite_self]
        rw [if_pos hdz]
        exact y9
      · simp only [hM, ab_up_2, hne, hn0, hn6, Nat.reduceEqDiff, if_true, if_false, ite_self]
        exact y10
      · simp only [hM, ab_up_2, hne, hn0, hn6, Nat.reduceEqDiff, if_true, if_false, ite_self]
      · simp only [hM, ab_up_2, hne, hn0, hn6, Nat.reduceEqDiff, if_true, if_false, ite_self]
        exact y14
      · simp only [hM, ab_up_2, hne, hn0, hn6, Nat.reduceEqDiff, if_true, if_false, ite_self]
        exact v1
      · simp only [hM, ab_up_2, hne, hn0, hn6, Nat.reduceEqDiff, if_true, if_false, ite_self]
        exact v2
      · simp only [hM, ab_up_2, hne, hn0, hn6, Nat.reduceEqDiff, if_true, if_false, ite_self]
        exact v3
      · simp only [hM, ab_up_2, hne, hn0, hn6, Nat.reduceEqDiff, if_true, if_false, ite_self]
        exact v4
      · simp only [hM, ab_up_2, hne, hn0, hn6, Nat.reduceEqDiff, if_true, if_false, ite_self]
      · simp only [hM, ab_up_2, hne, hn0, hn6, Nat.reduceEqDiff, if_true, if_false, ite_self]
      · simp only [hM, ab_up_2, hne, hn0, hn6, Nat.reduceEqDiff, if_true, if_false, ite_self]
      · simp only [hM, ab_up_2, hne, hn0, hn6, Nat.reduceEqDiff, if_true, if_false, ite_self]
      · simp only [hM, ab_up_2, hne, hn0, hn6, Nat.reduceEqDiff, if_true, if_false, ite_self]
      · simp only [hM, ab_up_2, hne, hn0, hn6, Nat.reduceEqDiff, if_true, if_false, ite_self]
      · omega
      · omega
    · skip
      obtain ⟨V, hV1, hV2, hV3⟩ : ∃ V, V < R ∧ v = p + 1 + 1 + 3 * V ∧ M 767 d = (V : Int) := ⟨(M 767 d).toNat, by have := hGH.a; omega, hGH.v (by omega), by omega⟩
      have hnv := cr_neq hpp (Nat.lt_trans hV1 hA2) hV2
      have hnv2 := cr_neq2 hA3 hV2 hV1
      have hnv6 := cr_neq6 hpp (Nat.lt_trans hV1 hA2) hV2
      unfold cr_C cr_B at hM
      rw [if_pos hdz] at hM
      simp only [hpv, if_false] at hM
      refine ⟨fun i j k hi hj h1 h2 => ?_, ⟨?_, ?_, ?_⟩, ⟨fun k hk => ?_, fun k hk => ?_, fun k => ?_, fun k => ?_⟩, ⟨fun k => ?_, fun k => ?_, fun k => ?_, fun k hk => ?_, ?_⟩, fun o' k h1 h2 => ?_, ⟨⟨?_, ?_, ?_, ?_, ?_, ?_, ?_, ?_, ?_, ?_, ?_⟩, ⟨?_, ?_, ?_, ?_⟩, hck.fr ?_ ?_ (fun k => ?_) (fun k => ?_) ?_ ?_⟩, fun q => ?_, fun q => ?_⟩
      · have hr := cr_rown hpp hA2 hA3 hi hj
        rw [hM, up_ne (fun y => hr.1 y.1), up_ne (fun y => h1 ⟨by have := y.1; omega, y.2, by have := y.1; omega⟩), up_ne (fun y => hr.2.2.2.1 y.1), up_ne (fun y => hr.2.2.2.2.1 y.1)]
        exact f1 _ _ (fun y => hr.1 y.1) (fun y => hr.2.1 y.1) (fun y => hr.2.2.1 y.1) hr.2.2.2.2.1 hr.2.2.2.2.2.1 hr.2.2.2.2.2.2
      · simp only [hM, ab_up_2, hne, hn0, hn6, hnv, hnv2, hnv6, Nat.reduceEqDiff, if_true, if_false, ite_self]
        rw [n3, hA1]
      · simp only [hM, ab_up_2, hne, hn0, hn6, hnv, hnv2, hnv6, Nat.reduceEqDiff, if_true, if_false, ite_self]
        rw [if_pos hdz]
      · simp only [hM, ab_up_2, hne, hn0, hn6, hnv, hnv2, hnv6, Nat.reduceEqDiff, if_true, if_false, ite_self]
        exact f1 p 11 (fun y => absurd y.2 (by decide)) (fun y => hne.2.2.2.1.2.2.2.2.2.2.2.2.1 y.1) (fun y => hne.2.2.2.1.2.2.2.2.2.2.2.2.2.2.1 y.1) hne.1.2.2.2.2.2.2.2.2.2.1 hne.2.1.2.2.2.2.2.2.2.2.2.1 hne.2.2.1.2.2.2.2.2.2.2.2.2.1
      · simp only [hM, ab_up_2, hne, hn0, hn6, hnv, hnv2, hnv6, Nat.reduceEqDiff, if_true, if_false, ite_self]
        exact f1 _ _ (fun y => hne.2.2.2.1.2.2.2.2.2.2.2.2.2.1 y.1) (fun y => by have := y.2; omega) (fun y => hne.2.2.2.1.2.2.2.2.2.2.2.2.2.2.2.2.2.1 y.1) (by simp [hne]) (by simp [hne]) (by simp [hne])
      · simp only [hM, ab_up_2, hne, hn0, hn6, hnv, hnv2, hnv6, Nat.reduceEqDiff, if_true, if_false, ite_self]
        exact f1 _ _ (fun y => hne.2.2.2.1.2.2.2.2.2.2.2.2.2.2.2.1 y.1) (fun y => hne.2.2.2.1.2.2.2.2.2.2.2.2.2.2.2.2.1 y.1) (fun y => by have := y.2; omega) (by simp [hne]) (by simp [hne]) (by simp [hne])
      · simp only [hM, ab_up_2, hne, hn0, hn6, hnv, hnv2, hnv6, Nat.reduceEqDiff, if_true, if_false, ite_self]
        exact f1 _ _ (by simp [hn6]) (by simp) (by simp) (by simp [hn6]) (by simp [hn6]) (by simp [hn6])
      · simp only [hM, ab_up_2, hne, hn0, hn6, hnv, hnv2, hnv6, Nat.reduceEqDiff, if_true, if_false, ite_self]
        exact f1 _ _ (by simp [hn6]) (by simp) (by simp) (by simp [hn6]) (by simp [hn6]) (by simp [hn6])
      · simp only [hM, ab_up_2, hne, hn0, hn6, hnv, hnv2, hnv6, Nat.reduceEqDiff, if_true, if_false, ite_self]
        exact f1 _ _ (by simp [hne]) (by simp [hne]) (by simp [hne]) (by simp [hne]) (by simp [hne]) (by simp [hne])
      · simp only [hM, ab_up_2, hne, hn0, hn6, hnv, hnv2, hnv6, Nat.reduceEqDiff, if_true, if_false, ite_self]
        exact f1 _ _ (by simp [hne]) (by simp [hne]) (by simp [hne]) (by simp [hne]) (by simp [hne]) (by simp [hne])
      · simp only [hM, ab_up_2, hne, hn0, hn6, hnv, hnv2, hnv6, Nat.reduceEqDiff, if_true, if_false, ite_self]
        exact f1 _ _ (by simp [hne]) (by simp [hne]) (by simp [hne]) (by simp [hne]) (by simp [hne]) (by simp [hne])
      · simp only [hM, ab_up_2, hne, hn0, hn6, hnv, hnv2, hnv6, Nat.reduceEqDiff, if_true, if_false, hk, ite_self]
        exact f1 _ _ (by simp [hne]) (by simp [hne]) (by simp [hne]) (by simp [hne]) (by simp [hne]) (by simp [hne])
      · simp only [hM, ab_up_2, hne, hn0, hn6, hnv, hnv2, hnv6, Nat.reduceEqDiff, if_true, if_false, ite_self]
      · by_cases hz : o' = p ∧ k = 0
        · obtain ⟨hz1, hz2⟩ := hz
          subst hz2
          rw [hz1]
          simp only [hM, ab_up_2, hne, hn0, hn6, hnv, hnv2, hnv6, Nat.reduceEqDiff, if_true, if_false, ite_self]
          exact f1 p 0 (fun y => absurd y.2 (by decide)) (fun y => hne.2.2.2.1.2.2.2.2.2.2.2.2.1 y.1) (fun y => hne.2.2.2.1.2.2.2.2.2.2.2.2.2.2.1 y.1) hne.1.2.2.2.2.2.2.2.2.2.1 hne.2.1.2.2.2.2.2.2.2.2.2.1 hne.2.2.1.2.2.2.2.2.2.2.2.2.1
        have h2 : ¬ (p ≤ o' ∧ o' ≤ p + 368 ∧ ¬ o' = p + 362) := fun y => h2 ⟨⟨y.1, y.2.1⟩, hz, y.2.2⟩
        have hf := cr_far hA2 hA3 h2
        rw [hM, up_ne (fun y => hf.1 y.1), up_ne (fun y => (cr_far (Nat.lt_trans hV1 hA2) hV2 h2).2.2.2.1 y.1), up_ne (fun y => h1 (by have := y.1; omega)), up_ne (fun y => hf.2.2.2.1 y.1)]
        exact f1 _ _ (fun y => hf.1 y.1) (fun y => hf.2.1 y.1) (fun y => hf.2.2.1 y.1) hf.2.2.2.1 hf.2.2.2.2.1 hf.2.2.2.2.2
      · simp only [hM, ab_up_2, hne, hn0, hn6, hnv, hnv2, hnv6, Nat.reduceEqDiff, if_true, if_false, ite_self]
        exact y0
      · simp only [hM, ab_up_2, hne, hn0, hn6, hnv, hnv2, hnv6, Nat.reduceEqDiff, if_true, if_false, ite_self]
        exact y1
      · simp only [hM, ab_up_2, hne, hn0, hn6, hnv, hnv2, hnv6, Nat.reduceEqDiff, if_true, if_false, ite_self]
        exact y2
      · simp only [hM, ab_up_2, hne, hn0, hn6, hnv, hnv2, hnv6, Nat.reduceEqDiff, if_true, if_false, ite_self]
        exact y3
      · simp only [hM, ab_up_2, hne, hn0, hn6, hnv, hnv2, hnv6, Nat.reduceEqDiff, if_true, if_false, ite_self]
        exact y6
      · simp only [hM, ab_up_2, hne, hn0, hn6, hnv, hnv2, hnv6, Nat.reduceEqDiff, if_true, if_false, ite_self]
        exact y7
      · simp only [hM, ab_up_2, hne, hn0, hn6, hnv, hnv2, hnv6, Nat.reduceEqDiff, if_true, if_false, ite_self]
        rw [if_pos hdz]
        exact y8
      · simp only [hM, ab_up_2, hne, hn0, hn6, hnv, hnv2, hnv6, Nat.reduceEqDiff, if_true, if_false, ite_self]
        rw [if_pos hdz]
        exact y9
      · simp only [hM, ab_up_2, hne, hn0, hn6, hnv, hnv2, hnv6, Nat.reduceEqDiff, if_true, if_false, ite_self]
        exact y10
      · simp only [hM, ab_up_2, hne, hn0, hn6, hnv, hnv2, hnv6, Nat.reduceEqDiff, if_true, if_false, ite_self]
      · simp only [hM, ab_up_2, hne, hn0, hn6, hnv, hnv2, hnv6, Nat.reduceEqDiff, if_true, if_false, ite_self]
        exact y14
      · simp only [hM, ab_up_2, hne, hn0, hn6, hnv, hnv2, hnv6, Nat.reduceEqDiff, if_true, if_false, ite_self]
        exact v1
      · simp only [hM, ab_up_2, hne, hn0, hn6, hnv, hnv2, hnv6, Nat.reduceEqDiff, if_true, if_false, ite_self]
        exact v2
      · simp only [hM, ab_up_2, hne, hn0, hn6, hnv, hnv2, hnv6, Nat.reduceEqDiff, if_true, if_false, ite_self]
        exact v3
      · simp only [hM, ab_up_2, hne, hn0, hn6, hnv, hnv2, hnv6, Nat.reduceEqDiff, if_true, if_false, ite_self]
        exact v4
      · simp only [hM, ab_up_2, hne, hn0, hn6, hnv, hnv2, hnv6, Nat.reduceEqDiff, if_true, if_false, ite_self]
      · simp only [hM, ab_up_2, hne, hn0, hn6, hnv, hnv2, hnv6, Nat.reduceEqDiff, if_true, if_false, ite_self]
      · simp only [hM, ab_up_2, hne, hn0, hn6, hnv, hnv2, hnv6, Nat.reduceEqDiff, if_true, if_false, ite_self]
      · simp only [hM, ab_up_2, hne, hn0, hn6, hnv, hnv2, hnv6, Nat.reduceEqDiff, if_true, if_false, ite_self]
      · simp only [hM, ab_up_2, hne, hn0, hn6, hnv, hnv2, hnv6, Nat.reduceEqDiff, if_true, if_false, ite_self]
      · simp only [hM, ab_up_2, hne, hn0, hn6, hnv, hnv2, hnv6, Nat.reduceEqDiff, if_true, if_false, ite_self]
      · simp only [hM, ab_up_2, hne, hn0, hn6, hnv, hnv2, hnv6, Nat.reduceEqDiff, if_true, if_false, ite_self]
      · omega
  · have hd0 : 0 < d := by omega
    by_cases hpv : M 767 d < 0
    · skip
      obtain ⟨W, hW1, hW2, hW3⟩ : ∃ W, W < R ∧ w = p + 1 + 1 + 3 * W ∧ sd ≤ 1 := ⟨(M 765 (d - 1)).toNat, by have := hGH.b hd0; omega, (hGH.b hd0).2.2.1, (hGH.b hd0).2.2.2.2⟩
      have hnw := cr_neq hpp (Nat.lt_trans hW1 hA2) hW2
      have hnw2 := cr_neq2 hA3 hW2 hW1
      have hnw6 := cr_neq6 hpp (Nat.lt_trans hW1 hA2) hW2
      unfold cr_C cr_B at hM
      rw [if_neg (Nat.ne_of_gt hd0)] at hM
      simp only [hpv, if_true] at hM
      refine ⟨fun i j k hi hj h1 h2 => ?_, ⟨?_, ?_, ?_⟩, ⟨fun k hk => ?_, fun k hk => ?_, fun k => ?_, fun k => ?_⟩, ⟨fun k => ?_, fun k => ?_, fun k => ?_, fun k hk => ?_, ?_⟩, fun o' k h1 h2 => ?_, ⟨⟨?_, ?_, ?_, ?_, ?_, ?_, ?_, ?_, ?_, ?_, ?_⟩, ⟨?_, ?_, ?_, ?_⟩, hck.fr ?_ ?_ (fun k => ?_) (fun k => ?_) ?_ ?_⟩, fun q => ?_, fun q => ?_⟩
      · have hr := cr_rown hpp hA2 hA3 hi hj
        rw [hM, up_ne (fun y => h2 ⟨hd0, by have := y.1; omega, by have := y.1; omega, y.2⟩), up_ne (fun y => h2 ⟨hd0, by have := y.1; omega, by have := y.1; omega, y.2⟩), up_ne (fun y => hr.2.2.2.2.1 y.1), up_ne (fun y => hr.2.2.2.2.1 y.1), up_ne (fun y => hr.2.2.2.1 y.1), up_ne (fun y => hr.2.2.2.2.1 y.1)]
        exact f1 _ _ (fun y => hr.1 y.1) (fun y => hr.2.1 y.1) (fun y => hr.2.2.1 y.1) hr.2.2.2.2.1 hr.2.2.2.2.2.1 hr.2.2.2.2.2.2
      · simp only [hM, ab_up_2, hne, hn0, hn6, hnw, hnw2, hnw6, Nat.reduceEqDiff, if_true, if_false, ite_self]
        rw [n3, hA1]
      · simp only [hM, ab_up_2, hne, hn0, hn6, hnw, hnw2, hnw6, Nat.reduceEqDiff, if_true, if_false, ite_self]
        rw [if_neg (Nat.ne_of_gt hd0)]
        exact f1 p 4 (fun y => absurd y.2 (by decide)) (fun y => hne.2.2.2.1.2.2.2.2.2.2.2.2.1 y.1) (fun y => hne.2.2.2.1.2.2.2.2.2.2.2.2.2.2.1 y.1) hne.1.2.2.2.2.2.2.2.2.2.1 hne.2.1.2.2.2.2.2.2.2.2.2.1 hne.2.2.1.2.2.2.2.2.2.2.2.2.1
      · simp only [hM, ab_up_2, hne, hn0, hn6, hnw, hnw2, hnw6, Nat.reduceEqDiff, if_true, if_false, ite_self]
        exact f1 p 11 (fun y => absurd y.2 (by decide)) (fun y => hne.2.2.2.1.2.2.2.2.2.2.2.2.1 y.1) (fun y => hne.2.2.2.1.2.2.2.2.2.2.2.2.2.2.1 y.1) hne.1.2.2.2.2.2.2.2.2.2.1 hne.2.1.2.2.2.2.2.2.2.2.2.1 hne.2.2.1.2.2.2.2.2.2.2.2.2.1
      · simp only [hM, ab_up_2, hne, hn0, hn6, hnw, hnw2, hnw6, Nat.reduceEqDiff, if_true, if_false, ite_self]
        exact f1 _ _ (fun y => hne.2.2.2.1.2.2.2.2.2.2.2.2.2.1 y.1) (fun y => by have := y.2; omega) (fun y => hne.2.2.2.1.2.2.2.2.2.2.2.2.2.2.2.2.2.1 y.1) (by simp [hne]) (by simp [hne]) (by simp [hne])
      · simp only [hM, ab_up_2, hne, hn0, hn6, hnw, hnw2, hnw6, Nat.reduceEqDiff, if_true, if_false, ite_self]
        exact f1 _ _ (fun y => hne.2.2.2.1.2.2.2.2.2.2.2.2.2.2.2.1 y.1) (fun y => hne.2.2.2.1.2.2.2.2.2.2.2.2.2.2.2.2.1 y.1) (fun y => by have := y.2; omega) (by simp [hne]) (by simp [hne]) (by simp [hne])
      · simp only [hM, ab_up_2, hne, hn0, hn6, hnw, hnw2, hnw6, Nat.reduceEqDiff, if_true, if_false, ite_self]
        exact f1 _ _ (by simp [hn6]) (by simp) (by simp) (by simp [hn6]) (by simp [hn6]) (by simp [hn6])
      · simp only [hM, ab_up_2, hne, hn0, hn6, hnw, hnw2, hnw6, Nat.reduceEqDiff, if_true, if_false, ite_self]
        exact f1 _ _ (by simp [hn6]) (by simp) (by simp) (by simp [hn6]) (by simp [hn6]) (by simp [hn6])
      · simp only [hM, ab_up_2, hne, hn0, hn6, hnw, hnw2, hnw6, Nat.reduceEqDiff, if_true, if_false, ite_self]
        exact f1 _ _ (by simp [hne]) (by simp [hne]) (by simp [hne]) (by simp [hne]) (by simp [hne]) (by simp [hne])
      · simp only [hM, ab_up_2, hne, hn0, hn6, hnw, hnw2, hnw6, Nat.reduceEqDiff, if_true, if_false, ite_self]
        exact f1 _ _ (by simp [hne]) (by simp [hne]) (by simp [hne]) (by simp [hne]) (by simp [hne]) (by simp [hne])
      · simp only [hM, ab_up_2, hne, hn0, hn6, hnw, hnw2, hnw6, Nat.reduceEqDiff, if_true, if_false, ite_self]
        exact f1 _ _ (by simp [hne]) (by simp [hne]) (by simp [hne]) (by simp [hne]) (by simp [hne]) (by simp [hne])
      · simp only [hM, ab_up_2, hne, hn0, hn6, hnw, hnw2, hnw6, Nat.reduceEqDiff, if_true, if_false, hk, ite_self]
        exact f1 _ _ (by simp [hne]) (by simp [hne]) (by simp [hne]) (by simp [hne]) (by simp [hne]) (by simp [hne])
      · simp only [hM, ab_up_2, hne, hn0, hn6, hnw, hnw2, hnw6, Nat.reduceEqDiff, if_true, if_false, ite_self]
      · by_cases hz : o' = p ∧ k = 0
        · obtain ⟨hz1, hz2⟩ := hz
          subst hz2
          rw [hz1]
          simp only [hM, ab_up_2, hne, hn0, hn6, hnw, hnw2, hnw6, Nat.reduceEqDiff, if_true, if_false, ite_self]
          exact f1 p 0 (fun y => absurd y.2 (by decide)) (fun y => hne.2.2.2.1.2.2.2.2.2.2.2.2.1 y.1) (fun y => hne.2.2.2.1.2.2.2.2.2.2.2.2.2.2.1 y.1) hne.1.2.2.2.2.2.2.2.2.2.1 hne.2.1.2.2.2.2.2.2.2.2.2.1 hne.2.2.1.2.2.2.2.2.2.2.2.2.1
        have h2 : ¬ (p ≤ o' ∧ o' ≤ p + 368 ∧ ¬ o' = p + 362) := fun y => h2 ⟨⟨y.1, y.2.1⟩, hz, y.2.2⟩
        have hf := cr_far hA2 hA3 h2
        rw [hM, up_ne (fun y => (cr_far (Nat.lt_trans hW1 hA2) hW2 h2).2.2.2.2.1 y.1), up_ne (fun y => (cr_far (Nat.lt_trans hW1 hA2) hW2 h2).2.2.2.2.2 y.1), up_ne (fun y => hf.2.2.2.1 y.1), up_ne (fun y => hf.2.2.2.1 y.1), up_ne (fun y => h1 (by have := y.1; omega)), up_ne (fun y => hf.2.2.2.1 y.1)]
        exact f1 _ _ (fun y => hf.1 y.1) (fun y => hf.2.1 y.1) (fun y => hf.2.2.1 y.1) hf.2.2.2.1 hf.2.2.2.2.1 hf.2.2.2.2.2
      · simp only [hM, ab_up_2, hne, hn0, hn6, hnw, hnw2, hnw6, Nat.reduceEqDiff, if_true, if_false, ite_self]
        exact y0
      · simp only [hM, ab_up_2, hne, hn0, hn6, hnw, hnw2, hnw6, Nat.reduceEqDiff, if_true, if_false, ite_self]
        exact y1
      · simp only [hM, ab_up_2, hne, hn0, hn6, hnw, hnw2, hnw6, Nat.reduceEqDiff, if_true, if_false, ite_self]
        exact y2
      · simp only [hM, ab_up_2, hne, hn0, hn6, hnw, hnw2, hnw6, Nat.reduceEqDiff, if_true, if_false, ite_self]
        exact y3
      · simp only [hM, ab_up_2, hne, hn0, hn6, hnw, hnw2, hnw6, Nat.reduceEqDiff, if_true, if_false, ite_self]
        exact y6
      · simp only [hM, ab_up_2, hne, hn0, hn6, hnw, hnw2, hnw6, Nat.reduceEqDiff, if_true, if_false, ite_self]
        exact y7
      · simp only [hM, ab_up_2, hne, hn0, hn6, hnw, hnw2, hnw6, Nat.reduceEqDiff, if_true, if_false, ite_self]
        rw [if_neg (Nat.ne_of_gt hd0)]
      · simp only [hM, ab_up_2, hne, hn0, hn6, hnw, hnw2, hnw6, Nat.reduceEqDiff, if_true, if_false, ite_self]
        rw [if_neg (Nat.ne_of_gt hd0)]
      · simp only [hM, ab_up_2, hne, hn0, hn6, hnw, hnw2, hnw6, Nat.reduceEqDiff, if_true, if_false, ite_self]
        exact y10
      · simp only [hM, ab_up_2, hne, hn0, hn6, hnw, hnw2, hnw6, Nat.reduceEqDiff, if_true, if_false, ite_self]
      · simp only [hM, ab_up_2, hne, hn0, hn6, hnw, hnw2, hnw6, Nat.reduceEqDiff, if_true, if_false, ite_self]
        exact y14
      · simp only [hM, ab_up_2, hne, hn0, hn6, hnw, hnw2, hnw6, Nat.reduceEqDiff, if_true, if_false, ite_self]
        exact v1
      · simp only [hM, ab_up_2, hne, hn0, hn6, hnw, hnw2, hnw6, Nat.reduceEqDiff, if_true, if_false, ite_self]
        exact v2
      · simp only [hM, ab_up_2, hne, hn0, hn6, hnw, hnw2, hnw6, Nat.reduceEqDiff, if_true, if_false, ite_self]
        exact v3
      · simp only [hM, ab_up_2, hne, hn0, hn6, hnw, hnw2, hnw6, Nat.reduceEqDiff, if_true, if_false, ite_self]
        exact v4
      · simp only [hM, ab_up_2, hne, hn0, hn6, hnw, hnw2, hnw6, Nat.reduceEqDiff, if_true, if_false, ite_self]
      · simp only [hM, ab_up_2, hne, hn0, hn6, hnw, hnw2, hnw6, Nat.reduceEqDiff, if_true, if_false, ite_self]
      · simp only [hM, ab_up_2, hne, hn0, hn6, hnw, hnw2, hnw6, Nat.reduceEqDiff, if_true, if_false, ite_self]
      · simp only [hM, ab_up_2, hne, hn0, hn6, hnw, hnw2, hnw6, Nat.reduceEqDiff, if_true, if_false, ite_self]
      · simp only [hM, ab_up_2, hne, hn0, hn6, hnw, hnw2, hnw6, Nat.reduceEqDiff, if_true, if_false, ite_self]
      · simp only [hM, ab_up_2, hne, hn0, hn6, hnw, hnw2, hnw6, Nat.reduceEqDiff, if_true, if_false, ite_self]
      · omega
      · refine ⟨?_, ?_⟩
        · simp only [hM, ab_up_2, hne, hn0, hn6, hnw, hnw2, hnw6, Nat.reduceEqDiff, if_true, if_false, ite_self]
        · simp only [hM, ab_up_2, hne, hn0, hn6, hnw, hnw2, hnw6, Nat.reduceEqDiff, if_true, if_false, ite_self]
          rw [if_pos hpv]
    · skip
      obtain ⟨V, hV1, hV2, hV3⟩ : ∃ V, V < R ∧ v = p + 1 + 1 + 3 * V ∧ M 767 d = (V : Int) := ⟨(M 767 d).toNat, by have := hGH.a; omega, hGH.v (by omega), by omega⟩
      have hnv := cr_neq hpp (Nat.lt_trans hV1 hA2) hV2
      have hnv2 := cr_neq2 hA3 hV2 hV1
      have hnv6 := cr_neq6 hpp (Nat.lt_trans hV1 hA2) hV2
      obtain ⟨W, hW1, hW2, hW3⟩ : ∃ W, W < R ∧ w = p + 1 + 1 + 3 * W ∧ sd ≤ 1 := ⟨(M 765 (d - 1)).toNat, by have := hGH.b hd0; omega, (hGH.b hd0).2.2.1, (hGH.b hd0).2.2.2.2⟩
      have hnw := cr_neq hpp (Nat.lt_trans hW1 hA2) hW2
      have hnw2 := cr_neq2 hA3 hW2 hW1
      have hnw6 := cr_neq6 hpp (Nat.lt_trans hW1 hA2) hW2
      have hnvw := cr_neq3 hV2 hW2
      unfold cr_C cr_B at hM
      rw [if_neg (Nat.ne_of_gt hd0)] at hM
      simp only [hpv, if_false] at hM
      refine ⟨fun i j k hi hj h1 h2 => ?_, ⟨?_, ?_, ?_⟩, ⟨fun k hk => ?_, fun k hk => ?_, fun k => ?_, fun k => ?_⟩, ⟨fun k => ?_, fun k => ?_, fun k => ?_, fun k hk => ?_, ?_⟩, fun o' k h1 h2 => ?_, ⟨⟨?_, ?_, ?_, ?_, ?_, ?_, ?_, ?_, ?_, ?_, ?_⟩, ⟨?_, ?_, ?_, ?_⟩, hck.fr ?_ ?_ (fun k => ?_) (fun k => ?_) ?_ ?_⟩, fun q => ?_, fun q => ?_⟩
      · have hr := cr_rown hpp hA2 hA3 hi hj
        rw [hM, up_ne (fun y => h2 ⟨hd0, by have := y.1; omega, by have := y.1; omega, y.2⟩), up_ne (fun y => hr.2.2.2.2.1 y.1), up_ne (fun y => hr.2.2.2.2.1 y.1), up_ne (fun y => h1 ⟨by have := y.1; omega, y.2, by have := y.1; omega⟩), up_ne (fun y => hr.2.2.2.1 y.1), up_ne (fun y => hr.2.2.2.2.1 y.1)]
        exact f1 _ _ (fun y => hr.1 y.1) (fun y => hr.2.1 y.1) (fun y => hr.2.2.1 y.1) hr.2.2.2.2.1 hr.2.2.2.2.2.1 hr.2.2.2.2.2.2
      · simp only [hM, ab_up_2, hne, hn0, hn6, hnv, hnv2, hnv6, hnw, hnw2, hnw6, hnvw, Nat.reduceEqDiff, if_true, if_false, ite_self]
        rw [n3, hA1]
      · simp only [hM, ab_up_2, hne, hn0, hn6, hnv, hnv2, hnv6, hnw, hnw2, hnw6, hnvw, Nat.reduceEqDiff, if_true, if_false, ite_self]
        rw [if_neg (Nat.ne_of_gt hd0)]
        exact f1 p 4 (fun y => absurd y.2 (by decide)) (fun y => hne.2.2.2.1.2.2.2.2.2.2.2.2.1 y.1) (fun y => hne.2.2.2.1.2.2.2.2.2.2.2.2.2.2.1 y.1) hne.1.2.2.2.2.2.2.2.2.2.1 hne.2.1.2.2.2.2.2.2.2.2.2.1 hne.2.2.1.2.2.2.2.2.2.2.2.2.1
      · simp only [hM, ab_up_2, hne, hn0, hn6, hnv, hnv2, hnv6, hnw, hnw2, hnw6, hnvw, Nat.reduceEqDiff, if_true, if_false, ite_self]
        exact f1 p 11 (fun y => absurd y.2 (by decide)) (fun y => hne.2.2.2.1.2.2.2.2.2.2.2.2.1 y.1) (fun y => hne.2.2.2.1.2.2.2.2.2.2.2.2.2.2.1 y.1) hne.1.2.2.2.2.2.2.2.2.2.1 hne.2.1.2.2.2.2.2.2.2.2.2.1 hne.2.2.1.2.2.2.2.2.2.2.2.2.1
      · simp only [hM, ab_up_2, hne, hn0, hn6, hnv, hnv2, hnv6, hnw, hnw2, hnw6, hnvw, Nat.reduceEqDiff, if_true, if_false, ite_self]
        exact f1 _ _ (fun y => hne.2.2.2.1.2.2.2.2.2.2.2.2.2.1 y.1) (fun y => by have := y.2; omega) (fun y => hne.2.2.2.1.2.2.2.2.2.2.2.2.2.2.2.2.2.1 y.1) (by simp [hne]) (by simp [hne]) (by simp [hne])
      · simp only [hM, ab_up_2, hne, hn0, hn6, hnv, hnv2, hnv6, hnw, hnw2, hnw6, hnvw, Nat.reduceEqDiff, if_true, if_false, ite_self]
        exact f1 _ _ (fun y => hne.2.2.2.1.2.2.2.2.2.2.2.2.2.2.2.1 y.1) (fun y => hne.2.2.2.1.2.2.2.2.2.2.2.2.2.2.2.2.1 y.1) (fun y => by have := y.2; omega) (by simp [hne]) (by simp [hne]) (by simp [hne])
      · simp only [hM, ab_up_2, hne, hn0, hn6, hnv, hnv2, hnv6, hnw, hnw2, hnw6, hnvw, Nat.reduceEqDiff, if_true, if_false, ite_self]
        exact f1 _ _ (by simp [hn6]) (by simp) (by simp) (by simp [hn6]) (by simp [hn6]) (by simp [hn6])
      · simp only [hM, ab_up_2, hne, hn0, hn6, hnv, hnv2, hnv6, hnw, hnw2, hnw6, hnvw, Nat.reduceEqDiff, if_true, if_false, ite_self]
        exact f1 _ _ (by simp [hn6]) (by simp) (by simp) (by simp [hn6]) (by simp [hn6]) (by simp [hn6])
      · simp only [hM, ab_up_2, hne, hn0, hn6, hnv, hnv2, hnv6, hnw, hnw2, hnw6, hnvw, Nat.reduceEqDiff, if_true, if_false, ite_self]
        exact f1 _ _ (by simp [hne]) (by simp [hne]) (by simp [hne]) (by simp [hne]) (by simp [hne]) (by simp [hne])
      · simp only [hM, ab_up_2, hne, hn0, hn6, hnv, hnv2, hnv6, hnw, hnw2, hnw6, hnvw, Nat.reduceEqDiff, if_true, if_false, ite_self]
        exact f1 _ _ (by simp [hne]) (by simp [hne]) (by simp [hne]) (by simp [hne]) (by simp [hne]) (by simp [hne])
      · simp only [hM, ab_up_2, hne, hn0, hn6, hnv, hnv2, hnv6, hnw, hnw2, hnw6, hnvw, Nat.reduceEqDiff, if_true, if_false, ite_self]
        exact f1 _ _ (by simp [hne]) (by simp [hne]) (by simp [hne]) (by simp [hne]) (by simp [hne]) (by simp [hne])
      · simp only [hM, ab_up_2, hne, hn0, hn6, hnv, hnv2, hnv6, hnw, hnw2, hnw6, hnvw, Nat.reduceEqDiff, if_true, if_false, hk, ite_self]
        exact f1 _ _ (by simp [hne]) (by simp [hne]) (by simp [hne]) (by simp [hne]) (by simp [hne]) (by simp [hne])
      · simp only [hM, ab_up_2, hne, hn0, hn6, hnv, hnv2, hnv6, hnw, hnw2, hnw6, hnvw, Nat.reduceEqDiff, if_true, if_false, ite_self]
      · by_cases hz : o' = p ∧ k = 0
        · obtain ⟨hz1, hz2⟩ := hz
          subst hz2
          rw [hz1]
          simp only [hM, ab_up_2, hne, hn0, hn6, hnv, hnv2, hnv6, hnw, hnw2, hnw6, hnvw, Nat.reduceEqDiff, if_true, if_false, ite_self]
          exact f1 p 0 (fun y => absurd y.2 (by decide)) (fun y => hne.2.2.2.1.2.2.2.2.2.2.2.2.1 y.1) (fun y => hne.2.2.2.1.2.2.2.2.2.2.2.2.2.2.1 y.1) hne.1.2.2.2.2.2.2.2.2.2.1 hne.2.1.2.2.2.2.2.2.2.2.2.1 hne.2.2.1.2.2.2.2.2.2.2.2.2.1
        have h2 : ¬ (p ≤ o' ∧ o' ≤ p + 368 ∧ ¬ o' = p + 362) := fun y => h2 ⟨⟨y.1, y.2.1⟩, hz, y.2.2⟩
        have hf := cr_far hA2 hA3 h2
        rw [hM, up_ne (fun y => (cr_far (Nat.lt_trans hW1 hA2) hW2 h2).2.2.2.2.2 y.1), up_ne (fun y => hf.2.2.2.1 y.1), up_ne (fun y => hf.2.2.2.1 y.1), up_ne (fun y => (cr_far (Nat.lt_trans hV1 hA2) hV2 h2).2.2.2.1 y.1), up_ne (fun y => h1 (by have := y.1; omega)), up_ne (fun y => hf.2.2.2.1 y.1)]
        exact f1 _ _ (fun y => hf.1 y.1) (fun y => hf.2.1 y.1) (fun y => hf.2.2.1 y.1) hf.2.2.2.1 hf.2.2.2.2.1 hf.2.2.2.2.2
      · simp only [hM, ab_up_2, hne, hn0, hn6, hnv, hnv2, hnv6, hnw, hnw2, hnw6, hnvw, Nat.reduceEqDiff, if_true, if_false, ite_self]
        exact y0
      · simp only [hM, ab_up_2, hne, hn0, hn6, hnv, hnv2, hnv6, hnw, hnw2, hnw6, hnvw, Nat.reduceEqDiff, if_true, if_false, ite_self]
        exact y1
      · simp only [hM, ab_up_2, hne, hn0, hn6, hnv, hnv2, hnv6, hnw, hnw2, hnw6, hnvw, Nat.reduceEqDiff, if_true, if_false, ite_self]
        exact y2
      · simp only [hM, ab_up_2, hne, hn0, hn6, hnv, hnv2, hnv6, hnw, hnw2, hnw6, hnvw, Nat.reduceEqDiff, if_true, if_false, ite_self]
        exact y3
      · simp only [hM, ab_up_2, hne, hn0, hn6, hnv, hnv2, hnv6, hnw, hnw2, hnw6, hnvw, Nat.reduceEqDiff, if_true, if_false, ite_self]
        exact y6
      · simp only [hM, ab_up_2, hne, hn0, hn6, hnv, hnv2, hnv6, hnw, hnw2, hnw6, hnvw, Nat.reduceEqDiff, if_true, if_false, ite_self]
        exact y7
      · simp only [hM, ab_up_2, hne, hn0, hn6, hnv, hnv2, hnv6, hnw, hnw2, hnw6, hnvw, Nat.reduceEqDiff, if_true, if_false, ite_self]
        rw [if_neg (Nat.ne_of_gt hd0)]
      · simp only [hM, ab_up_2, hne, hn0, hn6, hnv, hnv2, hnv6, hnw, hnw2, hnw6, hnvw, Nat.reduceEqDiff, if_true, if_false, ite_self]
        rw [if_neg (Nat.ne_of_gt hd0)]
      · simp only [hM, ab_up_2, hne, hn0, hn6, hnv, hnv2, hnv6, hnw, hnw2, hnw6, hnvw, Nat.reduceEqDiff, if_true, if_false, ite_self]
        exact y10
      · simp only [hM, ab_up_2, hne, hn0, hn6, hnv, hnv2, hnv6, hnw, hnw2, hnw6, hnvw, Nat.reduceEqDiff, if_true, if_false, ite_self]
      · simp only [hM, ab_up_2, hne, hn0, hn6, hnv, hnv2, hnv6, hnw, hnw2, hnw6, hnvw, Nat.reduceEqDiff, if_true, if_false, ite_self]
        exact y14
      · simp only [hM, ab_up_2, hne, hn0, hn6, hnv, hnv2, hnv6, hnw, hnw2, hnw6, hnvw, Nat.reduceEqDiff, if_true, if_false, ite_self]
        exact v1
      · simp only [hM, ab_up_2, hne, hn0, hn6, hnv, hnv2, hnv6, hnw, hnw2, hnw6, hnvw, Nat.reduceEqDiff, if_true, if_false, ite_self]
        exact v2
      · simp only [hM, ab_up_2, hne, hn0, hn6, hnv, hnv2, hnv6, hnw, hnw2, hnw6, hnvw, Nat.reduceEqDiff, if_true, if_false, ite_self]
        exact v3
      · simp only [hM, ab_up_2, hne, hn0, hn6, hnv, hnv2, hnv6, hnw, hnw2, hnw6, hnvw, Nat.reduceEqDiff, if_true, if_false, ite_self]
        exact v4
      · simp only [hM, ab_up_2, hne, hn0, hn6, hnv, hnv2, hnv6, hnw, hnw2, hnw6, hnvw, Nat.reduceEqDiff, if_true, if_false, ite_self]
      · simp only [hM, ab_up_2, hne, hn0, hn6, hnv, hnv2, hnv6, hnw, hnw2, hnw6, hnvw, Nat.reduceEqDiff, if_true, if_false, ite_self]
      · simp only [hM, ab_up_2, hne, hn0, hn6, hnv, hnv2, hnv6, hnw, hnw2, hnw6, hnvw, Nat.reduceEqDiff, if_true, if_false, ite_self]
      · simp only [hM, ab_up_2, hne, hn0, hn6, hnv, hnv2, hnv6, hnw, hnw2, hnw6, hnvw, Nat.reduceEqDiff, if_true, if_false, ite_self]
      · simp only [hM, ab_up_2, hne, hn0, hn6, hnv, hnv2, hnv6, hnw, hnw2, hnw6, hnvw, Nat.reduceEqDiff, if_true, if_false, ite_self]
      · simp only [hM, ab_up_2, hne, hn0, hn6, hnv, hnv2, hnv6, hnw, hnw2, hnw6, hnvw, Nat.reduceEqDiff, if_true, if_false, ite_self]
      · simp only [hM, ab_up_2, hne, hn0, hn6, hnv, hnv2, hnv6, hnw, hnw2, hnw6, hnvw, Nat.reduceEqDiff, if_true, if_false, ite_self]
      · refine ⟨?_, ?_⟩
        · simp only [hM, ab_up_2, hne, hn0, hn6, hnv, hnv2, hnv6, hnw, hnw2, hnw6, hnvw, Nat.reduceEqDiff, if_true, if_false, ite_self]
        · simp only [hM, ab_up_2, hne, hn0, hn6, hnv, hnv2, hnv6, hnw, hnw2, hnw6, hnvw, Nat.reduceEqDiff, if_true, if_false, ite_self]
          rw [if_neg hpv]
          exact f1 _ _ (fun y => hnw.2.1.2.2.2.2.2.2.2.2.1 y.1) (fun y => hnw.2.1.2.2.2.2.2.2.2.2.2.2.1 y.1) (fun y => hnw.2.1.2.2.2.2.2.2.2.2.2.2.2.2.1 y.1) hnw2.2.2.2.2.2.2.2.1 hnw2.2.2.2.2.2.2.2.2.2.2.2.1 hnw2.2.2.2.2.2.2.2.2.2.2.2.2.2.2.2.1

