/-! the code of a tree -/
abbrev co_I : Type := Int × Int × List Int × Int × Bool
def co_of (x : em_I) : co_I := (x.1, x.2.1, x.2.2.2, 0, false)
/-- throws come to a row -/
def co_pa (κ : Int) (L : List co_I) : List co_I := L.map fun I => if I.2.2.2.2 = true then (I.1, I.2.1, I.2.2.1, κ, false) else I
theorem co_pa_len (κ : Int) (L : List co_I) : (co_pa κ L).length = L.length := List.length_map ..
def co_w (P : pz_P) (mk : Int) (c : Nat) : List co_I := (((2, (c : Int), ((P.2.2.2.length : Nat) : Int), P.2.2.2) :: em_h mk 4) ++ [((3 : Int), (0 : Int), ((P.2.2.2.length : Nat) : Int), P.2.2.2)]).map co_of
def co_P (md : Int) (P : pz_P) (mk : Int) (A B : Nat → List co_I) (r c : Nat) : List co_I :=
  if P.1 = 0 then [(0, P.2.1, P.2.2.1, 0, false)]
  else if P.1 = 1 then [(1, P.2.1, [], 0, false)]
  else if P.1 = 2 then [(2, (c : Int), P.2.2.1, 0, false)]
  else if P.1 = 3 then [(3, 0, P.2.2.1, 0, false)]
  else if P.1 = 4 then [(5, 0, [], -1, true)]
  else if P.1 = 5 then [(2, (c : Int), P.2.2.1, 0, false), (1, P.2.1, [], 0, false), (3, 0, P.2.2.2, 0, false)]
  else if P.1 = 6 then (4, 0, P.2.2.1, ((r + 1 + (A (r + 1)).length + 1 : Nat) : Int), false) :: (A (r + 1) ++ (5, 0, [], ((r + 1 + (A (r + 1)).length + 1 + (B (r + 1 + (A (r + 1)).length + 1)).length : Nat) : Int), false) :: B (r + 1 + (A (r + 1)).length + 1))
  else if P.1 = 7 then (if md = 1 then co_w P mk c ++ (4, 0, P.2.2.1, ((r + (co_w P mk c).length + 1 + (A (r + (co_w P mk c).length + 1)).length + 2 : Nat) : Int), false) :: (A (r + (co_w P mk c).length + 1) ++ [(2, (c : Int) + 1, P.2.2.2, 0, false), (6, 0, [], 0, false)])
    else (4, 0, P.2.2.1, ((r + 1 + (A (r + 1)).length + 1 : Nat) : Int), false) :: (A (r + 1) ++ [(5, 0, [], (r : Int), false)]))
  else co_pa ((r + (A r).length + 1 : Nat) : Int) (A r) ++ (5, 0, [], ((r + (A r).length + 1 + (B (r + (A r).length + 1)).length : Nat) : Int), false) :: B (r + (A r).length + 1)
def co_t (md : Int) : pz_T → Nat → Nat → List co_I
  | .leaf, _, _ => []
  | .inner _ P _ t (.inner _ _ _ a b), r, c => co_t md t r c ++ co_P md P (pz_mk (pz_md a)) (fun r' => co_t md a r' (c + pz_kn t + (pz_kd (P.1, 0, 0, 0, 0, 0, 0, 0)).length)) (fun r' => co_t md b r' (c + pz_kn t + (pz_kd (P.1, 0, 0, 0, 0, 0, 0, 0)).length + pz_kn a)) (r + (co_t md t r c).length) (c + pz_kn t)
  | .inner _ _ _ _ .leaf, _, _ => []
/-! rows in memory -/
def co_row (M : ab_M) (i : Nat) (I : co_I) (τ : Int) (a b : Nat) : Prop := M 818 i = I.1 ∧ M 819 i = I.2.1 ∧ (I.2.2.1 ≠ [] → ∀ s : Nat, s < 256 → M 822 (256 * i + s) = pz_val (s : Int) I.2.2.1) ∧ M 820 i = I.2.2.2.1 ∧ (if I.2.2.2.2 = true then M 821 i = τ else (M 821 i = -9 ∨ ((a : Int) ≤ M 821 i ∧ M 821 i < (b : Int))))
def co_rows (M : ab_M) (r : Nat) (L : List co_I) (τ : Int) (a b : Nat) : Prop := ∀ (i : Nat) (I : co_I), L[i]? = some I → co_row M (r + i) I τ a b
def co_same (M M' : ab_M) (i : Nat) : Prop := (∀ o, 818 ≤ o → o ≤ 821 → M' o i = M o i) ∧ ∀ s, s < 256 → M' 822 (256 * i + s) = M 822 (256 * i + s)
theorem co_same.tr {A B C : ab_M} {i : Nat} (h : co_same A B i) (h' : co_same B C i) : co_same A C i := ⟨fun o x y => (h'.1 o x y).trans (h.1 o x y), fun s x => (h'.2 s x).trans (h.2 s x)⟩
theorem co_row.same {M M' : ab_M} {i : Nat} {I : co_I} {τ : Int} {a b : Nat} (h : co_row M i I τ a b) (s : co_same M M' i) : co_row M' i I τ a b := by
  obtain ⟨h1, h2, h3, h4, h5⟩ := h
  obtain ⟨s1, s2⟩ := s
  refine ⟨(s1 818 (by decide) (by decide)).trans h1, (s1 819 (by decide) (by decide)).trans h2, fun w k hk => (s2 k hk).trans (h3 w k hk), (s1 820 (by decide) (by decide)).trans h4, ?_⟩
  rw [s1 821 (by decide) (by decide)]
  exact h5
theorem co_row.wd {M : ab_M} {i : Nat} {I : co_I} {τ : Int} {a b a' b' : Nat} (h : co_row M i I τ a b) (ha : a' ≤ a) (hb : b ≤ b') : co_row M i I τ a' b' := by
  obtain ⟨h1, h2, h3, h4, h5⟩ := h
  refine ⟨h1, h2, h3, h4, ?_⟩
  by_cases c : I.2.2.2.2 = true
  · rw [if_pos c] at h5 ⊢; exact h5
  · rw [if_neg c] at h5 ⊢
    exact h5.imp id fun q => by omega
theorem co_rows.app {M : ab_M} {r : Nat} {A B : List co_I} {τ : Int} {a b : Nat} (h : co_rows M r A τ a b) (h' : co_rows M (r + A.length) B τ a b) : co_rows M r (A ++ B) τ a b := fun i I hi => by
  by_cases c : i < A.length
  · rw [List.getElem?_append_left c] at hi; exact h i I hi
  · rw [List.getElem?_append_right (by omega)] at hi
    have := h' _ I hi
    rw [show r + A.length + (i - A.length) = r + i by omega] at this
    exact this
theorem co_rows.same {M M' : ab_M} {r : Nat} {A : List co_I} {τ : Int} {a b : Nat} (h : co_rows M r A τ a b) (s : ∀ i, r ≤ i → i < r + A.length → co_same M M' i) : co_rows M' r A τ a b := fun i I hi => (h i I hi).same (s _ (by omega) (by have := (List.getElem?_eq_some_iff.1 hi).1; omega))
theorem co_rows.wd {M : ab_M} {r : Nat} {A : List co_I} {τ : Int} {a b a' b' : Nat} (h : co_rows M r A τ a b) (ha : a' ≤ a) (hb : b ≤ b') : co_rows M r A τ a' b' := fun i I hi => (h i I hi).wd ha hb
/-- from one memory to another these rows are written -/
def co_B (A B : ab_M) (a b r : Nat) (L : List co_I) (τ : Int) : Prop := A 797 33 = (r : Int) ∧ B 797 33 = ((r + L.length : Nat) : Int) ∧ co_rows B r L τ a b ∧ (∀ i, i < r → co_same A B i) ∧ (B 797 27 = A 797 27 ∧ ∀ k : Nat, (k : Int) < A 797 27 → B 815 k = A 815 k) ∧ ∀ k, ¬ (a ≤ k ∧ k < b) → B 823 k = A 823 k ∧ B 824 k = A 824 k
theorem co_B.tr {A B C : ab_M} {a b a' b' r : Nat} {L L' : List co_I} {τ : Int} (a0 b0 : Nat) (h : co_B A B a b r L τ) (h' : co_B B C a' b' (r + L.length) L' τ) (h1 : a0 ≤ a) (h2 : a0 ≤ a') (h3 : b ≤ b0) (h4 : b' ≤ b0) : co_B A C a0 b0 r (L ++ L') τ := by
  obtain ⟨x1, x2, x3, x4, ⟨x5, x6⟩, x7⟩ := h
  obtain ⟨y1, y2, y3, y4, ⟨y5, y6⟩, y7⟩ := h'
  refine ⟨x1, by rw [y2, List.length_append, Nat.add_assoc], ((x3.wd h1 h3).same fun i _ hi => y4 i hi).app (y3.wd h2 h4), fun i hi => (x4 i hi).tr (y4 i (by omega)), ⟨y5.trans x5, fun k hk => (y6 k (by omega)).trans (x6 k hk)⟩, fun k hk => ⟨((y7 k (by omega)).1).trans (x7 k (by omega)).1, ((y7 k (by omega)).2).trans (x7 k (by omega)).2⟩⟩
theorem co_B.wd {A B : ab_M} {a b a' b' r : Nat} {L : List co_I} {τ : Int} (h : co_B A B a b r L τ) (ha : a' ≤ a) (hb : b ≤ b') : co_B A B a' b' r L τ := ⟨h.1, h.2.1, h.2.2.1.wd ha hb, h.2.2.2.1, h.2.2.2.2.1, fun k hk => h.2.2.2.2.2 k (by omega)⟩
theorem co_B.left {A A1 B : ab_M} {a b r : Nat} {L : List co_I} {τ : Int} (h : co_B A1 B a b r L τ) (hf : ∀ o k : Nat, o ≠ 823 → o ≠ 824 → A1 o k = A o k) (hh : ∀ k, ¬ (a ≤ k ∧ k < b) → A1 823 k = A 823 k ∧ A1 824 k = A 824 k) : co_B A B a b r L τ := by
  obtain ⟨x1, x2, x3, x4, ⟨x5, x6⟩, x7⟩ := h
  rw [hf 797 _ (by decide) (by decide)] at x1 x5 x6
  refine ⟨x1, x2, x3, fun i hi => ?_, ⟨x5, fun k hk => by rw [x6 k hk, hf _ _ (by decide) (by decide)]⟩, fun k hk => ⟨((x7 k hk).1).trans (hh k hk).1, ((x7 k hk).2).trans (hh k hk).2⟩⟩
  obtain ⟨s1, s2⟩ := x4 i hi
  exact ⟨fun o p q => by rw [s1 o p q, hf _ _ (by omega) (by omega)], fun s hs => by rw [s2 s hs, hf _ _ (by decide) (by decide)]⟩
theorem em_P.B {A B : ab_M} {op q nn : Int} {w : List Int} (h : em_P A B op q nn w) (hw : w ≠ [] → 0 < nn) {r : Nat} (hr : A 797 33 = (r : Int)) (a b : Nat) (τ : Int) : co_B A B a b r [(op, q, w, 0, false)] τ := by
  obtain ⟨⟨h1, h2, h3, h4, h5, h6⟩, h7⟩ := h
  rw [hr, show ((r : Int)).toNat = r from rfl] at h1 h2 h3 h4 h5 h6
  refine ⟨hr, by rw [h7, hr]; rfl, fun i I hi => ?_, fun i hi => ⟨fun o x y => h6 o i (by omega) (by omega) (by omega) (by omega), fun s hs => h6 822 _ (by omega) (by omega) (by omega) (by omega)⟩, ⟨h6 _ _ (by omega) (by omega) (by omega) (by omega), fun k _ => h6 _ _ (by omega) (by omega) (by omega) (by omega)⟩, fun k _ => ⟨h6 _ _ (by omega) (by omega) (by omega) (by omega), h6 _ _ (by omega) (by omega) (by omega) (by omega)⟩⟩
  cases i with
  | zero =>
    have hi : some ((op, q, w, 0, false) : co_I) = some I := hi
    cases hi
    exact ⟨h1, h2, fun z s hs => h5 (hw z) s hs, h3, Or.inl h4⟩
  | succ i => cases hi
theorem em_L.B : ∀ {xs : List em_I} {A B : ab_M}, em_L xs A B → (∀ x ∈ xs, x.2.2.2 ≠ [] → 0 < x.2.2.1) → ∀ {r : Nat}, A 797 33 = (r : Int) → ∀ (a b : Nat) (τ : Int), co_B A B a b r (xs.map co_of) τ
  | [], A, B, h, _, r, hr, a, b, τ => by
    have h : B = A := h
    rw [h]
    exact ⟨hr, hr, fun i I hi => (by cases hi), fun _ _ => ⟨fun _ _ _ => rfl, fun _ _ => rfl⟩, ⟨rfl, fun _ _ => rfl⟩, fun _ _ => ⟨rfl, rfl⟩⟩
  | x :: xs, A, B, ⟨C, h1, h2⟩, hx, r, hr, a, b, τ => by
    have k1 := h1.B (hx x List.mem_cons_self) hr a b τ
    exact k1.tr a b (em_L.B h2 (fun y hy => hx y (List.mem_cons_of_mem _ hy)) k1.2.1 a b τ) (Nat.le_refl _) (Nat.le_refl _) (Nat.le_refl _) (Nat.le_refl _)
/-- a target is put in -/
theorem co_B.u7 {A B : ab_M} {a b r : Nat} {L1 L2 : List co_I} {τ op q t : Int} {w : List Int} {f : Bool} (h : co_B A B a b r (L1 ++ (op, q, w, t, f) :: L2) τ) {j : Nat} (hj : j = r + L1.length) (v : Int) : co_B A (ab_up B 820 j v) a b r (L1 ++ (op, q, w, v, f) :: L2) τ := by
  obtain ⟨x1, x2, x3, x4, ⟨x5, x6⟩, x7⟩ := h
  refine ⟨x1, ?_, fun i I hi => ?_, fun i hi => ?_, ⟨by rw [up_ne (by omega)]; exact x5, fun k hk => by rw [up_ne (by omega)]; exact x6 k hk⟩, fun k hk => by rw [up_ne (by omega), up_ne (by omega)]; exact x7 k hk⟩
  · rw [up_ne (by omega), x2]
    simp only [List.length_append, List.length_cons]
  · by_cases c : i = L1.length
    · subst c
      rw [List.getElem?_append_right (Nat.le_refl _), Nat.sub_self] at hi
      have hi : some ((op, q, w, v, f) : co_I) = some I := hi
      cases hi
      obtain ⟨y1, y2, y3, y4, y5⟩ := x3 L1.length (op, q, w, t, f) (by rw [List.getElem?_append_right (Nat.le_refl _), Nat.sub_self]; rfl)
      refine ⟨by rw [up_ne (by omega)]; exact y1, by rw [up_ne (by omega)]; exact y2, fun z s hs => by rw [up_ne (by omega)]; exact y3 z s hs, by rw [hj, ab_up_s], ?_⟩
      rw [up_ne (by omega)]
      exact y5
    · have hi' : (L1 ++ (op, q, w, t, f) :: L2)[i]? = some I := by
        by_cases d : i < L1.length
        · rw [List.getElem?_append_left d] at hi ⊢; exact hi
        · rw [List.getElem?_append_right (by omega)] at hi ⊢
          obtain ⟨k, hk⟩ : ∃ k, i - L1.length = k + 1 := ⟨i - L1.length - 1, by omega⟩
          rw [hk] at hi ⊢
          exact hi
      refine (x3 i I hi').same ⟨fun o p q => up_ne (by omega), fun s hs => up_ne (by omega)⟩
  · exact (x4 i hi).tr ⟨fun o p q => up_ne (by omega), fun s hs => up_ne (by omega)⟩
theorem co_B.lt {A B : ab_M} {a b r : Nat} {L : List co_I} {τ : Int} (h : co_B A B a b r L τ) {b0 : Nat} (h0 : ∀ i, i < r → A 821 i < (b0 : Int)) (ht : τ < (b0 : Int)) (hb : b ≤ b0) : ∀ i, i < r + L.length → B 821 i < (b0 : Int) := fun i hi => by
  obtain ⟨-, -, x3, x4, -⟩ := h
  by_cases c : i < r
  · rw [(x4 i c).1 821 (by decide) (by decide)]; exact h0 i c
  · have hl : L[i - r]? = some L[i - r] := List.getElem?_eq_getElem (by omega)
    obtain ⟨-, -, -, -, y5⟩ := x3 _ _ hl
    rw [show r + (i - r) = i by omega] at y5
    split at y5
    · omega
    · omega
/-- a try's throws come to its second block -/
theorem co_B.pa {A B B' : ab_M} {a b r h : Nat} {L : List co_I} {κ : Int} (hB : co_B A B a b r L (h : Int)) (ha : h < a) (hb : a ≤ b) (h0 : ∀ i, i < r → A 821 i < (h : Int)) (hB' : ∀ o k : Nat, B' o k = if o = 820 ∧ (k : Int) < B 797 33 ∧ B 821 k = (h : Int) then κ else B o k) (τ : Int) : co_B A B' h b r (co_pa κ L) τ := by
  obtain ⟨x1, x2, x3, x4, ⟨x5, x6⟩, x7⟩ := hB
  have f : ∀ o k : Nat, o ≠ 820 → B' o k = B o k := fun o k z => by rw [hB', if_neg (fun y => z y.1)]
  refine ⟨x1, by rw [f _ _ (by decide), x2, co_pa_len], fun i I hi => ?_, fun i hi => ?_, ⟨by rw [f _ _ (by decide)]; exact x5, fun k hk => by rw [f _ _ (by decide)]; exact x6 k hk⟩, fun k hk => by rw [f _ _ (by decide), f _ _ (by decide)]; exact x7 k (by omega)⟩
  · unfold co_pa at hi
    rw [List.getElem?_map] at hi
    obtain ⟨J, hJ, rfl⟩ := Option.map_eq_some_iff.1 hi
    have hl := (List.getElem?_eq_some_iff.1 hJ).1
    obtain ⟨y1, y2, y3, y4, y5⟩ := x3 i J hJ
    by_cases c : J.2.2.2.2 = true
    · rw [if_pos c] at y5 ⊢
      refine ⟨by rw [f _ _ (by decide)]; exact y1, by rw [f _ _ (by decide)]; exact y2, fun z s hs => by rw [f _ _ (by decide)]; exact y3 z s hs, by rw [hB', if_pos ⟨rfl, by rw [x2]; omega, y5⟩], ?_⟩
      rw [f _ _ (by decide), y5]
      exact Or.inr ⟨Int.le_refl _, by omega⟩
    · rw [if_neg c] at y5 ⊢
      refine ⟨by rw [f _ _ (by decide)]; exact y1, by rw [f _ _ (by decide)]; exact y2, fun z s hs => by rw [f _ _ (by decide)]; exact y3 z s hs, by rw [hB', if_neg (fun z => by have := z.2.2; omega)]; exact y4, ?_⟩
      rw [if_neg c, f _ _ (by decide)]
      exact y5.imp id fun z => by omega
  · refine (x4 i hi).tr ⟨fun o p q => ?_, fun s hs => f _ _ (by decide)⟩
    rw [hB', if_neg (fun z => ?_)]
    have e8 := (x4 i hi).1 821 (by decide) (by decide)
    have := h0 i hi
    have := z.2.2
    omega
