/-! what a sweep closes -/
theorem sw_l_mem {M : ab_M} {low high a : Int} : ∀ k : Nat, a ∈ sw_l M low high k ↔ ∃ l : Nat, l < k ∧ low ≤ M 392 l ∧ M 392 l ≤ high ∧ a = ((122 + l : Nat) : Int)
  | 0 => ⟨fun h => absurd h List.not_mem_nil, fun ⟨_, h, _⟩ => absurd h (Nat.not_lt_zero _)⟩
  | k + 1 => by
    unfold sw_l
    rw [List.mem_append, sw_l_mem k]
    constructor
    · rintro (⟨l, h1, h2⟩ | h)
      · exact ⟨l, by omega, h2⟩
      · split at h
        · rename_i q
          exact ⟨k, by omega, q.1, q.2, by rw [List.mem_singleton.1 h]; omega⟩
        · exact absurd h List.not_mem_nil
    · rintro ⟨l, h1, h2, h3, h4⟩
      by_cases e : l = k
      · subst e
        exact Or.inr (by rw [if_pos ⟨h2, h3⟩, h4]; exact List.mem_singleton.2 (by omega))
      · exact Or.inl ⟨l, by omega, h2, h3, h4⟩
theorem sw_r_mem {M : ab_M} {cut high a : Int} : ∀ k : Nat, a ∈ sw_r M cut high k ↔ ∃ i : Nat, i < k ∧ (a = high - (i : Int) ∨ (cut = 1 ∧ M (st_at M (high - (i : Int))) 0 = 119 ∧ a = 126 + M (st_at M (high - (i : Int))) 5))
  | 0 => ⟨fun h => absurd h List.not_mem_nil, fun ⟨_, h, _⟩ => absurd h (Nat.not_lt_zero _)⟩
  | k + 1 => by
    unfold sw_r
    rw [List.mem_append, List.mem_append, sw_r_mem k]
    constructor
    · rintro (⟨l, h1, h2⟩ | h | h)
      · exact ⟨l, by omega, h2⟩
      · split at h
        · rename_i q
          exact ⟨k, by omega, Or.inr ⟨q.1, q.2, List.mem_singleton.1 h⟩⟩
        · exact absurd h List.not_mem_nil
      · exact ⟨k, by omega, Or.inl (List.mem_singleton.1 h)⟩
    · rintro ⟨i, h1, h2⟩
      by_cases e : i = k
      · subst e
        rcases h2 with h2 | ⟨h2, h3, h4⟩
        · exact Or.inr (Or.inr (List.mem_singleton.2 h2))
        · exact Or.inr (Or.inl (by rw [if_pos ⟨h2, h3⟩]; exact List.mem_singleton.2 h4))
      · exact Or.inl ⟨i, by omega, h2⟩
theorem st_at_in {M : ab_M} {r : Nat} (h : (r : Int) < M 26 3) : st_at M (r : Int) = 26 + 1 + 1 + 3 * r := by
  unfold st_at
  rw [if_pos ⟨by omega, h⟩]
  rfl
/-- the rows of a sweep, and those that belong to them -/
def gc_h (M : ab_M) (cut : Int) (r : Nat) (a : Int) : Prop := a = (r : Int) ∨ (cut = 1 ∧ M (26 + 1 + 1 + 3 * r) 0 = 119 ∧ a = 126 + M (26 + 1 + 1 + 3 * r) 5)
theorem sw_r_in {M : ab_M} {cut a : Int} {hi k : Nat} (h : (hi : Int) < M 26 3) (hk : k ≤ hi + 1) : a ∈ sw_r M cut (hi : Int) k ↔ ∃ r : Nat, hi < r + k ∧ r ≤ hi ∧ gc_h M cut r a := by
  rw [sw_r_mem]
  constructor
  · rintro ⟨i, h1, h2⟩
    refine ⟨hi - i, by omega, by omega, ?_⟩
    rw [show (hi : Int) - (i : Int) = ((hi - i : Nat) : Int) by omega, st_at_in (by omega)] at h2
    exact h2
  · rintro ⟨r, h1, h2, h3⟩
    refine ⟨hi - r, by omega, ?_⟩
    rw [show (hi : Int) - ((hi - r : Nat) : Int) = (r : Int) by omega, st_at_in (by omega)]
    exact h3
theorem sw_R_in {M : ab_M} {cut a : Int} {lo hi : Nat} (h : (hi : Int) < M 26 3) (hk : lo ≤ hi + 1) : a ∈ sw_R M (lo : Int) (hi : Int) cut ↔ (∃ l : Nat, (l : Int) < M 26 8 ∧ (lo : Int) ≤ M 392 l ∧ M 392 l ≤ (hi : Int) ∧ a = ((122 + l : Nat) : Int)) ∨ ∃ r : Nat, lo ≤ r ∧ r ≤ hi ∧ gc_h M cut r a := by
  unfold sw_R
  rw [List.mem_append, sw_l_mem, sw_r_in h (by omega)]
  constructor
  · rintro (⟨l, h1, h2⟩ | ⟨r, h1, h2⟩)
    · exact Or.inl ⟨l, by omega, h2⟩
    · exact Or.inr ⟨r, by omega, h2⟩
  · rintro (⟨l, h1, h2⟩ | ⟨r, h1, h2, h3⟩)
    · exact Or.inl ⟨l, by omega, h2⟩
    · exact Or.inr ⟨r, by omega, h2, h3⟩
/-- the place of a sweep's row belongs to the row -/
theorem gc_h_w {M : ab_M} (hL : gc_L M) {cut a : Int} {r j : Nat} (hr : (r : Int) < M 26 3) (h : gc_h M cut r a) (hj : ((j / 256 : Nat) : Int) = a) : gc_w M cut j r ∧ (((j / 256 : Nat) : Int) = (r : Int) ∨ (cut = 1 ∧ ∃ l : Nat, (l : Int) < M 26 8 ∧ M 392 l = (r : Int) ∧ j / 256 = 126 + l)) := by
  rcases h with h | ⟨h1, h2, h3⟩
  · exact ⟨Or.inl ⟨by omega, hr⟩, Or.inl (by omega)⟩
  · obtain ⟨l, e1, e2, e3, -⟩ := hL.2.2.1 r hr h2
    exact ⟨Or.inr (Or.inr ⟨h1, l, e1, by omega, e3⟩), Or.inr ⟨h1, l, e1, e3, by omega⟩⟩
theorem gc_h_rng {M : ab_M} (hL : gc_L M) (hp : ts_p M) {cut a : Int} {r : Nat} (hr : (r : Int) < M 26 3) (h : gc_h M cut r a) : (0 ≤ a ∧ a < 120) ∨ (126 ≤ a ∧ a < 130) := by
  have h3 := hL.1
  have h8 := hp.2.1
  rcases h with h | ⟨h1, h2, h3⟩
  · exact Or.inl (by omega)
  · obtain ⟨l, e1, e2, e3, -⟩ := hL.2.2.1 r hr h2
    exact Or.inr (by omega)
/-- rows of a sweep lead neither to themselves nor to rows before them -/
theorem gc_pw_h {M : ab_M} (hL : gc_L M) (hp : ts_p M) {a b : Int} {x r : Nat} (hx : (x : Int) < M 26 3) (hr : (r : Int) < M 26 3) (ha : gc_h M 1 x a) (hb : gc_h M 1 r b) (h : r < x ∨ r = x ∧ b = (r : Int) ∧ a ≠ b) : gc_pw M 1 a b := by
  have h3 := hL.1
  have h8 := hp.2.1
  have hne : a ≠ b := by
    rcases h with h | h
    · rcases ha with ha | ⟨-, ha2, ha⟩
      · rcases hb with hb | ⟨-, hb2, hb⟩
        · omega
        · obtain ⟨l, e1, e2, e3, -⟩ := hL.2.2.1 r hr hb2
          omega
      · obtain ⟨l, e1, e2, e3, -⟩ := hL.2.2.1 x hx ha2
        rcases hb with hb | ⟨-, hb2, hb⟩
        · omega
        · obtain ⟨l', e1', e2', e3', -⟩ := hL.2.2.1 r hr hb2
          intro q
          have : l = l' := by omega
          subst this
          omega
    · exact h.2.2
  refine ⟨hne, fun j hj p hm q => ?_⟩
  obtain ⟨hw, hj2⟩ := gc_h_w hL hx ha hj
  have hto := gc_succ hL hp hw hm
  have hb1 := gc_h_rng hL hp hr hb
  rcases hto with z | z | ⟨z1, z2, -⟩ | ⟨l, y, z1, z2, -⟩ | ⟨z0, z1, l, z2, z3, z4⟩ | ⟨z0, -⟩
  · omega
  · omega
  · rcases hb with hb | ⟨-, hb2, hb⟩
    · omega
    · obtain ⟨l', e1', e2', e3', -⟩ := hL.2.2.1 r hr hb2
      omega
  · omega
  · rcases hb with hb | ⟨-, hb2, hb⟩
    · omega
    · obtain ⟨l', e1', e2', e3', -⟩ := hL.2.2.1 r hr hb2
      have : l = l' := by omega
      subst this
      have : r = x := by omega
      rcases h with h | h
      · omega
      · omega
  · omega
theorem gc_self_h {M : ab_M} (hL : gc_L M) (hp : ts_p M) {cut a : Int} {x : Nat} (hx : (x : Int) < M 26 3) (ha : gc_h M cut x a) : ∀ j : Nat, ((j / 256 : Nat) : Int) = a → ∀ q ∈ gc_S M cut j, ((q.toNat / 256 : Nat) : Int) ≠ a := by
  have h3 := hL.1
  have h8 := hp.2.1
  intro j hj p hm q
  obtain ⟨hw, hj2⟩ := gc_h_w hL hx ha hj
  have hto := gc_succ hL hp hw hm
  have hb1 := gc_h_rng hL hp hx ha
  rcases hto with z | z | ⟨z1, z2, -⟩ | ⟨l, y, z1, z2, -⟩ | ⟨z0, z1, l, z2, z3, z4⟩ | ⟨z0, z1, l, z2, z3, z4⟩
  · omega
  · omega
  · rcases ha with hb | ⟨-, hb2, hb⟩
    · omega
    · obtain ⟨l', e1', e2', e3', -⟩ := hL.2.2.1 x hx hb2
      omega
  · omega
  · omega
  · omega
theorem gc_back_S {M : ab_M} (hL : gc_L M) (hp : ts_p M) {l : Nat} (hl : (l : Int) < M 26 8) {j : Nat} (hj : ((j / 256 : Nat) : Int) = ((122 + l : Nat) : Int)) : gc_S M 1 j = [] := by
  obtain ⟨r, y1, y2, -⟩ := hL.2.2.2.1 l hl
  unfold gc_S
  rw [hj, gc_fd_back hp.2.1.2 hl y2 y1, if_neg (by decide)]
theorem sw_r_pw {M : ab_M} (hL : gc_L M) (hp : ts_p M) {hi : Nat} (h : (hi : Int) < M 26 3) : ∀ k : Nat, k ≤ hi + 1 → (sw_r M 1 (hi : Int) k).Pairwise (gc_pw M 1)
  | 0, _ => List.Pairwise.nil
  | k + 1, hk => by
    unfold sw_r
    rw [show (hi : Int) - ((k : Nat) : Int) = ((hi - k : Nat) : Int) by omega, st_at_in (by omega)]
    rw [List.pairwise_append]
    have hr : ((hi - k : Nat) : Int) < M 26 3 := by omega
    have hmem : ∀ b ∈ ((if (1 : Int) = 1 ∧ M (26 + 1 + 1 + 3 * (hi - k)) 0 = 119 then [126 + M (26 + 1 + 1 + 3 * (hi - k)) 5] else []) ++ [((hi - k : Nat) : Int)]), gc_h M 1 (hi - k) b := fun b hb => by
      rcases List.mem_append.1 hb with hb | hb
      · split at hb
        · rename_i q
          exact Or.inr ⟨q.1, q.2, List.mem_singleton.1 hb⟩
        · exact absurd hb List.not_mem_nil
      · exact Or.inl (List.mem_singleton.1 hb)
    refine ⟨sw_r_pw hL hp h k (by omega), ?_, fun a ha b hb => ?_⟩
    · split
      · rename_i q
        refine List.pairwise_cons.2 ⟨fun b hb => ?_, List.pairwise_singleton _ _⟩
        have hb := List.mem_singleton.1 hb
        refine gc_pw_h hL hp hr hr (Or.inr ⟨rfl, q.2, rfl⟩) (Or.inl hb) (Or.inr ⟨rfl, hb, ?_⟩)
        obtain ⟨l', e1', e2', e3', -⟩ := hL.2.2.1 _ hr q.2
        have := hL.1
        omega
      · exact List.pairwise_singleton _ _
    · obtain ⟨x, x1, x2, x3⟩ := (sw_r_in h (by omega)).1 ha
      exact gc_pw_h hL hp (by omega) hr x3 (hmem b hb) (Or.inl (by omega))
theorem sw_l_pw {M : ab_M} (hL : gc_L M) (hp : ts_p M) {low high : Int} : ∀ k : Nat, (k : Int) ≤ M 26 8 → (sw_l M low high k).Pairwise (gc_pw M 1)
  | 0, _ => List.Pairwise.nil
  | k + 1, hk => by
    unfold sw_l
    rw [List.pairwise_append]
    refine ⟨sw_l_pw hL hp k (by omega), ?_, fun a ha b hb => ?_⟩
    · split
      · exact List.pairwise_singleton _ _
      · exact List.Pairwise.nil
    · obtain ⟨l, h1, -, -, h4⟩ := (sw_l_mem k).1 ha
      have hb : b = 122 + (k : Int) := by
        split at hb
        · exact List.mem_singleton.1 hb
        · exact absurd hb List.not_mem_nil
      refine ⟨by omega, fun j hj p hm => ?_⟩
      rw [gc_back_S hL hp (by omega) (hj.trans h4)] at hm
      exact absurd hm List.not_mem_nil
theorem sw_R_pw {M : ab_M} (hL : gc_L M) (hp : ts_p M) {lo hi : Nat} (h : (hi : Int) < M 26 3) (hk : lo ≤ hi + 1) : (sw_R M (lo : Int) (hi : Int) 1).Pairwise (gc_pw M 1) := by
  have h8 := hp.2.1
  unfold sw_R
  rw [List.pairwise_append]
  refine ⟨sw_l_pw hL hp _ (by omega), sw_r_pw hL hp h _ (by omega), fun a ha b hb => ?_⟩
  obtain ⟨l, h1, -, -, h4⟩ := (sw_l_mem _).1 ha
  obtain ⟨x, x1, x2, x3⟩ := (sw_r_in h (by omega)).1 hb
  have := gc_h_rng hL hp (by omega) x3
  refine ⟨by omega, fun j hj p hm => ?_⟩
  rw [gc_back_S hL hp (by omega) (hj.trans h4)] at hm
  exact absurd hm List.not_mem_nil
theorem sw_R_rng {M : ab_M} (hL : gc_L M) (hp : ts_p M) {cut a : Int} {lo hi : Nat} (h : (hi : Int) < M 26 3) (hk : lo ≤ hi + 1) (ha : a ∈ sw_R M (lo : Int) (hi : Int) cut) : 0 ≤ a ∧ a < 130 ∧ a ≠ 120 ∧ a ≠ 121 := by
  have h8 := hp.2.1
  rcases (sw_R_in h hk).1 ha with ⟨l, h1, h2, h3, h4⟩ | ⟨r, h1, h2, h3⟩
  · omega
  · have := gc_h_rng hL hp (by omega) h3
    omega
/-- a loop within a row of a single row is that row -/
theorem sw_R_one {M : ab_M} (hL : gc_L M) {a : Int} {r : Nat} (h : (r : Int) < M 26 3) (h0 : M (26 + 1 + 1 + 3 * r) 0 ≠ 119) {cut : Int} (ha : a ∈ sw_R M (r : Int) (r : Int) cut) : a = (r : Int) := by
  rcases (sw_R_in h (by omega)).1 ha with ⟨l, h1, h2, h3, h4⟩ | ⟨x, h1, h2, h3⟩
  · obtain ⟨y, y1, y2, y3, -⟩ := hL.2.2.2.1 l h1
    have : y = r := by omega
    subst this
    exact absurd y3 h0
  · have : x = r := by omega
    subst this
    rcases h3 with h3 | h3
    · exact h3
    · exact absurd h3.2.1 h0
/-- when all rows of a sweep say what they must -/
theorem sw_done {M : ab_M} (hL : gc_L M) (hp : ts_p M) {cut : Int} {lo hi : Nat} (h : (hi : Int) < M 26 3) (hk : lo ≤ hi + 1) {N : Nat → Int}
    (hcase : cut = 1 ∨ (lo = hi ∧ M (26 + 1 + 1 + 3 * hi) 0 ≠ 119) ∨ (sw_N M cut (sw_R M (lo : Int) (hi : Int) cut) N = N ∧ ∀ r ∈ sw_R M (lo : Int) (hi : Int) cut, rf_n M r cut N 256 = N)) :
    ∀ j : Nat, ((j / 256 : Nat) : Int) ∈ sw_R M (lo : Int) (hi : Int) cut → gx_cl (gc_S M cut) (gc_O M cut) (sw_N M cut (sw_R M (lo : Int) (hi : Int) cut) N) j := by
  have hpos : ∀ r ∈ sw_R M (lo : Int) (hi : Int) cut, 0 ≤ r := fun r hr => (sw_R_rng hL hp h hk hr).1
  intro j hj
  rcases hcase with rfl | ⟨rfl, hne⟩ | ⟨e1, e2⟩
  · rw [sw_N_p M 1 _ N hpos]
    refine gc_pass hp _ N (fun r hr => ?_) (sw_R_pw hL hp h hk) j hj
    obtain ⟨z1, z2, z3, z4⟩ := sw_R_rng hL hp h hk hr
    refine ⟨z1, z3, z4, ?_⟩
    rcases (sw_R_in h hk).1 hr with ⟨l, h1, h2, h3, h4⟩ | ⟨x, h1, h2, h3⟩
    · intro i hi' p hm
      rw [gc_back_S hL hp h1 (hi'.trans h4)] at hm
      exact absurd hm List.not_mem_nil
    · exact gc_self_h hL hp (by omega) h3
  · have hall : ∀ a ∈ sw_R M (lo : Int) (lo : Int) cut, a = (lo : Int) := fun a ha => sw_R_one hL h hne ha
    have hone : sw_R M (lo : Int) (lo : Int) cut = [(lo : Int)] := by
      unfold sw_R
      have e1 : sw_l M (lo : Int) (lo : Int) (M 26 8).toNat = [] := by
        refine List.eq_nil_iff_forall_not_mem.2 fun a ha => ?_
        have := hall a (List.mem_append.2 (Or.inl ha))
        obtain ⟨l, h1, h2⟩ := (sw_l_mem _).1 ha
        have := hL.1
        omega
      rw [e1, show ((lo : Int) - (lo : Int) + 1).toNat = 1 by omega]
      unfold sw_r
      rw [show (lo : Int) - ((0 : Nat) : Int) = (lo : Int) by omega, st_at_in h, if_neg (fun q => hne q.2)]
      rfl
    rw [sw_N_p M cut _ N hpos]
    rw [hone] at hj ⊢
    refine gc_pass hp _ N (fun r hr => ?_) (List.pairwise_singleton _ _) j hj
    have hr := List.mem_singleton.1 hr
    subst hr
    have := hL.1
    exact ⟨by omega, by omega, by omega, gc_self_h hL hp h (Or.inl rfl)⟩
  · rw [e1]
    obtain ⟨z1, z2, z3, z4⟩ := sw_R_rng hL hp h hk hj
    exact gc_same hp z1 z3 z4 (e2 _ hj) j rfl
/-! the rows that are done -/
def prC (M : ab_M) (cut row : Int) (N : Nat → Int) : Prop := (∀ j, j / 256 = 120 ∨ j / 256 = 121 → gx_cl (gc_S M cut) (gc_O M cut) N j) ∧ ∀ j q : Nat, gc_w M cut j q → row < (q : Int) → (∀ x : Nat, (x : Int) ≤ row → M (26 + 1 + 1 + 3 * x) 0 = 119 → x < q → ¬ (q : Int) ≤ M (26 + 1 + 1 + 3 * x) 14) → gx_cl (gc_S M cut) (gc_O M cut) N j
theorem prC.inner {M : ab_M} (hL : gc_L M) {cut : Int} {N : Nat → Int} {r : Nat} (hr : (r : Int) < M 26 3) (h : prC M cut (r : Int) N) (hin : ∃ x : Nat, x < r ∧ M (26 + 1 + 1 + 3 * x) 0 = 119 ∧ (r : Int) ≤ M (26 + 1 + 1 + 3 * x) 14) : prC M cut ((r : Int) - 1) N := by
  obtain ⟨x, x1, x2, x3⟩ := hin
  refine ⟨h.1, fun j q hw hq hx => ?_⟩
  have hqn := gc_w_lt hL hw
  have hqr : r < q := by
    refine Classical.byContradiction fun c => hx x (by omega) x2 (by omega) (by omega)
  refine h.2 j q hw (by omega) fun y y1 y2 y3 y4 => ?_
  by_cases e : y = r
  · subst e
    have := hL.2.2.2.2.1 x y x1 hr x3
    exact hx x (by omega) x2 (by omega) (by omega)
  · exact hx y (by omega) y2 y3 y4
/-- the last row of a sweep from a row on -/
def prH (M : ab_M) (r : Nat) : Int := if M (26 + 1 + 1 + 3 * r) 0 = 119 then M (26 + 1 + 1 + 3 * r) 14 else (r : Int)
theorem prH_rng {M : ab_M} (hL : gc_L M) {r : Nat} (hr : (r : Int) < M 26 3) : (r : Int) ≤ prH M r ∧ prH M r < M 26 3 := by
  unfold prH
  split
  · rename_i q
    obtain ⟨l, -, -, -, h⟩ := hL.2.2.1 r hr q
    exact ⟨h, hL.2.2.2.2.2.1 r hr⟩
  · omega
theorem prC.keep {M : ab_M} (hL : gc_L M) (hp : ts_p M) {cut : Int} {N : Nat → Int} {r : Nat} (hr : (r : Int) < M 26 3) (h : prC M cut (r : Int) N) : prC M cut (r : Int) (sw_N M cut (sw_R M (r : Int) (prH M r) cut) N) := by
  obtain ⟨b1, b2⟩ := prH_rng hL hr
  obtain ⟨hi, ehi⟩ : ∃ hi : Nat, prH M r = (hi : Int) := ⟨(prH M r).toNat, by omega⟩
  rw [ehi] at b1 b2 ⊢
  have hk : r ≤ hi + 1 := by omega
  have hpos : ∀ x ∈ sw_R M (r : Int) (hi : Int) cut, 0 ≤ x := fun x hx => (sw_R_rng hL hp b2 hk hx).1
  rw [sw_N_p M cut _ N hpos]
  have hno : ∀ j : Nat, ¬ ((j / 256 : Nat) : Int) ∈ sw_R M (r : Int) (hi : Int) cut → gx_p (gc_v M cut) N (gc_P (sw_R M (r : Int) (hi : Int) cut)) j = N j := fun j hj => gx_p_no _ _ _ fun hm => hj ((gc_P_mem hpos).1 hm)
  have h3 := hL.1
  have h8 := hp.2.1
  have hin : ∀ j q : Nat, gc_w M cut j q → (hi : Int) < (q : Int) → ¬ ((j / 256 : Nat) : Int) ∈ sw_R M (r : Int) (hi : Int) cut := fun j q hw hq hm => by
    have hqn := gc_w_lt hL hw
    rcases (sw_R_in b2 hk).1 hm with ⟨l, z1, z2, z3, z4⟩ | ⟨x, z1, z2, z3⟩
    · rcases hw with y | ⟨l', y1, y2, y3⟩ | ⟨-, l', y1, y2, y3⟩
      · omega
      · have : l = l' := by omega
        subst this
        omega
      · omega
    · have := gc_h_rng hL hp (by omega) z3
      rcases hw with y | ⟨l', y1, y2, y3⟩ | ⟨-, l', y1, y2, y3⟩
      · rcases z3 with z3 | z3
        · omega
        · obtain ⟨l', e1', e2', e3', -⟩ := hL.2.2.1 x (by omega) z3.2.1
          omega
      · omega
      · rcases z3 with z3 | z3
        · omega
        · obtain ⟨l2, e1', e2', e3', -⟩ := hL.2.2.1 x (by omega) z3.2.1
          have : l' = l2 := by omega
          subst this
          omega
  have hend : ∀ j : Nat, j / 256 = 120 ∨ j / 256 = 121 → ¬ ((j / 256 : Nat) : Int) ∈ sw_R M (r : Int) (hi : Int) cut := fun j hj hm => by
    have := sw_R_rng hL hp b2 hk hm
    omega
  refine ⟨fun j hj => gx_cl_fr (h.1 j hj) (hno j (hend j hj)) fun p hm => ?_, fun j q hw hq hx => ?_⟩
  · rw [gc_S_end hj] at hm
    exact absurd hm List.not_mem_nil
  · have hqhi : (hi : Int) < (q : Int) := by
      unfold prH at ehi
      split at ehi
      · rename_i c
        have := hx r (by omega) c (by omega)
        omega
      · omega
    have hqn := gc_w_lt hL hw
    refine gx_cl_fr (h.2 j q hw hq hx) (hno j (hin j q hw hqhi)) fun p hm => hno _ ?_
    rcases gc_to_w hqn (gc_succ hL hp hw hm) with z | z | ⟨q', z1, z2⟩
    · exact hend _ (Or.inl z)
    · exact hend _ (Or.inr z)
    · by_cases c : (hi : Int) < (q' : Int)
      · exact hin _ q' z1 c
      · rcases z2 with z2 | ⟨z2, z3⟩
        · omega
        · intro hR
          -- a loop around the row that is not in the sweep
          rcases gc_succ hL hp hw hm with y | y | ⟨y1, y2, -⟩ | ⟨l, x, y1, y2, y3, y4, y5⟩ | ⟨y0, y1, l, y2, y3, y4⟩ | ⟨y0, y1, -⟩
          · exact hend _ (Or.inl y) hR
          · exact hend _ (Or.inr y) hR
          · exact hin _ _ (Or.inl ⟨rfl, y2⟩) (by omega) hR
          · rcases (sw_R_in b2 hk).1 hR with ⟨l', w1, w2, w3, w4⟩ | ⟨x', w1, w2, w3⟩
            · have : l = l' := by omega
              subst this
              obtain ⟨y, u1, u2, u3, -⟩ := hL.2.2.2.1 l y1
              have : x = y := by omega
              subst this
              unfold prH at ehi
              split at ehi
              · rename_i c7
                by_cases e : x = r
                · subst e
                  omega
                · have := hL.2.2.2.2.1 r x (by omega) u1 (by omega)
                  omega
              · rename_i c7
                have : x = r := by omega
                subst this
                exact c7 u3
            · have := gc_h_rng hL hp (by omega) w3
              omega
          · exact hin _ q (Or.inr (Or.inr ⟨y0, l, y2, y4, y3⟩)) hqhi hR
          · exact hin _ q (Or.inl ⟨y1, hqn⟩) hqhi hR
theorem prC.next {M : ab_M} (hL : gc_L M) {cut : Int} {N : Nat → Int} {r : Nat} (hr : (r : Int) < M 26 3) (h : prC M cut (r : Int) N) (hd : ∀ j : Nat, ((j / 256 : Nat) : Int) ∈ sw_R M (r : Int) (prH M r) cut → gx_cl (gc_S M cut) (gc_O M cut) N j) : prC M cut ((r : Int) - 1) N := by
  obtain ⟨b1, b2⟩ := prH_rng hL hr
  refine ⟨h.1, fun j q hw hq hx => ?_⟩
  have hqn := gc_w_lt hL hw
  by_cases c : (q : Int) ≤ prH M r
  · refine hd j ?_
    obtain ⟨hi, ehi⟩ : ∃ hi : Nat, prH M r = (hi : Int) := ⟨(prH M r).toNat, by omega⟩
    rw [ehi] at c b1 b2 ⊢
    refine (sw_R_in b2 (by omega)).2 ?_
    rcases hw with ⟨y1, y2⟩ | ⟨l, y1, y2, y3⟩ | ⟨y0, l, y1, y2, y3⟩
    · exact Or.inr ⟨q, by omega, by omega, Or.inl (by omega)⟩
    · exact Or.inl ⟨l, y1, by omega, by omega, by omega⟩
    · obtain ⟨z, u1, u2, u3, u4⟩ := hL.2.2.2.1 l y1
      have : q = z := by omega
      subst this
      exact Or.inr ⟨q, by omega, by omega, Or.inr ⟨y0, u3, by omega⟩⟩
  · refine h.2 j q hw (by omega) fun x x1 x2 x3 x4 => ?_
    by_cases e : x = r
    · subst e
      unfold prH at c
      rw [if_pos x2] at c
      exact c x4
    · exact hx x (by omega) x2 x3 x4
