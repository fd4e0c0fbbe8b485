/-! cut runs: rows swept -/
/-- nothing but the notes and the places changes -/
def rn_f (M M' : ab_M) : Prop := ∀ o' k' : Nat, ¬ o' = 774 → ¬ o' = 773 → ¬ (o' = 772 ∧ k' = 3) → M' o' k' = M o' k'
theorem rn_f.e {M M1 : ab_M} (h : rn_f M M1) : ts_e M M1 := fun o' k' q => h o' k' (by omega) (by omega) (by omega)
theorem rn_f.rf (M : ab_M) : rn_f M M := fun _ _ _ _ _ => rfl
theorem rn_f.trans {M M1 M2 : ab_M} (h : rn_f M M1) (h' : rn_f M1 M2) : rn_f M M2 := fun o' k' a b c => (h' o' k' a b c).trans (h o' k' a b c)
theorem ts_f.n {M M1 : ab_M} (h : ts_f M M1) : rn_f M M1 := fun o' k' _ b c => h o' k' b c
theorem ts_f.m {M M1 : ab_M} (h : ts_f M M1) : M1 774 = M 774 := funext fun j => h 774 j (by decide) (fun q => absurd q.1 (by decide))
theorem rn_f.up {M M1 : ab_M} (h : rn_f M M1) (j : Nat) (x : Int) : rn_f M (ab_up M1 774 j x) := fun o k q a b => (ab_up_o q _).trans (h o k q a b)
theorem rn_f.tv {M M1 : ab_M} (h : rn_f M M1) (t s : Int) : tv M1 t s = tv M t s := ts_e_tv h.e t s
/-- the bits of the first places together -/
def lf_f (N : Nat → Int) (L : List Int) (a : Int) : Nat → Int
  | 0 => a
  | i + 1 => ab_lor (lf_f N L a i) (N (L.getD i 0).toNat)
theorem lf_f_b (N : Nat → Int) (L : List Int) (a : Int) (b : Nat) : ∀ i, (pz_lb (lf_f N L a i) b = true ↔ pz_lb a b = true ∨ ∃ k, k < i ∧ pz_lb (N (L.getD k 0).toNat) b = true)
  | 0 => ⟨Or.inl, fun h => h.elim id fun ⟨k, h, _⟩ => absurd h (Nat.not_lt_zero _)⟩
  | i + 1 => by
    show pz_lb (ab_lor (lf_f N L a i) (N (L.getD i 0).toNat)) b = true ↔ _
    rw [pz_lb_or, Bool.or_eq_true, lf_f_b N L a b i]
    constructor
    · rintro ((h | ⟨k, h1, h2⟩) | h)
      · exact Or.inl h
      · exact Or.inr ⟨k, by omega, h2⟩
      · exact Or.inr ⟨i, by omega, h⟩
    · rintro (h | ⟨k, h1, h2⟩)
      · exact Or.inl (Or.inl h)
      · by_cases e : k = i
        · subst e; exact Or.inr h2
        · exact Or.inl (Or.inr ⟨k, by omega, h2⟩)
theorem lf_f_all (N : Nat → Int) (L : List Int) (a : Int) (b : Nat) : pz_lb (lf_f N L a L.length) b = true ↔ pz_lb a b = true ∨ ∃ q ∈ L, pz_lb (N q.toNat) b = true := by
  rw [lf_f_b]
  constructor
  · rintro (h | ⟨k, hk, h2⟩)
    · exact Or.inl h
    · refine Or.inr ⟨L.getD k 0, ?_, h2⟩
      rw [List.getD_eq_getElem?_getD, List.getElem?_eq_getElem hk]
      exact List.getElem_mem hk
  · rintro (h | ⟨q, h1, h2⟩)
    · exact Or.inl h
    · obtain ⟨k, hk, e⟩ := List.getElem_of_mem h1
      refine Or.inr ⟨k, hk, ?_⟩
      rw [List.getD_eq_getElem?_getD, List.getElem?_eq_getElem hk, e]
      exact h2
/-! cut runs: each place that is swept has a rank, and leads to places of a greater one -/
def cu_rk (M : ab_M) (j k : Nat) : Prop := (((j / 256 : Nat) : Int) < M 26 3 ∧ k = 2 * (j / 256)) ∨ ∃ l q : Nat, (l : Int) < M 26 8 ∧ j / 256 = 126 + l ∧ M 392 l = (q : Int) ∧ k = 2 * q + 1
/-- the bits of a place are those that it must have -/
def cu_E (M : ab_M) (f : Int) (N : Nat → Int) (j : Nat) : Prop := ∀ b, b < 64 → (pz_lb (N j) b = true ↔ (f = 1 ∧ (pl_fd M ((j / 256 : Nat) : Int) ((j % 256 : Nat) : Int) 1).1 = (b : Int)) ∨ ∃ q ∈ gc_S M 1 j, pz_lb (N q.toNat) b = true)
theorem cu_rk_bd {M : ab_M} (hL : gc_L M) {j k : Nat} (h : cu_rk M j k) : (k : Int) ≤ 2 * M 26 3 - 1 ∧ (((j / 256 : Nat) : Int) < M 26 3 ∨ 126 ≤ j / 256) := by
  rcases h with h | ⟨l, q, h1, h2, h3, h4⟩
  · exact ⟨by omega, Or.inl h.1⟩
  · obtain ⟨r, y1, y2, -⟩ := hL.2.2.2.1 l h1
    exact ⟨by omega, Or.inr (by omega)⟩
theorem cu_rk_uq {M : ab_M} (hL : gc_L M) {j k k' : Nat} (h : cu_rk M j k) (h' : cu_rk M j k') : k = k' := by
  have h3 := hL.1
  rcases h with h | ⟨l, q, h1, h2, h3, h4⟩
  · rcases h' with h' | ⟨l', q', h1', h2', -⟩
    · omega
    · omega
  · rcases h' with h' | ⟨l', q', h1', h2', h3', h4'⟩
    · omega
    · have : l = l' := by omega
      subst this
      omega
theorem cu_rk_row {M : ab_M} (hL : gc_L M) {i j k : Nat} (h : cu_rk M i k) (h' : cu_rk M j k) : i / 256 = j / 256 := by
  rcases h with h | ⟨l, q, h1, h2, h3, h4⟩
  · rcases h' with h' | ⟨l', q', h1', h2', h3', h4'⟩
    · omega
    · omega
  · rcases h' with h' | ⟨l', q', h1', h2', h3', h4'⟩
    · omega
    · have e : q = q' := by omega
      subst e
      obtain ⟨r, y1, y2, y3, y4⟩ := hL.2.2.2.1 l h1
      obtain ⟨r', z1, z2, z3, z4⟩ := hL.2.2.2.1 l' h1'
      have er : r = q := by omega
      have er' : r' = q := by omega
      subst er
      subst er'
      omega
theorem cu_succ {M : ab_M} (hL : gc_L M) (hp : ts_p M) {j k : Nat} (h : cu_rk M j k) {p : Int} (hm : p ∈ gc_S M 1 j) : p.toNat / 256 = 120 ∨ p.toNat / 256 = 121 ∨ (∃ l x : Nat, (l : Int) < M 26 8 ∧ p.toNat / 256 = 122 + l ∧ M 392 l = (x : Int) ∧ 2 * x ≤ k ∧ (k : Int) ≤ 2 * M (26 + 1 + 1 + 3 * x) 14 + 1) ∨ ∃ k', cu_rk M p.toNat k' ∧ k < k' := by
  obtain ⟨q, hq, hqk, hown⟩ : ∃ q : Nat, gc_w M 1 j q ∧ (k = 2 * q ∨ k = 2 * q + 1) ∧ (j / 256 = q → k = 2 * q) := by
    rcases h with h | ⟨l, q, h1, h2, h3, h4⟩
    · exact ⟨j / 256, Or.inl ⟨rfl, h.1⟩, Or.inl h.2, fun _ => h.2⟩
    · obtain ⟨r, y1, y2, -⟩ := hL.2.2.2.1 l h1
      have := hL.1
      exact ⟨q, Or.inr (Or.inr ⟨rfl, l, h1, h2, h3⟩), Or.inr h4, fun e => by omega⟩
  rcases gc_succ hL hp hq hm with z | z | ⟨z1, z2, -⟩ | ⟨l, x, z1, z2, z3, z4, z5⟩ | ⟨-, z1, l, z2, z3, z4⟩ | ⟨z0, -⟩
  · exact Or.inl z
  · exact Or.inr (Or.inl z)
  · exact Or.inr (Or.inr (Or.inr ⟨2 * (p.toNat / 256), Or.inl ⟨z2, rfl⟩, by omega⟩))
  · exact Or.inr (Or.inr (Or.inl ⟨l, x, z1, z2, z3, by omega, by omega⟩))
  · exact Or.inr (Or.inr (Or.inr ⟨2 * q + 1, Or.inr ⟨l, q, z2, z4, z3, rfl⟩, by have := hown z1; omega⟩))
  · exact absurd z0 (by decide)
/-- while rows are swept: those of a greater rank are done -/
def cu_J (M M1 : ab_M) (f lo hi t k : Int) : Prop := rn_f M M1 ∧ (∀ j c : Nat, cu_rk M j c → (c : Int) ≤ 2 * hi + 1 → (t < (c : Int) ∨ ((c : Int) = t ∧ ((j % 256 : Nat) : Int) < k)) → cu_E M f (M1 774) j) ∧ ∀ j : Nat, (¬ ∃ c : Nat, cu_rk M j c ∧ 2 * lo ≤ (c : Int) ∧ (c : Int) ≤ 2 * hi + 1) → M1 774 j = M 774 j
theorem cu_J.start (M : ab_M) (f lo hi : Int) : cu_J M M f lo hi (2 * hi + 1) 0 := ⟨rn_f.rf M, fun j c _ h1 h2 => by omega, fun _ _ => rfl⟩
theorem cu_J.f {M M1 M2 : ab_M} {f lo hi t k : Int} (h : cu_J M M1 f lo hi t k) (h2 : ts_f M1 M2) : cu_J M M2 f lo hi t k := by
  have e := h2.m
  unfold cu_J
  rw [e]
  exact ⟨h.1.trans h2.n, h.2⟩
theorem cu_J.down {M M1 : ab_M} {f lo hi t k : Int} (h : cu_J M M1 f lo hi t k) (hk : 256 ≤ k) : cu_J M M1 f lo hi (t - 1) 0 := by
  refine ⟨h.1, fun j c h1 h2 h3 => h.2.1 j c h1 h2 ?_, h.2.2⟩
  have : j % 256 < 256 := Nat.mod_lt _ (by decide)
  omega
theorem cu_J.skip {M M1 : ab_M} (hL : gc_L M) {f lo hi : Int} {r : Nat} (hr : (r : Int) < M 26 3) (h : cu_J M M1 f lo hi (2 * (r : Int) + 1) 0) (h0 : M (26 + 1 + 1 + 3 * r) 0 ≠ 119) : cu_J M M1 f lo hi (2 * (r : Int) + 0) 0 := by
  refine ⟨h.1, fun j c h1 h2 h3 => ?_, h.2.2⟩
  by_cases e : (c : Int) = 2 * (r : Int) + 1
  · rcases h1 with z | ⟨l, q, z1, z2, z3, z4⟩
    · omega
    · obtain ⟨r', y1, y2, y3, y4⟩ := hL.2.2.2.1 l z1
      have : r' = r := by omega
      subst this
      exact absurd y3 h0
  · exact h.2.1 j c h1 h2 (by omega)
theorem cu_J.put {M M1 : ab_M} (hL : gc_L M) (hp : ts_p M) {f lo hi t k v : Int} {j0 c0 : Nat} (h : cu_J M M1 f lo hi t k) (hr : cu_rk M j0 c0) (ht : (c0 : Int) = t) (h0 : 2 * lo ≤ t) (h1 : t ≤ 2 * hi + 1) (hk : ((j0 % 256 : Nat) : Int) = k) (hv : ∀ b, b < 64 → (pz_lb v b = true ↔ (f = 1 ∧ (pl_fd M ((j0 / 256 : Nat) : Int) ((j0 % 256 : Nat) : Int) 1).1 = (b : Int)) ∨ ∃ q ∈ gc_S M 1 j0, pz_lb (M1 774 q.toNat) b = true)) : cu_J M (ab_up M1 774 j0 v) f lo hi t (k + 1) := by
  have hbd := cu_rk_bd hL hr
  have hL3 := hL.1
  -- what a place of no smaller rank leads to isn't the place
  have hne : ∀ j c : Nat, cu_rk M j c → t ≤ (c : Int) → ∀ q ∈ gc_S M 1 j, q.toNat ≠ j0 := fun j c hj hc q hq e => by
    rcases cu_succ hL hp hj hq with z | z | ⟨l, x, z1, z2, z3⟩ | ⟨k', z1, z2⟩
    · rw [e] at z; omega
    · rw [e] at z; omega
    · rw [e] at z2
      have := hp.2.1
      rcases hr with y | ⟨l', q', y1, y2, y3⟩
      · omega
      · omega
    · rw [e] at z1
      have := cu_rk_uq hL z1 hr
      omega
  refine ⟨h.1.up _ _, fun j c q1 q2 q3 => ?_, fun j hj => ?_⟩
  · by_cases e : j = j0
    · subst e
      intro b hb
      rw [ab_up_s, hv b hb]
      refine or_congr Iff.rfl ⟨fun ⟨q, a1, a2⟩ => ⟨q, a1, ?_⟩, fun ⟨q, a1, a2⟩ => ⟨q, a1, ?_⟩⟩
      · rw [ab_up_k (hne _ _ hr (by omega) q a1)]; exact a2
      · rw [ab_up_k (hne _ _ hr (by omega) q a1)] at a2; exact a2
    · have hE := h.2.1 j c q1 q2 (by
        rcases q3 with z | ⟨z1, z2⟩
        · exact Or.inl z
        · refine Or.inr ⟨z1, ?_⟩
          have hrow := cu_rk_row hL q1 (by rw [show c = c0 by omega]; exact hr)
          omega)
      intro b hb
      rw [ab_up_k e, hE b hb]
      refine or_congr Iff.rfl ⟨fun ⟨q, a1, a2⟩ => ⟨q, a1, ?_⟩, fun ⟨q, a1, a2⟩ => ⟨q, a1, ?_⟩⟩
      · rw [ab_up_k (hne _ _ q1 (by omega) q a1)]; exact a2
      · rw [ab_up_k (hne _ _ q1 (by omega) q a1)] at a2; exact a2
  · rw [ab_up_k (fun e => hj ⟨c0, by rw [e]; exact hr, by omega, by omega⟩)]
    exact h.2.2 j hj
/-- rows are swept -/
def cu_P (M M' : ab_M) (f lo hi : Int) : Prop := rn_f M M' ∧ (∀ j c : Nat, cu_rk M j c → 2 * lo ≤ (c : Int) → (c : Int) ≤ 2 * hi + 1 → cu_E M f (M' 774) j) ∧ ∀ j : Nat, (¬ ∃ c : Nat, cu_rk M j c ∧ 2 * lo ≤ (c : Int) ∧ (c : Int) ≤ 2 * hi + 1) → M' 774 j = M 774 j
theorem cu_J.fin {M M1 : ab_M} {f lo hi t : Int} (h : cu_J M M1 f lo hi t 0) (ht : t < 2 * lo) : cu_P M M1 f lo hi := ⟨h.1, fun j c h1 h2 h3 => h.2.1 j c h1 h3 (by omega), h.2.2⟩
/-- the row, or the head, that is swept -/
theorem cu_here {M : ab_M} (hL : gc_L M) (hp : ts_p M) {r : Nat} (hr : (r : Int) < M 26 3) {p k : Int} (hp0 : p = 0 ∨ (p = 1 ∧ M (26 + 1 + 1 + 3 * r) 0 = 119)) (hk0 : 0 ≤ k) (hk1 : k < 256) : (0 ≤ (if p = 1 then 126 + M (26 + 1 + 1 + 3 * r) 5 else (r : Int)) ∧ (if p = 1 then 126 + M (26 + 1 + 1 + 3 * r) 5 else (r : Int)) < 130) ∧ ∃ c0 : Nat, (c0 : Int) = 2 * (r : Int) + p ∧ cu_rk M ((if p = 1 then 126 + M (26 + 1 + 1 + 3 * r) 5 else (r : Int)) * 256 + k).toNat c0 := by
  have h3 := hL.1
  have h8 := hp.2.1
  rcases hp0 with e | ⟨e, h0⟩
  · subst e
    rw [if_neg (by decide)]
    refine ⟨⟨by omega, by omega⟩, 2 * r, by omega, Or.inl ⟨by omega, by omega⟩⟩
  · subst e
    rw [if_pos rfl]
    obtain ⟨l, y1, y2, y3, -⟩ := hL.2.2.1 r hr h0
    rw [y2]
    exact ⟨⟨by omega, by omega⟩, 2 * r + 1, by omega, Or.inr ⟨l, r, y1, by omega, y3, rfl⟩⟩
/-- notes of rows that are cleared -/
def cu_C (n : Int) (j : Nat) : Prop := j < 33280 ∧ (((j / 256 : Nat) : Int) < n ∨ 120 ≤ j / 256)
theorem pl_fd_end {M : ab_M} {r : Int} (h : r = 120 ∨ r = 121) (s cut : Int) : pl_fd M r s cut = (-1, []) := by
  unfold pl_fd
  rw [if_neg (by omega), if_neg (by omega), if_neg (by omega)]
/-- after all: a bit says what can come -/
theorem cu_all {M : ab_M} (hL : gc_L M) (hp : ts_p M) {N : Nat → Int} (hE : ∀ j c : Nat, cu_rk M j c → cu_E M 1 N j)
    (h0 : ∀ j : Nat, j / 256 = 120 → ∀ b, b < 64 → (pz_lb (N j) b = true ↔ b = 16)) (h1 : ∀ j : Nat, j / 256 = 121 → ∀ b, b < 64 → (pz_lb (N j) b = true ↔ b = 17))
    (h2 : ∀ j l : Nat, (l : Int) < M 26 8 → j / 256 = 122 + l → ∀ b, b < 64 → (pz_lb (N j) b = true ↔ (pl_fd M ((j / 256 : Nat) : Int) ((j % 256 : Nat) : Int) 1).1 = (b : Int))) {j b : Nat} (hb : b < 64) (hj : gc_D M 1 j) : pz_lb (N j) b = true ↔ ∃ n, gx_W (gc_S M 1) (fun i => gc_O M 1 i b) n j := by
  have h8 := hp.2.1
  have hL3 := hL.1
  -- the three kinds of places that are no rows
  have k0 : ∀ i : Nat, i / 256 = 120 → (pz_lb (N i) b = true ↔ ∃ n, gx_W (gc_S M 1) (fun i => gc_O M 1 i b) n i) := fun i hi => by
    rw [h0 i hi b hb]
    constructor
    · exact fun e => ⟨0, Or.inl ⟨hi, e⟩⟩
    · rintro ⟨n, hn⟩
      have hO : gc_O M 1 i b := by
        cases n with
        | zero => exact hn
        | succ n =>
          rcases hn with z | ⟨q, q1, -⟩
          · exact z
          · rw [gc_S_end (Or.inl hi)] at q1; exact absurd q1 List.not_mem_nil
      rcases hO with z | z | z
      · exact z.2
      · omega
      · rw [hi, show ((120 : Nat) : Int) = 120 from rfl, pl_fd_end (Or.inl rfl)] at z
        have z : (-1 : Int) = (b : Int) := z
        omega
  have k1 : ∀ i : Nat, i / 256 = 121 → (pz_lb (N i) b = true ↔ ∃ n, gx_W (gc_S M 1) (fun i => gc_O M 1 i b) n i) := fun i hi => by
    rw [h1 i hi b hb]
    constructor
    · exact fun e => ⟨0, Or.inr (Or.inl ⟨hi, e⟩)⟩
    · rintro ⟨n, hn⟩
      have hO : gc_O M 1 i b := by
        cases n with
        | zero => exact hn
        | succ n =>
          rcases hn with z | ⟨q, q1, -⟩
          · exact z
          · rw [gc_S_end (Or.inr hi)] at q1; exact absurd q1 List.not_mem_nil
      rcases hO with z | z | z
      · omega
      · exact z.2
      · rw [hi, show ((121 : Nat) : Int) = 121 from rfl, pl_fd_end (Or.inr rfl)] at z
        have z : (-1 : Int) = (b : Int) := z
        omega
  have k2 : ∀ i l : Nat, (l : Int) < M 26 8 → i / 256 = 122 + l → (pz_lb (N i) b = true ↔ ∃ n, gx_W (gc_S M 1) (fun i => gc_O M 1 i b) n i) := fun i l hl hi => by
    rw [h2 i l hl hi b hb]
    constructor
    · exact fun e => ⟨0, Or.inr (Or.inr e)⟩
    · rintro ⟨n, hn⟩
      have hO : gc_O M 1 i b := by
        cases n with
        | zero => exact hn
        | succ n =>
          rcases hn with z | ⟨q, q1, -⟩
          · exact z
          · rw [gc_back_S hL hp hl (by omega)] at q1; exact absurd q1 List.not_mem_nil
      rcases hO with z | z | z
      · omega
      · omega
      · exact z
  have key : ∀ d i c : Nat, cu_rk M i c → 300 ≤ c + d → (pz_lb (N i) b = true ↔ ∃ n, gx_W (gc_S M 1) (fun i => gc_O M 1 i b) n i) := by
    intro d
    induction d with
    | zero => intro i c hc h; have := cu_rk_bd hL hc; omega
    | succ d ih =>
      intro i c hc h
      have hbd := cu_rk_bd hL hc
      have hO : gc_O M 1 i b ↔ (pl_fd M ((i / 256 : Nat) : Int) ((i % 256 : Nat) : Int) 1).1 = (b : Int) := by
        constructor
        · rintro (z | z | z)
          · omega
          · omega
          · exact z
        · exact fun z => Or.inr (Or.inr z)
      have hS : ∀ q ∈ gc_S M 1 i, (pz_lb (N q.toNat) b = true ↔ ∃ n, gx_W (gc_S M 1) (fun i => gc_O M 1 i b) n q.toNat) := fun q hq => by
        rcases cu_succ hL hp hc hq with z | z | ⟨l, x, z1, z2, -⟩ | ⟨k', z1, z2⟩
        · exact k0 _ z
        · exact k1 _ z
        · exact k2 _ l z1 z2
        · exact ih _ k' z1 (by omega)
      rw [hE i c hc b hb]
      constructor
      · rintro (z | ⟨q, q1, q2⟩)
        · exact ⟨0, hO.2 z.2⟩
        · obtain ⟨n, hn⟩ := (hS q q1).1 q2
          exact ⟨n + 1, Or.inr ⟨q, q1, hn⟩⟩
      · rintro ⟨n, hn⟩
        cases n with
        | zero => exact Or.inl ⟨rfl, hO.1 hn⟩
        | succ n =>
          rcases hn with z | ⟨q, q1, q2⟩
          · exact Or.inl ⟨rfl, hO.1 z⟩
          · exact Or.inr ⟨q, q1, (hS q q1).2 ⟨n, q2⟩⟩
  rcases hj with z | z | ⟨q, hw⟩
  · exact k0 j z
  · exact k1 j z
  · rcases hw with ⟨z1, z2⟩ | ⟨l, z1, z2, -⟩ | ⟨-, l, z1, z2, z3⟩
    · exact key 300 j (2 * (j / 256)) (Or.inl ⟨by rw [z1]; exact z2, rfl⟩) (by omega)
    · exact k2 j l z1 z2
    · exact key 300 j (2 * q + 1) (Or.inr ⟨l, q, z1, z2, z3, rfl⟩) (by omega)
theorem gc_S_rng {M : ab_M} {cut : Int} {j : Nat} {p : Int} (h : p ∈ gc_S M cut j) : 0 ≤ p ∧ p < 33280 := pl_fd_g _ _ _ _ p h
/-- the ends of a loop's block: one word of the states -/
theorem cu_ends {M : ab_M} (hL : gc_L M) (hp : ts_p M) {l lr e w : Nat} (hl : (l : Int) < M 26 8) (hlr : M 392 l = (lr : Int)) (hw4 : w < 4) (he : M (26 + 1 + 1 + 3 * lr) 14 = (e : Int)) {N : Nat → Int}
    (hE : ∀ j c : Nat, cu_rk M j c → 2 * lr + 2 ≤ c → c ≤ 2 * e + 1 → cu_E M 0 N j)
    (hB : ∀ s : Nat, s < 256 → ∀ b, b < 64 → (pz_lb (N ((122 + l) * 256 + s)) b = true ↔ s = 64 * w + b))
    (hZ : ∀ j : Nat, (¬ ∃ c : Nat, cu_rk M j c ∧ 2 * lr + 2 ≤ c ∧ c ≤ 2 * e + 1) → j / 256 ≠ 122 + l → cu_C (M 26 3) j → N j = 0) {x b : Nat} (hx : x < 256) (hb : b < 64) :
    pz_lb (N (M (26 + 1 + 1 + 3 * lr) 17 * 256 + (x : Int)).toNat) b = true ↔ ∃ n, gx_W (gc_S M 1) (fun i => i = (122 + l) * 256 + (64 * w + b)) n (M (26 + 1 + 1 + 3 * lr) 17 * 256 + (x : Int)).toNat := by
  have h8 := hp.2.1
  have hL3 := hL.1
  obtain ⟨r', y1, y2, y3, y4⟩ := hL.2.2.2.1 l hl
  have : r' = lr := by omega
  subst this
  obtain ⟨l', u1, u2, u3, u4⟩ := hL.2.2.1 r' y1 y3
  have hen := hL.2.2.2.2.2.1 r' y1
  -- behind the block nothing is set, and nothing leads to the end
  have kz : ∀ j : Nat, kp_Z M l (M (26 + 1 + 1 + 3 * r') 14) j → j < 33280 → (pz_lb (N j) b = true ↔ ∃ n, gx_W (gc_S M 1) (fun i => i = (122 + l) * 256 + (64 * w + b)) n j) := fun j hj hjl => by
    have hno : ∀ n, ¬ gx_W (gc_S M 1) (fun i => i = (122 + l) * 256 + (64 * w + b)) n j := fun n hn => by
      refine kp_Z_no hL hp hl hlr (K := fun y => y ≠ 64 * w + b) n j hj (gx_W_mono (fun i hi => ?_) hn)
      subst hi
      exact ⟨by omega, fun z => z (by omega)⟩
    have h0 : N j = 0 := by
      refine hZ j ?_ ?_ ⟨hjl, ?_⟩
      · rintro ⟨c, c1, c2, c3⟩
        have hbd := cu_rk_bd hL c1
        rcases hj with z | z | ⟨l2, z1, z2, z3⟩ | ⟨q, z1, z2, z3⟩
        · omega
        · omega
        · omega
        · rcases z1 with ⟨a1, a2⟩ | ⟨l2, a1, a2, a3⟩ | ⟨-, l2, a1, a2, a3⟩
          · have := cu_rk_uq hL c1 (Or.inl ⟨by rw [a1]; exact a2, rfl⟩)
            omega
          · omega
          · have := cu_rk_uq hL c1 (Or.inr ⟨l2, q, a1, a2, a3, rfl⟩)
            omega
      · rcases hj with z | z | ⟨l2, z1, z2, z3⟩ | ⟨q, z1, z2, z3⟩ <;> omega
      · rcases hj with z | z | ⟨l2, z1, z2, z3⟩ | ⟨q, z1, z2, z3⟩
        · omega
        · omega
        · omega
        · rcases z1 with ⟨a1, a2⟩ | ⟨l2, a1, a2, a3⟩ | ⟨-, l2, a1, a2, a3⟩ <;> omega
    rw [h0, pz_lb_0]
    exact ⟨fun z => (by cases z), fun ⟨n, hn⟩ => absurd hn (hno n)⟩
  have kb : ∀ j : Nat, j / 256 = 122 + l → (pz_lb (N j) b = true ↔ ∃ n, gx_W (gc_S M 1) (fun i => i = (122 + l) * 256 + (64 * w + b)) n j) := fun j hj => by
    have := hB (j % 256) (Nat.mod_lt _ (by decide)) b hb
    rw [show (122 + l) * 256 + j % 256 = j by omega] at this
    rw [this]
    constructor
    · exact fun z => ⟨0, show j = (122 + l) * 256 + (64 * w + b) by omega⟩
    · rintro ⟨n, hn⟩
      have hO : j = (122 + l) * 256 + (64 * w + b) := by
        cases n with
        | zero => exact hn
        | succ n =>
          rcases hn with z | ⟨q, q1, -⟩
          · exact z
          · rw [gc_back_S hL hp hl (by omega)] at q1; exact absurd q1 List.not_mem_nil
      omega
  have hout : ∀ j c : Nat, cu_rk M j c → 2 * e + 1 < c → kp_Z M l (M (26 + 1 + 1 + 3 * r') 14) j := fun j c hc h => by
    have hbd := cu_rk_bd hL hc
    rcases hc with ⟨a1, a2⟩ | ⟨l2, q, a1, a2, a3, a4⟩
    · exact Or.inr (Or.inr (Or.inr ⟨j / 256, Or.inl ⟨rfl, a1⟩, by omega, by omega⟩))
    · exact Or.inr (Or.inr (Or.inr ⟨q, Or.inr (Or.inr ⟨rfl, l2, a1, a2, a3⟩), by omega, by omega⟩))
  have key : ∀ d i c : Nat, cu_rk M i c → 2 * r' + 2 ≤ c → c ≤ 2 * e + 1 → 300 ≤ c + d → (pz_lb (N i) b = true ↔ ∃ n, gx_W (gc_S M 1) (fun i => i = (122 + l) * 256 + (64 * w + b)) n i) := by
    intro d
    induction d with
    | zero => intro i c hc _ _ h; have := cu_rk_bd hL hc; omega
    | succ d ih =>
      intro i c hc hc1 hc2 h
      have hbd := cu_rk_bd hL hc
      have hS : ∀ q ∈ gc_S M 1 i, (pz_lb (N q.toNat) b = true ↔ ∃ n, gx_W (gc_S M 1) (fun i => i = (122 + l) * 256 + (64 * w + b)) n q.toNat) := fun q hq => by
        have hq2 := gc_S_rng hq
        rcases cu_succ hL hp hc hq with z | z | ⟨l2, x2, z1, z2, -⟩ | ⟨k', z1, z2⟩
        · exact kz _ (Or.inl z) (by omega)
        · exact kz _ (Or.inr (Or.inl z)) (by omega)
        · by_cases e2 : l2 = l
          · subst e2; exact kb _ z2
          · exact kz _ (Or.inr (Or.inr (Or.inl ⟨l2, z1, e2, z2⟩))) (by omega)
        · by_cases c3 : k' ≤ 2 * e + 1
          · exact ih _ k' z1 (by omega) c3 (by omega)
          · exact kz _ (hout _ _ z1 (by omega)) (by omega)
      rw [hE i c hc hc1 hc2 b hb]
      constructor
      · rintro (z | ⟨q, q1, q2⟩)
        · exact absurd z.1 (by decide)
        · obtain ⟨n, hn⟩ := (hS q q1).1 q2
          exact ⟨n + 1, Or.inr ⟨q, q1, hn⟩⟩
      · rintro ⟨n, hn⟩
        cases n with
        | zero =>
          have hn : i = (122 + l) * 256 + (64 * w + b) := hn
          omega
        | succ n =>
          rcases hn with z | ⟨q, q1, q2⟩
          · omega
          · exact Or.inr ⟨q, q1, (hS q q1).2 ⟨n, q2⟩⟩
  rcases (hL.2.1 r' y1).1 with z | z | z | ⟨l2, q, z1, z2, z3, z4, z5⟩
  · have hrk : cu_rk M (M (26 + 1 + 1 + 3 * r') 17 * 256 + (x : Int)).toNat (2 * (M (26 + 1 + 1 + 3 * r') 17).toNat) := Or.inl ⟨by omega, by omega⟩
    by_cases c3 : 2 * (M (26 + 1 + 1 + 3 * r') 17).toNat ≤ 2 * e + 1
    · exact key 300 _ _ hrk (by omega) c3 (by omega)
    · exact kz _ (hout _ _ hrk (by omega)) (by omega)
  · exact kz _ (Or.inl (by omega)) (by omega)
  · exact kz _ (Or.inr (Or.inl (by omega))) (by omega)
  · by_cases e2 : l2 = l
    · subst e2; exact kb _ (by omega)
    · exact kz _ (Or.inr (Or.inr (Or.inl ⟨l2, z2, e2, by omega⟩))) (by omega)

def S_X10_clearNotes : ab_PT := fun a M K => match a with
  | [.inr (.inr (.inr (780, 10, 0)))] => (0 ≤ M 26 3 ∧ M 26 3 ≤ 120) ∧ (∀ Mx : ab_M, ((∀ j : Nat, cu_C (M 26 3) j → Mx 774 j = 0) ∧ ∀ o' k' : Nat, o' ≠ 774 → Mx o' k' = M o' k') → K [] Mx)
  | _ => False
set_option maxRecDepth 20000 in
theorem vc_X10_clearNotes_0  (M : ab_M) (K : List ab_V → ab_M → Prop) (hS : (0 ≤ M 26 3 ∧ M 26 3 ≤ 120) ∧ (∀ Mx : ab_M, ((∀ j : Nat, cu_C (M 26 3) j → Mx 774 j = 0) ∧ ∀ o' k' : Nat, o' ≠ 774 → Mx o' k' = M o' k') → K [] Mx)) : (-32768 ≤ (256 : Int) ∧ (256 : Int) < 32768) ∧ (0 ≤ (0 : Int) ∧ (0 : Int) ≤ ((M 26 3) * (256 : Int)) ∧ ((M 26 3) * (256 : Int)) ≤ (33280 : Int) ∧ 33280 ≤ 65536) ∧ (∀ M17 : ab_M, (∀ o' k' : Nat, M17 o' k' = if o' = 774 ∧ (0 : Int) ≤ (k' : Int) ∧ (k' : Int) < ((M 26 3) * (256 : Int)) then ((0 : Nat) : Int) else M o' k') → (-32768 ≤ (30720 : Int) ∧ (30720 : Int) < 32768) ∧ (0 ≤ (30720 : Int) ∧ (30720 : Int) ≤ (33280 : Int) ∧ (33280 : Int) ≤ (33280 : Int) ∧ 33280 ≤ 65536) ∧ (∀ M30 : ab_M, (∀ o' k' : Nat, M30 o' k' = if o' = 774 ∧ (30720 : Int) ≤ (k' : Int) ∧ (k' : Int) < (33280 : Int) then ((0 : Nat) : Int) else M17 o' k') → K [] M30)) := by
  obtain ⟨g, gK⟩ := hS
  refine And.intro (by
    first
      | omega
      | exact ⟨by omega, by omega⟩
      | exact ⟨⟨by omega, by omega⟩, by omega, by omega⟩
      | trivial
      | exact ⟨by decide, by omega, by omega, by decide⟩
      | exact ⟨by decide, by decide, by decide, by decide⟩) ?_
  refine And.intro (by
    first
      | omega
      | exact ⟨by omega, by omega⟩
      | exact ⟨⟨by omega, by omega⟩, by omega, by omega⟩
      | trivial
      | exact ⟨by decide, by omega, by omega, by decide⟩
      | exact ⟨by decide, by decide, by decide, by decide⟩) ?_
  intro M17 hM17
  refine And.intro (by
    first
      | omega
      | exact ⟨by omega, by omega⟩
      | exact ⟨⟨by omega, by omega⟩, by omega, by omega⟩
      | trivial
      | exact ⟨by decide, by omega, by omega, by decide⟩
      | exact ⟨by decide, by decide, by decide, by decide⟩) ?_
  refine And.intro (by
    first
      | omega
      | exact ⟨by omega, by omega⟩
      | exact ⟨⟨by omega, by omega⟩, by omega, by omega⟩
      | trivial
      | exact ⟨by decide, by omega, by omega, by decide⟩
      | exact ⟨by decide, by decide, by decide, by decide⟩) ?_
  intro M30 hM30
  refine gK _ ⟨fun j hj => ?_, fun o' k' q => ?_⟩
  · rw [hM30, hM17]
    obtain ⟨j1, j2⟩ := hj
    rcases j2 with j2 | j2
    · rw [if_pos (c := 774 = 774 ∧ (0 : Int) ≤ (j : Int) ∧ (j : Int) < M 26 3 * 256) ⟨rfl, by omega, by omega⟩]
      split <;> rfl
    · rw [if_pos ⟨rfl, by omega, by omega⟩]
      rfl
  · rw [hM30, hM17, if_neg (fun z => q z.1), if_neg (fun z => q z.1)]

set_option maxRecDepth 20000 in
set_option maxHeartbeats 1000000 in
theorem ok_X10_clearNotes (E : ab_E) : ab_Ok E 3 194 S_X10_clearNotes := by
  refine ab_mk rq_X10_clearNotes tk_X10_clearNotes (rt := 0) (rfl) (cuts := []) (G := [(219, S_J7_fill_bad5a)]) (List.forall_mem_cons.mpr ⟨⟨2, by decide, ok_J7_fill_bad5a E⟩, fun _ h => absurd h List.not_mem_nil⟩) (by decide) 67 rfl ?_
  intro a M K wd wa hS
  unfold S_X10_clearNotes at hS
  split at hS
  ·
    refine ⟨Nat.le_of_ble_eq_true rfl, fun _ _ _ _ _ => False, ?_, ?_⟩
    · exact vc_X10_clearNotes_0  M K  hS
    · exact fun _ _ _ _ _ h => h.elim
  · exact hS.elim
def S_X10_noteSecondCheck : ab_PT := fun a M K => match a with
  | [.inr (.inr (.inr (780, 10, 0))), .inr (.inl row)] => ((ts_p M ∧ tv_ok M) ∧ 0 ≤ row ∧ row < 130) ∧ (∀ Mx : ab_M, (rn_f M Mx ∧ (∀ s : Nat, s < 256 → ∀ b, b < 64 → (pz_lb (Mx 774 (row.toNat * 256 + s)) b = true ↔ (pl_fd M row (s : Int) 1).1 = (b : Int))) ∧ ∀ j : Nat, ((j / 256 : Nat) : Int) ≠ row → Mx 774 j = M 774 j) → K [] Mx)
  | _ => False
set_option maxRecDepth 20000 in
theorem vc_X10_noteSecondCheck_0 (row : Int) (M : ab_M) (K : List ab_V → ab_M → Prop) (hS : ((ts_p M ∧ tv_ok M) ∧ 0 ≤ row ∧ row < 130) ∧ (∀ Mx : ab_M, (rn_f M Mx ∧ (∀ s : Nat, s < 256 → ∀ b, b < 64 → (pz_lb (Mx 774 (row.toNat * 256 + s)) b = true ↔ (pl_fd M row (s : Int) 1).1 = (b : Int))) ∧ ∀ j : Nat, ((j / 256 : Nat) : Int) ≠ row → Mx 774 j = M 774 j) → K [] Mx)) : (∃ n', ((n' = (256 - (0 : Int)).toNat ∧ row = row ∧ 0 ≤ (0 : Int) ∧ (0 : Int) ≤ 256 ∧ rn_f M M ∧ (∀ s : Nat, (s : Int) < (0 : Int) → ∀ b, b < 64 → (pz_lb (M 774 (row.toNat * 256 + s)) b = true ↔ (pl_fd M row (s : Int) 1).1 = (b : Int))) ∧ ∀ j : Nat, ((j / 256 : Nat) : Int) ≠ row → M 774 j = M 774 j))) := by
  obtain ⟨⟨⟨gp, gv⟩, gr0, gr1⟩, gK⟩ := hS
  exact ⟨_, rfl, rfl, by decide, by decide, rn_f.rf M, fun s hs => by omega, fun _ _ => rfl⟩

set_option maxRecDepth 20000 in
theorem vc_X10_noteSecondCheck_2 (row : Int) (M : ab_M) (K : List ab_V → ab_M → Prop) (hS : ((ts_p M ∧ tv_ok M) ∧ 0 ≤ row ∧ row < 130) ∧ (∀ Mx : ab_M, (rn_f M Mx ∧ (∀ s : Nat, s < 256 → ∀ b, b < 64 → (pz_lb (Mx 774 (row.toNat * 256 + s)) b = true ↔ (pl_fd M row (s : Int) 1).1 = (b : Int))) ∧ ∀ j : Nat, ((j / 256 : Nat) : Int) ≠ row → Mx 774 j = M 774 j) → K [] Mx)) (n : Nat) (r1 : Int) (k : Int) (M1 : ab_M) (hI : n = (256 - k).toNat ∧ row = r1 ∧ 0 ≤ k ∧ k ≤ 256 ∧ rn_f M M1 ∧ (∀ s : Nat, (s : Int) < k → ∀ b, b < 64 → (pz_lb (M1 774 (row.toNat * 256 + s)) b = true ↔ (pl_fd M row (s : Int) 1).1 = (b : Int))) ∧ ∀ j : Nat, ((j / 256 : Nat) : Int) ≠ row → M1 774 j = M 774 j) : (-32768 ≤ (256 : Int) ∧ (256 : Int) < 32768) ∧ (ab_ir k ∧ ab_ir (256 : Int)) ∧ (((256 : Int) ≤ k → K [] M1) ∧ (k < (256 : Int) → ((tv_ok M1 ∧ ts_p M1 ∧ 0 ≤ k ∧ k ≤ 255) ∧ (0 ≤ r1 ∧ r1 < 130) ∧ ab_ir (1 : Int)) ∧ (∀ r16 : Int, ∀ M16 : ab_M, (ts_L M16 (pl_fd M1 r1 k (1 : Int)).2 ∧ ts_f M1 M16) → (r16 = (pl_fd M1 r1 k (1 : Int)).1) → (-32768 ≤ (256 : Int) ∧ (256 : Int) < 32768) ∧ (ab_ir r16) ∧ ((r16 < 0 → (0 ≤ ((r1 * (256 : Int)) + k) ∧ ((r1 * (256 : Int)) + k) < ((33280 : Nat) : Int)) ∧ (∃ n', n' < n ∧ ((n' = (256 - (k + 1)).toNat ∧ row = r1 ∧ 0 ≤ (k + 1) ∧ (k + 1) ≤ 256 ∧ rn_f M (ab_up M16 774 (((r1 * (256 : Int)) + k).toNat) ((0 : Nat) : Int)) ∧ (∀ s : Nat, (s : Int) < (k + 1) → ∀ b, b < 64 → (pz_lb ((ab_up M16 774 (((r1 * (256 : Int)) + k).toNat) ((0 : Nat) : Int)) 774 (row.toNat * 256 + s)) b = true ↔ (pl_fd M row (s : Int) 1).1 = (b : Int))) ∧ ∀ j : Nat, ((j / 256 : Nat) : Int) ≠ row → (ab_up M16 774 (((r1 * (256 : Int)) + k).toNat) ((0 : Nat) : Int)) 774 j = M 774 j)))) ∧ (0 ≤ r16 → (0 ≤ ((r1 * (256 : Int)) + k) ∧ ((r1 * (256 : Int)) + k) < ((33280 : Nat) : Int)) ∧ (∃ n', n' < n ∧ ((n' = (256 - (k + 1)).toNat ∧ row = r1 ∧ 0 ≤ (k + 1) ∧ (k + 1) ≤ 256 ∧ rn_f M (ab_up M16 774 (((r1 * (256 : Int)) + k).toNat) (ab_lshl ((1 : Nat) : Int) r16)) ∧ (∀ s : Nat, (s : Int) < (k + 1) → ∀ b, b < 64 → (pz_lb ((ab_up M16 774 (((r1 * (256 : Int)) + k).toNat) (ab_lshl ((1 : Nat) : Int) r16)) 774 (row.toNat * 256 + s)) b = true ↔ (pl_fd M row (s : Int) 1).1 = (b : Int))) ∧ ∀ j : Nat, ((j / 256 : Nat) : Int) ≠ row → (ab_up M16 774 (((r1 * (256 : Int)) + k).toNat) (ab_lshl ((1 : Nat) : Int) r16)) 774 j = M 774 j)))))))) := by
  obtain ⟨hn, q1, hk0, hk1, hf, hI, hJ⟩ := hI
  subst q1
  obtain ⟨⟨⟨gp, gv⟩, gr0, gr1⟩, gK⟩ := hS
  have hp1 := ts_p_fr hf.e gp
  have hv1 := ts_e_ok hf.e gv
  have hcc := pl_fd_c gp row k 1
  refine And.intro (by
    first
      | omega
      | exact ⟨by omega, by omega⟩
      | exact ⟨⟨by omega, by omega⟩, by omega, by omega⟩
      | trivial
      | exact ⟨⟨hv1, hp1, by omega, by omega⟩, ⟨gr0, gr1⟩, by decide, by decide⟩
      | (have hcr : ab_ir r16 := ⟨by omega, by omega⟩; exact hcr)) ?_
  refine And.intro (by
    first
      | omega
      | exact ⟨by omega, by omega⟩
      | exact ⟨⟨by omega, by omega⟩, by omega, by omega⟩
      | trivial
      | exact ⟨⟨hv1, hp1, by omega, by omega⟩, ⟨gr0, gr1⟩, by decide, by decide⟩
      | (have hcr : ab_ir r16 := ⟨by omega, by omega⟩; exact hcr)) ?_
  refine ⟨?_, ?_⟩
  · intro c6
    refine gK _ ⟨hf, fun s hs => hI s (by omega), hJ⟩
  · intro c6
    refine And.intro (by
      first
        | omega
        | exact ⟨by omega, by omega⟩
        | exact ⟨⟨by omega, by omega⟩, by omega, by omega⟩
        | trivial
        | exact ⟨⟨hv1, hp1, by omega, by omega⟩, ⟨gr0, gr1⟩, by decide, by decide⟩
        | (have hcr : ab_ir r16 := ⟨by omega, by omega⟩; exact hcr)) ?_
    intro r16 M16 hM16 hr16
    rw [pl_fd_fr hf.e gp] at hr16 hM16
    rw [← hr16] at hcc
    refine And.intro (by
      first
        | omega
        | exact ⟨by omega, by omega⟩
        | exact ⟨⟨by omega, by omega⟩, by omega, by omega⟩
        | trivial
        | exact ⟨⟨hv1, hp1, by omega, by omega⟩, ⟨gr0, gr1⟩, by decide, by decide⟩
        | (have hcr : ab_ir r16 := ⟨by omega, by omega⟩; exact hcr)) ?_
    refine And.intro (by
      first
        | omega
        | exact ⟨by omega, by omega⟩
        | exact ⟨⟨by omega, by omega⟩, by omega, by omega⟩
        | trivial
        | exact ⟨⟨hv1, hp1, by omega, by omega⟩, ⟨gr0, gr1⟩, by decide, by decide⟩
        | (have hcr : ab_ir r16 := ⟨by omega, by omega⟩; exact hcr)) ?_
    refine ⟨?_, ?_⟩
    · intro c32
      refine And.intro (by
        first
          | omega
          | exact ⟨by omega, by omega⟩
          | exact ⟨⟨by omega, by omega⟩, by omega, by omega⟩
          | trivial
          | exact ⟨⟨hv1, hp1, by omega, by omega⟩, ⟨gr0, gr1⟩, by decide, by decide⟩
          | (have hcr : ab_ir r16 := ⟨by omega, by omega⟩; exact hcr)) ?_
      have hf2 := hf.trans hM16.2.n
      have e774 := hM16.2.m
      refine ⟨_, ?_, rfl, rfl, by omega, by omega, hf2.up _ _, fun s hs b hb => ?_, fun j hj => ?_⟩
      · omega
      · by_cases e : (s : Int) = k
        · rw [show row.toNat * 256 + s = (row * 256 + k).toNat by omega, ab_up_s, e, ← hr16]
          first
            | (rw [pz_lb_one (by omega) (by omega) hb, decide_eq_true_iff]
               exact ⟨Eq.symm, Eq.symm⟩)
            | (rw [pz_lb_n0]
               exact ⟨fun z => (by cases z), fun z => by omega⟩)
        · rw [ab_up_k (by omega), e774]
          exact hI s (by omega) b hb
      · rw [ab_up_k (by omega), e774]
        exact hJ j hj
    · intro c32
      refine And.intro (by
        first
          | omega
          | exact ⟨by omega, by omega⟩
          | exact ⟨⟨by omega, by omega⟩, by omega, by omega⟩
          | trivial
          | exact ⟨⟨hv1, hp1, by omega, by omega⟩, ⟨gr0, gr1⟩, by decide, by decide⟩
          | (have hcr : ab_ir r16 := ⟨by omega, by omega⟩; exact hcr)) ?_
      have hf2 := hf.trans hM16.2.n
      have e774 := hM16.2.m
      refine ⟨_, ?_, rfl, rfl, by omega, by omega, hf2.up _ _, fun s hs b hb => ?_, fun j hj => ?_⟩
      · omega
      · by_cases e : (s : Int) = k
        · rw [show row.toNat * 256 + s = (row * 256 + k).toNat by omega, ab_up_s, e, ← hr16]
          first
            | (rw [pz_lb_one (by omega) (by omega) hb, decide_eq_true_iff]
               exact ⟨Eq.symm, Eq.symm⟩)
            | (rw [pz_lb_n0]
               exact ⟨fun z => (by cases z), fun z => by omega⟩)
        · rw [ab_up_k (by omega), e774]
          exact hI s (by omega) b hb
      · rw [ab_up_k (by omega), e774]
        exact hJ j hj

set_option maxRecDepth 20000 in
set_option maxHeartbeats 1000000 in
theorem ok_X10_noteSecondCheck (E : ab_E) : ab_Ok E 5 197 S_X10_noteSecondCheck := by
  refine ab_mk rq_X10_noteSecondCheck tk_X10_noteSecondCheck (rt := 0) (rfl) (cuts := [2]) (G := [(61, S_X5_find)]) (List.forall_mem_cons.mpr ⟨⟨4, by decide, ok_X5_find E⟩, fun _ h => absurd h List.not_mem_nil⟩) (by decide) 80 rfl ?_
  intro a M K wd wa hS
  unfold S_X10_noteSecondCheck at hS
  split at hS
  ·
    rename_i row
    refine ⟨Nat.le_of_ble_eq_true rfl, fun pc n L st M1 => match pc, L, st with
      | 2, [.inr (.inr (.inr (780, 10, 0))), .inr (.inl r1), .inr (.inl k), u4_], [] => (n = (256 - k).toNat ∧ row = r1 ∧ 0 ≤ k ∧ k ≤ 256 ∧ rn_f M M1 ∧ (∀ s : Nat, (s : Int) < k → ∀ b, b < 64 → (pz_lb (M1 774 (row.toNat * 256 + s)) b = true ↔ (pl_fd M row (s : Int) 1).1 = (b : Int))) ∧ ∀ j : Nat, ((j / 256 : Nat) : Int) ≠ row → M1 774 j = M 774 j)
      | _, _, _ => False, ?_, ?_⟩
    · exact vc_X10_noteSecondCheck_0 row M K  hS
    · intro pc n L st M1 hI wd1 wL wst
      (try dsimp only at hI)
      split at hI
      ·
        rename_i r1 k u4_
        exact vc_X10_noteSecondCheck_2 row M K  hS n r1 k _ hI
      · exact hI.elim
  · exact hS.elim
def S_X10_sweep : ab_PT := fun a M K => match a with
  | [.inr (.inr (.inr (780, 10, 0))), .inr (.inl lo), .inr (.inl hi), .inr (.inl f)] => ((gc_A M ∧ tv_ok M) ∧ (0 ≤ lo ∧ lo ≤ hi + 1 ∧ hi < M 26 3) ∧ (f = 0 ∨ f = 1)) ∧ (∀ Mx : ab_M, (cu_P M Mx f lo hi) → K [] Mx)
  | _ => False
set_option maxRecDepth 20000 in
theorem vc_X10_sweep_0 (lo : Int) (hi : Int) (f : Int) (M : ab_M) (K : List ab_V → ab_M → Prop) (hS : ((gc_A M ∧ tv_ok M) ∧ (0 ≤ lo ∧ lo ≤ hi + 1 ∧ hi < M 26 3) ∧ (f = 0 ∨ f = 1)) ∧ (∀ Mx : ab_M, (cu_P M Mx f lo hi) → K [] Mx)) : (∃ n', ((n' = ((hi - lo + 1) * 1000000).toNat ∧ lo = lo ∧ hi = hi ∧ f = f ∧ lo ≤ hi + 1 ∧ hi ≤ hi ∧ cu_J M M f lo hi (2 * hi + 1) 0))) := by
  obtain ⟨⟨⟨gA, gv⟩, ⟨g0, g1, g2⟩, gf⟩, gK⟩ := hS
  have gL := gA.2.1
  have gp := gA.1
  have g3 := gL.1
  have g8 := gp.2.1
  
  exact ⟨_, rfl, rfl, rfl, rfl, by omega, by omega, cu_J.start M f lo hi⟩

set_option maxRecDepth 20000 in
theorem vc_X10_sweep_3 (lo : Int) (hi : Int) (f : Int) (M : ab_M) (K : List ab_V → ab_M → Prop) (hS : ((gc_A M ∧ tv_ok M) ∧ (0 ≤ lo ∧ lo ≤ hi + 1 ∧ hi < M 26 3) ∧ (f = 0 ∨ f = 1)) ∧ (∀ Mx : ab_M, (cu_P M Mx f lo hi) → K [] Mx)) (n : Nat) (lo1 : Int) (hi1 : Int) (f1 : Int) (row : Int) (M1 : ab_M) (hI : n = ((row - lo + 1) * 1000000).toNat ∧ lo = lo1 ∧ hi = hi1 ∧ f = f1 ∧ lo ≤ row + 1 ∧ row ≤ hi ∧ cu_J M M1 f lo hi (2 * row + 1) 0) : (ab_ir row ∧ ab_ir lo1) ∧ ((row < lo1 → K [] M1) ∧ (lo1 ≤ row → (ab_ir row ∧ 0 ≤ M1 26 3 ∧ M1 26 3 ≤ 120) ∧ (∀ o15 : Nat, (o15 = if 0 ≤ row ∧ row < M1 26 3 then 26 + 1 + 1 + 3 * row.toNat else 26 + 362) → (ab_ir (M1 o15 0)) ∧ (∀ r22 : Int, (r22 = if M1 o15 0 = 119 then 1 else 0) → (ab_ir r22) ∧ ((r22 = 0 → (∃ n', n' < n ∧ ((n' = ((row - lo) * 1000000 + 1 + ((0 : Int) + 1) * 400000).toNat ∧ lo = lo1 ∧ hi = hi1 ∧ f = f1 ∧ lo ≤ row ∧ row ≤ hi ∧ o15 = 26 + 1 + 1 + 3 * row.toNat ∧ ((0 : Int) = -1 ∨ (0 : Int) = 0 ∨ ((0 : Int) = 1 ∧ M o15 0 = 119)) ∧ cu_J M M1 f lo hi (2 * row + (0 : Int)) 0)))) ∧ (¬ r22 = 0 → (∃ n', n' < n ∧ ((n' = ((row - lo) * 1000000 + 1 + ((1 : Int) + 1) * 400000).toNat ∧ lo = lo1 ∧ hi = hi1 ∧ f = f1 ∧ lo ≤ row ∧ row ≤ hi ∧ o15 = 26 + 1 + 1 + 3 * row.toNat ∧ ((1 : Int) = -1 ∨ (1 : Int) = 0 ∨ ((1 : Int) = 1 ∧ M o15 0 = 119)) ∧ cu_J M M1 f lo hi (2 * row + (1 : Int)) 0))))))))) := by
  obtain ⟨hn, q1, q2, q3, hr0, hr1, hJ⟩ := hI
  subst q1
  subst q2
  subst q3
  obtain ⟨⟨⟨gA, gv⟩, ⟨g0, g1, g2⟩, gf⟩, gK⟩ := hS
  have gL := gA.2.1
  have gp := gA.1
  have g3 := gL.1
  have g8 := gp.2.1
  have hf := hJ.1
  have hp1 := ts_p_fr hf.e gp
  have hv1 := ts_e_ok hf.e gv
  have e3 : M1 26 3 = M 26 3 := hf 26 3 (by decide) (by decide) (by decide)
  
  refine And.intro (by
    first
      | omega
      | exact ⟨by omega, by omega⟩
      | exact ⟨⟨by omega, by omega⟩, by omega, by omega⟩
      | trivial
      | exact ⟨⟨by omega, by omega⟩, by omega, by omega⟩
      | exact h0ir
      | (rw [es]; exact h0ir)
      | (rw [hfa]; rcases gf with z | z <;> (rw [z]; exact ⟨by decide, by decide⟩))
      | (rcases gf with z | z <;> (rw [z]; exact ⟨by decide, by decide⟩))) ?_
  refine ⟨?_, ?_⟩
  · intro c6
    exact gK _ (hJ.fin (by omega))
  · intro c6
    refine And.intro (by
      exact ⟨⟨by omega, by omega⟩, by omega, by omega⟩) ?_
    intro o15 hr15
    refine And.intro (by
      rw [hr15, if_pos ⟨by omega, by omega⟩, show (26 + 1 + 1 + 3 * row.toNat) = 26 + 1 + 1 + 3 * row.toNat from rfl, hf.e _ _ (by omega)]
      exact (gp.2.2.2.1 row.toNat (by omega)).2.2.1) ?_
    intro r22 hr22
    refine And.intro (by
      first
        | omega
        | exact ⟨by omega, by omega⟩
        | exact ⟨⟨by omega, by omega⟩, by omega, by omega⟩
        | trivial
        | exact ⟨⟨by omega, by omega⟩, by omega, by omega⟩
        | exact h0ir
        | (rw [es]; exact h0ir)
        | (rw [hfa]; rcases gf with z | z <;> (rw [z]; exact ⟨by decide, by decide⟩))
        | (rcases gf with z | z <;> (rw [z]; exact ⟨by decide, by decide⟩))) ?_
    refine ⟨?_, ?_⟩
    · intro c25
      rw [hr22] at c25
      rw [ab_bf] at c25
      clear hr22 r22
      obtain ⟨w, rfl⟩ : ∃ w : Nat, row = (w : Int) := ⟨row.toNat, by omega⟩
      have hwn : (w : Int) < M 26 3 := by omega
      have ho : o15 = 26 + 1 + 1 + 3 * w := by
        rw [hr15, if_pos ⟨by omega, by omega⟩]
        omega
      subst ho
      have es : ∀ j, M1 (26 + 1 + 1 + 3 * w) j = M (26 + 1 + 1 + 3 * w) j := fun j => hf.e _ _ (by omega)
      rw [es] at c25
      refine ⟨_, ?_, rfl, rfl, rfl, rfl, by omega, by omega, rfl, ?_, ?_⟩
      · omega
      · first
          | exact Or.inr (Or.inr ⟨rfl, c25⟩)
          | exact Or.inr (Or.inl rfl)
      · first
          | exact hJ
          | exact hJ.skip gL hwn c25
    · intro c25
      rw [hr22] at c25
      rw [ab_bt] at c25
      clear hr22 r22
      obtain ⟨w, rfl⟩ : ∃ w : Nat, row = (w : Int) := ⟨row.toNat, by omega⟩
      have hwn : (w : Int) < M 26 3 := by omega
      have ho : o15 = 26 + 1 + 1 + 3 * w := by
        rw [hr15, if_pos ⟨by omega, by omega⟩]
        omega
      subst ho
      have es : ∀ j, M1 (26 + 1 + 1 + 3 * w) j = M (26 + 1 + 1 + 3 * w) j := fun j => hf.e _ _ (by omega)
      rw [es] at c25
      refine ⟨_, ?_, rfl, rfl, rfl, rfl, by omega, by omega, rfl, ?_, ?_⟩
      · omega
      · first
          | exact Or.inr (Or.inr ⟨rfl, c25⟩)
          | exact Or.inr (Or.inl rfl)
      · first
          | exact hJ
          | exact hJ.skip gL hwn c25

set_option maxRecDepth 20000 in
theorem vc_X10_sweep_35 (lo : Int) (hi : Int) (f : Int) (M : ab_M) (K : List ab_V → ab_M → Prop) (hS : ((gc_A M ∧ tv_ok M) ∧ (0 ≤ lo ∧ lo ≤ hi + 1 ∧ hi < M 26 3) ∧ (f = 0 ∨ f = 1)) ∧ (∀ Mx : ab_M, (cu_P M Mx f lo hi) → K [] Mx)) (n : Nat) (lo1 : Int) (hi1 : Int) (f1 : Int) (row : Int) (s5 : Nat) (pa : Int) (M1 : ab_M) (hI : n = ((row - lo) * 1000000 + 1 + (pa + 1) * 400000).toNat ∧ lo = lo1 ∧ hi = hi1 ∧ f = f1 ∧ lo ≤ row ∧ row ≤ hi ∧ s5 = 26 + 1 + 1 + 3 * row.toNat ∧ (pa = -1 ∨ pa = 0 ∨ (pa = 1 ∧ M s5 0 = 119)) ∧ cu_J M M1 f lo hi (2 * row + pa) 0) : (ab_ir pa) ∧ ((pa < 0 → (∃ n', n' < n ∧ ((n' = (((row + (-1)) - lo + 1) * 1000000).toNat ∧ lo = lo1 ∧ hi = hi1 ∧ f = f1 ∧ lo ≤ (row + (-1)) + 1 ∧ (row + (-1)) ≤ hi ∧ cu_J M M1 f lo hi (2 * (row + (-1)) + 1) 0)))) ∧ (0 ≤ pa → (ab_ir pa ∧ ab_ir (1 : Int)) ∧ ((¬ pa = (1 : Int) → (∃ n', n' < n ∧ ((n' = ((row - lo) * 1000000 + 2 + pa * 400000 + (256 - (0 : Int)) * 600).toNat ∧ lo = lo1 ∧ hi = hi1 ∧ f = f1 ∧ lo ≤ row ∧ row ≤ hi ∧ s5 = 26 + 1 + 1 + 3 * row.toNat ∧ (pa = 0 ∨ (pa = 1 ∧ M s5 0 = 119)) ∧ row = (if pa = 1 then 126 + M s5 5 else row) ∧ 0 ≤ (0 : Int) ∧ (0 : Int) ≤ 256 ∧ cu_J M M1 f lo hi (2 * row + pa) (0 : Int))))) ∧ (pa = (1 : Int) → (-128 ≤ (126 : Int) ∧ (126 : Int) < 128) ∧ (∃ n', n' < n ∧ ((n' = ((row - lo) * 1000000 + 2 + pa * 400000 + (256 - (0 : Int)) * 600).toNat ∧ lo = lo1 ∧ hi = hi1 ∧ f = f1 ∧ lo ≤ row ∧ row ≤ hi ∧ s5 = 26 + 1 + 1 + 3 * row.toNat ∧ (pa = 0 ∨ (pa = 1 ∧ M s5 0 = 119)) ∧ ((126 : Int) + (M1 s5 5)) = (if pa = 1 then 126 + M s5 5 else row) ∧ 0 ≤ (0 : Int) ∧ (0 : Int) ≤ 256 ∧ cu_J M M1 f lo hi (2 * row + pa) (0 : Int)))))))) := by
  obtain ⟨hn, q1, q2, q3, hr0, hr1, hs5, hpa, hJ⟩ := hI
  subst q1
  subst q2
  subst q3
  obtain ⟨⟨⟨gA, gv⟩, ⟨g0, g1, g2⟩, gf⟩, gK⟩ := hS
  have gL := gA.2.1
  have gp := gA.1
  have g3 := gL.1
  have g8 := gp.2.1
  have hf := hJ.1
  have hp1 := ts_p_fr hf.e gp
  have hv1 := ts_e_ok hf.e gv
  have e3 : M1 26 3 = M 26 3 := hf 26 3 (by decide) (by decide) (by decide)
  obtain ⟨w, rfl⟩ : ∃ w : Nat, row = (w : Int) := ⟨row.toNat, by omega⟩
  rw [Int.toNat_natCast] at hs5
  subst hs5
  have hwn : (w : Int) < M 26 3 := by omega
  have es : ∀ j, M1 (26 + 1 + 1 + 3 * w) j = M (26 + 1 + 1 + 3 * w) j := fun j => hf.e _ _ (by omega)
  have h5 := (gp.2.2.2.1 w hwn).2.2.2.2.2.2.2.2.1
  have h0ir := (gp.2.2.2.1 w hwn).2.2.1
  
  refine And.intro (by
    first
      | omega
      | exact ⟨by omega, by omega⟩
      | exact ⟨⟨by omega, by omega⟩, by omega, by omega⟩
      | trivial
      | exact ⟨⟨by omega, by omega⟩, by omega, by omega⟩
      | exact h0ir
      | (rw [es]; exact h0ir)
      | (rw [hfa]; rcases gf with z | z <;> (rw [z]; exact ⟨by decide, by decide⟩))
      | (rcases gf with z | z <;> (rw [z]; exact ⟨by decide, by decide⟩))) ?_
  refine ⟨?_, ?_⟩
  · intro c37
    refine ⟨_, ?_, rfl, rfl, rfl, rfl, by omega, by omega, ?_⟩
    · omega
    rw [show (2 * ((w : Int) + -1) + 1 : Int) = 2 * (w : Int) + pa by omega]
    exact hJ
  · intro c37
    refine And.intro (by
      first
        | omega
        | exact ⟨by omega, by omega⟩
        | exact ⟨⟨by omega, by omega⟩, by omega, by omega⟩
        | trivial
        | exact ⟨⟨by omega, by omega⟩, by omega, by omega⟩
        | exact h0ir
        | (rw [es]; exact h0ir)
        | (rw [hfa]; rcases gf with z | z <;> (rw [z]; exact ⟨by decide, by decide⟩))
        | (rcases gf with z | z <;> (rw [z]; exact ⟨by decide, by decide⟩))) ?_
    refine ⟨?_, ?_⟩
    · intro c43
      have hge : pa = 0 ∨ (pa = 1 ∧ M (26 + 1 + 1 + 3 * w) 0 = 119) := by
        rcases hpa with z | z
        · omega
        · exact z
      refine ⟨_, ?_, rfl, rfl, rfl, rfl, by omega, by omega, rfl, hge, ?_, by decide, by decide, hJ⟩
      · omega
      · first
          | (rw [if_pos (by assumption), es]; done)
          | (rw [if_neg (by assumption)]; done)
    · intro c43
      refine And.intro (by
        first
          | omega
          | exact ⟨by omega, by omega⟩
          | exact ⟨⟨by omega, by omega⟩, by omega, by omega⟩
          | trivial
          | exact ⟨⟨by omega, by omega⟩, by omega, by omega⟩
          | exact h0ir
          | (rw [es]; exact h0ir)
          | (rw [hfa]; rcases gf with z | z <;> (rw [z]; exact ⟨by decide, by decide⟩))
          | (rcases gf with z | z <;> (rw [z]; exact ⟨by decide, by decide⟩))) ?_
      have hge : pa = 0 ∨ (pa = 1 ∧ M (26 + 1 + 1 + 3 * w) 0 = 119) := by
        rcases hpa with z | z
        · omega
        · exact z
      refine ⟨_, ?_, rfl, rfl, rfl, rfl, by omega, by omega, rfl, hge, ?_, by decide, by decide, hJ⟩
      · omega
      · first
          | (rw [if_pos (by assumption), es]; done)
          | (rw [if_neg (by assumption)]; done)

set_option maxRecDepth 20000 in
theorem vc_X10_sweep_64 (lo : Int) (hi : Int) (f : Int) (M : ab_M) (K : List ab_V → ab_M → Prop) (hS : ((gc_A M ∧ tv_ok M) ∧ (0 ≤ lo ∧ lo ≤ hi + 1 ∧ hi < M 26 3) ∧ (f = 0 ∨ f = 1)) ∧ (∀ Mx : ab_M, (cu_P M Mx f lo hi) → K [] Mx)) (n : Nat) (lo1 : Int) (hi1 : Int) (f1 : Int) (row : Int) (s5 : Nat) (pa : Int) (he : Int) (k : Int) (M1 : ab_M) (hI : n = ((row - lo) * 1000000 + 2 + pa * 400000 + (256 - k) * 600).toNat ∧ lo = lo1 ∧ hi = hi1 ∧ f = f1 ∧ lo ≤ row ∧ row ≤ hi ∧ s5 = 26 + 1 + 1 + 3 * row.toNat ∧ (pa = 0 ∨ (pa = 1 ∧ M s5 0 = 119)) ∧ he = (if pa = 1 then 126 + M s5 5 else row) ∧ 0 ≤ k ∧ k ≤ 256 ∧ cu_J M M1 f lo hi (2 * row + pa) k) : (-32768 ≤ (256 : Int) ∧ (256 : Int) < 32768) ∧ (ab_ir k ∧ ab_ir (256 : Int)) ∧ (((256 : Int) ≤ k → (∃ n', n' < n ∧ ((n' = ((row - lo) * 1000000 + 1 + ((pa + (-1)) + 1) * 400000).toNat ∧ lo = lo1 ∧ hi = hi1 ∧ f = f1 ∧ lo ≤ row ∧ row ≤ hi ∧ s5 = 26 + 1 + 1 + 3 * row.toNat ∧ ((pa + (-1)) = -1 ∨ (pa + (-1)) = 0 ∨ ((pa + (-1)) = 1 ∧ M s5 0 = 119)) ∧ cu_J M M1 f lo hi (2 * row + (pa + (-1))) 0)))) ∧ (k < (256 : Int) → ((tv_ok M1 ∧ ts_p M1 ∧ 0 ≤ k ∧ k ≤ 255) ∧ (0 ≤ he ∧ he < 130) ∧ ab_ir (1 : Int)) ∧ (∀ r81 : Int, ∀ M81 : ab_M, (ts_L M81 (pl_fd M1 he k (1 : Int)).2 ∧ ts_f M1 M81) → (r81 = (pl_fd M1 he k (1 : Int)).1) → (ab_ir f1) ∧ ((f1 = 0 → (∃ n', n' < n ∧ ((n' = ((row - lo) * 1000000 + 2 + pa * 400000 + (256 - k) * 600 - 1 - (0 : Int)).toNat ∧ lo = lo1 ∧ hi = hi1 ∧ f = f1 ∧ lo ≤ row ∧ row ≤ hi ∧ s5 = 26 + 1 + 1 + 3 * row.toNat ∧ (pa = 0 ∨ (pa = 1 ∧ M s5 0 = 119)) ∧ he = (if pa = 1 then 126 + M s5 5 else row) ∧ 0 ≤ k ∧ k < 256 ∧ cu_J M M81 f lo hi (2 * row + pa) k ∧ ts_L M81 (pl_fd M he k 1).2 ∧ 0 ≤ (0 : Int) ∧ (0 : Int) ≤ (((pl_fd M he k 1).2.length : Nat) : Int) ∧ ∃ a0 : Int, (∀ b, b < 64 → (pz_lb a0 b = true ↔ f = 1 ∧ (pl_fd M he k 1).1 = (b : Int))) ∧ ((0 : Nat) : Int) = lf_f (M81 774) (pl_fd M he k 1).2 a0 (0 : Int).toNat)))) ∧ (¬ f1 = 0 → (ab_ir r81) ∧ ((r81 < 0 → (∃ n', n' < n ∧ ((n' = ((row - lo) * 1000000 + 2 + pa * 400000 + (256 - k) * 600 - 1 - (0 : Int)).toNat ∧ lo = lo1 ∧ hi = hi1 ∧ f = f1 ∧ lo ≤ row ∧ row ≤ hi ∧ s5 = 26 + 1 + 1 + 3 * row.toNat ∧ (pa = 0 ∨ (pa = 1 ∧ M s5 0 = 119)) ∧ he = (if pa = 1 then 126 + M s5 5 else row) ∧ 0 ≤ k ∧ k < 256 ∧ cu_J M M81 f lo hi (2 * row + pa) k ∧ ts_L M81 (pl_fd M he k 1).2 ∧ 0 ≤ (0 : Int) ∧ (0 : Int) ≤ (((pl_fd M he k 1).2.length : Nat) : Int) ∧ ∃ a0 : Int, (∀ b, b < 64 → (pz_lb a0 b = true ↔ f = 1 ∧ (pl_fd M he k 1).1 = (b : Int))) ∧ ((0 : Nat) : Int) = lf_f (M81 774) (pl_fd M he k 1).2 a0 (0 : Int).toNat)))) ∧ (0 ≤ r81 → (∃ n', n' < n ∧ ((n' = ((row - lo) * 1000000 + 2 + pa * 400000 + (256 - k) * 600 - 1 - (0 : Int)).toNat ∧ lo = lo1 ∧ hi = hi1 ∧ f = f1 ∧ lo ≤ row ∧ row ≤ hi ∧ s5 = 26 + 1 + 1 + 3 * row.toNat ∧ (pa = 0 ∨ (pa = 1 ∧ M s5 0 = 119)) ∧ he = (if pa = 1 then 126 + M s5 5 else row) ∧ 0 ≤ k ∧ k < 256 ∧ cu_J M M81 f lo hi (2 * row + pa) k ∧ ts_L M81 (pl_fd M he k 1).2 ∧ 0 ≤ (0 : Int) ∧ (0 : Int) ≤ (((pl_fd M he k 1).2.length : Nat) : Int) ∧ ∃ a0 : Int, (∀ b, b < 64 → (pz_lb a0 b = true ↔ f = 1 ∧ (pl_fd M he k 1).1 = (b : Int))) ∧ (ab_lshl ((1 : Nat) : Int) r81) = lf_f (M81 774) (pl_fd M he k 1).2 a0 (0 : Int).toNat)))))))))) := by
  obtain ⟨hn, q1, q2, q3, hr0, hr1, hs5, hpa, hhe, hk0, hk1, hJ⟩ := hI
  subst q1
  subst q2
  subst q3
  obtain ⟨⟨⟨gA, gv⟩, ⟨g0, g1, g2⟩, gf⟩, gK⟩ := hS
  have gL := gA.2.1
  have gp := gA.1
  have g3 := gL.1
  have g8 := gp.2.1
  have hf := hJ.1
  have hp1 := ts_p_fr hf.e gp
  have hv1 := ts_e_ok hf.e gv
  have e3 : M1 26 3 = M 26 3 := hf 26 3 (by decide) (by decide) (by decide)
  obtain ⟨w, rfl⟩ : ∃ w : Nat, row = (w : Int) := ⟨row.toNat, by omega⟩
  rw [Int.toNat_natCast] at hs5
  subst hs5
  have hwn : (w : Int) < M 26 3 := by omega
  have es : ∀ j, M1 (26 + 1 + 1 + 3 * w) j = M (26 + 1 + 1 + 3 * w) j := fun j => hf.e _ _ (by omega)
  have h5 := (gp.2.2.2.1 w hwn).2.2.2.2.2.2.2.2.1
  have h0ir := (gp.2.2.2.1 w hwn).2.2.1
  have hh : k < 256 → 0 ≤ he ∧ he < 130 := fun q => by rw [hhe]; exact (cu_here gL gp hwn hpa hk0 q).1
  refine And.intro (by
    first
      | omega
      | exact ⟨by omega, by omega⟩
      | exact ⟨⟨by omega, by omega⟩, by omega, by omega⟩
      | trivial
      | exact ⟨⟨by omega, by omega⟩, by omega, by omega⟩
      | exact h0ir
      | (rw [es]; exact h0ir)
      | (rw [hfa]; rcases gf with z | z <;> (rw [z]; exact ⟨by decide, by decide⟩))
      | (rcases gf with z | z <;> (rw [z]; exact ⟨by decide, by decide⟩))) ?_
  refine And.intro (by
    first
      | omega
      | exact ⟨by omega, by omega⟩
      | exact ⟨⟨by omega, by omega⟩, by omega, by omega⟩
      | trivial
      | exact ⟨⟨by omega, by omega⟩, by omega, by omega⟩
      | exact h0ir
      | (rw [es]; exact h0ir)
      | (rw [hfa]; rcases gf with z | z <;> (rw [z]; exact ⟨by decide, by decide⟩))
      | (rcases gf with z | z <;> (rw [z]; exact ⟨by decide, by decide⟩))) ?_
  refine ⟨?_, ?_⟩
  · intro c69
    refine ⟨_, ?_, rfl, rfl, rfl, rfl, by omega, by omega, rfl, ?_, ?_⟩
    · omega
    · rcases hpa with z | z
      · exact Or.inl (by omega)
      · exact Or.inr (Or.inl (by omega))
    · have hd := hJ.down (by omega)
      rw [show (2 * (w : Int) + (pa + -1) : Int) = 2 * (w : Int) + pa - 1 by omega]
      exact hd
  · intro c69
    refine And.intro (by
      exact ⟨⟨hv1, hp1, by omega, by omega⟩, hh (by omega), by decide, by decide⟩) ?_
    intro r81 M81 hM81 hr81
    rw [pl_fd_fr hf.e gp] at hr81 hM81
    refine And.intro (by
      first
        | omega
        | exact ⟨by omega, by omega⟩
        | exact ⟨⟨by omega, by omega⟩, by omega, by omega⟩
        | trivial
        | exact ⟨⟨by omega, by omega⟩, by omega, by omega⟩
        | exact h0ir
        | (rw [es]; exact h0ir)
        | (rw [hfa]; rcases gf with z | z <;> (rw [z]; exact ⟨by decide, by decide⟩))
        | (rcases gf with z | z <;> (rw [z]; exact ⟨by decide, by decide⟩))) ?_
    refine ⟨?_, ?_⟩
    · intro c87
      have hcc := pl_fd_c gp he k 1
      rw [← hr81] at hcc
      refine ⟨_, ?_, rfl, rfl, rfl, rfl, by omega, by omega, rfl, hpa, hhe, by omega, by omega, hJ.f hM81.2, hM81.1, by decide, by omega, _, fun b hb => ?_, rfl⟩
      · omega
      rw [← hr81]
      first
        | (show pz_lb (ab_lshl ((1 : Nat) : Int) r81) b = true ↔ _
           rw [pz_lb_one (by omega) (by omega) hb, decide_eq_true_iff]
           exact ⟨fun z => ⟨by omega, z.symm⟩, fun z => z.2.symm⟩)
        | (show pz_lb ((0 : Nat) : Int) b = true ↔ _
           rw [pz_lb_n0]
           exact ⟨fun z => (by cases z), fun z => by omega⟩)
    · intro c87
      refine And.intro (by
        have hcc := pl_fd_c gp he k 1
        rw [← hr81] at hcc
        exact ⟨by omega, by omega⟩) ?_
      refine ⟨?_, ?_⟩
      · intro c92
        have hcc := pl_fd_c gp he k 1
        rw [← hr81] at hcc
        refine ⟨_, ?_, rfl, rfl, rfl, rfl, by omega, by omega, rfl, hpa, hhe, by omega, by omega, hJ.f hM81.2, hM81.1, by decide, by omega, _, fun b hb => ?_, rfl⟩
        · omega
        rw [← hr81]
        first
          | (show pz_lb (ab_lshl ((1 : Nat) : Int) r81) b = true ↔ _
             rw [pz_lb_one (by omega) (by omega) hb, decide_eq_true_iff]
             exact ⟨fun z => ⟨by omega, z.symm⟩, fun z => z.2.symm⟩)
          | (show pz_lb ((0 : Nat) : Int) b = true ↔ _
             rw [pz_lb_n0]
             exact ⟨fun z => (by cases z), fun z => by omega⟩)
      · intro c92
        have hcc := pl_fd_c gp he k 1
        rw [← hr81] at hcc
        refine ⟨_, ?_, rfl, rfl, rfl, rfl, by omega, by omega, rfl, hpa, hhe, by omega, by omega, hJ.f hM81.2, hM81.1, by decide, by omega, _, fun b hb => ?_, rfl⟩
        · omega
        rw [← hr81]
        first
          | (show pz_lb (ab_lshl ((1 : Nat) : Int) r81) b = true ↔ _
             rw [pz_lb_one (by omega) (by omega) hb, decide_eq_true_iff]
             exact ⟨fun z => ⟨by omega, z.symm⟩, fun z => z.2.symm⟩)
          | (show pz_lb ((0 : Nat) : Int) b = true ↔ _
             rw [pz_lb_n0]
             exact ⟨fun z => (by cases z), fun z => by omega⟩)

set_option maxRecDepth 20000 in
theorem vc_X10_sweep_108 (lo : Int) (hi : Int) (f : Int) (M : ab_M) (K : List ab_V → ab_M → Prop) (hS : ((gc_A M ∧ tv_ok M) ∧ (0 ≤ lo ∧ lo ≤ hi + 1 ∧ hi < M 26 3) ∧ (f = 0 ∨ f = 1)) ∧ (∀ Mx : ab_M, (cu_P M Mx f lo hi) → K [] Mx)) (n : Nat) (lo1 : Int) (hi1 : Int) (f1 : Int) (row : Int) (s5 : Nat) (pa : Int) (he : Int) (k : Int) (fa : Int) (bi : Int) (ii : Int) (M1 : ab_M) (hI : n = ((row - lo) * 1000000 + 2 + pa * 400000 + (256 - k) * 600 - 1 - ii).toNat ∧ lo = lo1 ∧ hi = hi1 ∧ f = f1 ∧ lo ≤ row ∧ row ≤ hi ∧ s5 = 26 + 1 + 1 + 3 * row.toNat ∧ (pa = 0 ∨ (pa = 1 ∧ M s5 0 = 119)) ∧ he = (if pa = 1 then 126 + M s5 5 else row) ∧ 0 ≤ k ∧ k < 256 ∧ cu_J M M1 f lo hi (2 * row + pa) k ∧ ts_L M1 (pl_fd M he k 1).2 ∧ 0 ≤ ii ∧ ii ≤ (((pl_fd M he k 1).2.length : Nat) : Int) ∧ ∃ a0 : Int, (∀ b, b < 64 → (pz_lb a0 b = true ↔ f = 1 ∧ (pl_fd M he k 1).1 = (b : Int))) ∧ bi = lf_f (M1 774) (pl_fd M he k 1).2 a0 ii.toNat) : (ab_ir ii ∧ ab_ir (M1 772 3)) ∧ (((M1 772 3) ≤ ii → (-32768 ≤ (256 : Int) ∧ (256 : Int) < 32768) ∧ (0 ≤ ((he * (256 : Int)) + k) ∧ ((he * (256 : Int)) + k) < ((33280 : Nat) : Int)) ∧ (∃ n', n' < n ∧ ((n' = ((row - lo) * 1000000 + 2 + pa * 400000 + (256 - (k + 1)) * 600).toNat ∧ lo = lo1 ∧ hi = hi1 ∧ f = f1 ∧ lo ≤ row ∧ row ≤ hi ∧ s5 = 26 + 1 + 1 + 3 * row.toNat ∧ (pa = 0 ∨ (pa = 1 ∧ M s5 0 = 119)) ∧ he = (if pa = 1 then 126 + M s5 5 else row) ∧ 0 ≤ (k + 1) ∧ (k + 1) ≤ 256 ∧ cu_J M (ab_up M1 774 (((he * (256 : Int)) + k).toNat) bi) f lo hi (2 * row + pa) (k + 1))))) ∧ (ii < (M1 772 3) → (0 ≤ ii ∧ ii < ((256 : Nat) : Int)) ∧ (0 ≤ (M1 773 ii.toNat) ∧ (M1 773 ii.toNat) < ((33280 : Nat) : Int)) ∧ (∃ n', n' < n ∧ ((n' = ((row - lo) * 1000000 + 2 + pa * 400000 + (256 - k) * 600 - 1 - (ii + 1)).toNat ∧ lo = lo1 ∧ hi = hi1 ∧ f = f1 ∧ lo ≤ row ∧ row ≤ hi ∧ s5 = 26 + 1 + 1 + 3 * row.toNat ∧ (pa = 0 ∨ (pa = 1 ∧ M s5 0 = 119)) ∧ he = (if pa = 1 then 126 + M s5 5 else row) ∧ 0 ≤ k ∧ k < 256 ∧ cu_J M M1 f lo hi (2 * row + pa) k ∧ ts_L M1 (pl_fd M he k 1).2 ∧ 0 ≤ (ii + 1) ∧ (ii + 1) ≤ (((pl_fd M he k 1).2.length : Nat) : Int) ∧ ∃ a0 : Int, (∀ b, b < 64 → (pz_lb a0 b = true ↔ f = 1 ∧ (pl_fd M he k 1).1 = (b : Int))) ∧ (ab_lor bi (M1 774 ((M1 773 ii.toNat).toNat))) = lf_f (M1 774) (pl_fd M he k 1).2 a0 (ii + 1).toNat))))) := by
  obtain ⟨hn, q1, q2, q3, hr0, hr1, hs5, hpa, hhe, hk0, hk1, hJ, hLL, hi0, hi1, a0, ha0, hbi⟩ := hI
  subst q1
  subst q2
  subst q3
  obtain ⟨⟨⟨gA, gv⟩, ⟨g0, g1, g2⟩, gf⟩, gK⟩ := hS
  have gL := gA.2.1
  have gp := gA.1
  have g3 := gL.1
  have g8 := gp.2.1
  have hf := hJ.1
  have hp1 := ts_p_fr hf.e gp
  have hv1 := ts_e_ok hf.e gv
  have e3 : M1 26 3 = M 26 3 := hf 26 3 (by decide) (by decide) (by decide)
  obtain ⟨w, rfl⟩ : ∃ w : Nat, row = (w : Int) := ⟨row.toNat, by omega⟩
  rw [Int.toNat_natCast] at hs5
  subst hs5
  have hwn : (w : Int) < M 26 3 := by omega
  have es : ∀ j, M1 (26 + 1 + 1 + 3 * w) j = M (26 + 1 + 1 + 3 * w) j := fun j => hf.e _ _ (by omega)
  have h5 := (gp.2.2.2.1 w hwn).2.2.2.2.2.2.2.2.1
  have h0ir := (gp.2.2.2.1 w hwn).2.2.1
  have hh : 0 ≤ he ∧ he < 130 := by rw [hhe]; exact (cu_here gL gp hwn hpa hk0 hk1).1
  have l1 := hLL.1
  have l2 := hLL.2.1
  have hg := pl_fd_g M he k 1
  have hpl : cr_wr (ii < M1 772 3 → 0 ≤ M1 773 ii.toNat ∧ M1 773 ii.toNat < 33280 ∧ M1 773 ii.toNat = (pl_fd M he k 1).2.getD ii.toNat 0) := by
    intro q
    have e := hLL.2.2 ii.toNat (by omega)
    have hm : (pl_fd M he k 1).2.getD ii.toNat 0 ∈ (pl_fd M he k 1).2 := by
      rw [List.getD_eq_getElem?_getD, List.getElem?_eq_getElem (by omega)]
      exact List.getElem_mem _
    have := hg _ hm
    rw [e]
    exact ⟨this.1, this.2, rfl⟩
  refine And.intro (by
    first
      | omega
      | exact ⟨by omega, by omega⟩
      | exact ⟨⟨by omega, by omega⟩, by omega, by omega⟩
      | trivial
      | exact ⟨⟨by omega, by omega⟩, by omega, by omega⟩
      | exact h0ir
      | (rw [es]; exact h0ir)
      | (rw [hfa]; rcases gf with z | z <;> (rw [z]; exact ⟨by decide, by decide⟩))
      | (rcases gf with z | z <;> (rw [z]; exact ⟨by decide, by decide⟩))) ?_
  refine ⟨?_, ?_⟩
  · intro c117
    refine And.intro (by
      first
        | omega
        | exact ⟨by omega, by omega⟩
        | exact ⟨⟨by omega, by omega⟩, by omega, by omega⟩
        | trivial
        | exact ⟨⟨by omega, by omega⟩, by omega, by omega⟩
        | exact h0ir
        | (rw [es]; exact h0ir)
        | (rw [hfa]; rcases gf with z | z <;> (rw [z]; exact ⟨by decide, by decide⟩))
        | (rcases gf with z | z <;> (rw [z]; exact ⟨by decide, by decide⟩))) ?_
    refine And.intro (by
      exact ⟨by omega, by omega⟩) ?_
    have hlen : ii.toNat = (pl_fd M he k 1).2.length := by omega
    rw [hlen] at hbi
    obtain ⟨c0, hc0, hrk⟩ := (cu_here gL gp hwn (p := pa) (k := k) (hpa) hk0 (by omega)).2
    rw [← hhe] at hrk
    have hh := (cu_here gL gp hwn (p := pa) (k := k) (hpa) hk0 (by omega)).1
    rw [← hhe] at hh
    have hq : (((he * 256 + k).toNat / 256 : Nat) : Int) = he := by omega
    have hm : (((he * 256 + k).toNat % 256 : Nat) : Int) = k := by omega
    refine ⟨_, ?_, rfl, rfl, rfl, rfl, by omega, by omega, rfl, hpa, hhe, by omega, by omega, ?_⟩
    · omega
    refine hJ.put gL gp hrk hc0 (by rcases hpa with z | z <;> omega) (by rcases hpa with z | z <;> omega) hm fun b hb => ?_
    rw [hbi, lf_f_all, ha0 b hb]
    unfold gc_S
    rw [hq, hm]
  · intro c117
    refine And.intro (by
      exact ⟨by omega, by omega⟩) ?_
    refine And.intro (by
      have hz := hpl (by omega)
      exact ⟨by omega, by omega⟩) ?_
    have hz := hpl (by omega)
    refine ⟨_, ?_, rfl, rfl, rfl, rfl, by omega, by omega, rfl, hpa, hhe, by omega, by omega, hJ, hLL, by omega, by omega, a0, ha0, ?_⟩
    · omega
    rw [show (ii + 1).toNat = ii.toNat + 1 by omega]
    show _ = ab_lor (lf_f _ _ _ ii.toNat) _
    rw [← hbi, hz.2.2]

set_option maxRecDepth 20000 in
set_option maxHeartbeats 1000000 in
theorem ok_X10_sweep (E : ab_E) : ab_Ok E 5 198 S_X10_sweep := by
  refine ab_mk rq_X10_sweep tk_X10_sweep (rt := 0) (rfl) (cuts := [3, 35, 64, 108]) (G := [(16, S_X1_at), (56, S_X4_isLoop), (61, S_X5_find)]) (List.forall_mem_cons.mpr ⟨⟨1, by decide, ok_X1_at E⟩, List.forall_mem_cons.mpr ⟨⟨1, by decide, ok_X4_isLoop E⟩, List.forall_mem_cons.mpr ⟨⟨4, by decide, ok_X5_find E⟩, fun _ h => absurd h List.not_mem_nil⟩⟩⟩) (by decide) 137 rfl ?_
  intro a M K wd wa hS
  unfold S_X10_sweep at hS
  split at hS
  ·
    rename_i lo hi f
    refine ⟨Nat.le_of_ble_eq_true rfl, fun pc n L st M1 => match pc, L, st with
      | 3, [.inr (.inr (.inr (780, 10, 0))), .inr (.inl lo1), .inr (.inl hi1), .inr (.inl f1), .inr (.inl row), u6_, u7_, u8_, u9_, u10_, u11_, u12_, u13_], [] => (n = ((row - lo + 1) * 1000000).toNat ∧ lo = lo1 ∧ hi = hi1 ∧ f = f1 ∧ lo ≤ row + 1 ∧ row ≤ hi ∧ cu_J M M1 f lo hi (2 * row + 1) 0)
      | 35, [.inr (.inr (.inr (780, 10, 0))), .inr (.inl lo1), .inr (.inl hi1), .inr (.inl f1), .inr (.inl row), .inr (.inr (.inr (s5, 4, 0))), .inr (.inl pa), u8_, u9_, u10_, u11_, u12_, u13_], [] => (n = ((row - lo) * 1000000 + 1 + (pa + 1) * 400000).toNat ∧ lo = lo1 ∧ hi = hi1 ∧ f = f1 ∧ lo ≤ row ∧ row ≤ hi ∧ s5 = 26 + 1 + 1 + 3 * row.toNat ∧ (pa = -1 ∨ pa = 0 ∨ (pa = 1 ∧ M s5 0 = 119)) ∧ cu_J M M1 f lo hi (2 * row + pa) 0)
      | 64, [.inr (.inr (.inr (780, 10, 0))), .inr (.inl lo1), .inr (.inl hi1), .inr (.inl f1), .inr (.inl row), .inr (.inr (.inr (s5, 4, 0))), .inr (.inl pa), .inr (.inl he), .inr (.inl k), u10_, u11_, u12_, u13_], [] => (n = ((row - lo) * 1000000 + 2 + pa * 400000 + (256 - k) * 600).toNat ∧ lo = lo1 ∧ hi = hi1 ∧ f = f1 ∧ lo ≤ row ∧ row ≤ hi ∧ s5 = 26 + 1 + 1 + 3 * row.toNat ∧ (pa = 0 ∨ (pa = 1 ∧ M s5 0 = 119)) ∧ he = (if pa = 1 then 126 + M s5 5 else row) ∧ 0 ≤ k ∧ k ≤ 256 ∧ cu_J M M1 f lo hi (2 * row + pa) k)
      | 108, [.inr (.inr (.inr (780, 10, 0))), .inr (.inl lo1), .inr (.inl hi1), .inr (.inl f1), .inr (.inl row), .inr (.inr (.inr (s5, 4, 0))), .inr (.inl pa), .inr (.inl he), .inr (.inl k), .inr (.inl fa), .inr (.inr (.inl bi)), .inl (), .inr (.inl ii)], [] => (n = ((row - lo) * 1000000 + 2 + pa * 400000 + (256 - k) * 600 - 1 - ii).toNat ∧ lo = lo1 ∧ hi = hi1 ∧ f = f1 ∧ lo ≤ row ∧ row ≤ hi ∧ s5 = 26 + 1 + 1 + 3 * row.toNat ∧ (pa = 0 ∨ (pa = 1 ∧ M s5 0 = 119)) ∧ he = (if pa = 1 then 126 + M s5 5 else row) ∧ 0 ≤ k ∧ k < 256 ∧ cu_J M M1 f lo hi (2 * row + pa) k ∧ ts_L M1 (pl_fd M he k 1).2 ∧ 0 ≤ ii ∧ ii ≤ (((pl_fd M he k 1).2.length : Nat) : Int) ∧ ∃ a0 : Int, (∀ b, b < 64 → (pz_lb a0 b = true ↔ f = 1 ∧ (pl_fd M he k 1).1 = (b : Int))) ∧ bi = lf_f (M1 774) (pl_fd M he k 1).2 a0 ii.toNat)
      | _, _, _ => False, ?_, ?_⟩
    · exact vc_X10_sweep_0 lo hi f M K  hS
    · intro pc n L st M1 hI wd1 wL wst
      (try dsimp only at hI)
      split at hI
      ·
        rename_i lo1 hi1 f1 row u6_ u7_ u8_ u9_ u10_ u11_ u12_ u13_
        exact vc_X10_sweep_3 lo hi f M K  hS n lo1 hi1 f1 row _ hI
      ·
        rename_i lo1 hi1 f1 row s5 pa u8_ u9_ u10_ u11_ u12_ u13_
        exact vc_X10_sweep_35 lo hi f M K  hS n lo1 hi1 f1 row s5 pa _ hI
      ·
        rename_i lo1 hi1 f1 row s5 pa he k u10_ u11_ u12_ u13_
        exact vc_X10_sweep_64 lo hi f M K  hS n lo1 hi1 f1 row s5 pa he k _ hI
      ·
        rename_i lo1 hi1 f1 row s5 pa he k fa bi ii
        exact vc_X10_sweep_108 lo hi f M K  hS n lo1 hi1 f1 row s5 pa he k fa bi ii _ hI
      · exact hI.elim
  · exact hS.elim
