/-! the class's graph: places, what a place leads to -/
def gc_S (M : ab_M) (cut : Int) (j : Nat) : List Int := (pl_fd M ((j / 256 : Nat) : Int) ((j % 256 : Nat) : Int) cut).2
def gc_O (M : ab_M) (cut : Int) (j b : Nat) : Prop := (j / 256 = 120 ∧ b = 16) ∨ (j / 256 = 121 ∧ b = 17) ∨ (pl_fd M ((j / 256 : Nat) : Int) ((j % 256 : Nat) : Int) cut).1 = (b : Int)
def gc_v (M : ab_M) (cut : Int) (N : Nat → Int) (j : Nat) : Int := rf_v M N ((j / 256 : Nat) : Int) ((j % 256 : Nat) : Int) cut
/-- the first places of a row -/
def gc_r (r : Int) (k : Nat) : List Nat := (List.range k).map fun i => (r * 256 + ((i : Nat) : Int)).toNat
theorem gc_r_mem {r : Int} (hr : 0 ≤ r) {k j : Nat} (hk : k ≤ 256) : j ∈ gc_r r k ↔ ((j / 256 : Nat) : Int) = r ∧ j % 256 < k := by
  unfold gc_r
  rw [List.mem_map]
  refine ⟨fun ⟨i, h1, h2⟩ => ?_, fun ⟨h1, h2⟩ => ⟨j % 256, List.mem_range.2 h2, by omega⟩⟩
  have := List.mem_range.1 h1
  omega
theorem rf_n_p (M : ab_M) (cut : Int) (N : Nat → Int) {r : Int} (hr : 0 ≤ r) : ∀ k : Nat, k ≤ 256 → rf_n M r cut N k = gx_p (gc_v M cut) N (gc_r r k)
  | 0, _ => rfl
  | k + 1, hk => by
    have e : gc_r r (k + 1) = gc_r r k ++ [(r * 256 + ((k : Nat) : Int)).toNat] := by
      unfold gc_r
      rw [List.range_succ, List.map_append]
      rfl
    rw [e, gx_p_app, ← rf_n_p M cut N hr k (by omega)]
    funext j
    show (if j = (r * 256 + ((k : Nat) : Int)).toNat then rf_v M (rf_n M r cut N k) r ((k : Nat) : Int) cut else rf_n M r cut N k j) = (if j = (r * 256 + ((k : Nat) : Int)).toNat then gc_v M cut (rf_n M r cut N k) (r * 256 + ((k : Nat) : Int)).toNat else rf_n M r cut N k j)
    unfold gc_v
    rw [show (((r * 256 + ((k : Nat) : Int)).toNat / 256 : Nat) : Int) = r by omega, show (((r * 256 + ((k : Nat) : Int)).toNat % 256 : Nat) : Int) = ((k : Nat) : Int) by omega]
/-- the places of some rows -/
def gc_P (R : List Int) : List Nat := R.flatMap fun r => gc_r r 256
theorem sw_N_p (M : ab_M) (cut : Int) : ∀ (R : List Int) (N : Nat → Int), (∀ r ∈ R, 0 ≤ r) → sw_N M cut R N = gx_p (gc_v M cut) N (gc_P R)
  | [], _, _ => rfl
  | r :: R, N, h => by
    show sw_N M cut R (rf_n M r cut N 256) = gx_p _ N (gc_r r 256 ++ gc_P R)
    rw [gx_p_app, ← rf_n_p M cut N (h r List.mem_cons_self) 256 (Nat.le_refl _), sw_N_p M cut R _ fun x hx => h x (List.mem_cons_of_mem _ hx)]
theorem gc_P_mem {R : List Int} (h : ∀ r ∈ R, 0 ≤ r) {j : Nat} : j ∈ gc_P R ↔ ((j / 256 : Nat) : Int) ∈ R := by
  unfold gc_P
  rw [List.mem_flatMap]
  refine ⟨fun ⟨r, h1, h2⟩ => ?_, fun h1 => ⟨_, h1, (gc_r_mem (by omega) (Nat.le_refl _)).2 ⟨rfl, Nat.mod_lt _ (by decide)⟩⟩⟩
  rw [((gc_r_mem (h r h1) (Nat.le_refl _)).1 h2).1]
  exact h1
theorem rf_f_ir {N : Nat → Int} {L : List Int} {a : Int} (ha : ab_ir a) : ∀ i, ab_ir (rf_f N L a i)
  | 0 => ha
  | i + 1 => ab_or_range _ _
theorem rf_f_b (N : Nat → Int) (L : List Int) (a : Int) (b : Nat) : ∀ i, (pz_b (rf_f N L a i) b = true ↔ pz_b a b = true ∨ ∃ k, k < i ∧ pz_b (N (L.getD k 0).toNat) b = true)
  | 0 => ⟨fun h => Or.inl h, fun h => h.elim id fun q => absurd q.choose_spec.1 (Nat.not_lt_zero _)⟩
  | i + 1 => by
    show pz_b (ab_or _ _) b = true ↔ _
    rw [pz_b_or, Bool.or_eq_true, rf_f_b N L a b i]
    constructor
    · rintro ((h | ⟨k, h1, h2⟩) | h)
      · exact Or.inl h
      · exact Or.inr ⟨k, by omega, h2⟩
      · exact Or.inr ⟨i, by omega, h⟩
    · rintro (h | ⟨k, h1, h2⟩)
      · exact Or.inl (Or.inl h)
      · by_cases e : k = i
        · subst e; exact Or.inr h2
        · exact Or.inl (Or.inr ⟨k, by omega, h2⟩)
theorem rf_f_all (N : Nat → Int) (L : List Int) (a : Int) (b : Nat) : pz_b (rf_f N L a L.length) b = true ↔ pz_b a b = true ∨ ∃ q ∈ L, pz_b (N q.toNat) b = true := by
  rw [rf_f_b]
  constructor
  · rintro (h | ⟨k, h1, h2⟩)
    · exact Or.inl h
    · refine Or.inr ⟨L[k], List.getElem_mem h1, ?_⟩
      rw [List.getD_eq_getElem?_getD, List.getElem?_eq_getElem h1] at h2
      exact h2
  · rintro (h | ⟨q, h1, h2⟩)
    · exact Or.inl h
    · obtain ⟨k, hk, e⟩ := List.getElem_of_mem h1
      refine Or.inr ⟨k, hk, ?_⟩
      rw [List.getD_eq_getElem?_getD, List.getElem?_eq_getElem hk, e]
      exact h2
theorem rf_a_b {c : Int} (h0 : -1 ≤ c) (h1 : c ≤ 16) {b : Nat} (hb : b < 32) : pz_b (rf_a c) b = true ↔ c = (b : Int) := by
  unfold rf_a
  split
  · rw [pz_b_shl (by assumption) (by omega) hb, decide_eq_true_iff]
    exact ⟨Eq.symm, Eq.symm⟩
  · rw [pz_b_0]
    exact ⟨fun h => absurd h (by decide), fun h => by omega⟩
theorem rf_a_ir (c : Int) : ab_ir (rf_a c) := by
  unfold rf_a
  split
  · exact ab_shl_range _ _
  · exact ⟨by decide, by decide⟩
theorem gc_vs {M : ab_M} (hp : ts_p M) (cut : Int) {j : Nat} (h1 : j / 256 ≠ 120) (h2 : j / 256 ≠ 121) : gx_v (gc_S M cut) (gc_O M cut) (gc_v M cut) j := by
  intro N
  refine ⟨rf_f_ir (rf_a_ir _) _, fun b hb => ?_⟩
  have hc := pl_fd_c hp ((j / 256 : Nat) : Int) ((j % 256 : Nat) : Int) cut
  unfold gc_v rf_v gx_F gc_O gc_S
  rw [rf_f_all, rf_a_b hc.1 hc.2 hb]
  constructor
  · rintro (h | h)
    · exact Or.inl (Or.inr (Or.inr h))
    · exact Or.inr h
  · rintro ((h | h | h) | h)
    · exact absurd h.1 h1
    · exact absurd h.1 h2
    · exact Or.inl h
    · exact Or.inr h
theorem gc_O_18 {M : ab_M} (hp : ts_p M) {cut : Int} {j b : Nat} (h : gc_O M cut j b) : b < 18 := by
  have hc := pl_fd_c hp ((j / 256 : Nat) : Int) ((j % 256 : Nat) : Int) cut
  rcases h with h | h | h
  · omega
  · omega
  · omega
theorem gx_W_O {S : Nat → List Int} {O : Nat → Prop} : ∀ {n j : Nat}, gx_W S O n j → ∃ i, O i
  | 0, j, h => ⟨j, h⟩
  | n + 1, j, h => by
    rcases h with q | ⟨q, -, h2⟩
    · exact ⟨j, q⟩
    · exact gx_W_O h2
theorem gc_18 {M : ab_M} (hp : ts_p M) {cut : Int} {N : Nat → Int} (h : gx_ok (gc_S M cut) (gc_O M cut) N) : ∀ i b, b < 32 → pz_b (N i) b = true → b < 18 := fun i b hb q => by
  obtain ⟨n, hn⟩ := h.1 i b hb q
  obtain ⟨x, hx⟩ := gx_W_O hn
  exact gc_O_18 hp hx
theorem gc_fr {M M1 : ab_M} (h : ts_e M M1) (hp : ts_p M) (cut : Int) : gc_S M1 cut = gc_S M cut ∧ gc_O M1 cut = gc_O M cut ∧ gc_v M1 cut = gc_v M cut := by
  refine ⟨?_, ?_, ?_⟩
  · funext j
    unfold gc_S
    rw [pl_fd_fr h hp]
  · funext j b
    unfold gc_O
    rw [pl_fd_fr h hp]
  · funext N j
    unfold gc_v rf_v
    rw [pl_fd_fr h hp]
