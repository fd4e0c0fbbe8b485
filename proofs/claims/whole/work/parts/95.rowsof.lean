/-! the rows of a block, statement by statement -/
/-- how many letters a term has -/
def tl_M (M : ab_M) (c : Int) : Int := if 0 ≤ c ∧ c < M 26 11 then M 394 c.toNat else 0
def ps_Q (M : ab_M) (t : pz_T) (r0 : Nat) (nx : Int) : Prop := pz_wf t ∧ ((r0 + pz_sz t : Nat) : Int) ≤ M 26 3 ∧ ∃ (f : Nat → Int) (par side : Int) (c l k q : Nat) (A C : Int), cr_T f M 26 t r0 par side nx c l k q ∧ cr_K M 26 t r0 A C l ∧ ((k + pz_nt t : Nat) : Int) ≤ M 26 11
/-- a statement's row -/
def ps_row (M : ab_M) (P : pz_P) (R : Nat) (a b : pz_T) (nx pv : Int) : Prop := (M (26 + 1 + 1 + 3 * R) 0 = cr_lt P.1 ∧ M (26 + 1 + 1 + 3 * R) 1 = (if P.1 = 0 ∨ P.1 = 1 ∨ P.1 = 5 then P.2.1 else -1)) ∧
  (tl_M M (M (26 + 1 + 1 + 3 * R) 2) = ((P.2.2.1.length : Nat) : Int) ∧ tl_M M (M (26 + 1 + 1 + 3 * R) 3) = ((P.2.2.2.length : Nat) : Int)) ∧
  (M (26 + 1 + 1 + 3 * R) 10 = nx ∧ M (26 + 1 + 1 + 3 * R) 11 = pv) ∧
  (M (26 + 1 + 1 + 3 * R + 1) 0 = cr_fs a (R + 1) ∧ M (26 + 1 + 1 + 3 * R + 1) 1 = cr_fs b (R + 1 + pz_sz a) ∧ M (26 + 1 + 1 + 3 * R + 2) 0 = cr_ls a (R + 1) ∧ M (26 + 1 + 1 + 3 * R + 2) 1 = cr_ls b (R + 1 + pz_sz a)) ∧
  (P.1 = 7 → M (26 + 1 + 1 + 3 * R) 6 = pz_mk (pz_md a)) ∧ pz_wfP P ∧ (P.1 < 6 → a = .leaf ∧ b = .leaf) ∧ (P.1 = 7 → b = .leaf) ∧
  (((R : Nat) : Int) < M 26 3 ∧ -1 ≤ M (26 + 1 + 1 + 3 * R) 2 ∧ M (26 + 1 + 1 + 3 * R) 2 < M 26 11 ∧ -1 ≤ M (26 + 1 + 1 + 3 * R) 3 ∧ M (26 + 1 + 1 + 3 * R) 3 < M 26 11)
theorem ps_Q.nd {M : ab_M} {s : Nat} {P : pz_P} {v : Unit} {t : pz_T} {s' : Nat} {P' : pz_P} {v' : Unit} {a b : pz_T} {r0 : Nat} {nx : Int} (h : ps_Q M (.inner s P v t (.inner s' P' v' a b)) r0 nx) :
    ps_Q M t r0 ((r0 + pz_sz t : Nat) : Int) ∧ ps_row M P (r0 + pz_sz t) a b nx (cr_ls t r0) ∧ ps_Q M a (r0 + pz_sz t + 1) (-1) ∧ ps_Q M b (r0 + pz_sz t + 1 + pz_sz a) (-1) := by
  obtain ⟨⟨w1, w2, w3, w4, w5, w6⟩, hs, f, par, side, c, l, k, q, A, C, ⟨g1, g2, g3, g4⟩, ⟨k1, k2, k3, k4, k5⟩, hk⟩ := h
  rw [pz_sz_nd] at hs
  have hnt : pz_nt (.inner s P v t (.inner s' P' v' a b)) = pz_nt t + (pz_nt1 P.1 + pz_nt2 P.1 + (pz_nt a + pz_nt b)) := rfl
  rw [hnt] at hk
  obtain ⟨⟨s0, s1, s2, s3, s4, s5⟩, ⟨s8, s9, s10, s11, s14⟩, ⟨sb0, sb1, sl0, sl1⟩, s7, st1, st2⟩ := g2
  have hn1 : pz_nt1 P.1 = 0 ∨ pz_nt1 P.1 = 1 := by unfold pz_nt1; split <;> omega
  have hn2 : pz_nt2 P.1 = 0 ∨ pz_nt2 P.1 = 1 := by unfold pz_nt2; split <;> omega
  have hn21 : pz_nt2 P.1 = 1 → pz_nt1 P.1 = 1 := by
    unfold pz_nt2 pz_nt1
    intro e
    split at e
    · rw [if_neg (by omega)]
    · omega
  refine ⟨⟨w1, by omega, f, par, side, c, l, k, q, _, C, g1, k1, by omega⟩, ⟨⟨s0, s1⟩, ⟨?_, ?_⟩, ⟨s10, s11⟩, ⟨sb0, sb1, sl0, sl1⟩, fun e => (k3 e).1, w4, w5, w6, ⟨by omega, ?_, ?_, ?_, ?_⟩⟩, ⟨w2, by omega, f, _, _, _, _, _, _, _, _, g3, k4, by omega⟩, ⟨w3, by omega, f, _, _, _, _, _, _, _, _, g4, k5, by omega⟩⟩
  · unfold tl_M
    rw [s2]
    rcases hn1 with e | e
    · rw [if_neg (c := pz_nt1 P.1 = 1) (by omega), if_neg (by omega)]
      have : P.1 = 1 ∨ P.1 = 4 ∨ P.1 = 8 := by
        unfold pz_nt1 at e
        split at e
        · assumption
        · omega
      have h := w4.2.2.1
      rw [if_pos this] at h
      rw [h]; rfl
    · rw [if_pos (c := pz_nt1 P.1 = 1) e, if_pos ⟨by omega, by omega⟩]
      exact (st1 e).2
  · unfold tl_M
    rw [s3]
    rcases hn2 with e | e
    · rw [if_neg (c := pz_nt2 P.1 = 1) (by omega), if_neg (by omega)]
      have : ¬ (P.1 = 5 ∨ P.1 = 7) := by
        unfold pz_nt2 at e
        split at e
        · omega
        · assumption
      have h := w4.2.2.2
      rw [if_neg this] at h
      rw [h]; rfl
    · have := hn21 e
      rw [if_pos (c := pz_nt2 P.1 = 1) e, if_pos ⟨by omega, by omega⟩]
      exact (st2 e).2
  · rw [s2]; split <;> omega
  · rw [s2]; split <;> omega
  · rw [s3]; split <;> omega
  · have := hn21
    rw [s3]; split <;> omega
/-! prefixes of a row of statements -/
def pfx (p : pz_T) : pz_T → Prop
  | .leaf => p = .leaf
  | .inner s P v t c => p = .inner s P v t c ∨ pfx p t
theorem pfx_rf (t : pz_T) : pfx t t := by
  cases t with
  | leaf => rfl
  | inner s P v t c => exact Or.inl rfl
theorem pfx_leaf : ∀ t : pz_T, pfx .leaf t
  | .leaf => rfl
  | .inner _ _ _ t _ => Or.inr (pfx_leaf t)
theorem pfx_next {p : pz_T} : ∀ t : pz_T, pfx p t → p ≠ t → ∃ (s : Nat) (P : pz_P) (v : Unit) (c : pz_T), pfx (.inner s P v p c) t
  | .leaf, h, hn => absurd h hn
  | .inner s P v t c, h, hn => by
    rcases h with h | h
    · exact absurd h hn
    · by_cases e : p = t
      · subst e
        exact ⟨s, P, v, c, Or.inl rfl⟩
      · obtain ⟨s1, P1, v1, c1, h1⟩ := pfx_next t h e
        exact ⟨s1, P1, v1, c1, Or.inr h1⟩
theorem pfx_wf {p : pz_T} : ∀ t : pz_T, pz_wf t → pfx p t → pz_wf p := by
  intro t
  induction t using pz_ind with
  | h0 => intro _ h; have h : p = .leaf := h; rw [h]; exact trivial
  | h2 s P v t => intro h; exact h.elim
  | h1 s P v t s' P' v' a b iht _ _ =>
    intro hw h
    rcases h with h | h
    · rw [h]; exact hw
    · exact iht hw.1 h
theorem pfx_Q {M : ab_M} {p : pz_T} {r0 : Nat} : ∀ (t : pz_T) (nx : Int), ps_Q M t r0 nx → pfx p t → (p = t ∧ ps_Q M p r0 nx) ∨ ps_Q M p r0 ((r0 + pz_sz p : Nat) : Int) ∧ pz_sz p < pz_sz t ∧ pz_ht p ≤ pz_ht t := by
  intro t
  induction t using pz_ind with
  | h0 => intro nx hQ h; have h : p = .leaf := h; subst h; exact Or.inl ⟨rfl, hQ⟩
  | h2 s P v t => intro nx h; exact h.1.elim
  | h1 s P v t s' P' v' a b iht _ _ =>
    intro nx hQ h
    rcases h with h | h
    · subst h; exact Or.inl ⟨rfl, hQ⟩
    · obtain ⟨q1, -⟩ := hQ.nd
      have hh : pz_ht t ≤ pz_ht (.inner s P v t (.inner s' P' v' a b)) := Nat.le_max_left _ _
      rcases iht _ q1 h with ⟨e, z⟩ | ⟨z, z2, z3⟩
      · subst e
        exact Or.inr ⟨z, by rw [pz_sz_nd]; omega, hh⟩
      · exact Or.inr ⟨z, by rw [pz_sz_nd]; omega, Nat.le_trans z3 hh⟩
theorem pfx_sz {p : pz_T} : ∀ t : pz_T, pz_wf t → pfx p t → pz_sz p ≤ pz_sz t ∧ pz_ht p ≤ pz_ht t := by
  intro t
  induction t using pz_ind with
  | h0 => intro _ h; have h : p = .leaf := h; subst h; exact ⟨Nat.le_refl _, Nat.le_refl _⟩
  | h2 s P v t => intro h; exact h.elim
  | h1 s P v t s' P' v' a b iht _ _ =>
    intro hw h
    rcases h with h | h
    · subst h; exact ⟨Nat.le_refl _, Nat.le_refl _⟩
    · have hh : pz_ht t ≤ pz_ht (.inner s P v t (.inner s' P' v' a b)) := Nat.le_max_left _ _
      obtain ⟨h1, h2⟩ := iht hw.1 h
      exact ⟨by rw [pz_sz_nd]; omega, Nat.le_trans h2 hh⟩
/-- where the passive form stops, it stops -/
theorem pfx_none {p : pz_T} {V : ps_V} {st : ps_S} (hn : (ps_t p V st).2.1 = none) : ∀ t : pz_T, pz_wf t → pfx p t → ps_t t V st = ps_t p V st := by
  intro t
  induction t using pz_ind with
  | h0 => intro _ h; have h : p = .leaf := h; rw [h]
  | h2 s P v t => intro h; exact h.elim
  | h1 s P v t s' P' v' a b iht _ _ =>
    intro hw h
    rcases h with h | h
    · rw [h]
    · have e := iht hw.1 h
      show (match (ps_t t V st).2.1 with
        | none => ps_t t V st
        | some V1 => _) = _
      rw [e, hn]
theorem ps_P_len {P : pz_P} {md : Nat → Bool} {A B : ps_V → ps_S → ps_R} {na nb : Nat} (hA : ∀ V s, (A V s).2.2.length ≤ na) (hB : ∀ V s, (B V s).2.2.length ≤ nb) (V : ps_V) (s0 : ps_S) : (ps_P P md A B V s0).2.2.length ≤ 1 + (na + nb) := by
  unfold ps_P
  split
  · exact Nat.zero_le _
  · split
    · show (1 : Nat) ≤ _
      omega
    · split
      · show ((_ : List ps_V) ++ (_ : List ps_V)).length ≤ _
        rw [List.length_append]
        have := hA V (s0.1, s0.2.1, s0.2.2 + ps_sz P)
        have := hB V (A V (s0.1, s0.2.1, s0.2.2 + ps_sz P)).1
        omega
      · split
        · exact Nat.le_trans (hA _ _) (by omega)
        · split
          · split
            · exact Nat.zero_le _
            · exact Nat.le_trans (hB _ _) (by omega)
          · exact Nat.zero_le _
theorem ps_t_len : ∀ (t : pz_T) (V : ps_V) (s : ps_S), (ps_t t V s).2.2.length ≤ pz_sz t := by
  intro t
  induction t using pz_ind with
  | h0 => exact fun V s => Nat.le_refl _
  | h2 s P v t => exact fun V s => Nat.zero_le _
  | h1 s P v t s' P' v' a b iht iha ihb =>
    intro V st
    rw [pz_sz_nd]
    unfold ps_t
    cases e : (ps_t t V st).2.1 with
    | none => exact Nat.le_trans (iht V st) (by omega)
    | some V1 =>
      show ((_ : List ps_V) ++ (_ : List ps_V)).length ≤ _
      rw [List.length_append]
      have h1 := iht V st
      have h2 := ps_P_len (P := P) (md := pz_md a) iha ihb V1 (ps_t t V st).1
      omega
/-- of the passive form nothing else changes -/
def ps_F (M M' : ab_M) (d c : Int) : Prop := ∀ o k : Nat, ¬ (o = 790 ∧ (k = 2 ∨ k = 3)) → ¬ (o = 791 ∧ k < 4) → ¬ ((o = 792 ∨ o = 793 ∨ o = 794) ∧ (d ≤ (k : Int) ∨ (k : Int) = c)) → M' o k = M o k
theorem ps_F.rf (M : ab_M) (d c : Int) : ps_F M M d c := fun _ _ _ _ _ => rfl
theorem ps_F.tr {A B C : ab_M} {d c : Int} (h : ps_F A B d c) (h' : ps_F B C d c) : ps_F A C d c := fun o k x y z => (h' o k x y z).trans (h o k x y z)
theorem ps_F.up {A B : ab_M} {d d' c : Int} (h : ps_F A B d c) (hd : d' ≤ d) : ps_F A B d' c := fun o k x y z => h o k x y fun q => z ⟨q.1, by omega⟩
theorem ps_F.in {A B : ab_M} {d d' c c' : Int} (h : ps_F A B d c) (hd : d' ≤ d) (hc : d' ≤ c) : ps_F A B d' c' := fun o k x y z => h o k x y fun q => z ⟨q.1, by omega⟩
theorem ps_N.F {A B : ab_M} (h : ps_N A B) (d c : Int) : ps_F A B d c := fun o k x y _ => h o k x y
theorem th_F.F {A B : ab_M} {c : Int} (h : th_F A B c) (d : Int) : ps_F A B d c := fun o k _ _ z => h o k fun q => z ⟨q.1, Or.inr q.2⟩
theorem ps_F.lo {A B : ab_M} {d c : Int} (h : ps_F A B d c) : ∀ o k : Nat, o < 790 → B o k = A o k := fun o k ho => h o k (by omega) (by omega) (by omega)
theorem cr_T_lo {f : Nat → Int} {M M' : ab_M} (h : ∀ o k : Nat, o < 790 → M' o k = M o k) {t : pz_T} {r0 : Nat} {par side nx : Int} {c l k q : Nat} (hT : cr_T f M 26 t r0 par side nx c l k q) (hs : r0 + pz_sz t ≤ 120) : cr_T f M' 26 t r0 par side nx c l k q := by
  refine cr_T_f2 t _ _ _ _ _ _ _ _ hT (fun i h1 h2 => ⟨fun k _ _ _ _ _ _ => h (26 + 1 + 1 + 3 * i) k (by omega), fun k => ⟨h (26 + 1 + 1 + 3 * i + 1) k (by omega), h (26 + 1 + 1 + 3 * i + 2) k (by omega)⟩⟩) ⟨fun i _ => h _ _ (by omega), fun i _ => ⟨h _ _ (by omega), h _ _ (by omega)⟩⟩
theorem cr_K_lo {M M' : ab_M} (h : ∀ o k : Nat, o < 790 → M' o k = M o k) : ∀ (t : pz_T) (r0 : Nat) (A C : Int) (l : Nat), cr_K M 26 t r0 A C l → r0 + pz_sz t ≤ 120 → cr_K M' 26 t r0 A C l := by
  intro t
  induction t using pz_ind with
  | h0 => intros; trivial
  | h2 s P v t => intro r0 A C l h; exact h.elim
  | h1 s P v t s' P' v' a b iht iha ihb =>
    intro r0 A C l hK hs
    rw [pz_sz_nd] at hs
    obtain ⟨k1, k2, k3, k4, k5⟩ := hK
    have e : ∀ k, M' (26 + 1 + 1 + 3 * (r0 + pz_sz t)) k = M (26 + 1 + 1 + 3 * (r0 + pz_sz t)) k := fun k => h _ _ (by omega)
    refine ⟨iht _ _ _ _ k1 (by omega), ?_, ?_, iha _ _ _ _ k4 (by omega), ihb _ _ _ _ k5 (by omega)⟩
    · simp only [e]; exact k2
    · simp only [e]; exact k3
theorem ps_Q.lo {M M' : ab_M} {t : pz_T} {r0 : Nat} {nx : Int} (hQ : ps_Q M t r0 nx) (h : ∀ o k : Nat, o < 790 → M' o k = M o k) (h120 : M 26 3 ≤ 120) : ps_Q M' t r0 nx := by
  obtain ⟨w, hs, f, par, side, c, l, k, q, A, C, h1, h2, h3⟩ := hQ
  refine ⟨w, by rw [h 26 3 (by decide)]; exact hs, f, par, side, c, l, k, q, A, C, cr_T_lo h h1 (by omega), cr_K_lo h t _ _ _ _ h2 (by omega), by rw [h 26 11 (by decide)]; exact h3⟩
theorem ps_row.lo {M M' : ab_M} {P : pz_P} {R : Nat} {a b : pz_T} {nx pv : Int} (hR : ps_row M P R a b nx pv) (h : ∀ o k : Nat, o < 790 → M' o k = M o k) (h120 : M 26 3 ≤ 120) : ps_row M' P R a b nx pv := by
  have hr := hR.2.2.2.2.2.2.2.2.1
  have e : ∀ k, M' (26 + 1 + 1 + 3 * R) k = M (26 + 1 + 1 + 3 * R) k := fun k => h _ _ (by omega)
  have e1 : ∀ k, M' (26 + 1 + 1 + 3 * R + 1) k = M (26 + 1 + 1 + 3 * R + 1) k := fun k => h _ _ (by omega)
  have e2 : ∀ k, M' (26 + 1 + 1 + 3 * R + 2) k = M (26 + 1 + 1 + 3 * R + 2) k := fun k => h _ _ (by omega)
  have e3 : M' 26 3 = M 26 3 := h 26 3 (by decide)
  have e11 : M' 26 11 = M 26 11 := h 26 11 (by decide)
  have e4 : ∀ k, M' 394 k = M 394 k := fun k => h _ _ (by decide)
  unfold ps_row tl_M at hR ⊢
  simp only [e, e1, e2, e3, e11, e4]
  exact hR
