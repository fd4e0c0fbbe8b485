/-! how the rows of a tree lie: where they lead, loops, ends -/
theorem cr_ent_or (t : pz_T) (r0 : Nat) (A : Int) (hw : pz_wf t) : (cr_ent t r0 A = A ∧ t = .leaf) ∨ (cr_ent t r0 A = (r0 : Int) ∧ 1 ≤ pz_sz t) := by
  cases t with
  | leaf => exact Or.inl ⟨rfl, rfl⟩
  | inner s P v p c =>
    cases c with
    | leaf => exact hw.elim
    | inner s' P' v' a b => exact Or.inr ⟨rfl, by rw [pz_sz_nd]; omega⟩
theorem cr_K_T {f : Nat → Int} {M : ab_M} {p : Nat} : ∀ (t : pz_T), pz_wf t → ∀ (r0 : Nat) (par side nx : Int) (c l k q : Nat) (A C : Int), cr_T f M p t r0 par side nx c l k q → cr_K M p t r0 A C l → ∀ r, r0 ≤ r → r < r0 + pz_sz t → ∀ g, (g = M (p + 1 + 1 + 3 * r) 17 ∨ g = M (p + 1 + 1 + 3 * r) 18) →
    ((r : Int) < g ∧ g < ((r0 + pz_sz t : Nat) : Int)) ∨ g = A ∨ g = C ∨ ∃ l' q' : Nat, g = ((122 + l' : Nat) : Int) ∧ l' < l + pz_nl t ∧ M (p + 366) l' = (q' : Int) ∧ q' ≤ r ∧ (r : Int) ≤ M (p + 1 + 1 + 3 * q') 14 := by
  intro t
  induction t using pz_ind with
  | h0 => intro _ r0 par side nx c l k q A C _ _ r h1 h2; exact absurd h2 (by show ¬ r < r0 + 0; omega)
  | h2 s P v t => intro h; exact h.elim
  | h1 s P v t s' P' v' a b iht iha ihb =>
    intro hw r0 par side nx c l k q A C h hK r h1 h2 g hg
    obtain ⟨w1, w2, w3, w4, w5, w6⟩ := hw
    rw [pz_sz_nd] at h2 ⊢
    rw [pz_nl_nd]
    obtain ⟨g1, g2, g3, g4⟩ := h
    obtain ⟨k1, ⟨-, -, kg, ko⟩, -, k3, k4⟩ := hK
    by_cases c1 : r < r0 + pz_sz t
    · rcases iht w1 _ _ _ _ _ _ _ _ _ _ g1 k1 r h1 c1 g hg with q | q | q | ⟨l', q', e1, e2, e3⟩
      · exact Or.inl ⟨q.1, by omega⟩
      · exact Or.inl ⟨by omega, by omega⟩
      · exact Or.inr (Or.inr (Or.inl q))
      · exact Or.inr (Or.inr (Or.inr ⟨l', q', e1, by omega, e3⟩))
    · by_cases c2 : r = r0 + pz_sz t
      · subst c2
        have h7 := g2.2.2.2.1
        have h14 := g2.2.1.2.2.2.2
        have hA : P.1 = 7 → ∃ l' q' : Nat, ((122 + (l + pz_nl t) : Nat) : Int) = ((122 + l' : Nat) : Int) ∧ l' < l + (pz_nl t + ((if P.1 = 7 then 1 else 0) + (pz_nl a + pz_nl b))) ∧ M (p + 366) l' = (q' : Int) ∧ q' ≤ r0 + pz_sz t ∧ ((r0 + pz_sz t : Nat) : Int) ≤ M (p + 1 + 1 + 3 * q') 14 := fun e => ⟨l + pz_nl t, r0 + pz_sz t, rfl, by rw [if_pos e]; omega, h7 e, Nat.le_refl _, by rw [h14, if_pos (by omega)]; omega⟩
        rcases hg with hg | hg
        · rw [hg, kg]
          by_cases e4 : P.1 = 4
          · rw [if_pos e4]; exact Or.inr (Or.inr (Or.inl rfl))
          · rw [if_neg e4]
            by_cases e6 : 6 ≤ P.1
            · rw [if_pos e6]
              rcases cr_ent_or a (r0 + pz_sz t + 1) (if P.1 = 7 then ((122 + (l + pz_nl t) : Nat) : Int) else A) w2 with ⟨q, -⟩ | ⟨q, q2⟩
              · rw [q]
                by_cases e7 : P.1 = 7
                · rw [if_pos e7]; exact Or.inr (Or.inr (Or.inr (hA e7)))
                · rw [if_neg e7]; exact Or.inr (Or.inl rfl)
              · rw [q]; exact Or.inl ⟨by omega, by omega⟩
            · rw [if_neg e6]; exact Or.inr (Or.inl rfl)
        · rw [hg, ko]
          by_cases e6 : P.1 = 6
          · rw [if_pos e6]
            rcases cr_ent_or b (r0 + pz_sz t + 1 + pz_sz a) A w3 with ⟨q, -⟩ | ⟨q, q2⟩
            · rw [q]; exact Or.inr (Or.inl rfl)
            · rw [q]; exact Or.inl ⟨by omega, by omega⟩
          · rw [if_neg e6]; exact Or.inr (Or.inl rfl)
      · have h7 := g2.2.2.2.1
        have h14 := g2.2.1.2.2.2.2
        by_cases c3 : r < r0 + pz_sz t + 1 + pz_sz a
        · have h6 : 6 ≤ P.1 := by
            refine Classical.byContradiction fun q => ?_
            rw [(w5 (by omega)).1] at c3
            have : pz_sz .leaf = 0 := rfl
            omega
          rcases iha w2 _ _ _ _ _ _ _ _ _ _ g3 k3 r (by omega) c3 g hg with q | q | q | ⟨l', q', e1, e2, e3⟩
          · exact Or.inl ⟨q.1, by omega⟩
          · by_cases e7 : P.1 = 7
            · rw [if_pos e7] at q
              refine Or.inr (Or.inr (Or.inr ⟨l + pz_nl t, r0 + pz_sz t, q, by rw [if_pos e7]; omega, h7 e7, by omega, by rw [h14, if_pos h6]; omega⟩))
            · rw [if_neg e7] at q
              exact Or.inr (Or.inl q)
          · by_cases e8 : P.1 = 8
            · rw [if_pos e8] at q
              rcases cr_ent_or b (r0 + pz_sz t + 1 + pz_sz a) A w3 with ⟨z, -⟩ | ⟨z, z2⟩
              · rw [q, z]; exact Or.inr (Or.inl rfl)
              · rw [q, z]; exact Or.inl ⟨by omega, by omega⟩
            · rw [if_neg e8] at q
              exact Or.inr (Or.inr (Or.inl q))
          · exact Or.inr (Or.inr (Or.inr ⟨l', q', e1, by omega, e3⟩))
        · rcases ihb w3 _ _ _ _ _ _ _ _ _ _ g4 k4 r (by omega) (by omega) g hg with q | q | q | ⟨l', q', e1, e2, e3⟩
          · exact Or.inl ⟨q.1, by omega⟩
          · exact Or.inr (Or.inl q)
          · exact Or.inr (Or.inr (Or.inl q))
          · exact Or.inr (Or.inr (Or.inr ⟨l', q', e1, by omega, e3⟩))
theorem cr_lt7w {P : pz_P} (h : pz_wfP P) : cr_lt P.1 = 119 ↔ P.1 = 7 := (cr_lt_4 h.1.1 h.1.2).2.2.1
/-- a loop's row knows its loop, a loop its row -/
theorem cr_T_lp {f : Nat → Int} {M : ab_M} {p : Nat} : ∀ (t : pz_T), pz_wf t → ∀ (r0 : Nat) (par side nx : Int) (c l k q : Nat), cr_T f M p t r0 par side nx c l k q →
    (∀ r, r0 ≤ r → r < r0 + pz_sz t → M (p + 1 + 1 + 3 * r) 0 = 119 → ∃ l' : Nat, l ≤ l' ∧ l' < l + pz_nl t ∧ M (p + 1 + 1 + 3 * r) 5 = (l' : Int) ∧ M (p + 366) l' = (r : Int) ∧ (r : Int) ≤ M (p + 1 + 1 + 3 * r) 14) ∧
    ∀ l' : Nat, l ≤ l' → l' < l + pz_nl t → ∃ r : Nat, r0 ≤ r ∧ r < r0 + pz_sz t ∧ M (p + 366) l' = (r : Int) ∧ M (p + 1 + 1 + 3 * r) 0 = 119 ∧ M (p + 1 + 1 + 3 * r) 5 = (l' : Int) := by
  intro t
  induction t using pz_ind with
  | h0 => intro _ r0 par side nx c l k q _; exact ⟨fun r h1 h2 => absurd h2 (by show ¬ r < r0 + 0; omega), fun l' h1 h2 => absurd h2 (by show ¬ l' < l + 0; omega)⟩
  | h2 s P v t => intro h; exact h.elim
  | h1 s P v t s' P' v' a b iht iha ihb =>
    intro hw r0 par side nx c l k q h
    obtain ⟨w1, w2, w3, w4, w5, w6⟩ := hw
    rw [pz_sz_nd, pz_nl_nd]
    obtain ⟨g1, g2, g3, g4⟩ := h
    have h7 := g2.2.2.2.1
    have h14 := g2.2.1.2.2.2.2
    have hl := g2.1.1
    have h5 := g2.1.2.2.2.2.2
    obtain ⟨t1, t2⟩ := iht w1 _ _ _ _ _ _ _ _ g1
    obtain ⟨a1, a2⟩ := iha w2 _ _ _ _ _ _ _ _ g3
    obtain ⟨b1, b2⟩ := ihb w3 _ _ _ _ _ _ _ _ g4
    refine ⟨fun r q1 q2 q3 => ?_, fun l' q1 q2 => ?_⟩
    · by_cases c1 : r < r0 + pz_sz t
      · obtain ⟨l', e1, e2, e3⟩ := t1 r q1 c1 q3
        exact ⟨l', e1, by omega, e3⟩
      · by_cases c2 : r = r0 + pz_sz t
        · subst c2
          have e7 : P.1 = 7 := (cr_lt7w w4).1 (hl.symm.trans q3)
          rw [if_pos e7] at h5
          exact ⟨l + pz_nl t, by omega, by rw [if_pos e7]; omega, h5, h7 e7, by rw [h14, if_pos (by omega)]; omega⟩
        · by_cases c3 : r < r0 + pz_sz t + 1 + pz_sz a
          · obtain ⟨l', e1, e2, e3⟩ := a1 r (by omega) c3 q3
            exact ⟨l', by omega, by omega, e3⟩
          · obtain ⟨l', e1, e2, e3⟩ := b1 r (by omega) (by omega) q3
            exact ⟨l', by omega, by omega, e3⟩
    · by_cases c1 : l' < l + pz_nl t
      · obtain ⟨r, e1, e2, e3⟩ := t2 l' q1 c1
        exact ⟨r, e1, by omega, e3⟩
      · by_cases c2 : P.1 = 7 ∧ l' = l + pz_nl t
        · obtain ⟨e7, c2⟩ := c2
          subst c2
          rw [if_pos e7] at h5
          exact ⟨r0 + pz_sz t, by omega, by omega, h7 e7, hl.trans ((cr_lt7w w4).2 e7), h5⟩
        · by_cases c3 : l' < l + pz_nl t + (if P.1 = 7 then 1 else 0) + pz_nl a
          · obtain ⟨r, e1, e2, e3⟩ := a2 l' (by split <;> omega) c3
            exact ⟨r, by omega, by omega, e3⟩
          · obtain ⟨r, e1, e2, e3⟩ := b2 l' (by omega) (by omega)
            exact ⟨r, by omega, by omega, e3⟩
/-- rows in a row's blocks end where it ends -/
theorem cr_T_ne {f : Nat → Int} {M : ab_M} {p : Nat} : ∀ (t : pz_T), pz_wf t → ∀ (r0 : Nat) (par side nx : Int) (c l k q : Nat), cr_T f M p t r0 par side nx c l k q → ∀ x r, r0 ≤ x → x < r → r < r0 + pz_sz t → (r : Int) ≤ M (p + 1 + 1 + 3 * x) 14 → M (p + 1 + 1 + 3 * r) 14 ≤ M (p + 1 + 1 + 3 * x) 14 := by
  intro t
  induction t using pz_ind with
  | h0 => intro _ r0 par side nx c l k q _ x r h1 h2 h3; exact absurd h3 (by show ¬ r < r0 + 0; omega)
  | h2 s P v t => intro h; exact h.elim
  | h1 s P v t s' P' v' a b iht iha ihb =>
    intro hw r0 par side nx c l k q h x r h1 h2 h3 h4
    obtain ⟨w1, w2, w3, w4, w5, w6⟩ := hw
    rw [pz_sz_nd] at h3
    obtain ⟨g1, g2, g3, g4⟩ := h
    have h14 := g2.2.1.2.2.2.2
    by_cases c1 : x < r0 + pz_sz t
    · have hx := cr_T_en t w1 _ _ _ _ _ _ _ _ g1 x h1 c1
      exact iht w1 _ _ _ _ _ _ _ _ g1 x r h1 h2 (by omega) h4
    · by_cases c2 : x = r0 + pz_sz t
      · subst c2
        by_cases h6 : 6 ≤ P.1
        · rw [h14, if_pos h6]
          by_cases c3 : r < r0 + pz_sz t + 1 + pz_sz a
          · have := cr_T_en a w2 _ _ _ _ _ _ _ _ g3 r (by omega) c3
            omega
          · have := cr_T_en b w3 _ _ _ _ _ _ _ _ g4 r (by omega) (by omega)
            omega
        · rw [h14, if_neg h6] at h4
          omega
      · by_cases c3 : x < r0 + pz_sz t + 1 + pz_sz a
        · have hx := cr_T_en a w2 _ _ _ _ _ _ _ _ g3 x (by omega) c3
          exact iha w2 _ _ _ _ _ _ _ _ g3 x r (by omega) h2 (by omega) h4
        · exact ihb w3 _ _ _ _ _ _ _ _ g4 x r (by omega) h2 (by omega) h4
theorem cr_anc_lt {M : ab_M} {p : Nat} : ∀ (n : Nat) (y : Int) (x : Nat), x ∈ cr_anc M p n y → (x : Int) < M p 3
  | 0, y, x, h => absurd h List.not_mem_nil
  | n + 1, y, x, h => by
    unfold cr_anc at h
    split at h
    · rename_i hy
      rcases List.mem_cons.1 h with e | e
      · omega
      · exact cr_anc_lt n _ x e
    · exact absurd h List.not_mem_nil
/-- the rows of the program that is read -/
def gc_T (M : ab_M) (r : Nat) (g : Int) : Prop := ((r : Int) < g ∧ g < M 26 3) ∨ g = 120 ∨ g = 121 ∨ ∃ l q : Nat, g = ((122 + l : Nat) : Int) ∧ (l : Int) < M 26 8 ∧ M 392 l = (q : Int) ∧ q ≤ r ∧ (r : Int) ≤ M (26 + 1 + 1 + 3 * q) 14
def gc_L (M : ab_M) : Prop := (0 ≤ M 26 3 ∧ M 26 3 ≤ 120) ∧ (∀ r : Nat, (r : Int) < M 26 3 → gc_T M r (M (26 + 1 + 1 + 3 * r) 17) ∧ gc_T M r (M (26 + 1 + 1 + 3 * r) 18)) ∧
  (∀ r : Nat, (r : Int) < M 26 3 → M (26 + 1 + 1 + 3 * r) 0 = 119 → ∃ l : Nat, (l : Int) < M 26 8 ∧ M (26 + 1 + 1 + 3 * r) 5 = (l : Int) ∧ M 392 l = (r : Int) ∧ (r : Int) ≤ M (26 + 1 + 1 + 3 * r) 14) ∧
  (∀ l : Nat, (l : Int) < M 26 8 → ∃ r : Nat, (r : Int) < M 26 3 ∧ M 392 l = (r : Int) ∧ M (26 + 1 + 1 + 3 * r) 0 = 119 ∧ M (26 + 1 + 1 + 3 * r) 5 = (l : Int)) ∧
  (∀ x r : Nat, x < r → (r : Int) < M 26 3 → (r : Int) ≤ M (26 + 1 + 1 + 3 * x) 14 → M (26 + 1 + 1 + 3 * r) 14 ≤ M (26 + 1 + 1 + 3 * x) 14) ∧
  (∀ r : Nat, (r : Int) < M 26 3 → M (26 + 1 + 1 + 3 * r) 14 < M 26 3) ∧
  ∀ r : Nat, (r : Int) < M 26 3 → (cr_iIL M 26 (26 + 1 + 1 + 3 * r) = true ↔ ∃ x : Nat, x < r ∧ M (26 + 1 + 1 + 3 * x) 0 = 119 ∧ (r : Int) ≤ M (26 + 1 + 1 + 3 * x) 14)
theorem cr_PT.gcL {f : Nat → Int} {M : ab_M} {t : pz_T} (h : cr_PT f M 26 t) (hw : pz_wf t) (hb : pz_sz t ≤ 120) (hPL : cr_PL M 26 (pz_sz t)) : gc_L M := by
  have hT := h.1
  obtain ⟨e3, -, -, e8, -⟩ := h.2.1
  have hK := cr_T_K (n := 0) h hw hb hPL t hw _ _ _ _ _ _ _ _ hT (by omega) (by decide)
  rw [if_neg (by decide), if_neg (by decide), if_neg (by decide)] at hK
  have hlp := cr_T_lp t hw _ _ _ _ _ _ _ _ hT
  have hin : ∀ r : Nat, (r : Int) < M 26 3 → r < 0 + pz_sz t := fun r hr => by omega
  have hgt : ∀ (r : Nat) (g : Int), (r : Int) < M 26 3 → (g = M (26 + 1 + 1 + 3 * r) 17 ∨ g = M (26 + 1 + 1 + 3 * r) 18) → gc_T M r g := fun r g hr hg => by
    rcases cr_K_T t hw _ _ _ _ _ _ _ _ _ _ hT hK r (Nat.zero_le _) (hin r hr) g hg with q | q | q | ⟨l', q', e1, e2, e4⟩
    · exact Or.inl ⟨q.1, by omega⟩
    · exact Or.inr (Or.inl q)
    · exact Or.inr (Or.inr (Or.inl q))
    · exact Or.inr (Or.inr (Or.inr ⟨l', q', e1, by omega, e4⟩))
  refine ⟨by omega, fun r hr => ⟨hgt r _ hr (Or.inl rfl), hgt r _ hr (Or.inr rfl)⟩, fun r hr h0 => ?_, fun l hl => ?_, fun x r h1 h2 h3 => cr_T_ne t hw _ _ _ _ _ _ _ _ hT x r (Nat.zero_le _) h1 (hin r h2) h3, fun r hr => ?_, fun r hr => ?_⟩
  · obtain ⟨l', -, e1, e2⟩ := hlp.1 r (Nat.zero_le _) (hin r hr) h0
    exact ⟨l', by omega, e2⟩
  · obtain ⟨r, -, e1, e2⟩ := hlp.2 l (Nat.zero_le _) (by omega)
    exact ⟨r, by omega, e2⟩
  · have := cr_T_en t hw _ _ _ _ _ _ _ _ hT r (Nat.zero_le _) (hin r hr)
    omega
  · have hanc := h.anc hw hb
    have hr' : r < pz_sz t := by omega
    unfold cr_iIL
    rw [List.any_eq_true]
    constructor
    · rintro ⟨x, h1, h2⟩
      have h2 : M (26 + 1 + 1 + 3 * x) 0 = 119 := of_decide_eq_true h2
      by_cases hx : x < pz_sz t
      · obtain ⟨q1, q2⟩ := (hanc r 120 x hr' (by omega) hx).1 h1
        exact ⟨x, q1, h2, q2⟩
      · exact absurd (by have := cr_anc_lt 120 _ x h1; omega) hx
    · rintro ⟨x, h1, h2, h3⟩
      exact ⟨x, (hanc r 120 x hr' (by omega) (by omega)).2 ⟨h1, h3⟩, decide_eq_true h2⟩
