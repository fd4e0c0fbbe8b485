/-! the class: the links of a tree -/
/-! the links of a tree -/
def cr_ent (t : pz_T) (r0 : Nat) (A : Int) : Int := match t with
  | .leaf => A
  | .inner _ _ _ _ _ => (r0 : Int)
/-- whether a variable is set in a tree -/
def pz_md : pz_T → Nat → Bool
  | .leaf, _ => false
  | .inner _ P _ t (.inner _ _ _ a b), v => pz_md t v || (decide ((P.1 = 0 ∨ P.1 = 1 ∨ P.1 = 5) ∧ P.2.1 = (v : Int)) || (pz_md a v || pz_md b v))
  | .inner _ _ _ _ .leaf, _ => false
/-- the links of the rows of a tree: behind it A, behind a throw C -/
def cr_K (M : ab_M) (p : Nat) : pz_T → Nat → Int → Int → Nat → Prop
  | .leaf, _, _, _, _ => True
  | .inner _ P _ t (.inner _ _ _ a b), r0, A, C, l =>
    cr_K M p t r0 ((r0 + pz_sz t : Nat) : Int) C l ∧
    (M (p + 1 + 1 + 3 * (r0 + pz_sz t)) 15 = A ∧ M (p + 1 + 1 + 3 * (r0 + pz_sz t)) 16 = C ∧
      M (p + 1 + 1 + 3 * (r0 + pz_sz t)) 17 = (if P.1 = 4 then C else if 6 ≤ P.1 then cr_ent a (r0 + pz_sz t + 1) (if P.1 = 7 then ((122 + (l + pz_nl t) : Nat) : Int) else A) else A) ∧
      M (p + 1 + 1 + 3 * (r0 + pz_sz t)) 18 = (if P.1 = 6 then cr_ent b (r0 + pz_sz t + 1 + pz_sz a) A else A)) ∧
    (P.1 = 7 → M (p + 1 + 1 + 3 * (r0 + pz_sz t)) 6 = pz_mk (pz_md a) ∧ M (p + 1 + 1 + 3 * (r0 + pz_sz t)) 7 = pz_mb (pz_md a)) ∧
    cr_K M p a (r0 + pz_sz t + 1) (if P.1 = 7 then ((122 + (l + pz_nl t) : Nat) : Int) else A) (if P.1 = 8 then cr_ent b (r0 + pz_sz t + 1 + pz_sz a) A else C) (l + pz_nl t + (if P.1 = 7 then 1 else 0)) ∧
    cr_K M p b (r0 + pz_sz t + 1 + pz_sz a) A C (l + pz_nl t + (if P.1 = 7 then 1 else 0) + pz_nl a)
  | .inner _ _ _ _ .leaf, _, _, _, _ => False
/-- the last row of a row's blocks; within which rows a row stands -/
theorem cr_T_en {f : Nat → Int} {M : ab_M} {p : Nat} : ∀ (t : pz_T), pz_wf t → ∀ (r0 : Nat) (par side nx : Int) (c l k q : Nat), cr_T f M p t r0 par side nx c l k q → ∀ r, r0 ≤ r → r < r0 + pz_sz t → M (p + 1 + 1 + 3 * r) 14 = -1 ∨ ((r : Int) ≤ M (p + 1 + 1 + 3 * r) 14 ∧ M (p + 1 + 1 + 3 * r) 14 < ((r0 + pz_sz t : Nat) : Int)) := by
  intro t
  induction t using pz_ind with
  | h0 => intro _ r0 par side nx c l k q _ r h1 h2; exact absurd h2 (by show ¬ r < r0 + 0; omega)
  | h2 s P v t => intro h; exact h.elim
  | h1 s P v t s' P' v' a b iht iha ihb =>
    intro hw r0 par side nx c l k q h r h1 h2
    obtain ⟨w1, w2, w3, w4, w5, w6⟩ := hw
    rw [pz_sz_nd] at h2 ⊢
    obtain ⟨g1, g2, g3, g4⟩ := h
    by_cases c1 : r < r0 + pz_sz t
    · rcases iht w1 _ _ _ _ _ _ _ _ g1 r h1 c1 with q | ⟨q1, q2⟩
      · exact Or.inl q
      · exact Or.inr ⟨q1, by omega⟩
    · by_cases c2 : r = r0 + pz_sz t
      · subst c2
        rw [g2.2.1.2.2.2.2]
        by_cases h6 : 6 ≤ P.1
        · rw [if_pos h6]; exact Or.inr ⟨by omega, by omega⟩
        · rw [if_neg h6]; exact Or.inl rfl
      · by_cases c3 : r < r0 + pz_sz t + 1 + pz_sz a
        · rcases iha w2 _ _ _ _ _ _ _ _ g3 r (by omega) c3 with q | ⟨q1, q2⟩
          · exact Or.inl q
          · exact Or.inr ⟨q1, by omega⟩
        · rcases ihb w3 _ _ _ _ _ _ _ _ g4 r (by omega) (by omega) with q | ⟨q1, q2⟩
          · exact Or.inl q
          · exact Or.inr ⟨q1, by omega⟩
theorem cr_T_loc {f : Nat → Int} {M : ab_M} {p : Nat} : ∀ (t : pz_T), pz_wf t → ∀ (r0 : Nat) (par side nx : Int) (c l k q : Nat), cr_T f M p t r0 par side nx c l k q → ∀ r, r0 ≤ r → r < r0 + pz_sz t →
    (M (p + 1 + 1 + 3 * r) 8 = par ∧ ∀ x, r0 ≤ x → x < r → M (p + 1 + 1 + 3 * x) 14 < (r : Int)) ∨ (∃ y, r0 ≤ y ∧ y < r ∧ M (p + 1 + 1 + 3 * r) 8 = (y : Int) ∧ (r : Int) ≤ M (p + 1 + 1 + 3 * y) 14 ∧ ∀ x, r0 ≤ x → x < r → x ≠ y → ((r : Int) ≤ M (p + 1 + 1 + 3 * x) 14 ↔ x < y ∧ (y : Int) ≤ M (p + 1 + 1 + 3 * x) 14)) := by
  intro t
  induction t using pz_ind with
  | h0 => intro _ r0 par side nx c l k q _ r h1 h2; exact absurd h2 (by show ¬ r < r0 + 0; omega)
  | h2 s P v t => intro h; exact h.elim
  | h1 s P v t s' P' v' a b iht iha ihb =>
    intro hw r0 par side nx c l k q h r h1 h2
    obtain ⟨w1, w2, w3, w4, w5, w6⟩ := hw
    rw [pz_sz_nd] at h2
    obtain ⟨g1, g2, g3, g4⟩ := h
    have ent := cr_T_en t w1 _ _ _ _ _ _ _ _ g1
    have ena := cr_T_en a w2 _ _ _ _ _ _ _ _ g3
    by_cases c1 : r < r0 + pz_sz t
    · exact iht w1 _ _ _ _ _ _ _ _ g1 r h1 c1
    · by_cases c2 : r = r0 + pz_sz t
      · subst c2
        refine Or.inl ⟨g2.2.1.1, fun x x1 x2 => ?_⟩
        rcases ent x x1 x2 with q | ⟨q1, q2⟩
        · omega
        · exact q2
      · have h6 : 6 ≤ P.1 := by
          by_cases z : 6 ≤ P.1
          · exact z
          · obtain ⟨y1, y2⟩ := w5 (by omega)
            subst y1
            subst y2
            have z0 : pz_sz (.leaf : pz_T) = 0 := rfl
            omega
        have hen : M (p + 1 + 1 + 3 * (r0 + pz_sz t)) 14 = ((r0 + pz_sz t + pz_sz a + pz_sz b : Nat) : Int) := by
          have := g2.2.1.2.2.2.2
          rw [if_pos h6] at this
          exact this
        have low : ∀ x, r0 ≤ x → x < r0 + pz_sz t → M (p + 1 + 1 + 3 * x) 14 < ((r0 + pz_sz t : Nat) : Int) := fun x x1 x2 => by
          rcases ent x x1 x2 with q | ⟨q1, q2⟩
          · omega
          · exact q2
        by_cases c3 : r < r0 + pz_sz t + 1 + pz_sz a
        · rcases iha w2 _ _ _ _ _ _ _ _ g3 r (by omega) c3 with ⟨q1, q2⟩ | ⟨y, y1, y2, y3, y4, y5⟩
          · refine Or.inr ⟨r0 + pz_sz t, by omega, by omega, q1, by omega, fun x x1 x2 x3 => ?_⟩
            by_cases z : x < r0 + pz_sz t
            · have := low x x1 z
              constructor
              · intro w; omega
              · intro w; omega
            · have := q2 x (by omega) x2
              constructor
              · intro w; omega
              · intro w; omega
          · refine Or.inr ⟨y, by omega, y2, y3, y4, fun x x1 x2 x3 => ?_⟩
            by_cases z : x < r0 + pz_sz t
            · have := low x x1 z
              constructor
              · intro w; omega
              · intro w; omega
            · by_cases z2 : x = r0 + pz_sz t
              · subst z2
                rw [hen]
                constructor
                · intro w; omega
                · intro w; omega
              · exact y5 x (by omega) x2 x3
        · rcases ihb w3 _ _ _ _ _ _ _ _ g4 r (by omega) (by omega) with ⟨q1, q2⟩ | ⟨y, y1, y2, y3, y4, y5⟩
          · refine Or.inr ⟨r0 + pz_sz t, by omega, by omega, q1, by omega, fun x x1 x2 x3 => ?_⟩
            by_cases z : x < r0 + pz_sz t
            · have := low x x1 z
              constructor
              · intro w; omega
              · intro w; omega
            · by_cases z3 : x < r0 + pz_sz t + 1 + pz_sz a
              · have hx : M (p + 1 + 1 + 3 * x) 14 < ((r0 + pz_sz t + 1 + pz_sz a : Nat) : Int) := by
                  rcases ena x (by omega) z3 with q | ⟨q1, q2⟩
                  · omega
                  · exact q2
                constructor
                · intro w; omega
                · intro w; omega
              · have := q2 x (by omega) x2
                constructor
                · intro w; omega
                · intro w; omega
          · refine Or.inr ⟨y, by omega, y2, y3, y4, fun x x1 x2 x3 => ?_⟩
            by_cases z : x < r0 + pz_sz t
            · have := low x x1 z
              constructor
              · intro w; omega
              · intro w; omega
            · by_cases z2 : x = r0 + pz_sz t
              · subst z2
                rw [hen]
                constructor
                · intro w; omega
                · intro w; omega
              · by_cases z3 : x < r0 + pz_sz t + 1 + pz_sz a
                · have hx : M (p + 1 + 1 + 3 * x) 14 < ((r0 + pz_sz t + 1 + pz_sz a : Nat) : Int) := by
                    rcases ena x (by omega) z3 with q | ⟨q1, q2⟩
                    · omega
                    · exact q2
                  constructor
                  · intro w; omega
                  · intro w; omega
                · exact y5 x (by omega) x2 x3
/-- in whose blocks a row stands: those whose last row is not before it -/
theorem cr_PT.anc {f : Nat → Int} {M : ab_M} {p : Nat} {t : pz_T} (h : cr_PT f M p t) (hw : pz_wf t) (hb : pz_sz t ≤ 120) : ∀ (r n x : Nat), r < pz_sz t → r < n → x < pz_sz t → (x ∈ cr_anc M p n (M (p + 1 + 1 + 3 * r) 8) ↔ x < r ∧ (r : Int) ≤ M (p + 1 + 1 + 3 * x) 14) := by
  obtain ⟨hT, ⟨h3, -⟩, -⟩ := h
  intro r
  induction r using Nat.strongRecOn with
  | ind r ih =>
    intro n x hr hn hx
    have hen := cr_T_en t hw 0 _ _ _ _ _ _ _ hT x (Nat.zero_le _) (by omega)
    rcases cr_T_loc t hw 0 _ _ _ _ _ _ _ hT r (Nat.zero_le _) (by omega) with ⟨q1, q2⟩ | ⟨y, y1, y2, y3, y4, y5⟩
    · rw [q1, cr_anc_e M p n _ (by omega)]
      constructor
      · intro z; cases z
      · rintro ⟨z1, z2⟩
        have := q2 x (Nat.zero_le _) z1
        omega
    · obtain ⟨n', rfl⟩ : ∃ n', n = n' + 1 := ⟨n - 1, by omega⟩
      rw [y3, cr_anc_s M p n' _ ⟨by omega, by omega⟩, List.mem_cons, Int.toNat_natCast, ih y y2 n' x (by omega) (by omega) hx]
      by_cases hxy : x = y
      · subst hxy
        exact ⟨fun _ => ⟨y2, y4⟩, fun _ => Or.inl rfl⟩
      · by_cases hxr : x < r
        · have := y5 x (Nat.zero_le _) hxr hxy
          constructor
          · rintro (z | z)
            · exact absurd z hxy
            · exact ⟨hxr, this.2 z⟩
          · rintro ⟨-, z⟩
            exact Or.inr (this.1 z)
        · constructor
          · rintro (z | z)
            · exact absurd z hxy
            · omega
          · rintro ⟨z, -⟩
            exact absurd z hxr
/-- which variables the rows of a tree set -/
theorem cr_T_md {f : Nat → Int} {M : ab_M} {p : Nat} : ∀ (t : pz_T), pz_wf t → ∀ (r0 : Nat) (par side nx : Int) (c l k q : Nat), cr_T f M p t r0 par side nx c l k q → ∀ v : Nat, (pz_md t v = true ↔ ∃ r, r0 ≤ r ∧ r < r0 + pz_sz t ∧ M (p + 1 + 1 + 3 * r) 1 = (v : Int)) := by
  intro t
  induction t using pz_ind with
  | h0 =>
    intro _ r0 par side nx c l k q _ v
    constructor
    · intro z; cases z
    · rintro ⟨r, h1, h2, -⟩
      exact absurd h2 (by show ¬ r < r0 + 0; omega)
  | h2 s P v t => intro h; exact h.elim
  | h1 s P v t s' P' v' a b iht iha ihb =>
    intro hw r0 par side nx c l k q h vv
    obtain ⟨w1, w2, w3, w4, w5, w6⟩ := hw
    rw [pz_sz_nd]
    obtain ⟨g1, g2, g3, g4⟩ := h
    have it := iht w1 _ _ _ _ _ _ _ _ g1 vv
    have ia := iha w2 _ _ _ _ _ _ _ _ g3 vv
    have ib := ihb w3 _ _ _ _ _ _ _ _ g4 vv
    have e1 := g2.1.2.1
    show (pz_md t vv || (decide ((P.1 = 0 ∨ P.1 = 1 ∨ P.1 = 5) ∧ P.2.1 = (vv : Int)) || (pz_md a vv || pz_md b vv))) = true ↔ _
    rw [Bool.or_eq_true, Bool.or_eq_true, Bool.or_eq_true, it, ia, ib, decide_eq_true_eq]
    constructor
    · rintro (⟨r, y1, y2, y3⟩ | ⟨y1, y2⟩ | ⟨r, y1, y2, y3⟩ | ⟨r, y1, y2, y3⟩)
      · exact ⟨r, y1, by omega, y3⟩
      · exact ⟨r0 + pz_sz t, by omega, by omega, by rw [e1, if_pos y1, y2]⟩
      · exact ⟨r, by omega, by omega, y3⟩
      · exact ⟨r, by omega, by omega, y3⟩
    · rintro ⟨r, y1, y2, y3⟩
      by_cases c1 : r < r0 + pz_sz t
      · exact Or.inl ⟨r, y1, c1, y3⟩
      · by_cases c2 : r = r0 + pz_sz t
        · subst c2
          rw [e1] at y3
          by_cases z : P.1 = 0 ∨ P.1 = 1 ∨ P.1 = 5
          · rw [if_pos z] at y3; exact Or.inr (Or.inl ⟨z, y3⟩)
          · rw [if_neg z] at y3; omega
        · by_cases c3 : r < r0 + pz_sz t + 1 + pz_sz a
          · exact Or.inr (Or.inr (Or.inl ⟨r, by omega, c3, y3⟩))
          · exact Or.inr (Or.inr (Or.inr ⟨r, by omega, by omega, y3⟩))
theorem cr_lt_4 {s : Int} (h0 : 0 ≤ s) (h8 : s ≤ 8) : (cr_lt s = 116 ↔ s = 4) ∧ (cr_lt s = 105 ↔ s = 6) ∧ (cr_lt s = 119 ↔ s = 7) ∧ (cr_lt s = 121 ↔ s = 8) := by
  have hc : s = 0 ∨ s = 1 ∨ s = 2 ∨ s = 3 ∨ s = 4 ∨ s = 5 ∨ s = 6 ∨ s = 7 ∨ s = 8 := by omega
  rcases hc with rfl | rfl | rfl | rfl | rfl | rfl | rfl | rfl | rfl <;> decide
theorem cr_ent_en {M : ab_M} {w k r0 : Nat} {t : pz_T} (hw : pz_wf t) (h : M (w + 1) k = cr_fs t r0) : cr_en M w k = cr_ent t r0 (cr_rb M w) := by
  unfold cr_en
  rw [h]
  cases t with
  | leaf => exact if_neg (by show ¬ (0 : Int) ≤ -1; decide)
  | inner s P v q c => exact if_pos (by show (0 : Int) ≤ (r0 : Int); omega)
theorem cr_T_K {f : Nat → Int} {M : ab_M} {p n : Nat} {T : pz_T} (hPT : cr_PT f M p T) (hwT : pz_wf T) (hbT : pz_sz T ≤ 120) (hPL : cr_PL M p (pz_sz T)) : ∀ (t : pz_T), pz_wf t → ∀ (r0 : Nat) (par side nx : Int) (c l k q : Nat), cr_T f M p t r0 par side nx c l k q → r0 + pz_sz t ≤ pz_sz T → (-1 ≤ nx) →
    cr_K M p t r0 (if 0 ≤ nx then nx else if 0 ≤ par then cr_rb M (p + 1 + 1 + 3 * par.toNat) else 120) (if 0 ≤ par then (if M (p + 1 + 1 + 3 * par.toNat) 0 = 121 ∧ side = 0 then cr_en M (p + 1 + 1 + 3 * par.toNat) 1 else M (p + 1 + 1 + 3 * par.toNat) 16) else 121) l := by
  intro t
  induction t using pz_ind with
  | h0 => intros; trivial
  | h2 s P v t => intro h; exact h.elim
  | h1 s P v t s' P' v' a b iht iha ihb =>
    intro hw r0 par side nx c l k q h hb hnx
    obtain ⟨w1, w2, w3, w4, w5, w6⟩ := hw
    rw [pz_sz_nd] at hb
    obtain ⟨g1, g2, g3, g4⟩ := h
    have it := iht w1 _ _ _ _ _ _ _ _ g1 (by omega) (by omega)
    have ia := iha w2 _ _ _ _ _ _ _ _ g3 (by omega) (by omega)
    have ib := ihb w3 _ _ _ _ _ _ _ _ g4 (by omega) (by omega)
    rw [if_pos (by omega)] at it
    rw [if_neg (by decide), if_pos (by omega), if_pos (by omega), Int.toNat_natCast] at ia ib
    obtain ⟨hrg, e15, e16, e17, e18⟩ := hPL.1 (r0 + pz_sz t) (by omega)
    obtain ⟨⟨s0, s1, s2, s3, s4, s5⟩, ⟨s8, s9, s10, s11, s14⟩, ⟨b0, b1, -⟩, -⟩ := id g2
    obtain ⟨l4, l6, l7, l8⟩ := cr_lt_4 w4.1.1 w4.1.2
    have a15 : M (p + 1 + 1 + 3 * (r0 + pz_sz t)) 15 = (if 0 ≤ nx then nx else if 0 ≤ par then cr_rb M (p + 1 + 1 + 3 * par.toNat) else 120) := by
      rw [e15]
      unfold cr_aft cr_ow
      rw [s10, s8]
    have a16 : M (p + 1 + 1 + 3 * (r0 + pz_sz t)) 16 = (if 0 ≤ par then (if M (p + 1 + 1 + 3 * par.toNat) 0 = 121 ∧ side = 0 then cr_en M (p + 1 + 1 + 3 * par.toNat) 1 else M (p + 1 + 1 + 3 * par.toNat) 16) else 121) := by
      rw [e16]
      unfold cr_cau cr_ow
      rw [s8, s9]
    rw [← a15, ← a16]
    have hrb : cr_rb M (p + 1 + 1 + 3 * (r0 + pz_sz t)) = if P.1 = 7 then ((122 + (l + pz_nl t) : Nat) : Int) else M (p + 1 + 1 + 3 * (r0 + pz_sz t)) 15 := by
      unfold cr_rb
      rw [s0, s5]
      by_cases z : P.1 = 7
      · rw [if_pos (l7.2 z), if_pos z, if_pos z]; push_cast; rfl
      · rw [if_neg (fun y => z (l7.1 y)), if_neg z]
    have hen0 := cr_ent_en w2 b0
    have hen1 := cr_ent_en w3 b1
    rw [hrb] at hen0 hen1
    refine ⟨?_, ⟨rfl, rfl, ?_, ?_⟩, fun z => ?_, ?_, ?_⟩
    · rw [← a16] at it
      exact it
    · rw [e17]
      unfold cr_go
      rw [s0, hen0]
      by_cases z4 : P.1 = 4
      · rw [if_pos (l4.2 z4), if_pos z4]
      · rw [if_neg (fun y => z4 (l4.1 y)), if_neg z4]
        by_cases z6 : 6 ≤ P.1
        · rw [if_pos z6, if_pos]
          have := w4.1.2
          have hc : P.1 = 6 ∨ P.1 = 7 ∨ P.1 = 8 := by omega
          rcases hc with y | y | y
          · exact Or.inl (l6.2 y)
          · exact Or.inr (Or.inl (l7.2 y))
          · exact Or.inr (Or.inr (l8.2 y))
        · rw [if_neg z6, if_neg]
          rintro (y | y | y)
          · have := l6.1 y; omega
          · have := l7.1 y; omega
          · have := l8.1 y; omega
    · rw [e18]
      unfold cr_ot
      rw [s0, hen1]
      by_cases z6 : P.1 = 6
      · rw [if_pos (l6.2 z6), if_pos z6, if_neg (by omega)]
      · rw [if_neg (fun y => z6 (l6.1 y)), if_neg z6]
    · obtain ⟨m6, m7⟩ := hPL.2 (r0 + pz_sz t) (by omega)
      rw [s0, if_pos (l7.2 z)] at m6 m7
      have hm : cr_mdf M p (r0 + pz_sz t) (pz_sz T) = pz_md a := by
        funext v
        rw [Bool.eq_iff_iff, cr_T_md a w2 _ _ _ _ _ _ _ _ g3 v]
        unfold cr_mdf
        rw [List.any_eq_true]
        have hb7 : b = .leaf := w6 z
        have hend : M (p + 1 + 1 + 3 * (r0 + pz_sz t)) 14 = ((r0 + pz_sz t + pz_sz a : Nat) : Int) := by
          rw [s14, if_pos (by omega), hb7]
          rfl
        constructor
        · rintro ⟨r, hr, hz⟩
          have hr := List.mem_range.mp hr
          rw [Bool.and_eq_true, decide_eq_true_eq, List.contains_iff_mem] at hz
          obtain ⟨z1, z2⟩ := hz
          obtain ⟨z3, z4⟩ := (hPT.anc hwT hbT r 120 (r0 + pz_sz t) hr (by omega) (by omega)).1 z2
          exact ⟨r, by omega, by omega, z1⟩
        · rintro ⟨r, y1, y2, y3⟩
          refine ⟨r, List.mem_range.mpr (by omega), ?_⟩
          rw [Bool.and_eq_true, decide_eq_true_eq, List.contains_iff_mem]
          exact ⟨y3, (hPT.anc hwT hbT r 120 (r0 + pz_sz t) (by omega) (by omega) (by omega)).2 ⟨by omega, by omega⟩⟩
      rw [hm] at m6 m7
      exact ⟨m6, m7⟩
    · have hc : (if cr_lt P.1 = 121 ∧ (0 : Int) = 0 then cr_ent b (r0 + pz_sz t + 1 + pz_sz a) (if P.1 = 7 then ((122 + (l + pz_nl t) : Nat) : Int) else M (p + 1 + 1 + 3 * (r0 + pz_sz t)) 15) else M (p + 1 + 1 + 3 * (r0 + pz_sz t)) 16) = if P.1 = 8 then cr_ent b (r0 + pz_sz t + 1 + pz_sz a) (M (p + 1 + 1 + 3 * (r0 + pz_sz t)) 15) else M (p + 1 + 1 + 3 * (r0 + pz_sz t)) 16 := by
        by_cases z8 : P.1 = 8
        · rw [if_pos ⟨l8.2 z8, rfl⟩, if_pos z8, if_neg (by omega)]
        · rw [if_neg (fun y => z8 (l8.1 y.1)), if_neg z8]
      rw [hrb, s0, hen1, hc] at ia
      exact ia
    · have hc : (if M (p + 1 + 1 + 3 * (r0 + pz_sz t)) 0 = 121 ∧ (1 : Int) = 0 then cr_en M (p + 1 + 1 + 3 * (r0 + pz_sz t)) 1 else M (p + 1 + 1 + 3 * (r0 + pz_sz t)) 16) = M (p + 1 + 1 + 3 * (r0 + pz_sz t)) 16 := if_neg (fun y => absurd y.2 (by decide))
      rw [hrb, hc] at ib
      by_cases z7 : P.1 = 7
      · rw [w6 z7]
        trivial
      · have hz : (if P.1 = 7 then ((122 + (l + pz_nl t) : Nat) : Int) else M (p + 1 + 1 + 3 * (r0 + pz_sz t)) 15) = M (p + 1 + 1 + 3 * (r0 + pz_sz t)) 15 := if_neg z7
        rw [hz] at ib
        exact ib

