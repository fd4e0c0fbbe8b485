/-! the class: the rows of a tree -/
/-! the class's rows of a tree -/
def pz_nt1 (s : Int) : Nat := if s = 1 ∨ s = 4 ∨ s = 8 then 0 else 1
def pz_nt2 (s : Int) : Nat := if s = 5 ∨ s = 7 then 1 else 0
/-- how many terms -/
def pz_nt : pz_T → Nat
  | .leaf => 0
  | .inner _ P _ p (.inner _ _ _ a b) => pz_nt p + (pz_nt1 P.1 + pz_nt2 P.1 + (pz_nt a + pz_nt b))
  | .inner _ _ _ _ .leaf => 0
/-- the last row of a row of statements, the first -/
def cr_ls (t : pz_T) (r0 : Nat) : Int := match t with
  | .leaf => -1
  | .inner _ _ _ p _ => ((r0 + pz_sz p : Nat) : Int)
def cr_fs (t : pz_T) (r0 : Nat) : Int := match t with
  | .leaf => -1
  | .inner _ _ _ _ _ => (r0 : Int)
def cr_lt (s : Int) : Int := if s = 0 then 118 else pz_lt s 0
/-- a place of the text with so many letters before it -/
def cr_bp (f : Nat → Int) (q : Nat) (z : Int) : Prop := ∃ k : Nat, z = (k : Int) ∧ k ≤ 640 ∧ (pz_pos f k).length = q
/-- a statement's row -/
def cr_S (f : Nat → Int) (M : ab_M) (p r : Nat) (P : pz_P) (par side nx pv : Int) (c l k q : Nat) (b0 b1 l0 l1 en : Int) : Prop :=
  (M (p + 1 + 1 + 3 * r) 0 = cr_lt P.1 ∧ M (p + 1 + 1 + 3 * r) 1 = (if P.1 = 0 ∨ P.1 = 1 ∨ P.1 = 5 then P.2.1 else -1) ∧ M (p + 1 + 1 + 3 * r) 2 = (if pz_nt1 P.1 = 1 then (k : Int) else -1) ∧ M (p + 1 + 1 + 3 * r) 3 = (if pz_nt2 P.1 = 1 then (k : Int) + 1 else -1) ∧ M (p + 1 + 1 + 3 * r) 4 = (if P.1 = 2 ∨ P.1 = 5 ∨ P.1 = 7 then (c : Int) else -1) ∧ M (p + 1 + 1 + 3 * r) 5 = (if P.1 = 7 then (l : Int) else -1)) ∧
  (M (p + 1 + 1 + 3 * r) 8 = par ∧ M (p + 1 + 1 + 3 * r) 9 = side ∧ M (p + 1 + 1 + 3 * r) 10 = nx ∧ M (p + 1 + 1 + 3 * r) 11 = pv ∧ M (p + 1 + 1 + 3 * r) 14 = en) ∧
  (M (p + 1 + 1 + 3 * r + 1) 0 = b0 ∧ M (p + 1 + 1 + 3 * r + 1) 1 = b1 ∧ M (p + 1 + 1 + 3 * r + 2) 0 = l0 ∧ M (p + 1 + 1 + 3 * r + 2) 1 = l1) ∧
  (P.1 = 7 → M (p + 366) l = (r : Int)) ∧
  (pz_nt1 P.1 = 1 → cr_bp f (q + 1) (M (p + 367) k) ∧ M (p + 368) k = (P.2.2.1.length : Int)) ∧
  (pz_nt2 P.1 = 1 → cr_bp f (q + 1 + P.2.2.1.length + (if P.1 = 5 then 1 else 0)) (M (p + 367) (k + 1)) ∧ M (p + 368) (k + 1) = (P.2.2.2.length : Int))
/-- all rows of a tree: from row r0 on, in a block of par, before row nx; checks, loops, terms, letters before it -/
def cr_T (f : Nat → Int) (M : ab_M) (p : Nat) : pz_T → Nat → Int → Int → Int → Nat → Nat → Nat → Nat → Prop
  | .leaf, _, _, _, _, _, _, _, _ => True
  | .inner _ P _ t (.inner _ _ _ a b), r0, par, side, nx, c, l, k, q =>
    cr_T f M p t r0 par side ((r0 + pz_sz t : Nat) : Int) c l k q ∧
    cr_S f M p (r0 + pz_sz t) P par side nx (cr_ls t r0) (c + pz_kn t) (l + pz_nl t) (k + pz_nt t) (q + (pz_pr t).length) (cr_fs a (r0 + pz_sz t + 1)) (cr_fs b (r0 + pz_sz t + 1 + pz_sz a)) (cr_ls a (r0 + pz_sz t + 1)) (cr_ls b (r0 + pz_sz t + 1 + pz_sz a)) (if 6 ≤ P.1 then ((r0 + pz_sz t + pz_sz a + pz_sz b : Nat) : Int) else -1) ∧
    cr_T f M p a (r0 + pz_sz t + 1) ((r0 + pz_sz t : Nat) : Int) 0 (-1) (c + pz_kn t + (pz_kd (P.1, 0, 0, 0, 0, 0, 0, 0)).length) (l + pz_nl t + (if P.1 = 7 then 1 else 0)) (k + pz_nt t + pz_nt1 P.1 + pz_nt2 P.1) (q + (pz_pr t).length + (pz_hd P).length + 1) ∧
    cr_T f M p b (r0 + pz_sz t + 1 + pz_sz a) ((r0 + pz_sz t : Nat) : Int) 1 (-1) (c + pz_kn t + (pz_kd (P.1, 0, 0, 0, 0, 0, 0, 0)).length + pz_kn a) (l + pz_nl t + (if P.1 = 7 then 1 else 0) + pz_nl a) (k + pz_nt t + pz_nt1 P.1 + pz_nt2 P.1 + pz_nt a) (q + (pz_pr t).length + (pz_hd P).length + 1 + (pz_pr a).length + 2)
  | .inner _ _ _ _ .leaf, _, _, _, _, _, _, _, _ => False
/-- the cells of these rows are the same -/
def cr_sm (p : Nat) (M M' : ab_M) (lo hi : Nat) : Prop := ∀ i, lo ≤ i → i < hi → ∀ j, j ≤ 2 → ∀ k, M' (p + 1 + 1 + 3 * i + j) k = M (p + 1 + 1 + 3 * i + j) k
def cr_sa (p : Nat) (M M' : ab_M) (l k : Nat) : Prop := (∀ i, i < l → M' (p + 366) i = M (p + 366) i) ∧ (∀ i, i < k → M' (p + 367) i = M (p + 367) i ∧ M' (p + 368) i = M (p + 368) i)
theorem cr_sa.le {p : Nat} {M M' : ab_M} {l k l' k' : Nat} (h : cr_sa p M M' l k) (h1 : l' ≤ l) (h2 : k' ≤ k) : cr_sa p M M' l' k' := ⟨fun i hi => h.1 i (by omega), fun i hi => h.2 i (by omega)⟩
theorem cr_sm.le {p : Nat} {M M' : ab_M} {lo hi lo' hi' : Nat} (h : cr_sm p M M' lo hi) (h1 : lo ≤ lo') (h2 : hi' ≤ hi) : cr_sm p M M' lo' hi' := fun i a b => h i (by omega) (by omega)
theorem cr_S_fr {f : Nat → Int} {M M' : ab_M} {p r : Nat} {P : pz_P} {par side nx pv : Int} {c l k q : Nat} {b0 b1 l0 l1 en : Int} (h : cr_S f M p r P par side nx pv c l k q b0 b1 l0 l1 en) (hs : cr_sm p M M' r (r + 1)) (ha : cr_sa p M M' (l + (if P.1 = 7 then 1 else 0)) (k + pz_nt1 P.1 + pz_nt2 P.1)) : cr_S f M' p r P par side nx pv c l k q b0 b1 l0 l1 en := by
  have e0 : ∀ i, M' (p + 1 + 1 + 3 * r) i = M (p + 1 + 1 + 3 * r) i := fun i => hs r (Nat.le_refl _) (Nat.lt_succ_self _) 0 (by decide) i
  have e1 : ∀ i, M' (p + 1 + 1 + 3 * r + 1) i = M (p + 1 + 1 + 3 * r + 1) i := fun i => hs r (Nat.le_refl _) (Nat.lt_succ_self _) 1 (by decide) i
  have e2 : ∀ i, M' (p + 1 + 1 + 3 * r + 2) i = M (p + 1 + 1 + 3 * r + 2) i := fun i => hs r (Nat.le_refl _) (Nat.lt_succ_self _) 2 (by decide) i
  unfold cr_S at h ⊢
  simp only [e0, e1, e2]
  obtain ⟨h1, h2, h3, h4, h5, h6⟩ := h
  refine ⟨h1, h2, h3, fun z => ?_, fun z => ?_, fun z => ?_⟩
  · rw [if_pos z] at ha
    rw [ha.1 l (by omega)]; exact h4 z
  · rw [(ha.2 k (by omega)).1, (ha.2 k (by omega)).2]; exact h5 z
  · have hz : pz_nt1 P.1 = 1 := by
      unfold pz_nt2 at z
      unfold pz_nt1
      by_cases q : P.1 = 5 ∨ P.1 = 7
      · rw [if_neg (by omega)]
      · rw [if_neg q] at z; cases z
    rw [(ha.2 (k + 1) (by omega)).1, (ha.2 (k + 1) (by omega)).2]; exact h6 z
theorem pz_sz_nd (s : Nat) (P : pz_P) (v : Unit) (p : pz_T) (s' : Nat) (P' : pz_P) (v' : Unit) (a b : pz_T) : pz_sz (.inner s P v p (.inner s' P' v' a b)) = pz_sz p + (1 + (pz_sz a + pz_sz b)) := rfl
theorem pz_nt_nd (s : Nat) (P : pz_P) (v : Unit) (p : pz_T) (s' : Nat) (P' : pz_P) (v' : Unit) (a b : pz_T) : pz_nt (.inner s P v p (.inner s' P' v' a b)) = pz_nt p + (pz_nt1 P.1 + pz_nt2 P.1 + (pz_nt a + pz_nt b)) := rfl
theorem cr_T_fr {f : Nat → Int} {M M' : ab_M} {p : Nat} : ∀ (t : pz_T) (r0 : Nat) (par side nx : Int) (c l k q : Nat), cr_T f M p t r0 par side nx c l k q → cr_sm p M M' r0 (r0 + pz_sz t) → cr_sa p M M' (l + pz_nl t) (k + pz_nt t) → cr_T f M' p t r0 par side nx c l k q := by
  intro t
  induction t using pz_ind with
  | h0 => intros; trivial
  | h2 s P v t => intro r0 par side nx c l k q h; exact h.elim
  | h1 s P v t s' P' v' a b iht iha ihb =>
    intro r0 par side nx c l k q h hs ha
    rw [pz_sz_nd] at hs
    rw [pz_nl_nd, pz_nt_nd] at ha
    obtain ⟨h1, h2, h3, h4⟩ := h
    exact ⟨iht _ _ _ _ _ _ _ _ h1 (hs.le (Nat.le_refl _) (by omega)) (ha.le (by omega) (by omega)), cr_S_fr h2 (hs.le (by omega) (by omega)) (ha.le (by split <;> omega) (by omega)),
      iha _ _ _ _ _ _ _ _ h3 (hs.le (by omega) (by omega)) (ha.le (by split <;> omega) (by omega)), ihb _ _ _ _ _ _ _ _ h4 (hs.le (by omega) (by omega)) (ha.le (by split <;> omega) (by omega))⟩
/-- the row behind: a write to the last row's next -/
theorem cr_T_nx {f : Nat → Int} {M M' : ab_M} {p : Nat} {t : pz_T} {r0 : Nat} {par side nx nx' : Int} {c l k q : Nat} (h : cr_T f M p t r0 par side nx c l k q) (hl : ∀ r : Nat, cr_ls t r0 = (r : Int) → M' (p + 1 + 1 + 3 * r) 10 = nx') (hs : ∀ i, r0 ≤ i → i < r0 + pz_sz t → ∀ j, j ≤ 2 → ∀ k, ¬ (cr_ls t r0 = (i : Int) ∧ j = 0 ∧ k = 10) → M' (p + 1 + 1 + 3 * i + j) k = M (p + 1 + 1 + 3 * i + j) k) (ha : cr_sa p M M' (l + pz_nl t) (k + pz_nt t)) : cr_T f M' p t r0 par side nx' c l k q := by
  revert h hl hs ha
  induction t using pz_ind with
  | h0 => intros; trivial
  | h2 s P v t => intro h; exact h.elim
  | h1 s P v t s' P' v' a b _ _ _ =>
    intro h hl hs ha
    have hl0 : cr_ls (.inner s P v t (.inner s' P' v' a b)) r0 = ((r0 + pz_sz t : Nat) : Int) := rfl
    rw [hl0] at hl hs
    rw [pz_sz_nd] at hs
    rw [pz_nl_nd, pz_nt_nd] at ha
    obtain ⟨h1, h2, h3, h4⟩ := h
    have hl := hl _ rfl
    have hsm : ∀ lo hi, r0 ≤ lo → hi ≤ r0 + (pz_sz t + (1 + (pz_sz a + pz_sz b))) → (∀ i, lo ≤ i → i < hi → i ≠ r0 + pz_sz t) → cr_sm p M M' lo hi := fun lo hi u1 u2 u3 i w1 w2 j w3 kk => hs i (by omega) (by omega) j w3 kk (fun z => u3 i w1 w2 (by omega))
    refine ⟨cr_T_fr _ _ _ _ _ _ _ _ _ h1 (hsm _ _ (Nat.le_refl _) (by omega) fun i _ _ => by omega) (ha.le (by omega) (by omega)), ?_, cr_T_fr _ _ _ _ _ _ _ _ _ h3 (hsm _ _ (by omega) (by omega) fun i _ _ => by omega) (ha.le (by split <;> omega) (by omega)), cr_T_fr _ _ _ _ _ _ _ _ _ h4 (hsm _ _ (by omega) (by omega) fun i _ _ => by omega) (ha.le (by split <;> omega) (by omega))⟩
    have e0 : ∀ kk, kk ≠ 10 → M' (p + 1 + 1 + 3 * (r0 + pz_sz t)) kk = M (p + 1 + 1 + 3 * (r0 + pz_sz t)) kk := fun kk hk => hs _ (by omega) (by omega) 0 (by decide) kk (fun z => hk z.2.2)
    have e1 : ∀ kk, M' (p + 1 + 1 + 3 * (r0 + pz_sz t) + 1) kk = M (p + 1 + 1 + 3 * (r0 + pz_sz t) + 1) kk := fun kk => hs _ (by omega) (by omega) 1 (by decide) kk (fun z => absurd z.2.1 (by decide))
    have e2 : ∀ kk, M' (p + 1 + 1 + 3 * (r0 + pz_sz t) + 2) kk = M (p + 1 + 1 + 3 * (r0 + pz_sz t) + 2) kk := fun kk => hs _ (by omega) (by omega) 2 (by decide) kk (fun z => absurd z.2.1 (by decide))
    unfold cr_S at h2 ⊢
    rw [e0 0 (by decide), e0 1 (by decide), e0 2 (by decide), e0 3 (by decide), e0 4 (by decide), e0 5 (by decide), e0 8 (by decide), e0 9 (by decide), e0 11 (by decide), e0 14 (by decide), e1, e1, e2, e2, hl]
    obtain ⟨g1, ⟨g2, g3, -, g5, g6⟩, g7, g8, g9, g10⟩ := h2
    refine ⟨g1, ⟨g2, g3, rfl, g5, g6⟩, g7, fun z => ?_, fun z => ?_, fun z => ?_⟩
    · rw [if_pos z] at ha
      rw [ha.1 _ (by omega)]; exact g8 z
    · rw [(ha.2 (k + pz_nt t) (by omega)).1, (ha.2 (k + pz_nt t) (by omega)).2]; exact g9 z
    · have hz : pz_nt1 P.1 = 1 := by
        unfold pz_nt2 at z
        unfold pz_nt1
        by_cases w : P.1 = 5 ∨ P.1 = 7
        · rw [if_neg (by omega)]
        · rw [if_neg w] at z; cases z
      rw [(ha.2 (k + pz_nt t + 1) (by omega)).1, (ha.2 (k + pz_nt t + 1) (by omega)).2]; exact g10 z
/-- of open blocks: rows, loops, terms before the innermost block; whose block it is, which one -/
def cr_zr : List pz_F → Nat
  | [] => 0
  | f :: fs => cr_zr fs + pz_sz f.1 + 1 + (if f.2.2.1 then pz_sz f.2.2.2 else 0)
def cr_zn : List pz_F → Nat
  | [] => 0
  | f :: fs => cr_zn fs + pz_nl f.1 + (if f.2.1.1 = 7 then 1 else 0) + (if f.2.2.1 then pz_nl f.2.2.2 else 0)
def cr_zt : List pz_F → Nat
  | [] => 0
  | f :: fs => cr_zt fs + pz_nt f.1 + pz_nt1 f.2.1.1 + pz_nt2 f.2.1.1 + (if f.2.2.1 then pz_nt f.2.2.2 else 0)
def cr_zp : List pz_F → Int
  | [] => -1
  | f :: fs => ((cr_zr fs + pz_sz f.1 : Nat) : Int)
def cr_zs : List pz_F → Int
  | [] => 0
  | f :: _ => if f.2.2.1 then 1 else 0
/-- the rows of open blocks; what is the first and the last row of the innermost so far -/
def cr_Z (f : Nat → Int) (M : ab_M) (p : Nat) : List pz_F → Int → Int → Prop
  | [], _, lst => M p 4 = lst
  | g :: fs, fst, lst =>
    (M 765 fs.length = ((cr_zr fs + pz_sz g.1 : Nat) : Int) ∧ M 766 fs.length = (if g.2.2.1 then 1 else 0) ∧ M 767 fs.length = ((cr_zr fs + pz_sz g.1 : Nat) : Int)) ∧
    cr_T f M p g.1 (cr_zr fs) (cr_zp fs) (cr_zs fs) ((cr_zr fs + pz_sz g.1 : Nat) : Int) (pz_zkn fs) (cr_zn fs) (cr_zt fs) (pz_zpr fs).length ∧
    cr_S f M p (cr_zr fs + pz_sz g.1) g.2.1 (cr_zp fs) (cr_zs fs) (-1) (cr_ls g.1 (cr_zr fs)) (pz_zkn fs + pz_kn g.1) (cr_zn fs + pz_nl g.1) (cr_zt fs + pz_nt g.1) ((pz_zpr fs).length + (pz_pr g.1).length)
      (if g.2.2.1 then cr_fs g.2.2.2 (cr_zr fs + pz_sz g.1 + 1) else fst) (if g.2.2.1 then fst else -1) (if g.2.2.1 then cr_ls g.2.2.2 (cr_zr fs + pz_sz g.1 + 1) else lst) (if g.2.2.1 then lst else -1) (-1) ∧
    (g.2.2.1 = true → cr_T f M p g.2.2.2 (cr_zr fs + pz_sz g.1 + 1) ((cr_zr fs + pz_sz g.1 : Nat) : Int) 0 (-1) (pz_zkn fs + pz_kn g.1 + (pz_kd (g.2.1.1, 0, 0, 0, 0, 0, 0, 0)).length) (cr_zn fs + pz_nl g.1 + (if g.2.1.1 = 7 then 1 else 0)) (cr_zt fs + pz_nt g.1 + pz_nt1 g.2.1.1 + pz_nt2 g.2.1.1) ((pz_zpr fs).length + (pz_pr g.1).length + (pz_hd g.2.1).length + 1)) ∧
    cr_Z f M p fs (cr_fs (pz_nd g.2.1 g.1 .leaf .leaf) (cr_zr fs)) ((cr_zr fs + pz_sz g.1 : Nat) : Int)
/-- what the reader of the class holds between turns -/
def cr_R (f : Nat → Int) (M : ab_M) (p : Nat) (fs : List pz_F) (t : pz_T) (E : List pz_Ev) : Prop :=
  (M p 3 = ((cr_zr fs + pz_sz t : Nat) : Int) ∧ M p 6 = (((pz_kds E).length : Nat) : Int) ∧ M p 8 = ((cr_zn fs + pz_nl t : Nat) : Int) ∧ M p 11 = ((cr_zt fs + pz_nt t : Nat) : Int)) ∧
  (∀ (k : Nat) (v : Int), (pz_kds E)[k]? = some v → M (p + 365) k = v) ∧
  (M 764 8 = (fs.length : Int) ∧ M 764 9 = (pz_zl fs : Int) ∧ M 767 fs.length = cr_ls t (cr_zr fs)) ∧
  (∀ r : Nat, r < cr_zr fs + pz_sz t → M (p + 1 + 1 + 3 * r) 6 = 0 ∧ M (p + 1 + 1 + 3 * r) 7 = 0) ∧
  cr_T f M p t (cr_zr fs) (cr_zp fs) (cr_zs fs) (-1) (pz_zkn fs) (cr_zn fs) (cr_zt fs) (pz_zpr fs).length ∧
  cr_Z f M p fs (cr_fs t (cr_zr fs)) (cr_ls t (cr_zr fs))

