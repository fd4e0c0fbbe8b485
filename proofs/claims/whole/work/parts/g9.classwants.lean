/-! a program that the class has read: what its methods want -/
theorem cr_T_row {f : Nat → Int} {M : ab_M} {p : Nat} : ∀ (t : pz_T), pz_wf t → ∀ (r0 : Nat) (par side nx : Int) (c l k q : Nat), cr_T f M p t r0 par side nx c l k q → ∀ r, r0 ≤ r → r < r0 + pz_sz t →
    ∃ (P : pz_P) (par' side' nx' pv' b0 b1 l0 l1 en : Int) (c' l' k' q' : Nat), cr_S f M p r P par' side' nx' pv' c' l' k' q' b0 b1 l0 l1 en ∧ pz_wfP P ∧ c' + (pz_kd (P.1, 0, 0, 0, 0, 0, 0, 0)).length ≤ c + pz_kn t ∧ l' + (if P.1 = 7 then 1 else 0) ≤ l + pz_nl t ∧ k' + pz_nt1 P.1 + pz_nt2 P.1 ≤ k + pz_nt t := by
  intro t
  induction t using pz_ind with
  | h0 => intro _ r0 par side nx c l k q _ r h1 h2; exact absurd h2 (by have : pz_sz (.leaf : pz_T) = 0 := rfl; omega)
  | h2 s P v t => intro h; exact h.elim
  | h1 s P v t s' P' v' a b iht iha ihb =>
    intro hw r0 par side nx c l k q hT r h1 h2
    obtain ⟨w1, w2, w3, w4, w5, w6⟩ := hw
    obtain ⟨g1, g2, g3, g4⟩ := hT
    rw [pz_sz_nd] at h2
    rw [pz_kn_nd, pz_nl_nd, show pz_nt (.inner s P v t (.inner s' P' v' a b)) = pz_nt t + (pz_nt1 P.1 + pz_nt2 P.1 + (pz_nt a + pz_nt b)) from rfl]
    by_cases c1 : r < r0 + pz_sz t
    · obtain ⟨P1, x1, x2, x3, x4, x5, x6, x7, x8, x9, y1, y2, y3, y4, z1, z2, z3, z4, z5⟩ := iht w1 _ _ _ _ _ _ _ _ g1 r h1 c1
      exact ⟨P1, x1, x2, x3, x4, x5, x6, x7, x8, x9, y1, y2, y3, y4, z1, z2, by omega, by omega, by omega⟩
    · by_cases c2 : r = r0 + pz_sz t
      · rw [c2]
        exact ⟨P, _, _, _, _, _, _, _, _, _, _, _, _, _, g2, w4, by omega, by omega, by omega⟩
      · by_cases c3 : r < r0 + pz_sz t + 1 + pz_sz a
        · obtain ⟨P1, x1, x2, x3, x4, x5, x6, x7, x8, x9, y1, y2, y3, y4, z1, z2, z3, z4, z5⟩ := iha w2 _ _ _ _ _ _ _ _ g3 r (by omega) c3
          exact ⟨P1, x1, x2, x3, x4, x5, x6, x7, x8, x9, y1, y2, y3, y4, z1, z2, by omega, by omega, by omega⟩
        · obtain ⟨P1, x1, x2, x3, x4, x5, x6, x7, x8, x9, y1, y2, y3, y4, z1, z2, z3, z4, z5⟩ := ihb w3 _ _ _ _ _ _ _ _ g4 r (by omega) (by omega)
          exact ⟨P1, x1, x2, x3, x4, x5, x6, x7, x8, x9, y1, y2, y3, y4, z1, z2, by omega, by omega, by omega⟩
theorem cr_lt_v {s : Int} (h : 0 ≤ s ∧ s ≤ 8) (hv : cr_lt s = 104 ∨ cr_lt s = 112 ∨ cr_lt s = 118) : s = 0 ∨ s = 1 ∨ s = 5 := by
  have hc : s = 0 ∨ s = 1 ∨ s = 2 ∨ s = 3 ∨ s = 4 ∨ s = 5 ∨ s = 6 ∨ s = 7 ∨ s = 8 := by omega
  rcases hc with z | z | z | z | z | z | z | z | z <;> subst z <;> first | (exact .inl rfl) | (exact .inr (.inl rfl)) | (exact .inr (.inr rfl)) | (exact absurd hv (by decide))
theorem pz_mb4_r : ∀ a b c d : Bool, 0 ≤ pz_mb4 a b c d ∧ pz_mb4 a b c d ≤ 255 := by decide
theorem pd_P.sz {M : ab_M} {t : pz_T} (h : pd_P M t) : (pz_wf t ∧ pz_sz t ≤ 120 ∧ pz_nt t ≤ 60 ∧ pz_kn t ≤ 16 ∧ pz_nl t ≤ 4) ∧ M 26 3 = ((pz_sz t : Nat) : Int) ∧ M 26 6 = ((pz_kn t : Nat) : Int) ∧ M 26 8 = ((pz_nl t : Nat) : Int) ∧ M 26 11 = ((pz_nt t : Nat) : Int) ∧ M 26 4 = cr_ls t 0 := by
  obtain ⟨hg, ⟨-, ⟨e3, e4, e6, e8, e11⟩, -⟩, -⟩ := h
  exact ⟨⟨hg.1.1, hg.sz.1, hg.sz.2, hg.2.2.1.1, hg.2.2.1.2⟩, e3, e6, e8, e11, e4⟩
theorem pd_P.K {M : ab_M} {t : pz_T} (h : pd_P M t) : cr_K M 26 t 0 120 121 0 := by
  obtain ⟨⟨hw, hs, -⟩, -⟩ := h.sz
  have hK := cr_T_K (n := 0) h.2.1 hw hs h.2.2.1 t hw _ _ _ _ _ _ _ _ h.2.1.1 (by omega) (by decide)
  rw [if_neg (by decide), if_neg (by decide), if_neg (by decide)] at hK
  exact hK
theorem pd_P.gL {M : ab_M} {t : pz_T} (h : pd_P M t) : gc_L M := by
  obtain ⟨⟨hw, hs, -⟩, -⟩ := h.sz
  exact h.2.1.gcL hw hs h.2.2.1
theorem pd_P.ts {M : ab_M} {t : pz_T} (h : pd_P M t) (h0 : ts_s M 388) : ts_p M := by
  obtain ⟨⟨hw, hs, hnt, hkn, hnl⟩, e3, e6, e8, e11, -⟩ := h.sz
  have hL := h.gL
  obtain ⟨l1, l2, l3, l4, -⟩ := hL
  refine ⟨by omega, by omega, fun l hl => ?_, fun r hr => ?_, h0⟩
  · obtain ⟨r, r1, r2, -⟩ := l4 l hl
    omega
  · obtain ⟨P, par', side', nx', pv', b0, b1, y0, y1, en, c', l', k', q', ⟨⟨s0, s1, s2, s3, s4, s5⟩, -⟩, wP, z1, z2, z3⟩ := cr_T_row t hw _ _ _ _ _ _ _ _ h.2.1.1 r (Nat.zero_le _) (by omega)
    obtain ⟨g0, -⟩ := (h.2.2.1.1 r (by omega)).1
    have g7 := (h.2.2.1.2 r (by omega)).2
    obtain ⟨t17, t18⟩ := l2 r hr
    have hg : ∀ g, gc_T M r g → ab_ir g := by
      intro g hg
      rcases hg with ⟨x1, x2⟩ | x | x | ⟨l, q, x1, x2, -⟩
      · exact ⟨by omega, by omega⟩
      · exact ⟨by omega, by omega⟩
      · exact ⟨by omega, by omega⟩
      · exact ⟨by omega, by omega⟩
    have hv : P.1 = 0 ∨ P.1 = 1 ∨ P.1 = 5 → 0 ≤ P.2.1 ∧ P.2.1 ≤ 3 := fun z => by have := wP.2.1; rw [if_pos z] at this; exact this
    refine ⟨by omega, by omega, ⟨by omega, by omega⟩, ?_, ?_, ?_, hg _ t17, hg _ t18, ?_, ?_, fun z => ?_, by omega, ?_⟩
    · rw [s1]; split
      · rename_i y; have := hv y; omega
      · omega
    · rw [s2]; split <;> omega
    · rw [s3]; split <;> omega
    · rw [s5]; split
      · rename_i y; rw [if_pos y] at z2; omega
      · omega
    · rw [g7]; split
      · exact pz_mb4_r _ _ _ _
      · omega
    · rw [s0] at z
      have y := cr_lt_v wP.1 z
      rw [s1, if_pos (by omega)]
      exact (hv (by omega)).1
    · rw [s4]; split
      · rename_i y
        have hk : 1 ≤ (pz_kd (P.1, 0, 0, 0, 0, 0, 0, 0)).length := by
          rcases y with y | y | y <;> (rw [y]; decide)
        omega
      · omega
theorem pd_P.gA {M : ab_M} {t : pz_T} (h : pd_P M t) (h0 : ts_s M 388) : gc_A M := by
  obtain ⟨⟨-, hs, -⟩, e3, -⟩ := h.sz
  refine ⟨h.ts h0, h.gL, fun r hr => ?_⟩
  obtain ⟨g0, -, g8, -⟩ := (h.2.2.1.1 r (by omega)).1
  exact ⟨⟨by omega, by omega⟩, ⟨by omega, by omega⟩, by omega⟩
/-- the words of a tree's terms -/
def cw_V (g : Nat → List Int) : pz_T → Nat → Prop
  | .leaf, _ => True
  | .inner _ P _ t (.inner _ _ _ a b), k => cw_V g t k ∧ ((pz_nt1 P.1 = 1 → g (k + pz_nt t) = P.2.2.1) ∧ (pz_nt2 P.1 = 1 → g (k + pz_nt t + 1) = P.2.2.2)) ∧ cw_V g a (k + pz_nt t + pz_nt1 P.1 + pz_nt2 P.1) ∧ cw_V g b (k + pz_nt t + pz_nt1 P.1 + pz_nt2 P.1 + pz_nt a)
  | .inner _ _ _ _ .leaf, _ => False
def tm_ok (M : ab_M) (j : Nat) : Prop := vl_P M 4 (M 393 j) (vl_W M j) ∧ (0 ≤ M 394 j ∧ M 394 j ≤ 120) ∧ M 393 j + M 394 j ≤ M 3 1
theorem pos_len {f : Nat → Int} {n : Nat} (h : ∀ k, k < n → f k ≠ 32) {j q : Nat} (hj : (pz_pos f j).length = q) (hq : q < n) : j = q := by
  have hle : ∀ m, m ≤ n → (pz_pos f m).length = m := fun m hm => by
    unfold pz_pos
    rw [List.filter_eq_self.2 fun k hk => decide_eq_true (h k (by have := List.mem_range.1 hk; omega)), List.length_range]
  by_cases c : j ≤ n
  · rw [hle j c] at hj; exact hj
  · have hs : (pz_pos f j).length = (pz_pos f n).length + (((List.range (j - n)).map (fun i => n + i)).filter (fun k => decide (f k ≠ 32))).length := by
      unfold pz_pos
      rw [← List.length_append, ← List.filter_append, ← List.range_add, show n + (j - n) = j by omega]
    rw [hle n (Nat.le_refl _)] at hs
    omega
theorem vlW_ws {M : ab_M} {ls : List Int} (hls : ls = tx M 3) {j : Nat} {b n : Int} (hb : M 393 j = b) (hn : M 394 j = n) (h : ws_ok ls b n) : vl_W M j = ws ls b n := by
  obtain ⟨⟨h1, h2, h3⟩, -⟩ := h
  have hl : ls.length = (M 3 1).toNat := by rw [hls]; exact pz_ls_len _ _
  unfold vl_W ws
  rw [hb, hn]
  apply List.ext_getElem?
  intro i
  by_cases c : i < n.toNat
  · rw [List.getElem?_take_of_lt c, List.getElem?_drop, hls, pz_ls_get, if_pos (by omega), List.getElem?_map, List.getElem?_eq_getElem (by rw [List.length_range]; exact c), List.getElem_range]
    rfl
  · rw [List.getElem?_eq_none (by rw [List.length_map, List.length_range]; omega), List.getElem?_eq_none (by rw [List.length_take]; omega)]
theorem tm_of {M : ab_M} {ls : List Int} (hls : ls = tx M 3) (h31 : 0 ≤ M 3 1) {j : Nat} {b n : Int} {w : List Int} (hb : M 393 j = b) (hn : M 394 j = n) (h : ws_ok ls b n) (hw : ws ls b n = w) (hn0 : pz_ist w) (hn1 : n ≤ 120) : tm_ok M j ∧ vl_W M j = w := by
  have e := vlW_ws hls hb hn h
  have hl : ls.length = (M 3 1).toNat := by rw [hls]; exact pz_ls_len _ _
  obtain ⟨⟨h1, h2, h3⟩, -⟩ := h
  refine ⟨⟨⟨by omega, by rw [e, hw]; exact hn0, fun i hi => ?_⟩, by omega, by omega⟩, by rw [e, hw]⟩
  unfold vl_W at hi ⊢
  rw [List.length_map, List.length_range] at hi
  unfold pz_at
  rw [List.getD_eq_getElem?_getD, List.getElem?_map, List.getElem?_eq_getElem (by rw [List.length_range]; exact hi), List.getElem_range]
  rfl
theorem cr_T_W {M : ab_M} {ls : List Int} (hls : ls = tx M 3) (hns : ∀ c ∈ ls, c ≠ 32) (h31 : 0 ≤ M 3 1) : ∀ (t : pz_T), pz_wf t → pz_tb 120 t → ∀ (pre post : List Int) (r0 : Nat) (par side nx : Int) (c l k q : Nat), ls = pre ++ (pz_pr t ++ post) → q = pre.length → cr_T (M 4) M 26 t r0 par side nx c l k q → (∀ j, k ≤ j → j < k + pz_nt t → tm_ok M j) ∧ cw_V (vl_W M) t k := by
  have hf : ∀ k, k < ls.length → M 4 k ≠ 32 := fun k hk => by
    have hl : ls.length = (M 3 1).toNat := by rw [hls]; exact pz_ls_len _ _
    have := pz_ls_get (M 4) (M 3 1) k
    rw [if_pos (by omega)] at this
    exact hns _ (List.mem_of_getElem? (by rw [hls]; exact this))
  intro t
  induction t using pz_ind with
  | h0 => intro _ _ pre post r0 par side nx c l k q _ _ _; exact ⟨fun j h1 h2 => absurd h2 (by have : pz_nt (.leaf : pz_T) = 0 := rfl; omega), trivial⟩
  | h2 s P v t => intro h; exact h.elim
  | h1 s P v t s' P' v' a b iht iha ihb =>
    intro hw hb pre post r0 par side nx c l k q he hq hT
    obtain ⟨w1, w2, w3, w4, w5, w6⟩ := hw
    obtain ⟨b1, b2, b3, b4, b5⟩ := hb
    obtain ⟨g1, g2, g3, g4⟩ := hT
    rw [pz_pr_nd] at he
    obtain ⟨t1, t2⟩ := iht w1 b1 pre _ _ _ _ _ _ _ _ q (by rw [he, List.append_assoc]) hq g1
    obtain ⟨n1, n2, n3⟩ := ws_nd (ls := ls) w4 (pre := pre ++ pz_pr t) (post := (if 6 ≤ P.1 then 40 :: (pz_pr a ++ 41 :: (if P.1 = 7 then [] else 40 :: (pz_pr b ++ [41]))) else []) ++ post) (by rw [he]; simp only [List.append_assoc]) (q := q + (pz_pr t).length) (by rw [List.length_append, hq]) 0
    obtain ⟨o1, o2⟩ := n3 w4.1.2
    obtain ⟨-, -, -, -, s1, s2⟩ := g2
    have hT1 : pz_nt1 P.1 = 1 → tm_ok M (k + pz_nt t) ∧ vl_W M (k + pz_nt t) = P.2.2.1 := by
      intro z
      obtain ⟨⟨x, x1, x2, x3⟩, y⟩ := s1 z
      have hz : ¬ (P.1 = 1 ∨ P.1 = 4 ∨ P.1 = 8) := fun h => by unfold pz_nt1 at z; rw [if_pos h] at z; cases z
      have hi : pz_ist P.2.2.1 := by have := w4.2.2.1; rw [if_neg hz] at this; exact this
      have hp := pz_ist_pos hi
      have e1 : (pz_evP P (q + (pz_pr t).length) 0).2.2.1 = ((q + (pz_pr t).length + 1 : Nat) : Int) := by
        show ((q + (pz_pr t).length + 1 + (if P.1 = 1 then 1 else 0) : Nat) : Int) = _
        rw [if_neg (by omega)]
      rw [e1] at o1 n1
      have hlt := o1.1.2.2
      have e2 : (pz_evP P (q + (pz_pr t).length) 0).2.2.2.1 = ((P.2.2.1.length : Nat) : Int) := rfl
      rw [e2] at o1 n1 hlt
      have hx := pos_len hf x3 (by omega)
      exact tm_of hls h31 (by rw [x1, hx]) y o1 n1 hi b4
    have hT2 : pz_nt2 P.1 = 1 → tm_ok M (k + pz_nt t + 1) ∧ vl_W M (k + pz_nt t + 1) = P.2.2.2 := by
      intro z
      obtain ⟨⟨x, x1, x2, x3⟩, y⟩ := s2 z
      have hz : P.1 = 5 ∨ P.1 = 7 := Classical.byContradiction fun h => by unfold pz_nt2 at z; rw [if_neg h] at z; cases z
      have hi : pz_ist P.2.2.2 := by have := w4.2.2.2; rw [if_pos hz] at this; exact this
      have hp := pz_ist_pos hi
      have e1 : (pz_evP P (q + (pz_pr t).length) 0).2.2.2.2.1 = ((q + (pz_pr t).length + 1 + P.2.2.1.length + (if P.1 = 5 then 1 else 0) : Nat) : Int) := by
        show ((q + (pz_pr t).length + 1 + (if P.1 = 1 then 1 else 0) + P.2.2.1.length + (if P.1 = 5 then 1 else 0) : Nat) : Int) = _
        rw [if_neg (by omega : ¬ P.1 = 1)]
      rw [e1] at o2 n2
      have hlt := o2.1.2.2
      have e2 : (pz_evP P (q + (pz_pr t).length) 0).2.2.2.2.2.1 = ((P.2.2.2.length : Nat) : Int) := rfl
      rw [e2] at o2 n2 hlt
      have hx := pos_len hf x3 (by omega)
      exact tm_of hls h31 (by rw [x1, hx]) y o2 n2 hi b5
    have hnt1 : pz_nt1 P.1 = 0 ∨ pz_nt1 P.1 = 1 := by unfold pz_nt1; split <;> simp
    have hnt2 : pz_nt2 P.1 = 0 ∨ (pz_nt2 P.1 = 1 ∧ pz_nt1 P.1 = 1) := by
      unfold pz_nt2 pz_nt1
      split
      · rw [if_neg (by omega)]; exact .inr ⟨rfl, rfl⟩
      · exact .inl rfl
    have hab : ((∀ j, k + pz_nt t + pz_nt1 P.1 + pz_nt2 P.1 ≤ j → j < k + pz_nt t + pz_nt1 P.1 + pz_nt2 P.1 + pz_nt a → tm_ok M j) ∧ cw_V (vl_W M) a (k + pz_nt t + pz_nt1 P.1 + pz_nt2 P.1)) ∧ ((∀ j, k + pz_nt t + pz_nt1 P.1 + pz_nt2 P.1 + pz_nt a ≤ j → j < k + pz_nt t + pz_nt1 P.1 + pz_nt2 P.1 + pz_nt a + pz_nt b → tm_ok M j) ∧ cw_V (vl_W M) b (k + pz_nt t + pz_nt1 P.1 + pz_nt2 P.1 + pz_nt a)) := by
      have hleaf : ∀ k, (∀ j, k ≤ j → j < k + pz_nt (.leaf : pz_T) → tm_ok M j) ∧ cw_V (vl_W M) (.leaf : pz_T) k := fun k => ⟨fun j h1 h2 => absurd h2 (by have : pz_nt (.leaf : pz_T) = 0 := rfl; omega), trivial⟩
      by_cases h6 : 6 ≤ P.1
      · rw [if_pos h6] at he
        refine ⟨iha w2 b2 (pre ++ pz_pr t ++ pz_hd P ++ [40]) (41 :: (if P.1 = 7 then [] else 40 :: (pz_pr b ++ [41])) ++ post) _ _ _ _ _ _ _ _ (by rw [he]; simp only [List.append_assoc, List.cons_append, List.nil_append]) (by simp only [List.length_append, List.length_cons, List.length_nil]; omega) g3, ?_⟩
        by_cases h7 : P.1 = 7
        · rw [w6 h7]; exact hleaf _
        · rw [if_neg h7] at he
          exact ihb w3 b3 (pre ++ pz_pr t ++ pz_hd P ++ [40] ++ pz_pr a ++ [41, 40]) ([41] ++ post) _ _ _ _ _ _ _ _ (by rw [he]; simp only [List.append_assoc, List.cons_append, List.nil_append]) (by simp only [List.length_append, List.length_cons, List.length_nil]; omega) g4
      · obtain ⟨y1, y2⟩ := w5 (by omega)
        rw [y1, y2]
        exact ⟨hleaf _, hleaf _⟩
    obtain ⟨⟨a1, a2⟩, ⟨d1, d2⟩⟩ := hab
    refine ⟨fun j j1 j2 => ?_, t2, ⟨fun z => (hT1 z).2, fun z => (hT2 z).2⟩, a2, d2⟩
    rw [show pz_nt (.inner s P v t (.inner s' P' v' a b)) = pz_nt t + (pz_nt1 P.1 + pz_nt2 P.1 + (pz_nt a + pz_nt b)) from rfl] at j2
    by_cases c1 : j < k + pz_nt t
    · exact t1 j j1 c1
    · by_cases c2 : j < k + pz_nt t + pz_nt1 P.1 + pz_nt2 P.1
      · by_cases c3 : j = k + pz_nt t
        · rw [c3]; exact (hT1 (by omega)).1
        · rw [show j = k + pz_nt t + 1 by omega]; exact (hT2 (by omega)).1
      · by_cases c3 : j < k + pz_nt t + pz_nt1 P.1 + pz_nt2 P.1 + pz_nt a
        · exact a1 j (by omega) c3
        · exact d1 j (by omega) (by omega)
theorem cw_cl {M1 : ab_M} {g : Nat → List Int} {n : Nat} (hn : n ≤ 64) (h : ∀ k s : Nat, k < n → s < 256 → M1 770 (k * 256 + s) = pz_val ((s : Nat) : Int) (g k)) : ∀ (t : pz_T) (k : Nat), cw_V g t k → k + pz_nt t ≤ n → cl_V M1 t k := by
  have hv : ∀ k, k < n → ∀ s : Nat, s < 256 → tv M1 ((k : Nat) : Int) ((s : Nat) : Int) = mp_v s (g k) := by
    intro k hk s hs
    unfold tv
    rw [if_pos ⟨by omega, by omega⟩, show (((k : Nat) : Int) * 256 + ((s : Nat) : Int)).toNat = k * 256 + s by omega]
    exact h k s hk hs
  intro t
  induction t using pz_ind with
  | h0 => intro k _ _; trivial
  | h2 s P v t => intro k hh; exact hh.elim
  | h1 s P v t s' P' v' a b iht iha ihb =>
    intro k hh hk
    rw [show pz_nt (.inner s P v t (.inner s' P' v' a b)) = pz_nt t + (pz_nt1 P.1 + pz_nt2 P.1 + (pz_nt a + pz_nt b)) from rfl] at hk
    obtain ⟨c1, ⟨c2, c3⟩, c4, c5⟩ := hh
    refine ⟨iht k c1 (by omega), ⟨fun z s hs => ?_, fun z s hs => ?_⟩, iha _ c4 (by omega), ihb _ c5 (by omega)⟩
    · rw [hv _ (by omega) s hs, c2 z]
    · have hz : pz_nt1 P.1 = 1 := by
        unfold pz_nt2 at z
        split at z
        · unfold pz_nt1; rw [if_neg (by omega)]
        · cases z
      rw [show ((k + pz_nt t : Nat) : Int) + 1 = ((k + pz_nt t + 1 : Nat) : Int) by omega, hv _ (by omega) s hs, c3 z]
theorem pd_P.W {M : ab_M} {t : pz_T} (h : pd_P M t) (h3 : tx_ok M 3) : (∀ j, j < pz_nt t → tm_ok M j) ∧ cw_V (vl_W M) t 0 := by
  have hg := h.1
  have := cr_T_W (M := M) (ls := tx M 3) rfl (fun c hc => by have := hg.r c hc; omega) h3.1.1 t hg.1.1 hg.2.2.2.1 [] [] _ _ _ _ _ _ _ _ (by rw [hg.1.2.2]; simp) rfl h.2.1.1
  exact ⟨fun j hj => this.1 j (Nat.zero_le _) (by omega), this.2⟩
theorem pd_P.vT {M : ab_M} {t : pz_T} (h : pd_P M t) (h3 : tx_ok M 3) : vl_T M := by
  obtain ⟨⟨-, -, hnt, -⟩, -, -, -, e11, -⟩ := h.sz
  have hx := h3.1
  rw [if_neg (by decide)] at hx
  exact ⟨h.2.2.2, hx, by omega, fun k hk => (h.W h3).1 k (by omega)⟩
theorem pd_P.clV {M M1 : ab_M} {t : pz_T} (h : pd_P M t) (h3 : tx_ok M 3) (hV : vl_V M M1 (M 26 11)) : cl_V M1 t 0 := by
  obtain ⟨⟨-, -, hnt, -⟩, -, -, -, e11, -⟩ := h.sz
  exact cw_cl (n := pz_nt t) (by omega) (fun k s hk hs => hV k s (by omega) hs) t 0 (h.W h3).2 (by omega)
theorem pd_P.pQ {M : ab_M} {t : pz_T} (h : pd_P M t) : ps_Q M t 0 (-1) ∧ ps_pm M := by
  obtain ⟨⟨hw, hs, hnt, -⟩, e3, -, -, e11, -⟩ := h.sz
  exact ⟨⟨hw, by omega, M 4, _, _, _, _, _, _, _, _, h.2.1.1, h.K, by omega⟩, by omega, by omega⟩
theorem pd_P.tr {M : ab_M} {t : pz_T} (h : pd_P M t) : tr_A M t :=
  ⟨h.pQ.1, h.sz.2.1, h.1.ht, h.pQ.2⟩
theorem pd_P.pl {M : ab_M} {t : pz_T} (h : pd_P M t) (h3 : tx_ok M 3) : ps_l M := fun k hk => by
  have := h.sz.2.2.2.2.1
  exact ((h.W h3).1 k (by omega)).2.1
