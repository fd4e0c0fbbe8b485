/-! a statement's code -/
theorem co_two {N A0 : ab_M} {m : Nat → ab_M} {e1 f g r : Nat} {w md τ : Int} {W1 W2 : Nat → List Int} {F : Nat → List co_I} {L1 : List co_I} (hch : co_ch m (f + 1) (g + 1) md W1 W2) (hE : ∀ i, f + 1 ≤ i → i ≤ g → ∀ o k, 805 ≤ o → o ≤ 812 → m i o k = N o k) (h1 : e1 < f + 1) (h2 : f + 1 < g) (hw : w = 1 ∨ w = 4)
    (ho : N 805 (f + 1) = 9 ∧ N 806 (f + 1) = w ∧ N 812 (f + 1) = (e1 : Int)) (hl : N 805 g = 10 ∧ N 806 g = w ∧ N 812 g = (e1 : Int)) (hF : co_R m (f + 2) g F) (ht : τ = tr_a (m (f + 1)) (m (f + 1) 797 27).toNat) (hτ : τ < (e1 : Int)) (h27 : 0 ≤ m (f + 1) 797 27) (h8 : ∀ i, i < r → A0 821 i < ((f + 1 : Nat) : Int))
    (hS : co_B A0 (m (f + 1)) e1 (f + 1) r (L1 ++ [(5, 0, [], 0, false)]) τ) (h11 : m (f + 1) 824 e1 = ((r + L1.length : Nat) : Int)) : co_B A0 (m (g + 1)) e1 (g + 1) r (L1 ++ (5, 0, [], ((r + L1.length + 1 + (F (r + L1.length + 1)).length : Nat) : Int), false) :: F (r + L1.length + 1)) τ := by
  obtain ⟨l1, l2, l3⟩ := hl
  have hlen : r + (L1 ++ [((5, 0, [], 0, false) : co_I)]).length = r + L1.length + 1 := by rw [List.length_append]; rfl
  have h8' : ∀ i, i < r + L1.length + 1 → m (f + 1) 821 i < ((f + 1 : Nat) : Int) := by
    have := hS.lt h8 (by omega) (Nat.le_refl _)
    rw [hlen] at this
    exact this
  have h33 : m (f + 1) 797 33 = ((r + L1.length + 1 : Nat) : Int) := by rw [hS.2.1, hlen]
  obtain ⟨hb, e27⟩ := co_bl (N := N) (r := r + L1.length + 1) hch hE h1 h2 ho hF ht hτ h33 h27 h8'
  rw [if_neg (by omega)] at hb
  have hg10 : m g 805 g = 10 := (hE g (by omega) (Nat.le_refl _) 805 g (by decide) (by decide)).trans l1
  have hg93 : m g 806 g = w := (hE g (by omega) (Nat.le_refl _) 806 g (by decide) (by decide)).trans l2
  have hg99 : m g 812 g = (e1 : Int) := (hE g (by omega) (Nat.le_refl _) 812 g (by decide) (by decide)).trans l3
  have hc := ((hch g (by omega) (by omega)).2.2.2.2.2.2.2.2.2.2 hg10).2.2.2 (by rw [hg93]; exact hw)
  rw [hg99, show ((e1 : Int)).toNat = e1 from rfl] at hc
  have hX : ∀ o k : Nat, ¬ (o = 797 ∧ k = 27) → co_X (m g) o k = m g o k := fun o k x => up_ne x
  have g11 : m g 824 e1 = ((r + L1.length : Nat) : Int) := by
    rw [← hX 824 e1 (by omega), (hb.2.2.2.2.2 e1 (by omega)).2]
    exact h11
  have g33 : m g 797 33 = ((r + L1.length + 1 + (F (r + L1.length + 1)).length : Nat) : Int) := (hX 797 33 (by omega)).symm.trans hb.2.1
  rw [g11, g33, show (((r + L1.length : Nat) : Int)).toNat = r + L1.length from rfl] at hc
  rw [← hlen] at hb
  have hT := hS.tr e1 (g + 1) hb (Nat.le_refl _) (by omega) (by omega) (by omega)
  rw [hlen, List.append_assoc] at hT
  have := co_B.u7 (L1 := L1) (L2 := F (r + L1.length + 1)) hT rfl (((r + L1.length + 1 + (F (r + L1.length + 1)).length : Nat) : Int))
  rw [hc]
  exact this
theorem co_B.th {A B : ab_M} {a b r : Nat} {τ : Int} (h : co_B A B a b r [(5, 0, [], 0, false)] τ) : co_B A (ab_up (ab_up B 821 r τ) 820 r (-1)) a b r [(5, 0, [], -1, true)] τ := by
  obtain ⟨x1, x2, x3, x4, ⟨x5, x6⟩, x7⟩ := h
  refine ⟨x1, by rw [up_ne (by omega), up_ne (by omega)]; exact x2, fun i I hi => ?_, fun i hi => (x4 i hi).tr ⟨fun o p q => by rw [up_ne (by omega), up_ne (by omega)], fun s hs => by rw [up_ne (by omega), up_ne (by omega)]⟩, ⟨by rw [up_ne (by omega), up_ne (by omega)]; exact x5, fun k hk => by rw [up_ne (by omega), up_ne (by omega)]; exact x6 k hk⟩, fun k hk => by rw [up_ne (by omega), up_ne (by omega), up_ne (by omega), up_ne (by omega)]; exact x7 k hk⟩
  cases i with
  | zero =>
    have hi : some ((5, 0, [], -1, true) : co_I) = some I := hi
    cases hi
    obtain ⟨y1, y2, y3, y4, y5⟩ := x3 0 (5, 0, [], 0, false) rfl
    exact ⟨by rw [up_ne (by omega), up_ne (by omega)]; exact y1, by rw [up_ne (by omega), up_ne (by omega)]; exact y2, fun z => absurd rfl z, by rw [Nat.add_zero, ab_up_s], by rw [if_pos rfl, up_ne (by omega), Nat.add_zero, ab_up_s]⟩
  | succ i => cases hi
theorem co_e1r {m : Nat → ab_M} {A : ab_M} {a b r f : Nat} {τ : Int} {L : List co_I} {M2 : ab_M} {op q nn : Int} {w : List Int} (hB : co_B A (co_X (m f)) a b r L τ) (h : em_P (em_b (m f) f) M2 op q nn w) (hw : w ≠ [] → 0 < nn) : co_rows M2 r (L ++ [(op, q, w, 0, false)]) τ a b := by
  have hX : ∀ o k : Nat, ¬ (o = 797 ∧ k = 27) → co_X (m f) o k = m f o k := fun o k x => up_ne x
  have h33 : m f 797 33 = ((r + L.length : Nat) : Int) := (hX _ _ (by omega)).symm.trans hB.2.1
  have hP : co_B (em_b (m f) f) M2 a b (r + L.length) [(op, q, w, 0, false)] τ := h.B hw ((em_b_fr (by omega) (by decide)).trans h33) a b τ
  refine (hB.2.2.1.same fun i _ hi => ?_).app hP.2.2.1
  refine co_same.tr ⟨fun o x y => ?_, fun s hs => ?_⟩ (hP.2.2.2.1 i hi)
  · rw [em_b_fr (by omega) (by omega), hX _ _ (by omega)]
  · rw [em_b_fr (by omega) (by omega), hX _ _ (by omega)]
theorem co_B.pa2 {A B B' : ab_M} {a b b0 r h : Nat} {L : List co_I} {κ : Int} (hB : co_B A B h b0 r L (h : Int)) (hR : co_rows B r L (h : Int) a b) (ha : h < a) (hb : a ≤ b) (hb0 : b ≤ b0) (h0 : ∀ i, i < r → A 821 i < (h : Int)) (hB' : ∀ o k : Nat, B' o k = if o = 820 ∧ (k : Int) < B 797 33 ∧ B 821 k = (h : Int) then κ else B o k) (τ : Int) : co_B A B' h b0 r (co_pa κ L) τ := by
  obtain ⟨x1, x2, -, x4, ⟨x5, x6⟩, x7⟩ := hB
  have f : ∀ o k : Nat, o ≠ 820 → B' o k = B o k := fun o k z => by rw [hB', if_neg (fun y => z y.1)]
  refine ⟨x1, by rw [f _ _ (by decide), x2, co_pa_len], fun i I hi => ?_, fun i hi => ?_, ⟨by rw [f _ _ (by decide)]; exact x5, fun k hk => by rw [f _ _ (by decide)]; exact x6 k hk⟩, fun k hk => by rw [f _ _ (by decide), f _ _ (by decide)]; exact x7 k (by omega)⟩
  · unfold co_pa at hi
    rw [List.getElem?_map] at hi
    obtain ⟨J, hJ, rfl⟩ := Option.map_eq_some_iff.1 hi
    have hl := (List.getElem?_eq_some_iff.1 hJ).1
    obtain ⟨y1, y2, y3, y4, y5⟩ := hR i J hJ
    by_cases c : J.2.2.2.2 = true
    · rw [if_pos c] at y5 ⊢
      refine ⟨by rw [f _ _ (by decide)]; exact y1, by rw [f _ _ (by decide)]; exact y2, fun z s hs => by rw [f _ _ (by decide)]; exact y3 z s hs, by rw [hB', if_pos ⟨rfl, by rw [x2]; omega, y5⟩], ?_⟩
      rw [f _ _ (by decide), y5]
      exact Or.inr ⟨Int.le_refl _, by omega⟩
    · rw [if_neg c] at y5 ⊢
      refine ⟨by rw [f _ _ (by decide)]; exact y1, by rw [f _ _ (by decide)]; exact y2, fun z s hs => by rw [f _ _ (by decide)]; exact y3 z s hs, by rw [hB', if_neg (fun z => by have := z.2.2; omega)]; exact y4, ?_⟩
      rw [if_neg c, f _ _ (by decide)]
      exact y5.imp id fun z => by omega
  · refine (x4 i hi).tr ⟨fun o p q => ?_, fun s hs => f _ _ (by decide)⟩
    rw [hB', if_neg (fun z => ?_)]
    have e8 := (x4 i hi).1 821 (by decide) (by decide)
    have := h0 i hi
    have := z.2.2
    omega
theorem co_tr {A B : ab_M} {a b r : Nat} {L : List co_I} {τ : Int} (h : co_B A B a b r L τ) (hE : ∀ o k : Nat, 805 ≤ o → o ≤ 812 → B o k = A o k) (ht : τ = tr_a A (A 797 27).toNat) : τ = tr_a B (B 797 27).toNat := by
  rw [ht]
  exact (tr_a_eq (fun k => hE 806 k (by decide) (by decide)) (fun k => hE 812 k (by decide) (by decide)) h.2.2.2.2.1.1 h.2.2.2.2.1.2).symm
theorem co_stmt {N : ab_M} {m : Nat → ab_M} {P : pz_P} {a b : pz_T} {e1 q c : Nat} {md : Int} {W1 W2 : Nat → List Int} {A B : Nat → List co_I} (hwP : pz_wfP P) (hnd : ev_nd N P a b e1 q c) (hW : W1 e1 = P.2.2.1 ∧ W2 e1 = P.2.2.2) (hch : co_ch m e1 (e1 + pq_len P a b) md W1 W2) (hE : ∀ i, e1 ≤ i → i ≤ e1 + pq_len P a b → ∀ o k, 805 ≤ o → o ≤ 812 → m i o k = N o k)
    (hA : 6 ≤ P.1 → co_R m (e1 + 2) (e1 + 2 + pz_ne a) A) (hB : 6 ≤ P.1 → P.1 ≠ 7 → co_R m (e1 + 2 + pz_ne a + 2) (e1 + 2 + pz_ne a + 2 + pz_ne b) B) (hmd : P.1 = 7 → ∀ x, pa_any N e1 x → x = pz_mk (pz_md a)) : co_R m e1 (e1 + pq_len P a b) (fun r => co_P md P (pz_mk (pz_md a)) A B r c) := by
  intro τ r ht hτ hr h27 h8
  have hp1 := hwP.1
  have hl1 : 1 ≤ pq_len P a b := by unfold pq_len; omega
  obtain ⟨hev, hblk⟩ := hnd
  obtain ⟨p792, p793, -, p795, -, p797, p798⟩ := pz_ev_s (by omega) hev
  have ev := fun i (x : e1 ≤ i) (y : i ≤ e1 + pq_len P a b) => hE i x y
  have E0 := fun (o k : Nat) (x : 805 ≤ o) (y : o ≤ 812) => hE e1 (Nat.le_refl _) (by omega) o k x y
  have e792 := (E0 805 e1 (by decide) (by decide)).trans p792
  have e793 := (E0 806 e1 (by decide) (by decide)).trans p793
  have e795 := (E0 808 e1 (by decide) (by decide)).trans p795
  have e797 := (E0 810 e1 (by decide) (by decide)).trans p797
  have e798 := (E0 811 e1 (by decide) (by decide)).trans p798
  obtain ⟨s0, s1, s2, s3, s4, s5, s6, s7, s8, -, -⟩ := hch e1 (Nat.le_refl _) (by omega)
  obtain ⟨hW1, hW2⟩ := hW
  rw [e793, e795, hW1] at s0
  rw [e793] at s1
  rw [e798, e795, hW1] at s2
  rw [e795, hW1] at s3
  rw [e798, e795, hW1, e793, e797, hW2] at s5
  rw [e795, hW1] at s6
  have hw1 : P.2.2.1 ≠ [] → 0 < ((P.2.2.1.length : Nat) : Int) := fun z => by have := List.length_pos_iff.2 z; omega
  have hw2 : P.2.2.2 ≠ [] → 0 < ((P.2.2.2.length : Nat) : Int) := fun z => by have := List.length_pos_iff.2 z; omega
  have hw0 : ([] : List Int) ≠ [] → (0 : Int) < 0 := fun z => absurd rfl z
  have one : P.1 ≤ 5 → pq_len P a b = 1 := fun z => by unfold pq_len; rw [if_neg (by omega)]
  show co_B _ _ _ _ r (co_P md P (pz_mk (pz_md a)) A B r c) τ
  unfold co_P
  by_cases z0 : P.1 = 0
  · rw [if_pos z0, one (by omega)]
    exact (s0 (e792.trans z0)).B hw1 hr _ _ _
  rw [if_neg z0]
  by_cases z1 : P.1 = 1
  · rw [if_pos z1, one (by omega)]
    exact (s1 (e792.trans z1)).B hw0 hr _ _ _
  rw [if_neg z1]
  by_cases z2 : P.1 = 2
  · rw [if_pos z2, one (by omega)]
    exact (s2 (e792.trans z2)).B hw1 hr _ _ _
  rw [if_neg z2]
  by_cases z3 : P.1 = 3
  · rw [if_pos z3, one (by omega)]
    exact (s3 (e792.trans z3)).B hw1 hr _ _ _
  rw [if_neg z3]
  by_cases z4 : P.1 = 4
  · rw [if_pos z4, one (by omega)]
    obtain ⟨M1, k1, k2⟩ := s4 (e792.trans z4)
    rw [k2, ← ht, hr]
    exact (k1.B hw0 hr e1 (e1 + 1) τ).th
  rw [if_neg z4]
  by_cases z5 : P.1 = 5
  · rw [if_pos z5, one (by omega)]
    refine (s5 (e792.trans z5)).B (fun x hx => ?_) hr _ _ _
    rcases List.mem_cons.1 hx with y | hx
    · rw [y]; exact hw1
    · rcases List.mem_cons.1 hx with y | hx
      · rw [y]; exact hw0
      · rw [List.mem_singleton.1 hx]; exact hw2
  rw [if_neg z5]
  have h6 : 6 ≤ P.1 := by omega
  obtain ⟨g1, -, g3, g4⟩ := hblk h6
  have hO1 := pz_ev_o g1
  have hC1 := pz_ev_c g3
  have hlen : pq_len P a b = 1 + (2 + (pz_ne a + (if P.1 = 7 then 0 else 2 + pz_ne b))) := by unfold pq_len; rw [if_pos h6]
  have hbd : e1 + 2 + pz_ne a + 1 ≤ e1 + pq_len P a b := by rw [hlen]; omega
  obtain ⟨w1a, w1b, w1c, w1d, w1e, w1f⟩ := pz_w6 h6 hp1.2
  have hAA := hA h6
  obtain ⟨f, ef⟩ : ∃ f, f = e1 + 2 + pz_ne a := ⟨_, rfl⟩
  rw [← ef] at hAA hC1 hbd
  have hf10 : m f 805 f = 10 := (ev f (by omega) (by omega) 805 f (by decide) (by decide)).trans hC1.1
  have hf93 : m f 806 f = pz_w1 P.1 := (ev f (by omega) (by omega) 806 f (by decide) (by decide)).trans hC1.2.1
  have hf99 : m f 812 f = (e1 : Int) := (ev f (by omega) (by omega) 812 f (by decide) (by decide)).trans hC1.2.2
  obtain ⟨c0, c3, c2, -⟩ := (hch f (by omega) (by omega)).2.2.2.2.2.2.2.2.2.2 hf10
  rw [hf93, hf99, show ((e1 : Int)).toNat = e1 from rfl] at c0 c2
  rw [hf93, hf99] at c3
  have hXf : ∀ o k : Nat, ¬ (o = 797 ∧ k = 27) → co_X (m f) o k = m f o k := fun o k x => up_ne x
  -- the first block after some rows
  have blk : ∀ (L : List co_I), co_B (m e1) (m (e1 + 1)) e1 (e1 + 1) r L τ → co_B (m (e1 + 1)) (co_X (m f)) (e1 + 2) f (r + L.length) (A (r + L.length)) (if pz_w1 P.1 = 3 then (e1 : Int) else τ) ∧ m f 797 27 = m e1 797 27 + 1 := fun L hL => by
    have hE1 : ∀ o k : Nat, 805 ≤ o → o ≤ 812 → m (e1 + 1) o k = m e1 o k := fun o k x y => (ev (e1 + 1) (by omega) (by omega) o k x y).trans (E0 o k x y).symm
    have h27' : m (e1 + 1) 797 27 = m e1 797 27 := hL.2.2.2.2.1.1
    have := co_bl (N := N) (m := m) (e1 := e1) (o := e1 + 1) (f := f) (w := pz_w1 P.1) (F := A) (r := r + L.length) (fun i x y => hch i (by omega) (by omega)) (fun i x y => ev i (by omega) (by omega)) (by omega) (by omega) hO1 hAA (co_tr hL hE1 ht) hτ hL.2.1 (by rw [h27']; exact h27) (hL.lt (fun i hi => by have := h8 i hi; omega) (by omega) (Nat.le_refl _))
    rw [h27'] at this
    exact this
  have sec : P.1 ≠ 7 → ∀ (L : List co_I), co_B (m e1) (m (f + 1)) e1 (f + 1) r (L ++ [(5, 0, [], 0, false)]) τ → m (f + 1) 824 e1 = ((r + L.length : Nat) : Int) → co_B (m e1) (m (e1 + pq_len P a b)) e1 (e1 + pq_len P a b) r (L ++ (5, 0, [], ((r + L.length + 1 + (B (r + L.length + 1)).length : Nat) : Int), false) :: B (r + L.length + 1)) τ := fun h7 L hS h11 => by
    obtain ⟨g5, -, g7⟩ := g4 h7
    have hO2 := pz_ev_o g5
    have hC2 := pz_ev_c g7
    have hBB := hB h6 h7
    rw [if_neg h7] at hlen
    rw [← ef] at hBB hO2 hC2
    have hel : e1 + pq_len P a b = f + 2 + pz_ne b + 1 := by rw [hlen, ef]; omega
    have hw14 : pz_w2 P.1 = 1 ∨ pz_w2 P.1 = 4 := by
      by_cases y : P.1 = 6
      · exact Or.inl (w1e y).2
      · exact Or.inr (w1f (by omega)).2
    have hE1 : ∀ o k : Nat, 805 ≤ o → o ≤ 812 → m (f + 1) o k = m e1 o k := fun o k x y => (ev (f + 1) (by omega) (by omega) o k x y).trans (E0 o k x y).symm
    rw [hel] at hch ev ⊢
    exact co_two (N := N) (g := f + 2 + pz_ne b) (w := pz_w2 P.1) (F := B) (fun i x y => hch i (by omega) (by omega)) (fun i x y => ev i (by omega) (by omega)) (by omega) (by omega) hw14 hO2 hC2 hBB (co_tr hS hE1 ht) hτ (by rw [hS.2.2.2.2.1.1]; exact h27) (fun i hi => by have := h8 i hi; omega) hS h11
  by_cases z6 : P.1 = 6
  · rw [if_pos z6]
    have k1 := s6 (e792.trans z6)
    have S1 : co_B (m e1) (m (e1 + 1)) e1 (e1 + 1) r [(4, 0, P.2.2.1, 0, false)] τ := (k1.B hw1 ((up_ne (by omega)).trans hr) e1 (e1 + 1) τ).left (fun o k x y => ab_up_o x _) (fun k hk => ⟨up_ne (by omega), up_ne (by omega)⟩)
    have v10 : m (e1 + 1) 823 e1 = (r : Int) := by rw [k1.F.1 823 _ (by omega) (by omega), ab_up_s, hr]
    obtain ⟨S2, -⟩ := blk _ S1
    rw [if_neg (by have := w1e z6; omega)] at S2
    have f10 : m f 823 e1 = (r : Int) := by rw [← hXf 823 e1 (by omega), (S2.2.2.2.2.2 e1 (by omega)).1]; exact v10
    have S12 := S1.tr e1 (f + 1) S2 (Nat.le_refl _) (by omega) (by omega) (by omega)
    obtain ⟨M2, k2, k3⟩ := c0 (w1e z6).1
    obtain ⟨S3, v11, -⟩ := co_e1 S12 k2 hw0 hf99 (Nat.le_refl _) (by omega)
    have f33 : m f 797 33 = ((r + 1 + (A (r + 1)).length : Nat) : Int) := (hXf 797 33 (by omega)).symm.trans S2.2.1
    rw [f10, f33, show ((r : Int)).toNat = r from rfl] at k3
    have S4 := co_B.u7 (L1 := []) (L2 := A (r + 1) ++ [(5, 0, [], 0, false)]) S3 rfl (((r + 1 + (A (r + 1)).length : Nat) : Int) + 1)
    rw [show r + ([] : List co_I).length = r from rfl, ← k3] at S4
    have v11' : m (f + 1) 824 e1 = ((r + ((4, 0, P.2.2.1, ((r + 1 + (A (r + 1)).length : Nat) : Int) + 1, false) :: A (r + 1) : List co_I).length : Nat) : Int) := by
      rw [k3, up_ne (by omega), v11]
      rfl
    have S5 := sec (by omega) _ S4 v11'
    have hl : r + ((4, 0, P.2.2.1, ((r + 1 + (A (r + 1)).length : Nat) : Int) + 1, false) :: A (r + 1) : List co_I).length = r + 1 + (A (r + 1)).length := by rw [List.length_cons]; omega
    rw [hl] at S5
    exact S5
  rw [if_neg z6]
  by_cases z7 : P.1 = 7
  · rw [if_pos z7]
    rw [if_pos z7] at hlen
    have hel : e1 + pq_len P a b = f + 1 := by rw [hlen, ef]; omega
    rw [hel]
    have k1 := s7 (e792.trans z7)
    by_cases hm : md = 1
    · rw [if_pos hm]
      obtain ⟨x, M1, hx, k2, k3⟩ := k1.1 hm
      have hxa : x = pz_mk (pz_md a) := by
        refine hmd z7 x ?_
        obtain ⟨n, y1, y2, y3, y4⟩ := hx
        refine ⟨n, ?_, y2, ?_, fun j hj => ?_⟩
        · rw [y1]; exact an_s_fr (fun k => E0 805 k (by decide) (by decide)) (fun k => E0 806 k (by decide) (by decide)) _ _
        · rw [← E0 805 _ (by decide) (by decide), ← E0 812 _ (by decide) (by decide)]; exact y3
        · rw [← E0 805 _ (by decide) (by decide), ← E0 812 _ (by decide) (by decide)]; exact y4 j hj
      rw [e798, e797, hW2, hxa] at k2
      rw [e795, hW1] at k3
      have T1 : co_B (m e1) M1 e1 (e1 + 1) r (co_w P (pz_mk (pz_md a)) c) τ := by
        refine k2.B (fun y hy => ?_) hr _ _ _
        rcases List.mem_append.1 hy with hy | hy
        · rcases List.mem_cons.1 hy with hy | hy
          · rw [hy]; exact hw2
          · have : ∀ n, y ∈ em_h (pz_mk (pz_md a)) n → y.2.2.2 = [] := by
              intro n
              induction n with
              | zero => intro z; cases z
              | succ n ih =>
                intro z
                rcases List.mem_append.1 z with z | z
                · exact ih z
                · split at z
                  · rw [List.mem_singleton.1 z]
                  · cases z
            exact fun z => absurd (this 4 hy) z
        · rw [List.mem_singleton.1 hy]; exact hw2
      obtain ⟨rw', erw⟩ : ∃ rw' : Nat, rw' = r + (co_w P (pz_mk (pz_md a)) c).length := ⟨_, rfl⟩
      have T2 : co_B M1 (m (e1 + 1)) e1 (e1 + 1) (r + (co_w P (pz_mk (pz_md a)) c).length) [(4, 0, P.2.2.1, 0, false)] τ := (k3.B hw1 ((up_ne (by omega)).trans T1.2.1) e1 (e1 + 1) τ).left (fun o k x y => ab_up_o x _) (fun k hk => ⟨up_ne (by omega), up_ne (by omega)⟩)
      have S1 := T1.tr e1 (e1 + 1) T2 (Nat.le_refl _) (Nat.le_refl _) (Nat.le_refl _) (Nat.le_refl _)
      have v10 : m (e1 + 1) 823 e1 = ((r + (co_w P (pz_mk (pz_md a)) c).length : Nat) : Int) := by rw [k3.F.1 823 _ (by omega) (by omega), ab_up_s, T1.2.1]
      obtain ⟨S2, -⟩ := blk _ S1
      rw [if_neg (by have := w1d z7; omega)] at S2
      have hl1' : r + (co_w P (pz_mk (pz_md a)) c ++ [((4, 0, P.2.2.1, 0, false) : co_I)]).length = r + (co_w P (pz_mk (pz_md a)) c).length + 1 := by rw [List.length_append]; rfl
      have f10 : m f 823 e1 = ((r + (co_w P (pz_mk (pz_md a)) c).length : Nat) : Int) := by rw [← hXf 823 e1 (by omega), (S2.2.2.2.2.2 e1 (by omega)).1]; exact v10
      have S12 := S1.tr e1 (f + 1) S2 (Nat.le_refl _) (by omega) (by omega) (by omega)
      rw [hl1'] at S2 S12
      obtain ⟨M2, ⟨M3, k4, M4, k5, k6⟩, k7⟩ := (c2 (w1d z7)).1 hm
      have k6 : M2 = M4 := k6
      subst k6
      have e97 : m f 810 e1 = ((P.2.2.2.length : Nat) : Int) := (ev f (by omega) (by omega) 810 e1 (by decide) (by decide)).trans p797
      have e98 : m f 811 e1 = (c : Int) := (ev f (by omega) (by omega) 811 e1 (by decide) (by decide)).trans p798
      rw [e97, e98, hW2] at k4
      obtain ⟨S3, -, -⟩ := co_e1 S12 k4 hw2 hf99 (Nat.le_refl _) (by omega)
      have S4 := S3.tr e1 (f + 1) (k5.B hw0 S3.2.1 e1 (f + 1) τ) (Nat.le_refl _) (Nat.le_refl _) (Nat.le_refl _) (Nat.le_refl _)
      have f33 : m f 797 33 = ((r + (co_w P (pz_mk (pz_md a)) c).length + 1 + (A (r + (co_w P (pz_mk (pz_md a)) c).length + 1)).length : Nat) : Int) := (hXf 797 33 (by omega)).symm.trans S2.2.1
      rw [f10, f33] at k7
      have hform : co_w P (pz_mk (pz_md a)) c ++ [((4, 0, P.2.2.1, 0, false) : co_I)] ++ A (r + (co_w P (pz_mk (pz_md a)) c).length + 1) ++ [((2, (c : Int) + 1, P.2.2.2, 0, false) : co_I)] ++ [((6, 0, [], 0, false) : co_I)] = co_w P (pz_mk (pz_md a)) c ++ (4, 0, P.2.2.1, 0, false) :: (A (r + (co_w P (pz_mk (pz_md a)) c).length + 1) ++ [(2, (c : Int) + 1, P.2.2.2, 0, false), (6, 0, [], 0, false)]) := by
        simp only [List.append_assoc, List.cons_append, List.nil_append]
      rw [hform] at S4
      have S5 := co_B.u7 S4 rfl (((r + (co_w P (pz_mk (pz_md a)) c).length + 1 + (A (r + (co_w P (pz_mk (pz_md a)) c).length + 1)).length : Nat) : Int) + 2)
      rw [k7]
      exact S5
    · rw [if_neg hm]
      have k2 := k1.2 hm
      rw [e795, hW1] at k2
      have S1 : co_B (m e1) (m (e1 + 1)) e1 (e1 + 1) r [(4, 0, P.2.2.1, 0, false)] τ := (k2.B hw1 ((up_ne (by omega)).trans hr) e1 (e1 + 1) τ).left (fun o k x y => ab_up_o x _) (fun k hk => ⟨up_ne (by omega), up_ne (by omega)⟩)
      have v10 : m (e1 + 1) 823 e1 = (r : Int) := by rw [k2.F.1 823 _ (by omega) (by omega), ab_up_s, hr]
      obtain ⟨S2, -⟩ := blk _ S1
      rw [if_neg (by have := w1d z7; omega)] at S2
      have f10 : m f 823 e1 = (r : Int) := by rw [← hXf 823 e1 (by omega), (S2.2.2.2.2.2 e1 (by omega)).1]; exact v10
      have S12 := S1.tr e1 (f + 1) S2 (Nat.le_refl _) (by omega) (by omega) (by omega)
      obtain ⟨M2, k4, k5⟩ := (c2 (w1d z7)).2 hm
      obtain ⟨S3, -, -⟩ := co_e1 S12 k4 hw0 hf99 (Nat.le_refl _) (by omega)
      have f33 : m f 797 33 = ((r + 1 + (A (r + 1)).length : Nat) : Int) := (hXf 797 33 (by omega)).symm.trans S2.2.1
      rw [f10, f33] at k5
      have S4 := co_B.u7 (L1 := (4, 0, P.2.2.1, 0, false) :: A (r + 1)) (L2 := []) (j := r + 1 + (A (r + 1)).length) S3 (by rw [List.length_cons]; omega) (r : Int)
      have S5 := co_B.u7 (L1 := []) (L2 := A (r + 1) ++ [(5, 0, [], (r : Int), false)]) (j := r) S4 rfl (((r + 1 + (A (r + 1)).length : Nat) : Int) + 1)
      rw [k5]
      exact S5
  rw [if_neg z7]
  have z8 : P.1 = 8 := by omega
  have k1 := s8 (e792.trans z8)
  have S1 : co_B (m e1) (m (e1 + 1)) e1 (e1 + 1) r [] τ := by
    rw [k1]
    exact ⟨hr, hr, fun i I hi => (by cases hi), fun _ _ => ⟨fun _ _ _ => rfl, fun _ _ => rfl⟩, ⟨rfl, fun _ _ => rfl⟩, fun _ _ => ⟨rfl, rfl⟩⟩
  obtain ⟨S2, -⟩ := blk _ S1
  rw [if_pos (w1f z8).1, k1] at S2
  have S2 : co_B (m e1) (co_X (m f)) (e1 + 2) f r (A r) (e1 : Int) := S2
  obtain ⟨M2, k2, k3⟩ := c3 (w1f z8).1
  have R3 := co_e1r S2 k2 hw0
  obtain ⟨S3, v11, -⟩ := co_e1 (S2.wd (a' := e1) (b' := f + 1) (by omega) (by omega)) k2 hw0 hf99 (Nat.le_refl _) (by omega)
  have f33 : m f 797 33 = ((r + (A r).length : Nat) : Int) := (hXf 797 33 (by omega)).symm.trans S2.2.1
  have hM2 : M2 797 33 = m f 797 33 + 1 := by rw [S3.2.1, f33, List.length_append]; rfl
  have S4 := S3.pa2 (κ := m f 797 33 + 1) (B' := m (f + 1)) R3 (by omega) (by omega) (by omega) h8 (fun o k => by rw [k3, hM2]) τ
  have hpa : co_pa (m f 797 33 + 1) (A r ++ [((5, 0, [], 0, false) : co_I)]) = co_pa (m f 797 33 + 1) (A r) ++ [(5, 0, [], 0, false)] := by
    unfold co_pa
    rw [List.map_append]
    rfl
  rw [hpa, f33] at S4
  have v11' : m (f + 1) 824 e1 = ((r + (co_pa (((r + (A r).length : Nat) : Int) + 1) (A r)).length : Nat) : Int) := by
    rw [k3, if_neg (fun z => absurd z.1 (by decide)), v11, co_pa_len]
  have S5 := sec (by omega) _ S4 v11'
  rw [co_pa_len] at S5
  exact S5
