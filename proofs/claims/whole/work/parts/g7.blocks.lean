/-! rows of trees in a chain; a loop's block among them -/
theorem ct_nd {N : ab_M} {m : Nat → ab_M} {W1 W2 : Nat → List Int} {P : pz_P} {a b : pz_T} {e1 q c : Nat} {top : Int} (hwP : pz_wfP P) (hwa : pz_wf a) (hta : pz_tb top a) (hnd : ev_nd N P a b e1 q c) (hch : co_ch m e1 (e1 + pq_len P a b) 1 W1 W2) (hE : ∀ i, e1 ≤ i → i ≤ e1 + pq_len P a b → ∀ o k, 805 ≤ o → o ≤ 812 → m i o k = N o k)
    (hA : 6 ≤ P.1 → m (e1 + 2 + pz_ne a) 797 33 = m (e1 + 2) 797 33 + ((cn_t a : Nat) : Int) ∧ ∀ k : Nat, k < e1 + 2 ∨ e1 + 2 + pz_ne a ≤ k → m (e1 + 2 + pz_ne a) 823 k = m (e1 + 2) 823 k ∧ m (e1 + 2 + pz_ne a) 824 k = m (e1 + 2) 824 k)
    (hB : 6 ≤ P.1 → P.1 ≠ 7 → m (e1 + 2 + pz_ne a + 2 + pz_ne b) 797 33 = m (e1 + 2 + pz_ne a + 2) 797 33 + ((cn_t b : Nat) : Int) ∧ ∀ k : Nat, k < e1 + 2 + pz_ne a + 2 ∨ e1 + 2 + pz_ne a + 2 + pz_ne b ≤ k → m (e1 + 2 + pz_ne a + 2 + pz_ne b) 823 k = m (e1 + 2 + pz_ne a + 2) 823 k ∧ m (e1 + 2 + pz_ne a + 2 + pz_ne b) 824 k = m (e1 + 2 + pz_ne a + 2) 824 k) :
    m (e1 + pq_len P a b) 797 33 = m e1 797 33 + ((cn_P P (em_h (pz_mk (pz_md a)) 4).length (cn_t a) (cn_t b) : Nat) : Int) ∧ ∀ k : Nat, k < e1 ∨ e1 + pq_len P a b ≤ k → m (e1 + pq_len P a b) 823 k = m e1 823 k ∧ m (e1 + pq_len P a b) 824 k = m e1 824 k := by
  obtain ⟨h1, h2⟩ := ch_nd hwP hwa hta hnd hch hE
  have hp := hwP.1
  by_cases h6 : 6 ≤ P.1
  · obtain ⟨⟨a1, -, a3, a4⟩, ⟨b1, -, b3, b4⟩, h3⟩ := h2 h6
    obtain ⟨i1, i2⟩ := hA h6
    by_cases h7 : P.1 = 7
    · have hl : pq_len P a b = 2 + pz_ne a + 1 := by unfold pq_len; rw [if_pos h6, if_pos h7]; omega
      have hcn : cn_P P (em_h (pz_mk (pz_md a)) 4).length (cn_t a) (cn_t b) = (em_h (pz_mk (pz_md a)) 4).length + 3 + cn_t a + 2 := by unfold cn_P; rw [if_neg (by omega), if_neg (by omega), if_pos h7]
      rw [hl, show e1 + (2 + pz_ne a + 1) = e1 + 2 + pz_ne a + 1 by omega, hcn]
      rw [if_neg (by omega), if_pos h7] at a1
      rw [if_pos h7] at b1
      refine ⟨by omega, fun k hk => ⟨?_, ?_⟩⟩
      · rw [b3 k (by omega), (i2 k (by omega)).1, a3 k (by omega) (by omega)]
      · rw [b4 k (by omega), (i2 k (by omega)).2, a4 k]
    · obtain ⟨⟨c1, c2, c3⟩, ⟨d1, d2, d3⟩⟩ := h3 h7
      obtain ⟨j1, j2⟩ := hB h6 h7
      have hl : pq_len P a b = 2 + pz_ne a + 2 + pz_ne b + 1 := by unfold pq_len; rw [if_pos h6, if_neg h7]; omega
      have hcn : (cn_P P (em_h (pz_mk (pz_md a)) 4).length (cn_t a) (cn_t b) : Nat) = (if P.1 = 6 then 1 else 0) + cn_t a + 1 + cn_t b := by
        unfold cn_P
        rw [if_neg (by omega)]
        by_cases z : P.1 = 6
        · rw [if_pos z, if_pos z]
        · rw [if_neg z, if_neg z, if_neg h7, if_pos (by omega)]; omega
      rw [hl, show e1 + (2 + pz_ne a + 2 + pz_ne b + 1) = e1 + 2 + pz_ne a + 2 + pz_ne b + 1 by omega, hcn]
      rw [if_neg h7] at b1 a1
      refine ⟨?_, fun k hk => ⟨?_, ?_⟩⟩
      · by_cases z : P.1 = 6
        · rw [if_pos z] at a1 ⊢; omega
        · rw [if_neg z] at a1 ⊢; omega
      · rw [d2 k (by omega), (j2 k (by omega)).1, c2 k (by omega), b3 k (by omega), (i2 k (by omega)).1, a3 k (by omega) (by omega)]
      · rw [d3 k (by omega), (j2 k (by omega)).2, c3 k, b4 k (by omega), (i2 k (by omega)).2, a4 k]
  · have hl : pq_len P a b = 1 := by unfold pq_len; rw [if_neg h6]
    obtain ⟨a1, a2, a3⟩ := h1 (by omega)
    rw [hl]
    exact ⟨a1, fun k hk => ⟨a2 k (by omega), a3 k⟩⟩
theorem ct_tree {N : ab_M} {m : Nat → ab_M} {W1 W2 : Nat → List Int} {top : Int} : ∀ (t : pz_T), pz_wf t → pz_tb top t → ∀ (q e c : Nat), ev_at N e (pz_fl t q e c) → co_ch m e (e + pz_ne t) 1 W1 W2 → (∀ i, e ≤ i → i ≤ e + pz_ne t → ∀ o k, 805 ≤ o → o ≤ 812 → m i o k = N o k) →
    m (e + pz_ne t) 797 33 = m e 797 33 + ((cn_t t : Nat) : Int) ∧ ∀ k : Nat, k < e ∨ e + pz_ne t ≤ k → m (e + pz_ne t) 823 k = m e 823 k ∧ m (e + pz_ne t) 824 k = m e 824 k := by
  intro t
  induction t using pz_ind with
  | h0 =>
    intro _ _ q e c _ _ _
    exact ⟨by show m (e + 0) 797 33 = m e 797 33 + 0; rw [Nat.add_zero]; omega, fun k _ => ⟨rfl, rfl⟩⟩
  | h2 s P v t => intro h; exact h.elim
  | h1 s P v t s' P' v' a b iht iha ihb =>
    intro hw hb q e c h hch hE
    obtain ⟨w1, w2, w3, w4, w5, w6⟩ := hw
    obtain ⟨b1, b2, b3, b4, b5⟩ := hb
    obtain ⟨h1, h2⟩ := h.nd
    have hne : e + pz_ne (.inner s P v t (.inner s' P' v' a b)) = e + pz_ne t + pq_len P a b := by rw [pz_ne_nd]; unfold pq_len; omega
    rw [hne] at hch hE ⊢
    have hl1 : 1 ≤ pq_len P a b := by unfold pq_len; omega
    obtain ⟨x1, x2⟩ := iht w1 b1 q e c h1 (fun i x y => hch i x (by omega)) (fun i x y => hE i x (by omega))
    obtain ⟨y1, y2⟩ := ct_nd w4 w2 b2 h2 (fun i x y => hch i (by omega) y) (fun i x y => hE i (by omega) y) (fun h6 => by
      obtain ⟨-, ⟨qa, ca, g2⟩, -, -⟩ := h2.2 h6
      have : e + pz_ne t + 2 + pz_ne a ≤ e + pz_ne t + pq_len P a b := by unfold pq_len; rw [if_pos h6]; omega
      exact iha w2 b2 qa _ ca g2 (fun i x y => hch i (by omega) (by omega)) (fun i x y => hE i (by omega) (by omega))) (fun h6 h7 => by
      obtain ⟨-, -, -, g4⟩ := h2.2 h6
      obtain ⟨-, ⟨qb, cb, g6⟩, -⟩ := g4 h7
      have : e + pz_ne t + 2 + pz_ne a + 2 + pz_ne b ≤ e + pz_ne t + pq_len P a b := by unfold pq_len; rw [if_pos h6, if_neg h7]; omega
      exact ihb w3 b3 qb _ cb g6 (fun i x y => hch i (by omega) (by omega)) (fun i x y => hE i (by omega) (by omega)))
    refine ⟨?_, fun k hk => ⟨?_, ?_⟩⟩
    · rw [y1, x1, cn_nd]; push_cast; omega
    · rw [(y2 k (by omega)).1, (x2 k (by omega)).1]
    · rw [(y2 k (by omega)).2, (x2 k (by omega)).2]
/-- throws come to a row, if at all -/
def pkc (κo : Option Int) (I : co_I) : co_I := match κo with
  | none => I
  | some κ => if I.2.2.2.2 = true then (I.1, I.2.1, I.2.2.1, κ, false) else I
/-- a block's code lies among rows -/
def sl_P (L : List co_I) (d p : Nat) (a : pz_T) : Prop := ∃ (c' : Nat) (κo : Option Int), (∀ κ, κo = some κ → ((p + cn_t a : Nat) : Int) < κ) ∧ d + cn_t a + 2 ≤ L.length ∧ ∀ (i : Nat) (I : co_I), (co_t 1 a p c')[i]? = some I → L[d + i]? = some (pkc κo I)
theorem sl_P.mid {L : List co_I} {d p : Nat} {a : pz_T} (h : sl_P L d p a) (X Y : List co_I) : sl_P (X ++ (L ++ Y)) (X.length + d) p a := by
  obtain ⟨c', κo, h1, h2, h3⟩ := h
  refine ⟨c', κo, h1, by rw [List.length_append, List.length_append]; omega, fun i I hi => ?_⟩
  have := h3 i I hi
  have hl := (List.getElem?_eq_some_iff.1 this).1
  rw [List.getElem?_append_right (by omega), show X.length + d + i - X.length = d + i by omega, List.getElem?_append_left hl]
  exact this
theorem sl_P.pa {L : List co_I} {d p : Nat} {a : pz_T} (h : sl_P L d p a) {κ : Int} (hκ : ((p + cn_t a : Nat) : Int) < κ) : sl_P (co_pa κ L) d p a := by
  obtain ⟨c', κo, h1, h2, h3⟩ := h
  refine ⟨c', some (κo.getD κ), fun x hx => ?_, by rw [co_pa_len]; exact h2, fun i I hi => ?_⟩
  · cases hx
    cases κo with
    | none => exact hκ
    | some y => exact h1 y rfl
  · have := h3 i I hi
    unfold co_pa
    rw [List.getElem?_map, this]
    cases κo with
    | none => rfl
    | some y =>
      show some (if (pkc (some y) I).2.2.2.2 = true then _ else pkc (some y) I) = some (pkc (some y) I)
      unfold pkc
      by_cases z : I.2.2.2.2 = true
      · simp only [if_pos z]; rfl
      · simp only [if_neg z]
theorem lb_tree {N : ab_M} {m : Nat → ab_M} {W1 W2 : Nat → List Int} {top : Int} : ∀ (t : pz_T), pz_wf t → ∀ (l : Nat), l < pz_nl t → pz_tb top t → ∀ (q e c : Nat), ev_at N e (pz_fl t q e c) → co_ch m e (e + pz_ne t) 1 W1 W2 → (∀ i, e ≤ i → i ≤ e + pz_ne t → ∀ o k, 805 ≤ o → o ≤ 812 → m i o k = N o k) →
    ∃ β : Nat, (m (e + pz_ne t) 823 (e + lp_e t l) = m e 797 33 + ((β : Nat) : Int) ∧ m (e + pz_ne t) 824 (e + lp_e t l) = m e 797 33 + ((β + 1 + cn_t (lp_a t l) : Nat) : Int)) ∧ ∀ r c, sl_P (co_t 1 t r c) (β + 1) (r + β + 1) (lp_a t l) := by
  refine lp_ind (C := fun t l => pz_tb top t → ∀ (q e c : Nat), ev_at N e (pz_fl t q e c) → co_ch m e (e + pz_ne t) 1 W1 W2 → (∀ i, e ≤ i → i ≤ e + pz_ne t → ∀ o k, 805 ≤ o → o ≤ 812 → m i o k = N o k) →
    ∃ β : Nat, (m (e + pz_ne t) 823 (e + lp_e t l) = m e 797 33 + ((β : Nat) : Int) ∧ m (e + pz_ne t) 824 (e + lp_e t l) = m e 797 33 + ((β + 1 + cn_t (lp_a t l) : Nat) : Int)) ∧ ∀ r c, sl_P (co_t 1 t r c) (β + 1) (r + β + 1) (lp_a t l)) ?_ ?_ ?_ ?_
  · intro s P v t s' P' v' a b l hw hl ih hb q e c h hch hE
    have hwt := lp_wf t hw.1 l hl
    obtain ⟨w1, w2, w3, w4, w5, w6⟩ := hw
    obtain ⟨b1, b2, b3, b4, b5⟩ := hb
    obtain ⟨h1, h2⟩ := h.nd
    have hne : e + pz_ne (.inner s P v t (.inner s' P' v' a b)) = e + pz_ne t + pq_len P a b := by rw [pz_ne_nd]; unfold pq_len; omega
    rw [hne] at hch hE ⊢
    have hl1 : 1 ≤ pq_len P a b := by unfold pq_len; omega
    obtain ⟨β, ⟨i1, i2⟩, i3⟩ := ih b1 q e c h1 (fun i x y => hch i x (by omega)) (fun i x y => hE i x (by omega))
    have hct := fun (t : pz_T) (hw : pz_wf t) (hb : pz_tb top t) (q e c : Nat) => ct_tree (N := N) (m := m) (W1 := W1) (W2 := W2) t hw hb q e c
    obtain ⟨y1, y2⟩ := ct_nd w4 w2 b2 h2 (fun i x y => hch i (by omega) y) (fun i x y => hE i (by omega) y) (fun h6 => by
      obtain ⟨-, ⟨qa, ca, g2⟩, -, -⟩ := h2.2 h6
      have : e + pz_ne t + 2 + pz_ne a ≤ e + pz_ne t + pq_len P a b := by unfold pq_len; rw [if_pos h6]; omega
      exact hct a w2 b2 qa _ ca g2 (fun i x y => hch i (by omega) (by omega)) (fun i x y => hE i (by omega) (by omega))) (fun h6 h7 => by
      obtain ⟨-, -, -, g4⟩ := h2.2 h6
      obtain ⟨-, ⟨qb, cb, g6⟩, -⟩ := g4 h7
      have : e + pz_ne t + 2 + pz_ne a + 2 + pz_ne b ≤ e + pz_ne t + pq_len P a b := by unfold pq_len; rw [if_pos h6, if_neg h7]; omega
      exact hct b w3 b3 qb _ cb g6 (fun i x y => hch i (by omega) (by omega)) (fun i x y => hE i (by omega) (by omega)))
    have ja : lp_a (.inner s P v t (.inner s' P' v' a b)) l = lp_a t l := (lp_t (z := fun _ t => pz_sz t) (u := fun _ t => pz_sz t) (w := fun _ t a => pz_sz t) hl).2.1
    have je : lp_e (.inner s P v t (.inner s' P' v' a b)) l = lp_e t l := (lp_t hl).2.2.2
    rw [ja, je]
    refine ⟨β, ⟨?_, ?_⟩, fun r c => ?_⟩
    · rw [(y2 (e + lp_e t l) (by omega)).1]; exact i1
    · rw [(y2 (e + lp_e t l) (by omega)).2]; exact i2
    · rw [co_nd]
      have := (i3 r c).mid [] (co_P 1 P (pz_mk (pz_md a)) (fun r' => co_t 1 a r' (c + pz_kn t + (pz_kd (P.1, 0, 0, 0, 0, 0, 0, 0)).length)) (fun r' => co_t 1 b r' (c + pz_kn t + (pz_kd (P.1, 0, 0, 0, 0, 0, 0, 0)).length + pz_kn a)) (r + (co_t 1 t r c).length) (c + pz_kn t))
      rw [List.nil_append, List.length_nil, Nat.zero_add] at this
      exact this
  · intro s P v t s' P' v' a b hw h7 hb q e c h hch hE
    obtain ⟨w1, w2, w3, w4, w5, w6⟩ := hw
    obtain ⟨b1, b2, b3, b4, b5⟩ := hb
    obtain ⟨h1, h2⟩ := h.nd
    have hne : e + pz_ne (.inner s P v t (.inner s' P' v' a b)) = e + pz_ne t + pq_len P a b := by rw [pz_ne_nd]; unfold pq_len; omega
    rw [hne] at hch hE ⊢
    have h6 : 6 ≤ P.1 := by omega
    have hl : pq_len P a b = 2 + pz_ne a + 1 := by unfold pq_len; rw [if_pos h6, if_pos h7]; omega
    obtain ⟨x1, x2⟩ := ct_tree (N := N) (m := m) (W1 := W1) (W2 := W2) t w1 b1 q e c h1 (fun i x y => hch i x (by omega)) (fun i x y => hE i x (by omega))
    obtain ⟨-, hh⟩ := ch_nd w4 w2 b2 h2 (fun i x y => hch i (by omega) y) (fun i x y => hE i (by omega) y)
    obtain ⟨⟨c1, c2, c3, c4⟩, ⟨d1, d2, d3, d4⟩, -⟩ := hh h6
    obtain ⟨-, ⟨qa, ca, g2⟩, -, -⟩ := h2.2 h6
    obtain ⟨u1, u2⟩ := ct_tree (N := N) (m := m) (W1 := W1) (W2 := W2) a w2 b2 qa _ ca g2 (fun i x y => hch i (by omega) (by omega)) (fun i x y => hE i (by omega) (by omega))
    have ja : lp_a (.inner s P v t (.inner s' P' v' a b)) (pz_nl t) = a := (lp_0 (z := fun _ t => pz_sz t) (u := fun _ t => pz_sz t) (w := fun _ t a => pz_sz t) h7).2.1
    have je : lp_e (.inner s P v t (.inner s' P' v' a b)) (pz_nl t) = pz_ne t := (lp_0 h7).2.2.2
    rw [ja, je, hl, show e + pz_ne t + (2 + pz_ne a + 1) = e + pz_ne t + 2 + pz_ne a + 1 by omega]
    have c2 := c2 h7
    have d2 := d2 h7
    rw [if_neg (by omega), if_pos h7] at c1
    refine ⟨cn_t t + (em_h (pz_mk (pz_md a)) 4).length + 2, ⟨?_, ?_⟩, fun r c => ?_⟩
    · rw [d3 _ (by omega), (u2 _ (by omega)).1, c2, x1]; push_cast; omega
    · rw [d2, u1, c1, x1]; push_cast; omega
    · rw [co_nd]
      have hlt := cn_len t w1 r c
      have e1 : co_P 1 P (pz_mk (pz_md a)) (fun r' => co_t 1 a r' (c + pz_kn t + (pz_kd (P.1, 0, 0, 0, 0, 0, 0, 0)).length)) (fun r' => co_t 1 b r' (c + pz_kn t + (pz_kd (P.1, 0, 0, 0, 0, 0, 0, 0)).length + pz_kn a)) (r + (co_t 1 t r c).length) (c + pz_kn t) = co_w P (pz_mk (pz_md a)) (c + pz_kn t) ++ (4, 0, P.2.2.1, ((r + (co_t 1 t r c).length + (co_w P (pz_mk (pz_md a)) (c + pz_kn t)).length + 1 + (co_t 1 a (r + (co_t 1 t r c).length + (co_w P (pz_mk (pz_md a)) (c + pz_kn t)).length + 1) (c + pz_kn t + (pz_kd (P.1, 0, 0, 0, 0, 0, 0, 0)).length)).length + 2 : Nat) : Int), false) :: (co_t 1 a (r + (co_t 1 t r c).length + (co_w P (pz_mk (pz_md a)) (c + pz_kn t)).length + 1) (c + pz_kn t + (pz_kd (P.1, 0, 0, 0, 0, 0, 0, 0)).length) ++ [(2, ((c + pz_kn t : Nat) : Int) + 1, P.2.2.2, 0, false), (6, 0, [], 0, false)]) := by
        unfold co_P
        rw [if_neg (by omega), if_neg (by omega), if_neg (by omega), if_neg (by omega), if_neg (by omega), if_neg (by omega), if_neg (by omega), if_pos h7, if_pos rfl]
      rw [e1]
      have hwl := co_w_l P (pz_mk (pz_md a)) (c + pz_kn t)
      rw [show r + (cn_t t + (em_h (pz_mk (pz_md a)) 4).length + 2) + 1 = r + (co_t 1 t r c).length + (co_w P (pz_mk (pz_md a)) (c + pz_kn t)).length + 1 by omega]
      generalize hX : r + (co_t 1 t r c).length + (co_w P (pz_mk (pz_md a)) (c + pz_kn t)).length + 1 = X
      have hla := cn_len a w2 X (c + pz_kn t + (pz_kd (P.1, 0, 0, 0, 0, 0, 0, 0)).length)
      refine ⟨c + pz_kn t + (pz_kd (P.1, 0, 0, 0, 0, 0, 0, 0)).length, none, fun κ hκ => (by cases hκ), ?_, fun i I hi => ?_⟩
      · rw [List.length_append, List.length_append, List.length_cons, List.length_append, hla]
        simp only [List.length_cons, List.length_nil]
        omega
      · have hil := (List.getElem?_eq_some_iff.1 hi).1
        rw [List.getElem?_append_right (by omega), List.getElem?_append_right (by omega), show cn_t t + (em_h (pz_mk (pz_md a)) 4).length + 2 + 1 + i - (co_t 1 t r c).length - (co_w P (pz_mk (pz_md a)) (c + pz_kn t)).length = i + 1 by omega, List.getElem?_cons_succ, List.getElem?_append_left hil]
        exact hi
  · intro s P v t s' P' v' a b l hw h6 hl ih hb q e c h hch hE
    have hwt := lp_wf a hw.2.1 l hl
    obtain ⟨w1, w2, w3, w4, w5, w6⟩ := hw
    obtain ⟨b1, b2, b3, b4, b5⟩ := hb
    obtain ⟨h1, h2⟩ := h.nd
    have hne : e + pz_ne (.inner s P v t (.inner s' P' v' a b)) = e + pz_ne t + pq_len P a b := by rw [pz_ne_nd]; unfold pq_len; omega
    rw [hne] at hch hE ⊢
    have hle : e + pz_ne t + 2 + pz_ne a + 1 ≤ e + pz_ne t + pq_len P a b := by unfold pq_len; rw [if_pos h6]; omega
    obtain ⟨x1, x2⟩ := ct_tree (N := N) (m := m) (W1 := W1) (W2 := W2) t w1 b1 q e c h1 (fun i x y => hch i x (by omega)) (fun i x y => hE i x (by omega))
    obtain ⟨-, hh⟩ := ch_nd w4 w2 b2 h2 (fun i x y => hch i (by omega) y) (fun i x y => hE i (by omega) y)
    obtain ⟨⟨c1, c2, c3, c4⟩, ⟨d1, d2, d3, d4⟩, h3⟩ := hh h6
    obtain ⟨-, ⟨qa, ca, g2⟩, -, g4⟩ := h2.2 h6
    obtain ⟨β, ⟨i1, i2⟩, i3⟩ := ih b2 qa _ ca g2 (fun i x y => hch i (by omega) (by omega)) (fun i x y => hE i (by omega) (by omega))
    have ja : lp_a (.inner s P v t (.inner s' P' v' a b)) (pz_nl t + (if P.1 = 7 then 1 else 0) + l) = lp_a a l := (lp_in (z := fun _ t => pz_sz t) (u := fun _ t => pz_sz t) (w := fun _ t a => pz_sz t) hl).2.1
    have je : lp_e (.inner s P v t (.inner s' P' v' a b)) (pz_nl t + (if P.1 = 7 then 1 else 0) + l) = pz_ne t + 2 + lp_e a l := (lp_in hl).2.2.2
    have hfin : m (e + pz_ne t + pq_len P a b) 823 (e + pz_ne t + 2 + lp_e a l) = m (e + pz_ne t + 2 + pz_ne a) 823 (e + pz_ne t + 2 + lp_e a l) ∧ m (e + pz_ne t + pq_len P a b) 824 (e + pz_ne t + 2 + lp_e a l) = m (e + pz_ne t + 2 + pz_ne a) 824 (e + pz_ne t + 2 + lp_e a l) := by
      by_cases h7 : P.1 = 7
      · have hpl : pq_len P a b = 2 + pz_ne a + 1 := by unfold pq_len; rw [if_pos h6, if_pos h7]; omega
        rw [hpl, show e + pz_ne t + (2 + pz_ne a + 1) = e + pz_ne t + 2 + pz_ne a + 1 by omega]
        exact ⟨d3 _ (by omega), d4 _ (by omega)⟩
      · have hpl : pq_len P a b = 2 + pz_ne a + 2 + pz_ne b + 1 := by unfold pq_len; rw [if_pos h6, if_neg h7]; omega
        obtain ⟨⟨m1, m2, m3⟩, ⟨n1, n2, n3⟩⟩ := h3 h7
        obtain ⟨-, ⟨qb, cb, g6⟩, -⟩ := g4 h7
        obtain ⟨-, u2⟩ := ct_tree (N := N) (m := m) (W1 := W1) (W2 := W2) b w3 b3 qb _ cb g6 (fun i x y => hch i (by omega) (by omega)) (fun i x y => hE i (by omega) (by omega))
        rw [hpl, show e + pz_ne t + (2 + pz_ne a + 2 + pz_ne b + 1) = e + pz_ne t + 2 + pz_ne a + 2 + pz_ne b + 1 by omega]
        refine ⟨?_, ?_⟩
        · rw [n2 _ (by omega), (u2 _ (by omega)).1, m2 _ (by omega), d3 _ (by omega)]
        · rw [n3 _ (by omega), (u2 _ (by omega)).2, m3 _, d4 _ (by omega)]
    rw [ja, je, show e + (pz_ne t + 2 + lp_e a l) = e + pz_ne t + 2 + lp_e a l by omega, hfin.1, hfin.2]
    refine ⟨cn_t t + (if P.1 = 6 then 1 else if P.1 = 7 then (em_h (pz_mk (pz_md a)) 4).length + 3 else 0) + β, ⟨?_, ?_⟩, fun r c => ?_⟩
    · rw [i1, c1, x1]; push_cast; omega
    · rw [i2, c1, x1]; push_cast; omega
    · rw [co_nd]
      have hlt := cn_len t w1 r c
      generalize hR : r + (co_t 1 t r c).length = R
      generalize hC : c + pz_kn t + (pz_kd (P.1, 0, 0, 0, 0, 0, 0, 0)).length = C at *
      unfold co_P
      rw [if_neg (by omega), if_neg (by omega), if_neg (by omega), if_neg (by omega), if_neg (by omega), if_neg (by omega)]
      by_cases z6 : P.1 = 6
      · rw [if_pos z6, if_pos z6]
        have := (i3 (R + 1) C).mid (co_t 1 t r c ++ [(4, 0, P.2.2.1, ((R + 1 + (co_t 1 a (R + 1) C).length + 1 : Nat) : Int), false)]) ((5, 0, [], ((R + 1 + (co_t 1 a (R + 1) C).length + 1 + (co_t 1 b (R + 1 + (co_t 1 a (R + 1) C).length + 1) (C + pz_kn a)).length : Nat) : Int), false) :: co_t 1 b (R + 1 + (co_t 1 a (R + 1) C).length + 1) (C + pz_kn a))
        rw [List.length_append, hlt, List.length_cons, List.length_nil, List.append_assoc, show R + 1 + β + 1 = r + (cn_t t + 1 + β) + 1 by omega, show cn_t t + (0 + 1) + (β + 1) = cn_t t + 1 + β + 1 by omega] at this
        exact this
      · rw [if_neg z6, if_neg z6]
        by_cases z7 : P.1 = 7
        · rw [if_pos z7, if_pos z7, if_pos rfl]
          have hwl := co_w_l P (pz_mk (pz_md a)) (c + pz_kn t)
          generalize hX : R + (co_w P (pz_mk (pz_md a)) (c + pz_kn t)).length + 1 = X
          have := (i3 X C).mid (co_t 1 t r c ++ (co_w P (pz_mk (pz_md a)) (c + pz_kn t) ++ [(4, 0, P.2.2.1, ((X + (co_t 1 a X C).length + 2 : Nat) : Int), false)])) [(2, ((c + pz_kn t : Nat) : Int) + 1, P.2.2.2, 0, false), (6, 0, [], 0, false)]
          rw [List.length_append, List.length_append, hlt, List.length_cons, List.length_nil, List.append_assoc, List.append_assoc, show X + β + 1 = r + (cn_t t + ((em_h (pz_mk (pz_md a)) 4).length + 3) + β) + 1 by omega, show cn_t t + ((co_w P (pz_mk (pz_md a)) (c + pz_kn t)).length + (0 + 1)) + (β + 1) = cn_t t + ((em_h (pz_mk (pz_md a)) 4).length + 3) + β + 1 by omega] at this
          exact this
        · rw [if_neg z7, if_neg z7]
          have hsl := i3 R C
          obtain ⟨-, -, -, hlen, -⟩ := id hsl
          have hκ : ((R + β + 1 + cn_t (lp_a a l) : Nat) : Int) < ((R + (co_t 1 a R C).length + 1 : Nat) : Int) := by omega
          have := (hsl.pa hκ).mid (co_t 1 t r c) ((5, 0, [], ((R + (co_t 1 a R C).length + 1 + (co_t 1 b (R + (co_t 1 a R C).length + 1) (C + pz_kn a)).length : Nat) : Int), false) :: co_t 1 b (R + (co_t 1 a R C).length + 1) (C + pz_kn a))
          rw [hlt, show R + β + 1 = r + (cn_t t + 0 + β) + 1 by omega, show cn_t t + (β + 1) = cn_t t + 0 + β + 1 by omega] at this
          exact this
  · intro s P v t s' P' v' a b l hw h6 h7 hl ih hb q e c h hch hE
    have hwt := lp_wf b hw.2.2.1 l hl
    obtain ⟨w1, w2, w3, w4, w5, w6⟩ := hw
    obtain ⟨b1, b2, b3, b4, b5⟩ := hb
    obtain ⟨h1, h2⟩ := h.nd
    have hne : e + pz_ne (.inner s P v t (.inner s' P' v' a b)) = e + pz_ne t + pq_len P a b := by rw [pz_ne_nd]; unfold pq_len; omega
    rw [hne] at hch hE ⊢
    have hpl : pq_len P a b = 2 + pz_ne a + 2 + pz_ne b + 1 := by unfold pq_len; rw [if_pos h6, if_neg h7]; omega
    obtain ⟨x1, x2⟩ := ct_tree (N := N) (m := m) (W1 := W1) (W2 := W2) t w1 b1 q e c h1 (fun i x y => hch i x (by omega)) (fun i x y => hE i x (by omega))
    obtain ⟨-, hh⟩ := ch_nd w4 w2 b2 h2 (fun i x y => hch i (by omega) y) (fun i x y => hE i (by omega) y)
    obtain ⟨⟨c1, c2, c3, c4⟩, ⟨d1, d2, d3, d4⟩, h3⟩ := hh h6
    obtain ⟨⟨m1, m2, m3⟩, ⟨n1, n2, n3⟩⟩ := h3 h7
    obtain ⟨-, ⟨qa, ca, g2⟩, -, g4⟩ := h2.2 h6
    obtain ⟨-, ⟨qb, cb, g6⟩, -⟩ := g4 h7
    obtain ⟨u1, u2⟩ := ct_tree (N := N) (m := m) (W1 := W1) (W2 := W2) a w2 b2 qa _ ca g2 (fun i x y => hch i (by omega) (by omega)) (fun i x y => hE i (by omega) (by omega))
    obtain ⟨β, ⟨i1, i2⟩, i3⟩ := ih b3 qb _ cb g6 (fun i x y => hch i (by omega) (by omega)) (fun i x y => hE i (by omega) (by omega))
    have ja : lp_a (.inner s P v t (.inner s' P' v' a b)) (pz_nl t + (if P.1 = 7 then 1 else 0) + pz_nl a + l) = lp_a b l := (lp_bl (z := fun _ t => pz_sz t) (u := fun _ t => pz_sz t) (w := fun _ t a => pz_sz t)).2.1
    have je : lp_e (.inner s P v t (.inner s' P' v' a b)) (pz_nl t + (if P.1 = 7 then 1 else 0) + pz_nl a + l) = pz_ne t + 2 + pz_ne a + 2 + lp_e b l := lp_bl.2.2.2
    rw [ja, je, show e + (pz_ne t + 2 + pz_ne a + 2 + lp_e b l) = e + pz_ne t + 2 + pz_ne a + 2 + lp_e b l by omega, hpl, show e + pz_ne t + (2 + pz_ne a + 2 + pz_ne b + 1) = e + pz_ne t + 2 + pz_ne a + 2 + pz_ne b + 1 by omega]
    rw [if_neg h7] at c1 d1
    refine ⟨cn_t t + (if P.1 = 6 then 1 else 0) + cn_t a + 1 + β, ⟨?_, ?_⟩, fun r c => ?_⟩
    · rw [n2 _ (by omega), i1, m1, d1, u1, c1, x1]; push_cast; omega
    · rw [n3 _ (by omega), i2, m1, d1, u1, c1, x1]; push_cast; omega
    · rw [co_nd]
      have hlt := cn_len t w1 r c
      generalize hR : r + (co_t 1 t r c).length = R
      generalize hC : c + pz_kn t + (pz_kd (P.1, 0, 0, 0, 0, 0, 0, 0)).length = C at *
      unfold co_P
      rw [if_neg (by omega), if_neg (by omega), if_neg (by omega), if_neg (by omega), if_neg (by omega), if_neg (by omega)]
      by_cases z6 : P.1 = 6
      · rw [if_pos z6, if_pos z6]
        have hla := cn_len a w2 (R + 1) C
        generalize hY : R + 1 + (co_t 1 a (R + 1) C).length + 1 = Y
        have := (i3 Y (C + pz_kn a)).mid (co_t 1 t r c ++ ((4, 0, P.2.2.1, ((Y : Nat) : Int), false) :: (co_t 1 a (R + 1) C ++ [(5, 0, [], ((Y + (co_t 1 b Y (C + pz_kn a)).length : Nat) : Int), false)]))) []
        rw [List.length_append, List.length_cons, List.length_append, hlt, hla, List.length_cons, List.length_nil, List.append_assoc, List.append_nil, List.cons_append, List.append_assoc, show Y + β + 1 = r + (cn_t t + 1 + cn_t a + 1 + β) + 1 by omega, show cn_t t + (cn_t a + (0 + 1) + 1) + (β + 1) = cn_t t + 1 + cn_t a + 1 + β + 1 by omega] at this
        exact this
      · rw [if_neg z6, if_neg z6, if_neg h7]
        have hla := cn_len a w2 R C
        generalize hY : R + (co_t 1 a R C).length + 1 = Y
        have := (i3 Y (C + pz_kn a)).mid (co_t 1 t r c ++ (co_pa ((Y : Nat) : Int) (co_t 1 a R C) ++ [(5, 0, [], ((Y + (co_t 1 b Y (C + pz_kn a)).length : Nat) : Int), false)])) []
        rw [List.length_append, List.length_append, co_pa_len, hlt, hla, List.length_cons, List.length_nil, List.append_assoc, List.append_nil, List.append_assoc, show Y + β + 1 = r + (cn_t t + 0 + cn_t a + 1 + β) + 1 by omega, show cn_t t + (cn_t a + (0 + 1)) + (β + 1) = cn_t t + 0 + cn_t a + 1 + β + 1 by omega] at this
        exact this
