/-! the form by copying by the events is that of the tree -/
def cq_T (m : Nat → ab_M) (a b : Nat) : Prop := ∀ i, a ≤ i → i < b → m i = cq_s (m (i + 1)) i
def cq_R (m : Nat → ab_M) (a b : Nat) (F : Int → Int → Int) : Prop := ∀ d n x : Int, 0 ≤ d → m b 797 27 = d → m b 842 d.toNat = n → m b 843 d.toNat = x →
  m a 797 27 = d ∧ m a 842 d.toNat = F n x ∧ m a 843 d.toNat = x ∧ (∀ k : Nat, (k : Int) < d → m a 842 k = m b 842 k ∧ m a 843 k = m b 843 k) ∧ ∀ k, ¬ (a ≤ k ∧ k < b) → m a 844 k = m b 844 k ∧ m a 845 k = m b 845 k
theorem cq_s_10 {M : ab_M} {e : Nat} (h : M 805 e = 10) : cq_s M e = ab_up (ab_up (ab_up M 842 (M 797 27 + 1).toNat (if M 806 e = 2 then M 810 (M 812 e).toNat else M 842 (M 797 27).toNat)) 843 (M 797 27 + 1).toNat (if M 806 e = 3 then M 845 (M 812 e).toNat else M 843 (M 797 27).toNat)) 797 27 (M 797 27 + 1) := if_pos h
theorem cq_s_9 {M : ab_M} {e : Nat} (h : M 805 e = 9) : cq_s M e = ab_up (ab_up M 797 27 (M 797 27 - 1)) (if M 806 e = 1 ∨ M 806 e = 4 then 845 else 844) (M 812 e).toNat (M 842 (M 797 27).toNat) := by
  unfold cq_s
  rw [if_neg (by omega), if_pos h]
theorem cq_s_8 {M : ab_M} {e : Nat} (h : M 805 e ≤ 8) : cq_s M e = ab_up M 842 (M 797 27).toNat (cq_v M e (M 797 27).toNat) := by
  unfold cq_s
  rw [if_neg (by omega), if_neg (by omega)]
theorem cq_bl {m : Nat → ab_M} {e1 o f : Nat} {w : Int} {F : Int → Int → Int} (hch : cq_T m o (f + 1)) (h1 : e1 < o) (h2 : o < f)
    (ho : m (o + 1) 805 o = 9 ∧ m (o + 1) 806 o = w ∧ m (o + 1) 812 o = (e1 : Int)) (hl : m (f + 1) 805 f = 10 ∧ m (f + 1) 806 f = w ∧ m (f + 1) 812 f = (e1 : Int)) (hF : cq_R m (o + 1) f F)
    {d n x : Int} (hd : 0 ≤ d) (h27 : m (f + 1) 797 27 = d) (hn : m (f + 1) 842 d.toNat = n) (hx : m (f + 1) 843 d.toNat = x) :
    m o 797 27 = d ∧ (m o 842 d.toNat = n ∧ m o 843 d.toNat = x) ∧ (∀ k : Nat, (k : Int) < d → m o 842 k = m (f + 1) 842 k ∧ m o 843 k = m (f + 1) 843 k) ∧
      (w = 1 ∨ w = 4 → m o 845 e1 = F n x ∧ m o 844 e1 = m (f + 1) 844 e1) ∧
      (¬ (w = 1 ∨ w = 4) → m o 844 e1 = F (if w = 2 then m (f + 1) 810 e1 else n) (if w = 3 then m (f + 1) 845 e1 else x) ∧ m o 845 e1 = m (f + 1) 845 e1) ∧
      ∀ k, k ≠ e1 → ¬ (o ≤ k ∧ k < f) → m o 844 k = m (f + 1) 844 k ∧ m o 845 k = m (f + 1) 845 k := by
  obtain ⟨o1, o2, o3⟩ := ho
  obtain ⟨l1, l2, l3⟩ := hl
  have hf := (hch f (by omega) (by omega)).trans (cq_s_10 l1)
  have ho' := (hch o (by omega) (by omega)).trans (cq_s_9 o1)
  rw [h27, l2, l3, hn, hx, show ((e1 : Int)).toNat = e1 from rfl] at hf
  have f27 : m f 797 27 = d + 1 := by rw [hf, ab_up_s]
  have f30 : m f 843 (d + 1).toNat = (if w = 3 then m (f + 1) 845 e1 else x) := by rw [hf, ab_up_o (by decide), ab_up_s]
  have f29 : m f 842 (d + 1).toNat = (if w = 2 then m (f + 1) 810 e1 else n) := by rw [hf, ab_up_o (by decide), ab_up_o (by decide), ab_up_s]
  have flow : ∀ k : Nat, (k : Int) ≤ d → m f 842 k = m (f + 1) 842 k ∧ m f 843 k = m (f + 1) 843 k := fun k hk => by
    rw [hf]
    exact ⟨by rw [up_ne (by omega), up_ne (by omega), up_ne (by omega)], by rw [up_ne (by omega), up_ne (by omega), up_ne (by omega)]⟩
  have fhd : ∀ k : Nat, m f 844 k = m (f + 1) 844 k ∧ m f 845 k = m (f + 1) 845 k := fun k => by
    rw [hf]
    exact ⟨by rw [up_ne (by omega), up_ne (by omega), up_ne (by omega)], by rw [up_ne (by omega), up_ne (by omega), up_ne (by omega)]⟩
  obtain ⟨a1, a2, a3, a4, a5⟩ := hF (d + 1) _ _ (by omega) f27 f29 f30
  rw [a1, a2, o2, o3, show ((e1 : Int)).toNat = e1 from rfl] at ho'
  have olow : ∀ k : Nat, (k : Int) ≤ d → m o 842 k = m (f + 1) 842 k ∧ m o 843 k = m (f + 1) 843 k := fun k hk => by
    obtain ⟨z1, z2⟩ := flow k hk
    obtain ⟨y1, y2⟩ := a4 k (by omega)
    rw [← z1, ← z2, ← y1, ← y2, ho']
    constructor
    · rw [ab_up_o (by split <;> decide), up_ne (by omega)]
    · rw [ab_up_o (by split <;> decide), up_ne (by omega)]
  have oh : ∀ k, ¬ (o + 1 ≤ k ∧ k < f) → m (o + 1) 844 k = m (f + 1) 844 k ∧ m (o + 1) 845 k = m (f + 1) 845 k := fun k hk => by
    obtain ⟨z1, z2⟩ := fhd k
    obtain ⟨y1, y2⟩ := a5 k hk
    exact ⟨y1.trans z1, y2.trans z2⟩
  obtain ⟨dl1, dl2⟩ := olow d.toNat (by omega)
  refine ⟨?_, ⟨dl1.trans hn, dl2.trans hx⟩, fun k hk => olow k (by omega), fun q => ?_, fun q => ?_, fun k hk hko => ?_⟩
  · rw [ho', ab_up_o (by split <;> decide), ab_up_s]; omega
  · rw [if_pos q] at ho'
    rw [ho']
    refine ⟨?_, ?_⟩
    · rw [ab_up_s, if_neg (by omega), if_neg (by omega)]
    · rw [ab_up_o (by decide), up_ne (by omega)]; exact (oh e1 (by omega)).1
  · rw [if_neg q] at ho'
    rw [ho']
    refine ⟨?_, ?_⟩
    · rw [ab_up_s]
    · rw [ab_up_o (by decide), up_ne (by omega)]; exact (oh e1 (by omega)).2
  · rw [ho']
    obtain ⟨y1, y2⟩ := oh k (by omega)
    exact ⟨by rw [up_ne (by omega), up_ne (by omega)]; exact y1, by rw [up_ne (by omega), up_ne (by omega)]; exact y2⟩
/-- a statement, by its events -/
theorem cq_stmt {N : ab_M} {m : Nat → ab_M} {P : pz_P} {a b : pz_T} {e1 q c : Nat} (hwP : pz_wfP P) (hnd : ev_nd N P a b e1 q c) (hch : cq_T m e1 (e1 + pq_len P a b)) (hE : ∀ i, i ≤ e1 + pq_len P a b → ∀ o k, 805 ≤ o → o ≤ 812 → m i o k = N o k)
    (hA : 6 ≤ P.1 → cq_R m (e1 + 2) (e1 + 2 + pz_ne a) (cp_t a)) (hB : 6 ≤ P.1 → P.1 ≠ 7 → cq_R m (e1 + 2 + pz_ne a + 2) (e1 + 2 + pz_ne a + 2 + pz_ne b) (cp_t b)) : cq_R m e1 (e1 + pq_len P a b) (cp_P P (cp_t a) (cp_t b)) := by
  intro d n x hd h27 hn hx
  have hp1 := hwP.1
  have hl1 : 1 ≤ pq_len P a b := by unfold pq_len; omega
  obtain ⟨hev, hblk⟩ := hnd
  obtain ⟨p792, -, -, p795, -, p797, -⟩ := pz_ev_s (by omega) hev
  have e792 : m (e1 + 1) 805 e1 = P.1 := (hE _ (by omega) 805 e1 (by decide) (by decide)).trans p792
  have e795 : m (e1 + 1) 808 e1 = ((P.2.2.1.length : Nat) : Int) := (hE _ (by omega) 808 e1 (by decide) (by decide)).trans p795
  have e797 : m (e1 + 1) 810 e1 = ((P.2.2.2.length : Nat) : Int) := (hE _ (by omega) 810 e1 (by decide) (by decide)).trans p797
  have h0 := (hch e1 (Nat.le_refl _) (by omega)).trans (cq_s_8 (by omega))
  -- the statement's own event, from what its blocks leave
  have fin : ∀ {d' : Int}, d' = d → m (e1 + 1) 797 27 = d' → m (e1 + 1) 842 d.toNat = n → m (e1 + 1) 843 d.toNat = x → (∀ k : Nat, (k : Int) < d → m (e1 + 1) 842 k = m (e1 + pq_len P a b) 842 k ∧ m (e1 + 1) 843 k = m (e1 + pq_len P a b) 843 k) → (∀ k, ¬ (e1 ≤ k ∧ k < e1 + pq_len P a b) → m (e1 + 1) 844 k = m (e1 + pq_len P a b) 844 k ∧ m (e1 + 1) 845 k = m (e1 + pq_len P a b) 845 k) → cq_v (m (e1 + 1)) e1 d.toNat = cp_P P (cp_t a) (cp_t b) n x →
      m e1 797 27 = d ∧ m e1 842 d.toNat = cp_P P (cp_t a) (cp_t b) n x ∧ m e1 843 d.toNat = x ∧ (∀ k : Nat, (k : Int) < d → m e1 842 k = m (e1 + pq_len P a b) 842 k ∧ m e1 843 k = m (e1 + pq_len P a b) 843 k) ∧ ∀ k, ¬ (e1 ≤ k ∧ k < e1 + pq_len P a b) → m e1 844 k = m (e1 + pq_len P a b) 844 k ∧ m e1 845 k = m (e1 + pq_len P a b) 845 k := by
    intro d' hd' g1 g2 g3 g4 g5 g6
    subst hd'
    rw [g1] at h0
    rw [h0]
    refine ⟨?_, ?_, ?_, fun k hk => ?_, fun k hk => ?_⟩
    · rw [ab_up_o (by decide)]; exact g1
    · rw [ab_up_s]; exact g6
    · rw [ab_up_o (by decide)]; exact g3
    · rw [up_ne (by omega), up_ne (by omega)]; exact g4 k hk
    · rw [up_ne (by omega), up_ne (by omega)]; exact g5 k hk
  by_cases h6 : 6 ≤ P.1
  · obtain ⟨g1, -, g3, g4⟩ := hblk h6
    obtain ⟨o1, o2, o3⟩ := pz_ev_o g1
    obtain ⟨l1, l2, l3⟩ := pz_ev_c g3
    have hlen : pq_len P a b = 1 + (2 + (pz_ne a + (if P.1 = 7 then 0 else 2 + pz_ne b))) := by unfold pq_len; rw [if_pos h6]
    obtain ⟨w1a, w1b, w1c, w1d, w1e, w1f⟩ := pz_w6 h6 hp1.2
    have ev : ∀ i, i ≤ e1 + pq_len P a b → ∀ k, m i 805 k = N 805 k ∧ m i 806 k = N 806 k ∧ m i 812 k = N 812 k := fun i hi k => ⟨hE i hi _ _ (by decide) (by decide), hE i hi _ _ (by decide) (by decide), hE i hi _ _ (by decide) (by decide)⟩
    have hbd : e1 + 2 + pz_ne a + 1 ≤ e1 + pq_len P a b := by rw [hlen]; omega
    have b1 : ∀ {n' x' : Int}, m (e1 + 2 + pz_ne a + 1) 797 27 = d → m (e1 + 2 + pz_ne a + 1) 842 d.toNat = n' → m (e1 + 2 + pz_ne a + 1) 843 d.toNat = x' → _ := fun {n' x'} q1 q2 q3 => cq_bl (m := m) (e1 := e1) (o := e1 + 1) (f := e1 + 2 + pz_ne a) (w := pz_w1 P.1) (F := cp_t a) (n := n') (x := x') (fun i h1 h2 => hch i (by omega) (by omega)) (by omega) (by omega) ⟨(ev _ (by omega) _).1.trans o1, (ev _ (by omega) _).2.1.trans o2, (ev _ (by omega) _).2.2.trans o3⟩ ⟨(ev _ (by omega) _).1.trans l1, (ev _ (by omega) _).2.1.trans l2, (ev _ (by omega) _).2.2.trans l3⟩ (hA h6) hd q1 q2 q3
    by_cases h7 : P.1 = 7
    · rw [if_pos h7] at hlen
      have hel : e1 + pq_len P a b = e1 + 2 + pz_ne a + 1 := by rw [hlen]; omega
      rw [hel] at h27 hn hx fin ⊢
      obtain ⟨c1, ⟨c2, c3⟩, c4, -, c6, c7⟩ := b1 h27 hn hx
      obtain ⟨c61, c62⟩ := c6 (by have := w1d h7; omega)
      rw [if_pos (w1d h7), if_neg (by have := w1d h7; omega)] at c61
      refine fin rfl c1 c2 c3 c4 (fun k hk => c7 k (by omega) (by omega)) ?_
      unfold cq_v cp_P
      rw [if_neg (by omega), if_neg (by omega), if_pos (by omega), if_neg (by omega), if_neg (by omega), if_pos h7, e795, e797, c61, c2, hE (e1 + 2 + pz_ne a + 1) (by omega) 810 e1 (by decide) (by decide), p797]
    · rw [if_neg h7] at hlen
      obtain ⟨g5, -, g7⟩ := g4 h7
      obtain ⟨o4, o5, o6⟩ := pz_ev_o g5
      obtain ⟨l4, l5, l6⟩ := pz_ev_c g7
      have hel : e1 + pq_len P a b = e1 + 2 + pz_ne a + 2 + pz_ne b + 1 := by rw [hlen]; omega
      have h68 : P.1 = 6 ∨ P.1 = 8 := by omega
      have hw2 : pz_w2 P.1 = 1 ∨ pz_w2 P.1 = 4 := by
        rcases h68 with z | z
        · exact Or.inl (w1e z).2
        · exact Or.inr (w1f z).2
      have b2 := cq_bl (m := m) (e1 := e1) (o := e1 + 2 + pz_ne a + 1) (f := e1 + 2 + pz_ne a + 2 + pz_ne b) (w := pz_w2 P.1) (F := cp_t b) (n := n) (x := x) (d := d) (fun i h1 h2 => hch i (by omega) (by omega)) (by omega) (by omega) ⟨(ev _ (by omega) _).1.trans o4, (ev _ (by omega) _).2.1.trans o5, (ev _ (by omega) _).2.2.trans o6⟩ ⟨(ev _ (by omega) _).1.trans l4, (ev _ (by omega) _).2.1.trans l5, (ev _ (by omega) _).2.2.trans l6⟩ (hB h6 h7) hd (by rw [← hel]; exact h27) (by rw [← hel]; exact hn) (by rw [← hel]; exact hx)
      rw [← hel] at b2
      obtain ⟨c1, ⟨c2, c3⟩, c4, c5, -, c7⟩ := b2
      obtain ⟨c51, c52⟩ := c5 hw2
      obtain ⟨k1, ⟨k2, k3⟩, k4, -, k6, k7⟩ := b1 c1 c2 c3
      obtain ⟨k61, k62⟩ := k6 (fun z => z.elim w1b w1c)
      rw [c51] at k61 k62
      refine fin rfl k1 k2 k3 (fun k hk => ⟨(k4 k hk).1.trans (c4 k hk).1, (k4 k hk).2.trans (c4 k hk).2⟩) (fun k hk => ⟨(k7 k (by omega) (by omega)).1.trans (c7 k (by omega) (by omega)).1, (k7 k (by omega) (by omega)).2.trans (c7 k (by omega) (by omega)).2⟩) ?_
      unfold cq_v cp_P
      rcases h68 with z | z
      · rw [if_neg (by have := w1e z; omega), if_neg (by have := w1e z; omega)] at k61
        rw [if_neg (by omega), if_pos (by omega), if_neg (by omega), if_pos z, e795, k61, k62]
      · rw [if_neg (by have := w1f z; omega), if_pos (w1f z).1] at k61
        rw [if_neg (by omega), if_neg (by omega), if_neg (by omega), if_pos (by omega), if_neg (by omega), if_neg (by omega), if_neg (by omega), if_pos z, k61]
  · have hlen : pq_len P a b = 1 := by unfold pq_len; rw [if_neg h6]
    rw [hlen] at h27 hn hx fin ⊢
    refine fin rfl h27 hn hx (fun _ _ => ⟨rfl, rfl⟩) (fun _ _ => ⟨rfl, rfl⟩) ?_
    unfold cq_v cp_P
    by_cases c4 : P.1 = 4
    · rw [if_pos (by omega), if_pos c4, hx]
    · rw [if_neg (by omega), if_neg (by omega), if_neg (by omega), if_neg (by omega), if_neg c4, if_neg (by omega), if_neg (by omega), if_neg (by omega), e795, e797, hn]
theorem cq_tree {N : ab_M} {m : Nat → ab_M} : ∀ (t : pz_T), pz_wf t → ∀ (q e c : Nat), ev_at N e (pz_fl t q e c) → cq_T m e (e + pz_ne t) → (∀ i, i ≤ e + pz_ne t → ∀ o k, 805 ≤ o → o ≤ 812 → m i o k = N o k) → cq_R m e (e + pz_ne t) (cp_t t) := by
  intro t
  induction t using pz_ind with
  | h0 => exact fun _ q e c _ _ _ d n x hd h27 hn hx => ⟨h27, hn, hx, fun _ _ => ⟨rfl, rfl⟩, fun _ _ => ⟨rfl, rfl⟩⟩
  | h2 s P v t => intro h; exact h.elim
  | h1 s P v t s' P' v' a b iht iha ihb =>
    intro hw q e c h hch hE
    obtain ⟨w1, w2, w3, w4, w5, w6⟩ := hw
    obtain ⟨h1, h2⟩ := h.nd
    have hne : e + pz_ne (.inner s P v t (.inner s' P' v' a b)) = e + pz_ne t + pq_len P a b := by rw [pz_ne_nd]; unfold pq_len; omega
    rw [hne] at hch hE ⊢
    have hl1 : 1 ≤ pq_len P a b := by unfold pq_len; omega
    have hT := iht w1 q e c h1 (fun i x y => hch i x (by omega)) (fun i x => hE i (by omega))
    have hS : cq_R m (e + pz_ne t) (e + pz_ne t + pq_len P a b) (cp_P P (cp_t a) (cp_t b)) := by
      refine cq_stmt w4 h2 (fun i x y => hch i (by omega) y) hE (fun h6 => ?_) (fun h6 h7 => ?_)
      · obtain ⟨-, ⟨qa, ca, g2⟩, -⟩ := h2.2 h6
        have : e + pz_ne t + 2 + pz_ne a ≤ e + pz_ne t + pq_len P a b := by unfold pq_len; rw [if_pos h6]; omega
        exact iha w2 qa _ ca g2 (fun i x y => hch i (by omega) (by omega)) (fun i x => hE i (by omega))
      · obtain ⟨-, -, -, g4⟩ := h2.2 h6
        obtain ⟨-, ⟨qb, cb, g6⟩, -⟩ := g4 h7
        have : e + pz_ne t + 2 + pz_ne a + 2 + pz_ne b ≤ e + pz_ne t + pq_len P a b := by unfold pq_len; rw [if_pos h6, if_neg h7]; omega
        exact ihb w3 qb _ cb g6 (fun i x y => hch i (by omega) (by omega)) (fun i x => hE i (by omega))
    intro d n x hd h27 hn hx
    obtain ⟨s1, s2, s3, s4, s5⟩ := hS d n x hd h27 hn hx
    obtain ⟨t1, t2, t3, t4, t5⟩ := hT d _ x hd s1 s2 s3
    refine ⟨t1, t2, t3, fun k hk => ⟨(t4 k hk).1.trans (s4 k hk).1, (t4 k hk).2.trans (s4 k hk).2⟩, fun k hk => ⟨(t5 k (by omega)).1.trans (s5 k (by omega)).1, (t5 k (by omega)).2.trans (s5 k (by omega)).2⟩⟩
/-- the form by copying of a program, by its events -/
theorem cq_top {N : ab_M} {t : pz_T} (hw : pz_wf t) (hat : ev_at N 0 (pz_fl t 0 0 0)) : cq_m (pz_ne t) (cq_0 N) (pz_ne t) 842 0 = cp_t t 1 1 := by
  have hch : cq_T (fun i => cq_m (pz_ne t) (cq_0 N) (pz_ne t - i)) 0 (pz_ne t) := fun i _ hi => by
    show cq_m (pz_ne t) (cq_0 N) (pz_ne t - i) = cq_s (cq_m (pz_ne t) (cq_0 N) (pz_ne t - (i + 1))) i
    rw [show pz_ne t - i = (pz_ne t - (i + 1)) + 1 by omega]
    show cq_s _ (pz_ne t - 1 - (pz_ne t - (i + 1))) = _
    rw [show pz_ne t - 1 - (pz_ne t - (i + 1)) = i by omega]
  have hR := cq_tree (N := N) (m := fun i => cq_m (pz_ne t) (cq_0 N) (pz_ne t - i)) t hw 0 0 0 hat (by rw [Nat.zero_add]; exact hch) (fun i _ o k h1 h2 => cq_m_f2 _ _ ⟨by omega, by omega, by omega, by omega, by omega⟩ _ _)
  rw [Nat.zero_add] at hR
  have h00 : cq_m (pz_ne t) (cq_0 N) (pz_ne t - pz_ne t) = cq_0 N := by rw [Nat.sub_self]; rfl
  have := (hR 0 1 1 (Int.le_refl _) (by show cq_m (pz_ne t) (cq_0 N) (pz_ne t - pz_ne t) 797 27 = 0; rw [h00]; unfold cq_0; rw [ab_up_o (by decide), ab_up_o (by decide), ab_up_s]) (by show cq_m (pz_ne t) (cq_0 N) (pz_ne t - pz_ne t) 842 0 = 1; rw [h00]; unfold cq_0; rw [ab_up_o (by decide), ab_up_s]) (by show cq_m (pz_ne t) (cq_0 N) (pz_ne t - pz_ne t) 843 0 = 1; rw [h00]; unfold cq_0; rw [ab_up_s])).2.1
  exact this
