/-! a step over an event -/
/-- a step over an event -/
def pT (M M' : ab_M) (e : Nat) : Prop := (M 797 57 = 0 → M' = ab_up M 839 e (M 797 57)) ∧ (M 797 57 = 1 → pS (ab_up M 839 e (M 797 57)) M' e)
def pR (e : Nat) (M M' : ab_M) : Prop := (M 805 e = 9 → pO M M' e) ∧ (M 805 e = 10 → pC M M' e) ∧ (M 805 e ≤ 8 → pT M M' e)
def pa_O (M : ab_M) : Prop := ∀ k : Nat, (k : Int) < M 797 27 → M 805 (M 815 k).toNat = 9
/-- the events stay -/
def ev_E (M M' : ab_M) : Prop := (∀ o k : Nat, 805 ≤ o → o ≤ 812 → M' o k = M o k) ∧ M' 797 10 = M 797 10
theorem ev_dm_fr {M M' : ab_M} (h : ∀ k, M' 805 k = M 805 k) : ∀ i, ev_dm M' i = ev_dm M i
  | 0 => rfl
  | i + 1 => by
    show ev_dm M' i + _ = ev_dm M i + _
    rw [ev_dm_fr h i, h]
theorem ev_tm_fr {M M' : ab_M} (h : ∀ k, M' 805 k = M 805 k) : ∀ i, ev_tm M' i = ev_tm M i
  | 0 => rfl
  | i + 1 => by
    show ev_tm M' i + _ = ev_tm M i + _
    rw [ev_tm_fr h i, h]
theorem ev_E.A {M M' : ab_M} (h : ev_E M M') (hA : ev_A M) : ev_A M' := by
  have e : ∀ o k : Nat, 805 ≤ o → o ≤ 812 → M' o k = M o k := h.1
  obtain ⟨a0, a1, a2, a3⟩ := hA
  have h792 : ∀ k, M' 805 k = M 805 k := fun k => e 805 k (by decide) (by decide)
  refine ⟨by rw [h.2]; exact a0, fun i hi => ?_, fun i hi => ?_, ?_⟩
  · rw [h.2] at hi ⊢
    simp only [h792, e 806 _ (by decide) (by decide), e 812 _ (by decide) (by decide), e 808 _ (by decide) (by decide), e 810 _ (by decide) (by decide)]
    exact a1 i hi
  · rw [h.2] at hi
    rw [ev_dm_fr h792]
    exact a2 i hi
  · rw [h.2, ev_tm_fr h792]; exact a3
theorem ev_E.rf (M : ab_M) : ev_E M M := ⟨fun _ _ _ _ => rfl, rfl⟩
theorem ev_E.tr {A B C : ab_M} (h : ev_E A B) (h' : ev_E B C) : ev_E A C := ⟨fun o k a b => (h'.1 o k a b).trans (h.1 o k a b), h'.2.trans h.2⟩
theorem pT.E {M M' : ab_M} {e : Nat} (h0 : M 797 57 = 0 ∨ M 797 57 = 1) (h : pT M M' e) : ev_E M M' ∧ M' 797 27 = M 797 27 ∧ ∀ k, M' 815 k = M 815 k := by
  rcases h0 with z | z
  · have := h.1 z
    subst this
    exact ⟨⟨fun o k a b => up_ne (fun q => by omega), ab_up_o (by decide) _⟩, ab_up_o (by decide) _, fun k => ab_up_o (by decide) _⟩
  · obtain ⟨S, -, -, -, -, -, -, -, -, -, -, f⟩ := h.2 z
    have g : ∀ o k : Nat, (805 ≤ o ∧ o ≤ 815) ∨ (o = 797 ∧ (k = 10 ∨ k = 27)) → M' o k = M o k := fun o k q => by
      rw [f o k (by omega) (by omega) (by omega) (by omega) (fun w => by have := w.2; omega), up_ne (fun q => by omega)]
    exact ⟨⟨fun o k a b => g o k (Or.inl (by omega)), g _ _ (Or.inr (by omega))⟩, g _ _ (Or.inr (by omega)), fun k => g _ _ (Or.inl (by omega))⟩
theorem pO.E {M M' : ab_M} {e : Nat} (h : pO M M' e) : ev_E M M' := ⟨fun o k a b => h.2.2.2.2 o k (by omega) (by omega) (by omega) (by omega), h.2.2.2.2 797 10 (by omega) (by omega) (by omega) (by omega)⟩
/-- cells that no closing block touches -/
theorem pC.fr {M M' : ab_M} {e : Nat} (hA : (0 ≤ M 806 e ∧ M 806 e ≤ 4)) (hf : ∀ i, M 839 i = 0 ∨ M 839 i = 1) (h25 : ∀ i, M 838 i = 0 ∨ M 838 i = 1) (h57 : M 797 57 = 0 ∨ M 797 57 = 1) (h : pC M M' e) : M' 797 27 = M 797 27 - 1 ∧ ∀ o k : Nat, ¬ (o = 797 ∧ (k = 27 ∨ k = 57 ∨ k = 58)) → ¬ (o = 834 ∧ k < 4) → ¬ (o = 835 ∧ k < 4) → ¬ (o = 837 ∧ (M 806 e = 0 ∨ M 806 e = 3) ∧ 4 * (M 812 e).toNat ≤ k ∧ k < 4 * (M 812 e).toNat + 4) → ¬ (o = 838 ∧ (M 806 e = 0 ∨ M 806 e = 3) ∧ k = (M 812 e).toNat) → M' o k = M o k := by
  obtain ⟨c1, c2, c3⟩ := h
  have hc : (M 806 e = 0 ∨ M 806 e = 3) ∨ M 806 e = 2 ∨ (M 806 e = 1 ∨ M 806 e = 4) := by omega
  rcases hc with z | z | z
  · have h := c1 z
    refine ⟨?_, fun o k q1 q2 q3 q4 q5 => ?_⟩
    · rw [h, if_neg (by omega), ab_up_o (by decide), ab_up_s]
    · rw [h, if_neg (fun w => q4 ⟨w.1, z, w.2⟩), up_ne (fun w => q5 ⟨w.1, z, w.2⟩), up_ne (fun w => q1 ⟨w.1, by omega⟩)]
  · obtain ⟨d1, d2⟩ := c2 z
    rcases hf (M 812 e).toNat with y | y
    · have h := d2 y
      subst h
      refine ⟨by rw [ab_up_k (by decide), ab_up_s], fun o k q1 q2 q3 q4 q5 => ?_⟩
      rw [up_ne (fun w => q1 ⟨w.1, by omega⟩), up_ne (fun w => q1 ⟨w.1, by omega⟩)]
    · have h := d1 y
      refine ⟨?_, fun o k q1 q2 q3 q4 q5 => ?_⟩
      · rw [h, if_neg (by omega), ab_up_k (by decide), ab_up_s]
      · rw [h, if_neg (fun w => q2 w), up_ne (fun w => q1 ⟨w.1, by omega⟩), up_ne (fun w => q1 ⟨w.1, by omega⟩)]
  · have h := c3 z
    have g : ∀ o k : Nat, ab_up M 797 27 (M 797 27 - 1) o k = if o = 797 ∧ k = 27 then M 797 27 - 1 else M o k := fun o k => by
      by_cases w : o = 797 ∧ k = 27
      · rw [w.1, w.2, ab_up_s, if_pos ⟨rfl, rfl⟩]
      · rw [up_ne w, if_neg w]
    obtain ⟨j1, j2, j3⟩ := h
    have h25' := h25 (M 812 e).toNat
    rw [g 838, if_neg (by omega), g 797 57, if_neg (by omega)] at j1 j2
    rw [g 838, if_neg (by omega)] at j3
    have key : M' 797 27 = M 797 27 - 1 ∧ jb_f (ab_up M 797 27 (M 797 27 - 1)) M' := by
      rcases h25' with y | y
      · have := j3 y
        rw [this]
        exact ⟨ab_up_s, fun _ _ _ _ _ => rfl⟩
      · rcases h57 with w | w
        · have hf := (j2 ⟨y, w⟩).2.2.2.2
          exact ⟨by rw [hf 797 27 (by omega) (by omega) (by omega), ab_up_s], hf⟩
        · have hf := (j1 ⟨y, w⟩).2.2.2.2
          exact ⟨by rw [hf 797 27 (by omega) (by omega) (by omega), ab_up_s], hf⟩
    refine ⟨key.1, fun o k q1 q2 q3 _ _ => ?_⟩
    rw [key.2 o k q2 q3 (by omega), g, if_neg (by omega)]
/-- the open blocks after an event -/
theorem pa_S.step {M M' : ab_M} {e : Nat} (hA : ev_A M) (he : (e : Int) < M 797 10) (hS : pa_S M e) (hO : pa_O M) (hR : pR e M M') : ev_E M M' ∧ pa_S M' (e + 1) ∧ pa_O M' := by
  obtain ⟨a0, a1, a2, a3⟩ := id hA
  obtain ⟨b1, b2, b3, b5, b6, b7⟩ := a1 e he
  obtain ⟨⟨s1, s2⟩, s3, s4, s5, s6, s7, s8, s9⟩ := id hS
  obtain ⟨r9, r10, r8⟩ := hR
  have hd0 := a2 e (by omega)
  have hd := a2 (e + 1) (by omega)
  have hdm : ev_dm M (e + 1) = ev_dm M e + (if M 805 e = 9 then 1 else if M 805 e = 10 then -1 else 0) := rfl
  have htm : ev_tm M (e + 1) = ev_tm M e + (if M 805 e = 4 then 1 else 0) := rfl
  have hc : M 805 e ≤ 8 ∨ M 805 e = 9 ∨ M 805 e = 10 := by omega
  rcases hc with z | z | z
  · have hT := r8 z
    obtain ⟨hE, h27, h802⟩ := hT.E s4
    have h792 : ∀ k, M' 805 k = M 805 k := fun k => hE.1 805 k (by decide) (by decide)
    rw [if_neg (by omega), if_neg (by omega)] at hdm
    refine ⟨hE, ?_, fun k hk => by rw [h27] at hk; rw [h802, h792]; exact hO k hk⟩
    rcases s4 with y | y
    · have h := hT.1 y
      have g : ∀ o k : Nat, o ≠ 839 → M' o k = M o k := fun o k q => by rw [h, ab_up_o q]
      refine ⟨⟨by rw [h27, ev_dm_fr h792, s1]; omega, fun k hk => by rw [h27] at hk; rw [h802]; have := s2 k hk; omega⟩, ?_, ?_, fun i => ?_, fun i => ?_, fun v hv => ?_, fun j => ?_, fun j => ?_⟩
      · rw [g _ _ (by decide), ev_tm_fr h792, htm]
        split <;> omega
      · rw [g _ _ (by decide)]; exact Or.inl y
      · rw [g _ _ (by decide)]; exact s5 i
      · rw [h]
        by_cases w : i = e
        · rw [w, ab_up_s]; exact Or.inl y
        · rw [ab_up_k w]; exact s6 i
      · rw [g _ _ (by decide)]; have := s7 v hv; omega
      · rw [g _ _ (by decide), g _ _ (by decide), g _ _ (by decide), g _ _ (by decide)]; exact s8 j
      · rw [g _ _ (by decide)]; exact s9 j
    · obtain ⟨S, p1, p2, p3, q1, q2, q3, q4, q5, q6, q7, q8⟩ := hT.2 y
      have g0 : ∀ o k : Nat, o ≠ 839 → ab_up M 839 e (M 797 57) o k = M o k := fun o k q => ab_up_o q _
      have htt : pS_t (ab_up M 839 e (M 797 57)) e → M 805 e = 4 := fun w => by have := w.1; rw [g0 _ _ (by decide)] at this; exact this
      rw [g0 797 66 (by decide)] at q6 q7
      have hv1 : ∀ v, v < 4 → M' 835 v = M 835 v + (if S v = true then 1 else 0) := fun v hv => by rw [q1 v hv, g0 _ _ (by decide)]
      have hv2 : ∀ v, v < 4 → M' 834 v = if S v = true then M 835 v + 1 else M 834 v := fun v hv => by rw [q2 v hv, g0 _ _ (by decide), g0 _ _ (by decide)]
      have hr : ∀ v, v < 4 → -9 ≤ M' 834 v ∧ M' 834 v ≤ 1000 := fun v hv => by
        rw [hv2 v hv]
        have := s7 v hv
        have := (s8 v).1
        split <;> omega
      refine ⟨⟨by rw [h27, ev_dm_fr h792, s1]; omega, fun k hk => by rw [h27] at hk; rw [h802]; have := s2 k hk; omega⟩, ?_, ?_, fun i => ?_, fun i => ?_, fun v hv => ?_, fun j => ⟨?_, ?_, ?_, ?_⟩, fun j => ?_⟩
      · rw [ev_tm_fr h792, htm]
        by_cases w : pS_t (ab_up M 839 e (M 797 57)) e
        · rw [(q6 w).1, if_pos (htt w)]; omega
        · rw [q7 w]; split <;> omega
      · rw [q5]
        split
        · exact Or.inl rfl
        · rw [g0 _ _ (by decide)]; exact Or.inr y
      · rw [q8 838 i (by omega) (by omega) (by omega) (by omega) (fun w => by omega), g0 _ _ (by decide)]; exact s5 i
      · rw [q8 839 i (by omega) (by omega) (by omega) (by omega) (fun w => by omega)]
        by_cases w : i = e
        · rw [w, ab_up_s]; exact Or.inr y
        · rw [ab_up_k w]; exact s6 i
      · rw [hv1 v hv]
        have := s7 v hv
        split <;> omega
      · by_cases w : j < 4
        · exact hr j w
        · rw [q8 834 j (by omega) (by omega) (by omega) (by omega) (fun w => by omega), g0 _ _ (by decide)]; exact (s8 j).1
      · by_cases w : 4 * e ≤ j ∧ j < 4 * e + 4
        · have := q3 (j - 4 * e) (by omega)
          rw [show 4 * e + (j - 4 * e) = j by omega] at this
          rw [this]
          exact hr _ (by omega)
        · rw [q8 836 j (by omega) (by omega) (by omega) (by omega) (fun w => by omega), g0 _ _ (by decide)]; exact (s8 j).2.1
      · rw [q8 837 j (by omega) (by omega) (by omega) (by omega) (fun w => by omega), g0 _ _ (by decide)]; exact (s8 j).2.2.1
      · by_cases w : pS_t (ab_up M 839 e (M 797 57)) e ∧ 4 * (M 797 66).toNat ≤ j ∧ j < 4 * (M 797 66).toNat + 4
        · have := (q6 w.1).2.2 (j - 4 * (M 797 66).toNat) (by omega)
          rw [show 4 * (M 797 66).toNat + (j - 4 * (M 797 66).toNat) = j by omega, g0 _ _ (by decide)] at this
          rw [this]
          exact (s8 _).1
        · rw [q8 840 j (by omega) (by omega) (by omega) (by omega) (fun x => by rw [g0 797 66 (by decide)] at x; exact w ⟨x.1, by omega⟩), g0 _ _ (by decide)]; exact (s8 j).2.2.2
      · by_cases w : pS_t (ab_up M 839 e (M 797 57)) e ∧ j = (M 797 66).toNat
        · rw [w.2, (q6 w.1).2.1]
          have h1 : -9 ≤ tr_a (ab_up M 839 e (M 797 57)) (ab_up M 839 e (M 797 57) 797 27).toNat ∧ tr_a (ab_up M 839 e (M 797 57)) (ab_up M 839 e (M 797 57) 797 27).toNat < 400 := tr_a_in _ fun k hk _ => by
            rw [g0 797 27 (by decide)] at hk
            rw [g0 815 _ (by decide), g0 812 _ (by decide)]
            have h1 := s2 k (by omega)
            have h2 := hO k (by omega)
            have := (a1 (M 815 k).toNat (by omega)).2.2.2.1 (by omega)
            omega
          exact ⟨by omega, by omega⟩
        · rw [q8 841 j (by omega) (by omega) (by omega) (by omega) (fun x => by rw [g0 797 66 (by decide)] at x; exact w ⟨x.1, by omega⟩), g0 _ _ (by decide)]; exact s9 j
  · have hP := r9 z
    have hE := hP.E
    have h792 : ∀ k, M' 805 k = M 805 k := fun k => hE.1 805 k (by decide) (by decide)
    obtain ⟨⟨p1, p2⟩, p3, p4, p5, p6⟩ := hP
    rw [if_pos z] at hdm
    have hjr := jv_hd_r fun j => (s8 j).2.2.2
    -- the values after it
    have hvals : (∀ v, v < 4 → 0 ≤ M' 835 v ∧ M' 835 v ≤ (e : Int) + 1) ∧ (∀ v, v < 4 → -9 ≤ M' 834 v ∧ M' 834 v ≤ 1000) ∧ (M' 797 57 = 0 ∨ M' 797 57 = 1) := by
      by_cases w1 : M 806 e = 1 ∧ M 839 (M 812 e).toNat = 1
      · obtain ⟨y1, y2, y3, y4⟩ := p3 w1
        refine ⟨fun v hv => ?_, fun v hv => ?_, Or.inr y3⟩
        · rw [y2 v hv]; have := s7 v hv; omega
        · rw [y1 v hv]; exact (s8 _).2.1
      · by_cases w4 : M 806 e = 4
        · obtain ⟨y1, y2⟩ := p4 w4
          by_cases wn : pO_L M (M 812 e) 0 = []
          · obtain ⟨x1, x2, x3, x4⟩ := y1 wn
            refine ⟨fun v hv => ?_, fun v hv => ?_, Or.inl x3⟩
            · rw [x2 v hv]; have := s7 v hv; omega
            · rw [x1 v hv]; exact (s8 _).1
          · obtain ⟨x1, x2, x3, x4⟩ := y2 wn
            refine ⟨fun v hv => ?_, fun v hv => ?_, Or.inr x3⟩
            · rw [x1 v hv]; have := s7 v hv; split <;> omega
            · rw [x2 v hv]
              have := s7 v hv
              have := hjr (M 812 e) ((v : Nat) : Int) (M 797 66).toNat
              split <;> omega
        · obtain ⟨y1, y2, y3, y4⟩ := p5 ⟨w1, w4⟩
          refine ⟨fun v hv => ?_, fun v hv => ?_, by rw [y3]; exact s4⟩
          · rw [y2 v hv]; have := s7 v hv; omega
          · rw [y1 v hv]; exact (s8 _).1
    obtain ⟨v1, v2, v3⟩ := hvals
    have h802 : ∀ k : Nat, (k : Int) < M' 797 27 → (k : Int) < M 797 27 ∧ M' 815 k = M 815 k ∨ M' 815 k = (e : Int) := fun k hk => by
      by_cases w : k = (M 797 27).toNat
      · exact Or.inr (by rw [w]; exact p2)
      · exact Or.inl ⟨by omega, p6 815 k (by omega) (by omega) (by omega) (by omega)⟩
    refine ⟨hE, ⟨⟨by rw [p1, ev_dm_fr h792, s1]; omega, fun k hk => ?_⟩, ?_, v3, fun i => ?_, fun i => ?_, fun v hv => by have := v1 v hv; omega, fun j => ⟨?_, ?_, ?_, ?_⟩, fun j => ?_⟩, fun k hk => ?_⟩
    · rcases h802 k hk with w | w
      · rw [w.2]; have := s2 k w.1; omega
      · rw [w]; omega
    · rw [p6 797 66 (by omega) (by omega) (by omega) (by omega), ev_tm_fr h792, htm]
      split <;> omega
    · rw [p6 838 i (by omega) (by omega) (by omega) (by omega)]; exact s5 i
    · rw [p6 839 i (by omega) (by omega) (by omega) (by omega)]; exact s6 i
    · by_cases w : j < 4
      · exact v2 j w
      · rw [p6 834 j (by omega) (by omega) (by omega) (by omega)]; exact (s8 j).1
    · rw [p6 836 j (by omega) (by omega) (by omega) (by omega)]; exact (s8 j).2.1
    · rw [p6 837 j (by omega) (by omega) (by omega) (by omega)]; exact (s8 j).2.2.1
    · rw [p6 840 j (by omega) (by omega) (by omega) (by omega)]; exact (s8 j).2.2.2
    · rw [p6 841 j (by omega) (by omega) (by omega) (by omega)]; exact s9 j
    · rw [h792]
      rcases h802 k hk with w | w
      · rw [w.2]; exact hO k w.1
      · rw [w]; exact z
  · have hP := r10 z
    obtain ⟨p1, p2⟩ := hP.fr b2 s6 s5 s4
    have hE : ev_E M M' := ⟨fun o k a b => p2 o k (by omega) (by omega) (by omega) (by omega) (by omega), p2 797 10 (by omega) (by omega) (by omega) (by omega) (by omega)⟩
    have h792 : ∀ k, M' 805 k = M 805 k := fun k => hE.1 805 k (by decide) (by decide)
    rw [if_neg (by omega), if_pos z] at hdm
    obtain ⟨c1, c2, c3⟩ := hP
    have g : ∀ o k : Nat, ab_up M 797 27 (M 797 27 - 1) o k = if o = 797 ∧ k = 27 then M 797 27 - 1 else M o k := fun o k => by
      by_cases w : o = 797 ∧ k = 27
      · rw [w.1, w.2, ab_up_s, if_pos ⟨rfl, rfl⟩]
      · rw [up_ne w, if_neg w]
    have hvals : (∀ v, v < 4 → 0 ≤ M' 835 v ∧ M' 835 v ≤ (e : Int) + 1) ∧ (∀ v, v < 4 → -9 ≤ M' 834 v ∧ M' 834 v ≤ 1000) ∧ (M' 797 57 = 0 ∨ M' 797 57 = 1) := by
      have hc : (M 806 e = 0 ∨ M 806 e = 3) ∨ M 806 e = 2 ∨ (M 806 e = 1 ∨ M 806 e = 4) := by omega
      rcases hc with y | y | y
      · have h := c1 y
        refine ⟨fun v hv => ?_, fun v hv => ?_, ?_⟩
        · rw [h, if_neg (by omega), ab_up_o (by decide), ab_up_o (by decide)]; have := s7 v hv; omega
        · rw [h, if_neg (by omega), ab_up_o (by decide), ab_up_o (by decide)]; exact (s8 v).1
        · rw [h, if_neg (by omega), ab_up_o (by decide), ab_up_k (by decide)]; exact s4
      · obtain ⟨d1, d2⟩ := c2 y
        rcases s6 (M 812 e).toNat with w | w
        · have h := d2 w
          subst h
          refine ⟨fun v hv => ?_, fun v hv => ?_, Or.inl ab_up_s⟩
          · rw [ab_up_o (by decide), ab_up_o (by decide)]; have := s7 v hv; omega
          · rw [ab_up_o (by decide), ab_up_o (by decide)]; exact (s8 v).1
        · have h := d1 w
          refine ⟨fun v hv => ?_, fun v hv => ?_, Or.inr ?_⟩
          · rw [h, if_neg (by omega), ab_up_o (by decide), ab_up_o (by decide)]; have := s7 v hv; omega
          · rw [h, if_pos ⟨rfl, hv⟩]; exact (s8 _).2.1
          · rw [h, if_neg (by omega), ab_up_s]
      · obtain ⟨j1, j2, j3⟩ := c3 y
        rw [g 838, if_neg (by omega), g 797 57, if_neg (by omega)] at j1 j2
        rw [g 838, if_neg (by omega)] at j3
        rcases s5 (M 812 e).toNat with w | w
        · have h := j3 w
          subst h
          refine ⟨fun v hv => ?_, fun v hv => ?_, ?_⟩
          · rw [ab_up_o (by decide)]; have := s7 v hv; omega
          · rw [ab_up_o (by decide)]; exact (s8 v).1
          · rw [ab_up_k (by decide)]; exact s4
        · rcases s4 with x | x
          · obtain ⟨k1, k2, k3, k4, k5⟩ := j2 ⟨w, x⟩
            refine ⟨fun v hv => ?_, fun v hv => ?_, Or.inr k4⟩
            · rw [k2 v hv, g, if_neg (by omega)]; have := s7 v hv; omega
            · rw [k1 v hv, g, if_neg (by omega)]; exact (s8 _).2.2.1
          · obtain ⟨k1, k2, k3, k4, k5⟩ := j1 ⟨w, x⟩
            have e22 : ab_up M 797 27 (M 797 27 - 1) 835 = M 835 := funext fun v => ab_up_o (by decide) v
            have e21 : ab_up M 797 27 (M 797 27 - 1) 834 = M 834 := funext fun v => ab_up_o (by decide) v
            rw [e22, e21] at k1 k2
            refine ⟨fun v hv => ?_, fun v hv => ?_, ?_⟩
            · rw [k1 v hv]
              have := s7 v hv
              show 0 ≤ M 835 v + (if _ then 1 else 0) ∧ M 835 v + (if _ then 1 else 0) ≤ _
              split <;> omega
            · have hor : (rn_k (M 835, 0, 0) (M 834) (jb_S (ab_up M 797 27 (M 797 27 - 1)) (M 812 e).toNat) 4).2 v = M 835 v + 1 ∨ (rn_k (M 835, 0, 0) (M 834) (jb_S (ab_up M 797 27 (M 797 27 - 1)) (M 812 e).toNat) 4).2 v = M 834 v := by
                unfold rn_k ps_rn
                dsimp only
                split
                · exact Or.inl rfl
                · exact Or.inr rfl
              have := s7 v hv
              have := (s8 v).1
              rcases hor with y | y
              · rw [k2 v hv, y]; omega
              · rw [k2 v hv, y]; omega
            · rw [k4, g, if_neg (by omega)]; exact Or.inr x
    obtain ⟨v1, v2, v3⟩ := hvals
    refine ⟨hE, ⟨⟨by rw [p1, ev_dm_fr h792, s1]; omega, fun k hk => ?_⟩, ?_, v3, fun i => ?_, fun i => ?_, fun v hv => by have := v1 v hv; omega, fun j => ⟨?_, ?_, ?_, ?_⟩, fun j => ?_⟩, fun k hk => ?_⟩
    · rw [p2 815 k (by omega) (by omega) (by omega) (by omega) (by omega)]
      have := s2 k (by omega)
      omega
    · rw [p2 797 66 (by omega) (by omega) (by omega) (by omega) (by omega), ev_tm_fr h792, htm]
      split <;> omega
    · by_cases w : (M 806 e = 0 ∨ M 806 e = 3) ∧ i = (M 812 e).toNat
      · rw [c1 w.1, if_neg (by omega), w.2, ab_up_s]; exact s4
      · rw [p2 838 i (by omega) (by omega) (by omega) (by omega) (fun x => w x.2)]; exact s5 i
    · rw [p2 839 i (by omega) (by omega) (by omega) (by omega) (by omega)]; exact s6 i
    · by_cases w : j < 4
      · exact v2 j w
      · rw [p2 834 j (by omega) (by omega) (by omega) (by omega) (by omega)]; exact (s8 j).1
    · rw [p2 836 j (by omega) (by omega) (by omega) (by omega) (by omega)]; exact (s8 j).2.1
    · by_cases w : (M 806 e = 0 ∨ M 806 e = 3) ∧ 4 * (M 812 e).toNat ≤ j ∧ j < 4 * (M 812 e).toNat + 4
      · rw [c1 w.1, if_pos ⟨rfl, w.2⟩]; exact (s8 _).1
      · rw [p2 837 j (by omega) (by omega) (by omega) (fun x => w x.2) (by omega)]; exact (s8 j).2.2.1
    · rw [p2 840 j (by omega) (by omega) (by omega) (by omega) (by omega)]; exact (s8 j).2.2.2
    · rw [p2 841 j (by omega) (by omega) (by omega) (by omega) (by omega)]; exact s9 j
    · rw [h792, p2 815 k (by omega) (by omega) (by omega) (by omega) (by omega)]
      exact hO k (by omega)

