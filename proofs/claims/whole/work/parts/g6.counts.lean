/-! where the code of a loop's block lies (loops cut) -/
theorem em_b_k {M : ab_M} {e : Nat} {o k : Nat} (h1 : ¬ (o = 797 ∧ k = 27)) (h2 : ¬ (o = 824 ∧ (M 812 e).toNat = k)) : em_b M e o k = M o k := by
  unfold em_b
  rw [up_ne (fun y => h2 ⟨y.1, y.2.symm⟩), up_ne h1]
theorem em_e.fr {M M' : ab_M} {e : Nat} {W1 W2 : Nat → List Int} (h : em_e M M' e 1 W1 W2) (h0 : 0 ≤ M 805 e ∧ M 805 e ≤ 10) (hw : M 805 e = 10 → 0 ≤ M 806 e ∧ M 806 e ≤ 4) : (∀ k : Nat, k ≠ e → M' 823 k = M 823 k) ∧ (∀ k : Nat, ¬ (M 805 e = 10 ∧ (M 812 e).toNat = k) → M' 824 k = M 824 k) := by
  obtain ⟨s0, s1, s2, s3, s4, s5, s6, s7, s8, s9, s10⟩ := h
  have fP : ∀ {A B : ab_M} {op q nn : Int} {w : List Int}, em_P A B op q nn w → ∀ o k : Nat, o = 823 ∨ o = 824 → B o k = A o k := fun hP o k ho => hP.F.1 o k (by omega) (by omega)
  have hc : M 805 e = 0 ∨ M 805 e = 1 ∨ M 805 e = 2 ∨ M 805 e = 3 ∨ M 805 e = 4 ∨ M 805 e = 5 ∨ M 805 e = 6 ∨ M 805 e = 7 ∨ M 805 e = 8 ∨ M 805 e = 9 ∨ M 805 e = 10 := by omega
  rcases hc with z | z | z | z | z | z | z | z | z | z | z
  · have := s0 z; exact ⟨fun k _ => fP this _ k (.inl rfl), fun k _ => fP this _ k (.inr rfl)⟩
  · have := s1 z; exact ⟨fun k _ => fP this _ k (.inl rfl), fun k _ => fP this _ k (.inr rfl)⟩
  · have := s2 z; exact ⟨fun k _ => fP this _ k (.inl rfl), fun k _ => fP this _ k (.inr rfl)⟩
  · have := s3 z; exact ⟨fun k _ => fP this _ k (.inl rfl), fun k _ => fP this _ k (.inr rfl)⟩
  · obtain ⟨M1, a1, a2⟩ := s4 z
    rw [a2]
    exact ⟨fun k _ => by rw [up_ne (by omega), up_ne (by omega)]; exact fP a1 _ k (.inl rfl), fun k _ => by rw [up_ne (by omega), up_ne (by omega)]; exact fP a1 _ k (.inr rfl)⟩
  · have := (s5 z).F.1
    exact ⟨fun k _ => this _ k (by omega) (by omega), fun k _ => this _ k (by omega) (by omega)⟩
  · have := s6 z
    exact ⟨fun k hk => (fP this _ k (.inl rfl)).trans (up_ne (by omega)), fun k _ => (fP this _ k (.inr rfl)).trans (up_ne (by omega))⟩
  · obtain ⟨a, M1, -, a1, a2⟩ := (s7 z).1 rfl
    exact ⟨fun k hk => ((fP a2 _ k (.inl rfl)).trans (up_ne (by omega))).trans (a1.F.1 _ k (by omega) (by omega)), fun k _ => ((fP a2 _ k (.inr rfl)).trans (up_ne (by omega))).trans (a1.F.1 _ k (by omega) (by omega))⟩
  · rw [s8 z]; exact ⟨fun _ _ => rfl, fun _ _ => rfl⟩
  · rw [s9 z]; exact ⟨fun k _ => by rw [up_ne (by omega), up_ne (by omega)], fun k _ => by rw [up_ne (by omega), up_ne (by omega)]⟩
  · have hw := hw z
    obtain ⟨c0, c3, c2, c1⟩ := s10 z
    have hwc : M 806 e = 0 ∨ M 806 e = 3 ∨ M 806 e = 2 ∨ (M 806 e = 1 ∨ M 806 e = 4) := by omega
    rcases hwc with y | y | y | y
    · obtain ⟨M2, a1, a2⟩ := c0 y
      rw [a2]
      exact ⟨fun k _ => by rw [up_ne (by omega), fP a1 _ k (.inl rfl), em_b_k (by omega) (by omega)], fun k hk => by rw [up_ne (by omega), fP a1 _ k (.inr rfl), em_b_k (by omega) (fun w => hk ⟨z, w.2⟩)]⟩
    · obtain ⟨M2, a1, a2⟩ := c3 y
      exact ⟨fun k _ => by rw [a2, if_neg (by omega), fP a1 _ k (.inl rfl), em_b_k (by omega) (by omega)], fun k hk => by rw [a2, if_neg (by omega), fP a1 _ k (.inr rfl), em_b_k (by omega) (fun w => hk ⟨z, w.2⟩)]⟩
    · obtain ⟨M2, a1, a2⟩ := (c2 y).1 rfl
      rw [a2]
      exact ⟨fun k _ => by rw [up_ne (by omega), a1.F.1 _ k (by omega) (by omega), em_b_k (by omega) (by omega)], fun k hk => by rw [up_ne (by omega), a1.F.1 _ k (by omega) (by omega), em_b_k (by omega) (fun w => hk ⟨z, w.2⟩)]⟩
    · rw [c1 y]
      exact ⟨fun k _ => by rw [up_ne (by omega), up_ne (by omega)], fun k _ => by rw [up_ne (by omega), up_ne (by omega)]⟩
/-- rows of an event -/
theorem em_e.ct {M M' : ab_M} {e : Nat} {W1 W2 : Nat → List Int} (h : em_e M M' e 1 W1 W2) : (M 805 e = 5 → M' 797 33 = M 797 33 + 3) ∧ (M 805 e = 0 ∨ M 805 e = 1 ∨ M 805 e = 2 ∨ M 805 e = 3 ∨ M 805 e = 4 ∨ M 805 e = 6 → M' 797 33 = M 797 33 + 1) ∧ (M 805 e = 8 ∨ M 805 e = 9 → M' 797 33 = M 797 33) ∧
    (M 805 e = 7 → ∃ a, pa_any M e a ∧ M' 797 33 = M 797 33 + (((em_h a 4).length : Nat) : Int) + 3 ∧ M' 823 e = M 797 33 + (((em_h a 4).length : Nat) : Int) + 2) ∧
    (M 805 e = 10 → (M 806 e = 0 ∨ M 806 e = 3 → M' 797 33 = M 797 33 + 1) ∧ (M 806 e = 2 → M' 797 33 = M 797 33 + 2 ∧ M' 824 (M 812 e).toNat = M 797 33) ∧ (M 806 e = 1 ∨ M 806 e = 4 → M' 797 33 = M 797 33)) := by
  obtain ⟨s0, s1, s2, s3, s4, s5, s6, s7, s8, s9, s10⟩ := h
  refine ⟨fun z => ?_, fun z => ?_, fun z => ?_, fun z => ?_, fun z => ⟨fun y => ?_, fun y => ?_, fun y => ?_⟩⟩
  · exact (s5 z).F.2
  · rcases z with z | z | z | z | z | z
    · exact (s0 z).2
    · exact (s1 z).2
    · exact (s2 z).2
    · exact (s3 z).2
    · obtain ⟨M1, a1, a2⟩ := s4 z
      rw [a2, up_ne (by omega), up_ne (by omega)]
      exact a1.2
    · rw [(s6 z).2, up_ne (by omega)]
  · rcases z with z | z
    · rw [s8 z]
    · rw [s9 z, up_ne (by omega), up_ne (by omega)]
  · obtain ⟨a, M1, a0, a1, a2⟩ := (s7 z).1 rfl
    have e1 := a1.F.2
    have e2 := a2.2
    rw [up_ne (by omega), e1] at e2
    have hl : ((((2, M 811 e, M 810 e, W2 e) :: em_h a 4) ++ [((3 : Int), (0 : Int), M 810 e, W2 e)]).length) = (em_h a 4).length + 2 := by
      rw [List.length_append, List.length_cons]; rfl
    rw [hl] at e2 e1
    refine ⟨a, a0, by omega, ?_⟩
    rw [a2.F.1 823 e (by omega) (by omega), ab_up_s, e1]
    omega
  · obtain ⟨c0, c3, c2, c1⟩ := s10 z
    rcases y with y | y
    · obtain ⟨M2, a1, a2⟩ := c0 y
      rw [a2, up_ne (by omega), a1.2, em_b_k (by omega) (by omega)]
    · obtain ⟨M2, a1, a2⟩ := c3 y
      rw [a2, if_neg (by omega), a1.2, em_b_k (by omega) (by omega)]
  · obtain ⟨c0, c3, c2, c1⟩ := s10 z
    obtain ⟨M2, a1, a2⟩ := (c2 y).1 rfl
    rw [a2, up_ne (by omega), up_ne (by omega), a1.F.2, em_b_k (by omega) (by omega), a1.F.1 824 _ (by omega) (by omega)]
    refine ⟨rfl, ?_⟩
    unfold em_b
    rw [ab_up_s]
  · obtain ⟨c0, c3, c2, c1⟩ := s10 z
    rw [c1 y, up_ne (by omega), up_ne (by omega)]
/-- rows of a tree -/
def cn_P (P : pz_P) (w na nb : Nat) : Nat := if P.1 = 5 then 3 else if P.1 = 6 then 1 + na + 1 + nb else if P.1 = 7 then w + 3 + na + 2 else if P.1 = 8 then na + 1 + nb else 1
def cn_t : pz_T → Nat
  | .leaf => 0
  | .inner _ P _ t (.inner _ _ _ a b) => cn_t t + cn_P P (em_h (pz_mk (pz_md a)) 4).length (cn_t a) (cn_t b)
  | .inner _ _ _ _ .leaf => 0
theorem cn_nd (s : Nat) (P : pz_P) (v : Unit) (t : pz_T) (s' : Nat) (P' : pz_P) (v' : Unit) (a b : pz_T) : cn_t (.inner s P v t (.inner s' P' v' a b)) = cn_t t + cn_P P (em_h (pz_mk (pz_md a)) 4).length (cn_t a) (cn_t b) := rfl
theorem co_nd (md : Int) (s : Nat) (P : pz_P) (v : Unit) (t : pz_T) (s' : Nat) (P' : pz_P) (v' : Unit) (a b : pz_T) (r c : Nat) : co_t md (.inner s P v t (.inner s' P' v' a b)) r c = co_t md t r c ++ co_P md P (pz_mk (pz_md a)) (fun r' => co_t md a r' (c + pz_kn t + (pz_kd (P.1, 0, 0, 0, 0, 0, 0, 0)).length)) (fun r' => co_t md b r' (c + pz_kn t + (pz_kd (P.1, 0, 0, 0, 0, 0, 0, 0)).length + pz_kn a)) (r + (co_t md t r c).length) (c + pz_kn t) := rfl
theorem cn_PL {P : pz_P} (hP : pz_wfP P) {mk : Int} {A B : Nat → List co_I} {na nb : Nat} (hA : ∀ r, (A r).length = na) (hB : ∀ r, (B r).length = nb) (r c : Nat) : (co_P 1 P mk A B r c).length = cn_P P (em_h mk 4).length na nb := by
  have h0 := hP.1
  have hc : P.1 = 0 ∨ P.1 = 1 ∨ P.1 = 2 ∨ P.1 = 3 ∨ P.1 = 4 ∨ P.1 = 5 ∨ P.1 = 6 ∨ P.1 = 7 ∨ P.1 = 8 := by omega
  unfold co_P cn_P
  rcases hc with z | z | z | z | z | z | z | z | z
  · rw [z]; rfl
  · rw [z]; rfl
  · rw [z]; rfl
  · rw [z]; rfl
  · rw [z]; rfl
  · rw [z]; rfl
  · rw [if_neg (by omega), if_neg (by omega), if_neg (by omega), if_neg (by omega), if_neg (by omega), if_neg (by omega), if_pos z, if_neg (by omega), if_pos z, List.length_cons, List.length_append, List.length_cons, hA, hB]; omega
  · rw [if_neg (by omega), if_neg (by omega), if_neg (by omega), if_neg (by omega), if_neg (by omega), if_neg (by omega), if_neg (by omega), if_pos z, if_pos rfl, if_neg (by omega), if_neg (by omega), if_pos z, List.length_append, List.length_cons, List.length_append, hA, co_w_l]
    simp only [List.length_cons, List.length_nil]
    omega
  · rw [if_neg (by omega), if_neg (by omega), if_neg (by omega), if_neg (by omega), if_neg (by omega), if_neg (by omega), if_neg (by omega), if_neg (by omega), if_neg (by omega), if_neg (by omega), if_neg (by omega), if_pos z, List.length_append, co_pa_len, List.length_cons, hA, hB]; omega
theorem cn_len : ∀ (t : pz_T), pz_wf t → ∀ (r c : Nat), (co_t 1 t r c).length = cn_t t := by
  intro t
  induction t using pz_ind with
  | h0 => intro _ r c; rfl
  | h2 s P v t => intro h; exact h.elim
  | h1 s P v t s' P' v' a b iht iha ihb =>
    intro hw r c
    obtain ⟨w1, w2, w3, w4, w5, w6⟩ := hw
    rw [co_nd, List.length_append, iht w1, cn_nd, cn_PL w4 (fun r' => iha w2 r' _) (fun r' => ihb w3 r' _)]
/-- rows of a node's pieces, in a chain -/
theorem ch_nd {N : ab_M} {m : Nat → ab_M} {W1 W2 : Nat → List Int} {P : pz_P} {a b : pz_T} {e1 q c : Nat} {top : Int} (hwP : pz_wfP P) (hwa : pz_wf a) (hta : pz_tb top a) (hnd : ev_nd N P a b e1 q c) (hch : co_ch m e1 (e1 + pq_len P a b) 1 W1 W2) (hE : ∀ i, e1 ≤ i → i ≤ e1 + pq_len P a b → ∀ o k, 805 ≤ o → o ≤ 812 → m i o k = N o k) :
    (P.1 < 6 → m (e1 + 1) 797 33 = m e1 797 33 + ((cn_P P (em_h (pz_mk (pz_md a)) 4).length (cn_t a) (cn_t b) : Nat) : Int) ∧ (∀ k : Nat, k ≠ e1 → m (e1 + 1) 823 k = m e1 823 k) ∧ ∀ k : Nat, m (e1 + 1) 824 k = m e1 824 k) ∧
    (6 ≤ P.1 → (m (e1 + 2) 797 33 = m e1 797 33 + ((if P.1 = 6 then 1 else if P.1 = 7 then (em_h (pz_mk (pz_md a)) 4).length + 3 else 0 : Nat) : Int) ∧ (P.1 = 7 → m (e1 + 2) 823 e1 = m e1 797 33 + (((em_h (pz_mk (pz_md a)) 4).length + 2 : Nat) : Int)) ∧ (∀ k : Nat, k ≠ e1 → k ≠ e1 + 1 → m (e1 + 2) 823 k = m e1 823 k) ∧ ∀ k : Nat, m (e1 + 2) 824 k = m e1 824 k) ∧
      (m (e1 + 2 + pz_ne a + 1) 797 33 = m (e1 + 2 + pz_ne a) 797 33 + ((if P.1 = 7 then 2 else 1 : Nat) : Int) ∧ (P.1 = 7 → m (e1 + 2 + pz_ne a + 1) 824 e1 = m (e1 + 2 + pz_ne a) 797 33) ∧ (∀ k : Nat, k ≠ e1 + 2 + pz_ne a → m (e1 + 2 + pz_ne a + 1) 823 k = m (e1 + 2 + pz_ne a) 823 k) ∧ ∀ k : Nat, k ≠ e1 → m (e1 + 2 + pz_ne a + 1) 824 k = m (e1 + 2 + pz_ne a) 824 k) ∧
      (P.1 ≠ 7 → (m (e1 + 2 + pz_ne a + 2) 797 33 = m (e1 + 2 + pz_ne a + 1) 797 33 ∧ (∀ k : Nat, k ≠ e1 + 2 + pz_ne a + 1 → m (e1 + 2 + pz_ne a + 2) 823 k = m (e1 + 2 + pz_ne a + 1) 823 k) ∧ ∀ k : Nat, m (e1 + 2 + pz_ne a + 2) 824 k = m (e1 + 2 + pz_ne a + 1) 824 k) ∧
        (m (e1 + 2 + pz_ne a + 2 + pz_ne b + 1) 797 33 = m (e1 + 2 + pz_ne a + 2 + pz_ne b) 797 33 ∧ (∀ k : Nat, k ≠ e1 + 2 + pz_ne a + 2 + pz_ne b → m (e1 + 2 + pz_ne a + 2 + pz_ne b + 1) 823 k = m (e1 + 2 + pz_ne a + 2 + pz_ne b) 823 k) ∧ ∀ k : Nat, k ≠ e1 → m (e1 + 2 + pz_ne a + 2 + pz_ne b + 1) 824 k = m (e1 + 2 + pz_ne a + 2 + pz_ne b) 824 k))) := by
  have hp1 := hwP.1
  have hl1 : 1 ≤ pq_len P a b := by unfold pq_len; omega
  obtain ⟨p792, -⟩ := pz_ev_s (by omega) hnd.1
  have e792 := (hE e1 (Nat.le_refl _) (by omega) 805 e1 (by decide) (by decide)).trans p792
  have hc1 := hch e1 (Nat.le_refl _) (by omega)
  obtain ⟨f1, f2⟩ := hc1.fr (by omega) (fun z => by omega)
  have f2' : ∀ k : Nat, m (e1 + 1) 824 k = m e1 824 k := fun k => f2 k (by omega)
  obtain ⟨t5, t1, t8, t7, -⟩ := hc1.ct
  refine ⟨fun h6 => ⟨?_, f1, f2'⟩, fun h6 => ?_⟩
  · unfold cn_P
    by_cases z : P.1 = 5
    · rw [if_pos z]; exact t5 (by omega)
    · rw [if_neg z, if_neg (by omega), if_neg (by omega), if_neg (by omega)]; exact t1 (by omega)
  · obtain ⟨g1, -, g3, g4⟩ := hnd.2 h6
    obtain ⟨o1, o2, o3⟩ := pz_ev_o g1
    obtain ⟨l1, l2, l3⟩ := pz_ev_c g3
    have hlen : pq_len P a b = 1 + (2 + (pz_ne a + (if P.1 = 7 then 0 else 2 + pz_ne b))) := by unfold pq_len; rw [if_pos h6]
    have hbd : e1 + 2 + pz_ne a + 1 ≤ e1 + pq_len P a b := by rw [hlen]; omega
    have E1 := fun (o k : Nat) (x : 805 ≤ o) (y : o ≤ 812) => hE (e1 + 1) (by omega) (by omega) o k x y
    have E2 := fun (o k : Nat) (x : 805 ≤ o) (y : o ≤ 812) => hE (e1 + 2 + pz_ne a) (by omega) (by omega) o k x y
    have q1 := (E1 805 (e1 + 1) (by decide) (by decide)).trans o1
    have c2 := hch (e1 + 1) (by omega) (by omega)
    obtain ⟨f3, f4⟩ := c2.fr (by omega) (fun z => by omega)
    have ct2 := c2.ct.2.2.1 (.inr q1)
    have q2 := (E2 805 (e1 + 2 + pz_ne a) (by decide) (by decide)).trans l1
    have q3 := (E2 806 (e1 + 2 + pz_ne a) (by decide) (by decide)).trans l2
    have q4 := (E2 812 (e1 + 2 + pz_ne a) (by decide) (by decide)).trans l3
    have hw1 : 0 ≤ pz_w1 P.1 ∧ pz_w1 P.1 ≤ 4 := by unfold pz_w1; split <;> first | (exact ⟨by decide, by decide⟩) | (split <;> exact ⟨by decide, by decide⟩)
    have c3 := hch (e1 + 2 + pz_ne a) (by omega) (by omega)
    obtain ⟨f5, f6⟩ := c3.fr (by omega) (fun z => by omega)
    obtain ⟨ct30, ct32, -⟩ := c3.ct.2.2.2.2 q2
    have hmd : P.1 = 7 → ∀ x, pa_any (m e1) e1 x → x = pz_mk (pz_md a) := fun h7 x hx => by
      refine pq_md hwa hta hnd h7 x ?_
      obtain ⟨n, n1, n2, n3, n4⟩ := hx
      have E0 := fun (o k : Nat) (x : 805 ≤ o) (y : o ≤ 812) => hE e1 (Nat.le_refl _) (by omega) o k x y
      refine ⟨n, ?_, n2, ?_, fun j hj => ?_⟩
      · rw [n1]; exact an_s_fr (fun k => E0 805 k (by decide) (by decide)) (fun k => E0 806 k (by decide) (by decide)) _ _
      · rw [← E0 805 _ (by decide) (by decide), ← E0 812 _ (by decide) (by decide)]; exact n3
      · rw [← E0 805 _ (by decide) (by decide), ← E0 812 _ (by decide) (by decide)]; exact n4 j hj
    refine ⟨⟨?_, fun h7 => ?_, fun k k1 k2 => (f3 k k2).trans (f1 k k1), fun k => (f4 k (by omega)).trans (f2' k)⟩, ⟨?_, fun h7 => ?_, f5, fun k hk => f6 k (by omega)⟩, fun h7 => ?_⟩
    · rw [show e1 + 2 = e1 + 1 + 1 by omega, ct2]
      by_cases z6 : P.1 = 6
      · rw [if_pos z6]; exact t1 (by omega)
      · rw [if_neg z6]
        by_cases z7 : P.1 = 7
        · rw [if_pos z7]
          obtain ⟨x, x1, x2, -⟩ := t7 (by omega)
          rw [hmd z7 x x1] at x2
          omega
        · rw [if_neg z7]
          have := t8 (by omega)
          omega
    · rw [show e1 + 2 = e1 + 1 + 1 by omega, f3 e1 (by omega)]
      obtain ⟨x, x1, -, x2⟩ := t7 (by omega)
      rw [hmd h7 x x1] at x2
      omega
    · by_cases z7 : P.1 = 7
      · rw [if_pos z7]
        exact (ct32 (by rw [q3]; exact pz_w1_2.2 z7)).1
      · rw [if_neg z7]
        refine ct30 ?_
        rw [q3]
        unfold pz_w1
        split
        · exact .inl rfl
        · exact .inr rfl
    · have := (ct32 (by rw [q3]; exact pz_w1_2.2 h7)).2
      rw [q4, show ((e1 : Int)).toNat = e1 from rfl] at this
      exact this
    · obtain ⟨g5, -, g7⟩ := g4 h7
      rw [if_neg h7] at hlen
      obtain ⟨o4, o5, o6⟩ := pz_ev_o g5
      obtain ⟨l4, l5, l6⟩ := pz_ev_c g7
      have E3 := fun (o k : Nat) (x : 805 ≤ o) (y : o ≤ 812) => hE (e1 + 2 + pz_ne a + 1) (by omega) (by omega) o k x y
      have E4 := fun (o k : Nat) (x : 805 ≤ o) (y : o ≤ 812) => hE (e1 + 2 + pz_ne a + 2 + pz_ne b) (by omega) (by omega) o k x y
      have q5 := (E3 805 (e1 + 2 + pz_ne a + 1) (by decide) (by decide)).trans o4
      have c4 := hch (e1 + 2 + pz_ne a + 1) (by omega) (by omega)
      obtain ⟨f7, f8⟩ := c4.fr (by omega) (fun z => by omega)
      have ct4 := c4.ct.2.2.1 (.inr q5)
      have q6 := (E4 805 (e1 + 2 + pz_ne a + 2 + pz_ne b) (by decide) (by decide)).trans l4
      have q7 := (E4 806 (e1 + 2 + pz_ne a + 2 + pz_ne b) (by decide) (by decide)).trans l5
      have q8 := (E4 812 (e1 + 2 + pz_ne a + 2 + pz_ne b) (by decide) (by decide)).trans l6
      have hw2 : pz_w2 P.1 = 1 ∨ pz_w2 P.1 = 4 := by unfold pz_w2; split <;> simp
      have c5 := hch (e1 + 2 + pz_ne a + 2 + pz_ne b) (by omega) (by omega)
      obtain ⟨f9, f10⟩ := c5.fr (by omega) (fun z => by omega)
      have ct5 := (c5.ct.2.2.2.2 q6).2.2 (by omega)
      exact ⟨⟨ct4, f7, fun k => f8 k (by omega)⟩, ⟨ct5, f9, fun k hk => f10 k (by omega)⟩⟩
