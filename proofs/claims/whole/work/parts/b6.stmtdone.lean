/-! a statement, by its events: all kinds -/
theorem pz_w6 {P : pz_P} (h6 : 6 ≤ P.1) (h8 : P.1 ≤ 8) : (0 ≤ pz_w1 P.1 ∧ pz_w1 P.1 ≤ 4) ∧ pz_w1 P.1 ≠ 1 ∧ pz_w1 P.1 ≠ 4 ∧ (P.1 = 7 → pz_w1 P.1 = 2) ∧ (P.1 = 6 → pz_w1 P.1 = 0 ∧ pz_w2 P.1 = 1) ∧ (P.1 = 8 → pz_w1 P.1 = 3 ∧ pz_w2 P.1 = 4) := by
  have : P.1 = 6 ∨ P.1 = 7 ∨ P.1 = 8 := by omega
  rcases this with z | z | z <;> rw [z] <;> decide
theorem pq_stmt {N : ab_M} {m : Nat → ab_M} {P : pz_P} {a b : pz_T} {e1 q c : Nat} (hwP : pz_wfP P) (hnd : ev_nd N P a b e1 q c) (hch : pq_ch N m e1 (e1 + pq_len P a b))
    (hA : 6 ≤ P.1 → pq_R m (e1 + 2) (e1 + 2 + pz_ne a) (ps_t a)) (hB : 6 ≤ P.1 → P.1 ≠ 7 → pq_R m (e1 + 2 + pz_ne a + 2) (e1 + 2 + pz_ne a + 2 + pz_ne b) (ps_t b)) (hmd : P.1 = 7 → ∀ x, pa_any N e1 x → x = pz_mk (pz_md a)) : pq_R m e1 (e1 + pq_len P a b) (ps_P P (pz_md a) (ps_t a) (ps_t b)) := by
  intro τ ht hlt hemp
  have hp1 := hwP.1
  have hl1 : 1 ≤ pq_len P a b := by unfold pq_len; omega
  have hb6 : 6 ≤ P.1 → pq_hb m P a b e1 := pq_hb_of hnd hch
  obtain ⟨hev, -⟩ := hnd
  obtain ⟨p792, p793, -, p795, -, p797, -⟩ := pz_ev_s (by omega) hev
  have h0 := hch.2 e1 (Nat.le_refl _) (by omega)
  have hR0 := hch.1 e1 (Nat.le_refl _) (by omega)
  have ev0 := fun (o k : Nat) (x : 805 ≤ o) (y : o ≤ 812) => h0.2.1.1 o k x y
  have e792 : m e1 805 e1 = P.1 := (ev0 805 e1 (by decide) (by decide)).trans p792
  have e793 : m e1 806 e1 = P.2.1 := (ev0 806 e1 (by decide) (by decide)).trans p793
  have e795 : m e1 808 e1 = ((P.2.2.1.length : Nat) : Int) := (ev0 808 e1 (by decide) (by decide)).trans p795
  have e797 : m e1 810 e1 = ((P.2.2.2.length : Nat) : Int) := (ev0 810 e1 (by decide) (by decide)).trans p797
  refine ⟨fun V st ⟨h57, hV, hg⟩ => ?_, fun h57 st hg => ?_⟩
  · obtain ⟨S, s1, s2, s3, q1, q2, q3, q4, q5, ⟨q6, q7⟩, q8, q9, q10⟩ := pq_stm h0.2.1 h0.1 hR0 (by omega) h57 hV hg
    rw [e792, e795, e797] at q1 q2
    rw [e792] at s1 s2 s3 q5 q10
    rw [e793] at s1
    have hst : (st.1, st.2.1, st.2.2 + (1 + ((P.2.2.1.length : Nat) : Int) + (if P.1 = 7 then 3 else 1) * ((P.2.2.2.length : Nat) : Int))) = (st.1, st.2.1, st.2.2 + ps_sz P) := rfl
    rw [hst] at q1 q2
    have hF01 : pq_F (m e1) (m (e1 + 1)) e1 (e1 + 1) τ (if P.1 = 4 then [V] else []) := by
      refine ⟨⟨q6, fun k _ => q7 k⟩, q8, q9, fun its hi v hv => ?_, fun its hi v hv => ?_⟩
      · rw [q10 its v hv, ← ht]
        congr 1
        by_cases c4 : P.1 = 4
        · rw [if_pos c4]
          by_cases d : its = τ ∧ τ ≠ -9
          · rw [if_pos ⟨c4, d.1, by rw [d.1]; exact d.2⟩, if_pos d]; rfl
          · rw [if_neg (fun z => d ⟨z.2.1, by rw [← z.2.1]; exact z.2.2⟩), if_neg d]
        · rw [if_neg c4, if_neg (fun z => c4 z.1)]; simp
      · rw [q10 its v hv, if_neg (fun z => by have := z.2.1; omega), List.append_nil]
    by_cases h6 : 6 ≤ P.1
    · obtain ⟨f, ef, hf1, ho, hl, h7y, h7n⟩ := hb6 h6
      obtain ⟨w1a, w1b, w1c, w1d, w1e, w1f⟩ := pz_w6 h6 hp1.2
      rw [if_neg (by omega)] at q5
      rw [if_neg (show ¬ P.1 = 4 by omega)] at hF01
      have hAA := hA h6
      rw [← ef] at hAA
      have hem1 : ∀ v, v < 4 → pO_L (m (e1 + 1)) (e1 : Int) v = [] := fun v hv => by
        rw [q10 _ v hv, if_neg (fun z => by omega), List.append_nil]
        exact hemp _ (Int.le_refl _) v hv
      have hRo := hch.1 (e1 + 1) (by omega) (by omega)
      obtain ⟨x1, x2, x3⟩ := pq_o0 (e1 := e1) hRo ho.1 ho.2.2 (by rw [ho.2.1]; exact ⟨fun z => w1b z.1, w1c⟩) q2
      obtain ⟨hbl, -⟩ := pq_bl (hch.sub (Nat.le_refl _) hf1) (by omega) (by omega) ho hl w1a hAA ht hlt hemp hF01
      have hRf := hch.1 f (by omega) (by omega)
      by_cases h7 : P.1 = 7
      · obtain ⟨y, hy1, hy2⟩ := s2 h7
        have hy1N : pa_any N e1 y := by
          obtain ⟨n, z1, z2, z3, z4⟩ := hy1
          refine ⟨n, ?_, z2, ?_, fun j hj => ?_⟩
          · rw [z1]; exact an_s_fr (fun k => ev0 805 k (by decide) (by decide)) (fun k => ev0 806 k (by decide) (by decide)) _ _
          · rw [← ev0 805 _ (by decide) (by decide), ← ev0 812 _ (by decide) (by decide)]; exact z3
          · rw [← ev0 805 _ (by decide) (by decide), ← ev0 812 _ (by decide) (by decide)]; exact z4 j hj
        have hya := hmd h7 y hy1N
        have hSv : ∀ v, v < 4 → S v = (decide (v < 4) && pz_md a v) := fun v hv => by rw [hy2 v, hya, pz_mk_b _ hv, decide_eq_true hv, Bool.true_and]
        rw [ps_P_7 h7]
        have hVn : ∀ v, v < 4 → (ps_rn (st.1, st.2.1, st.2.2 + ps_sz P) V S).2 v = (ps_rn (st.1, st.2.1, st.2.2 + ps_sz P) V (fun v => decide (v < 4) && pz_md a v)).2 v := fun v hv => by
          show (if S v = true then _ else _) = (if (decide (v < 4) && pz_md a v) = true then _ else _)
          rw [hSv v hv]
        have hgn : pq_g (m (e1 + 1 + 1)) (ps_rn (st.1, st.2.1, st.2.2 + ps_sz P) V (fun v => decide (v < 4) && pz_md a v)).1 := ⟨fun v hv => by
          rw [x3.1 v hv]
          show st.1 v + (if S v = true then 1 else 0) = st.1 v + (if (decide (v < 4) && pz_md a v) = true then 1 else 0)
          rw [hSv v hv], x3.2.1, x3.2.2⟩
        obtain ⟨hBB, hE⟩ := hbl _ _ ⟨x1.trans q5, fun v hv => by rw [x2 v hv, q1 v hv, hVn v hv], hgn⟩
        rw [if_neg (by have := w1d h7; omega)] at hBB
        obtain ⟨b1, -, -, -, b5, b6, b7⟩ := hBB
        rw [h7y h7]
        refine ⟨b1, (pq_c2 hRf hl.1 (hl.2.1.trans (w1d h7)) hl.2.2 hE.l).1 (b7.trans q4) _ fun v hv => ?_⟩
        rw [(b5 v hv).1, q3 v hv, q1 v hv, hVn v hv]
      · obtain ⟨hlen, ho2, hl2⟩ := h7n h7
        have hSf : S = fun _ => false := funext fun v => s3 (by omega) v
        have hV1 : ∀ v, v < 4 → m (e1 + 1) 834 v = V v := fun v hv => by
          rw [q1 v hv]
          exact (ps_rn_F (fun v => by rw [hSf])).1 v
        have hg2 : pq_g (m (e1 + 1 + 1)) (st.1, st.2.1, st.2.2 + ps_sz P) := ⟨fun v hv => by
          rw [x3.1 v hv]
          exact (ps_rn_F (st := (st.1, st.2.1, st.2.2 + ps_sz P)) (V := V) (S := S) (fun v => by rw [hSf])).2 v, x3.2.1, x3.2.2⟩
        obtain ⟨hBB, hE⟩ := hbl V _ ⟨x1.trans q5, fun v hv => by rw [x2 v hv, hV1 v hv], hg2⟩
        obtain ⟨b1, -, b3, b4, b5, b6, b7⟩ := hBB
        obtain ⟨k1, k2, k3⟩ := pq_c1 hRf hl.1 (by rw [hl.2.1]; have : P.1 = 6 ∨ P.1 = 8 := by omega
                                                  rcases this with z | z
                                                  · exact Or.inl (w1e z).1
                                                  · exact Or.inr (w1f z).1) hl.2.2 hE
        have hBb := hB h6 h7
        rw [← ef] at hBb
        have hch2 : pq_ch N m e1 (f + 2 + pz_ne b + 1) := hch.sub (Nat.le_refl _) (by omega)
        have hw2 : pz_w2 P.1 = 1 ∨ pz_w2 P.1 = 4 := by
          have : P.1 = 6 ∨ P.1 = 8 := by omega
          rcases this with z | z
          · exact Or.inl (w1e z).2
          · exact Or.inr (w1f z).2
        rw [hlen]
        have h23 : ∀ v, v < 4 → m (f + 1) 836 (4 * e1 + v) = V v := fun v hv => by
          rw [b3 836 _ (by omega) (by omega) (by omega) (by omega) (by omega), (b5 v hv).1, q3 v hv, hV1 v hv]
        have h26 : m (f + 1) 839 e1 = 1 := by rw [b3 839 _ (by omega) (by omega) (by omega) (by omega) (by omega), b7, q4]
        by_cases c6 : P.1 = 6
        · rw [ps_P_6 c6]
          rw [if_neg (by have := w1e c6; omega)] at b1
          obtain ⟨r1, -⟩ := pq_two (thA := []) hch2 (by omega) (by omega) hw2 ho2 hl2 hBb ht hlt hemp b1 (fun v hv => by rw [b4 v hv, if_neg (by have := w1e c6; omega), hem1 v hv]; rfl) k1 ⟨k2, k3⟩
          have := r1 (w1e c6).2 h26 V h23
          rw [List.nil_append] at this
          exact this
        · have c8 : P.1 = 8 := by omega
          rw [ps_P_8 c8]
          rw [if_pos (w1f c8).1] at b1
          obtain ⟨-, -, r3, r4⟩ := pq_two (thA := (ps_t a V (st.1, st.2.1, st.2.2 + ps_sz P)).2.2) hch2 (by omega) (by omega) hw2 ho2 hl2 hBb ht hlt hemp b1 (fun v hv => by rw [b4 v hv, if_pos (w1f c8).1, hem1 v hv]; rfl) k1 ⟨k2, k3⟩
          unfold ps_y
          cases eth : (ps_t a V (st.1, st.2.1, st.2.2 + ps_sz P)).2.2 with
          | nil =>
            exact r3 (w1f c8).2 eth
          | cons V0 r =>
            have := r4 (w1f c8).2 V0 r eth
            rw [eth] at this
            exact this
    · have hlen : pq_len P a b = 1 := by unfold pq_len; rw [if_neg h6]
      rw [hlen]
      by_cases c0 : P.1 = 0 ∨ P.1 = 1 ∨ P.1 = 5
      · rw [ps_P_0 c0]
        rw [if_neg (show ¬ P.1 = 4 by omega)] at hF01 q5
        have hSf : S = fun v : Nat => decide ((v : Int) = P.2.1) := funext fun v => s1 c0 v
        rw [hSf] at q1 q2
        exact ⟨hF01, fun W hW => by cases hW; exact ⟨q5, q1⟩, fun z => (by cases z), q2⟩
      · have hSf : S = fun _ => false := funext fun v => s3 (by omega) v
        have hV1 : ∀ v, v < 4 → m (e1 + 1) 834 v = V v := fun v hv => by
          rw [q1 v hv]
          exact (ps_rn_F (fun v => by rw [hSf])).1 v
        have hg2 : pq_g (m (e1 + 1)) (st.1, st.2.1, st.2.2 + ps_sz P) := ⟨fun v hv => by
          rw [q2.1 v hv]
          exact (ps_rn_F (st := (st.1, st.2.1, st.2.2 + ps_sz P)) (V := V) (S := S) (fun v => by rw [hSf])).2 v, q2.2.1, q2.2.2⟩
        by_cases c4 : P.1 = 4
        · rw [ps_P_4 c4]
          rw [if_pos c4] at hF01 q5
          exact ⟨hF01, fun W hW => (by cases hW), fun _ => q5, hg2⟩
        · rw [ps_P_2 (by omega)]
          rw [if_neg c4] at hF01 q5
          exact ⟨hF01, fun W hW => by cases hW; exact ⟨q5, hV1⟩, fun z => (by cases z), hg2⟩
  · obtain ⟨q1, q2, q3⟩ := pq_stm0 hR0 (by omega) h57 hg
    have hF01 : pq_F (m e1) (m (e1 + 1)) e1 (e1 + 1) τ [] := by
      rw [q1]
      exact pq_F.rf (up_ne (by omega)) (up_ne (by omega)) (fun o k h => up_ne (by omega)) (fun k h => up_ne (by omega))
    have e26 : m (e1 + 1) 839 e1 = 0 := by rw [q1]; exact ab_up_s
    by_cases h6 : 6 ≤ P.1
    · obtain ⟨f, ef, hf1, ho, hl, h7y, h7n⟩ := hb6 h6
      obtain ⟨w1a, w1b, w1c, w1d, w1e, w1f⟩ := pz_w6 h6 hp1.2
      have hAA := hA h6
      rw [← ef] at hAA
      have hem1 : ∀ v, v < 4 → pO_L (m (e1 + 1)) (e1 : Int) v = [] := fun v hv => by
        rw [q1]
        exact (pO_L_fr (M := m e1) (fun k => up_ne (by omega)) (fun k => up_ne (by omega)) (up_ne (by omega)) _ _).trans (hemp _ (Int.le_refl _) v hv)
      have hRo := hch.1 (e1 + 1) (by omega) (by omega)
      obtain ⟨x1, x2, x3⟩ := pq_o0 (e1 := e1) hRo ho.1 ho.2.2 (by rw [ho.2.1]; exact ⟨fun z => w1b z.1, w1c⟩) q2
      obtain ⟨-, hbl⟩ := pq_bl (hch.sub (Nat.le_refl _) hf1) (by omega) (by omega) ho hl w1a hAA ht hlt hemp hF01
      have hRf := hch.1 f (by omega) (by omega)
      obtain ⟨hBB, hE⟩ := hbl (x1.trans q3) st x3
      obtain ⟨b1, -, b3, b4, b5, b6, b7⟩ := hBB
      by_cases h7 : P.1 = 7
      · rw [h7y h7]
        have := (pq_c2 hRf hl.1 (hl.2.1.trans (w1d h7)) hl.2.2 hE.l).2 (b7.trans e26)
        exact ⟨b1, this.2.1 rfl, this.l⟩
      · obtain ⟨hlen, ho2, hl2⟩ := h7n h7
        obtain ⟨k1, k2, k3⟩ := pq_c1 hRf hl.1 (by rw [hl.2.1]; have : P.1 = 6 ∨ P.1 = 8 := by omega
                                                  rcases this with z | z
                                                  · exact Or.inl (w1e z).1
                                                  · exact Or.inr (w1f z).1) hl.2.2 hE
        have hBb := hB h6 h7
        rw [← ef] at hBb
        have hch2 : pq_ch N m e1 (f + 2 + pz_ne b + 1) := hch.sub (Nat.le_refl _) (by omega)
        have h26 : m (f + 1) 839 e1 = 0 := by rw [b3 839 _ (by omega) (by omega) (by omega) (by omega) (by omega), b7, e26]
        have hw2 : pz_w2 P.1 = 1 ∨ pz_w2 P.1 = 4 := by
          have : P.1 = 6 ∨ P.1 = 8 := by omega
          rcases this with z | z
          · exact Or.inl (w1e z).2
          · exact Or.inr (w1f z).2
        rw [hlen]
        have hth : ∀ v, v < 4 → pO_L (m (f + 1)) (e1 : Int) v = ([] : List ps_V).map (fun U => U v) := fun v hv => by
          rw [b4 v hv, hem1 v hv]
          split <;> rfl
        obtain ⟨-, r2, r3, -⟩ := pq_two hch2 (by omega) (by omega) hw2 ho2 hl2 hBb ht hlt hemp b1 hth k1 ⟨k2, k3⟩
        rcases hw2 with z | z
        · obtain ⟨y1, y2⟩ := r2 z h26 rfl
          exact ⟨y1, y2.2.1 rfl, y2.l⟩
        · obtain ⟨y1, y2⟩ := r3 z rfl
          exact ⟨y1, y2.2.1 rfl, y2.l⟩
    · have hlen : pq_len P a b = 1 := by unfold pq_len; rw [if_neg h6]
      rw [hlen]
      exact ⟨hF01, q3, q2⟩
