/-! a tree, by its events: the passive form -/
theorem pq_md {N : ab_M} {P : pz_P} {a b : pz_T} {e1 q c : Nat} {top : Int} (hwa : pz_wf a) (hta : pz_tb top a) (hnd : ev_nd N P a b e1 q c) (h7 : P.1 = 7) : ∀ x, pa_any N e1 x → x = pz_mk (pz_md a) := by
  rintro x ⟨n, hx, hn, hc, hno⟩
  obtain ⟨-, hblk⟩ := hnd
  obtain ⟨g1, ⟨qa, ca, g2⟩, g3, -⟩ := hblk (by omega)
  obtain ⟨o1, o2, o3⟩ := pz_ev_o g1
  obtain ⟨l1, l2, l3⟩ := pz_ev_c g3
  have hT := ev_at.tA a hwa hta qa (e1 + 2) ca g2
  have hle : n ≤ 1 + pz_ne a := by
    refine Nat.le_of_not_lt fun z => hno (1 + pz_ne a) z ?_
    rw [show e1 + 1 + (1 + pz_ne a) = e1 + 2 + pz_ne a by omega]
    exact ⟨l1, l3⟩
  have hge : ¬ n < 1 + pz_ne a := fun z => by
    by_cases c0 : n = 0
    · rw [c0] at hc
      have := hc.1
      rw [Nat.add_zero] at this
      omega
    · obtain ⟨-, -, -, t4, -⟩ := hT (n - 1) (by omega)
      rw [show e1 + 2 + (n - 1) = e1 + 1 + n by omega] at t4
      have := t4 (by have := hc.1; omega)
      have := hc.2
      omega
  have hn1 : n = 1 + pz_ne a := by omega
  have h2 := an_s_t (s := e1 + 1) a hwa 1 qa ca (by rw [show e1 + 1 + 1 = e1 + 2 by omega]; exact g2)
  rw [hx, hn1, h2]
  have h1 : an_s N (e1 + 1) 1 = ab_or 0 0 := by
    show ab_or 0 (if N 805 (e1 + 1 + 0) = 0 ∨ N 805 (e1 + 1 + 0) = 1 ∨ N 805 (e1 + 1 + 0) = 5 then _ else 0) = _
    rw [if_neg (by rw [Nat.add_zero]; omega)]
  rw [h1]
  have key : ∀ a b c d : Bool, ab_or (ab_or 0 0) (pz_mk4 a b c d) = pz_mk4 a b c d := by decide +kernel
  exact key _ _ _ _
theorem pq_tree {N : ab_M} {m : Nat → ab_M} {top : Int} : ∀ (t : pz_T), pz_wf t → pz_tb top t → ∀ (q e c : Nat), ev_at N e (pz_fl t q e c) → pq_ch N m e (e + pz_ne t) → pq_R m e (e + pz_ne t) (ps_t t) := by
  intro t
  induction t using pz_ind with
  | h0 =>
    intro _ _ q e c _ _ τ _ _ _
    refine ⟨fun V st ⟨h57, hV, hg⟩ => ⟨pq_F.rf rfl rfl (fun _ _ _ => rfl) (fun _ _ => rfl), fun W hW => ?_, fun z => (by cases z), hg⟩, fun h57 st hg => ⟨pq_F.rf rfl rfl (fun _ _ _ => rfl) (fun _ _ => rfl), h57, hg⟩⟩
    cases hW
    exact ⟨h57, hV⟩
  | h2 s P v t => intro h; exact h.elim
  | h1 s P v t s' P' v' a b iht iha ihb =>
    intro hw hb q e c h hch
    obtain ⟨w1, w2, w3, w4, w5, w6⟩ := hw
    obtain ⟨b1, b2, b3, b4, b5⟩ := hb
    obtain ⟨h1, h2⟩ := h.nd
    have hne : e + pz_ne (.inner s P v t (.inner s' P' v' a b)) = e + pz_ne t + pq_len P a b := by rw [pz_ne_nd]; unfold pq_len; omega
    rw [hne] at hch ⊢
    have hl1 : 1 ≤ pq_len P a b := by unfold pq_len; omega
    have hT := iht w1 b1 q e c h1 (hch.sub (Nat.le_refl _) (by omega))
    have hS : pq_R m (e + pz_ne t) (e + pz_ne t + pq_len P a b) (ps_P P (pz_md a) (ps_t a) (ps_t b)) := by
      refine pq_stmt w4 h2 (hch.sub (by omega) (Nat.le_refl _)) (fun h6 => ?_) (fun h6 h7 => ?_) (fun h7 => pq_md w2 b2 h2 h7)
      · obtain ⟨-, ⟨qa, ca, g2⟩, -⟩ := h2.2 h6
        exact iha w2 b2 qa _ ca g2 (hch.sub (by omega) (by unfold pq_len; rw [if_pos h6]; omega))
      · obtain ⟨-, -, -, g4⟩ := h2.2 h6
        obtain ⟨-, ⟨qb, cb, g6⟩, -⟩ := g4 h7
        exact ihb w3 b3 qb _ cb g6 (hch.sub (by omega) (by unfold pq_len; rw [if_pos h6, if_neg h7]; omega))
    intro τ ht hlt hemp
    obtain ⟨c1, c2⟩ := hT τ ht hlt hemp
    have E := fun i (h1 : e ≤ i) (h2 : i ≤ e + pz_ne t + pq_len P a b) => (hch.2 i h1 h2).2.1
    have ev := fun i (h1 : e ≤ i) (h2 : i ≤ e + pz_ne t + pq_len P a b) (o k : Nat) (x : 805 ≤ o) (y : o ≤ 812) => (E i h1 h2).1 o k x y
    have hnext : ∀ th, pq_F (m e) (m (e + pz_ne t)) e (e + pz_ne t) τ th → τ = tr_a (m (e + pz_ne t)) (m (e + pz_ne t) 797 27).toNat ∧ ∀ its : Int, ((e + pz_ne t : Nat) : Int) ≤ its → ∀ v, v < 4 → pO_L (m (e + pz_ne t)) its v = [] := fun th hF => by
      refine ⟨?_, fun its hi v hv => by rw [hF.2.2.2.2 its hi v hv]; exact hemp its (by omega) v hv⟩
      rw [ht]
      exact (tr_a_eq (fun k => (ev (e + pz_ne t) (by omega) (by omega) 806 k (by decide) (by decide)).trans (ev e (Nat.le_refl _) (by omega) 806 k (by decide) (by decide)).symm) (fun k => (ev (e + pz_ne t) (by omega) (by omega) 812 k (by decide) (by decide)).trans (ev e (Nat.le_refl _) (by omega) 812 k (by decide) (by decide)).symm) hF.1.1 hF.1.2).symm
    refine ⟨fun V st hV => ?_, fun h57 st hg => ?_⟩
    · obtain ⟨f1, f2⟩ := c1 V st hV
      obtain ⟨n1, n2⟩ := hnext _ f1
      obtain ⟨d1, d2⟩ := hS τ n1 (by omega) n2
      unfold ps_t
      cases eo : (ps_t t V st).2.1 with
      | none =>
        rw [eo] at f2
        obtain ⟨g1, g2, g3⟩ := d2 (f2.2.1 rfl) _ f2.2.2
        have := f1.tr (by omega) (by omega) g1
        rw [List.append_nil] at this
        refine ⟨this, fun W hW => ?_, fun _ => g2, g3⟩
        rw [eo] at hW
        cases hW
      | some V1 =>
        rw [eo] at f2
        obtain ⟨z1, z2⟩ := f2.1 V1 rfl
        obtain ⟨g1, g2⟩ := d1 V1 _ ⟨z1, z2, f2.2.2⟩
        exact ⟨f1.tr (by omega) (by omega) g1, g2⟩
    · obtain ⟨f1, f2, f3⟩ := c2 h57 st hg
      obtain ⟨n1, n2⟩ := hnext _ f1
      obtain ⟨d1, d2⟩ := hS τ n1 (by omega) n2
      obtain ⟨g1, g2, g3⟩ := d2 f2 st f3
      exact ⟨f1.tr (by omega) (by omega) g1, g2, g3⟩
/-- the chain of memories keeps what the pass keeps -/
theorem pa_C.ch {N N1 M' : ab_M} {n : Nat} (hA : ev_A N1) (hS : pa_S N1 0) (hO : pa_O N1) (hn : (n : Int) ≤ N1 797 10) (h : pa_C N1 n M') : ∃ m : Nat → ab_M, m 0 = N1 ∧ m n = M' ∧ pq_ch N1 m 0 n := by
  obtain ⟨m, h1, h2, h3⟩ := h
  have key : ∀ i : Nat, i ≤ n → pa_S (m i) i ∧ pa_O (m i) ∧ ev_E N1 (m i) := by
    intro i
    induction i with
    | zero => intro _; rw [h1]; exact ⟨hS, hO, ev_E.rf _⟩
    | succ i ih =>
      intro hi
      obtain ⟨x1, x2, x3⟩ := ih (by omega)
      obtain ⟨y1, y2, y3⟩ := pa_S.step (x3.A hA) (by rw [x3.2]; omega) x1 x2 (h2 i (by omega))
      exact ⟨y2, y3, x3.tr y1⟩
  refine ⟨m, h1, h3, fun i _ hi => h2 i hi, fun i _ hi => ?_⟩
  obtain ⟨x1, x2, x3⟩ := key i hi
  refine ⟨x1, x3, ?_⟩
  rw [x1.1.1]
  exact ((x3.A hA).2.2.1 i (by rw [x3.2]; omega)).1 |> fun h => h
/-- the passive form of a program, by its events -/
theorem pa_N.top {N N1 M' : ab_M} {t : pz_T} (hw : pz_wf t) (hat : ev_at N 0 (pz_fl t 0 0 0)) (h10 : N 797 10 = ((pz_ne t : Nat) : Int)) (hA : ev_A N) (hb : pz_tb 640 t) (hG : pa_G N) (hN : pa_N N N1) (hC : pa_C N1 (N 797 10).toNat M') :
    pq_e M' (ps_t t (fun _ => 0) (fun _ => 0, 0, 0)).2.1 (ps_t t (fun _ => 0) (fun _ => 0, 0, 0)).1 := by
  obtain ⟨s1, s2⟩ := hN.S hG
  have hE := hN.E
  rw [h10, show ((pz_ne t : Nat) : Int).toNat = pz_ne t from rfl] at hC
  obtain ⟨m, m0, m1, hch⟩ := hC.ch (N := N) (hE.A hA) s1 s2 (by rw [hE.2, h10]; exact Int.le_refl _)
  have hat1 : ev_at N1 0 (pz_fl t 0 0 0) := fun i v hi => by
    rw [← hat i v hi]
    unfold pz_ev
    simp only [hE.1 805 _ (by decide) (by decide), hE.1 806 _ (by decide) (by decide), hE.1 807 _ (by decide) (by decide), hE.1 808 _ (by decide) (by decide), hE.1 809 _ (by decide) (by decide), hE.1 810 _ (by decide) (by decide), hE.1 811 _ (by decide) (by decide), hE.1 812 _ (by decide) (by decide)]
  have e27 : m 0 797 27 = 0 := by rw [m0, hN, if_neg (by omega), if_pos (by omega)]
  have e66 : m 0 797 66 = 0 := by rw [m0, hN, if_neg (by omega), if_pos (by omega)]
  have hR := pq_tree (m := m) t hw hb 0 0 0 hat1 (by rw [Nat.zero_add]; exact hch)
  rw [Nat.zero_add] at hR
  obtain ⟨r1, -⟩ := hR (-9) (by rw [e27]; rfl) (by omega) (fun its _ v _ => by unfold pO_L; rw [e66]; rfl)
  have := (r1 (fun _ => 0) (fun _ => 0, 0, 0) ⟨by rw [m0, hN, if_pos (by omega)], fun v hv => by rw [m0, hN, if_neg (by omega), if_neg (by omega), if_pos (by omega)], fun v hv => by rw [m0, hN, if_neg (by omega), if_neg (by omega), if_pos (by omega)], by rw [m0, hN, if_neg (by omega), if_pos (by omega)], by rw [m0, hN, if_neg (by omega), if_pos (by omega)]⟩).2
  rw [m1] at this
  exact this
