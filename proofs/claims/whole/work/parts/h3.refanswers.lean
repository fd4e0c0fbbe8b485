/-! answers of the reference -/
theorem ir_P.gt {M2 M' : ab_M} {ls : List Int} {t : pz_T} {B : Int} (h : ir_P M2 ls t B) (hF : gt_F M2 M') (h44 : M' 797 44 = M2 797 44 + 1) (hB : gt_B M') : ir_P M' ls t (B + 1) ∧ rq_F M2 M' := by
  obtain ⟨i1, i2, i3, i4, i5, ⟨t1, t2, t3, t4⟩⟩ := h
  refine ⟨⟨i1.fr fun o k _ => hF o k (by omega) (by omega), i2.fr (fun o k _ => hF o k (by omega) (by omega)) (.inr ⟨hF _ _ (by omega) (by omega), fun k => hF _ _ (by omega) (by omega)⟩), i3.fr fun o k _ => hF o k (by omega) (by omega), i4.fr fun o k _ => hF o k (by omega) (by omega), i5.fr fun o k _ => hF o k (by omega) (by omega), hB, by omega, fun k => by rw [hF 832 k (by omega) (by omega)]; exact t3 k, fun k => by rw [hF 831 k (by omega) (by omega)]; exact t4 k⟩, fun o k _ => hF o k (by omega) (by omega)⟩
theorem ir_P.eA {M : ab_M} {ls : List Int} {t : pz_T} {B md : Int} (hmd : md = 0 ∨ md = 1) (h : ir_P M ls t B) (hB : B < 1999999000) : en_A M md (wd1 ls t) (wd2 ls t) := by
  refine ⟨h.2.1.2.2, h.2.2.1.1, fun N hr => h.lA hr md, fun M2 hl => ?_⟩
  obtain ⟨⟨g1, -⟩, l1, -⟩ := h.la hmd hl
  have hg := h.2.1.1
  have ht := g1.2.2.2.2.2
  exact ⟨(l1.K hg.1.1 hg.2.2.1.1).1, ht.1, by have := ht.2.1; omega⟩
/-- how starts may end -/
def eo_P (md : Int) (t : pz_T) (s : Nat) (q : Int) (x : Nat) : Prop := if q = 0 then me_P md t s x else mh_P md t s x
theorem ir_P.en {M M' : ab_M} {ls : List Int} {t : pz_T} {B md s q k r : Int} (h : ir_P M ls t B) (hP : en_P M M' md s q k r (wd1 ls t) (wd2 ls t)) : (¬ ((0 ≤ md ∧ md ≤ 1) ∧ (0 ≤ s ∧ s ≤ 255) ∧ (0 ≤ q ∧ q ≤ 1) ∧ -1 ≤ k) → M' = M ∧ r = -1) ∧
    ((0 ≤ md ∧ md ≤ 1) ∧ (0 ≤ s ∧ s ≤ 255) ∧ (0 ≤ q ∧ q ≤ 1) ∧ -1 ≤ k → (ir_P M' ls t (B + 1) ∧ rq_F M M') ∧ en_v (en_f M' q) k r ∧ ∀ x : Nat, x < 256 → (en_f M' q x = true ↔ eo_P md t s.toNat q x)) := by
  obtain ⟨p1, p2⟩ := hP
  refine ⟨p1, fun hv => ?_⟩
  obtain ⟨M2, hl, ⟨hF, ⟨h44, hB⟩, hr⟩, hen⟩ := p2 hv
  obtain ⟨⟨g1, g2, g3⟩, l1, -⟩ := h.la (by omega) hl
  obtain ⟨j1, j2⟩ := g1.gt hF h44 hB
  refine ⟨⟨j1, g3.tr j2⟩, hen, fun x hx => ?_⟩
  have he := l1.ends (by omega) h.2.1.1.1.1 (s := s.toNat) (y := x) (by omega) hx
  rw [show ((s.toNat : Nat) : Int) = s by omega] at he
  unfold en_f eo_P
  rw [decide_eq_true_iff]
  by_cases z : q = 0
  · rw [if_pos z, if_pos z, (hr x hx).1]; exact he.1
  · rw [if_neg z, if_neg z, (hr x hx).2]; exact he.2
theorem ir_P.kA {M : ab_M} {ls : List Int} {t : pz_T} {B l : Int} (h : ir_P M ls t B) (hB : B < 1999999000) : ∀ N, pz_rdn M N → (0 ≤ N 797 21 ∧ N 797 21 ≤ 4) ∧ ab_ir (N 797 29) ∧ la_A N 1 (wd1 ls t) (wd2 ls t) ∧ ∀ M2, la_P N M2 1 (wd1 ls t) (wd2 ls t) → (0 ≤ l ∧ l < N 797 21 → ke_B M2 (M2 814 l.toNat) (wd1 ls t) (wd2 ls t)) := by
  intro N hr
  obtain ⟨hI, hk⟩ := h.rd hr
  have hg := h.2.1.1
  have hn := hk.num.2.2.1
  refine ⟨by have := hg.2.2.1.2; omega, hI.2.2.1.1, h.lA hr 1, fun M2 hl hv => ?_⟩
  obtain ⟨⟨g1, g2, g3⟩, l1, l2⟩ := hI.la (.inr rfl) hl
  have ht := g1.2.2.2.2.2
  have hn2 := g2.num.2.2.1
  have hll : ((l.toNat : Nat) : Int) < M2 797 21 := by omega
  obtain ⟨p1, p2, p3, -⟩ := g2.lp hll
  obtain ⟨-, v1, v2, -⟩ := g2.lv hll
  obtain ⟨β, ⟨b1, b2⟩, -, -, -, b3, -⟩ := l2 rfl l.toNat p1
  have h10 := g2.2.1.2.2.2.1.1.2.1
  have h33 := l1.1
  unfold ke_B
  rw [p2, Int.toNat_natCast, b1, b2]
  exact ⟨⟨(l1.K hg.1.1 hg.2.2.1.1).1, ht.1, by have := ht.2.1; omega⟩, ⟨by omega, by omega⟩, ⟨by omega, by omega, by omega⟩, ⟨v1, v2⟩, ht.2.2⟩
/-- what keeps answers -/
def kr_P (t : pz_T) (l : Nat) (q r : Int) : Prop := ∃ i : Nat, (∀ j, j < i → ∃ x : Nat, x < 256 ∧ kk_K t l j x ∧ ¬ kk_K t l (j + 1) x) ∧ (∀ x : Nat, x < 256 → kk_K t l i x → kk_K t l (i + 1) x) ∧ (q = 0 → ∃ f : Nat → Bool, (∀ x : Nat, x < 256 → (f x = true ↔ kk_K t l i x)) ∧ r = ((gx_m f 256 : Nat) : Int)) ∧ (q = 1 → r = (i : Int))
theorem ir_P.ke {M M' : ab_M} {ls : List Int} {t : pz_T} {B l q r : Int} (h : ir_P M ls t B) (hP : ke_P M M' l q r (wd1 ls t) (wd2 ls t)) : (ir_P M' ls t (B + 256) ∧ rq_F M M') ∧ (¬ ((0 ≤ l ∧ l < ((pz_nl t : Nat) : Int)) ∧ 0 ≤ q ∧ q ≤ 1) → r = -1) ∧ ((0 ≤ l ∧ l < ((pz_nl t : Nat) : Int)) ∧ 0 ≤ q ∧ q ≤ 1 → kr_P t l.toNat q r) := by
  obtain ⟨N, hr, p1, p2⟩ := hP
  obtain ⟨hI, hk⟩ := h.rd hr
  have hn := hk.num.2.2.1
  rw [hn] at p1 p2
  by_cases hv : (0 ≤ l ∧ l < ((pz_nl t : Nat) : Int)) ∧ 0 ≤ q ∧ q ≤ 1
  · obtain ⟨M2, hl, ⟨hF, ⟨hB, h44⟩, hlv⟩, i, ⟨k1, k2⟩, k3, k4, k5⟩ := p2 hv
    obtain ⟨⟨g1, g2, g3⟩, l1, l2⟩ := hI.la (.inr rfl) hl
    have hn2 := g2.num.2.2.1
    have hll : ((l.toNat : Nat) : Int) < M2 797 21 := by omega
    obtain ⟨q1, q2, q3, -⟩ := g2.lp hll
    obtain ⟨-, -, -, v3, v4⟩ := g2.lv hll
    have hK : ∀ i x : Nat, x < 256 → (ke_K (ke_J (wd2 ls t) (M2 814 l.toNat)) (ke_G M2 (M2 814 l.toNat) (wd1 ls t)) i x ↔ kk_K t l.toNat i x) := by
      intro i x hx
      unfold ke_J ke_G
      rw [q2, Int.toNat_natCast, v3, v4]
      exact kk_ref l1 h.2.1.1.1.1 q1 (l2 rfl) i x hx
    obtain ⟨i1, i2, i3, i4, i5, ⟨t1, t2, t3⟩⟩ := g1
    refine ⟨⟨⟨i1.fr fun o k _ => hF o k (by omega) (by omega) (by omega), i2.fr (fun o k _ => hF o k (by omega) (by omega) (by omega)) (.inr ⟨hF _ _ (by omega) (by omega) (by omega), fun k => hF _ _ (by omega) (by omega) (by omega)⟩), i3.fr fun o k _ => hF o k (by omega) (by omega) (by omega), i4.fr fun o k _ => hF o k (by omega) (by omega) (by omega), i5.fr fun o k _ => hF o k (by omega) (by omega) (by omega), hB, by omega, hlv⟩, ((rq_F.rd hr).tr g3).tr fun o k _ => hF o k (by omega) (by omega) (by omega)⟩, fun z => absurd hv z, fun _ => ?_⟩
    refine ⟨i, fun j hj => ?_, fun x hx y => (hK (i + 1) x hx).1 (k3 x hx ((hK i x hx).2 y)), fun z => ?_, k5⟩
    · obtain ⟨x, x1, x2, x3⟩ := k2 j hj
      exact ⟨x, x1, (hK j x x1).1 x2, fun y => x3 ((hK (j + 1) x x1).2 y)⟩
    · exact ⟨fun x => decide (M' 832 x = 1), fun x hx => by rw [decide_eq_true_iff, k1 x hx]; exact hK i x hx, k4 z⟩
  · obtain ⟨e, er⟩ := p1 hv
    rw [e]
    refine ⟨⟨?_, rq_F.rd hr⟩, fun _ => er, fun z => absurd z hv⟩
    obtain ⟨i1, i2, i3, i4, i5, ⟨t1, t2, t3⟩⟩ := hI
    exact ⟨i1, i2, i3, i4, i5, t1, by omega, t3⟩
/-- the passing leaves the rest alone -/
def pa_D (M M' : ab_M) : Prop := ∀ o k : Nat, ¬ (o = 797 ∧ (k = 27 ∨ k = 57 ∨ k = 58 ∨ k = 59 ∨ k = 66)) → o ≠ 815 → ¬ (834 ≤ o ∧ o ≤ 841) → M' o k = M o k
theorem pa_D_step {M M' : ab_M} {e : Nat} (hA : ev_A M) (he : (e : Int) < M 797 10) (hS : pa_S M e) (hR : pR e M M') : pa_D M M' := by
  obtain ⟨a0, a1, -⟩ := hA
  obtain ⟨b1, b2, -⟩ := a1 e he
  obtain ⟨r9, r10, r8⟩ := hR
  obtain ⟨-, -, s57, s25, s26, -⟩ := hS
  have hc : M 805 e ≤ 8 ∨ M 805 e = 9 ∨ M 805 e = 10 := by omega
  rcases hc with z | z | z
  · obtain ⟨x0, x1⟩ := r8 z
    rcases s57 with y | y
    · rw [x0 y]
      exact fun o k _ _ c => up_ne (by omega)
    · obtain ⟨S, -, -, -, -, -, -, -, -, -, -, hf⟩ := x1 y
      exact fun o k a b c => (hf o k (by omega) (by omega) (by omega) (by omega) (by omega)).trans (up_ne (by omega))
  · obtain ⟨-, -, -, -, hf⟩ := r9 z
    exact fun o k a b c => hf o k (by omega) (by omega) (by omega) (by omega)
  · have hf := (pC.fr b2 s26 s25 s57 (r10 z)).2
    exact fun o k a b c => hf o k (by omega) (by omega) (by omega) (by omega) (by omega)
theorem pa_D_chain {N1 M' : ab_M} {n : Nat} (hA : ev_A N1) (hS : pa_S N1 0) (hO : pa_O N1) (hn : (n : Int) ≤ N1 797 10) (h : pa_C N1 n M') : pa_D N1 M' := by
  obtain ⟨m, m0, m1, m2⟩ := h
  have key : ∀ i : Nat, i ≤ n → ev_E N1 (m i) ∧ pa_S (m i) i ∧ pa_O (m i) ∧ pa_D N1 (m i) := by
    intro i
    induction i with
    | zero => intro _; rw [m0]; exact ⟨ev_E.rf _, hS, hO, fun _ _ _ _ _ => rfl⟩
    | succ i ih =>
      intro hi
      obtain ⟨k1, k2, k3, k4⟩ := ih (by omega)
      have hlt : (i : Int) < m i 797 10 := by rw [k1.2]; omega
      obtain ⟨j1, j2, j3⟩ := pa_S.step (k1.A hA) hlt k2 k3 (m1 i (by omega))
      have j4 := pa_D_step (k1.A hA) hlt k2 (m1 i (by omega))
      exact ⟨k1.tr j1, j2, j3, fun o k a b c => (j4 o k a b c).trans (k4 o k a b c)⟩
  rw [← m2]
  exact (key n (Nat.le_refl n)).2.2.2
theorem ir_P.pa {M M' : ab_M} {ls : List Int} {t : pz_T} {B : Int} (h : ir_P M ls t B) (hP : pa_P M M') : (ir_P M' ls t B ∧ rq_F M M') ∧ pq_g M' (ps_t t (fun _ => 0) (fun _ => 0, 0, 0)).1 := by
  obtain ⟨N, hr, hN⟩ := hP
  obtain ⟨hI, hk⟩ := h.rd hr
  obtain ⟨h1, h2, h3⟩ := hk.at'
  rcases hN with ⟨e, rfl⟩ | ⟨e, N1, hN1, hC, hS', hE⟩
  · exact ⟨⟨hI, rq_F.rd hr⟩, hI.2.2.2.2.1.2.2 e⟩
  · have hG := hI.2.2.2.2.1.1
    have htop := pa_N.top hk.1.1.1 h1 h2 h3 (tb_mono (by decide) t hk.1.2.2.2.1) hG hN1 hC
    obtain ⟨s1, s2⟩ := hN1.S hG
    have hE1 := hN1.E
    have hD := pa_D_chain (hE1.A h3) s1 s2 (by rw [hE1.2, Int.toNat_of_nonneg (by rw [h2]; omega)]; exact Int.le_refl _) hC
    have f : ∀ o k : Nat, ¬ (o = 797 ∧ (k = 27 ∨ k = 31 ∨ k = 57 ∨ k = 58 ∨ k = 59 ∨ k = 66)) → o ≠ 815 → ¬ (834 ≤ o ∧ o ≤ 841) → M' o k = N o k := fun o k a b c => by
      rw [hD o k (by omega) b c, hN1, if_neg (by omega), if_neg (by omega), if_neg (by omega)]
    have e31 : M' 797 31 = 1 := by rw [hD 797 31 (by omega) (by omega) (by omega), hN1, if_pos (by omega)]
    have e27 : M' 797 27 = 0 := by
      have hd : ev_dm M' (N 797 10).toNat = ev_dm N (N 797 10).toNat := by
        refine ev_dm_fr (fun k => f 805 k (by omega) (by omega) (by omega)) _
      rw [hS'.1.1, hd]
      exact hk.cq.2.1
    obtain ⟨i1, i2, i3, i4, i5, i6⟩ := hI
    have hgg := htop.2.2
    exact ⟨⟨⟨i1.fr fun o k _ => f o k (by omega) (by omega) (by omega), i2.fr (fun o k _ => f o k (by omega) (by omega) (by omega)) (.inl e27), i3.fr fun o k _ => f o k (by omega) (by omega) (by omega), i4.fr fun o k _ => f o k (by omega) (by omega) (by omega), ⟨hS'.G, .inr e31, fun _ => hgg⟩, i6.fr fun o k _ => f o k (by omega) (by omega) (by omega)⟩, (rq_F.rd hr).tr fun o k _ => f o k (by omega) (by omega) (by omega)⟩, hgg⟩
theorem ir_P.pA {M : ab_M} {ls : List Int} {t : pz_T} {B : Int} (h : ir_P M ls t B) : pz_PR M ∧ (∀ N, pz_rdn M N → ev_A N) ∧ pa_G M ∧ (M 797 31 = 0 ∨ M 797 31 = 1) :=
  ⟨h.2.1.2.2, fun _ hr => (h.rd hr).2.at'.2.2, h.2.2.2.2.1.1, h.2.2.2.2.1.2.1⟩
theorem ir_P.cp {M M' : ab_M} {ls : List Int} {t : pz_T} {B : Int} (h : ir_P M ls t B) (hP : cq_P M M') : (ir_P M' ls t B ∧ rq_F M M') ∧ M' 842 0 = cp_t t 1 1 := by
  obtain ⟨N, hr, rfl⟩ := hP
  obtain ⟨hI, hk⟩ := h.rd hr
  obtain ⟨h1, h2, h3⟩ := hk.at'
  have f : ∀ o k : Nat, o ≠ 842 ∧ o ≠ 843 ∧ o ≠ 844 ∧ o ≠ 845 ∧ ¬ (o = 797 ∧ k = 27) → cq_m (N 797 10).toNat (cq_0 N) (N 797 10).toNat o k = N o k := fun o k hz => (cq_m_fr _ _ hz _).trans (cq_0_fr N hz)
  have e27 : cq_m (N 797 10).toNat (cq_0 N) (N 797 10).toNat 797 27 = 0 := by
    rw [cq_m_27 hk.cq.2.1 _ (Nat.le_refl _), Nat.sub_self]; rfl
  obtain ⟨i1, i2, i3, i4, i5, i6⟩ := hI
  refine ⟨⟨⟨i1.fr fun o k _ => f o k (by omega), i2.fr (fun o k _ => f o k (by omega)) (.inl e27), i3.fr fun o k _ => f o k (by omega), i4.fr fun o k _ => f o k (by omega), i5.fr fun o k _ => f o k (by omega), i6.fr fun o k _ => f o k (by omega)⟩, (rq_F.rd hr).tr fun o k _ => f o k (by omega)⟩, ?_⟩
  rw [h2, Int.toNat_natCast]
  exact cq_top hk.1.1.1 h1
/-- a loop's statement among the events -/
theorem lp_nd {N : ab_M} : ∀ (t : pz_T), pz_wf t → ∀ (l : Nat), l < pz_nl t → ∀ (q e c : Nat), ev_at N e (pz_fl t q e c) → ∃ (q' c' : Nat) (b : pz_T), ev_nd N (lp_P t l) (lp_a t l) b (e + lp_e t l) q' c' := by
  refine lp_ind (C := fun t l => ∀ (q e c : Nat), ev_at N e (pz_fl t q e c) → ∃ (q' c' : Nat) (b : pz_T), ev_nd N (lp_P t l) (lp_a t l) b (e + lp_e t l) q' c') ?_ ?_ ?_ ?_
  · intro s P v t s' P' v' a b l hw hl ih q e c h
    have j := lp_t (z := fun _ t => pz_sz t) (u := fun _ t => pz_sz t) (w := fun _ t a => pz_sz t) (s := s) (P := P) (v := v) (s' := s') (P' := P') (v' := v') (a := a) (b := b) hl
    rw [j.1, j.2.1, show lp_e (.inner s P v t (.inner s' P' v' a b)) l = lp_e t l from (lp_t hl).2.2.2]
    exact ih _ _ _ h.nd.1
  · intro s P v t s' P' v' a b hw h7 q e c h
    have j := lp_0 (z := fun _ t => pz_sz t) (u := fun _ t => pz_sz t) (w := fun _ t a => pz_sz t) (s := s) (P := P) (v := v) (t := t) (s' := s') (P' := P') (v' := v') (a := a) (b := b) h7
    rw [j.1, j.2.1, show lp_e (.inner s P v t (.inner s' P' v' a b)) (pz_nl t) = pz_ne t from (lp_0 h7).2.2.2]
    exact ⟨_, _, b, h.nd.2⟩
  · intro s P v t s' P' v' a b l hw h6 hl ih q e c h
    have j := lp_in (z := fun _ t => pz_sz t) (u := fun _ t => pz_sz t) (w := fun _ t a => pz_sz t) (s := s) (P := P) (v := v) (t := t) (s' := s') (P' := P') (v' := v') (a := a) (b := b) hl
    rw [j.1, j.2.1, show lp_e (.inner s P v t (.inner s' P' v' a b)) (pz_nl t + (if P.1 = 7 then 1 else 0) + l) = pz_ne t + 2 + lp_e a l from (lp_in hl).2.2.2, show e + (pz_ne t + 2 + lp_e a l) = e + pz_ne t + 2 + lp_e a l by omega]
    obtain ⟨-, ⟨qa, ca, g2⟩, -⟩ := h.nd.2.2 h6
    exact ih _ _ _ g2
  · intro s P v t s' P' v' a b l hw h6 h7 hl ih q e c h
    have j := lp_bl (z := fun _ t => pz_sz t) (u := fun _ t => pz_sz t) (w := fun _ t a => pz_sz t) (s := s) (P := P) (v := v) (t := t) (s' := s') (P' := P') (v' := v') (a := a) (b := b) (l := l)
    rw [j.1, j.2.1, show lp_e (.inner s P v t (.inner s' P' v' a b)) (pz_nl t + (if P.1 = 7 then 1 else 0) + pz_nl a + l) = pz_ne t + 2 + pz_ne a + 2 + lp_e b l from lp_bl.2.2.2, show e + (pz_ne t + 2 + pz_ne a + 2 + lp_e b l) = e + pz_ne t + 2 + pz_ne a + 2 + lp_e b l by omega]
    obtain ⟨-, -, -, g4⟩ := h.nd.2.2 h6
    obtain ⟨-, ⟨qb, cb, g6⟩, -⟩ := g4 h7
    exact ih _ _ _ g6
theorem ir_P.lo' {M M' : ab_M} {ls : List Int} {t : pz_T} {B l q r : Int} (h : ir_P M ls t B) (hP : lo_P M M' l q r (wd2 ls t)) : (ir_P M' ls t B ∧ rq_F M M') ∧ (¬ ((0 ≤ l ∧ l < ((pz_nl t : Nat) : Int)) ∧ 0 ≤ q ∧ q ≤ 2) → r = -1) ∧ ((0 ≤ l ∧ l < ((pz_nl t : Nat) : Int)) ∧ 0 ≤ q ∧ q ≤ 2 → (q = 0 → r = ((lp_c t l.toNat : Nat) : Int)) ∧ (q = 1 → r = pz_mk (pz_md (lp_a t l.toNat))) ∧ (q = 2 → r = ((gx_m (lo_f (lp_P t l.toNat).2.2.2) 256 : Nat) : Int))) := by
  obtain ⟨N, hr, f, p1, p2⟩ := hP
  obtain ⟨hI, hk⟩ := h.rd hr
  have hn := hk.num.2.2.1
  rw [hn] at p1 p2
  obtain ⟨i1, i2, i3, i4, i5, i6⟩ := hI
  refine ⟨⟨⟨i1.fr fun o k _ => f o k (by omega), i2.fr (fun o k _ => f o k (by omega)) (.inr ⟨f _ _ (by omega), fun k => f _ _ (by omega)⟩), i3.fr fun o k _ => f o k (by omega), i4.fr fun o k _ => f o k (by omega), i5.fr fun o k _ => f o k (by omega), i6.fr fun o k _ => f o k (by omega)⟩, (rq_F.rd hr).tr fun o k _ => f o k (by omega)⟩, p1, fun hv => ?_⟩
  have hll : ((l.toNat : Nat) : Int) < N 797 21 := by omega
  obtain ⟨q1, q2, q3, -⟩ := hk.lp hll
  obtain ⟨⟨v0, v1⟩, -, -, v3, v4⟩ := hk.lv hll
  obtain ⟨x0, x1, x2⟩ := p2 hv
  rw [q2, Int.toNat_natCast] at x0 x1 x2
  refine ⟨fun z => by rw [x0 z, v1], fun z => ?_, fun z => by rw [x2 z, v4]⟩
  obtain ⟨⟨w1, w2, w3⟩, -, w4⟩ := lp_wf t hk.1.1.1 l.toNat q1
  obtain ⟨q', c', b, hnd⟩ := lp_nd t hk.1.1.1 l.toNat q1 0 0 0 hk.at'.1
  rw [Nat.zero_add] at hnd
  exact pq_md w3 (w4 120 hk.1.2.2.2.1).1 hnd w2 r (x1 z)
