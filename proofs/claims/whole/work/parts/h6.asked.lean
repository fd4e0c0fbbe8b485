/-! both sides, one call: the other questions -/
theorem pp_k {M M' : ab_M} {c : Nat} (h : pp_P M M' ((c : Nat) : Int)) : M' 768 (7 + c) = 1 ∧ ∀ k, k ≠ 7 + c → M' 768 k = M 768 k := by
  obtain ⟨-, nF, n7, -⟩ := h
  rw [Int.toNat_natCast] at n7
  exact ⟨n7, fun k hk => nF 768 k (by omega) (by omega) (by omega) (by omega) (by omega) (by omega) (by omega) (by omega)⟩
theorem fm_803 {M M' : ab_M} {md : Nat} {W1 W2 : Nat → List Int} (h : fm_P M M' ((md : Nat) : Int) W1 W2) : M' 816 md ≠ 0 ∧ ∀ k, k ≠ md → M' 816 k = M 816 k := by
  obtain ⟨N, hr, hN⟩ := h
  rw [Int.toNat_natCast] at hN
  have f1 : ∀ {A B : ab_M}, pz_rdn A B → ∀ k, B 816 k = A 816 k := fun hh k => hh.2.1.1 816 k (by decide) (by decide) (by omega)
  rcases hN with ⟨e, rfl⟩ | ⟨e, M2, ⟨N2, hr2, hl⟩, hD⟩
  · exact ⟨e, fun k _ => f1 hr k⟩
  · have f2 : ∀ k, M2 816 k = N 816 k := fun k => by
      rcases hl with ⟨-, e2⟩ | ⟨-, -, hI⟩
      · rw [e2]; exact f1 hr2 k
      · exact (hI.1 816 k (by omega) (by omega) (by omega)).trans (f1 hr2 k)
    obtain ⟨d1, -⟩ := hD
    refine ⟨?_, fun k hk => ?_⟩
    · rw [d1 816 md (by omega) (by omega), ab_up_s]; decide
    · rw [d1 816 k (by omega) (by omega), up_ne (by omega), f2]; exact f1 hr k
theorem bo_spurious {n : Nat} {M : ab_M} (h : INV n M) {c : Int} (i1 : ab_ir c) : bo_P S_X8_spurious S_X9_spurious [iV c] n M := by
  obtain ⟨t, h⟩ := h
  obtain ⟨hc, hr, hl⟩ := id h
  obtain ⟨⟨hw, hsz, hnt, hkn, hnl⟩, e3, e6, e8, e11, -⟩ := hc.1.2.1.sz
  refine ⟨⟨i1, hc.pp, ⟨by omega, by omega⟩, fun M1 hp => ?_⟩, fun r M1 hP => ⟨r, rfl, ?_⟩⟩
  · exact (hc.prep (c := 0) (.inl rfl) hp).1.1.pp
  obtain ⟨p1, p2⟩ := hP
  rw [e6] at p1 p2
  have hcl : ic_P M1 t ∧ iq_F M M1 ∧ (0 ≤ c ∧ c < ((pz_kn t : Nat) : Int) → cm_R M1 t 0 ∧ cm_R M1 t 1 ∧ r = ((gx_m (sy_f M1 c) 256 : Nat) : Int)) := by
    by_cases hv : 0 ≤ c ∧ c < ((pz_kn t : Nat) : Int)
    · obtain ⟨A, a1, a2, a3⟩ := p2 hv
      obtain ⟨⟨x1, x2⟩, -⟩ := hc.prep (c := 0) (.inl rfl) a1
      obtain ⟨⟨y1, y2⟩, y3⟩ := x1.prep (c := 1) (.inr rfl) a2
      have g1 : A 768 7 = 1 := (pp_k (c := 0) a1).1
      have g2 : M1 768 7 = A 768 7 := (pp_k (c := 1) a2).2 7 (by decide)
      refine ⟨y1, x2.tr y2, fun _ => ⟨?_, y3, a3⟩⟩
      rcases y1.2.2.2.2.2.1 0 (by decide) with z | z
      · have z : M1 768 7 = 0 := z
        omega
      · exact z.2
    · rw [(p1 hv).1]; exact ⟨hc, fun _ _ _ => rfl, fun z => absurd z hv⟩
  obtain ⟨c1, c2, c3⟩ := hcl
  have hr1 := h.r1 c2
  refine ⟨wd1 (tx M 3) t, wd2 (tx M 3) t, ⟨i1, hr1.fA (.inl rfl), fun A hA => (hr1.fm (md := 0) (.inl rfl) hA).1.1.fA (.inr rfl)⟩, fun r' M2 hP' => ?_⟩
  obtain ⟨N, hN, s3, s4⟩ := hP'
  obtain ⟨hI, hK⟩ := hr1.rd hN
  rw [hK.num.2.1] at s3 s4
  by_cases hv : 0 ≤ c ∧ c < ((pz_kn t : Nat) : Int)
  · obtain ⟨A, a1, a2, a3⟩ := s4 hv
    obtain ⟨⟨x1, -, x3⟩, -⟩ := hr1.fm (md := 0) (.inl rfl) a1
    obtain ⟨⟨y1, -, y3⟩, y4⟩ := x1.fm (md := 1) (.inr rfl) a2
    have g1 := (fm_803 (md := 0) a1).1
    have g2 := (fm_803 (md := 1) a2).2 0 (by decide)
    have hm0 : mk_R M2 t 0 := by
      rcases y1.2.2.2.1 0 (by decide) with z | z
      · omega
      · exact z.2
    obtain ⟨k0, k1, k2⟩ := c3 hv
    refine ⟨?_, h.q c1 c2 y1 (by omega) (x3.tr y3)⟩
    have f0 := bq (cm_f (md := 0) (c := c) (.inl rfl) k0 (by omega)) (mk_f (md := 0) (c := c) (.inl rfl) hm0 (by omega))
    have f1 := bq (cm_f (md := 1) (c := c) (.inr rfl) k1 (by omega)) (mk_f (md := 1) (c := c) (.inr rfl) y4 (by omega))
    have : r' = r := by
      rw [a3, k2, gxm_cg 256 (f := sy_f M1 c) (g := sp_f M2 c) fun x hx => ?_]
      unfold sy_f
      rw [f0 x hx, f1 x hx]
      unfold sp_f wr_f
      rw [show 256 * (1 : Int).toNat + x = 256 + x by omega, show 256 * (0 : Int).toNat + x = x by omega]
    rw [this]
  · obtain ⟨e, er⟩ := s3 hv
    rw [e]
    refine ⟨?_, h.q c1 c2 hI (by omega) (rq_F.rd hN)⟩
    rw [er, (p1 hv).2]
theorem bo_from {n : Nat} {M : ab_M} (h : INV n M) {md s q : Int} (i1 : ab_ir md) (i2 : ab_ir s) (i3 : ab_ir q) : bo_P S_X8_from S_X9_from [iV md, iV s, iV q] n M := by
  obtain ⟨t, h⟩ := h
  obtain ⟨hc, hr, hl⟩ := id h
  refine ⟨⟨⟨i1, i2, i3⟩, hc.pp⟩, fun r M1 hP => ⟨r, rfl, ?_⟩⟩
  obtain ⟨p1, p2⟩ := hP
  by_cases hv : (0 ≤ md ∧ md ≤ 1) ∧ (0 ≤ s ∧ s ≤ 255) ∧ 0 ≤ q ∧ q ≤ 2
  · obtain ⟨hp, v1, v2, v3⟩ := p2 hv
    rw [show md = ((md.toNat : Nat) : Int) by omega] at hp
    obtain ⟨⟨c1, c2⟩, c3⟩ := hc.prep (by omega) hp
    have hr1 := h.r1 c2
    refine ⟨wd1 (tx M 3) t, wd2 (tx M 3) t, ⟨⟨i1, i2, i3⟩, fun z => hr1.fA (by omega)⟩, fun r' M2 hP' => ?_⟩
    obtain ⟨s5, w1, w2, w3⟩ := hP'.2 hv
    rw [show md = ((md.toNat : Nat) : Int) by omega] at s5
    obtain ⟨⟨j1, -, j3⟩, j4⟩ := hr1.fm (by omega) s5
    refine ⟨?_, h.q c1 c2 j1 (by omega) j3⟩
    have hb : ∀ b : Nat, b < 32 → wy_f M1 md (b : Int) s.toNat = pz_b (M2 826 (256 * md + s).toNat) b := fun b hb => by
      have := bq (cm_f (c := (b : Int)) (by omega) c3 (by omega)) (mk_f (c := (b : Int)) (by omega) j4 (by omega)) s.toNat (by omega)
      rw [this]
      unfold wr_f
      rw [show 256 * md.toNat + s.toNat = (256 * md + s).toNat by omega, Int.toNat_natCast]
    have : r' = r := by
      have hq : q = 0 ∨ q = 1 ∨ q = 2 := by omega
      rcases hq with z | z | z
      · rcases v3 z with ⟨b, b1, b2, b3, b4⟩ | ⟨b1, b2⟩
        · rcases w3 z with ⟨x, x1, x2, x3, x4⟩ | ⟨x1, x2⟩
          · by_cases c1 : b < x
            · exact absurd (by rw [← hb b (by omega)]; exact b2) (x3 b c1)
            · by_cases c2 : x < b
              · exact absurd (by rw [hb x (by omega)]; exact x2) (b3 x c2)
              · rw [x4, b4, show x = b by omega]
          · exact absurd (by rw [← hb b (by omega)]; exact b2) (x1 b b1)
        · rcases w3 z with ⟨x, x1, x2, x3, x4⟩ | ⟨x1, x2⟩
          · exact absurd (by rw [hb x (by omega)]; exact x2) (b1 x x1)
          · rw [x2, b2]
      · rw [w1 z, v1 z, pz_b_has (by decide) (by decide), show wy_f M1 md 16 s.toNat = pz_b (M2 826 (256 * md + s).toNat) 16 from hb 16 (by decide)]; rfl
      · rw [w2 z, v2 z, pz_b_has (by decide) (by decide), show wy_f M1 md 17 s.toNat = pz_b (M2 826 (256 * md + s).toNat) 17 from hb 17 (by decide)]; rfl
    rw [this]
  · obtain ⟨e, er⟩ := p1 hv
    rw [e]
    refine ⟨wd1 (tx M 3) t, wd2 (tx M 3) t, ⟨⟨i1, i2, i3⟩, fun z => hr.fA (by omega)⟩, fun r' M2 hP' => ?_⟩
    obtain ⟨e2, er2⟩ := hP'.1 hv
    rw [e2]
    exact ⟨by rw [er, er2], h.q hc (fun _ _ _ => rfl) hr (by omega) (rq_F.rf M)⟩
theorem bo_ends {n : Nat} {M : ab_M} (hn : n ≤ 600) (h : INV n M) {md s q k : Int} (i1 : ab_ir md) (i2 : ab_ir s) (i3 : ab_ir q) (i4 : ab_ir k) : bo_P S_X8_ends S_X9_ends [iV md, iV s, iV q, iV k] n M := by
  obtain ⟨t, h⟩ := h
  obtain ⟨hc, hr, hl⟩ := id h
  refine ⟨⟨⟨i1, i2, i3, i4⟩, hc.cv⟩, fun r M1 hP => ⟨r, rfl, ?_⟩⟩
  obtain ⟨p1, p2⟩ := hP
  by_cases hv : (0 ≤ md ∧ md ≤ 1) ∧ (0 ≤ s ∧ s ≤ 255) ∧ (0 ≤ q ∧ q ≤ 1) ∧ -1 ≤ k
  · obtain ⟨hp, v1⟩ := p2 hv
    obtain ⟨⟨c1, c2⟩, c3⟩ := hc.search (by omega) (by omega) hp
    have hr1 := h.r1 c2
    refine ⟨wd1 (tx M 3) t, wd2 (tx M 3) t, ⟨⟨i1, i2, i3, i4⟩, fun z => hr1.eA (by omega) (by omega)⟩, fun r' M2 hP' => ?_⟩
    obtain ⟨-, w⟩ := hr1.en hP'
    obtain ⟨⟨j1, j2⟩, j3, j4⟩ := w hv
    refine ⟨?_, h.q c1 c2 j1 (by omega) j2⟩
    have hfg : ∀ x : Nat, x < 256 → ey_f M1 q x = en_f M2 q x := bq (P := fun x => eo_P md t s.toNat q x) (fun x hx => by
      unfold ey_f eo_P
      rw [decide_eq_true_iff]
      by_cases z : q = 0
      · rw [if_pos z, if_pos z]; exact (c3 x hx).1
      · rw [if_neg z, if_neg z]; exact (c3 x hx).2) j4
    rw [env_uq hv.2.2.2 v1 j3 hfg]
  · obtain ⟨e, er⟩ := p1 hv
    rw [e]
    refine ⟨wd1 (tx M 3) t, wd2 (tx M 3) t, ⟨⟨i1, i2, i3, i4⟩, fun z => hr.eA (by omega) (by omega)⟩, fun r' M2 hP' => ?_⟩
    obtain ⟨e2, er2⟩ := hP'.1 hv
    rw [e2]
    exact ⟨by rw [er, er2], h.q hc (fun _ _ _ => rfl) hr (by omega) (rq_F.rf M)⟩
theorem bo_keeps {n : Nat} {M : ab_M} (hn : n ≤ 600) (h : INV n M) {l q : Int} (i1 : ab_ir l) (i2 : ab_ir q) : bo_P S_X8_keeps S_X9_keeps [iV l, iV q] n M := by
  obtain ⟨t, h⟩ := h
  obtain ⟨hc, hr, hl⟩ := id h
  obtain ⟨⟨hw, hsz, hnt, hkn, hnl⟩, e3, e6, e8, e11, -⟩ := hc.1.2.1.sz
  refine ⟨⟨⟨⟨i1, i2⟩, hc.cv⟩, hc.kf⟩, fun r M1 hP => ⟨r, rfl, ?_⟩⟩
  obtain ⟨p1, p2⟩ := hP
  rw [e8] at p1 p2
  by_cases hv : (0 ≤ l ∧ l < ((pz_nl t : Nat) : Int)) ∧ 0 ≤ q ∧ q ≤ 1
  · obtain ⟨hp, v0, v1⟩ := p2 hv
    rw [show l = ((l.toNat : Nat) : Int) by omega] at hp
    obtain ⟨⟨c1, c2⟩, i', c3, ⟨f0, g1, g2⟩, c5, c6⟩ := hc.shr (by omega) (by omega) hp
    have hr1 := h.r1 c2
    refine ⟨wd1 (tx M 3) t, wd2 (tx M 3) t, ⟨⟨hr1.2.1.2.2, i1, i2⟩, hr1.kA (by omega)⟩, fun r' M2 hP' => ?_⟩
    obtain ⟨⟨j1, j2⟩, -, j3⟩ := hr1.ke hP'
    obtain ⟨i2', k1, k2, k3, k4⟩ := j3 hv
    refine ⟨?_, h.q c1 c2 j1 (by omega) j2⟩
    have hi : i' = i2' := by
      by_cases a : i' < i2'
      · obtain ⟨x, x1, x2, x3⟩ := k1 i' a
        exact absurd (c6 x x1 x2) x3
      · by_cases b : i2' < i'
        · obtain ⟨x, x1, x2, x3⟩ := c5 i2' b
          exact absurd (k2 x x1 x2) x3
        · omega
    have hq : q = 0 ∨ q = 1 := by omega
    have : r' = r := by
      rcases hq with z | z
      · obtain ⟨f, f1, f2⟩ := k3 z
        rw [f2, v0 z, g2]
        refine congrArg (fun x : Nat => ((x : Nat) : Int)) (gxm_cg 256 fun x hx => ?_)
        rw [Bool.eq_iff_iff, f1 x hx, g1 x hx, ← hi]
      · rw [k4 z, v1 z, c3, hi]
    rw [this]
  · obtain ⟨e, er⟩ := p1 hv
    rw [e]
    refine ⟨wd1 (tx M 3) t, wd2 (tx M 3) t, ⟨⟨hr.2.1.2.2, i1, i2⟩, hr.kA (by omega)⟩, fun r' M2 hP' => ?_⟩
    obtain ⟨⟨j1, j2⟩, j3, -⟩ := hr.ke hP'
    exact ⟨by rw [er, j3 hv], h.q hc (fun _ _ _ => rfl) j1 (by omega) j2⟩
theorem bo_loop {n : Nat} {M : ab_M} (h : INV n M) {l q : Int} (i1 : ab_ir l) (i2 : ab_ir q) : bo_P S_X8_loop S_X9_loop [iV l, iV q] n M := by
  obtain ⟨t, h⟩ := h
  obtain ⟨hc, hr, hl⟩ := id h
  refine ⟨⟨⟨i1, i2⟩, hc.cv⟩, fun r M1 hP => ⟨r, rfl, ?_⟩⟩
  obtain ⟨⟨c1, c2⟩, c3, c4⟩ := hc.loop hP
  have hr1 := h.r1 c2
  refine ⟨wd2 (tx M 3) t, ⟨⟨hr1.2.1.2.2, i1, i2⟩, fun N hN => (hr1.rd hN).2.lo⟩, fun r' M2 hP' => ?_⟩
  obtain ⟨⟨j1, j2⟩, j3, j4⟩ := hr1.lo' hP'
  refine ⟨?_, h.q c1 c2 j1 (by omega) j2⟩
  have : r' = r := by
    by_cases hv : (0 ≤ l ∧ l < ((pz_nl t : Nat) : Int)) ∧ 0 ≤ q ∧ q ≤ 2
    · obtain ⟨x0, x1, x2⟩ := c4 hv
      obtain ⟨y0, y1, y2⟩ := j4 hv
      have hq : q = 0 ∨ q = 1 ∨ q = 2 := by omega
      rcases hq with z | z | z
      · rw [x0 z, y0 z]
      · rw [x1 z, y1 z]
      · rw [x2 z, y2 z]
    · rw [c3 hv, j3 hv]
  rw [this]
theorem bo_versions {n : Nat} {M : ab_M} (h : INV n M) {v : Int} (i1 : ab_ir v) : bo_P S_X8_versions S_X9_versions [iV v] n M := by
  obtain ⟨t, h⟩ := h
  obtain ⟨hc, hr, hl⟩ := id h
  refine ⟨t, ⟨i1, hc.1.2.1.tr⟩, fun r M1 hP => ⟨r, rfl, ?_⟩⟩
  obtain ⟨p1, p2⟩ := hP
  by_cases hv : 0 ≤ v ∧ v ≤ 3
  · obtain ⟨⟨⟨m1, m2, m3⟩, hf⟩, e⟩ := p2 hv
    obtain ⟨c1, c2⟩ := hc.pass hf
    have hr1 := h.r1 c2
    refine ⟨⟨hr1.pA, i1⟩, fun r' M2 hP' => ?_⟩
    obtain ⟨hpa, e'⟩ := hP'.2 hv
    obtain ⟨⟨j1, j2⟩, g1, g2, g3⟩ := hr1.pa hpa
    refine ⟨?_, h.q c1 c2 j1 (by omega) j2⟩
    rw [e, e', m1 v.toNat (by omega), g1 v.toNat (by omega)]
  · obtain ⟨e, er⟩ := p1 hv
    rw [e]
    refine ⟨⟨hr.pA, i1⟩, fun r' M2 hP' => ?_⟩
    obtain ⟨e2, er2⟩ := hP'.1 hv
    rw [e2]
    exact ⟨by rw [er, er2], h.q hc (fun _ _ _ => rfl) hr (by omega) (rq_F.rf M)⟩
theorem bo_equalities {n : Nat} {M : ab_M} (h : INV n M) : bo_P S_X8_equalities S_X9_equalities [] n M := by
  obtain ⟨t, h⟩ := h
  obtain ⟨hc, hr, hl⟩ := id h
  refine ⟨t, hc.1.2.1.tr, fun r M1 hP => ⟨r, rfl, ?_⟩⟩
  obtain ⟨⟨⟨m1, m2, m3⟩, hf⟩, e⟩ := hP
  obtain ⟨c1, c2⟩ := hc.pass hf
  have hr1 := h.r1 c2
  refine ⟨hr1.pA, fun r' M2 hP' => ?_⟩
  obtain ⟨⟨j1, j2⟩, g1, g2, g3⟩ := hr1.pa hP'.1
  refine ⟨?_, h.q c1 c2 j1 (by omega) j2⟩
  rw [e, hP'.2, m2, g2]
theorem bo_linear {n : Nat} {M : ab_M} (h : INV n M) : bo_P S_X8_linear S_X9_linear [] n M := by
  obtain ⟨t, h⟩ := h
  obtain ⟨hc, hr, hl⟩ := id h
  refine ⟨t, hc.1.2.1.tr, fun r M1 hP => ⟨r, rfl, ?_⟩⟩
  obtain ⟨⟨⟨m1, m2, m3⟩, hf⟩, e⟩ := hP
  obtain ⟨c1, c2⟩ := hc.pass hf
  have hr1 := h.r1 c2
  refine ⟨hr1.pA, fun r' M2 hP' => ?_⟩
  obtain ⟨⟨j1, j2⟩, g1, g2, g3⟩ := hr1.pa hP'.1
  refine ⟨?_, h.q c1 c2 j1 (by omega) j2⟩
  rw [e, hP'.2, m2, g2, m3, g3]
/-- the same for copied(), a long -/
theorem bo_copied {n : Nat} {M : ab_M} (h : INV n M) : S_X8_copied [xO] M (fun v M1 => ∃ r : Int, v = [Xl r] ∧ S_X9_copied [mO] M1 (fun v' M2 => v' = [Xl r] ∧ INV (n + 1) M2)) := by
  obtain ⟨t, h⟩ := h
  obtain ⟨hc, hr, hl⟩ := id h
  obtain ⟨-, -, -, -, -, e4⟩ := hc.1.2.1.sz
  refine ⟨t, -1, ⟨hc.1.2.1.pQ.1, e4, hc.1.2.1.1.ht, hc.1.2.1.pQ.2, hc.1.2.1.pl hc.1.1.1.2.1.1⟩, fun r e => ⟨r, rfl, ⟨hr.2.1.2.2, fun N hN => (hr.rd hN).2.cq⟩, fun r' M2 hP' => ?_⟩⟩
  obtain ⟨⟨j1, j2⟩, j3⟩ := hr.cp hP'.1
  refine ⟨?_, h.q hc (fun _ _ _ => rfl) j1 (by omega) j2⟩
  rw [hP'.2, j3, e]
