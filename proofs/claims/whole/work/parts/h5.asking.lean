/-! both sides, one call: those that ask -/
def lk_P (M : ab_M) : Prop := (M 1 1 = M 797 6 ∧ ∀ k : Nat, (k : Int) < M 1 1 → M 2 k = M 802 k) ∧ tx M 3 = pz_now M ∧ (M 0 13 = M 797 2 ∧ past M = (List.range (M 797 2).toNat).map (im_t M 799)) ∧ (∀ z : Nat, z < 2 → M 25 z = M 801 z ∧ (M 25 z = 1 → tx M (21 + 2 * z) = im_t M 800 z)) ∧ (M 0 14 = M 797 71 ∧ ∀ k : Nat, (k : Int) < M 0 14 → M 795 k = M 846 k ∧ M 796 k = M 847 k ∧ (M 796 k = 0 ∨ M 796 k = 1))
def IN_P (M : ab_M) (n : Nat) (t : pz_T) : Prop := ic_P M t ∧ ir_P M (tx M 3) t ((256 * n : Nat) : Int) ∧ lk_P M
def INV (n : Nat) (M : ab_M) : Prop := ∃ t, IN_P M n t
abbrev xO : ab_V := .inr (.inr (.inr (0, 8, 0)))
abbrev mO : ab_V := .inr (.inr (.inr (797, 9, 0)))
abbrev iV (z : Int) : ab_V := .inr (.inl z)
/-- both answer alike, and what holds between calls holds again -/
def bo_P (S8 S9 : ab_PT) (a : List ab_V) (n : Nat) (M : ab_M) : Prop := S8 (xO :: a) M (fun v M1 => ∃ r : Int, v = [iV r] ∧ S9 (mO :: a) M1 (fun v' M2 => v' = [iV r] ∧ INV (n + 1) M2))
theorem ir_P.le {M : ab_M} {ls : List Int} {t : pz_T} {B B' : Int} (h : ir_P M ls t B) (hB : B ≤ B') : ir_P M ls t B' := by
  obtain ⟨h1, h2, h3, h4, h5, h6, h7, h8⟩ := h
  exact ⟨h1, h2, h3, h4, h5, h6, by omega, h8⟩
theorem im_t_fr {M M' : ab_M} {o : Nat} (h : M' o = M o) (j : Nat) : im_t M' o j = im_t M o j := by
  unfold im_t; rw [h]
theorem IN_P.q {M M1 M2 : ab_M} {n : Nat} {t : pz_T} (h : IN_P M n t) (h1 : ic_P M1 t) (f1 : iq_F M M1) {B : Int} (h2 : ir_P M2 (tx M 3) t B) (hB : B ≤ ((256 * (n + 1) : Nat) : Int)) (f2 : rq_F M1 M2) : INV (n + 1) M2 := by
  obtain ⟨hc, hr, l1, l2, l3, l4, l5⟩ := h
  have f : ∀ o k : Nat, (o < 768 ∨ o = 795 ∨ o = 796 ∨ (798 ≤ o ∧ o ≤ 802) ∨ o = 846 ∨ o = 847 ∨ (o = 797 ∧ (k = 2 ∨ k = 6 ∨ k = 71))) → M2 o k = M o k := fun o k z => (f2 o k (by omega)).trans (f1 o k (by omega))
  obtain ⟨-, e1, e2⟩ := hc.1.fr (M' := M2) fun o k _ => f o k (by omega)
  have e786 : M2 799 = M 799 := funext fun k => f 799 k (by omega)
  have e787 : M2 800 = M 800 := funext fun k => f 800 k (by omega)
  have e785 : M2 798 = M 798 := funext fun k => f 798 k (by omega)
  refine ⟨t, h1.hi fun o k z => f2 o k (by omega), by rw [e2]; exact h2.le hB, ⟨?_, ?_⟩, ?_, ⟨?_, ?_⟩, fun z hz => ?_, ?_, ?_⟩
  · rw [f 1 1 (by omega), f 797 6 (by omega)]; exact l1.1
  · intro k hk; rw [f 1 1 (by omega)] at hk; rw [f 2 k (by omega), f 802 k (by omega)]; exact l1.2 k hk
  · rw [e2, l2]; unfold pz_now; rw [e785]
  · rw [f 0 13 (by omega), f 797 2 (by omega)]; exact l3.1
  · rw [e1, f 797 2 (by omega), l3.2]
    exact List.map_congr_left fun j _ => (im_t_fr e786 j).symm
  · rw [f 25 z (by omega), f 801 z (by omega), (tx_sm (M := M) (M' := M2) (o := 21 + 2 * z) (f _ _ (by omega)) fun k => f _ k (by omega)).1, im_t_fr e787]
    exact l4 z hz
  · rw [f 0 14 (by omega), f 797 71 (by omega)]; exact l5.1
  · intro k hk
    rw [f 0 14 (by omega)] at hk
    rw [f 795 k (by omega), f 796 k (by omega), f 846 k (by omega), f 847 k (by omega)]
    exact l5.2 k hk
theorem IN_P.r1 {M M1 : ab_M} {n : Nat} {t : pz_T} (h : IN_P M n t) (f1 : iq_F M M1) : ir_P M1 (tx M 3) t ((256 * n : Nat) : Int) := h.2.1.lo fun o k z => f1 o k (by omega)
theorem ls_eq {f g : Nat → Int} {n m : Int} (h : pz_ls f n = pz_ls g m) (hn : 0 ≤ n) (hm : 0 ≤ m) : n = m ∧ ∀ k : Nat, (k : Int) < n → f k = g k := by
  have e := congrArg List.length h
  rw [pz_ls_len, pz_ls_len] at e
  have en : n = m := by omega
  refine ⟨en, fun k hk => ?_⟩
  have := congrArg (fun l => l[k]?) h
  simp only [pz_ls_get] at this
  rw [if_pos (by omega), if_pos (by omega)] at this
  exact Option.some.inj this
theorem bq {f g : Nat → Bool} {P : Nat → Prop} (hf : ∀ x : Nat, x < 256 → (f x = true ↔ P x)) (hg : ∀ x : Nat, x < 256 → (g x = true ↔ P x)) : ∀ x : Nat, x < 256 → f x = g x := fun x hx => by
  rw [Bool.eq_iff_iff, hf x hx, hg x hx]
theorem gxm_cg {f g : Nat → Bool} : ∀ n : Nat, (∀ x, x < n → f x = g x) → gx_m f n = gx_m g n
  | 0, _ => rfl
  | n + 1, h => by
    show gx_m f n + _ = gx_m g n + _
    rw [gxm_cg n fun x hx => h x (by omega), h n (by omega)]
theorem gxm_le (f : Nat → Bool) : ∀ n : Nat, gx_m f n ≤ n
  | 0 => Nat.le_refl 0
  | n + 1 => by
    show gx_m f n + (if f n = true then 1 else 0) ≤ n + 1
    have := gxm_le f n
    split <;> omega
theorem gxm_mono {f : Nat → Bool} {x : Nat} : ∀ d : Nat, gx_m f x ≤ gx_m f (x + d)
  | 0 => Nat.le_refl _
  | d + 1 => by
    have := gxm_mono (f := f) (x := x) d
    show gx_m f x ≤ gx_m f (x + d) + _
    omega
theorem gxm_lt {f : Nat → Bool} {x y : Nat} (hx : f x = true) (h : x < y) : gx_m f x < gx_m f y := by
  have := gxm_mono (f := f) (x := x + 1) (y - (x + 1))
  rw [show x + 1 + (y - (x + 1)) = y by omega] at this
  have e : gx_m f (x + 1) = gx_m f x + (if f x = true then 1 else 0) := rfl
  rw [if_pos hx] at e
  omega
theorem wr1_uq {f g : Nat → Bool} {k : Nat} {r r' : Int} (h : wr_1 f k r) (h' : wr_1 g k r') (hfg : ∀ x, x < k → f x = g x) : r = r' := by
  have e := gxm_cg k hfg
  rcases h with ⟨a, b⟩ | ⟨a, x, x1, x2, x3, x4⟩
  · rcases h' with ⟨a', b'⟩ | ⟨a', -⟩
    · omega
    · omega
  · rcases h' with ⟨a', b'⟩ | ⟨a', y, y1, y2, y3, y4⟩
    · omega
    · by_cases c : x < y
      · exact absurd (by rw [← hfg x x1]; exact x2) (y3 x c)
      · by_cases d : y < x
        · exact absurd (by rw [hfg y y1]; exact y2) (x3 y d)
        · rw [x4, y4, show x = y by omega]
theorem env_uq {f g : Nat → Bool} {k r r' : Int} (hk : -1 ≤ k) (h : en_v f k r) (h' : en_v g k r') (hfg : ∀ x, x < 256 → f x = g x) : r = r' := by
  have e := gxm_cg 256 hfg
  by_cases c : k = -1
  · rw [h.1 c, h'.1 c, e]
  · have h := h.2 (by omega)
    have h' := h'.2 (by omega)
    have hgx : ∀ x, x ≤ 256 → gx_m f x = gx_m g x := fun x hx => gxm_cg x fun y hy => hfg y (by omega)
    rcases h with ⟨x, x1, x2, x3, x4⟩ | ⟨a, b⟩
    · rcases h' with ⟨y, y1, y2, y3, y4⟩ | ⟨a', b'⟩
      · have ey := hgx y (by omega)
        have fy : f y = true := by rw [hfg y y1]; exact y2
        by_cases c1 : x < y
        · have := gxm_lt x2 c1; omega
        · by_cases c2 : y < x
          · have := gxm_lt fy c2; omega
          · omega
      · have := gxm_lt x2 x1; omega
    · rcases h' with ⟨y, y1, y2, y3, y4⟩ | ⟨a', b'⟩
      · have := gxm_lt y2 y1; omega
      · omega
theorem bo_told {n : Nat} {M : ab_M} (h : INV n M) {k : Int} (hk : ab_ir k) : bo_P S_X8_told S_X9_told [iV k] n M := by
  obtain ⟨t, h⟩ := h
  obtain ⟨hc, hr, hl⟩ := id h
  have h3 := hc.1.1.1.2.1.1
  have h31 := h3.1
  rw [if_neg (by decide)] at h31
  have hng := hr.2.1.2.2.1
  obtain ⟨e1, e2⟩ := ls_eq hl.2.1 h31.1 hng.1
  refine ⟨⟨hk, h31.1, h31.2, h3.2⟩, fun r hP => ⟨r, rfl, ⟨hk, hng.1, hng.2.1⟩, fun r' hP' => ⟨?_, h.q hc (fun _ _ _ => rfl) hr (by omega) (rq_F.rf M)⟩⟩⟩
  have : r' = r := by
    rw [hP, hP', ← e1]
    by_cases c1 : k < -1
    · rw [if_pos c1, if_pos c1]
    · rw [if_neg c1, if_neg c1]
      by_cases c2 : k = -1
      · rw [if_pos c2, if_pos c2]
      · rw [if_neg c2, if_neg c2]
        by_cases c3 : k < M 3 1
        · rw [if_pos c3, if_pos c3, e2 k.toNat (by omega)]
        · rw [if_neg c3, if_neg c3]
  rw [this]
theorem bo_kind {n : Nat} {M : ab_M} (h : INV n M) {c : Int} (hk : ab_ir c) : bo_P S_X8_kind S_X9_kind [iV c] n M := by
  obtain ⟨t, h⟩ := h
  obtain ⟨hc, hr, hl⟩ := id h
  obtain ⟨⟨hw, hsz, hnt, hkn, hnl⟩, e3, e6, e8, e11, -⟩ := hc.1.2.1.sz
  refine ⟨⟨hk, by omega, by omega⟩, fun r hP => ⟨r, rfl, ⟨hr.2.1.2.2, hk⟩, fun r' N hN hP' => ?_⟩⟩
  obtain ⟨hI, hK⟩ := hr.rd hN
  obtain ⟨n1, n2, n3, n4⟩ := hK.num
  refine ⟨?_, h.q hc (fun _ _ _ => rfl) hI (by omega) (rq_F.rd hN)⟩
  have : r' = r := by
    rw [hP, hP', n2, e6]
    by_cases c1 : 0 ≤ c ∧ c < ((pz_kn t : Nat) : Int)
    · rw [if_pos c1, if_pos c1]
      have hlen := pz_kds_fl t hw 0 0 0
      have hg : (pz_kds (pz_fl t 0 0 0))[c.toNat]? = some ((pz_kds (pz_fl t 0 0 0))[c.toNat]'(by omega)) := List.getElem?_eq_getElem (by omega)
      rw [n4 _ _ hg]
      exact (hc.1.2.1.2.1.2.2 _ _ hg).symm
    · rw [if_neg c1, if_neg c1]
  rw [this]
theorem bo_count {n : Nat} {M : ab_M} (h : INV n M) {w : Int} (hk : ab_ir w) : bo_P S_X8_count S_X9_count [iV w] n M := by
  obtain ⟨t, h⟩ := h
  obtain ⟨hc, hr, hl⟩ := id h
  obtain ⟨-, e3, e6, e8, -⟩ := hc.1.2.1.sz
  refine ⟨hk, fun r hP => ⟨r, rfl, ⟨hr.2.1.2.2, hk⟩, fun r' N hN hP' => ?_⟩⟩
  obtain ⟨hI, hK⟩ := hr.rd hN
  obtain ⟨n1, n2, n3, n4⟩ := hK.num
  have hq := rq_F.rd hN
  refine ⟨?_, h.q hc (fun _ _ _ => rfl) hI (by omega) hq⟩
  have : r' = r := by
    rw [hP, hP', n1, n2, n3, hq 797 71 (by omega), hq 797 6 (by omega), hq 797 2 (by omega), e3, e6, e8, hl.1.1, hl.2.2.1.1, hl.2.2.2.2.1]
  rw [this]
theorem cm_f {M : ab_M} {t : pz_T} {md c : Int} (hmd : md = 0 ∨ md = 1) (hm : cm_R M t md.toNat) (hc : 0 ≤ c ∧ c < 32) : ∀ x : Nat, x < 256 → (wy_f M md c x = true ↔ mo_P md t x c.toNat) := fun x hx => by
  have := hm x hx c.toNat (by omega)
  rw [show ((md.toNat : Nat) : Int) = md by omega] at this
  exact this
theorem mk_f {M : ab_M} {t : pz_T} {md c : Int} (hmd : md = 0 ∨ md = 1) (hm : mk_R M t md.toNat) (hc : 0 ≤ c ∧ c < 32) : ∀ x : Nat, x < 256 → (wr_f M md c x = true ↔ mo_P md t x c.toNat) := fun x hx => by
  have := hm x hx c.toNat (by omega)
  rw [show ((md.toNat : Nat) : Int) = md by omega] at this
  exact this
theorem bo_wrong {n : Nat} {M : ab_M} (h : INV n M) {md c q : Int} (i1 : ab_ir md) (i2 : ab_ir c) (i3 : ab_ir q) : bo_P S_X8_wrong S_X9_wrong [iV md, iV c, iV q] n M := by
  obtain ⟨t, h⟩ := h
  obtain ⟨hc, hr, hl⟩ := id h
  obtain ⟨⟨hw, hsz, hnt, hkn, hnl⟩, e3, e6, e8, e11, -⟩ := hc.1.2.1.sz
  refine ⟨⟨⟨i1, i2, i3⟩, hc.pp, by omega, by omega⟩, fun r M1 hP => ⟨r, rfl, ?_⟩⟩
  obtain ⟨p1, p2⟩ := hP
  rw [e6] at p1 p2
  have hcl : ic_P M1 t ∧ iq_F M M1 ∧ ((0 ≤ md ∧ md ≤ 1) ∧ (0 ≤ c ∧ c < ((pz_kn t : Nat) : Int)) ∧ 0 ≤ q ∧ q ≤ 1 → cm_R M1 t md.toNat) := by
    by_cases hv : (0 ≤ md ∧ md ≤ 1) ∧ (0 ≤ c ∧ c < ((pz_kn t : Nat) : Int)) ∧ 0 ≤ q ∧ q ≤ 1
    · have hp := (p2 hv).1
      rw [show md = ((md.toNat : Nat) : Int) by omega] at hp
      obtain ⟨⟨x1, x2⟩, x3⟩ := hc.prep (by omega) hp
      exact ⟨x1, x2, fun _ => x3⟩
    · rw [(p1 hv).1]; exact ⟨hc, fun _ _ _ => rfl, fun z => absurd z hv⟩
  obtain ⟨c1, c2, c3⟩ := hcl
  have hr1 := h.r1 c2
  refine ⟨wd1 (tx M 3) t, wd2 (tx M 3) t, ⟨⟨i1, i2, i3⟩, fun z => hr1.fA (by omega)⟩, fun r' M2 hP' => ?_⟩
  obtain ⟨s1, s2⟩ := hP'
  by_cases hm : 0 ≤ md ∧ md ≤ 1
  · obtain ⟨N, hN, s3, s4⟩ := s2 hm
    obtain ⟨hI, hK⟩ := hr1.rd hN
    rw [hK.num.2.1] at s3 s4
    by_cases hv : (0 ≤ c ∧ c < ((pz_kn t : Nat) : Int)) ∧ 0 ≤ q ∧ q ≤ 1
    · obtain ⟨s5, s6, s7⟩ := s4 hv
      obtain ⟨p3, p4, p5⟩ := p2 ⟨hm, hv⟩
      rw [show md = ((md.toNat : Nat) : Int) by omega] at s5
      obtain ⟨⟨j1, -, j3⟩, j4⟩ := hr1.fm (by omega) s5
      refine ⟨?_, h.q c1 c2 j1 (by omega) j3⟩
      have hfg := bq (cm_f (c := c) (by omega) (c3 ⟨hm, hv⟩) (by omega)) (mk_f (c := c) (by omega) j4 (by omega))
      have : r' = r := by
        have hq : q = 0 ∨ q = 1 := by omega
        rcases hq with z | z
        · rw [s6 z, p4 z, gxm_cg 256 hfg]
        · exact (wr1_uq (p5 z) (s7 z) hfg).symm
      rw [this]
    · obtain ⟨e, er⟩ := s3 hv
      rw [e]
      refine ⟨?_, h.q c1 c2 hI (by omega) (rq_F.rd hN)⟩
      rw [er, (p1 fun z => hv z.2).2]
  · obtain ⟨e, er⟩ := s1 hm
    rw [e]
    refine ⟨?_, h.q c1 c2 hr1 (by omega) (rq_F.rf M1)⟩
    rw [er, (p1 fun z => hm z.1).2]
