/-! what holds of the reference between calls -/
/-- a text kept as an image: its letters, then its length at 640 -/
def im_t (M : ab_M) (o j : Nat) : List Int := pz_ls (fun i => M o (641 * j + i)) (M o (641 * j + 640))
def im_ok (M : ab_M) (o j : Nat) : Prop := (0 ≤ M o (641 * j + 640) ∧ M o (641 * j + 640) ≤ 640) ∧ (∀ k : Nat, (k : Int) < M o (641 * j + 640) → 0 ≤ M o (641 * j + k) ∧ M o (641 * j + k) < 256) ∧ ∃ t', gd (im_t M o j) t'
def ru_P (M : ab_M) : Prop := ((0 ≤ M 797 6 ∧ M 797 6 ≤ 120) ∧ ∀ k : Nat, (k : Int) < M 797 6 → 0 ≤ M 802 k ∧ M 802 k < 256) ∧ ((0 ≤ M 797 2 ∧ M 797 2 ≤ 6) ∧ ∀ j : Nat, (j : Int) < M 797 2 → im_ok M 799 j) ∧ (∀ z : Nat, z < 2 → M 801 z = 0 ∨ (M 801 z = 1 ∧ im_ok M 800 z)) ∧ is_A M
def rr_P (M : ab_M) (ls : List Int) (t : pz_T) : Prop := gd ls t ∧ pz_now M = ls ∧ pz_PR M
def rc_P (M : ab_M) (t : pz_T) : Prop := ab_ir (M 797 29) ∧ em_G M ∧ (M 797 29 = 0 → ld_P M t 0) ∧ (M 797 29 = 1 → ld_P M t 1 ∧ kb_P M t)
def rm_P (M : ab_M) (t : pz_T) : Prop := ∀ md : Nat, md < 2 → M 816 md = 0 ∨ (M 816 md = 1 ∧ mk_R M t md)
def rs_P (M : ab_M) (t : pz_T) : Prop := pa_G M ∧ (M 797 31 = 0 ∨ M 797 31 = 1) ∧ (M 797 31 = 1 → pq_g M (ps_t t (fun _ => 0) (fun _ => 0, 0, 0)).1)
def rt_P (M : ab_M) (B : Int) : Prop := gt_B M ∧ M 797 44 ≤ B ∧ lv_B M
def ir_P (M : ab_M) (ls : List Int) (t : pz_T) (B : Int) : Prop := ru_P M ∧ rr_P M ls t ∧ rc_P M t ∧ rm_P M t ∧ rs_P M t ∧ rt_P M B
theorem ru_P.fr {M M' : ab_M} (h : ru_P M) (hf : ∀ o k : Nat, (799 ≤ o ∧ o ≤ 802) ∨ o = 846 ∨ o = 847 ∨ (o = 797 ∧ (k = 2 ∨ k = 6 ∨ k = 71)) → M' o k = M o k) : ru_P M' := by
  have e6 := hf 797 6 (by omega)
  have e2 := hf 797 2 (by omega)
  have e7 := hf 797 71 (by omega)
  have e786 : M' 799 = M 799 := funext fun k => hf 799 k (by omega)
  have e787 : M' 800 = M 800 := funext fun k => hf 800 k (by omega)
  have e788 : M' 801 = M 801 := funext fun k => hf 801 k (by omega)
  have e789 : M' 802 = M 802 := funext fun k => hf 802 k (by omega)
  have e834 : M' 847 = M 847 := funext fun k => hf 847 k (by omega)
  unfold ru_P im_ok im_t is_A at h ⊢
  rw [e6, e2, e7, e786, e787, e788, e789, e834]
  exact h
theorem rr_P.fr {M M' : ab_M} {ls : List Int} {t : pz_T} (h : rr_P M ls t) (hf : ∀ o k : Nat, o = 798 ∨ o = 803 ∨ (805 ≤ o ∧ o ≤ 814) ∨ (o = 797 ∧ (k = 9 ∨ k = 10 ∨ k = 19 ∨ k = 20 ∨ k = 21 ∨ k = 28)) → M' o k = M o k) (h27 : M' 797 27 = 0 ∨ (M' 797 27 = M 797 27 ∧ ∀ k, M' 815 k = M 815 k)) : rr_P M' ls t := by
  obtain ⟨hg, hn, ⟨n1, n2, n3, n4, n5, n6⟩, hE, hK⟩ := h
  have e785 : M' 798 = M 798 := funext fun k => hf 798 k (by omega)
  have e790 : M' 803 = M 803 := funext fun k => hf 803 k (by omega)
  have e9 := hf 797 9 (by omega)
  have e10 := hf 797 10 (by omega)
  have e19 := hf 797 19 (by omega)
  have e20 := hf 797 20 (by omega)
  have e21 := hf 797 21 (by omega)
  have e28 := hf 797 28 (by omega)
  have e792 : M' 805 = M 805 := funext fun k => hf 805 k (by omega)
  have e793 : M' 806 = M 806 := funext fun k => hf 806 k (by omega)
  have e794 : M' 807 = M 807 := funext fun k => hf 807 k (by omega)
  have e795 : M' 808 = M 808 := funext fun k => hf 808 k (by omega)
  have e796 : M' 809 = M 809 := funext fun k => hf 809 k (by omega)
  have e797 : M' 810 = M 810 := funext fun k => hf 810 k (by omega)
  have e798 : M' 811 = M 811 := funext fun k => hf 811 k (by omega)
  have e799 : M' 812 = M 812 := funext fun k => hf 812 k (by omega)
  have e800 : M' 813 = M 813 := funext fun k => hf 813 k (by omega)
  have e801 : M' 814 = M 814 := funext fun k => hf 814 k (by omega)
  have en : pz_now M' = pz_now M := by unfold pz_now; rw [e785]
  have eE : pz_E M' = pz_E M := by
    unfold pz_E
    rw [e10]
    have : pz_ev M' = pz_ev M := by
      funext i
      unfold pz_ev
      rw [e792, e793, e794, e795, e796, e797, e798, e799]
    rw [this]
  refine ⟨hg, by rw [en]; exact hn, ⟨by rw [e785]; exact n1, by rw [e785]; exact n2, by rw [e785]; exact n3, by rw [e790]; exact n4, by rw [en]; exact n5, by rw [e28]; exact n6⟩, by rw [en]; exact hE, fun z => ?_⟩
  rw [e28] at z
  obtain ⟨k1, k2, k3, k4, k5⟩ := hK z
  refine ⟨by rw [e28]; exact k1, by rw [e790]; exact k2, by rw [en, ← k3]; unfold pz_L; rw [e790, e9], ?_, by rw [en, eE]; exact k5⟩
  obtain ⟨⟨i1, i2, i3, i4⟩, i5, i6, i7, i8, i9⟩ := k4
  unfold pz_RI
  rw [e10, e19, e20, e21, e792, e793, e799, e800, e801, eE]
  refine ⟨⟨i1, i2, ?_, ?_⟩, i5, i6, i7, ?_, i9⟩
  · rcases h27 with y | y
    · omega
    · omega
  · rcases h27 with y | y
    · omega
    · omega
  · rcases h27 with y | ⟨y1, y2⟩
    · intro i hi; omega
    · intro i hi; rw [y1] at hi; rw [y2]; exact i8 i hi
theorem ld_P.fr {M M' : ab_M} {t : pz_T} {md : Int} (h : ld_P M t md) (hf : ∀ o k : Nat, (818 ≤ o ∧ o ≤ 822) ∨ (o = 797 ∧ k = 33) → M' o k = M o k) : ld_P M' t md := by
  obtain ⟨h1, h2, n, h3⟩ := h
  refine ⟨by rw [hf 797 33 (by omega)]; exact h1, h2, n, h3.same fun i _ _ => ⟨fun o a b => hf o i (by omega), fun s _ => hf 822 _ (by omega)⟩⟩
theorem rc_P.fr {M M' : ab_M} {t : pz_T} (h : rc_P M t) (hf : ∀ o k : Nat, (818 ≤ o ∧ o ≤ 824) ∨ (o = 797 ∧ (k = 29 ∨ k = 33)) → M' o k = M o k) : rc_P M' t := by
  obtain ⟨h1, ⟨g1, g2, g3⟩, h3, h4⟩ := h
  have e29 := hf 797 29 (by omega)
  unfold rc_P
  rw [e29]
  refine ⟨h1, ⟨fun j => by rw [hf 823 j (by omega)]; exact g1 j, fun j => by rw [hf 824 j (by omega)]; exact g2 j, fun j => by rw [hf 821 j (by omega)]; exact g3 j⟩, fun z => (h3 z).fr fun o k x => hf o k (by omega), fun z => ⟨(h4 z).1.fr fun o k x => hf o k (by omega), fun l hl => ?_⟩⟩
  obtain ⟨β, ⟨b1, b2⟩, b3⟩ := (h4 z).2 l hl
  exact ⟨β, ⟨by rw [hf 823 _ (by omega)]; exact b1, by rw [hf 824 _ (by omega)]; exact b2⟩, b3⟩
theorem rm_P.fr {M M' : ab_M} {t : pz_T} (h : rm_P M t) (hf : ∀ o k : Nat, o = 816 ∨ o = 826 → M' o k = M o k) : rm_P M' t := fun md hmd => by
  rw [hf 816 md (by omega)]
  exact (h md hmd).imp id fun ⟨a, b⟩ => ⟨a, fun s hs x hx => by rw [hf 826 _ (by omega)]; exact b s hs x hx⟩
theorem rs_P.fr {M M' : ab_M} {t : pz_T} (h : rs_P M t) (hf : ∀ o k : Nat, (834 ≤ o ∧ o ≤ 841) ∨ (o = 797 ∧ (k = 31 ∨ k = 58 ∨ k = 59)) → M' o k = M o k) : rs_P M' t := by
  obtain ⟨⟨g1, g2, g3, g4⟩, h2, h3⟩ := h
  refine ⟨⟨fun i => by rw [hf 838 i (by omega)]; exact g1 i, fun i => by rw [hf 839 i (by omega)]; exact g2 i, fun j => by rw [hf 834 j (by omega), hf 836 j (by omega), hf 837 j (by omega), hf 840 j (by omega)]; exact g3 j, fun j => by rw [hf 841 j (by omega)]; exact g4 j⟩, by rw [hf 797 31 (by omega)]; exact h2, fun z => ?_⟩
  rw [hf 797 31 (by omega)] at z
  obtain ⟨a, b, c⟩ := h3 z
  exact ⟨fun v hv => by rw [hf 835 v (by omega)]; exact a v hv, by rw [hf 797 58 (by omega)]; exact b, by rw [hf 797 59 (by omega)]; exact c⟩
theorem rt_P.fr {M M' : ab_M} {B : Int} (h : rt_P M B) (hf : ∀ o k : Nat, o = 827 ∨ o = 829 ∨ o = 830 ∨ o = 831 ∨ o = 832 ∨ (o = 797 ∧ k = 44) → M' o k = M o k) : rt_P M' B := by
  obtain ⟨⟨g1, g2⟩, h2, l1, l2⟩ := h
  have e := hf 797 44 (by omega)
  refine ⟨⟨by rw [e]; exact g1, fun j => by rw [e, hf 827 j (by omega), hf 829 j (by omega), hf 830 j (by omega)]; exact g2 j⟩, by rw [e]; exact h2, fun k => by rw [hf 832 k (by omega)]; exact l1 k, fun k => by rw [hf 831 k (by omega)]; exact l2 k⟩
theorem ir_P.lo {M M' : ab_M} {ls : List Int} {t : pz_T} {B : Int} (h : ir_P M ls t B) (hf : ∀ o k : Nat, 797 ≤ o → M' o k = M o k) : ir_P M' ls t B := by
  obtain ⟨h1, h2, h3, h4, h5, h6⟩ := h
  exact ⟨h1.fr fun o k _ => hf o k (by omega), h2.fr (fun o k _ => hf o k (by omega)) (.inr ⟨hf _ _ (by omega), fun k => hf _ _ (by omega)⟩), h3.fr fun o k _ => hf o k (by omega), h4.fr fun o k _ => hf o k (by omega), h5.fr fun o k _ => hf o k (by omega), h6.fr fun o k _ => hf o k (by omega)⟩
/-- after a reading -/
theorem ir_P.rd {M N : ab_M} {ls : List Int} {t : pz_T} {B : Int} (h : ir_P M ls t B) (hr : pz_rdn M N) : ir_P N ls t B ∧ rk_P N ls t := by
  obtain ⟨h1, ⟨g1, g2, g3⟩, h3, h4, h5, h6⟩ := h
  have hPR := pz_rdn.PR g3 hr
  obtain ⟨r1, ⟨r2, r3⟩, r4⟩ := hr
  have en : pz_now N = ls := by
    rw [← g2]
    have e785 : N 798 = M 798 := funext fun k => r2 798 k (by decide) (by decide) (by omega)
    unfold pz_now; rw [e785]
  have f : ∀ o k : Nat, o ≠ 803 → ¬ (805 ≤ o ∧ o ≤ 815) → ¬ (o = 797 ∧ (k = 9 ∨ k = 10 ∨ k = 19 ∨ k = 20 ∨ k = 21 ∨ k = 24 ∨ k = 25 ∨ k = 27 ∨ k = 28)) → N o k = M o k := by
    intro o k a b c
    by_cases z : o = 797
    · subst z
      exact r3 k (by omega) (by omega) (by omega) (by omega) (by omega) (by omega) (by omega) (by omega) (by omega)
    · exact r2 o k z a b
  exact ⟨⟨h1.fr fun o k _ => f o k (by omega) (by omega) (by omega), ⟨g1, en, hPR⟩, h3.fr fun o k _ => f o k (by omega) (by omega) (by omega), h4.fr fun o k _ => f o k (by omega) (by omega) (by omega), h5.fr fun o k _ => f o k (by omega) (by omega) (by omega), h6.fr fun o k _ => f o k (by omega) (by omega) (by omega)⟩, g1, r4, en⟩
/-- what queries of the reference leave alone -/
def rq_F (M M' : ab_M) : Prop := ∀ o k : Nat, (o < 797 ∨ (798 ≤ o ∧ o ≤ 802) ∨ o = 846 ∨ o = 847 ∨ (o = 797 ∧ (k = 2 ∨ k = 6 ∨ k = 71))) → M' o k = M o k
theorem rq_F.rf (M : ab_M) : rq_F M M := fun _ _ _ => rfl
theorem rq_F.tr {A B C : ab_M} (h : rq_F A B) (h' : rq_F B C) : rq_F A C := fun o k z => (h' o k z).trans (h o k z)
theorem rq_F.rd {M N : ab_M} (hr : pz_rdn M N) : rq_F M N := fun o k z => by
  obtain ⟨-, ⟨r2, r3⟩, -⟩ := hr
  by_cases y : o = 797
  · subst y
    exact r3 k (by omega) (by omega) (by omega) (by omega) (by omega) (by omega) (by omega) (by omega) (by omega)
  · exact r2 o k y (by omega) (by omega)
theorem ir_P.la {M M2 : ab_M} {ls : List Int} {t : pz_T} {B md : Int} (hmd : md = 0 ∨ md = 1) (h : ir_P M ls t B) (hl : la_P M M2 md (wd1 ls t) (wd2 ls t)) : (ir_P M2 ls t B ∧ rk_P M2 ls t ∧ rq_F M M2) ∧ ld_P M2 t md ∧ (md = 1 → kb_P M2 t) := by
  obtain ⟨N, hr, hN⟩ := hl
  obtain ⟨hI, hk⟩ := h.rd hr
  rcases hN with ⟨e, rfl⟩ | ⟨e, hC, hI2⟩
  · obtain ⟨-, -, ⟨-, -, c0, c1⟩, -⟩ := id hI
    refine ⟨⟨hI, hk, rq_F.rd hr⟩, ?_, fun z => (c1 (by omega)).2⟩
    rcases hmd with z | z
    · rw [z]; exact c0 (by omega)
    · rw [z]; exact (c1 (by omega)).1
  · obtain ⟨i1, i2, i3, i4, i5, i6⟩ := hI
    obtain ⟨l1, l2⟩ := ld_of hk i3.2.1 hC hI2
    obtain ⟨a1, a2, ⟨a3, -⟩, -, a5⟩ := hI2
    have e27 : M2 797 27 = 0 := by rw [a3]; exact hk.cq.2.1
    have hI2' : ir_P M2 ls t B := by
      refine ⟨i1.fr fun o k _ => a1 o k (by omega) (by omega) (by omega), i2.fr (fun o k _ => a1 o k (by omega) (by omega) (by omega)) (.inl e27), ⟨?_, a5, fun z => ?_, fun z => ?_⟩, i4.fr fun o k _ => a1 o k (by omega) (by omega) (by omega), i5.fr fun o k _ => a1 o k (by omega) (by omega) (by omega), i6.fr fun o k _ => a1 o k (by omega) (by omega) (by omega)⟩
      · rw [a2]; rcases hmd with z | z <;> (rw [z]; exact ⟨by decide, by decide⟩)
      · rw [a2] at z; rw [z] at l1; exact l1
      · rw [a2] at z; rw [z] at l1; exact ⟨l1, l2 z⟩
    have hq : rq_F M M2 := (rq_F.rd hr).tr fun o k z => a1 o k (by omega) (by omega) (by omega)
    have h28 := hk.2.1.1
    have e28 : M2 797 28 = 1 := (a1 797 28 (by omega) (by omega) (by omega)).trans h28
    exact ⟨⟨hI2', ⟨hI2'.2.1.1, hI2'.2.1.2.2.2.2 e28, hI2'.2.1.2.1⟩, hq⟩, l1, l2⟩
theorem ir_P.lA {M N : ab_M} {ls : List Int} {t : pz_T} {B : Int} (h : ir_P M ls t B) (hr : pz_rdn M N) (md : Int) : la_A N md (wd1 ls t) (wd2 ls t) := by
  obtain ⟨hI, hk⟩ := h.rd hr
  exact hk.la hI.2.2.1.2.1 md
theorem ir_P.fA {M : ab_M} {ls : List Int} {t : pz_T} {B md : Int} (hmd : md = 0 ∨ md = 1) (h : ir_P M ls t B) : fm_A M md (wd1 ls t) (wd2 ls t) := by
  refine ⟨hmd, h.2.1.2.2, h.2.2.1.1, ?_, fun N hr => h.lA hr md, fun N M2 hr hl => ?_⟩
  · rcases h.2.2.2.1 md.toNat (by omega) with z | z
    · exact .inl z
    · exact .inr z.1
  · obtain ⟨-, l1, -⟩ := (h.rd hr).1.la hmd hl
    have hg := h.2.1.1
    exact (l1.fr (M' := ab_up M2 816 md.toNat 1) fun o k _ => up_ne (by omega)).K hg.1.1 hg.2.2.1.1
theorem ir_P.fm {M M' : ab_M} {ls : List Int} {t : pz_T} {B : Int} {md : Nat} (hmd : md = 0 ∨ md = 1) (h : ir_P M ls t B) (hf : fm_P M M' ((md : Nat) : Int) (wd1 ls t) (wd2 ls t)) : (ir_P M' ls t B ∧ rk_P M' ls t ∧ rq_F M M') ∧ mk_R M' t md := by
  obtain ⟨N, hr, hN⟩ := hf
  obtain ⟨hI, hk⟩ := h.rd hr
  have hm : ((md : Nat) : Int) = 0 ∨ ((md : Nat) : Int) = 1 := by omega
  rw [Int.toNat_natCast] at hN
  rcases hN with ⟨e, rfl⟩ | ⟨e, M2, hl, hD⟩
  · refine ⟨⟨hI, hk, rq_F.rd hr⟩, ?_⟩
    rcases hI.2.2.2.1 md (by omega) with z | z
    · exact absurd z e
    · exact z.2
  · obtain ⟨⟨g1, g2, g3⟩, l1, -⟩ := hI.la hm hl
    have hg := h.2.1.1
    have hl2 := l1.fr (M' := ab_up M2 816 md 1) fun o k _ => up_ne (by omega)
    have hmk := hl2.masks hmd hg.1.1 hg.2.2.1.1 hD
    obtain ⟨d1, -⟩ := hD
    have f : ∀ o k : Nat, o ≠ 825 → o ≠ 826 → o ≠ 816 → M' o k = M2 o k := fun o k a b c => (d1 o k a (by omega)).trans (up_ne (by omega))
    obtain ⟨i1, i2, i3, i4, i5, i6⟩ := g1
    have hI' : ir_P M' ls t B := by
      refine ⟨i1.fr fun o k _ => f o k (by omega) (by omega) (by omega), i2.fr (fun o k _ => f o k (by omega) (by omega) (by omega)) (.inr ⟨f _ _ (by omega) (by omega) (by omega), fun k => f _ _ (by omega) (by omega) (by omega)⟩), i3.fr fun o k _ => f o k (by omega) (by omega) (by omega), fun m hm2 => ?_, i5.fr fun o k _ => f o k (by omega) (by omega) (by omega), i6.fr fun o k _ => f o k (by omega) (by omega) (by omega)⟩
      by_cases z : m = md
      · rw [z]
        exact .inr ⟨(d1 816 md (by omega) (by omega)).trans (ab_up_s ..), hmk⟩
      · rw [d1 816 m (by omega) (by omega), up_ne (by omega)]
        exact (i4 m hm2).imp id fun ⟨a, b⟩ => ⟨a, fun s hs x hx => by rw [d1 826 _ (by omega) (by omega), up_ne (by omega)]; exact b s hs x hx⟩
    have hq : rq_F M M' := ((rq_F.rd hr).tr g3).tr fun o k z => f o k (by omega) (by omega) (by omega)
    have e28 : M' 797 28 = 1 := (f 797 28 (by omega) (by omega) (by omega)).trans g2.2.1.1
    exact ⟨⟨hI', ⟨hI'.2.1.1, hI'.2.1.2.2.2.2 e28, hI'.2.1.2.1⟩, hq⟩, hmk⟩
