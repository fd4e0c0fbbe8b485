/-! both sides, one call: invariant, undo, keep, back -/
theorem gd.ib {ls : List Int} {t : pz_T} (h : gd ls t) : pz_IB ls (pz_fl t 0 0 0) := by
  intro l e hle
  have hw := h.1.1
  have hlt := (List.getElem?_eq_some_iff.1 hle).1
  rw [pz_lps_c7, pz_c7_fl t hw] at hlt
  obtain ⟨q', ⟨e1, e2⟩, e3⟩ := lp_ev t hw l hlt 0 0 0
  have he : e = lp_e t l := Option.some.inj (hle.symm.trans e1)
  have hE : (pz_fl t 0 0 0).getD e pz_d0 = pz_evP (lp_P t l) q' (0 + lp_c t l) := by rw [he, List.getD_eq_getElem?_getD, e2]; rfl
  obtain ⟨⟨w1, w2, -⟩, -, w4⟩ := lp_wf t hw l hlt
  have h2 := gm_w2 w1 (.inr w2)
  have hl2 := (w4 120 h.2.2.2.1).2.2
  have hsp := (h.sp hlt h2.2 (by omega)).2
  have hg2 := gm_len2 t hw l hlt h.2.2.2.1
  have hnl := h.2.2.1.2
  have hgm := h.2.2.2.2
  rw [hE]
  have o1 : pz_oth (pz_evP (lp_P t l) q' (0 + lp_c t l)) = ((lp_o t l : Nat) : Int) := by
    show ((q' + 1 + (if (lp_P t l).1 = 1 then 1 else 0) + (lp_P t l).2.2.1.length + (if (lp_P t l).1 = 5 then 1 else 0) : Nat) : Int) = _
    rw [if_neg (by omega), if_neg (by omega)]
    omega
  have o2 : pz_ots (pz_evP (lp_P t l) q' (0 + lp_c t l)) = (((lp_P t l).2.2.2.length : Nat) : Int) := rfl
  rw [o1, o2]
  have hlen : ls.length = (pz_pr t).length := by rw [h.1.2.2]
  exact ⟨by omega, by omega, by omega, by omega⟩
theorem bo_invariant {n : Nat} {M : ab_M} (h : INV n M) {l : Int} (i1 : ab_ir l) : bo_P S_X8_invariant S_X9_invariant [iV l] n M := by
  obtain ⟨t, h⟩ := h
  obtain ⟨hc, hr, hl⟩ := id h
  have h0 := hc.2.1.1.1
  rw [if_pos rfl] at h0
  have hg := hr.2.1.1
  have hw := hg.1.1
  obtain ⟨-, e3, e6, e8, -⟩ := hc.1.2.1.sz
  refine ⟨t, ⟨i1, hc.1.1.1, hc.2.1.1, hc.1.1.2.2, hc.1.2.1⟩, fun r M1 hP => ⟨r, rfl, ?_⟩⟩
  obtain ⟨p1, p2⟩ := hP
  rw [e8] at p1 p2
  have hgM : ∀ o k : Nat, 797 ≤ o → M1 o k = M o k := by
    by_cases hv : 0 ≤ l ∧ l < ((pz_nl t : Nat) : Int)
    · obtain ⟨x1, x2⟩ := p2 hv
      by_cases z : pz_f1 (cr_L 1 M) = -9
      · exact fun o k y => (x2 z).1.1 o k (by omega) (by omega) (by omega) (by omega) (by omega) (by omega) (by omega) (by omega)
      · exact fun o k y => (x1 z).1 o k (by omega) (by omega)
    · rw [(p1 hv).1]; exact fun _ _ _ => rfl
  have hr1 := hr.lo hgM
  have hpl := (hl.pl h0.1).1
  have e789 : M1 802 = M 802 := funext fun k => hgM 802 k (by omega)
  have e785 : M1 798 = M 798 := funext fun k => hgM 798 k (by omega)
  have epl : pz_pl M1 = pz_pl M := by
    unfold pz_pl
    rw [hgM 797 6 (by omega), e789]
  have enow : pz_now M1 = tx M 3 := hr1.2.1.2.1
  refine ⟨⟨hr1.2.1.2.2, hr1.1.1.1, hr1.1.1.2, hr1.1.2.1.1, fun E hE => ?_, i1⟩, fun r' M2 hP' => ?_⟩
  · rw [enow] at hE ⊢
    have := hg.2.1
    rw [hE] at this
    rw [Sum.inr.inj this]
    exact hg.ib
  have hP' := hP' (pz_fl t 0 0 0) (by rw [enow]; exact hg.2.1)
  have hlen : (pz_lps (pz_fl t 0 0 0)).length = pz_nl t := by rw [pz_lps_c7, pz_c7_fl t hw]
  rw [hlen] at hP'
  obtain ⟨s1, s2⟩ := hP'
  by_cases hv : 0 ≤ l ∧ l < ((pz_nl t : Nat) : Int)
  · obtain ⟨x1, x2⟩ := p2 hv
    have hlt : l.toNat < pz_nl t := by omega
    obtain ⟨q', ⟨a1, a2⟩, a3⟩ := lp_ev t hw l.toNat hlt 0 0 0
    obtain ⟨hgf, hnk, y1, y2⟩ := s2 (lp_e t l.toNat) hv.1 a1
    have hE : (pz_fl t 0 0 0).getD (lp_e t l.toNat) pz_d0 = pz_evP (lp_P t l.toNat) q' (0 + lp_c t l.toNat) := by rw [List.getD_eq_getElem?_getD, a2]; rfl
    obtain ⟨⟨w1, w2, -⟩, -, w4⟩ := lp_wf t hw l.toNat hlt
    have o1 : pz_oth ((pz_fl t 0 0 0).getD (lp_e t l.toNat) pz_d0) = ((lp_o t l.toNat : Nat) : Int) := by
      rw [hE]
      show ((q' + 1 + (if (lp_P t l.toNat).1 = 1 then 1 else 0) + (lp_P t l.toNat).2.2.1.length + (if (lp_P t l.toNat).1 = 5 then 1 else 0) : Nat) : Int) = _
      rw [if_neg (by omega), if_neg (by omega)]
      omega
    have o2 : pz_ots ((pz_fl t 0 0 0).getD (lp_e t l.toNat) pz_d0) = (((lp_P t l.toNat).2.2.2.length : Nat) : Int) := by rw [hE]; rfl
    have hib := hg.ib l.toNat (lp_e t l.toNat) a1
    rw [epl, ← hpl] at y1 y2
    by_cases z : pz_f1 (cr_L 1 M) = -9
    · obtain ⟨hct, er⟩ := x2 z
      obtain ⟨g1, hpt, g6, g640, gnow, glet⟩ := y2 z
      rw [o1, o2, enow, Int.toNat_natCast, Int.toNat_natCast] at gnow
      obtain ⟨t', hpd⟩ := hct.2.2.2.2.2.2
      have hgn : gd (pz_spl (tx M 3) (cr_L 1 M) (lp_o t l.toNat) (lp_P t l.toNat).2.2.2.length) t' := by rw [← hct.2.2.2.2.1]; exact hpd.1
      have hl5 := hgn.len
      have hl6 := congrArg List.length gnow
      rw [show (pz_now M2).length = (M2 798 640).toNat from pz_ls_len _ _] at hl6
      have hn640 := hr1.2.1.2.2.1
      have hl7 : (tx M 3).length = (M1 798 640).toNat := by rw [← enow]; exact pz_ls_len _ _
      have hnn : 0 ≤ M2 798 640 := by
        rw [g640, o2]
        rw [o2] at hib
        omega
      refine ⟨by rw [g1, er], IN_chg h hct hpd hgf hnk hpt g6 ⟨hnn, by omega⟩ gnow glet⟩
    · obtain ⟨hpm, e, b2, b3, b4, b5⟩ := x1 z
      obtain ⟨c1, c2, c3, c4, c5⟩ := y1 z
      refine ⟨?_, IN_no h hpm hgf hnk c2 c3 c4 c5⟩
      have hpe := place_eq hl h0.1 b3 b4 b5
      have hplc : pz_plc M1 (pz_f1 (cr_L 1 M)) = (e : Int) := by
        unfold pz_plc
        rw [epl, e789, hgM 797 6 (by omega)]
        exact hpe.symm
      rw [c1, b2, hplc]
  · obtain ⟨e, er⟩ := p1 hv
    obtain ⟨er2, hrd⟩ := s1 hv
    obtain ⟨hI, -⟩ := hr1.rd hrd
    rw [e] at hrd
    refine ⟨by rw [er, er2], ?_⟩
    exact h.q hc (fun _ _ _ => rfl) hI (by omega) (rq_F.rd hrd)
theorem fgt_u {M : ab_M} {o k : Nat} (h : ¬ (o = 797 ∧ (k = 28 ∨ k = 29 ∨ k = 31))) (h3 : ¬ (o = 816 ∧ (k = 0 ∨ k = 1))) : pz_fgt M o k = M o k := by
  unfold pz_fgt
  rw [up_ne (by omega), up_ne (by omega), up_ne (by omega), up_ne (by omega), up_ne (by omega)]
theorem fgt_nk {M : ab_M} (h : ∀ j, 0 ≤ M 803 j ∧ M 803 j < 256) : pz_nk (pz_fgt M) := by
  have e := fun j => fgt_u (M := M) (o := 803) (k := j) (by omega) (by omega)
  refine ⟨?_, ?_, ?_, ?_, ?_, fun j => by rw [e]; exact h j⟩
  · unfold pz_fgt; rw [up_ne (by omega), up_ne (by omega), up_ne (by omega), up_ne (by omega), ab_up_s]
  · unfold pz_fgt; rw [up_ne (by omega), up_ne (by omega), up_ne (by omega), ab_up_s]
  · unfold pz_fgt; rw [up_ne (by omega), up_ne (by omega), ab_up_s]
  · unfold pz_fgt; rw [up_ne (by omega), ab_up_s]
  · unfold pz_fgt; rw [ab_up_s]
/-- the reference with an image as its program -/
theorem ir_img {M M' : ab_M} {ls : List Int} {t t' : pz_T} {B : Int} {o j : Nat} (h : ir_P M ls t B) (ho : im_ok M o j) (hg : gd (im_t M o j) t') (h785 : ∀ k : Nat, k ≤ 640 → M' 798 k = M o (641 * j + k)) (hnk : pz_nk M') (hu : ru_P M') (hf : ∀ o k : Nat, (818 ≤ o ∧ o ≤ 841) ∨ (o = 797 ∧ k = 44) → M' o k = M o k) : ir_P M' (im_t M o j) t' B := by
  obtain ⟨o1, o2, -⟩ := ho
  have en : pz_now M' = im_t M o j := by
    unfold pz_now im_t
    rw [h785 640 (Nat.le_refl _)]
    exact pz_ls_congr fun k hk => h785 k (by omega)
  refine ir_new h hg hu en (by rw [h785 640 (Nat.le_refl _)]; exact o1) (fun k hk => ?_) hnk hf
  rw [h785 640 (Nat.le_refl _)] at hk
  rw [h785 k (by omega)]
  exact o2 k hk
theorem bo_undo {n : Nat} {M : ab_M} (h : INV n M) : bo_P S_X8_undo S_X9_undo [] n M := by
  obtain ⟨t, h⟩ := h
  obtain ⟨hc, hr, l1, l2, l3, l4, l5⟩ := id h
  have hu := hr.1
  have h2 := hu.2.1.1
  refine ⟨⟨hc.1.1.1, hc.1.2.1.2.2.2, hc.1.2.2.2.1⟩, fun r M1 hP => ⟨r, rfl, ?_⟩⟩
  obtain ⟨p0, p1⟩ := hP
  by_cases z : M 0 13 = 0
  · obtain ⟨e, er⟩ := p0 z
    rw [e]
    refine ⟨h2, fun r' M2 hM2 hP' => ?_⟩
    rw [if_pos (by omega)] at hM2 hP'
    rw [hM2]
    exact ⟨by rw [er, hP'], h.q hc (fun _ _ _ => rfl) hr (by omega) (rq_F.rf M)⟩
  · have h13 := hc.1.1.1.2.2
    obtain ⟨hck, htc, h11, hpa, hrp, ⟨t', hpd⟩, er, e13⟩ := p1 (by omega)
    have gM1 : ∀ o k : Nat, 797 ≤ o → M1 o k = M o k := fun o k z => hck o k (by omega) (by omega) (by omega) (by omega) (by omega) (by omega) (by omega) (by omega)
    have hr1 := hr.lo gM1
    refine ⟨hr1.1.2.1.1, fun r' M2 hM2 hP' => ?_⟩
    have e2 := gM1 797 2 (by omega)
    rw [if_neg (by omega)] at hM2 hP'
    refine ⟨by rw [er, hP', e2, l3.1], ?_⟩
    obtain ⟨Q, hQ⟩ : ∃ Q : Nat, M 797 2 = ((Q + 1 : Nat) : Int) := ⟨(M 797 2).toNat - 1, by omega⟩
    have hQt : (M1 797 2 - 1).toNat = Q := by omega
    have hpast : past M = (List.range Q).map (im_t M 799) ++ [im_t M 799 Q] := by
      rw [l3.2, hQ, Int.toNat_natCast, List.range_succ, List.map_append]; rfl
    rw [hpa] at hpast
    obtain ⟨ep, et⟩ := List.append_inj' hpast rfl
    have et : tx M1 3 = im_t M 799 Q := by injection et
    have hpast1 : ∀ w ∈ past M1, ∃ t', gd w t' := fun w hw => hc.1.2.2.2.1 w (by rw [hpa]; exact List.mem_append_left _ hw)
    have hic := ic_new hc hck htc (.inr h11) hpast1 hrp hpd
    have u : ∀ o k : Nat, ¬ (o = 797 ∧ (k = 2 ∨ k = 28 ∨ k = 29 ∨ k = 31)) → ¬ (o = 816 ∧ (k = 0 ∨ k = 1)) → ¬ (o = 798 ∧ k ≤ 640) → M2 o k = M1 o k := by
      intro o k a b c
      rw [hM2]
      unfold pz_UD
      rw [fgt_u (by omega) b]
      unfold ab_blk
      rw [if_neg (by omega), up_ne (by omega)]
    have e785 : ∀ k : Nat, k ≤ 640 → M2 798 k = M1 799 (641 * Q + k) := by
      intro k hk
      rw [hM2]
      unfold pz_UD
      rw [fgt_u (by omega) (by omega), ab_blk_g (Nat.zero_le _) (by omega), hQt, Nat.sub_zero]
    have e784 : M2 797 2 = ((Q : Nat) : Int) := by
      rw [hM2]
      unfold pz_UD
      rw [fgt_u (by omega) (by omega), ab_blk_o (by decide), ab_up_s]
      omega
    have f1 : M1 799 = M 799 := funext fun k => gM1 799 k (by omega)
    have f2 : M2 799 = M 799 := funext fun k => (u 799 k (by omega) (by omega) (by omega)).trans (gM1 799 k (by omega))
    have hnk : pz_nk M2 := by
      rw [hM2]
      unfold pz_UD
      refine fgt_nk fun j => ?_
      rw [ab_blk_o (by decide), up_ne (by omega)]
      exact hr1.2.1.2.2.1.2.2.2.1 j
    have g : ∀ o k : Nat, (799 ≤ o ∧ o ≠ 816) ∨ (o = 797 ∧ (k = 6 ∨ k = 71 ∨ k = 44)) → M2 o k = M o k := fun o k x => (u o k (by omega) (by omega) (by omega)).trans (gM1 o k (by omega))
    have hru : ru_P M2 := by
      obtain ⟨u1, u2, u3, u4⟩ := hu
      refine ⟨?_, ⟨by omega, fun j hj => ?_⟩, ?_, ?_⟩
      · rw [g 797 6 (by omega), show M2 802 = M 802 from funext fun k => g 802 k (by omega)]; exact u1
      · have := u2.2 j (by omega)
        unfold im_ok im_t at this ⊢
        rw [f2]; exact this
      · unfold im_ok im_t at u3 ⊢
        rw [show M2 800 = M 800 from funext fun k => g 800 k (by omega), show M2 801 = M 801 from funext fun k => g 801 k (by omega)]; exact u3
      · unfold is_A at u4 ⊢
        rw [g 797 71 (by omega), show M2 847 = M 847 from funext fun k => g 847 k (by omega)]; exact u4
    have ho : im_ok M1 799 Q := hr1.1.2.1.2 Q (by omega)
    have et1 : im_t M1 799 Q = tx M1 3 := by rw [et]; exact im_t_fr f1 Q
    have hir := ir_img hr1 ho (t' := t') (by rw [et1]; exact hpd.1) e785 hnk hru (fun o k x => u o k (by omega) (by omega) (by omega))
    rw [et1] at hir
    refine INV_of h hic (fun o k z => hck o k (by omega) (by omega) (by omega) (by omega) (by omega) (by omega) (by omega) (by omega)) (fun o k z => u o k (by omega) (by omega) (by omega)) (fun o k z => g o k (by omega)) hir (by omega) ⟨?_, fun k hk => ?_⟩ hir.2.1.2.1.symm ⟨by omega, ?_⟩
    · rw [h11, g 797 6 (by omega)]; exact l1.1
    · rw [h11] at hk
      rw [hck 2 k (by omega) (by omega) (by omega) (by omega) (by omega) (by omega) (by omega) (by omega), g 802 k (by omega)]
      exact l1.2 k hk
    · rw [ep, e784, Int.toNat_natCast]
      exact List.map_congr_left fun j _ => (im_t_fr f2 j).symm
theorem bo_back {n : Nat} {M : ab_M} (h : INV n M) {z : Int} (i1 : ab_ir z) : bo_P S_X8_back S_X9_back [iV z] n M := by
  obtain ⟨t, h⟩ := h
  obtain ⟨hc, hr, l1, l2, l3, l4, l5⟩ := id h
  have hu := hr.1
  refine ⟨⟨i1, ⟨hc.1.1.2.1, hc.1.1.1, hc.1.2.1.2.2.2⟩, fun hz => ?_⟩, fun r M1 hP => ⟨r, rfl, ?_⟩⟩
  · have := hc.1.2.2.2.2.1 z.toNat (by omega)
    exact ⟨this.imp id fun x => x.1, fun y => this.elim (fun x => by omega) fun x => x.2⟩
  -- what the reference's other program is like
  have key : ∀ M1 : ab_M, (∀ o k : Nat, 797 ≤ o → M1 o k = M o k) → 0 ≤ z ∧ z ≤ 1 → M 801 z.toNat = 1 → ∀ t', gd (im_t M 800 z.toNat) t' → ir_P (pz_BK M1 z) (im_t M 800 z.toNat) t' ((256 * n : Nat) : Int) ∧ (∀ o k : Nat, ¬ (o = 797 ∧ (k = 2 ∨ k = 28 ∨ k = 29 ∨ k = 31)) → ¬ (o = 816 ∧ (k = 0 ∨ k = 1)) → ¬ (o = 798 ∧ k ≤ 640) → pz_BK M1 z o k = M1 o k) ∧ pz_BK M1 z 797 2 = 0 := by
    intro M1 gM1 hz h1 t' hg
    have u : ∀ o k : Nat, ¬ (o = 797 ∧ (k = 2 ∨ k = 28 ∨ k = 29 ∨ k = 31)) → ¬ (o = 816 ∧ (k = 0 ∨ k = 1)) → ¬ (o = 798 ∧ k ≤ 640) → pz_BK M1 z o k = M1 o k := by
      intro o k a b c
      unfold pz_BK
      rw [fgt_u (by omega) b, up_ne (by omega)]
      unfold ab_blk
      rw [if_neg (by omega)]
    have e2 : pz_BK M1 z 797 2 = 0 := by
      unfold pz_BK
      rw [fgt_u (by omega) (by omega), ab_up_s]
    have e785 : ∀ k : Nat, k ≤ 640 → pz_BK M1 z 798 k = M1 800 (641 * z.toNat + k) := by
      intro k hk
      unfold pz_BK
      rw [fgt_u (by omega) (by omega), up_ne (by omega), ab_blk_g (Nat.zero_le _) (by omega), Nat.sub_zero]
    have hr1 := hr.lo gM1
    have hnk : pz_nk (pz_BK M1 z) := by
      unfold pz_BK
      refine fgt_nk fun j => ?_
      rw [up_ne (by omega), ab_blk_o (by decide)]
      exact hr1.2.1.2.2.1.2.2.2.1 j
    have g : ∀ o k : Nat, (799 ≤ o ∧ o ≠ 816) ∨ (o = 797 ∧ (k = 6 ∨ k = 71 ∨ k = 44)) → pz_BK M1 z o k = M o k := fun o k x => (u o k (by omega) (by omega) (by omega)).trans (gM1 o k (by omega))
    have hru : ru_P (pz_BK M1 z) := by
      obtain ⟨u1, u2, u3, u4⟩ := hu
      refine ⟨?_, ⟨by omega, fun j hj => by omega⟩, ?_, ?_⟩
      · rw [g 797 6 (by omega), show pz_BK M1 z 802 = M 802 from funext fun k => g 802 k (by omega)]; exact u1
      · unfold im_ok im_t at u3 ⊢
        rw [show pz_BK M1 z 800 = M 800 from funext fun k => g 800 k (by omega), show pz_BK M1 z 801 = M 801 from funext fun k => g 801 k (by omega)]; exact u3
      · unfold is_A at u4 ⊢
        rw [g 797 71 (by omega), show pz_BK M1 z 847 = M 847 from funext fun k => g 847 k (by omega)]; exact u4
    have ho : im_ok M1 800 z.toNat := by
      have := hr1.1.2.2.1 z.toNat (by omega)
      rw [gM1 801 z.toNat (by omega)] at this
      exact this.elim (fun x => by omega) fun x => x.2
    have et1 : im_t M1 800 z.toNat = im_t M 800 z.toNat := im_t_fr (funext fun k => gM1 800 k (by omega)) _
    have hir := ir_img hr1 ho (t' := t') (by rw [et1]; exact hg) e785 hnk hru (fun o k x => u o k (by omega) (by omega) (by omega))
    rw [et1] at hir
    exact ⟨hir, u, e2⟩
  have pre : ∀ M1 : ab_M, (∀ o k : Nat, 797 ≤ o → M1 o k = M o k) → (0 ≤ z ∧ z ≤ 1 → (M1 801 z.toNat = 0 ∨ M1 801 z.toNat = 1) ∧ (M1 801 z.toNat = 1 → pz_PR (pz_BK M1 z))) := by
    intro M1 gM1 hz
    have := hu.2.2.1 z.toNat (by omega)
    rw [gM1 801 z.toNat (by omega)]
    refine ⟨this.imp id fun x => x.1, fun y => ?_⟩
    obtain ⟨-, -, t', hg⟩ := this.elim (fun x => by omega) fun x => x.2
    exact (key M1 gM1 hz y t' hg).1.2.1.2.2
  obtain ⟨p0, p1⟩ := hP
  by_cases hz : 0 ≤ z ∧ z ≤ 1
  · obtain ⟨q0, q1⟩ := p1 hz
    obtain ⟨a1, a2⟩ := l4 z.toNat (by omega)
    by_cases y : M 25 z.toNat = 1
    · obtain ⟨hck, htc, h11, hpa, htx, hrp, ⟨t', hpd⟩, er, e13⟩ := q1 y
      have gM1 : ∀ o k : Nat, 797 ≤ o → M1 o k = M o k := fun o k z => hck o k (by omega) (by omega) (by omega) (by omega) (by omega) (by omega) (by omega) (by omega)
      refine ⟨⟨i1, pre M1 gM1⟩, fun r' M2 hP' => ?_⟩
      have et : tx M1 3 = im_t M 800 z.toNat := htx.trans (a2 y)
      obtain ⟨k1, k2, k3⟩ := key M1 gM1 hz (by omega) t' (by rw [← et]; exact hpd.1)
      obtain ⟨er', hrd⟩ := hP'.2.2 hz (by rw [gM1 801 z.toNat (by omega)]; omega)
      obtain ⟨hI, hK⟩ := k1.rd hrd
      refine ⟨by rw [er, er', hK.num.1, hpd.sz.2.1], ?_⟩
      have hq := rq_F.rd hrd
      have hic := ic_new hc hck htc (.inr h11) (fun w hw => by rw [hpa] at hw; exact absurd hw List.not_mem_nil) hrp hpd
      have g : ∀ o k : Nat, (o < 797 ∨ (799 ≤ o ∧ o ≤ 802) ∨ o = 846 ∨ o = 847 ∨ (o = 797 ∧ (k = 6 ∨ k = 71))) → M2 o k = M1 o k := fun o k x => (hq o k (by omega)).trans (k2 o k (by omega) (by omega) (by omega))
      have e2 : M2 797 2 = 0 := (hq 797 2 (by omega)).trans k3
      refine INV_of h hic (fun o k z => hck o k (by omega) (by omega) (by omega) (by omega) (by omega) (by omega) (by omega) (by omega)) (fun o k z => g o k (by omega)) (fun o k z => (g o k (by omega)).trans (gM1 o k (by omega))) (by rw [et]; exact hI) (by omega) ⟨?_, fun k hk => ?_⟩ (by rw [et]; exact hI.2.1.2.1.symm) ⟨by omega, ?_⟩
      · rw [h11, g 797 6 (by omega), gM1 797 6 (by omega)]; exact l1.1
      · rw [h11] at hk
        rw [hck 2 k (by omega) (by omega) (by omega) (by omega) (by omega) (by omega) (by omega) (by omega), g 802 k (by omega), gM1 802 k (by omega)]
        exact l1.2 k hk
      · rw [hpa, e2]; rfl
    · have y0 : M 25 z.toNat = 0 := by
        have := hc.1.2.2.2.2.1 z.toNat (by omega)
        exact this.elim id fun x => absurd x.1 y
      obtain ⟨e, er⟩ := q0 y0
      rw [e]
      refine ⟨⟨i1, pre M fun _ _ _ => rfl⟩, fun r' M2 hP' => ?_⟩
      obtain ⟨er', e2⟩ := hP'.2.1 hz (by omega)
      rw [e2]
      exact ⟨by rw [er, er'], h.q hc (fun _ _ _ => rfl) hr (by omega) (rq_F.rf M)⟩
  · obtain ⟨e, er⟩ := p0 hz
    rw [e]
    refine ⟨⟨i1, pre M fun _ _ _ => rfl⟩, fun r' M2 hP' => ?_⟩
    obtain ⟨er', e2⟩ := hP'.1 hz
    rw [e2]
    exact ⟨by rw [er, er'], h.q hc (fun _ _ _ => rfl) hr (by omega) (rq_F.rf M)⟩
