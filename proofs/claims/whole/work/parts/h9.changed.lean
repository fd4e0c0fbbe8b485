/-! both sides, one call: program, undo, keep, back, invariant -/
theorem INV_of {M M1 M2 : ab_M} {n : Nat} {t t' : pz_T} {B : Int} (h : IN_P M n t) (hc : ic_P M1 t') (f1 : ∀ o k : Nat, (20 ≤ o ∧ o ≤ 25) ∨ o = 795 ∨ o = 796 ∨ (o = 0 ∧ k = 14) → M1 o k = M o k) (f2 : ∀ o k : Nat, o < 797 → M2 o k = M1 o k) (f3 : ∀ o k : Nat, o = 800 ∨ o = 801 ∨ o = 846 ∨ o = 847 ∨ (o = 797 ∧ k = 71) → M2 o k = M o k) (hr : ir_P M2 (tx M1 3) t' B) (hB : B ≤ ((256 * (n + 1) : Nat) : Int)) (l1 : M1 1 1 = M2 797 6 ∧ ∀ k : Nat, (k : Int) < M1 1 1 → M1 2 k = M2 802 k) (l2 : tx M1 3 = pz_now M2) (l3 : M1 0 13 = M2 797 2 ∧ past M1 = (List.range (M2 797 2).toNat).map (im_t M2 799)) : INV (n + 1) M2 := by
  obtain ⟨-, -, -, -, -, l4, l5⟩ := h
  obtain ⟨-, e1, e2⟩ := hc.1.fr (M' := M2) fun o k _ => f2 o k (by omega)
  have e787 : M2 800 = M 800 := funext fun k => f3 800 k (by omega)
  refine ⟨t', hc.hi f2, by rw [e2]; exact hr.le hB, ⟨by rw [f2 1 1 (by omega)]; exact l1.1, fun k hk => ?_⟩, by rw [e2]; exact l2, ⟨by rw [f2 0 13 (by omega)]; exact l3.1, by rw [e1]; exact l3.2⟩, fun z hz => ?_, ?_, fun k hk => ?_⟩
  · rw [f2 1 1 (by omega)] at hk; rw [f2 2 k (by omega)]; exact l1.2 k hk
  · have f : ∀ o k : Nat, 20 ≤ o ∧ o ≤ 25 → M2 o k = M o k := fun o k x => (f2 o k (by omega)).trans (f1 o k (by omega))
    rw [f 25 z (by omega), f3 801 z (by omega), (tx_sm (M := M) (M' := M2) (o := 21 + 2 * z) (f _ _ (by omega)) fun k => f _ k (by omega)).1, im_t_fr e787]
    exact l4 z hz
  · rw [f2 0 14 (by omega), f1 0 14 (by omega), f3 797 71 (by omega)]; exact l5.1
  · rw [f2 0 14 (by omega), f1 0 14 (by omega)] at hk
    rw [f2 795 k (by omega), f1 795 k (by omega), f2 796 k (by omega), f1 796 k (by omega), f3 846 k (by omega), f3 847 k (by omega)]
    exact l5.2 k hk
theorem past_len (M : ab_M) : (past M).length = (M 0 13).toNat := by unfold past; rw [List.length_map, List.length_range]
/-- a new program, put behind the present one -/
theorem IN_chg {M M1 M2 : ab_M} {n : Nat} {t t' : pz_T} {ls : List Int} (h : IN_P M n t) (hct : ct_P M M1 ls) (hpd : pd_P M1 t') (hgf : pz_gf M1 M2) (hnk : pz_nk M2) (hpt : pz_pt M1 M2) (h6 : M2 797 6 = 0) (h640 : 0 ≤ M2 798 640 ∧ M2 798 640 ≤ 640) (hnow : pz_now M2 = ls) (hlet : ∀ k : Nat, (k : Int) < M2 798 640 → 0 ≤ M2 798 k ∧ M2 798 k < 256) : INV (n + 1) M2 := by
  obtain ⟨hc, hr, l1, l2, l3, l4, l5⟩ := id h
  obtain ⟨hck, htc, h11, hpa, htx, hrp, -⟩ := hct
  have hg : gd ls t' := by rw [← htx]; exact hpd.1
  have hng := hr.2.1.2.2.1
  have hu := hr.1
  have gM1 : ∀ o k : Nat, 797 ≤ o → M1 o k = M o k := fun o k z => hck o k (by omega) (by omega) (by omega) (by omega) (by omega) (by omega) (by omega) (by omega)
  have hpast : ∀ w ∈ past M1, ∃ t', gd w t' := by
    intro w hw
    rw [hpa] at hw
    rcases List.mem_append.1 hw with y | y
    · have hy : w ∈ past M := by
        split at y
        · exact List.mem_of_mem_tail y
        · exact y
      exact hc.1.2.2.2.1 w hy
    · rw [List.mem_singleton] at y
      rw [y]; exact ⟨t, hc.1.2.1.1⟩
  have hic := ic_new hc hck htc (.inl h11) hpast hrp hpd
  obtain ⟨p1, p2, p3⟩ := hpt
  have eq0 : pz_q0 M1 = if M 797 2 = 6 then 5 else M 797 2 := by unfold pz_q0; rw [gM1 797 2 (by omega)]
  have esh : pz_sh M1 = if M 797 2 = 6 then 641 else 0 := by unfold pz_sh; rw [gM1 797 2 (by omega)]
  have h2 := hu.2.1.1
  obtain ⟨Q, hQ⟩ : ∃ Q : Nat, pz_q0 M1 = (Q : Int) := ⟨(pz_q0 M1).toNat, by rw [eq0]; split <;> omega⟩
  obtain ⟨d, hd⟩ : ∃ d : Nat, d = if M 797 2 = 6 then 1 else 0 := ⟨_, rfl⟩
  have hQd : ((Q + d : Nat) : Int) = M 797 2 ∧ d ≤ 1 ∧ Q ≤ 5 ∧ pz_sh M1 = 641 * d := by
    rw [hd, esh]
    rw [eq0] at hQ
    by_cases c : M 797 2 = 6
    · rw [if_pos c] at hQ ⊢
      rw [if_pos c]; omega
    · rw [if_neg c] at hQ ⊢
      rw [if_neg c]; omega
  obtain ⟨q1, q2, q3, q4⟩ := hQd
  have himg : ∀ j : Nat, j < Q → ∀ k : Nat, k ≤ 640 → M2 799 (641 * j + k) = M 799 (641 * (j + d) + k) := by
    intro j hj k hk
    rw [p2 (641 * j + k) (by rw [hQ]; omega), gM1 799 _ (by omega), q4]
    congr 1
    omega
  have hlast : ∀ k : Nat, k ≤ 640 → M2 799 (641 * Q + k) = M 798 k := by
    intro k hk
    have := p3 k hk
    rw [hQ, show ((641 : Int) * (Q : Int) + (k : Int)).toNat = 641 * Q + k by omega, gM1 798 k (by omega)] at this
    exact this
  have hold := hu.2.1.2
  have hb : ∀ j : Nat, j < Q → im_t M2 799 j = im_t M 799 (j + d) ∧ im_ok M2 799 j := by
    intro j hj
    obtain ⟨o1, o2, o3⟩ := hold (j + d) (by omega)
    have := im_of (M := M2) (o := 799) (j := j) (f := fun k => M 799 (641 * (j + d) + k)) (fun k hk => himg j hj k hk) o1
    exact ⟨this.1, this.2 o2 o3⟩
  have hbl : im_t M2 799 Q = pz_now M ∧ im_ok M2 799 Q := by
    have := im_of (M := M2) (o := 799) (j := Q) (f := fun k => M 798 k) (fun k hk => hlast k hk) ⟨hng.1, hng.2.1⟩
    refine ⟨this.1, this.2 hng.2.2.1 ⟨t, ?_⟩⟩
    have e : pz_ls (fun k => M 798 k) (M 798 640) = tx M 3 := hr.2.1.2.1
    rw [e]; exact hr.2.1.1
  have g2 : ∀ o k : Nat, ¬ (797 ≤ o ∧ o ≤ 799) → o ≠ 803 → o ≠ 804 → o ≠ 816 → ¬ (805 ≤ o ∧ o ≤ 815) → M2 o k = M1 o k := fun o k a b c d e => hgf.1 o k (by omega) (by omega) (by omega) b c d e
  have g71 : M2 797 71 = M 797 71 := (hgf.2 71 (by decide) (by decide) (by decide) (by decide) (by decide) (by decide) (by decide) (by decide) (by decide) (by decide) (by decide) (by decide) (by decide)).trans (gM1 797 71 (by omega))
  have g44 : M2 797 44 = M1 797 44 := hgf.2 44 (by decide) (by decide) (by decide) (by decide) (by decide) (by decide) (by decide) (by decide) (by decide) (by decide) (by decide) (by decide) (by decide)
  have e787 : M2 800 = M 800 := funext fun k => (g2 800 k (by omega) (by omega) (by omega) (by omega) (by omega)).trans (gM1 800 k (by omega))
  have e788 : M2 801 = M 801 := funext fun k => (g2 801 k (by omega) (by omega) (by omega) (by omega) (by omega)).trans (gM1 801 k (by omega))
  have e834 : M2 847 = M 847 := funext fun k => (g2 847 k (by omega) (by omega) (by omega) (by omega) (by omega)).trans (gM1 847 k (by omega))
  have hru : ru_P M2 := by
    refine ⟨⟨by omega, fun k hk => by omega⟩, ⟨by omega, fun j hj => ?_⟩, ?_, ?_⟩
    · by_cases c : j < Q
      · exact (hb j c).2
      · rw [show j = Q by omega]; exact hbl.2
    · have u3 := hu.2.2.1
      unfold im_ok im_t at u3 ⊢; rw [e787, e788]; exact u3
    · have u4 := hu.2.2.2
      unfold is_A at u4 ⊢; rw [e834, g71]; exact u4
  have hr1 : ir_P M1 (tx M 3) t ((256 * n : Nat) : Int) := hr.lo gM1
  have hir := ir_new hr1 hg hru hnow h640 hlet hnk (fun o k z => by
    by_cases c : o = 797
    · subst c
      have : k = 44 := by omega
      rw [this]; exact g44
    · exact g2 o k (by omega) (by omega) (by omega) (by omega) (by omega))
  have hpl : (past M1).length = Q + 1 := by
    rw [hpa, List.length_append, List.length_singleton]
    congr 1
    have hl := past_len M
    by_cases c : 6 ≤ M 0 13
    · rw [if_pos c, List.length_tail, hl]
      have := l3.1
      have hd6 : d = 1 := by rw [hd, if_pos (by omega)]
      omega
    · rw [if_neg c, hl]
      have := l3.1
      have hd6 : d = 0 := by rw [hd, if_neg (by omega)]
      omega
  have e13 : M1 0 13 = ((Q + 1 : Nat) : Int) := by
    have := past_len M1
    have := htc.2.2.1
    omega
  have e2q : M2 797 2 = ((Q + 1 : Nat) : Int) := by omega
  refine INV_of h hic (fun o k z => hck o k (by omega) (by omega) (by omega) (by omega) (by omega) (by omega) (by omega) (by omega)) (fun o k z => g2 o k (by omega) (by omega) (by omega) (by omega) (by omega)) (fun o k z => ?_) (by rw [htx]; exact hir) (by omega) ⟨by omega, fun k hk => by omega⟩ (by rw [htx, hnow]) ⟨by omega, ?_⟩
  · by_cases c : o = 797
    · subst c
      have : k = 71 := by omega
      rw [this]; exact g71
    · exact (g2 o k (by omega) (by omega) (by omega) (by omega) (by omega)).trans (gM1 o k (by omega))
  · rw [hpa, e2q, Int.toNat_natCast, List.range_succ, List.map_append]
    congr 1
    · have e1 : (List.range Q).map (im_t M2 799) = (List.range Q).map (fun j => im_t M 799 (j + d)) := List.map_congr_left fun j hj => (hb j (List.mem_range.1 hj)).1
      rw [e1, l3.2]
      by_cases c : 6 ≤ M 0 13
      · have c2 : M 797 2 = 6 := by have := l3.1; omega
        have hd6 : d = 1 := by rw [hd, if_pos c2]
        have hQ5 : Q = 5 := by omega
        rw [if_pos c, c2, hd6, hQ5]; rfl
      · have c2 : ¬ M 797 2 = 6 := by have := l3.1; omega
        have hd6 : d = 0 := by rw [hd, if_neg c2]
        rw [if_neg c, hd6, show (M 797 2).toNat = Q by omega]; rfl
    · rw [List.map_singleton, hbl.1, ← l2]
/-- a text that is refused changes nothing -/
theorem IN_no {M M1 M2 : ab_M} {n : Nat} {t : pz_T} (h : IN_P M n t) (hpm : pm_F M M1) (hgf : pz_gf M1 M2) (hnk : pz_nk M2) (h2 : M2 797 2 = M1 797 2) (h6 : M2 797 6 = M1 797 6) (h785 : ∀ k, M2 798 k = M1 798 k) (h786 : ∀ k, M2 799 k = M1 799 k) : INV (n + 1) M2 := by
  obtain ⟨hc, hr, l1, l2, l3, l4, l5⟩ := id h
  have g1 : ∀ o k : Nat, ¬ (764 ≤ o ∧ o ≤ 767) → ¬ ((395 ≤ o ∧ o ≤ 763) ∧ ¬ (o = 395 ∧ k = 0)) → M1 o k = M o k := fun o k a b => hpm o k a (by omega)
  have g2 : ∀ o k : Nat, ¬ (797 ≤ o ∧ o ≤ 799) → o ≠ 803 → o ≠ 804 → o ≠ 816 → ¬ (805 ≤ o ∧ o ≤ 815) → M2 o k = M1 o k := fun o k a b c d e => hgf.1 o k (by omega) (by omega) (by omega) b c d e
  have gr : ∀ o k : Nat, (798 ≤ o ∧ o ≤ 802) ∨ (818 ≤ o) ∨ (o = 797 ∧ (k = 2 ∨ k = 6 ∨ k = 71 ∨ k = 44)) → M2 o k = M1 o k := fun o k z => by
    by_cases c1 : o = 798
    · rw [c1]; exact h785 k
    · by_cases c2 : o = 799
      · rw [c2]; exact h786 k
      · by_cases c3 : o = 797
        · subst c3
          have hk : k = 2 ∨ k = 6 ∨ k = 71 ∨ k = 44 := by omega
          rcases hk with y | y | y | y
          · rw [y]; exact h2
          · rw [y]; exact h6
          · rw [y]; exact hgf.2 71 (by decide) (by decide) (by decide) (by decide) (by decide) (by decide) (by decide) (by decide) (by decide) (by decide) (by decide) (by decide) (by decide)
          · rw [y]; exact hgf.2 44 (by decide) (by decide) (by decide) (by decide) (by decide) (by decide) (by decide) (by decide) (by decide) (by decide) (by decide) (by decide) (by decide)
        · exact g2 o k (by omega) (by omega) (by omega) (by omega) (by omega)
  have hic : ic_P M1 t := ⟨(hc.1.fr fun o k _ => g1 o k (by omega) (by omega)).1, hc.2.1.fr fun o k _ => g1 o k (by omega) (by omega), hc.2.2.fr fun o k _ => g1 o k (by omega) (by omega)⟩
  obtain ⟨-, e1, e2⟩ := hc.1.fr (M' := M1) fun o k _ => g1 o k (by omega) (by omega)
  have hr1 : ir_P M1 (tx M 3) t ((256 * n : Nat) : Int) := hr.lo fun o k z => g1 o k (by omega) (by omega)
  have e785 : M2 798 = M 798 := funext fun k => (h785 k).trans (g1 798 k (by omega) (by omega))
  have e786 : M2 799 = M 799 := funext fun k => (h786 k).trans (g1 799 k (by omega) (by omega))
  have en : pz_now M2 = tx M 3 := by
    rw [l2]; unfold pz_now; rw [e785]
  have hng := hr.2.1.2.2.1
  have hir := ir_new hr1 hr.2.1.1 (hr1.1.fr fun o k z => gr o k (by omega)) en (by rw [e785]; exact ⟨hng.1, hng.2.1⟩) (by rw [e785]; exact hng.2.2.1) hnk (fun o k z => gr o k (by omega))
  refine INV_of h hic (fun o k z => g1 o k (by omega) (by omega)) (fun o k z => g2 o k (by omega) (by omega) (by omega) (by omega) (by omega)) (fun o k z => (gr o k (by omega)).trans (g1 o k (by omega) (by omega))) (by rw [e2]; exact hir) (by omega) ⟨?_, fun k hk => ?_⟩ (by rw [e2, en]) ⟨?_, ?_⟩
  · rw [g1 1 1 (by omega) (by omega), gr 797 6 (by omega), g1 797 6 (by omega) (by omega)]; exact l1.1
  · rw [g1 1 1 (by omega) (by omega)] at hk
    rw [g1 2 k (by omega) (by omega), gr 802 k (by omega), g1 802 k (by omega) (by omega)]; exact l1.2 k hk
  · rw [g1 0 13 (by omega) (by omega), gr 797 2 (by omega), g1 797 2 (by omega) (by omega)]; exact l3.1
  · rw [e1, gr 797 2 (by omega), g1 797 2 (by omega) (by omega), l3.2]
    exact List.map_congr_left fun j _ => (im_t_fr e786 j).symm
theorem bo_program {n : Nat} {M : ab_M} (h : INV n M) : bo_P S_X8_program S_X9_program [] n M := by
  obtain ⟨t, h⟩ := h
  obtain ⟨hc, hr, hl⟩ := id h
  have h0 := hc.2.1.1.1
  rw [if_pos rfl] at h0
  refine ⟨⟨hc.1.1.1, hc.2.1.1, hc.1.2.1.2.2.2, hc.1.1.2.2⟩, fun r M1 hP => ⟨r, rfl, ?_⟩⟩
  have hgM : ∀ o k : Nat, 797 ≤ o → M1 o k = M o k := by
    unfold pm_P at hP
    split at hP
    · exact fun o k z => hP.1 o k (by omega) (by omega)
    · exact fun o k z => hP.1.1 o k (by omega) (by omega) (by omega) (by omega) (by omega) (by omega) (by omega) (by omega)
  have hr1 := hr.lo hgM
  have hpl := (hl.pl h0.1).1
  have epl : pz_pl M1 = pz_pl M := by
    unfold pz_pl
    rw [hgM 797 6 (by omega), show M1 802 = M 802 from funext fun k => hgM 802 k (by omega)]
  refine ⟨⟨hr1.1.1.1.1, hr1.1.1.1.2, hr1.1.1.2, hr1.2.1.2.2.1.2.2.2.1, hr1.1.2.1.1.1, hr1.1.2.1.1.2⟩, fun r' M2 hP' => ?_⟩
  obtain ⟨hgf, hnk, hm⟩ := hP'
  rw [epl, ← hpl] at hm
  unfold pm_P at hP
  cases hx : pz_read (cr_L 1 M) with
  | inl q =>
    rw [hx] at hP hm
    obtain ⟨hpm, e, x1, x2, x3, x4⟩ := hP
    obtain ⟨y1, y2, y3, y4, y5⟩ := hm
    refine ⟨?_, IN_no h hpm hgf hnk y2 y3 y4 y5⟩
    have hpe := place_eq hl h0.1 x2 x3 x4
    rw [← hpl] at hpe
    rw [show M1 802 = M 802 from funext fun k => hgM 802 k (by omega), hgM 797 6 (by omega), ← hpe] at y1
    rw [y1, x1]
  | inr E =>
    rw [hx] at hP hm
    obtain ⟨hct, x1⟩ := hP
    obtain ⟨y1, y2, y3, y4, y5, y6⟩ := hm
    obtain ⟨t', hpd⟩ := hct.2.2.2.2.2.2
    have hg : gd (cr_L 1 M) t' := by rw [← hct.2.2.2.2.1]; exact hpd.1
    have hlen := hg.len
    refine ⟨?_, IN_chg h hct hpd hgf hnk y2 y3 (by omega) y5 y6⟩
    have hE : E = pz_fl t' 0 0 0 := by
      have := hg.2.1
      rw [hx] at this
      exact Sum.inr.inj this
    rw [y1, x1, hpd.sz.2.1, hE, nS_fl t' hg.1.1]
