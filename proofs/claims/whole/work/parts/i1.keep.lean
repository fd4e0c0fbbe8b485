/-! both sides, one call: keep -/
theorem bo_keep {n : Nat} {M : ab_M} (h : INV n M) {z : Int} (i1 : ab_ir z) : bo_P S_X8_keep S_X9_keep [iV z] n M := by
  obtain ⟨t, h⟩ := h
  obtain ⟨hc, hr, l1, l2, l3, l4, l5⟩ := id h
  have h3 := hc.1.1.1.2.1.1
  have h31 := h3.1
  rw [if_neg (by decide)] at h31
  refine ⟨⟨i1, hc.1.1.2.1, h3⟩, fun r M1 hP => ⟨r, rfl, ?_⟩⟩
  obtain ⟨p0, p1⟩ := hP
  by_cases hz : 0 ≤ z ∧ z ≤ 1
  · obtain ⟨hM, er⟩ := p1 hz
    obtain ⟨y, hy⟩ : ∃ y : Nat, z = (y : Int) := ⟨z.toNat, by omega⟩
    have hy2 : y = 0 ∨ y = 1 := by omega
    have hyt : z.toNat = y := by omega
    rw [hyt] at hM
    have f1 : ∀ o k : Nat, ¬ (o = 21 + 2 * y) → ¬ (o = 22 + 2 * y) → ¬ (o = 25 ∧ k = y) → M1 o k = M o k := fun o k a b c => by
      rw [hM, up_ne (by omega), bc_m_f _ _ _ _ _ (by omega) (by omega)]
    have gtx : tx M1 (21 + 2 * y) = tx M 3 ∧ tx_ok M1 (21 + 2 * y) := by
      have e1 := bc_m_tx (M := M) (o := 21 + 2 * y) (q := 3) (by omega) (by omega) h31
      have e2 := bc_m_ok (M := M) (o := 21 + 2 * y) (q := 3) (by omega) (by omega) h3 (by
        rcases hy2 with w | w
        · rw [w]; exact hc.1.2.2.2.2.2.1
        · rw [w]; exact hc.1.2.2.2.2.2.2)
      have e3 := tx_sm (M := bc_m M (21 + 2 * y) 3) (M' := M1) (o := 21 + 2 * y) (by rw [hM, up_ne (by omega)]) (fun k => by rw [hM, up_ne (by omega)])
      exact ⟨e3.1.trans e1, e3.2 e2⟩
    have g25 : M1 25 y = 1 := by rw [hM, ab_up_s]
    have gM1 : ∀ o k : Nat, 797 ≤ o → M1 o k = M o k := fun o k a => f1 o k (by omega) (by omega) (by omega)
    have hother : ∀ x : Nat, x < 2 → x ≠ y → M1 25 x = M 25 x ∧ tx M1 (21 + 2 * x) = tx M (21 + 2 * x) ∧ (tx_ok M (21 + 2 * x) → tx_ok M1 (21 + 2 * x)) := fun x hx hxy => by
      have e := tx_sm (M := M) (M' := M1) (o := 21 + 2 * x) (f1 _ _ (by omega) (by omega) (by omega)) fun k => f1 _ k (by omega) (by omega) (by omega)
      exact ⟨f1 25 x (by omega) (by omega) (by omega), e.1, e.2⟩
    have hic : ic_P M1 t := by
      obtain ⟨⟨⟨⟨⟨⟨r1, r2⟩, r3⟩, ⟨r4, r5⟩, r6⟩, s1, s2⟩, q2, q3, q4, q5, q6, q7⟩, ha, hh⟩ := hc
      have ht : ∀ o : Nat, 3 ≤ o → o ≤ 18 → tx M1 o = tx M o ∧ (tx_ok M o → tx_ok M1 o) := fun o a b => tx_sm (f1 o 1 (by omega) (by omega) (by omega)) fun k => f1 (o + 1) k (by omega) (by omega) (by omega)
      have hp : past M1 = past M := by
        unfold past
        rw [f1 0 13 (by omega) (by omega) (by omega)]
        refine List.map_congr_left fun k hk => ?_
        have hk := List.mem_range.1 hk
        obtain ⟨i, j1, j2⟩ := r1 k (by omega)
        rw [f1 7 k (by omega) (by omega) (by omega), j2, Int.toNat_natCast]
        exact (ht _ (by omega) (by omega)).1
      have hok : ∀ x : Nat, x < 2 → tx_ok M (21 + 2 * x) → tx_ok M1 (21 + 2 * x) := fun x hx hh => by
        by_cases c : x = y
        · rw [c]; exact gtx.2
        · exact (hother x hx c).2.2 hh
      refine ⟨⟨⟨⟨⟨⟨fun k hk => by rw [f1 7 k (by omega) (by omega) (by omega)]; exact r1 k hk, fun k j a b c => r2 k j a b (by rw [f1 7 k (by omega) (by omega) (by omega), f1 7 j (by omega) (by omega) (by omega)] at c; exact c)⟩, fun o a b c => (ht o (by omega) (by omega)).2 (r3 o a b c)⟩, ⟨(ht 3 (by omega) (by omega)).2 r4, (ht 5 (by omega) (by omega)).2 r5⟩, by rw [f1 0 13 (by omega) (by omega) (by omega)]; exact r6⟩, ⟨by rw [f1 20 0 (by omega) (by omega) (by omega)]; exact s1.1, by rw [f1 20 1 (by omega) (by omega) (by omega)]; exact s1.2⟩, by rw [f1 395 0 (by omega) (by omega) (by omega)]; exact s2⟩, q2.fr (fun o k a b => f1 o k (by omega) (by omega) (by omega)) (f1 _ _ (by omega) (by omega) (by omega)) (fun k => f1 _ _ (by omega) (by omega) (by omega)), ?_, by rw [hp]; exact q4, fun x hx => ?_, hok 0 (by decide) q6, hok 1 (by decide) q7⟩, ha.fr fun o k _ => f1 o k (by omega) (by omega) (by omega), hh.fr fun o k _ => f1 o k (by omega) (by omega) (by omega)⟩
      · obtain ⟨a1, a2, a3⟩ := q3
        refine ⟨a1, a2, ?_⟩
        have e : M1 388 = M 388 := funext fun k => f1 388 k (by omega) (by omega) (by omega)
        rw [e]; exact a3
      · by_cases c : x = y
        · rw [c, g25, gtx.1]
          exact .inr ⟨rfl, gtx.2, t, q2.1⟩
        · obtain ⟨c1, c2, c3⟩ := hother x hx c
          rw [c1, c2]
          exact (q5 x hx).imp id fun ⟨a, b, d⟩ => ⟨a, c3 b, d⟩
    have hpast : past M1 = past M := by
      unfold past
      rw [f1 0 13 (by omega) (by omega) (by omega)]
      refine List.map_congr_left fun k hk => ?_
      have hk := List.mem_range.1 hk
      have hr1 := hc.1.1.1.1.1.1
      have h13 := hc.1.1.1.2.2
      obtain ⟨i, j1, j2⟩ := hr1 k (by omega)
      rw [f1 7 k (by omega) (by omega) (by omega), j2, Int.toNat_natCast]
      exact (tx_sm (f1 _ 1 (by omega) (by omega) (by omega)) fun k => f1 _ k (by omega) (by omega) (by omega)).1
    have etx : tx M1 3 = tx M 3 := (tx_sm (f1 3 1 (by omega) (by omega) (by omega)) fun k => f1 4 k (by omega) (by omega) (by omega)).1
    have hr1 := hr.lo gM1
    refine ⟨⟨hr1.2.1.2.2, i1⟩, fun r' M2 hP' => ?_⟩
    obtain ⟨N, hrd, hM2, er'⟩ := hP'.2 hz
    obtain ⟨hI, hK⟩ := hr1.rd hrd
    have hq := rq_F.rd hrd
    refine ⟨by rw [er, er', hK.num.1, hc.1.2.1.sz.2.1], ?_⟩
    rw [hyt] at hM2
    have u : ∀ o k : Nat, o ≠ 800 → ¬ (o = 801 ∧ k = y) → M2 o k = N o k := fun o k a b => by
      rw [hM2, up_ne (by omega), ab_blk_o a]
    have g788 : M2 801 y = 1 := by rw [hM2, ab_up_s]
    have g787 : ∀ k : Nat, k ≤ 640 → M2 800 (641 * y + k) = N 798 k := fun k hk => by
      rw [hM2, up_ne (by omega), ab_blk_g (by omega) (by omega)]
      congr 1
      omega
    have g787o : ∀ x : Nat, x < 2 → x ≠ y → ∀ k : Nat, k ≤ 640 → M2 800 (641 * x + k) = N 800 (641 * x + k) := fun x hx hxy k hk => by
      rw [hM2, up_ne (by omega), ab_blk_n (by omega)]
    have nng := hI.2.1.2.2.1
    have enow : pz_now N = tx M 3 := hI.2.1.2.1
    have imy := im_of (M := M2) (o := 800) (j := y) (f := fun k => N 798 k) (fun k hk => g787 k hk) ⟨nng.1, nng.2.1⟩
    have imo : ∀ x : Nat, x < 2 → x ≠ y → im_ok N 800 x → im_t M2 800 x = im_t N 800 x ∧ im_ok M2 800 x := fun x hx hxy ⟨o1, o2, o3⟩ => by
      have := im_of (M := M2) (o := 800) (j := x) (f := fun k => N 800 (641 * x + k)) (fun k hk => g787o x hx hxy k hk) o1
      exact ⟨this.1, this.2 o2 o3⟩
    have hN : ∀ x : Nat, x < 2 → x ≠ y → M2 801 x = N 801 x := fun x hx hxy => u 801 x (by omega) (by omega)
    have lo : ∀ o k : Nat, o < 797 → M2 o k = M1 o k := fun o k a => (u o k (by omega) (by omega)).trans (hq o k (by omega))
    have hir : ir_P M2 (tx M 3) t ((256 * n : Nat) : Int) := by
      obtain ⟨k1, k2, k3, k4, k5, k6⟩ := hI
      refine ⟨?_, k2.fr (fun o k _ => u o k (by omega) (by omega)) (.inr ⟨u _ _ (by omega) (by omega), fun k => u _ _ (by omega) (by omega)⟩), k3.fr fun o k _ => u o k (by omega) (by omega), k4.fr fun o k _ => u o k (by omega) (by omega), k5.fr fun o k _ => u o k (by omega) (by omega), k6.fr fun o k _ => u o k (by omega) (by omega)⟩
      obtain ⟨u1, u2, u3, u4⟩ := k1
      refine ⟨?_, ?_, fun x hx => ?_, ?_⟩
      · rw [u 797 6 (by omega) (by omega), show M2 802 = N 802 from funext fun k => u 802 k (by omega) (by omega)]; exact u1
      · unfold im_ok im_t at u2 ⊢
        rw [u 797 2 (by omega) (by omega), show M2 799 = N 799 from funext fun k => u 799 k (by omega) (by omega)]; exact u2
      · by_cases c : x = y
        · rw [c]
          refine .inr ⟨g788, imy.2 nng.2.2.1 ⟨t, ?_⟩⟩
          have e : pz_ls (fun k => N 798 k) (N 798 640) = tx M 3 := enow
          rw [e]; exact hc.1.2.1.1
        · rw [hN x hx c]
          exact (u3 x hx).imp id fun ⟨a, b⟩ => ⟨a, (imo x hx c b).2⟩
      · unfold is_A at u4 ⊢
        rw [u 797 71 (by omega) (by omega), show M2 847 = N 847 from funext fun k => u 847 k (by omega) (by omega)]; exact u4
    have fin : ∀ o k : Nat, (o < 20 ∨ o = 795 ∨ o = 796 ∨ (798 ≤ o ∧ o ≤ 799) ∨ o = 802 ∨ o = 846 ∨ o = 847 ∨ (o = 797 ∧ (k = 2 ∨ k = 6 ∨ k = 71))) → M2 o k = M o k := fun o k a => ((u o k (by omega) (by omega)).trans (hq o k (by omega))).trans (f1 o k (by omega) (by omega) (by omega))
    obtain ⟨-, e1, e2⟩ := hic.1.fr (M' := M2) fun o k _ => lo o k (by omega)
    refine ⟨t, hic.hi lo, by rw [e2, etx]; exact hir.le (by omega), ⟨?_, fun k hk => ?_⟩, ?_, ⟨?_, ?_⟩, fun x hx => ?_, ?_, fun k hk => ?_⟩
    · rw [fin 1 1 (by omega), fin 797 6 (by omega)]; exact l1.1
    · rw [fin 1 1 (by omega)] at hk
      rw [fin 2 k (by omega), fin 802 k (by omega)]; exact l1.2 k hk
    · rw [e2, etx, hir.2.1.2.1]
    · rw [fin 0 13 (by omega), fin 797 2 (by omega)]; exact l3.1
    · rw [e1, hpast, fin 797 2 (by omega), l3.2]
      exact List.map_congr_left fun j _ => (im_t_fr (funext fun k => fin 799 k (by omega)) j).symm
    · have e3 := (tx_sm (M := M1) (M' := M2) (o := 21 + 2 * x) (lo _ _ (by omega)) fun k => lo _ k (by omega)).1
      by_cases c : x = y
      · rw [c, lo 25 y (by omega), g25, g788]
        refine ⟨rfl, fun _ => ?_⟩
        rw [c] at e3
        rw [e3, gtx.1, imy.1]
        exact enow.symm
      · obtain ⟨c1, c2, c3⟩ := hother x hx c
        obtain ⟨d1, d2⟩ := l4 x hx
        have eN : N 801 x = M 801 x := (hq 801 x (by omega)).trans (gM1 801 x (by omega))
        rw [lo 25 x (by omega), c1, hN x hx c, eN]
        refine ⟨d1, fun w => ?_⟩
        rw [e3, c2, d2 w]
        have ho : im_ok N 800 x := by
          rcases hI.1.2.2.1 x hx with v | v
          · omega
          · exact v.2
        rw [(imo x hx c ho).1]
        exact (im_t_fr (funext fun k => (hq 800 k (by omega)).trans (gM1 800 k (by omega))) x).symm
    · rw [fin 0 14 (by omega), fin 797 71 (by omega)]; exact l5.1
    · rw [fin 0 14 (by omega)] at hk
      rw [fin 795 k (by omega), fin 796 k (by omega), fin 846 k (by omega), fin 847 k (by omega)]
      exact l5.2 k hk
  · obtain ⟨e, er⟩ := p0 hz
    rw [e]
    refine ⟨⟨hr.2.1.2.2, i1⟩, fun r' M2 hP' => ?_⟩
    obtain ⟨er', e2⟩ := hP'.1 hz
    rw [e2]
    exact ⟨by rw [er, er'], h.q hc (fun _ _ _ => rfl) hr (by omega) (rq_F.rf M)⟩
