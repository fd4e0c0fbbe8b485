/-! both sides, one call: starts, ask; typed letters, observations -/
theorem ob_k {M1 M2 : ab_M} {s : Nat} : ∀ k : Nat, (∀ j, j < k → iy_c M1 s j = is_c M2 s j) → iy_k M1 s k = is_k M2 s k
  | 0, _ => rfl
  | k + 1, h => by
    show (iy_k M1 s k && iy_c M1 s k) = (is_k M2 s k && is_c M2 s k)
    rw [ob_k k fun j hj => h j (by omega), h k (by omega)]
theorem ob_b {M M1 M2 : ab_M} {n : Nat} {t : pz_T} (h : IN_P M n t) (f1 : iq_F M M1) (f2 : rq_F M1 M2) (h1 : cm_R M1 t 0) (h2 : mk_R M2 t 0) : ∀ x : Nat, x < 256 → iy_b M1 x = is_b M2 x := by
  intro x hx
  obtain ⟨hc, hr, -, -, -, -, l1, l2⟩ := h
  unfold iy_b is_b
  have e1 : M1 0 14 = M 0 14 := f1 0 14 (by omega)
  have e2 : M2 797 71 = M 797 71 := (f2 797 71 (by omega)).trans (f1 797 71 (by omega))
  rw [e1, e2, ← l1]
  refine ob_k _ fun j hj => ?_
  obtain ⟨a1, a2, a3⟩ := l2 j (by omega)
  have hw := (hc.2.1.2.2 j).1
  have hb := bq (cm_f (md := 0) (c := M 795 j) (.inl rfl) h1 (by omega)) (mk_f (md := 0) (c := M 795 j) (.inl rfl) h2 (by omega)) x hx
  unfold iy_c is_c
  rw [f1 795 j (by omega), f1 796 j (by omega), (f2 846 j (by omega)).trans (f1 846 j (by omega)), (f2 847 j (by omega)).trans (f1 847 j (by omega)), ← a1, ← a2, hb, pz_b_has (by omega) (by omega)]
  unfold wr_f
  rw [show 256 * (0 : Int).toNat + x = x by omega]
  rcases a3 with z | z
  · rw [z]; cases pz_b (M2 826 x) (M 795 j).toNat <;> rfl
  · rw [z]; cases pz_b (M2 826 x) (M 795 j).toNat <;> rfl
theorem ic_P.iy {M M1 : ab_M} {t : pz_T} (h : ic_P M t) (hp : pp_P M M1 0) : iy_A M1 := (h.prep (c := 0) (.inl rfl) hp).1.1.2.1.2
theorem ir_P.stA {M : ab_M} {ls : List Int} {t : pz_T} {B : Int} (h : ir_P M ls t B) : st_A M (wd1 ls t) (wd2 ls t) := ⟨h.fA (.inl rfl), fun M1 hp => (h.fm (md := 0) (.inl rfl) hp).1.1.1.2.2.2⟩
theorem bo_starts {n : Nat} {M : ab_M} (h : INV n M) {q : Int} (i1 : ab_ir q) : bo_P S_X8_starts S_X9_starts [iV q] n M := by
  obtain ⟨t, h⟩ := h
  obtain ⟨hc, hr, hl⟩ := id h
  refine ⟨⟨i1, hc.pp, fun M1 hp => hc.iy hp⟩, fun r M1 hP => ⟨r, rfl, ?_⟩⟩
  obtain ⟨p1, p2⟩ := hP
  by_cases hv : 0 ≤ q ∧ q ≤ 1
  · obtain ⟨hp, v0, v1⟩ := p2 hv
    obtain ⟨⟨c1, c2⟩, c3⟩ := hc.prep (c := 0) (.inl rfl) hp
    have hr1 := h.r1 c2
    refine ⟨wd1 (tx M 3) t, wd2 (tx M 3) t, ⟨i1, hr1.stA⟩, fun r' M2 hP' => ?_⟩
    obtain ⟨s1, s2, s3⟩ := hP'.2 hv
    obtain ⟨⟨j1, -, j3⟩, j4⟩ := hr1.fm (md := 0) (.inl rfl) s1
    refine ⟨?_, h.q c1 c2 j1 (by omega) j3⟩
    have hfg := ob_b h c2 j3 c3 j4
    have hq : q = 0 ∨ q = 1 := by omega
    have : r' = r := by
      rcases hq with z | z
      · rw [s2 z, v0 z, gxm_cg 256 hfg]
      · exact (wr1_uq (v1 z) (s3 z) hfg).symm
    rw [this]
  · obtain ⟨e, er⟩ := p1 hv
    rw [e]
    refine ⟨wd1 (tx M 3) t, wd2 (tx M 3) t, ⟨i1, hr.stA⟩, fun r' M2 hP' => ?_⟩
    obtain ⟨e2, er2⟩ := hP'.1 hv
    rw [e2]
    exact ⟨by rw [er, er2], h.q hc (fun _ _ _ => rfl) hr (by omega) (rq_F.rf M)⟩
theorem al_gg (M : ab_M) (v : Nat) : ∀ k : Nat, al_m M v k = gg_m (is_b M) v k
  | 0 => rfl
  | k + 1 => by
    show (if al_m M v k < gx_m (al_g M v k) 256 then _ else _) = (if gg_m (is_b M) v k < gx_m (gg_g (is_b M) v k) 256 then _ else _)
    rw [al_gg M v k]; rfl
theorem gg_m_cg {f g : Nat → Bool} (h : ∀ x : Nat, x < 256 → f x = g x) (v : Nat) : ∀ k : Nat, gg_m f v k = gg_m g v k
  | 0 => rfl
  | k + 1 => by
    have e : gx_m (gg_g f v k) 256 = gx_m (gg_g g v k) 256 := gxm_cg 256 fun x hx => by unfold gg_g; rw [h x hx]
    show (if gg_m f v k < gx_m (gg_g f v k) 256 then gx_m (gg_g f v k) 256 else gg_m f v k) = (if gg_m g v k < gx_m (gg_g g v k) 256 then gx_m (gg_g g v k) 256 else gg_m g v k)
    rw [gg_m_cg h v k, e]
theorem gg_m_le (f : Nat → Bool) (v : Nat) : ∀ k : Nat, gg_m f v k ≤ 256
  | 0 => Nat.zero_le _
  | k + 1 => by
    have h1 := gg_m_le f v k
    have h2 := gxm_le (gg_g f v k) 256
    show (if gg_m f v k < gx_m (gg_g f v k) 256 then gx_m (gg_g f v k) 256 else gg_m f v k) ≤ 256
    split <;> omega
theorem as_gg {M : ab_M} {f : Nat → Bool} (h : ∀ x : Nat, x < 256 → f x = is_b M x) (b0 : Int) : ∀ k : Nat, as_b M (k + 1) = gg_b f b0 (k + 1)
  | 0 => by
    have e : al_m M 0 4 = gg_m f 0 4 := by rw [al_gg, gg_m_cg h]
    have hl := gg_m_le f 0 4
    show (if ((al_m M 0 4 : Nat) : Int) < 257 then ((0 : Nat) : Int) else -9, if ((al_m M 0 4 : Nat) : Int) < 257 then ((al_m M 0 4 : Nat) : Int) else 257) = (if ((gg_m f 0 4 : Nat) : Int) < 257 then ((0 : Nat) : Int) else b0, if ((gg_m f 0 4 : Nat) : Int) < 257 then ((gg_m f 0 4 : Nat) : Int) else 257)
    rw [e, if_pos (by omega), if_pos (by omega), if_pos (by omega)]
  | k + 1 => by
    have e : al_m M (k + 1) 4 = gg_m f (k + 1) 4 := by rw [al_gg, gg_m_cg h]
    show (if ((al_m M (k + 1) 4 : Nat) : Int) < (as_b M (k + 1)).2 then ((k + 1 : Nat) : Int) else (as_b M (k + 1)).1, if ((al_m M (k + 1) 4 : Nat) : Int) < (as_b M (k + 1)).2 then ((al_m M (k + 1) 4 : Nat) : Int) else (as_b M (k + 1)).2) = (if ((gg_m f (k + 1) 4 : Nat) : Int) < (gg_b f b0 (k + 1)).2 then ((k + 1 : Nat) : Int) else (gg_b f b0 (k + 1)).1, if ((gg_m f (k + 1) 4 : Nat) : Int) < (gg_b f b0 (k + 1)).2 then ((gg_m f (k + 1) 4 : Nat) : Int) else (gg_b f b0 (k + 1)).2)
    rw [e, as_gg h b0 k]
theorem bo_ask {n : Nat} {M : ab_M} (h : INV n M) : bo_P S_X8_ask S_X9_ask [] n M := by
  obtain ⟨t, h⟩ := h
  obtain ⟨hc, hr, hl⟩ := id h
  refine ⟨⟨hc.pp, fun M1 hp => hc.iy hp⟩, fun r M1 hP => ⟨r, rfl, ?_⟩⟩
  obtain ⟨hp, v0, v1⟩ := hP
  obtain ⟨⟨c1, c2⟩, c3⟩ := hc.prep (c := 0) (.inl rfl) hp
  have hr1 := h.r1 c2
  refine ⟨wd1 (tx M 3) t, wd2 (tx M 3) t, hr1.stA, fun r' M2 hP' => ?_⟩
  obtain ⟨s1, s2, s3⟩ := hP'
  obtain ⟨⟨j1, -, j3⟩, j4⟩ := hr1.fm (md := 0) (.inl rfl) s1
  refine ⟨?_, h.q c1 c2 j1 (by omega) j3⟩
  have hfg := ob_b h c2 j3 c3 j4
  have e := gxm_cg 256 hfg
  have : r' = r := by
    by_cases z : gx_m (iy_b M1) 256 < 2
    · rw [v0 z, s2 (by omega)]
    · rw [v1 (by omega), s3 (by omega), as_gg hfg 0 3]
  rw [this]
/-- typed letters changed, alike -/
theorem IN_P.ty {M M' : ab_M} {n : Nat} {t : pz_T} (h : IN_P M n t) (hf : ∀ o k : Nat, ¬ (o = 1 ∧ k = 1) → o ≠ 2 → ¬ (o = 797 ∧ k = 6) → o ≠ 802 → M' o k = M o k) (h1 : tx_ok M' 1) (h2 : ∀ k : Nat, (k : Int) < M' 797 6 → 0 ≤ M' 802 k ∧ M' 802 k < 256) (h3 : M' 1 1 = M' 797 6 ∧ ∀ k : Nat, (k : Int) < M' 1 1 → M' 2 k = M' 802 k) : INV (n + 1) M' := by
  obtain ⟨⟨b1, b2, b3⟩, ⟨r1, r2, r3, r4, r5, r6⟩, l1, l2, l3, l4, l5⟩ := h
  obtain ⟨e0, e1, e2⟩ := b1.fr (M' := M') fun o k _ => hf o k (by omega) (by omega) (by omega) (by omega)
  have e786 : M' 799 = M 799 := funext fun k => hf 799 k (by omega) (by omega) (by omega) (by omega)
  have e787 : M' 800 = M 800 := funext fun k => hf 800 k (by omega) (by omega) (by omega) (by omega)
  have e788 : M' 801 = M 801 := funext fun k => hf 801 k (by omega) (by omega) (by omega) (by omega)
  have e785 : M' 798 = M 798 := funext fun k => hf 798 k (by omega) (by omega) (by omega) (by omega)
  have e834 : M' 847 = M 847 := funext fun k => hf 847 k (by omega) (by omega) (by omega) (by omega)
  have f84 : ∀ k, k ≠ 6 → M' 797 k = M 797 k := fun k hk => hf 797 k (by omega) (by omega) (by omega) (by omega)
  have h11 := h1.1
  rw [if_pos rfl] at h11
  refine ⟨t, ⟨e0, ⟨h1, ?_⟩, b3.fr fun o k _ => hf o k (by omega) (by omega) (by omega) (by omega)⟩, ?_, h3, ?_, ⟨?_, ?_⟩, fun z hz => ?_, ?_, fun k hk => ?_⟩
  · obtain ⟨a, b⟩ := b2.2
    exact ⟨by rw [hf 0 14 (by omega) (by omega) (by omega) (by omega)]; exact a, fun k => by rw [hf 795 k (by omega) (by omega) (by omega) (by omega), hf 796 k (by omega) (by omega) (by omega) (by omega)]; exact b k⟩
  · rw [e2]
    refine (show ir_P M' (tx M 3) t ((256 * n : Nat) : Int) from ⟨?_, r2.fr (fun o k _ => hf o k (by omega) (by omega) (by omega) (by omega)) (.inr ⟨hf _ _ (by omega) (by omega) (by omega) (by omega), fun k => hf _ _ (by omega) (by omega) (by omega) (by omega)⟩), r3.fr fun o k _ => hf o k (by omega) (by omega) (by omega) (by omega), r4.fr fun o k _ => hf o k (by omega) (by omega) (by omega) (by omega), r5.fr fun o k _ => hf o k (by omega) (by omega) (by omega) (by omega), r6.fr fun o k _ => hf o k (by omega) (by omega) (by omega) (by omega)⟩).le (by omega)
    obtain ⟨-, u2, u3, u4⟩ := r1
    refine ⟨⟨by omega, h2⟩, ?_, ?_, ?_⟩
    · unfold im_ok im_t at u2 ⊢; rw [e786, f84 2 (by decide)]; exact u2
    · unfold im_ok im_t at u3 ⊢; rw [e787, e788]; exact u3
    · unfold is_A at u4 ⊢; rw [e834, f84 71 (by decide)]; exact u4
  · rw [e2, l2]; unfold pz_now; rw [e785]
  · rw [hf 0 13 (by omega) (by omega) (by omega) (by omega), f84 2 (by decide)]; exact l3.1
  · rw [e1, f84 2 (by decide), l3.2]
    exact List.map_congr_left fun j _ => (im_t_fr e786 j).symm
  · rw [hf 25 z (by omega) (by omega) (by omega) (by omega), e788, (tx_sm (M := M) (M' := M') (o := 21 + 2 * z) (hf _ _ (by omega) (by omega) (by omega) (by omega)) fun k => hf _ k (by omega) (by omega) (by omega) (by omega)).1, im_t_fr e787]
    exact l4 z hz
  · rw [hf 0 14 (by omega) (by omega) (by omega) (by omega), f84 71 (by decide)]; exact l5.1
  · rw [hf 0 14 (by omega) (by omega) (by omega) (by omega)] at hk
    rw [hf 795 k (by omega) (by omega) (by omega) (by omega), hf 796 k (by omega) (by omega) (by omega) (by omega), hf 846 k (by omega) (by omega) (by omega) (by omega), e834]
    exact l5.2 k hk
/-- observations changed, alike -/
theorem IN_P.ob {M M' : ab_M} {n : Nat} {t : pz_T} (h : IN_P M n t) (hf : ∀ o k : Nat, ¬ (o = 0 ∧ k = 14) → o ≠ 795 → o ≠ 796 → ¬ (o = 797 ∧ k = 71) → o ≠ 846 → o ≠ 847 → M' o k = M o k) (h1 : iy_A M') (h2 : is_A M') (h3 : M' 0 14 = M' 797 71 ∧ ∀ k : Nat, (k : Int) < M' 0 14 → M' 795 k = M' 846 k ∧ M' 796 k = M' 847 k ∧ (M' 796 k = 0 ∨ M' 796 k = 1)) : INV (n + 1) M' := by
  obtain ⟨⟨b1, b2, b3⟩, ⟨r1, r2, r3, r4, r5, r6⟩, l1, l2, l3, l4, l5⟩ := h
  have f : ∀ o k : Nat, ¬ (o = 0 ∧ k = 14) → ¬ (795 ≤ o ∧ o ≤ 796) → ¬ (o = 797 ∧ k = 71) → ¬ (846 ≤ o) → M' o k = M o k := fun o k a b c d => hf o k a (by omega) (by omega) c (by omega) (by omega)
  obtain ⟨e0, e1, e2⟩ := b1.fr (M' := M') fun o k _ => f o k (by omega) (by omega) (by omega) (by omega)
  have e786 : M' 799 = M 799 := funext fun k => f 799 k (by omega) (by omega) (by omega) (by omega)
  have e787 : M' 800 = M 800 := funext fun k => f 800 k (by omega) (by omega) (by omega) (by omega)
  have e788 : M' 801 = M 801 := funext fun k => f 801 k (by omega) (by omega) (by omega) (by omega)
  have e789 : M' 802 = M 802 := funext fun k => f 802 k (by omega) (by omega) (by omega) (by omega)
  have e785 : M' 798 = M 798 := funext fun k => f 798 k (by omega) (by omega) (by omega) (by omega)
  have f84 : ∀ k, k ≠ 71 → M' 797 k = M 797 k := fun k hk => f 797 k (by omega) (by omega) (by omega) (by omega)
  refine ⟨t, ⟨e0, ⟨(tx_sm (f 1 1 (by omega) (by omega) (by omega) (by omega)) fun k => f 2 k (by omega) (by omega) (by omega) (by omega)).2 b2.1, h1⟩, b3.fr fun o k _ => f o k (by omega) (by omega) (by omega) (by omega)⟩, ?_, ⟨?_, fun k hk => ?_⟩, ?_, ⟨?_, ?_⟩, fun z hz => ?_, h3⟩
  · rw [e2]
    refine (show ir_P M' (tx M 3) t ((256 * n : Nat) : Int) from ⟨?_, r2.fr (fun o k _ => f o k (by omega) (by omega) (by omega) (by omega)) (.inr ⟨f _ _ (by omega) (by omega) (by omega) (by omega), fun k => f _ _ (by omega) (by omega) (by omega) (by omega)⟩), r3.fr fun o k _ => f o k (by omega) (by omega) (by omega) (by omega), r4.fr fun o k _ => f o k (by omega) (by omega) (by omega) (by omega), r5.fr fun o k _ => f o k (by omega) (by omega) (by omega) (by omega), r6.fr fun o k _ => f o k (by omega) (by omega) (by omega) (by omega)⟩).le (by omega)
    obtain ⟨u1, u2, u3, u4⟩ := r1
    refine ⟨?_, ?_, ?_, h2⟩
    · rw [f84 6 (by decide), e789]; exact u1
    · unfold im_ok im_t at u2 ⊢; rw [e786, f84 2 (by decide)]; exact u2
    · unfold im_ok im_t at u3 ⊢; rw [e787, e788]; exact u3
  · rw [f 1 1 (by omega) (by omega) (by omega) (by omega), f84 6 (by decide)]; exact l1.1
  · rw [f 1 1 (by omega) (by omega) (by omega) (by omega)] at hk
    rw [f 2 k (by omega) (by omega) (by omega) (by omega), e789]; exact l1.2 k hk
  · rw [e2, l2]; unfold pz_now; rw [e785]
  · rw [f 0 13 (by omega) (by omega) (by omega) (by omega), f84 2 (by decide)]; exact l3.1
  · rw [e1, f84 2 (by decide), l3.2]
    exact List.map_congr_left fun j _ => (im_t_fr e786 j).symm
  · rw [f 25 z (by omega) (by omega) (by omega) (by omega), e788, (tx_sm (M := M) (M' := M') (o := 21 + 2 * z) (f _ _ (by omega) (by omega) (by omega) (by omega)) fun k => f _ k (by omega) (by omega) (by omega) (by omega)).1, im_t_fr e787]
    exact l4 z hz
theorem bo_type {n : Nat} {M : ab_M} (h : INV n M) {z : Int} (i1 : ab_ir z) : bo_P S_X8_type S_X9_type [iV z] n M := by
  obtain ⟨t, h⟩ := h
  obtain ⟨hc, hr, hl⟩ := id h
  have h11 := hc.2.1.1.1
  rw [if_pos rfl] at h11
  have hu := hr.1.1
  have he := hl.1.1
  refine ⟨⟨i1, h11.1, h11.2⟩, fun r M1 hM hP => ⟨r, rfl, ?_⟩⟩
  by_cases hb : z < 0 ∨ 255 < z ∨ 120 ≤ M 1 1
  · rw [if_pos hb] at hM
    rw [hM]
    refine ⟨⟨i1, hu.1.1, hu.1.2⟩, fun r' M2 hM2 hP' => ?_⟩
    rw [if_pos (by omega)] at hM2
    rw [hM2]
    refine ⟨by rw [hP, hP', he], h.q hc (fun _ _ _ => rfl) hr (by omega) (rq_F.rf M)⟩
  · rw [if_neg hb] at hM
    have e6 : M1 797 6 = M 797 6 := by rw [hM, up_ne (by omega), up_ne (by omega)]
    refine ⟨⟨i1, by omega, by omega⟩, fun r' M2 hM2 hP' => ?_⟩
    rw [if_neg (by omega)] at hM2
    refine ⟨by rw [hP, hP', e6, he], ?_⟩
    have g1 : M2 1 1 = M 1 1 + 1 := by rw [hM2, up_ne (by omega), up_ne (by omega), hM, ab_up_s]
    have g2 : M2 797 6 = M 797 6 + 1 := by rw [hM2, ab_up_s, e6]
    have g3 : ∀ k : Nat, M2 2 k = if k = (M 1 1).toNat then z else M 2 k := fun k => by
      rw [hM2, up_ne (by omega), up_ne (by omega), hM, up_ne (by omega)]
      by_cases c : k = (M 1 1).toNat
      · rw [if_pos c, c, ab_up_s]
      · rw [if_neg c, up_ne (by omega)]
    have g4 : ∀ k : Nat, M2 802 k = if k = (M 1 1).toNat then z else M 802 k := fun k => by
      rw [hM2, up_ne (by omega), e6, ← he]
      by_cases c : k = (M 1 1).toNat
      · rw [if_pos c, c, ab_up_s]
      · rw [if_neg c, up_ne (by omega), hM, up_ne (by omega), up_ne (by omega)]
    refine h.ty (fun o k a b c d => by rw [hM2, up_ne (by omega), up_ne (by omega), hM, up_ne (by omega), up_ne (by omega)]) ⟨by rw [if_pos rfl]; omega, fun j => ?_⟩ (fun k hk => ?_) ⟨by omega, fun k hk => ?_⟩
    · show 0 ≤ M2 2 j ∧ M2 2 j < 256
      rw [g3]; split
      · omega
      · exact hc.2.1.1.2 j
    · rw [g4]; split
      · omega
      · exact hu.2 k (by omega)
    · rw [g3, g4]; split
      · rfl
      · exact hl.1.2 k (by omega)
theorem bo_clear {n : Nat} {M : ab_M} (h : INV n M) : bo_P S_X8_clear S_X9_clear [] n M := by
  obtain ⟨t, h⟩ := h
  obtain ⟨hc, hr, hl⟩ := id h
  refine ⟨trivial, fun r M1 hM hP => ⟨r, rfl, trivial, fun r' M2 hM2 hP' => ⟨?_, ?_⟩⟩⟩
  · rw [hP, hP', hM, up_ne (by omega), hl.1.1]
  · have g1 : M2 1 1 = 0 := by rw [hM2, up_ne (by omega), hM, ab_up_s]
    have g2 : M2 797 6 = 0 := by rw [hM2, ab_up_s]
    have g3 : ∀ k : Nat, M2 2 k = M 2 k := fun k => by rw [hM2, up_ne (by omega), hM, up_ne (by omega)]
    refine h.ty (fun o k a b c d => by rw [hM2, up_ne (by omega), hM, up_ne (by omega)]) ⟨by rw [if_pos rfl, g1]; exact ⟨by decide, by decide⟩, fun j => ?_⟩ (fun k hk => by omega) ⟨by omega, fun k hk => by omega⟩
    show 0 ≤ M2 2 j ∧ M2 2 j < 256
    rw [g3]; exact hc.2.1.1.2 j
theorem bo_forget {n : Nat} {M : ab_M} (h : INV n M) : bo_P S_X8_forget S_X9_forget [] n M := by
  obtain ⟨t, h⟩ := h
  obtain ⟨hc, hr, hl⟩ := id h
  refine ⟨trivial, fun r M1 hM hP => ⟨r, rfl, trivial, fun r' M2 hM2 hP' => ⟨?_, ?_⟩⟩⟩
  · rw [hP, hP', hM, up_ne (by omega), hl.2.2.2.2.1]
  · have g1 : M2 0 14 = 0 := by rw [hM2, up_ne (by omega), hM, ab_up_s]
    have g2 : M2 797 71 = 0 := by rw [hM2, ab_up_s]
    have f : ∀ o k : Nat, ¬ (o = 0 ∧ k = 14) → ¬ (o = 797 ∧ k = 71) → M2 o k = M o k := fun o k a b => by rw [hM2, up_ne (by omega), hM, up_ne (by omega)]
    refine h.ob (fun o k a b c d e g => f o k a d) ⟨by rw [g1]; exact ⟨by decide, by decide⟩, fun k => ?_⟩ ⟨by rw [g2]; exact ⟨by decide, by decide⟩, fun k => ?_⟩ ⟨by omega, fun k hk => by omega⟩
    · rw [f 795 k (by omega) (by omega), f 796 k (by omega) (by omega)]; exact hc.2.1.2.2 k
    · rw [f 847 k (by omega) (by omega)]; exact hr.1.2.2.2.2 k
theorem bo_sees {n : Nat} {M : ab_M} (h : INV n M) {w z : Int} (i1 : ab_ir w) (i2 : ab_ir z) : bo_P S_X8_sees S_X9_sees [iV w, iV z] n M := by
  obtain ⟨t, h⟩ := h
  obtain ⟨hc, hr, hl⟩ := id h
  obtain ⟨y1, y2⟩ := hc.2.1.2
  obtain ⟨z1, z2⟩ := hr.1.2.2.2
  have he := hl.2.2.2.2.1
  refine ⟨⟨i1, i2, y1.1, y1.2⟩, fun r M1 hM hP => ⟨r, rfl, ?_⟩⟩
  by_cases hb : w < 0 ∨ 17 < w ∨ ¬ (z = 0 ∨ z = 1) ∨ 6 ≤ M 0 14
  · rw [if_pos hb] at hM
    rw [hM]
    refine ⟨⟨i1, i2, z1.1, z1.2⟩, fun r' M2 hM2 hP' => ?_⟩
    rw [if_pos (by omega)] at hM2
    rw [hM2]
    refine ⟨by rw [hP, hP', he], h.q hc (fun _ _ _ => rfl) hr (by omega) (rq_F.rf M)⟩
  · rw [if_neg hb] at hM
    have e6 : M1 797 71 = M 797 71 := by rw [hM, up_ne (by omega), up_ne (by omega), up_ne (by omega)]
    refine ⟨⟨i1, i2, by omega, by omega⟩, fun r' M2 hM2 hP' => ?_⟩
    rw [if_neg (by omega)] at hM2
    refine ⟨by rw [hP, hP', e6, he], ?_⟩
    have g1 : M2 0 14 = M 0 14 + 1 := by rw [hM2, up_ne (by omega), up_ne (by omega), up_ne (by omega), hM, ab_up_s]
    have g2 : M2 797 71 = M 797 71 + 1 := by rw [hM2, ab_up_s, e6]
    have g3 : ∀ k : Nat, M2 795 k = if k = (M 0 14).toNat then w else M 795 k := fun k => by
      rw [hM2, up_ne (by omega), up_ne (by omega), up_ne (by omega), hM, up_ne (by omega), up_ne (by omega)]
      by_cases c : k = (M 0 14).toNat
      · rw [if_pos c, c, ab_up_s]
      · rw [if_neg c, up_ne (by omega)]
    have g4 : ∀ k : Nat, M2 796 k = if k = (M 0 14).toNat then z else M 796 k := fun k => by
      rw [hM2, up_ne (by omega), up_ne (by omega), up_ne (by omega), hM, up_ne (by omega)]
      by_cases c : k = (M 0 14).toNat
      · rw [if_pos c, c, ab_up_s]
      · rw [if_neg c, up_ne (by omega), up_ne (by omega)]
    have g5 : ∀ k : Nat, M2 846 k = if k = (M 0 14).toNat then w else M 846 k := fun k => by
      rw [hM2, up_ne (by omega), up_ne (by omega), e6, ← he]
      by_cases c : k = (M 0 14).toNat
      · rw [if_pos c, c, ab_up_s]
      · rw [if_neg c, up_ne (by omega), hM, up_ne (by omega), up_ne (by omega), up_ne (by omega)]
    have g6 : ∀ k : Nat, M2 847 k = if k = (M 0 14).toNat then z else M 847 k := fun k => by
      rw [hM2, up_ne (by omega), e6, ← he]
      by_cases c : k = (M 0 14).toNat
      · rw [if_pos c, c, ab_up_s]
      · rw [if_neg c, up_ne (by omega), up_ne (by omega), hM, up_ne (by omega), up_ne (by omega), up_ne (by omega)]
    refine h.ob (fun o k a b c d e g => by rw [hM2, up_ne (by omega), up_ne (by omega), up_ne (by omega), hM, up_ne (by omega), up_ne (by omega), up_ne (by omega)]) ⟨by omega, fun k => ?_⟩ ⟨by omega, fun k => ?_⟩ ⟨by omega, fun k hk => ?_⟩
    · rw [g3, g4]; split
      · exact ⟨by omega, i2⟩
      · exact y2 k
    · rw [g6]; split
      · exact i2
      · exact z2 k
    · rw [g3, g4, g5, g6]; split
      · exact ⟨rfl, rfl, by omega⟩
      · exact hl.2.2.2.2.2 k (by omega)
