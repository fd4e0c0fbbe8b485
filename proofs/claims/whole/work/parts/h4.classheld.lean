/-! what holds of the class between calls -/
def ib_P (M : ab_M) (t : pz_T) : Prop := (tc_ok M ∧ sv_ok M ∧ M 395 0 = 1) ∧ pd_P M t ∧ ts_s M 388 ∧ (∀ w ∈ past M, ∃ t', gd w t') ∧ (∀ z : Nat, z < 2 → M 25 z = 0 ∨ (M 25 z = 1 ∧ tx_ok M (21 + 2 * z) ∧ ∃ t', gd (tx M (21 + 2 * z)) t')) ∧ tx_ok M 21 ∧ tx_ok M 23
def ia_P (M : ab_M) : Prop := tx_ok M 1 ∧ iy_A M
def cm_R (M : ab_M) (t : pz_T) (c : Nat) : Prop := ∀ s : Nat, s < 256 → ∀ b : Nat, b < 32 → (pz_b (M (785 + c) s) b = true ↔ mo_P ((c : Nat) : Int) t s b)
/-- the places that are marked -/
def mk_Q (M : ab_M) (t : pz_T) : Prop := M 775 9 = -1 ∨ ∃ c s : Nat, c < 2 ∧ s < 256 ∧ M 775 9 = ((c * 256 + s : Nat) : Int) ∧ ∀ x : Nat, x < 256 → ((M 776 (120 * 256 + x) = 0 ∨ M 776 (120 * 256 + x) = 1) ∧ (M 776 (121 * 256 + x) = 0 ∨ M 776 (121 * 256 + x) = 1)) ∧ (M 776 (120 * 256 + x) ≠ 0 ↔ me_P ((c : Nat) : Int) t s x) ∧ (M 776 (121 * 256 + x) ≠ 0 ↔ mh_P ((c : Nat) : Int) t s x)
/-- a loop's greatest set, and the rounds -/
def kq_K (M : ab_M) (t : pz_T) (l : Nat) : Prop := ∃ i : Nat, M 789 l = (i : Int) ∧ (∃ f : Nat → Bool, (∀ x, x < 256 → (f x = true ↔ kk_K t l i x)) ∧ M 788 l = ((gx_m f 256 : Nat) : Int)) ∧ (∀ j, j < i → ∃ x : Nat, x < 256 ∧ kk_K t l j x ∧ ¬ kk_K t l (j + 1) x) ∧ ∀ x : Nat, x < 256 → kk_K t l i x → kk_K t l (i + 1) x
def kq_P (M : ab_M) (t : pz_T) (l : Nat) : Prop := M 787 l = 0 ∨ (M 787 l = 1 ∧ (l < pz_nl t → kq_K M t l))
def ih_P (M : ab_M) (t : pz_T) : Prop := tv_ok M ∧ mk_Q M t ∧ (M 769 3 = 0 ∨ M 769 3 = 1 ∧ vl_V M M (M 26 11)) ∧ (∀ c : Nat, c < 2 → M 768 (7 + c) = 0 ∨ (M 768 (7 + c) = 1 ∧ cm_R M t c)) ∧ ∀ l : Nat, l < 4 → kq_P M t l
def ic_P (M : ab_M) (t : pz_T) : Prop := ib_P M t ∧ ia_P M ∧ ih_P M t
theorem tx_sm {M M' : ab_M} {o : Nat} (h1 : M' o 1 = M o 1) (h2 : ∀ k, M' (o + 1) k = M (o + 1) k) : tx M' o = tx M o ∧ (tx_ok M o → tx_ok M' o) := by
  have e : M' (o + 1) = M (o + 1) := funext h2
  refine ⟨by unfold tx; rw [h1, e], fun ⟨a, b⟩ => ?_⟩
  unfold tx_ok
  rw [h1, e]
  exact ⟨a, b⟩
theorem ib_P.fr {M M' : ab_M} {t : pz_T} (h : ib_P M t) (hf : ∀ o k : Nat, (3 ≤ o ∧ o ≤ 394) ∨ (o = 0 ∧ k = 13) ∨ (o = 395 ∧ k = 0) → M' o k = M o k) : ib_P M' t ∧ past M' = past M ∧ tx M' 3 = tx M 3 := by
  obtain ⟨⟨⟨⟨⟨r1, r2⟩, r3⟩, ⟨r4, r5⟩, r6⟩, s1, s2⟩, h2, h3, h4, h5, h6, h7⟩ := h
  have ht : ∀ o : Nat, 3 ≤ o → o ≤ 24 → tx M' o = tx M o ∧ (tx_ok M o → tx_ok M' o) := fun o a b => tx_sm (hf o 1 (by omega)) fun k => hf (o + 1) k (by omega)
  have e13 := hf 0 13 (by omega)
  have hp : past M' = past M := by
    unfold past
    rw [e13]
    refine List.map_congr_left fun k hk => ?_
    have hk := List.mem_range.1 hk
    obtain ⟨i, i1, i2⟩ := r1 k (by omega)
    rw [hf 7 k (by omega), i2, Int.toNat_natCast]
    exact (ht _ (by omega) (by omega)).1
  refine ⟨⟨⟨⟨⟨⟨fun k hk => by rw [hf 7 k (by omega)]; exact r1 k hk, fun k j a b c => r2 k j a b (by rw [hf 7 k (by omega), hf 7 j (by omega)] at c; exact c)⟩, fun o a b c => (ht o (by omega) (by omega)).2 (r3 o a b c)⟩, ⟨(ht 3 (by omega) (by omega)).2 r4, (ht 5 (by omega) (by omega)).2 r5⟩, by rw [e13]; exact r6⟩, ⟨by rw [hf 20 0 (by omega)]; exact s1.1, by rw [hf 20 1 (by omega)]; exact s1.2⟩, by rw [hf 395 0 (by omega)]; exact s2⟩, h2.fr (fun o k a b => hf o k (by omega)) (hf _ _ (by omega)) (fun k => hf _ _ (by omega)), ?_, by rw [hp]; exact h4, fun z hz => ?_, (ht 21 (by omega) (by omega)).2 h6, (ht 23 (by omega) (by omega)).2 h7⟩, hp, (ht 3 (by omega) (by omega)).1⟩
  · obtain ⟨a1, a2, a3⟩ := h3
    refine ⟨a1, a2, ?_⟩
    have e : M' 388 = M 388 := funext fun k => hf 388 k (by omega)
    rw [e]
    exact a3
  · obtain ⟨e1, e2⟩ := ht (21 + 2 * z) (by omega) (by omega)
    rw [hf 25 z (by omega), e1]
    exact (h5 z hz).imp id fun ⟨a, b, c⟩ => ⟨a, e2 b, c⟩
theorem ia_P.fr {M M' : ab_M} (h : ia_P M) (hf : ∀ o k : Nat, o = 1 ∨ o = 2 ∨ o = 795 ∨ o = 796 ∨ (o = 0 ∧ k = 14) → M' o k = M o k) : ia_P M' := by
  refine ⟨(tx_sm (hf 1 1 (by omega)) fun k => hf 2 k (by omega)).2 h.1, ?_⟩
  obtain ⟨a, b⟩ := h.2
  exact ⟨by rw [hf 0 14 (by omega)]; exact a, fun k => by rw [hf 795 k (by omega), hf 796 k (by omega)]; exact b k⟩
theorem vl_W_fr {M M' : ab_M} (hf : ∀ o k : Nat, o = 4 ∨ o = 393 ∨ o = 394 → M' o k = M o k) (k : Nat) : vl_W M' k = vl_W M k := by
  unfold vl_W
  rw [hf 394 k (by omega), hf 393 k (by omega)]
  exact List.map_congr_left fun j _ => hf 4 _ (by omega)
theorem mk_Q.fr {M M' : ab_M} {t : pz_T} (h : mk_Q M t) (h9 : M' 775 9 = M 775 9) (h6 : ∀ k, M' 776 k = M 776 k) : mk_Q M' t := by
  unfold mk_Q at h ⊢
  simp only [h9, h6]
  exact h
theorem cm_R.fr {M M' : ab_M} {t : pz_T} {c : Nat} (h : cm_R M t c) (h5 : ∀ k, M' (785 + c) k = M (785 + c) k) : cm_R M' t c := fun s hs b hb => by rw [h5]; exact h s hs b hb
theorem kq_P.fr {M M' : ab_M} {t : pz_T} {l : Nat} (h : kq_P M t l) (h7 : M' 787 l = M 787 l) (h8 : M' 788 l = M 788 l) (h9 : M' 789 l = M 789 l) : kq_P M' t l := by
  unfold kq_P kq_K at h ⊢
  rw [h7, h8, h9]
  exact h
theorem ih_P.fr {M M' : ab_M} {t : pz_T} (h : ih_P M t) (hf : ∀ o k : Nat, o = 4 ∨ o = 393 ∨ o = 394 ∨ (o = 26 ∧ k = 11) ∨ (o = 769 ∧ k = 3) ∨ o = 770 ∨ (o = 768 ∧ (k = 7 ∨ k = 8)) ∨ (o = 775 ∧ k = 9) ∨ o = 776 ∨ (785 ≤ o ∧ o ≤ 789) → M' o k = M o k) : ih_P M' t := by
  obtain ⟨h1, h2, h3, h4, h5⟩ := h
  refine ⟨fun k => by rw [hf 770 k (by omega)]; exact h1 k, h2.fr (hf 775 9 (by omega)) (fun k => hf 776 k (by omega)), ?_, fun c hc => ?_, fun l hl => (h5 l hl).fr (hf _ _ (by omega)) (hf _ _ (by omega)) (hf _ _ (by omega))⟩
  · rw [hf 769 3 (by omega), hf 26 11 (by omega)]
    refine h3.imp id fun ⟨a, b⟩ => ⟨a, fun k s hk hs => ?_⟩
    rw [hf 770 _ (by omega), vl_W_fr fun o k _ => hf o k (by omega)]
    exact b k s hk hs
  · rw [hf 768 (7 + c) (by omega)]
    exact (h4 c hc).imp id fun ⟨a, b⟩ => ⟨a, b.fr fun k => hf _ _ (by omega)⟩
theorem ic_P.hi {M M' : ab_M} {t : pz_T} (h : ic_P M t) (hf : ∀ o k : Nat, o < 797 → M' o k = M o k) : ic_P M' t :=
  ⟨(h.1.fr fun o k _ => hf o k (by omega)).1, h.2.1.fr fun o k _ => hf o k (by omega), h.2.2.fr fun o k _ => hf o k (by omega)⟩
theorem ic_P.cv {M : ab_M} {t : pz_T} (h : ic_P M t) : cv_P M := by
  refine ⟨h.1.2.1.vT h.1.1.1.2.1.1, h.2.2.1, h.1.2.1.gA h.1.2.2.1, h.2.2.2.2.1, ?_, ?_⟩
  · rcases h.2.2.2.1 with z | ⟨c, s, c1, c2, z, -⟩
    · rw [z]; exact ⟨by decide, by decide⟩
    · exact ⟨by omega, by omega⟩
  · rcases h.2.2.2.1 with z | ⟨c, s, c1, c2, -, z⟩
    · exact .inl z
    · refine .inr fun j hj => ?_
      have hx : j % 256 < 256 := Nat.mod_lt _ (by decide)
      have y := (z (j % 256) hx).1
      rcases hj with e | e
      · rw [show j = 120 * 256 + j % 256 by omega]; exact y.1
      · rw [show j = 121 * 256 + j % 256 by omega]; exact y.2
theorem ic_P.pp {M : ab_M} {t : pz_T} (h : ic_P M t) : pp_A M :=
  ⟨h.cv, (h.2.2.2.2.2.1 0 (by decide)).imp id fun z => z.1, (h.2.2.2.2.2.1 1 (by decide)).imp id fun z => z.1⟩
theorem ic_P.kf {M : ab_M} {t : pz_T} (h : ic_P M t) : ∀ l : Nat, l < 4 → M 787 l = 0 ∨ M 787 l = 1 := fun l hl => (h.2.2.2.2.2.2 l hl).imp id fun z => z.1
/-- what queries of the class leave alone -/
def iq_F (M M' : ab_M) : Prop := ∀ o k : Nat, ¬ (768 ≤ o ∧ o ≤ 794) → M' o k = M o k
theorem iq_F.tr {A B C : ab_M} (h : iq_F A B) (h' : iq_F B C) : iq_F A C := fun o k z => (h' o k z).trans (h o k z)
/-- the values are there -/
theorem ic_P.vals {M M' : ab_M} {t : pz_T} (h : ic_P M t) (hf : iq_F M M') (hV : vl_V M M' (M 26 11)) : ib_P M' t ∧ ia_P M' ∧ cl_V M' t 0 ∧ vl_V M' M' (M' 26 11) := by
  have hb := (h.1.fr (M' := M') fun o k _ => hf o k (by omega)).1
  refine ⟨hb, h.2.1.fr fun o k _ => hf o k (by omega), h.1.2.1.clV h.1.1.1.2.1.1 hV, fun k s hk hs => ?_⟩
  rw [hf 26 11 (by omega)] at hk
  rw [vl_W_fr fun o k _ => hf o k (by omega)]
  exact hV k s hk hs
theorem ic_P.prep {M M' : ab_M} {t : pz_T} {c : Nat} (hc : c = 0 ∨ c = 1) (h : ic_P M t) (hp : pp_P M M' ((c : Nat) : Int)) : (ic_P M' t ∧ iq_F M M') ∧ cm_R M' t c := by
  obtain ⟨⟨n1, n2, n3⟩, nF, n7, nm, nk, nu⟩ := hp
  rw [Int.toNat_natCast] at n7 nk nu
  have hf : iq_F M M' := fun o k hz => nF o k (by omega) (by omega) (by omega) (by omega) (by omega) (by omega) (by omega) (by omega)
  obtain ⟨v1, v2, v3, v4⟩ := h.vals hf n2
  have hm : cm_R M' t c := by
    rcases h.2.2.2.2.2.1 c (by omega) with z | ⟨z, zm⟩
    · obtain ⟨M2, u1, u2, u3⟩ := nu z
      have hf2 : iq_F M M2 := fun o k hz => u1 o k (by omega)
      obtain ⟨w1, w2, w3, w4⟩ := h.vals hf2 u2.2.1
      intro s hs b hb
      rw [u3 s (by omega) b hb]
      exact w1.2.1.mask (by omega) (w1.2.1.ts w1.2.2.1) w3 hs
    · exact zm.fr (nk z)
  refine ⟨⟨⟨v1, v2, n3, ?_, .inr ⟨n1, v4⟩, fun c' hc' => ?_, fun l hl => ?_⟩, hf⟩, hm⟩
  · rcases nm with z | ⟨z1, z2⟩
    · exact .inl z
    · exact h.2.2.2.1.fr z1 z2
  · by_cases e : c' = c
    · rw [e]; exact .inr ⟨n7, hm⟩
    · rw [nF 768 (7 + c') (by omega) (by omega) (by omega) (by omega) (by omega) (by omega) (by omega) (by omega)]
      exact (h.2.2.2.2.2.1 c' hc').imp id fun ⟨a, b⟩ => ⟨a, b.fr fun k => nF _ k (by omega) (by omega) (by omega) (by omega) (by omega) (by omega) (by omega) (by omega)⟩
  · have e : ∀ o k : Nat, 787 ≤ o → o ≤ 789 → M' o k = M o k := fun o k a b => nF o k (by omega) (by omega) (by omega) (by omega) (by omega) (by omega) (by omega) (by omega)
    exact (h.2.2.2.2.2.2 l hl).fr (e _ _ (by decide) (by decide)) (e _ _ (by decide) (by decide)) (e _ _ (by decide) (by decide))
theorem ic_P.search {M M' : ab_M} {t : pz_T} {md s : Int} (hmd : md = 0 ∨ md = 1) (hs : 0 ≤ s ∧ s < 256) (h : ic_P M t) (hp : se_P M M' md s) : (ic_P M' t ∧ iq_F M M') ∧ ∀ x : Nat, x < 256 → (M' 776 (120 * 256 + x) ≠ 0 ↔ me_P md t s.toNat x) ∧ (M' 776 (121 * 256 + x) ≠ 0 ↔ mh_P md t s.toNat x) := by
  obtain ⟨⟨k1, k2, k3⟩, k4, p2, p3, p4, p5⟩ := hp
  have hf : iq_F M M' := fun o k hz => k4 o k (by omega) (by omega) (by omega) (by omega) (by omega) (by omega) (by omega)
  obtain ⟨v1, v2, v3, v4⟩ := h.vals hf k2
  have key : ∀ x : Nat, x < 256 → (M' 776 (120 * 256 + x) ≠ 0 ↔ me_P md t s.toNat x) ∧ (M' 776 (121 * 256 + x) ≠ 0 ↔ mh_P md t s.toNat x) := fun x hx => by
    by_cases e : M 775 9 = md * 256 + s
    · rcases h.2.2.2.1 with z | ⟨c, s', c1, c2, z, zz⟩
      · omega
      · have e1 : ((c : Nat) : Int) = md := by omega
        have e2 : s.toNat = s' := by omega
        have y := (zz x hx).2
        rw [e1] at y
        rw [p3 e, p3 e, e2]
        exact y
    · have he := v1.2.1.ends hmd v3 (s := s.toNat) (y := x) (by omega) hx
      rw [p4 e _ (.inl (by omega)), p4 e _ (.inr (.inl (by omega)))]
      exact he
  refine ⟨⟨⟨v1, v2, k3, ?_, .inr ⟨k1, v4⟩, fun c hc => ?_, fun l hl => ?_⟩, hf⟩, key⟩
  · refine .inr ⟨md.toNat, s.toNat, by omega, by omega, by omega, fun x hx => ⟨⟨p5 _ (.inl (by omega)), p5 _ (.inr (by omega))⟩, ?_⟩⟩
    rw [show ((md.toNat : Nat) : Int) = md by omega]
    exact key x hx
  · rw [k4 768 (7 + c) (by omega) (by omega) (by omega) (by omega) (by omega) (by omega) (by omega)]
    exact (h.2.2.2.2.2.1 c hc).imp id fun ⟨a, b⟩ => ⟨a, b.fr fun k => k4 _ k (by omega) (by omega) (by omega) (by omega) (by omega) (by omega) (by omega)⟩
  · have e : ∀ o k : Nat, 787 ≤ o → o ≤ 789 → M' o k = M o k := fun o k a b => k4 o k (by omega) (by omega) (by omega) (by omega) (by omega) (by omega) (by omega)
    exact (h.2.2.2.2.2.2 l hl).fr (e _ _ (by decide) (by decide)) (e _ _ (by decide) (by decide)) (e _ _ (by decide) (by decide))
theorem ic_P.shr {M M' : ab_M} {t : pz_T} {l : Nat} (hl : l < pz_nl t) (hl4 : l < 4) (h : ic_P M t) (hp : pl_P M M' ((l : Nat) : Int)) : (ic_P M' t ∧ iq_F M M') ∧ kq_K M' t l := by
  obtain ⟨⟨k1, k2, k3⟩, k4, p1, p2, p3⟩ := hp
  rw [Int.toNat_natCast] at p1 p2 p3
  have hf : iq_F M M' := fun o k hz => k4 o k (by omega) (by omega) (by omega) (by omega) (by omega) (by omega)
  obtain ⟨v1, v2, v3, v4⟩ := h.vals hf k2
  have hK := fun i x (hx : x < 256) => kk_class v1.2.1 v1.2.2.1 v3 hl i x hx
  have key : kq_K M' t l := by
    rcases h.2.2.2.2.2.2 l hl4 with z | ⟨z, zk⟩
    · obtain ⟨i, i1, ⟨f, f1, f2⟩, i3, i4⟩ := p3 z
      refine ⟨i, i1, ⟨f, fun x hx => (f1 x hx).trans (hK i x hx), f2⟩, fun j hj => ?_, fun x hx w => (hK (i + 1) x hx).1 (i4 x hx ((hK i x hx).2 w))⟩
      obtain ⟨x, x1, x2, x3⟩ := i3 j hj
      exact ⟨x, x1, (hK j x x1).1 x2, fun w => x3 ((hK (j + 1) x x1).2 w)⟩
    · have y := zk hl
      unfold kq_K at y ⊢
      rw [(p2 z).1, (p2 z).2]
      exact y
  refine ⟨⟨⟨v1, v2, k3, ?_, .inr ⟨k1, v4⟩, fun c hc => ?_, fun l' hl' => ?_⟩, hf⟩, key⟩
  · exact h.2.2.2.1.fr (k4 775 9 (by omega) (by omega) (by omega) (by omega) (by omega) (by omega)) (fun k => k4 776 k (by omega) (by omega) (by omega) (by omega) (by omega) (by omega))
  · rw [k4 768 (7 + c) (by omega) (by omega) (by omega) (by omega) (by omega) (by omega)]
    exact (h.2.2.2.2.2.1 c hc).imp id fun ⟨a, b⟩ => ⟨a, b.fr fun k => k4 _ k (by omega) (by omega) (by omega) (by omega) (by omega) (by omega)⟩
  · by_cases e : l' = l
    · rw [e]; exact .inr ⟨p1, fun _ => key⟩
    · have e : ∀ o : Nat, 787 ≤ o → o ≤ 789 → M' o l' = M o l' := fun o a b => k4 o l' (by omega) (by omega) (by omega) (by omega) (by omega) (by omega)
      exact (h.2.2.2.2.2.2 l' hl').fr (e _ (by decide) (by decide)) (e _ (by decide) (by decide)) (e _ (by decide) (by decide))
theorem ic_P.pass {M M' : ab_M} {t : pz_T} (h : ic_P M t) (hp : ps_F M M' 0 (-1)) : ic_P M' t ∧ iq_F M M' := by
  have f : ∀ o k : Nat, ¬ (790 ≤ o ∧ o ≤ 794) → M' o k = M o k := fun o k z => hp o k (by omega) (by omega) (by omega)
  exact ⟨⟨(h.1.fr fun o k _ => f o k (by omega)).1, h.2.1.fr fun o k _ => f o k (by omega), h.2.2.fr fun o k _ => f o k (by omega)⟩, fun o k z => f o k (by omega)⟩
theorem ic_P.loop {M M' : ab_M} {t : pz_T} {l q r : Int} (h : ic_P M t) (hp : ly_P M M' l q r) : (ic_P M' t ∧ iq_F M M') ∧ (¬ ((0 ≤ l ∧ l < ((pz_nl t : Nat) : Int)) ∧ 0 ≤ q ∧ q ≤ 2) → r = -1) ∧ ((0 ≤ l ∧ l < ((pz_nl t : Nat) : Int)) ∧ 0 ≤ q ∧ q ≤ 2 → (q = 0 → r = ((lp_c t l.toNat : Nat) : Int)) ∧ (q = 1 → r = pz_mk (pz_md (lp_a t l.toNat))) ∧ (q = 2 → r = ((gx_m (lo_f (lp_P t l.toNat).2.2.2) 256 : Nat) : Int))) := by
  obtain ⟨p1, p2⟩ := hp
  obtain ⟨⟨hw, hsz, hnt, hkn, hnl⟩, e3, e6, e8, e11, -⟩ := h.1.2.1.sz
  rw [e8] at p1 p2
  by_cases hv : (0 ≤ l ∧ l < ((pz_nl t : Nat) : Int)) ∧ 0 ≤ q ∧ q ≤ 2
  · obtain ⟨x0, x1, x2⟩ := p2 hv
    have hl : l.toNat < pz_nl t := by omega
    obtain ⟨a1, a2, a3⟩ := h.1.2.1.loop hl
    rw [show ((l.toNat : Nat) : Int) = l by omega] at a1
    obtain ⟨⟨w1, w2, wa⟩, -⟩ := lp_wf t hw l.toNat hl
    obtain ⟨par', side', nx', pv', b1, l1, l2, en', A', C0, hS, -, -, -, -, h6, -⟩ := lp_row t hw l.toNat hl _ _ _ _ _ _ _ _ _ _ h.1.2.1.2.1.1 h.1.2.1.K
    obtain ⟨⟨s0, s1, s2, s3, s4, s5⟩, -⟩ := hS
    have hn2 : pz_nt2 (lp_P t l.toNat).1 = 1 := by rw [w2]; rfl
    rw [if_pos hn2] at s3
    rw [if_pos (.inr (.inr w2))] at s4
    simp only [Nat.zero_add] at s3 s4 h6
    rw [a1] at x0 x1 x2
    have hq : q = 0 ∨ q = 1 ∨ q = 2 := by omega
    rcases hq with z | z | z
    · obtain ⟨y1, y2⟩ := x0 z
      rw [y1]
      exact ⟨⟨h, fun _ _ _ => rfl⟩, fun z => absurd hv z, fun _ => ⟨fun _ => by rw [y2, s4], fun y => by omega, fun y => by omega⟩⟩
    · obtain ⟨y1, y2⟩ := x1 z
      rw [y1]
      exact ⟨⟨h, fun _ _ _ => rfl⟩, fun z => absurd hv z, fun _ => ⟨fun y => by omega, fun _ => by rw [y2, h6], fun y => by omega⟩⟩
    · obtain ⟨⟨y1, y2, y3, y4⟩, y5⟩ := x2 z
      have hf : iq_F M M' := fun o k hz => y4 o k (by omega)
      obtain ⟨v1, v2, v3, v4⟩ := h.vals hf y2
      refine ⟨⟨⟨v1, v2, y3, h.2.2.2.1.fr (y4 775 9 (by omega)) (fun k => y4 776 k (by omega)), .inr ⟨y1, v4⟩, fun c hc => ?_, fun l' hl' => (h.2.2.2.2.2.2 l' hl').fr (y4 _ _ (by omega)) (y4 _ _ (by omega)) (y4 _ _ (by omega))⟩, hf⟩, fun z => absurd hv z, fun _ => ⟨fun y => by omega, fun y => by omega, fun _ => ?_⟩⟩
      · rw [y4 768 (7 + c) (by omega)]
        exact (h.2.2.2.2.2.1 c hc).imp id fun ⟨a, b⟩ => ⟨a, b.fr fun k => y4 _ k (by omega)⟩
      · rw [y5, s3]
        have hV := (lp_V t hw l.toNat hl 0 v3).2.1
        rw [Nat.zero_add] at hV
        have key : ∀ n : Nat, n ≤ 256 → tv_n M' (((lp_k t l.toNat : Nat) : Int) + 1) n = ((gx_m (lo_f (lp_P t l.toNat).2.2.2) n : Nat) : Int) := by
          intro n
          induction n with
          | zero => intro _; rfl
          | succ n ih =>
            intro hn
            show tv_n M' _ n + (if tv M' _ _ = 0 then 0 else 1) = ((gx_m _ n + (if lo_f _ n = true then 1 else 0) : Nat) : Int)
            rw [ih (by omega), hV n (by omega)]
            unfold lo_f
            by_cases y : mp_v n (lp_P t l.toNat).2.2.2 = 0
            · rw [if_pos y, if_neg (by rw [decide_eq_true_iff]; exact fun w => w y)]; rfl
            · rw [if_neg y, if_pos (by rw [decide_eq_true_iff]; exact y)]; rfl
        exact key 256 (Nat.le_refl _)
  · obtain ⟨y1, y2⟩ := p1 hv
    rw [y1]
    exact ⟨⟨h, fun _ _ _ => rfl⟩, fun _ => y2, fun z => absurd z hv⟩
