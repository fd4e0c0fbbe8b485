/-! both sides, one call: those that change the program -/
theorem gm_len2 : ∀ (t : pz_T), pz_wf t → ∀ (l : Nat), l < pz_nl t → pz_tb 120 t → ((pz_pr t).length : Int) - ((lp_P t l).2.2.2.length : Int) + 119 ≤ gm_t t + 119 * (pz_nl t : Int) := by
  have rest : ∀ (s : Nat) (P : pz_P) (v : Unit) (t : pz_T) (s' : Nat) (P' : pz_P) (v' : Unit) (a b : pz_T), pz_wf (.inner s P v t (.inner s' P' v' a b)) → pz_tb 120 (.inner s P v t (.inner s' P' v' a b)) → ((pz_pr (.inner s P v t (.inner s' P' v' a b))).length : Int) - ((pz_pr t).length : Int) ≤ gm_t (.inner s P v t (.inner s' P' v' a b)) - gm_t t + 119 * ((pz_nl (.inner s P v t (.inner s' P' v' a b)) : Int) - (pz_nl t : Int)) := by
    intro s P v t s' P' v' a b hw hb
    obtain ⟨w1, w2, w3, w4, w5, w6⟩ := hw
    obtain ⟨b1, b2, b3, b4, b5⟩ := hb
    have := gm_len (.inner s P v .leaf (.inner s' P' v' a b)) ⟨trivial, w2, w3, w4, w5, w6⟩ ⟨trivial, b2, b3, b4, b5⟩
    rw [pz_pr_nd, gm_nd, pz_nl_nd] at this ⊢
    rw [List.length_append] at this ⊢
    have e1 : (pz_pr (.leaf : pz_T)).length = 0 := rfl
    have e2 : gm_t (.leaf : pz_T) = 0 := rfl
    have e3 : pz_nl (.leaf : pz_T) = 0 := rfl
    rw [e1, e2, e3] at this
    push_cast at this ⊢
    omega
  refine lp_ind (C := fun t l => pz_tb 120 t → ((pz_pr t).length : Int) - ((lp_P t l).2.2.2.length : Int) + 119 ≤ gm_t t + 119 * (pz_nl t : Int)) ?_ ?_ ?_ ?_
  · intro s P v t s' P' v' a b l hw hl ih hb
    have r := rest s P v t s' P' v' a b hw hb
    rw [(lp_t (z := fun _ t => pz_sz t) (u := fun _ t => pz_sz t) (w := fun _ t a => pz_sz t) hl).1]
    have := ih hb.1
    omega
  · intro s P v t s' P' v' a b hw h7 hb
    rw [(lp_0 (z := fun _ t => pz_sz t) (u := fun _ t => pz_sz t) (w := fun _ t a => pz_sz t) h7).1]
    obtain ⟨w1, w2, w3, w4, w5, w6⟩ := hw
    obtain ⟨b1, b2, b3, b4, b5⟩ := hb
    have it := gm_len t w1 b1
    have ia := gm_len a w2 b2
    have hh := gm_hd w4
    rw [pz_pr_nd, gm_nd, pz_nl_nd, List.length_append, List.length_append, if_pos (by omega), if_pos h7, if_pos (by omega), if_pos h7, if_pos h7, if_pos h7, w6 h7]
    rw [if_pos h7] at hh
    have z0 : pz_nl (.leaf : pz_T) = 0 := rfl
    rw [z0]
    simp only [List.length_cons, List.length_append, List.length_nil]
    push_cast
    omega
  · intro s P v t s' P' v' a b l hw h6 hl ih hb
    rw [(lp_in (z := fun _ t => pz_sz t) (u := fun _ t => pz_sz t) (w := fun _ t a => pz_sz t) hl).1]
    obtain ⟨w1, w2, w3, w4, w5, w6⟩ := hw
    obtain ⟨b1, b2, b3, b4, b5⟩ := hb
    have it := gm_len t w1 b1
    have ia := ih b2
    have ib := gm_len b w3 b3
    have hh := gm_hd w4
    rw [pz_pr_nd, gm_nd, pz_nl_nd, List.length_append, List.length_append, if_pos h6, if_pos h6]
    by_cases h7 : P.1 = 7
    · rw [if_pos h7, if_pos h7, if_pos h7, if_pos h7, w6 h7]
      rw [if_pos h7] at hh
      have z0 : pz_nl (.leaf : pz_T) = 0 := rfl
      rw [z0]
      simp only [List.length_cons, List.length_append, List.length_nil]
      push_cast
      omega
    · rw [if_neg h7, if_neg h7, if_neg h7, if_neg h7]
      rw [if_neg h7] at hh
      simp only [List.length_cons, List.length_append, List.length_nil]
      push_cast
      omega
  · intro s P v t s' P' v' a b l hw h6 h7 hl ih hb
    rw [(lp_bl (z := fun _ t => pz_sz t) (u := fun _ t => pz_sz t) (w := fun _ t a => pz_sz t)).1]
    obtain ⟨w1, w2, w3, w4, w5, w6⟩ := hw
    obtain ⟨b1, b2, b3, b4, b5⟩ := hb
    have it := gm_len t w1 b1
    have ia := gm_len a w2 b2
    have ib := ih b3
    have hh := gm_hd w4
    rw [pz_pr_nd, gm_nd, pz_nl_nd, List.length_append, List.length_append, if_pos h6, if_pos h6, if_neg h7, if_neg h7, if_neg h7, if_neg h7]
    rw [if_neg h7] at hh
    simp only [List.length_cons, List.length_append, List.length_nil]
    push_cast
    omega
/-- an image, by its letters -/
theorem im_of {M : ab_M} {o j : Nat} {f : Nat → Int} (h : ∀ k : Nat, k ≤ 640 → M o (641 * j + k) = f k) (h6 : 0 ≤ f 640 ∧ f 640 ≤ 640) : im_t M o j = pz_ls f (f 640) ∧ ((∀ k : Nat, (k : Int) < f 640 → 0 ≤ f k ∧ f k < 256) → (∃ t', gd (pz_ls f (f 640)) t') → im_ok M o j) := by
  have e : im_t M o j = pz_ls f (f 640) := by
    unfold im_t
    rw [h 640 (Nat.le_refl _)]
    exact pz_ls_congr fun k hk => h k (by omega)
  refine ⟨e, fun h1 h2 => ⟨by rw [h 640 (Nat.le_refl _)]; exact h6, fun k hk => ?_, by rw [e]; exact h2⟩⟩
  rw [h 640 (Nat.le_refl _)] at hk
  rw [h k (by omega)]
  exact h1 k hk
/-- the reference with another program, nothing known of it yet -/
theorem ir_new {M M' : ab_M} {ls ls' : List Int} {t t' : pz_T} {B : Int} (h : ir_P M ls t B) (hg : gd ls' t') (hu : ru_P M') (hn : pz_now M' = ls') (h6 : 0 ≤ M' 798 640 ∧ M' 798 640 ≤ 640) (hl : ∀ k : Nat, (k : Int) < M' 798 640 → 0 ≤ M' 798 k ∧ M' 798 k < 256) (hk : pz_nk M') (hf : ∀ o k : Nat, (818 ≤ o ∧ o ≤ 841) ∨ (o = 797 ∧ k = 44) → M' o k = M o k) : ir_P M' ls' t' B := by
  obtain ⟨k1, k2, k3, k4, k5, k6⟩ := hk
  obtain ⟨-, -, ⟨-, ⟨g1, g2, g3⟩, -, -⟩, -, ⟨⟨p1, p2, p3, p4⟩, -, -⟩, i6⟩ := h
  refine ⟨hu, ⟨hg, hn, ⟨h6.1, h6.2, hl, k6, by rw [hn]; exact hg.okr, .inl k1⟩, ⟨_, by rw [hn]; exact hg.2.1⟩, fun z => by omega⟩, ⟨by rw [k2]; exact ⟨by decide, by decide⟩, ⟨fun j => by rw [hf 823 j (by omega)]; exact g1 j, fun j => by rw [hf 824 j (by omega)]; exact g2 j, fun j => by rw [hf 821 j (by omega)]; exact g3 j⟩, fun z => by omega, fun z => by omega⟩, fun md hmd => .inl ?_, ⟨⟨fun i => by rw [hf 838 i (by omega)]; exact p1 i, fun i => by rw [hf 839 i (by omega)]; exact p2 i, fun j => by rw [hf 834 j (by omega), hf 836 j (by omega), hf 837 j (by omega), hf 840 j (by omega)]; exact p3 j, fun j => by rw [hf 841 j (by omega)]; exact p4 j⟩, .inl k5, fun z => by omega⟩, i6.fr fun o k _ => hf o k (by omega)⟩
  have : md = 0 ∨ md = 1 := by omega
  rcases this with z | z
  · rw [z]; exact k3
  · rw [z]; exact k4
/-- the class with another program -/
theorem ic_new {M M' : ab_M} {t t' : pz_T} (h : ic_P M t) (hck : ck_F M M') (htc : tc_ok M') (h1 : M' 1 1 = 0 ∨ M' 1 1 = M 1 1) (hp : ∀ w ∈ past M', ∃ t', gd w t') (hrp : rp_C M') (hpd : pd_P M' t') : ic_P M' t' := by
  obtain ⟨⟨⟨-, s1, s2⟩, -, h3, -, h5, h6, h7⟩, ⟨x1, y1, y2⟩, v1, -, -, -, -⟩ := h
  have f : ∀ o k : Nat, o = 2 ∨ (20 ≤ o ∧ o ≤ 25) ∨ o = 388 ∨ (o = 395 ∧ k = 0) ∨ o = 770 ∨ o = 774 ∨ o = 795 ∨ o = 796 ∨ (o = 0 ∧ k = 14) → M' o k = M o k := fun o k z => hck o k (by omega) (by omega) (by omega) (by omega) (by omega) (by omega) (by omega) (by omega)
  have h11 := x1.1
  rw [if_pos rfl] at h11
  refine ⟨⟨⟨htc, ⟨by rw [f 20 0 (by omega)]; exact s1.1, by rw [f 20 1 (by omega)]; exact s1.2⟩, by rw [f 395 0 (by omega)]; exact s2⟩, hpd, ?_, hp, fun z hz => ?_, (tx_sm (M := M) (M' := M') (o := 21) (f _ _ (by omega)) fun k => f _ k (by omega)).2 h6, (tx_sm (M := M) (M' := M') (o := 23) (f _ _ (by omega)) fun k => f _ k (by omega)).2 h7⟩, ⟨⟨by rw [if_pos rfl]; omega, fun j => ?_⟩, by rw [f 0 14 (by omega)]; exact y1, fun k => by rw [f 795 k (by omega), f 796 k (by omega)]; exact y2 k⟩, fun k => by rw [f 770 k (by omega)]; exact v1 k, .inl hrp.2.1, .inl hrp.1, fun c hc => .inl ?_, fun l hl => .inl (hrp.2.2.2.2 l hl)⟩
  · obtain ⟨a1, a2, a3⟩ := h3
    refine ⟨a1, a2, ?_⟩
    have e : M' 388 = M 388 := funext fun k => f 388 k (by omega)
    rw [e]; exact a3
  · obtain ⟨e1, e2⟩ := tx_sm (M := M) (M' := M') (o := 21 + 2 * z) (f _ _ (by omega)) fun k => f _ k (by omega)
    rw [f 25 z (by omega), e1]
    exact (h5 z hz).imp id fun ⟨a, b, c⟩ => ⟨a, e2 b, c⟩
  · show 0 ≤ M' 2 j ∧ M' 2 j < 256
    rw [f 2 j (by omega)]; exact x1.2 j
  · have : c = 0 ∨ c = 1 := by omega
    rcases this with z | z
    · rw [z]; exact hrp.2.2.1
    · rw [z]; exact hrp.2.2.2.1
/-- letters without spaces, alike on both sides -/
theorem lk_P.pl {M : ab_M} (h : lk_P M) (h0 : 0 ≤ M 1 1) : cr_L 1 M = pz_pl M ∧ pz_pos (M 802) (M 797 6).toNat = pz_pos (M 2) (M 1 1).toNat := by
  have e : pz_ls (M 802) (M 797 6) = pz_ls (M 2) (M 1 1) := by
    rw [← h.1.1]
    exact pz_ls_congr fun k hk => (h.1.2 k (by omega)).symm
  refine ⟨?_, ?_⟩
  · unfold cr_L pz_pl; rw [e]
  · rw [← h.1.1]
    exact pz_pos_f fun j hj => (h.1.2 j (by omega)).symm
theorem place_eq {M : ab_M} (hl : lk_P M) (h0 : 0 ≤ M 1 1) {e : Nat} (h1 : (e : Int) ≤ M 1 1) (h2 : (e : Int) < M 1 1 → M 2 e ≠ 32) {p : Int} (hp : p = ((cr_c 1 M e : Nat) : Int)) : (e : Int) = if p < (((pz_pl M).length : Nat) : Int) then (((pz_pos (M 802) (M 797 6).toNat).getD p.toNat 0 : Nat) : Int) else M 797 6 := by
  have hlen := pz_pl_pos M
  rw [(hl.pl h0).2] at hlen ⊢
  rw [hp, hlen]
  have hc : cr_c 1 M e = (pz_pos (M 2) e).length := rfl
  rw [hc]
  by_cases c : (e : Int) < M 1 1
  · have := pz_pos_at (M 2) (k := e) (n := (M 1 1).toNat) (by omega) (h2 c)
    have hlt := (List.getElem?_eq_some_iff.1 this).1
    rw [if_pos (by omega), Int.toNat_natCast, List.getD_eq_getElem?_getD, this]
    rfl
  · have : e = (M 1 1).toNat := by omega
    rw [this, if_neg (by omega), ← hl.1.1]
    omega
