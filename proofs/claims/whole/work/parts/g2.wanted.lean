/-! what the reference's methods want of a program that was read -/
theorem nS_app (E F : List pz_Ev) : pz_nS (E ++ F) = pz_nS E + pz_nS F := by
  unfold pz_nS; rw [List.filter_append, List.length_append]
theorem nS_cons (v : pz_Ev) (F : List pz_Ev) : pz_nS (v :: F) = (if v.1 ≤ 8 then 1 else 0) + pz_nS F := by
  unfold pz_nS
  by_cases h : v.1 ≤ 8
  · rw [List.filter_cons_of_pos (by exact decide_eq_true h), List.length_cons, if_pos h]; omega
  · rw [List.filter_cons_of_neg (by exact fun z => h (of_decide_eq_true z)), if_neg h]; omega
theorem nS_fl : ∀ (t : pz_T), pz_wf t → ∀ (q e c : Nat), pz_nS (pz_fl t q e c) = pz_sz t := by
  intro t
  induction t using pz_ind with
  | h0 => intro _ q e c; rfl
  | h2 s P v t => intro h; exact h.elim
  | h1 s P v t s' P' v' a b iht iha ihb =>
    intro hw q e c
    obtain ⟨w1, w2, w3, w4, w5, w6⟩ := hw
    rw [pz_fl_nd, nS_app, iht w1, nS_cons, show (pz_evP P (q + (pz_pr t).length) (c + pz_kn t)).1 = P.1 from rfl, if_pos w4.1.2, pz_sz_nd]
    congr 1
    congr 1
    have ho : ∀ w i, (if (pz_eo w i).1 ≤ 8 then 1 else 0) = 0 := fun _ _ => rfl
    have hc : ∀ w i, (if (pz_ec w i).1 ≤ 8 then 1 else 0) = 0 := fun _ _ => rfl
    by_cases h6 : 6 ≤ P.1
    · rw [if_pos h6, nS_cons, ho, nS_app, iha w2, nS_cons, hc]
      by_cases h7 : P.1 = 7
      · rw [if_pos h7, w6 h7]
        show 0 + (pz_sz a + (0 + 0)) = pz_sz a + 0
        omega
      · rw [if_neg h7, nS_cons, ho, nS_app, ihb w3, nS_cons, hc]
        show 0 + (pz_sz a + (0 + (0 + (pz_sz b + (0 + 0))))) = _
        omega
    · rw [if_neg h6]
      obtain ⟨y1, y2⟩ := w5 (by omega)
      rw [y1, y2]; rfl
/-- the reference has read this program -/
def rk_P (N : ab_M) (ls : List Int) (t : pz_T) : Prop := gd ls t ∧ pz_RK N ∧ pz_now N = ls
theorem gd.ht {ls : List Int} {t : pz_T} (h : gd ls t) : pz_ht t ≤ 24 := by
  have := (gm_nn t h.1.1).2
  have := h.2.2.2.2
  omega
theorem rk_P.E {N : ab_M} {ls : List Int} {t : pz_T} (h : rk_P N ls t) : pz_E N = pz_fl t 0 0 0 := by
  obtain ⟨hg, hK, hn⟩ := h
  have := hK.2.2.2.2
  rw [hn, hg.2.1] at this
  exact (Sum.inr.inj this).symm
theorem rk_P.at' {N : ab_M} {ls : List Int} {t : pz_T} (h : rk_P N ls t) : ev_at N 0 (pz_fl t 0 0 0) ∧ N 797 10 = ((pz_ne t : Nat) : Int) ∧ ev_A N :=
  ev_A_of h.1.1.1 h.E ⟨h.2.1.2.2.2.1.1.1, h.2.1.2.2.2.1.1.2.1⟩ (tb_mono (by decide) t h.1.2.2.2.1) (by have := h.1.ht; omega) h.1.sz.1
theorem rk_P.l {N : ab_M} {ls : List Int} {t : pz_T} (h : rk_P N ls t) (k : Nat) (hk : k < ls.length) : N 803 k = pz_at ls k := by
  have e : pz_L N = ls := h.2.1.2.2.1.trans h.2.2
  have hl : (N 797 9).toNat = ls.length := by rw [← e, pz_ls_len]
  have := pz_ls_get (N 803) (N 797 9) k
  rw [if_pos (by omega)] at this
  unfold pz_at
  rw [List.getD_eq_getElem?_getD, ← e, this]; rfl
theorem ws_vl {N : ab_M} {ls : List Int} {b n : Int} (hl : ∀ k : Nat, k < ls.length → N 803 k = pz_at ls k) (h : ws_ok ls b n) (hn : n ≠ 0) : vl_P N 803 b (ws ls b n) ∧ n = (((ws ls b n).length : Nat) : Int) := by
  obtain ⟨⟨h1, h2, h3⟩, h4⟩ := h
  have hlen : (ws ls b n).length = n.toNat := by
    unfold ws; rw [List.length_take, List.length_drop]; omega
  refine ⟨⟨h1, h4.resolve_left hn, fun j hj => ?_⟩, by omega⟩
  rw [hl _ (by omega)]
  unfold pz_at ws
  rw [List.getD_eq_getElem?_getD, List.getD_eq_getElem?_getD, List.getElem?_take_of_lt (by omega), List.getElem?_drop]
theorem rk_P.ev {N : ab_M} {ls : List Int} {t : pz_T} (h : rk_P N ls t) {i : Nat} (hi : (i : Int) < N 797 10) : (pz_fl t 0 0 0)[i]? = some (pz_ev N i) := by
  obtain ⟨h1, h2, -⟩ := h.at'
  have hlt : i < (pz_fl t 0 0 0).length := by rw [pz_fl_len]; omega
  have := h1 i _ (List.getElem?_eq_getElem hlt)
  rw [Nat.zero_add] at this
  rw [this, List.getElem?_eq_getElem hlt]
theorem rk_P.W {N : ab_M} {ls : List Int} {t : pz_T} (h : rk_P N ls t) {i : Nat} (hi : (i : Int) < N 797 10) (h8 : N 805 i ≤ 8) : (N 808 i ≠ 0 → ke_w N (N 807 i) (N 808 i) (wd1 ls t i)) ∧ (N 810 i ≠ 0 → ke_w N (N 809 i) (N 810 i) (wd2 ls t i)) ∧ (0 ≤ N 808 i ∧ N 808 i ≤ 120) ∧ (0 ≤ N 810 i ∧ N 810 i ≤ 120) ∧ (ws_ok ls (N 807 i) (N 808 i) ∧ ws_ok ls (N 809 i) (N 810 i)) := by
  have he := h.ev hi
  obtain ⟨h1, h2, h3⟩ := h.at'
  have hA := ev_at.tA (top := 120) t h.1.1.1 h.1.2.2.2.1 0 0 0 h1 i (by omega)
  rw [Nat.zero_add] at hA
  obtain ⟨-, -, -, -, a5, -⟩ := hA
  obtain ⟨a6, a7⟩ := a5 h8
  obtain ⟨-, hv⟩ := wd_w (ls := ls) h.1.1.1 h.1.1.2.2
  have hv := hv _ (List.mem_of_getElem? he)
  have e8 := pz_ev_8 h8
  have hg : (pz_fl t 0 0 0).getD i pz_d0 = pz_ev N i := by rw [List.getD_eq_getElem?_getD, he]; rfl
  rw [e8] at hv
  obtain ⟨v1, v2⟩ := hv h8
  have hl := h.1.len
  refine ⟨fun z => ?_, fun z => ?_, a6, a7, v1, v2⟩
  · have := ws_vl h.l v1 z
    unfold wd1
    rw [hg, e8]
    obtain ⟨x1, x2⟩ := this
    refine ⟨x1, ?_, x2, ?_⟩
    · show (ws ls (N 807 i) (N 808 i)).length ≤ 130
      have x2' : N 808 i = (((ws ls (N 807 i) (N 808 i)).length : Nat) : Int) := x2
      omega
    · have := v1.1.2.2
      have w : N 807 i + N 808 i ≤ (ls.length : Int) := this
      omega
  · have := ws_vl h.l v2 z
    unfold wd2
    rw [hg, e8]
    obtain ⟨x1, x2⟩ := this
    refine ⟨x1, ?_, x2, ?_⟩
    · show (ws ls (N 809 i) (N 810 i)).length ≤ 130
      have x2' : N 810 i = (((ws ls (N 809 i) (N 810 i)).length : Nat) : Int) := x2
      omega
    · have := v2.1.2.2
      have w : N 809 i + N 810 i ≤ (ls.length : Int) := this
      omega
theorem rk_P.eW {N : ab_M} {ls : List Int} {t : pz_T} (h : rk_P N ls t) {i : Nat} (hi : (i : Int) < N 797 10) (h8 : N 805 i ≤ 8) : em_W N i (wd1 ls t) (wd2 ls t) := by
  obtain ⟨h1, h2, h3, h4, -⟩ := h.W hi h8
  refine ⟨⟨?_, ?_⟩, ⟨by omega, by omega⟩, ⟨by omega, by omega⟩⟩
  · by_cases z : N 808 i = 0
    · exact .inl (by omega)
    · exact .inr (h1 z)
  · by_cases z : N 810 i = 0
    · exact .inl (by omega)
    · exact .inr (h2 z)
theorem rk_P.ea {N : ab_M} {ls : List Int} {t : pz_T} (h : rk_P N ls t) {i : Nat} (hi : (i : Int) < N 797 10) (h7 : N 805 i = 7) : em_a N (i : Int) := by
  obtain ⟨h1, h2, h3⟩ := h.at'
  obtain ⟨⟨b1, b2⟩, hA, -, -⟩ := h3
  obtain ⟨-, -, -, -, -, a6⟩ := hA i hi
  obtain ⟨ce, c1, c2, c3, c4⟩ := a6 h7
  refine ⟨by omega, ce, by omega, by omega, c3, c4, fun j hj => ?_⟩
  obtain ⟨a1, -, -, a4, -, -⟩ := hA j (by omega)
  exact ⟨⟨by omega, by omega⟩, fun z => by have := a4 (by omega); exact ⟨by omega, by omega⟩⟩
theorem rk_P.V {N : ab_M} {ls : List Int} {t : pz_T} (h : rk_P N ls t) {i : Nat} (hi : (i : Int) < N 797 10) (md : Int) : em_V N i md (wd1 ls t) (wd2 ls t) := by
  obtain ⟨h1, h2, h3⟩ := h.at'
  obtain ⟨⟨b1, b2⟩, hA, -, -⟩ := h3
  obtain ⟨a1, a2, -, a4, -, -⟩ := hA i hi
  refine ⟨a1, fun z => h.eW hi z, fun z _ => h.ea hi z, fun z => ⟨a2, ?_, fun y => ?_⟩⟩
  · have := a4 (by omega); omega
  · obtain ⟨k, k1, k2, k3, k4, k5⟩ := ev_at.cl t h.1.1.1 0 0 0 h1 i (by omega) (by rw [Nat.zero_add]; exact z)
    simp only [Nat.zero_add] at k2 k3 k4 k5
    rw [k2, Int.toNat_natCast]
    exact h.eW (by omega) (by omega)
theorem rk_P.la {N : ab_M} {ls : List Int} {t : pz_T} (h : rk_P N ls t) (hG : em_G N) (md : Int) : la_A N md (wd1 ls t) (wd2 ls t) := by
  obtain ⟨h1, h2, h3⟩ := h.at'
  refine ⟨h3, ?_, hG, fun i hi => h.V hi md⟩
  have := la_gm t h.1.1.1 0 0 0 h1
  rw [Nat.zero_add] at this
  have h0 : la_c N 0 = 0 := rfl
  have hg := h.1.2.2.2.2
  rw [h2, Int.toNat_natCast]
  omega
theorem rk_P.cq {N : ab_M} {ls : List Int} {t : pz_T} (h : rk_P N ls t) : cq_A N := by
  obtain ⟨h1, h2, h3⟩ := h.at'
  refine ⟨h3, ?_, fun i hi z y => ?_⟩
  · have := (h1.dm t h.1.1.1 0 0 0).2.1
    rw [Nat.zero_add] at this
    rw [h2, Int.toNat_natCast, this]; rfl
  · have hv := (h.V hi 0).2.2.2 z
    exact (hv.2.2 y).2.2
theorem rk_P.lp {N : ab_M} {ls : List Int} {t : pz_T} (h : rk_P N ls t) {l : Nat} (hl : (l : Int) < N 797 21) : l < pz_nl t ∧ N 814 l = ((lp_e t l : Nat) : Int) ∧ ((lp_e t l : Nat) : Int) < N 797 10 ∧ ∃ q' : Nat, pz_ev N (lp_e t l) = pz_evP (lp_P t l) q' (lp_c t l) ∧ q' + 1 + (lp_P t l).2.2.1.length = lp_o t l := by
  have hRI := h.2.1.2.2.2.1
  obtain ⟨d1, d2, d3⟩ := hRI.2.2.2.1
  have hlen : (pz_lps (pz_E N)).length = pz_nl t := by rw [h.E, pz_lps_c7, pz_c7_fl t h.1.1.1]
  have hl' : l < pz_nl t := by omega
  obtain ⟨q', ⟨e1, e2⟩, e3⟩ := lp_ev t h.1.1.1 l hl' 0 0 0
  have h8 := d3 l (lp_e t l) (by rw [h.E]; exact e1)
  have hlt := (List.getElem?_eq_some_iff.1 e2).1
  rw [pz_fl_len] at hlt
  obtain ⟨h1, h2, h3⟩ := h.at'
  have := h1 _ _ e2
  rw [Nat.zero_add, Nat.zero_add] at this
  exact ⟨hl', h8, by omega, q', this, by omega⟩
theorem rk_P.num {N : ab_M} {ls : List Int} {t : pz_T} (h : rk_P N ls t) : N 797 19 = ((pz_sz t : Nat) : Int) ∧ N 797 20 = ((pz_kn t : Nat) : Int) ∧ N 797 21 = ((pz_nl t : Nat) : Int) ∧ ∀ (k : Nat) (v : Int), (pz_kds (pz_fl t 0 0 0))[k]? = some v → N 813 k = v := by
  have hRI := h.2.1.2.2.2.1
  obtain ⟨-, d1, ⟨d2, d3, d4⟩, ⟨d5, d6, d7⟩, -⟩ := hRI
  rw [h.E] at d1 d2 d4 d5
  rw [nS_fl t h.1.1.1] at d1
  rw [pz_kds_fl t h.1.1.1] at d2
  rw [pz_lps_c7, pz_c7_fl t h.1.1.1] at d5
  exact ⟨d1, d2, d5, d4⟩
/-- a loop's event -/
theorem rk_P.lv {N : ab_M} {ls : List Int} {t : pz_T} (h : rk_P N ls t) {l : Nat} (hl : (l : Int) < N 797 21) : (N 805 (lp_e t l) = 7 ∧ N 811 (lp_e t l) = ((lp_c t l : Nat) : Int)) ∧ ke_w N (N 807 (lp_e t l)) (N 808 (lp_e t l)) (wd1 ls t (lp_e t l)) ∧ ke_w N (N 809 (lp_e t l)) (N 810 (lp_e t l)) (wd2 ls t (lp_e t l)) ∧ wd1 ls t (lp_e t l) = (lp_P t l).2.2.1 ∧ wd2 ls t (lp_e t l) = (lp_P t l).2.2.2 := by
  obtain ⟨l1, l2, l3, q', l4, l5⟩ := h.lp hl
  obtain ⟨⟨w1, w2, w3⟩, -⟩ := lp_wf t h.1.1.1 l l1
  have hp := pz_ev_s (by omega) l4
  obtain ⟨p1, -, p3, p4, p5, p6, p7⟩ := hp
  have hW := h.W l3 (by omega)
  have u1 := gm_w1 w1 (by omega)
  have u2 := gm_w2 w1 (by omega)
  have k1 := hW.1 (by omega)
  have k2 := hW.2.1 (by omega)
  refine ⟨⟨by omega, p7⟩, k1, k2, ?_, ?_⟩
  · obtain ⟨hev, -⟩ := wd_w (ls := ls) h.1.1.1 h.1.1.2.2
    have : ∀ (t : pz_T), pz_wf t → ∀ (l : Nat), l < pz_nl t → ∀ e W1 W2, ev_w W1 W2 t e → W1 (e + lp_e t l) = (lp_P t l).2.2.1 := by
      refine lp_ind (C := fun t l => ∀ e W1 W2, ev_w W1 W2 t e → W1 (e + lp_e t l) = (lp_P t l).2.2.1) ?_ ?_ ?_ ?_
      · intro s P v t s' P' v' a b l hw hl ih e W1 W2 hh
        rw [(lp_t (z := fun _ t => pz_sz t) (u := fun _ t => pz_sz t) (w := fun _ t a => pz_sz t) hl).1, show lp_e (.inner s P v t (.inner s' P' v' a b)) l = lp_e t l from (lp_t hl).2.2.2]
        exact ih e W1 W2 hh.1
      · intro s P v t s' P' v' a b hw h7 e W1 W2 hh
        rw [(lp_0 (z := fun _ t => pz_sz t) (u := fun _ t => pz_sz t) (w := fun _ t a => pz_sz t) h7).1, show lp_e (.inner s P v t (.inner s' P' v' a b)) (pz_nl t) = pz_ne t from (lp_0 h7).2.2.2]
        exact hh.2.1.1
      · intro s P v t s' P' v' a b l hw h6 hl ih e W1 W2 hh
        rw [(lp_in (z := fun _ t => pz_sz t) (u := fun _ t => pz_sz t) (w := fun _ t a => pz_sz t) hl).1, show lp_e (.inner s P v t (.inner s' P' v' a b)) (pz_nl t + (if P.1 = 7 then 1 else 0) + l) = pz_ne t + 2 + lp_e a l from (lp_in hl).2.2.2]
        rw [show e + (pz_ne t + 2 + lp_e a l) = e + pz_ne t + 2 + lp_e a l by omega]
        exact ih _ W1 W2 (hh.2.2 h6).1
      · intro s P v t s' P' v' a b l hw h6 h7 hl ih e W1 W2 hh
        rw [(lp_bl (z := fun _ t => pz_sz t) (u := fun _ t => pz_sz t) (w := fun _ t a => pz_sz t)).1, show lp_e (.inner s P v t (.inner s' P' v' a b)) (pz_nl t + (if P.1 = 7 then 1 else 0) + pz_nl a + l) = pz_ne t + 2 + pz_ne a + 2 + lp_e b l from lp_bl.2.2.2]
        rw [show e + (pz_ne t + 2 + pz_ne a + 2 + lp_e b l) = e + pz_ne t + 2 + pz_ne a + 2 + lp_e b l by omega]
        exact ih _ W1 W2 ((hh.2.2 h6).2 h7)
    have := this t h.1.1.1 l l1 0 _ _ hev
    rw [Nat.zero_add] at this
    exact this
  · obtain ⟨hev, -⟩ := wd_w (ls := ls) h.1.1.1 h.1.1.2.2
    have : ∀ (t : pz_T), pz_wf t → ∀ (l : Nat), l < pz_nl t → ∀ e W1 W2, ev_w W1 W2 t e → W2 (e + lp_e t l) = (lp_P t l).2.2.2 := by
      refine lp_ind (C := fun t l => ∀ e W1 W2, ev_w W1 W2 t e → W2 (e + lp_e t l) = (lp_P t l).2.2.2) ?_ ?_ ?_ ?_
      · intro s P v t s' P' v' a b l hw hl ih e W1 W2 hh
        rw [(lp_t (z := fun _ t => pz_sz t) (u := fun _ t => pz_sz t) (w := fun _ t a => pz_sz t) hl).1, show lp_e (.inner s P v t (.inner s' P' v' a b)) l = lp_e t l from (lp_t hl).2.2.2]
        exact ih e W1 W2 hh.1
      · intro s P v t s' P' v' a b hw h7 e W1 W2 hh
        rw [(lp_0 (z := fun _ t => pz_sz t) (u := fun _ t => pz_sz t) (w := fun _ t a => pz_sz t) h7).1, show lp_e (.inner s P v t (.inner s' P' v' a b)) (pz_nl t) = pz_ne t from (lp_0 h7).2.2.2]
        exact hh.2.1.2
      · intro s P v t s' P' v' a b l hw h6 hl ih e W1 W2 hh
        rw [(lp_in (z := fun _ t => pz_sz t) (u := fun _ t => pz_sz t) (w := fun _ t a => pz_sz t) hl).1, show lp_e (.inner s P v t (.inner s' P' v' a b)) (pz_nl t + (if P.1 = 7 then 1 else 0) + l) = pz_ne t + 2 + lp_e a l from (lp_in hl).2.2.2]
        rw [show e + (pz_ne t + 2 + lp_e a l) = e + pz_ne t + 2 + lp_e a l by omega]
        exact ih _ W1 W2 (hh.2.2 h6).1
      · intro s P v t s' P' v' a b l hw h6 h7 hl ih e W1 W2 hh
        rw [(lp_bl (z := fun _ t => pz_sz t) (u := fun _ t => pz_sz t) (w := fun _ t a => pz_sz t)).1, show lp_e (.inner s P v t (.inner s' P' v' a b)) (pz_nl t + (if P.1 = 7 then 1 else 0) + pz_nl a + l) = pz_ne t + 2 + pz_ne a + 2 + lp_e b l from lp_bl.2.2.2]
        rw [show e + (pz_ne t + 2 + pz_ne a + 2 + lp_e b l) = e + pz_ne t + 2 + pz_ne a + 2 + lp_e b l by omega]
        exact ih _ W1 W2 ((hh.2.2 h6).2 h7)
    have := this t h.1.1.1 l l1 0 _ _ hev
    rw [Nat.zero_add] at this
    exact this
theorem rk_P.lo {N : ab_M} {ls : List Int} {t : pz_T} (h : rk_P N ls t) : lo_A N (wd2 ls t) := by
  have hn := h.num.2.2.1
  have h4 := h.1.2.2.1.2
  refine ⟨by omega, fun l hl => ?_⟩
  obtain ⟨l1, l2, l3, -⟩ := h.lp hl
  obtain ⟨⟨v1, v2⟩, -, ⟨k1, k2, k3, k4⟩, -⟩ := h.lv hl
  have h10 := h.2.1.2.2.2.1.1.2.1
  rw [l2, Int.toNat_natCast]
  exact ⟨by omega, h.ea l3 v1, k1, k2, k3, k4⟩
