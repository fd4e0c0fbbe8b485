/-! what a reading of the reference gives -/
def wd1 (ls : List Int) (t : pz_T) (e : Nat) : List Int := ws ls ((pz_fl t 0 0 0).getD e pz_d0).2.2.1 ((pz_fl t 0 0 0).getD e pz_d0).2.2.2.1
def wd2 (ls : List Int) (t : pz_T) (e : Nat) : List Int := ws ls ((pz_fl t 0 0 0).getD e pz_d0).2.2.2.2.1 ((pz_fl t 0 0 0).getD e pz_d0).2.2.2.2.2.1
theorem wd_w {ls : List Int} {t : pz_T} (hw : pz_wf t) (hp : ls = pz_pr t) : ev_w (wd1 ls t) (wd2 ls t) t 0 ∧ ∀ v ∈ pz_fl t 0 0 0, ws_v ls v := by
  obtain ⟨h1, h2⟩ := ws_t (ls := ls) t hw [] [] 0 0 0 (by rw [hp]; simp) rfl
  refine ⟨h2 _ _ fun i v hi _ => ?_, h1⟩
  have e : (pz_fl t 0 0 0).getD i pz_d0 = v := by rw [List.getD_eq_getElem?_getD, hi]; rfl
  rw [Nat.zero_add]
  exact ⟨by unfold wd1; rw [e], by unfold wd2; rw [e]⟩
theorem pz_ev_8 {M : ab_M} {e : Nat} (h : M 805 e ≤ 8) : pz_ev M e = (M 805 e, M 806 e, M 807 e, M 808 e, M 809 e, M 810 e, M 811 e, 0) := by
  unfold pz_ev; rw [if_pos h]
/-- an end of a block names the statement that it ends -/
theorem ev_at.cl {M : ab_M} : ∀ (t : pz_T), pz_wf t → ∀ (q e c : Nat), ev_at M e (pz_fl t q e c) → ∀ i : Nat, i < pz_ne t → M 805 (e + i) = 10 → ∃ k : Nat, k < i ∧ M 812 (e + i) = ((e + k : Nat) : Int) ∧ 6 ≤ M 805 (e + k) ∧ M 805 (e + k) ≤ 8 ∧ (M 806 (e + i) = 2 → M 805 (e + k) = 7) := by
  intro t
  induction t using pz_ind with
  | h0 => intro _ q e c _ i hi; exact absurd hi (Nat.not_lt_zero i)
  | h2 s P v t => intro h; exact h.elim
  | h1 s P v t s' P' v' a b iht iha ihb =>
    intro hw q e c h i hi hk
    obtain ⟨w1, w2, w3, w4, w5, w6⟩ := hw
    obtain ⟨h1, h2, h3⟩ := h.nd
    rw [pz_ne_nd] at hi
    have p1 := (pz_ev_s (by have := w4.1; omega) h2).1
    have w8 := w4.1
    by_cases c0 : i < pz_ne t
    · exact iht w1 q e c h1 i c0 hk
    · by_cases c1 : i = pz_ne t
      · subst c1; omega
      · have h6 : 6 ≤ P.1 := by
          refine Classical.byContradiction fun z => ?_
          rw [if_neg z] at hi; omega
        rw [if_pos h6] at hi
        obtain ⟨g1, ⟨qa, ca, g2⟩, g3, g4⟩ := h3 h6
        obtain ⟨o1, -, -⟩ := pz_ev_o g1
        obtain ⟨l1, l2, l3⟩ := pz_ev_c g3
        by_cases c2 : i = pz_ne t + 1
        · subst c2
          rw [show e + (pz_ne t + 1) = e + pz_ne t + 1 by omega] at hk; omega
        · by_cases c3 : i < pz_ne t + 2 + pz_ne a
          · have hh := iha w2 qa (e + pz_ne t + 2) ca g2 (i - (pz_ne t + 2)) (by omega)
            rw [show e + pz_ne t + 2 + (i - (pz_ne t + 2)) = e + i by omega] at hh
            obtain ⟨k, k1, k2, k3, k4, k5⟩ := hh hk
            rw [show e + pz_ne t + 2 + k = e + (pz_ne t + 2 + k) by omega] at k2 k3 k4 k5
            exact ⟨pz_ne t + 2 + k, by omega, k2, k3, k4, k5⟩
          · by_cases c4 : i = pz_ne t + 2 + pz_ne a
            · subst c4
              refine ⟨pz_ne t, by omega, ?_, by omega, by omega, fun z => ?_⟩
              · rw [show e + (pz_ne t + 2 + pz_ne a) = e + pz_ne t + 2 + pz_ne a by omega]; exact l3
              · rw [show e + (pz_ne t + 2 + pz_ne a) = e + pz_ne t + 2 + pz_ne a by omega, l2] at z
                rw [p1]; exact pz_w1_2.1 z
            · have h7 : P.1 ≠ 7 := fun z => by rw [if_pos z] at hi; omega
              rw [if_neg h7] at hi
              obtain ⟨g5, ⟨qb, cb, g6⟩, g7⟩ := g4 h7
              obtain ⟨o4, -, -⟩ := pz_ev_o g5
              obtain ⟨l4, l5, l6⟩ := pz_ev_c g7
              by_cases c5 : i = pz_ne t + 2 + pz_ne a + 1
              · subst c5
                rw [show e + (pz_ne t + 2 + pz_ne a + 1) = e + pz_ne t + 2 + pz_ne a + 1 by omega] at hk; omega
              · by_cases c6 : i < pz_ne t + 2 + pz_ne a + 2 + pz_ne b
                · have hh := ihb w3 qb (e + pz_ne t + 2 + pz_ne a + 2) cb g6 (i - (pz_ne t + 2 + pz_ne a + 2)) (by omega)
                  rw [show e + pz_ne t + 2 + pz_ne a + 2 + (i - (pz_ne t + 2 + pz_ne a + 2)) = e + i by omega] at hh
                  obtain ⟨k, k1, k2, k3, k4, k5⟩ := hh hk
                  rw [show e + pz_ne t + 2 + pz_ne a + 2 + k = e + (pz_ne t + 2 + pz_ne a + 2 + k) by omega] at k2 k3 k4 k5
                  exact ⟨pz_ne t + 2 + pz_ne a + 2 + k, by omega, k2, k3, k4, k5⟩
                · have c7 : i = pz_ne t + 2 + pz_ne a + 2 + pz_ne b := by omega
                  subst c7
                  refine ⟨pz_ne t, by omega, ?_, by omega, by omega, fun z => ?_⟩
                  · rw [show e + (pz_ne t + 2 + pz_ne a + 2 + pz_ne b) = e + pz_ne t + 2 + pz_ne a + 2 + pz_ne b by omega]; exact l6
                  · rw [show e + (pz_ne t + 2 + pz_ne a + 2 + pz_ne b) = e + pz_ne t + 2 + pz_ne a + 2 + pz_ne b by omega, l5] at z
                    exact absurd z pz_w2_2
/-- a loop of a list of events: its number, its place, itself -/
def le_P (E : List pz_Ev) (l e : Nat) (v : pz_Ev) : Prop := (pz_lps E)[l]? = some e ∧ E[e]? = some v
theorem lps_app (A B : List pz_Ev) : pz_lps (A ++ B) = pz_lps A ++ (pz_lps B).map (fun i => A.length + i) := by
  unfold pz_lps
  rw [List.length_append, List.range_add, List.filter_append, List.filter_map]
  congr 1
  · apply List.filter_congr
    intro i hi
    have hi := List.mem_range.mp hi
    rw [List.getD_eq_getElem?_getD, List.getElem?_append_left hi, ← List.getD_eq_getElem?_getD]
  · congr 1
    apply List.filter_congr
    intro i _
    show decide (((A ++ B).getD (A.length + i) _).1 = 7) = _
    rw [List.getD_eq_getElem?_getD, List.getElem?_append_right (by omega), show A.length + i - A.length = i by omega, ← List.getD_eq_getElem?_getD]
theorem le_P.left {A : List pz_Ev} {l e : Nat} {v : pz_Ev} (h : le_P A l e v) (B : List pz_Ev) : le_P (A ++ B) l e v := by
  refine ⟨?_, ?_⟩
  · rw [lps_app, List.getElem?_append_left (List.getElem?_eq_some_iff.1 h.1).1]; exact h.1
  · rw [List.getElem?_append_left (List.getElem?_eq_some_iff.1 h.2).1]; exact h.2
theorem le_P.skip {B : List pz_Ev} {l e : Nat} {v : pz_Ev} (h : le_P B l e v) (A : List pz_Ev) : le_P (A ++ B) (pz_c7 A + l) (A.length + e) v := by
  refine ⟨?_, ?_⟩
  · rw [lps_app, List.getElem?_append_right (by rw [pz_lps_c7]; omega), pz_lps_c7, show pz_c7 A + l - pz_c7 A = l by omega, List.getElem?_map, h.1]; rfl
  · rw [List.getElem?_append_right (by omega), show A.length + e - A.length = e by omega]; exact h.2
theorem lp_ev : ∀ (t : pz_T), pz_wf t → ∀ (l : Nat), l < pz_nl t → ∀ (q e c : Nat), ∃ q' : Nat, le_P (pz_fl t q e c) l (lp_e t l) (pz_evP (lp_P t l) q' (c + lp_c t l)) ∧ q' + 1 + (lp_P t l).2.2.1.length = q + lp_o t l := by
  refine lp_ind (C := fun t l => ∀ (q e c : Nat), ∃ q' : Nat, le_P (pz_fl t q e c) l (lp_e t l) (pz_evP (lp_P t l) q' (c + lp_c t l)) ∧ q' + 1 + (lp_P t l).2.2.1.length = q + lp_o t l) ?_ ?_ ?_ ?_
  · intro s P v t s' P' v' a b l hw hl ih q e c
    obtain ⟨q', i1, i2⟩ := ih q e c
    obtain ⟨j1, -, j2, -⟩ := lp_t (z := fun _ t => pz_sz t) (u := fun _ t => pz_sz t) (w := fun _ t a => pz_sz t) (s := s) (P := P) (v := v) (s' := s') (P' := P') (v' := v') (a := a) (b := b) hl
    have j3 : lp_e (.inner s P v t (.inner s' P' v' a b)) l = lp_e t l := (lp_t hl).2.2.2
    have j4 : lp_c (.inner s P v t (.inner s' P' v' a b)) l = lp_c t l := (lp_t hl).2.2.2
    rw [j1, j2, j3, j4, pz_fl_nd]
    exact ⟨q', i1.left _, i2⟩
  · intro s P v t s' P' v' a b hw h7 q e c
    obtain ⟨j1, -, j2, -⟩ := lp_0 (z := fun _ t => pz_sz t) (u := fun _ t => pz_sz t) (w := fun _ t a => pz_sz t) (s := s) (P := P) (v := v) (t := t) (s' := s') (P' := P') (v' := v') (a := a) (b := b) h7
    have j3 : lp_e (.inner s P v t (.inner s' P' v' a b)) (pz_nl t) = pz_ne t := (lp_0 h7).2.2.2
    have j4 : lp_c (.inner s P v t (.inner s' P' v' a b)) (pz_nl t) = pz_kn t := (lp_0 h7).2.2.2
    rw [j1, j2, j3, j4, pz_fl_nd]
    refine ⟨q + (pz_pr t).length, ?_, by omega⟩
    have h0 : le_P [pz_evP P (q + (pz_pr t).length) (c + pz_kn t)] 0 0 (pz_evP P (q + (pz_pr t).length) (c + pz_kn t)) := by
      refine ⟨?_, rfl⟩
      unfold pz_lps
      show ((List.range 1).filter _)[0]? = _
      rw [show List.range 1 = [0] from rfl, List.filter_cons_of_pos (by exact decide_eq_true h7)]
      rfl
    have := (h0.left (if 6 ≤ P.1 then
      pz_eo (pz_w1 P.1) (e + pz_ne t) :: (pz_fl a (q + (pz_pr t).length + (pz_hd P).length + 1) (e + pz_ne t + 2) (c + pz_kn t + (pz_kd (P.1, 0, 0, 0, 0, 0, 0, 0)).length) ++ pz_ec (pz_w1 P.1) (e + pz_ne t) :: (if P.1 = 7 then [] else
      pz_eo (pz_w2 P.1) (e + pz_ne t) :: (pz_fl b (q + (pz_pr t).length + (pz_hd P).length + 1 + (pz_pr a).length + 2) (e + pz_ne t + 2 + pz_ne a + 2) (c + pz_kn t + (pz_kd (P.1, 0, 0, 0, 0, 0, 0, 0)).length + pz_kn a) ++ [pz_ec (pz_w2 P.1) (e + pz_ne t)]))) else [])).skip (pz_fl t q e c)
    rw [pz_fl_len, pz_c7_fl t hw.1] at this
    exact this
  · intro s P v t s' P' v' a b l hw h6 hl ih q e c
    obtain ⟨q', i1, i2⟩ := ih (q + (pz_pr t).length + (pz_hd P).length + 1) (e + pz_ne t + 2) (c + pz_kn t + (pz_kd (P.1, 0, 0, 0, 0, 0, 0, 0)).length)
    obtain ⟨j1, -, j2, -⟩ := lp_in (z := fun _ t => pz_sz t) (u := fun _ t => pz_sz t) (w := fun _ t a => pz_sz t) (s := s) (P := P) (v := v) (t := t) (s' := s') (P' := P') (v' := v') (a := a) (b := b) hl
    have j3 : lp_e (.inner s P v t (.inner s' P' v' a b)) (pz_nl t + (if P.1 = 7 then 1 else 0) + l) = pz_ne t + 2 + lp_e a l := (lp_in hl).2.2.2
    have j4 : lp_c (.inner s P v t (.inner s' P' v' a b)) (pz_nl t + (if P.1 = 7 then 1 else 0) + l) = pz_kn t + (pz_kd (P.1, 0, 0, 0, 0, 0, 0, 0)).length + lp_c a l := (lp_in hl).2.2.2
    rw [j1, j2, j3, j4, pz_fl_nd, if_pos h6]
    refine ⟨q', ?_, by omega⟩
    have := (i1.left (pz_ec (pz_w1 P.1) (e + pz_ne t) :: (if P.1 = 7 then [] else
      pz_eo (pz_w2 P.1) (e + pz_ne t) :: (pz_fl b (q + (pz_pr t).length + (pz_hd P).length + 1 + (pz_pr a).length + 2) (e + pz_ne t + 2 + pz_ne a + 2) (c + pz_kn t + (pz_kd (P.1, 0, 0, 0, 0, 0, 0, 0)).length + pz_kn a) ++ [pz_ec (pz_w2 P.1) (e + pz_ne t)])))).skip (pz_fl t q e c ++ [pz_evP P (q + (pz_pr t).length) (c + pz_kn t), pz_eo (pz_w1 P.1) (e + pz_ne t)])
    rw [pz_c7_app, pz_c7_fl t hw.1, pz_c7_cons, show (pz_evP P (q + (pz_pr t).length) (c + pz_kn t)).1 = P.1 from rfl, show pz_c7 [pz_eo (pz_w1 P.1) (e + pz_ne t)] = 0 from rfl, List.length_append, pz_fl_len, List.append_assoc, Nat.add_zero] at this
    rw [show c + (pz_kn t + (pz_kd (P.1, 0, 0, 0, 0, 0, 0, 0)).length + lp_c a l) = c + pz_kn t + (pz_kd (P.1, 0, 0, 0, 0, 0, 0, 0)).length + lp_c a l by omega]
    exact this
  · intro s P v t s' P' v' a b l hw h6 h7 hl ih q e c
    obtain ⟨q', i1, i2⟩ := ih (q + (pz_pr t).length + (pz_hd P).length + 1 + (pz_pr a).length + 2) (e + pz_ne t + 2 + pz_ne a + 2) (c + pz_kn t + (pz_kd (P.1, 0, 0, 0, 0, 0, 0, 0)).length + pz_kn a)
    obtain ⟨j1, -, j2, -⟩ := lp_bl (z := fun _ t => pz_sz t) (u := fun _ t => pz_sz t) (w := fun _ t a => pz_sz t) (s := s) (P := P) (v := v) (t := t) (s' := s') (P' := P') (v' := v') (a := a) (b := b) (l := l)
    have j3 : lp_e (.inner s P v t (.inner s' P' v' a b)) (pz_nl t + (if P.1 = 7 then 1 else 0) + pz_nl a + l) = pz_ne t + 2 + pz_ne a + 2 + lp_e b l := lp_bl.2.2.2
    have j4 : lp_c (.inner s P v t (.inner s' P' v' a b)) (pz_nl t + (if P.1 = 7 then 1 else 0) + pz_nl a + l) = pz_kn t + (pz_kd (P.1, 0, 0, 0, 0, 0, 0, 0)).length + pz_kn a + lp_c b l := lp_bl.2.2.2
    rw [j1, j2, j3, j4, pz_fl_nd, if_pos h6, if_neg h7]
    refine ⟨q', ?_, by omega⟩
    have := (i1.left [pz_ec (pz_w2 P.1) (e + pz_ne t)]).skip (pz_fl t q e c ++ (pz_evP P (q + (pz_pr t).length) (c + pz_kn t) :: pz_eo (pz_w1 P.1) (e + pz_ne t) :: (pz_fl a (q + (pz_pr t).length + (pz_hd P).length + 1) (e + pz_ne t + 2) (c + pz_kn t + (pz_kd (P.1, 0, 0, 0, 0, 0, 0, 0)).length) ++ [pz_ec (pz_w1 P.1) (e + pz_ne t), pz_eo (pz_w2 P.1) (e + pz_ne t)])))
    rw [pz_c7_app, pz_c7_fl t hw.1, pz_c7_cons, show (pz_evP P (q + (pz_pr t).length) (c + pz_kn t)).1 = P.1 from rfl, pz_c7_cons, pz_c7_app, pz_c7_fl a hw.2.1, show pz_c7 [pz_ec (pz_w1 P.1) (e + pz_ne t), pz_eo (pz_w2 P.1) (e + pz_ne t)] = 0 from rfl, show (if (pz_eo (pz_w1 P.1) (e + pz_ne t)).1 = 7 then 1 else 0) = 0 from rfl, List.length_append, List.length_cons, List.length_cons, List.length_append, pz_fl_len, pz_fl_len] at this
    simp only [List.append_assoc, List.cons_append, List.nil_append, List.length_cons, List.length_nil] at this
    rw [if_neg h7]
    rw [if_neg h7] at this
    rw [show c + (pz_kn t + (pz_kd (P.1, 0, 0, 0, 0, 0, 0, 0)).length + pz_kn a + lp_c b l) = c + pz_kn t + (pz_kd (P.1, 0, 0, 0, 0, 0, 0, 0)).length + pz_kn a + lp_c b l by omega, show pz_nl t + 0 + pz_nl a + l = pz_nl t + (0 + (0 + (pz_nl a + 0))) + l by omega, show pz_ne t + 2 + pz_ne a + 2 + lp_e b l = pz_ne t + (pz_ne a + (0 + 1 + 1) + 1 + 1) + lp_e b l by omega]
    exact this
