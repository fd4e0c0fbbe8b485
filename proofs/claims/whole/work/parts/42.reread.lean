/-! what is printed of a tree is read as its events, all of it -/
theorem pz_run_go {ls : List Int} {n : Nat} {E : List pz_Ev} {op : List Nat} {A : Nat} {r : List pz_Ev × List Nat × Int} (hA : A < ls.length) (h : pz_turn ls E op (A : Int) = .inr r) : pz_run ls (n + 1) E op (A : Int) = pz_run ls n r.1 r.2.1 r.2.2 := by
  rw [pz_run, if_pos (by omega), h]
theorem pz_ld_nd (s : Nat) (P : pz_P) (v : Unit) (p : pz_T) (s' : Nat) (P' : pz_P) (v' : Unit) (a b : pz_T) : pz_ld (.inner s P v p (.inner s' P' v' a b)) = Nat.max (pz_ld p) (Nat.max (pz_ld a) (pz_ld b) + (if P.1 = 7 then 1 else 0)) := rfl
theorem pz_tn_nd (s : Nat) (P : pz_P) (v : Unit) (p : pz_T) (s' : Nat) (P' : pz_P) (v' : Unit) (a b : pz_T) : pz_tn (.inner s P v p (.inner s' P' v' a b)) = pz_tn p + (1 + (if 6 ≤ P.1 then pz_tn a + (1 + (if P.1 = 7 then 0 else pz_tn b + 1)) else 0)) := rfl
theorem pz_la_push {E : List pz_Ev} {op : List Nat} {v w : pz_Ev} (h : ∀ o ∈ op, o < E.length) : pz_la (E ++ v :: [w]) ((E ++ [v]).length :: op) = pz_la E op + (if w.2.1 = 2 then 1 else 0) := by
  have e1 : (E ++ v :: [w]).getD (E ++ [v]).length pz_d0 = w := by
    rw [show E ++ v :: [w] = (E ++ [v]) ++ w :: [] by simp]
    exact pz_getD_mid
  have e2 := pz_la_app (F := v :: [w]) h
  unfold pz_la at *
  by_cases hw : w.2.1 = 2
  · rw [List.filter_cons_of_pos (p := fun e => decide (((E ++ v :: [w]).getD e pz_d0).2.1 = 2)) (decide_eq_true (show ((E ++ v :: [w]).getD (E ++ [v]).length pz_d0).2.1 = 2 by rw [e1]; exact hw)), List.length_cons, e2, if_pos hw]
  · rw [List.filter_cons_of_neg (p := fun e => decide (((E ++ v :: [w]).getD e pz_d0).2.1 = 2)) (fun q => hw (by rw [← e1]; exact of_decide_eq_true q)), e2, if_neg hw]
    rfl
theorem pz_run_pr (ls : List Int) : ∀ (t : pz_T), pz_wf t → ∀ (A : Nat) (rest : List Int) (E : List pz_Ev) (op : List Nat) (n : Nat), ls.drop A = pz_pr t ++ rest → (pz_kds E).length + pz_kn t ≤ 16 → pz_c7 E + pz_nl t ≤ 4 → pz_la E op + pz_ld t ≤ 2 → (∀ o ∈ op, o < E.length) →
    pz_run ls (n + pz_tn t) E op (A : Int) = pz_run ls n (E ++ pz_fl t A E.length (pz_kds E).length) op ((A + (pz_pr t).length : Nat) : Int) := by
  intro t
  induction t using pz_ind with
  | h0 =>
    intro _ A rest E op n h _ _ _ _
    show pz_run ls n E op (A : Int) = pz_run ls n (E ++ []) op (A : Int)
    rw [List.append_nil]
  | h2 s P v p => intro hw; exact hw.elim
  | h1 s P v p s' P' v' a b ihp iha ihb =>
    intro hw A rest E op n h hk hl hd ho
    obtain ⟨w1, w2, w3, w4, w5, w6⟩ := hw
    rw [pz_kn_nd] at hk
    rw [pz_nl_nd] at hl
    rw [pz_ld_nd] at hd
    have hd1 : pz_ld p ≤ Nat.max (pz_ld p) (Nat.max (pz_ld a) (pz_ld b) + (if P.1 = 7 then 1 else 0)) := Nat.le_max_left _ _
    have hd2 : Nat.max (pz_ld a) (pz_ld b) + (if P.1 = 7 then 1 else 0) ≤ Nat.max (pz_ld p) (Nat.max (pz_ld a) (pz_ld b) + (if P.1 = 7 then 1 else 0)) := Nat.le_max_right _ _
    have hd3 : pz_ld a ≤ Nat.max (pz_ld a) (pz_ld b) := Nat.le_max_left _ _
    have hd4 : pz_ld b ≤ Nat.max (pz_ld a) (pz_ld b) := Nat.le_max_right _ _
    generalize Nat.max (pz_ld p) (Nat.max (pz_ld a) (pz_ld b) + (if P.1 = 7 then 1 else 0)) = X at hd hd1 hd2
    rw [pz_pr_nd, List.append_assoc, List.append_assoc] at h
    have hp := ihp w1 A _ E op (n + (1 + (if 6 ≤ P.1 then pz_tn a + (1 + (if P.1 = 7 then 0 else pz_tn b + 1)) else 0))) h (by omega) (by omega) (by omega) ho
    have h1 := pz_drop_app h
    rw [pz_tn_nd, show n + (pz_tn p + (1 + (if 6 ≤ P.1 then pz_tn a + (1 + (if P.1 = 7 then 0 else pz_tn b + 1)) else 0))) = n + (1 + (if 6 ≤ P.1 then pz_tn a + (1 + (if P.1 = 7 then 0 else pz_tn b + 1)) else 0)) + pz_tn p by omega, hp]
    have hk1 : (pz_kds (E ++ pz_fl p A E.length (pz_kds E).length)).length = (pz_kds E).length + pz_kn p := by rw [pz_kds_app', List.length_append, pz_kds_fl p w1]
    have hl1 : pz_c7 (E ++ pz_fl p A E.length (pz_kds E).length) = pz_c7 E + pz_nl p := by rw [pz_c7_app, pz_c7_fl p w1]
    have hn1 : (E ++ pz_fl p A E.length (pz_kds E).length).length = E.length + pz_ne p := by rw [List.length_append, pz_fl_len]
    have ho1 : ∀ o ∈ op, o < (E ++ pz_fl p A E.length (pz_kds E).length).length := fun o q => by have := ho o q; omega
    have ha1 : pz_la (E ++ pz_fl p A E.length (pz_kds E).length) op = pz_la E op := pz_la_app ho
    have hE : E ++ pz_fl (.inner s P v p (.inner s' P' v' a b)) A E.length (pz_kds E).length = (E ++ pz_fl p A E.length (pz_kds E).length) ++ (pz_evP P (A + (pz_pr p).length) ((pz_kds E).length + pz_kn p) :: (if 6 ≤ P.1 then
      pz_eo (pz_w1 P.1) (E.length + pz_ne p) :: (pz_fl a (A + (pz_pr p).length + (pz_hd P).length + 1) (E.length + pz_ne p + 2) ((pz_kds E).length + pz_kn p + (pz_kd (P.1, 0, 0, 0, 0, 0, 0, 0)).length) ++ pz_ec (pz_w1 P.1) (E.length + pz_ne p) :: (if P.1 = 7 then [] else
      pz_eo (pz_w2 P.1) (E.length + pz_ne p) :: (pz_fl b (A + (pz_pr p).length + (pz_hd P).length + 1 + (pz_pr a).length + 2) (E.length + pz_ne p + 2 + pz_ne a + 2) ((pz_kds E).length + pz_kn p + (pz_kd (P.1, 0, 0, 0, 0, 0, 0, 0)).length + pz_kn a) ++ [pz_ec (pz_w2 P.1) (E.length + pz_ne p)]))) else [])) := by
      rw [pz_fl_nd, List.append_assoc]
    rw [hE]
    generalize hE1 : E ++ pz_fl p A E.length (pz_kds E).length = E1 at hk1 hl1 hn1 ho1 ha1
    rw [pz_pr_nd, List.length_append, List.length_append]
    generalize hA1 : A + (pz_pr p).length = A1 at h1
    rw [← hn1, ← hk1]
    have hlt : A1 < ls.length := (pz_at_drop (h1.trans (List.cons_append ..))).2.2
    have hturn := pz_turn_go (op := op) w4 h1 (E := E1) (by omega) (fun q => by rw [pz_lps_c7, ha1]; rw [if_pos q] at hl hd2; exact ⟨by omega, by omega⟩)
    rw [pz_stm_go w4 h1] at hturn
    have hd1' := pz_drop_app h1
    by_cases h6 : 6 ≤ P.1
    · rw [if_pos h6] at hturn hd1' ⊢
      rw [if_pos h6, if_pos h6]
      rw [List.cons_append] at hd1'
      rw [pz_pop_go hd1'] at hturn
      have hl0 : ∀ o ∈ op, o < E1.length := ho1
      -- the first block
      have hd2' := (pz_at_drop hd1').2.1
      rw [List.append_assoc, List.cons_append] at hd2'
      have hE2 : E1 ++ [pz_evP P A1 (pz_kds E1).length] ++ [(9, pz_w1 P.1, 0, 0, 0, 0, 0, (E1.length : Int))] = E1 ++ pz_evP P A1 (pz_kds E1).length :: [pz_eo (pz_w1 P.1) E1.length] := by simp
      rw [hE2] at hturn
      rw [show n + (1 + (pz_tn a + (1 + (if P.1 = 7 then 0 else pz_tn b + 1)))) = n + (1 + (if P.1 = 7 then 0 else pz_tn b + 1)) + pz_tn a + 1 by omega, pz_run_go hlt hturn]
      dsimp only
      have hla2 := pz_la_push (v := pz_evP P A1 (pz_kds E1).length) (w := pz_eo (pz_w1 P.1) E1.length) hl0
      have hk2 : (pz_kds (E1 ++ pz_evP P A1 (pz_kds E1).length :: [pz_eo (pz_w1 P.1) E1.length])).length = (pz_kds E1).length + (pz_kd (P.1, 0, 0, 0, 0, 0, 0, 0)).length := by
        rw [pz_kds_app', List.length_append, pz_kds_cons, pz_kds_cons, pz_kd_evP, pz_kd_eo, List.length_append]
        rfl
      have hc2 : pz_c7 (E1 ++ pz_evP P A1 (pz_kds E1).length :: [pz_eo (pz_w1 P.1) E1.length]) = pz_c7 E1 + (if P.1 = 7 then 1 else 0) := by
        rw [pz_c7_app, pz_c7_cons, pz_c7_cons]
        rfl
      have hn2 : (E1 ++ pz_evP P A1 (pz_kds E1).length :: [pz_eo (pz_w1 P.1) E1.length]).length = E1.length + 2 := by simp
      have ho2 : ∀ o ∈ (E1 ++ [pz_evP P A1 (pz_kds E1).length]).length :: op, o < (E1 ++ pz_evP P A1 (pz_kds E1).length :: [pz_eo (pz_w1 P.1) E1.length]).length := by
        intro o q
        rw [hn2]
        rcases List.mem_cons.mp q with q | q
        · rw [q, List.length_append]; simp
        · have := hl0 o q; omega
      have hw1 : (pz_eo (pz_w1 P.1) E1.length).2.1 = 2 → P.1 = 7 := by
        intro q
        have q : (if P.1 = 6 then (0 : Int) else if P.1 = 7 then 2 else 3) = 2 := q
        split at q
        · omega
        · split at q
          · assumption
          · omega
      have hia := iha w2 (A1 + (pz_hd P).length + 1) _ (E1 ++ pz_evP P A1 (pz_kds E1).length :: [pz_eo (pz_w1 P.1) E1.length]) ((E1 ++ [pz_evP P A1 (pz_kds E1).length]).length :: op) (n + (1 + (if P.1 = 7 then 0 else pz_tn b + 1))) hd2' (by omega) (by omega) (by
        rw [hla2, ha1]
        by_cases h7 : P.1 = 7
        · rw [if_pos h7] at hd2
          split <;> omega
        · rw [if_neg (fun q => h7 (hw1 q))]
          rw [if_neg h7] at hd2
          omega) ho2
      rw [hia, hn2, hk2]
      have hd3' := pz_drop_app hd2'
      have hlt3 : A1 + (pz_hd P).length + 1 + (pz_pr a).length < ls.length := (pz_at_drop hd3').2.2
      have hk3 : (pz_kds (E1 ++ pz_evP P A1 (pz_kds E1).length :: [pz_eo (pz_w1 P.1) E1.length] ++ pz_fl a (A1 + (pz_hd P).length + 1) (E1.length + 2) ((pz_kds E1).length + (pz_kd (P.1, 0, 0, 0, 0, 0, 0, 0)).length))).length = (pz_kds E1).length + (pz_kd (P.1, 0, 0, 0, 0, 0, 0, 0)).length + pz_kn a := by
        rw [pz_kds_app', List.length_append, hk2, pz_kds_fl a w2]
      have hc3 : pz_c7 (E1 ++ pz_evP P A1 (pz_kds E1).length :: [pz_eo (pz_w1 P.1) E1.length] ++ pz_fl a (A1 + (pz_hd P).length + 1) (E1.length + 2) ((pz_kds E1).length + (pz_kd (P.1, 0, 0, 0, 0, 0, 0, 0)).length)) = pz_c7 E1 + (if P.1 = 7 then 1 else 0) + pz_nl a := by
        rw [pz_c7_app, hc2, pz_c7_fl a w2]
      have hg : (E1 ++ pz_evP P A1 (pz_kds E1).length :: [pz_eo (pz_w1 P.1) E1.length] ++ pz_fl a (A1 + (pz_hd P).length + 1) (E1.length + 2) ((pz_kds E1).length + (pz_kd (P.1, 0, 0, 0, 0, 0, 0, 0)).length)).getD (E1 ++ [pz_evP P A1 (pz_kds E1).length]).length pz_d0 = pz_eo (pz_w1 P.1) E1.length := by
        rw [show E1 ++ pz_evP P A1 (pz_kds E1).length :: [pz_eo (pz_w1 P.1) E1.length] ++ pz_fl a (A1 + (pz_hd P).length + 1) (E1.length + 2) ((pz_kds E1).length + (pz_kd (P.1, 0, 0, 0, 0, 0, 0, 0)).length) = (E1 ++ [pz_evP P A1 (pz_kds E1).length]) ++ pz_eo (pz_w1 P.1) E1.length :: pz_fl a (A1 + (pz_hd P).length + 1) (E1.length + 2) ((pz_kds E1).length + (pz_kd (P.1, 0, 0, 0, 0, 0, 0, 0)).length) by simp]
        exact pz_getD_mid
      have hn3 : (E1 ++ pz_evP P A1 (pz_kds E1).length :: [pz_eo (pz_w1 P.1) E1.length] ++ pz_fl a (A1 + (pz_hd P).length + 1) (E1.length + 2) ((pz_kds E1).length + (pz_kd (P.1, 0, 0, 0, 0, 0, 0, 0)).length)).length = E1.length + 2 + pz_ne a := by
        rw [List.length_append, hn2, pz_fl_len]
      have hla3 : pz_la (E1 ++ pz_evP P A1 (pz_kds E1).length :: [pz_eo (pz_w1 P.1) E1.length] ++ pz_fl a (A1 + (pz_hd P).length + 1) (E1.length + 2) ((pz_kds E1).length + (pz_kd (P.1, 0, 0, 0, 0, 0, 0, 0)).length)) op = pz_la E1 op := by
        rw [List.append_assoc]
        exact pz_la_app hl0
      have hE3 : E1 ++ pz_evP P A1 (pz_kds E1).length :: pz_eo (pz_w1 P.1) E1.length :: (pz_fl a (A1 + (pz_hd P).length + 1) (E1.length + 2) ((pz_kds E1).length + (pz_kd (P.1, 0, 0, 0, 0, 0, 0, 0)).length) ++ pz_ec (pz_w1 P.1) E1.length :: (if P.1 = 7 then [] else
      pz_eo (pz_w2 P.1) E1.length :: (pz_fl b (A1 + (pz_hd P).length + 1 + (pz_pr a).length + 2) (E1.length + 2 + pz_ne a + 2) ((pz_kds E1).length + (pz_kd (P.1, 0, 0, 0, 0, 0, 0, 0)).length + pz_kn a) ++ [pz_ec (pz_w2 P.1) E1.length]))) = (E1 ++ pz_evP P A1 (pz_kds E1).length :: [pz_eo (pz_w1 P.1) E1.length] ++ pz_fl a (A1 + (pz_hd P).length + 1) (E1.length + 2) ((pz_kds E1).length + (pz_kd (P.1, 0, 0, 0, 0, 0, 0, 0)).length)) ++ pz_ec (pz_w1 P.1) E1.length :: (if P.1 = 7 then [] else
      pz_eo (pz_w2 P.1) E1.length :: (pz_fl b (A1 + (pz_hd P).length + 1 + (pz_pr a).length + 2) (E1.length + 2 + pz_ne a + 2) ((pz_kds E1).length + (pz_kd (P.1, 0, 0, 0, 0, 0, 0, 0)).length + pz_kn a) ++ [pz_ec (pz_w2 P.1) E1.length])) := by simp
      rw [hE3]
      generalize hE3d : E1 ++ pz_evP P A1 (pz_kds E1).length :: [pz_eo (pz_w1 P.1) E1.length] ++ pz_fl a (A1 + (pz_hd P).length + 1) (E1.length + 2) ((pz_kds E1).length + (pz_kd (P.1, 0, 0, 0, 0, 0, 0, 0)).length) = E3 at hk3 hc3 hg hn3 hla3
      have hturn3 := pz_turn_end (op := op) hd3' hg
      generalize hA3d : A1 + (pz_hd P).length + 1 + (pz_pr a).length = A3 at hd3' hlt3 hturn3
      have ho3 : ∀ o ∈ op, o < E3.length := fun o q => by have := hl0 o q; omega
      by_cases h7 : P.1 = 7
      · rw [if_pos h7]
        rw [if_neg (by rw [h7]; decide)] at hturn3
        rw [if_pos h7, if_pos h7]
        rw [show n + (1 + 0) = n + 1 from rfl, pz_run_go hlt3 hturn3]
        dsimp only
        congr 1
        rw [List.length_cons, List.length_append, List.length_cons, List.length_nil]
        omega
      · have hw36 : pz_w1 P.1 = 0 ∨ pz_w1 P.1 = 3 := by
          unfold pz_w1
          split
          · exact Or.inl rfl
          · first
            | exact Or.inr rfl
            | (rw [if_neg h7]; exact Or.inr rfl)
        have hw12 : (if pz_w1 P.1 = 0 then (1 : Int) else 4) = pz_w2 P.1 := by
          unfold pz_w1 pz_w2
          by_cases hs6 : P.1 = 6
          · rw [if_pos hs6, if_pos rfl, if_pos hs6]
          · rw [if_neg hs6, if_neg h7, if_neg (by decide), if_neg hs6]
        rw [if_neg h7] at hd3' ⊢
        rw [if_neg h7, if_neg h7]
        rw [if_pos hw36, hw12] at hturn3
        have hd4' := (pz_at_drop hd3').2.1
        rw [List.cons_append, List.append_assoc] at hd4'
        rw [pz_pop_go hd4'] at hturn3
        have hE4 : E3 ++ [pz_ec (pz_w1 P.1) E1.length] ++ [(9, pz_w2 P.1, 0, 0, 0, 0, 0, (E1.length : Int))] = E3 ++ pz_ec (pz_w1 P.1) E1.length :: [pz_eo (pz_w2 P.1) E1.length] := by simp
        rw [hE4] at hturn3
        rw [show n + (1 + (pz_tn b + 1)) = n + 1 + pz_tn b + 1 by omega, pz_run_go hlt3 hturn3]
        dsimp only
        have hd5' := (pz_at_drop hd4').2.1
        have hla4 := pz_la_push (v := pz_ec (pz_w1 P.1) E1.length) (w := pz_eo (pz_w2 P.1) E1.length) ho3
        have hk4 : (pz_kds (E3 ++ pz_ec (pz_w1 P.1) E1.length :: [pz_eo (pz_w2 P.1) E1.length])).length = (pz_kds E3).length := by
          rw [pz_kds_app', List.length_append, pz_kds_cons, pz_kds_cons, pz_kd_ec, pz_kd_eo]
          rfl
        have hc4 : pz_c7 (E3 ++ pz_ec (pz_w1 P.1) E1.length :: [pz_eo (pz_w2 P.1) E1.length]) = pz_c7 E3 := by
          rw [pz_c7_app, pz_c7_cons, pz_c7_cons]
          rfl
        have hn4 : (E3 ++ pz_ec (pz_w1 P.1) E1.length :: [pz_eo (pz_w2 P.1) E1.length]).length = E3.length + 2 := by simp
        have ho4 : ∀ o ∈ (E3 ++ [pz_ec (pz_w1 P.1) E1.length]).length :: op, o < (E3 ++ pz_ec (pz_w1 P.1) E1.length :: [pz_eo (pz_w2 P.1) E1.length]).length := by
          intro o q
          rw [hn4]
          rcases List.mem_cons.mp q with q | q
          · rw [q, List.length_append]; simp
          · have := ho3 o q; omega
        rw [if_neg h7] at hl hc3 hd2
        have hib := ihb w3 (A3 + 1 + 1) _ (E3 ++ pz_ec (pz_w1 P.1) E1.length :: [pz_eo (pz_w2 P.1) E1.length]) ((E3 ++ [pz_ec (pz_w1 P.1) E1.length]).length :: op) (n + 1) hd5' (by omega) (by omega) (by
          rw [hla4, hla3, ha1, if_neg (show ¬ pz_w2 P.1 = 2 by unfold pz_w2; split <;> decide)]
          omega) ho4
        rw [hib, hn4, hk4, hn3, hk3]
        have hd6' := pz_drop_app hd5'
        have hlt6 := (pz_at_drop hd6').2.2
        have hg6 : (E3 ++ pz_ec (pz_w1 P.1) E1.length :: [pz_eo (pz_w2 P.1) E1.length] ++ pz_fl b (A3 + 1 + 1) (E1.length + 2 + pz_ne a + 2) ((pz_kds E1).length + (pz_kd (P.1, 0, 0, 0, 0, 0, 0, 0)).length + pz_kn a)).getD (E3 ++ [pz_ec (pz_w1 P.1) E1.length]).length pz_d0 = pz_eo (pz_w2 P.1) E1.length := by
          rw [show E3 ++ pz_ec (pz_w1 P.1) E1.length :: [pz_eo (pz_w2 P.1) E1.length] ++ pz_fl b (A3 + 1 + 1) (E1.length + 2 + pz_ne a + 2) ((pz_kds E1).length + (pz_kd (P.1, 0, 0, 0, 0, 0, 0, 0)).length + pz_kn a) = (E3 ++ [pz_ec (pz_w1 P.1) E1.length]) ++ pz_eo (pz_w2 P.1) E1.length :: pz_fl b (A3 + 1 + 1) (E1.length + 2 + pz_ne a + 2) ((pz_kds E1).length + (pz_kd (P.1, 0, 0, 0, 0, 0, 0, 0)).length + pz_kn a) by simp]
          exact pz_getD_mid
        have hturn6 := pz_turn_end (op := op) hd6' hg6
        rw [if_neg (show ¬ (pz_w2 P.1 = 0 ∨ pz_w2 P.1 = 3) by unfold pz_w2; split <;> decide)] at hturn6
        rw [pz_run_go hlt6 hturn6]
        dsimp only
        have hA4 : A + ((pz_pr p).length + ((pz_hd P).length + (40 :: (pz_pr a ++ 41 :: 40 :: (pz_pr b ++ [41]))).length)) = A3 + 1 + 1 + (pz_pr b).length + 1 := by
          simp
          omega
        rw [hA4]
        congr 1
        simp
    · rw [if_neg h6] at hturn ⊢
      rw [if_neg h6, if_neg h6, show n + (1 + 0) = n + 1 from rfl, pz_run_go hlt hturn]
      dsimp only
      congr 1
      rw [List.length_nil]
      omega
/-- what is printed is read -/
theorem pz_read_pr {t : pz_T} (hw : pz_wf t) (hk : pz_kn t ≤ 16) (hl : pz_nl t ≤ 4) (hd : pz_ld t ≤ 2) (hn : pz_tn t ≤ (pz_pr t).length) : pz_read (pz_pr t) = .inr (pz_fl t 0 0 0) := by
  have h := pz_run_pr (pz_pr t) t hw 0 [] [] [] ((pz_pr t).length + 1 - pz_tn t) (by simp) (by simpa [pz_kds] using hk) (by simpa [pz_c7] using hl) (by simpa [pz_la] using hd) (by simp)
  rw [show (pz_pr t).length + 1 - pz_tn t + pz_tn t = (pz_pr t).length + 1 by omega] at h
  unfold pz_read
  refine h.trans ?_
  obtain ⟨k, hk⟩ : ∃ k, (pz_pr t).length + 1 - pz_tn t = k + 1 := ⟨(pz_pr t).length - pz_tn t, by omega⟩
  rw [hk, pz_run, if_neg (by omega), if_pos rfl]
  rfl
theorem pz_tn_pr : ∀ t : pz_T, pz_wf t → pz_tn t ≤ (pz_pr t).length := by
  intro t
  induction t using pz_ind with
  | h0 => intro _; exact Nat.le_refl _
  | h2 s P v p => intro hw; exact hw.elim
  | h1 s P v p s' P' v' a b ihp iha ihb =>
    intro hw
    obtain ⟨w1, w2, w3, w4, w5, w6⟩ := hw
    rw [pz_tn_nd, pz_pr_nd, List.length_append, List.length_append]
    have h1 := ihp w1
    have h2 := iha w2
    have h3 := ihb w3
    have h4 : 1 ≤ (pz_hd P).length := by unfold pz_hd; rw [List.length_cons]; omega
    by_cases h6 : 6 ≤ P.1
    · rw [if_pos h6, if_pos h6]
      by_cases h7 : P.1 = 7
      · rw [if_pos h7, if_pos h7]
        simp
        omega
      · rw [if_neg h7, if_neg h7]
        simp
        omega
    · rw [if_neg h6, if_neg h6]
      simp
      omega
