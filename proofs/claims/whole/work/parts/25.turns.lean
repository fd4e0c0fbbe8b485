/-! the reference: a turn of its reader -/
/-- an event out of memory: what is said of a statement, of a block's begin or end -/
def pz_ev (M : ab_M) (e : Nat) : pz_Ev := if M 805 e ≤ 8 then (M 805 e, M 806 e, M 807 e, M 808 e, M 809 e, M 810 e, M 811 e, 0) else (M 805 e, M 806 e, 0, 0, 0, 0, 0, M 812 e)
def pz_E (M : ab_M) : List pz_Ev := (List.range (M 797 10).toNat).map (pz_ev M)
/-- the open blocks, the innermost first -/
def pz_op (M : ab_M) : List Nat := ((List.range (M 797 27).toNat).map (fun i => (M 815 i).toNat)).reverse
def pz_d0 : pz_Ev := (10, 0, 0, 0, 0, 0, 0, 0)
def pz_srt (c : Int) : Int := if c = 104 then 1 else if c = 107 then 2 else if c = 115 then 3 else if c = 116 then 4 else if c = 112 then 5 else if c = 105 then 6 else if c = 119 then 7 else if c = 121 then 8 else if 97 ≤ c ∧ c ≤ 100 then 0 else -9
def pz_nck (its : Int) : Int := if its = 2 ∨ its = 5 then 1 else if its = 7 then 2 else 0
/-- loops around -/
def pz_la (E : List pz_Ev) (op : List Nat) : Nat := (op.filter (fun e => decide ((E.getD e pz_d0).2.1 = 2))).length
/-- a block begins at a place; fault, or events, open blocks, place -/
def pz_pop (ls : List Int) (E : List pz_Ev) (op : List Nat) (a w i : Int) : Int ⊕ (List pz_Ev × List Nat × Int) := if pz_at ls a.toNat = 40 then .inr (E ++ [(9, w, 0, 0, 0, 0, 0, i)], E.length :: op, a + 1) else .inl a
def pz_may (ls : List Int) (E : List pz_Ev) (op : List Nat) (a : Int) : Prop := pz_srt (pz_at ls a.toNat) ≠ -9 ∧ ((pz_kds E).length : Int) + pz_nck (pz_srt (pz_at ls a.toNat)) ≤ 16 ∧ (pz_srt (pz_at ls a.toNat) = 7 → ((pz_lps E).length : Int) < 4 ∧ (pz_la E op : Int) < 2)
/-- a statement -/
def pz_stm (ls : List Int) (E : List pz_Ev) (op : List Nat) (a its : Int) : Int ⊕ (List pz_Ev × List Nat × Int) :=
  if (pz_t2 ls its (if its = 0 then pz_at ls a.toNat - 97 else 0) (a + 1)).2.2 = -9 then
    (if its = 6 ∨ its = 7 ∨ its = 8 then
      pz_pop ls (E ++ [(its, (pz_n2 ls its (if its = 0 then pz_at ls a.toNat - 97 else 0) (a + 1)).1, (pz_n1 ls its (if its = 0 then pz_at ls a.toNat - 97 else 0) (a + 1)).2.1, (pz_t1 ls its (if its = 0 then pz_at ls a.toNat - 97 else 0) (a + 1)).1, (pz_n2 ls its (if its = 0 then pz_at ls a.toNat - 97 else 0) (a + 1)).2.1, (pz_t2 ls its (if its = 0 then pz_at ls a.toNat - 97 else 0) (a + 1)).1, ((pz_kds E).length : Int), 0)]) op (pz_t2 ls its (if its = 0 then pz_at ls a.toNat - 97 else 0) (a + 1)).2.1 (if its = 6 then 0 else if its = 7 then 2 else 3) (E.length : Int)
    else .inr (E ++ [(its, (pz_n2 ls its (if its = 0 then pz_at ls a.toNat - 97 else 0) (a + 1)).1, (pz_n1 ls its (if its = 0 then pz_at ls a.toNat - 97 else 0) (a + 1)).2.1, (pz_t1 ls its (if its = 0 then pz_at ls a.toNat - 97 else 0) (a + 1)).1, (pz_n2 ls its (if its = 0 then pz_at ls a.toNat - 97 else 0) (a + 1)).2.1, (pz_t2 ls its (if its = 0 then pz_at ls a.toNat - 97 else 0) (a + 1)).1, ((pz_kds E).length : Int), 0)], op, (pz_t2 ls its (if its = 0 then pz_at ls a.toNat - 97 else 0) (a + 1)).2.1))
  else .inl (pz_t2 ls its (if its = 0 then pz_at ls a.toNat - 97 else 0) (a + 1)).2.2
/-- one turn of the reader: a block ends, or a statement -/
def pz_turn (ls : List Int) (E : List pz_Ev) (op : List Nat) (a : Int) : Int ⊕ (List pz_Ev × List Nat × Int) := match op with
  | o :: op' => if pz_at ls a.toNat = 41 then
      (if (E.getD o pz_d0).2.1 = 0 ∨ (E.getD o pz_d0).2.1 = 3 then pz_pop ls (E ++ [(10, (E.getD o pz_d0).2.1, 0, 0, 0, 0, 0, (E.getD o pz_d0).2.2.2.2.2.2.2)]) op' (a + 1) (if (E.getD o pz_d0).2.1 = 0 then 1 else 4) (E.getD o pz_d0).2.2.2.2.2.2.2
       else .inr (E ++ [(10, (E.getD o pz_d0).2.1, 0, 0, 0, 0, 0, (E.getD o pz_d0).2.2.2.2.2.2.2)], op', a + 1))
    else if pz_srt (pz_at ls a.toNat) ≠ -9 ∧ ((pz_kds E).length : Int) + pz_nck (pz_srt (pz_at ls a.toNat)) ≤ 16 ∧ (pz_srt (pz_at ls a.toNat) = 7 → ((pz_lps E).length : Int) < 4 ∧ (pz_la E (o :: op') : Int) < 2) then pz_stm ls E (o :: op') a (pz_srt (pz_at ls a.toNat)) else .inl a
  | [] => if pz_srt (pz_at ls a.toNat) ≠ -9 ∧ ((pz_kds E).length : Int) + pz_nck (pz_srt (pz_at ls a.toNat)) ≤ 16 ∧ (pz_srt (pz_at ls a.toNat) = 7 → ((pz_lps E).length : Int) < 4 ∧ (pz_la E [] : Int) < 2) then pz_stm ls E [] a (pz_srt (pz_at ls a.toNat)) else .inl a
/-- all turns: the fault, or the events -/
def pz_run (ls : List Int) : Nat → List pz_Ev → List Nat → Int → Int ⊕ List pz_Ev
  | 0, _, _, a => .inl a
  | n + 1, E, op, a => if a < (ls.length : Int) then (match pz_turn ls E op a with
      | .inl p => .inl p
      | .inr (E', op', a') => pz_run ls n E' op' a') else if op = [] then .inr E else .inl a
/-- a text read as a program -/
def pz_read (ls : List Int) : Int ⊕ List pz_Ev := pz_run ls (ls.length + 1) [] [] 0
theorem pz_E_len (M : ab_M) : (pz_E M).length = (M 797 10).toNat := by simp [pz_E]
theorem pz_E_getD (M : ab_M) {e : Nat} (h : (e : Int) < M 797 10) : (pz_E M).getD e pz_d0 = pz_ev M e := by
  unfold pz_E
  rw [List.getD_eq_getElem?_getD]
  simp [show e < (M 797 10).toNat by omega]
theorem pz_ev_congr {M M' : ab_M} {e : Nat} (h : ∀ o, 805 ≤ o → o ≤ 812 → M' o e = M o e) : pz_ev M' e = pz_ev M e := by
  unfold pz_ev
  rw [h 805 (by omega) (by omega), h 806 (by omega) (by omega), h 807 (by omega) (by omega), h 808 (by omega) (by omega), h 809 (by omega) (by omega), h 810 (by omega) (by omega), h 811 (by omega) (by omega), h 812 (by omega) (by omega)]
theorem pz_E_same {M M' : ab_M} (h1 : M' 797 10 = M 797 10) (h : ∀ (e : Nat) (o : Nat), (e : Int) < M 797 10 → 805 ≤ o → o ≤ 812 → M' o e = M o e) : pz_E M' = pz_E M := by
  unfold pz_E
  rw [h1]
  apply List.map_congr_left
  intro e he
  have he := List.mem_range.mp he
  exact pz_ev_congr fun o a b => h e o (by omega) a b
theorem pz_E_app {M M' : ab_M} (h0 : 0 ≤ M 797 10) (h1 : M' 797 10 = M 797 10 + 1) (h : ∀ (e : Nat) (o : Nat), (e : Int) < M 797 10 → 805 ≤ o → o ≤ 812 → M' o e = M o e) : pz_E M' = pz_E M ++ [pz_ev M' (M 797 10).toNat] := by
  unfold pz_E
  rw [h1, show (M 797 10 + 1).toNat = (M 797 10).toNat + 1 by omega, List.range_succ, List.map_append]
  congr 1
  apply List.map_congr_left
  intro e he
  have he := List.mem_range.mp he
  exact pz_ev_congr fun o a b => h e o (by omega) a b
theorem pz_op_same {M M' : ab_M} (h1 : M' 797 27 = M 797 27) (h : ∀ i : Nat, (i : Int) < M 797 27 → M' 815 i = M 815 i) : pz_op M' = pz_op M := by
  unfold pz_op
  rw [h1]
  congr 1
  apply List.map_congr_left
  intro i hi
  have hi := List.mem_range.mp hi
  show (M' 815 i).toNat = (M 815 i).toNat
  rw [h i (by omega)]
theorem pz_op_push {M M' : ab_M} (h0 : 0 ≤ M 797 27) (h1 : M' 797 27 = M 797 27 + 1) (h : ∀ i : Nat, (i : Int) < M 797 27 → M' 815 i = M 815 i) : pz_op M' = (M' 815 (M 797 27).toNat).toNat :: pz_op M := by
  unfold pz_op
  rw [h1, show (M 797 27 + 1).toNat = (M 797 27).toNat + 1 by omega, List.range_succ, List.map_append, List.reverse_append]
  show [(M' 815 (M 797 27).toNat).toNat].reverse ++ _ = _
  rw [List.reverse_singleton, List.singleton_append]
  congr 2
  apply List.map_congr_left
  intro i hi
  have hi := List.mem_range.mp hi
  show (M' 815 i).toNat = (M 815 i).toNat
  rw [h i (by omega)]
/-- what holds between the turns of the reference's reader -/
def pz_RI (M : ab_M) : Prop := (0 ≤ M 797 10 ∧ M 797 10 ≤ 400 ∧ 0 ≤ M 797 27 ∧ M 797 27 ≤ 130) ∧
  M 797 19 = ((pz_nS (pz_E M) : Nat) : Int) ∧
  (M 797 20 = (((pz_kds (pz_E M)).length : Nat) : Int) ∧ (pz_kds (pz_E M)).length ≤ 16 ∧ ∀ (k : Nat) (v : Int), (pz_kds (pz_E M))[k]? = some v → M 813 k = v) ∧
  (M 797 21 = (((pz_lps (pz_E M)).length : Nat) : Int) ∧ (pz_lps (pz_E M)).length ≤ 4 ∧ ∀ (l e : Nat), (pz_lps (pz_E M))[l]? = some e → M 814 l = (e : Int)) ∧
  (∀ i : Nat, (i : Int) < M 797 27 → 0 ≤ M 815 i ∧ M 815 i < M 797 10 ∧ M 805 (M 815 i).toNat = 9) ∧
  (∀ e : Nat, (e : Int) < M 797 10 → 0 ≤ M 805 e ∧ M 805 e ≤ 10 ∧ 0 ≤ M 806 e ∧ M 806 e ≤ 4 ∧ (9 ≤ M 805 e → 0 ≤ M 812 e ∧ M 812 e < M 797 10))
/-- a block's begin -/
theorem pz_opn_ok {M : ab_M} {w i : Int} (h : pz_RI M) (h1 : M 797 10 < 400) (h2 : M 797 27 < 130) (hw : 0 ≤ w ∧ w ≤ 4) (hi : 0 ≤ i ∧ i < M 797 10) :
    pz_E (pz_opn M w i) = pz_E M ++ [(9, w, 0, 0, 0, 0, 0, i)] ∧ pz_op (pz_opn M w i) = (pz_E M).length :: pz_op M ∧ pz_RI (pz_opn M w i) := by
  obtain ⟨⟨a1, a2, a3, a4⟩, b, ⟨c1, c2, c3⟩, ⟨d1, d2, d3⟩, f, g⟩ := h
  have r10 : pz_opn M w i 797 10 = M 797 10 + 1 := by unfold pz_opn; simp [ab_up_a]
  have r27 : pz_opn M w i 797 27 = M 797 27 + 1 := by unfold pz_opn; simp [ab_up_a]
  have r19 : pz_opn M w i 797 19 = M 797 19 := by unfold pz_opn; simp [ab_up_a]
  have r20 : pz_opn M w i 797 20 = M 797 20 := by unfold pz_opn; simp [ab_up_a]
  have r21 : pz_opn M w i 797 21 = M 797 21 := by unfold pz_opn; simp [ab_up_a]
  have r800 : ∀ k, pz_opn M w i 813 k = M 813 k := fun k => by unfold pz_opn; simp [ab_up_a]
  have r801 : ∀ k, pz_opn M w i 814 k = M 814 k := fun k => by unfold pz_opn; simp [ab_up_a]
  have r802 : ∀ k, pz_opn M w i 815 k = if k = (M 797 27).toNat then M 797 10 else M 815 k := fun k => by unfold pz_opn; simp [ab_up_a]
  have r792 : ∀ k, pz_opn M w i 805 k = if k = (M 797 10).toNat then 9 else M 805 k := fun k => by unfold pz_opn; simp [ab_up_a]
  have r793 : ∀ k, pz_opn M w i 806 k = if k = (M 797 10).toNat then w else M 806 k := fun k => by unfold pz_opn; simp [ab_up_a]
  have r799 : ∀ k, pz_opn M w i 812 k = if k = (M 797 10).toNat then i else M 812 k := fun k => by unfold pz_opn; simp [ab_up_a]
  have rrow : ∀ (e o : Nat), (e : Int) < M 797 10 → 805 ≤ o → o ≤ 812 → pz_opn M w i o e = M o e := fun e o he p q => by
    unfold pz_opn
    simp only [ab_up_a]
    rw [if_neg (by omega), if_neg (by omega), if_neg (by omega), if_neg (by omega), if_neg (by omega), if_neg (by omega), if_neg (by omega)]
  have hev : pz_ev (pz_opn M w i) (M 797 10).toNat = (9, w, 0, 0, 0, 0, 0, i) := by
    unfold pz_ev
    rw [r792, r793, r799, if_pos rfl, if_pos rfl, if_pos rfl, if_neg (by decide)]
  have hE : pz_E (pz_opn M w i) = pz_E M ++ [(9, w, 0, 0, 0, 0, 0, i)] := by rw [pz_E_app a1 r10 rrow, hev]
  have hO : pz_op (pz_opn M w i) = (pz_E M).length :: pz_op M := by
    rw [pz_op_push a3 r27 (fun j hj => by rw [r802, if_neg (by omega)]), r802, if_pos rfl, pz_E_len]
  refine ⟨hE, hO, ⟨by omega, by omega, by omega, by omega⟩, ?_, ⟨?_, ?_, ?_⟩, ⟨?_, ?_, ?_⟩, ?_, ?_⟩
  · rw [hE, pz_nS_app, r19, b]; rfl
  · rw [hE, pz_kds_app, r20, c1]
    simp [pz_kd]
  · rw [hE, pz_kds_app]
    simpa [pz_kd] using c2
  · intro k v hk
    rw [hE, pz_kds_app] at hk
    rw [r800]
    exact c3 k v (by simpa [pz_kd] using hk)
  · rw [hE, pz_lps_app, r21, d1]
    simp
  · rw [hE, pz_lps_app]
    simpa using d2
  · intro k v hk
    rw [hE, pz_lps_app] at hk
    rw [r801]
    exact d3 k v (by simpa using hk)
  · intro j hj
    rw [r27] at hj
    rw [r802, r10]
    by_cases hjj : j = (M 797 27).toNat
    · rw [if_pos hjj, r792, if_pos rfl]
      exact ⟨a1, by omega, rfl⟩
    · rw [if_neg hjj]
      obtain ⟨q1, q2, q3⟩ := f j (by omega)
      rw [r792, if_neg (by omega)]
      exact ⟨q1, by omega, q3⟩
  · intro e he
    rw [r10] at he
    rw [r792, r793, r799, r10]
    by_cases hee : e = (M 797 10).toNat
    · rw [if_pos hee, if_pos hee, if_pos hee]
      exact ⟨by decide, by decide, hw.1, hw.2, fun _ => ⟨hi.1, by omega⟩⟩
    · rw [if_neg hee, if_neg hee, if_neg hee]
      obtain ⟨q1, q2, q3, q4, q5⟩ := g e (by omega)
      exact ⟨q1, q2, q3, q4, fun h => ⟨(q5 h).1, by have := (q5 h).2; omega⟩⟩

