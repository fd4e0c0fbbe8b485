/-! what is printed of a tree is read as its events -/
theorem pz_drop_app {ls t r : List Int} {A : Nat} (h : ls.drop A = t ++ r) : ls.drop (A + t.length) = r := by
  rw [← List.drop_drop, h, List.drop_left]
theorem pz_te_f {ls : List Int} {a f : Int} (h : (pz_te ls a f).2.2 = -9) : f = -9 := by
  unfold pz_te at h
  split at h
  · rename_i hf; exact hf
  · exact h
theorem pz_nm_f {ls : List Int} {a f : Int} (h : (pz_nm ls a f).2.2 = -9) : f = -9 := by
  unfold pz_nm at h
  split at h
  · rename_i hf; exact hf
  · exact h
/-- what was read of a statement -/
def pz_got (ls : List Int) (P : pz_P) (A : Nat) (v0 : Int) : Prop :=
  (pz_n2 ls P.1 v0 ((A : Int) + 1)).1 = P.2.1 ∧ (pz_n1 ls P.1 v0 ((A : Int) + 1)).2.1 = ((A + 1 + (if P.1 = 1 then 1 else 0) : Nat) : Int) ∧ (pz_t1 ls P.1 v0 ((A : Int) + 1)).1 = (P.2.2.1.length : Int) ∧
  (pz_n2 ls P.1 v0 ((A : Int) + 1)).2.1 = ((A + 1 + (if P.1 = 1 then 1 else 0) + P.2.2.1.length + (if P.1 = 5 then 1 else 0) : Nat) : Int) ∧ (pz_t2 ls P.1 v0 ((A : Int) + 1)).1 = (P.2.2.2.length : Int) ∧
  (pz_t2 ls P.1 v0 ((A : Int) + 1)).2.1 = ((A + (pz_hd P).length : Nat) : Int) ∧ (pz_t2 ls P.1 v0 ((A : Int) + 1)).2.2 = -9
theorem pz_srt_lt {s v : Int} (hs : 0 ≤ s ∧ s ≤ 8) (hv : s = 0 → 0 ≤ v ∧ v ≤ 3) : pz_srt (pz_lt s v) = s := by
  obtain ⟨h0, h8⟩ := hs
  have : s = 0 ∨ s = 1 ∨ s = 2 ∨ s = 3 ∨ s = 4 ∨ s = 5 ∨ s = 6 ∨ s = 7 ∨ s = 8 := by omega
  rcases this with rfl | rfl | rfl | rfl | rfl | rfl | rfl | rfl | rfl
  · have hv := hv rfl
    unfold pz_lt pz_srt
    rw [if_pos rfl, if_neg (by omega), if_neg (by omega), if_neg (by omega), if_neg (by omega), if_neg (by omega), if_neg (by omega), if_neg (by omega), if_neg (by omega), if_pos (by omega)]
  all_goals rfl
theorem pz_got_of {ls rest : List Int} {P : pz_P} {A : Nat} (hP : pz_wfP P) (h : ls.drop A = pz_hd P ++ rest) : pz_got ls P A (if P.1 = 0 then pz_at ls A - 97 else 0) := by
  obtain ⟨s, v, tm, ot⟩ := P
  obtain ⟨⟨h0, h8⟩, hv, ht, ho⟩ := hP
  dsimp only at h0 h8 hv ht ho
  obtain ⟨hat, hd1, -⟩ := pz_at_drop (h.trans (List.cons_append ..))
  dsimp only at hat
  have e1 : (A : Int) + 1 = ((A + 1 : Nat) : Int) := rfl
  have hc : s = 0 ∨ s = 1 ∨ s = 2 ∨ s = 3 ∨ s = 4 ∨ s = 5 ∨ s = 6 ∨ s = 7 ∨ s = 8 := by omega
  unfold pz_got
  dsimp only
  rw [e1]
  rcases hc with rfl | rfl | rfl | rfl | rfl | rfl | rfl | rfl | rfl
  · simp at ht ho hd1
    have t1 := pz_te_go hd1 ht
    have ev : pz_at ls A - 97 = v := by rw [hat]; show 97 + v - 97 = v; omega
    push_cast at t1
    simp [pz_t2, pz_n2, pz_t1, pz_n1, t1, pz_hd, ho, ev]
    try omega
  · simp at ht ho hd1 hv
    subst ht
    subst ho
    have t1 := pz_nm_go (rest := rest) (by simpa using hd1) hv
    push_cast at t1
    simp [pz_t2, pz_n2, pz_t1, pz_n1, t1, pz_hd]
    try omega
  · simp at ht ho hd1 hv
    have t1 := pz_te_go hd1 ht
    push_cast at t1
    simp [pz_t2, pz_n2, pz_t1, pz_n1, t1, pz_hd, ho, hv]
    try omega
  · simp at ht ho hd1 hv
    have t1 := pz_te_go hd1 ht
    push_cast at t1
    simp [pz_t2, pz_n2, pz_t1, pz_n1, t1, pz_hd, ho, hv]
    try omega
  · simp at ht ho hv
    simp [pz_t2, pz_n2, pz_t1, pz_n1, pz_hd, ho, hv, ht]
    try omega
  · simp at ht ho hd1 hv
    have t1 := pz_te_go hd1 ht
    have d2 := pz_drop_app hd1
    have t2 := pz_nm_go d2 hv
    obtain ⟨-, d3, -⟩ := pz_at_drop d2
    have t3 := pz_te_go d3 ho
    push_cast at t1 t2 t3
    simp [pz_t2, pz_n2, pz_t1, pz_n1, t1, t2, t3, pz_hd]
    try omega
  · simp at ht ho hd1 hv
    have t1 := pz_te_go hd1 ht
    push_cast at t1
    simp [pz_t2, pz_n2, pz_t1, pz_n1, t1, pz_hd, ho, hv]
    try omega
  · simp at ht ho hd1 hv
    have t1 := pz_te_go hd1 ht
    have d2 := pz_drop_app hd1
    have t2 := pz_te_go d2 ho
    push_cast at t1 t2
    simp [pz_t2, pz_n2, pz_t1, pz_n1, t1, t2, pz_hd, hv]
    try omega
  · simp at ht ho hv
    simp [pz_t2, pz_n2, pz_t1, pz_n1, pz_hd, ho, hv, ht]
    try omega
theorem pz_got_ex {ls : List Int} {A : Nat} {its : Int} (h0 : 0 ≤ its ∧ its ≤ 8) (hA : A < ls.length) (hs : pz_srt (pz_at ls A) = its) (h : (pz_t2 ls its (if its = 0 then pz_at ls A - 97 else 0) ((A : Int) + 1)).2.2 = -9) : ∃ P : pz_P, P.1 = its ∧ pz_wfP P ∧ ls.drop A = pz_hd P ++ ls.drop (A + (pz_hd P).length) := by
  have e1 : (A : Int) + 1 = ((A + 1 : Nat) : Int) := rfl
  rw [e1] at h
  have hd := pz_drop_at hA
  have hlt : ∃ v, pz_at ls A = pz_lt its v ∧ (if its = 0 then 0 ≤ v ∧ v ≤ 3 else v = 0) ∧ (its = 0 → v = pz_at ls A - 97) := by
    unfold pz_srt at hs
    unfold pz_lt
    refine ⟨if its = 0 then pz_at ls A - 97 else 0, ?_⟩
    repeat' split at hs
    all_goals first
      | (subst hs; simp; omega)
      | (exfalso; omega)
  obtain ⟨v, hv1, hv2, hv3⟩ := hlt
  have hc : its = 0 ∨ its = 1 ∨ its = 2 ∨ its = 3 ∨ its = 4 ∨ its = 5 ∨ its = 6 ∨ its = 7 ∨ its = 8 := by omega
  have one : ∀ {B : Nat}, (pz_te ls (B : Int) (-9)).2.2 = -9 → ∃ t, pz_ist t ∧ ls.drop B = t ++ ls.drop (B + t.length) := fun {B} q => by
    obtain ⟨-, t, q1, q2⟩ := pz_te_ok (by omega) q
    rw [Int.toNat_natCast] at q2
    exact ⟨t, q1, q2⟩
  have two : ∀ {B : Nat}, (pz_nm ls (B : Int) (-9)).2.2 = -9 → ∃ v, (0 ≤ v ∧ v ≤ 3) ∧ ls.drop B = (97 + v) :: ls.drop (B + 1) := fun {B} q => by
    obtain ⟨-, t, q1, q2⟩ := pz_nm_ok (by omega) q
    rw [Int.toNat_natCast] at q2
    exact ⟨t, q1, q2⟩
  rcases hc with rfl | rfl | rfl | rfl | rfl | rfl | rfl | rfl | rfl
  · simp [pz_t2, pz_n2, pz_t1, pz_n1] at h hv2
    obtain ⟨t, q1, q2⟩ := one h
    refine ⟨(0, v, t, []), rfl, ⟨by simp, by simpa using hv2, by simpa using q1, by simp⟩, ?_⟩
    rw [hd, hv1]
    simp [pz_hd]
    rw [show A + (t.length + 1) = A + 1 + t.length by omega]
    exact q2
  · simp [pz_t2, pz_n2, pz_t1, pz_n1] at h hv2
    obtain ⟨w, q1, q2⟩ := two h
    refine ⟨(1, w, [], []), rfl, ⟨by simp, by simpa using q1, by simp, by simp⟩, ?_⟩
    rw [hd, hv1, hv2]
    simp [pz_hd]
    exact ⟨rfl, q2⟩
  · simp [pz_t2, pz_n2, pz_t1, pz_n1] at h hv2
    obtain ⟨t, q1, q2⟩ := one h
    refine ⟨(2, 0, t, []), rfl, ⟨by simp, by simp, by simpa using q1, by simp⟩, ?_⟩
    rw [hd, hv1, hv2]
    simp [pz_hd]
    rw [show A + (t.length + 1) = A + 1 + t.length by omega]
    exact q2
  · simp [pz_t2, pz_n2, pz_t1, pz_n1] at h hv2
    obtain ⟨t, q1, q2⟩ := one h
    refine ⟨(3, 0, t, []), rfl, ⟨by simp, by simp, by simpa using q1, by simp⟩, ?_⟩
    rw [hd, hv1, hv2]
    simp [pz_hd]
    rw [show A + (t.length + 1) = A + 1 + t.length by omega]
    exact q2
  · refine ⟨(4, 0, [], []), rfl, ⟨by simp, by simp, by simp, by simp⟩, ?_⟩
    rw [hd, hv1]
    simp [pz_hd]
    rfl
  · simp [pz_t2, pz_n2, pz_t1, pz_n1] at h hv2
    have f2 := pz_te_f h
    have f1 := pz_nm_f f2
    obtain ⟨t, q1, q2⟩ := one f1
    have t1 := pz_te_go q2 q1
    push_cast at t1
    rw [t1] at f2 h
    dsimp only at f2 h
    obtain ⟨w, q3, q4⟩ := two (B := A + 1 + t.length) (by push_cast; exact f2)
    have t2 := pz_nm_go q4 q3
    push_cast at t2
    rw [t2] at h
    dsimp only at h
    obtain ⟨u, q5, q6⟩ := one (B := A + 1 + t.length + 1) (by push_cast; exact h)
    refine ⟨(5, w, t, u), rfl, ⟨by simp, by simpa using q3, by simpa using q1, by simpa using q5⟩, ?_⟩
    rw [hd, hv1, hv2]
    simp [pz_hd]
    rw [show A + (t.length + (u.length + 1) + 1) = A + 1 + t.length + 1 + u.length by omega, ← q6, ← q4]
    exact ⟨rfl, q2⟩
  · simp [pz_t2, pz_n2, pz_t1, pz_n1] at h hv2
    obtain ⟨t, q1, q2⟩ := one h
    refine ⟨(6, 0, t, []), rfl, ⟨by simp, by simp, by simpa using q1, by simp⟩, ?_⟩
    rw [hd, hv1, hv2]
    simp [pz_hd]
    rw [show A + (t.length + 1) = A + 1 + t.length by omega]
    exact q2
  · simp [pz_t2, pz_n2, pz_t1, pz_n1] at h hv2
    have f1 := pz_te_f h
    obtain ⟨t, q1, q2⟩ := one f1
    have t1 := pz_te_go q2 q1
    push_cast at t1
    rw [t1] at h
    dsimp only at h
    obtain ⟨u, q5, q6⟩ := one (B := A + 1 + t.length) (by push_cast; exact h)
    refine ⟨(7, 0, t, u), rfl, ⟨by simp, by simp, by simpa using q1, by simpa using q5⟩, ?_⟩
    rw [hd, hv1, hv2]
    simp [pz_hd]
    rw [show A + (t.length + u.length + 1) = A + 1 + t.length + u.length by omega, ← q6]
    first
      | exact q2
      | exact ⟨rfl, q2⟩
  · refine ⟨(8, 0, [], []), rfl, ⟨by simp, by simp, by simp, by simp⟩, ?_⟩
    rw [hd, hv1]
    simp [pz_hd]
    rfl
/-- a statement that is there is read -/
theorem pz_stm_go {ls rest : List Int} {E : List pz_Ev} {op : List Nat} {P : pz_P} {A : Nat} (hP : pz_wfP P) (h : ls.drop A = pz_hd P ++ rest) : pz_stm ls E op (A : Int) P.1 = if 6 ≤ P.1 then pz_pop ls (E ++ [pz_evP P A (pz_kds E).length]) op ((A + (pz_hd P).length : Nat) : Int) (pz_w1 P.1) (E.length : Int) else .inr (E ++ [pz_evP P A (pz_kds E).length], op, ((A + (pz_hd P).length : Nat) : Int)) := by
  obtain ⟨g1, g2, g3, g4, g5, g6, g7⟩ := pz_got_of hP h
  unfold pz_stm
  rw [Int.toNat_natCast, if_pos g7, g1, g2, g3, g4, g5, g6]
  have h8 := hP.1
  by_cases h6 : 6 ≤ P.1
  · rw [if_pos h6, if_pos (by omega)]
    rfl
  · rw [if_neg h6, if_neg (by omega)]
    rfl
theorem pz_ne_nd (s : Nat) (P : pz_P) (v : Unit) (p : pz_T) (s' : Nat) (P' : pz_P) (v' : Unit) (a b : pz_T) : pz_ne (.inner s P v p (.inner s' P' v' a b)) = pz_ne p + (1 + (if 6 ≤ P.1 then 2 + (pz_ne a + (if P.1 = 7 then 0 else 2 + pz_ne b)) else 0)) := rfl
theorem pz_kn_nd (s : Nat) (P : pz_P) (v : Unit) (p : pz_T) (s' : Nat) (P' : pz_P) (v' : Unit) (a b : pz_T) : pz_kn (.inner s P v p (.inner s' P' v' a b)) = pz_kn p + ((pz_kd (P.1, 0, 0, 0, 0, 0, 0, 0)).length + (pz_kn a + pz_kn b)) := rfl
theorem pz_nl_nd (s : Nat) (P : pz_P) (v : Unit) (p : pz_T) (s' : Nat) (P' : pz_P) (v' : Unit) (a b : pz_T) : pz_nl (.inner s P v p (.inner s' P' v' a b)) = pz_nl p + ((if P.1 = 7 then 1 else 0) + (pz_nl a + pz_nl b)) := rfl
theorem pz_fl_nd (s : Nat) (P : pz_P) (v : Unit) (p : pz_T) (s' : Nat) (P' : pz_P) (v' : Unit) (a b : pz_T) (q e c : Nat) : pz_fl (.inner s P v p (.inner s' P' v' a b)) q e c = pz_fl p q e c ++ (pz_evP P (q + (pz_pr p).length) (c + pz_kn p) :: (if 6 ≤ P.1 then
      pz_eo (pz_w1 P.1) (e + pz_ne p) :: (pz_fl a (q + (pz_pr p).length + (pz_hd P).length + 1) (e + pz_ne p + 2) (c + pz_kn p + (pz_kd (P.1, 0, 0, 0, 0, 0, 0, 0)).length) ++ pz_ec (pz_w1 P.1) (e + pz_ne p) :: (if P.1 = 7 then [] else
      pz_eo (pz_w2 P.1) (e + pz_ne p) :: (pz_fl b (q + (pz_pr p).length + (pz_hd P).length + 1 + (pz_pr a).length + 2) (e + pz_ne p + 2 + pz_ne a + 2) (c + pz_kn p + (pz_kd (P.1, 0, 0, 0, 0, 0, 0, 0)).length + pz_kn a) ++ [pz_ec (pz_w2 P.1) (e + pz_ne p)]))) else [])) := rfl
theorem pz_pr_nd (s : Nat) (P : pz_P) (v : Unit) (p : pz_T) (s' : Nat) (P' : pz_P) (v' : Unit) (a b : pz_T) : pz_pr (.inner s P v p (.inner s' P' v' a b)) = pz_pr p ++ (pz_hd P ++ (if 6 ≤ P.1 then 40 :: (pz_pr a ++ 41 :: (if P.1 = 7 then [] else 40 :: (pz_pr b ++ [41]))) else [])) := rfl
theorem pz_fl_len : ∀ (t : pz_T) (q e c : Nat), (pz_fl t q e c).length = pz_ne t := by
  intro t
  induction t using pz_ind with
  | h0 => intro q e c; rfl
  | h1 s P v p s' P' v' a b ihp iha ihb =>
    intro q e c
    rw [pz_fl_nd, pz_ne_nd]
    rw [List.length_append, ihp, List.length_cons]
    split
    · split
      · simp [iha]; omega
      · simp [iha, ihb]; omega
    · simp
  | h2 s P v p => intro q e c; rfl
theorem pz_kds_app' (E F : List pz_Ev) : pz_kds (E ++ F) = pz_kds E ++ pz_kds F := by simp [pz_kds]
theorem pz_kds_cons (v : pz_Ev) (F : List pz_Ev) : pz_kds (v :: F) = pz_kd v ++ pz_kds F := by simp [pz_kds]
theorem pz_kd_eo (w : Int) (e : Nat) : pz_kd (pz_eo w e) = [] := rfl
theorem pz_kd_ec (w : Int) (e : Nat) : pz_kd (pz_ec w e) = [] := rfl
theorem pz_kd_evP (P : pz_P) (q c : Nat) : pz_kd (pz_evP P q c) = pz_kd (P.1, 0, 0, 0, 0, 0, 0, 0) := rfl
theorem pz_kds_fl : ∀ (t : pz_T), pz_wf t → ∀ (q e c : Nat), (pz_kds (pz_fl t q e c)).length = pz_kn t := by
  intro t
  induction t using pz_ind with
  | h0 => intro _ q e c; rfl
  | h1 s P v p s' P' v' a b ihp iha ihb =>
    intro hw q e c
    obtain ⟨w1, w2, w3, w4, w5, w6⟩ := hw
    rw [pz_fl_nd, pz_kn_nd]
    rw [pz_kds_app', List.length_append, ihp w1, pz_kds_cons, List.length_append, pz_kd_evP]
    by_cases h6 : 6 ≤ P.1
    · rw [if_pos h6, pz_kds_cons, pz_kd_eo, List.nil_append, pz_kds_app', List.length_append, iha w2, pz_kds_cons, pz_kd_ec, List.nil_append]
      by_cases h7 : P.1 = 7
      · rw [if_pos h7, w6 h7]
        rfl
      · rw [if_neg h7, pz_kds_cons, pz_kd_eo, List.nil_append, pz_kds_app', List.length_append, ihb w3, pz_kds_cons, pz_kd_ec]
        rfl
    · obtain ⟨ha, hb⟩ := w5 (by omega)
      rw [if_neg h6, ha, hb]
      rfl
  | h2 s P v p => intro hw; exact hw.elim
/-- loops among events -/
def pz_c7 (E : List pz_Ev) : Nat := (E.filter (fun v => decide (v.1 = 7))).length
theorem pz_lps_c7 (E : List pz_Ev) : (pz_lps E).length = pz_c7 E := by
  have key : ∀ n : Nat, n ≤ E.length → ((List.range n).filter (fun i => decide ((E.getD i (10, 0, 0, 0, 0, 0, 0, 0)).1 = 7))).length = pz_c7 (E.take n) := by
    intro n
    induction n with
    | zero => intro _; rfl
    | succ n ih =>
      intro hn
      rw [List.range_succ, List.filter_append, List.length_append, ih (by omega)]
      unfold pz_c7
      rw [List.take_add_one, List.filter_append, List.length_append, List.getElem?_eq_getElem (by omega)]
      have e : E.getD n (10, 0, 0, 0, 0, 0, 0, 0) = E[n] := by
        rw [List.getD_eq_getElem?_getD, List.getElem?_eq_getElem (by omega)]
        rfl
      congr 1
      by_cases h : E[n].1 = 7
      · rw [List.filter_cons_of_pos (p := fun i => decide ((E.getD i (10, 0, 0, 0, 0, 0, 0, 0)).1 = 7)) (decide_eq_true (show (E.getD n (10, 0, 0, 0, 0, 0, 0, 0)).1 = 7 by rw [e]; exact h))]
        simp [h]
      · rw [List.filter_cons_of_neg (p := fun i => decide ((E.getD i (10, 0, 0, 0, 0, 0, 0, 0)).1 = 7)) (fun q => h (by rw [← e]; exact of_decide_eq_true q))]
        simp [h]
  have := key E.length (Nat.le_refl _)
  rw [List.take_length] at this
  exact this
theorem pz_c7_app (E F : List pz_Ev) : pz_c7 (E ++ F) = pz_c7 E + pz_c7 F := by simp [pz_c7]
theorem pz_c7_cons (v : pz_Ev) (F : List pz_Ev) : pz_c7 (v :: F) = (if v.1 = 7 then 1 else 0) + pz_c7 F := by
  unfold pz_c7
  by_cases h : v.1 = 7
  · rw [List.filter_cons_of_pos (by simpa using h), if_pos h, List.length_cons]; omega
  · rw [List.filter_cons_of_neg (by simpa using h), if_neg h]; omega
theorem pz_c7_fl : ∀ (t : pz_T), pz_wf t → ∀ (q e c : Nat), pz_c7 (pz_fl t q e c) = pz_nl t := by
  intro t
  induction t using pz_ind with
  | h0 => intro _ q e c; rfl
  | h1 s P v p s' P' v' a b ihp iha ihb =>
    intro hw q e c
    obtain ⟨w1, w2, w3, w4, w5, w6⟩ := hw
    rw [pz_fl_nd, pz_nl_nd]
    rw [pz_c7_app, ihp w1, pz_c7_cons, show (pz_evP P (q + (pz_pr p).length) (c + pz_kn p)).1 = P.1 from rfl]
    by_cases h6 : 6 ≤ P.1
    · rw [if_pos h6, pz_c7_cons, pz_c7_app, iha w2, pz_c7_cons]
      by_cases h7 : P.1 = 7
      · rw [if_pos h7, if_pos h7, w6 h7]
        simp [pz_c7, pz_nl]
      · rw [if_neg h7, if_neg h7, pz_c7_cons, pz_c7_app, ihb w3, pz_c7_cons]
        simp [pz_c7]
    · obtain ⟨ha, hb⟩ := w5 (by omega)
      rw [if_neg h6, if_neg (by omega), ha, hb]
      rfl
  | h2 s P v p => intro hw; exact hw.elim
theorem pz_la_app {E F : List pz_Ev} {op : List Nat} (h : ∀ o ∈ op, o < E.length) : pz_la (E ++ F) op = pz_la E op := by
  unfold pz_la
  congr 1
  apply List.filter_congr
  intro o ho
  rw [List.getD_eq_getElem?_getD, List.getElem?_append_left (h o ho), ← List.getD_eq_getElem?_getD]
theorem pz_getD_mid {E F : List pz_Ev} {v : pz_Ev} : (E ++ v :: F).getD E.length pz_d0 = v := by
  rw [List.getD_eq_getElem?_getD, List.getElem?_append_right (Nat.le_refl _), Nat.sub_self]
  rfl
theorem pz_pop_go {ls rest : List Int} {E : List pz_Ev} {op : List Nat} {A : Nat} {w i : Int} (h : ls.drop A = 40 :: rest) : pz_pop ls E op (A : Int) w i = .inr (E ++ [(9, w, 0, 0, 0, 0, 0, i)], E.length :: op, ((A + 1 : Nat) : Int)) := by
  obtain ⟨h1, -, -⟩ := pz_at_drop h
  unfold pz_pop
  rw [Int.toNat_natCast, if_pos h1]
  rfl
/-- a turn that reads a statement -/
theorem pz_turn_go {ls rest : List Int} {E : List pz_Ev} {op : List Nat} {P : pz_P} {A : Nat} (hP : pz_wfP P) (h : ls.drop A = pz_hd P ++ rest) (h1 : (pz_kds E).length + (pz_kd (P.1, 0, 0, 0, 0, 0, 0, 0)).length ≤ 16) (h2 : P.1 = 7 → (pz_lps E).length < 4 ∧ pz_la E op < 2) : pz_turn ls E op (A : Int) = pz_stm ls E op (A : Int) P.1 := by
  obtain ⟨hat, -, -⟩ := pz_at_drop (h.trans (List.cons_append ..))
  have hs := pz_srt_lt (v := P.2.1) hP.1 (fun q => by have := hP.2.1; rw [if_pos (Or.inl q)] at this; exact this)
  have hk := pz_kd_len P.1
  have hP0 := hP.1
  unfold pz_turn
  cases op with
  | nil =>
    dsimp only
    rw [Int.toNat_natCast, hat, hs, if_pos ⟨by omega, by omega, fun q => ⟨by have := (h2 q).1; omega, by have := (h2 q).2; omega⟩⟩]
  | cons o op =>
    dsimp only
    rw [Int.toNat_natCast, hat, hs, if_neg (fun q => by rw [q] at hs; have : pz_srt 41 = -9 := rfl; omega), if_pos ⟨by omega, by omega, fun q => ⟨by have := (h2 q).1; omega, by have := (h2 q).2; omega⟩⟩]
/-- a turn that closes a block -/
theorem pz_turn_end {ls rest : List Int} {E : List pz_Ev} {o : Nat} {op : List Nat} {A : Nat} (h : ls.drop A = 41 :: rest) {w : Int} {i : Nat} (ho : E.getD o pz_d0 = pz_eo w i) : pz_turn ls E (o :: op) (A : Int) = if w = 0 ∨ w = 3 then pz_pop ls (E ++ [pz_ec w i]) op ((A + 1 : Nat) : Int) (if w = 0 then 1 else 4) (i : Int) else .inr (E ++ [pz_ec w i], op, ((A + 1 : Nat) : Int)) := by
  obtain ⟨hat, -, -⟩ := pz_at_drop h
  unfold pz_turn
  dsimp only
  rw [Int.toNat_natCast, if_pos hat, ho]
  rfl
