/-! events where they lie -/
def ev_at (M : ab_M) (e0 : Nat) (L : List pz_Ev) : Prop := ∀ (i : Nat) (v : pz_Ev), L[i]? = some v → pz_ev M (e0 + i) = v
theorem ev_at.app {M : ab_M} {e0 : Nat} {A B : List pz_Ev} (h : ev_at M e0 (A ++ B)) : ev_at M e0 A ∧ ev_at M (e0 + A.length) B := by
  refine ⟨fun i v hi => h i v ?_, fun i v hi => ?_⟩
  · have hl := (List.getElem?_eq_some_iff.1 hi).1
    rw [List.getElem?_append_left hl]; exact hi
  · have := h (A.length + i) v (by rw [List.getElem?_append_right (by omega), show A.length + i - A.length = i by omega]; exact hi)
    rw [show e0 + A.length + i = e0 + (A.length + i) by omega]
    exact this
theorem ev_at.cons {M : ab_M} {e0 : Nat} {v : pz_Ev} {B : List pz_Ev} (h : ev_at M e0 (v :: B)) : pz_ev M e0 = v ∧ ev_at M (e0 + 1) B := by
  refine ⟨h 0 v rfl, fun i w hi => ?_⟩
  have := h (i + 1) w hi
  rw [show e0 + 1 + i = e0 + (i + 1) by omega]
  exact this
/-- the events of a statement and of its blocks -/
def ev_nd (M : ab_M) (P : pz_P) (a b : pz_T) (e1 q c : Nat) : Prop := pz_ev M e1 = pz_evP P q c ∧ (6 ≤ P.1 → pz_ev M (e1 + 1) = pz_eo (pz_w1 P.1) e1 ∧ (∃ q' c', ev_at M (e1 + 2) (pz_fl a q' (e1 + 2) c')) ∧ pz_ev M (e1 + 2 + pz_ne a) = pz_ec (pz_w1 P.1) e1 ∧ (P.1 ≠ 7 → pz_ev M (e1 + 2 + pz_ne a + 1) = pz_eo (pz_w2 P.1) e1 ∧ (∃ q' c', ev_at M (e1 + 2 + pz_ne a + 2) (pz_fl b q' (e1 + 2 + pz_ne a + 2) c')) ∧ pz_ev M (e1 + 2 + pz_ne a + 2 + pz_ne b) = pz_ec (pz_w2 P.1) e1))
theorem ev_at.nd {M : ab_M} {s : Nat} {P : pz_P} {v : Unit} {t : pz_T} {s' : Nat} {P' : pz_P} {v' : Unit} {a b : pz_T} {q e c : Nat} (h : ev_at M e (pz_fl (.inner s P v t (.inner s' P' v' a b)) q e c)) : ev_at M e (pz_fl t q e c) ∧ ev_nd M P a b (e + pz_ne t) (q + (pz_pr t).length) (c + pz_kn t) := by
  have h : ev_at M e (pz_fl t q e c ++ (pz_evP P (q + (pz_pr t).length) (c + pz_kn t) :: (if 6 ≤ P.1 then
      pz_eo (pz_w1 P.1) (e + pz_ne t) :: (pz_fl a (q + (pz_pr t).length + (pz_hd P).length + 1) (e + pz_ne t + 2) (c + pz_kn t + (pz_kd (P.1, 0, 0, 0, 0, 0, 0, 0)).length) ++ pz_ec (pz_w1 P.1) (e + pz_ne t) :: (if P.1 = 7 then [] else
      pz_eo (pz_w2 P.1) (e + pz_ne t) :: (pz_fl b (q + (pz_pr t).length + (pz_hd P).length + 1 + (pz_pr a).length + 2) (e + pz_ne t + 2 + pz_ne a + 2) (c + pz_kn t + (pz_kd (P.1, 0, 0, 0, 0, 0, 0, 0)).length + pz_kn a) ++ [pz_ec (pz_w2 P.1) (e + pz_ne t)]))) else []))) := h
  obtain ⟨h1, h2⟩ := h.app
  rw [pz_fl_len] at h2
  obtain ⟨h3, h4⟩ := h2.cons
  refine ⟨h1, h3, fun h6 => ?_⟩
  rw [if_pos h6] at h4
  obtain ⟨h5, h7⟩ := h4.cons
  obtain ⟨h8, h9⟩ := h7.app
  rw [pz_fl_len] at h9
  obtain ⟨h10, h11⟩ := h9.cons
  refine ⟨h5, ⟨_, _, h8⟩, h10, fun hn7 => ?_⟩
  rw [if_neg hn7] at h11
  obtain ⟨h12, h13⟩ := h11.cons
  obtain ⟨h14, h15⟩ := h13.app
  rw [pz_fl_len] at h15
  exact ⟨h12, ⟨_, _, h14⟩, h15.cons.1⟩
/-- what an event says of the cells -/
theorem pz_ev_s {M : ab_M} {e : Nat} {P : pz_P} {q c : Nat} (h8 : P.1 ≤ 8) (h : pz_ev M e = pz_evP P q c) : M 805 e = P.1 ∧ M 806 e = P.2.1 ∧ M 807 e = (pz_evP P q c).2.2.1 ∧ M 808 e = (P.2.2.1.length : Int) ∧ M 809 e = (pz_evP P q c).2.2.2.2.1 ∧ M 810 e = (P.2.2.2.length : Int) ∧ M 811 e = (c : Int) := by
  unfold pz_ev at h
  split at h
  · exact ⟨congrArg (fun v : pz_Ev => v.1) h, congrArg (fun v : pz_Ev => v.2.1) h, congrArg (fun v : pz_Ev => v.2.2.1) h, congrArg (fun v : pz_Ev => v.2.2.2.1) h, congrArg (fun v : pz_Ev => v.2.2.2.2.1) h, congrArg (fun v : pz_Ev => v.2.2.2.2.2.1) h, congrArg (fun v : pz_Ev => v.2.2.2.2.2.2.1) h⟩
  · rename_i g
    have : M 805 e = P.1 := congrArg (fun v : pz_Ev => v.1) h
    omega
theorem pz_ev_o {M : ab_M} {e w0 : Nat} {w : Int} (h : pz_ev M e = pz_eo w w0) : M 805 e = 9 ∧ M 806 e = w ∧ M 812 e = (w0 : Int) := by
  unfold pz_ev at h
  split at h
  · rename_i g
    have : M 805 e = 9 := congrArg (fun v : pz_Ev => v.1) h
    omega
  · exact ⟨congrArg (fun v : pz_Ev => v.1) h, congrArg (fun v : pz_Ev => v.2.1) h, congrArg (fun v : pz_Ev => v.2.2.2.2.2.2.2) h⟩
theorem pz_ev_c {M : ab_M} {e w0 : Nat} {w : Int} (h : pz_ev M e = pz_ec w w0) : M 805 e = 10 ∧ M 806 e = w ∧ M 812 e = (w0 : Int) := by
  unfold pz_ev at h
  split at h
  · rename_i g
    have : M 805 e = 10 := congrArg (fun v : pz_Ev => v.1) h
    omega
  · exact ⟨congrArg (fun v : pz_Ev => v.1) h, congrArg (fun v : pz_Ev => v.2.1) h, congrArg (fun v : pz_Ev => v.2.2.2.2.2.2.2) h⟩
/-! what the events of a program are like -/
/-- events of a tree, one by one: their numbers, and what is open before each -/
def ev_tA (M : ab_M) (e0 n : Nat) (top d : Int) : Prop := ∀ i : Nat, i < n → (0 ≤ M 805 (e0 + i) ∧ M 805 (e0 + i) ≤ 10) ∧ (0 ≤ M 806 (e0 + i) ∧ M 806 (e0 + i) ≤ 4) ∧ ((M 805 (e0 + i) = 0 ∨ M 805 (e0 + i) = 1 ∨ M 805 (e0 + i) = 5) → M 806 (e0 + i) ≤ 3) ∧ (9 ≤ M 805 (e0 + i) → (e0 : Int) ≤ M 812 (e0 + i) ∧ M 812 (e0 + i) < ((e0 + i : Nat) : Int)) ∧ (M 805 (e0 + i) ≤ 8 → (0 ≤ M 808 (e0 + i) ∧ M 808 (e0 + i) ≤ top) ∧ (0 ≤ M 810 (e0 + i) ∧ M 810 (e0 + i) ≤ top)) ∧ (M 805 (e0 + i) = 7 → ∃ ce : Nat, e0 + i < ce ∧ ce < e0 + n ∧ M 805 ce = 10 ∧ M 812 ce = ((e0 + i : Nat) : Int))
/-- all terms have at most so many letters -/
def pz_tb (top : Int) : pz_T → Prop
  | .leaf => True
  | .inner _ P _ t (.inner _ _ _ a b) => pz_tb top t ∧ pz_tb top a ∧ pz_tb top b ∧ ((P.2.2.1.length : Nat) : Int) ≤ top ∧ ((P.2.2.2.length : Nat) : Int) ≤ top
  | .inner _ _ _ _ .leaf => False
theorem ev_tA.app {M : ab_M} {e0 n m : Nat} {top d d' : Int} (h : ev_tA M e0 n top d) (h' : ∀ i : Nat, n ≤ i → i < n + m → (0 ≤ M 805 (e0 + i) ∧ M 805 (e0 + i) ≤ 10) ∧ (0 ≤ M 806 (e0 + i) ∧ M 806 (e0 + i) ≤ 4) ∧ ((M 805 (e0 + i) = 0 ∨ M 805 (e0 + i) = 1 ∨ M 805 (e0 + i) = 5) → M 806 (e0 + i) ≤ 3) ∧ (9 ≤ M 805 (e0 + i) → (e0 : Int) ≤ M 812 (e0 + i) ∧ M 812 (e0 + i) < ((e0 + i : Nat) : Int)) ∧ (M 805 (e0 + i) ≤ 8 → (0 ≤ M 808 (e0 + i) ∧ M 808 (e0 + i) ≤ top) ∧ (0 ≤ M 810 (e0 + i) ∧ M 810 (e0 + i) ≤ top)) ∧ (M 805 (e0 + i) = 7 → ∃ ce : Nat, e0 + i < ce ∧ ce < e0 + (n + m) ∧ M 805 ce = 10 ∧ M 812 ce = ((e0 + i : Nat) : Int))) : ev_tA M e0 (n + m) top d' := fun i hi => by
  by_cases c : i < n
  · obtain ⟨a1, a2, a3, a4, a5, a6⟩ := h i c
    refine ⟨a1, a2, a3, a4, a5, fun q => ?_⟩
    obtain ⟨ce, c1, c2, c3⟩ := a6 q
    exact ⟨ce, c1, by omega, c3⟩
  · exact h' i (by omega) hi
theorem ev_at.tA {M : ab_M} {top : Int} : ∀ (t : pz_T), pz_wf t → pz_tb top t → ∀ (q e c : Nat), ev_at M e (pz_fl t q e c) → ev_tA M e (pz_ne t) top 0 := by
  intro t
  induction t using pz_ind with
  | h0 => intro _ _ q e c _ i hi; exact absurd hi (Nat.not_lt_zero i)
  | h2 s P v t => intro h; exact h.elim
  | h1 s P v t s' P' v' a b iht iha ihb =>
    intro hw hb q e c h
    obtain ⟨w1, w2, w3, w4, w5, w6⟩ := hw
    obtain ⟨b1, b2, b3, b4, b5⟩ := hb
    obtain ⟨h1, h2, h3⟩ := h.nd
    have ht := iht w1 b1 q e c h1
    rw [pz_ne_nd]
    have hP := pz_ev_s (by have := w4.1; omega) h2
    have hp1 := w4.1
    refine ht.app (d := 0) fun i hi1 hi2 => ?_
    have hv : (0 ≤ P.2.1 ∧ P.2.1 ≤ 3) ∧ (P.1 ≠ 0 → P.1 ≠ 1 → P.1 ≠ 5 → P.2.1 = 0) := by
      have := w4.2.1
      by_cases z : P.1 = 0 ∨ P.1 = 1 ∨ P.1 = 5
      · rw [if_pos z] at this; exact ⟨this, fun z1 z2 z3 => absurd z (by omega)⟩
      · rw [if_neg z] at this; exact ⟨by omega, fun _ _ _ => this⟩
    by_cases c0 : i = pz_ne t
    · subst c0
      obtain ⟨p1, p2, -, p4, -, p6, -⟩ := hP
      refine ⟨by omega, by omega, fun _ => by omega, fun z => by omega, fun _ => ⟨by omega, by omega⟩, fun z => ?_⟩
      have h6 : 6 ≤ P.1 := by omega
      obtain ⟨-, -, g3, -⟩ := h3 h6
      obtain ⟨g4, g5, g6⟩ := pz_ev_c g3
      exact ⟨e + pz_ne t + 2 + pz_ne a, by omega, by rw [if_pos h6]; split <;> omega, g4, g6⟩
    · have h6 : 6 ≤ P.1 := by
        refine Classical.byContradiction fun z => ?_
        rw [if_neg z] at hi2
        omega
      rw [if_pos h6] at hi2 ⊢
      obtain ⟨g1, ⟨qa, ca, g2⟩, g3, g4⟩ := h3 h6
      obtain ⟨o1, o2, o3⟩ := pz_ev_o g1
      obtain ⟨l1, l2, l3⟩ := pz_ev_c g3
      have hw1 : 0 ≤ pz_w1 P.1 ∧ pz_w1 P.1 ≤ 4 := by unfold pz_w1; split <;> first | (exact ⟨by decide, by decide⟩) | (split <;> exact ⟨by decide, by decide⟩)
      have hw2 : 0 ≤ pz_w2 P.1 ∧ pz_w2 P.1 ≤ 4 := by unfold pz_w2; split <;> exact ⟨by decide, by decide⟩
      by_cases c1 : i = pz_ne t + 1
      · subst c1
        rw [show e + (pz_ne t + 1) = e + pz_ne t + 1 by omega]
        exact ⟨by omega, by omega, fun z => by omega, fun _ => by omega, fun z => by omega, fun z => by omega⟩
      · by_cases c2 : i < pz_ne t + 2 + pz_ne a
        · have := iha w2 b2 qa (e + pz_ne t + 2) ca g2 (i - (pz_ne t + 2)) (by omega)
          rw [show e + pz_ne t + 2 + (i - (pz_ne t + 2)) = e + i by omega] at this
          obtain ⟨a1, a2, a3, a4, a5, a6⟩ := this
          refine ⟨a1, a2, a3, fun z => by have := a4 z; omega, a5, fun z => ?_⟩
          obtain ⟨ce, x1, x2, x3⟩ := a6 z
          exact ⟨ce, x1, by omega, x3⟩
        · by_cases c3 : i = pz_ne t + 2 + pz_ne a
          · subst c3
            rw [show e + (pz_ne t + 2 + pz_ne a) = e + pz_ne t + 2 + pz_ne a by omega]
            exact ⟨by omega, by omega, fun z => by omega, fun _ => by omega, fun z => by omega, fun z => by omega⟩
          · have h7 : P.1 ≠ 7 := fun z => by rw [if_pos z] at hi2; omega
            rw [if_neg h7] at hi2 ⊢
            obtain ⟨g5, ⟨qb, cb, g6⟩, g7⟩ := g4 h7
            obtain ⟨o4, o5, o6⟩ := pz_ev_o g5
            obtain ⟨l4, l5, l6⟩ := pz_ev_c g7
            by_cases c4 : i = pz_ne t + 2 + pz_ne a + 1
            · subst c4
              rw [show e + (pz_ne t + 2 + pz_ne a + 1) = e + pz_ne t + 2 + pz_ne a + 1 by omega]
              exact ⟨by omega, by omega, fun z => by omega, fun _ => by omega, fun z => by omega, fun z => by omega⟩
            · by_cases c5 : i < pz_ne t + 2 + pz_ne a + 2 + pz_ne b
              · have := ihb w3 b3 qb (e + pz_ne t + 2 + pz_ne a + 2) cb g6 (i - (pz_ne t + 2 + pz_ne a + 2)) (by omega)
                rw [show e + pz_ne t + 2 + pz_ne a + 2 + (i - (pz_ne t + 2 + pz_ne a + 2)) = e + i by omega] at this
                obtain ⟨a1, a2, a3, a4, a5, a6⟩ := this
                refine ⟨a1, a2, a3, fun z => by have := a4 z; omega, a5, fun z => ?_⟩
                obtain ⟨ce, x1, x2, x3⟩ := a6 z
                exact ⟨ce, x1, by omega, x3⟩
              · have c6 : i = pz_ne t + 2 + pz_ne a + 2 + pz_ne b := by omega
                subst c6
                rw [show e + (pz_ne t + 2 + pz_ne a + 2 + pz_ne b) = e + pz_ne t + 2 + pz_ne a + 2 + pz_ne b by omega]
                exact ⟨by omega, by omega, fun z => by omega, fun _ => by omega, fun z => by omega, fun z => by omega⟩
/-- what is open, what is thrown, over a tree's events -/
theorem ev_at.dm {M : ab_M} : ∀ (t : pz_T), pz_wf t → ∀ (q e c : Nat), ev_at M e (pz_fl t q e c) → (∀ i : Nat, i ≤ pz_ne t → ev_dm M e ≤ ev_dm M (e + i) ∧ ev_dm M (e + i) ≤ ev_dm M e + ((pz_ht t : Nat) : Int)) ∧ ev_dm M (e + pz_ne t) = ev_dm M e ∧ ev_tm M (e + pz_ne t) ≤ ev_tm M e + ((pz_sz t : Nat) : Int) := by
  intro t
  induction t using pz_ind with
  | h0 =>
    intro _ q e c _
    refine ⟨fun i hi => ?_, rfl, ?_⟩
    · have hi : i ≤ 0 := hi
      rw [show i = 0 by omega]
      exact ⟨Int.le_refl _, by show ev_dm M e ≤ ev_dm M e + ((0 : Nat) : Int); omega⟩
    · show ev_tm M e ≤ ev_tm M e + ((0 : Nat) : Int)
      omega
  | h2 s P v t => intro h; exact h.elim
  | h1 s P v t s' P' v' a b iht iha ihb =>
    intro hw q e c h
    obtain ⟨w1, w2, w3, w4, w5, w6⟩ := hw
    obtain ⟨h1, h2, h3⟩ := h.nd
    obtain ⟨t1, t2, t3⟩ := iht w1 q e c h1
    have hP := pz_ev_s (by have := w4.1; omega) h2
    have hp1 := w4.1
    have hht : pz_ht t ≤ pz_ht (.inner s P v t (.inner s' P' v' a b)) ∧ pz_ht a + 1 ≤ pz_ht (.inner s P v t (.inner s' P' v' a b)) ∧ pz_ht b + 1 ≤ pz_ht (.inner s P v t (.inner s' P' v' a b)) := ⟨Nat.le_max_left _ _, Nat.le_trans (Nat.succ_le_succ (Nat.le_max_left _ _)) (Nat.le_max_right _ _), Nat.le_trans (Nat.succ_le_succ (Nat.le_max_right _ _)) (Nat.le_max_right _ _)⟩
    obtain ⟨hh1, hh2, hh3⟩ := hht
    generalize pz_ht (.inner s P v t (.inner s' P' v' a b)) = H at hh1 hh2 hh3 ⊢
    rw [pz_ne_nd, pz_sz_nd]
    have sdm : ∀ i, ev_dm M (i + 1) = ev_dm M i + (if M 805 i = 9 then 1 else if M 805 i = 10 then -1 else 0) := fun _ => rfl
    have stm : ∀ i, ev_tm M (i + 1) = ev_tm M i + (if M 805 i = 4 then 1 else 0) := fun _ => rfl
    have d1 : ev_dm M (e + pz_ne t + 1) = ev_dm M e := by rw [sdm, if_neg (by omega), if_neg (by omega)]; omega
    have u1 : ev_tm M (e + pz_ne t + 1) ≤ ev_tm M e + ((pz_sz t : Nat) : Int) + 1 := by rw [stm]; split <;> omega
    by_cases h6 : 6 ≤ P.1
    · rw [if_pos h6]
      have u1 : ev_tm M (e + pz_ne t + 1) ≤ ev_tm M e + ((pz_sz t : Nat) : Int) := by rw [stm, if_neg (by omega)]; omega
      obtain ⟨g1, ⟨qa, ca, g2⟩, g3, g4⟩ := h3 h6
      obtain ⟨o1, o2, o3⟩ := pz_ev_o g1
      obtain ⟨l1, l2, l3⟩ := pz_ev_c g3
      obtain ⟨a1, a2, a3⟩ := iha w2 qa (e + pz_ne t + 2) ca g2
      have d2 : ev_dm M (e + pz_ne t + 2) = ev_dm M e + 1 := by rw [sdm, if_pos o1]; omega
      have u2 : ev_tm M (e + pz_ne t + 2) = ev_tm M (e + pz_ne t + 1) := by rw [stm, if_neg (by omega)]; omega
      have d3 : ev_dm M (e + pz_ne t + 2 + pz_ne a + 1) = ev_dm M e := by rw [sdm, if_neg (by omega), if_pos l1]; omega
      have u3 : ev_tm M (e + pz_ne t + 2 + pz_ne a + 1) = ev_tm M (e + pz_ne t + 2 + pz_ne a) := by rw [stm, if_neg (by omega)]; omega
      have low : ∀ i : Nat, i ≤ pz_ne t + 2 + pz_ne a + 1 → ev_dm M e ≤ ev_dm M (e + i) ∧ ev_dm M (e + i) ≤ ev_dm M e + (H : Int) := fun i hi => by
        by_cases c0 : i ≤ pz_ne t
        · have := t1 i c0; omega
        · by_cases c1 : i = pz_ne t + 1
          · subst c1; rw [show e + (pz_ne t + 1) = e + pz_ne t + 1 by omega]; omega
          · by_cases c2 : i ≤ pz_ne t + 2 + pz_ne a
            · have := a1 (i - (pz_ne t + 2)) (by omega)
              rw [show e + pz_ne t + 2 + (i - (pz_ne t + 2)) = e + i by omega] at this
              omega
            · have c3 : i = pz_ne t + 2 + pz_ne a + 1 := by omega
              subst c3; rw [show e + (pz_ne t + 2 + pz_ne a + 1) = e + pz_ne t + 2 + pz_ne a + 1 by omega]; omega
      by_cases h7 : P.1 = 7
      · rw [if_pos h7]
        refine ⟨fun i hi => low i (by omega), ?_, ?_⟩
        · rw [show e + (pz_ne t + (1 + (2 + (pz_ne a + 0)))) = e + pz_ne t + 2 + pz_ne a + 1 by omega]; exact d3
        · rw [show e + (pz_ne t + (1 + (2 + (pz_ne a + 0)))) = e + pz_ne t + 2 + pz_ne a + 1 by omega]; omega
      · rw [if_neg h7]
        obtain ⟨g5, ⟨qb, cb, g6⟩, g7⟩ := g4 h7
        obtain ⟨o4, o5, o6⟩ := pz_ev_o g5
        obtain ⟨l4, l5, l6⟩ := pz_ev_c g7
        obtain ⟨b1, b2, b3⟩ := ihb w3 qb (e + pz_ne t + 2 + pz_ne a + 2) cb g6
        have d4 : ev_dm M (e + pz_ne t + 2 + pz_ne a + 2) = ev_dm M e + 1 := by rw [sdm, if_pos o4]; omega
        have u4 : ev_tm M (e + pz_ne t + 2 + pz_ne a + 2) = ev_tm M (e + pz_ne t + 2 + pz_ne a + 1) := by rw [stm, if_neg (by omega)]; omega
        have d5 : ev_dm M (e + pz_ne t + 2 + pz_ne a + 2 + pz_ne b + 1) = ev_dm M e := by rw [sdm, if_neg (by omega), if_pos l4]; omega
        have u5 : ev_tm M (e + pz_ne t + 2 + pz_ne a + 2 + pz_ne b + 1) = ev_tm M (e + pz_ne t + 2 + pz_ne a + 2 + pz_ne b) := by rw [stm, if_neg (by omega)]; omega
        refine ⟨fun i hi => ?_, ?_, ?_⟩
        · by_cases c0 : i ≤ pz_ne t + 2 + pz_ne a + 1
          · exact low i c0
          · by_cases c1 : i ≤ pz_ne t + 2 + pz_ne a + 2 + pz_ne b
            · have := b1 (i - (pz_ne t + 2 + pz_ne a + 2)) (by omega)
              rw [show e + pz_ne t + 2 + pz_ne a + 2 + (i - (pz_ne t + 2 + pz_ne a + 2)) = e + i by omega] at this
              omega
            · have c3 : i = pz_ne t + 2 + pz_ne a + 2 + pz_ne b + 1 := by omega
              subst c3; rw [show e + (pz_ne t + 2 + pz_ne a + 2 + pz_ne b + 1) = e + pz_ne t + 2 + pz_ne a + 2 + pz_ne b + 1 by omega]; omega
        · rw [show e + (pz_ne t + (1 + (2 + (pz_ne a + (2 + pz_ne b))))) = e + pz_ne t + 2 + pz_ne a + 2 + pz_ne b + 1 by omega]; exact d5
        · rw [show e + (pz_ne t + (1 + (2 + (pz_ne a + (2 + pz_ne b))))) = e + pz_ne t + 2 + pz_ne a + 2 + pz_ne b + 1 by omega]; omega
    · rw [if_neg h6]
      refine ⟨fun i hi => ?_, ?_, ?_⟩
      · by_cases c0 : i ≤ pz_ne t
        · have := t1 i c0; omega
        · have c1 : i = pz_ne t + 1 := by omega
          subst c1; rw [show e + (pz_ne t + 1) = e + pz_ne t + 1 by omega]; omega
      · rw [show e + (pz_ne t + (1 + 0)) = e + pz_ne t + 1 by omega]; exact d1
      · rw [show e + (pz_ne t + (1 + 0)) = e + pz_ne t + 1 by omega]; omega
/-- the events of a program that was read are such -/
theorem ev_A_of {M : ab_M} {t : pz_T} (hw : pz_wf t) (hE : pz_E M = pz_fl t 0 0 0) (h10 : 0 ≤ M 797 10 ∧ M 797 10 ≤ 400) (hb : pz_tb 640 t) (hh : pz_ht t ≤ 120) (hs : pz_sz t ≤ 120) : ev_at M 0 (pz_fl t 0 0 0) ∧ M 797 10 = ((pz_ne t : Nat) : Int) ∧ ev_A M := by
  have hlen : (M 797 10).toNat = pz_ne t := by rw [← pz_E_len, hE, pz_fl_len]
  have hat : ev_at M 0 (pz_fl t 0 0 0) := fun i v hi => by
    rw [← hE] at hi
    unfold pz_E at hi
    rw [List.getElem?_map] at hi
    obtain ⟨x, hx, rfl⟩ := Option.map_eq_some_iff.1 hi
    obtain ⟨hl, hx2⟩ := List.getElem?_eq_some_iff.1 hx
    rw [List.getElem_range] at hx2
    rw [← hx2, Nat.zero_add]
  have hA := hat.tA t hw hb 0 0 0
  obtain ⟨d1, d2, d3⟩ := hat.dm t hw 0 0 0
  refine ⟨hat, by omega, h10, fun i hi => ?_, fun i hi => ?_, ?_⟩
  · have := hA i (by omega)
    simp only [Nat.zero_add] at this
    obtain ⟨a1, a2, a3, a4, a5, a6⟩ := this
    refine ⟨a1, a2, a3, fun z => by have := a4 z; omega, a5, fun z => ?_⟩
    obtain ⟨ce, c1, c2, c3, c4⟩ := a6 z
    exact ⟨ce, c1, by omega, c3, c4⟩
  · have := d1 i (by omega)
    rw [Nat.zero_add] at this
    have h0 : ev_dm M 0 = 0 := rfl
    omega
  · have h0 : ev_tm M 0 = 0 := rfl
    rw [Nat.zero_add] at d3
    rw [hlen]
    omega
