/-! what the rows of a tree's code are like -/
def ci_ok (I : co_I) (lo hi c0 c1 : Nat) : Prop := (0 ≤ I.1 ∧ I.1 ≤ 6) ∧ (I.1 ≤ 1 → 0 ≤ I.2.1 ∧ I.2.1 ≤ 3) ∧ (I.1 = 0 ∨ I.1 = 2 ∨ I.1 = 3 ∨ I.1 = 4 → pz_ist I.2.2.1) ∧ (I.1 = 2 → (c0 : Int) ≤ I.2.1 ∧ I.2.1 < (c1 : Int)) ∧ (I.1 = 4 ∨ I.1 = 5 → I.2.2.2.2 = false → (lo : Int) ≤ I.2.2.2.1 ∧ I.2.2.2.1 ≤ (hi : Int)) ∧ (I.2.2.2.2 = true → I.1 = 5 ∧ I.2.2.2.1 = -1)
theorem ci_ok.wd {I : co_I} {lo hi c0 c1 lo' hi' c0' c1' : Nat} (h : ci_ok I lo hi c0 c1) (h1 : lo' ≤ lo) (h2 : hi ≤ hi') (h3 : c0' ≤ c0) (h4 : c1 ≤ c1') : ci_ok I lo' hi' c0' c1' := by
  obtain ⟨a1, a2, a3, a4, a5, a6⟩ := h
  exact ⟨a1, a2, a3, fun z => by have := a4 z; omega, fun z y => by have := a5 z y; omega, a6⟩
theorem ci_pa {κ : Int} {L : List co_I} {lo hi c0 c1 : Nat} (h : ∀ I ∈ L, ci_ok I lo hi c0 c1) (hκ : (lo : Int) ≤ κ ∧ κ ≤ (hi : Int)) : ∀ I ∈ co_pa κ L, ci_ok I lo hi c0 c1 := fun I hI => by
  unfold co_pa at hI
  obtain ⟨J, j1, j2⟩ := List.mem_map.1 hI
  have hJ := h J j1
  by_cases z : J.2.2.2.2 = true
  · rw [if_pos z] at j2
    rw [← j2]
    obtain ⟨a1, a2, a3, a4, a5, a6⟩ := hJ
    exact ⟨a1, a2, a3, a4, fun _ _ => hκ, fun y => by cases y⟩
  · rw [if_neg z] at j2
    rw [← j2]; exact hJ
theorem ci_x {op q t : Int} {w : List Int} {lo hi c0 c1 : Nat} (h1 : 0 ≤ op ∧ op ≤ 6) (h2 : op ≤ 1 → 0 ≤ q ∧ q ≤ 3) (h3 : op = 0 ∨ op = 2 ∨ op = 3 ∨ op = 4 → pz_ist w) (h4 : op = 2 → (c0 : Int) ≤ q ∧ q < (c1 : Int)) (h5 : op = 4 ∨ op = 5 → (lo : Int) ≤ t ∧ t ≤ (hi : Int)) : ci_ok (op, q, w, t, false) lo hi c0 c1 :=
  ⟨h1, h2, h3, h4, fun z _ => h5 z, fun z => by cases z⟩
theorem ci_h {mk : Int} {lo hi c0 c1 : Nat} : ∀ k : Nat, k ≤ 4 → ∀ I ∈ (em_h mk k).map co_of, ci_ok I lo hi c0 c1 := by
  intro k
  induction k with
  | zero => intro _ I hI; exact absurd hI List.not_mem_nil
  | succ k ih =>
    intro hk I hI
    unfold em_h at hI
    rw [List.map_append] at hI
    rcases List.mem_append.1 hI with y | y
    · exact ih (by omega) I y
    · split at y
      · rw [List.map_singleton, List.mem_singleton] at y
        rw [y]
        exact ci_x (op := 1) (q := (k : Int)) (w := []) (t := 0) ⟨by decide, by decide⟩ (fun _ => ⟨by omega, by omega⟩) (fun z => absurd z (by decide)) (fun z => absurd z (by decide)) (fun z => absurd z (by decide))
      · exact absurd y List.not_mem_nil
theorem ci_P {md : Int} {P : pz_P} {mk : Int} {A B : Nat → List co_I} {r c c0 c1 : Nat} (hP : pz_wfP P) (hA : ∀ r' I, I ∈ A r' → ci_ok I r' (r' + (A r').length) c0 c1) (hB : ∀ r' I, I ∈ B r' → ci_ok I r' (r' + (B r').length) c0 c1) (hc0 : c0 ≤ c) (hc : c + (pz_kd (P.1, 0, 0, 0, 0, 0, 0, 0)).length ≤ c1) :
    ∀ I ∈ co_P md P mk A B r c, ci_ok I r (r + (co_P md P mk A B r c).length) c0 c1 := by
  obtain ⟨⟨p0, p8⟩, pv, pw1, pw2⟩ := hP
  have k2 : P.1 = 2 → c + 1 ≤ c1 := fun z => by rw [z] at hc; exact hc
  have k5 : P.1 = 5 → c + 1 ≤ c1 := fun z => by rw [z] at hc; exact hc
  have k7 : P.1 = 7 → c + 2 ≤ c1 := fun z => by rw [z] at hc; exact hc
  clear hc
  have u1 : P.1 = 0 ∨ P.1 = 2 ∨ P.1 = 3 ∨ P.1 = 5 ∨ P.1 = 6 ∨ P.1 = 7 → pz_ist P.2.2.1 := fun z => by
    rw [if_neg (by omega)] at pw1; exact pw1
  have u2 : P.1 = 5 ∨ P.1 = 7 → pz_ist P.2.2.2 := fun z => by rw [if_pos z] at pw2; exact pw2
  have uv : P.1 = 0 ∨ P.1 = 1 ∨ P.1 = 5 → 0 ≤ P.2.1 ∧ P.2.1 ≤ 3 := fun z => by rw [if_pos z] at pv; exact pv
  clear pv pw1 pw2
  unfold co_P
  by_cases q0 : P.1 = 0
  · rw [if_pos q0]
    intro I hI
    rw [List.mem_singleton] at hI
    rw [hI]
    exact ci_x ⟨by decide, by decide⟩ (fun _ => uv (.inl q0)) (fun _ => u1 (.inl q0)) (fun z => absurd z (by decide)) (fun z => absurd z (by decide))
  · rw [if_neg q0]
    by_cases q1 : P.1 = 1
    · rw [if_pos q1]
      intro I hI
      rw [List.mem_singleton] at hI
      rw [hI]
      exact ci_x ⟨by decide, by decide⟩ (fun _ => uv (.inr (.inl q1))) (fun z => absurd z (by decide)) (fun z => absurd z (by decide)) (fun z => absurd z (by decide))
    · rw [if_neg q1]
      by_cases q2 : P.1 = 2
      · rw [if_pos q2]
        intro I hI
        rw [List.mem_singleton] at hI
        rw [hI]
        have := k2 q2
        exact ci_x ⟨by decide, by decide⟩ (fun z => absurd z (by decide)) (fun _ => u1 (by omega)) (fun _ => ⟨by omega, by omega⟩) (fun z => absurd z (by decide))
      · rw [if_neg q2]
        by_cases q3 : P.1 = 3
        · rw [if_pos q3]
          intro I hI
          rw [List.mem_singleton] at hI
          rw [hI]
          exact ci_x ⟨by decide, by decide⟩ (fun z => absurd z (by decide)) (fun _ => u1 (by omega)) (fun z => absurd z (by decide)) (fun z => absurd z (by decide))
        · rw [if_neg q3]
          by_cases q4 : P.1 = 4
          · rw [if_pos q4]
            intro I hI
            rw [List.mem_singleton] at hI
            rw [hI]
            exact ⟨⟨by decide, by decide⟩, fun z => absurd (show (5 : Int) ≤ 1 from z) (by decide), fun z => absurd (show (5 : Int) = 0 ∨ (5 : Int) = 2 ∨ (5 : Int) = 3 ∨ (5 : Int) = 4 from z) (by decide), fun z => absurd (show (5 : Int) = 2 from z) (by decide), fun _ z => (by cases z), fun _ => ⟨rfl, rfl⟩⟩
          · rw [if_neg q4]
            by_cases q5 : P.1 = 5
            · rw [if_pos q5]
              have := k5 q5
              intro I hI
              rcases List.mem_cons.1 hI with y | y
              · rw [y]
                exact ci_x ⟨by decide, by decide⟩ (fun z => absurd z (by decide)) (fun _ => u1 (by omega)) (fun _ => ⟨by omega, by omega⟩) (fun z => absurd z (by decide))
              · rcases List.mem_cons.1 y with y | y
                · rw [y]
                  exact ci_x ⟨by decide, by decide⟩ (fun _ => uv (by omega)) (fun z => absurd z (by decide)) (fun z => absurd z (by decide)) (fun z => absurd z (by decide))
                · rw [List.mem_singleton] at y
                  rw [y]
                  exact ci_x ⟨by decide, by decide⟩ (fun z => absurd z (by decide)) (fun _ => u2 (by omega)) (fun z => absurd z (by decide)) (fun z => absurd z (by decide))
            · rw [if_neg q5]
              by_cases q6 : P.1 = 6
              · rw [if_pos q6]
                have hA1 := hA (r + 1)
                have hB1 := hB (r + 1 + (A (r + 1)).length + 1)
                generalize B (r + 1 + (A (r + 1)).length + 1) = LB at *
                generalize A (r + 1) = LA at *
                simp only [List.length_cons, List.length_append]
                intro I hI
                rcases List.mem_cons.1 hI with y | y
                · rw [y]
                  exact ci_x ⟨by decide, by decide⟩ (fun z => absurd z (by decide)) (fun _ => u1 (by omega)) (fun z => absurd z (by decide)) (fun _ => ⟨by omega, by omega⟩)
                · rcases List.mem_append.1 y with y | y
                  · exact (hA1 I y).wd (by omega) (by omega) (by omega) (by omega)
                  · rcases List.mem_cons.1 y with y | y
                    · rw [y]
                      exact ci_x ⟨by decide, by decide⟩ (fun z => absurd z (by decide)) (fun z => absurd z (by decide)) (fun z => absurd z (by decide)) (fun _ => ⟨by omega, by omega⟩)
                    · exact (hB1 I y).wd (by omega) (by omega) (by omega) (by omega)
              · rw [if_neg q6]
                by_cases q7 : P.1 = 7
                · rw [if_pos q7]
                  have := k7 q7
                  by_cases hm : md = 1
                  · rw [if_pos hm]
                    have hA1 := hA (r + (co_w P mk c).length + 1)
                    generalize A (r + (co_w P mk c).length + 1) = LA at *
                    simp only [List.length_cons, List.length_append, List.length_nil]
                    intro I hI
                    rcases List.mem_append.1 hI with y | y
                    · rw [co_w_e] at y
                      rcases List.mem_cons.1 y with y | y
                      · rw [y]
                        exact ci_x ⟨by decide, by decide⟩ (fun z => absurd z (by decide)) (fun _ => u2 (by omega)) (fun _ => ⟨by omega, by omega⟩) (fun z => absurd z (by decide))
                      · rcases List.mem_append.1 y with y | y
                        · exact ci_h 4 (Nat.le_refl 4) I y
                        · rw [List.mem_singleton] at y
                          rw [y]
                          exact ci_x ⟨by decide, by decide⟩ (fun z => absurd z (by decide)) (fun _ => u2 (by omega)) (fun z => absurd z (by decide)) (fun z => absurd z (by decide))
                    · rcases List.mem_cons.1 y with y | y
                      · rw [y]
                        exact ci_x ⟨by decide, by decide⟩ (fun z => absurd z (by decide)) (fun _ => u1 (by omega)) (fun z => absurd z (by decide)) (fun _ => ⟨by omega, by omega⟩)
                      · rcases List.mem_append.1 y with y | y
                        · exact (hA1 I y).wd (by omega) (by omega) (by omega) (by omega)
                        · rcases List.mem_cons.1 y with y | y
                          · rw [y]
                            exact ci_x ⟨by decide, by decide⟩ (fun z => absurd z (by decide)) (fun _ => u2 (by omega)) (fun _ => ⟨by omega, by omega⟩) (fun z => absurd z (by decide))
                          · rw [List.mem_singleton] at y
                            rw [y]
                            exact ci_x ⟨by decide, by decide⟩ (fun z => absurd z (by decide)) (fun z => absurd z (by decide)) (fun z => absurd z (by decide)) (fun z => absurd z (by decide))
                  · rw [if_neg hm]
                    have hA1 := hA (r + 1)
                    generalize A (r + 1) = LA at *
                    simp only [List.length_cons, List.length_append, List.length_nil]
                    intro I hI
                    rcases List.mem_cons.1 hI with y | y
                    · rw [y]
                      exact ci_x ⟨by decide, by decide⟩ (fun z => absurd z (by decide)) (fun _ => u1 (by omega)) (fun z => absurd z (by decide)) (fun _ => ⟨by omega, by omega⟩)
                    · rcases List.mem_append.1 y with y | y
                      · exact (hA1 I y).wd (by omega) (by omega) (by omega) (by omega)
                      · rw [List.mem_singleton] at y
                        rw [y]
                        exact ci_x ⟨by decide, by decide⟩ (fun z => absurd z (by decide)) (fun z => absurd z (by decide)) (fun z => absurd z (by decide)) (fun _ => ⟨by omega, by omega⟩)
                · rw [if_neg q7]
                  have hA1 := hA r
                  have hB1 := hB (r + (A r).length + 1)
                  generalize B (r + (A r).length + 1) = LB at *
                  generalize A r = LA at *
                  simp only [List.length_cons, List.length_append, co_pa_len]
                  intro I hI
                  rcases List.mem_append.1 hI with y | y
                  · refine ci_pa (lo := r) (hi := r + (LA.length + (LB.length + 1))) (fun J hJ => (hA1 J hJ).wd (by omega) (by omega) (by omega) (by omega)) ⟨by omega, by omega⟩ I y
                  · rcases List.mem_cons.1 y with y | y
                    · rw [y]
                      exact ci_x ⟨by decide, by decide⟩ (fun z => absurd z (by decide)) (fun z => absurd z (by decide)) (fun z => absurd z (by decide)) (fun _ => ⟨by omega, by omega⟩)
                    · exact (hB1 I y).wd (by omega) (by omega) (by omega) (by omega)
theorem co_ok {md : Int} : ∀ (t : pz_T), pz_wf t → ∀ (r c : Nat), ∀ I ∈ co_t md t r c, ci_ok I r (r + (co_t md t r c).length) c (c + pz_kn t) := by
  intro t
  induction t using pz_ind with
  | h0 => intro _ r c I hI; exact absurd hI List.not_mem_nil
  | h2 s P v t => intro h; exact h.elim
  | h1 s P v t s' P' v' a b iht iha ihb =>
    intro hw r c I hI
    obtain ⟨w1, w2, w3, w4, w5, w6⟩ := hw
    have e : co_t md (.inner s P v t (.inner s' P' v' a b)) r c = co_t md t r c ++ co_P md P (pz_mk (pz_md a)) (fun r' => co_t md a r' (c + pz_kn t + (pz_kd (P.1, 0, 0, 0, 0, 0, 0, 0)).length)) (fun r' => co_t md b r' (c + pz_kn t + (pz_kd (P.1, 0, 0, 0, 0, 0, 0, 0)).length + pz_kn a)) (r + (co_t md t r c).length) (c + pz_kn t) := rfl
    rw [e] at hI ⊢
    rw [List.length_append, pz_kn_nd]
    rcases List.mem_append.1 hI with y | y
    · exact (iht w1 r c I y).wd (Nat.le_refl _) (by omega) (Nat.le_refl _) (by omega)
    · have := ci_P (c0 := c) (c1 := c + (pz_kn t + ((pz_kd (P.1, 0, 0, 0, 0, 0, 0, 0)).length + (pz_kn a + pz_kn b)))) w4 (fun r' J hJ => (iha w2 r' _ J hJ).wd (Nat.le_refl _) (Nat.le_refl _) (by omega) (by omega)) (fun r' J hJ => (ihb w3 r' _ J hJ).wd (Nat.le_refl _) (Nat.le_refl _) (by omega) (by omega)) (by omega) (by omega) I y
      exact this.wd (by omega) (by omega) (Nat.le_refl _) (Nat.le_refl _)
