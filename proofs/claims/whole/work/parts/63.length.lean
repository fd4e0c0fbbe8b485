/-! pure: how long a program is -/
/-! how long a program is, its invariants counted as one letter each -/
def pz_m1 (v : pz_Ev) : Int := if v.1 = 7 then v.2.2.2.1 + 3 else if v.1 ≤ 8 then 1 + (if v.1 = 1 then 1 else 0) + v.2.2.2.1 + (if v.1 = 5 then 1 else 0) + v.2.2.2.2.2.1 else if v.1 = 9 ∧ v.2.1 = 2 then 0 else 1
def pz_mu : List pz_Ev → Int
  | [] => 0
  | v :: E => pz_m1 v + pz_mu E
theorem pz_mu_app (E F : List pz_Ev) : pz_mu (E ++ F) = pz_mu E + pz_mu F := by
  induction E with
  | nil => show pz_mu F = 0 + pz_mu F; omega
  | cons v E ih => show pz_m1 v + pz_mu (E ++ F) = pz_m1 v + pz_mu E + pz_mu F; rw [ih]; omega
theorem pz_ist_pos {t : List Int} (h : pz_ist t) : 1 ≤ t.length := by
  cases t with
  | nil => exact absurd (congrArg Prod.fst h) (by decide)
  | cons c t => simp
theorem pz_mu_P {P : pz_P} (h : pz_wfP P) (q c : Nat) : pz_m1 (pz_evP P q c) ≤ ((pz_hd P).length : Int) + (if P.1 = 7 then 1 else 0) ∧ 1 ≤ pz_m1 (pz_evP P q c) ∧ 2 * ((pz_nt1 P.1 : Int) + pz_nt2 P.1) ≤ pz_m1 (pz_evP P q c) := by
  obtain ⟨⟨h0, h8⟩, hv, h1, h2⟩ := h
  have e : pz_m1 (pz_evP P q c) = if P.1 = 7 then (P.2.2.1.length : Int) + 3 else 1 + (if P.1 = 1 then 1 else 0) + (P.2.2.1.length : Int) + (if P.1 = 5 then 1 else 0) + (P.2.2.2.length : Int) := by
    show (if P.1 = 7 then _ else if P.1 ≤ 8 then _ else _) = _
    by_cases q7 : P.1 = 7
    · rw [if_pos q7, if_pos q7]; rfl
    · rw [if_neg q7, if_neg q7, if_pos h8]; rfl
  have el : (pz_hd P).length = 1 + (if P.1 = 1 then 1 else 0) + P.2.2.1.length + (if P.1 = 5 then 1 else 0) + P.2.2.2.length := by
    unfold pz_hd
    rw [List.length_cons, List.length_append, List.length_append, List.length_append]
    by_cases q1 : P.1 = 1
    · rw [if_pos q1, if_pos q1, if_neg (by omega), if_neg (by omega)]; simp; omega
    · rw [if_neg q1, if_neg q1]
      by_cases q5 : P.1 = 5
      · rw [if_pos q5, if_pos q5]; simp; omega
      · rw [if_neg q5, if_neg q5]; simp; omega
  have l1 : pz_nt1 P.1 ≤ P.2.2.1.length := by
    unfold pz_nt1
    by_cases q1 : P.1 = 1 ∨ P.1 = 4 ∨ P.1 = 8
    · rw [if_pos q1]; exact Nat.zero_le _
    · rw [if_neg q1] at h1 ⊢; exact pz_ist_pos h1
  have l2 : pz_nt2 P.1 ≤ P.2.2.2.length := by
    unfold pz_nt2
    by_cases q1 : P.1 = 5 ∨ P.1 = 7
    · rw [if_pos q1] at h2 ⊢; exact pz_ist_pos h2
    · rw [if_neg q1]; exact Nat.zero_le _
  have hn := pz_nts P.1
  have n2 : pz_nt2 P.1 = 1 ↔ P.1 = 5 ∨ P.1 = 7 := by
    unfold pz_nt2
    by_cases q1 : P.1 = 5 ∨ P.1 = 7
    · rw [if_pos q1]; exact ⟨fun _ => q1, fun _ => rfl⟩
    · rw [if_neg q1]; exact ⟨fun z => absurd z (by decide), fun z => absurd z q1⟩
  rw [e, el]
  clear e el h1 h2 hv
  have hc : P.1 = 0 ∨ P.1 = 1 ∨ P.1 = 2 ∨ P.1 = 3 ∨ P.1 = 4 ∨ P.1 = 5 ∨ P.1 = 6 ∨ P.1 = 7 ∨ P.1 = 8 := by omega
  clear h0 h8
  generalize P.1 = s at *
  rcases hc with rfl | rfl | rfl | rfl | rfl | rfl | rfl | rfl | rfl
  all_goals
    simp [pz_nt1, pz_nt2] at l1 l2 ⊢
    omega
theorem pz_m1_eo (w : Int) (e : Nat) : pz_m1 (pz_eo w e) = if w = 2 then 0 else 1 := by
  show (if (9 : Int) = 7 then _ else if (9 : Int) ≤ 8 then _ else if (9 : Int) = 9 ∧ w = 2 then 0 else 1) = _
  rw [if_neg (by decide), if_neg (by decide)]
  by_cases q : w = 2
  · rw [if_pos q, if_pos ⟨rfl, q⟩]
  · rw [if_neg q, if_neg (fun z => q z.2)]
theorem pz_m1_ec (w : Int) (e : Nat) : pz_m1 (pz_ec w e) = 1 := rfl
theorem pz_w1_2 {s : Int} : pz_w1 s = 2 ↔ s = 7 := by
  show (if s = 6 then (0 : Int) else if s = 7 then 2 else 3) = 2 ↔ _
  by_cases q6 : s = 6
  · rw [if_pos q6]; exact ⟨fun z => by omega, fun z => by omega⟩
  · rw [if_neg q6]
    by_cases q7 : s = 7
    · rw [if_pos q7]; exact ⟨fun _ => q7, fun _ => rfl⟩
    · rw [if_neg q7]; exact ⟨fun z => by omega, fun z => absurd z q7⟩
theorem pz_w2_2 {s : Int} : pz_w2 s ≠ 2 := by
  show (if s = 6 then (1 : Int) else 4) ≠ 2
  split <;> decide
theorem pz_mu_fl : ∀ (t : pz_T), pz_wf t → ∀ (q e c : Nat), pz_mu (pz_fl t q e c) ≤ ((pz_pr t).length : Int) ∧ (pz_sz t : Int) ≤ pz_mu (pz_fl t q e c) ∧ 2 * (pz_nt t : Int) ≤ pz_mu (pz_fl t q e c) := by
  intro t
  induction t using pz_ind with
  | h0 => intro _ q e c; exact ⟨Int.le_refl 0, Int.le_refl 0, Int.le_refl 0⟩
  | h2 s P v t => intro h; exact h.elim
  | h1 s P v t s' P' v' a b iht iha ihb =>
    intro hw q e c
    obtain ⟨w1, w2, w3, w4, w5, w6⟩ := hw
    rw [pz_fl_nd, pz_pr_nd, pz_sz_nd, pz_nt_nd, pz_mu_app, List.length_append, List.length_append]
    obtain ⟨t1, t2, t3⟩ := iht w1 q e c
    show pz_mu (pz_fl t q e c) + (pz_m1 (pz_evP P _ _) + pz_mu _) ≤ _ ∧ _ ≤ pz_mu (pz_fl t q e c) + (pz_m1 (pz_evP P _ _) + pz_mu _) ∧ _ ≤ pz_mu (pz_fl t q e c) + (pz_m1 (pz_evP P _ _) + pz_mu _)
    obtain ⟨p1, p2, p3⟩ := pz_mu_P w4 (q + (pz_pr t).length) (c + pz_kn t)
    by_cases h6 : 6 ≤ P.1
    · rw [if_pos h6, if_pos h6]
      show _ + (_ + (pz_m1 (pz_eo _ _) + pz_mu (_ ++ _))) ≤ _ ∧ _ ≤ _ + (_ + (pz_m1 (pz_eo _ _) + pz_mu (_ ++ _))) ∧ _ ≤ _ + (_ + (pz_m1 (pz_eo _ _) + pz_mu (_ ++ _)))
      rw [pz_mu_app, pz_m1_eo]
      show _ + (_ + (_ + (_ + (pz_m1 (pz_ec _ _) + pz_mu _)))) ≤ _ ∧ _ ≤ _ + (_ + (_ + (_ + (pz_m1 (pz_ec _ _) + pz_mu _)))) ∧ _ ≤ _ + (_ + (_ + (_ + (pz_m1 (pz_ec _ _) + pz_mu _))))
      rw [pz_m1_ec]
      obtain ⟨a1, a2, a3⟩ := iha w2 (q + (pz_pr t).length + (pz_hd P).length + 1) (e + pz_ne t + 2) (c + pz_kn t + (pz_kd (P.1, 0, 0, 0, 0, 0, 0, 0)).length)
      by_cases h7 : P.1 = 7
      · have hb : b = .leaf := w6 h7
        rw [if_pos h7, if_pos h7, if_pos (pz_w1_2.2 h7), hb]
        rw [if_pos h7] at p1
        simp only [List.length_cons, List.length_append, List.length_nil]
        have z0 : pz_sz (.leaf : pz_T) = 0 := rfl
        have z1 : pz_nt (.leaf : pz_T) = 0 := rfl
        have z2 : pz_mu [] = 0 := rfl
        rw [z0, z1, z2]
        refine ⟨by push_cast; omega, by push_cast; omega, by push_cast; omega⟩
      · rw [if_neg h7, if_neg h7, if_neg (fun z => h7 (pz_w1_2.1 z))]
        rw [if_neg h7] at p1
        show _ + (_ + (_ + (_ + (_ + (pz_m1 (pz_eo _ _) + pz_mu (_ ++ _)))))) ≤ _ ∧ _ ≤ _ + (_ + (_ + (_ + (_ + (pz_m1 (pz_eo _ _) + pz_mu (_ ++ _)))))) ∧ _ ≤ _ + (_ + (_ + (_ + (_ + (pz_m1 (pz_eo _ _) + pz_mu (_ ++ _))))))
        rw [pz_mu_app, pz_m1_eo, if_neg pz_w2_2]
        show _ + (_ + (_ + (_ + (_ + (_ + (_ + (pz_m1 (pz_ec _ _) + pz_mu [])))))))  ≤ _ ∧ _ ≤ _ + (_ + (_ + (_ + (_ + (_ + (_ + (pz_m1 (pz_ec _ _) + pz_mu []))))))) ∧ _ ≤ _ + (_ + (_ + (_ + (_ + (_ + (_ + (pz_m1 (pz_ec _ _) + pz_mu [])))))))
        rw [pz_m1_ec]
        have z2 : pz_mu [] = 0 := rfl
        rw [z2]
        obtain ⟨b1, b2, b3⟩ := ihb w3 (q + (pz_pr t).length + (pz_hd P).length + 1 + (pz_pr a).length + 2) (e + pz_ne t + 2 + pz_ne a + 2) (c + pz_kn t + (pz_kd (P.1, 0, 0, 0, 0, 0, 0, 0)).length + pz_kn a)
        simp only [List.length_cons, List.length_append, List.length_nil]
        refine ⟨by push_cast; omega, by push_cast; omega, by push_cast; omega⟩
    · rw [if_neg h6, if_neg h6]
      obtain ⟨y1, y2⟩ := w5 (by omega)
      rw [y1, y2]
      rw [if_neg (by omega)] at p1
      have z0 : pz_sz (.leaf : pz_T) = 0 := rfl
      have z1 : pz_nt (.leaf : pz_T) = 0 := rfl
      have z2 : pz_mu [] = 0 := rfl
      rw [z0, z1, z2, List.length_nil]
      refine ⟨by push_cast; omega, by push_cast; omega, by push_cast; omega⟩
theorem pz_mu_z : ∀ (fs : List pz_F), pz_zwf fs → pz_mu (pz_zE fs) ≤ ((pz_zpr fs).length : Int) ∧ (cr_zr fs : Int) ≤ pz_mu (pz_zE fs) ∧ 2 * (cr_zt fs : Int) ≤ pz_mu (pz_zE fs) ∧ (fs.length : Int) ≤ (cr_zr fs : Int) := by
  intro fs
  induction fs with
  | nil => intro _; exact ⟨Int.le_refl 0, Int.le_refl 0, Int.le_refl 0, Int.le_refl 0⟩
  | cons g fs ih =>
    intro h
    obtain ⟨h1, ⟨h2, h3, h4, h5, h6, h7⟩, -⟩ := h
    obtain ⟨i1, i2, i3, i4⟩ := ih h1
    obtain ⟨t1, t2, t3⟩ := pz_mu_fl g.1 h2 (pz_zpr fs).length (pz_zE fs).length (pz_zkn fs)
    obtain ⟨p1, p2, p3⟩ := pz_mu_P h3 ((pz_zpr fs).length + (pz_pr g.1).length) (pz_zkn fs + pz_kn g.1)
    have e1 : cr_zr (g :: fs) = cr_zr fs + pz_sz g.1 + 1 + (if g.2.2.1 then pz_sz g.2.2.2 else 0) := rfl
    have e3 : cr_zt (g :: fs) = cr_zt fs + pz_nt g.1 + pz_nt1 g.2.1.1 + pz_nt2 g.2.1.1 + (if g.2.2.1 then pz_nt g.2.2.2 else 0) := rfl
    have z2 : pz_mu [] = 0 := rfl
    have e5 : pz_zpr (g :: fs) = pz_zpr fs ++ pz_fpr g := rfl
    rw [pz_zE, pz_mu_app, pz_mu_app, e5, List.length_append, e1, e3, List.length_cons]
    unfold pz_fX pz_fpr
    rw [pz_mu_app]
    show _ + (_ + (pz_m1 (pz_evP _ _ _) + pz_mu _)) + (pz_m1 (pz_eo _ _) + pz_mu []) ≤ _ ∧ _ ≤ _ + (_ + (pz_m1 (pz_evP _ _ _) + pz_mu _)) + (pz_m1 (pz_eo _ _) + pz_mu []) ∧ _ ≤ _ + (_ + (pz_m1 (pz_evP _ _ _) + pz_mu _)) + (pz_m1 (pz_eo _ _) + pz_mu []) ∧ _
    rw [z2]
    by_cases hs : g.2.2.1 = true
    · have h77 : g.2.1.1 ≠ 7 := fun z => by have := h5 z; rw [hs] at this; cases this
      have hfw : pz_fw g = pz_w2 g.2.1.1 := if_pos hs
      rw [if_pos hs, if_pos hs, if_pos hs, if_pos hs, hfw, pz_m1_eo, if_neg pz_w2_2]
      rw [if_neg h77] at p1
      obtain ⟨a1, a2, a3⟩ := pz_mu_fl g.2.2.2 h6 ((pz_zpr fs).length + (pz_pr g.1).length + (pz_hd g.2.1).length + 1) ((pz_zE fs).length + pz_ne g.1 + 2) (pz_zkn fs + pz_kn g.1 + (pz_kd (g.2.1.1, 0, 0, 0, 0, 0, 0, 0)).length)
      show _ + (_ + (_ + (pz_m1 (pz_eo _ _) + pz_mu (_ ++ _)))) + _ ≤ _ ∧ _ ≤ _ + (_ + (_ + (pz_m1 (pz_eo _ _) + pz_mu (_ ++ _)))) + _ ∧ _ ≤ _ + (_ + (_ + (pz_m1 (pz_eo _ _) + pz_mu (_ ++ _)))) + _ ∧ _
      rw [pz_mu_app, pz_m1_eo, if_neg (fun z => h77 (pz_w1_2.1 z))]
      show _ + (_ + (_ + (_ + (_ + (pz_m1 (pz_ec _ _) + pz_mu []))))) + _ ≤ _ ∧ _ ≤ _ + (_ + (_ + (_ + (_ + (pz_m1 (pz_ec _ _) + pz_mu []))))) + _ ∧ _ ≤ _ + (_ + (_ + (_ + (_ + (pz_m1 (pz_ec _ _) + pz_mu []))))) + _ ∧ _
      rw [pz_m1_ec, z2]
      simp only [List.length_cons, List.length_append, List.length_nil]
      refine ⟨by push_cast; omega, by push_cast; omega, by push_cast; omega, by push_cast; omega⟩
    · have hfw : pz_fw g = pz_w1 g.2.1.1 := if_neg hs
      rw [if_neg hs, if_neg hs, if_neg hs, if_neg hs, hfw, pz_m1_eo, z2]
      simp only [List.length_cons, List.length_append, List.length_nil]
      by_cases h77 : g.2.1.1 = 7
      · rw [if_pos h77] at p1
        rw [if_pos (pz_w1_2.2 h77)]
        refine ⟨by push_cast; omega, by push_cast; omega, by push_cast; omega, by push_cast; omega⟩
      · rw [if_neg h77] at p1
        rw [if_neg (fun z => h77 (pz_w1_2.1 z))]
        refine ⟨by push_cast; omega, by push_cast; omega, by push_cast; omega, by push_cast; omega⟩
/-- the bounds between turns, out of the length -/
theorem pz_Z.mu {ls : List Int} {fs : List pz_F} {t : pz_T} {E : List pz_Ev} {op : List Nat} {A : Nat} (hZ : pz_Z ls fs t E op A) : pz_mu E ≤ (A : Int) ∧ (pz_mu E < 120 → cr_zr fs + pz_sz t < 120 ∧ cr_zt fs + pz_nt t ≤ 61 ∧ fs.length < 120) ∧ (pz_mu E ≤ 120 → cr_zr fs + pz_sz t ≤ 120) := by
  obtain ⟨c1, c2, c3, c4, c5, c6, c7, c8⟩ := hZ.cn
  obtain ⟨z1, z2, z3, z4, z5, z6, z7, z8, z9⟩ := hZ
  obtain ⟨t1, t2, t3⟩ := pz_mu_fl t z2 (pz_zpr fs).length (pz_zE fs).length (pz_zkn fs)
  obtain ⟨i1, i2, i3, i4⟩ := pz_mu_z fs z1
  rw [z6, pz_mu_app]
  exact ⟨by omega, fun q => ⟨by omega, by omega, by omega⟩, fun q => by omega⟩
/-- while a text is read, it is short enough -/
def cr_BD (ls : List Int) : Prop := ∀ (fs : List pz_F) (t : pz_T) (E : List pz_Ev) (op : List Nat) (A k : Nat), pz_Z ls fs t E op A → pz_run ls k E op (A : Int) = pz_read ls → ls.length - A + 1 ≤ k → pz_mu E ≤ 120 ∧ (A < ls.length → pz_mu E < 120)
theorem cr_BD_120 {ls : List Int} (h : ls.length ≤ 120) : cr_BD ls := fun fs t E op A k hZ _ _ => by
  have h1 := hZ.mu.1
  have h2 := hZ.2.2.2.1
  exact ⟨by omega, fun q => by omega⟩
theorem pz_turn_mu {ls : List Int} {fs : List pz_F} {t : pz_T} {E : List pz_Ev} {op : List Nat} {A : Nat} {r : List pz_Ev × List Nat × Int} (hZ : pz_Z ls fs t E op A) (hA : A < ls.length) (h : pz_turn ls E op (A : Int) = .inr r) : ∃ F, r.1 = E ++ F ∧ 1 ≤ pz_mu F := by
  have z2 : pz_mu [] = 0 := rfl
  rcases pz_turn_inv hA h with ⟨P, hP, -, -, -, -, -, hr⟩ | ⟨o, op', -, -, hr⟩
  · rcases hr with ⟨-, hr⟩ | ⟨-, -, hr⟩
    · refine ⟨[pz_evP P A (pz_kds E).length], by rw [hr], ?_⟩
      have := (pz_mu_P hP A (pz_kds E).length).2.1
      show 1 ≤ pz_m1 _ + pz_mu []
      omega
    · refine ⟨[pz_evP P A (pz_kds E).length] ++ [pz_eo (pz_w1 P.1) E.length], by rw [hr, List.append_assoc], ?_⟩
      have := (pz_mu_P hP A (pz_kds E).length).2.1
      show 1 ≤ pz_m1 _ + (pz_m1 (pz_eo _ _) + pz_mu [])
      rw [pz_m1_eo]
      split <;> omega
  · rcases hr with ⟨-, -, hr⟩ | ⟨-, hr⟩
    · refine ⟨_, by rw [hr]; exact List.append_assoc _ _ _, ?_⟩
      show 1 ≤ pz_m1 (10, _, 0, 0, 0, 0, 0, _) + (pz_m1 (9, _, 0, 0, 0, 0, 0, _) + pz_mu [])
      have e : ∀ w i : Int, pz_m1 (10, w, 0, 0, 0, 0, 0, i) = 1 := fun w i => rfl
      have e2 : ∀ w i : Int, 0 ≤ pz_m1 (9, w, 0, 0, 0, 0, 0, i) := fun w i => by
        show 0 ≤ (if (9 : Int) = 7 then _ else if (9 : Int) ≤ 8 then _ else if (9 : Int) = 9 ∧ w = 2 then 0 else 1)
        rw [if_neg (by decide), if_neg (by decide)]
        split <;> decide
      rw [e, z2]
      have := e2 (if (E.getD o pz_d0).2.1 = 0 then 1 else 4) (E.getD o pz_d0).2.2.2.2.2.2.2
      omega
    · refine ⟨_, by rw [hr], ?_⟩
      show 1 ≤ pz_m1 (10, _, 0, 0, 0, 0, 0, _) + pz_mu []
      have e : ∀ w i : Int, pz_m1 (10, w, 0, 0, 0, 0, 0, i) = 1 := fun w i => rfl
      rw [e, z2]
      decide
theorem pz_run_mu {ls : List Int} : ∀ (k : Nat) (fs : List pz_F) (t : pz_T) (E : List pz_Ev) (op : List Nat) (A : Nat) (R : List pz_Ev), pz_Z ls fs t E op A → pz_run ls k E op (A : Int) = .inr R → pz_mu E ≤ pz_mu R ∧ (A < ls.length → pz_mu E < pz_mu R) := by
  intro k
  induction k with
  | zero => intro fs t E op A R _ h; cases h
  | succ k ih =>
    intro fs t E op A R hZ h
    unfold pz_run at h
    split at h
    · rename_i hlt
      cases hx : pz_turn ls E op (A : Int) with
      | inl q => rw [hx] at h; cases h
      | inr r =>
        rw [hx] at h
        have hA : A < ls.length := by omega
        obtain ⟨fs', t', A', e1, e2, -⟩ := pz_Z_step hZ hA hx
        obtain ⟨F, f1, f2⟩ := pz_turn_mu hZ hA hx
        have h : pz_run ls k r.1 r.2.1 r.2.2 = .inr R := h
        rw [e1] at h
        have := (ih fs' t' r.1 r.2.1 A' R e2 h).1
        rw [f1, pz_mu_app] at this
        exact ⟨by omega, fun _ => by omega⟩
    · rename_i hge
      split at h
      · cases h
        exact ⟨Int.le_refl _, fun q => absurd q (by omega)⟩
      · cases h
theorem cr_BD_pr {ls : List Int} {R : List pz_Ev} (h : pz_read ls = .inr R) (hR : pz_mu R ≤ 120) : cr_BD ls := fun fs t E op A k hZ hr _ => by
  rw [h] at hr
  obtain ⟨h1, h2⟩ := pz_run_mu k fs t E op A R hZ hr
  exact ⟨by omega, fun q => by have := h2 q; omega⟩

