/-! there is room for the events of a program that can be held -/
theorem ne_gm : ∀ (t : pz_T), pz_wf t → ((pz_ne t : Nat) : Int) ≤ gm_t t := by
  intro t
  induction t using pz_ind with
  | h0 => intro _; exact Int.le_refl 0
  | h2 s P v t => intro h; exact h.elim
  | h1 s P v t s' P' v' a b iht iha ihb =>
    intro hw
    obtain ⟨w1, w2, w3, w4, w5, w6⟩ := hw
    have t1 := iht w1
    have a1 := iha w2
    have b1 := ihb w3
    have w8 := w4.1
    rw [pz_ne_nd, gm_nd, gm_m1 w4]
    by_cases h6 : 6 ≤ P.1
    · rw [if_pos h6, if_pos h6]
      by_cases h7 : P.1 = 7
      · rw [if_pos h7, if_pos h7, if_pos h7, if_pos h7]; omega
      · rw [if_neg h7, if_neg h7, if_neg h7, if_neg h7]
        rw [if_neg (by omega), if_neg (by omega)]; omega
    · rw [if_neg h6, if_neg h6, if_neg (by omega)]
      split <;> split <;> omega
theorem zE_len : ∀ (fs : List pz_F), pz_zwf fs → (((pz_zE fs).length : Nat) : Int) ≤ pz_mu (pz_zE fs) := by
  intro fs
  induction fs with
  | nil => intro _; exact Int.le_refl 0
  | cons g fs ih =>
    intro h
    obtain ⟨h1, ⟨h2, h3, h4, h5, h6, h7⟩, -⟩ := h
    have i1 := ih h1
    have t1 := ne_gm g.1 h2
    have p1 := gm_m1 h3
    have p0 : pz_m1 (pz_evP g.2.1 ((pz_zpr fs).length + (pz_pr g.1).length) (pz_zkn fs + pz_kn g.1)) = pz_m1 (pz_evP g.2.1 0 0) := rfl
    have z2 : pz_mu [] = 0 := rfl
    rw [pz_zE, pz_mu_app, pz_mu_app]
    unfold pz_fX
    rw [pz_mu_app, gm_fl g.1 h2]
    show _ ≤ _ + (_ + (pz_m1 (pz_evP _ _ _) + pz_mu _)) + (pz_m1 (pz_eo _ _) + pz_mu [])
    rw [z2, p0, p1]
    have w8 := h3.1
    by_cases hs : g.2.2.1 = true
    · have h77 : g.2.1.1 ≠ 7 := fun z => by have := h5 z; rw [hs] at this; cases this
      have hfw : pz_fw g = pz_w2 g.2.1.1 := if_pos hs
      have a1 := ne_gm g.2.2.2 h6
      rw [if_pos hs, hfw, pz_m1_eo, if_neg pz_w2_2, if_neg h77]
      show _ ≤ _ + (_ + (_ + (pz_m1 (pz_eo _ _) + pz_mu (_ ++ _)))) + _
      rw [pz_mu_app, gm_fl g.2.2.2 h6, pz_m1_eo, if_neg (fun z => h77 (pz_w1_2.1 z))]
      show _ ≤ _ + (_ + (_ + (_ + (_ + (pz_m1 (pz_ec _ _) + pz_mu []))))) + _
      rw [pz_m1_ec, z2]
      simp only [List.length_cons, List.length_append, List.length_nil, pz_fl_len]
      rw [if_neg (by omega), if_neg (by omega)]
      push_cast; omega
    · have hfw : pz_fw g = pz_w1 g.2.1.1 := if_neg hs
      rw [if_neg hs, hfw, pz_m1_eo, z2]
      simp only [List.length_cons, List.length_append, List.length_nil, pz_fl_len]
      by_cases h77 : g.2.1.1 = 7
      · rw [if_pos h77, if_pos (pz_w1_2.2 h77)]
        push_cast; omega
      · rw [if_neg h77, if_neg (fun z => h77 (pz_w1_2.1 z)), if_neg (by omega), if_neg (by omega)]
        push_cast; omega
theorem okr_run {ls : List Int} : ∀ (n : Nat) (fs : List pz_F) (t : pz_T) (E : List pz_Ev) (op : List Nat) (A : Nat) (R : List pz_Ev), pz_Z ls fs t E op A → pz_run ls n E op (A : Int) = .inr R → pz_mu R ≤ 120 → pz_okr ls n E op (A : Int) := by
  intro n
  induction n with
  | zero => intro fs t E op A R _ _ _; trivial
  | succ n ih =>
    intro fs t E op A R hZ h hR
    have hmu := (pz_run_mu (n + 1) fs t E op A R hZ h).1
    have hop := hZ.cn.2.2.2.2.2.2.2
    obtain ⟨z1, z2, z3, z4, z5, z6, z7, z8, z9⟩ := id hZ
    have hl := zE_len fs z1
    have hn := ne_gm t z2
    have hz := pz_mu_z fs z1
    have hE : pz_mu E = pz_mu (pz_zE fs) + gm_t t := by rw [z6, pz_mu_app, gm_fl t z2]
    have hg := (gm_nn t z2).1
    have hlen : E.length = (pz_zE fs).length + pz_ne t := by rw [z6, List.length_append, pz_fl_len]
    refine ⟨by omega, by omega, fun hlt => ?_⟩
    unfold pz_run at h
    rw [if_pos hlt] at h
    cases hx : pz_turn ls E op (A : Int) with
    | inl q => trivial
    | inr r =>
      rw [hx] at h
      obtain ⟨fs', t', A', e1, e2, -⟩ := pz_Z_step hZ (by omega) hx
      have h : pz_run ls n r.1 r.2.1 r.2.2 = .inr R := h
      show pz_okr ls n r.1 r.2.1 r.2.2
      rw [e1] at h ⊢
      exact ih fs' t' r.1 r.2.1 A' R e2 h hR
theorem gd.okr {ls : List Int} {t : pz_T} (h : gd ls t) : pz_okr ls (ls.length + 1) [] [] 0 := by
  refine okr_run (ls.length + 1) [] .leaf [] [] 0 (pz_fl t 0 0 0) ⟨trivial, trivial, Nat.zero_le _, Nat.zero_le _, ?_, rfl, rfl, Nat.zero_le _, Nat.zero_le _⟩ h.2.1 ?_
  · rw [List.take_zero]; rfl
  · rw [gm_fl t h.1.1]; exact h.2.2.2.2
