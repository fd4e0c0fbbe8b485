/-! a program that was read by the reference: its words, the rows it may take -/
theorem gm_nd (s : Nat) (P : pz_P) (v : Unit) (t : pz_T) (s' : Nat) (P' : pz_P) (v' : Unit) (a b : pz_T) : gm_t (.inner s P v t (.inner s' P' v' a b)) = gm_t t + (pz_m1 (pz_evP P 0 0) + (if 6 ≤ P.1 then (if P.1 = 7 then 0 else 1) + (gm_t a + (1 + (if P.1 = 7 then 0 else 1 + (gm_t b + 1)))) else 0)) := rfl
theorem gm_m1 {P : pz_P} (h : pz_wfP P) : pz_m1 (pz_evP P 0 0) = if P.1 = 7 then (P.2.2.1.length : Int) + 3 else 1 + (if P.1 = 1 then 1 else 0) + (P.2.2.1.length : Int) + (if P.1 = 5 then 1 else 0) + (P.2.2.2.length : Int) := by
  show (if P.1 = 7 then _ else if P.1 ≤ 8 then _ else _) = _
  by_cases q7 : P.1 = 7
  · rw [if_pos q7, if_pos q7]; rfl
  · rw [if_neg q7, if_neg q7, if_pos h.1.2]; rfl
theorem gm_w1 {P : pz_P} (h : pz_wfP P) (h6 : P.1 = 0 ∨ P.1 = 2 ∨ P.1 = 3 ∨ P.1 = 5 ∨ P.1 = 6 ∨ P.1 = 7) : 1 ≤ P.2.2.1.length ∧ pz_ist P.2.2.1 := by
  have := h.2.2.1
  rw [if_neg (by omega)] at this
  exact ⟨pz_ist_pos this, this⟩
theorem gm_w2 {P : pz_P} (h : pz_wfP P) (h6 : P.1 = 5 ∨ P.1 = 7) : 1 ≤ P.2.2.2.length ∧ pz_ist P.2.2.2 := by
  have := h.2.2.2
  rw [if_pos h6] at this
  exact ⟨pz_ist_pos this, this⟩
theorem gm_nn : ∀ (t : pz_T), pz_wf t → 0 ≤ gm_t t ∧ 5 * ((pz_ht t : Nat) : Int) ≤ gm_t t + 4 := by
  intro t
  induction t using pz_ind with
  | h0 => intro _; exact ⟨Int.le_refl 0, by decide⟩
  | h2 s P v t => intro h; exact h.elim
  | h1 s P v t s' P' v' a b iht iha ihb =>
    intro hw
    obtain ⟨w1, w2, w3, w4, w5, w6⟩ := hw
    obtain ⟨t1, t2⟩ := iht w1
    obtain ⟨a1, a2⟩ := iha w2
    obtain ⟨b1, b2⟩ := ihb w3
    have hm : ((pz_ht (.inner s P v t (.inner s' P' v' a b)) : Nat) : Int) ≤ ((pz_ht t : Nat) : Int) ∨ ((pz_ht (.inner s P v t (.inner s' P' v' a b)) : Nat) : Int) ≤ ((pz_ht a : Nat) : Int) + 1 ∨ ((pz_ht (.inner s P v t (.inner s' P' v' a b)) : Nat) : Int) ≤ ((pz_ht b : Nat) : Int) + 1 := by
      have : pz_ht (.inner s P v t (.inner s' P' v' a b)) = max (pz_ht t) (max (pz_ht a) (pz_ht b) + 1) := rfl
      omega
    rw [gm_nd, gm_m1 w4]
    by_cases h6 : 6 ≤ P.1
    · rw [if_pos h6]
      by_cases h7 : P.1 = 7
      · have := gm_w1 w4 (by omega)
        have zb : b = .leaf := w6 h7
        have hb0 : ((pz_ht b : Nat) : Int) = 0 := by rw [zb]; rfl
        rw [if_pos h7, if_pos h7, if_pos h7]
        omega
      · rw [if_neg h7, if_neg h7, if_neg h7, if_neg (by omega), if_neg (by omega)]
        have h8 := w4.1.2
        by_cases z : P.1 = 6
        · have := gm_w1 w4 (by omega)
          omega
        · omega
    · obtain ⟨y1, y2⟩ := w5 (by omega)
      have ha0 : ((pz_ht a : Nat) : Int) = 0 := by rw [y1]; rfl
      have hb0 : ((pz_ht b : Nat) : Int) = 0 := by rw [y2]; rfl
      rw [if_neg h6, if_neg (by omega : ¬ P.1 = 7)]
      by_cases q1 : P.1 = 1
      · rw [if_pos q1, if_neg (by omega)]; omega
      · rw [if_neg q1]
        by_cases q5 : P.1 = 5
        · rw [if_pos q5]; omega
        · rw [if_neg q5]; omega
theorem tb_mono {x y : Int} (hxy : x ≤ y) : ∀ (t : pz_T), pz_tb x t → pz_tb y t := by
  intro t
  induction t using pz_ind with
  | h0 => intro _; trivial
  | h2 s P v t => intro h; exact h.elim
  | h1 s P v t s' P' v' a b iht iha ihb =>
    intro ⟨h1, h2, h3, h4, h5⟩
    exact ⟨iht h1, iha h2, ihb h3, by omega, by omega⟩
/-- rows that a tree's events may take -/
theorem la_gm {N : ab_M} : ∀ (t : pz_T), pz_wf t → ∀ (q e c : Nat), ev_at N e (pz_fl t q e c) → la_c N (e + pz_ne t) ≤ la_c N e + 2 * gm_t t := by
  intro t
  induction t using pz_ind with
  | h0 => intro _ q e c _; show la_c N e ≤ la_c N e + 2 * 0; omega
  | h2 s P v t => intro h; exact h.elim
  | h1 s P v t s' P' v' a b iht iha ihb =>
    intro hw q e c h
    obtain ⟨w1, w2, w3, w4, w5, w6⟩ := hw
    obtain ⟨h1, h2, h3⟩ := h.nd
    have ht := iht w1 q e c h1
    rw [pz_ne_nd, gm_nd, gm_m1 w4]
    obtain ⟨p1, -⟩ := pz_ev_s (by have := w4.1; omega) h2
    have w8 := w4.1
    have hs : ∀ i, la_c N (i + 1) = la_c N i + la_k N i := fun _ => rfl
    have k0 := hs (e + pz_ne t)
    by_cases h6 : 6 ≤ P.1
    · rw [if_pos h6, if_pos h6]
      obtain ⟨g1, ⟨qa, ca, g2⟩, g3, g4⟩ := h3 h6
      obtain ⟨o1, o2, -⟩ := pz_ev_o g1
      obtain ⟨l1, l2, -⟩ := pz_ev_c g3
      have ia := iha w2 _ _ _ g2
      have k1 := hs (e + pz_ne t + 1)
      have k2 := hs (e + pz_ne t + 2 + pz_ne a)
      have m1 : la_k N (e + pz_ne t + 1) = 0 := by unfold la_k; rw [if_neg (by omega), if_neg (by omega), if_pos (by omega)]
      have m2 : la_k N (e + pz_ne t + 2 + pz_ne a) ≤ 2 ∧ (P.1 ≠ 7 → la_k N (e + pz_ne t + 2 + pz_ne a) ≤ 1) := by
        unfold la_k
        rw [if_neg (by omega), if_neg (by omega), if_neg (by omega), if_pos l1, l2]
        refine ⟨by split <;> first | omega | (split <;> omega), fun z => ?_⟩
        rw [if_neg (fun y => z (pz_w1_2.1 y))]
        split <;> omega
      by_cases h7 : P.1 = 7
      · have := gm_w1 w4 (by omega)
        have m0 : la_k N (e + pz_ne t) = 7 := by unfold la_k; rw [if_pos (by omega)]
        rw [if_pos h7, if_pos h7, if_pos h7, if_pos h7, show e + (pz_ne t + (1 + (2 + (pz_ne a + 0)))) = e + pz_ne t + 2 + pz_ne a + 1 by omega]
        rw [show e + pz_ne t + 1 + 1 = e + pz_ne t + 2 by omega] at k1
        omega
      · obtain ⟨g5, ⟨qb, cb, g6⟩, g7⟩ := g4 h7
        obtain ⟨o4, o5, -⟩ := pz_ev_o g5
        obtain ⟨l4, l5, -⟩ := pz_ev_c g7
        have ib := ihb w3 _ _ _ g6
        have m0 : la_k N (e + pz_ne t) ≤ 1 := by unfold la_k; rw [if_neg (by omega), if_neg (by omega)]; split <;> first | omega | (split <;> omega)
        have k3 := hs (e + pz_ne t + 2 + pz_ne a + 1)
        have k4 := hs (e + pz_ne t + 2 + pz_ne a + 2 + pz_ne b)
        have m3 : la_k N (e + pz_ne t + 2 + pz_ne a + 1) = 0 := by unfold la_k; rw [if_neg (by omega), if_neg (by omega), if_pos (by omega)]
        have m4 : la_k N (e + pz_ne t + 2 + pz_ne a + 2 + pz_ne b) ≤ 1 := by
          unfold la_k
          rw [if_neg (by omega), if_neg (by omega), if_neg (by omega), if_pos l4, l5, if_neg pz_w2_2]
          split <;> omega
        rw [if_neg h7, if_neg h7, if_neg h7, if_neg h7, show e + (pz_ne t + (1 + (2 + (pz_ne a + (2 + pz_ne b))))) = e + pz_ne t + 2 + pz_ne a + 2 + pz_ne b + 1 by omega, if_neg (by omega), if_neg (by omega)]
        rw [show e + pz_ne t + 1 + 1 = e + pz_ne t + 2 by omega] at k1
        rw [show e + pz_ne t + 2 + pz_ne a + 1 + 1 = e + pz_ne t + 2 + pz_ne a + 2 by omega] at k3
        omega
    · rw [if_neg h6, if_neg h6, show e + (pz_ne t + (1 + 0)) = e + pz_ne t + 1 by omega, if_neg (by omega : ¬ P.1 = 7)]
      by_cases q5 : P.1 = 5
      · have := gm_w1 w4 (by omega)
        have m0 : la_k N (e + pz_ne t) = 3 := by unfold la_k; rw [if_neg (by omega), if_pos (by omega)]
        rw [if_pos q5, if_neg (by omega)]
        omega
      · have m0 : la_k N (e + pz_ne t) ≤ 1 := by unfold la_k; rw [if_neg (by omega), if_neg (by omega)]; split <;> first | omega | (split <;> omega)
        rw [if_neg q5]
        split <;> omega
/-- the letters of a word -/
def ws (ls : List Int) (b n : Int) : List Int := (ls.drop b.toNat).take n.toNat
def ws_ok (ls : List Int) (b n : Int) : Prop := (0 ≤ b ∧ 0 ≤ n ∧ b + n ≤ (ls.length : Int)) ∧ (n = 0 ∨ pz_ist (ws ls b n))
def ws_v (ls : List Int) (v : pz_Ev) : Prop := v.1 ≤ 8 → ws_ok ls v.2.2.1 v.2.2.2.1 ∧ ws_ok ls v.2.2.2.2.1 v.2.2.2.2.2.1
theorem ws_mid (pre w post : List Int) {b n : Int} (hb : b = ((pre.length : Nat) : Int)) (hn : n = ((w.length : Nat) : Int)) : ws (pre ++ (w ++ post)) b n = w := by
  unfold ws
  rw [hb, hn, Int.toNat_natCast, Int.toNat_natCast, List.drop_left, List.take_left]
theorem ws_nd {P : pz_P} (hP : pz_wfP P) {ls pre post : List Int} (hls : ls = pre ++ (pz_hd P ++ post)) {q : Nat} (hq : q = pre.length) (c : Nat) :
    ws ls (pz_evP P q c).2.2.1 (pz_evP P q c).2.2.2.1 = P.2.2.1 ∧ ws ls (pz_evP P q c).2.2.2.2.1 (pz_evP P q c).2.2.2.2.2.1 = P.2.2.2 ∧ ws_v ls (pz_evP P q c) := by
  have e1 : ∃ A B : List Int, A.length = 1 + (if P.1 = 1 then 1 else 0) ∧ B.length = (if P.1 = 5 then 1 else 0) ∧ ls = (pre ++ A) ++ (P.2.2.1 ++ (B ++ (P.2.2.2 ++ post))) := by
    refine ⟨pz_lt P.1 P.2.1 :: (if P.1 = 1 then [97 + P.2.1] else []), (if P.1 = 5 then [97 + P.2.1] else []), ?_, ?_, ?_⟩
    · rw [List.length_cons]; split
      · rfl
      · rfl
    · split
      · rfl
      · rfl
    · rw [hls]
      unfold pz_hd
      simp only [List.append_assoc, List.cons_append]
  obtain ⟨A, B, hA, hB, e1⟩ := e1
  have e2 : ls = (pre ++ A ++ P.2.2.1 ++ B) ++ (P.2.2.2 ++ post) := by rw [e1]; simp only [List.append_assoc]
  have hlen : ls.length = pre.length + A.length + P.2.2.1.length + B.length + P.2.2.2.length + post.length := by
    rw [e2]; simp only [List.length_append]; omega
  have r1 : ws ls (pz_evP P q c).2.2.1 (pz_evP P q c).2.2.2.1 = P.2.2.1 := by
    conv => lhs; rw [e1]
    exact ws_mid _ _ _ (by rw [List.length_append, hA, ← hq]; show ((q + 1 + (if P.1 = 1 then 1 else 0) : Nat) : Int) = _; omega) rfl
  have r2 : ws ls (pz_evP P q c).2.2.2.2.1 (pz_evP P q c).2.2.2.2.2.1 = P.2.2.2 := by
    conv => lhs; rw [e2]
    exact ws_mid _ _ _ (by rw [List.length_append, List.length_append, List.length_append, hA, hB, ← hq]; show ((q + 1 + (if P.1 = 1 then 1 else 0) + P.2.2.1.length + (if P.1 = 5 then 1 else 0) : Nat) : Int) = _; omega) rfl
  have s1 : (pz_evP P q c).2.2.1 = ((pre.length + A.length : Nat) : Int) := by rw [hA, ← hq]; show ((q + 1 + (if P.1 = 1 then 1 else 0) : Nat) : Int) = _; omega
  have s2 : (pz_evP P q c).2.2.2.1 = ((P.2.2.1.length : Nat) : Int) := rfl
  have s3 : (pz_evP P q c).2.2.2.2.1 = ((pre.length + A.length + P.2.2.1.length + B.length : Nat) : Int) := by rw [hA, hB, ← hq]; show ((q + 1 + (if P.1 = 1 then 1 else 0) + P.2.2.1.length + (if P.1 = 5 then 1 else 0) : Nat) : Int) = _; omega
  have s4 : (pz_evP P q c).2.2.2.2.2.1 = ((P.2.2.2.length : Nat) : Int) := rfl
  refine ⟨r1, r2, fun _ => ⟨⟨⟨by omega, by omega, by omega⟩, ?_⟩, ⟨⟨by omega, by omega, by omega⟩, ?_⟩⟩⟩
  · rw [r1, s2]
    have := hP.2.2.1
    split at this
    · rw [this]; exact .inl rfl
    · exact .inr this
  · rw [r2, s4]
    have := hP.2.2.2
    split at this
    · exact .inr this
    · rw [this]; exact .inl rfl
/-- these are the words of these events -/
def ws_at (W1 W2 : Nat → List Int) (ls : List Int) (e : Nat) (L : List pz_Ev) : Prop := ∀ (i : Nat) (v : pz_Ev), L[i]? = some v → v.1 ≤ 8 → W1 (e + i) = ws ls v.2.2.1 v.2.2.2.1 ∧ W2 (e + i) = ws ls v.2.2.2.2.1 v.2.2.2.2.2.1
theorem ws_at.app {W1 W2 : Nat → List Int} {ls : List Int} {e : Nat} {A B : List pz_Ev} (h : ws_at W1 W2 ls e (A ++ B)) : ws_at W1 W2 ls e A ∧ ws_at W1 W2 ls (e + A.length) B :=
  ⟨fun i v hi => h i v (by rw [List.getElem?_append_left (List.getElem?_eq_some_iff.1 hi).1]; exact hi), fun i v hi => by
    rw [Nat.add_assoc]
    exact h (A.length + i) v (by rw [List.getElem?_append_right (by omega), show A.length + i - A.length = i by omega]; exact hi)⟩
theorem ws_at.cons {W1 W2 : Nat → List Int} {ls : List Int} {e : Nat} {v : pz_Ev} {B : List pz_Ev} (h : ws_at W1 W2 ls e (v :: B)) : (v.1 ≤ 8 → W1 e = ws ls v.2.2.1 v.2.2.2.1 ∧ W2 e = ws ls v.2.2.2.2.1 v.2.2.2.2.2.1) ∧ ws_at W1 W2 ls (e + 1) B :=
  ⟨fun y => h 0 v rfl y, fun i v hi => by rw [show e + 1 + i = e + (i + 1) by omega]; exact h (i + 1) v hi⟩
theorem ws_t {ls : List Int} : ∀ (t : pz_T), pz_wf t → ∀ (pre post : List Int) (q e c : Nat), ls = pre ++ (pz_pr t ++ post) → q = pre.length → (∀ v ∈ pz_fl t q e c, ws_v ls v) ∧ ∀ W1 W2, ws_at W1 W2 ls e (pz_fl t q e c) → ev_w W1 W2 t e := by
  intro t
  induction t using pz_ind with
  | h0 => intro _ pre post q e c _ _; exact ⟨fun v hv => absurd hv List.not_mem_nil, fun _ _ _ => trivial⟩
  | h2 s P v t => intro h; exact h.elim
  | h1 s P v t s' P' v' a b iht iha ihb =>
    intro hw pre post q e c hls hq
    obtain ⟨w1, w2, w3, w4, w5, w6⟩ := hw
    rw [pz_pr_nd] at hls
    obtain ⟨t1, t2⟩ := iht w1 pre _ q e c (by rw [hls, List.append_assoc]) hq
    obtain ⟨p1, p2, p3⟩ := ws_nd (ls := ls) w4 (pre := pre ++ pz_pr t) (post := (if 6 ≤ P.1 then 40 :: (pz_pr a ++ 41 :: (if P.1 = 7 then [] else 40 :: (pz_pr b ++ [41]))) else []) ++ post) (by rw [hls]; simp only [List.append_assoc]) (q := q + (pz_pr t).length) (by rw [List.length_append, hq]) (c + pz_kn t)
    rw [pz_fl_nd]
    by_cases h6 : 6 ≤ P.1
    · rw [if_pos h6] at hls ⊢
      obtain ⟨a1, a2⟩ := iha w2 (pre ++ pz_pr t ++ pz_hd P ++ [40]) (41 :: (if P.1 = 7 then [] else 40 :: (pz_pr b ++ [41])) ++ post) (q + (pz_pr t).length + (pz_hd P).length + 1) (e + pz_ne t + 2) (c + pz_kn t + (pz_kd (P.1, 0, 0, 0, 0, 0, 0, 0)).length) (by rw [hls]; simp only [List.append_assoc, List.cons_append, List.nil_append]) (by simp only [List.length_append, List.length_cons, List.length_nil]; omega)
      by_cases h7 : P.1 = 7
      · rw [if_pos h7]
        refine ⟨fun v hv => ?_, fun W1 W2 hW => ?_⟩
        · rcases List.mem_append.1 hv with y | y
          · exact t1 v y
          · rcases List.mem_cons.1 y with y | y
            · rw [y]; exact p3
            · rcases List.mem_cons.1 y with y | y
              · rw [y]; first | exact fun z => absurd (show (9 : Int) ≤ 8 from z) (by decide) | exact fun z => absurd (show (10 : Int) ≤ 8 from z) (by decide)
              · rcases List.mem_append.1 y with y | y
                · exact a1 v y
                · rcases List.mem_cons.1 y with y | y
                  · rw [y]; first | exact fun z => absurd (show (9 : Int) ≤ 8 from z) (by decide) | exact fun z => absurd (show (10 : Int) ≤ 8 from z) (by decide)
                  · exact absurd y List.not_mem_nil
        · obtain ⟨x1, x2⟩ := hW.app
          rw [pz_fl_len] at x2
          obtain ⟨x3, x4⟩ := x2.cons
          obtain ⟨x5, x6⟩ := x4.cons
          obtain ⟨x7, x8⟩ := x6.app
          obtain ⟨x9, x10⟩ := x3 w4.1.2
          rw [p1] at x9
          rw [p2] at x10
          exact ⟨t2 W1 W2 x1, ⟨x9, x10⟩, fun _ => ⟨a2 W1 W2 x7, fun z => absurd h7 z⟩⟩
      · rw [if_neg h7] at hls ⊢
        obtain ⟨b1, b2⟩ := ihb w3 (pre ++ pz_pr t ++ pz_hd P ++ [40] ++ pz_pr a ++ [41, 40]) ([41] ++ post) (q + (pz_pr t).length + (pz_hd P).length + 1 + (pz_pr a).length + 2) (e + pz_ne t + 2 + pz_ne a + 2) (c + pz_kn t + (pz_kd (P.1, 0, 0, 0, 0, 0, 0, 0)).length + pz_kn a) (by rw [hls]; simp only [List.append_assoc, List.cons_append, List.nil_append]) (by simp only [List.length_append, List.length_cons, List.length_nil]; omega)
        refine ⟨fun v hv => ?_, fun W1 W2 hW => ?_⟩
        · rcases List.mem_append.1 hv with y | y
          · exact t1 v y
          · rcases List.mem_cons.1 y with y | y
            · rw [y]; exact p3
            · rcases List.mem_cons.1 y with y | y
              · rw [y]; first | exact fun z => absurd (show (9 : Int) ≤ 8 from z) (by decide) | exact fun z => absurd (show (10 : Int) ≤ 8 from z) (by decide)
              · rcases List.mem_append.1 y with y | y
                · exact a1 v y
                · rcases List.mem_cons.1 y with y | y
                  · rw [y]; first | exact fun z => absurd (show (9 : Int) ≤ 8 from z) (by decide) | exact fun z => absurd (show (10 : Int) ≤ 8 from z) (by decide)
                  · rcases List.mem_cons.1 y with y | y
                    · rw [y]; first | exact fun z => absurd (show (9 : Int) ≤ 8 from z) (by decide) | exact fun z => absurd (show (10 : Int) ≤ 8 from z) (by decide)
                    · rcases List.mem_append.1 y with y | y
                      · exact b1 v y
                      · rcases List.mem_cons.1 y with y | y
                        · rw [y]; first | exact fun z => absurd (show (9 : Int) ≤ 8 from z) (by decide) | exact fun z => absurd (show (10 : Int) ≤ 8 from z) (by decide)
                        · exact absurd y List.not_mem_nil
        · obtain ⟨x1, x2⟩ := hW.app
          rw [pz_fl_len] at x2
          obtain ⟨x3, x4⟩ := x2.cons
          obtain ⟨x5, x6⟩ := x4.cons
          obtain ⟨x7, x8⟩ := x6.app
          rw [pz_fl_len] at x8
          obtain ⟨-, y2⟩ := x8.cons
          obtain ⟨-, y4⟩ := y2.cons
          obtain ⟨y5, -⟩ := y4.app
          obtain ⟨x9, x10⟩ := x3 w4.1.2
          rw [p1] at x9
          rw [p2] at x10
          exact ⟨t2 W1 W2 x1, ⟨x9, x10⟩, fun _ => ⟨a2 W1 W2 x7, fun _ => b2 W1 W2 y5⟩⟩
    · rw [if_neg h6] at hls ⊢
      refine ⟨fun v hv => ?_, fun W1 W2 hW => ?_⟩
      · rcases List.mem_append.1 hv with y | y
        · exact t1 v y
        · rcases List.mem_cons.1 y with y | y
          · rw [y]; exact p3
          · exact absurd y List.not_mem_nil
      · obtain ⟨x1, x2⟩ := hW.app
        rw [pz_fl_len] at x2
        obtain ⟨x3, -⟩ := x2.cons
        obtain ⟨x9, x10⟩ := x3 w4.1.2
        rw [p1] at x9
        rw [p2] at x10
        exact ⟨t2 W1 W2 x1, ⟨x9, x10⟩, fun z => absurd z h6⟩
