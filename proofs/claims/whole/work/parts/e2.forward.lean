/-! a step of a row of the class by its statement's sort -/
theorem mp_w_c {s : Nat} {v x : Int} (hs : s < 256) (hv : 0 ≤ v ∧ v ≤ 3) (hx : 0 ≤ x ∧ x ≤ 3) : pz_sw ((s : Nat) : Int) v x = ((mp_w s v x : Nat) : Int) := by
  have := pz_sw_r ((s : Nat) : Int) v x (by omega) (by omega) hv.1 hv.2 hx.1 hx.2
  unfold mp_w
  omega
theorem cl_z_lt {f : Nat → Bool} {s : Nat} (hs : s < 256) : 0 ≤ ab_and ((s : Nat) : Int) (ab_xor (pz_mb f) (-1)) ∧ ab_and ((s : Nat) : Int) (ab_xor (pz_mb f) (-1)) ≤ 255 := by
  have e := (mp_z4_k (f 0) (f 1) (f 2) (f 3) ⟨s, hs⟩).1
  have hlt : mp_z4 (f 0) (f 1) (f 2) (f 3) s < 256 := by
    have d0 := mp_d_lt 0 s
    have d1 := mp_d_lt 1 s
    have d2 := mp_d_lt 2 s
    have d3 := mp_d_lt 3 s
    unfold mp_z4
    repeat' split
    all_goals omega
  unfold pz_mb
  rw [e]
  exact ⟨by omega, by show ((mp_z4 (f 0) (f 1) (f 2) (f 3) s : Nat) : Int) ≤ 255; omega⟩
theorem cl_R.st {M : ab_M} {P : pz_P} {r l c : Nat} {f : Nat → Bool} {G H : Int} (h : cl_R M P r l c f G H) (hP : pz_wfP P) {s : Nat} (hs : s < 256) (md : Int) :
  (P.1 = 0 → pl_fd M ((r : Nat) : Int) ((s : Nat) : Int) md = (-1, [G * 256 + ((mp_w s P.2.1 (mp_v s P.2.2.1) : Nat) : Int)])) ∧
  (P.1 = 1 → (pl_fd M ((r : Nat) : Int) ((s : Nat) : Int) md).1 = -1 ∧ ∀ q, q ∈ (pl_fd M ((r : Nat) : Int) ((s : Nat) : Int) md).2 ↔ ∃ x : Nat, x < 4 ∧ q = G * 256 + ((mp_w s P.2.1 ((x : Nat) : Int) : Nat) : Int)) ∧
  (P.1 = 2 → pl_fd M ((r : Nat) : Int) ((s : Nat) : Int) md = if mp_v s P.2.2.1 = 0 then ((c : Int), []) else (-1, [G * 256 + ((s : Nat) : Int)])) ∧
  (P.1 = 3 → pl_fd M ((r : Nat) : Int) ((s : Nat) : Int) md = (-1, if mp_v s P.2.2.1 = 0 then [] else [G * 256 + ((s : Nat) : Int)])) ∧
  (P.1 = 5 → (mp_v s P.2.2.1 = 0 → pl_fd M ((r : Nat) : Int) ((s : Nat) : Int) md = ((c : Int), [])) ∧ (¬ mp_v s P.2.2.1 = 0 → (pl_fd M ((r : Nat) : Int) ((s : Nat) : Int) md).1 = -1 ∧ ∀ q, q ∈ (pl_fd M ((r : Nat) : Int) ((s : Nat) : Int) md).2 ↔ ∃ x : Nat, x < 4 ∧ ¬ mp_v (mp_w s P.2.1 ((x : Nat) : Int)) P.2.2.2 = 0 ∧ q = G * 256 + ((mp_w s P.2.1 ((x : Nat) : Int) : Nat) : Int))) ∧
  (P.1 = 6 ∨ (P.1 = 7 ∧ ¬ md = 1) → pl_fd M ((r : Nat) : Int) ((s : Nat) : Int) md = (-1, [(if mp_v s P.2.2.1 = 0 then H else G) * 256 + ((s : Nat) : Int)])) ∧
  (P.1 = 7 ∧ md = 1 → pl_fd M ((r : Nat) : Int) ((s : Nat) : Int) md = if mp_v s P.2.2.2 = 0 then ((c : Int), []) else (-1, [((126 + l : Nat) : Int) * 256 + ab_and ((s : Nat) : Int) (ab_xor (pz_mb f) (-1))])) ∧
  (P.1 = 4 ∨ P.1 = 8 → pl_fd M ((r : Nat) : Int) ((s : Nat) : Int) md = (-1, [G * 256 + ((s : Nat) : Int)])) := by
  have hfd := h.fd ((s : Nat) : Int) md
  rw [hfd]
  obtain ⟨-, e0, e1, t1, t2, t3, e4, e7, ⟨gG, g0, g1⟩, gH, h0, h1⟩ := h
  obtain ⟨p1, p2, p3, p4⟩ := hP
  have s255 : 0 ≤ ((s : Nat) : Int) ∧ ((s : Nat) : Int) ≤ 255 := by omega
  have len0 : ([] : List Int).length < 256 := by decide
  refine ⟨fun z => ?_, fun z => ?_, fun z => ?_, fun z => ?_, fun z => ?_, fun z => ?_, fun z => ?_, fun z => ?_⟩
  · have q0 : M (26 + 1 + 1 + 3 * r) 0 = 118 := by rw [e0, z]; rfl
    rw [if_pos (Or.inl z)] at e1 p2
    rw [if_neg (by omega)] at p3
    have hv := mp_val_r p3 s
    unfold pl_st
    rw [if_pos q0, e1, t1 (by unfold pz_nt1; rw [if_neg (by omega)]) s hs, gG, mp_w_c hs p2 hv, cl_ad ⟨g0, g1⟩ (by have := mp_w_lt hs p2 hv; omega) len0]
    rfl
  · have q0 : M (26 + 1 + 1 + 3 * r) 0 = 104 := by rw [e0, z]; rfl
    rw [if_pos (Or.inr (Or.inl z))] at e1 p2
    have e3 := t3 (by unfold pz_nt2; rw [if_neg (by omega)]; decide)
    unfold pl_st
    rw [if_neg (by omega), if_pos q0]
    refine ⟨rfl, fun q => ?_⟩
    have hm := (cl_h_mem (M := M) (st := 26 + 1 + 1 + 3 * r) (s := ((s : Nat) : Int)) ⟨gG, g0, g1⟩ (fun x hx => by rw [e1, mp_w_c hs p2 (by omega)]; have := mp_w_lt (x := ((x : Nat) : Int)) hs p2 (by omega); omega) 4 (Nat.le_refl _)).2 q
    show q ∈ pl_h M (26 + 1 + 1 + 3 * r) ((s : Nat) : Int) [] 4 ↔ _
    rw [hm, e1]
    constructor
    · rintro ⟨x, x1, -, x2⟩
      exact ⟨x, x1, by rw [x2, mp_w_c hs p2 (by omega)]⟩
    · rintro ⟨x, x1, x2⟩
      exact ⟨x, x1, Or.inl (by omega), by rw [x2, mp_w_c hs p2 (by omega)]⟩
  · have q0 : M (26 + 1 + 1 + 3 * r) 0 = 107 := by rw [e0, z]; rfl
    unfold pl_st
    rw [if_neg (by omega), if_neg (by omega), if_pos q0, t1 (by unfold pz_nt1; rw [if_neg (by omega)]) s hs, gG, cl_ad ⟨g0, g1⟩ s255 len0, e4 (Or.inl z)]
    rfl
  · have q0 : M (26 + 1 + 1 + 3 * r) 0 = 115 := by rw [e0, z]; rfl
    unfold pl_st
    rw [if_neg (by omega), if_neg (by omega), if_neg (by omega), if_pos q0, t1 (by unfold pz_nt1; rw [if_neg (by omega)]) s hs, gG, cl_ad ⟨g0, g1⟩ s255 len0]
    rfl
  · have q0 : M (26 + 1 + 1 + 3 * r) 0 = 112 := by rw [e0, z]; rfl
    rw [if_pos (Or.inr (Or.inr z))] at e1 p2
    obtain ⟨t20, t2⟩ := t2 (by unfold pz_nt2; rw [if_pos (by omega)])
    unfold pl_st
    rw [if_neg (by omega), if_neg (by omega), if_neg (by omega), if_neg (by omega), if_pos q0, t1 (by unfold pz_nt1; rw [if_neg (by omega)]) s hs, e4 (Or.inr (Or.inl z))]
    refine ⟨fun y => by rw [if_pos y], fun y => ?_⟩
    rw [if_neg y]
    refine ⟨rfl, fun q => ?_⟩
    have hm := (cl_h_mem (M := M) (st := 26 + 1 + 1 + 3 * r) (s := ((s : Nat) : Int)) ⟨gG, g0, g1⟩ (fun x hx => by rw [e1, mp_w_c hs p2 (by omega)]; have := mp_w_lt (x := ((x : Nat) : Int)) hs p2 (by omega); omega) 4 (Nat.le_refl _)).2 q
    show q ∈ pl_h M (26 + 1 + 1 + 3 * r) ((s : Nat) : Int) [] 4 ↔ _
    rw [hm, e1]
    constructor
    · rintro ⟨x, x1, x2, x3⟩
      rw [mp_w_c hs p2 (by omega)] at x2 x3
      rw [t2 _ (mp_w_lt hs p2 (by omega))] at x2
      exact ⟨x, x1, x2.resolve_left (by omega), x3⟩
    · rintro ⟨x, x1, x2, x3⟩
      refine ⟨x, x1, Or.inr ?_, by rw [x3, mp_w_c hs p2 (by omega)]⟩
      rw [mp_w_c hs p2 (by omega), t2 _ (mp_w_lt hs p2 (by omega))]
      exact x2
  · have t1 := t1 (by unfold pz_nt1; rw [if_neg (by omega)]) s hs
    have hc : M (26 + 1 + 1 + 3 * r) 0 = 105 ∨ (M (26 + 1 + 1 + 3 * r) 0 = 119 ∧ ¬ md = 1) := by
      rcases z with z | ⟨z, hm⟩
      · exact Or.inl (by rw [e0, z]; rfl)
      · exact Or.inr ⟨by rw [e0, z]; rfl, hm⟩
    unfold pl_st
    rw [if_neg (by omega), if_neg (by omega), if_neg (by omega), if_neg (by omega), if_neg (by omega), if_neg (by omega), if_pos (by omega), t1, gG, gH, cl_ad (by split <;> omega) s255 len0]
    rfl
  · obtain ⟨z, hm⟩ := z
    have q0 : M (26 + 1 + 1 + 3 * r) 0 = 119 := by rw [e0, z]; rfl
    obtain ⟨⟨e5, l4⟩, -, e7⟩ := e7 z
    have t2 := (t2 (by unfold pz_nt2; rw [if_pos (by omega)])).2 s hs
    have hz := cl_z_lt (f := f) hs
    unfold pl_st
    rw [if_neg (by omega), if_neg (by omega), if_neg (by omega), if_neg (by omega), if_neg (by omega), if_pos ⟨q0, hm⟩]
    unfold pl_cut
    rw [t2, e4 (Or.inr (Or.inr z)), e5, e7, cl_ad (by omega) hz len0]
    rfl
  · have hc : M (26 + 1 + 1 + 3 * r) 0 = 116 ∨ M (26 + 1 + 1 + 3 * r) 0 = 121 := by
      rcases z with z | z
      · exact Or.inl (by rw [e0, z]; rfl)
      · exact Or.inr (by rw [e0, z]; rfl)
    unfold pl_st
    rw [if_neg (by omega), if_neg (by omega), if_neg (by omega), if_neg (by omega), if_neg (by omega), if_neg (by omega), if_neg (by omega), gG, cl_ad ⟨g0, g1⟩ s255 len0]
    rfl
/-! the class's graph and what may come of a run -/
theorem gx_W_st {S : Nat → List Int} {O : Nat → Prop} {n j : Nat} (h : gx_W S O n j) : O j ∨ ∃ q ∈ S j, ∃ m, m < n ∧ gx_W S O m q.toNat := by
  cases n with
  | zero => exact Or.inl h
  | succ n =>
    rcases h with h | ⟨q, q1, q2⟩
    · exact Or.inl h
    · exact Or.inr ⟨q, q1, n, Nat.lt_succ_self n, q2⟩
/-- a row fails where it must -/
def cl_O (M : ab_M) (md : Int) (O : Nat → Prop) (Qf : mp_Q) (row : Int) : Prop := ∀ s : Nat, s < 256 → (O (cl_j row s) ↔ ∃ c : Nat, (pl_fd M row ((s : Nat) : Int) md).1 = (c : Int) ∧ Qf c)
abbrev cl_W (M : ab_M) (md : Int) (O : Nat → Prop) (n : Nat) (row : Int) (s : Nat) : Prop := gx_W (gc_S M md) O n (cl_j row s)
theorem cl_jn (G : Int) (s : Nat) : (G * 256 + ((s : Nat) : Int)).toNat = cl_j G s := rfl
abbrev mp_mo (T : mp_Q → mp_Q → mp_Q) : Prop := ∀ Q1 Q2 Q1' Q2', mp_le Q1 Q1' → mp_le Q2 Q2' → mp_le (T Q1 Q2) (T Q1' Q2')
theorem cl_fw_st {M : ab_M} {md : Int} {O : Nat → Prop} {Qf : mp_Q} {P : pz_P} {r l c : Nat} {f : Nat → Bool} {G H A C ea eb : Int} {TA TB : mp_Q → mp_Q → mp_Q} (hmd : md = 0 ∨ md = 1) (hR : cl_R M P r l c f G H) (hP : pz_wfP P) (hO : cl_O M md O Qf ((r : Nat) : Int)) (hO7 : P.1 = 7 → cl_O M md O Qf ((122 + l : Nat) : Int) ∧ cl_O M md O Qf ((126 + l : Nat) : Int))
    (hG : G = if P.1 = 4 then C else if 6 ≤ P.1 then ea else A) (hH : H = if P.1 = 6 then eb else A) (mA : mp_mo TA) (mB : mp_mo TB)
    (hA : 6 ≤ P.1 → ∀ n s, s < 256 → cl_W M md O n ea s → TA (cl_W M md O n (if P.1 = 7 then ((122 + l : Nat) : Int) else A)) (cl_W M md O n (if P.1 = 8 then eb else C)) s) (hB : 6 ≤ P.1 → P.1 ≠ 7 → ∀ n s, s < 256 → cl_W M md O n eb s → TB (cl_W M md O n A) (cl_W M md O n C) s) :
    ∀ n s, s < 256 → cl_W M md O n ((r : Nat) : Int) s → mp_P md P f c TA TB Qf (cl_W M md O n A) (cl_W M md O n C) s := by
  intro n s hs hW
  obtain ⟨x0, x1, x2, x3, x5, x6, x7, x8⟩ := hR.st hP hs md
  have hr0 : 0 ≤ ((r : Nat) : Int) := by omega
  have hle : ∀ {m : Nat} {row : Int} {s : Nat}, m < n → cl_W M md O m row s → cl_W M md O n row s := fun hm h => gx_W_le (Nat.le_of_lt hm) h
  have hw := gx_W_st hW
  rw [hO s hs, cl_gc hr0 hs] at hw
  have p1 := hP.1
  unfold mp_P
  by_cases z0 : P.1 = 0
  · rw [if_pos z0]
    rw [x0 z0] at hw
    rw [if_neg (by omega), if_neg (by omega)] at hG
    rcases hw with ⟨c', h1, -⟩ | ⟨q, h1, m, hm, h2⟩
    · exact absurd h1 (by show ¬ (-1 : Int) = _; omega)
    · rw [List.mem_singleton.1 h1, hG] at h2
      exact hle hm h2
  rw [if_neg z0]
  by_cases z1 : P.1 = 1
  · rw [if_pos z1]
    rw [(x1 z1).1] at hw
    rw [if_neg (by omega), if_neg (by omega)] at hG
    rcases hw with ⟨c', h1, -⟩ | ⟨q, h1, m, hm, h2⟩
    · omega
    · obtain ⟨x, y1, y2⟩ := ((x1 z1).2 q).1 h1
      rw [y2, hG] at h2
      exact ⟨x, y1, hle hm h2⟩
  rw [if_neg z1]
  by_cases z2 : P.1 = 2
  · rw [if_pos z2]
    rw [x2 z2] at hw
    rw [if_neg (by omega), if_neg (by omega)] at hG
    by_cases v : mp_v s P.2.2.1 = 0
    · rw [if_pos v] at hw
      rcases hw with ⟨c', h1, h2⟩ | ⟨q, h1, m, hm, h2⟩
      · have h1 : (c : Int) = (c' : Int) := h1
        have : c = c' := by omega
        subst this
        exact Or.inl ⟨v, h2⟩
      · exact absurd h1 List.not_mem_nil
    · rw [if_neg v] at hw
      rcases hw with ⟨c', h1, h2⟩ | ⟨q, h1, m, hm, h2⟩
      · exact absurd h1 (by show ¬ (-1 : Int) = _; omega)
      · rw [List.mem_singleton.1 h1, hG] at h2
        exact Or.inr ⟨v, hle hm h2⟩
  rw [if_neg z2]
  by_cases z3 : P.1 = 3
  · rw [if_pos z3]
    rw [x3 z3] at hw
    rw [if_neg (by omega), if_neg (by omega)] at hG
    rcases hw with ⟨c', h1, -⟩ | ⟨q, h1, m, hm, h2⟩
    · exact absurd h1 (by show ¬ (-1 : Int) = _; omega)
    · have h1 : q ∈ (if mp_v s P.2.2.1 = 0 then [] else [G * 256 + ((s : Nat) : Int)]) := h1
      by_cases v : mp_v s P.2.2.1 = 0
      · rw [if_pos v] at h1; exact absurd h1 List.not_mem_nil
      · rw [if_neg v] at h1
        rw [List.mem_singleton.1 h1, hG] at h2
        exact ⟨v, hle hm h2⟩
  rw [if_neg z3]
  by_cases z4 : P.1 = 4
  · rw [if_pos z4]
    rw [x8 (Or.inl z4)] at hw
    rw [if_pos z4] at hG
    rcases hw with ⟨c', h1, -⟩ | ⟨q, h1, m, hm, h2⟩
    · exact absurd h1 (by show ¬ (-1 : Int) = _; omega)
    · rw [List.mem_singleton.1 h1, hG] at h2
      exact hle hm h2
  rw [if_neg z4]
  rw [if_neg z4] at hG
  by_cases z5 : P.1 = 5
  · rw [if_pos z5]
    rw [if_neg (by omega)] at hG
    by_cases v : mp_v s P.2.2.1 = 0
    · rw [(x5 z5).1 v] at hw
      rcases hw with ⟨c', h1, h2⟩ | ⟨q, h1, m, hm, h2⟩
      · have h1 : (c : Int) = (c' : Int) := h1
        have : c = c' := by omega
        subst this
        exact Or.inl ⟨v, h2⟩
      · exact absurd h1 List.not_mem_nil
    · rw [((x5 z5).2 v).1] at hw
      rcases hw with ⟨c', h1, h2⟩ | ⟨q, h1, m, hm, h2⟩
      · omega
      · obtain ⟨x, y1, y2, y3⟩ := (((x5 z5).2 v).2 q).1 h1
        rw [y3, hG] at h2
        exact Or.inr ⟨v, x, y1, y2, hle hm h2⟩
  rw [if_neg z5]
  rw [if_pos (by omega)] at hG
  subst hG
  by_cases z6 : P.1 = 6
  · rw [if_pos z6]
    rw [x6 (Or.inl z6)] at hw
    rw [if_pos z6] at hH
    have hA := hA (by omega)
    rw [if_neg (by omega), if_neg (by omega)] at hA
    rcases hw with ⟨c', h1, -⟩ | ⟨q, h1, m, hm, h2⟩
    · exact absurd h1 (by show ¬ (-1 : Int) = _; omega)
    · rw [List.mem_singleton.1 h1] at h2
      by_cases v : mp_v s P.2.2.1 = 0
      · rw [if_pos v, hH] at h2
        exact Or.inr ⟨v, hB (by omega) (by omega) n s hs (hle hm h2)⟩
      · rw [if_neg v] at h2
        exact Or.inl ⟨v, hA n s hs (hle hm h2)⟩
  rw [if_neg z6]
  rw [if_neg z6] at hH
  subst hH
  by_cases z7 : P.1 = 7
  · rw [if_pos z7]
    have hA := hA (by omega)
    rw [if_pos z7, if_neg (by omega)] at hA
    obtain ⟨hOb, hOh⟩ := hO7 z7
    by_cases hm1 : md = 1
    · rw [if_pos hm1]
      rw [x7 ⟨z7, hm1⟩] at hw
      by_cases v : mp_v s P.2.2.2 = 0
      · rw [if_pos v] at hw
        rcases hw with ⟨c', h1, h2⟩ | ⟨q, h1, m, hm, h2⟩
        · have h1 : (c : Int) = (c' : Int) := h1
          have : c = c' := by omega
          subst this
          exact Or.inl ⟨v, h2⟩
        · exact absurd h1 List.not_mem_nil
      · rw [if_neg v] at hw
        rcases hw with ⟨c', h1, h2⟩ | ⟨q, h1, m, hm, h2⟩
        · exact absurd h1 (by show ¬ (-1 : Int) = _; omega)
        · refine Or.inr ⟨v, ?_⟩
          rw [List.mem_singleton.1 h1] at h2
          have hz := cl_z_lt (f := f) hs
          obtain ⟨z, ez⟩ : ∃ z : Nat, ab_and ((s : Nat) : Int) (ab_xor (pz_mb f) (-1)) = ((z : Nat) : Int) := ⟨_, (Int.toNat_of_nonneg hz.1).symm⟩
          have hd := fun q => cl_head hR z7 hs md q
          rw [ez] at h2 hd hz
          have h3 := gx_W_st h2
          have h4 : O (cl_j ((126 + l : Nat) : Int) z) ∨ ∃ q ∈ gc_S M md (cl_j ((126 + l : Nat) : Int) z), ∃ m', m' < m ∧ gx_W (gc_S M md) O m' q.toNat := h3
          rw [hOh z (by omega), cl_gc (by omega) (by omega), (hd 0).1] at h4
          rcases h4 with ⟨c', y1, -⟩ | ⟨q', y1, m', hm', y2⟩
          · omega
          · obtain ⟨s', u1, u2, u3⟩ := (hd q').2.1 y1
            rw [u3] at y2
            refine ⟨s', u1, u2, ?_⟩
            by_cases w : mp_v s' P.2.2.1 = 0
            · rw [if_pos w] at y2
              exact Or.inl ⟨w, hle (by omega) y2⟩
            · rw [if_neg w] at y2
              refine Or.inr ⟨w, mA _ _ _ _ (fun s2 hs2 h => ?_) (mp_le.rf _) _ u1.1 (hA n s' u1.1 (hle (by omega) y2))⟩
              have hb : pl_fd M ((122 + l : Nat) : Int) ((s2 : Nat) : Int) md = (if mp_v s2 P.2.2.2 = 0 then (c : Int) + 1 else -1, []) := by rw [hm1]; exact (cl_back hR z7 hs2).2
              have h5 := gx_W_st h
              have h6 : O (cl_j ((122 + l : Nat) : Int) s2) ∨ ∃ q ∈ gc_S M md (cl_j ((122 + l : Nat) : Int) s2), ∃ m', m' < n ∧ gx_W (gc_S M md) O m' q.toNat := h5
              rw [hOb s2 hs2, cl_gc (by omega) hs2, hb] at h6
              rcases h6 with ⟨c', i1, i2⟩ | ⟨q', i1, -⟩
              · have i1 : (if mp_v s2 P.2.2.2 = 0 then (c : Int) + 1 else -1) = (c' : Int) := i1
                by_cases v2 : mp_v s2 P.2.2.2 = 0
                · rw [if_pos v2] at i1
                  have : c' = c + 1 := by omega
                  rw [← this]
                  exact ⟨v2, i2⟩
                · rw [if_neg v2] at i1; omega
              · exact absurd i1 List.not_mem_nil
    · rw [if_neg hm1]
      have hm0 : md = 0 := hmd.resolve_right hm1
      intro I hI
      have key : ∀ m s, m ≤ n → s < 256 → cl_W M md O m ((r : Nat) : Int) s → I s := by
        intro m
        induction m using Nat.strongRecOn with
        | ind m ih =>
          intro s hmn hs hW
          have hw := gx_W_st hW
          rw [hO s hs, cl_gc hr0 hs, (hR.st hP hs md).2.2.2.2.2.1 (Or.inr ⟨z7, hm1⟩)] at hw
          rcases hw with ⟨c', h1, -⟩ | ⟨q, h1, m', hm', h2⟩
          · exact absurd h1 (by show ¬ (-1 : Int) = _; omega)
          · rw [List.mem_singleton.1 h1] at h2
            refine hI s hs ?_
            by_cases v : mp_v s P.2.2.1 = 0
            · rw [if_pos v] at h2
              exact Or.inl ⟨v, hle (by omega) h2⟩
            · rw [if_neg v] at h2
              refine Or.inr ⟨v, mA _ _ _ _ (fun s2 hs2 h => ?_) (fun s2 hs2 h => hle (by omega) h) _ hs (hA m' s hs h2)⟩
              have hb : pl_fd M ((122 + l : Nat) : Int) ((s2 : Nat) : Int) md = (-1, [((r : Nat) : Int) * 256 + ((s2 : Nat) : Int)]) := by rw [hm0]; exact (cl_back hR z7 hs2).1
              have h5 := gx_W_st h
              have h6 : O (cl_j ((122 + l : Nat) : Int) s2) ∨ ∃ q ∈ gc_S M md (cl_j ((122 + l : Nat) : Int) s2), ∃ m2, m2 < m' ∧ gx_W (gc_S M md) O m2 q.toNat := h5
              rw [hOb s2 hs2, cl_gc (by omega) hs2, hb] at h6
              rcases h6 with ⟨c', i1, i2⟩ | ⟨q', i1, m2, hm2, i2⟩
              · exact absurd i1 (by show ¬ (-1 : Int) = _; omega)
              · rw [List.mem_singleton.1 i1] at i2
                exact ih m2 (by omega) s2 (by omega) hs2 i2
      exact key n s (Nat.le_refl _) hs hW
  rw [if_neg z7]
  have z8 : P.1 = 8 := by omega
  have hA := hA (by omega)
  rw [if_neg (by omega), if_pos z8] at hA
  rw [x8 (Or.inr z8)] at hw
  rcases hw with ⟨c', h1, -⟩ | ⟨q, h1, m, hm, h2⟩
  · exact absurd h1 (by show ¬ (-1 : Int) = _; omega)
  · rw [List.mem_singleton.1 h1] at h2
    exact mA _ _ _ _ (mp_le.rf _) (fun s2 hs2 h => hB (by omega) (by omega) n s2 hs2 h) _ hs (hA n s hs (hle hm h2))
