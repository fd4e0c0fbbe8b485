/-! from what may come of a run back to the class's graph; trees -/
abbrev cl_Y (M : ab_M) (md : Int) (O : Nat → Prop) (row : Int) (s : Nat) : Prop := ∃ n, cl_W M md O n row s
theorem gx_R {S : Nat → List Int} {O : Nat → Prop} {j : Nat} (h : O j ∨ ∃ q ∈ S j, ∃ n, gx_W S O n q.toNat) : ∃ n, gx_W S O n j := by
  rcases h with h | ⟨q, q1, n, q2⟩
  · exact ⟨0, h⟩
  · exact ⟨n + 1, Or.inr ⟨q, q1, q2⟩⟩
theorem cl_bw_st {M : ab_M} {md : Int} {O : Nat → Prop} {Qf : mp_Q} {P : pz_P} {r l c : Nat} {f : Nat → Bool} {G H A C ea eb : Int} {TA TB : mp_Q → mp_Q → mp_Q} (hmd : md = 0 ∨ md = 1) (hR : cl_R M P r l c f G H) (hP : pz_wfP P) (hO : cl_O M md O Qf ((r : Nat) : Int)) (hO7 : P.1 = 7 → cl_O M md O Qf ((122 + l : Nat) : Int) ∧ cl_O M md O Qf ((126 + l : Nat) : Int))
    (hG : G = if P.1 = 4 then C else if 6 ≤ P.1 then ea else A) (hH : H = if P.1 = 6 then eb else A) (mA : mp_mo TA)
    (hA : 6 ≤ P.1 → ∀ s, s < 256 → TA (cl_Y M md O (if P.1 = 7 then ((122 + l : Nat) : Int) else A)) (cl_Y M md O (if P.1 = 8 then eb else C)) s → cl_Y M md O ea s) (hB : 6 ≤ P.1 → P.1 ≠ 7 → ∀ s, s < 256 → TB (cl_Y M md O A) (cl_Y M md O C) s → cl_Y M md O eb s) :
    ∀ s, s < 256 → mp_P md P f c TA TB Qf (cl_Y M md O A) (cl_Y M md O C) s → cl_Y M md O ((r : Nat) : Int) s := by
  intro s hs h
  obtain ⟨x0, x1, x2, x3, x5, x6, x7, x8⟩ := hR.st hP hs md
  have hr0 : 0 ≤ ((r : Nat) : Int) := by omega
  have p1 := hP.1
  refine gx_R ?_
  rw [hO s hs, cl_gc hr0 hs]
  unfold mp_P at h
  by_cases z0 : P.1 = 0
  · rw [if_pos z0] at h
    rw [if_neg (by omega), if_neg (by omega)] at hG
    rw [x0 z0, hG]
    exact Or.inr ⟨_, List.mem_singleton.2 rfl, h⟩
  rw [if_neg z0] at h
  by_cases z1 : P.1 = 1
  · rw [if_pos z1] at h
    rw [if_neg (by omega), if_neg (by omega)] at hG
    obtain ⟨x, y1, n, y2⟩ := h
    exact Or.inr ⟨_, ((x1 z1).2 _).2 ⟨x, y1, rfl⟩, n, by rw [hG]; exact y2⟩
  rw [if_neg z1] at h
  by_cases z2 : P.1 = 2
  · rw [if_pos z2] at h
    rw [if_neg (by omega), if_neg (by omega)] at hG
    rw [x2 z2, hG]
    rcases h with ⟨v, h⟩ | ⟨v, h⟩
    · rw [if_pos v]; exact Or.inl ⟨c, rfl, h⟩
    · rw [if_neg v]; exact Or.inr ⟨_, List.mem_singleton.2 rfl, h⟩
  rw [if_neg z2] at h
  by_cases z3 : P.1 = 3
  · rw [if_pos z3] at h
    rw [if_neg (by omega), if_neg (by omega)] at hG
    rw [x3 z3, hG, if_neg h.1]
    exact Or.inr ⟨_, List.mem_singleton.2 rfl, h.2⟩
  rw [if_neg z3] at h
  by_cases z4 : P.1 = 4
  · rw [if_pos z4] at h
    rw [if_pos z4] at hG
    rw [x8 (Or.inl z4), hG]
    exact Or.inr ⟨_, List.mem_singleton.2 rfl, h⟩
  rw [if_neg z4] at h hG
  by_cases z5 : P.1 = 5
  · rw [if_pos z5] at h
    rw [if_neg (by omega)] at hG
    rcases h with ⟨v, h⟩ | ⟨v, x, y1, y2, n, y3⟩
    · rw [(x5 z5).1 v]; exact Or.inl ⟨c, rfl, h⟩
    · exact Or.inr ⟨_, (((x5 z5).2 v).2 _).2 ⟨x, y1, y2, rfl⟩, n, by rw [hG]; exact y3⟩
  rw [if_neg z5] at h
  rw [if_pos (by omega)] at hG
  subst hG
  by_cases z6 : P.1 = 6
  · rw [if_pos z6] at h
    rw [if_pos z6] at hH
    have hA := hA (by omega)
    rw [if_neg (by omega), if_neg (by omega)] at hA
    rw [x6 (Or.inl z6), hH]
    refine Or.inr ⟨_, List.mem_singleton.2 rfl, ?_⟩
    rcases h with ⟨v, h⟩ | ⟨v, h⟩
    · rw [if_neg v]; exact hA s hs h
    · rw [if_pos v]; exact hB (by omega) (by omega) s hs h
  rw [if_neg z6] at h hH
  subst hH
  by_cases z7 : P.1 = 7
  · rw [if_pos z7] at h
    have hA := hA (by omega)
    rw [if_pos z7, if_neg (by omega)] at hA
    obtain ⟨hOb, hOh⟩ := hO7 z7
    by_cases hm1 : md = 1
    · rw [if_pos hm1] at h
      rw [x7 ⟨z7, hm1⟩]
      rcases h with ⟨v, h⟩ | ⟨v, s', u1, u2, h⟩
      · rw [if_pos v]; exact Or.inl ⟨c, rfl, h⟩
      · rw [if_neg v]
        refine Or.inr ⟨_, List.mem_singleton.2 rfl, ?_⟩
        have hz := cl_z_lt (f := f) hs
        obtain ⟨z, ez⟩ : ∃ z : Nat, ab_and ((s : Nat) : Int) (ab_xor (pz_mb f) (-1)) = ((z : Nat) : Int) := ⟨_, (Int.toNat_of_nonneg hz.1).symm⟩
        have hd := fun q => cl_head hR z7 hs md q
        rw [ez] at hd hz ⊢
        show cl_Y M md O ((126 + l : Nat) : Int) z
        refine gx_R (Or.inr ⟨(if mp_v s' P.2.2.1 = 0 then H else G) * 256 + ((s' : Nat) : Int), ?_, ?_⟩)
        · rw [cl_gc (by omega) (by omega)]
          exact (hd _).2.2 ⟨s', u1, u2, rfl⟩
        · rcases h with ⟨w, h⟩ | ⟨w, h⟩
          · rw [if_pos w]; exact h
          · rw [if_neg w]
            refine hA s' u1.1 (mA _ _ _ _ (fun s2 hs2 h => ?_) (mp_le.rf _) _ u1.1 h)
            have hb : pl_fd M ((122 + l : Nat) : Int) ((s2 : Nat) : Int) md = (if mp_v s2 P.2.2.2 = 0 then (c : Int) + 1 else -1, []) := by rw [hm1]; exact (cl_back hR z7 hs2).2
            refine gx_R (Or.inl ?_)
            rw [hOb s2 hs2, hb, if_pos h.1]
            exact ⟨c + 1, by show (c : Int) + 1 = _; omega, h.2⟩
    · rw [if_neg hm1] at h
      have hm0 : md = 0 := hmd.resolve_right hm1
      have := h (cl_Y M md O ((r : Nat) : Int)) fun s' hs' h => by
        obtain ⟨-, -, -, -, -, y6, -⟩ := hR.st hP hs' md
        refine gx_R ?_
        rw [cl_gc hr0 hs', y6 (Or.inr ⟨z7, hm1⟩)]
        refine Or.inr ⟨_, List.mem_singleton.2 rfl, ?_⟩
        rcases h with ⟨v, h⟩ | ⟨v, h⟩
        · rw [if_pos v]; exact h
        · rw [if_neg v]
          refine hA s' hs' (mA _ _ _ _ (fun s2 hs2 h => ?_) (mp_le.rf _) _ hs' h)
          have hb : pl_fd M ((122 + l : Nat) : Int) ((s2 : Nat) : Int) md = (-1, [((r : Nat) : Int) * 256 + ((s2 : Nat) : Int)]) := by rw [hm0]; exact (cl_back hR z7 hs2).1
          refine gx_R (Or.inr ⟨_, ?_, h⟩)
          rw [cl_gc (by omega) hs2, hb]
          exact List.mem_singleton.2 rfl
      obtain ⟨n, hn⟩ := this
      have h5 := gx_W_st hn
      rw [hO s hs, cl_gc hr0 hs] at h5
      exact h5.imp id fun ⟨q, q1, m, _, q2⟩ => ⟨q, q1, m, q2⟩
  rw [if_neg z7] at h
  have z8 : P.1 = 8 := by omega
  have hA := hA (by omega)
  rw [if_neg (by omega), if_pos z8] at hA
  rw [x8 (Or.inr z8)]
  exact Or.inr ⟨_, List.mem_singleton.2 rfl, hA s hs (mA _ _ _ _ (mp_le.rf _) (fun s2 hs2 h => hB (by omega) (by omega) s2 hs2 h) _ hs h)⟩
/-! trees -/
/-- the values of the terms of a tree, from the k-th on -/
def cl_V (M : ab_M) : pz_T → Nat → Prop
  | .leaf, _ => True
  | .inner _ P _ t (.inner _ _ _ a b), k => cl_V M t k ∧ ((pz_nt1 P.1 = 1 → ∀ s : Nat, s < 256 → tv M ((k + pz_nt t : Nat) : Int) ((s : Nat) : Int) = mp_v s P.2.2.1) ∧ (pz_nt2 P.1 = 1 → ∀ s : Nat, s < 256 → tv M (((k + pz_nt t : Nat) : Int) + 1) ((s : Nat) : Int) = mp_v s P.2.2.2)) ∧ cl_V M a (k + pz_nt t + pz_nt1 P.1 + pz_nt2 P.1) ∧ cl_V M b (k + pz_nt t + pz_nt1 P.1 + pz_nt2 P.1 + pz_nt a)
  | .inner _ _ _ _ .leaf, _ => False
/-- the rows of a tree, the places of its loops -/
def cl_in (r0 sz l nl : Nat) (row : Int) : Prop := ((r0 : Int) ≤ row ∧ row < ((r0 + sz : Nat) : Int)) ∨ (((122 + l : Nat) : Int) ≤ row ∧ row < ((122 + l + nl : Nat) : Int)) ∨ (((126 + l : Nat) : Int) ≤ row ∧ row < ((126 + l + nl : Nat) : Int))
theorem cl_ent_rg {t : pz_T} {r0 : Nat} {A : Int} (hA : 0 ≤ A ∧ A < 130) (hr : r0 + pz_sz t ≤ 120) : 0 ≤ cr_ent t r0 A ∧ cr_ent t r0 A < 130 := by
  cases t with
  | leaf => exact hA
  | inner s P v p c => exact ⟨by show (0 : Int) ≤ (r0 : Int); omega, by show (r0 : Int) < 130; omega⟩
theorem cl_row {f : Nat → Int} {M : ab_M} {P : pz_P} {t a b : pz_T} {r0 l c k : Nat} {par side nx pv A C b0 b1 l0 l1 en : Int} {q : Nat} (hw : pz_wfP P) (hA : 0 ≤ A ∧ A < 130) (hC : 0 ≤ C ∧ C < 130) (hr : r0 + pz_sz t + 1 + pz_sz a + pz_sz b ≤ 120 ∧ ((r0 + pz_sz t : Nat) : Int) < M 26 3) (hl : l + pz_nl t + (if P.1 = 7 then 1 else 0) ≤ 4 ∧ ((l + pz_nl t + (if P.1 = 7 then 1 else 0) : Nat) : Int) ≤ M 26 8)
    (hS : cr_S f M 26 (r0 + pz_sz t) P par side nx pv c (l + pz_nl t) (k + pz_nt t) q b0 b1 l0 l1 en)
    (hK : M (26 + 1 + 1 + 3 * (r0 + pz_sz t)) 17 = (if P.1 = 4 then C else if 6 ≤ P.1 then cr_ent a (r0 + pz_sz t + 1) (if P.1 = 7 then ((122 + (l + pz_nl t) : Nat) : Int) else A) else A) ∧ M (26 + 1 + 1 + 3 * (r0 + pz_sz t)) 18 = (if P.1 = 6 then cr_ent b (r0 + pz_sz t + 1 + pz_sz a) A else A)) (hM : P.1 = 7 → M (26 + 1 + 1 + 3 * (r0 + pz_sz t)) 6 = pz_mk (pz_md a) ∧ M (26 + 1 + 1 + 3 * (r0 + pz_sz t)) 7 = pz_mb (pz_md a))
    (hV : (pz_nt1 P.1 = 1 → ∀ s : Nat, s < 256 → tv M ((k + pz_nt t : Nat) : Int) ((s : Nat) : Int) = mp_v s P.2.2.1) ∧ (pz_nt2 P.1 = 1 → ∀ s : Nat, s < 256 → tv M (((k + pz_nt t : Nat) : Int) + 1) ((s : Nat) : Int) = mp_v s P.2.2.2)) :
    cl_R M P (r0 + pz_sz t) (l + pz_nl t) c (pz_md a) (if P.1 = 4 then C else if 6 ≤ P.1 then cr_ent a (r0 + pz_sz t + 1) (if P.1 = 7 then ((122 + (l + pz_nl t) : Nat) : Int) else A) else A) (if P.1 = 6 then cr_ent b (r0 + pz_sz t + 1 + pz_sz a) A else A) := by
  obtain ⟨⟨s0, s1, s2, s3, s4, s5⟩, -, -, s7, -, -⟩ := hS
  have hp := hw.1
  have ga := cl_ent_rg (t := a) (r0 := r0 + pz_sz t + 1) (A := if P.1 = 7 then ((122 + (l + pz_nl t) : Nat) : Int) else A) (by
    by_cases z : P.1 = 7
    · rw [if_pos z] at hl ⊢; omega
    · rw [if_neg z]; exact hA) (by omega)
  have gb := cl_ent_rg (t := b) (r0 := r0 + pz_sz t + 1 + pz_sz a) (A := A) hA (by omega)
  refine ⟨⟨by omega, hr.2⟩, s0, s1, fun z => ?_, fun z => ?_, fun z => ?_, fun z => by rw [s4, if_pos z], fun z => ?_, ⟨hK.1, ?_⟩, hK.2, ?_⟩
  · rw [s2, if_pos z]; exact hV.1 z
  · rw [s3, if_pos z]; exact ⟨by omega, hV.2 z⟩
  · rw [s3, if_neg z]
  · rw [s5, if_pos z]
    rw [if_pos z] at hl
    exact ⟨⟨rfl, by omega⟩, ⟨s7 z, by omega⟩, (hM z).2⟩
  · split
    · exact hC
    · split
      · exact ga
      · exact hA
  · split
    · exact gb
    · exact hA
theorem cl_tree {f : Nat → Int} {M : ab_M} {md : Int} {O : Nat → Prop} {Qf : mp_Q} (hmd : md = 0 ∨ md = 1) : ∀ (t : pz_T), pz_wf t → ∀ (r0 : Nat) (par side nx : Int) (c l k q : Nat) (A C : Int), cr_T f M 26 t r0 par side nx c l k q → cr_K M 26 t r0 A C l → cl_V M t k → (0 ≤ A ∧ A < 130) → (0 ≤ C ∧ C < 130) → (r0 + pz_sz t ≤ 120 ∧ ((r0 + pz_sz t : Nat) : Int) ≤ M 26 3) → (l + pz_nl t ≤ 4 ∧ ((l + pz_nl t : Nat) : Int) ≤ M 26 8) → (∀ row, cl_in r0 (pz_sz t) l (pz_nl t) row → cl_O M md O Qf row) →
    (∀ n s, s < 256 → cl_W M md O n (cr_ent t r0 A) s → mp_t md Qf t c (cl_W M md O n A) (cl_W M md O n C) s) ∧ ∀ s, s < 256 → mp_t md Qf t c (cl_Y M md O A) (cl_Y M md O C) s → cl_Y M md O (cr_ent t r0 A) s := by
  intro t
  induction t using pz_ind with
  | h0 => intro _ r0 par side nx c l k q A C _ _ _ _ _ _ _ _; exact ⟨fun n s _ h => h, fun s _ h => h⟩
  | h2 s P v t => intro h; exact h.elim
  | h1 s P v t s' P' v' a b iht iha ihb =>
    intro hw r0 par side nx c l k q A C hT hK hV hA hC hr hl hO
    obtain ⟨w1, w2, w3, w4, w5, w6⟩ := hw
    rw [pz_sz_nd] at hr hO
    rw [pz_nl_nd] at hl hO
    obtain ⟨g1, g2, g3, g4⟩ := hT
    obtain ⟨k1, ⟨-, -, k17, k18⟩, k7, ka, kb⟩ := hK
    obtain ⟨v1, v2, v3, v4⟩ := hV
    have hif : (if P.1 = 7 then 1 else 0) ≤ 1 := by split <;> omega
    have hRow := cl_row (c := c + pz_kn t) w4 hA hC ⟨by omega, by omega⟩ ⟨by omega, by omega⟩ g2 ⟨k17, k18⟩ k7 v2
    have hAa : 0 ≤ (if P.1 = 7 then ((122 + (l + pz_nl t) : Nat) : Int) else A) ∧ (if P.1 = 7 then ((122 + (l + pz_nl t) : Nat) : Int) else A) < 130 := by
      by_cases z : P.1 = 7
      · rw [if_pos z] at hl ⊢; omega
      · rw [if_neg z]; exact hA
    have gb := cl_ent_rg (t := b) (r0 := r0 + pz_sz t + 1 + pz_sz a) (A := A) hA (by omega)
    have hCa : 0 ≤ (if P.1 = 8 then cr_ent b (r0 + pz_sz t + 1 + pz_sz a) A else C) ∧ (if P.1 = 8 then cr_ent b (r0 + pz_sz t + 1 + pz_sz a) A else C) < 130 := by
      split
      · exact gb
      · exact hC
    have ha := iha w2 _ _ _ _ _ _ _ _ _ _ g3 ka v3 hAa hCa ⟨by omega, by omega⟩ ⟨by omega, by omega⟩ (fun row h => hO row (by unfold cl_in at h ⊢; omega))
    have hb := ihb w3 _ _ _ _ _ _ _ _ _ _ g4 kb v4 hA hC ⟨by omega, by omega⟩ ⟨by omega, by omega⟩ (fun row h => hO row (by unfold cl_in at h ⊢; omega))
    have ht := iht w1 r0 par side ((r0 + pz_sz t : Nat) : Int) c l k q ((r0 + pz_sz t : Nat) : Int) C g1 k1 v1 ⟨by omega, by omega⟩ hC ⟨by omega, by omega⟩ ⟨by omega, by omega⟩ (fun row h => hO row (by unfold cl_in at h ⊢; omega))
    have hent : cr_ent (.inner s P v t (.inner s' P' v' a b)) r0 A = cr_ent t r0 ((r0 + pz_sz t : Nat) : Int) := by
      show ((r0 : Nat) : Int) = _
      cases t with
      | leaf => rfl
      | inner _ _ _ _ _ => rfl
    rw [hent]
    have hO0 : cl_O M md O Qf ((r0 + pz_sz t : Nat) : Int) := hO _ (Or.inl ⟨by omega, by omega⟩)
    have hO7 : P.1 = 7 → cl_O M md O Qf ((122 + (l + pz_nl t) : Nat) : Int) ∧ cl_O M md O Qf ((126 + (l + pz_nl t) : Nat) : Int) := fun z => by
      rw [if_pos z] at hO
      exact ⟨hO _ (Or.inr (Or.inl ⟨by omega, by omega⟩)), hO _ (Or.inr (Or.inr ⟨by omega, by omega⟩))⟩
    have mA : mp_mo (fun Q1 Q2 => mp_t md Qf a (c + pz_kn t + (pz_kd (P.1, 0, 0, 0, 0, 0, 0, 0)).length) Q1 Q2) := fun Q1 Q2 Q1' Q2' => mp_t_mono (fun _ h => h) a w2 _ Q1 Q2 Q1' Q2'
    have mB : mp_mo (fun Q1 Q2 => mp_t md Qf b (c + pz_kn t + (pz_kd (P.1, 0, 0, 0, 0, 0, 0, 0)).length + pz_kn a) Q1 Q2) := fun Q1 Q2 Q1' Q2' => mp_t_mono (fun _ h => h) b w3 _ Q1 Q2 Q1' Q2'
    have hf := cl_fw_st hmd hRow w4 hO0 hO7 rfl rfl mA mB (fun _ => ha.1) (fun _ _ => hb.1)
    have hbw := cl_bw_st (TB := fun Q1 Q2 => mp_t md Qf b (c + pz_kn t + (pz_kd (P.1, 0, 0, 0, 0, 0, 0, 0)).length + pz_kn a) Q1 Q2) hmd hRow w4 hO0 hO7 rfl rfl mA (fun _ => ha.2) (fun _ _ => hb.2)
    exact ⟨fun n s hs h => mp_t_mono (fun _ h => h) t w1 c _ _ _ _ (fun s2 hs2 h => hf n s2 hs2 h) (mp_le.rf _) s hs (ht.1 n s hs h), fun s hs h => ht.2 s hs (mp_t_mono (fun _ h => h) t w1 c _ _ _ _ (fun s2 hs2 h => hbw s2 hs2 h) (mp_le.rf _) s hs h)⟩
/-- the two together -/
theorem cl_tree_iff {f : Nat → Int} {M : ab_M} {md : Int} {O : Nat → Prop} {Qf : mp_Q} (hmd : md = 0 ∨ md = 1) {t : pz_T} (hw : pz_wf t) {r0 : Nat} {par side nx : Int} {c l k q : Nat} {A C : Int} (hT : cr_T f M 26 t r0 par side nx c l k q) (hK : cr_K M 26 t r0 A C l) (hV : cl_V M t k) (hA : 0 ≤ A ∧ A < 130) (hC : 0 ≤ C ∧ C < 130) (hr : r0 + pz_sz t ≤ 120 ∧ ((r0 + pz_sz t : Nat) : Int) ≤ M 26 3) (hl : l + pz_nl t ≤ 4 ∧ ((l + pz_nl t : Nat) : Int) ≤ M 26 8) (hO : ∀ row, cl_in r0 (pz_sz t) l (pz_nl t) row → cl_O M md O Qf row) {s : Nat} (hs : s < 256) :
    cl_Y M md O (cr_ent t r0 A) s ↔ mp_t md Qf t c (cl_Y M md O A) (cl_Y M md O C) s := by
  obtain ⟨h1, h2⟩ := cl_tree hmd t hw r0 par side nx c l k q A C hT hK hV hA hC hr hl hO
  exact ⟨fun ⟨n, h⟩ => mp_t_mono (fun _ h => h) t hw c _ _ _ _ (fun s2 _ h => ⟨n, h⟩) (fun s2 _ h => ⟨n, h⟩) s hs (h1 n s hs h), h2 s hs⟩
