/-! the loops of a tree -/
/-- something of the l-th loop, by what stands before it -/
def lp_f (z : pz_P → pz_T → Nat) (u : pz_P → pz_T → Nat) (w : pz_P → pz_T → pz_T → Nat) : pz_T → Nat → Nat
  | .leaf, _ => 0
  | .inner _ P _ t (.inner _ _ _ a b), l => if l < pz_nl t then lp_f z u w t l else if P.1 = 7 ∧ l = pz_nl t then z P t else if l - pz_nl t - (if P.1 = 7 then 1 else 0) < pz_nl a then u P t + lp_f z u w a (l - pz_nl t - (if P.1 = 7 then 1 else 0)) else w P t a + lp_f z u w b (l - pz_nl t - (if P.1 = 7 then 1 else 0) - pz_nl a)
  | .inner _ _ _ _ .leaf, _ => 0
/-- the block of a loop -/
def lp_a : pz_T → Nat → pz_T
  | .leaf, _ => .leaf
  | .inner _ P _ t (.inner _ _ _ a b), l => if l < pz_nl t then lp_a t l else if P.1 = 7 ∧ l = pz_nl t then a else if l - pz_nl t - (if P.1 = 7 then 1 else 0) < pz_nl a then lp_a a (l - pz_nl t - (if P.1 = 7 then 1 else 0)) else lp_a b (l - pz_nl t - (if P.1 = 7 then 1 else 0) - pz_nl a)
  | .inner _ _ _ _ .leaf, _ => .leaf
section
variable {s : Nat} {P : pz_P} {v : Unit} {t : pz_T} {s' : Nat} {P' : pz_P} {v' : Unit} {a b : pz_T} {z : pz_P → pz_T → Nat} {u : pz_P → pz_T → Nat} {w : pz_P → pz_T → pz_T → Nat} {l : Nat}
theorem lp_t (hl : l < pz_nl t) : lp_P (.inner s P v t (.inner s' P' v' a b)) l = lp_P t l ∧ lp_a (.inner s P v t (.inner s' P' v' a b)) l = lp_a t l ∧ lp_o (.inner s P v t (.inner s' P' v' a b)) l = lp_o t l ∧ lp_f z u w (.inner s P v t (.inner s' P' v' a b)) l = lp_f z u w t l := by
  refine ⟨?_, ?_, ?_, ?_⟩
  · show (if l < pz_nl t then _ else _) = _
    rw [if_pos hl]
  · show (if l < pz_nl t then _ else _) = _
    rw [if_pos hl]
  · show (if l < pz_nl t then _ else _) = _
    rw [if_pos hl]
  · show (if l < pz_nl t then _ else _) = _
    rw [if_pos hl]
theorem lp_0 (h7 : P.1 = 7) : lp_P (.inner s P v t (.inner s' P' v' a b)) (pz_nl t) = P ∧ lp_a (.inner s P v t (.inner s' P' v' a b)) (pz_nl t) = a ∧ lp_o (.inner s P v t (.inner s' P' v' a b)) (pz_nl t) = (pz_pr t).length + 1 + P.2.2.1.length ∧ lp_f z u w (.inner s P v t (.inner s' P' v' a b)) (pz_nl t) = z P t := by
  refine ⟨?_, ?_, ?_, ?_⟩
  · show (if pz_nl t < pz_nl t then _ else if P.1 = 7 ∧ pz_nl t = pz_nl t then _ else _) = _
    rw [if_neg (Nat.lt_irrefl _), if_pos ⟨h7, rfl⟩]
  · show (if pz_nl t < pz_nl t then _ else if P.1 = 7 ∧ pz_nl t = pz_nl t then _ else _) = _
    rw [if_neg (Nat.lt_irrefl _), if_pos ⟨h7, rfl⟩]
  · show (if pz_nl t < pz_nl t then _ else if P.1 = 7 ∧ pz_nl t = pz_nl t then _ else _) = _
    rw [if_neg (Nat.lt_irrefl _), if_pos ⟨h7, rfl⟩]
  · show (if pz_nl t < pz_nl t then _ else if P.1 = 7 ∧ pz_nl t = pz_nl t then _ else _) = _
    rw [if_neg (Nat.lt_irrefl _), if_pos ⟨h7, rfl⟩]
theorem lp_in (hl : l < pz_nl a) : lp_P (.inner s P v t (.inner s' P' v' a b)) (pz_nl t + (if P.1 = 7 then 1 else 0) + l) = lp_P a l ∧ lp_a (.inner s P v t (.inner s' P' v' a b)) (pz_nl t + (if P.1 = 7 then 1 else 0) + l) = lp_a a l ∧ lp_o (.inner s P v t (.inner s' P' v' a b)) (pz_nl t + (if P.1 = 7 then 1 else 0) + l) = (pz_pr t).length + (pz_hd P).length + 1 + lp_o a l ∧ lp_f z u w (.inner s P v t (.inner s' P' v' a b)) (pz_nl t + (if P.1 = 7 then 1 else 0) + l) = u P t + lp_f z u w a l := by
  have e : pz_nl t + (if P.1 = 7 then 1 else 0) + l - pz_nl t - (if P.1 = 7 then 1 else 0) = l := by omega
  have n1 : ¬ pz_nl t + (if P.1 = 7 then 1 else 0) + l < pz_nl t := by omega
  have n2 : ¬ (P.1 = 7 ∧ pz_nl t + (if P.1 = 7 then 1 else 0) + l = pz_nl t) := by
    rintro ⟨y1, y2⟩
    rw [if_pos y1] at y2
    omega
  refine ⟨?_, ?_, ?_, ?_⟩
  · rw [lp_P, if_neg n1, if_neg n2, e, if_pos hl]
  · rw [lp_a, if_neg n1, if_neg n2, e, if_pos hl]
  · rw [lp_o, if_neg n1, if_neg n2, e, if_pos hl]
  · rw [lp_f, if_neg n1, if_neg n2, e, if_pos hl]
theorem lp_bl : lp_P (.inner s P v t (.inner s' P' v' a b)) (pz_nl t + (if P.1 = 7 then 1 else 0) + pz_nl a + l) = lp_P b l ∧ lp_a (.inner s P v t (.inner s' P' v' a b)) (pz_nl t + (if P.1 = 7 then 1 else 0) + pz_nl a + l) = lp_a b l ∧ lp_o (.inner s P v t (.inner s' P' v' a b)) (pz_nl t + (if P.1 = 7 then 1 else 0) + pz_nl a + l) = (pz_pr t).length + (pz_hd P).length + 1 + (pz_pr a).length + 2 + lp_o b l ∧ lp_f z u w (.inner s P v t (.inner s' P' v' a b)) (pz_nl t + (if P.1 = 7 then 1 else 0) + pz_nl a + l) = w P t a + lp_f z u w b l := by
  have e : pz_nl t + (if P.1 = 7 then 1 else 0) + pz_nl a + l - pz_nl t - (if P.1 = 7 then 1 else 0) = pz_nl a + l := by omega
  have e2 : pz_nl a + l - pz_nl a = l := by omega
  have n1 : ¬ pz_nl t + (if P.1 = 7 then 1 else 0) + pz_nl a + l < pz_nl t := by omega
  have n2 : ¬ (P.1 = 7 ∧ pz_nl t + (if P.1 = 7 then 1 else 0) + pz_nl a + l = pz_nl t) := by
    rintro ⟨y1, y2⟩
    rw [if_pos y1] at y2
    omega
  have n3 : ¬ pz_nl a + l < pz_nl a := by omega
  refine ⟨?_, ?_, ?_, ?_⟩
  · rw [lp_P, if_neg n1, if_neg n2, e, if_neg n3, e2]
  · rw [lp_a, if_neg n1, if_neg n2, e, if_neg n3, e2]
  · rw [lp_o, if_neg n1, if_neg n2, e, if_neg n3, e2]
  · rw [lp_f, if_neg n1, if_neg n2, e, if_neg n3, e2]
end
/-- what holds of all loops of a tree -/
theorem lp_ind {C : pz_T → Nat → Prop} (h1 : ∀ s P v t s' P' v' a b l, pz_wf (.inner s P v t (.inner s' P' v' a b)) → l < pz_nl t → C t l → C (.inner s P v t (.inner s' P' v' a b)) l) (h2 : ∀ s P v t s' P' v' a b, pz_wf (.inner s P v t (.inner s' P' v' a b)) → P.1 = 7 → C (.inner s P v t (.inner s' P' v' a b)) (pz_nl t))
    (h3 : ∀ s P v t s' P' v' a b l, pz_wf (.inner s P v t (.inner s' P' v' a b)) → 6 ≤ P.1 → l < pz_nl a → C a l → C (.inner s P v t (.inner s' P' v' a b)) (pz_nl t + (if P.1 = 7 then 1 else 0) + l)) (h4 : ∀ s P v t s' P' v' a b l, pz_wf (.inner s P v t (.inner s' P' v' a b)) → 6 ≤ P.1 → P.1 ≠ 7 → l < pz_nl b → C b l → C (.inner s P v t (.inner s' P' v' a b)) (pz_nl t + (if P.1 = 7 then 1 else 0) + pz_nl a + l)) : ∀ (t : pz_T), pz_wf t → ∀ (l : Nat), l < pz_nl t → C t l := by
  intro t
  induction t using pz_ind with
  | h0 => intro _ l hl; exact absurd hl (Nat.not_lt_zero _)
  | h2 s P v t => intro h; exact h.elim
  | h1 s P v t s' P' v' a b iht iha ihb =>
    intro hwf l hl
    have hwf0 := hwf
    obtain ⟨w1, w2, w3, w4, w5, w6⟩ := hwf
    rw [pz_nl_nd] at hl
    by_cases c1 : l < pz_nl t
    · exact h1 _ _ _ _ _ _ _ _ _ l hwf0 c1 (iht w1 l c1)
    · by_cases c2 : P.1 = 7 ∧ l = pz_nl t
      · rw [c2.2]
        exact h2 _ _ _ _ _ _ _ _ _ hwf0 c2.1
      · have hif : pz_nl t + (if P.1 = 7 then 1 else 0) ≤ l := by
          by_cases z : P.1 = 7
          · rw [if_pos z]
            have : l ≠ pz_nl t := fun y => c2 ⟨z, y⟩
            omega
          · rw [if_neg z]; omega
        have h6 : 6 ≤ P.1 := by
          refine Classical.byContradiction fun z => ?_
          obtain ⟨y1, y2⟩ := w5 (by omega)
          rw [y1, y2, if_neg (by omega)] at hl
          have z0 : pz_nl (.leaf : pz_T) = 0 := rfl
          omega
        by_cases c3 : l - pz_nl t - (if P.1 = 7 then 1 else 0) < pz_nl a
        · have := h3 s P v t s' P' v' a b (l - pz_nl t - (if P.1 = 7 then 1 else 0)) hwf0 h6 c3 (iha w2 _ c3)
          rw [show pz_nl t + (if P.1 = 7 then 1 else 0) + (l - pz_nl t - (if P.1 = 7 then 1 else 0)) = l by omega] at this
          exact this
        · have hn7 : ¬ P.1 = 7 := fun z => by
            rw [w6 z] at hl
            have z0 : pz_nl (.leaf : pz_T) = 0 := rfl
            rw [if_pos z] at hl c3 hif
            omega
          have hb : l - pz_nl t - (if P.1 = 7 then 1 else 0) - pz_nl a < pz_nl b := by omega
          have := h4 s P v t s' P' v' a b (l - pz_nl t - (if P.1 = 7 then 1 else 0) - pz_nl a) hwf0 h6 hn7 hb (ihb w3 _ hb)
          rw [show pz_nl t + (if P.1 = 7 then 1 else 0) + pz_nl a + (l - pz_nl t - (if P.1 = 7 then 1 else 0) - pz_nl a) = l by omega] at this
          exact this
/-- rows, terms, checks, events before a loop -/
abbrev lp_r : pz_T → Nat → Nat := lp_f (fun _ t => pz_sz t) (fun _ t => pz_sz t + 1) (fun _ t a => pz_sz t + 1 + pz_sz a)
abbrev lp_k : pz_T → Nat → Nat := lp_f (fun _ t => pz_nt t) (fun P t => pz_nt t + pz_nt1 P.1 + pz_nt2 P.1) (fun P t a => pz_nt t + pz_nt1 P.1 + pz_nt2 P.1 + pz_nt a)
abbrev lp_c : pz_T → Nat → Nat := lp_f (fun _ t => pz_kn t) (fun P t => pz_kn t + (pz_kd (P.1, 0, 0, 0, 0, 0, 0, 0)).length) (fun P t a => pz_kn t + (pz_kd (P.1, 0, 0, 0, 0, 0, 0, 0)).length + pz_kn a)
abbrev lp_e : pz_T → Nat → Nat := lp_f (fun _ t => pz_ne t) (fun _ t => pz_ne t + 2) (fun _ t a => pz_ne t + 2 + pz_ne a + 2)
theorem lp_wf : ∀ (t : pz_T), pz_wf t → ∀ (l : Nat), l < pz_nl t → (pz_wfP (lp_P t l) ∧ (lp_P t l).1 = 7 ∧ pz_wf (lp_a t l)) ∧ (lp_r t l < pz_sz t ∧ lp_r t l + 1 + pz_sz (lp_a t l) ≤ pz_sz t ∧ lp_k t l + 2 + pz_nt (lp_a t l) ≤ pz_nt t ∧ lp_c t l + 2 + pz_kn (lp_a t l) ≤ pz_kn t ∧ l + 1 + pz_nl (lp_a t l) ≤ pz_nl t ∧ lp_e t l + 3 + pz_ne (lp_a t l) ≤ pz_ne t) ∧ (∀ top, pz_tb top t → pz_tb top (lp_a t l) ∧ (((lp_P t l).2.2.1.length : Nat) : Int) ≤ top ∧ (((lp_P t l).2.2.2.length : Nat) : Int) ≤ top) := by
  refine lp_ind (C := fun t l => (pz_wfP (lp_P t l) ∧ (lp_P t l).1 = 7 ∧ pz_wf (lp_a t l)) ∧ (lp_r t l < pz_sz t ∧ lp_r t l + 1 + pz_sz (lp_a t l) ≤ pz_sz t ∧ lp_k t l + 2 + pz_nt (lp_a t l) ≤ pz_nt t ∧ lp_c t l + 2 + pz_kn (lp_a t l) ≤ pz_kn t ∧ l + 1 + pz_nl (lp_a t l) ≤ pz_nl t ∧ lp_e t l + 3 + pz_ne (lp_a t l) ≤ pz_ne t) ∧ (∀ top, pz_tb top t → pz_tb top (lp_a t l) ∧ (((lp_P t l).2.2.1.length : Nat) : Int) ≤ top ∧ (((lp_P t l).2.2.2.length : Nat) : Int) ≤ top)) ?_ ?_ ?_ ?_
  · intro s P v t s' P' v' a b l hw hl h
    obtain ⟨e1, e2, -, -⟩ := lp_t (s := s) (P := P) (v := v) (t := t) (s' := s') (P' := P') (v' := v') (a := a) (b := b) (z := fun _ _ => 0) (u := fun _ _ => 0) (w := fun _ _ _ => 0) hl
    unfold lp_r lp_k lp_c lp_e at h ⊢
    rw [e1, e2, (lp_t hl).2.2.2, (lp_t hl).2.2.2, (lp_t hl).2.2.2, (lp_t hl).2.2.2, pz_sz_nd, pz_nt_nd, pz_kn_nd, pz_nl_nd, pz_ne_nd]
    obtain ⟨h1, ⟨h2, h3, h4, h5, h6, h7⟩, h8⟩ := h
    exact ⟨h1, ⟨by omega, by omega, by omega, by omega, by omega, by omega⟩, fun top ht => h8 top ht.1⟩
  · intro s P v t s' P' v' a b hw h7
    obtain ⟨w1, w2, w3, w4, w5, w6⟩ := hw
    obtain ⟨e1, e2, -, -⟩ := lp_0 (s := s) (P := P) (v := v) (t := t) (s' := s') (P' := P') (v' := v') (a := a) (b := b) (z := fun _ _ => 0) (u := fun _ _ => 0) (w := fun _ _ _ => 0) h7
    unfold lp_r lp_k lp_c lp_e
    rw [e1, e2, (lp_0 h7).2.2.2, (lp_0 h7).2.2.2, (lp_0 h7).2.2.2, (lp_0 h7).2.2.2, pz_sz_nd, pz_nt_nd, pz_kn_nd, pz_nl_nd, pz_ne_nd, if_pos h7, if_pos (by omega), if_pos h7]
    have n1 : pz_nt1 P.1 = 1 := by unfold pz_nt1; rw [if_neg (by omega)]
    have n2 : pz_nt2 P.1 = 1 := by unfold pz_nt2; rw [if_pos (by omega)]
    have n3 : (pz_kd (P.1, 0, 0, 0, 0, 0, 0, 0)).length = 2 := by
      show (pz_kd (P.1, (0 : Int), (0 : Int), (0 : Int), (0 : Int), (0 : Int), (0 : Int), (0 : Int))).length = 2
      rw [h7]; rfl
    rw [n1, n2, n3]
    exact ⟨⟨w4, h7, w2⟩, ⟨by omega, by omega, by omega, by omega, by omega, by omega⟩, fun top ht => ⟨ht.2.1, ht.2.2.2.1, ht.2.2.2.2⟩⟩
  · intro s P v t s' P' v' a b l hw h6 hl h
    obtain ⟨e1, e2, -, -⟩ := lp_in (s := s) (P := P) (v := v) (t := t) (s' := s') (P' := P') (v' := v') (a := a) (b := b) (z := fun _ _ => 0) (u := fun _ _ => 0) (w := fun _ _ _ => 0) hl
    unfold lp_r lp_k lp_c lp_e at h ⊢
    rw [e1, e2, (lp_in hl).2.2.2, (lp_in hl).2.2.2, (lp_in hl).2.2.2, (lp_in hl).2.2.2, pz_sz_nd, pz_nt_nd, pz_kn_nd, pz_nl_nd, pz_ne_nd, if_pos h6]
    obtain ⟨h1, ⟨h2, h3, h4, h5, h6, h7⟩, h8⟩ := h
    exact ⟨h1, ⟨by omega, by omega, by omega, by omega, by omega, by omega⟩, fun top ht => h8 top ht.2.1⟩
  · intro s P v t s' P' v' a b l hw h6 hn7 hl h
    obtain ⟨e1, e2, -, -⟩ := lp_bl (s := s) (P := P) (v := v) (t := t) (s' := s') (P' := P') (v' := v') (a := a) (b := b) (z := fun _ _ => 0) (u := fun _ _ => 0) (w := fun _ _ _ => 0) (l := l)
    unfold lp_r lp_k lp_c lp_e at h ⊢
    rw [e1, e2, lp_bl.2.2.2, lp_bl.2.2.2, lp_bl.2.2.2, lp_bl.2.2.2, pz_sz_nd, pz_nt_nd, pz_kn_nd, pz_nl_nd, pz_ne_nd, if_pos h6, if_neg hn7, if_neg hn7]
    obtain ⟨h1, ⟨h2, h3, h4, h5, h6, h7⟩, h8⟩ := h
    exact ⟨h1, ⟨by omega, by omega, by omega, by omega, by omega, by omega⟩, fun top ht => h8 top ht.2.2.1⟩
/-- a loop's row in the class -/
theorem lp_row {f : Nat → Int} {M : ab_M} : ∀ (t : pz_T), pz_wf t → ∀ (l : Nat), l < pz_nl t → ∀ (r0 : Nat) (par side nx : Int) (c l0 k q : Nat) (A C : Int), cr_T f M 26 t r0 par side nx c l0 k q → cr_K M 26 t r0 A C l0 →
    ∃ (par' side' nx' pv' b1 l1 l2 en' A' C' : Int), cr_S f M 26 (r0 + lp_r t l) (lp_P t l) par' side' nx' pv' (c + lp_c t l) (l0 + l) (k + lp_k t l) (q + lp_o t l - 1 - (lp_P t l).2.2.1.length) (cr_fs (lp_a t l) (r0 + lp_r t l + 1)) b1 l1 l2 en' ∧ 1 + (lp_P t l).2.2.1.length ≤ lp_o t l ∧
      cr_T f M 26 (lp_a t l) (r0 + lp_r t l + 1) ((r0 + lp_r t l : Nat) : Int) 0 (-1) (c + lp_c t l + 2) (l0 + l + 1) (k + lp_k t l + 2) (q + lp_o t l + (lp_P t l).2.2.2.length + 1) ∧ cr_K M 26 (lp_a t l) (r0 + lp_r t l + 1) ((122 + (l0 + l) : Nat) : Int) C' (l0 + l + 1) ∧
      (M (26 + 1 + 1 + 3 * (r0 + lp_r t l)) 17 = cr_ent (lp_a t l) (r0 + lp_r t l + 1) ((122 + (l0 + l) : Nat) : Int) ∧ M (26 + 1 + 1 + 3 * (r0 + lp_r t l)) 18 = A') ∧ (M (26 + 1 + 1 + 3 * (r0 + lp_r t l)) 6 = pz_mk (pz_md (lp_a t l)) ∧ M (26 + 1 + 1 + 3 * (r0 + lp_r t l)) 7 = pz_mb (pz_md (lp_a t l))) := by
  refine lp_ind (C := fun t l => ∀ (r0 : Nat) (par side nx : Int) (c l0 k q : Nat) (A C : Int), cr_T f M 26 t r0 par side nx c l0 k q → cr_K M 26 t r0 A C l0 →
    ∃ (par' side' nx' pv' b1 l1 l2 en' A' C' : Int), cr_S f M 26 (r0 + lp_r t l) (lp_P t l) par' side' nx' pv' (c + lp_c t l) (l0 + l) (k + lp_k t l) (q + lp_o t l - 1 - (lp_P t l).2.2.1.length) (cr_fs (lp_a t l) (r0 + lp_r t l + 1)) b1 l1 l2 en' ∧ 1 + (lp_P t l).2.2.1.length ≤ lp_o t l ∧
      cr_T f M 26 (lp_a t l) (r0 + lp_r t l + 1) ((r0 + lp_r t l : Nat) : Int) 0 (-1) (c + lp_c t l + 2) (l0 + l + 1) (k + lp_k t l + 2) (q + lp_o t l + (lp_P t l).2.2.2.length + 1) ∧ cr_K M 26 (lp_a t l) (r0 + lp_r t l + 1) ((122 + (l0 + l) : Nat) : Int) C' (l0 + l + 1) ∧
      (M (26 + 1 + 1 + 3 * (r0 + lp_r t l)) 17 = cr_ent (lp_a t l) (r0 + lp_r t l + 1) ((122 + (l0 + l) : Nat) : Int) ∧ M (26 + 1 + 1 + 3 * (r0 + lp_r t l)) 18 = A') ∧ (M (26 + 1 + 1 + 3 * (r0 + lp_r t l)) 6 = pz_mk (pz_md (lp_a t l)) ∧ M (26 + 1 + 1 + 3 * (r0 + lp_r t l)) 7 = pz_mb (pz_md (lp_a t l)))) ?_ ?_ ?_ ?_
  · intro s P v t s' P' v' a b l hw hl ih r0 par side nx c l0 k q A C hT hK
    have e := fun z u w => lp_t (s := s) (P := P) (v := v) (t := t) (s' := s') (P' := P') (v' := v') (a := a) (b := b) (z := z) (u := u) (w := w) hl
    unfold lp_r lp_k lp_c at ih ⊢
    rw [(e (fun _ _ => 0) (fun _ _ => 0) (fun _ _ _ => 0)).1, (e (fun _ _ => 0) (fun _ _ => 0) (fun _ _ _ => 0)).2.1, (e (fun _ _ => 0) (fun _ _ => 0) (fun _ _ _ => 0)).2.2.1, (e _ _ _).2.2.2, (e _ _ _).2.2.2, (e _ _ _).2.2.2]
    exact ih _ _ _ _ _ _ _ _ _ _ hT.1 hK.1
  · intro s P v t s' P' v' a b hw h7 r0 par side nx c l0 k q A C hT hK
    have e := fun z u w => lp_0 (s := s) (P := P) (v := v) (t := t) (s' := s') (P' := P') (v' := v') (a := a) (b := b) (z := z) (u := u) (w := w) h7
    unfold lp_r lp_k lp_c
    rw [(e (fun _ _ => 0) (fun _ _ => 0) (fun _ _ _ => 0)).1, (e (fun _ _ => 0) (fun _ _ => 0) (fun _ _ _ => 0)).2.1, (e (fun _ _ => 0) (fun _ _ => 0) (fun _ _ _ => 0)).2.2.1, (e _ _ _).2.2.2, (e _ _ _).2.2.2, (e _ _ _).2.2.2]
    obtain ⟨g1, g2, g3, g4⟩ := hT
    obtain ⟨k1, ⟨-, -, k17, k18⟩, k6, k3, k4⟩ := hK
    have n1 : pz_nt1 P.1 = 1 := by unfold pz_nt1; rw [if_neg (by omega)]
    have n2 : pz_nt2 P.1 = 1 := by unfold pz_nt2; rw [if_pos (by omega)]
    have n3 : (pz_kd (P.1, 0, 0, 0, 0, 0, 0, 0)).length = 2 := by
      show (pz_kd (P.1, (0 : Int), (0 : Int), (0 : Int), (0 : Int), (0 : Int), (0 : Int), (0 : Int))).length = 2
      rw [h7]; rfl
    have hhd : (pz_hd P).length = 1 + P.2.2.1.length + P.2.2.2.length := by
      unfold pz_hd
      rw [if_neg (by omega), if_neg (by omega), List.nil_append, List.nil_append, List.length_cons, List.length_append]
      omega
    rw [if_pos h7] at g3
    rw [if_pos h7, if_neg (by omega), if_pos h7] at k3
    rw [if_neg (by omega), if_pos (by omega), if_pos h7] at k17
    rw [n1, n2, n3, hhd] at g3
    have g2 : cr_S f M 26 (r0 + pz_sz t) P par side nx (cr_ls t r0) (c + pz_kn t) (l0 + pz_nl t) (k + pz_nt t) (q + ((pz_pr t).length + 1 + P.2.2.1.length) - 1 - P.2.2.1.length) (cr_fs a (r0 + pz_sz t + 1)) (cr_fs b (r0 + pz_sz t + 1 + pz_sz a)) (cr_ls a (r0 + pz_sz t + 1)) (cr_ls b (r0 + pz_sz t + 1 + pz_sz a)) (if 6 ≤ P.1 then ((r0 + pz_sz t + pz_sz a + pz_sz b : Nat) : Int) else -1) := by
      rw [show q + ((pz_pr t).length + 1 + P.2.2.1.length) - 1 - P.2.2.1.length = q + (pz_pr t).length by omega]
      exact g2
    refine ⟨_, _, _, _, _, _, _, _, _, _, g2, by omega, ?_, k3, ⟨k17, rfl⟩, k6 h7⟩
    rw [show q + ((pz_pr t).length + 1 + P.2.2.1.length) + P.2.2.2.length + 1 = q + (pz_pr t).length + (1 + P.2.2.1.length + P.2.2.2.length) + 1 by omega]
    exact g3
  · intro s P v t s' P' v' a b l hw h6 hl ih r0 par side nx c l0 k q A C hT hK
    have e := fun z u w => lp_in (s := s) (P := P) (v := v) (t := t) (s' := s') (P' := P') (v' := v') (a := a) (b := b) (z := z) (u := u) (w := w) hl
    unfold lp_r lp_k lp_c at ih ⊢
    rw [(e (fun _ _ => 0) (fun _ _ => 0) (fun _ _ _ => 0)).1, (e (fun _ _ => 0) (fun _ _ => 0) (fun _ _ _ => 0)).2.1, (e (fun _ _ => 0) (fun _ _ => 0) (fun _ _ _ => 0)).2.2.1, (e _ _ _).2.2.2, (e _ _ _).2.2.2, (e _ _ _).2.2.2]
    have h := ih _ _ _ _ _ _ _ _ _ _ hT.2.2.1 hK.2.2.2.1
    simp only [← Nat.add_assoc] at h ⊢
    obtain ⟨x1, x2, x3, x4, x5, x6, x7, x8, x9, x10, y1, y2, y3⟩ := h
    exact ⟨x1, x2, x3, x4, x5, x6, x7, x8, x9, x10, y1, by omega, y3⟩
  · intro s P v t s' P' v' a b l hw h6 hn7 hl ih r0 par side nx c l0 k q A C hT hK
    have e := fun z u w => lp_bl (s := s) (P := P) (v := v) (t := t) (s' := s') (P' := P') (v' := v') (a := a) (b := b) (z := z) (u := u) (w := w) (l := l)
    unfold lp_r lp_k lp_c at ih ⊢
    rw [(e (fun _ _ => 0) (fun _ _ => 0) (fun _ _ _ => 0)).1, (e (fun _ _ => 0) (fun _ _ => 0) (fun _ _ _ => 0)).2.1, (e (fun _ _ => 0) (fun _ _ => 0) (fun _ _ _ => 0)).2.2.1, (e _ _ _).2.2.2, (e _ _ _).2.2.2, (e _ _ _).2.2.2]
    have h := ih _ _ _ _ _ _ _ _ _ _ hT.2.2.2 hK.2.2.2.2
    simp only [← Nat.add_assoc] at h ⊢
    obtain ⟨x1, x2, x3, x4, x5, x6, x7, x8, x9, x10, y1, y2, y3⟩ := h
    exact ⟨x1, x2, x3, x4, x5, x6, x7, x8, x9, x10, y1, by omega, y3⟩
/-- its terms' values -/
theorem lp_V {M : ab_M} : ∀ (t : pz_T), pz_wf t → ∀ (l : Nat), l < pz_nl t → ∀ (k : Nat), cl_V M t k → (∀ s : Nat, s < 256 → tv M ((k + lp_k t l : Nat) : Int) ((s : Nat) : Int) = mp_v s (lp_P t l).2.2.1) ∧ (∀ s : Nat, s < 256 → tv M (((k + lp_k t l : Nat) : Int) + 1) ((s : Nat) : Int) = mp_v s (lp_P t l).2.2.2) ∧ cl_V M (lp_a t l) (k + lp_k t l + 2) := by
  refine lp_ind (C := fun t l => ∀ (k : Nat), cl_V M t k → (∀ s : Nat, s < 256 → tv M ((k + lp_k t l : Nat) : Int) ((s : Nat) : Int) = mp_v s (lp_P t l).2.2.1) ∧ (∀ s : Nat, s < 256 → tv M (((k + lp_k t l : Nat) : Int) + 1) ((s : Nat) : Int) = mp_v s (lp_P t l).2.2.2) ∧ cl_V M (lp_a t l) (k + lp_k t l + 2)) ?_ ?_ ?_ ?_
  · intro s P v t s' P' v' a b l hw hl ih k hV
    have e := fun z u w => lp_t (s := s) (P := P) (v := v) (t := t) (s' := s') (P' := P') (v' := v') (a := a) (b := b) (z := z) (u := u) (w := w) hl
    unfold lp_k at ih ⊢
    rw [(e (fun _ _ => 0) (fun _ _ => 0) (fun _ _ _ => 0)).1, (e (fun _ _ => 0) (fun _ _ => 0) (fun _ _ _ => 0)).2.1, (e _ _ _).2.2.2]
    exact ih _ hV.1
  · intro s P v t s' P' v' a b hw h7 k hV
    have e := fun z u w => lp_0 (s := s) (P := P) (v := v) (t := t) (s' := s') (P' := P') (v' := v') (a := a) (b := b) (z := z) (u := u) (w := w) h7
    unfold lp_k
    rw [(e (fun _ _ => 0) (fun _ _ => 0) (fun _ _ _ => 0)).1, (e (fun _ _ => 0) (fun _ _ => 0) (fun _ _ _ => 0)).2.1, (e _ _ _).2.2.2]
    obtain ⟨v1, ⟨v2, v3⟩, v4, v5⟩ := hV
    have n1 : pz_nt1 P.1 = 1 := by unfold pz_nt1; rw [if_neg (by omega)]
    have n2 : pz_nt2 P.1 = 1 := by unfold pz_nt2; rw [if_pos (by omega)]
    rw [n1, n2] at v4
    exact ⟨v2 n1, v3 n2, v4⟩
  · intro s P v t s' P' v' a b l hw h6 hl ih k hV
    have e := fun z u w => lp_in (s := s) (P := P) (v := v) (t := t) (s' := s') (P' := P') (v' := v') (a := a) (b := b) (z := z) (u := u) (w := w) hl
    unfold lp_k at ih ⊢
    rw [(e (fun _ _ => 0) (fun _ _ => 0) (fun _ _ _ => 0)).1, (e (fun _ _ => 0) (fun _ _ => 0) (fun _ _ _ => 0)).2.1, (e _ _ _).2.2.2]
    have h := ih _ hV.2.2.1
    simp only [← Nat.add_assoc] at h ⊢
    exact h
  · intro s P v t s' P' v' a b l hw h6 hn7 hl ih k hV
    have e := fun z u w => lp_bl (s := s) (P := P) (v := v) (t := t) (s' := s') (P' := P') (v' := v') (a := a) (b := b) (z := z) (u := u) (w := w) (l := l)
    unfold lp_k at ih ⊢
    rw [(e (fun _ _ => 0) (fun _ _ => 0) (fun _ _ _ => 0)).1, (e (fun _ _ => 0) (fun _ _ => 0) (fun _ _ _ => 0)).2.1, (e _ _ _).2.2.2]
    have h := ih _ hV.2.2.2
    simp only [← Nat.add_assoc] at h ⊢
    exact h
