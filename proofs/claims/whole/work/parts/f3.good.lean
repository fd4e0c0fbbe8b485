/-! programs that can be held; an invariant put into a tree -/
/-- how long, without positions -/
def gm_t : pz_T → Int
  | .leaf => 0
  | .inner _ P _ t (.inner _ _ _ a b) => gm_t t + (pz_m1 (pz_evP P 0 0) + (if 6 ≤ P.1 then (if P.1 = 7 then 0 else 1) + (gm_t a + (1 + (if P.1 = 7 then 0 else 1 + (gm_t b + 1)))) else 0))
  | .inner _ _ _ _ .leaf => 0
theorem gm_fl : ∀ (t : pz_T), pz_wf t → ∀ (q e c : Nat), pz_mu (pz_fl t q e c) = gm_t t := by
  intro t
  induction t using pz_ind with
  | h0 => intro _ q e c; rfl
  | h2 s P v t => intro h; exact h.elim
  | h1 s P v t s' P' v' a b iht iha ihb =>
    intro hw q e c
    obtain ⟨w1, w2, w3, w4, w5, w6⟩ := hw
    rw [pz_fl_nd, pz_mu_app, iht w1]
    have hP : pz_m1 (pz_evP P (q + (pz_pr t).length) (c + pz_kn t)) = pz_m1 (pz_evP P 0 0) := rfl
    show gm_t t + (pz_m1 (pz_evP P _ _) + pz_mu _) = gm_t t + (pz_m1 (pz_evP P 0 0) + _)
    rw [hP]
    congr 2
    by_cases h6 : 6 ≤ P.1
    · rw [if_pos h6, if_pos h6]
      show pz_m1 (pz_eo _ _) + pz_mu (_ ++ _) = _
      rw [pz_mu_app, pz_m1_eo, iha w2]
      show _ + (_ + (pz_m1 (pz_ec _ _) + pz_mu _)) = _
      rw [pz_m1_ec]
      by_cases h7 : P.1 = 7
      · rw [if_pos (pz_w1_2.2 h7), if_pos h7, if_pos h7, if_pos h7]
        rfl
      · rw [if_neg (fun z => h7 (pz_w1_2.1 z)), if_neg h7, if_neg h7, if_neg h7]
        show _ + (_ + (_ + (pz_m1 (pz_eo _ _) + pz_mu (_ ++ _)))) = _
        rw [pz_mu_app, pz_m1_eo, if_neg pz_w2_2, ihb w3]
        show _ + (_ + (_ + (_ + (_ + (pz_m1 (pz_ec _ _) + pz_mu []))))) = _
        rw [pz_m1_ec]
        rfl
    · rw [if_neg h6, if_neg h6]
      rfl
theorem gm_hd {P : pz_P} (h : pz_wfP P) : ((pz_hd P).length : Int) = (if P.1 = 7 then pz_m1 (pz_evP P 0 0) + (P.2.2.2.length : Int) - 2 else pz_m1 (pz_evP P 0 0)) := by
  obtain ⟨⟨h0, h8⟩, hv, h1, h2⟩ := h
  have e : pz_m1 (pz_evP P 0 0) = if P.1 = 7 then (P.2.2.1.length : Int) + 3 else 1 + (if P.1 = 1 then 1 else 0) + (P.2.2.1.length : Int) + (if P.1 = 5 then 1 else 0) + (P.2.2.2.length : Int) := by
    show (if P.1 = 7 then _ else if P.1 ≤ 8 then _ else _) = _
    by_cases q7 : P.1 = 7
    · rw [if_pos q7, if_pos q7]; rfl
    · rw [if_neg q7, if_neg q7, if_pos h8]; rfl
  have el : (pz_hd P).length = 1 + (if P.1 = 1 then 1 else 0) + P.2.2.1.length + (if P.1 = 5 then 1 else 0) + P.2.2.2.length := by
    unfold pz_hd
    rw [List.length_cons, List.length_append, List.length_append, List.length_append]
    by_cases q1 : P.1 = 1
    · rw [if_pos q1, if_pos q1, if_neg (by omega), if_neg (by omega)]; simp; omega
    · rw [if_neg q1, if_neg q1]
      by_cases q5 : P.1 = 5
      · rw [if_pos q5, if_pos q5]; simp; omega
      · rw [if_neg q5, if_neg q5]; simp; omega
  rw [e, el]
  by_cases q7 : P.1 = 7
  · rw [if_pos q7, if_pos q7, if_neg (by omega), if_neg (by omega)]; push_cast; omega
  · rw [if_neg q7, if_neg q7]
    by_cases q1 : P.1 = 1
    · rw [if_pos q1, if_pos q1, if_neg (by omega), if_neg (by omega)]; push_cast; omega
    · rw [if_neg q1, if_neg q1]
      by_cases q5 : P.1 = 5
      · rw [if_pos q5, if_pos q5]; push_cast; omega
      · rw [if_neg q5, if_neg q5]; push_cast; omega
theorem gm_len : ∀ (t : pz_T), pz_wf t → pz_tb 120 t → ((pz_pr t).length : Int) ≤ gm_t t + 119 * (pz_nl t : Int) := by
  intro t
  induction t using pz_ind with
  | h0 => intro _ _; exact Int.le_refl 0
  | h2 s P v t => intro h; exact h.elim
  | h1 s P v t s' P' v' a b iht iha ihb =>
    intro hw hb
    obtain ⟨w1, w2, w3, w4, w5, w6⟩ := hw
    obtain ⟨b1, b2, b3, b4, b5⟩ := hb
    have it := iht w1 b1
    have ia := iha w2 b2
    have ib := ihb w3 b3
    have hh := gm_hd w4
    rw [pz_pr_nd, pz_nl_nd, List.length_append, List.length_append]
    show _ ≤ gm_t t + (pz_m1 (pz_evP P 0 0) + (if 6 ≤ P.1 then (if P.1 = 7 then 0 else 1) + (gm_t a + (1 + (if P.1 = 7 then 0 else 1 + (gm_t b + 1)))) else 0)) + _
    by_cases h6 : 6 ≤ P.1
    · rw [if_pos h6, if_pos h6]
      by_cases h7 : P.1 = 7
      · have hb : b = .leaf := w6 h7
        rw [if_pos h7, if_pos h7, if_pos h7, if_pos h7, hb]
        rw [if_pos h7] at hh
        have z0 : pz_nl (.leaf : pz_T) = 0 := rfl
        rw [z0]
        simp only [List.length_cons, List.length_append, List.length_nil]
        push_cast
        omega
      · rw [if_neg h7, if_neg h7, if_neg h7, if_neg h7]
        rw [if_neg h7] at hh
        simp only [List.length_cons, List.length_append, List.length_nil]
        push_cast
        omega
    · rw [if_neg h6, if_neg h6, if_neg (by omega)]
      rw [if_neg (by omega)] at hh
      obtain ⟨y1, y2⟩ := w5 (by omega)
      rw [y1, y2]
      have z0 : pz_nl (.leaf : pz_T) = 0 := rfl
      rw [z0, List.length_nil]
      push_cast
      omega
theorem gd_tb : ∀ (t : pz_T), pz_wf t → (pz_pr t).length ≤ 120 → pz_tb 120 t := by
  intro t
  induction t using pz_ind with
  | h0 => intro _ _; trivial
  | h2 s P v t => intro h; exact h.elim
  | h1 s P v t s' P' v' a b iht iha ihb =>
    intro hw hl
    obtain ⟨w1, w2, w3, w4, w5, w6⟩ := hw
    rw [pz_pr_nd, List.length_append, List.length_append] at hl
    have el : P.2.2.1.length ≤ (pz_hd P).length ∧ P.2.2.2.length ≤ (pz_hd P).length := by
      unfold pz_hd
      rw [List.length_cons, List.length_append, List.length_append, List.length_append]
      omega
    have hab : (pz_pr a).length ≤ 120 ∧ (pz_pr b).length ≤ 120 := by
      by_cases h6 : 6 ≤ P.1
      · rw [if_pos h6] at hl
        by_cases h7 : P.1 = 7
        · rw [if_pos h7] at hl
          rw [w6 h7]
          simp only [List.length_cons, List.length_append, List.length_nil] at hl
          exact ⟨by omega, Nat.zero_le _⟩
        · rw [if_neg h7] at hl
          simp only [List.length_cons, List.length_append, List.length_nil] at hl
          exact ⟨by omega, by omega⟩
      · obtain ⟨y1, y2⟩ := w5 (by omega)
        rw [y1, y2]
        exact ⟨Nat.zero_le _, Nat.zero_le _⟩
    exact ⟨iht w1 (by omega), iha w2 hab.1, ihb w3 hab.2, by omega, by omega⟩
/-- letters and tree of a program that can be held -/
def gd (ls : List Int) (t : pz_T) : Prop := (pz_wf t ∧ pz_ld t ≤ 2 ∧ ls = pz_pr t) ∧ pz_read ls = .inr (pz_fl t 0 0 0) ∧ (pz_kn t ≤ 16 ∧ pz_nl t ≤ 4) ∧ pz_tb 120 t ∧ gm_t t ≤ 120
theorem gd.len {ls : List Int} {t : pz_T} (h : gd ls t) : ls.length ≤ 596 := by
  have := gm_len t h.1.1 h.2.2.2.1
  have := h.2.2.1.2
  have := h.2.2.2.2
  rw [h.1.2.2]
  omega
theorem gd.bd {ls : List Int} {t : pz_T} (h : gd ls t) : cr_BD ls := cr_BD_pr h.2.1 (by rw [gm_fl t h.1.1]; exact h.2.2.2.2)
theorem gd_same {t t' : pz_T} (hw : pz_wf t) (hw' : pz_wf t') (h : pz_fl t 0 0 0 = pz_fl t' 0 0 0) : pz_kn t = pz_kn t' ∧ pz_nl t = pz_nl t' ∧ gm_t t = gm_t t' := by
  refine ⟨?_, ?_, ?_⟩
  · rw [← pz_kds_fl t hw 0 0 0, ← pz_kds_fl t' hw' 0 0 0, h]
  · rw [← pz_c7_fl t hw 0 0 0, ← pz_c7_fl t' hw' 0 0 0, h]
  · rw [← gm_fl t hw 0 0 0, ← gm_fl t' hw' 0 0 0, h]
/-- a short text that is read -/
theorem gd_short {ls : List Int} {t : pz_T} (hl : ls.length ≤ 120) (hw : pz_wf t) (hd : pz_ld t ≤ 2) (he : ls = pz_pr t) (hr : pz_read ls = .inr (pz_fl t 0 0 0)) : gd ls t := by
  obtain ⟨t', h1, h2, h3, h4, h5, h6⟩ := pz_read_tree hr
  obtain ⟨e1, e2, e3⟩ := gd_same hw h1 h4
  refine ⟨⟨hw, hd, he⟩, hr, ⟨by omega, by omega⟩, gd_tb t hw (by rw [← he]; exact hl), ?_⟩
  have := (pz_mu_fl t hw 0 0 0).1
  rw [gm_fl t hw, ← he] at this
  omega
/-- another tree of the same letters and events -/
theorem gd.other {ls : List Int} {t t' : pz_T} (h : gd ls t) (hw : pz_wf t') (hd : pz_ld t' ≤ 2) (he : ls = pz_pr t') (hE : pz_fl t 0 0 0 = pz_fl t' 0 0 0) (hb : pz_tb 120 t') : gd ls t' := by
  obtain ⟨e1, e2, e3⟩ := gd_same h.1.1 hw hE
  exact ⟨⟨hw, hd, he⟩, by rw [← hE]; exact h.2.1, ⟨by have := h.2.2.1.1; omega, by have := h.2.2.1.2; omega⟩, hb, by have := h.2.2.2.2; omega⟩
/-- the longest term by the events -/
theorem gd_tb_fl {top : Int} : ∀ (t : pz_T), pz_wf t → ∀ (q e c : Nat), (0 ≤ top) → ((∀ v ∈ pz_fl t q e c, v.1 ≤ 8 → v.2.2.2.1 ≤ top ∧ v.2.2.2.2.2.1 ≤ top) ↔ pz_tb top t) := by
  intro t
  induction t using pz_ind with
  | h0 => intro _ q e c _; exact ⟨fun _ => trivial, fun _ v hv => absurd hv List.not_mem_nil⟩
  | h2 s P v t => intro h; exact h.elim
  | h1 s P v t s' P' v' a b iht iha ihb =>
    intro hw q e c htop
    obtain ⟨w1, w2, w3, w4, w5, w6⟩ := hw
    have it := iht w1 q e c htop
    have ia := iha w2 (q + (pz_pr t).length + (pz_hd P).length + 1) (e + pz_ne t + 2) (c + pz_kn t + (pz_kd (P.1, 0, 0, 0, 0, 0, 0, 0)).length) htop
    have ib := ihb w3 (q + (pz_pr t).length + (pz_hd P).length + 1 + (pz_pr a).length + 2) (e + pz_ne t + 2 + pz_ne a + 2) (c + pz_kn t + (pz_kd (P.1, 0, 0, 0, 0, 0, 0, 0)).length + pz_kn a) htop
    rw [pz_fl_nd]
    constructor
    · intro h
      have hP := h _ (List.mem_append_right _ List.mem_cons_self) w4.1.2
      refine ⟨it.1 fun v hv => h v (List.mem_append_left _ hv), ?_, ?_, hP.1, hP.2⟩
      · by_cases h6 : 6 ≤ P.1
        · rw [if_pos h6] at h
          exact ia.1 fun v hv => h v (List.mem_append_right _ (List.mem_cons_of_mem _ (List.mem_cons_of_mem _ (List.mem_append_left _ hv))))
        · rw [(w5 (by omega)).1]; trivial
      · by_cases h6 : 6 ≤ P.1
        · by_cases h7 : P.1 = 7
          · rw [w6 h7]; trivial
          · rw [if_pos h6, if_neg h7] at h
            exact ib.1 fun v hv => h v (List.mem_append_right _ (List.mem_cons_of_mem _ (List.mem_cons_of_mem _ (List.mem_append_right _ (List.mem_cons_of_mem _ (List.mem_cons_of_mem _ (List.mem_append_left _ hv)))))))
        · rw [(w5 (by omega)).2]; trivial
    · rintro ⟨h1, h2, h3, h4, h5⟩ v hv h8
      rcases List.mem_append.1 hv with hv | hv
      · exact it.2 h1 v hv h8
      · rcases List.mem_cons.1 hv with hv | hv
        · rw [hv]; exact ⟨h4, h5⟩
        · by_cases h6 : 6 ≤ P.1
          · rw [if_pos h6] at hv
            rcases List.mem_cons.1 hv with hv | hv
            · rw [hv] at h8; exact absurd h8 (by show ¬ (9 : Int) ≤ 8; decide)
            · rcases List.mem_append.1 hv with hv | hv
              · exact ia.2 h2 v hv h8
              · rcases List.mem_cons.1 hv with hv | hv
                · rw [hv] at h8; exact absurd h8 (by show ¬ (10 : Int) ≤ 8; decide)
                · by_cases h7 : P.1 = 7
                  · rw [if_pos h7] at hv; exact absurd hv List.not_mem_nil
                  · rw [if_neg h7] at hv
                    rcases List.mem_cons.1 hv with hv | hv
                    · rw [hv] at h8; exact absurd h8 (by show ¬ (9 : Int) ≤ 8; decide)
                    · rcases List.mem_append.1 hv with hv | hv
                      · exact ib.2 h3 v hv h8
                      · rw [List.mem_singleton.1 hv] at h8; exact absurd h8 (by show ¬ (10 : Int) ≤ 8; decide)
          · rw [if_neg h6] at hv; exact absurd hv List.not_mem_nil
/-- the same events: the same bound of terms -/
theorem gd.any {ls : List Int} {t t' : pz_T} (h : gd ls t) (hw : pz_wf t') (hd : pz_ld t' ≤ 2) (he : ls = pz_pr t') (hE : pz_fl t 0 0 0 = pz_fl t' 0 0 0) : gd ls t' := by
  refine h.other hw hd he hE ((gd_tb_fl t' hw 0 0 0 (by decide)).1 ?_)
  rw [← hE]
  exact (gd_tb_fl t h.1.1 0 0 0 (by decide)).2 h.2.2.2.1
/-! a loop in a tree -/
def lp_P : pz_T → Nat → pz_P
  | .leaf, _ => pz_P0
  | .inner _ P _ t (.inner _ _ _ a b), l => if l < pz_nl t then lp_P t l else if P.1 = 7 ∧ l = pz_nl t then P else if l - pz_nl t - (if P.1 = 7 then 1 else 0) < pz_nl a then lp_P a (l - pz_nl t - (if P.1 = 7 then 1 else 0)) else lp_P b (l - pz_nl t - (if P.1 = 7 then 1 else 0) - pz_nl a)
  | .inner _ _ _ _ .leaf, _ => pz_P0
/-- where its invariant begins among the letters -/
def lp_o : pz_T → Nat → Nat
  | .leaf, _ => 0
  | .inner _ P _ t (.inner _ _ _ a b), l => if l < pz_nl t then lp_o t l else if P.1 = 7 ∧ l = pz_nl t then (pz_pr t).length + 1 + P.2.2.1.length else if l - pz_nl t - (if P.1 = 7 then 1 else 0) < pz_nl a then (pz_pr t).length + (pz_hd P).length + 1 + lp_o a (l - pz_nl t - (if P.1 = 7 then 1 else 0)) else (pz_pr t).length + (pz_hd P).length + 1 + (pz_pr a).length + 2 + lp_o b (l - pz_nl t - (if P.1 = 7 then 1 else 0) - pz_nl a)
  | .inner _ _ _ _ .leaf, _ => 0
def sp_t : pz_T → Nat → List Int → pz_T
  | .leaf, _, _ => .leaf
  | .inner s P v t (.inner s' P' v' a b), l, w => if l < pz_nl t then .inner s P v (sp_t t l w) (.inner s' P' v' a b) else if P.1 = 7 ∧ l = pz_nl t then .inner s (P.1, P.2.1, P.2.2.1, w) v t (.inner s' P' v' a b) else if l - pz_nl t - (if P.1 = 7 then 1 else 0) < pz_nl a then .inner s P v t (.inner s' P' v' (sp_t a (l - pz_nl t - (if P.1 = 7 then 1 else 0)) w) b) else .inner s P v t (.inner s' P' v' a (sp_t b (l - pz_nl t - (if P.1 = 7 then 1 else 0) - pz_nl a) w))
  | .inner s P v t .leaf, _, _ => .inner s P v t .leaf
theorem sp_wfP {P : pz_P} (h : pz_wfP P) (h7 : P.1 = 7) {w : List Int} (hw : pz_ist w) : pz_wfP (P.1, P.2.1, P.2.2.1, w) := by
  obtain ⟨h1, h2, h3, h4⟩ := h
  refine ⟨h1, h2, h3, ?_⟩
  show if P.1 = 5 ∨ P.1 = 7 then pz_ist w else w = []
  rw [if_pos (Or.inr h7)]
  exact hw
/-- what the new tree keeps -/
theorem sp_t_k {w : List Int} (hw : pz_ist w) (hwl : w.length ≤ 120) : ∀ (t : pz_T), pz_wf t → ∀ (l : Nat), l < pz_nl t → pz_wf (sp_t t l w) ∧ pz_kn (sp_t t l w) = pz_kn t ∧ pz_nl (sp_t t l w) = pz_nl t ∧ pz_ld (sp_t t l w) = pz_ld t ∧ gm_t (sp_t t l w) = gm_t t ∧ (pz_tb 120 t → pz_tb 120 (sp_t t l w)) ∧ (t ≠ .leaf → sp_t t l w ≠ .leaf) := by
  intro t
  induction t using pz_ind with
  | h0 => intro _ l hl; exact absurd hl (Nat.not_lt_zero _)
  | h2 s P v t => intro h; exact h.elim
  | h1 s P v t s' P' v' a b iht iha ihb =>
    intro hwf l hl
    have hwf0 := hwf
    obtain ⟨w1, w2, w3, w4, w5, w6⟩ := hwf
    rw [pz_nl_nd] at hl
    unfold sp_t
    by_cases c1 : l < pz_nl t
    · rw [if_pos c1]
      obtain ⟨h1, h2, h3, h4, h5, h6, h7⟩ := iht w1 l c1
      refine ⟨⟨h1, w2, w3, w4, w5, w6⟩, ?_, ?_, ?_, ?_, fun ⟨b1, b2, b3, b4⟩ => ⟨h6 b1, b2, b3, b4⟩, fun _ z => by cases z⟩
      · rw [pz_kn_nd, pz_kn_nd, h2]
      · rw [pz_nl_nd, pz_nl_nd, h3]
      · rw [pz_ld_nd, pz_ld_nd, h4]
      · show gm_t (sp_t t l w) + _ = gm_t t + _
        rw [h5]
    · rw [if_neg c1]
      by_cases c2 : P.1 = 7 ∧ l = pz_nl t
      · rw [if_pos c2]
        refine ⟨⟨w1, w2, w3, sp_wfP w4 c2.1 hw, w5, w6⟩, rfl, rfl, rfl, ?_, fun ⟨b1, b2, b3, b4, b5⟩ => ⟨b1, b2, b3, b4, by show ((w.length : Nat) : Int) ≤ 120; omega⟩, fun _ z => by cases z⟩
        show gm_t t + (pz_m1 (pz_evP (P.1, P.2.1, P.2.2.1, w) 0 0) + _) = gm_t t + (pz_m1 (pz_evP P 0 0) + _)
        have : pz_m1 (pz_evP (P.1, P.2.1, P.2.2.1, w) 0 0) = pz_m1 (pz_evP P 0 0) := by
          show (if P.1 = 7 then (P.2.2.1.length : Int) + 3 else _) = (if P.1 = 7 then (P.2.2.1.length : Int) + 3 else _)
          rw [if_pos c2.1, if_pos c2.1]
        rw [this]
      · rw [if_neg c2]
        have hif : pz_nl t + (if P.1 = 7 then 1 else 0) ≤ l := by
          by_cases z : P.1 = 7
          · rw [if_pos z]
            have : l ≠ pz_nl t := fun y => c2 ⟨z, y⟩
            omega
          · rw [if_neg z]; omega
        have h6 : 6 ≤ P.1 := by
          refine Classical.byContradiction fun z => ?_
          obtain ⟨y1, y2⟩ := w5 (by omega)
          rw [y1, y2, if_neg (by omega)] at hl
          have z0 : pz_nl (.leaf : pz_T) = 0 := rfl
          omega
        by_cases c3 : l - pz_nl t - (if P.1 = 7 then 1 else 0) < pz_nl a
        · rw [if_pos c3]
          obtain ⟨h1, h2, h3, h4, h5, h6', h7⟩ := iha w2 _ c3
          refine ⟨⟨w1, h1, w3, w4, fun z => absurd z (by omega), w6⟩, ?_, ?_, ?_, ?_, fun ⟨b1, b2, b3, b4⟩ => ⟨b1, h6' b2, b3, b4⟩, fun _ z => by cases z⟩
          · rw [pz_kn_nd, pz_kn_nd, h2]
          · rw [pz_nl_nd, pz_nl_nd, h3]
          · rw [pz_ld_nd, pz_ld_nd, h4]
          · show gm_t t + (_ + (if 6 ≤ P.1 then _ + (gm_t (sp_t a _ w) + _) else 0)) = gm_t t + (_ + (if 6 ≤ P.1 then _ + (gm_t a + _) else 0))
            rw [h5]
        · rw [if_neg c3]
          obtain ⟨h1, h2, h3, h4, h5, h6', h7⟩ := ihb w3 (l - pz_nl t - (if P.1 = 7 then 1 else 0) - pz_nl a) (by omega)
          have hn7 : ¬ P.1 = 7 := fun z => by
            rw [w6 z] at hl
            have z0 : pz_nl (.leaf : pz_T) = 0 := rfl
            rw [if_pos z] at hl c3 hif
            omega
          refine ⟨⟨w1, w2, h1, w4, fun z => absurd z (by omega), fun z => absurd z hn7⟩, ?_, ?_, ?_, ?_, fun ⟨b1, b2, b3, b4⟩ => ⟨b1, b2, h6' b3, b4⟩, fun _ z => by cases z⟩
          · rw [pz_kn_nd, pz_kn_nd, h2]
          · rw [pz_nl_nd, pz_nl_nd, h3]
          · rw [pz_ld_nd, pz_ld_nd, h4]
          · show gm_t t + (_ + (if 6 ≤ P.1 then _ + (_ + (1 + (if P.1 = 7 then 0 else 1 + (gm_t (sp_t b _ w) + 1)))) else 0)) = gm_t t + (_ + (if 6 ≤ P.1 then _ + (_ + (1 + (if P.1 = 7 then 0 else 1 + (gm_t b + 1)))) else 0))
            rw [h5]
/-- its letters -/
theorem sp_t_pr {w : List Int} : ∀ (t : pz_T), pz_wf t → ∀ (l : Nat), l < pz_nl t → ∃ x y, pz_pr t = x ++ ((lp_P t l).2.2.2 ++ y) ∧ x.length = lp_o t l ∧ pz_pr (sp_t t l w) = x ++ (w ++ y) := by
  intro t
  induction t using pz_ind with
  | h0 => intro _ l hl; exact absurd hl (Nat.not_lt_zero _)
  | h2 s P v t => intro h; exact h.elim
  | h1 s P v t s' P' v' a b iht iha ihb =>
    intro hwf l hl
    obtain ⟨w1, w2, w3, w4, w5, w6⟩ := hwf
    rw [pz_nl_nd] at hl
    rw [pz_pr_nd]
    unfold sp_t lp_P lp_o
    by_cases c1 : l < pz_nl t
    · rw [if_pos c1, if_pos c1, if_pos c1]
      obtain ⟨x, y, h1, h2, h3⟩ := iht w1 l c1
      refine ⟨x, y ++ (pz_hd P ++ (if 6 ≤ P.1 then 40 :: (pz_pr a ++ 41 :: (if P.1 = 7 then [] else 40 :: (pz_pr b ++ [41]))) else [])), ?_, h2, ?_⟩
      · rw [h1]; simp only [List.append_assoc]
      · rw [pz_pr_nd, h3]; simp only [List.append_assoc]
    · rw [if_neg c1, if_neg c1, if_neg c1]
      by_cases c2 : P.1 = 7 ∧ l = pz_nl t
      · rw [if_pos c2, if_pos c2, if_pos c2]
        have hh : ∀ z : List Int, pz_hd (P.1, P.2.1, P.2.2.1, z) = 119 :: (P.2.2.1 ++ z) := fun z => by
          show pz_lt P.1 P.2.1 :: ((if P.1 = 1 then [97 + P.2.1] else []) ++ (P.2.2.1 ++ ((if P.1 = 5 then [97 + P.2.1] else []) ++ z))) = _
          rw [if_neg (by omega), if_neg (by omega), c2.1]
          rfl
        refine ⟨pz_pr t ++ 119 :: P.2.2.1, (if 6 ≤ P.1 then 40 :: (pz_pr a ++ 41 :: (if P.1 = 7 then [] else 40 :: (pz_pr b ++ [41]))) else []), ?_, ?_, ?_⟩
        · have := hh P.2.2.2
          rw [show ((P.1, P.2.1, P.2.2.1, P.2.2.2) : pz_P) = P from rfl] at this
          rw [this]
          simp only [List.append_assoc, List.cons_append]
        · rw [List.length_append, List.length_cons]; omega
        · rw [pz_pr_nd, hh w]
          simp only [List.append_assoc, List.cons_append]
      · rw [if_neg c2, if_neg c2, if_neg c2]
        have hif : pz_nl t + (if P.1 = 7 then 1 else 0) ≤ l := by
          by_cases z : P.1 = 7
          · rw [if_pos z]
            have : l ≠ pz_nl t := fun y => c2 ⟨z, y⟩
            omega
          · rw [if_neg z]; omega
        have h6 : 6 ≤ P.1 := by
          refine Classical.byContradiction fun z => ?_
          obtain ⟨y1, y2⟩ := w5 (by omega)
          rw [y1, y2, if_neg (by omega)] at hl
          have z0 : pz_nl (.leaf : pz_T) = 0 := rfl
          omega
        by_cases c3 : l - pz_nl t - (if P.1 = 7 then 1 else 0) < pz_nl a
        · rw [if_pos c3, if_pos c3, if_pos c3, if_pos h6]
          obtain ⟨x, y, h1, h2, h3⟩ := iha w2 _ c3
          refine ⟨pz_pr t ++ (pz_hd P ++ 40 :: x), y ++ 41 :: (if P.1 = 7 then [] else 40 :: (pz_pr b ++ [41])), ?_, ?_, ?_⟩
          · rw [h1]; simp only [List.append_assoc, List.cons_append]
          · rw [List.length_append, List.length_append, List.length_cons, h2]; omega
          · rw [pz_pr_nd, if_pos h6, h3]; simp only [List.append_assoc, List.cons_append]
        · rw [if_neg c3, if_neg c3, if_neg c3, if_pos h6]
          have hn7 : ¬ P.1 = 7 := fun z => by
            rw [w6 z] at hl
            have z0 : pz_nl (.leaf : pz_T) = 0 := rfl
            rw [if_pos z] at hl c3 hif
            omega
          obtain ⟨x, y, h1, h2, h3⟩ := ihb w3 (l - pz_nl t - (if P.1 = 7 then 1 else 0) - pz_nl a) (by omega)
          rw [show (if P.1 = 7 then ([] : List Int) else 40 :: (pz_pr b ++ [41])) = 40 :: (pz_pr b ++ [41]) from if_neg hn7]
          refine ⟨pz_pr t ++ (pz_hd P ++ 40 :: (pz_pr a ++ 41 :: 40 :: x)), y ++ [41], ?_, ?_, ?_⟩
          · rw [h1]; simp only [List.append_assoc, List.cons_append]
          · rw [List.length_append, List.length_append, List.length_cons, List.length_append, List.length_cons, List.length_cons, h2]; omega
          · rw [pz_pr_nd, if_pos h6, if_neg hn7, h3]; simp only [List.append_assoc, List.cons_append]
theorem gd.sp {ls : List Int} {t : pz_T} (h : gd ls t) {l : Nat} (hl : l < pz_nl t) {w : List Int} (hw : pz_ist w) (hwl : w.length ≤ 120) : gd (pz_spl ls w (lp_o t l) (lp_P t l).2.2.2.length) (sp_t t l w) ∧ lp_o t l + (lp_P t l).2.2.2.length ≤ ls.length := by
  obtain ⟨⟨h1, h2, h3⟩, h4, ⟨h5, h6⟩, h7, h8⟩ := h
  obtain ⟨k1, k2, k3, k4, k5, k6, -⟩ := sp_t_k hw hwl t h1 l hl
  obtain ⟨x, y, e1, e2, e3⟩ := sp_t_pr (w := w) t h1 l hl
  have hs : pz_spl ls w (lp_o t l) (lp_P t l).2.2.2.length = pz_pr (sp_t t l w) := by
    unfold pz_spl
    rw [e3, h3, e1, ← e2, List.take_left, ← List.append_assoc x, List.drop_append_of_le_length (by rw [List.length_append]; exact Nat.le_refl _), ← List.length_append, List.drop_length, List.nil_append, List.append_assoc]
  refine ⟨⟨⟨k1, by omega, hs⟩, ?_, ⟨by omega, by omega⟩, k6 h7, by omega⟩, ?_⟩
  · rw [hs]
    exact pz_read_pr k1 (by omega) (by omega) (by omega) (pz_tn_pr _ k1)
  · rw [h3, e1, List.length_append, List.length_append]
    omega
