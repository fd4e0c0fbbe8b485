/-! the passive form by the events is that of the tree -/
def pq_g (M : ab_M) (st : ps_S) : Prop := (∀ v, v < 4 → M 835 v = st.1 v) ∧ M 797 58 = st.2.1 ∧ M 797 59 = st.2.2
def pq_e (M : ab_M) (o : Option ps_V) (st : ps_S) : Prop := (∀ V, o = some V → M 797 57 = 1 ∧ ∀ v, v < 4 → M 834 v = V v) ∧ (o = none → M 797 57 = 0) ∧ pq_g M st
/-- the rows of a stretch of events, and what of the rest changes -/
def pq_F (M M' : ab_M) (a b : Nat) (τ : Int) (th : List ps_V) : Prop :=
  (M' 797 27 = M 797 27 ∧ ∀ k : Nat, (k : Int) < M 797 27 → M' 815 k = M 815 k) ∧ (∀ k, ¬ (4 * a ≤ k ∧ k < 4 * b) → M' 836 k = M 836 k ∧ M' 837 k = M 837 k) ∧ (∀ k, ¬ (a ≤ k ∧ k < b) → M' 838 k = M 838 k ∧ M' 839 k = M 839 k) ∧
  (∀ its : Int, its < (a : Int) → ∀ v, v < 4 → pO_L M' its v = pO_L M its v ++ (if its = τ ∧ τ ≠ -9 then th.map (fun U => U v) else [])) ∧
  ∀ its : Int, (b : Int) ≤ its → ∀ v, v < 4 → pO_L M' its v = pO_L M its v
theorem pq_F.tr {A B C : ab_M} {a b c : Nat} {τ : Int} {t1 t2 : List ps_V} (hab : a ≤ b) (hbc : b ≤ c) (h : pq_F A B a b τ t1) (h' : pq_F B C b c τ t2) : pq_F A C a c τ (t1 ++ t2) := by
  obtain ⟨⟨h1, h2⟩, h3, h4, h5, h6⟩ := h
  obtain ⟨⟨g1, g2⟩, g3, g4, g5, g6⟩ := h'
  refine ⟨⟨g1.trans h1, fun k hk => (g2 k (by omega)).trans (h2 k hk)⟩, fun k q => ⟨((g3 k (by omega)).1).trans (h3 k (by omega)).1, ((g3 k (by omega)).2).trans (h3 k (by omega)).2⟩, fun k q => ⟨((g4 k (by omega)).1).trans (h4 k (by omega)).1, ((g4 k (by omega)).2).trans (h4 k (by omega)).2⟩, fun its hi v hv => ?_, fun its hi v hv => (g6 its hi v hv).trans (h6 its (by omega) v hv)⟩
  rw [g5 its (by omega) v hv, h5 its hi v hv, List.append_assoc]
  congr 1
  split
  · rw [List.map_append]
  · rfl
theorem pO_L_fr {M M' : ab_M} (h1 : ∀ k, M' 840 k = M 840 k) (h2 : ∀ k, M' 841 k = M 841 k) (h3 : M' 797 66 = M 797 66) (its : Int) (v : Nat) : pO_L M' its v = pO_L M its v := by
  unfold pO_L
  rw [h3, jv_L_fr h1 h2]
theorem pq_F.rf {M M' : ab_M} {a b : Nat} {τ : Int} (h27 : M' 797 27 = M 797 27) (h66 : M' 797 66 = M 797 66) (h : ∀ o k : Nat, (o = 815 ∨ o = 836 ∨ o = 837 ∨ o = 838 ∨ o = 840 ∨ o = 841) → M' o k = M o k) (h26 : ∀ k, ¬ (a ≤ k ∧ k < b) → M' 839 k = M 839 k) : pq_F M M' a b τ [] := by
  have hl := fun its v => pO_L_fr (its := its) (v := v) (fun k => h 840 k (by omega)) (fun k => h 841 k (by omega)) h66
  refine ⟨⟨h27, fun k _ => h 815 k (by omega)⟩, fun k _ => ⟨h 836 k (by omega), h 837 k (by omega)⟩, fun k q => ⟨h 838 k (by omega), h26 k q⟩, fun its _ v _ => ?_, fun its _ v _ => hl its v⟩
  rw [hl]
  simp
/-- the variables of a tree are those of its events -/
theorem an_s_t {M : ab_M} {s : Nat} : ∀ (t : pz_T), pz_wf t → ∀ (j q c : Nat), ev_at M (s + j) (pz_fl t q (s + j) c) → an_s M s (j + pz_ne t) = ab_or (an_s M s j) (pz_mk (pz_md t)) := by
  have hor : ∀ f g : Nat → Bool, ab_or (pz_mk f) (pz_mk g) = pz_mk (fun v => f v || g v) := fun f g => by
    have key : ∀ a b c d a' b' c' d' : Bool, ab_or (pz_mk4 a b c d) (pz_mk4 a' b' c' d') = pz_mk4 (a || a') (b || b') (c || c') (d || d') := by decide +kernel
    exact key _ _ _ _ _ _ _ _
  have hassoc : ∀ x y z : Int, ab_or (ab_or x y) z = ab_or x (ab_or y z) := fun x y z => by
    unfold ab_or
    rw [Int32.ofInt_toInt, Int32.ofInt_toInt, Int32.or_assoc]
  have hz : ∀ x : Int, ab_or (ab_or x 0) 0 = ab_or x 0 := fun x => by rw [hassoc]; rfl
  intro t
  induction t using pz_ind with
  | h0 =>
    intro _ j q c _
    show an_s M s j = ab_or (an_s M s j) (pz_mk fun v => pz_md .leaf v)
    have e0 : pz_mk (fun v => pz_md .leaf v) = 0 := rfl
    rw [e0]
    cases j with
    | zero =>
      show (0 : Int) = ab_or 0 0
      rfl
    | succ j =>
      show ab_or _ _ = ab_or (ab_or _ _) 0
      rw [hassoc]
      congr 1
      split
      · unfold ab_or
        rw [show Int32.ofInt 0 = 0 from rfl, Int32.or_zero, ab_shl, Int32.ofInt_toInt]
      · rfl
  | h2 s P v t => intro h; exact h.elim
  | h1 s0 P v t s' P' v' a b iht iha ihb =>
    intro hw j q c h
    obtain ⟨w1, w2, w3, w4, w5, w6⟩ := hw
    obtain ⟨h1, h2, h3⟩ := h.nd
    have hP := pz_ev_s (by have := w4.1; omega) h2
    have hp1 := w4.1
    have st : ∀ k, an_s M s (k + 1) = ab_or (an_s M s k) (if M 805 (s + k) = 0 ∨ M 805 (s + k) = 1 ∨ M 805 (s + k) = 5 then ab_shl 1 (M 806 (s + k)) else 0) := fun _ => rfl
    have ht := iht w1 j q c h1
    have hmd : pz_mk (pz_md (.inner s0 P v t (.inner s' P' v' a b))) = ab_or (pz_mk (pz_md t)) (ab_or (pz_mk (fun v => decide ((P.1 = 0 ∨ P.1 = 1 ∨ P.1 = 5) ∧ P.2.1 = (v : Int)))) (ab_or (pz_mk (pz_md a)) (pz_mk (pz_md b)))) := by
      rw [hor, hor, hor]
      rfl
    have e1 : an_s M s (j + pz_ne t + 1) = ab_or (an_s M s (j + pz_ne t)) (pz_mk (fun v => decide ((P.1 = 0 ∨ P.1 = 1 ∨ P.1 = 5) ∧ P.2.1 = (v : Int)))) := by
      rw [st, show s + (j + pz_ne t) = s + j + pz_ne t by omega, hP.1, hP.2.1]
      congr 1
      by_cases z : P.1 = 0 ∨ P.1 = 1 ∨ P.1 = 5
      · rw [if_pos z]
        have hv := w4.2.1
        rw [if_pos z] at hv
        have key : ∀ v : Fin 4, ab_shl 1 ((v.val : Nat) : Int) = pz_mk4 (decide (v.val = 0)) (decide (v.val = 1)) (decide (v.val = 2)) (decide (v.val = 3)) := by decide +kernel
        have := key ⟨P.2.1.toNat, by omega⟩
        rw [show (((⟨P.2.1.toNat, by omega⟩ : Fin 4).val : Nat) : Int) = P.2.1 from Int.toNat_of_nonneg hv.1] at this
        rw [this]
        unfold pz_mk
        have hd : ∀ k : Nat, decide (P.2.1.toNat = k) = decide ((P.1 = 0 ∨ P.1 = 1 ∨ P.1 = 5) ∧ P.2.1 = (k : Int)) := fun k => decide_eq_decide.2 ⟨fun x => ⟨z, by omega⟩, fun x => by omega⟩
        show pz_mk4 (decide (P.2.1.toNat = 0)) (decide (P.2.1.toNat = 1)) (decide (P.2.1.toNat = 2)) (decide (P.2.1.toNat = 3)) = _
        rw [hd, hd, hd, hd]
      · rw [if_neg z]
        have : ∀ k : Nat, decide ((P.1 = 0 ∨ P.1 = 1 ∨ P.1 = 5) ∧ P.2.1 = (k : Int)) = false := fun k => decide_eq_false fun x => z x.1
        unfold pz_mk
        simp only [this]
        rfl
    have hno : ∀ k, 9 ≤ M 805 (s + k) → an_s M s (k + 1) = ab_or (an_s M s k) 0 := fun k hk => by rw [st, if_neg (by omega)]
    have hleaf : pz_mk (pz_md .leaf) = 0 := rfl
    rw [pz_ne_nd, hmd, ← Nat.add_assoc, ← hassoc, ← ht, ← hassoc]
    by_cases h6 : 6 ≤ P.1
    · rw [if_pos h6]
      obtain ⟨g1, ⟨qa, ca, g2⟩, g3, g4⟩ := h3 h6
      obtain ⟨o1, o2, o3⟩ := pz_ev_o g1
      obtain ⟨l1, l2, l3⟩ := pz_ev_c g3
      rw [show s + j + pz_ne t + 2 = s + (j + pz_ne t + 2) by omega] at g2
      have ha := iha w2 (j + pz_ne t + 2) qa ca g2
      have x2 : an_s M s (j + pz_ne t + 2) = ab_or (an_s M s (j + pz_ne t + 1)) 0 := hno _ (by rw [show s + (j + pz_ne t + 1) = s + j + pz_ne t + 1 by omega]; omega)
      have x3 : an_s M s (j + pz_ne t + 2 + pz_ne a + 1) = ab_or (an_s M s (j + pz_ne t + 2 + pz_ne a)) 0 := hno _ (by rw [show s + (j + pz_ne t + 2 + pz_ne a) = s + j + pz_ne t + 2 + pz_ne a by omega]; omega)
      by_cases h7 : P.1 = 7
      · rw [if_pos h7, w6 h7, hleaf, show j + pz_ne t + (1 + (2 + (pz_ne a + 0))) = j + pz_ne t + 2 + pz_ne a + 1 by omega, x3, ha, x2, e1]
        rw [hassoc, hassoc, hassoc, hassoc]
        congr 2
        rw [← hassoc]
        congr 1
        have : ∀ x : Int, ∀ f : Nat → Bool, ab_or 0 (pz_mk f) = pz_mk f := fun _ f => by
          have key : ∀ a b c d : Bool, ab_or 0 (pz_mk4 a b c d) = pz_mk4 a b c d := by decide +kernel
          exact key _ _ _ _
        exact this 0 _
      · rw [if_neg h7]
        obtain ⟨g5, ⟨qb, cb, g6⟩, g7⟩ := g4 h7
        obtain ⟨o4, o5, o6⟩ := pz_ev_o g5
        obtain ⟨l4, l5, l6⟩ := pz_ev_c g7
        rw [show s + j + pz_ne t + 2 + pz_ne a + 2 = s + (j + pz_ne t + 2 + pz_ne a + 2) by omega] at g6
        have hb := ihb w3 (j + pz_ne t + 2 + pz_ne a + 2) qb cb g6
        have x4 : an_s M s (j + pz_ne t + 2 + pz_ne a + 2) = ab_or (an_s M s (j + pz_ne t + 2 + pz_ne a + 1)) 0 := hno _ (by rw [show s + (j + pz_ne t + 2 + pz_ne a + 1) = s + j + pz_ne t + 2 + pz_ne a + 1 by omega]; omega)
        have x5 : an_s M s (j + pz_ne t + 2 + pz_ne a + 2 + pz_ne b + 1) = ab_or (an_s M s (j + pz_ne t + 2 + pz_ne a + 2 + pz_ne b)) 0 := hno _ (by rw [show s + (j + pz_ne t + 2 + pz_ne a + 2 + pz_ne b) = s + j + pz_ne t + 2 + pz_ne a + 2 + pz_ne b by omega]; omega)
        have h0l : ∀ f : Nat → Bool, ab_or 0 (pz_mk f) = pz_mk f := fun f => by
          have key : ∀ a b c d : Bool, ab_or 0 (pz_mk4 a b c d) = pz_mk4 a b c d := by decide +kernel
          exact key _ _ _ _
        have h0r : ∀ f : Nat → Bool, ab_or (pz_mk f) 0 = pz_mk f := fun f => by
          have key : ∀ a b c d : Bool, ab_or (pz_mk4 a b c d) 0 = pz_mk4 a b c d := by decide +kernel
          exact key _ _ _ _
        have h00 : ab_or 0 0 = 0 := rfl
        rw [show j + pz_ne t + (1 + (2 + (pz_ne a + (2 + pz_ne b)))) = j + pz_ne t + 2 + pz_ne a + 2 + pz_ne b + 1 by omega, x5, hb, x4, x3, ha, x2, e1]
        simp only [hassoc]
        simp only [h0l, h0r, h00, ← hassoc]
    · rw [if_neg h6, (w5 (by omega)).1, (w5 (by omega)).2, hleaf, show j + pz_ne t + (1 + 0) = j + pz_ne t + 1 by omega, e1, hassoc]
      congr 1
      have h0r : ∀ f : Nat → Bool, ab_or (pz_mk f) (ab_or 0 0) = pz_mk f := fun f => by
        have key : ∀ a b c d : Bool, ab_or (pz_mk4 a b c d) (ab_or 0 0) = pz_mk4 a b c d := by decide +kernel
        exact key _ _ _ _
      exact (h0r _).symm
