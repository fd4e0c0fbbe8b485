/-! pure: the reader stays within the text -/
theorem pz_tm_le (l : List Int) (m k : Nat) : (pz_tm l m k).2 ≤ k + l.length := by
  induction l generalizing m k with
  | nil =>
    cases m with
    | zero => simp [pz_tm]
    | succ m => simp [pz_tm]
  | cons c t ih =>
    cases m with
    | zero => simp [pz_tm]
    | succ m =>
      unfold pz_tm
      split
      · have := ih (m + 2) (k + 1)
        simp
        omega
      · split
        · have := ih (m + 1) (k + 1)
          simp
          omega
        · split
          · have := ih m (k + 1)
            simp
            omega
          · simp
/-- place and fault lie within -/
def pz_wi (ls : List Int) (t : Int × Int × Int) : Prop := 0 ≤ t.2.1 ∧ t.2.1 ≤ (ls.length : Int) ∧ (t.2.2 = -9 ∨ (0 ≤ t.2.2 ∧ t.2.2 ≤ (ls.length : Int)))
theorem pz_te_wi {ls : List Int} {a f : Int} (h : 0 ≤ a ∧ a ≤ (ls.length : Int)) (hf : f = -9 ∨ (0 ≤ f ∧ f ≤ (ls.length : Int))) : pz_wi ls (pz_te ls a f) := by
  have := pz_tm_le (ls.drop a.toNat) 1 0
  rw [List.length_drop] at this
  unfold pz_te
  split
  · refine ⟨by show 0 ≤ a + _; omega, by show a + _ ≤ _; omega, ?_⟩
    show (if _ then (-9 : Int) else _) = -9 ∨ _
    split
    · exact Or.inl rfl
    · exact Or.inr ⟨by show 0 ≤ a + _; omega, by show a + _ ≤ _; omega⟩
  · exact ⟨h.1, h.2, hf⟩
theorem pz_at_lt {ls : List Int} {i : Nat} (h : pz_at ls i ≠ -9) : i < ls.length := by
  rcases Nat.lt_or_ge i ls.length with q | q
  · exact q
  · exfalso
    apply h
    unfold pz_at
    rw [List.getD_eq_getElem?_getD, List.getElem?_eq_none q]
    rfl
theorem pz_nm_wi {ls : List Int} {a f : Int} (h : 0 ≤ a ∧ a ≤ (ls.length : Int)) (hf : f = -9 ∨ (0 ≤ f ∧ f ≤ (ls.length : Int))) : pz_wi ls (pz_nm ls a f) := by
  unfold pz_nm
  split
  · split
    · rename_i hn
      have := pz_at_lt (ls := ls) (i := a.toNat) (by unfold pz_name at hn; omega)
      exact ⟨by show 0 ≤ a + 1; omega, by show a + 1 ≤ _; omega, Or.inl rfl⟩
    · exact ⟨h.1, h.2, Or.inr h⟩
  · exact ⟨h.1, h.2, hf⟩
theorem pz_t2_wi {ls : List Int} {its v0 a : Int} (h : 0 ≤ a ∧ a ≤ (ls.length : Int)) : pz_wi ls (pz_t2 ls its v0 a) := by
  have h1 : pz_wi ls (pz_n1 ls its v0 a) := by
    unfold pz_n1
    split
    · exact pz_nm_wi h (Or.inl rfl)
    · exact ⟨h.1, h.2, Or.inl rfl⟩
  have h2 : pz_wi ls (pz_t1 ls its v0 a) := by
    unfold pz_t1
    split
    · exact ⟨h1.1, h1.2.1, h1.2.2⟩
    · exact pz_te_wi ⟨h1.1, h1.2.1⟩ h1.2.2
  have h3 : pz_wi ls (pz_n2 ls its v0 a) := by
    unfold pz_n2
    split
    · exact pz_nm_wi ⟨h2.1, h2.2.1⟩ h2.2.2
    · exact ⟨h2.1, h2.2.1, h2.2.2⟩
  unfold pz_t2
  split
  · exact pz_te_wi ⟨h3.1, h3.2.1⟩ h3.2.2
  · exact ⟨h3.1, h3.2.1, h3.2.2⟩
/-- what a turn leaves lies within, and has not grown more than it read -/
def pz_tw (ls : List Int) (E : List pz_Ev) (op : List Nat) (a : Int) : Int ⊕ (List pz_Ev × List Nat × Int) → Prop
  | .inl p => 0 ≤ p ∧ p ≤ (ls.length : Int)
  | .inr r => a + 1 ≤ r.2.2 ∧ r.2.2 ≤ (ls.length : Int) ∧ (r.1.length : Int) ≤ (E.length : Int) + (r.2.2 - a) ∧ (r.2.1.length : Int) ≤ (op.length : Int) + (r.2.2 - a)
theorem pz_pop_tw {ls : List Int} {E0 E : List pz_Ev} {op0 op : List Nat} {a0 a w i : Int} (h : 0 ≤ a ∧ a ≤ (ls.length : Int)) (h0 : a0 + 1 ≤ a) (hE : (E.length : Int) ≤ (E0.length : Int) + (a - a0)) (hO : (op.length : Int) ≤ (op0.length : Int) + (a - a0)) : pz_tw ls E0 op0 a0 (pz_pop ls E op a w i) := by
  unfold pz_pop
  split
  · rename_i hn
    have := pz_at_lt (ls := ls) (i := a.toNat) (by omega)
    refine ⟨by show a0 + 1 ≤ a + 1; omega, by show a + 1 ≤ _; omega, ?_, ?_⟩
    · show ((E ++ _).length : Int) ≤ _ + (a + 1 - a0)
      rw [List.length_append, List.length_singleton]
      omega
    · show ((_ :: op).length : Int) ≤ _ + (a + 1 - a0)
      rw [List.length_cons]
      omega
  · exact h
theorem pz_stm_tw {ls : List Int} {E : List pz_Ev} {op : List Nat} {a its : Int} (h : 0 ≤ a ∧ a < (ls.length : Int)) : pz_tw ls E op a (pz_stm ls E op a its) := by
  unfold pz_stm
  generalize (if its = 0 then pz_at ls a.toNat - 97 else 0) = v0
  have hw := pz_t2_wi (ls := ls) (its := its) (v0 := v0) (a := a + 1) ⟨by omega, by omega⟩
  have hm := pz_t2_mono ls its v0 (a + 1)
  obtain ⟨w1, w2, w3⟩ := hw
  split
  · split
    · refine pz_pop_tw ⟨w1, w2⟩ hm ?_ ?_
      · rw [List.length_append, List.length_singleton]; omega
      · omega
    · refine ⟨hm, w2, ?_, ?_⟩
      · show ((E ++ _).length : Int) ≤ _ + ((pz_t2 ls its v0 (a + 1)).2.1 - a)
        rw [List.length_append, List.length_singleton]; omega
      · show (op.length : Int) ≤ _ + ((pz_t2 ls its v0 (a + 1)).2.1 - a)
        omega
  · rename_i hz
    rcases w3 with w3 | w3
    · exact absurd w3 hz
    · exact w3
theorem pz_turn_tw {ls : List Int} {E : List pz_Ev} {op : List Nat} {a : Int} (h : 0 ≤ a ∧ a < (ls.length : Int)) : pz_tw ls E op a (pz_turn ls E op a) := by
  unfold pz_turn
  split
  · rename_i o op'
    split
    · split
      · refine pz_pop_tw ⟨by omega, by omega⟩ (Int.le_refl _) ?_ ?_
        · rw [List.length_append, List.length_singleton]; omega
        · rw [List.length_cons]; omega
      · refine ⟨Int.le_refl _, by show a + 1 ≤ _; omega, ?_, ?_⟩
        · show ((E ++ _).length : Int) ≤ _ + (a + 1 - a)
          rw [List.length_append, List.length_singleton]; omega
        · show (op'.length : Int) ≤ ((o :: op').length : Int) + (a + 1 - a)
          rw [List.length_cons]; omega
    · split
      · exact pz_stm_tw h
      · exact ⟨h.1, by omega⟩
  · split
    · exact pz_stm_tw h
    · exact ⟨h.1, by omega⟩
/-- short texts need few rows -/
theorem pz_okr_short {ls : List Int} (hl : ls.length ≤ 120) : ∀ (n : Nat) (E : List pz_Ev) (op : List Nat) (a : Int), 0 ≤ a → a ≤ (ls.length : Int) → (E.length : Int) ≤ a → (op.length : Int) ≤ a → pz_okr ls n E op a := by
  intro n
  induction n with
  | zero => intro E op a _ _ _ _; trivial
  | succ n ih =>
    intro E op a h0 h1 h2 h3
    refine ⟨by omega, by omega, fun hlt => ?_⟩
    have ht := pz_turn_tw (E := E) (op := op) ⟨h0, hlt⟩
    cases hx : pz_turn ls E op a with
    | inl p => trivial
    | inr r =>
      rw [hx] at ht
      obtain ⟨t1, t2, t3, t4⟩ := ht
      exact ih r.1 r.2.1 r.2.2 (by omega) t2 (by omega) (by omega)
/-- a fault lies within -/
theorem pz_run_wi {ls : List Int} : ∀ (n : Nat) (E : List pz_Ev) (op : List Nat) (a p : Int), 0 ≤ a → a ≤ (ls.length : Int) → pz_run ls n E op a = .inl p → 0 ≤ p ∧ p ≤ (ls.length : Int) := by
  intro n
  induction n with
  | zero => intro E op a p h0 h1 h; cases h; exact ⟨h0, h1⟩
  | succ n ih =>
    intro E op a p h0 h1 h
    unfold pz_run at h
    split at h
    · rename_i hlt
      have ht := pz_turn_tw (E := E) (op := op) ⟨h0, hlt⟩
      cases hx : pz_turn ls E op a with
      | inl q =>
        rw [hx] at ht h
        cases h
        exact ht
      | inr r =>
        rw [hx] at ht h
        obtain ⟨t1, t2, t3, t4⟩ := ht
        exact ih r.1 r.2.1 r.2.2 p (by omega) t2 h
    · split at h
      · cases h
      · cases h; exact ⟨h0, h1⟩

