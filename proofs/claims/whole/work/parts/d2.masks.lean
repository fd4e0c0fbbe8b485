/-! the graph of the reference's code -/
def re_p (M : ab_M) (j : Nat) : List (Int × Int) :=
  if M 818 (j / 256) = 0 then [(((j / 256 + 1 : Nat) : Int), pz_sw ((j % 256 : Nat) : Int) (M 819 (j / 256)) (M 822 j))]
  else if M 818 (j / 256) = 1 then [(((j / 256 + 1 : Nat) : Int), pz_sw ((j % 256 : Nat) : Int) (M 819 (j / 256)) 0), (((j / 256 + 1 : Nat) : Int), pz_sw ((j % 256 : Nat) : Int) (M 819 (j / 256)) 1), (((j / 256 + 1 : Nat) : Int), pz_sw ((j % 256 : Nat) : Int) (M 819 (j / 256)) 2), (((j / 256 + 1 : Nat) : Int), pz_sw ((j % 256 : Nat) : Int) (M 819 (j / 256)) 3)]
  else if M 818 (j / 256) = 2 ∨ M 818 (j / 256) = 3 then (if M 822 j = 0 then [] else [(((j / 256 + 1 : Nat) : Int), ((j % 256 : Nat) : Int))])
  else if M 818 (j / 256) = 4 then [(if M 822 j = 0 then M 820 (j / 256) else ((j / 256 + 1 : Nat) : Int), ((j % 256 : Nat) : Int))]
  else if M 818 (j / 256) = 5 then [(M 820 (j / 256), ((j % 256 : Nat) : Int))]
  else []
def re_S (M : ab_M) (j : Nat) : List Int := (re_p M j).filterMap fun p => if p.1 = M 797 33 ∨ p.1 = -1 then none else some (256 * p.1 + p.2)
def re_O (M : ab_M) (j b : Nat) : Prop := (M 818 (j / 256) = 2 ∧ M 822 j = 0 ∧ (b : Int) = M 819 (j / 256)) ∨ (∃ p ∈ re_p M j, p.1 = M 797 33 ∧ b = 16) ∨ ∃ p ∈ re_p M j, p.1 = -1 ∧ b = 17
/-- the memory with other masks -/
def re_M (M : ab_M) (N : Nat → Int) : ab_M := fun o k => if o = 825 then N k else M o k
def re_v (M : ab_M) (N : Nat → Int) (j : Nat) : Int := ab_or (cb_v (re_M M N) ((j / 256 : Nat) : Int) ((j % 256 : Nat) : Int)) 0
def re_K (M : ab_M) : Prop := cb_K M ∧ ∀ i : Nat, (i : Int) < M 797 33 → M 818 i = 2 → 0 ≤ M 819 i ∧ M 819 i < 16
theorem cf_b {M : ab_M} {N : Nat → Int} (h0 : 0 ≤ M 797 33) (r s : Int) {b : Nat} (hb : b < 32) : pz_b (cf_v (re_M M N) r s) b = true ↔ (r = M 797 33 ∧ b = 16) ∨ (r = -1 ∧ b = 17) ∨ (¬ (r = M 797 33 ∨ r = -1) ∧ pz_b (N (256 * r + s).toNat) b = true) := by
  have k1 : ∀ b : Fin 32, pz_b 65536 b.val = decide (b.val = 16) := by decide +kernel
  have k2 : ∀ b : Fin 32, pz_b 131072 b.val = decide (b.val = 17) := by decide +kernel
  have k1 := k1 ⟨b, hb⟩
  have k2 := k2 ⟨b, hb⟩
  have e33 : re_M M N 797 33 = M 797 33 := rfl
  unfold cf_v
  rw [e33]
  by_cases c : r = M 797 33
  · rw [if_pos c, k1]
    constructor
    · intro h
      exact Or.inl ⟨c, of_decide_eq_true h⟩
    · rintro (h | h | h)
      · exact decide_eq_true h.2
      · omega
      · exact absurd (Or.inl c) h.1
  · rw [if_neg c]
    by_cases d : r = -1
    · rw [if_pos d, k2]
      constructor
      · intro h
        exact Or.inr (Or.inl ⟨d, of_decide_eq_true h⟩)
      · rintro (h | h | h)
        · exact absurd h.1 c
        · exact decide_eq_true h.2
        · exact absurd (Or.inr d) h.1
    · rw [if_neg d]
      constructor
      · intro h
        exact Or.inr (Or.inr ⟨fun z => z.elim c d, h⟩)
      · rintro (h | h | h)
        · exact absurd h.1 c
        · exact absurd h.1 d
        · exact h.2
/-- what comes by successors -/
theorem re_F (M : ab_M) (N : Nat → Int) (h0 : 0 ≤ M 797 33) (j : Nat) {b : Nat} (hb : b < 32) : (∃ p ∈ re_p M j, pz_b (cf_v (re_M M N) p.1 p.2) b = true) ↔ ((∃ p ∈ re_p M j, p.1 = M 797 33 ∧ b = 16) ∨ (∃ p ∈ re_p M j, p.1 = -1 ∧ b = 17)) ∨ ∃ q ∈ re_S M j, pz_b (N q.toNat) b = true := by
  constructor
  · rintro ⟨p, hp, h⟩
    rcases (cf_b h0 p.1 p.2 hb).1 h with h | h | h
    · exact Or.inl (Or.inl ⟨p, hp, h⟩)
    · exact Or.inl (Or.inr ⟨p, hp, h⟩)
    · exact Or.inr ⟨_, List.mem_filterMap.2 ⟨p, hp, if_neg h.1⟩, h.2⟩
  · rintro ((⟨p, hp, h⟩ | ⟨p, hp, h⟩) | ⟨q, hq, h⟩)
    · exact ⟨p, hp, (cf_b h0 p.1 p.2 hb).2 (Or.inl h)⟩
    · exact ⟨p, hp, (cf_b h0 p.1 p.2 hb).2 (Or.inr (Or.inl h))⟩
    · obtain ⟨p, hp, e⟩ := List.mem_filterMap.1 hq
      by_cases c : p.1 = M 797 33 ∨ p.1 = -1
      · rw [if_pos c] at e; cases e
      · rw [if_neg c] at e
        cases e
        exact ⟨p, hp, (cf_b h0 p.1 p.2 hb).2 (Or.inr (Or.inr ⟨c, h⟩))⟩
theorem re_gxv {M : ab_M} (hK : re_K M) {j : Nat} (hj : ((j / 256 : Nat) : Int) < M 797 33) : gx_v (re_S M) (re_O M) (re_v M) j := by
  intro N
  obtain ⟨⟨⟨g0, g1⟩, gk⟩, g2⟩ := hK
  refine ⟨?_, fun b hb => ?_⟩
  · unfold re_v ab_or
    exact ⟨by have := Int32.le_toInt (Int32.ofInt (cb_v (re_M M N) ((j / 256 : Nat) : Int) ((j % 256 : Nat) : Int)) ||| Int32.ofInt 0); simpa using this, by have := Int32.toInt_lt (Int32.ofInt (cb_v (re_M M N) ((j / 256 : Nat) : Int) ((j % 256 : Nat) : Int)) ||| Int32.ofInt 0); simpa using this⟩
  · have key : pz_b (cb_v (re_M M N) ((j / 256 : Nat) : Int) ((j % 256 : Nat) : Int)) b = true ↔ (M 818 (j / 256) = 2 ∧ M 822 j = 0 ∧ (b : Int) = M 819 (j / 256)) ∨ ∃ p ∈ re_p M j, pz_b (cf_v (re_M M N) p.1 p.2) b = true := by
      have ej : ((256 : Int) * ((j / 256 : Nat) : Int) + ((j % 256 : Nat) : Int)).toNat = j := by omega
      have er : (((j / 256 : Nat) : Int)).toNat = j / 256 := rfl
      have e1 : ((j / 256 : Nat) : Int) + 1 = ((j / 256 + 1 : Nat) : Int) := by omega
      unfold cb_v re_p
      rw [er, ej, e1]
      have f : ∀ o k : Nat, o ≠ 825 → re_M M N o k = M o k := fun o k z => if_neg z
      rw [f 818 _ (by decide), f 819 _ (by decide), f 820 _ (by decide), f 822 _ (by decide)]
      have h2 := g2 (j / 256) hj
      have none : ∀ {P : Prop}, ¬ M 818 (j / 256) = 2 → ((M 818 (j / 256) = 2 ∧ M 822 j = 0 ∧ (b : Int) = M 819 (j / 256)) ∨ P ↔ P) := fun z => ⟨fun x => x.resolve_left fun y => z y.1, Or.inr⟩
      by_cases z0 : M 818 (j / 256) = 0
      · rw [none (by omega), if_pos z0, if_pos z0]
        simp
      · rw [if_neg z0, if_neg z0]
        by_cases z1 : M 818 (j / 256) = 1
        · rw [none (by omega), if_pos z1, if_pos z1, pz_b_or, pz_b_or, pz_b_or]
          simp [or_assoc]
        · rw [if_neg z1, if_neg z1]
          by_cases z2 : M 818 (j / 256) = 2
          · rw [if_pos z2, if_pos (Or.inl z2)]
            by_cases z9 : M 822 j = 0
            · rw [if_pos z9, if_pos z9, pz_b_shl (h2 z2).1 (by have := (h2 z2).2; omega) hb]
              simp [z2, z9]
            · rw [if_neg z9, if_neg z9]
              simp [z9]
          · rw [none z2, if_neg z2]
            by_cases z3 : M 818 (j / 256) = 3
            · rw [if_pos z3, if_pos (Or.inr z3)]
              by_cases z9 : M 822 j = 0
              · rw [if_pos z9, if_pos z9, pz_b_0]
                simp
              · rw [if_neg z9, if_neg z9]
                simp
            · rw [if_neg z3, if_neg (show ¬ (M 818 (j / 256) = 2 ∨ M 818 (j / 256) = 3) from fun y => y.elim z2 z3)]
              by_cases z4 : M 818 (j / 256) = 4
              · rw [if_pos z4, if_pos z4]
                by_cases z9 : M 822 j = 0
                · rw [if_pos z9, if_pos z9]
                  simp
                · rw [if_neg z9, if_neg z9]
                  simp
              · rw [if_neg z4, if_neg z4]
                by_cases z5 : M 818 (j / 256) = 5
                · rw [if_pos z5, if_pos z5]
                  simp
                · rw [if_neg z5, if_neg z5, pz_b_0]
                  simp
    unfold re_v
    rw [pz_b_or, pz_b_0, Bool.or_false, key, re_F M N g0 j hb]
    unfold gx_F re_O
    constructor
    · rintro (h | (h | h) | h)
      · exact Or.inl (Or.inl h)
      · exact Or.inl (Or.inr (Or.inl h))
      · exact Or.inl (Or.inr (Or.inr h))
      · exact Or.inr h
    · rintro ((h | h | h) | h)
      · exact Or.inl h
      · exact Or.inr (Or.inl (Or.inl h))
      · exact Or.inr (Or.inl (Or.inr h))
      · exact Or.inr (Or.inr h)
