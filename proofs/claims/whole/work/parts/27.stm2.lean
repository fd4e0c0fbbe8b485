/-! the reference reads a statement: its checks -/
theorem pz_srt_rng {c : Int} (h : pz_srt c ≠ -9) : 0 ≤ pz_srt c ∧ pz_srt c ≤ 8 := by
  unfold pz_srt at h ⊢
  repeat' split
  all_goals first
    | omega
    | simp_all
theorem pz_nck_rng (its : Int) : 0 ≤ pz_nck its ∧ pz_nck its ≤ 2 := by
  unfold pz_nck
  repeat' split
  all_goals omega
def pz_its (M : ab_M) : Int := pz_srt (pz_at (pz_L M) (M 797 24).toNat)
def pz_v0 (M : ab_M) : Int := if pz_its M = 0 then pz_at (pz_L M) (M 797 24).toNat - 97 else 0
def pz_s0 (M : ab_M) : ab_M := ab_up (ab_up (ab_up (ab_up (ab_up M 797 10 (M 797 10 + 1)) 797 19 (M 797 19 + 1)) 805 (M 797 10).toNat (pz_its M)) 806 (M 797 10).toNat (pz_v0 M)) 811 (M 797 10).toNat (M 797 20)
def pz_kk (its i : Int) : Int := if its = 2 then 0 else if its = 5 then 3 else 1 + i
def pz_ck (N : ab_M) (its : Int) : Nat → ab_M
  | 0 => N
  | j + 1 => ab_up (ab_up (pz_ck N its j) 813 (pz_ck N its j 797 20).toNat (pz_kk its (j : Int))) 797 20 (pz_ck N its j 797 20 + 1)
theorem pz_ck_o (N : ab_M) (its : Int) (j : Nat) {o k : Nat} (h : o ≠ 813) (h2 : ¬ (o = 797 ∧ k = 20)) : pz_ck N its j o k = N o k := by
  induction j with
  | zero => rfl
  | succ j ih =>
    unfold pz_ck
    rw [ab_up_a, if_neg h2, ab_up_o h, ih]
theorem pz_ck_20 (N : ab_M) (its : Int) (j : Nat) : pz_ck N its j 797 20 = N 797 20 + (j : Int) := by
  induction j with
  | zero => show N 797 20 = N 797 20 + ((0 : Nat) : Int); omega
  | succ j ih =>
    unfold pz_ck
    rw [ab_up_s, ih]
    omega
theorem pz_ck_800 (N : ab_M) (its : Int) (j : Nat) (h : 0 ≤ N 797 20) (k : Nat) : pz_ck N its j 813 k = if N 797 20 ≤ (k : Int) ∧ (k : Int) < N 797 20 + (j : Int) then pz_kk its ((k : Int) - N 797 20) else N 813 k := by
  induction j with
  | zero => rw [if_neg (by omega)]; rfl
  | succ j ih =>
    unfold pz_ck
    rw [ab_up_o (by decide), ab_up_a, pz_ck_20]
    by_cases hk : k = (N 797 20 + (j : Int)).toNat
    · rw [if_pos ⟨rfl, hk⟩, if_pos (by omega), show (k : Int) - N 797 20 = (j : Int) by omega]
    · rw [if_neg (fun q => hk q.2), ih]
      by_cases hj : N 797 20 ≤ (k : Int) ∧ (k : Int) < N 797 20 + (j : Int)
      · rw [if_pos hj, if_pos (by omega)]
      · rw [if_neg hj, if_neg (by omega)]
/-- behind the loop over a statement's checks -/
def pz_s7 (C : ab_M) (its e : Int) : ab_M := if its = 7 then ab_up (ab_up C 814 (C 797 21).toNat e) 797 21 (C 797 21 + 1) else C
theorem pz_kd_get (its : Int) (i : Nat) (v : Int) (h : (pz_kd (its, 0, 0, 0, 0, 0, 0, 0))[i]? = some v) : (i : Int) < pz_nck its ∧ v = pz_kk its (i : Int) := by
  unfold pz_kd at h
  unfold pz_nck pz_kk
  by_cases a : its = 2
  · simp only [a, if_true] at h
    match i, h with
    | 0, h => cases h; simp [a]
    | i + 1, h => simp at h
  · by_cases b : its = 5
    · simp only [b] at h
      match i, h with
      | 0, h => simp at h; simp [b, ← h]
      | i + 1, h => simp at h
    · by_cases c : its = 7
      · simp only [c] at h
        match i, h with
        | 0, h => simp at h; simp [c, ← h]
        | 1, h => simp at h; simp [c, ← h]
        | i + 2, h => simp at h
      · simp [a, b, c] at h
theorem pz_P3_of {M : ab_M} (h : pz_RI M) (hf : M 797 25 = -9) (hi : 0 ≤ pz_its M ∧ pz_its M ≤ 8) : pz_P3 M (ab_up (pz_s7 (pz_ck (pz_s0 M) (pz_its M) (pz_nck (pz_its M)).toNat) (pz_its M) (M 797 10)) 797 24 (pz_ck (pz_s0 M) (pz_its M) (pz_nck (pz_its M)).toNat 797 24 + 1)) (pz_its M) (pz_v0 M) := by
  obtain ⟨⟨a1, a2, a3, a4⟩, b, ⟨c1, c2, c3⟩, ⟨d1, d2, d3⟩, f, g⟩ := h
  generalize hits : pz_its M = its at *
  have hn := pz_nck_rng its
  have s0 : ∀ o k, ¬ (o = 797 ∧ (k = 10 ∨ k = 19)) → ¬ ((o = 805 ∨ o = 806 ∨ o = 811) ∧ k = (M 797 10).toNat) → pz_s0 M o k = M o k := fun o k x y => by
    unfold pz_s0
    simp only [ab_up_a]
    rw [if_neg (by omega), if_neg (by omega), if_neg (by omega), if_neg (by omega), if_neg (by omega)]
  have z10 : pz_s0 M 797 10 = M 797 10 + 1 := by unfold pz_s0; simp [ab_up_a]
  have z19 : pz_s0 M 797 19 = M 797 19 + 1 := by unfold pz_s0; simp [ab_up_a]
  have z792 : pz_s0 M 805 (M 797 10).toNat = its := by unfold pz_s0; simp [ab_up_a, hits]
  have z793 : pz_s0 M 806 (M 797 10).toNat = pz_v0 M := by unfold pz_s0; simp [ab_up_a]
  have z798 : pz_s0 M 811 (M 797 10).toNat = M 797 20 := by unfold pz_s0; simp [ab_up_a]
  have z20 : pz_s0 M 797 20 = M 797 20 := s0 797 20 (by omega) (by omega)
  generalize hC : pz_ck (pz_s0 M) its (pz_nck its).toNat = C at *
  have co : ∀ o k, o ≠ 813 → ¬ (o = 797 ∧ k = 20) → C o k = pz_s0 M o k := fun o k x y => by rw [← hC]; exact pz_ck_o _ _ _ x y
  have c20 : C 797 20 = M 797 20 + pz_nck its := by rw [← hC, pz_ck_20, z20]; omega
  have c24 : C 797 24 = M 797 24 := by rw [co 797 24 (by decide) (by decide), s0 797 24 (by decide) (by omega)]
  have c21 : C 797 21 = M 797 21 := by rw [co 797 21 (by decide) (by decide), s0 797 21 (by decide) (by omega)]
  have so : ∀ o k, ¬ (its = 7 ∧ ((o = 814 ∧ k = (M 797 21).toNat) ∨ (o = 797 ∧ k = 21))) → pz_s7 C its (M 797 10) o k = C o k := fun o k x => by
    unfold pz_s7
    split
    · rw [ab_up_a, if_neg (by omega), ab_up_a, if_neg (by rw [c21]; omega)]
    · rfl
  have m3 : ∀ o k, ¬ (o = 797 ∧ k = 24) → ab_up (pz_s7 C its (M 797 10)) 797 24 (C 797 24 + 1) o k = pz_s7 C its (M 797 10) o k := fun o k x => by rw [ab_up_a, if_neg x]
  refine ⟨⟨fun o k x y => ?_, fun k x1 x2 x3 x4 x5 x6 x7 => ?_⟩, ⟨?_, ?_, ?_, ?_, ?_⟩, ⟨?_, ?_, ?_⟩, fun e o he x y => ?_, fun k => ?_, ⟨?_, fun k v hk => ?_⟩, ⟨?_, fun l e hl => ?_⟩⟩
  · rw [m3 o k (by omega), so o k (by omega), co o k (by omega) (by omega), s0 o k (by omega) (by omega)]
  · rw [m3 797 k (by omega), so 797 k (by omega), co 797 k (by decide) (by omega), s0 797 k (by omega) (by omega)]
  · rw [m3 797 10 (by decide), so 797 10 (by omega), co 797 10 (by decide) (by decide), z10]
  · rw [m3 797 19 (by decide), so 797 19 (by omega), co 797 19 (by decide) (by decide), z19]
  · rw [ab_up_s, c24]
  · rw [m3 797 25 (by decide), so 797 25 (by omega), co 797 25 (by decide) (by decide), s0 797 25 (by decide) (by omega), hf]
  · rw [m3 797 27 (by decide), so 797 27 (by omega), co 797 27 (by decide) (by decide), s0 797 27 (by decide) (by omega)]
  · rw [m3 805 _ (by omega), so 805 _ (by omega), co 805 _ (by decide) (by omega), z792]
  · rw [m3 806 _ (by omega), so 806 _ (by omega), co 806 _ (by decide) (by omega), z793]
  · rw [m3 811 _ (by omega), so 811 _ (by omega), co 811 _ (by decide) (by omega), z798]
  · rw [m3 o e (by omega), so o e (by omega), co o e (by omega) (by omega), s0 o e (by omega) (by omega)]
  · rw [m3 815 k (by omega), so 815 k (by omega), co 815 k (by decide) (by omega), s0 815 k (by omega) (by omega)]
  · rw [m3 797 20 (by decide), so 797 20 (by omega), c20]
  · rw [m3 813 k (by omega), so 813 k (by omega), ← hC, pz_ck_800 _ _ _ (by rw [z20]; omega), z20]
    by_cases hk2 : k < (pz_kds (pz_E M)).length
    · rw [List.getElem?_append_left hk2] at hk
      rw [if_neg (by omega), s0 813 k (by omega) (by omega)]
      exact c3 k v hk
    · rw [List.getElem?_append_right (by omega)] at hk
      obtain ⟨y1, y2⟩ := pz_kd_get its _ v hk
      rw [if_pos (by omega), y2, show (k : Int) - M 797 20 = ((k - (pz_kds (pz_E M)).length : Nat) : Int) by omega]
  · rw [m3 797 21 (by decide)]
    unfold pz_s7
    by_cases h7 : its = 7
    · rw [if_pos h7, if_pos h7, ab_up_s, c21]
    · rw [if_neg h7, if_neg h7, c21]; omega
  · rw [m3 814 l (by omega)]
    unfold pz_s7
    by_cases h7 : its = 7
    · rw [if_pos h7, ab_up_o (by decide), ab_up_a, c21]
      rw [if_pos h7] at hl
      by_cases hl2 : l < (pz_lps (pz_E M)).length
      · rw [List.getElem?_append_left hl2] at hl
        rw [if_neg (by omega), co 814 l (by decide) (by omega), s0 814 l (by omega) (by omega)]
        exact d3 l e hl
      · rw [List.getElem?_append_right (by omega)] at hl
        have hl0 : l - (pz_lps (pz_E M)).length = 0 := by
          have := (List.getElem?_eq_some_iff.mp hl).1
          simp at this
          omega
        rw [hl0] at hl
        have hl := Option.some.inj hl
        rw [if_pos ⟨rfl, by omega⟩, ← hl, pz_E_len]
        omega
    · rw [if_neg h7, co 814 l (by decide) (by omega), s0 814 l (by omega) (by omega)]
      rw [if_neg h7, List.append_nil] at hl
      exact d3 l e hl
/-- what a turn leaves -/
def pz_res (M M' : ab_M) (x : Int ⊕ (List pz_Ev × List Nat × Int)) : Prop := pz_pf M M' ∧ (0 ≤ M' 797 24 ∧ M' 797 24 ≤ M 797 9 ∧ ab_ir (M' 797 25)) ∧ match x with
  | .inl p => M' 797 25 = p ∧ p ≠ -9
  | .inr r => pz_E M' = r.1 ∧ pz_op M' = r.2.1 ∧ M' 797 24 = r.2.2 ∧ M' 797 25 = -9 ∧ pz_RI M'

