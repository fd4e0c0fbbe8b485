/-! the reference takes its letters -/
/-- the program's letters as they are kept -/
abbrev pz_now (M : ab_M) : List Int := pz_ls (M 798) (M 798 640)
def pz_TN (M M' : ab_M) : Prop := (∀ o k, ¬ (o = 797 ∧ k = 9) → o ≠ 803 → M' o k = M o k) ∧ M' 797 9 = M 798 640 ∧ (∀ k : Nat, (k : Int) < M 798 640 → M' 803 k = M 798 k) ∧ ∀ j, 0 ≤ M' 803 j ∧ M' 803 j < 256
theorem pz_TN.L {M M' : ab_M} (h : pz_TN M M') : pz_L M' = pz_now M := by
  obtain ⟨h1, h2, h3, h4⟩ := h
  unfold pz_L pz_now
  rw [h2]
  exact pz_ls_congr fun j hj => h3 j (by omega)
/-- the places of the letters that are no spaces -/
def pz_pos (f : Nat → Int) (i : Nat) : List Nat := (List.range i).filter (fun k => decide (f k ≠ 32))
theorem pz_pos_succ (f : Nat → Int) (i : Nat) : pz_pos f (i + 1) = pz_pos f i ++ if f i ≠ 32 then [i] else [] := by
  unfold pz_pos
  rw [List.range_succ, List.filter_append]
  congr 1
  by_cases h : f i = 32
  · rw [if_neg (fun q => q h), List.filter_cons_of_neg (by simpa using h), List.filter_nil]
  · rw [if_pos h, List.filter_cons_of_pos (by simpa using h), List.filter_nil]
theorem pz_pos_le (f : Nat → Int) (i : Nat) : (pz_pos f i).length ≤ i := by
  unfold pz_pos
  have := List.length_filter_le (fun k => decide (f k ≠ 32)) (List.range i)
  simpa using this
def pz_TT (M M' : ab_M) (i : Nat) : Prop := (∀ o k, ¬ (o = 797 ∧ k = 9) → o ≠ 803 → o ≠ 804 → M' o k = M o k) ∧ M' 797 9 = (((pz_pos (M 802) i).length : Nat) : Int) ∧ (∀ j p : Nat, (pz_pos (M 802) i)[j]? = some p → M' 803 j = M 802 p ∧ M' 804 j = (p : Int)) ∧ ∀ j, 0 ≤ M' 803 j ∧ M' 803 j < 256
theorem pz_TT.L {M M' : ab_M} {i : Nat} (h : pz_TT M M' i) : pz_L M' = (pz_ls (M 802) (i : Int)).filter (fun c => decide (c ≠ 32)) := by
  obtain ⟨h1, h2, h3, h4⟩ := h
  have e : (pz_ls (M 802) (i : Int)).filter (fun c => decide (c ≠ 32)) = (pz_pos (M 802) i).map (M 802) := by
    unfold pz_ls pz_pos
    rw [List.filter_map, Int.toNat_natCast]
    rfl
  rw [e]
  unfold pz_L
  rw [h2]
  apply List.ext_getElem?
  intro j
  rw [pz_ls_get, List.getElem?_map]
  by_cases hj : j < (pz_pos (M 802) i).length
  · rw [if_pos (by omega), List.getElem?_eq_getElem hj]
    have := (h3 j _ (List.getElem?_eq_getElem hj)).1
    rw [this]; rfl
  · rw [if_neg (by omega), List.getElem?_eq_none (by omega)]; rfl
theorem pz_TT.skip {M M' : ab_M} {i : Nat} (h : pz_TT M M' i) (h2 : M 802 i = 32) : pz_TT M M' (i + 1) := by
  unfold pz_TT at *
  rw [pz_pos_succ, if_neg (fun q => q h2), List.append_nil]
  exact h
theorem pz_TT.take {M M' : ab_M} {i : Nat} (h : pz_TT M M' i) (h2 : M 802 i ≠ 32) (hr : 0 ≤ M 802 i ∧ M 802 i < 256) : pz_TT M (ab_up (ab_up (ab_up M' 803 (M' 797 9).toNat (M 802 i)) 804 (M' 797 9).toNat (i : Int)) 797 9 (M' 797 9 + 1)) (i + 1) := by
  obtain ⟨a1, a2, a3, a4⟩ := h
  unfold pz_TT
  rw [pz_pos_succ, if_pos h2]
  have e790 : ∀ j, ab_up (ab_up (ab_up M' 803 (M' 797 9).toNat (M 802 i)) 804 (M' 797 9).toNat (i : Int)) 797 9 (M' 797 9 + 1) 803 j = if j = (M' 797 9).toNat then M 802 i else M' 803 j := fun j => by
    rw [ab_up_o (by decide), ab_up_o (by decide), ab_up_a]
    by_cases hj : j = (M' 797 9).toNat
    · rw [if_pos ⟨rfl, hj⟩, if_pos hj]
    · rw [if_neg (fun q => hj q.2), if_neg hj]
  have e791 : ∀ j, ab_up (ab_up (ab_up M' 803 (M' 797 9).toNat (M 802 i)) 804 (M' 797 9).toNat (i : Int)) 797 9 (M' 797 9 + 1) 804 j = if j = (M' 797 9).toNat then (i : Int) else M' 804 j := fun j => by
    rw [ab_up_o (by decide), ab_up_a]
    by_cases hj : j = (M' 797 9).toNat
    · rw [if_pos ⟨rfl, hj⟩, if_pos hj]
    · rw [if_neg (fun q => hj q.2), if_neg hj, ab_up_o (by decide)]
  refine ⟨fun o k x y z => ?_, ?_, fun j p hj => ?_, fun j => ?_⟩
  · rw [ab_up_a, if_neg (by omega), ab_up_o z, ab_up_o y, a1 o k x y z]
  · rw [ab_up_s, a2, List.length_append]; simp
  · rw [e790, e791]
    by_cases hjj : j < (pz_pos (M 802) i).length
    · rw [List.getElem?_append_left hjj] at hj
      rw [if_neg (by omega), if_neg (by omega)]
      exact a3 j p hj
    · rw [List.getElem?_append_right (by omega)] at hj
      have hl := (List.getElem?_eq_some_iff.mp hj).1
      simp at hl
      rw [show j - (pz_pos (M 802) i).length = 0 by omega] at hj
      have hj : i = p := by simpa using hj
      rw [if_pos (by omega), if_pos (by omega), hj]
      exact ⟨rfl, rfl⟩
  · rw [e790]
    split
    · exact hr
    · exact a4 j

def S_X9_takeNow : ab_PT := fun a M K => match a with
  | [.inr (.inr (.inr (797, 9, 0)))] => (0 ≤ M 798 640 ∧ M 798 640 ≤ 640 ∧ (∀ k : Nat, (k : Int) < M 798 640 → 0 ≤ M 798 k ∧ M 798 k < 256) ∧ (∀ j, 0 ≤ M 803 j ∧ M 803 j < 256)) ∧ (∀ Mx : ab_M, (pz_TN M Mx) → K [] Mx)
  | _ => False
set_option maxRecDepth 20000 in
theorem vc_X9_takeNow_0  (M : ab_M) (K : List ab_V → ab_M → Prop) (hS : (0 ≤ M 798 640 ∧ M 798 640 ≤ 640 ∧ (∀ k : Nat, (k : Int) < M 798 640 → 0 ≤ M 798 k ∧ M 798 k < 256) ∧ (∀ j, 0 ≤ M 803 j ∧ M 803 j < 256)) ∧ (∀ Mx : ab_M, (pz_TN M Mx) → K [] Mx)) : (-32768 ≤ (640 : Int) ∧ (640 : Int) < 32768) ∧ (0 ≤ (640 : Int) ∧ (640 : Int) < ((641 : Nat) : Int)) ∧ (∃ n', ((n' = (M 798 640 - (0 : Int)).toNat ∧ 0 ≤ (0 : Int) ∧ (0 : Int) ≤ M 798 640 ∧ (∀ o j, ¬ (o = 797 ∧ j = 9) → o ≠ 803 → (ab_up M 797 9 (M 798 640)) o j = M o j) ∧ (ab_up M 797 9 (M 798 640)) 797 9 = M 798 640 ∧ (∀ j : Nat, (j : Int) < (0 : Int) → (ab_up M 797 9 (M 798 640)) 803 j = M 798 j) ∧ ∀ j, 0 ≤ (ab_up M 797 9 (M 798 640)) 803 j ∧ (ab_up M 797 9 (M 798 640)) 803 j < 256))) := by
  obtain ⟨⟨g1, g2, g3, g4⟩, gK⟩ := hS
  refine And.intro (by
    first
      | omega
      | (simp [ab_up_a]; done)
      | (simp [ab_up_a]; omega)) ?_
  refine And.intro (by
    first
      | omega
      | (simp [ab_up_a]; done)
      | (simp [ab_up_a]; omega)) ?_
  exact ⟨_, rfl, by omega, g1, fun o j x y => by rw [ab_up_a, if_neg (by omega)], by rw [ab_up_s], fun j hj => by omega, fun j => by rw [ab_up_o (by decide)]; exact g4 j⟩

set_option maxRecDepth 20000 in
theorem vc_X9_takeNow_14  (M : ab_M) (K : List ab_V → ab_M → Prop) (hS : (0 ≤ M 798 640 ∧ M 798 640 ≤ 640 ∧ (∀ k : Nat, (k : Int) < M 798 640 → 0 ≤ M 798 k ∧ M 798 k < 256) ∧ (∀ j, 0 ≤ M 803 j ∧ M 803 j < 256)) ∧ (∀ Mx : ab_M, (pz_TN M Mx) → K [] Mx)) (n : Nat) (k : Int) (M1 : ab_M) (hI : n = (M 798 640 - k).toNat ∧ 0 ≤ k ∧ k ≤ M 798 640 ∧ (∀ o j, ¬ (o = 797 ∧ j = 9) → o ≠ 803 → M1 o j = M o j) ∧ M1 797 9 = M 798 640 ∧ (∀ j : Nat, (j : Int) < k → M1 803 j = M 798 j) ∧ ∀ j, 0 ≤ M1 803 j ∧ M1 803 j < 256) : (ab_ir k ∧ ab_ir (M1 797 9)) ∧ (((M1 797 9) ≤ k → K [] M1) ∧ (k < (M1 797 9) → (0 ≤ k ∧ k < ((641 : Nat) : Int)) ∧ (0 ≤ k ∧ k < ((640 : Nat) : Int)) ∧ (∃ n', n' < n ∧ ((n' = (M 798 640 - (k + 1)).toNat ∧ 0 ≤ (k + 1) ∧ (k + 1) ≤ M 798 640 ∧ (∀ o j, ¬ (o = 797 ∧ j = 9) → o ≠ 803 → (ab_up M1 803 k.toNat (M1 798 k.toNat)) o j = M o j) ∧ (ab_up M1 803 k.toNat (M1 798 k.toNat)) 797 9 = M 798 640 ∧ (∀ j : Nat, (j : Int) < (k + 1) → (ab_up M1 803 k.toNat (M1 798 k.toNat)) 803 j = M 798 j) ∧ ∀ j, 0 ≤ (ab_up M1 803 k.toNat (M1 798 k.toNat)) 803 j ∧ (ab_up M1 803 k.toNat (M1 798 k.toNat)) 803 j < 256))))) := by
  obtain ⟨hn, h0, h1, h2, h3, h4, h5⟩ := hI
  obtain ⟨⟨g1, g2, g3, g4⟩, gK⟩ := hS
  have h785 : ∀ k, M1 798 k = M 798 k := fun k => h2 798 k (by omega) (by omega)
  refine And.intro (by
    first
      | omega
      | (simp [ab_up_a]; done)
      | (simp [ab_up_a]; omega)) ?_
  refine ⟨?_, ?_⟩
  · intro c19
    exact gK _ ⟨h2, h3, fun j hj => h4 j (by omega), h5⟩
  · intro c19
    refine And.intro (by
      first
        | omega
        | (simp [ab_up_a]; done)
        | (simp [ab_up_a]; omega)) ?_
    refine And.intro (by
      first
        | omega
        | (simp [ab_up_a]; done)
        | (simp [ab_up_a]; omega)) ?_
    refine ⟨_, ?_, rfl, by omega, by omega, fun o j x y => by rw [ab_up_o y]; exact h2 o j x y, by rw [ab_up_o (by decide)]; exact h3, fun j hj => ?_, fun j => ?_⟩
    · omega
    · rw [ab_up_a]
      by_cases hjk : j = k.toNat
      · rw [if_pos ⟨rfl, hjk⟩, h785, hjk]
      · rw [if_neg (fun q => hjk q.2)]
        exact h4 j (by omega)
    · rw [ab_up_a]
      split
      · rw [h785]; exact g3 k.toNat (by omega)
      · exact h5 j

set_option maxRecDepth 20000 in
set_option maxHeartbeats 1000000 in
theorem ok_X9_takeNow (E : ab_E) : ab_Ok E 1 183 S_X9_takeNow := by
  refine ab_mk rq_X9_takeNow tk_X9_takeNow (rt := 0) (rfl) (cuts := [14]) (G := []) (fun g hg => by cases hg) (by decide) 73 rfl ?_
  intro a M K wd wa hS
  unfold S_X9_takeNow at hS
  split at hS
  ·
    refine ⟨Nat.le_of_ble_eq_true rfl, fun pc n L st M1 => match pc, L, st with
      | 14, [.inr (.inr (.inr (797, 9, 0))), .inr (.inl k)], [] => (n = (M 798 640 - k).toNat ∧ 0 ≤ k ∧ k ≤ M 798 640 ∧ (∀ o j, ¬ (o = 797 ∧ j = 9) → o ≠ 803 → M1 o j = M o j) ∧ M1 797 9 = M 798 640 ∧ (∀ j : Nat, (j : Int) < k → M1 803 j = M 798 j) ∧ ∀ j, 0 ≤ M1 803 j ∧ M1 803 j < 256)
      | _, _, _ => False, ?_, ?_⟩
    · exact vc_X9_takeNow_0  M K  hS
    · intro pc n L st M1 hI wd1 wL wst
      (try dsimp only at hI)
      split at hI
      ·
        rename_i k
        exact vc_X9_takeNow_14  M K  hS n k _ hI
      · exact hI.elim
  · exact hS.elim
def S_X9_takeText : ab_PT := fun a M K => match a with
  | [.inr (.inr (.inr (797, 9, 0)))] => (0 ≤ M 797 6 ∧ M 797 6 ≤ 120 ∧ (∀ k : Nat, (k : Int) < M 797 6 → 0 ≤ M 802 k ∧ M 802 k < 256) ∧ (∀ j, 0 ≤ M 803 j ∧ M 803 j < 256)) ∧ (∀ Mx : ab_M, (pz_TT M Mx (M 797 6).toNat ∧ Mx 804 (Mx 797 9).toNat = M 797 6) → K [] Mx)
  | _ => False
set_option maxRecDepth 20000 in
theorem vc_X9_takeText_0  (M : ab_M) (K : List ab_V → ab_M → Prop) (hS : (0 ≤ M 797 6 ∧ M 797 6 ≤ 120 ∧ (∀ k : Nat, (k : Int) < M 797 6 → 0 ≤ M 802 k ∧ M 802 k < 256) ∧ (∀ j, 0 ≤ M 803 j ∧ M 803 j < 256)) ∧ (∀ Mx : ab_M, (pz_TT M Mx (M 797 6).toNat ∧ Mx 804 (Mx 797 9).toNat = M 797 6) → K [] Mx)) : (∃ n', ((n' = (M 797 6 - (0 : Int)).toNat ∧ 0 ≤ (0 : Int) ∧ (0 : Int) ≤ M 797 6 ∧ pz_TT M (ab_up M 797 9 (0 : Int)) (0 : Int).toNat))) := by
  obtain ⟨⟨g1, g2, g3, g4⟩, gK⟩ := hS
  exact ⟨_, rfl, by omega, g1, fun o j x y z => by rw [ab_up_a, if_neg (by omega)], by rw [ab_up_s]; rfl, fun j p hj => (by simp [pz_pos] at hj), fun j => by rw [ab_up_o (by decide)]; exact g4 j⟩

set_option maxRecDepth 20000 in
theorem vc_X9_takeText_7  (M : ab_M) (K : List ab_V → ab_M → Prop) (hS : (0 ≤ M 797 6 ∧ M 797 6 ≤ 120 ∧ (∀ k : Nat, (k : Int) < M 797 6 → 0 ≤ M 802 k ∧ M 802 k < 256) ∧ (∀ j, 0 ≤ M 803 j ∧ M 803 j < 256)) ∧ (∀ Mx : ab_M, (pz_TT M Mx (M 797 6).toNat ∧ Mx 804 (Mx 797 9).toNat = M 797 6) → K [] Mx)) (n : Nat) (i1 : Int) (M1 : ab_M) (hI : n = (M 797 6 - i1).toNat ∧ 0 ≤ i1 ∧ i1 ≤ M 797 6 ∧ pz_TT M M1 i1.toNat) : (ab_ir i1 ∧ ab_ir (M1 797 6)) ∧ (((M1 797 6) ≤ i1 → (0 ≤ (M1 797 9) ∧ (M1 797 9) < ((641 : Nat) : Int)) ∧ K [] (ab_up M1 804 ((M1 797 9).toNat) (M1 797 6))) ∧ (i1 < (M1 797 6) → (0 ≤ i1 ∧ i1 < ((120 : Nat) : Int)) ∧ (-128 ≤ (32 : Int) ∧ (32 : Int) < 128) ∧ (ab_ir (M1 802 i1.toNat) ∧ ab_ir (32 : Int)) ∧ (((M1 802 i1.toNat) = (32 : Int) → (∃ n', n' < n ∧ ((n' = (M 797 6 - (i1 + 1)).toNat ∧ 0 ≤ (i1 + 1) ∧ (i1 + 1) ≤ M 797 6 ∧ pz_TT M M1 (i1 + 1).toNat)))) ∧ (¬ (M1 802 i1.toNat) = (32 : Int) → (0 ≤ i1 ∧ i1 < ((120 : Nat) : Int)) ∧ (0 ≤ (M1 797 9) ∧ (M1 797 9) < ((640 : Nat) : Int)) ∧ (0 ≤ (M1 797 9) ∧ (M1 797 9) < ((641 : Nat) : Int)) ∧ (∃ n', n' < n ∧ ((n' = (M 797 6 - (i1 + 1)).toNat ∧ 0 ≤ (i1 + 1) ∧ (i1 + 1) ≤ M 797 6 ∧ pz_TT M (ab_up (ab_up (ab_up M1 803 ((M1 797 9).toNat) (M1 802 i1.toNat)) 804 ((M1 797 9).toNat) i1) 797 9 ((M1 797 9) + (1 : Int))) (i1 + 1).toNat))))))) := by
  obtain ⟨hn, h0, h1, h2⟩ := hI
  obtain ⟨⟨g1, g2, g3, g4⟩, gK⟩ := hS
  have h6 : M1 797 6 = M 797 6 := h2.1 797 6 (by omega) (by omega) (by omega)
  have h789 : ∀ k, M1 802 k = M 802 k := fun k => h2.1 802 k (by omega) (by omega) (by omega)
  have hp := pz_pos_le (M 802) i1.toNat
  have h9 := h2.2.1
  refine And.intro (by
    first
      | omega
      | (simp [ab_up_a]; done)
      | (simp [ab_up_a]; omega)) ?_
  refine ⟨?_, ?_⟩
  · intro c12
    refine And.intro (by
      first
        | omega
        | (simp [ab_up_a]; done)
        | (simp [ab_up_a]; omega)) ?_
    have e : i1 = M 797 6 := by omega
    rw [e] at h2
    refine gK _ ⟨⟨fun o k x y z => by rw [ab_up_o z]; exact h2.1 o k x y z, by rw [ab_up_o (by decide)]; exact h2.2.1, fun j p hj => ?_, fun j => by rw [ab_up_o (by decide)]; exact h2.2.2.2 j⟩, ?_⟩
    · have hl := (List.getElem?_eq_some_iff.mp hj).1
      have hq := h2.2.2.1 j p hj
      rw [ab_up_o (by decide), ab_up_a, if_neg (by have := h2.2.1; omega)]
      exact hq
    · rw [show ab_up M1 804 (M1 797 9).toNat (M1 797 6) 797 9 = M1 797 9 from ab_up_o (by decide) _, ab_up_s]
      exact h6
  · intro c12
    refine And.intro (by
      first
        | omega
        | (simp [ab_up_a]; done)
        | (simp [ab_up_a]; omega)) ?_
    refine And.intro (by
      first
        | omega
        | (simp [ab_up_a]; done)
        | (simp [ab_up_a]; omega)) ?_
    refine And.intro (by
      rw [h789]
      have := g3 i1.toNat (by omega)
      exact ⟨⟨by omega, by omega⟩, by decide, by decide⟩) ?_
    refine ⟨?_, ?_⟩
    · intro c23
      refine ⟨_, ?_, rfl, by omega, by omega, ?_⟩
      · omega
      · rw [show (i1 + 1).toNat = i1.toNat + 1 by omega]
        exact h2.skip (by rw [← h789]; exact c23)
    · intro c23
      refine And.intro (by
        first
          | omega
          | (simp [ab_up_a]; done)
          | (simp [ab_up_a]; omega)) ?_
      refine And.intro (by
        first
          | omega
          | (simp [ab_up_a]; done)
          | (simp [ab_up_a]; omega)) ?_
      refine And.intro (by
        first
          | omega
          | (simp [ab_up_a]; done)
          | (simp [ab_up_a]; omega)) ?_
      refine ⟨_, ?_, rfl, by omega, by omega, ?_⟩
      · omega
      · rw [show (i1 + 1).toNat = i1.toNat + 1 by omega]
        have hq := h2.take (by rw [← h789]; exact c23) (g3 i1.toNat (by omega))
        rw [show ((i1.toNat : Nat) : Int) = i1 by omega, ← h789] at hq
        exact hq

set_option maxRecDepth 20000 in
set_option maxHeartbeats 1000000 in
theorem ok_X9_takeText (E : ab_E) : ab_Ok E 1 184 S_X9_takeText := by
  refine ab_mk rq_X9_takeText tk_X9_takeText (rt := 0) (rfl) (cuts := [7]) (G := []) (fun g hg => by cases hg) (by decide) 96 rfl ?_
  intro a M K wd wa hS
  unfold S_X9_takeText at hS
  split at hS
  ·
    refine ⟨Nat.le_of_ble_eq_true rfl, fun pc n L st M1 => match pc, L, st with
      | 7, [.inr (.inr (.inr (797, 9, 0))), .inr (.inl i1)], [] => (n = (M 797 6 - i1).toNat ∧ 0 ≤ i1 ∧ i1 ≤ M 797 6 ∧ pz_TT M M1 i1.toNat)
      | _, _, _ => False, ?_, ?_⟩
    · exact vc_X9_takeText_0  M K  hS
    · intro pc n L st M1 hI wd1 wL wst
      (try dsimp only at hI)
      split at hI
      ·
        rename_i i1
        exact vc_X9_takeText_7  M K  hS n i1 _ hI
      · exact hI.elim
  · exact hS.elim
