/-! invariant() of the reference -/
def pz_hl (P Q : Prop) : Prop := P → Q
/-- the fault of a text that is to be one term -/
def pz_f1 (ls : List Int) : Int := if (pz_te ls 0 (-9)).2.2 = -9 then (if (pz_te ls 0 (-9)).2.1 = (ls.length : Int) then -9 else (pz_te ls 0 (-9)).2.1) else (pz_te ls 0 (-9)).2.2
abbrev pz_oth (v : pz_Ev) : Int := v.2.2.2.2.1
abbrev pz_ots (v : pz_Ev) : Int := v.2.2.2.2.2.1
/-- loops' second terms lie within, and there is room -/
def pz_IB (ls : List Int) (E : List pz_Ev) : Prop := ∀ l e : Nat, (pz_lps E)[l]? = some e → 0 ≤ pz_oth (E.getD e pz_d0) ∧ 0 ≤ pz_ots (E.getD e pz_d0) ∧ pz_oth (E.getD e pz_d0) + pz_ots (E.getD e pz_d0) ≤ (ls.length : Int) ∧ (ls.length : Int) - pz_ots (E.getD e pz_d0) + 120 ≤ 640
theorem pz_loop_at {M : ab_M} (h : pz_RI M) {l : Int} (h0 : 0 ≤ l ∧ l < M 797 21) : ∃ e : Nat, (pz_lps (pz_E M))[l.toNat]? = some e ∧ M 814 l.toNat = (e : Int) ∧ (e : Int) < M 797 10 ∧ e < 400 ∧ M 805 e = 7 ∧ (pz_E M).getD e pz_d0 = (M 805 e, M 806 e, M 807 e, M 808 e, M 809 e, M 810 e, M 811 e, 0) := by
  obtain ⟨d1, d2, d3⟩ := h.2.2.2.1
  have hlt : l.toNat < (pz_lps (pz_E M)).length := by omega
  refine ⟨(pz_lps (pz_E M))[l.toNat], List.getElem?_eq_getElem hlt, d3 _ _ (List.getElem?_eq_getElem hlt), ?_⟩
  have hm := List.getElem_mem hlt
  generalize (pz_lps (pz_E M))[l.toNat] = e at hm
  unfold pz_lps at hm
  rw [List.mem_filter, List.mem_range, pz_E_len] at hm
  obtain ⟨hm1, hm2⟩ := hm
  have hm2 := of_decide_eq_true hm2
  have hme : (e : Int) < M 797 10 := by omega
  have hg : (pz_E M).getD e pz_d0 = pz_ev M e := pz_E_getD M hme
  have hm3 : (pz_ev M e).1 = 7 := by rw [← hg]; exact hm2
  have h7 : M 805 e = 7 := by
    unfold pz_ev at hm3
    split at hm3
    · exact hm3
    · exact hm3
  refine ⟨hme, by have := h.1; omega, h7, ?_⟩
  rw [hg]
  unfold pz_ev
  rw [if_pos (by omega)]
/-- read, and the typed text taken -/
def pz_x45 (M N : ab_M) : Prop := (∀ o k, o ≠ 797 → o ≠ 803 → o ≠ 804 → ¬ (805 ≤ o ∧ o ≤ 815) → N o k = M o k) ∧ (∀ k, k ≠ 9 → k ≠ 10 → k ≠ 19 → k ≠ 20 → k ≠ 21 → k ≠ 24 → k ≠ 25 → k ≠ 27 → k ≠ 28 → N 797 k = M 797 k) ∧ N 797 9 = (((pz_pl M).length : Nat) : Int) ∧ pz_L N = pz_pl M ∧ (∀ j, 0 ≤ N 803 j ∧ N 803 j < 256) ∧ (∀ j p : Nat, (pz_pos (M 802) (M 797 6).toNat)[j]? = some p → N 804 j = (p : Int)) ∧ N 804 (pz_pl M).length = M 797 6
theorem pz_x45_of {M A B : ab_M} (h6 : 0 ≤ M 797 6 ∧ M 797 6 ≤ 120) (h1 : pz_rdn M A) (h2 : pz_TT A B (A 797 6).toNat) (h3 : B 804 (B 797 9).toNat = A 797 6) : pz_x45 M B := by
  obtain ⟨-, ⟨a1, a2⟩, -⟩ := h1
  have e6 : A 797 6 = M 797 6 := a2 6 (by decide) (by decide) (by decide) (by decide) (by decide) (by decide) (by decide) (by decide) (by decide)
  have e9 : A 802 = M 802 := funext fun k => a1 802 k (by decide) (by decide) (by omega)
  have hL := h2.L
  obtain ⟨t1, t2, t3, t4⟩ := h2
  rw [e6] at t2 t3 hL h3
  rw [e9] at t2 t3 hL
  rw [show (((M 797 6).toNat : Nat) : Int) = M 797 6 by omega] at hL
  have hp := pz_pl_pos M
  refine ⟨fun o k x1 x2 x3 x4 => ?_, fun k x1 x2 x3 x4 x5 x6 x7 x8 x9 => ?_, by rw [t2, hp], hL, t4, fun j p hj => (t3 j p hj).2, ?_⟩
  · rw [t1 o k (by omega) x2 x3, a1 o k x1 x2 x4]
  · rw [t1 797 k (by omega) (by decide) (by decide), a2 k x1 x2 x3 x4 x5 x6 x7 x8 x9]
  · rw [← h3, t2, hp]
    rfl
def pz_x82 (M N : ab_M) : Prop := pz_x45 M N ∧ N 797 25 = pz_f1 (pz_pl M)
theorem pz_x82_of {M B C D : ab_M} {r b : Int} (h1 : pz_x45 M B) (h2 : pz_fr (ab_up (ab_up B 797 24 0) 797 25 (-9)) C) (h3 : r = (pz_te (pz_L (ab_up (ab_up B 797 24 0) 797 25 (-9))) (ab_up (ab_up B 797 24 0) 797 25 (-9) 797 24) (ab_up (ab_up B 797 24 0) 797 25 (-9) 797 25)).1 ∧ C 797 24 = (pz_te (pz_L (ab_up (ab_up B 797 24 0) 797 25 (-9))) (ab_up (ab_up B 797 24 0) 797 25 (-9) 797 24) (ab_up (ab_up B 797 24 0) 797 25 (-9) 797 25)).2.1 ∧ C 797 25 = (pz_te (pz_L (ab_up (ab_up B 797 24 0) 797 25 (-9))) (ab_up (ab_up B 797 24 0) 797 25 (-9) 797 24) (ab_up (ab_up B 797 24 0) 797 25 (-9) 797 25)).2.2) (hb : b = if C 797 24 = C 797 9 then 1 else 0) (h4 : D = if C 797 25 = -9 ∧ b = 0 then ab_up C 797 25 (C 797 24) else C) : pz_x82 M D ∧ r = (pz_te (pz_pl M) 0 (-9)).1 := by
  obtain ⟨a1, a2, a3, a4, a5, a6, a7⟩ := h1
  have hC : ∀ o k, ¬ (o = 797 ∧ (k = 24 ∨ k = 25)) → C o k = B o k := fun o k x => by rw [h2 o k x, ab_up_a, if_neg (by omega), ab_up_a, if_neg (by omega)]
  have hL : pz_L (ab_up (ab_up B 797 24 0) 797 25 (-9)) = pz_pl M := by
    rw [← a4]
    unfold pz_L
    rw [show ab_up (ab_up B 797 24 0) 797 25 (-9) 797 9 = B 797 9 from by rw [ab_up_k (by decide), ab_up_k (by decide)]]
    exact pz_ls_congr fun j _ => by rw [ab_up_o (by decide), ab_up_o (by decide)]
  rw [hL, ab_up_s, show ab_up (ab_up B 797 24 0) 797 25 (-9) 797 24 = 0 from by rw [ab_up_k (by decide), ab_up_s]] at h3
  obtain ⟨r1, r2, r3⟩ := h3
  have h9 : C 797 9 = (((pz_pl M).length : Nat) : Int) := by rw [hC 797 9 (by omega), a3]
  have hD : ∀ o k, ¬ (o = 797 ∧ (k = 24 ∨ k = 25)) → D o k = B o k := fun o k x => by
    rw [h4]
    split
    · rw [ab_up_a, if_neg (by omega), hC o k x]
    · exact hC o k x
  refine ⟨⟨⟨fun o k x1 x2 x3 x4 => ?_, fun k x1 x2 x3 x4 x5 x6 x7 x8 x9 => ?_, ?_, ?_, fun j => ?_, fun j p hj => ?_, ?_⟩, ?_⟩, r1⟩
  · rw [hD o k (by omega), a1 o k x1 x2 x3 x4]
  · rw [hD 797 k (by omega), a2 k x1 x2 x3 x4 x5 x6 x7 x8 x9]
  · rw [hD 797 9 (by omega), a3]
  · rw [← a4]
    unfold pz_L
    rw [hD 797 9 (by omega)]
    exact pz_ls_congr fun j _ => hD 803 j (by omega)
  · rw [hD 803 j (by omega)]; exact a5 j
  · rw [hD 804 j (by omega)]; exact a6 j p hj
  · rw [hD 804 _ (by omega)]; exact a7
  · unfold pz_f1
    rw [← r2, ← r3, ← h9]
    by_cases hf : C 797 25 = -9
    · by_cases ha : C 797 24 = C 797 9
      · rw [h4, if_neg (by rw [hb, if_pos ha]; omega), if_pos hf, if_pos ha]
        exact hf
      · rw [h4, if_pos ⟨hf, by rw [hb, if_neg ha]⟩, if_pos hf, if_neg ha, ab_up_s]
    · rw [h4, if_neg (fun q => hf q.1), if_neg hf]
theorem pz_f1_len {ls : List Int} (h : pz_f1 ls = -9) : (pz_te ls 0 (-9)).1 = (ls.length : Int) := by
  unfold pz_f1 at h
  have e : (pz_te ls 0 (-9)).2.1 = (pz_te ls 0 (-9)).1 := by
    unfold pz_te
    rw [if_pos rfl]
    exact Int.zero_add _
  have hw := pz_te_wi (ls := ls) (a := 0) (f := -9) ⟨Int.le_refl 0, by omega⟩ (Or.inl rfl)
  obtain ⟨w1, w2, w3⟩ := hw
  split at h
  · split at h
    · omega
    · omega
  · rename_i q
    exact absurd h q
theorem pz_f1_wi (ls : List Int) : pz_f1 ls = -9 ∨ (0 ≤ pz_f1 ls ∧ pz_f1 ls ≤ (ls.length : Int)) := by
  have hw := pz_te_wi (ls := ls) (a := 0) (f := -9) ⟨Int.le_refl 0, by omega⟩ (Or.inl rfl)
  obtain ⟨w1, w2, w3⟩ := hw
  unfold pz_f1
  split
  · split
    · exact Or.inl rfl
    · exact Or.inr ⟨w1, w2⟩
  · exact w3
/-- the raw place of a letter, of the end -/
def pz_plc (M : ab_M) (p : Int) : Int := if p < (((pz_pl M).length : Nat) : Int) then (((pz_pos (M 802) (M 797 6).toNat).getD p.toNat 0 : Nat) : Int) else M 797 6
theorem pz_x45.plc {M N : ab_M} (h : pz_x45 M N) {p : Int} (hp : 0 ≤ p ∧ p ≤ (((pz_pl M).length : Nat) : Int)) : N 804 p.toNat = pz_plc M p := by
  obtain ⟨-, -, -, -, -, a6, a7⟩ := h
  unfold pz_plc
  by_cases hlt : p < (((pz_pl M).length : Nat) : Int)
  · rw [if_pos hlt]
    have hl := pz_pl_pos M
    have hj : p.toNat < (pz_pos (M 802) (M 797 6).toNat).length := by omega
    rw [a6 p.toNat _ (List.getElem?_eq_getElem hj), List.getD_eq_getElem?_getD, List.getElem?_eq_getElem hj]
    rfl
  · rw [if_neg hlt, ← a7, show p.toNat = (pz_pl M).length by omega]
/-- a term put into the place of another -/
def pz_spl (ls t : List Int) (a n : Nat) : List Int := ls.take a ++ t ++ ls.drop (a + n)
theorem pz_spl_get {ls t : List Int} {a n j : Nat} (h : a + n ≤ ls.length) : (pz_spl ls t a n)[j]? = if j < a then ls[j]? else if j < a + t.length then t[j - a]? else ls[j - t.length + n]? := by
  unfold pz_spl
  rw [List.append_assoc, List.getElem?_append, List.length_take, Nat.min_eq_left (by omega)]
  by_cases h1 : j < a
  · rw [if_pos h1, if_pos h1, List.getElem?_take, if_pos h1]
  · rw [if_neg h1, if_neg h1, List.getElem?_append]
    by_cases h2 : j < a + t.length
    · rw [if_pos (by omega), if_pos h2]
    · rw [if_neg (by omega), if_neg h2, List.getElem?_drop]
      congr 1
      omega
/-- what invariant() leaves -/
def pz_IV (M M' : ab_M) (l r : Int) : Prop := ∀ E, pz_read (pz_now M) = .inr E → (¬ (0 ≤ l ∧ l < (((pz_lps E).length : Nat) : Int)) → r = -1 ∧ pz_rdn M M') ∧ ∀ e : Nat, 0 ≤ l → (pz_lps E)[l.toNat]? = some e → pz_gf M M' ∧ pz_nk M' ∧ (pz_f1 (pz_pl M) ≠ -9 → r = -10 - pz_plc M (pz_f1 (pz_pl M)) ∧ M' 797 2 = M 797 2 ∧ M' 797 6 = M 797 6 ∧ (∀ k, M' 798 k = M 798 k) ∧ ∀ k, M' 799 k = M 799 k) ∧
  (pz_f1 (pz_pl M) = -9 → r = (((pz_pl M).length : Nat) : Int) ∧ pz_pt M M' ∧ M' 797 6 = 0 ∧ M' 798 640 = (((pz_pl M).length : Nat) : Int) + (M 798 640 - pz_ots (E.getD e pz_d0)) ∧ pz_now M' = pz_spl (pz_now M) (pz_pl M) (pz_oth (E.getD e pz_d0)).toNat (pz_ots (E.getD e pz_d0)).toNat ∧ ∀ k : Nat, (k : Int) < M' 798 640 → 0 ≤ M' 798 k ∧ M' 798 k < 256)
def pz_g114 (M N : ab_M) : Prop := pz_gf M N ∧ pz_nk N ∧ pz_pt M N ∧ (∀ k, N 798 k = M 798 k) ∧ N 797 6 = M 797 6 ∧ N 797 9 = (((pz_pl M).length : Nat) : Int) ∧ pz_L N = pz_pl M ∧ pz_f1 (pz_pl M) = -9
theorem pz_fgt_o {M : ab_M} {o k : Nat} (h : o ≠ 816) (h2 : ¬ (o = 797 ∧ (k = 28 ∨ k = 29 ∨ k = 31))) : pz_fgt M o k = M o k := by
  unfold pz_fgt
  simp only [ab_up_a]
  rw [if_neg (by omega), if_neg (by omega), if_neg (by omega), if_neg (by omega), if_neg (by omega)]
theorem pz_x82_gf {M N : ab_M} (h : pz_x82 M N) : pz_gf M (pz_fgt N) ∧ pz_nk (pz_fgt N) := by
  obtain ⟨⟨a1, a2, a3, a4, a5, a6, a7⟩, a8⟩ := h
  refine ⟨⟨fun o k x1 x2 x3 x4 x5 x6 x7 => ?_, fun k x1 x2 x3 x4 x5 x6 x7 x8 x9 x10 x11 x12 x13 => ?_⟩, ?_, ?_, ?_, ?_, ?_, fun j => ?_⟩
  · rw [pz_fgt_o x6 (by omega), a1 o k x1 x4 x5 x7]
  · rw [pz_fgt_o (by decide) (by omega), a2 k x3 x4 x5 x6 x7 x8 x9 x10 x11]
  · unfold pz_fgt; simp [ab_up_a]
  · unfold pz_fgt; simp [ab_up_a]
  · unfold pz_fgt; simp [ab_up_a]
  · unfold pz_fgt; simp [ab_up_a]
  · unfold pz_fgt; simp [ab_up_a]
  · rw [pz_fgt_o (by decide) (by omega)]; exact a5 j
theorem pz_g114_of {M A N : ab_M} (h : pz_x82 M A) (hf : pz_f1 (pz_pl M) = -9) (h2 : pz_NT (pz_fgt A) N) : pz_g114 M N := by
  obtain ⟨⟨b1, b2⟩, b3⟩ := pz_x82_gf h
  obtain ⟨⟨a1, a2, a3, a4, a5, a6, a7⟩, a8⟩ := h
  obtain ⟨d1, d2, d3, d4⟩ := h2
  have e2 : pz_fgt A 797 2 = M 797 2 := by rw [pz_fgt_o (by decide) (by omega), a2 2 (by decide) (by decide) (by decide) (by decide) (by decide) (by decide) (by decide) (by decide) (by decide)]
  have hq : pz_q0 (pz_fgt A) = pz_q0 M := by unfold pz_q0; rw [e2]
  have hs : pz_sh (pz_fgt A) = pz_sh M := by unfold pz_sh; rw [e2]
  have e785 : ∀ k, pz_fgt A 798 k = M 798 k := fun k => by rw [pz_fgt_o (by decide) (by omega), a1 798 k (by decide) (by decide) (by decide) (by omega)]
  have e786 : ∀ k, pz_fgt A 799 k = M 799 k := fun k => by rw [pz_fgt_o (by decide) (by omega), a1 799 k (by decide) (by decide) (by decide) (by omega)]
  have eN : ∀ o k, o ≠ 799 → ¬ (o = 797 ∧ k = 2) → N o k = pz_fgt A o k := d1
  refine ⟨⟨fun o k x1 x2 x3 x4 x5 x6 x7 => ?_, fun k x1 x2 x3 x4 x5 x6 x7 x8 x9 x10 x11 x12 x13 => ?_⟩, ⟨?_, ?_, ?_, ?_, ?_, fun j => ?_⟩, ⟨?_, fun k hk => ?_, fun k hk => ?_⟩, fun k => ?_, ?_, ?_, ?_, hf⟩
  · rw [eN o k x3 (by omega), b1 o k x1 x2 x3 x4 x5 x6 x7]
  · rw [eN 797 k (by decide) (by omega), b2 k x1 x2 x3 x4 x5 x6 x7 x8 x9 x10 x11 x12 x13]
  · rw [eN 797 28 (by decide) (by omega), b3.1]
  · rw [eN 797 29 (by decide) (by omega), b3.2.1]
  · rw [eN 816 0 (by decide) (by omega), b3.2.2.1]
  · rw [eN 816 1 (by decide) (by omega), b3.2.2.2.1]
  · rw [eN 797 31 (by decide) (by omega), b3.2.2.2.2.1]
  · rw [eN 803 j (by decide) (by omega)]; exact b3.2.2.2.2.2 j
  · rw [d2, hq]
  · rw [d3 k (by rw [hq]; exact hk), hs, e786]
  · rw [← hq, d4 k hk, e785]
  · rw [eN 798 k (by decide) (by omega), e785]
  · rw [eN 797 6 (by decide) (by omega), pz_fgt_o (by decide) (by omega), a2 6 (by decide) (by decide) (by decide) (by decide) (by decide) (by decide) (by decide) (by decide) (by decide)]
  · rw [eN 797 9 (by decide) (by omega), pz_fgt_o (by decide) (by omega), a3]
  · rw [← a4]
    unfold pz_L
    rw [eN 797 9 (by decide) (by omega), pz_fgt_o (by decide) (by omega)]
    exact pz_ls_congr fun j _ => by rw [eN 803 j (by decide) (by omega), pz_fgt_o (by decide) (by omega)]
/-- where things stand while the letters behind are moved -/
def pz_w136 (M : ab_M) (l : Int) (fr wa its : Int) : Prop := ∃ E, pz_read (pz_now M) = .inr E ∧ ∃ e : Nat, 0 ≤ l ∧ (pz_lps E)[l.toNat]? = some e ∧ fr = pz_oth (E.getD e pz_d0) ∧ wa = pz_ots (E.getD e pz_d0) ∧ its = (((pz_pl M).length : Nat) : Int) ∧ 0 ≤ fr ∧ 0 ≤ wa ∧ fr + wa ≤ M 798 640 ∧ M 798 640 - wa + 120 ≤ 640 ∧ 0 ≤ its ∧ its ≤ 120
def pz_s136 (M M1 : ab_M) (fr wa its k : Int) : Prop := ∃ N, pz_g114 M N ∧ (∀ o j, o ≠ 798 → M1 o j = N o j) ∧
  (0 < its - wa → (∀ p : Nat, ((p : Int) < M 798 640 + (its - wa) - k ∨ M 798 640 + (its - wa) ≤ (p : Int)) → M1 798 p = M 798 p) ∧ ∀ p : Nat, M 798 640 + (its - wa) - k ≤ (p : Int) → (p : Int) < M 798 640 + (its - wa) → M1 798 p = M 798 ((p : Int) - (its - wa)).toNat) ∧
  (its - wa ≤ 0 → (∀ p : Nat, ((p : Int) < fr + its ∨ fr + its + k ≤ (p : Int)) → M1 798 p = M 798 p) ∧ ∀ p : Nat, fr + its ≤ (p : Int) → (p : Int) < fr + its + k → M1 798 p = M 798 ((p : Int) - (its - wa)).toNat)
theorem pz_s136.step {M M1 : ab_M} {fr wa its k : Int} (h : pz_s136 M M1 fr wa its k) (hb : 0 ≤ fr ∧ 0 ≤ wa ∧ fr + wa ≤ M 798 640 ∧ M 798 640 - wa + 120 ≤ 640 ∧ 0 ≤ its ∧ its ≤ 120) (hk : 0 ≤ k ∧ k < M 798 640 - fr - wa) {to : Int} (ht : to = if 0 < its - wa then M 798 640 + (its - wa) - 1 - k else fr + its + k) : pz_s136 M (ab_up M1 798 to.toNat (M1 798 (to - (its - wa)).toNat)) fr wa its (k + 1) := by
  obtain ⟨N, h1, h2, h3, h4⟩ := h
  refine ⟨N, h1, fun o j x => by rw [ab_up_o x, h2 o j x], fun hm => ?_, fun hm => ?_⟩
  · rw [if_pos hm] at ht
    obtain ⟨a1, a2⟩ := h3 hm
    have e := a1 (to - (its - wa)).toNat (by omega)
    refine ⟨fun p hp => ?_, fun p hp1 hp2 => ?_⟩
    · rw [ab_up_k (by omega), a1 p (by omega)]
    · by_cases hpt : p = to.toNat
      · rw [hpt, ab_up_s, e, show (((to.toNat : Nat) : Int) - (its - wa)).toNat = (to - (its - wa)).toNat by omega]
      · rw [ab_up_k hpt, a2 p (by omega) hp2]
  · rw [if_neg (by omega)] at ht
    obtain ⟨a1, a2⟩ := h4 hm
    have e := a1 (to - (its - wa)).toNat (by omega)
    refine ⟨fun p hp => ?_, fun p hp1 hp2 => ?_⟩
    · rw [ab_up_k (by omega), a1 p (by omega)]
    · by_cases hpt : p = to.toNat
      · rw [hpt, ab_up_s, e, show (((to.toNat : Nat) : Int) - (its - wa)).toNat = (to - (its - wa)).toNat by omega]
      · rw [ab_up_k hpt, a2 p hp1 (by omega)]
/-- and while the new letters are put in -/
def pz_s200 (M M1 : ab_M) (fr wa its k : Int) : Prop := ∃ N, pz_g114 M N ∧ (∀ o j, o ≠ 798 → M1 o j = N o j) ∧ (∀ p : Nat, (p : Int) < fr → M1 798 p = M 798 p) ∧ (∀ p : Nat, fr ≤ (p : Int) → (p : Int) < fr + k → M1 798 p = N 803 ((p : Int) - fr).toNat) ∧ ∀ p : Nat, fr + its ≤ (p : Int) → (p : Int) < M 798 640 + (its - wa) → M1 798 p = M 798 ((p : Int) - (its - wa)).toNat
theorem pz_s136.fin {M M1 : ab_M} {fr wa its k : Int} (h : pz_s136 M M1 fr wa its k) (hb : 0 ≤ fr ∧ 0 ≤ wa ∧ fr + wa ≤ M 798 640 ∧ M 798 640 - wa + 120 ≤ 640 ∧ 0 ≤ its ∧ its ≤ 120) (hk : M 798 640 - fr - wa = k) : pz_s200 M M1 fr wa its 0 := by
  obtain ⟨N, h1, h2, h3, h4⟩ := h
  refine ⟨N, h1, h2, fun p hp => ?_, fun p hp1 hp2 => by omega, fun p hp1 hp2 => ?_⟩
  · by_cases hm : 0 < its - wa
    · exact (h3 hm).1 p (by omega)
    · exact (h4 (by omega)).1 p (by omega)
  · by_cases hm : 0 < its - wa
    · exact (h3 hm).2 p (by omega) hp2
    · exact (h4 (by omega)).2 p hp1 (by omega)
theorem pz_s200.step {M M1 : ab_M} {fr wa its k : Int} (h : pz_s200 M M1 fr wa its k) (hb : 0 ≤ fr ∧ 0 ≤ its) (hk : 0 ≤ k ∧ k < its) : pz_s200 M (ab_up M1 798 (fr + k).toNat (M1 803 k.toNat)) fr wa its (k + 1) := by
  obtain ⟨N, h1, h2, h3, h4, h5⟩ := h
  refine ⟨N, h1, fun o j x => by rw [ab_up_o x, h2 o j x], fun p hp => ?_, fun p hp1 hp2 => ?_, fun p hp1 hp2 => ?_⟩
  · rw [ab_up_k (by omega), h3 p hp]
  · by_cases hpt : p = (fr + k).toNat
    · rw [hpt, ab_up_s, h2 803 _ (by decide), show (((fr + k).toNat : Nat) : Int) - fr = k by omega]
    · rw [ab_up_k hpt, h4 p hp1 (by omega)]
  · rw [ab_up_k (by omega), h5 p hp1 hp2]
theorem pz_s200.fin {M M1 : ab_M} {l fr wa its k : Int} (hw : pz_w136 M l fr wa its) (h : pz_s200 M M1 fr wa its k) (hNG : pz_NG M) (hk : its ≤ k) : pz_IV M (ab_up (ab_up M1 798 640 (M 798 640 + (its - wa))) 797 6 0) l its := by
  obtain ⟨E, hE, e, hl, he, w1, w2, w3, w4, w5, w6, w7, w8, w9⟩ := hw
  obtain ⟨N, ⟨⟨a1, a2⟩, ⟨b1, b2, b3, b4, b5, b6⟩, ⟨c1, c2, c3⟩, d1, d2, d3, d4, d5⟩, h2, h3, h4, h5⟩ := h
  have hX : ∀ o k, ¬ (o = 797 ∧ k = 6) → o ≠ 798 → ab_up (ab_up M1 798 640 (M 798 640 + (its - wa))) 797 6 0 o k = N o k := fun o k x y => by rw [ab_up_a, if_neg x, ab_up_o y, h2 o k y]
  have hY : ∀ p : Nat, p ≠ 640 → ab_up (ab_up M1 798 640 (M 798 640 + (its - wa))) 797 6 0 798 p = M1 798 p := fun p hp => by rw [ab_up_o (by decide), ab_up_k hp]
  have hZ : ab_up (ab_up M1 798 640 (M 798 640 + (its - wa))) 797 6 0 798 640 = M 798 640 + (its - wa) := by rw [ab_up_o (by decide), ab_up_s]
  have h790 : ∀ j : Nat, (j : Int) < its → (pz_pl M)[j]? = some (N 803 j) := fun j hj => by
    rw [← d4]
    unfold pz_L
    rw [pz_ls_get, if_pos (by omega)]
  intro E' hE'
  rw [hE] at hE'
  cases hE'
  have hlt := (List.getElem?_eq_some_iff.mp he).1
  refine ⟨fun q => absurd ⟨hl, by omega⟩ q, fun e' _ he' => ?_⟩
  rw [he] at he'
  cases he'
  refine ⟨⟨fun o k x1 x2 x3 x4 x5 x6 x7 => ?_, fun k x1 x2 x3 x4 x5 x6 x7 x8 x9 x10 x11 x12 x13 => ?_⟩, ⟨?_, ?_, ?_, ?_, ?_, fun j => ?_⟩, fun q => absurd d5 q, fun _ => ⟨w3, ⟨?_, fun k hk => ?_, fun k hk => ?_⟩, ab_up_s, ?_, ?_, fun p hp => ?_⟩⟩
  · rw [hX o k (by omega) x2, a1 o k x1 x2 x3 x4 x5 x6 x7]
  · rw [hX 797 k (by omega) (by decide), a2 k x1 x2 x3 x4 x5 x6 x7 x8 x9 x10 x11 x12 x13]
  · rw [hX 797 28 (by omega) (by decide), b1]
  · rw [hX 797 29 (by omega) (by decide), b2]
  · rw [hX 816 0 (by omega) (by decide), b3]
  · rw [hX 816 1 (by omega) (by decide), b4]
  · rw [hX 797 31 (by omega) (by decide), b5]
  · rw [hX 803 j (by omega) (by decide)]; exact b6 j
  · rw [hX 797 2 (by omega) (by decide), c1]
  · rw [hX 799 k (by omega) (by decide), c2 k hk]
  · rw [hX 799 _ (by omega) (by decide), c3 k hk]
  · rw [hZ]; omega
  · rw [← w1, ← w2]
    have hpl : (pz_pl M).length = its.toNat := by omega
    apply List.ext_getElem?
    intro j
    rw [pz_spl_get (by rw [pz_ls_len]; omega), pz_ls_get, hZ, pz_ls_get, pz_ls_get, hpl]
    by_cases hj1 : (j : Int) < fr
    · rw [if_pos (by omega), if_pos (by omega), if_pos (by omega), hY j (by omega), h3 j hj1]
    · by_cases hj2 : (j : Int) < fr + its
      · rw [if_pos (by omega), if_neg (by omega), if_pos (by omega), h790 _ (by omega), hY j (by omega), h4 j (by omega) (by omega)]
        congr 2
        omega
      · by_cases hj3 : (j : Int) < M 798 640 + (its - wa)
        · rw [if_pos (by omega), if_neg (by omega), if_neg (by omega), if_pos (by omega), hY j (by omega), h5 j (by omega) hj3]
          congr 2
          omega
        · rw [if_neg (by omega), if_neg (by omega), if_neg (by omega), if_neg (by omega)]
  · rw [hZ] at hp
    rw [hY p (by omega)]
    by_cases hj1 : (p : Int) < fr
    · rw [h3 p hj1]
      exact hNG.2.2.1 p (by omega)
    · by_cases hj2 : (p : Int) < fr + its
      · rw [h4 p (by omega) (by omega)]
        exact b6 _
      · rw [h5 p (by omega) hp]
        exact hNG.2.2.1 _ (by omega)

def S_X9_invariant : ab_PT := fun a M K => match a with
  | [.inr (.inr (.inr (797, 9, 0))), .inr (.inl l)] => (pz_PR M ∧ (0 ≤ M 797 6 ∧ M 797 6 ≤ 120) ∧ (∀ k : Nat, (k : Int) < M 797 6 → 0 ≤ M 802 k ∧ M 802 k < 256) ∧ (0 ≤ M 797 2 ∧ M 797 2 ≤ 6) ∧ (∀ E, pz_read (pz_now M) = .inr E → pz_IB (pz_now M) E) ∧ ab_ir l) ∧ (∀ rx : Int, ∀ Mx : ab_M, (pz_IV M Mx l rx) → K [Xi rx] Mx)
  | _ => False
set_option maxRecDepth 20000 in
theorem vc_X9_invariant_0 (l : Int) (M : ab_M) (K : List ab_V → ab_M → Prop) (hS : (pz_PR M ∧ (0 ≤ M 797 6 ∧ M 797 6 ≤ 120) ∧ (∀ k : Nat, (k : Int) < M 797 6 → 0 ≤ M 802 k ∧ M 802 k < 256) ∧ (0 ≤ M 797 2 ∧ M 797 2 ≤ 6) ∧ (∀ E, pz_read (pz_now M) = .inr E → pz_IB (pz_now M) E) ∧ ab_ir l) ∧ (∀ rx : Int, ∀ Mx : ab_M, (pz_IV M Mx l rx) → K [Xi rx] Mx)) : (pz_PR M) ∧ (∀ M1 : ab_M, (pz_rdn M M1) → (ab_ir l ∧ ab_ir (0 : Int) ∧ ab_ir ((M1 797 21) - (1 : Int))) ∧ (∀ r12 : Int, (r12 = if (0 : Int) ≤ l ∧ l ≤ ((M1 797 21) - (1 : Int)) then 1 else 0) → (ab_ir r12) ∧ ((¬ r12 = 0 → (0 ≤ l ∧ l < ((4 : Nat) : Int)) ∧ (0 ≤ (M1 814 l.toNat) ∧ (M1 814 l.toNat) < ((400 : Nat) : Int)) ∧ (0 ≤ l ∧ l < ((4 : Nat) : Int)) ∧ (0 ≤ (M1 814 l.toNat) ∧ (M1 814 l.toNat) < ((400 : Nat) : Int)) ∧ (0 ≤ M1 797 6 ∧ M1 797 6 ≤ 120 ∧ (∀ k : Nat, (k : Int) < M1 797 6 → 0 ≤ M1 802 k ∧ M1 802 k < 256) ∧ (∀ j, 0 ≤ M1 803 j ∧ M1 803 j < 256)) ∧ (∀ M45 : ab_M, (pz_TT M1 M45 (M1 797 6).toNat ∧ M45 804 (M45 797 9).toNat = M1 797 6) → (-128 ≤ (-9 : Int) ∧ (-9 : Int) < 128) ∧ (pz_LS (ab_up (ab_up M45 797 24 (0 : Int)) 797 25 (-9 : Int)) ∧ ab_ir ((ab_up (ab_up M45 797 24 (0 : Int)) 797 25 (-9 : Int)) 797 25)) ∧ (∀ r60 : Int, ∀ M60 : ab_M, (pz_fr (ab_up (ab_up M45 797 24 (0 : Int)) 797 25 (-9 : Int)) M60 ∧ 0 ≤ M60 797 24 ∧ M60 797 24 ≤ (ab_up (ab_up M45 797 24 (0 : Int)) 797 25 (-9 : Int)) 797 9 ∧ ab_ir (M60 797 25)) → (r60 = (pz_te (pz_L (ab_up (ab_up M45 797 24 (0 : Int)) 797 25 (-9 : Int))) ((ab_up (ab_up M45 797 24 (0 : Int)) 797 25 (-9 : Int)) 797 24) ((ab_up (ab_up M45 797 24 (0 : Int)) 797 25 (-9 : Int)) 797 25)).1 ∧ M60 797 24 = (pz_te (pz_L (ab_up (ab_up M45 797 24 (0 : Int)) 797 25 (-9 : Int))) ((ab_up (ab_up M45 797 24 (0 : Int)) 797 25 (-9 : Int)) 797 24) ((ab_up (ab_up M45 797 24 (0 : Int)) 797 25 (-9 : Int)) 797 25)).2.1 ∧ M60 797 25 = (pz_te (pz_L (ab_up (ab_up M45 797 24 (0 : Int)) 797 25 (-9 : Int))) ((ab_up (ab_up M45 797 24 (0 : Int)) 797 25 (-9 : Int)) 797 24) ((ab_up (ab_up M45 797 24 (0 : Int)) 797 25 (-9 : Int)) 797 25)).2.2) → (ab_ir (M60 797 24) ∧ ab_ir (M60 797 9)) ∧ ((¬ (M60 797 24) = (M60 797 9) → (((0 : Int) = 0 ∨ (0 : Int) = 1) ∧ ab_ir (M60 797 25)) ∧ (∀ M82 : ab_M, (M82 = if M60 797 25 = -9 ∧ (0 : Int) = 0 then ab_up M60 797 25 (M60 797 24) else M60) → (True) ∧ (∀ M92 : ab_M, (M92 = ab_up (ab_up (ab_up (ab_up (ab_up M82 797 28 0) 797 29 (-9)) 816 0 0) 816 1 0) 797 31 0) → (-128 ≤ (-9 : Int) ∧ (-9 : Int) < 128) ∧ (ab_ir (M82 797 25) ∧ ab_ir (-9 : Int)) ∧ (((M82 797 25) = (-9 : Int) → (0 ≤ M92 797 2 ∧ M92 797 2 ≤ 6) ∧ (∀ M114 : ab_M, (pz_NT M92 M114) → (-32768 ≤ (640 : Int) ∧ (640 : Int) < 32768) ∧ (0 ≤ (640 : Int) ∧ (640 : Int) < ((641 : Nat) : Int)) ∧ (∃ n', ((n' = 2000 + (M 798 640 - (M1 809 ((M1 814 l.toNat).toNat)) - (M1 810 ((M1 814 l.toNat).toNat)) - (0 : Int)).toNat ∧ 0 ≤ (0 : Int) ∧ (0 : Int) ≤ M 798 640 - (M1 809 ((M1 814 l.toNat).toNat)) - (M1 810 ((M1 814 l.toNat).toNat)) ∧ (r60 - (M1 810 ((M1 814 l.toNat).toNat))) = r60 - (M1 810 ((M1 814 l.toNat).toNat)) ∧ (M114 798 640) = M 798 640 ∧ pz_w136 M l (M1 809 ((M1 814 l.toNat).toNat)) (M1 810 ((M1 814 l.toNat).toNat)) r60 ∧ pz_s136 M M114 (M1 809 ((M1 814 l.toNat).toNat)) (M1 810 ((M1 814 l.toNat).toNat)) r60 (0 : Int)))))) ∧ (¬ (M82 797 25) = (-9 : Int) → (-128 ≤ (-10 : Int) ∧ (-10 : Int) < 128) ∧ (0 ≤ (M82 797 25) ∧ (M82 797 25) < ((641 : Nat) : Int)) ∧ K [Xi ((-10 : Int) - (M92 804 ((M82 797 25).toNat)))] M92))))) ∧ ((M60 797 24) = (M60 797 9) → (((1 : Int) = 0 ∨ (1 : Int) = 1) ∧ ab_ir (M60 797 25)) ∧ (∀ M82 : ab_M, (M82 = if M60 797 25 = -9 ∧ (1 : Int) = 0 then ab_up M60 797 25 (M60 797 24) else M60) → (True) ∧ (∀ M92 : ab_M, (M92 = ab_up (ab_up (ab_up (ab_up (ab_up M82 797 28 0) 797 29 (-9)) 816 0 0) 816 1 0) 797 31 0) → (-128 ≤ (-9 : Int) ∧ (-9 : Int) < 128) ∧ (ab_ir (M82 797 25) ∧ ab_ir (-9 : Int)) ∧ (((M82 797 25) = (-9 : Int) → (0 ≤ M92 797 2 ∧ M92 797 2 ≤ 6) ∧ (∀ M114 : ab_M, (pz_NT M92 M114) → (-32768 ≤ (640 : Int) ∧ (640 : Int) < 32768) ∧ (0 ≤ (640 : Int) ∧ (640 : Int) < ((641 : Nat) : Int)) ∧ (∃ n', ((n' = 2000 + (M 798 640 - (M1 809 ((M1 814 l.toNat).toNat)) - (M1 810 ((M1 814 l.toNat).toNat)) - (0 : Int)).toNat ∧ 0 ≤ (0 : Int) ∧ (0 : Int) ≤ M 798 640 - (M1 809 ((M1 814 l.toNat).toNat)) - (M1 810 ((M1 814 l.toNat).toNat)) ∧ (r60 - (M1 810 ((M1 814 l.toNat).toNat))) = r60 - (M1 810 ((M1 814 l.toNat).toNat)) ∧ (M114 798 640) = M 798 640 ∧ pz_w136 M l (M1 809 ((M1 814 l.toNat).toNat)) (M1 810 ((M1 814 l.toNat).toNat)) r60 ∧ pz_s136 M M114 (M1 809 ((M1 814 l.toNat).toNat)) (M1 810 ((M1 814 l.toNat).toNat)) r60 (0 : Int)))))) ∧ (¬ (M82 797 25) = (-9 : Int) → (-128 ≤ (-10 : Int) ∧ (-10 : Int) < 128) ∧ (0 ≤ (M82 797 25) ∧ (M82 797 25) < ((641 : Nat) : Int)) ∧ K [Xi ((-10 : Int) - (M92 804 ((M82 797 25).toNat)))] M92))))))))) ∧ (r12 = 0 → K [Xi (-1 : Int)] M1)))) := by
  obtain ⟨⟨g1, g2, g3, g4, g5, g6⟩, gK⟩ := hS
  refine And.intro (by
    exact g1) ?_
  intro M1 hM1
  have hRK := hM1.2.2
  have hRI := hRK.2.2.2.1
  have hl1 := hRI.2.2.2.1.1
  have hl2 := hRI.2.2.2.1.2.1
  have hnow : pz_now M1 = pz_now M := by
    unfold pz_now
    rw [hM1.2.1.1 798 640 (by decide) (by decide) (by omega)]
    exact pz_ls_congr fun j _ => hM1.2.1.1 798 j (by decide) (by decide) (by omega)
  have hE : pz_read (pz_now M) = .inr (pz_E M1) := by rw [← hnow]; exact hRK.2.2.2.2
  have e6 : M1 797 6 = M 797 6 := hM1.2.1.2 6 (by decide) (by decide) (by decide) (by decide) (by decide) (by decide) (by decide) (by decide) (by decide)
  have e789 : ∀ k, M1 802 k = M 802 k := fun k => hM1.2.1.1 802 k (by decide) (by decide) (by omega)
  refine And.intro (by
    first
      | omega
      | (simp [ab_up_a]; done)
      | (simp [ab_up_a]; omega)) ?_
  intro r12 hr12
  have hloop : pz_hl (0 ≤ l ∧ l ≤ M1 797 21 - 1) (∃ e : Nat, 0 ≤ l ∧ (pz_lps (pz_E M1))[l.toNat]? = some e ∧ (M1 814 l.toNat).toNat = e ∧ 0 ≤ M1 814 l.toNat ∧ M1 814 l.toNat < 400 ∧ M1 809 e = pz_oth ((pz_E M1).getD e pz_d0) ∧ M1 810 e = pz_ots ((pz_E M1).getD e pz_d0) ∧ 0 ≤ M1 809 e ∧ 0 ≤ M1 810 e ∧ M1 809 e + M1 810 e ≤ M 798 640 ∧ M 798 640 - M1 810 e + 120 ≤ 640) := by
    have g11 := g1.1.1
    intro hl
    obtain ⟨e, q1, q2, q3, q4, q5, q6⟩ := pz_loop_at hRI (l := l) (by omega)
    have hib := g5 _ hE _ _ q1
    rw [q6] at hib
    rw [pz_ls_len] at hib
    have hib2 : 0 ≤ M1 809 e ∧ 0 ≤ M1 810 e ∧ M1 809 e + M1 810 e ≤ (((M 798 640).toNat : Nat) : Int) ∧ (((M 798 640).toNat : Nat) : Int) - M1 810 e + 120 ≤ 640 := hib
    exact ⟨e, hl.1, q1, by rw [q2]; omega, by omega, by omega, by rw [q6], by rw [q6], by omega, by omega, by omega, by omega⟩
  refine And.intro (by
    first
      | omega
      | (simp [ab_up_a]; done)
      | (simp [ab_up_a]; omega)) ?_
  refine ⟨?_, ?_⟩
  · intro c15
    rw [hr12] at c15
    rw [ab_bt] at c15
    clear hr12 r12
    refine And.intro (by
      first
        | omega
        | (simp [ab_up_a]; done)
        | (simp [ab_up_a]; omega)) ?_
    refine And.intro (by
      obtain ⟨e, l0, q1, q2, q3, q4, q5, q6, q7⟩ := hloop (by omega)
      exact ⟨q3, q4⟩) ?_
    refine And.intro (by
      first
        | omega
        | (simp [ab_up_a]; done)
        | (simp [ab_up_a]; omega)) ?_
    refine And.intro (by
      obtain ⟨e, l0, q1, q2, q3, q4, q5, q6, q7⟩ := hloop (by omega)
      exact ⟨q3, q4⟩) ?_
    refine And.intro (by
      rw [e6]
      exact ⟨g2.1, g2.2, fun k hk => by rw [e789]; exact g3 k hk, hRK.2.1⟩) ?_
    intro M45 hM45
    have hx45 := pz_x45_of g2 hM1 hM45.1 hM45.2
    have hplen := pz_pl_len M g2
    refine And.intro (by
      first
        | omega
        | (simp [ab_up_a]; done)
        | (simp [ab_up_a]; omega)) ?_
    refine And.intro (by
      refine ⟨⟨?_, ?_, fun j => ?_, ?_, ?_⟩, ?_⟩
      · rw [ab_up_k (by decide), ab_up_k (by decide), hx45.2.2.1]; omega
      · rw [ab_up_k (by decide), ab_up_k (by decide), hx45.2.2.1]; omega
      · rw [ab_up_o (by decide), ab_up_o (by decide)]; exact hx45.2.2.2.2.1 j
      · rw [ab_up_k (by decide), ab_up_s]; decide
      · rw [ab_up_k (by decide), ab_up_s, ab_up_k (by decide), ab_up_k (by decide), hx45.2.2.1]; omega
      · rw [ab_up_s]; exact ⟨by decide, by decide⟩) ?_
    intro r60 M60 hM60 hr60
    refine And.intro (by
      have e608 : ab_up (ab_up M45 797 24 0) 797 25 (-9) 797 9 = M45 797 9 := by rw [ab_up_k (by decide), ab_up_k (by decide)]
      have e609 : M60 797 9 = M45 797 9 := by rw [hM60.1 797 9 (by omega), e608]
      have := hx45.2.2.1
      obtain ⟨-, y1, y2, y3⟩ := hM60
      rw [e608] at y2
      exact ⟨⟨by omega, by omega⟩, by omega, by omega⟩) ?_
    refine ⟨?_, ?_⟩
    · intro c74
      refine And.intro (by
        first
          | omega
          | (simp [ab_up_a]; done)
          | (simp [ab_up_a]; omega)) ?_
      intro M82 hM82
      first
        | have hx82a := pz_x82_of (b := 1) hx45 hM60.1 hr60 (by rw [if_pos c74]) hM82
        | have hx82a := pz_x82_of (b := 0) hx45 hM60.1 hr60 (by rw [if_neg c74]) hM82
      obtain ⟨hx82, hr60b⟩ := hx82a
      have hwi := pz_f1_wi (pz_pl M)
      have h25 := hx82.2
      refine And.intro trivial ?_
      intro M92 hM92
      have hx92 := pz_x82_gf hx82
      have e92 : M92 = pz_fgt M82 := hM92
      have e922 : M92 797 2 = M 797 2 := by rw [e92, pz_fgt_o (by decide) (by omega), hx82.1.2.1 2 (by decide) (by decide) (by decide) (by decide) (by decide) (by decide) (by decide) (by decide) (by decide)]
      refine And.intro (by
        first
          | omega
          | (simp [ab_up_a]; done)
          | (simp [ab_up_a]; omega)) ?_
      refine And.intro (by
        first
          | omega
          | (simp [ab_up_a]; done)
          | (simp [ab_up_a]; omega)) ?_
      refine ⟨?_, ?_⟩
      · intro c99
        refine And.intro (by
          rw [e922]
          exact g4) ?_
        intro M114 hM114
        have hg := pz_g114_of hx82 (by rw [← h25]; exact c99) (by rw [← e92]; exact hM114)
        have e640 : M114 798 640 = M 798 640 := hg.2.2.2.1 640
        obtain ⟨e, l0, q1, q2, q3, q4, q5, q6, q7, q8, q9, q10⟩ := hloop (by omega)
        have hits := pz_f1_len hg.2.2.2.2.2.2.2
        rw [← hr60b] at hits
        refine And.intro (by
          first
            | omega
            | (simp [ab_up_a]; done)
            | (simp [ab_up_a]; omega)) ?_
        refine And.intro (by
          first
            | omega
            | (simp [ab_up_a]; done)
            | (simp [ab_up_a]; omega)) ?_
        refine ⟨_, rfl, Int.le_refl 0, ?_, rfl, e640, ⟨_, hE, e, l0, q1, by rw [q2]; exact q5, by rw [q2]; exact q6, hits, by rw [q2]; exact q7, by rw [q2]; exact q8, by rw [q2]; exact q9, by rw [q2]; exact q10, by omega, by omega⟩, M114, hg, fun _ _ _ => rfl, fun hm => ⟨fun p _ => hg.2.2.2.1 p, fun p h1 h2 => by omega⟩, fun hm => ⟨fun p _ => hg.2.2.2.1 p, fun p h1 h2 => by omega⟩⟩
        rw [q2]
        omega
      · intro c99
        refine And.intro (by
          first
            | omega
            | (simp [ab_up_a]; done)
            | (simp [ab_up_a]; omega)) ?_
        refine And.intro (by
          first
            | omega
            | (simp [ab_up_a]; done)
            | (simp [ab_up_a]; omega)) ?_
        refine gK _ _ (fun E' hE' => ?_)
        rw [hE] at hE'
        cases hE'
        obtain ⟨e0, l0, q1, q2, q3, q4, q5⟩ := hloop (by omega)
        refine ⟨fun q => absurd ⟨l0, by omega⟩ q, fun e h0 he => ⟨by rw [e92]; exact hx92.1, by rw [e92]; exact hx92.2, fun hf => ⟨?_, e922, ?_, fun k => ?_, fun k => ?_⟩, fun hf => absurd (h25.trans hf) c99⟩⟩
        · rw [e92, pz_fgt_o (by decide) (by omega), h25, hx82.1.plc (by omega)]
        · rw [e92, pz_fgt_o (by decide) (by omega), hx82.1.2.1 6 (by decide) (by decide) (by decide) (by decide) (by decide) (by decide) (by decide) (by decide) (by decide)]
        · rw [e92, pz_fgt_o (by decide) (by omega), hx82.1.1 798 k (by decide) (by decide) (by decide) (by omega)]
        · rw [e92, pz_fgt_o (by decide) (by omega), hx82.1.1 799 k (by decide) (by decide) (by decide) (by omega)]
    · intro c74
      refine And.intro (by
        first
          | omega
          | (simp [ab_up_a]; done)
          | (simp [ab_up_a]; omega)) ?_
      intro M82 hM82
      first
        | have hx82a := pz_x82_of (b := 1) hx45 hM60.1 hr60 (by rw [if_pos c74]) hM82
        | have hx82a := pz_x82_of (b := 0) hx45 hM60.1 hr60 (by rw [if_neg c74]) hM82
      obtain ⟨hx82, hr60b⟩ := hx82a
      have hwi := pz_f1_wi (pz_pl M)
      have h25 := hx82.2
      refine And.intro trivial ?_
      intro M92 hM92
      have hx92 := pz_x82_gf hx82
      have e92 : M92 = pz_fgt M82 := hM92
      have e922 : M92 797 2 = M 797 2 := by rw [e92, pz_fgt_o (by decide) (by omega), hx82.1.2.1 2 (by decide) (by decide) (by decide) (by decide) (by decide) (by decide) (by decide) (by decide) (by decide)]
      refine And.intro (by
        first
          | omega
          | (simp [ab_up_a]; done)
          | (simp [ab_up_a]; omega)) ?_
      refine And.intro (by
        first
          | omega
          | (simp [ab_up_a]; done)
          | (simp [ab_up_a]; omega)) ?_
      refine ⟨?_, ?_⟩
      · intro c99
        refine And.intro (by
          rw [e922]
          exact g4) ?_
        intro M114 hM114
        have hg := pz_g114_of hx82 (by rw [← h25]; exact c99) (by rw [← e92]; exact hM114)
        have e640 : M114 798 640 = M 798 640 := hg.2.2.2.1 640
        obtain ⟨e, l0, q1, q2, q3, q4, q5, q6, q7, q8, q9, q10⟩ := hloop (by omega)
        have hits := pz_f1_len hg.2.2.2.2.2.2.2
        rw [← hr60b] at hits
        refine And.intro (by
          first
            | omega
            | (simp [ab_up_a]; done)
            | (simp [ab_up_a]; omega)) ?_
        refine And.intro (by
          first
            | omega
            | (simp [ab_up_a]; done)
            | (simp [ab_up_a]; omega)) ?_
        refine ⟨_, rfl, Int.le_refl 0, ?_, rfl, e640, ⟨_, hE, e, l0, q1, by rw [q2]; exact q5, by rw [q2]; exact q6, hits, by rw [q2]; exact q7, by rw [q2]; exact q8, by rw [q2]; exact q9, by rw [q2]; exact q10, by omega, by omega⟩, M114, hg, fun _ _ _ => rfl, fun hm => ⟨fun p _ => hg.2.2.2.1 p, fun p h1 h2 => by omega⟩, fun hm => ⟨fun p _ => hg.2.2.2.1 p, fun p h1 h2 => by omega⟩⟩
        rw [q2]
        omega
      · intro c99
        refine And.intro (by
          first
            | omega
            | (simp [ab_up_a]; done)
            | (simp [ab_up_a]; omega)) ?_
        refine And.intro (by
          first
            | omega
            | (simp [ab_up_a]; done)
            | (simp [ab_up_a]; omega)) ?_
        refine gK _ _ (fun E' hE' => ?_)
        rw [hE] at hE'
        cases hE'
        obtain ⟨e0, l0, q1, q2, q3, q4, q5⟩ := hloop (by omega)
        refine ⟨fun q => absurd ⟨l0, by omega⟩ q, fun e h0 he => ⟨by rw [e92]; exact hx92.1, by rw [e92]; exact hx92.2, fun hf => ⟨?_, e922, ?_, fun k => ?_, fun k => ?_⟩, fun hf => absurd (h25.trans hf) c99⟩⟩
        · rw [e92, pz_fgt_o (by decide) (by omega), h25, hx82.1.plc (by omega)]
        · rw [e92, pz_fgt_o (by decide) (by omega), hx82.1.2.1 6 (by decide) (by decide) (by decide) (by decide) (by decide) (by decide) (by decide) (by decide) (by decide)]
        · rw [e92, pz_fgt_o (by decide) (by omega), hx82.1.1 798 k (by decide) (by decide) (by decide) (by omega)]
        · rw [e92, pz_fgt_o (by decide) (by omega), hx82.1.1 799 k (by decide) (by decide) (by decide) (by omega)]
  · intro c15
    rw [hr12] at c15
    rw [ab_bf] at c15
    clear hr12 r12
    refine gK _ _ (fun E' hE' => ?_)
    rw [hE] at hE'
    cases hE'
    refine ⟨fun _ => ⟨rfl, hM1⟩, fun e h0 he => ?_⟩
    have := (List.getElem?_eq_some_iff.mp he).1
    omega

set_option maxRecDepth 20000 in
theorem vc_X9_invariant_136 (l : Int) (M : ab_M) (K : List ab_V → ab_M → Prop) (hS : (pz_PR M ∧ (0 ≤ M 797 6 ∧ M 797 6 ≤ 120) ∧ (∀ k : Nat, (k : Int) < M 797 6 → 0 ≤ M 802 k ∧ M 802 k < 256) ∧ (0 ≤ M 797 2 ∧ M 797 2 ≤ 6) ∧ (∀ E, pz_read (pz_now M) = .inr E → pz_IB (pz_now M) E) ∧ ab_ir l) ∧ (∀ rx : Int, ∀ Mx : ab_M, (pz_IV M Mx l rx) → K [Xi rx] Mx)) (n : Nat) (l0 : Int) (fr : Int) (wa : Int) (its : Int) (w5 : Int) (mo : Int) (al : Int) (k : Int) (M1 : ab_M) (hI : n = 2000 + (M 798 640 - fr - wa - k).toNat ∧ 0 ≤ k ∧ k ≤ M 798 640 - fr - wa ∧ mo = its - wa ∧ al = M 798 640 ∧ pz_w136 M l fr wa its ∧ pz_s136 M M1 fr wa its k) : (ab_ir k ∧ ab_ir ((al - fr) - wa)) ∧ ((((al - fr) - wa) ≤ k → (∃ n', n' < n ∧ ((n' = (its - (0 : Int)).toNat ∧ 0 ≤ (0 : Int) ∧ (0 : Int) ≤ its ∧ mo = its - wa ∧ al = M 798 640 ∧ pz_w136 M l fr wa its ∧ pz_s200 M M1 fr wa its (0 : Int))))) ∧ (k < ((al - fr) - wa) → (ab_ir mo) ∧ ((mo ≤ 0 → (0 ≤ (((fr + its) + k) - mo) ∧ (((fr + its) + k) - mo) < ((641 : Nat) : Int)) ∧ (0 ≤ ((fr + its) + k) ∧ ((fr + its) + k) < ((641 : Nat) : Int)) ∧ (∃ n', n' < n ∧ ((n' = 2000 + (M 798 640 - fr - wa - (k + 1)).toNat ∧ 0 ≤ (k + 1) ∧ (k + 1) ≤ M 798 640 - fr - wa ∧ mo = its - wa ∧ al = M 798 640 ∧ pz_w136 M l fr wa its ∧ pz_s136 M (ab_up M1 798 (((fr + its) + k).toNat) (M1 798 ((((fr + its) + k) - mo).toNat))) fr wa its (k + 1))))) ∧ (0 < mo → (0 ≤ ((((al + mo) - (1 : Int)) - k) - mo) ∧ ((((al + mo) - (1 : Int)) - k) - mo) < ((641 : Nat) : Int)) ∧ (0 ≤ (((al + mo) - (1 : Int)) - k) ∧ (((al + mo) - (1 : Int)) - k) < ((641 : Nat) : Int)) ∧ (∃ n', n' < n ∧ ((n' = 2000 + (M 798 640 - fr - wa - (k + 1)).toNat ∧ 0 ≤ (k + 1) ∧ (k + 1) ≤ M 798 640 - fr - wa ∧ mo = its - wa ∧ al = M 798 640 ∧ pz_w136 M l fr wa its ∧ pz_s136 M (ab_up M1 798 ((((al + mo) - (1 : Int)) - k).toNat) (M1 798 (((((al + mo) - (1 : Int)) - k) - mo).toNat))) fr wa its (k + 1)))))))) := by
  obtain ⟨hn, h0, h1, hmo, hal, hw, hs⟩ := hI
  obtain ⟨⟨g1, g2, g3, g4, g5, g6⟩, gK⟩ := hS
  have hb : 0 ≤ fr ∧ 0 ≤ wa ∧ fr + wa ≤ M 798 640 ∧ M 798 640 - wa + 120 ≤ 640 ∧ 0 ≤ its ∧ its ≤ 120 := by
    obtain ⟨E, hE, e, hl, he, w1, w2, w3, w4, w5, w6, w7, w8, w9⟩ := hw
    exact ⟨w4, w5, w6, w7, w8, w9⟩
  have hNG := g1.1.2.1
  refine And.intro (by
    first
      | omega
      | (simp [ab_up_a]; done)
      | (simp [ab_up_a]; omega)) ?_
  refine ⟨?_, ?_⟩
  · intro c144
    refine ⟨_, ?_, rfl, by omega, by omega, hmo, hal, hw, hs.fin hb (by omega)⟩
    omega
  · intro c144
    refine And.intro (by
      first
        | omega
        | (simp [ab_up_a]; done)
        | (simp [ab_up_a]; omega)) ?_
    refine ⟨?_, ?_⟩
    · intro c149
      refine And.intro (by
        first
          | omega
          | (simp [ab_up_a]; done)
          | (simp [ab_up_a]; omega)) ?_
      refine And.intro (by
        first
          | omega
          | (simp [ab_up_a]; done)
          | (simp [ab_up_a]; omega)) ?_
      refine ⟨_, ?_, rfl, by omega, by omega, hmo, hal, hw, ?_⟩
      · omega
      · rw [hmo]
        exact hs.step hb ⟨h0, by omega⟩ (by first | (rw [if_pos (by omega)]; omega) | (rw [if_neg (by omega)]; done))
    · intro c149
      refine And.intro (by
        first
          | omega
          | (simp [ab_up_a]; done)
          | (simp [ab_up_a]; omega)) ?_
      refine And.intro (by
        first
          | omega
          | (simp [ab_up_a]; done)
          | (simp [ab_up_a]; omega)) ?_
      refine ⟨_, ?_, rfl, by omega, by omega, hmo, hal, hw, ?_⟩
      · omega
      · rw [hmo]
        exact hs.step hb ⟨h0, by omega⟩ (by first | (rw [if_pos (by omega)]; omega) | (rw [if_neg (by omega)]; done))

set_option maxRecDepth 20000 in
theorem vc_X9_invariant_200 (l : Int) (M : ab_M) (K : List ab_V → ab_M → Prop) (hS : (pz_PR M ∧ (0 ≤ M 797 6 ∧ M 797 6 ≤ 120) ∧ (∀ k : Nat, (k : Int) < M 797 6 → 0 ≤ M 802 k ∧ M 802 k < 256) ∧ (0 ≤ M 797 2 ∧ M 797 2 ≤ 6) ∧ (∀ E, pz_read (pz_now M) = .inr E → pz_IB (pz_now M) E) ∧ ab_ir l) ∧ (∀ rx : Int, ∀ Mx : ab_M, (pz_IV M Mx l rx) → K [Xi rx] Mx)) (n : Nat) (l0 : Int) (fr : Int) (wa : Int) (its : Int) (w5 : Int) (mo : Int) (al : Int) (k : Int) (M1 : ab_M) (hI : n = (its - k).toNat ∧ 0 ≤ k ∧ k ≤ its ∧ mo = its - wa ∧ al = M 798 640 ∧ pz_w136 M l fr wa its ∧ pz_s200 M M1 fr wa its k) : (ab_ir k ∧ ab_ir its) ∧ ((its ≤ k → (-32768 ≤ (640 : Int) ∧ (640 : Int) < 32768) ∧ (0 ≤ (640 : Int) ∧ (640 : Int) < ((641 : Nat) : Int)) ∧ K [Xi its] (ab_up (ab_up M1 798 640 (al + mo)) 797 6 (0 : Int))) ∧ (k < its → (0 ≤ k ∧ k < ((640 : Nat) : Int)) ∧ (0 ≤ (fr + k) ∧ (fr + k) < ((641 : Nat) : Int)) ∧ (∃ n', n' < n ∧ ((n' = (its - (k + 1)).toNat ∧ 0 ≤ (k + 1) ∧ (k + 1) ≤ its ∧ mo = its - wa ∧ al = M 798 640 ∧ pz_w136 M l fr wa its ∧ pz_s200 M (ab_up M1 798 ((fr + k).toNat) (M1 803 k.toNat)) fr wa its (k + 1)))))) := by
  obtain ⟨hn, h0, h1, hmo, hal, hw, hs⟩ := hI
  obtain ⟨⟨g1, g2, g3, g4, g5, g6⟩, gK⟩ := hS
  have hb : 0 ≤ fr ∧ 0 ≤ wa ∧ fr + wa ≤ M 798 640 ∧ M 798 640 - wa + 120 ≤ 640 ∧ 0 ≤ its ∧ its ≤ 120 := by
    obtain ⟨E, hE, e, hl, he, w1, w2, w3, w4, w5, w6, w7, w8, w9⟩ := hw
    exact ⟨w4, w5, w6, w7, w8, w9⟩
  have hNG := g1.1.2.1
  refine And.intro (by
    first
      | omega
      | (simp [ab_up_a]; done)
      | (simp [ab_up_a]; omega)) ?_
  refine ⟨?_, ?_⟩
  · intro c204
    refine And.intro (by
      first
        | omega
        | (simp [ab_up_a]; done)
        | (simp [ab_up_a]; omega)) ?_
    refine And.intro (by
      first
        | omega
        | (simp [ab_up_a]; done)
        | (simp [ab_up_a]; omega)) ?_
    rw [hmo, hal]
    exact gK _ _ (hs.fin hw g1.1 (by omega))
  · intro c204
    refine And.intro (by
      first
        | omega
        | (simp [ab_up_a]; done)
        | (simp [ab_up_a]; omega)) ?_
    refine And.intro (by
      first
        | omega
        | (simp [ab_up_a]; done)
        | (simp [ab_up_a]; omega)) ?_
    refine ⟨_, ?_, rfl, by omega, by omega, hmo, hal, hw, hs.step ⟨hb.1, hb.2.2.2.2.1⟩ ⟨h0, by omega⟩⟩
    omega

set_option maxRecDepth 20000 in
set_option maxHeartbeats 1000000 in
theorem ok_X9_invariant (E : ab_E) : ab_Ok E 8 146 S_X9_invariant := by
  refine ab_mk rq_X9_invariant tk_X9_invariant (rt := 1) (rfl) (cuts := [136, 200]) (G := [(139, S_X9_forgetAll), (145, S_X9_in), (163, S_X9_must), (164, S_X9_note), (170, S_X9_read), (177, S_X9_readTerm), (184, S_X9_takeText)]) (List.forall_mem_cons.mpr ⟨⟨1, by decide, ok_X9_forgetAll E⟩, List.forall_mem_cons.mpr ⟨⟨1, by decide, ok_X9_in E⟩, List.forall_mem_cons.mpr ⟨⟨1, by decide, ok_X9_must E⟩, List.forall_mem_cons.mpr ⟨⟨1, by decide, ok_X9_note E⟩, List.forall_mem_cons.mpr ⟨⟨7, by decide, ok_X9_read E⟩, List.forall_mem_cons.mpr ⟨⟨3, by decide, ok_X9_readTerm E⟩, List.forall_mem_cons.mpr ⟨⟨1, by decide, ok_X9_takeText E⟩, fun _ h => absurd h List.not_mem_nil⟩⟩⟩⟩⟩⟩⟩) (by decide) 191 rfl ?_
  intro a M K wd wa hS
  unfold S_X9_invariant at hS
  split at hS
  ·
    rename_i l
    refine ⟨Nat.le_of_ble_eq_true rfl, fun pc n L st M1 => match pc, L, st with
      | 136, [.inr (.inr (.inr (797, 9, 0))), .inr (.inl l0), .inr (.inl fr), .inr (.inl wa), .inr (.inl its), .inr (.inl w5), .inr (.inl mo), .inr (.inl al), .inr (.inl k), u10_], [] => (n = 2000 + (M 798 640 - fr - wa - k).toNat ∧ 0 ≤ k ∧ k ≤ M 798 640 - fr - wa ∧ mo = its - wa ∧ al = M 798 640 ∧ pz_w136 M l fr wa its ∧ pz_s136 M M1 fr wa its k)
      | 200, [.inr (.inr (.inr (797, 9, 0))), .inr (.inl l0), .inr (.inl fr), .inr (.inl wa), .inr (.inl its), .inr (.inl w5), .inr (.inl mo), .inr (.inl al), .inr (.inl k), u10_], [] => (n = (its - k).toNat ∧ 0 ≤ k ∧ k ≤ its ∧ mo = its - wa ∧ al = M 798 640 ∧ pz_w136 M l fr wa its ∧ pz_s200 M M1 fr wa its k)
      | _, _, _ => False, ?_, ?_⟩
    · exact vc_X9_invariant_0 l M K  hS
    · intro pc n L st M1 hI wd1 wL wst
      (try dsimp only at hI)
      split at hI
      ·
        rename_i l0 fr wa its w5 mo al k u10_
        exact vc_X9_invariant_136 l M K  hS n l0 fr wa its w5 mo al k _ hI
      ·
        rename_i l0 fr wa its w5 mo al k u10_
        exact vc_X9_invariant_200 l M K  hS n l0 fr wa its w5 mo al k _ hI
      · exact hI.elim
  · exact hS.elim
