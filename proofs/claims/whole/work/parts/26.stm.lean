/-! the reference reads a statement -/
theorem pz_lar_la {M : ab_M} (h : pz_RI M) : pz_lar M (M 797 27).toNat = ((pz_la (pz_E M) (pz_op M) : Nat) : Int) := by
  obtain ⟨⟨a1, a2, a3, a4⟩, b, c, d, f, g⟩ := h
  have key : ∀ k : Nat, (k : Int) ≤ M 797 27 → pz_lar M k = (((((List.range k).map (fun i => (M 815 i).toNat)).filter (fun e => decide (((pz_E M).getD e pz_d0).2.1 = 2))).length : Nat) : Int) := by
    intro k
    induction k with
    | zero => intro _; rfl
    | succ k ih =>
      intro hk
      obtain ⟨q1, q2, q3⟩ := f k (by omega)
      rw [List.range_succ, List.map_append, List.filter_append, List.length_append, pz_lar, ih (by omega)]
      have e1 : ((pz_E M).getD (M 815 k).toNat pz_d0).2.1 = M 806 (M 815 k).toNat := by
        rw [pz_E_getD M (by omega)]
        unfold pz_ev
        rw [q3, if_neg (by decide)]
      by_cases hv : M 806 (M 815 k).toNat = 2
      · rw [if_pos hv, List.map_singleton, List.filter_cons_of_pos (by show decide (((pz_E M).getD (M 815 k).toNat pz_d0).2.1 = 2) = true; rw [e1, hv]; rfl), List.filter_nil]
        rfl
      · rw [if_neg hv, List.map_singleton, List.filter_cons_of_neg (by show ¬ decide (((pz_E M).getD (M 815 k).toNat pz_d0).2.1 = 2) = true; rw [e1]; simpa using hv), List.filter_nil]
        rfl
  rw [key _ (by omega)]
  unfold pz_la pz_op
  rw [List.filter_reverse, List.length_reverse]
/-- all cells that the reader doesn't write stay -/
def pz_pf (M M' : ab_M) : Prop := (∀ o k, o ≠ 797 → ¬ (805 ≤ o ∧ o ≤ 815) → M' o k = M o k) ∧ ∀ k, k ≠ 10 → k ≠ 19 → k ≠ 20 → k ≠ 21 → k ≠ 24 → k ≠ 25 → k ≠ 27 → M' 797 k = M 797 k
theorem pz_pf.rf (M : ab_M) : pz_pf M M := ⟨fun _ _ _ _ => rfl, fun _ _ _ _ _ _ _ _ => rfl⟩
theorem pz_pf.tr {A B C : ab_M} (h : pz_pf A B) (h2 : pz_pf B C) : pz_pf A C := ⟨fun o k a b => (h2.1 o k a b).trans (h.1 o k a b), fun k a b c d e f g => (h2.2 k a b c d e f g).trans (h.2 k a b c d e f g)⟩
theorem pz_pf.L {M M' : ab_M} (h : pz_pf M M') : pz_L M' = pz_L M := by
  unfold pz_L
  rw [h.2 9 (by decide) (by decide) (by decide) (by decide) (by decide) (by decide) (by decide)]
  exact pz_ls_congr fun j _ => h.1 803 j (by decide) (by omega)
theorem pz_pf.LS {M M' : ab_M} (h : pz_pf M M') (hl : pz_LS M) (h1 : 0 ≤ M' 797 24) (h2 : M' 797 24 ≤ M 797 9) : pz_LS M' := by
  obtain ⟨a, b, c, d, g⟩ := hl
  have e := h.2 9 (by decide) (by decide) (by decide) (by decide) (by decide) (by decide) (by decide)
  exact ⟨by rw [e]; exact a, by rw [e]; exact b, fun j => by rw [h.1 803 j (by decide) (by omega)]; exact c j, h1, by rw [e]; exact h2⟩
theorem pz_fr.pf {M M' : ab_M} (h : pz_fr M M') : pz_pf M M' := ⟨fun o k a b => h o k (by omega), fun k a b c d e f g => h 797 k (by omega)⟩
theorem pz_f5.pf {M M' : ab_M} {e : Nat} (h : pz_f5 M M' e) : pz_pf M M' := ⟨fun o k a b => h o k (by omega) (by omega), fun k a b c d e f g => h 797 k (by omega) (by omega)⟩
theorem pz_opn_pf (M : ab_M) (w i : Int) : pz_pf M (pz_opn M w i) := by
  refine ⟨fun o k a b => ?_, fun k a b c d e f g => ?_⟩
  · unfold pz_opn
    simp only [ab_up_a]
    rw [if_neg (by omega), if_neg (by omega), if_neg (by omega), if_neg (by omega), if_neg (by omega), if_neg (by omega), if_neg (by omega)]
  · unfold pz_opn
    simp only [ab_up_a]
    rw [if_neg (by omega), if_neg (by omega), if_neg (by omega), if_neg (by omega), if_neg (by omega), if_neg (by omega), if_neg (by omega)]
theorem pz_ro_pf (M : ab_M) (w i : Int) : pz_pf M (pz_ro M w i) := by
  unfold pz_ro
  split
  · split
    · exact pz_opn_pf M w i
    · exact ⟨fun o k a b => ab_up_o (by omega) k, fun k a b c d e f g => ab_up_k f _⟩
  · exact pz_pf.rf M
/-- a statement has been noted, its rest isn't read yet -/
def pz_P3 (M M3 : ab_M) (its v0 : Int) : Prop := pz_pf M M3 ∧
  (M3 797 10 = M 797 10 + 1 ∧ M3 797 19 = M 797 19 + 1 ∧ M3 797 24 = M 797 24 + 1 ∧ M3 797 25 = -9 ∧ M3 797 27 = M 797 27) ∧
  (M3 805 (M 797 10).toNat = its ∧ M3 806 (M 797 10).toNat = v0 ∧ M3 811 (M 797 10).toNat = M 797 20) ∧
  (∀ (e o : Nat), (e : Int) < M 797 10 → 805 ≤ o → o ≤ 812 → M3 o e = M o e) ∧ (∀ k, M3 815 k = M 815 k) ∧
  (M3 797 20 = M 797 20 + pz_nck its ∧ ∀ (k : Nat) (v : Int), (pz_kds (pz_E M) ++ pz_kd (its, 0, 0, 0, 0, 0, 0, 0))[k]? = some v → M3 813 k = v) ∧
  (M3 797 21 = M 797 21 + (if its = 7 then 1 else 0) ∧ ∀ (l e : Nat), (pz_lps (pz_E M) ++ if its = 7 then [(pz_E M).length] else [])[l]? = some e → M3 814 l = (e : Int))
theorem pz_kd_len (its : Int) : (((pz_kd (its, 0, 0, 0, 0, 0, 0, 0)).length : Nat) : Int) = pz_nck its := by
  unfold pz_kd pz_nck
  by_cases a : its = 2
  · simp [a]
  · by_cases b : its = 5
    · simp [b]
    · by_cases c : its = 7
      · simp [c]
      · simp [a, b, c]
theorem pz_kd_s (its a b c d e f g : Int) : pz_kd (its, a, b, c, d, e, f, g) = pz_kd (its, 0, 0, 0, 0, 0, 0, 0) := rfl
/-- its rest is read, without fault -/
theorem pz_c105_ok {M M3 N : ab_M} {its v0 : Int} (h : pz_RI M) (hm : (((pz_kds (pz_E M)).length : Nat) : Int) + pz_nck its ≤ 16 ∧ (its = 7 → (((pz_lps (pz_E M)).length : Nat) : Int) < 4)) (h1 : M 797 10 < 400) (h3 : pz_P3 M M3 its v0) (hits : 0 ≤ its ∧ its ≤ 8) (hc : pz_c105 M3 N (M 797 10) its) (hv : 0 ≤ N 806 (M 797 10).toNat ∧ N 806 (M 797 10).toNat ≤ 4) :
    pz_E N = pz_E M ++ [(its, (pz_n2 (pz_L M) its v0 (M 797 24 + 1)).1, (pz_n1 (pz_L M) its v0 (M 797 24 + 1)).2.1, (pz_t1 (pz_L M) its v0 (M 797 24 + 1)).1, (pz_n2 (pz_L M) its v0 (M 797 24 + 1)).2.1, (pz_t2 (pz_L M) its v0 (M 797 24 + 1)).1, (((pz_kds (pz_E M)).length : Nat) : Int), 0)] ∧ pz_op N = pz_op M ∧ pz_RI N := by
  obtain ⟨⟨a1, a2, a3, a4⟩, b, ⟨c1, c2, c3⟩, ⟨d1, d2, d3⟩, f, g⟩ := h
  obtain ⟨p0, ⟨p1, p2, p3, p4, p5⟩, ⟨p6, p7, p8⟩, p9, p10, ⟨p11, p12⟩, ⟨p13, p14⟩⟩ := h3
  obtain ⟨f5, -, q1, q2, q3, q4, q5, q6, q7⟩ := hc
  rw [p0.L, p7, p3] at q1 q2 q3 q4 q5
  have r10 : N 797 10 = M 797 10 + 1 := by rw [f5 797 10 (by omega) (by omega), p1]
  have r27 : N 797 27 = M 797 27 := by rw [f5 797 27 (by omega) (by omega), p5]
  have rrow : ∀ (e o : Nat), (e : Int) < M 797 10 → 805 ≤ o → o ≤ 812 → N o e = M o e := fun e o he x y => by
    rw [f5 o e (by omega) (by omega), p9 e o he x y]
  have r802 : ∀ k, N 815 k = M 815 k := fun k => by rw [f5 815 k (by omega) (by omega), p10]
  have n792 : N 805 (M 797 10).toNat = its := by rw [f5 805 _ (by omega) (by omega), p6]
  have n798 : N 811 (M 797 10).toNat = M 797 20 := by rw [f5 811 _ (by omega) (by omega), p8]
  have hev : pz_ev N (M 797 10).toNat = (its, (pz_n2 (pz_L M) its v0 (M 797 24 + 1)).1, (pz_n1 (pz_L M) its v0 (M 797 24 + 1)).2.1, (pz_t1 (pz_L M) its v0 (M 797 24 + 1)).1, (pz_n2 (pz_L M) its v0 (M 797 24 + 1)).2.1, (pz_t2 (pz_L M) its v0 (M 797 24 + 1)).1, (((pz_kds (pz_E M)).length : Nat) : Int), 0) := by
    unfold pz_ev
    rw [n792, if_pos hits.2, q1, q2, q3, q4, q5, n798, c1]
  have hE := pz_E_app a1 r10 rrow
  rw [hev] at hE
  refine ⟨hE, pz_op_same r27 (fun i _ => r802 i), ⟨by omega, by omega, by omega, by omega⟩, ?_, ⟨?_, ?_, ?_⟩, ⟨?_, ?_, ?_⟩, ?_, ?_⟩
  · rw [hE, pz_nS_app, f5 797 19 (by omega) (by omega), p2, b]
    show _ = ((_ + (if its ≤ 8 then 1 else 0) : Nat) : Int)
    rw [if_pos hits.2]
    omega
  · rw [hE, pz_kds_app, f5 797 20 (by omega) (by omega), p11, c1, List.length_append, pz_kd_s]
    have := pz_kd_len its
    omega
  · rw [hE, pz_kds_app, List.length_append, pz_kd_s]
    have := pz_kd_len its
    omega
  · intro k v hk
    rw [hE, pz_kds_app, pz_kd_s] at hk
    rw [f5 813 k (by omega) (by omega)]
    exact p12 k v hk
  · rw [hE, pz_lps_app, f5 797 21 (by omega) (by omega), p13, d1, List.length_append]
    show _ = ((_ + (if its = 7 then [(pz_E M).length] else []).length : Nat) : Int)
    by_cases h7 : its = 7
    · rw [if_pos h7, if_pos h7]; simp
    · rw [if_neg h7, if_neg h7]; simp
  · rw [hE, pz_lps_app, List.length_append]
    show _ + (if its = 7 then [(pz_E M).length] else []).length ≤ 4
    by_cases h7 : its = 7
    · rw [if_pos h7]
      have := hm.2 h7
      simp
      omega
    · rw [if_neg h7]
      simpa using d2
  · intro l e hl
    rw [hE, pz_lps_app] at hl
    rw [f5 814 l (by omega) (by omega)]
    exact p14 l e hl
  · intro i hi
    rw [r27] at hi
    obtain ⟨x1, x2, x3⟩ := f i hi
    rw [r802, r10, rrow _ _ (by omega) (by omega) (by omega)]
    exact ⟨x1, by omega, x3⟩
  · intro e he
    rw [r10] at he
    by_cases hee : e = (M 797 10).toNat
    · subst hee
      rw [n792]
      exact ⟨hits.1, by omega, hv.1, hv.2, fun q => by omega⟩
    · rw [rrow e 805 (by omega) (by omega) (by omega), rrow e 806 (by omega) (by omega) (by omega), rrow e 812 (by omega) (by omega) (by omega), r10]
      obtain ⟨x1, x2, x3, x4, x5⟩ := g e (by omega)
      exact ⟨x1, x2, x3, x4, fun h => ⟨(x5 h).1, by have := (x5 h).2; omega⟩⟩

