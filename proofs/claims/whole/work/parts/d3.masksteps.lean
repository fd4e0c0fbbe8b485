/-! steps to the masks -/
def re_N (M1 : ab_M) (j : Nat) : Int := if (j : Int) < 256 * M1 797 33 then M1 825 j else 0
/-- while the masks grow -/
def re_I (M3 M1 : ab_M) : Prop := (∀ o k : Nat, o ≠ 825 → M1 o k = M3 o k) ∧ gx_ok (re_S M3) (re_O M3) (re_N M1)
theorem ab_or_ir (x y : Int) : ab_ir (ab_or x y) := ⟨Int32.le_toInt _, Int32.toInt_lt _⟩
theorem ab_shl_ir (x y : Int) : ab_ir (ab_shl x y) := ⟨Int32.le_toInt _, Int32.toInt_lt _⟩
theorem ab_or_0 {x : Int} (h : ab_ir x) : ab_or x 0 = x := pz_b_ext (ab_or_ir _ _) h fun b _ => by rw [pz_b_or, pz_b_0, Bool.or_false]
theorem re_sw {M : ab_M} (hK : re_K M) {row s y : Int} (hr : 0 ≤ row ∧ row < M 797 33) (hs : 0 ≤ s ∧ s < 256) (h1 : M 818 row.toNat ≤ 1) (hy : 0 ≤ y ∧ y ≤ 3) : 0 ≤ pz_sw s (M 819 row.toNat) y ∧ pz_sw s (M 819 row.toNat) y < 256 := by
  obtain ⟨⟨-, gk⟩, -⟩ := hK
  exact pz_sw_rng hs ((gk row.toNat (by omega)).2.1 h1) hy
/-- the value of a row speaks of masks in range alone -/
theorem cf_eq {M1 M3 : ab_M} (h : ∀ o k : Nat, o ≠ 825 → M1 o k = M3 o k) {r s : Int} (hr : -1 ≤ r ∧ r ≤ M3 797 33) (hs : 0 ≤ s ∧ s < 256) (hi : gx_ok (re_S M3) (re_O M3) (re_N M1)) : cf_v M1 r s = cf_v (re_M M3 (re_N M1)) r s ∧ ab_ir (cf_v M1 r s) := by
  have e33 : re_M M3 (re_N M1) 797 33 = M3 797 33 := rfl
  have f33 : M1 797 33 = M3 797 33 := h _ _ (by decide)
  unfold cf_v
  rw [e33, f33]
  by_cases c : r = M3 797 33
  · rw [if_pos c, if_pos c]; exact ⟨rfl, by decide, by decide⟩
  · rw [if_neg c, if_neg c]
    by_cases d : r = -1
    · rw [if_pos d, if_pos d]; exact ⟨rfl, by decide, by decide⟩
    · rw [if_neg d, if_neg d]
      have e : re_M M3 (re_N M1) 825 (256 * r + s).toNat = M1 825 (256 * r + s).toNat := by
        show (if (825 : Nat) = 825 then re_N M1 (256 * r + s).toNat else _) = _
        rw [if_pos rfl]
        unfold re_N
        rw [if_pos (by rw [f33]; omega)]
      rw [e]
      refine ⟨rfl, ?_⟩
      have := hi.2.2 (256 * r + s).toNat
      unfold re_N at this
      rw [if_pos (by rw [f33]; omega)] at this
      exact this
theorem cb_eq {M1 M3 : ab_M} (hK : re_K M3) (hI : re_I M3 M1) {row s : Int} (hr : 0 ≤ row ∧ row < M3 797 33) (hs : 0 ≤ s ∧ s < 256) : cb_v M1 row s = re_v M3 (re_N M1) (256 * row + s).toNat := by
  obtain ⟨h, hi⟩ := hI
  have ej : (256 * row + s).toNat / 256 = row.toNat := by omega
  have em : (((256 * row + s).toNat % 256 : Nat) : Int) = s := by omega
  have er : ((row.toNat : Nat) : Int) = row := by omega
  unfold re_v
  rw [ej, em, er]
  obtain ⟨k1, k2, k3, k4⟩ := hK.1.2 row.toNat (by omega)
  have k5 := k4 s.toNat (by omega)
  rw [show 256 * row.toNat + s.toNat = (256 * row + s).toNat by omega] at k5
  have f : ∀ o k : Nat, o ≠ 825 → re_M M3 (re_N M1) o k = M3 o k := fun o k z => if_neg z
  have hn : ∀ s', 0 ≤ s' ∧ s' < 256 → cf_v M1 (row + 1) s' = cf_v (re_M M3 (re_N M1)) (row + 1) s' ∧ ab_ir (cf_v M1 (row + 1) s') := fun s' z => cf_eq h (by omega) z hi
  unfold cb_v
  rw [h 818 _ (by decide), h 819 _ (by decide), h 820 _ (by decide), h 822 _ (by decide), f 818 _ (by decide), f 819 _ (by decide), f 820 _ (by decide), f 822 _ (by decide)]
  by_cases z0 : M3 818 row.toNat = 0
  · rw [if_pos z0, if_pos z0]
    obtain ⟨a1, a2⟩ := hn _ (re_sw hK hr hs (by omega) (k5 (by omega) (by omega) (by omega)))
    rw [← a1, ab_or_0 a2]
  · rw [if_neg z0, if_neg z0]
    by_cases z1 : M3 818 row.toNat = 1
    · rw [if_pos z1, if_pos z1, (hn _ (re_sw hK hr hs (by omega) (y := 0) (by decide))).1, (hn _ (re_sw hK hr hs (by omega) (y := 1) (by decide))).1, (hn _ (re_sw hK hr hs (by omega) (y := 2) (by decide))).1, (hn _ (re_sw hK hr hs (by omega) (y := 3) (by decide))).1, ab_or_0 (ab_or_ir _ _)]
    · rw [if_neg z1, if_neg z1]
      by_cases z2 : M3 818 row.toNat = 2
      · rw [if_pos z2, if_pos z2]
        by_cases z9 : M3 822 (256 * row + s).toNat = 0
        · rw [if_pos z9, if_pos z9, ab_or_0 (ab_shl_ir _ _)]
        · rw [if_neg z9, if_neg z9]
          obtain ⟨a1, a2⟩ := hn s hs
          rw [← a1, ab_or_0 a2]
      · rw [if_neg z2, if_neg z2]
        by_cases z3 : M3 818 row.toNat = 3
        · rw [if_pos z3, if_pos z3]
          by_cases z9 : M3 822 (256 * row + s).toNat = 0
          · rw [if_pos z9, if_pos z9]; rfl
          · rw [if_neg z9, if_neg z9]
            obtain ⟨a1, a2⟩ := hn s hs
            rw [← a1, ab_or_0 a2]
        · rw [if_neg z3, if_neg z3]
          by_cases z4 : M3 818 row.toNat = 4
          · rw [if_pos z4, if_pos z4]
            by_cases z9 : M3 822 (256 * row + s).toNat = 0
            · rw [if_pos z9, if_pos z9]
              have y := k3 (Or.inl z4)
              obtain ⟨a1, a2⟩ := cf_eq h (r := M3 820 row.toNat) (by have := hK.1.1.1; omega) hs hi
              rw [← a1, ab_or_0 a2]
            · rw [if_neg z9, if_neg z9]
              obtain ⟨a1, a2⟩ := hn s hs
              rw [← a1, ab_or_0 a2]
          · rw [if_neg z4, if_neg z4]
            by_cases z5 : M3 818 row.toNat = 5
            · rw [if_pos z5, if_pos z5]
              have y := k3 (Or.inr z5)
              obtain ⟨a1, a2⟩ := cf_eq h (r := M3 820 row.toNat) (by have := hK.1.1.1; omega) hs hi
              rw [← a1, ab_or_0 a2]
            · rw [if_neg z5, if_neg z5]; rfl
/-- a mask is found anew -/
theorem re_I.next {M1 M3 : ab_M} (hK : re_K M3) (hI : re_I M3 M1) {row s : Int} (hr : 0 ≤ row ∧ row < M3 797 33) (hs : 0 ≤ s ∧ s < 256) : re_I M3 (ab_up M1 825 (256 * row + s).toNat (cb_v M1 row s)) ∧ (∀ i b, b < 32 → pz_b (re_N M1 i) b = true → pz_b (re_N (ab_up M1 825 (256 * row + s).toNat (cb_v M1 row s)) i) b = true) ∧ ∀ i, re_N (ab_up M1 825 (256 * row + s).toNat (cb_v M1 row s)) i = if i = (256 * row + s).toNat then re_v M3 (re_N M1) (256 * row + s).toNat else re_N M1 i := by
  have f33 : M1 797 33 = M3 797 33 := hI.1 _ _ (by decide)
  have hv : gx_v (re_S M3) (re_O M3) (re_v M3) (256 * row + s).toNat := re_gxv hK (by omega)
  have hN : ∀ i, re_N (ab_up M1 825 (256 * row + s).toNat (cb_v M1 row s)) i = if i = (256 * row + s).toNat then re_v M3 (re_N M1) (256 * row + s).toNat else re_N M1 i := fun i => by
    unfold re_N
    rw [ab_up_o (by decide)]
    by_cases c : i = (256 * row + s).toNat
    · rw [if_pos c, c, ab_up_s, if_pos (by rw [f33]; omega)]
      exact cb_eq hK hI hr hs
    · rw [if_neg c, ab_up_k c]
  have hu : re_N (ab_up M1 825 (256 * row + s).toNat (cb_v M1 row s)) = gx_u (re_v M3) (re_N M1) (256 * row + s).toNat := funext hN
  refine ⟨⟨fun o k z => ?_, ?_⟩, fun i b hb q => ?_, hN⟩
  · rw [ab_up_o z]; exact hI.1 o k z
  · rw [hu]; exact gx_u_ok hI.2 hv
  · rw [hu]; exact gx_u_up hI.2 hv i b hb q
/-- the start -/
theorem re_I.start {M1 M3 : ab_M} (h : ∀ o k : Nat, o ≠ 825 → M1 o k = M3 o k) (h0 : ∀ j : Nat, (j : Int) < 256 * M1 797 33 → M1 825 j = 0) : re_I M3 M1 := by
  have hN : ∀ j, re_N M1 j = 0 := fun j => by
    unfold re_N
    split
    · exact h0 j (by assumption)
    · rfl
  refine ⟨h, fun j b hb q => ?_, fun j b hb q => ?_, fun j => ?_⟩
  · rw [hN, pz_b_0] at q; cases q
  · rw [hN, pz_b_0] at q; cases q
  · rw [hN]; exact ⟨by decide, by decide⟩
theorem re_S_rng {M : ab_M} (hK : re_K M) {j : Nat} (hj : (j : Int) < 256 * M 797 33) {q : Int} (hq : q ∈ re_S M j) : 0 ≤ q ∧ q < 256 * M 797 33 := by
  obtain ⟨p, hp, e⟩ := List.mem_filterMap.1 hq
  by_cases c : p.1 = M 797 33 ∨ p.1 = -1
  · rw [if_pos c] at e; cases e
  · rw [if_neg c] at e
    cases e
    have c1 : ¬ p.1 = M 797 33 := fun z => c (Or.inl z)
    have c2 : ¬ p.1 = -1 := fun z => c (Or.inr z)
    obtain ⟨k1, k2, k3, k4⟩ := hK.1.2 (j / 256) (by omega)
    have k5 := k4 (j % 256) (by omega)
    rw [show 256 * (j / 256) + j % 256 = j by omega] at k5
    have sw := fun (y : Int) (h1 : M 818 (j / 256) ≤ 1) (hy : 0 ≤ y ∧ y ≤ 3) => pz_sw_rng (s := ((j % 256 : Nat) : Int)) (v := M 819 (j / 256)) (y := y) (by omega) (k2 h1) hy
    have key : (-1 ≤ p.1 ∧ p.1 ≤ M 797 33) ∧ 0 ≤ p.2 ∧ p.2 < 256 := by
      unfold re_p at hp
      split at hp
      · rw [List.mem_singleton.1 hp]
        exact ⟨⟨by show -1 ≤ ((j / 256 + 1 : Nat) : Int); omega, by show ((j / 256 + 1 : Nat) : Int) ≤ _; omega⟩, sw _ (by omega) (k5 (by omega) (by omega) (by omega))⟩
      · split at hp
        · have hb : ∀ y : Int, 0 ≤ y ∧ y ≤ 3 → p = (((j / 256 + 1 : Nat) : Int), pz_sw ((j % 256 : Nat) : Int) (M 819 (j / 256)) y) → (-1 ≤ p.1 ∧ p.1 ≤ M 797 33) ∧ 0 ≤ p.2 ∧ p.2 < 256 := fun y hy z => by
            rw [z]
            exact ⟨⟨by show -1 ≤ ((j / 256 + 1 : Nat) : Int); omega, by show ((j / 256 + 1 : Nat) : Int) ≤ _; omega⟩, sw _ (by omega) hy⟩
          rcases List.mem_cons.1 hp with z | hp
          · exact hb 0 (by decide) z
          · rcases List.mem_cons.1 hp with z | hp
            · exact hb 1 (by decide) z
            · rcases List.mem_cons.1 hp with z | hp
              · exact hb 2 (by decide) z
              · exact hb 3 (by decide) (List.mem_singleton.1 hp)
        · split at hp
          · split at hp
            · cases hp
            · rw [List.mem_singleton.1 hp]
              exact ⟨⟨by show -1 ≤ ((j / 256 + 1 : Nat) : Int); omega, by show ((j / 256 + 1 : Nat) : Int) ≤ _; omega⟩, by show 0 ≤ ((j % 256 : Nat) : Int); omega, by show ((j % 256 : Nat) : Int) < 256; omega⟩
          · split at hp
            · have y := k3 (Or.inl (by assumption))
              have g0 := hK.1.1.1
              rw [List.mem_singleton.1 hp]
              refine ⟨?_, by show 0 ≤ ((j % 256 : Nat) : Int); omega, by show ((j % 256 : Nat) : Int) < 256; omega⟩
              show -1 ≤ (if M 822 j = 0 then M 820 (j / 256) else ((j / 256 + 1 : Nat) : Int)) ∧ (if M 822 j = 0 then M 820 (j / 256) else ((j / 256 + 1 : Nat) : Int)) ≤ M 797 33
              split <;> omega
            · split at hp
              · have y := k3 (Or.inr (by assumption))
                have g0 := hK.1.1.1
                rw [List.mem_singleton.1 hp]
                exact ⟨⟨by show -1 ≤ M 820 (j / 256); omega, by show M 820 (j / 256) ≤ _; omega⟩, by show 0 ≤ ((j % 256 : Nat) : Int); omega, by show ((j % 256 : Nat) : Int) < 256; omega⟩
              · cases hp
    obtain ⟨⟨a1, a2⟩, a3, a4⟩ := key
    omega
/-- the end: nothing changed any more -/
theorem re_I.fin {M1 M3 : ab_M} (hK : re_K M3) (hI : re_I M3 M1) (h : ∀ j : Nat, (j : Int) < 256 * M3 797 33 → re_v M3 (re_N M1) j = re_N M1 j) {j b : Nat} (hj : (j : Int) < 256 * M3 797 33) (hb : b < 32) : pz_b (M1 825 j) b = true ↔ ∃ n, gx_W (re_S M3) (fun j => re_O M3 j b) n j := by
  have f33 : M1 797 33 = M3 797 33 := hI.1 _ _ (by decide)
  have := gx_iff (D := fun j => (j : Int) < 256 * M3 797 33) hI.2 (fun i hi => ⟨gx_cl_same (re_gxv hK (by omega)) (h i hi), fun q hq => by have := re_S_rng hK hi hq; omega⟩) hb hj
  rw [← this]
  unfold re_N
  rw [if_pos (by rw [f33]; exact hj)]
