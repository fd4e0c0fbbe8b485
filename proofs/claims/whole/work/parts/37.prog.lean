/-! program() of the reference -/
/-- the typed text without spaces -/
abbrev pz_pl (M : ab_M) : List Int := (pz_ls (M 802) (M 797 6)).filter (fun c => decide (c ≠ 32))
def pz_gf (M N : ab_M) : Prop := (∀ o k, o ≠ 797 → o ≠ 798 → o ≠ 799 → o ≠ 803 → o ≠ 804 → o ≠ 816 → ¬ (805 ≤ o ∧ o ≤ 815) → N o k = M o k) ∧ ∀ k, k ≠ 2 → k ≠ 6 → k ≠ 9 → k ≠ 10 → k ≠ 19 → k ≠ 20 → k ≠ 21 → k ≠ 24 → k ≠ 25 → k ≠ 27 → k ≠ 28 → k ≠ 29 → k ≠ 31 → N 797 k = M 797 k
/-- what was found before isn't known any more -/
def pz_nk (N : ab_M) : Prop := N 797 28 = 0 ∧ N 797 29 = -9 ∧ N 816 0 = 0 ∧ N 816 1 = 0 ∧ N 797 31 = 0 ∧ ∀ j, 0 ≤ N 803 j ∧ N 803 j < 256
theorem pz_pl_len (M : ab_M) (h : 0 ≤ M 797 6 ∧ M 797 6 ≤ 120) : (pz_pl M).length ≤ 120 := by
  have := List.length_filter_le (fun c => decide (c ≠ 32)) (pz_ls (M 802) (M 797 6))
  rw [pz_ls_len] at this
  show ((pz_ls (M 802) (M 797 6)).filter (fun c => decide (c ≠ 32))).length ≤ 120
  omega
theorem pz_pl_pos (M : ab_M) : (pz_pl M).length = (pz_pos (M 802) (M 797 6).toNat).length := by
  show ((pz_ls (M 802) (M 797 6)).filter (fun c => decide (c ≠ 32))).length = _
  unfold pz_ls pz_pos
  rw [List.filter_map, List.length_map]
  rfl
/-- read, and forgotten what was found -/
def pz_x35 (M N : ab_M) (r : Int) : Prop := pz_gf M N ∧ pz_nk N ∧ (∀ k, N 798 k = M 798 k) ∧ (∀ k, N 799 k = M 799 k) ∧ N 797 2 = M 797 2 ∧ N 797 6 = M 797 6 ∧ N 797 9 = (((pz_pl M).length : Nat) : Int) ∧ pz_L N = pz_pl M ∧ ab_ir r ∧ match pz_read (pz_pl M) with
  | .inl p => r = p ∧ p ≠ -9
  | .inr E => r = -9 ∧ N 797 19 = ((pz_nS E : Nat) : Int)
theorem pz_x35_of {M A B N : ab_M} {r : Int} (h6 : 0 ≤ M 797 6 ∧ M 797 6 ≤ 120) (h1 : pz_TT M A (M 797 6).toNat) (h2 : pz_PP A B r) (h3 : N = ab_up (ab_up (ab_up (ab_up (ab_up (ab_up B 797 25 r) 797 28 0) 797 29 (-9)) 816 0 0) 816 1 0) 797 31 0) : pz_x35 M N r := by
  have hLA := h1.L
  rw [show (((M 797 6).toNat : Nat) : Int) = M 797 6 by omega] at hLA
  obtain ⟨t1, t2, t3, t4⟩ := h1
  obtain ⟨p1, p2, p3, p4⟩ := h2
  have hN : ∀ o k, o ≠ 816 → ¬ (o = 797 ∧ (k = 25 ∨ k = 28 ∨ k = 29 ∨ k = 31)) → N o k = B o k := fun o k x y => by
    rw [h3]
    simp only [ab_up_a]
    rw [if_neg (by omega), if_neg (by omega), if_neg (by omega), if_neg (by omega), if_neg (by omega), if_neg (by omega)]
  have hLN : pz_L N = pz_pl M := by
    show _ = (pz_ls (M 802) (M 797 6)).filter (fun c => decide (c ≠ 32))
    rw [← hLA, ← p1.L]
    unfold pz_L
    rw [hN 797 9 (by decide) (by omega)]
    exact pz_ls_congr fun j _ => hN 803 j (by decide) (by omega)
  refine ⟨⟨fun o k x1 x2 x3 x4 x5 x6 x7 => ?_, fun k x1 x2 x3 x4 x5 x6 x7 x8 x9 x10 x11 x12 x13 => ?_⟩, ⟨?_, ?_, ?_, ?_, ?_, fun j => ?_⟩, fun k => ?_, fun k => ?_, ?_, ?_, ?_, hLN, p3, ?_⟩
  · rw [hN o k x6 (by omega), p1.1 o k x1 x7, t1 o k (by omega) x4 x5]
  · rw [hN 797 k (by decide) (by omega), p1.2 k x4 x5 x6 x7 x8 x9 x10, t1 797 k (by omega) (by decide) (by decide)]
  · rw [h3]; simp [ab_up_a]
  · rw [h3]; simp [ab_up_a]
  · rw [h3]; simp [ab_up_a]
  · rw [h3]; simp [ab_up_a]
  · rw [h3]; simp [ab_up_a]
  · rw [hN 803 j (by decide) (by omega), p1.1 803 j (by decide) (by omega)]; exact t4 j
  · rw [hN 798 k (by decide) (by omega), p1.1 798 k (by decide) (by omega), t1 798 k (by omega) (by decide) (by decide)]
  · rw [hN 799 k (by decide) (by omega), p1.1 799 k (by decide) (by omega), t1 799 k (by omega) (by decide) (by decide)]
  · rw [hN 797 2 (by decide) (by omega), p1.2 2 (by decide) (by decide) (by decide) (by decide) (by decide) (by decide) (by decide), t1 797 2 (by omega) (by decide) (by decide)]
  · rw [hN 797 6 (by decide) (by omega), p1.2 6 (by decide) (by decide) (by decide) (by decide) (by decide) (by decide) (by decide), t1 797 6 (by omega) (by decide) (by decide)]
  · rw [hN 797 9 (by decide) (by omega), p1.2 9 (by decide) (by decide) (by decide) (by decide) (by decide) (by decide) (by decide), t2, pz_pl_pos]
  · rw [hLA] at p4
    cases hr : pz_read (pz_pl M) with
    | inl p =>
      rw [show (pz_ls (M 802) (M 797 6)).filter (fun c => decide (c ≠ 32)) = pz_pl M from rfl, hr] at p4
      exact p4
    | inr E =>
      rw [show (pz_ls (M 802) (M 797 6)).filter (fun c => decide (c ≠ 32)) = pz_pl M from rfl, hr] at p4
      obtain ⟨q1, q2, q3⟩ := p4
      refine ⟨q1, ?_⟩
      rw [hN 797 19 (by decide) (by omega), q3.2.1, q2]
/-- the present program noted among the past ones -/
def pz_pt (M N : ab_M) : Prop := N 797 2 = pz_q0 M + 1 ∧ (∀ k : Nat, (k : Int) < 641 * pz_q0 M → N 799 k = M 799 (k + pz_sh M)) ∧ ∀ k : Nat, k ≤ 640 → N 799 (641 * pz_q0 M + (k : Int)).toNat = M 798 k
def pz_g50 (M N : ab_M) : Prop := pz_gf M N ∧ pz_nk N ∧ pz_pt M N ∧ N 797 6 = M 797 6 ∧ N 797 9 = (((pz_pl M).length : Nat) : Int) ∧ pz_L N = pz_pl M ∧ ∃ E, pz_read (pz_pl M) = .inr E ∧ N 797 19 = ((pz_nS E : Nat) : Int)
theorem pz_g50_of {M B N : ab_M} {r : Int} (h : pz_x35 M B r) (hr : r = -9) (h2 : pz_NT B N) : pz_g50 M N := by
  obtain ⟨⟨a1, a2⟩, ⟨b1, b2, b3, b4, b5, b6⟩, c1, c2, c3, c4, c5, c6, c7, c8⟩ := h
  obtain ⟨d1, d2, d3, d4⟩ := h2
  have hq : pz_q0 B = pz_q0 M := by unfold pz_q0; rw [c3]
  have hs : pz_sh B = pz_sh M := by unfold pz_sh; rw [c3]
  refine ⟨⟨fun o k x1 x2 x3 x4 x5 x6 x7 => ?_, fun k x1 x2 x3 x4 x5 x6 x7 x8 x9 x10 x11 x12 x13 => ?_⟩, ⟨?_, ?_, ?_, ?_, ?_, fun j => ?_⟩, ⟨?_, fun k hk => ?_, fun k hk => ?_⟩, ?_, ?_, ?_, ?_⟩
  · rw [d1 o k x3 (by omega), a1 o k x1 x2 x3 x4 x5 x6 x7]
  · rw [d1 797 k (by decide) (by omega), a2 k x1 x2 x3 x4 x5 x6 x7 x8 x9 x10 x11 x12 x13]
  · rw [d1 797 28 (by decide) (by omega), b1]
  · rw [d1 797 29 (by decide) (by omega), b2]
  · rw [d1 816 0 (by decide) (by omega), b3]
  · rw [d1 816 1 (by decide) (by omega), b4]
  · rw [d1 797 31 (by decide) (by omega), b5]
  · rw [d1 803 j (by decide) (by omega)]; exact b6 j
  · rw [d2, hq]
  · rw [d3 k (by rw [hq]; exact hk), hs, c2]
  · rw [← hq, d4 k hk, c1]
  · rw [d1 797 6 (by decide) (by omega), c4]
  · rw [d1 797 9 (by decide) (by omega), c5]
  · rw [← c6]
    unfold pz_L
    rw [d1 797 9 (by decide) (by omega)]
    exact pz_ls_congr fun j _ => d1 803 j (by decide) (by omega)
  · cases hx : pz_read (pz_pl M) with
    | inl p =>
      rw [hx] at c8
      exact absurd (c8.1.symm.trans hr) c8.2
    | inr E =>
      rw [hx] at c8
      exact ⟨E, rfl, by rw [d1 797 19 (by decide) (by omega)]; exact c8.2⟩
/-- what program() leaves -/
def pz_PG (M M' : ab_M) (r : Int) : Prop := pz_gf M M' ∧ pz_nk M' ∧ match pz_read (pz_pl M) with
  | .inl p => r = -10 - (if p < (((pz_pl M).length : Nat) : Int) then (((pz_pos (M 802) (M 797 6).toNat).getD p.toNat 0 : Nat) : Int) else M 797 6) ∧ M' 797 2 = M 797 2 ∧ M' 797 6 = M 797 6 ∧ (∀ k, M' 798 k = M 798 k) ∧ ∀ k, M' 799 k = M 799 k
  | .inr E => r = ((pz_nS E : Nat) : Int) ∧ pz_pt M M' ∧ M' 797 6 = 0 ∧ M' 798 640 = (((pz_pl M).length : Nat) : Int) ∧ pz_now M' = pz_pl M ∧ ∀ k : Nat, (k : Int) < M' 798 640 → 0 ≤ M' 798 k ∧ M' 798 k < 256
def pz_i55 (M M1 : ab_M) (i : Int) : Prop := ∃ N, pz_g50 M N ∧ (∀ o k, o ≠ 798 → M1 o k = N o k) ∧ ∀ k : Nat, (k : Int) < i → M1 798 k = N 803 k
theorem pz_PG_ok {M M1 : ab_M} {i : Int} (h6 : 0 ≤ M 797 6 ∧ M 797 6 ≤ 120) (h : pz_i55 M M1 i) (hi : M1 797 9 ≤ i) : pz_PG M (ab_up (ab_up M1 798 640 (M1 797 9)) 797 6 0) (M1 797 19) := by
  obtain ⟨N, ⟨⟨a1, a2⟩, ⟨b1, b2, b3, b4, b5, b6⟩, ⟨c1, c2, c3⟩, d1, d2, d3, E, e1, e2⟩, f1, f2⟩ := h
  have hpl := pz_pl_len M h6
  have h9 : M1 797 9 = (((pz_pl M).length : Nat) : Int) := by rw [f1 797 9 (by decide), d2]
  have hX : ∀ o k, ¬ (o = 797 ∧ k = 6) → o ≠ 798 → ab_up (ab_up M1 798 640 (M1 797 9)) 797 6 0 o k = N o k := fun o k x y => by rw [ab_up_a, if_neg x, ab_up_o y, f1 o k y]
  have hY : ∀ k : Nat, (k : Int) < M1 797 9 → ab_up (ab_up M1 798 640 (M1 797 9)) 797 6 0 798 k = N 803 k := fun k hk => by rw [ab_up_o (by decide), ab_up_k (by omega), f2 k (by omega)]
  have hZ : ab_up (ab_up M1 798 640 (M1 797 9)) 797 6 0 798 640 = M1 797 9 := by rw [ab_up_o (by decide), ab_up_s]
  refine ⟨⟨fun o k x1 x2 x3 x4 x5 x6 x7 => ?_, fun k x1 x2 x3 x4 x5 x6 x7 x8 x9 x10 x11 x12 x13 => ?_⟩, ⟨?_, ?_, ?_, ?_, ?_, fun j => ?_⟩, ?_⟩
  · rw [hX o k (by omega) x2, a1 o k x1 x2 x3 x4 x5 x6 x7]
  · rw [hX 797 k (by omega) (by decide), a2 k x1 x2 x3 x4 x5 x6 x7 x8 x9 x10 x11 x12 x13]
  · rw [hX 797 28 (by omega) (by decide), b1]
  · rw [hX 797 29 (by omega) (by decide), b2]
  · rw [hX 816 0 (by omega) (by decide), b3]
  · rw [hX 816 1 (by omega) (by decide), b4]
  · rw [hX 797 31 (by omega) (by decide), b5]
  · rw [hX 803 j (by omega) (by decide)]; exact b6 j
  · rw [e1]
    refine ⟨by rw [f1 797 19 (by decide), e2], ⟨?_, fun k hk => ?_, fun k hk => ?_⟩, ab_up_s, by rw [hZ, h9], ?_, fun k hk => ?_⟩
    · rw [hX 797 2 (by omega) (by decide), c1]
    · rw [hX 799 k (by omega) (by decide), c2 k hk]
    · rw [hX 799 _ (by omega) (by decide), c3 k hk]
    · rw [← d3]
      have hW : pz_now (ab_up (ab_up M1 798 640 (M1 797 9)) 797 6 0) = pz_ls (N 803) (M1 797 9) := by
        unfold pz_now
        rw [hZ]
        exact pz_ls_congr fun j hj => hY j (by omega)
      rw [hW, f1 797 9 (by decide)]
    · rw [hZ] at hk
      rw [hY k hk]
      exact b6 k

def S_X9_program : ab_PT := fun a M K => match a with
  | [.inr (.inr (.inr (797, 9, 0)))] => (0 ≤ M 797 6 ∧ M 797 6 ≤ 120 ∧ (∀ k : Nat, (k : Int) < M 797 6 → 0 ≤ M 802 k ∧ M 802 k < 256) ∧ (∀ j, 0 ≤ M 803 j ∧ M 803 j < 256) ∧ 0 ≤ M 797 2 ∧ M 797 2 ≤ 6) ∧ (∀ rx : Int, ∀ Mx : ab_M, (pz_PG M Mx rx) → K [Xi rx] Mx)
  | _ => False
set_option maxRecDepth 20000 in
theorem vc_X9_program_0  (M : ab_M) (K : List ab_V → ab_M → Prop) (hS : (0 ≤ M 797 6 ∧ M 797 6 ≤ 120 ∧ (∀ k : Nat, (k : Int) < M 797 6 → 0 ≤ M 802 k ∧ M 802 k < 256) ∧ (∀ j, 0 ≤ M 803 j ∧ M 803 j < 256) ∧ 0 ≤ M 797 2 ∧ M 797 2 ≤ 6) ∧ (∀ rx : Int, ∀ Mx : ab_M, (pz_PG M Mx rx) → K [Xi rx] Mx)) : (0 ≤ M 797 6 ∧ M 797 6 ≤ 120 ∧ (∀ k : Nat, (k : Int) < M 797 6 → 0 ≤ M 802 k ∧ M 802 k < 256) ∧ (∀ j, 0 ≤ M 803 j ∧ M 803 j < 256)) ∧ (∀ M1 : ab_M, (pz_TT M M1 (M 797 6).toNat ∧ M1 804 (M1 797 9).toNat = M 797 6) → (0 ≤ M1 797 9 ∧ M1 797 9 ≤ 640 ∧ (∀ j, 0 ≤ M1 803 j ∧ M1 803 j < 256) ∧ pz_okr (pz_L M1) ((pz_L M1).length + 1) [] [] 0) ∧ (∀ r6 : Int, ∀ M6 : ab_M, (pz_PP M1 M6 r6) → (-128 ≤ (-9 : Int) ∧ (-9 : Int) < 128) ∧ (ab_ir r6 ∧ ab_ir (-9 : Int)) ∧ ((¬ r6 = (-9 : Int) → (0 ≤ r6 ∧ r6 < ((641 : Nat) : Int)) ∧ (True) ∧ (∀ M35 : ab_M, (M35 = ab_up (ab_up (ab_up (ab_up (ab_up (ab_up M6 797 25 r6) 797 28 0) 797 29 (-9)) 816 0 0) 816 1 0) 797 31 0) → (-128 ≤ (-9 : Int) ∧ (-9 : Int) < 128) ∧ (ab_ir r6 ∧ ab_ir (-9 : Int)) ∧ ((r6 = (-9 : Int) → (0 ≤ M35 797 2 ∧ M35 797 2 ≤ 6) ∧ (∀ M50 : ab_M, (pz_NT M35 M50) → (∃ n', ((n' = (M50 797 9 - (0 : Int)).toNat ∧ 0 ≤ (0 : Int) ∧ (0 : Int) ≤ M50 797 9 ∧ pz_i55 M M50 (0 : Int)))))) ∧ (¬ r6 = (-9 : Int) → (-128 ≤ (-10 : Int) ∧ (-10 : Int) < 128) ∧ K [Xi ((-10 : Int) - (M6 804 r6.toNat))] M35)))) ∧ (r6 = (-9 : Int) → (True) ∧ (∀ M35 : ab_M, (M35 = ab_up (ab_up (ab_up (ab_up (ab_up (ab_up M6 797 25 r6) 797 28 0) 797 29 (-9)) 816 0 0) 816 1 0) 797 31 0) → (-128 ≤ (-9 : Int) ∧ (-9 : Int) < 128) ∧ (ab_ir r6 ∧ ab_ir (-9 : Int)) ∧ ((r6 = (-9 : Int) → (0 ≤ M35 797 2 ∧ M35 797 2 ≤ 6) ∧ (∀ M50 : ab_M, (pz_NT M35 M50) → (∃ n', ((n' = (M50 797 9 - (0 : Int)).toNat ∧ 0 ≤ (0 : Int) ∧ (0 : Int) ≤ M50 797 9 ∧ pz_i55 M M50 (0 : Int)))))) ∧ (¬ r6 = (-9 : Int) → (-128 ≤ (-10 : Int) ∧ (-10 : Int) < 128) ∧ K [Xi ((-10 : Int) - (0 : Int))] M35))))))) := by
  obtain ⟨⟨g1, g2, g3, g4, g5, g6⟩, gK⟩ := hS
  refine And.intro (by
    exact ⟨g1, g2, g3, g4⟩) ?_
  intro M1 hM1
  obtain ⟨hTT, hpl2⟩ := hM1
  have hLA := hTT.L
  rw [show (((M 797 6).toNat : Nat) : Int) = M 797 6 by omega] at hLA
  have hplen := pz_pl_len M ⟨g1, g2⟩
  have hpos := pz_pl_pos M
  have h19 := hTT.2.1
  refine And.intro (by
    rw [hLA]
    exact ⟨by omega, by omega, hTT.2.2.2, pz_okr_short hplen _ _ _ _ (Int.le_refl 0) (by omega) (Int.le_refl 0) (Int.le_refl 0)⟩) ?_
  intro r6 M6 hM6
  have h6r : ab_ir r6 := hM6.2.2.1
  refine And.intro (by
    first
      | omega
      | (simp [ab_up_a]; done)
      | (simp [ab_up_a]; omega)) ?_
  refine And.intro (by
    first
      | omega
      | (simp [ab_up_a]; done)
      | (simp [ab_up_a]; omega)) ?_
  refine ⟨?_, ?_⟩
  · intro c20
    refine And.intro (by
      have hc8 := hM6.2.2.2
      have hwi : ∀ p, pz_read (pz_pl M) = .inl p → 0 ≤ p ∧ p ≤ (((pz_pl M).length : Nat) : Int) := fun p hp => pz_run_wi _ _ _ _ p (Int.le_refl 0) (by show (0 : Int) ≤ ((_ : Nat) : Int); omega) hp
      rw [hLA] at hc8
      cases hx : pz_read (pz_pl M) with
      | inr E =>
        rw [show (pz_ls (M 802) (M 797 6)).filter (fun c => decide (c ≠ 32)) = pz_pl M from rfl, hx] at hc8
        exact absurd hc8.1 c20
      | inl p =>
        rw [show (pz_ls (M 802) (M 797 6)).filter (fun c => decide (c ≠ 32)) = pz_pl M from rfl, hx] at hc8
        obtain ⟨w1, w2⟩ := hwi p hx
        have := hc8.1
        exact ⟨by omega, by omega⟩) ?_
    refine And.intro trivial ?_
    intro M35 hM35
    have hX := pz_x35_of ⟨g1, g2⟩ hTT hM6 hM35
    refine And.intro (by
      first
        | omega
        | (simp [ab_up_a]; done)
        | (simp [ab_up_a]; omega)) ?_
    refine And.intro (by
      first
        | omega
        | (simp [ab_up_a]; done)
        | (simp [ab_up_a]; omega)) ?_
    refine ⟨?_, ?_⟩
    · intro c41
      refine And.intro (by
        rw [hX.2.2.2.2.1]
        exact ⟨g5, g6⟩) ?_
      intro M50 hM50
      exact absurd c41 c20
    · intro c41
      refine And.intro (by
        first
          | omega
          | (simp [ab_up_a]; done)
          | (simp [ab_up_a]; omega)) ?_
      have hc8 := hX.2.2.2.2.2.2.2.2.2
      have hwi : ∀ p, pz_read (pz_pl M) = .inl p → 0 ≤ p ∧ p ≤ (((pz_pl M).length : Nat) : Int) := fun p hp => pz_run_wi _ _ _ _ p (Int.le_refl 0) (by show (0 : Int) ≤ ((_ : Nat) : Int); omega) hp
      cases hx : pz_read (pz_pl M) with
      | inr E =>
        rw [hx] at hc8
        exact absurd hc8.1 c41
      | inl p =>
        rw [hx] at hc8
        obtain ⟨w1, w2⟩ := hwi p hx
        refine gK _ _ ⟨hX.1, hX.2.1, ?_⟩
        rw [hx]
        refine ⟨?_, hX.2.2.2.2.1, hX.2.2.2.2.2.1, hX.2.2.1, hX.2.2.2.1⟩
        rw [hc8.1, hM6.1.1 804 _ (by decide) (by omega)]
        by_cases hlt : p < (((pz_pl M).length : Nat) : Int)
        · rw [if_pos hlt]
          have hj : p.toNat < (pz_pos (M 802) (M 797 6).toNat).length := by omega
          have := (hTT.2.2.1 p.toNat _ (List.getElem?_eq_getElem hj)).2
          rw [this, List.getD_eq_getElem?_getD, List.getElem?_eq_getElem hj]
          rfl
        · rw [if_neg hlt, ← hpl2, h19, show p.toNat = (((pz_pos (M 802) (M 797 6).toNat).length : Nat) : Int).toNat by omega]
  · intro c20
    refine And.intro trivial ?_
    intro M35 hM35
    have hX := pz_x35_of ⟨g1, g2⟩ hTT hM6 hM35
    refine And.intro (by
      first
        | omega
        | (simp [ab_up_a]; done)
        | (simp [ab_up_a]; omega)) ?_
    refine And.intro (by
      first
        | omega
        | (simp [ab_up_a]; done)
        | (simp [ab_up_a]; omega)) ?_
    refine ⟨?_, ?_⟩
    · intro c41
      refine And.intro (by
        rw [hX.2.2.2.2.1]
        exact ⟨g5, g6⟩) ?_
      intro M50 hM50
      have hg := pz_g50_of hX c41 hM50
      refine ⟨_, rfl, by omega, ?_, M50, hg, fun _ _ _ => rfl, fun k hk => by omega⟩
      rw [hg.2.2.2.2.1]
      omega
    · intro c41
      refine And.intro (by
        first
          | omega
          | (simp [ab_up_a]; done)
          | (simp [ab_up_a]; omega)) ?_
      exact absurd c20 c41

set_option maxRecDepth 20000 in
theorem vc_X9_program_55  (M : ab_M) (K : List ab_V → ab_M → Prop) (hS : (0 ≤ M 797 6 ∧ M 797 6 ≤ 120 ∧ (∀ k : Nat, (k : Int) < M 797 6 → 0 ≤ M 802 k ∧ M 802 k < 256) ∧ (∀ j, 0 ≤ M 803 j ∧ M 803 j < 256) ∧ 0 ≤ M 797 2 ∧ M 797 2 ≤ 6) ∧ (∀ rx : Int, ∀ Mx : ab_M, (pz_PG M Mx rx) → K [Xi rx] Mx)) (n : Nat) (w1 : Int) (w2 : Int) (i1 : Int) (M1 : ab_M) (hI : n = (M1 797 9 - i1).toNat ∧ 0 ≤ i1 ∧ i1 ≤ M1 797 9 ∧ pz_i55 M M1 i1) : (ab_ir i1 ∧ ab_ir (M1 797 9)) ∧ (((M1 797 9) ≤ i1 → (-32768 ≤ (640 : Int) ∧ (640 : Int) < 32768) ∧ (0 ≤ (640 : Int) ∧ (640 : Int) < ((641 : Nat) : Int)) ∧ K [Xi (M1 797 19)] (ab_up (ab_up M1 798 640 (M1 797 9)) 797 6 (0 : Int))) ∧ (i1 < (M1 797 9) → (0 ≤ i1 ∧ i1 < ((640 : Nat) : Int)) ∧ (0 ≤ i1 ∧ i1 < ((641 : Nat) : Int)) ∧ (∃ n', n' < n ∧ ((n' = ((ab_up M1 798 i1.toNat (M1 803 i1.toNat)) 797 9 - (i1 + 1)).toNat ∧ 0 ≤ (i1 + 1) ∧ (i1 + 1) ≤ (ab_up M1 798 i1.toNat (M1 803 i1.toNat)) 797 9 ∧ pz_i55 M (ab_up M1 798 i1.toNat (M1 803 i1.toNat)) (i1 + 1)))))) := by
  obtain ⟨hn, h0, h1, hN⟩ := hI
  obtain ⟨⟨g1, g2, g3, g4, g5, g6⟩, gK⟩ := hS
  obtain ⟨N, q1, q2, q3⟩ := id hN
  have hpl := pz_pl_len M ⟨g1, g2⟩
  have h9 : M1 797 9 = (((pz_pl M).length : Nat) : Int) := by rw [q2 797 9 (by decide)]; exact q1.2.2.2.2.1
  refine And.intro (by
    first
      | omega
      | (simp [ab_up_a]; done)
      | (simp [ab_up_a]; omega)) ?_
  refine ⟨?_, ?_⟩
  · intro c60
    refine And.intro (by
      first
        | omega
        | (simp [ab_up_a]; done)
        | (simp [ab_up_a]; omega)) ?_
    refine And.intro (by
      first
        | omega
        | (simp [ab_up_a]; done)
        | (simp [ab_up_a]; omega)) ?_
    have hq := pz_PG_ok ⟨g1, g2⟩ hN (by omega)
    exact gK _ _ hq
  · intro c60
    refine And.intro (by
      first
        | omega
        | (simp [ab_up_a]; done)
        | (simp [ab_up_a]; omega)) ?_
    refine And.intro (by
      first
        | omega
        | (simp [ab_up_a]; done)
        | (simp [ab_up_a]; omega)) ?_
    refine ⟨_, ?_, rfl, by omega, ?_, N, q1, fun o k x => by rw [ab_up_o x]; exact q2 o k x, fun k hk => ?_⟩
    · rw [ab_up_o (by decide)]; omega
    · rw [ab_up_o (by decide)]; omega
    · rw [ab_up_a]
      by_cases hki : k = i1.toNat
      · rw [if_pos ⟨rfl, hki⟩, q2 803 _ (by decide), hki]
      · rw [if_neg (fun q => hki q.2)]
        exact q3 k (by omega)

set_option maxRecDepth 20000 in
set_option maxHeartbeats 1000000 in
theorem ok_X9_program (E : ab_E) : ab_Ok E 7 169 S_X9_program := by
  refine ab_mk rq_X9_program tk_X9_program (rt := 1) (rfl) (cuts := [55]) (G := [(139, S_X9_forgetAll), (164, S_X9_note), (174, S_X9_readProgram), (184, S_X9_takeText)]) (List.forall_mem_cons.mpr ⟨⟨1, by decide, ok_X9_forgetAll E⟩, List.forall_mem_cons.mpr ⟨⟨1, by decide, ok_X9_note E⟩, List.forall_mem_cons.mpr ⟨⟨6, by decide, ok_X9_readProgram E⟩, List.forall_mem_cons.mpr ⟨⟨1, by decide, ok_X9_takeText E⟩, fun _ h => absurd h List.not_mem_nil⟩⟩⟩⟩) (by decide) 108 rfl ?_
  intro a M K wd wa hS
  unfold S_X9_program at hS
  split at hS
  ·
    refine ⟨Nat.le_of_ble_eq_true rfl, fun pc n L st M1 => match pc, L, st with
      | 55, [.inr (.inr (.inr (797, 9, 0))), .inr (.inl w1), .inr (.inl w2), .inr (.inl i1)], [] => (n = (M1 797 9 - i1).toNat ∧ 0 ≤ i1 ∧ i1 ≤ M1 797 9 ∧ pz_i55 M M1 i1)
      | _, _, _ => False, ?_, ?_⟩
    · exact vc_X9_program_0  M K  hS
    · intro pc n L st M1 hI wd1 wL wst
      (try dsimp only at hI)
      split at hI
      ·
        rename_i w1 w2 i1
        exact vc_X9_program_55  M K  hS n w1 w2 i1 _ hI
      · exact hI.elim
  · exact hS.elim
