/-! versions of four variables in one long -/
def pz_lb (x : Int) (i : Nat) : Bool := (Int64.ofInt x).toBitVec.getLsbD i
theorem pz_lb_or (x y : Int) (i : Nat) : pz_lb (ab_lor x y) i = (pz_lb x i || pz_lb y i) := by
  unfold pz_lb ab_lor
  rw [Int64.ofInt_toInt, Int64.toBitVec_or, BitVec.getLsbD_or]
theorem pz_lb_and (x y : Int) (i : Nat) : pz_lb (ab_land x y) i = (pz_lb x i && pz_lb y i) := by
  unfold pz_lb ab_land
  rw [Int64.ofInt_toInt, Int64.toBitVec_and, BitVec.getLsbD_and]
theorem pz_lb_xor (x y : Int) (i : Nat) : pz_lb (ab_lxor x y) i = (pz_lb x i ^^ pz_lb y i) := by
  unfold pz_lb ab_lxor
  rw [Int64.ofInt_toInt, Int64.toBitVec_xor, BitVec.getLsbD_xor]
theorem pz_lb_nat {n i : Nat} : pz_lb (n : Int) i = (decide (i < 64) && n.testBit i) := by
  unfold pz_lb
  rw [Int64.toBitVec_ofInt, BitVec.ofInt_natCast, BitVec.getLsbD_ofNat]
theorem pz_lb_m1 {i : Nat} (h : i < 64) : pz_lb (-1) i = true := by
  have key : ∀ i : Fin 64, pz_lb (-1) i.val = true := by decide +kernel
  exact key ⟨i, h⟩
theorem pz_ls_amt : ∀ v : Fin 4, (((Int32.ofInt (15 * ((v.val : Nat) : Int))).toInt64 &&& 63).toBitVec.smod 64).toNat = 15 * v.val := by decide +kernel
theorem pz_lb_shl {x : Int} {v i : Nat} (hv : v < 4) (hi : i < 64) : pz_lb (ab_lshl x (15 * (v : Int))) i = (decide (15 * v ≤ i) && pz_lb x (i - 15 * v)) := by
  have hk := pz_ls_amt ⟨v, hv⟩
  unfold pz_lb ab_lshl
  rw [Int64.ofInt_toInt, Int64.toBitVec_shiftLeft, BitVec.shiftLeft_eq', hk, BitVec.getLsbD_shiftLeft, decide_eq_true hi]
  by_cases q : i < 15 * v
  · rw [decide_eq_true q, decide_eq_false (show ¬ 15 * v ≤ i by omega)]; rfl
  · rw [decide_eq_false q, decide_eq_true (show 15 * v ≤ i by omega)]; rfl
theorem pz_lb_shr {x : Int} {v i : Nat} (hv : v < 4) (hi : i < 64) : pz_lb (ab_lshr x (15 * (v : Int))) i = if 15 * v + i < 64 then pz_lb x (15 * v + i) else pz_lb x 63 := by
  have hk := pz_ls_amt ⟨v, hv⟩
  unfold pz_lb ab_lshr
  rw [Int64.ofInt_toInt, Int64.toBitVec_shiftRight, BitVec.sshiftRight_eq', hk, BitVec.getLsbD_sshiftRight, decide_eq_false (show ¬ 64 ≤ i by omega)]
  show (true && _) = _
  rw [Bool.true_and]
  split
  · rfl
  · rw [BitVec.msb_eq_getLsbD_last]
theorem pz_lb_ext {x y : Int} (hx : ab_lr x) (hy : ab_lr y) (h : ∀ i, i < 64 → pz_lb x i = pz_lb y i) : x = y := by
  have e : Int64.ofInt x = Int64.ofInt y := Int64.toBitVec_inj.1 (BitVec.eq_of_getLsbD_eq fun i hi => h i hi)
  rw [← ab_i64 hx, ← ab_i64 hy, e]
theorem ab_lor_lr (x y : Int) : ab_lr (ab_lor x y) := ⟨Int64.le_toInt _, Int64.toInt_lt _⟩
theorem ab_land_lr (x y : Int) : ab_lr (ab_land x y) := ⟨Int64.le_toInt _, Int64.toInt_lt _⟩
/-- four numbers of 15 bits in one -/
def pk4 (a b c d : Nat) : Nat := 2 ^ 15 * (2 ^ 15 * (2 ^ 15 * d + c) + b) + a
theorem pk4_bit {a b c : Nat} (d : Nat) (ha : a < 2 ^ 15) (hb : b < 2 ^ 15) (hc : c < 2 ^ 15) (j : Nat) : (pk4 a b c d).testBit j = if j < 15 then a.testBit j else if j < 30 then b.testBit (j - 15) else if j < 45 then c.testBit (j - 30) else d.testBit (j - 45) := by
  unfold pk4
  rw [Nat.testBit_two_pow_mul_add _ ha]
  by_cases h1 : j < 15
  · rw [if_pos h1, if_pos h1]
  · rw [if_neg h1, if_neg h1, Nat.testBit_two_pow_mul_add _ hb]
    by_cases h2 : j < 30
    · rw [if_pos (by omega), if_pos h2]
    · rw [if_neg (by omega), if_neg h2, Nat.testBit_two_pow_mul_add _ hc]
      by_cases h3 : j < 45
      · rw [if_pos (by omega), if_pos h3, show j - 15 - 15 = j - 30 by omega]
      · rw [if_neg (by omega), if_neg h3, show j - 15 - 15 - 15 = j - 45 by omega]
theorem nat_hi {g j : Nat} (hg : g < 2 ^ 15) (hj : 15 ≤ j) : g.testBit j = false := Nat.testBit_lt_two_pow (Nat.lt_of_lt_of_le hg (Nat.pow_le_pow_right (by decide) hj))
theorem pz_mask_bit (j : Nat) : (32767 : Nat).testBit j = decide (j < 15) := Nat.testBit_two_pow_sub_one 15 j
/-- the versions of the variables -/
def pk_ok (V : Nat → Int) : Prop := ∀ v, v < 4 → 0 ≤ V v ∧ V v < 32768
def pk (V : Nat → Int) : Int := ((pk4 (V 0).toNat (V 1).toNat (V 2).toNat (V 3).toNat : Nat) : Int)
theorem pk_rng {V : Nat → Int} (h : pk_ok V) : 0 ≤ pk V ∧ pk V < 1152921504606846976 := by
  have h0 := h 0 (by decide)
  have h1 := h 1 (by decide)
  have h2 := h 2 (by decide)
  have h3 := h 3 (by decide)
  unfold pk pk4
  omega
theorem pk_lr {V : Nat → Int} (h : pk_ok V) : ab_lr (pk V) := by
  have := pk_rng h
  exact ⟨by omega, by omega⟩
/-- the bits of a version -/
theorem pk_bit {V : Nat → Int} (h : pk_ok V) {j : Nat} (hj : j < 64) : pz_lb (pk V) j = if j < 15 then (V 0).toNat.testBit j else if j < 30 then (V 1).toNat.testBit (j - 15) else if j < 45 then (V 2).toNat.testBit (j - 30) else (V 3).toNat.testBit (j - 45) := by
  have h0 := h 0 (by decide)
  have h1 := h 1 (by decide)
  have h2 := h 2 (by decide)
  unfold pk
  rw [pz_lb_nat, decide_eq_true hj, Bool.true_and, pk4_bit _ (by omega) (by omega) (by omega)]
theorem pk_set {V : Nat → Int} (h : pk_ok V) {v : Nat} (hv : v < 4) {g : Int} (g0 : 0 ≤ g) (g1 : g < 32768) : ab_lor (ab_land (pk V) (ab_lxor (ab_lshl 32767 (15 * (v : Int))) (-1))) (ab_lshl g (15 * (v : Int))) = pk (fun i => if i = v then g else V i) := by
  have hV : pk_ok (fun i => if i = v then g else V i) := fun i hi => by
    show 0 ≤ (if i = v then g else V i) ∧ (if i = v then g else V i) < 32768
    split
    · exact ⟨g0, g1⟩
    · exact h i hi
  have h3 := h 3 (by decide)
  refine pz_lb_ext (ab_lor_lr _ _) (pk_lr hV) fun j hj => ?_
  obtain ⟨G, rfl⟩ : ∃ G : Nat, g = (G : Int) := ⟨g.toNat, by omega⟩
  have hG : G < 2 ^ 15 := by omega
  rw [pz_lb_or, pz_lb_and, pz_lb_xor, pz_lb_shl hv hj, pz_lb_shl hv hj, pz_lb_m1 hj, pk_bit h hj, pk_bit hV hj, show (32767 : Int) = ((32767 : Nat) : Int) from rfl, pz_lb_nat, pz_lb_nat, pz_mask_bit, decide_eq_true (show j - 15 * v < 64 by omega), Bool.true_and, Bool.true_and]
  have hlow : ∀ m, 15 ≤ m → G.testBit m = false := fun m hm => nat_hi hG hm
  have cases4 : v = 0 ∨ v = 1 ∨ v = 2 ∨ v = 3 := by omega
  have t3 : ∀ m, 15 ≤ m → (V 3).toNat.testBit m = false := fun m hm => nat_hi (by omega) hm
  rcases cases4 with rfl | rfl | rfl | rfl
  all_goals
    simp only [Nat.mul_zero, Nat.mul_one, Nat.reduceMul, Nat.sub_zero, Nat.zero_le, Nat.reduceEqDiff, if_true, if_false]
    by_cases c1 : j < 15
    · simp [c1, show ¬ 15 ≤ j by omega, show ¬ 30 ≤ j by omega, show ¬ 45 ≤ j by omega]
    · by_cases c2 : j < 30
      · simp [c1, c2, show 15 ≤ j by omega, show ¬ 30 ≤ j by omega, show ¬ 45 ≤ j by omega, show j - 15 < 15 by omega, hlow j (by omega)]
      · by_cases c3 : j < 45
        · simp [c1, c2, c3, show 15 ≤ j by omega, show 30 ≤ j by omega, show ¬ 45 ≤ j by omega, show j - 30 < 15 by omega, show ¬ j - 15 < 15 by omega, hlow j (by omega), hlow (j - 15) (by omega)]
        · by_cases c4 : j < 60
          · simp [c1, c2, c3, show 15 ≤ j by omega, show 30 ≤ j by omega, show 45 ≤ j by omega, show j - 45 < 15 by omega, show ¬ j - 15 < 15 by omega, show ¬ j - 30 < 15 by omega, hlow j (by omega), hlow (j - 15) (by omega), hlow (j - 30) (by omega)]
          · simp [c1, c2, c3, show 15 ≤ j by omega, show 30 ≤ j by omega, show 45 ≤ j by omega, show ¬ j - 45 < 15 by omega, show ¬ j - 15 < 15 by omega, show ¬ j - 30 < 15 by omega, hlow j (by omega), hlow (j - 15) (by omega), hlow (j - 30) (by omega), hlow (j - 45) (by omega), t3 (j - 45) (by omega)]
/-- whether a version differs -/
theorem pk_dif {V W : Nat → Int} (h : pk_ok V) (g : pk_ok W) {v : Nat} (hv : v < 4) : ab_land (ab_lshr (ab_lxor (pk V) (pk W)) (15 * (v : Int))) 32767 = 0 ↔ V v = W v := by
  have hb : ∀ j, j < 64 → pz_lb (ab_land (ab_lshr (ab_lxor (pk V) (pk W)) (15 * (v : Int))) 32767) j = (decide (j < 15) && ((V v).toNat.testBit j ^^ (W v).toNat.testBit j)) := fun j hj => by
    rw [pz_lb_and, pz_lb_shr hv hj, show (32767 : Int) = ((32767 : Nat) : Int) from rfl, pz_lb_nat, pz_mask_bit, decide_eq_true hj, Bool.true_and]
    by_cases c : j < 15
    · rw [if_pos (by omega), pz_lb_xor, pk_bit h (by omega), pk_bit g (by omega), decide_eq_true c, Bool.and_true, Bool.true_and]
      have cases4 : v = 0 ∨ v = 1 ∨ v = 2 ∨ v = 3 := by omega
      rcases cases4 with rfl | rfl | rfl | rfl
      · rw [if_pos (by omega), if_pos (by omega), show 15 * 0 + j = j by omega]
      · rw [if_neg (by omega), if_pos (by omega), if_neg (by omega), if_pos (by omega), show 15 * 1 + j - 15 = j by omega]
      · rw [if_neg (by omega), if_neg (by omega), if_pos (by omega), if_neg (by omega), if_neg (by omega), if_pos (by omega), show 15 * 2 + j - 30 = j by omega]
      · rw [if_neg (by omega), if_neg (by omega), if_neg (by omega), if_neg (by omega), if_neg (by omega), if_neg (by omega), show 15 * 3 + j - 45 = j by omega]
    · rw [decide_eq_false c, Bool.and_false, Bool.false_and]
  have hV := h v hv
  have hW := g v hv
  constructor
  · intro e
    have : (V v).toNat = (W v).toNat := Nat.eq_of_testBit_eq fun j => by
      by_cases c : j < 15
      · have := hb j (by omega)
        rw [e, show (0 : Int) = ((0 : Nat) : Int) from rfl, pz_lb_nat, Nat.zero_testBit, Bool.and_false, decide_eq_true c, Bool.true_and] at this
        cases e1 : (V v).toNat.testBit j <;> cases e2 : (W v).toNat.testBit j <;> first | rfl | (rw [e1, e2] at this; exact absurd this (by decide))
      · rw [nat_hi (by omega) (by omega), nat_hi (by omega) (by omega)]
    omega
  · intro e
    refine pz_lb_ext (ab_land_lr _ _) ⟨by decide, by decide⟩ fun j hj => ?_
    rw [hb j hj, e, show (0 : Int) = ((0 : Nat) : Int) from rfl, pz_lb_nat, Nat.zero_testBit, Bool.and_false, Bool.xor_self, Bool.and_false]
