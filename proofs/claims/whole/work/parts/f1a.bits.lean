/-! bits of longs, how many there are -/
theorem pz_lb_0 (b : Nat) : pz_lb 0 b = false := by
  unfold pz_lb
  rw [show (Int64.ofInt 0).toBitVec = 0#64 from rfl, BitVec.getLsbD_zero]
theorem pz_lb_n0 (b : Nat) : pz_lb ((0 : Nat) : Int) b = false := pz_lb_0 b
theorem pz_lb_not (x : Int) {b : Nat} (h : b < 64) : pz_lb (ab_lxor x (-1)) b = !pz_lb x b := by
  rw [pz_lb_xor, pz_lb_m1 h, Bool.xor_true]
theorem pz_lb_16 {b : Nat} (h : b < 64) : pz_lb 65536 b = true ↔ b = 16 := by
  have key : ∀ b : Fin 64, pz_lb 65536 b.val = true ↔ b.val = 16 := by decide +kernel
  exact key ⟨b, h⟩
theorem pz_lb_17 {b : Nat} (h : b < 64) : pz_lb 131072 b = true ↔ b = 17 := by
  have key : ∀ b : Fin 64, pz_lb 131072 b.val = true ↔ b.val = 17 := by decide +kernel
  exact key ⟨b, h⟩
theorem pz_lb_one {c : Int} {b : Nat} (h0 : 0 ≤ c) (h1 : c < 64) (hb : b < 64) : pz_lb (ab_lshl ((1 : Nat) : Int) c) b = decide ((b : Int) = c) := by
  have key : ∀ c b : Fin 64, pz_lb (ab_lshl ((1 : Nat) : Int) ((c.val : Nat) : Int)) b.val = decide (b.val = c.val) := by decide +kernel
  have := key ⟨c.toNat, by omega⟩ ⟨b, hb⟩
  rw [show (((⟨c.toNat, by omega⟩ : Fin 64).val : Nat) : Int) = c from Int.toNat_of_nonneg h0] at this
  rw [this]
  exact decide_eq_decide.2 ⟨fun q => by have : b = c.toNat := q; omega, fun q => by show b = c.toNat; omega⟩
/-- no bit in common -/
theorem pz_land_0 (x y : Int) : ab_land x y = 0 ↔ ∀ b, b < 64 → ¬ (pz_lb x b = true ∧ pz_lb y b = true) := by
  constructor
  · intro h b hb hxy
    have := pz_lb_and x y b
    rw [h, pz_lb_0, hxy.1, hxy.2] at this
    cases this
  · intro h
    refine pz_lb_ext (ab_land_lr _ _) ⟨by decide, by decide⟩ fun b hb => ?_
    rw [pz_lb_and, pz_lb_0]
    have := h b hb
    cases hx : pz_lb x b with
    | false => rfl
    | true =>
      cases hy : pz_lb y b with
      | false => rfl
      | true => exact absurd ⟨hx, hy⟩ this
/-- a long's low half as an int -/
theorem pz_b_lb (x : Int) {b : Nat} (h : b < 32) : pz_b x b = pz_lb x b := by
  unfold pz_b pz_lb
  rw [Int32.toBitVec_ofInt, Int64.toBitVec_ofInt, ← BitVec.testBit_toNat, ← BitVec.testBit_toNat, BitVec.toNat_ofInt, BitVec.toNat_ofInt]
  have e : (x % ((2 ^ 32 : Nat) : Int)).toNat = (x % ((2 ^ 64 : Nat) : Int)).toNat % 2 ^ 32 := by omega
  rw [e, Nat.testBit_mod_two_pow, decide_eq_true h, Bool.true_and]
/-! sums of bits -/
theorem gx_m_cong {f g : Nat → Bool} : ∀ k, (∀ x, x < k → f x = g x) → gx_m f k = gx_m g k
  | 0, _ => rfl
  | k + 1, h => by
    show gx_m f k + (if f k = true then 1 else 0) = gx_m g k + (if g k = true then 1 else 0)
    rw [gx_m_cong k fun x hx => h x (by omega), h k (by omega)]
theorem gx_m_add (f : Nat → Bool) (k : Nat) : ∀ n, gx_m f (k + n) = gx_m f k + gx_m (fun i => f (k + i)) n
  | 0 => rfl
  | n + 1 => by
    show gx_m f (k + n) + (if f (k + n) = true then 1 else 0) = gx_m f k + (gx_m (fun i => f (k + i)) n + (if f (k + n) = true then 1 else 0))
    rw [gx_m_add f k n]
    omega
theorem gx_m_neg (f : Nat → Bool) : ∀ k, gx_m f k + gx_m (fun i => !f i) k = k
  | 0 => rfl
  | k + 1 => by
    have := gx_m_neg f k
    show gx_m f k + (if f k = true then 1 else 0) + (gx_m (fun i => !f i) k + (if (!f k) = true then 1 else 0)) = k + 1
    cases f k <;> simp <;> omega
/-! the bits of a word counted byte by byte -/
def pc_t (b : Nat) : Nat := (b >>> 1) &&& 0x55
def pc_c (b : Nat) : Nat := b - pc_t b
def pc_e (b : Nat) : Nat := (b &&& 0x33) + ((b >>> 2) &&& 0x33)
theorem pc_byte : ∀ b : Fin 256, pc_t b.val ≤ b.val ∧ pc_c b.val < 256 ∧ pc_e (pc_c b.val) % 16 ≤ 4 ∧ pc_e (pc_c b.val) / 16 ≤ 4 ∧ pc_e (pc_c b.val) % 16 + pc_e (pc_c b.val) / 16 = gx_m (fun i => b.val.testBit i) 8 := by decide +kernel
theorem pc_and (a m : Nat) (k : Nat) (A B : Nat) (ha : a < 2 ^ k) (hm : m < 2 ^ k) : (a + 2 ^ k * A) &&& (m + 2 ^ k * B) = (a &&& m) + 2 ^ k * (A &&& B) := by
  have h1 : a &&& m < 2 ^ k := Nat.lt_of_le_of_lt Nat.and_le_left ha
  apply Nat.eq_of_testBit_eq
  intro i
  rw [Nat.testBit_and, Nat.add_comm a, Nat.add_comm m, Nat.add_comm (a &&& m), Nat.testBit_two_pow_mul_add _ ha, Nat.testBit_two_pow_mul_add _ hm, Nat.testBit_two_pow_mul_add _ h1]
  split
  · rw [Nat.testBit_and]
  · rw [Nat.testBit_and]
/-- a byte and the others: a shift under a mask -/
theorem pc_shr (a A s m B : Nat) (ha : a < 256) (hs : s ≤ 8) (hm : m < 2 ^ (8 - s)) : ((a + 256 * A) >>> s) &&& (m + 256 * B) = ((a >>> s) &&& m) + 256 * ((A >>> s) &&& B) := by
  apply Nat.eq_of_testBit_eq
  intro i
  have h256 : (256 : Nat) = 2 ^ 8 := rfl
  have hm8 : m < 2 ^ 8 := Nat.lt_of_lt_of_le hm (Nat.pow_le_pow_right (by decide) (by omega))
  have h1 : (a >>> s) &&& m < 2 ^ 8 := Nat.lt_of_le_of_lt Nat.and_le_right hm8
  rw [Nat.testBit_and, Nat.testBit_shiftRight, Nat.add_comm a, Nat.add_comm m, Nat.add_comm ((a >>> s) &&& m), h256, Nat.testBit_two_pow_mul_add _ ha, Nat.testBit_two_pow_mul_add _ hm8, Nat.testBit_two_pow_mul_add _ h1]
  by_cases hi : i < 8
  · rw [if_pos hi, if_pos hi, Nat.testBit_and, Nat.testBit_shiftRight]
    by_cases h2 : s + i < 8
    · rw [if_pos h2]
    · have h3 : m.testBit i = false := Nat.testBit_lt_two_pow (Nat.lt_of_lt_of_le hm (Nat.pow_le_pow_right (by decide) (by omega)))
      rw [h3, Bool.and_false, Bool.and_false]
  · rw [if_neg hi, if_neg hi, if_neg (by omega), Nat.testBit_and, Nat.testBit_shiftRight, show s + (i - 8) = s + i - 8 by omega]
def pc_W : List Nat → Nat
  | [] => 0
  | a :: t => a + 256 * pc_W t
theorem pc_1 : ∀ l : List Nat, (∀ a ∈ l, a < 256) → (pc_W l >>> 1) &&& pc_W (l.map fun _ => 0x55) = pc_W (l.map pc_t)
  | [], _ => rfl
  | a :: t, h => by
    show ((a + 256 * pc_W t) >>> 1) &&& (0x55 + 256 * pc_W (t.map fun _ => 0x55)) = pc_t a + 256 * pc_W (t.map pc_t)
    rw [pc_shr a _ 1 0x55 _ (h a List.mem_cons_self) (by decide) (by decide), pc_1 t fun x hx => h x (List.mem_cons_of_mem _ hx)]
    rfl
theorem pc_2 : ∀ l : List Nat, (∀ a ∈ l, a < 256) → pc_W (l.map pc_t) ≤ pc_W l ∧ pc_W l - pc_W (l.map pc_t) = pc_W (l.map pc_c)
  | [], _ => ⟨Nat.le_refl _, rfl⟩
  | a :: t, h => by
    obtain ⟨h1, h2⟩ := pc_2 t fun x hx => h x (List.mem_cons_of_mem _ hx)
    have h3 := (pc_byte ⟨a, h a List.mem_cons_self⟩).1
    have h3 : pc_t a ≤ a := h3
    show pc_t a + 256 * pc_W (t.map pc_t) ≤ a + 256 * pc_W t ∧ a + 256 * pc_W t - (pc_t a + 256 * pc_W (t.map pc_t)) = (a - pc_t a) + 256 * pc_W (t.map pc_c)
    rw [← h2]
    omega
theorem pc_3 : ∀ l : List Nat, (∀ a ∈ l, a < 256) → (pc_W l &&& pc_W (l.map fun _ => 0x33)) + ((pc_W l >>> 2) &&& pc_W (l.map fun _ => 0x33)) = pc_W (l.map pc_e)
  | [], _ => rfl
  | a :: t, h => by
    have ih := pc_3 t fun x hx => h x (List.mem_cons_of_mem _ hx)
    show ((a + 2 ^ 8 * pc_W t) &&& (0x33 + 2 ^ 8 * pc_W (t.map fun _ => 0x33))) + (((a + 256 * pc_W t) >>> 2) &&& (0x33 + 256 * pc_W (t.map fun _ => 0x33))) = ((a &&& 0x33) + ((a >>> 2) &&& 0x33)) + 256 * pc_W (t.map pc_e)
    rw [pc_shr a _ 2 0x33 _ (h a List.mem_cons_self) (by decide) (by decide), pc_and a 0x33 8 _ _ (h a List.mem_cons_self) (by decide), ← ih]
    omega
theorem pc_4 : ∀ l : List Nat, (∀ a ∈ l, a % 16 ≤ 4 ∧ a / 16 ≤ 4) → (pc_W l + pc_W l / 16) &&& pc_W (l.map fun _ => 0x0f) = pc_W (l.map fun a => a % 16 + a / 16)
  | [], _ => rfl
  | a :: t, h => by
    have ih := pc_4 t fun x hx => h x (List.mem_cons_of_mem _ hx)
    have ha := h a List.mem_cons_self
    have hT : pc_W t % 16 ≤ 4 := by
      cases t with
      | nil => exact Nat.zero_le _
      | cons b u =>
        have := (h b (List.mem_cons_of_mem _ List.mem_cons_self)).1
        show (b + 256 * pc_W u) % 16 ≤ 4
        omega
    have e : a + 256 * pc_W t + (a + 256 * pc_W t) / 16 = ((a % 16 + a / 16) + 16 * (a / 16 + pc_W t % 16)) + 2 ^ 8 * (pc_W t + pc_W t / 16) := by omega
    have e2 : ((a % 16 + a / 16) + 16 * (a / 16 + pc_W t % 16)) &&& 0x0f = a % 16 + a / 16 := by
      rw [show (0x0f : Nat) = 2 ^ 4 - 1 from rfl, Nat.and_two_pow_sub_one_eq_mod]
      omega
    show (a + 256 * pc_W t + (a + 256 * pc_W t) / 16) &&& (0x0f + 2 ^ 8 * pc_W (t.map fun _ => 0x0f)) = (a % 16 + a / 16) + 256 * pc_W (t.map fun a => a % 16 + a / 16)
    rw [e, pc_and _ 0x0f 8 _ _ (by omega) (by decide), e2, ih]
/-- the bytes of a word -/
def pc_B (x : Nat) : List Nat := [x % 256, x / 256 % 256, x / 65536 % 256, x / 16777216 % 256, x / 4294967296 % 256, x / 1099511627776 % 256, x / 281474976710656 % 256, x / 72057594037927936 % 256]
theorem pc_WB {x : Nat} (h : x < 18446744073709551616) : pc_W (pc_B x) = x := by
  unfold pc_B
  simp only [pc_W]
  omega
theorem pc_B_lt (x : Nat) : ∀ a ∈ pc_B x, a < 256 := by
  intro a ha
  unfold pc_B at ha
  simp only [List.mem_cons, List.not_mem_nil, or_false] at ha
  omega
theorem pc_cnt (x : Nat) : gx_m (fun i => x.testBit i) 64 = gx_m (fun i => (x % 256).testBit i) 8 + gx_m (fun i => (x / 256 % 256).testBit i) 8 + gx_m (fun i => (x / 65536 % 256).testBit i) 8 + gx_m (fun i => (x / 16777216 % 256).testBit i) 8 + gx_m (fun i => (x / 4294967296 % 256).testBit i) 8 + gx_m (fun i => (x / 1099511627776 % 256).testBit i) 8 + gx_m (fun i => (x / 281474976710656 % 256).testBit i) 8 + gx_m (fun i => (x / 72057594037927936 % 256).testBit i) 8 := by
  have key : ∀ n : Nat, gx_m (fun i => (x / 2 ^ n % 2 ^ 8).testBit i) 8 = gx_m (fun i => x.testBit (n + i)) 8 := fun n => gx_m_cong 8 fun i hi => by
    rw [Nat.testBit_mod_two_pow, decide_eq_true hi, Bool.true_and, Nat.testBit_div_two_pow, Nat.add_comm]
  have h0 := key 0
  have h1 := key 8
  have h2 := key 16
  have h3 := key 24
  have h4 := key 32
  have h5 := key 40
  have h6 := key 48
  have h7 := key 56
  simp only [Nat.reducePow, Nat.div_one, Nat.zero_add] at h0 h1 h2 h3 h4 h5 h6 h7
  have a7 := gx_m_add (fun i => x.testBit i) 56 8
  have a6 := gx_m_add (fun i => x.testBit i) 48 8
  have a5 := gx_m_add (fun i => x.testBit i) 40 8
  have a4 := gx_m_add (fun i => x.testBit i) 32 8
  have a3 := gx_m_add (fun i => x.testBit i) 24 8
  have a2 := gx_m_add (fun i => x.testBit i) 16 8
  have a1 := gx_m_add (fun i => x.testBit i) 8 8
  simp only [Nat.reduceAdd] at a1 a2 a3 a4 a5 a6 a7
  omega
theorem pc_s2 {e0 e1 e2 e3 e4 e5 e6 e7 : Nat} (h0 : e0 ≤ 68) (h1 : e1 ≤ 68) (h2 : e2 ≤ 68) (h3 : e3 ≤ 68) (h4 : e4 ≤ 68) (h5 : e5 ≤ 68) (h6 : e6 ≤ 68) (h7 : e7 ≤ 68) : pc_W [e0, e1, e2, e3, e4, e5, e6, e7] < 18446744073709551616 ∧ pc_W [e0, e1, e2, e3, e4, e5, e6, e7] + pc_W [e0, e1, e2, e3, e4, e5, e6, e7] / 16 < 18446744073709551616 := by
  simp only [pc_W]
  omega
theorem pc_s3 {q0 q1 q2 q3 q4 q5 q6 q7 s a b : Nat} (h0 : q0 ≤ 8) (h1 : q1 ≤ 8) (h2 : q2 ≤ 8) (h3 : q3 ≤ 8) (h4 : q4 ≤ 8) (h5 : q5 ≤ 8) (h6 : q6 ≤ 8) (h7 : q7 ≤ 8) (hs : s = pc_W [q0, q1, q2, q3, q4, q5, q6, q7]) (ha : a = s + s / 256) (hb : b = a + a / 65536) : a < 18446744073709551616 ∧ b < 18446744073709551616 ∧ b + b / 4294967296 < 18446744073709551616 ∧ (b + b / 4294967296) % 128 = q0 + q1 + q2 + q3 + q4 + q5 + q6 + q7 := by
  simp only [pc_W] at hs
  have hs1 : s / 256 = q1 + 256 * (q2 + 256 * (q3 + 256 * (q4 + 256 * (q5 + 256 * (q6 + 256 * q7))))) := by omega
  have ea : a = (q0 + q1) + 256 * ((q1 + q2) + 256 * ((q2 + q3) + 256 * ((q3 + q4) + 256 * ((q4 + q5) + 256 * ((q5 + q6) + 256 * ((q6 + q7) + 256 * q7)))))) := by omega
  have ha1 : a / 65536 = (q2 + q3) + 256 * ((q3 + q4) + 256 * ((q4 + q5) + 256 * ((q5 + q6) + 256 * ((q6 + q7) + 256 * q7)))) := by omega
  have eb : b = (q0 + q1 + q2 + q3) + 256 * ((q1 + q2 + q3 + q4) + 256 * ((q2 + q3 + q4 + q5) + 256 * ((q3 + q4 + q5 + q6) + 256 * ((q4 + q5 + q6 + q7) + 256 * ((q5 + q6 + q7) + 256 * ((q6 + q7) + 256 * q7)))))) := by omega
  have hb1 : b / 4294967296 = (q4 + q5 + q6 + q7) + 256 * ((q5 + q6 + q7) + 256 * ((q6 + q7) + 256 * q7)) := by omega
  clear hs ha hb hs1 ha1
  omega
/-- what the method computes, on naturals -/
theorem pc_all {x : Nat} (hx : x < 18446744073709551616) : ∃ s1 s2 s3 a b : Nat, (x >>> 1) &&& 6148914691236517205 ≤ x ∧ s1 = x - ((x >>> 1) &&& 6148914691236517205) ∧ s2 = (s1 &&& 3689348814741910323) + ((s1 >>> 2) &&& 3689348814741910323) ∧ s2 < 18446744073709551616 ∧ s2 + s2 >>> 4 < 18446744073709551616 ∧ s3 = (s2 + s2 >>> 4) &&& 1085102592571150095 ∧ a = s3 + s3 >>> 8 ∧ a < 18446744073709551616 ∧ b = a + a >>> 16 ∧ b < 18446744073709551616 ∧ b + b >>> 32 < 18446744073709551616 ∧ (b + b >>> 32) % 128 = gx_m (fun i => x.testBit i) 64 := by
  have hB := pc_B_lt x
  have hW := pc_WB hx
  have m5 : pc_W ((pc_B x).map fun _ => 0x55) = 6148914691236517205 := by simp only [pc_B, List.map_cons, List.map_nil, pc_W]
  have h1 := pc_1 _ hB
  rw [m5, hW] at h1
  have h2 := pc_2 _ hB
  rw [hW, ← h1] at h2
  have hc : ∀ a ∈ (pc_B x).map pc_c, a < 256 := fun a ha => by
    obtain ⟨b, b1, rfl⟩ := List.mem_map.1 ha
    exact (pc_byte ⟨b, hB b b1⟩).2.1
  have m3 : pc_W (((pc_B x).map pc_c).map fun _ => 0x33) = 3689348814741910323 := by simp only [pc_B, List.map_cons, List.map_nil, pc_W]
  have h3 := pc_3 _ hc
  rw [m3, ← h2.2] at h3
  have hq : ∀ b, b < 256 → pc_e (pc_c b) % 16 ≤ 4 ∧ pc_e (pc_c b) / 16 ≤ 4 ∧ pc_e (pc_c b) % 16 + pc_e (pc_c b) / 16 = gx_m (fun i => b.testBit i) 8 := fun b hb => (pc_byte ⟨b, hb⟩).2.2
  have he : ∀ a ∈ ((pc_B x).map pc_c).map pc_e, a % 16 ≤ 4 ∧ a / 16 ≤ 4 := fun a ha => by
    obtain ⟨c, c1, rfl⟩ := List.mem_map.1 ha
    obtain ⟨b, b1, rfl⟩ := List.mem_map.1 c1
    have := hq b (hB b b1)
    exact ⟨this.1, this.2.1⟩
  have mf : pc_W ((((pc_B x).map pc_c).map pc_e).map fun _ => 0x0f) = 1085102592571150095 := by simp only [pc_B, List.map_cons, List.map_nil, pc_W]
  have h4 := pc_4 _ he
  rw [mf, ← h3] at h4
  have hb8 : ∀ b, b < 256 → pc_e (pc_c b) ≤ 68 ∧ pc_e (pc_c b) % 16 + pc_e (pc_c b) / 16 ≤ 8 := fun b hb => by have := hq b hb; omega
  have w0 : x % 256 < 256 := Nat.mod_lt _ (by decide)
  have w1 : x / 256 % 256 < 256 := Nat.mod_lt _ (by decide)
  have w2 : x / 65536 % 256 < 256 := Nat.mod_lt _ (by decide)
  have w3 : x / 16777216 % 256 < 256 := Nat.mod_lt _ (by decide)
  have w4 : x / 4294967296 % 256 < 256 := Nat.mod_lt _ (by decide)
  have w5 : x / 1099511627776 % 256 < 256 := Nat.mod_lt _ (by decide)
  have w6 : x / 281474976710656 % 256 < 256 := Nat.mod_lt _ (by decide)
  have w7 : x / 72057594037927936 % 256 < 256 := Nat.mod_lt _ (by decide)
  have z2 := pc_s2 (hb8 _ w0).1 (hb8 _ w1).1 (hb8 _ w2).1 (hb8 _ w3).1 (hb8 _ w4).1 (hb8 _ w5).1 (hb8 _ w6).1 (hb8 _ w7).1
  have z3 := pc_s3 (hb8 _ w0).2 (hb8 _ w1).2 (hb8 _ w2).2 (hb8 _ w3).2 (hb8 _ w4).2 (hb8 _ w5).2 (hb8 _ w6).2 (hb8 _ w7).2 h4 rfl rfl
  have hcnt := pc_cnt x
  rw [← (hq _ w0).2.2, ← (hq _ w1).2.2, ← (hq _ w2).2.2, ← (hq _ w3).2.2, ← (hq _ w4).2.2, ← (hq _ w5).2.2, ← (hq _ w6).2.2, ← (hq _ w7).2.2] at hcnt
  have d4 : ∀ n : Nat, n >>> 4 = n / 16 := fun n => Nat.shiftRight_eq_div_pow n 4
  have d8 : ∀ n : Nat, n >>> 8 = n / 256 := fun n => Nat.shiftRight_eq_div_pow n 8
  have d16 : ∀ n : Nat, n >>> 16 = n / 65536 := fun n => Nat.shiftRight_eq_div_pow n 16
  have d32 : ∀ n : Nat, n >>> 32 = n / 4294967296 := fun n => Nat.shiftRight_eq_div_pow n 32
  refine ⟨_, _, _, _, _, h2.1, rfl, rfl, ?_, ?_, rfl, rfl, ?_, rfl, ?_, ?_, ?_⟩
  · rw [h3]; exact z2.1
  · rw [d4, h3]; exact z2.2
  · rw [d4, d8]; exact z3.1
  · rw [d4, d8, d16]; exact z3.2.1
  · rw [d4, d8, d16, d32]; exact z3.2.2.1
  · rw [d4, d8, d16, d32, hcnt]; exact z3.2.2.2
/-! the same on longs -/
def pc_n (z : Int) : Nat := (Int64.ofInt z).toBitVec.toNat
theorem pc_n_lt (z : Int) : pc_n z < 18446744073709551616 := (Int64.ofInt z).toBitVec.isLt
theorem pc_n_add (a b : Int) : pc_n (a + b) = (pc_n a + pc_n b) % 18446744073709551616 := by
  unfold pc_n
  rw [← ab_addl, Int64.toBitVec_add, BitVec.toNat_add]
theorem pc_n_sub {a b : Int} (h : pc_n b ≤ pc_n a) : pc_n (a - b) = pc_n a - pc_n b := by
  unfold pc_n at h ⊢
  rw [← ab_subl, Int64.toBitVec_sub, BitVec.toNat_sub_of_le h]
theorem pc_n_and (a b : Int) : pc_n (ab_land a b) = pc_n a &&& pc_n b := by
  unfold pc_n
  rw [← ab_land_i, Int64.toBitVec_and, BitVec.toNat_and]
theorem pc_n_shr (a : Int) {k : Nat} (hk : ((Int32.ofInt ((k : Nat) : Int)).toInt64.toUInt64 &&& Int64.toUInt64 63).toNat % 64 = k) : pc_n (ab_lushr a ((k : Nat) : Int)) = pc_n a >>> k := by
  unfold pc_n
  rw [← ab_lushr_i]
  show ((Int64.ofInt a).toUInt64 >>> _).toNat = _
  rw [UInt64.toNat_shiftRight, hk]
  rfl
theorem pc_and127 (z : Int) : ab_and z 127 = ((pc_n z % 128 : Nat) : Int) := by
  have e1 : (Int32.ofInt z).toBitVec.toNat % 128 = pc_n z % 128 := by
    unfold pc_n
    rw [Int32.toBitVec_ofInt, Int64.toBitVec_ofInt, BitVec.toNat_ofInt, BitVec.toNat_ofInt]
    omega
  have e2 : (Int32.ofInt z).toBitVec.toNat &&& (Int32.ofInt 127).toBitVec.toNat = (Int32.ofInt z).toBitVec.toNat % 128 := by
    rw [show (Int32.ofInt 127).toBitVec.toNat = 2 ^ 7 - 1 from by decide +kernel, Nat.and_two_pow_sub_one_eq_mod]
  unfold ab_and
  have e : (Int32.ofInt z &&& Int32.ofInt 127).toInt = (((Int32.ofInt z).toBitVec.toNat &&& (Int32.ofInt 127).toBitVec.toNat : Nat) : Int) := by
    rw [← Int32.toInt_toBitVec, Int32.toBitVec_and, BitVec.toInt_eq_toNat_of_lt, BitVec.toNat_and]
    rw [BitVec.toNat_and, e2]
    omega
  rw [e, e2, e1]
theorem pc_bit (x : Int) (b : Nat) : pz_lb x b = (pc_n x).testBit b := rfl
theorem pc_long (x x1 x2 x3 x4 x5 x6 : Int) (h1 : x1 = x - ab_land (ab_lushr x 1) 6148914691236517205) (h2 : x2 = ab_land x1 3689348814741910323 + ab_land (ab_lushr x1 2) 3689348814741910323) (h3 : x3 = ab_land (x2 + ab_lushr x2 4) 1085102592571150095) (h4 : x4 = x3 + ab_lushr x3 8) (h5 : x5 = x4 + ab_lushr x4 16) (h6 : x6 = x5 + ab_lushr x5 32) : ab_and x6 127 = ((gx_m (pz_lb x) 64 : Nat) : Int) := by
  have c5 : pc_n 6148914691236517205 = 6148914691236517205 := by decide +kernel
  have c3 : pc_n 3689348814741910323 = 3689348814741910323 := by decide +kernel
  have cf : pc_n 1085102592571150095 = 1085102592571150095 := by decide +kernel
  have k1 : ∀ z, pc_n (ab_lushr z 1) = pc_n z >>> 1 := fun z => pc_n_shr z (k := 1) (by decide +kernel)
  have k2 : ∀ z, pc_n (ab_lushr z 2) = pc_n z >>> 2 := fun z => pc_n_shr z (k := 2) (by decide +kernel)
  have k4 : ∀ z, pc_n (ab_lushr z 4) = pc_n z >>> 4 := fun z => pc_n_shr z (k := 4) (by decide +kernel)
  have k8 : ∀ z, pc_n (ab_lushr z 8) = pc_n z >>> 8 := fun z => pc_n_shr z (k := 8) (by decide +kernel)
  have k16 : ∀ z, pc_n (ab_lushr z 16) = pc_n z >>> 16 := fun z => pc_n_shr z (k := 16) (by decide +kernel)
  have k32 : ∀ z, pc_n (ab_lushr z 32) = pc_n z >>> 32 := fun z => pc_n_shr z (k := 32) (by decide +kernel)
  obtain ⟨s1, s2, s3, a, b, g1, g2, g3, g4, g5, g6, g7, g8, g9, g10, g11, g12⟩ := pc_all (pc_n_lt x)
  have n1 : pc_n x1 = s1 := by
    rw [h1, pc_n_sub (by rw [pc_n_and, k1, c5]; exact g1), pc_n_and, k1, c5, g2]
  have n2 : pc_n x2 = s2 := by
    rw [h2, pc_n_add, pc_n_and, pc_n_and, k2, c3, n1, ← g3]
    exact Nat.mod_eq_of_lt g4
  have n3 : pc_n x3 = s3 := by
    rw [h3, pc_n_and, pc_n_add, k4, cf, n2, Nat.mod_eq_of_lt g5, g6]
  have n4 : pc_n x4 = a := by
    rw [h4, pc_n_add, k8, n3, ← g7]
    exact Nat.mod_eq_of_lt g8
  have n5 : pc_n x5 = b := by
    rw [h5, pc_n_add, k16, n4, ← g9]
    exact Nat.mod_eq_of_lt g10
  have n6 : pc_n x6 = b + b >>> 32 := by
    rw [h6, pc_n_add, k32, n5]
    exact Nat.mod_eq_of_lt g11
  rw [pc_and127, n6, g12]
  rfl
