/-! whole numbers behind the machine's -/
theorem ab_i32 {z : Int} (h : ab_ir z) : (Int32.ofInt z).toInt = z := Int32.toInt_ofInt_of_le (by have := h.1; omega) (by have := h.2; omega)
theorem ab_i64 {z : Int} (h : ab_lr z) : (Int64.ofInt z).toInt = z := Int64.toInt_ofInt_of_le (by have := h.1; omega) (by have := h.2; omega)
theorem ab_ilt {a b : Int} (ha : ab_ir a) (hb : ab_ir b) : Int32.ofInt a < Int32.ofInt b ↔ a < b := by rw [Int32.lt_iff_toInt_lt, ab_i32 ha, ab_i32 hb]
theorem ab_ile {a b : Int} (ha : ab_ir a) (hb : ab_ir b) : Int32.ofInt a ≤ Int32.ofInt b ↔ a ≤ b := by rw [Int32.le_iff_toInt_le, ab_i32 ha, ab_i32 hb]
theorem ab_ieq {a b : Int} (ha : ab_ir a) (hb : ab_ir b) : Int32.ofInt a = Int32.ofInt b ↔ a = b := by rw [← Int32.toInt_inj, ab_i32 ha, ab_i32 hb]
theorem ab_in {i : Int} {n : Nat} (h : 0 ≤ i ∧ i < (n : Int)) (hn : n < 2 ^ 31) : vp_in (Int32.ofInt i) n := by
  have hr : ab_ir i := ⟨by omega, by omega⟩
  rw [vp_in_iff, ab_i32 hr]
  exact h
theorem ab_cl0 {i : Int} {n : Nat} (h : 0 ≤ i ∧ i < (n : Int)) (hn : n < 2 ^ 31) : (Int32.ofInt i).toNatClampNeg = i.toNat := by
  have hr : ab_ir i := ⟨by omega, by omega⟩
  show ((Int32.ofInt i).toInt).toNat = i.toNat
  rw [ab_i32 hr]
theorem ab_cl1 {i : Int} (h0 : 0 ≤ i) (h1 : i < 2147483648) : (Int32.ofInt i).toNatClampNeg = i.toNat := by
  have hr : ab_ir i := ⟨by omega, by omega⟩
  show ((Int32.ofInt i).toInt).toNat = i.toNat
  rw [ab_i32 hr]
theorem ab_add (a b : Int) : Int32.ofInt a + Int32.ofInt b = Int32.ofInt (a + b) := Int32.toInt_inj.1 (by simp)
theorem ab_sub (a b : Int) : Int32.ofInt a - Int32.ofInt b = Int32.ofInt (a - b) := Int32.toInt_inj.1 (by simp)
theorem ab_mul (a b : Int) : Int32.ofInt a * Int32.ofInt b = Int32.ofInt (a * b) := Int32.toInt_inj.1 (by simp)
theorem ab_addl (a b : Int) : Int64.ofInt a + Int64.ofInt b = Int64.ofInt (a + b) := Int64.toInt_inj.1 (by simp)
theorem ab_subl (a b : Int) : Int64.ofInt a - Int64.ofInt b = Int64.ofInt (a - b) := Int64.toInt_inj.1 (by simp)
theorem ab_mull (a b : Int) : Int64.ofInt a * Int64.ofInt b = Int64.ofInt (a * b) := Int64.toInt_inj.1 (by simp)
theorem ab_div {a b : Int} (h : 0 ≤ a ∧ a < 2147483648 ∧ 0 < b ∧ b < 2147483648) : Int32.ofInt a / Int32.ofInt b = Int32.ofInt (a / b) := by
  obtain ⟨h1, h2, h3, h4⟩ := h
  have ha : ab_ir a := ⟨by omega, h2⟩
  have hb : ab_ir b := ⟨by omega, h4⟩
  have hq0 : 0 ≤ a / b := Int.ediv_nonneg h1 (by omega)
  have hq1 : a / b ≤ a := Int.ediv_le_self _ h1
  apply Int32.toInt_inj.1
  rw [Int32.toInt_div_of_ne_right _ _ (fun h => by
    have := congrArg Int32.toInt h
    rw [ab_i32 hb] at this
    have h5 : (-1 : Int32).toInt = -1 := by decide
    rw [h5] at this; omega), ab_i32 ha, ab_i32 hb, ab_i32 ⟨by omega, by omega⟩, Int.tdiv_eq_ediv_of_nonneg h1]
theorem ab_rem {a b : Int} (h : 0 ≤ a ∧ a < 2147483648 ∧ 0 < b ∧ b < 2147483648) : Int32.ofInt a - Int32.ofInt a / Int32.ofInt b * Int32.ofInt b = Int32.ofInt (a % b) := by
  rw [ab_div h, ab_mul, ab_sub]
  congr 1
  have := Int.mul_ediv_add_emod a b
  rw [Int.mul_comm] at this
  omega
theorem ab_and_i (a b : Int) : Int32.ofInt a &&& Int32.ofInt b = Int32.ofInt (ab_and a b) := (Int32.ofInt_toInt _).symm
theorem ab_or_i (a b : Int) : Int32.ofInt a ||| Int32.ofInt b = Int32.ofInt (ab_or a b) := (Int32.ofInt_toInt _).symm
theorem ab_xor_i (a b : Int) : Int32.ofInt a ^^^ Int32.ofInt b = Int32.ofInt (ab_xor a b) := (Int32.ofInt_toInt _).symm
theorem ab_shl_i (a b : Int) : Int32.ofInt a <<< (Int32.ofInt b &&& 31) = Int32.ofInt (ab_shl a b) := (Int32.ofInt_toInt _).symm
theorem ab_shr_i (a b : Int) : Int32.ofInt a >>> (Int32.ofInt b &&& 31) = Int32.ofInt (ab_shr a b) := (Int32.ofInt_toInt _).symm
theorem ab_ushr_i (a b : Int) : ((Int32.ofInt a).toUInt32 >>> ((Int32.ofInt b).toUInt32 &&& Int32.toUInt32 31)).toInt32 = Int32.ofInt (ab_ushr a b) := (Int32.ofInt_toInt _).symm
theorem ab_land_i (a b : Int) : Int64.ofInt a &&& Int64.ofInt b = Int64.ofInt (ab_land a b) := (Int64.ofInt_toInt _).symm
theorem ab_lor_i (a b : Int) : Int64.ofInt a ||| Int64.ofInt b = Int64.ofInt (ab_lor a b) := (Int64.ofInt_toInt _).symm
theorem ab_lxor_i (a b : Int) : Int64.ofInt a ^^^ Int64.ofInt b = Int64.ofInt (ab_lxor a b) := (Int64.ofInt_toInt _).symm
theorem ab_lshl_i (a b : Int) : Int64.ofInt a <<< ((Int32.ofInt b).toInt64 &&& 63) = Int64.ofInt (ab_lshl a b) := (Int64.ofInt_toInt _).symm
theorem ab_lshr_i (a b : Int) : Int64.ofInt a >>> ((Int32.ofInt b).toInt64 &&& 63) = Int64.ofInt (ab_lshr a b) := (Int64.ofInt_toInt _).symm
theorem ab_lushr_i (a b : Int) : ((Int64.ofInt a).toUInt64 >>> ((Int32.ofInt b).toInt64.toUInt64 &&& Int64.toUInt64 63)).toInt64 = Int64.ofInt (ab_lushr a b) := (Int64.ofInt_toInt _).symm
theorem ab_l2i (a : Int) : (Int64.ofInt a).toInt32 = Int32.ofInt a := Int64.toInt32_ofInt
theorem ab_i2l {a : Int} (h : ab_ir a) : (Int32.ofInt a).toInt64 = Int64.ofInt a := Int32.toInt64_ofInt (by have := h.1; rw [show Int32.minValue.toInt = -2147483648 from by decide +kernel]; omega) (by have := h.2; rw [show Int32.maxValue.toInt = 2147483647 from by decide +kernel]; omega)
theorem ab_i2b {a : Int} (h : -128 ≤ a ∧ a < 128) : (Int32.ofInt a).toInt8.toInt32 = Int32.ofInt a := by
  rw [Int32.toInt8_ofInt]
  exact Int8.toInt32_ofInt (by have := h.1; rw [show Int8.minValue.toInt = -128 from by decide +kernel]; omega) (by have := h.2; rw [show Int8.maxValue.toInt = 127 from by decide +kernel]; omega)
theorem ab_bipush {a : Int} (h : -128 ≤ a ∧ a < 128) : (Int8.ofInt a).toInt32 = Int32.ofInt a := Int8.toInt32_ofInt (by have := h.1; rw [show Int8.minValue.toInt = -128 from by decide +kernel]; omega) (by have := h.2; rw [show Int8.maxValue.toInt = 127 from by decide +kernel]; omega)
theorem ab_sipush {a : Int} (h : -32768 ≤ a ∧ a < 32768) : (Int16.ofInt a).toInt32 = Int32.ofInt a := Int16.toInt32_ofInt (by have := h.1; rw [show Int16.minValue.toInt = -32768 from by decide +kernel]; omega) (by have := h.2; rw [show Int16.maxValue.toInt = 32767 from by decide +kernel]; omega)
theorem ab_nat {a : Int} (h : 0 ≤ a) : Int32.ofInt a = nI a.toNat := by
  show _ = Int32.ofNat _
  rw [← Int32.ofInt_eq_ofNat, Int.toNat_of_nonneg h]
theorem ab_i2c {a : Int} (h : 0 ≤ a ∧ a < 65536) : ((Int32.ofInt a).toUInt32 % 65536).toInt32 = Int32.ofInt a := by
  rw [pk_char, ab_nat h.1, pk_tn (by omega), Nat.mod_eq_of_lt (by omega)]
theorem ab_narc {a : Int} (h : 0 ≤ a ∧ a < 65536) : vp_nar .char (Int32.ofInt a) = Int32.ofInt a := by
  rw [ab_nat h.1]
  have := (pk_charN (q := a.toNat) (by omega)).1
  show (match narrow .char (.int (nI a.toNat)) with | .int y => y | _ => 0) = _
  rw [this]
theorem ab_narb {a : Int} (h : -128 ≤ a ∧ a < 128) : vp_nar .byte (Int32.ofInt a) = Int32.ofInt a := by
  rw [vp_nar_byte, ab_i2b h]
theorem ab_narz {a : Int} (h : a = 0 ∨ a = 1) : narrow .boolean (.int (Int32.ofInt a)) = .int (Int32.ofInt a) := by
  rcases h with rfl | rfl <;> decide +kernel
theorem ab_narz2 {a : Int} (h : a = 0 ∨ a = 1) : vp_nar .boolean (Int32.ofInt a) = Int32.ofInt a := by
  rcases h with rfl | rfl <;> decide +kernel
theorem ab_fitz {a : Int} (h : a = 0 ∨ a = 1) : fits .boolean (.int (Int32.ofInt a)) = true := by
  rcases h with rfl | rfl <;> decide +kernel
theorem ab_fitc {a : Int} (h : 0 ≤ a ∧ a < 65536) : fits .char (.int (Int32.ofInt a)) = true := by
  rw [ab_nat h.1]
  exact (pk_charN (q := a.toNat) (by omega)).2
theorem ab_lgc {a b : Int} (h : a = b ∨ (ab_lr a ∧ ab_lr b)) : lg_cmp (Int64.ofInt a) (Int64.ofInt b) = Int32.ofInt (if b < a then 1 else if a = b then 0 else -1) := by
  rcases h with rfl | ⟨ha, hb⟩
  · have h1 : ¬ (Int64.ofInt a > Int64.ofInt a) := by
      rw [gt_iff_lt, Int64.lt_iff_toInt_lt]; omega
    rw [lg_cmp, if_neg h1, if_pos rfl, if_neg (by omega), if_pos rfl]
    rfl
  · have e1 : (Int64.ofInt a > Int64.ofInt b) ↔ b < a := by rw [gt_iff_lt, Int64.lt_iff_toInt_lt, ab_i64 ha, ab_i64 hb]
    have e2 : (Int64.ofInt a = Int64.ofInt b) ↔ a = b := by rw [← Int64.toInt_inj, ab_i64 ha, ab_i64 hb]
    rw [lg_cmp]
    by_cases h1 : b < a
    · rw [if_pos (e1.2 h1), if_pos h1]; rfl
    · rw [if_neg (fun h => h1 (e1.1 h)), if_neg h1]
      by_cases h2 : a = b
      · rw [if_pos (e2.2 h2), if_pos h2]; rfl
      · rw [if_neg (fun h => h2 (e2.1 h)), if_neg h2]; rfl
/-! lists of locals -/
def ab_lv (S : Nat) (L : List ab_V) : List (Nat × Value) := (List.range L.length).filterMap fun j => match ab_ld L j with
  | .inl _ => none
  | v => some (j, ab_cv S v)
theorem ab_lv_mem {S : Nat} {L : List ab_V} {q : Nat × Value} : q ∈ ab_lv S L ↔ q.1 < L.length ∧ ab_ld L q.1 ≠ .inl () ∧ q.2 = ab_cv S (ab_ld L q.1) := by
  unfold ab_lv
  rw [List.mem_filterMap]
  constructor
  · rintro ⟨j, hj, h⟩
    rw [List.mem_range] at hj
    cases hv : ab_ld L j with
    | inl u => rw [hv] at h; cases h
    | inr u => rw [hv] at h; cases h; exact ⟨hj, by rw [hv]; exact fun h => (by cases h), by rw [hv]⟩
  · rintro ⟨h1, h2, h3⟩
    refine ⟨q.1, List.mem_range.mpr h1, ?_⟩
    cases hv : ab_ld L q.1 with
    | inl u => exact absurd hv (by rw [show (Sum.inl u : ab_V) = .inl () from rfl]; exact h2)
    | inr u => rw [hv] at h3; obtain ⟨a, b⟩ := q; cases h3; rfl
theorem ab_pu_len (L : List ab_V) (i : Nat) (v : ab_V) : (ab_pu L i v).length = L.length := by
  induction L generalizing i with
  | nil => simp [ab_pu]
  | cons w t ih => cases i <;> simp [ab_pu, ih]
theorem ab_ld_pu (L : List ab_V) (i j : Nat) (v : ab_V) : ab_ld (ab_pu L i v) j = if j = i ∧ i < L.length then v else ab_ld L j := by
  induction L generalizing i j with
  | nil => simp [ab_pu, ab_ld]
  | cons w t ih =>
    cases i with
    | zero => cases j <;> simp [ab_pu, ab_ld]
    | succ i =>
      cases j with
      | zero => simp [ab_pu, ab_ld]
      | succ j => simp [ab_pu, ab_ld, ih]
theorem ab_ld_lt {L : List ab_V} {i : Nat} (h : ab_ld L i ≠ .inl ()) : i < L.length := by
  induction L generalizing i with
  | nil => exact absurd rfl h
  | cons w t ih =>
    cases i with
    | zero => simp
    | succ i => have := ih (i := i) h; simp; omega
theorem ab_ld_mem {L : List ab_V} {i : Nat} (h : ab_ld L i ≠ .inl ()) : ab_ld L i ∈ L := by
  induction L generalizing i with
  | nil => exact absurd rfl h
  | cons w t ih =>
    cases i with
    | zero => exact List.mem_cons_self
    | succ i => exact List.mem_cons_of_mem _ (ih (i := i) h)
theorem ab_pu_wf {L : List ab_V} {i : Nat} {v : ab_V} (h : ∀ w ∈ L, ab_wf w) (hv : ab_wf v) : ∀ w ∈ ab_pu L i v, ab_wf w := by
  induction L generalizing i with
  | nil => exact h
  | cons a t ih =>
    cases i with
    | zero =>
      intro w hw
      rcases List.mem_cons.mp hw with rfl | hw
      · exact hv
      · exact h w (List.mem_cons_of_mem _ hw)
    | succ i =>
      intro w hw
      rcases List.mem_cons.mp hw with rfl | hw
      · exact h w List.mem_cons_self
      · exact ih (fun w hw => h w (List.mem_cons_of_mem _ hw)) w hw
theorem ab_s1_len (L : List ab_V) (i : Nat) (v : ab_V) : (ab_s1 L i v).length = L.length := by
  unfold ab_s1
  split
  · exact ab_pu_len _ _ _
  · split
    · rw [ab_pu_len, ab_pu_len]
    · exact ab_pu_len _ _ _
theorem ab_s2_len (L : List ab_V) (i : Nat) (v : ab_V) : (ab_s2 L i v).length = L.length := by rw [ab_s2, ab_pu_len, ab_s1_len]
theorem ab_s1_wf {L : List ab_V} {i : Nat} {v : ab_V} (h : ∀ w ∈ L, ab_wf w) (hv : ab_wf v) : ∀ w ∈ ab_s1 L i v, ab_wf w := by
  unfold ab_s1
  split
  · exact ab_pu_wf h hv
  · split
    · exact ab_pu_wf (ab_pu_wf h trivial) hv
    · exact ab_pu_wf h hv
theorem ab_s2_wf {L : List ab_V} {i : Nat} {v : ab_V} (h : ∀ w ∈ L, ab_wf w) (hv : ab_wf v) : ∀ w ∈ ab_s2 L i v, ab_wf w := ab_pu_wf (ab_s1_wf h hv) trivial
theorem ab_cat_cv (S : Nat) (v : ab_V) : (ab_cv S v).category = 2 ↔ ∃ z, v = .inr (.inr (.inl z)) := by
  rcases v with u | z | z | ⟨o, c, n⟩ <;> simp [ab_cv, Value.category]
/-- what a store leaves -/
theorem ab_s1_mem {S : Nat} {L : List ab_V} {i : Nat} {v : ab_V} (hi : i < L.length) {q : Nat × Value} (hq : q ∈ ab_lv S (ab_s1 L i v)) :
    q ∈ (i, ab_cv S v) :: (ab_lv S L).filter (fun q => !(q.1 == i) && !(q.1 + 1 == i && q.2.category == 2)) := by
  obtain ⟨h1, h2, h3⟩ := ab_lv_mem.mp hq
  rw [ab_s1_len] at h1
  by_cases hqi : q.1 = i
  · have e : ab_ld (ab_s1 L i v) q.1 = v := by
      rw [hqi]
      unfold ab_s1
      split
      · rw [ab_ld_pu, if_pos ⟨rfl, hi⟩]
      · split
        · rw [ab_ld_pu, ab_pu_len, if_pos ⟨rfl, hi⟩]
        · rw [ab_ld_pu, if_pos ⟨rfl, hi⟩]
    rw [e] at h3
    obtain ⟨a, b⟩ := q
    subst h3
    dsimp only at hqi
    subst hqi
    exact List.mem_cons_self
  · refine List.mem_cons_of_mem _ (List.mem_filter.mpr ?_)
    have key : ab_ld (ab_s1 L i v) q.1 = ab_ld L q.1 ∧ ¬ (q.1 + 1 = i ∧ (ab_cv S (ab_ld L q.1)).category = 2) := by
      unfold ab_s1 at h2 ⊢
      split at h2
      · rw [ab_ld_pu, if_neg (fun h => hqi h.1)]
        exact ⟨rfl, fun h => by omega⟩
      · rename_i j
        split at h2
        · rename_i z hz
          rw [ab_ld_pu, if_neg (fun h => hqi h.1), ab_ld_pu] at h2 ⊢
          by_cases hqj : q.1 = j
          · rw [if_pos ⟨hqj, by omega⟩] at h2
            exact absurd rfl h2
          · rw [if_neg (fun h => hqj h.1)]
            exact ⟨rfl, fun h => hqj (by omega)⟩
        · rename_i hz
          rw [ab_ld_pu, if_neg (fun h => hqi h.1)]
          refine ⟨rfl, fun h => ?_⟩
          obtain ⟨z, h5⟩ := (ab_cat_cv S _).mp h.2
          have : q.1 = j := by omega
          rw [this] at h5
          exact hz z h5
    rw [key.1] at h2 h3
    refine ⟨ab_lv_mem.mpr ⟨h1, h2, h3⟩, ?_⟩
    have k2 := key.2
    rw [← h3] at k2
    simp only [Bool.and_eq_true, Bool.not_eq_true', beq_eq_false_iff_ne, ne_eq, Bool.and_eq_false_iff]
    refine ⟨hqi, ?_⟩
    by_cases h6 : q.1 + 1 = i
    · exact Or.inr fun h7 => k2 ⟨h6, h7⟩
    · exact Or.inl h6
theorem ab_s2_mem {S : Nat} {L : List ab_V} {i : Nat} {v : ab_V} (hi : i + 1 < L.length) {q : Nat × Value} (hq : q ∈ ab_lv S (ab_s2 L i v)) :
    q ∈ (i, ab_cv S v) :: (ab_lv S L).filter (fun q => !(q.1 == i) && (!(q.1 == i + 1) && !(q.1 + 1 == i && q.2.category == 2))) := by
  obtain ⟨h1, h2, h3⟩ := ab_lv_mem.mp hq
  unfold ab_s2 at h1 h2 h3
  rw [ab_pu_len] at h1
  rw [ab_ld_pu] at h2 h3
  by_cases hq1 : q.1 = i + 1
  · rw [if_pos ⟨hq1, by rw [ab_s1_len]; exact hi⟩] at h2
    exact absurd rfl h2
  · rw [if_neg (fun h => hq1 h.1)] at h2 h3
    have h4 := ab_s1_mem (S := S) (v := v) (Nat.lt_of_succ_lt hi) (ab_lv_mem.mpr ⟨h1, h2, h3⟩)
    rcases List.mem_cons.mp h4 with h5 | h5
    · rw [h5]; exact List.mem_cons_self
    · obtain ⟨h6, h7⟩ := List.mem_filter.mp h5
      refine List.mem_cons_of_mem _ (List.mem_filter.mpr ⟨h6, ?_⟩)
      simp only [Bool.and_eq_true, Bool.not_eq_true', beq_eq_false_iff_ne, ne_eq, Bool.and_eq_false_iff] at h7 ⊢
      exact ⟨h7.1, hq1, h7.2⟩
