/-! texts change -/
/-- a text's letters -/
abbrev tx (M : ab_M) (o : Nat) : List Int := pz_ls (M (o + 1)) (M o 1)
def tx_ok (M : ab_M) (o : Nat) : Prop := (0 ≤ M o 1 ∧ M o 1 ≤ (if o = 1 then 120 else 640)) ∧ ∀ j, 0 ≤ M (o + 1) j ∧ M (o + 1) j < 256
theorem tx_len (M : ab_M) (o : Nat) (h : 0 ≤ M o 1) : (((tx M o).length : Nat) : Int) = M o 1 := by rw [pz_ls_len]; omega
/-- letters between two places that are no spaces -/
def ap_l (f : Nat → Int) (b : Int) (n : Nat) : List Int := ((List.range n).map fun j => f (b.toNat + j)).filter fun c => decide (c ≠ 32)
theorem ap_l_s (f : Nat → Int) (b : Int) (n : Nat) : ap_l f b (n + 1) = ap_l f b n ++ (if f (b.toNat + n) = 32 then [] else [f (b.toNat + n)]) := by
  unfold ap_l
  rw [List.range_succ, List.map_append, List.filter_append]
  congr 1
  show [f (b.toNat + n)].filter _ = _
  by_cases c : f (b.toNat + n) = 32
  · rw [if_pos c, List.filter_cons_of_neg (by rw [decide_eq_true_iff]; exact fun h => h c)]; rfl
  · rw [if_neg c, List.filter_cons_of_pos (by rw [decide_eq_true_iff]; exact c)]; rfl
theorem ap_l_le (f : Nat → Int) (b : Int) {n m : Nat} (h : n ≤ m) : (ap_l f b n).length ≤ (ap_l f b m).length := by
  induction m with
  | zero => rw [show n = 0 by omega]; exact Nat.le_refl _
  | succ m ih =>
    by_cases e : n = m + 1
    · rw [e]; exact Nat.le_refl _
    · have := ih (by omega)
      rw [ap_l_s, List.length_append]
      omega
def ap_I (M M1 : ab_M) (q : Nat) (b i : Int) : Prop := (∀ o k : Nat, o ≠ 6 → ¬ (o = 5 ∧ k = 1) → M1 o k = M o k) ∧ tx_ok M1 5 ∧ tx M1 5 = tx M 5 ++ ap_l (M (q + 1)) b (i - b).toNat
theorem ap_I.no {M M1 : ab_M} {q : Nat} {b i : Int} (h : ap_I M M1 q b i) (hb : 0 ≤ b ∧ b ≤ i) (hc : M (q + 1) i.toNat = 32) : ap_I M M1 q b (i + 1) := by
  obtain ⟨h1, h2, h3⟩ := h
  refine ⟨h1, h2, ?_⟩
  rw [show (i + 1 - b).toNat = (i - b).toNat + 1 by omega, ap_l_s, show b.toNat + (i - b).toNat = i.toNat by omega, if_pos hc, List.append_nil]
  exact h3
theorem ap_I.yes {M M1 : ab_M} {q : Nat} {b i : Int} (h : ap_I M M1 q b i) (hb : 0 ≤ b ∧ b ≤ i) (hc : ¬ M (q + 1) i.toNat = 32) (hr : 0 ≤ M (q + 1) i.toNat ∧ M (q + 1) i.toNat < 256) (hl : M1 5 1 < 640) : ap_I M (ab_up (ab_up M1 6 (M1 5 1).toNat (M (q + 1) i.toNat)) 5 1 (M1 5 1 + 1)) q b (i + 1) := by
  obtain ⟨h1, ⟨⟨h2, h3⟩, h4⟩, h5⟩ := h
  refine ⟨fun o k x y => by rw [up_ne y, ab_up_o x]; exact h1 o k x y, ⟨?_, fun j => ?_⟩, ?_⟩
  · rw [ab_up_s, if_neg (by decide)]; exact ⟨by omega, by omega⟩
  · rw [ab_up_o (by decide)]
    by_cases c : j = (M1 5 1).toNat
    · rw [c, ab_up_s]; exact hr
    · rw [ab_up_k c]; exact h4 j
  · rw [show (i + 1 - b).toNat = (i - b).toNat + 1 by omega, ap_l_s, show b.toNat + (i - b).toNat = i.toNat by omega, if_neg hc, ← List.append_assoc, ← h5]
    show pz_ls (ab_up (ab_up M1 6 (M1 5 1).toNat (M (q + 1) i.toNat)) 5 1 (M1 5 1 + 1) 6) (ab_up (ab_up M1 6 (M1 5 1).toNat (M (q + 1) i.toNat)) 5 1 (M1 5 1 + 1) 5 1) = _
    rw [ab_up_s, pz_ls_succ _ h2]
    congr 1
    · exact pz_ls_congr fun j hj => by rw [ab_up_o (by decide), ab_up_k (by omega)]
    · rw [ab_up_o (by decide), ab_up_s]
/-- a text becomes another -/
def bc_m (M : ab_M) (o q : Nat) : ab_M := ab_cpy (ab_up M o 1 (if (640 : Int) < M q 1 then 640 else M q 1)) (q + 1) 0 (o + 1) 0 (if (640 : Int) < M q 1 then 640 else M q 1)
theorem bc_m_f (M : ab_M) (o q : Nat) : ∀ o' k : Nat, ¬ (o' = o ∧ k = 1) → o' ≠ o + 1 → bc_m M o q o' k = M o' k := fun o' k h1 h2 => by
  unfold bc_m
  rw [ab_cpy_o h2]
  exact up_ne h1
theorem bc_m_t {M : ab_M} {o q : Nat} (ho : 2 ≤ o) (hq : q ≠ o ∧ q + 1 ≠ o ∧ o + 1 ≠ q) (h : 0 ≤ M q 1 ∧ M q 1 ≤ 640) : bc_m M o q o 1 = M q 1 ∧ (∀ k : Nat, (k : Int) < M q 1 → bc_m M o q (o + 1) k = M (q + 1) k) ∧ ∀ k : Nat, M q 1 ≤ (k : Int) → bc_m M o q (o + 1) k = M (o + 1) k := by
  have e : (if (640 : Int) < M q 1 then 640 else M q 1) = M q 1 := if_neg (by omega)
  have z0 : (0 : Int).toNat = 0 := rfl
  unfold bc_m
  rw [e]
  refine ⟨?_, fun k hk => ?_, fun k hk => ?_⟩
  · rw [ab_cpy_o (by omega)]
    exact ab_up_s
  · rw [ab_cpy_a, z0, if_pos ⟨by omega, by omega⟩, ab_up_o (by omega), Nat.zero_add, Nat.sub_zero]
  · rw [ab_cpy_a, z0, if_neg (by omega), ab_up_o (by omega)]
theorem bc_m_tx {M : ab_M} {o q : Nat} (ho : 2 ≤ o) (hq : q ≠ o ∧ q + 1 ≠ o ∧ o + 1 ≠ q) (h : 0 ≤ M q 1 ∧ M q 1 ≤ 640) : tx (bc_m M o q) o = tx M q := by
  obtain ⟨h1, h2, -⟩ := bc_m_t ho hq h
  show pz_ls (bc_m M o q (o + 1)) (bc_m M o q o 1) = _
  rw [h1]
  exact pz_ls_congr fun j hj => h2 j (by omega)
theorem bc_m_ok {M : ab_M} {o q : Nat} (ho : 2 ≤ o) (hq : q ≠ o ∧ q + 1 ≠ o ∧ o + 1 ≠ q) (h : tx_ok M q) (h2 : tx_ok M o) : tx_ok (bc_m M o q) o := by
  have hb : 0 ≤ M q 1 ∧ M q 1 ≤ 640 := by
    obtain ⟨⟨a, b⟩, -⟩ := h
    split at b <;> omega
  obtain ⟨h3, h4, h5⟩ := bc_m_t ho hq hb
  refine ⟨by rw [h3, if_neg (by omega)]; exact hb, fun j => ?_⟩
  by_cases c : (j : Int) < M q 1
  · rw [h4 j c]; exact h.2 j
  · rw [h5 j (by omega)]; exact h2.2 j
theorem bc_m_o {M : ab_M} {o q o' : Nat} (h : o' ≠ o ∧ o' ≠ o + 1 ∧ o' + 1 ≠ o) : tx (bc_m M o q) o' = tx M o' ∧ (tx_ok M o' → tx_ok (bc_m M o q) o') := by
  have e1 : bc_m M o q o' 1 = M o' 1 := bc_m_f _ _ _ _ _ (by omega) (by omega)
  have e2 : ∀ k, bc_m M o q (o' + 1) k = M (o' + 1) k := fun k => bc_m_f _ _ _ _ _ (by omega) (by omega)
  refine ⟨?_, fun h => ?_⟩
  · show pz_ls (bc_m M o q (o' + 1)) (bc_m M o q o' 1) = _
    rw [e1]
    exact pz_ls_congr fun j _ => e2 j
  · unfold tx_ok
    rw [e1]
    exact ⟨h.1, fun j => by rw [e2]; exact h.2 j⟩
/-- the texts for undoing: which ones, each once -/
def er_ok (M : ab_M) : Prop := (∀ k : Nat, k < 6 → ∃ i : Nat, i < 6 ∧ M 7 k = ((8 + 2 * i : Nat) : Int)) ∧ ∀ k j : Nat, k < 6 → j < 6 → M 7 k = M 7 j → k = j
theorem er_wf {M : ab_M} (h : er_ok M) {k : Nat} (hk : k < 6) : 0 ≤ M 7 k ∧ ab_wf (Xr (M 7 k).toNat 6 0) ∧ (8 ≤ (M 7 k).toNat ∧ (M 7 k).toNat ≤ 18 ∧ (M 7 k).toNat % 2 = 0 ∧ ((M 7 k).toNat : Int) = M 7 k) ∧ ab_ln ((M 7 k).toNat + 1) = 640 := by
  obtain ⟨i, h1, h2⟩ := h.1 k hk
  rw [h2]
  have hc : i = 0 ∨ i = 1 ∨ i = 2 ∨ i = 3 ∨ i = 4 ∨ i = 5 := by omega
  rcases hc with rfl | rfl | rfl | rfl | rfl | rfl <;> exact ⟨by decide, ⟨by decide +kernel, by decide +kernel, by decide +kernel⟩, ⟨by decide, by decide, by decide, rfl⟩, by decide +kernel⟩
def past (M : ab_M) : List (List Int) := (List.range (M 0 13).toNat).map fun k => tx M (M 7 k).toNat
/-- the oldest text goes -/
def do_7 (M : ab_M) (k : Nat) : Int := if k < 5 then M 7 (k + 1) else if k = 5 then M 7 0 else M 7 k
def do_P (M M' : ab_M) : Prop := ∀ o k : Nat, M' o k = if o = 7 then do_7 M k else if o = 0 ∧ k = 13 then 5 else M o k
theorem do_er {M M' : ab_M} (h : do_P M M') (he : er_ok M) : er_ok M' := by
  have e : ∀ k, M' 7 k = do_7 M k := fun k => by rw [h, if_pos rfl]
  refine ⟨fun k hk => ?_, fun k j hk hj => ?_⟩
  · rw [e]
    unfold do_7
    by_cases c : k < 5
    · rw [if_pos c]; exact he.1 _ (by omega)
    · rw [if_neg c, if_pos (by omega)]; exact he.1 _ (by omega)
  · rw [e, e]
    unfold do_7
    by_cases c : k < 5
    · rw [if_pos c]
      by_cases d : j < 5
      · rw [if_pos d]
        intro q
        have := he.2 _ _ (by omega) (by omega) q
        omega
      · rw [if_neg d, if_pos (by omega)]
        intro q
        have := he.2 _ _ (by omega) (by omega) q
        omega
    · rw [if_neg c, if_pos (by omega)]
      by_cases d : j < 5
      · rw [if_pos d]
        intro q
        have := he.2 _ _ (by omega) (by omega) q
        omega
      · intro _; omega
/-- the present text is kept, the spare one is the present one -/
def ch_P (M M' : ab_M) : Prop := (∀ o k : Nat, o ≠ 7 → ¬ (3 ≤ o ∧ o ≤ 4) → ¬ (8 ≤ o ∧ o ≤ 19) → ¬ (o = 0 ∧ k = 13) → ¬ (o = 1 ∧ k = 1) → M' o k = M o k) ∧ M' 1 1 = 0 ∧ (er_ok M' ∧ (∀ o : Nat, 8 ≤ o → o ≤ 18 → o % 2 = 0 → tx_ok M' o) ∧ tx_ok M' 3) ∧ (0 ≤ M' 0 13 ∧ M' 0 13 ≤ 6) ∧ past M' = (if 6 ≤ M 0 13 then (past M).tail else past M) ++ [tx M 3] ∧ tx M' 3 = tx M 5
def ch_A (M : ab_M) : Prop := (er_ok M ∧ (∀ o : Nat, 8 ≤ o → o ≤ 18 → o % 2 = 0 → tx_ok M o)) ∧ (tx_ok M 3 ∧ tx_ok M 5) ∧ 0 ≤ M 0 13 ∧ M 0 13 ≤ 6
theorem past_get {M : ab_M} {k : Nat} (h : (k : Int) < M 0 13) : (past M)[k]? = some (tx M (M 7 k).toNat) := by
  unfold past
  rw [List.getElem?_map, List.getElem?_range (by omega)]
  rfl
theorem past_ext {M M' : ab_M} (h : M' 0 13 = M 0 13) (h2 : ∀ k : Nat, (k : Int) < M 0 13 → tx M' (M' 7 k).toNat = tx M (M 7 k).toNat) : past M' = past M := by
  unfold past
  rw [h]
  exact List.map_congr_left fun k hk => h2 k (by have := List.mem_range.1 hk; omega)
theorem past_snoc {M M' : ab_M} {n : Nat} (h : M' 0 13 = ((n + 1 : Nat) : Int)) : past M' = ((List.range n).map fun k => tx M' (M' 7 k).toNat) ++ [tx M' (M' 7 n).toNat] := by
  unfold past
  rw [h, show (((n + 1 : Nat) : Int)).toNat = n + 1 from rfl, List.range_succ, List.map_append]
  rfl
theorem ch_of {M A B C M' : ab_M} (hA : ch_A M) (h1 : (6 ≤ M 0 13 ∧ do_P M A) ∨ (M 0 13 < 6 ∧ A = M)) (h2 : B = bc_m A (A 7 (A 0 13).toNat).toNat 3) (h3 : C = bc_m (ab_up B 0 13 (B 0 13 + 1)) 3 5) (h4 : M' = ab_up C 1 1 0) : ch_P M M' := by
  obtain ⟨⟨ha1, ha2⟩, ⟨ha3, ha4⟩, ha5, ha6⟩ := hA
  -- the memory after the oldest may have gone
  have hc : ∃ c : Nat, A 0 13 = (c : Int) ∧ c < 6 ∧ er_ok A ∧ (∀ o k : Nat, o ≠ 7 → ¬ (o = 0 ∧ k = 13) → A o k = M o k) ∧ ((List.range c).map fun k => tx M (A 7 k).toNat) = (if 6 ≤ M 0 13 then (past M).tail else past M) := by
    rcases h1 with ⟨q1, q2⟩ | ⟨q1, q2⟩
    · refine ⟨5, by rw [q2, if_neg (by decide), if_pos ⟨rfl, rfl⟩]; rfl, by decide, do_er q2 ha1, fun o k x y => by rw [q2, if_neg x, if_neg y], ?_⟩
      rw [if_pos q1]
      unfold past
      rw [show (M 0 13).toNat = 5 + 1 by omega, List.range_succ_eq_map (n := 5), List.map_cons, List.tail_cons, List.map_map]
      refine List.map_congr_left fun k hk => ?_
      have hk := List.mem_range.1 hk
      show tx M (A 7 k).toNat = tx M (M 7 (k + 1)).toNat
      rw [q2, if_pos rfl]
      unfold do_7
      rw [if_pos hk]
    · rw [q2, if_neg (by omega)]
      exact ⟨(M 0 13).toNat, by omega, by omega, ha1, fun _ _ _ _ => rfl, rfl⟩
  obtain ⟨c, c1, c2, c3, c4, c5⟩ := hc
  obtain ⟨w1, -, ⟨w2, w3, w4, w5⟩, -⟩ := er_wf c3 c2
  rw [c1, show ((c : Int)).toNat = c from rfl] at h2
  obtain ⟨e, he⟩ : ∃ e : Nat, e = (A 7 c).toNat := ⟨_, rfl⟩
  rw [← he] at h2 w2 w3 w4 w5
  have tA : ∀ o : Nat, o ≠ 7 → o ≠ 6 → 1 ≤ o → tx A o = tx M o ∧ (tx_ok M o → tx_ok A o) := fun o x y z => by
    have e1 : A o 1 = M o 1 := c4 _ _ x (by omega)
    have e2 : ∀ k, A (o + 1) k = M (o + 1) k := fun k => c4 _ _ (by omega) (by omega)
    refine ⟨?_, fun h => ?_⟩
    · show pz_ls (A (o + 1)) (A o 1) = _
      rw [e1]
      exact pz_ls_congr fun j _ => e2 j
    · unfold tx_ok
      rw [e1]
      exact ⟨h.1, fun j => by rw [e2]; exact h.2 j⟩
  have okA3 := (tA 3 (by decide) (by decide) (by decide)).2 ha3
  have b3 : 0 ≤ A 3 1 ∧ A 3 1 ≤ 640 := by
    have := okA3.1
    rw [if_neg (by decide)] at this
    exact this
  -- the kept text
  have tB := fun (o' : Nat) (h : o' ≠ e ∧ o' ≠ e + 1 ∧ o' + 1 ≠ e) => bc_m_o (M := A) (o := e) (q := 3) (o' := o') h
  rw [← h2] at tB
  have tBe : tx B e = tx M 3 := by
    rw [h2, bc_m_tx (by omega) (by omega) b3]
    exact (tA 3 (by decide) (by decide) (by decide)).1
  have okBe : tx_ok B e := by
    rw [h2]
    exact bc_m_ok (by omega) (by omega) okA3 ((tA e (by omega) (by omega) (by omega)).2 (ha2 e w2 w3 w4))
  have fB : ∀ o' k : Nat, o' ≠ e → o' ≠ e + 1 → B o' k = A o' k := fun o' k x y => by rw [h2]; exact bc_m_f _ _ _ _ _ (by omega) y
  have b5 : 0 ≤ ab_up B 0 13 (B 0 13 + 1) 5 1 ∧ ab_up B 0 13 (B 0 13 + 1) 5 1 ≤ 640 := by
    rw [ab_up_o (by decide), fB 5 _ (by omega) (by omega), c4 5 _ (by decide) (by omega)]
    have := ha4.1
    rw [if_neg (by decide)] at this
    exact this
  have hB13 : B 0 13 = (c : Int) := by rw [fB 0 _ (by omega) (by omega)]; exact c1
  have tC3 : tx C 3 = tx M 5 := by
    rw [h3, bc_m_tx (by decide) (by decide) b5]
    have : tx (ab_up B 0 13 (B 0 13 + 1)) 5 = tx B 5 := by
      show pz_ls (ab_up B 0 13 (B 0 13 + 1) 6) (ab_up B 0 13 (B 0 13 + 1) 5 1) = _
      rw [ab_up_o (by decide)]
      exact pz_ls_congr fun j _ => ab_up_o (by decide) _
    rw [this, (tB 5 (by omega)).1]
    exact (tA 5 (by decide) (by decide) (by decide)).1
  have fC : ∀ o' k : Nat, ¬ (o' = 3 ∧ k = 1) → o' ≠ 4 → ¬ (o' = 0 ∧ k = 13) → C o' k = B o' k := fun o' k x y z => by
    rw [h3, bc_m_f _ _ _ _ _ x y, up_ne z]
  have fM : ∀ o' k : Nat, ¬ (o' = 1 ∧ k = 1) → M' o' k = C o' k := fun o' k x => by rw [h4, up_ne x]
  have tM : ∀ o : Nat, 8 ≤ o → o ≤ 18 → tx M' o = tx B o ∧ (tx_ok B o → tx_ok M' o) := fun o x y => by
    have e1 : M' o 1 = B o 1 := by rw [fM _ _ (by omega), fC _ _ (by omega) (by omega) (by omega)]
    have e2 : ∀ k, M' (o + 1) k = B (o + 1) k := fun k => by rw [fM _ _ (by omega), fC _ _ (by omega) (by omega) (by omega)]
    refine ⟨?_, fun h => ?_⟩
    · show pz_ls (M' (o + 1)) (M' o 1) = _
      rw [e1]
      exact pz_ls_congr fun j _ => e2 j
    · unfold tx_ok
      rw [e1]
      exact ⟨h.1, fun j => by rw [e2]; exact h.2 j⟩
  have f7 : ∀ k, M' 7 k = A 7 k := fun k => by rw [fM _ _ (by omega), fC _ _ (by omega) (by omega) (by omega), fB _ _ (by omega) (by omega)]
  have hM13 : M' 0 13 = ((c + 1 : Nat) : Int) := by
    rw [fM _ _ (by omega), h3, bc_m_f _ _ _ _ _ (by omega) (by omega), ab_up_s, hB13]
    rfl
  refine ⟨fun o k x1 x2 x3 x4 x5 => ?_, by rw [h4, ab_up_s], ⟨⟨fun k hk => by rw [f7]; exact c3.1 k hk, fun k j hk hj => by rw [f7, f7]; exact c3.2 k j hk hj⟩, fun o x y z => (tM o x y).2 ?_, ?_⟩, by rw [hM13]; omega, ?_, ?_⟩
  · rw [fM _ _ x5, fC _ _ (by omega) (by omega) x4, fB _ _ (by omega) (by omega), c4 _ _ x1 x4]
  · by_cases q : o = e
    · rw [q]; exact okBe
    · exact (tB o (by omega)).2 ((tA o (by omega) (by omega) (by omega)).2 (ha2 o x y z))
  · have : tx_ok C 3 := by
      rw [h3]
      refine bc_m_ok (by decide) (by decide) ?_ ?_
      · refine ⟨by rw [if_neg (by decide)]; exact b5, fun j => ?_⟩
        rw [ab_up_o (by decide), fB 6 _ (by omega) (by omega), c4 6 _ (by decide) (by omega)]
        exact ha4.2 j
      · unfold tx_ok
        rw [ab_up_o (by decide), fB 3 _ (by omega) (by omega), c4 3 _ (by decide) (by omega)]
        refine ⟨ha3.1, fun j => ?_⟩
        rw [ab_up_o (by decide), fB 4 _ (by omega) (by omega), c4 4 _ (by decide) (by omega)]
        exact ha3.2 j
    unfold tx_ok at this ⊢
    rw [fM _ _ (by omega)]
    exact ⟨this.1, fun j => by rw [fM _ _ (by omega)]; exact this.2 j⟩
  · rw [past_snoc (M := M) hM13, ← c5]
    congr 1
    · refine List.map_congr_left fun k hk => ?_
      have hk := List.mem_range.1 hk
      obtain ⟨-, -, ⟨v2, v3, v4, v5⟩, -⟩ := er_wf c3 (show k < 6 by omega)
      have hne : (A 7 k).toNat ≠ e := fun q => by
        have := c3.2 k c (by omega) c2 (by omega)
        omega
      rw [f7, (tM _ v2 v3).1, (tB _ (by omega)).1]
      exact (tA _ (by omega) (by omega) (by omega)).1
    · rw [f7, ← he, (tM e w2 w3).1, tBe]
  · show pz_ls (M' 4) (M' 3 1) = _
    rw [fM _ _ (by omega), ← tC3]
    exact pz_ls_congr fun j _ => fM _ _ (by omega)

def S_X6_addPlain : ab_PT := fun a M K => match a with
  | [.inr (.inr (.inr (5, 6, 0))), .inr (.inr (.inr (q, 6, n2))), .inr (.inl b), .inr (.inl e)] => ((q = 1 ∨ q = 3) ∧ tx_ok M 5 ∧ tx_ok M q ∧ (0 ≤ b ∧ b ≤ 640) ∧ (ab_ir e ∧ e ≤ M q 1) ∧ M 5 1 + (((ap_l (M (q + 1)) b (e - b).toNat).length : Nat) : Int) ≤ 640) ∧ (∀ Mx : ab_M, (ap_I M Mx q b (if b < e then e else b)) → K [] Mx)
  | _ => False
set_option maxRecDepth 20000 in
theorem vc_X6_addPlain_0 (q : Nat) (n2 : Nat) (b : Int) (e : Int) (M : ab_M) (K : List ab_V → ab_M → Prop) (hS : ((q = 1 ∨ q = 3) ∧ tx_ok M 5 ∧ tx_ok M q ∧ (0 ≤ b ∧ b ≤ 640) ∧ (ab_ir e ∧ e ≤ M q 1) ∧ M 5 1 + (((ap_l (M (q + 1)) b (e - b).toNat).length : Nat) : Int) ≤ 640) ∧ (∀ Mx : ab_M, (ap_I M Mx q b (if b < e then e else b)) → K [] Mx)) : (∃ n', (q = q ∧ n2 = n2 ∧ (n' = (e - b).toNat ∧ b = b ∧ e = e ∧ b ≤ b ∧ (b ≤ e ∨ b = b) ∧ ap_I M M q b b))) := by
  obtain ⟨⟨hq, h5, hq2, ⟨hb0, hb1⟩, ⟨he0, he1⟩, hl⟩, gK⟩ := hS
  refine ⟨_, rfl, rfl, rfl, rfl, rfl, Int.le_refl _, Or.inr rfl, fun _ _ _ _ => rfl, h5, ?_⟩
  rw [show (b - b).toNat = 0 by omega]
  exact (List.append_nil _).symm

set_option maxRecDepth 20000 in
theorem vc_X6_addPlain_3 (q : Nat) (n2 : Nat) (b : Int) (e : Int) (M : ab_M) (K : List ab_V → ab_M → Prop) (hS : ((q = 1 ∨ q = 3) ∧ tx_ok M 5 ∧ tx_ok M q ∧ (0 ≤ b ∧ b ≤ 640) ∧ (ab_ir e ∧ e ≤ M q 1) ∧ M 5 1 + (((ap_l (M (q + 1)) b (e - b).toNat).length : Nat) : Int) ≤ 640) ∧ (∀ Mx : ab_M, (ap_I M Mx q b (if b < e then e else b)) → K [] Mx)) (n : Nat) (b1 : Int) (e1 : Int) (i : Int) (M1 : ab_M) (hI : n = (e - i).toNat ∧ b = b1 ∧ e = e1 ∧ b ≤ i ∧ (i ≤ e ∨ i = b) ∧ ap_I M M1 q b i) : (ab_ir i ∧ ab_ir e1) ∧ ((e1 ≤ i → K [] M1) ∧ (i < e1 → (ab_ir i ∧ 0 ≤ M1 q 1 ∧ M1 q 1 ≤ ((ab_ln (q + 1) : Nat) : Int) ∧ ab_ln (q + 1) ≤ 640) ∧ (∀ r12 : Int, (r12 = if 0 ≤ i ∧ i < M1 q 1 then M1 (q + 1) i.toNat else -1) → (-128 ≤ (32 : Int) ∧ (32 : Int) < 128) ∧ (ab_ir r12 ∧ ab_ir (32 : Int)) ∧ ((r12 = (32 : Int) → (∃ n', n' < n ∧ (q = q ∧ n2 = n2 ∧ (n' = (e - (i + 1)).toNat ∧ b = b1 ∧ e = e1 ∧ b ≤ (i + 1) ∧ ((i + 1) ≤ e ∨ (i + 1) = b) ∧ ap_I M M1 q b (i + 1))))) ∧ (¬ r12 = (32 : Int) → (ab_ir r12 ∧ ab_ir (-1 : Int)) ∧ ((r12 = (-1 : Int) → (∃ n', n' < n ∧ (q = q ∧ n2 = n2 ∧ (n' = (e - (i + 1)).toNat ∧ b = b1 ∧ e = e1 ∧ b ≤ (i + 1) ∧ ((i + 1) ≤ e ∨ (i + 1) = b) ∧ ap_I M M1 q b (i + 1))))) ∧ (¬ r12 = (-1 : Int) → (0 ≤ r12 ∧ r12 < 65536 ∧ 0 ≤ M1 5 1 ∧ 640 ≤ 640 ∧ M1 5 1 ≤ 640) ∧ (∀ r33 : Int, ∀ M33 : ab_M, (M33 = if M1 5 1 < ((640 : Nat) : Int) then ab_up (ab_up M1 6 (M1 5 1).toNat r12) 5 1 (M1 5 1 + 1) else M1) → (r33 = (if M1 5 1 < ((640 : Nat) : Int) then 1 else 0)) → (∃ n', n' < n ∧ (q = q ∧ n2 = n2 ∧ (n' = (e - (i + 1)).toNat ∧ b = b1 ∧ e = e1 ∧ b ≤ (i + 1) ∧ ((i + 1) ≤ e ∨ (i + 1) = b) ∧ ap_I M M33 q b (i + 1)))))))))))) := by
  obtain ⟨⟨hq, h5, hq2, ⟨hb0, hb1⟩, ⟨he0, he1⟩, hl⟩, gK⟩ := hS
  obtain ⟨hn, q1, q2, hi0, hi1, hI⟩ := hI
  subst q1
  subst q2
  obtain ⟨hf, h51, htx⟩ := id hI
  have hln : ab_ln (q + 1) ≤ 640 ∧ M q 1 ≤ ((ab_ln (q + 1) : Nat) : Int) := by
    rcases hq with z | z
    · subst z; exact ⟨by decide, hq2.1.2⟩
    · subst z; exact ⟨by decide, hq2.1.2⟩
  have fq1 : M1 q 1 = M q 1 := hf _ _ (by omega) (by omega)
  have fq2 : ∀ k, M1 (q + 1) k = M (q + 1) k := fun k => hf _ _ (by omega) (by omega)
  have hq3 := hq2.2 i.toNat
  have hq4 := hq2.1.1
  have h52 := h51.1
  rw [if_neg (by decide)] at h52
  have h53 : M1 5 1 = M 5 1 + (((ap_l (M (q + 1)) b (i - b).toNat).length : Nat) : Int) := by
    have a := tx_len M1 5 h52.1
    have c := tx_len M 5 h5.1.1
    rw [htx, List.length_append] at a
    omega
  refine And.intro (by
    first
      | omega
      | exact ⟨by omega, by omega⟩
      | (rw [fq1]; exact ⟨⟨by omega, by omega⟩, by omega, hln.2, hln.1⟩)
      | exact ⟨⟨by omega, by omega⟩, by omega, by omega⟩
      | (rw [hr12]; split <;> first | (rw [fq2]; exact ⟨by omega, by omega⟩) | exact ⟨by decide, by decide⟩)
      | (rw [hr12]; split <;> first | (rw [fq2]; exact ⟨⟨by omega, by omega⟩, by omega, by omega⟩) | exact ⟨⟨by decide, by decide⟩, by decide, by decide⟩)
      | exact ⟨by omega, by omega, by omega, by decide, by omega⟩) ?_
  refine ⟨?_, ?_⟩
  · intro c6
    refine gK _ ?_
    by_cases hbe : b < e
    · have z : i = e := by omega
      rw [if_pos hbe]
      rw [z] at hI; exact hI
    · have z : i = b := by omega
      rw [if_neg hbe]
      rw [z] at hI; exact hI
  · intro c6
    refine And.intro (by
      first
        | omega
        | exact ⟨by omega, by omega⟩
        | (rw [fq1]; exact ⟨⟨by omega, by omega⟩, by omega, hln.2, hln.1⟩)
        | exact ⟨⟨by omega, by omega⟩, by omega, by omega⟩
        | (rw [hr12]; split <;> first | (rw [fq2]; exact ⟨by omega, by omega⟩) | exact ⟨by decide, by decide⟩)
        | (rw [hr12]; split <;> first | (rw [fq2]; exact ⟨⟨by omega, by omega⟩, by omega, by omega⟩) | exact ⟨⟨by decide, by decide⟩, by decide, by decide⟩)
        | exact ⟨by omega, by omega, by omega, by decide, by omega⟩) ?_
    intro r12 hr12
    refine And.intro (by
      first
        | omega
        | exact ⟨by omega, by omega⟩
        | (rw [fq1]; exact ⟨⟨by omega, by omega⟩, by omega, hln.2, hln.1⟩)
        | exact ⟨⟨by omega, by omega⟩, by omega, by omega⟩
        | (rw [hr12]; split <;> first | (rw [fq2]; exact ⟨by omega, by omega⟩) | exact ⟨by decide, by decide⟩)
        | (rw [hr12]; split <;> first | (rw [fq2]; exact ⟨⟨by omega, by omega⟩, by omega, by omega⟩) | exact ⟨⟨by decide, by decide⟩, by decide, by decide⟩)
        | exact ⟨by omega, by omega, by omega, by decide, by omega⟩) ?_
    refine And.intro (by
      first
        | omega
        | exact ⟨by omega, by omega⟩
        | (rw [fq1]; exact ⟨⟨by omega, by omega⟩, by omega, hln.2, hln.1⟩)
        | exact ⟨⟨by omega, by omega⟩, by omega, by omega⟩
        | (rw [hr12]; split <;> first | (rw [fq2]; exact ⟨by omega, by omega⟩) | exact ⟨by decide, by decide⟩)
        | (rw [hr12]; split <;> first | (rw [fq2]; exact ⟨⟨by omega, by omega⟩, by omega, by omega⟩) | exact ⟨⟨by decide, by decide⟩, by decide, by decide⟩)
        | exact ⟨by omega, by omega, by omega, by decide, by omega⟩) ?_
    refine ⟨?_, ?_⟩
    · intro c21
      rw [fq1, fq2, if_pos ⟨by omega, by omega⟩] at hr12
      refine ⟨_, ?_, rfl, rfl, rfl, rfl, rfl, by omega, Or.inl (by omega), hI.no ⟨hb0, hi0⟩ (by omega)⟩
      omega
    · intro c21
      refine And.intro (by
        first
          | omega
          | exact ⟨by omega, by omega⟩
          | (rw [fq1]; exact ⟨⟨by omega, by omega⟩, by omega, hln.2, hln.1⟩)
          | exact ⟨⟨by omega, by omega⟩, by omega, by omega⟩
          | (rw [hr12]; split <;> first | (rw [fq2]; exact ⟨by omega, by omega⟩) | exact ⟨by decide, by decide⟩)
          | (rw [hr12]; split <;> first | (rw [fq2]; exact ⟨⟨by omega, by omega⟩, by omega, by omega⟩) | exact ⟨⟨by decide, by decide⟩, by decide, by decide⟩)
          | exact ⟨by omega, by omega, by omega, by decide, by omega⟩) ?_
      refine ⟨?_, ?_⟩
      · intro c27
        rw [fq1, fq2, if_pos ⟨by omega, by omega⟩] at hr12
        omega
      · intro c27
        refine And.intro (by
          rw [fq1, fq2, if_pos ⟨by omega, by omega⟩] at hr12
          exact ⟨by omega, by omega, by omega, by decide, by omega⟩) ?_
        intro r33 M33 hM33 hr33
        rw [fq1, fq2, if_pos ⟨by omega, by omega⟩] at hr12
        have hlt : M1 5 1 < 640 := by
          have := ap_l_le (M (q + 1)) b (n := (i - b).toNat + 1) (m := (e - b).toNat) (by omega)
          rw [ap_l_s, show b.toNat + (i - b).toNat = i.toNat by omega, if_neg (by omega), List.length_append, List.length_singleton] at this
          omega
        rw [if_pos (show M1 5 1 < ((640 : Nat) : Int) from hlt), hr12] at hM33
        rw [hM33]
        refine ⟨_, ?_, rfl, rfl, rfl, rfl, rfl, by omega, Or.inl (by omega), hI.yes ⟨hb0, hi0⟩ (by omega) hq3 hlt⟩
        omega

set_option maxRecDepth 20000 in
set_option maxHeartbeats 1000000 in
theorem ok_X6_addPlain (E : ab_E) : ab_Ok E 2 68 S_X6_addPlain := by
  refine ab_mk rq_X6_addPlain tk_X6_addPlain (rt := 0) (rfl) (cuts := [3]) (G := [(67, S_X6_add), (70, S_X6_sign)]) (List.forall_mem_cons.mpr ⟨⟨1, by decide, ok_X6_add E⟩, List.forall_mem_cons.mpr ⟨⟨1, by decide, ok_X6_sign E⟩, fun _ h => absurd h List.not_mem_nil⟩⟩) (by decide) 72 rfl ?_
  intro a M K wd wa hS
  unfold S_X6_addPlain at hS
  split at hS
  ·
    rename_i q n2 b e
    refine ⟨Nat.le_of_ble_eq_true rfl, fun pc n L st M1 => match pc, L, st with
      | 3, [.inr (.inr (.inr (5, 6, 0))), .inr (.inr (.inr (q_, 6, n2_))), .inr (.inl b1), .inr (.inl e1), .inr (.inl i), u6_], [] => q_ = q ∧ n2_ = n2 ∧ (n = (e - i).toNat ∧ b = b1 ∧ e = e1 ∧ b ≤ i ∧ (i ≤ e ∨ i = b) ∧ ap_I M M1 q b i)
      | _, _, _ => False, ?_, ?_⟩
    · exact vc_X6_addPlain_0 q n2 b e M K  hS
    · intro pc n L st M1 hI wd1 wL wst
      (try dsimp only at hI)
      split at hI
      ·
        rename_i q_ n2_ b1 e1 i u6_
        obtain ⟨e0_, e1_, hI⟩ := hI
        have e0_ := e0_.symm
        subst e0_
        have e1_ := e1_.symm
        subst e1_
        exact vc_X6_addPlain_3 q n2 b e M K  hS n b1 e1 i _ hI
      · exact hI.elim
  · exact hS.elim
def S_X8_dropOldest : ab_PT := fun a M K => match a with
  | [.inr (.inr (.inr (0, 8, 0)))] => (er_ok M) ∧ (∀ Mx : ab_M, (do_P M Mx) → K [] Mx)
  | _ => False
set_option maxRecDepth 20000 in
theorem vc_X8_dropOldest_0  (M : ab_M) (K : List ab_V → ab_M → Prop) (hS : (er_ok M) ∧ (∀ Mx : ab_M, (do_P M Mx) → K [] Mx)) : ((0 ≤ (0 : Int) ∧ (0 : Int) < ((6 : Nat) : Int)) ∧ 0 ≤ (M 7 0) ∧ ab_wf (Xr ((M 7 0).toNat) 6 0)) ∧ (∃ n', ((n' = (6 - (1 : Int)).toNat ∧ (1 ≤ (1 : Int) ∧ (1 : Int) ≤ 6) ∧ ((((M 7 0).toNat) : Nat) : Int) = M 7 0 ∧ ∀ o k : Nat, M o k = if o = 7 ∧ (k : Int) + 1 < (1 : Int) then M 7 (k + 1) else M o k))) := by
  obtain ⟨gE, gK⟩ := hS
  obtain ⟨w1, w2, -⟩ := er_wf gE (show 0 < 6 by decide)
  refine And.intro (by
    first
      | omega
      | exact ⟨by omega, by omega⟩
      | exact ⟨⟨by omega, by omega⟩, w1, w2⟩
      | (rw [e7]; obtain ⟨v1, v2, -⟩ := er_wf gE (show i.toNat < 6 by omega); exact ⟨⟨by omega, by omega⟩, v1, v2⟩)
      | exact ⟨⟨by omega, by omega⟩, by omega, by omega⟩) ?_
  refine ⟨_, rfl, ⟨by decide, by decide⟩, by omega, fun o k => ?_⟩
  rw [if_neg (by omega)]

set_option maxRecDepth 20000 in
theorem vc_X8_dropOldest_9  (M : ab_M) (K : List ab_V → ab_M → Prop) (hS : (er_ok M) ∧ (∀ Mx : ab_M, (do_P M Mx) → K [] Mx)) (n : Nat) (od : Nat) (i : Int) (M1 : ab_M) (hI : n = (6 - i).toNat ∧ (1 ≤ i ∧ i ≤ 6) ∧ ((od : Nat) : Int) = M 7 0 ∧ ∀ o k : Nat, M1 o k = if o = 7 ∧ (k : Int) + 1 < i then M 7 (k + 1) else M o k) : (-128 ≤ (6 : Int) ∧ (6 : Int) < 128) ∧ (ab_ir i ∧ ab_ir (6 : Int)) ∧ (((6 : Int) ≤ i → (0 ≤ (5 : Int) ∧ (5 : Int) < ((6 : Nat) : Int)) ∧ K [] (ab_up (ab_up M1 7 5 ((od : Nat) : Int)) 0 13 (5 : Int))) ∧ (i < (6 : Int) → ((0 ≤ i ∧ i < ((6 : Nat) : Int)) ∧ 0 ≤ (M1 7 i.toNat) ∧ ab_wf (Xr ((M1 7 i.toNat).toNat) 6 0)) ∧ (0 ≤ (i - (1 : Int)) ∧ (i - (1 : Int)) < ((6 : Nat) : Int)) ∧ (∃ n', n' < n ∧ ((n' = (6 - (i + 1)).toNat ∧ (1 ≤ (i + 1) ∧ (i + 1) ≤ 6) ∧ ((od : Nat) : Int) = M 7 0 ∧ ∀ o k : Nat, (ab_up M1 7 ((i - (1 : Int)).toNat) (((M1 7 i.toNat).toNat : Nat) : Int)) o k = if o = 7 ∧ (k : Int) + 1 < (i + 1) then M 7 (k + 1) else M o k))))) := by
  obtain ⟨gE, gK⟩ := hS
  obtain ⟨hn, hi, hod, hI⟩ := hI
  have e7 : M1 7 i.toNat = M 7 i.toNat := by rw [hI, if_neg (by omega)]
  refine And.intro (by
    first
      | omega
      | exact ⟨by omega, by omega⟩
      | exact ⟨⟨by omega, by omega⟩, w1, w2⟩
      | (rw [e7]; obtain ⟨v1, v2, -⟩ := er_wf gE (show i.toNat < 6 by omega); exact ⟨⟨by omega, by omega⟩, v1, v2⟩)
      | exact ⟨⟨by omega, by omega⟩, by omega, by omega⟩) ?_
  refine And.intro (by
    first
      | omega
      | exact ⟨by omega, by omega⟩
      | exact ⟨⟨by omega, by omega⟩, w1, w2⟩
      | (rw [e7]; obtain ⟨v1, v2, -⟩ := er_wf gE (show i.toNat < 6 by omega); exact ⟨⟨by omega, by omega⟩, v1, v2⟩)
      | exact ⟨⟨by omega, by omega⟩, by omega, by omega⟩) ?_
  refine ⟨?_, ?_⟩
  · intro c12
    refine And.intro (by
      first
        | omega
        | exact ⟨by omega, by omega⟩
        | exact ⟨⟨by omega, by omega⟩, w1, w2⟩
        | (rw [e7]; obtain ⟨v1, v2, -⟩ := er_wf gE (show i.toNat < 6 by omega); exact ⟨⟨by omega, by omega⟩, v1, v2⟩)
        | exact ⟨⟨by omega, by omega⟩, by omega, by omega⟩) ?_
    refine gK _ fun o k => ?_
    rw [ab_up_a]
    by_cases c : o = 0 ∧ k = 13
    · rw [if_pos c, if_neg (by omega), if_pos c]
    · rw [if_neg c, ab_up_a]
      unfold do_7
      by_cases d : o = 7 ∧ k = 5
      · have d2 : k = 5 := d.2
        rw [if_pos d, if_pos d.1, if_neg (by omega), if_pos d2]
        exact hod
      · rw [if_neg d, hI]
        by_cases e : o = 7
        · have d2 : k ≠ 5 := fun z => d ⟨e, z⟩
          rw [if_pos e]
          by_cases z : k < 5
          · rw [if_pos ⟨e, by omega⟩, if_pos z]
          · rw [if_neg (by omega), if_neg z, if_neg d2, e]
        · rw [if_neg (fun z => e z.1), if_neg e, if_neg c]
  · intro c12
    refine And.intro (by
      first
        | omega
        | exact ⟨by omega, by omega⟩
        | exact ⟨⟨by omega, by omega⟩, w1, w2⟩
        | (rw [e7]; obtain ⟨v1, v2, -⟩ := er_wf gE (show i.toNat < 6 by omega); exact ⟨⟨by omega, by omega⟩, v1, v2⟩)
        | exact ⟨⟨by omega, by omega⟩, by omega, by omega⟩) ?_
    refine And.intro (by
      first
        | omega
        | exact ⟨by omega, by omega⟩
        | exact ⟨⟨by omega, by omega⟩, w1, w2⟩
        | (rw [e7]; obtain ⟨v1, v2, -⟩ := er_wf gE (show i.toNat < 6 by omega); exact ⟨⟨by omega, by omega⟩, v1, v2⟩)
        | exact ⟨⟨by omega, by omega⟩, by omega, by omega⟩) ?_
    refine ⟨_, ?_, rfl, ⟨by omega, by omega⟩, hod, fun o k => ?_⟩
    · omega
    by_cases c : o = 7 ∧ k = (i - 1).toNat
    · rw [c.1, c.2, ab_up_s, e7, if_pos ⟨rfl, by omega⟩]
      obtain ⟨v1, -⟩ := er_wf gE (show i.toNat < 6 by omega)
      rw [show (i - 1).toNat + 1 = i.toNat by omega]
      omega
    · rw [up_ne c, hI]
      by_cases d : o = 7 ∧ (k : Int) + 1 < i
      · rw [if_pos d, if_pos ⟨d.1, by omega⟩]
      · rw [if_neg d, if_neg (by omega)]

set_option maxRecDepth 20000 in
set_option maxHeartbeats 1000000 in
theorem ok_X8_dropOldest (E : ab_E) : ab_Ok E 1 86 S_X8_dropOldest := by
  refine ab_mk rq_X8_dropOldest tk_X8_dropOldest (rt := 0) (rfl) (cuts := [9]) (G := []) (fun g hg => by cases hg) (by decide) 81 rfl ?_
  intro a M K wd wa hS
  unfold S_X8_dropOldest at hS
  split at hS
  ·
    refine ⟨Nat.le_of_ble_eq_true rfl, fun pc n L st M1 => match pc, L, st with
      | 9, [.inr (.inr (.inr (0, 8, 0))), .inr (.inr (.inr (od, 6, 0))), .inr (.inl i)], [] => (n = (6 - i).toNat ∧ (1 ≤ i ∧ i ≤ 6) ∧ ((od : Nat) : Int) = M 7 0 ∧ ∀ o k : Nat, M1 o k = if o = 7 ∧ (k : Int) + 1 < i then M 7 (k + 1) else M o k)
      | _, _, _ => False, ?_, ?_⟩
    · exact vc_X8_dropOldest_0  M K  hS
    · intro pc n L st M1 hI wd1 wL wst
      (try dsimp only at hI)
      split at hI
      ·
        rename_i od i
        exact vc_X8_dropOldest_9  M K  hS n od i _ hI
      · exact hI.elim
  · exact hS.elim
def S_X8_changeToSpare : ab_PT := fun a M K => match a with
  | [.inr (.inr (.inr (0, 8, 0)))] => (ch_A M) ∧ (∀ Mx : ab_M, (ch_P M Mx) → K [] Mx)
  | _ => False
set_option maxRecDepth 20000 in
theorem vc_X8_changeToSpare_0  (M : ab_M) (K : List ab_V → ab_M → Prop) (hS : (ch_A M) ∧ (∀ Mx : ab_M, (ch_P M Mx) → K [] Mx)) : (-128 ≤ (6 : Int) ∧ (6 : Int) < 128) ∧ (ab_ir (M 0 13) ∧ ab_ir (6 : Int)) ∧ (((M 0 13) < (6 : Int) → ((0 ≤ (M 0 13) ∧ (M 0 13) < ((6 : Nat) : Int)) ∧ 0 ≤ (M 7 ((M 0 13).toNat)) ∧ ab_wf (Xr ((M 7 ((M 0 13).toNat)).toNat) 6 0)) ∧ (((M 7 ((M 0 13).toNat)).toNat) ≠ 3 ∧ ((M 7 ((M 0 13).toNat)).toNat) + 1 ≠ 3 ∧ 3 + 1 ≠ ((M 7 ((M 0 13).toNat)).toNat) ∧ 0 ≤ M 3 1 ∧ M 3 1 ≤ ((640 : Nat) : Int) ∧ 640 ≤ 640 ∧ ab_ln (((M 7 ((M 0 13).toNat)).toNat) + 1) ≤ 640 ∧ (∀ j, 0 ≤ M 4 j ∧ M 4 j < 256)) ∧ (∀ M26 : ab_M, (M26 = ab_cpy (ab_up M ((M 7 ((M 0 13).toNat)).toNat) 1 (if ((ab_ln (((M 7 ((M 0 13).toNat)).toNat) + 1) : Nat) : Int) < M 3 1 then ((ab_ln (((M 7 ((M 0 13).toNat)).toNat) + 1) : Nat) : Int) else M 3 1)) 4 0 (((M 7 ((M 0 13).toNat)).toNat) + 1) 0 (if ((ab_ln (((M 7 ((M 0 13).toNat)).toNat) + 1) : Nat) : Int) < M 3 1 then ((ab_ln (((M 7 ((M 0 13).toNat)).toNat) + 1) : Nat) : Int) else M 3 1)) → (3 ≠ 5 ∧ 3 + 1 ≠ 5 ∧ 5 + 1 ≠ 3 ∧ 0 ≤ (ab_up M26 0 13 ((M26 0 13) + (1 : Int))) 5 1 ∧ (ab_up M26 0 13 ((M26 0 13) + (1 : Int))) 5 1 ≤ ((640 : Nat) : Int) ∧ 640 ≤ 640 ∧ 640 ≤ 640 ∧ (∀ j, 0 ≤ (ab_up M26 0 13 ((M26 0 13) + (1 : Int))) 6 j ∧ (ab_up M26 0 13 ((M26 0 13) + (1 : Int))) 6 j < 256)) ∧ (∀ M47 : ab_M, (M47 = ab_cpy (ab_up (ab_up M26 0 13 ((M26 0 13) + (1 : Int))) 3 1 (if ((640 : Nat) : Int) < (ab_up M26 0 13 ((M26 0 13) + (1 : Int))) 5 1 then ((640 : Nat) : Int) else (ab_up M26 0 13 ((M26 0 13) + (1 : Int))) 5 1)) 6 0 4 0 (if ((640 : Nat) : Int) < (ab_up M26 0 13 ((M26 0 13) + (1 : Int))) 5 1 then ((640 : Nat) : Int) else (ab_up M26 0 13 ((M26 0 13) + (1 : Int))) 5 1)) → K [] (ab_up M47 1 1 (0 : Int))))) ∧ ((6 : Int) ≤ (M 0 13) → (er_ok M) ∧ (∀ M10 : ab_M, (do_P M M10) → ((0 ≤ (M10 0 13) ∧ (M10 0 13) < ((6 : Nat) : Int)) ∧ 0 ≤ (M10 7 ((M10 0 13).toNat)) ∧ ab_wf (Xr ((M10 7 ((M10 0 13).toNat)).toNat) 6 0)) ∧ (((M10 7 ((M10 0 13).toNat)).toNat) ≠ 3 ∧ ((M10 7 ((M10 0 13).toNat)).toNat) + 1 ≠ 3 ∧ 3 + 1 ≠ ((M10 7 ((M10 0 13).toNat)).toNat) ∧ 0 ≤ M10 3 1 ∧ M10 3 1 ≤ ((640 : Nat) : Int) ∧ 640 ≤ 640 ∧ ab_ln (((M10 7 ((M10 0 13).toNat)).toNat) + 1) ≤ 640 ∧ (∀ j, 0 ≤ M10 4 j ∧ M10 4 j < 256)) ∧ (∀ M26 : ab_M, (M26 = ab_cpy (ab_up M10 ((M10 7 ((M10 0 13).toNat)).toNat) 1 (if ((ab_ln (((M10 7 ((M10 0 13).toNat)).toNat) + 1) : Nat) : Int) < M10 3 1 then ((ab_ln (((M10 7 ((M10 0 13).toNat)).toNat) + 1) : Nat) : Int) else M10 3 1)) 4 0 (((M10 7 ((M10 0 13).toNat)).toNat) + 1) 0 (if ((ab_ln (((M10 7 ((M10 0 13).toNat)).toNat) + 1) : Nat) : Int) < M10 3 1 then ((ab_ln (((M10 7 ((M10 0 13).toNat)).toNat) + 1) : Nat) : Int) else M10 3 1)) → (3 ≠ 5 ∧ 3 + 1 ≠ 5 ∧ 5 + 1 ≠ 3 ∧ 0 ≤ (ab_up M26 0 13 ((M26 0 13) + (1 : Int))) 5 1 ∧ (ab_up M26 0 13 ((M26 0 13) + (1 : Int))) 5 1 ≤ ((640 : Nat) : Int) ∧ 640 ≤ 640 ∧ 640 ≤ 640 ∧ (∀ j, 0 ≤ (ab_up M26 0 13 ((M26 0 13) + (1 : Int))) 6 j ∧ (ab_up M26 0 13 ((M26 0 13) + (1 : Int))) 6 j < 256)) ∧ (∀ M47 : ab_M, (M47 = ab_cpy (ab_up (ab_up M26 0 13 ((M26 0 13) + (1 : Int))) 3 1 (if ((640 : Nat) : Int) < (ab_up M26 0 13 ((M26 0 13) + (1 : Int))) 5 1 then ((640 : Nat) : Int) else (ab_up M26 0 13 ((M26 0 13) + (1 : Int))) 5 1)) 6 0 4 0 (if ((640 : Nat) : Int) < (ab_up M26 0 13 ((M26 0 13) + (1 : Int))) 5 1 then ((640 : Nat) : Int) else (ab_up M26 0 13 ((M26 0 13) + (1 : Int))) 5 1)) → K [] (ab_up M47 1 1 (0 : Int))))))) := by
  obtain ⟨gA, gK⟩ := hS
  obtain ⟨⟨a1, a2⟩, ⟨a3, a4⟩, a5, a6⟩ := id gA
  have a31 := a3.1
  have a41 := a4.1
  rw [if_neg (by decide)] at a31 a41
  refine And.intro (by
    first
      | omega
      | exact a1
      | exact ⟨by omega, by omega⟩
      | exact ⟨⟨by omega, by omega⟩, by omega, by omega⟩
      | (obtain ⟨v1, v2, -⟩ := er_wf a1 (show (M 0 13).toNat < 6 by omega); exact ⟨⟨by omega, by omega⟩, v1, v2⟩)
      | (have z13 : M10 0 13 = 5 := by rw [hM10, if_neg (by decide), if_pos ⟨rfl, rfl⟩]
         obtain ⟨v1, v2, -⟩ := er_wf (do_er hM10 a1) (show (M10 0 13).toNat < 6 by omega)
         exact ⟨⟨by omega, by omega⟩, v1, v2⟩)) ?_
  refine And.intro (by
    first
      | omega
      | exact a1
      | exact ⟨by omega, by omega⟩
      | exact ⟨⟨by omega, by omega⟩, by omega, by omega⟩
      | (obtain ⟨v1, v2, -⟩ := er_wf a1 (show (M 0 13).toNat < 6 by omega); exact ⟨⟨by omega, by omega⟩, v1, v2⟩)
      | (have z13 : M10 0 13 = 5 := by rw [hM10, if_neg (by decide), if_pos ⟨rfl, rfl⟩]
         obtain ⟨v1, v2, -⟩ := er_wf (do_er hM10 a1) (show (M10 0 13).toNat < 6 by omega)
         exact ⟨⟨by omega, by omega⟩, v1, v2⟩)) ?_
  refine ⟨?_, ?_⟩
  · intro c6
    refine And.intro (by
      first
        | omega
        | exact a1
        | exact ⟨by omega, by omega⟩
        | exact ⟨⟨by omega, by omega⟩, by omega, by omega⟩
        | (obtain ⟨v1, v2, -⟩ := er_wf a1 (show (M 0 13).toNat < 6 by omega); exact ⟨⟨by omega, by omega⟩, v1, v2⟩)
        | (have z13 : M10 0 13 = 5 := by rw [hM10, if_neg (by decide), if_pos ⟨rfl, rfl⟩]
           obtain ⟨v1, v2, -⟩ := er_wf (do_er hM10 a1) (show (M10 0 13).toNat < 6 by omega)
           exact ⟨⟨by omega, by omega⟩, v1, v2⟩)) ?_
    refine And.intro (by
      first
        | (obtain ⟨-, -, ⟨v2, v3, v4, v5⟩, v6⟩ := er_wf a1 (show (M 0 13).toNat < 6 by omega)
           exact ⟨by omega, by omega, by omega, by omega, a31.2, by decide, by omega, a3.2⟩)
        | (have z13 : M10 0 13 = 5 := by rw [hM10, if_neg (by decide), if_pos ⟨rfl, rfl⟩]
           obtain ⟨-, -, ⟨v2, v3, v4, v5⟩, v6⟩ := er_wf (do_er hM10 a1) (show (M10 0 13).toNat < 6 by omega)
           have e31 : M10 3 1 = M 3 1 := by rw [hM10, if_neg (by decide), if_neg (by omega)]
           have e4 : ∀ j, M10 4 j = M 4 j := fun j => by rw [hM10, if_neg (by decide), if_neg (by omega)]
           refine ⟨by omega, by omega, by omega, by omega, by omega, by decide, by omega, fun j => ?_⟩
           rw [e4]; exact a3.2 j)) ?_
    intro M26 hM26
    refine And.intro (by
      have key : ∀ A : ab_M, (6 ≤ M 0 13 ∧ do_P M A) ∨ (M 0 13 < 6 ∧ A = M) → er_ok A ∧ (A 0 13).toNat < 6 ∧ A 5 1 = M 5 1 ∧ ∀ j, A 6 j = M 6 j := fun A h => by
        rcases h with ⟨q1, q2⟩ | ⟨q1, q2⟩
        · exact ⟨do_er q2 a1, by rw [q2, if_neg (by decide), if_pos ⟨rfl, rfl⟩]; decide, by rw [q2, if_neg (by decide), if_neg (by omega)], fun j => by rw [q2, if_neg (by decide), if_neg (by omega)]⟩
        · rw [q2]; exact ⟨a1, by omega, rfl, fun _ => rfl⟩
      first
        | (obtain ⟨k1, k2, k3, k4⟩ := key M (Or.inr ⟨by omega, rfl⟩)
           obtain ⟨-, -, ⟨v2, v3, v4, v5⟩, v6⟩ := er_wf k1 k2
           rw [v6] at hM26
           have hM26 : M26 = bc_m M (M 7 (M 0 13).toNat).toNat 3 := hM26
           have e5 : ab_up M26 0 13 (M26 0 13 + 1) 5 1 = M 5 1 := by rw [ab_up_o (by decide), hM26, bc_m_f _ _ _ _ _ (by omega) (by omega)]
           refine ⟨by decide, by decide, by decide, by omega, by omega, by decide, by decide, fun j => ?_⟩
           rw [ab_up_o (by decide), hM26, bc_m_f _ _ _ _ _ (by omega) (by omega)]
           exact a4.2 j)
        | (obtain ⟨k1, k2, k3, k4⟩ := key M10 (Or.inl ⟨by omega, hM10⟩)
           obtain ⟨-, -, ⟨v2, v3, v4, v5⟩, v6⟩ := er_wf k1 k2
           rw [v6] at hM26
           have hM26 : M26 = bc_m M10 (M10 7 (M10 0 13).toNat).toNat 3 := hM26
           have e5 : ab_up M26 0 13 (M26 0 13 + 1) 5 1 = M 5 1 := by rw [ab_up_o (by decide), hM26, bc_m_f _ _ _ _ _ (by omega) (by omega), k3]
           refine ⟨by decide, by decide, by decide, by omega, by omega, by decide, by decide, fun j => ?_⟩
           rw [ab_up_o (by decide), hM26, bc_m_f _ _ _ _ _ (by omega) (by omega), k4]
           exact a4.2 j)) ?_
    intro M47 hM47
    obtain ⟨-, -, -, v6⟩ := er_wf (a1) (show (M 0 13).toNat < 6 by omega)
    rw [v6] at hM26
    exact gK _ (ch_of gA (Or.inr ⟨by omega, rfl⟩) hM26 hM47 rfl)
  · intro c6
    refine And.intro (by
      first
        | omega
        | exact a1
        | exact ⟨by omega, by omega⟩
        | exact ⟨⟨by omega, by omega⟩, by omega, by omega⟩
        | (obtain ⟨v1, v2, -⟩ := er_wf a1 (show (M 0 13).toNat < 6 by omega); exact ⟨⟨by omega, by omega⟩, v1, v2⟩)
        | (have z13 : M10 0 13 = 5 := by rw [hM10, if_neg (by decide), if_pos ⟨rfl, rfl⟩]
           obtain ⟨v1, v2, -⟩ := er_wf (do_er hM10 a1) (show (M10 0 13).toNat < 6 by omega)
           exact ⟨⟨by omega, by omega⟩, v1, v2⟩)) ?_
    intro M10 hM10
    refine And.intro (by
      first
        | omega
        | exact a1
        | exact ⟨by omega, by omega⟩
        | exact ⟨⟨by omega, by omega⟩, by omega, by omega⟩
        | (obtain ⟨v1, v2, -⟩ := er_wf a1 (show (M 0 13).toNat < 6 by omega); exact ⟨⟨by omega, by omega⟩, v1, v2⟩)
        | (have z13 : M10 0 13 = 5 := by rw [hM10, if_neg (by decide), if_pos ⟨rfl, rfl⟩]
           obtain ⟨v1, v2, -⟩ := er_wf (do_er hM10 a1) (show (M10 0 13).toNat < 6 by omega)
           exact ⟨⟨by omega, by omega⟩, v1, v2⟩)) ?_
    refine And.intro (by
      first
        | (obtain ⟨-, -, ⟨v2, v3, v4, v5⟩, v6⟩ := er_wf a1 (show (M 0 13).toNat < 6 by omega)
           exact ⟨by omega, by omega, by omega, by omega, a31.2, by decide, by omega, a3.2⟩)
        | (have z13 : M10 0 13 = 5 := by rw [hM10, if_neg (by decide), if_pos ⟨rfl, rfl⟩]
           obtain ⟨-, -, ⟨v2, v3, v4, v5⟩, v6⟩ := er_wf (do_er hM10 a1) (show (M10 0 13).toNat < 6 by omega)
           have e31 : M10 3 1 = M 3 1 := by rw [hM10, if_neg (by decide), if_neg (by omega)]
           have e4 : ∀ j, M10 4 j = M 4 j := fun j => by rw [hM10, if_neg (by decide), if_neg (by omega)]
           refine ⟨by omega, by omega, by omega, by omega, by omega, by decide, by omega, fun j => ?_⟩
           rw [e4]; exact a3.2 j)) ?_
    intro M26 hM26
    refine And.intro (by
      have key : ∀ A : ab_M, (6 ≤ M 0 13 ∧ do_P M A) ∨ (M 0 13 < 6 ∧ A = M) → er_ok A ∧ (A 0 13).toNat < 6 ∧ A 5 1 = M 5 1 ∧ ∀ j, A 6 j = M 6 j := fun A h => by
        rcases h with ⟨q1, q2⟩ | ⟨q1, q2⟩
        · exact ⟨do_er q2 a1, by rw [q2, if_neg (by decide), if_pos ⟨rfl, rfl⟩]; decide, by rw [q2, if_neg (by decide), if_neg (by omega)], fun j => by rw [q2, if_neg (by decide), if_neg (by omega)]⟩
        · rw [q2]; exact ⟨a1, by omega, rfl, fun _ => rfl⟩
      first
        | (obtain ⟨k1, k2, k3, k4⟩ := key M (Or.inr ⟨by omega, rfl⟩)
           obtain ⟨-, -, ⟨v2, v3, v4, v5⟩, v6⟩ := er_wf k1 k2
           rw [v6] at hM26
           have hM26 : M26 = bc_m M (M 7 (M 0 13).toNat).toNat 3 := hM26
           have e5 : ab_up M26 0 13 (M26 0 13 + 1) 5 1 = M 5 1 := by rw [ab_up_o (by decide), hM26, bc_m_f _ _ _ _ _ (by omega) (by omega)]
           refine ⟨by decide, by decide, by decide, by omega, by omega, by decide, by decide, fun j => ?_⟩
           rw [ab_up_o (by decide), hM26, bc_m_f _ _ _ _ _ (by omega) (by omega)]
           exact a4.2 j)
        | (obtain ⟨k1, k2, k3, k4⟩ := key M10 (Or.inl ⟨by omega, hM10⟩)
           obtain ⟨-, -, ⟨v2, v3, v4, v5⟩, v6⟩ := er_wf k1 k2
           rw [v6] at hM26
           have hM26 : M26 = bc_m M10 (M10 7 (M10 0 13).toNat).toNat 3 := hM26
           have e5 : ab_up M26 0 13 (M26 0 13 + 1) 5 1 = M 5 1 := by rw [ab_up_o (by decide), hM26, bc_m_f _ _ _ _ _ (by omega) (by omega), k3]
           refine ⟨by decide, by decide, by decide, by omega, by omega, by decide, by decide, fun j => ?_⟩
           rw [ab_up_o (by decide), hM26, bc_m_f _ _ _ _ _ (by omega) (by omega), k4]
           exact a4.2 j)) ?_
    intro M47 hM47
    obtain ⟨-, -, -, v6⟩ := er_wf (do_er hM10 a1) (show (M10 0 13).toNat < 6 by rw [hM10, if_neg (by decide), if_pos ⟨rfl, rfl⟩]; decide)
    rw [v6] at hM26
    exact gK _ (ch_of gA (Or.inl ⟨by omega, hM10⟩) hM26 hM47 rfl)

set_option maxRecDepth 20000 in
set_option maxHeartbeats 1000000 in
theorem ok_X8_changeToSpare (E : ab_E) : ab_Ok E 2 82 S_X8_changeToSpare := by
  refine ab_mk rq_X8_changeToSpare tk_X8_changeToSpare (rt := 0) (rfl) (cuts := []) (G := [(69, S_X6_become), (86, S_X8_dropOldest)]) (List.forall_mem_cons.mpr ⟨⟨1, by decide, ok_X6_become E⟩, List.forall_mem_cons.mpr ⟨⟨1, by decide, ok_X8_dropOldest E⟩, fun _ h => absurd h List.not_mem_nil⟩⟩) (by decide) 80 rfl ?_
  intro a M K wd wa hS
  unfold S_X8_changeToSpare at hS
  split at hS
  ·
    refine ⟨Nat.le_of_ble_eq_true rfl, fun _ _ _ _ _ => False, ?_, ?_⟩
    · exact vc_X8_changeToSpare_0  M K  hS
    · exact fun _ _ _ _ _ h => h.elim
  · exact hS.elim
