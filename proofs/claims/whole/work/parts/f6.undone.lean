/-! invariant(), undo(), keep(), back() of the class -/
theorem f1_ist {ls : List Int} (h : pz_f1 ls = -9) : pz_ist ls := by
  unfold pz_f1 at h
  have hw := pz_te_wi (ls := ls) (a := 0) (f := -9) ⟨Int.le_refl 0, by omega⟩ (Or.inl rfl)
  obtain ⟨w1, w2, w3⟩ := hw
  split at h
  · rename_i h1
    obtain ⟨-, t, h2, h3⟩ := pz_te_ok (Int.le_refl 0) h1
    have h4 := pz_te_go (A := 0) h3 h2
    have h4 : pz_te ls 0 (-9) = ((t.length : Int), ((0 + t.length : Nat) : Int), -9) := h4
    rw [h4] at h
    have h : (if (((0 + t.length : Nat) : Int)) = (ls.length : Int) then (-9 : Int) else ((0 + t.length : Nat) : Int)) = -9 := h
    split at h
    · rename_i h5
      have h3 : ls = t ++ ls.drop (0 + t.length) := h3
      rw [List.drop_eq_nil_of_le (by omega), List.append_nil] at h3
      rw [h3]; exact h2
    · omega
  · omega
/-- letters of a plain text between two places -/
theorem ap_l_sub {M : ab_M} {o : Nat} (h0 : 0 ≤ M o 1) (hp : ∀ c ∈ tx M o, c ≠ 32) {b n : Nat} (hb : ((b + n : Nat) : Int) ≤ M o 1) : ap_l (M (o + 1)) (b : Int) n = ((tx M o).drop b).take n := by
  unfold ap_l
  have e : ((List.range n).map fun j => M (o + 1) ((b : Int).toNat + j)) = ((tx M o).drop b).take n := by
    refine List.ext_getElem? fun i => ?_
    rw [List.getElem?_map, List.getElem?_take]
    by_cases c : i < n
    · rw [List.getElem?_range c, if_pos c, List.getElem?_drop, pz_ls_get, if_pos (by omega)]
      rfl
    · rw [if_neg c, List.getElem?_eq_none (by rw [List.length_range]; omega)]
      rfl
  rw [e]
  exact List.filter_eq_self.2 fun c hc => decide_eq_true (hp c (List.mem_of_mem_drop (List.mem_of_mem_take hc)))
/-- a place with so many letters before it, in a plain text -/
theorem bp_eq {f : Nat → Int} {L q : Nat} {z : Int} (hp : ∀ j, j < L → f j ≠ 32) (hq : q < L) (h : cr_bp f q z) : z = (q : Int) := by
  obtain ⟨k, h1, -, h3⟩ := h
  have hc : ∀ n, n ≤ L → (pz_pos f n).length = n := by
    intro n
    induction n with
    | zero => intro _; rfl
    | succ n ih =>
      intro hn
      rw [pz_pos_succ, if_pos (hp n (by omega)), List.length_append, ih (by omega)]
      rfl
  by_cases c : k ≤ L
  · rw [hc k c] at h3; omega
  · obtain ⟨t, ht⟩ := pz_pos_mono f (show L ≤ k by omega)
    rw [ht, List.length_append, hc L (Nat.le_refl _)] at h3
    omega
theorem tx_at {M : ab_M} {o : Nat} {j : Nat} (h : (j : Int) < M o 1) : M (o + 1) j ∈ tx M o := by
  unfold tx pz_ls
  exact List.mem_map.2 ⟨j, List.mem_range.2 (by omega), rfl⟩
/-- where a loop's invariant lies in the text -/
theorem pd_loop {M : ab_M} {t : pz_T} (hP : pd_P M t) (h0 : 0 ≤ M 3 1) {l : Nat} (hl : (l : Int) < M 26 8) : l < pz_nl t ∧ M 392 l = ((lp_r t l : Nat) : Int) ∧ ((lp_r t l : Nat) : Int) < M 26 3 ∧ M (26 + 1 + 1 + 3 * lp_r t l) 3 = ((lp_k t l : Nat) : Int) + 1 ∧ ((lp_k t l : Nat) : Int) + 1 < M 26 11 ∧ M 26 11 ≤ 64 ∧ M 393 (lp_k t l + 1) = ((lp_o t l : Nat) : Int) ∧ M 394 (lp_k t l + 1) = (((lp_P t l).2.2.2.length : Nat) : Int) ∧ lp_o t l + (lp_P t l).2.2.2.length ≤ (tx M 3).length ∧ pz_ist (lp_P t l).2.2.2 := by
  obtain ⟨g, hPT, hPL, -⟩ := hP
  have hT := hPT.1
  obtain ⟨e3, -, e6, e8, e11⟩ := hPT.2.1
  have hw := g.1.1
  have hsz := g.sz
  have hl2 : l < pz_nl t := by omega
  obtain ⟨⟨x1, x2, x3⟩, ⟨x4, x5, x6, x7, x8, x9⟩, -⟩ := lp_wf t hw l hl2
  have hK := cr_T_K (n := 0) hPT hw hsz.1 hPL t hw _ _ _ _ _ _ _ _ hT (by omega) (by decide)
  rw [if_neg (by decide), if_neg (by decide), if_neg (by decide)] at hK
  obtain ⟨par', side', nx', pv', b1, l1, l2, en', A', C', h1, h2, -⟩ := lp_row t hw l hl2 _ _ _ _ _ _ _ _ _ _ hT hK
  simp only [Nat.zero_add] at h1
  obtain ⟨⟨s0, s1, s2, s3, s4, s5⟩, -, -, s7, s8, s9⟩ := h1
  have n2 : pz_nt2 (lp_P t l).1 = 1 := by unfold pz_nt2; rw [if_pos (by omega)]
  rw [if_pos n2] at s3
  obtain ⟨s9, s10⟩ := s9 n2
  rw [if_neg (by omega)] at s9
  obtain ⟨xx, yy, e1, e2, -⟩ := sp_t_pr (w := []) t hw l hl2
  have hi : pz_ist (lp_P t l).2.2.2 := by
    have := x1.2.2.2
    rw [if_pos (Or.inr x2)] at this
    exact this
  have hlen : lp_o t l + (lp_P t l).2.2.2.length ≤ (tx M 3).length := by
    rw [g.1.2.2, e1, List.length_append, List.length_append]
    omega
  have hp1 := pz_ist_pos hi
  have htl := tx_len M 3 h0
  refine ⟨hl2, s7 x2, by omega, s3, by omega, by omega, ?_, s10, hlen, hi⟩
  refine bp_eq (f := M 4) (L := (tx M 3).length) (fun j hj => ?_) (by omega) ?_
  · have := g.r _ (tx_at (M := M) (o := 3) (j := j) (by omega))
    have this : 33 ≤ M 4 j ∧ M 4 j ≤ 124 := this
    omega
  · rw [show lp_o t l = lp_o t l - 1 - (lp_P t l).2.2.1.length + 1 + (lp_P t l).2.2.1.length + 0 by omega]
    exact s9
/-- invariant() -/
def iv_P (M M' : ab_M) (t : pz_T) (l r : Int) : Prop := (¬ (0 ≤ l ∧ l < M 26 8) → M' = M ∧ r = -1) ∧ (0 ≤ l ∧ l < M 26 8 → (pz_f1 (cr_L 1 M) ≠ -9 → pm_F M M' ∧ ∃ e : Nat, r = -10 - (e : Int) ∧ (e : Int) ≤ M 1 1 ∧ ((e : Int) < M 1 1 → M 2 e ≠ 32) ∧ pz_f1 (cr_L 1 M) = ((cr_c 1 M e : Nat) : Int)) ∧ (pz_f1 (cr_L 1 M) = -9 → ct_P M M' (pz_spl (tx M 3) (cr_L 1 M) (lp_o t l.toNat) (lp_P t l.toNat).2.2.2.length) ∧ r = (((cr_L 1 M).length : Nat) : Int)))
def iv_A (M : ab_M) (t : pz_T) : Prop := tc_ok M ∧ tx_ok M 1 ∧ M 395 0 = 1 ∧ pd_P M t
/-- undo() -/
def ud_A (M : ab_M) : Prop := tc_ok M ∧ M 26 0 = 3 ∧ ∀ ls ∈ past M, ∃ t, gd ls t
def ud_P (M M' : ab_M) (r : Int) : Prop := (M 0 13 = 0 → M' = M ∧ r = -2) ∧ (0 < M 0 13 → ck_F M M' ∧ tc_ok M' ∧ M' 1 1 = M 1 1 ∧ past M = past M' ++ [tx M' 3] ∧ rp_C M' ∧ (∃ t, pd_P M' t) ∧ r = M 0 13 - 1 ∧ M' 0 13 = M 0 13 - 1)
theorem ud_of {M B M' : ab_M} (hA : ud_A M) (h0 : 0 < M 0 13) (hB : B = bc_m (ab_up M 0 13 (M 0 13 - 1)) 3 (M 7 (M 0 13 - 1).toNat).toNat) : rp_A B ∧ (rp_P B M' → ud_P M M' (M' 0 13)) := by
  obtain ⟨⟨⟨t1, t2⟩, ⟨t3, t4⟩, t5, t6⟩, t7, t8⟩ := hA
  obtain ⟨-, -, ⟨w1, w2, w3, w4⟩, -⟩ := er_wf t1 (show (M 0 13 - 1).toNat < 6 by omega)
  obtain ⟨e, he⟩ : ∃ e : Nat, e = (M 7 (M 0 13 - 1).toNat).toNat := ⟨_, rfl⟩
  rw [← he] at hB w1 w2 w3 w4
  have fA := fun (o : Nat) (a : 1 ≤ o) => tx_fr (M := M) (M' := ab_up M 0 13 (M 0 13 - 1)) (o := o) (up_ne (by omega)) (fun k => up_ne (by omega))
  have oke : tx_ok (ab_up M 0 13 (M 0 13 - 1)) e := (fA e (by omega)).2 (t2 e w1 w2 w3)
  have be := oke.1
  rw [if_neg (by omega)] at be
  have tB3 : tx B 3 = tx M e := by
    rw [hB, bc_m_tx (by decide) (by omega) be]
    exact (fA e (by omega)).1
  have okB3 : tx_ok B 3 := by
    rw [hB]
    exact bc_m_ok (by decide) (by omega) oke ((fA 3 (by decide)).2 t3)
  have fB : ∀ o k : Nat, ¬ (o = 0 ∧ k = 13) → ¬ (o = 3 ∧ k = 1) → o ≠ 4 → B o k = M o k := fun o k a b c => by rw [hB, bc_m_f _ _ _ _ _ b c, up_ne a]
  have h13 : B 0 13 = M 0 13 - 1 := by rw [hB, bc_m_f _ _ _ _ _ (by omega) (by omega), ab_up_s]
  have hpast : past M = ((List.range (M 0 13 - 1).toNat).map fun k => tx M (M 7 k).toNat) ++ [tx M e] := by
    have := past_snoc (M := M) (M' := M) (n := (M 0 13 - 1).toNat) (by omega)
    rw [← he] at this
    exact this
  have hg : ∃ t, gd (tx B 3) t := by
    rw [tB3]
    exact t8 _ (by rw [hpast]; exact List.mem_append_right _ (List.mem_singleton.2 rfl))
  refine ⟨⟨okB3, by rw [fB _ _ (by omega) (by omega) (by omega)]; exact t7, hg⟩, fun ⟨r1, r2, t', r3⟩ => ⟨fun z => by omega, fun _ => ?_⟩⟩
  have f : ∀ o k : Nat, o < 26 → M' o k = B o k := fun o k a => r1 o k (by omega) (by omega) (by omega) (by omega)
  have f2 : ∀ o k : Nat, o < 26 → ¬ (o = 0 ∧ k = 13) → ¬ (o = 3 ∧ k = 1) → o ≠ 4 → M' o k = M o k := fun o k a b c d => (f o k a).trans (fB o k b c d)
  have ft := fun (o : Nat) (a : 5 ≤ o ∧ o ≤ 24) => tx_fr (M := M) (M' := M') (o := o) (f2 _ _ (by omega) (by omega) (by omega) (by omega)) (fun k => f2 _ _ (by omega) (by omega) (by omega) (by omega))
  have f3 := tx_fr (M := B) (M' := M') (o := 3) (f _ _ (by decide)) (fun k => f _ _ (by decide))
  have h13' : M' 0 13 = M 0 13 - 1 := by rw [f _ _ (by decide)]; exact h13
  refine ⟨fun o k x1 x2 x3 x4 x5 x6 x7 x8 => ?_, ⟨⟨er_fr (fun k => f2 _ _ (by decide) (by omega) (by omega) (by decide)) t1, fun o a b c => (ft o (by omega)).2 (t2 o a b c)⟩, ⟨f3.2 okB3, (ft 5 (by decide)).2 t4⟩, by omega⟩, f2 _ _ (by decide) (by omega) (by omega) (by decide), ?_, r2, ⟨t', r3⟩, h13', h13'⟩
  · rw [r1 o k x1 (by omega) x4 x5, fB o k x7 (by omega) (by omega)]
  · rw [hpast, f3.1, tB3]
    congr 1
    unfold past
    rw [h13']
    refine List.map_congr_left fun k hk => ?_
    have hk := List.mem_range.1 hk
    obtain ⟨-, -, ⟨v1, v2, v3, v4⟩, -⟩ := er_wf t1 (show k < 6 by omega)
    rw [f2 7 _ (by decide) (by omega) (by omega) (by decide)]
    exact (ft _ (by omega)).1.symm
/-- keep(), back() -/
def sv_ok (M : ab_M) : Prop := M 20 0 = 21 ∧ M 20 1 = 23
def ky_P (M M' : ab_M) (z r : Int) : Prop := (¬ (0 ≤ z ∧ z ≤ 1) → M' = M ∧ r = -1) ∧ (0 ≤ z ∧ z ≤ 1 → M' = ab_up (bc_m M (21 + 2 * z.toNat) 3) 25 z.toNat 1 ∧ r = M 26 3)
def by_A (M : ab_M) (z : Int) : Prop := (sv_ok M ∧ tc_ok M ∧ M 26 0 = 3) ∧ (0 ≤ z ∧ z ≤ 1 → (M 25 z.toNat = 0 ∨ M 25 z.toNat = 1) ∧ (M 25 z.toNat = 1 → tx_ok M (21 + 2 * z.toNat) ∧ ∃ t, gd (tx M (21 + 2 * z.toNat)) t))
def by_P (M M' : ab_M) (z r : Int) : Prop := (¬ (0 ≤ z ∧ z ≤ 1) → M' = M ∧ r = -1) ∧ (0 ≤ z ∧ z ≤ 1 → (M 25 z.toNat = 0 → M' = M ∧ r = -2) ∧ (M 25 z.toNat = 1 → ck_F M M' ∧ tc_ok M' ∧ M' 1 1 = M 1 1 ∧ past M' = [] ∧ tx M' 3 = tx M (21 + 2 * z.toNat) ∧ rp_C M' ∧ (∃ t, pd_P M' t) ∧ r = M' 26 3 ∧ M' 0 13 = 0))
theorem by_of {M B M' : ab_M} {z : Int} (hA : by_A M z) (hz : 0 ≤ z ∧ z ≤ 1) (h1 : M 25 z.toNat = 1) (hB : B = ab_up (bc_m M 3 (21 + 2 * z.toNat)) 0 13 0) : rp_A B ∧ (rp_P B M' → by_P M M' z (M' 26 3)) := by
  obtain ⟨⟨-, ⟨⟨t1, t2⟩, ⟨t3, t4⟩, t5, t6⟩, t7⟩, t8⟩ := hA
  obtain ⟨-, h2⟩ := t8 hz
  obtain ⟨oke, hg⟩ := h2 h1
  obtain ⟨e, he⟩ : ∃ e : Nat, e = 21 + 2 * z.toNat := ⟨_, rfl⟩
  rw [← he] at hB oke hg
  have be := oke.1
  rw [if_neg (by omega)] at be
  have fC := tx_fr (M := bc_m M 3 e) (M' := B) (o := 3) (by rw [hB, up_ne (by omega)]) (fun k => by rw [hB, up_ne (by omega)])
  have tB3 : tx B 3 = tx M e := by rw [fC.1, bc_m_tx (by decide) (by omega) be]
  have okB3 : tx_ok B 3 := fC.2 (bc_m_ok (by decide) (by omega) oke t3)
  have fB : ∀ o k : Nat, ¬ (o = 0 ∧ k = 13) → ¬ (o = 3 ∧ k = 1) → o ≠ 4 → B o k = M o k := fun o k a b c => by rw [hB, up_ne a, bc_m_f _ _ _ _ _ b c]
  have h13 : B 0 13 = 0 := by rw [hB, ab_up_s]
  refine ⟨⟨okB3, by rw [fB _ _ (by omega) (by omega) (by omega)]; exact t7, by rw [tB3]; exact hg⟩, fun ⟨r1, r2, t', r3⟩ => ⟨fun y => absurd hz y, fun _ => ⟨fun y => by omega, fun _ => ?_⟩⟩⟩
  have f : ∀ o k : Nat, o < 26 → M' o k = B o k := fun o k a => r1 o k (by omega) (by omega) (by omega) (by omega)
  have f2 : ∀ o k : Nat, o < 26 → ¬ (o = 0 ∧ k = 13) → ¬ (o = 3 ∧ k = 1) → o ≠ 4 → M' o k = M o k := fun o k a b c d => (f o k a).trans (fB o k b c d)
  have ft := fun (o : Nat) (a : 5 ≤ o ∧ o ≤ 24) => tx_fr (M := M) (M' := M') (o := o) (f2 _ _ (by omega) (by omega) (by omega) (by omega)) (fun k => f2 _ _ (by omega) (by omega) (by omega) (by omega))
  have f3 := tx_fr (M := B) (M' := M') (o := 3) (f _ _ (by decide)) (fun k => f _ _ (by decide))
  have h13' : M' 0 13 = 0 := by rw [f _ _ (by decide)]; exact h13
  refine ⟨fun o k x1 x2 x3 x4 x5 x6 x7 x8 => ?_, ⟨⟨er_fr (fun k => f2 _ _ (by decide) (by omega) (by omega) (by decide)) t1, fun o a b c => (ft o (by omega)).2 (t2 o a b c)⟩, ⟨f3.2 okB3, (ft 5 (by decide)).2 t4⟩, by omega⟩, f2 _ _ (by decide) (by omega) (by omega) (by decide), ?_, ?_, r2, ⟨t', r3⟩, rfl, h13'⟩
  · rw [r1 o k x1 (by omega) x4 x5, fB o k x7 (by omega) (by omega)]
  · unfold past
    rw [h13']
    rfl
  · rw [f3.1, tB3, he]

def S_X8_undo : ab_PT := fun a M K => match a with
  | [.inr (.inr (.inr (0, 8, 0)))] => (ud_A M) ∧ (∀ rx : Int, ∀ Mx : ab_M, (ud_P M Mx rx) → K [Xi rx] Mx)
  | _ => False
set_option maxRecDepth 20000 in
theorem vc_X8_undo_0  (M : ab_M) (K : List ab_V → ab_M → Prop) (hS : (ud_A M) ∧ (∀ rx : Int, ∀ Mx : ab_M, (ud_P M Mx rx) → K [Xi rx] Mx)) : (ab_ir (M 0 13)) ∧ ((0 < (M 0 13) → ((0 ≤ ((M 0 13) - (1 : Int)) ∧ ((M 0 13) - (1 : Int)) < ((6 : Nat) : Int)) ∧ 0 ≤ (M 7 (((M 0 13) - (1 : Int)).toNat)) ∧ ab_wf (Xr ((M 7 (((M 0 13) - (1 : Int)).toNat)).toNat) 6 0)) ∧ (3 ≠ ((M 7 (((M 0 13) - (1 : Int)).toNat)).toNat) ∧ 3 + 1 ≠ ((M 7 (((M 0 13) - (1 : Int)).toNat)).toNat) ∧ ((M 7 (((M 0 13) - (1 : Int)).toNat)).toNat) + 1 ≠ 3 ∧ 0 ≤ (ab_up M 0 13 ((M 0 13) - (1 : Int))) ((M 7 (((M 0 13) - (1 : Int)).toNat)).toNat) 1 ∧ (ab_up M 0 13 ((M 0 13) - (1 : Int))) ((M 7 (((M 0 13) - (1 : Int)).toNat)).toNat) 1 ≤ ((ab_ln (((M 7 (((M 0 13) - (1 : Int)).toNat)).toNat) + 1) : Nat) : Int) ∧ ab_ln (((M 7 (((M 0 13) - (1 : Int)).toNat)).toNat) + 1) ≤ 640 ∧ 640 ≤ 640 ∧ (∀ j, 0 ≤ (ab_up M 0 13 ((M 0 13) - (1 : Int))) (((M 7 (((M 0 13) - (1 : Int)).toNat)).toNat) + 1) j ∧ (ab_up M 0 13 ((M 0 13) - (1 : Int))) (((M 7 (((M 0 13) - (1 : Int)).toNat)).toNat) + 1) j < 256)) ∧ (∀ M33 : ab_M, (M33 = ab_cpy (ab_up (ab_up M 0 13 ((M 0 13) - (1 : Int))) 3 1 (if ((640 : Nat) : Int) < (ab_up M 0 13 ((M 0 13) - (1 : Int))) ((M 7 (((M 0 13) - (1 : Int)).toNat)).toNat) 1 then ((640 : Nat) : Int) else (ab_up M 0 13 ((M 0 13) - (1 : Int))) ((M 7 (((M 0 13) - (1 : Int)).toNat)).toNat) 1)) (((M 7 (((M 0 13) - (1 : Int)).toNat)).toNat) + 1) 0 4 0 (if ((640 : Nat) : Int) < (ab_up M 0 13 ((M 0 13) - (1 : Int))) ((M 7 (((M 0 13) - (1 : Int)).toNat)).toNat) 1 then ((640 : Nat) : Int) else (ab_up M 0 13 ((M 0 13) - (1 : Int))) ((M 7 (((M 0 13) - (1 : Int)).toNat)).toNat) 1)) → (rp_A M33) ∧ (∀ M37 : ab_M, (rp_P M33 M37) → K [Xi (M37 0 13)] M37))) ∧ ((M 0 13) ≤ 0 → (-128 ≤ (-2 : Int) ∧ (-2 : Int) < 128) ∧ K [Xi (-2 : Int)] M)) := by
  obtain ⟨gA, gK⟩ := hS
  obtain ⟨⟨⟨t1, t2⟩, ⟨t3, t4⟩, t5, t6⟩, t7, t8⟩ := id gA
  refine And.intro (by
    first
      | omega
      | exact ⟨by omega, by omega⟩
      | exact ⟨⟨by omega, by omega⟩, by omega, by omega⟩
      | trivial
      | (have e7 : ab_up M 0 13 (M 0 13 - 1) 7 = M 7 := funext fun k => ab_up_o (by decide) _
         rw [ab_up_s]
         obtain ⟨v1, v2, -⟩ := er_wf t1 (show (M 0 13 - 1).toNat < 6 by omega)
         exact ⟨⟨by omega, by omega⟩, v1, v2⟩)
      | (obtain ⟨v1, v2, -⟩ := er_wf t1 (show (M 0 13 - 1).toNat < 6 by omega); exact ⟨⟨by omega, by omega⟩, v1, v2⟩)) ?_
  refine ⟨?_, ?_⟩
  · intro c4
    refine And.intro (by
      first
        | omega
        | exact ⟨by omega, by omega⟩
        | exact ⟨⟨by omega, by omega⟩, by omega, by omega⟩
        | trivial
        | (have e7 : ab_up M 0 13 (M 0 13 - 1) 7 = M 7 := funext fun k => ab_up_o (by decide) _
           rw [ab_up_s]
           obtain ⟨v1, v2, -⟩ := er_wf t1 (show (M 0 13 - 1).toNat < 6 by omega)
           exact ⟨⟨by omega, by omega⟩, v1, v2⟩)
        | (obtain ⟨v1, v2, -⟩ := er_wf t1 (show (M 0 13 - 1).toNat < 6 by omega); exact ⟨⟨by omega, by omega⟩, v1, v2⟩)) ?_
    refine And.intro (by
      obtain ⟨-, -, ⟨v2, v3, v4, v5⟩, v6⟩ := er_wf t1 (show (M 0 13 - 1).toNat < 6 by omega)
      have hk := t2 _ v2 v3 v4
      have hk1 := hk.1
      rw [if_neg (by omega)] at hk1
      rw [v6, up_ne (by omega)]
      refine ⟨by omega, by omega, by omega, hk1.1, by exact hk1.2, by decide, by decide, fun j => ?_⟩
      rw [up_ne (by omega)]
      exact hk.2 j) ?_
    intro M33 hM33
    refine And.intro (by
      exact (ud_of (M' := M) gA (by omega) hM33).1) ?_
    intro M37 hM37
    exact gK _ _ ((ud_of gA (by omega) hM33).2 hM37)
  · intro c4
    refine And.intro (by
      first
        | omega
        | exact ⟨by omega, by omega⟩
        | exact ⟨⟨by omega, by omega⟩, by omega, by omega⟩
        | trivial
        | (have e7 : ab_up M 0 13 (M 0 13 - 1) 7 = M 7 := funext fun k => ab_up_o (by decide) _
           rw [ab_up_s]
           obtain ⟨v1, v2, -⟩ := er_wf t1 (show (M 0 13 - 1).toNat < 6 by omega)
           exact ⟨⟨by omega, by omega⟩, v1, v2⟩)
        | (obtain ⟨v1, v2, -⟩ := er_wf t1 (show (M 0 13 - 1).toNat < 6 by omega); exact ⟨⟨by omega, by omega⟩, v1, v2⟩)) ?_
    exact gK _ _ ⟨fun _ => ⟨rfl, rfl⟩, fun z => by omega⟩

set_option maxRecDepth 20000 in
set_option maxHeartbeats 1000000 in
theorem ok_X8_undo (E : ab_E) : ab_Ok E 8 113 S_X8_undo := by
  refine ab_mk rq_X8_undo tk_X8_undo (rt := 1) (rfl) (cuts := []) (G := [(69, S_X6_become), (105, S_X8_readPresent)]) (List.forall_mem_cons.mpr ⟨⟨1, by decide, ok_X6_become E⟩, List.forall_mem_cons.mpr ⟨⟨7, by decide, ok_X8_readPresent E⟩, fun _ h => absurd h List.not_mem_nil⟩⟩) (by decide) 74 rfl ?_
  intro a M K wd wa hS
  unfold S_X8_undo at hS
  split at hS
  ·
    refine ⟨Nat.le_of_ble_eq_true rfl, fun _ _ _ _ _ => False, ?_, ?_⟩
    · exact vc_X8_undo_0  M K  hS
    · exact fun _ _ _ _ _ h => h.elim
  · exact hS.elim
def S_X8_keep : ab_PT := fun a M K => match a with
  | [.inr (.inr (.inr (0, 8, 0))), .inr (.inl z)] => (ab_ir z ∧ sv_ok M ∧ tx_ok M 3) ∧ (∀ rx : Int, ∀ Mx : ab_M, (ky_P M Mx z rx) → K [Xi rx] Mx)
  | _ => False
set_option maxRecDepth 20000 in
theorem vc_X8_keep_0 (z : Int) (M : ab_M) (K : List ab_V → ab_M → Prop) (hS : (ab_ir z ∧ sv_ok M ∧ tx_ok M 3) ∧ (∀ rx : Int, ∀ Mx : ab_M, (ky_P M Mx z rx) → K [Xi rx] Mx)) : (ab_ir z) ∧ ((z < 0 → K [Xi (-1 : Int)] M) ∧ (0 ≤ z → (ab_ir z ∧ ab_ir (2 : Int)) ∧ ((z < (2 : Int) → ((0 ≤ z ∧ z < ((2 : Nat) : Int)) ∧ 0 ≤ (M 20 z.toNat) ∧ ab_wf (Xr ((M 20 z.toNat).toNat) 6 0)) ∧ (((M 20 z.toNat).toNat) ≠ 3 ∧ ((M 20 z.toNat).toNat) + 1 ≠ 3 ∧ 3 + 1 ≠ ((M 20 z.toNat).toNat) ∧ 0 ≤ M 3 1 ∧ M 3 1 ≤ ((640 : Nat) : Int) ∧ 640 ≤ 640 ∧ ab_ln (((M 20 z.toNat).toNat) + 1) ≤ 640 ∧ (∀ j, 0 ≤ M 4 j ∧ M 4 j < 256)) ∧ (∀ M21 : ab_M, (M21 = ab_cpy (ab_up M ((M 20 z.toNat).toNat) 1 (if ((ab_ln (((M 20 z.toNat).toNat) + 1) : Nat) : Int) < M 3 1 then ((ab_ln (((M 20 z.toNat).toNat) + 1) : Nat) : Int) else M 3 1)) 4 0 (((M 20 z.toNat).toNat) + 1) 0 (if ((ab_ln (((M 20 z.toNat).toNat) + 1) : Nat) : Int) < M 3 1 then ((ab_ln (((M 20 z.toNat).toNat) + 1) : Nat) : Int) else M 3 1)) → ((0 ≤ z ∧ z < ((2 : Nat) : Int)) ∧ ((1 : Int) = 0 ∨ (1 : Int) = 1)) ∧ K [Xi (M21 26 3)] (ab_up M21 25 z.toNat (1 : Int)))) ∧ ((2 : Int) ≤ z → K [Xi (-1 : Int)] M)))) := by
  obtain ⟨⟨gz, ⟨s0, s1⟩, a3⟩, gK⟩ := hS
  have h3 := a3.1
  rw [if_neg (by decide)] at h3
  have hsv : 0 ≤ z → z < 2 → 0 ≤ M 20 z.toNat ∧ ab_wf (Xr (M 20 z.toNat).toNat 6 0) ∧ (M 20 z.toNat).toNat = 21 + 2 * z.toNat ∧ ab_ln ((M 20 z.toNat).toNat + 1) = 640 := fun a b => by
    have hc : z = 0 ∨ z = 1 := by omega
    rcases hc with rfl | rfl
    · rw [show (0 : Int).toNat = 0 from rfl, s0]; exact ⟨by decide, ⟨by decide +kernel, by decide +kernel, by decide +kernel⟩, rfl, by decide +kernel⟩
    · rw [show (1 : Int).toNat = 1 from rfl, s1]; exact ⟨by decide, ⟨by decide +kernel, by decide +kernel, by decide +kernel⟩, rfl, by decide +kernel⟩
  refine And.intro (by
    first
      | omega
      | exact ⟨by omega, by omega⟩
      | exact ⟨⟨by omega, by omega⟩, by omega, by omega⟩
      | trivial
      | exact ⟨⟨by omega, by omega⟩, (hsv (by omega) (by omega)).1, (hsv (by omega) (by omega)).2.1⟩
      | exact ⟨⟨by omega, by omega⟩, Or.inr rfl⟩) ?_
  refine ⟨?_, ?_⟩
  · intro c1
    exact gK _ _ ⟨fun _ => ⟨rfl, rfl⟩, fun z => by omega⟩
  · intro c1
    refine And.intro (by
      first
        | omega
        | exact ⟨by omega, by omega⟩
        | exact ⟨⟨by omega, by omega⟩, by omega, by omega⟩
        | trivial
        | exact ⟨⟨by omega, by omega⟩, (hsv (by omega) (by omega)).1, (hsv (by omega) (by omega)).2.1⟩
        | exact ⟨⟨by omega, by omega⟩, Or.inr rfl⟩) ?_
    refine ⟨?_, ?_⟩
    · intro c6
      refine And.intro (by
        first
          | omega
          | exact ⟨by omega, by omega⟩
          | exact ⟨⟨by omega, by omega⟩, by omega, by omega⟩
          | trivial
          | exact ⟨⟨by omega, by omega⟩, (hsv (by omega) (by omega)).1, (hsv (by omega) (by omega)).2.1⟩
          | exact ⟨⟨by omega, by omega⟩, Or.inr rfl⟩) ?_
      refine And.intro (by
        obtain ⟨v1, v2, v3, v4⟩ := hsv (by omega) (by omega)
        exact ⟨by omega, by omega, by omega, h3.1, h3.2, by decide, by omega, a3.2⟩) ?_
      intro M21 hM21
      refine And.intro (by
        first
          | omega
          | exact ⟨by omega, by omega⟩
          | exact ⟨⟨by omega, by omega⟩, by omega, by omega⟩
          | trivial
          | exact ⟨⟨by omega, by omega⟩, (hsv (by omega) (by omega)).1, (hsv (by omega) (by omega)).2.1⟩
          | exact ⟨⟨by omega, by omega⟩, Or.inr rfl⟩) ?_
      obtain ⟨v1, v2, v3, v4⟩ := hsv (by omega) (by omega)
      rw [v4, v3] at hM21
      have hM21 : M21 = bc_m M (21 + 2 * z.toNat) 3 := hM21
      refine gK _ _ ⟨fun y => by omega, fun _ => ⟨by rw [hM21], ?_⟩⟩
      rw [hM21, bc_m_f _ _ _ _ _ (by omega) (by omega)]
    · intro c6
      exact gK _ _ ⟨fun _ => ⟨rfl, rfl⟩, fun z => by omega⟩

set_option maxRecDepth 20000 in
set_option maxHeartbeats 1000000 in
theorem ok_X8_keep (E : ab_E) : ab_Ok E 2 97 S_X8_keep := by
  refine ab_mk rq_X8_keep tk_X8_keep (rt := 1) (rfl) (cuts := []) (G := [(69, S_X6_become)]) (List.forall_mem_cons.mpr ⟨⟨1, by decide, ok_X6_become E⟩, fun _ h => absurd h List.not_mem_nil⟩) (by decide) 73 rfl ?_
  intro a M K wd wa hS
  unfold S_X8_keep at hS
  split at hS
  ·
    rename_i z
    refine ⟨Nat.le_of_ble_eq_true rfl, fun _ _ _ _ _ => False, ?_, ?_⟩
    · exact vc_X8_keep_0 z M K  hS
    · exact fun _ _ _ _ _ h => h.elim
  · exact hS.elim
def S_X8_back : ab_PT := fun a M K => match a with
  | [.inr (.inr (.inr (0, 8, 0))), .inr (.inl z)] => (ab_ir z ∧ by_A M z) ∧ (∀ rx : Int, ∀ Mx : ab_M, (by_P M Mx z rx) → K [Xi rx] Mx)
  | _ => False
set_option maxRecDepth 20000 in
theorem vc_X8_back_0 (z : Int) (M : ab_M) (K : List ab_V → ab_M → Prop) (hS : (ab_ir z ∧ by_A M z) ∧ (∀ rx : Int, ∀ Mx : ab_M, (by_P M Mx z rx) → K [Xi rx] Mx)) : (ab_ir z) ∧ ((z < 0 → K [Xi (-1 : Int)] M) ∧ (0 ≤ z → (ab_ir z ∧ ab_ir (2 : Int)) ∧ ((z < (2 : Int) → (0 ≤ z ∧ z < ((2 : Nat) : Int)) ∧ (ab_ir (M 25 z.toNat)) ∧ ((¬ (M 25 z.toNat) = 0 → ((0 ≤ z ∧ z < ((2 : Nat) : Int)) ∧ 0 ≤ (M 20 z.toNat) ∧ ab_wf (Xr ((M 20 z.toNat).toNat) 6 0)) ∧ (3 ≠ ((M 20 z.toNat).toNat) ∧ 3 + 1 ≠ ((M 20 z.toNat).toNat) ∧ ((M 20 z.toNat).toNat) + 1 ≠ 3 ∧ 0 ≤ M ((M 20 z.toNat).toNat) 1 ∧ M ((M 20 z.toNat).toNat) 1 ≤ ((ab_ln (((M 20 z.toNat).toNat) + 1) : Nat) : Int) ∧ ab_ln (((M 20 z.toNat).toNat) + 1) ≤ 640 ∧ 640 ≤ 640 ∧ (∀ j, 0 ≤ M (((M 20 z.toNat).toNat) + 1) j ∧ M (((M 20 z.toNat).toNat) + 1) j < 256)) ∧ (∀ M33 : ab_M, (M33 = ab_cpy (ab_up M 3 1 (if ((640 : Nat) : Int) < M ((M 20 z.toNat).toNat) 1 then ((640 : Nat) : Int) else M ((M 20 z.toNat).toNat) 1)) (((M 20 z.toNat).toNat) + 1) 0 4 0 (if ((640 : Nat) : Int) < M ((M 20 z.toNat).toNat) 1 then ((640 : Nat) : Int) else M ((M 20 z.toNat).toNat) 1)) → (rp_A (ab_up M33 0 13 (0 : Int))) ∧ (∀ M42 : ab_M, (rp_P (ab_up M33 0 13 (0 : Int)) M42) → K [Xi (M42 26 3)] M42))) ∧ ((M 25 z.toNat) = 0 → (-128 ≤ (-2 : Int) ∧ (-2 : Int) < 128) ∧ K [Xi (-2 : Int)] M))) ∧ ((2 : Int) ≤ z → K [Xi (-1 : Int)] M)))) := by
  obtain ⟨⟨gz, gA⟩, gK⟩ := hS
  obtain ⟨⟨⟨s0, s1⟩, ⟨⟨t1, t2⟩, ⟨t3, t4⟩, t5, t6⟩, t7⟩, t8⟩ := id gA
  have hsv : 0 ≤ z → z < 2 → 0 ≤ M 20 z.toNat ∧ ab_wf (Xr (M 20 z.toNat).toNat 6 0) ∧ (M 20 z.toNat).toNat = 21 + 2 * z.toNat ∧ ab_ln ((M 20 z.toNat).toNat + 1) = 640 := fun a b => by
    have hc : z = 0 ∨ z = 1 := by omega
    rcases hc with rfl | rfl
    · rw [show (0 : Int).toNat = 0 from rfl, s0]; exact ⟨by decide, ⟨by decide +kernel, by decide +kernel, by decide +kernel⟩, rfl, by decide +kernel⟩
    · rw [show (1 : Int).toNat = 1 from rfl, s1]; exact ⟨by decide, ⟨by decide +kernel, by decide +kernel, by decide +kernel⟩, rfl, by decide +kernel⟩
  refine And.intro (by
    first
      | omega
      | exact ⟨by omega, by omega⟩
      | exact ⟨⟨by omega, by omega⟩, by omega, by omega⟩
      | trivial
      | exact ⟨⟨by omega, by omega⟩, (hsv (by omega) (by omega)).1, (hsv (by omega) (by omega)).2.1⟩
      | (rcases (t8 ⟨by omega, by omega⟩).1 with y | y <;> (rw [y]; exact ⟨by decide, by decide⟩))
      | exact (by_of (M' := M) gA ⟨by omega, by omega⟩ (h1 (by assumption)) (by rw [hB33])).1) ?_
  refine ⟨?_, ?_⟩
  · intro c1
    exact gK _ _ ⟨fun _ => ⟨rfl, rfl⟩, fun z => by omega⟩
  · intro c1
    refine And.intro (by
      first
        | omega
        | exact ⟨by omega, by omega⟩
        | exact ⟨⟨by omega, by omega⟩, by omega, by omega⟩
        | trivial
        | exact ⟨⟨by omega, by omega⟩, (hsv (by omega) (by omega)).1, (hsv (by omega) (by omega)).2.1⟩
        | (rcases (t8 ⟨by omega, by omega⟩).1 with y | y <;> (rw [y]; exact ⟨by decide, by decide⟩))
        | exact (by_of (M' := M) gA ⟨by omega, by omega⟩ (h1 (by assumption)) (by rw [hB33])).1) ?_
    refine ⟨?_, ?_⟩
    · intro c6
      refine And.intro (by
        first
          | omega
          | exact ⟨by omega, by omega⟩
          | exact ⟨⟨by omega, by omega⟩, by omega, by omega⟩
          | trivial
          | exact ⟨⟨by omega, by omega⟩, (hsv (by omega) (by omega)).1, (hsv (by omega) (by omega)).2.1⟩
          | (rcases (t8 ⟨by omega, by omega⟩).1 with y | y <;> (rw [y]; exact ⟨by decide, by decide⟩))
          | exact (by_of (M' := M) gA ⟨by omega, by omega⟩ (h1 (by assumption)) (by rw [hB33])).1) ?_
      refine And.intro (by
        first
          | omega
          | exact ⟨by omega, by omega⟩
          | exact ⟨⟨by omega, by omega⟩, by omega, by omega⟩
          | trivial
          | exact ⟨⟨by omega, by omega⟩, (hsv (by omega) (by omega)).1, (hsv (by omega) (by omega)).2.1⟩
          | (rcases (t8 ⟨by omega, by omega⟩).1 with y | y <;> (rw [y]; exact ⟨by decide, by decide⟩))
          | exact (by_of (M' := M) gA ⟨by omega, by omega⟩ (h1 (by assumption)) (by rw [hB33])).1) ?_
      refine ⟨?_, ?_⟩
      · intro c17
        refine And.intro (by
          first
            | omega
            | exact ⟨by omega, by omega⟩
            | exact ⟨⟨by omega, by omega⟩, by omega, by omega⟩
            | trivial
            | exact ⟨⟨by omega, by omega⟩, (hsv (by omega) (by omega)).1, (hsv (by omega) (by omega)).2.1⟩
            | (rcases (t8 ⟨by omega, by omega⟩).1 with y | y <;> (rw [y]; exact ⟨by decide, by decide⟩))
            | exact (by_of (M' := M) gA ⟨by omega, by omega⟩ (h1 (by assumption)) (by rw [hB33])).1) ?_
        refine And.intro (by
          obtain ⟨v1, v2, v3, v4⟩ := hsv (by omega) (by omega)
          have h1 := ((t8 ⟨by omega, by omega⟩).1).resolve_left (by assumption)
          obtain ⟨w1, w2⟩ := (t8 ⟨by omega, by omega⟩).2 h1
          have hk1 := w1.1
          rw [if_neg (by omega)] at hk1
          rw [v3, show ab_ln (21 + 2 * z.toNat + 1) = 640 by rw [← v3]; exact v4]
          exact ⟨by omega, by omega, by omega, hk1.1, by exact hk1.2, by decide, by decide, w1.2⟩) ?_
        intro M33 hM33
        obtain ⟨v1, v2, v3, v4⟩ := hsv (by omega) (by omega)
        rw [v3] at hM33
        have hB33 : M33 = bc_m M 3 (21 + 2 * z.toNat) := hM33
        have h1 := ((t8 ⟨by omega, by omega⟩).1).resolve_left (by assumption)
        have h1 : ¬ M 25 z.toNat = 0 → M 25 z.toNat = 1 := fun _ => h1
        refine And.intro (by
          first
            | omega
            | exact ⟨by omega, by omega⟩
            | exact ⟨⟨by omega, by omega⟩, by omega, by omega⟩
            | trivial
            | exact ⟨⟨by omega, by omega⟩, (hsv (by omega) (by omega)).1, (hsv (by omega) (by omega)).2.1⟩
            | (rcases (t8 ⟨by omega, by omega⟩).1 with y | y <;> (rw [y]; exact ⟨by decide, by decide⟩))
            | exact (by_of (M' := M) gA ⟨by omega, by omega⟩ (h1 (by assumption)) (by rw [hB33])).1) ?_
        intro M42 hM42
        exact gK _ _ ((by_of gA ⟨by omega, by omega⟩ (h1 (by assumption)) (by rw [hB33])).2 hM42)
      · intro c17
        refine And.intro (by
          first
            | omega
            | exact ⟨by omega, by omega⟩
            | exact ⟨⟨by omega, by omega⟩, by omega, by omega⟩
            | trivial
            | exact ⟨⟨by omega, by omega⟩, (hsv (by omega) (by omega)).1, (hsv (by omega) (by omega)).2.1⟩
            | (rcases (t8 ⟨by omega, by omega⟩).1 with y | y <;> (rw [y]; exact ⟨by decide, by decide⟩))
            | exact (by_of (M' := M) gA ⟨by omega, by omega⟩ (h1 (by assumption)) (by rw [hB33])).1) ?_
        exact gK _ _ ⟨fun y => by omega, fun _ => ⟨fun _ => ⟨rfl, rfl⟩, fun y => by omega⟩⟩
    · intro c6
      exact gK _ _ ⟨fun _ => ⟨rfl, rfl⟩, fun z => by omega⟩

set_option maxRecDepth 20000 in
set_option maxHeartbeats 1000000 in
theorem ok_X8_back (E : ab_E) : ab_Ok E 8 81 S_X8_back := by
  refine ab_mk rq_X8_back tk_X8_back (rt := 1) (rfl) (cuts := []) (G := [(69, S_X6_become), (105, S_X8_readPresent)]) (List.forall_mem_cons.mpr ⟨⟨1, by decide, ok_X6_become E⟩, List.forall_mem_cons.mpr ⟨⟨7, by decide, ok_X8_readPresent E⟩, fun _ h => absurd h List.not_mem_nil⟩⟩) (by decide) 80 rfl ?_
  intro a M K wd wa hS
  unfold S_X8_back at hS
  split at hS
  ·
    rename_i z
    refine ⟨Nat.le_of_ble_eq_true rfl, fun _ _ _ _ _ => False, ?_, ?_⟩
    · exact vc_X8_back_0 z M K  hS
    · exact fun _ _ _ _ _ h => h.elim
  · exact hS.elim
def S_X8_invariant : ab_PT := fun a M K => match a with
  | [.inr (.inr (.inr (0, 8, 0))), .inr (.inl l)] => (∃ t : pz_T, (ab_ir l ∧ iv_A M t) ∧ (∀ rx : Int, ∀ Mx : ab_M, (iv_P M Mx t l rx) → K [Xi rx] Mx))
  | _ => False
set_option maxRecDepth 20000 in
theorem vc_X8_invariant_0 (l : Int) (M : ab_M) (K : List ab_V → ab_M → Prop) (hS : (∃ t : pz_T, (ab_ir l ∧ iv_A M t) ∧ (∀ rx : Int, ∀ Mx : ab_M, (iv_P M Mx t l rx) → K [Xi rx] Mx))) : (ab_ir l ∧ ab_ir (M 26 8)) ∧ (∀ r5 : Int, (r5 = if 0 ≤ l ∧ l < M 26 8 then 1 else 0) → (ab_ir r5) ∧ ((¬ r5 = 0 → (cr_op 1 395 ∧ M 395 0 = (1 : Int) ∧ (0 ≤ M 1 1 ∧ M 1 1 ≤ (if 1 = 1 then 120 else 640)) ∧ ∀ j, 0 ≤ M 2 j ∧ M 2 j < 256) ∧ (∀ r25 : Int, ∀ M25 : ab_M, (cr_RT 1 395 M M25 r25) → (ab_ir r25) ∧ ((r25 < 0 → (ab_ir l ∧ M25 26 8 ≤ 4 ∧ 0 ≤ M25 26 8 ∧ (0 ≤ l ∧ l < M25 26 8 → ab_ir (M25 392 l.toNat)) ∧ 0 ≤ M25 26 3 ∧ M25 26 3 ≤ 120) ∧ (∀ o43 : Nat, (o43 = if 0 ≤ l ∧ l < M25 26 8 ∧ 0 ≤ M25 392 l.toNat ∧ M25 392 l.toNat < M25 26 3 then 26 + 1 + 1 + 3 * (M25 392 l.toNat).toNat else 26 + 362) → (ab_ir (M25 o43 3) ∧ M25 26 11 ≤ 64 ∧ 0 ≤ M25 26 11) ∧ (∀ r55 : Int, (r55 = if 0 ≤ (M25 o43 3) ∧ (M25 o43 3) < M25 26 11 then M25 393 (M25 o43 3).toNat else 0) → ((3 = 1 ∨ 3 = 3) ∧ tx_ok (ab_up M25 5 1 (0 : Int)) 5 ∧ tx_ok (ab_up M25 5 1 (0 : Int)) 3 ∧ (0 ≤ (0 : Int) ∧ (0 : Int) ≤ 640) ∧ (ab_ir r55 ∧ r55 ≤ (ab_up M25 5 1 (0 : Int)) 3 1) ∧ (ab_up M25 5 1 (0 : Int)) 5 1 + (((ap_l ((ab_up M25 5 1 (0 : Int)) 4) (0 : Int) (r55 - (0 : Int)).toNat).length : Nat) : Int) ≤ 640) ∧ (∀ M79 : ab_M, (ap_I (ab_up M25 5 1 (0 : Int)) M79 3 (0 : Int) (if (0 : Int) < r55 then r55 else (0 : Int))) → ((1 = 1 ∨ 1 = 3) ∧ tx_ok M79 5 ∧ tx_ok M79 1 ∧ (0 ≤ (0 : Int) ∧ (0 : Int) ≤ 640) ∧ (ab_ir (M79 1 1) ∧ (M79 1 1) ≤ M79 1 1) ∧ M79 5 1 + (((ap_l (M79 2) (0 : Int) ((M79 1 1) - (0 : Int)).toNat).length : Nat) : Int) ≤ 640) ∧ (∀ M98 : ab_M, (ap_I M79 M98 1 (0 : Int) (if (0 : Int) < (M79 1 1) then (M79 1 1) else (0 : Int))) → (ab_ir (M25 o43 3) ∧ M98 26 11 ≤ 64 ∧ 0 ≤ M98 26 11) ∧ (∀ r128 : Int, (r128 = if 0 ≤ (M25 o43 3) ∧ (M25 o43 3) < M98 26 11 then M98 394 (M25 o43 3).toNat else 0) → ((3 = 1 ∨ 3 = 3) ∧ tx_ok M98 5 ∧ tx_ok M98 3 ∧ (0 ≤ (r55 + r128) ∧ (r55 + r128) ≤ 640) ∧ (ab_ir (M98 3 1) ∧ (M98 3 1) ≤ M98 3 1) ∧ M98 5 1 + (((ap_l (M98 4) (r55 + r128) ((M98 3 1) - (r55 + r128)).toNat).length : Nat) : Int) ≤ 640) ∧ (∀ M139 : ab_M, (ap_I M98 M139 3 (r55 + r128) (if (r55 + r128) < (M98 3 1) then (M98 3 1) else (r55 + r128))) → (ch_A M139) ∧ (∀ M143 : ab_M, (ch_P M139 M143) → (rp_A M143) ∧ (∀ M147 : ab_M, (rp_P M143 M147) → K [Xi ((M98 5 1) - r55)] M147))))))))) ∧ (0 ≤ r25 → (-128 ≤ (-10 : Int) ∧ (-10 : Int) < 128) ∧ K [Xi ((-10 : Int) - r25)] M25)))) ∧ (r5 = 0 → K [Xi (-1 : Int)] M))) := by
  obtain ⟨t, ⟨gl, gA⟩, gK⟩ := hS
  obtain ⟨a1, a2, a3, a4⟩ := id gA
  have g := a4.1
  have h26 := a4.2.2.2
  have h31 := a1.2.1.1.1
  rw [if_neg (by decide)] at h31
  have h11 := a2.1
  rw [if_pos rfl] at h11
  have hlen : (cr_L 1 M).length ≤ 120 := by
    have h1 := List.length_filter_le (fun c => decide (c ≠ 32)) (pz_ls (M 2) (M 1 1))
    rw [pz_ls_len] at h1
    show ((pz_ls (M 2) (M 1 1)).filter _).length ≤ 120
    omega
  have hnl := g.2.2.1.2
  have hszt := g.sz
  obtain ⟨e3, -, e6, e8, e11⟩ := a4.2.1.2.1
  have hloop := fun (h0 : 0 ≤ l) (h1 : l < M 26 8) => pd_loop a4 h31.1 (l := l.toNat) (by omega)
  have htl := tx_len M 3 h31.1
  have hpl : ∀ c ∈ tx M 3, c ≠ 32 := fun c hc => by have := g.r c hc; omega
  refine And.intro (by
    first
      | omega
      | exact ⟨by omega, by omega⟩
      | exact ⟨⟨by omega, by omega⟩, by omega, by omega⟩
      | trivial
      | exact ⟨gl, by omega⟩
      | exact ⟨Or.inl ⟨rfl, rfl⟩, a3, ⟨h11.1, a2.1.2⟩, a2.2⟩
      | exact hr25
      | exact hcA
      | exact hrA) ?_
  intro r5 hr5
  refine And.intro (by
    first
      | omega
      | exact ⟨by omega, by omega⟩
      | exact ⟨⟨by omega, by omega⟩, by omega, by omega⟩
      | trivial
      | exact ⟨gl, by omega⟩
      | exact ⟨Or.inl ⟨rfl, rfl⟩, a3, ⟨h11.1, a2.1.2⟩, a2.2⟩
      | exact hr25
      | exact hcA
      | exact hrA) ?_
  refine ⟨?_, ?_⟩
  · intro c8
    rw [hr5] at c8
    rw [ab_bt] at c8
    clear hr5 r5
    refine And.intro (by
      first
        | omega
        | exact ⟨by omega, by omega⟩
        | exact ⟨⟨by omega, by omega⟩, by omega, by omega⟩
        | trivial
        | exact ⟨gl, by omega⟩
        | exact ⟨Or.inl ⟨rfl, rfl⟩, a3, ⟨h11.1, a2.1.2⟩, a2.2⟩
        | exact hr25
        | exact hcA
        | exact hrA) ?_
    intro r25 M25 hM25
    obtain ⟨-, hF0, hm1, hm2⟩ := hM25
    have hFA : pm_F M M25 := fun o k x y => hF0 o k x (by omega)
    have f : ∀ o k : Nat, o < 395 → M25 o k = M o k := fun o k h => hFA o k (by omega) (by omega)
    have hr25 : ab_ir r25 := by
      by_cases c : pz_f1 (cr_L 1 M) = -9
      · rw [hm1 c]; exact ⟨by decide, by decide⟩
      · obtain ⟨e, z1, z2, -⟩ := hm2 c
        omega
    refine And.intro (by
      first
        | omega
        | exact ⟨by omega, by omega⟩
        | exact ⟨⟨by omega, by omega⟩, by omega, by omega⟩
        | trivial
        | exact ⟨gl, by omega⟩
        | exact ⟨Or.inl ⟨rfl, rfl⟩, a3, ⟨h11.1, a2.1.2⟩, a2.2⟩
        | exact hr25
        | exact hcA
        | exact hrA) ?_
    refine ⟨?_, ?_⟩
    · intro c30
      refine And.intro (by
        obtain ⟨q1, q2, q3, -⟩ := hloop (by omega) (by omega)
        rw [f 26 8 (by decide), f 26 3 (by decide), f 392 _ (by decide)]
        exact ⟨gl, by omega, by omega, fun _ => ⟨by omega, by omega⟩, by omega, by omega⟩) ?_
      intro o43 hr43
      obtain ⟨q1, q2, q3, q4, q5, q6, hq7, hq8, q9, q10⟩ := hloop (by omega) (by omega)
      have ho43 : o43 = 26 + 1 + 1 + 3 * lp_r t l.toNat := by
        rw [hr43, f 26 8 (by decide), f 26 3 (by decide), f 392 _ (by decide), if_pos ⟨by omega, by omega, by omega, by omega⟩, q2]
        rfl
      have hq3 : M25 o43 3 = ((lp_k t l.toNat : Nat) : Int) + 1 := by rw [ho43, f _ _ (by omega)]; exact q4
      have hf1 : pz_f1 (cr_L 1 M) = -9 := Classical.byContradiction fun c => by
        obtain ⟨e, z1, z2, -⟩ := hm2 c
        omega
      have hist := f1_ist hf1
      obtain ⟨hgs, hgl⟩ := g.sp q1 hist hlen
      have hfin : lp_o t l.toNat + (cr_L 1 M).length + ((tx M 3).length - (lp_o t l.toNat + (lp_P t l.toNat).2.2.2.length)) ≤ 596 := by
        have := hgs.len
        unfold pz_spl at this
        rw [List.length_append, List.length_append, List.length_take, List.length_drop, Nat.min_eq_left (by omega)] at this
        omega
      refine And.intro (by
        rw [f 26 11 (by decide), hq3]
        exact ⟨by omega, by omega, by omega⟩) ?_
      intro r55 hr55
      have hr55 : r55 = ((lp_o t l.toNat : Nat) : Int) := by
        rw [hr55, f 26 11 (by decide), f 393 _ (by decide), hq3, if_pos ⟨by omega, by omega⟩, show (((lp_k t l.toNat : Nat) : Int) + 1).toNat = lp_k t l.toNat + 1 by omega]
        exact hq7
      have f5 : tx_ok (ab_up M25 5 1 0) 5 := ⟨by rw [ab_up_s]; exact ⟨by decide, by decide⟩, fun j => by rw [ab_up_o (by decide), f _ _ (by decide)]; exact a1.2.1.2.2 j⟩
      have f3 : tx_ok (ab_up M25 5 1 0) 3 := (tx_fr (by rw [up_ne (by omega), f _ _ (by decide)]) (fun k => by rw [up_ne (by omega), f _ _ (by decide)])).2 a1.2.1.1
      have e4 : ab_up M25 5 1 0 4 = M 4 := funext fun k => by rw [up_ne (by omega), f _ _ (by decide)]
      have hap0 : ap_l (ab_up M25 5 1 0 (3 + 1)) 0 (lp_o t l.toNat) = (tx M 3).take (lp_o t l.toNat) := by
        rw [show ab_up M25 5 1 0 (3 + 1) = M 4 from e4]
        have := ap_l_sub (M := M) (o := 3) h31.1 hpl (b := 0) (n := lp_o t l.toNat) (by omega)
        exact this
      refine And.intro (by
        refine ⟨Or.inr rfl, f5, f3, by omega, ⟨by omega, by rw [up_ne (by omega), f _ _ (by decide)]; omega⟩, ?_⟩
        rw [ab_up_s, hr55, show (((lp_o t l.toNat : Nat) : Int) - 0).toNat = lp_o t l.toNat by omega, hap0]
        rw [List.length_take]
        omega) ?_
      intro M79 hM79
      have k79 : ∀ o k : Nat, o < 395 → o ≠ 6 → ¬ (o = 5 ∧ k = 1) → M79 o k = M o k := fun o k a b c => by rw [hM79.1 o k b c, up_ne c, f o k a]
      have z79 : tx M79 5 = (tx M 3).take (lp_o t l.toNat) := by
        obtain ⟨-, -, z⟩ := hM79
        rw [z]
        have z0 : tx (ab_up M25 5 1 0) 5 = [] := by
          show pz_ls _ (ab_up M25 5 1 0 5 1) = []
          rw [ab_up_s]
          rfl
        rw [z0, List.nil_append, hr55, ← hap0]
        congr 1
        split <;> omega
      have hl79 : M79 5 1 = ((lp_o t l.toNat : Nat) : Int) := by
        have a := tx_len M79 5 hM79.2.1.1.1
        rw [z79, List.length_take] at a
        omega
      have g1 : tx_ok M79 1 := (tx_fr (k79 _ _ (by decide) (by decide) (by decide)) (fun k => k79 _ _ (by decide) (by decide) (by omega))).2 a2
      have hz11 : M79 1 1 = M 1 1 := k79 _ _ (by decide) (by decide) (by decide)
      have hap1 : ap_l (M79 (1 + 1)) 0 (M 1 1 - 0).toNat = cr_L 1 M := by
        rw [show (M 1 1 - 0).toNat = (M 1 1).toNat by omega, show cr_L 1 M = (tx M 1).filter (fun c => decide (c ≠ 32)) from rfl, ← ap_l_all M 1 h11.1]
        unfold ap_l
        congr 1
        exact List.map_congr_left fun j _ => k79 _ _ (by decide) (by decide) (by omega)
      refine And.intro (by
        refine ⟨Or.inl rfl, hM79.2.1, g1, by decide, ⟨by rw [hz11]; omega, Int.le_refl _⟩, ?_⟩
        rw [hz11, hap1, hl79]
        have := hfin
        omega) ?_
      intro M98 hM98
      have k98 : ∀ o k : Nat, o < 395 → o ≠ 6 → ¬ (o = 5 ∧ k = 1) → M98 o k = M o k := fun o k a b c => by rw [hM98.1 o k b c, k79 o k a b c]
      have z98 : tx M98 5 = (tx M 3).take (lp_o t l.toNat) ++ cr_L 1 M := by
        obtain ⟨-, -, z⟩ := hM98
        rw [z, z79, hz11, ← hap1]
        congr 2
        split <;> omega
      have hl98 : M98 5 1 = (((lp_o t l.toNat + (cr_L 1 M).length : Nat)) : Int) := by
        have a := tx_len M98 5 hM98.2.1.1.1
        rw [z98, List.length_append, List.length_take] at a
        omega
      have g3 : tx_ok M98 3 := (tx_fr (k98 _ _ (by decide) (by decide) (by decide)) (fun k => k98 _ _ (by decide) (by decide) (by omega))).2 a1.2.1.1
      have e98 : M98 4 = M 4 := funext fun k => k98 _ _ (by decide) (by decide) (by omega)
      have hap2 : ap_l (M98 4) (((lp_o t l.toNat : Nat) : Int) + (((lp_P t l.toNat).2.2.2.length : Nat) : Int)) (M 3 1 - (((lp_o t l.toNat : Nat) : Int) + (((lp_P t l.toNat).2.2.2.length : Nat) : Int))).toNat = (tx M 3).drop (lp_o t l.toNat + (lp_P t l.toNat).2.2.2.length) := by
        rw [e98]
        have := ap_l_sub (M := M) (o := 3) h31.1 hpl (b := lp_o t l.toNat + (lp_P t l.toNat).2.2.2.length) (n := (M 3 1 - (((lp_o t l.toNat : Nat) : Int) + (((lp_P t l.toNat).2.2.2.length : Nat) : Int))).toNat) (by omega)
        rw [List.take_of_length_le (by rw [List.length_drop]; omega)] at this
        rw [← this]
        congr 1
      refine And.intro (by
        rw [k98 26 11 (by decide) (by omega) (by omega), hq3]
        exact ⟨by omega, by omega, by omega⟩) ?_
      intro r128 hr128
      refine And.intro (by
        have hr128' : r128 = (((lp_P t l.toNat).2.2.2.length : Nat) : Int) := by
          rw [hr128, k98 26 11 (by decide) (by omega) (by omega), k98 394 _ (by decide) (by omega) (by omega), if_pos (by omega), hq3]
          rw [show (((lp_k t l.toNat : Nat) : Int) + 1).toNat = lp_k t l.toNat + 1 by omega]
          exact hq8
        refine ⟨Or.inr rfl, hM98.2.1, g3, by omega, ⟨by rw [k98 3 1 (by decide) (by omega) (by omega)]; omega, Int.le_refl _⟩, ?_⟩
        rw [k98 3 1 (by decide) (by omega) (by omega), hr55, hr128', hl98]
        have e2 : ap_l (M98 4) (((lp_o t l.toNat : Nat) : Int) + (((lp_P t l.toNat).2.2.2.length : Nat) : Int)) (M 3 1 - (((lp_o t l.toNat : Nat) : Int) + (((lp_P t l.toNat).2.2.2.length : Nat) : Int))).toNat = (tx M 3).drop (lp_o t l.toNat + (lp_P t l.toNat).2.2.2.length) := hap2
        rw [e2, List.length_drop]
        have := hfin
        omega) ?_
      intro M139 hM139
      have hr128' : r128 = (((lp_P t l.toNat).2.2.2.length : Nat) : Int) := by
        rw [hr128, k98 26 11 (by decide) (by omega) (by omega), k98 394 _ (by decide) (by omega) (by omega), if_pos (by omega), hq3]
        rw [show (((lp_k t l.toNat : Nat) : Int) + 1).toNat = lp_k t l.toNat + 1 by omega]
        exact hq8
      have z139 : tx M139 5 = pz_spl (tx M 3) (cr_L 1 M) (lp_o t l.toNat) (lp_P t l.toNat).2.2.2.length := by
        obtain ⟨-, -, z⟩ := hM139
        rw [z, z98, k98 3 1 (by decide) (by omega) (by omega), hr55, hr128']
        unfold pz_spl
        congr 1
        rw [← hap2]
        congr 1
        split <;> omega
      have hC : ∀ o k : Nat, o ≠ 6 → ¬ (o = 5 ∧ k = 1) → M139 o k = M25 o k := fun o k x y => by rw [hM139.1 o k x y, hM98.1 o k x y, hM79.1 o k x y, up_ne y]
      have hcA := (ct_A (C := M139) a1 (fun o k x y z => (hC o k y z).trans (f o k (by omega))) hM139.2.1).1
      refine And.intro (by
        first
          | omega
          | exact ⟨by omega, by omega⟩
          | exact ⟨⟨by omega, by omega⟩, by omega, by omega⟩
          | trivial
          | exact ⟨gl, by omega⟩
          | exact ⟨Or.inl ⟨rfl, rfl⟩, a3, ⟨h11.1, a2.1.2⟩, a2.2⟩
          | exact hr25
          | exact hcA
          | exact hrA) ?_
      intro M143 hM143
      have hct := fun M' => ct_of (M' := M') a1 h26 hFA hC hM139.2.1 z139 hgs hM143
      have hrA := (hct M).1
      refine And.intro (by
        first
          | omega
          | exact ⟨by omega, by omega⟩
          | exact ⟨⟨by omega, by omega⟩, by omega, by omega⟩
          | trivial
          | exact ⟨gl, by omega⟩
          | exact ⟨Or.inl ⟨rfl, rfl⟩, a3, ⟨h11.1, a2.1.2⟩, a2.2⟩
          | exact hr25
          | exact hcA
          | exact hrA) ?_
      intro M147 hM147
      refine gK _ _ ⟨fun z => by omega, fun _ => ⟨fun c => absurd hf1 c, fun _ => ⟨(hct _).2 hM147, ?_⟩⟩⟩
      omega
    · intro c30
      refine And.intro (by
        first
          | omega
          | exact ⟨by omega, by omega⟩
          | exact ⟨⟨by omega, by omega⟩, by omega, by omega⟩
          | trivial
          | exact ⟨gl, by omega⟩
          | exact ⟨Or.inl ⟨rfl, rfl⟩, a3, ⟨h11.1, a2.1.2⟩, a2.2⟩
          | exact hr25
          | exact hcA
          | exact hrA) ?_
      refine gK _ _ ⟨fun z => by omega, fun _ => ⟨fun c => ?_, fun c => ?_⟩⟩
      · obtain ⟨e, z1, z2, z3, z4⟩ := hm2 c
        exact ⟨hFA, e, by omega, z2, z3, z4⟩
      · have := hm1 c
        omega
  · intro c8
    rw [hr5] at c8
    rw [ab_bf] at c8
    clear hr5 r5
    exact gK _ _ ⟨fun _ => ⟨rfl, rfl⟩, fun z => by omega⟩

set_option maxRecDepth 20000 in
set_option maxHeartbeats 1000000 in
theorem ok_X8_invariant (E : ab_E) : ab_Ok E 8 91 S_X8_invariant := by
  refine ab_mk rq_X8_invariant tk_X8_invariant (rt := 1) (rfl) (cuts := []) (G := [(19, S_X1_hasLoop), (24, S_X1_loopStatement), (29, S_X1_termBegin), (30, S_X1_termLength), (42, S_X2_readTerm), (68, S_X6_addPlain), (82, S_X8_changeToSpare), (105, S_X8_readPresent)]) (List.forall_mem_cons.mpr ⟨⟨1, by decide, ok_X1_hasLoop E⟩, List.forall_mem_cons.mpr ⟨⟨2, by decide, ok_X1_loopStatement E⟩, List.forall_mem_cons.mpr ⟨⟨1, by decide, ok_X1_termBegin E⟩, List.forall_mem_cons.mpr ⟨⟨1, by decide, ok_X1_termLength E⟩, List.forall_mem_cons.mpr ⟨⟨4, by decide, ok_X2_readTerm E⟩, List.forall_mem_cons.mpr ⟨⟨2, by decide, ok_X6_addPlain E⟩, List.forall_mem_cons.mpr ⟨⟨2, by decide, ok_X8_changeToSpare E⟩, List.forall_mem_cons.mpr ⟨⟨7, by decide, ok_X8_readPresent E⟩, fun _ h => absurd h List.not_mem_nil⟩⟩⟩⟩⟩⟩⟩⟩) (by decide) 128 rfl ?_
  intro a M K wd wa hS
  unfold S_X8_invariant at hS
  split at hS
  ·
    rename_i l
    refine ⟨Nat.le_of_ble_eq_true rfl, fun _ _ _ _ _ => False, ?_, ?_⟩
    · exact vc_X8_invariant_0 l M K  hS
    · exact fun _ _ _ _ _ h => h.elim
  · exact hS.elim
