/-! the fixed points of the class -/
theorem cr_any_c {f g : Nat → Bool} : ∀ (l : List Nat), (∀ x ∈ l, f x = g x) → l.any f = l.any g
  | [], _ => rfl
  | a :: l, h => by rw [List.any_cons, List.any_cons, h a List.mem_cons_self, cr_any_c l fun x hx => h x (List.mem_cons_of_mem _ hx)]
/-- what the fixed points ask of the program that is read -/
def gc_A (M : ab_M) : Prop := ts_p M ∧ gc_L M ∧ ∀ r : Nat, (r : Int) < M 26 3 → ab_ir (M (26 + 1 + 1 + 3 * r) 0) ∧ ab_ir (M (26 + 1 + 1 + 3 * r) 8) ∧ M (26 + 1 + 1 + 3 * r) 8 < M 26 3
theorem ts_p_lo {M M1 : ab_M} (h : ∀ o k : Nat, o < 769 → M1 o k = M o k) (hp : ts_p M) : ts_p M1 := by
  have hs : ∀ s, ts_s M s → ts_s M1 s := fun s hs => by
    have hlt : s < 700 := hs.2.2.2.2.2.2.2.2.2.2.2.1
    unfold ts_s at hs ⊢
    simp only [h s _ (show s < 769 by omega)]
    exact hs
  obtain ⟨a1, a2, a3, a4, a5⟩ := hp
  refine ⟨?_, ?_, fun l hl => ?_, fun r hr => ?_, hs _ a5⟩
  · rw [h 26 3 (by decide)]; exact a1
  · rw [h 26 8 (by decide)]; exact a2
  · rw [h 26 8 (by decide)] at hl
    rw [h 392 _ (by decide), h 26 3 (by decide)]; exact a3 l hl
  · rw [h 26 3 (by decide)] at hr
    exact hs _ (a4 r hr)
theorem gc_L_fr {M M1 : ab_M} (h : ∀ o k : Nat, o < 769 → M1 o k = M o k) (hL : gc_L M) : gc_L M1 := by
  have h3 := hL.1
  have e3 : M1 26 3 = M 26 3 := h 26 3 (by decide)
  have e8 : M1 26 8 = M 26 8 := h 26 8 (by decide)
  have e392 : ∀ k, M1 392 k = M 392 k := fun k => h 392 k (by decide)
  have es : ∀ r : Nat, (r : Int) < M 26 3 → ∀ k, M1 (26 + 1 + 1 + 3 * r) k = M (26 + 1 + 1 + 3 * r) k := fun r hr k => h _ k (by omega)
  have eT : ∀ (r : Nat) (g : Int), (r : Int) < M 26 3 → gc_T M r g → gc_T M1 r g := fun r g hr hT => by
    rcases hT with z | z | z | ⟨l, q, z1, z2, z3, z4, z5⟩
    · exact Or.inl (by rw [e3]; exact z)
    · exact Or.inr (Or.inl z)
    · exact Or.inr (Or.inr (Or.inl z))
    · exact Or.inr (Or.inr (Or.inr ⟨l, q, z1, by rw [e8]; exact z2, by rw [e392]; exact z3, z4, by rw [es q (by omega)]; exact z5⟩))
  obtain ⟨-, b1, b2, b3, b4, b5, b6⟩ := hL
  refine ⟨by rw [e3]; exact h3, fun r hr => ?_, fun r hr => ?_, fun l hl => ?_, fun x r hx hr => ?_, fun r hr => ?_, fun r hr => ?_⟩
  · rw [e3] at hr
    rw [es r hr, es r hr]
    exact ⟨eT _ _ hr (b1 r hr).1, eT _ _ hr (b1 r hr).2⟩
  · rw [e3] at hr
    simp only [es r hr, e8, e392]
    exact b2 r hr
  · rw [e8] at hl
    obtain ⟨r, y1, y2, y3, y4⟩ := b3 l hl
    exact ⟨r, by rw [e3]; exact y1, by rw [e392]; exact y2, by rw [es r y1]; exact y3, by rw [es r y1]; exact y4⟩
  · rw [e3] at hr
    rw [es r hr, es x (by omega)]
    exact b4 x r hx hr
  · rw [e3] at hr ⊢
    rw [es r hr]
    exact b5 r hr
  · rw [e3] at hr
    have ea : cr_iIL M1 26 (26 + 1 + 1 + 3 * r) = cr_iIL M 26 (26 + 1 + 1 + 3 * r) := by
      unfold cr_iIL
      rw [es r hr, cr_anc_c e3 (fun x hx => es x hx 8)]
      refine cr_any_c _ fun x hx => ?_
      rw [es x (cr_anc_lt _ _ _ hx)]
    rw [ea, b6 r hr]
    exact ⟨fun ⟨x, x1, x2, x3⟩ => ⟨x, x1, by rw [es x (by omega)]; exact x2, by rw [es x (by omega)]; exact x3⟩, fun ⟨x, x1, x2, x3⟩ => ⟨x, x1, by rw [← es x (by omega)]; exact x2, by rw [← es x (by omega)]; exact x3⟩⟩
theorem gc_A_fr {M M1 : ab_M} (h : ∀ o k : Nat, o < 769 → M1 o k = M o k) (hA : gc_A M) : gc_A M1 := by
  obtain ⟨h1, h2, h3⟩ := hA
  have hr3 := h2.1
  refine ⟨ts_p_lo h h1, gc_L_fr h h2, fun r hr => ?_⟩
  rw [h 26 3 (by decide)] at hr ⊢
  simp only [h (26 + 1 + 1 + 3 * r) _ (show 26 + 1 + 1 + 3 * r < 769 by omega)]
  exact h3 r hr
/-- with the values, nothing of the program changes -/
def pr_k (M M1 : ab_M) : Prop := ∀ o' k' : Nat, ¬ (o' = 770 ∨ o' = 771 ∨ o' = 773 ∨ o' = 774 ∨ o' = 769 ∧ k' = 3 ∨ o' = 772 ∧ k' = 3) → M1 o' k' = M o' k'
theorem pr_k.lo {M M1 : ab_M} (h : pr_k M M1) : ∀ o k : Nat, o < 769 → M1 o k = M o k := fun o k ho => h o k (by omega)
theorem ts_e.lo {M M1 : ab_M} (h : ts_e M M1) : ∀ o k : Nat, o < 769 → M1 o k = M o k := fun o k ho => h o k (by omega)
/-- during the fixed point -/
def pr_I (M M1 : ab_M) (cut : Int) : Prop := M1 769 3 = 1 ∧ vl_V M M1 (M 26 11) ∧ tv_ok M1 ∧ pr_k M M1 ∧ gx_ok (gc_S M1 cut) (gc_O M1 cut) (M1 774) ∧ ∀ j, 33280 ≤ j → M1 774 j = 0
theorem rn_f.k {M M1 M2 : ab_M} (h : pr_k M M1) (h2 : rn_f M1 M2) : pr_k M M2 := fun o k q => (h2 o k (by omega) (by omega) (by omega)).trans (h o k q)
theorem gc_P_up {M : ab_M} {cut : Int} {R : List Int} {N : Nat → Int} (hp : ts_p M) (hR : ∀ r ∈ R, 0 ≤ r ∧ r < 130 ∧ r ≠ 120 ∧ r ≠ 121) (h : gx_ok (gc_S M cut) (gc_O M cut) N) : gx_ok (gc_S M cut) (gc_O M cut) (sw_N M cut R N) ∧ (∀ i b, b < 32 → pz_b (N i) b = true → pz_b (sw_N M cut R N i) b = true) ∧ ∀ j, 33280 ≤ j → sw_N M cut R N j = N j := by
  have hpos : ∀ r ∈ R, 0 ≤ r := fun r hr => (hR r hr).1
  rw [sw_N_p M cut R N hpos]
  obtain ⟨g1, g2⟩ := gx_p_ok (v := gc_v M cut) (gc_P R) N h fun j hj => by
    have := hR _ ((gc_P_mem hpos).1 hj)
    exact gc_vs hp cut (by omega) (by omega)
  refine ⟨g1, g2, fun j hj => gx_p_no _ _ _ fun hm => ?_⟩
  have := hR _ ((gc_P_mem hpos).1 hm)
  omega
theorem sw_N_app (M : ab_M) (cut : Int) (A B : List Int) (N : Nat → Int) : sw_N M cut (A ++ B) N = sw_N M cut B (sw_N M cut A N) := List.foldl_append
/-- a sweep that changes a note adds a bit -/
theorem sw_c.lt {M : ab_M} {cut : Int} {R : List Int} {N : Nat → Int} (hp : ts_p M) (hR : ∀ r ∈ R, 0 ≤ r ∧ r < 130 ∧ r ≠ 120 ∧ r ≠ 121) (h : gx_ok (gc_S M cut) (gc_O M cut) N) (hc : sw_c M cut R N) : gx_c 33280 N < gx_c 33280 (sw_N M cut R N) := by
  obtain ⟨A, r, B, rfl, hne⟩ := hc
  have hA := gc_P_up (R := A) hp (fun x hx => hR x (List.mem_append.2 (Or.inl hx))) h
  have hr := gc_P_up (R := [r]) hp (fun x hx => hR x (List.mem_append.2 (Or.inr (by rw [List.mem_singleton.1 hx]; exact List.mem_cons_self)))) hA.1
  have hB := gc_P_up (R := B) hp (fun x hx => hR x (List.mem_append.2 (Or.inr (List.mem_cons_of_mem _ hx)))) hr.1
  have e : sw_N M cut (A ++ r :: B) N = sw_N M cut B (sw_N M cut [r] (sw_N M cut A N)) := by rw [sw_N_app]; rfl
  rw [e]
  refine Nat.lt_of_le_of_lt (gx_c_le hA.2.1) (Nat.lt_of_lt_of_le ?_ (gx_c_le hB.2.1))
  have hex : ∃ j, ¬ sw_N M cut [r] (sw_N M cut A N) j = sw_N M cut A N j := by
    refine Classical.byContradiction fun q => hne (funext fun j => ?_)
    exact Classical.byContradiction fun z => q ⟨j, z⟩
  obtain ⟨j, hj⟩ := hex
  have hlt : j < 33280 := Classical.byContradiction fun q => hj (hr.2.2 j (by omega))
  exact gx_c_lt hr.2.1 hlt (gc_18 hp hr.1) (hA.1.2.2 j) (hr.1.2.2 j) hj
theorem prC_fr {M M1 : ab_M} (h : ts_e M M1) (hA : gc_A M) {cut row : Int} {N : Nat → Int} (hC : prC M cut row N) : prC M1 cut row N := by
  obtain ⟨e1, e2, -⟩ := gc_fr h hA.1 cut
  have e3 : M1 26 3 = M 26 3 := h.c 26 3 (by decide)
  have e8 : M1 26 8 = M 26 8 := h.c 26 8 (by decide)
  have e392 : ∀ k, M1 392 k = M 392 k := fun k => h.c 392 k (by decide)
  have hr3 := hA.2.1.1
  unfold prC
  rw [e1, e2]
  refine ⟨hC.1, fun j q hw hq hx => ?_⟩
  have hw' : gc_w M cut j q := by
    unfold gc_w at hw ⊢
    simp only [e3, e8, e392] at hw
    exact hw
  have hqn := gc_w_lt hA.2.1 hw'
  refine hC.2 j q hw' hq fun x x1 x2 x3 x4 => ?_
  have es : ∀ k, M1 (26 + 1 + 1 + 3 * x) k = M (26 + 1 + 1 + 3 * x) k := fun k => h.c _ k (by omega)
  exact hx x x1 (by rw [es]; exact x2) x3 (by rw [es]; exact x4)
/-- a sweep from a row on -/
theorem pr_step {M M1 M2 : ab_M} {cut r : Int} {w : Nat} (hA : gc_A M) (hc : cut = 0 ∨ cut = 1) (hI : pr_I M M1 cut) (hw : (w : Int) < M 26 3) (hC : prC M1 cut (w : Int) (M1 774)) (hS : sw_I M1 M2 cut (sw_R M1 (w : Int) (prH M1 w) cut) r) :
    pr_I M M2 cut ∧ prC M2 cut (w : Int) (M2 774) ∧ (r = 0 → prC M2 cut ((w : Int) - 1) (M2 774)) ∧ (r = 1 → (¬ (cut = 0 ∧ M1 (26 + 1 + 1 + 3 * w) 0 = 119) → prC M2 cut ((w : Int) - 1) (M2 774)) ∧ gx_c 33280 (M1 774) < gx_c 33280 (M2 774)) := by
  obtain ⟨i1, i2, i3, i4, i5, i6⟩ := hI
  obtain ⟨s1, s2, s3, s4⟩ := hS
  have hA1 := gc_A_fr i4.lo hA
  have hp := hA1.1
  have hL := hA1.2.1
  have e26 : M1 26 3 = M 26 3 := i4 26 3 (by omega)
  have hw1 : (w : Int) < M1 26 3 := by omega
  obtain ⟨b1, b2⟩ := prH_rng hL hw1
  obtain ⟨hi, ehi⟩ : ∃ hi : Nat, prH M1 w = (hi : Int) := ⟨(prH M1 w).toNat, by omega⟩
  have hR : ∀ x ∈ sw_R M1 (w : Int) (prH M1 w) cut, 0 ≤ x ∧ x < 130 ∧ x ≠ 120 ∧ x ≠ 121 := fun x hx => by
    rw [ehi] at hx b1 b2
    exact sw_R_rng hL hp b2 (by omega) hx
  obtain ⟨u1, u2, u3⟩ := gc_P_up (cut := cut) hp hR i5
  obtain ⟨f1, f2, -⟩ := gc_fr s1.e hp cut
  have hkeep := hC.keep hL hp hw1
  have hnext : ((cut = 1 ∨ (w = hi ∧ M1 (26 + 1 + 1 + 3 * hi) 0 ≠ 119) ∨ (sw_N M1 cut (sw_R M1 (w : Int) (hi : Int) cut) (M1 774) = M1 774 ∧ ∀ r ∈ sw_R M1 (w : Int) (hi : Int) cut, rf_n M1 r cut (M1 774) 256 = M1 774))) → prC M2 cut ((w : Int) - 1) (M2 774) := fun hcase => by
    rw [s2]
    refine prC_fr s1.e hA1 (hkeep.next hL hw1 ?_)
    rw [ehi] at b1 b2 ⊢
    exact sw_done hL hp b2 (by omega) hcase
  refine ⟨⟨?_, ?_, ts_e_ok s1.e i3, s1.k i4, ?_, ?_⟩, ?_, fun hr => ?_, fun hr => ⟨fun hn => hnext ?_, ?_⟩⟩
  · rw [s1 769 3 (by decide) (by decide) (by decide)]; exact i1
  · intro k s h1 h2
    rw [s1 770 _ (by decide) (by decide) (fun q => absurd q.1 (by decide))]
    exact i2 k s h1 h2
  · rw [f1, f2, s2]; exact u1
  · intro j hj
    rw [s2, u3 j hj]
    exact i6 j hj
  · rw [s2]; exact prC_fr s1.e hA1 hkeep
  · refine hnext (Or.inr (Or.inr ?_))
    rw [ehi] at s2 s3
    rcases s3 with ⟨-, z1, z2⟩ | ⟨z, -⟩
    · exact ⟨s2.symm.trans z1, z2⟩
    · omega
  · rcases hc with rfl | rfl
    · have h0 : M1 (26 + 1 + 1 + 3 * w) 0 ≠ 119 := fun q => hn ⟨rfl, q⟩
      unfold prH at ehi
      rw [if_neg h0] at ehi
      have : w = hi := by omega
      subst this
      exact Or.inr (Or.inl ⟨rfl, h0⟩)
    · exact Or.inl rfl
  · rcases s3 with ⟨z, -⟩ | ⟨-, z⟩
    · omega
    · rw [s2]
      exact z.lt hp hR i5
/-- the notes at the beginning -/
def pr_0 (k : Int) (j : Nat) : Int := if j / 256 = 120 ∧ ((j % 256 : Nat) : Int) < k then 65536 else if j / 256 = 121 ∧ ((j % 256 : Nat) : Int) < k then 131072 else 0
theorem pz_b_16 {b : Nat} (h : b < 32) : pz_b 65536 b = true ↔ b = 16 := by
  have key : ∀ b : Fin 32, pz_b 65536 b.val = true ↔ b.val = 16 := by decide +kernel
  exact key ⟨b, h⟩
theorem pz_b_17 {b : Nat} (h : b < 32) : pz_b 131072 b = true ↔ b = 17 := by
  have key : ∀ b : Fin 32, pz_b 131072 b.val = true ↔ b.val = 17 := by decide +kernel
  exact key ⟨b, h⟩
theorem pr_0_ok {M : ab_M} (hp : ts_p M) (hL : gc_L M) {cut : Int} : gx_ok (gc_S M cut) (gc_O M cut) (pr_0 256) ∧ prC M cut (M 26 3 - 1) (pr_0 256) := by
  have hO : ∀ j b, b < 32 → pz_b (pr_0 256 j) b = true → gc_O M cut j b := fun j b hb h => by
    unfold pr_0 at h
    split at h
    · rename_i q
      exact Or.inl ⟨q.1, (pz_b_16 hb).1 h⟩
    · split at h
      · rename_i q
        exact Or.inr (Or.inl ⟨q.1, (pz_b_17 hb).1 h⟩)
      · rw [pz_b_0] at h
        exact absurd h (by decide)
  refine ⟨⟨fun j b hb h => ⟨0, hO j b hb h⟩, fun j b hb h => Or.inl (hO j b hb h), fun j => ?_⟩, fun j hj b hb hF => ?_, fun j q hw hq => ?_⟩
  · unfold pr_0
    repeat' split
    all_goals exact ⟨by decide, by decide⟩
  · have hm : j % 256 < 256 := Nat.mod_lt _ (by decide)
    have hO2 : gc_O M cut j b := by
      rcases hF with h | ⟨p, h1, -⟩
      · exact h
      · rw [gc_S_end hj] at h1
        exact absurd h1 List.not_mem_nil
    unfold gc_O pl_fd at hO2
    rw [if_neg (by omega), if_neg (by omega), if_neg (by omega)] at hO2
    unfold pr_0
    rcases hO2 with h | h | h
    · rw [if_pos ⟨h.1, by omega⟩]; exact (pz_b_16 hb).2 h.2
    · rw [if_neg (by omega), if_pos ⟨h.1, by omega⟩]; exact (pz_b_17 hb).2 h.2
    · have h : (-1 : Int) = (b : Int) := h
      omega
  · have := gc_w_lt hL hw
    omega
/-- where the program begins -/
def pr_s (M : ab_M) : Nat := if 0 < M 26 3 then 0 else 120
/-- the outcomes of the program from each state -/
def pr_O (M : ab_M) (c : Int) : Prop := ∀ s : Nat, s < 256 → ab_ir (M 775 (c.toNat * 256 + s)) ∧ ∀ b : Nat, b < 32 → (pz_b (M 775 (c.toNat * 256 + s)) b = true ↔ ∃ n, gx_W (gc_S M c) (fun j => gc_O M c j b) n (pr_s M * 256 + s))
def pr_N (M M' : ab_M) (c : Int) : Prop := M' 776 c.toNat = 1 ∧ M' 769 3 = 1 ∧ vl_V M M' (M 26 11) ∧ tv_ok M' ∧ (∀ o' k' : Nat, ¬ (o' = 770 ∨ o' = 771 ∨ o' = 773 ∨ o' = 774 ∨ o' = 769 ∧ k' = 3 ∨ o' = 772 ∧ k' = 3 ∨ o' = 775 ∧ c * 256 ≤ (k' : Int) ∧ (k' : Int) < c * 256 + 256 ∨ o' = 776 ∧ (k' : Int) = c) → M' o' k' = M o' k') ∧ (∀ j, 33280 ≤ j → M' 774 j = 0) ∧ pr_O M' c
theorem pr_end {M M1 M2 : ab_M} {c : Int} (hA : gc_A M) (hc : c = 0 ∨ c = 1) (hI : pr_I M M1 c) (hC : prC M1 c (-1) (M1 774)) (h2 : M2 = ab_up (ab_cpy M1 774 (((pr_s M : Nat) : Int) * 256) 775 (c * 256) 256) 776 c.toNat 1) : pr_N M M2 c := by
  obtain ⟨i1, i2, i3, i4, i5, i6⟩ := hI
  have hA1 := gc_A_fr i4.lo hA
  have hp := hA1.1
  have hL := hA1.2.1
  have e26 : M1 26 3 = M 26 3 := i4 26 3 (by omega)
  have hcp : ∀ o k : Nat, ab_cpy M1 774 (((pr_s M : Nat) : Int) * 256) 775 (c * 256) 256 o k = if o = 775 ∧ (c * 256).toNat ≤ k ∧ k < (c * 256).toNat + 256 then M1 774 (pr_s M * 256 + (k - (c * 256).toNat)) else M1 o k := fun o k => by
    unfold ab_cpy
    rw [show (((pr_s M : Nat) : Int) * 256).toNat = pr_s M * 256 by omega, show ((256 : Int)).toNat = 256 from rfl]
    by_cases q : o = 775 ∧ (c * 256).toNat ≤ k ∧ k < (c * 256).toNat + 256
    · rw [if_pos q, q.1, show Nat.beq 775 775 = true from rfl, Nat.ble_eq_true_of_le q.2.1, show Nat.blt k ((c * 256).toNat + 256) = true from Nat.ble_eq_true_of_le q.2.2]
      rfl
    · rw [if_neg q]
      cases e : (Nat.beq o 775 && (Nat.ble (c * 256).toNat k && Nat.blt k ((c * 256).toNat + 256))) with
      | false => rfl
      | true =>
        rw [Bool.and_eq_true, Bool.and_eq_true] at e
        exact absurd ⟨Nat.eq_of_beq_eq_true e.1, Nat.le_of_ble_eq_true e.2.1, Nat.le_of_ble_eq_true e.2.2⟩ q
  have hlow : ∀ o k : Nat, o ≠ 775 → o ≠ 776 → M2 o k = M1 o k := fun o k h1 h2' => by
    rw [h2, ab_up_o h2', hcp, if_neg (fun q => h1 q.1)]
  have hte : ts_e M1 M2 := fun o k ho => hlow o k (by omega) (by omega)
  obtain ⟨f1, f2, -⟩ := gc_fr hte hp c
  refine ⟨by rw [h2, ab_up_s], ?_, ?_, ts_e_ok hte i3, ?_, ?_, ?_⟩
  · rw [hlow 769 3 (by decide) (by decide)]; exact i1
  · intro k s h1 h2'
    rw [hlow 770 _ (by decide) (by decide)]
    exact i2 k s h1 h2'
  · intro o k q
    by_cases e : o = 776
    · subst e
      rw [h2, ab_up_k (by omega), hcp, if_neg (fun z => absurd z.1 (by decide))]
      exact i4 776 k (by omega)
    · rw [h2, ab_up_o e, hcp, if_neg (by omega)]
      exact i4 o k (by omega)
  · intro j hj
    rw [hlow 774 j (by decide) (by decide)]
    exact i6 j hj
  · have hs : pr_s M2 = pr_s M := by
      unfold pr_s
      rw [hlow 26 3 (by decide) (by decide), e26]
    intro s hs256
    have ev : M2 775 (c.toNat * 256 + s) = M1 774 (pr_s M * 256 + s) := by
      rw [h2, ab_up_o (by decide), hcp, if_pos ⟨rfl, by omega, by omega⟩]
      congr 1
      omega
    rw [ev, hs, f1, f2]
    refine ⟨i5.2.2 _, fun b hb => ?_⟩
    refine gx_iff (D := gc_D M1 c) i5 (fun j hj => ⟨?_, gc_D_S hL hp hj⟩) hb ?_
    · rcases hj with h | h | ⟨q, h⟩
      · exact hC.1 j (Or.inl h)
      · exact hC.1 j (Or.inr h)
      · exact hC.2 j q h (by omega) fun x hx => by omega
    · unfold pr_s gc_D
      split
      · exact Or.inr (Or.inr ⟨0, Or.inl ⟨by omega, by omega⟩⟩)
      · exact Or.inl (by omega)
