/-! the class reads a program -/
/-- in the middle of reading a program -/
def cr_RV (o p : Nat) (M M1 : ab_M) (n : Int) : Prop := cr_ok o p M1 ∧ (∀ o' k' : Nat, ¬ (764 ≤ o' ∧ o' ≤ 767) → ¬ ((p ≤ o' ∧ o' ≤ p + 368) ∧ ¬ (o' = p ∧ k' = 0) ∧ ¬ o' = p + 362) → M1 o' k' = M o' k') ∧ ((∃ (fs : List pz_F) (t : pz_T) (E : List pz_Ev) (op : List Nat) (A k : Nat), cr_P o p M1 fs t E op A ∧ n ≤ (A : Int) ∧ pz_run (cr_L o M) k E op (A : Int) = pz_read (cr_L o M) ∧ (cr_L o M).length - A + 1 ≤ k) ∨ (∃ q a, q ≠ -9 ∧ pz_read (cr_L o M) = .inl q ∧ cr_st o M1 a q))
/-- what readProgram() leaves -/
def cr_RP (o p : Nat) (M M' : ab_M) (r : Int) : Prop := cr_ok o p M' ∧ (∀ o' k' : Nat, ¬ (764 ≤ o' ∧ o' ≤ 767) → ¬ ((p ≤ o' ∧ o' ≤ p + 368) ∧ ¬ (o' = p ∧ k' = 0) ∧ ¬ o' = p + 362) → M' o' k' = M o' k') ∧ match pz_read (cr_L o M) with
  | .inl q => ∃ e : Nat, r = (e : Int) ∧ (e : Int) ≤ M o 1 ∧ ((e : Int) < M o 1 → M (o + 1) e ≠ 32) ∧ q = ((cr_c o M e : Nat) : Int)
  | .inr E => r = -1 ∧ ∃ t, pz_wf t ∧ pz_ld t ≤ 2 ∧ cr_L o M = pz_pr t ∧ E = pz_fl t 0 0 0 ∧ cr_PT (M (o + 1)) M' p t ∧ cr_PL M' p (pz_sz t)
theorem cr_farL {o p : Nat} {M M1 : ab_M} (hop : cr_op o p) (h : ∀ o' k' : Nat, ¬ (764 ≤ o' ∧ o' ≤ 767) → ¬ ((p ≤ o' ∧ o' ≤ p + 368) ∧ ¬ (o' = p ∧ k' = 0) ∧ ¬ o' = p + 362) → M1 o' k' = M o' k') : M1 o 1 = M o 1 ∧ (∀ j, M1 (o + 1) j = M (o + 1) j) ∧ cr_L o M1 = cr_L o M ∧ M1 (o + 1) = M (o + 1) ∧ ∀ k, cr_c o M1 k = cr_c o M k := by
  have hoo : o < 25 ∧ o + 1 < 25 ∧ 26 ≤ p := by rcases hop with ⟨q, q'⟩ | ⟨q, q'⟩ <;> omega
  have e1 : M1 o 1 = M o 1 := h _ _ (by omega) (by omega)
  have e2 : ∀ j, M1 (o + 1) j = M (o + 1) j := fun j => h _ _ (by omega) (by omega)
  refine ⟨e1, e2, ?_, funext e2, fun k => ?_⟩
  · show (pz_ls (M1 (o + 1)) (M1 o 1)).filter _ = _
    rw [e1, pz_ls_congr (g := M (o + 1)) fun j _ => e2 j]
  · show (pz_pos (M1 (o + 1)) k).length = _
    rw [pz_pos_f (g := M (o + 1)) fun j _ => e2 j]
theorem cr_RV.start {o p : Nat} {M M1 : ab_M} (hop : cr_op o p) (h : cr_ST o p M M1) (hBD : cr_BD (cr_L o M)) : cr_RV o p M M1 0 := by
  obtain ⟨h1, h2, ⟨a3, a4, a6, a8, a11, b8, b9, b0⟩, h4⟩ := h
  have far : ∀ o' k' : Nat, ¬ (764 ≤ o' ∧ o' ≤ 767) → ¬ ((p ≤ o' ∧ o' ≤ p + 368) ∧ ¬ (o' = p ∧ k' = 0) ∧ ¬ o' = p + 362) → M1 o' k' = M o' k' := fun o' k' g1 g2 => h4 o' k' (by omega) (by omega) (by omega)
  obtain ⟨-, -, eL, ef, -⟩ := cr_farL hop far
  have hZ : pz_Z (cr_L o M) [] .leaf [] [] 0 := ⟨trivial, trivial, Nat.zero_le _, Nat.zero_le _, by rw [List.take_zero]; rfl, rfl, rfl, Nat.zero_le _, Nat.zero_le _⟩
  refine ⟨h1, far, Or.inl ⟨[], .leaf, [], [], 0, (cr_L o M).length + 1, ⟨h1, h2, by rw [eL]; exact hZ, ?_, fun q => ?_⟩, Int.le_refl 0, rfl, by omega⟩⟩
  · exact ⟨⟨a3, a6, a8, a11⟩, (fun k v hk => by cases hk), ⟨b8, b9, b0⟩, fun r hr => absurd hr (Nat.not_lt_zero _), trivial, a4⟩
  · rw [eL] at q
    exact hZ.mu.2.1 ((hBD _ _ _ _ _ _ hZ rfl (by omega)).2 q)
theorem cr_RV.turn {o p : Nat} {M M1 M2 : ab_M} {fs : List pz_F} {t : pz_T} {E : List pz_Ev} {op : List Nat} {A k : Nat} {n : Int} (hop : cr_op o p) (hBD : cr_BD (cr_L o M)) (hfar : ∀ o' k' : Nat, ¬ (764 ≤ o' ∧ o' ≤ 767) → ¬ ((p ≤ o' ∧ o' ≤ p + 368) ∧ ¬ (o' = p ∧ k' = 0) ∧ ¬ o' = p + 362) → M1 o' k' = M o' k') (hA : A < (cr_L o M).length) (hn : n ≤ (A : Int)) (hr : pz_run (cr_L o M) k E op (A : Int) = pz_read (cr_L o M)) (hk : (cr_L o M).length - A + 1 ≤ k) (hT : cr_TR o p M1 M2 E op A) : cr_RV o p M M2 (n + 1) := by
  obtain ⟨-, -, eL, ef, -⟩ := cr_farL hop hfar
  obtain ⟨t1, t2, t3⟩ := hT
  rw [eL, ef] at t3
  refine ⟨t1, fun o' k' g1 g2 => by rw [t2 o' k' g1 g2, hfar o' k' g1 g2], ?_⟩
  obtain ⟨k', rfl⟩ : ∃ k', k = k' + 1 := ⟨k - 1, by omega⟩
  unfold pz_run at hr
  rw [if_pos (by omega)] at hr
  cases hx : pz_turn (cr_L o M) E op (A : Int) with
  | inl q =>
    rw [hx] at t3 hr
    obtain ⟨q1, a, q2⟩ := t3
    exact Or.inr ⟨q, a, q1, hr.symm, q2⟩
  | inr r =>
    rw [hx] at t3 hr
    obtain ⟨fs', t', A', e1, e2, e3, e4⟩ := t3
    have hp := pz_turn_prog hx
    have hA' : A' ≤ (cr_L o M).length := e2.2.2.2.1
    have hr : pz_run (cr_L o M) k' r.1 r.2.1 r.2.2 = pz_read (cr_L o M) := hr
    rw [e1] at hr
    have eL2 : cr_L o M2 = cr_L o M ∧ M2 (o + 1) = M (o + 1) := by
      have := cr_farL hop (M := M) (M1 := M2) fun o' k' g1 g2 => by rw [t2 o' k' g1 g2, hfar o' k' g1 g2]
      exact ⟨this.2.2.1, this.2.2.2.1⟩
    refine Or.inl ⟨fs', t', r.1, r.2.1, A', k', ⟨t1, e4, by rw [eL2.1]; exact e2, by rw [eL2.2]; exact e3, fun q => ?_⟩, by omega, hr, by omega⟩
    rw [eL2.1] at q
    exact e2.mu.2.1 ((hBD _ _ _ _ _ _ e2 hr (by omega)).2 q)
theorem cr_P.end' {o p : Nat} {M : ab_M} {fs : List pz_F} {t : pz_T} {E : List pz_Ev} {op : List Nat} {A : Nat} (h : cr_P o p M fs t E op A) : M 764 4 = -1 ∧ (M 764 3 = -1 ↔ ¬ A < (cr_L o M).length) ∧ A ≤ (cr_L o M).length ∧ ((cr_L o M).length : Int) ≤ M o 1 ∧ ab_ir (M 764 3) ∧ M 764 8 = (fs.length : Int) ∧ (op = [] ↔ fs = []) := by
  obtain ⟨hok, hst, hZ, hR, -⟩ := h
  have h2 := hZ.2.2.2.1
  have h8 := hZ.cn.2.2.2.2.2.2.2
  have hb := cr_bd hok
  have hl : ((cr_L o M).length : Int) ≤ M o 1 := by
    rw [cr_L_len]
    have := cr_c_le o M (M o 1).toNat
    omega
  obtain ⟨kk, -, -, hir, -, -, -⟩ := cr_st_b hok hst
  rcases hst with ⟨-, s2, k, s3, s4⟩ | ⟨z, -⟩
  · obtain ⟨p1, p2⟩ := cr_pt s3.2.1 s3.2.2.1
    have e : cr_c o M k = A := by omega
    rw [e] at p1 p2
    have h3 := s3.2.2.2
    have hc := hok.2.2.2.2.2 k
    refine ⟨s2, ?_, h2, hl, hir, hR.2.2.1.1, ?_⟩
    · rw [← p2, h3]
      by_cases q : (k : Int) < M o 1
      · rw [if_pos q]
        exact ⟨fun z => by omega, fun z => absurd q z⟩
      · rw [if_neg q]
        exact ⟨fun _ => q, fun _ => rfl⟩
    · constructor
      · intro q
        rw [q] at h8
        exact List.eq_nil_of_length_eq_zero h8.symm
      · intro q
        rw [q] at h8
        exact List.eq_nil_of_length_eq_zero h8
  · exact absurd rfl z
theorem cr_nmay {o p : Nat} {M M' : ab_M} {fs : List pz_F} {t : pz_T} {E : List pz_Ev} {op : List Nat} {A : Nat} (h : cr_P o p M fs t E op A) (hnc : ¬ (pz_at (cr_L o M) A = 41 ∧ op ≠ [])) (hm : ¬ pz_may (cr_L o M) E op (A : Int)) (hM : M' = ab_up M 764 4 (M 764 2)) : cr_TR o p M M' E op A := by
  obtain ⟨hok, hst, -⟩ := h
  obtain ⟨f1, f2⟩ := cr_flt hok hst hM
  have ht : pz_turn (cr_L o M) E op (A : Int) = .inl (A : Int) := by
    unfold pz_may at hm
    unfold pz_turn
    rw [Int.toNat_natCast] at hm ⊢
    cases op with
    | nil => dsimp only; rw [if_neg hm]
    | cons o' op => dsimp only; rw [if_neg (fun q => hnc ⟨q, fun z => by cases z⟩), if_neg hm]
  refine ⟨f2.ok hok, fun o' k' g _ => f2 o' k' (by omega), ?_⟩
  rw [ht]
  exact ⟨by omega, _, f1⟩
/-- at the end of reading -/
def cr_RE (o p : Nat) (M M1 : ab_M) : Prop := cr_ok o p M1 ∧ (∀ o' k' : Nat, ¬ (764 ≤ o' ∧ o' ≤ 767) → ¬ ((p ≤ o' ∧ o' ≤ p + 368) ∧ ¬ (o' = p ∧ k' = 0) ∧ ¬ o' = p + 362) → M1 o' k' = M o' k') ∧ ((∃ (fs : List pz_F) (t : pz_T) (E : List pz_Ev) (op : List Nat) (A : Nat), cr_P o p M1 fs t E op A ∧ A = (cr_L o M).length ∧ (if op = [] then (.inr E : Int ⊕ List pz_Ev) else .inl (A : Int)) = pz_read (cr_L o M) ∧ pz_mu E ≤ 120) ∨ (∃ q a, q ≠ -9 ∧ pz_read (cr_L o M) = .inl q ∧ cr_st o M1 a q))
theorem cr_RV.done {o p : Nat} {M M1 : ab_M} {fs : List pz_F} {t : pz_T} {E : List pz_Ev} {op : List Nat} {A k : Nat} (hok : cr_ok o p M1) (hfar : ∀ o' k' : Nat, ¬ (764 ≤ o' ∧ o' ≤ 767) → ¬ ((p ≤ o' ∧ o' ≤ p + 368) ∧ ¬ (o' = p ∧ k' = 0) ∧ ¬ o' = p + 362) → M1 o' k' = M o' k') (hBD : cr_BD (cr_L o M)) (hP : cr_P o p M1 fs t E op A) (hA : A = (cr_L o M).length) (hr : pz_run (cr_L o M) k E op (A : Int) = pz_read (cr_L o M)) (hk : (cr_L o M).length - A + 1 ≤ k) : cr_RE o p M M1 := by
  obtain ⟨-, -, eL, -, -⟩ := cr_farL hok.2.2.1 hfar
  have hmu := (hBD _ _ _ _ _ _ (by rw [← eL]; exact hP.2.2.1) hr hk).1
  refine ⟨hok, hfar, Or.inl ⟨fs, t, E, op, A, hP, hA, ?_, hmu⟩⟩
  obtain ⟨k', rfl⟩ : ∃ k', k = k' + 1 := ⟨k - 1, by omega⟩
  have e : pz_run (cr_L o M) (k' + 1) E op (A : Int) = if op = [] then .inr E else .inl (A : Int) := by
    unfold pz_run
    rw [if_neg (by omega)]
  rw [← hr, e]
theorem cr_RE.bad {o p : Nat} {M M1 : ab_M} (h : cr_RE o p M M1) (he : ¬ M1 764 4 < 0) : cr_RP o p M M1 (M1 764 4) := by
  obtain ⟨h1, h2, h3⟩ := h
  obtain ⟨f1, f2, fL, ff, fc⟩ := cr_farL h1.2.2.1 h2
  rcases h3 with ⟨fs, t, E, op, A, hP, -⟩ | ⟨q, a, q1, q2, q3⟩
  · have := hP.end'.1
    omega
  · refine ⟨h1, h2, ?_⟩
    rw [q2]
    rcases q3 with ⟨z, -⟩ | ⟨z, k, e, z1, z2, z3, z4, z5⟩
    · exact absurd z q1
    · rw [f1] at z3 z4
      exact ⟨e, z2, z3, fun y => by rw [← f2]; exact z4 y, by rw [← fc]; exact z5⟩
theorem cr_RE.ajar {o p : Nat} {M M1 : ab_M} (h : cr_RE o p M M1) (he : M1 764 4 < 0) (hd : 0 < M1 764 8) : cr_RP o p M (ab_up M1 764 4 (M o 1)) (M o 1) := by
  obtain ⟨h1, h2, h3⟩ := h
  obtain ⟨f1, f2, fL, ff, fc⟩ := cr_farL h1.2.2.1 h2
  rcases h3 with ⟨fs, t, E, op, A, hP, hA, hr, -⟩ | ⟨q, a, q1, q2, q3⟩
  · obtain ⟨e4, e3, eA, eL, eir, e8, eop⟩ := hP.end'
    have hop : op ≠ [] := fun z => by
      have := eop.1 z
      rw [this] at e8
      rw [e8] at hd
      exact absurd hd (by decide)
    rw [if_neg hop] at hr
    have hb := h1.2.2.2.1
    have hfr : cr_fr M1 (ab_up M1 764 4 (M o 1)) := fun o' k' q => up_ne (by omega)
    refine ⟨hfr.ok h1, fun o' k' g1 g2 => by rw [up_ne (by omega), h2 o' k' g1 g2], ?_⟩
    rw [← hr]
    refine ⟨(M o 1).toNat, by omega, by omega, fun q => by omega, ?_⟩
    rw [hA, cr_L_len]
  · obtain ⟨-, -, -, -, -, z, -⟩ := cr_st_b h1 q3
    exact absurd (z.2 he) q1
theorem cr_RE.good {o p : Nat} {M M1 : ab_M} (h : cr_RE o p M M1) (he : M1 764 4 < 0) (hd : M1 764 8 ≤ 0) : cr_LP p M1 ∧ ∀ M' : ab_M, cr_LV p M1 M' (M1 p 3).toNat → M' 764 4 = -1 ∧ cr_RP o p M M' (-1) := by
  obtain ⟨h1, h2, h3⟩ := h
  obtain ⟨f1, f2, fL, ff, fc⟩ := cr_farL h1.2.2.1 h2
  rcases h3 with ⟨fs, t, E, op, A, hP, hA, hr, hmu⟩ | ⟨q, a, q1, q2, q3⟩
  · obtain ⟨e4, e3, eA, eL, eir, e8, eop⟩ := hP.end'
    have hfs : fs = [] := by
      cases fs with
      | nil => rfl
      | cons f fs => rw [e8, List.length_cons] at hd; omega
    rw [if_pos (eop.2 hfs)] at hr
    obtain ⟨hok, hst, hZ, hR, -⟩ := hP
    rw [hfs] at hZ hR
    rw [ff] at hR
    rw [fL] at hZ
    have hpt := hR.pt hZ
    have hsz : pz_sz t ≤ 120 := by
      have h0 := hZ.mu.2.2 hmu
      have h1 : cr_zr [] + pz_sz t = pz_sz t := Nat.zero_add _
      omega
    obtain ⟨z1, z2, z3, z4, z5, z6, z7, z8, z9⟩ := id hZ
    have hm : ∀ r : Nat, r < pz_sz t → M1 (p + 1 + 1 + 3 * r) 6 = 0 ∧ M1 (p + 1 + 1 + 3 * r) 7 = 0 := fun r hr => hR.2.2.2.1 r (by rw [show cr_zr [] + pz_sz t = pz_sz t from Nat.zero_add _]; exact hr)
    refine ⟨hpt.lp z2 hsz hm, fun M' hL => ?_⟩
    rw [hpt.2.1.1, Int.toNat_natCast] at hL
    obtain ⟨l1, l2⟩ := hpt.link z2 hsz hL
    have hpp := cr_bd0 h1.2.2.1
    have hoo : o + 1 < 25 := by rcases h1.2.2.1 with ⟨q, -⟩ | ⟨q, -⟩ <;> omega
    have far : ∀ o' k', ¬ ((p ≤ o' ∧ o' ≤ p + 368) ∧ ¬ (o' = p ∧ k' = 0) ∧ ¬ o' = p + 362) → M' o' k' = M1 o' k' := fun o' k' g => hL.1 o' k' fun r hr => by
      have := hpt.2.1.1
      omega
    refine ⟨by rw [far _ _ (by omega)]; exact e4, cr_ok_fr h1 ⟨far _ _ (by omega), far _ _ (by omega)⟩ (far _ _ (by omega)) (fun j => far _ _ (by omega)), fun o' k' g1 g2 => by rw [far _ _ g2, h2 o' k' g1 g2], ?_⟩
    rw [← hr]
    refine ⟨rfl, t, z2, ?_, ?_, z6, l1, l2⟩
    · have z3 : 0 + pz_ld t ≤ 2 := z3
      omega
    · rw [hA, List.take_length] at z5
      exact z5
  · obtain ⟨-, -, -, -, -, z, -⟩ := cr_st_b h1 q3
    exact absurd (z.2 he) q1
theorem cr_may_iff {c k l z : Int} (hk : k ≤ 16) : (pz_srt c ≠ -9 ∧ k + pz_nck (pz_srt c) ≤ 16 ∧ (pz_srt c = 7 → l < 4 ∧ z < 2)) ↔ ((c = 107 ∨ c = 112) ∧ k < 16 ∨ c = 119 ∧ k + 1 < 16 ∧ l < 4 ∧ z < 2 ∨ c = 104 ∨ c = 115 ∨ c = 116 ∨ c = 105 ∨ c = 121 ∨ 97 ≤ c ∧ c ≤ 100) := by
  have hc : (c = 104 ∧ pz_srt c = 1) ∨ (c = 107 ∧ pz_srt c = 2) ∨ (c = 115 ∧ pz_srt c = 3) ∨ (c = 116 ∧ pz_srt c = 4) ∨ (c = 112 ∧ pz_srt c = 5) ∨ (c = 105 ∧ pz_srt c = 6) ∨ (c = 119 ∧ pz_srt c = 7) ∨ (c = 121 ∧ pz_srt c = 8) ∨ (97 ≤ c ∧ c ≤ 100 ∧ pz_srt c = 0) ∨ (¬ (c = 104 ∨ c = 107 ∨ c = 115 ∨ c = 116 ∨ c = 112 ∨ c = 105 ∨ c = 119 ∨ c = 121 ∨ (97 ≤ c ∧ c ≤ 100)) ∧ pz_srt c = -9) := by
    unfold pz_srt
    repeat' split
    all_goals omega
  rcases hc with ⟨h, e⟩ | ⟨h, e⟩ | ⟨h, e⟩ | ⟨h, e⟩ | ⟨h, e⟩ | ⟨h, e⟩ | ⟨h, e⟩ | ⟨h, e⟩ | ⟨h, h', e⟩ | ⟨h, e⟩
  all_goals rw [e]
  all_goals (first | rw [show pz_nck 0 = 0 from rfl] | rw [show pz_nck 1 = 0 from rfl] | rw [show pz_nck 2 = 1 from rfl] | rw [show pz_nck 3 = 0 from rfl] | rw [show pz_nck 4 = 0 from rfl] | rw [show pz_nck 5 = 1 from rfl] | rw [show pz_nck 6 = 0 from rfl] | rw [show pz_nck 7 = 2 from rfl] | rw [show pz_nck 8 = 0 from rfl] | rw [show pz_nck (-9) = 0 from rfl])
  all_goals omega
/-- what readTerm() leaves -/
def cr_RT (o p : Nat) (M M' : ab_M) (r : Int) : Prop := cr_ok o p M' ∧ (∀ o' k' : Nat, ¬ (764 ≤ o' ∧ o' ≤ 767) → ¬ ((p ≤ o' ∧ o' ≤ p + 368) ∧ ¬ (o' = p ∧ k' = 0) ∧ ¬ o' = p + 362) → M' o' k' = M o' k') ∧ (pz_f1 (cr_L o M) = -9 → r = -1) ∧ (pz_f1 (cr_L o M) ≠ -9 → ∃ e : Nat, r = (e : Int) ∧ (e : Int) ≤ M o 1 ∧ ((e : Int) < M o 1 → M (o + 1) e ≠ 32) ∧ pz_f1 (cr_L o M) = ((cr_c o M e : Nat) : Int))

def S_X2_readProgram : ab_PT := fun a M K => match a with
  | [.inr (.inr (.inr (764, 2, 0))), .inr (.inr (.inr (o, 6, n1))), .inr (.inr (.inr (p, 1, n2)))] => (cr_op o p ∧ M p 0 = (o : Int) ∧ ((0 ≤ M o 1 ∧ M o 1 ≤ (if o = 1 then 120 else 640)) ∧ ∀ j, 0 ≤ M (o + 1) j ∧ M (o + 1) j < 256) ∧ cr_BD (cr_L o M)) ∧ (∀ rx : Int, ∀ Mx : ab_M, (cr_RP o p M Mx rx) → K [Xi rx] Mx)
  | _ => False
set_option maxRecDepth 20000 in
theorem vc_X2_readProgram_0 (o : Nat) (n1 : Nat) (p : Nat) (n2 : Nat) (M : ab_M) (K : List ab_V → ab_M → Prop) (hS : (cr_op o p ∧ M p 0 = (o : Int) ∧ ((0 ≤ M o 1 ∧ M o 1 ≤ (if o = 1 then 120 else 640)) ∧ ∀ j, 0 ≤ M (o + 1) j ∧ M (o + 1) j < 256) ∧ cr_BD (cr_L o M)) ∧ (∀ rx : Int, ∀ Mx : ab_M, (cr_RP o p M Mx rx) → K [Xi rx] Mx)) : (cr_op o p ∧ M p 0 = (o : Int) ∧ (0 ≤ M o 1 ∧ M o 1 ≤ (if o = 1 then 120 else 640)) ∧ ∀ j, 0 ≤ M (o + 1) j ∧ M (o + 1) j < 256) ∧ (∀ M3 : ab_M, (cr_ST o p M M3) → (∃ n', (o = o ∧ n1 = n1 ∧ p = p ∧ n2 = n2 ∧ (n' = (M o 1 + 2 - (0 : Int)).toNat + 1 ∧ 0 ≤ (0 : Int) ∧ (0 : Int) ≤ M o 1 + 1 ∧ cr_RV o p M M3 (0 : Int))))) := by
  obtain ⟨⟨hop, hp0, ⟨hl, hc⟩, hBD⟩, gK⟩ := hS
  refine And.intro (by
    exact ⟨hop, hp0, hl, hc⟩) ?_
  intro M3 hM3
  exact ⟨_, rfl, rfl, rfl, rfl, rfl, Int.le_refl 0, by omega, cr_RV.start hop hM3 hBD⟩

set_option maxRecDepth 20000 in
theorem vc_X2_readProgram_8 (o : Nat) (n1 : Nat) (p : Nat) (n2 : Nat) (M : ab_M) (K : List ab_V → ab_M → Prop) (hS : (cr_op o p ∧ M p 0 = (o : Int) ∧ ((0 ≤ M o 1 ∧ M o 1 ≤ (if o = 1 then 120 else 640)) ∧ ∀ j, 0 ≤ M (o + 1) j ∧ M (o + 1) j < 256) ∧ cr_BD (cr_L o M)) ∧ (∀ rx : Int, ∀ Mx : ab_M, (cr_RP o p M Mx rx) → K [Xi rx] Mx)) (n : Nat) (nn : Int) (M1 : ab_M) (hI : n = (M o 1 + 2 - nn).toNat + 1 ∧ 0 ≤ nn ∧ nn ≤ M o 1 + 1 ∧ cr_RV o p M M1 nn) : (ab_ir nn ∧ ab_ir (M1 o 1)) ∧ (((M1 o 1) < nn → (∃ n', n' < n ∧ (o = o ∧ n1 = n1 ∧ p = p ∧ n2 = n2 ∧ (n' = 0 ∧ cr_RE o p M M1)))) ∧ (nn ≤ (M1 o 1) → (ab_ir (M1 764 4)) ∧ ((0 ≤ (M1 764 4) → (∃ n', n' < n ∧ (o = o ∧ n1 = n1 ∧ p = p ∧ n2 = n2 ∧ (n' = 0 ∧ cr_RE o p M M1)))) ∧ ((M1 764 4) < 0 → (ab_ir (M1 764 3) ∧ ab_ir (-1 : Int)) ∧ (((M1 764 3) = (-1 : Int) → (∃ n', n' < n ∧ (o = o ∧ n1 = n1 ∧ p = p ∧ n2 = n2 ∧ (n' = 0 ∧ cr_RE o p M M1)))) ∧ (¬ (M1 764 3) = (-1 : Int) → (-128 ≤ (41 : Int) ∧ (41 : Int) < 128) ∧ (ab_ir (M1 764 3) ∧ ab_ir (41 : Int)) ∧ ((¬ (M1 764 3) = (41 : Int) → ((∃ o p, cr_ok o p M1 ∧ 0 ≤ M1 p 3 ∧ M1 p 3 < 120 ∧ 0 ≤ M1 p 6 ∧ M1 p 6 ≤ 16 ∧ 0 ≤ M1 p 8 ∧ M1 p 8 ≤ 4) ∧ ab_ir (M1 764 3) ∧ 0 ≤ M1 764 9 ∧ M1 764 9 ≤ 130) ∧ (∀ r55 : Int, (r55 = if (M1 764 3 = 107 ∨ M1 764 3 = 112) ∧ M1 (M1 764 1).toNat 6 < 16 ∨ M1 764 3 = 119 ∧ M1 (M1 764 1).toNat 6 + 1 < 16 ∧ M1 (M1 764 1).toNat 8 < 4 ∧ M1 764 9 < 2 ∨ M1 764 3 = 104 ∨ M1 764 3 = 115 ∨ M1 764 3 = 116 ∨ M1 764 3 = 105 ∨ M1 764 3 = 121 ∨ 97 ≤ M1 764 3 ∧ M1 764 3 ≤ 100 then 1 else 0) → (ab_ir r55) ∧ ((r55 = 0 → (∃ n', n' < n ∧ (o = o ∧ n1 = n1 ∧ p = p ∧ n2 = n2 ∧ (n' = (M o 1 + 2 - (nn + 1)).toNat + 1 ∧ 0 ≤ (nn + 1) ∧ (nn + 1) ≤ M o 1 + 1 ∧ cr_RV o p M (ab_up M1 764 4 (M1 764 2)) (nn + 1))))) ∧ (¬ r55 = 0 → (∃ o_62 : Nat, ∃ p_62 : Nat, ∃ fs_62 : List pz_F, ∃ t_62 : pz_T, ∃ E_62 : List pz_Ev, ∃ op_62 : List Nat, ∃ A_62 : Nat, (cr_P o_62 p_62 M1 fs_62 t_62 E_62 op_62 A_62 ∧ A_62 < (cr_L o_62 M1).length ∧ cr_mayc (cr_L o_62 M1) E_62 op_62 A_62) ∧ (∀ M62 : ab_M, (cr_TR o_62 p_62 M1 M62 E_62 op_62 A_62) → (∃ n', n' < n ∧ (o = o ∧ n1 = n1 ∧ p = p ∧ n2 = n2 ∧ (n' = (M o 1 + 2 - (nn + 1)).toNat + 1 ∧ 0 ≤ (nn + 1) ∧ (nn + 1) ≤ M o 1 + 1 ∧ cr_RV o p M M62 (nn + 1)))))))))) ∧ ((M1 764 3) = (41 : Int) → (ab_ir (M1 764 8)) ∧ (((M1 764 8) ≤ 0 → ((∃ o p, cr_ok o p M1 ∧ 0 ≤ M1 p 3 ∧ M1 p 3 < 120 ∧ 0 ≤ M1 p 6 ∧ M1 p 6 ≤ 16 ∧ 0 ≤ M1 p 8 ∧ M1 p 8 ≤ 4) ∧ ab_ir (M1 764 3) ∧ 0 ≤ M1 764 9 ∧ M1 764 9 ≤ 130) ∧ (∀ r55 : Int, (r55 = if (M1 764 3 = 107 ∨ M1 764 3 = 112) ∧ M1 (M1 764 1).toNat 6 < 16 ∨ M1 764 3 = 119 ∧ M1 (M1 764 1).toNat 6 + 1 < 16 ∧ M1 (M1 764 1).toNat 8 < 4 ∧ M1 764 9 < 2 ∨ M1 764 3 = 104 ∨ M1 764 3 = 115 ∨ M1 764 3 = 116 ∨ M1 764 3 = 105 ∨ M1 764 3 = 121 ∨ 97 ≤ M1 764 3 ∧ M1 764 3 ≤ 100 then 1 else 0) → (ab_ir r55) ∧ ((r55 = 0 → (∃ n', n' < n ∧ (o = o ∧ n1 = n1 ∧ p = p ∧ n2 = n2 ∧ (n' = (M o 1 + 2 - (nn + 1)).toNat + 1 ∧ 0 ≤ (nn + 1) ∧ (nn + 1) ≤ M o 1 + 1 ∧ cr_RV o p M (ab_up M1 764 4 (M1 764 2)) (nn + 1))))) ∧ (¬ r55 = 0 → (∃ o_62 : Nat, ∃ p_62 : Nat, ∃ fs_62 : List pz_F, ∃ t_62 : pz_T, ∃ E_62 : List pz_Ev, ∃ op_62 : List Nat, ∃ A_62 : Nat, (cr_P o_62 p_62 M1 fs_62 t_62 E_62 op_62 A_62 ∧ A_62 < (cr_L o_62 M1).length ∧ cr_mayc (cr_L o_62 M1) E_62 op_62 A_62) ∧ (∀ M62 : ab_M, (cr_TR o_62 p_62 M1 M62 E_62 op_62 A_62) → (∃ n', n' < n ∧ (o = o ∧ n1 = n1 ∧ p = p ∧ n2 = n2 ∧ (n' = (M o 1 + 2 - (nn + 1)).toNat + 1 ∧ 0 ≤ (nn + 1) ∧ (nn + 1) ≤ M o 1 + 1 ∧ cr_RV o p M M62 (nn + 1)))))))))) ∧ (0 < (M1 764 8) → (∃ o p a, cr_ok o p M1 ∧ cr_st o M1 a (-9) ∧ M1 764 3 = 41 ∧ (1 ≤ M1 764 8 ∧ M1 764 8 ≤ 120) ∧ (1 ≤ M1 p 3 ∧ M1 p 3 ≤ 120) ∧ (0 ≤ M1 765 (M1 764 8 - 1).toNat ∧ M1 765 (M1 764 8 - 1).toNat < M1 p 3) ∧ (M1 766 (M1 764 8 - 1).toNat = 0 ∨ M1 766 (M1 764 8 - 1).toNat = 1) ∧ ab_ir (M1 (p + 1 + 1 + 3 * (M1 765 (M1 764 8 - 1).toNat).toNat) 0)) ∧ (∀ M48 : ab_M, (cr_CB M1 M48) → (∃ n', n' < n ∧ (o = o ∧ n1 = n1 ∧ p = p ∧ n2 = n2 ∧ (n' = (M o 1 + 2 - (nn + 1)).toNat + 1 ∧ 0 ≤ (nn + 1) ∧ (nn + 1) ≤ M o 1 + 1 ∧ cr_RV o p M M48 (nn + 1))))))))))))))) := by
  obtain ⟨hn, hn0, hn1, hRV⟩ := hI
  obtain ⟨⟨hop, hp0, ⟨hl, hc⟩, hBD⟩, gK⟩ := hS
  obtain ⟨hok1, hfar, hcase⟩ := hRV
  obtain ⟨f1, f2, fL, ff, fc⟩ := cr_farL hop hfar
  have hb := cr_bd hok1
  rw [f1] at hb
  have hir4 : ab_ir (M1 764 4) ∧ ab_ir (M1 764 3) := by
    rcases hcase with ⟨fs, t, E, op, A, kk, hP, -⟩ | ⟨q, a, q1, q2, q3⟩
    · obtain ⟨-, -, b1, b2, -⟩ := cr_st_b hok1 hP.2.1
      exact ⟨b1, b2⟩
    · obtain ⟨-, -, b1, b2, -⟩ := cr_st_b hok1 q3
      exact ⟨b1, b2⟩
  have hst1 : cr_wr (M1 764 4 < 0 → ∃ (fs : List pz_F) (t : pz_T) (E : List pz_Ev) (op : List Nat) (A k : Nat), cr_P o p M1 fs t E op A ∧ nn ≤ (A : Int) ∧ pz_run (cr_L o M) k E op (A : Int) = pz_read (cr_L o M) ∧ (cr_L o M).length - A + 1 ≤ k) := fun he => by
    rcases hcase with h | ⟨q, a, q1, q2, q3⟩
    · exact h
    · exfalso
      obtain ⟨-, -, -, -, -, z, -⟩ := cr_st_b hok1 q3
      exact q1 (z.2 he)
  have hcs : cr_wr _ := hcase
  clear hcase
  have hwp := cr_wp hop
  simp only [f1]
  refine And.intro (by
    first
      | omega
      | exact hir4.1
      | exact hir4.2 (by assumption)
      | exact trivial
      | exact ⟨trivial, trivial⟩
      | exact ⟨⟨by omega, by omega⟩, by omega, by omega⟩
      | exact ⟨hir4.2, by decide, by decide⟩
      | (obtain ⟨fs, t, E, op, A, kk, hP, hnA, hrun, hkk⟩ := hst1 (by assumption)
         have e8 := hP.end'.2.2.2.2.2.1
         rw [e8]
         have hA1 : A < (cr_L o M1).length := by
           by_cases z : A < (cr_L o M1).length
           · exact z
           · exact absurd (hP.end'.2.1.2 z) c28
         have := (hP.2.2.2.2 hA1).2.2
         exact ⟨by omega, by omega⟩)
      | (rw [f1]; omega)
      | (rw [ab_up_s]; exact ⟨by omega, by omega⟩)
      | (rw [ab_up_s, f1]; exact ⟨by omega, by omega⟩)
      | (split <;> exact ⟨by decide, by decide⟩)
      | (rw [hr55]; split <;> exact ⟨by decide, by decide⟩)) ?_
  refine ⟨?_, ?_⟩
  · intro c13
    refine ⟨0, by omega, by trivial, by trivial, by trivial, by trivial, rfl, ?_⟩
    by_cases he : M1 764 4 < 0
    · obtain ⟨fs, t, E, op, A, kk, hP, hnA, hrun, hkk⟩ := hst1 he
      obtain ⟨e4, e3, eA, eL, eir, e8, eop⟩ := hP.end'
      rw [fL] at e3 eA eL
      rw [f1] at eL
      exact cr_RV.done hok1 hfar hBD hP (by first | omega | (have := e3.1 c28; omega)) hrun hkk
    · rcases hcs with ⟨fs, t, E, op, A, kk, hP, -⟩ | h
      · have := hP.end'.1
        omega
      · exact ⟨hok1, hfar, Or.inr h⟩
  · intro c13
    refine And.intro (by
      first
        | omega
        | exact hir4.1
        | exact hir4.2 (by assumption)
        | exact trivial
        | exact ⟨trivial, trivial⟩
        | exact ⟨⟨by omega, by omega⟩, by omega, by omega⟩
        | exact ⟨hir4.2, by decide, by decide⟩
        | (obtain ⟨fs, t, E, op, A, kk, hP, hnA, hrun, hkk⟩ := hst1 (by assumption)
           have e8 := hP.end'.2.2.2.2.2.1
           rw [e8]
           have hA1 : A < (cr_L o M1).length := by
             by_cases z : A < (cr_L o M1).length
             · exact z
             · exact absurd (hP.end'.2.1.2 z) c28
           have := (hP.2.2.2.2 hA1).2.2
           exact ⟨by omega, by omega⟩)
        | (rw [f1]; omega)
        | (rw [ab_up_s]; exact ⟨by omega, by omega⟩)
        | (rw [ab_up_s, f1]; exact ⟨by omega, by omega⟩)
        | (split <;> exact ⟨by decide, by decide⟩)
        | (rw [hr55]; split <;> exact ⟨by decide, by decide⟩)) ?_
    refine ⟨?_, ?_⟩
    · intro c20
      refine ⟨0, by omega, by trivial, by trivial, by trivial, by trivial, rfl, ?_⟩
      by_cases he : M1 764 4 < 0
      · obtain ⟨fs, t, E, op, A, kk, hP, hnA, hrun, hkk⟩ := hst1 he
        obtain ⟨e4, e3, eA, eL, eir, e8, eop⟩ := hP.end'
        rw [fL] at e3 eA eL
        rw [f1] at eL
        exact cr_RV.done hok1 hfar hBD hP (by first | omega | (have := e3.1 c28; omega)) hrun hkk
      · rcases hcs with ⟨fs, t, E, op, A, kk, hP, -⟩ | h
        · have := hP.end'.1
          omega
        · exact ⟨hok1, hfar, Or.inr h⟩
    · intro c20
      refine And.intro (by
        first
          | omega
          | exact hir4.1
          | exact hir4.2 (by assumption)
          | exact trivial
          | exact ⟨trivial, trivial⟩
          | exact ⟨⟨by omega, by omega⟩, by omega, by omega⟩
          | exact ⟨hir4.2, by decide, by decide⟩
          | (obtain ⟨fs, t, E, op, A, kk, hP, hnA, hrun, hkk⟩ := hst1 (by assumption)
             have e8 := hP.end'.2.2.2.2.2.1
             rw [e8]
             have hA1 : A < (cr_L o M1).length := by
               by_cases z : A < (cr_L o M1).length
               · exact z
               · exact absurd (hP.end'.2.1.2 z) c28
             have := (hP.2.2.2.2 hA1).2.2
             exact ⟨by omega, by omega⟩)
          | (rw [f1]; omega)
          | (rw [ab_up_s]; exact ⟨by omega, by omega⟩)
          | (rw [ab_up_s, f1]; exact ⟨by omega, by omega⟩)
          | (split <;> exact ⟨by decide, by decide⟩)
          | (rw [hr55]; split <;> exact ⟨by decide, by decide⟩)) ?_
      refine ⟨?_, ?_⟩
      · intro c28
        refine ⟨0, by omega, by trivial, by trivial, by trivial, by trivial, rfl, ?_⟩
        by_cases he : M1 764 4 < 0
        · obtain ⟨fs, t, E, op, A, kk, hP, hnA, hrun, hkk⟩ := hst1 he
          obtain ⟨e4, e3, eA, eL, eir, e8, eop⟩ := hP.end'
          rw [fL] at e3 eA eL
          rw [f1] at eL
          exact cr_RV.done hok1 hfar hBD hP (by first | omega | (have := e3.1 c28; omega)) hrun hkk
        · rcases hcs with ⟨fs, t, E, op, A, kk, hP, -⟩ | h
          · have := hP.end'.1
            omega
          · exact ⟨hok1, hfar, Or.inr h⟩
      · intro c28
        refine And.intro (by
          first
            | omega
            | exact hir4.1
            | exact hir4.2 (by assumption)
            | exact trivial
            | exact ⟨trivial, trivial⟩
            | exact ⟨⟨by omega, by omega⟩, by omega, by omega⟩
            | exact ⟨hir4.2, by decide, by decide⟩
            | (obtain ⟨fs, t, E, op, A, kk, hP, hnA, hrun, hkk⟩ := hst1 (by assumption)
               have e8 := hP.end'.2.2.2.2.2.1
               rw [e8]
               have hA1 : A < (cr_L o M1).length := by
                 by_cases z : A < (cr_L o M1).length
                 · exact z
                 · exact absurd (hP.end'.2.1.2 z) c28
               have := (hP.2.2.2.2 hA1).2.2
               exact ⟨by omega, by omega⟩)
            | (rw [f1]; omega)
            | (rw [ab_up_s]; exact ⟨by omega, by omega⟩)
            | (rw [ab_up_s, f1]; exact ⟨by omega, by omega⟩)
            | (split <;> exact ⟨by decide, by decide⟩)
            | (rw [hr55]; split <;> exact ⟨by decide, by decide⟩)) ?_
        refine And.intro (by
          first
            | omega
            | exact hir4.1
            | exact hir4.2 (by assumption)
            | exact trivial
            | exact ⟨trivial, trivial⟩
            | exact ⟨⟨by omega, by omega⟩, by omega, by omega⟩
            | exact ⟨hir4.2, by decide, by decide⟩
            | (obtain ⟨fs, t, E, op, A, kk, hP, hnA, hrun, hkk⟩ := hst1 (by assumption)
               have e8 := hP.end'.2.2.2.2.2.1
               rw [e8]
               have hA1 : A < (cr_L o M1).length := by
                 by_cases z : A < (cr_L o M1).length
                 · exact z
                 · exact absurd (hP.end'.2.1.2 z) c28
               have := (hP.2.2.2.2 hA1).2.2
               exact ⟨by omega, by omega⟩)
            | (rw [f1]; omega)
            | (rw [ab_up_s]; exact ⟨by omega, by omega⟩)
            | (rw [ab_up_s, f1]; exact ⟨by omega, by omega⟩)
            | (split <;> exact ⟨by decide, by decide⟩)
            | (rw [hr55]; split <;> exact ⟨by decide, by decide⟩)) ?_
        refine ⟨?_, ?_⟩
        · intro c37
          refine And.intro (by
            obtain ⟨fs, t, E, op, A, kk, hP, hnA, hrun, hkk⟩ := hst1 c20
            obtain ⟨e4, e3, eA, eL, eir, e8, eop⟩ := hP.end'
            have hA1 : A < (cr_L o M1).length := by
              by_cases z : A < (cr_L o M1).length
              · exact z
              · exact absurd (e3.2 z) c28
            obtain ⟨k0, g1, g2, g3, g4, g5, g6, g7⟩ := hP.sgn hA1
            have hZ := hP.2.2.1
            have hR := hP.2.2.2.1
            obtain ⟨c1', c2', c3', c4', c5', c6', c7', c8'⟩ := hZ.cn
            have hbd := hP.2.2.2.2 hA1
            have r3 := hR.1.1
            have r6 := hR.1.2.1
            have r8 := hR.1.2.2.1
            have r9 := hR.2.2.1.2.1
            have hzl : pz_zl fs ≤ 2 := by have := hZ.2.2.1; omega
            exact ⟨⟨o, p, hok1, by rw [r3]; omega, by rw [r3]; omega, by rw [r6]; omega, by rw [r6]; omega, by rw [r8]; omega, by rw [r8, ← c2']; omega⟩, hir4.2, by rw [r9]; omega, by rw [r9]; omega⟩) ?_
          intro r55 hr55
          skip
          refine And.intro (by
            first
              | omega
              | exact hir4.1
              | exact hir4.2 (by assumption)
              | exact trivial
              | exact ⟨trivial, trivial⟩
              | exact ⟨⟨by omega, by omega⟩, by omega, by omega⟩
              | exact ⟨hir4.2, by decide, by decide⟩
              | (obtain ⟨fs, t, E, op, A, kk, hP, hnA, hrun, hkk⟩ := hst1 (by assumption)
                 have e8 := hP.end'.2.2.2.2.2.1
                 rw [e8]
                 have hA1 : A < (cr_L o M1).length := by
                   by_cases z : A < (cr_L o M1).length
                   · exact z
                   · exact absurd (hP.end'.2.1.2 z) c28
                 have := (hP.2.2.2.2 hA1).2.2
                 exact ⟨by omega, by omega⟩)
              | (rw [f1]; omega)
              | (rw [ab_up_s]; exact ⟨by omega, by omega⟩)
              | (rw [ab_up_s, f1]; exact ⟨by omega, by omega⟩)
              | (split <;> exact ⟨by decide, by decide⟩)
              | (rw [hr55]; split <;> exact ⟨by decide, by decide⟩)) ?_
          refine ⟨?_, ?_⟩
          · intro c58
            rw [hr55] at c58
            rw [ab_bf] at c58
            clear hr55 r55
            obtain ⟨fs, t, E, op, A, kk, hP, hnA, hrun, hkk⟩ := hst1 c20
            obtain ⟨e4, e3, eA, eL, eir, e8, eop⟩ := hP.end'
            have hA1 : A < (cr_L o M1).length := by
              by_cases z : A < (cr_L o M1).length
              · exact z
              · exact absurd (e3.2 z) c28
            obtain ⟨k0, g1, g2, g3, g4, g5, g6, g7⟩ := hP.sgn hA1
            have hZ := hP.2.2.1
            have hR := hP.2.2.2.1
            obtain ⟨c1', c2', c3', c4', c5', c6', c7', c8'⟩ := hZ.cn
            have hbd := hP.2.2.2.2 hA1
            have r3 := hR.1.1
            have r6 := hR.1.2.1
            have r8 := hR.1.2.2.1
            have r9 := hR.2.2.1.2.1
            have hzl : pz_zl fs ≤ 2 := by have := hZ.2.2.1; omega
            have q2 : M1 764 1 = (p : Int) := hok1.2.1
            rw [q2, Int.toNat_natCast, r6, r8, r9, g5] at c58
            have hnc : ¬ (pz_at (cr_L o M1) A = 41 ∧ op ≠ []) := by
              rintro ⟨z1, z2⟩
              first
                | exact absurd (g5.trans z1) c37
                | (have : fs ≠ [] := fun y => z2 (eop.2 y)
                   have : fs.length ≠ 0 := fun y => this (List.eq_nil_of_length_eq_zero y)
                   rw [e8] at c44
                   omega)
            have hmay : pz_may (cr_L o M1) E op (A : Int) ↔ ((pz_at (cr_L o M1) A = 107 ∨ pz_at (cr_L o M1) A = 112) ∧ (((pz_kds E).length : Nat) : Int) < 16 ∨ pz_at (cr_L o M1) A = 119 ∧ (((pz_kds E).length : Nat) : Int) + 1 < 16 ∧ (((cr_zn fs + pz_nl t : Nat)) : Int) < 4 ∧ (pz_zl fs : Int) < 2 ∨ pz_at (cr_L o M1) A = 104 ∨ pz_at (cr_L o M1) A = 115 ∨ pz_at (cr_L o M1) A = 116 ∨ pz_at (cr_L o M1) A = 105 ∨ pz_at (cr_L o M1) A = 121 ∨ 97 ≤ pz_at (cr_L o M1) A ∧ pz_at (cr_L o M1) A ≤ 100) := by
              unfold pz_may
              rw [Int.toNat_natCast, pz_lps_c7, c2', c3']
              exact cr_may_iff (by omega)
            rw [← hmay] at c58
            refine ⟨_, ?_, by trivial, by trivial, by trivial, by trivial, rfl, by omega, by omega, cr_RV.turn (fs := fs) (t := t) hop hBD hfar (by rw [← fL]; exact hA1) hnA hrun hkk ?_⟩
            · omega
            · exact cr_nmay hP hnc c58 rfl
          · intro c58
            rw [hr55] at c58
            rw [ab_bt] at c58
            clear hr55 r55
            obtain ⟨fs, t, E, op, A, kk, hP, hnA, hrun, hkk⟩ := hst1 c20
            obtain ⟨e4, e3, eA, eL, eir, e8, eop⟩ := hP.end'
            have hA1 : A < (cr_L o M1).length := by
              by_cases z : A < (cr_L o M1).length
              · exact z
              · exact absurd (e3.2 z) c28
            obtain ⟨k0, g1, g2, g3, g4, g5, g6, g7⟩ := hP.sgn hA1
            have hZ := hP.2.2.1
            have hR := hP.2.2.2.1
            obtain ⟨c1', c2', c3', c4', c5', c6', c7', c8'⟩ := hZ.cn
            have hbd := hP.2.2.2.2 hA1
            have r3 := hR.1.1
            have r6 := hR.1.2.1
            have r8 := hR.1.2.2.1
            have r9 := hR.2.2.1.2.1
            have hzl : pz_zl fs ≤ 2 := by have := hZ.2.2.1; omega
            have q2 : M1 764 1 = (p : Int) := hok1.2.1
            rw [q2, Int.toNat_natCast, r6, r8, r9, g5] at c58
            have hnc : ¬ (pz_at (cr_L o M1) A = 41 ∧ op ≠ []) := by
              rintro ⟨z1, z2⟩
              first
                | exact absurd (g5.trans z1) c37
                | (have : fs ≠ [] := fun y => z2 (eop.2 y)
                   have : fs.length ≠ 0 := fun y => this (List.eq_nil_of_length_eq_zero y)
                   rw [e8] at c44
                   omega)
            have hmay : pz_may (cr_L o M1) E op (A : Int) ↔ ((pz_at (cr_L o M1) A = 107 ∨ pz_at (cr_L o M1) A = 112) ∧ (((pz_kds E).length : Nat) : Int) < 16 ∨ pz_at (cr_L o M1) A = 119 ∧ (((pz_kds E).length : Nat) : Int) + 1 < 16 ∧ (((cr_zn fs + pz_nl t : Nat)) : Int) < 4 ∧ (pz_zl fs : Int) < 2 ∨ pz_at (cr_L o M1) A = 104 ∨ pz_at (cr_L o M1) A = 115 ∨ pz_at (cr_L o M1) A = 116 ∨ pz_at (cr_L o M1) A = 105 ∨ pz_at (cr_L o M1) A = 121 ∨ 97 ≤ pz_at (cr_L o M1) A ∧ pz_at (cr_L o M1) A ≤ 100) := by
              unfold pz_may
              rw [Int.toNat_natCast, pz_lps_c7, c2', c3']
              exact cr_may_iff (by omega)
            rw [← hmay] at c58
            refine Exists.intro (o) <| Exists.intro (p) <| Exists.intro (fs) <| Exists.intro (t) <| Exists.intro (E) <| Exists.intro (op) <| Exists.intro (A) <| ?_
            refine And.intro (by
              exact ⟨hP, hA1, c58, hnc⟩) ?_
            intro M62 hM62
            refine ⟨_, ?_, by trivial, by trivial, by trivial, by trivial, rfl, by omega, by omega, cr_RV.turn (fs := fs) (t := t) hop hBD hfar (by rw [← fL]; exact hA1) hnA hrun hkk ?_⟩
            · omega
            · exact hM62
        · intro c37
          refine And.intro (by
            first
              | omega
              | exact hir4.1
              | exact hir4.2 (by assumption)
              | exact trivial
              | exact ⟨trivial, trivial⟩
              | exact ⟨⟨by omega, by omega⟩, by omega, by omega⟩
              | exact ⟨hir4.2, by decide, by decide⟩
              | (obtain ⟨fs, t, E, op, A, kk, hP, hnA, hrun, hkk⟩ := hst1 (by assumption)
                 have e8 := hP.end'.2.2.2.2.2.1
                 rw [e8]
                 have hA1 : A < (cr_L o M1).length := by
                   by_cases z : A < (cr_L o M1).length
                   · exact z
                   · exact absurd (hP.end'.2.1.2 z) c28
                 have := (hP.2.2.2.2 hA1).2.2
                 exact ⟨by omega, by omega⟩)
              | (rw [f1]; omega)
              | (rw [ab_up_s]; exact ⟨by omega, by omega⟩)
              | (rw [ab_up_s, f1]; exact ⟨by omega, by omega⟩)
              | (split <;> exact ⟨by decide, by decide⟩)
              | (rw [hr55]; split <;> exact ⟨by decide, by decide⟩)) ?_
          refine ⟨?_, ?_⟩
          · intro c44
            refine And.intro (by
              obtain ⟨fs, t, E, op, A, kk, hP, hnA, hrun, hkk⟩ := hst1 c20
              obtain ⟨e4, e3, eA, eL, eir, e8, eop⟩ := hP.end'
              have hA1 : A < (cr_L o M1).length := by
                by_cases z : A < (cr_L o M1).length
                · exact z
                · exact absurd (e3.2 z) c28
              obtain ⟨k0, g1, g2, g3, g4, g5, g6, g7⟩ := hP.sgn hA1
              have hZ := hP.2.2.1
              have hR := hP.2.2.2.1
              obtain ⟨c1', c2', c3', c4', c5', c6', c7', c8'⟩ := hZ.cn
              have hbd := hP.2.2.2.2 hA1
              have r3 := hR.1.1
              have r6 := hR.1.2.1
              have r8 := hR.1.2.2.1
              have r9 := hR.2.2.1.2.1
              have hzl : pz_zl fs ≤ 2 := by have := hZ.2.2.1; omega
              exact ⟨⟨o, p, hok1, by rw [r3]; omega, by rw [r3]; omega, by rw [r6]; omega, by rw [r6]; omega, by rw [r8]; omega, by rw [r8, ← c2']; omega⟩, hir4.2, by rw [r9]; omega, by rw [r9]; omega⟩) ?_
            intro r55 hr55
            skip
            refine And.intro (by
              first
                | omega
                | exact hir4.1
                | exact hir4.2 (by assumption)
                | exact trivial
                | exact ⟨trivial, trivial⟩
                | exact ⟨⟨by omega, by omega⟩, by omega, by omega⟩
                | exact ⟨hir4.2, by decide, by decide⟩
                | (obtain ⟨fs, t, E, op, A, kk, hP, hnA, hrun, hkk⟩ := hst1 (by assumption)
                   have e8 := hP.end'.2.2.2.2.2.1
                   rw [e8]
                   have hA1 : A < (cr_L o M1).length := by
                     by_cases z : A < (cr_L o M1).length
                     · exact z
                     · exact absurd (hP.end'.2.1.2 z) c28
                   have := (hP.2.2.2.2 hA1).2.2
                   exact ⟨by omega, by omega⟩)
                | (rw [f1]; omega)
                | (rw [ab_up_s]; exact ⟨by omega, by omega⟩)
                | (rw [ab_up_s, f1]; exact ⟨by omega, by omega⟩)
                | (split <;> exact ⟨by decide, by decide⟩)
                | (rw [hr55]; split <;> exact ⟨by decide, by decide⟩)) ?_
            refine ⟨?_, ?_⟩
            · intro c58
              rw [hr55] at c58
              rw [ab_bf] at c58
              clear hr55 r55
              obtain ⟨fs, t, E, op, A, kk, hP, hnA, hrun, hkk⟩ := hst1 c20
              obtain ⟨e4, e3, eA, eL, eir, e8, eop⟩ := hP.end'
              have hA1 : A < (cr_L o M1).length := by
                by_cases z : A < (cr_L o M1).length
                · exact z
                · exact absurd (e3.2 z) c28
              obtain ⟨k0, g1, g2, g3, g4, g5, g6, g7⟩ := hP.sgn hA1
              have hZ := hP.2.2.1
              have hR := hP.2.2.2.1
              obtain ⟨c1', c2', c3', c4', c5', c6', c7', c8'⟩ := hZ.cn
              have hbd := hP.2.2.2.2 hA1
              have r3 := hR.1.1
              have r6 := hR.1.2.1
              have r8 := hR.1.2.2.1
              have r9 := hR.2.2.1.2.1
              have hzl : pz_zl fs ≤ 2 := by have := hZ.2.2.1; omega
              have q2 : M1 764 1 = (p : Int) := hok1.2.1
              rw [q2, Int.toNat_natCast, r6, r8, r9, g5] at c58
              have hnc : ¬ (pz_at (cr_L o M1) A = 41 ∧ op ≠ []) := by
                rintro ⟨z1, z2⟩
                first
                  | exact absurd (g5.trans z1) c37
                  | (have : fs ≠ [] := fun y => z2 (eop.2 y)
                     have : fs.length ≠ 0 := fun y => this (List.eq_nil_of_length_eq_zero y)
                     rw [e8] at c44
                     omega)
              have hmay : pz_may (cr_L o M1) E op (A : Int) ↔ ((pz_at (cr_L o M1) A = 107 ∨ pz_at (cr_L o M1) A = 112) ∧ (((pz_kds E).length : Nat) : Int) < 16 ∨ pz_at (cr_L o M1) A = 119 ∧ (((pz_kds E).length : Nat) : Int) + 1 < 16 ∧ (((cr_zn fs + pz_nl t : Nat)) : Int) < 4 ∧ (pz_zl fs : Int) < 2 ∨ pz_at (cr_L o M1) A = 104 ∨ pz_at (cr_L o M1) A = 115 ∨ pz_at (cr_L o M1) A = 116 ∨ pz_at (cr_L o M1) A = 105 ∨ pz_at (cr_L o M1) A = 121 ∨ 97 ≤ pz_at (cr_L o M1) A ∧ pz_at (cr_L o M1) A ≤ 100) := by
                unfold pz_may
                rw [Int.toNat_natCast, pz_lps_c7, c2', c3']
                exact cr_may_iff (by omega)
              rw [← hmay] at c58
              refine ⟨_, ?_, by trivial, by trivial, by trivial, by trivial, rfl, by omega, by omega, cr_RV.turn (fs := fs) (t := t) hop hBD hfar (by rw [← fL]; exact hA1) hnA hrun hkk ?_⟩
              · omega
              · exact cr_nmay hP hnc c58 rfl
            · intro c58
              rw [hr55] at c58
              rw [ab_bt] at c58
              clear hr55 r55
              obtain ⟨fs, t, E, op, A, kk, hP, hnA, hrun, hkk⟩ := hst1 c20
              obtain ⟨e4, e3, eA, eL, eir, e8, eop⟩ := hP.end'
              have hA1 : A < (cr_L o M1).length := by
                by_cases z : A < (cr_L o M1).length
                · exact z
                · exact absurd (e3.2 z) c28
              obtain ⟨k0, g1, g2, g3, g4, g5, g6, g7⟩ := hP.sgn hA1
              have hZ := hP.2.2.1
              have hR := hP.2.2.2.1
              obtain ⟨c1', c2', c3', c4', c5', c6', c7', c8'⟩ := hZ.cn
              have hbd := hP.2.2.2.2 hA1
              have r3 := hR.1.1
              have r6 := hR.1.2.1
              have r8 := hR.1.2.2.1
              have r9 := hR.2.2.1.2.1
              have hzl : pz_zl fs ≤ 2 := by have := hZ.2.2.1; omega
              have q2 : M1 764 1 = (p : Int) := hok1.2.1
              rw [q2, Int.toNat_natCast, r6, r8, r9, g5] at c58
              have hnc : ¬ (pz_at (cr_L o M1) A = 41 ∧ op ≠ []) := by
                rintro ⟨z1, z2⟩
                first
                  | exact absurd (g5.trans z1) c37
                  | (have : fs ≠ [] := fun y => z2 (eop.2 y)
                     have : fs.length ≠ 0 := fun y => this (List.eq_nil_of_length_eq_zero y)
                     rw [e8] at c44
                     omega)
              have hmay : pz_may (cr_L o M1) E op (A : Int) ↔ ((pz_at (cr_L o M1) A = 107 ∨ pz_at (cr_L o M1) A = 112) ∧ (((pz_kds E).length : Nat) : Int) < 16 ∨ pz_at (cr_L o M1) A = 119 ∧ (((pz_kds E).length : Nat) : Int) + 1 < 16 ∧ (((cr_zn fs + pz_nl t : Nat)) : Int) < 4 ∧ (pz_zl fs : Int) < 2 ∨ pz_at (cr_L o M1) A = 104 ∨ pz_at (cr_L o M1) A = 115 ∨ pz_at (cr_L o M1) A = 116 ∨ pz_at (cr_L o M1) A = 105 ∨ pz_at (cr_L o M1) A = 121 ∨ 97 ≤ pz_at (cr_L o M1) A ∧ pz_at (cr_L o M1) A ≤ 100) := by
                unfold pz_may
                rw [Int.toNat_natCast, pz_lps_c7, c2', c3']
                exact cr_may_iff (by omega)
              rw [← hmay] at c58
              refine Exists.intro (o) <| Exists.intro (p) <| Exists.intro (fs) <| Exists.intro (t) <| Exists.intro (E) <| Exists.intro (op) <| Exists.intro (A) <| ?_
              refine And.intro (by
                exact ⟨hP, hA1, c58, hnc⟩) ?_
              intro M62 hM62
              refine ⟨_, ?_, by trivial, by trivial, by trivial, by trivial, rfl, by omega, by omega, cr_RV.turn (fs := fs) (t := t) hop hBD hfar (by rw [← fL]; exact hA1) hnA hrun hkk ?_⟩
              · omega
              · exact hM62
          · intro c44
            refine And.intro (by
              obtain ⟨fs, t, E, op, A, kk, hP, hnA, hrun, hkk⟩ := hst1 c20
              obtain ⟨e4, e3, eA, eL, eir, e8, eop⟩ := hP.end'
              have hA1 : A < (cr_L o M1).length := by
                by_cases z : A < (cr_L o M1).length
                · exact z
                · exact absurd (e3.2 z) c28
              obtain ⟨k0, g1, g2, g3, g4, g5, g6, g7⟩ := hP.sgn hA1
              have hZ := hP.2.2.1
              have hR := hP.2.2.2.1
              obtain ⟨c1', c2', c3', c4', c5', c6', c7', c8'⟩ := hZ.cn
              have hbd := hP.2.2.2.2 hA1
              have r3 := hR.1.1
              have r6 := hR.1.2.1
              have r8 := hR.1.2.2.1
              have r9 := hR.2.2.1.2.1
              have hzl : pz_zl fs ≤ 2 := by have := hZ.2.2.1; omega
              cases fs with
              | nil => rw [e8] at c44; exact absurd c44 (by decide)
              | cons g fs' =>
                obtain ⟨⟨z1, z2, z3⟩, -, zS, -⟩ := hR.2.2.2.2.2
                have ed : (M1 764 8 - 1).toNat = fs'.length := by rw [e8, List.length_cons]; omega
                have e1 : cr_zr (g :: fs') = cr_zr fs' + pz_sz g.1 + 1 + (if g.2.2.1 then pz_sz g.2.2.2 else 0) := rfl
                have hf1 := hZ.1.2.1.2.1
                refine ⟨o, p, (A : Int), hok1, hP.2.1, c37, ⟨by rw [e8, List.length_cons]; omega, by rw [e8]; omega⟩, ⟨by rw [r3]; omega, by rw [r3]; omega⟩, ?_, ?_, ?_⟩
                · rw [ed, z1, r3]
                  omega
                · rw [ed, z2]
                  cases g.2.2.1
                  · exact Or.inl rfl
                  · exact Or.inr rfl
                · rw [ed, z1, Int.toNat_natCast, zS.1.1]
                  have := cr_lt_rg hf1.1.1 hf1.1.2
                  exact ⟨by omega, by omega⟩) ?_
            intro M48 hM48
            obtain ⟨fs, t, E, op, A, kk, hP, hnA, hrun, hkk⟩ := hst1 c20
            obtain ⟨e4, e3, eA, eL, eir, e8, eop⟩ := hP.end'
            have hA1 : A < (cr_L o M1).length := by
              by_cases z : A < (cr_L o M1).length
              · exact z
              · exact absurd (e3.2 z) c28
            obtain ⟨k0, g1, g2, g3, g4, g5, g6, g7⟩ := hP.sgn hA1
            have hZ := hP.2.2.1
            have hR := hP.2.2.2.1
            obtain ⟨c1', c2', c3', c4', c5', c6', c7', c8'⟩ := hZ.cn
            have hbd := hP.2.2.2.2 hA1
            have r3 := hR.1.1
            have r6 := hR.1.2.1
            have r8 := hR.1.2.2.1
            have r9 := hR.2.2.1.2.1
            have hzl : pz_zl fs ≤ 2 := by have := hZ.2.2.1; omega
            have hq := cr_close hP hA1 (by rw [← g5]; exact c37) (fun z => by rw [z] at e8; rw [e8] at c44; exact absurd c44 (by decide)) (by omega) hM48
            refine ⟨_, ?_, by trivial, by trivial, by trivial, by trivial, rfl, by omega, by omega, cr_RV.turn (fs := fs) (t := t) hop hBD hfar (by rw [← fL]; exact hA1) hnA hrun hkk ?_⟩
            · omega
            · exact hq

set_option maxRecDepth 20000 in
theorem vc_X2_readProgram_82 (o : Nat) (n1 : Nat) (p : Nat) (n2 : Nat) (M : ab_M) (K : List ab_V → ab_M → Prop) (hS : (cr_op o p ∧ M p 0 = (o : Int) ∧ ((0 ≤ M o 1 ∧ M o 1 ≤ (if o = 1 then 120 else 640)) ∧ ∀ j, 0 ≤ M (o + 1) j ∧ M (o + 1) j < 256) ∧ cr_BD (cr_L o M)) ∧ (∀ rx : Int, ∀ Mx : ab_M, (cr_RP o p M Mx rx) → K [Xi rx] Mx)) (n : Nat) (nn : Int) (M1 : ab_M) (hI : n = 0 ∧ cr_RE o p M M1) : (ab_ir (M1 764 4)) ∧ ((0 ≤ (M1 764 4) → (ab_ir (M1 764 4)) ∧ ((0 ≤ (M1 764 4) → K [Xi (M1 764 4)] M1) ∧ ((M1 764 4) < 0 → (cr_LP p M1) ∧ (∀ M112 : ab_M, (cr_LV p M1 M112 (M1 p 3).toNat) → K [Xi (M112 764 4)] M112)))) ∧ ((M1 764 4) < 0 → (ab_ir (M1 764 8)) ∧ (((M1 764 8) ≤ 0 → (ab_ir (M1 764 4)) ∧ ((0 ≤ (M1 764 4) → K [Xi (M1 764 4)] M1) ∧ ((M1 764 4) < 0 → (cr_LP p M1) ∧ (∀ M112 : ab_M, (cr_LV p M1 M112 (M1 p 3).toNat) → K [Xi (M112 764 4)] M112)))) ∧ (0 < (M1 764 8) → (ab_ir (M1 o 1)) ∧ ((0 ≤ (M1 o 1) → K [Xi (M1 o 1)] (ab_up M1 764 4 (M1 o 1))) ∧ ((M1 o 1) < 0 → (cr_LP p (ab_up M1 764 4 (M1 o 1))) ∧ (∀ M112 : ab_M, (cr_LV p (ab_up M1 764 4 (M1 o 1)) M112 ((ab_up M1 764 4 (M1 o 1)) p 3).toNat) → K [Xi (M112 764 4)] M112))))))) := by
  obtain ⟨hn, hRE⟩ := hI
  obtain ⟨⟨hop, hp0, ⟨hl, hc⟩, hBD⟩, gK⟩ := hS
  obtain ⟨hok1, hfar, hcase⟩ := id hRE
  obtain ⟨f1, f2, fL, ff, fc⟩ := cr_farL hop hfar
  have hb := cr_bd hok1
  rw [f1] at hb
  have hir4 : ab_ir (M1 764 4) ∧ (M1 764 4 < 0 → ab_ir (M1 764 8)) := by
    rcases hcase with ⟨fs, t, E, op, A, hP, -⟩ | ⟨q, a, q1, q2, q3⟩
    · obtain ⟨-, -, b1, b2, -⟩ := cr_st_b hok1 hP.2.1
      have := hP.end'.2.2.2.2.2.1
      have h2 := hP.2.2.2.2
      refine ⟨b1, fun _ => ?_⟩
      rw [this]
      have hz := (hP.2.2.1.mu)
      have := pz_mu_z fs hP.2.2.1.1
      have hcl := (cr_bd hok1).2
      have hA := hP.end'.2.2.1
      have hA2 := hP.end'.2.2.2.1
      have h6 := hP.2.2.2.1.1.1
      have hz5 := congrArg List.length hP.2.2.1.2.2.2.2.1
      rw [List.length_take, List.length_append] at hz5
      exact ⟨by omega, by omega⟩
    · obtain ⟨-, -, b1, b2, -, z, -⟩ := cr_st_b hok1 q3
      exact ⟨b1, fun y => absurd (z.2 y) q1⟩
  clear hcase
  refine And.intro (by
    first
      | omega
      | exact hir4.1
      | exact hir4.2 (by assumption)
      | exact trivial
      | exact ⟨trivial, trivial⟩
      | exact ⟨⟨by omega, by omega⟩, by omega, by omega⟩
      | exact ⟨hir4.2, by decide, by decide⟩
      | (obtain ⟨fs, t, E, op, A, kk, hP, hnA, hrun, hkk⟩ := hst1 (by assumption)
         have e8 := hP.end'.2.2.2.2.2.1
         rw [e8]
         have hA1 : A < (cr_L o M1).length := by
           by_cases z : A < (cr_L o M1).length
           · exact z
           · exact absurd (hP.end'.2.1.2 z) c28
         have := (hP.2.2.2.2 hA1).2.2
         exact ⟨by omega, by omega⟩)
      | (rw [f1]; omega)
      | (rw [ab_up_s]; exact ⟨by omega, by omega⟩)
      | (rw [ab_up_s, f1]; exact ⟨by omega, by omega⟩)
      | (split <;> exact ⟨by decide, by decide⟩)
      | (rw [hr55]; split <;> exact ⟨by decide, by decide⟩)) ?_
  refine ⟨?_, ?_⟩
  · intro c86
    refine And.intro (by
      first
        | omega
        | exact hir4.1
        | exact hir4.2 (by assumption)
        | exact trivial
        | exact ⟨trivial, trivial⟩
        | exact ⟨⟨by omega, by omega⟩, by omega, by omega⟩
        | exact ⟨hir4.2, by decide, by decide⟩
        | (obtain ⟨fs, t, E, op, A, kk, hP, hnA, hrun, hkk⟩ := hst1 (by assumption)
           have e8 := hP.end'.2.2.2.2.2.1
           rw [e8]
           have hA1 : A < (cr_L o M1).length := by
             by_cases z : A < (cr_L o M1).length
             · exact z
             · exact absurd (hP.end'.2.1.2 z) c28
           have := (hP.2.2.2.2 hA1).2.2
           exact ⟨by omega, by omega⟩)
        | (rw [f1]; omega)
        | (rw [ab_up_s]; exact ⟨by omega, by omega⟩)
        | (rw [ab_up_s, f1]; exact ⟨by omega, by omega⟩)
        | (split <;> exact ⟨by decide, by decide⟩)
        | (rw [hr55]; split <;> exact ⟨by decide, by decide⟩)) ?_
    refine ⟨?_, ?_⟩
    · intro c108
      first
        | (exfalso; omega)
        | exact gK _ _ (hRE.bad (by omega))
        | (have hq := hRE.ajar (by omega) (by omega)
           rw [f1]
           exact gK _ _ hq)
        | exact gK _ _ (hRE.ajar (by omega) (by omega))
    · intro c108
      refine And.intro (by
        first
          | exact (hRE.good (by omega) (by omega)).1
          | (exfalso; omega)) ?_
      intro M112 hM112
      first
        | (exfalso; omega)
        | (obtain ⟨hlp, hgo⟩ := hRE.good (by omega) (by omega)
           obtain ⟨w1, w2⟩ := hgo _ hM112
           rw [w1]
           exact gK _ _ w2)
  · intro c86
    refine And.intro (by
      first
        | omega
        | exact hir4.1
        | exact hir4.2 (by assumption)
        | exact trivial
        | exact ⟨trivial, trivial⟩
        | exact ⟨⟨by omega, by omega⟩, by omega, by omega⟩
        | exact ⟨hir4.2, by decide, by decide⟩
        | (obtain ⟨fs, t, E, op, A, kk, hP, hnA, hrun, hkk⟩ := hst1 (by assumption)
           have e8 := hP.end'.2.2.2.2.2.1
           rw [e8]
           have hA1 : A < (cr_L o M1).length := by
             by_cases z : A < (cr_L o M1).length
             · exact z
             · exact absurd (hP.end'.2.1.2 z) c28
           have := (hP.2.2.2.2 hA1).2.2
           exact ⟨by omega, by omega⟩)
        | (rw [f1]; omega)
        | (rw [ab_up_s]; exact ⟨by omega, by omega⟩)
        | (rw [ab_up_s, f1]; exact ⟨by omega, by omega⟩)
        | (split <;> exact ⟨by decide, by decide⟩)
        | (rw [hr55]; split <;> exact ⟨by decide, by decide⟩)) ?_
    refine ⟨?_, ?_⟩
    · intro c93
      refine And.intro (by
        first
          | omega
          | exact hir4.1
          | exact hir4.2 (by assumption)
          | exact trivial
          | exact ⟨trivial, trivial⟩
          | exact ⟨⟨by omega, by omega⟩, by omega, by omega⟩
          | exact ⟨hir4.2, by decide, by decide⟩
          | (obtain ⟨fs, t, E, op, A, kk, hP, hnA, hrun, hkk⟩ := hst1 (by assumption)
             have e8 := hP.end'.2.2.2.2.2.1
             rw [e8]
             have hA1 : A < (cr_L o M1).length := by
               by_cases z : A < (cr_L o M1).length
               · exact z
               · exact absurd (hP.end'.2.1.2 z) c28
             have := (hP.2.2.2.2 hA1).2.2
             exact ⟨by omega, by omega⟩)
          | (rw [f1]; omega)
          | (rw [ab_up_s]; exact ⟨by omega, by omega⟩)
          | (rw [ab_up_s, f1]; exact ⟨by omega, by omega⟩)
          | (split <;> exact ⟨by decide, by decide⟩)
          | (rw [hr55]; split <;> exact ⟨by decide, by decide⟩)) ?_
      refine ⟨?_, ?_⟩
      · intro c108
        first
          | (exfalso; omega)
          | exact gK _ _ (hRE.bad (by omega))
          | (have hq := hRE.ajar (by omega) (by omega)
             rw [f1]
             exact gK _ _ hq)
          | exact gK _ _ (hRE.ajar (by omega) (by omega))
      · intro c108
        refine And.intro (by
          first
            | exact (hRE.good (by omega) (by omega)).1
            | (exfalso; omega)) ?_
        intro M112 hM112
        first
          | (exfalso; omega)
          | (obtain ⟨hlp, hgo⟩ := hRE.good (by omega) (by omega)
             obtain ⟨w1, w2⟩ := hgo _ hM112
             rw [w1]
             exact gK _ _ w2)
    · intro c93
      refine And.intro (by
        first
          | omega
          | exact hir4.1
          | exact hir4.2 (by assumption)
          | exact trivial
          | exact ⟨trivial, trivial⟩
          | exact ⟨⟨by omega, by omega⟩, by omega, by omega⟩
          | exact ⟨hir4.2, by decide, by decide⟩
          | (obtain ⟨fs, t, E, op, A, kk, hP, hnA, hrun, hkk⟩ := hst1 (by assumption)
             have e8 := hP.end'.2.2.2.2.2.1
             rw [e8]
             have hA1 : A < (cr_L o M1).length := by
               by_cases z : A < (cr_L o M1).length
               · exact z
               · exact absurd (hP.end'.2.1.2 z) c28
             have := (hP.2.2.2.2 hA1).2.2
             exact ⟨by omega, by omega⟩)
          | (rw [f1]; omega)
          | (rw [ab_up_s]; exact ⟨by omega, by omega⟩)
          | (rw [ab_up_s, f1]; exact ⟨by omega, by omega⟩)
          | (split <;> exact ⟨by decide, by decide⟩)
          | (rw [hr55]; split <;> exact ⟨by decide, by decide⟩)) ?_
      refine ⟨?_, ?_⟩
      · intro c108
        first
          | (exfalso; omega)
          | exact gK _ _ (hRE.bad (by omega))
          | (have hq := hRE.ajar (by omega) (by omega)
             rw [f1]
             exact gK _ _ hq)
          | exact gK _ _ (hRE.ajar (by omega) (by omega))
      · intro c108
        refine And.intro (by
          first
            | exact (hRE.good (by omega) (by omega)).1
            | (exfalso; omega)) ?_
        intro M112 hM112
        first
          | (exfalso; omega)
          | (obtain ⟨hlp, hgo⟩ := hRE.good (by omega) (by omega)
             obtain ⟨w1, w2⟩ := hgo _ hM112
             rw [w1]
             exact gK _ _ w2)

set_option maxRecDepth 20000 in
set_option maxHeartbeats 1000000 in
theorem ok_X2_readProgram (E : ab_E) : ab_Ok E 6 40 S_X2_readProgram := by
  refine ab_mk rq_X2_readProgram tk_X2_readProgram (rt := 1) (rfl) (cuts := [8, 82]) (G := [(20, S_X1_link), (34, S_X2_closeBlock), (35, S_X2_isAllowed), (41, S_X2_readStatement), (43, S_X2_start)]) (List.forall_mem_cons.mpr ⟨⟨5, by decide, ok_X1_link E⟩, List.forall_mem_cons.mpr ⟨⟨4, by decide, ok_X2_closeBlock E⟩, List.forall_mem_cons.mpr ⟨⟨2, by decide, ok_X2_isAllowed E⟩, List.forall_mem_cons.mpr ⟨⟨5, by decide, ok_X2_readStatement E⟩, List.forall_mem_cons.mpr ⟨⟨3, by decide, ok_X2_start E⟩, fun _ h => absurd h List.not_mem_nil⟩⟩⟩⟩⟩) (by decide) 107 rfl ?_
  intro a M K wd wa hS
  unfold S_X2_readProgram at hS
  split at hS
  ·
    rename_i o n1 p n2
    refine ⟨Nat.le_of_ble_eq_true rfl, fun pc n L st M1 => match pc, L, st with
      | 8, [.inr (.inr (.inr (764, 2, 0))), .inr (.inr (.inr (o_, 6, n1_))), .inr (.inr (.inr (p_, 1, n2_))), .inr (.inl nn)], [] => o_ = o ∧ n1_ = n1 ∧ p_ = p ∧ n2_ = n2 ∧ (n = (M o 1 + 2 - nn).toNat + 1 ∧ 0 ≤ nn ∧ nn ≤ M o 1 + 1 ∧ cr_RV o p M M1 nn)
      | 82, [.inr (.inr (.inr (764, 2, 0))), .inr (.inr (.inr (o_, 6, n1_))), .inr (.inr (.inr (p_, 1, n2_))), .inr (.inl nn)], [] => o_ = o ∧ n1_ = n1 ∧ p_ = p ∧ n2_ = n2 ∧ (n = 0 ∧ cr_RE o p M M1)
      | _, _, _ => False, ?_, ?_⟩
    · exact vc_X2_readProgram_0 o n1 p n2 M K  hS
    · intro pc n L st M1 hI wd1 wL wst
      (try dsimp only at hI)
      split at hI
      ·
        rename_i o_ n1_ p_ n2_ nn
        obtain ⟨e0_, e1_, e2_, e3_, hI⟩ := hI
        have e0_ := e0_.symm
        subst e0_
        have e1_ := e1_.symm
        subst e1_
        have e2_ := e2_.symm
        subst e2_
        have e3_ := e3_.symm
        subst e3_
        exact vc_X2_readProgram_8 o n1 p n2 M K  hS n nn _ hI
      ·
        rename_i o_ n1_ p_ n2_ nn
        obtain ⟨e0_, e1_, e2_, e3_, hI⟩ := hI
        have e0_ := e0_.symm
        subst e0_
        have e1_ := e1_.symm
        subst e1_
        have e2_ := e2_.symm
        subst e2_
        have e3_ := e3_.symm
        subst e3_
        exact vc_X2_readProgram_82 o n1 p n2 M K  hS n nn _ hI
      · exact hI.elim
  · exact hS.elim
def S_X2_readTerm : ab_PT := fun a M K => match a with
  | [.inr (.inr (.inr (764, 2, 0))), .inr (.inr (.inr (o, 6, n1))), .inr (.inr (.inr (p, 1, n2)))] => (cr_op o p ∧ M p 0 = (o : Int) ∧ (0 ≤ M o 1 ∧ M o 1 ≤ (if o = 1 then 120 else 640)) ∧ ∀ j, 0 ≤ M (o + 1) j ∧ M (o + 1) j < 256) ∧ (∀ rx : Int, ∀ Mx : ab_M, (cr_RT o p M Mx rx) → K [Xi rx] Mx)
  | _ => False
set_option maxRecDepth 20000 in
theorem vc_X2_readTerm_0 (o : Nat) (n1 : Nat) (p : Nat) (n2 : Nat) (M : ab_M) (K : List ab_V → ab_M → Prop) (hS : (cr_op o p ∧ M p 0 = (o : Int) ∧ (0 ≤ M o 1 ∧ M o 1 ≤ (if o = 1 then 120 else 640)) ∧ ∀ j, 0 ≤ M (o + 1) j ∧ M (o + 1) j < 256) ∧ (∀ rx : Int, ∀ Mx : ab_M, (cr_RT o p M Mx rx) → K [Xi rx] Mx)) : (cr_op o p ∧ M p 0 = (o : Int) ∧ (0 ≤ M o 1 ∧ M o 1 ≤ (if o = 1 then 120 else 640)) ∧ ∀ j, 0 ≤ M (o + 1) j ∧ M (o + 1) j < 256) ∧ (∀ M3 : ab_M, (cr_ST o p M M3) → (cr_rd M3 ∧ ∀ p : Nat, M3 764 1 = (p : Int) → 0 ≤ M3 p 11 ∧ M3 p 11 < 64) ∧ (∀ r7 : Int, ∀ M7 : ab_M, (cr_TM M3 M7 r7) → (ab_ir (M7 764 4)) ∧ ((0 ≤ (M7 764 4) → K [Xi (M7 764 4)] M7) ∧ ((M7 764 4) < 0 → (ab_ir (M7 764 3) ∧ ab_ir (-1 : Int)) ∧ (((M7 764 3) = (-1 : Int) → K [Xi (M7 764 4)] M7) ∧ (¬ (M7 764 3) = (-1 : Int) → K [Xi (M7 764 2)] (ab_up M7 764 4 (M7 764 2)))))))) := by
  obtain ⟨⟨hop, hp0, hl, hc⟩, gK⟩ := hS
  have hoo : o < 25 ∧ o + 1 < 25 ∧ 26 ≤ p ∧ p < 396 := by rcases hop with ⟨q, q'⟩ | ⟨q, q'⟩ <;> omega
  refine And.intro (by
    exact ⟨hop, hp0, hl, hc⟩) ?_
  intro M3 hM3
  have st3 := hM3
  have hok3 := hM3.1
  have hst3 := hM3.2.1
  have far3 : ∀ o' k' : Nat, ¬ (764 ≤ o' ∧ o' ≤ 767) → ¬ ((p ≤ o' ∧ o' ≤ p + 368) ∧ ¬ (o' = p ∧ k' = 0) ∧ ¬ o' = p + 362) → M3 o' k' = M o' k' := fun o' k' g1 g2 => hM3.2.2.2 o' k' (by omega) (by omega) (by omega)
  obtain ⟨f1, f2, fL, ff, fc⟩ := cr_farL hop far3
  refine And.intro (by
    refine ⟨⟨o, p, hok3, 0, -9, hst3⟩, fun p' hp' => ?_⟩
    have := hok3.2.1
    have e : p' = p := by omega
    rw [e, st3.2.2.1.2.2.2.2.1]
    exact ⟨by decide, by decide⟩) ?_
  intro r7 M7 hM7
  obtain ⟨t1, t2⟩ := hM7 o p 0 (-9) hok3 hst3
  rw [fL] at t1 t2
  have hop11 := st3.2.2.1.2.2.2.2.1
  have key : cr_ok o p M7 ∧ (∀ o' k' : Nat, ¬ (764 ≤ o' ∧ o' ≤ 767) → ¬ ((p ≤ o' ∧ o' ≤ p + 368) ∧ ¬ (o' = p ∧ k' = 0) ∧ ¬ o' = p + 362) → M7 o' k' = M o' k') ∧ cr_st o M7 (pz_te (cr_L o M) 0 (-9)).2.1 (pz_te (cr_L o M) 0 (-9)).2.2 := by
    by_cases q : (pz_te (cr_L o M) 0 (-9)).2.2 = -9
    · obtain ⟨-, N, n1, n2, n3⟩ := t1 q
      have hk : ∀ o' k', ¬ ((p ≤ o' ∧ o' ≤ p + 368) ∧ ¬ (o' = p ∧ k' = 0) ∧ ¬ o' = p + 362) → M7 o' k' = N o' k' := fun o' k' g => by rw [n3, up_ne (by omega), up_ne (by omega), up_ne (by omega)]
      have hkp : cr_kp o p N M7 := ⟨hk _ _ (by omega), hk _ _ (by omega), hk _ _ (by omega), hk _ _ (by omega), hk _ _ (by omega), hk _ _ (by omega), fun j => hk _ _ (by omega)⟩
      exact ⟨hkp.ok (n1.ok hok3), fun o' k' g1 g2 => by rw [hk _ _ g2, n1 _ _ (by omega), far3 _ _ g1 g2], by rw [q]; exact hkp.st n2⟩
    · obtain ⟨-, n1, n2⟩ := t2 q
      exact ⟨n1.ok hok3, fun o' k' g1 g2 => by rw [n1 _ _ (by omega), far3 _ _ g1 g2], n2⟩
  obtain ⟨hok7, far7, hst7⟩ := key
  obtain ⟨f1', f2', fL', ff', fc'⟩ := cr_farL hop far7
  obtain ⟨k7, b1, b2, b3, b4, b5, b6⟩ := cr_st_b hok7 hst7
  clear t1 t2 hM7
  refine And.intro (by
    first
      | exact b2
      | exact ⟨b3, by decide, by decide⟩
      | trivial
      | omega) ?_
  refine ⟨?_, ?_⟩
  · intro c15
    refine gK _ _ ⟨hok7, far7, ?_⟩
    rcases hst7 with ⟨z, z2, -⟩ | ⟨z, k, e, z1, z2, z3, z4, z5⟩
    · rw [z2] at c15; exact absurd c15 (by decide)
    · have hf : pz_f1 (cr_L o M) = (pz_te (cr_L o M) 0 (-9)).2.2 := by unfold pz_f1; rw [if_neg z]
      rw [hf]
      rw [f1'] at z3 z4
      exact ⟨fun y => absurd y z, fun _ => ⟨e, z2, z3, fun y => by rw [← f2']; exact z4 y, by rw [← fc']; exact z5⟩⟩
  · intro c15
    refine And.intro (by
      first
        | exact b2
        | exact ⟨b3, by decide, by decide⟩
        | trivial
        | omega) ?_
    refine ⟨?_, ?_⟩
    · intro c23
      refine gK _ _ ⟨hok7, far7, ?_⟩
      have hz := b5.2 c15
      rcases hst7 with ⟨z, z2, k, z3, z4⟩ | ⟨z, -⟩
      · obtain ⟨p1, p2⟩ := cr_pt z3.2.1 z3.2.2.1
        have hge : ¬ (k : Int) < M7 o 1 := fun y => by
          have h3 := z3.2.2.2
          rw [if_pos y] at h3
          have := hok7.2.2.2.2.2 k
          omega
        have hlen : cr_c o M7 k = (cr_L o M).length := by
          rw [← fL', cr_L_len]
          have := z3.2.1
          rw [show k = (M7 o 1).toNat by omega]
        have hf : pz_f1 (cr_L o M) = -9 := by
          unfold pz_f1
          rw [if_pos hz, if_pos (by rw [z4, hlen])]
        rw [hf, z2]
        exact ⟨fun _ => rfl, fun y => absurd rfl y⟩
      · exact absurd hz z
    · intro c23
      have hz := b5.2 c15
      rw [hz] at hst7
      obtain ⟨w1, w2⟩ := cr_flt hok7 hst7 rfl
      refine gK _ _ ⟨w2.ok hok7, fun o' k' g1 g2 => by rw [w2 _ _ (by omega), far7 _ _ g1 g2], ?_⟩
      rcases hst7 with ⟨z, z2, k, z3, z4⟩ | ⟨z, -⟩
      · obtain ⟨p1, p2⟩ := cr_pt z3.2.1 z3.2.2.1
        have hlt : (k : Int) < M7 o 1 := by
          have h3 := z3.2.2.2
          by_cases y : (k : Int) < M7 o 1
          · exact y
          · rw [if_neg y] at h3; exact absurd h3 c23
        have hlen : cr_c o M7 k < (cr_L o M).length := by rw [← fL']; exact p2.1 hlt
        have hf : pz_f1 (cr_L o M) = (pz_te (cr_L o M) 0 (-9)).2.1 := by
          unfold pz_f1
          rw [if_pos hz, if_neg (by rw [z4]; omega)]
        rw [hf]
        refine ⟨fun y => by omega, fun _ => ⟨k, z3.1, by rw [← f1']; exact z3.2.1, fun y => by rw [← f2']; exact z3.2.2.1 hlt, by rw [← fc']; exact z4⟩⟩
      · exact absurd rfl z

set_option maxRecDepth 20000 in
set_option maxHeartbeats 1000000 in
theorem ok_X2_readTerm (E : ab_E) : ab_Ok E 4 42 S_X2_readTerm := by
  refine ab_mk rq_X2_readTerm tk_X2_readTerm (rt := 1) (rfl) (cuts := []) (G := [(43, S_X2_start), (44, S_X2_term)]) (List.forall_mem_cons.mpr ⟨⟨3, by decide, ok_X2_start E⟩, List.forall_mem_cons.mpr ⟨⟨3, by decide, ok_X2_term E⟩, fun _ h => absurd h List.not_mem_nil⟩⟩) (by decide) 71 rfl ?_
  intro a M K wd wa hS
  unfold S_X2_readTerm at hS
  split at hS
  ·
    rename_i o n1 p n2
    refine ⟨Nat.le_of_ble_eq_true rfl, fun _ _ _ _ _ => False, ?_, ?_⟩
    · exact vc_X2_readTerm_0 o n1 p n2 M K  hS
    · exact fun _ _ _ _ _ h => h.elim
  · exact hS.elim
