/-! the class: between turns of its reader -/
/-- a turn that reads a statement -/
theorem pz_Z_st {ls : List Int} {fs : List pz_F} {t : pz_T} {E : List pz_Ev} {op : List Nat} {A : Nat} {r : List pz_Ev × List Nat × Int} (hZ : pz_Z ls fs t E op A) (hA : A < ls.length) (hnc : ¬ (pz_at ls A = 41 ∧ op ≠ [])) (h : pz_turn ls E op (A : Int) = .inr r) : ∃ P : pz_P, pz_wfP P ∧ ((P.1 < 6 ∧ r = (E ++ [pz_evP P A (pz_kds E).length], op, ((A + (pz_hd P).length : Nat) : Int)) ∧ pz_Z ls fs (pz_nd P t .leaf .leaf) r.1 r.2.1 (A + (pz_hd P).length)) ∨ (6 ≤ P.1 ∧ r = (E ++ [pz_evP P A (pz_kds E).length] ++ [pz_eo (pz_w1 P.1) E.length], (E.length + 1) :: op, ((A + (pz_hd P).length + 1 : Nat) : Int)) ∧ pz_Z ls ((t, P, false, .leaf) :: fs) .leaf r.1 r.2.1 (A + (pz_hd P).length + 1))) := by
  obtain ⟨z1, z2, z3, z4, z5, z6, z7, z8, z9⟩ := hZ
  have hkE : (pz_kds E).length = pz_zkn fs + pz_kn t := by rw [z6, pz_kds_app', List.length_append, pz_kds_fl t z2, pz_zkn_kds fs z1]
  have hlE : pz_la E op = pz_zl fs := by rw [z6, z7]; exact pz_zl_la fs z1 _
  have hnE : E.length = (pz_zE fs).length + pz_ne t := by rw [z6, List.length_append, pz_fl_len]
  have hAl : A = (pz_zpr fs).length + (pz_pr t).length := by
    have := congrArg List.length z5
    rw [List.length_take, List.length_append] at this
    omega
  rcases pz_turn_inv hA h with ⟨P, hP, hd, hle, hk, h7, h41, hr⟩ | ⟨o, op', hop, h41, hr⟩
  · rcases hr with ⟨h6, hr⟩ | ⟨h6, h40, hr⟩
    · subst hr
      refine ⟨P, hP, Or.inl ⟨h6, rfl, ⟨z1, ⟨z2, trivial, trivial, hP, fun _ => ⟨rfl, rfl⟩, fun _ => rfl⟩, ?_, hle, ?_, ?_, z7, ?_, ?_⟩⟩⟩
      · rw [pz_ld_nd, if_neg (by omega)]
        show pz_zl fs + max (pz_ld t) 0 ≤ 2
        omega
      · rw [pz_take_app hd z4, z5, pz_pr_nd, if_neg (by omega), List.append_nil, List.append_assoc]
      · show E ++ [pz_evP P A (pz_kds E).length] = _
        rw [pz_fl_nd, if_neg (by omega), hkE, ← hAl, ← List.append_assoc, ← z6]
      · rw [pz_kds_app', List.length_append, pz_kds_cons, List.length_append, pz_kd_evP]
        show (pz_kds E).length + ((pz_kd (P.1, 0, 0, 0, 0, 0, 0, 0)).length + 0) ≤ 16
        omega
      · rw [pz_c7_app, pz_c7_cons]
        show pz_c7 E + ((if P.1 = 7 then 1 else 0) + 0) ≤ 4
        rw [if_neg (by omega)]
        omega
    · subst hr
      have hlt := pz_at_lt (ls := ls) (i := A + (pz_hd P).length) (by omega)
      have hd2 : ls.drop A = (pz_hd P ++ [40]) ++ ls.drop (A + (pz_hd P).length + 1) := by
        rw [hd, pz_drop_at hlt, h40, List.append_assoc]
        rfl
      refine ⟨P, hP, Or.inr ⟨h6, rfl, ⟨⟨z1, ⟨z2, hP, h6, fun _ => rfl, trivial, fun _ => rfl⟩, z3, ?_, ?_⟩, trivial, ?_, hlt, ?_, ?_, ?_, ?_, ?_⟩⟩⟩
      · show pz_zl fs + 0 ≤ 2
        omega
      · intro q
        have := (h7 q).2
        omega
      · show pz_zl fs + (if P.1 = 7 then 1 else 0) + 0 ≤ 2
        by_cases q : P.1 = 7
        · have := (h7 q).2
          rw [if_pos q]
          omega
        · rw [if_neg q]
          omega
      · have := pz_take_app hd2 z4
        rw [List.length_append, List.length_singleton, ← Nat.add_assoc] at this
        rw [this, z5]
        show _ = pz_zpr fs ++ (pz_pr t ++ (pz_hd P ++ 40 :: [])) ++ []
        simp
      · show E ++ [pz_evP P A (pz_kds E).length] ++ [pz_eo (pz_w1 P.1) E.length] = pz_zE fs ++ (pz_fl t (pz_zpr fs).length (pz_zE fs).length (pz_zkn fs) ++ pz_evP P ((pz_zpr fs).length + (pz_pr t).length) (pz_zkn fs + pz_kn t) :: []) ++ [pz_eo (pz_w1 P.1) ((pz_zE fs).length + pz_ne t)] ++ []
        rw [hkE, ← hAl, ← hnE, List.append_nil, ← List.append_assoc, ← z6]
      · show (E.length + 1) :: op = (pz_zE fs ++ pz_fX (t, P, false, .leaf) (pz_zpr fs).length (pz_zE fs).length (pz_zkn fs)).length :: pz_zO fs
        rw [← z7, List.length_append, pz_fX_len, hnE]
        rfl
      · rw [pz_kds_app', pz_kds_app', List.length_append, List.length_append, pz_kds_cons, List.length_append, pz_kd_evP]
        show (pz_kds E).length + ((pz_kd (P.1, 0, 0, 0, 0, 0, 0, 0)).length + 0) + 0 ≤ 16
        omega
      · rw [pz_c7_app, pz_c7_app, pz_c7_cons, pz_c7_cons]
        show pz_c7 E + ((if P.1 = 7 then 1 else 0) + 0) + (0 + 0) ≤ 4
        by_cases q : P.1 = 7
        · have := (h7 q).1
          rw [if_pos q]
          omega
        · rw [if_neg q]
          omega
  · exact absurd ⟨h41, by rw [hop]; exact fun q => by cases q⟩ hnc
theorem cr_zn_c7 : ∀ fs : List pz_F, pz_zwf fs → pz_c7 (pz_zE fs) = cr_zn fs := by
  intro fs
  induction fs with
  | nil => intro _; rfl
  | cons g fs ih =>
    intro h
    obtain ⟨h1, ⟨h2, h3, h4, h5, h6, h7⟩, -⟩ := h
    rw [pz_zE, pz_c7_app, pz_c7_app, ih h1, pz_c7_cons]
    unfold pz_fX
    rw [pz_c7_app, pz_c7_fl _ h2, pz_c7_cons]
    show cr_zn fs + (pz_nl g.1 + ((if g.2.1.1 = 7 then 1 else 0) + pz_c7 (if g.2.2.1 = true then _ else []))) + ((if (9 : Int) = 7 then 1 else 0) + pz_c7 []) = cr_zn fs + pz_nl g.1 + (if g.2.1.1 = 7 then 1 else 0) + (if g.2.2.1 then pz_nl g.2.2.2 else 0)
    by_cases hs : g.2.2.1 = true
    · rw [if_pos hs, if_pos hs, pz_c7_cons, pz_c7_app, pz_c7_fl _ h6, pz_c7_cons]
      show cr_zn fs + (pz_nl g.1 + ((if g.2.1.1 = 7 then 1 else 0) + (0 + (pz_nl g.2.2.2 + (0 + 0))))) + (0 + 0) = _
      omega
    · rw [if_neg hs, if_neg hs]
      show cr_zn fs + (pz_nl g.1 + ((if g.2.1.1 = 7 then 1 else 0) + 0)) + (0 + 0) = _
      omega
/-- between turns of the class's reader -/
def cr_P (o p : Nat) (M : ab_M) (fs : List pz_F) (t : pz_T) (E : List pz_Ev) (op : List Nat) (A : Nat) : Prop := cr_ok o p M ∧ cr_st o M (A : Int) (-9) ∧ pz_Z (cr_L o M) fs t E op A ∧ cr_R (M (o + 1)) M p fs t E ∧ cr_wr (A < (cr_L o M).length → cr_zr fs + pz_sz t < 120 ∧ cr_zt fs + pz_nt t ≤ 61 ∧ fs.length < 120)
def cr_mayc (ls : List Int) (E : List pz_Ev) (op : List Nat) (A : Nat) : Prop := pz_may ls E op (A : Int) ∧ ¬ (pz_at ls A = 41 ∧ op ≠ [])
/-- what a turn makes of it -/
def cr_TR (o p : Nat) (M M' : ab_M) (E : List pz_Ev) (op : List Nat) (A : Nat) : Prop := cr_ok o p M' ∧ (∀ o' k' : Nat, ¬ (764 ≤ o' ∧ o' ≤ 767) → ¬ ((p ≤ o' ∧ o' ≤ p + 368) ∧ ¬ (o' = p ∧ k' = 0) ∧ ¬ o' = p + 362) → M' o' k' = M o' k') ∧ match pz_turn (cr_L o M) E op (A : Int) with
  | .inl q => q ≠ -9 ∧ ∃ a, cr_st o M' a q
  | .inr r => ∃ (fs' : List pz_F) (t' : pz_T) (A' : Nat), r.2.2 = (A' : Int) ∧ pz_Z (cr_L o M) fs' t' r.1 r.2.1 A' ∧ cr_R (M (o + 1)) M' p fs' t' r.1 ∧ cr_st o M' (A' : Int) (-9)
theorem pz_Z.cn {ls : List Int} {fs : List pz_F} {t : pz_T} {E : List pz_Ev} {op : List Nat} {A : Nat} (hZ : pz_Z ls fs t E op A) : (pz_kds E).length = pz_zkn fs + pz_kn t ∧ pz_c7 E = cr_zn fs + pz_nl t ∧ pz_la E op = pz_zl fs ∧ A = (pz_zpr fs).length + (pz_pr t).length ∧ (pz_kds E).length ≤ 16 ∧ pz_c7 E ≤ 4 ∧ pz_wf t ∧ op.length = fs.length := by
  obtain ⟨z1, z2, z3, z4, z5, z6, z7, z8, z9⟩ := hZ
  refine ⟨by rw [z6, pz_kds_app', List.length_append, pz_kds_fl t z2, pz_zkn_kds fs z1], by rw [z6, pz_c7_app, pz_c7_fl t z2, cr_zn_c7 fs z1], by rw [z6, z7]; exact pz_zl_la fs z1 _, ?_, z8, z9, z2, ?_⟩
  · have := congrArg List.length z5
    rw [List.length_take, List.length_append] at this
    omega
  · rw [z7]
    clear z1 z2 z3 z4 z5 z6 z7 z8 z9
    induction fs with
    | nil => rfl
    | cons f fs ih => show (_ :: pz_zO fs).length = _; rw [List.length_cons, ih, List.length_cons]
theorem cr_P.sgn {o p : Nat} {M : ab_M} {fs : List pz_F} {t : pz_T} {E : List pz_Ev} {op : List Nat} {A : Nat} (h : cr_P o p M fs t E op A) (hA : A < (cr_L o M).length) : ∃ k, cr_at o M k ∧ (k : Int) < M o 1 ∧ (A : Int) = ((cr_c o M k : Nat) : Int) ∧ M 764 4 = -1 ∧ M 764 3 = pz_at (cr_L o M) A ∧ 0 ≤ M 764 3 ∧ M 764 3 < 256 := by
  obtain ⟨hok, hst, -⟩ := h
  rcases hst with ⟨-, s2, k, s3, s4⟩ | ⟨z, -⟩
  · obtain ⟨p1, p2⟩ := cr_pt s3.2.1 s3.2.2.1
    have e : cr_c o M k = A := by omega
    rw [e] at p1 p2
    have hlt : (k : Int) < M o 1 := p2.2 hA
    rw [if_pos hlt] at p1
    have h3 := s3.2.2.2
    rw [if_pos hlt] at h3
    have := hok.2.2.2.2.2 k
    exact ⟨k, s3, hlt, s4, s2, by rw [p1, h3], by omega, by omega⟩
  · exact absurd rfl z
theorem cr_P.adp {o p : Nat} {M : ab_M} {fs : List pz_F} {t : pz_T} {E : List pz_Ev} {op : List Nat} {A : Nat} (h : cr_P o p M fs t E op A) (hA : A < (cr_L o M).length) (hm : cr_mayc (cr_L o M) E op A) : ∃ v w sd : Nat, cr_adp M p (p + 1 + 1 + 3 * (cr_zr fs + pz_sz t)) (cr_zr fs + pz_sz t) v w fs.length sd ∧ ∀ g fs', fs = g :: fs' → w = p + 1 + 1 + 3 * (cr_zr fs' + pz_sz g.1) ∧ sd = (if g.2.2.1 then 1 else 0) := by
  obtain ⟨k, -, -, -, -, h3, h30, h31⟩ := h.sgn hA
  obtain ⟨hok, hst, hZ, hR, hb⟩ := h
  obtain ⟨hb1, hb2, hb3⟩ := hb hA
  obtain ⟨c1, c2, c3, c4, c5, c6, c7, c8⟩ := hZ.cn
  obtain ⟨⟨r3, r6, r8, r11⟩, rk, ⟨rd, rl, rt⟩, rm, rT, rZ⟩ := hR
  obtain ⟨⟨m1, m2, m3⟩, -⟩ := hm
  rw [Int.toNat_natCast, ← h3] at m1 m2 m3
  have hsl : cr_wr _ := pz_srt_let (L := M 764 3) rfl m1
  have n7 := hsl.2.1
  have n2 := hsl.2.2.1
  have n5 := hsl.2.2.2.1
  have n118 := hsl.2.2.2.2.2.2.2.2.2.2.2.2
  rw [pz_lps_c7] at m3
  have hnck : (pz_srt (M 764 3) = 7 → pz_nck (pz_srt (M 764 3)) = 2) ∧ (pz_srt (M 764 3) = 2 ∨ pz_srt (M 764 3) = 5 → pz_nck (pz_srt (M 764 3)) = 1) := ⟨fun q => by rw [q]; rfl, fun q => by rcases q with q | q <;> (rw [q]; rfl)⟩
  have hls := cr_ls_cs t (cr_zr fs) c7
  have base : ∀ v w sd : Nat, (M 767 fs.length = -1 ∨ ∃ V, V < cr_zr fs + pz_sz t ∧ M 767 fs.length = (V : Int) ∧ v = p + 1 + 1 + 3 * V) → (0 < fs.length → ∃ W, W < cr_zr fs + pz_sz t ∧ M 765 (fs.length - 1) = (W : Int) ∧ w = p + 1 + 1 + 3 * W ∧ M 766 (fs.length - 1) = (sd : Int) ∧ sd ≤ 1) → cr_adp M p (p + 1 + 1 + 3 * (cr_zr fs + pz_sz t)) (cr_zr fs + pz_sz t) v w fs.length sd := fun v w sd g1 g2 => by
    refine ⟨⟨o, hok⟩, ⟨r3, hb1, rfl⟩, ⟨by omega, by omega, by omega, by omega⟩, fun q => ?_, fun q => ?_, ⟨h30, h31, n118⟩, ⟨rd, by omega⟩, g1, g2⟩
    · have q7 := n7.1 q
      have := hnck.1 q7
      have := m3 q7
      exact ⟨by omega, by omega⟩
    · have := hnck.2 (by rcases q with z | z; exact Or.inl (n2.1 z); exact Or.inr (n5.1 z))
      omega
  have hv : M 767 fs.length = -1 ∨ ∃ V, V < cr_zr fs + pz_sz t ∧ M 767 fs.length = (V : Int) := by
    rw [rt]
    rcases hls with ⟨-, q, -⟩ | ⟨-, r, q, -, q2⟩
    · exact Or.inl q
    · exact Or.inr ⟨r, q2, q⟩
  have hv2 : ∃ v : Nat, M 767 fs.length = -1 ∨ ∃ V, V < cr_zr fs + pz_sz t ∧ M 767 fs.length = (V : Int) ∧ v = p + 1 + 1 + 3 * V := by
    rcases hv with q | ⟨V, q1, q2⟩
    · exact ⟨0, Or.inl q⟩
    · exact ⟨_, Or.inr ⟨V, q1, q2, rfl⟩⟩
  obtain ⟨v, hv2⟩ := hv2
  cases fs with
  | nil => exact ⟨v, 0, 0, base v 0 0 hv2 (fun q => absurd q (Nat.lt_irrefl 0)), fun g fs' q => by cases q⟩
  | cons g fs' =>
    obtain ⟨⟨z1, z2, z3⟩, -⟩ := rZ
    have e1 : cr_zr (g :: fs') = cr_zr fs' + pz_sz g.1 + 1 + (if g.2.2.1 then pz_sz g.2.2.2 else 0) := rfl
    refine ⟨v, p + 1 + 1 + 3 * (cr_zr fs' + pz_sz g.1), (if g.2.2.1 then 1 else 0), base _ _ _ hv2 (fun _ => ⟨cr_zr fs' + pz_sz g.1, by rw [e1]; omega, z1, rfl, ?_, by split <;> decide⟩), fun g' fs'' q => ?_⟩
    · rw [show (g :: fs').length - 1 = fs'.length from rfl, z2]
      cases g.2.2.1 <;> rfl
    · cases q
      exact ⟨rfl, rfl⟩

