/-! the class: a turn that reads a statement -/
abbrev pz_v00 (ls : List Int) (its : Int) (A : Nat) : Int := if its = 0 then pz_at ls A - 97 else 0
theorem cr_turn_st {ls : List Int} {E : List pz_Ev} {op : List Nat} {A : Nat} {its : Int} (hm : cr_mayc ls E op A) (hits : pz_srt (pz_at ls A) = its) : pz_turn ls E op (A : Int) = pz_stm ls E op (A : Int) its := by
  obtain ⟨m, hn⟩ := hm
  subst hits
  unfold pz_may at m
  unfold pz_turn
  rw [Int.toNat_natCast] at m ⊢
  cases op with
  | nil => dsimp only; rw [if_pos m]
  | cons o op => dsimp only; rw [if_neg (fun q => hn ⟨q, fun z => by cases z⟩), if_pos m]
theorem cr_lt_7 {s : Int} (h0 : 0 ≤ s) (h8 : s ≤ 8) : cr_lt s = 119 ↔ s = 7 := by
  have hc : s = 0 ∨ s = 1 ∨ s = 2 ∨ s = 3 ∨ s = 4 ∨ s = 5 ∨ s = 6 ∨ s = 7 ∨ s = 8 := by omega
  rcases hc with rfl | rfl | rfl | rfl | rfl | rfl | rfl | rfl | rfl <;> decide
theorem cr_X.far {o p s R : Nat} {M M10 N : ab_M} {v w d sd T : Nat} {a f vv fi se : Int} {tl : List (Nat × Int)} (hAF : cr_AF M M10 p s R v w d sd) (hX : cr_X o p s M10 N T a f vv fi se tl) (hR : R < 120) (hs : s = p + 1 + 1 + 3 * R) : ∀ o' k' : Nat, ¬ (764 ≤ o' ∧ o' ≤ 767) → ¬ ((p ≤ o' ∧ o' ≤ p + 368) ∧ ¬ (o' = p ∧ k' = 0) ∧ ¬ o' = p + 362) → N o' k' = M o' k' := fun o' k' h1 h2 => by
  rw [hX.2.1 o' k' (by omega) (by omega) (by omega) (by omega)]
  exact hAF.2.2.2.2.1 o' k' h1 h2
/-- the sides of an event that was read -/
theorem cr_ev_eq {E : List pz_Ev} {ev : pz_Ev} {P : pz_P} {A c : Nat} (h : E ++ [ev] = E ++ [pz_evP P A c]) : ev = pz_evP P A c := by
  have := List.append_cancel_left h
  exact (List.cons.inj this).1
theorem cr_tl_eq {ls : List Int} {its : Int} {P : pz_P} {A c : Nat} {kk : Int} (h : ((its, (pz_n2 ls its (pz_v00 ls its A) ((A : Int) + 1)).1, (pz_n1 ls its (pz_v00 ls its A) ((A : Int) + 1)).2.1, (pz_t1 ls its (pz_v00 ls its A) ((A : Int) + 1)).1, (pz_n2 ls its (pz_v00 ls its A) ((A : Int) + 1)).2.1, (pz_t2 ls its (pz_v00 ls its A) ((A : Int) + 1)).1, kk, 0) : pz_Ev) = pz_evP P A c) :
    P.1 = its ∧ P.2.1 = (pz_n2 ls its (pz_v00 ls its A) ((A : Int) + 1)).1 ∧ (if pz_nt1 its = 1 then [((pz_n1 ls its (pz_v00 ls its A) ((A : Int) + 1)).2.1.toNat, (pz_t1 ls its (pz_v00 ls its A) ((A : Int) + 1)).1)] else []) ++ (if pz_nt2 its = 1 then [((pz_n2 ls its (pz_v00 ls its A) ((A : Int) + 1)).2.1.toNat, (pz_t2 ls its (pz_v00 ls its A) ((A : Int) + 1)).1)] else []) = (if pz_nt1 P.1 = 1 then [(A + 1, (P.2.2.1.length : Int))] else []) ++ (if pz_nt2 P.1 = 1 then [(A + 1 + P.2.2.1.length + (if P.1 = 5 then 1 else 0), (P.2.2.2.length : Int))] else []) := by
  unfold pz_evP at h
  simp only [Prod.mk.injEq] at h
  obtain ⟨h1, h2, h3, h4, h5, h6, -, -⟩ := h
  refine ⟨h1.symm, h2.symm, ?_⟩
  rw [h3, h4, h5, h6, ← h1, Int.toNat_natCast, Int.toNat_natCast]
  by_cases q1 : pz_nt1 its = 1
  · have e1 : ¬ its = 1 := fun z => by subst z; revert q1; decide
    rw [if_pos q1, if_pos q1, if_neg e1]
  · have q2 : ¬ pz_nt2 its = 1 := fun z => q1 ((pz_nts its).2.2 z)
    rw [if_neg q1, if_neg q1, if_neg q2, if_neg q2]
theorem cr_stm1 {o p v w sd : Nat} {M M10 N : ab_M} {fs : List pz_F} {t : pz_T} {E : List pz_Ev} {op : List Nat} {A : Nat} {its vv fi se : Int} {tl : List (Nat × Int)} (hP : cr_P o p M fs t E op A) (hA : A < (cr_L o M).length) (hm : cr_mayc (cr_L o M) E op A) (had : cr_adp M p (p + 1 + 1 + 3 * (cr_zr fs + pz_sz t)) (cr_zr fs + pz_sz t) v w fs.length sd) (hw : ∀ g fs', fs = g :: fs' → w = p + 1 + 1 + 3 * (cr_zr fs' + pz_sz g.1) ∧ sd = (if g.2.2.1 then 1 else 0)) (hAF : cr_AF M M10 p (p + 1 + 1 + 3 * (cr_zr fs + pz_sz t)) (cr_zr fs + pz_sz t) v w fs.length sd) (hits : pz_srt (pz_at (cr_L o M) A) = its) (h6 : its < 6)
    (hX : cr_X o p (p + 1 + 1 + 3 * (cr_zr fs + pz_sz t)) M10 N (M10 p 11).toNat (pz_t2 (cr_L o M) its (pz_v00 (cr_L o M) its A) ((A : Int) + 1)).2.1 (pz_t2 (cr_L o M) its (pz_v00 (cr_L o M) its A) ((A : Int) + 1)).2.2 vv fi se tl) (hvv : vv = if its = 0 ∨ its = 1 ∨ its = 5 then (pz_n2 (cr_L o M) its (pz_v00 (cr_L o M) its A) ((A : Int) + 1)).1 else -1) (hfi : fi = if pz_nt1 its = 1 then ((cr_zt fs + pz_nt t : Nat) : Int) else -1) (hse : se = if pz_nt2 its = 1 then ((cr_zt fs + pz_nt t : Nat) : Int) + 1 else -1)
    (htl : tl = (if pz_nt1 its = 1 then [((pz_n1 (cr_L o M) its (pz_v00 (cr_L o M) its A) ((A : Int) + 1)).2.1.toNat, (pz_t1 (cr_L o M) its (pz_v00 (cr_L o M) its A) ((A : Int) + 1)).1)] else []) ++ (if pz_nt2 its = 1 then [((pz_n2 (cr_L o M) its (pz_v00 (cr_L o M) its A) ((A : Int) + 1)).2.1.toNat, (pz_t2 (cr_L o M) its (pz_v00 (cr_L o M) its A) ((A : Int) + 1)).1)] else [])) : cr_TR o p M N E op A := by
  obtain ⟨k, -, -, -, -, h3, -, -⟩ := hP.sgn hA
  obtain ⟨hok, hst, hZ, hR, hb⟩ := hP
  obtain ⟨hb1, -, -⟩ := hb hA
  obtain ⟨c1, c2, c3, c4, c5, c6, c7, c8⟩ := hZ.cn
  have hfar := hX.far hAF hb1 rfl
  have hset : cr_set o p (p + 1 + 1 + 3 * (cr_zr fs + pz_sz t)) M10 := ⟨cr_ok_fr hok ⟨hAF.2.2.2.1.1 0, hAF.2.2.2.1.1 1⟩ (hAF.2.2.2.2.1 _ _ (by rcases hok.2.2.1 with ⟨q, q'⟩ | ⟨q, q'⟩ <;> omega) (by rcases hok.2.2.1 with ⟨q, q'⟩ | ⟨q, q'⟩ <;> omega)) (fun j => hAF.2.2.2.2.1 _ _ (by rcases hok.2.2.1 with ⟨q, q'⟩ | ⟨q, q'⟩ <;> omega) (by rcases hok.2.2.1 with ⟨q, q'⟩ | ⟨q, q'⟩ <;> omega)), _, hb1, rfl⟩
  have hturn := cr_turn_st hm hits
  have hits0 : its ≠ -9 := by
    rw [← hits]
    have := hm.1.1
    rwa [Int.toNat_natCast] at this
  refine ⟨(hX.nb hset).1, hfar, ?_⟩
  have hres := fun r => pz_Z_st (r := r) hZ hA hm.2
  rw [hturn] at hres ⊢
  unfold pz_stm at hres ⊢
  rw [Int.toNat_natCast] at hres ⊢
  by_cases q : (pz_t2 (cr_L o M) its (pz_v00 (cr_L o M) its A) ((A : Int) + 1)).2.2 = -9
  · rw [if_pos q, if_neg (by omega)] at hres ⊢
    rw [q] at hX
    obtain ⟨P, hwP, hPc⟩ := hres _ rfl
    rcases hPc with ⟨p6, pr, pZ⟩ | ⟨p6, pr, pZ⟩
    · have e1 := congrArg Prod.fst pr
      have e3 := congrArg (fun x => x.2.2) pr
      dsimp only at e1 e3
      obtain ⟨f1, f2, f3⟩ := cr_tl_eq (cr_ev_eq e1)
      refine ⟨fs, pz_nd P t .leaf .leaf, A + (pz_hd P).length, e3, pZ, ?_, by rw [← e3]; exact hX.1⟩
      have hco := cr_core (P := P) hR c7 c1 hok had hAF rfl hw hX (by rw [h3, hits, f1]) (by rw [f1]; exact hits0) (by rw [hvv, f1, f2]) (by rw [hfi, f1]) (by rw [hse, f1]) (by rw [htl, f3, c4])
      have := cr_fin1 hco (by rw [f1]; exact h6) A (pz_kds E).length
      show cr_R (M (o + 1)) N p fs (pz_nd P t .leaf .leaf) (E ++ [_])
      rw [cr_ev_eq e1]
      exact this
    · exfalso
      have e1 := congrArg (fun x => x.1.length) pr
      simp only [List.length_append, List.length_singleton] at e1
      omega
  · rw [if_neg q]
    exact ⟨q, _, hX.1⟩
theorem cr_stm2 {o p v w sd : Nat} {M M10 N M' : ab_M} {fs : List pz_F} {t : pz_T} {E : List pz_Ev} {op : List Nat} {A : Nat} {its vv fi se : Int} {tl : List (Nat × Int)} (hP : cr_P o p M fs t E op A) (hA : A < (cr_L o M).length) (hm : cr_mayc (cr_L o M) E op A) (had : cr_adp M p (p + 1 + 1 + 3 * (cr_zr fs + pz_sz t)) (cr_zr fs + pz_sz t) v w fs.length sd) (hw : ∀ g fs', fs = g :: fs' → w = p + 1 + 1 + 3 * (cr_zr fs' + pz_sz g.1) ∧ sd = (if g.2.2.1 then 1 else 0)) (hAF : cr_AF M M10 p (p + 1 + 1 + 3 * (cr_zr fs + pz_sz t)) (cr_zr fs + pz_sz t) v w fs.length sd) (hits : pz_srt (pz_at (cr_L o M) A) = its) (h6 : 6 ≤ its)
    (hX : cr_X o p (p + 1 + 1 + 3 * (cr_zr fs + pz_sz t)) M10 N (M10 p 11).toNat (pz_t2 (cr_L o M) its (pz_v00 (cr_L o M) its A) ((A : Int) + 1)).2.1 (pz_t2 (cr_L o M) its (pz_v00 (cr_L o M) its A) ((A : Int) + 1)).2.2 vv fi se tl) (hvv : vv = if its = 0 ∨ its = 1 ∨ its = 5 then (pz_n2 (cr_L o M) its (pz_v00 (cr_L o M) its A) ((A : Int) + 1)).1 else -1) (hfi : fi = if pz_nt1 its = 1 then ((cr_zt fs + pz_nt t : Nat) : Int) else -1) (hse : se = if pz_nt2 its = 1 then ((cr_zt fs + pz_nt t : Nat) : Int) + 1 else -1)
    (htl : tl = (if pz_nt1 its = 1 then [((pz_n1 (cr_L o M) its (pz_v00 (cr_L o M) its A) ((A : Int) + 1)).2.1.toNat, (pz_t1 (cr_L o M) its (pz_v00 (cr_L o M) its A) ((A : Int) + 1)).1)] else []) ++ (if pz_nt2 its = 1 then [((pz_n2 (cr_L o M) its (pz_v00 (cr_L o M) its A) ((A : Int) + 1)).2.1.toNat, (pz_t2 (cr_L o M) its (pz_v00 (cr_L o M) its A) ((A : Int) + 1)).1)] else []))
    (hO : cr_OB N M' ((cr_zr fs + pz_sz t : Nat) : Int)) : cr_TR o p M M' E op A := by
  obtain ⟨k, -, -, -, -, h3, -, -⟩ := hP.sgn hA
  obtain ⟨hok, hst, hZ, hR, hb⟩ := hP
  obtain ⟨hb1, -, -⟩ := hb hA
  obtain ⟨c1, c2, c3, c4, c5, c6, c7, c8⟩ := hZ.cn
  have hfar := hX.far hAF hb1 rfl
  have hset : cr_set o p (p + 1 + 1 + 3 * (cr_zr fs + pz_sz t)) M10 := ⟨cr_ok_fr hok ⟨hAF.2.2.2.1.1 0, hAF.2.2.2.1.1 1⟩ (hAF.2.2.2.2.1 _ _ (by rcases hok.2.2.1 with ⟨q, q'⟩ | ⟨q, q'⟩ <;> omega) (by rcases hok.2.2.1 with ⟨q, q'⟩ | ⟨q, q'⟩ <;> omega)) (fun j => hAF.2.2.2.2.1 _ _ (by rcases hok.2.2.1 with ⟨q, q'⟩ | ⟨q, q'⟩ <;> omega) (by rcases hok.2.2.1 with ⟨q, q'⟩ | ⟨q, q'⟩ <;> omega)), _, hb1, rfl⟩
  have hturn := cr_turn_st hm hits
  have hits0 : its ≠ -9 := by
    rw [← hits]
    have := hm.1.1
    rwa [Int.toNat_natCast] at this
  obtain ⟨hokN, hLN, hN2, hN1⟩ := hX.nb hset
  have hL10 : cr_L o M10 = cr_L o M := by
    have e1 : M10 o 1 = M o 1 := hAF.2.2.2.2.1 _ _ (by rcases hok.2.2.1 with ⟨q, q'⟩ | ⟨q, q'⟩ <;> omega) (by rcases hok.2.2.1 with ⟨q, q'⟩ | ⟨q, q'⟩ <;> omega)
    show (pz_ls (M10 (o + 1)) (M10 o 1)).filter _ = _
    rw [e1, pz_ls_congr (g := M (o + 1)) fun j _ => hAF.2.2.2.2.1 _ _ (by rcases hok.2.2.1 with ⟨q, q'⟩ | ⟨q, q'⟩ <;> omega) (by rcases hok.2.2.1 with ⟨q, q'⟩ | ⟨q, q'⟩ <;> omega)]
  rw [hL10] at hLN
  obtain ⟨o1, o2⟩ := hO o p _ _ hokN hX.1
  rw [hLN] at o1 o2
  have hpp := cr_bd0 hok.2.2.1
  have hfr : ∀ M'' : ab_M, cr_fr N M'' → cr_ok o p M'' ∧ ∀ o' k' : Nat, ¬ (764 ≤ o' ∧ o' ≤ 767) → ¬ ((p ≤ o' ∧ o' ≤ p + 368) ∧ ¬ (o' = p ∧ k' = 0) ∧ ¬ o' = p + 362) → M'' o' k' = M o' k' := fun M'' hf => ⟨hf.ok hokN, fun o' k' g1 g2 => by rw [hf o' k' (by omega), hfar o' k' g1 g2]⟩
  have hres := fun r => pz_Z_st (r := r) hZ hA hm.2
  unfold cr_TR
  rw [hturn] at hres ⊢
  unfold pz_stm at hres ⊢
  rw [Int.toNat_natCast] at hres ⊢
  by_cases q : (pz_t2 (cr_L o M) its (pz_v00 (cr_L o M) its A) ((A : Int) + 1)).2.2 = -9
  · rw [if_pos q] at hres ⊢
    rw [if_pos (show its = 6 ∨ its = 7 ∨ its = 8 by have := (pz_srt_let hits hits0).2.2.2.2.2.2.2.2.2.2.2.1; omega)] at hres ⊢
    unfold pz_pop at hres ⊢
    rw [q] at hX o1 o2
    unfold pz_ps at o1 o2
    rw [if_pos rfl] at o1 o2
    have ha0 : 0 ≤ (pz_t2 (cr_L o M) its (pz_v00 (cr_L o M) its A) ((A : Int) + 1)).2.1 := by
      rcases hX.1 with ⟨-, -, k', -, z⟩ | ⟨z, -⟩
      · omega
      · exact absurd rfl z
    by_cases q40 : pz_at (cr_L o M) (pz_t2 (cr_L o M) its (pz_v00 (cr_L o M) its A) ((A : Int) + 1)).2.1.toNat = 40
    · rw [if_pos q40] at hres o1 o2 ⊢
      obtain ⟨N', n1, n2, n3⟩ := o2 rfl
      obtain ⟨P, hwP, hPc⟩ := hres _ rfl
      rcases hPc with ⟨p6, pr, pZ⟩ | ⟨p6, pr, pZ⟩
      · exfalso
        have e1 := congrArg (fun x => x.1.length) pr
        simp only [List.length_append, List.length_singleton] at e1
        omega
      · have e1 := congrArg Prod.fst pr
        have e3 := congrArg (fun x => x.2.2) pr
        dsimp only at e1 e3
        have e1' : E ++ [_] = E ++ [pz_evP P A (pz_kds E).length] := (List.append_inj e1 (by simp)).1
        obtain ⟨f1, f2, f3⟩ := cr_tl_eq (cr_ev_eq e1')
        have hco := cr_core (P := P) hR c7 c1 hok had hAF rfl hw hX (by rw [h3, hits, f1]) (by rw [f1]; exact hits0) (by rw [hvv, f1, f2]) (by rw [hfi, f1]) (by rw [hse, f1]) (by rw [htl, f3, c4])
        have hs0 := hco.2.1.1.1
        have g8 : N 764 8 = (fs.length : Int) := hco.2.2.2.2.2.1.1
        have g9 : N 764 9 = (pz_zl fs : Int) := hco.2.2.2.2.2.1.2.1
        rw [Int.toNat_natCast, hs0, g8, g9, Int.toNat_natCast, show ((fs.length : Int) + 1).toNat = fs.length + 1 by omega] at n3
        have h7 := cr_lt_7 hwP.1.1 hwP.1.2
        have n3' : M' = if P.1 = 7 then ab_up (ab_up (ab_up (ab_up (ab_up N' 765 fs.length ((cr_zr fs + pz_sz t : Nat) : Int)) 766 fs.length 0) 764 8 ((fs.length : Int) + 1)) 767 (fs.length + 1) (-1)) 764 9 ((pz_zl fs : Int) + 1) else ab_up (ab_up (ab_up (ab_up N' 765 fs.length ((cr_zr fs + pz_sz t : Nat) : Int)) 766 fs.length 0) 764 8 ((fs.length : Int) + 1)) 767 (fs.length + 1) (-1) := by
          rw [n3]
          by_cases z7 : P.1 = 7
          · rw [if_pos (h7.2 z7), if_pos z7]
          · rw [if_neg (fun y => z7 (h7.1 y)), if_neg z7]
        have hkp : cr_kp o p N' M' := by
          have hq : ∀ o' k', ¬ (765 ≤ o' ∧ o' ≤ 767) → ¬ (o' = 764 ∧ 5 ≤ k') → M' o' k' = N' o' k' := fun o' k' y1 y2 => by
            rw [n3']
            split
            · rw [up_ne (by omega), up_ne (by omega), up_ne (by omega), up_ne (by omega), up_ne (by omega)]
            · rw [up_ne (by omega), up_ne (by omega), up_ne (by omega), up_ne (by omega)]
          have hoo : o < 25 := by rcases hok.2.2.1 with ⟨q, -⟩ | ⟨q, -⟩ <;> omega
          exact ⟨hq _ _ (by omega) (by omega), hq _ _ (by omega) (by omega), hq _ _ (by omega) (by omega), hq _ _ (by omega) (by omega), hq _ _ (by omega) (by omega), hq _ _ (by omega) (by omega), fun j => hq _ _ (by omega) (by omega)⟩
        have hR' := cr_fin2 hco hok.2.2.1 hb1 n1 n3' A (pz_kds E).length (pz_w1 P.1) E.length
        refine ⟨hkp.ok (n1.ok hokN), fun o' k' y1 y2 => ?_, (t, P, false, .leaf) :: fs, .leaf, A + (pz_hd P).length + 1, e3, pZ, ?_, ?_⟩
        · rw [n3']
          split
          · rw [up_ne (by omega), up_ne (by omega), up_ne (by omega), up_ne (by omega), up_ne (by omega), n1 _ _ (by omega), hfar _ _ y1 y2]
          · rw [up_ne (by omega), up_ne (by omega), up_ne (by omega), up_ne (by omega), n1 _ _ (by omega), hfar _ _ y1 y2]
        · show cr_R (M (o + 1)) M' p _ _ _
          rw [e1]
          exact hR'
        · rw [← e3]
          exact hkp.st n2
    · rw [if_neg q40] at hres o1 o2 ⊢
      obtain ⟨u1, u2⟩ := o1 (by show ¬ (pz_t2 (cr_L o M) its (pz_v00 (cr_L o M) its A) ((A : Int) + 1)).2.1 = -9; omega)
      obtain ⟨y1, y2⟩ := hfr M' u1
      exact ⟨y1, y2, by show ¬ (pz_t2 (cr_L o M) its (pz_v00 (cr_L o M) its A) ((A : Int) + 1)).2.1 = -9; omega, _, u2⟩
  · rw [if_neg q]
    unfold pz_ps at o1
    rw [if_neg q] at o1
    obtain ⟨u1, u2⟩ := o1 q
    obtain ⟨y1, y2⟩ := hfr M' u1
    exact ⟨y1, y2, q, _, u2⟩

