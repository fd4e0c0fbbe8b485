/-! the class: a turn that ends a block -/
/-- a turn that ends a block -/
theorem pz_Z_cl {ls : List Int} {f : pz_F} {fs : List pz_F} {t : pz_T} {E : List pz_Ev} {op : List Nat} {A : Nat} (hZ : pz_Z ls (f :: fs) t E op A) (hA : A < ls.length) (h41 : pz_at ls A = 41) : ∃ op' i, op.length = op'.length + 1 ∧
    pz_turn ls E op (A : Int) = (if f.2.2.1 = false ∧ f.2.1.1 ≠ 7 then (if pz_at ls (A + 1) = 40 then .inr (E ++ [pz_ec (pz_w1 f.2.1.1) i] ++ [pz_eo (pz_w2 f.2.1.1) i], (E.length + 1) :: op', ((A + 2 : Nat) : Int)) else .inl ((A + 1 : Nat) : Int)) else .inr (E ++ [pz_ec (pz_fw f) i], op', ((A + 1 : Nat) : Int))) ∧ (f.2.2.1 = true → f.2.1.1 ≠ 7) ∧ 6 ≤ f.2.1.1 ∧ f.2.1.1 ≤ 8 := by
  obtain ⟨z1, z2, z3, z4, z5, z6, z7, z8, z9⟩ := hZ
  obtain ⟨p, P, sn, a⟩ := f
  obtain ⟨y1, ⟨y2, y3, y4, y5, y6, y7⟩, y8, y9, y10⟩ := z1
  dsimp only at y2 y3 y4 y5 y6 y7 y8 y9 y10 ⊢
  refine ⟨pz_zO fs, (pz_zE fs).length + pz_ne p, ?_, ?_, fun q z => ?_, y4, y3.1.2⟩
  · rw [z7]
    rfl
  · have hop : op = (pz_zE fs ++ pz_fX (p, P, sn, a) (pz_zpr fs).length (pz_zE fs).length (pz_zkn fs)).length :: pz_zO fs := z7
    have hEo : E.getD (pz_zE fs ++ pz_fX (p, P, sn, a) (pz_zpr fs).length (pz_zE fs).length (pz_zkn fs)).length pz_d0 = pz_eo (pz_fw (p, P, sn, a)) ((pz_zE fs).length + pz_ne p) := by
      rw [z6, pz_zE, List.append_assoc]
      exact pz_getD_mid
    have hd := pz_drop_at hA
    rw [h41] at hd
    rw [hop, pz_turn_end hd hEo]
    cases sn with
    | false =>
      have hfw : pz_fw (p, P, false, a) = pz_w1 P.1 := rfl
      rw [hfw]
      by_cases h7 : P.1 = 7
      · have hn : ¬ (pz_w1 P.1 = 0 ∨ pz_w1 P.1 = 3) := by
          show ¬ ((if P.1 = 6 then (0 : Int) else if P.1 = 7 then 2 else 3) = 0 ∨ (if P.1 = 6 then (0 : Int) else if P.1 = 7 then 2 else 3) = 3)
          rw [if_neg (by omega), if_pos h7]
          decide
        rw [if_neg hn, if_neg (fun q => q.2 h7)]
      · have hw : pz_w1 P.1 = 0 ∨ pz_w1 P.1 = 3 := by
          show (if P.1 = 6 then (0 : Int) else if P.1 = 7 then 2 else 3) = 0 ∨ (if P.1 = 6 then (0 : Int) else if P.1 = 7 then 2 else 3) = 3
          by_cases h66 : P.1 = 6
          · rw [if_pos h66]; exact Or.inl rfl
          · rw [if_neg h66, if_neg h7]; exact Or.inr rfl
        have hw2 : (if pz_w1 P.1 = 0 then (1 : Int) else 4) = pz_w2 P.1 := by
          show (if (if P.1 = 6 then (0 : Int) else if P.1 = 7 then 2 else 3) = 0 then (1 : Int) else 4) = if P.1 = 6 then 1 else 4
          by_cases h66 : P.1 = 6
          · rw [if_pos h66, if_pos h66]; rfl
          · rw [if_neg h66, if_neg h66, if_neg h7]; rfl
        rw [if_pos hw, hw2, if_pos ⟨rfl, h7⟩]
        unfold pz_pop
        rw [Int.toNat_natCast, List.length_append]
        rfl
    | true =>
      have hfw : pz_fw (p, P, true, a) = pz_w2 P.1 := rfl
      have hn : ¬ (pz_w2 P.1 = 0 ∨ pz_w2 P.1 = 3) := by
        show ¬ ((if P.1 = 6 then (1 : Int) else 4) = 0 ∨ (if P.1 = 6 then (1 : Int) else 4) = 3)
        by_cases h66 : P.1 = 6
        · rw [if_pos h66]; decide
        · rw [if_neg h66]; decide
      rw [hfw, if_neg hn, if_neg (fun q => Bool.noConfusion q.1)]
  · have := y5 z
    rw [q] at this
    cases this
theorem pz_Z_ln {ls : List Int} {fs : List pz_F} {t : pz_T} {E : List pz_Ev} {op : List Nat} {A : Nat} (hZ : pz_Z ls fs t E op A) : E.length = (pz_zE fs).length + pz_ne t := by
  obtain ⟨z1, z2, z3, z4, z5, z6, z7, z8, z9⟩ := hZ
  rw [z6, List.length_append, pz_fl_len]
theorem cr_lt_68 {s : Int} (h0 : 6 ≤ s) (h8 : s ≤ 8) : (cr_lt s = 105 ∨ cr_lt s = 121) ↔ s ≠ 7 := by
  have hc : s = 6 ∨ s = 7 ∨ s = 8 := by omega
  rcases hc with rfl | rfl | rfl <;> decide
theorem cr_close {o p : Nat} {M M' : ab_M} {fs : List pz_F} {t : pz_T} {E : List pz_Ev} {op : List Nat} {A : Nat} (hP : cr_P o p M fs t E op A) (hA : A < (cr_L o M).length) (h41 : pz_at (cr_L o M) A = 41) (hne : fs ≠ []) (hb2 : cr_zr fs + pz_sz t ≤ 120) (hO : cr_CB M M') : cr_TR o p M M' E op A := by
  obtain ⟨hok, hst, hZ, hR, -⟩ := hP
  cases fs with
  | nil => exact absurd rfl hne
  | cons f fs =>
    obtain ⟨op', i, hol, hturn, h7t, h6, h8⟩ := pz_Z_cl hZ hA h41
    obtain ⟨c1, c2, c3, c4, c5, c6, c7, c8⟩ := hZ.cn
    have hstep := fun r => pz_Z_step (r := r) hZ hA
    have hln := pz_Z_ln hZ
    have hpp := cr_bd0 hok.2.2.1
    have hoo : o < 25 := by rcases hok.2.2.1 with ⟨q, -⟩ | ⟨q, -⟩ <;> omega
    obtain ⟨p0, P, sn, a⟩ := f
    dsimp only at h7t h6 h8 hturn
    have hR2 := hR
    obtain ⟨⟨r3, r6, r8, r11⟩, rk, ⟨rd, rl, rt⟩, rm, rT, ⟨z1, z2, z3⟩, zT, zS, -⟩ := hR2
    dsimp only at z1 z2 z3 zS
    have hd1 : (M 764 8 - 1).toNat = fs.length := by rw [rd, List.length_cons]; omega
    have hd2 : (M 764 8).toNat = fs.length + 1 := by rw [rd, List.length_cons]; omega
    have hs0 := zS.1.1
    obtain ⟨o1, o2⟩ := hO o p A hok hst
    rw [hd1, z1, Int.toNat_natCast, hs0, z2, cr_lt_68 h6 h8] at o1 o2
    rw [hd2] at o1
    have hz1 := hZ.1
    obtain ⟨y1, ⟨y2, y3, y4, y5, y6, y7⟩, y8⟩ := hz1
    dsimp only at y2 y3 y4 y5 y6 y7
    by_cases hc : sn = false ∧ P.1 ≠ 7
    · obtain ⟨hsn, hp7⟩ := hc
      subst hsn
      have ha : a = .leaf := y7 rfl
      subst ha
      rw [if_pos ⟨rfl, hp7⟩] at hturn
      obtain ⟨N, n1, n2, n3⟩ := o1 ⟨hp7, rfl⟩
      have hps : pz_ps (cr_L o M) 40 ((A : Int) + 1) (-9) = if pz_at (cr_L o M) (A + 1) = 40 then (((A + 2 : Nat) : Int), -9) else (((A + 1 : Nat) : Int), ((A + 1 : Nat) : Int)) := by
        unfold pz_ps
        rw [if_pos rfl, show ((A : Int) + 1).toNat = A + 1 by omega]
        rfl
      rw [hps] at n2
      have hk : ∀ o' k', ¬ (766 ≤ o' ∧ o' ≤ 767) → M' o' k' = N o' k' := fun o' k' g => by
        rw [n3, up_ne (by omega), up_ne (by omega)]
      have hkp : cr_kp o p N M' := ⟨hk _ _ (by omega), hk _ _ (by omega), hk _ _ (by omega), hk _ _ (by omega), hk _ _ (by omega), hk _ _ (by omega), fun j => hk _ _ (by omega)⟩
      refine ⟨hkp.ok (n1.ok hok), fun o' k' g1 g2 => by rw [hk _ _ (by omega), n1 _ _ (by omega)], ?_⟩
      rw [hturn]
      rw [hturn] at hstep
      by_cases q40 : pz_at (cr_L o M) (A + 1) = 40
      · rw [if_pos q40] at hstep n2 ⊢
        obtain ⟨fs', t', A', e1, e2, e3⟩ := hstep _ rfl
        have hn3 := e2.cn
        have hl3 := pz_Z_ln e2
        have hop3 := hn3.2.2.2.2.2.2.2
        simp only [List.length_append, List.length_singleton, List.length_cons] at hl3 hop3
        rw [List.length_cons] at c8
        rcases e3 with ⟨P', w1, w2, w3, w4⟩ | ⟨P', w1, w2, w3, w4⟩ | ⟨p', P', fs0, w1, w2, w3, w4⟩ | ⟨p', P', fs0, w1, w2, w3, w4⟩ | ⟨p', P', a', fs0, w1, w2, w3, w4⟩
        · exfalso
          rw [w3, w4, pz_ne_nd, if_neg (by omega)] at hl3
          omega
        · exfalso
          rw [w3, List.length_cons, List.length_cons] at hop3
          omega
        · cases w1
          refine ⟨_, _, _, e1, by rw [w3, w4] at e2; exact e2, ?_, ?_⟩
          · exact cr_cl1 hR hok.2.2.1 hb2 n1 n3 _ _ _ _
          · rw [← e1]
            exact hkp.st n2
        · cases w1
          exact absurd w2 hp7
        · cases w1
      · rw [if_neg q40] at n2 ⊢
        exact ⟨by show ¬ ((A + 1 : Nat) : Int) = -9; omega, _, hkp.st n2⟩
    · rw [if_neg hc] at hturn
      have hc2 : ¬ (P.1 ≠ 7 ∧ (if sn = true then (1 : Int) else 0) = 0) := fun q => hc (by
        cases sn with
        | false => exact ⟨rfl, q.1⟩
        | true => exact absurd q.2 (by decide))
      obtain ⟨N, n1, n2, n3⟩ := o2 hc2
      have h7 := cr_lt_7 y3.1.1 y3.1.2
      have n3' : M' = if P.1 = 7 then ab_up (ab_up (ab_up N 764 8 (fs.length : Int)) (p + 1 + 1 + 3 * (cr_zr fs + pz_sz p0)) 14 (M p 3 - 1)) 764 9 (M 764 9 - 1) else ab_up (ab_up N 764 8 (fs.length : Int)) (p + 1 + 1 + 3 * (cr_zr fs + pz_sz p0)) 14 (M p 3 - 1) := by
        rw [n3, show M 764 8 - 1 = (fs.length : Int) by rw [rd, List.length_cons]; omega]
        by_cases z7 : P.1 = 7
        · rw [if_pos (h7.2 z7), if_pos z7]
        · rw [if_neg (fun y => z7 (h7.1 y)), if_neg z7]
      have hrow : cr_zr fs + pz_sz p0 < 120 := by
        have : cr_zr ((p0, P, sn, a) :: fs) = cr_zr fs + pz_sz p0 + 1 + (if sn then pz_sz a else 0) := rfl
        omega
      have hk : ∀ o' k', ¬ (o' = 764 ∧ 5 ≤ k') → ¬ ((p ≤ o' ∧ o' ≤ p + 368) ∧ ¬ (o' = p ∧ k' = 0) ∧ ¬ o' = p + 362) → M' o' k' = N o' k' := fun o' k' g g2 => by
        rw [n3']
        split
        · rw [up_ne (by omega), up_ne (by omega), up_ne (by omega)]
        · rw [up_ne (by omega), up_ne (by omega)]
      have hkp : cr_kp o p N M' := ⟨hk _ _ (by omega) (by omega), hk _ _ (by omega) (by omega), hk _ _ (by omega) (by omega), hk _ _ (by omega) (by omega), hk _ _ (by omega) (by omega), hk _ _ (by omega) (by omega), fun j => hk _ _ (by omega) (by omega)⟩
      refine ⟨hkp.ok (n1.ok hok), fun o' k' g1 g2 => by rw [hk _ _ (by omega) g2, n1 _ _ (by omega)], ?_⟩
      rw [hturn]
      rw [hturn] at hstep
      obtain ⟨fs', t', A', e1, e2, e3⟩ := hstep _ rfl
      have hn3 := e2.cn
      have hop3 := hn3.2.2.2.2.2.2.2
      dsimp only at hop3
      rw [List.length_cons] at c8
      have hfin : ∀ (a' b' : pz_T), (sn = false → t = a' ∧ b' = .leaf) → (sn = true → t = b' ∧ P.1 ≠ 7 ∧ a = a') → cr_R (M (o + 1)) M' p fs (pz_nd P p0 a' b') (E ++ [pz_ec (pz_fw (p0, P, sn, a)) i]) := fun a' b' g1 g2 => by
        have ha : a = if sn then a' else .leaf := by
          cases sn with
          | false => exact y7 rfl
          | true => exact (g2 rfl).2.2
        rw [ha] at hR hb2
        exact cr_cl2 hR hok.2.2.1 hb2 n1 h6 g1 (fun q => ⟨(g2 q).1, (g2 q).2.1⟩) n3' _ _
      rcases e3 with ⟨P', w1, w2, w3, w4⟩ | ⟨P', w1, w2, w3, w4⟩ | ⟨p', P', fs0, w1, w2, w3, w4⟩ | ⟨p', P', fs0, w1, w2, w3, w4⟩ | ⟨p', P', a', fs0, w1, w2, w3, w4⟩
      · exfalso
        rw [w3, List.length_cons] at hop3
        omega
      · exfalso
        rw [w3, List.length_cons, List.length_cons] at hop3
        omega
      · exfalso
        cases w1
        rw [w3, List.length_cons] at hop3
        omega
      · cases w1
        refine ⟨_, _, _, e1, by rw [w3, w4] at e2; exact e2, ?_, ?_⟩
        · exact hfin t .leaf (fun _ => ⟨rfl, rfl⟩) (fun q => by cases q)
        · rw [← e1]
          exact hkp.st n2
      · cases w1
        refine ⟨_, _, _, e1, by rw [w3, w4] at e2; exact e2, ?_, ?_⟩
        · exact hfin a t (fun q => by cases q) (fun _ => ⟨rfl, w2, rfl⟩)
        · rw [← e1]
          exact hkp.st n2

