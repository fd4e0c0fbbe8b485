/-! the class reads a statement -/
def S_X2_readStatement : ab_PT := fun a M K => match a with
  | [.inr (.inr (.inr (764, 2, 0)))] => (∃ o : Nat, ∃ p : Nat, ∃ fs : List pz_F, ∃ t : pz_T, ∃ E : List pz_Ev, ∃ op : List Nat, ∃ A : Nat, (cr_P o p M fs t E op A ∧ A < (cr_L o M).length ∧ cr_mayc (cr_L o M) E op A) ∧ (∀ Mx : ab_M, (cr_TR o p M Mx E op A) → K [] Mx))
  | _ => False
set_option maxRecDepth 20000 in
theorem vc_X2_readStatement_0  (M : ab_M) (K : List ab_V → ab_M → Prop) (hS : (∃ o : Nat, ∃ p : Nat, ∃ fs : List pz_F, ∃ t : pz_T, ∃ E : List pz_Ev, ∃ op : List Nat, ∃ A : Nat, (cr_P o p M fs t E op A ∧ A < (cr_L o M).length ∧ cr_mayc (cr_L o M) E op A) ∧ (∀ Mx : ab_M, (cr_TR o p M Mx E op A) → K [] Mx))) : (0 ≤ (M 764 1) ∧ ab_wf (Xr ((M 764 1).toNat) 1 0)) ∧ ((∃ p s R v w d sd, cr_adp M p s R v w d sd) ∧ ∀ p : Nat, M 764 1 = (p : Int) → (M ((M 764 1).toNat) 3) = M p 3) ∧ (∀ o10 : Nat, ∀ M10 : ab_M, (True) → (∀ p s R v w d sd, cr_adp M p s R v w d sd → o10 = s ∧ cr_AD M M10 p s R v w d sd) → ((∃ o p, cr_ok o p M10) ∧ 0 ≤ ((M10 764 2) + (1 : Int)) ∧ ((M10 764 2) + (1 : Int)) ≤ M10 (M10 764 0).toNat 1) ∧ (∀ M21 : ab_M, (∃ j : Nat, cr_to M10 ((M10 764 2) + (1 : Int)) j ∧ M21 = ab_up (ab_up M10 764 2 (j : Int)) 764 3 (cr_sg M10 j)) → (ab_ir (M21 o10 0)) ∧ (((M21 o10 0) = 104 → (cr_rd M21) ∧ (∀ r118 : Int, ∀ M118 : ab_M, (cr_fr M21 M118) → (∀ o p a f, cr_ok o p M21 → cr_st o M21 a f → cr_st o M118 (pz_nm (cr_L o M21) a f).2.1 (pz_nm (cr_L o M21) a f).2.2 ∧ r118 = if (pz_nm (cr_L o M21) a f).2.2 = -9 then (pz_nm (cr_L o M21) a f).1 else -1) → K [] (ab_up M118 o10 1 r118))) ∧ (¬ (M21 o10 0) = 104 → (((M21 o10 0) = 105 → (cr_rd M21 ∧ ∀ p : Nat, M21 764 1 = (p : Int) → 0 ≤ M21 p 11 ∧ M21 p 11 < 64) ∧ (∀ r156 : Int, ∀ M156 : ab_M, (cr_TM M21 M156 r156) → (∃ o p a f, cr_ok o p (ab_up M156 o10 2 r156) ∧ cr_st o (ab_up M156 o10 2 r156) a f ∧ (0 ≤ (ab_up M156 o10 2 r156) 764 8 ∧ (ab_up M156 o10 2 r156) 764 8 < 120) ∧ (0 ≤ (M ((M 764 1).toNat) 3) ∧ (M ((M 764 1).toNat) 3) < (ab_up M156 o10 2 r156) p 3 ∧ (ab_up M156 o10 2 r156) p 3 ≤ 120) ∧ ab_ir ((ab_up M156 o10 2 r156) (p + 1 + 1 + 3 * (M ((M 764 1).toNat) 3).toNat) 0)) ∧ (∀ M164 : ab_M, (cr_OB (ab_up M156 o10 2 r156) M164 (M ((M 764 1).toNat) 3)) → K [] M164))) ∧ (¬ (M21 o10 0) = 105 → (((M21 o10 0) = 112 → (cr_rd M21 ∧ ∀ p : Nat, M21 764 1 = (p : Int) → 0 ≤ M21 p 11 ∧ M21 p 11 < 64) ∧ (∀ r129 : Int, ∀ M129 : ab_M, (cr_TM M21 M129 r129) → (cr_rd (ab_up M129 o10 2 r129)) ∧ (∀ r137 : Int, ∀ M137 : ab_M, (cr_fr (ab_up M129 o10 2 r129) M137) → (∀ o p a f, cr_ok o p (ab_up M129 o10 2 r129) → cr_st o (ab_up M129 o10 2 r129) a f → cr_st o M137 (pz_nm (cr_L o (ab_up M129 o10 2 r129)) a f).2.1 (pz_nm (cr_L o (ab_up M129 o10 2 r129)) a f).2.2 ∧ r137 = if (pz_nm (cr_L o (ab_up M129 o10 2 r129)) a f).2.2 = -9 then (pz_nm (cr_L o (ab_up M129 o10 2 r129)) a f).1 else -1) → (cr_rd (ab_up M137 o10 1 r137) ∧ ∀ p : Nat, (ab_up M137 o10 1 r137) 764 1 = (p : Int) → 0 ≤ (ab_up M137 o10 1 r137) p 11 ∧ (ab_up M137 o10 1 r137) p 11 < 64) ∧ (∀ r145 : Int, ∀ M145 : ab_M, (cr_TM (ab_up M137 o10 1 r137) M145 r145) → K [] (ab_up M145 o10 3 r145))))) ∧ (¬ (M21 o10 0) = 112 → (((M21 o10 0) = 116 → K [] M21) ∧ (¬ (M21 o10 0) = 116 → (((M21 o10 0) = 119 → (cr_rd M21 ∧ ∀ p : Nat, M21 764 1 = (p : Int) → 0 ≤ M21 p 11 ∧ M21 p 11 < 64) ∧ (∀ r172 : Int, ∀ M172 : ab_M, (cr_TM M21 M172 r172) → (cr_rd (ab_up M172 o10 2 r172) ∧ ∀ p : Nat, (ab_up M172 o10 2 r172) 764 1 = (p : Int) → 0 ≤ (ab_up M172 o10 2 r172) p 11 ∧ (ab_up M172 o10 2 r172) p 11 < 64) ∧ (∀ r180 : Int, ∀ M180 : ab_M, (cr_TM (ab_up M172 o10 2 r172) M180 r180) → (∃ o p a f, cr_ok o p (ab_up M180 o10 3 r180) ∧ cr_st o (ab_up M180 o10 3 r180) a f ∧ (0 ≤ (ab_up M180 o10 3 r180) 764 8 ∧ (ab_up M180 o10 3 r180) 764 8 < 120) ∧ (0 ≤ (M ((M 764 1).toNat) 3) ∧ (M ((M 764 1).toNat) 3) < (ab_up M180 o10 3 r180) p 3 ∧ (ab_up M180 o10 3 r180) p 3 ≤ 120) ∧ ab_ir ((ab_up M180 o10 3 r180) (p + 1 + 1 + 3 * (M ((M 764 1).toNat) 3).toNat) 0)) ∧ (∀ M188 : ab_M, (cr_OB (ab_up M180 o10 3 r180) M188 (M ((M 764 1).toNat) 3)) → K [] M188)))) ∧ (¬ (M21 o10 0) = 119 → (((M21 o10 0) = 121 → (∃ o p a f, cr_ok o p M21 ∧ cr_st o M21 a f ∧ (0 ≤ M21 764 8 ∧ M21 764 8 < 120) ∧ (0 ≤ (M ((M 764 1).toNat) 3) ∧ (M ((M 764 1).toNat) 3) < M21 p 3 ∧ M21 p 3 ≤ 120) ∧ ab_ir (M21 (p + 1 + 1 + 3 * (M ((M 764 1).toNat) 3).toNat) 0)) ∧ (∀ M196 : ab_M, (cr_OB M21 M196 (M ((M 764 1).toNat) 3)) → K [] M196)) ∧ (¬ (M21 o10 0) = 121 → (cr_rd M21 ∧ ∀ p : Nat, M21 764 1 = (p : Int) → 0 ≤ M21 p 11 ∧ M21 p 11 < 64) ∧ (∀ r207 : Int, ∀ M207 : ab_M, (cr_TM M21 M207 r207) → K [] (ab_up M207 o10 2 r207)))))))))))))))) := by
  obtain ⟨o, p, fs, t, E, op, A, ⟨hP, hA, hmay⟩, gK⟩ := hS
  obtain ⟨v, w, sd, had, hw⟩ := hP.adp hA hmay
  obtain ⟨k, hk, hklt, hkA, he4, hs3, hs30, hs31⟩ := hP.sgn hA
  have hok : cr_ok o p M := hP.1
  have hb : cr_wr _ := hP.2.2.2.2 hA
  have hR : cr_R (M (o + 1)) M p fs t E := hP.2.2.2.1
  have q2 := hok.2.1
  have q3 := hok.2.2.1
  have hwp := cr_wp q3
  have r3 : M p 3 = ((cr_zr fs + pz_sz t : Nat) : Int) := hR.1.1
  have r11 : M p 11 = ((cr_zt fs + pz_nt t : Nat) : Int) := hR.1.2.2.2
  have hits0 : pz_srt (pz_at (cr_L o M) A) ≠ -9 := by
    have := hmay.1.1
    rwa [Int.toNat_natCast] at this
  have hsl : cr_wr _ := pz_srt_let (L := pz_at (cr_L o M) A) rfl hits0
  simp only [q2, Int.toNat_natCast, r3]
  refine And.intro (by
    first
      | exact hwp
      | exact trivial
      | exact ⟨trivial, trivial⟩
      | omega
      | exact ⟨by omega, by omega⟩) ?_
  refine And.intro (by
    exact ⟨⟨_, _, _, _, _, _, _, had⟩, fun p' hp' => by rw [show p' = p by omega]; exact r3.symm⟩) ?_
  intro o10 M10 hM10 hr10
  obtain ⟨e10, hAD⟩ := hr10 _ _ _ _ _ _ _ had
  subst e10
  have hAF := hAD.f had
  clear hr10
  have hoo : o < 25 ∧ o + 1 < 25 ∧ 26 ≤ p := by rcases q3 with ⟨z, z'⟩ | ⟨z, z'⟩ <;> omega
  have f764 : ∀ k, M10 764 k = M 764 k := hAF.2.2.2.1.1
  have f11 : M10 p 11 = M p 11 := hAF.2.1.2.2
  have fo1 : M10 o 1 = M o 1 := hAF.2.2.2.2.1 _ _ (by omega) (by omega)
  have fo2 : ∀ j, M10 (o + 1) j = M (o + 1) j := fun j => hAF.2.2.2.2.1 _ _ (by omega) (by omega)
  have hok10 : cr_ok o p M10 := cr_ok_fr hok ⟨f764 0, f764 1⟩ fo1 fo2
  have hat10 : cr_at o M10 k := by
    obtain ⟨a1, a2, a3, a4⟩ := hk
    exact ⟨by rw [f764]; exact a1, by rw [fo1]; exact a2, fun z => by rw [fo2]; rw [fo1] at z; exact a3 z, by rw [f764, fo1, fo2]; exact a4⟩
  have hset : cr_set o p (p + 1 + 1 + 3 * (cr_zr fs + pz_sz t)) M10 := ⟨hok10, _, hb.1, rfl⟩
  have hL10 : cr_L o M10 = cr_L o M := by
    show (pz_ls (M10 (o + 1)) (M10 o 1)).filter _ = _
    rw [fo1, pz_ls_congr (g := M (o + 1)) fun j _ => fo2 j]
  have hc10 : cr_c o M10 k = cr_c o M k := by
    show (pz_pos (M10 (o + 1)) k).length = _
    rw [pz_pos_f (g := M (o + 1)) fun j _ => fo2 j]
  refine And.intro (by
    refine ⟨⟨o, p, hok10⟩, by have := hat10.1; omega, ?_⟩
    rw [hok10.1, Int.toNat_natCast, hat10.1, fo1]
    omega) ?_
  intro M21 hM21
  obtain ⟨j, hj, hM21⟩ := hM21
  have htk := cr_tk (M' := M21) (a := (A : Int)) hok10 (by rw [f764]; exact he4) hat10 (by rw [hc10]; exact hkA) (by rw [fo1]; exact hklt) (by rw [← hat10.1]; exact hj) hM21
  have hX0 := cr_X.base hset htk.2 htk.1 (by rw [f11, r11]; omega)
  have fS : ∀ k, M21 (p + 1 + 1 + 3 * (cr_zr fs + pz_sz t)) k = M10 (p + 1 + 1 + 3 * (cr_zr fs + pz_sz t)) k := fun k => htk.2 _ _ (by have := hb.1; have := cr_bd0 q3; omega)
  obtain ⟨⟨S0, S1, S2, S3, -⟩, -, -⟩ := hAF.2.2.2.2.2.1
  rw [S1, S2, S3, hs3] at hX0
  have eT : ((M10 p 11).toNat : Int) = ((cr_zt fs + pz_nt t : Nat) : Int) := by rw [f11, r11]; rfl
  have eT2 : (M10 p 11).toNat = cr_zt fs + pz_nt t := by omega
  have hLet : M21 (p + 1 + 1 + 3 * (cr_zr fs + pz_sz t)) 0 = cr_lt (pz_srt (pz_at (cr_L o M) A)) := by
    rw [fS, S0, hs3]
    exact hsl.2.2.2.2.2.2.2.2.2.1
  simp only [hLet]
  generalize hits : pz_srt (pz_at (cr_L o M) A) = its at hLet hsl hits0
  have hv0 : (if 97 ≤ pz_at (cr_L o M) A ∧ pz_at (cr_L o M) A ≤ 100 then pz_at (cr_L o M) A - 97 else -1) = if its = 0 then pz_v00 (cr_L o M) its A else -1 := by
    unfold pz_v00
    by_cases z : its = 0
    · rw [if_pos z, if_pos z, if_pos (hsl.1.2 z)]
    · rw [if_neg z, if_neg (fun y => z (hsl.1.1 y))]
  rw [hv0] at hX0
  clear S0 S1 S2 S3 hv0
  have hr8 : 0 ≤ its ∧ its ≤ 8 := ⟨hsl.2.2.2.2.2.2.2.2.2.2.1, hsl.2.2.2.2.2.2.2.2.2.2.2.1⟩
  refine And.intro (by
    have hc : its = 0 ∨ its = 1 ∨ its = 2 ∨ its = 3 ∨ its = 4 ∨ its = 5 ∨ its = 6 ∨ its = 7 ∨ its = 8 := by omega
    rcases hc with rfl | rfl | rfl | rfl | rfl | rfl | rfl | rfl | rfl <;> decide) ?_
  refine ⟨?_, ?_⟩
  · intro c28_104
    refine And.intro (by
      exact ⟨o, p, (hX0.nb hset).1, _, _, hX0.1⟩) ?_
    intro r118 M118 hM118 hr118
    have hX1 := hX0.var hset hM118 hr118
    rw [hL10] at hX1
    have hi : its = 1 := by
      have hc : its = 0 ∨ its = 1 ∨ its = 2 ∨ its = 3 ∨ its = 4 ∨ its = 5 ∨ its = 6 ∨ its = 7 ∨ its = 8 := by omega
      rcases hc with rfl | rfl | rfl | rfl | rfl | rfl | rfl | rfl | rfl <;> first | rfl | (exfalso; revert c28_104; decide)
    subst hi
    exact gK _ (cr_stm1 hP hA hmay had hw hAF hits (by decide) hX1 rfl rfl rfl rfl)
  · intro c28_104
    refine ⟨?_, ?_⟩
    · intro c28_105
      refine And.intro (by
        refine ⟨⟨o, p, (hX0.nb hset).1, _, _, hX0.1⟩, fun p' hp' => ?_⟩
        have hz := (hX0.nb hset).1.2.1
        have e : p' = p := by omega
        subst e
        have hz2 := hX0.2.2.1
        rw [eT2] at hz2
        have hz3 := hb.2.1
        simp only [List.length_append, List.length_singleton, List.length_nil] at hz2
        exact ⟨hz2.1, by omega⟩) ?_
      intro r156 M156 hM156
      have hX1 := hX0.term hset hM156 (j := 2) (Or.inl ⟨rfl, rfl, rfl⟩)
      rw [hL10] at hX1
      refine And.intro (by
        have hy := (hX1.nb hset).1
        have hf := cr_X.fr hX1 (cr_opp q3) hb.1 rfl
        have g8 := (hf.2.2.2.2.2.2.2.1 8 (by decide)).trans (f764 8)
        have g3 := hf.2.2.1 3 (by decide)
        have g0 := (hf.2.2.2.2.2.1 0 (by decide) (by decide) (by decide)).trans ((fS 0).symm.trans hLet)
        refine ⟨o, p, _, _, hy, hX1.1, ?_, ?_, ?_⟩
        · rw [g8, hR.2.2.1.1]
          have := hb.2.2
          omega
        · have := hb.1
          rw [g3, hAF.2.1.1]
          omega
        · first
            | rw [g0]
            | rw [Int.toNat_natCast, g0]
          have hc : its = 0 ∨ its = 1 ∨ its = 2 ∨ its = 3 ∨ its = 4 ∨ its = 5 ∨ its = 6 ∨ its = 7 ∨ its = 8 := by omega
          rcases hc with rfl | rfl | rfl | rfl | rfl | rfl | rfl | rfl | rfl <;> decide) ?_
      intro M164 hM164
      have hi : its = 6 := by
        have hc : its = 0 ∨ its = 1 ∨ its = 2 ∨ its = 3 ∨ its = 4 ∨ its = 5 ∨ its = 6 ∨ its = 7 ∨ its = 8 := by omega
        rcases hc with rfl | rfl | rfl | rfl | rfl | rfl | rfl | rfl | rfl <;> first | rfl | (exfalso; revert c28_105; decide)
      subst hi
      exact gK _ (cr_stm2 hP hA hmay had hw hAF hits (by decide) hX1 rfl (by first | rfl | (rw [eT2]; rfl)) rfl rfl hM164)
    · intro c28_105
      refine ⟨?_, ?_⟩
      · intro c28_112
        refine And.intro (by
          refine ⟨⟨o, p, (hX0.nb hset).1, _, _, hX0.1⟩, fun p' hp' => ?_⟩
          have hz := (hX0.nb hset).1.2.1
          have e : p' = p := by omega
          subst e
          have hz2 := hX0.2.2.1
          rw [eT2] at hz2
          have hz3 := hb.2.1
          simp only [List.length_append, List.length_singleton, List.length_nil] at hz2
          exact ⟨hz2.1, by omega⟩) ?_
        intro r129 M129 hM129
        have hX1 := hX0.term hset hM129 (j := 2) (Or.inl ⟨rfl, rfl, rfl⟩)
        rw [hL10] at hX1
        refine And.intro (by
          exact ⟨o, p, (hX1.nb hset).1, _, _, hX1.1⟩) ?_
        intro r137 M137 hM137 hr137
        have hX2 := hX1.var hset hM137 hr137
        rw [hL10] at hX2
        refine And.intro (by
          refine ⟨⟨o, p, (hX2.nb hset).1, _, _, hX2.1⟩, fun p' hp' => ?_⟩
          have hz := (hX2.nb hset).1.2.1
          have e : p' = p := by omega
          subst e
          have hz2 := hX2.2.2.1
          rw [eT2] at hz2
          have hz3 := hb.2.1
          simp only [List.length_append, List.length_singleton, List.length_nil] at hz2
          exact ⟨hz2.1, by omega⟩) ?_
        intro r145 M145 hM145
        have hX3 := hX2.term hset hM145 (j := 3) (Or.inr ⟨rfl, rfl, rfl⟩)
        rw [hL10] at hX3
        have hi : its = 5 := by
          have hc : its = 0 ∨ its = 1 ∨ its = 2 ∨ its = 3 ∨ its = 4 ∨ its = 5 ∨ its = 6 ∨ its = 7 ∨ its = 8 := by omega
          rcases hc with rfl | rfl | rfl | rfl | rfl | rfl | rfl | rfl | rfl <;> first | rfl | (exfalso; revert c28_112; decide)
        subst hi
        exact gK _ (cr_stm1 hP hA hmay had hw hAF hits (by decide) hX3 rfl (by first | rfl | (rw [eT2]; rfl)) (by first | rfl | (rw [eT2]; rfl)) rfl)
      · intro c28_112
        refine ⟨?_, ?_⟩
        · intro c28_116
          have hi : its = 4 := by
            have hc : its = 0 ∨ its = 1 ∨ its = 2 ∨ its = 3 ∨ its = 4 ∨ its = 5 ∨ its = 6 ∨ its = 7 ∨ its = 8 := by omega
            rcases hc with rfl | rfl | rfl | rfl | rfl | rfl | rfl | rfl | rfl <;> first | rfl | (exfalso; revert c28_116; decide)
          subst hi
          exact gK _ (cr_stm1 hP hA hmay had hw hAF hits (by decide) hX0 rfl rfl rfl rfl)
        · intro c28_116
          refine ⟨?_, ?_⟩
          · intro c28_119
            refine And.intro (by
              refine ⟨⟨o, p, (hX0.nb hset).1, _, _, hX0.1⟩, fun p' hp' => ?_⟩
              have hz := (hX0.nb hset).1.2.1
              have e : p' = p := by omega
              subst e
              have hz2 := hX0.2.2.1
              rw [eT2] at hz2
              have hz3 := hb.2.1
              simp only [List.length_append, List.length_singleton, List.length_nil] at hz2
              exact ⟨hz2.1, by omega⟩) ?_
            intro r172 M172 hM172
            have hX1 := hX0.term hset hM172 (j := 2) (Or.inl ⟨rfl, rfl, rfl⟩)
            rw [hL10] at hX1
            refine And.intro (by
              refine ⟨⟨o, p, (hX1.nb hset).1, _, _, hX1.1⟩, fun p' hp' => ?_⟩
              have hz := (hX1.nb hset).1.2.1
              have e : p' = p := by omega
              subst e
              have hz2 := hX1.2.2.1
              rw [eT2] at hz2
              have hz3 := hb.2.1
              simp only [List.length_append, List.length_singleton, List.length_nil] at hz2
              exact ⟨hz2.1, by omega⟩) ?_
            intro r180 M180 hM180
            have hX2 := hX1.term hset hM180 (j := 3) (Or.inr ⟨rfl, rfl, rfl⟩)
            rw [hL10] at hX2
            refine And.intro (by
              have hy := (hX2.nb hset).1
              have hf := cr_X.fr hX2 (cr_opp q3) hb.1 rfl
              have g8 := (hf.2.2.2.2.2.2.2.1 8 (by decide)).trans (f764 8)
              have g3 := hf.2.2.1 3 (by decide)
              have g0 := (hf.2.2.2.2.2.1 0 (by decide) (by decide) (by decide)).trans ((fS 0).symm.trans hLet)
              refine ⟨o, p, _, _, hy, hX2.1, ?_, ?_, ?_⟩
              · rw [g8, hR.2.2.1.1]
                have := hb.2.2
                omega
              · have := hb.1
                rw [g3, hAF.2.1.1]
                omega
              · first
                  | rw [g0]
                  | rw [Int.toNat_natCast, g0]
                have hc : its = 0 ∨ its = 1 ∨ its = 2 ∨ its = 3 ∨ its = 4 ∨ its = 5 ∨ its = 6 ∨ its = 7 ∨ its = 8 := by omega
                rcases hc with rfl | rfl | rfl | rfl | rfl | rfl | rfl | rfl | rfl <;> decide) ?_
            intro M188 hM188
            have hi : its = 7 := by
              have hc : its = 0 ∨ its = 1 ∨ its = 2 ∨ its = 3 ∨ its = 4 ∨ its = 5 ∨ its = 6 ∨ its = 7 ∨ its = 8 := by omega
              rcases hc with rfl | rfl | rfl | rfl | rfl | rfl | rfl | rfl | rfl <;> first | rfl | (exfalso; revert c28_119; decide)
            subst hi
            exact gK _ (cr_stm2 hP hA hmay had hw hAF hits (by decide) hX2 rfl (by first | rfl | (rw [eT2]; rfl)) (by first | rfl | (rw [eT2]; rfl)) rfl hM188)
          · intro c28_119
            refine ⟨?_, ?_⟩
            · intro c28_121
              refine And.intro (by
                have hy := (hX0.nb hset).1
                have hf := cr_X.fr hX0 (cr_opp q3) hb.1 rfl
                have g8 := (hf.2.2.2.2.2.2.2.1 8 (by decide)).trans (f764 8)
                have g3 := hf.2.2.1 3 (by decide)
                have g0 := (hf.2.2.2.2.2.1 0 (by decide) (by decide) (by decide)).trans ((fS 0).symm.trans hLet)
                refine ⟨o, p, _, _, hy, hX0.1, ?_, ?_, ?_⟩
                · rw [g8, hR.2.2.1.1]
                  have := hb.2.2
                  omega
                · have := hb.1
                  rw [g3, hAF.2.1.1]
                  omega
                · first
                    | rw [g0]
                    | rw [Int.toNat_natCast, g0]
                  have hc : its = 0 ∨ its = 1 ∨ its = 2 ∨ its = 3 ∨ its = 4 ∨ its = 5 ∨ its = 6 ∨ its = 7 ∨ its = 8 := by omega
                  rcases hc with rfl | rfl | rfl | rfl | rfl | rfl | rfl | rfl | rfl <;> decide) ?_
              intro M196 hM196
              have hi : its = 8 := by
                have hc : its = 0 ∨ its = 1 ∨ its = 2 ∨ its = 3 ∨ its = 4 ∨ its = 5 ∨ its = 6 ∨ its = 7 ∨ its = 8 := by omega
                rcases hc with rfl | rfl | rfl | rfl | rfl | rfl | rfl | rfl | rfl <;> first | rfl | (exfalso; revert c28_121; decide)
              subst hi
              exact gK _ (cr_stm2 hP hA hmay had hw hAF hits (by decide) hX0 rfl rfl rfl rfl hM196)
            · intro c28_121
              refine And.intro (by
                refine ⟨⟨o, p, (hX0.nb hset).1, _, _, hX0.1⟩, fun p' hp' => ?_⟩
                have hz := (hX0.nb hset).1.2.1
                have e : p' = p := by omega
                subst e
                have hz2 := hX0.2.2.1
                rw [eT2] at hz2
                have hz3 := hb.2.1
                simp only [List.length_append, List.length_singleton, List.length_nil] at hz2
                exact ⟨hz2.1, by omega⟩) ?_
              intro r207 M207 hM207
              have hX1 := hX0.term hset hM207 (j := 2) (Or.inl ⟨rfl, rfl, rfl⟩)
              rw [hL10] at hX1
              have hc : its = 0 ∨ its = 2 ∨ its = 3 := by
                have hc : its = 0 ∨ its = 1 ∨ its = 2 ∨ its = 3 ∨ its = 4 ∨ its = 5 ∨ its = 6 ∨ its = 7 ∨ its = 8 := by omega
                rcases hc with h0 | h0 | h0 | h0 | h0 | h0 | h0 | h0 | h0
                · exact Or.inl h0
                · subst h0; exfalso; first | exact c28_104 rfl | exact c28_116 rfl
                · exact Or.inr (Or.inl h0)
                · exact Or.inr (Or.inr h0)
                · subst h0; exact absurd rfl c28_116
                · subst h0; exact absurd rfl c28_112
                · subst h0; exact absurd rfl c28_105
                · subst h0; exact absurd rfl c28_119
                · subst h0; exact absurd rfl c28_121
              rcases hc with h0 | h0 | h0
              all_goals subst h0
              all_goals exact gK _ (cr_stm1 hP hA hmay had hw hAF hits (by decide) hX1 rfl (by first | rfl | (rw [eT2]; rfl)) rfl rfl)

set_option maxRecDepth 20000 in
set_option maxHeartbeats 1000000 in
theorem ok_X2_readStatement (E : ab_E) : ab_Ok E 5 41 S_X2_readStatement := by
  refine ab_mk rq_X2_readStatement tk_X2_readStatement (rt := 0) (rfl) (cuts := []) (G := [(33, S_X2_addStatement), (37, S_X2_moveTo), (38, S_X2_openBlock), (44, S_X2_term), (45, S_X2_variable)]) (List.forall_mem_cons.mpr ⟨⟨3, by decide, ok_X2_addStatement E⟩, List.forall_mem_cons.mpr ⟨⟨2, by decide, ok_X2_moveTo E⟩, List.forall_mem_cons.mpr ⟨⟨4, by decide, ok_X2_openBlock E⟩, List.forall_mem_cons.mpr ⟨⟨3, by decide, ok_X2_term E⟩, List.forall_mem_cons.mpr ⟨⟨3, by decide, ok_X2_variable E⟩, fun _ h => absurd h List.not_mem_nil⟩⟩⟩⟩⟩) (by decide) 115 rfl ?_
  intro a M K wd wa hS
  unfold S_X2_readStatement at hS
  split at hS
  ·
    refine ⟨Nat.le_of_ble_eq_true rfl, fun _ _ _ _ _ => False, ?_, ?_⟩
    · exact vc_X2_readStatement_0  M K  hS
    · exact fun _ _ _ _ _ h => h.elim
  · exact hS.elim
