/-! the reference writes an event's rows -/
/-- an event's rows -/
def em_e (M M' : ab_M) (e : Nat) (md : Int) (W1 W2 : Nat → List Int) : Prop :=
  (M 805 e = 0 → em_P M M' 0 (M 806 e) (M 808 e) (W1 e)) ∧
  (M 805 e = 1 → em_P M M' 1 (M 806 e) 0 []) ∧
  (M 805 e = 2 → em_P M M' 2 (M 811 e) (M 808 e) (W1 e)) ∧
  (M 805 e = 3 → em_P M M' 3 0 (M 808 e) (W1 e)) ∧
  (M 805 e = 4 → ∃ M1, em_P M M1 5 0 0 [] ∧ M' = ab_up (ab_up M1 821 (M 797 33).toNat (tr_a M (M 797 27).toNat)) 820 (M 797 33).toNat (-1)) ∧
  (M 805 e = 5 → em_L [(2, M 811 e, M 808 e, W1 e), (1, M 806 e, 0, []), (3, 0, M 810 e, W2 e)] M M') ∧
  (M 805 e = 6 → em_P (ab_up M 823 e (M 797 33)) M' 4 0 (M 808 e) (W1 e)) ∧
  (M 805 e = 7 → em_l M M' e md W1 W2) ∧
  (M 805 e = 8 → M' = M) ∧
  (M 805 e = 9 → M' = ab_up (ab_up M 815 (M 797 27).toNat (e : Int)) 797 27 (M 797 27 + 1)) ∧
  (M 805 e = 10 → em_c M M' e md W1 W2)
/-- an event that can be written -/
def em_V (M : ab_M) (e : Nat) (md : Int) (W1 W2 : Nat → List Int) : Prop := (0 ≤ M 805 e ∧ M 805 e ≤ 10) ∧ (M 805 e ≤ 8 → em_W M e W1 W2) ∧ (M 805 e = 7 → md = 1 → em_a M (e : Int)) ∧ (M 805 e = 10 → (0 ≤ M 806 e ∧ M 806 e ≤ 4) ∧ (0 ≤ M 812 e ∧ M 812 e < 400) ∧ (M 806 e = 2 → em_W M (M 812 e).toNat W1 W2))
/-- what the writing keeps -/
def em_G (M : ab_M) : Prop := (∀ j, 0 ≤ M 823 j ∧ M 823 j < 256) ∧ (∀ j, 0 ≤ M 824 j ∧ M 824 j < 256) ∧ ∀ j, ab_ir (M 821 j)
/-- the open blocks -/
def em_O (M : ab_M) : Prop := (0 ≤ M 797 27 ∧ M 797 27 ≤ 121) ∧ ∀ k : Nat, (k : Int) < M 797 27 → 0 ≤ M 815 k ∧ M 815 k < 400 ∧ ab_ir (M 806 (M 815 k).toNat)

def S_X9_emitEvent : ab_PT := fun a M K => match a with
  | [.inr (.inr (.inr (797, 9, 0))), .inr (.inl e), .inr (.inl md)] => (∃ W1 : Nat → List Int, ∃ W2 : Nat → List Int, (((0 ≤ e ∧ e < 400) ∧ (0 ≤ M 797 33 ∧ M 797 33 ≤ 249) ∧ ab_ir md ∧ em_V M e.toNat md W1 W2 ∧ em_G M ∧ em_O M)) ∧ (∀ Mx : ab_M, (em_e M Mx e.toNat md W1 W2) → K [] Mx))
  | _ => False
set_option maxRecDepth 20000 in
theorem vc_X9_emitEvent_0 (e : Int) (md : Int) (M : ab_M) (K : List ab_V → ab_M → Prop) (hS : (∃ W1 : Nat → List Int, ∃ W2 : Nat → List Int, (((0 ≤ e ∧ e < 400) ∧ (0 ≤ M 797 33 ∧ M 797 33 ≤ 249) ∧ ab_ir md ∧ em_V M e.toNat md W1 W2 ∧ em_G M ∧ em_O M)) ∧ (∀ Mx : ab_M, (em_e M Mx e.toNat md W1 W2) → K [] Mx))) : (0 ≤ e ∧ e < ((400 : Nat) : Int)) ∧ (ab_ir (M 805 e.toNat)) ∧ (((M 805 e.toNat) = 0 → (0 ≤ e ∧ e < ((400 : Nat) : Int)) ∧ (0 ≤ e ∧ e < ((400 : Nat) : Int)) ∧ (0 ≤ e ∧ e < ((400 : Nat) : Int)) ∧ (∃ w_84 : List Int, (((0 ≤ M 797 33 ∧ M 797 33 < 256) ∧ ab_ir (M 808 e.toNat) ∧ em_w M (M 807 e.toNat) (M 808 e.toNat) w_84)) ∧ (∀ M84 : ab_M, (em_P M M84 (0 : Int) (M 806 e.toNat) (M 808 e.toNat) w_84) → K [] M84))) ∧ (¬ (M 805 e.toNat) = 0 → (((M 805 e.toNat) = 1 → (0 ≤ e ∧ e < ((400 : Nat) : Int)) ∧ (∃ w_100 : List Int, (((0 ≤ M 797 33 ∧ M 797 33 < 256) ∧ ab_ir (0 : Int) ∧ em_w M (0 : Int) (0 : Int) w_100)) ∧ (∀ M100 : ab_M, (em_P M M100 (1 : Int) (M 806 e.toNat) (0 : Int) w_100) → K [] M100))) ∧ (¬ (M 805 e.toNat) = 1 → (((M 805 e.toNat) = 2 → (0 ≤ e ∧ e < ((400 : Nat) : Int)) ∧ (0 ≤ e ∧ e < ((400 : Nat) : Int)) ∧ (0 ≤ e ∧ e < ((400 : Nat) : Int)) ∧ (∃ w_126 : List Int, (((0 ≤ M 797 33 ∧ M 797 33 < 256) ∧ ab_ir (M 808 e.toNat) ∧ em_w M (M 807 e.toNat) (M 808 e.toNat) w_126)) ∧ (∀ M126 : ab_M, (em_P M M126 (2 : Int) (M 811 e.toNat) (M 808 e.toNat) w_126) → K [] M126))) ∧ (¬ (M 805 e.toNat) = 2 → (((M 805 e.toNat) = 3 → (0 ≤ e ∧ e < ((400 : Nat) : Int)) ∧ (0 ≤ e ∧ e < ((400 : Nat) : Int)) ∧ (∃ w_147 : List Int, (((0 ≤ M 797 33 ∧ M 797 33 < 256) ∧ ab_ir (M 808 e.toNat) ∧ em_w M (M 807 e.toNat) (M 808 e.toNat) w_147)) ∧ (∀ M147 : ab_M, (em_P M M147 (3 : Int) (0 : Int) (M 808 e.toNat) w_147) → K [] M147))) ∧ (¬ (M 805 e.toNat) = 3 → (((M 805 e.toNat) = 4 → (∃ w_158 : List Int, (((0 ≤ M 797 33 ∧ M 797 33 < 256) ∧ ab_ir (0 : Int) ∧ em_w M (0 : Int) (0 : Int) w_158)) ∧ (∀ M158 : ab_M, (em_P M M158 (5 : Int) (0 : Int) (0 : Int) w_158) → ((0 ≤ M158 797 27 ∧ M158 797 27 ≤ 130) ∧ ∀ k : Nat, (k : Int) < M158 797 27 → 0 ≤ M158 815 k ∧ M158 815 k < 400 ∧ ab_ir (M158 806 (M158 815 k).toNat)) ∧ (∀ r172 : Int, (r172 = tr_a M158 (M158 797 27).toNat) → (0 ≤ ((M158 797 33) - (1 : Int)) ∧ ((M158 797 33) - (1 : Int)) < ((256 : Nat) : Int)) ∧ (0 ≤ ((M158 797 33) - (1 : Int)) ∧ ((M158 797 33) - (1 : Int)) < ((256 : Nat) : Int)) ∧ K [] (ab_up (ab_up M158 821 (((M158 797 33) - (1 : Int)).toNat) r172) 820 (((M158 797 33) - (1 : Int)).toNat) (-1 : Int)))))) ∧ (¬ (M 805 e.toNat) = 4 → (((M 805 e.toNat) = 5 → (0 ≤ e ∧ e < ((400 : Nat) : Int)) ∧ (0 ≤ e ∧ e < ((400 : Nat) : Int)) ∧ (0 ≤ e ∧ e < ((400 : Nat) : Int)) ∧ (∃ w_211 : List Int, (((0 ≤ M 797 33 ∧ M 797 33 < 256) ∧ ab_ir (M 808 e.toNat) ∧ em_w M (M 807 e.toNat) (M 808 e.toNat) w_211)) ∧ (∀ M211 : ab_M, (em_P M M211 (2 : Int) (M 811 e.toNat) (M 808 e.toNat) w_211) → (0 ≤ e ∧ e < ((400 : Nat) : Int)) ∧ (∃ w_224 : List Int, (((0 ≤ M211 797 33 ∧ M211 797 33 < 256) ∧ ab_ir (0 : Int) ∧ em_w M211 (0 : Int) (0 : Int) w_224)) ∧ (∀ M224 : ab_M, (em_P M211 M224 (1 : Int) (M211 806 e.toNat) (0 : Int) w_224) → (0 ≤ e ∧ e < ((400 : Nat) : Int)) ∧ (0 ≤ e ∧ e < ((400 : Nat) : Int)) ∧ (∃ w_242 : List Int, (((0 ≤ M224 797 33 ∧ M224 797 33 < 256) ∧ ab_ir (M224 810 e.toNat) ∧ em_w M224 (M224 809 e.toNat) (M224 810 e.toNat) w_242)) ∧ (∀ M242 : ab_M, (em_P M224 M242 (3 : Int) (0 : Int) (M224 810 e.toNat) w_242) → K [] M242))))))) ∧ (¬ (M 805 e.toNat) = 5 → (((M 805 e.toNat) = 6 → (0 ≤ e ∧ e < ((400 : Nat) : Int)) ∧ (0 ≤ e ∧ e < ((400 : Nat) : Int)) ∧ (0 ≤ e ∧ e < ((400 : Nat) : Int)) ∧ (∃ w_273 : List Int, (((0 ≤ (ab_up M 823 e.toNat (M 797 33)) 797 33 ∧ (ab_up M 823 e.toNat (M 797 33)) 797 33 < 256) ∧ ab_ir (M 808 e.toNat) ∧ em_w (ab_up M 823 e.toNat (M 797 33)) (M 807 e.toNat) (M 808 e.toNat) w_273)) ∧ (∀ M273 : ab_M, (em_P (ab_up M 823 e.toNat (M 797 33)) M273 (4 : Int) (0 : Int) (M 808 e.toNat) w_273) → K [] M273))) ∧ (¬ (M 805 e.toNat) = 6 → (((M 805 e.toNat) = 7 → (∃ W1_282 : Nat → List Int, ∃ W2_282 : Nat → List Int, (((0 ≤ e ∧ e < 400) ∧ (0 ≤ M 797 33 ∧ M 797 33 ≤ 249) ∧ ab_ir md ∧ em_W M e.toNat W1_282 W2_282 ∧ (md = 1 → em_a M e))) ∧ (∀ M282 : ab_M, (em_l M M282 e.toNat md W1_282 W2_282) → K [] M282))) ∧ (¬ (M 805 e.toNat) = 7 → (((M 805 e.toNat) = 9 → (0 ≤ (M 797 27) ∧ (M 797 27) < ((130 : Nat) : Int)) ∧ K [] (ab_up (ab_up M 815 ((M 797 27).toNat) e) 797 27 ((M 797 27) + (1 : Int)))) ∧ (¬ (M 805 e.toNat) = 9 → (((M 805 e.toNat) = 10 → (∃ W1_314 : Nat → List Int, ∃ W2_314 : Nat → List Int, (((0 ≤ e ∧ e < 400) ∧ (0 ≤ M 797 33 ∧ M 797 33 ≤ 254) ∧ ab_ir md ∧ (0 ≤ M 806 e.toNat ∧ M 806 e.toNat ≤ 4) ∧ (0 ≤ M 812 e.toNat ∧ M 812 e.toNat < 400) ∧ (M 806 e.toNat = 2 → em_W M (M 812 e.toNat).toNat W1_314 W2_314) ∧ (M 806 e.toNat = 0 ∨ M 806 e.toNat = 2 → 0 ≤ M 823 (M 812 e.toNat).toNat ∧ M 823 (M 812 e.toNat).toNat < 256) ∧ (M 806 e.toNat = 1 ∨ M 806 e.toNat = 4 → 0 ≤ M 824 (M 812 e.toNat).toNat ∧ M 824 (M 812 e.toNat).toNat < 256) ∧ ∀ j : Nat, ab_ir (M 821 j))) ∧ (∀ M314 : ab_M, (em_c M M314 e.toNat md W1_314 W2_314) → K [] M314))) ∧ (¬ (M 805 e.toNat) = 10 → K [] M)))))))))))))))))))) := by
  obtain ⟨W1, W2, ⟨⟨ge0, ge1⟩, ⟨gs0, gs1⟩, gmd, ⟨⟨gv0, gv1⟩, gv2, gv3, gv4⟩, ⟨g10, g11, g08⟩, ⟨gd0, gd1⟩, gop⟩, gK⟩ := hS
  have gEE : ((e.toNat : Nat) : Int) = e := by omega
  have gw : M 805 e.toNat ≤ 8 → em_W M e.toNat W1 W2 := gv2
  have g92 : ab_ir (M 805 e.toNat) := ⟨by omega, by omega⟩
  refine And.intro (by
    first
      | omega
      | exact g92
      | exact gmd
      | exact ⟨by omega, by omega⟩
      | exact ⟨⟨by omega, by omega⟩, (gw (by omega)).2.1, (gw (by omega)).1.1⟩
      | exact ⟨⟨by omega, by omega⟩, ⟨by decide, by decide⟩, Or.inl (by decide)⟩
      | exact ⟨⟨by rw [ab_up_o (by decide)]; omega, by rw [ab_up_o (by decide)]; omega⟩, (gw (by omega)).2.1, (gw (by omega)).1.1.f9 fun j => ab_up_o (by decide) _⟩) ?_
  refine And.intro (by
    first
      | omega
      | exact g92
      | exact gmd
      | exact ⟨by omega, by omega⟩
      | exact ⟨⟨by omega, by omega⟩, (gw (by omega)).2.1, (gw (by omega)).1.1⟩
      | exact ⟨⟨by omega, by omega⟩, ⟨by decide, by decide⟩, Or.inl (by decide)⟩
      | exact ⟨⟨by rw [ab_up_o (by decide)]; omega, by rw [ab_up_o (by decide)]; omega⟩, (gw (by omega)).2.1, (gw (by omega)).1.1.f9 fun j => ab_up_o (by decide) _⟩) ?_
  refine ⟨?_, ?_⟩
  · intro c6_0
    refine And.intro (by
      first
        | omega
        | exact g92
        | exact gmd
        | exact ⟨by omega, by omega⟩
        | exact ⟨⟨by omega, by omega⟩, (gw (by omega)).2.1, (gw (by omega)).1.1⟩
        | exact ⟨⟨by omega, by omega⟩, ⟨by decide, by decide⟩, Or.inl (by decide)⟩
        | exact ⟨⟨by rw [ab_up_o (by decide)]; omega, by rw [ab_up_o (by decide)]; omega⟩, (gw (by omega)).2.1, (gw (by omega)).1.1.f9 fun j => ab_up_o (by decide) _⟩) ?_
    refine And.intro (by
      first
        | omega
        | exact g92
        | exact gmd
        | exact ⟨by omega, by omega⟩
        | exact ⟨⟨by omega, by omega⟩, (gw (by omega)).2.1, (gw (by omega)).1.1⟩
        | exact ⟨⟨by omega, by omega⟩, ⟨by decide, by decide⟩, Or.inl (by decide)⟩
        | exact ⟨⟨by rw [ab_up_o (by decide)]; omega, by rw [ab_up_o (by decide)]; omega⟩, (gw (by omega)).2.1, (gw (by omega)).1.1.f9 fun j => ab_up_o (by decide) _⟩) ?_
    refine And.intro (by
      first
        | omega
        | exact g92
        | exact gmd
        | exact ⟨by omega, by omega⟩
        | exact ⟨⟨by omega, by omega⟩, (gw (by omega)).2.1, (gw (by omega)).1.1⟩
        | exact ⟨⟨by omega, by omega⟩, ⟨by decide, by decide⟩, Or.inl (by decide)⟩
        | exact ⟨⟨by rw [ab_up_o (by decide)]; omega, by rw [ab_up_o (by decide)]; omega⟩, (gw (by omega)).2.1, (gw (by omega)).1.1.f9 fun j => ab_up_o (by decide) _⟩) ?_
    refine Exists.intro ((W1 e.toNat)) <| ?_
    refine And.intro (by
      first
        | omega
        | exact g92
        | exact gmd
        | exact ⟨by omega, by omega⟩
        | exact ⟨⟨by omega, by omega⟩, (gw (by omega)).2.1, (gw (by omega)).1.1⟩
        | exact ⟨⟨by omega, by omega⟩, ⟨by decide, by decide⟩, Or.inl (by decide)⟩
        | exact ⟨⟨by rw [ab_up_o (by decide)]; omega, by rw [ab_up_o (by decide)]; omega⟩, (gw (by omega)).2.1, (gw (by omega)).1.1.f9 fun j => ab_up_o (by decide) _⟩) ?_
    intro M84 hM84
    refine gK _ ⟨fun q => ?_, fun q => ?_, fun q => ?_, fun q => ?_, fun q => ?_, fun q => ?_, fun q => ?_, fun q => ?_, fun q => ?_, fun q => ?_, fun q => ?_⟩
    all_goals first
      | (exfalso; omega)
      | exact hM84
      | exact hM100
      | exact hM126
      | exact hM147
      | exact hM273
      | exact hM282
      | exact hM314
      | rfl
      | (rw [gEE])
      | (refine ⟨M158, hM158, ?_⟩
         have f1 := hM158.F
         have f27 : M158 797 27 = M 797 27 := f1.1 797 27 (by omega) (by omega)
         rw [hr172, f1.2, show M 797 33 + 1 - 1 = M 797 33 by omega, tr_a_eq (M := M) (fun k => f1.1 806 k (by omega) (by omega)) (fun k => f1.1 812 k (by omega) (by omega)) f27 (fun k _ => f1.1 815 k (by omega) (by omega))])
      | (have f1 := hM211.F
         have f2 := hM224.F
         rw [f1.1 806 _ (by omega) (by omega)] at hM224
         rw [f2.1 810 _ (by omega) (by omega), f1.1 810 _ (by omega) (by omega)] at hM242
         exact ⟨M211, hM211, M224, hM224, M242, hM242, rfl⟩)
  · intro c6_0
    refine ⟨?_, ?_⟩
    · intro c6_1
      refine And.intro (by
        first
          | omega
          | exact g92
          | exact gmd
          | exact ⟨by omega, by omega⟩
          | exact ⟨⟨by omega, by omega⟩, (gw (by omega)).2.1, (gw (by omega)).1.1⟩
          | exact ⟨⟨by omega, by omega⟩, ⟨by decide, by decide⟩, Or.inl (by decide)⟩
          | exact ⟨⟨by rw [ab_up_o (by decide)]; omega, by rw [ab_up_o (by decide)]; omega⟩, (gw (by omega)).2.1, (gw (by omega)).1.1.f9 fun j => ab_up_o (by decide) _⟩) ?_
      refine Exists.intro ([]) <| ?_
      refine And.intro (by
        first
          | omega
          | exact g92
          | exact gmd
          | exact ⟨by omega, by omega⟩
          | exact ⟨⟨by omega, by omega⟩, (gw (by omega)).2.1, (gw (by omega)).1.1⟩
          | exact ⟨⟨by omega, by omega⟩, ⟨by decide, by decide⟩, Or.inl (by decide)⟩
          | exact ⟨⟨by rw [ab_up_o (by decide)]; omega, by rw [ab_up_o (by decide)]; omega⟩, (gw (by omega)).2.1, (gw (by omega)).1.1.f9 fun j => ab_up_o (by decide) _⟩) ?_
      intro M100 hM100
      refine gK _ ⟨fun q => ?_, fun q => ?_, fun q => ?_, fun q => ?_, fun q => ?_, fun q => ?_, fun q => ?_, fun q => ?_, fun q => ?_, fun q => ?_, fun q => ?_⟩
      all_goals first
        | (exfalso; omega)
        | exact hM84
        | exact hM100
        | exact hM126
        | exact hM147
        | exact hM273
        | exact hM282
        | exact hM314
        | rfl
        | (rw [gEE])
        | (refine ⟨M158, hM158, ?_⟩
           have f1 := hM158.F
           have f27 : M158 797 27 = M 797 27 := f1.1 797 27 (by omega) (by omega)
           rw [hr172, f1.2, show M 797 33 + 1 - 1 = M 797 33 by omega, tr_a_eq (M := M) (fun k => f1.1 806 k (by omega) (by omega)) (fun k => f1.1 812 k (by omega) (by omega)) f27 (fun k _ => f1.1 815 k (by omega) (by omega))])
        | (have f1 := hM211.F
           have f2 := hM224.F
           rw [f1.1 806 _ (by omega) (by omega)] at hM224
           rw [f2.1 810 _ (by omega) (by omega), f1.1 810 _ (by omega) (by omega)] at hM242
           exact ⟨M211, hM211, M224, hM224, M242, hM242, rfl⟩)
    · intro c6_1
      refine ⟨?_, ?_⟩
      · intro c6_2
        refine And.intro (by
          first
            | omega
            | exact g92
            | exact gmd
            | exact ⟨by omega, by omega⟩
            | exact ⟨⟨by omega, by omega⟩, (gw (by omega)).2.1, (gw (by omega)).1.1⟩
            | exact ⟨⟨by omega, by omega⟩, ⟨by decide, by decide⟩, Or.inl (by decide)⟩
            | exact ⟨⟨by rw [ab_up_o (by decide)]; omega, by rw [ab_up_o (by decide)]; omega⟩, (gw (by omega)).2.1, (gw (by omega)).1.1.f9 fun j => ab_up_o (by decide) _⟩) ?_
        refine And.intro (by
          first
            | omega
            | exact g92
            | exact gmd
            | exact ⟨by omega, by omega⟩
            | exact ⟨⟨by omega, by omega⟩, (gw (by omega)).2.1, (gw (by omega)).1.1⟩
            | exact ⟨⟨by omega, by omega⟩, ⟨by decide, by decide⟩, Or.inl (by decide)⟩
            | exact ⟨⟨by rw [ab_up_o (by decide)]; omega, by rw [ab_up_o (by decide)]; omega⟩, (gw (by omega)).2.1, (gw (by omega)).1.1.f9 fun j => ab_up_o (by decide) _⟩) ?_
        refine And.intro (by
          first
            | omega
            | exact g92
            | exact gmd
            | exact ⟨by omega, by omega⟩
            | exact ⟨⟨by omega, by omega⟩, (gw (by omega)).2.1, (gw (by omega)).1.1⟩
            | exact ⟨⟨by omega, by omega⟩, ⟨by decide, by decide⟩, Or.inl (by decide)⟩
            | exact ⟨⟨by rw [ab_up_o (by decide)]; omega, by rw [ab_up_o (by decide)]; omega⟩, (gw (by omega)).2.1, (gw (by omega)).1.1.f9 fun j => ab_up_o (by decide) _⟩) ?_
        refine Exists.intro ((W1 e.toNat)) <| ?_
        refine And.intro (by
          first
            | omega
            | exact g92
            | exact gmd
            | exact ⟨by omega, by omega⟩
            | exact ⟨⟨by omega, by omega⟩, (gw (by omega)).2.1, (gw (by omega)).1.1⟩
            | exact ⟨⟨by omega, by omega⟩, ⟨by decide, by decide⟩, Or.inl (by decide)⟩
            | exact ⟨⟨by rw [ab_up_o (by decide)]; omega, by rw [ab_up_o (by decide)]; omega⟩, (gw (by omega)).2.1, (gw (by omega)).1.1.f9 fun j => ab_up_o (by decide) _⟩) ?_
        intro M126 hM126
        refine gK _ ⟨fun q => ?_, fun q => ?_, fun q => ?_, fun q => ?_, fun q => ?_, fun q => ?_, fun q => ?_, fun q => ?_, fun q => ?_, fun q => ?_, fun q => ?_⟩
        all_goals first
          | (exfalso; omega)
          | exact hM84
          | exact hM100
          | exact hM126
          | exact hM147
          | exact hM273
          | exact hM282
          | exact hM314
          | rfl
          | (rw [gEE])
          | (refine ⟨M158, hM158, ?_⟩
             have f1 := hM158.F
             have f27 : M158 797 27 = M 797 27 := f1.1 797 27 (by omega) (by omega)
             rw [hr172, f1.2, show M 797 33 + 1 - 1 = M 797 33 by omega, tr_a_eq (M := M) (fun k => f1.1 806 k (by omega) (by omega)) (fun k => f1.1 812 k (by omega) (by omega)) f27 (fun k _ => f1.1 815 k (by omega) (by omega))])
          | (have f1 := hM211.F
             have f2 := hM224.F
             rw [f1.1 806 _ (by omega) (by omega)] at hM224
             rw [f2.1 810 _ (by omega) (by omega), f1.1 810 _ (by omega) (by omega)] at hM242
             exact ⟨M211, hM211, M224, hM224, M242, hM242, rfl⟩)
      · intro c6_2
        refine ⟨?_, ?_⟩
        · intro c6_3
          refine And.intro (by
            first
              | omega
              | exact g92
              | exact gmd
              | exact ⟨by omega, by omega⟩
              | exact ⟨⟨by omega, by omega⟩, (gw (by omega)).2.1, (gw (by omega)).1.1⟩
              | exact ⟨⟨by omega, by omega⟩, ⟨by decide, by decide⟩, Or.inl (by decide)⟩
              | exact ⟨⟨by rw [ab_up_o (by decide)]; omega, by rw [ab_up_o (by decide)]; omega⟩, (gw (by omega)).2.1, (gw (by omega)).1.1.f9 fun j => ab_up_o (by decide) _⟩) ?_
          refine And.intro (by
            first
              | omega
              | exact g92
              | exact gmd
              | exact ⟨by omega, by omega⟩
              | exact ⟨⟨by omega, by omega⟩, (gw (by omega)).2.1, (gw (by omega)).1.1⟩
              | exact ⟨⟨by omega, by omega⟩, ⟨by decide, by decide⟩, Or.inl (by decide)⟩
              | exact ⟨⟨by rw [ab_up_o (by decide)]; omega, by rw [ab_up_o (by decide)]; omega⟩, (gw (by omega)).2.1, (gw (by omega)).1.1.f9 fun j => ab_up_o (by decide) _⟩) ?_
          refine Exists.intro ((W1 e.toNat)) <| ?_
          refine And.intro (by
            first
              | omega
              | exact g92
              | exact gmd
              | exact ⟨by omega, by omega⟩
              | exact ⟨⟨by omega, by omega⟩, (gw (by omega)).2.1, (gw (by omega)).1.1⟩
              | exact ⟨⟨by omega, by omega⟩, ⟨by decide, by decide⟩, Or.inl (by decide)⟩
              | exact ⟨⟨by rw [ab_up_o (by decide)]; omega, by rw [ab_up_o (by decide)]; omega⟩, (gw (by omega)).2.1, (gw (by omega)).1.1.f9 fun j => ab_up_o (by decide) _⟩) ?_
          intro M147 hM147
          refine gK _ ⟨fun q => ?_, fun q => ?_, fun q => ?_, fun q => ?_, fun q => ?_, fun q => ?_, fun q => ?_, fun q => ?_, fun q => ?_, fun q => ?_, fun q => ?_⟩
          all_goals first
            | (exfalso; omega)
            | exact hM84
            | exact hM100
            | exact hM126
            | exact hM147
            | exact hM273
            | exact hM282
            | exact hM314
            | rfl
            | (rw [gEE])
            | (refine ⟨M158, hM158, ?_⟩
               have f1 := hM158.F
               have f27 : M158 797 27 = M 797 27 := f1.1 797 27 (by omega) (by omega)
               rw [hr172, f1.2, show M 797 33 + 1 - 1 = M 797 33 by omega, tr_a_eq (M := M) (fun k => f1.1 806 k (by omega) (by omega)) (fun k => f1.1 812 k (by omega) (by omega)) f27 (fun k _ => f1.1 815 k (by omega) (by omega))])
            | (have f1 := hM211.F
               have f2 := hM224.F
               rw [f1.1 806 _ (by omega) (by omega)] at hM224
               rw [f2.1 810 _ (by omega) (by omega), f1.1 810 _ (by omega) (by omega)] at hM242
               exact ⟨M211, hM211, M224, hM224, M242, hM242, rfl⟩)
        · intro c6_3
          refine ⟨?_, ?_⟩
          · intro c6_4
            refine Exists.intro ([]) <| ?_
            refine And.intro (by
              first
                | omega
                | exact g92
                | exact gmd
                | exact ⟨by omega, by omega⟩
                | exact ⟨⟨by omega, by omega⟩, (gw (by omega)).2.1, (gw (by omega)).1.1⟩
                | exact ⟨⟨by omega, by omega⟩, ⟨by decide, by decide⟩, Or.inl (by decide)⟩
                | exact ⟨⟨by rw [ab_up_o (by decide)]; omega, by rw [ab_up_o (by decide)]; omega⟩, (gw (by omega)).2.1, (gw (by omega)).1.1.f9 fun j => ab_up_o (by decide) _⟩) ?_
            intro M158 hM158
            have s158 := hM158.F.2
            refine And.intro (by
              have f1 := hM158.F.1
              rw [f1 797 27 (by omega) (by omega)]
              refine ⟨⟨gd0, by omega⟩, fun k hk => ?_⟩
              rw [f1 815 k (by omega) (by omega), f1 806 _ (by omega) (by omega)]
              exact gop k hk) ?_
            intro r172 hr172
            refine And.intro (by
              first
                | omega
                | exact g92
                | exact gmd
                | exact ⟨by omega, by omega⟩
                | exact ⟨⟨by omega, by omega⟩, (gw (by omega)).2.1, (gw (by omega)).1.1⟩
                | exact ⟨⟨by omega, by omega⟩, ⟨by decide, by decide⟩, Or.inl (by decide)⟩
                | exact ⟨⟨by rw [ab_up_o (by decide)]; omega, by rw [ab_up_o (by decide)]; omega⟩, (gw (by omega)).2.1, (gw (by omega)).1.1.f9 fun j => ab_up_o (by decide) _⟩) ?_
            refine And.intro (by
              first
                | omega
                | exact g92
                | exact gmd
                | exact ⟨by omega, by omega⟩
                | exact ⟨⟨by omega, by omega⟩, (gw (by omega)).2.1, (gw (by omega)).1.1⟩
                | exact ⟨⟨by omega, by omega⟩, ⟨by decide, by decide⟩, Or.inl (by decide)⟩
                | exact ⟨⟨by rw [ab_up_o (by decide)]; omega, by rw [ab_up_o (by decide)]; omega⟩, (gw (by omega)).2.1, (gw (by omega)).1.1.f9 fun j => ab_up_o (by decide) _⟩) ?_
            refine gK _ ⟨fun q => ?_, fun q => ?_, fun q => ?_, fun q => ?_, fun q => ?_, fun q => ?_, fun q => ?_, fun q => ?_, fun q => ?_, fun q => ?_, fun q => ?_⟩
            all_goals first
              | (exfalso; omega)
              | exact hM84
              | exact hM100
              | exact hM126
              | exact hM147
              | exact hM273
              | exact hM282
              | exact hM314
              | rfl
              | (rw [gEE])
              | (refine ⟨M158, hM158, ?_⟩
                 have f1 := hM158.F
                 have f27 : M158 797 27 = M 797 27 := f1.1 797 27 (by omega) (by omega)
                 rw [hr172, f1.2, show M 797 33 + 1 - 1 = M 797 33 by omega, tr_a_eq (M := M) (fun k => f1.1 806 k (by omega) (by omega)) (fun k => f1.1 812 k (by omega) (by omega)) f27 (fun k _ => f1.1 815 k (by omega) (by omega))])
              | (have f1 := hM211.F
                 have f2 := hM224.F
                 rw [f1.1 806 _ (by omega) (by omega)] at hM224
                 rw [f2.1 810 _ (by omega) (by omega), f1.1 810 _ (by omega) (by omega)] at hM242
                 exact ⟨M211, hM211, M224, hM224, M242, hM242, rfl⟩)
          · intro c6_4
            refine ⟨?_, ?_⟩
            · intro c6_5
              refine And.intro (by
                first
                  | omega
                  | exact g92
                  | exact gmd
                  | exact ⟨by omega, by omega⟩
                  | exact ⟨⟨by omega, by omega⟩, (gw (by omega)).2.1, (gw (by omega)).1.1⟩
                  | exact ⟨⟨by omega, by omega⟩, ⟨by decide, by decide⟩, Or.inl (by decide)⟩
                  | exact ⟨⟨by rw [ab_up_o (by decide)]; omega, by rw [ab_up_o (by decide)]; omega⟩, (gw (by omega)).2.1, (gw (by omega)).1.1.f9 fun j => ab_up_o (by decide) _⟩) ?_
              refine And.intro (by
                first
                  | omega
                  | exact g92
                  | exact gmd
                  | exact ⟨by omega, by omega⟩
                  | exact ⟨⟨by omega, by omega⟩, (gw (by omega)).2.1, (gw (by omega)).1.1⟩
                  | exact ⟨⟨by omega, by omega⟩, ⟨by decide, by decide⟩, Or.inl (by decide)⟩
                  | exact ⟨⟨by rw [ab_up_o (by decide)]; omega, by rw [ab_up_o (by decide)]; omega⟩, (gw (by omega)).2.1, (gw (by omega)).1.1.f9 fun j => ab_up_o (by decide) _⟩) ?_
              refine And.intro (by
                first
                  | omega
                  | exact g92
                  | exact gmd
                  | exact ⟨by omega, by omega⟩
                  | exact ⟨⟨by omega, by omega⟩, (gw (by omega)).2.1, (gw (by omega)).1.1⟩
                  | exact ⟨⟨by omega, by omega⟩, ⟨by decide, by decide⟩, Or.inl (by decide)⟩
                  | exact ⟨⟨by rw [ab_up_o (by decide)]; omega, by rw [ab_up_o (by decide)]; omega⟩, (gw (by omega)).2.1, (gw (by omega)).1.1.f9 fun j => ab_up_o (by decide) _⟩) ?_
              refine Exists.intro ((W1 e.toNat)) <| ?_
              refine And.intro (by
                first
                  | omega
                  | exact g92
                  | exact gmd
                  | exact ⟨by omega, by omega⟩
                  | exact ⟨⟨by omega, by omega⟩, (gw (by omega)).2.1, (gw (by omega)).1.1⟩
                  | exact ⟨⟨by omega, by omega⟩, ⟨by decide, by decide⟩, Or.inl (by decide)⟩
                  | exact ⟨⟨by rw [ab_up_o (by decide)]; omega, by rw [ab_up_o (by decide)]; omega⟩, (gw (by omega)).2.1, (gw (by omega)).1.1.f9 fun j => ab_up_o (by decide) _⟩) ?_
              intro M211 hM211
              refine And.intro (by
                first
                  | omega
                  | exact g92
                  | exact gmd
                  | exact ⟨by omega, by omega⟩
                  | exact ⟨⟨by omega, by omega⟩, (gw (by omega)).2.1, (gw (by omega)).1.1⟩
                  | exact ⟨⟨by omega, by omega⟩, ⟨by decide, by decide⟩, Or.inl (by decide)⟩
                  | exact ⟨⟨by rw [ab_up_o (by decide)]; omega, by rw [ab_up_o (by decide)]; omega⟩, (gw (by omega)).2.1, (gw (by omega)).1.1.f9 fun j => ab_up_o (by decide) _⟩) ?_
              refine Exists.intro ([]) <| ?_
              refine And.intro (by
                have := hM211.F.2
                exact ⟨⟨by omega, by omega⟩, ⟨by decide, by decide⟩, Or.inl (by decide)⟩) ?_
              intro M224 hM224
              refine And.intro (by
                first
                  | omega
                  | exact g92
                  | exact gmd
                  | exact ⟨by omega, by omega⟩
                  | exact ⟨⟨by omega, by omega⟩, (gw (by omega)).2.1, (gw (by omega)).1.1⟩
                  | exact ⟨⟨by omega, by omega⟩, ⟨by decide, by decide⟩, Or.inl (by decide)⟩
                  | exact ⟨⟨by rw [ab_up_o (by decide)]; omega, by rw [ab_up_o (by decide)]; omega⟩, (gw (by omega)).2.1, (gw (by omega)).1.1.f9 fun j => ab_up_o (by decide) _⟩) ?_
              refine And.intro (by
                first
                  | omega
                  | exact g92
                  | exact gmd
                  | exact ⟨by omega, by omega⟩
                  | exact ⟨⟨by omega, by omega⟩, (gw (by omega)).2.1, (gw (by omega)).1.1⟩
                  | exact ⟨⟨by omega, by omega⟩, ⟨by decide, by decide⟩, Or.inl (by decide)⟩
                  | exact ⟨⟨by rw [ab_up_o (by decide)]; omega, by rw [ab_up_o (by decide)]; omega⟩, (gw (by omega)).2.1, (gw (by omega)).1.1.f9 fun j => ab_up_o (by decide) _⟩) ?_
              refine Exists.intro ((W2 e.toNat)) <| ?_
              refine And.intro (by
                have f1 := hM211.F
                have f2 := hM224.F
                have := (gw (by omega)).fr (f1.1.tr f2.1)
                exact ⟨⟨by omega, by omega⟩, this.2.2, this.1.2⟩) ?_
              intro M242 hM242
              refine gK _ ⟨fun q => ?_, fun q => ?_, fun q => ?_, fun q => ?_, fun q => ?_, fun q => ?_, fun q => ?_, fun q => ?_, fun q => ?_, fun q => ?_, fun q => ?_⟩
              all_goals first
                | (exfalso; omega)
                | exact hM84
                | exact hM100
                | exact hM126
                | exact hM147
                | exact hM273
                | exact hM282
                | exact hM314
                | rfl
                | (rw [gEE])
                | (refine ⟨M158, hM158, ?_⟩
                   have f1 := hM158.F
                   have f27 : M158 797 27 = M 797 27 := f1.1 797 27 (by omega) (by omega)
                   rw [hr172, f1.2, show M 797 33 + 1 - 1 = M 797 33 by omega, tr_a_eq (M := M) (fun k => f1.1 806 k (by omega) (by omega)) (fun k => f1.1 812 k (by omega) (by omega)) f27 (fun k _ => f1.1 815 k (by omega) (by omega))])
                | (have f1 := hM211.F
                   have f2 := hM224.F
                   rw [f1.1 806 _ (by omega) (by omega)] at hM224
                   rw [f2.1 810 _ (by omega) (by omega), f1.1 810 _ (by omega) (by omega)] at hM242
                   exact ⟨M211, hM211, M224, hM224, M242, hM242, rfl⟩)
            · intro c6_5
              refine ⟨?_, ?_⟩
              · intro c6_6
                refine And.intro (by
                  first
                    | omega
                    | exact g92
                    | exact gmd
                    | exact ⟨by omega, by omega⟩
                    | exact ⟨⟨by omega, by omega⟩, (gw (by omega)).2.1, (gw (by omega)).1.1⟩
                    | exact ⟨⟨by omega, by omega⟩, ⟨by decide, by decide⟩, Or.inl (by decide)⟩
                    | exact ⟨⟨by rw [ab_up_o (by decide)]; omega, by rw [ab_up_o (by decide)]; omega⟩, (gw (by omega)).2.1, (gw (by omega)).1.1.f9 fun j => ab_up_o (by decide) _⟩) ?_
                refine And.intro (by
                  first
                    | omega
                    | exact g92
                    | exact gmd
                    | exact ⟨by omega, by omega⟩
                    | exact ⟨⟨by omega, by omega⟩, (gw (by omega)).2.1, (gw (by omega)).1.1⟩
                    | exact ⟨⟨by omega, by omega⟩, ⟨by decide, by decide⟩, Or.inl (by decide)⟩
                    | exact ⟨⟨by rw [ab_up_o (by decide)]; omega, by rw [ab_up_o (by decide)]; omega⟩, (gw (by omega)).2.1, (gw (by omega)).1.1.f9 fun j => ab_up_o (by decide) _⟩) ?_
                refine And.intro (by
                  first
                    | omega
                    | exact g92
                    | exact gmd
                    | exact ⟨by omega, by omega⟩
                    | exact ⟨⟨by omega, by omega⟩, (gw (by omega)).2.1, (gw (by omega)).1.1⟩
                    | exact ⟨⟨by omega, by omega⟩, ⟨by decide, by decide⟩, Or.inl (by decide)⟩
                    | exact ⟨⟨by rw [ab_up_o (by decide)]; omega, by rw [ab_up_o (by decide)]; omega⟩, (gw (by omega)).2.1, (gw (by omega)).1.1.f9 fun j => ab_up_o (by decide) _⟩) ?_
                refine Exists.intro ((W1 e.toNat)) <| ?_
                refine And.intro (by
                  first
                    | omega
                    | exact g92
                    | exact gmd
                    | exact ⟨by omega, by omega⟩
                    | exact ⟨⟨by omega, by omega⟩, (gw (by omega)).2.1, (gw (by omega)).1.1⟩
                    | exact ⟨⟨by omega, by omega⟩, ⟨by decide, by decide⟩, Or.inl (by decide)⟩
                    | exact ⟨⟨by rw [ab_up_o (by decide)]; omega, by rw [ab_up_o (by decide)]; omega⟩, (gw (by omega)).2.1, (gw (by omega)).1.1.f9 fun j => ab_up_o (by decide) _⟩) ?_
                intro M273 hM273
                refine gK _ ⟨fun q => ?_, fun q => ?_, fun q => ?_, fun q => ?_, fun q => ?_, fun q => ?_, fun q => ?_, fun q => ?_, fun q => ?_, fun q => ?_, fun q => ?_⟩
                all_goals first
                  | (exfalso; omega)
                  | exact hM84
                  | exact hM100
                  | exact hM126
                  | exact hM147
                  | exact hM273
                  | exact hM282
                  | exact hM314
                  | rfl
                  | (rw [gEE])
                  | (refine ⟨M158, hM158, ?_⟩
                     have f1 := hM158.F
                     have f27 : M158 797 27 = M 797 27 := f1.1 797 27 (by omega) (by omega)
                     rw [hr172, f1.2, show M 797 33 + 1 - 1 = M 797 33 by omega, tr_a_eq (M := M) (fun k => f1.1 806 k (by omega) (by omega)) (fun k => f1.1 812 k (by omega) (by omega)) f27 (fun k _ => f1.1 815 k (by omega) (by omega))])
                  | (have f1 := hM211.F
                     have f2 := hM224.F
                     rw [f1.1 806 _ (by omega) (by omega)] at hM224
                     rw [f2.1 810 _ (by omega) (by omega), f1.1 810 _ (by omega) (by omega)] at hM242
                     exact ⟨M211, hM211, M224, hM224, M242, hM242, rfl⟩)
              · intro c6_6
                refine ⟨?_, ?_⟩
                · intro c6_7
                  refine Exists.intro (W1) <| Exists.intro (W2) <| ?_
                  refine And.intro (by
                    exact ⟨⟨ge0, ge1⟩, ⟨gs0, gs1⟩, gmd, gw (by omega), fun z => by have := gv3 (by omega) z; rw [gEE] at this; exact this⟩) ?_
                  intro M282 hM282
                  refine gK _ ⟨fun q => ?_, fun q => ?_, fun q => ?_, fun q => ?_, fun q => ?_, fun q => ?_, fun q => ?_, fun q => ?_, fun q => ?_, fun q => ?_, fun q => ?_⟩
                  all_goals first
                    | (exfalso; omega)
                    | exact hM84
                    | exact hM100
                    | exact hM126
                    | exact hM147
                    | exact hM273
                    | exact hM282
                    | exact hM314
                    | rfl
                    | (rw [gEE])
                    | (refine ⟨M158, hM158, ?_⟩
                       have f1 := hM158.F
                       have f27 : M158 797 27 = M 797 27 := f1.1 797 27 (by omega) (by omega)
                       rw [hr172, f1.2, show M 797 33 + 1 - 1 = M 797 33 by omega, tr_a_eq (M := M) (fun k => f1.1 806 k (by omega) (by omega)) (fun k => f1.1 812 k (by omega) (by omega)) f27 (fun k _ => f1.1 815 k (by omega) (by omega))])
                    | (have f1 := hM211.F
                       have f2 := hM224.F
                       rw [f1.1 806 _ (by omega) (by omega)] at hM224
                       rw [f2.1 810 _ (by omega) (by omega), f1.1 810 _ (by omega) (by omega)] at hM242
                       exact ⟨M211, hM211, M224, hM224, M242, hM242, rfl⟩)
                · intro c6_7
                  refine ⟨?_, ?_⟩
                  · intro c6_9
                    refine And.intro (by
                      first
                        | omega
                        | exact g92
                        | exact gmd
                        | exact ⟨by omega, by omega⟩
                        | exact ⟨⟨by omega, by omega⟩, (gw (by omega)).2.1, (gw (by omega)).1.1⟩
                        | exact ⟨⟨by omega, by omega⟩, ⟨by decide, by decide⟩, Or.inl (by decide)⟩
                        | exact ⟨⟨by rw [ab_up_o (by decide)]; omega, by rw [ab_up_o (by decide)]; omega⟩, (gw (by omega)).2.1, (gw (by omega)).1.1.f9 fun j => ab_up_o (by decide) _⟩) ?_
                    refine gK _ ⟨fun q => ?_, fun q => ?_, fun q => ?_, fun q => ?_, fun q => ?_, fun q => ?_, fun q => ?_, fun q => ?_, fun q => ?_, fun q => ?_, fun q => ?_⟩
                    all_goals first
                      | (exfalso; omega)
                      | exact hM84
                      | exact hM100
                      | exact hM126
                      | exact hM147
                      | exact hM273
                      | exact hM282
                      | exact hM314
                      | rfl
                      | (rw [gEE])
                      | (refine ⟨M158, hM158, ?_⟩
                         have f1 := hM158.F
                         have f27 : M158 797 27 = M 797 27 := f1.1 797 27 (by omega) (by omega)
                         rw [hr172, f1.2, show M 797 33 + 1 - 1 = M 797 33 by omega, tr_a_eq (M := M) (fun k => f1.1 806 k (by omega) (by omega)) (fun k => f1.1 812 k (by omega) (by omega)) f27 (fun k _ => f1.1 815 k (by omega) (by omega))])
                      | (have f1 := hM211.F
                         have f2 := hM224.F
                         rw [f1.1 806 _ (by omega) (by omega)] at hM224
                         rw [f2.1 810 _ (by omega) (by omega), f1.1 810 _ (by omega) (by omega)] at hM242
                         exact ⟨M211, hM211, M224, hM224, M242, hM242, rfl⟩)
                  · intro c6_9
                    refine ⟨?_, ?_⟩
                    · intro c6_10
                      refine Exists.intro (W1) <| Exists.intro (W2) <| ?_
                      refine And.intro (by
                        obtain ⟨y1, y2, y3⟩ := gv4 (by omega)
                        exact ⟨⟨ge0, ge1⟩, ⟨gs0, by omega⟩, gmd, y1, y2, y3, fun _ => g10 _, fun _ => g11 _, g08⟩) ?_
                      intro M314 hM314
                      refine gK _ ⟨fun q => ?_, fun q => ?_, fun q => ?_, fun q => ?_, fun q => ?_, fun q => ?_, fun q => ?_, fun q => ?_, fun q => ?_, fun q => ?_, fun q => ?_⟩
                      all_goals first
                        | (exfalso; omega)
                        | exact hM84
                        | exact hM100
                        | exact hM126
                        | exact hM147
                        | exact hM273
                        | exact hM282
                        | exact hM314
                        | rfl
                        | (rw [gEE])
                        | (refine ⟨M158, hM158, ?_⟩
                           have f1 := hM158.F
                           have f27 : M158 797 27 = M 797 27 := f1.1 797 27 (by omega) (by omega)
                           rw [hr172, f1.2, show M 797 33 + 1 - 1 = M 797 33 by omega, tr_a_eq (M := M) (fun k => f1.1 806 k (by omega) (by omega)) (fun k => f1.1 812 k (by omega) (by omega)) f27 (fun k _ => f1.1 815 k (by omega) (by omega))])
                        | (have f1 := hM211.F
                           have f2 := hM224.F
                           rw [f1.1 806 _ (by omega) (by omega)] at hM224
                           rw [f2.1 810 _ (by omega) (by omega), f1.1 810 _ (by omega) (by omega)] at hM242
                           exact ⟨M211, hM211, M224, hM224, M242, hM242, rfl⟩)
                    · intro c6_10
                      refine gK _ ⟨fun q => ?_, fun q => ?_, fun q => ?_, fun q => ?_, fun q => ?_, fun q => ?_, fun q => ?_, fun q => ?_, fun q => ?_, fun q => ?_, fun q => ?_⟩
                      all_goals first
                        | (exfalso; omega)
                        | exact hM84
                        | exact hM100
                        | exact hM126
                        | exact hM147
                        | exact hM273
                        | exact hM282
                        | exact hM314
                        | rfl
                        | (rw [gEE])
                        | (refine ⟨M158, hM158, ?_⟩
                           have f1 := hM158.F
                           have f27 : M158 797 27 = M 797 27 := f1.1 797 27 (by omega) (by omega)
                           rw [hr172, f1.2, show M 797 33 + 1 - 1 = M 797 33 by omega, tr_a_eq (M := M) (fun k => f1.1 806 k (by omega) (by omega)) (fun k => f1.1 812 k (by omega) (by omega)) f27 (fun k _ => f1.1 815 k (by omega) (by omega))])
                        | (have f1 := hM211.F
                           have f2 := hM224.F
                           rw [f1.1 806 _ (by omega) (by omega)] at hM224
                           rw [f2.1 810 _ (by omega) (by omega), f1.1 810 _ (by omega) (by omega)] at hM242
                           exact ⟨M211, hM211, M224, hM224, M242, hM242, rfl⟩)

set_option maxRecDepth 20000 in
set_option maxHeartbeats 1000000 in
theorem ok_X9_emitEvent (E : ab_E) : ab_Ok E 6 133 S_X9_emitEvent := by
  refine ab_mk rq_X9_emitEvent tk_X9_emitEvent (rt := 0) (rfl) (cuts := []) (G := [(131, S_X9_emit), (132, S_X9_emitClose), (134, S_X9_emitLoop), (186, S_X9_tryAround)]) (List.forall_mem_cons.mpr ⟨⟨4, by decide, ok_X9_emit E⟩, List.forall_mem_cons.mpr ⟨⟨5, by decide, ok_X9_emitClose E⟩, List.forall_mem_cons.mpr ⟨⟨5, by decide, ok_X9_emitLoop E⟩, List.forall_mem_cons.mpr ⟨⟨1, by decide, ok_X9_tryAround E⟩, fun _ h => absurd h List.not_mem_nil⟩⟩⟩⟩) (by decide) 214 rfl ?_
  intro a M K wd wa hS
  unfold S_X9_emitEvent at hS
  split at hS
  ·
    rename_i e md
    refine ⟨Nat.le_of_ble_eq_true rfl, fun _ _ _ _ _ => False, ?_, ?_⟩
    · exact vc_X9_emitEvent_0 e md M K  hS
    · exact fun _ _ _ _ _ h => h.elim
  · exact hS.elim
