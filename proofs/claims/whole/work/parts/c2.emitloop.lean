/-! the reference writes the rows of a loop -/
/-- rows of code are written, one behind the other -/
abbrev em_I : Type := Int × Int × Int × List Int
def em_L : List em_I → ab_M → ab_M → Prop
  | [], M, M' => M' = M
  | x :: xs, M, M' => ∃ M1, em_P M M1 x.1 x.2.1 x.2.2.1 x.2.2.2 ∧ em_L xs M1 M'
theorem em_L.snoc {x : em_I} {M1 M2 : ab_M} : ∀ {xs : List em_I} {M : ab_M}, em_L xs M M1 → em_P M1 M2 x.1 x.2.1 x.2.2.1 x.2.2.2 → em_L (xs ++ [x]) M M2
  | [], M, h, h' => by
    have h : M1 = M := h
    rw [h] at h'
    exact ⟨M2, h', rfl⟩
  | y :: ys, M, ⟨A, h1, h2⟩, h' => ⟨A, h1, em_L.snoc h2 h'⟩
/-- what the rows keep -/
def em_F (M M' : ab_M) : Prop := ∀ o j : Nat, ¬ (o = 797 ∧ j = 33) → ¬ (817 ≤ o ∧ o ≤ 822) → M' o j = M o j
theorem em_F.tr {A B C : ab_M} (h : em_F A B) (h' : em_F B C) : em_F A C := fun o j a b => (h' o j a b).trans (h o j a b)
theorem em_P.F {M M' : ab_M} {op q nn : Int} {w : List Int} (h : em_P M M' op q nn w) : em_F M M' ∧ M' 797 33 = M 797 33 + 1 := ⟨fun o j a b => h.1.2.2.2.2.2 o j a (by omega) (by omega) (by omega), h.2⟩
theorem em_L.F : ∀ {xs : List em_I} {M M' : ab_M}, em_L xs M M' → em_F M M' ∧ M' 797 33 = M 797 33 + ((xs.length : Nat) : Int)
  | [], M, M', h => by
    have h : M' = M := h
    rw [h]
    exact ⟨fun _ _ _ _ => rfl, by simp⟩
  | x :: xs, M, M', ⟨A, h1, h2⟩ => by
    obtain ⟨f1, f2⟩ := h1.F
    obtain ⟨g1, g2⟩ := em_L.F h2
    refine ⟨f1.tr g1, ?_⟩
    rw [g2, f2, List.length_cons]
    omega
theorem em_w.fr {M M' : ab_M} {be nn : Int} {w : List Int} (h : em_w M be nn w) (hF : em_F M M') : em_w M' be nn w := h.imp id fun ⟨h1, h2⟩ => ⟨h1.fr fun j => hF 803 j (by omega) (by omega), h2⟩
theorem em_w.f9 {M M' : ab_M} {be nn : Int} {w : List Int} (h : em_w M be nn w) (hF : ∀ j, M' 803 j = M 803 j) : em_w M' be nn w := h.imp id fun ⟨h1, h2⟩ => ⟨h1.fr hF, h2⟩
/-- the terms of an event -/
def em_W (M : ab_M) (e : Nat) (W1 W2 : Nat → List Int) : Prop := (em_w M (M 807 e) (M 808 e) (W1 e) ∧ em_w M (M 809 e) (M 810 e) (W2 e)) ∧ ab_ir (M 808 e) ∧ ab_ir (M 810 e)
theorem em_W.fr {M M' : ab_M} {e : Nat} {W1 W2 : Nat → List Int} (h : em_W M e W1 W2) (hF : em_F M M') : em_W M' e W1 W2 := by
  obtain ⟨⟨h1, h2⟩, h3, h4⟩ := h
  have f : ∀ o, 805 ≤ o → o ≤ 812 → M' o e = M o e := fun o a b => hF o e (by omega) (by omega)
  unfold em_W
  rw [f 807 (by decide) (by decide), f 808 (by decide) (by decide), f 809 (by decide) (by decide), f 810 (by decide) (by decide)]
  exact ⟨⟨h1.fr hF, h2.fr hF⟩, h3, h4⟩
/-- the rows for the variables of a loop -/
def em_h (a : Int) : Nat → List em_I
  | 0 => []
  | k + 1 => em_h a k ++ (if pz_b a k = true then [(1, (k : Int), 0, [])] else [])
theorem em_h_len (a : Int) : ∀ k, (em_h a k).length ≤ k
  | 0 => Nat.le_refl _
  | k + 1 => by
    have := em_h_len a k
    show (em_h a k ++ _).length ≤ _
    rw [List.length_append]
    split
    · show _ + 1 ≤ _; omega
    · show _ + 0 ≤ _; omega
/-- a loop's rows -/
def em_l (M M' : ab_M) (e : Nat) (md : Int) (W1 W2 : Nat → List Int) : Prop :=
  (md = 1 → ∃ a M1, pa_any M e a ∧ em_L (((2, M 811 e, M 810 e, W2 e) :: em_h a 4) ++ [(3, 0, M 810 e, W2 e)]) M M1 ∧ em_P (ab_up M1 823 e (M1 797 33)) M' 4 0 (M 808 e) (W1 e)) ∧
  (md ≠ 1 → em_P (ab_up M 823 e (M 797 33)) M' 4 0 (M 808 e) (W1 e))
def em_a (M : ab_M) (its : Int) : Prop := 0 ≤ its ∧ ∃ ce : Nat, its < (ce : Int) ∧ ce < 400 ∧ M 805 ce = 10 ∧ M 812 ce = its ∧ ∀ j : Nat, j ≤ ce → ab_ir (M 805 j) ∧ (M 805 j = 10 → ab_ir (M 812 j))
theorem em_F.any {M M' : ab_M} {e : Nat} {a : Int} (hF : em_F M M') (h : pa_any M' e a) : pa_any M e a := by
  obtain ⟨n, z1, z2, z3, z4⟩ := h
  have ee := fun o k (x : 805 ≤ o) (y : o ≤ 812) => hF o k (by omega) (by omega)
  refine ⟨n, ?_, z2, ?_, fun j hj => ?_⟩
  · rw [z1]; exact an_s_fr (fun k => ee 805 k (by decide) (by decide)) (fun k => ee 806 k (by decide) (by decide)) _ _
  · rw [← ee 805 _ (by decide) (by decide), ← ee 812 _ (by decide) (by decide)]; exact z3
  · rw [← ee 805 _ (by decide) (by decide), ← ee 812 _ (by decide) (by decide)]; exact z4 j hj
theorem em_F.a {M M' : ab_M} {its : Int} (hF : em_F M M') (h : em_a M its) : em_a M' its := by
  have ee := fun o k (x : 805 ≤ o) (y : o ≤ 812) => hF o k (by omega) (by omega)
  obtain ⟨h0, ce, h1, h2, h3, h4, h5⟩ := h
  refine ⟨h0, ce, h1, h2, by rw [ee _ _ (by decide) (by decide)]; exact h3, by rw [ee _ _ (by decide) (by decide)]; exact h4, fun j hj => ?_⟩
  rw [ee _ _ (by decide) (by decide), ee _ _ (by decide) (by decide)]
  exact h5 j hj

def S_X9_emitLoop : ab_PT := fun a M K => match a with
  | [.inr (.inr (.inr (797, 9, 0))), .inr (.inl e), .inr (.inl md)] => (∃ W1 : Nat → List Int, ∃ W2 : Nat → List Int, (((0 ≤ e ∧ e < 400) ∧ (0 ≤ M 797 33 ∧ M 797 33 ≤ 249) ∧ ab_ir md ∧ em_W M e.toNat W1 W2 ∧ (md = 1 → em_a M e))) ∧ (∀ Mx : ab_M, (em_l M Mx e.toNat md W1 W2) → K [] Mx))
  | _ => False
set_option maxRecDepth 20000 in
theorem vc_X9_emitLoop_0 (e : Int) (md : Int) (M : ab_M) (K : List ab_V → ab_M → Prop) (hS : (∃ W1 : Nat → List Int, ∃ W2 : Nat → List Int, (((0 ≤ e ∧ e < 400) ∧ (0 ≤ M 797 33 ∧ M 797 33 ≤ 249) ∧ ab_ir md ∧ em_W M e.toNat W1 W2 ∧ (md = 1 → em_a M e))) ∧ (∀ Mx : ab_M, (em_l M Mx e.toNat md W1 W2) → K [] Mx))) : (ab_ir md ∧ ab_ir (1 : Int)) ∧ ((¬ md = (1 : Int) → (0 ≤ e ∧ e < ((400 : Nat) : Int)) ∧ (0 ≤ e ∧ e < ((400 : Nat) : Int)) ∧ (0 ≤ e ∧ e < ((400 : Nat) : Int)) ∧ (∃ w_110 : List Int, (((0 ≤ (ab_up M 823 e.toNat (M 797 33)) 797 33 ∧ (ab_up M 823 e.toNat (M 797 33)) 797 33 < 256) ∧ ab_ir (M 808 e.toNat) ∧ em_w (ab_up M 823 e.toNat (M 797 33)) (M 807 e.toNat) (M 808 e.toNat) w_110)) ∧ (∀ M110 : ab_M, (em_P (ab_up M 823 e.toNat (M 797 33)) M110 (4 : Int) (0 : Int) (M 808 e.toNat) w_110) → K [] M110))) ∧ (md = (1 : Int) → (0 ≤ e ∧ e < ((400 : Nat) : Int)) ∧ (0 ≤ e ∧ e < ((400 : Nat) : Int)) ∧ (0 ≤ e ∧ e < ((400 : Nat) : Int)) ∧ (∃ w_25 : List Int, (((0 ≤ M 797 33 ∧ M 797 33 < 256) ∧ ab_ir (M 810 e.toNat) ∧ em_w M (M 809 e.toNat) (M 810 e.toNat) w_25)) ∧ (∀ M25 : ab_M, (em_P M M25 (2 : Int) (M 811 e.toNat) (M 810 e.toNat) w_25) → (0 ≤ e ∧ ∃ ce : Nat, e < (ce : Int) ∧ ce < 400 ∧ M25 805 ce = 10 ∧ M25 812 ce = e ∧ ∀ j : Nat, j ≤ ce → ab_ir (M25 805 j) ∧ (M25 805 j = 10 → ab_ir (M25 812 j))) ∧ (∀ r30 : Int, (∃ n : Nat, r30 = an_s M25 (e.toNat + 1) n ∧ e.toNat + 1 + n < 400 ∧ (M25 805 (e.toNat + 1 + n) = 10 ∧ M25 812 (e.toNat + 1 + n) = e) ∧ ∀ j : Nat, j < n → ¬ (M25 805 (e.toNat + 1 + j) = 10 ∧ M25 812 (e.toNat + 1 + j) = e)) → (∃ n', ((n' = (4 - (0 : Int)).toNat ∧ e = e ∧ md = md ∧ 0 ≤ (0 : Int) ∧ (0 : Int) ≤ 4 ∧ md = 1 ∧ ∃ (W1 W2 : Nat → List Int), ((0 ≤ e ∧ e < 400) ∧ (0 ≤ M 797 33 ∧ M 797 33 ≤ 249) ∧ ab_ir md ∧ em_W M e.toNat W1 W2 ∧ (md = 1 → em_a M e)) ∧ (∀ Mx : ab_M, em_l M Mx e.toNat md W1 W2 → K [] Mx) ∧ pa_any M e.toNat r30 ∧ em_L ((2, M 811 e.toNat, M 810 e.toNat, W2 e.toNat) :: em_h r30 (0 : Int).toNat) M M25)))))))) := by
  obtain ⟨W1, W2, ⟨⟨ge0, ge1⟩, ⟨gs0, gs1⟩, gmd, gW, ga⟩, gK⟩ := hS
  obtain ⟨⟨gw1, gw2⟩, gi1, gi2⟩ := id gW
  refine And.intro (by
    first
      | omega
      | exact gmd
      | exact ⟨by omega, by omega⟩
      | exact ⟨gmd, by decide, by decide⟩
      | exact ⟨⟨by omega, by omega⟩, by omega, by omega⟩) ?_
  refine ⟨?_, ?_⟩
  · intro c2
    refine And.intro (by
      first
        | omega
        | exact gmd
        | exact ⟨by omega, by omega⟩
        | exact ⟨gmd, by decide, by decide⟩
        | exact ⟨⟨by omega, by omega⟩, by omega, by omega⟩) ?_
    refine And.intro (by
      first
        | omega
        | exact gmd
        | exact ⟨by omega, by omega⟩
        | exact ⟨gmd, by decide, by decide⟩
        | exact ⟨⟨by omega, by omega⟩, by omega, by omega⟩) ?_
    refine And.intro (by
      first
        | omega
        | exact gmd
        | exact ⟨by omega, by omega⟩
        | exact ⟨gmd, by decide, by decide⟩
        | exact ⟨⟨by omega, by omega⟩, by omega, by omega⟩) ?_
    refine Exists.intro ((W1 e.toNat)) <| ?_
    refine And.intro (by
      first
        | exact ⟨⟨by rw [ab_up_o (by decide)]; omega, by rw [ab_up_o (by decide)]; omega⟩, gi1, gw1.f9 fun j => ab_up_o (by decide) _⟩
        | exact ⟨⟨by rw [ab_up_o (by decide), hM82.F.2]; omega, by rw [ab_up_o (by decide), hM82.F.2]; omega⟩, (((gW.fr hF).fr hM82.F.1).2.1), ((gW.fr hF).fr hM82.F.1).1.1.f9 fun j => ab_up_o (by decide) _⟩) ?_
    intro M110 hM110
    exact gK _ ⟨fun q => absurd q c2, fun _ => hM110⟩
  · intro c2
    refine And.intro (by
      first
        | omega
        | exact gmd
        | exact ⟨by omega, by omega⟩
        | exact ⟨gmd, by decide, by decide⟩
        | exact ⟨⟨by omega, by omega⟩, by omega, by omega⟩) ?_
    refine And.intro (by
      first
        | omega
        | exact gmd
        | exact ⟨by omega, by omega⟩
        | exact ⟨gmd, by decide, by decide⟩
        | exact ⟨⟨by omega, by omega⟩, by omega, by omega⟩) ?_
    refine And.intro (by
      first
        | omega
        | exact gmd
        | exact ⟨by omega, by omega⟩
        | exact ⟨gmd, by decide, by decide⟩
        | exact ⟨⟨by omega, by omega⟩, by omega, by omega⟩) ?_
    refine Exists.intro ((W2 e.toNat)) <| ?_
    refine And.intro (by
      exact ⟨⟨by omega, by omega⟩, gi2, gw2⟩) ?_
    intro M25 hM25
    refine And.intro (by
      exact hM25.F.1.a (ga c2)) ?_
    intro r30 hr30
    refine ⟨_, rfl, rfl, rfl, by decide, by decide, c2, W1, W2, ⟨⟨ge0, ge1⟩, ⟨gs0, gs1⟩, gmd, gW, ga⟩, gK, ?_, ⟨_, hM25, rfl⟩⟩
    refine hM25.F.1.any ?_
    unfold pa_any
    rw [show ((e.toNat : Nat) : Int) = e by omega]
    exact hr30

set_option maxRecDepth 20000 in
theorem vc_X9_emitLoop_37 (e : Int) (md : Int) (M : ab_M) (K : List ab_V → ab_M → Prop) (hS : (∃ W1 : Nat → List Int, ∃ W2 : Nat → List Int, (((0 ≤ e ∧ e < 400) ∧ (0 ≤ M 797 33 ∧ M 797 33 ≤ 249) ∧ ab_ir md ∧ em_W M e.toNat W1 W2 ∧ (md = 1 → em_a M e))) ∧ (∀ Mx : ab_M, (em_l M Mx e.toNat md W1 W2) → K [] Mx))) (n : Nat) (e1 : Int) (m1 : Int) (a : Int) (k : Int) (M1 : ab_M) (hI : n = (4 - k).toNat ∧ e = e1 ∧ md = m1 ∧ 0 ≤ k ∧ k ≤ 4 ∧ md = 1 ∧ ∃ (W1 W2 : Nat → List Int), ((0 ≤ e ∧ e < 400) ∧ (0 ≤ M 797 33 ∧ M 797 33 ≤ 249) ∧ ab_ir md ∧ em_W M e.toNat W1 W2 ∧ (md = 1 → em_a M e)) ∧ (∀ Mx : ab_M, em_l M Mx e.toNat md W1 W2 → K [] Mx) ∧ pa_any M e.toNat a ∧ em_L ((2, M 811 e.toNat, M 810 e.toNat, W2 e.toNat) :: em_h a k.toNat) M M1) : (ab_ir k ∧ ab_ir (4 : Int)) ∧ (((4 : Int) ≤ k → (0 ≤ e1 ∧ e1 < ((400 : Nat) : Int)) ∧ (0 ≤ e1 ∧ e1 < ((400 : Nat) : Int)) ∧ (∃ w_82 : List Int, (((0 ≤ M1 797 33 ∧ M1 797 33 < 256) ∧ ab_ir (M1 810 e1.toNat) ∧ em_w M1 (M1 809 e1.toNat) (M1 810 e1.toNat) w_82)) ∧ (∀ M82 : ab_M, (em_P M1 M82 (3 : Int) (0 : Int) (M1 810 e1.toNat) w_82) → (0 ≤ e1 ∧ e1 < ((400 : Nat) : Int)) ∧ (0 ≤ e1 ∧ e1 < ((400 : Nat) : Int)) ∧ (0 ≤ e1 ∧ e1 < ((400 : Nat) : Int)) ∧ (∃ w_110 : List Int, (((0 ≤ (ab_up M82 823 e1.toNat (M82 797 33)) 797 33 ∧ (ab_up M82 823 e1.toNat (M82 797 33)) 797 33 < 256) ∧ ab_ir (M82 808 e1.toNat) ∧ em_w (ab_up M82 823 e1.toNat (M82 797 33)) (M82 807 e1.toNat) (M82 808 e1.toNat) w_110)) ∧ (∀ M110 : ab_M, (em_P (ab_up M82 823 e1.toNat (M82 797 33)) M110 (4 : Int) (0 : Int) (M82 808 e1.toNat) w_110) → K [] M110))))) ∧ (k < (4 : Int) → (True) ∧ (∀ r46 : Int, (r46 = if ab_and (ab_shr a k) 1 = 1 then 1 else 0) → (ab_ir r46) ∧ ((r46 = 0 → (∃ n', n' < n ∧ ((n' = (4 - (k + 1)).toNat ∧ e = e1 ∧ md = m1 ∧ 0 ≤ (k + 1) ∧ (k + 1) ≤ 4 ∧ md = 1 ∧ ∃ (W1 W2 : Nat → List Int), ((0 ≤ e ∧ e < 400) ∧ (0 ≤ M 797 33 ∧ M 797 33 ≤ 249) ∧ ab_ir md ∧ em_W M e.toNat W1 W2 ∧ (md = 1 → em_a M e)) ∧ (∀ Mx : ab_M, em_l M Mx e.toNat md W1 W2 → K [] Mx) ∧ pa_any M e.toNat a ∧ em_L ((2, M 811 e.toNat, M 810 e.toNat, W2 e.toNat) :: em_h a (k + 1).toNat) M M1)))) ∧ (¬ r46 = 0 → (∃ w_58 : List Int, (((0 ≤ M1 797 33 ∧ M1 797 33 < 256) ∧ ab_ir (0 : Int) ∧ em_w M1 (0 : Int) (0 : Int) w_58)) ∧ (∀ M58 : ab_M, (em_P M1 M58 (1 : Int) k (0 : Int) w_58) → (∃ n', n' < n ∧ ((n' = (4 - (k + 1)).toNat ∧ e = e1 ∧ md = m1 ∧ 0 ≤ (k + 1) ∧ (k + 1) ≤ 4 ∧ md = 1 ∧ ∃ (W1 W2 : Nat → List Int), ((0 ≤ e ∧ e < 400) ∧ (0 ≤ M 797 33 ∧ M 797 33 ≤ 249) ∧ ab_ir md ∧ em_W M e.toNat W1 W2 ∧ (md = 1 → em_a M e)) ∧ (∀ Mx : ab_M, em_l M Mx e.toNat md W1 W2 → K [] Mx) ∧ pa_any M e.toNat a ∧ em_L ((2, M 811 e.toNat, M 810 e.toNat, W2 e.toNat) :: em_h a (k + 1).toNat) M M58)))))))))) := by
  obtain ⟨hn, q1, q2, hk0, hk1, hmd, W1, W2, ⟨⟨ge0, ge1⟩, ⟨gs0, gs1⟩, gmd, gW, ga⟩, gK, hany, hL⟩ := hI
  clear hS
  subst q1
  subst q2
  obtain ⟨hF, hsz⟩ := hL.F
  rw [List.length_cons] at hsz
  have hlen := em_h_len a k.toNat
  obtain ⟨⟨gw1, gw2⟩, gi1, gi2⟩ := id (gW.fr hF)
  obtain ⟨⟨gv1, gv2⟩, gj1, gj2⟩ := id gW
  refine And.intro (by
    first
      | omega
      | exact gmd
      | exact ⟨by omega, by omega⟩
      | exact ⟨gmd, by decide, by decide⟩
      | exact ⟨⟨by omega, by omega⟩, by omega, by omega⟩) ?_
  refine ⟨?_, ?_⟩
  · intro c40
    refine And.intro (by
      first
        | omega
        | exact gmd
        | exact ⟨by omega, by omega⟩
        | exact ⟨gmd, by decide, by decide⟩
        | exact ⟨⟨by omega, by omega⟩, by omega, by omega⟩) ?_
    refine And.intro (by
      first
        | omega
        | exact gmd
        | exact ⟨by omega, by omega⟩
        | exact ⟨gmd, by decide, by decide⟩
        | exact ⟨⟨by omega, by omega⟩, by omega, by omega⟩) ?_
    refine Exists.intro ((W2 e.toNat)) <| ?_
    refine And.intro (by
      exact ⟨⟨by omega, by omega⟩, gi2, gw2⟩) ?_
    intro M82 hM82
    refine And.intro (by
      first
        | omega
        | exact gmd
        | exact ⟨by omega, by omega⟩
        | exact ⟨gmd, by decide, by decide⟩
        | exact ⟨⟨by omega, by omega⟩, by omega, by omega⟩) ?_
    refine And.intro (by
      first
        | omega
        | exact gmd
        | exact ⟨by omega, by omega⟩
        | exact ⟨gmd, by decide, by decide⟩
        | exact ⟨⟨by omega, by omega⟩, by omega, by omega⟩) ?_
    refine And.intro (by
      first
        | omega
        | exact gmd
        | exact ⟨by omega, by omega⟩
        | exact ⟨gmd, by decide, by decide⟩
        | exact ⟨⟨by omega, by omega⟩, by omega, by omega⟩) ?_
    refine Exists.intro ((W1 e.toNat)) <| ?_
    refine And.intro (by
      first
        | exact ⟨⟨by rw [ab_up_o (by decide)]; omega, by rw [ab_up_o (by decide)]; omega⟩, gi1, gw1.f9 fun j => ab_up_o (by decide) _⟩
        | exact ⟨⟨by rw [ab_up_o (by decide), hM82.F.2]; omega, by rw [ab_up_o (by decide), hM82.F.2]; omega⟩, (((gW.fr hF).fr hM82.F.1).2.1), ((gW.fr hF).fr hM82.F.1).1.1.f9 fun j => ab_up_o (by decide) _⟩) ?_
    intro M110 hM110
    have f5 : M82 808 e.toNat = M 808 e.toNat := (hM82.F.1 808 _ (by omega) (by omega)).trans (hF 808 _ (by omega) (by omega))
    have f7 : M1 810 e.toNat = M 810 e.toNat := hF 810 _ (by omega) (by omega)
    rw [f5] at hM110
    rw [f7] at hM82
    rw [show k.toNat = 4 by omega] at hL
    exact gK _ ⟨fun _ => ⟨a, M82, hany, em_L.snoc (xs := _ :: em_h a 4) hL hM82, hM110⟩, fun q => absurd hmd q⟩
  · intro c40
    refine And.intro trivial ?_
    intro r46 hr46
    refine And.intro (by
      first
        | omega
        | exact gmd
        | exact ⟨by omega, by omega⟩
        | exact ⟨gmd, by decide, by decide⟩
        | exact ⟨⟨by omega, by omega⟩, by omega, by omega⟩) ?_
    refine ⟨?_, ?_⟩
    · intro c49
      rw [hr46] at c49
      rw [ab_bf] at c49
      clear hr46 r46
      have hb : ¬ pz_b a k.toNat = true := fun z => c49 (by rw [pz_b_has (by omega) (by omega), if_pos z])
      refine ⟨_, ?_, rfl, rfl, rfl, by omega, by omega, hmd, W1, W2, ⟨⟨ge0, ge1⟩, ⟨gs0, gs1⟩, gmd, gW, ga⟩, gK, hany, ?_⟩
      · omega
      rw [show (k + 1).toNat = k.toNat + 1 by omega]
      show em_L (_ :: (em_h a k.toNat ++ (if pz_b a k.toNat = true then _ else []))) M M1
      rw [if_neg hb, List.append_nil]
      exact hL
    · intro c49
      rw [hr46] at c49
      rw [ab_bt] at c49
      clear hr46 r46
      refine Exists.intro ([]) <| ?_
      refine And.intro (by
        exact ⟨⟨by omega, by omega⟩, ⟨by decide, by decide⟩, Or.inl (by decide)⟩) ?_
      intro M58 hM58
      have hb : pz_b a k.toNat = true := Classical.byContradiction fun z => by
        rw [pz_b_has (by omega) (by omega), if_neg z] at c49
        omega
      refine ⟨_, ?_, rfl, rfl, rfl, by omega, by omega, hmd, W1, W2, ⟨⟨ge0, ge1⟩, ⟨gs0, gs1⟩, gmd, gW, ga⟩, gK, hany, ?_⟩
      · omega
      rw [show (k + 1).toNat = k.toNat + 1 by omega]
      show em_L (_ :: (em_h a k.toNat ++ (if pz_b a k.toNat = true then _ else []))) M M58
      rw [if_pos hb]
      refine em_L.snoc (xs := _ :: em_h a k.toNat) hL ?_
      rw [show ((k.toNat : Nat) : Int) = k by omega]
      exact hM58

set_option maxRecDepth 20000 in
set_option maxHeartbeats 1000000 in
theorem ok_X9_emitLoop (E : ab_E) : ab_Ok E 5 134 S_X9_emitLoop := by
  refine ab_mk rq_X9_emitLoop tk_X9_emitLoop (rt := 0) (rfl) (cuts := [37]) (G := [(119, S_X9_anyOf), (131, S_X9_emit), (143, S_X9_has)]) (List.forall_mem_cons.mpr ⟨⟨1, by decide, ok_X9_anyOf E⟩, List.forall_mem_cons.mpr ⟨⟨4, by decide, ok_X9_emit E⟩, List.forall_mem_cons.mpr ⟨⟨1, by decide, ok_X9_has E⟩, fun _ h => absurd h List.not_mem_nil⟩⟩⟩) (by decide) 120 rfl ?_
  intro a M K wd wa hS
  unfold S_X9_emitLoop at hS
  split at hS
  ·
    rename_i e md
    refine ⟨Nat.le_of_ble_eq_true rfl, fun pc n L st M1 => match pc, L, st with
      | 37, [.inr (.inr (.inr (797, 9, 0))), .inr (.inl e1), .inr (.inl m1), .inr (.inl a), .inr (.inl k)], [] => (n = (4 - k).toNat ∧ e = e1 ∧ md = m1 ∧ 0 ≤ k ∧ k ≤ 4 ∧ md = 1 ∧ ∃ (W1 W2 : Nat → List Int), ((0 ≤ e ∧ e < 400) ∧ (0 ≤ M 797 33 ∧ M 797 33 ≤ 249) ∧ ab_ir md ∧ em_W M e.toNat W1 W2 ∧ (md = 1 → em_a M e)) ∧ (∀ Mx : ab_M, em_l M Mx e.toNat md W1 W2 → K [] Mx) ∧ pa_any M e.toNat a ∧ em_L ((2, M 811 e.toNat, M 810 e.toNat, W2 e.toNat) :: em_h a k.toNat) M M1)
      | _, _, _ => False, ?_, ?_⟩
    · exact vc_X9_emitLoop_0 e md M K  hS
    · intro pc n L st M1 hI wd1 wL wst
      (try dsimp only at hI)
      split at hI
      ·
        rename_i e1 m1 a k
        exact vc_X9_emitLoop_37 e md M K  hS n e1 m1 a k _ hI
      · exact hI.elim
  · exact hS.elim
