/-! the class: the rows behind a statement added -/
theorem cr_Z_fr {f : Nat → Int} {M M' : ab_M} {p : Nat} : ∀ (fs : List pz_F) (fst lst : Int), cr_Z f M p fs fst lst → M' p 4 = M p 4 → (∀ i, i < fs.length → M' 765 i = M 765 i ∧ M' 766 i = M 766 i ∧ M' 767 i = M 767 i) → cr_sm p M M' 0 (cr_zr fs) → cr_sa p M M' (cr_zn fs) (cr_zt fs) → cr_Z f M' p fs fst lst := by
  intro fs
  induction fs with
  | nil => intro fst lst h h4 _ _ _; show M' p 4 = lst; rw [h4]; exact h
  | cons g fs ih =>
    intro fst lst h h4 ho hs ha
    obtain ⟨⟨z1, z2, z3⟩, zT, zS, zA, zZ⟩ := h
    obtain ⟨o1, o2, o3⟩ := ho fs.length (by simp)
    have hs0 : cr_sm p M M' 0 (cr_zr fs + pz_sz g.1 + 1 + (if g.2.2.1 then pz_sz g.2.2.2 else 0)) := hs
    have ha0 : cr_sa p M M' (cr_zn fs + pz_nl g.1 + (if g.2.1.1 = 7 then 1 else 0) + (if g.2.2.1 then pz_nl g.2.2.2 else 0)) (cr_zt fs + pz_nt g.1 + pz_nt1 g.2.1.1 + pz_nt2 g.2.1.1 + (if g.2.2.1 then pz_nt g.2.2.2 else 0)) := ha
    refine ⟨⟨by rw [o1]; exact z1, by rw [o2]; exact z2, by rw [o3]; exact z3⟩, cr_T_fr _ _ _ _ _ _ _ _ _ zT (hs0.le (by omega) (by omega)) (ha0.le (by omega) (by omega)), cr_S_fr zS (hs0.le (by omega) (by omega)) (ha0.le (by omega) (by omega)), fun q => ?_, ih _ _ zZ h4 (fun i hi => ho i (by rw [List.length_cons]; omega)) (hs0.le (by omega) (by omega)) (ha0.le (by omega) (by omega))⟩
    rw [if_pos q] at hs0
    rw [if_pos q, if_pos q] at ha0
    exact cr_T_fr _ _ _ _ _ _ _ _ _ (zA q) (hs0.le (by omega) (by omega)) (ha0.le (by omega) (by omega))
theorem cr_ls_cs (t : pz_T) (r0 : Nat) (hw : pz_wf t) : (t = .leaf ∧ cr_ls t r0 = -1 ∧ cr_fs t r0 = -1 ∧ pz_sz t = 0) ∨ (cr_fs t r0 = (r0 : Int) ∧ ∃ r : Nat, cr_ls t r0 = (r : Int) ∧ r0 ≤ r ∧ r < r0 + pz_sz t) := by
  cases t with
  | leaf => exact Or.inl ⟨rfl, rfl, rfl, rfl⟩
  | inner s P v q c =>
    cases c with
    | leaf => exact hw.elim
    | inner s' P' v' a b =>
      refine Or.inr ⟨rfl, r0 + pz_sz q, rfl, by omega, ?_⟩
      rw [pz_sz_nd]
      omega
theorem cr_R_add {f : Nat → Int} {M M' : ab_M} {p s R v w d sd : Nat} {fs : List pz_F} {t : pz_T} {E : List pz_Ev} (hR : cr_R f M p fs t E) (hwf : pz_wf t) (had : cr_adp M p s R v w d sd) (h : cr_AF M M' p s R v w d sd) (hd : d = fs.length) (hw : ∀ g fs', fs = g :: fs' → w = p + 1 + 1 + 3 * (cr_zr fs' + pz_sz g.1) ∧ sd = (if g.2.2.1 then 1 else 0)) (P : pz_P) : R = cr_zr fs + pz_sz t ∧ cr_T f M' p t (cr_zr fs) (cr_zp fs) (cr_zs fs) (R : Int) (pz_zkn fs) (cr_zn fs) (cr_zt fs) (pz_zpr fs).length ∧ cr_Z f M' p fs (cr_fs (pz_nd P t .leaf .leaf) (cr_zr fs)) (R : Int) ∧ M' s 8 = cr_zp fs ∧ M' s 9 = cr_zs fs ∧ M' s 11 = cr_ls t (cr_zr fs) := by
  obtain ⟨⟨r3, r6, r8, r11⟩, rk, ⟨rd, rl, rt⟩, rm, rT, rZ⟩ := hR
  obtain ⟨-, ⟨hA1, hA2, hA3⟩, -, -, -, -, -, hGH⟩ := had
  obtain ⟨F1, ⟨F2a, F2b, F2c⟩, ⟨F3a, F3b, F3c, F3d⟩, ⟨F4a, F4b, F4c, F4d, F4e⟩, F5, ⟨⟨S0, S1, S2, S3, S6, S7, S8, S9, S10, S11, S14⟩, S15, Sck⟩, F7, F8⟩ := h
  have hRr : R = cr_zr fs + pz_sz t := by omega
  rw [← hd] at rt
  have hsa : cr_sa p M M' (cr_zn fs + pz_nl t) (cr_zt fs + pz_nt t) := ⟨fun i hi => F3b i (by omega), fun i _ => ⟨F3c i, F3d i⟩⟩
  have hls := cr_ls_cs t (cr_zr fs) hwf
  have hpv : M 767 d = -1 ∨ ((cr_zr fs : Int) ≤ M 767 d) := by
    rw [rt]
    rcases hls with ⟨-, q, -⟩ | ⟨-, r, q, q1, -⟩
    · exact Or.inl q
    · exact Or.inr (by rw [q]; omega)
  have hrow : ∀ lo hi, hi ≤ R → (∀ i, lo ≤ i → i < hi → (M 767 d ≠ (i : Int)) ∧ (0 < d → w ≠ p + 1 + 1 + 3 * i)) → cr_sm p M M' lo hi := fun lo hi u1 u2 i w1 w2 j w3 k => F1 i j k (by omega) w3 (fun z => (u2 i w1 w2).1 z.2.2) (fun z => (u2 i w1 w2).2 z.1 z.2.1)
  refine ⟨hRr, ?_, ?_, ?_, ?_, by rw [S11]; exact rt⟩
  · refine cr_T_nx rT (fun r hr => ?_) (fun i w1 w2 j w3 k hn => ?_) hsa
    · have hv := hGH.v (by omega)
      rw [show p + 1 + 1 + 3 * r = v by rw [hv, show (M 767 d).toNat = r by omega]]
      exact F7 (by omega)
    · refine F1 i j k (by omega) w3 (fun z => hn ⟨by omega, z.1, z.2.1⟩) (fun z => ?_)
      cases fs with
      | nil => exact absurd z.1 (by rw [hd]; exact Nat.lt_irrefl 0)
      | cons g fs' =>
        obtain ⟨e1, -⟩ := hw g fs' rfl
        have e2 : cr_zr (g :: fs') = cr_zr fs' + pz_sz g.1 + 1 + (if g.2.2.1 then pz_sz g.2.2.2 else 0) := rfl
        have := z.2.1
        omega
  · cases fs with
    | nil =>
      show M' p 4 = _
      rw [F2b, if_pos (show d = 0 from hd)]
    | cons g fs' =>
      obtain ⟨e1, e1b⟩ := hw g fs' rfl
      have e2 : cr_zr (g :: fs') = cr_zr fs' + pz_sz g.1 + 1 + (if g.2.2.1 then pz_sz g.2.2.2 else 0) := rfl
      have hdl : d = fs'.length + 1 := hd
      have hd0 : 0 < d := by omega
      obtain ⟨⟨z1, z2, z3⟩, zT, zS, zA, zZ⟩ := rZ
      have e3 : cr_zn (g :: fs') = cr_zn fs' + pz_nl g.1 + (if g.2.1.1 = 7 then 1 else 0) + (if g.2.2.1 then pz_nl g.2.2.2 else 0) := rfl
      have e4 : cr_zt (g :: fs') = cr_zt fs' + pz_nt g.1 + pz_nt1 g.2.1.1 + pz_nt2 g.2.1.1 + (if g.2.2.1 then pz_nt g.2.2.2 else 0) := rfl
      have hlow : cr_sm p M M' 0 (cr_zr fs' + pz_sz g.1) := hrow _ _ (by omega) (fun i w1 w2 => ⟨by omega, fun _ => by omega⟩)
      have hhigh : ∀ hi, hi ≤ cr_zr (g :: fs') → cr_sm p M M' (cr_zr fs' + pz_sz g.1 + 1) hi := fun hi hh => hrow _ _ (by omega) (fun i w1 w2 => ⟨by omega, fun _ => by omega⟩)
      refine ⟨⟨by rw [F4b]; exact z1, by rw [F4c]; exact z2, by rw [F4d _ (by omega)]; exact z3⟩, cr_T_fr _ _ _ _ _ _ _ _ _ zT (hlow.le (by omega) (by omega)) (hsa.le (by omega) (by omega)), ?_, fun q => ?_, ?_⟩
      · have eR : ∀ kk, M' (p + 1 + 1 + 3 * (cr_zr fs' + pz_sz g.1)) kk = M (p + 1 + 1 + 3 * (cr_zr fs' + pz_sz g.1)) kk := fun kk => F1 _ 0 kk (by omega) (by decide) (fun z => by have := z.2.2; omega) (fun z => by have := z.2.2.1; omega)
        have eN : ∀ j kk, j ≤ 2 → kk ≠ sd → M' (p + 1 + 1 + 3 * (cr_zr fs' + pz_sz g.1) + j) kk = M (p + 1 + 1 + 3 * (cr_zr fs' + pz_sz g.1) + j) kk := fun j kk hj hk => F1 _ j kk (by omega) hj (fun z => by have := z.2.2; omega) (fun z => hk z.2.2.2)
        obtain ⟨G1, G2⟩ := F8 hd0
        rw [e1] at G1 G2
        have hf : cr_fs (pz_nd P t .leaf .leaf) (cr_zr (g :: fs')) = (cr_zr (g :: fs') : Int) := rfl
        rw [hf]
        have hB : (if M 767 d < 0 then (R : Int) else cr_fs t (cr_zr (g :: fs'))) = (cr_zr (g :: fs') : Int) := by
          rw [rt]
          rcases hls with ⟨-, q1, q2, q3⟩ | ⟨q2, r, q1, q4, -⟩
          · rw [if_pos (by omega)]; omega
          · rw [if_neg (by omega)]; exact q2
        obtain ⟨g1, g2, ⟨g3, g4, g5, g6⟩, g7, g8, g9⟩ := zS
        have hsb : cr_sa p M M' (cr_zn fs' + pz_nl g.1 + (if g.2.1.1 = 7 then 1 else 0)) (cr_zt fs' + pz_nt g.1 + pz_nt1 g.2.1.1 + pz_nt2 g.2.1.1) := hsa.le (by omega) (by omega)
        unfold cr_S
        simp only [eR]
        refine ⟨g1, g2, ?_, fun z => ?_, fun z => ?_, fun z => ?_⟩
        · cases hsn : g.2.2.1 with
          | false =>
            rw [hsn] at g3 g4 g5 g6 e1b
            have e1b : sd = 0 := e1b
            subst e1b
            refine ⟨?_, ?_, G1, ?_⟩
            · rw [G2]
              show _ = (cr_zr (g :: fs') : Int)
              rw [← hB]
              by_cases q : M 767 d < 0
              · rw [if_pos q, if_pos q]
              · rw [if_neg q, if_neg q]; exact g3
            · rw [eN 1 1 (by decide) (by decide)]; exact g4
            · rw [eN 2 1 (by decide) (by decide)]; exact g6
          | true =>
            rw [hsn] at g3 g4 g5 g6 e1b
            have e1b : sd = 1 := e1b
            subst e1b
            refine ⟨?_, ?_, ?_, G1⟩
            · rw [eN 1 0 (by decide) (by decide)]; exact g3
            · rw [G2]
              show _ = (cr_zr (g :: fs') : Int)
              rw [← hB]
              by_cases q : M 767 d < 0
              · rw [if_pos q, if_pos q]
              · rw [if_neg q, if_neg q]; exact g4
            · rw [eN 2 0 (by decide) (by decide)]; exact g5
        · rw [if_pos z] at hsb
          rw [hsb.1 _ (by omega)]; exact g7 z
        · rw [(hsb.2 (cr_zt fs' + pz_nt g.1) (by omega)).1, (hsb.2 (cr_zt fs' + pz_nt g.1) (by omega)).2]; exact g8 z
        · have hz : pz_nt1 g.2.1.1 = 1 := by
            unfold pz_nt2 at z
            unfold pz_nt1
            by_cases w : g.2.1.1 = 5 ∨ g.2.1.1 = 7
            · rw [if_neg (by omega)]
            · rw [if_neg w] at z; cases z
          rw [(hsb.2 (cr_zt fs' + pz_nt g.1 + 1) (by omega)).1, (hsb.2 (cr_zt fs' + pz_nt g.1 + 1) (by omega)).2]; exact g9 z
      · rw [if_pos q] at e2 e3 e4
        exact cr_T_fr _ _ _ _ _ _ _ _ _ (zA q) (hhigh _ (by omega)) (hsa.le (by omega) (by omega))
      · exact cr_Z_fr _ _ _ zZ (by rw [F2b, if_neg (by omega)]) (fun i hi => ⟨F4b i, F4c i, F4d i (by omega)⟩) (hlow.le (by omega) (by omega)) (hsa.le (by omega) (by omega))
  · rw [S8]
    cases fs with
    | nil => rw [if_pos (show d = 0 from hd)]; rfl
    | cons g fs' =>
      have hdl : d = fs'.length + 1 := hd
      obtain ⟨⟨z1, z2, z3⟩, -⟩ := rZ
      rw [if_neg (by omega), show d - 1 = fs'.length by omega]
      exact z1
  · rw [S9]
    cases fs with
    | nil => rw [if_pos (show d = 0 from hd)]; rfl
    | cons g fs' =>
      have hdl : d = fs'.length + 1 := hd
      obtain ⟨e1, e1b⟩ := hw g fs' rfl
      rw [if_neg (by omega), e1b]
      show _ = (if g.2.2.1 then (1 : Int) else 0)
      cases g.2.2.1 <;> rfl

