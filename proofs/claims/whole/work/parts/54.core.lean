/-! the class: a statement read -/
theorem pz_kd_cs (s : Int) (x : Int × Int × Int × Int × Int × Int × Int) : pz_kd (s, x) = if s = 2 then [0] else if s = 5 then [3] else if s = 7 then [1, 2] else [] := rfl
/-- kept from sight -/
def cr_wr (A : Prop) : Prop := A
theorem cr_X.fr {o p s R : Nat} {M N : ab_M} {T : Nat} {a f v fi se : Int} {tl : List (Nat × Int)} (h : cr_X o p s M N T a f v fi se tl) (hpp : p = 395 ∨ p = 26) (hR : R < 120) (hs : s = p + 1 + 1 + 3 * R) :
    cr_sm p M N 0 R ∧ (∀ l, cr_sa p M N l T) ∧ (∀ k, k ≠ 11 → N p k = M p k) ∧ (∀ k, N (p + 365) k = M (p + 365) k) ∧ (∀ k, N (p + 366) k = M (p + 366) k) ∧ (∀ k, k ≠ 1 → k ≠ 2 → k ≠ 3 → N s k = M s k) ∧ (∀ k, N (s + 1) k = M (s + 1) k ∧ N (s + 2) k = M (s + 2) k) ∧ (∀ k, 5 ≤ k → N 764 k = M 764 k) ∧ (∀ k, N 765 k = M 765 k ∧ N 766 k = M 766 k ∧ N 767 k = M 767 k) := by
  obtain ⟨-, x2, -⟩ := h
  refine ⟨fun i w1 w2 j w3 k => x2 _ _ (by omega) (by omega) (by omega) (by omega), fun l => ⟨fun i hi => x2 _ _ (by omega) (by omega) (by omega) (by omega), fun i hi => ⟨x2 _ _ (by omega) (by omega) (by omega) (by omega), x2 _ _ (by omega) (by omega) (by omega) (by omega)⟩⟩, fun k hk => x2 _ _ (by omega) (by omega) (by omega) (by omega), fun k => x2 _ _ (by omega) (by omega) (by omega) (by omega), fun k => x2 _ _ (by omega) (by omega) (by omega) (by omega), fun k h1 h2 h3 => x2 _ _ (by omega) (by omega) (by omega) (by omega), fun k => ⟨x2 _ _ (by omega) (by omega) (by omega) (by omega), x2 _ _ (by omega) (by omega) (by omega) (by omega)⟩, fun k hk => x2 _ _ (by omega) (by omega) (by omega) (by omega), fun k => ⟨x2 _ _ (by omega) (by omega) (by omega) (by omega), x2 _ _ (by omega) (by omega) (by omega) (by omega), x2 _ _ (by omega) (by omega) (by omega) (by omega)⟩⟩
theorem pz_nts (s : Int) : (pz_nt1 s = 0 ∨ pz_nt1 s = 1) ∧ (pz_nt2 s = 0 ∨ pz_nt2 s = 1) ∧ (pz_nt2 s = 1 → pz_nt1 s = 1) := by
  unfold pz_nt1 pz_nt2
  by_cases q1 : s = 1 ∨ s = 4 ∨ s = 8
  · have q2 : ¬ (s = 5 ∨ s = 7) := by omega
    simp [q1, q2]
  · by_cases q2 : s = 5 ∨ s = 7
    · simp [q1, q2]
    · simp [q1, q2]
theorem pz_kdl (s : Int) : (pz_kd (s, 0, 0, 0, 0, 0, 0, 0)).length = if s = 7 then 2 else if s = 2 ∨ s = 5 then 1 else 0 := by
  rw [pz_kd_cs]
  by_cases q7 : s = 7
  · simp [q7]
  · by_cases q2 : s = 2
    · simp [q2]
    · by_cases q5 : s = 5
      · simp [q5]
      · simp [q7, q2, q5]
theorem pz_kds1 (P : pz_P) (q c : Nat) : pz_kds [pz_evP P q c] = pz_kd (P.1, 0, 0, 0, 0, 0, 0, 0) := by
  rw [pz_kds_cons, pz_kd_evP]
  exact List.append_nil _
theorem pz_kds2 (w : Int) (i : Nat) : pz_kds [pz_eo w i] = [] := rfl
theorem pz_kds3 (w : Int) (i : Nat) : pz_kds [pz_ec w i] = [] := rfl
/-- a statement read: its row, the rows around it -/
def cr_CO (f : Nat → Int) (N : ab_M) (p : Nat) (fs : List pz_F) (t : pz_T) (E : List pz_Ev) (P : pz_P) : Prop :=
  cr_T f N p t (cr_zr fs) (cr_zp fs) (cr_zs fs) ((cr_zr fs + pz_sz t : Nat) : Int) (pz_zkn fs) (cr_zn fs) (cr_zt fs) (pz_zpr fs).length ∧
  cr_S f N p (cr_zr fs + pz_sz t) P (cr_zp fs) (cr_zs fs) (-1) (cr_ls t (cr_zr fs)) (pz_zkn fs + pz_kn t) (cr_zn fs + pz_nl t) (cr_zt fs + pz_nt t) ((pz_zpr fs).length + (pz_pr t).length) (-1) (-1) (-1) (-1) (-1) ∧
  cr_Z f N p fs (cr_fs (pz_nd P t .leaf .leaf) (cr_zr fs)) ((cr_zr fs + pz_sz t : Nat) : Int) ∧
  (N p 3 = ((cr_zr fs + pz_sz t + 1 : Nat) : Int) ∧ N p 6 = (((pz_kds E).length + (pz_kd (P.1, 0, 0, 0, 0, 0, 0, 0)).length : Nat) : Int) ∧ N p 8 = ((cr_zn fs + pz_nl t + (if P.1 = 7 then 1 else 0) : Nat) : Int) ∧ N p 11 = ((cr_zt fs + pz_nt t + pz_nt1 P.1 + pz_nt2 P.1 : Nat) : Int)) ∧
  (∀ (k : Nat) (v : Int), (pz_kds E ++ pz_kd (P.1, 0, 0, 0, 0, 0, 0, 0))[k]? = some v → N (p + 365) k = v) ∧
  (N 764 8 = (fs.length : Int) ∧ N 764 9 = (pz_zl fs : Int) ∧ N 767 fs.length = ((cr_zr fs + pz_sz t : Nat) : Int)) ∧
  (∀ r : Nat, r < cr_zr fs + pz_sz t + 1 → N (p + 1 + 1 + 3 * r) 6 = 0 ∧ N (p + 1 + 1 + 3 * r) 7 = 0)
theorem cr_core {o p s R v w d sd : Nat} {M M10 N : ab_M} {fs : List pz_F} {t : pz_T} {E : List pz_Ev} {P : pz_P} {a fi se vv : Int} {tl : List (Nat × Int)} (hR : cr_R (M (o + 1)) M p fs t E) (hwf : pz_wf t) (hk : (pz_kds E).length = pz_zkn fs + pz_kn t) (hok : cr_ok o p M) (had : cr_adp M p s R v w d sd) (hAF : cr_AF M M10 p s R v w d sd) (hd : d = fs.length) (hw : ∀ g fs', fs = g :: fs' → w = p + 1 + 1 + 3 * (cr_zr fs' + pz_sz g.1) ∧ sd = (if g.2.2.1 then 1 else 0))
    (hX : cr_X o p s M10 N (M10 p 11).toNat a (-9) vv fi se tl) (hL : pz_srt (M 764 3) = P.1) (hP0 : P.1 ≠ -9) (hv : vv = if P.1 = 0 ∨ P.1 = 1 ∨ P.1 = 5 then P.2.1 else -1) (hfi : fi = if pz_nt1 P.1 = 1 then ((cr_zt fs + pz_nt t : Nat) : Int) else -1) (hse : se = if pz_nt2 P.1 = 1 then ((cr_zt fs + pz_nt t : Nat) : Int) + 1 else -1)
    (htl : tl = (if pz_nt1 P.1 = 1 then [((pz_zpr fs).length + (pz_pr t).length + 1, (P.2.2.1.length : Int))] else []) ++ (if pz_nt2 P.1 = 1 then [((pz_zpr fs).length + (pz_pr t).length + 1 + P.2.2.1.length + (if P.1 = 5 then 1 else 0), (P.2.2.2.length : Int))] else [])) : cr_CO (M (o + 1)) N p fs t E P := by
  obtain ⟨hRr, aT, aZ, a8, a9, a11⟩ := cr_R_add hR hwf had hAF hd hw P
  obtain ⟨⟨r3, r6, r8, r11⟩, rk, ⟨rd, rl, rt⟩, rm, -, -⟩ := hR
  obtain ⟨-, ⟨hA1, hA2, hA3⟩, hB, -, -, -, -, -⟩ := had
  obtain ⟨F1, ⟨F2a, F2b, F2c⟩, ⟨F3a, F3b, F3c, F3d⟩, ⟨F4a, F4b, F4c, F4d, F4e⟩, F5, ⟨⟨S0, S1, S2, S3, S6, S7, S8, S9, S10, S11, S14⟩, ⟨W0, W1, W2, W3⟩, Sck⟩, F7, F8⟩ := hAF
  have hpp := cr_opp hok.2.2.1
  have eT : (M10 p 11).toNat = cr_zt fs + pz_nt t := by omega
  have ho : o + 1 < 25 := by rcases hok.2.2.1 with ⟨q, -⟩ | ⟨q, -⟩ <;> omega
  have hf : M10 (o + 1) = M (o + 1) := by
    funext j
    exact F5 _ _ (by omega) (by omega)
  have hsl : cr_wr _ := pz_srt_let hL hP0
  have hsr : s = p + 1 + 1 + 3 * (cr_zr fs + pz_sz t) := by rw [hA3, hRr]
  have hnt : cr_wr _ := pz_nts P.1
  obtain ⟨hsmN, hsaN, eP, e65, e66, eS, eS12, e764, e567⟩ := cr_X.fr hX hpp hA2 hA3
  obtain ⟨x1, x2, -, x5⟩ := hX
  obtain ⟨y1, y2, y3, y4, y5⟩ := x5 rfl
  rw [eT] at y1 y5 hsaN
  rw [hf] at y5
  have hnts : pz_nt1 P.1 + pz_nt2 P.1 = tl.length := by
    have h1 := hnt.1
    have h2 := hnt.2.1
    rw [htl, List.length_append]
    rcases h1 with q1 | q1 <;> rcases h2 with q2 | q2 <;> rw [q1, q2] <;> rfl
  have hkl := pz_kdl P.1
  have hck : cr_wr ((P.1 = 7 → M10 p 6 = M p 6 + 2 ∧ M10 p 8 = M p 8 + 1 ∧ M10 (p + 365) (M p 6).toNat = 1 ∧ M10 (p + 365) (M p 6 + 1).toNat = 2 ∧ M10 (p + 366) (M p 8).toNat = M p 3 ∧ M10 s 4 = M p 6 ∧ M10 s 5 = M p 8) ∧ (P.1 = 2 ∨ P.1 = 5 → M10 p 6 = M p 6 + 1 ∧ M10 p 8 = M p 8 ∧ M10 (p + 365) (M p 6).toNat = (if P.1 = 2 then 0 else 3) ∧ M10 s 4 = M p 6 ∧ M10 s 5 = -1) ∧ (¬ P.1 = 7 → ¬ (P.1 = 2 ∨ P.1 = 5) → M10 p 6 = M p 6 ∧ M10 p 8 = M p 8 ∧ M10 s 4 = -1 ∧ M10 s 5 = -1)) := by
    have l7 := hsl.2.1
    have l2 := hsl.2.2.1
    have l5 := hsl.2.2.2.1
    refine ⟨fun q => Sck.1 (l7.2 q), fun q => ?_, fun q1 q2 => Sck.2.2 (fun z => q1 (l7.1 z)) (fun z => q2 (by rcases z with z | z; exact Or.inl (l2.1 z); exact Or.inr (l5.1 z)))⟩
    have := Sck.2.1 (by rcases q with z | z; exact Or.inl (l2.2 z); exact Or.inr (l5.2 z))
    by_cases z : P.1 = 2
    · rw [if_pos z]
      rw [if_pos (l2.2 z)] at this
      exact this
    · rw [if_neg z]
      rw [if_neg (fun y => z (l2.1 y))] at this
      exact this
  rw [hRr] at hsmN
  refine ⟨?_, ?_, ?_, ⟨?_, ?_, ?_, ?_⟩, fun k vk hkv => ?_, ⟨?_, ?_, ?_⟩, fun r hr => ?_⟩
  · have h2 := cr_T_fr _ _ _ _ _ _ _ _ _ aT (hsmN.le (by omega) (by omega)) (hsaN _)
    rw [hRr] at h2
    exact h2
  · unfold cr_S
    rw [← hsr]
    refine ⟨⟨?_, ?_, ?_, ?_, ?_, ?_⟩, ⟨?_, ?_, ?_, ?_, ?_⟩, ⟨?_, ?_, ?_, ?_⟩, fun z => ?_, fun z => ?_, fun z => ?_⟩
    · rw [eS 0 (by decide) (by decide) (by decide), S0]; exact hsl.2.2.2.2.2.2.2.2.2.1
    · rw [y2, hv]
    · rw [y3, hfi]
    · rw [y4, hse]
    · rw [eS 4 (by decide) (by decide) (by decide)]
      by_cases q7 : P.1 = 7
      · rw [(hck.1 q7).2.2.2.2.2.1, if_pos (Or.inr (Or.inr q7))]; omega
      · by_cases q2 : P.1 = 2 ∨ P.1 = 5
        · rw [(hck.2.1 q2).2.2.2.1, if_pos (by omega)]; omega
        · rw [(hck.2.2 q7 q2).2.2.1, if_neg (by omega)]
    · rw [eS 5 (by decide) (by decide) (by decide)]
      by_cases q7 : P.1 = 7
      · rw [(hck.1 q7).2.2.2.2.2.2, if_pos q7]; omega
      · rw [if_neg q7]
        by_cases q2 : P.1 = 2 ∨ P.1 = 5
        · exact (hck.2.1 q2).2.2.2.2
        · exact (hck.2.2 q7 q2).2.2.2
    · rw [eS 8 (by decide) (by decide) (by decide)]; exact a8
    · rw [eS 9 (by decide) (by decide) (by decide)]; exact a9
    · rw [eS 10 (by decide) (by decide) (by decide)]; exact S10
    · rw [eS 11 (by decide) (by decide) (by decide)]; exact a11
    · rw [eS 14 (by decide) (by decide) (by decide)]; exact S14
    · rw [(eS12 0).1]; exact W0
    · rw [(eS12 1).1]; exact W1
    · rw [(eS12 0).2]; exact W2
    · rw [(eS12 1).2]; exact W3
    · rw [e66, show cr_zn fs + pz_nl t = (M p 8).toNat by omega, (hck.1 z).2.2.2.2.1]; exact r3
    · have h0 := y5 0 ((pz_zpr fs).length + (pz_pr t).length + 1, (P.2.2.1.length : Int)) (by rw [htl, if_pos z]; rfl)
      exact h0
    · have z1 := hnt.2.2 z
      have h0 := y5 1 ((pz_zpr fs).length + (pz_pr t).length + 1 + P.2.2.1.length + (if P.1 = 5 then 1 else 0), (P.2.2.2.length : Int)) (by rw [htl, if_pos z1, if_pos z]; rfl)
      exact h0
  · have h2 := cr_Z_fr _ _ _ aZ (eP 4 (by decide)) (fun i hi => e567 i) (hsmN.le (Nat.le_refl _) (by omega)) ((hsaN (cr_zn fs)).le (by omega) (by omega))
    rw [hRr] at h2
    exact h2
  · rw [eP 3 (by decide), F2a]; omega
  · rw [eP 6 (by decide), hkl]
    by_cases q7 : P.1 = 7
    · rw [(hck.1 q7).1, if_pos q7]; omega
    · rw [if_neg q7]
      by_cases q2 : P.1 = 2 ∨ P.1 = 5
      · rw [(hck.2.1 q2).1, if_pos q2]; omega
      · rw [(hck.2.2 q7 q2).1, if_neg q2]; omega
  · rw [eP 8 (by decide)]
    by_cases q7 : P.1 = 7
    · rw [(hck.1 q7).2.1, if_pos q7]; omega
    · rw [if_neg q7]
      by_cases q2 : P.1 = 2 ∨ P.1 = 5
      · rw [(hck.2.1 q2).2.1]; omega
      · rw [(hck.2.2 q7 q2).2.1]; omega
  · rw [y1]; omega
  · rw [e65]
    by_cases hk1 : k < (pz_kds E).length
    · rw [List.getElem?_append_left hk1] at hkv
      rw [F3a k (by omega)]
      exact rk k vk hkv
    · have hkl2 := (List.getElem?_eq_some_iff.mp hkv).1
      rw [List.length_append] at hkl2
      rw [List.getElem?_append_right (by omega)] at hkv
      by_cases q7 : P.1 = 7
      · obtain ⟨-, -, c1, c2, -⟩ := hck.1 q7
        rw [pz_kd_cs, if_neg (by omega), if_neg (by omega), if_pos q7] at hkv
        rw [hkl, if_pos q7] at hkl2
        have hk2 : k = (pz_kds E).length ∨ k = (pz_kds E).length + 1 := by omega
        rcases hk2 with q | q
        · subst q
          rw [Nat.sub_self] at hkv
          rw [show (pz_kds E).length = (M p 6).toNat by omega, c1]
          exact Option.some.inj hkv
        · subst q
          rw [Nat.add_sub_cancel_left] at hkv
          rw [show (pz_kds E).length + 1 = (M p 6 + 1).toNat by omega, c2]
          exact Option.some.inj hkv
      · by_cases q2 : P.1 = 2 ∨ P.1 = 5
        · obtain ⟨-, -, c1, -⟩ := hck.2.1 q2
          rw [hkl, if_neg q7, if_pos q2] at hkl2
          have hk2 : k = (pz_kds E).length := by omega
          subst hk2
          rw [Nat.sub_self, pz_kd_cs] at hkv
          rw [show (pz_kds E).length = (M p 6).toNat by omega, c1]
          by_cases q22 : P.1 = 2
          · rw [if_pos q22] at hkv ⊢
            exact Option.some.inj hkv
          · rw [if_neg q22, if_pos (by omega)] at hkv
            rw [if_neg q22]
            exact Option.some.inj hkv
        · rw [hkl, if_neg q7, if_neg q2] at hkl2
          omega
  · rw [e764 8 (by decide), F4a]; exact rd
  · rw [e764 9 (by decide), F4a]; exact rl
  · rw [(e567 _).2.2, ← hd, F4e, hRr]
  · by_cases hr2 : r < cr_zr fs + pz_sz t
    · have g6 := hsmN r (by omega) hr2 0 (by decide) 6
      have g7 := hsmN r (by omega) hr2 0 (by decide) 7
      rw [show p + 1 + 1 + 3 * r + 0 = p + 1 + 1 + 3 * r from rfl] at g6 g7
      rw [g6, g7]
      have h6 := F1 r 0 6 (by omega) (by decide) (by omega) (by omega)
      have h7 := F1 r 0 7 (by omega) (by decide) (by omega) (by omega)
      rw [show p + 1 + 1 + 3 * r + 0 = p + 1 + 1 + 3 * r from rfl] at h6 h7
      rw [h6, h7]
      exact rm r hr2
    · rw [show r = cr_zr fs + pz_sz t by omega, ← hsr, eS 6 (by decide) (by decide) (by decide), eS 7 (by decide) (by decide) (by decide)]
      exact ⟨S6, S7⟩
/-- a statement without blocks -/
theorem cr_fin1 {f : Nat → Int} {N : ab_M} {p : Nat} {fs : List pz_F} {t : pz_T} {E : List pz_Ev} {P : pz_P} (h : cr_CO f N p fs t E P) (h6 : P.1 < 6) (q c : Nat) : cr_R f N p fs (pz_nd P t .leaf .leaf) (E ++ [pz_evP P q c]) := by
  obtain ⟨h1, h2, h3, ⟨h4, h5, h7, h8⟩, h9, ⟨h10, h11, h12⟩, h13⟩ := h
  have e1 : pz_sz (pz_nd P t .leaf .leaf) = pz_sz t + 1 := rfl
  have e2 : pz_nl (pz_nd P t .leaf .leaf) = pz_nl t + (if P.1 = 7 then 1 else 0) := rfl
  have e3 : pz_nt (pz_nd P t .leaf .leaf) = pz_nt t + (pz_nt1 P.1 + pz_nt2 P.1) := rfl
  refine ⟨⟨by rw [h4, e1]; omega, ?_, by rw [h7, e2]; omega, by rw [h8, e3]; omega⟩, ?_, ⟨h10, h11, h12⟩, fun r hr => h13 r (by rw [e1] at hr; omega), ⟨h1, ?_, trivial, trivial⟩, h3⟩
  · rw [h5, pz_kds_app', List.length_append, pz_kds1]
  · intro k v hk
    rw [pz_kds_app', pz_kds1] at hk
    exact h9 k v hk
  · rw [if_neg (by omega)]
    exact h2
/-- a statement whose block begins -/
theorem cr_fin2 {f : Nat → Int} {N N' M' : ab_M} {o p : Nat} {fs : List pz_F} {t : pz_T} {E : List pz_Ev} {P : pz_P} (h : cr_CO f N p fs t E P) (hop : cr_op o p) (hb : cr_zr fs + pz_sz t < 120) (hf : cr_fr N N') (hM : M' = if P.1 = 7 then ab_up (ab_up (ab_up (ab_up (ab_up N' 765 fs.length ((cr_zr fs + pz_sz t : Nat) : Int)) 766 fs.length 0) 764 8 ((fs.length : Int) + 1)) 767 (fs.length + 1) (-1)) 764 9 ((pz_zl fs : Int) + 1) else ab_up (ab_up (ab_up (ab_up N' 765 fs.length ((cr_zr fs + pz_sz t : Nat) : Int)) 766 fs.length 0) 764 8 ((fs.length : Int) + 1)) 767 (fs.length + 1) (-1)) (q c : Nat) (w : Int) (i : Nat) : cr_R f M' p ((t, P, false, .leaf) :: fs) .leaf (E ++ [pz_evP P q c] ++ [pz_eo w i]) := by
  obtain ⟨h1, h2, h3, ⟨h4, h5, h7, h8⟩, h9, ⟨h10, h11, h12⟩, h13⟩ := h
  have hpp := cr_opp hop
  have hk : ∀ o' k', ¬ (764 ≤ o' ∧ o' ≤ 767) → M' o' k' = N o' k' := fun o' k' g => by
    rw [hM]
    split
    · rw [up_ne (by omega), up_ne (by omega), up_ne (by omega), up_ne (by omega), up_ne (by omega), hf _ _ (by omega)]
    · rw [up_ne (by omega), up_ne (by omega), up_ne (by omega), up_ne (by omega), hf _ _ (by omega)]
  have k8 : M' 764 8 = (fs.length : Int) + 1 := by
    rw [hM]
    split
    · rw [up_ne (by omega), up_ne (by omega), ab_up_s]
    · rw [up_ne (by omega), ab_up_s]
  have k9 : M' 764 9 = ((pz_zl fs + (if P.1 = 7 then 1 else 0) : Nat) : Int) := by
    rw [hM]
    split
    · rw [ab_up_s]; rfl
    · rw [up_ne (by omega), up_ne (by omega), up_ne (by omega), up_ne (by omega), hf _ _ (by omega), h11]; rfl
  have k5 : ∀ i, M' 765 i = if i = fs.length then ((cr_zr fs + pz_sz t : Nat) : Int) else N 765 i := fun i => by
    rw [hM]
    split
    · rw [up_ne (by omega), up_ne (by omega), up_ne (by omega), up_ne (by omega), ab_up_2, if_pos rfl, hf _ _ (by omega)]
    · rw [up_ne (by omega), up_ne (by omega), up_ne (by omega), ab_up_2, if_pos rfl, hf _ _ (by omega)]
  have k6 : ∀ i, M' 766 i = if i = fs.length then 0 else N 766 i := fun i => by
    rw [hM]
    split
    · rw [up_ne (by omega), up_ne (by omega), up_ne (by omega), ab_up_2, if_pos rfl, up_ne (by omega), hf _ _ (by omega)]
    · rw [up_ne (by omega), up_ne (by omega), ab_up_2, if_pos rfl, up_ne (by omega), hf _ _ (by omega)]
  have k7 : ∀ i, M' 767 i = if i = fs.length + 1 then -1 else N 767 i := fun i => by
    rw [hM]
    split
    · rw [up_ne (by omega), ab_up_2, if_pos rfl, up_ne (by omega), up_ne (by omega), up_ne (by omega), hf _ _ (by omega)]
    · rw [ab_up_2, if_pos rfl, up_ne (by omega), up_ne (by omega), up_ne (by omega), hf _ _ (by omega)]
  have hsm : cr_sm p N M' 0 (cr_zr fs + pz_sz t + 1) := fun i _ _ j _ k => hk _ _ (by omega)
  have hsa : ∀ a b, cr_sa p N M' a b := fun a b => ⟨fun i _ => hk _ _ (by omega), fun i _ => ⟨hk _ _ (by omega), hk _ _ (by omega)⟩⟩
  have e1 : cr_zr ((t, P, false, .leaf) :: fs) = cr_zr fs + pz_sz t + 1 := rfl
  have e2 : cr_zn ((t, P, false, .leaf) :: fs) = cr_zn fs + pz_nl t + (if P.1 = 7 then 1 else 0) := rfl
  have e3 : cr_zt ((t, P, false, .leaf) :: fs) = cr_zt fs + pz_nt t + pz_nt1 P.1 + pz_nt2 P.1 := rfl
  refine ⟨⟨?_, ?_, ?_, ?_⟩, fun k v hkv => ?_, ⟨?_, ?_, ?_⟩, fun r hr => ?_, trivial, ⟨⟨?_, ?_, ?_⟩, ?_, ?_, fun z => absurd z Bool.false_ne_true, ?_⟩⟩
  · rw [hk _ _ (by omega), h4, e1]; rfl
  · rw [hk _ _ (by omega), h5, pz_kds_app', pz_kds_app', List.length_append, List.length_append, pz_kds1, pz_kds2]; rfl
  · rw [hk _ _ (by omega), h7, e2]; rfl
  · rw [hk _ _ (by omega), h8, e3]; rfl
  · rw [hk _ _ (by omega)]
    rw [pz_kds_app', pz_kds_app', pz_kds1, pz_kds2, List.append_nil] at hkv
    exact h9 k v hkv
  · rw [k8]; rfl
  · rw [k9]; rfl
  · rw [show ((t, P, false, (.leaf : pz_T)) :: fs).length = fs.length + 1 from rfl, k7, if_pos rfl]; rfl
  · rw [hk _ _ (by rw [e1] at hr; have : pz_sz .leaf = 0 := rfl; omega), hk _ _ (by rw [e1] at hr; have : pz_sz .leaf = 0 := rfl; omega)]
    exact h13 r hr
  · rw [k5, if_pos rfl]
  · rw [k6, if_pos rfl]; rfl
  · rw [k7, if_neg (by omega)]; exact h12
  · exact cr_T_fr _ _ _ _ _ _ _ _ _ h1 (hsm.le (Nat.zero_le _) (Nat.le_succ _)) (hsa _ _)
  · exact cr_S_fr h2 (hsm.le (Nat.zero_le _) (Nat.le_refl _)) (hsa _ _)
  · exact cr_Z_fr _ _ _ h3 (hk _ _ (by omega)) (fun i hi => ⟨by rw [k5, if_neg (by omega)], by rw [k6, if_neg (by omega)], by rw [k7, if_neg (by omega)]⟩) (hsm.le (by omega) (by omega)) (hsa _ _)

