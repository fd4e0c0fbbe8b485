/-! the class: a block over -/
theorem cr_bd0 {o p : Nat} (h : cr_op o p) : 26 ≤ p ∧ p < 396 := by rcases h with ⟨-, w⟩ | ⟨-, w⟩ <;> omega
/-- the first block ends, the second begins -/
theorem cr_cl1 {f : Nat → Int} {M N M' : ab_M} {o p : Nat} {fs : List pz_F} {p0 t : pz_T} {P : pz_P} {E : List pz_Ev} (hR : cr_R f M p ((p0, P, false, .leaf) :: fs) t E) (hop : cr_op o p) (hb : cr_zr ((p0, P, false, .leaf) :: fs) + pz_sz t ≤ 120) (hf : cr_fr M N) (hM : M' = ab_up (ab_up N 766 fs.length 1) 767 (fs.length + 1) (-1)) (w w' : Int) (i i' : Nat) : cr_R f M' p ((p0, P, true, t) :: fs) .leaf (E ++ [pz_ec w i] ++ [pz_eo w' i']) := by
  have hpp := cr_bd0 hop
  have hk : ∀ o' k', ¬ (764 ≤ o' ∧ o' ≤ 767) → M' o' k' = M o' k' := fun o' k' g => by
    rw [hM, up_ne (by omega), up_ne (by omega), hf _ _ (by omega)]
  have k4 : ∀ k, 5 ≤ k → M' 764 k = M 764 k := fun k hk5 => by rw [hM, up_ne (by omega), up_ne (by omega), hf _ _ (by omega)]
  have k5 : ∀ k, M' 765 k = M 765 k := fun k => by rw [hM, up_ne (by omega), up_ne (by omega), hf _ _ (by omega)]
  have k6 : ∀ k, M' 766 k = if k = fs.length then 1 else M 766 k := fun k => by rw [hM, up_ne (by omega), ab_up_2, if_pos rfl, hf _ _ (by omega)]
  have k7 : ∀ k, M' 767 k = if k = fs.length + 1 then -1 else M 767 k := fun k => by rw [hM, ab_up_2, if_pos rfl, up_ne (by omega), hf _ _ (by omega)]
  obtain ⟨⟨r3, r6, r8, r11⟩, rk, ⟨rd, rl, rt⟩, rm, rT, ⟨z1, z2, z3⟩, zT, zS, zA, zZ⟩ := hR
  have e1 : cr_zr ((p0, P, false, (.leaf : pz_T)) :: fs) = cr_zr fs + pz_sz p0 + 1 := rfl
  have e1' : cr_zr ((p0, P, true, t) :: fs) = cr_zr fs + pz_sz p0 + 1 + pz_sz t := rfl
  have e2 : cr_zn ((p0, P, false, (.leaf : pz_T)) :: fs) = cr_zn fs + pz_nl p0 + (if P.1 = 7 then 1 else 0) := rfl
  have e2' : cr_zn ((p0, P, true, t) :: fs) = cr_zn fs + pz_nl p0 + (if P.1 = 7 then 1 else 0) + pz_nl t := rfl
  have e3 : cr_zt ((p0, P, false, (.leaf : pz_T)) :: fs) = cr_zt fs + pz_nt p0 + pz_nt1 P.1 + pz_nt2 P.1 := rfl
  have e3' : cr_zt ((p0, P, true, t) :: fs) = cr_zt fs + pz_nt p0 + pz_nt1 P.1 + pz_nt2 P.1 + pz_nt t := rfl
  have e4 : pz_zkn ((p0, P, false, (.leaf : pz_T)) :: fs) = pz_zkn fs + pz_kn p0 + (pz_kd (P.1, 0, 0, 0, 0, 0, 0, 0)).length := by
    show pz_zkn fs + (pz_kn p0 + ((pz_kd (P.1, 0, 0, 0, 0, 0, 0, 0)).length + 0)) = _
    omega
  have e5 : (pz_zpr ((p0, P, false, (.leaf : pz_T)) :: fs)).length = (pz_zpr fs).length + (pz_pr p0).length + (pz_hd P).length + 1 := by
    show (pz_zpr fs ++ (pz_pr p0 ++ (pz_hd P ++ 40 :: []))).length = _
    simp only [List.length_append, List.length_cons, List.length_nil]
    omega
  have hkd : pz_kds (E ++ [pz_ec w i] ++ [pz_eo w' i']) = pz_kds E := by
    rw [pz_kds_app', pz_kds_app', pz_kds3, pz_kds2, List.append_nil, List.append_nil]
  have hsm : ∀ lo hi, hi ≤ 120 → cr_sm p M M' lo hi := fun lo hi hh a _ w2 j w3 k => hk _ _ (by omega)
  have hsa : ∀ a b, cr_sa p M M' a b := fun a b => ⟨fun i _ => hk _ _ (by omega), fun i _ => ⟨hk _ _ (by omega), hk _ _ (by omega)⟩⟩
  have z0 : pz_sz (.leaf : pz_T) = 0 := rfl
  have z0n : pz_nl (.leaf : pz_T) = 0 := rfl
  have z0t : pz_nt (.leaf : pz_T) = 0 := rfl
  rw [e1] at hb
  refine ⟨⟨?_, ?_, ?_, ?_⟩, fun k v hkv => ?_, ⟨?_, ?_, ?_⟩, fun r hr => ?_, trivial, ⟨⟨?_, ?_, ?_⟩, ?_, ?_, fun _ => ?_, ?_⟩⟩
  · rw [hk _ _ (by omega), r3, e1, e1', z0]; rfl
  · rw [hk _ _ (by omega), hkd]; exact r6
  · rw [hk _ _ (by omega), r8, e2, e2', z0n]; rfl
  · rw [hk _ _ (by omega), r11, e3, e3', z0t]; rfl
  · rw [hkd] at hkv
    rw [hk _ _ (by omega)]
    exact rk k v hkv
  · rw [k4 _ (by decide)]; exact rd
  · rw [k4 _ (by decide)]; exact rl
  · rw [show ((p0, P, true, t) :: fs).length = fs.length + 1 from rfl, k7, if_pos rfl]; rfl
  · rw [e1', z0] at hr
    rw [hk _ _ (by omega), hk _ _ (by omega)]
    exact rm r (by rw [e1]; omega)
  · rw [k5]; exact z1
  · rw [k6, if_pos rfl]; rfl
  · rw [k7, if_neg (by omega)]; exact z3
  · exact cr_T_fr _ _ _ _ _ _ _ _ _ zT (hsm _ _ (by show cr_zr fs + pz_sz p0 ≤ 120; omega)) (hsa _ _)
  · exact cr_S_fr zS (hsm _ _ (by show cr_zr fs + pz_sz p0 + 1 ≤ 120; omega)) (hsa _ _)
  · rw [e4, e5, e2, e3] at rT
    exact cr_T_fr _ _ _ _ _ _ _ _ _ rT (hsm _ _ hb) (hsa _ _)
  · exact cr_Z_fr _ _ _ zZ (hk _ _ (by omega)) (fun j hj => ⟨k5 j, by rw [k6, if_neg (by omega)], by rw [k7, if_neg (by omega)]⟩) (hsm _ _ (by omega)) (hsa _ _)
/-- a block is over, and its statement with it -/
theorem cr_cl2 {f : Nat → Int} {M N M' : ab_M} {o p : Nat} {fs : List pz_F} {p0 t a b : pz_T} {P : pz_P} {sn : Bool} {E : List pz_Ev} (hR : cr_R f M p ((p0, P, sn, if sn then a else .leaf) :: fs) t E) (hop : cr_op o p) (hb : cr_zr ((p0, P, sn, if sn then a else .leaf) :: fs) + pz_sz t ≤ 120) (hf : cr_fr M N) (h6 : 6 ≤ P.1) (hsn : sn = false → t = a ∧ b = .leaf) (hsn2 : sn = true → t = b ∧ P.1 ≠ 7) (hM : M' = if P.1 = 7 then ab_up (ab_up (ab_up N 764 8 (fs.length : Int)) (p + 1 + 1 + 3 * (cr_zr fs + pz_sz p0)) 14 (M p 3 - 1)) 764 9 (M 764 9 - 1) else ab_up (ab_up N 764 8 (fs.length : Int)) (p + 1 + 1 + 3 * (cr_zr fs + pz_sz p0)) 14 (M p 3 - 1)) (w : Int) (i : Nat) : cr_R f M' p fs (pz_nd P p0 a b) (E ++ [pz_ec w i]) := by
  have hpp := cr_bd0 hop
  have z0 : pz_sz (.leaf : pz_T) = 0 := rfl
  have z0n : pz_nl (.leaf : pz_T) = 0 := rfl
  have z0t : pz_nt (.leaf : pz_T) = 0 := rfl
  have e1 : cr_zr ((p0, P, sn, if sn then a else .leaf) :: fs) + pz_sz t = cr_zr fs + pz_sz p0 + 1 + pz_sz a + pz_sz b := by
    cases sn with
    | false => obtain ⟨y1, y2⟩ := hsn rfl; subst y1; subst y2; rfl
    | true => obtain ⟨y1, -⟩ := hsn2 rfl; subst y1; rfl
  rw [e1] at hb
  have hk : ∀ o' k', ¬ (764 ≤ o' ∧ o' ≤ 767) → ¬ (o' = p + 1 + 1 + 3 * (cr_zr fs + pz_sz p0) ∧ k' = 14) → M' o' k' = M o' k' := fun o' k' g g2 => by
    rw [hM]
    split
    · rw [up_ne (by omega), up_ne g2, up_ne (by omega), hf _ _ (by omega)]
    · rw [up_ne g2, up_ne (by omega), hf _ _ (by omega)]
  have k8 : M' 764 8 = (fs.length : Int) := by
    rw [hM]
    split
    · rw [up_ne (by omega), up_ne (by omega), ab_up_s]
    · rw [up_ne (by omega), ab_up_s]
  have kk : ∀ o' k, 765 ≤ o' → o' ≤ 767 → M' o' k = M o' k := fun o' k g1 g2 => by
    rw [hM]
    split
    · rw [up_ne (by omega), up_ne (by omega), up_ne (by omega), hf _ _ (by omega)]
    · rw [up_ne (by omega), up_ne (by omega), hf _ _ (by omega)]
  have k14 : M' (p + 1 + 1 + 3 * (cr_zr fs + pz_sz p0)) 14 = M p 3 - 1 := by
    rw [hM]
    split
    · rw [up_ne (by omega), ab_up_s]
    · rw [ab_up_s]
  have k9 : M' 764 9 = M 764 9 - (if P.1 = 7 then 1 else 0) := by
    rw [hM]
    split
    · rw [ab_up_s]
    · rw [up_ne (by omega), up_ne (by omega), hf _ _ (by omega)]; omega
  clear hM
  obtain ⟨⟨r3, r6, r8, r11⟩, rk, ⟨rd, rl, rt⟩, rm, rT, ⟨z1, z2, z3⟩, zT, zS, zA, zZ⟩ := hR
  dsimp only at z1 z2 z3 zT zS zA zZ
  have hkd : pz_kds (E ++ [pz_ec w i]) = pz_kds E := by
    rw [pz_kds_app', pz_kds3, List.append_nil]
  have hsm : ∀ lo hi, hi ≤ 120 → (∀ r, lo ≤ r → r < hi → r ≠ cr_zr fs + pz_sz p0) → cr_sm p M M' lo hi := fun lo hi hh hn a w1 w2 j w3 k => hk _ _ (by omega) (fun y => hn a w1 w2 (by omega))
  have hsa : ∀ a b, cr_sa p M M' a b := fun a b => ⟨fun i _ => hk _ _ (by omega) (by omega), fun i _ => ⟨hk _ _ (by omega) (by omega), hk _ _ (by omega) (by omega)⟩⟩
  have e2 : cr_zn ((p0, P, sn, if sn then a else .leaf) :: fs) + pz_nl t = cr_zn fs + (pz_nl p0 + ((if P.1 = 7 then 1 else 0) + (pz_nl a + pz_nl b))) := by
    cases sn with
    | false =>
      obtain ⟨y1, y2⟩ := hsn rfl
      subst y1
      subst y2
      show cr_zn fs + pz_nl p0 + (if P.1 = 7 then 1 else 0) + 0 + pz_nl t = cr_zn fs + (pz_nl p0 + ((if P.1 = 7 then 1 else 0) + (pz_nl t + 0)))
      omega
    | true =>
      obtain ⟨y1, -⟩ := hsn2 rfl
      subst y1
      show cr_zn fs + pz_nl p0 + (if P.1 = 7 then 1 else 0) + pz_nl a + pz_nl t = _
      omega
  have e3 : cr_zt ((p0, P, sn, if sn then a else .leaf) :: fs) + pz_nt t = cr_zt fs + (pz_nt p0 + (pz_nt1 P.1 + pz_nt2 P.1 + (pz_nt a + pz_nt b))) := by
    cases sn with
    | false =>
      obtain ⟨y1, y2⟩ := hsn rfl
      subst y1
      subst y2
      show cr_zt fs + pz_nt p0 + pz_nt1 P.1 + pz_nt2 P.1 + 0 + pz_nt t = cr_zt fs + (pz_nt p0 + (pz_nt1 P.1 + pz_nt2 P.1 + (pz_nt t + 0)))
      omega
    | true =>
      obtain ⟨y1, -⟩ := hsn2 rfl
      subst y1
      show cr_zt fs + pz_nt p0 + pz_nt1 P.1 + pz_nt2 P.1 + pz_nt a + pz_nt t = _
      omega
  have el : pz_zl ((p0, P, sn, if sn then a else .leaf) :: fs) = pz_zl fs + (if P.1 = 7 then 1 else 0) := rfl
  have hl : cr_ls (pz_nd P p0 a b) (cr_zr fs) = ((cr_zr fs + pz_sz p0 : Nat) : Int) := rfl
  refine ⟨⟨?_, ?_, ?_, ?_⟩, fun k v hkv => ?_, ⟨k8, ?_, ?_⟩, fun r hr => ?_, ⟨?_, ?_, ?_, ?_⟩, ?_⟩
  · rw [hk _ _ (by omega) (by omega), r3, e1, pz_sz_nd]
    omega
  · rw [hk _ _ (by omega) (by omega), hkd]; exact r6
  · rw [hk _ _ (by omega) (by omega), r8, e2, pz_nl_nd]
  · rw [hk _ _ (by omega) (by omega), r11, e3, pz_nt_nd]
  · rw [hkd] at hkv
    rw [hk _ _ (by omega) (by omega)]
    exact rk k v hkv
  · rw [k9, rl, el]
    by_cases q : P.1 = 7
    · rw [if_pos q, if_pos q]; omega
    · rw [if_neg q, if_neg q]; omega
  · rw [kk _ _ (by decide) (by decide), z3, hl]
  · rw [pz_sz_nd] at hr
    rw [hk _ _ (by omega) (by omega), hk _ _ (by omega) (by omega)]
    exact rm r (by rw [e1]; omega)
  · exact cr_T_fr _ _ _ _ _ _ _ _ _ zT (hsm _ _ (by omega) fun r _ _ => by omega) (hsa _ _)
  · obtain ⟨g1, ⟨g2, g3, g4, g5, g6⟩, ⟨g7, g8, g9, g10⟩, g11, g12, g13⟩ := zS
    have eR : ∀ k, k ≠ 14 → M' (p + 1 + 1 + 3 * (cr_zr fs + pz_sz p0)) k = M (p + 1 + 1 + 3 * (cr_zr fs + pz_sz p0)) k := fun k hk' => hk _ _ (by omega) (fun y => hk' y.2)
    have eR1 : ∀ k, M' (p + 1 + 1 + 3 * (cr_zr fs + pz_sz p0) + 1) k = M (p + 1 + 1 + 3 * (cr_zr fs + pz_sz p0) + 1) k := fun k => hk _ _ (by omega) (by omega)
    have eR2 : ∀ k, M' (p + 1 + 1 + 3 * (cr_zr fs + pz_sz p0) + 2) k = M (p + 1 + 1 + 3 * (cr_zr fs + pz_sz p0) + 2) k := fun k => hk _ _ (by omega) (by omega)
    unfold cr_S
    rw [eR 0 (by decide), eR 1 (by decide), eR 2 (by decide), eR 3 (by decide), eR 4 (by decide), eR 5 (by decide), eR 8 (by decide), eR 9 (by decide), eR 10 (by decide), eR 11 (by decide), k14, eR1, eR1, eR2, eR2, if_pos h6]
    refine ⟨g1, ⟨g2, g3, g4, g5, ?_⟩, ?_, fun z => ?_, fun z => ?_, fun z => ?_⟩
    · rw [r3, e1]; omega
    · cases sn with
      | false =>
        obtain ⟨y1, y2⟩ := hsn rfl
        subst y1
        subst y2
        exact ⟨g7, g8, g9, g10⟩
      | true =>
        obtain ⟨y1, -⟩ := hsn2 rfl
        subst y1
        exact ⟨g7, g8, g9, g10⟩
    · rw [(hsa (cr_zn fs + pz_nl p0 + 1) 0).1 _ (by omega)]; exact g11 z
    · rw [((hsa 0 (cr_zt fs + pz_nt p0 + 1)).2 _ (by omega)).1, ((hsa 0 (cr_zt fs + pz_nt p0 + 1)).2 _ (by omega)).2]; exact g12 z
    · rw [((hsa 0 (cr_zt fs + pz_nt p0 + 2)).2 (cr_zt fs + pz_nt p0 + 1) (by omega)).1, ((hsa 0 (cr_zt fs + pz_nt p0 + 2)).2 (cr_zt fs + pz_nt p0 + 1) (by omega)).2]; exact g13 z
  · cases sn with
    | false =>
      obtain ⟨y1, y2⟩ := hsn rfl
      subst y1
      subst y2
      have e4 : pz_zkn ((p0, P, false, (.leaf : pz_T)) :: fs) = pz_zkn fs + pz_kn p0 + (pz_kd (P.1, 0, 0, 0, 0, 0, 0, 0)).length := by
        show pz_zkn fs + (pz_kn p0 + ((pz_kd (P.1, 0, 0, 0, 0, 0, 0, 0)).length + 0)) = _
        omega
      have e5 : (pz_zpr ((p0, P, false, (.leaf : pz_T)) :: fs)).length = (pz_zpr fs).length + (pz_pr p0).length + (pz_hd P).length + 1 := by
        show (pz_zpr fs ++ (pz_pr p0 ++ (pz_hd P ++ 40 :: []))).length = _
        simp only [List.length_append, List.length_cons, List.length_nil]
        omega
      have rT : cr_T f M p t (cr_zr fs + pz_sz p0 + 1) ((cr_zr fs + pz_sz p0 : Nat) : Int) 0 (-1) (pz_zkn ((p0, P, false, (.leaf : pz_T)) :: fs)) (cr_zn fs + pz_nl p0 + (if P.1 = 7 then 1 else 0)) (cr_zt fs + pz_nt p0 + pz_nt1 P.1 + pz_nt2 P.1) (pz_zpr ((p0, P, false, (.leaf : pz_T)) :: fs)).length := rT
      rw [e4, e5] at rT
      exact cr_T_fr _ _ _ _ _ _ _ _ _ rT (hsm _ _ (by omega) fun r _ _ => by omega) (hsa _ _)
    | true =>
      exact cr_T_fr _ _ _ _ _ _ _ _ _ (zA rfl) (hsm _ _ (by show cr_zr fs + pz_sz p0 + 1 + pz_sz a ≤ 120; omega) fun r _ _ => by omega) (hsa _ _)
  · cases sn with
    | false =>
      obtain ⟨y1, y2⟩ := hsn rfl
      subst y1
      subst y2
      trivial
    | true =>
      obtain ⟨y1, y7⟩ := hsn2 rfl
      subst y1
      have e4 : pz_zkn ((p0, P, true, a) :: fs) = pz_zkn fs + pz_kn p0 + (pz_kd (P.1, 0, 0, 0, 0, 0, 0, 0)).length + pz_kn a := by
        show pz_zkn fs + (pz_kn p0 + ((pz_kd (P.1, 0, 0, 0, 0, 0, 0, 0)).length + pz_kn a)) = _
        omega
      have e5 : (pz_zpr ((p0, P, true, a) :: fs)).length = (pz_zpr fs).length + (pz_pr p0).length + (pz_hd P).length + 1 + (pz_pr a).length + 2 := by
        show (pz_zpr fs ++ (pz_pr p0 ++ (pz_hd P ++ 40 :: (pz_pr a ++ [41, 40])))).length = _
        simp only [List.length_append, List.length_cons, List.length_nil]
        omega
      have rT : cr_T f M p t (cr_zr fs + pz_sz p0 + 1 + pz_sz a) ((cr_zr fs + pz_sz p0 : Nat) : Int) 1 (-1) (pz_zkn ((p0, P, true, a) :: fs)) (cr_zn fs + pz_nl p0 + (if P.1 = 7 then 1 else 0) + pz_nl a) (cr_zt fs + pz_nt p0 + pz_nt1 P.1 + pz_nt2 P.1 + pz_nt a) (pz_zpr ((p0, P, true, a) :: fs)).length := rT
      rw [e4, e5] at rT
      exact cr_T_fr _ _ _ _ _ _ _ _ _ rT (hsm _ _ (by omega) fun r _ _ => by omega) (hsa _ _)
  · exact cr_Z_fr _ _ _ zZ (hk _ _ (by omega) (by omega)) (fun j hj => ⟨kk _ _ (by decide) (by decide), kk _ _ (by decide) (by decide), kk _ _ (by decide) (by decide)⟩) (hsm _ _ (by omega) fun r _ _ => by omega) (hsa _ _)

