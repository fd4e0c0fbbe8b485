/-! a try of the passive form -/
set_option maxRecDepth 20000 in
theorem vc_X0_traverseTry_0 (hb : Nat)  (s : Nat) (nn : Nat) (LL : Int) (cat : Int) (dep : Int) (M : ab_M) (K : List ab_V → ab_M → Prop) (hS : (∃ P : pz_P, ∃ a : pz_T, ∃ b : pz_T, ∃ R : Nat, ∃ nx : Int, ∃ pv : Int, ∃ V : ps_V, ∃ s0 : ps_S, ∃ th : List ps_V, (s = 26 + 1 + 1 + 3 * R ∧ ps_row M P R a b nx pv ∧ (ps_Q M a (R + 1) (-1) ∧ ps_Q M b (R + 1 + pz_sz a) (-1)) ∧ (0 ≤ dep ∧ dep + ((Nat.max (pz_ht a) (pz_ht b) : Nat) : Int) + 1 ≤ 40 ∧ Nat.max (pz_ht a) (pz_ht b) ≤ hb) ∧ (LL = pk V ∧ ps_bd V s0 ∧ ps_M M s0 ∧ ps_x s0 (2 * (pz_sz a + pz_sz b) + 2)) ∧ ps_c M cat dep th (1 + (pz_sz a + pz_sz b)) ∧ ps_pm M) ∧ (∀ rx : Int, ∀ Mx : ab_M, (ps_M Mx (ps_y (ps_t a) (ps_t b) V s0).1 ∧ ps_F M Mx dep cat ∧ (0 ≤ cat → th_R Mx (th ++ (ps_y (ps_t a) (ps_t b) V s0).2.2) cat.toNat)) → (rx = pe (ps_y (ps_t a) (ps_t b) V s0).2.1) → K [Xl rx] Mx))) : (0 ≤ dep ∧ dep < ((41 : Nat) : Int)) ∧ (0 ≤ dep ∧ dep < ((41 : Nat) : Int)) ∧ (0 ≤ (0 : Int) ∧ (0 : Int) < ((2 : Nat) : Int)) ∧ (∃ t_30 : pz_T, ∃ r0_30 : Nat, ∃ V_30 : ps_V, ∃ s0_30 : ps_S, ∃ th_30 : List ps_V, (ps_Q (ab_up (ab_up M 792 dep.toNat (0 : Int)) 794 dep.toNat (0 : Int)) t_30 r0_30 (-1) ∧ ((ab_up (ab_up M 792 dep.toNat (0 : Int)) 794 dep.toNat (0 : Int)) (s + 1) 0) = cr_fs t_30 r0_30 ∧ (0 ≤ (dep + (1 : Int)) ∧ (dep + (1 : Int)) + ((pz_ht t_30 : Nat) : Int) ≤ 40 ∧ pz_ht t_30 ≤ hb) ∧ (LL = pk V_30 ∧ ps_bd V_30 s0_30 ∧ ps_M (ab_up (ab_up M 792 dep.toNat (0 : Int)) 794 dep.toNat (0 : Int)) s0_30 ∧ ps_x s0_30 (2 * pz_sz t_30)) ∧ ps_c (ab_up (ab_up M 792 dep.toNat (0 : Int)) 794 dep.toNat (0 : Int)) dep (dep + (1 : Int)) th_30 (pz_sz t_30) ∧ ps_pm (ab_up (ab_up M 792 dep.toNat (0 : Int)) 794 dep.toNat (0 : Int))) ∧ (∀ r30 : Int, ∀ M30 : ab_M, (ps_M M30 (ps_t t_30 V_30 s0_30).1 ∧ ps_F (ab_up (ab_up M 792 dep.toNat (0 : Int)) 794 dep.toNat (0 : Int)) M30 (dep + (1 : Int)) dep ∧ (0 ≤ dep → th_R M30 (th_30 ++ (ps_t t_30 V_30 s0_30).2.2) dep.toNat)) → (r30 = pe (ps_t t_30 V_30 s0_30).2.1) → (0 ≤ dep ∧ dep < ((41 : Nat) : Int)) ∧ (ab_ir (M30 792 dep.toNat)) ∧ ((¬ (M30 792 dep.toNat) = 0 → (0 ≤ dep ∧ dep < ((41 : Nat) : Int)) ∧ (∃ S_66 : Nat → Bool, ((M30 794 dep.toNat) = pz_mk S_66) ∧ (∀ r66 : Int, (r66 = ps_cnt S_66) → (0 ≤ dep ∧ dep < ((41 : Nat) : Int)) ∧ (0 ≤ dep ∧ dep < ((41 : Nat) : Int)) ∧ (∃ V_89 : ps_V, ∃ st_89 : ps_S, ((M30 793 dep.toNat) = pk V_89 ∧ pk_ok V_89 ∧ ps_M (ab_up M30 790 2 ((M30 790 2) + ((M30 792 dep.toNat) * r66))) st_89 ∧ ps_g st_89) ∧ (∀ r89 : Int, ∀ M89 : ab_M, (ps_M M89 (ps_rn st_89 V_89 (fun v => pz_b (M30 794 dep.toNat) v)).1 ∧ ps_N (ab_up M30 790 2 ((M30 790 2) + ((M30 792 dep.toNat) * r66))) M89) → (r89 = pk (ps_rn st_89 V_89 (fun v => pz_b (M30 794 dep.toNat) v)).2) → (0 ≤ (1 : Int) ∧ (1 : Int) < ((2 : Nat) : Int)) ∧ (∃ t_112 : pz_T, ∃ r0_112 : Nat, ∃ V_112 : ps_V, ∃ s0_112 : ps_S, ∃ th_112 : List ps_V, (ps_Q M89 t_112 r0_112 (-1) ∧ (M89 (s + 1) 1) = cr_fs t_112 r0_112 ∧ (0 ≤ (dep + (1 : Int)) ∧ (dep + (1 : Int)) + ((pz_ht t_112 : Nat) : Int) ≤ 40 ∧ pz_ht t_112 ≤ hb) ∧ (r89 = pk V_112 ∧ ps_bd V_112 s0_112 ∧ ps_M M89 s0_112 ∧ ps_x s0_112 (2 * pz_sz t_112)) ∧ ps_c M89 cat (dep + (1 : Int)) th_112 (pz_sz t_112) ∧ ps_pm M89) ∧ (∀ r112 : Int, ∀ M112 : ab_M, (ps_M M112 (ps_t t_112 V_112 s0_112).1 ∧ ps_F M89 M112 (dep + (1 : Int)) cat ∧ (0 ≤ cat → th_R M112 (th_112 ++ (ps_t t_112 V_112 s0_112).2.2) cat.toNat)) → (r112 = pe (ps_t t_112 V_112 s0_112).2.1) → (∃ e1_115 : Option ps_V, ∃ e2_115 : Option ps_V, ∃ s0_115 : ps_S, (r30 = pe e1_115 ∧ r112 = pe e2_115 ∧ (∀ V, e1_115 = some V → pk_ok V) ∧ (∀ V, e2_115 = some V → pk_ok V) ∧ ps_M M112 s0_115 ∧ ps_g s0_115) ∧ (∀ r115 : Int, ∀ M115 : ab_M, (ps_M M115 (ps_jn s0_115 e1_115 e2_115).1 ∧ ps_N M112 M115) → (r115 = pe (ps_jn s0_115 e1_115 e2_115).2) → K [Xl r115] M115))))))))) ∧ ((M30 792 dep.toNat) = 0 → K [Xl r30] M30)))) := by
  obtain ⟨P, a, b, R, nx, pv, V, s0, th, ⟨hs0, hR, ⟨hQa, hQb⟩, ⟨hd0, hd1, hh⟩, ⟨hL, hbd, hM, hx⟩, hc, hpm⟩, gK⟩ := hS
  subst hs0
  obtain ⟨⟨rl, rv⟩, ⟨rt1, rt2⟩, ⟨rn, rp⟩, ⟨rb0, rb1, rl0, rl1⟩, rm, rw, ra, rb, ⟨rR, rf0, rf1, rg0, rg1⟩⟩ := id hR
  have hP := cr_lt_all rw rl
  have h120 := hpm.1.2
  have h64 := hpm.2
  have hwP := rw
  have hR7 : (26 + 1 + 1 + 3 * R) ≠ 790 := by omega
  have hR71 : (26 + 1 + 1 + 3 * R) + 1 ≠ 790 := by omega
  have hlr : ab_ir (M (26 + 1 + 1 + 3 * R) 0) := by rcases hP with z | z | z | z | z | z | z | z | z <;> exact ⟨by omega, by omega⟩
  have hpkV : pk_ok V := hx.pk hbd
  have hma : pz_ht a ≤ Nat.max (pz_ht a) (pz_ht b) := Nat.le_max_left _ _
  have hmb : pz_ht b ≤ Nat.max (pz_ht a) (pz_ht b) := Nat.le_max_right _ _
  have hcat : ab_ir cat := by
    rcases hc with z | z
    · rw [z]; exact ⟨by decide, by decide⟩
    · have := z.1; exact ⟨by omega, by omega⟩
  have hs3 : (R : Int) + 1 + ((pz_sz a : Nat) : Int) ≤ M 26 3 := by have := hQa.2.1; omega
  obtain ⟨a1, a2, a3⟩ := ps_t_ok a V s0 hbd
  have aln := ps_t_len a V s0
  have hx2 : ps_x (ps_t a V s0).1 (2 * pz_sz b + 2) := hx.le a1 (by omega)
  refine And.intro (by
    first
      | omega
      | exact ⟨by omega, by omega⟩
      | exact hir779) ?_
  refine And.intro (by
    first
      | omega
      | exact ⟨by omega, by omega⟩
      | exact hir779) ?_
  refine And.intro (by
    first
      | omega
      | exact ⟨by omega, by omega⟩
      | exact hir779) ?_
  have hsz : ps_M (ab_up (ab_up M 792 dep.toNat (0 : Int)) 794 dep.toNat (0 : Int)) s0 := by
    refine ⟨fun v hv => ?_, ?_, ?_⟩
    · rw [ab_up_o (by decide), ab_up_o (by decide)]; exact hM.1 v hv
    · rw [ab_up_o (by decide), ab_up_o (by decide)]; exact hM.2.1
    · rw [ab_up_o (by decide), ab_up_o (by decide)]; exact hM.2.2
  have hF2 : ps_F M (ab_up (ab_up M 792 dep.toNat (0 : Int)) 794 dep.toNat (0 : Int)) dep cat := fun o k _ _ z => by
    rw [up_ne (fun q => z ⟨by omega, by omega⟩), up_ne (fun q => z ⟨by omega, by omega⟩)]
  have hth0 : th_R (ab_up (ab_up M 792 dep.toNat (0 : Int)) 794 dep.toNat (0 : Int)) [] dep.toNat := by
    refine ⟨?_, fun _ => ab_up_s, fun V0 rest q => by cases q⟩
    rw [ab_up_o (by decide), ab_up_s]
    rfl
  have hc2 : ps_c (ab_up (ab_up M 792 dep.toNat (0 : Int)) 794 dep.toNat (0 : Int)) cat dep th (1 + (pz_sz a + pz_sz b)) := hc.imp id fun q => ⟨q.1, q.2.1.fr ⟨by rw [ab_up_o (by decide), ab_up_k (by omega)], by rw [ab_up_o (by decide), ab_up_o (by decide)], by rw [ab_up_k (by omega), ab_up_o (by decide)]⟩, q.2.2⟩
  have hrb0 : (ab_up (ab_up M 792 dep.toNat (0 : Int)) 794 dep.toNat (0 : Int)) (26 + 1 + 1 + 3 * R + 1) 0 = cr_fs a (R + 1) := by
    rw [ab_up_o (by omega), ab_up_o (by omega)]; exact rb0
  generalize (ab_up (ab_up M 792 dep.toNat (0 : Int)) 794 dep.toNat (0 : Int)) = M2 at hsz hF2 hth0 hc2 hrb0 ⊢
  have hpm2 := hpm.lo hF2.lo
  refine Exists.intro (a) <| Exists.intro ((R + 1)) <| Exists.intro (V) <| Exists.intro (s0) <| Exists.intro (([] : List ps_V)) <| ?_
  refine And.intro (by
    refine ⟨hQa.lo hF2.lo h120, hrb0, ⟨by omega, by omega, by omega⟩, ⟨hL, hbd, hsz, hx.le (ps_le.rf _ 0) (by omega)⟩, Or.inr ⟨⟨hd0, by omega⟩, hth0, fun U hU => absurd hU List.not_mem_nil, ?_⟩, hpm2⟩
    show 0 + pz_sz a ≤ 1000
    omega) ?_
  intro r30 M30 hM30 hr30
  have hlo3 : ∀ o k : Nat, o < 790 → M30 o k = M o k := fun o k ho => (hM30.2.1.lo o k ho).trans (hF2.lo o k ho)
  have hF3 : ps_F M M30 dep cat := hF2.tr (hM30.2.1.in (by omega) (by omega))
  have hth3 : th_R M30 (ps_t a V s0).2.2 dep.toNat := hM30.2.2 (by omega)
  have hc3 : ps_c M30 cat dep th (1 + (pz_sz a + pz_sz b)) := hc2.imp id fun q => ⟨q.1, q.2.1.fr ⟨hM30.2.1 _ _ (by omega) (by omega) (by omega), hM30.2.1 _ _ (by omega) (by omega) (by omega), hM30.2.1 _ _ (by omega) (by omega) (by omega)⟩, q.2.2⟩
  have hpm3 := hpm2.lo hM30.2.1.lo
  have h779 := hth3.1
  have hir779 : ab_ir (M30 792 dep.toNat) := ⟨by omega, by omega⟩
  refine And.intro (by
    first
      | omega
      | exact ⟨by omega, by omega⟩
      | exact hir779) ?_
  refine And.intro (by
    first
      | omega
      | exact ⟨by omega, by omega⟩
      | exact hir779) ?_
  refine ⟨?_, ?_⟩
  · intro c46
    refine And.intro (by
      first
        | omega
        | exact ⟨by omega, by omega⟩
        | exact hir779) ?_
    obtain ⟨V0, rest, hth⟩ : ∃ V0 rest, (ps_t a V s0).2.2 = V0 :: rest := by
      cases h : (ps_t a V s0).2.2 with
      | nil =>
        rw [h] at h779
        exact absurd h779 c46
      | cons V0 rest => exact ⟨V0, rest, rfl⟩
    obtain ⟨e780, e781⟩ := hth3.2.2 V0 rest hth
    rw [hth] at e781
    have hbd0 := a3 V0 (by rw [hth]; exact List.mem_cons_self)
    have hpk0 := hx2.pk hbd0
    refine Exists.intro (ps_tS V0 (V0 :: rest)) <| ?_
    refine And.intro (by
      exact e781) ?_
    intro r66 hr66
    refine And.intro (by
      first
        | omega
        | exact ⟨by omega, by omega⟩
        | exact hir779) ?_
    refine And.intro (by
      first
        | omega
        | exact ⟨by omega, by omega⟩
        | exact hir779) ?_
    have hsz3 : ps_M (ab_up M30 790 2 ((M30 790 2) + ((M30 792 dep.toNat) * r66))) ((ps_t a V s0).1.1, (ps_t a V s0).1.2.1 + ((((V0 :: rest).length : Nat) : Int) * ps_cnt (ps_tS V0 (V0 :: rest))), (ps_t a V s0).1.2.2) := by
      refine ⟨fun v hv => ?_, ?_, ?_⟩
      · rw [ab_up_o (by decide)]; exact hM30.1.1 v hv
      · rw [ab_up_s, h779, hr66, hM30.1.2.1, hth]
      · rw [ab_up_k (by decide)]; exact hM30.1.2.2
    have hN3 : ps_N M30 (ab_up M30 790 2 ((M30 790 2) + ((M30 792 dep.toNat) * r66))) := fun o k q _ => up_ne fun z => q ⟨z.1, Or.inl z.2⟩
    have e780' : (ab_up M30 790 2 ((M30 790 2) + ((M30 792 dep.toNat) * r66))) 793 dep.toNat = pk V0 := by rw [ab_up_o (by decide)]; exact e780
    have e781' : (ab_up M30 790 2 ((M30 790 2) + ((M30 792 dep.toNat) * r66))) 794 dep.toNat = pz_mk (ps_tS V0 (V0 :: rest)) := by rw [ab_up_o (by decide)]; exact e781
    try simp only [ab_up_o (show (793 : Nat) ≠ 790 by decide), ab_up_o (show (794 : Nat) ≠ 790 by decide)] at e780' e781' ⊢
    generalize (ab_up M30 790 2 ((M30 790 2) + ((M30 792 dep.toNat) * r66))) = M71 at hsz3 hN3 ⊢
    obtain ⟨z1, z2⟩ := ps_rn_cg (st := ((ps_t a V s0).1.1, (ps_t a V s0).1.2.1 + ((((V0 :: rest).length : Nat) : Int) * ps_cnt (ps_tS V0 (V0 :: rest))), (ps_t a V s0).1.2.2)) (V := V0) (S := fun v => pz_b (pz_mk (ps_tS V0 (V0 :: rest))) v) (S' := ps_tS V0 (V0 :: rest)) fun v hv => pz_mk_b _ hv
    refine Exists.intro (V0) <| Exists.intro (((ps_t a V s0).1.1, (ps_t a V s0).1.2.1 + ((((V0 :: rest).length : Nat) : Int) * ps_cnt (ps_tS V0 (V0 :: rest))), (ps_t a V s0).1.2.2)) <| ?_
    refine And.intro (by
      first
        | exact ⟨e780', hpk0, hsz3, hx2.g⟩
        | (refine ⟨?_, hpk0, hsz3, hx2.g⟩; first | exact e780' | exact e780)) ?_
    intro r89 M89 hM89 hr89
    refine And.intro (by
      first
        | omega
        | exact ⟨by omega, by omega⟩
        | exact hir779) ?_
    rw [e781'] at hM89 hr89
    have hMt : ps_M M89 (ps_tj (ps_t a V s0).1 V0 (V0 :: rest)).1 := z1 _ hM89.1
    have hrt : r89 = pk (ps_tj (ps_t a V s0).1 V0 (V0 :: rest)).2 := hr89.trans z2
    obtain ⟨t1, t2⟩ := ps_tj_ok (V0 :: rest) hbd0
    have hx4 : ps_x (ps_tj (ps_t a V s0).1 V0 (V0 :: rest)).1 (2 * pz_sz b + 1) := hx2.le t1 (by omega)
    have hN4 := hN3.tr hM89.2
    have hlo4 : ∀ o k : Nat, o < 790 → M89 o k = M o k := fun o k ho => (hN4.lo o k ho).trans (hlo3 o k ho)
    have hpm4 := hpm3.lo hN4.lo
    have hc4 := hc3.N hN4
    obtain ⟨b1, b2, b3⟩ := ps_t_ok b (ps_tj (ps_t a V s0).1 V0 (V0 :: rest)).2 (ps_tj (ps_t a V s0).1 V0 (V0 :: rest)).1 t2
    refine Exists.intro (b) <| Exists.intro ((R + 1 + pz_sz a)) <| Exists.intro ((ps_tj (ps_t a V s0).1 V0 (V0 :: rest)).2) <| Exists.intro ((ps_tj (ps_t a V s0).1 V0 (V0 :: rest)).1) <| Exists.intro (th) <| ?_
    refine And.intro (by
      refine ⟨hQb.lo hlo4 h120, ?_, ⟨by omega, by omega, by omega⟩, ⟨hrt, t2, hMt, hx4.le (ps_le.rf _ 0) (by omega)⟩, hc4.le (by omega) (by omega), hpm4⟩
      rw [hlo4 _ _ (by omega)]; exact rb1) ?_
    intro r112 M112 hM112 hr112
    have hx5 : ps_x (ps_t b (ps_tj (ps_t a V s0).1 V0 (V0 :: rest)).2 (ps_tj (ps_t a V s0).1 V0 (V0 :: rest)).1).1 1 := hx4.le b1 (by omega)
    refine Exists.intro ((ps_t a V s0).2.1) <| Exists.intro ((ps_t b (ps_tj (ps_t a V s0).1 V0 (V0 :: rest)).2 (ps_tj (ps_t a V s0).1 V0 (V0 :: rest)).1).2.1) <| Exists.intro ((ps_t b (ps_tj (ps_t a V s0).1 V0 (V0 :: rest)).2 (ps_tj (ps_t a V s0).1 V0 (V0 :: rest)).1).1) <| ?_
    refine And.intro (by
      exact ⟨hr30, hr112, fun U hU => hx2.pk (a2 U hU), fun U hU => hx5.pk (b2 U hU), hM112.1, hx5.g⟩) ?_
    intro r115 M115 hM115 hr115
    have hy : ps_y (ps_t a) (ps_t b) V s0 = ((ps_jn (ps_t b (ps_tj (ps_t a V s0).1 V0 (V0 :: rest)).2 (ps_tj (ps_t a V s0).1 V0 (V0 :: rest)).1).1 (ps_t a V s0).2.1 (ps_t b (ps_tj (ps_t a V s0).1 V0 (V0 :: rest)).2 (ps_tj (ps_t a V s0).1 V0 (V0 :: rest)).1).2.1).1, (ps_jn (ps_t b (ps_tj (ps_t a V s0).1 V0 (V0 :: rest)).2 (ps_tj (ps_t a V s0).1 V0 (V0 :: rest)).1).1 (ps_t a V s0).2.1 (ps_t b (ps_tj (ps_t a V s0).1 V0 (V0 :: rest)).2 (ps_tj (ps_t a V s0).1 V0 (V0 :: rest)).1).2.1).2, (ps_t b (ps_tj (ps_t a V s0).1 V0 (V0 :: rest)).2 (ps_tj (ps_t a V s0).1 V0 (V0 :: rest)).1).2.2) := by
      unfold ps_y
      rw [hth]
    rw [hy] at gK
    refine gK _ _ ⟨hM115.1, ((hF3.tr (hN4.F _ _)).tr (hM112.2.1.up (by omega))).tr (hM115.2.F _ _), fun q => ?_⟩ hr115
    exact (hM112.2.2 q).N hM115.2
  · intro c46
    have hnil : (ps_t a V s0).2.2 = [] := by
      cases h : (ps_t a V s0).2.2 with
      | nil => rfl
      | cons V0 rest =>
        rw [h, List.length_cons] at h779
        omega
    have hy : ps_y (ps_t a) (ps_t b) V s0 = ((ps_t a V s0).1, (ps_t a V s0).2.1, []) := by
      unfold ps_y
      rw [hnil]
    rw [hy] at gK
    refine gK _ _ ⟨hM30.1, hF3, fun q => ?_⟩ hr30
    show th_R M30 (th ++ []) cat.toNat
    rw [List.append_nil]
    exact hc3.th q

set_option maxRecDepth 20000 in
set_option maxHeartbeats 1000000 in
theorem ok_X0_traverseTry (E : ab_E) (hb d : Nat) (hd : 7 ≤ d) (h1 : ab_Ok E d 9 (S_X0_traverseBlock hb)) : ab_Ok E (d + 1) 11 (S_X0_traverseTry hb) := by
  refine ab_mk rq_X0_traverseTry tk_X0_traverseTry (rt := 3) (rfl) (cuts := []) (G := [(217, S_J6_bitCount_0f7a4), (4, S_X0_joined), (6, S_X0_renewed), (9, S_X0_traverseBlock hb)]) (List.forall_mem_cons.mpr ⟨⟨1, by omega, ok_J6_bitCount_0f7a4 E⟩, List.forall_mem_cons.mpr ⟨⟨2, by omega, ok_X0_joined E⟩, List.forall_mem_cons.mpr ⟨⟨1, by omega, ok_X0_renewed E⟩, List.forall_mem_cons.mpr ⟨⟨d, by omega, h1⟩, fun _ h => absurd h List.not_mem_nil⟩⟩⟩⟩) (by omega) 119 rfl ?_
  intro a M K wd wa hS
  unfold S_X0_traverseTry at hS
  split at hS
  ·
    rename_i s nn LL cat dep
    refine ⟨Nat.le_of_ble_eq_true rfl, fun _ _ _ _ _ => False, ?_, ?_⟩
    · exact vc_X0_traverseTry_0 hb s nn LL cat dep M K  hS
    · exact fun _ _ _ _ _ h => h.elim
  · exact hS.elim
theorem ok_X0_traverseStatement_0 (E : ab_E) (d : Nat) : ab_Ok E d 10 (S_X0_traverseStatement 0) := by
  intro q hq a M K wd wa hS l
  unfold S_X0_traverseStatement at hS
  split at hS
  · obtain ⟨P, a, b, R, nx, pv, V, s0, th, ⟨-, -, -, ⟨-, -, hh⟩, -⟩, -⟩ := hS
    exact absurd hh (by omega)
  · exact hS.elim
theorem ok_X0_traverseBlock_all (E : ab_E) : ∀ hb : Nat, ab_Ok E (8 + 3 * hb) 9 (S_X0_traverseBlock hb)
  | 0 => ok_X0_traverseBlock E 0 7 (by omega) (ok_X0_traverseStatement_0 E 7)
  | hb + 1 => by
    have h := ok_X0_traverseBlock_all E hb
    have ht := ok_X0_traverseTry E hb (8 + 3 * hb) (by omega) h
    have hs := ok_X0_traverseStatement E hb (8 + 3 * hb + 1) (8 + 3 * hb) (by omega) (by omega) h ht
    have := ok_X0_traverseBlock E (hb + 1) (8 + 3 * hb + 1 + 1) (by omega) hs
    exact this

