/-! the form by copying -/
theorem cr_ls_lt (t : pz_T) (r0 : Nat) (hw : pz_wf t) : (cr_ls t r0 = -1 ∧ t = .leaf) ∨ 0 ≤ cr_ls t r0 := by
  cases t with
  | leaf => exact Or.inl ⟨rfl, rfl⟩
  | inner s P v p c => exact Or.inr (Int.natCast_nonneg _)

theorem pfx_tail {s : Nat} {P : pz_P} {v : Unit} {p c : pz_T} : ∀ t : pz_T, pfx (.inner s P v p c) t → pfx p t
  | .leaf, h => by
    have h : (Std.DTreeMap.Internal.Impl.inner s P v p c : pz_T) = .leaf := h
    cases h
  | .inner s' P' v' t' c', h => by
    rcases h with h | h
    · cases h
      exact Or.inr (pfx_rf p)
    · exact Or.inr (pfx_tail t' h)
def S_X0_copyBlock (hb : Nat) : ab_PT := fun a M K => match a with
  | [.inr (.inr (.inr (790, 0, 0))), .inr (.inl bg), .inr (.inr (.inl RR)), .inr (.inr (.inl XX)), .inr (.inl dep)] => (∃ t : pz_T, ∃ r0 : Nat, ∃ nx : Int, (ps_Q M t r0 nx ∧ bg = cr_ls t r0 ∧ (0 ≤ dep ∧ dep + ((pz_ht t : Nat) : Int) ≤ 40 ∧ pz_ht t ≤ hb) ∧ ps_pm M ∧ ps_l M) ∧ (∀ rx : Int, (rx = cp_t t RR XX) → K [Xl rx] M))
  | _ => False
def S_X0_copyStatement (hs : Nat) : ab_PT := fun a M K => match a with
  | [.inr (.inr (.inr (790, 0, 0))), .inr (.inr (.inr (s, 4, nn))), .inr (.inr (.inl RR)), .inr (.inr (.inl XX)), .inr (.inl dep)] => (∃ P : pz_P, ∃ a : pz_T, ∃ b : pz_T, ∃ R : Nat, ∃ nx : Int, ∃ pv : Int, (s = 26 + 1 + 1 + 3 * R ∧ ps_row M P R a b nx pv ∧ (ps_Q M a (R + 1) (-1) ∧ ps_Q M b (R + 1 + pz_sz a) (-1)) ∧ (0 ≤ dep ∧ dep + ((Nat.max (pz_ht a) (pz_ht b) : Nat) : Int) + 1 ≤ 40 ∧ Nat.max (pz_ht a) (pz_ht b) + 1 ≤ hs) ∧ ps_pm M ∧ ps_l M) ∧ (∀ rx : Int, (rx = cp_P P (cp_t a) (cp_t b) RR XX) → K [Xl rx] M))
  | _ => False
set_option maxRecDepth 20000 in
theorem vc_X0_copyBlock_0 (hb : Nat) (hs : Nat) (he : hb = hs) (bg : Int) (RR : Int) (XX : Int) (dep : Int) (M : ab_M) (K : List ab_V → ab_M → Prop) (hS : (∃ t : pz_T, ∃ r0 : Nat, ∃ nx : Int, (ps_Q M t r0 nx ∧ bg = cr_ls t r0 ∧ (0 ≤ dep ∧ dep + ((pz_ht t : Nat) : Int) ≤ 40 ∧ pz_ht t ≤ hb) ∧ ps_pm M ∧ ps_l M) ∧ (∀ rx : Int, (rx = cp_t t RR XX) → K [Xl rx] M))) : (-128 ≤ (40 : Int) ∧ (40 : Int) < 128) ∧ (ab_ir dep ∧ ab_ir (40 : Int)) ∧ ((dep ≤ (40 : Int) → (∃ n', ((n' = (120 - (0 : Int)).toNat ∧ bg = bg ∧ RR = RR ∧ XX = XX ∧ dep = dep ∧ 0 ≤ (0 : Int) ∧ (0 : Int) ≤ 120 ∧ M = M ∧ ∃ (t : pz_T) (r0 : Nat) (nx : Int), (ps_Q M t r0 nx ∧ bg = cr_ls t r0 ∧ (0 ≤ dep ∧ dep + ((pz_ht t : Nat) : Int) ≤ 40 ∧ pz_ht t ≤ hb) ∧ ps_pm M ∧ ps_l M) ∧ (∀ rx : Int, (rx = cp_t t RR XX) → K [Xl rx] M) ∧ ∃ p : pz_T, pfx p t ∧ (0 : Int) + ((pz_sz p : Nat) : Int) ≤ ((pz_sz t : Nat) : Int) ∧ bg = cr_ls p r0 ∧ cp_t t RR XX = cp_t p RR XX)))) ∧ ((40 : Int) < dep → K [Xl RR] M)) := by
  obtain ⟨t, r0, nx, ⟨hQ, hbg, ⟨hd0, hd1, hh⟩, hpm, hl⟩, gK⟩ := hS
  refine And.intro (by
    first
      | omega
      | exact ⟨by omega, by omega⟩
      | exact ⟨⟨by omega, by omega⟩, h3.1, h3.2⟩
      | exact ⟨⟨by omega, by omega⟩, by omega, by omega⟩) ?_
  refine And.intro (by
    first
      | omega
      | exact ⟨by omega, by omega⟩
      | exact ⟨⟨by omega, by omega⟩, h3.1, h3.2⟩
      | exact ⟨⟨by omega, by omega⟩, by omega, by omega⟩) ?_
  refine ⟨?_, ?_⟩
  · intro c7
    refine ⟨_, rfl, rfl, rfl, rfl, rfl, by decide, by decide, rfl, t, r0, nx, ⟨hQ, hbg, ⟨hd0, hd1, hh⟩, hpm, hl⟩, gK, t, pfx_rf t, by omega, hbg, rfl⟩
  · intro c7
    exact absurd c7 (by omega)

set_option maxRecDepth 20000 in
theorem vc_X0_copyBlock_19 (hb : Nat) (hs : Nat) (he : hb = hs) (bg : Int) (RR : Int) (XX : Int) (dep : Int) (M : ab_M) (K : List ab_V → ab_M → Prop) (hS : (∃ t : pz_T, ∃ r0 : Nat, ∃ nx : Int, (ps_Q M t r0 nx ∧ bg = cr_ls t r0 ∧ (0 ≤ dep ∧ dep + ((pz_ht t : Nat) : Int) ≤ 40 ∧ pz_ht t ≤ hb) ∧ ps_pm M ∧ ps_l M) ∧ (∀ rx : Int, (rx = cp_t t RR XX) → K [Xl rx] M))) (n : Nat) (b1 : Int) (R1 : Int) (X1 : Int) (d1 : Int) (sm : Int) (row : Int) (k : Int) (M1 : ab_M) (hI : n = (120 - k).toNat ∧ bg = b1 ∧ RR = R1 ∧ XX = X1 ∧ dep = d1 ∧ 0 ≤ k ∧ k ≤ 120 ∧ M = M1 ∧ ∃ (t : pz_T) (r0 : Nat) (nx : Int), (ps_Q M t r0 nx ∧ bg = cr_ls t r0 ∧ (0 ≤ dep ∧ dep + ((pz_ht t : Nat) : Int) ≤ 40 ∧ pz_ht t ≤ hb) ∧ ps_pm M ∧ ps_l M) ∧ (∀ rx : Int, (rx = cp_t t RR XX) → K [Xl rx] M) ∧ ∃ p : pz_T, pfx p t ∧ k + ((pz_sz p : Nat) : Int) ≤ ((pz_sz t : Nat) : Int) ∧ row = cr_ls p r0 ∧ cp_t t RR XX = cp_t p sm XX) : (-128 ≤ (120 : Int) ∧ (120 : Int) < 128) ∧ (ab_ir k ∧ ab_ir (120 : Int)) ∧ (((120 : Int) ≤ k → K [Xl sm] M1) ∧ (k < (120 : Int) → (ab_ir row) ∧ ((row < 0 → K [Xl sm] M1) ∧ (0 ≤ row → (ab_ir row ∧ 0 ≤ M1 26 3 ∧ M1 26 3 ≤ 120) ∧ (∀ o38 : Nat, (o38 = if 0 ≤ row ∧ row < M1 26 3 then 26 + 1 + 1 + 3 * row.toNat else 26 + 362) → (∃ P_47 : pz_P, ∃ a_47 : pz_T, ∃ b_47 : pz_T, ∃ R_47 : Nat, ∃ nx_47 : Int, ∃ pv_47 : Int, (o38 = 26 + 1 + 1 + 3 * R_47 ∧ ps_row M1 P_47 R_47 a_47 b_47 nx_47 pv_47 ∧ (ps_Q M1 a_47 (R_47 + 1) (-1) ∧ ps_Q M1 b_47 (R_47 + 1 + pz_sz a_47) (-1)) ∧ (0 ≤ d1 ∧ d1 + ((Nat.max (pz_ht a_47) (pz_ht b_47) : Nat) : Int) + 1 ≤ 40 ∧ Nat.max (pz_ht a_47) (pz_ht b_47) + 1 ≤ hs) ∧ ps_pm M1 ∧ ps_l M1) ∧ (∀ r47 : Int, (r47 = cp_P P_47 (cp_t a_47) (cp_t b_47) sm X1) → (ab_ir row ∧ 0 ≤ M1 26 3 ∧ M1 26 3 ≤ 120) ∧ (∀ o58 : Nat, (o58 = if 0 ≤ row ∧ row < M1 26 3 then 26 + 1 + 1 + 3 * row.toNat else 26 + 362) → (∃ n', n' < n ∧ ((n' = (120 - (k + 1)).toNat ∧ bg = b1 ∧ RR = R1 ∧ XX = X1 ∧ dep = d1 ∧ 0 ≤ (k + 1) ∧ (k + 1) ≤ 120 ∧ M = M1 ∧ ∃ (t : pz_T) (r0 : Nat) (nx : Int), (ps_Q M t r0 nx ∧ bg = cr_ls t r0 ∧ (0 ≤ dep ∧ dep + ((pz_ht t : Nat) : Int) ≤ 40 ∧ pz_ht t ≤ hb) ∧ ps_pm M ∧ ps_l M) ∧ (∀ rx : Int, (rx = cp_t t RR XX) → K [Xl rx] M) ∧ ∃ p : pz_T, pfx p t ∧ (k + 1) + ((pz_sz p : Nat) : Int) ≤ ((pz_sz t : Nat) : Int) ∧ (M1 o58 11) = cr_ls p r0 ∧ cp_t t RR XX = cp_t p r47 XX))))))))))) := by
  obtain ⟨hn, q1, q2, q3, q4, hk0, hk1, q5, t, r0, nx, ⟨hQ, hbg, ⟨hd0, hd1, hh⟩, hpm, hl⟩, gK, p, hp, hkp, hrow, hcp⟩ := hI
  subst q1
  subst q2
  subst q3
  subst q4
  subst q5
  clear hS
  obtain ⟨psz, pht⟩ := pfx_sz t hQ.1 hp
  have hwp := pfx_wf t hQ.1 hp
  have hs3 := hQ.2.1
  have h3 := hpm.1
  have hrr : -1 ≤ row ∧ row < 130 := by
    rcases cr_ls_lt p r0 hwp with z | z
    · rw [hrow]; omega
    · cases p with
      | leaf => have : row = -1 := hrow; omega
      | inner s P v p' c =>
        cases c with
        | leaf => exact hwp.elim
        | inner s' P' v' a b =>
          rw [pz_sz_nd] at psz
          have : row = ((r0 + pz_sz p' : Nat) : Int) := hrow
          omega
  refine And.intro (by
    first
      | omega
      | exact ⟨by omega, by omega⟩
      | exact ⟨⟨by omega, by omega⟩, h3.1, h3.2⟩
      | exact ⟨⟨by omega, by omega⟩, by omega, by omega⟩) ?_
  refine And.intro (by
    first
      | omega
      | exact ⟨by omega, by omega⟩
      | exact ⟨⟨by omega, by omega⟩, h3.1, h3.2⟩
      | exact ⟨⟨by omega, by omega⟩, by omega, by omega⟩) ?_
  refine ⟨?_, ?_⟩
  · intro c23
    refine gK _ ?_
    have hpl : p = .leaf := by
      cases p with
      | leaf => rfl
      | inner s P v p' c =>
        cases c with
        | leaf => exact hwp.elim
        | inner s' P' v' a b =>
          have : row = ((r0 + pz_sz p' : Nat) : Int) := hrow
          rw [pz_sz_nd] at hkp
          omega
    rw [hcp, hpl]
    rfl
  · intro c23
    refine And.intro (by
      first
        | omega
        | exact ⟨by omega, by omega⟩
        | exact ⟨⟨by omega, by omega⟩, h3.1, h3.2⟩
        | exact ⟨⟨by omega, by omega⟩, by omega, by omega⟩) ?_
    refine ⟨?_, ?_⟩
    · intro c28
      refine gK _ ?_
      have hpl : p = .leaf := by
        cases p with
        | leaf => rfl
        | inner s P v p' c =>
          cases c with
          | leaf => exact hwp.elim
          | inner s' P' v' a b =>
            have : row = ((r0 + pz_sz p' : Nat) : Int) := hrow
            rw [pz_sz_nd] at hkp
            omega
      rw [hcp, hpl]
      rfl
    · intro c28
      refine And.intro (by
        first
          | omega
          | exact ⟨by omega, by omega⟩
          | exact ⟨⟨by omega, by omega⟩, h3.1, h3.2⟩
          | exact ⟨⟨by omega, by omega⟩, by omega, by omega⟩) ?_
      intro o38 hr38
      obtain ⟨sx, P, vx, p', sy, Py, vy, a, b, rfl⟩ : ∃ (s : Nat) (P : pz_P) (v : Unit) (p' : pz_T) (s' : Nat) (P' : pz_P) (v' : Unit) (a b : pz_T), p = .inner s P v p' (.inner s' P' v' a b) := by
        cases p with
        | leaf => have : row = -1 := hrow; omega
        | inner s P v p' c =>
          cases c with
          | leaf => exact hwp.elim
          | inner s' P' v' a b => exact ⟨s, P, v, p', s', P', v', a, b, rfl⟩
      have hht2 : Nat.max (pz_ht a) (pz_ht b) + 1 ≤ pz_ht (.inner sx P vx p' (.inner sy Py vy a b)) := Nat.le_max_right _ _
      have hnd : ∃ nx2, ps_Q M (.inner sx P vx p' (.inner sy Py vy a b)) r0 nx2 := by
        rcases pfx_Q t nx hQ hp with ⟨e, q⟩ | ⟨q, -⟩
        · exact ⟨_, q⟩
        · exact ⟨_, q⟩
      obtain ⟨nx2, hnd⟩ := hnd
      obtain ⟨y0, y1, y2, y3⟩ := hnd.nd
      have hrow2 : row = ((r0 + pz_sz p' : Nat) : Int) := hrow
      have hR3 := y1.2.2.2.2.2.2.2.2.1
      have ho38 : o38 = 26 + 1 + 1 + 3 * (r0 + pz_sz p') := by
        rw [hr38, hrow2, if_pos ⟨by omega, by omega⟩]
        omega
      clear hr38
      subst ho38
      refine Exists.intro (P) <| Exists.intro (a) <| Exists.intro (b) <| Exists.intro ((r0 + pz_sz p')) <| Exists.intro (nx2) <| Exists.intro ((cr_ls p' r0)) <| ?_
      refine And.intro (by
        exact ⟨rfl, y1, ⟨y2, y3⟩, ⟨hd0, by omega, by omega⟩, hpm, hl⟩) ?_
      intro r47 hr47
      refine And.intro (by
        first
          | omega
          | exact ⟨by omega, by omega⟩
          | exact ⟨⟨by omega, by omega⟩, h3.1, h3.2⟩
          | exact ⟨⟨by omega, by omega⟩, by omega, by omega⟩) ?_
      intro o58 hr58
      have ho58 : o58 = 26 + 1 + 1 + 3 * (r0 + pz_sz p') := by
        rw [hr58, hrow2, if_pos ⟨by omega, by omega⟩]
        omega
      clear hr58
      subst ho58
      rw [pz_sz_nd] at hkp
      refine ⟨_, ?_, rfl, rfl, rfl, rfl, rfl, by omega, by omega, rfl, t, r0, nx, ⟨hQ, hbg, ⟨hd0, hd1, hh⟩, hpm, hl⟩, gK, p', ?_, by omega, y1.2.2.1.2, ?_⟩
      · omega
      · exact pfx_tail t hp
      · rw [hcp, hr47]
        rfl

set_option maxRecDepth 20000 in
set_option maxHeartbeats 1000000 in
theorem ok_X0_copyBlock (E : ab_E) (hb d : Nat) (hd : 3 ≤ d) (h1 : ab_Ok E d 2 (S_X0_copyStatement hb)) : ab_Ok E (d + 1) 1 (S_X0_copyBlock hb) := by
  refine ab_mk rq_X0_copyBlock tk_X0_copyBlock (rt := 3) (rfl) (cuts := [19]) (G := [(2, S_X0_copyStatement hb), (16, S_X1_at)]) (List.forall_mem_cons.mpr ⟨⟨d, by omega, h1⟩, List.forall_mem_cons.mpr ⟨⟨1, by omega, ok_X1_at E⟩, fun _ h => absurd h List.not_mem_nil⟩⟩) (by omega) 86 rfl ?_
  intro a M K wd wa hS
  unfold S_X0_copyBlock at hS
  split at hS
  ·
    rename_i bg RR XX dep
    refine ⟨Nat.le_of_ble_eq_true rfl, fun pc n L st M1 => match pc, L, st with
      | 19, [.inr (.inr (.inr (790, 0, 0))), .inr (.inl b1), .inr (.inr (.inl R1)), .inl (), .inr (.inr (.inl X1)), .inl (), .inr (.inl d1), .inr (.inr (.inl sm)), .inl (), .inr (.inl row), .inr (.inl k)], [] => (n = (120 - k).toNat ∧ bg = b1 ∧ RR = R1 ∧ XX = X1 ∧ dep = d1 ∧ 0 ≤ k ∧ k ≤ 120 ∧ M = M1 ∧ ∃ (t : pz_T) (r0 : Nat) (nx : Int), (ps_Q M t r0 nx ∧ bg = cr_ls t r0 ∧ (0 ≤ dep ∧ dep + ((pz_ht t : Nat) : Int) ≤ 40 ∧ pz_ht t ≤ hb) ∧ ps_pm M ∧ ps_l M) ∧ (∀ rx : Int, (rx = cp_t t RR XX) → K [Xl rx] M) ∧ ∃ p : pz_T, pfx p t ∧ k + ((pz_sz p : Nat) : Int) ≤ ((pz_sz t : Nat) : Int) ∧ row = cr_ls p r0 ∧ cp_t t RR XX = cp_t p sm XX)
      | _, _, _ => False, ?_, ?_⟩
    · exact vc_X0_copyBlock_0 hb hb rfl bg RR XX dep M K  hS
    · intro pc n L st M1 hI wd1 wL wst
      (try dsimp only at hI)
      split at hI
      ·
        rename_i b1 R1 X1 d1 sm row k
        exact vc_X0_copyBlock_19 hb hb rfl bg RR XX dep M K  hS n b1 R1 X1 d1 sm row k _ hI
      · exact hI.elim
  · exact hS.elim
set_option maxRecDepth 20000 in
theorem vc_X0_copyStatement_0 (hs : Nat) (hb : Nat) (he : hs = hb + 1) (s : Nat) (nn : Nat) (RR : Int) (XX : Int) (dep : Int) (M : ab_M) (K : List ab_V → ab_M → Prop) (hS : (∃ P : pz_P, ∃ a : pz_T, ∃ b : pz_T, ∃ R : Nat, ∃ nx : Int, ∃ pv : Int, (s = 26 + 1 + 1 + 3 * R ∧ ps_row M P R a b nx pv ∧ (ps_Q M a (R + 1) (-1) ∧ ps_Q M b (R + 1 + pz_sz a) (-1)) ∧ (0 ≤ dep ∧ dep + ((Nat.max (pz_ht a) (pz_ht b) : Nat) : Int) + 1 ≤ 40 ∧ Nat.max (pz_ht a) (pz_ht b) + 1 ≤ hs) ∧ ps_pm M ∧ ps_l M) ∧ (∀ rx : Int, (rx = cp_P P (cp_t a) (cp_t b) RR XX) → K [Xl rx] M))) : (ab_ir (M s 2) ∧ M 26 11 ≤ 64 ∧ 0 ≤ M 26 11) ∧ (∀ r8 : Int, (r8 = if 0 ≤ (M s 2) ∧ (M s 2) < M 26 11 then M 394 (M s 2).toNat else 0) → (ab_ir r8) ∧ (ab_ir (M s 3) ∧ M 26 11 ≤ 64 ∧ 0 ≤ M 26 11) ∧ (∀ r22 : Int, (r22 = if 0 ≤ (M s 3) ∧ (M s 3) < M 26 11 then M 394 (M s 3).toNat else 0) → (ab_ir r22) ∧ (ab_ir (M s 0)) ∧ (((M s 0) = 105 → (0 ≤ (0 : Int) ∧ (0 : Int) < ((2 : Nat) : Int)) ∧ (∃ t_93 : pz_T, ∃ r0_93 : Nat, ∃ nx_93 : Int, (ps_Q M t_93 r0_93 nx_93 ∧ (M (s + 2) 0) = cr_ls t_93 r0_93 ∧ (0 ≤ (dep + (1 : Int)) ∧ (dep + (1 : Int)) + ((pz_ht t_93 : Nat) : Int) ≤ 40 ∧ pz_ht t_93 ≤ hb) ∧ ps_pm M ∧ ps_l M) ∧ (∀ r93 : Int, (r93 = cp_t t_93 RR XX) → (0 ≤ (1 : Int) ∧ (1 : Int) < ((2 : Nat) : Int)) ∧ (∃ t_121 : pz_T, ∃ r0_121 : Nat, ∃ nx_121 : Int, (ps_Q M t_121 r0_121 nx_121 ∧ (M (s + 2) 1) = cr_ls t_121 r0_121 ∧ (0 ≤ (dep + (1 : Int)) ∧ (dep + (1 : Int)) + ((pz_ht t_121 : Nat) : Int) ≤ 40 ∧ pz_ht t_121 ≤ hb) ∧ ps_pm M ∧ ps_l M) ∧ (∀ r121 : Int, (r121 = cp_t t_121 RR XX) → K [Xl (((((2 : Int) * r8) + r93) + r121) + ((1 : Nat) : Int))] M))))) ∧ (¬ (M s 0) = 105 → (((M s 0) = 116 → K [Xl XX] M) ∧ (¬ (M s 0) = 116 → (((M s 0) = 119 → (0 ≤ (0 : Int) ∧ (0 : Int) < ((2 : Nat) : Int)) ∧ (∃ t_156 : pz_T, ∃ r0_156 : Nat, ∃ nx_156 : Int, (ps_Q M t_156 r0_156 nx_156 ∧ (M (s + 2) 0) = cr_ls t_156 r0_156 ∧ (0 ≤ (dep + (1 : Int)) ∧ (dep + (1 : Int)) + ((pz_ht t_156 : Nat) : Int) ≤ 40 ∧ pz_ht t_156 ≤ hb) ∧ ps_pm M ∧ ps_l M) ∧ (∀ r156 : Int, (r156 = cp_t t_156 r22 XX) → K [Xl ((((((3 : Int) * r22) + ((2 : Int) * r8)) + r156) + RR) + ((1 : Nat) : Int))] M))) ∧ (¬ (M s 0) = 119 → (((M s 0) = 121 → (0 ≤ (0 : Int) ∧ (0 : Int) < ((2 : Nat) : Int)) ∧ (0 ≤ (1 : Int) ∧ (1 : Int) < ((2 : Nat) : Int)) ∧ (∃ t_187 : pz_T, ∃ r0_187 : Nat, ∃ nx_187 : Int, (ps_Q M t_187 r0_187 nx_187 ∧ (M (s + 2) 1) = cr_ls t_187 r0_187 ∧ (0 ≤ (dep + (1 : Int)) ∧ (dep + (1 : Int)) + ((pz_ht t_187 : Nat) : Int) ≤ 40 ∧ pz_ht t_187 ≤ hb) ∧ ps_pm M ∧ ps_l M) ∧ (∀ r187 : Int, (r187 = cp_t t_187 RR XX) → (∃ t_194 : pz_T, ∃ r0_194 : Nat, ∃ nx_194 : Int, (ps_Q M t_194 r0_194 nx_194 ∧ (M (s + 2) 0) = cr_ls t_194 r0_194 ∧ (0 ≤ (dep + (1 : Int)) ∧ (dep + (1 : Int)) + ((pz_ht t_194 : Nat) : Int) ≤ 40 ∧ pz_ht t_194 ≤ hb) ∧ ps_pm M ∧ ps_l M) ∧ (∀ r194 : Int, (r194 = cp_t t_194 RR r187) → K [Xl r194] M))))) ∧ (¬ (M s 0) = 121 → K [Xl (((RR + r8) + r22) + ((1 : Nat) : Int))] M)))))))))) := by
  obtain ⟨P, a, b, R, nx, pv, ⟨hs0, hR, ⟨hQa, hQb⟩, ⟨hd0, hd1, hh⟩, hpm, hl⟩, gK⟩ := hS
  subst hs0
  obtain ⟨⟨rl, rv⟩, ⟨rt1, rt2⟩, ⟨rn, rp⟩, ⟨rb0, rb1, rl0, rl1⟩, rm, rw, ra, rb, ⟨rR, rf0, rf1, rg0, rg1⟩⟩ := id hR
  have hP := cr_lt_all rw rl
  have h120 := hpm.1.2
  have h64 := hpm.2
  have hlr : ab_ir (M (26 + 1 + 1 + 3 * R) 0) := by rcases hP with z | z | z | z | z | z | z | z | z <;> exact ⟨by omega, by omega⟩
  have hma : pz_ht a ≤ Nat.max (pz_ht a) (pz_ht b) := Nat.le_max_left _ _
  have hmb : pz_ht b ≤ Nat.max (pz_ht a) (pz_ht b) := Nat.le_max_right _ _
  have hb1 := tl_M_rng hl (M (26 + 1 + 1 + 3 * R) 2)
  have hb2 := tl_M_rng hl (M (26 + 1 + 1 + 3 * R) 3)
  rw [rt1] at hb1
  rw [rt2] at hb2
  refine And.intro (by
    first
      | exact hlr
      | exact ⟨⟨by omega, by omega⟩, h64.2, h64.1⟩
      | omega
      | exact ⟨by omega, by omega⟩
      | exact ⟨⟨by omega, by omega⟩, by omega, by omega⟩) ?_
  intro r8 hr8
  replace hr8 := hr8.trans rt1
  refine And.intro (by
    first
      | exact hlr
      | exact ⟨⟨by omega, by omega⟩, h64.2, h64.1⟩
      | omega
      | exact ⟨by omega, by omega⟩
      | exact ⟨⟨by omega, by omega⟩, by omega, by omega⟩) ?_
  refine And.intro (by
    first
      | exact hlr
      | exact ⟨⟨by omega, by omega⟩, h64.2, h64.1⟩
      | omega
      | exact ⟨by omega, by omega⟩
      | exact ⟨⟨by omega, by omega⟩, by omega, by omega⟩) ?_
  intro r22 hr22
  replace hr22 := hr22.trans rt2
  refine And.intro (by
    first
      | exact hlr
      | exact ⟨⟨by omega, by omega⟩, h64.2, h64.1⟩
      | omega
      | exact ⟨by omega, by omega⟩
      | exact ⟨⟨by omega, by omega⟩, by omega, by omega⟩) ?_
  refine And.intro (by
    first
      | exact hlr
      | exact ⟨⟨by omega, by omega⟩, h64.2, h64.1⟩
      | omega
      | exact ⟨by omega, by omega⟩
      | exact ⟨⟨by omega, by omega⟩, by omega, by omega⟩) ?_
  refine ⟨?_, ?_⟩
  · intro c32_105
    refine And.intro (by
      first
        | exact hlr
        | exact ⟨⟨by omega, by omega⟩, h64.2, h64.1⟩
        | omega
        | exact ⟨by omega, by omega⟩
        | exact ⟨⟨by omega, by omega⟩, by omega, by omega⟩) ?_
    refine Exists.intro (a) <| Exists.intro ((R + 1)) <| Exists.intro ((-1)) <| ?_
    refine And.intro (by
      exact ⟨hQa, rl0, ⟨by omega, by omega, by omega⟩, hpm, hl⟩) ?_
    intro r93 hr93
    refine And.intro (by
      first
        | exact hlr
        | exact ⟨⟨by omega, by omega⟩, h64.2, h64.1⟩
        | omega
        | exact ⟨by omega, by omega⟩
        | exact ⟨⟨by omega, by omega⟩, by omega, by omega⟩) ?_
    refine Exists.intro (b) <| Exists.intro ((R + 1 + pz_sz a)) <| Exists.intro ((-1)) <| ?_
    refine And.intro (by
      exact ⟨hQb, rl1, ⟨by omega, by omega, by omega⟩, hpm, hl⟩) ?_
    intro r121 hr121
    have hP1 : P.1 = 6 := by
      rcases hP with z | z | z | z | z | z | z | z | z <;> omega
    refine gK _ ?_
    unfold cp_P
    rw [if_neg (by omega), if_pos hP1, hr121, hr93, hr8]
    rfl
  · intro c32_105
    refine ⟨?_, ?_⟩
    · intro c32_116
      have hP1 : P.1 = 4 := by
        rcases hP with z | z | z | z | z | z | z | z | z <;> omega
      refine gK _ ?_
      unfold cp_P
      rw [if_pos hP1]
    · intro c32_116
      refine ⟨?_, ?_⟩
      · intro c32_119
        refine And.intro (by
          first
            | exact hlr
            | exact ⟨⟨by omega, by omega⟩, h64.2, h64.1⟩
            | omega
            | exact ⟨by omega, by omega⟩
            | exact ⟨⟨by omega, by omega⟩, by omega, by omega⟩) ?_
        refine Exists.intro (a) <| Exists.intro ((R + 1)) <| Exists.intro ((-1)) <| ?_
        refine And.intro (by
          exact ⟨hQa, rl0, ⟨by omega, by omega, by omega⟩, hpm, hl⟩) ?_
        intro r156 hr156
        have hP1 : P.1 = 7 := by
          rcases hP with z | z | z | z | z | z | z | z | z <;> omega
        refine gK _ ?_
        unfold cp_P
        rw [if_neg (by omega), if_neg (by omega), if_pos hP1, hr156, hr8, hr22]
        rfl
      · intro c32_119
        refine ⟨?_, ?_⟩
        · intro c32_121
          refine And.intro (by
            first
              | exact hlr
              | exact ⟨⟨by omega, by omega⟩, h64.2, h64.1⟩
              | omega
              | exact ⟨by omega, by omega⟩
              | exact ⟨⟨by omega, by omega⟩, by omega, by omega⟩) ?_
          refine And.intro (by
            first
              | exact hlr
              | exact ⟨⟨by omega, by omega⟩, h64.2, h64.1⟩
              | omega
              | exact ⟨by omega, by omega⟩
              | exact ⟨⟨by omega, by omega⟩, by omega, by omega⟩) ?_
          refine Exists.intro (b) <| Exists.intro ((R + 1 + pz_sz a)) <| Exists.intro ((-1)) <| ?_
          refine And.intro (by
            exact ⟨hQb, rl1, ⟨by omega, by omega, by omega⟩, hpm, hl⟩) ?_
          intro r187 hr187
          refine Exists.intro (a) <| Exists.intro ((R + 1)) <| Exists.intro ((-1)) <| ?_
          refine And.intro (by
            exact ⟨hQa, rl0, ⟨by omega, by omega, by omega⟩, hpm, hl⟩) ?_
          intro r194 hr194
          have hP1 : P.1 = 8 := by
            rcases hP with z | z | z | z | z | z | z | z | z <;> omega
          refine gK _ ?_
          unfold cp_P
          rw [if_neg (by omega), if_neg (by omega), if_neg (by omega), if_pos hP1, hr194, hr187]
        · intro c32_121
          have hP1 : P.1 = 0 ∨ P.1 = 1 ∨ P.1 = 2 ∨ P.1 = 3 ∨ P.1 = 5 := by
            rcases hP with z | z | z | z | z | z | z | z | z <;> omega
          refine gK _ ?_
          unfold cp_P
          rw [if_neg (by omega), if_neg (by omega), if_neg (by omega), if_neg (by omega), hr8, hr22]
          rfl

set_option maxRecDepth 20000 in
set_option maxHeartbeats 1000000 in
theorem ok_X0_copyStatement (E : ab_E) (hb d : Nat) (hd : 3 ≤ d) (h1 : ab_Ok E d 1 (S_X0_copyBlock hb)) : ab_Ok E (d + 1) 2 (S_X0_copyStatement (hb + 1)) := by
  refine ab_mk rq_X0_copyStatement tk_X0_copyStatement (rt := 3) (rfl) (cuts := []) (G := [(1, S_X0_copyBlock hb), (30, S_X1_termLength)]) (List.forall_mem_cons.mpr ⟨⟨d, by omega, h1⟩, List.forall_mem_cons.mpr ⟨⟨1, by omega, ok_X1_termLength E⟩, fun _ h => absurd h List.not_mem_nil⟩⟩) (by omega) 155 rfl ?_
  intro a M K wd wa hS
  unfold S_X0_copyStatement at hS
  split at hS
  ·
    rename_i s nn RR XX dep
    refine ⟨Nat.le_of_ble_eq_true rfl, fun _ _ _ _ _ => False, ?_, ?_⟩
    · exact vc_X0_copyStatement_0 (hb + 1) hb rfl s nn RR XX dep M K  hS
    · exact fun _ _ _ _ _ h => h.elim
  · exact hS.elim
theorem ok_X0_copyStatement_0 (E : ab_E) (d : Nat) : ab_Ok E d 2 (S_X0_copyStatement 0) := by
  intro q hq a M K wd wa hS l
  unfold S_X0_copyStatement at hS
  split at hS
  · obtain ⟨P, a, b, R, nx, pv, ⟨-, -, -, ⟨-, -, hh⟩, -⟩, -⟩ := hS
    exact absurd hh (by omega)
  · exact hS.elim
theorem ok_X0_copyBlock_all (E : ab_E) : ∀ hb : Nat, ab_Ok E (5 + 2 * hb) 1 (S_X0_copyBlock hb)
  | 0 => ok_X0_copyBlock E 0 4 (by omega) (ok_X0_copyStatement_0 E 4)
  | hb + 1 => ok_X0_copyBlock E (hb + 1) (5 + 2 * hb + 1) (by omega) (ok_X0_copyStatement E hb (5 + 2 * hb) (by omega) (ok_X0_copyBlock_all E hb))

def S_X0_sizeByCopying : ab_PT := fun a M K => match a with
  | [.inr (.inr (.inr (790, 0, 0)))] => (∃ t : pz_T, ∃ nx : Int, (ps_Q M t 0 nx ∧ M 26 4 = cr_ls t 0 ∧ pz_ht t ≤ 24 ∧ ps_pm M ∧ ps_l M) ∧ (∀ rx : Int, (rx = cp_t t 1 1) → K [Xl rx] M))
  | _ => False
set_option maxRecDepth 20000 in
theorem vc_X0_sizeByCopying_0  (M : ab_M) (K : List ab_V → ab_M → Prop) (hS : (∃ t : pz_T, ∃ nx : Int, (ps_Q M t 0 nx ∧ M 26 4 = cr_ls t 0 ∧ pz_ht t ≤ 24 ∧ ps_pm M ∧ ps_l M) ∧ (∀ rx : Int, (rx = cp_t t 1 1) → K [Xl rx] M))) : (∃ t_11 : pz_T, ∃ r0_11 : Nat, ∃ nx_11 : Int, (ps_Q M t_11 r0_11 nx_11 ∧ (M 26 4) = cr_ls t_11 r0_11 ∧ (0 ≤ (0 : Int) ∧ (0 : Int) + ((pz_ht t_11 : Nat) : Int) ≤ 40 ∧ pz_ht t_11 ≤ 24) ∧ ps_pm M ∧ ps_l M) ∧ (∀ r11 : Int, (r11 = cp_t t_11 ((1 : Nat) : Int) ((1 : Nat) : Int)) → K [Xl r11] M)) := by
  obtain ⟨t, nx, ⟨hQ, hbg, hh, hpm, hl⟩, gK⟩ := hS
  refine Exists.intro (t) <| Exists.intro (0) <| Exists.intro (nx) <| ?_
  refine And.intro (by
    exact ⟨hQ, hbg, ⟨by decide, by omega, hh⟩, hpm, hl⟩) ?_
  intro r11 hr11
  exact gK _ hr11

set_option maxRecDepth 20000 in
set_option maxHeartbeats 1000000 in
theorem ok_X0_sizeByCopying (E : ab_E) : ab_Ok E 60 7 S_X0_sizeByCopying := by
  refine ab_mk rq_X0_sizeByCopying tk_X0_sizeByCopying (rt := 3) (rfl) (cuts := []) (G := [(1, S_X0_copyBlock 24)]) (List.forall_mem_cons.mpr ⟨⟨53, by decide, ok_X0_copyBlock_all E 24⟩, fun _ h => absurd h List.not_mem_nil⟩) (by decide) 59 rfl ?_
  intro a M K wd wa hS
  unfold S_X0_sizeByCopying at hS
  split at hS
  ·
    refine ⟨Nat.le_of_ble_eq_true rfl, fun _ _ _ _ _ => False, ?_, ?_⟩
    · exact vc_X0_sizeByCopying_0  M K  hS
    · exact fun _ _ _ _ _ h => h.elim
  · exact hS.elim
