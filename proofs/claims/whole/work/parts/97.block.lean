/-! a block of the passive form -/
def S_X0_traverseBlock (hb : Nat) : ab_PT := fun a M K => match a with
  | [.inr (.inr (.inr (790, 0, 0))), .inr (.inl bg), .inr (.inr (.inl LL)), .inr (.inl cat), .inr (.inl dep)] => (∃ t : pz_T, ∃ r0 : Nat, ∃ V : ps_V, ∃ s0 : ps_S, ∃ th : List ps_V, (ps_Q M t r0 (-1) ∧ bg = cr_fs t r0 ∧ (0 ≤ dep ∧ dep + ((pz_ht t : Nat) : Int) ≤ 40 ∧ pz_ht t ≤ hb) ∧ (LL = pk V ∧ ps_bd V s0 ∧ ps_M M s0 ∧ ps_x s0 (2 * pz_sz t)) ∧ ps_c M cat dep th (pz_sz t) ∧ ps_pm M) ∧ (∀ rx : Int, ∀ Mx : ab_M, (ps_M Mx (ps_t t V s0).1 ∧ ps_F M Mx dep cat ∧ (0 ≤ cat → th_R Mx (th ++ (ps_t t V s0).2.2) cat.toNat)) → (rx = pe (ps_t t V s0).2.1) → K [Xl rx] Mx))
  | _ => False
def S_X0_traverseStatement (hs : Nat) : ab_PT := fun a M K => match a with
  | [.inr (.inr (.inr (790, 0, 0))), .inr (.inr (.inr (s, 4, nn))), .inr (.inr (.inl LL)), .inr (.inl cat), .inr (.inl dep)] => (∃ P : pz_P, ∃ a : pz_T, ∃ b : pz_T, ∃ R : Nat, ∃ nx : Int, ∃ pv : Int, ∃ V : ps_V, ∃ s0 : ps_S, ∃ th : List ps_V, (s = 26 + 1 + 1 + 3 * R ∧ ps_row M P R a b nx pv ∧ (ps_Q M a (R + 1) (-1) ∧ ps_Q M b (R + 1 + pz_sz a) (-1)) ∧ (0 ≤ dep ∧ dep + ((Nat.max (pz_ht a) (pz_ht b) : Nat) : Int) + 1 ≤ 40 ∧ Nat.max (pz_ht a) (pz_ht b) + 1 ≤ hs) ∧ (LL = pk V ∧ ps_bd V s0 ∧ ps_M M s0 ∧ ps_x s0 (2 * (1 + (pz_sz a + pz_sz b)))) ∧ ps_c M cat dep th (1 + (pz_sz a + pz_sz b)) ∧ ps_pm M) ∧ (∀ rx : Int, ∀ Mx : ab_M, (ps_M Mx (ps_P P (pz_md a) (ps_t a) (ps_t b) V s0).1 ∧ ps_F M Mx dep cat ∧ (0 ≤ cat → th_R Mx (th ++ (ps_P P (pz_md a) (ps_t a) (ps_t b) V s0).2.2) cat.toNat)) → (rx = pe (ps_P P (pz_md a) (ps_t a) (ps_t b) V s0).2.1) → K [Xl rx] Mx))
  | _ => False
def S_X0_traverseTry (hb : Nat) : ab_PT := fun a M K => match a with
  | [.inr (.inr (.inr (790, 0, 0))), .inr (.inr (.inr (s, 4, nn))), .inr (.inr (.inl LL)), .inr (.inl cat), .inr (.inl dep)] => (∃ P : pz_P, ∃ a : pz_T, ∃ b : pz_T, ∃ R : Nat, ∃ nx : Int, ∃ pv : Int, ∃ V : ps_V, ∃ s0 : ps_S, ∃ th : List ps_V, (s = 26 + 1 + 1 + 3 * R ∧ ps_row M P R a b nx pv ∧ (ps_Q M a (R + 1) (-1) ∧ ps_Q M b (R + 1 + pz_sz a) (-1)) ∧ (0 ≤ dep ∧ dep + ((Nat.max (pz_ht a) (pz_ht b) : Nat) : Int) + 1 ≤ 40 ∧ Nat.max (pz_ht a) (pz_ht b) ≤ hb) ∧ (LL = pk V ∧ ps_bd V s0 ∧ ps_M M s0 ∧ ps_x s0 (2 * (pz_sz a + pz_sz b) + 2)) ∧ ps_c M cat dep th (1 + (pz_sz a + pz_sz b)) ∧ ps_pm M) ∧ (∀ rx : Int, ∀ Mx : ab_M, (ps_M Mx (ps_y (ps_t a) (ps_t b) V s0).1 ∧ ps_F M Mx dep cat ∧ (0 ≤ cat → th_R Mx (th ++ (ps_y (ps_t a) (ps_t b) V s0).2.2) cat.toNat)) → (rx = pe (ps_y (ps_t a) (ps_t b) V s0).2.1) → K [Xl rx] Mx))
  | _ => False
set_option maxRecDepth 20000 in
theorem vc_X0_traverseBlock_0 (hb : Nat) (hs : Nat) (he : hb = hs) (bg : Int) (LL : Int) (cat : Int) (dep : Int) (M : ab_M) (K : List ab_V → ab_M → Prop) (hS : (∃ t : pz_T, ∃ r0 : Nat, ∃ V : ps_V, ∃ s0 : ps_S, ∃ th : List ps_V, (ps_Q M t r0 (-1) ∧ bg = cr_fs t r0 ∧ (0 ≤ dep ∧ dep + ((pz_ht t : Nat) : Int) ≤ 40 ∧ pz_ht t ≤ hb) ∧ (LL = pk V ∧ ps_bd V s0 ∧ ps_M M s0 ∧ ps_x s0 (2 * pz_sz t)) ∧ ps_c M cat dep th (pz_sz t) ∧ ps_pm M) ∧ (∀ rx : Int, ∀ Mx : ab_M, (ps_M Mx (ps_t t V s0).1 ∧ ps_F M Mx dep cat ∧ (0 ≤ cat → th_R Mx (th ++ (ps_t t V s0).2.2) cat.toNat)) → (rx = pe (ps_t t V s0).2.1) → K [Xl rx] Mx))) : (-128 ≤ (40 : Int) ∧ (40 : Int) < 128) ∧ (ab_ir dep ∧ ab_ir (40 : Int)) ∧ ((dep ≤ (40 : Int) → (∃ n', ((n' = (120 - (0 : Int)).toNat ∧ bg = bg ∧ LL = LL ∧ cat = cat ∧ dep = dep ∧ 0 ≤ (0 : Int) ∧ (0 : Int) ≤ 120 ∧ ∃ (t : pz_T) (r0 : Nat) (V : ps_V) (s0 : ps_S) (th : List ps_V), (ps_Q M t r0 (-1) ∧ bg = cr_fs t r0 ∧ (0 ≤ dep ∧ dep + ((pz_ht t : Nat) : Int) ≤ 40 ∧ pz_ht t ≤ hb) ∧ (LL = pk V ∧ ps_bd V s0 ∧ ps_M M s0 ∧ ps_x s0 (2 * pz_sz t)) ∧ ps_c M cat dep th (pz_sz t) ∧ ps_pm M) ∧ (∀ rx : Int, ∀ Mx : ab_M, (ps_M Mx (ps_t t V s0).1 ∧ ps_F M Mx dep cat ∧ (0 ≤ cat → th_R Mx (th ++ (ps_t t V s0).2.2) cat.toNat)) → (rx = pe (ps_t t V s0).2.1) → K [Xl rx] Mx) ∧ ∃ p : pz_T, pfx p t ∧ (0 : Int) ≤ ((pz_sz p : Nat) : Int) ∧ LL = pe (ps_t p V s0).2.1 ∧ (p = t ∧ bg = -1 ∨ p ≠ t ∧ bg = ((r0 + pz_sz p : Nat) : Int)) ∧ ps_M M (ps_t p V s0).1 ∧ ps_F M M dep cat ∧ (0 ≤ cat → th_R M (th ++ (ps_t p V s0).2.2) cat.toNat))))) ∧ ((40 : Int) < dep → (∃ n', ((n' = (120 - (0 : Int)).toNat ∧ bg = bg ∧ LL = LL ∧ cat = cat ∧ dep = dep ∧ 0 ≤ (0 : Int) ∧ (0 : Int) ≤ 120 ∧ ∃ (t : pz_T) (r0 : Nat) (V : ps_V) (s0 : ps_S) (th : List ps_V), (ps_Q M t r0 (-1) ∧ bg = cr_fs t r0 ∧ (0 ≤ dep ∧ dep + ((pz_ht t : Nat) : Int) ≤ 40 ∧ pz_ht t ≤ hb) ∧ (LL = pk V ∧ ps_bd V s0 ∧ ps_M M s0 ∧ ps_x s0 (2 * pz_sz t)) ∧ ps_c M cat dep th (pz_sz t) ∧ ps_pm M) ∧ (∀ rx : Int, ∀ Mx : ab_M, (ps_M Mx (ps_t t V s0).1 ∧ ps_F M Mx dep cat ∧ (0 ≤ cat → th_R Mx (th ++ (ps_t t V s0).2.2) cat.toNat)) → (rx = pe (ps_t t V s0).2.1) → K [Xl rx] Mx) ∧ ∃ p : pz_T, pfx p t ∧ (0 : Int) ≤ ((pz_sz p : Nat) : Int) ∧ (-1 : Int) = pe (ps_t p V s0).2.1 ∧ (p = t ∧ bg = -1 ∨ p ≠ t ∧ bg = ((r0 + pz_sz p : Nat) : Int)) ∧ ps_M M (ps_t p V s0).1 ∧ ps_F M M dep cat ∧ (0 ≤ cat → th_R M (th ++ (ps_t p V s0).2.2) cat.toNat)))))) := by
  obtain ⟨t, r0, V, s0, th, ⟨hQ, hbg, ⟨hd0, hd1, hh⟩, ⟨hL, hbd, hM, hx⟩, hc, hpm⟩, gK⟩ := hS
  refine And.intro (by
    first
      | omega
      | exact Or.inr ⟨hnl, by decide, by decide⟩
      | exact ⟨by omega, by omega⟩
      | exact ⟨by omega, h3.1, h3.2⟩
      | exact ⟨⟨by omega, by omega⟩, h3.1, h3.2⟩
      | exact ⟨⟨by omega, by omega⟩, by omega, by omega⟩
      | (split <;> first | exact ⟨by decide, by decide⟩ | (split <;> exact ⟨by decide, by decide⟩))) ?_
  refine And.intro (by
    first
      | omega
      | exact Or.inr ⟨hnl, by decide, by decide⟩
      | exact ⟨by omega, by omega⟩
      | exact ⟨by omega, h3.1, h3.2⟩
      | exact ⟨⟨by omega, by omega⟩, h3.1, h3.2⟩
      | exact ⟨⟨by omega, by omega⟩, by omega, by omega⟩
      | (split <;> first | exact ⟨by decide, by decide⟩ | (split <;> exact ⟨by decide, by decide⟩))) ?_
  refine ⟨?_, ?_⟩
  · intro c4
    refine ⟨_, rfl, rfl, rfl, rfl, rfl, by decide, by decide, t, r0, V, s0, th, ⟨hQ, hbg, ⟨hd0, hd1, hh⟩, ⟨hL, hbd, hM, hx⟩, hc, hpm⟩, gK, .leaf, pfx_leaf t, Int.le_refl _, hL, ?_, hM, ps_F.rf _ _ _, ?_⟩
    · cases t with
      | leaf => exact Or.inl ⟨rfl, hbg⟩
      | inner s P v p c => exact Or.inr ⟨fun q => (by cases q), hbg⟩
    · intro q
      show th_R M (th ++ []) cat.toNat
      rw [List.append_nil]
      exact hc.th q
  · intro c4
    exact absurd c4 (by omega)

set_option maxRecDepth 20000 in
theorem vc_X0_traverseBlock_22 (hb : Nat) (hs : Nat) (he : hb = hs) (bg : Int) (LL : Int) (cat : Int) (dep : Int) (M : ab_M) (K : List ab_V → ab_M → Prop) (hS : (∃ t : pz_T, ∃ r0 : Nat, ∃ V : ps_V, ∃ s0 : ps_S, ∃ th : List ps_V, (ps_Q M t r0 (-1) ∧ bg = cr_fs t r0 ∧ (0 ≤ dep ∧ dep + ((pz_ht t : Nat) : Int) ≤ 40 ∧ pz_ht t ≤ hb) ∧ (LL = pk V ∧ ps_bd V s0 ∧ ps_M M s0 ∧ ps_x s0 (2 * pz_sz t)) ∧ ps_c M cat dep th (pz_sz t) ∧ ps_pm M) ∧ (∀ rx : Int, ∀ Mx : ab_M, (ps_M Mx (ps_t t V s0).1 ∧ ps_F M Mx dep cat ∧ (0 ≤ cat → th_R Mx (th ++ (ps_t t V s0).2.2) cat.toNat)) → (rx = pe (ps_t t V s0).2.1) → K [Xl rx] Mx))) (n : Nat) (b1 : Int) (L1 : Int) (c1 : Int) (d1 : Int) (now : Int) (row : Int) (k : Int) (M1 : ab_M) (hI : n = (120 - k).toNat ∧ bg = b1 ∧ LL = L1 ∧ cat = c1 ∧ dep = d1 ∧ 0 ≤ k ∧ k ≤ 120 ∧ ∃ (t : pz_T) (r0 : Nat) (V : ps_V) (s0 : ps_S) (th : List ps_V), (ps_Q M t r0 (-1) ∧ bg = cr_fs t r0 ∧ (0 ≤ dep ∧ dep + ((pz_ht t : Nat) : Int) ≤ 40 ∧ pz_ht t ≤ hb) ∧ (LL = pk V ∧ ps_bd V s0 ∧ ps_M M s0 ∧ ps_x s0 (2 * pz_sz t)) ∧ ps_c M cat dep th (pz_sz t) ∧ ps_pm M) ∧ (∀ rx : Int, ∀ Mx : ab_M, (ps_M Mx (ps_t t V s0).1 ∧ ps_F M Mx dep cat ∧ (0 ≤ cat → th_R Mx (th ++ (ps_t t V s0).2.2) cat.toNat)) → (rx = pe (ps_t t V s0).2.1) → K [Xl rx] Mx) ∧ ∃ p : pz_T, pfx p t ∧ k ≤ ((pz_sz p : Nat) : Int) ∧ now = pe (ps_t p V s0).2.1 ∧ (p = t ∧ row = -1 ∨ p ≠ t ∧ row = ((r0 + pz_sz p : Nat) : Int)) ∧ ps_M M1 (ps_t p V s0).1 ∧ ps_F M M1 dep cat ∧ (0 ≤ cat → th_R M1 (th ++ (ps_t p V s0).2.2) cat.toNat)) : (-128 ≤ (120 : Int) ∧ (120 : Int) < 128) ∧ (ab_ir k ∧ ab_ir (120 : Int)) ∧ (((120 : Int) ≤ k → K [Xl now] M1) ∧ (k < (120 : Int) → (ab_ir row) ∧ ((row < 0 → K [Xl now] M1) ∧ (0 ≤ row → (now = (-1 : Int) ∨ (ab_lr now ∧ ab_lr (-1 : Int))) ∧ (ab_ir (if (-1 : Int) < now then 1 else if now = (-1 : Int) then 0 else -1 : Int)) ∧ (((if (-1 : Int) < now then 1 else if now = (-1 : Int) then 0 else -1 : Int) = 0 → K [Xl now] M1) ∧ (¬ (if (-1 : Int) < now then 1 else if now = (-1 : Int) then 0 else -1 : Int) = 0 → (ab_ir row ∧ 0 ≤ M1 26 3 ∧ M1 26 3 ≤ 120) ∧ (∀ o50 : Nat, (o50 = if 0 ≤ row ∧ row < M1 26 3 then 26 + 1 + 1 + 3 * row.toNat else 26 + 362) → (∃ P_59 : pz_P, ∃ a_59 : pz_T, ∃ b_59 : pz_T, ∃ R_59 : Nat, ∃ nx_59 : Int, ∃ pv_59 : Int, ∃ V_59 : ps_V, ∃ s0_59 : ps_S, ∃ th_59 : List ps_V, (o50 = 26 + 1 + 1 + 3 * R_59 ∧ ps_row M1 P_59 R_59 a_59 b_59 nx_59 pv_59 ∧ (ps_Q M1 a_59 (R_59 + 1) (-1) ∧ ps_Q M1 b_59 (R_59 + 1 + pz_sz a_59) (-1)) ∧ (0 ≤ d1 ∧ d1 + ((Nat.max (pz_ht a_59) (pz_ht b_59) : Nat) : Int) + 1 ≤ 40 ∧ Nat.max (pz_ht a_59) (pz_ht b_59) + 1 ≤ hs) ∧ (now = pk V_59 ∧ ps_bd V_59 s0_59 ∧ ps_M M1 s0_59 ∧ ps_x s0_59 (2 * (1 + (pz_sz a_59 + pz_sz b_59)))) ∧ ps_c M1 c1 d1 th_59 (1 + (pz_sz a_59 + pz_sz b_59)) ∧ ps_pm M1) ∧ (∀ r59 : Int, ∀ M59 : ab_M, (ps_M M59 (ps_P P_59 (pz_md a_59) (ps_t a_59) (ps_t b_59) V_59 s0_59).1 ∧ ps_F M1 M59 d1 c1 ∧ (0 ≤ c1 → th_R M59 (th_59 ++ (ps_P P_59 (pz_md a_59) (ps_t a_59) (ps_t b_59) V_59 s0_59).2.2) c1.toNat)) → (r59 = pe (ps_P P_59 (pz_md a_59) (ps_t a_59) (ps_t b_59) V_59 s0_59).2.1) → (ab_ir row ∧ 0 ≤ M59 26 3 ∧ M59 26 3 ≤ 120) ∧ (∀ o70 : Nat, (o70 = if 0 ≤ row ∧ row < M59 26 3 then 26 + 1 + 1 + 3 * row.toNat else 26 + 362) → (∃ n', n' < n ∧ ((n' = (120 - (k + 1)).toNat ∧ bg = b1 ∧ LL = L1 ∧ cat = c1 ∧ dep = d1 ∧ 0 ≤ (k + 1) ∧ (k + 1) ≤ 120 ∧ ∃ (t : pz_T) (r0 : Nat) (V : ps_V) (s0 : ps_S) (th : List ps_V), (ps_Q M t r0 (-1) ∧ bg = cr_fs t r0 ∧ (0 ≤ dep ∧ dep + ((pz_ht t : Nat) : Int) ≤ 40 ∧ pz_ht t ≤ hb) ∧ (LL = pk V ∧ ps_bd V s0 ∧ ps_M M s0 ∧ ps_x s0 (2 * pz_sz t)) ∧ ps_c M cat dep th (pz_sz t) ∧ ps_pm M) ∧ (∀ rx : Int, ∀ Mx : ab_M, (ps_M Mx (ps_t t V s0).1 ∧ ps_F M Mx dep cat ∧ (0 ≤ cat → th_R Mx (th ++ (ps_t t V s0).2.2) cat.toNat)) → (rx = pe (ps_t t V s0).2.1) → K [Xl rx] Mx) ∧ ∃ p : pz_T, pfx p t ∧ (k + 1) ≤ ((pz_sz p : Nat) : Int) ∧ r59 = pe (ps_t p V s0).2.1 ∧ (p = t ∧ (M59 o70 10) = -1 ∨ p ≠ t ∧ (M59 o70 10) = ((r0 + pz_sz p : Nat) : Int)) ∧ ps_M M59 (ps_t p V s0).1 ∧ ps_F M M59 dep cat ∧ (0 ≤ cat → th_R M59 (th ++ (ps_t p V s0).2.2) cat.toNat)))))))))))))) := by
  obtain ⟨hn, q1, q2, q3, q4, hk0, hk1, t, r0, V, s0, th, ⟨hQ, hbg, ⟨hd0, hd1, hh⟩, ⟨hL, hbd, hM, hx⟩, hc, hpm⟩, gK, p, hp, hkp, hnow, hrow, hM1, hF, hth⟩ := hI
  subst q1
  subst q2
  subst q3
  subst q4
  clear hS
  obtain ⟨ok1, ok2, ok3⟩ := ps_t_ok p V s0 hbd
  obtain ⟨psz, pht⟩ := pfx_sz t hQ.1 hp
  have hpm1 := hpm.lo hF.lo
  have hx1 : ps_x (ps_t p V s0).1 (2 * (pz_sz t - pz_sz p)) := hx.le ok1 (by omega)
  have hse : ∀ U, (ps_t p V s0).2.1 = some U → pk_ok U := fun U hU => hx1.pk (ok2 U hU)
  have hnl : ab_lr now := by rw [hnow]; exact pe_lr hse
  have hne := pe_ne hse
  rw [← hnow] at hne
  have h3 := hpm1.1
  have hs3 := hQ.2.1
  have e3 : M1 26 3 = M 26 3 := hF.lo 26 3 (by decide)
  have hcat : ab_ir cat := by
    rcases hc with z | z
    · rw [z]; exact ⟨by decide, by decide⟩
    · have := z.1; exact ⟨by omega, by omega⟩
  have hrr : -1 ≤ row ∧ row < 130 := by
    rcases hrow with z | z
    · have := z.2; omega
    · have := z.2; omega
  refine And.intro (by
    first
      | omega
      | exact Or.inr ⟨hnl, by decide, by decide⟩
      | exact ⟨by omega, by omega⟩
      | exact ⟨by omega, h3.1, h3.2⟩
      | exact ⟨⟨by omega, by omega⟩, h3.1, h3.2⟩
      | exact ⟨⟨by omega, by omega⟩, by omega, by omega⟩
      | (split <;> first | exact ⟨by decide, by decide⟩ | (split <;> exact ⟨by decide, by decide⟩))) ?_
  refine And.intro (by
    first
      | omega
      | exact Or.inr ⟨hnl, by decide, by decide⟩
      | exact ⟨by omega, by omega⟩
      | exact ⟨by omega, h3.1, h3.2⟩
      | exact ⟨⟨by omega, by omega⟩, h3.1, h3.2⟩
      | exact ⟨⟨by omega, by omega⟩, by omega, by omega⟩
      | (split <;> first | exact ⟨by decide, by decide⟩ | (split <;> exact ⟨by decide, by decide⟩))) ?_
  refine ⟨?_, ?_⟩
  · intro c26
    have hfin : ps_t t V s0 = ps_t p V s0 := by
      rcases hrow with z | z
      · rw [z.1]
      · first
          | exact pfx_none (hne.1 ((lc_eq).1 c40)) t hQ.1 hp
          | (exfalso
             have hz2 := z.2
             have hzz : pz_sz p < pz_sz t := by
               rcases pfx_Q t (-1) hQ hp with ⟨w, -⟩ | ⟨-, w, -⟩
               · exact absurd w z.1
               · exact w
             omega)
    rw [← hfin] at hnow hM1 hth
    exact gK _ _ ⟨hM1, hF, hth⟩ hnow
  · intro c26
    refine And.intro (by
      first
        | omega
        | exact Or.inr ⟨hnl, by decide, by decide⟩
        | exact ⟨by omega, by omega⟩
        | exact ⟨by omega, h3.1, h3.2⟩
        | exact ⟨⟨by omega, by omega⟩, h3.1, h3.2⟩
        | exact ⟨⟨by omega, by omega⟩, by omega, by omega⟩
        | (split <;> first | exact ⟨by decide, by decide⟩ | (split <;> exact ⟨by decide, by decide⟩))) ?_
    refine ⟨?_, ?_⟩
    · intro c31
      have hfin : ps_t t V s0 = ps_t p V s0 := by
        rcases hrow with z | z
        · rw [z.1]
        · first
            | exact pfx_none (hne.1 ((lc_eq).1 c40)) t hQ.1 hp
            | (exfalso
               have hz2 := z.2
               have hzz : pz_sz p < pz_sz t := by
                 rcases pfx_Q t (-1) hQ hp with ⟨w, -⟩ | ⟨-, w, -⟩
                 · exact absurd w z.1
                 · exact w
               omega)
      rw [← hfin] at hnow hM1 hth
      exact gK _ _ ⟨hM1, hF, hth⟩ hnow
    · intro c31
      refine And.intro (by
        first
          | omega
          | exact Or.inr ⟨hnl, by decide, by decide⟩
          | exact ⟨by omega, by omega⟩
          | exact ⟨by omega, h3.1, h3.2⟩
          | exact ⟨⟨by omega, by omega⟩, h3.1, h3.2⟩
          | exact ⟨⟨by omega, by omega⟩, by omega, by omega⟩
          | (split <;> first | exact ⟨by decide, by decide⟩ | (split <;> exact ⟨by decide, by decide⟩))) ?_
      refine And.intro (by
        first
          | omega
          | exact Or.inr ⟨hnl, by decide, by decide⟩
          | exact ⟨by omega, by omega⟩
          | exact ⟨by omega, h3.1, h3.2⟩
          | exact ⟨⟨by omega, by omega⟩, h3.1, h3.2⟩
          | exact ⟨⟨by omega, by omega⟩, by omega, by omega⟩
          | (split <;> first | exact ⟨by decide, by decide⟩ | (split <;> exact ⟨by decide, by decide⟩))) ?_
      refine ⟨?_, ?_⟩
      · intro c40
        have hfin : ps_t t V s0 = ps_t p V s0 := by
          rcases hrow with z | z
          · rw [z.1]
          · first
              | exact pfx_none (hne.1 ((lc_eq).1 c40)) t hQ.1 hp
              | (exfalso
                 have hz2 := z.2
                 have hzz : pz_sz p < pz_sz t := by
                   rcases pfx_Q t (-1) hQ hp with ⟨w, -⟩ | ⟨-, w, -⟩
                   · exact absurd w z.1
                   · exact w
                 omega)
        rw [← hfin] at hnow hM1 hth
        exact gK _ _ ⟨hM1, hF, hth⟩ hnow
      · intro c40
        refine And.intro (by
          first
            | omega
            | exact Or.inr ⟨hnl, by decide, by decide⟩
            | exact ⟨by omega, by omega⟩
            | exact ⟨by omega, h3.1, h3.2⟩
            | exact ⟨⟨by omega, by omega⟩, h3.1, h3.2⟩
            | exact ⟨⟨by omega, by omega⟩, by omega, by omega⟩
            | (split <;> first | exact ⟨by decide, by decide⟩ | (split <;> exact ⟨by decide, by decide⟩))) ?_
        intro o50 hr50
        have hpt : p ≠ t ∧ row = ((r0 + pz_sz p : Nat) : Int) := by
          rcases hrow with z | z
          · have := z.2; omega
          · exact z
        obtain ⟨hpt, hrow2⟩ := hpt
        obtain ⟨sx, P, vx, sy, Py, vy, a, b, nx, hp2, hsz2, hht2, hR, hQa, hQb, hlast⟩ := ps_next hQ hp hpt
        have hsome : (ps_t p V s0).2.1 ≠ none := fun q => by
          have := hne.2 q
          rw [lc_eq] at c40
          exact c40 this
        obtain ⟨V1, hV1⟩ := Option.ne_none_iff_exists'.1 hsome
        have hbd1 := ok2 V1 hV1
        have ho50 : o50 = 26 + 1 + 1 + 3 * (r0 + pz_sz p) := by
          rw [hr50, hrow2, if_pos ⟨by omega, by have := hR.2.2.2.2.2.2.2.2.1; omega⟩]
          omega
        clear hr50
        subst ho50
        have hc1 : ps_c M1 cat dep (th ++ (ps_t p V s0).2.2) (1 + (pz_sz a + pz_sz b)) := hc.go hth (fun U hU => hx1.pk (ok3 U hU)) (by have := ps_t_len p V s0; omega)
        have e2 : ps_t (.inner sx P vx p (.inner sy Py vy a b)) V s0 = ((ps_P P (pz_md a) (ps_t a) (ps_t b) V1 (ps_t p V s0).1).1, (ps_P P (pz_md a) (ps_t a) (ps_t b) V1 (ps_t p V s0).1).2.1, (ps_t p V s0).2.2 ++ (ps_P P (pz_md a) (ps_t a) (ps_t b) V1 (ps_t p V s0).1).2.2) := by
          show (match (ps_t p V s0).2.1 with
            | none => ps_t p V s0
            | some V1 => _) = _
          rw [hV1]
        refine Exists.intro (P) <| Exists.intro (a) <| Exists.intro (b) <| Exists.intro ((r0 + pz_sz p)) <| Exists.intro (nx) <| Exists.intro ((cr_ls p r0)) <| Exists.intro (V1) <| Exists.intro ((ps_t p V s0).1) <| Exists.intro ((th ++ (ps_t p V s0).2.2)) <| ?_
        refine And.intro (by
          refine ⟨rfl, hR.lo hF.lo hpm.1.2, ⟨hQa.lo hF.lo hpm.1.2, hQb.lo hF.lo hpm.1.2⟩, ⟨hd0, by omega, by omega⟩, ⟨?_, hbd1, hM1, hx1.le (ps_le.rf _ 0) (by omega)⟩, hc1, hpm1⟩
          rw [hnow, hV1]
          rfl) ?_
        intro r59 M59 hM59 hr59
        refine And.intro (by
          have hpm2 := hpm1.lo hM59.2.1.lo
          exact ⟨⟨by omega, by omega⟩, hpm2.1.1, hpm2.1.2⟩) ?_
        intro o70 hr70
        have ho70 : o70 = 26 + 1 + 1 + 3 * (r0 + pz_sz p) := by
          rw [hr70, hrow2, hM59.2.1.lo 26 3 (by decide), if_pos ⟨by omega, by have := hR.2.2.2.2.2.2.2.2.1; omega⟩]
          omega
        clear hr70
        subst ho70
        have hnx : M59 (26 + 1 + 1 + 3 * (r0 + pz_sz p)) 10 = nx := by
          rw [hM59.2.1.lo _ _ (by have := hR.2.2.2.2.2.2.2.2.1; omega), hF.lo _ _ (by have := hR.2.2.2.2.2.2.2.2.1; omega)]
          exact hR.2.2.1.1
        rw [hnx]
        refine ⟨_, ?_, rfl, rfl, rfl, rfl, rfl, by omega, by omega, t, r0, V, s0, th, ⟨hQ, hbg, ⟨hd0, hd1, hh⟩, ⟨hL, hbd, hM, hx⟩, hc, hpm⟩, gK, .inner sx P vx p (.inner sy Py vy a b), hp2, ?_, ?_, hlast, ?_, hF.tr hM59.2.1, ?_⟩
        · omega
        · rw [pz_sz_nd]; omega
        · rw [e2]; exact hr59
        · rw [e2]; exact hM59.1
        · intro q
          rw [e2]
          have := hM59.2.2 q
          rw [List.append_assoc] at this
          exact this

set_option maxRecDepth 20000 in
set_option maxHeartbeats 1000000 in
theorem ok_X0_traverseBlock (E : ab_E) (hb d : Nat) (hd : 3 ≤ d) (h1 : ab_Ok E d 10 (S_X0_traverseStatement hb)) : ab_Ok E (d + 1) 9 (S_X0_traverseBlock hb) := by
  refine ab_mk rq_X0_traverseBlock tk_X0_traverseBlock (rt := 3) (rfl) (cuts := [22]) (G := [(10, S_X0_traverseStatement hb), (16, S_X1_at)]) (List.forall_mem_cons.mpr ⟨⟨d, by omega, h1⟩, List.forall_mem_cons.mpr ⟨⟨1, by omega, ok_X1_at E⟩, fun _ h => absurd h List.not_mem_nil⟩⟩) (by omega) 90 rfl ?_
  intro a M K wd wa hS
  unfold S_X0_traverseBlock at hS
  split at hS
  ·
    rename_i bg LL cat dep
    refine ⟨Nat.le_of_ble_eq_true rfl, fun pc n L st M1 => match pc, L, st with
      | 22, [.inr (.inr (.inr (790, 0, 0))), .inr (.inl b1), .inr (.inr (.inl L1)), .inl (), .inr (.inl c1), .inr (.inl d1), .inr (.inr (.inl now)), .inl (), .inr (.inl row), .inr (.inl k)], [] => (n = (120 - k).toNat ∧ bg = b1 ∧ LL = L1 ∧ cat = c1 ∧ dep = d1 ∧ 0 ≤ k ∧ k ≤ 120 ∧ ∃ (t : pz_T) (r0 : Nat) (V : ps_V) (s0 : ps_S) (th : List ps_V), (ps_Q M t r0 (-1) ∧ bg = cr_fs t r0 ∧ (0 ≤ dep ∧ dep + ((pz_ht t : Nat) : Int) ≤ 40 ∧ pz_ht t ≤ hb) ∧ (LL = pk V ∧ ps_bd V s0 ∧ ps_M M s0 ∧ ps_x s0 (2 * pz_sz t)) ∧ ps_c M cat dep th (pz_sz t) ∧ ps_pm M) ∧ (∀ rx : Int, ∀ Mx : ab_M, (ps_M Mx (ps_t t V s0).1 ∧ ps_F M Mx dep cat ∧ (0 ≤ cat → th_R Mx (th ++ (ps_t t V s0).2.2) cat.toNat)) → (rx = pe (ps_t t V s0).2.1) → K [Xl rx] Mx) ∧ ∃ p : pz_T, pfx p t ∧ k ≤ ((pz_sz p : Nat) : Int) ∧ now = pe (ps_t p V s0).2.1 ∧ (p = t ∧ row = -1 ∨ p ≠ t ∧ row = ((r0 + pz_sz p : Nat) : Int)) ∧ ps_M M1 (ps_t p V s0).1 ∧ ps_F M M1 dep cat ∧ (0 ≤ cat → th_R M1 (th ++ (ps_t p V s0).2.2) cat.toNat))
      | _, _, _ => False, ?_, ?_⟩
    · exact vc_X0_traverseBlock_0 hb hb rfl bg LL cat dep M K  hS
    · intro pc n L st M1 hI wd1 wL wst
      (try dsimp only at hI)
      split at hI
      ·
        rename_i b1 L1 c1 d1 now row k
        exact vc_X0_traverseBlock_22 hb hb rfl bg LL cat dep M K  hS n b1 L1 c1 d1 now row k _ hI
      · exact hI.elim
  · exact hS.elim
