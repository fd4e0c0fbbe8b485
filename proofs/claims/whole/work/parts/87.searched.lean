/-! what can be reached -/
theorem ab_up_row (M : ab_M) (o j : Nat) (x : Int) : (ab_up M o j x) o = se_u (M o) j x := by
  funext i
  unfold se_u
  split
  · rename_i e
    rw [e, ab_up_s]
  · rename_i e
    rw [ab_up_k e]
def se_K (M M1 : ab_M) : Prop := M1 769 3 = 1 ∧ vl_V M M1 (M 26 11) ∧ tv_ok M1 ∧ pr_k M M1
def se_P (M M' : ab_M) (cut zz : Int) : Prop := se_K M M' ∧ (∀ j, 33280 ≤ j → M' 774 j = 0) ∧ (∀ j, 0 ≤ M' 774 j ∧ M' 774 j ≤ 33281) ∧ ∀ j, M' 774 j ≠ 0 ↔ ∃ n, gx_W (gc_S M' cut) (fun i => i = j) n (pr_s M * 256 + zz.toNat)
theorem se_K.rn {M M1 M2 : ab_M} (h : se_K M M1) (h2 : rn_f M1 M2) : se_K M M2 := by
  obtain ⟨h1, h3, h4, h5⟩ := h
  refine ⟨by rw [h2 769 3 (by decide) (by decide) (by decide)]; exact h1, fun k s a b => ?_, ts_e_ok h2.e h4, h2.k h5⟩
  rw [h2 770 _ (by decide) (by decide) (fun q => absurd q.1 (by decide))]
  exact h3 k s a b
theorem rn_f.up (M : ab_M) (j : Nat) (x : Int) : rn_f M (ab_up M 774 j x) := fun o k q _ _ => ab_up_o q _
theorem se_P.of {M M1 : ab_M} {cut zz w n4 : Int} {L : List Nat} (hK : se_K M M1) (hJ : se_J (gc_S M1 cut) (pr_s M * 256 + zz.toNat) (M1 774) L (fun _ => False)) (hc : se_c (M1 774) L w) (hn : n4 + ((L.length : Nat) : Int) = ((se_n (M1 774) : Nat) : Int)) (h : 33280 ≤ n4 ∨ w < 0) : se_P M M1 cut zz := by
  have hL : L = [] := by
    rcases h with h | h
    · have := se_n_bd (M1 774)
      exact List.length_eq_zero_iff.1 (by omega)
    · exact (se_c_rng hc fun a ha => hJ.2.2.2.2.1 a (hJ.2.2.2.1.2 a ha)).2.2 h
  subst hL
  refine ⟨hK, fun j hj => ?_, hJ.2.2.2.2.2, hJ.done⟩
  exact Classical.byContradiction fun q => absurd (hJ.2.2.2.2.1 j q) (by omega)
theorem gc_S_at {M : ab_M} {cut h : Int} (h0 : 0 ≤ h) : gc_S M cut h.toNat = (pl_fd M (h / 256) (h % 256) cut).2 := by
  unfold gc_S
  rw [show ((h.toNat / 256 : Nat) : Int) = h / 256 by omega, show ((h.toNat % 256 : Nat) : Int) = h % 256 by omega]
theorem gc_S_rng {M : ab_M} {cut : Int} {j : Nat} {p : Int} (h : p ∈ gc_S M cut j) : 0 ≤ p ∧ p < 33280 := pl_fd_g _ _ _ _ p h

def S_X3_search : ab_PT := fun a M K => match a with
  | [.inr (.inr (.inr (768, 3, 0))), .inr (.inl cut), .inr (.inl zz)] => ((cut = 0 ∨ cut = 1) ∧ (0 ≤ zz ∧ zz ≤ 255) ∧ vl_T M ∧ tv_ok M ∧ gc_A M ∧ (M 769 3 = 0 ∨ M 769 3 = 1 ∧ vl_V M M (M 26 11)) ∧ ∀ k : Nat, 33280 ≤ k → M 774 k = 0) ∧ (∀ Mx : ab_M, (se_P M Mx cut zz) → K [] Mx)
  | _ => False
set_option maxRecDepth 20000 in
theorem vc_X3_search_0 (cut : Int) (zz : Int) (M : ab_M) (K : List ab_V → ab_M → Prop) (hS : ((cut = 0 ∨ cut = 1) ∧ (0 ≤ zz ∧ zz ≤ 255) ∧ vl_T M ∧ tv_ok M ∧ gc_A M ∧ (M 769 3 = 0 ∨ M 769 3 = 1 ∧ vl_V M M (M 26 11)) ∧ ∀ k : Nat, 33280 ≤ k → M 774 k = 0) ∧ (∀ Mx : ab_M, (se_P M Mx cut zz) → K [] Mx)) : ((vl_T M ∧ tv_ok M) ∧ (M 769 3 = 0 ∨ M 769 3 = 1 ∧ vl_V M M (M 26 11)) ∧ ∀ k : Nat, 33280 ≤ k → M 774 k = 0) ∧ (∀ M1 : ab_M, (M1 769 3 = 1 ∧ vl_V M M1 (M 26 11) ∧ tv_ok M1 ∧ (∀ k : Nat, M1 774 k = 0) ∧ (∀ o' k' : Nat, ¬ (o' = 770 ∨ o' = 771 ∨ o' = 774 ∨ o' = 769 ∧ k' = 3) → M1 o' k' = M o' k')) → (0 ≤ M1 26 3 ∧ M1 26 3 ≤ 120) ∧ (∀ r8 : Int, (r8 = if 0 < M1 26 3 then 0 else 120) → (-32768 ≤ (256 : Int) ∧ (256 : Int) < 32768) ∧ (-32768 ≤ (255 : Int) ∧ (255 : Int) < 32768) ∧ (0 ≤ ((r8 * (256 : Int)) + (ab_and zz (255 : Int))) ∧ ((r8 * (256 : Int)) + (ab_and zz (255 : Int))) < ((33280 : Nat) : Int)) ∧ (∃ n', ((n' = ((33281 - (0 : Int)) * 1000).toNat ∧ cut = cut ∧ zz = zz ∧ 0 ≤ (0 : Int) ∧ (0 : Int) ≤ 33280 ∧ se_K M (ab_up M1 774 (((r8 * (256 : Int)) + (ab_and zz (255 : Int))).toNat) (1 : Int)) ∧ ∃ L : List Nat, se_J (gc_S (ab_up M1 774 (((r8 * (256 : Int)) + (ab_and zz (255 : Int))).toNat) (1 : Int)) cut) (pr_s M * 256 + zz.toNat) ((ab_up M1 774 (((r8 * (256 : Int)) + (ab_and zz (255 : Int))).toNat) (1 : Int)) 774) L (fun _ => False) ∧ se_c ((ab_up M1 774 (((r8 * (256 : Int)) + (ab_and zz (255 : Int))).toNat) (1 : Int)) 774) L ((r8 * (256 : Int)) + (ab_and zz (255 : Int))) ∧ (0 : Int) + ((L.length : Nat) : Int) = ((se_n ((ab_up M1 774 (((r8 * (256 : Int)) + (ab_and zz (255 : Int))).toNat) (1 : Int)) 774) : Nat) : Int)))))) := by
  obtain ⟨⟨gc, gz, gT, gv, gA, gV, g0⟩, gK⟩ := hS
  have hcr : ab_ir cut := by omega
  have gL := gA.2.1
  have gp := gA.1
  have g3 := gL.1
  refine And.intro (by
    first
      | (obtain ⟨-, -, -, -, h6⟩ := hM1; rw [h6 26 3 (by omega)]; exact g3)
      | (rw [hr8]; have hpr := pz_and_r zz (b := 255) (by decide) (by decide); split <;> exact ⟨by omega, by omega⟩)
      | exact ⟨⟨gT, gv⟩, gV, g0⟩
      | exact ⟨⟨k3, hA1.1, by omega, by omega⟩, ⟨by omega, by omega⟩, hcr⟩
      | omega
      | exact ⟨by omega, by omega⟩
      | exact ⟨⟨by omega, by omega⟩, by omega, by omega⟩
      | (have hmem := (hel (by omega)).1; have hrg := gc_S_rng (hel (by omega)).2; rw [← hmem] at hrg; first | omega | exact ⟨by omega, by omega⟩)
      | (have hNx := hJ.2.2.2.2.2 w.toNat; omega)
      | (have hmem := (hel (by omega)).1; have hNx := hJ.2.2.2.2.2 (M1 773 i.toNat).toNat; exact ⟨by omega, by omega⟩)) ?_
  intro M1 hM1
  refine And.intro (by
    first
      | (obtain ⟨-, -, -, -, h6⟩ := hM1; rw [h6 26 3 (by omega)]; exact g3)
      | (rw [hr8]; have hpr := pz_and_r zz (b := 255) (by decide) (by decide); split <;> exact ⟨by omega, by omega⟩)
      | exact ⟨⟨gT, gv⟩, gV, g0⟩
      | exact ⟨⟨k3, hA1.1, by omega, by omega⟩, ⟨by omega, by omega⟩, hcr⟩
      | omega
      | exact ⟨by omega, by omega⟩
      | exact ⟨⟨by omega, by omega⟩, by omega, by omega⟩
      | (have hmem := (hel (by omega)).1; have hrg := gc_S_rng (hel (by omega)).2; rw [← hmem] at hrg; first | omega | exact ⟨by omega, by omega⟩)
      | (have hNx := hJ.2.2.2.2.2 w.toNat; omega)
      | (have hmem := (hel (by omega)).1; have hNx := hJ.2.2.2.2.2 (M1 773 i.toNat).toNat; exact ⟨by omega, by omega⟩)) ?_
  intro r8 hr8
  refine And.intro (by
    first
      | (obtain ⟨-, -, -, -, h6⟩ := hM1; rw [h6 26 3 (by omega)]; exact g3)
      | (rw [hr8]; have hpr := pz_and_r zz (b := 255) (by decide) (by decide); split <;> exact ⟨by omega, by omega⟩)
      | exact ⟨⟨gT, gv⟩, gV, g0⟩
      | exact ⟨⟨k3, hA1.1, by omega, by omega⟩, ⟨by omega, by omega⟩, hcr⟩
      | omega
      | exact ⟨by omega, by omega⟩
      | exact ⟨⟨by omega, by omega⟩, by omega, by omega⟩
      | (have hmem := (hel (by omega)).1; have hrg := gc_S_rng (hel (by omega)).2; rw [← hmem] at hrg; first | omega | exact ⟨by omega, by omega⟩)
      | (have hNx := hJ.2.2.2.2.2 w.toNat; omega)
      | (have hmem := (hel (by omega)).1; have hNx := hJ.2.2.2.2.2 (M1 773 i.toNat).toNat; exact ⟨by omega, by omega⟩)) ?_
  refine And.intro (by
    first
      | (obtain ⟨-, -, -, -, h6⟩ := hM1; rw [h6 26 3 (by omega)]; exact g3)
      | (rw [hr8]; have hpr := pz_and_r zz (b := 255) (by decide) (by decide); split <;> exact ⟨by omega, by omega⟩)
      | exact ⟨⟨gT, gv⟩, gV, g0⟩
      | exact ⟨⟨k3, hA1.1, by omega, by omega⟩, ⟨by omega, by omega⟩, hcr⟩
      | omega
      | exact ⟨by omega, by omega⟩
      | exact ⟨⟨by omega, by omega⟩, by omega, by omega⟩
      | (have hmem := (hel (by omega)).1; have hrg := gc_S_rng (hel (by omega)).2; rw [← hmem] at hrg; first | omega | exact ⟨by omega, by omega⟩)
      | (have hNx := hJ.2.2.2.2.2 w.toNat; omega)
      | (have hmem := (hel (by omega)).1; have hNx := hJ.2.2.2.2.2 (M1 773 i.toNat).toNat; exact ⟨by omega, by omega⟩)) ?_
  refine And.intro (by
    first
      | (obtain ⟨-, -, -, -, h6⟩ := hM1; rw [h6 26 3 (by omega)]; exact g3)
      | (rw [hr8]; have hpr := pz_and_r zz (b := 255) (by decide) (by decide); split <;> exact ⟨by omega, by omega⟩)
      | exact ⟨⟨gT, gv⟩, gV, g0⟩
      | exact ⟨⟨k3, hA1.1, by omega, by omega⟩, ⟨by omega, by omega⟩, hcr⟩
      | omega
      | exact ⟨by omega, by omega⟩
      | exact ⟨⟨by omega, by omega⟩, by omega, by omega⟩
      | (have hmem := (hel (by omega)).1; have hrg := gc_S_rng (hel (by omega)).2; rw [← hmem] at hrg; first | omega | exact ⟨by omega, by omega⟩)
      | (have hNx := hJ.2.2.2.2.2 w.toNat; omega)
      | (have hmem := (hel (by omega)).1; have hNx := hJ.2.2.2.2.2 (M1 773 i.toNat).toNat; exact ⟨by omega, by omega⟩)) ?_
  obtain ⟨h1, h2, h3, h5, h6⟩ := hM1
  rw [hr8]
  have hz255 : ab_and zz 255 = zz := by
    have key : ∀ z : Fin 256, ab_and ((z.val : Nat) : Int) 255 = ((z.val : Nat) : Int) := by decide +kernel
    have := key ⟨zz.toNat, by omega⟩
    rw [show (((⟨zz.toNat, by omega⟩ : Fin 256).val : Nat) : Int) = zz from Int.toNat_of_nonneg gz.1] at this
    exact this
  have hM3 : M1 26 3 = M 26 3 := h6 26 3 (by omega)
  have hst : (if 0 < M1 26 3 then (0 : Int) else 120) * 256 + ab_and zz 255 = ((pr_s M * 256 + zz.toNat : Nat) : Int) := by
    rw [hz255, hM3]
    unfold pr_s
    split <;> omega
  have hsl : pr_s M * 256 + zz.toNat < 33280 := by
    unfold pr_s
    split <;> omega
  rw [hst]
  have hrow : (ab_up M1 774 (((pr_s M * 256 + zz.toNat : Nat) : Int)).toNat 1) 774 = se_u (fun _ => 0) (pr_s M * 256 + zz.toNat) 1 := by
    rw [ab_up_row]
    show se_u (M1 774) _ 1 = _
    rw [show M1 774 = fun _ => 0 from funext h5]
    rfl
  have hK0 : se_K M M1 := ⟨h1, h2, h3, fun o k q => h6 o k (by omega)⟩
  obtain ⟨s1, s2, s3⟩ := se_J.start (S := gc_S (ab_up M1 774 (((pr_s M * 256 + zz.toNat : Nat) : Int)).toNat 1) cut) hsl
  refine ⟨_, rfl, rfl, rfl, by decide, by decide, hK0.rn (rn_f.up _ _ _), [pr_s M * 256 + zz.toNat], ?_, ?_, ?_⟩
  · rw [hrow]; exact s1
  · rw [hrow]; exact s2
  · rw [hrow, s3]
    rfl

set_option maxRecDepth 20000 in
theorem vc_X3_search_32 (cut : Int) (zz : Int) (M : ab_M) (K : List ab_V → ab_M → Prop) (hS : ((cut = 0 ∨ cut = 1) ∧ (0 ≤ zz ∧ zz ≤ 255) ∧ vl_T M ∧ tv_ok M ∧ gc_A M ∧ (M 769 3 = 0 ∨ M 769 3 = 1 ∧ vl_V M M (M 26 11)) ∧ ∀ k : Nat, 33280 ≤ k → M 774 k = 0) ∧ (∀ Mx : ab_M, (se_P M Mx cut zz) → K [] Mx)) (n : Nat) (c1 : Int) (z1 : Int) (w : Int) (n4 : Int) (M1 : ab_M) (hI : n = ((33281 - n4) * 1000).toNat ∧ cut = c1 ∧ zz = z1 ∧ 0 ≤ n4 ∧ n4 ≤ 33280 ∧ se_K M M1 ∧ ∃ L : List Nat, se_J (gc_S M1 cut) (pr_s M * 256 + zz.toNat) (M1 774) L (fun _ => False) ∧ se_c (M1 774) L w ∧ n4 + ((L.length : Nat) : Int) = ((se_n (M1 774) : Nat) : Int)) : (ab_ir n4 ∧ ab_ir (33280 : Int)) ∧ (((33280 : Int) ≤ n4 → K [] M1) ∧ (n4 < (33280 : Int) → (ab_ir w) ∧ ((w < 0 → K [] M1) ∧ (0 ≤ w → (0 ≤ w ∧ w < ((33280 : Nat) : Int)) ∧ (-32768 ≤ (256 : Int) ∧ (256 : Int) < 32768) ∧ (0 ≤ w ∧ w < 2147483648 ∧ 0 < (256 : Int) ∧ (256 : Int) < 2147483648) ∧ (-32768 ≤ (256 : Int) ∧ (256 : Int) < 32768) ∧ (0 ≤ w ∧ w < 2147483648 ∧ 0 < (256 : Int) ∧ (256 : Int) < 2147483648) ∧ ((tv_ok M1 ∧ ts_p M1 ∧ 0 ≤ (w % (256 : Int)) ∧ (w % (256 : Int)) ≤ 255) ∧ (0 ≤ (w / (256 : Int)) ∧ (w / (256 : Int)) < 130) ∧ ab_ir c1) ∧ (∀ r73 : Int, ∀ M73 : ab_M, (ts_L M73 (pl_fd M1 (w / (256 : Int)) (w % (256 : Int)) c1).2 ∧ ts_f M1 M73) → (r73 = (pl_fd M1 (w / (256 : Int)) (w % (256 : Int)) c1).1) → (∃ n', n' < n ∧ ((n' = ((33281 - n4) * 1000 - 1 - (0 : Int)).toNat ∧ cut = c1 ∧ zz = z1 ∧ 0 ≤ n4 ∧ n4 < 33280 ∧ se_K M M73 ∧ (0 ≤ w ∧ w < 33280 ∧ ¬ M73 774 w.toNat = 0) ∧ ts_L M73 (gc_S M73 cut w.toNat) ∧ 0 ≤ (0 : Int) ∧ (0 : Int) ≤ (((gc_S M73 cut w.toNat).length : Nat) : Int) ∧ (∀ x : Nat, (x : Int) < (0 : Int) → M73 774 ((gc_S M73 cut w.toNat).getD x 0).toNat ≠ 0) ∧ ∃ L : List Nat, se_J (gc_S M73 cut) (pr_s M * 256 + zz.toNat) (M73 774) L (fun j => j = w.toNat) ∧ se_c (M73 774) L ((M1 774 w.toNat) - (2 : Int)) ∧ n4 + 1 + ((L.length : Nat) : Int) = ((se_n (M73 774) : Nat) : Int))))))))) := by
  obtain ⟨hn, q1, q2, hn0, hn1, hK, L, hJ, hc, hcnt⟩ := hI
  subst q1
  subst q2
  obtain ⟨⟨gc, gz, gT, gv, gA, gV, g0⟩, gK⟩ := hS
  have hcr : ab_ir cut := by omega
  have gL := gA.2.1
  have gp := gA.1
  have g3 := gL.1
  obtain ⟨k1, k2, k3, k4⟩ := id hK
  have hA1 := gc_A_fr k4.lo gA
  have hwr := se_c_rng hc fun a ha => hJ.2.2.2.2.1 a (hJ.2.2.2.1.2 a ha)
  have hwr2 : -1 ≤ w ∧ w < 33280 := ⟨hwr.1, hwr.2.1⟩
  clear hwr
  refine And.intro (by
    first
      | (obtain ⟨-, -, -, -, h6⟩ := hM1; rw [h6 26 3 (by omega)]; exact g3)
      | (rw [hr8]; have hpr := pz_and_r zz (b := 255) (by decide) (by decide); split <;> exact ⟨by omega, by omega⟩)
      | exact ⟨⟨gT, gv⟩, gV, g0⟩
      | exact ⟨⟨k3, hA1.1, by omega, by omega⟩, ⟨by omega, by omega⟩, hcr⟩
      | omega
      | exact ⟨by omega, by omega⟩
      | exact ⟨⟨by omega, by omega⟩, by omega, by omega⟩
      | (have hmem := (hel (by omega)).1; have hrg := gc_S_rng (hel (by omega)).2; rw [← hmem] at hrg; first | omega | exact ⟨by omega, by omega⟩)
      | (have hNx := hJ.2.2.2.2.2 w.toNat; omega)
      | (have hmem := (hel (by omega)).1; have hNx := hJ.2.2.2.2.2 (M1 773 i.toNat).toNat; exact ⟨by omega, by omega⟩)) ?_
  refine ⟨?_, ?_⟩
  · intro c36
    refine gK _ (se_P.of hK hJ hc hcnt ?_)
    omega
  · intro c36
    refine And.intro (by
      first
        | (obtain ⟨-, -, -, -, h6⟩ := hM1; rw [h6 26 3 (by omega)]; exact g3)
        | (rw [hr8]; have hpr := pz_and_r zz (b := 255) (by decide) (by decide); split <;> exact ⟨by omega, by omega⟩)
        | exact ⟨⟨gT, gv⟩, gV, g0⟩
        | exact ⟨⟨k3, hA1.1, by omega, by omega⟩, ⟨by omega, by omega⟩, hcr⟩
        | omega
        | exact ⟨by omega, by omega⟩
        | exact ⟨⟨by omega, by omega⟩, by omega, by omega⟩
        | (have hmem := (hel (by omega)).1; have hrg := gc_S_rng (hel (by omega)).2; rw [← hmem] at hrg; first | omega | exact ⟨by omega, by omega⟩)
        | (have hNx := hJ.2.2.2.2.2 w.toNat; omega)
        | (have hmem := (hel (by omega)).1; have hNx := hJ.2.2.2.2.2 (M1 773 i.toNat).toNat; exact ⟨by omega, by omega⟩)) ?_
    refine ⟨?_, ?_⟩
    · intro c40
      refine gK _ (se_P.of hK hJ hc hcnt ?_)
      omega
    · intro c40
      refine And.intro (by
        first
          | (obtain ⟨-, -, -, -, h6⟩ := hM1; rw [h6 26 3 (by omega)]; exact g3)
          | (rw [hr8]; have hpr := pz_and_r zz (b := 255) (by decide) (by decide); split <;> exact ⟨by omega, by omega⟩)
          | exact ⟨⟨gT, gv⟩, gV, g0⟩
          | exact ⟨⟨k3, hA1.1, by omega, by omega⟩, ⟨by omega, by omega⟩, hcr⟩
          | omega
          | exact ⟨by omega, by omega⟩
          | exact ⟨⟨by omega, by omega⟩, by omega, by omega⟩
          | (have hmem := (hel (by omega)).1; have hrg := gc_S_rng (hel (by omega)).2; rw [← hmem] at hrg; first | omega | exact ⟨by omega, by omega⟩)
          | (have hNx := hJ.2.2.2.2.2 w.toNat; omega)
          | (have hmem := (hel (by omega)).1; have hNx := hJ.2.2.2.2.2 (M1 773 i.toNat).toNat; exact ⟨by omega, by omega⟩)) ?_
      refine And.intro (by
        first
          | (obtain ⟨-, -, -, -, h6⟩ := hM1; rw [h6 26 3 (by omega)]; exact g3)
          | (rw [hr8]; have hpr := pz_and_r zz (b := 255) (by decide) (by decide); split <;> exact ⟨by omega, by omega⟩)
          | exact ⟨⟨gT, gv⟩, gV, g0⟩
          | exact ⟨⟨k3, hA1.1, by omega, by omega⟩, ⟨by omega, by omega⟩, hcr⟩
          | omega
          | exact ⟨by omega, by omega⟩
          | exact ⟨⟨by omega, by omega⟩, by omega, by omega⟩
          | (have hmem := (hel (by omega)).1; have hrg := gc_S_rng (hel (by omega)).2; rw [← hmem] at hrg; first | omega | exact ⟨by omega, by omega⟩)
          | (have hNx := hJ.2.2.2.2.2 w.toNat; omega)
          | (have hmem := (hel (by omega)).1; have hNx := hJ.2.2.2.2.2 (M1 773 i.toNat).toNat; exact ⟨by omega, by omega⟩)) ?_
      refine And.intro (by
        first
          | (obtain ⟨-, -, -, -, h6⟩ := hM1; rw [h6 26 3 (by omega)]; exact g3)
          | (rw [hr8]; have hpr := pz_and_r zz (b := 255) (by decide) (by decide); split <;> exact ⟨by omega, by omega⟩)
          | exact ⟨⟨gT, gv⟩, gV, g0⟩
          | exact ⟨⟨k3, hA1.1, by omega, by omega⟩, ⟨by omega, by omega⟩, hcr⟩
          | omega
          | exact ⟨by omega, by omega⟩
          | exact ⟨⟨by omega, by omega⟩, by omega, by omega⟩
          | (have hmem := (hel (by omega)).1; have hrg := gc_S_rng (hel (by omega)).2; rw [← hmem] at hrg; first | omega | exact ⟨by omega, by omega⟩)
          | (have hNx := hJ.2.2.2.2.2 w.toNat; omega)
          | (have hmem := (hel (by omega)).1; have hNx := hJ.2.2.2.2.2 (M1 773 i.toNat).toNat; exact ⟨by omega, by omega⟩)) ?_
      refine And.intro (by
        first
          | (obtain ⟨-, -, -, -, h6⟩ := hM1; rw [h6 26 3 (by omega)]; exact g3)
          | (rw [hr8]; have hpr := pz_and_r zz (b := 255) (by decide) (by decide); split <;> exact ⟨by omega, by omega⟩)
          | exact ⟨⟨gT, gv⟩, gV, g0⟩
          | exact ⟨⟨k3, hA1.1, by omega, by omega⟩, ⟨by omega, by omega⟩, hcr⟩
          | omega
          | exact ⟨by omega, by omega⟩
          | exact ⟨⟨by omega, by omega⟩, by omega, by omega⟩
          | (have hmem := (hel (by omega)).1; have hrg := gc_S_rng (hel (by omega)).2; rw [← hmem] at hrg; first | omega | exact ⟨by omega, by omega⟩)
          | (have hNx := hJ.2.2.2.2.2 w.toNat; omega)
          | (have hmem := (hel (by omega)).1; have hNx := hJ.2.2.2.2.2 (M1 773 i.toNat).toNat; exact ⟨by omega, by omega⟩)) ?_
      refine And.intro (by
        first
          | (obtain ⟨-, -, -, -, h6⟩ := hM1; rw [h6 26 3 (by omega)]; exact g3)
          | (rw [hr8]; have hpr := pz_and_r zz (b := 255) (by decide) (by decide); split <;> exact ⟨by omega, by omega⟩)
          | exact ⟨⟨gT, gv⟩, gV, g0⟩
          | exact ⟨⟨k3, hA1.1, by omega, by omega⟩, ⟨by omega, by omega⟩, hcr⟩
          | omega
          | exact ⟨by omega, by omega⟩
          | exact ⟨⟨by omega, by omega⟩, by omega, by omega⟩
          | (have hmem := (hel (by omega)).1; have hrg := gc_S_rng (hel (by omega)).2; rw [← hmem] at hrg; first | omega | exact ⟨by omega, by omega⟩)
          | (have hNx := hJ.2.2.2.2.2 w.toNat; omega)
          | (have hmem := (hel (by omega)).1; have hNx := hJ.2.2.2.2.2 (M1 773 i.toNat).toNat; exact ⟨by omega, by omega⟩)) ?_
      refine And.intro (by
        first
          | (obtain ⟨-, -, -, -, h6⟩ := hM1; rw [h6 26 3 (by omega)]; exact g3)
          | (rw [hr8]; have hpr := pz_and_r zz (b := 255) (by decide) (by decide); split <;> exact ⟨by omega, by omega⟩)
          | exact ⟨⟨gT, gv⟩, gV, g0⟩
          | exact ⟨⟨k3, hA1.1, by omega, by omega⟩, ⟨by omega, by omega⟩, hcr⟩
          | omega
          | exact ⟨by omega, by omega⟩
          | exact ⟨⟨by omega, by omega⟩, by omega, by omega⟩
          | (have hmem := (hel (by omega)).1; have hrg := gc_S_rng (hel (by omega)).2; rw [← hmem] at hrg; first | omega | exact ⟨by omega, by omega⟩)
          | (have hNx := hJ.2.2.2.2.2 w.toNat; omega)
          | (have hmem := (hel (by omega)).1; have hNx := hJ.2.2.2.2.2 (M1 773 i.toNat).toNat; exact ⟨by omega, by omega⟩)) ?_
      intro r73 M73 hM73 hr73
      cases L with
      | nil => have hc : w = -1 := hc; omega
      | cons a l =>
        have ha : w = (a : Int) := hc.1
        subst ha
        have h774 : M73 774 = M1 774 := hM73.2.m
        have hfr := hM73.2.n
        obtain ⟨f1, -, -⟩ := gc_fr hfr.e hA1.1 cut
        have hSS : (pl_fd M1 ((a : Int) / 256) ((a : Int) % 256) cut).2 = gc_S M73 cut ((a : Int)).toNat := by rw [f1, gc_S_at (by omega)]
        have hLn : (((a :: l).length : Nat) : Int) = ((l.length : Nat) : Int) + 1 := by rw [List.length_cons]; omega
        refine ⟨_, ?_, rfl, rfl, rfl, hn0, by omega, hK.rn hfr, ⟨by omega, by omega, ?_⟩, ?_, by decide, by omega, fun x hx => by omega, l, ?_, ?_, ?_⟩
        · omega
        · rw [h774]; exact hJ.2.2.2.1.2 a List.mem_cons_self
        · rw [← hSS]; exact hM73.1
        · rw [h774, f1]; exact hJ.pop
        · rw [h774]; exact hc.2
        · rw [h774]; omega

set_option maxRecDepth 20000 in
theorem vc_X3_search_80 (cut : Int) (zz : Int) (M : ab_M) (K : List ab_V → ab_M → Prop) (hS : ((cut = 0 ∨ cut = 1) ∧ (0 ≤ zz ∧ zz ≤ 255) ∧ vl_T M ∧ tv_ok M ∧ gc_A M ∧ (M 769 3 = 0 ∨ M 769 3 = 1 ∧ vl_V M M (M 26 11)) ∧ ∀ k : Nat, 33280 ≤ k → M 774 k = 0) ∧ (∀ Mx : ab_M, (se_P M Mx cut zz) → K [] Mx)) (n : Nat) (c1 : Int) (z1 : Int) (w : Int) (n4 : Int) (h : Int) (i : Int) (M1 : ab_M) (hI : n = ((33281 - n4) * 1000 - 1 - i).toNat ∧ cut = c1 ∧ zz = z1 ∧ 0 ≤ n4 ∧ n4 < 33280 ∧ se_K M M1 ∧ (0 ≤ h ∧ h < 33280 ∧ ¬ M1 774 h.toNat = 0) ∧ ts_L M1 (gc_S M1 cut h.toNat) ∧ 0 ≤ i ∧ i ≤ (((gc_S M1 cut h.toNat).length : Nat) : Int) ∧ (∀ x : Nat, (x : Int) < i → M1 774 ((gc_S M1 cut h.toNat).getD x 0).toNat ≠ 0) ∧ ∃ L : List Nat, se_J (gc_S M1 cut) (pr_s M * 256 + zz.toNat) (M1 774) L (fun j => j = h.toNat) ∧ se_c (M1 774) L w ∧ n4 + 1 + ((L.length : Nat) : Int) = ((se_n (M1 774) : Nat) : Int)) : (ab_ir i ∧ ab_ir (M1 772 3)) ∧ (((M1 772 3) ≤ i → (∃ n', n' < n ∧ ((n' = ((33281 - (n4 + 1)) * 1000).toNat ∧ cut = c1 ∧ zz = z1 ∧ 0 ≤ (n4 + 1) ∧ (n4 + 1) ≤ 33280 ∧ se_K M M1 ∧ ∃ L : List Nat, se_J (gc_S M1 cut) (pr_s M * 256 + zz.toNat) (M1 774) L (fun _ => False) ∧ se_c (M1 774) L w ∧ (n4 + 1) + ((L.length : Nat) : Int) = ((se_n (M1 774) : Nat) : Int))))) ∧ (i < (M1 772 3) → (0 ≤ i ∧ i < ((256 : Nat) : Int)) ∧ (0 ≤ (M1 773 i.toNat) ∧ (M1 773 i.toNat) < ((33280 : Nat) : Int)) ∧ (ab_ir (M1 774 ((M1 773 i.toNat).toNat))) ∧ ((¬ (M1 774 ((M1 773 i.toNat).toNat)) = 0 → (∃ n', n' < n ∧ ((n' = ((33281 - n4) * 1000 - 1 - (i + 1)).toNat ∧ cut = c1 ∧ zz = z1 ∧ 0 ≤ n4 ∧ n4 < 33280 ∧ se_K M M1 ∧ (0 ≤ h ∧ h < 33280 ∧ ¬ M1 774 h.toNat = 0) ∧ ts_L M1 (gc_S M1 cut h.toNat) ∧ 0 ≤ (i + 1) ∧ (i + 1) ≤ (((gc_S M1 cut h.toNat).length : Nat) : Int) ∧ (∀ x : Nat, (x : Int) < (i + 1) → M1 774 ((gc_S M1 cut h.toNat).getD x 0).toNat ≠ 0) ∧ ∃ L : List Nat, se_J (gc_S M1 cut) (pr_s M * 256 + zz.toNat) (M1 774) L (fun j => j = h.toNat) ∧ se_c (M1 774) L w ∧ n4 + 1 + ((L.length : Nat) : Int) = ((se_n (M1 774) : Nat) : Int))))) ∧ ((M1 774 ((M1 773 i.toNat).toNat)) = 0 → (0 ≤ (M1 773 i.toNat) ∧ (M1 773 i.toNat) < ((33280 : Nat) : Int)) ∧ (∃ n', n' < n ∧ ((n' = ((33281 - n4) * 1000 - 1 - (i + 1)).toNat ∧ cut = c1 ∧ zz = z1 ∧ 0 ≤ n4 ∧ n4 < 33280 ∧ se_K M (ab_up M1 774 ((M1 773 i.toNat).toNat) (w + (2 : Int))) ∧ (0 ≤ h ∧ h < 33280 ∧ ¬ (ab_up M1 774 ((M1 773 i.toNat).toNat) (w + (2 : Int))) 774 h.toNat = 0) ∧ ts_L (ab_up M1 774 ((M1 773 i.toNat).toNat) (w + (2 : Int))) (gc_S (ab_up M1 774 ((M1 773 i.toNat).toNat) (w + (2 : Int))) cut h.toNat) ∧ 0 ≤ (i + 1) ∧ (i + 1) ≤ (((gc_S (ab_up M1 774 ((M1 773 i.toNat).toNat) (w + (2 : Int))) cut h.toNat).length : Nat) : Int) ∧ (∀ x : Nat, (x : Int) < (i + 1) → (ab_up M1 774 ((M1 773 i.toNat).toNat) (w + (2 : Int))) 774 ((gc_S (ab_up M1 774 ((M1 773 i.toNat).toNat) (w + (2 : Int))) cut h.toNat).getD x 0).toNat ≠ 0) ∧ ∃ L : List Nat, se_J (gc_S (ab_up M1 774 ((M1 773 i.toNat).toNat) (w + (2 : Int))) cut) (pr_s M * 256 + zz.toNat) ((ab_up M1 774 ((M1 773 i.toNat).toNat) (w + (2 : Int))) 774) L (fun j => j = h.toNat) ∧ se_c ((ab_up M1 774 ((M1 773 i.toNat).toNat) (w + (2 : Int))) 774) L (M1 773 i.toNat) ∧ n4 + 1 + ((L.length : Nat) : Int) = ((se_n ((ab_up M1 774 ((M1 773 i.toNat).toNat) (w + (2 : Int))) 774) : Nat) : Int)))))))) := by
  obtain ⟨hn, q1, q2, hn0, hn1, hK, ⟨hh0, hh1, hh2⟩, hLL, hi0, hi1, hdone, L, hJ, hc, hcnt⟩ := hI
  subst q1
  subst q2
  obtain ⟨⟨gc, gz, gT, gv, gA, gV, g0⟩, gK⟩ := hS
  have hcr : ab_ir cut := by omega
  have gL := gA.2.1
  have gp := gA.1
  have g3 := gL.1
  obtain ⟨k1, k2, k3, k4⟩ := id hK
  have hA1 := gc_A_fr k4.lo gA
  have hwr := se_c_rng hc fun a ha => hJ.2.2.2.2.1 a (hJ.2.2.2.1.2 a ha)
  have hwr2 : -1 ≤ w ∧ w < 33280 := ⟨hwr.1, hwr.2.1⟩
  clear hwr
  have hf := hLL.1
  have h256 := hLL.2.1
  have hel : i < (((gc_S M1 cut h.toNat).length : Nat) : Int) → M1 773 i.toNat = (gc_S M1 cut h.toNat).getD i.toNat 0 ∧ (gc_S M1 cut h.toNat).getD i.toNat 0 ∈ gc_S M1 cut h.toNat := fun q => by
    have q' : i.toNat < (gc_S M1 cut h.toNat).length := by omega
    refine ⟨hLL.2.2 i.toNat q', ?_⟩
    rw [List.getD_eq_getElem?_getD, List.getElem?_eq_getElem q']
    exact List.getElem_mem q'
  have hNr := hJ.2.2.2.2.2
  refine And.intro (by
    first
      | (obtain ⟨-, -, -, -, h6⟩ := hM1; rw [h6 26 3 (by omega)]; exact g3)
      | (rw [hr8]; have hpr := pz_and_r zz (b := 255) (by decide) (by decide); split <;> exact ⟨by omega, by omega⟩)
      | exact ⟨⟨gT, gv⟩, gV, g0⟩
      | exact ⟨⟨k3, hA1.1, by omega, by omega⟩, ⟨by omega, by omega⟩, hcr⟩
      | omega
      | exact ⟨by omega, by omega⟩
      | exact ⟨⟨by omega, by omega⟩, by omega, by omega⟩
      | (have hmem := (hel (by omega)).1; have hrg := gc_S_rng (hel (by omega)).2; rw [← hmem] at hrg; first | omega | exact ⟨by omega, by omega⟩)
      | (have hNx := hJ.2.2.2.2.2 w.toNat; omega)
      | (have hmem := (hel (by omega)).1; have hNx := hJ.2.2.2.2.2 (M1 773 i.toNat).toNat; exact ⟨by omega, by omega⟩)) ?_
  refine ⟨?_, ?_⟩
  · intro c89
    refine ⟨_, ?_, rfl, rfl, rfl, by omega, by omega, hK, L, hJ.all ?_, hc, by omega⟩
    · omega
    · intro q hq
      obtain ⟨x, x1, x2⟩ := List.getElem_of_mem hq
      have := hdone x (by omega)
      rw [List.getD_eq_getElem?_getD, List.getElem?_eq_getElem x1] at this
      rw [← x2]
      exact this
  · intro c89
    refine And.intro (by
      first
        | (obtain ⟨-, -, -, -, h6⟩ := hM1; rw [h6 26 3 (by omega)]; exact g3)
        | (rw [hr8]; have hpr := pz_and_r zz (b := 255) (by decide) (by decide); split <;> exact ⟨by omega, by omega⟩)
        | exact ⟨⟨gT, gv⟩, gV, g0⟩
        | exact ⟨⟨k3, hA1.1, by omega, by omega⟩, ⟨by omega, by omega⟩, hcr⟩
        | omega
        | exact ⟨by omega, by omega⟩
        | exact ⟨⟨by omega, by omega⟩, by omega, by omega⟩
        | (have hmem := (hel (by omega)).1; have hrg := gc_S_rng (hel (by omega)).2; rw [← hmem] at hrg; first | omega | exact ⟨by omega, by omega⟩)
        | (have hNx := hJ.2.2.2.2.2 w.toNat; omega)
        | (have hmem := (hel (by omega)).1; have hNx := hJ.2.2.2.2.2 (M1 773 i.toNat).toNat; exact ⟨by omega, by omega⟩)) ?_
    refine And.intro (by
      first
        | (obtain ⟨-, -, -, -, h6⟩ := hM1; rw [h6 26 3 (by omega)]; exact g3)
        | (rw [hr8]; have hpr := pz_and_r zz (b := 255) (by decide) (by decide); split <;> exact ⟨by omega, by omega⟩)
        | exact ⟨⟨gT, gv⟩, gV, g0⟩
        | exact ⟨⟨k3, hA1.1, by omega, by omega⟩, ⟨by omega, by omega⟩, hcr⟩
        | omega
        | exact ⟨by omega, by omega⟩
        | exact ⟨⟨by omega, by omega⟩, by omega, by omega⟩
        | (have hmem := (hel (by omega)).1; have hrg := gc_S_rng (hel (by omega)).2; rw [← hmem] at hrg; first | omega | exact ⟨by omega, by omega⟩)
        | (have hNx := hJ.2.2.2.2.2 w.toNat; omega)
        | (have hmem := (hel (by omega)).1; have hNx := hJ.2.2.2.2.2 (M1 773 i.toNat).toNat; exact ⟨by omega, by omega⟩)) ?_
    refine And.intro (by
      first
        | (obtain ⟨-, -, -, -, h6⟩ := hM1; rw [h6 26 3 (by omega)]; exact g3)
        | (rw [hr8]; have hpr := pz_and_r zz (b := 255) (by decide) (by decide); split <;> exact ⟨by omega, by omega⟩)
        | exact ⟨⟨gT, gv⟩, gV, g0⟩
        | exact ⟨⟨k3, hA1.1, by omega, by omega⟩, ⟨by omega, by omega⟩, hcr⟩
        | omega
        | exact ⟨by omega, by omega⟩
        | exact ⟨⟨by omega, by omega⟩, by omega, by omega⟩
        | (have hmem := (hel (by omega)).1; have hrg := gc_S_rng (hel (by omega)).2; rw [← hmem] at hrg; first | omega | exact ⟨by omega, by omega⟩)
        | (have hNx := hJ.2.2.2.2.2 w.toNat; omega)
        | (have hmem := (hel (by omega)).1; have hNx := hJ.2.2.2.2.2 (M1 773 i.toNat).toNat; exact ⟨by omega, by omega⟩)) ?_
    refine ⟨?_, ?_⟩
    · intro c111
      obtain ⟨e1, e2⟩ := hel (by omega)
      have hqr := gc_S_rng e2
      refine ⟨_, ?_, rfl, rfl, rfl, hn0, hn1, hK, ⟨hh0, hh1, hh2⟩, hLL, by omega, by omega, fun x hx => ?_, L, hJ, hc, hcnt⟩
      · omega
      · by_cases e : (x : Int) < i
        · exact hdone x e
        · rw [show x = i.toNat by omega, ← e1]
          assumption
    · intro c111
      refine And.intro (by
        first
          | (obtain ⟨-, -, -, -, h6⟩ := hM1; rw [h6 26 3 (by omega)]; exact g3)
          | (rw [hr8]; have hpr := pz_and_r zz (b := 255) (by decide) (by decide); split <;> exact ⟨by omega, by omega⟩)
          | exact ⟨⟨gT, gv⟩, gV, g0⟩
          | exact ⟨⟨k3, hA1.1, by omega, by omega⟩, ⟨by omega, by omega⟩, hcr⟩
          | omega
          | exact ⟨by omega, by omega⟩
          | exact ⟨⟨by omega, by omega⟩, by omega, by omega⟩
          | (have hmem := (hel (by omega)).1; have hrg := gc_S_rng (hel (by omega)).2; rw [← hmem] at hrg; first | omega | exact ⟨by omega, by omega⟩)
          | (have hNx := hJ.2.2.2.2.2 w.toNat; omega)
          | (have hmem := (hel (by omega)).1; have hNx := hJ.2.2.2.2.2 (M1 773 i.toNat).toNat; exact ⟨by omega, by omega⟩)) ?_
      obtain ⟨e1, e2⟩ := hel (by omega)
      have hqr := gc_S_rng e2
      have hz : M1 774 ((gc_S M1 cut h.toNat).getD i.toNat 0).toNat = 0 := by
        rw [← e1]
        first
          | assumption
          | exact Decidable.not_not.1 (by assumption)
      obtain ⟨s1, s2, s3⟩ := hJ.push hc hh2 e2 hqr.1 hqr.2 hz
      have hfr := rn_f.up M1 (M1 773 i.toNat).toNat (w + 2)
      obtain ⟨f1, -, -⟩ := gc_fr hfr.e hA1.1 cut
      have hrow : (ab_up M1 774 (M1 773 i.toNat).toNat (w + 2)) 774 = se_u (M1 774) ((gc_S M1 cut h.toNat).getD i.toNat 0).toNat (w + 2) := by rw [ab_up_row, e1]
      have hnz : ∀ x, M1 774 x ≠ 0 → se_u (M1 774) ((gc_S M1 cut h.toNat).getD i.toNat 0).toNat (w + 2) x ≠ 0 := fun x hx => by
        unfold se_u
        split
        · omega
        · exact hx
      refine ⟨_, ?_, rfl, rfl, rfl, hn0, hn1, hK.rn hfr, ⟨hh0, hh1, ?_⟩, ?_, by omega, ?_, fun x hx => ?_, ((gc_S M1 cut h.toNat).getD i.toNat 0).toNat :: L, ?_, ?_, ?_⟩
      · omega
      · rw [hrow]; exact hnz _ hh2
      · rw [f1]
        exact hLL.fr (by rw [ab_up_o (by decide)]) (fun k => by rw [ab_up_o (by decide)])
      · rw [f1]; omega
      · rw [f1, hrow]
        by_cases e : (x : Int) < i
        · exact hnz _ (hdone x e)
        · rw [show x = i.toNat by omega]
          unfold se_u
          rw [if_pos rfl]
          omega
      · rw [f1, hrow]; exact s1
      · rw [hrow, e1]; exact s2
      · rw [hrow, s3, List.length_cons]
        omega

set_option maxRecDepth 20000 in
set_option maxHeartbeats 1000000 in
theorem ok_X3_search (E : ab_E) : ab_Ok E 6 55 S_X3_search := by
  refine ab_mk rq_X3_search tk_X3_search (rt := 0) (rfl) (cuts := [32, 80]) (G := [(29, S_X1_startRow), (49, S_X3_clearNotes), (67, S_X5_find)]) (List.forall_mem_cons.mpr ⟨⟨1, by decide, ok_X1_startRow E⟩, List.forall_mem_cons.mpr ⟨⟨5, by decide, ok_X3_clearNotes E⟩, List.forall_mem_cons.mpr ⟨⟨4, by decide, ok_X5_find E⟩, fun _ h => absurd h List.not_mem_nil⟩⟩⟩) (by decide) 126 rfl ?_
  intro a M K wd wa hS
  unfold S_X3_search at hS
  split at hS
  ·
    rename_i cut zz
    refine ⟨Nat.le_of_ble_eq_true rfl, fun pc n L st M1 => match pc, L, st with
      | 32, [.inr (.inr (.inr (768, 3, 0))), .inr (.inl c1), .inr (.inl z1), .inr (.inl w), .inr (.inl n4), u6_, u7_, u8_], [] => (n = ((33281 - n4) * 1000).toNat ∧ cut = c1 ∧ zz = z1 ∧ 0 ≤ n4 ∧ n4 ≤ 33280 ∧ se_K M M1 ∧ ∃ L : List Nat, se_J (gc_S M1 cut) (pr_s M * 256 + zz.toNat) (M1 774) L (fun _ => False) ∧ se_c (M1 774) L w ∧ n4 + ((L.length : Nat) : Int) = ((se_n (M1 774) : Nat) : Int))
      | 80, [.inr (.inr (.inr (768, 3, 0))), .inr (.inl c1), .inr (.inl z1), .inr (.inl w), .inr (.inl n4), .inr (.inl h), .inr (.inl i), u8_], [] => (n = ((33281 - n4) * 1000 - 1 - i).toNat ∧ cut = c1 ∧ zz = z1 ∧ 0 ≤ n4 ∧ n4 < 33280 ∧ se_K M M1 ∧ (0 ≤ h ∧ h < 33280 ∧ ¬ M1 774 h.toNat = 0) ∧ ts_L M1 (gc_S M1 cut h.toNat) ∧ 0 ≤ i ∧ i ≤ (((gc_S M1 cut h.toNat).length : Nat) : Int) ∧ (∀ x : Nat, (x : Int) < i → M1 774 ((gc_S M1 cut h.toNat).getD x 0).toNat ≠ 0) ∧ ∃ L : List Nat, se_J (gc_S M1 cut) (pr_s M * 256 + zz.toNat) (M1 774) L (fun j => j = h.toNat) ∧ se_c (M1 774) L w ∧ n4 + 1 + ((L.length : Nat) : Int) = ((se_n (M1 774) : Nat) : Int))
      | _, _, _ => False, ?_, ?_⟩
    · exact vc_X3_search_0 cut zz M K  hS
    · intro pc n L st M1 hI wd1 wL wst
      (try dsimp only at hI)
      split at hI
      ·
        rename_i c1 z1 w n4 u6_ u7_ u8_
        exact vc_X3_search_32 cut zz M K  hS n c1 z1 w n4 _ hI
      ·
        rename_i c1 z1 w n4 h i u8_
        exact vc_X3_search_80 cut zz M K  hS n c1 z1 w n4 h i _ hI
      · exact hI.elim
  · exact hS.elim
