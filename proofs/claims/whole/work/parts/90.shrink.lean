/-! the states that are kept -/
def sh_k (M : ab_M) (l i : Nat) : Nat → Prop := kp_K M l (M (lp_at M (l : Int)) 17) (M (lp_at M (l : Int)) 2) (M (lp_at M (l : Int)) 3) i
def sh_J (M M1 : ab_M) (l i : Nat) : Prop := se_K M M1 ∧ (∀ j, 33280 ≤ j → M1 774 j = 0) ∧ (∀ j, ab_ir (M1 774 j)) ∧ kp_N M1 l (M1 774) (sh_k M1 l i) ∧ (∀ k, k < i → ∃ x : Nat, x < 256 ∧ sh_k M1 l k x ∧ ¬ sh_k M1 l (k + 1) x) ∧ i + kp_m (M1 774) l ≤ 256
/-- the greatest set and the rounds -/
def sh_P (M M' : ab_M) (l : Nat) (r : Int) : Prop := se_K M M' ∧ (∀ j, 33280 ≤ j → M' 774 j = 0) ∧ (∀ j, ab_ir (M' 774 j)) ∧ ∃ i : Nat, r = (i : Int) ∧ (∀ x : Nat, x < 256 → (M' 774 ((122 + l) * 256 + x) = 0 ↔ sh_k M' l i x)) ∧ (∀ k, k < i → ∃ x : Nat, x < 256 ∧ sh_k M' l k x ∧ ¬ sh_k M' l (k + 1) x) ∧ ∀ x : Nat, x < 256 → sh_k M' l i x → sh_k M' l (i + 1) x
theorem sh_k_fr {M M1 : ab_M} (h : ts_e M M1) (hA : gc_A M) (l i : Nat) : sh_k M1 l i = sh_k M l i := by
  unfold sh_k
  rw [lp_at_fr h, kp_K_fr h hA.1]
  have := hA.1.lp (l : Int)
  rw [h.s this, h.s this, h.s this]
theorem rl_I.rn {M M1 : ab_M} {s : Nat} {be re : Int} {k : Nat} (h : rl_I M M1 s be re k) : rn_f M M1 := fun o j q _ _ => h.1 o j fun z => q z.1
theorem kp_N_fr {M M1 : ab_M} (h : ts_e M M1) (hp : ts_p M) {l : Nat} {N : Nat → Int} {K : Nat → Prop} (hN : kp_N M l N K) : kp_N M1 l N K := by
  refine ⟨hN.1, fun j hj hb => ?_⟩
  rw [(gc_fr h hp 1).1]
  exact hN.2 j hj hb
theorem kp_D_fr {M M1 : ab_M} (h : ts_e M M1) {lr j : Nat} : kp_D M1 lr j ↔ kp_D M lr j := by
  unfold kp_D gc_w
  simp only [h.c 26 3 (by decide), h.c 26 8 (by decide), h.c 392 _ (by decide)]
theorem sh_round {M M1 M2 M3 : ab_M} {l lr i : Nat} {r r' : Int} (hA : gc_A M) (hl : (l : Int) < M 26 8) (hlr : M 392 l = (lr : Int)) (hJ : sh_J M M1 l i) (hs : sw_I M1 M2 1 (sw_R M1 ((lr + 1 : Nat) : Int) (M1 (26 + 1 + 1 + 3 * lr) 14) 1) r') (hr : rl_I M2 M3 (26 + 1 + 1 + 3 * lr) (((122 + l : Nat) : Int) * 256) r 256) :
    (r = 0 ∨ r = 1) ∧ (r = 1 → sh_J M M3 l (i + 1)) ∧ (r = 0 → sh_P M M3 l (i : Int)) := by
  obtain ⟨j1, j2, j3, j4, j5, j6⟩ := hJ
  have hA1 := gc_A_fr j1.2.2.2.lo hA
  have hp := hA1.1
  have hL := hA1.2.1
  have h48 := hp.2.1
  have e8 : M1 26 8 = M 26 8 := j1.2.2.2 26 8 (by omega)
  have e392 : ∀ k, M1 392 k = M 392 k := fun k => j1.2.2.2 392 k (by omega)
  have hl1 : (l : Int) < M1 26 8 := by omega
  have hlr1 : M1 392 l = (lr : Int) := by rw [e392]; exact hlr
  obtain ⟨lr', y1, y2, y3, y4⟩ := hL.2.2.2.1 l hl1
  have : lr' = lr := by omega
  subst this
  obtain ⟨l', -, -, -, hend⟩ := hL.2.2.1 lr' y1 y3
  have hend2 := hL.2.2.2.2.2.1 lr' y1
  obtain ⟨e, ee⟩ : ∃ e : Nat, M1 (26 + 1 + 1 + 3 * lr') 14 = (e : Int) := ⟨(M1 (26 + 1 + 1 + 3 * lr') 14).toNat, by omega⟩
  obtain ⟨s1, s2, -, s4⟩ := hs
  have f12 := s1.e
  have hlp : lp_at M1 (l : Int) = 26 + 1 + 1 + 3 * lr' := lp_at_of hl1 hlr1 y1
  have hk1 : ∀ k, sh_k M1 l k = kp_K M1 l (M1 (26 + 1 + 1 + 3 * lr') 17) (M1 (26 + 1 + 1 + 3 * lr') 2) (M1 (26 + 1 + 1 + 3 * lr') 3) k := fun k => by unfold sh_k; rw [hlp]
  obtain ⟨w1, w2, w3, w4⟩ := kp_sweep hL hp hl1 hlr1 ee (by omega) (by omega) j4
  rw [ee] at s2
  rw [← s2] at w1 w2 w3 w4
  -- the memory behind the sweep
  have hA2 := gc_A_fr f12.lo hA1
  have hp2 := hA2.1
  have hL2 := hA2.2.1
  have hk2 : ∀ k, sh_k M2 l k = sh_k M1 l k := fun k => sh_k_fr f12 hA1 l k
  have es : ∀ k, M2 (26 + 1 + 1 + 3 * lr') k = M1 (26 + 1 + 1 + 3 * lr') k := fun k => f12.c _ _ (by have := hL.1; omega)
  have hk2' : ∀ k, kp_K M2 l (M2 (26 + 1 + 1 + 3 * lr') 17) (M2 (26 + 1 + 1 + 3 * lr') 2) (M2 (26 + 1 + 1 + 3 * lr') 3) k = sh_k M1 l k := fun k => by rw [es, es, es, kp_K_fr f12 hp, hk1]
  have hround := kp_round (M := M2) (M2 := M3) (r := r) (i := i) hL2 hp2 (l := l) (lr := lr') (by rw [f12.c 26 8 (by decide)]; exact hl1) (by rw [f12.c 392 _ (by decide)]; exact hlr1) (by rw [f12.c 26 3 (by decide)]; exact y1) (by rw [hk2']; exact kp_N_fr f12 hp w1) (fun j hj => by rw [hk2', (gc_fr f12 hp 1).1]; exact w4 j ((kp_D_fr f12).1 hj)) hr
  simp only [hk2'] at hround
  obtain ⟨h1, h2⟩ := hround
  have f23 := hr.rn.e
  have f13 := f12.trans f23
  have hk3 : ∀ k, sh_k M3 l k = sh_k M1 l k := fun k => sh_k_fr f13 hA1 l k
  have hzero : ∀ j, 33280 ≤ j → M3 774 j = 0 := fun j hj => by
    rw [hr.1 774 j fun ⟨_, x, x1, x2, _⟩ => by omega, w3 j hj]
    exact j2 j hj
  have hir : ∀ j, ab_ir (M3 774 j) := fun j => by
    by_cases q : ∃ x : Nat, x < 256 ∧ j = (((122 + l : Nat) : Int) * 256 + (x : Int)).toNat ∧ rl_c M2 (26 + 1 + 1 + 3 * lr') (((122 + l : Nat) : Int) * 256) x
    · obtain ⟨x, x1, x2, x3⟩ := q
      rw [x2, hr.2.1 x x1 x3]
      exact ⟨by decide, by decide⟩
    · rw [hr.1 774 j fun z => q z.2]
      exact s4 j
  have hN3 : kp_N M3 l (M3 774) (sh_k M1 l (i + 1)) := kp_N_fr f23 hp2 h1
  have hK3 : se_K M M3 := (j1.rn s1).rn hr.rn
  refine ⟨?_, fun hr1 => ?_, fun hr0 => ?_⟩
  · rcases h2 with z | z
    · exact Or.inl z.1
    · exact Or.inr z.1
  · rcases h2 with z | ⟨-, z⟩
    · omega
    · refine ⟨hK3, hzero, hir, by rw [hk3]; exact hN3, fun k hk => ?_, ?_⟩
      · rw [hk3, hk3]
        by_cases c : k = i
        · subst c; exact z
        · exact j5 k (by omega)
      · have hlt := kp_m_lt (M := M1) w1 (kp_N_fr (M1 := M1) (M := M3) (fun o k ho => (f13 o k ho).symm) (gc_A_fr f13.lo hA1).1 hN3) (fun x hx => ?_) z
        · have e2 : kp_m (M2 774) l = kp_m (M1 774) l := by
            unfold kp_m
            have : ∀ k, k ≤ 256 → gx_m (fun x => decide (M2 774 ((122 + l) * 256 + x) = 0)) k = gx_m (fun x => decide (M1 774 ((122 + l) * 256 + x) = 0)) k := by
              intro k
              induction k with
              | zero => intro _; rfl
              | succ k ih =>
                intro hk
                show gx_m _ k + (if decide (M2 774 ((122 + l) * 256 + k) = 0) = true then 1 else 0) = gx_m _ k + (if decide (M1 774 ((122 + l) * 256 + k) = 0) = true then 1 else 0)
                rw [ih (by omega), w2 k (by omega)]
            exact this 256 (Nat.le_refl _)
          omega
        · rw [hk1] at hx ⊢
          exact hx.1
  · rcases h2 with ⟨-, z1, z2⟩ | ⟨z, -⟩
    · refine ⟨hK3, hzero, hir, i, rfl, fun x hx => ?_, fun k hk => by rw [hk3, hk3]; exact j5 k hk, fun x hx q => by rw [hk3] at q ⊢; exact z2 x hx q⟩
      rw [hk3, z1, w2 x hx]
      rcases j4.1 x hx with z | z
      · exact ⟨fun _ => z.2, fun _ => z.1⟩
      · exact ⟨fun q => by rw [z.1] at q; exact absurd q (by decide), fun q => absurd q z.2⟩
    · omega
/-- the notes at the beginning -/
def sh_0 (M : ab_M) (l : Nat) (t2 : Int) (k : Nat) (j : Nat) : Int := if j / 256 = 122 + l ∧ j % 256 < k ∧ tv M t2 ((j % 256 : Nat) : Int) = 0 then 262144 else 0
theorem sh_J.start {M M1 : ab_M} {l lr : Nat} (hA : gc_A M) (hl : (l : Int) < M 26 8) (hlr : M 392 l = (lr : Int)) (hlrn : (lr : Int) < M 26 3) (hK : se_K M M1) (h0 : M1 774 = sh_0 M1 l (M1 (26 + 1 + 1 + 3 * lr) 3) 256) : sh_J M M1 l 0 := by
  have e8 : M1 26 8 = M 26 8 := hK.2.2.2 26 8 (by omega)
  have h48 := hA.1.2.1
  have hlp : lp_at M1 (l : Int) = 26 + 1 + 1 + 3 * lr := lp_at_of (by omega) (by rw [hK.2.2.2 392 l (by omega)]; exact hlr) (by rw [hK.2.2.2 26 3 (by omega)]; exact hlrn)
  refine ⟨hK, fun j hj => ?_, fun j => ?_, ⟨fun x hx => ?_, fun j hj hb => ?_⟩, fun k hk => absurd hk (Nat.not_lt_zero _), ?_⟩
  · rw [h0]
    unfold sh_0
    rw [if_neg (by omega)]
  · rw [h0]
    unfold sh_0
    split <;> exact ⟨by decide, by decide⟩
  · rw [h0]
    show (sh_0 M1 l (M1 (26 + 1 + 1 + 3 * lr) 3) 256 ((122 + l) * 256 + x) = 0 ∧ ¬ tv M1 (M1 (lp_at M1 (l : Int)) 3) (x : Int) = 0) ∨ (sh_0 M1 l (M1 (26 + 1 + 1 + 3 * lr) 3) 256 ((122 + l) * 256 + x) = 262144 ∧ ¬ ¬ tv M1 (M1 (lp_at M1 (l : Int)) 3) (x : Int) = 0)
    rw [hlp]
    unfold sh_0
    rw [show ((122 + l) * 256 + x) % 256 = x by omega]
    by_cases q : tv M1 (M1 (26 + 1 + 1 + 3 * lr) 3) (x : Int) = 0
    · rw [if_pos ⟨by omega, by omega, q⟩]
      exact Or.inr ⟨rfl, fun z => z q⟩
    · rw [if_neg (fun z => q z.2.2)]
      exact Or.inl ⟨rfl, q⟩
  · rw [h0] at hb
    unfold sh_0 at hb
    rw [if_neg (fun z => hj z.1), pz_b_0] at hb
    exact absurd hb (by decide)
  · have := gx_m_bd (fun x => decide (M1 774 ((122 + l) * 256 + x) = 0)) 256
    unfold kp_m
    omega

def S_X3_shrink : ab_PT := fun a M K => match a with
  | [.inr (.inr (.inr (768, 3, 0))), .inr (.inl l)] => ((0 ≤ l ∧ l < M 26 8) ∧ vl_T M ∧ tv_ok M ∧ gc_A M ∧ (M 769 3 = 0 ∨ M 769 3 = 1 ∧ vl_V M M (M 26 11)) ∧ ∀ k : Nat, 33280 ≤ k → M 774 k = 0) ∧ (∀ rx : Int, ∀ Mx : ab_M, (sh_P M Mx l.toNat rx) → K [Xi rx] Mx)
  | _ => False
set_option maxRecDepth 20000 in
theorem vc_X3_shrink_0 (l : Int) (M : ab_M) (K : List ab_V → ab_M → Prop) (hS : ((0 ≤ l ∧ l < M 26 8) ∧ vl_T M ∧ tv_ok M ∧ gc_A M ∧ (M 769 3 = 0 ∨ M 769 3 = 1 ∧ vl_V M M (M 26 11)) ∧ ∀ k : Nat, 33280 ≤ k → M 774 k = 0) ∧ (∀ rx : Int, ∀ Mx : ab_M, (sh_P M Mx l.toNat rx) → K [Xi rx] Mx)) : ((vl_T M ∧ tv_ok M) ∧ (M 769 3 = 0 ∨ M 769 3 = 1 ∧ vl_V M M (M 26 11)) ∧ ∀ k : Nat, 33280 ≤ k → M 774 k = 0) ∧ (∀ M1 : ab_M, (M1 769 3 = 1 ∧ vl_V M M1 (M 26 11) ∧ tv_ok M1 ∧ (∀ k : Nat, M1 774 k = 0) ∧ (∀ o' k' : Nat, ¬ (o' = 770 ∨ o' = 771 ∨ o' = 774 ∨ o' = 769 ∧ k' = 3) → M1 o' k' = M o' k')) → (ab_ir l ∧ M1 26 8 ≤ 4 ∧ 0 ≤ M1 26 8 ∧ (0 ≤ l ∧ l < M1 26 8 → ab_ir (M1 392 l.toNat)) ∧ 0 ≤ M1 26 3 ∧ M1 26 3 ≤ 120) ∧ (∀ o9 : Nat, (o9 = if 0 ≤ l ∧ l < M1 26 8 ∧ 0 ≤ M1 392 l.toNat ∧ M1 392 l.toNat < M1 26 3 then 26 + 1 + 1 + 3 * (M1 392 l.toNat).toNat else 26 + 362) → (-128 ≤ (122 : Int) ∧ (122 : Int) < 128) ∧ (-32768 ≤ (256 : Int) ∧ (256 : Int) < 32768) ∧ (∃ n', ((n' = 1000 + (256 - (0 : Int)).toNat ∧ l = l ∧ o9 = 26 + 1 + 1 + 3 * (M 392 l.toNat).toNat ∧ (((122 : Int) + l) * (256 : Int)) = (122 + l) * 256 ∧ 0 ≤ (0 : Int) ∧ (0 : Int) ≤ 256 ∧ se_K M M1 ∧ M1 774 = sh_0 M1 l.toNat (M1 o9 3) (0 : Int).toNat))))) := by
  obtain ⟨⟨gl, gT, gv, gA, gV, g0⟩, gK⟩ := hS
  obtain ⟨l, rfl⟩ : ∃ z : Nat, l = (z : Int) := ⟨l.toNat, by omega⟩
  have gL := gA.2.1
  have gp := gA.1
  have g3 := gL.1
  have g8 := gp.2.1
  obtain ⟨lr, y1, y2, y3, y4⟩ := gL.2.2.2.1 l gl.2
  have hts := gp.2.2.2.1 lr y1
  obtain ⟨t1, t2, t3, t4, t5, t6, t7, t8, t9, t10, t11⟩ := id hts
  have hlr700 : 26 + 1 + 1 + 3 * lr < 700 := by omega
  refine And.intro (by
    first
      | exact ⟨⟨gT, gv⟩, gV, g0⟩
      | omega
      | exact ⟨by omega, by omega⟩
      | (have e2 : M1 392 ((l : Int)).toNat = (lr : Int) := by
           rw [show ((l : Int)).toNat = l from rfl, e392, y2]
         refine ⟨by omega, by omega, by omega, fun _ => ?_, by omega, by omega⟩
         rw [e2]
         exact ⟨by omega, by omega⟩)
      | (rw [es]; exact ⟨⟨by omega, by omega⟩, hK.2.2.1⟩)
      | exact ⟨by decide, by decide⟩
      | exact ⟨⟨by omega, by omega⟩, by omega, by omega⟩
      | (split <;> exact ⟨by decide, by decide⟩)
      | (rcases hM107.2.2 with z | z <;> (have := z.1; exact ⟨by omega, by omega⟩))
      | (rw [hr90, if_pos ⟨by omega, by omega⟩, e2, e14]; exact ⟨⟨hK.2.2.1, hA1.1⟩, ⟨by omega, by omega, by omega⟩, ⟨by decide, by decide⟩, hJ.2.2.1⟩)
      | (refine ⟨ts_e_ok hM100.1.e hK.2.2.1, hlr700, ⟨l, by omega, hb⟩, ?_, ?_, hM100.2.2.2⟩
         · rw [hM100.1.e _ _ (by omega), es]; exact hT17
         · rw [hM100.1.e _ _ (by omega), es]; exact t5)) ?_
  intro M1 hM1
  obtain ⟨h1, h2, h3, h5, h6⟩ := hM1
  have hK : se_K M M1 := ⟨h1, h2, h3, fun o k q => h6 o k (by omega)⟩
  have e3 : M1 26 3 = M 26 3 := hK.2.2.2 26 3 (by omega)
  have e8 : M1 26 8 = M 26 8 := hK.2.2.2 26 8 (by omega)
  have e392 : ∀ k, M1 392 k = M 392 k := fun k => hK.2.2.2 392 k (by omega)
  have es : ∀ k, M1 (26 + 1 + 1 + 3 * lr) k = M (26 + 1 + 1 + 3 * lr) k := fun k => hK.2.2.2 _ k (by omega)
  have hA1 := gc_A_fr hK.2.2.2.lo gA
  refine And.intro (by
    first
      | exact ⟨⟨gT, gv⟩, gV, g0⟩
      | omega
      | exact ⟨by omega, by omega⟩
      | (have e2 : M1 392 ((l : Int)).toNat = (lr : Int) := by
           rw [show ((l : Int)).toNat = l from rfl, e392, y2]
         refine ⟨by omega, by omega, by omega, fun _ => ?_, by omega, by omega⟩
         rw [e2]
         exact ⟨by omega, by omega⟩)
      | (rw [es]; exact ⟨⟨by omega, by omega⟩, hK.2.2.1⟩)
      | exact ⟨by decide, by decide⟩
      | exact ⟨⟨by omega, by omega⟩, by omega, by omega⟩
      | (split <;> exact ⟨by decide, by decide⟩)
      | (rcases hM107.2.2 with z | z <;> (have := z.1; exact ⟨by omega, by omega⟩))
      | (rw [hr90, if_pos ⟨by omega, by omega⟩, e2, e14]; exact ⟨⟨hK.2.2.1, hA1.1⟩, ⟨by omega, by omega, by omega⟩, ⟨by decide, by decide⟩, hJ.2.2.1⟩)
      | (refine ⟨ts_e_ok hM100.1.e hK.2.2.1, hlr700, ⟨l, by omega, hb⟩, ?_, ?_, hM100.2.2.2⟩
         · rw [hM100.1.e _ _ (by omega), es]; exact hT17
         · rw [hM100.1.e _ _ (by omega), es]; exact t5)) ?_
  intro o9 hr9
  have hs9 : o9 = 26 + 1 + 1 + 3 * lr := by
    rw [hr9]
    have e2 : M1 392 ((l : Int)).toNat = (lr : Int) := by
      rw [show ((l : Int)).toNat = l from rfl, e392, y2]
    rw [if_pos ⟨by omega, by omega, by omega, by omega⟩, e2]
    rfl
  clear hr9
  subst hs9
  refine And.intro (by
    first
      | exact ⟨⟨gT, gv⟩, gV, g0⟩
      | omega
      | exact ⟨by omega, by omega⟩
      | (have e2 : M1 392 ((l : Int)).toNat = (lr : Int) := by
           rw [show ((l : Int)).toNat = l from rfl, e392, y2]
         refine ⟨by omega, by omega, by omega, fun _ => ?_, by omega, by omega⟩
         rw [e2]
         exact ⟨by omega, by omega⟩)
      | (rw [es]; exact ⟨⟨by omega, by omega⟩, hK.2.2.1⟩)
      | exact ⟨by decide, by decide⟩
      | exact ⟨⟨by omega, by omega⟩, by omega, by omega⟩
      | (split <;> exact ⟨by decide, by decide⟩)
      | (rcases hM107.2.2 with z | z <;> (have := z.1; exact ⟨by omega, by omega⟩))
      | (rw [hr90, if_pos ⟨by omega, by omega⟩, e2, e14]; exact ⟨⟨hK.2.2.1, hA1.1⟩, ⟨by omega, by omega, by omega⟩, ⟨by decide, by decide⟩, hJ.2.2.1⟩)
      | (refine ⟨ts_e_ok hM100.1.e hK.2.2.1, hlr700, ⟨l, by omega, hb⟩, ?_, ?_, hM100.2.2.2⟩
         · rw [hM100.1.e _ _ (by omega), es]; exact hT17
         · rw [hM100.1.e _ _ (by omega), es]; exact t5)) ?_
  refine And.intro (by
    first
      | exact ⟨⟨gT, gv⟩, gV, g0⟩
      | omega
      | exact ⟨by omega, by omega⟩
      | (have e2 : M1 392 ((l : Int)).toNat = (lr : Int) := by
           rw [show ((l : Int)).toNat = l from rfl, e392, y2]
         refine ⟨by omega, by omega, by omega, fun _ => ?_, by omega, by omega⟩
         rw [e2]
         exact ⟨by omega, by omega⟩)
      | (rw [es]; exact ⟨⟨by omega, by omega⟩, hK.2.2.1⟩)
      | exact ⟨by decide, by decide⟩
      | exact ⟨⟨by omega, by omega⟩, by omega, by omega⟩
      | (split <;> exact ⟨by decide, by decide⟩)
      | (rcases hM107.2.2 with z | z <;> (have := z.1; exact ⟨by omega, by omega⟩))
      | (rw [hr90, if_pos ⟨by omega, by omega⟩, e2, e14]; exact ⟨⟨hK.2.2.1, hA1.1⟩, ⟨by omega, by omega, by omega⟩, ⟨by decide, by decide⟩, hJ.2.2.1⟩)
      | (refine ⟨ts_e_ok hM100.1.e hK.2.2.1, hlr700, ⟨l, by omega, hb⟩, ?_, ?_, hM100.2.2.2⟩
         · rw [hM100.1.e _ _ (by omega), es]; exact hT17
         · rw [hM100.1.e _ _ (by omega), es]; exact t5)) ?_
  have e : (M 392 ((l : Int)).toNat).toNat = lr := by
    rw [show ((l : Int)).toNat = l from rfl, y2]
    rfl
  refine ⟨_, rfl, rfl, ?_, rfl, by decide, by decide, hK, funext fun j => ?_⟩
  · rw [e]
  · rw [h5 j]
    unfold sh_0
    rw [if_neg (by omega)]

set_option maxRecDepth 20000 in
theorem vc_X3_shrink_25 (l : Int) (M : ab_M) (K : List ab_V → ab_M → Prop) (hS : ((0 ≤ l ∧ l < M 26 8) ∧ vl_T M ∧ tv_ok M ∧ gc_A M ∧ (M 769 3 = 0 ∨ M 769 3 = 1 ∧ vl_V M M (M 26 11)) ∧ ∀ k : Nat, 33280 ≤ k → M 774 k = 0) ∧ (∀ rx : Int, ∀ Mx : ab_M, (sh_P M Mx l.toNat rx) → K [Xi rx] Mx)) (n : Nat) (l1 : Int) (s4 : Nat) (be : Int) (k : Int) (M1 : ab_M) (hI : n = 1000 + (256 - k).toNat ∧ l = l1 ∧ s4 = 26 + 1 + 1 + 3 * (M 392 l.toNat).toNat ∧ be = (122 + l) * 256 ∧ 0 ≤ k ∧ k ≤ 256 ∧ se_K M M1 ∧ M1 774 = sh_0 M1 l.toNat (M1 s4 3) k.toNat) : (-32768 ≤ (256 : Int) ∧ (256 : Int) < 32768) ∧ (ab_ir k ∧ ab_ir (256 : Int)) ∧ (((256 : Int) ≤ k → (∃ n', n' < n ∧ ((n' = (300 - (0 : Int)).toNat ∧ l = l1 ∧ s4 = 26 + 1 + 1 + 3 * (M 392 l.toNat).toNat ∧ be = (122 + l) * 256 ∧ 0 ≤ (0 : Int) ∧ (0 : Int) ≤ 257 ∧ (0 : Int) = (0 : Int) ∧ sh_J M M1 l.toNat (0 : Int).toNat)))) ∧ (k < (256 : Int) → (ab_ir ((M1 s4 3) * 256 + k) ∧ tv_ok M1) ∧ (∀ r51 : Int, (r51 = if ¬ tv M1 (M1 s4 3) k = 0 then 1 else 0) → (ab_ir r51) ∧ ((r51 = 0 → (0 ≤ (be + k) ∧ (be + k) < ((33280 : Nat) : Int)) ∧ (∃ n', n' < n ∧ ((n' = 1000 + (256 - (k + 1)).toNat ∧ l = l1 ∧ s4 = 26 + 1 + 1 + 3 * (M 392 l.toNat).toNat ∧ be = (122 + l) * 256 ∧ 0 ≤ (k + 1) ∧ (k + 1) ≤ 256 ∧ se_K M (ab_up M1 774 ((be + k).toNat) (262144 : Int)) ∧ (ab_up M1 774 ((be + k).toNat) (262144 : Int)) 774 = sh_0 (ab_up M1 774 ((be + k).toNat) (262144 : Int)) l.toNat ((ab_up M1 774 ((be + k).toNat) (262144 : Int)) s4 3) (k + 1).toNat)))) ∧ (¬ r51 = 0 → (0 ≤ (be + k) ∧ (be + k) < ((33280 : Nat) : Int)) ∧ (∃ n', n' < n ∧ ((n' = 1000 + (256 - (k + 1)).toNat ∧ l = l1 ∧ s4 = 26 + 1 + 1 + 3 * (M 392 l.toNat).toNat ∧ be = (122 + l) * 256 ∧ 0 ≤ (k + 1) ∧ (k + 1) ≤ 256 ∧ se_K M (ab_up M1 774 ((be + k).toNat) (0 : Int)) ∧ (ab_up M1 774 ((be + k).toNat) (0 : Int)) 774 = sh_0 (ab_up M1 774 ((be + k).toNat) (0 : Int)) l.toNat ((ab_up M1 774 ((be + k).toNat) (0 : Int)) s4 3) (k + 1).toNat)))))))) := by
  obtain ⟨hn, q1, hs, hb, hk0, hk1, hK, h0⟩ := hI
  subst q1
  obtain ⟨⟨gl, gT, gv, gA, gV, g0⟩, gK⟩ := hS
  obtain ⟨l, rfl⟩ : ∃ z : Nat, l = (z : Int) := ⟨l.toNat, by omega⟩
  have gL := gA.2.1
  have gp := gA.1
  have g3 := gL.1
  have g8 := gp.2.1
  obtain ⟨lr, y1, y2, y3, y4⟩ := gL.2.2.2.1 l gl.2
  have hts := gp.2.2.2.1 lr y1
  obtain ⟨t1, t2, t3, t4, t5, t6, t7, t8, t9, t10, t11⟩ := id hts
  have hlr700 : 26 + 1 + 1 + 3 * lr < 700 := by omega
  have e : (M 392 ((l : Int)).toNat).toNat = lr := by
    rw [show ((l : Int)).toNat = l from rfl, y2]
    rfl
  rw [e] at hs
  subst hs
  have e3 : M1 26 3 = M 26 3 := hK.2.2.2 26 3 (by omega)
  have e8 : M1 26 8 = M 26 8 := hK.2.2.2 26 8 (by omega)
  have e392 : ∀ k, M1 392 k = M 392 k := fun k => hK.2.2.2 392 k (by omega)
  have es : ∀ k, M1 (26 + 1 + 1 + 3 * lr) k = M (26 + 1 + 1 + 3 * lr) k := fun k => hK.2.2.2 _ k (by omega)
  have hA1 := gc_A_fr hK.2.2.2.lo gA
  refine And.intro (by
    first
      | exact ⟨⟨gT, gv⟩, gV, g0⟩
      | omega
      | exact ⟨by omega, by omega⟩
      | (have e2 : M1 392 ((l : Int)).toNat = (lr : Int) := by
           rw [show ((l : Int)).toNat = l from rfl, e392, y2]
         refine ⟨by omega, by omega, by omega, fun _ => ?_, by omega, by omega⟩
         rw [e2]
         exact ⟨by omega, by omega⟩)
      | (rw [es]; exact ⟨⟨by omega, by omega⟩, hK.2.2.1⟩)
      | exact ⟨by decide, by decide⟩
      | exact ⟨⟨by omega, by omega⟩, by omega, by omega⟩
      | (split <;> exact ⟨by decide, by decide⟩)
      | (rcases hM107.2.2 with z | z <;> (have := z.1; exact ⟨by omega, by omega⟩))
      | (rw [hr90, if_pos ⟨by omega, by omega⟩, e2, e14]; exact ⟨⟨hK.2.2.1, hA1.1⟩, ⟨by omega, by omega, by omega⟩, ⟨by decide, by decide⟩, hJ.2.2.1⟩)
      | (refine ⟨ts_e_ok hM100.1.e hK.2.2.1, hlr700, ⟨l, by omega, hb⟩, ?_, ?_, hM100.2.2.2⟩
         · rw [hM100.1.e _ _ (by omega), es]; exact hT17
         · rw [hM100.1.e _ _ (by omega), es]; exact t5)) ?_
  refine And.intro (by
    first
      | exact ⟨⟨gT, gv⟩, gV, g0⟩
      | omega
      | exact ⟨by omega, by omega⟩
      | (have e2 : M1 392 ((l : Int)).toNat = (lr : Int) := by
           rw [show ((l : Int)).toNat = l from rfl, e392, y2]
         refine ⟨by omega, by omega, by omega, fun _ => ?_, by omega, by omega⟩
         rw [e2]
         exact ⟨by omega, by omega⟩)
      | (rw [es]; exact ⟨⟨by omega, by omega⟩, hK.2.2.1⟩)
      | exact ⟨by decide, by decide⟩
      | exact ⟨⟨by omega, by omega⟩, by omega, by omega⟩
      | (split <;> exact ⟨by decide, by decide⟩)
      | (rcases hM107.2.2 with z | z <;> (have := z.1; exact ⟨by omega, by omega⟩))
      | (rw [hr90, if_pos ⟨by omega, by omega⟩, e2, e14]; exact ⟨⟨hK.2.2.1, hA1.1⟩, ⟨by omega, by omega, by omega⟩, ⟨by decide, by decide⟩, hJ.2.2.1⟩)
      | (refine ⟨ts_e_ok hM100.1.e hK.2.2.1, hlr700, ⟨l, by omega, hb⟩, ?_, ?_, hM100.2.2.2⟩
         · rw [hM100.1.e _ _ (by omega), es]; exact hT17
         · rw [hM100.1.e _ _ (by omega), es]; exact t5)) ?_
  refine ⟨?_, ?_⟩
  · intro c30
    have e : (M 392 ((l : Int)).toNat).toNat = lr := by
      rw [show ((l : Int)).toNat = l from rfl, y2]
      rfl
    refine ⟨_, ?_, rfl, rfl, ?_, hb, by decide, by decide, rfl, sh_J.start gA gl.2 y2 y1 hK ?_⟩
    · omega
    · rw [e]
    · rw [show k.toNat = 256 by omega] at h0
      exact h0
  · intro c30
    refine And.intro (by
      first
        | exact ⟨⟨gT, gv⟩, gV, g0⟩
        | omega
        | exact ⟨by omega, by omega⟩
        | (have e2 : M1 392 ((l : Int)).toNat = (lr : Int) := by
             rw [show ((l : Int)).toNat = l from rfl, e392, y2]
           refine ⟨by omega, by omega, by omega, fun _ => ?_, by omega, by omega⟩
           rw [e2]
           exact ⟨by omega, by omega⟩)
        | (rw [es]; exact ⟨⟨by omega, by omega⟩, hK.2.2.1⟩)
        | exact ⟨by decide, by decide⟩
        | exact ⟨⟨by omega, by omega⟩, by omega, by omega⟩
        | (split <;> exact ⟨by decide, by decide⟩)
        | (rcases hM107.2.2 with z | z <;> (have := z.1; exact ⟨by omega, by omega⟩))
        | (rw [hr90, if_pos ⟨by omega, by omega⟩, e2, e14]; exact ⟨⟨hK.2.2.1, hA1.1⟩, ⟨by omega, by omega, by omega⟩, ⟨by decide, by decide⟩, hJ.2.2.1⟩)
        | (refine ⟨ts_e_ok hM100.1.e hK.2.2.1, hlr700, ⟨l, by omega, hb⟩, ?_, ?_, hM100.2.2.2⟩
           · rw [hM100.1.e _ _ (by omega), es]; exact hT17
           · rw [hM100.1.e _ _ (by omega), es]; exact t5)) ?_
    intro r51 hr51
    refine And.intro (by
      first
        | exact ⟨⟨gT, gv⟩, gV, g0⟩
        | omega
        | exact ⟨by omega, by omega⟩
        | (have e2 : M1 392 ((l : Int)).toNat = (lr : Int) := by
             rw [show ((l : Int)).toNat = l from rfl, e392, y2]
           refine ⟨by omega, by omega, by omega, fun _ => ?_, by omega, by omega⟩
           rw [e2]
           exact ⟨by omega, by omega⟩)
        | (rw [es]; exact ⟨⟨by omega, by omega⟩, hK.2.2.1⟩)
        | exact ⟨by decide, by decide⟩
        | exact ⟨⟨by omega, by omega⟩, by omega, by omega⟩
        | (split <;> exact ⟨by decide, by decide⟩)
        | (rcases hM107.2.2 with z | z <;> (have := z.1; exact ⟨by omega, by omega⟩))
        | (rw [hr90, if_pos ⟨by omega, by omega⟩, e2, e14]; exact ⟨⟨hK.2.2.1, hA1.1⟩, ⟨by omega, by omega, by omega⟩, ⟨by decide, by decide⟩, hJ.2.2.1⟩)
        | (refine ⟨ts_e_ok hM100.1.e hK.2.2.1, hlr700, ⟨l, by omega, hb⟩, ?_, ?_, hM100.2.2.2⟩
           · rw [hM100.1.e _ _ (by omega), es]; exact hT17
           · rw [hM100.1.e _ _ (by omega), es]; exact t5)) ?_
    refine ⟨?_, ?_⟩
    · intro c54
      rw [hr51] at c54
      rw [ab_bf] at c54
      clear hr51 r51
      refine And.intro (by
        first
          | exact ⟨⟨gT, gv⟩, gV, g0⟩
          | omega
          | exact ⟨by omega, by omega⟩
          | (have e2 : M1 392 ((l : Int)).toNat = (lr : Int) := by
               rw [show ((l : Int)).toNat = l from rfl, e392, y2]
             refine ⟨by omega, by omega, by omega, fun _ => ?_, by omega, by omega⟩
             rw [e2]
             exact ⟨by omega, by omega⟩)
          | (rw [es]; exact ⟨⟨by omega, by omega⟩, hK.2.2.1⟩)
          | exact ⟨by decide, by decide⟩
          | exact ⟨⟨by omega, by omega⟩, by omega, by omega⟩
          | (split <;> exact ⟨by decide, by decide⟩)
          | (rcases hM107.2.2 with z | z <;> (have := z.1; exact ⟨by omega, by omega⟩))
          | (rw [hr90, if_pos ⟨by omega, by omega⟩, e2, e14]; exact ⟨⟨hK.2.2.1, hA1.1⟩, ⟨by omega, by omega, by omega⟩, ⟨by decide, by decide⟩, hJ.2.2.1⟩)
          | (refine ⟨ts_e_ok hM100.1.e hK.2.2.1, hlr700, ⟨l, by omega, hb⟩, ?_, ?_, hM100.2.2.2⟩
             · rw [hM100.1.e _ _ (by omega), es]; exact hT17
             · rw [hM100.1.e _ _ (by omega), es]; exact t5)) ?_
      have e : (M 392 ((l : Int)).toNat).toNat = lr := by
        rw [show ((l : Int)).toNat = l from rfl, y2]
        rfl
      refine ⟨_, ?_, rfl, rfl, ?_, hb, by omega, by omega, hK.rn (rn_f.up _ _ _), ?_⟩
      · omega
      · rw [e]
      have hr := rn_f.up M1 (be + k).toNat
      rw [show (k + 1).toNat = k.toNat + 1 by omega]
      funext j
      rw [ab_up_o (show (26 + 1 + 1 + 3 * lr) ≠ 774 by omega), ab_up_row]
      unfold se_u sh_0
      rw [ts_e_tv (rn_f.up M1 _ _).e, h0]
      unfold sh_0
      rw [show ((l : Int)).toNat = l from rfl]
      by_cases c : j = (be + k).toNat
      · rw [if_pos c, c, show ((be + k).toNat / 256) = 122 + l by omega, show ((be + k).toNat % 256) = k.toNat by omega, show ((k.toNat : Nat) : Int) = k by omega]
        first
          | (rw [if_pos ⟨rfl, by omega, by assumption⟩]; done)
          | (rw [if_neg (fun z => by first | exact absurd z.2.2 (by assumption))]; done)
          | (rw [if_pos ⟨rfl, by omega, Decidable.not_not.1 (by assumption)⟩]; done)
      · rw [if_neg c]
        by_cases d : j / 256 = 122 + l ∧ j % 256 < k.toNat ∧ tv M1 (M1 (26 + 1 + 1 + 3 * lr) 3) ((j % 256 : Nat) : Int) = 0
        · rw [if_pos d, if_pos ⟨d.1, by omega, d.2.2⟩]
        · rw [if_neg d, if_neg (fun z => d ⟨z.1, by omega, z.2.2⟩)]
    · intro c54
      rw [hr51] at c54
      rw [ab_bt] at c54
      clear hr51 r51
      refine And.intro (by
        first
          | exact ⟨⟨gT, gv⟩, gV, g0⟩
          | omega
          | exact ⟨by omega, by omega⟩
          | (have e2 : M1 392 ((l : Int)).toNat = (lr : Int) := by
               rw [show ((l : Int)).toNat = l from rfl, e392, y2]
             refine ⟨by omega, by omega, by omega, fun _ => ?_, by omega, by omega⟩
             rw [e2]
             exact ⟨by omega, by omega⟩)
          | (rw [es]; exact ⟨⟨by omega, by omega⟩, hK.2.2.1⟩)
          | exact ⟨by decide, by decide⟩
          | exact ⟨⟨by omega, by omega⟩, by omega, by omega⟩
          | (split <;> exact ⟨by decide, by decide⟩)
          | (rcases hM107.2.2 with z | z <;> (have := z.1; exact ⟨by omega, by omega⟩))
          | (rw [hr90, if_pos ⟨by omega, by omega⟩, e2, e14]; exact ⟨⟨hK.2.2.1, hA1.1⟩, ⟨by omega, by omega, by omega⟩, ⟨by decide, by decide⟩, hJ.2.2.1⟩)
          | (refine ⟨ts_e_ok hM100.1.e hK.2.2.1, hlr700, ⟨l, by omega, hb⟩, ?_, ?_, hM100.2.2.2⟩
             · rw [hM100.1.e _ _ (by omega), es]; exact hT17
             · rw [hM100.1.e _ _ (by omega), es]; exact t5)) ?_
      have e : (M 392 ((l : Int)).toNat).toNat = lr := by
        rw [show ((l : Int)).toNat = l from rfl, y2]
        rfl
      refine ⟨_, ?_, rfl, rfl, ?_, hb, by omega, by omega, hK.rn (rn_f.up _ _ _), ?_⟩
      · omega
      · rw [e]
      have hr := rn_f.up M1 (be + k).toNat
      rw [show (k + 1).toNat = k.toNat + 1 by omega]
      funext j
      rw [ab_up_o (show (26 + 1 + 1 + 3 * lr) ≠ 774 by omega), ab_up_row]
      unfold se_u sh_0
      rw [ts_e_tv (rn_f.up M1 _ _).e, h0]
      unfold sh_0
      rw [show ((l : Int)).toNat = l from rfl]
      by_cases c : j = (be + k).toNat
      · rw [if_pos c, c, show ((be + k).toNat / 256) = 122 + l by omega, show ((be + k).toNat % 256) = k.toNat by omega, show ((k.toNat : Nat) : Int) = k by omega]
        first
          | (rw [if_pos ⟨rfl, by omega, by assumption⟩]; done)
          | (rw [if_neg (fun z => by first | exact absurd z.2.2 (by assumption))]; done)
          | (rw [if_pos ⟨rfl, by omega, Decidable.not_not.1 (by assumption)⟩]; done)
      · rw [if_neg c]
        by_cases d : j / 256 = 122 + l ∧ j % 256 < k.toNat ∧ tv M1 (M1 (26 + 1 + 1 + 3 * lr) 3) ((j % 256 : Nat) : Int) = 0
        · rw [if_pos d, if_pos ⟨d.1, by omega, d.2.2⟩]
        · rw [if_neg d, if_neg (fun z => d ⟨z.1, by omega, z.2.2⟩)]

set_option maxRecDepth 20000 in
theorem vc_X3_shrink_76 (l : Int) (M : ab_M) (K : List ab_V → ab_M → Prop) (hS : ((0 ≤ l ∧ l < M 26 8) ∧ vl_T M ∧ tv_ok M ∧ gc_A M ∧ (M 769 3 = 0 ∨ M 769 3 = 1 ∧ vl_V M M (M 26 11)) ∧ ∀ k : Nat, 33280 ≤ k → M 774 k = 0) ∧ (∀ rx : Int, ∀ Mx : ab_M, (sh_P M Mx l.toNat rx) → K [Xi rx] Mx)) (n : Nat) (l1 : Int) (s4 : Nat) (be : Int) (ro : Int) (n5 : Int) (M1 : ab_M) (hI : n = (300 - n5).toNat ∧ l = l1 ∧ s4 = 26 + 1 + 1 + 3 * (M 392 l.toNat).toNat ∧ be = (122 + l) * 256 ∧ 0 ≤ n5 ∧ n5 ≤ 257 ∧ n5 = ro ∧ sh_J M M1 l.toNat n5.toNat) : (-32768 ≤ (256 : Int) ∧ (256 : Int) < 32768) ∧ (ab_ir n5 ∧ ab_ir (256 : Int)) ∧ (((256 : Int) < n5 → K [Xi ro] M1) ∧ (n5 ≤ (256 : Int) → (ab_ir l1 ∧ M1 26 8 ≤ 4 ∧ 0 ≤ M1 26 8) ∧ (∀ r90 : Int, (r90 = if 0 ≤ l1 ∧ l1 < M1 26 8 then M1 392 l1.toNat else -1) → ((tv_ok M1 ∧ ts_p M1) ∧ (0 ≤ (r90 + (1 : Int)) ∧ (r90 + (1 : Int)) ≤ (M1 s4 14) + 1 ∧ (M1 s4 14) < M1 26 3) ∧ ab_ir (1 : Int) ∧ ∀ j, ab_ir (M1 774 j)) ∧ (∀ r100 : Int, ∀ M100 : ab_M, (sw_I M1 M100 (1 : Int) (sw_R M1 (r90 + (1 : Int)) (M1 s4 14) (1 : Int)) r100) → (r100 = 0 ∨ r100 = 1) → (tv_ok M100 ∧ s4 < 700 ∧ (∃ l : Nat, l < 4 ∧ be = (122 + (l : Int)) * 256) ∧ (0 ≤ M100 s4 17 ∧ M100 s4 17 < 130) ∧ (-1 ≤ M100 s4 2 ∧ M100 s4 2 ≤ 63) ∧ ∀ j, ab_ir (M100 774 j)) ∧ (∀ r107 : Int, ∀ M107 : ab_M, (rl_I M100 M107 s4 be r107 256) → (ab_ir r107) ∧ ((¬ r107 = 0 → (∃ n', n' < n ∧ ((n' = (300 - (n5 + 1)).toNat ∧ l = l1 ∧ s4 = 26 + 1 + 1 + 3 * (M 392 l.toNat).toNat ∧ be = (122 + l) * 256 ∧ 0 ≤ (n5 + 1) ∧ (n5 + 1) ≤ 257 ∧ (n5 + 1) = (ro + 1) ∧ sh_J M M107 l.toNat (n5 + 1).toNat)))) ∧ (r107 = 0 → K [Xi ro] M107))))))) := by
  obtain ⟨hn, q1, hs, hb, hk0, hk1, q2, hJ⟩ := hI
  subst q1
  subst q2
  obtain ⟨⟨gl, gT, gv, gA, gV, g0⟩, gK⟩ := hS
  obtain ⟨l, rfl⟩ : ∃ z : Nat, l = (z : Int) := ⟨l.toNat, by omega⟩
  have gL := gA.2.1
  have gp := gA.1
  have g3 := gL.1
  have g8 := gp.2.1
  obtain ⟨lr, y1, y2, y3, y4⟩ := gL.2.2.2.1 l gl.2
  have hts := gp.2.2.2.1 lr y1
  obtain ⟨t1, t2, t3, t4, t5, t6, t7, t8, t9, t10, t11⟩ := id hts
  have hlr700 : 26 + 1 + 1 + 3 * lr < 700 := by omega
  have e : (M 392 ((l : Int)).toNat).toNat = lr := by
    rw [show ((l : Int)).toNat = l from rfl, y2]
    rfl
  rw [e] at hs
  subst hs
  have hK := hJ.1
  have e3 : M1 26 3 = M 26 3 := hK.2.2.2 26 3 (by omega)
  have e8 : M1 26 8 = M 26 8 := hK.2.2.2 26 8 (by omega)
  have e392 : ∀ k, M1 392 k = M 392 k := fun k => hK.2.2.2 392 k (by omega)
  have es : ∀ k, M1 (26 + 1 + 1 + 3 * lr) k = M (26 + 1 + 1 + 3 * lr) k := fun k => hK.2.2.2 _ k (by omega)
  have hA1 := gc_A_fr hK.2.2.2.lo gA
  obtain ⟨l', -, -, -, hend⟩ := gL.2.2.1 lr y1 y3
  have hend2 := gL.2.2.2.2.2.1 lr y1
  have e14 := es 14
  have hT17 : 0 ≤ M (26 + 1 + 1 + 3 * lr) 17 ∧ M (26 + 1 + 1 + 3 * lr) 17 < 130 := by
    rcases (gL.2.1 lr y1).1 with z | z | z | ⟨l', q, z1, z2, -⟩
    · omega
    · omega
    · omega
    · omega
  have e2 : M1 392 ((l : Int)).toNat = (lr : Int) := by
    rw [show ((l : Int)).toNat = l from rfl, e392, y2]
  refine And.intro (by
    first
      | exact ⟨⟨gT, gv⟩, gV, g0⟩
      | omega
      | exact ⟨by omega, by omega⟩
      | (have e2 : M1 392 ((l : Int)).toNat = (lr : Int) := by
           rw [show ((l : Int)).toNat = l from rfl, e392, y2]
         refine ⟨by omega, by omega, by omega, fun _ => ?_, by omega, by omega⟩
         rw [e2]
         exact ⟨by omega, by omega⟩)
      | (rw [es]; exact ⟨⟨by omega, by omega⟩, hK.2.2.1⟩)
      | exact ⟨by decide, by decide⟩
      | exact ⟨⟨by omega, by omega⟩, by omega, by omega⟩
      | (split <;> exact ⟨by decide, by decide⟩)
      | (rcases hM107.2.2 with z | z <;> (have := z.1; exact ⟨by omega, by omega⟩))
      | (rw [hr90, if_pos ⟨by omega, by omega⟩, e2, e14]; exact ⟨⟨hK.2.2.1, hA1.1⟩, ⟨by omega, by omega, by omega⟩, ⟨by decide, by decide⟩, hJ.2.2.1⟩)
      | (refine ⟨ts_e_ok hM100.1.e hK.2.2.1, hlr700, ⟨l, by omega, hb⟩, ?_, ?_, hM100.2.2.2⟩
         · rw [hM100.1.e _ _ (by omega), es]; exact hT17
         · rw [hM100.1.e _ _ (by omega), es]; exact t5)) ?_
  refine And.intro (by
    first
      | exact ⟨⟨gT, gv⟩, gV, g0⟩
      | omega
      | exact ⟨by omega, by omega⟩
      | (have e2 : M1 392 ((l : Int)).toNat = (lr : Int) := by
           rw [show ((l : Int)).toNat = l from rfl, e392, y2]
         refine ⟨by omega, by omega, by omega, fun _ => ?_, by omega, by omega⟩
         rw [e2]
         exact ⟨by omega, by omega⟩)
      | (rw [es]; exact ⟨⟨by omega, by omega⟩, hK.2.2.1⟩)
      | exact ⟨by decide, by decide⟩
      | exact ⟨⟨by omega, by omega⟩, by omega, by omega⟩
      | (split <;> exact ⟨by decide, by decide⟩)
      | (rcases hM107.2.2 with z | z <;> (have := z.1; exact ⟨by omega, by omega⟩))
      | (rw [hr90, if_pos ⟨by omega, by omega⟩, e2, e14]; exact ⟨⟨hK.2.2.1, hA1.1⟩, ⟨by omega, by omega, by omega⟩, ⟨by decide, by decide⟩, hJ.2.2.1⟩)
      | (refine ⟨ts_e_ok hM100.1.e hK.2.2.1, hlr700, ⟨l, by omega, hb⟩, ?_, ?_, hM100.2.2.2⟩
         · rw [hM100.1.e _ _ (by omega), es]; exact hT17
         · rw [hM100.1.e _ _ (by omega), es]; exact t5)) ?_
  refine ⟨?_, ?_⟩
  · intro c81
    have hbd := hJ.2.2.2.2.2
    omega
  · intro c81
    refine And.intro (by
      first
        | exact ⟨⟨gT, gv⟩, gV, g0⟩
        | omega
        | exact ⟨by omega, by omega⟩
        | (have e2 : M1 392 ((l : Int)).toNat = (lr : Int) := by
             rw [show ((l : Int)).toNat = l from rfl, e392, y2]
           refine ⟨by omega, by omega, by omega, fun _ => ?_, by omega, by omega⟩
           rw [e2]
           exact ⟨by omega, by omega⟩)
        | (rw [es]; exact ⟨⟨by omega, by omega⟩, hK.2.2.1⟩)
        | exact ⟨by decide, by decide⟩
        | exact ⟨⟨by omega, by omega⟩, by omega, by omega⟩
        | (split <;> exact ⟨by decide, by decide⟩)
        | (rcases hM107.2.2 with z | z <;> (have := z.1; exact ⟨by omega, by omega⟩))
        | (rw [hr90, if_pos ⟨by omega, by omega⟩, e2, e14]; exact ⟨⟨hK.2.2.1, hA1.1⟩, ⟨by omega, by omega, by omega⟩, ⟨by decide, by decide⟩, hJ.2.2.1⟩)
        | (refine ⟨ts_e_ok hM100.1.e hK.2.2.1, hlr700, ⟨l, by omega, hb⟩, ?_, ?_, hM100.2.2.2⟩
           · rw [hM100.1.e _ _ (by omega), es]; exact hT17
           · rw [hM100.1.e _ _ (by omega), es]; exact t5)) ?_
    intro r90 hr90
    refine And.intro (by
      first
        | exact ⟨⟨gT, gv⟩, gV, g0⟩
        | omega
        | exact ⟨by omega, by omega⟩
        | (have e2 : M1 392 ((l : Int)).toNat = (lr : Int) := by
             rw [show ((l : Int)).toNat = l from rfl, e392, y2]
           refine ⟨by omega, by omega, by omega, fun _ => ?_, by omega, by omega⟩
           rw [e2]
           exact ⟨by omega, by omega⟩)
        | (rw [es]; exact ⟨⟨by omega, by omega⟩, hK.2.2.1⟩)
        | exact ⟨by decide, by decide⟩
        | exact ⟨⟨by omega, by omega⟩, by omega, by omega⟩
        | (split <;> exact ⟨by decide, by decide⟩)
        | (rcases hM107.2.2 with z | z <;> (have := z.1; exact ⟨by omega, by omega⟩))
        | (rw [hr90, if_pos ⟨by omega, by omega⟩, e2, e14]; exact ⟨⟨hK.2.2.1, hA1.1⟩, ⟨by omega, by omega, by omega⟩, ⟨by decide, by decide⟩, hJ.2.2.1⟩)
        | (refine ⟨ts_e_ok hM100.1.e hK.2.2.1, hlr700, ⟨l, by omega, hb⟩, ?_, ?_, hM100.2.2.2⟩
           · rw [hM100.1.e _ _ (by omega), es]; exact hT17
           · rw [hM100.1.e _ _ (by omega), es]; exact t5)) ?_
    intro r100 M100 hM100 hr100
    refine And.intro (by
      first
        | exact ⟨⟨gT, gv⟩, gV, g0⟩
        | omega
        | exact ⟨by omega, by omega⟩
        | (have e2 : M1 392 ((l : Int)).toNat = (lr : Int) := by
             rw [show ((l : Int)).toNat = l from rfl, e392, y2]
           refine ⟨by omega, by omega, by omega, fun _ => ?_, by omega, by omega⟩
           rw [e2]
           exact ⟨by omega, by omega⟩)
        | (rw [es]; exact ⟨⟨by omega, by omega⟩, hK.2.2.1⟩)
        | exact ⟨by decide, by decide⟩
        | exact ⟨⟨by omega, by omega⟩, by omega, by omega⟩
        | (split <;> exact ⟨by decide, by decide⟩)
        | (rcases hM107.2.2 with z | z <;> (have := z.1; exact ⟨by omega, by omega⟩))
        | (rw [hr90, if_pos ⟨by omega, by omega⟩, e2, e14]; exact ⟨⟨hK.2.2.1, hA1.1⟩, ⟨by omega, by omega, by omega⟩, ⟨by decide, by decide⟩, hJ.2.2.1⟩)
        | (refine ⟨ts_e_ok hM100.1.e hK.2.2.1, hlr700, ⟨l, by omega, hb⟩, ?_, ?_, hM100.2.2.2⟩
           · rw [hM100.1.e _ _ (by omega), es]; exact hT17
           · rw [hM100.1.e _ _ (by omega), es]; exact t5)) ?_
    intro r107 M107 hM107
    refine And.intro (by
      first
        | exact ⟨⟨gT, gv⟩, gV, g0⟩
        | omega
        | exact ⟨by omega, by omega⟩
        | (have e2 : M1 392 ((l : Int)).toNat = (lr : Int) := by
             rw [show ((l : Int)).toNat = l from rfl, e392, y2]
           refine ⟨by omega, by omega, by omega, fun _ => ?_, by omega, by omega⟩
           rw [e2]
           exact ⟨by omega, by omega⟩)
        | (rw [es]; exact ⟨⟨by omega, by omega⟩, hK.2.2.1⟩)
        | exact ⟨by decide, by decide⟩
        | exact ⟨⟨by omega, by omega⟩, by omega, by omega⟩
        | (split <;> exact ⟨by decide, by decide⟩)
        | (rcases hM107.2.2 with z | z <;> (have := z.1; exact ⟨by omega, by omega⟩))
        | (rw [hr90, if_pos ⟨by omega, by omega⟩, e2, e14]; exact ⟨⟨hK.2.2.1, hA1.1⟩, ⟨by omega, by omega, by omega⟩, ⟨by decide, by decide⟩, hJ.2.2.1⟩)
        | (refine ⟨ts_e_ok hM100.1.e hK.2.2.1, hlr700, ⟨l, by omega, hb⟩, ?_, ?_, hM100.2.2.2⟩
           · rw [hM100.1.e _ _ (by omega), es]; exact hT17
           · rw [hM100.1.e _ _ (by omega), es]; exact t5)) ?_
    refine ⟨?_, ?_⟩
    · intro c110
      have e : (M 392 ((l : Int)).toNat).toNat = lr := by
        rw [show ((l : Int)).toNat = l from rfl, y2]
        rfl
      have hS100 : sw_I M1 M100 1 (sw_R M1 ((lr + 1 : Nat) : Int) (M1 (26 + 1 + 1 + 3 * lr) 14) 1) r100 := by
        rw [hr90, if_pos ⟨by omega, by omega⟩, e2] at hM100
        exact hM100
      have hbe : be = ((122 + l : Nat) : Int) * 256 := by omega
      rw [hbe] at hM107
      obtain ⟨z0, z1, z2⟩ := sh_round gA gl.2 y2 hJ hS100 hM107
      refine ⟨_, ?_, rfl, rfl, ?_, by omega, by omega, by omega, rfl, ?_⟩
      · omega
      · rw [e]
      · rw [show (n5 + 1).toNat = n5.toNat + 1 by omega]
        exact z1 (z0.resolve_left (by assumption))
    · intro c110
      have hS100 : sw_I M1 M100 1 (sw_R M1 ((lr + 1 : Nat) : Int) (M1 (26 + 1 + 1 + 3 * lr) 14) 1) r100 := by
        rw [hr90, if_pos ⟨by omega, by omega⟩, e2] at hM100
        exact hM100
      have hbe : be = ((122 + l : Nat) : Int) * 256 := by omega
      rw [hbe] at hM107
      obtain ⟨z0, z1, z2⟩ := sh_round gA gl.2 y2 hJ hS100 hM107
      refine gK _ _ ?_
      rw [show n5 = ((n5.toNat : Nat) : Int) by omega]
      exact z2 (by assumption)

set_option maxRecDepth 20000 in
set_option maxHeartbeats 1000000 in
theorem ok_X3_shrink (E : ab_E) : ab_Ok E 7 56 S_X3_shrink := by
  refine ab_mk rq_X3_shrink tk_X3_shrink (rt := 1) (rfl) (cuts := [25, 76]) (G := [(24, S_X1_loopRow), (25, S_X1_loopStatement), (49, S_X3_clearNotes), (54, S_X3_removeLeaving), (59, S_X3_sweep), (81, S_X7_isTrue)]) (List.forall_mem_cons.mpr ⟨⟨1, by decide, ok_X1_loopRow E⟩, List.forall_mem_cons.mpr ⟨⟨2, by decide, ok_X1_loopStatement E⟩, List.forall_mem_cons.mpr ⟨⟨5, by decide, ok_X3_clearNotes E⟩, List.forall_mem_cons.mpr ⟨⟨2, by decide, ok_X3_removeLeaving E⟩, List.forall_mem_cons.mpr ⟨⟨6, by decide, ok_X3_sweep E⟩, List.forall_mem_cons.mpr ⟨⟨1, by decide, ok_X7_isTrue E⟩, fun _ h => absurd h List.not_mem_nil⟩⟩⟩⟩⟩⟩) (by decide) 116 rfl ?_
  intro a M K wd wa hS
  unfold S_X3_shrink at hS
  split at hS
  ·
    rename_i l
    refine ⟨Nat.le_of_ble_eq_true rfl, fun pc n L st M1 => match pc, L, st with
      | 25, [.inr (.inr (.inr (768, 3, 0))), .inr (.inl l1), .inr (.inr (.inr (s4, 4, 0))), .inr (.inl be), .inr (.inl k), u6_], [] => (n = 1000 + (256 - k).toNat ∧ l = l1 ∧ s4 = 26 + 1 + 1 + 3 * (M 392 l.toNat).toNat ∧ be = (122 + l) * 256 ∧ 0 ≤ k ∧ k ≤ 256 ∧ se_K M M1 ∧ M1 774 = sh_0 M1 l.toNat (M1 s4 3) k.toNat)
      | 76, [.inr (.inr (.inr (768, 3, 0))), .inr (.inl l1), .inr (.inr (.inr (s4, 4, 0))), .inr (.inl be), .inr (.inl ro), .inr (.inl n5)], [] => (n = (300 - n5).toNat ∧ l = l1 ∧ s4 = 26 + 1 + 1 + 3 * (M 392 l.toNat).toNat ∧ be = (122 + l) * 256 ∧ 0 ≤ n5 ∧ n5 ≤ 257 ∧ n5 = ro ∧ sh_J M M1 l.toNat n5.toNat)
      | _, _, _ => False, ?_, ?_⟩
    · exact vc_X3_shrink_0 l M K  hS
    · intro pc n L st M1 hI wd1 wL wst
      (try dsimp only at hI)
      split at hI
      ·
        rename_i l1 s4 be k u6_
        exact vc_X3_shrink_25 l M K  hS n l1 s4 be k _ hI
      ·
        rename_i l1 s4 be ro n5
        exact vc_X3_shrink_76 l M K  hS n l1 s4 be ro n5 _ hI
      · exact hI.elim
  · exact hS.elim
