/-! what is known of runs -/
/-- how many of the first states make a term true -/
def tv_n (M : ab_M) (t : Int) : Nat → Int
  | 0 => 0
  | k + 1 => tv_n M t k + if tv M t ((k : Nat) : Int) = 0 then 0 else 1
/-- what is asked of the class's caches -/
def cv_P (M : ab_M) : Prop := vl_T M ∧ tv_ok M ∧ gc_A M ∧ (M 769 3 = 0 ∨ M 769 3 = 1 ∧ vl_V M M (M 26 11)) ∧ ab_ir (M 775 9) ∧ (M 775 9 = -1 ∨ ∀ j : Nat, (j / 256 = 120 ∨ j / 256 = 121) → M 776 j = 0 ∨ M 776 j = 1)
/-- nothing but the values changes -/
def vf_F (M M' : ab_M) : Prop := ∀ o' k' : Nat, ¬ (o' = 770 ∨ o' = 771 ∨ o' = 769 ∧ k' = 3) → M' o' k' = M o' k'
theorem vf_F.A {M M1 : ab_M} (h : vf_F M M1) (hA : gc_A M) : gc_A M1 := gc_A_fr (fun o k q => h o k (by omega)) hA
def se_K (M M1 : ab_M) : Prop := M1 769 3 = 1 ∧ vl_V M M1 (M 26 11) ∧ tv_ok M1
theorem se_K.e {M M1 M2 : ab_M} (h : se_K M M1) (h3 : M2 769 3 = M1 769 3) (h7 : ∀ k, M2 770 k = M1 770 k) : se_K M M2 := ⟨h3.trans h.1, fun k s a b => by rw [h7]; exact h.2.1 k s a b, h.2.2.fr h7⟩
/-- all is forgotten -/
def dr_P (M M' : ab_M) : Prop := M' 769 3 = 0 ∧ M' 775 9 = -1 ∧ M' 768 7 = 0 ∧ M' 768 8 = 0 ∧ (∀ l : Nat, l < 4 → M' 787 l = 0) ∧ ∀ o k : Nat, ¬ (o = 769 ∧ k = 3) → ¬ (o = 775 ∧ k = 9) → ¬ (o = 768 ∧ (k = 7 ∨ k = 8)) → o ≠ 787 → M' o k = M o k
def pr_F (M M' : ab_M) (c : Int) : Prop := ∀ o k : Nat, ¬ (o = 769 ∧ k = 3) → ¬ (770 ≤ o ∧ o ≤ 771) → ¬ (o = 772 ∧ k = 3) → ¬ (773 ≤ o ∧ o ≤ 774) → ¬ (o = 775 ∧ 7 ≤ k ∧ k ≤ 9) → ¬ (776 ≤ o ∧ o ≤ 779) → ¬ (o = 768 ∧ (k : Int) = 7 + c) → ¬ ((o : Int) = 785 + c) → M' o k = M o k
/-- what can happen is known -/
def pr_N (M M' : ab_M) (c : Int) : Prop := se_K M M' ∧ pr_F M M' c ∧ M' 768 (7 + c.toNat) = 1 ∧ (M' 775 9 = -1 ∨ (M' 775 9 = M 775 9 ∧ ∀ k, M' 776 k = M 776 k)) ∧ (M 768 (7 + c.toNat) = 1 → ∀ k, M' (785 + c.toNat) k = M (785 + c.toNat) k) ∧ (M 768 (7 + c.toNat) = 0 → ∃ M2, vf_F M M2 ∧ se_K M M2 ∧ fo_O M2 M' (785 + c.toNat) c 256)
def se_F (M M' : ab_M) : Prop := ∀ o k : Nat, ¬ (o = 769 ∧ k = 3) → ¬ (770 ≤ o ∧ o ≤ 771) → ¬ (o = 772 ∧ k = 3) → o ≠ 773 → ¬ (o = 775 ∧ 7 ≤ k ∧ k ≤ 9) → o ≠ 776 → o ≠ 779 → M' o k = M o k
/-- the places that can be reached from a state are marked -/
def se_P (M M' : ab_M) (cut zz : Int) : Prop := se_K M M' ∧ se_F M M' ∧ M' 775 9 = cut * 256 + zz ∧ (M 775 9 = cut * 256 + zz → ∀ k, M' 776 k = M 776 k) ∧ (¬ M 775 9 = cut * 256 + zz → ∀ j, gc_D M' cut j → (M' 776 j ≠ 0 ↔ ∃ n, gx_W (gc_S M' cut) (fun i => i = j) n (pr_s M' * 256 + zz.toNat))) ∧ ∀ j : Nat, (j / 256 = 120 ∨ j / 256 = 121) → M' 776 j = 0 ∨ M' 776 j = 1
theorem se_P.of {M M1 M2 : ab_M} {cut zz : Int} (hA : gc_A M) (h0 : 0 ≤ cut * 256 + zz) (h01 : M 775 9 = -1 ∨ ∀ j : Nat, (j / 256 = 120 ∨ j / 256 = 121) → M 776 j = 0 ∨ M 776 j = 1) (hK : se_K M M1) (hf : vf_F M M1) (h : (M1 775 9 = cut * 256 + zz → M2 = M1) ∧ (¬ M1 775 9 = cut * 256 + zz → wm_P M1 M2 cut zz)) : se_P M M2 cut zz := by
  have e9 : M1 775 9 = M 775 9 := hf 775 9 (by omega)
  have e76 : ∀ k, M1 776 k = M 776 k := fun k => hf 776 k (by omega)
  by_cases c : M1 775 9 = cut * 256 + zz
  · rw [h.1 c]
    refine ⟨hK, fun o k a b _ _ _ _ _ => hf o k (by omega), c, fun _ => e76, fun z => absurd (e9.symm.trans c) z, fun j hj => ?_⟩
    rw [e76]
    exact h01.resolve_left (fun z => by omega) j hj
  · obtain ⟨w1, w2, w3⟩ := h.2 c
    have hA1 := hf.A hA
    refine ⟨hK.e (w1 769 3 (by decide) (by decide) (by decide) (by decide) (by decide)) (fun k => w1 770 k (by decide) (by decide) (by decide) (by omega) (by omega)), fun o k a b d e f g i => (w1 o k e g i d f).trans (hf o k (by omega)), w2, fun z => absurd (e9.trans z) c, fun _ j hj => ?_, fun j hj => (w3 j (hj.imp id fun z => Or.inl z)).1⟩
    rw [gc_D_fr w1.e] at hj
    rw [(gc_fr w1.e hA1.1 cut).1, show pr_s M2 = pr_s M1 from by unfold pr_s; rw [w1.e.c 26 3 (by decide)]]
    exact (w3 j hj).2
theorem gx_W_ex {S : Nat → List Int} {P : Nat → Prop} : ∀ {n j : Nat}, gx_W S P n j → ∃ i, P i ∧ gx_W S (fun x => x = i) n j
  | 0, j, h => ⟨j, h, rfl⟩
  | n + 1, j, h => by
    rcases h with h | ⟨q, q1, q2⟩
    · exact ⟨j, h, Or.inl rfl⟩
    · obtain ⟨i, i1, i2⟩ := gx_W_ex q2
      exact ⟨i, i1, Or.inr ⟨q, q1, i2⟩⟩
/-- the states that are out are those that are not kept -/
theorem nd_sh {M M1 : ab_M} {l lr : Nat} (hat : lp_at M (l : Int) = 26 + 1 + 1 + 3 * lr) (htv : ∀ t s, tv M1 t s = tv M t s) (he : ∀ x y : Nat, x < 256 → y < 256 → (nd_e M1 x y = true ↔ ¬ tv M (M (26 + 1 + 1 + 3 * lr) 2) (x : Int) = 0 ∧ fe_w M l lr x y)) : ∀ (i y : Nat), y < 256 → (nd_K M1 (M (26 + 1 + 1 + 3 * lr) 3) i y ↔ ¬ sh_k M l i y) := by
  intro i
  induction i with
  | zero =>
    intro y hy
    show tv M1 _ _ = 0 ↔ ¬ sh_k M l 0 y
    unfold sh_k
    rw [hat, htv]
    exact Decidable.not_not.symm
  | succ i ih =>
    intro y hy
    show (nd_K M1 _ i y ∨ ∃ z, z < 256 ∧ nd_e M1 y z = true ∧ nd_K M1 _ i z) ↔ ¬ sh_k M l (i + 1) y
    have hk : sh_k M l (i + 1) y ↔ sh_k M l i y ∧ ¬ (¬ tv M (M (26 + 1 + 1 + 3 * lr) 2) (y : Int) = 0 ∧ ∃ n, gx_W (gc_S M 1) (kp_t l (sh_k M l i)) n (M (26 + 1 + 1 + 3 * lr) 17 * 256 + (y : Int)).toNat) := by
      unfold sh_k
      rw [hat]
      exact Iff.rfl
    have hw : (∃ z, z < 256 ∧ nd_e M1 y z = true ∧ nd_K M1 (M (26 + 1 + 1 + 3 * lr) 3) i z) ↔ ¬ tv M (M (26 + 1 + 1 + 3 * lr) 2) (y : Int) = 0 ∧ ∃ n, gx_W (gc_S M 1) (kp_t l (sh_k M l i)) n (M (26 + 1 + 1 + 3 * lr) 17 * 256 + (y : Int)).toNat := by
      constructor
      · rintro ⟨z, z1, z2, z3⟩
        obtain ⟨e1, n, hn⟩ := (he y z hy z1).1 z2
        refine ⟨e1, n, gx_W_mono (fun j hj => ?_) hn⟩
        subst hj
        exact ⟨by omega, by rw [show ((122 + l) * 256 + z) % 256 = z by omega]; exact (ih z z1).1 z3⟩
      · rintro ⟨e1, n, hn⟩
        obtain ⟨j, j1, j2⟩ := gx_W_ex hn
        have hlt : j % 256 < 256 := Nat.mod_lt _ (by decide)
        refine ⟨j % 256, hlt, (he y _ hy hlt).2 ⟨e1, n, ?_⟩, (ih _ hlt).2 j1.2⟩
        rw [show (122 + l) * 256 + j % 256 = j by have := j1.1; omega]
        exact j2
    rw [hk, hw, ih y hy]
    constructor
    · rintro (z | z) q
      · exact z q.1
      · exact q.2 z
    · intro q
      by_cases c : sh_k M l i y
      · exact Or.inr (Classical.byContradiction fun z => q ⟨c, z⟩)
      · exact Or.inl c
/-- the greatest set that a loop keeps, and the rounds -/
def ks_P (M : ab_M) (l : Nat) : Prop := ∃ i : Nat, M 789 l = (i : Int) ∧ (∃ f : Nat → Bool, (∀ x, x < 256 → (f x = true ↔ sh_k M l i x)) ∧ M 788 l = ((gx_m f 256 : Nat) : Int)) ∧ (∀ k, k < i → ∃ x : Nat, x < 256 ∧ sh_k M l k x ∧ ¬ sh_k M l (k + 1) x) ∧ ∀ x : Nat, x < 256 → sh_k M l i x → sh_k M l (i + 1) x
def pl_F (M M' : ab_M) (l : Int) : Prop := ∀ o k : Nat, ¬ (o = 769 ∧ k = 3) → ¬ (770 ≤ o ∧ o ≤ 771) → ¬ (o = 772 ∧ k = 3) → ¬ (773 ≤ o ∧ o ≤ 774) → ¬ (782 ≤ o ∧ o ≤ 784) → ¬ (787 ≤ o ∧ o ≤ 789 ∧ (k : Int) = l) → M' o k = M o k
def pl_P (M M' : ab_M) (l : Int) : Prop := se_K M M' ∧ pl_F M M' l ∧ M' 787 l.toNat = 1 ∧ (M 787 l.toNat = 1 → M' 788 l.toNat = M 788 l.toNat ∧ M' 789 l.toNat = M 789 l.toNat) ∧ (M 787 l.toNat = 0 → ks_P M' l.toNat)
theorem ks_P.of {M M1 M2 M3 : ab_M} {l lr : Nat} {r : Int} (hA : gc_A M) (hl : (l : Int) < M 26 8) (hlr : M 392 l = (lr : Int)) (hlrn : (lr : Int) < M 26 3) (hf : fo_f 782 M M1) (hR : fe_R M M1 l lr 4) (hP : nd_P M1 M2 (M (26 + 1 + 1 + 3 * lr) 3) r) (he : ts_e M M3) (h9 : M3 789 l = r) (h8 : M3 788 l = ((gx_m (fun y => !nd_b M2 783 y) 256 : Nat) : Int)) : ks_P M3 l := by
  have hat : lp_at M (l : Int) = 26 + 1 + 1 + 3 * lr := lp_at_of hl hlr hlrn
  have hsh := nd_sh (M1 := M1) hat (fun t s => ts_e_tv (hf.e (by decide)) t s) (fun x y hx hy => by
    have := hR x (y / 64) (y % 64) hx (by omega) (Nat.mod_lt _ (by decide))
    rw [show 64 * (y / 64) + y % 64 = y by omega] at this
    exact this)
  have hk3 : ∀ i, sh_k M3 l i = sh_k M l i := fun i => sh_k_fr he hA l i
  obtain ⟨⟨i, i1, i2, i3, i4⟩, -⟩ := hP
  refine ⟨i, by rw [h9, i1], ⟨fun y => !nd_b M2 783 y, fun x hx => ?_, h8⟩, fun k hk => ?_, fun x hx q => ?_⟩
  · rw [hk3, Bool.not_eq_true', ← Bool.not_eq_true, i2 x hx, hsh i x hx]
    exact Classical.not_not
  · obtain ⟨y, y1, y2, y3⟩ := i3 k hk
    rw [hsh k y y1] at y2
    rw [hsh (k + 1) y y1] at y3
    rw [hk3, hk3]
    exact ⟨y, y1, Classical.not_not.1 y2, y3⟩
  · rw [hk3] at q ⊢
    refine Classical.byContradiction fun z => ?_
    exact (hsh i x hx).1 (i4 x hx ((hsh (i + 1) x hx).2 z)) q

def S_X3_drop : ab_PT := fun a M K => match a with
  | [.inr (.inr (.inr (768, 3, 0)))] => (True) ∧ (∀ Mx : ab_M, (dr_P M Mx) → K [] Mx)
  | _ => False
set_option maxRecDepth 20000 in
theorem vc_X3_drop_0  (M : ab_M) (K : List ab_V → ab_M → Prop) (hS : (True) ∧ (∀ Mx : ab_M, (dr_P M Mx) → K [] Mx)) : (True) ∧ (∀ M4 : ab_M, (M4 = ab_up M 769 3 0) → (True) ∧ (∀ M11 : ab_M, (M11 = ab_up M4 775 9 (-1)) → ((0 : Int) = 0 ∨ (0 : Int) = 1) ∧ ((0 : Int) = 0 ∨ (0 : Int) = 1) ∧ (∃ n', ((n' = (4 - (0 : Int)).toNat ∧ 0 ≤ (0 : Int) ∧ (0 : Int) ≤ 4 ∧ (ab_up (ab_up M11 768 7 (0 : Int)) 768 8 (0 : Int)) 769 3 = 0 ∧ (ab_up (ab_up M11 768 7 (0 : Int)) 768 8 (0 : Int)) 775 9 = -1 ∧ (ab_up (ab_up M11 768 7 (0 : Int)) 768 8 (0 : Int)) 768 7 = 0 ∧ (ab_up (ab_up M11 768 7 (0 : Int)) 768 8 (0 : Int)) 768 8 = 0 ∧ (∀ l : Nat, (l : Int) < (0 : Int) → (ab_up (ab_up M11 768 7 (0 : Int)) 768 8 (0 : Int)) 787 l = 0) ∧ ∀ o j : Nat, ¬ (o = 769 ∧ j = 3) → ¬ (o = 775 ∧ j = 9) → ¬ (o = 768 ∧ (j = 7 ∨ j = 8)) → o ≠ 787 → (ab_up (ab_up M11 768 7 (0 : Int)) 768 8 (0 : Int)) o j = M o j))))) := by
  obtain ⟨-, gK⟩ := hS
  refine And.intro trivial ?_
  intro M4 hM4
  refine And.intro trivial ?_
  intro M11 hM11
  refine And.intro (by
    first
      | omega
      | exact ⟨by omega, by omega⟩
      | exact ⟨⟨by omega, by omega⟩, by omega, by omega⟩
      | trivial
      | exact Or.inl rfl
      | exact ⟨⟨by omega, by omega⟩, Or.inl rfl⟩) ?_
  refine And.intro (by
    first
      | omega
      | exact ⟨by omega, by omega⟩
      | exact ⟨⟨by omega, by omega⟩, by omega, by omega⟩
      | trivial
      | exact Or.inl rfl
      | exact ⟨⟨by omega, by omega⟩, Or.inl rfl⟩) ?_
  subst hM11
  subst hM4
  refine ⟨_, rfl, by decide, by decide, ?_, ?_, ?_, ab_up_s, fun l hl => by omega, fun o j a b c d => ?_⟩
  · rw [ab_up_o (by decide), ab_up_o (by decide), ab_up_o (by decide), ab_up_s]
  · rw [ab_up_o (by decide), ab_up_o (by decide), ab_up_s]
  · rw [ab_up_k (by decide), ab_up_s]
  · rw [up_ne (by omega), up_ne (by omega), up_ne (by omega), up_ne (by omega)]

set_option maxRecDepth 20000 in
theorem vc_X3_drop_26  (M : ab_M) (K : List ab_V → ab_M → Prop) (hS : (True) ∧ (∀ Mx : ab_M, (dr_P M Mx) → K [] Mx)) (n : Nat) (k : Int) (M1 : ab_M) (hI : n = (4 - k).toNat ∧ 0 ≤ k ∧ k ≤ 4 ∧ M1 769 3 = 0 ∧ M1 775 9 = -1 ∧ M1 768 7 = 0 ∧ M1 768 8 = 0 ∧ (∀ l : Nat, (l : Int) < k → M1 787 l = 0) ∧ ∀ o j : Nat, ¬ (o = 769 ∧ j = 3) → ¬ (o = 775 ∧ j = 9) → ¬ (o = 768 ∧ (j = 7 ∨ j = 8)) → o ≠ 787 → M1 o j = M o j) : (ab_ir k ∧ ab_ir (4 : Int)) ∧ (((4 : Int) ≤ k → K [] M1) ∧ (k < (4 : Int) → ((0 ≤ k ∧ k < ((4 : Nat) : Int)) ∧ ((0 : Int) = 0 ∨ (0 : Int) = 1)) ∧ (∃ n', n' < n ∧ ((n' = (4 - (k + 1)).toNat ∧ 0 ≤ (k + 1) ∧ (k + 1) ≤ 4 ∧ (ab_up M1 787 k.toNat (0 : Int)) 769 3 = 0 ∧ (ab_up M1 787 k.toNat (0 : Int)) 775 9 = -1 ∧ (ab_up M1 787 k.toNat (0 : Int)) 768 7 = 0 ∧ (ab_up M1 787 k.toNat (0 : Int)) 768 8 = 0 ∧ (∀ l : Nat, (l : Int) < (k + 1) → (ab_up M1 787 k.toNat (0 : Int)) 787 l = 0) ∧ ∀ o j : Nat, ¬ (o = 769 ∧ j = 3) → ¬ (o = 775 ∧ j = 9) → ¬ (o = 768 ∧ (j = 7 ∨ j = 8)) → o ≠ 787 → (ab_up M1 787 k.toNat (0 : Int)) o j = M o j))))) := by
  obtain ⟨hn, hk0, hk1, h1, h2, h3, h4, h5, h6⟩ := hI
  obtain ⟨-, gK⟩ := hS
  refine And.intro (by
    first
      | omega
      | exact ⟨by omega, by omega⟩
      | exact ⟨⟨by omega, by omega⟩, by omega, by omega⟩
      | trivial
      | exact Or.inl rfl
      | exact ⟨⟨by omega, by omega⟩, Or.inl rfl⟩) ?_
  refine ⟨?_, ?_⟩
  · intro c28
    exact gK _ ⟨h1, h2, h3, h4, fun l hl => h5 l (by omega), h6⟩
  · intro c28
    refine And.intro (by
      first
        | omega
        | exact ⟨by omega, by omega⟩
        | exact ⟨⟨by omega, by omega⟩, by omega, by omega⟩
        | trivial
        | exact Or.inl rfl
        | exact ⟨⟨by omega, by omega⟩, Or.inl rfl⟩) ?_
    refine ⟨_, ?_, rfl, by omega, by omega, ?_, ?_, ?_, ?_, fun l hl => ?_, fun o j a b c d => ?_⟩
    · omega
    · rw [ab_up_o (by decide)]; exact h1
    · rw [ab_up_o (by decide)]; exact h2
    · rw [ab_up_o (by decide)]; exact h3
    · rw [ab_up_o (by decide)]; exact h4
    · by_cases e : (l : Int) = k
      · rw [show k.toNat = l by omega, ab_up_s]
      · rw [ab_up_k (by omega)]; exact h5 l (by omega)
    · rw [ab_up_o d]; exact h6 o j a b c d

set_option maxRecDepth 20000 in
set_option maxHeartbeats 1000000 in
theorem ok_X3_drop (E : ab_E) : ab_Ok E 2 48 S_X3_drop := by
  refine ab_mk rq_X3_drop tk_X3_drop (rt := 0) (rfl) (cuts := [26]) (G := [(207, S_X12_drop), (73, S_X7_drop)]) (List.forall_mem_cons.mpr ⟨⟨1, by decide, ok_X12_drop E⟩, List.forall_mem_cons.mpr ⟨⟨1, by decide, ok_X7_drop E⟩, fun _ h => absurd h List.not_mem_nil⟩⟩) (by decide) 75 rfl ?_
  intro a M K wd wa hS
  unfold S_X3_drop at hS
  split at hS
  ·
    refine ⟨Nat.le_of_ble_eq_true rfl, fun pc n L st M1 => match pc, L, st with
      | 26, [.inr (.inr (.inr (768, 3, 0))), .inr (.inl k)], [] => (n = (4 - k).toNat ∧ 0 ≤ k ∧ k ≤ 4 ∧ M1 769 3 = 0 ∧ M1 775 9 = -1 ∧ M1 768 7 = 0 ∧ M1 768 8 = 0 ∧ (∀ l : Nat, (l : Int) < k → M1 787 l = 0) ∧ ∀ o j : Nat, ¬ (o = 769 ∧ j = 3) → ¬ (o = 775 ∧ j = 9) → ¬ (o = 768 ∧ (j = 7 ∨ j = 8)) → o ≠ 787 → M1 o j = M o j)
      | _, _, _ => False, ?_, ?_⟩
    · exact vc_X3_drop_0  M K  hS
    · intro pc n L st M1 hI wd1 wL wst
      (try dsimp only at hI)
      split at hI
      ·
        rename_i k
        exact vc_X3_drop_26  M K  hS n k _ hI
      · exact hI.elim
  · exact hS.elim
def S_X3_statesWith : ab_PT := fun a M K => match a with
  | [.inr (.inr (.inr (768, 3, 0))), .inr (.inl t)] => (((vl_T M ∧ tv_ok M) ∧ (M 769 3 = 0 ∨ M 769 3 = 1 ∧ vl_V M M (M 26 11))) ∧ -1 ≤ t ∧ t ≤ 63) ∧ (∀ rx : Int, ∀ Mx : ab_M, (Mx 769 3 = 1 ∧ vl_V M Mx (M 26 11) ∧ tv_ok Mx ∧ (∀ o' k' : Nat, ¬ (o' = 770 ∨ o' = 771 ∨ o' = 769 ∧ k' = 3) → Mx o' k' = M o' k')) → (rx = tv_n Mx t 256) → K [Xi rx] Mx)
  | _ => False
set_option maxRecDepth 20000 in
theorem vc_X3_statesWith_0 (t : Int) (M : ab_M) (K : List ab_V → ab_M → Prop) (hS : (((vl_T M ∧ tv_ok M) ∧ (M 769 3 = 0 ∨ M 769 3 = 1 ∧ vl_V M M (M 26 11))) ∧ -1 ≤ t ∧ t ≤ 63) ∧ (∀ rx : Int, ∀ Mx : ab_M, (Mx 769 3 = 1 ∧ vl_V M Mx (M 26 11) ∧ tv_ok Mx ∧ (∀ o' k' : Nat, ¬ (o' = 770 ∨ o' = 771 ∨ o' = 769 ∧ k' = 3) → Mx o' k' = M o' k')) → (rx = tv_n Mx t 256) → K [Xi rx] Mx)) : ((vl_T M ∧ tv_ok M) ∧ (M 769 3 = 0 ∨ M 769 3 = 1 ∧ vl_V M M (M 26 11))) ∧ (∀ M4 : ab_M, (M4 769 3 = 1 ∧ vl_V M M4 (M 26 11) ∧ tv_ok M4 ∧ (∀ o' k' : Nat, ¬ (o' = 770 ∨ o' = 771 ∨ o' = 769 ∧ k' = 3) → M4 o' k' = M o' k')) → (∃ n', ((n' = (256 - (0 : Int)).toNat ∧ t = t ∧ 0 ≤ (0 : Int) ∧ (0 : Int) ≤ 256 ∧ (0 : Int) = tv_n M4 t (0 : Int).toNat ∧ M4 769 3 = 1 ∧ vl_V M M4 (M 26 11) ∧ tv_ok M4 ∧ (∀ o' k' : Nat, ¬ (o' = 770 ∨ o' = 771 ∨ o' = 769 ∧ k' = 3) → M4 o' k' = M o' k'))))) := by
  obtain ⟨⟨gp, g1, g2⟩, gK⟩ := hS
  refine And.intro (by
    first
      | exact gp
      | omega
      | exact ⟨by omega, by omega⟩
      | exact ⟨⟨by omega, by omega⟩, hv⟩
      | (split <;> exact ⟨by decide, by decide⟩)) ?_
  intro M4 hM4
  exact ⟨_, rfl, rfl, by decide, by decide, rfl, hM4⟩

set_option maxRecDepth 20000 in
theorem vc_X3_statesWith_11 (t : Int) (M : ab_M) (K : List ab_V → ab_M → Prop) (hS : (((vl_T M ∧ tv_ok M) ∧ (M 769 3 = 0 ∨ M 769 3 = 1 ∧ vl_V M M (M 26 11))) ∧ -1 ≤ t ∧ t ≤ 63) ∧ (∀ rx : Int, ∀ Mx : ab_M, (Mx 769 3 = 1 ∧ vl_V M Mx (M 26 11) ∧ tv_ok Mx ∧ (∀ o' k' : Nat, ¬ (o' = 770 ∨ o' = 771 ∨ o' = 769 ∧ k' = 3) → Mx o' k' = M o' k')) → (rx = tv_n Mx t 256) → K [Xi rx] Mx)) (n : Nat) (t1 : Int) (m : Int) (k : Int) (M1 : ab_M) (hI : n = (256 - k).toNat ∧ t = t1 ∧ 0 ≤ k ∧ k ≤ 256 ∧ m = tv_n M1 t k.toNat ∧ M1 769 3 = 1 ∧ vl_V M M1 (M 26 11) ∧ tv_ok M1 ∧ (∀ o' k' : Nat, ¬ (o' = 770 ∨ o' = 771 ∨ o' = 769 ∧ k' = 3) → M1 o' k' = M o' k')) : (-32768 ≤ (256 : Int) ∧ (256 : Int) < 32768) ∧ (ab_ir k ∧ ab_ir (256 : Int)) ∧ (((256 : Int) ≤ k → K [Xi m] M1) ∧ (k < (256 : Int) → (ab_ir (t1 * 256 + k) ∧ tv_ok M1) ∧ (∀ r24 : Int, (r24 = if ¬ tv M1 t1 k = 0 then 1 else 0) → (ab_ir r24) ∧ ((r24 = 0 → (∃ n', n' < n ∧ ((n' = (256 - (k + 1)).toNat ∧ t = t1 ∧ 0 ≤ (k + 1) ∧ (k + 1) ≤ 256 ∧ m = tv_n M1 t (k + 1).toNat ∧ M1 769 3 = 1 ∧ vl_V M M1 (M 26 11) ∧ tv_ok M1 ∧ (∀ o' k' : Nat, ¬ (o' = 770 ∨ o' = 771 ∨ o' = 769 ∧ k' = 3) → M1 o' k' = M o' k'))))) ∧ (¬ r24 = 0 → (∃ n', n' < n ∧ ((n' = (256 - (k + 1)).toNat ∧ t = t1 ∧ 0 ≤ (k + 1) ∧ (k + 1) ≤ 256 ∧ (m + 1) = tv_n M1 t (k + 1).toNat ∧ M1 769 3 = 1 ∧ vl_V M M1 (M 26 11) ∧ tv_ok M1 ∧ (∀ o' k' : Nat, ¬ (o' = 770 ∨ o' = 771 ∨ o' = 769 ∧ k' = 3) → M1 o' k' = M o' k'))))))))) := by
  obtain ⟨hn, q1, hk0, hk1, hm, hP⟩ := hI
  subst q1
  obtain ⟨⟨gp, g1, g2⟩, gK⟩ := hS
  have hv := hP.2.2.1
  refine And.intro (by
    first
      | exact gp
      | omega
      | exact ⟨by omega, by omega⟩
      | exact ⟨⟨by omega, by omega⟩, hv⟩
      | (split <;> exact ⟨by decide, by decide⟩)) ?_
  refine And.intro (by
    first
      | exact gp
      | omega
      | exact ⟨by omega, by omega⟩
      | exact ⟨⟨by omega, by omega⟩, hv⟩
      | (split <;> exact ⟨by decide, by decide⟩)) ?_
  refine ⟨?_, ?_⟩
  · intro c15
    rw [show k.toNat = 256 by omega] at hm
    exact gK _ _ hP hm
  · intro c15
    refine And.intro (by
      first
        | exact gp
        | omega
        | exact ⟨by omega, by omega⟩
        | exact ⟨⟨by omega, by omega⟩, hv⟩
        | (split <;> exact ⟨by decide, by decide⟩)) ?_
    intro r24 hr24
    refine And.intro (by
      first
        | exact gp
        | omega
        | exact ⟨by omega, by omega⟩
        | exact ⟨⟨by omega, by omega⟩, hv⟩
        | (split <;> exact ⟨by decide, by decide⟩)) ?_
    refine ⟨?_, ?_⟩
    · intro c27
      rw [hr24] at c27
      rw [ab_bf] at c27
      clear hr24 r24
      refine ⟨_, by omega, rfl, rfl, by omega, by omega, ?_, hP⟩
      rw [show (k + 1).toNat = k.toNat + 1 by omega]
      show _ = tv_n M1 t k.toNat + if tv M1 t ((k.toNat : Nat) : Int) = 0 then 0 else 1
      rw [show ((k.toNat : Nat) : Int) = k by omega, hm]
      first
        | (rw [if_neg (by assumption)]; done)
        | (rw [if_pos (Decidable.not_not.1 (by assumption)), Int.add_zero]; done)
    · intro c27
      rw [hr24] at c27
      rw [ab_bt] at c27
      clear hr24 r24
      refine ⟨_, by omega, rfl, rfl, by omega, by omega, ?_, hP⟩
      rw [show (k + 1).toNat = k.toNat + 1 by omega]
      show _ = tv_n M1 t k.toNat + if tv M1 t ((k.toNat : Nat) : Int) = 0 then 0 else 1
      rw [show ((k.toNat : Nat) : Int) = k by omega, hm]
      first
        | (rw [if_neg (by assumption)]; done)
        | (rw [if_pos (Decidable.not_not.1 (by assumption)), Int.add_zero]; done)

set_option maxRecDepth 20000 in
set_option maxHeartbeats 1000000 in
theorem ok_X3_statesWith (E : ab_E) : ab_Ok E 5 53 S_X3_statesWith := by
  refine ab_mk rq_X3_statesWith tk_X3_statesWith (rt := 1) (rfl) (cuts := [11]) (G := [(75, S_X7_isTrue), (78, S_X7_prepare)]) (List.forall_mem_cons.mpr ⟨⟨1, by decide, ok_X7_isTrue E⟩, List.forall_mem_cons.mpr ⟨⟨4, by decide, ok_X7_prepare E⟩, fun _ h => absurd h List.not_mem_nil⟩⟩) (by decide) 71 rfl ?_
  intro a M K wd wa hS
  unfold S_X3_statesWith at hS
  split at hS
  ·
    rename_i t
    refine ⟨Nat.le_of_ble_eq_true rfl, fun pc n L st M1 => match pc, L, st with
      | 11, [.inr (.inr (.inr (768, 3, 0))), .inr (.inl t1), .inr (.inl m), .inr (.inl k)], [] => (n = (256 - k).toNat ∧ t = t1 ∧ 0 ≤ k ∧ k ≤ 256 ∧ m = tv_n M1 t k.toNat ∧ M1 769 3 = 1 ∧ vl_V M M1 (M 26 11) ∧ tv_ok M1 ∧ (∀ o' k' : Nat, ¬ (o' = 770 ∨ o' = 771 ∨ o' = 769 ∧ k' = 3) → M1 o' k' = M o' k'))
      | _, _, _ => False, ?_, ?_⟩
    · exact vc_X3_statesWith_0 t M K  hS
    · intro pc n L st M1 hI wd1 wL wst
      (try dsimp only at hI)
      split at hI
      ·
        rename_i t1 m k
        exact vc_X3_statesWith_11 t M K  hS n t1 m k _ hI
      · exact hI.elim
  · exact hS.elim
def S_X3_can : ab_PT := fun a M K => match a with
  | [.inr (.inr (.inr (768, 3, 0))), .inr (.inl cut), .inr (.inl zz), .inr (.inl bit)] => ((cut = 0 ∨ cut = 1) ∧ 0 ≤ zz ∧ zz ≤ 255) ∧ (∀ rx : Int, (rx = if ¬ ab_and (M (785 + cut.toNat) zz.toNat) (ab_shl 1 bit) = 0 then 1 else 0) → K [Xi rx] M)
  | _ => False
set_option maxRecDepth 20000 in
theorem vc_X3_can_0 (cut : Int) (zz : Int) (bit : Int) (M : ab_M) (K : List ab_V → ab_M → Prop) (hS : ((cut = 0 ∨ cut = 1) ∧ 0 ≤ zz ∧ zz ≤ 255) ∧ (∀ rx : Int, (rx = if ¬ ab_and (M (785 + cut.toNat) zz.toNat) (ab_shl 1 bit) = 0 then 1 else 0) → K [Xi rx] M)) : (ab_ir cut) ∧ ((¬ cut = 0 → (ab_ir zz) ∧ ((zz < 0 → ((0 : Int) = 0 ∨ (0 : Int) = 1) ∧ K [Xi (0 : Int)] M) ∧ (0 ≤ zz → (-32768 ≤ (256 : Int) ∧ (256 : Int) < 32768) ∧ (ab_ir zz ∧ ab_ir (256 : Int)) ∧ (((256 : Int) ≤ zz → ((0 : Int) = 0 ∨ (0 : Int) = 1) ∧ K [Xi (0 : Int)] M) ∧ (zz < (256 : Int) → (0 ≤ zz ∧ zz < ((256 : Nat) : Int)) ∧ (ab_ir (ab_and (M 786 zz.toNat) (ab_shl (1 : Int) bit))) ∧ (((ab_and (M 786 zz.toNat) (ab_shl (1 : Int) bit)) = 0 → ((0 : Int) = 0 ∨ (0 : Int) = 1) ∧ K [Xi (0 : Int)] M) ∧ (¬ (ab_and (M 786 zz.toNat) (ab_shl (1 : Int) bit)) = 0 → ((1 : Int) = 0 ∨ (1 : Int) = 1) ∧ K [Xi (1 : Int)] M))))))) ∧ (cut = 0 → (ab_ir zz) ∧ ((zz < 0 → ((0 : Int) = 0 ∨ (0 : Int) = 1) ∧ K [Xi (0 : Int)] M) ∧ (0 ≤ zz → (-32768 ≤ (256 : Int) ∧ (256 : Int) < 32768) ∧ (ab_ir zz ∧ ab_ir (256 : Int)) ∧ (((256 : Int) ≤ zz → ((0 : Int) = 0 ∨ (0 : Int) = 1) ∧ K [Xi (0 : Int)] M) ∧ (zz < (256 : Int) → (0 ≤ zz ∧ zz < ((256 : Nat) : Int)) ∧ (ab_ir (ab_and (M 785 zz.toNat) (ab_shl (1 : Int) bit))) ∧ (((ab_and (M 785 zz.toNat) (ab_shl (1 : Int) bit)) = 0 → ((0 : Int) = 0 ∨ (0 : Int) = 1) ∧ K [Xi (0 : Int)] M) ∧ (¬ (ab_and (M 785 zz.toNat) (ab_shl (1 : Int) bit)) = 0 → ((1 : Int) = 0 ∨ (1 : Int) = 1) ∧ K [Xi (1 : Int)] M)))))))) := by
  obtain ⟨⟨gc, g0, g1⟩, gK⟩ := hS
  refine And.intro (by
    first
      | omega
      | exact ⟨by omega, by omega⟩
      | exact ⟨⟨by omega, by omega⟩, by omega, by omega⟩
      | trivial
      | exact ab_and_ir _ _) ?_
  refine ⟨?_, ?_⟩
  · intro c1
    refine And.intro (by
      first
        | omega
        | exact ⟨by omega, by omega⟩
        | exact ⟨⟨by omega, by omega⟩, by omega, by omega⟩
        | trivial
        | exact ab_and_ir _ _) ?_
    refine ⟨?_, ?_⟩
    · intro c18
      refine And.intro (by
        first
          | omega
          | exact ⟨by omega, by omega⟩
          | exact ⟨⟨by omega, by omega⟩, by omega, by omega⟩
          | trivial
          | exact ab_and_ir _ _) ?_
      refine gK _ ?_
      first
        | (exfalso; omega)
        | (rw [show (785 + cut.toNat) = 785 by omega]
           first
             | (rw [if_pos (by assumption)]; done)
             | (rw [if_neg (fun q => q (by assumption))]; done))
        | (rw [show (785 + cut.toNat) = 786 by omega]
           first
             | (rw [if_pos (by assumption)]; done)
             | (rw [if_neg (fun q => q (by assumption))]; done))
    · intro c18
      refine And.intro (by
        first
          | omega
          | exact ⟨by omega, by omega⟩
          | exact ⟨⟨by omega, by omega⟩, by omega, by omega⟩
          | trivial
          | exact ab_and_ir _ _) ?_
      refine And.intro (by
        first
          | omega
          | exact ⟨by omega, by omega⟩
          | exact ⟨⟨by omega, by omega⟩, by omega, by omega⟩
          | trivial
          | exact ab_and_ir _ _) ?_
      refine ⟨?_, ?_⟩
      · intro c25
        refine And.intro (by
          first
            | omega
            | exact ⟨by omega, by omega⟩
            | exact ⟨⟨by omega, by omega⟩, by omega, by omega⟩
            | trivial
            | exact ab_and_ir _ _) ?_
        refine gK _ ?_
        first
          | (exfalso; omega)
          | (rw [show (785 + cut.toNat) = 785 by omega]
             first
               | (rw [if_pos (by assumption)]; done)
               | (rw [if_neg (fun q => q (by assumption))]; done))
          | (rw [show (785 + cut.toNat) = 786 by omega]
             first
               | (rw [if_pos (by assumption)]; done)
               | (rw [if_neg (fun q => q (by assumption))]; done))
      · intro c25
        refine And.intro (by
          first
            | omega
            | exact ⟨by omega, by omega⟩
            | exact ⟨⟨by omega, by omega⟩, by omega, by omega⟩
            | trivial
            | exact ab_and_ir _ _) ?_
        refine And.intro (by
          first
            | omega
            | exact ⟨by omega, by omega⟩
            | exact ⟨⟨by omega, by omega⟩, by omega, by omega⟩
            | trivial
            | exact ab_and_ir _ _) ?_
        refine ⟨?_, ?_⟩
        · intro c36
          refine And.intro (by
            first
              | omega
              | exact ⟨by omega, by omega⟩
              | exact ⟨⟨by omega, by omega⟩, by omega, by omega⟩
              | trivial
              | exact ab_and_ir _ _) ?_
          refine gK _ ?_
          first
            | (exfalso; omega)
            | (rw [show (785 + cut.toNat) = 785 by omega]
               first
                 | (rw [if_pos (by assumption)]; done)
                 | (rw [if_neg (fun q => q (by assumption))]; done))
            | (rw [show (785 + cut.toNat) = 786 by omega]
               first
                 | (rw [if_pos (by assumption)]; done)
                 | (rw [if_neg (fun q => q (by assumption))]; done))
        · intro c36
          refine And.intro (by
            first
              | omega
              | exact ⟨by omega, by omega⟩
              | exact ⟨⟨by omega, by omega⟩, by omega, by omega⟩
              | trivial
              | exact ab_and_ir _ _) ?_
          refine gK _ ?_
          first
            | (exfalso; omega)
            | (rw [show (785 + cut.toNat) = 785 by omega]
               first
                 | (rw [if_pos (by assumption)]; done)
                 | (rw [if_neg (fun q => q (by assumption))]; done))
            | (rw [show (785 + cut.toNat) = 786 by omega]
               first
                 | (rw [if_pos (by assumption)]; done)
                 | (rw [if_neg (fun q => q (by assumption))]; done))
  · intro c1
    refine And.intro (by
      first
        | omega
        | exact ⟨by omega, by omega⟩
        | exact ⟨⟨by omega, by omega⟩, by omega, by omega⟩
        | trivial
        | exact ab_and_ir _ _) ?_
    refine ⟨?_, ?_⟩
    · intro c18
      refine And.intro (by
        first
          | omega
          | exact ⟨by omega, by omega⟩
          | exact ⟨⟨by omega, by omega⟩, by omega, by omega⟩
          | trivial
          | exact ab_and_ir _ _) ?_
      refine gK _ ?_
      first
        | (exfalso; omega)
        | (rw [show (785 + cut.toNat) = 785 by omega]
           first
             | (rw [if_pos (by assumption)]; done)
             | (rw [if_neg (fun q => q (by assumption))]; done))
        | (rw [show (785 + cut.toNat) = 786 by omega]
           first
             | (rw [if_pos (by assumption)]; done)
             | (rw [if_neg (fun q => q (by assumption))]; done))
    · intro c18
      refine And.intro (by
        first
          | omega
          | exact ⟨by omega, by omega⟩
          | exact ⟨⟨by omega, by omega⟩, by omega, by omega⟩
          | trivial
          | exact ab_and_ir _ _) ?_
      refine And.intro (by
        first
          | omega
          | exact ⟨by omega, by omega⟩
          | exact ⟨⟨by omega, by omega⟩, by omega, by omega⟩
          | trivial
          | exact ab_and_ir _ _) ?_
      refine ⟨?_, ?_⟩
      · intro c25
        refine And.intro (by
          first
            | omega
            | exact ⟨by omega, by omega⟩
            | exact ⟨⟨by omega, by omega⟩, by omega, by omega⟩
            | trivial
            | exact ab_and_ir _ _) ?_
        refine gK _ ?_
        first
          | (exfalso; omega)
          | (rw [show (785 + cut.toNat) = 785 by omega]
             first
               | (rw [if_pos (by assumption)]; done)
               | (rw [if_neg (fun q => q (by assumption))]; done))
          | (rw [show (785 + cut.toNat) = 786 by omega]
             first
               | (rw [if_pos (by assumption)]; done)
               | (rw [if_neg (fun q => q (by assumption))]; done))
      · intro c25
        refine And.intro (by
          first
            | omega
            | exact ⟨by omega, by omega⟩
            | exact ⟨⟨by omega, by omega⟩, by omega, by omega⟩
            | trivial
            | exact ab_and_ir _ _) ?_
        refine And.intro (by
          first
            | omega
            | exact ⟨by omega, by omega⟩
            | exact ⟨⟨by omega, by omega⟩, by omega, by omega⟩
            | trivial
            | exact ab_and_ir _ _) ?_
        refine ⟨?_, ?_⟩
        · intro c36
          refine And.intro (by
            first
              | omega
              | exact ⟨by omega, by omega⟩
              | exact ⟨⟨by omega, by omega⟩, by omega, by omega⟩
              | trivial
              | exact ab_and_ir _ _) ?_
          refine gK _ ?_
          first
            | (exfalso; omega)
            | (rw [show (785 + cut.toNat) = 785 by omega]
               first
                 | (rw [if_pos (by assumption)]; done)
                 | (rw [if_neg (fun q => q (by assumption))]; done))
            | (rw [show (785 + cut.toNat) = 786 by omega]
               first
                 | (rw [if_pos (by assumption)]; done)
                 | (rw [if_neg (fun q => q (by assumption))]; done))
        · intro c36
          refine And.intro (by
            first
              | omega
              | exact ⟨by omega, by omega⟩
              | exact ⟨⟨by omega, by omega⟩, by omega, by omega⟩
              | trivial
              | exact ab_and_ir _ _) ?_
          refine gK _ ?_
          first
            | (exfalso; omega)
            | (rw [show (785 + cut.toNat) = 785 by omega]
               first
                 | (rw [if_pos (by assumption)]; done)
                 | (rw [if_neg (fun q => q (by assumption))]; done))
            | (rw [show (785 + cut.toNat) = 786 by omega]
               first
                 | (rw [if_pos (by assumption)]; done)
                 | (rw [if_neg (fun q => q (by assumption))]; done))

set_option maxRecDepth 20000 in
set_option maxHeartbeats 1000000 in
theorem ok_X3_can (E : ab_E) : ab_Ok E 1 47 S_X3_can := by
  refine ab_mk rq_X3_can tk_X3_can (rt := 2) (rfl) (cuts := []) (G := []) (fun g hg => by cases hg) (by decide) 75 rfl ?_
  intro a M K wd wa hS
  unfold S_X3_can at hS
  split at hS
  ·
    rename_i cut zz bit
    refine ⟨Nat.le_of_ble_eq_true rfl, fun _ _ _ _ _ => False, ?_, ?_⟩
    · exact vc_X3_can_0 cut zz bit M K  hS
    · exact fun _ _ _ _ _ h => h.elim
  · exact hS.elim
def S_X3_isReached : ab_PT := fun a M K => match a with
  | [.inr (.inr (.inr (768, 3, 0))), .inr (.inl row), .inr (.inl s)] => ((0 ≤ row * 256 + s ∧ row * 256 + s < 33280) ∧ ab_ir (M 776 (row * 256 + s).toNat)) ∧ (∀ rx : Int, (rx = if ¬ M 776 (row * 256 + s).toNat = 0 then 1 else 0) → K [Xi rx] M)
  | _ => False
set_option maxRecDepth 20000 in
theorem vc_X3_isReached_0 (row : Int) (s : Int) (M : ab_M) (K : List ab_V → ab_M → Prop) (hS : ((0 ≤ row * 256 + s ∧ row * 256 + s < 33280) ∧ ab_ir (M 776 (row * 256 + s).toNat)) ∧ (∀ rx : Int, (rx = if ¬ M 776 (row * 256 + s).toNat = 0 then 1 else 0) → K [Xi rx] M)) : ((0 ≤ row * 256 + s ∧ row * 256 + s < 33280) ∧ ab_ir (M 776 (row * 256 + s).toNat)) ∧ (∀ r6 : Int, (r6 = if ¬ M 776 (row * 256 + s).toNat = 0 then 1 else 0) → (r6 = 0 ∨ r6 = 1) ∧ K [Xi r6] M) := by
  obtain ⟨g, gK⟩ := hS
  refine And.intro (by
    first
      | exact g
      | (rw [hr6]; split <;> first | exact Or.inl rfl | exact Or.inr rfl)) ?_
  intro r6 hr6
  refine And.intro (by
    first
      | exact g
      | (rw [hr6]; split <;> first | exact Or.inl rfl | exact Or.inr rfl)) ?_
  exact gK _ hr6

set_option maxRecDepth 20000 in
set_option maxHeartbeats 1000000 in
theorem ok_X3_isReached (E : ab_E) : ab_Ok E 2 49 S_X3_isReached := by
  refine ab_mk rq_X3_isReached tk_X3_isReached (rt := 2) (rfl) (cuts := []) (G := [(212, S_X12_isMarked)]) (List.forall_mem_cons.mpr ⟨⟨1, by decide, ok_X12_isMarked E⟩, fun _ h => absurd h List.not_mem_nil⟩) (by decide) 56 rfl ?_
  intro a M K wd wa hS
  unfold S_X3_isReached at hS
  split at hS
  ·
    rename_i row s
    refine ⟨Nat.le_of_ble_eq_true rfl, fun _ _ _ _ _ => False, ?_, ?_⟩
    · exact vc_X3_isReached_0 row s M K  hS
    · exact fun _ _ _ _ _ h => h.elim
  · exact hS.elim
def S_X3_search : ab_PT := fun a M K => match a with
  | [.inr (.inr (.inr (768, 3, 0))), .inr (.inl cut), .inr (.inl zz)] => (cv_P M ∧ (cut = 0 ∨ cut = 1) ∧ 0 ≤ zz ∧ zz ≤ 255) ∧ (∀ Mx : ab_M, (se_P M Mx cut zz) → K [] Mx)
  | _ => False
set_option maxRecDepth 20000 in
theorem vc_X3_search_0 (cut : Int) (zz : Int) (M : ab_M) (K : List ab_V → ab_M → Prop) (hS : (cv_P M ∧ (cut = 0 ∨ cut = 1) ∧ 0 ≤ zz ∧ zz ≤ 255) ∧ (∀ Mx : ab_M, (se_P M Mx cut zz) → K [] Mx)) : ((vl_T M ∧ tv_ok M) ∧ (M 769 3 = 0 ∨ M 769 3 = 1 ∧ vl_V M M (M 26 11))) ∧ (∀ M4 : ab_M, (M4 769 3 = 1 ∧ vl_V M M4 (M 26 11) ∧ tv_ok M4 ∧ (∀ o' k' : Nat, ¬ (o' = 770 ∨ o' = 771 ∨ o' = 769 ∧ k' = 3) → M4 o' k' = M o' k')) → ((gc_A M4 ∧ tv_ok M4) ∧ (cut = 0 ∨ cut = 1) ∧ (0 ≤ zz ∧ zz ≤ 255) ∧ ab_ir (M4 775 9)) ∧ (∀ M13 : ab_M, ((M4 775 9 = cut * 256 + zz → M13 = M4) ∧ (¬ M4 775 9 = cut * 256 + zz → wm_P M4 M13 cut zz)) → K [] M13)) := by
  obtain ⟨⟨⟨gT, gv, gA, gV, g9, g01⟩, g⟩, gK⟩ := hS
  refine And.intro (by
    first
      | omega
      | exact ⟨by omega, by omega⟩
      | exact ⟨⟨by omega, by omega⟩, by omega, by omega⟩
      | trivial
      | exact ⟨⟨gT, gv⟩, gV⟩
      | exact ⟨⟨hA4, hM4.2.2.1⟩, g.1, g.2, by rw [hV 775 9 (by omega)]; exact g9⟩) ?_
  intro M4 hM4
  have hV : vf_F M M4 := hM4.2.2.2
  have hK : se_K M M4 := ⟨hM4.1, hM4.2.1, hM4.2.2.1⟩
  have hA4 := hV.A gA
  refine And.intro (by
    first
      | omega
      | exact ⟨by omega, by omega⟩
      | exact ⟨⟨by omega, by omega⟩, by omega, by omega⟩
      | trivial
      | exact ⟨⟨gT, gv⟩, gV⟩
      | exact ⟨⟨hA4, hM4.2.2.1⟩, g.1, g.2, by rw [hV 775 9 (by omega)]; exact g9⟩) ?_
  intro M13 hM13
  exact gK _ (se_P.of gA (by omega) g01 hK hV hM13)

set_option maxRecDepth 20000 in
set_option maxHeartbeats 1000000 in
theorem ok_X3_search (E : ab_E) : ab_Ok E 6 52 S_X3_search := by
  refine ab_mk rq_X3_search tk_X3_search (rt := 0) (rfl) (cuts := []) (G := [(213, S_X12_mark), (78, S_X7_prepare)]) (List.forall_mem_cons.mpr ⟨⟨5, by decide, ok_X12_mark E⟩, List.forall_mem_cons.mpr ⟨⟨4, by decide, ok_X7_prepare E⟩, fun _ h => absurd h List.not_mem_nil⟩⟩) (by decide) 59 rfl ?_
  intro a M K wd wa hS
  unfold S_X3_search at hS
  split at hS
  ·
    rename_i cut zz
    refine ⟨Nat.le_of_ble_eq_true rfl, fun _ _ _ _ _ => False, ?_, ?_⟩
    · exact vc_X3_search_0 cut zz M K  hS
    · exact fun _ _ _ _ _ h => h.elim
  · exact hS.elim
def S_X3_prepare : ab_PT := fun a M K => match a with
  | [.inr (.inr (.inr (768, 3, 0))), .inr (.inl cut)] => (cv_P M ∧ (cut = 0 ∨ cut = 1) ∧ (M 768 7 = 0 ∨ M 768 7 = 1) ∧ (M 768 8 = 0 ∨ M 768 8 = 1)) ∧ (∀ Mx : ab_M, (pr_N M Mx cut) → K [] Mx)
  | _ => False
set_option maxRecDepth 20000 in
theorem vc_X3_prepare_0 (cut : Int) (M : ab_M) (K : List ab_V → ab_M → Prop) (hS : (cv_P M ∧ (cut = 0 ∨ cut = 1) ∧ (M 768 7 = 0 ∨ M 768 7 = 1) ∧ (M 768 8 = 0 ∨ M 768 8 = 1)) ∧ (∀ Mx : ab_M, (pr_N M Mx cut) → K [] Mx)) : ((vl_T M ∧ tv_ok M) ∧ (M 769 3 = 0 ∨ M 769 3 = 1 ∧ vl_V M M (M 26 11))) ∧ (∀ M4 : ab_M, (M4 769 3 = 1 ∧ vl_V M M4 (M 26 11) ∧ tv_ok M4 ∧ (∀ o' k' : Nat, ¬ (o' = 770 ∨ o' = 771 ∨ o' = 769 ∧ k' = 3) → M4 o' k' = M o' k')) → (ab_ir cut) ∧ ((¬ cut = 0 → (ab_ir cut ∧ ab_ir (1 : Int)) ∧ ((¬ cut = (1 : Int) → K [] M4) ∧ (cut = (1 : Int) → (ab_ir (M4 768 8)) ∧ ((¬ (M4 768 8) = 0 → K [] M4) ∧ ((M4 768 8) = 0 → (gc_A M4 ∧ tv_ok M4) ∧ (∀ M54 : ab_M, (fo_f 786 M4 M54 ∧ fo_O M4 M54 786 1 256) → ((1 : Int) = 0 ∨ (1 : Int) = 1) ∧ K [] (ab_up M54 768 8 (1 : Int)))))))) ∧ (cut = 0 → (ab_ir (M4 768 7)) ∧ ((¬ (M4 768 7) = 0 → (ab_ir cut ∧ ab_ir (1 : Int)) ∧ ((¬ cut = (1 : Int) → K [] M4) ∧ (cut = (1 : Int) → (ab_ir (M4 768 8)) ∧ ((¬ (M4 768 8) = 0 → K [] M4) ∧ ((M4 768 8) = 0 → (gc_A M4 ∧ tv_ok M4) ∧ (∀ M54 : ab_M, (fo_f 786 M4 M54 ∧ fo_O M4 M54 786 1 256) → ((1 : Int) = 0 ∨ (1 : Int) = 1) ∧ K [] (ab_up M54 768 8 (1 : Int)))))))) ∧ ((M4 768 7) = 0 → (gc_A M4 ∧ tv_ok M4) ∧ (∀ M26 : ab_M, (wo_F M4 M26 ∧ M26 775 9 = -1 ∧ fo_O M4 M26 785 0 256) → ((1 : Int) = 0 ∨ (1 : Int) = 1) ∧ (ab_ir cut ∧ ab_ir (1 : Int)) ∧ ((¬ cut = (1 : Int) → K [] (ab_up M26 768 7 (1 : Int))) ∧ (cut = (1 : Int) → (ab_ir (M26 768 8)) ∧ ((¬ (M26 768 8) = 0 → K [] (ab_up M26 768 7 (1 : Int))) ∧ ((M26 768 8) = 0 → (gc_A (ab_up M26 768 7 (1 : Int)) ∧ tv_ok (ab_up M26 768 7 (1 : Int))) ∧ (∀ M54 : ab_M, (fo_f 786 (ab_up M26 768 7 (1 : Int)) M54 ∧ fo_O (ab_up M26 768 7 (1 : Int)) M54 786 1 256) → ((1 : Int) = 0 ∨ (1 : Int) = 1) ∧ K [] (ab_up M54 768 8 (1 : Int))))))))))))) := by
  obtain ⟨⟨⟨gT, gv, gA, gV, g9, g01⟩, gc, g7, g8⟩, gK⟩ := hS
  have hcr : ab_ir cut := by omega
  refine And.intro (by
    first
      | omega
      | exact ⟨by omega, by omega⟩
      | exact ⟨⟨by omega, by omega⟩, by omega, by omega⟩
      | trivial
      | exact ⟨⟨gT, gv⟩, gV⟩
      | exact hcr
      | exact ⟨hcr, by decide, by decide⟩
      | exact ⟨hA4, hM4.2.2.1⟩
      | (rw [ab_up_o (show 768 ≠ 768 from absurd rfl)]; omega)
      | exact Or.inr rfl) ?_
  intro M4 hM4
  have hV : vf_F M M4 := hM4.2.2.2
  have hK : se_K M M4 := ⟨hM4.1, hM4.2.1, hM4.2.2.1⟩
  have hA4 := hV.A gA
  have e7 : M4 768 7 = M 768 7 := hV 768 7 (by omega)
  have e8 : M4 768 8 = M 768 8 := hV 768 8 (by omega)
  refine And.intro (by
    first
      | omega
      | exact ⟨by omega, by omega⟩
      | exact ⟨⟨by omega, by omega⟩, by omega, by omega⟩
      | trivial
      | exact ⟨⟨gT, gv⟩, gV⟩
      | exact hcr
      | exact ⟨hcr, by decide, by decide⟩
      | exact ⟨hA4, hM4.2.2.1⟩
      | (rw [ab_up_o (show 768 ≠ 768 from absurd rfl)]; omega)
      | exact Or.inr rfl) ?_
  refine ⟨?_, ?_⟩
  · intro c8
    refine And.intro (by
      first
        | omega
        | exact ⟨by omega, by omega⟩
        | exact ⟨⟨by omega, by omega⟩, by omega, by omega⟩
        | trivial
        | exact ⟨⟨gT, gv⟩, gV⟩
        | exact hcr
        | exact ⟨hcr, by decide, by decide⟩
        | exact ⟨hA4, hM4.2.2.1⟩
        | (rw [ab_up_o (show 768 ≠ 768 from absurd rfl)]; omega)
        | exact Or.inr rfl) ?_
    refine ⟨?_, ?_⟩
    · intro c36
      exfalso
      omega
    · intro c36
      refine And.intro (by
        first
          | omega
          | exact ⟨by omega, by omega⟩
          | exact ⟨⟨by omega, by omega⟩, by omega, by omega⟩
          | trivial
          | exact ⟨⟨gT, gv⟩, gV⟩
          | exact hcr
          | exact ⟨hcr, by decide, by decide⟩
          | exact ⟨hA4, hM4.2.2.1⟩
          | (rw [ab_up_o (show 768 ≠ 768 from absurd rfl)]; omega)
          | exact Or.inr rfl) ?_
      refine ⟨?_, ?_⟩
      · intro c43
        have hc : cut = 1 := by omega
        subst hc
        refine gK _ ⟨hK, fun o k a b _ _ _ _ _ _ => hV o k (by omega), e8.trans (by omega), Or.inr ⟨hV 775 9 (by omega), fun k => hV 776 k (by omega)⟩, fun _ k => hV _ k (by omega), fun z => absurd z ?_⟩
        show ¬ M 768 8 = 0
        omega
      · intro c43
        refine And.intro (by
          first
            | omega
            | exact ⟨by omega, by omega⟩
            | exact ⟨⟨by omega, by omega⟩, by omega, by omega⟩
            | trivial
            | exact ⟨⟨gT, gv⟩, gV⟩
            | exact hcr
            | exact ⟨hcr, by decide, by decide⟩
            | exact ⟨hA4, hM4.2.2.1⟩
            | (rw [ab_up_o (show 768 ≠ 768 from absurd rfl)]; omega)
            | exact Or.inr rfl) ?_
        intro M54 hM54
        refine And.intro (by
          first
            | omega
            | exact ⟨by omega, by omega⟩
            | exact ⟨⟨by omega, by omega⟩, by omega, by omega⟩
            | trivial
            | exact ⟨⟨gT, gv⟩, gV⟩
            | exact hcr
            | exact ⟨hcr, by decide, by decide⟩
            | exact ⟨hA4, hM4.2.2.1⟩
            | (rw [ab_up_o (show 768 ≠ 768 from absurd rfl)]; omega)
            | exact Or.inr rfl) ?_
        have hc : cut = 1 := by omega
        subst hc
        obtain ⟨w1, w3⟩ := hM54
        have hu : ∀ o k : Nat, ¬ (o = 768 ∧ k = 8) → ab_up M54 768 8 1 o k = M54 o k := fun o k q => up_ne q
        refine gK _ ⟨hK.e ?_ fun k => ?_, fun o k a b c d e f g h => ?_, ab_up_s, Or.inr ⟨?_, fun k => ?_⟩, fun z => absurd z ?_, fun _ => ⟨M4, hV, hK, fun s hs b hb => ?_⟩⟩
        · rw [hu 769 3 (by omega)]; exact w1 769 3 (by decide) (by decide) (by decide) (by decide)
        · rw [hu 770 k (by omega)]; exact w1 770 k (by decide) (by decide) (by omega) (by decide)
        · rw [hu o k (by omega), w1 o k (by omega) (by omega) c (by omega)]; exact hV o k (by omega)
        · rw [hu 775 9 (by omega), w1 775 9 (by decide) (by decide) (by decide) (by decide)]; exact hV 775 9 (by omega)
        · rw [hu 776 k (by omega), w1 776 k (by decide) (by decide) (by omega) (by decide)]; exact hV 776 k (by omega)
        · show ¬ M 768 8 = 1
          omega
        · show pz_b (ab_up M54 768 8 1 786 s) b = true ↔ _
          rw [hu 786 s (by omega)]
          exact w3 s hs b hb
  · intro c8
    refine And.intro (by
      first
        | omega
        | exact ⟨by omega, by omega⟩
        | exact ⟨⟨by omega, by omega⟩, by omega, by omega⟩
        | trivial
        | exact ⟨⟨gT, gv⟩, gV⟩
        | exact hcr
        | exact ⟨hcr, by decide, by decide⟩
        | exact ⟨hA4, hM4.2.2.1⟩
        | (rw [ab_up_o (show 768 ≠ 768 from absurd rfl)]; omega)
        | exact Or.inr rfl) ?_
    refine ⟨?_, ?_⟩
    · intro c15
      refine And.intro (by
        first
          | omega
          | exact ⟨by omega, by omega⟩
          | exact ⟨⟨by omega, by omega⟩, by omega, by omega⟩
          | trivial
          | exact ⟨⟨gT, gv⟩, gV⟩
          | exact hcr
          | exact ⟨hcr, by decide, by decide⟩
          | exact ⟨hA4, hM4.2.2.1⟩
          | (rw [ab_up_o (show 768 ≠ 768 from absurd rfl)]; omega)
          | exact Or.inr rfl) ?_
      refine ⟨?_, ?_⟩
      · intro c36
        have hc : cut = 0 := by omega
        subst hc
        refine gK _ ⟨hK, fun o k a b _ _ _ _ _ _ => hV o k (by omega), e7.trans (by omega), Or.inr ⟨hV 775 9 (by omega), fun k => hV 776 k (by omega)⟩, fun _ k => hV _ k (by omega), fun z => absurd z ?_⟩
        show ¬ M 768 7 = 0
        omega
      · intro c36
        refine And.intro (by
          first
            | omega
            | exact ⟨by omega, by omega⟩
            | exact ⟨⟨by omega, by omega⟩, by omega, by omega⟩
            | trivial
            | exact ⟨⟨gT, gv⟩, gV⟩
            | exact hcr
            | exact ⟨hcr, by decide, by decide⟩
            | exact ⟨hA4, hM4.2.2.1⟩
            | (rw [ab_up_o (show 768 ≠ 768 from absurd rfl)]; omega)
            | exact Or.inr rfl) ?_
        refine ⟨?_, ?_⟩
        · intro c43
          exfalso
          omega
        · intro c43
          refine And.intro (by
            first
              | omega
              | exact ⟨by omega, by omega⟩
              | exact ⟨⟨by omega, by omega⟩, by omega, by omega⟩
              | trivial
              | exact ⟨⟨gT, gv⟩, gV⟩
              | exact hcr
              | exact ⟨hcr, by decide, by decide⟩
              | exact ⟨hA4, hM4.2.2.1⟩
              | (rw [ab_up_o (show 768 ≠ 768 from absurd rfl)]; omega)
              | exact Or.inr rfl) ?_
          intro M54 hM54
          refine And.intro (by
            first
              | omega
              | exact ⟨by omega, by omega⟩
              | exact ⟨⟨by omega, by omega⟩, by omega, by omega⟩
              | trivial
              | exact ⟨⟨gT, gv⟩, gV⟩
              | exact hcr
              | exact ⟨hcr, by decide, by decide⟩
              | exact ⟨hA4, hM4.2.2.1⟩
              | (rw [ab_up_o (show 768 ≠ 768 from absurd rfl)]; omega)
              | exact Or.inr rfl) ?_
          exfalso
          omega
    · intro c15
      refine And.intro (by
        first
          | omega
          | exact ⟨by omega, by omega⟩
          | exact ⟨⟨by omega, by omega⟩, by omega, by omega⟩
          | trivial
          | exact ⟨⟨gT, gv⟩, gV⟩
          | exact hcr
          | exact ⟨hcr, by decide, by decide⟩
          | exact ⟨hA4, hM4.2.2.1⟩
          | (rw [ab_up_o (show 768 ≠ 768 from absurd rfl)]; omega)
          | exact Or.inr rfl) ?_
      intro M26 hM26
      have e8' : M26 768 8 = M4 768 8 := hM26.1 768 8 (by decide) (by decide) (by decide) (by decide) (by decide)
      refine And.intro (by
        first
          | omega
          | exact ⟨by omega, by omega⟩
          | exact ⟨⟨by omega, by omega⟩, by omega, by omega⟩
          | trivial
          | exact ⟨⟨gT, gv⟩, gV⟩
          | exact hcr
          | exact ⟨hcr, by decide, by decide⟩
          | exact ⟨hA4, hM4.2.2.1⟩
          | (rw [ab_up_o (show 768 ≠ 768 from absurd rfl)]; omega)
          | exact Or.inr rfl) ?_
      refine And.intro (by
        first
          | omega
          | exact ⟨by omega, by omega⟩
          | exact ⟨⟨by omega, by omega⟩, by omega, by omega⟩
          | trivial
          | exact ⟨⟨gT, gv⟩, gV⟩
          | exact hcr
          | exact ⟨hcr, by decide, by decide⟩
          | exact ⟨hA4, hM4.2.2.1⟩
          | (rw [ab_up_o (show 768 ≠ 768 from absurd rfl)]; omega)
          | exact Or.inr rfl) ?_
      refine ⟨?_, ?_⟩
      · intro c36
        have hc : cut = 0 := by omega
        subst hc
        obtain ⟨w1, w2, w3⟩ := hM26
        have hu : ∀ o k : Nat, ¬ (o = 768 ∧ k = 7) → ab_up M26 768 7 1 o k = M26 o k := fun o k q => up_ne q
        refine gK _ ⟨hK.e ?_ fun k => ?_, fun o k a b c d e f g h => ?_, ab_up_s, Or.inl ?_, fun z => absurd z ?_, fun _ => ⟨M4, hV, hK, fun s hs b hb => ?_⟩⟩
        · rw [hu 769 3 (by omega)]; exact w1 769 3 (by decide) (by decide) (by decide) (by decide) (by decide)
        · rw [hu 770 k (by omega)]; exact w1 770 k (by decide) (by decide) (by omega) (by omega) (by decide)
        · rw [hu o k (by omega), w1 o k d f c e (by omega)]; exact hV o k (by omega)
        · rw [hu 775 9 (by omega)]; exact w2
        · show ¬ M 768 7 = 1
          omega
        · show pz_b (ab_up M26 768 7 1 785 s) b = true ↔ _
          rw [hu 785 s (by omega)]
          exact w3 s hs b hb
      · intro c36
        refine And.intro (by
          first
            | omega
            | exact ⟨by omega, by omega⟩
            | exact ⟨⟨by omega, by omega⟩, by omega, by omega⟩
            | trivial
            | exact ⟨⟨gT, gv⟩, gV⟩
            | exact hcr
            | exact ⟨hcr, by decide, by decide⟩
            | exact ⟨hA4, hM4.2.2.1⟩
            | (rw [ab_up_o (show 768 ≠ 768 from absurd rfl)]; omega)
            | exact Or.inr rfl) ?_
        refine ⟨?_, ?_⟩
        · intro c43
          exfalso
          omega
        · intro c43
          refine And.intro (by
            first
              | omega
              | exact ⟨by omega, by omega⟩
              | exact ⟨⟨by omega, by omega⟩, by omega, by omega⟩
              | trivial
              | exact ⟨⟨gT, gv⟩, gV⟩
              | exact hcr
              | exact ⟨hcr, by decide, by decide⟩
              | exact ⟨hA4, hM4.2.2.1⟩
              | (rw [ab_up_o (show 768 ≠ 768 from absurd rfl)]; omega)
              | exact Or.inr rfl) ?_
          intro M54 hM54
          refine And.intro (by
            first
              | omega
              | exact ⟨by omega, by omega⟩
              | exact ⟨⟨by omega, by omega⟩, by omega, by omega⟩
              | trivial
              | exact ⟨⟨gT, gv⟩, gV⟩
              | exact hcr
              | exact ⟨hcr, by decide, by decide⟩
              | exact ⟨hA4, hM4.2.2.1⟩
              | (rw [ab_up_o (show 768 ≠ 768 from absurd rfl)]; omega)
              | exact Or.inr rfl) ?_
          exfalso
          omega

set_option maxRecDepth 20000 in
set_option maxHeartbeats 1000000 in
theorem ok_X3_prepare (E : ab_E) : ab_Ok E 7 50 S_X3_prepare := by
  refine ab_mk rq_X3_prepare tk_X3_prepare (rt := 0) (rfl) (cuts := []) (G := [(196, S_X10_findOutcomes), (208, S_X12_findOutcomes), (78, S_X7_prepare)]) (List.forall_mem_cons.mpr ⟨⟨6, by decide, ok_X10_findOutcomes E⟩, List.forall_mem_cons.mpr ⟨⟨6, by decide, ok_X12_findOutcomes E⟩, List.forall_mem_cons.mpr ⟨⟨4, by decide, ok_X7_prepare E⟩, fun _ h => absurd h List.not_mem_nil⟩⟩⟩) (by decide) 81 rfl ?_
  intro a M K wd wa hS
  unfold S_X3_prepare at hS
  split at hS
  ·
    rename_i cut
    refine ⟨Nat.le_of_ble_eq_true rfl, fun _ _ _ _ _ => False, ?_, ?_⟩
    · exact vc_X3_prepare_0 cut M K  hS
    · exact fun _ _ _ _ _ h => h.elim
  · exact hS.elim
def S_X3_prepareLoop : ab_PT := fun a M K => match a with
  | [.inr (.inr (.inr (768, 3, 0))), .inr (.inl l)] => (cv_P M ∧ (0 ≤ l ∧ l < M 26 8) ∧ (M 787 l.toNat = 0 ∨ M 787 l.toNat = 1)) ∧ (∀ Mx : ab_M, (pl_P M Mx l) → K [] Mx)
  | _ => False
set_option maxRecDepth 20000 in
theorem vc_X3_prepareLoop_0 (l : Int) (M : ab_M) (K : List ab_V → ab_M → Prop) (hS : (cv_P M ∧ (0 ≤ l ∧ l < M 26 8) ∧ (M 787 l.toNat = 0 ∨ M 787 l.toNat = 1)) ∧ (∀ Mx : ab_M, (pl_P M Mx l) → K [] Mx)) : ((vl_T M ∧ tv_ok M) ∧ (M 769 3 = 0 ∨ M 769 3 = 1 ∧ vl_V M M (M 26 11))) ∧ (∀ M4 : ab_M, (M4 769 3 = 1 ∧ vl_V M M4 (M 26 11) ∧ tv_ok M4 ∧ (∀ o' k' : Nat, ¬ (o' = 770 ∨ o' = 771 ∨ o' = 769 ∧ k' = 3) → M4 o' k' = M o' k')) → (ab_ir l) ∧ ((l < 0 → K [] M4) ∧ (0 ≤ l → (ab_ir l ∧ ab_ir (4 : Int)) ∧ (((4 : Int) ≤ l → K [] M4) ∧ (l < (4 : Int) → (0 ≤ l ∧ l < ((4 : Nat) : Int)) ∧ (ab_ir (M4 787 l.toNat)) ∧ (((M4 787 l.toNat) = 0 → ((gc_A M4 ∧ tv_ok M4) ∧ 0 ≤ l ∧ l < M4 26 8) ∧ (∀ M38 : ab_M, (fo_f 782 M4 M38 ∧ fe_R M4 M38 l.toNat (M4 392 l.toNat).toNat 4) → (ab_ir l ∧ M38 26 8 ≤ 4 ∧ 0 ≤ M38 26 8 ∧ (0 ≤ l ∧ l < M38 26 8 → ab_ir (M38 392 l.toNat)) ∧ 0 ≤ M38 26 3 ∧ M38 26 3 ≤ 120) ∧ (∀ o55 : Nat, (o55 = if 0 ≤ l ∧ l < M38 26 8 ∧ 0 ≤ M38 392 l.toNat ∧ M38 392 l.toNat < M38 26 3 then 26 + 1 + 1 + 3 * (M38 392 l.toNat).toNat else 26 + 362) → ((-1 ≤ (M38 o55 3) ∧ (M38 o55 3) ≤ 63) ∧ tv_ok M38) ∧ (∀ r61 : Int, ∀ M61 : ab_M, (nd_P M38 M61 (M38 o55 3) r61) → (0 ≤ l ∧ l < ((4 : Nat) : Int)) ∧ (True) ∧ (∀ r74 : Int, (r74 = ((gx_m (fun y => !nd_b (ab_up M61 789 l.toNat r61) 783 y) 256 : Nat) : Int)) → (0 ≤ l ∧ l < ((4 : Nat) : Int)) ∧ ((0 ≤ l ∧ l < ((4 : Nat) : Int)) ∧ ((1 : Int) = 0 ∨ (1 : Int) = 1)) ∧ K [] (ab_up (ab_up (ab_up M61 789 l.toNat r61) 788 l.toNat r74) 787 l.toNat (1 : Int))))))) ∧ (¬ (M4 787 l.toNat) = 0 → K [] M4))))))) := by
  obtain ⟨⟨⟨gT, gv, gA, gV, g9, g01⟩, gl, g7⟩, gK⟩ := hS
  have g8 := gA.1.2.1
  refine And.intro (by
    first
      | omega
      | exact ⟨by omega, by omega⟩
      | exact ⟨⟨by omega, by omega⟩, by omega, by omega⟩
      | trivial
      | exact ⟨⟨gT, gv⟩, gV⟩
      | exact ⟨⟨by omega, by omega⟩, by omega, by omega⟩
      | exact ⟨⟨hA4, hM4.2.2.1⟩, by omega, by omega⟩
      | exact ⟨⟨by omega, by omega⟩, by omega, by omega, fun _ => by rw [e38]; exact ⟨by omega, by omega⟩, by omega, by omega⟩
      | exact ⟨by rw [es38]; exact ⟨by omega, by omega⟩, hv38⟩
      | exact ⟨⟨by omega, by omega⟩, Or.inr rfl⟩) ?_
  intro M4 hM4
  have hV : vf_F M M4 := hM4.2.2.2
  have hK : se_K M M4 := ⟨hM4.1, hM4.2.1, hM4.2.2.1⟩
  have hA4 := hV.A gA
  have e8 : M4 26 8 = M 26 8 := hV 26 8 (by omega)
  have e87 : M4 787 l.toNat = M 787 l.toNat := hV 787 _ (by omega)
  have hL4 := hA4.2.1
  have hp4 := hA4.1
  have h84 := hp4.2.1
  have h34 := hL4.1
  obtain ⟨lr, y1, y2, y3, y4⟩ := hL4.2.2.2.1 l.toNat (by omega)
  refine And.intro (by
    first
      | omega
      | exact ⟨by omega, by omega⟩
      | exact ⟨⟨by omega, by omega⟩, by omega, by omega⟩
      | trivial
      | exact ⟨⟨gT, gv⟩, gV⟩
      | exact ⟨⟨by omega, by omega⟩, by omega, by omega⟩
      | exact ⟨⟨hA4, hM4.2.2.1⟩, by omega, by omega⟩
      | exact ⟨⟨by omega, by omega⟩, by omega, by omega, fun _ => by rw [e38]; exact ⟨by omega, by omega⟩, by omega, by omega⟩
      | exact ⟨by rw [es38]; exact ⟨by omega, by omega⟩, hv38⟩
      | exact ⟨⟨by omega, by omega⟩, Or.inr rfl⟩) ?_
  refine ⟨?_, ?_⟩
  · intro c8
    refine gK _ ⟨hK, fun o k a b _ _ _ _ => hV o k (by omega), e87.trans (by omega), fun _ => ⟨hV 788 _ (by omega), hV 789 _ (by omega)⟩, fun z => ?_⟩
    exfalso
    omega
  · intro c8
    refine And.intro (by
      first
        | omega
        | exact ⟨by omega, by omega⟩
        | exact ⟨⟨by omega, by omega⟩, by omega, by omega⟩
        | trivial
        | exact ⟨⟨gT, gv⟩, gV⟩
        | exact ⟨⟨by omega, by omega⟩, by omega, by omega⟩
        | exact ⟨⟨hA4, hM4.2.2.1⟩, by omega, by omega⟩
        | exact ⟨⟨by omega, by omega⟩, by omega, by omega, fun _ => by rw [e38]; exact ⟨by omega, by omega⟩, by omega, by omega⟩
        | exact ⟨by rw [es38]; exact ⟨by omega, by omega⟩, hv38⟩
        | exact ⟨⟨by omega, by omega⟩, Or.inr rfl⟩) ?_
    refine ⟨?_, ?_⟩
    · intro c13
      refine gK _ ⟨hK, fun o k a b _ _ _ _ => hV o k (by omega), e87.trans (by omega), fun _ => ⟨hV 788 _ (by omega), hV 789 _ (by omega)⟩, fun z => ?_⟩
      exfalso
      omega
    · intro c13
      refine And.intro (by
        first
          | omega
          | exact ⟨by omega, by omega⟩
          | exact ⟨⟨by omega, by omega⟩, by omega, by omega⟩
          | trivial
          | exact ⟨⟨gT, gv⟩, gV⟩
          | exact ⟨⟨by omega, by omega⟩, by omega, by omega⟩
          | exact ⟨⟨hA4, hM4.2.2.1⟩, by omega, by omega⟩
          | exact ⟨⟨by omega, by omega⟩, by omega, by omega, fun _ => by rw [e38]; exact ⟨by omega, by omega⟩, by omega, by omega⟩
          | exact ⟨by rw [es38]; exact ⟨by omega, by omega⟩, hv38⟩
          | exact ⟨⟨by omega, by omega⟩, Or.inr rfl⟩) ?_
      refine And.intro (by
        first
          | omega
          | exact ⟨by omega, by omega⟩
          | exact ⟨⟨by omega, by omega⟩, by omega, by omega⟩
          | trivial
          | exact ⟨⟨gT, gv⟩, gV⟩
          | exact ⟨⟨by omega, by omega⟩, by omega, by omega⟩
          | exact ⟨⟨hA4, hM4.2.2.1⟩, by omega, by omega⟩
          | exact ⟨⟨by omega, by omega⟩, by omega, by omega, fun _ => by rw [e38]; exact ⟨by omega, by omega⟩, by omega, by omega⟩
          | exact ⟨by rw [es38]; exact ⟨by omega, by omega⟩, hv38⟩
          | exact ⟨⟨by omega, by omega⟩, Or.inr rfl⟩) ?_
      refine ⟨?_, ?_⟩
      · intro c22
        refine And.intro (by
          first
            | omega
            | exact ⟨by omega, by omega⟩
            | exact ⟨⟨by omega, by omega⟩, by omega, by omega⟩
            | trivial
            | exact ⟨⟨gT, gv⟩, gV⟩
            | exact ⟨⟨by omega, by omega⟩, by omega, by omega⟩
            | exact ⟨⟨hA4, hM4.2.2.1⟩, by omega, by omega⟩
            | exact ⟨⟨by omega, by omega⟩, by omega, by omega, fun _ => by rw [e38]; exact ⟨by omega, by omega⟩, by omega, by omega⟩
            | exact ⟨by rw [es38]; exact ⟨by omega, by omega⟩, hv38⟩
            | exact ⟨⟨by omega, by omega⟩, Or.inr rfl⟩) ?_
        intro M38 hM38
        have f38 := hM38.1.e (by decide)
        have hA38 := gc_A_e f38 hA4
        have hv38 := ts_e_ok f38 hM4.2.2.1
        have e38 : M38 392 l.toNat = (lr : Int) := (f38.c 392 _ (by decide)).trans y2
        have e388 : M38 26 8 = M4 26 8 := f38.c 26 8 (by decide)
        have e383 : M38 26 3 = M4 26 3 := f38.c 26 3 (by decide)
        have e92z : (M4 392 l.toNat).toNat = lr := by rw [y2]; rfl
        refine And.intro (by
          first
            | omega
            | exact ⟨by omega, by omega⟩
            | exact ⟨⟨by omega, by omega⟩, by omega, by omega⟩
            | trivial
            | exact ⟨⟨gT, gv⟩, gV⟩
            | exact ⟨⟨by omega, by omega⟩, by omega, by omega⟩
            | exact ⟨⟨hA4, hM4.2.2.1⟩, by omega, by omega⟩
            | exact ⟨⟨by omega, by omega⟩, by omega, by omega, fun _ => by rw [e38]; exact ⟨by omega, by omega⟩, by omega, by omega⟩
            | exact ⟨by rw [es38]; exact ⟨by omega, by omega⟩, hv38⟩
            | exact ⟨⟨by omega, by omega⟩, Or.inr rfl⟩) ?_
        intro o55 hr55
        have ho : o55 = 26 + 1 + 1 + 3 * lr := by rw [hr55, e38, if_pos ⟨by omega, by omega, by omega, by omega⟩, Int.toNat_natCast]
        clear hr55
        subst ho
        have es38 : M38 (26 + 1 + 1 + 3 * lr) 3 = M4 (26 + 1 + 1 + 3 * lr) 3 := f38 _ _ (by omega)
        have ht := hp4.2.2.2.1 lr y1
        have ht3 := ht.2.2.2.2.2.1
        refine And.intro (by
          first
            | omega
            | exact ⟨by omega, by omega⟩
            | exact ⟨⟨by omega, by omega⟩, by omega, by omega⟩
            | trivial
            | exact ⟨⟨gT, gv⟩, gV⟩
            | exact ⟨⟨by omega, by omega⟩, by omega, by omega⟩
            | exact ⟨⟨hA4, hM4.2.2.1⟩, by omega, by omega⟩
            | exact ⟨⟨by omega, by omega⟩, by omega, by omega, fun _ => by rw [e38]; exact ⟨by omega, by omega⟩, by omega, by omega⟩
            | exact ⟨by rw [es38]; exact ⟨by omega, by omega⟩, hv38⟩
            | exact ⟨⟨by omega, by omega⟩, Or.inr rfl⟩) ?_
        intro r61 M61 hM61
        refine And.intro (by
          first
            | omega
            | exact ⟨by omega, by omega⟩
            | exact ⟨⟨by omega, by omega⟩, by omega, by omega⟩
            | trivial
            | exact ⟨⟨gT, gv⟩, gV⟩
            | exact ⟨⟨by omega, by omega⟩, by omega, by omega⟩
            | exact ⟨⟨hA4, hM4.2.2.1⟩, by omega, by omega⟩
            | exact ⟨⟨by omega, by omega⟩, by omega, by omega, fun _ => by rw [e38]; exact ⟨by omega, by omega⟩, by omega, by omega⟩
            | exact ⟨by rw [es38]; exact ⟨by omega, by omega⟩, hv38⟩
            | exact ⟨⟨by omega, by omega⟩, Or.inr rfl⟩) ?_
        refine And.intro trivial ?_
        intro r74 hr74
        refine And.intro (by
          first
            | omega
            | exact ⟨by omega, by omega⟩
            | exact ⟨⟨by omega, by omega⟩, by omega, by omega⟩
            | trivial
            | exact ⟨⟨gT, gv⟩, gV⟩
            | exact ⟨⟨by omega, by omega⟩, by omega, by omega⟩
            | exact ⟨⟨hA4, hM4.2.2.1⟩, by omega, by omega⟩
            | exact ⟨⟨by omega, by omega⟩, by omega, by omega, fun _ => by rw [e38]; exact ⟨by omega, by omega⟩, by omega, by omega⟩
            | exact ⟨by rw [es38]; exact ⟨by omega, by omega⟩, hv38⟩
            | exact ⟨⟨by omega, by omega⟩, Or.inr rfl⟩) ?_
        refine And.intro (by
          first
            | omega
            | exact ⟨by omega, by omega⟩
            | exact ⟨⟨by omega, by omega⟩, by omega, by omega⟩
            | trivial
            | exact ⟨⟨gT, gv⟩, gV⟩
            | exact ⟨⟨by omega, by omega⟩, by omega, by omega⟩
            | exact ⟨⟨hA4, hM4.2.2.1⟩, by omega, by omega⟩
            | exact ⟨⟨by omega, by omega⟩, by omega, by omega, fun _ => by rw [e38]; exact ⟨by omega, by omega⟩, by omega, by omega⟩
            | exact ⟨by rw [es38]; exact ⟨by omega, by omega⟩, hv38⟩
            | exact ⟨⟨by omega, by omega⟩, Or.inr rfl⟩) ?_
        obtain ⟨hf38, hR38⟩ := hM38
        rw [e92z] at hR38
        rw [es38] at hM61
        have f61 := hM61.2
        generalize hM' : ab_up (ab_up (ab_up M61 789 l.toNat r61) 788 l.toNat r74) 787 l.toNat 1 = M' at *
        have hu : ∀ o k : Nat, ¬ (787 ≤ o ∧ o ≤ 789 ∧ k = l.toNat) → M' o k = M61 o k := fun o k q => by rw [← hM', up_ne (by omega), up_ne (by omega), up_ne (by omega)]
        have h9 : M' 789 l.toNat = r61 := by rw [← hM', ab_up_o (by decide), ab_up_o (by decide), ab_up_s]
        have h8 : M' 788 l.toNat = r74 := by rw [← hM', ab_up_o (by decide), ab_up_s]
        have h7 : M' 787 l.toNat = 1 := by rw [← hM', ab_up_s]
        have hfr : ∀ o k : Nat, ¬ (o = 772 ∧ k = 3) → ¬ (773 ≤ o ∧ o ≤ 774) → ¬ (782 ≤ o ∧ o ≤ 784) → ¬ (787 ≤ o ∧ o ≤ 789 ∧ k = l.toNat) → M' o k = M4 o k := fun o k a b c d => by
          rw [hu o k d, f61 o k (by omega) (by omega)]
          exact hf38 o k (by omega) (by omega) a (by omega)
        refine gK _ ⟨hK.e (hfr 769 3 (by omega) (by omega) (by omega) (by omega)) fun k => hfr 770 k (by omega) (by omega) (by omega) (by omega), fun o k a b c d e f => ?_, h7, fun z => ?_, fun _ => ?_⟩
        · rw [hfr o k c d e (by omega)]; exact hV o k (by omega)
        · omega
        · refine ks_P.of hA4 (by omega) y2 y1 hf38 hR38 hM61 (fun o k q => hfr o k (by omega) (by omega) (by omega) (by omega)) h9 (h8.trans ?_)
          first
            | exact hr74
            | (rw [hr74]
               congr 2
               refine gx_m_cong 256 fun y _ => ?_
               unfold nd_b
               rw [ab_up_o (by decide)])
      · intro c22
        refine gK _ ⟨hK, fun o k a b _ _ _ _ => hV o k (by omega), e87.trans (by omega), fun _ => ⟨hV 788 _ (by omega), hV 789 _ (by omega)⟩, fun z => ?_⟩
        exfalso
        omega

set_option maxRecDepth 20000 in
set_option maxHeartbeats 1000000 in
theorem ok_X3_prepareLoop (E : ab_E) : ab_Ok E 7 51 S_X3_prepareLoop := by
  refine ab_mk rq_X3_prepareLoop tk_X3_prepareLoop (rt := 0) (rfl) (cuts := []) (G := [(195, S_X10_findEnds), (203, S_X11_shrink), (204, S_X11_statesKept), (24, S_X1_loopStatement), (78, S_X7_prepare)]) (List.forall_mem_cons.mpr ⟨⟨6, by decide, ok_X10_findEnds E⟩, List.forall_mem_cons.mpr ⟨⟨3, by decide, ok_X11_shrink E⟩, List.forall_mem_cons.mpr ⟨⟨2, by decide, ok_X11_statesKept E⟩, List.forall_mem_cons.mpr ⟨⟨2, by decide, ok_X1_loopStatement E⟩, List.forall_mem_cons.mpr ⟨⟨4, by decide, ok_X7_prepare E⟩, fun _ h => absurd h List.not_mem_nil⟩⟩⟩⟩⟩) (by decide) 96 rfl ?_
  intro a M K wd wa hS
  unfold S_X3_prepareLoop at hS
  split at hS
  ·
    rename_i l
    refine ⟨Nat.le_of_ble_eq_true rfl, fun _ _ _ _ _ => False, ?_, ?_⟩
    · exact vc_X3_prepareLoop_0 l M K  hS
    · exact fun _ _ _ _ _ h => h.elim
  · exact hS.elim
