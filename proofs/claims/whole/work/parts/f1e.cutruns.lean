/-! what cut runs can do; the ends of a block -/
/-- nothing changes but notes, places and one array -/
def fo_f (A : Nat) (M M' : ab_M) : Prop := ∀ o' k' : Nat, ¬ o' = 774 → ¬ o' = 773 → ¬ (o' = 772 ∧ k' = 3) → o' ≠ A → M' o' k' = M o' k'
theorem fo_f.e {A : Nat} {M M1 : ab_M} (h : fo_f A M M1) (hA : 771 ≤ A) : ts_e M M1 := fun o' k' q => h o' k' (by omega) (by omega) (by omega) (by omega)
theorem rn_f.o {A : Nat} {M M1 : ab_M} (h : rn_f M M1) : fo_f A M M1 := fun o k a b c _ => h o k a b c
theorem fo_f.n {A : Nat} {M M1 M2 : ab_M} (h : fo_f A M M1) (h2 : rn_f M1 M2) : fo_f A M M2 := fun o k a b c d => (h2 o k a b c).trans (h o k a b c d)
theorem fo_f.up {A : Nat} {M M1 : ab_M} (h : fo_f A M M1) (j : Nat) (x : Int) : fo_f A M (ab_up M1 A j x) := fun o k a b c d => (ab_up_o d _).trans (h o k a b c d)
theorem fo_f.up4 {A : Nat} {M M1 : ab_M} (h : fo_f A M M1) (j : Nat) (x : Int) : fo_f A M (ab_up M1 774 j x) := fun o k a b c d => (ab_up_o a _).trans (h o k a b c d)
theorem cu_rk_fr {M M1 : ab_M} (h : ts_e M M1) (j c : Nat) : cu_rk M1 j c ↔ cu_rk M j c := by
  unfold cu_rk
  simp only [h.c 26 3 (by decide), h.c 26 8 (by decide), h.c 392 _ (by decide)]
theorem cu_E_fr {M M1 : ab_M} (h : ts_e M M1) (hp : ts_p M) (f : Int) (N : Nat → Int) (j : Nat) : cu_E M1 f N j ↔ cu_E M f N j := by
  unfold cu_E
  simp only [(gc_fr h hp 1).1, pl_fd_fr h hp]
theorem cu_P.fr {M M1 M2 : ab_M} {f lo hi : Int} (h : ts_e M M1) (hp : ts_p M) (hP : cu_P M1 M2 f lo hi) : (∀ j c : Nat, cu_rk M j c → 2 * lo ≤ (c : Int) → (c : Int) ≤ 2 * hi + 1 → cu_E M f (M2 774) j) ∧ ∀ j : Nat, (¬ ∃ c : Nat, cu_rk M j c ∧ 2 * lo ≤ (c : Int) ∧ (c : Int) ≤ 2 * hi + 1) → M2 774 j = M1 774 j :=
  ⟨fun j c h1 h2 h3 => (cu_E_fr h hp f _ j).1 (hP.2.1 j c ((cu_rk_fr h j c).2 h1) h2 h3), fun j hj => hP.2.2 j fun ⟨c, c1, c2⟩ => hj ⟨c, (cu_rk_fr h j c).1 c1, c2⟩⟩
theorem gc_A_e {M M1 : ab_M} (h : ts_e M M1) (hA : gc_A M) : gc_A M1 := gc_A_fr h.lo hA
theorem pr_s_D {M : ab_M} (cut : Int) {s : Nat} (hs : s < 256) : gc_D M cut (pr_s M * 256 + s) := by
  unfold pr_s gc_D
  split
  · exact Or.inr (Or.inr ⟨0, Or.inl ⟨by omega, by omega⟩⟩)
  · exact Or.inl (by omega)
/-- what cut runs can do, from each state -/
def fo_O (M M' : ab_M) (A : Nat) (c k : Int) : Prop := ∀ s : Nat, (s : Int) < k → ∀ b : Nat, b < 32 → (pz_b (M' A s) b = true ↔ ∃ n, gx_W (gc_S M c) (fun j => gc_O M c j b) n (pr_s M * 256 + s))
def fo_N (M : ab_M) (N : Nat → Int) (c : Int) : Prop := ∀ j b : Nat, b < 64 → gc_D M c j → (pz_lb (N j) b = true ↔ ∃ n, gx_W (gc_S M c) (fun i => gc_O M c i b) n j)
theorem fo_N.of {M M1 M2 : ab_M} (hA : gc_A M) (h : rn_f M M1) (h0 : ∀ j : Nat, j / 256 = 120 → M1 774 j = 65536) (h1 : ∀ j : Nat, j / 256 = 121 → M1 774 j = 131072)
    (h2 : ∀ j l : Nat, (l : Int) < M 26 8 → j / 256 = 122 + l → ∀ b, b < 64 → (pz_lb (M1 774 j) b = true ↔ (pl_fd M ((j / 256 : Nat) : Int) ((j % 256 : Nat) : Int) 1).1 = (b : Int))) (hP : cu_P M1 M2 1 0 (M 26 3 - 1)) : fo_N M (M2 774) 1 := by
  have hL := hA.2.1
  have h8 := hA.1.2.1
  obtain ⟨p1, p2⟩ := hP.fr h.e hA.1
  have hno : ∀ j : Nat, 120 ≤ j / 256 → j / 256 < 126 → M2 774 j = M1 774 j := fun j a b => p2 j fun ⟨c, c1, _⟩ => by
    have := cu_rk_bd hL c1
    have := hL.1
    omega
  intro j b hb hj
  refine cu_all hL hA.1 (fun j c hc => p1 j c hc (by omega) (by have := cu_rk_bd hL hc; omega)) (fun j hj b hb => ?_) (fun j hj b hb => ?_) (fun j l hl hj b hb => ?_) hb hj
  · rw [hno j (by omega) (by omega), h0 j hj]; exact pz_lb_16 hb
  · rw [hno j (by omega) (by omega), h1 j hj]; exact pz_lb_17 hb
  · rw [hno j (by omega) (by omega)]; exact h2 j l hl hj b hb
/-! the ends of a loop's block -/
def fe_Z (M : ab_M) (N : Nat → Int) (l lr e : Nat) : Prop := ∀ j : Nat, (¬ ∃ c : Nat, cu_rk M j c ∧ 2 * lr + 2 ≤ c ∧ c ≤ 2 * e + 1) → j / 256 ≠ 122 + l → cu_C (M 26 3) j → N j = 0
def fe_w (M : ab_M) (l lr x y : Nat) : Prop := ∃ n, gx_W (gc_S M 1) (fun i => i = (122 + l) * 256 + y) n (M (26 + 1 + 1 + 3 * lr) 17 * 256 + (x : Int)).toNat
def fe_R (M M1 : ab_M) (l lr : Nat) (w : Int) : Prop := ∀ x w' b : Nat, x < 256 → (w' : Int) < w → b < 64 → (pz_lb (M1 782 (4 * x + w')) b = true ↔ ¬ tv M (M (26 + 1 + 1 + 3 * lr) 2) (x : Int) = 0 ∧ fe_w M l lr x (64 * w' + b))
def fe_Q (M M1 : ab_M) (l lr w : Nat) : Prop := ∀ x b : Nat, x < 256 → b < 64 → (pz_lb (M1 774 (M (26 + 1 + 1 + 3 * lr) 17 * 256 + (x : Int)).toNat) b = true ↔ fe_w M l lr x (64 * w + b))
def fe_k (M M1 : ab_M) (l lr : Nat) (w k : Int) : Prop := ∀ x b : Nat, (x : Int) < k → b < 64 → (pz_lb (M1 782 (4 * x + w.toNat)) b = true ↔ ¬ tv M (M (26 + 1 + 1 + 3 * lr) 2) (x : Int) = 0 ∧ fe_w M l lr x (64 * w.toNat + b))
def fe_B (M1 : ab_M) (l w : Nat) (k : Int) : Prop := ∀ s : Nat, (s : Int) < k → ∀ b, b < 64 → (pz_lb (M1 774 ((122 + l) * 256 + s)) b = true ↔ s = 64 * w + b)
theorem fe_sweep {M M1 M2 : ab_M} {l lr e w : Nat} (hA : gc_A M) (hl : (l : Int) < M 26 8) (hlr : M 392 l = (lr : Int)) (hw4 : w < 4) (he : M (26 + 1 + 1 + 3 * lr) 14 = (e : Int)) (h : fo_f 782 M M1) (hZ : fe_Z M (M1 774) l lr e) (hB : fe_B M1 l w 256) (hP : cu_P M1 M2 0 ((lr : Int) + 1) (e : Int)) : fe_Z M (M2 774) l lr e ∧ fe_Q M M2 l lr w := by
  have hL := hA.2.1
  have h8 := hA.1.2.1
  have h3 := hL.1
  obtain ⟨p1, p2⟩ := hP.fr (h.e (by decide)) hA.1
  have hno : ∀ j : Nat, (¬ ∃ c : Nat, cu_rk M j c ∧ 2 * lr + 2 ≤ c ∧ c ≤ 2 * e + 1) → M2 774 j = M1 774 j := fun j hj => p2 j fun ⟨c, c1, c2, c3⟩ => hj ⟨c, c1, by omega, by omega⟩
  have hZ2 : fe_Z M (M2 774) l lr e := fun j h1 h2 h3 => by rw [hno j h1]; exact hZ j h1 h2 h3
  refine ⟨hZ2, fun x b hx hb => ?_⟩
  exact cu_ends hL hA.1 hl hlr hw4 he (fun j c c1 c2 c3 => p1 j c c1 (by omega) (by omega)) (fun s hs b hb => by
    rw [hno _ fun ⟨c, c1, _⟩ => by have := cu_rk_bd hL c1; omega]
    exact hB s (by omega) b hb) hZ2 hx hb
theorem fe_R.next {M M1 : ab_M} {l lr : Nat} {w : Int} (hw : 0 ≤ w) (h : fe_R M M1 l lr w) (hk : fe_k M M1 l lr w 256) : fe_R M M1 l lr (w + 1) := fun x w' b hx hw' hb => by
  by_cases e : (w' : Int) = w
  · rw [show w' = w.toNat by omega]
    exact hk x b (by omega) hb
  · exact h x w' b hx (by omega) hb

def S_X10_findOutcomes : ab_PT := fun a M K => match a with
  | [.inr (.inr (.inr (780, 10, 0))), .inr (.inr (.inr (786, 20, 256)))] => (gc_A M ∧ tv_ok M) ∧ (∀ Mx : ab_M, (fo_f 786 M Mx ∧ fo_O M Mx 786 1 256) → K [] Mx)
  | _ => False
set_option maxRecDepth 20000 in
theorem vc_X10_findOutcomes_0  (M : ab_M) (K : List ab_V → ab_M → Prop) (hS : (gc_A M ∧ tv_ok M) ∧ (∀ Mx : ab_M, (fo_f 786 M Mx ∧ fo_O M Mx 786 1 256) → K [] Mx)) : (0 ≤ M 26 3 ∧ M 26 3 ≤ 120) ∧ (∀ M1 : ab_M, ((∀ j : Nat, cu_C (M 26 3) j → M1 774 j = 0) ∧ ∀ o' k' : Nat, o' ≠ 774 → M1 o' k' = M o' k') → (∃ n', ((n' = 2000 + (256 - (0 : Int)).toNat ∧ 0 ≤ (0 : Int) ∧ (0 : Int) ≤ 256 ∧ rn_f M M1 ∧ (∀ j : Nat, j / 256 = 120 → ((j % 256 : Nat) : Int) < (0 : Int) → M1 774 j = 65536) ∧ ∀ j : Nat, j / 256 = 121 → ((j % 256 : Nat) : Int) < (0 : Int) → M1 774 j = 131072)))) := by
  obtain ⟨⟨gA, gv⟩, gK⟩ := hS
  have gL := gA.2.1
  have gp := gA.1
  have g3 := gL.1
  have g8 := gp.2.1
  
  refine And.intro (by
    first
      | omega
      | exact ⟨by omega, by omega⟩
      | exact ⟨⟨by omega, by omega⟩, by omega, by omega⟩
      | trivial
      | exact ⟨⟨by omega, by omega⟩, by omega, by omega⟩
      | exact ⟨by decide, by decide⟩
      | exact ⟨⟨hp1, hv1⟩, by omega, by omega⟩
      | exact ⟨⟨gc_A_e hf.e gA, hv1⟩, ⟨by decide, by omega, by omega⟩, Or.inr rfl⟩
      | (rw [hr106]; split <;> exact ⟨by omega, by omega⟩)) ?_
  intro M1 hM1
  have hf : rn_f M M1 := fun o k a _ _ => hM1.2 o k a
  exact ⟨_, rfl, by decide, by decide, hf, fun j _ q => by omega, fun j _ q => by omega⟩

set_option maxRecDepth 20000 in
theorem vc_X10_findOutcomes_6  (M : ab_M) (K : List ab_V → ab_M → Prop) (hS : (gc_A M ∧ tv_ok M) ∧ (∀ Mx : ab_M, (fo_f 786 M Mx ∧ fo_O M Mx 786 1 256) → K [] Mx)) (n : Nat) (k : Int) (M1 : ab_M) (hI : n = 2000 + (256 - k).toNat ∧ 0 ≤ k ∧ k ≤ 256 ∧ rn_f M M1 ∧ (∀ j : Nat, j / 256 = 120 → ((j % 256 : Nat) : Int) < k → M1 774 j = 65536) ∧ ∀ j : Nat, j / 256 = 121 → ((j % 256 : Nat) : Int) < k → M1 774 j = 131072) : (-32768 ≤ (256 : Int) ∧ (256 : Int) < 32768) ∧ (ab_ir k ∧ ab_ir (256 : Int)) ∧ (((256 : Int) ≤ k → (∃ n', n' < n ∧ ((n' = 1000 + (4 - (0 : Int)).toNat ∧ 0 ≤ (0 : Int) ∧ (0 : Int) ≤ M 26 8 ∧ rn_f M M1 ∧ (∀ j : Nat, j / 256 = 120 → M1 774 j = 65536) ∧ (∀ j : Nat, j / 256 = 121 → M1 774 j = 131072) ∧ ∀ j l' : Nat, (l' : Int) < (0 : Int) → j / 256 = 122 + l' → ∀ b, b < 64 → (pz_lb (M1 774 j) b = true ↔ (pl_fd M ((j / 256 : Nat) : Int) ((j % 256 : Nat) : Int) 1).1 = (b : Int)))))) ∧ (k < (256 : Int) → (-32768 ≤ (30720 : Int) ∧ (30720 : Int) < 32768) ∧ (0 ≤ ((30720 : Int) + k) ∧ ((30720 : Int) + k) < ((33280 : Nat) : Int)) ∧ (-32768 ≤ (30976 : Int) ∧ (30976 : Int) < 32768) ∧ (0 ≤ ((30976 : Int) + k) ∧ ((30976 : Int) + k) < ((33280 : Nat) : Int)) ∧ (∃ n', n' < n ∧ ((n' = 2000 + (256 - (k + 1)).toNat ∧ 0 ≤ (k + 1) ∧ (k + 1) ≤ 256 ∧ rn_f M (ab_up (ab_up M1 774 (((30720 : Int) + k).toNat) (65536 : Int)) 774 (((30976 : Int) + k).toNat) (131072 : Int)) ∧ (∀ j : Nat, j / 256 = 120 → ((j % 256 : Nat) : Int) < (k + 1) → (ab_up (ab_up M1 774 (((30720 : Int) + k).toNat) (65536 : Int)) 774 (((30976 : Int) + k).toNat) (131072 : Int)) 774 j = 65536) ∧ ∀ j : Nat, j / 256 = 121 → ((j % 256 : Nat) : Int) < (k + 1) → (ab_up (ab_up M1 774 (((30720 : Int) + k).toNat) (65536 : Int)) 774 (((30976 : Int) + k).toNat) (131072 : Int)) 774 j = 131072))))) := by
  obtain ⟨hn, hk0, hk1, hf, h120, h121⟩ := hI
  obtain ⟨⟨gA, gv⟩, gK⟩ := hS
  have gL := gA.2.1
  have gp := gA.1
  have g3 := gL.1
  have g8 := gp.2.1
  
  refine And.intro (by
    first
      | omega
      | exact ⟨by omega, by omega⟩
      | exact ⟨⟨by omega, by omega⟩, by omega, by omega⟩
      | trivial
      | exact ⟨⟨by omega, by omega⟩, by omega, by omega⟩
      | exact ⟨by decide, by decide⟩
      | exact ⟨⟨hp1, hv1⟩, by omega, by omega⟩
      | exact ⟨⟨gc_A_e hf.e gA, hv1⟩, ⟨by decide, by omega, by omega⟩, Or.inr rfl⟩
      | (rw [hr106]; split <;> exact ⟨by omega, by omega⟩)) ?_
  refine And.intro (by
    first
      | omega
      | exact ⟨by omega, by omega⟩
      | exact ⟨⟨by omega, by omega⟩, by omega, by omega⟩
      | trivial
      | exact ⟨⟨by omega, by omega⟩, by omega, by omega⟩
      | exact ⟨by decide, by decide⟩
      | exact ⟨⟨hp1, hv1⟩, by omega, by omega⟩
      | exact ⟨⟨gc_A_e hf.e gA, hv1⟩, ⟨by decide, by omega, by omega⟩, Or.inr rfl⟩
      | (rw [hr106]; split <;> exact ⟨by omega, by omega⟩)) ?_
  refine ⟨?_, ?_⟩
  · intro c10
    refine ⟨_, ?_, rfl, by decide, by omega, hf, fun j a => h120 j a (by omega), fun j a => h121 j a (by omega), fun j l' a => by omega⟩
    omega
  · intro c10
    refine And.intro (by
      first
        | omega
        | exact ⟨by omega, by omega⟩
        | exact ⟨⟨by omega, by omega⟩, by omega, by omega⟩
        | trivial
        | exact ⟨⟨by omega, by omega⟩, by omega, by omega⟩
        | exact ⟨by decide, by decide⟩
        | exact ⟨⟨hp1, hv1⟩, by omega, by omega⟩
        | exact ⟨⟨gc_A_e hf.e gA, hv1⟩, ⟨by decide, by omega, by omega⟩, Or.inr rfl⟩
        | (rw [hr106]; split <;> exact ⟨by omega, by omega⟩)) ?_
    refine And.intro (by
      first
        | omega
        | exact ⟨by omega, by omega⟩
        | exact ⟨⟨by omega, by omega⟩, by omega, by omega⟩
        | trivial
        | exact ⟨⟨by omega, by omega⟩, by omega, by omega⟩
        | exact ⟨by decide, by decide⟩
        | exact ⟨⟨hp1, hv1⟩, by omega, by omega⟩
        | exact ⟨⟨gc_A_e hf.e gA, hv1⟩, ⟨by decide, by omega, by omega⟩, Or.inr rfl⟩
        | (rw [hr106]; split <;> exact ⟨by omega, by omega⟩)) ?_
    refine And.intro (by
      first
        | omega
        | exact ⟨by omega, by omega⟩
        | exact ⟨⟨by omega, by omega⟩, by omega, by omega⟩
        | trivial
        | exact ⟨⟨by omega, by omega⟩, by omega, by omega⟩
        | exact ⟨by decide, by decide⟩
        | exact ⟨⟨hp1, hv1⟩, by omega, by omega⟩
        | exact ⟨⟨gc_A_e hf.e gA, hv1⟩, ⟨by decide, by omega, by omega⟩, Or.inr rfl⟩
        | (rw [hr106]; split <;> exact ⟨by omega, by omega⟩)) ?_
    refine And.intro (by
      first
        | omega
        | exact ⟨by omega, by omega⟩
        | exact ⟨⟨by omega, by omega⟩, by omega, by omega⟩
        | trivial
        | exact ⟨⟨by omega, by omega⟩, by omega, by omega⟩
        | exact ⟨by decide, by decide⟩
        | exact ⟨⟨hp1, hv1⟩, by omega, by omega⟩
        | exact ⟨⟨gc_A_e hf.e gA, hv1⟩, ⟨by decide, by omega, by omega⟩, Or.inr rfl⟩
        | (rw [hr106]; split <;> exact ⟨by omega, by omega⟩)) ?_
    refine ⟨_, ?_, rfl, by omega, by omega, (hf.up _ _).up _ _, fun j a b => ?_, fun j a b => ?_⟩
    · omega
    · rw [ab_up_k (by omega)]
      by_cases e : j = ((30720 : Int) + k).toNat
      · rw [e, ab_up_s]
      · rw [ab_up_k e]; exact h120 j a (by omega)
    · by_cases e : j = ((30976 : Int) + k).toNat
      · rw [e, ab_up_s]
      · rw [ab_up_k e, ab_up_k (by omega)]; exact h121 j a (by omega)

set_option maxRecDepth 20000 in
theorem vc_X10_findOutcomes_47  (M : ab_M) (K : List ab_V → ab_M → Prop) (hS : (gc_A M ∧ tv_ok M) ∧ (∀ Mx : ab_M, (fo_f 786 M Mx ∧ fo_O M Mx 786 1 256) → K [] Mx)) (n : Nat) (l : Int) (M1 : ab_M) (hI : n = 1000 + (4 - l).toNat ∧ 0 ≤ l ∧ l ≤ M 26 8 ∧ rn_f M M1 ∧ (∀ j : Nat, j / 256 = 120 → M1 774 j = 65536) ∧ (∀ j : Nat, j / 256 = 121 → M1 774 j = 131072) ∧ ∀ j l' : Nat, (l' : Int) < l → j / 256 = 122 + l' → ∀ b, b < 64 → (pz_lb (M1 774 j) b = true ↔ (pl_fd M ((j / 256 : Nat) : Int) ((j % 256 : Nat) : Int) 1).1 = (b : Int))) : (ab_ir l ∧ ab_ir (M1 26 8)) ∧ (((M1 26 8) ≤ l → ((gc_A M1 ∧ tv_ok M1) ∧ (0 ≤ (0 : Int) ∧ (0 : Int) ≤ ((M1 26 3) - (1 : Int)) + 1 ∧ ((M1 26 3) - (1 : Int)) < M1 26 3) ∧ ((1 : Int) = 0 ∨ (1 : Int) = 1)) ∧ (∀ M84 : ab_M, (cu_P M1 M84 (1 : Int) (0 : Int) ((M1 26 3) - (1 : Int))) → (∃ n', n' < n ∧ ((n' = (256 - (0 : Int)).toNat ∧ 0 ≤ (0 : Int) ∧ (0 : Int) ≤ 256 ∧ fo_f 786 M M84 ∧ fo_N M (M84 774) 1 ∧ fo_O M M84 786 1 (0 : Int)))))) ∧ (l < (M1 26 8) → (-128 ≤ (122 : Int) ∧ (122 : Int) < 128) ∧ ((ts_p M1 ∧ tv_ok M1) ∧ 0 ≤ ((122 : Int) + l) ∧ ((122 : Int) + l) < 130) ∧ (∀ M63 : ab_M, (rn_f M1 M63 ∧ (∀ s : Nat, s < 256 → ∀ b, b < 64 → (pz_lb (M63 774 (((122 : Int) + l).toNat * 256 + s)) b = true ↔ (pl_fd M1 ((122 : Int) + l) (s : Int) 1).1 = (b : Int))) ∧ ∀ j : Nat, ((j / 256 : Nat) : Int) ≠ ((122 : Int) + l) → M63 774 j = M1 774 j) → (∃ n', n' < n ∧ ((n' = 1000 + (4 - (l + 1)).toNat ∧ 0 ≤ (l + 1) ∧ (l + 1) ≤ M 26 8 ∧ rn_f M M63 ∧ (∀ j : Nat, j / 256 = 120 → M63 774 j = 65536) ∧ (∀ j : Nat, j / 256 = 121 → M63 774 j = 131072) ∧ ∀ j l' : Nat, (l' : Int) < (l + 1) → j / 256 = 122 + l' → ∀ b, b < 64 → (pz_lb (M63 774 j) b = true ↔ (pl_fd M ((j / 256 : Nat) : Int) ((j % 256 : Nat) : Int) 1).1 = (b : Int)))))))) := by
  obtain ⟨hn, hl0, hl1, hf, h120, h121, hB⟩ := hI
  obtain ⟨⟨gA, gv⟩, gK⟩ := hS
  have gL := gA.2.1
  have gp := gA.1
  have g3 := gL.1
  have g8 := gp.2.1
  have e3 : M1 26 3 = M 26 3 := hf.e.c 26 3 (by decide)
  have e8 : M1 26 8 = M 26 8 := hf.e.c 26 8 (by decide)
  have hp1 := ts_p_fr hf.e gp
  have hv1 := ts_e_ok hf.e gv
  refine And.intro (by
    first
      | omega
      | exact ⟨by omega, by omega⟩
      | exact ⟨⟨by omega, by omega⟩, by omega, by omega⟩
      | trivial
      | exact ⟨⟨by omega, by omega⟩, by omega, by omega⟩
      | exact ⟨by decide, by decide⟩
      | exact ⟨⟨hp1, hv1⟩, by omega, by omega⟩
      | exact ⟨⟨gc_A_e hf.e gA, hv1⟩, ⟨by decide, by omega, by omega⟩, Or.inr rfl⟩
      | (rw [hr106]; split <;> exact ⟨by omega, by omega⟩)) ?_
  refine ⟨?_, ?_⟩
  · intro c55
    refine And.intro (by
      first
        | omega
        | exact ⟨by omega, by omega⟩
        | exact ⟨⟨by omega, by omega⟩, by omega, by omega⟩
        | trivial
        | exact ⟨⟨by omega, by omega⟩, by omega, by omega⟩
        | exact ⟨by decide, by decide⟩
        | exact ⟨⟨hp1, hv1⟩, by omega, by omega⟩
        | exact ⟨⟨gc_A_e hf.e gA, hv1⟩, ⟨by decide, by omega, by omega⟩, Or.inr rfl⟩
        | (rw [hr106]; split <;> exact ⟨by omega, by omega⟩)) ?_
    intro M84 hM84
    have hP := hM84
    rw [e3] at hP
    refine ⟨_, ?_, rfl, by decide, by decide, (hf.trans hP.1).o, ?_, fun s hs => by omega⟩
    · omega
    · exact fo_N.of gA hf h120 h121 (fun j l' a => hB j l' (by omega)) hP
  · intro c55
    refine And.intro (by
      first
        | omega
        | exact ⟨by omega, by omega⟩
        | exact ⟨⟨by omega, by omega⟩, by omega, by omega⟩
        | trivial
        | exact ⟨⟨by omega, by omega⟩, by omega, by omega⟩
        | exact ⟨by decide, by decide⟩
        | exact ⟨⟨hp1, hv1⟩, by omega, by omega⟩
        | exact ⟨⟨gc_A_e hf.e gA, hv1⟩, ⟨by decide, by omega, by omega⟩, Or.inr rfl⟩
        | (rw [hr106]; split <;> exact ⟨by omega, by omega⟩)) ?_
    refine And.intro (by
      first
        | omega
        | exact ⟨by omega, by omega⟩
        | exact ⟨⟨by omega, by omega⟩, by omega, by omega⟩
        | trivial
        | exact ⟨⟨by omega, by omega⟩, by omega, by omega⟩
        | exact ⟨by decide, by decide⟩
        | exact ⟨⟨hp1, hv1⟩, by omega, by omega⟩
        | exact ⟨⟨gc_A_e hf.e gA, hv1⟩, ⟨by decide, by omega, by omega⟩, Or.inr rfl⟩
        | (rw [hr106]; split <;> exact ⟨by omega, by omega⟩)) ?_
    intro M63 hM63
    obtain ⟨n1, n2, n3⟩ := hM63
    have n1' := hf.trans n1
    refine ⟨_, ?_, rfl, by omega, by omega, n1', fun j a => ?_, fun j a => ?_, fun j l' a b => ?_⟩
    · omega
    · rw [n3 j (by omega)]; exact h120 j a
    · rw [n3 j (by omega)]; exact h121 j a
    · intro b' hb'
      by_cases e : (l' : Int) = l
      · have hh := n2 (j % 256) (Nat.mod_lt _ (by decide)) b' hb'
        rw [show (122 + l).toNat * 256 + j % 256 = j by omega, pl_fd_fr hf.e gp] at hh
        rw [hh, b, show ((122 + l' : Nat) : Int) = 122 + l by omega]
      · rw [n3 j (by omega)]
        exact hB j l' (by omega) b b' hb'

set_option maxRecDepth 20000 in
theorem vc_X10_findOutcomes_89  (M : ab_M) (K : List ab_V → ab_M → Prop) (hS : (gc_A M ∧ tv_ok M) ∧ (∀ Mx : ab_M, (fo_f 786 M Mx ∧ fo_O M Mx 786 1 256) → K [] Mx)) (n : Nat) (k : Int) (M1 : ab_M) (hI : n = (256 - k).toNat ∧ 0 ≤ k ∧ k ≤ 256 ∧ fo_f 786 M M1 ∧ fo_N M (M1 774) 1 ∧ fo_O M M1 786 1 k) : (-32768 ≤ (256 : Int) ∧ (256 : Int) < 32768) ∧ (ab_ir k ∧ ab_ir (256 : Int)) ∧ (((256 : Int) ≤ k → K [] M1) ∧ (k < (256 : Int) → (0 ≤ M1 26 3 ∧ M1 26 3 ≤ 120) ∧ (∀ r106 : Int, (r106 = if 0 < M1 26 3 then 0 else 120) → (-32768 ≤ (256 : Int) ∧ (256 : Int) < 32768) ∧ (0 ≤ ((r106 * (256 : Int)) + k) ∧ ((r106 * (256 : Int)) + k) < ((33280 : Nat) : Int)) ∧ (0 ≤ k ∧ k < ((256 : Nat) : Int)) ∧ (∃ n', n' < n ∧ ((n' = (256 - (k + 1)).toNat ∧ 0 ≤ (k + 1) ∧ (k + 1) ≤ 256 ∧ fo_f 786 M (ab_up M1 786 k.toNat (M1 774 (((r106 * (256 : Int)) + k).toNat))) ∧ fo_N M ((ab_up M1 786 k.toNat (M1 774 (((r106 * (256 : Int)) + k).toNat))) 774) 1 ∧ fo_O M (ab_up M1 786 k.toNat (M1 774 (((r106 * (256 : Int)) + k).toNat))) 786 1 (k + 1))))))) := by
  obtain ⟨hn, hk0, hk1, hf, hN, hO⟩ := hI
  obtain ⟨⟨gA, gv⟩, gK⟩ := hS
  have gL := gA.2.1
  have gp := gA.1
  have g3 := gL.1
  have g8 := gp.2.1
  have hfe := hf.e (by decide)
  have e3 : M1 26 3 = M 26 3 := hfe.c 26 3 (by decide)
  refine And.intro (by
    first
      | omega
      | exact ⟨by omega, by omega⟩
      | exact ⟨⟨by omega, by omega⟩, by omega, by omega⟩
      | trivial
      | exact ⟨⟨by omega, by omega⟩, by omega, by omega⟩
      | exact ⟨by decide, by decide⟩
      | exact ⟨⟨hp1, hv1⟩, by omega, by omega⟩
      | exact ⟨⟨gc_A_e hf.e gA, hv1⟩, ⟨by decide, by omega, by omega⟩, Or.inr rfl⟩
      | (rw [hr106]; split <;> exact ⟨by omega, by omega⟩)) ?_
  refine And.intro (by
    first
      | omega
      | exact ⟨by omega, by omega⟩
      | exact ⟨⟨by omega, by omega⟩, by omega, by omega⟩
      | trivial
      | exact ⟨⟨by omega, by omega⟩, by omega, by omega⟩
      | exact ⟨by decide, by decide⟩
      | exact ⟨⟨hp1, hv1⟩, by omega, by omega⟩
      | exact ⟨⟨gc_A_e hf.e gA, hv1⟩, ⟨by decide, by omega, by omega⟩, Or.inr rfl⟩
      | (rw [hr106]; split <;> exact ⟨by omega, by omega⟩)) ?_
  refine ⟨?_, ?_⟩
  · intro c93
    rw [show k = 256 by omega] at hO
    exact gK _ ⟨hf, hO⟩
  · intro c93
    refine And.intro (by
      first
        | omega
        | exact ⟨by omega, by omega⟩
        | exact ⟨⟨by omega, by omega⟩, by omega, by omega⟩
        | trivial
        | exact ⟨⟨by omega, by omega⟩, by omega, by omega⟩
        | exact ⟨by decide, by decide⟩
        | exact ⟨⟨hp1, hv1⟩, by omega, by omega⟩
        | exact ⟨⟨gc_A_e hf.e gA, hv1⟩, ⟨by decide, by omega, by omega⟩, Or.inr rfl⟩
        | (rw [hr106]; split <;> exact ⟨by omega, by omega⟩)) ?_
    intro r106 hr106
    refine And.intro (by
      first
        | omega
        | exact ⟨by omega, by omega⟩
        | exact ⟨⟨by omega, by omega⟩, by omega, by omega⟩
        | trivial
        | exact ⟨⟨by omega, by omega⟩, by omega, by omega⟩
        | exact ⟨by decide, by decide⟩
        | exact ⟨⟨hp1, hv1⟩, by omega, by omega⟩
        | exact ⟨⟨gc_A_e hf.e gA, hv1⟩, ⟨by decide, by omega, by omega⟩, Or.inr rfl⟩
        | (rw [hr106]; split <;> exact ⟨by omega, by omega⟩)) ?_
    refine And.intro (by
      first
        | omega
        | exact ⟨by omega, by omega⟩
        | exact ⟨⟨by omega, by omega⟩, by omega, by omega⟩
        | trivial
        | exact ⟨⟨by omega, by omega⟩, by omega, by omega⟩
        | exact ⟨by decide, by decide⟩
        | exact ⟨⟨hp1, hv1⟩, by omega, by omega⟩
        | exact ⟨⟨gc_A_e hf.e gA, hv1⟩, ⟨by decide, by omega, by omega⟩, Or.inr rfl⟩
        | (rw [hr106]; split <;> exact ⟨by omega, by omega⟩)) ?_
    refine And.intro (by
      first
        | omega
        | exact ⟨by omega, by omega⟩
        | exact ⟨⟨by omega, by omega⟩, by omega, by omega⟩
        | trivial
        | exact ⟨⟨by omega, by omega⟩, by omega, by omega⟩
        | exact ⟨by decide, by decide⟩
        | exact ⟨⟨hp1, hv1⟩, by omega, by omega⟩
        | exact ⟨⟨gc_A_e hf.e gA, hv1⟩, ⟨by decide, by omega, by omega⟩, Or.inr rfl⟩
        | (rw [hr106]; split <;> exact ⟨by omega, by omega⟩)) ?_
    have hst : ((if 0 < M1 26 3 then (0 : Int) else 120) * 256 + k).toNat = pr_s M * 256 + k.toNat := by
      unfold pr_s
      rw [e3]
      split <;> omega
    rw [hr106]
    refine ⟨_, ?_, rfl, by omega, by omega, hf.up _ _, ?_, fun s hs b hb => ?_⟩
    · omega
    · rw [show (ab_up M1 786 k.toNat (M1 774 ((if 0 < M1 26 3 then (0 : Int) else 120) * 256 + k).toNat)) 774 = M1 774 from funext fun j => ab_up_o (by decide) j]
      exact hN
    · by_cases e : (s : Int) = k
      · rw [show k.toNat = s by omega, ab_up_s, pz_b_lb _ hb, show (((if 0 < M1 26 3 then (0 : Int) else 120) * 256 + k)).toNat = pr_s M * 256 + s by omega]
        exact hN _ b (by omega) (pr_s_D 1 (by omega))
      · rw [ab_up_k (by omega)]
        exact hO s (by omega) b hb

set_option maxRecDepth 20000 in
set_option maxHeartbeats 1000000 in
theorem ok_X10_findOutcomes (E : ab_E) : ab_Ok E 6 196 S_X10_findOutcomes := by
  refine ab_mk rq_X10_findOutcomes tk_X10_findOutcomes (rt := 0) (rfl) (cuts := [6, 47, 89]) (G := [(194, S_X10_clearNotes), (197, S_X10_noteSecondCheck), (198, S_X10_sweep), (28, S_X1_startRow)]) (List.forall_mem_cons.mpr ⟨⟨3, by decide, ok_X10_clearNotes E⟩, List.forall_mem_cons.mpr ⟨⟨5, by decide, ok_X10_noteSecondCheck E⟩, List.forall_mem_cons.mpr ⟨⟨5, by decide, ok_X10_sweep E⟩, List.forall_mem_cons.mpr ⟨⟨1, by decide, ok_X1_startRow E⟩, fun _ h => absurd h List.not_mem_nil⟩⟩⟩⟩) (by decide) 118 rfl ?_
  intro a M K wd wa hS
  unfold S_X10_findOutcomes at hS
  split at hS
  ·
    refine ⟨Nat.le_of_ble_eq_true rfl, fun pc n L st M1 => match pc, L, st with
      | 6, [.inr (.inr (.inr (780, 10, 0))), .inr (.inr (.inr (786, 20, 256))), .inr (.inl k)], [] => (n = 2000 + (256 - k).toNat ∧ 0 ≤ k ∧ k ≤ 256 ∧ rn_f M M1 ∧ (∀ j : Nat, j / 256 = 120 → ((j % 256 : Nat) : Int) < k → M1 774 j = 65536) ∧ ∀ j : Nat, j / 256 = 121 → ((j % 256 : Nat) : Int) < k → M1 774 j = 131072)
      | 47, [.inr (.inr (.inr (780, 10, 0))), .inr (.inr (.inr (786, 20, 256))), .inr (.inl l)], [] => (n = 1000 + (4 - l).toNat ∧ 0 ≤ l ∧ l ≤ M 26 8 ∧ rn_f M M1 ∧ (∀ j : Nat, j / 256 = 120 → M1 774 j = 65536) ∧ (∀ j : Nat, j / 256 = 121 → M1 774 j = 131072) ∧ ∀ j l' : Nat, (l' : Int) < l → j / 256 = 122 + l' → ∀ b, b < 64 → (pz_lb (M1 774 j) b = true ↔ (pl_fd M ((j / 256 : Nat) : Int) ((j % 256 : Nat) : Int) 1).1 = (b : Int)))
      | 89, [.inr (.inr (.inr (780, 10, 0))), .inr (.inr (.inr (786, 20, 256))), .inr (.inl k)], [] => (n = (256 - k).toNat ∧ 0 ≤ k ∧ k ≤ 256 ∧ fo_f 786 M M1 ∧ fo_N M (M1 774) 1 ∧ fo_O M M1 786 1 k)
      | _, _, _ => False, ?_, ?_⟩
    · exact vc_X10_findOutcomes_0  M K  hS
    · intro pc n L st M1 hI wd1 wL wst
      (try dsimp only at hI)
      split at hI
      ·
        rename_i k
        exact vc_X10_findOutcomes_6  M K  hS n k _ hI
      ·
        rename_i l
        exact vc_X10_findOutcomes_47  M K  hS n l _ hI
      ·
        rename_i k
        exact vc_X10_findOutcomes_89  M K  hS n k _ hI
      · exact hI.elim
  · exact hS.elim
def S_X10_findEnds : ab_PT := fun a M K => match a with
  | [.inr (.inr (.inr (780, 10, 0))), .inr (.inl l), .inr (.inr (.inr (782, 21, 1024)))] => ((gc_A M ∧ tv_ok M) ∧ 0 ≤ l ∧ l < M 26 8) ∧ (∀ Mx : ab_M, (fo_f 782 M Mx ∧ fe_R M Mx l.toNat (M 392 l.toNat).toNat 4) → K [] Mx)
  | _ => False
set_option maxRecDepth 20000 in
theorem vc_X10_findEnds_0 (l : Int) (M : ab_M) (K : List ab_V → ab_M → Prop) (hS : ((gc_A M ∧ tv_ok M) ∧ 0 ≤ l ∧ l < M 26 8) ∧ (∀ Mx : ab_M, (fo_f 782 M Mx ∧ fe_R M Mx l.toNat (M 392 l.toNat).toNat 4) → K [] Mx)) : (0 ≤ M 26 3 ∧ M 26 3 ≤ 120) ∧ (∀ M1 : ab_M, ((∀ j : Nat, cu_C (M 26 3) j → M1 774 j = 0) ∧ ∀ o' k' : Nat, o' ≠ 774 → M1 o' k' = M o' k') → (ab_ir l ∧ M1 26 8 ≤ 4 ∧ 0 ≤ M1 26 8 ∧ (0 ≤ l ∧ l < M1 26 8 → ab_ir (M1 392 l.toNat)) ∧ 0 ≤ M1 26 3 ∧ M1 26 3 ≤ 120) ∧ (∀ o9 : Nat, (o9 = if 0 ≤ l ∧ l < M1 26 8 ∧ 0 ≤ M1 392 l.toNat ∧ M1 392 l.toNat < M1 26 3 then 26 + 1 + 1 + 3 * (M1 392 l.toNat).toNat else 26 + 362) → (-128 ≤ (122 : Int) ∧ (122 : Int) < 128) ∧ (-32768 ≤ (256 : Int) ∧ (256 : Int) < 32768) ∧ (∃ n', ((n' = ((4 - (0 : Int)) * 2000).toNat ∧ l = l ∧ o9 = 26 + 1 + 1 + 3 * (M 392 l.toNat).toNat ∧ (((122 : Int) + l) * (256 : Int)) = (122 + l) * 256 ∧ 0 ≤ (0 : Int) ∧ (0 : Int) ≤ 4 ∧ fo_f 782 M M1 ∧ fe_Z M (M1 774) l.toNat (M 392 l.toNat).toNat (M o9 14).toNat ∧ fe_R M M1 l.toNat (M 392 l.toNat).toNat (0 : Int)))))) := by
  obtain ⟨⟨⟨gA, gv⟩, gl0, gl1⟩, gK⟩ := hS
  have gL := gA.2.1
  have gp := gA.1
  have g3 := gL.1
  have g8 := gp.2.1
  obtain ⟨lr, y1, y2, y3, y4⟩ := gL.2.2.2.1 l.toNat (by omega)
  obtain ⟨-, -, -, -, y5⟩ := gL.2.2.1 lr y1 y3
  have y6 := gL.2.2.2.2.2.1 lr y1
  have y7 := gL.2.1 lr y1
  obtain ⟨e, he⟩ : ∃ e : Nat, M (26 + 1 + 1 + 3 * lr) 14 = (e : Int) := ⟨(M (26 + 1 + 1 + 3 * lr) 14).toNat, by omega⟩
  have ts := gp.2.2.2.1 lr y1
  have e392z : (M 392 l.toNat).toNat = lr := by rw [y2]; rfl
  rw [e392z] at gK ⊢
  
  refine And.intro (by
    first
      | omega
      | exact ⟨by omega, by omega⟩
      | exact ⟨⟨by omega, by omega⟩, by omega, by omega⟩
      | trivial
      | exact ⟨⟨by omega, by omega⟩, by omega, by omega⟩
      | exact ⟨by decide, by decide⟩
      | (rw [es, he, hr86, e392, e8, if_pos ⟨gl0, gl1⟩]; exact ⟨⟨hA1, hv1⟩, ⟨by omega, by omega, by omega⟩, Or.inl rfl⟩)
      | (rw [es]; exact ⟨⟨by have := ts.2.2.2.2.1; omega, by have := ts.2.2.2.2.1; omega⟩, hv1⟩)
      | (rw [es]; exact ⟨by omega, by omega⟩)
      | (split <;> exact ⟨by decide, by decide⟩)) ?_
  intro M1 hM1
  refine And.intro (by
    have e8 : M1 26 8 = M 26 8 := hM1.2 26 8 (by decide)
    have e3 : M1 26 3 = M 26 3 := hM1.2 26 3 (by decide)
    have e392 : M1 392 l.toNat = (lr : Int) := (hM1.2 392 _ (by decide)).trans y2
    exact ⟨⟨by omega, by omega⟩, by omega, by omega, fun _ => by rw [e392]; exact ⟨by omega, by omega⟩, by omega, by omega⟩) ?_
  intro o9 hr9
  refine And.intro (by
    first
      | omega
      | exact ⟨by omega, by omega⟩
      | exact ⟨⟨by omega, by omega⟩, by omega, by omega⟩
      | trivial
      | exact ⟨⟨by omega, by omega⟩, by omega, by omega⟩
      | exact ⟨by decide, by decide⟩
      | (rw [es, he, hr86, e392, e8, if_pos ⟨gl0, gl1⟩]; exact ⟨⟨hA1, hv1⟩, ⟨by omega, by omega, by omega⟩, Or.inl rfl⟩)
      | (rw [es]; exact ⟨⟨by have := ts.2.2.2.2.1; omega, by have := ts.2.2.2.2.1; omega⟩, hv1⟩)
      | (rw [es]; exact ⟨by omega, by omega⟩)
      | (split <;> exact ⟨by decide, by decide⟩)) ?_
  refine And.intro (by
    first
      | omega
      | exact ⟨by omega, by omega⟩
      | exact ⟨⟨by omega, by omega⟩, by omega, by omega⟩
      | trivial
      | exact ⟨⟨by omega, by omega⟩, by omega, by omega⟩
      | exact ⟨by decide, by decide⟩
      | (rw [es, he, hr86, e392, e8, if_pos ⟨gl0, gl1⟩]; exact ⟨⟨hA1, hv1⟩, ⟨by omega, by omega, by omega⟩, Or.inl rfl⟩)
      | (rw [es]; exact ⟨⟨by have := ts.2.2.2.2.1; omega, by have := ts.2.2.2.2.1; omega⟩, hv1⟩)
      | (rw [es]; exact ⟨by omega, by omega⟩)
      | (split <;> exact ⟨by decide, by decide⟩)) ?_
  have hs9 : o9 = 26 + 1 + 1 + 3 * lr := by
    have e8 : M1 26 8 = M 26 8 := hM1.2 26 8 (by decide)
    have e3 : M1 26 3 = M 26 3 := hM1.2 26 3 (by decide)
    have e392 : M1 392 l.toNat = (lr : Int) := (hM1.2 392 _ (by decide)).trans y2
    rw [hr9, e392, if_pos ⟨by omega, by omega, by omega, by omega⟩, Int.toNat_natCast]
  refine ⟨_, rfl, rfl, hs9, rfl, by decide, by decide, fun o k a _ _ _ => hM1.2 o k a, fun j _ _ q => hM1.1 j q, fun x w' b _ q => by omega⟩

set_option maxRecDepth 20000 in
theorem vc_X10_findEnds_26 (l : Int) (M : ab_M) (K : List ab_V → ab_M → Prop) (hS : ((gc_A M ∧ tv_ok M) ∧ 0 ≤ l ∧ l < M 26 8) ∧ (∀ Mx : ab_M, (fo_f 782 M Mx ∧ fe_R M Mx l.toNat (M 392 l.toNat).toNat 4) → K [] Mx)) (n : Nat) (l1 : Int) (s3 : Nat) (bh : Int) (w : Int) (M1 : ab_M) (hI : n = ((4 - w) * 2000).toNat ∧ l = l1 ∧ s3 = 26 + 1 + 1 + 3 * (M 392 l.toNat).toNat ∧ bh = (122 + l) * 256 ∧ 0 ≤ w ∧ w ≤ 4 ∧ fo_f 782 M M1 ∧ fe_Z M (M1 774) l.toNat (M 392 l.toNat).toNat (M s3 14).toNat ∧ fe_R M M1 l.toNat (M 392 l.toNat).toNat w) : (ab_ir w ∧ ab_ir (4 : Int)) ∧ (((4 : Int) ≤ w → K [] M1) ∧ (w < (4 : Int) → (∃ n', n' < n ∧ ((n' = ((4 - w) * 2000 - 1 - (0 : Int)).toNat ∧ 0 ≤ (0 : Int) ∧ (0 : Int) ≤ 256 ∧ w < 4 ∧ fe_B M1 l.toNat w.toNat (0 : Int) ∧ l = l1 ∧ s3 = 26 + 1 + 1 + 3 * (M 392 l.toNat).toNat ∧ bh = (122 + l) * 256 ∧ 0 ≤ w ∧ w ≤ 4 ∧ fo_f 782 M M1 ∧ fe_Z M (M1 774) l.toNat (M 392 l.toNat).toNat (M s3 14).toNat ∧ fe_R M M1 l.toNat (M 392 l.toNat).toNat w))))) := by
  obtain ⟨hn, q1, q2, q3, hw0, hw1, hf, hZ, hR⟩ := hI
  subst q1
  obtain ⟨⟨⟨gA, gv⟩, gl0, gl1⟩, gK⟩ := hS
  have gL := gA.2.1
  have gp := gA.1
  have g3 := gL.1
  have g8 := gp.2.1
  obtain ⟨lr, y1, y2, y3, y4⟩ := gL.2.2.2.1 l.toNat (by omega)
  obtain ⟨-, -, -, -, y5⟩ := gL.2.2.1 lr y1 y3
  have y6 := gL.2.2.2.2.2.1 lr y1
  have y7 := gL.2.1 lr y1
  obtain ⟨e, he⟩ : ∃ e : Nat, M (26 + 1 + 1 + 3 * lr) 14 = (e : Int) := ⟨(M (26 + 1 + 1 + 3 * lr) 14).toNat, by omega⟩
  have ts := gp.2.2.2.1 lr y1
  have e392z : (M 392 l.toNat).toNat = lr := by rw [y2]; rfl
  rw [e392z] at gK ⊢
  rw [e392z] at hZ hR q2
  subst q2
  subst q3
  have hfe := hf.e (by decide)
  have e3 : M1 26 3 = M 26 3 := hfe.c 26 3 (by decide)
  have e8 : M1 26 8 = M 26 8 := hfe.c 26 8 (by decide)
  have e392 : M1 392 l.toNat = (lr : Int) := (hfe.c 392 _ (by decide)).trans y2
  have es : ∀ j, M1 (26 + 1 + 1 + 3 * lr) j = M (26 + 1 + 1 + 3 * lr) j := fun j => hfe _ _ (by omega)
  have hv1 := ts_e_ok hfe gv
  have hA1 := gc_A_e hfe gA
  rw [he, Int.toNat_natCast] at hZ
  
  refine And.intro (by
    first
      | omega
      | exact ⟨by omega, by omega⟩
      | exact ⟨⟨by omega, by omega⟩, by omega, by omega⟩
      | trivial
      | exact ⟨⟨by omega, by omega⟩, by omega, by omega⟩
      | exact ⟨by decide, by decide⟩
      | (rw [es, he, hr86, e392, e8, if_pos ⟨gl0, gl1⟩]; exact ⟨⟨hA1, hv1⟩, ⟨by omega, by omega, by omega⟩, Or.inl rfl⟩)
      | (rw [es]; exact ⟨⟨by have := ts.2.2.2.2.1; omega, by have := ts.2.2.2.2.1; omega⟩, hv1⟩)
      | (rw [es]; exact ⟨by omega, by omega⟩)
      | (split <;> exact ⟨by decide, by decide⟩)) ?_
  refine ⟨?_, ?_⟩
  · intro c29
    rw [show w = 4 by omega] at hR
    exact gK _ ⟨hf, hR⟩
  · intro c29
    refine ⟨_, ?_, rfl, by decide, by decide, by omega, fun s hs => by omega, rfl, rfl, rfl, hw0, by omega, hf, ?_, hR⟩
    · omega
    · rw [he, Int.toNat_natCast]; exact hZ

set_option maxRecDepth 20000 in
theorem vc_X10_findEnds_35 (l : Int) (M : ab_M) (K : List ab_V → ab_M → Prop) (hS : ((gc_A M ∧ tv_ok M) ∧ 0 ≤ l ∧ l < M 26 8) ∧ (∀ Mx : ab_M, (fo_f 782 M Mx ∧ fe_R M Mx l.toNat (M 392 l.toNat).toNat 4) → K [] Mx)) (n : Nat) (l1 : Int) (s3 : Nat) (bh : Int) (w : Int) (k : Int) (M1 : ab_M) (hI : n = ((4 - w) * 2000 - 1 - k).toNat ∧ 0 ≤ k ∧ k ≤ 256 ∧ w < 4 ∧ fe_B M1 l.toNat w.toNat k ∧ l = l1 ∧ s3 = 26 + 1 + 1 + 3 * (M 392 l.toNat).toNat ∧ bh = (122 + l) * 256 ∧ 0 ≤ w ∧ w ≤ 4 ∧ fo_f 782 M M1 ∧ fe_Z M (M1 774) l.toNat (M 392 l.toNat).toNat (M s3 14).toNat ∧ fe_R M M1 l.toNat (M 392 l.toNat).toNat w) : (-32768 ≤ (256 : Int) ∧ (256 : Int) < 32768) ∧ (ab_ir k ∧ ab_ir (256 : Int)) ∧ (((256 : Int) ≤ k → (ab_ir l1 ∧ M1 26 8 ≤ 4 ∧ 0 ≤ M1 26 8) ∧ (∀ r86 : Int, (r86 = if 0 ≤ l1 ∧ l1 < M1 26 8 then M1 392 l1.toNat else -1) → ((gc_A M1 ∧ tv_ok M1) ∧ (0 ≤ (r86 + (1 : Int)) ∧ (r86 + (1 : Int)) ≤ (M1 s3 14) + 1 ∧ (M1 s3 14) < M1 26 3) ∧ ((0 : Int) = 0 ∨ (0 : Int) = 1)) ∧ (∀ M96 : ab_M, (cu_P M1 M96 (0 : Int) (r86 + (1 : Int)) (M1 s3 14)) → (∃ n', n' < n ∧ ((n' = ((4 - w) * 2000 - 1000 - (0 : Int)).toNat ∧ 0 ≤ (0 : Int) ∧ (0 : Int) ≤ 256 ∧ w < 4 ∧ fe_Q M M96 l.toNat (M 392 l.toNat).toNat w.toNat ∧ fe_k M M96 l.toNat (M 392 l.toNat).toNat w (0 : Int) ∧ l = l1 ∧ s3 = 26 + 1 + 1 + 3 * (M 392 l.toNat).toNat ∧ bh = (122 + l) * 256 ∧ 0 ≤ w ∧ w ≤ 4 ∧ fo_f 782 M M96 ∧ fe_Z M (M96 774) l.toNat (M 392 l.toNat).toNat (M s3 14).toNat ∧ fe_R M M96 l.toNat (M 392 l.toNat).toNat w)))))) ∧ (k < (256 : Int) → (-128 ≤ (64 : Int) ∧ (64 : Int) < 128) ∧ (0 ≤ k ∧ k < 2147483648 ∧ 0 < (64 : Int) ∧ (64 : Int) < 2147483648) ∧ (ab_ir (k / (64 : Int)) ∧ ab_ir w) ∧ ((¬ (k / (64 : Int)) = w → (0 ≤ (bh + k) ∧ (bh + k) < ((33280 : Nat) : Int)) ∧ (∃ n', n' < n ∧ ((n' = ((4 - w) * 2000 - 1 - (k + 1)).toNat ∧ 0 ≤ (k + 1) ∧ (k + 1) ≤ 256 ∧ w < 4 ∧ fe_B (ab_up M1 774 ((bh + k).toNat) ((0 : Nat) : Int)) l.toNat w.toNat (k + 1) ∧ l = l1 ∧ s3 = 26 + 1 + 1 + 3 * (M 392 l.toNat).toNat ∧ bh = (122 + l) * 256 ∧ 0 ≤ w ∧ w ≤ 4 ∧ fo_f 782 M (ab_up M1 774 ((bh + k).toNat) ((0 : Nat) : Int)) ∧ fe_Z M ((ab_up M1 774 ((bh + k).toNat) ((0 : Nat) : Int)) 774) l.toNat (M 392 l.toNat).toNat (M s3 14).toNat ∧ fe_R M (ab_up M1 774 ((bh + k).toNat) ((0 : Nat) : Int)) l.toNat (M 392 l.toNat).toNat w)))) ∧ ((k / (64 : Int)) = w → (-128 ≤ (64 : Int) ∧ (64 : Int) < 128) ∧ (0 ≤ k ∧ k < 2147483648 ∧ 0 < (64 : Int) ∧ (64 : Int) < 2147483648) ∧ (0 ≤ (bh + k) ∧ (bh + k) < ((33280 : Nat) : Int)) ∧ (∃ n', n' < n ∧ ((n' = ((4 - w) * 2000 - 1 - (k + 1)).toNat ∧ 0 ≤ (k + 1) ∧ (k + 1) ≤ 256 ∧ w < 4 ∧ fe_B (ab_up M1 774 ((bh + k).toNat) (ab_lshl ((1 : Nat) : Int) (k % (64 : Int)))) l.toNat w.toNat (k + 1) ∧ l = l1 ∧ s3 = 26 + 1 + 1 + 3 * (M 392 l.toNat).toNat ∧ bh = (122 + l) * 256 ∧ 0 ≤ w ∧ w ≤ 4 ∧ fo_f 782 M (ab_up M1 774 ((bh + k).toNat) (ab_lshl ((1 : Nat) : Int) (k % (64 : Int)))) ∧ fe_Z M ((ab_up M1 774 ((bh + k).toNat) (ab_lshl ((1 : Nat) : Int) (k % (64 : Int)))) 774) l.toNat (M 392 l.toNat).toNat (M s3 14).toNat ∧ fe_R M (ab_up M1 774 ((bh + k).toNat) (ab_lshl ((1 : Nat) : Int) (k % (64 : Int)))) l.toNat (M 392 l.toNat).toNat w))))))) := by
  obtain ⟨hn, hk0, hk1, hw4, hB, q1, q2, q3, hw0, hw1, hf, hZ, hR⟩ := hI
  subst q1
  obtain ⟨⟨⟨gA, gv⟩, gl0, gl1⟩, gK⟩ := hS
  have gL := gA.2.1
  have gp := gA.1
  have g3 := gL.1
  have g8 := gp.2.1
  obtain ⟨lr, y1, y2, y3, y4⟩ := gL.2.2.2.1 l.toNat (by omega)
  obtain ⟨-, -, -, -, y5⟩ := gL.2.2.1 lr y1 y3
  have y6 := gL.2.2.2.2.2.1 lr y1
  have y7 := gL.2.1 lr y1
  obtain ⟨e, he⟩ : ∃ e : Nat, M (26 + 1 + 1 + 3 * lr) 14 = (e : Int) := ⟨(M (26 + 1 + 1 + 3 * lr) 14).toNat, by omega⟩
  have ts := gp.2.2.2.1 lr y1
  have e392z : (M 392 l.toNat).toNat = lr := by rw [y2]; rfl
  rw [e392z] at gK ⊢
  rw [e392z] at hZ hR q2
  subst q2
  subst q3
  have hfe := hf.e (by decide)
  have e3 : M1 26 3 = M 26 3 := hfe.c 26 3 (by decide)
  have e8 : M1 26 8 = M 26 8 := hfe.c 26 8 (by decide)
  have e392 : M1 392 l.toNat = (lr : Int) := (hfe.c 392 _ (by decide)).trans y2
  have es : ∀ j, M1 (26 + 1 + 1 + 3 * lr) j = M (26 + 1 + 1 + 3 * lr) j := fun j => hfe _ _ (by omega)
  have hv1 := ts_e_ok hfe gv
  have hA1 := gc_A_e hfe gA
  rw [he, Int.toNat_natCast] at hZ
  
  refine And.intro (by
    first
      | omega
      | exact ⟨by omega, by omega⟩
      | exact ⟨⟨by omega, by omega⟩, by omega, by omega⟩
      | trivial
      | exact ⟨⟨by omega, by omega⟩, by omega, by omega⟩
      | exact ⟨by decide, by decide⟩
      | (rw [es, he, hr86, e392, e8, if_pos ⟨gl0, gl1⟩]; exact ⟨⟨hA1, hv1⟩, ⟨by omega, by omega, by omega⟩, Or.inl rfl⟩)
      | (rw [es]; exact ⟨⟨by have := ts.2.2.2.2.1; omega, by have := ts.2.2.2.2.1; omega⟩, hv1⟩)
      | (rw [es]; exact ⟨by omega, by omega⟩)
      | (split <;> exact ⟨by decide, by decide⟩)) ?_
  refine And.intro (by
    first
      | omega
      | exact ⟨by omega, by omega⟩
      | exact ⟨⟨by omega, by omega⟩, by omega, by omega⟩
      | trivial
      | exact ⟨⟨by omega, by omega⟩, by omega, by omega⟩
      | exact ⟨by decide, by decide⟩
      | (rw [es, he, hr86, e392, e8, if_pos ⟨gl0, gl1⟩]; exact ⟨⟨hA1, hv1⟩, ⟨by omega, by omega, by omega⟩, Or.inl rfl⟩)
      | (rw [es]; exact ⟨⟨by have := ts.2.2.2.2.1; omega, by have := ts.2.2.2.2.1; omega⟩, hv1⟩)
      | (rw [es]; exact ⟨by omega, by omega⟩)
      | (split <;> exact ⟨by decide, by decide⟩)) ?_
  refine ⟨?_, ?_⟩
  · intro c40
    refine And.intro (by
      first
        | omega
        | exact ⟨by omega, by omega⟩
        | exact ⟨⟨by omega, by omega⟩, by omega, by omega⟩
        | trivial
        | exact ⟨⟨by omega, by omega⟩, by omega, by omega⟩
        | exact ⟨by decide, by decide⟩
        | (rw [es, he, hr86, e392, e8, if_pos ⟨gl0, gl1⟩]; exact ⟨⟨hA1, hv1⟩, ⟨by omega, by omega, by omega⟩, Or.inl rfl⟩)
        | (rw [es]; exact ⟨⟨by have := ts.2.2.2.2.1; omega, by have := ts.2.2.2.2.1; omega⟩, hv1⟩)
        | (rw [es]; exact ⟨by omega, by omega⟩)
        | (split <;> exact ⟨by decide, by decide⟩)) ?_
    intro r86 hr86
    refine And.intro (by
      first
        | omega
        | exact ⟨by omega, by omega⟩
        | exact ⟨⟨by omega, by omega⟩, by omega, by omega⟩
        | trivial
        | exact ⟨⟨by omega, by omega⟩, by omega, by omega⟩
        | exact ⟨by decide, by decide⟩
        | (rw [es, he, hr86, e392, e8, if_pos ⟨gl0, gl1⟩]; exact ⟨⟨hA1, hv1⟩, ⟨by omega, by omega, by omega⟩, Or.inl rfl⟩)
        | (rw [es]; exact ⟨⟨by have := ts.2.2.2.2.1; omega, by have := ts.2.2.2.2.1; omega⟩, hv1⟩)
        | (rw [es]; exact ⟨by omega, by omega⟩)
        | (split <;> exact ⟨by decide, by decide⟩)) ?_
    intro M96 hM96
    have hP := hM96
    rw [hr86, e392, e8, if_pos ⟨gl0, gl1⟩, es, he] at hP
    rw [show k = 256 by omega] at hB
    obtain ⟨z1, z2⟩ := fe_sweep gA (by omega) y2 (by omega) he hf hZ hB hP
    have hn782 : ∀ j, M96 782 j = M1 782 j := fun j => hP.1 782 j (by decide) (by decide) (by omega)
    refine ⟨_, ?_, rfl, by decide, by decide, hw4, z2, fun x b a => by omega, rfl, rfl, rfl, hw0, by omega, hf.n hP.1, ?_, fun x w' b a1 a2 a3 => ?_⟩
    · omega
    · rw [he, Int.toNat_natCast]; exact z1
    · rw [hn782]; exact hR x w' b a1 a2 a3
  · intro c40
    refine And.intro (by
      first
        | omega
        | exact ⟨by omega, by omega⟩
        | exact ⟨⟨by omega, by omega⟩, by omega, by omega⟩
        | trivial
        | exact ⟨⟨by omega, by omega⟩, by omega, by omega⟩
        | exact ⟨by decide, by decide⟩
        | (rw [es, he, hr86, e392, e8, if_pos ⟨gl0, gl1⟩]; exact ⟨⟨hA1, hv1⟩, ⟨by omega, by omega, by omega⟩, Or.inl rfl⟩)
        | (rw [es]; exact ⟨⟨by have := ts.2.2.2.2.1; omega, by have := ts.2.2.2.2.1; omega⟩, hv1⟩)
        | (rw [es]; exact ⟨by omega, by omega⟩)
        | (split <;> exact ⟨by decide, by decide⟩)) ?_
    refine And.intro (by
      first
        | omega
        | exact ⟨by omega, by omega⟩
        | exact ⟨⟨by omega, by omega⟩, by omega, by omega⟩
        | trivial
        | exact ⟨⟨by omega, by omega⟩, by omega, by omega⟩
        | exact ⟨by decide, by decide⟩
        | (rw [es, he, hr86, e392, e8, if_pos ⟨gl0, gl1⟩]; exact ⟨⟨hA1, hv1⟩, ⟨by omega, by omega, by omega⟩, Or.inl rfl⟩)
        | (rw [es]; exact ⟨⟨by have := ts.2.2.2.2.1; omega, by have := ts.2.2.2.2.1; omega⟩, hv1⟩)
        | (rw [es]; exact ⟨by omega, by omega⟩)
        | (split <;> exact ⟨by decide, by decide⟩)) ?_
    refine And.intro (by
      first
        | omega
        | exact ⟨by omega, by omega⟩
        | exact ⟨⟨by omega, by omega⟩, by omega, by omega⟩
        | trivial
        | exact ⟨⟨by omega, by omega⟩, by omega, by omega⟩
        | exact ⟨by decide, by decide⟩
        | (rw [es, he, hr86, e392, e8, if_pos ⟨gl0, gl1⟩]; exact ⟨⟨hA1, hv1⟩, ⟨by omega, by omega, by omega⟩, Or.inl rfl⟩)
        | (rw [es]; exact ⟨⟨by have := ts.2.2.2.2.1; omega, by have := ts.2.2.2.2.1; omega⟩, hv1⟩)
        | (rw [es]; exact ⟨by omega, by omega⟩)
        | (split <;> exact ⟨by decide, by decide⟩)) ?_
    refine ⟨?_, ?_⟩
    · intro c59
      refine And.intro (by
        first
          | omega
          | exact ⟨by omega, by omega⟩
          | exact ⟨⟨by omega, by omega⟩, by omega, by omega⟩
          | trivial
          | exact ⟨⟨by omega, by omega⟩, by omega, by omega⟩
          | exact ⟨by decide, by decide⟩
          | (rw [es, he, hr86, e392, e8, if_pos ⟨gl0, gl1⟩]; exact ⟨⟨hA1, hv1⟩, ⟨by omega, by omega, by omega⟩, Or.inl rfl⟩)
          | (rw [es]; exact ⟨⟨by have := ts.2.2.2.2.1; omega, by have := ts.2.2.2.2.1; omega⟩, hv1⟩)
          | (rw [es]; exact ⟨by omega, by omega⟩)
          | (split <;> exact ⟨by decide, by decide⟩)) ?_
      refine ⟨_, ?_, rfl, by omega, by omega, by omega, fun s hs b hb => ?_, rfl, rfl, rfl, hw0, by omega, hf.up4 _ _, ?_, ?_⟩
      · omega
      · by_cases e2 : (s : Int) = k
        · rw [show (122 + l.toNat) * 256 + s = ((122 + l) * 256 + k).toNat by omega, ab_up_s]
          first
            | (rw [pz_lb_one (by omega) (by omega) hb, decide_eq_true_iff]; omega)
            | (rw [pz_lb_n0]
               exact ⟨fun z => (by cases z), fun z => by omega⟩)
        · rw [ab_up_k (by omega)]
          exact hB s (by omega) b hb
      · rw [he, Int.toNat_natCast]
        intro j a b c
        rw [ab_up_k (by omega)]
        exact hZ j a b c
      · intro x w' b a1 a2 a3
        rw [ab_up_o (by decide)]
        exact hR x w' b a1 a2 a3
    · intro c59
      refine And.intro (by
        first
          | omega
          | exact ⟨by omega, by omega⟩
          | exact ⟨⟨by omega, by omega⟩, by omega, by omega⟩
          | trivial
          | exact ⟨⟨by omega, by omega⟩, by omega, by omega⟩
          | exact ⟨by decide, by decide⟩
          | (rw [es, he, hr86, e392, e8, if_pos ⟨gl0, gl1⟩]; exact ⟨⟨hA1, hv1⟩, ⟨by omega, by omega, by omega⟩, Or.inl rfl⟩)
          | (rw [es]; exact ⟨⟨by have := ts.2.2.2.2.1; omega, by have := ts.2.2.2.2.1; omega⟩, hv1⟩)
          | (rw [es]; exact ⟨by omega, by omega⟩)
          | (split <;> exact ⟨by decide, by decide⟩)) ?_
      refine And.intro (by
        first
          | omega
          | exact ⟨by omega, by omega⟩
          | exact ⟨⟨by omega, by omega⟩, by omega, by omega⟩
          | trivial
          | exact ⟨⟨by omega, by omega⟩, by omega, by omega⟩
          | exact ⟨by decide, by decide⟩
          | (rw [es, he, hr86, e392, e8, if_pos ⟨gl0, gl1⟩]; exact ⟨⟨hA1, hv1⟩, ⟨by omega, by omega, by omega⟩, Or.inl rfl⟩)
          | (rw [es]; exact ⟨⟨by have := ts.2.2.2.2.1; omega, by have := ts.2.2.2.2.1; omega⟩, hv1⟩)
          | (rw [es]; exact ⟨by omega, by omega⟩)
          | (split <;> exact ⟨by decide, by decide⟩)) ?_
      refine And.intro (by
        first
          | omega
          | exact ⟨by omega, by omega⟩
          | exact ⟨⟨by omega, by omega⟩, by omega, by omega⟩
          | trivial
          | exact ⟨⟨by omega, by omega⟩, by omega, by omega⟩
          | exact ⟨by decide, by decide⟩
          | (rw [es, he, hr86, e392, e8, if_pos ⟨gl0, gl1⟩]; exact ⟨⟨hA1, hv1⟩, ⟨by omega, by omega, by omega⟩, Or.inl rfl⟩)
          | (rw [es]; exact ⟨⟨by have := ts.2.2.2.2.1; omega, by have := ts.2.2.2.2.1; omega⟩, hv1⟩)
          | (rw [es]; exact ⟨by omega, by omega⟩)
          | (split <;> exact ⟨by decide, by decide⟩)) ?_
      refine ⟨_, ?_, rfl, by omega, by omega, by omega, fun s hs b hb => ?_, rfl, rfl, rfl, hw0, by omega, hf.up4 _ _, ?_, ?_⟩
      · omega
      · by_cases e2 : (s : Int) = k
        · rw [show (122 + l.toNat) * 256 + s = ((122 + l) * 256 + k).toNat by omega, ab_up_s]
          first
            | (rw [pz_lb_one (by omega) (by omega) hb, decide_eq_true_iff]; omega)
            | (rw [pz_lb_n0]
               exact ⟨fun z => (by cases z), fun z => by omega⟩)
        · rw [ab_up_k (by omega)]
          exact hB s (by omega) b hb
      · rw [he, Int.toNat_natCast]
        intro j a b c
        rw [ab_up_k (by omega)]
        exact hZ j a b c
      · intro x w' b a1 a2 a3
        rw [ab_up_o (by decide)]
        exact hR x w' b a1 a2 a3

set_option maxRecDepth 20000 in
theorem vc_X10_findEnds_102 (l : Int) (M : ab_M) (K : List ab_V → ab_M → Prop) (hS : ((gc_A M ∧ tv_ok M) ∧ 0 ≤ l ∧ l < M 26 8) ∧ (∀ Mx : ab_M, (fo_f 782 M Mx ∧ fe_R M Mx l.toNat (M 392 l.toNat).toNat 4) → K [] Mx)) (n : Nat) (l1 : Int) (s3 : Nat) (bh : Int) (w : Int) (k : Int) (M1 : ab_M) (hI : n = ((4 - w) * 2000 - 1000 - k).toNat ∧ 0 ≤ k ∧ k ≤ 256 ∧ w < 4 ∧ fe_Q M M1 l.toNat (M 392 l.toNat).toNat w.toNat ∧ fe_k M M1 l.toNat (M 392 l.toNat).toNat w k ∧ l = l1 ∧ s3 = 26 + 1 + 1 + 3 * (M 392 l.toNat).toNat ∧ bh = (122 + l) * 256 ∧ 0 ≤ w ∧ w ≤ 4 ∧ fo_f 782 M M1 ∧ fe_Z M (M1 774) l.toNat (M 392 l.toNat).toNat (M s3 14).toNat ∧ fe_R M M1 l.toNat (M 392 l.toNat).toNat w) : (-32768 ≤ (256 : Int) ∧ (256 : Int) < 32768) ∧ (ab_ir k ∧ ab_ir (256 : Int)) ∧ (((256 : Int) ≤ k → (∃ n', n' < n ∧ ((n' = ((4 - (w + 1)) * 2000).toNat ∧ l = l1 ∧ s3 = 26 + 1 + 1 + 3 * (M 392 l.toNat).toNat ∧ bh = (122 + l) * 256 ∧ 0 ≤ (w + 1) ∧ (w + 1) ≤ 4 ∧ fo_f 782 M M1 ∧ fe_Z M (M1 774) l.toNat (M 392 l.toNat).toNat (M s3 14).toNat ∧ fe_R M M1 l.toNat (M 392 l.toNat).toNat (w + 1))))) ∧ (k < (256 : Int) → (ab_ir ((M1 s3 2) * 256 + k) ∧ tv_ok M1) ∧ (∀ r120 : Int, (r120 = if ¬ tv M1 (M1 s3 2) k = 0 then 1 else 0) → (ab_ir r120) ∧ ((r120 = 0 → (0 ≤ ((k * (4 : Int)) + w) ∧ ((k * (4 : Int)) + w) < ((1024 : Nat) : Int)) ∧ (∃ n', n' < n ∧ ((n' = ((4 - w) * 2000 - 1000 - (k + 1)).toNat ∧ 0 ≤ (k + 1) ∧ (k + 1) ≤ 256 ∧ w < 4 ∧ fe_Q M (ab_up M1 782 (((k * (4 : Int)) + w).toNat) ((0 : Nat) : Int)) l.toNat (M 392 l.toNat).toNat w.toNat ∧ fe_k M (ab_up M1 782 (((k * (4 : Int)) + w).toNat) ((0 : Nat) : Int)) l.toNat (M 392 l.toNat).toNat w (k + 1) ∧ l = l1 ∧ s3 = 26 + 1 + 1 + 3 * (M 392 l.toNat).toNat ∧ bh = (122 + l) * 256 ∧ 0 ≤ w ∧ w ≤ 4 ∧ fo_f 782 M (ab_up M1 782 (((k * (4 : Int)) + w).toNat) ((0 : Nat) : Int)) ∧ fe_Z M ((ab_up M1 782 (((k * (4 : Int)) + w).toNat) ((0 : Nat) : Int)) 774) l.toNat (M 392 l.toNat).toNat (M s3 14).toNat ∧ fe_R M (ab_up M1 782 (((k * (4 : Int)) + w).toNat) ((0 : Nat) : Int)) l.toNat (M 392 l.toNat).toNat w)))) ∧ (¬ r120 = 0 → (-32768 ≤ (256 : Int) ∧ (256 : Int) < 32768) ∧ (0 ≤ (((M1 s3 17) * (256 : Int)) + k) ∧ (((M1 s3 17) * (256 : Int)) + k) < ((33280 : Nat) : Int)) ∧ (0 ≤ ((k * (4 : Int)) + w) ∧ ((k * (4 : Int)) + w) < ((1024 : Nat) : Int)) ∧ (∃ n', n' < n ∧ ((n' = ((4 - w) * 2000 - 1000 - (k + 1)).toNat ∧ 0 ≤ (k + 1) ∧ (k + 1) ≤ 256 ∧ w < 4 ∧ fe_Q M (ab_up M1 782 (((k * (4 : Int)) + w).toNat) (M1 774 ((((M1 s3 17) * (256 : Int)) + k).toNat))) l.toNat (M 392 l.toNat).toNat w.toNat ∧ fe_k M (ab_up M1 782 (((k * (4 : Int)) + w).toNat) (M1 774 ((((M1 s3 17) * (256 : Int)) + k).toNat))) l.toNat (M 392 l.toNat).toNat w (k + 1) ∧ l = l1 ∧ s3 = 26 + 1 + 1 + 3 * (M 392 l.toNat).toNat ∧ bh = (122 + l) * 256 ∧ 0 ≤ w ∧ w ≤ 4 ∧ fo_f 782 M (ab_up M1 782 (((k * (4 : Int)) + w).toNat) (M1 774 ((((M1 s3 17) * (256 : Int)) + k).toNat))) ∧ fe_Z M ((ab_up M1 782 (((k * (4 : Int)) + w).toNat) (M1 774 ((((M1 s3 17) * (256 : Int)) + k).toNat))) 774) l.toNat (M 392 l.toNat).toNat (M s3 14).toNat ∧ fe_R M (ab_up M1 782 (((k * (4 : Int)) + w).toNat) (M1 774 ((((M1 s3 17) * (256 : Int)) + k).toNat))) l.toNat (M 392 l.toNat).toNat w)))))))) := by
  obtain ⟨hn, hk0, hk1, hw4, hQ, hk, q1, q2, q3, hw0, hw1, hf, hZ, hR⟩ := hI
  subst q1
  obtain ⟨⟨⟨gA, gv⟩, gl0, gl1⟩, gK⟩ := hS
  have gL := gA.2.1
  have gp := gA.1
  have g3 := gL.1
  have g8 := gp.2.1
  obtain ⟨lr, y1, y2, y3, y4⟩ := gL.2.2.2.1 l.toNat (by omega)
  obtain ⟨-, -, -, -, y5⟩ := gL.2.2.1 lr y1 y3
  have y6 := gL.2.2.2.2.2.1 lr y1
  have y7 := gL.2.1 lr y1
  obtain ⟨e, he⟩ : ∃ e : Nat, M (26 + 1 + 1 + 3 * lr) 14 = (e : Int) := ⟨(M (26 + 1 + 1 + 3 * lr) 14).toNat, by omega⟩
  have ts := gp.2.2.2.1 lr y1
  have e392z : (M 392 l.toNat).toNat = lr := by rw [y2]; rfl
  rw [e392z] at gK ⊢
  rw [e392z] at hZ hR q2
  subst q2
  subst q3
  have hfe := hf.e (by decide)
  have e3 : M1 26 3 = M 26 3 := hfe.c 26 3 (by decide)
  have e8 : M1 26 8 = M 26 8 := hfe.c 26 8 (by decide)
  have e392 : M1 392 l.toNat = (lr : Int) := (hfe.c 392 _ (by decide)).trans y2
  have es : ∀ j, M1 (26 + 1 + 1 + 3 * lr) j = M (26 + 1 + 1 + 3 * lr) j := fun j => hfe _ _ (by omega)
  have hv1 := ts_e_ok hfe gv
  have hA1 := gc_A_e hfe gA
  rw [he, Int.toNat_natCast] at hZ
  rw [e392z] at hQ hk
  have hgo : 0 ≤ M (26 + 1 + 1 + 3 * lr) 17 ∧ M (26 + 1 + 1 + 3 * lr) 17 < 130 := by
    rcases y7.1 with z | z | z | ⟨l2, q, z1, z2, z3⟩ <;> omega
  refine And.intro (by
    first
      | omega
      | exact ⟨by omega, by omega⟩
      | exact ⟨⟨by omega, by omega⟩, by omega, by omega⟩
      | trivial
      | exact ⟨⟨by omega, by omega⟩, by omega, by omega⟩
      | exact ⟨by decide, by decide⟩
      | (rw [es, he, hr86, e392, e8, if_pos ⟨gl0, gl1⟩]; exact ⟨⟨hA1, hv1⟩, ⟨by omega, by omega, by omega⟩, Or.inl rfl⟩)
      | (rw [es]; exact ⟨⟨by have := ts.2.2.2.2.1; omega, by have := ts.2.2.2.2.1; omega⟩, hv1⟩)
      | (rw [es]; exact ⟨by omega, by omega⟩)
      | (split <;> exact ⟨by decide, by decide⟩)) ?_
  refine And.intro (by
    first
      | omega
      | exact ⟨by omega, by omega⟩
      | exact ⟨⟨by omega, by omega⟩, by omega, by omega⟩
      | trivial
      | exact ⟨⟨by omega, by omega⟩, by omega, by omega⟩
      | exact ⟨by decide, by decide⟩
      | (rw [es, he, hr86, e392, e8, if_pos ⟨gl0, gl1⟩]; exact ⟨⟨hA1, hv1⟩, ⟨by omega, by omega, by omega⟩, Or.inl rfl⟩)
      | (rw [es]; exact ⟨⟨by have := ts.2.2.2.2.1; omega, by have := ts.2.2.2.2.1; omega⟩, hv1⟩)
      | (rw [es]; exact ⟨by omega, by omega⟩)
      | (split <;> exact ⟨by decide, by decide⟩)) ?_
  refine ⟨?_, ?_⟩
  · intro c107
    refine ⟨_, ?_, rfl, rfl, rfl, rfl, by omega, by omega, hf, ?_, hR.next hw0 ?_⟩
    · omega
    · rw [he, Int.toNat_natCast]; exact hZ
    · rw [show k = 256 by omega] at hk; exact hk
  · intro c107
    refine And.intro (by
      first
        | omega
        | exact ⟨by omega, by omega⟩
        | exact ⟨⟨by omega, by omega⟩, by omega, by omega⟩
        | trivial
        | exact ⟨⟨by omega, by omega⟩, by omega, by omega⟩
        | exact ⟨by decide, by decide⟩
        | (rw [es, he, hr86, e392, e8, if_pos ⟨gl0, gl1⟩]; exact ⟨⟨hA1, hv1⟩, ⟨by omega, by omega, by omega⟩, Or.inl rfl⟩)
        | (rw [es]; exact ⟨⟨by have := ts.2.2.2.2.1; omega, by have := ts.2.2.2.2.1; omega⟩, hv1⟩)
        | (rw [es]; exact ⟨by omega, by omega⟩)
        | (split <;> exact ⟨by decide, by decide⟩)) ?_
    intro r120 hr120
    refine And.intro (by
      first
        | omega
        | exact ⟨by omega, by omega⟩
        | exact ⟨⟨by omega, by omega⟩, by omega, by omega⟩
        | trivial
        | exact ⟨⟨by omega, by omega⟩, by omega, by omega⟩
        | exact ⟨by decide, by decide⟩
        | (rw [es, he, hr86, e392, e8, if_pos ⟨gl0, gl1⟩]; exact ⟨⟨hA1, hv1⟩, ⟨by omega, by omega, by omega⟩, Or.inl rfl⟩)
        | (rw [es]; exact ⟨⟨by have := ts.2.2.2.2.1; omega, by have := ts.2.2.2.2.1; omega⟩, hv1⟩)
        | (rw [es]; exact ⟨by omega, by omega⟩)
        | (split <;> exact ⟨by decide, by decide⟩)) ?_
    refine ⟨?_, ?_⟩
    · intro c135
      rw [hr120] at c135
      rw [ab_bf] at c135
      clear hr120 r120
      refine And.intro (by
        first
          | omega
          | exact ⟨by omega, by omega⟩
          | exact ⟨⟨by omega, by omega⟩, by omega, by omega⟩
          | trivial
          | exact ⟨⟨by omega, by omega⟩, by omega, by omega⟩
          | exact ⟨by decide, by decide⟩
          | (rw [es, he, hr86, e392, e8, if_pos ⟨gl0, gl1⟩]; exact ⟨⟨hA1, hv1⟩, ⟨by omega, by omega, by omega⟩, Or.inl rfl⟩)
          | (rw [es]; exact ⟨⟨by have := ts.2.2.2.2.1; omega, by have := ts.2.2.2.2.1; omega⟩, hv1⟩)
          | (rw [es]; exact ⟨by omega, by omega⟩)
          | (split <;> exact ⟨by decide, by decide⟩)) ?_
      have htv := ts_e_tv hfe
      rw [htv, es] at c135
      have h782 : ∀ (v : Int) (x b : Nat), b < 64 → (x : Int) < k + 1 → (pz_lb v b = true ↔ ¬ tv M (M (26 + 1 + 1 + 3 * lr) 2) k = 0 ∧ fe_w M l.toNat lr k.toNat (64 * w.toNat + b)) → (pz_lb (ab_up M1 782 ((k * 4) + w).toNat v 782 (4 * x + w.toNat)) b = true ↔ ¬ tv M (M (26 + 1 + 1 + 3 * lr) 2) (x : Int) = 0 ∧ fe_w M l.toNat lr x (64 * w.toNat + b)) := fun v x b hb hx hv => by
        by_cases e2 : (x : Int) = k
        · rw [show 4 * x + w.toNat = ((k * 4) + w).toNat by omega, ab_up_s, hv, e2, show k.toNat = x by omega]
        · rw [ab_up_k (by omega)]
          exact hk x b (by omega) hb
      refine ⟨_, ?_, rfl, by omega, by omega, hw4, ?_, fun x b a1 a2 => h782 _ x b a2 a1 ?_, rfl, rfl, rfl, hw0, by omega, hf.up _ _, ?_, fun x w' b a1 a2 a3 => ?_⟩
      · omega
      · intro x b a1 a2
        rw [ab_up_o (by decide)]
        exact hQ x b a1 a2
      · first
          | (rw [es, show (M (26 + 1 + 1 + 3 * lr) 17 * 256 + k) = M (26 + 1 + 1 + 3 * lr) 17 * 256 + ((k.toNat : Nat) : Int) by omega, hQ k.toNat b (by omega) a2]
             exact ⟨fun z => ⟨c135, z⟩, fun z => z.2⟩)
          | (rw [pz_lb_n0]
             exact ⟨fun z => (by cases z), fun z => absurd z.1 c135⟩)
      · rw [he, Int.toNat_natCast]
        intro j a b c
        rw [ab_up_o (by decide)]
        exact hZ j a b c
      · rw [ab_up_k (by omega)]
        exact hR x w' b a1 a2 a3
    · intro c135
      rw [hr120] at c135
      rw [ab_bt] at c135
      clear hr120 r120
      refine And.intro (by
        first
          | omega
          | exact ⟨by omega, by omega⟩
          | exact ⟨⟨by omega, by omega⟩, by omega, by omega⟩
          | trivial
          | exact ⟨⟨by omega, by omega⟩, by omega, by omega⟩
          | exact ⟨by decide, by decide⟩
          | (rw [es, he, hr86, e392, e8, if_pos ⟨gl0, gl1⟩]; exact ⟨⟨hA1, hv1⟩, ⟨by omega, by omega, by omega⟩, Or.inl rfl⟩)
          | (rw [es]; exact ⟨⟨by have := ts.2.2.2.2.1; omega, by have := ts.2.2.2.2.1; omega⟩, hv1⟩)
          | (rw [es]; exact ⟨by omega, by omega⟩)
          | (split <;> exact ⟨by decide, by decide⟩)) ?_
      refine And.intro (by
        first
          | omega
          | exact ⟨by omega, by omega⟩
          | exact ⟨⟨by omega, by omega⟩, by omega, by omega⟩
          | trivial
          | exact ⟨⟨by omega, by omega⟩, by omega, by omega⟩
          | exact ⟨by decide, by decide⟩
          | (rw [es, he, hr86, e392, e8, if_pos ⟨gl0, gl1⟩]; exact ⟨⟨hA1, hv1⟩, ⟨by omega, by omega, by omega⟩, Or.inl rfl⟩)
          | (rw [es]; exact ⟨⟨by have := ts.2.2.2.2.1; omega, by have := ts.2.2.2.2.1; omega⟩, hv1⟩)
          | (rw [es]; exact ⟨by omega, by omega⟩)
          | (split <;> exact ⟨by decide, by decide⟩)) ?_
      refine And.intro (by
        first
          | omega
          | exact ⟨by omega, by omega⟩
          | exact ⟨⟨by omega, by omega⟩, by omega, by omega⟩
          | trivial
          | exact ⟨⟨by omega, by omega⟩, by omega, by omega⟩
          | exact ⟨by decide, by decide⟩
          | (rw [es, he, hr86, e392, e8, if_pos ⟨gl0, gl1⟩]; exact ⟨⟨hA1, hv1⟩, ⟨by omega, by omega, by omega⟩, Or.inl rfl⟩)
          | (rw [es]; exact ⟨⟨by have := ts.2.2.2.2.1; omega, by have := ts.2.2.2.2.1; omega⟩, hv1⟩)
          | (rw [es]; exact ⟨by omega, by omega⟩)
          | (split <;> exact ⟨by decide, by decide⟩)) ?_
      have htv := ts_e_tv hfe
      rw [htv, es] at c135
      have h782 : ∀ (v : Int) (x b : Nat), b < 64 → (x : Int) < k + 1 → (pz_lb v b = true ↔ ¬ tv M (M (26 + 1 + 1 + 3 * lr) 2) k = 0 ∧ fe_w M l.toNat lr k.toNat (64 * w.toNat + b)) → (pz_lb (ab_up M1 782 ((k * 4) + w).toNat v 782 (4 * x + w.toNat)) b = true ↔ ¬ tv M (M (26 + 1 + 1 + 3 * lr) 2) (x : Int) = 0 ∧ fe_w M l.toNat lr x (64 * w.toNat + b)) := fun v x b hb hx hv => by
        by_cases e2 : (x : Int) = k
        · rw [show 4 * x + w.toNat = ((k * 4) + w).toNat by omega, ab_up_s, hv, e2, show k.toNat = x by omega]
        · rw [ab_up_k (by omega)]
          exact hk x b (by omega) hb
      refine ⟨_, ?_, rfl, by omega, by omega, hw4, ?_, fun x b a1 a2 => h782 _ x b a2 a1 ?_, rfl, rfl, rfl, hw0, by omega, hf.up _ _, ?_, fun x w' b a1 a2 a3 => ?_⟩
      · omega
      · intro x b a1 a2
        rw [ab_up_o (by decide)]
        exact hQ x b a1 a2
      · first
          | (rw [es, show (M (26 + 1 + 1 + 3 * lr) 17 * 256 + k) = M (26 + 1 + 1 + 3 * lr) 17 * 256 + ((k.toNat : Nat) : Int) by omega, hQ k.toNat b (by omega) a2]
             exact ⟨fun z => ⟨c135, z⟩, fun z => z.2⟩)
          | (rw [pz_lb_n0]
             exact ⟨fun z => (by cases z), fun z => absurd z.1 c135⟩)
      · rw [he, Int.toNat_natCast]
        intro j a b c
        rw [ab_up_o (by decide)]
        exact hZ j a b c
      · rw [ab_up_k (by omega)]
        exact hR x w' b a1 a2 a3

set_option maxRecDepth 20000 in
set_option maxHeartbeats 1000000 in
theorem ok_X10_findEnds (E : ab_E) : ab_Ok E 6 195 S_X10_findEnds := by
  refine ab_mk rq_X10_findEnds tk_X10_findEnds (rt := 0) (rfl) (cuts := [26, 35, 102]) (G := [(194, S_X10_clearNotes), (198, S_X10_sweep), (23, S_X1_loopRow), (24, S_X1_loopStatement), (75, S_X7_isTrue)]) (List.forall_mem_cons.mpr ⟨⟨3, by decide, ok_X10_clearNotes E⟩, List.forall_mem_cons.mpr ⟨⟨5, by decide, ok_X10_sweep E⟩, List.forall_mem_cons.mpr ⟨⟨1, by decide, ok_X1_loopRow E⟩, List.forall_mem_cons.mpr ⟨⟨2, by decide, ok_X1_loopStatement E⟩, List.forall_mem_cons.mpr ⟨⟨1, by decide, ok_X7_isTrue E⟩, fun _ h => absurd h List.not_mem_nil⟩⟩⟩⟩⟩) (by decide) 141 rfl ?_
  intro a M K wd wa hS
  unfold S_X10_findEnds at hS
  split at hS
  ·
    rename_i l
    refine ⟨Nat.le_of_ble_eq_true rfl, fun pc n L st M1 => match pc, L, st with
      | 26, [.inr (.inr (.inr (780, 10, 0))), .inr (.inl l1), .inr (.inr (.inr (782, 21, 1024))), .inr (.inr (.inr (s3, 4, 0))), .inr (.inl bh), .inr (.inl w), u7_, u8_], [] => (n = ((4 - w) * 2000).toNat ∧ l = l1 ∧ s3 = 26 + 1 + 1 + 3 * (M 392 l.toNat).toNat ∧ bh = (122 + l) * 256 ∧ 0 ≤ w ∧ w ≤ 4 ∧ fo_f 782 M M1 ∧ fe_Z M (M1 774) l.toNat (M 392 l.toNat).toNat (M s3 14).toNat ∧ fe_R M M1 l.toNat (M 392 l.toNat).toNat w)
      | 35, [.inr (.inr (.inr (780, 10, 0))), .inr (.inl l1), .inr (.inr (.inr (782, 21, 1024))), .inr (.inr (.inr (s3, 4, 0))), .inr (.inl bh), .inr (.inl w), .inr (.inl k), u8_], [] => (n = ((4 - w) * 2000 - 1 - k).toNat ∧ 0 ≤ k ∧ k ≤ 256 ∧ w < 4 ∧ fe_B M1 l.toNat w.toNat k ∧ l = l1 ∧ s3 = 26 + 1 + 1 + 3 * (M 392 l.toNat).toNat ∧ bh = (122 + l) * 256 ∧ 0 ≤ w ∧ w ≤ 4 ∧ fo_f 782 M M1 ∧ fe_Z M (M1 774) l.toNat (M 392 l.toNat).toNat (M s3 14).toNat ∧ fe_R M M1 l.toNat (M 392 l.toNat).toNat w)
      | 102, [.inr (.inr (.inr (780, 10, 0))), .inr (.inl l1), .inr (.inr (.inr (782, 21, 1024))), .inr (.inr (.inr (s3, 4, 0))), .inr (.inl bh), .inr (.inl w), .inr (.inl k), u8_], [] => (n = ((4 - w) * 2000 - 1000 - k).toNat ∧ 0 ≤ k ∧ k ≤ 256 ∧ w < 4 ∧ fe_Q M M1 l.toNat (M 392 l.toNat).toNat w.toNat ∧ fe_k M M1 l.toNat (M 392 l.toNat).toNat w k ∧ l = l1 ∧ s3 = 26 + 1 + 1 + 3 * (M 392 l.toNat).toNat ∧ bh = (122 + l) * 256 ∧ 0 ≤ w ∧ w ≤ 4 ∧ fo_f 782 M M1 ∧ fe_Z M (M1 774) l.toNat (M 392 l.toNat).toNat (M s3 14).toNat ∧ fe_R M M1 l.toNat (M 392 l.toNat).toNat w)
      | _, _, _ => False, ?_, ?_⟩
    · exact vc_X10_findEnds_0 l M K  hS
    · intro pc n L st M1 hI wd1 wL wst
      (try dsimp only at hI)
      split at hI
      ·
        rename_i l1 s3 bh w u7_ u8_
        exact vc_X10_findEnds_26 l M K  hS n l1 s3 bh w _ hI
      ·
        rename_i l1 s3 bh w k u8_
        exact vc_X10_findEnds_35 l M K  hS n l1 s3 bh w k _ hI
      ·
        rename_i l1 s3 bh w k u8_
        exact vc_X10_findEnds_102 l M K  hS n l1 s3 bh w k _ hI
      · exact hI.elim
  · exact hS.elim
