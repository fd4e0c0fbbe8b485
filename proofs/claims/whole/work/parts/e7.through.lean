/-! the reference goes through -/
/-- the places between two rows, what they lead to -/
def gt_S (M : ab_M) (lo hi : Int) (j : Nat) : List Int := if lo ≤ ((j / 256 : Nat) : Int) - 1 ∧ ((j / 256 : Nat) : Int) - 1 < hi then (gt_p M (((j / 256 : Nat) : Int) - 1) ((j % 256 : Nat) : Int)).map fun p => (p.1 + 1) * 256 + p.2 else []
abbrev gt_j (p : Int × Int) : Nat := ((p.1 + 1) * 256 + p.2).toNat
/-- a place can be come to -/
def gt_r (M : ab_M) (lo hi s0 : Int) (p : Int × Int) : Prop := ∃ n, gx_W (gt_S M lo hi) (fun i => i = gt_j p) n (gt_j (lo, s0))
def gt_v (p : Int × Int) : Prop := (-1 ≤ p.1 ∧ p.1 ≤ 256) ∧ 0 ≤ p.2 ∧ p.2 < 256
theorem gt_j_inj {p q : Int × Int} (hp : gt_v p) (hq : gt_v q) (h : gt_j p = gt_j q) : p = q := by
  unfold gt_v at hp hq
  unfold gt_j at h
  exact Prod.ext (by omega) (by omega)
theorem gt_S_at {M : ab_M} {lo hi : Int} {p : Int × Int} (hp : gt_v p) : gt_S M lo hi (gt_j p) = if lo ≤ p.1 ∧ p.1 < hi then (gt_p M p.1 p.2).map fun p => (p.1 + 1) * 256 + p.2 else [] := by
  unfold gt_v at hp
  have e1 : ((gt_j p / 256 : Nat) : Int) - 1 = p.1 := by unfold gt_j; omega
  have e2 : ((gt_j p % 256 : Nat) : Int) = p.2 := by unfold gt_j; omega
  unfold gt_S
  rw [e1, e2]
theorem gt_p_v {M : ab_M} (hK : cb_K M) {row s : Int} (hr : 0 ≤ row ∧ row < M 797 33) (hs : 0 ≤ s ∧ s < 256) : ∀ p ∈ gt_p M row s, gt_v p := by
  obtain ⟨⟨g0, g1⟩, gk⟩ := hK
  obtain ⟨⟨k1, k2⟩, k3, k4, k5⟩ := gk row.toNat (by omega)
  have k6 := k5 s.toNat (by omega)
  rw [show 256 * row.toNat + s.toNat = (256 * row + s).toNat by omega] at k6
  have hsw := fun (y : Int) (h1 : M 818 row.toNat ≤ 1) (hy : 0 ≤ y ∧ y ≤ 3) => pz_sw_rng (s := s) (v := M 819 row.toNat) (y := y) hs (k3 h1) hy
  intro p hp
  unfold gt_p at hp
  unfold gt_v
  by_cases z0 : M 818 row.toNat = 0
  · rw [if_pos z0] at hp
    rw [List.mem_singleton.1 hp]
    exact ⟨⟨by show -1 ≤ row + 1; omega, by show row + 1 ≤ 256; omega⟩, hsw _ (by omega) (k6 (by omega) (by omega) (by omega))⟩
  rw [if_neg z0] at hp
  by_cases z1 : M 818 row.toNat = 1
  · rw [if_pos z1] at hp
    rcases List.mem_cons.1 hp with e | hp
    · rw [e]; exact ⟨⟨by show -1 ≤ row + 1; omega, by show row + 1 ≤ 256; omega⟩, hsw 0 (by omega) (by decide)⟩
    rcases List.mem_cons.1 hp with e | hp
    · rw [e]; exact ⟨⟨by show -1 ≤ row + 1; omega, by show row + 1 ≤ 256; omega⟩, hsw 1 (by omega) (by decide)⟩
    rcases List.mem_cons.1 hp with e | hp
    · rw [e]; exact ⟨⟨by show -1 ≤ row + 1; omega, by show row + 1 ≤ 256; omega⟩, hsw 2 (by omega) (by decide)⟩
    · rw [List.mem_singleton.1 hp]; exact ⟨⟨by show -1 ≤ row + 1; omega, by show row + 1 ≤ 256; omega⟩, hsw 3 (by omega) (by decide)⟩
  rw [if_neg z1] at hp
  by_cases z2 : M 818 row.toNat = 2 ∨ M 818 row.toNat = 3
  · rw [if_pos z2] at hp
    split at hp
    · exact absurd hp List.not_mem_nil
    · rw [List.mem_singleton.1 hp]
      exact ⟨⟨by show -1 ≤ row + 1; omega, by show row + 1 ≤ 256; omega⟩, hs⟩
  rw [if_neg z2] at hp
  by_cases z4 : M 818 row.toNat = 4
  · rw [if_pos z4] at hp
    have k4 := k4 (Or.inl z4)
    rw [List.mem_singleton.1 hp]
    refine ⟨?_, hs⟩
    show -1 ≤ (if M 822 (256 * row + s).toNat = 0 then M 820 row.toNat else row + 1) ∧ (if M 822 (256 * row + s).toNat = 0 then M 820 row.toNat else row + 1) ≤ 256
    split <;> omega
  rw [if_neg z4] at hp
  by_cases z5 : M 818 row.toNat = 5
  · rw [if_pos z5] at hp
    have k4 := k4 (Or.inr z5)
    rw [List.mem_singleton.1 hp]
    exact ⟨⟨by show -1 ≤ M 820 row.toNat; omega, by show M 820 row.toNat ≤ 256; omega⟩, hs⟩
  rw [if_neg z5] at hp
  exact absurd hp List.not_mem_nil
/-- a place was come to -/
def gt_C (M1 : ab_M) (σ lo hi : Int) (p : Int × Int) : Prop := (p.1 = hi → M1 829 p.2.toNat = σ) ∧ (p.1 ≠ hi → p.1 = -1 → M1 830 p.2.toNat = σ) ∧ (p.1 ≠ hi → p.1 ≠ -1 → lo ≤ p.1 → p.1 ≤ hi → M1 827 (256 * p.1 + p.2).toNat = σ)
/-- stamps are not later than the last one -/
def gt_B (M : ab_M) : Prop := (0 ≤ M 797 44 ∧ M 797 44 < 2000000000) ∧ ∀ j, (0 ≤ M 827 j ∧ M 827 j ≤ M 797 44) ∧ (0 ≤ M 829 j ∧ M 829 j ≤ M 797 44) ∧ (0 ≤ M 830 j ∧ M 830 j ≤ M 797 44)
def gt_F (M M1 : ab_M) : Prop := ∀ o k : Nat, ¬ (827 ≤ o ∧ o ≤ 830) → ¬ (o = 797 ∧ 44 ≤ k ∧ k ≤ 49) → M1 o k = M o k
def gt_I (M : ab_M) (lo hi s0 : Int) (M1 : ab_M) : Prop := gt_F M M1 ∧ (M1 797 44 = M 797 44 + 1 ∧ M1 797 48 = lo ∧ M1 797 49 = hi ∧ gt_J M1 ∧ gt_B M1) ∧
  (∀ i : Nat, (i : Int) < M1 797 46 → ∃ p : Int × Int, (lo ≤ p.1 ∧ p.1 < hi) ∧ (0 ≤ p.2 ∧ p.2 < 256) ∧ M1 828 i = 256 * p.1 + p.2 ∧ gt_r M lo hi s0 p) ∧
  (∀ row s : Int, lo ≤ row → row < hi → 0 ≤ s → s < 256 → M1 827 (256 * row + s).toNat = M1 797 44 → ∃ i : Nat, (i : Int) < M1 797 46 ∧ M1 828 i = 256 * row + s) ∧
  (∀ t : Int, 0 ≤ t → t < 256 → M1 829 t.toNat = M1 797 44 → gt_r M lo hi s0 (hi, t)) ∧ (∀ t : Int, 0 ≤ t → t < 256 → M1 830 t.toNat = M1 797 44 → gt_r M lo hi s0 (-1, t))
theorem gt_C.ce {M1 : ab_M} {σ lo hi : Int} {q : Int × Int} (h : gt_C M1 σ lo hi q) (hσ : M1 797 44 = σ) (row s : Int) : gt_C (ce_s M1 row s) σ lo hi q := by
  have key : ∀ o k : Nat, 827 ≤ o → o ≠ 828 → M1 o k = σ → ce_s M1 row s o k = σ := fun o k h1 h2 h3 => by
    unfold ce_s
    split
    · by_cases e : o = 829 ∧ k = s.toNat
      · rw [e.1, e.2, ab_up_s]; exact hσ
      · rw [up_ne e]; exact h3
    · split
      · by_cases e : o = 830 ∧ k = s.toNat
        · rw [e.1, e.2, ab_up_s]; exact hσ
        · rw [up_ne e]; exact h3
      · split
        · rw [up_ne (by omega), up_ne (by omega)]
          by_cases e : o = 827 ∧ k = (256 * row + s).toNat
          · rw [e.1, e.2, ab_up_s]; exact hσ
          · rw [up_ne e]; exact h3
        · exact h3
  exact ⟨fun a => key _ _ (by decide) (by decide) (h.1 a), fun a b => key _ _ (by decide) (by decide) (h.2.1 a b), fun a b c d => key _ _ (by decide) (by decide) (h.2.2 a b c d)⟩
/-- a place is come to -/
theorem gt_I.ce {M M1 : ab_M} {lo hi s0 : Int} (hlh : 0 ≤ lo ∧ lo ≤ hi ∧ hi ≤ 256) (h : gt_I M lo hi s0 M1) {p : Int × Int} (hv : gt_v p) (hr : gt_r M lo hi s0 p) : gt_I M lo hi s0 (ce_s M1 p.1 p.2) ∧ gt_C (ce_s M1 p.1 p.2) (M 797 44 + 1) lo hi p ∧ (M1 797 46 ≤ ce_s M1 p.1 p.2 797 46 ∧ ∀ i : Nat, (i : Int) < M1 797 46 → ce_s M1 p.1 p.2 828 i = M1 828 i) := by
  obtain ⟨hF, ⟨h44, h48, h49, hJ, hB⟩, hV, hV2, hE, hT⟩ := h
  obtain ⟨⟨v1, v2⟩, v3, v4⟩ := hv
  have hJ2 := hJ.ce (row := p.1) ⟨v3, v4⟩
  have hF2 : gt_F M (ce_s M1 p.1 p.2) := fun o k a b => (ce_f _ _ _ _ _ a (by omega)).trans (hF o k a b)
  have f44 : ce_s M1 p.1 p.2 797 44 = M1 797 44 := ce_f _ _ _ _ _ (by omega) (by omega)
  have f48 : ce_s M1 p.1 p.2 797 48 = M1 797 48 := ce_f _ _ _ _ _ (by omega) (by omega)
  have f49 : ce_s M1 p.1 p.2 797 49 = M1 797 49 := ce_f _ _ _ _ _ (by omega) (by omega)
  obtain ⟨⟨b1, b2⟩, b3⟩ := hB
  unfold gt_I
  rw [f44, f48, f49]
  unfold gt_C
  rw [← h44]
  have mk : ∀ {M2 : ab_M}, M2 797 44 = M1 797 44 → (∀ o k : Nat, o = 827 ∨ o = 829 ∨ o = 830 → M2 o k = M1 o k ∨ M2 o k = M1 797 44) → gt_B M2 := fun {M2} e h => by
    unfold gt_B
    rw [e]
    refine ⟨⟨b1, b2⟩, fun j => ⟨?_, ?_, ?_⟩⟩
    · rcases h 827 j (Or.inl rfl) with x | x
      · rw [x]; exact (b3 j).1
      · rw [x]; exact ⟨b1, Int.le_refl _⟩
    · rcases h 829 j (Or.inr (Or.inl rfl)) with x | x
      · rw [x]; exact (b3 j).2.1
      · rw [x]; exact ⟨b1, Int.le_refl _⟩
    · rcases h 830 j (Or.inr (Or.inr rfl)) with x | x
      · rw [x]; exact (b3 j).2.2
      · rw [x]; exact ⟨b1, Int.le_refl _⟩
  by_cases c1 : p.1 = hi
  · have e : ce_s M1 p.1 p.2 = ab_up M1 829 p.2.toNat (M1 797 44) := by unfold ce_s; rw [if_pos (by rw [h49]; exact c1)]
    rw [e] at hJ2 hF2 f44 ⊢
    have o16 : ∀ o k : Nat, o ≠ 829 → ab_up M1 829 p.2.toNat (M1 797 44) o k = M1 o k := fun o k x => ab_up_o x _
    refine ⟨⟨hF2, ⟨h44.symm ▸ h44, h48, h49, hJ2, mk f44 fun o k _ => ?_⟩, fun i hi => ?_, fun row s a1 a2 a3 a4 a5 => ?_, fun t a1 a2 a3 => ?_, fun t a1 a2 a3 => ?_⟩, ⟨fun _ => ab_up_s, fun a => absurd c1 a, fun a => absurd c1 a⟩, ?_, fun i _ => o16 _ _ (by decide)⟩
    · by_cases x : o = 829 ∧ k = p.2.toNat
      · rw [x.1, x.2, ab_up_s]; exact Or.inr rfl
      · rw [up_ne x]; exact Or.inl rfl
    · rw [o16 797 _ (by decide)] at hi
      rw [o16 828 _ (by decide)]
      exact hV i hi
    · rw [o16 827 _ (by decide)] at a5
      rw [o16 797 _ (by decide)]
      obtain ⟨i, i1, i2⟩ := hV2 row s a1 a2 a3 a4 a5
      exact ⟨i, i1, by rw [o16 828 _ (by decide)]; exact i2⟩
    · by_cases x : t = p.2
      · rw [show ((hi, t) : Int × Int) = p from Prod.ext c1.symm x]; exact hr
      · rw [ab_up_k (by omega)] at a3
        exact hE t a1 a2 a3
    · rw [o16 830 _ (by decide)] at a3
      exact hT t a1 a2 a3
    · rw [o16 797 _ (by decide)]; exact Int.le_refl _
  by_cases c2 : p.1 = -1
  · have e : ce_s M1 p.1 p.2 = ab_up M1 830 p.2.toNat (M1 797 44) := by unfold ce_s; rw [if_neg (by rw [h49]; exact c1), if_pos c2]
    rw [e] at hJ2 hF2 f44 ⊢
    have o16 : ∀ o k : Nat, o ≠ 830 → ab_up M1 830 p.2.toNat (M1 797 44) o k = M1 o k := fun o k x => ab_up_o x _
    refine ⟨⟨hF2, ⟨h44.symm ▸ h44, h48, h49, hJ2, mk f44 fun o k _ => ?_⟩, fun i hi => ?_, fun row s a1 a2 a3 a4 a5 => ?_, fun t a1 a2 a3 => ?_, fun t a1 a2 a3 => ?_⟩, ⟨fun a => absurd a c1, fun _ _ => ab_up_s, fun _ a => absurd c2 a⟩, ?_, fun i _ => o16 _ _ (by decide)⟩
    · by_cases x : o = 830 ∧ k = p.2.toNat
      · rw [x.1, x.2, ab_up_s]; exact Or.inr rfl
      · rw [up_ne x]; exact Or.inl rfl
    · rw [o16 797 _ (by decide)] at hi
      rw [o16 828 _ (by decide)]
      exact hV i hi
    · rw [o16 827 _ (by decide)] at a5
      rw [o16 797 _ (by decide)]
      obtain ⟨i, i1, i2⟩ := hV2 row s a1 a2 a3 a4 a5
      exact ⟨i, i1, by rw [o16 828 _ (by decide)]; exact i2⟩
    · rw [o16 829 _ (by decide)] at a3
      exact hE t a1 a2 a3
    · by_cases x : t = p.2
      · rw [show ((-1, t) : Int × Int) = p from Prod.ext c2.symm x]; exact hr
      · rw [ab_up_k (by omega)] at a3
        exact hT t a1 a2 a3
    · rw [o16 797 _ (by decide)]; exact Int.le_refl _
  by_cases c3 : (lo ≤ p.1 ∧ p.1 ≤ hi) ∧ M1 827 (256 * p.1 + p.2).toNat ≠ M1 797 44
  · have e : ce_s M1 p.1 p.2 = ab_up (ab_up (ab_up M1 827 (256 * p.1 + p.2).toNat (M1 797 44)) 828 (M1 797 46).toNat (256 * p.1 + p.2)) 797 46 (M1 797 46 + 1) := by unfold ce_s; rw [if_neg (by rw [h49]; exact c1), if_neg c2, if_pos (by rw [h48, h49]; exact c3)]
    rw [e] at hJ2 hF2 f44 ⊢
    have h46 := hJ.room (j := (256 * p.1 + p.2).toNat) (by omega) c3.2
    have o14 : ∀ k, ab_up (ab_up (ab_up M1 827 (256 * p.1 + p.2).toNat (M1 797 44)) 828 (M1 797 46).toNat (256 * p.1 + p.2)) 797 46 (M1 797 46 + 1) 827 k = if k = (256 * p.1 + p.2).toNat then M1 797 44 else M1 827 k := fun k => by
      rw [ab_up_o (by decide), ab_up_o (by decide)]
      by_cases x : k = (256 * p.1 + p.2).toNat
      · rw [if_pos x, x, ab_up_s]
      · rw [if_neg x, ab_up_k x]
    have o15 : ∀ k, ab_up (ab_up (ab_up M1 827 (256 * p.1 + p.2).toNat (M1 797 44)) 828 (M1 797 46).toNat (256 * p.1 + p.2)) 797 46 (M1 797 46 + 1) 828 k = if k = (M1 797 46).toNat then 256 * p.1 + p.2 else M1 828 k := fun k => by
      rw [ab_up_o (by decide)]
      by_cases x : k = (M1 797 46).toNat
      · rw [if_pos x, x, ab_up_s]
      · rw [if_neg x, ab_up_k x, ab_up_o (by decide)]
    have o46 : ab_up (ab_up (ab_up M1 827 (256 * p.1 + p.2).toNat (M1 797 44)) 828 (M1 797 46).toNat (256 * p.1 + p.2)) 797 46 (M1 797 46 + 1) 797 46 = M1 797 46 + 1 := ab_up_s
    have oth : ∀ o k : Nat, o = 829 ∨ o = 830 → ab_up (ab_up (ab_up M1 827 (256 * p.1 + p.2).toNat (M1 797 44)) 828 (M1 797 46).toNat (256 * p.1 + p.2)) 797 46 (M1 797 46 + 1) o k = M1 o k := fun o k x => by
      rw [ab_up_o (by omega), ab_up_o (by omega), ab_up_o (by omega)]
    refine ⟨⟨hF2, ⟨h44.symm ▸ h44, h48, h49, hJ2, mk f44 fun o k x => ?_⟩, fun i hi => ?_, fun row s a1 a2 a3 a4 a5 => ?_, fun t a1 a2 a3 => ?_, fun t a1 a2 a3 => ?_⟩, ⟨fun a => absurd a c1, fun _ a => absurd a c2, fun _ _ _ _ => by rw [o14, if_pos rfl]⟩, ?_, fun i hi => ?_⟩
    · rcases x with x | x
      · rw [x, o14]
        split
        · exact Or.inr rfl
        · exact Or.inl rfl
      · exact Or.inl (oth o k x)
    · rw [o46] at hi
      rw [o15]
      by_cases x : i = (M1 797 46).toNat
      · rw [if_pos x]
        exact ⟨p, ⟨c3.1.1, by omega⟩, ⟨v3, v4⟩, rfl, hr⟩
      · rw [if_neg x]
        exact hV i (by omega)
    · rw [o14] at a5
      rw [o46]
      by_cases x : (256 * row + s).toNat = (256 * p.1 + p.2).toNat
      · exact ⟨(M1 797 46).toNat, by omega, by rw [o15, if_pos rfl]; omega⟩
      · rw [if_neg x] at a5
        obtain ⟨i, i1, i2⟩ := hV2 row s a1 a2 a3 a4 a5
        exact ⟨i, by omega, by rw [o15, if_neg (by omega)]; exact i2⟩
    · rw [oth 829 _ (Or.inl rfl)] at a3
      exact hE t a1 a2 a3
    · rw [oth 830 _ (Or.inr rfl)] at a3
      exact hT t a1 a2 a3
    · rw [o46]; omega
    · rw [o15, if_neg (by omega)]
  · have e : ce_s M1 p.1 p.2 = M1 := by unfold ce_s; rw [if_neg (by rw [h49]; exact c1), if_neg c2, if_neg (by rw [h48, h49]; exact c3)]
    rw [e]
    refine ⟨⟨hF, ⟨h44.symm ▸ h44, h48, h49, hJ, ⟨⟨b1, b2⟩, b3⟩⟩, hV, hV2, hE, hT⟩, ⟨fun a => absurd a c1, fun _ a => absurd a c2, fun _ _ a b => ?_⟩, Int.le_refl _, fun _ _ => rfl⟩
    exact Classical.byContradiction fun x => c3 ⟨⟨a, b⟩, x⟩
theorem gt_I.all {M : ab_M} {lo hi s0 : Int} (hlh : 0 ≤ lo ∧ lo ≤ hi ∧ hi ≤ 256) : ∀ (L : List (Int × Int)) (M1 : ab_M), gt_I M lo hi s0 M1 → (∀ p ∈ L, gt_v p ∧ gt_r M lo hi s0 p) → gt_I M lo hi s0 (gt_x M1 L) ∧ (∀ p ∈ L, gt_C (gt_x M1 L) (M 797 44 + 1) lo hi p) ∧ (∀ q, gt_C M1 (M 797 44 + 1) lo hi q → gt_C (gt_x M1 L) (M 797 44 + 1) lo hi q) ∧ (M1 797 46 ≤ gt_x M1 L 797 46 ∧ ∀ i : Nat, (i : Int) < M1 797 46 → gt_x M1 L 828 i = M1 828 i)
  | [], M1, h, _ => ⟨h, fun p hp => absurd hp List.not_mem_nil, fun _ h => h, Int.le_refl _, fun _ _ => rfl⟩
  | p :: L, M1, h, hL => by
    obtain ⟨a1, a2, a3, a4⟩ := h.ce hlh (hL p List.mem_cons_self).1 (hL p List.mem_cons_self).2
    obtain ⟨b1, b2, b3, b4, b5⟩ := gt_I.all hlh L _ a1 fun q hq => hL q (List.mem_cons_of_mem _ hq)
    have e : gt_x M1 (p :: L) = gt_x (ce_s M1 p.1 p.2) L := rfl
    rw [e]
    refine ⟨b1, fun q hq => ?_, fun q hq => b3 q (hq.ce h.2.1.1 _ _), by omega, fun i hi => (b5 i (by omega)).trans (a4 i hi)⟩
    rcases List.mem_cons.1 hq with x | x
    · rw [x]; exact b3 _ a2
    · exact b2 q x
theorem gt_p_fr {M M1 : ab_M} (h : ∀ o k : Nat, 818 ≤ o → o ≤ 822 → M1 o k = M o k) (row s : Int) : gt_p M1 row s = gt_p M row s := by
  unfold gt_p
  simp only [h 818 _ (by decide) (by decide), h 819 _ (by decide) (by decide), h 820 _ (by decide) (by decide), h 822 _ (by decide) (by decide)]
theorem gt_S_fr {M M1 : ab_M} (h : ∀ o k : Nat, 818 ≤ o → o ≤ 822 → M1 o k = M o k) (lo hi : Int) : gt_S M1 lo hi = gt_S M lo hi := by
  funext j
  unfold gt_S
  rw [gt_p_fr h]
/-- the first places' successors were come to -/
def gt_k (M : ab_M) (lo hi : Int) (M1 : ab_M) (k : Int) : Prop := ∀ i : Nat, (i : Int) < k → ∀ row s : Int, lo ≤ row → row < hi → 0 ≤ s → s < 256 → M1 828 i = 256 * row + s → ∀ p ∈ gt_p M row s, gt_C M1 (M 797 44 + 1) lo hi p
/-- a place of the row is gone on from -/
theorem gt_I.next {M M1 M2 : ab_M} {lo hi s0 : Int} (hK : cb_K M) (hlh : 0 ≤ lo ∧ lo ≤ hi ∧ hi ≤ M 797 33) (h : gt_I M lo hi s0 M1) {k : Nat} (hk : gt_k M lo hi M1 (k : Int)) (hkm : (k : Int) < M1 797 46) (h2 : M2 = gt_x M1 (gt_p M1 (M1 828 k / 256) (M1 828 k % 256))) : gt_I M lo hi s0 M2 ∧ gt_k M lo hi M2 ((k : Int) + 1) ∧ M1 797 46 ≤ M2 797 46 ∧ (∀ q, gt_C M1 (M 797 44 + 1) lo hi q → gt_C M2 (M 797 44 + 1) lo hi q) := by
  have hlh2 : 0 ≤ lo ∧ lo ≤ hi ∧ hi ≤ 256 := by have := hK.1; omega
  obtain ⟨p, p1, p2, p3, n, hn⟩ := h.2.2.1 k hkm
  have e1 : M1 828 k / 256 = p.1 := by omega
  have e2 : M1 828 k % 256 = p.2 := by omega
  rw [e1, e2, gt_p_fr fun o k x y => h.1 o k (by omega) (by omega)] at h2
  have hv : gt_v p := ⟨⟨by omega, by omega⟩, p2⟩
  have hL : ∀ q ∈ gt_p M p.1 p.2, gt_v q ∧ gt_r M lo hi s0 q := fun q hq => by
    refine ⟨gt_p_v hK ⟨by omega, by omega⟩ p2 q hq, n + 1, ?_⟩
    have hm : (q.1 + 1) * 256 + q.2 ∈ gt_S M lo hi (gt_j p) := by
      rw [gt_S_at hv, if_pos p1]
      exact List.mem_map.2 ⟨q, hq, rfl⟩
    exact gx_W_ext hm hn
  obtain ⟨a1, a2, a3, a4, a5⟩ := h.all hlh2 _ _ hL
  rw [← h2] at a1 a2 a3 a4 a5
  refine ⟨a1, fun i hi row s b1 b2 b3 b4 b5 q hq => ?_, a4, a3⟩
  rw [a5 i (by omega)] at b5
  by_cases x : i = k
  · subst x
    have er : row = p.1 := by omega
    have es : s = p.2 := by omega
    rw [er, es] at hq
    exact a2 q hq
  · exact a3 q (hk i (by omega) row s b1 b2 b3 b4 b5 q hq)
/-- all was gone on from: what was come to is what can be come to -/
theorem gt_I.fin {M M1 : ab_M} {lo hi s0 : Int} (hK : cb_K M) (hlh : 0 ≤ lo ∧ lo ≤ hi ∧ hi ≤ M 797 33) (hs : 0 ≤ s0 ∧ s0 < 256) (h : gt_I M lo hi s0 M1) (h0 : gt_C M1 (M 797 44 + 1) lo hi (lo, s0)) (hk : gt_k M lo hi M1 (M1 797 46)) : ∀ p, gt_v p → gt_r M lo hi s0 p → gt_C M1 (M 797 44 + 1) lo hi p := by
  obtain ⟨hF, ⟨h44, -⟩, hV, hV2, -⟩ := h
  have hb := hK.1
  have key : ∀ n p q, gt_v p → gt_v q → gt_C M1 (M 797 44 + 1) lo hi q → gx_W (gt_S M lo hi) (fun i => i = gt_j p) n (gt_j q) → gt_C M1 (M 797 44 + 1) lo hi p := by
    intro n
    induction n with
    | zero =>
      intro p q hp hq hC hw
      have hw : gt_j q = gt_j p := hw
      rw [← gt_j_inj hq hp hw]; exact hC
    | succ n ih =>
      intro p q hp hq hC hw
      rcases hw with hw | ⟨x, x1, x2⟩
      · rw [← gt_j_inj hq hp hw]; exact hC
      · rw [gt_S_at hq] at x1
        by_cases c : lo ≤ q.1 ∧ q.1 < hi
        · rw [if_pos c] at x1
          obtain ⟨p', y1, y2⟩ := List.mem_map.1 x1
          have hq2 := hq.2
          have hσ := hC.2.2 (by omega) (by omega) c.1 (by omega)
          rw [← h44] at hσ
          obtain ⟨i, i1, i2⟩ := hV2 q.1 q.2 c.1 c.2 hq2.1 hq2.2 hσ
          have hC' := hk i i1 q.1 q.2 c.1 c.2 hq2.1 hq2.2 i2 p' y1
          have hv' := gt_p_v hK ⟨by omega, by omega⟩ hq2 p' y1
          rw [← y2] at x2
          exact ih p p' hp hv' hC' x2
        · rw [if_neg c] at x1
          exact absurd x1 List.not_mem_nil
  rintro p hp ⟨n, hn⟩
  exact key n p (lo, s0) hp ⟨⟨by show -1 ≤ lo; omega, by show lo ≤ 256; omega⟩, hs⟩ h0 hn
/-- what going through leaves -/
def gt_P (M M' : ab_M) (lo hi s0 : Int) : Prop := gt_F M M' ∧ (M' 797 44 = M 797 44 + 1 ∧ gt_B M') ∧ ∀ t : Nat, t < 256 → (M' 829 t = M' 797 44 ↔ gt_r M lo hi s0 (hi, (t : Int))) ∧ (M' 830 t = M' 797 44 ↔ gt_r M lo hi s0 (-1, (t : Int)))
theorem gt_I.P {M M1 : ab_M} {lo hi s0 : Int} (hK : cb_K M) (hlh : 0 ≤ lo ∧ lo ≤ hi ∧ hi ≤ M 797 33) (hs : 0 ≤ s0 ∧ s0 < 256) (h : gt_I M lo hi s0 M1) (h0 : gt_C M1 (M 797 44 + 1) lo hi (lo, s0)) (hk : gt_k M lo hi M1 (M1 797 46)) : gt_P M M1 lo hi s0 := by
  have hf := h.fin hK hlh hs h0 hk
  obtain ⟨hF, ⟨h44, -, -, -, hB⟩, hV, hV2, hE, hT⟩ := h
  have hb := hK.1
  refine ⟨hF, ⟨h44, hB⟩, fun t ht => ⟨⟨hE t (by omega) (by omega), fun x => ?_⟩, ⟨hT t (by omega) (by omega), fun x => ?_⟩⟩⟩
  · rw [h44]
    exact (hf (hi, (t : Int)) ⟨⟨by show -1 ≤ hi; omega, by show hi ≤ 256; omega⟩, by show 0 ≤ (t : Int); omega, by show (t : Int) < 256; omega⟩ x).1 rfl
  · rw [h44]
    exact (hf (-1, (t : Int)) ⟨⟨by show (-1 : Int) ≤ -1; decide, by show (-1 : Int) ≤ 256; decide⟩, by show 0 ≤ (t : Int); omega, by show (t : Int) < 256; omega⟩ x).2.1 (by show (-1 : Int) ≠ hi; omega) rfl
def gt_A (M : ab_M) (lo hi s0 : Int) : Prop := cb_K M ∧ (0 ≤ lo ∧ lo ≤ hi ∧ hi ≤ M 797 33) ∧ (0 ≤ s0 ∧ s0 < 256) ∧ gt_B M ∧ M 797 44 < 1999999999
/-- the beginning -/
theorem gt_I.start {M : ab_M} {lo hi s0 : Int} (hA : gt_A M lo hi s0) : gt_I M lo hi s0 (ab_up (ab_up (ab_up (ab_up M 797 48 lo) 797 49 hi) 797 44 (M 797 44 + 1)) 797 46 0) := by
  obtain ⟨hK, hlh, hs, hB, h44⟩ := hA
  have hb := hK.1
  obtain ⟨⟨b1, b2⟩, b3⟩ := hB
  have e44 : ab_up (ab_up (ab_up (ab_up M 797 48 lo) 797 49 hi) 797 44 (M 797 44 + 1)) 797 46 0 797 44 = M 797 44 + 1 := by rw [up_ne (by omega), ab_up_s]
  have e48 : ab_up (ab_up (ab_up (ab_up M 797 48 lo) 797 49 hi) 797 44 (M 797 44 + 1)) 797 46 0 797 48 = lo := by rw [up_ne (by omega), up_ne (by omega), up_ne (by omega), ab_up_s]
  have e49 : ab_up (ab_up (ab_up (ab_up M 797 48 lo) 797 49 hi) 797 44 (M 797 44 + 1)) 797 46 0 797 49 = hi := by rw [up_ne (by omega), up_ne (by omega), ab_up_s]
  have e46 : ab_up (ab_up (ab_up (ab_up M 797 48 lo) 797 49 hi) 797 44 (M 797 44 + 1)) 797 46 0 797 46 = 0 := ab_up_s
  have eo : ∀ o k : Nat, o ≠ 797 → ab_up (ab_up (ab_up (ab_up M 797 48 lo) 797 49 hi) 797 44 (M 797 44 + 1)) 797 46 0 o k = M o k := fun o k x => by rw [ab_up_o x, ab_up_o x, ab_up_o x, ab_up_o x]
  refine ⟨fun o k x y => ?_, ⟨e44, e48, e49, ⟨by rw [e48, e49]; omega, by rw [e44]; omega, fun j => by rw [eo _ _ (by decide)]; have := (b3 j).1; omega, ?_⟩, by rw [e44]; omega, fun j => ?_⟩, fun i hi => by rw [e46] at hi; omega, fun row s a1 a2 a3 a4 a5 => ?_, fun t a1 a2 a3 => ?_, fun t a1 a2 a3 => ?_⟩
  · rw [up_ne (by omega), up_ne (by omega), up_ne (by omega), up_ne (by omega)]
  · rw [e46, e44]
    have : gx_m (fun j => decide (ab_up (ab_up (ab_up (ab_up M 797 48 lo) 797 49 hi) 797 44 (M 797 44 + 1)) 797 46 0 827 j = M 797 44 + 1)) 65536 = 0 := by
      rw [gx_m_cg (g := fun _ => false) 65536 fun i _ => by rw [eo _ _ (by decide)]; exact decide_eq_false (by have := (b3 i).1; omega)]
      have : ∀ k, gx_m (fun _ => false) k = 0 := by
        intro k
        induction k with
        | zero => rfl
        | succ k ih => show gx_m _ k + (if false = true then 1 else 0) = 0; rw [ih, if_neg (by decide)]
      exact this _
    rw [this]
    rfl
  · rw [e44, eo 827 _ (by decide), eo 829 _ (by decide), eo 830 _ (by decide)]
    have := b3 j
    omega
  · rw [e44, eo 827 _ (by decide)] at a5
    have := (b3 (256 * row + s).toNat).1
    omega
  · rw [e44, eo 829 _ (by decide)] at a3
    have := (b3 t.toNat).2.1
    omega
  · rw [e44, eo 830 _ (by decide)] at a3
    have := (b3 t.toNat).2.2
    omega
/-- the row's next place is told of -/
theorem gt_I.u47 {M M1 : ab_M} {lo hi s0 : Int} (h : gt_I M lo hi s0 M1) (v : Int) : gt_I M lo hi s0 (ab_up M1 797 47 v) ∧ (∀ q, gt_C M1 (M 797 44 + 1) lo hi q → gt_C (ab_up M1 797 47 v) (M 797 44 + 1) lo hi q) := by
  obtain ⟨hF, ⟨h44, h48, h49, ⟨j1, j2, j3, j4⟩, hB1, hB2⟩, hV, hV2, hE, hT⟩ := h
  have e : ∀ o k : Nat, ¬ (o = 797 ∧ k = 47) → ab_up M1 797 47 v o k = M1 o k := fun o k x => up_ne x
  have e8 : ∀ o k : Nat, o ≠ 797 → ab_up M1 797 47 v o k = M1 o k := fun o k x => ab_up_o x _
  refine ⟨⟨fun o k x y => (e o k (by omega)).trans (hF o k x y), ⟨by rw [e _ _ (by omega)]; exact h44, by rw [e _ _ (by omega)]; exact h48, by rw [e _ _ (by omega)]; exact h49, ?_, ?_⟩, ?_, ?_, ?_, ?_⟩, fun q hq => ?_⟩
  · unfold gt_J
    rw [e 797 48 (by omega), e 797 49 (by omega), e 797 44 (by omega), e 797 46 (by omega)]
    refine ⟨j1, j2, fun j => by rw [e8 _ _ (by decide)]; exact j3 j, ?_⟩
    rw [j4, gx_m_cg (f := fun j => decide (ab_up M1 797 47 v 827 j = M1 797 44)) (g := fun j => decide (M1 827 j = M1 797 44)) 65536 fun i _ => by rw [e8 _ _ (by decide)]]
  · unfold gt_B
    rw [e 797 44 (by omega)]
    exact ⟨hB1, fun j => by rw [e8 _ _ (by decide), e8 _ _ (by decide), e8 _ _ (by decide)]; exact hB2 j⟩
  · intro i hi
    rw [e 797 46 (by omega)] at hi
    rw [e8 _ _ (by decide)]
    exact hV i hi
  · intro row s a1 a2 a3 a4 a5
    rw [e8 _ _ (by decide), e 797 44 (by omega)] at a5
    rw [e 797 46 (by omega)]
    obtain ⟨i, i1, i2⟩ := hV2 row s a1 a2 a3 a4 a5
    exact ⟨i, i1, by rw [e8 _ _ (by decide)]; exact i2⟩
  · intro t a1 a2 a3
    rw [e8 _ _ (by decide), e 797 44 (by omega)] at a3
    exact hE t a1 a2 a3
  · intro t a1 a2 a3
    rw [e8 _ _ (by decide), e 797 44 (by omega)] at a3
    exact hT t a1 a2 a3
  · unfold gt_C at hq ⊢
    rw [e8 829 _ (by decide), e8 830 _ (by decide), e8 827 _ (by decide)]
    exact hq

def S_X9_goThrough : ab_PT := fun a M K => match a with
  | [.inr (.inr (.inr (797, 9, 0))), .inr (.inl lo), .inr (.inl hi), .inr (.inl s)] => (gt_A M lo hi s) ∧ (∀ Mx : ab_M, (gt_P M Mx lo hi s) → K [] Mx)
  | _ => False
set_option maxRecDepth 20000 in
theorem vc_X9_goThrough_0 (lo : Int) (hi : Int) (s : Int) (M : ab_M) (K : List ab_V → ab_M → Prop) (hS : (gt_A M lo hi s) ∧ (∀ Mx : ab_M, (gt_P M Mx lo hi s) → K [] Mx)) : ((ab_ir lo ∧ (0 ≤ s ∧ s < 256)) ∧ (0 ≤ (ab_up (ab_up (ab_up (ab_up M 797 48 lo) 797 49 hi) 797 44 ((M 797 44) + (1 : Int))) 797 46 (0 : Int)) 797 48 ∧ (ab_up (ab_up (ab_up (ab_up M 797 48 lo) 797 49 hi) 797 44 ((M 797 44) + (1 : Int))) 797 46 (0 : Int)) 797 49 ≤ 256 ∧ ab_ir ((ab_up (ab_up (ab_up (ab_up M 797 48 lo) 797 49 hi) 797 44 ((M 797 44) + (1 : Int))) 797 46 (0 : Int)) 797 48) ∧ ab_ir ((ab_up (ab_up (ab_up (ab_up M 797 48 lo) 797 49 hi) 797 44 ((M 797 44) + (1 : Int))) 797 46 (0 : Int)) 797 49)) ∧ ab_ir ((ab_up (ab_up (ab_up (ab_up M 797 48 lo) 797 49 hi) 797 44 ((M 797 44) + (1 : Int))) 797 46 (0 : Int)) 797 44) ∧ (∀ j, ab_ir ((ab_up (ab_up (ab_up (ab_up M 797 48 lo) 797 49 hi) 797 44 ((M 797 44) + (1 : Int))) 797 46 (0 : Int)) 827 j)) ∧ ((ab_up (ab_up (ab_up (ab_up M 797 48 lo) 797 49 hi) 797 44 ((M 797 44) + (1 : Int))) 797 46 (0 : Int)) 797 48 ≤ lo → lo < (ab_up (ab_up (ab_up (ab_up M 797 48 lo) 797 49 hi) 797 44 ((M 797 44) + (1 : Int))) 797 46 (0 : Int)) 797 49 → (ab_up (ab_up (ab_up (ab_up M 797 48 lo) 797 49 hi) 797 44 ((M 797 44) + (1 : Int))) 797 46 (0 : Int)) 827 (256 * lo + s).toNat ≠ (ab_up (ab_up (ab_up (ab_up M 797 48 lo) 797 49 hi) 797 44 ((M 797 44) + (1 : Int))) 797 46 (0 : Int)) 797 44 → 0 ≤ (ab_up (ab_up (ab_up (ab_up M 797 48 lo) 797 49 hi) 797 44 ((M 797 44) + (1 : Int))) 797 46 (0 : Int)) 797 46 ∧ (ab_up (ab_up (ab_up (ab_up M 797 48 lo) 797 49 hi) 797 44 ((M 797 44) + (1 : Int))) 797 46 (0 : Int)) 797 46 < 65536)) ∧ (∀ M28 : ab_M, (M28 = ce_s (ab_up (ab_up (ab_up (ab_up M 797 48 lo) 797 49 hi) 797 44 ((M 797 44) + (1 : Int))) 797 46 (0 : Int)) lo s) → (∃ n', ((n' = (65536 - (ab_up M28 797 47 (0 : Int)) 797 47).toNat ∧ lo = lo ∧ hi = hi ∧ s = s ∧ gt_I M lo hi s (ab_up M28 797 47 (0 : Int)) ∧ gt_C (ab_up M28 797 47 (0 : Int)) (M 797 44 + 1) lo hi (lo, s) ∧ (0 ≤ (ab_up M28 797 47 (0 : Int)) 797 47 ∧ (ab_up M28 797 47 (0 : Int)) 797 47 ≤ (ab_up M28 797 47 (0 : Int)) 797 46) ∧ gt_k M lo hi (ab_up M28 797 47 (0 : Int)) ((ab_up M28 797 47 (0 : Int)) 797 47))))) := by
  obtain ⟨gA, gK⟩ := hS
  have hI0 := gt_I.start gA
  obtain ⟨hK, hlh, hs, hB, h44⟩ := id gA
  have hb := hK.1
  have hlh2 : 0 ≤ lo ∧ lo ≤ hi ∧ hi ≤ 256 := by omega
  have hgo := hI0.2.1.2.2.2.1.go lo s hs
  refine And.intro (by
    first
      | omega
      | exact ⟨by omega, by omega⟩
      | exact ⟨⟨by omega, hs⟩, hgo⟩
      | exact ⟨⟨by omega, by omega⟩, by omega, by omega⟩
      | trivial
      | (obtain ⟨p, p1, p2, p3, -⟩ := iV (M1 797 47).toNat (by omega); omega)) ?_
  intro M28 hM28
  have hr0 : gt_r M lo hi s (lo, s) := ⟨0, rfl⟩
  obtain ⟨a1, a2, -⟩ := hI0.ce hlh2 (p := (lo, s)) ⟨⟨by show -1 ≤ lo; omega, by show lo ≤ 256; omega⟩, hs⟩ hr0
  have a1 : gt_I M lo hi s (ce_s (ab_up (ab_up (ab_up (ab_up M 797 48 lo) 797 49 hi) 797 44 (M 797 44 + 1)) 797 46 0) lo s) := a1
  have a2 : gt_C (ce_s (ab_up (ab_up (ab_up (ab_up M 797 48 lo) 797 49 hi) 797 44 (M 797 44 + 1)) 797 46 0) lo s) (M 797 44 + 1) lo hi (lo, s) := a2
  rw [← hM28] at a1 a2
  obtain ⟨b1, b2⟩ := a1.u47 0
  have h46 : 0 ≤ M28 797 46 := by have := a1.2.1.2.2.2.1.2.2.2; omega
  exact ⟨_, rfl, rfl, rfl, rfl, b1, b2 _ a2, by rw [ab_up_s, up_ne (by omega)]; exact ⟨Int.le_refl _, h46⟩, fun i hi => by rw [ab_up_s] at hi; omega⟩

set_option maxRecDepth 20000 in
theorem vc_X9_goThrough_36 (lo : Int) (hi : Int) (s : Int) (M : ab_M) (K : List ab_V → ab_M → Prop) (hS : (gt_A M lo hi s) ∧ (∀ Mx : ab_M, (gt_P M Mx lo hi s) → K [] Mx)) (n : Nat) (l1 : Int) (h1 : Int) (s1 : Int) (M1 : ab_M) (hI : n = (65536 - M1 797 47).toNat ∧ lo = l1 ∧ hi = h1 ∧ s = s1 ∧ gt_I M lo hi s M1 ∧ gt_C M1 (M 797 44 + 1) lo hi (lo, s) ∧ (0 ≤ M1 797 47 ∧ M1 797 47 ≤ M1 797 46) ∧ gt_k M lo hi M1 (M1 797 47)) : (ab_ir (M1 797 47) ∧ ab_ir (M1 797 46)) ∧ (((M1 797 46) ≤ (M1 797 47) → K [] M1) ∧ ((M1 797 47) < (M1 797 46) → (0 ≤ (M1 797 47) ∧ (M1 797 47) < ((65536 : Nat) : Int)) ∧ (-32768 ≤ (256 : Int) ∧ (256 : Int) < 32768) ∧ (0 ≤ (M1 828 ((M1 797 47).toNat)) ∧ (M1 828 ((M1 797 47).toNat)) < 2147483648 ∧ 0 < (256 : Int) ∧ (256 : Int) < 2147483648) ∧ (0 ≤ (M1 797 47) ∧ (M1 797 47) < ((65536 : Nat) : Int)) ∧ (-32768 ≤ (256 : Int) ∧ (256 : Int) < 32768) ∧ (0 ≤ (M1 828 ((M1 797 47).toNat)) ∧ (M1 828 ((M1 797 47).toNat)) < 2147483648 ∧ 0 < (256 : Int) ∧ (256 : Int) < 2147483648) ∧ (gt_J M1 ∧ cb_K M1 ∧ (0 ≤ ((M1 828 ((M1 797 47).toNat)) / (256 : Int)) ∧ ((M1 828 ((M1 797 47).toNat)) / (256 : Int)) < M1 797 33) ∧ (0 ≤ ((M1 828 ((M1 797 47).toNat)) % (256 : Int)) ∧ ((M1 828 ((M1 797 47).toNat)) % (256 : Int)) < 256)) ∧ (∀ M74 : ab_M, (M74 = gt_x M1 (gt_p M1 ((M1 828 ((M1 797 47).toNat)) / (256 : Int)) ((M1 828 ((M1 797 47).toNat)) % (256 : Int)))) → (∃ n', n' < n ∧ ((n' = (65536 - (ab_up M74 797 47 ((M74 797 47) + (1 : Int))) 797 47).toNat ∧ lo = l1 ∧ hi = h1 ∧ s = s1 ∧ gt_I M lo hi s (ab_up M74 797 47 ((M74 797 47) + (1 : Int))) ∧ gt_C (ab_up M74 797 47 ((M74 797 47) + (1 : Int))) (M 797 44 + 1) lo hi (lo, s) ∧ (0 ≤ (ab_up M74 797 47 ((M74 797 47) + (1 : Int))) 797 47 ∧ (ab_up M74 797 47 ((M74 797 47) + (1 : Int))) 797 47 ≤ (ab_up M74 797 47 ((M74 797 47) + (1 : Int))) 797 46) ∧ gt_k M lo hi (ab_up M74 797 47 ((M74 797 47) + (1 : Int))) ((ab_up M74 797 47 ((M74 797 47) + (1 : Int))) 797 47))))))) := by
  obtain ⟨gA, gK⟩ := hS
  obtain ⟨hn, q1, q2, q3, hI, hC0, hat, hk⟩ := hI
  subst q1
  subst q2
  subst q3
  obtain ⟨hK, hlh, hs, hB, h44⟩ := id gA
  have hb := hK.1
  obtain ⟨hF, ⟨i44, i48, i49, iJ, iB⟩, iV, -⟩ := id hI
  have h46 : M1 797 46 ≤ 65536 := by
    have := iJ.2.2.2
    have := gx_m_bd (fun j => decide (M1 827 j = M1 797 44)) 65536
    omega
  have e47 : (((M1 797 47).toNat : Nat) : Int) = M1 797 47 := by omega
  refine And.intro (by
    first
      | omega
      | exact ⟨by omega, by omega⟩
      | exact ⟨⟨by omega, hs⟩, hgo⟩
      | exact ⟨⟨by omega, by omega⟩, by omega, by omega⟩
      | trivial
      | (obtain ⟨p, p1, p2, p3, -⟩ := iV (M1 797 47).toNat (by omega); omega)) ?_
  refine ⟨?_, ?_⟩
  · intro c44
    exact gK _ (hI.P hK hlh hs hC0 (by rw [show M1 797 46 = M1 797 47 by omega]; exact hk))
  · intro c44
    refine And.intro (by
      first
        | omega
        | exact ⟨by omega, by omega⟩
        | exact ⟨⟨by omega, hs⟩, hgo⟩
        | exact ⟨⟨by omega, by omega⟩, by omega, by omega⟩
        | trivial
        | (obtain ⟨p, p1, p2, p3, -⟩ := iV (M1 797 47).toNat (by omega); omega)) ?_
    refine And.intro (by
      first
        | omega
        | exact ⟨by omega, by omega⟩
        | exact ⟨⟨by omega, hs⟩, hgo⟩
        | exact ⟨⟨by omega, by omega⟩, by omega, by omega⟩
        | trivial
        | (obtain ⟨p, p1, p2, p3, -⟩ := iV (M1 797 47).toNat (by omega); omega)) ?_
    refine And.intro (by
      first
        | omega
        | exact ⟨by omega, by omega⟩
        | exact ⟨⟨by omega, hs⟩, hgo⟩
        | exact ⟨⟨by omega, by omega⟩, by omega, by omega⟩
        | trivial
        | (obtain ⟨p, p1, p2, p3, -⟩ := iV (M1 797 47).toNat (by omega); omega)) ?_
    refine And.intro (by
      first
        | omega
        | exact ⟨by omega, by omega⟩
        | exact ⟨⟨by omega, hs⟩, hgo⟩
        | exact ⟨⟨by omega, by omega⟩, by omega, by omega⟩
        | trivial
        | (obtain ⟨p, p1, p2, p3, -⟩ := iV (M1 797 47).toNat (by omega); omega)) ?_
    refine And.intro (by
      first
        | omega
        | exact ⟨by omega, by omega⟩
        | exact ⟨⟨by omega, hs⟩, hgo⟩
        | exact ⟨⟨by omega, by omega⟩, by omega, by omega⟩
        | trivial
        | (obtain ⟨p, p1, p2, p3, -⟩ := iV (M1 797 47).toNat (by omega); omega)) ?_
    refine And.intro (by
      first
        | omega
        | exact ⟨by omega, by omega⟩
        | exact ⟨⟨by omega, hs⟩, hgo⟩
        | exact ⟨⟨by omega, by omega⟩, by omega, by omega⟩
        | trivial
        | (obtain ⟨p, p1, p2, p3, -⟩ := iV (M1 797 47).toNat (by omega); omega)) ?_
    refine And.intro (by
      obtain ⟨p, p1, p2, p3, -⟩ := iV (M1 797 47).toNat (by omega)
      refine ⟨iJ, ?_, ⟨by omega, ?_⟩, by omega, by omega⟩
      · unfold cb_K
        rw [hF 797 33 (by omega) (by omega)]
        refine ⟨hK.1, fun i hi => ?_⟩
        have := hK.2 i hi
        rw [hF 818 _ (by omega) (by omega), hF 819 _ (by omega) (by omega), hF 820 _ (by omega) (by omega)]
        refine ⟨this.1, this.2.1, this.2.2.1, fun s hs => ?_⟩
        rw [hF 822 _ (by omega) (by omega)]
        exact this.2.2.2 s hs
      · rw [hF 797 33 (by omega) (by omega)]; omega) ?_
    intro M74 hM74
    obtain ⟨a1, a2, a3, a4⟩ := hI.next (M2 := M74) hK hlh (k := (M1 797 47).toNat) (by rw [e47]; exact hk) (by omega) hM74
    have f47 : M74 797 47 = M1 797 47 := by
      have key : ∀ (L : List (Int × Int)) (A : ab_M), gt_x A L 797 47 = A 797 47 := fun L => by
        induction L with
        | nil => intro A; rfl
        | cons p L ih => intro A; exact (ih _).trans (ce_f _ _ _ _ _ (by omega) (by omega))
      rw [hM74]
      exact key _ _
    obtain ⟨b1, b2⟩ := a1.u47 (M74 797 47 + 1)
    refine ⟨_, ?_, rfl, rfl, rfl, rfl, b1, b2 _ (a4 _ hC0), ?_, ?_⟩
    · rw [ab_up_s]; omega
    · rw [ab_up_s, up_ne (by omega)]; omega
    · rw [ab_up_s, f47, ← e47]
      intro i hi row s2 c1 c2 c3 c4 c5 q hq
      rw [ab_up_o (by decide)] at c5
      exact b2 q (a2 i hi row s2 c1 c2 c3 c4 c5 q hq)

set_option maxRecDepth 20000 in
set_option maxHeartbeats 1000000 in
theorem ok_X9_goThrough (E : ab_E) : ab_Ok E 4 142 S_X9_goThrough := by
  refine ab_mk rq_X9_goThrough tk_X9_goThrough (rt := 0) (rfl) (cuts := [36]) (G := [(127, S_X9_come), (141, S_X9_goOn)]) (List.forall_mem_cons.mpr ⟨⟨2, by decide, ok_X9_come E⟩, List.forall_mem_cons.mpr ⟨⟨3, by decide, ok_X9_goOn E⟩, fun _ h => absurd h List.not_mem_nil⟩⟩) (by decide) 101 rfl ?_
  intro a M K wd wa hS
  unfold S_X9_goThrough at hS
  split at hS
  ·
    rename_i lo hi s
    refine ⟨Nat.le_of_ble_eq_true rfl, fun pc n L st M1 => match pc, L, st with
      | 36, [.inr (.inr (.inr (797, 9, 0))), .inr (.inl l1), .inr (.inl h1), .inr (.inl s1)], [] => (n = (65536 - M1 797 47).toNat ∧ lo = l1 ∧ hi = h1 ∧ s = s1 ∧ gt_I M lo hi s M1 ∧ gt_C M1 (M 797 44 + 1) lo hi (lo, s) ∧ (0 ≤ M1 797 47 ∧ M1 797 47 ≤ M1 797 46) ∧ gt_k M lo hi M1 (M1 797 47))
      | _, _, _ => False, ?_, ?_⟩
    · exact vc_X9_goThrough_0 lo hi s M K  hS
    · intro pc n L st M1 hI wd1 wL wst
      (try dsimp only at hI)
      split at hI
      ·
        rename_i l1 h1 s1
        exact vc_X9_goThrough_36 lo hi s M K  hS n l1 h1 s1 _ hI
      · exact hI.elim
  · exact hS.elim
