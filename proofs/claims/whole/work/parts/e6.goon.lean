/-! the reference goes on from a place -/
/-- what a row leads to, by numbers -/
def gt_p (M : ab_M) (row s : Int) : List (Int × Int) :=
  if M 818 row.toNat = 0 then [(row + 1, pz_sw s (M 819 row.toNat) (M 822 (256 * row + s).toNat))]
  else if M 818 row.toNat = 1 then [(row + 1, pz_sw s (M 819 row.toNat) 0), (row + 1, pz_sw s (M 819 row.toNat) 1), (row + 1, pz_sw s (M 819 row.toNat) 2), (row + 1, pz_sw s (M 819 row.toNat) 3)]
  else if M 818 row.toNat = 2 ∨ M 818 row.toNat = 3 then (if M 822 (256 * row + s).toNat = 0 then [] else [(row + 1, s)])
  else if M 818 row.toNat = 4 then [(if M 822 (256 * row + s).toNat = 0 then M 820 row.toNat else row + 1, s)]
  else if M 818 row.toNat = 5 then [(M 820 row.toNat, s)]
  else []
def gt_x (M : ab_M) (L : List (Int × Int)) : ab_M := L.foldl (fun A p => ce_s A p.1 p.2) M
/-- what coming to a state asks for -/
def gt_J (M : ab_M) : Prop := (0 ≤ M 797 48 ∧ M 797 49 ≤ 256 ∧ ab_ir (M 797 48) ∧ ab_ir (M 797 49)) ∧ ab_ir (M 797 44) ∧ (∀ j, ab_ir (M 827 j)) ∧ M 797 46 = ((gx_m (fun j => decide (M 827 j = M 797 44)) 65536 : Nat) : Int)
theorem gx_m_full : ∀ k, gx_m (fun _ => true) k = k
  | 0 => rfl
  | k + 1 => by show gx_m (fun _ => true) k + (if true = true then 1 else 0) = k + 1; rw [gx_m_full k, if_pos rfl]
theorem gx_m_set {f g : Nat → Bool} {j : Nat} (hj : ¬ f j = true) (hg : g j = true) (h : ∀ i, i ≠ j → f i = g i) : ∀ k, gx_m g k = gx_m f k + if j < k then 1 else 0
  | 0 => by rw [if_neg (Nat.not_lt_zero _)]; rfl
  | k + 1 => by
    show gx_m g k + (if g k = true then 1 else 0) = gx_m f k + (if f k = true then 1 else 0) + _
    rw [gx_m_set hj hg h k]
    by_cases e : j = k
    · subst e
      rw [if_neg (Nat.lt_irrefl _), if_pos (Nat.lt_succ_self _), if_pos hg, if_neg hj]
    · rw [← h k (fun q => e q.symm)]
      by_cases c : j < k
      · rw [if_pos c, if_pos (show j < k + 1 by omega)]; omega
      · rw [if_neg c, if_neg (show ¬ j < k + 1 by omega)]; omega
theorem gx_m_cg {f g : Nat → Bool} : ∀ k, (∀ i, i < k → f i = g i) → gx_m f k = gx_m g k
  | 0, _ => rfl
  | k + 1, h => by
    show gx_m f k + (if f k = true then 1 else 0) = gx_m g k + (if g k = true then 1 else 0)
    rw [gx_m_cg k fun i hi => h i (by omega), h k (Nat.lt_succ_self k)]
/-- there is room for a new place -/
theorem gt_J.room {M : ab_M} (h : gt_J M) {j : Nat} (hj : j < 65536) (h1 : ¬ M 827 j = M 797 44) : 0 ≤ M 797 46 ∧ M 797 46 < 65536 := by
  have := gx_m_lt (f := fun j => decide (M 827 j = M 797 44)) (g := fun _ => true) 65536 (fun _ _ _ => rfl) ⟨j, hj, rfl, by rw [decide_eq_true_iff]; exact h1⟩
  rw [gx_m_full] at this
  have := h.2.2.2
  omega
theorem ce_f (M : ab_M) (row s : Int) : ∀ o k : Nat, ¬ (827 ≤ o ∧ o ≤ 830) → ¬ (o = 797 ∧ k = 46) → ce_s M row s o k = M o k := fun o k h1 h2 => by
  unfold ce_s
  split
  · exact up_ne (by omega)
  · split
    · exact up_ne (by omega)
    · split
      · rw [up_ne (by omega), up_ne (by omega), up_ne (by omega)]
      · rfl
theorem gt_J.ce {M : ab_M} (h : gt_J M) {row s : Int} (hs : 0 ≤ s ∧ s < 256) : gt_J (ce_s M row s) := by
  obtain ⟨h1, h2, h3, h4⟩ := h
  have f48 : ce_s M row s 797 48 = M 797 48 := ce_f _ _ _ _ _ (by omega) (by omega)
  have f49 : ce_s M row s 797 49 = M 797 49 := ce_f _ _ _ _ _ (by omega) (by omega)
  have f44 : ce_s M row s 797 44 = M 797 44 := ce_f _ _ _ _ _ (by omega) (by omega)
  unfold gt_J
  rw [f48, f49, f44]
  refine ⟨h1, h2, ?_⟩
  unfold ce_s
  by_cases c1 : row = M 797 49
  · rw [if_pos c1]
    refine ⟨fun j => ?_, ?_⟩
    · rw [ab_up_o (by decide)]; exact h3 j
    · rw [ab_up_o (by decide), h4]
      rw [gx_m_cg (f := fun j => decide (ab_up M 829 s.toNat (M 797 44) 827 j = M 797 44)) (g := fun j => decide (M 827 j = M 797 44)) 65536 fun i _ => by rw [ab_up_o (by decide)]]
  · rw [if_neg c1]
    by_cases c2 : row = -1
    · rw [if_pos c2]
      refine ⟨fun j => ?_, ?_⟩
      · rw [ab_up_o (by decide)]; exact h3 j
      · rw [ab_up_o (by decide), h4]
        rw [gx_m_cg (f := fun j => decide (ab_up M 830 s.toNat (M 797 44) 827 j = M 797 44)) (g := fun j => decide (M 827 j = M 797 44)) 65536 fun i _ => by rw [ab_up_o (by decide)]]
    · rw [if_neg c2]
      by_cases c3 : (M 797 48 ≤ row ∧ row ≤ M 797 49) ∧ M 827 (256 * row + s).toNat ≠ M 797 44
      · rw [if_pos c3]
        have hj : (256 * row + s).toNat < 65536 := by omega
        have e814 : ∀ j, ab_up (ab_up (ab_up M 827 (256 * row + s).toNat (M 797 44)) 828 (M 797 46).toNat (256 * row + s)) 797 46 (M 797 46 + 1) 827 j = if j = (256 * row + s).toNat then M 797 44 else M 827 j := fun j => by
          rw [ab_up_o (by decide), ab_up_o (by decide)]
          by_cases e : j = (256 * row + s).toNat
          · rw [if_pos e, e, ab_up_s]
          · rw [if_neg e, ab_up_k e]
        refine ⟨fun j => ?_, ?_⟩
        · rw [e814]; split
          · exact h2
          · exact h3 j
        · rw [ab_up_s]
          have := gx_m_set (f := fun j => decide (M 827 j = M 797 44)) (g := fun j => decide (ab_up (ab_up (ab_up M 827 (256 * row + s).toNat (M 797 44)) 828 (M 797 46).toNat (256 * row + s)) 797 46 (M 797 46 + 1) 827 j = M 797 44)) (j := (256 * row + s).toNat) (by rw [decide_eq_true_iff]; exact c3.2) (by rw [decide_eq_true_iff, e814, if_pos rfl]) (fun i hi => by rw [e814, if_neg hi]) 65536
          rw [this, if_pos hj]
          omega
      · rw [if_neg c3]
        exact ⟨h3, h4⟩
theorem gt_J.go {M : ab_M} (h : gt_J M) (row s : Int) (hs : 0 ≤ s ∧ s < 256) : (0 ≤ M 797 48 ∧ M 797 49 ≤ 256 ∧ ab_ir (M 797 48) ∧ ab_ir (M 797 49)) ∧ ab_ir (M 797 44) ∧ (∀ j, ab_ir (M 827 j)) ∧ (M 797 48 ≤ row → row < M 797 49 → M 827 (256 * row + s).toNat ≠ M 797 44 → 0 ≤ M 797 46 ∧ M 797 46 < 65536) := ⟨h.1, h.2.1, h.2.2.1, fun h1 h2 h3 => h.room (by have := h.1; omega) h3⟩
/-- of the four values so many are through -/
def gt_4 (M : ab_M) (row s : Int) : Nat → ab_M
  | 0 => M
  | k + 1 => ce_s (gt_4 M row s k) (row + 1) (pz_sw s (M 819 row.toNat) (k : Int))
theorem gt_4_J {M : ab_M} (h : gt_J M) {row s : Int} (hs : 0 ≤ s ∧ s < 256) (hv : 0 ≤ M 819 row.toNat ∧ M 819 row.toNat ≤ 3) : ∀ k : Nat, k ≤ 4 → gt_J (gt_4 M row s k) ∧ gt_4 M row s k 819 row.toNat = M 819 row.toNat
  | 0, _ => ⟨h, rfl⟩
  | k + 1, hk => by
    obtain ⟨h1, h2⟩ := gt_4_J h hs hv k (by omega)
    refine ⟨h1.ce (pz_sw_rng hs hv (by omega)), ?_⟩
    show ce_s _ _ _ 819 _ = _
    rw [ce_f _ _ _ _ _ (by omega) (by omega)]
    exact h2

def S_X9_goOn : ab_PT := fun a M K => match a with
  | [.inr (.inr (.inr (797, 9, 0))), .inr (.inl row), .inr (.inl s)] => (gt_J M ∧ cb_K M ∧ (0 ≤ row ∧ row < M 797 33) ∧ (0 ≤ s ∧ s < 256)) ∧ (∀ Mx : ab_M, (Mx = gt_x M (gt_p M row s)) → K [] Mx)
  | _ => False
set_option maxRecDepth 20000 in
theorem vc_X9_goOn_0 (row : Int) (s : Int) (M : ab_M) (K : List ab_V → ab_M → Prop) (hS : (gt_J M ∧ cb_K M ∧ (0 ≤ row ∧ row < M 797 33) ∧ (0 ≤ s ∧ s < 256)) ∧ (∀ Mx : ab_M, (Mx = gt_x M (gt_p M row s)) → K [] Mx)) : (-32768 ≤ (256 : Int) ∧ (256 : Int) < 32768) ∧ (0 ≤ (((256 : Int) * row) + s) ∧ (((256 : Int) * row) + s) < ((65536 : Nat) : Int)) ∧ (0 ≤ row ∧ row < ((256 : Nat) : Int)) ∧ (ab_ir (M 818 row.toNat)) ∧ (((M 818 row.toNat) = 0 → (0 ≤ row ∧ row < ((256 : Nat) : Int)) ∧ (True) ∧ (∀ r68 : Int, (r68 = pz_sw s (M 819 row.toNat) (M 822 ((((256 : Int) * row) + s).toNat))) → ((ab_ir (row + (1 : Int)) ∧ (0 ≤ r68 ∧ r68 < 256)) ∧ (0 ≤ M 797 48 ∧ M 797 49 ≤ 256 ∧ ab_ir (M 797 48) ∧ ab_ir (M 797 49)) ∧ ab_ir (M 797 44) ∧ (∀ j, ab_ir (M 827 j)) ∧ (M 797 48 ≤ (row + (1 : Int)) → (row + (1 : Int)) < M 797 49 → M 827 (256 * (row + (1 : Int)) + r68).toNat ≠ M 797 44 → 0 ≤ M 797 46 ∧ M 797 46 < 65536)) ∧ (∀ M71 : ab_M, (M71 = ce_s M (row + (1 : Int)) r68) → K [] M71))) ∧ (¬ (M 818 row.toNat) = 0 → (((M 818 row.toNat) = 1 → (∃ n', ((n' = (4 - (0 : Int)).toNat ∧ row = row ∧ s = s ∧ 0 ≤ (0 : Int) ∧ (0 : Int) ≤ 4 ∧ M 818 row.toNat = 1 ∧ M = gt_4 M row s (0 : Int).toNat)))) ∧ (¬ (M 818 row.toNat) = 1 → (((M 818 row.toNat) = 2 → (ab_ir (M 822 ((((256 : Int) * row) + s).toNat))) ∧ (((M 822 ((((256 : Int) * row) + s).toNat)) = 0 → K [] M) ∧ (¬ (M 822 ((((256 : Int) * row) + s).toNat)) = 0 → ((ab_ir (row + (1 : Int)) ∧ (0 ≤ s ∧ s < 256)) ∧ (0 ≤ M 797 48 ∧ M 797 49 ≤ 256 ∧ ab_ir (M 797 48) ∧ ab_ir (M 797 49)) ∧ ab_ir (M 797 44) ∧ (∀ j, ab_ir (M 827 j)) ∧ (M 797 48 ≤ (row + (1 : Int)) → (row + (1 : Int)) < M 797 49 → M 827 (256 * (row + (1 : Int)) + s).toNat ≠ M 797 44 → 0 ≤ M 797 46 ∧ M 797 46 < 65536)) ∧ (∀ M123 : ab_M, (M123 = ce_s M (row + (1 : Int)) s) → K [] M123)))) ∧ (¬ (M 818 row.toNat) = 2 → (((M 818 row.toNat) = 3 → (ab_ir (M 822 ((((256 : Int) * row) + s).toNat))) ∧ (((M 822 ((((256 : Int) * row) + s).toNat)) = 0 → K [] M) ∧ (¬ (M 822 ((((256 : Int) * row) + s).toNat)) = 0 → ((ab_ir (row + (1 : Int)) ∧ (0 ≤ s ∧ s < 256)) ∧ (0 ≤ M 797 48 ∧ M 797 49 ≤ 256 ∧ ab_ir (M 797 48) ∧ ab_ir (M 797 49)) ∧ ab_ir (M 797 44) ∧ (∀ j, ab_ir (M 827 j)) ∧ (M 797 48 ≤ (row + (1 : Int)) → (row + (1 : Int)) < M 797 49 → M 827 (256 * (row + (1 : Int)) + s).toNat ≠ M 797 44 → 0 ≤ M 797 46 ∧ M 797 46 < 65536)) ∧ (∀ M123 : ab_M, (M123 = ce_s M (row + (1 : Int)) s) → K [] M123)))) ∧ (¬ (M 818 row.toNat) = 3 → (((M 818 row.toNat) = 4 → (ab_ir (M 822 ((((256 : Int) * row) + s).toNat))) ∧ ((¬ (M 822 ((((256 : Int) * row) + s).toNat)) = 0 → ((ab_ir (row + (1 : Int)) ∧ (0 ≤ s ∧ s < 256)) ∧ (0 ≤ M 797 48 ∧ M 797 49 ≤ 256 ∧ ab_ir (M 797 48) ∧ ab_ir (M 797 49)) ∧ ab_ir (M 797 44) ∧ (∀ j, ab_ir (M 827 j)) ∧ (M 797 48 ≤ (row + (1 : Int)) → (row + (1 : Int)) < M 797 49 → M 827 (256 * (row + (1 : Int)) + s).toNat ≠ M 797 44 → 0 ≤ M 797 46 ∧ M 797 46 < 65536)) ∧ (∀ M147 : ab_M, (M147 = ce_s M (row + (1 : Int)) s) → K [] M147)) ∧ ((M 822 ((((256 : Int) * row) + s).toNat)) = 0 → (0 ≤ row ∧ row < ((256 : Nat) : Int)) ∧ ((ab_ir (M 820 row.toNat) ∧ (0 ≤ s ∧ s < 256)) ∧ (0 ≤ M 797 48 ∧ M 797 49 ≤ 256 ∧ ab_ir (M 797 48) ∧ ab_ir (M 797 49)) ∧ ab_ir (M 797 44) ∧ (∀ j, ab_ir (M 827 j)) ∧ (M 797 48 ≤ (M 820 row.toNat) → (M 820 row.toNat) < M 797 49 → M 827 (256 * (M 820 row.toNat) + s).toNat ≠ M 797 44 → 0 ≤ M 797 46 ∧ M 797 46 < 65536)) ∧ (∀ M147 : ab_M, (M147 = ce_s M (M 820 row.toNat) s) → K [] M147)))) ∧ (¬ (M 818 row.toNat) = 4 → (((M 818 row.toNat) = 5 → (0 ≤ row ∧ row < ((256 : Nat) : Int)) ∧ ((ab_ir (M 820 row.toNat) ∧ (0 ≤ s ∧ s < 256)) ∧ (0 ≤ M 797 48 ∧ M 797 49 ≤ 256 ∧ ab_ir (M 797 48) ∧ ab_ir (M 797 49)) ∧ ab_ir (M 797 44) ∧ (∀ j, ab_ir (M 827 j)) ∧ (M 797 48 ≤ (M 820 row.toNat) → (M 820 row.toNat) < M 797 49 → M 827 (256 * (M 820 row.toNat) + s).toNat ≠ M 797 44 → 0 ≤ M 797 46 ∧ M 797 46 < 65536)) ∧ (∀ M161 : ab_M, (M161 = ce_s M (M 820 row.toNat) s) → K [] M161)) ∧ (¬ (M 818 row.toNat) = 5 → K [] M)))))))))))) := by
  obtain ⟨⟨gJ, ⟨⟨g0, g1⟩, gk⟩, ⟨g2, g3⟩, g4, g5⟩, gK⟩ := hS
  obtain ⟨⟨k1, k2⟩, k3, k4, k5⟩ := gk row.toNat (by omega)
  have k6 := k5 s.toNat (by omega)
  rw [show 256 * row.toNat + s.toNat = (256 * row + s).toNat by omega] at k6
  have hsw := fun (y : Int) (h1 : M 818 row.toNat ≤ 1) (hy : 0 ≤ y ∧ y ≤ 3) => pz_sw_rng (s := s) (v := M 819 row.toNat) (y := y) ⟨g4, g5⟩ (k3 h1) hy
  refine And.intro (by
    first
      | omega
      | exact ⟨by omega, by omega⟩
      | exact ⟨⟨by omega, by omega⟩, by omega, by omega⟩
      | trivial
      | exact ⟨⟨by omega, hsw _ (by omega) (by rw [show M 822 (256 * row + s).toNat = M 822 (256 * row + s).toNat from rfl]; exact k6 (by omega) (by omega) (by omega))⟩, gJ.go _ _ (hsw _ (by omega) (k6 (by omega) (by omega) (by omega)))⟩
      | exact ⟨⟨by omega, g4, g5⟩, gJ.go _ _ ⟨g4, g5⟩⟩
      | exact ⟨⟨by omega, hsw _ (by omega) (by omega)⟩, h4.1.go _ _ (hsw _ (by omega) (by omega))⟩
      | (split <;> exact ⟨by decide, by decide⟩)) ?_
  refine And.intro (by
    first
      | omega
      | exact ⟨by omega, by omega⟩
      | exact ⟨⟨by omega, by omega⟩, by omega, by omega⟩
      | trivial
      | exact ⟨⟨by omega, hsw _ (by omega) (by rw [show M 822 (256 * row + s).toNat = M 822 (256 * row + s).toNat from rfl]; exact k6 (by omega) (by omega) (by omega))⟩, gJ.go _ _ (hsw _ (by omega) (k6 (by omega) (by omega) (by omega)))⟩
      | exact ⟨⟨by omega, g4, g5⟩, gJ.go _ _ ⟨g4, g5⟩⟩
      | exact ⟨⟨by omega, hsw _ (by omega) (by omega)⟩, h4.1.go _ _ (hsw _ (by omega) (by omega))⟩
      | (split <;> exact ⟨by decide, by decide⟩)) ?_
  refine And.intro (by
    first
      | omega
      | exact ⟨by omega, by omega⟩
      | exact ⟨⟨by omega, by omega⟩, by omega, by omega⟩
      | trivial
      | exact ⟨⟨by omega, hsw _ (by omega) (by rw [show M 822 (256 * row + s).toNat = M 822 (256 * row + s).toNat from rfl]; exact k6 (by omega) (by omega) (by omega))⟩, gJ.go _ _ (hsw _ (by omega) (k6 (by omega) (by omega) (by omega)))⟩
      | exact ⟨⟨by omega, g4, g5⟩, gJ.go _ _ ⟨g4, g5⟩⟩
      | exact ⟨⟨by omega, hsw _ (by omega) (by omega)⟩, h4.1.go _ _ (hsw _ (by omega) (by omega))⟩
      | (split <;> exact ⟨by decide, by decide⟩)) ?_
  refine And.intro (by
    first
      | omega
      | exact ⟨by omega, by omega⟩
      | exact ⟨⟨by omega, by omega⟩, by omega, by omega⟩
      | trivial
      | exact ⟨⟨by omega, hsw _ (by omega) (by rw [show M 822 (256 * row + s).toNat = M 822 (256 * row + s).toNat from rfl]; exact k6 (by omega) (by omega) (by omega))⟩, gJ.go _ _ (hsw _ (by omega) (k6 (by omega) (by omega) (by omega)))⟩
      | exact ⟨⟨by omega, g4, g5⟩, gJ.go _ _ ⟨g4, g5⟩⟩
      | exact ⟨⟨by omega, hsw _ (by omega) (by omega)⟩, h4.1.go _ _ (hsw _ (by omega) (by omega))⟩
      | (split <;> exact ⟨by decide, by decide⟩)) ?_
  refine ⟨?_, ?_⟩
  · intro c19_0
    refine And.intro (by
      first
        | omega
        | exact ⟨by omega, by omega⟩
        | exact ⟨⟨by omega, by omega⟩, by omega, by omega⟩
        | trivial
        | exact ⟨⟨by omega, hsw _ (by omega) (by rw [show M 822 (256 * row + s).toNat = M 822 (256 * row + s).toNat from rfl]; exact k6 (by omega) (by omega) (by omega))⟩, gJ.go _ _ (hsw _ (by omega) (k6 (by omega) (by omega) (by omega)))⟩
        | exact ⟨⟨by omega, g4, g5⟩, gJ.go _ _ ⟨g4, g5⟩⟩
        | exact ⟨⟨by omega, hsw _ (by omega) (by omega)⟩, h4.1.go _ _ (hsw _ (by omega) (by omega))⟩
        | (split <;> exact ⟨by decide, by decide⟩)) ?_
    refine And.intro trivial ?_
    intro r68 hr68
    subst hr68
    refine And.intro (by
      first
        | omega
        | exact ⟨by omega, by omega⟩
        | exact ⟨⟨by omega, by omega⟩, by omega, by omega⟩
        | trivial
        | exact ⟨⟨by omega, hsw _ (by omega) (by rw [show M 822 (256 * row + s).toNat = M 822 (256 * row + s).toNat from rfl]; exact k6 (by omega) (by omega) (by omega))⟩, gJ.go _ _ (hsw _ (by omega) (k6 (by omega) (by omega) (by omega)))⟩
        | exact ⟨⟨by omega, g4, g5⟩, gJ.go _ _ ⟨g4, g5⟩⟩
        | exact ⟨⟨by omega, hsw _ (by omega) (by omega)⟩, h4.1.go _ _ (hsw _ (by omega) (by omega))⟩
        | (split <;> exact ⟨by decide, by decide⟩)) ?_
    intro M71 hM71
    refine gK _ ?_
    unfold gt_x gt_p
    first
      | (rw [if_pos (by omega)]; assumption)
      | (rw [if_neg (by omega), if_neg (by omega), if_pos (by omega), if_neg (by assumption)]; assumption)
      | (rw [if_neg (by omega), if_neg (by omega), if_pos (by omega), if_pos (by assumption)]; rfl)
      | (rw [if_neg (by omega), if_neg (by omega), if_neg (by omega), if_pos (by omega), if_pos (by assumption)]; assumption)
      | (rw [if_neg (by omega), if_neg (by omega), if_neg (by omega), if_pos (by omega), if_neg (by assumption)]; assumption)
      | (rw [if_neg (by omega), if_neg (by omega), if_neg (by omega), if_neg (by omega), if_pos (by omega)]; assumption)
      | (rw [if_neg (by omega), if_neg (by omega), if_neg (by omega), if_neg (by omega), if_neg (by omega)]; rfl)
  · intro c19_0
    refine ⟨?_, ?_⟩
    · intro c19_1
      refine ⟨_, rfl, rfl, rfl, by decide, by decide, by omega, rfl⟩
    · intro c19_1
      refine ⟨?_, ?_⟩
      · intro c19_2
        refine And.intro (by
          first
            | omega
            | exact ⟨by omega, by omega⟩
            | exact ⟨⟨by omega, by omega⟩, by omega, by omega⟩
            | trivial
            | exact ⟨⟨by omega, hsw _ (by omega) (by rw [show M 822 (256 * row + s).toNat = M 822 (256 * row + s).toNat from rfl]; exact k6 (by omega) (by omega) (by omega))⟩, gJ.go _ _ (hsw _ (by omega) (k6 (by omega) (by omega) (by omega)))⟩
            | exact ⟨⟨by omega, g4, g5⟩, gJ.go _ _ ⟨g4, g5⟩⟩
            | exact ⟨⟨by omega, hsw _ (by omega) (by omega)⟩, h4.1.go _ _ (hsw _ (by omega) (by omega))⟩
            | (split <;> exact ⟨by decide, by decide⟩)) ?_
        refine ⟨?_, ?_⟩
        · intro c115
          refine gK _ ?_
          unfold gt_x gt_p
          first
            | (rw [if_pos (by omega)]; assumption)
            | (rw [if_neg (by omega), if_neg (by omega), if_pos (by omega), if_neg (by assumption)]; assumption)
            | (rw [if_neg (by omega), if_neg (by omega), if_pos (by omega), if_pos (by assumption)]; rfl)
            | (rw [if_neg (by omega), if_neg (by omega), if_neg (by omega), if_pos (by omega), if_pos (by assumption)]; assumption)
            | (rw [if_neg (by omega), if_neg (by omega), if_neg (by omega), if_pos (by omega), if_neg (by assumption)]; assumption)
            | (rw [if_neg (by omega), if_neg (by omega), if_neg (by omega), if_neg (by omega), if_pos (by omega)]; assumption)
            | (rw [if_neg (by omega), if_neg (by omega), if_neg (by omega), if_neg (by omega), if_neg (by omega)]; rfl)
        · intro c115
          refine And.intro (by
            first
              | omega
              | exact ⟨by omega, by omega⟩
              | exact ⟨⟨by omega, by omega⟩, by omega, by omega⟩
              | trivial
              | exact ⟨⟨by omega, hsw _ (by omega) (by rw [show M 822 (256 * row + s).toNat = M 822 (256 * row + s).toNat from rfl]; exact k6 (by omega) (by omega) (by omega))⟩, gJ.go _ _ (hsw _ (by omega) (k6 (by omega) (by omega) (by omega)))⟩
              | exact ⟨⟨by omega, g4, g5⟩, gJ.go _ _ ⟨g4, g5⟩⟩
              | exact ⟨⟨by omega, hsw _ (by omega) (by omega)⟩, h4.1.go _ _ (hsw _ (by omega) (by omega))⟩
              | (split <;> exact ⟨by decide, by decide⟩)) ?_
          intro M123 hM123
          refine gK _ ?_
          unfold gt_x gt_p
          first
            | (rw [if_pos (by omega)]; assumption)
            | (rw [if_neg (by omega), if_neg (by omega), if_pos (by omega), if_neg (by assumption)]; assumption)
            | (rw [if_neg (by omega), if_neg (by omega), if_pos (by omega), if_pos (by assumption)]; rfl)
            | (rw [if_neg (by omega), if_neg (by omega), if_neg (by omega), if_pos (by omega), if_pos (by assumption)]; assumption)
            | (rw [if_neg (by omega), if_neg (by omega), if_neg (by omega), if_pos (by omega), if_neg (by assumption)]; assumption)
            | (rw [if_neg (by omega), if_neg (by omega), if_neg (by omega), if_neg (by omega), if_pos (by omega)]; assumption)
            | (rw [if_neg (by omega), if_neg (by omega), if_neg (by omega), if_neg (by omega), if_neg (by omega)]; rfl)
      · intro c19_2
        refine ⟨?_, ?_⟩
        · intro c19_3
          refine And.intro (by
            first
              | omega
              | exact ⟨by omega, by omega⟩
              | exact ⟨⟨by omega, by omega⟩, by omega, by omega⟩
              | trivial
              | exact ⟨⟨by omega, hsw _ (by omega) (by rw [show M 822 (256 * row + s).toNat = M 822 (256 * row + s).toNat from rfl]; exact k6 (by omega) (by omega) (by omega))⟩, gJ.go _ _ (hsw _ (by omega) (k6 (by omega) (by omega) (by omega)))⟩
              | exact ⟨⟨by omega, g4, g5⟩, gJ.go _ _ ⟨g4, g5⟩⟩
              | exact ⟨⟨by omega, hsw _ (by omega) (by omega)⟩, h4.1.go _ _ (hsw _ (by omega) (by omega))⟩
              | (split <;> exact ⟨by decide, by decide⟩)) ?_
          refine ⟨?_, ?_⟩
          · intro c115
            refine gK _ ?_
            unfold gt_x gt_p
            first
              | (rw [if_pos (by omega)]; assumption)
              | (rw [if_neg (by omega), if_neg (by omega), if_pos (by omega), if_neg (by assumption)]; assumption)
              | (rw [if_neg (by omega), if_neg (by omega), if_pos (by omega), if_pos (by assumption)]; rfl)
              | (rw [if_neg (by omega), if_neg (by omega), if_neg (by omega), if_pos (by omega), if_pos (by assumption)]; assumption)
              | (rw [if_neg (by omega), if_neg (by omega), if_neg (by omega), if_pos (by omega), if_neg (by assumption)]; assumption)
              | (rw [if_neg (by omega), if_neg (by omega), if_neg (by omega), if_neg (by omega), if_pos (by omega)]; assumption)
              | (rw [if_neg (by omega), if_neg (by omega), if_neg (by omega), if_neg (by omega), if_neg (by omega)]; rfl)
          · intro c115
            refine And.intro (by
              first
                | omega
                | exact ⟨by omega, by omega⟩
                | exact ⟨⟨by omega, by omega⟩, by omega, by omega⟩
                | trivial
                | exact ⟨⟨by omega, hsw _ (by omega) (by rw [show M 822 (256 * row + s).toNat = M 822 (256 * row + s).toNat from rfl]; exact k6 (by omega) (by omega) (by omega))⟩, gJ.go _ _ (hsw _ (by omega) (k6 (by omega) (by omega) (by omega)))⟩
                | exact ⟨⟨by omega, g4, g5⟩, gJ.go _ _ ⟨g4, g5⟩⟩
                | exact ⟨⟨by omega, hsw _ (by omega) (by omega)⟩, h4.1.go _ _ (hsw _ (by omega) (by omega))⟩
                | (split <;> exact ⟨by decide, by decide⟩)) ?_
            intro M123 hM123
            refine gK _ ?_
            unfold gt_x gt_p
            first
              | (rw [if_pos (by omega)]; assumption)
              | (rw [if_neg (by omega), if_neg (by omega), if_pos (by omega), if_neg (by assumption)]; assumption)
              | (rw [if_neg (by omega), if_neg (by omega), if_pos (by omega), if_pos (by assumption)]; rfl)
              | (rw [if_neg (by omega), if_neg (by omega), if_neg (by omega), if_pos (by omega), if_pos (by assumption)]; assumption)
              | (rw [if_neg (by omega), if_neg (by omega), if_neg (by omega), if_pos (by omega), if_neg (by assumption)]; assumption)
              | (rw [if_neg (by omega), if_neg (by omega), if_neg (by omega), if_neg (by omega), if_pos (by omega)]; assumption)
              | (rw [if_neg (by omega), if_neg (by omega), if_neg (by omega), if_neg (by omega), if_neg (by omega)]; rfl)
        · intro c19_3
          refine ⟨?_, ?_⟩
          · intro c19_4
            refine And.intro (by
              first
                | omega
                | exact ⟨by omega, by omega⟩
                | exact ⟨⟨by omega, by omega⟩, by omega, by omega⟩
                | trivial
                | exact ⟨⟨by omega, hsw _ (by omega) (by rw [show M 822 (256 * row + s).toNat = M 822 (256 * row + s).toNat from rfl]; exact k6 (by omega) (by omega) (by omega))⟩, gJ.go _ _ (hsw _ (by omega) (k6 (by omega) (by omega) (by omega)))⟩
                | exact ⟨⟨by omega, g4, g5⟩, gJ.go _ _ ⟨g4, g5⟩⟩
                | exact ⟨⟨by omega, hsw _ (by omega) (by omega)⟩, h4.1.go _ _ (hsw _ (by omega) (by omega))⟩
                | (split <;> exact ⟨by decide, by decide⟩)) ?_
            refine ⟨?_, ?_⟩
            · intro c131
              refine And.intro (by
                first
                  | omega
                  | exact ⟨by omega, by omega⟩
                  | exact ⟨⟨by omega, by omega⟩, by omega, by omega⟩
                  | trivial
                  | exact ⟨⟨by omega, hsw _ (by omega) (by rw [show M 822 (256 * row + s).toNat = M 822 (256 * row + s).toNat from rfl]; exact k6 (by omega) (by omega) (by omega))⟩, gJ.go _ _ (hsw _ (by omega) (k6 (by omega) (by omega) (by omega)))⟩
                  | exact ⟨⟨by omega, g4, g5⟩, gJ.go _ _ ⟨g4, g5⟩⟩
                  | exact ⟨⟨by omega, hsw _ (by omega) (by omega)⟩, h4.1.go _ _ (hsw _ (by omega) (by omega))⟩
                  | (split <;> exact ⟨by decide, by decide⟩)) ?_
              intro M147 hM147
              refine gK _ ?_
              unfold gt_x gt_p
              first
                | (rw [if_pos (by omega)]; assumption)
                | (rw [if_neg (by omega), if_neg (by omega), if_pos (by omega), if_neg (by assumption)]; assumption)
                | (rw [if_neg (by omega), if_neg (by omega), if_pos (by omega), if_pos (by assumption)]; rfl)
                | (rw [if_neg (by omega), if_neg (by omega), if_neg (by omega), if_pos (by omega), if_pos (by assumption)]; assumption)
                | (rw [if_neg (by omega), if_neg (by omega), if_neg (by omega), if_pos (by omega), if_neg (by assumption)]; assumption)
                | (rw [if_neg (by omega), if_neg (by omega), if_neg (by omega), if_neg (by omega), if_pos (by omega)]; assumption)
                | (rw [if_neg (by omega), if_neg (by omega), if_neg (by omega), if_neg (by omega), if_neg (by omega)]; rfl)
            · intro c131
              refine And.intro (by
                first
                  | omega
                  | exact ⟨by omega, by omega⟩
                  | exact ⟨⟨by omega, by omega⟩, by omega, by omega⟩
                  | trivial
                  | exact ⟨⟨by omega, hsw _ (by omega) (by rw [show M 822 (256 * row + s).toNat = M 822 (256 * row + s).toNat from rfl]; exact k6 (by omega) (by omega) (by omega))⟩, gJ.go _ _ (hsw _ (by omega) (k6 (by omega) (by omega) (by omega)))⟩
                  | exact ⟨⟨by omega, g4, g5⟩, gJ.go _ _ ⟨g4, g5⟩⟩
                  | exact ⟨⟨by omega, hsw _ (by omega) (by omega)⟩, h4.1.go _ _ (hsw _ (by omega) (by omega))⟩
                  | (split <;> exact ⟨by decide, by decide⟩)) ?_
              refine And.intro (by
                first
                  | omega
                  | exact ⟨by omega, by omega⟩
                  | exact ⟨⟨by omega, by omega⟩, by omega, by omega⟩
                  | trivial
                  | exact ⟨⟨by omega, hsw _ (by omega) (by rw [show M 822 (256 * row + s).toNat = M 822 (256 * row + s).toNat from rfl]; exact k6 (by omega) (by omega) (by omega))⟩, gJ.go _ _ (hsw _ (by omega) (k6 (by omega) (by omega) (by omega)))⟩
                  | exact ⟨⟨by omega, g4, g5⟩, gJ.go _ _ ⟨g4, g5⟩⟩
                  | exact ⟨⟨by omega, hsw _ (by omega) (by omega)⟩, h4.1.go _ _ (hsw _ (by omega) (by omega))⟩
                  | (split <;> exact ⟨by decide, by decide⟩)) ?_
              intro M147 hM147
              refine gK _ ?_
              unfold gt_x gt_p
              first
                | (rw [if_pos (by omega)]; assumption)
                | (rw [if_neg (by omega), if_neg (by omega), if_pos (by omega), if_neg (by assumption)]; assumption)
                | (rw [if_neg (by omega), if_neg (by omega), if_pos (by omega), if_pos (by assumption)]; rfl)
                | (rw [if_neg (by omega), if_neg (by omega), if_neg (by omega), if_pos (by omega), if_pos (by assumption)]; assumption)
                | (rw [if_neg (by omega), if_neg (by omega), if_neg (by omega), if_pos (by omega), if_neg (by assumption)]; assumption)
                | (rw [if_neg (by omega), if_neg (by omega), if_neg (by omega), if_neg (by omega), if_pos (by omega)]; assumption)
                | (rw [if_neg (by omega), if_neg (by omega), if_neg (by omega), if_neg (by omega), if_neg (by omega)]; rfl)
          · intro c19_4
            refine ⟨?_, ?_⟩
            · intro c19_5
              refine And.intro (by
                first
                  | omega
                  | exact ⟨by omega, by omega⟩
                  | exact ⟨⟨by omega, by omega⟩, by omega, by omega⟩
                  | trivial
                  | exact ⟨⟨by omega, hsw _ (by omega) (by rw [show M 822 (256 * row + s).toNat = M 822 (256 * row + s).toNat from rfl]; exact k6 (by omega) (by omega) (by omega))⟩, gJ.go _ _ (hsw _ (by omega) (k6 (by omega) (by omega) (by omega)))⟩
                  | exact ⟨⟨by omega, g4, g5⟩, gJ.go _ _ ⟨g4, g5⟩⟩
                  | exact ⟨⟨by omega, hsw _ (by omega) (by omega)⟩, h4.1.go _ _ (hsw _ (by omega) (by omega))⟩
                  | (split <;> exact ⟨by decide, by decide⟩)) ?_
              refine And.intro (by
                first
                  | omega
                  | exact ⟨by omega, by omega⟩
                  | exact ⟨⟨by omega, by omega⟩, by omega, by omega⟩
                  | trivial
                  | exact ⟨⟨by omega, hsw _ (by omega) (by rw [show M 822 (256 * row + s).toNat = M 822 (256 * row + s).toNat from rfl]; exact k6 (by omega) (by omega) (by omega))⟩, gJ.go _ _ (hsw _ (by omega) (k6 (by omega) (by omega) (by omega)))⟩
                  | exact ⟨⟨by omega, g4, g5⟩, gJ.go _ _ ⟨g4, g5⟩⟩
                  | exact ⟨⟨by omega, hsw _ (by omega) (by omega)⟩, h4.1.go _ _ (hsw _ (by omega) (by omega))⟩
                  | (split <;> exact ⟨by decide, by decide⟩)) ?_
              intro M161 hM161
              refine gK _ ?_
              unfold gt_x gt_p
              first
                | (rw [if_pos (by omega)]; assumption)
                | (rw [if_neg (by omega), if_neg (by omega), if_pos (by omega), if_neg (by assumption)]; assumption)
                | (rw [if_neg (by omega), if_neg (by omega), if_pos (by omega), if_pos (by assumption)]; rfl)
                | (rw [if_neg (by omega), if_neg (by omega), if_neg (by omega), if_pos (by omega), if_pos (by assumption)]; assumption)
                | (rw [if_neg (by omega), if_neg (by omega), if_neg (by omega), if_pos (by omega), if_neg (by assumption)]; assumption)
                | (rw [if_neg (by omega), if_neg (by omega), if_neg (by omega), if_neg (by omega), if_pos (by omega)]; assumption)
                | (rw [if_neg (by omega), if_neg (by omega), if_neg (by omega), if_neg (by omega), if_neg (by omega)]; rfl)
            · intro c19_5
              refine gK _ ?_
              unfold gt_x gt_p
              first
                | (rw [if_pos (by omega)]; assumption)
                | (rw [if_neg (by omega), if_neg (by omega), if_pos (by omega), if_neg (by assumption)]; assumption)
                | (rw [if_neg (by omega), if_neg (by omega), if_pos (by omega), if_pos (by assumption)]; rfl)
                | (rw [if_neg (by omega), if_neg (by omega), if_neg (by omega), if_pos (by omega), if_pos (by assumption)]; assumption)
                | (rw [if_neg (by omega), if_neg (by omega), if_neg (by omega), if_pos (by omega), if_neg (by assumption)]; assumption)
                | (rw [if_neg (by omega), if_neg (by omega), if_neg (by omega), if_neg (by omega), if_pos (by omega)]; assumption)
                | (rw [if_neg (by omega), if_neg (by omega), if_neg (by omega), if_neg (by omega), if_neg (by omega)]; rfl)

set_option maxRecDepth 20000 in
theorem vc_X9_goOn_80 (row : Int) (s : Int) (M : ab_M) (K : List ab_V → ab_M → Prop) (hS : (gt_J M ∧ cb_K M ∧ (0 ≤ row ∧ row < M 797 33) ∧ (0 ≤ s ∧ s < 256)) ∧ (∀ Mx : ab_M, (Mx = gt_x M (gt_p M row s)) → K [] Mx)) (n : Nat) (r1 : Int) (s1 : Int) (v1 : Int) (k : Int) (M1 : ab_M) (hI : n = (4 - k).toNat ∧ row = r1 ∧ s = s1 ∧ 0 ≤ k ∧ k ≤ 4 ∧ M 818 row.toNat = 1 ∧ M1 = gt_4 M row s k.toNat) : (ab_ir k ∧ ab_ir (4 : Int)) ∧ (((4 : Int) ≤ k → K [] M1) ∧ (k < (4 : Int) → (0 ≤ r1 ∧ r1 < ((256 : Nat) : Int)) ∧ (True) ∧ (∀ r99 : Int, (r99 = pz_sw s1 (M1 819 r1.toNat) k) → ((ab_ir (r1 + (1 : Int)) ∧ (0 ≤ r99 ∧ r99 < 256)) ∧ (0 ≤ M1 797 48 ∧ M1 797 49 ≤ 256 ∧ ab_ir (M1 797 48) ∧ ab_ir (M1 797 49)) ∧ ab_ir (M1 797 44) ∧ (∀ j, ab_ir (M1 827 j)) ∧ (M1 797 48 ≤ (r1 + (1 : Int)) → (r1 + (1 : Int)) < M1 797 49 → M1 827 (256 * (r1 + (1 : Int)) + r99).toNat ≠ M1 797 44 → 0 ≤ M1 797 46 ∧ M1 797 46 < 65536)) ∧ (∀ M102 : ab_M, (M102 = ce_s M1 (r1 + (1 : Int)) r99) → (∃ n', n' < n ∧ ((n' = (4 - (k + 1)).toNat ∧ row = r1 ∧ s = s1 ∧ 0 ≤ (k + 1) ∧ (k + 1) ≤ 4 ∧ M 818 row.toNat = 1 ∧ M102 = gt_4 M row s (k + 1).toNat))))))) := by
  obtain ⟨⟨gJ, ⟨⟨g0, g1⟩, gk⟩, ⟨g2, g3⟩, g4, g5⟩, gK⟩ := hS
  obtain ⟨⟨k1, k2⟩, k3, k4, k5⟩ := gk row.toNat (by omega)
  have k6 := k5 s.toNat (by omega)
  rw [show 256 * row.toNat + s.toNat = (256 * row + s).toNat by omega] at k6
  have hsw := fun (y : Int) (h1 : M 818 row.toNat ≤ 1) (hy : 0 ≤ y ∧ y ≤ 3) => pz_sw_rng (s := s) (v := M 819 row.toNat) (y := y) ⟨g4, g5⟩ (k3 h1) hy
  obtain ⟨hn, q1, q2, hk0, hk1, hop, hM⟩ := hI
  subst q1
  subst q2
  have h4 := gt_4_J gJ (row := row) (s := s) ⟨g4, g5⟩ (k3 (by omega)) k.toNat (by omega)
  rw [← hM] at h4
  refine And.intro (by
    first
      | omega
      | exact ⟨by omega, by omega⟩
      | exact ⟨⟨by omega, by omega⟩, by omega, by omega⟩
      | trivial
      | exact ⟨⟨by omega, hsw _ (by omega) (by rw [show M 822 (256 * row + s).toNat = M 822 (256 * row + s).toNat from rfl]; exact k6 (by omega) (by omega) (by omega))⟩, gJ.go _ _ (hsw _ (by omega) (k6 (by omega) (by omega) (by omega)))⟩
      | exact ⟨⟨by omega, g4, g5⟩, gJ.go _ _ ⟨g4, g5⟩⟩
      | exact ⟨⟨by omega, hsw _ (by omega) (by omega)⟩, h4.1.go _ _ (hsw _ (by omega) (by omega))⟩
      | (split <;> exact ⟨by decide, by decide⟩)) ?_
  refine ⟨?_, ?_⟩
  · intro c83
    refine gK _ ?_
    rw [hM, show k.toNat = 4 by omega]
    unfold gt_x gt_p
    rw [if_neg (by omega), if_pos hop]
    rfl
  · intro c83
    refine And.intro (by
      first
        | omega
        | exact ⟨by omega, by omega⟩
        | exact ⟨⟨by omega, by omega⟩, by omega, by omega⟩
        | trivial
        | exact ⟨⟨by omega, hsw _ (by omega) (by rw [show M 822 (256 * row + s).toNat = M 822 (256 * row + s).toNat from rfl]; exact k6 (by omega) (by omega) (by omega))⟩, gJ.go _ _ (hsw _ (by omega) (k6 (by omega) (by omega) (by omega)))⟩
        | exact ⟨⟨by omega, g4, g5⟩, gJ.go _ _ ⟨g4, g5⟩⟩
        | exact ⟨⟨by omega, hsw _ (by omega) (by omega)⟩, h4.1.go _ _ (hsw _ (by omega) (by omega))⟩
        | (split <;> exact ⟨by decide, by decide⟩)) ?_
    refine And.intro trivial ?_
    intro r99 hr99
    rw [h4.2] at hr99
    subst hr99
    refine And.intro (by
      first
        | omega
        | exact ⟨by omega, by omega⟩
        | exact ⟨⟨by omega, by omega⟩, by omega, by omega⟩
        | trivial
        | exact ⟨⟨by omega, hsw _ (by omega) (by rw [show M 822 (256 * row + s).toNat = M 822 (256 * row + s).toNat from rfl]; exact k6 (by omega) (by omega) (by omega))⟩, gJ.go _ _ (hsw _ (by omega) (k6 (by omega) (by omega) (by omega)))⟩
        | exact ⟨⟨by omega, g4, g5⟩, gJ.go _ _ ⟨g4, g5⟩⟩
        | exact ⟨⟨by omega, hsw _ (by omega) (by omega)⟩, h4.1.go _ _ (hsw _ (by omega) (by omega))⟩
        | (split <;> exact ⟨by decide, by decide⟩)) ?_
    intro M102 hM102
    refine ⟨_, ?_, rfl, rfl, rfl, by omega, by omega, hop, ?_⟩
    · omega
    rw [hM102]
    rw [show (k + 1).toNat = k.toNat + 1 by omega]
    show _ = ce_s (gt_4 M row s k.toNat) (row + 1) (pz_sw s (M 819 row.toNat) ((k.toNat : Nat) : Int))
    rw [← hM, show ((k.toNat : Nat) : Int) = k by omega]

set_option maxRecDepth 20000 in
set_option maxHeartbeats 1000000 in
theorem ok_X9_goOn (E : ab_E) : ab_Ok E 3 141 S_X9_goOn := by
  refine ab_mk rq_X9_goOn tk_X9_goOn (rt := 0) (rfl) (cuts := [80]) (G := [(127, S_X9_come), (191, S_X9_with)]) (List.forall_mem_cons.mpr ⟨⟨2, by decide, ok_X9_come E⟩, List.forall_mem_cons.mpr ⟨⟨1, by decide, ok_X9_with E⟩, fun _ h => absurd h List.not_mem_nil⟩⟩) (by decide) 129 rfl ?_
  intro a M K wd wa hS
  unfold S_X9_goOn at hS
  split at hS
  ·
    rename_i row s
    refine ⟨Nat.le_of_ble_eq_true rfl, fun pc n L st M1 => match pc, L, st with
      | 80, [.inr (.inr (.inr (797, 9, 0))), .inr (.inl r1), .inr (.inl s1), .inr (.inl v1), .inr (.inl k)], [] => (n = (4 - k).toNat ∧ row = r1 ∧ s = s1 ∧ 0 ≤ k ∧ k ≤ 4 ∧ M 818 row.toNat = 1 ∧ M1 = gt_4 M row s k.toNat)
      | _, _, _ => False, ?_, ?_⟩
    · exact vc_X9_goOn_0 row s M K  hS
    · intro pc n L st M1 hI wd1 wL wst
      (try dsimp only at hI)
      split at hI
      ·
        rename_i r1 s1 v1 k
        exact vc_X9_goOn_80 row s M K  hS n r1 s1 v1 k _ hI
      · exact hI.elim
  · exact hS.elim
