/-! the states that can have been the start -/
/-- whether a state can have been the start -/
def is_c (M : ab_M) (s j : Nat) : Bool := decide (ab_and (ab_shr (M 826 s) (M 846 j)) 1 = M 847 j)
def is_k (M : ab_M) (s : Nat) : Nat → Bool
  | 0 => true
  | k + 1 => is_k M s k && is_c M s k
def is_b (M : ab_M) (s : Nat) : Bool := is_k M s (M 797 71).toNat
def is_A (M : ab_M) : Prop := (0 ≤ M 797 71 ∧ M 797 71 ≤ 6) ∧ ∀ k : Nat, ab_ir (M 847 k)
/-- the starts: how many, the least -/
def st_P (M M' : ab_M) (q r : Int) (W1 W2 : Nat → List Int) : Prop := (¬ (0 ≤ q ∧ q ≤ 1) → M' = M ∧ r = -1) ∧ (0 ≤ q ∧ q ≤ 1 → fm_P M M' 0 W1 W2 ∧ (q = 0 → r = ((gx_m (is_b M') 256 : Nat) : Int)) ∧ (q = 1 → wr_1 (is_b M') 256 r))
def st_A (M : ab_M) (W1 W2 : Nat → List Int) : Prop := fm_A M 0 W1 W2 ∧ ∀ M1, fm_P M M1 0 W1 W2 → is_A M1
/-- the greatest group of a variable -/
def al_g (M : ab_M) (v its : Nat) (s : Nat) : Bool := decide (pz_vi (s : Int) (v : Int) = (its : Int)) && is_b M s
def al_m (M : ab_M) (v : Nat) : Nat → Nat
  | 0 => 0
  | k + 1 => if al_m M v k < gx_m (al_g M v k) 256 then gx_m (al_g M v k) 256 else al_m M v k
theorem al_m_bd (M : ab_M) (v : Nat) : ∀ k, al_m M v k ≤ 256
  | 0 => Nat.zero_le _
  | k + 1 => by
    have := gx_m_bd (al_g M v k) 256
    show (if al_m M v k < gx_m (al_g M v k) 256 then gx_m (al_g M v k) 256 else al_m M v k) ≤ 256
    split
    · exact this
    · exact al_m_bd M v k
/-- the variable to ask for -/
def as_b (M : ab_M) : Nat → Int × Int
  | 0 => (-9, 257)
  | k + 1 => (if ((al_m M k 4 : Nat) : Int) < (as_b M k).2 then (k : Int) else (as_b M k).1, if ((al_m M k 4 : Nat) : Int) < (as_b M k).2 then ((al_m M k 4 : Nat) : Int) else (as_b M k).2)
theorem as_b_rg (M : ab_M) : ∀ k, (-9 ≤ (as_b M k).1 ∧ (as_b M k).1 ≤ (k : Int)) ∧ 0 ≤ (as_b M k).2 ∧ (as_b M k).2 ≤ 257
  | 0 => ⟨⟨by show (-9 : Int) ≤ -9; decide, by show (-9 : Int) ≤ 0; decide⟩, by show (0 : Int) ≤ 257; decide, by show (257 : Int) ≤ 257; decide⟩
  | k + 1 => by
    obtain ⟨⟨h1, h2⟩, h3, h4⟩ := as_b_rg M k
    have := al_m_bd M k 4
    show (-9 ≤ (if ((al_m M k 4 : Nat) : Int) < (as_b M k).2 then (k : Int) else (as_b M k).1) ∧ (if ((al_m M k 4 : Nat) : Int) < (as_b M k).2 then (k : Int) else (as_b M k).1) ≤ _) ∧ 0 ≤ (if ((al_m M k 4 : Nat) : Int) < (as_b M k).2 then ((al_m M k 4 : Nat) : Int) else (as_b M k).2) ∧ (if ((al_m M k 4 : Nat) : Int) < (as_b M k).2 then ((al_m M k 4 : Nat) : Int) else (as_b M k).2) ≤ 257
    split
    · exact ⟨⟨by omega, by omega⟩, by omega, by omega⟩
    · exact ⟨⟨by omega, by omega⟩, by omega, by omega⟩
def as_P (M M' : ab_M) (r : Int) (W1 W2 : Nat → List Int) : Prop := fm_P M M' 0 W1 W2 ∧ (gx_m (is_b M') 256 < 2 → r = -9) ∧ (2 ≤ gx_m (is_b M') 256 → r = (as_b M' 4).1)

def S_X9_isStart : ab_PT := fun a M K => match a with
  | [.inr (.inr (.inr (797, 9, 0))), .inr (.inl s)] => (is_A M ∧ (0 ≤ s ∧ s < 256)) ∧ (∀ rx : Int, (rx = if is_b M s.toNat = true then 1 else 0) → K [Xi rx] M)
  | _ => False
set_option maxRecDepth 20000 in
theorem vc_X9_isStart_0 (s : Int) (M : ab_M) (K : List ab_V → ab_M → Prop) (hS : (is_A M ∧ (0 ≤ s ∧ s < 256)) ∧ (∀ rx : Int, (rx = if is_b M s.toNat = true then 1 else 0) → K [Xi rx] M)) : (∃ n', ((n' = (6 - (0 : Int)).toNat ∧ 0 ≤ (0 : Int) ∧ (0 : Int) ≤ M 797 71 ∧ s = s ∧ ((1 : Int) = if is_k M s.toNat (0 : Int).toNat = true then 1 else 0) ∧ M = M))) := by
  obtain ⟨⟨hA, hs⟩, gK⟩ := hS
  obtain ⟨⟨hA1, hA2⟩, hA3⟩ := id hA
  exact ⟨_, rfl, by decide, hA1, rfl, rfl, rfl⟩

set_option maxRecDepth 20000 in
theorem vc_X9_isStart_4 (s : Int) (M : ab_M) (K : List ab_V → ab_M → Prop) (hS : (is_A M ∧ (0 ≤ s ∧ s < 256)) ∧ (∀ rx : Int, (rx = if is_b M s.toNat = true then 1 else 0) → K [Xi rx] M)) (n : Nat) (s1 : Int) (is : Int) (k : Int) (M1 : ab_M) (hI : n = (6 - k).toNat ∧ 0 ≤ k ∧ k ≤ M 797 71 ∧ s = s1 ∧ (is = if is_k M s.toNat k.toNat = true then 1 else 0) ∧ M1 = M) : (ab_ir k ∧ ab_ir (M1 797 71)) ∧ (((M1 797 71) ≤ k → (is = 0 ∨ is = 1) ∧ K [Xi is] M1) ∧ (k < (M1 797 71) → (ab_ir is) ∧ ((is = 0 → (∃ n', n' < n ∧ ((n' = (6 - (k + 1)).toNat ∧ 0 ≤ (k + 1) ∧ (k + 1) ≤ M 797 71 ∧ s = s1 ∧ ((0 : Int) = if is_k M s.toNat (k + 1).toNat = true then 1 else 0) ∧ M1 = M)))) ∧ (¬ is = 0 → (0 ≤ s1 ∧ s1 < ((512 : Nat) : Int)) ∧ (0 ≤ k ∧ k < ((6 : Nat) : Int)) ∧ (0 ≤ k ∧ k < ((6 : Nat) : Int)) ∧ (ab_ir (ab_and (ab_shr (M1 826 s1.toNat) (M1 846 k.toNat)) (1 : Int)) ∧ ab_ir (M1 847 k.toNat)) ∧ ((¬ (ab_and (ab_shr (M1 826 s1.toNat) (M1 846 k.toNat)) (1 : Int)) = (M1 847 k.toNat) → (∃ n', n' < n ∧ ((n' = (6 - (k + 1)).toNat ∧ 0 ≤ (k + 1) ∧ (k + 1) ≤ M 797 71 ∧ s = s1 ∧ ((0 : Int) = if is_k M s.toNat (k + 1).toNat = true then 1 else 0) ∧ M1 = M)))) ∧ ((ab_and (ab_shr (M1 826 s1.toNat) (M1 846 k.toNat)) (1 : Int)) = (M1 847 k.toNat) → (∃ n', n' < n ∧ ((n' = (6 - (k + 1)).toNat ∧ 0 ≤ (k + 1) ∧ (k + 1) ≤ M 797 71 ∧ s = s1 ∧ ((1 : Int) = if is_k M s.toNat (k + 1).toNat = true then 1 else 0) ∧ M1 = M))))))))) := by
  obtain ⟨⟨hA, hs⟩, gK⟩ := hS
  obtain ⟨⟨hA1, hA2⟩, hA3⟩ := id hA
  obtain ⟨hn, hk0, hk1, q1, his, hM⟩ := hI
  subst q1
  subst hM
  have hd := hA3 k.toNat
  have har := ab_and_ir (ab_shr (M1 826 s.toNat) (M1 846 k.toNat)) 1
  refine And.intro (by
    first
      | omega
      | exact ⟨by omega, by omega⟩
      | exact hA
      | exact ⟨⟨by omega, by omega⟩, by omega, by omega⟩
      | (split <;> exact ⟨by decide, by decide⟩)
      | trivial
      | exact ⟨har, hd⟩
      | (rw [his]; split <;> exact ⟨by decide, by decide⟩)
      | (rw [his]; split <;> first | exact Or.inl rfl | exact Or.inr rfl)) ?_
  refine ⟨?_, ?_⟩
  · intro c9
    refine And.intro (by
      first
        | omega
        | exact ⟨by omega, by omega⟩
        | exact hA
        | exact ⟨⟨by omega, by omega⟩, by omega, by omega⟩
        | (split <;> exact ⟨by decide, by decide⟩)
        | trivial
        | exact ⟨har, hd⟩
        | (rw [his]; split <;> exact ⟨by decide, by decide⟩)
        | (rw [his]; split <;> first | exact Or.inl rfl | exact Or.inr rfl)) ?_
    refine gK _ ?_
    rw [his]
    unfold is_b
    rw [show (M1 797 71).toNat = k.toNat by omega]
  · intro c9
    refine And.intro (by
      first
        | omega
        | exact ⟨by omega, by omega⟩
        | exact hA
        | exact ⟨⟨by omega, by omega⟩, by omega, by omega⟩
        | (split <;> exact ⟨by decide, by decide⟩)
        | trivial
        | exact ⟨har, hd⟩
        | (rw [his]; split <;> exact ⟨by decide, by decide⟩)
        | (rw [his]; split <;> first | exact Or.inl rfl | exact Or.inr rfl)) ?_
    refine ⟨?_, ?_⟩
    · intro c13
      have hk1' : (k + 1).toNat = k.toNat + 1 := by omega
      have hst : is_k M1 s.toNat (k.toNat + 1) = (is_k M1 s.toNat k.toNat && is_c M1 s.toNat k.toNat) := rfl
      refine ⟨_, ?_, rfl, by omega, by omega, rfl, ?_, rfl⟩
      · omega
      rw [hk1', hst]
      rw [his, ab_bf] at c13
      rw [if_neg (fun z => c13 (Bool.and_eq_true_iff.1 z).1)]
    · intro c13
      refine And.intro (by
        first
          | omega
          | exact ⟨by omega, by omega⟩
          | exact hA
          | exact ⟨⟨by omega, by omega⟩, by omega, by omega⟩
          | (split <;> exact ⟨by decide, by decide⟩)
          | trivial
          | exact ⟨har, hd⟩
          | (rw [his]; split <;> exact ⟨by decide, by decide⟩)
          | (rw [his]; split <;> first | exact Or.inl rfl | exact Or.inr rfl)) ?_
      refine And.intro (by
        first
          | omega
          | exact ⟨by omega, by omega⟩
          | exact hA
          | exact ⟨⟨by omega, by omega⟩, by omega, by omega⟩
          | (split <;> exact ⟨by decide, by decide⟩)
          | trivial
          | exact ⟨har, hd⟩
          | (rw [his]; split <;> exact ⟨by decide, by decide⟩)
          | (rw [his]; split <;> first | exact Or.inl rfl | exact Or.inr rfl)) ?_
      refine And.intro (by
        first
          | omega
          | exact ⟨by omega, by omega⟩
          | exact hA
          | exact ⟨⟨by omega, by omega⟩, by omega, by omega⟩
          | (split <;> exact ⟨by decide, by decide⟩)
          | trivial
          | exact ⟨har, hd⟩
          | (rw [his]; split <;> exact ⟨by decide, by decide⟩)
          | (rw [his]; split <;> first | exact Or.inl rfl | exact Or.inr rfl)) ?_
      refine And.intro (by
        first
          | omega
          | exact ⟨by omega, by omega⟩
          | exact hA
          | exact ⟨⟨by omega, by omega⟩, by omega, by omega⟩
          | (split <;> exact ⟨by decide, by decide⟩)
          | trivial
          | exact ⟨har, hd⟩
          | (rw [his]; split <;> exact ⟨by decide, by decide⟩)
          | (rw [his]; split <;> first | exact Or.inl rfl | exact Or.inr rfl)) ?_
      refine ⟨?_, ?_⟩
      · intro c37
        have hk1' : (k + 1).toNat = k.toNat + 1 := by omega
        have hst : is_k M1 s.toNat (k.toNat + 1) = (is_k M1 s.toNat k.toNat && is_c M1 s.toNat k.toNat) := rfl
        refine ⟨_, ?_, rfl, by omega, by omega, rfl, ?_, rfl⟩
        · omega
        rw [hk1', hst]
        rw [his, ab_bt] at c13
        rw [if_neg (show ¬ (is_k M1 s.toNat k.toNat && is_c M1 s.toNat k.toNat) = true from fun z => c37 (of_decide_eq_true (Bool.and_eq_true_iff.1 z).2))]
      · intro c37
        have hk1' : (k + 1).toNat = k.toNat + 1 := by omega
        have hst : is_k M1 s.toNat (k.toNat + 1) = (is_k M1 s.toNat k.toNat && is_c M1 s.toNat k.toNat) := rfl
        refine ⟨_, ?_, rfl, by omega, by omega, rfl, ?_, rfl⟩
        · omega
        rw [hk1', hst]
        rw [his, ab_bt] at c13
        rw [if_pos (show (is_k M1 s.toNat k.toNat && is_c M1 s.toNat k.toNat) = true from Bool.and_eq_true_iff.2 ⟨c13, decide_eq_true c37⟩)]

set_option maxRecDepth 20000 in
set_option maxHeartbeats 1000000 in
theorem ok_X9_isStart (E : ab_E) : ab_Ok E 1 149 S_X9_isStart := by
  refine ab_mk rq_X9_isStart tk_X9_isStart (rt := 2) (rfl) (cuts := [4]) (G := []) (fun g hg => by cases hg) (by decide) 84 rfl ?_
  intro a M K wd wa hS
  unfold S_X9_isStart at hS
  split at hS
  ·
    rename_i s
    refine ⟨Nat.le_of_ble_eq_true rfl, fun pc n L st M1 => match pc, L, st with
      | 4, [.inr (.inr (.inr (797, 9, 0))), .inr (.inl s1), .inr (.inl is), .inr (.inl k)], [] => (n = (6 - k).toNat ∧ 0 ≤ k ∧ k ≤ M 797 71 ∧ s = s1 ∧ (is = if is_k M s.toNat k.toNat = true then 1 else 0) ∧ M1 = M)
      | _, _, _ => False, ?_, ?_⟩
    · exact vc_X9_isStart_0 s M K  hS
    · intro pc n L st M1 hI wd1 wL wst
      (try dsimp only at hI)
      split at hI
      ·
        rename_i s1 is k
        exact vc_X9_isStart_4 s M K  hS n s1 is k _ hI
      · exact hI.elim
  · exact hS.elim
def S_X9_starts : ab_PT := fun a M K => match a with
  | [.inr (.inr (.inr (797, 9, 0))), .inr (.inl q)] => (∃ W1 : Nat → List Int, ∃ W2 : Nat → List Int, (ab_ir q ∧ st_A M W1 W2) ∧ (∀ rx : Int, ∀ Mx : ab_M, (st_P M Mx q rx W1 W2) → K [Xi rx] Mx))
  | _ => False
set_option maxRecDepth 20000 in
theorem vc_X9_starts_0 (q : Int) (M : ab_M) (K : List ab_V → ab_M → Prop) (hS : (∃ W1 : Nat → List Int, ∃ W2 : Nat → List Int, (ab_ir q ∧ st_A M W1 W2) ∧ (∀ rx : Int, ∀ Mx : ab_M, (st_P M Mx q rx W1 W2) → K [Xi rx] Mx))) : (ab_ir q ∧ ab_ir (0 : Int) ∧ ab_ir (1 : Int)) ∧ (∀ r3 : Int, (r3 = if (0 : Int) ≤ q ∧ q ≤ (1 : Int) then 1 else 0) → (ab_ir r3) ∧ ((¬ r3 = 0 → (∃ W1_13 : Nat → List Int, ∃ W2_13 : Nat → List Int, (fm_A M (0 : Int) W1_13 W2_13) ∧ (∀ M13 : ab_M, (fm_P M M13 (0 : Int) W1_13 W2_13) → (-128 ≤ (-9 : Int) ∧ (-9 : Int) < 128) ∧ (∃ n', ((n' = (256 - (0 : Int)).toNat ∧ 0 ≤ (0 : Int) ∧ (0 : Int) ≤ 256 ∧ q = q ∧ (0 ≤ q ∧ q ≤ 1) ∧ ∃ W1 W2, (∀ rx : Int, ∀ Mx : ab_M, st_P M Mx q rx W1 W2 → K [Xi rx] Mx) ∧ st_A M W1 W2 ∧ fm_P M M13 0 W1 W2 ∧ (0 : Int) = ((gx_m (is_b M13) (0 : Int).toNat : Nat) : Int) ∧ wr_1 (is_b M13) (0 : Int).toNat (-9 : Int))))))) ∧ (r3 = 0 → K [Xi (-1 : Int)] M))) := by
  obtain ⟨W1, W2, ⟨gq, gA⟩, gK⟩ := hS
  refine And.intro (by
    first
      | omega
      | exact ⟨by omega, by omega⟩
      | exact hA
      | exact ⟨⟨by omega, by omega⟩, by omega, by omega⟩
      | (split <;> exact ⟨by decide, by decide⟩)
      | trivial
      | exact ⟨gq, ⟨by decide, by decide⟩, by decide, by decide⟩
      | exact gA.1
      | exact ⟨hA, by omega, by omega⟩
      | exact gq) ?_
  intro r3 hr3
  refine And.intro (by
    first
      | omega
      | exact ⟨by omega, by omega⟩
      | exact hA
      | exact ⟨⟨by omega, by omega⟩, by omega, by omega⟩
      | (split <;> exact ⟨by decide, by decide⟩)
      | trivial
      | exact ⟨gq, ⟨by decide, by decide⟩, by decide, by decide⟩
      | exact gA.1
      | exact ⟨hA, by omega, by omega⟩
      | exact gq) ?_
  refine ⟨?_, ?_⟩
  · intro c6
    rw [hr3] at c6
    rw [ab_bt] at c6
    clear hr3 r3
    refine Exists.intro (W1) <| Exists.intro (W2) <| ?_
    refine And.intro (by
      first
        | omega
        | exact ⟨by omega, by omega⟩
        | exact hA
        | exact ⟨⟨by omega, by omega⟩, by omega, by omega⟩
        | (split <;> exact ⟨by decide, by decide⟩)
        | trivial
        | exact ⟨gq, ⟨by decide, by decide⟩, by decide, by decide⟩
        | exact gA.1
        | exact ⟨hA, by omega, by omega⟩
        | exact gq) ?_
    intro M13 hM13
    refine And.intro (by
      first
        | omega
        | exact ⟨by omega, by omega⟩
        | exact hA
        | exact ⟨⟨by omega, by omega⟩, by omega, by omega⟩
        | (split <;> exact ⟨by decide, by decide⟩)
        | trivial
        | exact ⟨gq, ⟨by decide, by decide⟩, by decide, by decide⟩
        | exact gA.1
        | exact ⟨hA, by omega, by omega⟩
        | exact gq) ?_
    exact ⟨_, rfl, by decide, by decide, rfl, ⟨by omega, by omega⟩, W1, W2, gK, gA, hM13, rfl, Or.inl ⟨rfl, rfl⟩⟩
  · intro c6
    rw [hr3] at c6
    rw [ab_bf] at c6
    clear hr3 r3
    exact gK _ _ ⟨fun _ => ⟨rfl, rfl⟩, fun z => by omega⟩

set_option maxRecDepth 20000 in
theorem vc_X9_starts_24 (q : Int) (M : ab_M) (K : List ab_V → ab_M → Prop) (hS : (∃ W1 : Nat → List Int, ∃ W2 : Nat → List Int, (ab_ir q ∧ st_A M W1 W2) ∧ (∀ rx : Int, ∀ Mx : ab_M, (st_P M Mx q rx W1 W2) → K [Xi rx] Mx))) (n : Nat) (q1 : Int) (cnt : Int) (fst : Int) (s : Int) (M1 : ab_M) (hI : n = (256 - s).toNat ∧ 0 ≤ s ∧ s ≤ 256 ∧ q = q1 ∧ (0 ≤ q ∧ q ≤ 1) ∧ ∃ W1 W2, (∀ rx : Int, ∀ Mx : ab_M, st_P M Mx q rx W1 W2 → K [Xi rx] Mx) ∧ st_A M W1 W2 ∧ fm_P M M1 0 W1 W2 ∧ cnt = ((gx_m (is_b M1) s.toNat : Nat) : Int) ∧ wr_1 (is_b M1) s.toNat fst) : (-32768 ≤ (256 : Int) ∧ (256 : Int) < 32768) ∧ (ab_ir s ∧ ab_ir (256 : Int)) ∧ (((256 : Int) ≤ s → (ab_ir q1) ∧ ((¬ q1 = 0 → K [Xi fst] M1) ∧ (q1 = 0 → K [Xi cnt] M1))) ∧ (s < (256 : Int) → (is_A M1 ∧ (0 ≤ s ∧ s < 256)) ∧ (∀ r35 : Int, (r35 = if is_b M1 s.toNat = true then 1 else 0) → (ab_ir r35) ∧ ((r35 = 0 → (∃ n', n' < n ∧ ((n' = (256 - (s + 1)).toNat ∧ 0 ≤ (s + 1) ∧ (s + 1) ≤ 256 ∧ q = q1 ∧ (0 ≤ q ∧ q ≤ 1) ∧ ∃ W1 W2, (∀ rx : Int, ∀ Mx : ab_M, st_P M Mx q rx W1 W2 → K [Xi rx] Mx) ∧ st_A M W1 W2 ∧ fm_P M M1 0 W1 W2 ∧ cnt = ((gx_m (is_b M1) (s + 1).toNat : Nat) : Int) ∧ wr_1 (is_b M1) (s + 1).toNat fst)))) ∧ (¬ r35 = 0 → (ab_ir cnt) ∧ ((¬ cnt = 0 → (∃ n', n' < n ∧ ((n' = (256 - (s + 1)).toNat ∧ 0 ≤ (s + 1) ∧ (s + 1) ≤ 256 ∧ q = q1 ∧ (0 ≤ q ∧ q ≤ 1) ∧ ∃ W1 W2, (∀ rx : Int, ∀ Mx : ab_M, st_P M Mx q rx W1 W2 → K [Xi rx] Mx) ∧ st_A M W1 W2 ∧ fm_P M M1 0 W1 W2 ∧ (cnt + 1) = ((gx_m (is_b M1) (s + 1).toNat : Nat) : Int) ∧ wr_1 (is_b M1) (s + 1).toNat fst)))) ∧ (cnt = 0 → (∃ n', n' < n ∧ ((n' = (256 - (s + 1)).toNat ∧ 0 ≤ (s + 1) ∧ (s + 1) ≤ 256 ∧ q = q1 ∧ (0 ≤ q ∧ q ≤ 1) ∧ ∃ W1 W2, (∀ rx : Int, ∀ Mx : ab_M, st_P M Mx q rx W1 W2 → K [Xi rx] Mx) ∧ st_A M W1 W2 ∧ fm_P M M1 0 W1 W2 ∧ (cnt + 1) = ((gx_m (is_b M1) (s + 1).toNat : Nat) : Int) ∧ wr_1 (is_b M1) (s + 1).toNat s)))))))))) := by
  obtain ⟨hn, hs0, hs1, q1', hq, W1, W2, gK, gA, hP, hcnt, hfst⟩ := hI
  clear hS
  subst q1'
  have hA := gA.2 _ hP
  have hbd := gx_m_bd (is_b M1) s.toNat
  refine And.intro (by
    first
      | omega
      | exact ⟨by omega, by omega⟩
      | exact hA
      | exact ⟨⟨by omega, by omega⟩, by omega, by omega⟩
      | (split <;> exact ⟨by decide, by decide⟩)
      | trivial
      | exact ⟨gq, ⟨by decide, by decide⟩, by decide, by decide⟩
      | exact gA.1
      | exact ⟨hA, by omega, by omega⟩
      | exact gq) ?_
  refine And.intro (by
    first
      | omega
      | exact ⟨by omega, by omega⟩
      | exact hA
      | exact ⟨⟨by omega, by omega⟩, by omega, by omega⟩
      | (split <;> exact ⟨by decide, by decide⟩)
      | trivial
      | exact ⟨gq, ⟨by decide, by decide⟩, by decide, by decide⟩
      | exact gA.1
      | exact ⟨hA, by omega, by omega⟩
      | exact gq) ?_
  refine ⟨?_, ?_⟩
  · intro c29
    refine And.intro (by
      first
        | omega
        | exact ⟨by omega, by omega⟩
        | exact hA
        | exact ⟨⟨by omega, by omega⟩, by omega, by omega⟩
        | (split <;> exact ⟨by decide, by decide⟩)
        | trivial
        | exact ⟨gq, ⟨by decide, by decide⟩, by decide, by decide⟩
        | exact gA.1
        | exact ⟨hA, by omega, by omega⟩
        | exact gq) ?_
    refine ⟨?_, ?_⟩
    · intro c62
      rw [show s.toNat = 256 by omega] at hcnt hfst
      refine gK _ _ ⟨fun z => absurd hq z, fun _ => ⟨hP, fun z => ?_, fun z => ?_⟩⟩
      · first
          | exact hcnt
          | (exfalso; omega)
      · first
          | exact hfst
          | (exfalso; omega)
    · intro c62
      rw [show s.toNat = 256 by omega] at hcnt hfst
      refine gK _ _ ⟨fun z => absurd hq z, fun _ => ⟨hP, fun z => ?_, fun z => ?_⟩⟩
      · first
          | exact hcnt
          | (exfalso; omega)
      · first
          | exact hfst
          | (exfalso; omega)
  · intro c29
    refine And.intro (by
      first
        | omega
        | exact ⟨by omega, by omega⟩
        | exact hA
        | exact ⟨⟨by omega, by omega⟩, by omega, by omega⟩
        | (split <;> exact ⟨by decide, by decide⟩)
        | trivial
        | exact ⟨gq, ⟨by decide, by decide⟩, by decide, by decide⟩
        | exact gA.1
        | exact ⟨hA, by omega, by omega⟩
        | exact gq) ?_
    intro r35 hr35
    refine And.intro (by
      first
        | omega
        | exact ⟨by omega, by omega⟩
        | exact hA
        | exact ⟨⟨by omega, by omega⟩, by omega, by omega⟩
        | (split <;> exact ⟨by decide, by decide⟩)
        | trivial
        | exact ⟨gq, ⟨by decide, by decide⟩, by decide, by decide⟩
        | exact gA.1
        | exact ⟨hA, by omega, by omega⟩
        | exact gq) ?_
    refine ⟨?_, ?_⟩
    · intro c38
      rw [hr35] at c38
      rw [ab_bf] at c38
      clear hr35 r35
      have hk1' : (s + 1).toNat = s.toNat + 1 := by omega
      have hcn : gx_m (is_b M1) (s.toNat + 1) = gx_m (is_b M1) s.toNat + (if is_b M1 s.toNat = true then 1 else 0) := rfl
      have hnx := hfst.next
      rw [if_neg (fun z => absurd z.1 c38)] at hnx
      rw [if_neg c38] at hcn
      refine ⟨_, ?_, rfl, by omega, by omega, rfl, hq, W1, W2, gK, gA, hP, by rw [hk1', hcn]; exact hcnt, by rw [hk1']; exact hnx⟩
      omega
    · intro c38
      rw [hr35] at c38
      rw [ab_bt] at c38
      clear hr35 r35
      refine And.intro (by
        first
          | omega
          | exact ⟨by omega, by omega⟩
          | exact hA
          | exact ⟨⟨by omega, by omega⟩, by omega, by omega⟩
          | (split <;> exact ⟨by decide, by decide⟩)
          | trivial
          | exact ⟨gq, ⟨by decide, by decide⟩, by decide, by decide⟩
          | exact gA.1
          | exact ⟨hA, by omega, by omega⟩
          | exact gq) ?_
      refine ⟨?_, ?_⟩
      · intro c42
        have hk1' : (s + 1).toNat = s.toNat + 1 := by omega
        have hcn : gx_m (is_b M1) (s.toNat + 1) = gx_m (is_b M1) s.toNat + (if is_b M1 s.toNat = true then 1 else 0) := rfl
        have hnx := hfst.next
        rw [if_pos c38] at hcn
        refine ⟨_, ?_, rfl, by omega, by omega, rfl, hq, W1, W2, gK, gA, hP, by rw [hk1', hcn]; omega, ?_⟩
        · omega
        rw [hk1']
        first
          | (rw [if_pos ⟨c38, by omega⟩, show ((s.toNat : Nat) : Int) = s by omega] at hnx; exact hnx)
          | (rw [if_neg (fun z => by have := z.2; omega)] at hnx; exact hnx)
      · intro c42
        have hk1' : (s + 1).toNat = s.toNat + 1 := by omega
        have hcn : gx_m (is_b M1) (s.toNat + 1) = gx_m (is_b M1) s.toNat + (if is_b M1 s.toNat = true then 1 else 0) := rfl
        have hnx := hfst.next
        rw [if_pos c38] at hcn
        refine ⟨_, ?_, rfl, by omega, by omega, rfl, hq, W1, W2, gK, gA, hP, by rw [hk1', hcn]; omega, ?_⟩
        · omega
        rw [hk1']
        first
          | (rw [if_pos ⟨c38, by omega⟩, show ((s.toNat : Nat) : Int) = s by omega] at hnx; exact hnx)
          | (rw [if_neg (fun z => by have := z.2; omega)] at hnx; exact hnx)

set_option maxRecDepth 20000 in
set_option maxHeartbeats 1000000 in
theorem ok_X9_starts (E : ab_E) : ab_Ok E 10 182 S_X9_starts := by
  refine ab_mk rq_X9_starts tk_X9_starts (rt := 1) (rfl) (cuts := [24]) (G := [(137, S_X9_findMasks), (145, S_X9_in), (149, S_X9_isStart)]) (List.forall_mem_cons.mpr ⟨⟨9, by decide, ok_X9_findMasks E⟩, List.forall_mem_cons.mpr ⟨⟨1, by decide, ok_X9_in E⟩, List.forall_mem_cons.mpr ⟨⟨1, by decide, ok_X9_isStart E⟩, fun _ h => absurd h List.not_mem_nil⟩⟩⟩) (by decide) 88 rfl ?_
  intro a M K wd wa hS
  unfold S_X9_starts at hS
  split at hS
  ·
    rename_i q
    refine ⟨Nat.le_of_ble_eq_true rfl, fun pc n L st M1 => match pc, L, st with
      | 24, [.inr (.inr (.inr (797, 9, 0))), .inr (.inl q1), .inr (.inl cnt), .inr (.inl fst), .inr (.inl s)], [] => (n = (256 - s).toNat ∧ 0 ≤ s ∧ s ≤ 256 ∧ q = q1 ∧ (0 ≤ q ∧ q ≤ 1) ∧ ∃ W1 W2, (∀ rx : Int, ∀ Mx : ab_M, st_P M Mx q rx W1 W2 → K [Xi rx] Mx) ∧ st_A M W1 W2 ∧ fm_P M M1 0 W1 W2 ∧ cnt = ((gx_m (is_b M1) s.toNat : Nat) : Int) ∧ wr_1 (is_b M1) s.toNat fst)
      | _, _, _ => False, ?_, ?_⟩
    · exact vc_X9_starts_0 q M K  hS
    · intro pc n L st M1 hI wd1 wL wst
      (try dsimp only at hI)
      split at hI
      ·
        rename_i q1 cnt fst s
        exact vc_X9_starts_24 q M K  hS n q1 cnt fst s _ hI
      · exact hI.elim
  · exact hS.elim
def S_X9_alike : ab_PT := fun a M K => match a with
  | [.inr (.inr (.inr (797, 9, 0))), .inr (.inl v)] => (is_A M ∧ (0 ≤ v ∧ v ≤ 3)) ∧ (∀ rx : Int, (rx = ((al_m M v.toNat 4 : Nat) : Int)) → K [Xi rx] M)
  | _ => False
set_option maxRecDepth 20000 in
theorem vc_X9_alike_0 (v : Int) (M : ab_M) (K : List ab_V → ab_M → Prop) (hS : (is_A M ∧ (0 ≤ v ∧ v ≤ 3)) ∧ (∀ rx : Int, (rx = ((al_m M v.toNat 4 : Nat) : Int)) → K [Xi rx] M)) : (∃ n', ((n' = (4 - (0 : Int)).toNat * 300 + 300 ∧ 0 ≤ (0 : Int) ∧ (0 : Int) ≤ 4 ∧ v = v ∧ (0 : Int) = ((al_m M v.toNat (0 : Int).toNat : Nat) : Int) ∧ M = M))) := by
  obtain ⟨⟨hA, hv⟩, gK⟩ := hS
  exact ⟨_, rfl, by decide, by decide, rfl, rfl, rfl⟩

set_option maxRecDepth 20000 in
theorem vc_X9_alike_4 (v : Int) (M : ab_M) (K : List ab_V → ab_M → Prop) (hS : (is_A M ∧ (0 ≤ v ∧ v ≤ 3)) ∧ (∀ rx : Int, (rx = ((al_m M v.toNat 4 : Nat) : Int)) → K [Xi rx] M)) (n : Nat) (v1 : Int) (mo : Int) (k : Int) (M1 : ab_M) (hI : n = (4 - k).toNat * 300 + 300 ∧ 0 ≤ k ∧ k ≤ 4 ∧ v = v1 ∧ mo = ((al_m M v.toNat k.toNat : Nat) : Int) ∧ M1 = M) : (ab_ir k ∧ ab_ir (4 : Int)) ∧ (((4 : Int) ≤ k → K [Xi mo] M1) ∧ (k < (4 : Int) → (∃ n', n' < n ∧ ((n' = (4 - k).toNat * 300 + 299 - (0 : Int).toNat ∧ (0 ≤ k ∧ k < 4) ∧ (0 ≤ (0 : Int) ∧ (0 : Int) ≤ 256) ∧ v = v1 ∧ mo = ((al_m M v.toNat k.toNat : Nat) : Int) ∧ (0 : Int) = ((gx_m (al_g M v.toNat k.toNat) (0 : Int).toNat : Nat) : Int) ∧ M1 = M))))) := by
  obtain ⟨⟨hA, hv⟩, gK⟩ := hS
  obtain ⟨hn, hk0, hk1, q1, hmo, hM⟩ := hI
  subst q1
  subst hM
  have hal := al_m_bd M1 v.toNat k.toNat
  refine And.intro (by
    first
      | omega
      | exact ⟨by omega, by omega⟩
      | exact hA
      | exact ⟨⟨by omega, by omega⟩, by omega, by omega⟩
      | (split <;> exact ⟨by decide, by decide⟩)
      | trivial
      | exact ⟨hA, hs.1, by omega⟩
      | exact ⟨hvi, by omega, by omega⟩) ?_
  refine ⟨?_, ?_⟩
  · intro c6
    refine gK _ ?_
    rw [hmo, show k.toNat = 4 by omega]
  · intro c6
    refine ⟨_, ?_, rfl, ⟨by omega, by omega⟩, ⟨by decide, by decide⟩, rfl, hmo, rfl, rfl⟩
    omega

set_option maxRecDepth 20000 in
theorem vc_X9_alike_15 (v : Int) (M : ab_M) (K : List ab_V → ab_M → Prop) (hS : (is_A M ∧ (0 ≤ v ∧ v ≤ 3)) ∧ (∀ rx : Int, (rx = ((al_m M v.toNat 4 : Nat) : Int)) → K [Xi rx] M)) (n : Nat) (v1 : Int) (mo : Int) (k : Int) (cnt : Int) (s : Int) (M1 : ab_M) (hI : n = (4 - k).toNat * 300 + 299 - s.toNat ∧ (0 ≤ k ∧ k < 4) ∧ (0 ≤ s ∧ s ≤ 256) ∧ v = v1 ∧ mo = ((al_m M v.toNat k.toNat : Nat) : Int) ∧ cnt = ((gx_m (al_g M v.toNat k.toNat) s.toNat : Nat) : Int) ∧ M1 = M) : (-32768 ≤ (256 : Int) ∧ (256 : Int) < 32768) ∧ (ab_ir s ∧ ab_ir (256 : Int)) ∧ (((256 : Int) ≤ s → (ab_ir cnt ∧ ab_ir mo) ∧ ((cnt ≤ mo → (∃ n', n' < n ∧ ((n' = (4 - (k + 1)).toNat * 300 + 300 ∧ 0 ≤ (k + 1) ∧ (k + 1) ≤ 4 ∧ v = v1 ∧ mo = ((al_m M v.toNat (k + 1).toNat : Nat) : Int) ∧ M1 = M)))) ∧ (mo < cnt → (∃ n', n' < n ∧ ((n' = (4 - (k + 1)).toNat * 300 + 300 ∧ 0 ≤ (k + 1) ∧ (k + 1) ≤ 4 ∧ v = v1 ∧ cnt = ((al_m M v.toNat (k + 1).toNat : Nat) : Int) ∧ M1 = M)))))) ∧ (s < (256 : Int) → (-128 ≤ (6 : Int) ∧ (6 : Int) < 128) ∧ (ab_ir (ab_and (ab_shr s ((6 : Int) - ((2 : Int) * v1))) (3 : Int)) ∧ ab_ir k) ∧ ((¬ (ab_and (ab_shr s ((6 : Int) - ((2 : Int) * v1))) (3 : Int)) = k → (∃ n', n' < n ∧ ((n' = (4 - k).toNat * 300 + 299 - (s + 1).toNat ∧ (0 ≤ k ∧ k < 4) ∧ (0 ≤ (s + 1) ∧ (s + 1) ≤ 256) ∧ v = v1 ∧ mo = ((al_m M v.toNat k.toNat : Nat) : Int) ∧ (cnt + (0 : Int)) = ((gx_m (al_g M v.toNat k.toNat) (s + 1).toNat : Nat) : Int) ∧ M1 = M)))) ∧ ((ab_and (ab_shr s ((6 : Int) - ((2 : Int) * v1))) (3 : Int)) = k → (is_A M1 ∧ (0 ≤ s ∧ s < 256)) ∧ (∀ r43 : Int, (r43 = if is_b M1 s.toNat = true then 1 else 0) → (ab_ir r43) ∧ ((r43 = 0 → (∃ n', n' < n ∧ ((n' = (4 - k).toNat * 300 + 299 - (s + 1).toNat ∧ (0 ≤ k ∧ k < 4) ∧ (0 ≤ (s + 1) ∧ (s + 1) ≤ 256) ∧ v = v1 ∧ mo = ((al_m M v.toNat k.toNat : Nat) : Int) ∧ (cnt + (0 : Int)) = ((gx_m (al_g M v.toNat k.toNat) (s + 1).toNat : Nat) : Int) ∧ M1 = M)))) ∧ (¬ r43 = 0 → (∃ n', n' < n ∧ ((n' = (4 - k).toNat * 300 + 299 - (s + 1).toNat ∧ (0 ≤ k ∧ k < 4) ∧ (0 ≤ (s + 1) ∧ (s + 1) ≤ 256) ∧ v = v1 ∧ mo = ((al_m M v.toNat k.toNat : Nat) : Int) ∧ (cnt + (1 : Int)) = ((gx_m (al_g M v.toNat k.toNat) (s + 1).toNat : Nat) : Int) ∧ M1 = M)))))))))) := by
  obtain ⟨⟨hA, hv⟩, gK⟩ := hS
  obtain ⟨hn, hk, hs, q1, hmo, hcnt, hM⟩ := hI
  subst q1
  subst hM
  have hal := al_m_bd M1 v.toNat k.toNat
  have hbd := gx_m_bd (al_g M1 v.toNat k.toNat) s.toNat
  have hvi : ab_ir (ab_and (ab_shr s (6 - 2 * v)) 3) := ab_and_ir _ _
  refine And.intro (by
    first
      | omega
      | exact ⟨by omega, by omega⟩
      | exact hA
      | exact ⟨⟨by omega, by omega⟩, by omega, by omega⟩
      | (split <;> exact ⟨by decide, by decide⟩)
      | trivial
      | exact ⟨hA, hs.1, by omega⟩
      | exact ⟨hvi, by omega, by omega⟩) ?_
  refine And.intro (by
    first
      | omega
      | exact ⟨by omega, by omega⟩
      | exact hA
      | exact ⟨⟨by omega, by omega⟩, by omega, by omega⟩
      | (split <;> exact ⟨by decide, by decide⟩)
      | trivial
      | exact ⟨hA, hs.1, by omega⟩
      | exact ⟨hvi, by omega, by omega⟩) ?_
  refine ⟨?_, ?_⟩
  · intro c20
    refine And.intro (by
      first
        | omega
        | exact ⟨by omega, by omega⟩
        | exact hA
        | exact ⟨⟨by omega, by omega⟩, by omega, by omega⟩
        | (split <;> exact ⟨by decide, by decide⟩)
        | trivial
        | exact ⟨hA, hs.1, by omega⟩
        | exact ⟨hvi, by omega, by omega⟩) ?_
    refine ⟨?_, ?_⟩
    · intro c66
      have h256 : s.toNat = 256 := by omega
      have hk1' : (k + 1).toNat = k.toNat + 1 := by omega
      have hal : al_m M1 v.toNat (k.toNat + 1) = if al_m M1 v.toNat k.toNat < gx_m (al_g M1 v.toNat k.toNat) 256 then gx_m (al_g M1 v.toNat k.toNat) 256 else al_m M1 v.toNat k.toNat := rfl
      rw [h256] at hcnt
      refine ⟨_, ?_, rfl, by omega, by omega, rfl, ?_, rfl⟩
      · omega
      rw [hk1', hal]
      first
        | (rw [if_pos (by omega)]; assumption)
        | (rw [if_neg (by omega)]; assumption)
    · intro c66
      have h256 : s.toNat = 256 := by omega
      have hk1' : (k + 1).toNat = k.toNat + 1 := by omega
      have hal : al_m M1 v.toNat (k.toNat + 1) = if al_m M1 v.toNat k.toNat < gx_m (al_g M1 v.toNat k.toNat) 256 then gx_m (al_g M1 v.toNat k.toNat) 256 else al_m M1 v.toNat k.toNat := rfl
      rw [h256] at hcnt
      refine ⟨_, ?_, rfl, by omega, by omega, rfl, ?_, rfl⟩
      · omega
      rw [hk1', hal]
      first
        | (rw [if_pos (by omega)]; assumption)
        | (rw [if_neg (by omega)]; assumption)
  · intro c20
    refine And.intro (by
      first
        | omega
        | exact ⟨by omega, by omega⟩
        | exact hA
        | exact ⟨⟨by omega, by omega⟩, by omega, by omega⟩
        | (split <;> exact ⟨by decide, by decide⟩)
        | trivial
        | exact ⟨hA, hs.1, by omega⟩
        | exact ⟨hvi, by omega, by omega⟩) ?_
    refine And.intro (by
      first
        | omega
        | exact ⟨by omega, by omega⟩
        | exact hA
        | exact ⟨⟨by omega, by omega⟩, by omega, by omega⟩
        | (split <;> exact ⟨by decide, by decide⟩)
        | trivial
        | exact ⟨hA, hs.1, by omega⟩
        | exact ⟨hvi, by omega, by omega⟩) ?_
    refine ⟨?_, ?_⟩
    · intro c37
      have hk1' : (s + 1).toNat = s.toNat + 1 := by omega
      have hcn : gx_m (al_g M1 v.toNat k.toNat) (s.toNat + 1) = gx_m (al_g M1 v.toNat k.toNat) s.toNat + (if al_g M1 v.toNat k.toNat s.toNat = true then 1 else 0) := rfl
      have es : ((s.toNat : Nat) : Int) = s := by omega
      have ev : ((v.toNat : Nat) : Int) = v := by omega
      have ek : ((k.toNat : Nat) : Int) = k := by omega
      rw [if_neg (show ¬ al_g M1 v.toNat k.toNat s.toNat = true from fun z => absurd (of_decide_eq_true (Bool.and_eq_true_iff.1 z).1) (by rw [es, ev, ek]; assumption))] at hcn
      refine ⟨_, ?_, rfl, hk, ⟨by omega, by omega⟩, rfl, hmo, by rw [hk1', hcn]; omega, rfl⟩
      omega
    · intro c37
      refine And.intro (by
        first
          | omega
          | exact ⟨by omega, by omega⟩
          | exact hA
          | exact ⟨⟨by omega, by omega⟩, by omega, by omega⟩
          | (split <;> exact ⟨by decide, by decide⟩)
          | trivial
          | exact ⟨hA, hs.1, by omega⟩
          | exact ⟨hvi, by omega, by omega⟩) ?_
      intro r43 hr43
      refine And.intro (by
        first
          | omega
          | exact ⟨by omega, by omega⟩
          | exact hA
          | exact ⟨⟨by omega, by omega⟩, by omega, by omega⟩
          | (split <;> exact ⟨by decide, by decide⟩)
          | trivial
          | exact ⟨hA, hs.1, by omega⟩
          | exact ⟨hvi, by omega, by omega⟩) ?_
      refine ⟨?_, ?_⟩
      · intro c46
        rw [hr43] at c46
        rw [ab_bf] at c46
        clear hr43 r43
        have hk1' : (s + 1).toNat = s.toNat + 1 := by omega
        have hcn : gx_m (al_g M1 v.toNat k.toNat) (s.toNat + 1) = gx_m (al_g M1 v.toNat k.toNat) s.toNat + (if al_g M1 v.toNat k.toNat s.toNat = true then 1 else 0) := rfl
        have es : ((s.toNat : Nat) : Int) = s := by omega
        have ev : ((v.toNat : Nat) : Int) = v := by omega
        have ek : ((k.toNat : Nat) : Int) = k := by omega
        rw [if_neg (show ¬ al_g M1 v.toNat k.toNat s.toNat = true from fun z => absurd (Bool.and_eq_true_iff.1 z).2 c46)] at hcn
        refine ⟨_, ?_, rfl, hk, ⟨by omega, by omega⟩, rfl, hmo, by rw [hk1', hcn]; omega, rfl⟩
        omega
      · intro c46
        rw [hr43] at c46
        rw [ab_bt] at c46
        clear hr43 r43
        have hk1' : (s + 1).toNat = s.toNat + 1 := by omega
        have hcn : gx_m (al_g M1 v.toNat k.toNat) (s.toNat + 1) = gx_m (al_g M1 v.toNat k.toNat) s.toNat + (if al_g M1 v.toNat k.toNat s.toNat = true then 1 else 0) := rfl
        have es : ((s.toNat : Nat) : Int) = s := by omega
        have ev : ((v.toNat : Nat) : Int) = v := by omega
        have ek : ((k.toNat : Nat) : Int) = k := by omega
        rw [if_pos (show  al_g M1 v.toNat k.toNat s.toNat = true from Bool.and_eq_true_iff.2 ⟨decide_eq_true (by rw [es, ev, ek]; assumption), c46⟩)] at hcn
        refine ⟨_, ?_, rfl, hk, ⟨by omega, by omega⟩, rfl, hmo, by rw [hk1', hcn]; omega, rfl⟩
        omega

set_option maxRecDepth 20000 in
set_option maxHeartbeats 1000000 in
theorem ok_X9_alike (E : ab_E) : ab_Ok E 2 118 S_X9_alike := by
  refine ab_mk rq_X9_alike tk_X9_alike (rt := 1) (rfl) (cuts := [4, 15]) (G := [(149, S_X9_isStart)]) (List.forall_mem_cons.mpr ⟨⟨1, by decide, ok_X9_isStart E⟩, fun _ h => absurd h List.not_mem_nil⟩) (by decide) 98 rfl ?_
  intro a M K wd wa hS
  unfold S_X9_alike at hS
  split at hS
  ·
    rename_i v
    refine ⟨Nat.le_of_ble_eq_true rfl, fun pc n L st M1 => match pc, L, st with
      | 4, [.inr (.inr (.inr (797, 9, 0))), .inr (.inl v1), .inr (.inl mo), .inr (.inl k), u5_, u6_], [] => (n = (4 - k).toNat * 300 + 300 ∧ 0 ≤ k ∧ k ≤ 4 ∧ v = v1 ∧ mo = ((al_m M v.toNat k.toNat : Nat) : Int) ∧ M1 = M)
      | 15, [.inr (.inr (.inr (797, 9, 0))), .inr (.inl v1), .inr (.inl mo), .inr (.inl k), .inr (.inl cnt), .inr (.inl s)], [] => (n = (4 - k).toNat * 300 + 299 - s.toNat ∧ (0 ≤ k ∧ k < 4) ∧ (0 ≤ s ∧ s ≤ 256) ∧ v = v1 ∧ mo = ((al_m M v.toNat k.toNat : Nat) : Int) ∧ cnt = ((gx_m (al_g M v.toNat k.toNat) s.toNat : Nat) : Int) ∧ M1 = M)
      | _, _, _ => False, ?_, ?_⟩
    · exact vc_X9_alike_0 v M K  hS
    · intro pc n L st M1 hI wd1 wL wst
      (try dsimp only at hI)
      split at hI
      ·
        rename_i v1 mo k u5_ u6_
        exact vc_X9_alike_4 v M K  hS n v1 mo k _ hI
      ·
        rename_i v1 mo k cnt s
        exact vc_X9_alike_15 v M K  hS n v1 mo k cnt s _ hI
      · exact hI.elim
  · exact hS.elim
def S_X9_ask : ab_PT := fun a M K => match a with
  | [.inr (.inr (.inr (797, 9, 0)))] => (∃ W1 : Nat → List Int, ∃ W2 : Nat → List Int, (st_A M W1 W2) ∧ (∀ rx : Int, ∀ Mx : ab_M, (as_P M Mx rx W1 W2) → K [Xi rx] Mx))
  | _ => False
set_option maxRecDepth 20000 in
theorem vc_X9_ask_0  (M : ab_M) (K : List ab_V → ab_M → Prop) (hS : (∃ W1 : Nat → List Int, ∃ W2 : Nat → List Int, (st_A M W1 W2) ∧ (∀ rx : Int, ∀ Mx : ab_M, (as_P M Mx rx W1 W2) → K [Xi rx] Mx))) : (∃ W1_2 : Nat → List Int, ∃ W2_2 : Nat → List Int, (ab_ir (0 : Int) ∧ st_A M W1_2 W2_2) ∧ (∀ r2 : Int, ∀ M2 : ab_M, (st_P M M2 (0 : Int) r2 W1_2 W2_2) → (ab_ir r2 ∧ ab_ir (2 : Int)) ∧ (((2 : Int) ≤ r2 → (-128 ≤ (-9 : Int) ∧ (-9 : Int) < 128) ∧ (-32768 ≤ (257 : Int) ∧ (257 : Int) < 32768) ∧ (∃ n', ((n' = (4 - (0 : Int)).toNat ∧ 0 ≤ (0 : Int) ∧ (0 : Int) ≤ 4 ∧ ∃ W1 W2, (∀ rx : Int, ∀ Mx : ab_M, as_P M Mx rx W1 W2 → K [Xi rx] Mx) ∧ st_A M W1 W2 ∧ fm_P M M2 0 W1 W2 ∧ 2 ≤ gx_m (is_b M2) 256 ∧ (-9 : Int) = (as_b M2 (0 : Int).toNat).1 ∧ (257 : Int) = (as_b M2 (0 : Int).toNat).2)))) ∧ (r2 < (2 : Int) → (-128 ≤ (-9 : Int) ∧ (-9 : Int) < 128) ∧ K [Xi (-9 : Int)] M2)))) := by
  obtain ⟨W1, W2, gA, gK⟩ := hS
  refine Exists.intro (W1) <| Exists.intro (W2) <| ?_
  refine And.intro (by
    first
      | omega
      | exact ⟨by omega, by omega⟩
      | exact hA
      | exact ⟨⟨by omega, by omega⟩, by omega, by omega⟩
      | (split <;> exact ⟨by decide, by decide⟩)
      | trivial
      | exact ⟨⟨by decide, by decide⟩, gA⟩
      | exact ⟨hA, hv0, by omega⟩) ?_
  intro r2 M2 hM2
  obtain ⟨hP, hcnt, -⟩ := hM2.2 ⟨by decide, by decide⟩
  have hcnt := hcnt rfl
  have hbd := gx_m_bd (is_b M2) 256
  refine And.intro (by
    first
      | omega
      | exact ⟨by omega, by omega⟩
      | exact hA
      | exact ⟨⟨by omega, by omega⟩, by omega, by omega⟩
      | (split <;> exact ⟨by decide, by decide⟩)
      | trivial
      | exact ⟨⟨by decide, by decide⟩, gA⟩
      | exact ⟨hA, hv0, by omega⟩) ?_
  refine ⟨?_, ?_⟩
  · intro c6
    refine And.intro (by
      first
        | omega
        | exact ⟨by omega, by omega⟩
        | exact hA
        | exact ⟨⟨by omega, by omega⟩, by omega, by omega⟩
        | (split <;> exact ⟨by decide, by decide⟩)
        | trivial
        | exact ⟨⟨by decide, by decide⟩, gA⟩
        | exact ⟨hA, hv0, by omega⟩) ?_
    refine And.intro (by
      first
        | omega
        | exact ⟨by omega, by omega⟩
        | exact hA
        | exact ⟨⟨by omega, by omega⟩, by omega, by omega⟩
        | (split <;> exact ⟨by decide, by decide⟩)
        | trivial
        | exact ⟨⟨by decide, by decide⟩, gA⟩
        | exact ⟨hA, hv0, by omega⟩) ?_
    exact ⟨_, rfl, by decide, by decide, W1, W2, gK, gA, hP, by omega, rfl, rfl⟩
  · intro c6
    refine And.intro (by
      first
        | omega
        | exact ⟨by omega, by omega⟩
        | exact hA
        | exact ⟨⟨by omega, by omega⟩, by omega, by omega⟩
        | (split <;> exact ⟨by decide, by decide⟩)
        | trivial
        | exact ⟨⟨by decide, by decide⟩, gA⟩
        | exact ⟨hA, hv0, by omega⟩) ?_
    exact gK _ _ ⟨hP, fun _ => rfl, fun z => by omega⟩

set_option maxRecDepth 20000 in
theorem vc_X9_ask_21  (M : ab_M) (K : List ab_V → ab_M → Prop) (hS : (∃ W1 : Nat → List Int, ∃ W2 : Nat → List Int, (st_A M W1 W2) ∧ (∀ rx : Int, ∀ Mx : ab_M, (as_P M Mx rx W1 W2) → K [Xi rx] Mx))) (n : Nat) (be : Int) (le : Int) (v : Int) (M1 : ab_M) (hI : n = (4 - v).toNat ∧ 0 ≤ v ∧ v ≤ 4 ∧ ∃ W1 W2, (∀ rx : Int, ∀ Mx : ab_M, as_P M Mx rx W1 W2 → K [Xi rx] Mx) ∧ st_A M W1 W2 ∧ fm_P M M1 0 W1 W2 ∧ 2 ≤ gx_m (is_b M1) 256 ∧ be = (as_b M1 v.toNat).1 ∧ le = (as_b M1 v.toNat).2) : (ab_ir v ∧ ab_ir (4 : Int)) ∧ (((4 : Int) ≤ v → K [Xi be] M1) ∧ (v < (4 : Int) → (is_A M1 ∧ (0 ≤ v ∧ v ≤ 3)) ∧ (∀ r28 : Int, (r28 = ((al_m M1 v.toNat 4 : Nat) : Int)) → (ab_ir r28 ∧ ab_ir le) ∧ ((le ≤ r28 → (ab_ir r28 ∧ ab_ir le) ∧ ((le ≤ r28 → (∃ n', n' < n ∧ ((n' = (4 - (v + 1)).toNat ∧ 0 ≤ (v + 1) ∧ (v + 1) ≤ 4 ∧ ∃ W1 W2, (∀ rx : Int, ∀ Mx : ab_M, as_P M Mx rx W1 W2 → K [Xi rx] Mx) ∧ st_A M W1 W2 ∧ fm_P M M1 0 W1 W2 ∧ 2 ≤ gx_m (is_b M1) 256 ∧ be = (as_b M1 (v + 1).toNat).1 ∧ le = (as_b M1 (v + 1).toNat).2)))) ∧ (r28 < le → (∃ n', n' < n ∧ ((n' = (4 - (v + 1)).toNat ∧ 0 ≤ (v + 1) ∧ (v + 1) ≤ 4 ∧ ∃ W1 W2, (∀ rx : Int, ∀ Mx : ab_M, as_P M Mx rx W1 W2 → K [Xi rx] Mx) ∧ st_A M W1 W2 ∧ fm_P M M1 0 W1 W2 ∧ 2 ≤ gx_m (is_b M1) 256 ∧ be = (as_b M1 (v + 1).toNat).1 ∧ r28 = (as_b M1 (v + 1).toNat).2)))))) ∧ (r28 < le → (ab_ir r28 ∧ ab_ir le) ∧ ((le ≤ r28 → (∃ n', n' < n ∧ ((n' = (4 - (v + 1)).toNat ∧ 0 ≤ (v + 1) ∧ (v + 1) ≤ 4 ∧ ∃ W1 W2, (∀ rx : Int, ∀ Mx : ab_M, as_P M Mx rx W1 W2 → K [Xi rx] Mx) ∧ st_A M W1 W2 ∧ fm_P M M1 0 W1 W2 ∧ 2 ≤ gx_m (is_b M1) 256 ∧ v = (as_b M1 (v + 1).toNat).1 ∧ le = (as_b M1 (v + 1).toNat).2)))) ∧ (r28 < le → (∃ n', n' < n ∧ ((n' = (4 - (v + 1)).toNat ∧ 0 ≤ (v + 1) ∧ (v + 1) ≤ 4 ∧ ∃ W1 W2, (∀ rx : Int, ∀ Mx : ab_M, as_P M Mx rx W1 W2 → K [Xi rx] Mx) ∧ st_A M W1 W2 ∧ fm_P M M1 0 W1 W2 ∧ 2 ≤ gx_m (is_b M1) 256 ∧ v = (as_b M1 (v + 1).toNat).1 ∧ r28 = (as_b M1 (v + 1).toNat).2)))))))))) := by
  obtain ⟨hn, hv0, hv1, W1, W2, gK, gA, hP, h2, hbe, hle⟩ := hI
  clear hS
  have hA := gA.2 _ hP
  have hrg := as_b_rg M1 v.toNat
  have hal := al_m_bd M1 v.toNat 4
  refine And.intro (by
    first
      | omega
      | exact ⟨by omega, by omega⟩
      | exact hA
      | exact ⟨⟨by omega, by omega⟩, by omega, by omega⟩
      | (split <;> exact ⟨by decide, by decide⟩)
      | trivial
      | exact ⟨⟨by decide, by decide⟩, gA⟩
      | exact ⟨hA, hv0, by omega⟩) ?_
  refine ⟨?_, ?_⟩
  · intro c23
    refine gK _ _ ⟨hP, fun z => by omega, fun _ => ?_⟩
    rw [hbe, show v.toNat = 4 by omega]
  · intro c23
    refine And.intro (by
      first
        | omega
        | exact ⟨by omega, by omega⟩
        | exact hA
        | exact ⟨⟨by omega, by omega⟩, by omega, by omega⟩
        | (split <;> exact ⟨by decide, by decide⟩)
        | trivial
        | exact ⟨⟨by decide, by decide⟩, gA⟩
        | exact ⟨hA, hv0, by omega⟩) ?_
    intro r28 hr28
    refine And.intro (by
      first
        | omega
        | exact ⟨by omega, by omega⟩
        | exact hA
        | exact ⟨⟨by omega, by omega⟩, by omega, by omega⟩
        | (split <;> exact ⟨by decide, by decide⟩)
        | trivial
        | exact ⟨⟨by decide, by decide⟩, gA⟩
        | exact ⟨hA, hv0, by omega⟩) ?_
    refine ⟨?_, ?_⟩
    · intro c36
      refine And.intro (by
        first
          | omega
          | exact ⟨by omega, by omega⟩
          | exact hA
          | exact ⟨⟨by omega, by omega⟩, by omega, by omega⟩
          | (split <;> exact ⟨by decide, by decide⟩)
          | trivial
          | exact ⟨⟨by decide, by decide⟩, gA⟩
          | exact ⟨hA, hv0, by omega⟩) ?_
      refine ⟨?_, ?_⟩
      · intro c48
        have hk1' : (v + 1).toNat = v.toNat + 1 := by omega
        have hb : as_b M1 (v.toNat + 1) = (if ((al_m M1 v.toNat 4 : Nat) : Int) < (as_b M1 v.toNat).2 then ((v.toNat : Nat) : Int) else (as_b M1 v.toNat).1, if ((al_m M1 v.toNat 4 : Nat) : Int) < (as_b M1 v.toNat).2 then ((al_m M1 v.toNat 4 : Nat) : Int) else (as_b M1 v.toNat).2) := rfl
        refine ⟨_, ?_, rfl, by omega, by omega, W1, W2, gK, gA, hP, h2, ?_, ?_⟩
        · omega
        · rw [hk1', hb]
          show _ = (if _ then _ else _)
          first
            | (rw [if_pos (by omega)]; omega)
            | (rw [if_neg (by omega)]; assumption)
        · rw [hk1', hb]
          show _ = (if _ then _ else _)
          first
            | (rw [if_pos (by omega)]; assumption)
            | (rw [if_neg (by omega)]; assumption)
      · intro c48
        have hk1' : (v + 1).toNat = v.toNat + 1 := by omega
        have hb : as_b M1 (v.toNat + 1) = (if ((al_m M1 v.toNat 4 : Nat) : Int) < (as_b M1 v.toNat).2 then ((v.toNat : Nat) : Int) else (as_b M1 v.toNat).1, if ((al_m M1 v.toNat 4 : Nat) : Int) < (as_b M1 v.toNat).2 then ((al_m M1 v.toNat 4 : Nat) : Int) else (as_b M1 v.toNat).2) := rfl
        refine ⟨_, ?_, rfl, by omega, by omega, W1, W2, gK, gA, hP, h2, ?_, ?_⟩
        · omega
        · rw [hk1', hb]
          show _ = (if _ then _ else _)
          first
            | (rw [if_pos (by omega)]; omega)
            | (rw [if_neg (by omega)]; assumption)
        · rw [hk1', hb]
          show _ = (if _ then _ else _)
          first
            | (rw [if_pos (by omega)]; assumption)
            | (rw [if_neg (by omega)]; assumption)
    · intro c36
      refine And.intro (by
        first
          | omega
          | exact ⟨by omega, by omega⟩
          | exact hA
          | exact ⟨⟨by omega, by omega⟩, by omega, by omega⟩
          | (split <;> exact ⟨by decide, by decide⟩)
          | trivial
          | exact ⟨⟨by decide, by decide⟩, gA⟩
          | exact ⟨hA, hv0, by omega⟩) ?_
      refine ⟨?_, ?_⟩
      · intro c48
        have hk1' : (v + 1).toNat = v.toNat + 1 := by omega
        have hb : as_b M1 (v.toNat + 1) = (if ((al_m M1 v.toNat 4 : Nat) : Int) < (as_b M1 v.toNat).2 then ((v.toNat : Nat) : Int) else (as_b M1 v.toNat).1, if ((al_m M1 v.toNat 4 : Nat) : Int) < (as_b M1 v.toNat).2 then ((al_m M1 v.toNat 4 : Nat) : Int) else (as_b M1 v.toNat).2) := rfl
        refine ⟨_, ?_, rfl, by omega, by omega, W1, W2, gK, gA, hP, h2, ?_, ?_⟩
        · omega
        · rw [hk1', hb]
          show _ = (if _ then _ else _)
          first
            | (rw [if_pos (by omega)]; omega)
            | (rw [if_neg (by omega)]; assumption)
        · rw [hk1', hb]
          show _ = (if _ then _ else _)
          first
            | (rw [if_pos (by omega)]; assumption)
            | (rw [if_neg (by omega)]; assumption)
      · intro c48
        have hk1' : (v + 1).toNat = v.toNat + 1 := by omega
        have hb : as_b M1 (v.toNat + 1) = (if ((al_m M1 v.toNat 4 : Nat) : Int) < (as_b M1 v.toNat).2 then ((v.toNat : Nat) : Int) else (as_b M1 v.toNat).1, if ((al_m M1 v.toNat 4 : Nat) : Int) < (as_b M1 v.toNat).2 then ((al_m M1 v.toNat 4 : Nat) : Int) else (as_b M1 v.toNat).2) := rfl
        refine ⟨_, ?_, rfl, by omega, by omega, W1, W2, gK, gA, hP, h2, ?_, ?_⟩
        · omega
        · rw [hk1', hb]
          show _ = (if _ then _ else _)
          first
            | (rw [if_pos (by omega)]; omega)
            | (rw [if_neg (by omega)]; assumption)
        · rw [hk1', hb]
          show _ = (if _ then _ else _)
          first
            | (rw [if_pos (by omega)]; assumption)
            | (rw [if_neg (by omega)]; assumption)

set_option maxRecDepth 20000 in
set_option maxHeartbeats 1000000 in
theorem ok_X9_ask (E : ab_E) : ab_Ok E 11 120 S_X9_ask := by
  refine ab_mk rq_X9_ask tk_X9_ask (rt := 1) (rfl) (cuts := [21]) (G := [(118, S_X9_alike), (182, S_X9_starts)]) (List.forall_mem_cons.mpr ⟨⟨2, by decide, ok_X9_alike E⟩, List.forall_mem_cons.mpr ⟨⟨10, by decide, ok_X9_starts E⟩, fun _ h => absurd h List.not_mem_nil⟩⟩) (by decide) 88 rfl ?_
  intro a M K wd wa hS
  unfold S_X9_ask at hS
  split at hS
  ·
    refine ⟨Nat.le_of_ble_eq_true rfl, fun pc n L st M1 => match pc, L, st with
      | 21, [.inr (.inr (.inr (797, 9, 0))), .inr (.inl be), .inr (.inl le), .inr (.inl v), u5_], [] => (n = (4 - v).toNat ∧ 0 ≤ v ∧ v ≤ 4 ∧ ∃ W1 W2, (∀ rx : Int, ∀ Mx : ab_M, as_P M Mx rx W1 W2 → K [Xi rx] Mx) ∧ st_A M W1 W2 ∧ fm_P M M1 0 W1 W2 ∧ 2 ≤ gx_m (is_b M1) 256 ∧ be = (as_b M1 v.toNat).1 ∧ le = (as_b M1 v.toNat).2)
      | _, _, _ => False, ?_, ?_⟩
    · exact vc_X9_ask_0  M K  hS
    · intro pc n L st M1 hI wd1 wL wst
      (try dsimp only at hI)
      split at hI
      ·
        rename_i be le v u5_
        exact vc_X9_ask_21  M K  hS n be le v _ hI
      · exact hI.elim
  · exact hS.elim
