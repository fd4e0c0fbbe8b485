/-! starts, the passive form, of the class -/
def tr_A (M : ab_M) (t : pz_T) : Prop := ps_Q M t 0 (-1) ∧ M 26 3 = ((pz_sz t : Nat) : Int) ∧ pz_ht t ≤ 24 ∧ ps_pm M
def tr_P (M M' : ab_M) (t : pz_T) : Prop := ps_M M' (ps_t t (fun _ => 0) (fun _ => 0, 0, 0)).1 ∧ ps_F M M' 0 (-1)
/-- whether a state can have been the start, in the class -/
def iy_c (M : ab_M) (s j : Nat) : Bool := wy_f M 0 (M 795 j) s == decide (M 796 j = 1)
def iy_k (M : ab_M) (s : Nat) : Nat → Bool
  | 0 => true
  | k + 1 => iy_k M s k && iy_c M s k
def iy_b (M : ab_M) (s : Nat) : Bool := iy_k M s (M 0 14).toNat
theorem iy_k_no {M : ab_M} {s j : Nat} (h : iy_c M s j = false) : ∀ k, j < k → iy_k M s k = false
  | 0, hk => absurd hk (Nat.not_lt_zero _)
  | k + 1, hk => by
    show (iy_k M s k && iy_c M s k) = false
    by_cases e : j = k
    · rw [← e, h, Bool.and_false]
    · rw [iy_k_no h k (by omega), Bool.false_and]
def iy_A (M : ab_M) : Prop := (0 ≤ M 0 14 ∧ M 0 14 ≤ 6) ∧ ∀ k : Nat, (0 ≤ M 795 k ∧ M 795 k ≤ 17) ∧ ab_ir (M 796 k)
/-- groups of states, the greatest one; the variable whose greatest one is smallest -/
def gg_g (f : Nat → Bool) (v its : Nat) (s : Nat) : Bool := decide (pz_vi (s : Int) (v : Int) = (its : Int)) && f s
def gg_m (f : Nat → Bool) (v : Nat) : Nat → Nat
  | 0 => 0
  | k + 1 => if gg_m f v k < gx_m (gg_g f v k) 256 then gx_m (gg_g f v k) 256 else gg_m f v k
theorem gg_m_bd (f : Nat → Bool) (v : Nat) : ∀ k, gg_m f v k ≤ 256
  | 0 => Nat.zero_le _
  | k + 1 => by
    have := gx_m_bd (gg_g f v k) 256
    show (if gg_m f v k < gx_m (gg_g f v k) 256 then gx_m (gg_g f v k) 256 else gg_m f v k) ≤ 256
    split
    · exact this
    · exact gg_m_bd f v k
def gg_b (f : Nat → Bool) (b0 : Int) : Nat → Int × Int
  | 0 => (b0, 257)
  | k + 1 => (if ((gg_m f k 4 : Nat) : Int) < (gg_b f b0 k).2 then (k : Int) else (gg_b f b0 k).1, if ((gg_m f k 4 : Nat) : Int) < (gg_b f b0 k).2 then ((gg_m f k 4 : Nat) : Int) else (gg_b f b0 k).2)
theorem gg_b_rg (f : Nat → Bool) : ∀ k, (0 ≤ (gg_b f 0 k).1 ∧ (gg_b f 0 k).1 ≤ (k : Int)) ∧ 0 ≤ (gg_b f 0 k).2 ∧ (gg_b f 0 k).2 ≤ 257
  | 0 => ⟨⟨by show (0 : Int) ≤ 0; decide, by show (0 : Int) ≤ 0; decide⟩, by show (0 : Int) ≤ 257; decide, by show (257 : Int) ≤ 257; decide⟩
  | k + 1 => by
    obtain ⟨⟨h1, h2⟩, h3, h4⟩ := gg_b_rg f k
    have := gg_m_bd f k 4
    show (0 ≤ (if ((gg_m f k 4 : Nat) : Int) < (gg_b f 0 k).2 then (k : Int) else (gg_b f 0 k).1) ∧ (if ((gg_m f k 4 : Nat) : Int) < (gg_b f 0 k).2 then (k : Int) else (gg_b f 0 k).1) ≤ _) ∧ 0 ≤ (if ((gg_m f k 4 : Nat) : Int) < (gg_b f 0 k).2 then ((gg_m f k 4 : Nat) : Int) else (gg_b f 0 k).2) ∧ (if ((gg_m f k 4 : Nat) : Int) < (gg_b f 0 k).2 then ((gg_m f k 4 : Nat) : Int) else (gg_b f 0 k).2) ≤ 257
    split
    · exact ⟨⟨by omega, by omega⟩, by omega, by omega⟩
    · exact ⟨⟨by omega, by omega⟩, by omega, by omega⟩
def ty_P (M M' : ab_M) (q r : Int) : Prop := (¬ (0 ≤ q ∧ q ≤ 1) → M' = M ∧ r = -1) ∧ (0 ≤ q ∧ q ≤ 1 → pp_P M M' 0 ∧ (q = 0 → r = ((gx_m (iy_b M') 256 : Nat) : Int)) ∧ (q = 1 → wr_1 (iy_b M') 256 r))
def qy_P (M M' : ab_M) (r : Int) : Prop := pp_P M M' 0 ∧ (gx_m (iy_b M') 256 < 2 → r = -9) ∧ (2 ≤ gx_m (iy_b M') 256 → r = (gg_b (iy_b M') 0 4).1)

def S_X8_versions : ab_PT := fun a M K => match a with
  | [.inr (.inr (.inr (0, 8, 0))), .inr (.inl v)] => (∃ t : pz_T, (ab_ir v ∧ tr_A M t) ∧ (∀ rx : Int, ∀ Mx : ab_M, ((¬ (0 ≤ v ∧ v ≤ 3) → Mx = M ∧ rx = -1) ∧ (0 ≤ v ∧ v ≤ 3 → tr_P M Mx t ∧ rx = Mx 791 v.toNat)) → K [Xi rx] Mx))
  | _ => False
set_option maxRecDepth 20000 in
theorem vc_X8_versions_0 (v : Int) (M : ab_M) (K : List ab_V → ab_M → Prop) (hS : (∃ t : pz_T, (ab_ir v ∧ tr_A M t) ∧ (∀ rx : Int, ∀ Mx : ab_M, ((¬ (0 ≤ v ∧ v ≤ 3) → Mx = M ∧ rx = -1) ∧ (0 ≤ v ∧ v ≤ 3 → tr_P M Mx t ∧ rx = Mx 791 v.toNat)) → K [Xi rx] Mx))) : (ab_ir v) ∧ ((v < 0 → K [Xi (-1 : Int)] M) ∧ (0 ≤ v → (ab_ir v ∧ ab_ir (4 : Int)) ∧ ((v < (4 : Int) → (∃ t_15 : pz_T, (ps_Q M t_15 0 (-1) ∧ M 26 3 = ((pz_sz t_15 : Nat) : Int) ∧ pz_ht t_15 ≤ 24 ∧ ps_pm M) ∧ (∀ M15 : ab_M, (ps_M M15 (ps_t t_15 (fun _ => 0) (fun _ => 0, 0, 0)).1 ∧ ps_F M M15 0 (-1)) → (0 ≤ v ∧ v < ((4 : Nat) : Int)) ∧ K [Xi (M15 791 v.toNat)] M15))) ∧ ((4 : Int) ≤ v → K [Xi (-1 : Int)] M)))) := by
  obtain ⟨t, ⟨gv, gA⟩, gK⟩ := hS
  refine And.intro (by
    first
      | omega
      | exact ⟨by omega, by omega⟩
      | exact ⟨⟨by omega, by omega⟩, by omega, by omega⟩
      | (split <;> exact ⟨by decide, by decide⟩)
      | trivial
      | exact gA) ?_
  refine ⟨?_, ?_⟩
  · intro c1
    first
      | exact gK _ _ ⟨fun _ => ⟨rfl, rfl⟩, fun z => by omega⟩
      | exact gK _ _ ⟨fun z => by omega, fun _ => ⟨hM15, rfl⟩⟩
  · intro c1
    refine And.intro (by
      first
        | omega
        | exact ⟨by omega, by omega⟩
        | exact ⟨⟨by omega, by omega⟩, by omega, by omega⟩
        | (split <;> exact ⟨by decide, by decide⟩)
        | trivial
        | exact gA) ?_
    refine ⟨?_, ?_⟩
    · intro c6
      refine Exists.intro (t) <| ?_
      refine And.intro (by
        first
          | omega
          | exact ⟨by omega, by omega⟩
          | exact ⟨⟨by omega, by omega⟩, by omega, by omega⟩
          | (split <;> exact ⟨by decide, by decide⟩)
          | trivial
          | exact gA) ?_
      intro M15 hM15
      refine And.intro (by
        first
          | omega
          | exact ⟨by omega, by omega⟩
          | exact ⟨⟨by omega, by omega⟩, by omega, by omega⟩
          | (split <;> exact ⟨by decide, by decide⟩)
          | trivial
          | exact gA) ?_
      first
        | exact gK _ _ ⟨fun _ => ⟨rfl, rfl⟩, fun z => by omega⟩
        | exact gK _ _ ⟨fun z => by omega, fun _ => ⟨hM15, rfl⟩⟩
    · intro c6
      first
        | exact gK _ _ ⟨fun _ => ⟨rfl, rfl⟩, fun z => by omega⟩
        | exact gK _ _ ⟨fun z => by omega, fun _ => ⟨hM15, rfl⟩⟩

set_option maxRecDepth 20000 in
set_option maxHeartbeats 1000000 in
theorem ok_X8_versions (E : ab_E) : ab_Ok E 86 115 S_X8_versions := by
  refine ab_mk rq_X8_versions tk_X8_versions (rt := 1) (rfl) (cuts := []) (G := [(8, S_X0_traverse)]) (List.forall_mem_cons.mpr ⟨⟨85, by decide, ok_X0_traverse E⟩, fun _ h => absurd h List.not_mem_nil⟩) (by decide) 66 rfl ?_
  intro a M K wd wa hS
  unfold S_X8_versions at hS
  split at hS
  ·
    rename_i v
    refine ⟨Nat.le_of_ble_eq_true rfl, fun _ _ _ _ _ => False, ?_, ?_⟩
    · exact vc_X8_versions_0 v M K  hS
    · exact fun _ _ _ _ _ h => h.elim
  · exact hS.elim
def S_X8_equalities : ab_PT := fun a M K => match a with
  | [.inr (.inr (.inr (0, 8, 0)))] => (∃ t : pz_T, (tr_A M t) ∧ (∀ rx : Int, ∀ Mx : ab_M, (tr_P M Mx t ∧ rx = Mx 790 2) → K [Xi rx] Mx))
  | _ => False
set_option maxRecDepth 20000 in
theorem vc_X8_equalities_0  (M : ab_M) (K : List ab_V → ab_M → Prop) (hS : (∃ t : pz_T, (tr_A M t) ∧ (∀ rx : Int, ∀ Mx : ab_M, (tr_P M Mx t ∧ rx = Mx 790 2) → K [Xi rx] Mx))) : (∃ t_4 : pz_T, (ps_Q M t_4 0 (-1) ∧ M 26 3 = ((pz_sz t_4 : Nat) : Int) ∧ pz_ht t_4 ≤ 24 ∧ ps_pm M) ∧ (∀ M4 : ab_M, (ps_M M4 (ps_t t_4 (fun _ => 0) (fun _ => 0, 0, 0)).1 ∧ ps_F M M4 0 (-1)) → K [Xi (M4 790 2)] M4)) := by
  obtain ⟨t, gA, gK⟩ := hS
  refine Exists.intro (t) <| ?_
  refine And.intro (by
    exact gA) ?_
  intro M4 hM4
  exact gK _ _ ⟨hM4, rfl⟩

set_option maxRecDepth 20000 in
set_option maxHeartbeats 1000000 in
theorem ok_X8_equalities (E : ab_E) : ab_Ok E 86 88 S_X8_equalities := by
  refine ab_mk rq_X8_equalities tk_X8_equalities (rt := 1) (rfl) (cuts := []) (G := [(8, S_X0_traverse)]) (List.forall_mem_cons.mpr ⟨⟨85, by decide, ok_X0_traverse E⟩, fun _ h => absurd h List.not_mem_nil⟩) (by decide) 57 rfl ?_
  intro a M K wd wa hS
  unfold S_X8_equalities at hS
  split at hS
  ·
    refine ⟨Nat.le_of_ble_eq_true rfl, fun _ _ _ _ _ => False, ?_, ?_⟩
    · exact vc_X8_equalities_0  M K  hS
    · exact fun _ _ _ _ _ h => h.elim
  · exact hS.elim
def S_X8_linear : ab_PT := fun a M K => match a with
  | [.inr (.inr (.inr (0, 8, 0)))] => (∃ t : pz_T, (tr_A M t) ∧ (∀ rx : Int, ∀ Mx : ab_M, (tr_P M Mx t ∧ rx = Mx 790 3 + 3 * Mx 790 2) → K [Xi rx] Mx))
  | _ => False
set_option maxRecDepth 20000 in
theorem vc_X8_linear_0  (M : ab_M) (K : List ab_V → ab_M → Prop) (hS : (∃ t : pz_T, (tr_A M t) ∧ (∀ rx : Int, ∀ Mx : ab_M, (tr_P M Mx t ∧ rx = Mx 790 3 + 3 * Mx 790 2) → K [Xi rx] Mx))) : (∃ t_4 : pz_T, (ps_Q M t_4 0 (-1) ∧ M 26 3 = ((pz_sz t_4 : Nat) : Int) ∧ pz_ht t_4 ≤ 24 ∧ ps_pm M) ∧ (∀ M4 : ab_M, (ps_M M4 (ps_t t_4 (fun _ => 0) (fun _ => 0, 0, 0)).1 ∧ ps_F M M4 0 (-1)) → K [Xi ((M4 790 3) + ((3 : Int) * (M4 790 2)))] M4)) := by
  obtain ⟨t, gA, gK⟩ := hS
  refine Exists.intro (t) <| ?_
  refine And.intro (by
    exact gA) ?_
  intro M4 hM4
  exact gK _ _ ⟨hM4, rfl⟩

set_option maxRecDepth 20000 in
set_option maxHeartbeats 1000000 in
theorem ok_X8_linear (E : ab_E) : ab_Ok E 86 101 S_X8_linear := by
  refine ab_mk rq_X8_linear tk_X8_linear (rt := 1) (rfl) (cuts := []) (G := [(8, S_X0_traverse)]) (List.forall_mem_cons.mpr ⟨⟨85, by decide, ok_X0_traverse E⟩, fun _ h => absurd h List.not_mem_nil⟩) (by decide) 63 rfl ?_
  intro a M K wd wa hS
  unfold S_X8_linear at hS
  split at hS
  ·
    refine ⟨Nat.le_of_ble_eq_true rfl, fun _ _ _ _ _ => False, ?_, ?_⟩
    · exact vc_X8_linear_0  M K  hS
    · exact fun _ _ _ _ _ h => h.elim
  · exact hS.elim
def S_X8_copied : ab_PT := fun a M K => match a with
  | [.inr (.inr (.inr (0, 8, 0)))] => (∃ t : pz_T, ∃ nx : Int, (ps_Q M t 0 nx ∧ M 26 4 = cr_ls t 0 ∧ pz_ht t ≤ 24 ∧ ps_pm M ∧ ps_l M) ∧ (∀ rx : Int, (rx = cp_t t 1 1) → K [Xl rx] M))
  | _ => False
set_option maxRecDepth 20000 in
theorem vc_X8_copied_0  (M : ab_M) (K : List ab_V → ab_M → Prop) (hS : (∃ t : pz_T, ∃ nx : Int, (ps_Q M t 0 nx ∧ M 26 4 = cr_ls t 0 ∧ pz_ht t ≤ 24 ∧ ps_pm M ∧ ps_l M) ∧ (∀ rx : Int, (rx = cp_t t 1 1) → K [Xl rx] M))) : (∃ t_4 : pz_T, ∃ nx_4 : Int, (ps_Q M t_4 0 nx_4 ∧ M 26 4 = cr_ls t_4 0 ∧ pz_ht t_4 ≤ 24 ∧ ps_pm M ∧ ps_l M) ∧ (∀ r4 : Int, (r4 = cp_t t_4 1 1) → K [Xl r4] M)) := by
  obtain ⟨t, nx, gA, gK⟩ := hS
  refine Exists.intro (t) <| Exists.intro (nx) <| ?_
  refine And.intro (by
    exact gA) ?_
  intro r4 hr4
  exact gK _ hr4

set_option maxRecDepth 20000 in
set_option maxHeartbeats 1000000 in
theorem ok_X8_copied (E : ab_E) : ab_Ok E 61 84 S_X8_copied := by
  refine ab_mk rq_X8_copied tk_X8_copied (rt := 3) (rfl) (cuts := []) (G := [(7, S_X0_sizeByCopying)]) (List.forall_mem_cons.mpr ⟨⟨60, by decide, ok_X0_sizeByCopying E⟩, fun _ h => absurd h List.not_mem_nil⟩) (by decide) 54 rfl ?_
  intro a M K wd wa hS
  unfold S_X8_copied at hS
  split at hS
  ·
    refine ⟨Nat.le_of_ble_eq_true rfl, fun _ _ _ _ _ => False, ?_, ?_⟩
    · exact vc_X8_copied_0  M K  hS
    · exact fun _ _ _ _ _ h => h.elim
  · exact hS.elim
def S_X8_isStart : ab_PT := fun a M K => match a with
  | [.inr (.inr (.inr (0, 8, 0))), .inr (.inl s)] => (iy_A M ∧ (0 ≤ s ∧ s ≤ 255)) ∧ (∀ rx : Int, (rx = if iy_b M s.toNat = true then 1 else 0) → K [Xi rx] M)
  | _ => False
set_option maxRecDepth 20000 in
theorem vc_X8_isStart_0 (s : Int) (M : ab_M) (K : List ab_V → ab_M → Prop) (hS : (iy_A M ∧ (0 ≤ s ∧ s ≤ 255)) ∧ (∀ rx : Int, (rx = if iy_b M s.toNat = true then 1 else 0) → K [Xi rx] M)) : (∃ n', ((n' = (6 - (0 : Int)).toNat ∧ 0 ≤ (0 : Int) ∧ (0 : Int) ≤ M 0 14 ∧ s = s ∧ iy_k M s.toNat (0 : Int).toNat = true ∧ M = M))) := by
  obtain ⟨⟨gA, gs⟩, gK⟩ := hS
  obtain ⟨⟨g1, g2⟩, g3⟩ := id gA
  exact ⟨_, rfl, by decide, g1, rfl, rfl, rfl⟩

set_option maxRecDepth 20000 in
theorem vc_X8_isStart_2 (s : Int) (M : ab_M) (K : List ab_V → ab_M → Prop) (hS : (iy_A M ∧ (0 ≤ s ∧ s ≤ 255)) ∧ (∀ rx : Int, (rx = if iy_b M s.toNat = true then 1 else 0) → K [Xi rx] M)) (n : Nat) (s1 : Int) (k : Int) (M1 : ab_M) (hI : n = (6 - k).toNat ∧ 0 ≤ k ∧ k ≤ M 0 14 ∧ s = s1 ∧ iy_k M s.toNat k.toNat = true ∧ M1 = M) : (ab_ir k ∧ ab_ir (M1 0 14)) ∧ (((M1 0 14) ≤ k → ((1 : Int) = 0 ∨ (1 : Int) = 1) ∧ K [Xi (1 : Int)] M1) ∧ (k < (M1 0 14) → (-128 ≤ (6 : Int) ∧ (6 : Int) < 128) ∧ (ab_ir k ∧ ab_ir (6 : Int)) ∧ (((6 : Int) ≤ k → ((1 : Int) = 0 ∨ (1 : Int) = 1) ∧ K [Xi (1 : Int)] M1) ∧ (k < (6 : Int) → (0 ≤ k ∧ k < ((6 : Nat) : Int)) ∧ (((0 : Int) = 0 ∨ (0 : Int) = 1) ∧ 0 ≤ s1 ∧ s1 ≤ 255) ∧ (∀ r28 : Int, (r28 = if ¬ ab_and (M1 (785 + (0 : Int).toNat) s1.toNat) (ab_shl 1 (M1 795 k.toNat)) = 0 then 1 else 0) → (0 ≤ k ∧ k < ((6 : Nat) : Int)) ∧ (ab_ir (M1 796 k.toNat) ∧ ab_ir (1 : Int)) ∧ ((¬ (M1 796 k.toNat) = (1 : Int) → (ab_ir r28 ∧ ab_ir (0 : Int)) ∧ ((r28 = (0 : Int) → (∃ n', n' < n ∧ ((n' = (6 - (k + 1)).toNat ∧ 0 ≤ (k + 1) ∧ (k + 1) ≤ M 0 14 ∧ s = s1 ∧ iy_k M s.toNat (k + 1).toNat = true ∧ M1 = M)))) ∧ (¬ r28 = (0 : Int) → ((0 : Int) = 0 ∨ (0 : Int) = 1) ∧ K [Xi (0 : Int)] M1))) ∧ ((M1 796 k.toNat) = (1 : Int) → (ab_ir r28 ∧ ab_ir (1 : Int)) ∧ ((r28 = (1 : Int) → (∃ n', n' < n ∧ ((n' = (6 - (k + 1)).toNat ∧ 0 ≤ (k + 1) ∧ (k + 1) ≤ M 0 14 ∧ s = s1 ∧ iy_k M s.toNat (k + 1).toNat = true ∧ M1 = M)))) ∧ (¬ r28 = (1 : Int) → ((0 : Int) = 0 ∨ (0 : Int) = 1) ∧ K [Xi (0 : Int)] M1))))))))) := by
  obtain ⟨⟨gA, gs⟩, gK⟩ := hS
  obtain ⟨⟨g1, g2⟩, g3⟩ := id gA
  obtain ⟨hn, hk0, hk1, e1, hik, hM⟩ := hI
  subst e1
  subst hM
  have h82 := (g3 k.toNat).1
  have h83 := (g3 k.toNat).2
  refine And.intro (by
    first
      | omega
      | exact ⟨by omega, by omega⟩
      | exact ⟨⟨by omega, by omega⟩, by omega, by omega⟩
      | (split <;> exact ⟨by decide, by decide⟩)
      | trivial
      | exact ⟨h83, by decide, by decide⟩
      | exact ⟨by rw [hr28]; split <;> exact ⟨by decide, by decide⟩, by decide, by decide⟩) ?_
  refine ⟨?_, ?_⟩
  · intro c7
    refine And.intro (by
      first
        | omega
        | exact ⟨by omega, by omega⟩
        | exact ⟨⟨by omega, by omega⟩, by omega, by omega⟩
        | (split <;> exact ⟨by decide, by decide⟩)
        | trivial
        | exact ⟨h83, by decide, by decide⟩
        | exact ⟨by rw [hr28]; split <;> exact ⟨by decide, by decide⟩, by decide, by decide⟩) ?_
    refine gK _ ?_
    unfold iy_b
    rw [show (M1 0 14).toNat = k.toNat by omega, hik, if_pos rfl]
  · intro c7
    refine And.intro (by
      first
        | omega
        | exact ⟨by omega, by omega⟩
        | exact ⟨⟨by omega, by omega⟩, by omega, by omega⟩
        | (split <;> exact ⟨by decide, by decide⟩)
        | trivial
        | exact ⟨h83, by decide, by decide⟩
        | exact ⟨by rw [hr28]; split <;> exact ⟨by decide, by decide⟩, by decide, by decide⟩) ?_
    refine And.intro (by
      first
        | omega
        | exact ⟨by omega, by omega⟩
        | exact ⟨⟨by omega, by omega⟩, by omega, by omega⟩
        | (split <;> exact ⟨by decide, by decide⟩)
        | trivial
        | exact ⟨h83, by decide, by decide⟩
        | exact ⟨by rw [hr28]; split <;> exact ⟨by decide, by decide⟩, by decide, by decide⟩) ?_
    refine ⟨?_, ?_⟩
    · intro c13
      refine And.intro (by
        first
          | omega
          | exact ⟨by omega, by omega⟩
          | exact ⟨⟨by omega, by omega⟩, by omega, by omega⟩
          | (split <;> exact ⟨by decide, by decide⟩)
          | trivial
          | exact ⟨h83, by decide, by decide⟩
          | exact ⟨by rw [hr28]; split <;> exact ⟨by decide, by decide⟩, by decide, by decide⟩) ?_
      refine gK _ ?_
      unfold iy_b
      rw [show (M1 0 14).toNat = k.toNat by omega, hik, if_pos rfl]
    · intro c13
      refine And.intro (by
        first
          | omega
          | exact ⟨by omega, by omega⟩
          | exact ⟨⟨by omega, by omega⟩, by omega, by omega⟩
          | (split <;> exact ⟨by decide, by decide⟩)
          | trivial
          | exact ⟨h83, by decide, by decide⟩
          | exact ⟨by rw [hr28]; split <;> exact ⟨by decide, by decide⟩, by decide, by decide⟩) ?_
      refine And.intro (by
        first
          | omega
          | exact ⟨by omega, by omega⟩
          | exact ⟨⟨by omega, by omega⟩, by omega, by omega⟩
          | (split <;> exact ⟨by decide, by decide⟩)
          | trivial
          | exact ⟨h83, by decide, by decide⟩
          | exact ⟨by rw [hr28]; split <;> exact ⟨by decide, by decide⟩, by decide, by decide⟩) ?_
      intro r28 hr28
      rw [ite_iff (can_b (M := M1) (md := 0) (s := s) (c := M1 795 k.toNat) (by decide) gs (by omega))] at hr28
      refine And.intro (by
        first
          | omega
          | exact ⟨by omega, by omega⟩
          | exact ⟨⟨by omega, by omega⟩, by omega, by omega⟩
          | (split <;> exact ⟨by decide, by decide⟩)
          | trivial
          | exact ⟨h83, by decide, by decide⟩
          | exact ⟨by rw [hr28]; split <;> exact ⟨by decide, by decide⟩, by decide, by decide⟩) ?_
      refine And.intro (by
        first
          | omega
          | exact ⟨by omega, by omega⟩
          | exact ⟨⟨by omega, by omega⟩, by omega, by omega⟩
          | (split <;> exact ⟨by decide, by decide⟩)
          | trivial
          | exact ⟨h83, by decide, by decide⟩
          | exact ⟨by rw [hr28]; split <;> exact ⟨by decide, by decide⟩, by decide, by decide⟩) ?_
      refine ⟨?_, ?_⟩
      · intro c38
        refine And.intro (by
          first
            | omega
            | exact ⟨by omega, by omega⟩
            | exact ⟨⟨by omega, by omega⟩, by omega, by omega⟩
            | (split <;> exact ⟨by decide, by decide⟩)
            | trivial
            | exact ⟨h83, by decide, by decide⟩
            | exact ⟨by rw [hr28]; split <;> exact ⟨by decide, by decide⟩, by decide, by decide⟩) ?_
        refine ⟨?_, ?_⟩
        · intro c46
          have hc : iy_c M1 s.toNat k.toNat = true := by
            unfold iy_c
            by_cases z : wy_f M1 0 (M1 795 k.toNat) s.toNat = true
            · rw [if_pos z] at hr28
              first
                | (rw [z, decide_eq_true (by assumption)]; rfl)
                | omega
            · rw [if_neg z] at hr28
              first
                | (rw [Bool.eq_false_iff.2 z, decide_eq_false (by assumption)]; rfl)
                | omega
          refine ⟨_, ?_, rfl, by omega, by omega, rfl, ?_, rfl⟩
          · omega
          rw [show (k + 1).toNat = k.toNat + 1 by omega]
          show (iy_k M1 s.toNat k.toNat && iy_c M1 s.toNat k.toNat) = true
          rw [hik, hc]
          rfl
        · intro c46
          refine And.intro (by
            first
              | omega
              | exact ⟨by omega, by omega⟩
              | exact ⟨⟨by omega, by omega⟩, by omega, by omega⟩
              | (split <;> exact ⟨by decide, by decide⟩)
              | trivial
              | exact ⟨h83, by decide, by decide⟩
              | exact ⟨by rw [hr28]; split <;> exact ⟨by decide, by decide⟩, by decide, by decide⟩) ?_
          have hc : iy_c M1 s.toNat k.toNat = false := by
            unfold iy_c
            by_cases z : wy_f M1 0 (M1 795 k.toNat) s.toNat = true
            · rw [if_pos z] at hr28
              first
                | (rw [z, decide_eq_false (by assumption)]; rfl)
                | omega
            · rw [if_neg z] at hr28
              first
                | (rw [Bool.eq_false_iff.2 z, decide_eq_true (by assumption)]; rfl)
                | omega
          refine gK _ ?_
          unfold iy_b
          rw [iy_k_no hc _ (by omega), if_neg (by decide)]
      · intro c38
        refine And.intro (by
          first
            | omega
            | exact ⟨by omega, by omega⟩
            | exact ⟨⟨by omega, by omega⟩, by omega, by omega⟩
            | (split <;> exact ⟨by decide, by decide⟩)
            | trivial
            | exact ⟨h83, by decide, by decide⟩
            | exact ⟨by rw [hr28]; split <;> exact ⟨by decide, by decide⟩, by decide, by decide⟩) ?_
        refine ⟨?_, ?_⟩
        · intro c46
          have hc : iy_c M1 s.toNat k.toNat = true := by
            unfold iy_c
            by_cases z : wy_f M1 0 (M1 795 k.toNat) s.toNat = true
            · rw [if_pos z] at hr28
              first
                | (rw [z, decide_eq_true (by assumption)]; rfl)
                | omega
            · rw [if_neg z] at hr28
              first
                | (rw [Bool.eq_false_iff.2 z, decide_eq_false (by assumption)]; rfl)
                | omega
          refine ⟨_, ?_, rfl, by omega, by omega, rfl, ?_, rfl⟩
          · omega
          rw [show (k + 1).toNat = k.toNat + 1 by omega]
          show (iy_k M1 s.toNat k.toNat && iy_c M1 s.toNat k.toNat) = true
          rw [hik, hc]
          rfl
        · intro c46
          refine And.intro (by
            first
              | omega
              | exact ⟨by omega, by omega⟩
              | exact ⟨⟨by omega, by omega⟩, by omega, by omega⟩
              | (split <;> exact ⟨by decide, by decide⟩)
              | trivial
              | exact ⟨h83, by decide, by decide⟩
              | exact ⟨by rw [hr28]; split <;> exact ⟨by decide, by decide⟩, by decide, by decide⟩) ?_
          have hc : iy_c M1 s.toNat k.toNat = false := by
            unfold iy_c
            by_cases z : wy_f M1 0 (M1 795 k.toNat) s.toNat = true
            · rw [if_pos z] at hr28
              first
                | (rw [z, decide_eq_false (by assumption)]; rfl)
                | omega
            · rw [if_neg z] at hr28
              first
                | (rw [Bool.eq_false_iff.2 z, decide_eq_true (by assumption)]; rfl)
                | omega
          refine gK _ ?_
          unfold iy_b
          rw [iy_k_no hc _ (by omega), if_neg (by decide)]

set_option maxRecDepth 20000 in
set_option maxHeartbeats 1000000 in
theorem ok_X8_isStart (E : ab_E) : ab_Ok E 2 94 S_X8_isStart := by
  refine ab_mk rq_X8_isStart tk_X8_isStart (rt := 2) (rfl) (cuts := [2]) (G := [(47, S_X3_can)]) (List.forall_mem_cons.mpr ⟨⟨1, by decide, ok_X3_can E⟩, fun _ h => absurd h List.not_mem_nil⟩) (by decide) 84 rfl ?_
  intro a M K wd wa hS
  unfold S_X8_isStart at hS
  split at hS
  ·
    rename_i s
    refine ⟨Nat.le_of_ble_eq_true rfl, fun pc n L st M1 => match pc, L, st with
      | 2, [.inr (.inr (.inr (0, 8, 0))), .inr (.inl s1), .inr (.inl k)], [] => (n = (6 - k).toNat ∧ 0 ≤ k ∧ k ≤ M 0 14 ∧ s = s1 ∧ iy_k M s.toNat k.toNat = true ∧ M1 = M)
      | _, _, _ => False, ?_, ?_⟩
    · exact vc_X8_isStart_0 s M K  hS
    · intro pc n L st M1 hI wd1 wL wst
      (try dsimp only at hI)
      split at hI
      ·
        rename_i s1 k
        exact vc_X8_isStart_2 s M K  hS n s1 k _ hI
      · exact hI.elim
  · exact hS.elim
def S_X8_startsFound : ab_PT := fun a M K => match a with
  | [.inr (.inr (.inr (0, 8, 0)))] => (iy_A M) ∧ (∀ rx : Int, (rx = ((gx_m (iy_b M) 256 : Nat) : Int)) → K [Xi rx] M)
  | _ => False
set_option maxRecDepth 20000 in
theorem vc_X8_startsFound_0  (M : ab_M) (K : List ab_V → ab_M → Prop) (hS : (iy_A M) ∧ (∀ rx : Int, (rx = ((gx_m (iy_b M) 256 : Nat) : Int)) → K [Xi rx] M)) : (∃ n', ((n' = (256 - (0 : Int)).toNat ∧ (0 ≤ (0 : Int) ∧ (0 : Int) ≤ 256) ∧ (0 : Int) = ((gx_m (iy_b M) (0 : Int).toNat : Nat) : Int) ∧ M = M))) := by
  obtain ⟨gA, gK⟩ := hS
  exact ⟨_, rfl, ⟨by decide, by decide⟩, rfl, rfl⟩

set_option maxRecDepth 20000 in
theorem vc_X8_startsFound_4  (M : ab_M) (K : List ab_V → ab_M → Prop) (hS : (iy_A M) ∧ (∀ rx : Int, (rx = ((gx_m (iy_b M) 256 : Nat) : Int)) → K [Xi rx] M)) (n : Nat) (cnt : Int) (s : Int) (M1 : ab_M) (hI : n = (256 - s).toNat ∧ (0 ≤ s ∧ s ≤ 256) ∧ cnt = ((gx_m (iy_b M) s.toNat : Nat) : Int) ∧ M1 = M) : (-32768 ≤ (256 : Int) ∧ (256 : Int) < 32768) ∧ (ab_ir s ∧ ab_ir (256 : Int)) ∧ (((256 : Int) ≤ s → K [Xi cnt] M1) ∧ (s < (256 : Int) → (iy_A M1 ∧ (0 ≤ s ∧ s ≤ 255)) ∧ (∀ r13 : Int, (r13 = if iy_b M1 s.toNat = true then 1 else 0) → (ab_ir r13) ∧ ((r13 = 0 → (∃ n', n' < n ∧ ((n' = (256 - (s + 1)).toNat ∧ (0 ≤ (s + 1) ∧ (s + 1) ≤ 256) ∧ cnt = ((gx_m (iy_b M) (s + 1).toNat : Nat) : Int) ∧ M1 = M)))) ∧ (¬ r13 = 0 → (∃ n', n' < n ∧ ((n' = (256 - (s + 1)).toNat ∧ (0 ≤ (s + 1) ∧ (s + 1) ≤ 256) ∧ (cnt + 1) = ((gx_m (iy_b M) (s + 1).toNat : Nat) : Int) ∧ M1 = M)))))))) := by
  obtain ⟨gA, gK⟩ := hS
  obtain ⟨hn, hs, hcnt, hM⟩ := hI
  subst hM
  refine And.intro (by
    first
      | omega
      | exact ⟨by omega, by omega⟩
      | exact ⟨⟨by omega, by omega⟩, by omega, by omega⟩
      | (split <;> exact ⟨by decide, by decide⟩)
      | trivial
      | exact ⟨gA, by omega, by omega⟩) ?_
  refine And.intro (by
    first
      | omega
      | exact ⟨by omega, by omega⟩
      | exact ⟨⟨by omega, by omega⟩, by omega, by omega⟩
      | (split <;> exact ⟨by decide, by decide⟩)
      | trivial
      | exact ⟨gA, by omega, by omega⟩) ?_
  refine ⟨?_, ?_⟩
  · intro c8
    rw [show s.toNat = 256 by omega] at hcnt
    exact gK _ hcnt
  · intro c8
    refine And.intro (by
      first
        | omega
        | exact ⟨by omega, by omega⟩
        | exact ⟨⟨by omega, by omega⟩, by omega, by omega⟩
        | (split <;> exact ⟨by decide, by decide⟩)
        | trivial
        | exact ⟨gA, by omega, by omega⟩) ?_
    intro r13 hr13
    refine And.intro (by
      first
        | omega
        | exact ⟨by omega, by omega⟩
        | exact ⟨⟨by omega, by omega⟩, by omega, by omega⟩
        | (split <;> exact ⟨by decide, by decide⟩)
        | trivial
        | exact ⟨gA, by omega, by omega⟩) ?_
    refine ⟨?_, ?_⟩
    · intro c16
      rw [hr13] at c16
      rw [ab_bf] at c16
      clear hr13 r13
      have hk : (s + 1).toNat = s.toNat + 1 := by omega
      have hcn : gx_m (iy_b M1) (s.toNat + 1) = gx_m (iy_b M1) s.toNat + (if iy_b M1 s.toNat = true then 1 else 0) := rfl
      rw [if_neg c16] at hcn
      refine ⟨_, ?_, rfl, ⟨by omega, by omega⟩, by rw [hk, hcn]; omega, rfl⟩
      omega
    · intro c16
      rw [hr13] at c16
      rw [ab_bt] at c16
      clear hr13 r13
      have hk : (s + 1).toNat = s.toNat + 1 := by omega
      have hcn : gx_m (iy_b M1) (s.toNat + 1) = gx_m (iy_b M1) s.toNat + (if iy_b M1 s.toNat = true then 1 else 0) := rfl
      rw [if_pos c16] at hcn
      refine ⟨_, ?_, rfl, ⟨by omega, by omega⟩, by rw [hk, hcn]; omega, rfl⟩
      omega

set_option maxRecDepth 20000 in
set_option maxHeartbeats 1000000 in
theorem ok_X8_startsFound (E : ab_E) : ab_Ok E 3 109 S_X8_startsFound := by
  refine ab_mk rq_X8_startsFound tk_X8_startsFound (rt := 1) (rfl) (cuts := [4]) (G := [(94, S_X8_isStart)]) (List.forall_mem_cons.mpr ⟨⟨2, by decide, ok_X8_isStart E⟩, fun _ h => absurd h List.not_mem_nil⟩) (by decide) 66 rfl ?_
  intro a M K wd wa hS
  unfold S_X8_startsFound at hS
  split at hS
  ·
    refine ⟨Nat.le_of_ble_eq_true rfl, fun pc n L st M1 => match pc, L, st with
      | 4, [.inr (.inr (.inr (0, 8, 0))), .inr (.inl cnt), .inr (.inl s)], [] => (n = (256 - s).toNat ∧ (0 ≤ s ∧ s ≤ 256) ∧ cnt = ((gx_m (iy_b M) s.toNat : Nat) : Int) ∧ M1 = M)
      | _, _, _ => False, ?_, ?_⟩
    · exact vc_X8_startsFound_0  M K  hS
    · intro pc n L st M1 hI wd1 wL wst
      (try dsimp only at hI)
      split at hI
      ·
        rename_i cnt s
        exact vc_X8_startsFound_4  M K  hS n cnt s _ hI
      · exact hI.elim
  · exact hS.elim
def S_X8_lowestStart : ab_PT := fun a M K => match a with
  | [.inr (.inr (.inr (0, 8, 0)))] => (iy_A M) ∧ (∀ rx : Int, (wr_1 (iy_b M) 256 rx) → K [Xi rx] M)
  | _ => False
set_option maxRecDepth 20000 in
theorem vc_X8_lowestStart_0  (M : ab_M) (K : List ab_V → ab_M → Prop) (hS : (iy_A M) ∧ (∀ rx : Int, (wr_1 (iy_b M) 256 rx) → K [Xi rx] M)) : (∃ n', ((n' = (256 - (0 : Int)).toNat ∧ (0 ≤ (0 : Int) ∧ (0 : Int) ≤ 256) ∧ (∀ x : Nat, (x : Int) < (0 : Int) → ¬ iy_b M x = true) ∧ M = M))) := by
  obtain ⟨gA, gK⟩ := hS
  exact ⟨_, rfl, ⟨by decide, by decide⟩, fun x hx => by omega, rfl⟩

set_option maxRecDepth 20000 in
theorem vc_X8_lowestStart_2  (M : ab_M) (K : List ab_V → ab_M → Prop) (hS : (iy_A M) ∧ (∀ rx : Int, (wr_1 (iy_b M) 256 rx) → K [Xi rx] M)) (n : Nat) (s : Int) (M1 : ab_M) (hI : n = (256 - s).toNat ∧ (0 ≤ s ∧ s ≤ 256) ∧ (∀ x : Nat, (x : Int) < s → ¬ iy_b M x = true) ∧ M1 = M) : (-32768 ≤ (256 : Int) ∧ (256 : Int) < 32768) ∧ (ab_ir s ∧ ab_ir (256 : Int)) ∧ (((256 : Int) ≤ s → (-128 ≤ (-9 : Int) ∧ (-9 : Int) < 128) ∧ K [Xi (-9 : Int)] M1) ∧ (s < (256 : Int) → (iy_A M1 ∧ (0 ≤ s ∧ s ≤ 255)) ∧ (∀ r11 : Int, (r11 = if iy_b M1 s.toNat = true then 1 else 0) → (ab_ir r11) ∧ ((r11 = 0 → (∃ n', n' < n ∧ ((n' = (256 - (s + 1)).toNat ∧ (0 ≤ (s + 1) ∧ (s + 1) ≤ 256) ∧ (∀ x : Nat, (x : Int) < (s + 1) → ¬ iy_b M x = true) ∧ M1 = M)))) ∧ (¬ r11 = 0 → K [Xi s] M1))))) := by
  obtain ⟨gA, gK⟩ := hS
  obtain ⟨hn, hs, hno, hM⟩ := hI
  subst hM
  refine And.intro (by
    first
      | omega
      | exact ⟨by omega, by omega⟩
      | exact ⟨⟨by omega, by omega⟩, by omega, by omega⟩
      | (split <;> exact ⟨by decide, by decide⟩)
      | trivial
      | exact ⟨gA, by omega, by omega⟩) ?_
  refine And.intro (by
    first
      | omega
      | exact ⟨by omega, by omega⟩
      | exact ⟨⟨by omega, by omega⟩, by omega, by omega⟩
      | (split <;> exact ⟨by decide, by decide⟩)
      | trivial
      | exact ⟨gA, by omega, by omega⟩) ?_
  refine ⟨?_, ?_⟩
  · intro c6
    refine And.intro (by
      first
        | omega
        | exact ⟨by omega, by omega⟩
        | exact ⟨⟨by omega, by omega⟩, by omega, by omega⟩
        | (split <;> exact ⟨by decide, by decide⟩)
        | trivial
        | exact ⟨gA, by omega, by omega⟩) ?_
    exact gK _ (Or.inl ⟨gx_m_no 256 fun x hx => hno x (by omega), rfl⟩)
  · intro c6
    refine And.intro (by
      first
        | omega
        | exact ⟨by omega, by omega⟩
        | exact ⟨⟨by omega, by omega⟩, by omega, by omega⟩
        | (split <;> exact ⟨by decide, by decide⟩)
        | trivial
        | exact ⟨gA, by omega, by omega⟩) ?_
    intro r11 hr11
    refine And.intro (by
      first
        | omega
        | exact ⟨by omega, by omega⟩
        | exact ⟨⟨by omega, by omega⟩, by omega, by omega⟩
        | (split <;> exact ⟨by decide, by decide⟩)
        | trivial
        | exact ⟨gA, by omega, by omega⟩) ?_
    refine ⟨?_, ?_⟩
    · intro c14
      rw [hr11] at c14
      rw [ab_bf] at c14
      clear hr11 r11
      refine ⟨_, ?_, rfl, ⟨by omega, by omega⟩, fun x hx => ?_, rfl⟩
      · omega
      by_cases e : x = s.toNat
      · rw [e]; exact c14
      · exact hno x (by omega)
    · intro c14
      rw [hr11] at c14
      rw [ab_bt] at c14
      clear hr11 r11
      exact gK _ (Or.inr ⟨fun z => gx_m_0 256 z s.toNat (by omega) c14, s.toNat, by omega, c14, fun y hy => hno y (by omega), by omega⟩)

set_option maxRecDepth 20000 in
set_option maxHeartbeats 1000000 in
theorem ok_X8_lowestStart (E : ab_E) : ab_Ok E 3 103 S_X8_lowestStart := by
  refine ab_mk rq_X8_lowestStart tk_X8_lowestStart (rt := 1) (rfl) (cuts := [2]) (G := [(94, S_X8_isStart)]) (List.forall_mem_cons.mpr ⟨⟨2, by decide, ok_X8_isStart E⟩, fun _ h => absurd h List.not_mem_nil⟩) (by decide) 65 rfl ?_
  intro a M K wd wa hS
  unfold S_X8_lowestStart at hS
  split at hS
  ·
    refine ⟨Nat.le_of_ble_eq_true rfl, fun pc n L st M1 => match pc, L, st with
      | 2, [.inr (.inr (.inr (0, 8, 0))), .inr (.inl s)], [] => (n = (256 - s).toNat ∧ (0 ≤ s ∧ s ≤ 256) ∧ (∀ x : Nat, (x : Int) < s → ¬ iy_b M x = true) ∧ M1 = M)
      | _, _, _ => False, ?_, ?_⟩
    · exact vc_X8_lowestStart_0  M K  hS
    · intro pc n L st M1 hI wd1 wL wst
      (try dsimp only at hI)
      split at hI
      ·
        rename_i s
        exact vc_X8_lowestStart_2  M K  hS n s _ hI
      · exact hI.elim
  · exact hS.elim
def S_X8_largestGroup : ab_PT := fun a M K => match a with
  | [.inr (.inr (.inr (0, 8, 0))), .inr (.inl v)] => (iy_A M ∧ (0 ≤ v ∧ v ≤ 3)) ∧ (∀ rx : Int, (rx = ((gg_m (iy_b M) v.toNat 4 : Nat) : Int)) → K [Xi rx] M)
  | _ => False
set_option maxRecDepth 20000 in
theorem vc_X8_largestGroup_0 (v : Int) (M : ab_M) (K : List ab_V → ab_M → Prop) (hS : (iy_A M ∧ (0 ≤ v ∧ v ≤ 3)) ∧ (∀ rx : Int, (rx = ((gg_m (iy_b M) v.toNat 4 : Nat) : Int)) → K [Xi rx] M)) : (∃ n', ((n' = (4 - (0 : Int)).toNat * 300 + 300 ∧ 0 ≤ (0 : Int) ∧ (0 : Int) ≤ 4 ∧ v = v ∧ (0 : Int) = ((gg_m (iy_b M) v.toNat (0 : Int).toNat : Nat) : Int) ∧ M = M))) := by
  obtain ⟨⟨gA, gv⟩, gK⟩ := hS
  exact ⟨_, rfl, by decide, by decide, rfl, rfl, rfl⟩

set_option maxRecDepth 20000 in
theorem vc_X8_largestGroup_4 (v : Int) (M : ab_M) (K : List ab_V → ab_M → Prop) (hS : (iy_A M ∧ (0 ≤ v ∧ v ≤ 3)) ∧ (∀ rx : Int, (rx = ((gg_m (iy_b M) v.toNat 4 : Nat) : Int)) → K [Xi rx] M)) (n : Nat) (v1 : Int) (mo : Int) (k : Int) (M1 : ab_M) (hI : n = (4 - k).toNat * 300 + 300 ∧ 0 ≤ k ∧ k ≤ 4 ∧ v = v1 ∧ mo = ((gg_m (iy_b M) v.toNat k.toNat : Nat) : Int) ∧ M1 = M) : (ab_ir k ∧ ab_ir (4 : Int)) ∧ (((4 : Int) ≤ k → K [Xi mo] M1) ∧ (k < (4 : Int) → (∃ n', n' < n ∧ ((n' = (4 - k).toNat * 300 + 299 - (0 : Int).toNat ∧ (0 ≤ k ∧ k < 4) ∧ (0 ≤ (0 : Int) ∧ (0 : Int) ≤ 256) ∧ v = v1 ∧ mo = ((gg_m (iy_b M) v.toNat k.toNat : Nat) : Int) ∧ (0 : Int) = ((gx_m (gg_g (iy_b M) v.toNat k.toNat) (0 : Int).toNat : Nat) : Int) ∧ M1 = M))))) := by
  obtain ⟨⟨gA, gv⟩, gK⟩ := hS
  obtain ⟨hn, hk0, hk1, e1, hmo, hM⟩ := hI
  subst e1
  subst hM
  have hal := gg_m_bd (iy_b M1) v.toNat k.toNat
  refine And.intro (by
    first
      | omega
      | exact ⟨by omega, by omega⟩
      | exact ⟨⟨by omega, by omega⟩, by omega, by omega⟩
      | (split <;> exact ⟨by decide, by decide⟩)
      | trivial
      | exact ⟨gA, hs.1, by omega⟩
      | exact ⟨by rw [hr26]; exact ab_and_ir _ _, by omega, by omega⟩) ?_
  refine ⟨?_, ?_⟩
  · intro c6
    refine gK _ ?_
    rw [hmo, show k.toNat = 4 by omega]
  · intro c6
    refine ⟨_, ?_, rfl, ⟨by omega, by omega⟩, ⟨by decide, by decide⟩, rfl, hmo, rfl, rfl⟩
    omega

set_option maxRecDepth 20000 in
theorem vc_X8_largestGroup_15 (v : Int) (M : ab_M) (K : List ab_V → ab_M → Prop) (hS : (iy_A M ∧ (0 ≤ v ∧ v ≤ 3)) ∧ (∀ rx : Int, (rx = ((gg_m (iy_b M) v.toNat 4 : Nat) : Int)) → K [Xi rx] M)) (n : Nat) (v1 : Int) (mo : Int) (k : Int) (cnt : Int) (s : Int) (M1 : ab_M) (hI : n = (4 - k).toNat * 300 + 299 - s.toNat ∧ (0 ≤ k ∧ k < 4) ∧ (0 ≤ s ∧ s ≤ 256) ∧ v = v1 ∧ mo = ((gg_m (iy_b M) v.toNat k.toNat : Nat) : Int) ∧ cnt = ((gx_m (gg_g (iy_b M) v.toNat k.toNat) s.toNat : Nat) : Int) ∧ M1 = M) : (-32768 ≤ (256 : Int) ∧ (256 : Int) < 32768) ∧ (ab_ir s ∧ ab_ir (256 : Int)) ∧ (((256 : Int) ≤ s → (ab_ir mo ∧ ab_ir cnt) ∧ (∃ n', n' < n ∧ ((n' = (4 - (k + 1)).toNat * 300 + 300 ∧ 0 ≤ (k + 1) ∧ (k + 1) ≤ 4 ∧ v = v1 ∧ (if mo < cnt then cnt else mo) = ((gg_m (iy_b M) v.toNat (k + 1).toNat : Nat) : Int) ∧ M1 = M)))) ∧ (s < (256 : Int) → (True) ∧ (∀ r26 : Int, (r26 = ab_and (ab_shr s (6 - 2 * v1)) (4 - 1)) → (ab_ir r26 ∧ ab_ir k) ∧ ((¬ r26 = k → (∃ n', n' < n ∧ ((n' = (4 - k).toNat * 300 + 299 - (s + 1).toNat ∧ (0 ≤ k ∧ k < 4) ∧ (0 ≤ (s + 1) ∧ (s + 1) ≤ 256) ∧ v = v1 ∧ mo = ((gg_m (iy_b M) v.toNat k.toNat : Nat) : Int) ∧ cnt = ((gx_m (gg_g (iy_b M) v.toNat k.toNat) (s + 1).toNat : Nat) : Int) ∧ M1 = M)))) ∧ (r26 = k → (iy_A M1 ∧ (0 ≤ s ∧ s ≤ 255)) ∧ (∀ r36 : Int, (r36 = if iy_b M1 s.toNat = true then 1 else 0) → (ab_ir r36) ∧ ((r36 = 0 → (∃ n', n' < n ∧ ((n' = (4 - k).toNat * 300 + 299 - (s + 1).toNat ∧ (0 ≤ k ∧ k < 4) ∧ (0 ≤ (s + 1) ∧ (s + 1) ≤ 256) ∧ v = v1 ∧ mo = ((gg_m (iy_b M) v.toNat k.toNat : Nat) : Int) ∧ cnt = ((gx_m (gg_g (iy_b M) v.toNat k.toNat) (s + 1).toNat : Nat) : Int) ∧ M1 = M)))) ∧ (¬ r36 = 0 → (∃ n', n' < n ∧ ((n' = (4 - k).toNat * 300 + 299 - (s + 1).toNat ∧ (0 ≤ k ∧ k < 4) ∧ (0 ≤ (s + 1) ∧ (s + 1) ≤ 256) ∧ v = v1 ∧ mo = ((gg_m (iy_b M) v.toNat k.toNat : Nat) : Int) ∧ (cnt + 1) = ((gx_m (gg_g (iy_b M) v.toNat k.toNat) (s + 1).toNat : Nat) : Int) ∧ M1 = M))))))))))) := by
  obtain ⟨⟨gA, gv⟩, gK⟩ := hS
  obtain ⟨hn, hk, hs, e1, hmo, hcnt, hM⟩ := hI
  subst e1
  subst hM
  have hal := gg_m_bd (iy_b M1) v.toNat k.toNat
  have hbd := gx_m_bd (gg_g (iy_b M1) v.toNat k.toNat) s.toNat
  refine And.intro (by
    first
      | omega
      | exact ⟨by omega, by omega⟩
      | exact ⟨⟨by omega, by omega⟩, by omega, by omega⟩
      | (split <;> exact ⟨by decide, by decide⟩)
      | trivial
      | exact ⟨gA, hs.1, by omega⟩
      | exact ⟨by rw [hr26]; exact ab_and_ir _ _, by omega, by omega⟩) ?_
  refine And.intro (by
    first
      | omega
      | exact ⟨by omega, by omega⟩
      | exact ⟨⟨by omega, by omega⟩, by omega, by omega⟩
      | (split <;> exact ⟨by decide, by decide⟩)
      | trivial
      | exact ⟨gA, hs.1, by omega⟩
      | exact ⟨by rw [hr26]; exact ab_and_ir _ _, by omega, by omega⟩) ?_
  refine ⟨?_, ?_⟩
  · intro c20
    refine And.intro (by
      first
        | omega
        | exact ⟨by omega, by omega⟩
        | exact ⟨⟨by omega, by omega⟩, by omega, by omega⟩
        | (split <;> exact ⟨by decide, by decide⟩)
        | trivial
        | exact ⟨gA, hs.1, by omega⟩
        | exact ⟨by rw [hr26]; exact ab_and_ir _ _, by omega, by omega⟩) ?_
    have h256 : s.toNat = 256 := by omega
    have hk1' : (k + 1).toNat = k.toNat + 1 := by omega
    have hal2 : gg_m (iy_b M1) v.toNat (k.toNat + 1) = if gg_m (iy_b M1) v.toNat k.toNat < gx_m (gg_g (iy_b M1) v.toNat k.toNat) 256 then gx_m (gg_g (iy_b M1) v.toNat k.toNat) 256 else gg_m (iy_b M1) v.toNat k.toNat := rfl
    rw [h256] at hcnt
    refine ⟨_, ?_, rfl, by omega, by omega, rfl, ?_, rfl⟩
    · omega
    rw [hk1', hal2]
    by_cases z : mo < cnt
    · rw [if_pos z, if_pos (by omega)]; exact hcnt
    · rw [if_neg z, if_neg (by omega)]; exact hmo
  · intro c20
    refine And.intro trivial ?_
    intro r26 hr26
    have hvi : r26 = pz_vi s v := hr26
    refine And.intro (by
      first
        | omega
        | exact ⟨by omega, by omega⟩
        | exact ⟨⟨by omega, by omega⟩, by omega, by omega⟩
        | (split <;> exact ⟨by decide, by decide⟩)
        | trivial
        | exact ⟨gA, hs.1, by omega⟩
        | exact ⟨by rw [hr26]; exact ab_and_ir _ _, by omega, by omega⟩) ?_
    refine ⟨?_, ?_⟩
    · intro c30
      have hk1' : (s + 1).toNat = s.toNat + 1 := by omega
      have hcn : gx_m (gg_g (iy_b M1) v.toNat k.toNat) (s.toNat + 1) = gx_m (gg_g (iy_b M1) v.toNat k.toNat) s.toNat + (if gg_g (iy_b M1) v.toNat k.toNat s.toNat = true then 1 else 0) := rfl
      have es : ((s.toNat : Nat) : Int) = s := by omega
      have ev : ((v.toNat : Nat) : Int) = v := by omega
      have ek : ((k.toNat : Nat) : Int) = k := by omega
      rw [if_neg (show ¬ gg_g (iy_b M1) v.toNat k.toNat s.toNat = true from fun z => absurd (of_decide_eq_true (Bool.and_eq_true_iff.1 z).1) (by rw [es, ev, ek, ← hvi]; assumption))] at hcn
      refine ⟨_, ?_, rfl, hk, ⟨by omega, by omega⟩, rfl, hmo, by rw [hk1', hcn]; omega, rfl⟩
      omega
    · intro c30
      refine And.intro (by
        first
          | omega
          | exact ⟨by omega, by omega⟩
          | exact ⟨⟨by omega, by omega⟩, by omega, by omega⟩
          | (split <;> exact ⟨by decide, by decide⟩)
          | trivial
          | exact ⟨gA, hs.1, by omega⟩
          | exact ⟨by rw [hr26]; exact ab_and_ir _ _, by omega, by omega⟩) ?_
      intro r36 hr36
      refine And.intro (by
        first
          | omega
          | exact ⟨by omega, by omega⟩
          | exact ⟨⟨by omega, by omega⟩, by omega, by omega⟩
          | (split <;> exact ⟨by decide, by decide⟩)
          | trivial
          | exact ⟨gA, hs.1, by omega⟩
          | exact ⟨by rw [hr26]; exact ab_and_ir _ _, by omega, by omega⟩) ?_
      refine ⟨?_, ?_⟩
      · intro c39
        rw [hr36] at c39
        rw [ab_bf] at c39
        clear hr36 r36
        have hk1' : (s + 1).toNat = s.toNat + 1 := by omega
        have hcn : gx_m (gg_g (iy_b M1) v.toNat k.toNat) (s.toNat + 1) = gx_m (gg_g (iy_b M1) v.toNat k.toNat) s.toNat + (if gg_g (iy_b M1) v.toNat k.toNat s.toNat = true then 1 else 0) := rfl
        have es : ((s.toNat : Nat) : Int) = s := by omega
        have ev : ((v.toNat : Nat) : Int) = v := by omega
        have ek : ((k.toNat : Nat) : Int) = k := by omega
        rw [if_neg (show ¬ gg_g (iy_b M1) v.toNat k.toNat s.toNat = true from fun z => absurd (Bool.and_eq_true_iff.1 z).2 c39)] at hcn
        refine ⟨_, ?_, rfl, hk, ⟨by omega, by omega⟩, rfl, hmo, by rw [hk1', hcn]; omega, rfl⟩
        omega
      · intro c39
        rw [hr36] at c39
        rw [ab_bt] at c39
        clear hr36 r36
        have hk1' : (s + 1).toNat = s.toNat + 1 := by omega
        have hcn : gx_m (gg_g (iy_b M1) v.toNat k.toNat) (s.toNat + 1) = gx_m (gg_g (iy_b M1) v.toNat k.toNat) s.toNat + (if gg_g (iy_b M1) v.toNat k.toNat s.toNat = true then 1 else 0) := rfl
        have es : ((s.toNat : Nat) : Int) = s := by omega
        have ev : ((v.toNat : Nat) : Int) = v := by omega
        have ek : ((k.toNat : Nat) : Int) = k := by omega
        rw [if_pos (show  gg_g (iy_b M1) v.toNat k.toNat s.toNat = true from Bool.and_eq_true_iff.2 ⟨decide_eq_true (by rw [es, ev, ek, ← hvi]; assumption), c39⟩)] at hcn
        refine ⟨_, ?_, rfl, hk, ⟨by omega, by omega⟩, rfl, hmo, by rw [hk1', hcn]; omega, rfl⟩
        omega

set_option maxRecDepth 20000 in
set_option maxHeartbeats 1000000 in
theorem ok_X8_largestGroup (E : ab_E) : ab_Ok E 3 100 S_X8_largestGroup := by
  refine ab_mk rq_X8_largestGroup tk_X8_largestGroup (rt := 1) (rfl) (cuts := [4, 15]) (G := [(94, S_X8_isStart), (114, S_X8_valueIn)]) (List.forall_mem_cons.mpr ⟨⟨2, by decide, ok_X8_isStart E⟩, List.forall_mem_cons.mpr ⟨⟨1, by decide, ok_X8_valueIn E⟩, fun _ h => absurd h List.not_mem_nil⟩⟩) (by decide) 84 rfl ?_
  intro a M K wd wa hS
  unfold S_X8_largestGroup at hS
  split at hS
  ·
    rename_i v
    refine ⟨Nat.le_of_ble_eq_true rfl, fun pc n L st M1 => match pc, L, st with
      | 4, [.inr (.inr (.inr (0, 8, 0))), .inr (.inl v1), .inr (.inl mo), .inr (.inl k), u5_, u6_], [] => (n = (4 - k).toNat * 300 + 300 ∧ 0 ≤ k ∧ k ≤ 4 ∧ v = v1 ∧ mo = ((gg_m (iy_b M) v.toNat k.toNat : Nat) : Int) ∧ M1 = M)
      | 15, [.inr (.inr (.inr (0, 8, 0))), .inr (.inl v1), .inr (.inl mo), .inr (.inl k), .inr (.inl cnt), .inr (.inl s)], [] => (n = (4 - k).toNat * 300 + 299 - s.toNat ∧ (0 ≤ k ∧ k < 4) ∧ (0 ≤ s ∧ s ≤ 256) ∧ v = v1 ∧ mo = ((gg_m (iy_b M) v.toNat k.toNat : Nat) : Int) ∧ cnt = ((gx_m (gg_g (iy_b M) v.toNat k.toNat) s.toNat : Nat) : Int) ∧ M1 = M)
      | _, _, _ => False, ?_, ?_⟩
    · exact vc_X8_largestGroup_0 v M K  hS
    · intro pc n L st M1 hI wd1 wL wst
      (try dsimp only at hI)
      split at hI
      ·
        rename_i v1 mo k u5_ u6_
        exact vc_X8_largestGroup_4 v M K  hS n v1 mo k _ hI
      ·
        rename_i v1 mo k cnt s
        exact vc_X8_largestGroup_15 v M K  hS n v1 mo k cnt s _ hI
      · exact hI.elim
  · exact hS.elim
def S_X8_starts : ab_PT := fun a M K => match a with
  | [.inr (.inr (.inr (0, 8, 0))), .inr (.inl q)] => (ab_ir q ∧ pp_A M ∧ ∀ M1, pp_P M M1 0 → iy_A M1) ∧ (∀ rx : Int, ∀ Mx : ab_M, (ty_P M Mx q rx) → K [Xi rx] Mx)
  | _ => False
set_option maxRecDepth 20000 in
theorem vc_X8_starts_0 (q : Int) (M : ab_M) (K : List ab_V → ab_M → Prop) (hS : (ab_ir q ∧ pp_A M ∧ ∀ M1, pp_P M M1 0 → iy_A M1) ∧ (∀ rx : Int, ∀ Mx : ab_M, (ty_P M Mx q rx) → K [Xi rx] Mx)) : (ab_ir q) ∧ (∀ r1 : Int, (r1 = if q = 0 ∨ q = 1 then 1 else 0) → (ab_ir r1) ∧ ((¬ r1 = 0 → (cv_P M ∧ ((0 : Int) = 0 ∨ (0 : Int) = 1) ∧ (M 768 7 = 0 ∨ M 768 7 = 1) ∧ (M 768 8 = 0 ∨ M 768 8 = 1)) ∧ (∀ M14 : ab_M, (pr_N M M14 (0 : Int)) → (ab_ir q) ∧ ((¬ q = 0 → (iy_A M14) ∧ (∀ r29 : Int, (wr_1 (iy_b M14) 256 r29) → K [Xi r29] M14)) ∧ (q = 0 → (iy_A M14) ∧ (∀ r22 : Int, (r22 = ((gx_m (iy_b M14) 256 : Nat) : Int)) → K [Xi r22] M14))))) ∧ (r1 = 0 → K [Xi (-1 : Int)] M))) := by
  obtain ⟨⟨gq, gA, gB⟩, gK⟩ := hS
  refine And.intro (by
    first
      | omega
      | exact ⟨by omega, by omega⟩
      | exact ⟨⟨by omega, by omega⟩, by omega, by omega⟩
      | (split <;> exact ⟨by decide, by decide⟩)
      | trivial
      | exact gq
      | exact pp_of gA (by decide)
      | exact gB _ hM14) ?_
  intro r1 hr1
  refine And.intro (by
    first
      | omega
      | exact ⟨by omega, by omega⟩
      | exact ⟨⟨by omega, by omega⟩, by omega, by omega⟩
      | (split <;> exact ⟨by decide, by decide⟩)
      | trivial
      | exact gq
      | exact pp_of gA (by decide)
      | exact gB _ hM14) ?_
  refine ⟨?_, ?_⟩
  · intro c4
    rw [hr1] at c4
    rw [ab_bt] at c4
    clear hr1 r1
    refine And.intro (by
      first
        | omega
        | exact ⟨by omega, by omega⟩
        | exact ⟨⟨by omega, by omega⟩, by omega, by omega⟩
        | (split <;> exact ⟨by decide, by decide⟩)
        | trivial
        | exact gq
        | exact pp_of gA (by decide)
        | exact gB _ hM14) ?_
    intro M14 hM14
    refine And.intro (by
      first
        | omega
        | exact ⟨by omega, by omega⟩
        | exact ⟨⟨by omega, by omega⟩, by omega, by omega⟩
        | (split <;> exact ⟨by decide, by decide⟩)
        | trivial
        | exact gq
        | exact pp_of gA (by decide)
        | exact gB _ hM14) ?_
    refine ⟨?_, ?_⟩
    · intro c18
      refine And.intro (by
        first
          | omega
          | exact ⟨by omega, by omega⟩
          | exact ⟨⟨by omega, by omega⟩, by omega, by omega⟩
          | (split <;> exact ⟨by decide, by decide⟩)
          | trivial
          | exact gq
          | exact pp_of gA (by decide)
          | exact gB _ hM14) ?_
      intro r29 hr29
      refine gK _ _ ⟨fun z => by omega, fun _ => ⟨hM14, fun z => ?_, fun z => ?_⟩⟩
      · first
          | exact hr22
          | (exfalso; omega)
      · first
          | exact hr29
          | (exfalso; omega)
    · intro c18
      refine And.intro (by
        first
          | omega
          | exact ⟨by omega, by omega⟩
          | exact ⟨⟨by omega, by omega⟩, by omega, by omega⟩
          | (split <;> exact ⟨by decide, by decide⟩)
          | trivial
          | exact gq
          | exact pp_of gA (by decide)
          | exact gB _ hM14) ?_
      intro r22 hr22
      refine gK _ _ ⟨fun z => by omega, fun _ => ⟨hM14, fun z => ?_, fun z => ?_⟩⟩
      · first
          | exact hr22
          | (exfalso; omega)
      · first
          | exact hr29
          | (exfalso; omega)
  · intro c4
    rw [hr1] at c4
    rw [ab_bf] at c4
    clear hr1 r1
    exact gK _ _ ⟨fun _ => ⟨rfl, rfl⟩, fun z => by omega⟩

set_option maxRecDepth 20000 in
set_option maxHeartbeats 1000000 in
theorem ok_X8_starts (E : ab_E) : ab_Ok E 8 108 S_X8_starts := by
  refine ab_mk rq_X8_starts tk_X8_starts (rt := 1) (rfl) (cuts := []) (G := [(50, S_X3_prepare), (93, S_X8_isFlag), (103, S_X8_lowestStart), (109, S_X8_startsFound)]) (List.forall_mem_cons.mpr ⟨⟨7, by decide, ok_X3_prepare E⟩, List.forall_mem_cons.mpr ⟨⟨1, by decide, ok_X8_isFlag E⟩, List.forall_mem_cons.mpr ⟨⟨3, by decide, ok_X8_lowestStart E⟩, List.forall_mem_cons.mpr ⟨⟨3, by decide, ok_X8_startsFound E⟩, fun _ h => absurd h List.not_mem_nil⟩⟩⟩⟩) (by decide) 67 rfl ?_
  intro a M K wd wa hS
  unfold S_X8_starts at hS
  split at hS
  ·
    rename_i q
    refine ⟨Nat.le_of_ble_eq_true rfl, fun _ _ _ _ _ => False, ?_, ?_⟩
    · exact vc_X8_starts_0 q M K  hS
    · exact fun _ _ _ _ _ h => h.elim
  · exact hS.elim
def S_X8_ask : ab_PT := fun a M K => match a with
  | [.inr (.inr (.inr (0, 8, 0)))] => (pp_A M ∧ ∀ M1, pp_P M M1 0 → iy_A M1) ∧ (∀ rx : Int, ∀ Mx : ab_M, (qy_P M Mx rx) → K [Xi rx] Mx)
  | _ => False
set_option maxRecDepth 20000 in
theorem vc_X8_ask_0  (M : ab_M) (K : List ab_V → ab_M → Prop) (hS : (pp_A M ∧ ∀ M1, pp_P M M1 0 → iy_A M1) ∧ (∀ rx : Int, ∀ Mx : ab_M, (qy_P M Mx rx) → K [Xi rx] Mx)) : (cv_P M ∧ ((0 : Int) = 0 ∨ (0 : Int) = 1) ∧ (M 768 7 = 0 ∨ M 768 7 = 1) ∧ (M 768 8 = 0 ∨ M 768 8 = 1)) ∧ (∀ M5 : ab_M, (pr_N M M5 (0 : Int)) → (iy_A M5) ∧ (∀ r9 : Int, (r9 = ((gx_m (iy_b M5) 256 : Nat) : Int)) → (ab_ir r9 ∧ ab_ir (1 : Int)) ∧ (((1 : Int) < r9 → (-32768 ≤ (257 : Int) ∧ (257 : Int) < 32768) ∧ (∃ n', ((n' = (4 - (0 : Int)).toNat ∧ 0 ≤ (0 : Int) ∧ (0 : Int) ≤ 4 ∧ pp_P M M5 0 ∧ 2 ≤ gx_m (iy_b M5) 256 ∧ (0 : Int) = (gg_b (iy_b M5) 0 (0 : Int).toNat).1 ∧ (257 : Int) = (gg_b (iy_b M5) 0 (0 : Int).toNat).2)))) ∧ (r9 ≤ (1 : Int) → (-128 ≤ (-9 : Int) ∧ (-9 : Int) < 128) ∧ K [Xi (-9 : Int)] M5)))) := by
  obtain ⟨⟨gA, gB⟩, gK⟩ := hS
  refine And.intro (by
    first
      | omega
      | exact ⟨by omega, by omega⟩
      | exact ⟨⟨by omega, by omega⟩, by omega, by omega⟩
      | (split <;> exact ⟨by decide, by decide⟩)
      | trivial
      | exact pp_of gA (by decide)
      | exact gB _ hM5
      | exact ⟨hA, hv0, by omega⟩) ?_
  intro M5 hM5
  refine And.intro (by
    first
      | omega
      | exact ⟨by omega, by omega⟩
      | exact ⟨⟨by omega, by omega⟩, by omega, by omega⟩
      | (split <;> exact ⟨by decide, by decide⟩)
      | trivial
      | exact pp_of gA (by decide)
      | exact gB _ hM5
      | exact ⟨hA, hv0, by omega⟩) ?_
  intro r9 hr9
  have hbd := gx_m_bd (iy_b M5) 256
  refine And.intro (by
    first
      | omega
      | exact ⟨by omega, by omega⟩
      | exact ⟨⟨by omega, by omega⟩, by omega, by omega⟩
      | (split <;> exact ⟨by decide, by decide⟩)
      | trivial
      | exact pp_of gA (by decide)
      | exact gB _ hM5
      | exact ⟨hA, hv0, by omega⟩) ?_
  refine ⟨?_, ?_⟩
  · intro c13
    refine And.intro (by
      first
        | omega
        | exact ⟨by omega, by omega⟩
        | exact ⟨⟨by omega, by omega⟩, by omega, by omega⟩
        | (split <;> exact ⟨by decide, by decide⟩)
        | trivial
        | exact pp_of gA (by decide)
        | exact gB _ hM5
        | exact ⟨hA, hv0, by omega⟩) ?_
    exact ⟨_, rfl, by decide, by decide, hM5, by omega, rfl, rfl⟩
  · intro c13
    refine And.intro (by
      first
        | omega
        | exact ⟨by omega, by omega⟩
        | exact ⟨⟨by omega, by omega⟩, by omega, by omega⟩
        | (split <;> exact ⟨by decide, by decide⟩)
        | trivial
        | exact pp_of gA (by decide)
        | exact gB _ hM5
        | exact ⟨hA, hv0, by omega⟩) ?_
    exact gK _ _ ⟨hM5, fun _ => rfl, fun z => by omega⟩

set_option maxRecDepth 20000 in
theorem vc_X8_ask_27  (M : ab_M) (K : List ab_V → ab_M → Prop) (hS : (pp_A M ∧ ∀ M1, pp_P M M1 0 → iy_A M1) ∧ (∀ rx : Int, ∀ Mx : ab_M, (qy_P M Mx rx) → K [Xi rx] Mx)) (n : Nat) (be : Int) (le : Int) (v : Int) (M1 : ab_M) (hI : n = (4 - v).toNat ∧ 0 ≤ v ∧ v ≤ 4 ∧ pp_P M M1 0 ∧ 2 ≤ gx_m (iy_b M1) 256 ∧ be = (gg_b (iy_b M1) 0 v.toNat).1 ∧ le = (gg_b (iy_b M1) 0 v.toNat).2) : (ab_ir v ∧ ab_ir (4 : Int)) ∧ (((4 : Int) ≤ v → K [Xi be] M1) ∧ (v < (4 : Int) → (iy_A M1 ∧ (0 ≤ v ∧ v ≤ 3)) ∧ (∀ r34 : Int, (r34 = ((gg_m (iy_b M1) v.toNat 4 : Nat) : Int)) → (ab_ir r34 ∧ ab_ir le) ∧ ((le ≤ r34 → (∃ n', n' < n ∧ ((n' = (4 - (v + 1)).toNat ∧ 0 ≤ (v + 1) ∧ (v + 1) ≤ 4 ∧ pp_P M M1 0 ∧ 2 ≤ gx_m (iy_b M1) 256 ∧ be = (gg_b (iy_b M1) 0 (v + 1).toNat).1 ∧ le = (gg_b (iy_b M1) 0 (v + 1).toNat).2)))) ∧ (r34 < le → (∃ n', n' < n ∧ ((n' = (4 - (v + 1)).toNat ∧ 0 ≤ (v + 1) ∧ (v + 1) ≤ 4 ∧ pp_P M M1 0 ∧ 2 ≤ gx_m (iy_b M1) 256 ∧ v = (gg_b (iy_b M1) 0 (v + 1).toNat).1 ∧ r34 = (gg_b (iy_b M1) 0 (v + 1).toNat).2)))))))) := by
  obtain ⟨⟨gA, gB⟩, gK⟩ := hS
  obtain ⟨hn, hv0, hv1, hP, h2, hbe, hle⟩ := hI
  have hA := gB _ hP
  have hrg := gg_b_rg (iy_b M1) v.toNat
  have hal := gg_m_bd (iy_b M1) v.toNat 4
  refine And.intro (by
    first
      | omega
      | exact ⟨by omega, by omega⟩
      | exact ⟨⟨by omega, by omega⟩, by omega, by omega⟩
      | (split <;> exact ⟨by decide, by decide⟩)
      | trivial
      | exact pp_of gA (by decide)
      | exact gB _ hM5
      | exact ⟨hA, hv0, by omega⟩) ?_
  refine ⟨?_, ?_⟩
  · intro c29
    refine gK _ _ ⟨hP, fun z => by omega, fun _ => ?_⟩
    rw [hbe, show v.toNat = 4 by omega]
  · intro c29
    refine And.intro (by
      first
        | omega
        | exact ⟨by omega, by omega⟩
        | exact ⟨⟨by omega, by omega⟩, by omega, by omega⟩
        | (split <;> exact ⟨by decide, by decide⟩)
        | trivial
        | exact pp_of gA (by decide)
        | exact gB _ hM5
        | exact ⟨hA, hv0, by omega⟩) ?_
    intro r34 hr34
    refine And.intro (by
      first
        | omega
        | exact ⟨by omega, by omega⟩
        | exact ⟨⟨by omega, by omega⟩, by omega, by omega⟩
        | (split <;> exact ⟨by decide, by decide⟩)
        | trivial
        | exact pp_of gA (by decide)
        | exact gB _ hM5
        | exact ⟨hA, hv0, by omega⟩) ?_
    refine ⟨?_, ?_⟩
    · intro c42
      have hk1' : (v + 1).toNat = v.toNat + 1 := by omega
      have hb : gg_b (iy_b M1) 0 (v.toNat + 1) = (if ((gg_m (iy_b M1) v.toNat 4 : Nat) : Int) < (gg_b (iy_b M1) 0 v.toNat).2 then ((v.toNat : Nat) : Int) else (gg_b (iy_b M1) 0 v.toNat).1, if ((gg_m (iy_b M1) v.toNat 4 : Nat) : Int) < (gg_b (iy_b M1) 0 v.toNat).2 then ((gg_m (iy_b M1) v.toNat 4 : Nat) : Int) else (gg_b (iy_b M1) 0 v.toNat).2) := rfl
      refine ⟨_, ?_, rfl, by omega, by omega, hP, h2, ?_, ?_⟩
      · omega
      · rw [hk1', hb]
        show _ = (if _ then _ else _)
        first
          | (rw [if_pos (by omega)]; omega)
          | (rw [if_neg (by omega)]; assumption)
      · rw [hk1', hb]
        show _ = (if _ then _ else _)
        first
          | (rw [if_pos (by omega)]; assumption)
          | (rw [if_neg (by omega)]; assumption)
    · intro c42
      have hk1' : (v + 1).toNat = v.toNat + 1 := by omega
      have hb : gg_b (iy_b M1) 0 (v.toNat + 1) = (if ((gg_m (iy_b M1) v.toNat 4 : Nat) : Int) < (gg_b (iy_b M1) 0 v.toNat).2 then ((v.toNat : Nat) : Int) else (gg_b (iy_b M1) 0 v.toNat).1, if ((gg_m (iy_b M1) v.toNat 4 : Nat) : Int) < (gg_b (iy_b M1) 0 v.toNat).2 then ((gg_m (iy_b M1) v.toNat 4 : Nat) : Int) else (gg_b (iy_b M1) 0 v.toNat).2) := rfl
      refine ⟨_, ?_, rfl, by omega, by omega, hP, h2, ?_, ?_⟩
      · omega
      · rw [hk1', hb]
        show _ = (if _ then _ else _)
        first
          | (rw [if_pos (by omega)]; omega)
          | (rw [if_neg (by omega)]; assumption)
      · rw [hk1', hb]
        show _ = (if _ then _ else _)
        first
          | (rw [if_pos (by omega)]; assumption)
          | (rw [if_neg (by omega)]; assumption)

set_option maxRecDepth 20000 in
set_option maxHeartbeats 1000000 in
theorem ok_X8_ask (E : ab_E) : ab_Ok E 8 80 S_X8_ask := by
  refine ab_mk rq_X8_ask tk_X8_ask (rt := 1) (rfl) (cuts := [27]) (G := [(50, S_X3_prepare), (100, S_X8_largestGroup), (109, S_X8_startsFound)]) (List.forall_mem_cons.mpr ⟨⟨7, by decide, ok_X3_prepare E⟩, List.forall_mem_cons.mpr ⟨⟨3, by decide, ok_X8_largestGroup E⟩, List.forall_mem_cons.mpr ⟨⟨3, by decide, ok_X8_startsFound E⟩, fun _ h => absurd h List.not_mem_nil⟩⟩⟩) (by decide) 84 rfl ?_
  intro a M K wd wa hS
  unfold S_X8_ask at hS
  split at hS
  ·
    refine ⟨Nat.le_of_ble_eq_true rfl, fun pc n L st M1 => match pc, L, st with
      | 27, [.inr (.inr (.inr (0, 8, 0))), .inr (.inl be), .inr (.inl le), .inr (.inl v), u5_], [] => (n = (4 - v).toNat ∧ 0 ≤ v ∧ v ≤ 4 ∧ pp_P M M1 0 ∧ 2 ≤ gx_m (iy_b M1) 256 ∧ be = (gg_b (iy_b M1) 0 v.toNat).1 ∧ le = (gg_b (iy_b M1) 0 v.toNat).2)
      | _, _, _ => False, ?_, ?_⟩
    · exact vc_X8_ask_0  M K  hS
    · intro pc n L st M1 hI wd1 wL wst
      (try dsimp only at hI)
      split at hI
      ·
        rename_i be le v u5_
        exact vc_X8_ask_27  M K  hS n be le v _ hI
      · exact hI.elim
  · exact hS.elim
