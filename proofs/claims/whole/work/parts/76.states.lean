/-! how many states make a term true -/
/-- how many of the first states make a term true -/
def tv_n (M : ab_M) (t : Int) : Nat → Int
  | 0 => 0
  | k + 1 => tv_n M t k + if tv M t ((k : Nat) : Int) = 0 then 0 else 1

def S_X3_drop : ab_PT := fun a M K => match a with
  | [.inr (.inr (.inr (768, 3, 0)))] => (True) ∧ (∀ Mx : ab_M, (Mx = ab_up (ab_up (ab_up M 769 3 0) 776 0 0) 776 1 0) → K [] Mx)
  | _ => False
set_option maxRecDepth 20000 in
theorem vc_X3_drop_0  (M : ab_M) (K : List ab_V → ab_M → Prop) (hS : (True) ∧ (∀ Mx : ab_M, (Mx = ab_up (ab_up (ab_up M 769 3 0) 776 0 0) 776 1 0) → K [] Mx)) : (True) ∧ (∀ M4 : ab_M, (M4 = ab_up M 769 3 0) → ((0 ≤ (0 : Int) ∧ (0 : Int) < ((2 : Nat) : Int)) ∧ ((0 : Int) = 0 ∨ (0 : Int) = 1)) ∧ ((0 ≤ (1 : Int) ∧ (1 : Int) < ((2 : Nat) : Int)) ∧ ((0 : Int) = 0 ∨ (0 : Int) = 1)) ∧ K [] (ab_up (ab_up M4 776 0 (0 : Int)) 776 1 (0 : Int))) := by
  obtain ⟨-, gK⟩ := hS
  refine And.intro trivial ?_
  intro M4 hM4
  refine And.intro (by
    first
      | trivial
      | decide
      | omega
      | exact ⟨by decide, by decide⟩) ?_
  refine And.intro (by
    first
      | trivial
      | decide
      | omega
      | exact ⟨by decide, by decide⟩) ?_
  subst hM4
  exact gK _ rfl

set_option maxRecDepth 20000 in
set_option maxHeartbeats 1000000 in
theorem ok_X3_drop (E : ab_E) : ab_Ok E 2 50 S_X3_drop := by
  refine ab_mk rq_X3_drop tk_X3_drop (rt := 0) (rfl) (cuts := []) (G := [(79, S_X7_drop)]) (List.forall_mem_cons.mpr ⟨⟨1, by decide, ok_X7_drop E⟩, fun _ h => absurd h List.not_mem_nil⟩) (by decide) 64 rfl ?_
  intro a M K wd wa hS
  unfold S_X3_drop at hS
  split at hS
  ·
    refine ⟨Nat.le_of_ble_eq_true rfl, fun _ _ _ _ _ => False, ?_, ?_⟩
    · exact vc_X3_drop_0  M K  hS
    · exact fun _ _ _ _ _ h => h.elim
  · exact hS.elim
def S_X3_statesWith : ab_PT := fun a M K => match a with
  | [.inr (.inr (.inr (768, 3, 0))), .inr (.inl t)] => (((vl_T M ∧ tv_ok M) ∧ (M 769 3 = 0 ∨ M 769 3 = 1 ∧ vl_V M M (M 26 11))) ∧ -1 ≤ t ∧ t ≤ 63) ∧ (∀ rx : Int, ∀ Mx : ab_M, (Mx 769 3 = 1 ∧ vl_V M Mx (M 26 11) ∧ tv_ok Mx ∧ (∀ o' k' : Nat, ¬ (o' = 770 ∨ o' = 771 ∨ o' = 769 ∧ k' = 3) → Mx o' k' = M o' k')) → (rx = tv_n Mx t 256) → K [Xi rx] Mx)
  | _ => False
set_option maxRecDepth 20000 in
theorem vc_X3_statesWith_0 (t : Int) (M : ab_M) (K : List ab_V → ab_M → Prop) (hS : (((vl_T M ∧ tv_ok M) ∧ (M 769 3 = 0 ∨ M 769 3 = 1 ∧ vl_V M M (M 26 11))) ∧ -1 ≤ t ∧ t ≤ 63) ∧ (∀ rx : Int, ∀ Mx : ab_M, (Mx 769 3 = 1 ∧ vl_V M Mx (M 26 11) ∧ tv_ok Mx ∧ (∀ o' k' : Nat, ¬ (o' = 770 ∨ o' = 771 ∨ o' = 769 ∧ k' = 3) → Mx o' k' = M o' k')) → (rx = tv_n Mx t 256) → K [Xi rx] Mx)) : ((vl_T M ∧ tv_ok M) ∧ (M 769 3 = 0 ∨ M 769 3 = 1 ∧ vl_V M M (M 26 11))) ∧ (∀ M4 : ab_M, (M4 769 3 = 1 ∧ vl_V M M4 (M 26 11) ∧ tv_ok M4 ∧ (∀ o' k' : Nat, ¬ (o' = 770 ∨ o' = 771 ∨ o' = 769 ∧ k' = 3) → M4 o' k' = M o' k')) → (∃ n', ((n' = (256 - (0 : Int)).toNat ∧ t = t ∧ 0 ≤ (0 : Int) ∧ (0 : Int) ≤ 256 ∧ (0 : Int) = tv_n M4 t (0 : Int).toNat ∧ M4 769 3 = 1 ∧ vl_V M M4 (M 26 11) ∧ tv_ok M4 ∧ (∀ o' k' : Nat, ¬ (o' = 770 ∨ o' = 771 ∨ o' = 769 ∧ k' = 3) → M4 o' k' = M o' k'))))) := by
  obtain ⟨⟨gp, g1, g2⟩, gK⟩ := hS
  refine And.intro (by
    first
      | exact gp
      | omega
      | exact ⟨by omega, by omega⟩
      | exact ⟨⟨by omega, by omega⟩, hv⟩
      | (split <;> exact ⟨by decide, by decide⟩)) ?_
  intro M4 hM4
  exact ⟨_, rfl, rfl, by decide, by decide, rfl, hM4⟩

set_option maxRecDepth 20000 in
theorem vc_X3_statesWith_11 (t : Int) (M : ab_M) (K : List ab_V → ab_M → Prop) (hS : (((vl_T M ∧ tv_ok M) ∧ (M 769 3 = 0 ∨ M 769 3 = 1 ∧ vl_V M M (M 26 11))) ∧ -1 ≤ t ∧ t ≤ 63) ∧ (∀ rx : Int, ∀ Mx : ab_M, (Mx 769 3 = 1 ∧ vl_V M Mx (M 26 11) ∧ tv_ok Mx ∧ (∀ o' k' : Nat, ¬ (o' = 770 ∨ o' = 771 ∨ o' = 769 ∧ k' = 3) → Mx o' k' = M o' k')) → (rx = tv_n Mx t 256) → K [Xi rx] Mx)) (n : Nat) (t1 : Int) (m : Int) (k : Int) (M1 : ab_M) (hI : n = (256 - k).toNat ∧ t = t1 ∧ 0 ≤ k ∧ k ≤ 256 ∧ m = tv_n M1 t k.toNat ∧ M1 769 3 = 1 ∧ vl_V M M1 (M 26 11) ∧ tv_ok M1 ∧ (∀ o' k' : Nat, ¬ (o' = 770 ∨ o' = 771 ∨ o' = 769 ∧ k' = 3) → M1 o' k' = M o' k')) : (-32768 ≤ (256 : Int) ∧ (256 : Int) < 32768) ∧ (ab_ir k ∧ ab_ir (256 : Int)) ∧ (((256 : Int) ≤ k → K [Xi m] M1) ∧ (k < (256 : Int) → (ab_ir (t1 * 256 + k) ∧ tv_ok M1) ∧ (∀ r24 : Int, (r24 = if ¬ tv M1 t1 k = 0 then 1 else 0) → (ab_ir r24) ∧ ((r24 = 0 → (∃ n', n' < n ∧ ((n' = (256 - (k + 1)).toNat ∧ t = t1 ∧ 0 ≤ (k + 1) ∧ (k + 1) ≤ 256 ∧ m = tv_n M1 t (k + 1).toNat ∧ M1 769 3 = 1 ∧ vl_V M M1 (M 26 11) ∧ tv_ok M1 ∧ (∀ o' k' : Nat, ¬ (o' = 770 ∨ o' = 771 ∨ o' = 769 ∧ k' = 3) → M1 o' k' = M o' k'))))) ∧ (¬ r24 = 0 → (∃ n', n' < n ∧ ((n' = (256 - (k + 1)).toNat ∧ t = t1 ∧ 0 ≤ (k + 1) ∧ (k + 1) ≤ 256 ∧ (m + 1) = tv_n M1 t (k + 1).toNat ∧ M1 769 3 = 1 ∧ vl_V M M1 (M 26 11) ∧ tv_ok M1 ∧ (∀ o' k' : Nat, ¬ (o' = 770 ∨ o' = 771 ∨ o' = 769 ∧ k' = 3) → M1 o' k' = M o' k'))))))))) := by
  obtain ⟨hn, q1, hk0, hk1, hm, hP⟩ := hI
  subst q1
  obtain ⟨⟨gp, g1, g2⟩, gK⟩ := hS
  have hv := hP.2.2.1
  refine And.intro (by
    first
      | exact gp
      | omega
      | exact ⟨by omega, by omega⟩
      | exact ⟨⟨by omega, by omega⟩, hv⟩
      | (split <;> exact ⟨by decide, by decide⟩)) ?_
  refine And.intro (by
    first
      | exact gp
      | omega
      | exact ⟨by omega, by omega⟩
      | exact ⟨⟨by omega, by omega⟩, hv⟩
      | (split <;> exact ⟨by decide, by decide⟩)) ?_
  refine ⟨?_, ?_⟩
  · intro c15
    rw [show k.toNat = 256 by omega] at hm
    exact gK _ _ hP hm
  · intro c15
    refine And.intro (by
      first
        | exact gp
        | omega
        | exact ⟨by omega, by omega⟩
        | exact ⟨⟨by omega, by omega⟩, hv⟩
        | (split <;> exact ⟨by decide, by decide⟩)) ?_
    intro r24 hr24
    refine And.intro (by
      first
        | exact gp
        | omega
        | exact ⟨by omega, by omega⟩
        | exact ⟨⟨by omega, by omega⟩, hv⟩
        | (split <;> exact ⟨by decide, by decide⟩)) ?_
    refine ⟨?_, ?_⟩
    · intro c27
      rw [hr24] at c27
      rw [ab_bf] at c27
      clear hr24 r24
      refine ⟨_, by omega, rfl, rfl, by omega, by omega, ?_, hP⟩
      rw [show (k + 1).toNat = k.toNat + 1 by omega]
      show _ = tv_n M1 t k.toNat + if tv M1 t ((k.toNat : Nat) : Int) = 0 then 0 else 1
      rw [show ((k.toNat : Nat) : Int) = k by omega, hm]
      first
        | (rw [if_neg (by assumption)]; done)
        | (rw [if_pos (Decidable.not_not.1 (by assumption)), Int.add_zero]; done)
    · intro c27
      rw [hr24] at c27
      rw [ab_bt] at c27
      clear hr24 r24
      refine ⟨_, by omega, rfl, rfl, by omega, by omega, ?_, hP⟩
      rw [show (k + 1).toNat = k.toNat + 1 by omega]
      show _ = tv_n M1 t k.toNat + if tv M1 t ((k.toNat : Nat) : Int) = 0 then 0 else 1
      rw [show ((k.toNat : Nat) : Int) = k by omega, hm]
      first
        | (rw [if_neg (by assumption)]; done)
        | (rw [if_pos (Decidable.not_not.1 (by assumption)), Int.add_zero]; done)

set_option maxRecDepth 20000 in
set_option maxHeartbeats 1000000 in
theorem ok_X3_statesWith (E : ab_E) : ab_Ok E 5 58 S_X3_statesWith := by
  refine ab_mk rq_X3_statesWith tk_X3_statesWith (rt := 1) (rfl) (cuts := [11]) (G := [(81, S_X7_isTrue), (84, S_X7_prepare)]) (List.forall_mem_cons.mpr ⟨⟨1, by decide, ok_X7_isTrue E⟩, List.forall_mem_cons.mpr ⟨⟨4, by decide, ok_X7_prepare E⟩, fun _ h => absurd h List.not_mem_nil⟩⟩) (by decide) 71 rfl ?_
  intro a M K wd wa hS
  unfold S_X3_statesWith at hS
  split at hS
  ·
    rename_i t
    refine ⟨Nat.le_of_ble_eq_true rfl, fun pc n L st M1 => match pc, L, st with
      | 11, [.inr (.inr (.inr (768, 3, 0))), .inr (.inl t1), .inr (.inl m), .inr (.inl k)], [] => (n = (256 - k).toNat ∧ t = t1 ∧ 0 ≤ k ∧ k ≤ 256 ∧ m = tv_n M1 t k.toNat ∧ M1 769 3 = 1 ∧ vl_V M M1 (M 26 11) ∧ tv_ok M1 ∧ (∀ o' k' : Nat, ¬ (o' = 770 ∨ o' = 771 ∨ o' = 769 ∧ k' = 3) → M1 o' k' = M o' k'))
      | _, _, _ => False, ?_, ?_⟩
    · exact vc_X3_statesWith_0 t M K  hS
    · intro pc n L st M1 hI wd1 wL wst
      (try dsimp only at hI)
      split at hI
      ·
        rename_i t1 m k
        exact vc_X3_statesWith_11 t M K  hS n t1 m k _ hI
      · exact hI.elim
  · exact hS.elim
