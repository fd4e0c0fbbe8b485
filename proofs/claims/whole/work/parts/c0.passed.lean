/-! the reference: versions, equalities, size -/
def S_X9_versions : ab_PT := fun a M K => match a with
  | [.inr (.inr (.inr (797, 9, 0))), .inr (.inl v)] => ((pz_PR M ∧ (∀ N, pz_rdn M N → ev_A N) ∧ pa_G M ∧ (M 797 31 = 0 ∨ M 797 31 = 1)) ∧ ab_ir v) ∧ (∀ rx : Int, ∀ Mx : ab_M, ((¬ (0 ≤ v ∧ v ≤ 3) → Mx = M ∧ rx = -1) ∧ (0 ≤ v ∧ v ≤ 3 → pa_P M Mx ∧ rx = Mx 835 v.toNat)) → K [Xi rx] Mx)
  | _ => False
set_option maxRecDepth 20000 in
theorem vc_X9_versions_0 (v : Int) (M : ab_M) (K : List ab_V → ab_M → Prop) (hS : ((pz_PR M ∧ (∀ N, pz_rdn M N → ev_A N) ∧ pa_G M ∧ (M 797 31 = 0 ∨ M 797 31 = 1)) ∧ ab_ir v) ∧ (∀ rx : Int, ∀ Mx : ab_M, ((¬ (0 ≤ v ∧ v ≤ 3) → Mx = M ∧ rx = -1) ∧ (0 ≤ v ∧ v ≤ 3 → pa_P M Mx ∧ rx = Mx 835 v.toNat)) → K [Xi rx] Mx)) : (ab_ir v ∧ ab_ir (0 : Int) ∧ ab_ir (3 : Int)) ∧ (∀ r3 : Int, (r3 = if (0 : Int) ≤ v ∧ v ≤ (3 : Int) then 1 else 0) → (ab_ir r3) ∧ ((¬ r3 = 0 → (pz_PR M ∧ (∀ N, pz_rdn M N → ev_A N) ∧ pa_G M ∧ (M 797 31 = 0 ∨ M 797 31 = 1)) ∧ (∀ M12 : ab_M, (pa_P M M12) → (0 ≤ v ∧ v < ((4 : Nat) : Int)) ∧ K [Xi (M12 835 v.toNat)] M12)) ∧ (r3 = 0 → K [Xi (-1 : Int)] M))) := by
  obtain ⟨⟨gP, gv⟩, gK⟩ := hS
  refine And.intro (by
    first
      | omega
      | exact gP
      | exact ⟨by omega, by omega⟩
      | exact gv) ?_
  intro r3 hr3
  refine And.intro (by
    first
      | omega
      | exact gP
      | exact ⟨by omega, by omega⟩
      | exact gv) ?_
  refine ⟨?_, ?_⟩
  · intro c6
    rw [hr3] at c6
    rw [ab_bt] at c6
    clear hr3 r3
    refine And.intro (by
      first
        | omega
        | exact gP
        | exact ⟨by omega, by omega⟩
        | exact gv) ?_
    intro M12 hM12
    refine And.intro (by
      first
        | omega
        | exact gP
        | exact ⟨by omega, by omega⟩
        | exact gv) ?_
    first
      | exact gK _ _ ⟨fun _ => ⟨rfl, rfl⟩, fun q => by omega⟩
      | exact gK _ _ ⟨fun q => by omega, fun _ => ⟨by assumption, rfl⟩⟩
  · intro c6
    rw [hr3] at c6
    rw [ab_bf] at c6
    clear hr3 r3
    first
      | exact gK _ _ ⟨fun _ => ⟨rfl, rfl⟩, fun q => by omega⟩
      | exact gK _ _ ⟨fun q => by omega, fun _ => ⟨by assumption, rfl⟩⟩

set_option maxRecDepth 20000 in
set_option maxHeartbeats 1000000 in
theorem ok_X9_versions (E : ab_E) : ab_Ok E 9 190 S_X9_versions := by
  refine ab_mk rq_X9_versions tk_X9_versions (rt := 1) (rfl) (cuts := []) (G := [(145, S_X9_in), (165, S_X9_pass)]) (List.forall_mem_cons.mpr ⟨⟨1, by decide, ok_X9_in E⟩, List.forall_mem_cons.mpr ⟨⟨8, by decide, ok_X9_pass E⟩, fun _ h => absurd h List.not_mem_nil⟩⟩) (by decide) 64 rfl ?_
  intro a M K wd wa hS
  unfold S_X9_versions at hS
  split at hS
  ·
    rename_i v
    refine ⟨Nat.le_of_ble_eq_true rfl, fun _ _ _ _ _ => False, ?_, ?_⟩
    · exact vc_X9_versions_0 v M K  hS
    · exact fun _ _ _ _ _ h => h.elim
  · exact hS.elim
def S_X9_equalities : ab_PT := fun a M K => match a with
  | [.inr (.inr (.inr (797, 9, 0)))] => (pz_PR M ∧ (∀ N, pz_rdn M N → ev_A N) ∧ pa_G M ∧ (M 797 31 = 0 ∨ M 797 31 = 1)) ∧ (∀ rx : Int, ∀ Mx : ab_M, (pa_P M Mx ∧ rx = Mx 797 58) → K [Xi rx] Mx)
  | _ => False
set_option maxRecDepth 20000 in
theorem vc_X9_equalities_0  (M : ab_M) (K : List ab_V → ab_M → Prop) (hS : (pz_PR M ∧ (∀ N, pz_rdn M N → ev_A N) ∧ pa_G M ∧ (M 797 31 = 0 ∨ M 797 31 = 1)) ∧ (∀ rx : Int, ∀ Mx : ab_M, (pa_P M Mx ∧ rx = Mx 797 58) → K [Xi rx] Mx)) : (pz_PR M ∧ (∀ N, pz_rdn M N → ev_A N) ∧ pa_G M ∧ (M 797 31 = 0 ∨ M 797 31 = 1)) ∧ (∀ M1 : ab_M, (pa_P M M1) → K [Xi (M1 797 58)] M1) := by
  obtain ⟨gP, gK⟩ := hS
  refine And.intro (by
    first
      | omega
      | exact gP
      | exact ⟨by omega, by omega⟩) ?_
  intro M1 hM1
  exact gK _ _ ⟨by assumption, rfl⟩

set_option maxRecDepth 20000 in
set_option maxHeartbeats 1000000 in
theorem ok_X9_equalities (E : ab_E) : ab_Ok E 9 136 S_X9_equalities := by
  refine ab_mk rq_X9_equalities tk_X9_equalities (rt := 1) (rfl) (cuts := []) (G := [(165, S_X9_pass)]) (List.forall_mem_cons.mpr ⟨⟨8, by decide, ok_X9_pass E⟩, fun _ h => absurd h List.not_mem_nil⟩) (by decide) 55 rfl ?_
  intro a M K wd wa hS
  unfold S_X9_equalities at hS
  split at hS
  ·
    refine ⟨Nat.le_of_ble_eq_true rfl, fun _ _ _ _ _ => False, ?_, ?_⟩
    · exact vc_X9_equalities_0  M K  hS
    · exact fun _ _ _ _ _ h => h.elim
  · exact hS.elim
def S_X9_linear : ab_PT := fun a M K => match a with
  | [.inr (.inr (.inr (797, 9, 0)))] => (pz_PR M ∧ (∀ N, pz_rdn M N → ev_A N) ∧ pa_G M ∧ (M 797 31 = 0 ∨ M 797 31 = 1)) ∧ (∀ rx : Int, ∀ Mx : ab_M, (pa_P M Mx ∧ rx = Mx 797 59 + 3 * Mx 797 58) → K [Xi rx] Mx)
  | _ => False
set_option maxRecDepth 20000 in
theorem vc_X9_linear_0  (M : ab_M) (K : List ab_V → ab_M → Prop) (hS : (pz_PR M ∧ (∀ N, pz_rdn M N → ev_A N) ∧ pa_G M ∧ (M 797 31 = 0 ∨ M 797 31 = 1)) ∧ (∀ rx : Int, ∀ Mx : ab_M, (pa_P M Mx ∧ rx = Mx 797 59 + 3 * Mx 797 58) → K [Xi rx] Mx)) : (pz_PR M ∧ (∀ N, pz_rdn M N → ev_A N) ∧ pa_G M ∧ (M 797 31 = 0 ∨ M 797 31 = 1)) ∧ (∀ M1 : ab_M, (pa_P M M1) → K [Xi ((M1 797 59) + ((3 : Int) * (M1 797 58)))] M1) := by
  obtain ⟨gP, gK⟩ := hS
  refine And.intro (by
    first
      | omega
      | exact gP
      | exact ⟨by omega, by omega⟩) ?_
  intro M1 hM1
  exact gK _ _ ⟨by assumption, rfl⟩

set_option maxRecDepth 20000 in
set_option maxHeartbeats 1000000 in
theorem ok_X9_linear (E : ab_E) : ab_Ok E 9 160 S_X9_linear := by
  refine ab_mk rq_X9_linear tk_X9_linear (rt := 1) (rfl) (cuts := []) (G := [(165, S_X9_pass)]) (List.forall_mem_cons.mpr ⟨⟨8, by decide, ok_X9_pass E⟩, fun _ h => absurd h List.not_mem_nil⟩) (by decide) 60 rfl ?_
  intro a M K wd wa hS
  unfold S_X9_linear at hS
  split at hS
  ·
    refine ⟨Nat.le_of_ble_eq_true rfl, fun _ _ _ _ _ => False, ?_, ?_⟩
    · exact vc_X9_linear_0  M K  hS
    · exact fun _ _ _ _ _ h => h.elim
  · exact hS.elim
