/-! what can come of a row -/
/-- what can come from a row on -/
def cf_v (M : ab_M) (row s : Int) : Int := if row = M 797 33 then 65536 else if row = -1 then 131072 else M 825 (256 * row + s).toNat
/-- what can come by a row -/
def cb_v (M : ab_M) (row s : Int) : Int :=
  if M 818 row.toNat = 0 then cf_v M (row + 1) (pz_sw s (M 819 row.toNat) (M 822 (256 * row + s).toNat))
  else if M 818 row.toNat = 1 then ab_or (ab_or (ab_or (cf_v M (row + 1) (pz_sw s (M 819 row.toNat) 0)) (cf_v M (row + 1) (pz_sw s (M 819 row.toNat) 1))) (cf_v M (row + 1) (pz_sw s (M 819 row.toNat) 2))) (cf_v M (row + 1) (pz_sw s (M 819 row.toNat) 3))
  else if M 818 row.toNat = 2 then (if M 822 (256 * row + s).toNat = 0 then ab_shl 1 (M 819 row.toNat) else cf_v M (row + 1) s)
  else if M 818 row.toNat = 3 then (if M 822 (256 * row + s).toNat = 0 then 0 else cf_v M (row + 1) s)
  else if M 818 row.toNat = 4 then (if M 822 (256 * row + s).toNat = 0 then cf_v M (M 820 row.toNat) s else cf_v M (row + 1) s)
  else if M 818 row.toNat = 5 then cf_v M (M 820 row.toNat) s
  else 0
/-- rows that can be run -/
def cb_K (M : ab_M) : Prop := (0 ≤ M 797 33 ∧ M 797 33 ≤ 256) ∧ ∀ i : Nat, (i : Int) < M 797 33 → (0 ≤ M 818 i ∧ M 818 i ≤ 6) ∧ (M 818 i ≤ 1 → 0 ≤ M 819 i ∧ M 819 i ≤ 3) ∧ (M 818 i = 4 ∨ M 818 i = 5 → M 820 i = -1 ∨ (0 ≤ M 820 i ∧ M 820 i ≤ M 797 33)) ∧ ∀ s : Nat, s < 256 → M 818 i ≠ 1 → M 818 i ≠ 5 → M 818 i ≠ 6 → 0 ≤ M 822 (256 * i + s) ∧ M 822 (256 * i + s) ≤ 3
theorem pz_sw_rng {s v y : Int} (hs : 0 ≤ s ∧ s < 256) (hv : 0 ≤ v ∧ v ≤ 3) (hy : 0 ≤ y ∧ y ≤ 3) : 0 ≤ pz_sw s v y ∧ pz_sw s v y < 256 := by
  have := pz_sw_r s v y hs.1 (by omega) hv.1 hv.2 hy.1 hy.2
  omega

def S_X9_canFrom : ab_PT := fun a M K => match a with
  | [.inr (.inr (.inr (797, 9, 0))), .inr (.inl row), .inr (.inl s)] => ((0 ≤ M 797 33 ∧ M 797 33 ≤ 256) ∧ (-1 ≤ row ∧ row ≤ M 797 33) ∧ (0 ≤ s ∧ s < 256)) ∧ (∀ rx : Int, (rx = cf_v M row s) → K [Xi rx] M)
  | _ => False
set_option maxRecDepth 20000 in
theorem vc_X9_canFrom_0 (row : Int) (s : Int) (M : ab_M) (K : List ab_V → ab_M → Prop) (hS : ((0 ≤ M 797 33 ∧ M 797 33 ≤ 256) ∧ (-1 ≤ row ∧ row ≤ M 797 33) ∧ (0 ≤ s ∧ s < 256)) ∧ (∀ rx : Int, (rx = cf_v M row s) → K [Xi rx] M)) : (ab_ir row ∧ ab_ir (M 797 33)) ∧ ((¬ row = (M 797 33) → (ab_ir row ∧ ab_ir (-1 : Int)) ∧ ((¬ row = (-1 : Int) → (-32768 ≤ (256 : Int) ∧ (256 : Int) < 32768) ∧ (0 ≤ (((256 : Int) * row) + s) ∧ (((256 : Int) * row) + s) < ((65536 : Nat) : Int)) ∧ K [Xi (M 825 ((((256 : Int) * row) + s).toNat))] M) ∧ (row = (-1 : Int) → K [Xi (131072 : Int)] M))) ∧ (row = (M 797 33) → K [Xi (65536 : Int)] M)) := by
  obtain ⟨⟨⟨g0, g1⟩, ⟨g2, g3⟩, g4, g5⟩, gK⟩ := hS
  refine And.intro (by
    first
      | omega
      | exact ⟨by omega, by omega⟩
      | exact ⟨⟨by omega, by omega⟩, by omega, by omega⟩) ?_
  refine ⟨?_, ?_⟩
  · intro c5
    refine And.intro (by
      first
        | omega
        | exact ⟨by omega, by omega⟩
        | exact ⟨⟨by omega, by omega⟩, by omega, by omega⟩) ?_
    refine ⟨?_, ?_⟩
    · intro c15
      refine And.intro (by
        first
          | omega
          | exact ⟨by omega, by omega⟩
          | exact ⟨⟨by omega, by omega⟩, by omega, by omega⟩) ?_
      refine And.intro (by
        first
          | omega
          | exact ⟨by omega, by omega⟩
          | exact ⟨⟨by omega, by omega⟩, by omega, by omega⟩) ?_
      refine gK _ ?_
      unfold cf_v
      first
        | (rw [if_pos (by assumption)] <;> rfl)
        | (rw [if_neg (by assumption), if_pos (by assumption)] <;> rfl)
        | (rw [if_neg (by assumption), if_neg (by assumption)] <;> rfl)
    · intro c15
      refine gK _ ?_
      unfold cf_v
      first
        | (rw [if_pos (by assumption)] <;> rfl)
        | (rw [if_neg (by assumption), if_pos (by assumption)] <;> rfl)
        | (rw [if_neg (by assumption), if_neg (by assumption)] <;> rfl)
  · intro c5
    refine gK _ ?_
    unfold cf_v
    first
      | (rw [if_pos (by assumption)] <;> rfl)
      | (rw [if_neg (by assumption), if_pos (by assumption)] <;> rfl)
      | (rw [if_neg (by assumption), if_neg (by assumption)] <;> rfl)

set_option maxRecDepth 20000 in
set_option maxHeartbeats 1000000 in
theorem ok_X9_canFrom (E : ab_E) : ab_Ok E 1 124 S_X9_canFrom := by
  refine ab_mk rq_X9_canFrom tk_X9_canFrom (rt := 1) (rfl) (cuts := []) (G := []) (fun g hg => by cases hg) (by decide) 70 rfl ?_
  intro a M K wd wa hS
  unfold S_X9_canFrom at hS
  split at hS
  ·
    rename_i row s
    refine ⟨Nat.le_of_ble_eq_true rfl, fun _ _ _ _ _ => False, ?_, ?_⟩
    · exact vc_X9_canFrom_0 row s M K  hS
    · exact fun _ _ _ _ _ h => h.elim
  · exact hS.elim
def S_X9_canBy : ab_PT := fun a M K => match a with
  | [.inr (.inr (.inr (797, 9, 0))), .inr (.inl row), .inr (.inl s)] => (cb_K M ∧ (0 ≤ row ∧ row < M 797 33) ∧ (0 ≤ s ∧ s < 256)) ∧ (∀ rx : Int, (rx = cb_v M row s) → K [Xi rx] M)
  | _ => False
set_option maxRecDepth 20000 in
theorem vc_X9_canBy_0 (row : Int) (s : Int) (M : ab_M) (K : List ab_V → ab_M → Prop) (hS : (cb_K M ∧ (0 ≤ row ∧ row < M 797 33) ∧ (0 ≤ s ∧ s < 256)) ∧ (∀ rx : Int, (rx = cb_v M row s) → K [Xi rx] M)) : (-32768 ≤ (256 : Int) ∧ (256 : Int) < 32768) ∧ (0 ≤ (((256 : Int) * row) + s) ∧ (((256 : Int) * row) + s) < ((65536 : Nat) : Int)) ∧ (0 ≤ row ∧ row < ((256 : Nat) : Int)) ∧ (ab_ir (M 818 row.toNat)) ∧ (((M 818 row.toNat) = 0 → (0 ≤ row ∧ row < ((256 : Nat) : Int)) ∧ (True) ∧ (∀ r68 : Int, (r68 = pz_sw s (M 819 row.toNat) (M 822 ((((256 : Int) * row) + s).toNat))) → ((0 ≤ M 797 33 ∧ M 797 33 ≤ 256) ∧ (-1 ≤ (row + (1 : Int)) ∧ (row + (1 : Int)) ≤ M 797 33) ∧ (0 ≤ r68 ∧ r68 < 256)) ∧ (∀ r71 : Int, (r71 = cf_v M (row + (1 : Int)) r68) → K [Xi r71] M))) ∧ (¬ (M 818 row.toNat) = 0 → (((M 818 row.toNat) = 1 → (0 ≤ row ∧ row < ((256 : Nat) : Int)) ∧ (True) ∧ (∀ r87 : Int, (r87 = pz_sw s (M 819 row.toNat) (0 : Int)) → ((0 ≤ M 797 33 ∧ M 797 33 ≤ 256) ∧ (-1 ≤ (row + (1 : Int)) ∧ (row + (1 : Int)) ≤ M 797 33) ∧ (0 ≤ r87 ∧ r87 < 256)) ∧ (∀ r90 : Int, (r90 = cf_v M (row + (1 : Int)) r87) → (0 ≤ row ∧ row < ((256 : Nat) : Int)) ∧ (True) ∧ (∀ r105 : Int, (r105 = pz_sw s (M 819 row.toNat) (1 : Int)) → ((0 ≤ M 797 33 ∧ M 797 33 ≤ 256) ∧ (-1 ≤ (row + (1 : Int)) ∧ (row + (1 : Int)) ≤ M 797 33) ∧ (0 ≤ r105 ∧ r105 < 256)) ∧ (∀ r108 : Int, (r108 = cf_v M (row + (1 : Int)) r105) → (0 ≤ row ∧ row < ((256 : Nat) : Int)) ∧ (True) ∧ (∀ r124 : Int, (r124 = pz_sw s (M 819 row.toNat) (2 : Int)) → ((0 ≤ M 797 33 ∧ M 797 33 ≤ 256) ∧ (-1 ≤ (row + (1 : Int)) ∧ (row + (1 : Int)) ≤ M 797 33) ∧ (0 ≤ r124 ∧ r124 < 256)) ∧ (∀ r127 : Int, (r127 = cf_v M (row + (1 : Int)) r124) → (0 ≤ row ∧ row < ((256 : Nat) : Int)) ∧ (True) ∧ (∀ r143 : Int, (r143 = pz_sw s (M 819 row.toNat) (3 : Int)) → ((0 ≤ M 797 33 ∧ M 797 33 ≤ 256) ∧ (-1 ≤ (row + (1 : Int)) ∧ (row + (1 : Int)) ≤ M 797 33) ∧ (0 ≤ r143 ∧ r143 < 256)) ∧ (∀ r146 : Int, (r146 = cf_v M (row + (1 : Int)) r143) → K [Xi (ab_or (ab_or (ab_or r90 r108) r127) r146)] M))))))))) ∧ (¬ (M 818 row.toNat) = 1 → (((M 818 row.toNat) = 2 → (ab_ir (M 822 ((((256 : Int) * row) + s).toNat))) ∧ ((¬ (M 822 ((((256 : Int) * row) + s).toNat)) = 0 → ((0 ≤ M 797 33 ∧ M 797 33 ≤ 256) ∧ (-1 ≤ (row + (1 : Int)) ∧ (row + (1 : Int)) ≤ M 797 33) ∧ (0 ≤ s ∧ s < 256)) ∧ (∀ r171 : Int, (r171 = cf_v M (row + (1 : Int)) s) → K [Xi r171] M)) ∧ ((M 822 ((((256 : Int) * row) + s).toNat)) = 0 → (0 ≤ row ∧ row < ((256 : Nat) : Int)) ∧ K [Xi (ab_shl (1 : Int) (M 819 row.toNat))] M))) ∧ (¬ (M 818 row.toNat) = 2 → (((M 818 row.toNat) = 3 → (ab_ir (M 822 ((((256 : Int) * row) + s).toNat))) ∧ ((¬ (M 822 ((((256 : Int) * row) + s).toNat)) = 0 → ((0 ≤ M 797 33 ∧ M 797 33 ≤ 256) ∧ (-1 ≤ (row + (1 : Int)) ∧ (row + (1 : Int)) ≤ M 797 33) ∧ (0 ≤ s ∧ s < 256)) ∧ (∀ r188 : Int, (r188 = cf_v M (row + (1 : Int)) s) → K [Xi r188] M)) ∧ ((M 822 ((((256 : Int) * row) + s).toNat)) = 0 → K [Xi (0 : Int)] M))) ∧ (¬ (M 818 row.toNat) = 3 → (((M 818 row.toNat) = 4 → (ab_ir (M 822 ((((256 : Int) * row) + s).toNat))) ∧ ((¬ (M 822 ((((256 : Int) * row) + s).toNat)) = 0 → ((0 ≤ M 797 33 ∧ M 797 33 ≤ 256) ∧ (-1 ≤ (row + (1 : Int)) ∧ (row + (1 : Int)) ≤ M 797 33) ∧ (0 ≤ s ∧ s < 256)) ∧ (∀ r210 : Int, (r210 = cf_v M (row + (1 : Int)) s) → K [Xi r210] M)) ∧ ((M 822 ((((256 : Int) * row) + s).toNat)) = 0 → (0 ≤ row ∧ row < ((256 : Nat) : Int)) ∧ ((0 ≤ M 797 33 ∧ M 797 33 ≤ 256) ∧ (-1 ≤ (M 820 row.toNat) ∧ (M 820 row.toNat) ≤ M 797 33) ∧ (0 ≤ s ∧ s < 256)) ∧ (∀ r210 : Int, (r210 = cf_v M (M 820 row.toNat) s) → K [Xi r210] M)))) ∧ (¬ (M 818 row.toNat) = 4 → (((M 818 row.toNat) = 5 → (0 ≤ row ∧ row < ((256 : Nat) : Int)) ∧ ((0 ≤ M 797 33 ∧ M 797 33 ≤ 256) ∧ (-1 ≤ (M 820 row.toNat) ∧ (M 820 row.toNat) ≤ M 797 33) ∧ (0 ≤ s ∧ s < 256)) ∧ (∀ r222 : Int, (r222 = cf_v M (M 820 row.toNat) s) → K [Xi r222] M)) ∧ (¬ (M 818 row.toNat) = 5 → K [Xi (0 : Int)] M)))))))))))) := by
  obtain ⟨⟨⟨⟨g0, g1⟩, gk⟩, ⟨g2, g3⟩, g4, g5⟩, gK⟩ := hS
  obtain ⟨⟨k1, k2⟩, k3, k4, k5⟩ := gk row.toNat (by omega)
  have k6 := k5 s.toNat (by omega)
  rw [show 256 * row.toNat + s.toNat = (256 * row + s).toNat by omega] at k6
  refine And.intro (by
    first
      | omega
      | exact ⟨by omega, by omega⟩
      | exact ⟨⟨by omega, by omega⟩, by omega, by omega⟩
      | exact trivial
      | exact ⟨⟨g0, g1⟩, ⟨by omega, by omega⟩, g4, g5⟩
      | (refine ⟨⟨g0, g1⟩, ⟨by omega, by omega⟩, ?_⟩
         first
           | (rw [hr143]; exact pz_sw_rng ⟨g4, g5⟩ (k3 (by omega)) (by decide))
           | (rw [hr124]; exact pz_sw_rng ⟨g4, g5⟩ (k3 (by omega)) (by decide))
           | (rw [hr105]; exact pz_sw_rng ⟨g4, g5⟩ (k3 (by omega)) (by decide))
           | (rw [hr87]; exact pz_sw_rng ⟨g4, g5⟩ (k3 (by omega)) (by decide))
           | (rw [hr68]; exact pz_sw_rng ⟨g4, g5⟩ (k3 (by omega)) (k6 (by omega) (by omega) (by omega))))
      | (have := k6 (by omega) (by omega) (by omega); exact ⟨by omega, by omega⟩)
      | (have := k4 (by omega); exact ⟨⟨g0, g1⟩, ⟨by omega, by omega⟩, g4, g5⟩)) ?_
  refine And.intro (by
    first
      | omega
      | exact ⟨by omega, by omega⟩
      | exact ⟨⟨by omega, by omega⟩, by omega, by omega⟩
      | exact trivial
      | exact ⟨⟨g0, g1⟩, ⟨by omega, by omega⟩, g4, g5⟩
      | (refine ⟨⟨g0, g1⟩, ⟨by omega, by omega⟩, ?_⟩
         first
           | (rw [hr143]; exact pz_sw_rng ⟨g4, g5⟩ (k3 (by omega)) (by decide))
           | (rw [hr124]; exact pz_sw_rng ⟨g4, g5⟩ (k3 (by omega)) (by decide))
           | (rw [hr105]; exact pz_sw_rng ⟨g4, g5⟩ (k3 (by omega)) (by decide))
           | (rw [hr87]; exact pz_sw_rng ⟨g4, g5⟩ (k3 (by omega)) (by decide))
           | (rw [hr68]; exact pz_sw_rng ⟨g4, g5⟩ (k3 (by omega)) (k6 (by omega) (by omega) (by omega))))
      | (have := k6 (by omega) (by omega) (by omega); exact ⟨by omega, by omega⟩)
      | (have := k4 (by omega); exact ⟨⟨g0, g1⟩, ⟨by omega, by omega⟩, g4, g5⟩)) ?_
  refine And.intro (by
    first
      | omega
      | exact ⟨by omega, by omega⟩
      | exact ⟨⟨by omega, by omega⟩, by omega, by omega⟩
      | exact trivial
      | exact ⟨⟨g0, g1⟩, ⟨by omega, by omega⟩, g4, g5⟩
      | (refine ⟨⟨g0, g1⟩, ⟨by omega, by omega⟩, ?_⟩
         first
           | (rw [hr143]; exact pz_sw_rng ⟨g4, g5⟩ (k3 (by omega)) (by decide))
           | (rw [hr124]; exact pz_sw_rng ⟨g4, g5⟩ (k3 (by omega)) (by decide))
           | (rw [hr105]; exact pz_sw_rng ⟨g4, g5⟩ (k3 (by omega)) (by decide))
           | (rw [hr87]; exact pz_sw_rng ⟨g4, g5⟩ (k3 (by omega)) (by decide))
           | (rw [hr68]; exact pz_sw_rng ⟨g4, g5⟩ (k3 (by omega)) (k6 (by omega) (by omega) (by omega))))
      | (have := k6 (by omega) (by omega) (by omega); exact ⟨by omega, by omega⟩)
      | (have := k4 (by omega); exact ⟨⟨g0, g1⟩, ⟨by omega, by omega⟩, g4, g5⟩)) ?_
  refine And.intro (by
    first
      | omega
      | exact ⟨by omega, by omega⟩
      | exact ⟨⟨by omega, by omega⟩, by omega, by omega⟩
      | exact trivial
      | exact ⟨⟨g0, g1⟩, ⟨by omega, by omega⟩, g4, g5⟩
      | (refine ⟨⟨g0, g1⟩, ⟨by omega, by omega⟩, ?_⟩
         first
           | (rw [hr143]; exact pz_sw_rng ⟨g4, g5⟩ (k3 (by omega)) (by decide))
           | (rw [hr124]; exact pz_sw_rng ⟨g4, g5⟩ (k3 (by omega)) (by decide))
           | (rw [hr105]; exact pz_sw_rng ⟨g4, g5⟩ (k3 (by omega)) (by decide))
           | (rw [hr87]; exact pz_sw_rng ⟨g4, g5⟩ (k3 (by omega)) (by decide))
           | (rw [hr68]; exact pz_sw_rng ⟨g4, g5⟩ (k3 (by omega)) (k6 (by omega) (by omega) (by omega))))
      | (have := k6 (by omega) (by omega) (by omega); exact ⟨by omega, by omega⟩)
      | (have := k4 (by omega); exact ⟨⟨g0, g1⟩, ⟨by omega, by omega⟩, g4, g5⟩)) ?_
  refine ⟨?_, ?_⟩
  · intro c19_0
    refine And.intro (by
      first
        | omega
        | exact ⟨by omega, by omega⟩
        | exact ⟨⟨by omega, by omega⟩, by omega, by omega⟩
        | exact trivial
        | exact ⟨⟨g0, g1⟩, ⟨by omega, by omega⟩, g4, g5⟩
        | (refine ⟨⟨g0, g1⟩, ⟨by omega, by omega⟩, ?_⟩
           first
             | (rw [hr143]; exact pz_sw_rng ⟨g4, g5⟩ (k3 (by omega)) (by decide))
             | (rw [hr124]; exact pz_sw_rng ⟨g4, g5⟩ (k3 (by omega)) (by decide))
             | (rw [hr105]; exact pz_sw_rng ⟨g4, g5⟩ (k3 (by omega)) (by decide))
             | (rw [hr87]; exact pz_sw_rng ⟨g4, g5⟩ (k3 (by omega)) (by decide))
             | (rw [hr68]; exact pz_sw_rng ⟨g4, g5⟩ (k3 (by omega)) (k6 (by omega) (by omega) (by omega))))
        | (have := k6 (by omega) (by omega) (by omega); exact ⟨by omega, by omega⟩)
        | (have := k4 (by omega); exact ⟨⟨g0, g1⟩, ⟨by omega, by omega⟩, g4, g5⟩)) ?_
    refine And.intro trivial ?_
    intro r68 hr68
    refine And.intro (by
      first
        | omega
        | exact ⟨by omega, by omega⟩
        | exact ⟨⟨by omega, by omega⟩, by omega, by omega⟩
        | exact trivial
        | exact ⟨⟨g0, g1⟩, ⟨by omega, by omega⟩, g4, g5⟩
        | (refine ⟨⟨g0, g1⟩, ⟨by omega, by omega⟩, ?_⟩
           first
             | (rw [hr143]; exact pz_sw_rng ⟨g4, g5⟩ (k3 (by omega)) (by decide))
             | (rw [hr124]; exact pz_sw_rng ⟨g4, g5⟩ (k3 (by omega)) (by decide))
             | (rw [hr105]; exact pz_sw_rng ⟨g4, g5⟩ (k3 (by omega)) (by decide))
             | (rw [hr87]; exact pz_sw_rng ⟨g4, g5⟩ (k3 (by omega)) (by decide))
             | (rw [hr68]; exact pz_sw_rng ⟨g4, g5⟩ (k3 (by omega)) (k6 (by omega) (by omega) (by omega))))
        | (have := k6 (by omega) (by omega) (by omega); exact ⟨by omega, by omega⟩)
        | (have := k4 (by omega); exact ⟨⟨g0, g1⟩, ⟨by omega, by omega⟩, g4, g5⟩)) ?_
    intro r71 hr71
    refine gK _ ?_
    unfold cb_v
    first
      | (rw [if_pos c19_0, hr71, hr68]; done)
      | (rw [if_neg c19_0, if_pos c19_1, hr146, hr143, hr127, hr124, hr108, hr105, hr90, hr87]; done)
      | (rw [if_neg c19_0, if_neg c19_1, if_pos c19_2, if_neg c152, hr171]; done)
      | (rw [if_neg c19_0, if_neg c19_1, if_pos c19_2, if_pos c152]; done)
      | (rw [if_neg c19_0, if_neg c19_1, if_neg c19_2, if_pos c19_3, if_neg c176, hr188]; done)
      | (rw [if_neg c19_0, if_neg c19_1, if_neg c19_2, if_pos c19_3, if_pos c176]; done)
      | (rw [if_neg c19_0, if_neg c19_1, if_neg c19_2, if_neg c19_3, if_pos c19_4, if_neg c194, hr210]; done)
      | (rw [if_neg c19_0, if_neg c19_1, if_neg c19_2, if_neg c19_3, if_pos c19_4, if_pos c194, hr210]; done)
      | (rw [if_neg c19_0, if_neg c19_1, if_neg c19_2, if_neg c19_3, if_neg c19_4, if_pos c19_5, hr222]; done)
      | (rw [if_neg c19_0, if_neg c19_1, if_neg c19_2, if_neg c19_3, if_neg c19_4, if_neg c19_5]; done)
  · intro c19_0
    refine ⟨?_, ?_⟩
    · intro c19_1
      refine And.intro (by
        first
          | omega
          | exact ⟨by omega, by omega⟩
          | exact ⟨⟨by omega, by omega⟩, by omega, by omega⟩
          | exact trivial
          | exact ⟨⟨g0, g1⟩, ⟨by omega, by omega⟩, g4, g5⟩
          | (refine ⟨⟨g0, g1⟩, ⟨by omega, by omega⟩, ?_⟩
             first
               | (rw [hr143]; exact pz_sw_rng ⟨g4, g5⟩ (k3 (by omega)) (by decide))
               | (rw [hr124]; exact pz_sw_rng ⟨g4, g5⟩ (k3 (by omega)) (by decide))
               | (rw [hr105]; exact pz_sw_rng ⟨g4, g5⟩ (k3 (by omega)) (by decide))
               | (rw [hr87]; exact pz_sw_rng ⟨g4, g5⟩ (k3 (by omega)) (by decide))
               | (rw [hr68]; exact pz_sw_rng ⟨g4, g5⟩ (k3 (by omega)) (k6 (by omega) (by omega) (by omega))))
          | (have := k6 (by omega) (by omega) (by omega); exact ⟨by omega, by omega⟩)
          | (have := k4 (by omega); exact ⟨⟨g0, g1⟩, ⟨by omega, by omega⟩, g4, g5⟩)) ?_
      refine And.intro trivial ?_
      intro r87 hr87
      refine And.intro (by
        first
          | omega
          | exact ⟨by omega, by omega⟩
          | exact ⟨⟨by omega, by omega⟩, by omega, by omega⟩
          | exact trivial
          | exact ⟨⟨g0, g1⟩, ⟨by omega, by omega⟩, g4, g5⟩
          | (refine ⟨⟨g0, g1⟩, ⟨by omega, by omega⟩, ?_⟩
             first
               | (rw [hr143]; exact pz_sw_rng ⟨g4, g5⟩ (k3 (by omega)) (by decide))
               | (rw [hr124]; exact pz_sw_rng ⟨g4, g5⟩ (k3 (by omega)) (by decide))
               | (rw [hr105]; exact pz_sw_rng ⟨g4, g5⟩ (k3 (by omega)) (by decide))
               | (rw [hr87]; exact pz_sw_rng ⟨g4, g5⟩ (k3 (by omega)) (by decide))
               | (rw [hr68]; exact pz_sw_rng ⟨g4, g5⟩ (k3 (by omega)) (k6 (by omega) (by omega) (by omega))))
          | (have := k6 (by omega) (by omega) (by omega); exact ⟨by omega, by omega⟩)
          | (have := k4 (by omega); exact ⟨⟨g0, g1⟩, ⟨by omega, by omega⟩, g4, g5⟩)) ?_
      intro r90 hr90
      refine And.intro (by
        first
          | omega
          | exact ⟨by omega, by omega⟩
          | exact ⟨⟨by omega, by omega⟩, by omega, by omega⟩
          | exact trivial
          | exact ⟨⟨g0, g1⟩, ⟨by omega, by omega⟩, g4, g5⟩
          | (refine ⟨⟨g0, g1⟩, ⟨by omega, by omega⟩, ?_⟩
             first
               | (rw [hr143]; exact pz_sw_rng ⟨g4, g5⟩ (k3 (by omega)) (by decide))
               | (rw [hr124]; exact pz_sw_rng ⟨g4, g5⟩ (k3 (by omega)) (by decide))
               | (rw [hr105]; exact pz_sw_rng ⟨g4, g5⟩ (k3 (by omega)) (by decide))
               | (rw [hr87]; exact pz_sw_rng ⟨g4, g5⟩ (k3 (by omega)) (by decide))
               | (rw [hr68]; exact pz_sw_rng ⟨g4, g5⟩ (k3 (by omega)) (k6 (by omega) (by omega) (by omega))))
          | (have := k6 (by omega) (by omega) (by omega); exact ⟨by omega, by omega⟩)
          | (have := k4 (by omega); exact ⟨⟨g0, g1⟩, ⟨by omega, by omega⟩, g4, g5⟩)) ?_
      refine And.intro trivial ?_
      intro r105 hr105
      refine And.intro (by
        first
          | omega
          | exact ⟨by omega, by omega⟩
          | exact ⟨⟨by omega, by omega⟩, by omega, by omega⟩
          | exact trivial
          | exact ⟨⟨g0, g1⟩, ⟨by omega, by omega⟩, g4, g5⟩
          | (refine ⟨⟨g0, g1⟩, ⟨by omega, by omega⟩, ?_⟩
             first
               | (rw [hr143]; exact pz_sw_rng ⟨g4, g5⟩ (k3 (by omega)) (by decide))
               | (rw [hr124]; exact pz_sw_rng ⟨g4, g5⟩ (k3 (by omega)) (by decide))
               | (rw [hr105]; exact pz_sw_rng ⟨g4, g5⟩ (k3 (by omega)) (by decide))
               | (rw [hr87]; exact pz_sw_rng ⟨g4, g5⟩ (k3 (by omega)) (by decide))
               | (rw [hr68]; exact pz_sw_rng ⟨g4, g5⟩ (k3 (by omega)) (k6 (by omega) (by omega) (by omega))))
          | (have := k6 (by omega) (by omega) (by omega); exact ⟨by omega, by omega⟩)
          | (have := k4 (by omega); exact ⟨⟨g0, g1⟩, ⟨by omega, by omega⟩, g4, g5⟩)) ?_
      intro r108 hr108
      refine And.intro (by
        first
          | omega
          | exact ⟨by omega, by omega⟩
          | exact ⟨⟨by omega, by omega⟩, by omega, by omega⟩
          | exact trivial
          | exact ⟨⟨g0, g1⟩, ⟨by omega, by omega⟩, g4, g5⟩
          | (refine ⟨⟨g0, g1⟩, ⟨by omega, by omega⟩, ?_⟩
             first
               | (rw [hr143]; exact pz_sw_rng ⟨g4, g5⟩ (k3 (by omega)) (by decide))
               | (rw [hr124]; exact pz_sw_rng ⟨g4, g5⟩ (k3 (by omega)) (by decide))
               | (rw [hr105]; exact pz_sw_rng ⟨g4, g5⟩ (k3 (by omega)) (by decide))
               | (rw [hr87]; exact pz_sw_rng ⟨g4, g5⟩ (k3 (by omega)) (by decide))
               | (rw [hr68]; exact pz_sw_rng ⟨g4, g5⟩ (k3 (by omega)) (k6 (by omega) (by omega) (by omega))))
          | (have := k6 (by omega) (by omega) (by omega); exact ⟨by omega, by omega⟩)
          | (have := k4 (by omega); exact ⟨⟨g0, g1⟩, ⟨by omega, by omega⟩, g4, g5⟩)) ?_
      refine And.intro trivial ?_
      intro r124 hr124
      refine And.intro (by
        first
          | omega
          | exact ⟨by omega, by omega⟩
          | exact ⟨⟨by omega, by omega⟩, by omega, by omega⟩
          | exact trivial
          | exact ⟨⟨g0, g1⟩, ⟨by omega, by omega⟩, g4, g5⟩
          | (refine ⟨⟨g0, g1⟩, ⟨by omega, by omega⟩, ?_⟩
             first
               | (rw [hr143]; exact pz_sw_rng ⟨g4, g5⟩ (k3 (by omega)) (by decide))
               | (rw [hr124]; exact pz_sw_rng ⟨g4, g5⟩ (k3 (by omega)) (by decide))
               | (rw [hr105]; exact pz_sw_rng ⟨g4, g5⟩ (k3 (by omega)) (by decide))
               | (rw [hr87]; exact pz_sw_rng ⟨g4, g5⟩ (k3 (by omega)) (by decide))
               | (rw [hr68]; exact pz_sw_rng ⟨g4, g5⟩ (k3 (by omega)) (k6 (by omega) (by omega) (by omega))))
          | (have := k6 (by omega) (by omega) (by omega); exact ⟨by omega, by omega⟩)
          | (have := k4 (by omega); exact ⟨⟨g0, g1⟩, ⟨by omega, by omega⟩, g4, g5⟩)) ?_
      intro r127 hr127
      refine And.intro (by
        first
          | omega
          | exact ⟨by omega, by omega⟩
          | exact ⟨⟨by omega, by omega⟩, by omega, by omega⟩
          | exact trivial
          | exact ⟨⟨g0, g1⟩, ⟨by omega, by omega⟩, g4, g5⟩
          | (refine ⟨⟨g0, g1⟩, ⟨by omega, by omega⟩, ?_⟩
             first
               | (rw [hr143]; exact pz_sw_rng ⟨g4, g5⟩ (k3 (by omega)) (by decide))
               | (rw [hr124]; exact pz_sw_rng ⟨g4, g5⟩ (k3 (by omega)) (by decide))
               | (rw [hr105]; exact pz_sw_rng ⟨g4, g5⟩ (k3 (by omega)) (by decide))
               | (rw [hr87]; exact pz_sw_rng ⟨g4, g5⟩ (k3 (by omega)) (by decide))
               | (rw [hr68]; exact pz_sw_rng ⟨g4, g5⟩ (k3 (by omega)) (k6 (by omega) (by omega) (by omega))))
          | (have := k6 (by omega) (by omega) (by omega); exact ⟨by omega, by omega⟩)
          | (have := k4 (by omega); exact ⟨⟨g0, g1⟩, ⟨by omega, by omega⟩, g4, g5⟩)) ?_
      refine And.intro trivial ?_
      intro r143 hr143
      refine And.intro (by
        first
          | omega
          | exact ⟨by omega, by omega⟩
          | exact ⟨⟨by omega, by omega⟩, by omega, by omega⟩
          | exact trivial
          | exact ⟨⟨g0, g1⟩, ⟨by omega, by omega⟩, g4, g5⟩
          | (refine ⟨⟨g0, g1⟩, ⟨by omega, by omega⟩, ?_⟩
             first
               | (rw [hr143]; exact pz_sw_rng ⟨g4, g5⟩ (k3 (by omega)) (by decide))
               | (rw [hr124]; exact pz_sw_rng ⟨g4, g5⟩ (k3 (by omega)) (by decide))
               | (rw [hr105]; exact pz_sw_rng ⟨g4, g5⟩ (k3 (by omega)) (by decide))
               | (rw [hr87]; exact pz_sw_rng ⟨g4, g5⟩ (k3 (by omega)) (by decide))
               | (rw [hr68]; exact pz_sw_rng ⟨g4, g5⟩ (k3 (by omega)) (k6 (by omega) (by omega) (by omega))))
          | (have := k6 (by omega) (by omega) (by omega); exact ⟨by omega, by omega⟩)
          | (have := k4 (by omega); exact ⟨⟨g0, g1⟩, ⟨by omega, by omega⟩, g4, g5⟩)) ?_
      intro r146 hr146
      refine gK _ ?_
      unfold cb_v
      first
        | (rw [if_pos c19_0, hr71, hr68]; done)
        | (rw [if_neg c19_0, if_pos c19_1, hr146, hr143, hr127, hr124, hr108, hr105, hr90, hr87]; done)
        | (rw [if_neg c19_0, if_neg c19_1, if_pos c19_2, if_neg c152, hr171]; done)
        | (rw [if_neg c19_0, if_neg c19_1, if_pos c19_2, if_pos c152]; done)
        | (rw [if_neg c19_0, if_neg c19_1, if_neg c19_2, if_pos c19_3, if_neg c176, hr188]; done)
        | (rw [if_neg c19_0, if_neg c19_1, if_neg c19_2, if_pos c19_3, if_pos c176]; done)
        | (rw [if_neg c19_0, if_neg c19_1, if_neg c19_2, if_neg c19_3, if_pos c19_4, if_neg c194, hr210]; done)
        | (rw [if_neg c19_0, if_neg c19_1, if_neg c19_2, if_neg c19_3, if_pos c19_4, if_pos c194, hr210]; done)
        | (rw [if_neg c19_0, if_neg c19_1, if_neg c19_2, if_neg c19_3, if_neg c19_4, if_pos c19_5, hr222]; done)
        | (rw [if_neg c19_0, if_neg c19_1, if_neg c19_2, if_neg c19_3, if_neg c19_4, if_neg c19_5]; done)
    · intro c19_1
      refine ⟨?_, ?_⟩
      · intro c19_2
        refine And.intro (by
          first
            | omega
            | exact ⟨by omega, by omega⟩
            | exact ⟨⟨by omega, by omega⟩, by omega, by omega⟩
            | exact trivial
            | exact ⟨⟨g0, g1⟩, ⟨by omega, by omega⟩, g4, g5⟩
            | (refine ⟨⟨g0, g1⟩, ⟨by omega, by omega⟩, ?_⟩
               first
                 | (rw [hr143]; exact pz_sw_rng ⟨g4, g5⟩ (k3 (by omega)) (by decide))
                 | (rw [hr124]; exact pz_sw_rng ⟨g4, g5⟩ (k3 (by omega)) (by decide))
                 | (rw [hr105]; exact pz_sw_rng ⟨g4, g5⟩ (k3 (by omega)) (by decide))
                 | (rw [hr87]; exact pz_sw_rng ⟨g4, g5⟩ (k3 (by omega)) (by decide))
                 | (rw [hr68]; exact pz_sw_rng ⟨g4, g5⟩ (k3 (by omega)) (k6 (by omega) (by omega) (by omega))))
            | (have := k6 (by omega) (by omega) (by omega); exact ⟨by omega, by omega⟩)
            | (have := k4 (by omega); exact ⟨⟨g0, g1⟩, ⟨by omega, by omega⟩, g4, g5⟩)) ?_
        refine ⟨?_, ?_⟩
        · intro c152
          refine And.intro (by
            first
              | omega
              | exact ⟨by omega, by omega⟩
              | exact ⟨⟨by omega, by omega⟩, by omega, by omega⟩
              | exact trivial
              | exact ⟨⟨g0, g1⟩, ⟨by omega, by omega⟩, g4, g5⟩
              | (refine ⟨⟨g0, g1⟩, ⟨by omega, by omega⟩, ?_⟩
                 first
                   | (rw [hr143]; exact pz_sw_rng ⟨g4, g5⟩ (k3 (by omega)) (by decide))
                   | (rw [hr124]; exact pz_sw_rng ⟨g4, g5⟩ (k3 (by omega)) (by decide))
                   | (rw [hr105]; exact pz_sw_rng ⟨g4, g5⟩ (k3 (by omega)) (by decide))
                   | (rw [hr87]; exact pz_sw_rng ⟨g4, g5⟩ (k3 (by omega)) (by decide))
                   | (rw [hr68]; exact pz_sw_rng ⟨g4, g5⟩ (k3 (by omega)) (k6 (by omega) (by omega) (by omega))))
              | (have := k6 (by omega) (by omega) (by omega); exact ⟨by omega, by omega⟩)
              | (have := k4 (by omega); exact ⟨⟨g0, g1⟩, ⟨by omega, by omega⟩, g4, g5⟩)) ?_
          intro r171 hr171
          refine gK _ ?_
          unfold cb_v
          first
            | (rw [if_pos c19_0, hr71, hr68]; done)
            | (rw [if_neg c19_0, if_pos c19_1, hr146, hr143, hr127, hr124, hr108, hr105, hr90, hr87]; done)
            | (rw [if_neg c19_0, if_neg c19_1, if_pos c19_2, if_neg c152, hr171]; done)
            | (rw [if_neg c19_0, if_neg c19_1, if_pos c19_2, if_pos c152]; done)
            | (rw [if_neg c19_0, if_neg c19_1, if_neg c19_2, if_pos c19_3, if_neg c176, hr188]; done)
            | (rw [if_neg c19_0, if_neg c19_1, if_neg c19_2, if_pos c19_3, if_pos c176]; done)
            | (rw [if_neg c19_0, if_neg c19_1, if_neg c19_2, if_neg c19_3, if_pos c19_4, if_neg c194, hr210]; done)
            | (rw [if_neg c19_0, if_neg c19_1, if_neg c19_2, if_neg c19_3, if_pos c19_4, if_pos c194, hr210]; done)
            | (rw [if_neg c19_0, if_neg c19_1, if_neg c19_2, if_neg c19_3, if_neg c19_4, if_pos c19_5, hr222]; done)
            | (rw [if_neg c19_0, if_neg c19_1, if_neg c19_2, if_neg c19_3, if_neg c19_4, if_neg c19_5]; done)
        · intro c152
          refine And.intro (by
            first
              | omega
              | exact ⟨by omega, by omega⟩
              | exact ⟨⟨by omega, by omega⟩, by omega, by omega⟩
              | exact trivial
              | exact ⟨⟨g0, g1⟩, ⟨by omega, by omega⟩, g4, g5⟩
              | (refine ⟨⟨g0, g1⟩, ⟨by omega, by omega⟩, ?_⟩
                 first
                   | (rw [hr143]; exact pz_sw_rng ⟨g4, g5⟩ (k3 (by omega)) (by decide))
                   | (rw [hr124]; exact pz_sw_rng ⟨g4, g5⟩ (k3 (by omega)) (by decide))
                   | (rw [hr105]; exact pz_sw_rng ⟨g4, g5⟩ (k3 (by omega)) (by decide))
                   | (rw [hr87]; exact pz_sw_rng ⟨g4, g5⟩ (k3 (by omega)) (by decide))
                   | (rw [hr68]; exact pz_sw_rng ⟨g4, g5⟩ (k3 (by omega)) (k6 (by omega) (by omega) (by omega))))
              | (have := k6 (by omega) (by omega) (by omega); exact ⟨by omega, by omega⟩)
              | (have := k4 (by omega); exact ⟨⟨g0, g1⟩, ⟨by omega, by omega⟩, g4, g5⟩)) ?_
          refine gK _ ?_
          unfold cb_v
          first
            | (rw [if_pos c19_0, hr71, hr68]; done)
            | (rw [if_neg c19_0, if_pos c19_1, hr146, hr143, hr127, hr124, hr108, hr105, hr90, hr87]; done)
            | (rw [if_neg c19_0, if_neg c19_1, if_pos c19_2, if_neg c152, hr171]; done)
            | (rw [if_neg c19_0, if_neg c19_1, if_pos c19_2, if_pos c152]; done)
            | (rw [if_neg c19_0, if_neg c19_1, if_neg c19_2, if_pos c19_3, if_neg c176, hr188]; done)
            | (rw [if_neg c19_0, if_neg c19_1, if_neg c19_2, if_pos c19_3, if_pos c176]; done)
            | (rw [if_neg c19_0, if_neg c19_1, if_neg c19_2, if_neg c19_3, if_pos c19_4, if_neg c194, hr210]; done)
            | (rw [if_neg c19_0, if_neg c19_1, if_neg c19_2, if_neg c19_3, if_pos c19_4, if_pos c194, hr210]; done)
            | (rw [if_neg c19_0, if_neg c19_1, if_neg c19_2, if_neg c19_3, if_neg c19_4, if_pos c19_5, hr222]; done)
            | (rw [if_neg c19_0, if_neg c19_1, if_neg c19_2, if_neg c19_3, if_neg c19_4, if_neg c19_5]; done)
      · intro c19_2
        refine ⟨?_, ?_⟩
        · intro c19_3
          refine And.intro (by
            first
              | omega
              | exact ⟨by omega, by omega⟩
              | exact ⟨⟨by omega, by omega⟩, by omega, by omega⟩
              | exact trivial
              | exact ⟨⟨g0, g1⟩, ⟨by omega, by omega⟩, g4, g5⟩
              | (refine ⟨⟨g0, g1⟩, ⟨by omega, by omega⟩, ?_⟩
                 first
                   | (rw [hr143]; exact pz_sw_rng ⟨g4, g5⟩ (k3 (by omega)) (by decide))
                   | (rw [hr124]; exact pz_sw_rng ⟨g4, g5⟩ (k3 (by omega)) (by decide))
                   | (rw [hr105]; exact pz_sw_rng ⟨g4, g5⟩ (k3 (by omega)) (by decide))
                   | (rw [hr87]; exact pz_sw_rng ⟨g4, g5⟩ (k3 (by omega)) (by decide))
                   | (rw [hr68]; exact pz_sw_rng ⟨g4, g5⟩ (k3 (by omega)) (k6 (by omega) (by omega) (by omega))))
              | (have := k6 (by omega) (by omega) (by omega); exact ⟨by omega, by omega⟩)
              | (have := k4 (by omega); exact ⟨⟨g0, g1⟩, ⟨by omega, by omega⟩, g4, g5⟩)) ?_
          refine ⟨?_, ?_⟩
          · intro c176
            refine And.intro (by
              first
                | omega
                | exact ⟨by omega, by omega⟩
                | exact ⟨⟨by omega, by omega⟩, by omega, by omega⟩
                | exact trivial
                | exact ⟨⟨g0, g1⟩, ⟨by omega, by omega⟩, g4, g5⟩
                | (refine ⟨⟨g0, g1⟩, ⟨by omega, by omega⟩, ?_⟩
                   first
                     | (rw [hr143]; exact pz_sw_rng ⟨g4, g5⟩ (k3 (by omega)) (by decide))
                     | (rw [hr124]; exact pz_sw_rng ⟨g4, g5⟩ (k3 (by omega)) (by decide))
                     | (rw [hr105]; exact pz_sw_rng ⟨g4, g5⟩ (k3 (by omega)) (by decide))
                     | (rw [hr87]; exact pz_sw_rng ⟨g4, g5⟩ (k3 (by omega)) (by decide))
                     | (rw [hr68]; exact pz_sw_rng ⟨g4, g5⟩ (k3 (by omega)) (k6 (by omega) (by omega) (by omega))))
                | (have := k6 (by omega) (by omega) (by omega); exact ⟨by omega, by omega⟩)
                | (have := k4 (by omega); exact ⟨⟨g0, g1⟩, ⟨by omega, by omega⟩, g4, g5⟩)) ?_
            intro r188 hr188
            refine gK _ ?_
            unfold cb_v
            first
              | (rw [if_pos c19_0, hr71, hr68]; done)
              | (rw [if_neg c19_0, if_pos c19_1, hr146, hr143, hr127, hr124, hr108, hr105, hr90, hr87]; done)
              | (rw [if_neg c19_0, if_neg c19_1, if_pos c19_2, if_neg c152, hr171]; done)
              | (rw [if_neg c19_0, if_neg c19_1, if_pos c19_2, if_pos c152]; done)
              | (rw [if_neg c19_0, if_neg c19_1, if_neg c19_2, if_pos c19_3, if_neg c176, hr188]; done)
              | (rw [if_neg c19_0, if_neg c19_1, if_neg c19_2, if_pos c19_3, if_pos c176]; done)
              | (rw [if_neg c19_0, if_neg c19_1, if_neg c19_2, if_neg c19_3, if_pos c19_4, if_neg c194, hr210]; done)
              | (rw [if_neg c19_0, if_neg c19_1, if_neg c19_2, if_neg c19_3, if_pos c19_4, if_pos c194, hr210]; done)
              | (rw [if_neg c19_0, if_neg c19_1, if_neg c19_2, if_neg c19_3, if_neg c19_4, if_pos c19_5, hr222]; done)
              | (rw [if_neg c19_0, if_neg c19_1, if_neg c19_2, if_neg c19_3, if_neg c19_4, if_neg c19_5]; done)
          · intro c176
            refine gK _ ?_
            unfold cb_v
            first
              | (rw [if_pos c19_0, hr71, hr68]; done)
              | (rw [if_neg c19_0, if_pos c19_1, hr146, hr143, hr127, hr124, hr108, hr105, hr90, hr87]; done)
              | (rw [if_neg c19_0, if_neg c19_1, if_pos c19_2, if_neg c152, hr171]; done)
              | (rw [if_neg c19_0, if_neg c19_1, if_pos c19_2, if_pos c152]; done)
              | (rw [if_neg c19_0, if_neg c19_1, if_neg c19_2, if_pos c19_3, if_neg c176, hr188]; done)
              | (rw [if_neg c19_0, if_neg c19_1, if_neg c19_2, if_pos c19_3, if_pos c176]; done)
              | (rw [if_neg c19_0, if_neg c19_1, if_neg c19_2, if_neg c19_3, if_pos c19_4, if_neg c194, hr210]; done)
              | (rw [if_neg c19_0, if_neg c19_1, if_neg c19_2, if_neg c19_3, if_pos c19_4, if_pos c194, hr210]; done)
              | (rw [if_neg c19_0, if_neg c19_1, if_neg c19_2, if_neg c19_3, if_neg c19_4, if_pos c19_5, hr222]; done)
              | (rw [if_neg c19_0, if_neg c19_1, if_neg c19_2, if_neg c19_3, if_neg c19_4, if_neg c19_5]; done)
        · intro c19_3
          refine ⟨?_, ?_⟩
          · intro c19_4
            refine And.intro (by
              first
                | omega
                | exact ⟨by omega, by omega⟩
                | exact ⟨⟨by omega, by omega⟩, by omega, by omega⟩
                | exact trivial
                | exact ⟨⟨g0, g1⟩, ⟨by omega, by omega⟩, g4, g5⟩
                | (refine ⟨⟨g0, g1⟩, ⟨by omega, by omega⟩, ?_⟩
                   first
                     | (rw [hr143]; exact pz_sw_rng ⟨g4, g5⟩ (k3 (by omega)) (by decide))
                     | (rw [hr124]; exact pz_sw_rng ⟨g4, g5⟩ (k3 (by omega)) (by decide))
                     | (rw [hr105]; exact pz_sw_rng ⟨g4, g5⟩ (k3 (by omega)) (by decide))
                     | (rw [hr87]; exact pz_sw_rng ⟨g4, g5⟩ (k3 (by omega)) (by decide))
                     | (rw [hr68]; exact pz_sw_rng ⟨g4, g5⟩ (k3 (by omega)) (k6 (by omega) (by omega) (by omega))))
                | (have := k6 (by omega) (by omega) (by omega); exact ⟨by omega, by omega⟩)
                | (have := k4 (by omega); exact ⟨⟨g0, g1⟩, ⟨by omega, by omega⟩, g4, g5⟩)) ?_
            refine ⟨?_, ?_⟩
            · intro c194
              refine And.intro (by
                first
                  | omega
                  | exact ⟨by omega, by omega⟩
                  | exact ⟨⟨by omega, by omega⟩, by omega, by omega⟩
                  | exact trivial
                  | exact ⟨⟨g0, g1⟩, ⟨by omega, by omega⟩, g4, g5⟩
                  | (refine ⟨⟨g0, g1⟩, ⟨by omega, by omega⟩, ?_⟩
                     first
                       | (rw [hr143]; exact pz_sw_rng ⟨g4, g5⟩ (k3 (by omega)) (by decide))
                       | (rw [hr124]; exact pz_sw_rng ⟨g4, g5⟩ (k3 (by omega)) (by decide))
                       | (rw [hr105]; exact pz_sw_rng ⟨g4, g5⟩ (k3 (by omega)) (by decide))
                       | (rw [hr87]; exact pz_sw_rng ⟨g4, g5⟩ (k3 (by omega)) (by decide))
                       | (rw [hr68]; exact pz_sw_rng ⟨g4, g5⟩ (k3 (by omega)) (k6 (by omega) (by omega) (by omega))))
                  | (have := k6 (by omega) (by omega) (by omega); exact ⟨by omega, by omega⟩)
                  | (have := k4 (by omega); exact ⟨⟨g0, g1⟩, ⟨by omega, by omega⟩, g4, g5⟩)) ?_
              intro r210 hr210
              refine gK _ ?_
              unfold cb_v
              first
                | (rw [if_pos c19_0, hr71, hr68]; done)
                | (rw [if_neg c19_0, if_pos c19_1, hr146, hr143, hr127, hr124, hr108, hr105, hr90, hr87]; done)
                | (rw [if_neg c19_0, if_neg c19_1, if_pos c19_2, if_neg c152, hr171]; done)
                | (rw [if_neg c19_0, if_neg c19_1, if_pos c19_2, if_pos c152]; done)
                | (rw [if_neg c19_0, if_neg c19_1, if_neg c19_2, if_pos c19_3, if_neg c176, hr188]; done)
                | (rw [if_neg c19_0, if_neg c19_1, if_neg c19_2, if_pos c19_3, if_pos c176]; done)
                | (rw [if_neg c19_0, if_neg c19_1, if_neg c19_2, if_neg c19_3, if_pos c19_4, if_neg c194, hr210]; done)
                | (rw [if_neg c19_0, if_neg c19_1, if_neg c19_2, if_neg c19_3, if_pos c19_4, if_pos c194, hr210]; done)
                | (rw [if_neg c19_0, if_neg c19_1, if_neg c19_2, if_neg c19_3, if_neg c19_4, if_pos c19_5, hr222]; done)
                | (rw [if_neg c19_0, if_neg c19_1, if_neg c19_2, if_neg c19_3, if_neg c19_4, if_neg c19_5]; done)
            · intro c194
              refine And.intro (by
                first
                  | omega
                  | exact ⟨by omega, by omega⟩
                  | exact ⟨⟨by omega, by omega⟩, by omega, by omega⟩
                  | exact trivial
                  | exact ⟨⟨g0, g1⟩, ⟨by omega, by omega⟩, g4, g5⟩
                  | (refine ⟨⟨g0, g1⟩, ⟨by omega, by omega⟩, ?_⟩
                     first
                       | (rw [hr143]; exact pz_sw_rng ⟨g4, g5⟩ (k3 (by omega)) (by decide))
                       | (rw [hr124]; exact pz_sw_rng ⟨g4, g5⟩ (k3 (by omega)) (by decide))
                       | (rw [hr105]; exact pz_sw_rng ⟨g4, g5⟩ (k3 (by omega)) (by decide))
                       | (rw [hr87]; exact pz_sw_rng ⟨g4, g5⟩ (k3 (by omega)) (by decide))
                       | (rw [hr68]; exact pz_sw_rng ⟨g4, g5⟩ (k3 (by omega)) (k6 (by omega) (by omega) (by omega))))
                  | (have := k6 (by omega) (by omega) (by omega); exact ⟨by omega, by omega⟩)
                  | (have := k4 (by omega); exact ⟨⟨g0, g1⟩, ⟨by omega, by omega⟩, g4, g5⟩)) ?_
              refine And.intro (by
                first
                  | omega
                  | exact ⟨by omega, by omega⟩
                  | exact ⟨⟨by omega, by omega⟩, by omega, by omega⟩
                  | exact trivial
                  | exact ⟨⟨g0, g1⟩, ⟨by omega, by omega⟩, g4, g5⟩
                  | (refine ⟨⟨g0, g1⟩, ⟨by omega, by omega⟩, ?_⟩
                     first
                       | (rw [hr143]; exact pz_sw_rng ⟨g4, g5⟩ (k3 (by omega)) (by decide))
                       | (rw [hr124]; exact pz_sw_rng ⟨g4, g5⟩ (k3 (by omega)) (by decide))
                       | (rw [hr105]; exact pz_sw_rng ⟨g4, g5⟩ (k3 (by omega)) (by decide))
                       | (rw [hr87]; exact pz_sw_rng ⟨g4, g5⟩ (k3 (by omega)) (by decide))
                       | (rw [hr68]; exact pz_sw_rng ⟨g4, g5⟩ (k3 (by omega)) (k6 (by omega) (by omega) (by omega))))
                  | (have := k6 (by omega) (by omega) (by omega); exact ⟨by omega, by omega⟩)
                  | (have := k4 (by omega); exact ⟨⟨g0, g1⟩, ⟨by omega, by omega⟩, g4, g5⟩)) ?_
              intro r210 hr210
              refine gK _ ?_
              unfold cb_v
              first
                | (rw [if_pos c19_0, hr71, hr68]; done)
                | (rw [if_neg c19_0, if_pos c19_1, hr146, hr143, hr127, hr124, hr108, hr105, hr90, hr87]; done)
                | (rw [if_neg c19_0, if_neg c19_1, if_pos c19_2, if_neg c152, hr171]; done)
                | (rw [if_neg c19_0, if_neg c19_1, if_pos c19_2, if_pos c152]; done)
                | (rw [if_neg c19_0, if_neg c19_1, if_neg c19_2, if_pos c19_3, if_neg c176, hr188]; done)
                | (rw [if_neg c19_0, if_neg c19_1, if_neg c19_2, if_pos c19_3, if_pos c176]; done)
                | (rw [if_neg c19_0, if_neg c19_1, if_neg c19_2, if_neg c19_3, if_pos c19_4, if_neg c194, hr210]; done)
                | (rw [if_neg c19_0, if_neg c19_1, if_neg c19_2, if_neg c19_3, if_pos c19_4, if_pos c194, hr210]; done)
                | (rw [if_neg c19_0, if_neg c19_1, if_neg c19_2, if_neg c19_3, if_neg c19_4, if_pos c19_5, hr222]; done)
                | (rw [if_neg c19_0, if_neg c19_1, if_neg c19_2, if_neg c19_3, if_neg c19_4, if_neg c19_5]; done)
          · intro c19_4
            refine ⟨?_, ?_⟩
            · intro c19_5
              refine And.intro (by
                first
                  | omega
                  | exact ⟨by omega, by omega⟩
                  | exact ⟨⟨by omega, by omega⟩, by omega, by omega⟩
                  | exact trivial
                  | exact ⟨⟨g0, g1⟩, ⟨by omega, by omega⟩, g4, g5⟩
                  | (refine ⟨⟨g0, g1⟩, ⟨by omega, by omega⟩, ?_⟩
                     first
                       | (rw [hr143]; exact pz_sw_rng ⟨g4, g5⟩ (k3 (by omega)) (by decide))
                       | (rw [hr124]; exact pz_sw_rng ⟨g4, g5⟩ (k3 (by omega)) (by decide))
                       | (rw [hr105]; exact pz_sw_rng ⟨g4, g5⟩ (k3 (by omega)) (by decide))
                       | (rw [hr87]; exact pz_sw_rng ⟨g4, g5⟩ (k3 (by omega)) (by decide))
                       | (rw [hr68]; exact pz_sw_rng ⟨g4, g5⟩ (k3 (by omega)) (k6 (by omega) (by omega) (by omega))))
                  | (have := k6 (by omega) (by omega) (by omega); exact ⟨by omega, by omega⟩)
                  | (have := k4 (by omega); exact ⟨⟨g0, g1⟩, ⟨by omega, by omega⟩, g4, g5⟩)) ?_
              refine And.intro (by
                first
                  | omega
                  | exact ⟨by omega, by omega⟩
                  | exact ⟨⟨by omega, by omega⟩, by omega, by omega⟩
                  | exact trivial
                  | exact ⟨⟨g0, g1⟩, ⟨by omega, by omega⟩, g4, g5⟩
                  | (refine ⟨⟨g0, g1⟩, ⟨by omega, by omega⟩, ?_⟩
                     first
                       | (rw [hr143]; exact pz_sw_rng ⟨g4, g5⟩ (k3 (by omega)) (by decide))
                       | (rw [hr124]; exact pz_sw_rng ⟨g4, g5⟩ (k3 (by omega)) (by decide))
                       | (rw [hr105]; exact pz_sw_rng ⟨g4, g5⟩ (k3 (by omega)) (by decide))
                       | (rw [hr87]; exact pz_sw_rng ⟨g4, g5⟩ (k3 (by omega)) (by decide))
                       | (rw [hr68]; exact pz_sw_rng ⟨g4, g5⟩ (k3 (by omega)) (k6 (by omega) (by omega) (by omega))))
                  | (have := k6 (by omega) (by omega) (by omega); exact ⟨by omega, by omega⟩)
                  | (have := k4 (by omega); exact ⟨⟨g0, g1⟩, ⟨by omega, by omega⟩, g4, g5⟩)) ?_
              intro r222 hr222
              refine gK _ ?_
              unfold cb_v
              first
                | (rw [if_pos c19_0, hr71, hr68]; done)
                | (rw [if_neg c19_0, if_pos c19_1, hr146, hr143, hr127, hr124, hr108, hr105, hr90, hr87]; done)
                | (rw [if_neg c19_0, if_neg c19_1, if_pos c19_2, if_neg c152, hr171]; done)
                | (rw [if_neg c19_0, if_neg c19_1, if_pos c19_2, if_pos c152]; done)
                | (rw [if_neg c19_0, if_neg c19_1, if_neg c19_2, if_pos c19_3, if_neg c176, hr188]; done)
                | (rw [if_neg c19_0, if_neg c19_1, if_neg c19_2, if_pos c19_3, if_pos c176]; done)
                | (rw [if_neg c19_0, if_neg c19_1, if_neg c19_2, if_neg c19_3, if_pos c19_4, if_neg c194, hr210]; done)
                | (rw [if_neg c19_0, if_neg c19_1, if_neg c19_2, if_neg c19_3, if_pos c19_4, if_pos c194, hr210]; done)
                | (rw [if_neg c19_0, if_neg c19_1, if_neg c19_2, if_neg c19_3, if_neg c19_4, if_pos c19_5, hr222]; done)
                | (rw [if_neg c19_0, if_neg c19_1, if_neg c19_2, if_neg c19_3, if_neg c19_4, if_neg c19_5]; done)
            · intro c19_5
              refine gK _ ?_
              unfold cb_v
              first
                | (rw [if_pos c19_0, hr71, hr68]; done)
                | (rw [if_neg c19_0, if_pos c19_1, hr146, hr143, hr127, hr124, hr108, hr105, hr90, hr87]; done)
                | (rw [if_neg c19_0, if_neg c19_1, if_pos c19_2, if_neg c152, hr171]; done)
                | (rw [if_neg c19_0, if_neg c19_1, if_pos c19_2, if_pos c152]; done)
                | (rw [if_neg c19_0, if_neg c19_1, if_neg c19_2, if_pos c19_3, if_neg c176, hr188]; done)
                | (rw [if_neg c19_0, if_neg c19_1, if_neg c19_2, if_pos c19_3, if_pos c176]; done)
                | (rw [if_neg c19_0, if_neg c19_1, if_neg c19_2, if_neg c19_3, if_pos c19_4, if_neg c194, hr210]; done)
                | (rw [if_neg c19_0, if_neg c19_1, if_neg c19_2, if_neg c19_3, if_pos c19_4, if_pos c194, hr210]; done)
                | (rw [if_neg c19_0, if_neg c19_1, if_neg c19_2, if_neg c19_3, if_neg c19_4, if_pos c19_5, hr222]; done)
                | (rw [if_neg c19_0, if_neg c19_1, if_neg c19_2, if_neg c19_3, if_neg c19_4, if_neg c19_5]; done)

set_option maxRecDepth 20000 in
set_option maxHeartbeats 1000000 in
theorem ok_X9_canBy (E : ab_E) : ab_Ok E 2 123 S_X9_canBy := by
  refine ab_mk rq_X9_canBy tk_X9_canBy (rt := 1) (rfl) (cuts := []) (G := [(124, S_X9_canFrom), (191, S_X9_with)]) (List.forall_mem_cons.mpr ⟨⟨1, by decide, ok_X9_canFrom E⟩, List.forall_mem_cons.mpr ⟨⟨1, by decide, ok_X9_with E⟩, fun _ h => absurd h List.not_mem_nil⟩⟩) (by decide) 180 rfl ?_
  intro a M K wd wa hS
  unfold S_X9_canBy at hS
  split at hS
  ·
    rename_i row s
    refine ⟨Nat.le_of_ble_eq_true rfl, fun _ _ _ _ _ => False, ?_, ?_⟩
    · exact vc_X9_canBy_0 row s M K  hS
    · exact fun _ _ _ _ _ h => h.elim
  · exact hS.elim
