/-! what a run can do, as the class keeps it -/
def S_X3_can : ab_PT := fun a M K => match a with
  | [.inr (.inr (.inr (768, 3, 0))), .inr (.inl cut), .inr (.inl zz), .inr (.inl bit)] => (True) ∧ (∀ rx : Int, (rx = if ¬ ab_and (M 775 (ab_and cut 1 * 256 + ab_and zz 255).toNat) (ab_shl 1 bit) = 0 then 1 else 0) → K [Xi rx] M)
  | _ => False
set_option maxRecDepth 20000 in
theorem vc_X3_can_0 (cut : Int) (zz : Int) (bit : Int) (M : ab_M) (K : List ab_V → ab_M → Prop) (hS : (True) ∧ (∀ rx : Int, (rx = if ¬ ab_and (M 775 (ab_and cut 1 * 256 + ab_and zz 255).toNat) (ab_shl 1 bit) = 0 then 1 else 0) → K [Xi rx] M)) : (-32768 ≤ (256 : Int) ∧ (256 : Int) < 32768) ∧ (-32768 ≤ (255 : Int) ∧ (255 : Int) < 32768) ∧ (0 ≤ (((ab_and cut (1 : Int)) * (256 : Int)) + (ab_and zz (255 : Int))) ∧ (((ab_and cut (1 : Int)) * (256 : Int)) + (ab_and zz (255 : Int))) < ((512 : Nat) : Int)) ∧ (ab_ir (ab_and (M 775 ((((ab_and cut (1 : Int)) * (256 : Int)) + (ab_and zz (255 : Int))).toNat)) (ab_shl (1 : Int) bit))) ∧ (((ab_and (M 775 ((((ab_and cut (1 : Int)) * (256 : Int)) + (ab_and zz (255 : Int))).toNat)) (ab_shl (1 : Int) bit)) = 0 → ((0 : Int) = 0 ∨ (0 : Int) = 1) ∧ K [Xi (0 : Int)] M) ∧ (¬ (ab_and (M 775 ((((ab_and cut (1 : Int)) * (256 : Int)) + (ab_and zz (255 : Int))).toNat)) (ab_shl (1 : Int) bit)) = 0 → ((1 : Int) = 0 ∨ (1 : Int) = 1) ∧ K [Xi (1 : Int)] M)) := by
  obtain ⟨-, gK⟩ := hS
  have h1 := pz_and_r cut (b := 1) (by decide) (by decide)
  have h2 := pz_and_r zz (b := 255) (by decide) (by decide)
  refine And.intro (by
    first
      | omega
      | exact ⟨by omega, by omega⟩
      | exact ⟨Int32.le_toInt _, Int32.toInt_lt _⟩) ?_
  refine And.intro (by
    first
      | omega
      | exact ⟨by omega, by omega⟩
      | exact ⟨Int32.le_toInt _, Int32.toInt_lt _⟩) ?_
  refine And.intro (by
    first
      | omega
      | exact ⟨by omega, by omega⟩
      | exact ⟨Int32.le_toInt _, Int32.toInt_lt _⟩) ?_
  refine And.intro (by
    first
      | omega
      | exact ⟨by omega, by omega⟩
      | exact ⟨Int32.le_toInt _, Int32.toInt_lt _⟩) ?_
  refine ⟨?_, ?_⟩
  · intro c22
    refine And.intro (by
      first
        | omega
        | exact ⟨by omega, by omega⟩
        | exact ⟨Int32.le_toInt _, Int32.toInt_lt _⟩) ?_
    refine gK _ ?_
    first
      | (rw [if_pos (by assumption)]; done)
      | (rw [if_neg (fun q => q (by assumption))]; done)
  · intro c22
    refine And.intro (by
      first
        | omega
        | exact ⟨by omega, by omega⟩
        | exact ⟨Int32.le_toInt _, Int32.toInt_lt _⟩) ?_
    refine gK _ ?_
    first
      | (rw [if_pos (by assumption)]; done)
      | (rw [if_neg (fun q => q (by assumption))]; done)

set_option maxRecDepth 20000 in
set_option maxHeartbeats 1000000 in
theorem ok_X3_can (E : ab_E) : ab_Ok E 1 48 S_X3_can := by
  refine ab_mk rq_X3_can tk_X3_can (rt := 2) (rfl) (cuts := []) (G := []) (fun g hg => by cases hg) (by decide) 71 rfl ?_
  intro a M K wd wa hS
  unfold S_X3_can at hS
  split at hS
  ·
    rename_i cut zz bit
    refine ⟨Nat.le_of_ble_eq_true rfl, fun _ _ _ _ _ => False, ?_, ?_⟩
    · exact vc_X3_can_0 cut zz bit M K  hS
    · exact fun _ _ _ _ _ h => h.elim
  · exact hS.elim
