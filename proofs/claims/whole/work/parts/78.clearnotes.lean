/-! the notes are cleared -/
def S_X3_clearNotes : ab_PT := fun a M K => match a with
  | [.inr (.inr (.inr (768, 3, 0)))] => ((vl_T M ∧ tv_ok M) ∧ (M 769 3 = 0 ∨ M 769 3 = 1 ∧ vl_V M M (M 26 11)) ∧ ∀ k : Nat, 33280 ≤ k → M 774 k = 0) ∧ (∀ Mx : ab_M, (Mx 769 3 = 1 ∧ vl_V M Mx (M 26 11) ∧ tv_ok Mx ∧ (∀ k : Nat, Mx 774 k = 0) ∧ (∀ o' k' : Nat, ¬ (o' = 770 ∨ o' = 771 ∨ o' = 774 ∨ o' = 769 ∧ k' = 3) → Mx o' k' = M o' k')) → K [] Mx)
  | _ => False
set_option maxRecDepth 20000 in
theorem vc_X3_clearNotes_0  (M : ab_M) (K : List ab_V → ab_M → Prop) (hS : ((vl_T M ∧ tv_ok M) ∧ (M 769 3 = 0 ∨ M 769 3 = 1 ∧ vl_V M M (M 26 11)) ∧ ∀ k : Nat, 33280 ≤ k → M 774 k = 0) ∧ (∀ Mx : ab_M, (Mx 769 3 = 1 ∧ vl_V M Mx (M 26 11) ∧ tv_ok Mx ∧ (∀ k : Nat, Mx 774 k = 0) ∧ (∀ o' k' : Nat, ¬ (o' = 770 ∨ o' = 771 ∨ o' = 774 ∨ o' = 769 ∧ k' = 3) → Mx o' k' = M o' k')) → K [] Mx)) : ((vl_T M ∧ tv_ok M) ∧ (M 769 3 = 0 ∨ M 769 3 = 1 ∧ vl_V M M (M 26 11))) ∧ (∀ M4 : ab_M, (M4 769 3 = 1 ∧ vl_V M M4 (M 26 11) ∧ tv_ok M4 ∧ (∀ o' k' : Nat, ¬ (o' = 770 ∨ o' = 771 ∨ o' = 769 ∧ k' = 3) → M4 o' k' = M o' k')) → (33280 ≤ 65536) ∧ (∀ M12 : ab_M, (∀ o' k' : Nat, M12 o' k' = if o' = 774 ∧ k' < 33280 then (0 : Int) else M4 o' k') → K [] M12)) := by
  obtain ⟨⟨gp, gp2, gz⟩, gK⟩ := hS
  refine And.intro (by
    first
      | exact ⟨gp, gp2⟩
      | trivial
      | decide
      | omega) ?_
  intro M4 hM4
  refine And.intro (by
    first
      | exact ⟨gp, gp2⟩
      | trivial
      | decide
      | omega) ?_
  intro M12 hM12
  obtain ⟨h1, h2, h3, h4⟩ := hM4
  have e : ∀ o' k' : Nat, ¬ o' = 774 → M12 o' k' = M4 o' k' := fun o' k' q => by rw [hM12, if_neg (fun z => q z.1)]
  have hz774 : ∀ k, M4 774 k = M 774 k := fun k => h4 774 k (by omega)
  refine gK _ ⟨?_, ?_, ?_, ?_, ?_⟩
  · rw [e _ _ (by decide)]; exact h1
  · intro k s a b
    rw [e _ _ (by decide)]; exact h2 k s a b
  · intro k
    rw [e _ _ (by decide)]; exact h3 k
  · intro k
    rw [hM12]
    by_cases hk : k < 33280
    · rw [if_pos ⟨rfl, hk⟩]
    · rw [if_neg (fun z => hk z.2)]
      exact (hz774 k).trans (gz k (by omega))
  · intro o' k' q
    rw [e _ _ (by omega)]
    exact h4 o' k' (by omega)

set_option maxRecDepth 20000 in
set_option maxHeartbeats 1000000 in
theorem ok_X3_clearNotes (E : ab_E) : ab_Ok E 5 49 S_X3_clearNotes := by
  refine ab_mk rq_X3_clearNotes tk_X3_clearNotes (rt := 0) (rfl) (cuts := []) (G := [(200, S_J7_fill_53178), (84, S_X7_prepare)]) (List.forall_mem_cons.mpr ⟨⟨1, by decide, ok_J7_fill_53178 E⟩, List.forall_mem_cons.mpr ⟨⟨4, by decide, ok_X7_prepare E⟩, fun _ h => absurd h List.not_mem_nil⟩⟩) (by decide) 58 rfl ?_
  intro a M K wd wa hS
  unfold S_X3_clearNotes at hS
  split at hS
  ·
    refine ⟨Nat.le_of_ble_eq_true rfl, fun _ _ _ _ _ => False, ?_, ?_⟩
    · exact vc_X3_clearNotes_0  M K  hS
    · exact fun _ _ _ _ _ h => h.elim
  · exact hS.elim
