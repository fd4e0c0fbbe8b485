/-! a state is come to -/
/-- a state is come to -/
def ce_s (M : ab_M) (row s : Int) : ab_M :=
  if row = M 797 49 then ab_up M 829 s.toNat (M 797 44)
  else if row = -1 then ab_up M 830 s.toNat (M 797 44)
  else if (M 797 48 ≤ row ∧ row ≤ M 797 49) ∧ M 827 (256 * row + s).toNat ≠ M 797 44 then ab_up (ab_up (ab_up M 827 (256 * row + s).toNat (M 797 44)) 828 (M 797 46).toNat (256 * row + s)) 797 46 (M 797 46 + 1)
  else M

def S_X9_come : ab_PT := fun a M K => match a with
  | [.inr (.inr (.inr (797, 9, 0))), .inr (.inl row), .inr (.inl s)] => ((ab_ir row ∧ (0 ≤ s ∧ s < 256)) ∧ (0 ≤ M 797 48 ∧ M 797 49 ≤ 256 ∧ ab_ir (M 797 48) ∧ ab_ir (M 797 49)) ∧ ab_ir (M 797 44) ∧ (∀ j, ab_ir (M 827 j)) ∧ (M 797 48 ≤ row → row < M 797 49 → M 827 (256 * row + s).toNat ≠ M 797 44 → 0 ≤ M 797 46 ∧ M 797 46 < 65536)) ∧ (∀ Mx : ab_M, (Mx = ce_s M row s) → K [] Mx)
  | _ => False
set_option maxRecDepth 20000 in
theorem vc_X9_come_0 (row : Int) (s : Int) (M : ab_M) (K : List ab_V → ab_M → Prop) (hS : ((ab_ir row ∧ (0 ≤ s ∧ s < 256)) ∧ (0 ≤ M 797 48 ∧ M 797 49 ≤ 256 ∧ ab_ir (M 797 48) ∧ ab_ir (M 797 49)) ∧ ab_ir (M 797 44) ∧ (∀ j, ab_ir (M 827 j)) ∧ (M 797 48 ≤ row → row < M 797 49 → M 827 (256 * row + s).toNat ≠ M 797 44 → 0 ≤ M 797 46 ∧ M 797 46 < 65536)) ∧ (∀ Mx : ab_M, (Mx = ce_s M row s) → K [] Mx)) : (ab_ir row ∧ ab_ir (M 797 49)) ∧ ((¬ row = (M 797 49) → (ab_ir row ∧ ab_ir (-1 : Int)) ∧ ((¬ row = (-1 : Int) → (ab_ir row ∧ ab_ir (M 797 48) ∧ ab_ir (M 797 49)) ∧ (∀ r48 : Int, (r48 = if (M 797 48) ≤ row ∧ row ≤ (M 797 49) then 1 else 0) → (ab_ir r48) ∧ ((r48 = 0 → K [] M) ∧ (¬ r48 = 0 → (-32768 ≤ (256 : Int) ∧ (256 : Int) < 32768) ∧ (0 ≤ (((256 : Int) * row) + s) ∧ (((256 : Int) * row) + s) < ((65536 : Nat) : Int)) ∧ (ab_ir (M 827 ((((256 : Int) * row) + s).toNat)) ∧ ab_ir (M 797 44)) ∧ (((M 827 ((((256 : Int) * row) + s).toNat)) = (M 797 44) → K [] M) ∧ (¬ (M 827 ((((256 : Int) * row) + s).toNat)) = (M 797 44) → (-32768 ≤ (256 : Int) ∧ (256 : Int) < 32768) ∧ (0 ≤ (((256 : Int) * row) + s) ∧ (((256 : Int) * row) + s) < ((65536 : Nat) : Int)) ∧ (-32768 ≤ (256 : Int) ∧ (256 : Int) < 32768) ∧ (0 ≤ (M 797 46) ∧ (M 797 46) < ((65536 : Nat) : Int)) ∧ K [] (ab_up (ab_up (ab_up M 827 ((((256 : Int) * row) + s).toNat) (M 797 44)) 828 ((M 797 46).toNat) (((256 : Int) * row) + s)) 797 46 ((M 797 46) + (1 : Int))))))))) ∧ (row = (-1 : Int) → (0 ≤ s ∧ s < ((256 : Nat) : Int)) ∧ K [] (ab_up M 830 s.toNat (M 797 44))))) ∧ (row = (M 797 49) → (0 ≤ s ∧ s < ((256 : Nat) : Int)) ∧ K [] (ab_up M 829 s.toNat (M 797 44)))) := by
  obtain ⟨⟨⟨gr, gs0, gs1⟩, ⟨ga, gb, gc, gd⟩, ge, gf, gg⟩, gK⟩ := hS
  refine And.intro (by
    first
      | omega
      | exact ⟨gr, gd⟩
      | exact ⟨gr, gc, gd⟩
      | exact ⟨gf _, ge⟩
      | exact ⟨gr, by decide, by decide⟩
      | exact ⟨by omega, by omega⟩
      | (exact gg (by omega) (by omega) (by assumption))
      | (split <;> exact ⟨by decide, by decide⟩)) ?_
  refine ⟨?_, ?_⟩
  · intro c5
    refine And.intro (by
      first
        | omega
        | exact ⟨gr, gd⟩
        | exact ⟨gr, gc, gd⟩
        | exact ⟨gf _, ge⟩
        | exact ⟨gr, by decide, by decide⟩
        | exact ⟨by omega, by omega⟩
        | (exact gg (by omega) (by omega) (by assumption))
        | (split <;> exact ⟨by decide, by decide⟩)) ?_
    refine ⟨?_, ?_⟩
    · intro c23
      refine And.intro (by
        first
          | omega
          | exact ⟨gr, gd⟩
          | exact ⟨gr, gc, gd⟩
          | exact ⟨gf _, ge⟩
          | exact ⟨gr, by decide, by decide⟩
          | exact ⟨by omega, by omega⟩
          | (exact gg (by omega) (by omega) (by assumption))
          | (split <;> exact ⟨by decide, by decide⟩)) ?_
      intro r48 hr48
      refine And.intro (by
        first
          | omega
          | exact ⟨gr, gd⟩
          | exact ⟨gr, gc, gd⟩
          | exact ⟨gf _, ge⟩
          | exact ⟨gr, by decide, by decide⟩
          | exact ⟨by omega, by omega⟩
          | (exact gg (by omega) (by omega) (by assumption))
          | (split <;> exact ⟨by decide, by decide⟩)) ?_
      refine ⟨?_, ?_⟩
      · intro c51
        rw [hr48] at c51
        rw [ab_bf] at c51
        clear hr48 r48
        refine gK _ ?_
        unfold ce_s
        first
          | (rw [if_pos (by assumption)]; done)
          | (rw [if_neg (by assumption), if_pos (by assumption)]; done)
          | (rw [if_neg (by assumption), if_neg (by assumption), if_pos ⟨by assumption, by assumption⟩]; done)
          | (rw [if_neg (by assumption), if_neg (by assumption), if_neg (fun z => z.2 (by assumption))]; done)
          | (rw [if_neg (by assumption), if_neg (by assumption), if_neg (fun z => by have := z.1; omega)]; done)
      · intro c51
        rw [hr48] at c51
        rw [ab_bt] at c51
        clear hr48 r48
        refine And.intro (by
          first
            | omega
            | exact ⟨gr, gd⟩
            | exact ⟨gr, gc, gd⟩
            | exact ⟨gf _, ge⟩
            | exact ⟨gr, by decide, by decide⟩
            | exact ⟨by omega, by omega⟩
            | (exact gg (by omega) (by omega) (by assumption))
            | (split <;> exact ⟨by decide, by decide⟩)) ?_
        refine And.intro (by
          first
            | omega
            | exact ⟨gr, gd⟩
            | exact ⟨gr, gc, gd⟩
            | exact ⟨gf _, ge⟩
            | exact ⟨gr, by decide, by decide⟩
            | exact ⟨by omega, by omega⟩
            | (exact gg (by omega) (by omega) (by assumption))
            | (split <;> exact ⟨by decide, by decide⟩)) ?_
        refine And.intro (by
          first
            | omega
            | exact ⟨gr, gd⟩
            | exact ⟨gr, gc, gd⟩
            | exact ⟨gf _, ge⟩
            | exact ⟨gr, by decide, by decide⟩
            | exact ⟨by omega, by omega⟩
            | (exact gg (by omega) (by omega) (by assumption))
            | (split <;> exact ⟨by decide, by decide⟩)) ?_
        refine ⟨?_, ?_⟩
        · intro c70
          refine gK _ ?_
          unfold ce_s
          first
            | (rw [if_pos (by assumption)]; done)
            | (rw [if_neg (by assumption), if_pos (by assumption)]; done)
            | (rw [if_neg (by assumption), if_neg (by assumption), if_pos ⟨by assumption, by assumption⟩]; done)
            | (rw [if_neg (by assumption), if_neg (by assumption), if_neg (fun z => z.2 (by assumption))]; done)
            | (rw [if_neg (by assumption), if_neg (by assumption), if_neg (fun z => by have := z.1; omega)]; done)
        · intro c70
          refine And.intro (by
            first
              | omega
              | exact ⟨gr, gd⟩
              | exact ⟨gr, gc, gd⟩
              | exact ⟨gf _, ge⟩
              | exact ⟨gr, by decide, by decide⟩
              | exact ⟨by omega, by omega⟩
              | (exact gg (by omega) (by omega) (by assumption))
              | (split <;> exact ⟨by decide, by decide⟩)) ?_
          refine And.intro (by
            first
              | omega
              | exact ⟨gr, gd⟩
              | exact ⟨gr, gc, gd⟩
              | exact ⟨gf _, ge⟩
              | exact ⟨gr, by decide, by decide⟩
              | exact ⟨by omega, by omega⟩
              | (exact gg (by omega) (by omega) (by assumption))
              | (split <;> exact ⟨by decide, by decide⟩)) ?_
          refine And.intro (by
            first
              | omega
              | exact ⟨gr, gd⟩
              | exact ⟨gr, gc, gd⟩
              | exact ⟨gf _, ge⟩
              | exact ⟨gr, by decide, by decide⟩
              | exact ⟨by omega, by omega⟩
              | (exact gg (by omega) (by omega) (by assumption))
              | (split <;> exact ⟨by decide, by decide⟩)) ?_
          refine And.intro (by
            first
              | omega
              | exact ⟨gr, gd⟩
              | exact ⟨gr, gc, gd⟩
              | exact ⟨gf _, ge⟩
              | exact ⟨gr, by decide, by decide⟩
              | exact ⟨by omega, by omega⟩
              | (exact gg (by omega) (by omega) (by assumption))
              | (split <;> exact ⟨by decide, by decide⟩)) ?_
          refine gK _ ?_
          unfold ce_s
          first
            | (rw [if_pos (by assumption)]; done)
            | (rw [if_neg (by assumption), if_pos (by assumption)]; done)
            | (rw [if_neg (by assumption), if_neg (by assumption), if_pos ⟨by assumption, by assumption⟩]; done)
            | (rw [if_neg (by assumption), if_neg (by assumption), if_neg (fun z => z.2 (by assumption))]; done)
            | (rw [if_neg (by assumption), if_neg (by assumption), if_neg (fun z => by have := z.1; omega)]; done)
    · intro c23
      refine And.intro (by
        first
          | omega
          | exact ⟨gr, gd⟩
          | exact ⟨gr, gc, gd⟩
          | exact ⟨gf _, ge⟩
          | exact ⟨gr, by decide, by decide⟩
          | exact ⟨by omega, by omega⟩
          | (exact gg (by omega) (by omega) (by assumption))
          | (split <;> exact ⟨by decide, by decide⟩)) ?_
      refine gK _ ?_
      unfold ce_s
      first
        | (rw [if_pos (by assumption)]; done)
        | (rw [if_neg (by assumption), if_pos (by assumption)]; done)
        | (rw [if_neg (by assumption), if_neg (by assumption), if_pos ⟨by assumption, by assumption⟩]; done)
        | (rw [if_neg (by assumption), if_neg (by assumption), if_neg (fun z => z.2 (by assumption))]; done)
        | (rw [if_neg (by assumption), if_neg (by assumption), if_neg (fun z => by have := z.1; omega)]; done)
  · intro c5
    refine And.intro (by
      first
        | omega
        | exact ⟨gr, gd⟩
        | exact ⟨gr, gc, gd⟩
        | exact ⟨gf _, ge⟩
        | exact ⟨gr, by decide, by decide⟩
        | exact ⟨by omega, by omega⟩
        | (exact gg (by omega) (by omega) (by assumption))
        | (split <;> exact ⟨by decide, by decide⟩)) ?_
    refine gK _ ?_
    unfold ce_s
    first
      | (rw [if_pos (by assumption)]; done)
      | (rw [if_neg (by assumption), if_pos (by assumption)]; done)
      | (rw [if_neg (by assumption), if_neg (by assumption), if_pos ⟨by assumption, by assumption⟩]; done)
      | (rw [if_neg (by assumption), if_neg (by assumption), if_neg (fun z => z.2 (by assumption))]; done)
      | (rw [if_neg (by assumption), if_neg (by assumption), if_neg (fun z => by have := z.1; omega)]; done)

set_option maxRecDepth 20000 in
set_option maxHeartbeats 1000000 in
theorem ok_X9_come (E : ab_E) : ab_Ok E 2 127 S_X9_come := by
  refine ab_mk rq_X9_come tk_X9_come (rt := 0) (rfl) (cuts := []) (G := [(145, S_X9_in)]) (List.forall_mem_cons.mpr ⟨⟨1, by decide, ok_X9_in E⟩, fun _ h => absurd h List.not_mem_nil⟩) (by decide) 116 rfl ?_
  intro a M K wd wa hS
  unfold S_X9_come at hS
  split at hS
  ·
    rename_i row s
    refine ⟨Nat.le_of_ble_eq_true rfl, fun _ _ _ _ _ => False, ?_, ?_⟩
    · exact vc_X9_come_0 row s M K  hS
    · exact fun _ _ _ _ _ h => h.elim
  · exact hS.elim
