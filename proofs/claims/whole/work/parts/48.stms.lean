/-! the class: a statement -/
/-- the checks, the loop of a statement noted -/
def cr_ac (M : ab_M) (p s : Nat) (row : Int) : ab_M :=
  if M s 0 = 119 then ab_up (ab_up (ab_up (ab_up (ab_up (ab_up (ab_up (ab_up M s 4 (M p 6)) s 5 (M p 8)) (p + 366) (M p 8).toNat row) p 8 (M p 8 + 1)) (p + 365) (M p 6).toNat 1) p 6 (M p 6 + 1)) (p + 365) (M p 6 + 1).toNat 2) p 6 (M p 6 + 1 + 1)
  else if M s 0 = 107 ∨ M s 0 = 112 then ab_up (ab_up (ab_up M s 4 (M p 6)) (p + 365) (M p 6).toNat (if M s 0 = 107 then 0 else 3)) p 6 (M p 6 + 1)
  else M

def S_X2_isAllowed : ab_PT := fun a M K => match a with
  | [.inr (.inr (.inr (764, 2, 0)))] => ((∃ o p, cr_ok o p M ∧ 0 ≤ M p 3 ∧ M p 3 < 120 ∧ 0 ≤ M p 6 ∧ M p 6 ≤ 16 ∧ 0 ≤ M p 8 ∧ M p 8 ≤ 4) ∧ ab_ir (M 764 3) ∧ 0 ≤ M 764 9 ∧ M 764 9 ≤ 130) ∧ (∀ rx : Int, (rx = if (M 764 3 = 107 ∨ M 764 3 = 112) ∧ M (M 764 1).toNat 6 < 16 ∨ M 764 3 = 119 ∧ M (M 764 1).toNat 6 + 1 < 16 ∧ M (M 764 1).toNat 8 < 4 ∧ M 764 9 < 2 ∨ M 764 3 = 104 ∨ M 764 3 = 115 ∨ M 764 3 = 116 ∨ M 764 3 = 105 ∨ M 764 3 = 121 ∨ 97 ≤ M 764 3 ∧ M 764 3 ≤ 100 then 1 else 0) → K [Xi rx] M)
  | _ => False
set_option maxRecDepth 20000 in
theorem vc_X2_isAllowed_0  (M : ab_M) (K : List ab_V → ab_M → Prop) (hS : ((∃ o p, cr_ok o p M ∧ 0 ≤ M p 3 ∧ M p 3 < 120 ∧ 0 ≤ M p 6 ∧ M p 6 ≤ 16 ∧ 0 ≤ M p 8 ∧ M p 8 ≤ 4) ∧ ab_ir (M 764 3) ∧ 0 ≤ M 764 9 ∧ M 764 9 ≤ 130) ∧ (∀ rx : Int, (rx = if (M 764 3 = 107 ∨ M 764 3 = 112) ∧ M (M 764 1).toNat 6 < 16 ∨ M 764 3 = 119 ∧ M (M 764 1).toNat 6 + 1 < 16 ∧ M (M 764 1).toNat 8 < 4 ∧ M 764 9 < 2 ∨ M 764 3 = 104 ∨ M 764 3 = 115 ∨ M 764 3 = 116 ∨ M 764 3 = 105 ∨ M 764 3 = 121 ∨ 97 ≤ M 764 3 ∧ M 764 3 ≤ 100 then 1 else 0) → K [Xi rx] M)) : (0 ≤ (M 764 1) ∧ ab_wf (Xr ((M 764 1).toNat) 1 0)) ∧ (-128 ≤ (120 : Int) ∧ (120 : Int) < 128) ∧ (ab_ir (M ((M 764 1).toNat) 3) ∧ ab_ir (120 : Int)) ∧ (((M ((M 764 1).toNat) 3) < (120 : Int) → (ab_ir (M 764 3)) ∧ (((M 764 3) = 104 → ((1 : Int) = 0 ∨ (1 : Int) = 1) ∧ K [Xi (1 : Int)] M) ∧ (¬ (M 764 3) = 104 → (((M 764 3) = 105 → ((1 : Int) = 0 ∨ (1 : Int) = 1) ∧ K [Xi (1 : Int)] M) ∧ (¬ (M 764 3) = 105 → (((M 764 3) = 107 → (0 ≤ (M 764 1) ∧ ab_wf (Xr ((M 764 1).toNat) 1 0)) ∧ (-128 ≤ (16 : Int) ∧ (16 : Int) < 128) ∧ (ab_ir (M ((M 764 1).toNat) 6) ∧ ab_ir (16 : Int)) ∧ (((16 : Int) ≤ (M ((M 764 1).toNat) 6) → ((0 : Int) = 0 ∨ (0 : Int) = 1) ∧ K [Xi (0 : Int)] M) ∧ ((M ((M 764 1).toNat) 6) < (16 : Int) → ((1 : Int) = 0 ∨ (1 : Int) = 1) ∧ K [Xi (1 : Int)] M))) ∧ (¬ (M 764 3) = 107 → (((M 764 3) = 112 → (0 ≤ (M 764 1) ∧ ab_wf (Xr ((M 764 1).toNat) 1 0)) ∧ (-128 ≤ (16 : Int) ∧ (16 : Int) < 128) ∧ (ab_ir (M ((M 764 1).toNat) 6) ∧ ab_ir (16 : Int)) ∧ (((16 : Int) ≤ (M ((M 764 1).toNat) 6) → ((0 : Int) = 0 ∨ (0 : Int) = 1) ∧ K [Xi (0 : Int)] M) ∧ ((M ((M 764 1).toNat) 6) < (16 : Int) → ((1 : Int) = 0 ∨ (1 : Int) = 1) ∧ K [Xi (1 : Int)] M))) ∧ (¬ (M 764 3) = 112 → (((M 764 3) = 115 → ((1 : Int) = 0 ∨ (1 : Int) = 1) ∧ K [Xi (1 : Int)] M) ∧ (¬ (M 764 3) = 115 → (((M 764 3) = 116 → ((1 : Int) = 0 ∨ (1 : Int) = 1) ∧ K [Xi (1 : Int)] M) ∧ (¬ (M 764 3) = 116 → (((M 764 3) = 119 → (0 ≤ (M 764 1) ∧ ab_wf (Xr ((M 764 1).toNat) 1 0)) ∧ (-128 ≤ (16 : Int) ∧ (16 : Int) < 128) ∧ (ab_ir ((M ((M 764 1).toNat) 6) + (1 : Int)) ∧ ab_ir (16 : Int)) ∧ (((16 : Int) ≤ ((M ((M 764 1).toNat) 6) + (1 : Int)) → ((0 : Int) = 0 ∨ (0 : Int) = 1) ∧ K [Xi (0 : Int)] M) ∧ (((M ((M 764 1).toNat) 6) + (1 : Int)) < (16 : Int) → (0 ≤ (M 764 1) ∧ ab_wf (Xr ((M 764 1).toNat) 1 0)) ∧ (ab_ir (M ((M 764 1).toNat) 8) ∧ ab_ir (4 : Int)) ∧ (((4 : Int) ≤ (M ((M 764 1).toNat) 8) → ((0 : Int) = 0 ∨ (0 : Int) = 1) ∧ K [Xi (0 : Int)] M) ∧ ((M ((M 764 1).toNat) 8) < (4 : Int) → (ab_ir (M 764 9) ∧ ab_ir (2 : Int)) ∧ (((2 : Int) ≤ (M 764 9) → ((0 : Int) = 0 ∨ (0 : Int) = 1) ∧ K [Xi (0 : Int)] M) ∧ ((M 764 9) < (2 : Int) → ((1 : Int) = 0 ∨ (1 : Int) = 1) ∧ K [Xi (1 : Int)] M))))))) ∧ (¬ (M 764 3) = 119 → (((M 764 3) = 121 → ((1 : Int) = 0 ∨ (1 : Int) = 1) ∧ K [Xi (1 : Int)] M) ∧ (¬ (M 764 3) = 121 → (ab_ir (M 764 3)) ∧ (∀ r167 : Int, (r167 = if 97 ≤ (M 764 3) ∧ (M 764 3) ≤ 100 then 1 else 0) → (r167 = 0 ∨ r167 = 1) ∧ K [Xi r167] M)))))))))))))))))) ∧ ((120 : Int) ≤ (M ((M 764 1).toNat) 3) → ((0 : Int) = 0 ∨ (0 : Int) = 1) ∧ K [Xi (0 : Int)] M)) := by
  obtain ⟨⟨⟨o, p, hok, g1, g2, g3, g4, g5, g6⟩, g7, g8, g9⟩, gK⟩ := hS
  have q2 := hok.2.1
  have hwp := cr_wp hok.2.2.1
  simp only [q2, Int.toNat_natCast] at gK ⊢
  refine And.intro (by
    first
      | exact hwp
      | omega
      | exact g7
      | exact ⟨⟨by omega, by omega⟩, by decide, by decide⟩
      | exact Or.inl rfl
      | exact Or.inr rfl
      | (simp; done)) ?_
  refine And.intro (by
    first
      | exact hwp
      | omega
      | exact g7
      | exact ⟨⟨by omega, by omega⟩, by decide, by decide⟩
      | exact Or.inl rfl
      | exact Or.inr rfl
      | (simp; done)) ?_
  refine And.intro (by
    first
      | exact hwp
      | omega
      | exact g7
      | exact ⟨⟨by omega, by omega⟩, by decide, by decide⟩
      | exact Or.inl rfl
      | exact Or.inr rfl
      | (simp; done)) ?_
  refine ⟨?_, ?_⟩
  · intro c9
    refine And.intro (by
      first
        | exact hwp
        | omega
        | exact g7
        | exact ⟨⟨by omega, by omega⟩, by decide, by decide⟩
        | exact Or.inl rfl
        | exact Or.inr rfl
        | (simp; done)) ?_
    refine ⟨?_, ?_⟩
    · intro c18_104
      refine And.intro (by
        first
          | exact hwp
          | omega
          | exact g7
          | exact ⟨⟨by omega, by omega⟩, by decide, by decide⟩
          | exact Or.inl rfl
          | exact Or.inr rfl
          | (simp; done)) ?_
      refine gK _ ?_
      first
        | (rw [if_pos (by omega)]; done)
        | (rw [if_neg (by omega)]; done)
        | (rw [hr167]; by_cases hz : 97 ≤ M 764 3 ∧ M 764 3 ≤ 100
           · rw [if_pos hz, if_pos (by omega)]
           · rw [if_neg hz, if_neg (by omega)])
    · intro c18_104
      refine ⟨?_, ?_⟩
      · intro c18_105
        refine And.intro (by
          first
            | exact hwp
            | omega
            | exact g7
            | exact ⟨⟨by omega, by omega⟩, by decide, by decide⟩
            | exact Or.inl rfl
            | exact Or.inr rfl
            | (simp; done)) ?_
        refine gK _ ?_
        first
          | (rw [if_pos (by omega)]; done)
          | (rw [if_neg (by omega)]; done)
          | (rw [hr167]; by_cases hz : 97 ≤ M 764 3 ∧ M 764 3 ≤ 100
             · rw [if_pos hz, if_pos (by omega)]
             · rw [if_neg hz, if_neg (by omega)])
      · intro c18_105
        refine ⟨?_, ?_⟩
        · intro c18_107
          refine And.intro (by
            first
              | exact hwp
              | omega
              | exact g7
              | exact ⟨⟨by omega, by omega⟩, by decide, by decide⟩
              | exact Or.inl rfl
              | exact Or.inr rfl
              | (simp; done)) ?_
          refine And.intro (by
            first
              | exact hwp
              | omega
              | exact g7
              | exact ⟨⟨by omega, by omega⟩, by decide, by decide⟩
              | exact Or.inl rfl
              | exact Or.inr rfl
              | (simp; done)) ?_
          refine And.intro (by
            first
              | exact hwp
              | omega
              | exact g7
              | exact ⟨⟨by omega, by omega⟩, by decide, by decide⟩
              | exact Or.inl rfl
              | exact Or.inr rfl
              | (simp; done)) ?_
          refine ⟨?_, ?_⟩
          · intro c113
            refine And.intro (by
              first
                | exact hwp
                | omega
                | exact g7
                | exact ⟨⟨by omega, by omega⟩, by decide, by decide⟩
                | exact Or.inl rfl
                | exact Or.inr rfl
                | (simp; done)) ?_
            refine gK _ ?_
            first
              | (rw [if_pos (by omega)]; done)
              | (rw [if_neg (by omega)]; done)
              | (rw [hr167]; by_cases hz : 97 ≤ M 764 3 ∧ M 764 3 ≤ 100
                 · rw [if_pos hz, if_pos (by omega)]
                 · rw [if_neg hz, if_neg (by omega)])
          · intro c113
            refine And.intro (by
              first
                | exact hwp
                | omega
                | exact g7
                | exact ⟨⟨by omega, by omega⟩, by decide, by decide⟩
                | exact Or.inl rfl
                | exact Or.inr rfl
                | (simp; done)) ?_
            refine gK _ ?_
            first
              | (rw [if_pos (by omega)]; done)
              | (rw [if_neg (by omega)]; done)
              | (rw [hr167]; by_cases hz : 97 ≤ M 764 3 ∧ M 764 3 ≤ 100
                 · rw [if_pos hz, if_pos (by omega)]
                 · rw [if_neg hz, if_neg (by omega)])
        · intro c18_107
          refine ⟨?_, ?_⟩
          · intro c18_112
            refine And.intro (by
              first
                | exact hwp
                | omega
                | exact g7
                | exact ⟨⟨by omega, by omega⟩, by decide, by decide⟩
                | exact Or.inl rfl
                | exact Or.inr rfl
                | (simp; done)) ?_
            refine And.intro (by
              first
                | exact hwp
                | omega
                | exact g7
                | exact ⟨⟨by omega, by omega⟩, by decide, by decide⟩
                | exact Or.inl rfl
                | exact Or.inr rfl
                | (simp; done)) ?_
            refine And.intro (by
              first
                | exact hwp
                | omega
                | exact g7
                | exact ⟨⟨by omega, by omega⟩, by decide, by decide⟩
                | exact Or.inl rfl
                | exact Or.inr rfl
                | (simp; done)) ?_
            refine ⟨?_, ?_⟩
            · intro c113
              refine And.intro (by
                first
                  | exact hwp
                  | omega
                  | exact g7
                  | exact ⟨⟨by omega, by omega⟩, by decide, by decide⟩
                  | exact Or.inl rfl
                  | exact Or.inr rfl
                  | (simp; done)) ?_
              refine gK _ ?_
              first
                | (rw [if_pos (by omega)]; done)
                | (rw [if_neg (by omega)]; done)
                | (rw [hr167]; by_cases hz : 97 ≤ M 764 3 ∧ M 764 3 ≤ 100
                   · rw [if_pos hz, if_pos (by omega)]
                   · rw [if_neg hz, if_neg (by omega)])
            · intro c113
              refine And.intro (by
                first
                  | exact hwp
                  | omega
                  | exact g7
                  | exact ⟨⟨by omega, by omega⟩, by decide, by decide⟩
                  | exact Or.inl rfl
                  | exact Or.inr rfl
                  | (simp; done)) ?_
              refine gK _ ?_
              first
                | (rw [if_pos (by omega)]; done)
                | (rw [if_neg (by omega)]; done)
                | (rw [hr167]; by_cases hz : 97 ≤ M 764 3 ∧ M 764 3 ≤ 100
                   · rw [if_pos hz, if_pos (by omega)]
                   · rw [if_neg hz, if_neg (by omega)])
          · intro c18_112
            refine ⟨?_, ?_⟩
            · intro c18_115
              refine And.intro (by
                first
                  | exact hwp
                  | omega
                  | exact g7
                  | exact ⟨⟨by omega, by omega⟩, by decide, by decide⟩
                  | exact Or.inl rfl
                  | exact Or.inr rfl
                  | (simp; done)) ?_
              refine gK _ ?_
              first
                | (rw [if_pos (by omega)]; done)
                | (rw [if_neg (by omega)]; done)
                | (rw [hr167]; by_cases hz : 97 ≤ M 764 3 ∧ M 764 3 ≤ 100
                   · rw [if_pos hz, if_pos (by omega)]
                   · rw [if_neg hz, if_neg (by omega)])
            · intro c18_115
              refine ⟨?_, ?_⟩
              · intro c18_116
                refine And.intro (by
                  first
                    | exact hwp
                    | omega
                    | exact g7
                    | exact ⟨⟨by omega, by omega⟩, by decide, by decide⟩
                    | exact Or.inl rfl
                    | exact Or.inr rfl
                    | (simp; done)) ?_
                refine gK _ ?_
                first
                  | (rw [if_pos (by omega)]; done)
                  | (rw [if_neg (by omega)]; done)
                  | (rw [hr167]; by_cases hz : 97 ≤ M 764 3 ∧ M 764 3 ≤ 100
                     · rw [if_pos hz, if_pos (by omega)]
                     · rw [if_neg hz, if_neg (by omega)])
              · intro c18_116
                refine ⟨?_, ?_⟩
                · intro c18_119
                  refine And.intro (by
                    first
                      | exact hwp
                      | omega
                      | exact g7
                      | exact ⟨⟨by omega, by omega⟩, by decide, by decide⟩
                      | exact Or.inl rfl
                      | exact Or.inr rfl
                      | (simp; done)) ?_
                  refine And.intro (by
                    first
                      | exact hwp
                      | omega
                      | exact g7
                      | exact ⟨⟨by omega, by omega⟩, by decide, by decide⟩
                      | exact Or.inl rfl
                      | exact Or.inr rfl
                      | (simp; done)) ?_
                  refine And.intro (by
                    first
                      | exact hwp
                      | omega
                      | exact g7
                      | exact ⟨⟨by omega, by omega⟩, by decide, by decide⟩
                      | exact Or.inl rfl
                      | exact Or.inr rfl
                      | (simp; done)) ?_
                  refine ⟨?_, ?_⟩
                  · intro c133
                    refine And.intro (by
                      first
                        | exact hwp
                        | omega
                        | exact g7
                        | exact ⟨⟨by omega, by omega⟩, by decide, by decide⟩
                        | exact Or.inl rfl
                        | exact Or.inr rfl
                        | (simp; done)) ?_
                    refine gK _ ?_
                    first
                      | (rw [if_pos (by omega)]; done)
                      | (rw [if_neg (by omega)]; done)
                      | (rw [hr167]; by_cases hz : 97 ≤ M 764 3 ∧ M 764 3 ≤ 100
                         · rw [if_pos hz, if_pos (by omega)]
                         · rw [if_neg hz, if_neg (by omega)])
                  · intro c133
                    refine And.intro (by
                      first
                        | exact hwp
                        | omega
                        | exact g7
                        | exact ⟨⟨by omega, by omega⟩, by decide, by decide⟩
                        | exact Or.inl rfl
                        | exact Or.inr rfl
                        | (simp; done)) ?_
                    refine And.intro (by
                      first
                        | exact hwp
                        | omega
                        | exact g7
                        | exact ⟨⟨by omega, by omega⟩, by decide, by decide⟩
                        | exact Or.inl rfl
                        | exact Or.inr rfl
                        | (simp; done)) ?_
                    refine ⟨?_, ?_⟩
                    · intro c144
                      refine And.intro (by
                        first
                          | exact hwp
                          | omega
                          | exact g7
                          | exact ⟨⟨by omega, by omega⟩, by decide, by decide⟩
                          | exact Or.inl rfl
                          | exact Or.inr rfl
                          | (simp; done)) ?_
                      refine gK _ ?_
                      first
                        | (rw [if_pos (by omega)]; done)
                        | (rw [if_neg (by omega)]; done)
                        | (rw [hr167]; by_cases hz : 97 ≤ M 764 3 ∧ M 764 3 ≤ 100
                           · rw [if_pos hz, if_pos (by omega)]
                           · rw [if_neg hz, if_neg (by omega)])
                    · intro c144
                      refine And.intro (by
                        first
                          | exact hwp
                          | omega
                          | exact g7
                          | exact ⟨⟨by omega, by omega⟩, by decide, by decide⟩
                          | exact Or.inl rfl
                          | exact Or.inr rfl
                          | (simp; done)) ?_
                      refine ⟨?_, ?_⟩
                      · intro c152
                        refine And.intro (by
                          first
                            | exact hwp
                            | omega
                            | exact g7
                            | exact ⟨⟨by omega, by omega⟩, by decide, by decide⟩
                            | exact Or.inl rfl
                            | exact Or.inr rfl
                            | (simp; done)) ?_
                        refine gK _ ?_
                        first
                          | (rw [if_pos (by omega)]; done)
                          | (rw [if_neg (by omega)]; done)
                          | (rw [hr167]; by_cases hz : 97 ≤ M 764 3 ∧ M 764 3 ≤ 100
                             · rw [if_pos hz, if_pos (by omega)]
                             · rw [if_neg hz, if_neg (by omega)])
                      · intro c152
                        refine And.intro (by
                          first
                            | exact hwp
                            | omega
                            | exact g7
                            | exact ⟨⟨by omega, by omega⟩, by decide, by decide⟩
                            | exact Or.inl rfl
                            | exact Or.inr rfl
                            | (simp; done)) ?_
                        refine gK _ ?_
                        first
                          | (rw [if_pos (by omega)]; done)
                          | (rw [if_neg (by omega)]; done)
                          | (rw [hr167]; by_cases hz : 97 ≤ M 764 3 ∧ M 764 3 ≤ 100
                             · rw [if_pos hz, if_pos (by omega)]
                             · rw [if_neg hz, if_neg (by omega)])
                · intro c18_119
                  refine ⟨?_, ?_⟩
                  · intro c18_121
                    refine And.intro (by
                      first
                        | exact hwp
                        | omega
                        | exact g7
                        | exact ⟨⟨by omega, by omega⟩, by decide, by decide⟩
                        | exact Or.inl rfl
                        | exact Or.inr rfl
                        | (simp; done)) ?_
                    refine gK _ ?_
                    first
                      | (rw [if_pos (by omega)]; done)
                      | (rw [if_neg (by omega)]; done)
                      | (rw [hr167]; by_cases hz : 97 ≤ M 764 3 ∧ M 764 3 ≤ 100
                         · rw [if_pos hz, if_pos (by omega)]
                         · rw [if_neg hz, if_neg (by omega)])
                  · intro c18_121
                    refine And.intro (by
                      first
                        | exact hwp
                        | omega
                        | exact g7
                        | exact ⟨⟨by omega, by omega⟩, by decide, by decide⟩
                        | exact Or.inl rfl
                        | exact Or.inr rfl
                        | (simp; done)) ?_
                    intro r167 hr167
                    refine And.intro (by
                      first
                        | exact hwp
                        | omega
                        | exact g7
                        | exact ⟨⟨by omega, by omega⟩, by decide, by decide⟩
                        | exact Or.inl rfl
                        | exact Or.inr rfl
                        | (simp; done)) ?_
                    refine gK _ ?_
                    first
                      | (rw [if_pos (by omega)]; done)
                      | (rw [if_neg (by omega)]; done)
                      | (rw [hr167]; by_cases hz : 97 ≤ M 764 3 ∧ M 764 3 ≤ 100
                         · rw [if_pos hz, if_pos (by omega)]
                         · rw [if_neg hz, if_neg (by omega)])
  · intro c9
    refine And.intro (by
      first
        | exact hwp
        | omega
        | exact g7
        | exact ⟨⟨by omega, by omega⟩, by decide, by decide⟩
        | exact Or.inl rfl
        | exact Or.inr rfl
        | (simp; done)) ?_
    refine gK _ ?_
    first
      | (rw [if_pos (by omega)]; done)
      | (rw [if_neg (by omega)]; done)
      | (rw [hr167]; by_cases hz : 97 ≤ M 764 3 ∧ M 764 3 ≤ 100
         · rw [if_pos hz, if_pos (by omega)]
         · rw [if_neg hz, if_neg (by omega)])

set_option maxRecDepth 20000 in
set_option maxHeartbeats 1000000 in
theorem ok_X2_isAllowed (E : ab_E) : ab_Ok E 2 35 S_X2_isAllowed := by
  refine ab_mk rq_X2_isAllowed tk_X2_isAllowed (rt := 2) (rfl) (cuts := []) (G := [(96, S_X8_isVariable)]) (List.forall_mem_cons.mpr ⟨⟨1, by decide, ok_X8_isVariable E⟩, fun _ h => absurd h List.not_mem_nil⟩) (by decide) 95 rfl ?_
  intro a M K wd wa hS
  unfold S_X2_isAllowed at hS
  split at hS
  ·
    refine ⟨Nat.le_of_ble_eq_true rfl, fun _ _ _ _ _ => False, ?_, ?_⟩
    · exact vc_X2_isAllowed_0  M K  hS
    · exact fun _ _ _ _ _ h => h.elim
  · exact hS.elim
def S_X2_addChecks : ab_PT := fun a M K => match a with
  | [.inr (.inr (.inr (764, 2, 0))), .inr (.inr (.inr (s, 4, nn))), .inr (.inl row)] => ((∃ o p, cr_ok o p M ∧ 0 ≤ M p 6 ∧ (M s 0 = 119 → M p 6 + 1 < 16) ∧ (M s 0 = 107 ∨ M s 0 = 112 → M p 6 < 16) ∧ 0 ≤ M p 8 ∧ M p 8 ≤ 4 ∧ (M s 0 = 119 → M p 8 < 4) ∧ s ≠ 764 ∧ s ≠ p ∧ s ≠ p + 365 ∧ s ≠ p + 366) ∧ ab_ir (M s 0)) ∧ (∀ Mx : ab_M, (Mx = cr_ac M (M 764 1).toNat s row) → K [] Mx)
  | _ => False
set_option maxRecDepth 20000 in
theorem vc_X2_addChecks_0 (s : Nat) (nn : Nat) (row : Int) (M : ab_M) (K : List ab_V → ab_M → Prop) (hS : ((∃ o p, cr_ok o p M ∧ 0 ≤ M p 6 ∧ (M s 0 = 119 → M p 6 + 1 < 16) ∧ (M s 0 = 107 ∨ M s 0 = 112 → M p 6 < 16) ∧ 0 ≤ M p 8 ∧ M p 8 ≤ 4 ∧ (M s 0 = 119 → M p 8 < 4) ∧ s ≠ 764 ∧ s ≠ p ∧ s ≠ p + 365 ∧ s ≠ p + 366) ∧ ab_ir (M s 0)) ∧ (∀ Mx : ab_M, (Mx = cr_ac M (M 764 1).toNat s row) → K [] Mx)) : (-128 ≤ (107 : Int) ∧ (107 : Int) < 128) ∧ (ab_ir (M s 0) ∧ ab_ir (107 : Int)) ∧ (((M s 0) = (107 : Int) → (0 ≤ (M 764 1) ∧ ab_wf (Xr ((M 764 1).toNat) 1 0)) ∧ (ab_ir ((ab_up M s 4 (M ((M 764 1).toNat) 6)) s 0)) ∧ (∀ r38 : Int, (r38 = if (ab_up M s 4 (M ((M 764 1).toNat) 6)) s 0 = 119 then 1 else 0) → (ab_ir r38) ∧ ((r38 = 0 → (0 ≤ ((ab_up M s 4 (M ((M 764 1).toNat) 6)) 764 1) ∧ ab_wf (Xr (((ab_up M s 4 (M ((M 764 1).toNat) 6)) 764 1).toNat) 1 0)) ∧ (-128 ≤ (107 : Int) ∧ (107 : Int) < 128) ∧ (ab_ir ((ab_up M s 4 (M ((M 764 1).toNat) 6)) s 0) ∧ ab_ir (107 : Int)) ∧ ((¬ ((ab_up M s 4 (M ((M 764 1).toNat) 6)) s 0) = (107 : Int) → (0 ≤ (ab_up M s 4 (M ((M 764 1).toNat) 6)) (((ab_up M s 4 (M ((M 764 1).toNat) 6)) 764 1).toNat) 6 ∧ (ab_up M s 4 (M ((M 764 1).toNat) 6)) (((ab_up M s 4 (M ((M 764 1).toNat) 6)) 764 1).toNat) 6 ≤ 16) ∧ (∀ M100 : ab_M, (M100 = if 16 ≤ (ab_up M s 4 (M ((M 764 1).toNat) 6)) (((ab_up M s 4 (M ((M 764 1).toNat) 6)) 764 1).toNat) 6 then (ab_up M s 4 (M ((M 764 1).toNat) 6)) else ab_up (ab_up (ab_up M s 4 (M ((M 764 1).toNat) 6)) ((((ab_up M s 4 (M ((M 764 1).toNat) 6)) 764 1).toNat) + 365) ((ab_up M s 4 (M ((M 764 1).toNat) 6)) (((ab_up M s 4 (M ((M 764 1).toNat) 6)) 764 1).toNat) 6).toNat (3 : Int)) (((ab_up M s 4 (M ((M 764 1).toNat) 6)) 764 1).toNat) 6 ((ab_up M s 4 (M ((M 764 1).toNat) 6)) (((ab_up M s 4 (M ((M 764 1).toNat) 6)) 764 1).toNat) 6 + 1)) → K [] M100)) ∧ (((ab_up M s 4 (M ((M 764 1).toNat) 6)) s 0) = (107 : Int) → (0 ≤ (ab_up M s 4 (M ((M 764 1).toNat) 6)) (((ab_up M s 4 (M ((M 764 1).toNat) 6)) 764 1).toNat) 6 ∧ (ab_up M s 4 (M ((M 764 1).toNat) 6)) (((ab_up M s 4 (M ((M 764 1).toNat) 6)) 764 1).toNat) 6 ≤ 16) ∧ (∀ M100 : ab_M, (M100 = if 16 ≤ (ab_up M s 4 (M ((M 764 1).toNat) 6)) (((ab_up M s 4 (M ((M 764 1).toNat) 6)) 764 1).toNat) 6 then (ab_up M s 4 (M ((M 764 1).toNat) 6)) else ab_up (ab_up (ab_up M s 4 (M ((M 764 1).toNat) 6)) ((((ab_up M s 4 (M ((M 764 1).toNat) 6)) 764 1).toNat) + 365) ((ab_up M s 4 (M ((M 764 1).toNat) 6)) (((ab_up M s 4 (M ((M 764 1).toNat) 6)) 764 1).toNat) 6).toNat (0 : Int)) (((ab_up M s 4 (M ((M 764 1).toNat) 6)) 764 1).toNat) 6 ((ab_up M s 4 (M ((M 764 1).toNat) 6)) (((ab_up M s 4 (M ((M 764 1).toNat) 6)) 764 1).toNat) 6 + 1)) → K [] M100)))) ∧ (¬ r38 = 0 → (0 ≤ ((ab_up M s 4 (M ((M 764 1).toNat) 6)) 764 1) ∧ ab_wf (Xr (((ab_up M s 4 (M ((M 764 1).toNat) 6)) 764 1).toNat) 1 0)) ∧ (0 ≤ ((ab_up (ab_up M s 4 (M ((M 764 1).toNat) 6)) s 5 ((ab_up M s 4 (M ((M 764 1).toNat) 6)) (((ab_up M s 4 (M ((M 764 1).toNat) 6)) 764 1).toNat) 8)) 764 1) ∧ ab_wf (Xr (((ab_up (ab_up M s 4 (M ((M 764 1).toNat) 6)) s 5 ((ab_up M s 4 (M ((M 764 1).toNat) 6)) (((ab_up M s 4 (M ((M 764 1).toNat) 6)) 764 1).toNat) 8)) 764 1).toNat) 1 0)) ∧ (0 ≤ (ab_up (ab_up M s 4 (M ((M 764 1).toNat) 6)) s 5 ((ab_up M s 4 (M ((M 764 1).toNat) 6)) (((ab_up M s 4 (M ((M 764 1).toNat) 6)) 764 1).toNat) 8)) (((ab_up (ab_up M s 4 (M ((M 764 1).toNat) 6)) s 5 ((ab_up M s 4 (M ((M 764 1).toNat) 6)) (((ab_up M s 4 (M ((M 764 1).toNat) 6)) 764 1).toNat) 8)) 764 1).toNat) 8 ∧ (ab_up (ab_up M s 4 (M ((M 764 1).toNat) 6)) s 5 ((ab_up M s 4 (M ((M 764 1).toNat) 6)) (((ab_up M s 4 (M ((M 764 1).toNat) 6)) 764 1).toNat) 8)) (((ab_up (ab_up M s 4 (M ((M 764 1).toNat) 6)) s 5 ((ab_up M s 4 (M ((M 764 1).toNat) 6)) (((ab_up M s 4 (M ((M 764 1).toNat) 6)) 764 1).toNat) 8)) 764 1).toNat) 8 ≤ 4) ∧ (∀ M60 : ab_M, (M60 = if 4 ≤ (ab_up (ab_up M s 4 (M ((M 764 1).toNat) 6)) s 5 ((ab_up M s 4 (M ((M 764 1).toNat) 6)) (((ab_up M s 4 (M ((M 764 1).toNat) 6)) 764 1).toNat) 8)) (((ab_up (ab_up M s 4 (M ((M 764 1).toNat) 6)) s 5 ((ab_up M s 4 (M ((M 764 1).toNat) 6)) (((ab_up M s 4 (M ((M 764 1).toNat) 6)) 764 1).toNat) 8)) 764 1).toNat) 8 then (ab_up (ab_up M s 4 (M ((M 764 1).toNat) 6)) s 5 ((ab_up M s 4 (M ((M 764 1).toNat) 6)) (((ab_up M s 4 (M ((M 764 1).toNat) 6)) 764 1).toNat) 8)) else ab_up (ab_up (ab_up (ab_up M s 4 (M ((M 764 1).toNat) 6)) s 5 ((ab_up M s 4 (M ((M 764 1).toNat) 6)) (((ab_up M s 4 (M ((M 764 1).toNat) 6)) 764 1).toNat) 8)) ((((ab_up (ab_up M s 4 (M ((M 764 1).toNat) 6)) s 5 ((ab_up M s 4 (M ((M 764 1).toNat) 6)) (((ab_up M s 4 (M ((M 764 1).toNat) 6)) 764 1).toNat) 8)) 764 1).toNat) + 366) ((ab_up (ab_up M s 4 (M ((M 764 1).toNat) 6)) s 5 ((ab_up M s 4 (M ((M 764 1).toNat) 6)) (((ab_up M s 4 (M ((M 764 1).toNat) 6)) 764 1).toNat) 8)) (((ab_up (ab_up M s 4 (M ((M 764 1).toNat) 6)) s 5 ((ab_up M s 4 (M ((M 764 1).toNat) 6)) (((ab_up M s 4 (M ((M 764 1).toNat) 6)) 764 1).toNat) 8)) 764 1).toNat) 8).toNat row) (((ab_up (ab_up M s 4 (M ((M 764 1).toNat) 6)) s 5 ((ab_up M s 4 (M ((M 764 1).toNat) 6)) (((ab_up M s 4 (M ((M 764 1).toNat) 6)) 764 1).toNat) 8)) 764 1).toNat) 8 ((ab_up (ab_up M s 4 (M ((M 764 1).toNat) 6)) s 5 ((ab_up M s 4 (M ((M 764 1).toNat) 6)) (((ab_up M s 4 (M ((M 764 1).toNat) 6)) 764 1).toNat) 8)) (((ab_up (ab_up M s 4 (M ((M 764 1).toNat) 6)) s 5 ((ab_up M s 4 (M ((M 764 1).toNat) 6)) (((ab_up M s 4 (M ((M 764 1).toNat) 6)) 764 1).toNat) 8)) 764 1).toNat) 8 + 1)) → (0 ≤ (M60 764 1) ∧ ab_wf (Xr ((M60 764 1).toNat) 1 0)) ∧ (0 ≤ M60 ((M60 764 1).toNat) 6 ∧ M60 ((M60 764 1).toNat) 6 ≤ 16) ∧ (∀ M68 : ab_M, (M68 = if 16 ≤ M60 ((M60 764 1).toNat) 6 then M60 else ab_up (ab_up M60 (((M60 764 1).toNat) + 365) (M60 ((M60 764 1).toNat) 6).toNat (1 : Int)) ((M60 764 1).toNat) 6 (M60 ((M60 764 1).toNat) 6 + 1)) → (0 ≤ (M68 764 1) ∧ ab_wf (Xr ((M68 764 1).toNat) 1 0)) ∧ (0 ≤ M68 ((M68 764 1).toNat) 6 ∧ M68 ((M68 764 1).toNat) 6 ≤ 16) ∧ (∀ M76 : ab_M, (M76 = if 16 ≤ M68 ((M68 764 1).toNat) 6 then M68 else ab_up (ab_up M68 (((M68 764 1).toNat) + 365) (M68 ((M68 764 1).toNat) 6).toNat (2 : Int)) ((M68 764 1).toNat) 6 (M68 ((M68 764 1).toNat) 6 + 1)) → K [] M76))))))) ∧ (¬ (M s 0) = (107 : Int) → (-128 ≤ (112 : Int) ∧ (112 : Int) < 128) ∧ (ab_ir (M s 0) ∧ ab_ir (112 : Int)) ∧ (((M s 0) = (112 : Int) → (0 ≤ (M 764 1) ∧ ab_wf (Xr ((M 764 1).toNat) 1 0)) ∧ (ab_ir ((ab_up M s 4 (M ((M 764 1).toNat) 6)) s 0)) ∧ (∀ r38 : Int, (r38 = if (ab_up M s 4 (M ((M 764 1).toNat) 6)) s 0 = 119 then 1 else 0) → (ab_ir r38) ∧ ((r38 = 0 → (0 ≤ ((ab_up M s 4 (M ((M 764 1).toNat) 6)) 764 1) ∧ ab_wf (Xr (((ab_up M s 4 (M ((M 764 1).toNat) 6)) 764 1).toNat) 1 0)) ∧ (-128 ≤ (107 : Int) ∧ (107 : Int) < 128) ∧ (ab_ir ((ab_up M s 4 (M ((M 764 1).toNat) 6)) s 0) ∧ ab_ir (107 : Int)) ∧ ((¬ ((ab_up M s 4 (M ((M 764 1).toNat) 6)) s 0) = (107 : Int) → (0 ≤ (ab_up M s 4 (M ((M 764 1).toNat) 6)) (((ab_up M s 4 (M ((M 764 1).toNat) 6)) 764 1).toNat) 6 ∧ (ab_up M s 4 (M ((M 764 1).toNat) 6)) (((ab_up M s 4 (M ((M 764 1).toNat) 6)) 764 1).toNat) 6 ≤ 16) ∧ (∀ M100 : ab_M, (M100 = if 16 ≤ (ab_up M s 4 (M ((M 764 1).toNat) 6)) (((ab_up M s 4 (M ((M 764 1).toNat) 6)) 764 1).toNat) 6 then (ab_up M s 4 (M ((M 764 1).toNat) 6)) else ab_up (ab_up (ab_up M s 4 (M ((M 764 1).toNat) 6)) ((((ab_up M s 4 (M ((M 764 1).toNat) 6)) 764 1).toNat) + 365) ((ab_up M s 4 (M ((M 764 1).toNat) 6)) (((ab_up M s 4 (M ((M 764 1).toNat) 6)) 764 1).toNat) 6).toNat (3 : Int)) (((ab_up M s 4 (M ((M 764 1).toNat) 6)) 764 1).toNat) 6 ((ab_up M s 4 (M ((M 764 1).toNat) 6)) (((ab_up M s 4 (M ((M 764 1).toNat) 6)) 764 1).toNat) 6 + 1)) → K [] M100)) ∧ (((ab_up M s 4 (M ((M 764 1).toNat) 6)) s 0) = (107 : Int) → (0 ≤ (ab_up M s 4 (M ((M 764 1).toNat) 6)) (((ab_up M s 4 (M ((M 764 1).toNat) 6)) 764 1).toNat) 6 ∧ (ab_up M s 4 (M ((M 764 1).toNat) 6)) (((ab_up M s 4 (M ((M 764 1).toNat) 6)) 764 1).toNat) 6 ≤ 16) ∧ (∀ M100 : ab_M, (M100 = if 16 ≤ (ab_up M s 4 (M ((M 764 1).toNat) 6)) (((ab_up M s 4 (M ((M 764 1).toNat) 6)) 764 1).toNat) 6 then (ab_up M s 4 (M ((M 764 1).toNat) 6)) else ab_up (ab_up (ab_up M s 4 (M ((M 764 1).toNat) 6)) ((((ab_up M s 4 (M ((M 764 1).toNat) 6)) 764 1).toNat) + 365) ((ab_up M s 4 (M ((M 764 1).toNat) 6)) (((ab_up M s 4 (M ((M 764 1).toNat) 6)) 764 1).toNat) 6).toNat (0 : Int)) (((ab_up M s 4 (M ((M 764 1).toNat) 6)) 764 1).toNat) 6 ((ab_up M s 4 (M ((M 764 1).toNat) 6)) (((ab_up M s 4 (M ((M 764 1).toNat) 6)) 764 1).toNat) 6 + 1)) → K [] M100)))) ∧ (¬ r38 = 0 → (0 ≤ ((ab_up M s 4 (M ((M 764 1).toNat) 6)) 764 1) ∧ ab_wf (Xr (((ab_up M s 4 (M ((M 764 1).toNat) 6)) 764 1).toNat) 1 0)) ∧ (0 ≤ ((ab_up (ab_up M s 4 (M ((M 764 1).toNat) 6)) s 5 ((ab_up M s 4 (M ((M 764 1).toNat) 6)) (((ab_up M s 4 (M ((M 764 1).toNat) 6)) 764 1).toNat) 8)) 764 1) ∧ ab_wf (Xr (((ab_up (ab_up M s 4 (M ((M 764 1).toNat) 6)) s 5 ((ab_up M s 4 (M ((M 764 1).toNat) 6)) (((ab_up M s 4 (M ((M 764 1).toNat) 6)) 764 1).toNat) 8)) 764 1).toNat) 1 0)) ∧ (0 ≤ (ab_up (ab_up M s 4 (M ((M 764 1).toNat) 6)) s 5 ((ab_up M s 4 (M ((M 764 1).toNat) 6)) (((ab_up M s 4 (M ((M 764 1).toNat) 6)) 764 1).toNat) 8)) (((ab_up (ab_up M s 4 (M ((M 764 1).toNat) 6)) s 5 ((ab_up M s 4 (M ((M 764 1).toNat) 6)) (((ab_up M s 4 (M ((M 764 1).toNat) 6)) 764 1).toNat) 8)) 764 1).toNat) 8 ∧ (ab_up (ab_up M s 4 (M ((M 764 1).toNat) 6)) s 5 ((ab_up M s 4 (M ((M 764 1).toNat) 6)) (((ab_up M s 4 (M ((M 764 1).toNat) 6)) 764 1).toNat) 8)) (((ab_up (ab_up M s 4 (M ((M 764 1).toNat) 6)) s 5 ((ab_up M s 4 (M ((M 764 1).toNat) 6)) (((ab_up M s 4 (M ((M 764 1).toNat) 6)) 764 1).toNat) 8)) 764 1).toNat) 8 ≤ 4) ∧ (∀ M60 : ab_M, (M60 = if 4 ≤ (ab_up (ab_up M s 4 (M ((M 764 1).toNat) 6)) s 5 ((ab_up M s 4 (M ((M 764 1).toNat) 6)) (((ab_up M s 4 (M ((M 764 1).toNat) 6)) 764 1).toNat) 8)) (((ab_up (ab_up M s 4 (M ((M 764 1).toNat) 6)) s 5 ((ab_up M s 4 (M ((M 764 1).toNat) 6)) (((ab_up M s 4 (M ((M 764 1).toNat) 6)) 764 1).toNat) 8)) 764 1).toNat) 8 then (ab_up (ab_up M s 4 (M ((M 764 1).toNat) 6)) s 5 ((ab_up M s 4 (M ((M 764 1).toNat) 6)) (((ab_up M s 4 (M ((M 764 1).toNat) 6)) 764 1).toNat) 8)) else ab_up (ab_up (ab_up (ab_up M s 4 (M ((M 764 1).toNat) 6)) s 5 ((ab_up M s 4 (M ((M 764 1).toNat) 6)) (((ab_up M s 4 (M ((M 764 1).toNat) 6)) 764 1).toNat) 8)) ((((ab_up (ab_up M s 4 (M ((M 764 1).toNat) 6)) s 5 ((ab_up M s 4 (M ((M 764 1).toNat) 6)) (((ab_up M s 4 (M ((M 764 1).toNat) 6)) 764 1).toNat) 8)) 764 1).toNat) + 366) ((ab_up (ab_up M s 4 (M ((M 764 1).toNat) 6)) s 5 ((ab_up M s 4 (M ((M 764 1).toNat) 6)) (((ab_up M s 4 (M ((M 764 1).toNat) 6)) 764 1).toNat) 8)) (((ab_up (ab_up M s 4 (M ((M 764 1).toNat) 6)) s 5 ((ab_up M s 4 (M ((M 764 1).toNat) 6)) (((ab_up M s 4 (M ((M 764 1).toNat) 6)) 764 1).toNat) 8)) 764 1).toNat) 8).toNat row) (((ab_up (ab_up M s 4 (M ((M 764 1).toNat) 6)) s 5 ((ab_up M s 4 (M ((M 764 1).toNat) 6)) (((ab_up M s 4 (M ((M 764 1).toNat) 6)) 764 1).toNat) 8)) 764 1).toNat) 8 ((ab_up (ab_up M s 4 (M ((M 764 1).toNat) 6)) s 5 ((ab_up M s 4 (M ((M 764 1).toNat) 6)) (((ab_up M s 4 (M ((M 764 1).toNat) 6)) 764 1).toNat) 8)) (((ab_up (ab_up M s 4 (M ((M 764 1).toNat) 6)) s 5 ((ab_up M s 4 (M ((M 764 1).toNat) 6)) (((ab_up M s 4 (M ((M 764 1).toNat) 6)) 764 1).toNat) 8)) 764 1).toNat) 8 + 1)) → (0 ≤ (M60 764 1) ∧ ab_wf (Xr ((M60 764 1).toNat) 1 0)) ∧ (0 ≤ M60 ((M60 764 1).toNat) 6 ∧ M60 ((M60 764 1).toNat) 6 ≤ 16) ∧ (∀ M68 : ab_M, (M68 = if 16 ≤ M60 ((M60 764 1).toNat) 6 then M60 else ab_up (ab_up M60 (((M60 764 1).toNat) + 365) (M60 ((M60 764 1).toNat) 6).toNat (1 : Int)) ((M60 764 1).toNat) 6 (M60 ((M60 764 1).toNat) 6 + 1)) → (0 ≤ (M68 764 1) ∧ ab_wf (Xr ((M68 764 1).toNat) 1 0)) ∧ (0 ≤ M68 ((M68 764 1).toNat) 6 ∧ M68 ((M68 764 1).toNat) 6 ≤ 16) ∧ (∀ M76 : ab_M, (M76 = if 16 ≤ M68 ((M68 764 1).toNat) 6 then M68 else ab_up (ab_up M68 (((M68 764 1).toNat) + 365) (M68 ((M68 764 1).toNat) 6).toNat (2 : Int)) ((M68 764 1).toNat) 6 (M68 ((M68 764 1).toNat) 6 + 1)) → K [] M76))))))) ∧ (¬ (M s 0) = (112 : Int) → (ab_ir (M s 0)) ∧ (∀ r19 : Int, (r19 = if M s 0 = 119 then 1 else 0) → (ab_ir r19) ∧ ((¬ r19 = 0 → (0 ≤ (M 764 1) ∧ ab_wf (Xr ((M 764 1).toNat) 1 0)) ∧ (ab_ir ((ab_up M s 4 (M ((M 764 1).toNat) 6)) s 0)) ∧ (∀ r38 : Int, (r38 = if (ab_up M s 4 (M ((M 764 1).toNat) 6)) s 0 = 119 then 1 else 0) → (ab_ir r38) ∧ ((r38 = 0 → (0 ≤ ((ab_up M s 4 (M ((M 764 1).toNat) 6)) 764 1) ∧ ab_wf (Xr (((ab_up M s 4 (M ((M 764 1).toNat) 6)) 764 1).toNat) 1 0)) ∧ (-128 ≤ (107 : Int) ∧ (107 : Int) < 128) ∧ (ab_ir ((ab_up M s 4 (M ((M 764 1).toNat) 6)) s 0) ∧ ab_ir (107 : Int)) ∧ ((¬ ((ab_up M s 4 (M ((M 764 1).toNat) 6)) s 0) = (107 : Int) → (0 ≤ (ab_up M s 4 (M ((M 764 1).toNat) 6)) (((ab_up M s 4 (M ((M 764 1).toNat) 6)) 764 1).toNat) 6 ∧ (ab_up M s 4 (M ((M 764 1).toNat) 6)) (((ab_up M s 4 (M ((M 764 1).toNat) 6)) 764 1).toNat) 6 ≤ 16) ∧ (∀ M100 : ab_M, (M100 = if 16 ≤ (ab_up M s 4 (M ((M 764 1).toNat) 6)) (((ab_up M s 4 (M ((M 764 1).toNat) 6)) 764 1).toNat) 6 then (ab_up M s 4 (M ((M 764 1).toNat) 6)) else ab_up (ab_up (ab_up M s 4 (M ((M 764 1).toNat) 6)) ((((ab_up M s 4 (M ((M 764 1).toNat) 6)) 764 1).toNat) + 365) ((ab_up M s 4 (M ((M 764 1).toNat) 6)) (((ab_up M s 4 (M ((M 764 1).toNat) 6)) 764 1).toNat) 6).toNat (3 : Int)) (((ab_up M s 4 (M ((M 764 1).toNat) 6)) 764 1).toNat) 6 ((ab_up M s 4 (M ((M 764 1).toNat) 6)) (((ab_up M s 4 (M ((M 764 1).toNat) 6)) 764 1).toNat) 6 + 1)) → K [] M100)) ∧ (((ab_up M s 4 (M ((M 764 1).toNat) 6)) s 0) = (107 : Int) → (0 ≤ (ab_up M s 4 (M ((M 764 1).toNat) 6)) (((ab_up M s 4 (M ((M 764 1).toNat) 6)) 764 1).toNat) 6 ∧ (ab_up M s 4 (M ((M 764 1).toNat) 6)) (((ab_up M s 4 (M ((M 764 1).toNat) 6)) 764 1).toNat) 6 ≤ 16) ∧ (∀ M100 : ab_M, (M100 = if 16 ≤ (ab_up M s 4 (M ((M 764 1).toNat) 6)) (((ab_up M s 4 (M ((M 764 1).toNat) 6)) 764 1).toNat) 6 then (ab_up M s 4 (M ((M 764 1).toNat) 6)) else ab_up (ab_up (ab_up M s 4 (M ((M 764 1).toNat) 6)) ((((ab_up M s 4 (M ((M 764 1).toNat) 6)) 764 1).toNat) + 365) ((ab_up M s 4 (M ((M 764 1).toNat) 6)) (((ab_up M s 4 (M ((M 764 1).toNat) 6)) 764 1).toNat) 6).toNat (0 : Int)) (((ab_up M s 4 (M ((M 764 1).toNat) 6)) 764 1).toNat) 6 ((ab_up M s 4 (M ((M 764 1).toNat) 6)) (((ab_up M s 4 (M ((M 764 1).toNat) 6)) 764 1).toNat) 6 + 1)) → K [] M100)))) ∧ (¬ r38 = 0 → (0 ≤ ((ab_up M s 4 (M ((M 764 1).toNat) 6)) 764 1) ∧ ab_wf (Xr (((ab_up M s 4 (M ((M 764 1).toNat) 6)) 764 1).toNat) 1 0)) ∧ (0 ≤ ((ab_up (ab_up M s 4 (M ((M 764 1).toNat) 6)) s 5 ((ab_up M s 4 (M ((M 764 1).toNat) 6)) (((ab_up M s 4 (M ((M 764 1).toNat) 6)) 764 1).toNat) 8)) 764 1) ∧ ab_wf (Xr (((ab_up (ab_up M s 4 (M ((M 764 1).toNat) 6)) s 5 ((ab_up M s 4 (M ((M 764 1).toNat) 6)) (((ab_up M s 4 (M ((M 764 1).toNat) 6)) 764 1).toNat) 8)) 764 1).toNat) 1 0)) ∧ (0 ≤ (ab_up (ab_up M s 4 (M ((M 764 1).toNat) 6)) s 5 ((ab_up M s 4 (M ((M 764 1).toNat) 6)) (((ab_up M s 4 (M ((M 764 1).toNat) 6)) 764 1).toNat) 8)) (((ab_up (ab_up M s 4 (M ((M 764 1).toNat) 6)) s 5 ((ab_up M s 4 (M ((M 764 1).toNat) 6)) (((ab_up M s 4 (M ((M 764 1).toNat) 6)) 764 1).toNat) 8)) 764 1).toNat) 8 ∧ (ab_up (ab_up M s 4 (M ((M 764 1).toNat) 6)) s 5 ((ab_up M s 4 (M ((M 764 1).toNat) 6)) (((ab_up M s 4 (M ((M 764 1).toNat) 6)) 764 1).toNat) 8)) (((ab_up (ab_up M s 4 (M ((M 764 1).toNat) 6)) s 5 ((ab_up M s 4 (M ((M 764 1).toNat) 6)) (((ab_up M s 4 (M ((M 764 1).toNat) 6)) 764 1).toNat) 8)) 764 1).toNat) 8 ≤ 4) ∧ (∀ M60 : ab_M, (M60 = if 4 ≤ (ab_up (ab_up M s 4 (M ((M 764 1).toNat) 6)) s 5 ((ab_up M s 4 (M ((M 764 1).toNat) 6)) (((ab_up M s 4 (M ((M 764 1).toNat) 6)) 764 1).toNat) 8)) (((ab_up (ab_up M s 4 (M ((M 764 1).toNat) 6)) s 5 ((ab_up M s 4 (M ((M 764 1).toNat) 6)) (((ab_up M s 4 (M ((M 764 1).toNat) 6)) 764 1).toNat) 8)) 764 1).toNat) 8 then (ab_up (ab_up M s 4 (M ((M 764 1).toNat) 6)) s 5 ((ab_up M s 4 (M ((M 764 1).toNat) 6)) (((ab_up M s 4 (M ((M 764 1).toNat) 6)) 764 1).toNat) 8)) else ab_up (ab_up (ab_up (ab_up M s 4 (M ((M 764 1).toNat) 6)) s 5 ((ab_up M s 4 (M ((M 764 1).toNat) 6)) (((ab_up M s 4 (M ((M 764 1).toNat) 6)) 764 1).toNat) 8)) ((((ab_up (ab_up M s 4 (M ((M 764 1).toNat) 6)) s 5 ((ab_up M s 4 (M ((M 764 1).toNat) 6)) (((ab_up M s 4 (M ((M 764 1).toNat) 6)) 764 1).toNat) 8)) 764 1).toNat) + 366) ((ab_up (ab_up M s 4 (M ((M 764 1).toNat) 6)) s 5 ((ab_up M s 4 (M ((M 764 1).toNat) 6)) (((ab_up M s 4 (M ((M 764 1).toNat) 6)) 764 1).toNat) 8)) (((ab_up (ab_up M s 4 (M ((M 764 1).toNat) 6)) s 5 ((ab_up M s 4 (M ((M 764 1).toNat) 6)) (((ab_up M s 4 (M ((M 764 1).toNat) 6)) 764 1).toNat) 8)) 764 1).toNat) 8).toNat row) (((ab_up (ab_up M s 4 (M ((M 764 1).toNat) 6)) s 5 ((ab_up M s 4 (M ((M 764 1).toNat) 6)) (((ab_up M s 4 (M ((M 764 1).toNat) 6)) 764 1).toNat) 8)) 764 1).toNat) 8 ((ab_up (ab_up M s 4 (M ((M 764 1).toNat) 6)) s 5 ((ab_up M s 4 (M ((M 764 1).toNat) 6)) (((ab_up M s 4 (M ((M 764 1).toNat) 6)) 764 1).toNat) 8)) (((ab_up (ab_up M s 4 (M ((M 764 1).toNat) 6)) s 5 ((ab_up M s 4 (M ((M 764 1).toNat) 6)) (((ab_up M s 4 (M ((M 764 1).toNat) 6)) 764 1).toNat) 8)) 764 1).toNat) 8 + 1)) → (0 ≤ (M60 764 1) ∧ ab_wf (Xr ((M60 764 1).toNat) 1 0)) ∧ (0 ≤ M60 ((M60 764 1).toNat) 6 ∧ M60 ((M60 764 1).toNat) 6 ≤ 16) ∧ (∀ M68 : ab_M, (M68 = if 16 ≤ M60 ((M60 764 1).toNat) 6 then M60 else ab_up (ab_up M60 (((M60 764 1).toNat) + 365) (M60 ((M60 764 1).toNat) 6).toNat (1 : Int)) ((M60 764 1).toNat) 6 (M60 ((M60 764 1).toNat) 6 + 1)) → (0 ≤ (M68 764 1) ∧ ab_wf (Xr ((M68 764 1).toNat) 1 0)) ∧ (0 ≤ M68 ((M68 764 1).toNat) 6 ∧ M68 ((M68 764 1).toNat) 6 ≤ 16) ∧ (∀ M76 : ab_M, (M76 = if 16 ≤ M68 ((M68 764 1).toNat) 6 then M68 else ab_up (ab_up M68 (((M68 764 1).toNat) + 365) (M68 ((M68 764 1).toNat) 6).toNat (2 : Int)) ((M68 764 1).toNat) 6 (M68 ((M68 764 1).toNat) 6 + 1)) → K [] M76))))))) ∧ (r19 = 0 → K [] M))))))) := by
  obtain ⟨⟨⟨o, p, hok, g1, g2, g3, g4, g5, g6, g7, g8, g9, g10⟩, g11⟩, gK⟩ := hS
  have q2 := hok.2.1
  have hwp := cr_wp hok.2.2.1
  have hne := cr_op_ne hok.2.2.1
  have hp : p ≠ 764 := hne.2.2 0 (by decide)
  have hp5 : p + 365 ≠ 764 := hne.2.2 365 (by decide)
  have hp6 : p + 366 ≠ 764 := hne.2.2 366 (by decide)
  unfold cr_ac at gK
  have n1 := Ne.symm g7
  have n2 := Ne.symm g8
  have n3 := Ne.symm g9
  have n4 := Ne.symm g10
  have n5 := Ne.symm hp
  have n6 := Ne.symm hp5
  have n7 := Ne.symm hp6
  have n8 : ¬ p + 365 = p := by omega
  have n9 : ¬ p + 366 = p := by omega
  have n10 : ¬ p = p + 365 := by omega
  have n11 : ¬ p = p + 366 := by omega
  have n12 : ¬ p + 365 = p + 366 := by omega
  simp only [q2, Int.toNat_natCast] at gK ⊢
  (try simp only [ab_up_a, g7, g8, g9, g10, hp, hp5, hp6, n1, n2, n3, n4, n5, n6, n7, n8, n9, n10, n11, n12, q2, Int.toNat_natCast, Nat.reduceEqDiff, and_false, false_and, and_true, true_and, if_false, if_true, reduceIte])
  refine And.intro (by
    first
      | exact hwp
      | omega
      | exact g11
      | exact ⟨g11, by decide, by decide⟩
      | exact ⟨⟨by omega, by omega⟩, by decide, by decide⟩
      | trivial
      | exact ⟨by omega, by omega⟩
      | (split <;> exact ⟨by decide, by decide⟩)) ?_
  refine And.intro (by
    first
      | exact hwp
      | omega
      | exact g11
      | exact ⟨g11, by decide, by decide⟩
      | exact ⟨⟨by omega, by omega⟩, by decide, by decide⟩
      | trivial
      | exact ⟨by omega, by omega⟩
      | (split <;> exact ⟨by decide, by decide⟩)) ?_
  refine ⟨?_, ?_⟩
  · intro c6
    refine And.intro (by
      first
        | exact hwp
        | omega
        | exact g11
        | exact ⟨g11, by decide, by decide⟩
        | exact ⟨⟨by omega, by omega⟩, by decide, by decide⟩
        | trivial
        | exact ⟨by omega, by omega⟩
        | (split <;> exact ⟨by decide, by decide⟩)) ?_
    refine And.intro (by
      first
        | exact hwp
        | omega
        | exact g11
        | exact ⟨g11, by decide, by decide⟩
        | exact ⟨⟨by omega, by omega⟩, by decide, by decide⟩
        | trivial
        | exact ⟨by omega, by omega⟩
        | (split <;> exact ⟨by decide, by decide⟩)) ?_
    intro r38 hr38
    refine And.intro (by
      first
        | exact hwp
        | omega
        | exact g11
        | exact ⟨g11, by decide, by decide⟩
        | exact ⟨⟨by omega, by omega⟩, by decide, by decide⟩
        | trivial
        | exact ⟨by omega, by omega⟩
        | (split <;> exact ⟨by decide, by decide⟩)) ?_
    refine ⟨?_, ?_⟩
    · intro c41
      rw [hr38] at c41
      rw [ab_bf] at c41
      clear hr38 r38
      refine And.intro (by
        first
          | exact hwp
          | omega
          | exact g11
          | exact ⟨g11, by decide, by decide⟩
          | exact ⟨⟨by omega, by omega⟩, by decide, by decide⟩
          | trivial
          | exact ⟨by omega, by omega⟩
          | (split <;> exact ⟨by decide, by decide⟩)) ?_
      refine And.intro (by
        first
          | exact hwp
          | omega
          | exact g11
          | exact ⟨g11, by decide, by decide⟩
          | exact ⟨⟨by omega, by omega⟩, by decide, by decide⟩
          | trivial
          | exact ⟨by omega, by omega⟩
          | (split <;> exact ⟨by decide, by decide⟩)) ?_
      refine And.intro (by
        first
          | exact hwp
          | omega
          | exact g11
          | exact ⟨g11, by decide, by decide⟩
          | exact ⟨⟨by omega, by omega⟩, by decide, by decide⟩
          | trivial
          | exact ⟨by omega, by omega⟩
          | (split <;> exact ⟨by decide, by decide⟩)) ?_
      refine ⟨?_, ?_⟩
      · intro c92
        refine And.intro (by
          first
            | exact hwp
            | omega
            | exact g11
            | exact ⟨g11, by decide, by decide⟩
            | exact ⟨⟨by omega, by omega⟩, by decide, by decide⟩
            | trivial
            | exact ⟨by omega, by omega⟩
            | (split <;> exact ⟨by decide, by decide⟩)) ?_
        intro M100 hM100
        rw [if_neg (by first | omega | (split <;> omega))] at hM100
        subst hM100
        (try simp only [ab_up_a, g7, g8, g9, g10, hp, hp5, hp6, n1, n2, n3, n4, n5, n6, n7, n8, n9, n10, n11, n12, q2, Int.toNat_natCast, Nat.reduceEqDiff, and_false, false_and, and_true, true_and, if_false, if_true, reduceIte])
        refine gK _ ?_
        first
          | (rw [if_pos (by omega)]; done)
          | (rw [if_neg (by omega), if_pos (by omega), if_pos (by omega)]; done)
          | (rw [if_neg (by omega), if_pos (by omega), if_neg (by omega)]; done)
          | (rw [if_neg (by omega), if_neg (by omega)]; done)
      · intro c92
        refine And.intro (by
          first
            | exact hwp
            | omega
            | exact g11
            | exact ⟨g11, by decide, by decide⟩
            | exact ⟨⟨by omega, by omega⟩, by decide, by decide⟩
            | trivial
            | exact ⟨by omega, by omega⟩
            | (split <;> exact ⟨by decide, by decide⟩)) ?_
        intro M100 hM100
        rw [if_neg (by first | omega | (split <;> omega))] at hM100
        subst hM100
        (try simp only [ab_up_a, g7, g8, g9, g10, hp, hp5, hp6, n1, n2, n3, n4, n5, n6, n7, n8, n9, n10, n11, n12, q2, Int.toNat_natCast, Nat.reduceEqDiff, and_false, false_and, and_true, true_and, if_false, if_true, reduceIte])
        refine gK _ ?_
        first
          | (rw [if_pos (by omega)]; done)
          | (rw [if_neg (by omega), if_pos (by omega), if_pos (by omega)]; done)
          | (rw [if_neg (by omega), if_pos (by omega), if_neg (by omega)]; done)
          | (rw [if_neg (by omega), if_neg (by omega)]; done)
    · intro c41
      rw [hr38] at c41
      rw [ab_bt] at c41
      clear hr38 r38
      refine And.intro (by
        first
          | exact hwp
          | omega
          | exact g11
          | exact ⟨g11, by decide, by decide⟩
          | exact ⟨⟨by omega, by omega⟩, by decide, by decide⟩
          | trivial
          | exact ⟨by omega, by omega⟩
          | (split <;> exact ⟨by decide, by decide⟩)) ?_
      refine And.intro (by
        first
          | exact hwp
          | omega
          | exact g11
          | exact ⟨g11, by decide, by decide⟩
          | exact ⟨⟨by omega, by omega⟩, by decide, by decide⟩
          | trivial
          | exact ⟨by omega, by omega⟩
          | (split <;> exact ⟨by decide, by decide⟩)) ?_
      refine And.intro (by
        first
          | exact hwp
          | omega
          | exact g11
          | exact ⟨g11, by decide, by decide⟩
          | exact ⟨⟨by omega, by omega⟩, by decide, by decide⟩
          | trivial
          | exact ⟨by omega, by omega⟩
          | (split <;> exact ⟨by decide, by decide⟩)) ?_
      intro M60 hM60
      rw [if_neg (by first | omega | (split <;> omega))] at hM60
      subst hM60
      (try simp only [ab_up_a, g7, g8, g9, g10, hp, hp5, hp6, n1, n2, n3, n4, n5, n6, n7, n8, n9, n10, n11, n12, q2, Int.toNat_natCast, Nat.reduceEqDiff, and_false, false_and, and_true, true_and, if_false, if_true, reduceIte])
      refine And.intro (by
        first
          | exact hwp
          | omega
          | exact g11
          | exact ⟨g11, by decide, by decide⟩
          | exact ⟨⟨by omega, by omega⟩, by decide, by decide⟩
          | trivial
          | exact ⟨by omega, by omega⟩
          | (split <;> exact ⟨by decide, by decide⟩)) ?_
      refine And.intro (by
        first
          | exact hwp
          | omega
          | exact g11
          | exact ⟨g11, by decide, by decide⟩
          | exact ⟨⟨by omega, by omega⟩, by decide, by decide⟩
          | trivial
          | exact ⟨by omega, by omega⟩
          | (split <;> exact ⟨by decide, by decide⟩)) ?_
      intro M68 hM68
      rw [if_neg (by first | omega | (split <;> omega))] at hM68
      subst hM68
      (try simp only [ab_up_a, g7, g8, g9, g10, hp, hp5, hp6, n1, n2, n3, n4, n5, n6, n7, n8, n9, n10, n11, n12, q2, Int.toNat_natCast, Nat.reduceEqDiff, and_false, false_and, and_true, true_and, if_false, if_true, reduceIte])
      refine And.intro (by
        first
          | exact hwp
          | omega
          | exact g11
          | exact ⟨g11, by decide, by decide⟩
          | exact ⟨⟨by omega, by omega⟩, by decide, by decide⟩
          | trivial
          | exact ⟨by omega, by omega⟩
          | (split <;> exact ⟨by decide, by decide⟩)) ?_
      refine And.intro (by
        first
          | exact hwp
          | omega
          | exact g11
          | exact ⟨g11, by decide, by decide⟩
          | exact ⟨⟨by omega, by omega⟩, by decide, by decide⟩
          | trivial
          | exact ⟨by omega, by omega⟩
          | (split <;> exact ⟨by decide, by decide⟩)) ?_
      intro M76 hM76
      rw [if_neg (by first | omega | (split <;> omega))] at hM76
      subst hM76
      (try simp only [ab_up_a, g7, g8, g9, g10, hp, hp5, hp6, n1, n2, n3, n4, n5, n6, n7, n8, n9, n10, n11, n12, q2, Int.toNat_natCast, Nat.reduceEqDiff, and_false, false_and, and_true, true_and, if_false, if_true, reduceIte])
      refine gK _ ?_
      first
        | (rw [if_pos (by omega)]; done)
        | (rw [if_neg (by omega), if_pos (by omega), if_pos (by omega)]; done)
        | (rw [if_neg (by omega), if_pos (by omega), if_neg (by omega)]; done)
        | (rw [if_neg (by omega), if_neg (by omega)]; done)
  · intro c6
    refine And.intro (by
      first
        | exact hwp
        | omega
        | exact g11
        | exact ⟨g11, by decide, by decide⟩
        | exact ⟨⟨by omega, by omega⟩, by decide, by decide⟩
        | trivial
        | exact ⟨by omega, by omega⟩
        | (split <;> exact ⟨by decide, by decide⟩)) ?_
    refine And.intro (by
      first
        | exact hwp
        | omega
        | exact g11
        | exact ⟨g11, by decide, by decide⟩
        | exact ⟨⟨by omega, by omega⟩, by decide, by decide⟩
        | trivial
        | exact ⟨by omega, by omega⟩
        | (split <;> exact ⟨by decide, by decide⟩)) ?_
    refine ⟨?_, ?_⟩
    · intro c15
      refine And.intro (by
        first
          | exact hwp
          | omega
          | exact g11
          | exact ⟨g11, by decide, by decide⟩
          | exact ⟨⟨by omega, by omega⟩, by decide, by decide⟩
          | trivial
          | exact ⟨by omega, by omega⟩
          | (split <;> exact ⟨by decide, by decide⟩)) ?_
      refine And.intro (by
        first
          | exact hwp
          | omega
          | exact g11
          | exact ⟨g11, by decide, by decide⟩
          | exact ⟨⟨by omega, by omega⟩, by decide, by decide⟩
          | trivial
          | exact ⟨by omega, by omega⟩
          | (split <;> exact ⟨by decide, by decide⟩)) ?_
      intro r38 hr38
      refine And.intro (by
        first
          | exact hwp
          | omega
          | exact g11
          | exact ⟨g11, by decide, by decide⟩
          | exact ⟨⟨by omega, by omega⟩, by decide, by decide⟩
          | trivial
          | exact ⟨by omega, by omega⟩
          | (split <;> exact ⟨by decide, by decide⟩)) ?_
      refine ⟨?_, ?_⟩
      · intro c41
        rw [hr38] at c41
        rw [ab_bf] at c41
        clear hr38 r38
        refine And.intro (by
          first
            | exact hwp
            | omega
            | exact g11
            | exact ⟨g11, by decide, by decide⟩
            | exact ⟨⟨by omega, by omega⟩, by decide, by decide⟩
            | trivial
            | exact ⟨by omega, by omega⟩
            | (split <;> exact ⟨by decide, by decide⟩)) ?_
        refine And.intro (by
          first
            | exact hwp
            | omega
            | exact g11
            | exact ⟨g11, by decide, by decide⟩
            | exact ⟨⟨by omega, by omega⟩, by decide, by decide⟩
            | trivial
            | exact ⟨by omega, by omega⟩
            | (split <;> exact ⟨by decide, by decide⟩)) ?_
        refine And.intro (by
          first
            | exact hwp
            | omega
            | exact g11
            | exact ⟨g11, by decide, by decide⟩
            | exact ⟨⟨by omega, by omega⟩, by decide, by decide⟩
            | trivial
            | exact ⟨by omega, by omega⟩
            | (split <;> exact ⟨by decide, by decide⟩)) ?_
        refine ⟨?_, ?_⟩
        · intro c92
          refine And.intro (by
            first
              | exact hwp
              | omega
              | exact g11
              | exact ⟨g11, by decide, by decide⟩
              | exact ⟨⟨by omega, by omega⟩, by decide, by decide⟩
              | trivial
              | exact ⟨by omega, by omega⟩
              | (split <;> exact ⟨by decide, by decide⟩)) ?_
          intro M100 hM100
          rw [if_neg (by first | omega | (split <;> omega))] at hM100
          subst hM100
          (try simp only [ab_up_a, g7, g8, g9, g10, hp, hp5, hp6, n1, n2, n3, n4, n5, n6, n7, n8, n9, n10, n11, n12, q2, Int.toNat_natCast, Nat.reduceEqDiff, and_false, false_and, and_true, true_and, if_false, if_true, reduceIte])
          refine gK _ ?_
          first
            | (rw [if_pos (by omega)]; done)
            | (rw [if_neg (by omega), if_pos (by omega), if_pos (by omega)]; done)
            | (rw [if_neg (by omega), if_pos (by omega), if_neg (by omega)]; done)
            | (rw [if_neg (by omega), if_neg (by omega)]; done)
        · intro c92
          refine And.intro (by
            first
              | exact hwp
              | omega
              | exact g11
              | exact ⟨g11, by decide, by decide⟩
              | exact ⟨⟨by omega, by omega⟩, by decide, by decide⟩
              | trivial
              | exact ⟨by omega, by omega⟩
              | (split <;> exact ⟨by decide, by decide⟩)) ?_
          intro M100 hM100
          rw [if_neg (by first | omega | (split <;> omega))] at hM100
          subst hM100
          (try simp only [ab_up_a, g7, g8, g9, g10, hp, hp5, hp6, n1, n2, n3, n4, n5, n6, n7, n8, n9, n10, n11, n12, q2, Int.toNat_natCast, Nat.reduceEqDiff, and_false, false_and, and_true, true_and, if_false, if_true, reduceIte])
          refine gK _ ?_
          first
            | (rw [if_pos (by omega)]; done)
            | (rw [if_neg (by omega), if_pos (by omega), if_pos (by omega)]; done)
            | (rw [if_neg (by omega), if_pos (by omega), if_neg (by omega)]; done)
            | (rw [if_neg (by omega), if_neg (by omega)]; done)
      · intro c41
        rw [hr38] at c41
        rw [ab_bt] at c41
        clear hr38 r38
        refine And.intro (by
          first
            | exact hwp
            | omega
            | exact g11
            | exact ⟨g11, by decide, by decide⟩
            | exact ⟨⟨by omega, by omega⟩, by decide, by decide⟩
            | trivial
            | exact ⟨by omega, by omega⟩
            | (split <;> exact ⟨by decide, by decide⟩)) ?_
        refine And.intro (by
          first
            | exact hwp
            | omega
            | exact g11
            | exact ⟨g11, by decide, by decide⟩
            | exact ⟨⟨by omega, by omega⟩, by decide, by decide⟩
            | trivial
            | exact ⟨by omega, by omega⟩
            | (split <;> exact ⟨by decide, by decide⟩)) ?_
        refine And.intro (by
          first
            | exact hwp
            | omega
            | exact g11
            | exact ⟨g11, by decide, by decide⟩
            | exact ⟨⟨by omega, by omega⟩, by decide, by decide⟩
            | trivial
            | exact ⟨by omega, by omega⟩
            | (split <;> exact ⟨by decide, by decide⟩)) ?_
        intro M60 hM60
        rw [if_neg (by first | omega | (split <;> omega))] at hM60
        subst hM60
        (try simp only [ab_up_a, g7, g8, g9, g10, hp, hp5, hp6, n1, n2, n3, n4, n5, n6, n7, n8, n9, n10, n11, n12, q2, Int.toNat_natCast, Nat.reduceEqDiff, and_false, false_and, and_true, true_and, if_false, if_true, reduceIte])
        refine And.intro (by
          first
            | exact hwp
            | omega
            | exact g11
            | exact ⟨g11, by decide, by decide⟩
            | exact ⟨⟨by omega, by omega⟩, by decide, by decide⟩
            | trivial
            | exact ⟨by omega, by omega⟩
            | (split <;> exact ⟨by decide, by decide⟩)) ?_
        refine And.intro (by
          first
            | exact hwp
            | omega
            | exact g11
            | exact ⟨g11, by decide, by decide⟩
            | exact ⟨⟨by omega, by omega⟩, by decide, by decide⟩
            | trivial
            | exact ⟨by omega, by omega⟩
            | (split <;> exact ⟨by decide, by decide⟩)) ?_
        intro M68 hM68
        rw [if_neg (by first | omega | (split <;> omega))] at hM68
        subst hM68
        (try simp only [ab_up_a, g7, g8, g9, g10, hp, hp5, hp6, n1, n2, n3, n4, n5, n6, n7, n8, n9, n10, n11, n12, q2, Int.toNat_natCast, Nat.reduceEqDiff, and_false, false_and, and_true, true_and, if_false, if_true, reduceIte])
        refine And.intro (by
          first
            | exact hwp
            | omega
            | exact g11
            | exact ⟨g11, by decide, by decide⟩
            | exact ⟨⟨by omega, by omega⟩, by decide, by decide⟩
            | trivial
            | exact ⟨by omega, by omega⟩
            | (split <;> exact ⟨by decide, by decide⟩)) ?_
        refine And.intro (by
          first
            | exact hwp
            | omega
            | exact g11
            | exact ⟨g11, by decide, by decide⟩
            | exact ⟨⟨by omega, by omega⟩, by decide, by decide⟩
            | trivial
            | exact ⟨by omega, by omega⟩
            | (split <;> exact ⟨by decide, by decide⟩)) ?_
        intro M76 hM76
        rw [if_neg (by first | omega | (split <;> omega))] at hM76
        subst hM76
        (try simp only [ab_up_a, g7, g8, g9, g10, hp, hp5, hp6, n1, n2, n3, n4, n5, n6, n7, n8, n9, n10, n11, n12, q2, Int.toNat_natCast, Nat.reduceEqDiff, and_false, false_and, and_true, true_and, if_false, if_true, reduceIte])
        refine gK _ ?_
        first
          | (rw [if_pos (by omega)]; done)
          | (rw [if_neg (by omega), if_pos (by omega), if_pos (by omega)]; done)
          | (rw [if_neg (by omega), if_pos (by omega), if_neg (by omega)]; done)
          | (rw [if_neg (by omega), if_neg (by omega)]; done)
    · intro c15
      refine And.intro (by
        first
          | exact hwp
          | omega
          | exact g11
          | exact ⟨g11, by decide, by decide⟩
          | exact ⟨⟨by omega, by omega⟩, by decide, by decide⟩
          | trivial
          | exact ⟨by omega, by omega⟩
          | (split <;> exact ⟨by decide, by decide⟩)) ?_
      intro r19 hr19
      refine And.intro (by
        first
          | exact hwp
          | omega
          | exact g11
          | exact ⟨g11, by decide, by decide⟩
          | exact ⟨⟨by omega, by omega⟩, by decide, by decide⟩
          | trivial
          | exact ⟨by omega, by omega⟩
          | (split <;> exact ⟨by decide, by decide⟩)) ?_
      refine ⟨?_, ?_⟩
      · intro c22
        rw [hr19] at c22
        rw [ab_bt] at c22
        clear hr19 r19
        refine And.intro (by
          first
            | exact hwp
            | omega
            | exact g11
            | exact ⟨g11, by decide, by decide⟩
            | exact ⟨⟨by omega, by omega⟩, by decide, by decide⟩
            | trivial
            | exact ⟨by omega, by omega⟩
            | (split <;> exact ⟨by decide, by decide⟩)) ?_
        refine And.intro (by
          first
            | exact hwp
            | omega
            | exact g11
            | exact ⟨g11, by decide, by decide⟩
            | exact ⟨⟨by omega, by omega⟩, by decide, by decide⟩
            | trivial
            | exact ⟨by omega, by omega⟩
            | (split <;> exact ⟨by decide, by decide⟩)) ?_
        intro r38 hr38
        refine And.intro (by
          first
            | exact hwp
            | omega
            | exact g11
            | exact ⟨g11, by decide, by decide⟩
            | exact ⟨⟨by omega, by omega⟩, by decide, by decide⟩
            | trivial
            | exact ⟨by omega, by omega⟩
            | (split <;> exact ⟨by decide, by decide⟩)) ?_
        refine ⟨?_, ?_⟩
        · intro c41
          rw [hr38] at c41
          rw [ab_bf] at c41
          clear hr38 r38
          refine And.intro (by
            first
              | exact hwp
              | omega
              | exact g11
              | exact ⟨g11, by decide, by decide⟩
              | exact ⟨⟨by omega, by omega⟩, by decide, by decide⟩
              | trivial
              | exact ⟨by omega, by omega⟩
              | (split <;> exact ⟨by decide, by decide⟩)) ?_
          refine And.intro (by
            first
              | exact hwp
              | omega
              | exact g11
              | exact ⟨g11, by decide, by decide⟩
              | exact ⟨⟨by omega, by omega⟩, by decide, by decide⟩
              | trivial
              | exact ⟨by omega, by omega⟩
              | (split <;> exact ⟨by decide, by decide⟩)) ?_
          refine And.intro (by
            first
              | exact hwp
              | omega
              | exact g11
              | exact ⟨g11, by decide, by decide⟩
              | exact ⟨⟨by omega, by omega⟩, by decide, by decide⟩
              | trivial
              | exact ⟨by omega, by omega⟩
              | (split <;> exact ⟨by decide, by decide⟩)) ?_
          refine ⟨?_, ?_⟩
          · intro c92
            refine And.intro (by
              first
                | exact hwp
                | omega
                | exact g11
                | exact ⟨g11, by decide, by decide⟩
                | exact ⟨⟨by omega, by omega⟩, by decide, by decide⟩
                | trivial
                | exact ⟨by omega, by omega⟩
                | (split <;> exact ⟨by decide, by decide⟩)) ?_
            intro M100 hM100
            rw [if_neg (by first | omega | (split <;> omega))] at hM100
            subst hM100
            (try simp only [ab_up_a, g7, g8, g9, g10, hp, hp5, hp6, n1, n2, n3, n4, n5, n6, n7, n8, n9, n10, n11, n12, q2, Int.toNat_natCast, Nat.reduceEqDiff, and_false, false_and, and_true, true_and, if_false, if_true, reduceIte])
            refine gK _ ?_
            first
              | (rw [if_pos (by omega)]; done)
              | (rw [if_neg (by omega), if_pos (by omega), if_pos (by omega)]; done)
              | (rw [if_neg (by omega), if_pos (by omega), if_neg (by omega)]; done)
              | (rw [if_neg (by omega), if_neg (by omega)]; done)
          · intro c92
            refine And.intro (by
              first
                | exact hwp
                | omega
                | exact g11
                | exact ⟨g11, by decide, by decide⟩
                | exact ⟨⟨by omega, by omega⟩, by decide, by decide⟩
                | trivial
                | exact ⟨by omega, by omega⟩
                | (split <;> exact ⟨by decide, by decide⟩)) ?_
            intro M100 hM100
            rw [if_neg (by first | omega | (split <;> omega))] at hM100
            subst hM100
            (try simp only [ab_up_a, g7, g8, g9, g10, hp, hp5, hp6, n1, n2, n3, n4, n5, n6, n7, n8, n9, n10, n11, n12, q2, Int.toNat_natCast, Nat.reduceEqDiff, and_false, false_and, and_true, true_and, if_false, if_true, reduceIte])
            refine gK _ ?_
            first
              | (rw [if_pos (by omega)]; done)
              | (rw [if_neg (by omega), if_pos (by omega), if_pos (by omega)]; done)
              | (rw [if_neg (by omega), if_pos (by omega), if_neg (by omega)]; done)
              | (rw [if_neg (by omega), if_neg (by omega)]; done)
        · intro c41
          rw [hr38] at c41
          rw [ab_bt] at c41
          clear hr38 r38
          refine And.intro (by
            first
              | exact hwp
              | omega
              | exact g11
              | exact ⟨g11, by decide, by decide⟩
              | exact ⟨⟨by omega, by omega⟩, by decide, by decide⟩
              | trivial
              | exact ⟨by omega, by omega⟩
              | (split <;> exact ⟨by decide, by decide⟩)) ?_
          refine And.intro (by
            first
              | exact hwp
              | omega
              | exact g11
              | exact ⟨g11, by decide, by decide⟩
              | exact ⟨⟨by omega, by omega⟩, by decide, by decide⟩
              | trivial
              | exact ⟨by omega, by omega⟩
              | (split <;> exact ⟨by decide, by decide⟩)) ?_
          refine And.intro (by
            first
              | exact hwp
              | omega
              | exact g11
              | exact ⟨g11, by decide, by decide⟩
              | exact ⟨⟨by omega, by omega⟩, by decide, by decide⟩
              | trivial
              | exact ⟨by omega, by omega⟩
              | (split <;> exact ⟨by decide, by decide⟩)) ?_
          intro M60 hM60
          rw [if_neg (by first | omega | (split <;> omega))] at hM60
          subst hM60
          (try simp only [ab_up_a, g7, g8, g9, g10, hp, hp5, hp6, n1, n2, n3, n4, n5, n6, n7, n8, n9, n10, n11, n12, q2, Int.toNat_natCast, Nat.reduceEqDiff, and_false, false_and, and_true, true_and, if_false, if_true, reduceIte])
          refine And.intro (by
            first
              | exact hwp
              | omega
              | exact g11
              | exact ⟨g11, by decide, by decide⟩
              | exact ⟨⟨by omega, by omega⟩, by decide, by decide⟩
              | trivial
              | exact ⟨by omega, by omega⟩
              | (split <;> exact ⟨by decide, by decide⟩)) ?_
          refine And.intro (by
            first
              | exact hwp
              | omega
              | exact g11
              | exact ⟨g11, by decide, by decide⟩
              | exact ⟨⟨by omega, by omega⟩, by decide, by decide⟩
              | trivial
              | exact ⟨by omega, by omega⟩
              | (split <;> exact ⟨by decide, by decide⟩)) ?_
          intro M68 hM68
          rw [if_neg (by first | omega | (split <;> omega))] at hM68
          subst hM68
          (try simp only [ab_up_a, g7, g8, g9, g10, hp, hp5, hp6, n1, n2, n3, n4, n5, n6, n7, n8, n9, n10, n11, n12, q2, Int.toNat_natCast, Nat.reduceEqDiff, and_false, false_and, and_true, true_and, if_false, if_true, reduceIte])
          refine And.intro (by
            first
              | exact hwp
              | omega
              | exact g11
              | exact ⟨g11, by decide, by decide⟩
              | exact ⟨⟨by omega, by omega⟩, by decide, by decide⟩
              | trivial
              | exact ⟨by omega, by omega⟩
              | (split <;> exact ⟨by decide, by decide⟩)) ?_
          refine And.intro (by
            first
              | exact hwp
              | omega
              | exact g11
              | exact ⟨g11, by decide, by decide⟩
              | exact ⟨⟨by omega, by omega⟩, by decide, by decide⟩
              | trivial
              | exact ⟨by omega, by omega⟩
              | (split <;> exact ⟨by decide, by decide⟩)) ?_
          intro M76 hM76
          rw [if_neg (by first | omega | (split <;> omega))] at hM76
          subst hM76
          (try simp only [ab_up_a, g7, g8, g9, g10, hp, hp5, hp6, n1, n2, n3, n4, n5, n6, n7, n8, n9, n10, n11, n12, q2, Int.toNat_natCast, Nat.reduceEqDiff, and_false, false_and, and_true, true_and, if_false, if_true, reduceIte])
          refine gK _ ?_
          first
            | (rw [if_pos (by omega)]; done)
            | (rw [if_neg (by omega), if_pos (by omega), if_pos (by omega)]; done)
            | (rw [if_neg (by omega), if_pos (by omega), if_neg (by omega)]; done)
            | (rw [if_neg (by omega), if_neg (by omega)]; done)
      · intro c22
        rw [hr19] at c22
        rw [ab_bf] at c22
        clear hr19 r19
        refine gK _ ?_
        first
          | (rw [if_pos (by omega)]; done)
          | (rw [if_neg (by omega), if_pos (by omega), if_pos (by omega)]; done)
          | (rw [if_neg (by omega), if_pos (by omega), if_neg (by omega)]; done)
          | (rw [if_neg (by omega), if_neg (by omega)]; done)

set_option maxRecDepth 20000 in
set_option maxHeartbeats 1000000 in
theorem ok_X2_addChecks (E : ab_E) : ab_Ok E 2 32 S_X2_addChecks := by
  refine ab_mk rq_X2_addChecks tk_X2_addChecks (rt := 0) (rfl) (cuts := []) (G := [(13, S_X1_addCheck), (14, S_X1_addLoop), (56, S_X4_isLoop)]) (List.forall_mem_cons.mpr ⟨⟨1, by decide, ok_X1_addCheck E⟩, List.forall_mem_cons.mpr ⟨⟨1, by decide, ok_X1_addLoop E⟩, List.forall_mem_cons.mpr ⟨⟨1, by decide, ok_X4_isLoop E⟩, fun _ h => absurd h List.not_mem_nil⟩⟩⟩) (by decide) 99 rfl ?_
  intro a M K wd wa hS
  unfold S_X2_addChecks at hS
  split at hS
  ·
    rename_i s nn row
    refine ⟨Nat.le_of_ble_eq_true rfl, fun _ _ _ _ _ => False, ?_, ?_⟩
    · exact vc_X2_addChecks_0 s nn row M K  hS
    · exact fun _ _ _ _ _ h => h.elim
  · exact hS.elim
