/-! the places to which a step leads are places -/
def pl_g (L : List Int) : Prop := ∀ p ∈ L, 0 ≤ p ∧ p < 33280
theorem pl_g.ad {L : List Int} (h : pl_g L) (row st : Int) : pl_g (pl_ad row st L) := by
  unfold pl_ad
  split
  · rename_i q
    intro p hp
    rcases List.mem_append.1 hp with e | e
    · exact h p e
    · rw [List.mem_singleton.1 e]
      have := pz_and_r st (b := 255) (by decide) (by decide)
      omega
  · exact h
theorem pl_g.h {M : ab_M} {s : Nat} {zz : Int} {L : List Int} (h : pl_g L) : ∀ n, pl_g (pl_h M s zz L n)
  | 0 => h
  | n + 1 => by
    show pl_g (pl_hv M s zz _ (pl_h M s zz L n))
    unfold pl_hv
    split
    · exact (pl_g.h h n).ad _ _
    · exact pl_g.h h n
theorem pl_g.st {M : ab_M} {s : Nat} {zz cut : Int} {L : List Int} (h : pl_g L) : pl_g (pl_st M s zz cut L).2 := by
  unfold pl_st pl_cut
  repeat' split
  all_goals first
    | exact h
    | exact h.ad _ _
    | exact h.h _
theorem pl_g.h1 {M : ab_M} {s : Nat} {th : Int} {L : List Int} (h : pl_g L) : pl_g (pl_h1 M s th L) := by
  unfold pl_h1
  split
  · exact h
  · exact h.ad _ _
theorem pl_g.hs {M : ab_M} {s : Nat} {zz : Int} : ∀ (n : Nat) (part : Int) (L : List Int), pl_g L → pl_g (pl_hs M s zz n part L)
  | 0, _, _, h => h
  | n + 1, part, L, h => by
    unfold pl_hs
    split
    · exact h.h1
    · exact pl_g.hs n _ _ h.h1
theorem pl_fd_g (M : ab_M) (row zz cut : Int) : pl_g (pl_fd M row zz cut).2 := by
  have h0 : pl_g [] := fun p hp => absurd hp List.not_mem_nil
  unfold pl_fd pl_head pl_back
  repeat' split
  all_goals first
    | exact h0
    | exact h0.st
    | exact h0.ad _ _
    | exact pl_g.hs _ _ _ h0
theorem pl_st_c {M : ab_M} {s : Nat} (hs : ts_s M s) (zz cut : Int) (L : List Int) : -1 ≤ (pl_st M s zz cut L).1 ∧ (pl_st M s zz cut L).1 ≤ 15 := by
  have h4 : -1 ≤ M s 4 ∧ M s 4 ≤ 15 := hs.2.2.2.2.2.2.2.2.2.2.2.2
  unfold pl_st pl_cut
  repeat' split
  all_goals first
    | exact h4
    | (show (-1 : Int) ≤ -1 ∧ (-1 : Int) ≤ 15; exact ⟨by decide, by decide⟩)
theorem pl_fd_c {M : ab_M} (hp : ts_p M) (row zz cut : Int) : -1 ≤ (pl_fd M row zz cut).1 ∧ (pl_fd M row zz cut).1 ≤ 16 := by
  have h1 := pl_st_c (hp.st row) zz cut []
  have h4 : -1 ≤ M (lp_at M (row - 122)) 4 ∧ M (lp_at M (row - 122)) 4 ≤ 15 := (hp.lp (row - 122)).2.2.2.2.2.2.2.2.2.2.2.2
  unfold pl_fd
  split
  · exact ⟨h1.1, by omega⟩
  · split
    · show (-1 : Int) ≤ -1 ∧ (-1 : Int) ≤ 16
      exact ⟨by decide, by decide⟩
    · split
      · unfold pl_back
        split
        · show (-1 : Int) ≤ -1 ∧ (-1 : Int) ≤ 16
          exact ⟨by decide, by decide⟩
        · show -1 ≤ (if _ then _ else _) ∧ (if _ then _ else _) ≤ _
          split
          · exact ⟨Int.le_trans h4.1 (Int.le_add_of_nonneg_right (by decide)), Int.add_le_add_right h4.2 1⟩
          · exact ⟨by decide, by decide⟩
      · show (-1 : Int) ≤ -1 ∧ (-1 : Int) ≤ 16
        exact ⟨by decide, by decide⟩
theorem ab_or_range (a b : Int) : ab_ir (ab_or a b) := ⟨Int32.le_toInt _, Int32.toInt_lt _⟩
theorem ab_shl_range (a b : Int) : ab_ir (ab_shl a b) := ⟨Int32.le_toInt _, Int32.toInt_lt _⟩
