/-! the class's graph: places, what a place leads to -/
def gc_S (M : ab_M) (cut : Int) (j : Nat) : List Int := (pl_fd M ((j / 256 : Nat) : Int) ((j % 256 : Nat) : Int) cut).2
def gc_O (M : ab_M) (cut : Int) (j b : Nat) : Prop := (j / 256 = 120 ∧ b = 16) ∨ (j / 256 = 121 ∧ b = 17) ∨ (pl_fd M ((j / 256 : Nat) : Int) ((j % 256 : Nat) : Int) cut).1 = (b : Int)
theorem gc_O_18 {M : ab_M} (hp : ts_p M) {cut : Int} {j b : Nat} (h : gc_O M cut j b) : b < 18 := by
  have hc := pl_fd_c hp ((j / 256 : Nat) : Int) ((j % 256 : Nat) : Int) cut
  rcases h with h | h | h
  · omega
  · omega
  · omega
theorem gx_W_O {S : Nat → List Int} {O : Nat → Prop} : ∀ {n j : Nat}, gx_W S O n j → ∃ i, O i
  | 0, j, h => ⟨j, h⟩
  | n + 1, j, h => by
    rcases h with q | ⟨q, -, h2⟩
    · exact ⟨j, q⟩
    · exact gx_W_O h2
theorem gc_fr {M M1 : ab_M} (h : ts_e M M1) (hp : ts_p M) (cut : Int) : gc_S M1 cut = gc_S M cut ∧ gc_O M1 cut = gc_O M cut := by
  refine ⟨?_, ?_⟩
  · funext j
    unfold gc_S
    rw [pl_fd_fr h hp]
  · funext j b
    unfold gc_O
    rw [pl_fd_fr h hp]
