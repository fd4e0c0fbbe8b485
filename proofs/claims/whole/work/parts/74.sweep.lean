/-! a sweep over the rows -/
theorem rf_n_fr {M M1 : ab_M} (h : ts_e M M1) (hp : ts_p M) (row cut : Int) (N : Nat → Int) : ∀ k, rf_n M1 row cut N k = rf_n M row cut N k
  | 0 => rfl
  | k + 1 => by
    unfold rf_n
    rw [rf_n_fr h hp row cut N k]
    unfold rf_v
    simp only [pl_fd_fr h hp]
/-- the notes after the rows of a list, one after another -/
def sw_N (M : ab_M) (cut : Int) (R : List Int) (N : Nat → Int) : Nat → Int := R.foldl (fun N r => rf_n M r cut N 256) N
def sw_c (M : ab_M) (cut : Int) (R : List Int) (N : Nat → Int) : Prop := ∃ A r B, R = A ++ r :: B ∧ ¬ rf_n M r cut (sw_N M cut A N) 256 = sw_N M cut A N
def sw_I (M M1 : ab_M) (cut : Int) (R : List Int) (ch : Int) : Prop := rn_f M M1 ∧ M1 774 = sw_N M cut R (M 774) ∧ (ch = 0 ∧ M1 774 = M 774 ∧ (∀ r ∈ R, rf_n M r cut (M 774) 256 = M 774) ∨ ch = 1 ∧ sw_c M cut R (M 774)) ∧ ∀ j, ab_ir (M1 774 j)
theorem sw_I.start {M : ab_M} {cut : Int} (h : ∀ j, ab_ir (M 774 j)) : sw_I M M cut [] 0 := ⟨fun _ _ _ _ _ => rfl, rfl, Or.inl ⟨rfl, rfl, fun _ h => absurd h List.not_mem_nil⟩, h⟩
theorem sw_I.next {M M1 M2 : ab_M} {cut r : Int} {R : List Int} {ch : Int} (h : sw_I M M1 cut R ch) (hp : ts_p M) (hM : M2 774 = rf_n M1 r cut (M1 774) 256 ∧ rn_f M1 M2 ∧ ∀ j, ab_ir (M2 774 j)) : ((M2 774 = M1 774) → sw_I M M2 cut (R ++ [r]) ch) ∧ ((∃ j : Nat, ¬ M2 774 j = M1 774 j) → sw_I M M2 cut (R ++ [r]) 1) := by
  obtain ⟨h1, h2, h3, h4⟩ := h
  obtain ⟨g1, g2, g3⟩ := hM
  rw [rf_n_fr h1.e hp] at g1
  have eN : M2 774 = sw_N M cut (R ++ [r]) (M 774) := by
    unfold sw_N at h2 ⊢
    rw [List.foldl_append, ← h2, g1]
    rfl
  refine ⟨fun e => ⟨h1.trans g2, eN, ?_, g3⟩, fun e => ⟨h1.trans g2, eN, Or.inr ⟨rfl, R, r, [], rfl, ?_⟩, g3⟩⟩
  · rcases h3 with ⟨a, b, c⟩ | ⟨a, A, x, B, b, c⟩
    · refine Or.inl ⟨a, e.trans b, fun q hq => ?_⟩
      rcases List.mem_append.1 hq with hq | hq
      · exact c q hq
      · rw [List.mem_singleton.1 hq, ← b, ← g1, e]
    · exact Or.inr ⟨a, A, x, B ++ [r], by rw [b]; simp, c⟩
  · rw [← h2, ← g1]
    intro q
    obtain ⟨j, hj⟩ := e
    exact hj (by rw [q])
/-- the ends of loops of a sweep -/
def sw_l (M : ab_M) (low high : Int) : Nat → List Int
  | 0 => []
  | k + 1 => sw_l M low high k ++ (if low ≤ M 392 k ∧ M 392 k ≤ high then [122 + ((k : Nat) : Int)] else [])
/-- the rows of a sweep, the last first -/
def sw_r (M : ab_M) (cut high : Int) : Nat → List Int
  | 0 => []
  | k + 1 => sw_r M cut high k ++ ((if cut = 1 ∧ M (st_at M (high - ((k : Nat) : Int))) 0 = 119 then [126 + M (st_at M (high - ((k : Nat) : Int))) 5] else []) ++ [high - ((k : Nat) : Int)])
def sw_R (M : ab_M) (low high cut : Int) : List Int := sw_l M low high (M 26 8).toNat ++ sw_r M cut high (high - low + 1).toNat

def S_X3_sweep : ab_PT := fun a M K => match a with
  | [.inr (.inr (.inr (768, 3, 0))), .inr (.inl low), .inr (.inl high), .inr (.inl cut)] => ((tv_ok M ∧ ts_p M) ∧ (0 ≤ low ∧ low ≤ high + 1 ∧ high < M 26 3) ∧ ab_ir cut ∧ ∀ j, ab_ir (M 774 j)) ∧ (∀ rx : Int, ∀ Mx : ab_M, (sw_I M Mx cut (sw_R M low high cut) rx) → (rx = 0 ∨ rx = 1) → K [Xi rx] Mx)
  | _ => False
set_option maxRecDepth 20000 in
theorem vc_X3_sweep_0 (low : Int) (high : Int) (cut : Int) (M : ab_M) (K : List ab_V → ab_M → Prop) (hS : ((tv_ok M ∧ ts_p M) ∧ (0 ≤ low ∧ low ≤ high + 1 ∧ high < M 26 3) ∧ ab_ir cut ∧ ∀ j, ab_ir (M 774 j)) ∧ (∀ rx : Int, ∀ Mx : ab_M, (sw_I M Mx cut (sw_R M low high cut) rx) → (rx = 0 ∨ rx = 1) → K [Xi rx] Mx)) : (∃ n', ((n' = (1004 - (0 : Int)).toNat ∧ low = low ∧ high = high ∧ cut = cut ∧ 0 ≤ (0 : Int) ∧ (0 : Int) ≤ M 26 8 ∧ sw_I M M cut (sw_l M low high (0 : Int).toNat) (0 : Int)))) := by
  obtain ⟨⟨⟨gv, gp⟩, ⟨gr1, gr2, gr3⟩, gc, gn⟩, gK⟩ := hS
  have gp2 := id gp
  obtain ⟨a1, a2, a3, -, -⟩ := gp2
  
  exact ⟨_, rfl, rfl, rfl, rfl, by decide, by omega, sw_I.start gn⟩

set_option maxRecDepth 20000 in
theorem vc_X3_sweep_6 (low : Int) (high : Int) (cut : Int) (M : ab_M) (K : List ab_V → ab_M → Prop) (hS : ((tv_ok M ∧ ts_p M) ∧ (0 ≤ low ∧ low ≤ high + 1 ∧ high < M 26 3) ∧ ab_ir cut ∧ ∀ j, ab_ir (M 774 j)) ∧ (∀ rx : Int, ∀ Mx : ab_M, (sw_I M Mx cut (sw_R M low high cut) rx) → (rx = 0 ∨ rx = 1) → K [Xi rx] Mx)) (n : Nat) (l1 : Int) (h1 : Int) (c1 : Int) (ch : Int) (l : Int) (M1 : ab_M) (hI : n = (1004 - l).toNat ∧ low = l1 ∧ high = h1 ∧ cut = c1 ∧ 0 ≤ l ∧ l ≤ M 26 8 ∧ sw_I M M1 cut (sw_l M low high l.toNat) ch) : (ab_ir l ∧ ab_ir (M1 26 8)) ∧ (((M1 26 8) ≤ l → (∃ n', n' < n ∧ ((n' = (h1 + 1).toNat ∧ low = l1 ∧ high = h1 ∧ cut = c1 ∧ low - 1 ≤ h1 ∧ h1 ≤ high ∧ sw_I M M1 cut (sw_l M low high (M 26 8).toNat ++ sw_r M cut high (high - h1).toNat) ch)))) ∧ (l < (M1 26 8) → (ab_ir l ∧ M1 26 8 ≤ 4 ∧ 0 ≤ M1 26 8) ∧ (∀ r24 : Int, (r24 = if 0 ≤ l ∧ l < M1 26 8 then M1 392 l.toNat else -1) → (ab_ir r24 ∧ ab_ir l1) ∧ ((r24 < l1 → (∃ n', n' < n ∧ ((n' = (1004 - (l + 1)).toNat ∧ low = l1 ∧ high = h1 ∧ cut = c1 ∧ 0 ≤ (l + 1) ∧ (l + 1) ≤ M 26 8 ∧ sw_I M M1 cut (sw_l M low high (l + 1).toNat) ch)))) ∧ (l1 ≤ r24 → (ab_ir r24 ∧ ab_ir h1) ∧ ((h1 < r24 → (∃ n', n' < n ∧ ((n' = (1004 - (l + 1)).toNat ∧ low = l1 ∧ high = h1 ∧ cut = c1 ∧ 0 ≤ (l + 1) ∧ (l + 1) ≤ M 26 8 ∧ sw_I M M1 cut (sw_l M low high (l + 1).toNat) ch)))) ∧ (r24 ≤ h1 → (-128 ≤ (122 : Int) ∧ (122 : Int) < 128) ∧ ((tv_ok M1 ∧ ts_p M1) ∧ (0 ≤ ((122 : Int) + l) ∧ ((122 : Int) + l) < 130) ∧ ab_ir c1 ∧ ∀ j, ab_ir (M1 774 j)) ∧ (∀ r48 : Int, ∀ M48 : ab_M, (M48 774 = rf_n M1 ((122 : Int) + l) c1 (M1 774) 256 ∧ rn_f M1 M48 ∧ ∀ j, ab_ir (M48 774 j)) → ((r48 = 0 ∧ M48 774 = M1 774 ∨ r48 = 1 ∧ ∃ j : Nat, ¬ M48 774 j = M1 774 j)) → (ab_ir r48) ∧ ((r48 = 0 → (∃ n', n' < n ∧ ((n' = (1004 - (l + 1)).toNat ∧ low = l1 ∧ high = h1 ∧ cut = c1 ∧ 0 ≤ (l + 1) ∧ (l + 1) ≤ M 26 8 ∧ sw_I M M48 cut (sw_l M low high (l + 1).toNat) ch)))) ∧ (¬ r48 = 0 → (∃ n', n' < n ∧ ((n' = (1004 - (l + 1)).toNat ∧ low = l1 ∧ high = h1 ∧ cut = c1 ∧ 0 ≤ (l + 1) ∧ (l + 1) ≤ M 26 8 ∧ sw_I M M48 cut (sw_l M low high (l + 1).toNat) (1 : Int)))))))))))))) := by
  obtain ⟨hn, q1, q2, q3, hl0, hl1, hI⟩ := hI
  subst q1
  subst q2
  subst q3
  obtain ⟨⟨⟨gv, gp⟩, ⟨gr1, gr2, gr3⟩, gc, gn⟩, gK⟩ := hS
  have gp2 := id gp
  obtain ⟨a1, a2, a3, -, -⟩ := gp2
  obtain ⟨hf, hN, hC, hir⟩ := id hI
  have hv1 := ts_e_ok hf.e gv
  have hp1 := ts_p_fr hf.e gp
  have f1 : M1 26 8 = M 26 8 := hf.e.c 26 8 (by decide)
  have f2 : M1 26 3 = M 26 3 := hf.e.c 26 3 (by decide)
  have f3 : ∀ k, M1 392 k = M 392 k := fun k => hf.e.c 392 k (by decide)
  have hch : ch = 0 ∨ ch = 1 := hC.imp And.left And.left
  simp only [f1, f2, f3]
  refine And.intro (by
    first
      | omega
      | exact gc
      | exact ⟨by omega, by omega⟩
      | exact ⟨⟨by omega, by omega⟩, a2.2, a2.1⟩
      | exact ⟨⟨by omega, by omega⟩, a1⟩
      | exact ⟨⟨hv1, hp1⟩, ⟨by omega, by omega⟩, gc, hir⟩
      | exact ⟨⟨hv2, hp2⟩, ⟨by omega, by omega⟩, gc, hir2⟩
      | exact ⟨⟨by omega, by omega⟩, by omega, by omega⟩
      | (split <;> exact ⟨by decide, by decide⟩)) ?_
  refine ⟨?_, ?_⟩
  · intro c15
    refine ⟨_, ?_, rfl, by trivial, by trivial, by trivial, by omega, by omega, ?_⟩
    · omega
    rw [show l.toNat = (M 26 8).toNat by omega] at hI
    rw [show (high - high).toNat = 0 by omega]
    show sw_I _ _ _ (_ ++ []) _
    rw [List.append_nil]
    exact hI
  · intro c15
    refine And.intro (by
      first
        | omega
        | exact gc
        | exact ⟨by omega, by omega⟩
        | exact ⟨⟨by omega, by omega⟩, a2.2, a2.1⟩
        | exact ⟨⟨by omega, by omega⟩, a1⟩
        | exact ⟨⟨hv1, hp1⟩, ⟨by omega, by omega⟩, gc, hir⟩
        | exact ⟨⟨hv2, hp2⟩, ⟨by omega, by omega⟩, gc, hir2⟩
        | exact ⟨⟨by omega, by omega⟩, by omega, by omega⟩
        | (split <;> exact ⟨by decide, by decide⟩)) ?_
    intro r24 hr24
    rw [if_pos ⟨hl0, by omega⟩] at hr24
    have hz24 := a3 l.toNat (by omega)
    refine And.intro (by
      first
        | omega
        | exact gc
        | exact ⟨by omega, by omega⟩
        | exact ⟨⟨by omega, by omega⟩, a2.2, a2.1⟩
        | exact ⟨⟨by omega, by omega⟩, a1⟩
        | exact ⟨⟨hv1, hp1⟩, ⟨by omega, by omega⟩, gc, hir⟩
        | exact ⟨⟨hv2, hp2⟩, ⟨by omega, by omega⟩, gc, hir2⟩
        | exact ⟨⟨by omega, by omega⟩, by omega, by omega⟩
        | (split <;> exact ⟨by decide, by decide⟩)) ?_
    refine ⟨?_, ?_⟩
    · intro c32
      refine ⟨_, ?_, rfl, by trivial, by trivial, by trivial, by omega, by omega, ?_⟩
      · omega
      rw [show (l + 1).toNat = l.toNat + 1 by omega]
      show sw_I _ _ _ (sw_l M low high l.toNat ++ (if low ≤ M 392 l.toNat ∧ M 392 l.toNat ≤ high then [122 + ((l.toNat : Nat) : Int)] else [])) _
      first
        | (rw [if_pos (by omega), show ((l.toNat : Nat) : Int) = l by omega]
           have hnx := hI.next gp hM48
           rcases hr48 with hz | hz
           · first
               | exact hnx.1 hz.2
               | exact absurd hz.1 (by assumption)
           · first
               | exact hnx.2 hz.2
               | exact absurd (hz.1.symm.trans (by assumption)) (by decide))
        | (rw [if_neg (by omega), List.append_nil]
           exact hI)
    · intro c32
      refine And.intro (by
        first
          | omega
          | exact gc
          | exact ⟨by omega, by omega⟩
          | exact ⟨⟨by omega, by omega⟩, a2.2, a2.1⟩
          | exact ⟨⟨by omega, by omega⟩, a1⟩
          | exact ⟨⟨hv1, hp1⟩, ⟨by omega, by omega⟩, gc, hir⟩
          | exact ⟨⟨hv2, hp2⟩, ⟨by omega, by omega⟩, gc, hir2⟩
          | exact ⟨⟨by omega, by omega⟩, by omega, by omega⟩
          | (split <;> exact ⟨by decide, by decide⟩)) ?_
      refine ⟨?_, ?_⟩
      · intro c38
        refine ⟨_, ?_, rfl, by trivial, by trivial, by trivial, by omega, by omega, ?_⟩
        · omega
        rw [show (l + 1).toNat = l.toNat + 1 by omega]
        show sw_I _ _ _ (sw_l M low high l.toNat ++ (if low ≤ M 392 l.toNat ∧ M 392 l.toNat ≤ high then [122 + ((l.toNat : Nat) : Int)] else [])) _
        first
          | (rw [if_pos (by omega), show ((l.toNat : Nat) : Int) = l by omega]
             have hnx := hI.next gp hM48
             rcases hr48 with hz | hz
             · first
                 | exact hnx.1 hz.2
                 | exact absurd hz.1 (by assumption)
             · first
                 | exact hnx.2 hz.2
                 | exact absurd (hz.1.symm.trans (by assumption)) (by decide))
          | (rw [if_neg (by omega), List.append_nil]
             exact hI)
      · intro c38
        refine And.intro (by
          first
            | omega
            | exact gc
            | exact ⟨by omega, by omega⟩
            | exact ⟨⟨by omega, by omega⟩, a2.2, a2.1⟩
            | exact ⟨⟨by omega, by omega⟩, a1⟩
            | exact ⟨⟨hv1, hp1⟩, ⟨by omega, by omega⟩, gc, hir⟩
            | exact ⟨⟨hv2, hp2⟩, ⟨by omega, by omega⟩, gc, hir2⟩
            | exact ⟨⟨by omega, by omega⟩, by omega, by omega⟩
            | (split <;> exact ⟨by decide, by decide⟩)) ?_
        refine And.intro (by
          first
            | omega
            | exact gc
            | exact ⟨by omega, by omega⟩
            | exact ⟨⟨by omega, by omega⟩, a2.2, a2.1⟩
            | exact ⟨⟨by omega, by omega⟩, a1⟩
            | exact ⟨⟨hv1, hp1⟩, ⟨by omega, by omega⟩, gc, hir⟩
            | exact ⟨⟨hv2, hp2⟩, ⟨by omega, by omega⟩, gc, hir2⟩
            | exact ⟨⟨by omega, by omega⟩, by omega, by omega⟩
            | (split <;> exact ⟨by decide, by decide⟩)) ?_
        intro r48 M48 hM48 hr48
        refine And.intro (by
          first
            | omega
            | exact gc
            | exact ⟨by omega, by omega⟩
            | exact ⟨⟨by omega, by omega⟩, a2.2, a2.1⟩
            | exact ⟨⟨by omega, by omega⟩, a1⟩
            | exact ⟨⟨hv1, hp1⟩, ⟨by omega, by omega⟩, gc, hir⟩
            | exact ⟨⟨hv2, hp2⟩, ⟨by omega, by omega⟩, gc, hir2⟩
            | exact ⟨⟨by omega, by omega⟩, by omega, by omega⟩
            | (split <;> exact ⟨by decide, by decide⟩)) ?_
        refine ⟨?_, ?_⟩
        · intro c51
          refine ⟨_, ?_, rfl, by trivial, by trivial, by trivial, by omega, by omega, ?_⟩
          · omega
          rw [show (l + 1).toNat = l.toNat + 1 by omega]
          show sw_I _ _ _ (sw_l M low high l.toNat ++ (if low ≤ M 392 l.toNat ∧ M 392 l.toNat ≤ high then [122 + ((l.toNat : Nat) : Int)] else [])) _
          first
            | (rw [if_pos (by omega), show ((l.toNat : Nat) : Int) = l by omega]
               have hnx := hI.next gp hM48
               rcases hr48 with hz | hz
               · first
                   | exact hnx.1 hz.2
                   | exact absurd hz.1 (by assumption)
               · first
                   | exact hnx.2 hz.2
                   | exact absurd (hz.1.symm.trans (by assumption)) (by decide))
            | (rw [if_neg (by omega), List.append_nil]
               exact hI)
        · intro c51
          refine ⟨_, ?_, rfl, by trivial, by trivial, by trivial, by omega, by omega, ?_⟩
          · omega
          rw [show (l + 1).toNat = l.toNat + 1 by omega]
          show sw_I _ _ _ (sw_l M low high l.toNat ++ (if low ≤ M 392 l.toNat ∧ M 392 l.toNat ≤ high then [122 + ((l.toNat : Nat) : Int)] else [])) _
          first
            | (rw [if_pos (by omega), show ((l.toNat : Nat) : Int) = l by omega]
               have hnx := hI.next gp hM48
               rcases hr48 with hz | hz
               · first
                   | exact hnx.1 hz.2
                   | exact absurd hz.1 (by assumption)
               · first
                   | exact hnx.2 hz.2
                   | exact absurd (hz.1.symm.trans (by assumption)) (by decide))
            | (rw [if_neg (by omega), List.append_nil]
               exact hI)

set_option maxRecDepth 20000 in
theorem vc_X3_sweep_66 (low : Int) (high : Int) (cut : Int) (M : ab_M) (K : List ab_V → ab_M → Prop) (hS : ((tv_ok M ∧ ts_p M) ∧ (0 ≤ low ∧ low ≤ high + 1 ∧ high < M 26 3) ∧ ab_ir cut ∧ ∀ j, ab_ir (M 774 j)) ∧ (∀ rx : Int, ∀ Mx : ab_M, (sw_I M Mx cut (sw_R M low high cut) rx) → (rx = 0 ∨ rx = 1) → K [Xi rx] Mx)) (n : Nat) (l1 : Int) (h1 : Int) (c1 : Int) (ch : Int) (row : Int) (M1 : ab_M) (hI : n = (row + 1).toNat ∧ low = l1 ∧ high = h1 ∧ cut = c1 ∧ low - 1 ≤ row ∧ row ≤ high ∧ sw_I M M1 cut (sw_l M low high (M 26 8).toNat ++ sw_r M cut high (high - row).toNat) ch) : (ab_ir row ∧ ab_ir l1) ∧ ((row < l1 → (ch = 0 ∨ ch = 1) ∧ K [Xi ch] M1) ∧ (l1 ≤ row → (ab_ir row ∧ 0 ≤ M1 26 3 ∧ M1 26 3 ≤ 120) ∧ (∀ o78 : Nat, (o78 = if 0 ≤ row ∧ row < M1 26 3 then 26 + 1 + 1 + 3 * row.toNat else 26 + 362) → (ab_ir c1 ∧ ab_ir (1 : Int)) ∧ ((¬ c1 = (1 : Int) → ((tv_ok M1 ∧ ts_p M1) ∧ (0 ≤ row ∧ row < 130) ∧ ab_ir c1 ∧ ∀ j, ab_ir (M1 774 j)) ∧ (∀ r119 : Int, ∀ M119 : ab_M, (M119 774 = rf_n M1 row c1 (M1 774) 256 ∧ rn_f M1 M119 ∧ ∀ j, ab_ir (M119 774 j)) → ((r119 = 0 ∧ M119 774 = M1 774 ∨ r119 = 1 ∧ ∃ j : Nat, ¬ M119 774 j = M1 774 j)) → (ab_ir r119) ∧ ((r119 = 0 → (∃ n', n' < n ∧ ((n' = ((row + (-1)) + 1).toNat ∧ low = l1 ∧ high = h1 ∧ cut = c1 ∧ low - 1 ≤ (row + (-1)) ∧ (row + (-1)) ≤ high ∧ sw_I M M119 cut (sw_l M low high (M 26 8).toNat ++ sw_r M cut high (high - (row + (-1))).toNat) ch)))) ∧ (¬ r119 = 0 → (∃ n', n' < n ∧ ((n' = ((row + (-1)) + 1).toNat ∧ low = l1 ∧ high = h1 ∧ cut = c1 ∧ low - 1 ≤ (row + (-1)) ∧ (row + (-1)) ≤ high ∧ sw_I M M119 cut (sw_l M low high (M 26 8).toNat ++ sw_r M cut high (high - (row + (-1))).toNat) (1 : Int)))))))) ∧ (c1 = (1 : Int) → (ab_ir (M1 o78 0)) ∧ (∀ r90 : Int, (r90 = if M1 o78 0 = 119 then 1 else 0) → (ab_ir r90) ∧ ((r90 = 0 → ((tv_ok M1 ∧ ts_p M1) ∧ (0 ≤ row ∧ row < 130) ∧ ab_ir c1 ∧ ∀ j, ab_ir (M1 774 j)) ∧ (∀ r119 : Int, ∀ M119 : ab_M, (M119 774 = rf_n M1 row c1 (M1 774) 256 ∧ rn_f M1 M119 ∧ ∀ j, ab_ir (M119 774 j)) → ((r119 = 0 ∧ M119 774 = M1 774 ∨ r119 = 1 ∧ ∃ j : Nat, ¬ M119 774 j = M1 774 j)) → (ab_ir r119) ∧ ((r119 = 0 → (∃ n', n' < n ∧ ((n' = ((row + (-1)) + 1).toNat ∧ low = l1 ∧ high = h1 ∧ cut = c1 ∧ low - 1 ≤ (row + (-1)) ∧ (row + (-1)) ≤ high ∧ sw_I M M119 cut (sw_l M low high (M 26 8).toNat ++ sw_r M cut high (high - (row + (-1))).toNat) ch)))) ∧ (¬ r119 = 0 → (∃ n', n' < n ∧ ((n' = ((row + (-1)) + 1).toNat ∧ low = l1 ∧ high = h1 ∧ cut = c1 ∧ low - 1 ≤ (row + (-1)) ∧ (row + (-1)) ≤ high ∧ sw_I M M119 cut (sw_l M low high (M 26 8).toNat ++ sw_r M cut high (high - (row + (-1))).toNat) (1 : Int)))))))) ∧ (¬ r90 = 0 → (-128 ≤ (126 : Int) ∧ (126 : Int) < 128) ∧ ((tv_ok M1 ∧ ts_p M1) ∧ (0 ≤ ((126 : Int) + (M1 o78 5)) ∧ ((126 : Int) + (M1 o78 5)) < 130) ∧ ab_ir c1 ∧ ∀ j, ab_ir (M1 774 j)) ∧ (∀ r106 : Int, ∀ M106 : ab_M, (M106 774 = rf_n M1 ((126 : Int) + (M1 o78 5)) c1 (M1 774) 256 ∧ rn_f M1 M106 ∧ ∀ j, ab_ir (M106 774 j)) → ((r106 = 0 ∧ M106 774 = M1 774 ∨ r106 = 1 ∧ ∃ j : Nat, ¬ M106 774 j = M1 774 j)) → (ab_ir r106) ∧ ((r106 = 0 → ((tv_ok M106 ∧ ts_p M106) ∧ (0 ≤ row ∧ row < 130) ∧ ab_ir c1 ∧ ∀ j, ab_ir (M106 774 j)) ∧ (∀ r119 : Int, ∀ M119 : ab_M, (M119 774 = rf_n M106 row c1 (M106 774) 256 ∧ rn_f M106 M119 ∧ ∀ j, ab_ir (M119 774 j)) → ((r119 = 0 ∧ M119 774 = M106 774 ∨ r119 = 1 ∧ ∃ j : Nat, ¬ M119 774 j = M106 774 j)) → (ab_ir r119) ∧ ((r119 = 0 → (∃ n', n' < n ∧ ((n' = ((row + (-1)) + 1).toNat ∧ low = l1 ∧ high = h1 ∧ cut = c1 ∧ low - 1 ≤ (row + (-1)) ∧ (row + (-1)) ≤ high ∧ sw_I M M119 cut (sw_l M low high (M 26 8).toNat ++ sw_r M cut high (high - (row + (-1))).toNat) ch)))) ∧ (¬ r119 = 0 → (∃ n', n' < n ∧ ((n' = ((row + (-1)) + 1).toNat ∧ low = l1 ∧ high = h1 ∧ cut = c1 ∧ low - 1 ≤ (row + (-1)) ∧ (row + (-1)) ≤ high ∧ sw_I M M119 cut (sw_l M low high (M 26 8).toNat ++ sw_r M cut high (high - (row + (-1))).toNat) (1 : Int)))))))) ∧ (¬ r106 = 0 → ((tv_ok M106 ∧ ts_p M106) ∧ (0 ≤ row ∧ row < 130) ∧ ab_ir c1 ∧ ∀ j, ab_ir (M106 774 j)) ∧ (∀ r119 : Int, ∀ M119 : ab_M, (M119 774 = rf_n M106 row c1 (M106 774) 256 ∧ rn_f M106 M119 ∧ ∀ j, ab_ir (M119 774 j)) → ((r119 = 0 ∧ M119 774 = M106 774 ∨ r119 = 1 ∧ ∃ j : Nat, ¬ M119 774 j = M106 774 j)) → (ab_ir r119) ∧ ((r119 = 0 → (∃ n', n' < n ∧ ((n' = ((row + (-1)) + 1).toNat ∧ low = l1 ∧ high = h1 ∧ cut = c1 ∧ low - 1 ≤ (row + (-1)) ∧ (row + (-1)) ≤ high ∧ sw_I M M119 cut (sw_l M low high (M 26 8).toNat ++ sw_r M cut high (high - (row + (-1))).toNat) (1 : Int))))) ∧ (¬ r119 = 0 → (∃ n', n' < n ∧ ((n' = ((row + (-1)) + 1).toNat ∧ low = l1 ∧ high = h1 ∧ cut = c1 ∧ low - 1 ≤ (row + (-1)) ∧ (row + (-1)) ≤ high ∧ sw_I M M119 cut (sw_l M low high (M 26 8).toNat ++ sw_r M cut high (high - (row + (-1))).toNat) (1 : Int)))))))))))))))))) := by
  obtain ⟨hn, q1, q2, q3, hl0, hl1, hI⟩ := hI
  subst q1
  subst q2
  subst q3
  obtain ⟨⟨⟨gv, gp⟩, ⟨gr1, gr2, gr3⟩, gc, gn⟩, gK⟩ := hS
  have gp2 := id gp
  obtain ⟨a1, a2, a3, -, -⟩ := gp2
  obtain ⟨hf, hN, hC, hir⟩ := id hI
  have hv1 := ts_e_ok hf.e gv
  have hp1 := ts_p_fr hf.e gp
  have f1 : M1 26 8 = M 26 8 := hf.e.c 26 8 (by decide)
  have f2 : M1 26 3 = M 26 3 := hf.e.c 26 3 (by decide)
  have f3 : ∀ k, M1 392 k = M 392 k := fun k => hf.e.c 392 k (by decide)
  have hch : ch = 0 ∨ ch = 1 := hC.imp And.left And.left
  simp only [f1, f2, f3]
  have hlt66 : cr_wr (low ≤ row → (row + -1 + 1).toNat < n) := fun q => by omega
  refine And.intro (by
    first
      | omega
      | exact gc
      | exact ⟨by omega, by omega⟩
      | exact ⟨⟨by omega, by omega⟩, a2.2, a2.1⟩
      | exact ⟨⟨by omega, by omega⟩, a1⟩
      | exact ⟨⟨hv1, hp1⟩, ⟨by omega, by omega⟩, gc, hir⟩
      | exact ⟨⟨hv2, hp2⟩, ⟨by omega, by omega⟩, gc, hir2⟩
      | exact ⟨⟨by omega, by omega⟩, by omega, by omega⟩
      | (split <;> exact ⟨by decide, by decide⟩)) ?_
  refine ⟨?_, ?_⟩
  · intro c69
    refine And.intro (by
      first
        | omega
        | exact gc
        | exact ⟨by omega, by omega⟩
        | exact ⟨⟨by omega, by omega⟩, a2.2, a2.1⟩
        | exact ⟨⟨by omega, by omega⟩, a1⟩
        | exact ⟨⟨hv1, hp1⟩, ⟨by omega, by omega⟩, gc, hir⟩
        | exact ⟨⟨hv2, hp2⟩, ⟨by omega, by omega⟩, gc, hir2⟩
        | exact ⟨⟨by omega, by omega⟩, by omega, by omega⟩
        | (split <;> exact ⟨by decide, by decide⟩)) ?_
    rw [show (high - row).toNat = (high - low + 1).toNat by omega] at hI
    exact gK _ _ hI hch
  · intro c69
    refine And.intro (by
      first
        | omega
        | exact gc
        | exact ⟨by omega, by omega⟩
        | exact ⟨⟨by omega, by omega⟩, a2.2, a2.1⟩
        | exact ⟨⟨by omega, by omega⟩, a1⟩
        | exact ⟨⟨hv1, hp1⟩, ⟨by omega, by omega⟩, gc, hir⟩
        | exact ⟨⟨hv2, hp2⟩, ⟨by omega, by omega⟩, gc, hir2⟩
        | exact ⟨⟨by omega, by omega⟩, by omega, by omega⟩
        | (split <;> exact ⟨by decide, by decide⟩)) ?_
    intro o78 hr78
    have ho : o78 = st_at M row := hr78
    clear hr78
    subst ho
    have hss := gp.st row
    have hs1 : ∀ k, M1 (st_at M row) k = M (st_at M row) k := hf.e.s hss
    simp only [hs1]
    obtain ⟨-, -, s3, -, -, -, -, -, s9, -⟩ := id hss
    refine And.intro (by
      first
        | omega
        | exact gc
        | exact ⟨by omega, by omega⟩
        | exact ⟨⟨by omega, by omega⟩, a2.2, a2.1⟩
        | exact ⟨⟨by omega, by omega⟩, a1⟩
        | exact ⟨⟨hv1, hp1⟩, ⟨by omega, by omega⟩, gc, hir⟩
        | exact ⟨⟨hv2, hp2⟩, ⟨by omega, by omega⟩, gc, hir2⟩
        | exact ⟨⟨by omega, by omega⟩, by omega, by omega⟩
        | (split <;> exact ⟨by decide, by decide⟩)) ?_
    refine ⟨?_, ?_⟩
    · intro c85
      refine And.intro (by
        first
          | omega
          | exact gc
          | exact ⟨by omega, by omega⟩
          | exact ⟨⟨by omega, by omega⟩, a2.2, a2.1⟩
          | exact ⟨⟨by omega, by omega⟩, a1⟩
          | exact ⟨⟨hv1, hp1⟩, ⟨by omega, by omega⟩, gc, hir⟩
          | exact ⟨⟨hv2, hp2⟩, ⟨by omega, by omega⟩, gc, hir2⟩
          | exact ⟨⟨by omega, by omega⟩, by omega, by omega⟩
          | (split <;> exact ⟨by decide, by decide⟩)) ?_
      intro r119 M119 hM119 hr119
      refine And.intro (by
        first
          | omega
          | exact gc
          | exact ⟨by omega, by omega⟩
          | exact ⟨⟨by omega, by omega⟩, a2.2, a2.1⟩
          | exact ⟨⟨by omega, by omega⟩, a1⟩
          | exact ⟨⟨hv1, hp1⟩, ⟨by omega, by omega⟩, gc, hir⟩
          | exact ⟨⟨hv2, hp2⟩, ⟨by omega, by omega⟩, gc, hir2⟩
          | exact ⟨⟨by omega, by omega⟩, by omega, by omega⟩
          | (split <;> exact ⟨by decide, by decide⟩)) ?_
      refine ⟨?_, ?_⟩
      · intro c122
        refine ⟨_, ?_, rfl, by trivial, by trivial, by trivial, by omega, by omega, ?_⟩
        · exact hlt66 (by assumption)
        rw [show (high - (row + -1)).toNat = (high - row).toNat + 1 by omega]
        show sw_I _ _ _ (_ ++ (sw_r M cut high (high - row).toNat ++ ((if cut = 1 ∧ M (st_at M (high - (((high - row).toNat : Nat) : Int))) 0 = 119 then [126 + M (st_at M (high - (((high - row).toNat : Nat) : Int))) 5] else []) ++ [high - (((high - row).toNat : Nat) : Int)]))) _
        rw [show high - (((high - row).toNat : Nat) : Int) = row by omega, ← List.append_assoc, ← List.append_assoc]
        first
          | (rw [if_pos ⟨by assumption, by assumption⟩]
             have hnx := hI.next gp hM106
             have hI2 : sw_I M M106 cut ((sw_l M low high (M 26 8).toNat ++ sw_r M cut high (high - row).toNat) ++ [126 + M (st_at M row) 5]) (if r106 = 0 then ch else 1) := by
               rcases hr106 with hz | hz
               · rw [if_pos hz.1]; exact hnx.1 hz.2
               · rw [if_neg (by rw [hz.1]; decide)]; exact hnx.2 hz.2
             have hny := hI2.next gp hM119
             rcases hr119 with hz | hz
             · have hw := hny.1 hz.2
               first
                 | (rw [if_pos (by assumption)] at hw; exact hw)
                 | (rw [if_neg (by assumption)] at hw; exact hw)
                 | exact absurd hz.1 (by assumption)
             · first
                 | exact hny.2 hz.2
                 | exact absurd (hz.1.symm.trans (by assumption)) (by decide))
          | (rw [if_neg (fun q => by first | exact absurd q.1 (by assumption) | exact absurd q.2 (by assumption)), List.append_nil]
             have hny := hI.next gp hM119
             rcases hr119 with hz | hz
             · first
                 | exact hny.1 hz.2
                 | exact absurd hz.1 (by assumption)
             · first
                 | exact hny.2 hz.2
                 | exact absurd (hz.1.symm.trans (by assumption)) (by decide))
      · intro c122
        refine ⟨_, ?_, rfl, by trivial, by trivial, by trivial, by omega, by omega, ?_⟩
        · exact hlt66 (by assumption)
        rw [show (high - (row + -1)).toNat = (high - row).toNat + 1 by omega]
        show sw_I _ _ _ (_ ++ (sw_r M cut high (high - row).toNat ++ ((if cut = 1 ∧ M (st_at M (high - (((high - row).toNat : Nat) : Int))) 0 = 119 then [126 + M (st_at M (high - (((high - row).toNat : Nat) : Int))) 5] else []) ++ [high - (((high - row).toNat : Nat) : Int)]))) _
        rw [show high - (((high - row).toNat : Nat) : Int) = row by omega, ← List.append_assoc, ← List.append_assoc]
        first
          | (rw [if_pos ⟨by assumption, by assumption⟩]
             have hnx := hI.next gp hM106
             have hI2 : sw_I M M106 cut ((sw_l M low high (M 26 8).toNat ++ sw_r M cut high (high - row).toNat) ++ [126 + M (st_at M row) 5]) (if r106 = 0 then ch else 1) := by
               rcases hr106 with hz | hz
               · rw [if_pos hz.1]; exact hnx.1 hz.2
               · rw [if_neg (by rw [hz.1]; decide)]; exact hnx.2 hz.2
             have hny := hI2.next gp hM119
             rcases hr119 with hz | hz
             · have hw := hny.1 hz.2
               first
                 | (rw [if_pos (by assumption)] at hw; exact hw)
                 | (rw [if_neg (by assumption)] at hw; exact hw)
                 | exact absurd hz.1 (by assumption)
             · first
                 | exact hny.2 hz.2
                 | exact absurd (hz.1.symm.trans (by assumption)) (by decide))
          | (rw [if_neg (fun q => by first | exact absurd q.1 (by assumption) | exact absurd q.2 (by assumption)), List.append_nil]
             have hny := hI.next gp hM119
             rcases hr119 with hz | hz
             · first
                 | exact hny.1 hz.2
                 | exact absurd hz.1 (by assumption)
             · first
                 | exact hny.2 hz.2
                 | exact absurd (hz.1.symm.trans (by assumption)) (by decide))
    · intro c85
      refine And.intro (by
        first
          | omega
          | exact gc
          | exact ⟨by omega, by omega⟩
          | exact ⟨⟨by omega, by omega⟩, a2.2, a2.1⟩
          | exact ⟨⟨by omega, by omega⟩, a1⟩
          | exact ⟨⟨hv1, hp1⟩, ⟨by omega, by omega⟩, gc, hir⟩
          | exact ⟨⟨hv2, hp2⟩, ⟨by omega, by omega⟩, gc, hir2⟩
          | exact ⟨⟨by omega, by omega⟩, by omega, by omega⟩
          | (split <;> exact ⟨by decide, by decide⟩)) ?_
      intro r90 hr90
      refine And.intro (by
        first
          | omega
          | exact gc
          | exact ⟨by omega, by omega⟩
          | exact ⟨⟨by omega, by omega⟩, a2.2, a2.1⟩
          | exact ⟨⟨by omega, by omega⟩, a1⟩
          | exact ⟨⟨hv1, hp1⟩, ⟨by omega, by omega⟩, gc, hir⟩
          | exact ⟨⟨hv2, hp2⟩, ⟨by omega, by omega⟩, gc, hir2⟩
          | exact ⟨⟨by omega, by omega⟩, by omega, by omega⟩
          | (split <;> exact ⟨by decide, by decide⟩)) ?_
      refine ⟨?_, ?_⟩
      · intro c93
        rw [hr90] at c93
        rw [ab_bf] at c93
        clear hr90 r90
        refine And.intro (by
          first
            | omega
            | exact gc
            | exact ⟨by omega, by omega⟩
            | exact ⟨⟨by omega, by omega⟩, a2.2, a2.1⟩
            | exact ⟨⟨by omega, by omega⟩, a1⟩
            | exact ⟨⟨hv1, hp1⟩, ⟨by omega, by omega⟩, gc, hir⟩
            | exact ⟨⟨hv2, hp2⟩, ⟨by omega, by omega⟩, gc, hir2⟩
            | exact ⟨⟨by omega, by omega⟩, by omega, by omega⟩
            | (split <;> exact ⟨by decide, by decide⟩)) ?_
        intro r119 M119 hM119 hr119
        refine And.intro (by
          first
            | omega
            | exact gc
            | exact ⟨by omega, by omega⟩
            | exact ⟨⟨by omega, by omega⟩, a2.2, a2.1⟩
            | exact ⟨⟨by omega, by omega⟩, a1⟩
            | exact ⟨⟨hv1, hp1⟩, ⟨by omega, by omega⟩, gc, hir⟩
            | exact ⟨⟨hv2, hp2⟩, ⟨by omega, by omega⟩, gc, hir2⟩
            | exact ⟨⟨by omega, by omega⟩, by omega, by omega⟩
            | (split <;> exact ⟨by decide, by decide⟩)) ?_
        refine ⟨?_, ?_⟩
        · intro c122
          refine ⟨_, ?_, rfl, by trivial, by trivial, by trivial, by omega, by omega, ?_⟩
          · exact hlt66 (by assumption)
          rw [show (high - (row + -1)).toNat = (high - row).toNat + 1 by omega]
          show sw_I _ _ _ (_ ++ (sw_r M cut high (high - row).toNat ++ ((if cut = 1 ∧ M (st_at M (high - (((high - row).toNat : Nat) : Int))) 0 = 119 then [126 + M (st_at M (high - (((high - row).toNat : Nat) : Int))) 5] else []) ++ [high - (((high - row).toNat : Nat) : Int)]))) _
          rw [show high - (((high - row).toNat : Nat) : Int) = row by omega, ← List.append_assoc, ← List.append_assoc]
          first
            | (rw [if_pos ⟨by assumption, by assumption⟩]
               have hnx := hI.next gp hM106
               have hI2 : sw_I M M106 cut ((sw_l M low high (M 26 8).toNat ++ sw_r M cut high (high - row).toNat) ++ [126 + M (st_at M row) 5]) (if r106 = 0 then ch else 1) := by
                 rcases hr106 with hz | hz
                 · rw [if_pos hz.1]; exact hnx.1 hz.2
                 · rw [if_neg (by rw [hz.1]; decide)]; exact hnx.2 hz.2
               have hny := hI2.next gp hM119
               rcases hr119 with hz | hz
               · have hw := hny.1 hz.2
                 first
                   | (rw [if_pos (by assumption)] at hw; exact hw)
                   | (rw [if_neg (by assumption)] at hw; exact hw)
                   | exact absurd hz.1 (by assumption)
               · first
                   | exact hny.2 hz.2
                   | exact absurd (hz.1.symm.trans (by assumption)) (by decide))
            | (rw [if_neg (fun q => by first | exact absurd q.1 (by assumption) | exact absurd q.2 (by assumption)), List.append_nil]
               have hny := hI.next gp hM119
               rcases hr119 with hz | hz
               · first
                   | exact hny.1 hz.2
                   | exact absurd hz.1 (by assumption)
               · first
                   | exact hny.2 hz.2
                   | exact absurd (hz.1.symm.trans (by assumption)) (by decide))
        · intro c122
          refine ⟨_, ?_, rfl, by trivial, by trivial, by trivial, by omega, by omega, ?_⟩
          · exact hlt66 (by assumption)
          rw [show (high - (row + -1)).toNat = (high - row).toNat + 1 by omega]
          show sw_I _ _ _ (_ ++ (sw_r M cut high (high - row).toNat ++ ((if cut = 1 ∧ M (st_at M (high - (((high - row).toNat : Nat) : Int))) 0 = 119 then [126 + M (st_at M (high - (((high - row).toNat : Nat) : Int))) 5] else []) ++ [high - (((high - row).toNat : Nat) : Int)]))) _
          rw [show high - (((high - row).toNat : Nat) : Int) = row by omega, ← List.append_assoc, ← List.append_assoc]
          first
            | (rw [if_pos ⟨by assumption, by assumption⟩]
               have hnx := hI.next gp hM106
               have hI2 : sw_I M M106 cut ((sw_l M low high (M 26 8).toNat ++ sw_r M cut high (high - row).toNat) ++ [126 + M (st_at M row) 5]) (if r106 = 0 then ch else 1) := by
                 rcases hr106 with hz | hz
                 · rw [if_pos hz.1]; exact hnx.1 hz.2
                 · rw [if_neg (by rw [hz.1]; decide)]; exact hnx.2 hz.2
               have hny := hI2.next gp hM119
               rcases hr119 with hz | hz
               · have hw := hny.1 hz.2
                 first
                   | (rw [if_pos (by assumption)] at hw; exact hw)
                   | (rw [if_neg (by assumption)] at hw; exact hw)
                   | exact absurd hz.1 (by assumption)
               · first
                   | exact hny.2 hz.2
                   | exact absurd (hz.1.symm.trans (by assumption)) (by decide))
            | (rw [if_neg (fun q => by first | exact absurd q.1 (by assumption) | exact absurd q.2 (by assumption)), List.append_nil]
               have hny := hI.next gp hM119
               rcases hr119 with hz | hz
               · first
                   | exact hny.1 hz.2
                   | exact absurd hz.1 (by assumption)
               · first
                   | exact hny.2 hz.2
                   | exact absurd (hz.1.symm.trans (by assumption)) (by decide))
      · intro c93
        rw [hr90] at c93
        rw [ab_bt] at c93
        clear hr90 r90
        refine And.intro (by
          first
            | omega
            | exact gc
            | exact ⟨by omega, by omega⟩
            | exact ⟨⟨by omega, by omega⟩, a2.2, a2.1⟩
            | exact ⟨⟨by omega, by omega⟩, a1⟩
            | exact ⟨⟨hv1, hp1⟩, ⟨by omega, by omega⟩, gc, hir⟩
            | exact ⟨⟨hv2, hp2⟩, ⟨by omega, by omega⟩, gc, hir2⟩
            | exact ⟨⟨by omega, by omega⟩, by omega, by omega⟩
            | (split <;> exact ⟨by decide, by decide⟩)) ?_
        refine And.intro (by
          first
            | omega
            | exact gc
            | exact ⟨by omega, by omega⟩
            | exact ⟨⟨by omega, by omega⟩, a2.2, a2.1⟩
            | exact ⟨⟨by omega, by omega⟩, a1⟩
            | exact ⟨⟨hv1, hp1⟩, ⟨by omega, by omega⟩, gc, hir⟩
            | exact ⟨⟨hv2, hp2⟩, ⟨by omega, by omega⟩, gc, hir2⟩
            | exact ⟨⟨by omega, by omega⟩, by omega, by omega⟩
            | (split <;> exact ⟨by decide, by decide⟩)) ?_
        intro r106 M106 hM106 hr106
        have hv2 := ts_e_ok hM106.2.1.e hv1
        have hp2 := ts_p_fr hM106.2.1.e hp1
        have hir2 := hM106.2.2
        refine And.intro (by
          first
            | omega
            | exact gc
            | exact ⟨by omega, by omega⟩
            | exact ⟨⟨by omega, by omega⟩, a2.2, a2.1⟩
            | exact ⟨⟨by omega, by omega⟩, a1⟩
            | exact ⟨⟨hv1, hp1⟩, ⟨by omega, by omega⟩, gc, hir⟩
            | exact ⟨⟨hv2, hp2⟩, ⟨by omega, by omega⟩, gc, hir2⟩
            | exact ⟨⟨by omega, by omega⟩, by omega, by omega⟩
            | (split <;> exact ⟨by decide, by decide⟩)) ?_
        refine ⟨?_, ?_⟩
        · intro c109
          refine And.intro (by
            first
              | omega
              | exact gc
              | exact ⟨by omega, by omega⟩
              | exact ⟨⟨by omega, by omega⟩, a2.2, a2.1⟩
              | exact ⟨⟨by omega, by omega⟩, a1⟩
              | exact ⟨⟨hv1, hp1⟩, ⟨by omega, by omega⟩, gc, hir⟩
              | exact ⟨⟨hv2, hp2⟩, ⟨by omega, by omega⟩, gc, hir2⟩
              | exact ⟨⟨by omega, by omega⟩, by omega, by omega⟩
              | (split <;> exact ⟨by decide, by decide⟩)) ?_
          intro r119 M119 hM119 hr119
          refine And.intro (by
            first
              | omega
              | exact gc
              | exact ⟨by omega, by omega⟩
              | exact ⟨⟨by omega, by omega⟩, a2.2, a2.1⟩
              | exact ⟨⟨by omega, by omega⟩, a1⟩
              | exact ⟨⟨hv1, hp1⟩, ⟨by omega, by omega⟩, gc, hir⟩
              | exact ⟨⟨hv2, hp2⟩, ⟨by omega, by omega⟩, gc, hir2⟩
              | exact ⟨⟨by omega, by omega⟩, by omega, by omega⟩
              | (split <;> exact ⟨by decide, by decide⟩)) ?_
          refine ⟨?_, ?_⟩
          · intro c122
            refine ⟨_, ?_, rfl, by trivial, by trivial, by trivial, by omega, by omega, ?_⟩
            · exact hlt66 (by assumption)
            rw [show (high - (row + -1)).toNat = (high - row).toNat + 1 by omega]
            show sw_I _ _ _ (_ ++ (sw_r M cut high (high - row).toNat ++ ((if cut = 1 ∧ M (st_at M (high - (((high - row).toNat : Nat) : Int))) 0 = 119 then [126 + M (st_at M (high - (((high - row).toNat : Nat) : Int))) 5] else []) ++ [high - (((high - row).toNat : Nat) : Int)]))) _
            rw [show high - (((high - row).toNat : Nat) : Int) = row by omega, ← List.append_assoc, ← List.append_assoc]
            first
              | (rw [if_pos ⟨by assumption, by assumption⟩]
                 have hnx := hI.next gp hM106
                 have hI2 : sw_I M M106 cut ((sw_l M low high (M 26 8).toNat ++ sw_r M cut high (high - row).toNat) ++ [126 + M (st_at M row) 5]) (if r106 = 0 then ch else 1) := by
                   rcases hr106 with hz | hz
                   · rw [if_pos hz.1]; exact hnx.1 hz.2
                   · rw [if_neg (by rw [hz.1]; decide)]; exact hnx.2 hz.2
                 have hny := hI2.next gp hM119
                 rcases hr119 with hz | hz
                 · have hw := hny.1 hz.2
                   first
                     | (rw [if_pos (by assumption)] at hw; exact hw)
                     | (rw [if_neg (by assumption)] at hw; exact hw)
                     | exact absurd hz.1 (by assumption)
                 · first
                     | exact hny.2 hz.2
                     | exact absurd (hz.1.symm.trans (by assumption)) (by decide))
              | (rw [if_neg (fun q => by first | exact absurd q.1 (by assumption) | exact absurd q.2 (by assumption)), List.append_nil]
                 have hny := hI.next gp hM119
                 rcases hr119 with hz | hz
                 · first
                     | exact hny.1 hz.2
                     | exact absurd hz.1 (by assumption)
                 · first
                     | exact hny.2 hz.2
                     | exact absurd (hz.1.symm.trans (by assumption)) (by decide))
          · intro c122
            refine ⟨_, ?_, rfl, by trivial, by trivial, by trivial, by omega, by omega, ?_⟩
            · exact hlt66 (by assumption)
            rw [show (high - (row + -1)).toNat = (high - row).toNat + 1 by omega]
            show sw_I _ _ _ (_ ++ (sw_r M cut high (high - row).toNat ++ ((if cut = 1 ∧ M (st_at M (high - (((high - row).toNat : Nat) : Int))) 0 = 119 then [126 + M (st_at M (high - (((high - row).toNat : Nat) : Int))) 5] else []) ++ [high - (((high - row).toNat : Nat) : Int)]))) _
            rw [show high - (((high - row).toNat : Nat) : Int) = row by omega, ← List.append_assoc, ← List.append_assoc]
            first
              | (rw [if_pos ⟨by assumption, by assumption⟩]
                 have hnx := hI.next gp hM106
                 have hI2 : sw_I M M106 cut ((sw_l M low high (M 26 8).toNat ++ sw_r M cut high (high - row).toNat) ++ [126 + M (st_at M row) 5]) (if r106 = 0 then ch else 1) := by
                   rcases hr106 with hz | hz
                   · rw [if_pos hz.1]; exact hnx.1 hz.2
                   · rw [if_neg (by rw [hz.1]; decide)]; exact hnx.2 hz.2
                 have hny := hI2.next gp hM119
                 rcases hr119 with hz | hz
                 · have hw := hny.1 hz.2
                   first
                     | (rw [if_pos (by assumption)] at hw; exact hw)
                     | (rw [if_neg (by assumption)] at hw; exact hw)
                     | exact absurd hz.1 (by assumption)
                 · first
                     | exact hny.2 hz.2
                     | exact absurd (hz.1.symm.trans (by assumption)) (by decide))
              | (rw [if_neg (fun q => by first | exact absurd q.1 (by assumption) | exact absurd q.2 (by assumption)), List.append_nil]
                 have hny := hI.next gp hM119
                 rcases hr119 with hz | hz
                 · first
                     | exact hny.1 hz.2
                     | exact absurd hz.1 (by assumption)
                 · first
                     | exact hny.2 hz.2
                     | exact absurd (hz.1.symm.trans (by assumption)) (by decide))
        · intro c109
          refine And.intro (by
            first
              | omega
              | exact gc
              | exact ⟨by omega, by omega⟩
              | exact ⟨⟨by omega, by omega⟩, a2.2, a2.1⟩
              | exact ⟨⟨by omega, by omega⟩, a1⟩
              | exact ⟨⟨hv1, hp1⟩, ⟨by omega, by omega⟩, gc, hir⟩
              | exact ⟨⟨hv2, hp2⟩, ⟨by omega, by omega⟩, gc, hir2⟩
              | exact ⟨⟨by omega, by omega⟩, by omega, by omega⟩
              | (split <;> exact ⟨by decide, by decide⟩)) ?_
          intro r119 M119 hM119 hr119
          refine And.intro (by
            first
              | omega
              | exact gc
              | exact ⟨by omega, by omega⟩
              | exact ⟨⟨by omega, by omega⟩, a2.2, a2.1⟩
              | exact ⟨⟨by omega, by omega⟩, a1⟩
              | exact ⟨⟨hv1, hp1⟩, ⟨by omega, by omega⟩, gc, hir⟩
              | exact ⟨⟨hv2, hp2⟩, ⟨by omega, by omega⟩, gc, hir2⟩
              | exact ⟨⟨by omega, by omega⟩, by omega, by omega⟩
              | (split <;> exact ⟨by decide, by decide⟩)) ?_
          refine ⟨?_, ?_⟩
          · intro c122
            refine ⟨_, ?_, rfl, by trivial, by trivial, by trivial, by omega, by omega, ?_⟩
            · exact hlt66 (by assumption)
            rw [show (high - (row + -1)).toNat = (high - row).toNat + 1 by omega]
            show sw_I _ _ _ (_ ++ (sw_r M cut high (high - row).toNat ++ ((if cut = 1 ∧ M (st_at M (high - (((high - row).toNat : Nat) : Int))) 0 = 119 then [126 + M (st_at M (high - (((high - row).toNat : Nat) : Int))) 5] else []) ++ [high - (((high - row).toNat : Nat) : Int)]))) _
            rw [show high - (((high - row).toNat : Nat) : Int) = row by omega, ← List.append_assoc, ← List.append_assoc]
            first
              | (rw [if_pos ⟨by assumption, by assumption⟩]
                 have hnx := hI.next gp hM106
                 have hI2 : sw_I M M106 cut ((sw_l M low high (M 26 8).toNat ++ sw_r M cut high (high - row).toNat) ++ [126 + M (st_at M row) 5]) (if r106 = 0 then ch else 1) := by
                   rcases hr106 with hz | hz
                   · rw [if_pos hz.1]; exact hnx.1 hz.2
                   · rw [if_neg (by rw [hz.1]; decide)]; exact hnx.2 hz.2
                 have hny := hI2.next gp hM119
                 rcases hr119 with hz | hz
                 · have hw := hny.1 hz.2
                   first
                     | (rw [if_pos (by assumption)] at hw; exact hw)
                     | (rw [if_neg (by assumption)] at hw; exact hw)
                     | exact absurd hz.1 (by assumption)
                 · first
                     | exact hny.2 hz.2
                     | exact absurd (hz.1.symm.trans (by assumption)) (by decide))
              | (rw [if_neg (fun q => by first | exact absurd q.1 (by assumption) | exact absurd q.2 (by assumption)), List.append_nil]
                 have hny := hI.next gp hM119
                 rcases hr119 with hz | hz
                 · first
                     | exact hny.1 hz.2
                     | exact absurd hz.1 (by assumption)
                 · first
                     | exact hny.2 hz.2
                     | exact absurd (hz.1.symm.trans (by assumption)) (by decide))
          · intro c122
            refine ⟨_, ?_, rfl, by trivial, by trivial, by trivial, by omega, by omega, ?_⟩
            · exact hlt66 (by assumption)
            rw [show (high - (row + -1)).toNat = (high - row).toNat + 1 by omega]
            show sw_I _ _ _ (_ ++ (sw_r M cut high (high - row).toNat ++ ((if cut = 1 ∧ M (st_at M (high - (((high - row).toNat : Nat) : Int))) 0 = 119 then [126 + M (st_at M (high - (((high - row).toNat : Nat) : Int))) 5] else []) ++ [high - (((high - row).toNat : Nat) : Int)]))) _
            rw [show high - (((high - row).toNat : Nat) : Int) = row by omega, ← List.append_assoc, ← List.append_assoc]
            first
              | (rw [if_pos ⟨by assumption, by assumption⟩]
                 have hnx := hI.next gp hM106
                 have hI2 : sw_I M M106 cut ((sw_l M low high (M 26 8).toNat ++ sw_r M cut high (high - row).toNat) ++ [126 + M (st_at M row) 5]) (if r106 = 0 then ch else 1) := by
                   rcases hr106 with hz | hz
                   · rw [if_pos hz.1]; exact hnx.1 hz.2
                   · rw [if_neg (by rw [hz.1]; decide)]; exact hnx.2 hz.2
                 have hny := hI2.next gp hM119
                 rcases hr119 with hz | hz
                 · have hw := hny.1 hz.2
                   first
                     | (rw [if_pos (by assumption)] at hw; exact hw)
                     | (rw [if_neg (by assumption)] at hw; exact hw)
                     | exact absurd hz.1 (by assumption)
                 · first
                     | exact hny.2 hz.2
                     | exact absurd (hz.1.symm.trans (by assumption)) (by decide))
              | (rw [if_neg (fun q => by first | exact absurd q.1 (by assumption) | exact absurd q.2 (by assumption)), List.append_nil]
                 have hny := hI.next gp hM119
                 rcases hr119 with hz | hz
                 · first
                     | exact hny.1 hz.2
                     | exact absurd hz.1 (by assumption)
                 · first
                     | exact hny.2 hz.2
                     | exact absurd (hz.1.symm.trans (by assumption)) (by decide))

set_option maxRecDepth 20000 in
set_option maxHeartbeats 1000000 in
theorem ok_X3_sweep (E : ab_E) : ab_Ok E 6 59 S_X3_sweep := by
  refine ab_mk rq_X3_sweep tk_X3_sweep (rt := 2) (rfl) (cuts := [6, 66]) (G := [(16, S_X1_at), (24, S_X1_loopRow), (53, S_X3_refresh), (62, S_X4_isLoop)]) (List.forall_mem_cons.mpr ⟨⟨1, by decide, ok_X1_at E⟩, List.forall_mem_cons.mpr ⟨⟨1, by decide, ok_X1_loopRow E⟩, List.forall_mem_cons.mpr ⟨⟨5, by decide, ok_X3_refresh E⟩, List.forall_mem_cons.mpr ⟨⟨1, by decide, ok_X4_isLoop E⟩, fun _ h => absurd h List.not_mem_nil⟩⟩⟩⟩) (by decide) 118 rfl ?_
  intro a M K wd wa hS
  unfold S_X3_sweep at hS
  split at hS
  ·
    rename_i low high cut
    refine ⟨Nat.le_of_ble_eq_true rfl, fun pc n L st M1 => match pc, L, st with
      | 6, [.inr (.inr (.inr (768, 3, 0))), .inr (.inl l1), .inr (.inl h1), .inr (.inl c1), .inr (.inl ch), .inr (.inl l), u7_], [] => (n = (1004 - l).toNat ∧ low = l1 ∧ high = h1 ∧ cut = c1 ∧ 0 ≤ l ∧ l ≤ M 26 8 ∧ sw_I M M1 cut (sw_l M low high l.toNat) ch)
      | 66, [.inr (.inr (.inr (768, 3, 0))), .inr (.inl l1), .inr (.inl h1), .inr (.inl c1), .inr (.inl ch), .inr (.inl row), u7_], [] => (n = (row + 1).toNat ∧ low = l1 ∧ high = h1 ∧ cut = c1 ∧ low - 1 ≤ row ∧ row ≤ high ∧ sw_I M M1 cut (sw_l M low high (M 26 8).toNat ++ sw_r M cut high (high - row).toNat) ch)
      | _, _, _ => False, ?_, ?_⟩
    · exact vc_X3_sweep_0 low high cut M K  hS
    · intro pc n L st M1 hI wd1 wL wst
      (try dsimp only at hI)
      split at hI
      ·
        rename_i l1 h1 c1 ch l u7_
        exact vc_X3_sweep_6 low high cut M K  hS n l1 h1 c1 ch l _ hI
      ·
        rename_i l1 h1 c1 ch row u7_
        exact vc_X3_sweep_66 low high cut M K  hS n l1 h1 c1 ch row _ hI
      · exact hI.elim
  · exact hS.elim
