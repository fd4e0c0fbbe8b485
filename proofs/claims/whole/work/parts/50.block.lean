/-! the class: a block begins, ends -/
theorem cr_neq0 {p : Nat} (hp : p = 395 ∨ p = 26) : ¬ p = 764 ∧ ¬ p = 765 ∧ ¬ p = 766 ∧ ¬ p = 767 ∧ ¬ 764 = p ∧ ¬ 765 = p ∧ ¬ 766 = p ∧ ¬ 767 = p := by
  (repeat' (refine And.intro ?_ ?_)) <;> omega
theorem cr_opp {o p : Nat} (h : cr_op o p) : p = 395 ∨ p = 26 := by rcases h with ⟨-, w⟩ | ⟨-, w⟩ <;> omega
/-- what the reader's own state rests on -/
def cr_kp (o p : Nat) (M M' : ab_M) : Prop := M' 764 0 = M 764 0 ∧ M' 764 1 = M 764 1 ∧ M' 764 2 = M 764 2 ∧ M' 764 3 = M 764 3 ∧ M' 764 4 = M 764 4 ∧ M' o 1 = M o 1 ∧ ∀ j, M' (o + 1) j = M (o + 1) j
theorem cr_kp.ok {o p : Nat} {M M' : ab_M} (h : cr_kp o p M M') (hk : cr_ok o p M) : cr_ok o p M' := cr_ok_fr hk ⟨h.1, h.2.1⟩ h.2.2.2.2.2.1 h.2.2.2.2.2.2
theorem cr_kp.L {o p : Nat} {M M' : ab_M} (h : cr_kp o p M M') : cr_L o M' = cr_L o M ∧ ∀ k, cr_c o M' k = cr_c o M k := by
  obtain ⟨-, -, -, -, -, e1, e2⟩ := h
  refine ⟨?_, fun k => ?_⟩
  · show (pz_ls (M' (o + 1)) (M' o 1)).filter _ = _
    rw [e1, pz_ls_congr (g := M (o + 1)) fun j _ => e2 j]
  · show (pz_pos (M' (o + 1)) k).length = _
    rw [pz_pos_f (g := M (o + 1)) fun j _ => e2 j]
theorem cr_kp.st {o p : Nat} {M M' : ab_M} (h : cr_kp o p M M') {a f : Int} (hs : cr_st o M a f) : cr_st o M' a f := by
  obtain ⟨-, ec⟩ := h.L
  obtain ⟨-, -, h2, h3, h4, e1, e2⟩ := h
  have at' : ∀ k, cr_at o M k → cr_at o M' k := fun k ⟨a1, a2, a3, a4⟩ => ⟨by rw [h2]; exact a1, by rw [e1]; exact a2, fun q => by rw [e2]; rw [e1] at q; exact a3 q, by rw [h3, e1, e2]; exact a4⟩
  rcases hs with ⟨s1, s2, k, s3, s4⟩ | ⟨s1, k, e, s3, s4, s5, s6, s7⟩
  · exact Or.inl ⟨s1, by rw [h4]; exact s2, k, at' k s3, by rw [ec]; exact s4⟩
  · exact Or.inr ⟨s1, k, e, at' k s3, by rw [h4]; exact s4, by rw [e1]; exact s5, fun q => by rw [e2]; rw [e1] at q; exact s6 q, by rw [ec]; exact s7⟩
theorem cr_fr.p {o p : Nat} {M M' : ab_M} (h : cr_fr M M') (hop : cr_op o p) : (∀ k, M' p k = M p k) ∧ (∀ k, 5 ≤ k → M' 764 k = M 764 k) ∧ (∀ k, M' 765 k = M 765 k) ∧ (∀ k, M' 766 k = M 766 k) ∧ (∀ k, M' 767 k = M 767 k) := by
  have := cr_opp hop
  exact ⟨fun k => h _ _ (by omega), fun k hk => h _ _ (by omega), fun k => h _ _ (by omega), fun k => h _ _ (by omega), fun k => h _ _ (by omega)⟩
/-- what openBlock does -/
def cr_OB (M M' : ab_M) (row : Int) : Prop := ∀ o p a f, cr_ok o p M → cr_st o M a f →
  ((pz_ps (cr_L o M) 40 a f).2 ≠ -9 → cr_fr M M' ∧ cr_st o M' (pz_ps (cr_L o M) 40 a f).1 (pz_ps (cr_L o M) 40 a f).2) ∧
  ((pz_ps (cr_L o M) 40 a f).2 = -9 → ∃ N, cr_fr M N ∧ cr_st o N (pz_ps (cr_L o M) 40 a f).1 (-9) ∧
    M' = if M (p + 1 + 1 + 3 * row.toNat) 0 = 119 then ab_up (ab_up (ab_up (ab_up (ab_up N 765 (M 764 8).toNat row) 766 (M 764 8).toNat 0) 764 8 (M 764 8 + 1)) 767 (M 764 8 + 1).toNat (-1)) 764 9 (M 764 9 + 1) else ab_up (ab_up (ab_up (ab_up N 765 (M 764 8).toNat row) 766 (M 764 8).toNat 0) 764 8 (M 764 8 + 1)) 767 (M 764 8 + 1).toNat (-1))
/-- what closeBlock does -/
def cr_CB (M M' : ab_M) : Prop := ∀ o p a, cr_ok o p M → cr_st o M a (-9) →
  ((M (p + 1 + 1 + 3 * (M 765 (M 764 8 - 1).toNat).toNat) 0 = 105 ∨ M (p + 1 + 1 + 3 * (M 765 (M 764 8 - 1).toNat).toNat) 0 = 121) ∧ M 766 (M 764 8 - 1).toNat = 0 → ∃ N, cr_fr M N ∧ cr_st o N (pz_ps (cr_L o M) 40 (a + 1) (-9)).1 (pz_ps (cr_L o M) 40 (a + 1) (-9)).2 ∧ M' = ab_up (ab_up N 766 (M 764 8 - 1).toNat 1) 767 (M 764 8).toNat (-1)) ∧
  (¬ ((M (p + 1 + 1 + 3 * (M 765 (M 764 8 - 1).toNat).toNat) 0 = 105 ∨ M (p + 1 + 1 + 3 * (M 765 (M 764 8 - 1).toNat).toNat) 0 = 121) ∧ M 766 (M 764 8 - 1).toNat = 0) → ∃ N, cr_fr M N ∧ cr_st o N (a + 1) (-9) ∧
    M' = if M (p + 1 + 1 + 3 * (M 765 (M 764 8 - 1).toNat).toNat) 0 = 119 then ab_up (ab_up (ab_up N 764 8 (M 764 8 - 1)) (p + 1 + 1 + 3 * (M 765 (M 764 8 - 1).toNat).toNat) 14 (M p 3 - 1)) 764 9 (M 764 9 - 1) else ab_up (ab_up N 764 8 (M 764 8 - 1)) (p + 1 + 1 + 3 * (M 765 (M 764 8 - 1).toNat).toNat) 14 (M p 3 - 1))

def S_X2_openBlock : ab_PT := fun a M K => match a with
  | [.inr (.inr (.inr (764, 2, 0))), .inr (.inl row)] => (∃ o p a f, cr_ok o p M ∧ cr_st o M a f ∧ (0 ≤ M 764 8 ∧ M 764 8 < 120) ∧ (0 ≤ row ∧ row < M p 3 ∧ M p 3 ≤ 120) ∧ ab_ir (M (p + 1 + 1 + 3 * row.toNat) 0)) ∧ (∀ Mx : ab_M, (cr_OB M Mx row) → K [] Mx)
  | _ => False
set_option maxRecDepth 20000 in
theorem vc_X2_openBlock_0 (row : Int) (M : ab_M) (K : List ab_V → ab_M → Prop) (hS : (∃ o p a f, cr_ok o p M ∧ cr_st o M a f ∧ (0 ≤ M 764 8 ∧ M 764 8 < 120) ∧ (0 ≤ row ∧ row < M p 3 ∧ M p 3 ≤ 120) ∧ ab_ir (M (p + 1 + 1 + 3 * row.toNat) 0)) ∧ (∀ Mx : ab_M, (cr_OB M Mx row) → K [] Mx)) : (-128 ≤ (40 : Int) ∧ (40 : Int) < 128) ∧ (cr_rd M ∧ ab_ir (40 : Int) ∧ 0 ≤ (40 : Int)) ∧ (∀ M3 : ab_M, (cr_fr M M3 ∧ ∀ o p a f, cr_ok o p M → cr_st o M a f → cr_st o M3 (pz_ps (cr_L o M) (40 : Int) a f).1 (pz_ps (cr_L o M) (40 : Int) a f).2) → (ab_ir (M3 764 4)) ∧ (((M3 764 4) < 0 → (-128 ≤ (120 : Int) ∧ (120 : Int) < 128) ∧ (ab_ir (M3 764 8) ∧ ab_ir (120 : Int)) ∧ (((M3 764 8) < (120 : Int) → (0 ≤ (M3 764 8) ∧ (M3 764 8) < ((121 : Nat) : Int)) ∧ (0 ≤ (M3 764 8) ∧ (M3 764 8) < ((121 : Nat) : Int)) ∧ (0 ≤ ((M3 764 8) + (1 : Int)) ∧ ((M3 764 8) + (1 : Int)) < ((121 : Nat) : Int)) ∧ (0 ≤ (M3 764 1) ∧ ab_wf (Xr ((M3 764 1).toNat) 1 0)) ∧ (ab_ir row ∧ 0 ≤ (ab_up (ab_up (ab_up (ab_up M3 765 ((M3 764 8).toNat) row) 766 ((M3 764 8).toNat) (0 : Int)) 764 8 ((M3 764 8) + (1 : Int))) 767 (((M3 764 8) + (1 : Int)).toNat) (-1 : Int)) ((M3 764 1).toNat) 3 ∧ (ab_up (ab_up (ab_up (ab_up M3 765 ((M3 764 8).toNat) row) 766 ((M3 764 8).toNat) (0 : Int)) 764 8 ((M3 764 8) + (1 : Int))) 767 (((M3 764 8) + (1 : Int)).toNat) (-1 : Int)) ((M3 764 1).toNat) 3 ≤ 120) ∧ (∀ o77 : Nat, (o77 = if 0 ≤ row ∧ row < (ab_up (ab_up (ab_up (ab_up M3 765 ((M3 764 8).toNat) row) 766 ((M3 764 8).toNat) (0 : Int)) 764 8 ((M3 764 8) + (1 : Int))) 767 (((M3 764 8) + (1 : Int)).toNat) (-1 : Int)) ((M3 764 1).toNat) 3 then ((M3 764 1).toNat) + 1 + 1 + 3 * row.toNat else ((M3 764 1).toNat) + 362) → (ab_ir ((ab_up (ab_up (ab_up (ab_up M3 765 ((M3 764 8).toNat) row) 766 ((M3 764 8).toNat) (0 : Int)) 764 8 ((M3 764 8) + (1 : Int))) 767 (((M3 764 8) + (1 : Int)).toNat) (-1 : Int)) o77 0)) ∧ (∀ r80 : Int, (r80 = if (ab_up (ab_up (ab_up (ab_up M3 765 ((M3 764 8).toNat) row) 766 ((M3 764 8).toNat) (0 : Int)) 764 8 ((M3 764 8) + (1 : Int))) 767 (((M3 764 8) + (1 : Int)).toNat) (-1 : Int)) o77 0 = 119 then 1 else 0) → (ab_ir r80) ∧ ((r80 = 0 → K [] (ab_up (ab_up (ab_up (ab_up M3 765 ((M3 764 8).toNat) row) 766 ((M3 764 8).toNat) (0 : Int)) 764 8 ((M3 764 8) + (1 : Int))) 767 (((M3 764 8) + (1 : Int)).toNat) (-1 : Int))) ∧ (¬ r80 = 0 → K [] (ab_up (ab_up (ab_up (ab_up (ab_up M3 765 ((M3 764 8).toNat) row) 766 ((M3 764 8).toNat) (0 : Int)) 764 8 ((M3 764 8) + (1 : Int))) 767 (((M3 764 8) + (1 : Int)).toNat) (-1 : Int)) 764 9 ((M3 764 9) + (1 : Int)))))))) ∧ ((120 : Int) ≤ (M3 764 8) → K [] (ab_up M3 764 4 (M3 764 2))))) ∧ (0 ≤ (M3 764 4) → K [] M3))) := by
  obtain ⟨⟨o, p, a, f, hok, hst, ⟨g1, g2⟩, ⟨g3, g4, g5⟩, g6⟩, gK⟩ := hS
  have hpp := cr_opp hok.2.2.1
  have hne := cr_neq0 hpp
  have hwp := cr_wp hok.2.2.1
  refine And.intro (by
    first
      | exact hwp
      | exact trivial
      | exact ⟨trivial, trivial⟩
      | exact b2
      | (clear hne; omega)
      | exact ⟨by clear hne; omega, by clear hne; omega⟩
      | exact ⟨⟨by clear hne; omega, by clear hne; omega⟩, ⟨by clear hne; omega, by clear hne; omega⟩⟩
      | exact ⟨⟨by clear hne; omega, by clear hne; omega⟩, trivial, trivial⟩
      | exact ⟨⟨by clear hne; omega, by clear hne; omega⟩, by clear hne; omega, by clear hne; omega⟩
      | (rw [e77]; exact g6)
      | (clear hne; split <;> exact ⟨by omega, by omega⟩)) ?_
  refine And.intro (by
    exact ⟨⟨o, p, hok, a, f, hst⟩, ⟨by decide, by decide⟩, by decide⟩) ?_
  intro M3 hM3
  obtain ⟨hfr, hM3⟩ := hM3
  have hst3 := hM3 o p a f hok hst
  have hok3 := hfr.ok hok
  obtain ⟨k, b1, b2, b3, b4, b5, b6⟩ := cr_st_b hok3 hst3
  obtain ⟨fp, f4, f5, f6, f7⟩ := hfr.p hok.2.2.1
  have e8 : M3 764 8 = M 764 8 := f4 8 (by decide)
  have e9 : M3 764 9 = M 764 9 := f4 9 (by decide)
  have e1 : M3 764 1 = (p : Int) := hok3.2.1
  have hfL : ∀ o' p', cr_ok o' p' M → cr_L o' M3 = cr_L o' M := fun o' p' hk => (hfr.L hk.2.2.1).1
  (try simp only [ab_up_2, hne, Nat.reduceEqDiff, if_false, if_true, Int.toNat_natCast, e1, e8, e9, fp])
  refine And.intro (by
    first
      | exact hwp
      | exact trivial
      | exact ⟨trivial, trivial⟩
      | exact b2
      | (clear hne; omega)
      | exact ⟨by clear hne; omega, by clear hne; omega⟩
      | exact ⟨⟨by clear hne; omega, by clear hne; omega⟩, ⟨by clear hne; omega, by clear hne; omega⟩⟩
      | exact ⟨⟨by clear hne; omega, by clear hne; omega⟩, trivial, trivial⟩
      | exact ⟨⟨by clear hne; omega, by clear hne; omega⟩, by clear hne; omega, by clear hne; omega⟩
      | (rw [e77]; exact g6)
      | (clear hne; split <;> exact ⟨by omega, by omega⟩)) ?_
  refine ⟨?_, ?_⟩
  · intro c10
    refine And.intro (by
      first
        | exact hwp
        | exact trivial
        | exact ⟨trivial, trivial⟩
        | exact b2
        | (clear hne; omega)
        | exact ⟨by clear hne; omega, by clear hne; omega⟩
        | exact ⟨⟨by clear hne; omega, by clear hne; omega⟩, ⟨by clear hne; omega, by clear hne; omega⟩⟩
        | exact ⟨⟨by clear hne; omega, by clear hne; omega⟩, trivial, trivial⟩
        | exact ⟨⟨by clear hne; omega, by clear hne; omega⟩, by clear hne; omega, by clear hne; omega⟩
        | (rw [e77]; exact g6)
        | (clear hne; split <;> exact ⟨by omega, by omega⟩)) ?_
    refine And.intro (by
      first
        | exact hwp
        | exact trivial
        | exact ⟨trivial, trivial⟩
        | exact b2
        | (clear hne; omega)
        | exact ⟨by clear hne; omega, by clear hne; omega⟩
        | exact ⟨⟨by clear hne; omega, by clear hne; omega⟩, ⟨by clear hne; omega, by clear hne; omega⟩⟩
        | exact ⟨⟨by clear hne; omega, by clear hne; omega⟩, trivial, trivial⟩
        | exact ⟨⟨by clear hne; omega, by clear hne; omega⟩, by clear hne; omega, by clear hne; omega⟩
        | (rw [e77]; exact g6)
        | (clear hne; split <;> exact ⟨by omega, by omega⟩)) ?_
    refine ⟨?_, ?_⟩
    · intro c20
      refine And.intro (by
        first
          | exact hwp
          | exact trivial
          | exact ⟨trivial, trivial⟩
          | exact b2
          | (clear hne; omega)
          | exact ⟨by clear hne; omega, by clear hne; omega⟩
          | exact ⟨⟨by clear hne; omega, by clear hne; omega⟩, ⟨by clear hne; omega, by clear hne; omega⟩⟩
          | exact ⟨⟨by clear hne; omega, by clear hne; omega⟩, trivial, trivial⟩
          | exact ⟨⟨by clear hne; omega, by clear hne; omega⟩, by clear hne; omega, by clear hne; omega⟩
          | (rw [e77]; exact g6)
          | (clear hne; split <;> exact ⟨by omega, by omega⟩)) ?_
      refine And.intro (by
        first
          | exact hwp
          | exact trivial
          | exact ⟨trivial, trivial⟩
          | exact b2
          | (clear hne; omega)
          | exact ⟨by clear hne; omega, by clear hne; omega⟩
          | exact ⟨⟨by clear hne; omega, by clear hne; omega⟩, ⟨by clear hne; omega, by clear hne; omega⟩⟩
          | exact ⟨⟨by clear hne; omega, by clear hne; omega⟩, trivial, trivial⟩
          | exact ⟨⟨by clear hne; omega, by clear hne; omega⟩, by clear hne; omega, by clear hne; omega⟩
          | (rw [e77]; exact g6)
          | (clear hne; split <;> exact ⟨by omega, by omega⟩)) ?_
      refine And.intro (by
        first
          | exact hwp
          | exact trivial
          | exact ⟨trivial, trivial⟩
          | exact b2
          | (clear hne; omega)
          | exact ⟨by clear hne; omega, by clear hne; omega⟩
          | exact ⟨⟨by clear hne; omega, by clear hne; omega⟩, ⟨by clear hne; omega, by clear hne; omega⟩⟩
          | exact ⟨⟨by clear hne; omega, by clear hne; omega⟩, trivial, trivial⟩
          | exact ⟨⟨by clear hne; omega, by clear hne; omega⟩, by clear hne; omega, by clear hne; omega⟩
          | (rw [e77]; exact g6)
          | (clear hne; split <;> exact ⟨by omega, by omega⟩)) ?_
      refine And.intro (by
        first
          | exact hwp
          | exact trivial
          | exact ⟨trivial, trivial⟩
          | exact b2
          | (clear hne; omega)
          | exact ⟨by clear hne; omega, by clear hne; omega⟩
          | exact ⟨⟨by clear hne; omega, by clear hne; omega⟩, ⟨by clear hne; omega, by clear hne; omega⟩⟩
          | exact ⟨⟨by clear hne; omega, by clear hne; omega⟩, trivial, trivial⟩
          | exact ⟨⟨by clear hne; omega, by clear hne; omega⟩, by clear hne; omega, by clear hne; omega⟩
          | (rw [e77]; exact g6)
          | (clear hne; split <;> exact ⟨by omega, by omega⟩)) ?_
      refine And.intro (by
        first
          | exact hwp
          | exact trivial
          | exact ⟨trivial, trivial⟩
          | exact b2
          | (clear hne; omega)
          | exact ⟨by clear hne; omega, by clear hne; omega⟩
          | exact ⟨⟨by clear hne; omega, by clear hne; omega⟩, ⟨by clear hne; omega, by clear hne; omega⟩⟩
          | exact ⟨⟨by clear hne; omega, by clear hne; omega⟩, trivial, trivial⟩
          | exact ⟨⟨by clear hne; omega, by clear hne; omega⟩, by clear hne; omega, by clear hne; omega⟩
          | (rw [e77]; exact g6)
          | (clear hne; split <;> exact ⟨by omega, by omega⟩)) ?_
      intro o77 hr77
      have e77 : o77 = p + 1 + 1 + 3 * row.toNat := by clear hne; rw [hr77, if_pos ⟨by omega, by omega⟩]
      have hsn := cr_neq hpp (R := row.toNat) (by clear hne; omega) e77
      have esl : M3 o77 0 = M o77 0 := hfr _ _ (by clear hne hsn; omega)
      (try simp only [ab_up_2, hne, Nat.reduceEqDiff, if_false, if_true, Int.toNat_natCast, e1, e8, e9, fp, hsn, esl])
      clear hsn
      refine And.intro (by
        first
          | exact hwp
          | exact trivial
          | exact ⟨trivial, trivial⟩
          | exact b2
          | (clear hne; omega)
          | exact ⟨by clear hne; omega, by clear hne; omega⟩
          | exact ⟨⟨by clear hne; omega, by clear hne; omega⟩, ⟨by clear hne; omega, by clear hne; omega⟩⟩
          | exact ⟨⟨by clear hne; omega, by clear hne; omega⟩, trivial, trivial⟩
          | exact ⟨⟨by clear hne; omega, by clear hne; omega⟩, by clear hne; omega, by clear hne; omega⟩
          | (rw [e77]; exact g6)
          | (clear hne; split <;> exact ⟨by omega, by omega⟩)) ?_
      intro r80 hr80
      refine And.intro (by
        first
          | exact hwp
          | exact trivial
          | exact ⟨trivial, trivial⟩
          | exact b2
          | (clear hne; omega)
          | exact ⟨by clear hne; omega, by clear hne; omega⟩
          | exact ⟨⟨by clear hne; omega, by clear hne; omega⟩, ⟨by clear hne; omega, by clear hne; omega⟩⟩
          | exact ⟨⟨by clear hne; omega, by clear hne; omega⟩, trivial, trivial⟩
          | exact ⟨⟨by clear hne; omega, by clear hne; omega⟩, by clear hne; omega, by clear hne; omega⟩
          | (rw [e77]; exact g6)
          | (clear hne; split <;> exact ⟨by omega, by omega⟩)) ?_
      refine ⟨?_, ?_⟩
      · intro c83
        rw [hr80] at c83
        rw [ab_bf] at c83
        clear hr80 r80
        refine gK _ (fun o' p' a' f' hok' hst' => ?_)
        obtain ⟨v1, v2⟩ := cr_uq hok hok'
        subst v1
        subst v2
        have hst3' := hM3 o' p' a' f' hok' hst'
        obtain ⟨k', -, -, -, -, c5, -⟩ := cr_st_b hok3 hst3'
        have hf : (pz_ps (cr_L o' M) 40 a' f').2 = -9 := c5.2 c10
        refine ⟨fun q => absurd hf q, fun _ => ⟨M3, hfr, by rw [hf] at hst3'; exact hst3', ?_⟩⟩
        rw [← e77, if_neg c83]
      · intro c83
        rw [hr80] at c83
        rw [ab_bt] at c83
        clear hr80 r80
        refine gK _ (fun o' p' a' f' hok' hst' => ?_)
        obtain ⟨v1, v2⟩ := cr_uq hok hok'
        subst v1
        subst v2
        have hst3' := hM3 o' p' a' f' hok' hst'
        obtain ⟨k', -, -, -, -, c5, -⟩ := cr_st_b hok3 hst3'
        have hf : (pz_ps (cr_L o' M) 40 a' f').2 = -9 := c5.2 c10
        refine ⟨fun q => absurd hf q, fun _ => ⟨M3, hfr, by rw [hf] at hst3'; exact hst3', ?_⟩⟩
        rw [← e77, if_pos c83]
    · intro c20
      exfalso
      clear hne
      omega
  · intro c10
    refine gK _ (fun o' p' a' f' hok' hst' => ?_)
    obtain ⟨v1, v2⟩ := cr_uq hok hok'
    subst v1
    subst v2
    have hst3' := hM3 o' p' a' f' hok' hst'
    obtain ⟨k', -, -, -, -, c5, -⟩ := cr_st_b hok3 hst3'
    exact ⟨fun _ => ⟨hfr, hst3'⟩, fun q => absurd (c5.1 q) (by clear hne; omega)⟩

set_option maxRecDepth 20000 in
set_option maxHeartbeats 1000000 in
theorem ok_X2_openBlock (E : ab_E) : ab_Ok E 4 38 S_X2_openBlock := by
  refine ab_mk rq_X2_openBlock tk_X2_openBlock (rt := 0) (rfl) (cuts := []) (G := [(16, S_X1_at), (39, S_X2_pass), (56, S_X4_isLoop)]) (List.forall_mem_cons.mpr ⟨⟨1, by decide, ok_X1_at E⟩, List.forall_mem_cons.mpr ⟨⟨3, by decide, ok_X2_pass E⟩, List.forall_mem_cons.mpr ⟨⟨1, by decide, ok_X4_isLoop E⟩, fun _ h => absurd h List.not_mem_nil⟩⟩⟩) (by decide) 103 rfl ?_
  intro a M K wd wa hS
  unfold S_X2_openBlock at hS
  split at hS
  ·
    rename_i row
    refine ⟨Nat.le_of_ble_eq_true rfl, fun _ _ _ _ _ => False, ?_, ?_⟩
    · exact vc_X2_openBlock_0 row M K  hS
    · exact fun _ _ _ _ _ h => h.elim
  · exact hS.elim
def S_X2_closeBlock : ab_PT := fun a M K => match a with
  | [.inr (.inr (.inr (764, 2, 0)))] => (∃ o p a, cr_ok o p M ∧ cr_st o M a (-9) ∧ M 764 3 = 41 ∧ (1 ≤ M 764 8 ∧ M 764 8 ≤ 120) ∧ (1 ≤ M p 3 ∧ M p 3 ≤ 120) ∧ (0 ≤ M 765 (M 764 8 - 1).toNat ∧ M 765 (M 764 8 - 1).toNat < M p 3) ∧ (M 766 (M 764 8 - 1).toNat = 0 ∨ M 766 (M 764 8 - 1).toNat = 1) ∧ ab_ir (M (p + 1 + 1 + 3 * (M 765 (M 764 8 - 1).toNat).toNat) 0)) ∧ (∀ Mx : ab_M, (cr_CB M Mx) → K [] Mx)
  | _ => False
set_option maxRecDepth 20000 in
theorem vc_X2_closeBlock_0  (M : ab_M) (K : List ab_V → ab_M → Prop) (hS : (∃ o p a, cr_ok o p M ∧ cr_st o M a (-9) ∧ M 764 3 = 41 ∧ (1 ≤ M 764 8 ∧ M 764 8 ≤ 120) ∧ (1 ≤ M p 3 ∧ M p 3 ≤ 120) ∧ (0 ≤ M 765 (M 764 8 - 1).toNat ∧ M 765 (M 764 8 - 1).toNat < M p 3) ∧ (M 766 (M 764 8 - 1).toNat = 0 ∨ M 766 (M 764 8 - 1).toNat = 1) ∧ ab_ir (M (p + 1 + 1 + 3 * (M 765 (M 764 8 - 1).toNat).toNat) 0)) ∧ (∀ Mx : ab_M, (cr_CB M Mx) → K [] Mx)) : ((∃ o p, cr_ok o p M) ∧ 0 ≤ ((M 764 2) + (1 : Int)) ∧ ((M 764 2) + (1 : Int)) ≤ M (M 764 0).toNat 1) ∧ (∀ M7 : ab_M, (∃ j : Nat, cr_to M ((M 764 2) + (1 : Int)) j ∧ M7 = ab_up (ab_up M 764 2 (j : Int)) 764 3 (cr_sg M j)) → (0 ≤ (M7 764 1) ∧ ab_wf (Xr ((M7 764 1).toNat) 1 0)) ∧ (0 ≤ ((M7 764 8) - (1 : Int)) ∧ ((M7 764 8) - (1 : Int)) < ((121 : Nat) : Int)) ∧ (ab_ir (M7 765 (((M7 764 8) - (1 : Int)).toNat)) ∧ 0 ≤ M7 ((M7 764 1).toNat) 3 ∧ M7 ((M7 764 1).toNat) 3 ≤ 120) ∧ (∀ o25 : Nat, (o25 = if 0 ≤ (M7 765 (((M7 764 8) - (1 : Int)).toNat)) ∧ (M7 765 (((M7 764 8) - (1 : Int)).toNat)) < M7 ((M7 764 1).toNat) 3 then ((M7 764 1).toNat) + 1 + 1 + 3 * (M7 765 (((M7 764 8) - (1 : Int)).toNat)).toNat else ((M7 764 1).toNat) + 362) → (ab_ir (M7 o25 0)) ∧ (∀ r30 : Int, (r30 = if M7 o25 0 = 105 ∨ M7 o25 0 = 121 then 1 else 0) → (ab_ir r30) ∧ ((r30 = 0 → (0 ≤ (M7 764 1) ∧ ab_wf (Xr ((M7 764 1).toNat) 1 0)) ∧ (ab_ir ((ab_up (ab_up M7 764 8 ((M7 764 8) - (1 : Int))) o25 14 (((ab_up M7 764 8 ((M7 764 8) - (1 : Int))) ((M7 764 1).toNat) 3) - (1 : Int))) o25 0)) ∧ (∀ r103 : Int, (r103 = if (ab_up (ab_up M7 764 8 ((M7 764 8) - (1 : Int))) o25 14 (((ab_up M7 764 8 ((M7 764 8) - (1 : Int))) ((M7 764 1).toNat) 3) - (1 : Int))) o25 0 = 119 then 1 else 0) → (ab_ir r103) ∧ ((r103 = 0 → K [] (ab_up (ab_up M7 764 8 ((M7 764 8) - (1 : Int))) o25 14 (((ab_up M7 764 8 ((M7 764 8) - (1 : Int))) ((M7 764 1).toNat) 3) - (1 : Int)))) ∧ (¬ r103 = 0 → K [] (ab_up (ab_up (ab_up M7 764 8 ((M7 764 8) - (1 : Int))) o25 14 (((ab_up M7 764 8 ((M7 764 8) - (1 : Int))) ((M7 764 1).toNat) 3) - (1 : Int))) 764 9 (((ab_up (ab_up M7 764 8 ((M7 764 8) - (1 : Int))) o25 14 (((ab_up M7 764 8 ((M7 764 8) - (1 : Int))) ((M7 764 1).toNat) 3) - (1 : Int))) 764 9) - (1 : Int))))))) ∧ (¬ r30 = 0 → (0 ≤ ((M7 764 8) - (1 : Int)) ∧ ((M7 764 8) - (1 : Int)) < ((121 : Nat) : Int)) ∧ (ab_ir (M7 766 (((M7 764 8) - (1 : Int)).toNat))) ∧ ((¬ (M7 766 (((M7 764 8) - (1 : Int)).toNat)) = 0 → (0 ≤ (M7 764 1) ∧ ab_wf (Xr ((M7 764 1).toNat) 1 0)) ∧ (ab_ir ((ab_up (ab_up M7 764 8 ((M7 764 8) - (1 : Int))) o25 14 (((ab_up M7 764 8 ((M7 764 8) - (1 : Int))) ((M7 764 1).toNat) 3) - (1 : Int))) o25 0)) ∧ (∀ r103 : Int, (r103 = if (ab_up (ab_up M7 764 8 ((M7 764 8) - (1 : Int))) o25 14 (((ab_up M7 764 8 ((M7 764 8) - (1 : Int))) ((M7 764 1).toNat) 3) - (1 : Int))) o25 0 = 119 then 1 else 0) → (ab_ir r103) ∧ ((r103 = 0 → K [] (ab_up (ab_up M7 764 8 ((M7 764 8) - (1 : Int))) o25 14 (((ab_up M7 764 8 ((M7 764 8) - (1 : Int))) ((M7 764 1).toNat) 3) - (1 : Int)))) ∧ (¬ r103 = 0 → K [] (ab_up (ab_up (ab_up M7 764 8 ((M7 764 8) - (1 : Int))) o25 14 (((ab_up M7 764 8 ((M7 764 8) - (1 : Int))) ((M7 764 1).toNat) 3) - (1 : Int))) 764 9 (((ab_up (ab_up M7 764 8 ((M7 764 8) - (1 : Int))) o25 14 (((ab_up M7 764 8 ((M7 764 8) - (1 : Int))) ((M7 764 1).toNat) 3) - (1 : Int))) 764 9) - (1 : Int))))))) ∧ ((M7 766 (((M7 764 8) - (1 : Int)).toNat)) = 0 → (-128 ≤ (40 : Int) ∧ (40 : Int) < 128) ∧ (cr_rd M7 ∧ ab_ir (40 : Int) ∧ 0 ≤ (40 : Int)) ∧ (∀ M53 : ab_M, (cr_fr M7 M53 ∧ ∀ o p a f, cr_ok o p M7 → cr_st o M7 a f → cr_st o M53 (pz_ps (cr_L o M7) (40 : Int) a f).1 (pz_ps (cr_L o M7) (40 : Int) a f).2) → (0 ≤ ((M53 764 8) - (1 : Int)) ∧ ((M53 764 8) - (1 : Int)) < ((121 : Nat) : Int)) ∧ (0 ≤ (M53 764 8) ∧ (M53 764 8) < ((121 : Nat) : Int)) ∧ K [] (ab_up (ab_up M53 766 (((M53 764 8) - (1 : Int)).toNat) (1 : Int)) 767 ((M53 764 8).toNat) (-1 : Int)))))))))) := by
  obtain ⟨⟨o, p, a, hok, hst, g0, ⟨g1, g2⟩, ⟨g3, g4⟩, ⟨g5, g6⟩, g7, g8⟩, gK⟩ := hS
  have hpp := cr_opp hok.2.2.1
  have hne := cr_neq0 hpp
  have hwp := cr_wp hok.2.2.1
  obtain ⟨k0, b1, b2, b3, b4, b5, b6⟩ := cr_st_b hok hst
  have hb := cr_bd hok
  have hat := b1.1
  have hlt : (k0 : Int) < M o 1 := by
    have z5 := b1.2.2.2
    by_cases q : (k0 : Int) < M o 1
    · exact q
    · rw [if_neg q] at z5
      clear hne
      omega
  have he : M 764 4 = -1 := by
    rcases hst with ⟨-, z, -⟩ | ⟨z, -⟩
    · exact z
    · exact absurd rfl z
  refine And.intro (by
    exact ⟨⟨o, p, hok⟩, by clear hne; omega, by rw [hok.1, Int.toNat_natCast]; clear hne; omega⟩) ?_
  intro M7 hM7
  obtain ⟨j7, hj7, hM7⟩ := hM7
  have htk := cr_tk hok he b1 (b6 rfl) hlt (by rw [← hat]; exact hj7) hM7
  have hfr := htk.2
  have hst7 := htk.1
  have hok7 := hfr.ok hok
  obtain ⟨fp, f4, f5, f6, f7⟩ := hfr.p hok.2.2.1
  have e8 : M7 764 8 = M 764 8 := f4 8 (by decide)
  have e9 : M7 764 9 = M 764 9 := f4 9 (by decide)
  have e1 : M7 764 1 = (p : Int) := hok7.2.1
  simp only [e8, e1, f5, f6, f7, fp, Int.toNat_natCast]
  refine And.intro (by
    first
      | exact hwp
      | exact trivial
      | exact ⟨trivial, trivial⟩
      | exact g8
      | (clear hne; (try clear hsn); omega)
      | exact ⟨by clear hne; (try clear hsn); omega, by clear hne; (try clear hsn); omega⟩
      | exact ⟨⟨by clear hne; (try clear hsn); omega, by clear hne; (try clear hsn); omega⟩, ⟨by clear hne; (try clear hsn); omega, by clear hne; (try clear hsn); omega⟩⟩
      | exact ⟨⟨by clear hne; (try clear hsn); omega, by clear hne; (try clear hsn); omega⟩, trivial, trivial⟩
      | exact ⟨⟨by clear hne; (try clear hsn); omega, by clear hne; (try clear hsn); omega⟩, by clear hne; (try clear hsn); omega, by clear hne; (try clear hsn); omega⟩
      | exact g8
      | (clear hne; (try clear hsn); rcases g7 with q | q <;> (rw [q]; exact ⟨by decide, by decide⟩))
      | (clear hne; (try clear hsn); split <;> exact ⟨by omega, by omega⟩)) ?_
  refine And.intro (by
    first
      | exact hwp
      | exact trivial
      | exact ⟨trivial, trivial⟩
      | exact g8
      | (clear hne; (try clear hsn); omega)
      | exact ⟨by clear hne; (try clear hsn); omega, by clear hne; (try clear hsn); omega⟩
      | exact ⟨⟨by clear hne; (try clear hsn); omega, by clear hne; (try clear hsn); omega⟩, ⟨by clear hne; (try clear hsn); omega, by clear hne; (try clear hsn); omega⟩⟩
      | exact ⟨⟨by clear hne; (try clear hsn); omega, by clear hne; (try clear hsn); omega⟩, trivial, trivial⟩
      | exact ⟨⟨by clear hne; (try clear hsn); omega, by clear hne; (try clear hsn); omega⟩, by clear hne; (try clear hsn); omega, by clear hne; (try clear hsn); omega⟩
      | exact g8
      | (clear hne; (try clear hsn); rcases g7 with q | q <;> (rw [q]; exact ⟨by decide, by decide⟩))
      | (clear hne; (try clear hsn); split <;> exact ⟨by omega, by omega⟩)) ?_
  refine And.intro (by
    first
      | exact hwp
      | exact trivial
      | exact ⟨trivial, trivial⟩
      | exact g8
      | (clear hne; (try clear hsn); omega)
      | exact ⟨by clear hne; (try clear hsn); omega, by clear hne; (try clear hsn); omega⟩
      | exact ⟨⟨by clear hne; (try clear hsn); omega, by clear hne; (try clear hsn); omega⟩, ⟨by clear hne; (try clear hsn); omega, by clear hne; (try clear hsn); omega⟩⟩
      | exact ⟨⟨by clear hne; (try clear hsn); omega, by clear hne; (try clear hsn); omega⟩, trivial, trivial⟩
      | exact ⟨⟨by clear hne; (try clear hsn); omega, by clear hne; (try clear hsn); omega⟩, by clear hne; (try clear hsn); omega, by clear hne; (try clear hsn); omega⟩
      | exact g8
      | (clear hne; (try clear hsn); rcases g7 with q | q <;> (rw [q]; exact ⟨by decide, by decide⟩))
      | (clear hne; (try clear hsn); split <;> exact ⟨by omega, by omega⟩)) ?_
  intro o25 hr25
  have e25 : o25 = p + 1 + 1 + 3 * (M 765 (M 764 8 - 1).toNat).toNat := by clear hne; rw [hr25, if_pos ⟨by omega, by omega⟩]
  have hsn := cr_neq hpp (R := (M 765 (M 764 8 - 1).toNat).toNat) (by clear hne; omega) e25
  have esl : M7 o25 0 = M o25 0 := hfr _ _ (by clear hne hsn; omega)
  rw [← e25] at g8
  (try simp only [ab_up_2, hne, Nat.reduceEqDiff, if_false, if_true, Int.toNat_natCast, e1, e8, e9, fp, f5, f6, f7, hsn, esl])
  refine And.intro (by
    first
      | exact hwp
      | exact trivial
      | exact ⟨trivial, trivial⟩
      | exact g8
      | (clear hne; (try clear hsn); omega)
      | exact ⟨by clear hne; (try clear hsn); omega, by clear hne; (try clear hsn); omega⟩
      | exact ⟨⟨by clear hne; (try clear hsn); omega, by clear hne; (try clear hsn); omega⟩, ⟨by clear hne; (try clear hsn); omega, by clear hne; (try clear hsn); omega⟩⟩
      | exact ⟨⟨by clear hne; (try clear hsn); omega, by clear hne; (try clear hsn); omega⟩, trivial, trivial⟩
      | exact ⟨⟨by clear hne; (try clear hsn); omega, by clear hne; (try clear hsn); omega⟩, by clear hne; (try clear hsn); omega, by clear hne; (try clear hsn); omega⟩
      | exact g8
      | (clear hne; (try clear hsn); rcases g7 with q | q <;> (rw [q]; exact ⟨by decide, by decide⟩))
      | (clear hne; (try clear hsn); split <;> exact ⟨by omega, by omega⟩)) ?_
  intro r30 hr30
  refine And.intro (by
    first
      | exact hwp
      | exact trivial
      | exact ⟨trivial, trivial⟩
      | exact g8
      | (clear hne; (try clear hsn); omega)
      | exact ⟨by clear hne; (try clear hsn); omega, by clear hne; (try clear hsn); omega⟩
      | exact ⟨⟨by clear hne; (try clear hsn); omega, by clear hne; (try clear hsn); omega⟩, ⟨by clear hne; (try clear hsn); omega, by clear hne; (try clear hsn); omega⟩⟩
      | exact ⟨⟨by clear hne; (try clear hsn); omega, by clear hne; (try clear hsn); omega⟩, trivial, trivial⟩
      | exact ⟨⟨by clear hne; (try clear hsn); omega, by clear hne; (try clear hsn); omega⟩, by clear hne; (try clear hsn); omega, by clear hne; (try clear hsn); omega⟩
      | exact g8
      | (clear hne; (try clear hsn); rcases g7 with q | q <;> (rw [q]; exact ⟨by decide, by decide⟩))
      | (clear hne; (try clear hsn); split <;> exact ⟨by omega, by omega⟩)) ?_
  refine ⟨?_, ?_⟩
  · intro c33
    rw [hr30] at c33
    rw [ab_bf] at c33
    clear hr30 r30
    refine And.intro (by
      first
        | exact hwp
        | exact trivial
        | exact ⟨trivial, trivial⟩
        | exact g8
        | (clear hne; (try clear hsn); omega)
        | exact ⟨by clear hne; (try clear hsn); omega, by clear hne; (try clear hsn); omega⟩
        | exact ⟨⟨by clear hne; (try clear hsn); omega, by clear hne; (try clear hsn); omega⟩, ⟨by clear hne; (try clear hsn); omega, by clear hne; (try clear hsn); omega⟩⟩
        | exact ⟨⟨by clear hne; (try clear hsn); omega, by clear hne; (try clear hsn); omega⟩, trivial, trivial⟩
        | exact ⟨⟨by clear hne; (try clear hsn); omega, by clear hne; (try clear hsn); omega⟩, by clear hne; (try clear hsn); omega, by clear hne; (try clear hsn); omega⟩
        | exact g8
        | (clear hne; (try clear hsn); rcases g7 with q | q <;> (rw [q]; exact ⟨by decide, by decide⟩))
        | (clear hne; (try clear hsn); split <;> exact ⟨by omega, by omega⟩)) ?_
    refine And.intro (by
      first
        | exact hwp
        | exact trivial
        | exact ⟨trivial, trivial⟩
        | exact g8
        | (clear hne; (try clear hsn); omega)
        | exact ⟨by clear hne; (try clear hsn); omega, by clear hne; (try clear hsn); omega⟩
        | exact ⟨⟨by clear hne; (try clear hsn); omega, by clear hne; (try clear hsn); omega⟩, ⟨by clear hne; (try clear hsn); omega, by clear hne; (try clear hsn); omega⟩⟩
        | exact ⟨⟨by clear hne; (try clear hsn); omega, by clear hne; (try clear hsn); omega⟩, trivial, trivial⟩
        | exact ⟨⟨by clear hne; (try clear hsn); omega, by clear hne; (try clear hsn); omega⟩, by clear hne; (try clear hsn); omega, by clear hne; (try clear hsn); omega⟩
        | exact g8
        | (clear hne; (try clear hsn); rcases g7 with q | q <;> (rw [q]; exact ⟨by decide, by decide⟩))
        | (clear hne; (try clear hsn); split <;> exact ⟨by omega, by omega⟩)) ?_
    intro r103 hr103
    refine And.intro (by
      first
        | exact hwp
        | exact trivial
        | exact ⟨trivial, trivial⟩
        | exact g8
        | (clear hne; (try clear hsn); omega)
        | exact ⟨by clear hne; (try clear hsn); omega, by clear hne; (try clear hsn); omega⟩
        | exact ⟨⟨by clear hne; (try clear hsn); omega, by clear hne; (try clear hsn); omega⟩, ⟨by clear hne; (try clear hsn); omega, by clear hne; (try clear hsn); omega⟩⟩
        | exact ⟨⟨by clear hne; (try clear hsn); omega, by clear hne; (try clear hsn); omega⟩, trivial, trivial⟩
        | exact ⟨⟨by clear hne; (try clear hsn); omega, by clear hne; (try clear hsn); omega⟩, by clear hne; (try clear hsn); omega, by clear hne; (try clear hsn); omega⟩
        | exact g8
        | (clear hne; (try clear hsn); rcases g7 with q | q <;> (rw [q]; exact ⟨by decide, by decide⟩))
        | (clear hne; (try clear hsn); split <;> exact ⟨by omega, by omega⟩)) ?_
    refine ⟨?_, ?_⟩
    · intro c106
      rw [hr103] at c106
      rw [ab_bf] at c106
      clear hr103 r103
      clear hsn
      refine gK _ (fun o' p' a' hok' hst' => ?_)
      obtain ⟨v1, v2⟩ := cr_uq hok hok'
      subst v1
      subst v2
      have ha : a' = a := (cr_st_uq hok hst hst').2 rfl
      subst ha
      rw [← e25]
      refine ⟨fun q => absurd q (fun q => c33 q.1), fun _ => ⟨M7, hfr, hst7, ?_⟩⟩
      rw [if_neg c106]
    · intro c106
      rw [hr103] at c106
      rw [ab_bt] at c106
      clear hr103 r103
      clear hsn
      refine gK _ (fun o' p' a' hok' hst' => ?_)
      obtain ⟨v1, v2⟩ := cr_uq hok hok'
      subst v1
      subst v2
      have ha : a' = a := (cr_st_uq hok hst hst').2 rfl
      subst ha
      rw [← e25]
      refine ⟨fun q => absurd q (fun q => c33 q.1), fun _ => ⟨M7, hfr, hst7, ?_⟩⟩
      rw [if_pos c106]
  · intro c33
    rw [hr30] at c33
    rw [ab_bt] at c33
    clear hr30 r30
    refine And.intro (by
      first
        | exact hwp
        | exact trivial
        | exact ⟨trivial, trivial⟩
        | exact g8
        | (clear hne; (try clear hsn); omega)
        | exact ⟨by clear hne; (try clear hsn); omega, by clear hne; (try clear hsn); omega⟩
        | exact ⟨⟨by clear hne; (try clear hsn); omega, by clear hne; (try clear hsn); omega⟩, ⟨by clear hne; (try clear hsn); omega, by clear hne; (try clear hsn); omega⟩⟩
        | exact ⟨⟨by clear hne; (try clear hsn); omega, by clear hne; (try clear hsn); omega⟩, trivial, trivial⟩
        | exact ⟨⟨by clear hne; (try clear hsn); omega, by clear hne; (try clear hsn); omega⟩, by clear hne; (try clear hsn); omega, by clear hne; (try clear hsn); omega⟩
        | exact g8
        | (clear hne; (try clear hsn); rcases g7 with q | q <;> (rw [q]; exact ⟨by decide, by decide⟩))
        | (clear hne; (try clear hsn); split <;> exact ⟨by omega, by omega⟩)) ?_
    refine And.intro (by
      first
        | exact hwp
        | exact trivial
        | exact ⟨trivial, trivial⟩
        | exact g8
        | (clear hne; (try clear hsn); omega)
        | exact ⟨by clear hne; (try clear hsn); omega, by clear hne; (try clear hsn); omega⟩
        | exact ⟨⟨by clear hne; (try clear hsn); omega, by clear hne; (try clear hsn); omega⟩, ⟨by clear hne; (try clear hsn); omega, by clear hne; (try clear hsn); omega⟩⟩
        | exact ⟨⟨by clear hne; (try clear hsn); omega, by clear hne; (try clear hsn); omega⟩, trivial, trivial⟩
        | exact ⟨⟨by clear hne; (try clear hsn); omega, by clear hne; (try clear hsn); omega⟩, by clear hne; (try clear hsn); omega, by clear hne; (try clear hsn); omega⟩
        | exact g8
        | (clear hne; (try clear hsn); rcases g7 with q | q <;> (rw [q]; exact ⟨by decide, by decide⟩))
        | (clear hne; (try clear hsn); split <;> exact ⟨by omega, by omega⟩)) ?_
    refine ⟨?_, ?_⟩
    · intro c47
      refine And.intro (by
        first
          | exact hwp
          | exact trivial
          | exact ⟨trivial, trivial⟩
          | exact g8
          | (clear hne; (try clear hsn); omega)
          | exact ⟨by clear hne; (try clear hsn); omega, by clear hne; (try clear hsn); omega⟩
          | exact ⟨⟨by clear hne; (try clear hsn); omega, by clear hne; (try clear hsn); omega⟩, ⟨by clear hne; (try clear hsn); omega, by clear hne; (try clear hsn); omega⟩⟩
          | exact ⟨⟨by clear hne; (try clear hsn); omega, by clear hne; (try clear hsn); omega⟩, trivial, trivial⟩
          | exact ⟨⟨by clear hne; (try clear hsn); omega, by clear hne; (try clear hsn); omega⟩, by clear hne; (try clear hsn); omega, by clear hne; (try clear hsn); omega⟩
          | exact g8
          | (clear hne; (try clear hsn); rcases g7 with q | q <;> (rw [q]; exact ⟨by decide, by decide⟩))
          | (clear hne; (try clear hsn); split <;> exact ⟨by omega, by omega⟩)) ?_
      refine And.intro (by
        first
          | exact hwp
          | exact trivial
          | exact ⟨trivial, trivial⟩
          | exact g8
          | (clear hne; (try clear hsn); omega)
          | exact ⟨by clear hne; (try clear hsn); omega, by clear hne; (try clear hsn); omega⟩
          | exact ⟨⟨by clear hne; (try clear hsn); omega, by clear hne; (try clear hsn); omega⟩, ⟨by clear hne; (try clear hsn); omega, by clear hne; (try clear hsn); omega⟩⟩
          | exact ⟨⟨by clear hne; (try clear hsn); omega, by clear hne; (try clear hsn); omega⟩, trivial, trivial⟩
          | exact ⟨⟨by clear hne; (try clear hsn); omega, by clear hne; (try clear hsn); omega⟩, by clear hne; (try clear hsn); omega, by clear hne; (try clear hsn); omega⟩
          | exact g8
          | (clear hne; (try clear hsn); rcases g7 with q | q <;> (rw [q]; exact ⟨by decide, by decide⟩))
          | (clear hne; (try clear hsn); split <;> exact ⟨by omega, by omega⟩)) ?_
      intro r103 hr103
      refine And.intro (by
        first
          | exact hwp
          | exact trivial
          | exact ⟨trivial, trivial⟩
          | exact g8
          | (clear hne; (try clear hsn); omega)
          | exact ⟨by clear hne; (try clear hsn); omega, by clear hne; (try clear hsn); omega⟩
          | exact ⟨⟨by clear hne; (try clear hsn); omega, by clear hne; (try clear hsn); omega⟩, ⟨by clear hne; (try clear hsn); omega, by clear hne; (try clear hsn); omega⟩⟩
          | exact ⟨⟨by clear hne; (try clear hsn); omega, by clear hne; (try clear hsn); omega⟩, trivial, trivial⟩
          | exact ⟨⟨by clear hne; (try clear hsn); omega, by clear hne; (try clear hsn); omega⟩, by clear hne; (try clear hsn); omega, by clear hne; (try clear hsn); omega⟩
          | exact g8
          | (clear hne; (try clear hsn); rcases g7 with q | q <;> (rw [q]; exact ⟨by decide, by decide⟩))
          | (clear hne; (try clear hsn); split <;> exact ⟨by omega, by omega⟩)) ?_
      refine ⟨?_, ?_⟩
      · intro c106
        rw [hr103] at c106
        rw [ab_bf] at c106
        clear hr103 r103
        clear hsn
        refine gK _ (fun o' p' a' hok' hst' => ?_)
        obtain ⟨v1, v2⟩ := cr_uq hok hok'
        subst v1
        subst v2
        have ha : a' = a := (cr_st_uq hok hst hst').2 rfl
        subst ha
        rw [← e25]
        refine ⟨fun q => absurd q (fun q => c47 q.2), fun _ => ⟨M7, hfr, hst7, ?_⟩⟩
        rw [if_neg c106]
      · intro c106
        rw [hr103] at c106
        rw [ab_bt] at c106
        clear hr103 r103
        clear hsn
        refine gK _ (fun o' p' a' hok' hst' => ?_)
        obtain ⟨v1, v2⟩ := cr_uq hok hok'
        subst v1
        subst v2
        have ha : a' = a := (cr_st_uq hok hst hst').2 rfl
        subst ha
        rw [← e25]
        refine ⟨fun q => absurd q (fun q => c47 q.2), fun _ => ⟨M7, hfr, hst7, ?_⟩⟩
        rw [if_pos c106]
    · intro c47
      refine And.intro (by
        first
          | exact hwp
          | exact trivial
          | exact ⟨trivial, trivial⟩
          | exact g8
          | (clear hne; (try clear hsn); omega)
          | exact ⟨by clear hne; (try clear hsn); omega, by clear hne; (try clear hsn); omega⟩
          | exact ⟨⟨by clear hne; (try clear hsn); omega, by clear hne; (try clear hsn); omega⟩, ⟨by clear hne; (try clear hsn); omega, by clear hne; (try clear hsn); omega⟩⟩
          | exact ⟨⟨by clear hne; (try clear hsn); omega, by clear hne; (try clear hsn); omega⟩, trivial, trivial⟩
          | exact ⟨⟨by clear hne; (try clear hsn); omega, by clear hne; (try clear hsn); omega⟩, by clear hne; (try clear hsn); omega, by clear hne; (try clear hsn); omega⟩
          | exact g8
          | (clear hne; (try clear hsn); rcases g7 with q | q <;> (rw [q]; exact ⟨by decide, by decide⟩))
          | (clear hne; (try clear hsn); split <;> exact ⟨by omega, by omega⟩)) ?_
      refine And.intro (by
        exact ⟨⟨o, p, hok7, a + 1, -9, hst7⟩, ⟨by decide, by decide⟩, by decide⟩) ?_
      intro M53 hM53
      obtain ⟨hfr53, hM53⟩ := hM53
      have hst53 := hM53 o p (a + 1) (-9) hok7 hst7
      obtain ⟨fp', f4', f5', f6', f7'⟩ := hfr53.p hok.2.2.1
      have e8' : M53 764 8 = M 764 8 := (f4' 8 (by decide)).trans e8
      simp only [ab_up_2, e8', Nat.reduceEqDiff, if_false]
      refine And.intro (by
        first
          | exact hwp
          | exact trivial
          | exact ⟨trivial, trivial⟩
          | exact g8
          | (clear hne; (try clear hsn); omega)
          | exact ⟨by clear hne; (try clear hsn); omega, by clear hne; (try clear hsn); omega⟩
          | exact ⟨⟨by clear hne; (try clear hsn); omega, by clear hne; (try clear hsn); omega⟩, ⟨by clear hne; (try clear hsn); omega, by clear hne; (try clear hsn); omega⟩⟩
          | exact ⟨⟨by clear hne; (try clear hsn); omega, by clear hne; (try clear hsn); omega⟩, trivial, trivial⟩
          | exact ⟨⟨by clear hne; (try clear hsn); omega, by clear hne; (try clear hsn); omega⟩, by clear hne; (try clear hsn); omega, by clear hne; (try clear hsn); omega⟩
          | exact g8
          | (clear hne; (try clear hsn); rcases g7 with q | q <;> (rw [q]; exact ⟨by decide, by decide⟩))
          | (clear hne; (try clear hsn); split <;> exact ⟨by omega, by omega⟩)) ?_
      refine And.intro (by
        first
          | exact hwp
          | exact trivial
          | exact ⟨trivial, trivial⟩
          | exact g8
          | (clear hne; (try clear hsn); omega)
          | exact ⟨by clear hne; (try clear hsn); omega, by clear hne; (try clear hsn); omega⟩
          | exact ⟨⟨by clear hne; (try clear hsn); omega, by clear hne; (try clear hsn); omega⟩, ⟨by clear hne; (try clear hsn); omega, by clear hne; (try clear hsn); omega⟩⟩
          | exact ⟨⟨by clear hne; (try clear hsn); omega, by clear hne; (try clear hsn); omega⟩, trivial, trivial⟩
          | exact ⟨⟨by clear hne; (try clear hsn); omega, by clear hne; (try clear hsn); omega⟩, by clear hne; (try clear hsn); omega, by clear hne; (try clear hsn); omega⟩
          | exact g8
          | (clear hne; (try clear hsn); rcases g7 with q | q <;> (rw [q]; exact ⟨by decide, by decide⟩))
          | (clear hne; (try clear hsn); split <;> exact ⟨by omega, by omega⟩)) ?_
      clear hsn
      refine gK _ (fun o' p' a' hok' hst' => ?_)
      obtain ⟨v1, v2⟩ := cr_uq hok hok'
      subst v1
      subst v2
      have ha : a' = a := (cr_st_uq hok hst hst').2 rfl
      subst ha
      rw [← e25]
      refine ⟨fun _ => ⟨M53, hfr.tr hfr53, by rw [← (hfr.L hok.2.2.1).1]; exact hst53, ?_⟩, fun q => absurd ⟨c33, c47⟩ q⟩
      rfl

set_option maxRecDepth 20000 in
set_option maxHeartbeats 1000000 in
theorem ok_X2_closeBlock (E : ab_E) : ab_Ok E 4 34 S_X2_closeBlock := by
  refine ab_mk rq_X2_closeBlock tk_X2_closeBlock (rt := 0) (rfl) (cuts := []) (G := [(16, S_X1_at), (37, S_X2_moveTo), (39, S_X2_pass), (55, S_X4_hasTwoBlocks), (56, S_X4_isLoop)]) (List.forall_mem_cons.mpr ⟨⟨1, by decide, ok_X1_at E⟩, List.forall_mem_cons.mpr ⟨⟨2, by decide, ok_X2_moveTo E⟩, List.forall_mem_cons.mpr ⟨⟨3, by decide, ok_X2_pass E⟩, List.forall_mem_cons.mpr ⟨⟨1, by decide, ok_X4_hasTwoBlocks E⟩, List.forall_mem_cons.mpr ⟨⟨1, by decide, ok_X4_isLoop E⟩, fun _ h => absurd h List.not_mem_nil⟩⟩⟩⟩⟩) (by decide) 119 rfl ?_
  intro a M K wd wa hS
  unfold S_X2_closeBlock at hS
  split at hS
  ·
    refine ⟨Nat.le_of_ble_eq_true rfl, fun _ _ _ _ _ => False, ?_, ?_⟩
    · exact vc_X2_closeBlock_0  M K  hS
    · exact fun _ _ _ _ _ h => h.elim
  · exact hS.elim
