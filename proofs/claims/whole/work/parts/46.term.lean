/-! the class: a term -/
/-- in the middle of a term -/
def cr_tr (M M1 : ab_M) (b len mis : Int) : Prop := b = M 764 2 ∧ cr_fr M M1 ∧ 0 ≤ len ∧ mis ≤ len + 1 ∧ -1 ≤ mis ∧ M1 764 4 = M 764 4 ∧ (¬ M 764 4 < 0 → M1 = M) ∧
  ∀ o p a, cr_ok o p M → cr_st o M a (-9) → cr_st o M1 (a + len) (-9) ∧ 0 ≤ mis ∧ pz_tm ((cr_L o M).drop a.toNat) 1 0 = pz_tm ((cr_L o M).drop (a + len).toNat) mis.toNat len.toNat
theorem cr_c_le (o : Nat) (M : ab_M) (k : Nat) : cr_c o M k ≤ k := pz_pos_le _ _
theorem cr_tr.tok {M M1 M2 : ab_M} {b len mis mis' c : Int} {o p : Nat} {a : Int} (h : cr_tr M M1 b len mis) (hok : cr_ok o p M) (hst : cr_st o M a (-9)) (hc : c = M1 764 3) (hx : 0 < mis) (ht : pz_name c ∨ pz_dig c ∨ pz_two c ∨ c = 33) (hm : mis' = mis + (if pz_two c then 1 else if c = 33 then 0 else -1)) (hM : ∃ j : Nat, cr_to M1 (M1 764 2 + 1) j ∧ M2 = ab_up (ab_up M1 764 2 (j : Int)) 764 3 (cr_sg M1 j)) : cr_tr M M2 b (len + 1) mis' := by
  obtain ⟨h1, h2, h3, h4, h5, h6, h7, h8⟩ := h
  have hok1 := h2.ok hok
  obtain ⟨eL, e1, e2, e3⟩ := h2.L hok.2.2.1
  obtain ⟨j, hj, hM⟩ := hM
  have hne := cr_op_ne hok.2.2.1
  have key : ∀ o' p' a', cr_ok o' p' M → cr_st o' M a' (-9) → cr_st o' M2 (a' + (len + 1)) (-9) ∧ 0 ≤ mis' ∧ pz_tm ((cr_L o' M).drop a'.toNat) 1 0 = pz_tm ((cr_L o' M).drop (a' + (len + 1)).toNat) mis'.toNat (len + 1).toNat := by
    intro o' p' a' hok' hst'
    obtain ⟨g1, g2, g3⟩ := h8 o' p' a' hok' hst'
    have ha0 : 0 ≤ a' := by
      rcases hst' with ⟨-, -, k, -, z⟩ | ⟨z, -⟩
      · omega
      · exact absurd rfl z
    have hok1' := h2.ok hok'
    rcases g1 with ⟨-, z2, k, z3, z4⟩ | ⟨z, -⟩
    · obtain ⟨p1, p2⟩ := cr_pt z3.2.1 z3.2.2.1
      have hlt : (k : Int) < M1 o' 1 := by
        have z5 := z3.2.2.2
        by_cases q : (k : Int) < M1 o' 1
        · exact q
        · rw [if_neg q] at z5
          unfold pz_name pz_dig pz_two at ht
          omega
      rw [if_pos hlt] at p1
      have hcc : c = pz_at (cr_L o' M) (a' + len).toNat := by
        rw [z4, Int.toNat_natCast, ← (h2.L hok'.2.2.1).1, p1, hc, z3.2.2.2, if_pos hlt]
      have hmv := cr_tk hok1' z2 z3 z4 hlt (by rw [← z3.1]; exact hj) hM
      refine ⟨by rw [show a' + (len + 1) = a' + len + 1 by omega]; exact hmv.1, ?_, ?_⟩
      · rw [hm]
        split
        · omega
        · split <;> omega
      · rw [g3, show mis.toNat = (mis - 1).toNat + 1 by omega, show (a' + (len + 1)).toNat = (a' + len).toNat + 1 by omega, show (len + 1).toNat = len.toNat + 1 by omega, pz_tm_step, ← hcc]
        by_cases q1 : pz_two c
        · rw [if_pos q1, hm, if_pos q1, show (mis + 1).toNat = (mis - 1).toNat + 2 by omega]
        · rw [if_neg q1]
          by_cases q2 : c = 33
          · rw [if_pos q2, hm, if_neg q1, if_pos q2, show (mis + 0).toNat = (mis - 1).toNat + 1 by omega]
          · rw [if_neg q2, if_pos (by rcases ht with t | t | t | t; exact Or.inl t; exact Or.inr t; exact absurd t q1; exact absurd t q2), hm, if_neg q1, if_neg q2]
            rfl
    · exact absurd rfl z
  have hfr2 : cr_fr M1 M2 := fun o' k' q => by rw [hM, ab_up_a, if_neg (by omega), ab_up_a, if_neg (by omega)]
  refine ⟨h1, h2.tr hfr2, by omega, ?_, (by have := (key o p a hok hst).2.1; omega), by rw [hM, ab_up_k (by decide), ab_up_k (by decide)]; exact h6, fun q => ?_, key⟩
  · rw [hm]
    split
    · omega
    · split <;> omega
  · exfalso
    obtain ⟨-, -, -, -, -, z, -⟩ := cr_st_b hok hst
    exact q (z.1 rfl)
theorem cr_tr.bd {M M1 : ab_M} {b len mis : Int} {o p : Nat} {a : Int} (h : cr_tr M M1 b len mis) (hok : cr_ok o p M) (hst : cr_st o M a (-9)) : cr_ok o p M1 ∧ cr_st o M1 (a + len) (-9) ∧ len ≤ M o 1 ∧ 0 ≤ mis := by
  obtain ⟨h1, h2, h3, h4, h5, h6, h7, h8⟩ := h
  obtain ⟨g1, g2, g3⟩ := h8 o p a hok hst
  refine ⟨h2.ok hok, g1, ?_, g2⟩
  have ha0 : 0 ≤ a := by
    rcases hst with ⟨-, -, k, -, z⟩ | ⟨z, -⟩
    · omega
    · exact absurd rfl z
  rcases g1 with ⟨-, z2, k, z3, z4⟩ | ⟨z, -⟩
  · have := cr_c_le o M1 k
    have := z3.2.1
    rw [(h2.L hok.2.2.1).2.1] at this
    omega
  · exact absurd rfl z
/-- what the class's term() does -/
def cr_TM (M M' : ab_M) (r : Int) : Prop := ∀ o p a f, cr_ok o p M → cr_st o M a f →
  ((pz_te (cr_L o M) a f).2.2 = -9 → r = M p 11 ∧ ∃ N, cr_fr M N ∧ cr_st o N (pz_te (cr_L o M) a f).2.1 (-9) ∧ M' = ab_up (ab_up (ab_up N (p + 367) (M p 11).toNat (M 764 2)) (p + 368) (M p 11).toNat (pz_te (cr_L o M) a f).1) p 11 (M p 11 + 1)) ∧
  ((pz_te (cr_L o M) a f).2.2 ≠ -9 → r = -1 ∧ cr_fr M M' ∧ cr_st o M' (pz_te (cr_L o M) a f).2.1 (pz_te (cr_L o M) a f).2.2)
theorem cr_uq {o o' p p' : Nat} {M : ab_M} (h : cr_ok o p M) (h2 : cr_ok o' p' M) : o' = o ∧ p' = p := by
  have := h.1; have := h2.1; have := h.2.1; have := h2.2.1
  exact ⟨by omega, by omega⟩
theorem cr_st_uq {o p : Nat} {M : ab_M} {a a' f f' : Int} (hok : cr_ok o p M) (h : cr_st o M a f) (h2 : cr_st o M a' f') : (f = -9 ↔ f' = -9) ∧ (f = -9 → a' = a) := by
  obtain ⟨k, b1, -, -, -, b5, b6⟩ := cr_st_b hok h
  obtain ⟨k', c1, -, -, -, c5, c6⟩ := cr_st_b hok h2
  refine ⟨b5.trans c5.symm, fun q => ?_⟩
  have hkk : k' = k := by have := c1.1; have := b1.1; omega
  subst hkk
  rw [b6 q, c6 ((b5.trans c5.symm).1 q)]
theorem cr_tr.fin {M M1 M' : ab_M} {b len mis r : Int} (h : cr_tr M M1 b len mis) (he : M 764 4 < 0) (hm : mis ≤ 0) (hr : ∀ o p, cr_ok o p M → r = M p 11 ∧ M' = ab_up (ab_up (ab_up M1 (p + 367) (M p 11).toNat b) (p + 368) (M p 11).toNat len) p 11 (M p 11 + 1)) : cr_TM M M' r := by
  intro o p a f hok hst
  obtain ⟨h1, h2, h3, h4, h5, h6, h7, h8⟩ := h
  obtain ⟨-, -, -, -, -, z, -⟩ := cr_st_b hok hst
  have hf := z.2 he
  subst hf
  obtain ⟨g1, g2, g3⟩ := h8 o p a hok hst
  rw [show mis.toNat = 0 by omega, pz_tm_zero] at g3
  have e : pz_te (cr_L o M) a (-9) = (len, a + len, -9) := by
    unfold pz_te
    rw [if_pos rfl, g3]
    show (((len.toNat : Nat) : Int), a + ((len.toNat : Nat) : Int), if true = true then (-9 : Int) else _) = _
    rw [if_pos rfl, show ((len.toNat : Nat) : Int) = len by omega]
  rw [e]
  obtain ⟨r1, r2⟩ := hr o p hok
  exact ⟨fun _ => ⟨r1, M1, h2, g1, by rw [r2, h1]⟩, fun q => absurd rfl q⟩
theorem cr_tr.bad {M M1 M' : ab_M} {b len mis c : Int} (h : cr_tr M M1 b len mis) (he : M 764 4 < 0) (hm : 0 < mis) (hc : c = M1 764 3) (ht : ¬ (pz_name c ∨ pz_dig c ∨ pz_two c ∨ c = 33)) (hM : M' = ab_up M1 764 4 (M1 764 2)) : cr_TM M M' (-1) := by
  intro o p a f hok hst
  obtain ⟨h1, h2, h3, h4, h5, h6, h7, h8⟩ := h
  obtain ⟨-, -, -, -, -, z, -⟩ := cr_st_b hok hst
  have hf := z.2 he
  subst hf
  obtain ⟨g1, g2, g3⟩ := h8 o p a hok hst
  have ha0 : 0 ≤ a := by
    rcases hst with ⟨-, -, k, -, z⟩ | ⟨z, -⟩
    · omega
    · exact absurd rfl z
  have hok1 := h2.ok hok
  have hcc : ¬ (pz_name (pz_at (cr_L o M) (a + len).toNat) ∨ pz_dig (pz_at (cr_L o M) (a + len).toNat)) ∧ ¬ pz_two (pz_at (cr_L o M) (a + len).toNat) ∧ ¬ pz_at (cr_L o M) (a + len).toNat = 33 := by
    rcases g1 with ⟨-, z2, k, z3, z4⟩ | ⟨z, -⟩
    · obtain ⟨p1, p2⟩ := cr_pt z3.2.1 z3.2.2.1
      rw [(h2.L hok.2.2.1).1] at p1
      rw [z4, Int.toNat_natCast, p1]
      have z5 := z3.2.2.2
      rw [← hc] at z5
      by_cases q : (k : Int) < M1 o 1
      · rw [if_pos q] at z5 ⊢
        rw [← z5]
        exact ⟨fun q => ht (by rcases q with q | q; exact Or.inl q; exact Or.inr (Or.inl q)), fun q => ht (Or.inr (Or.inr (Or.inl q))), fun q => ht (Or.inr (Or.inr (Or.inr q)))⟩
      · rw [if_neg q]
        unfold pz_name pz_dig pz_two
        exact ⟨by omega, by omega, by omega⟩
    · exact absurd rfl z
  have g4 := pz_tm_step (cr_L o M) (a + len).toNat (mis - 1).toNat len.toNat
  rw [if_neg hcc.2.1, if_neg hcc.2.2, if_neg hcc.1] at g4
  rw [show mis.toNat = (mis - 1).toNat + 1 by omega, g4] at g3
  have e : pz_te (cr_L o M) a (-9) = (len, a + len, a + len) := by
    unfold pz_te
    rw [if_pos rfl, g3]
    show (((len.toNat : Nat) : Int), a + ((len.toNat : Nat) : Int), if false = true then (-9 : Int) else a + ((len.toNat : Nat) : Int)) = _
    rw [if_neg (by decide), show ((len.toNat : Nat) : Int) = len by omega]
  rw [e]
  refine ⟨fun q => ?_, fun _ => ?_⟩
  · have q : a + len = -9 := q
    omega
  · have := cr_flt hok1 g1 hM
    exact ⟨rfl, h2.tr this.2, this.1⟩
theorem cr_TM_f {M : ab_M} (he : ¬ M 764 4 < 0) : cr_TM M M (-1) := by
  intro o p a f hok hst
  obtain ⟨-, -, -, -, -, z, -⟩ := cr_st_b hok hst
  have hf : f ≠ -9 := fun q => he (z.1 q)
  have e : pz_te (cr_L o M) a f = (0, a, f) := by
    unfold pz_te
    rw [if_neg hf]
  rw [e]
  exact ⟨fun q => absurd q hf, fun _ => ⟨rfl, cr_fr.rf M, hst⟩⟩

def S_X2_term : ab_PT := fun a M K => match a with
  | [.inr (.inr (.inr (764, 2, 0)))] => (cr_rd M ∧ ∀ p : Nat, M 764 1 = (p : Int) → 0 ≤ M p 11 ∧ M p 11 < 64) ∧ (∀ rx : Int, ∀ Mx : ab_M, (cr_TM M Mx rx) → K [Xi rx] Mx)
  | _ => False
set_option maxRecDepth 20000 in
theorem vc_X2_term_0  (M : ab_M) (K : List ab_V → ab_M → Prop) (hS : (cr_rd M ∧ ∀ p : Nat, M 764 1 = (p : Int) → 0 ≤ M p 11 ∧ M p 11 < 64) ∧ (∀ rx : Int, ∀ Mx : ab_M, (cr_TM M Mx rx) → K [Xi rx] Mx)) : (∃ n', ((n' = (M (M 764 0).toNat 1 - (0 : Int) + 1).toNat ∧ cr_tr M M (M 764 2) (0 : Int) (1 : Int)))) := by
  obtain ⟨⟨⟨o, p, hok, a, f, hst⟩, g2⟩, gK⟩ := hS
  exact ⟨_, rfl, rfl, cr_fr.rf M, Int.le_refl 0, by decide, by decide, rfl, fun _ => rfl, fun o' p' a' _ hst' => ⟨by rw [Int.add_zero]; exact hst', by decide, by rw [Int.add_zero]; rfl⟩⟩

set_option maxRecDepth 20000 in
theorem vc_X2_term_9  (M : ab_M) (K : List ab_V → ab_M → Prop) (hS : (cr_rd M ∧ ∀ p : Nat, M 764 1 = (p : Int) → 0 ≤ M p 11 ∧ M p 11 < 64) ∧ (∀ rx : Int, ∀ Mx : ab_M, (cr_TM M Mx rx) → K [Xi rx] Mx)) (n : Nat) (be : Int) (le : Int) (mi : Int) (M1 : ab_M) (hI : n = (M (M 764 0).toNat 1 - le + 1).toNat ∧ cr_tr M M1 be le mi) : (ab_ir (M1 764 4)) ∧ ((0 ≤ (M1 764 4) → (ab_ir (M1 764 4)) ∧ ((0 ≤ (M1 764 4) → K [Xi (-1 : Int)] M1) ∧ ((M1 764 4) < 0 → (0 ≤ (M1 764 1) ∧ ab_wf (Xr ((M1 764 1).toNat) 1 0)) ∧ (0 ≤ M1 ((M1 764 1).toNat) 11 ∧ M1 ((M1 764 1).toNat) 11 ≤ 64) ∧ (∀ r121 : Int, ∀ M121 : ab_M, (M121 = if 64 ≤ M1 ((M1 764 1).toNat) 11 then M1 else ab_up (ab_up (ab_up M1 (((M1 764 1).toNat) + 367) (M1 ((M1 764 1).toNat) 11).toNat be) (((M1 764 1).toNat) + 368) (M1 ((M1 764 1).toNat) 11).toNat le) ((M1 764 1).toNat) 11 (M1 ((M1 764 1).toNat) 11 + 1)) → (r121 = if 64 ≤ M1 ((M1 764 1).toNat) 11 then -1 else M1 ((M1 764 1).toNat) 11) → K [Xi r121] M121)))) ∧ ((M1 764 4) < 0 → (ab_ir mi) ∧ ((mi ≤ 0 → (ab_ir (M1 764 4)) ∧ ((0 ≤ (M1 764 4) → K [Xi (-1 : Int)] M1) ∧ ((M1 764 4) < 0 → (0 ≤ (M1 764 1) ∧ ab_wf (Xr ((M1 764 1).toNat) 1 0)) ∧ (0 ≤ M1 ((M1 764 1).toNat) 11 ∧ M1 ((M1 764 1).toNat) 11 ≤ 64) ∧ (∀ r121 : Int, ∀ M121 : ab_M, (M121 = if 64 ≤ M1 ((M1 764 1).toNat) 11 then M1 else ab_up (ab_up (ab_up M1 (((M1 764 1).toNat) + 367) (M1 ((M1 764 1).toNat) 11).toNat be) (((M1 764 1).toNat) + 368) (M1 ((M1 764 1).toNat) 11).toNat le) ((M1 764 1).toNat) 11 (M1 ((M1 764 1).toNat) 11 + 1)) → (r121 = if 64 ≤ M1 ((M1 764 1).toNat) 11 then -1 else M1 ((M1 764 1).toNat) 11) → K [Xi r121] M121)))) ∧ (0 < mi → (0 ≤ (M1 764 0) ∧ ab_wf (Xr ((M1 764 0).toNat) 6 0)) ∧ (ab_ir le ∧ ab_ir (M1 ((M1 764 0).toNat) 1)) ∧ (((M1 ((M1 764 0).toNat) 1) < le → (ab_ir (M1 764 4)) ∧ ((0 ≤ (M1 764 4) → K [Xi (-1 : Int)] M1) ∧ ((M1 764 4) < 0 → (0 ≤ (M1 764 1) ∧ ab_wf (Xr ((M1 764 1).toNat) 1 0)) ∧ (0 ≤ M1 ((M1 764 1).toNat) 11 ∧ M1 ((M1 764 1).toNat) 11 ≤ 64) ∧ (∀ r121 : Int, ∀ M121 : ab_M, (M121 = if 64 ≤ M1 ((M1 764 1).toNat) 11 then M1 else ab_up (ab_up (ab_up M1 (((M1 764 1).toNat) + 367) (M1 ((M1 764 1).toNat) 11).toNat be) (((M1 764 1).toNat) + 368) (M1 ((M1 764 1).toNat) 11).toNat le) ((M1 764 1).toNat) 11 (M1 ((M1 764 1).toNat) 11 + 1)) → (r121 = if 64 ≤ M1 ((M1 764 1).toNat) 11 then -1 else M1 ((M1 764 1).toNat) 11) → K [Xi r121] M121)))) ∧ (le ≤ (M1 ((M1 764 0).toNat) 1) → (ab_ir (M1 764 3)) ∧ (∀ r35 : Int, (r35 = if 97 ≤ (M1 764 3) ∧ (M1 764 3) ≤ 100 then 1 else 0) → (ab_ir r35) ∧ ((¬ r35 = 0 → ((∃ o p, cr_ok o p M1) ∧ 0 ≤ ((M1 764 2) + (1 : Int)) ∧ ((M1 764 2) + (1 : Int)) ≤ M1 (M1 764 0).toNat 1) ∧ (∀ M102 : ab_M, (∃ j : Nat, cr_to M1 ((M1 764 2) + (1 : Int)) j ∧ M102 = ab_up (ab_up M1 764 2 (j : Int)) 764 3 (cr_sg M1 j)) → (∃ n', n' < n ∧ ((n' = (M (M 764 0).toNat 1 - (le + 1) + 1).toNat ∧ cr_tr M M102 be (le + 1) (mi + (-1))))))) ∧ (r35 = 0 → (ab_ir (M1 764 3)) ∧ (∀ r45 : Int, (r45 = if 48 ≤ (M1 764 3) ∧ (M1 764 3) ≤ 51 then 1 else 0) → (ab_ir r45) ∧ ((r45 = 0 → (ab_ir (M1 764 3)) ∧ (∀ r61 : Int, (r61 = if (M1 764 3) = 43 ∨ (M1 764 3) = 45 ∨ (M1 764 3) = 61 ∨ (M1 764 3) = 60 ∨ (M1 764 3) = 38 ∨ (M1 764 3) = 124 then 1 else 0) → (ab_ir r61) ∧ ((r61 = 0 → (-128 ≤ (33 : Int) ∧ (33 : Int) < 128) ∧ (ab_ir (M1 764 3) ∧ ab_ir (33 : Int)) ∧ (((M1 764 3) = (33 : Int) → ((∃ o p, cr_ok o p M1) ∧ 0 ≤ ((M1 764 2) + (1 : Int)) ∧ ((M1 764 2) + (1 : Int)) ≤ M1 (M1 764 0).toNat 1) ∧ (∀ M102 : ab_M, (∃ j : Nat, cr_to M1 ((M1 764 2) + (1 : Int)) j ∧ M102 = ab_up (ab_up M1 764 2 (j : Int)) 764 3 (cr_sg M1 j)) → (∃ n', n' < n ∧ ((n' = (M (M 764 0).toNat 1 - (le + 1) + 1).toNat ∧ cr_tr M M102 be (le + 1) mi))))) ∧ (¬ (M1 764 3) = (33 : Int) → K [Xi (-1 : Int)] (ab_up M1 764 4 (M1 764 2))))) ∧ (¬ r61 = 0 → ((∃ o p, cr_ok o p M1) ∧ 0 ≤ ((M1 764 2) + (1 : Int)) ∧ ((M1 764 2) + (1 : Int)) ≤ M1 (M1 764 0).toNat 1) ∧ (∀ M102 : ab_M, (∃ j : Nat, cr_to M1 ((M1 764 2) + (1 : Int)) j ∧ M102 = ab_up (ab_up M1 764 2 (j : Int)) 764 3 (cr_sg M1 j)) → (∃ n', n' < n ∧ ((n' = (M (M 764 0).toNat 1 - (le + 1) + 1).toNat ∧ cr_tr M M102 be (le + 1) (mi + 1))))))))) ∧ (¬ r45 = 0 → ((∃ o p, cr_ok o p M1) ∧ 0 ≤ ((M1 764 2) + (1 : Int)) ∧ ((M1 764 2) + (1 : Int)) ≤ M1 (M1 764 0).toNat 1) ∧ (∀ M102 : ab_M, (∃ j : Nat, cr_to M1 ((M1 764 2) + (1 : Int)) j ∧ M102 = ab_up (ab_up M1 764 2 (j : Int)) 764 3 (cr_sg M1 j)) → (∃ n', n' < n ∧ ((n' = (M (M 764 0).toNat 1 - (le + 1) + 1).toNat ∧ cr_tr M M102 be (le + 1) (mi + (-1)))))))))))))))))) := by
  obtain ⟨hn, hI⟩ := hI
  obtain ⟨⟨⟨o, p, hok, a, f, hst⟩, g2⟩, gK⟩ := hS
  obtain ⟨k, b1, b2, b3, b4, b5, b6⟩ := cr_st_b hok hst
  obtain ⟨q1, q2, q3, q4, q5, q6⟩ := id hok
  have hI8 := id hI
  obtain ⟨h1, h2, h3, h4, h5, h6, h7, -⟩ := hI8
  have hb := cr_bd hok
  obtain ⟨g2a, g2b⟩ := g2 p q2
  have hne := cr_op_ne q3
  have e0 : M1 764 0 = (o : Int) := by rw [h2 _ _ (by omega)]; exact q1
  have e1 : M1 764 1 = (p : Int) := by rw [h2 _ _ (by omega)]; exact q2
  have e2 : M1 o 1 = M o 1 := h2 _ _ (by omega)
  have e3 : M1 p 11 = M p 11 := h2 _ _ (by omega)
  have hwo := cr_wo q3
  have hwp := cr_wp q3
  have hall : M 764 4 < 0 → cr_ok o p M1 ∧ cr_st o M1 (a + le) (-9) ∧ le ≤ M o 1 ∧ 0 ≤ mi := fun q => hI.bd hok (by have := b5.2 q; rw [this] at hst; exact hst)
  have hfe : M 764 4 < 0 → f = -9 := b5.2
  simp only [e0, e1, e2, e3, Int.toNat_natCast]
  refine And.intro (by
    rw [h6]; exact b2) ?_
  refine ⟨?_, ?_⟩
  · intro c13
    refine And.intro (by
      rw [h6]; exact b2) ?_
    refine ⟨?_, ?_⟩
    · intro c112
      have e : M1 = M := h7 (by omega)
      rw [e]
      exact gK _ _ (cr_TM_f (by omega))
    · intro c112
      refine And.intro (by
        first
          | exact hwo
          | exact hwp
          | omega) ?_
      refine And.intro (by
        exact ⟨by omega, by omega⟩) ?_
      intro r121 M121 hM121 hr121
      rw [if_neg (by omega)] at hr121 hM121
      refine gK _ _ ?_
      refine hI.fin (by omega) (by first | omega | (exfalso; have := (hall (by omega)).2.2.1; omega)) fun o' p' hok' => ?_
      obtain ⟨u1, u2⟩ := cr_uq hok hok'
      subst u1
      subst u2
      exact ⟨hr121, hM121⟩
  · intro c13
    refine And.intro (by
      have := (hall (by omega)).2.2.1
      exact ⟨by omega, by omega⟩) ?_
    refine ⟨?_, ?_⟩
    · intro c17
      refine And.intro (by
        rw [h6]; exact b2) ?_
      refine ⟨?_, ?_⟩
      · intro c112
        exfalso
        omega
      · intro c112
        refine And.intro (by
          first
            | exact hwo
            | exact hwp
            | omega) ?_
        refine And.intro (by
          exact ⟨by omega, by omega⟩) ?_
        intro r121 M121 hM121 hr121
        rw [if_neg (by omega)] at hr121 hM121
        refine gK _ _ ?_
        refine hI.fin (by omega) (by first | omega | (exfalso; have := (hall (by omega)).2.2.1; omega)) fun o' p' hok' => ?_
        obtain ⟨u1, u2⟩ := cr_uq hok hok'
        subst u1
        subst u2
        exact ⟨hr121, hM121⟩
    · intro c17
      refine And.intro (by
        first
          | exact hwo
          | exact hwp
          | omega) ?_
      refine And.intro (by
        have := (hall (by omega)).2.2.1
        exact ⟨⟨by omega, by omega⟩, by omega, by omega⟩) ?_
      refine ⟨?_, ?_⟩
      · intro c28
        refine And.intro (by
          rw [h6]; exact b2) ?_
        refine ⟨?_, ?_⟩
        · intro c112
          exfalso
          omega
        · intro c112
          refine And.intro (by
            first
              | exact hwo
              | exact hwp
              | omega) ?_
          refine And.intro (by
            exact ⟨by omega, by omega⟩) ?_
          intro r121 M121 hM121 hr121
          rw [if_neg (by omega)] at hr121 hM121
          refine gK _ _ ?_
          refine hI.fin (by omega) (by first | omega | (exfalso; have := (hall (by omega)).2.2.1; omega)) fun o' p' hok' => ?_
          obtain ⟨u1, u2⟩ := cr_uq hok hok'
          subst u1
          subst u2
          exact ⟨hr121, hM121⟩
      · intro c28
        refine And.intro (by
          have hx := hall (by omega)
          obtain ⟨kx, d1, d2, d3, d4, d5, d6⟩ := cr_st_b hx.1 hx.2.1
          exact d3) ?_
        intro r35 hr35
        refine And.intro (by
          rw [hr35]; split <;> exact ⟨by decide, by decide⟩) ?_
        refine ⟨?_, ?_⟩
        · intro c38
          rw [hr35] at c38
          rw [ab_bt] at c38
          clear hr35 r35
          refine And.intro (by
            have hx := hall (by omega)
            obtain ⟨kx, d1, d2, d3, d4, d5, d6⟩ := cr_st_b hx.1 hx.2.1
            have d7 := d1.1
            have hlt : (kx : Int) < M1 o 1 := by
              have z5 := d1.2.2.2
              by_cases q : (kx : Int) < M1 o 1
              · exact q
              · rw [if_neg q] at z5
                omega
            exact ⟨⟨o, p, hx.1⟩, by omega, by omega⟩) ?_
          intro M102 hM102
          have hl := hall (by omega)
          have hst9 := hst
          rw [hfe (by omega)] at hst9
          refine ⟨_, ?_, rfl, hI.tok hok hst9 rfl (by omega) (by unfold pz_name pz_dig pz_two; omega) ?_ hM102⟩
          · have := hl.2.2.1
            rw [hn, q1, Int.toNat_natCast]
            omega
          · unfold pz_two
            first
              | omega
              | ((repeat' split) <;> omega)
        · intro c38
          rw [hr35] at c38
          rw [ab_bf] at c38
          clear hr35 r35
          refine And.intro (by
            have hx := hall (by omega)
            obtain ⟨kx, d1, d2, d3, d4, d5, d6⟩ := cr_st_b hx.1 hx.2.1
            exact d3) ?_
          intro r45 hr45
          refine And.intro (by
            rw [hr45]; split <;> exact ⟨by decide, by decide⟩) ?_
          refine ⟨?_, ?_⟩
          · intro c48
            rw [hr45] at c48
            rw [ab_bf] at c48
            clear hr45 r45
            refine And.intro (by
              have hx := hall (by omega)
              obtain ⟨kx, d1, d2, d3, d4, d5, d6⟩ := cr_st_b hx.1 hx.2.1
              exact d3) ?_
            intro r61 hr61
            refine And.intro (by
              rw [hr61]; split <;> exact ⟨by decide, by decide⟩) ?_
            refine ⟨?_, ?_⟩
            · intro c64
              rw [hr61] at c64
              rw [ab_bf] at c64
              clear hr61 r61
              refine And.intro (by
                first
                  | exact hwo
                  | exact hwp
                  | omega) ?_
              refine And.intro (by
                have hx := hall (by omega)
                obtain ⟨kx, d1, d2, d3, d4, d5, d6⟩ := cr_st_b hx.1 hx.2.1
                exact ⟨d3, by decide, by decide⟩) ?_
              refine ⟨?_, ?_⟩
              · intro c79
                refine And.intro (by
                  have hx := hall (by omega)
                  obtain ⟨kx, d1, d2, d3, d4, d5, d6⟩ := cr_st_b hx.1 hx.2.1
                  have d7 := d1.1
                  have hlt : (kx : Int) < M1 o 1 := by
                    have z5 := d1.2.2.2
                    by_cases q : (kx : Int) < M1 o 1
                    · exact q
                    · rw [if_neg q] at z5
                      omega
                  exact ⟨⟨o, p, hx.1⟩, by omega, by omega⟩) ?_
                intro M102 hM102
                have hl := hall (by omega)
                have hst9 := hst
                rw [hfe (by omega)] at hst9
                refine ⟨_, ?_, rfl, hI.tok hok hst9 rfl (by omega) (by unfold pz_name pz_dig pz_two; omega) ?_ hM102⟩
                · have := hl.2.2.1
                  rw [hn, q1, Int.toNat_natCast]
                  omega
                · unfold pz_two
                  first
                    | omega
                    | ((repeat' split) <;> omega)
              · intro c79
                exact gK _ _ (hI.bad (by omega) (by omega) rfl (by unfold pz_name pz_dig pz_two; omega) rfl)
            · intro c64
              rw [hr61] at c64
              rw [ab_bt] at c64
              clear hr61 r61
              refine And.intro (by
                have hx := hall (by omega)
                obtain ⟨kx, d1, d2, d3, d4, d5, d6⟩ := cr_st_b hx.1 hx.2.1
                have d7 := d1.1
                have hlt : (kx : Int) < M1 o 1 := by
                  have z5 := d1.2.2.2
                  by_cases q : (kx : Int) < M1 o 1
                  · exact q
                  · rw [if_neg q] at z5
                    omega
                exact ⟨⟨o, p, hx.1⟩, by omega, by omega⟩) ?_
              intro M102 hM102
              have hl := hall (by omega)
              have hst9 := hst
              rw [hfe (by omega)] at hst9
              refine ⟨_, ?_, rfl, hI.tok hok hst9 rfl (by omega) (by unfold pz_name pz_dig pz_two; omega) ?_ hM102⟩
              · have := hl.2.2.1
                rw [hn, q1, Int.toNat_natCast]
                omega
              · unfold pz_two
                first
                  | omega
                  | ((repeat' split) <;> omega)
          · intro c48
            rw [hr45] at c48
            rw [ab_bt] at c48
            clear hr45 r45
            refine And.intro (by
              have hx := hall (by omega)
              obtain ⟨kx, d1, d2, d3, d4, d5, d6⟩ := cr_st_b hx.1 hx.2.1
              have d7 := d1.1
              have hlt : (kx : Int) < M1 o 1 := by
                have z5 := d1.2.2.2
                by_cases q : (kx : Int) < M1 o 1
                · exact q
                · rw [if_neg q] at z5
                  omega
              exact ⟨⟨o, p, hx.1⟩, by omega, by omega⟩) ?_
            intro M102 hM102
            have hl := hall (by omega)
            have hst9 := hst
            rw [hfe (by omega)] at hst9
            refine ⟨_, ?_, rfl, hI.tok hok hst9 rfl (by omega) (by unfold pz_name pz_dig pz_two; omega) ?_ hM102⟩
            · have := hl.2.2.1
              rw [hn, q1, Int.toNat_natCast]
              omega
            · unfold pz_two
              first
                | omega
                | ((repeat' split) <;> omega)

set_option maxRecDepth 20000 in
set_option maxHeartbeats 1000000 in
theorem ok_X2_term (E : ab_E) : ab_Ok E 3 44 S_X2_term := by
  refine ab_mk rq_X2_term tk_X2_term (rt := 1) (rfl) (cuts := [9]) (G := [(15, S_X1_addTerm), (36, S_X2_isBinary), (37, S_X2_moveTo), (92, S_X8_isDigit), (96, S_X8_isVariable)]) (List.forall_mem_cons.mpr ⟨⟨1, by decide, ok_X1_addTerm E⟩, List.forall_mem_cons.mpr ⟨⟨1, by decide, ok_X2_isBinary E⟩, List.forall_mem_cons.mpr ⟨⟨2, by decide, ok_X2_moveTo E⟩, List.forall_mem_cons.mpr ⟨⟨1, by decide, ok_X8_isDigit E⟩, List.forall_mem_cons.mpr ⟨⟨1, by decide, ok_X8_isVariable E⟩, fun _ h => absurd h List.not_mem_nil⟩⟩⟩⟩⟩) (by decide) 112 rfl ?_
  intro a M K wd wa hS
  unfold S_X2_term at hS
  split at hS
  ·
    refine ⟨Nat.le_of_ble_eq_true rfl, fun pc n L st M1 => match pc, L, st with
      | 9, [.inr (.inr (.inr (764, 2, 0))), .inr (.inl be), .inr (.inl le), .inr (.inl mi)], [] => (n = (M (M 764 0).toNat 1 - le + 1).toNat ∧ cr_tr M M1 be le mi)
      | _, _, _ => False, ?_, ?_⟩
    · exact vc_X2_term_0  M K  hS
    · intro pc n L st M1 hI wd1 wL wst
      (try dsimp only at hI)
      split at hI
      ·
        rename_i be le mi
        exact vc_X2_term_9  M K  hS n be le mi _ hI
      · exact hI.elim
  · exact hS.elim
