/-! the reference: a block ends -/
/-- a block's end: the open one o, those around it -/
def pz_cl (ls : List Int) (E : List pz_Ev) (o : Nat) (op : List Nat) (a : Int) : Int ⊕ (List pz_Ev × List Nat × Int) :=
  if (E.getD o pz_d0).2.1 = 0 ∨ (E.getD o pz_d0).2.1 = 3 then pz_pop ls (E ++ [(10, (E.getD o pz_d0).2.1, 0, 0, 0, 0, 0, (E.getD o pz_d0).2.2.2.2.2.2.2)]) op (a + 1) (if (E.getD o pz_d0).2.1 = 0 then 1 else 4) (E.getD o pz_d0).2.2.2.2.2.2.2
  else .inr (E ++ [(10, (E.getD o pz_d0).2.1, 0, 0, 0, 0, 0, (E.getD o pz_d0).2.2.2.2.2.2.2)], op, a + 1)
def pz_c2 (M : ab_M) : ab_M := ab_up (ab_up (ab_up (ab_up (ab_up (ab_up M 797 24 (M 797 24 + 1)) 797 27 (M 797 27 - 1)) 805 (M 797 10).toNat 10) 806 (M 797 10).toNat (M 806 (M 815 (M 797 27 - 1).toNat).toNat)) 812 (M 797 10).toNat (M 812 (M 815 (M 797 27 - 1).toNat).toNat)) 797 10 (M 797 10 + 1)
theorem pz_c2_pf (M : ab_M) : pz_pf M (pz_c2 M) := by
  refine ⟨fun o k a b => ?_, fun k a b c d e f g => ?_⟩
  · unfold pz_c2
    simp only [ab_up_a]
    rw [if_neg (by omega), if_neg (by omega), if_neg (by omega), if_neg (by omega), if_neg (by omega), if_neg (by omega)]
  · unfold pz_c2
    simp only [ab_up_a]
    rw [if_neg (by omega), if_neg (by omega), if_neg (by omega), if_neg (by omega), if_neg (by omega), if_neg (by omega)]
theorem pz_c2_ok {M : ab_M} (h : pz_RI M) (h1 : M 797 10 < 400) (h2 : 1 ≤ M 797 27) : ∃ (o : Nat) (op : List Nat), pz_op M = o :: op ∧ (M 815 (M 797 27 - 1).toNat).toNat = o ∧ (o : Int) < M 797 10 ∧ ((pz_E M).getD o pz_d0).2.1 = M 806 o ∧ ((pz_E M).getD o pz_d0).2.2.2.2.2.2.2 = M 812 o ∧ (0 ≤ M 812 o ∧ M 812 o < M 797 10) ∧ (0 ≤ M 806 o ∧ M 806 o ≤ 4) ∧
    pz_E (pz_c2 M) = pz_E M ++ [(10, M 806 o, 0, 0, 0, 0, 0, M 812 o)] ∧ pz_op (pz_c2 M) = op ∧ pz_RI (pz_c2 M) ∧ pz_c2 M 797 24 = M 797 24 + 1 ∧ pz_c2 M 797 25 = M 797 25 ∧ pz_c2 M 797 10 = M 797 10 + 1 ∧ pz_c2 M 797 27 = M 797 27 - 1 := by
  obtain ⟨⟨a1, a2, a3, a4⟩, b, ⟨c1, c2, c3⟩, ⟨d1, d2, d3⟩, f, g⟩ := h
  obtain ⟨f1, f2, f3⟩ := f (M 797 27 - 1).toNat (by omega)
  generalize ho : (M 815 (M 797 27 - 1).toNat).toNat = o at *
  have holt : (o : Int) < M 797 10 := by omega
  obtain ⟨g1, g2, g3, g4, g5⟩ := g o holt
  have g5 := g5 (by omega)
  have r10 : pz_c2 M 797 10 = M 797 10 + 1 := by unfold pz_c2; simp [ab_up_a]
  have r27 : pz_c2 M 797 27 = M 797 27 - 1 := by unfold pz_c2; simp [ab_up_a]
  have r19 : pz_c2 M 797 19 = M 797 19 := by unfold pz_c2; simp [ab_up_a]
  have r20 : pz_c2 M 797 20 = M 797 20 := by unfold pz_c2; simp [ab_up_a]
  have r21 : pz_c2 M 797 21 = M 797 21 := by unfold pz_c2; simp [ab_up_a]
  have r24 : pz_c2 M 797 24 = M 797 24 + 1 := by unfold pz_c2; simp [ab_up_a]
  have r25 : pz_c2 M 797 25 = M 797 25 := by unfold pz_c2; simp [ab_up_a]
  have r800 : ∀ k, pz_c2 M 813 k = M 813 k := fun k => by unfold pz_c2; simp [ab_up_a]
  have r801 : ∀ k, pz_c2 M 814 k = M 814 k := fun k => by unfold pz_c2; simp [ab_up_a]
  have r802 : ∀ k, pz_c2 M 815 k = M 815 k := fun k => by unfold pz_c2; simp [ab_up_a]
  have r792 : ∀ k, pz_c2 M 805 k = if k = (M 797 10).toNat then 10 else M 805 k := fun k => by unfold pz_c2; simp [ab_up_a]
  have r793 : ∀ k, pz_c2 M 806 k = if k = (M 797 10).toNat then M 806 o else M 806 k := fun k => by unfold pz_c2; rw [ho]; simp [ab_up_a]
  have r799 : ∀ k, pz_c2 M 812 k = if k = (M 797 10).toNat then M 812 o else M 812 k := fun k => by unfold pz_c2; rw [ho]; simp [ab_up_a]
  have rrow : ∀ (e p : Nat), (e : Int) < M 797 10 → 805 ≤ p → p ≤ 812 → pz_c2 M p e = M p e := fun e p he x y => by
    unfold pz_c2
    simp only [ab_up_a]
    rw [if_neg (by omega), if_neg (by omega), if_neg (by omega), if_neg (by omega), if_neg (by omega), if_neg (by omega)]
  have hev : pz_ev (pz_c2 M) (M 797 10).toNat = (10, M 806 o, 0, 0, 0, 0, 0, M 812 o) := by
    unfold pz_ev
    rw [r792, r793, r799, if_pos rfl, if_pos rfl, if_pos rfl, if_neg (by decide)]
  have hE : pz_E (pz_c2 M) = pz_E M ++ [(10, M 806 o, 0, 0, 0, 0, 0, M 812 o)] := by rw [pz_E_app a1 r10 rrow, hev]
  have hO : pz_op M = o :: pz_op (pz_c2 M) := by
    have := pz_op_push (M := pz_c2 M) (M' := M) (by omega) (by omega) (fun i hi => (r802 i).symm)
    rw [r27, ho] at this
    exact this
  have hgd : (pz_E M).getD o pz_d0 = pz_ev M o := pz_E_getD M holt
  refine ⟨o, pz_op (pz_c2 M), hO, rfl, holt, ?_, ?_, g5, ⟨g3, g4⟩, hE, rfl, ⟨⟨by omega, by omega, by omega, by omega⟩, ?_, ⟨?_, ?_, ?_⟩, ⟨?_, ?_, ?_⟩, ?_, ?_⟩, r24, r25, r10, r27⟩
  · rw [hgd]; unfold pz_ev; rw [f3, if_neg (by decide)]
  · rw [hgd]; unfold pz_ev; rw [f3, if_neg (by decide)]
  · rw [hE, pz_nS_app, r19, b]; rfl
  · rw [hE, pz_kds_app, r20, c1]
    simp [pz_kd]
  · rw [hE, pz_kds_app]
    simpa [pz_kd] using c2
  · intro k v hk
    rw [hE, pz_kds_app] at hk
    rw [r800]
    exact c3 k v (by simpa [pz_kd] using hk)
  · rw [hE, pz_lps_app, r21, d1]
    simp
  · rw [hE, pz_lps_app]
    simpa using d2
  · intro k v hk
    rw [hE, pz_lps_app] at hk
    rw [r801]
    exact d3 k v (by simpa using hk)
  · intro j hj
    rw [r27] at hj
    obtain ⟨q1, q2, q3⟩ := f j (by omega)
    rw [r802, r10, r792, if_neg (by omega)]
    exact ⟨q1, by omega, q3⟩
  · intro e he
    rw [r10] at he
    rw [r792, r793, r799, r10]
    by_cases hee : e = (M 797 10).toNat
    · rw [if_pos hee, if_pos hee, if_pos hee]
      exact ⟨by decide, by decide, g3, g4, fun _ => ⟨g5.1, by omega⟩⟩
    · rw [if_neg hee, if_neg hee, if_neg hee]
      obtain ⟨q1, q2, q3, q4, q5⟩ := g e (by omega)
      exact ⟨q1, q2, q3, q4, fun h => ⟨(q5 h).1, by have := (q5 h).2; omega⟩⟩
/-- behind readOpen -/
theorem pz_ro_ok {M N : ab_M} {w i : Int} (hl : pz_LS M) (hpf : pz_pf M N) (h : pz_RI N) (hz : N 797 25 = -9) (h1 : N 797 10 < 400) (h2 : N 797 27 < 130) (h3 : 0 ≤ N 797 24 ∧ N 797 24 ≤ M 797 9) (hw : 0 ≤ w ∧ w ≤ 4) (hi : 0 ≤ i ∧ i < N 797 10) : pz_res M (pz_ro N w i) (pz_pop (pz_L M) (pz_E N) (pz_op N) (N 797 24) w i) := by
  have hLN := hpf.L
  have n9 : N 797 9 = M 797 9 := hpf.2 9 (by decide) (by decide) (by decide) (by decide) (by decide) (by decide) (by decide)
  unfold pz_ro pz_pop
  rw [if_pos hz, ← hLN]
  by_cases h40 : pz_at (pz_L N) (N 797 24).toNat = 40
  · rw [if_pos h40, if_pos h40]
    obtain ⟨g1, g2, g3⟩ := pz_opn_ok h h1 h2 hw hi
    have n24 : N 797 24 < N 797 9 := by
      rcases Int.lt_or_le (N 797 24) (N 797 9) with q | q
      · exact q
      · exfalso
        have h9 : pz_at (pz_L N) (N 797 24).toNat = -9 := by
          unfold pz_at
          rw [List.getD_eq_getElem?_getD, pz_ls_get, if_neg (by omega)]; rfl
        omega
    have o24 : pz_opn N w i 797 24 = N 797 24 + 1 := by unfold pz_opn; simp [ab_up_a]
    have o25 : pz_opn N w i 797 25 = N 797 25 := by unfold pz_opn; simp [ab_up_a]
    exact ⟨hpf.tr (pz_opn_pf N _ _), ⟨by omega, by omega, by rw [o25, hz]; exact ⟨by decide, by decide⟩⟩, g1, g2, o24, by rw [o25, hz], g3⟩
  · rw [if_neg h40, if_neg h40]
    refine ⟨hpf.tr ⟨fun o k x y => ab_up_o x k, fun k x1 x2 x3 x4 x5 x6 x7 => ab_up_k x6 _⟩, ⟨?_, ?_, ?_⟩, ab_up_s, by omega⟩
    · rw [ab_up_k (by decide)]; exact h3.1
    · rw [ab_up_k (by decide)]; exact h3.2
    · rw [ab_up_s]; have := hl.2.1; exact ⟨by omega, by omega⟩
def pz_CP (M M' : ab_M) : Prop := ∃ (o : Nat) (op : List Nat), pz_op M = o :: op ∧ pz_res M M' (pz_cl (pz_L M) (pz_E M) o op (M 797 24))
theorem pz_CP_a {M : ab_M} (hl : pz_LS M) (h : pz_RI M) (hf : M 797 25 = -9) (h1 : M 797 10 < 398) (h2 : 1 ≤ M 797 27) (h3 : M 797 24 < M 797 9) (hv : ¬ (M 806 (M 815 (M 797 27 - 1).toNat).toNat = 0 ∨ M 806 (M 815 (M 797 27 - 1).toNat).toNat = 3)) : pz_CP M (pz_c2 M) := by
  obtain ⟨o, op, q1, q2, q3, q4, q5, q6, q7, q8, q9, q10, q11, q12, q13, q14⟩ := pz_c2_ok h (by omega) h2
  rw [q2] at hv
  refine ⟨o, op, q1, ?_⟩
  unfold pz_cl
  rw [q4, q5, if_neg hv]
  have := hl.2.2.2.1
  exact ⟨pz_c2_pf M, ⟨by omega, by omega, by rw [q12, hf]; exact ⟨by decide, by decide⟩⟩, q8, q9, q11, by rw [q12, hf], q10⟩
theorem pz_CP_b {M : ab_M} (hl : pz_LS M) (h : pz_RI M) (hf : M 797 25 = -9) (h1 : M 797 10 < 398) (h2 : 1 ≤ M 797 27) (h3 : M 797 24 < M 797 9) (hv : M 806 (M 815 (M 797 27 - 1).toNat).toNat = 0 ∨ M 806 (M 815 (M 797 27 - 1).toNat).toNat = 3) {w i : Int} (hw : w = if M 806 (M 815 (M 797 27 - 1).toNat).toNat = 0 then 1 else 4) (hi : i = M 812 (M 815 (M 797 27 - 1).toNat).toNat) : pz_CP M (pz_ro (pz_c2 M) w i) := by
  obtain ⟨o, op, q1, q2, q3, q4, q5, q6, q7, q8, q9, q10, q11, q12, q13, q14⟩ := pz_c2_ok h (by omega) h2
  rw [q2] at hv hw hi
  refine ⟨o, op, q1, ?_⟩
  unfold pz_cl
  rw [q4, q5, if_pos hv, ← hw, ← q8, ← hi, ← q9, ← q11]
  have hd := h.1.2.2.2
  have := hl.2.2.2.1
  exact pz_ro_ok hl (pz_c2_pf M) q10 (by rw [q12, hf]) (by omega) (by omega) ⟨by omega, by omega⟩ (by rw [hw]; split <;> decide) (by rw [hi]; omega)

def S_X9_readClose : ab_PT := fun a M K => match a with
  | [.inr (.inr (.inr (797, 9, 0)))] => (pz_LS M ∧ M 797 25 = -9 ∧ pz_RI M ∧ M 797 10 < 398 ∧ 1 ≤ M 797 27 ∧ M 797 24 < M 797 9) ∧ (∀ Mx : ab_M, (pz_CP M Mx ∧ ab_ir (Mx 797 27)) → K [] Mx)
  | _ => False
set_option maxRecDepth 20000 in
theorem vc_X9_readClose_0  (M : ab_M) (K : List ab_V → ab_M → Prop) (hS : (pz_LS M ∧ M 797 25 = -9 ∧ pz_RI M ∧ M 797 10 < 398 ∧ 1 ≤ M 797 27 ∧ M 797 24 < M 797 9) ∧ (∀ Mx : ab_M, (pz_CP M Mx ∧ ab_ir (Mx 797 27)) → K [] Mx)) : (0 ≤ ((M 797 27) - (1 : Int)) ∧ ((M 797 27) - (1 : Int)) < ((130 : Nat) : Int)) ∧ (-128 ≤ (10 : Int) ∧ (10 : Int) < 128) ∧ (0 ≤ (M 797 10) ∧ (M 797 10) < ((400 : Nat) : Int)) ∧ (0 ≤ (M 815 (((M 797 27) - (1 : Int)).toNat)) ∧ (M 815 (((M 797 27) - (1 : Int)).toNat)) < ((400 : Nat) : Int)) ∧ (0 ≤ (M 797 10) ∧ (M 797 10) < ((400 : Nat) : Int)) ∧ (0 ≤ (M 815 (((M 797 27) - (1 : Int)).toNat)) ∧ (M 815 (((M 797 27) - (1 : Int)).toNat)) < ((400 : Nat) : Int)) ∧ (0 ≤ (M 797 10) ∧ (M 797 10) < ((400 : Nat) : Int)) ∧ (0 ≤ (M 815 (((M 797 27) - (1 : Int)).toNat)) ∧ (M 815 (((M 797 27) - (1 : Int)).toNat)) < ((400 : Nat) : Int)) ∧ (ab_ir ((ab_up (ab_up (ab_up (ab_up M 797 24 ((M 797 24) + (1 : Int))) 797 27 ((M 797 27) - (1 : Int))) 805 ((M 797 10).toNat) (10 : Int)) 806 ((M 797 10).toNat) (M 806 ((M 815 (((M 797 27) - (1 : Int)).toNat)).toNat))) 806 ((M 815 (((M 797 27) - (1 : Int)).toNat)).toNat))) ∧ ((((ab_up (ab_up (ab_up (ab_up M 797 24 ((M 797 24) + (1 : Int))) 797 27 ((M 797 27) - (1 : Int))) 805 ((M 797 10).toNat) (10 : Int)) 806 ((M 797 10).toNat) (M 806 ((M 815 (((M 797 27) - (1 : Int)).toNat)).toNat))) 806 ((M 815 (((M 797 27) - (1 : Int)).toNat)).toNat)) = 0 → (0 ≤ (M 815 (((M 797 27) - (1 : Int)).toNat)) ∧ (M 815 (((M 797 27) - (1 : Int)).toNat)) < ((400 : Nat) : Int)) ∧ (ab_ir ((ab_up (ab_up (ab_up (ab_up M 797 24 ((M 797 24) + (1 : Int))) 797 27 ((M 797 27) - (1 : Int))) 805 ((M 797 10).toNat) (10 : Int)) 806 ((M 797 10).toNat) (M 806 ((M 815 (((M 797 27) - (1 : Int)).toNat)).toNat))) 806 ((M 815 (((M 797 27) - (1 : Int)).toNat)).toNat))) ∧ ((¬ ((ab_up (ab_up (ab_up (ab_up M 797 24 ((M 797 24) + (1 : Int))) 797 27 ((M 797 27) - (1 : Int))) 805 ((M 797 10).toNat) (10 : Int)) 806 ((M 797 10).toNat) (M 806 ((M 815 (((M 797 27) - (1 : Int)).toNat)).toNat))) 806 ((M 815 (((M 797 27) - (1 : Int)).toNat)).toNat)) = 0 → (0 ≤ (M 815 (((M 797 27) - (1 : Int)).toNat)) ∧ (M 815 (((M 797 27) - (1 : Int)).toNat)) < ((400 : Nat) : Int)) ∧ (pz_LS (ab_up (ab_up (ab_up (ab_up (ab_up (ab_up M 797 24 ((M 797 24) + (1 : Int))) 797 27 ((M 797 27) - (1 : Int))) 805 ((M 797 10).toNat) (10 : Int)) 806 ((M 797 10).toNat) (M 806 ((M 815 (((M 797 27) - (1 : Int)).toNat)).toNat))) 812 ((M 797 10).toNat) (M 812 ((M 815 (((M 797 27) - (1 : Int)).toNat)).toNat))) 797 10 ((M 797 10) + (1 : Int))) ∧ ab_ir ((ab_up (ab_up (ab_up (ab_up (ab_up (ab_up M 797 24 ((M 797 24) + (1 : Int))) 797 27 ((M 797 27) - (1 : Int))) 805 ((M 797 10).toNat) (10 : Int)) 806 ((M 797 10).toNat) (M 806 ((M 815 (((M 797 27) - (1 : Int)).toNat)).toNat))) 812 ((M 797 10).toNat) (M 812 ((M 815 (((M 797 27) - (1 : Int)).toNat)).toNat))) 797 10 ((M 797 10) + (1 : Int))) 797 25) ∧ 0 ≤ (ab_up (ab_up (ab_up (ab_up (ab_up (ab_up M 797 24 ((M 797 24) + (1 : Int))) 797 27 ((M 797 27) - (1 : Int))) 805 ((M 797 10).toNat) (10 : Int)) 806 ((M 797 10).toNat) (M 806 ((M 815 (((M 797 27) - (1 : Int)).toNat)).toNat))) 812 ((M 797 10).toNat) (M 812 ((M 815 (((M 797 27) - (1 : Int)).toNat)).toNat))) 797 10 ((M 797 10) + (1 : Int))) 797 10 ∧ (ab_up (ab_up (ab_up (ab_up (ab_up (ab_up M 797 24 ((M 797 24) + (1 : Int))) 797 27 ((M 797 27) - (1 : Int))) 805 ((M 797 10).toNat) (10 : Int)) 806 ((M 797 10).toNat) (M 806 ((M 815 (((M 797 27) - (1 : Int)).toNat)).toNat))) 812 ((M 797 10).toNat) (M 812 ((M 815 (((M 797 27) - (1 : Int)).toNat)).toNat))) 797 10 ((M 797 10) + (1 : Int))) 797 10 < 400 ∧ 0 ≤ (ab_up (ab_up (ab_up (ab_up (ab_up (ab_up M 797 24 ((M 797 24) + (1 : Int))) 797 27 ((M 797 27) - (1 : Int))) 805 ((M 797 10).toNat) (10 : Int)) 806 ((M 797 10).toNat) (M 806 ((M 815 (((M 797 27) - (1 : Int)).toNat)).toNat))) 812 ((M 797 10).toNat) (M 812 ((M 815 (((M 797 27) - (1 : Int)).toNat)).toNat))) 797 10 ((M 797 10) + (1 : Int))) 797 27 ∧ (ab_up (ab_up (ab_up (ab_up (ab_up (ab_up M 797 24 ((M 797 24) + (1 : Int))) 797 27 ((M 797 27) - (1 : Int))) 805 ((M 797 10).toNat) (10 : Int)) 806 ((M 797 10).toNat) (M 806 ((M 815 (((M 797 27) - (1 : Int)).toNat)).toNat))) 812 ((M 797 10).toNat) (M 812 ((M 815 (((M 797 27) - (1 : Int)).toNat)).toNat))) 797 10 ((M 797 10) + (1 : Int))) 797 27 < 130) ∧ (∀ M121 : ab_M, (M121 = pz_ro (ab_up (ab_up (ab_up (ab_up (ab_up (ab_up M 797 24 ((M 797 24) + (1 : Int))) 797 27 ((M 797 27) - (1 : Int))) 805 ((M 797 10).toNat) (10 : Int)) 806 ((M 797 10).toNat) (M 806 ((M 815 (((M 797 27) - (1 : Int)).toNat)).toNat))) 812 ((M 797 10).toNat) (M 812 ((M 815 (((M 797 27) - (1 : Int)).toNat)).toNat))) 797 10 ((M 797 10) + (1 : Int))) (4 : Int) ((ab_up (ab_up (ab_up (ab_up (ab_up M 797 24 ((M 797 24) + (1 : Int))) 797 27 ((M 797 27) - (1 : Int))) 805 ((M 797 10).toNat) (10 : Int)) 806 ((M 797 10).toNat) (M 806 ((M 815 (((M 797 27) - (1 : Int)).toNat)).toNat))) 812 ((M 797 10).toNat) (M 812 ((M 815 (((M 797 27) - (1 : Int)).toNat)).toNat))) 812 ((M 815 (((M 797 27) - (1 : Int)).toNat)).toNat))) → K [] M121)) ∧ (((ab_up (ab_up (ab_up (ab_up M 797 24 ((M 797 24) + (1 : Int))) 797 27 ((M 797 27) - (1 : Int))) 805 ((M 797 10).toNat) (10 : Int)) 806 ((M 797 10).toNat) (M 806 ((M 815 (((M 797 27) - (1 : Int)).toNat)).toNat))) 806 ((M 815 (((M 797 27) - (1 : Int)).toNat)).toNat)) = 0 → (0 ≤ (M 815 (((M 797 27) - (1 : Int)).toNat)) ∧ (M 815 (((M 797 27) - (1 : Int)).toNat)) < ((400 : Nat) : Int)) ∧ (pz_LS (ab_up (ab_up (ab_up (ab_up (ab_up (ab_up M 797 24 ((M 797 24) + (1 : Int))) 797 27 ((M 797 27) - (1 : Int))) 805 ((M 797 10).toNat) (10 : Int)) 806 ((M 797 10).toNat) (M 806 ((M 815 (((M 797 27) - (1 : Int)).toNat)).toNat))) 812 ((M 797 10).toNat) (M 812 ((M 815 (((M 797 27) - (1 : Int)).toNat)).toNat))) 797 10 ((M 797 10) + (1 : Int))) ∧ ab_ir ((ab_up (ab_up (ab_up (ab_up (ab_up (ab_up M 797 24 ((M 797 24) + (1 : Int))) 797 27 ((M 797 27) - (1 : Int))) 805 ((M 797 10).toNat) (10 : Int)) 806 ((M 797 10).toNat) (M 806 ((M 815 (((M 797 27) - (1 : Int)).toNat)).toNat))) 812 ((M 797 10).toNat) (M 812 ((M 815 (((M 797 27) - (1 : Int)).toNat)).toNat))) 797 10 ((M 797 10) + (1 : Int))) 797 25) ∧ 0 ≤ (ab_up (ab_up (ab_up (ab_up (ab_up (ab_up M 797 24 ((M 797 24) + (1 : Int))) 797 27 ((M 797 27) - (1 : Int))) 805 ((M 797 10).toNat) (10 : Int)) 806 ((M 797 10).toNat) (M 806 ((M 815 (((M 797 27) - (1 : Int)).toNat)).toNat))) 812 ((M 797 10).toNat) (M 812 ((M 815 (((M 797 27) - (1 : Int)).toNat)).toNat))) 797 10 ((M 797 10) + (1 : Int))) 797 10 ∧ (ab_up (ab_up (ab_up (ab_up (ab_up (ab_up M 797 24 ((M 797 24) + (1 : Int))) 797 27 ((M 797 27) - (1 : Int))) 805 ((M 797 10).toNat) (10 : Int)) 806 ((M 797 10).toNat) (M 806 ((M 815 (((M 797 27) - (1 : Int)).toNat)).toNat))) 812 ((M 797 10).toNat) (M 812 ((M 815 (((M 797 27) - (1 : Int)).toNat)).toNat))) 797 10 ((M 797 10) + (1 : Int))) 797 10 < 400 ∧ 0 ≤ (ab_up (ab_up (ab_up (ab_up (ab_up (ab_up M 797 24 ((M 797 24) + (1 : Int))) 797 27 ((M 797 27) - (1 : Int))) 805 ((M 797 10).toNat) (10 : Int)) 806 ((M 797 10).toNat) (M 806 ((M 815 (((M 797 27) - (1 : Int)).toNat)).toNat))) 812 ((M 797 10).toNat) (M 812 ((M 815 (((M 797 27) - (1 : Int)).toNat)).toNat))) 797 10 ((M 797 10) + (1 : Int))) 797 27 ∧ (ab_up (ab_up (ab_up (ab_up (ab_up (ab_up M 797 24 ((M 797 24) + (1 : Int))) 797 27 ((M 797 27) - (1 : Int))) 805 ((M 797 10).toNat) (10 : Int)) 806 ((M 797 10).toNat) (M 806 ((M 815 (((M 797 27) - (1 : Int)).toNat)).toNat))) 812 ((M 797 10).toNat) (M 812 ((M 815 (((M 797 27) - (1 : Int)).toNat)).toNat))) 797 10 ((M 797 10) + (1 : Int))) 797 27 < 130) ∧ (∀ M121 : ab_M, (M121 = pz_ro (ab_up (ab_up (ab_up (ab_up (ab_up (ab_up M 797 24 ((M 797 24) + (1 : Int))) 797 27 ((M 797 27) - (1 : Int))) 805 ((M 797 10).toNat) (10 : Int)) 806 ((M 797 10).toNat) (M 806 ((M 815 (((M 797 27) - (1 : Int)).toNat)).toNat))) 812 ((M 797 10).toNat) (M 812 ((M 815 (((M 797 27) - (1 : Int)).toNat)).toNat))) 797 10 ((M 797 10) + (1 : Int))) (1 : Int) ((ab_up (ab_up (ab_up (ab_up (ab_up M 797 24 ((M 797 24) + (1 : Int))) 797 27 ((M 797 27) - (1 : Int))) 805 ((M 797 10).toNat) (10 : Int)) 806 ((M 797 10).toNat) (M 806 ((M 815 (((M 797 27) - (1 : Int)).toNat)).toNat))) 812 ((M 797 10).toNat) (M 812 ((M 815 (((M 797 27) - (1 : Int)).toNat)).toNat))) 812 ((M 815 (((M 797 27) - (1 : Int)).toNat)).toNat))) → K [] M121)))) ∧ (¬ ((ab_up (ab_up (ab_up (ab_up M 797 24 ((M 797 24) + (1 : Int))) 797 27 ((M 797 27) - (1 : Int))) 805 ((M 797 10).toNat) (10 : Int)) 806 ((M 797 10).toNat) (M 806 ((M 815 (((M 797 27) - (1 : Int)).toNat)).toNat))) 806 ((M 815 (((M 797 27) - (1 : Int)).toNat)).toNat)) = 0 → (0 ≤ (M 815 (((M 797 27) - (1 : Int)).toNat)) ∧ (M 815 (((M 797 27) - (1 : Int)).toNat)) < ((400 : Nat) : Int)) ∧ (ab_ir ((ab_up (ab_up (ab_up (ab_up M 797 24 ((M 797 24) + (1 : Int))) 797 27 ((M 797 27) - (1 : Int))) 805 ((M 797 10).toNat) (10 : Int)) 806 ((M 797 10).toNat) (M 806 ((M 815 (((M 797 27) - (1 : Int)).toNat)).toNat))) 806 ((M 815 (((M 797 27) - (1 : Int)).toNat)).toNat)) ∧ ab_ir (3 : Int)) ∧ ((¬ ((ab_up (ab_up (ab_up (ab_up M 797 24 ((M 797 24) + (1 : Int))) 797 27 ((M 797 27) - (1 : Int))) 805 ((M 797 10).toNat) (10 : Int)) 806 ((M 797 10).toNat) (M 806 ((M 815 (((M 797 27) - (1 : Int)).toNat)).toNat))) 806 ((M 815 (((M 797 27) - (1 : Int)).toNat)).toNat)) = (3 : Int) → K [] (ab_up (ab_up (ab_up (ab_up (ab_up (ab_up M 797 24 ((M 797 24) + (1 : Int))) 797 27 ((M 797 27) - (1 : Int))) 805 ((M 797 10).toNat) (10 : Int)) 806 ((M 797 10).toNat) (M 806 ((M 815 (((M 797 27) - (1 : Int)).toNat)).toNat))) 812 ((M 797 10).toNat) (M 812 ((M 815 (((M 797 27) - (1 : Int)).toNat)).toNat))) 797 10 ((M 797 10) + (1 : Int)))) ∧ (((ab_up (ab_up (ab_up (ab_up M 797 24 ((M 797 24) + (1 : Int))) 797 27 ((M 797 27) - (1 : Int))) 805 ((M 797 10).toNat) (10 : Int)) 806 ((M 797 10).toNat) (M 806 ((M 815 (((M 797 27) - (1 : Int)).toNat)).toNat))) 806 ((M 815 (((M 797 27) - (1 : Int)).toNat)).toNat)) = (3 : Int) → (0 ≤ (M 815 (((M 797 27) - (1 : Int)).toNat)) ∧ (M 815 (((M 797 27) - (1 : Int)).toNat)) < ((400 : Nat) : Int)) ∧ (ab_ir ((ab_up (ab_up (ab_up (ab_up M 797 24 ((M 797 24) + (1 : Int))) 797 27 ((M 797 27) - (1 : Int))) 805 ((M 797 10).toNat) (10 : Int)) 806 ((M 797 10).toNat) (M 806 ((M 815 (((M 797 27) - (1 : Int)).toNat)).toNat))) 806 ((M 815 (((M 797 27) - (1 : Int)).toNat)).toNat))) ∧ ((¬ ((ab_up (ab_up (ab_up (ab_up M 797 24 ((M 797 24) + (1 : Int))) 797 27 ((M 797 27) - (1 : Int))) 805 ((M 797 10).toNat) (10 : Int)) 806 ((M 797 10).toNat) (M 806 ((M 815 (((M 797 27) - (1 : Int)).toNat)).toNat))) 806 ((M 815 (((M 797 27) - (1 : Int)).toNat)).toNat)) = 0 → (0 ≤ (M 815 (((M 797 27) - (1 : Int)).toNat)) ∧ (M 815 (((M 797 27) - (1 : Int)).toNat)) < ((400 : Nat) : Int)) ∧ (pz_LS (ab_up (ab_up (ab_up (ab_up (ab_up (ab_up M 797 24 ((M 797 24) + (1 : Int))) 797 27 ((M 797 27) - (1 : Int))) 805 ((M 797 10).toNat) (10 : Int)) 806 ((M 797 10).toNat) (M 806 ((M 815 (((M 797 27) - (1 : Int)).toNat)).toNat))) 812 ((M 797 10).toNat) (M 812 ((M 815 (((M 797 27) - (1 : Int)).toNat)).toNat))) 797 10 ((M 797 10) + (1 : Int))) ∧ ab_ir ((ab_up (ab_up (ab_up (ab_up (ab_up (ab_up M 797 24 ((M 797 24) + (1 : Int))) 797 27 ((M 797 27) - (1 : Int))) 805 ((M 797 10).toNat) (10 : Int)) 806 ((M 797 10).toNat) (M 806 ((M 815 (((M 797 27) - (1 : Int)).toNat)).toNat))) 812 ((M 797 10).toNat) (M 812 ((M 815 (((M 797 27) - (1 : Int)).toNat)).toNat))) 797 10 ((M 797 10) + (1 : Int))) 797 25) ∧ 0 ≤ (ab_up (ab_up (ab_up (ab_up (ab_up (ab_up M 797 24 ((M 797 24) + (1 : Int))) 797 27 ((M 797 27) - (1 : Int))) 805 ((M 797 10).toNat) (10 : Int)) 806 ((M 797 10).toNat) (M 806 ((M 815 (((M 797 27) - (1 : Int)).toNat)).toNat))) 812 ((M 797 10).toNat) (M 812 ((M 815 (((M 797 27) - (1 : Int)).toNat)).toNat))) 797 10 ((M 797 10) + (1 : Int))) 797 10 ∧ (ab_up (ab_up (ab_up (ab_up (ab_up (ab_up M 797 24 ((M 797 24) + (1 : Int))) 797 27 ((M 797 27) - (1 : Int))) 805 ((M 797 10).toNat) (10 : Int)) 806 ((M 797 10).toNat) (M 806 ((M 815 (((M 797 27) - (1 : Int)).toNat)).toNat))) 812 ((M 797 10).toNat) (M 812 ((M 815 (((M 797 27) - (1 : Int)).toNat)).toNat))) 797 10 ((M 797 10) + (1 : Int))) 797 10 < 400 ∧ 0 ≤ (ab_up (ab_up (ab_up (ab_up (ab_up (ab_up M 797 24 ((M 797 24) + (1 : Int))) 797 27 ((M 797 27) - (1 : Int))) 805 ((M 797 10).toNat) (10 : Int)) 806 ((M 797 10).toNat) (M 806 ((M 815 (((M 797 27) - (1 : Int)).toNat)).toNat))) 812 ((M 797 10).toNat) (M 812 ((M 815 (((M 797 27) - (1 : Int)).toNat)).toNat))) 797 10 ((M 797 10) + (1 : Int))) 797 27 ∧ (ab_up (ab_up (ab_up (ab_up (ab_up (ab_up M 797 24 ((M 797 24) + (1 : Int))) 797 27 ((M 797 27) - (1 : Int))) 805 ((M 797 10).toNat) (10 : Int)) 806 ((M 797 10).toNat) (M 806 ((M 815 (((M 797 27) - (1 : Int)).toNat)).toNat))) 812 ((M 797 10).toNat) (M 812 ((M 815 (((M 797 27) - (1 : Int)).toNat)).toNat))) 797 10 ((M 797 10) + (1 : Int))) 797 27 < 130) ∧ (∀ M121 : ab_M, (M121 = pz_ro (ab_up (ab_up (ab_up (ab_up (ab_up (ab_up M 797 24 ((M 797 24) + (1 : Int))) 797 27 ((M 797 27) - (1 : Int))) 805 ((M 797 10).toNat) (10 : Int)) 806 ((M 797 10).toNat) (M 806 ((M 815 (((M 797 27) - (1 : Int)).toNat)).toNat))) 812 ((M 797 10).toNat) (M 812 ((M 815 (((M 797 27) - (1 : Int)).toNat)).toNat))) 797 10 ((M 797 10) + (1 : Int))) (4 : Int) ((ab_up (ab_up (ab_up (ab_up (ab_up M 797 24 ((M 797 24) + (1 : Int))) 797 27 ((M 797 27) - (1 : Int))) 805 ((M 797 10).toNat) (10 : Int)) 806 ((M 797 10).toNat) (M 806 ((M 815 (((M 797 27) - (1 : Int)).toNat)).toNat))) 812 ((M 797 10).toNat) (M 812 ((M 815 (((M 797 27) - (1 : Int)).toNat)).toNat))) 812 ((M 815 (((M 797 27) - (1 : Int)).toNat)).toNat))) → K [] M121)) ∧ (((ab_up (ab_up (ab_up (ab_up M 797 24 ((M 797 24) + (1 : Int))) 797 27 ((M 797 27) - (1 : Int))) 805 ((M 797 10).toNat) (10 : Int)) 806 ((M 797 10).toNat) (M 806 ((M 815 (((M 797 27) - (1 : Int)).toNat)).toNat))) 806 ((M 815 (((M 797 27) - (1 : Int)).toNat)).toNat)) = 0 → (0 ≤ (M 815 (((M 797 27) - (1 : Int)).toNat)) ∧ (M 815 (((M 797 27) - (1 : Int)).toNat)) < ((400 : Nat) : Int)) ∧ (pz_LS (ab_up (ab_up (ab_up (ab_up (ab_up (ab_up M 797 24 ((M 797 24) + (1 : Int))) 797 27 ((M 797 27) - (1 : Int))) 805 ((M 797 10).toNat) (10 : Int)) 806 ((M 797 10).toNat) (M 806 ((M 815 (((M 797 27) - (1 : Int)).toNat)).toNat))) 812 ((M 797 10).toNat) (M 812 ((M 815 (((M 797 27) - (1 : Int)).toNat)).toNat))) 797 10 ((M 797 10) + (1 : Int))) ∧ ab_ir ((ab_up (ab_up (ab_up (ab_up (ab_up (ab_up M 797 24 ((M 797 24) + (1 : Int))) 797 27 ((M 797 27) - (1 : Int))) 805 ((M 797 10).toNat) (10 : Int)) 806 ((M 797 10).toNat) (M 806 ((M 815 (((M 797 27) - (1 : Int)).toNat)).toNat))) 812 ((M 797 10).toNat) (M 812 ((M 815 (((M 797 27) - (1 : Int)).toNat)).toNat))) 797 10 ((M 797 10) + (1 : Int))) 797 25) ∧ 0 ≤ (ab_up (ab_up (ab_up (ab_up (ab_up (ab_up M 797 24 ((M 797 24) + (1 : Int))) 797 27 ((M 797 27) - (1 : Int))) 805 ((M 797 10).toNat) (10 : Int)) 806 ((M 797 10).toNat) (M 806 ((M 815 (((M 797 27) - (1 : Int)).toNat)).toNat))) 812 ((M 797 10).toNat) (M 812 ((M 815 (((M 797 27) - (1 : Int)).toNat)).toNat))) 797 10 ((M 797 10) + (1 : Int))) 797 10 ∧ (ab_up (ab_up (ab_up (ab_up (ab_up (ab_up M 797 24 ((M 797 24) + (1 : Int))) 797 27 ((M 797 27) - (1 : Int))) 805 ((M 797 10).toNat) (10 : Int)) 806 ((M 797 10).toNat) (M 806 ((M 815 (((M 797 27) - (1 : Int)).toNat)).toNat))) 812 ((M 797 10).toNat) (M 812 ((M 815 (((M 797 27) - (1 : Int)).toNat)).toNat))) 797 10 ((M 797 10) + (1 : Int))) 797 10 < 400 ∧ 0 ≤ (ab_up (ab_up (ab_up (ab_up (ab_up (ab_up M 797 24 ((M 797 24) + (1 : Int))) 797 27 ((M 797 27) - (1 : Int))) 805 ((M 797 10).toNat) (10 : Int)) 806 ((M 797 10).toNat) (M 806 ((M 815 (((M 797 27) - (1 : Int)).toNat)).toNat))) 812 ((M 797 10).toNat) (M 812 ((M 815 (((M 797 27) - (1 : Int)).toNat)).toNat))) 797 10 ((M 797 10) + (1 : Int))) 797 27 ∧ (ab_up (ab_up (ab_up (ab_up (ab_up (ab_up M 797 24 ((M 797 24) + (1 : Int))) 797 27 ((M 797 27) - (1 : Int))) 805 ((M 797 10).toNat) (10 : Int)) 806 ((M 797 10).toNat) (M 806 ((M 815 (((M 797 27) - (1 : Int)).toNat)).toNat))) 812 ((M 797 10).toNat) (M 812 ((M 815 (((M 797 27) - (1 : Int)).toNat)).toNat))) 797 10 ((M 797 10) + (1 : Int))) 797 27 < 130) ∧ (∀ M121 : ab_M, (M121 = pz_ro (ab_up (ab_up (ab_up (ab_up (ab_up (ab_up M 797 24 ((M 797 24) + (1 : Int))) 797 27 ((M 797 27) - (1 : Int))) 805 ((M 797 10).toNat) (10 : Int)) 806 ((M 797 10).toNat) (M 806 ((M 815 (((M 797 27) - (1 : Int)).toNat)).toNat))) 812 ((M 797 10).toNat) (M 812 ((M 815 (((M 797 27) - (1 : Int)).toNat)).toNat))) 797 10 ((M 797 10) + (1 : Int))) (1 : Int) ((ab_up (ab_up (ab_up (ab_up (ab_up M 797 24 ((M 797 24) + (1 : Int))) 797 27 ((M 797 27) - (1 : Int))) 805 ((M 797 10).toNat) (10 : Int)) 806 ((M 797 10).toNat) (M 806 ((M 815 (((M 797 27) - (1 : Int)).toNat)).toNat))) 812 ((M 797 10).toNat) (M 812 ((M 815 (((M 797 27) - (1 : Int)).toNat)).toNat))) 812 ((M 815 (((M 797 27) - (1 : Int)).toNat)).toNat))) → K [] M121))))))) := by
  obtain ⟨⟨g1, g2, g3, g4, g5, g6⟩, gK⟩ := hS
  obtain ⟨⟨a1, a2, a3, a4⟩, gb, gc, gd, gf, gg⟩ := id g3
  obtain ⟨f1, f2, f3⟩ := gf (M 797 27 - 1).toNat (by omega)
  obtain ⟨y1, y2, y3, y4, y5⟩ := gg (M 815 (M 797 27 - 1).toNat).toNat (by omega)
  have hb := fun w i => pz_CP_b (w := w) (i := i) g1 g3 g2 g4 g5 g6
  have ha := pz_CP_a g1 g3 g2 g4 g5 g6
  have h27a : ab_ir (pz_c2 M 797 27) := by
    obtain ⟨o, op, q1, q2, q3, q4, q5, q6, q7, q8, q9, q10, q11, q12, q13, q14⟩ := pz_c2_ok g3 (by omega) g5
    rw [q14]
    exact ⟨by omega, by omega⟩
  have h27b : ∀ w i, ab_ir (pz_ro (pz_c2 M) w i 797 27) := fun w i => by
    obtain ⟨o, op, q1, q2, q3, q4, q5, q6, q7, q8, q9, q10, q11, q12, q13, q14⟩ := pz_c2_ok g3 (by omega) g5
    exact pz_ro_27 _ _ _ ⟨by omega, by omega⟩
  have hO : pz_LS (pz_c2 M) ∧ ab_ir (pz_c2 M 797 25) ∧ 0 ≤ pz_c2 M 797 10 ∧ pz_c2 M 797 10 < 400 ∧ 0 ≤ pz_c2 M 797 27 ∧ pz_c2 M 797 27 < 130 := by
    obtain ⟨o, op, q1, q2, q3, q4, q5, q6, q7, q8, q9, q10, q11, q12, q13, q14⟩ := pz_c2_ok g3 (by omega) g5
    have hd := g3.1.2.2.2
    exact ⟨(pz_c2_pf M).LS g1 (by rw [q11]; have := g1.2.2.2.1; omega) (by rw [q11]; omega), by rw [q12, g2]; exact ⟨by decide, by decide⟩, by omega, by omega, by omega, by omega⟩
  unfold pz_c2 at hb ha hO h27a h27b
  have h802 : 0 ≤ (M 797 27 - 1) ∧ (M 797 27 - 1) < 130 := ⟨by omega, by omega⟩
  generalize hx0 : (M 797 27 - 1) = x0 at *
  generalize hx : (M 815 x0.toNat) = x at *
  have hk793 : ∀ (N : ab_M) (v : Int), ab_up N 806 (M 797 10).toNat v 806 x.toNat = N 806 x.toNat := fun N v => ab_up_k (by omega) _
  have hk799 : ∀ (N : ab_M) (v : Int), ab_up N 812 (M 797 10).toNat v 812 x.toNat = N 812 x.toNat := fun N v => ab_up_k (by omega) _
  refine And.intro (by
    first
      | omega
      | (rw [hk793, ab_up_o (by decide), ab_up_o (by decide), ab_up_o (by decide)]; omega)
      | (simp [hk793, hk799, ab_up_a]; omega)) ?_
  refine And.intro (by
    first
      | omega
      | (rw [hk793, ab_up_o (by decide), ab_up_o (by decide), ab_up_o (by decide)]; omega)
      | (simp [hk793, hk799, ab_up_a]; omega)) ?_
  refine And.intro (by
    first
      | omega
      | (rw [hk793, ab_up_o (by decide), ab_up_o (by decide), ab_up_o (by decide)]; omega)
      | (simp [hk793, hk799, ab_up_a]; omega)) ?_
  refine And.intro (by
    first
      | omega
      | (rw [hk793, ab_up_o (by decide), ab_up_o (by decide), ab_up_o (by decide)]; omega)
      | (simp [hk793, hk799, ab_up_a]; omega)) ?_
  refine And.intro (by
    first
      | omega
      | (rw [hk793, ab_up_o (by decide), ab_up_o (by decide), ab_up_o (by decide)]; omega)
      | (simp [hk793, hk799, ab_up_a]; omega)) ?_
  refine And.intro (by
    first
      | omega
      | (rw [hk793, ab_up_o (by decide), ab_up_o (by decide), ab_up_o (by decide)]; omega)
      | (simp [hk793, hk799, ab_up_a]; omega)) ?_
  refine And.intro (by
    first
      | omega
      | (rw [hk793, ab_up_o (by decide), ab_up_o (by decide), ab_up_o (by decide)]; omega)
      | (simp [hk793, hk799, ab_up_a]; omega)) ?_
  refine And.intro (by
    first
      | omega
      | (rw [hk793, ab_up_o (by decide), ab_up_o (by decide), ab_up_o (by decide)]; omega)
      | (simp [hk793, hk799, ab_up_a]; omega)) ?_
  refine And.intro (by
    first
      | omega
      | (rw [hk793, ab_up_o (by decide), ab_up_o (by decide), ab_up_o (by decide)]; omega)
      | (simp [hk793, hk799, ab_up_a]; omega)) ?_
  refine ⟨?_, ?_⟩
  · intro c87
    refine And.intro (by
      first
        | omega
        | (rw [hk793, ab_up_o (by decide), ab_up_o (by decide), ab_up_o (by decide)]; omega)
        | (simp [hk793, hk799, ab_up_a]; omega)) ?_
    refine And.intro (by
      first
        | omega
        | (rw [hk793, ab_up_o (by decide), ab_up_o (by decide), ab_up_o (by decide)]; omega)
        | (simp [hk793, hk799, ab_up_a]; omega)) ?_
    refine ⟨?_, ?_⟩
    · intro c107
      refine And.intro (by
        first
          | omega
          | (rw [hk793, ab_up_o (by decide), ab_up_o (by decide), ab_up_o (by decide)]; omega)
          | (simp [hk793, hk799, ab_up_a]; omega)) ?_
      refine And.intro (by
        exact hO) ?_
      intro M121 hM121
      have c87' := c87
      rw [hk793, ab_up_o (by decide), ab_up_o (by decide), ab_up_o (by decide)] at c87'
      have c107' := c107
      rw [hk793, ab_up_o (by decide), ab_up_o (by decide), ab_up_o (by decide)] at c107'
      subst hM121
      refine gK _ ⟨?_, h27b _ _⟩
      refine hb _ _ ?_ ?_ ?_
      all_goals first
        | omega
        | (split <;> omega)
        | (rw [hk799, ab_up_o (by decide), ab_up_o (by decide), ab_up_o (by decide)]; done)
        | (rw [hk799, ab_up_o (by decide), ab_up_o (by decide), ab_up_o (by decide), ab_up_o (by decide)]; done)
        | (simp [hk799, ab_up_a]; done)
    · intro c107
      refine And.intro (by
        first
          | omega
          | (rw [hk793, ab_up_o (by decide), ab_up_o (by decide), ab_up_o (by decide)]; omega)
          | (simp [hk793, hk799, ab_up_a]; omega)) ?_
      refine And.intro (by
        exact hO) ?_
      intro M121 hM121
      have c87' := c87
      rw [hk793, ab_up_o (by decide), ab_up_o (by decide), ab_up_o (by decide)] at c87'
      have c107' := c107
      rw [hk793, ab_up_o (by decide), ab_up_o (by decide), ab_up_o (by decide)] at c107'
      subst hM121
      refine gK _ ⟨?_, h27b _ _⟩
      refine hb _ _ ?_ ?_ ?_
      all_goals first
        | omega
        | (split <;> omega)
        | (rw [hk799, ab_up_o (by decide), ab_up_o (by decide), ab_up_o (by decide)]; done)
        | (rw [hk799, ab_up_o (by decide), ab_up_o (by decide), ab_up_o (by decide), ab_up_o (by decide)]; done)
        | (simp [hk799, ab_up_a]; done)
  · intro c87
    refine And.intro (by
      first
        | omega
        | (rw [hk793, ab_up_o (by decide), ab_up_o (by decide), ab_up_o (by decide)]; omega)
        | (simp [hk793, hk799, ab_up_a]; omega)) ?_
    refine And.intro (by
      first
        | omega
        | (rw [hk793, ab_up_o (by decide), ab_up_o (by decide), ab_up_o (by decide)]; omega)
        | (simp [hk793, hk799, ab_up_a]; omega)) ?_
    refine ⟨?_, ?_⟩
    · intro c97
      have c87' := c87
      rw [hk793, ab_up_o (by decide), ab_up_o (by decide), ab_up_o (by decide)] at c87'
      have c97' := c97
      rw [hk793, ab_up_o (by decide), ab_up_o (by decide), ab_up_o (by decide)] at c97'
      exact gK _ ⟨ha (by omega), h27a⟩
    · intro c97
      refine And.intro (by
        first
          | omega
          | (rw [hk793, ab_up_o (by decide), ab_up_o (by decide), ab_up_o (by decide)]; omega)
          | (simp [hk793, hk799, ab_up_a]; omega)) ?_
      refine And.intro (by
        first
          | omega
          | (rw [hk793, ab_up_o (by decide), ab_up_o (by decide), ab_up_o (by decide)]; omega)
          | (simp [hk793, hk799, ab_up_a]; omega)) ?_
      refine ⟨?_, ?_⟩
      · intro c107
        refine And.intro (by
          first
            | omega
            | (rw [hk793, ab_up_o (by decide), ab_up_o (by decide), ab_up_o (by decide)]; omega)
            | (simp [hk793, hk799, ab_up_a]; omega)) ?_
        refine And.intro (by
          exact hO) ?_
        intro M121 hM121
        have c87' := c87
        rw [hk793, ab_up_o (by decide), ab_up_o (by decide), ab_up_o (by decide)] at c87'
        have c97' := c97
        rw [hk793, ab_up_o (by decide), ab_up_o (by decide), ab_up_o (by decide)] at c97'
        have c107' := c107
        rw [hk793, ab_up_o (by decide), ab_up_o (by decide), ab_up_o (by decide)] at c107'
        subst hM121
        refine gK _ ⟨?_, h27b _ _⟩
        refine hb _ _ ?_ ?_ ?_
        all_goals first
          | omega
          | (split <;> omega)
          | (rw [hk799, ab_up_o (by decide), ab_up_o (by decide), ab_up_o (by decide)]; done)
          | (rw [hk799, ab_up_o (by decide), ab_up_o (by decide), ab_up_o (by decide), ab_up_o (by decide)]; done)
          | (simp [hk799, ab_up_a]; done)
      · intro c107
        refine And.intro (by
          first
            | omega
            | (rw [hk793, ab_up_o (by decide), ab_up_o (by decide), ab_up_o (by decide)]; omega)
            | (simp [hk793, hk799, ab_up_a]; omega)) ?_
        refine And.intro (by
          exact hO) ?_
        intro M121 hM121
        have c87' := c87
        rw [hk793, ab_up_o (by decide), ab_up_o (by decide), ab_up_o (by decide)] at c87'
        have c97' := c97
        rw [hk793, ab_up_o (by decide), ab_up_o (by decide), ab_up_o (by decide)] at c97'
        have c107' := c107
        rw [hk793, ab_up_o (by decide), ab_up_o (by decide), ab_up_o (by decide)] at c107'
        subst hM121
        refine gK _ ⟨?_, h27b _ _⟩
        refine hb _ _ ?_ ?_ ?_
        all_goals first
          | omega
          | (split <;> omega)
          | (rw [hk799, ab_up_o (by decide), ab_up_o (by decide), ab_up_o (by decide)]; done)
          | (rw [hk799, ab_up_o (by decide), ab_up_o (by decide), ab_up_o (by decide), ab_up_o (by decide)]; done)
          | (simp [hk799, ab_up_a]; done)

set_option maxRecDepth 20000 in
set_option maxHeartbeats 1000000 in
theorem ok_X9_readClose (E : ab_E) : ab_Ok E 3 171 S_X9_readClose := by
  refine ab_mk rq_X9_readClose tk_X9_readClose (rt := 0) (rfl) (cuts := []) (G := [(173, S_X9_readOpen)]) (List.forall_mem_cons.mpr ⟨⟨2, by decide, ok_X9_readOpen E⟩, fun _ h => absurd h List.not_mem_nil⟩) (by decide) 124 rfl ?_
  intro a M K wd wa hS
  unfold S_X9_readClose at hS
  split at hS
  ·
    refine ⟨Nat.le_of_ble_eq_true rfl, fun _ _ _ _ _ => False, ?_, ?_⟩
    · exact vc_X9_readClose_0  M K  hS
    · exact fun _ _ _ _ _ h => h.elim
  · exact hS.elim
