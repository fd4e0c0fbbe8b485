/-! the reference at a block's end -/
/-- the memory where a block's end begins to write -/
def em_b (M : ab_M) (e : Nat) : ab_M := ab_up (ab_up M 797 27 (M 797 27 - 1)) 824 (M 812 e).toNat (M 797 33)
/-- a block's end -/
def em_c (M M' : ab_M) (e : Nat) (md : Int) (W1 W2 : Nat → List Int) : Prop :=
  (M 806 e = 0 → ∃ M2, em_P (em_b M e) M2 5 0 0 [] ∧ M' = ab_up M2 820 (M 823 (M 812 e).toNat).toNat (M 797 33 + 1)) ∧
  (M 806 e = 3 → ∃ M2, em_P (em_b M e) M2 5 0 0 [] ∧ ∀ o k : Nat, M' o k = if o = 820 ∧ (k : Int) < M 797 33 + 1 ∧ M2 821 k = M 812 e then M 797 33 + 1 else M2 o k) ∧
  (M 806 e = 2 → (md = 1 → ∃ M2, em_L [(2, M 811 (M 812 e).toNat + 1, M 810 (M 812 e).toNat, W2 (M 812 e).toNat), (6, 0, 0, [])] (em_b M e) M2 ∧ M' = ab_up M2 820 (M 823 (M 812 e).toNat).toNat (M 797 33 + 2)) ∧
    (md ≠ 1 → ∃ M2, em_P (em_b M e) M2 5 0 0 [] ∧ M' = ab_up (ab_up M2 820 (M 797 33).toNat (M 823 (M 812 e).toNat)) 820 (M 823 (M 812 e).toNat).toNat (M 797 33 + 1))) ∧
  (M 806 e = 1 ∨ M 806 e = 4 → M' = ab_up (ab_up M 797 27 (M 797 27 - 1)) 820 (M 824 (M 812 e).toNat).toNat (M 797 33))
theorem em_b_fr {M : ab_M} {e o j : Nat} (h : ¬ (o = 797 ∧ j = 27)) (h' : o ≠ 824) : em_b M e o j = M o j := by
  unfold em_b
  rw [ab_up_o h', up_ne h]
theorem em_P.i8 {M M' : ab_M} {op q nn : Int} {w : List Int} (h : em_P M M' op q nn w) (g : ∀ j, ab_ir (M 821 j)) : ∀ j, ab_ir (M' 821 j) := fun j => by
  by_cases c : j = (M 797 33).toNat
  · rw [c, h.1.2.2.2.1]; exact ⟨by decide, by decide⟩
  · rw [h.1.2.2.2.2.2 821 j (by omega) (by omega) (by omega) (by omega)]; exact g j
/-- after the first row of a block's end -/
theorem em_P.b {M M' : ab_M} {e : Nat} {op q nn : Int} {w : List Int} (h : em_P (em_b M e) M' op q nn w) : M' 797 33 = M 797 33 + 1 ∧ ∀ o j : Nat, ¬ (o = 797 ∧ (j = 27 ∨ j = 33)) → ¬ (817 ≤ o ∧ o ≤ 822) → o ≠ 824 → M' o j = M o j := by
  obtain ⟨f, g⟩ := h.F
  refine ⟨by rw [g, em_b_fr (by omega) (by decide)], fun o j a b c => ?_⟩
  rw [f o j (by omega) b, em_b_fr (by omega) c]

def S_X9_emitClose : ab_PT := fun a M K => match a with
  | [.inr (.inr (.inr (797, 9, 0))), .inr (.inl e), .inr (.inl md)] => (∃ W1 : Nat → List Int, ∃ W2 : Nat → List Int, (((0 ≤ e ∧ e < 400) ∧ (0 ≤ M 797 33 ∧ M 797 33 ≤ 254) ∧ ab_ir md ∧ (0 ≤ M 806 e.toNat ∧ M 806 e.toNat ≤ 4) ∧ (0 ≤ M 812 e.toNat ∧ M 812 e.toNat < 400) ∧ (M 806 e.toNat = 2 → em_W M (M 812 e.toNat).toNat W1 W2) ∧ (M 806 e.toNat = 0 ∨ M 806 e.toNat = 2 → 0 ≤ M 823 (M 812 e.toNat).toNat ∧ M 823 (M 812 e.toNat).toNat < 256) ∧ (M 806 e.toNat = 1 ∨ M 806 e.toNat = 4 → 0 ≤ M 824 (M 812 e.toNat).toNat ∧ M 824 (M 812 e.toNat).toNat < 256) ∧ ∀ j : Nat, ab_ir (M 821 j))) ∧ (∀ Mx : ab_M, (em_c M Mx e.toNat md W1 W2) → K [] Mx))
  | _ => False
set_option maxRecDepth 20000 in
theorem vc_X9_emitClose_0 (e : Int) (md : Int) (M : ab_M) (K : List ab_V → ab_M → Prop) (hS : (∃ W1 : Nat → List Int, ∃ W2 : Nat → List Int, (((0 ≤ e ∧ e < 400) ∧ (0 ≤ M 797 33 ∧ M 797 33 ≤ 254) ∧ ab_ir md ∧ (0 ≤ M 806 e.toNat ∧ M 806 e.toNat ≤ 4) ∧ (0 ≤ M 812 e.toNat ∧ M 812 e.toNat < 400) ∧ (M 806 e.toNat = 2 → em_W M (M 812 e.toNat).toNat W1 W2) ∧ (M 806 e.toNat = 0 ∨ M 806 e.toNat = 2 → 0 ≤ M 823 (M 812 e.toNat).toNat ∧ M 823 (M 812 e.toNat).toNat < 256) ∧ (M 806 e.toNat = 1 ∨ M 806 e.toNat = 4 → 0 ≤ M 824 (M 812 e.toNat).toNat ∧ M 824 (M 812 e.toNat).toNat < 256) ∧ ∀ j : Nat, ab_ir (M 821 j))) ∧ (∀ Mx : ab_M, (em_c M Mx e.toNat md W1 W2) → K [] Mx))) : (0 ≤ e ∧ e < ((400 : Nat) : Int)) ∧ (0 ≤ e ∧ e < ((400 : Nat) : Int)) ∧ (ab_ir (M 806 e.toNat)) ∧ (((M 806 e.toNat) = 0 → (0 ≤ (M 812 e.toNat) ∧ (M 812 e.toNat) < ((400 : Nat) : Int)) ∧ (∃ w_51 : List Int, (((0 ≤ (ab_up (ab_up M 797 27 ((M 797 27) - (1 : Int))) 824 ((M 812 e.toNat).toNat) (M 797 33)) 797 33 ∧ (ab_up (ab_up M 797 27 ((M 797 27) - (1 : Int))) 824 ((M 812 e.toNat).toNat) (M 797 33)) 797 33 < 256) ∧ ab_ir (0 : Int) ∧ em_w (ab_up (ab_up M 797 27 ((M 797 27) - (1 : Int))) 824 ((M 812 e.toNat).toNat) (M 797 33)) (0 : Int) (0 : Int) w_51)) ∧ (∀ M51 : ab_M, (em_P (ab_up (ab_up M 797 27 ((M 797 27) - (1 : Int))) 824 ((M 812 e.toNat).toNat) (M 797 33)) M51 (5 : Int) (0 : Int) (0 : Int) w_51) → (0 ≤ e ∧ e < ((400 : Nat) : Int)) ∧ (ab_ir (M51 806 e.toNat)) ∧ ((¬ (M51 806 e.toNat) = 0 → (0 ≤ e ∧ e < ((400 : Nat) : Int)) ∧ (ab_ir (M51 806 e.toNat) ∧ ab_ir (3 : Int)) ∧ ((¬ (M51 806 e.toNat) = (3 : Int) → (0 ≤ e ∧ e < ((400 : Nat) : Int)) ∧ (ab_ir (M51 806 e.toNat) ∧ ab_ir (2 : Int)) ∧ ((¬ (M51 806 e.toNat) = (2 : Int) → (0 ≤ (M 812 e.toNat) ∧ (M 812 e.toNat) < ((400 : Nat) : Int)) ∧ (0 ≤ (M51 824 ((M 812 e.toNat).toNat)) ∧ (M51 824 ((M 812 e.toNat).toNat)) < ((256 : Nat) : Int)) ∧ K [] (ab_up M51 820 ((M51 824 ((M 812 e.toNat).toNat)).toNat) (M51 797 33))) ∧ ((M51 806 e.toNat) = (2 : Int) → (0 ≤ (M 812 e.toNat) ∧ (M 812 e.toNat) < ((400 : Nat) : Int)) ∧ (ab_ir md ∧ ab_ir (1 : Int)) ∧ ((¬ md = (1 : Int) → (∃ w_211 : List Int, (((0 ≤ (ab_up M51 824 ((M 812 e.toNat).toNat) (M51 797 33)) 797 33 ∧ (ab_up M51 824 ((M 812 e.toNat).toNat) (M51 797 33)) 797 33 < 256) ∧ ab_ir (0 : Int) ∧ em_w (ab_up M51 824 ((M 812 e.toNat).toNat) (M51 797 33)) (0 : Int) (0 : Int) w_211)) ∧ (∀ M211 : ab_M, (em_P (ab_up M51 824 ((M 812 e.toNat).toNat) (M51 797 33)) M211 (5 : Int) (0 : Int) (0 : Int) w_211) → (0 ≤ (M 812 e.toNat) ∧ (M 812 e.toNat) < ((400 : Nat) : Int)) ∧ (0 ≤ ((M211 797 33) - (1 : Int)) ∧ ((M211 797 33) - (1 : Int)) < ((256 : Nat) : Int)) ∧ (0 ≤ (M 812 e.toNat) ∧ (M 812 e.toNat) < ((400 : Nat) : Int)) ∧ (0 ≤ (M211 823 ((M 812 e.toNat).toNat)) ∧ (M211 823 ((M 812 e.toNat).toNat)) < ((256 : Nat) : Int)) ∧ K [] (ab_up (ab_up M211 820 (((M211 797 33) - (1 : Int)).toNat) (M211 823 ((M 812 e.toNat).toNat))) 820 ((M211 823 ((M 812 e.toNat).toNat)).toNat) (M211 797 33))))) ∧ (md = (1 : Int) → (0 ≤ (M 812 e.toNat) ∧ (M 812 e.toNat) < ((400 : Nat) : Int)) ∧ (0 ≤ (M 812 e.toNat) ∧ (M 812 e.toNat) < ((400 : Nat) : Int)) ∧ (0 ≤ (M 812 e.toNat) ∧ (M 812 e.toNat) < ((400 : Nat) : Int)) ∧ (∃ w_191 : List Int, (((0 ≤ (ab_up M51 824 ((M 812 e.toNat).toNat) (M51 797 33)) 797 33 ∧ (ab_up M51 824 ((M 812 e.toNat).toNat) (M51 797 33)) 797 33 < 256) ∧ ab_ir (M51 810 ((M 812 e.toNat).toNat)) ∧ em_w (ab_up M51 824 ((M 812 e.toNat).toNat) (M51 797 33)) (M51 809 ((M 812 e.toNat).toNat)) (M51 810 ((M 812 e.toNat).toNat)) w_191)) ∧ (∀ M191 : ab_M, (em_P (ab_up M51 824 ((M 812 e.toNat).toNat) (M51 797 33)) M191 (2 : Int) ((M51 811 ((M 812 e.toNat).toNat)) + (1 : Int)) (M51 810 ((M 812 e.toNat).toNat)) w_191) → (-128 ≤ (6 : Int) ∧ (6 : Int) < 128) ∧ (∃ w_200 : List Int, (((0 ≤ M191 797 33 ∧ M191 797 33 < 256) ∧ ab_ir (0 : Int) ∧ em_w M191 (0 : Int) (0 : Int) w_200)) ∧ (∀ M200 : ab_M, (em_P M191 M200 (6 : Int) (0 : Int) (0 : Int) w_200) → (0 ≤ (M 812 e.toNat) ∧ (M 812 e.toNat) < ((400 : Nat) : Int)) ∧ (0 ≤ (M200 823 ((M 812 e.toNat).toNat)) ∧ (M200 823 ((M 812 e.toNat).toNat)) < ((256 : Nat) : Int)) ∧ K [] (ab_up M200 820 ((M200 823 ((M 812 e.toNat).toNat)).toNat) (M200 797 33))))))))))) ∧ ((M51 806 e.toNat) = (3 : Int) → (∃ n', ((n' = (256 - (0 : Int)).toNat ∧ e = e ∧ md = md ∧ 0 ≤ (0 : Int) ∧ (0 : Int) ≤ M 797 33 + 1 ∧ M 806 e.toNat = 3 ∧ (M 812 e.toNat) = M 812 e.toNat ∧ ∃ (W1 W2 : Nat → List Int), ((0 ≤ e ∧ e < 400) ∧ (0 ≤ M 797 33 ∧ M 797 33 ≤ 254) ∧ ab_ir md ∧ (0 ≤ M 806 e.toNat ∧ M 806 e.toNat ≤ 4) ∧ (0 ≤ M 812 e.toNat ∧ M 812 e.toNat < 400) ∧ (M 806 e.toNat = 2 → em_W M (M 812 e.toNat).toNat W1 W2) ∧ (M 806 e.toNat = 0 ∨ M 806 e.toNat = 2 → 0 ≤ M 823 (M 812 e.toNat).toNat ∧ M 823 (M 812 e.toNat).toNat < 256) ∧ (M 806 e.toNat = 1 ∨ M 806 e.toNat = 4 → 0 ≤ M 824 (M 812 e.toNat).toNat ∧ M 824 (M 812 e.toNat).toNat < 256) ∧ ∀ j : Nat, ab_ir (M 821 j)) ∧ (∀ Mx : ab_M, em_c M Mx e.toNat md W1 W2 → K [] Mx) ∧ ∃ M2, em_P (em_b M e.toNat) M2 5 0 0 [] ∧ ∀ o k : Nat, M51 o k = if o = 820 ∧ (k : Int) < (0 : Int) ∧ M2 821 k = M 812 e.toNat then M 797 33 + 1 else M2 o k)))))) ∧ ((M51 806 e.toNat) = 0 → (0 ≤ (M 812 e.toNat) ∧ (M 812 e.toNat) < ((400 : Nat) : Int)) ∧ (0 ≤ (M51 823 ((M 812 e.toNat).toNat)) ∧ (M51 823 ((M 812 e.toNat).toNat)) < ((256 : Nat) : Int)) ∧ K [] (ab_up M51 820 ((M51 823 ((M 812 e.toNat).toNat)).toNat) (M51 797 33))))))) ∧ (¬ (M 806 e.toNat) = 0 → (0 ≤ e ∧ e < ((400 : Nat) : Int)) ∧ (ab_ir (M 806 e.toNat) ∧ ab_ir (3 : Int)) ∧ ((¬ (M 806 e.toNat) = (3 : Int) → (0 ≤ e ∧ e < ((400 : Nat) : Int)) ∧ (ab_ir (M 806 e.toNat)) ∧ ((¬ (M 806 e.toNat) = 0 → (0 ≤ e ∧ e < ((400 : Nat) : Int)) ∧ (ab_ir (M 806 e.toNat) ∧ ab_ir (3 : Int)) ∧ ((¬ (M 806 e.toNat) = (3 : Int) → (0 ≤ e ∧ e < ((400 : Nat) : Int)) ∧ (ab_ir (M 806 e.toNat) ∧ ab_ir (2 : Int)) ∧ ((¬ (M 806 e.toNat) = (2 : Int) → (0 ≤ (M 812 e.toNat) ∧ (M 812 e.toNat) < ((400 : Nat) : Int)) ∧ (0 ≤ (M 824 ((M 812 e.toNat).toNat)) ∧ (M 824 ((M 812 e.toNat).toNat)) < ((256 : Nat) : Int)) ∧ K [] (ab_up (ab_up M 797 27 ((M 797 27) - (1 : Int))) 820 ((M 824 ((M 812 e.toNat).toNat)).toNat) (M 797 33))) ∧ ((M 806 e.toNat) = (2 : Int) → (0 ≤ (M 812 e.toNat) ∧ (M 812 e.toNat) < ((400 : Nat) : Int)) ∧ (ab_ir md ∧ ab_ir (1 : Int)) ∧ ((¬ md = (1 : Int) → (∃ w_211 : List Int, (((0 ≤ (ab_up (ab_up M 797 27 ((M 797 27) - (1 : Int))) 824 ((M 812 e.toNat).toNat) (M 797 33)) 797 33 ∧ (ab_up (ab_up M 797 27 ((M 797 27) - (1 : Int))) 824 ((M 812 e.toNat).toNat) (M 797 33)) 797 33 < 256) ∧ ab_ir (0 : Int) ∧ em_w (ab_up (ab_up M 797 27 ((M 797 27) - (1 : Int))) 824 ((M 812 e.toNat).toNat) (M 797 33)) (0 : Int) (0 : Int) w_211)) ∧ (∀ M211 : ab_M, (em_P (ab_up (ab_up M 797 27 ((M 797 27) - (1 : Int))) 824 ((M 812 e.toNat).toNat) (M 797 33)) M211 (5 : Int) (0 : Int) (0 : Int) w_211) → (0 ≤ (M 812 e.toNat) ∧ (M 812 e.toNat) < ((400 : Nat) : Int)) ∧ (0 ≤ ((M211 797 33) - (1 : Int)) ∧ ((M211 797 33) - (1 : Int)) < ((256 : Nat) : Int)) ∧ (0 ≤ (M 812 e.toNat) ∧ (M 812 e.toNat) < ((400 : Nat) : Int)) ∧ (0 ≤ (M211 823 ((M 812 e.toNat).toNat)) ∧ (M211 823 ((M 812 e.toNat).toNat)) < ((256 : Nat) : Int)) ∧ K [] (ab_up (ab_up M211 820 (((M211 797 33) - (1 : Int)).toNat) (M211 823 ((M 812 e.toNat).toNat))) 820 ((M211 823 ((M 812 e.toNat).toNat)).toNat) (M211 797 33))))) ∧ (md = (1 : Int) → (0 ≤ (M 812 e.toNat) ∧ (M 812 e.toNat) < ((400 : Nat) : Int)) ∧ (0 ≤ (M 812 e.toNat) ∧ (M 812 e.toNat) < ((400 : Nat) : Int)) ∧ (0 ≤ (M 812 e.toNat) ∧ (M 812 e.toNat) < ((400 : Nat) : Int)) ∧ (∃ w_191 : List Int, (((0 ≤ (ab_up (ab_up M 797 27 ((M 797 27) - (1 : Int))) 824 ((M 812 e.toNat).toNat) (M 797 33)) 797 33 ∧ (ab_up (ab_up M 797 27 ((M 797 27) - (1 : Int))) 824 ((M 812 e.toNat).toNat) (M 797 33)) 797 33 < 256) ∧ ab_ir (M 810 ((M 812 e.toNat).toNat)) ∧ em_w (ab_up (ab_up M 797 27 ((M 797 27) - (1 : Int))) 824 ((M 812 e.toNat).toNat) (M 797 33)) (M 809 ((M 812 e.toNat).toNat)) (M 810 ((M 812 e.toNat).toNat)) w_191)) ∧ (∀ M191 : ab_M, (em_P (ab_up (ab_up M 797 27 ((M 797 27) - (1 : Int))) 824 ((M 812 e.toNat).toNat) (M 797 33)) M191 (2 : Int) ((M 811 ((M 812 e.toNat).toNat)) + (1 : Int)) (M 810 ((M 812 e.toNat).toNat)) w_191) → (-128 ≤ (6 : Int) ∧ (6 : Int) < 128) ∧ (∃ w_200 : List Int, (((0 ≤ M191 797 33 ∧ M191 797 33 < 256) ∧ ab_ir (0 : Int) ∧ em_w M191 (0 : Int) (0 : Int) w_200)) ∧ (∀ M200 : ab_M, (em_P M191 M200 (6 : Int) (0 : Int) (0 : Int) w_200) → (0 ≤ (M 812 e.toNat) ∧ (M 812 e.toNat) < ((400 : Nat) : Int)) ∧ (0 ≤ (M200 823 ((M 812 e.toNat).toNat)) ∧ (M200 823 ((M 812 e.toNat).toNat)) < ((256 : Nat) : Int)) ∧ K [] (ab_up M200 820 ((M200 823 ((M 812 e.toNat).toNat)).toNat) (M200 797 33))))))))))) ∧ ((M 806 e.toNat) = (3 : Int) → (∃ n', ((n' = (256 - (0 : Int)).toNat ∧ e = e ∧ md = md ∧ 0 ≤ (0 : Int) ∧ (0 : Int) ≤ M 797 33 + 1 ∧ M 806 e.toNat = 3 ∧ (M 812 e.toNat) = M 812 e.toNat ∧ ∃ (W1 W2 : Nat → List Int), ((0 ≤ e ∧ e < 400) ∧ (0 ≤ M 797 33 ∧ M 797 33 ≤ 254) ∧ ab_ir md ∧ (0 ≤ M 806 e.toNat ∧ M 806 e.toNat ≤ 4) ∧ (0 ≤ M 812 e.toNat ∧ M 812 e.toNat < 400) ∧ (M 806 e.toNat = 2 → em_W M (M 812 e.toNat).toNat W1 W2) ∧ (M 806 e.toNat = 0 ∨ M 806 e.toNat = 2 → 0 ≤ M 823 (M 812 e.toNat).toNat ∧ M 823 (M 812 e.toNat).toNat < 256) ∧ (M 806 e.toNat = 1 ∨ M 806 e.toNat = 4 → 0 ≤ M 824 (M 812 e.toNat).toNat ∧ M 824 (M 812 e.toNat).toNat < 256) ∧ ∀ j : Nat, ab_ir (M 821 j)) ∧ (∀ Mx : ab_M, em_c M Mx e.toNat md W1 W2 → K [] Mx) ∧ ∃ M2, em_P (em_b M e.toNat) M2 5 0 0 [] ∧ ∀ o k : Nat, (ab_up M 797 27 ((M 797 27) - (1 : Int))) o k = if o = 820 ∧ (k : Int) < (0 : Int) ∧ M2 821 k = M 812 e.toNat then M 797 33 + 1 else M2 o k)))))) ∧ ((M 806 e.toNat) = 0 → (0 ≤ (M 812 e.toNat) ∧ (M 812 e.toNat) < ((400 : Nat) : Int)) ∧ (0 ≤ (M 823 ((M 812 e.toNat).toNat)) ∧ (M 823 ((M 812 e.toNat).toNat)) < ((256 : Nat) : Int)) ∧ K [] (ab_up (ab_up M 797 27 ((M 797 27) - (1 : Int))) 820 ((M 823 ((M 812 e.toNat).toNat)).toNat) (M 797 33))))) ∧ ((M 806 e.toNat) = (3 : Int) → (0 ≤ (M 812 e.toNat) ∧ (M 812 e.toNat) < ((400 : Nat) : Int)) ∧ (∃ w_51 : List Int, (((0 ≤ (ab_up (ab_up M 797 27 ((M 797 27) - (1 : Int))) 824 ((M 812 e.toNat).toNat) (M 797 33)) 797 33 ∧ (ab_up (ab_up M 797 27 ((M 797 27) - (1 : Int))) 824 ((M 812 e.toNat).toNat) (M 797 33)) 797 33 < 256) ∧ ab_ir (0 : Int) ∧ em_w (ab_up (ab_up M 797 27 ((M 797 27) - (1 : Int))) 824 ((M 812 e.toNat).toNat) (M 797 33)) (0 : Int) (0 : Int) w_51)) ∧ (∀ M51 : ab_M, (em_P (ab_up (ab_up M 797 27 ((M 797 27) - (1 : Int))) 824 ((M 812 e.toNat).toNat) (M 797 33)) M51 (5 : Int) (0 : Int) (0 : Int) w_51) → (0 ≤ e ∧ e < ((400 : Nat) : Int)) ∧ (ab_ir (M51 806 e.toNat)) ∧ ((¬ (M51 806 e.toNat) = 0 → (0 ≤ e ∧ e < ((400 : Nat) : Int)) ∧ (ab_ir (M51 806 e.toNat) ∧ ab_ir (3 : Int)) ∧ ((¬ (M51 806 e.toNat) = (3 : Int) → (0 ≤ e ∧ e < ((400 : Nat) : Int)) ∧ (ab_ir (M51 806 e.toNat) ∧ ab_ir (2 : Int)) ∧ ((¬ (M51 806 e.toNat) = (2 : Int) → (0 ≤ (M 812 e.toNat) ∧ (M 812 e.toNat) < ((400 : Nat) : Int)) ∧ (0 ≤ (M51 824 ((M 812 e.toNat).toNat)) ∧ (M51 824 ((M 812 e.toNat).toNat)) < ((256 : Nat) : Int)) ∧ K [] (ab_up M51 820 ((M51 824 ((M 812 e.toNat).toNat)).toNat) (M51 797 33))) ∧ ((M51 806 e.toNat) = (2 : Int) → (0 ≤ (M 812 e.toNat) ∧ (M 812 e.toNat) < ((400 : Nat) : Int)) ∧ (ab_ir md ∧ ab_ir (1 : Int)) ∧ ((¬ md = (1 : Int) → (∃ w_211 : List Int, (((0 ≤ (ab_up M51 824 ((M 812 e.toNat).toNat) (M51 797 33)) 797 33 ∧ (ab_up M51 824 ((M 812 e.toNat).toNat) (M51 797 33)) 797 33 < 256) ∧ ab_ir (0 : Int) ∧ em_w (ab_up M51 824 ((M 812 e.toNat).toNat) (M51 797 33)) (0 : Int) (0 : Int) w_211)) ∧ (∀ M211 : ab_M, (em_P (ab_up M51 824 ((M 812 e.toNat).toNat) (M51 797 33)) M211 (5 : Int) (0 : Int) (0 : Int) w_211) → (0 ≤ (M 812 e.toNat) ∧ (M 812 e.toNat) < ((400 : Nat) : Int)) ∧ (0 ≤ ((M211 797 33) - (1 : Int)) ∧ ((M211 797 33) - (1 : Int)) < ((256 : Nat) : Int)) ∧ (0 ≤ (M 812 e.toNat) ∧ (M 812 e.toNat) < ((400 : Nat) : Int)) ∧ (0 ≤ (M211 823 ((M 812 e.toNat).toNat)) ∧ (M211 823 ((M 812 e.toNat).toNat)) < ((256 : Nat) : Int)) ∧ K [] (ab_up (ab_up M211 820 (((M211 797 33) - (1 : Int)).toNat) (M211 823 ((M 812 e.toNat).toNat))) 820 ((M211 823 ((M 812 e.toNat).toNat)).toNat) (M211 797 33))))) ∧ (md = (1 : Int) → (0 ≤ (M 812 e.toNat) ∧ (M 812 e.toNat) < ((400 : Nat) : Int)) ∧ (0 ≤ (M 812 e.toNat) ∧ (M 812 e.toNat) < ((400 : Nat) : Int)) ∧ (0 ≤ (M 812 e.toNat) ∧ (M 812 e.toNat) < ((400 : Nat) : Int)) ∧ (∃ w_191 : List Int, (((0 ≤ (ab_up M51 824 ((M 812 e.toNat).toNat) (M51 797 33)) 797 33 ∧ (ab_up M51 824 ((M 812 e.toNat).toNat) (M51 797 33)) 797 33 < 256) ∧ ab_ir (M51 810 ((M 812 e.toNat).toNat)) ∧ em_w (ab_up M51 824 ((M 812 e.toNat).toNat) (M51 797 33)) (M51 809 ((M 812 e.toNat).toNat)) (M51 810 ((M 812 e.toNat).toNat)) w_191)) ∧ (∀ M191 : ab_M, (em_P (ab_up M51 824 ((M 812 e.toNat).toNat) (M51 797 33)) M191 (2 : Int) ((M51 811 ((M 812 e.toNat).toNat)) + (1 : Int)) (M51 810 ((M 812 e.toNat).toNat)) w_191) → (-128 ≤ (6 : Int) ∧ (6 : Int) < 128) ∧ (∃ w_200 : List Int, (((0 ≤ M191 797 33 ∧ M191 797 33 < 256) ∧ ab_ir (0 : Int) ∧ em_w M191 (0 : Int) (0 : Int) w_200)) ∧ (∀ M200 : ab_M, (em_P M191 M200 (6 : Int) (0 : Int) (0 : Int) w_200) → (0 ≤ (M 812 e.toNat) ∧ (M 812 e.toNat) < ((400 : Nat) : Int)) ∧ (0 ≤ (M200 823 ((M 812 e.toNat).toNat)) ∧ (M200 823 ((M 812 e.toNat).toNat)) < ((256 : Nat) : Int)) ∧ K [] (ab_up M200 820 ((M200 823 ((M 812 e.toNat).toNat)).toNat) (M200 797 33))))))))))) ∧ ((M51 806 e.toNat) = (3 : Int) → (∃ n', ((n' = (256 - (0 : Int)).toNat ∧ e = e ∧ md = md ∧ 0 ≤ (0 : Int) ∧ (0 : Int) ≤ M 797 33 + 1 ∧ M 806 e.toNat = 3 ∧ (M 812 e.toNat) = M 812 e.toNat ∧ ∃ (W1 W2 : Nat → List Int), ((0 ≤ e ∧ e < 400) ∧ (0 ≤ M 797 33 ∧ M 797 33 ≤ 254) ∧ ab_ir md ∧ (0 ≤ M 806 e.toNat ∧ M 806 e.toNat ≤ 4) ∧ (0 ≤ M 812 e.toNat ∧ M 812 e.toNat < 400) ∧ (M 806 e.toNat = 2 → em_W M (M 812 e.toNat).toNat W1 W2) ∧ (M 806 e.toNat = 0 ∨ M 806 e.toNat = 2 → 0 ≤ M 823 (M 812 e.toNat).toNat ∧ M 823 (M 812 e.toNat).toNat < 256) ∧ (M 806 e.toNat = 1 ∨ M 806 e.toNat = 4 → 0 ≤ M 824 (M 812 e.toNat).toNat ∧ M 824 (M 812 e.toNat).toNat < 256) ∧ ∀ j : Nat, ab_ir (M 821 j)) ∧ (∀ Mx : ab_M, em_c M Mx e.toNat md W1 W2 → K [] Mx) ∧ ∃ M2, em_P (em_b M e.toNat) M2 5 0 0 [] ∧ ∀ o k : Nat, M51 o k = if o = 820 ∧ (k : Int) < (0 : Int) ∧ M2 821 k = M 812 e.toNat then M 797 33 + 1 else M2 o k)))))) ∧ ((M51 806 e.toNat) = 0 → (0 ≤ (M 812 e.toNat) ∧ (M 812 e.toNat) < ((400 : Nat) : Int)) ∧ (0 ≤ (M51 823 ((M 812 e.toNat).toNat)) ∧ (M51 823 ((M 812 e.toNat).toNat)) < ((256 : Nat) : Int)) ∧ K [] (ab_up M51 820 ((M51 823 ((M 812 e.toNat).toNat)).toNat) (M51 797 33)))))))))) := by
  obtain ⟨W1, W2, ⟨⟨ge0, ge1⟩, ⟨gs0, gs1⟩, gmd, ⟨gw0, gw1⟩, ⟨gh0, gh1⟩, gW, g10, g11, g08⟩, gK⟩ := hS
  refine And.intro (by
    first
      | omega
      | exact gmd
      | exact ⟨by omega, by omega⟩
      | exact ⟨gmd, by decide, by decide⟩
      | exact ⟨i8, by omega, by omega⟩
      | exact ⟨⟨by omega, by omega⟩, by omega, by omega⟩
      | (have := g10 (by omega); rw [m51 823 _ (by omega) (by decide) (by decide)]; exact this)
      | (have := g10 (by omega); rw [m211 823 _ (by omega) (by decide) (by decide)]; exact this)
      | (have := g10 (by omega); rw [m200 823 _ (by omega) (by decide) (by decide)]; exact this)
      | (exact ⟨⟨by rw [up_ne (by omega), up_ne (by omega)]; omega, by rw [up_ne (by omega), up_ne (by omega)]; omega⟩, ⟨by decide, by decide⟩, Or.inl (by decide)⟩)
      | (exact ⟨⟨by rw [up_ne (by omega), up_ne (by omega)]; omega, by rw [up_ne (by omega), up_ne (by omega)]; omega⟩, (gW (by omega)).2.2, (gW (by omega)).1.2.f9 fun j => by rw [up_ne (by omega), up_ne (by omega)]⟩)
      | (exact ⟨⟨by omega, by omega⟩, ⟨by decide, by decide⟩, Or.inl (by decide)⟩)
      | (exact g11 (by omega))
      | (exfalso; omega)) ?_
  refine And.intro (by
    first
      | omega
      | exact gmd
      | exact ⟨by omega, by omega⟩
      | exact ⟨gmd, by decide, by decide⟩
      | exact ⟨i8, by omega, by omega⟩
      | exact ⟨⟨by omega, by omega⟩, by omega, by omega⟩
      | (have := g10 (by omega); rw [m51 823 _ (by omega) (by decide) (by decide)]; exact this)
      | (have := g10 (by omega); rw [m211 823 _ (by omega) (by decide) (by decide)]; exact this)
      | (have := g10 (by omega); rw [m200 823 _ (by omega) (by decide) (by decide)]; exact this)
      | (exact ⟨⟨by rw [up_ne (by omega), up_ne (by omega)]; omega, by rw [up_ne (by omega), up_ne (by omega)]; omega⟩, ⟨by decide, by decide⟩, Or.inl (by decide)⟩)
      | (exact ⟨⟨by rw [up_ne (by omega), up_ne (by omega)]; omega, by rw [up_ne (by omega), up_ne (by omega)]; omega⟩, (gW (by omega)).2.2, (gW (by omega)).1.2.f9 fun j => by rw [up_ne (by omega), up_ne (by omega)]⟩)
      | (exact ⟨⟨by omega, by omega⟩, ⟨by decide, by decide⟩, Or.inl (by decide)⟩)
      | (exact g11 (by omega))
      | (exfalso; omega)) ?_
  refine And.intro (by
    first
      | omega
      | exact gmd
      | exact ⟨by omega, by omega⟩
      | exact ⟨gmd, by decide, by decide⟩
      | exact ⟨i8, by omega, by omega⟩
      | exact ⟨⟨by omega, by omega⟩, by omega, by omega⟩
      | (have := g10 (by omega); rw [m51 823 _ (by omega) (by decide) (by decide)]; exact this)
      | (have := g10 (by omega); rw [m211 823 _ (by omega) (by decide) (by decide)]; exact this)
      | (have := g10 (by omega); rw [m200 823 _ (by omega) (by decide) (by decide)]; exact this)
      | (exact ⟨⟨by rw [up_ne (by omega), up_ne (by omega)]; omega, by rw [up_ne (by omega), up_ne (by omega)]; omega⟩, ⟨by decide, by decide⟩, Or.inl (by decide)⟩)
      | (exact ⟨⟨by rw [up_ne (by omega), up_ne (by omega)]; omega, by rw [up_ne (by omega), up_ne (by omega)]; omega⟩, (gW (by omega)).2.2, (gW (by omega)).1.2.f9 fun j => by rw [up_ne (by omega), up_ne (by omega)]⟩)
      | (exact ⟨⟨by omega, by omega⟩, ⟨by decide, by decide⟩, Or.inl (by decide)⟩)
      | (exact g11 (by omega))
      | (exfalso; omega)) ?_
  refine ⟨?_, ?_⟩
  · intro c23
    refine And.intro (by
      first
        | omega
        | exact gmd
        | exact ⟨by omega, by omega⟩
        | exact ⟨gmd, by decide, by decide⟩
        | exact ⟨i8, by omega, by omega⟩
        | exact ⟨⟨by omega, by omega⟩, by omega, by omega⟩
        | (have := g10 (by omega); rw [m51 823 _ (by omega) (by decide) (by decide)]; exact this)
        | (have := g10 (by omega); rw [m211 823 _ (by omega) (by decide) (by decide)]; exact this)
        | (have := g10 (by omega); rw [m200 823 _ (by omega) (by decide) (by decide)]; exact this)
        | (exact ⟨⟨by rw [up_ne (by omega), up_ne (by omega)]; omega, by rw [up_ne (by omega), up_ne (by omega)]; omega⟩, ⟨by decide, by decide⟩, Or.inl (by decide)⟩)
        | (exact ⟨⟨by rw [up_ne (by omega), up_ne (by omega)]; omega, by rw [up_ne (by omega), up_ne (by omega)]; omega⟩, (gW (by omega)).2.2, (gW (by omega)).1.2.f9 fun j => by rw [up_ne (by omega), up_ne (by omega)]⟩)
        | (exact ⟨⟨by omega, by omega⟩, ⟨by decide, by decide⟩, Or.inl (by decide)⟩)
        | (exact g11 (by omega))
        | (exfalso; omega)) ?_
    refine Exists.intro ([]) <| ?_
    refine And.intro (by
      first
        | omega
        | exact gmd
        | exact ⟨by omega, by omega⟩
        | exact ⟨gmd, by decide, by decide⟩
        | exact ⟨i8, by omega, by omega⟩
        | exact ⟨⟨by omega, by omega⟩, by omega, by omega⟩
        | (have := g10 (by omega); rw [m51 823 _ (by omega) (by decide) (by decide)]; exact this)
        | (have := g10 (by omega); rw [m211 823 _ (by omega) (by decide) (by decide)]; exact this)
        | (have := g10 (by omega); rw [m200 823 _ (by omega) (by decide) (by decide)]; exact this)
        | (exact ⟨⟨by rw [up_ne (by omega), up_ne (by omega)]; omega, by rw [up_ne (by omega), up_ne (by omega)]; omega⟩, ⟨by decide, by decide⟩, Or.inl (by decide)⟩)
        | (exact ⟨⟨by rw [up_ne (by omega), up_ne (by omega)]; omega, by rw [up_ne (by omega), up_ne (by omega)]; omega⟩, (gW (by omega)).2.2, (gW (by omega)).1.2.f9 fun j => by rw [up_ne (by omega), up_ne (by omega)]⟩)
        | (exact ⟨⟨by omega, by omega⟩, ⟨by decide, by decide⟩, Or.inl (by decide)⟩)
        | (exact g11 (by omega))
        | (exfalso; omega)) ?_
    intro M51 hM51
    obtain ⟨s51, m51⟩ := em_P.b (e := e.toNat) (M := M) hM51
    have e93 : M51 806 e.toNat = M 806 e.toNat := m51 806 _ (by omega) (by decide) (by decide)
    refine And.intro (by
      first
        | omega
        | exact gmd
        | exact ⟨by omega, by omega⟩
        | exact ⟨gmd, by decide, by decide⟩
        | exact ⟨i8, by omega, by omega⟩
        | exact ⟨⟨by omega, by omega⟩, by omega, by omega⟩
        | (have := g10 (by omega); rw [m51 823 _ (by omega) (by decide) (by decide)]; exact this)
        | (have := g10 (by omega); rw [m211 823 _ (by omega) (by decide) (by decide)]; exact this)
        | (have := g10 (by omega); rw [m200 823 _ (by omega) (by decide) (by decide)]; exact this)
        | (exact ⟨⟨by rw [up_ne (by omega), up_ne (by omega)]; omega, by rw [up_ne (by omega), up_ne (by omega)]; omega⟩, ⟨by decide, by decide⟩, Or.inl (by decide)⟩)
        | (exact ⟨⟨by rw [up_ne (by omega), up_ne (by omega)]; omega, by rw [up_ne (by omega), up_ne (by omega)]; omega⟩, (gW (by omega)).2.2, (gW (by omega)).1.2.f9 fun j => by rw [up_ne (by omega), up_ne (by omega)]⟩)
        | (exact ⟨⟨by omega, by omega⟩, ⟨by decide, by decide⟩, Or.inl (by decide)⟩)
        | (exact g11 (by omega))
        | (exfalso; omega)) ?_
    refine And.intro (by
      first
        | omega
        | exact gmd
        | exact ⟨by omega, by omega⟩
        | exact ⟨gmd, by decide, by decide⟩
        | exact ⟨i8, by omega, by omega⟩
        | exact ⟨⟨by omega, by omega⟩, by omega, by omega⟩
        | (have := g10 (by omega); rw [m51 823 _ (by omega) (by decide) (by decide)]; exact this)
        | (have := g10 (by omega); rw [m211 823 _ (by omega) (by decide) (by decide)]; exact this)
        | (have := g10 (by omega); rw [m200 823 _ (by omega) (by decide) (by decide)]; exact this)
        | (exact ⟨⟨by rw [up_ne (by omega), up_ne (by omega)]; omega, by rw [up_ne (by omega), up_ne (by omega)]; omega⟩, ⟨by decide, by decide⟩, Or.inl (by decide)⟩)
        | (exact ⟨⟨by rw [up_ne (by omega), up_ne (by omega)]; omega, by rw [up_ne (by omega), up_ne (by omega)]; omega⟩, (gW (by omega)).2.2, (gW (by omega)).1.2.f9 fun j => by rw [up_ne (by omega), up_ne (by omega)]⟩)
        | (exact ⟨⟨by omega, by omega⟩, ⟨by decide, by decide⟩, Or.inl (by decide)⟩)
        | (exact g11 (by omega))
        | (exfalso; omega)) ?_
    refine ⟨?_, ?_⟩
    · intro c60
      refine And.intro (by
        first
          | omega
          | exact gmd
          | exact ⟨by omega, by omega⟩
          | exact ⟨gmd, by decide, by decide⟩
          | exact ⟨i8, by omega, by omega⟩
          | exact ⟨⟨by omega, by omega⟩, by omega, by omega⟩
          | (have := g10 (by omega); rw [m51 823 _ (by omega) (by decide) (by decide)]; exact this)
          | (have := g10 (by omega); rw [m211 823 _ (by omega) (by decide) (by decide)]; exact this)
          | (have := g10 (by omega); rw [m200 823 _ (by omega) (by decide) (by decide)]; exact this)
          | (exact ⟨⟨by rw [up_ne (by omega), up_ne (by omega)]; omega, by rw [up_ne (by omega), up_ne (by omega)]; omega⟩, ⟨by decide, by decide⟩, Or.inl (by decide)⟩)
          | (exact ⟨⟨by rw [up_ne (by omega), up_ne (by omega)]; omega, by rw [up_ne (by omega), up_ne (by omega)]; omega⟩, (gW (by omega)).2.2, (gW (by omega)).1.2.f9 fun j => by rw [up_ne (by omega), up_ne (by omega)]⟩)
          | (exact ⟨⟨by omega, by omega⟩, ⟨by decide, by decide⟩, Or.inl (by decide)⟩)
          | (exact g11 (by omega))
          | (exfalso; omega)) ?_
      refine And.intro (by
        first
          | omega
          | exact gmd
          | exact ⟨by omega, by omega⟩
          | exact ⟨gmd, by decide, by decide⟩
          | exact ⟨i8, by omega, by omega⟩
          | exact ⟨⟨by omega, by omega⟩, by omega, by omega⟩
          | (have := g10 (by omega); rw [m51 823 _ (by omega) (by decide) (by decide)]; exact this)
          | (have := g10 (by omega); rw [m211 823 _ (by omega) (by decide) (by decide)]; exact this)
          | (have := g10 (by omega); rw [m200 823 _ (by omega) (by decide) (by decide)]; exact this)
          | (exact ⟨⟨by rw [up_ne (by omega), up_ne (by omega)]; omega, by rw [up_ne (by omega), up_ne (by omega)]; omega⟩, ⟨by decide, by decide⟩, Or.inl (by decide)⟩)
          | (exact ⟨⟨by rw [up_ne (by omega), up_ne (by omega)]; omega, by rw [up_ne (by omega), up_ne (by omega)]; omega⟩, (gW (by omega)).2.2, (gW (by omega)).1.2.f9 fun j => by rw [up_ne (by omega), up_ne (by omega)]⟩)
          | (exact ⟨⟨by omega, by omega⟩, ⟨by decide, by decide⟩, Or.inl (by decide)⟩)
          | (exact g11 (by omega))
          | (exfalso; omega)) ?_
      refine ⟨?_, ?_⟩
      · intro c88
        refine And.intro (by
          first
            | omega
            | exact gmd
            | exact ⟨by omega, by omega⟩
            | exact ⟨gmd, by decide, by decide⟩
            | exact ⟨i8, by omega, by omega⟩
            | exact ⟨⟨by omega, by omega⟩, by omega, by omega⟩
            | (have := g10 (by omega); rw [m51 823 _ (by omega) (by decide) (by decide)]; exact this)
            | (have := g10 (by omega); rw [m211 823 _ (by omega) (by decide) (by decide)]; exact this)
            | (have := g10 (by omega); rw [m200 823 _ (by omega) (by decide) (by decide)]; exact this)
            | (exact ⟨⟨by rw [up_ne (by omega), up_ne (by omega)]; omega, by rw [up_ne (by omega), up_ne (by omega)]; omega⟩, ⟨by decide, by decide⟩, Or.inl (by decide)⟩)
            | (exact ⟨⟨by rw [up_ne (by omega), up_ne (by omega)]; omega, by rw [up_ne (by omega), up_ne (by omega)]; omega⟩, (gW (by omega)).2.2, (gW (by omega)).1.2.f9 fun j => by rw [up_ne (by omega), up_ne (by omega)]⟩)
            | (exact ⟨⟨by omega, by omega⟩, ⟨by decide, by decide⟩, Or.inl (by decide)⟩)
            | (exact g11 (by omega))
            | (exfalso; omega)) ?_
        refine And.intro (by
          first
            | omega
            | exact gmd
            | exact ⟨by omega, by omega⟩
            | exact ⟨gmd, by decide, by decide⟩
            | exact ⟨i8, by omega, by omega⟩
            | exact ⟨⟨by omega, by omega⟩, by omega, by omega⟩
            | (have := g10 (by omega); rw [m51 823 _ (by omega) (by decide) (by decide)]; exact this)
            | (have := g10 (by omega); rw [m211 823 _ (by omega) (by decide) (by decide)]; exact this)
            | (have := g10 (by omega); rw [m200 823 _ (by omega) (by decide) (by decide)]; exact this)
            | (exact ⟨⟨by rw [up_ne (by omega), up_ne (by omega)]; omega, by rw [up_ne (by omega), up_ne (by omega)]; omega⟩, ⟨by decide, by decide⟩, Or.inl (by decide)⟩)
            | (exact ⟨⟨by rw [up_ne (by omega), up_ne (by omega)]; omega, by rw [up_ne (by omega), up_ne (by omega)]; omega⟩, (gW (by omega)).2.2, (gW (by omega)).1.2.f9 fun j => by rw [up_ne (by omega), up_ne (by omega)]⟩)
            | (exact ⟨⟨by omega, by omega⟩, ⟨by decide, by decide⟩, Or.inl (by decide)⟩)
            | (exact g11 (by omega))
            | (exfalso; omega)) ?_
        refine ⟨?_, ?_⟩
        · intro c151
          refine And.intro (by
            first
              | omega
              | exact gmd
              | exact ⟨by omega, by omega⟩
              | exact ⟨gmd, by decide, by decide⟩
              | exact ⟨i8, by omega, by omega⟩
              | exact ⟨⟨by omega, by omega⟩, by omega, by omega⟩
              | (have := g10 (by omega); rw [m51 823 _ (by omega) (by decide) (by decide)]; exact this)
              | (have := g10 (by omega); rw [m211 823 _ (by omega) (by decide) (by decide)]; exact this)
              | (have := g10 (by omega); rw [m200 823 _ (by omega) (by decide) (by decide)]; exact this)
              | (exact ⟨⟨by rw [up_ne (by omega), up_ne (by omega)]; omega, by rw [up_ne (by omega), up_ne (by omega)]; omega⟩, ⟨by decide, by decide⟩, Or.inl (by decide)⟩)
              | (exact ⟨⟨by rw [up_ne (by omega), up_ne (by omega)]; omega, by rw [up_ne (by omega), up_ne (by omega)]; omega⟩, (gW (by omega)).2.2, (gW (by omega)).1.2.f9 fun j => by rw [up_ne (by omega), up_ne (by omega)]⟩)
              | (exact ⟨⟨by omega, by omega⟩, ⟨by decide, by decide⟩, Or.inl (by decide)⟩)
              | (exact g11 (by omega))
              | (exfalso; omega)) ?_
          refine And.intro (by
            first
              | omega
              | exact gmd
              | exact ⟨by omega, by omega⟩
              | exact ⟨gmd, by decide, by decide⟩
              | exact ⟨i8, by omega, by omega⟩
              | exact ⟨⟨by omega, by omega⟩, by omega, by omega⟩
              | (have := g10 (by omega); rw [m51 823 _ (by omega) (by decide) (by decide)]; exact this)
              | (have := g10 (by omega); rw [m211 823 _ (by omega) (by decide) (by decide)]; exact this)
              | (have := g10 (by omega); rw [m200 823 _ (by omega) (by decide) (by decide)]; exact this)
              | (exact ⟨⟨by rw [up_ne (by omega), up_ne (by omega)]; omega, by rw [up_ne (by omega), up_ne (by omega)]; omega⟩, ⟨by decide, by decide⟩, Or.inl (by decide)⟩)
              | (exact ⟨⟨by rw [up_ne (by omega), up_ne (by omega)]; omega, by rw [up_ne (by omega), up_ne (by omega)]; omega⟩, (gW (by omega)).2.2, (gW (by omega)).1.2.f9 fun j => by rw [up_ne (by omega), up_ne (by omega)]⟩)
              | (exact ⟨⟨by omega, by omega⟩, ⟨by decide, by decide⟩, Or.inl (by decide)⟩)
              | (exact g11 (by omega))
              | (exfalso; omega)) ?_
          exfalso
          omega
        · intro c151
          refine And.intro (by
            first
              | omega
              | exact gmd
              | exact ⟨by omega, by omega⟩
              | exact ⟨gmd, by decide, by decide⟩
              | exact ⟨i8, by omega, by omega⟩
              | exact ⟨⟨by omega, by omega⟩, by omega, by omega⟩
              | (have := g10 (by omega); rw [m51 823 _ (by omega) (by decide) (by decide)]; exact this)
              | (have := g10 (by omega); rw [m211 823 _ (by omega) (by decide) (by decide)]; exact this)
              | (have := g10 (by omega); rw [m200 823 _ (by omega) (by decide) (by decide)]; exact this)
              | (exact ⟨⟨by rw [up_ne (by omega), up_ne (by omega)]; omega, by rw [up_ne (by omega), up_ne (by omega)]; omega⟩, ⟨by decide, by decide⟩, Or.inl (by decide)⟩)
              | (exact ⟨⟨by rw [up_ne (by omega), up_ne (by omega)]; omega, by rw [up_ne (by omega), up_ne (by omega)]; omega⟩, (gW (by omega)).2.2, (gW (by omega)).1.2.f9 fun j => by rw [up_ne (by omega), up_ne (by omega)]⟩)
              | (exact ⟨⟨by omega, by omega⟩, ⟨by decide, by decide⟩, Or.inl (by decide)⟩)
              | (exact g11 (by omega))
              | (exfalso; omega)) ?_
          refine And.intro (by
            first
              | omega
              | exact gmd
              | exact ⟨by omega, by omega⟩
              | exact ⟨gmd, by decide, by decide⟩
              | exact ⟨i8, by omega, by omega⟩
              | exact ⟨⟨by omega, by omega⟩, by omega, by omega⟩
              | (have := g10 (by omega); rw [m51 823 _ (by omega) (by decide) (by decide)]; exact this)
              | (have := g10 (by omega); rw [m211 823 _ (by omega) (by decide) (by decide)]; exact this)
              | (have := g10 (by omega); rw [m200 823 _ (by omega) (by decide) (by decide)]; exact this)
              | (exact ⟨⟨by rw [up_ne (by omega), up_ne (by omega)]; omega, by rw [up_ne (by omega), up_ne (by omega)]; omega⟩, ⟨by decide, by decide⟩, Or.inl (by decide)⟩)
              | (exact ⟨⟨by rw [up_ne (by omega), up_ne (by omega)]; omega, by rw [up_ne (by omega), up_ne (by omega)]; omega⟩, (gW (by omega)).2.2, (gW (by omega)).1.2.f9 fun j => by rw [up_ne (by omega), up_ne (by omega)]⟩)
              | (exact ⟨⟨by omega, by omega⟩, ⟨by decide, by decide⟩, Or.inl (by decide)⟩)
              | (exact g11 (by omega))
              | (exfalso; omega)) ?_
          refine ⟨?_, ?_⟩
          · intro c166
            refine Exists.intro ([]) <| ?_
            refine And.intro (by
              first
                | omega
                | exact gmd
                | exact ⟨by omega, by omega⟩
                | exact ⟨gmd, by decide, by decide⟩
                | exact ⟨i8, by omega, by omega⟩
                | exact ⟨⟨by omega, by omega⟩, by omega, by omega⟩
                | (have := g10 (by omega); rw [m51 823 _ (by omega) (by decide) (by decide)]; exact this)
                | (have := g10 (by omega); rw [m211 823 _ (by omega) (by decide) (by decide)]; exact this)
                | (have := g10 (by omega); rw [m200 823 _ (by omega) (by decide) (by decide)]; exact this)
                | (exact ⟨⟨by rw [up_ne (by omega), up_ne (by omega)]; omega, by rw [up_ne (by omega), up_ne (by omega)]; omega⟩, ⟨by decide, by decide⟩, Or.inl (by decide)⟩)
                | (exact ⟨⟨by rw [up_ne (by omega), up_ne (by omega)]; omega, by rw [up_ne (by omega), up_ne (by omega)]; omega⟩, (gW (by omega)).2.2, (gW (by omega)).1.2.f9 fun j => by rw [up_ne (by omega), up_ne (by omega)]⟩)
                | (exact ⟨⟨by omega, by omega⟩, ⟨by decide, by decide⟩, Or.inl (by decide)⟩)
                | (exact g11 (by omega))
                | (exfalso; omega)) ?_
            intro M211 hM211
            skip
            refine And.intro (by
              first
                | omega
                | exact gmd
                | exact ⟨by omega, by omega⟩
                | exact ⟨gmd, by decide, by decide⟩
                | exact ⟨i8, by omega, by omega⟩
                | exact ⟨⟨by omega, by omega⟩, by omega, by omega⟩
                | (have := g10 (by omega); rw [m51 823 _ (by omega) (by decide) (by decide)]; exact this)
                | (have := g10 (by omega); rw [m211 823 _ (by omega) (by decide) (by decide)]; exact this)
                | (have := g10 (by omega); rw [m200 823 _ (by omega) (by decide) (by decide)]; exact this)
                | (exact ⟨⟨by rw [up_ne (by omega), up_ne (by omega)]; omega, by rw [up_ne (by omega), up_ne (by omega)]; omega⟩, ⟨by decide, by decide⟩, Or.inl (by decide)⟩)
                | (exact ⟨⟨by rw [up_ne (by omega), up_ne (by omega)]; omega, by rw [up_ne (by omega), up_ne (by omega)]; omega⟩, (gW (by omega)).2.2, (gW (by omega)).1.2.f9 fun j => by rw [up_ne (by omega), up_ne (by omega)]⟩)
                | (exact ⟨⟨by omega, by omega⟩, ⟨by decide, by decide⟩, Or.inl (by decide)⟩)
                | (exact g11 (by omega))
                | (exfalso; omega)) ?_
            refine And.intro (by
              first
                | omega
                | exact gmd
                | exact ⟨by omega, by omega⟩
                | exact ⟨gmd, by decide, by decide⟩
                | exact ⟨i8, by omega, by omega⟩
                | exact ⟨⟨by omega, by omega⟩, by omega, by omega⟩
                | (have := g10 (by omega); rw [m51 823 _ (by omega) (by decide) (by decide)]; exact this)
                | (have := g10 (by omega); rw [m211 823 _ (by omega) (by decide) (by decide)]; exact this)
                | (have := g10 (by omega); rw [m200 823 _ (by omega) (by decide) (by decide)]; exact this)
                | (exact ⟨⟨by rw [up_ne (by omega), up_ne (by omega)]; omega, by rw [up_ne (by omega), up_ne (by omega)]; omega⟩, ⟨by decide, by decide⟩, Or.inl (by decide)⟩)
                | (exact ⟨⟨by rw [up_ne (by omega), up_ne (by omega)]; omega, by rw [up_ne (by omega), up_ne (by omega)]; omega⟩, (gW (by omega)).2.2, (gW (by omega)).1.2.f9 fun j => by rw [up_ne (by omega), up_ne (by omega)]⟩)
                | (exact ⟨⟨by omega, by omega⟩, ⟨by decide, by decide⟩, Or.inl (by decide)⟩)
                | (exact g11 (by omega))
                | (exfalso; omega)) ?_
            refine And.intro (by
              first
                | omega
                | exact gmd
                | exact ⟨by omega, by omega⟩
                | exact ⟨gmd, by decide, by decide⟩
                | exact ⟨i8, by omega, by omega⟩
                | exact ⟨⟨by omega, by omega⟩, by omega, by omega⟩
                | (have := g10 (by omega); rw [m51 823 _ (by omega) (by decide) (by decide)]; exact this)
                | (have := g10 (by omega); rw [m211 823 _ (by omega) (by decide) (by decide)]; exact this)
                | (have := g10 (by omega); rw [m200 823 _ (by omega) (by decide) (by decide)]; exact this)
                | (exact ⟨⟨by rw [up_ne (by omega), up_ne (by omega)]; omega, by rw [up_ne (by omega), up_ne (by omega)]; omega⟩, ⟨by decide, by decide⟩, Or.inl (by decide)⟩)
                | (exact ⟨⟨by rw [up_ne (by omega), up_ne (by omega)]; omega, by rw [up_ne (by omega), up_ne (by omega)]; omega⟩, (gW (by omega)).2.2, (gW (by omega)).1.2.f9 fun j => by rw [up_ne (by omega), up_ne (by omega)]⟩)
                | (exact ⟨⟨by omega, by omega⟩, ⟨by decide, by decide⟩, Or.inl (by decide)⟩)
                | (exact g11 (by omega))
                | (exfalso; omega)) ?_
            refine And.intro (by
              first
                | omega
                | exact gmd
                | exact ⟨by omega, by omega⟩
                | exact ⟨gmd, by decide, by decide⟩
                | exact ⟨i8, by omega, by omega⟩
                | exact ⟨⟨by omega, by omega⟩, by omega, by omega⟩
                | (have := g10 (by omega); rw [m51 823 _ (by omega) (by decide) (by decide)]; exact this)
                | (have := g10 (by omega); rw [m211 823 _ (by omega) (by decide) (by decide)]; exact this)
                | (have := g10 (by omega); rw [m200 823 _ (by omega) (by decide) (by decide)]; exact this)
                | (exact ⟨⟨by rw [up_ne (by omega), up_ne (by omega)]; omega, by rw [up_ne (by omega), up_ne (by omega)]; omega⟩, ⟨by decide, by decide⟩, Or.inl (by decide)⟩)
                | (exact ⟨⟨by rw [up_ne (by omega), up_ne (by omega)]; omega, by rw [up_ne (by omega), up_ne (by omega)]; omega⟩, (gW (by omega)).2.2, (gW (by omega)).1.2.f9 fun j => by rw [up_ne (by omega), up_ne (by omega)]⟩)
                | (exact ⟨⟨by omega, by omega⟩, ⟨by decide, by decide⟩, Or.inl (by decide)⟩)
                | (exact g11 (by omega))
                | (exfalso; omega)) ?_
            exfalso
            omega
          · intro c166
            refine And.intro (by
              first
                | omega
                | exact gmd
                | exact ⟨by omega, by omega⟩
                | exact ⟨gmd, by decide, by decide⟩
                | exact ⟨i8, by omega, by omega⟩
                | exact ⟨⟨by omega, by omega⟩, by omega, by omega⟩
                | (have := g10 (by omega); rw [m51 823 _ (by omega) (by decide) (by decide)]; exact this)
                | (have := g10 (by omega); rw [m211 823 _ (by omega) (by decide) (by decide)]; exact this)
                | (have := g10 (by omega); rw [m200 823 _ (by omega) (by decide) (by decide)]; exact this)
                | (exact ⟨⟨by rw [up_ne (by omega), up_ne (by omega)]; omega, by rw [up_ne (by omega), up_ne (by omega)]; omega⟩, ⟨by decide, by decide⟩, Or.inl (by decide)⟩)
                | (exact ⟨⟨by rw [up_ne (by omega), up_ne (by omega)]; omega, by rw [up_ne (by omega), up_ne (by omega)]; omega⟩, (gW (by omega)).2.2, (gW (by omega)).1.2.f9 fun j => by rw [up_ne (by omega), up_ne (by omega)]⟩)
                | (exact ⟨⟨by omega, by omega⟩, ⟨by decide, by decide⟩, Or.inl (by decide)⟩)
                | (exact g11 (by omega))
                | (exfalso; omega)) ?_
            refine And.intro (by
              first
                | omega
                | exact gmd
                | exact ⟨by omega, by omega⟩
                | exact ⟨gmd, by decide, by decide⟩
                | exact ⟨i8, by omega, by omega⟩
                | exact ⟨⟨by omega, by omega⟩, by omega, by omega⟩
                | (have := g10 (by omega); rw [m51 823 _ (by omega) (by decide) (by decide)]; exact this)
                | (have := g10 (by omega); rw [m211 823 _ (by omega) (by decide) (by decide)]; exact this)
                | (have := g10 (by omega); rw [m200 823 _ (by omega) (by decide) (by decide)]; exact this)
                | (exact ⟨⟨by rw [up_ne (by omega), up_ne (by omega)]; omega, by rw [up_ne (by omega), up_ne (by omega)]; omega⟩, ⟨by decide, by decide⟩, Or.inl (by decide)⟩)
                | (exact ⟨⟨by rw [up_ne (by omega), up_ne (by omega)]; omega, by rw [up_ne (by omega), up_ne (by omega)]; omega⟩, (gW (by omega)).2.2, (gW (by omega)).1.2.f9 fun j => by rw [up_ne (by omega), up_ne (by omega)]⟩)
                | (exact ⟨⟨by omega, by omega⟩, ⟨by decide, by decide⟩, Or.inl (by decide)⟩)
                | (exact g11 (by omega))
                | (exfalso; omega)) ?_
            refine And.intro (by
              first
                | omega
                | exact gmd
                | exact ⟨by omega, by omega⟩
                | exact ⟨gmd, by decide, by decide⟩
                | exact ⟨i8, by omega, by omega⟩
                | exact ⟨⟨by omega, by omega⟩, by omega, by omega⟩
                | (have := g10 (by omega); rw [m51 823 _ (by omega) (by decide) (by decide)]; exact this)
                | (have := g10 (by omega); rw [m211 823 _ (by omega) (by decide) (by decide)]; exact this)
                | (have := g10 (by omega); rw [m200 823 _ (by omega) (by decide) (by decide)]; exact this)
                | (exact ⟨⟨by rw [up_ne (by omega), up_ne (by omega)]; omega, by rw [up_ne (by omega), up_ne (by omega)]; omega⟩, ⟨by decide, by decide⟩, Or.inl (by decide)⟩)
                | (exact ⟨⟨by rw [up_ne (by omega), up_ne (by omega)]; omega, by rw [up_ne (by omega), up_ne (by omega)]; omega⟩, (gW (by omega)).2.2, (gW (by omega)).1.2.f9 fun j => by rw [up_ne (by omega), up_ne (by omega)]⟩)
                | (exact ⟨⟨by omega, by omega⟩, ⟨by decide, by decide⟩, Or.inl (by decide)⟩)
                | (exact g11 (by omega))
                | (exfalso; omega)) ?_
            refine Exists.intro ((W2 (M 812 e.toNat).toNat)) <| ?_
            refine And.intro (by
              first
                | omega
                | exact gmd
                | exact ⟨by omega, by omega⟩
                | exact ⟨gmd, by decide, by decide⟩
                | exact ⟨i8, by omega, by omega⟩
                | exact ⟨⟨by omega, by omega⟩, by omega, by omega⟩
                | (have := g10 (by omega); rw [m51 823 _ (by omega) (by decide) (by decide)]; exact this)
                | (have := g10 (by omega); rw [m211 823 _ (by omega) (by decide) (by decide)]; exact this)
                | (have := g10 (by omega); rw [m200 823 _ (by omega) (by decide) (by decide)]; exact this)
                | (exact ⟨⟨by rw [up_ne (by omega), up_ne (by omega)]; omega, by rw [up_ne (by omega), up_ne (by omega)]; omega⟩, ⟨by decide, by decide⟩, Or.inl (by decide)⟩)
                | (exact ⟨⟨by rw [up_ne (by omega), up_ne (by omega)]; omega, by rw [up_ne (by omega), up_ne (by omega)]; omega⟩, (gW (by omega)).2.2, (gW (by omega)).1.2.f9 fun j => by rw [up_ne (by omega), up_ne (by omega)]⟩)
                | (exact ⟨⟨by omega, by omega⟩, ⟨by decide, by decide⟩, Or.inl (by decide)⟩)
                | (exact g11 (by omega))
                | (exfalso; omega)) ?_
            intro M191 hM191
            skip
            refine And.intro (by
              first
                | omega
                | exact gmd
                | exact ⟨by omega, by omega⟩
                | exact ⟨gmd, by decide, by decide⟩
                | exact ⟨i8, by omega, by omega⟩
                | exact ⟨⟨by omega, by omega⟩, by omega, by omega⟩
                | (have := g10 (by omega); rw [m51 823 _ (by omega) (by decide) (by decide)]; exact this)
                | (have := g10 (by omega); rw [m211 823 _ (by omega) (by decide) (by decide)]; exact this)
                | (have := g10 (by omega); rw [m200 823 _ (by omega) (by decide) (by decide)]; exact this)
                | (exact ⟨⟨by rw [up_ne (by omega), up_ne (by omega)]; omega, by rw [up_ne (by omega), up_ne (by omega)]; omega⟩, ⟨by decide, by decide⟩, Or.inl (by decide)⟩)
                | (exact ⟨⟨by rw [up_ne (by omega), up_ne (by omega)]; omega, by rw [up_ne (by omega), up_ne (by omega)]; omega⟩, (gW (by omega)).2.2, (gW (by omega)).1.2.f9 fun j => by rw [up_ne (by omega), up_ne (by omega)]⟩)
                | (exact ⟨⟨by omega, by omega⟩, ⟨by decide, by decide⟩, Or.inl (by decide)⟩)
                | (exact g11 (by omega))
                | (exfalso; omega)) ?_
            refine Exists.intro ([]) <| ?_
            refine And.intro (by
              first
                | omega
                | exact gmd
                | exact ⟨by omega, by omega⟩
                | exact ⟨gmd, by decide, by decide⟩
                | exact ⟨i8, by omega, by omega⟩
                | exact ⟨⟨by omega, by omega⟩, by omega, by omega⟩
                | (have := g10 (by omega); rw [m51 823 _ (by omega) (by decide) (by decide)]; exact this)
                | (have := g10 (by omega); rw [m211 823 _ (by omega) (by decide) (by decide)]; exact this)
                | (have := g10 (by omega); rw [m200 823 _ (by omega) (by decide) (by decide)]; exact this)
                | (exact ⟨⟨by rw [up_ne (by omega), up_ne (by omega)]; omega, by rw [up_ne (by omega), up_ne (by omega)]; omega⟩, ⟨by decide, by decide⟩, Or.inl (by decide)⟩)
                | (exact ⟨⟨by rw [up_ne (by omega), up_ne (by omega)]; omega, by rw [up_ne (by omega), up_ne (by omega)]; omega⟩, (gW (by omega)).2.2, (gW (by omega)).1.2.f9 fun j => by rw [up_ne (by omega), up_ne (by omega)]⟩)
                | (exact ⟨⟨by omega, by omega⟩, ⟨by decide, by decide⟩, Or.inl (by decide)⟩)
                | (exact g11 (by omega))
                | (exfalso; omega)) ?_
            intro M200 hM200
            skip
            refine And.intro (by
              first
                | omega
                | exact gmd
                | exact ⟨by omega, by omega⟩
                | exact ⟨gmd, by decide, by decide⟩
                | exact ⟨i8, by omega, by omega⟩
                | exact ⟨⟨by omega, by omega⟩, by omega, by omega⟩
                | (have := g10 (by omega); rw [m51 823 _ (by omega) (by decide) (by decide)]; exact this)
                | (have := g10 (by omega); rw [m211 823 _ (by omega) (by decide) (by decide)]; exact this)
                | (have := g10 (by omega); rw [m200 823 _ (by omega) (by decide) (by decide)]; exact this)
                | (exact ⟨⟨by rw [up_ne (by omega), up_ne (by omega)]; omega, by rw [up_ne (by omega), up_ne (by omega)]; omega⟩, ⟨by decide, by decide⟩, Or.inl (by decide)⟩)
                | (exact ⟨⟨by rw [up_ne (by omega), up_ne (by omega)]; omega, by rw [up_ne (by omega), up_ne (by omega)]; omega⟩, (gW (by omega)).2.2, (gW (by omega)).1.2.f9 fun j => by rw [up_ne (by omega), up_ne (by omega)]⟩)
                | (exact ⟨⟨by omega, by omega⟩, ⟨by decide, by decide⟩, Or.inl (by decide)⟩)
                | (exact g11 (by omega))
                | (exfalso; omega)) ?_
            refine And.intro (by
              first
                | omega
                | exact gmd
                | exact ⟨by omega, by omega⟩
                | exact ⟨gmd, by decide, by decide⟩
                | exact ⟨i8, by omega, by omega⟩
                | exact ⟨⟨by omega, by omega⟩, by omega, by omega⟩
                | (have := g10 (by omega); rw [m51 823 _ (by omega) (by decide) (by decide)]; exact this)
                | (have := g10 (by omega); rw [m211 823 _ (by omega) (by decide) (by decide)]; exact this)
                | (have := g10 (by omega); rw [m200 823 _ (by omega) (by decide) (by decide)]; exact this)
                | (exact ⟨⟨by rw [up_ne (by omega), up_ne (by omega)]; omega, by rw [up_ne (by omega), up_ne (by omega)]; omega⟩, ⟨by decide, by decide⟩, Or.inl (by decide)⟩)
                | (exact ⟨⟨by rw [up_ne (by omega), up_ne (by omega)]; omega, by rw [up_ne (by omega), up_ne (by omega)]; omega⟩, (gW (by omega)).2.2, (gW (by omega)).1.2.f9 fun j => by rw [up_ne (by omega), up_ne (by omega)]⟩)
                | (exact ⟨⟨by omega, by omega⟩, ⟨by decide, by decide⟩, Or.inl (by decide)⟩)
                | (exact g11 (by omega))
                | (exfalso; omega)) ?_
            exfalso
            omega
      · intro c88
        exfalso
        omega
    · intro c60
      refine And.intro (by
        first
          | omega
          | exact gmd
          | exact ⟨by omega, by omega⟩
          | exact ⟨gmd, by decide, by decide⟩
          | exact ⟨i8, by omega, by omega⟩
          | exact ⟨⟨by omega, by omega⟩, by omega, by omega⟩
          | (have := g10 (by omega); rw [m51 823 _ (by omega) (by decide) (by decide)]; exact this)
          | (have := g10 (by omega); rw [m211 823 _ (by omega) (by decide) (by decide)]; exact this)
          | (have := g10 (by omega); rw [m200 823 _ (by omega) (by decide) (by decide)]; exact this)
          | (exact ⟨⟨by rw [up_ne (by omega), up_ne (by omega)]; omega, by rw [up_ne (by omega), up_ne (by omega)]; omega⟩, ⟨by decide, by decide⟩, Or.inl (by decide)⟩)
          | (exact ⟨⟨by rw [up_ne (by omega), up_ne (by omega)]; omega, by rw [up_ne (by omega), up_ne (by omega)]; omega⟩, (gW (by omega)).2.2, (gW (by omega)).1.2.f9 fun j => by rw [up_ne (by omega), up_ne (by omega)]⟩)
          | (exact ⟨⟨by omega, by omega⟩, ⟨by decide, by decide⟩, Or.inl (by decide)⟩)
          | (exact g11 (by omega))
          | (exfalso; omega)) ?_
      refine And.intro (by
        first
          | omega
          | exact gmd
          | exact ⟨by omega, by omega⟩
          | exact ⟨gmd, by decide, by decide⟩
          | exact ⟨i8, by omega, by omega⟩
          | exact ⟨⟨by omega, by omega⟩, by omega, by omega⟩
          | (have := g10 (by omega); rw [m51 823 _ (by omega) (by decide) (by decide)]; exact this)
          | (have := g10 (by omega); rw [m211 823 _ (by omega) (by decide) (by decide)]; exact this)
          | (have := g10 (by omega); rw [m200 823 _ (by omega) (by decide) (by decide)]; exact this)
          | (exact ⟨⟨by rw [up_ne (by omega), up_ne (by omega)]; omega, by rw [up_ne (by omega), up_ne (by omega)]; omega⟩, ⟨by decide, by decide⟩, Or.inl (by decide)⟩)
          | (exact ⟨⟨by rw [up_ne (by omega), up_ne (by omega)]; omega, by rw [up_ne (by omega), up_ne (by omega)]; omega⟩, (gW (by omega)).2.2, (gW (by omega)).1.2.f9 fun j => by rw [up_ne (by omega), up_ne (by omega)]⟩)
          | (exact ⟨⟨by omega, by omega⟩, ⟨by decide, by decide⟩, Or.inl (by decide)⟩)
          | (exact g11 (by omega))
          | (exfalso; omega)) ?_
      refine gK _ ⟨fun _ => ⟨M51, hM51, ?_⟩, fun q => by omega, fun q => by omega, fun q => by omega⟩
      rw [m51 823 _ (by omega) (by decide) (by decide), s51]
  · intro c23
    refine And.intro (by
      first
        | omega
        | exact gmd
        | exact ⟨by omega, by omega⟩
        | exact ⟨gmd, by decide, by decide⟩
        | exact ⟨i8, by omega, by omega⟩
        | exact ⟨⟨by omega, by omega⟩, by omega, by omega⟩
        | (have := g10 (by omega); rw [m51 823 _ (by omega) (by decide) (by decide)]; exact this)
        | (have := g10 (by omega); rw [m211 823 _ (by omega) (by decide) (by decide)]; exact this)
        | (have := g10 (by omega); rw [m200 823 _ (by omega) (by decide) (by decide)]; exact this)
        | (exact ⟨⟨by rw [up_ne (by omega), up_ne (by omega)]; omega, by rw [up_ne (by omega), up_ne (by omega)]; omega⟩, ⟨by decide, by decide⟩, Or.inl (by decide)⟩)
        | (exact ⟨⟨by rw [up_ne (by omega), up_ne (by omega)]; omega, by rw [up_ne (by omega), up_ne (by omega)]; omega⟩, (gW (by omega)).2.2, (gW (by omega)).1.2.f9 fun j => by rw [up_ne (by omega), up_ne (by omega)]⟩)
        | (exact ⟨⟨by omega, by omega⟩, ⟨by decide, by decide⟩, Or.inl (by decide)⟩)
        | (exact g11 (by omega))
        | (exfalso; omega)) ?_
    refine And.intro (by
      first
        | omega
        | exact gmd
        | exact ⟨by omega, by omega⟩
        | exact ⟨gmd, by decide, by decide⟩
        | exact ⟨i8, by omega, by omega⟩
        | exact ⟨⟨by omega, by omega⟩, by omega, by omega⟩
        | (have := g10 (by omega); rw [m51 823 _ (by omega) (by decide) (by decide)]; exact this)
        | (have := g10 (by omega); rw [m211 823 _ (by omega) (by decide) (by decide)]; exact this)
        | (have := g10 (by omega); rw [m200 823 _ (by omega) (by decide) (by decide)]; exact this)
        | (exact ⟨⟨by rw [up_ne (by omega), up_ne (by omega)]; omega, by rw [up_ne (by omega), up_ne (by omega)]; omega⟩, ⟨by decide, by decide⟩, Or.inl (by decide)⟩)
        | (exact ⟨⟨by rw [up_ne (by omega), up_ne (by omega)]; omega, by rw [up_ne (by omega), up_ne (by omega)]; omega⟩, (gW (by omega)).2.2, (gW (by omega)).1.2.f9 fun j => by rw [up_ne (by omega), up_ne (by omega)]⟩)
        | (exact ⟨⟨by omega, by omega⟩, ⟨by decide, by decide⟩, Or.inl (by decide)⟩)
        | (exact g11 (by omega))
        | (exfalso; omega)) ?_
    refine ⟨?_, ?_⟩
    · intro c33
      refine And.intro (by
        first
          | omega
          | exact gmd
          | exact ⟨by omega, by omega⟩
          | exact ⟨gmd, by decide, by decide⟩
          | exact ⟨i8, by omega, by omega⟩
          | exact ⟨⟨by omega, by omega⟩, by omega, by omega⟩
          | (have := g10 (by omega); rw [m51 823 _ (by omega) (by decide) (by decide)]; exact this)
          | (have := g10 (by omega); rw [m211 823 _ (by omega) (by decide) (by decide)]; exact this)
          | (have := g10 (by omega); rw [m200 823 _ (by omega) (by decide) (by decide)]; exact this)
          | (exact ⟨⟨by rw [up_ne (by omega), up_ne (by omega)]; omega, by rw [up_ne (by omega), up_ne (by omega)]; omega⟩, ⟨by decide, by decide⟩, Or.inl (by decide)⟩)
          | (exact ⟨⟨by rw [up_ne (by omega), up_ne (by omega)]; omega, by rw [up_ne (by omega), up_ne (by omega)]; omega⟩, (gW (by omega)).2.2, (gW (by omega)).1.2.f9 fun j => by rw [up_ne (by omega), up_ne (by omega)]⟩)
          | (exact ⟨⟨by omega, by omega⟩, ⟨by decide, by decide⟩, Or.inl (by decide)⟩)
          | (exact g11 (by omega))
          | (exfalso; omega)) ?_
      refine And.intro (by
        first
          | omega
          | exact gmd
          | exact ⟨by omega, by omega⟩
          | exact ⟨gmd, by decide, by decide⟩
          | exact ⟨i8, by omega, by omega⟩
          | exact ⟨⟨by omega, by omega⟩, by omega, by omega⟩
          | (have := g10 (by omega); rw [m51 823 _ (by omega) (by decide) (by decide)]; exact this)
          | (have := g10 (by omega); rw [m211 823 _ (by omega) (by decide) (by decide)]; exact this)
          | (have := g10 (by omega); rw [m200 823 _ (by omega) (by decide) (by decide)]; exact this)
          | (exact ⟨⟨by rw [up_ne (by omega), up_ne (by omega)]; omega, by rw [up_ne (by omega), up_ne (by omega)]; omega⟩, ⟨by decide, by decide⟩, Or.inl (by decide)⟩)
          | (exact ⟨⟨by rw [up_ne (by omega), up_ne (by omega)]; omega, by rw [up_ne (by omega), up_ne (by omega)]; omega⟩, (gW (by omega)).2.2, (gW (by omega)).1.2.f9 fun j => by rw [up_ne (by omega), up_ne (by omega)]⟩)
          | (exact ⟨⟨by omega, by omega⟩, ⟨by decide, by decide⟩, Or.inl (by decide)⟩)
          | (exact g11 (by omega))
          | (exfalso; omega)) ?_
      refine ⟨?_, ?_⟩
      · intro c60
        refine And.intro (by
          first
            | omega
            | exact gmd
            | exact ⟨by omega, by omega⟩
            | exact ⟨gmd, by decide, by decide⟩
            | exact ⟨i8, by omega, by omega⟩
            | exact ⟨⟨by omega, by omega⟩, by omega, by omega⟩
            | (have := g10 (by omega); rw [m51 823 _ (by omega) (by decide) (by decide)]; exact this)
            | (have := g10 (by omega); rw [m211 823 _ (by omega) (by decide) (by decide)]; exact this)
            | (have := g10 (by omega); rw [m200 823 _ (by omega) (by decide) (by decide)]; exact this)
            | (exact ⟨⟨by rw [up_ne (by omega), up_ne (by omega)]; omega, by rw [up_ne (by omega), up_ne (by omega)]; omega⟩, ⟨by decide, by decide⟩, Or.inl (by decide)⟩)
            | (exact ⟨⟨by rw [up_ne (by omega), up_ne (by omega)]; omega, by rw [up_ne (by omega), up_ne (by omega)]; omega⟩, (gW (by omega)).2.2, (gW (by omega)).1.2.f9 fun j => by rw [up_ne (by omega), up_ne (by omega)]⟩)
            | (exact ⟨⟨by omega, by omega⟩, ⟨by decide, by decide⟩, Or.inl (by decide)⟩)
            | (exact g11 (by omega))
            | (exfalso; omega)) ?_
        refine And.intro (by
          first
            | omega
            | exact gmd
            | exact ⟨by omega, by omega⟩
            | exact ⟨gmd, by decide, by decide⟩
            | exact ⟨i8, by omega, by omega⟩
            | exact ⟨⟨by omega, by omega⟩, by omega, by omega⟩
            | (have := g10 (by omega); rw [m51 823 _ (by omega) (by decide) (by decide)]; exact this)
            | (have := g10 (by omega); rw [m211 823 _ (by omega) (by decide) (by decide)]; exact this)
            | (have := g10 (by omega); rw [m200 823 _ (by omega) (by decide) (by decide)]; exact this)
            | (exact ⟨⟨by rw [up_ne (by omega), up_ne (by omega)]; omega, by rw [up_ne (by omega), up_ne (by omega)]; omega⟩, ⟨by decide, by decide⟩, Or.inl (by decide)⟩)
            | (exact ⟨⟨by rw [up_ne (by omega), up_ne (by omega)]; omega, by rw [up_ne (by omega), up_ne (by omega)]; omega⟩, (gW (by omega)).2.2, (gW (by omega)).1.2.f9 fun j => by rw [up_ne (by omega), up_ne (by omega)]⟩)
            | (exact ⟨⟨by omega, by omega⟩, ⟨by decide, by decide⟩, Or.inl (by decide)⟩)
            | (exact g11 (by omega))
            | (exfalso; omega)) ?_
        refine ⟨?_, ?_⟩
        · intro c88
          refine And.intro (by
            first
              | omega
              | exact gmd
              | exact ⟨by omega, by omega⟩
              | exact ⟨gmd, by decide, by decide⟩
              | exact ⟨i8, by omega, by omega⟩
              | exact ⟨⟨by omega, by omega⟩, by omega, by omega⟩
              | (have := g10 (by omega); rw [m51 823 _ (by omega) (by decide) (by decide)]; exact this)
              | (have := g10 (by omega); rw [m211 823 _ (by omega) (by decide) (by decide)]; exact this)
              | (have := g10 (by omega); rw [m200 823 _ (by omega) (by decide) (by decide)]; exact this)
              | (exact ⟨⟨by rw [up_ne (by omega), up_ne (by omega)]; omega, by rw [up_ne (by omega), up_ne (by omega)]; omega⟩, ⟨by decide, by decide⟩, Or.inl (by decide)⟩)
              | (exact ⟨⟨by rw [up_ne (by omega), up_ne (by omega)]; omega, by rw [up_ne (by omega), up_ne (by omega)]; omega⟩, (gW (by omega)).2.2, (gW (by omega)).1.2.f9 fun j => by rw [up_ne (by omega), up_ne (by omega)]⟩)
              | (exact ⟨⟨by omega, by omega⟩, ⟨by decide, by decide⟩, Or.inl (by decide)⟩)
              | (exact g11 (by omega))
              | (exfalso; omega)) ?_
          refine And.intro (by
            first
              | omega
              | exact gmd
              | exact ⟨by omega, by omega⟩
              | exact ⟨gmd, by decide, by decide⟩
              | exact ⟨i8, by omega, by omega⟩
              | exact ⟨⟨by omega, by omega⟩, by omega, by omega⟩
              | (have := g10 (by omega); rw [m51 823 _ (by omega) (by decide) (by decide)]; exact this)
              | (have := g10 (by omega); rw [m211 823 _ (by omega) (by decide) (by decide)]; exact this)
              | (have := g10 (by omega); rw [m200 823 _ (by omega) (by decide) (by decide)]; exact this)
              | (exact ⟨⟨by rw [up_ne (by omega), up_ne (by omega)]; omega, by rw [up_ne (by omega), up_ne (by omega)]; omega⟩, ⟨by decide, by decide⟩, Or.inl (by decide)⟩)
              | (exact ⟨⟨by rw [up_ne (by omega), up_ne (by omega)]; omega, by rw [up_ne (by omega), up_ne (by omega)]; omega⟩, (gW (by omega)).2.2, (gW (by omega)).1.2.f9 fun j => by rw [up_ne (by omega), up_ne (by omega)]⟩)
              | (exact ⟨⟨by omega, by omega⟩, ⟨by decide, by decide⟩, Or.inl (by decide)⟩)
              | (exact g11 (by omega))
              | (exfalso; omega)) ?_
          refine ⟨?_, ?_⟩
          · intro c151
            refine And.intro (by
              first
                | omega
                | exact gmd
                | exact ⟨by omega, by omega⟩
                | exact ⟨gmd, by decide, by decide⟩
                | exact ⟨i8, by omega, by omega⟩
                | exact ⟨⟨by omega, by omega⟩, by omega, by omega⟩
                | (have := g10 (by omega); rw [m51 823 _ (by omega) (by decide) (by decide)]; exact this)
                | (have := g10 (by omega); rw [m211 823 _ (by omega) (by decide) (by decide)]; exact this)
                | (have := g10 (by omega); rw [m200 823 _ (by omega) (by decide) (by decide)]; exact this)
                | (exact ⟨⟨by rw [up_ne (by omega), up_ne (by omega)]; omega, by rw [up_ne (by omega), up_ne (by omega)]; omega⟩, ⟨by decide, by decide⟩, Or.inl (by decide)⟩)
                | (exact ⟨⟨by rw [up_ne (by omega), up_ne (by omega)]; omega, by rw [up_ne (by omega), up_ne (by omega)]; omega⟩, (gW (by omega)).2.2, (gW (by omega)).1.2.f9 fun j => by rw [up_ne (by omega), up_ne (by omega)]⟩)
                | (exact ⟨⟨by omega, by omega⟩, ⟨by decide, by decide⟩, Or.inl (by decide)⟩)
                | (exact g11 (by omega))
                | (exfalso; omega)) ?_
            refine And.intro (by
              first
                | omega
                | exact gmd
                | exact ⟨by omega, by omega⟩
                | exact ⟨gmd, by decide, by decide⟩
                | exact ⟨i8, by omega, by omega⟩
                | exact ⟨⟨by omega, by omega⟩, by omega, by omega⟩
                | (have := g10 (by omega); rw [m51 823 _ (by omega) (by decide) (by decide)]; exact this)
                | (have := g10 (by omega); rw [m211 823 _ (by omega) (by decide) (by decide)]; exact this)
                | (have := g10 (by omega); rw [m200 823 _ (by omega) (by decide) (by decide)]; exact this)
                | (exact ⟨⟨by rw [up_ne (by omega), up_ne (by omega)]; omega, by rw [up_ne (by omega), up_ne (by omega)]; omega⟩, ⟨by decide, by decide⟩, Or.inl (by decide)⟩)
                | (exact ⟨⟨by rw [up_ne (by omega), up_ne (by omega)]; omega, by rw [up_ne (by omega), up_ne (by omega)]; omega⟩, (gW (by omega)).2.2, (gW (by omega)).1.2.f9 fun j => by rw [up_ne (by omega), up_ne (by omega)]⟩)
                | (exact ⟨⟨by omega, by omega⟩, ⟨by decide, by decide⟩, Or.inl (by decide)⟩)
                | (exact g11 (by omega))
                | (exfalso; omega)) ?_
            exact gK _ ⟨fun q => by omega, fun q => by omega, fun q => by omega, fun _ => rfl⟩
          · intro c151
            refine And.intro (by
              first
                | omega
                | exact gmd
                | exact ⟨by omega, by omega⟩
                | exact ⟨gmd, by decide, by decide⟩
                | exact ⟨i8, by omega, by omega⟩
                | exact ⟨⟨by omega, by omega⟩, by omega, by omega⟩
                | (have := g10 (by omega); rw [m51 823 _ (by omega) (by decide) (by decide)]; exact this)
                | (have := g10 (by omega); rw [m211 823 _ (by omega) (by decide) (by decide)]; exact this)
                | (have := g10 (by omega); rw [m200 823 _ (by omega) (by decide) (by decide)]; exact this)
                | (exact ⟨⟨by rw [up_ne (by omega), up_ne (by omega)]; omega, by rw [up_ne (by omega), up_ne (by omega)]; omega⟩, ⟨by decide, by decide⟩, Or.inl (by decide)⟩)
                | (exact ⟨⟨by rw [up_ne (by omega), up_ne (by omega)]; omega, by rw [up_ne (by omega), up_ne (by omega)]; omega⟩, (gW (by omega)).2.2, (gW (by omega)).1.2.f9 fun j => by rw [up_ne (by omega), up_ne (by omega)]⟩)
                | (exact ⟨⟨by omega, by omega⟩, ⟨by decide, by decide⟩, Or.inl (by decide)⟩)
                | (exact g11 (by omega))
                | (exfalso; omega)) ?_
            refine And.intro (by
              first
                | omega
                | exact gmd
                | exact ⟨by omega, by omega⟩
                | exact ⟨gmd, by decide, by decide⟩
                | exact ⟨i8, by omega, by omega⟩
                | exact ⟨⟨by omega, by omega⟩, by omega, by omega⟩
                | (have := g10 (by omega); rw [m51 823 _ (by omega) (by decide) (by decide)]; exact this)
                | (have := g10 (by omega); rw [m211 823 _ (by omega) (by decide) (by decide)]; exact this)
                | (have := g10 (by omega); rw [m200 823 _ (by omega) (by decide) (by decide)]; exact this)
                | (exact ⟨⟨by rw [up_ne (by omega), up_ne (by omega)]; omega, by rw [up_ne (by omega), up_ne (by omega)]; omega⟩, ⟨by decide, by decide⟩, Or.inl (by decide)⟩)
                | (exact ⟨⟨by rw [up_ne (by omega), up_ne (by omega)]; omega, by rw [up_ne (by omega), up_ne (by omega)]; omega⟩, (gW (by omega)).2.2, (gW (by omega)).1.2.f9 fun j => by rw [up_ne (by omega), up_ne (by omega)]⟩)
                | (exact ⟨⟨by omega, by omega⟩, ⟨by decide, by decide⟩, Or.inl (by decide)⟩)
                | (exact g11 (by omega))
                | (exfalso; omega)) ?_
            refine ⟨?_, ?_⟩
            · intro c166
              refine Exists.intro ([]) <| ?_
              refine And.intro (by
                first
                  | omega
                  | exact gmd
                  | exact ⟨by omega, by omega⟩
                  | exact ⟨gmd, by decide, by decide⟩
                  | exact ⟨i8, by omega, by omega⟩
                  | exact ⟨⟨by omega, by omega⟩, by omega, by omega⟩
                  | (have := g10 (by omega); rw [m51 823 _ (by omega) (by decide) (by decide)]; exact this)
                  | (have := g10 (by omega); rw [m211 823 _ (by omega) (by decide) (by decide)]; exact this)
                  | (have := g10 (by omega); rw [m200 823 _ (by omega) (by decide) (by decide)]; exact this)
                  | (exact ⟨⟨by rw [up_ne (by omega), up_ne (by omega)]; omega, by rw [up_ne (by omega), up_ne (by omega)]; omega⟩, ⟨by decide, by decide⟩, Or.inl (by decide)⟩)
                  | (exact ⟨⟨by rw [up_ne (by omega), up_ne (by omega)]; omega, by rw [up_ne (by omega), up_ne (by omega)]; omega⟩, (gW (by omega)).2.2, (gW (by omega)).1.2.f9 fun j => by rw [up_ne (by omega), up_ne (by omega)]⟩)
                  | (exact ⟨⟨by omega, by omega⟩, ⟨by decide, by decide⟩, Or.inl (by decide)⟩)
                  | (exact g11 (by omega))
                  | (exfalso; omega)) ?_
              intro M211 hM211
              obtain ⟨s211, m211⟩ := em_P.b (e := e.toNat) (M := M) hM211
              refine And.intro (by
                first
                  | omega
                  | exact gmd
                  | exact ⟨by omega, by omega⟩
                  | exact ⟨gmd, by decide, by decide⟩
                  | exact ⟨i8, by omega, by omega⟩
                  | exact ⟨⟨by omega, by omega⟩, by omega, by omega⟩
                  | (have := g10 (by omega); rw [m51 823 _ (by omega) (by decide) (by decide)]; exact this)
                  | (have := g10 (by omega); rw [m211 823 _ (by omega) (by decide) (by decide)]; exact this)
                  | (have := g10 (by omega); rw [m200 823 _ (by omega) (by decide) (by decide)]; exact this)
                  | (exact ⟨⟨by rw [up_ne (by omega), up_ne (by omega)]; omega, by rw [up_ne (by omega), up_ne (by omega)]; omega⟩, ⟨by decide, by decide⟩, Or.inl (by decide)⟩)
                  | (exact ⟨⟨by rw [up_ne (by omega), up_ne (by omega)]; omega, by rw [up_ne (by omega), up_ne (by omega)]; omega⟩, (gW (by omega)).2.2, (gW (by omega)).1.2.f9 fun j => by rw [up_ne (by omega), up_ne (by omega)]⟩)
                  | (exact ⟨⟨by omega, by omega⟩, ⟨by decide, by decide⟩, Or.inl (by decide)⟩)
                  | (exact g11 (by omega))
                  | (exfalso; omega)) ?_
              refine And.intro (by
                first
                  | omega
                  | exact gmd
                  | exact ⟨by omega, by omega⟩
                  | exact ⟨gmd, by decide, by decide⟩
                  | exact ⟨i8, by omega, by omega⟩
                  | exact ⟨⟨by omega, by omega⟩, by omega, by omega⟩
                  | (have := g10 (by omega); rw [m51 823 _ (by omega) (by decide) (by decide)]; exact this)
                  | (have := g10 (by omega); rw [m211 823 _ (by omega) (by decide) (by decide)]; exact this)
                  | (have := g10 (by omega); rw [m200 823 _ (by omega) (by decide) (by decide)]; exact this)
                  | (exact ⟨⟨by rw [up_ne (by omega), up_ne (by omega)]; omega, by rw [up_ne (by omega), up_ne (by omega)]; omega⟩, ⟨by decide, by decide⟩, Or.inl (by decide)⟩)
                  | (exact ⟨⟨by rw [up_ne (by omega), up_ne (by omega)]; omega, by rw [up_ne (by omega), up_ne (by omega)]; omega⟩, (gW (by omega)).2.2, (gW (by omega)).1.2.f9 fun j => by rw [up_ne (by omega), up_ne (by omega)]⟩)
                  | (exact ⟨⟨by omega, by omega⟩, ⟨by decide, by decide⟩, Or.inl (by decide)⟩)
                  | (exact g11 (by omega))
                  | (exfalso; omega)) ?_
              refine And.intro (by
                first
                  | omega
                  | exact gmd
                  | exact ⟨by omega, by omega⟩
                  | exact ⟨gmd, by decide, by decide⟩
                  | exact ⟨i8, by omega, by omega⟩
                  | exact ⟨⟨by omega, by omega⟩, by omega, by omega⟩
                  | (have := g10 (by omega); rw [m51 823 _ (by omega) (by decide) (by decide)]; exact this)
                  | (have := g10 (by omega); rw [m211 823 _ (by omega) (by decide) (by decide)]; exact this)
                  | (have := g10 (by omega); rw [m200 823 _ (by omega) (by decide) (by decide)]; exact this)
                  | (exact ⟨⟨by rw [up_ne (by omega), up_ne (by omega)]; omega, by rw [up_ne (by omega), up_ne (by omega)]; omega⟩, ⟨by decide, by decide⟩, Or.inl (by decide)⟩)
                  | (exact ⟨⟨by rw [up_ne (by omega), up_ne (by omega)]; omega, by rw [up_ne (by omega), up_ne (by omega)]; omega⟩, (gW (by omega)).2.2, (gW (by omega)).1.2.f9 fun j => by rw [up_ne (by omega), up_ne (by omega)]⟩)
                  | (exact ⟨⟨by omega, by omega⟩, ⟨by decide, by decide⟩, Or.inl (by decide)⟩)
                  | (exact g11 (by omega))
                  | (exfalso; omega)) ?_
              refine And.intro (by
                first
                  | omega
                  | exact gmd
                  | exact ⟨by omega, by omega⟩
                  | exact ⟨gmd, by decide, by decide⟩
                  | exact ⟨i8, by omega, by omega⟩
                  | exact ⟨⟨by omega, by omega⟩, by omega, by omega⟩
                  | (have := g10 (by omega); rw [m51 823 _ (by omega) (by decide) (by decide)]; exact this)
                  | (have := g10 (by omega); rw [m211 823 _ (by omega) (by decide) (by decide)]; exact this)
                  | (have := g10 (by omega); rw [m200 823 _ (by omega) (by decide) (by decide)]; exact this)
                  | (exact ⟨⟨by rw [up_ne (by omega), up_ne (by omega)]; omega, by rw [up_ne (by omega), up_ne (by omega)]; omega⟩, ⟨by decide, by decide⟩, Or.inl (by decide)⟩)
                  | (exact ⟨⟨by rw [up_ne (by omega), up_ne (by omega)]; omega, by rw [up_ne (by omega), up_ne (by omega)]; omega⟩, (gW (by omega)).2.2, (gW (by omega)).1.2.f9 fun j => by rw [up_ne (by omega), up_ne (by omega)]⟩)
                  | (exact ⟨⟨by omega, by omega⟩, ⟨by decide, by decide⟩, Or.inl (by decide)⟩)
                  | (exact g11 (by omega))
                  | (exfalso; omega)) ?_
              refine gK _ ⟨fun q => by omega, fun q => by omega, fun _ => ⟨fun z => absurd z c166, fun _ => ⟨M211, hM211, ?_⟩⟩, fun q => by omega⟩
              rw [m211 823 _ (by omega) (by decide) (by decide), s211, show M 797 33 + 1 - 1 = M 797 33 by omega]
            · intro c166
              refine And.intro (by
                first
                  | omega
                  | exact gmd
                  | exact ⟨by omega, by omega⟩
                  | exact ⟨gmd, by decide, by decide⟩
                  | exact ⟨i8, by omega, by omega⟩
                  | exact ⟨⟨by omega, by omega⟩, by omega, by omega⟩
                  | (have := g10 (by omega); rw [m51 823 _ (by omega) (by decide) (by decide)]; exact this)
                  | (have := g10 (by omega); rw [m211 823 _ (by omega) (by decide) (by decide)]; exact this)
                  | (have := g10 (by omega); rw [m200 823 _ (by omega) (by decide) (by decide)]; exact this)
                  | (exact ⟨⟨by rw [up_ne (by omega), up_ne (by omega)]; omega, by rw [up_ne (by omega), up_ne (by omega)]; omega⟩, ⟨by decide, by decide⟩, Or.inl (by decide)⟩)
                  | (exact ⟨⟨by rw [up_ne (by omega), up_ne (by omega)]; omega, by rw [up_ne (by omega), up_ne (by omega)]; omega⟩, (gW (by omega)).2.2, (gW (by omega)).1.2.f9 fun j => by rw [up_ne (by omega), up_ne (by omega)]⟩)
                  | (exact ⟨⟨by omega, by omega⟩, ⟨by decide, by decide⟩, Or.inl (by decide)⟩)
                  | (exact g11 (by omega))
                  | (exfalso; omega)) ?_
              refine And.intro (by
                first
                  | omega
                  | exact gmd
                  | exact ⟨by omega, by omega⟩
                  | exact ⟨gmd, by decide, by decide⟩
                  | exact ⟨i8, by omega, by omega⟩
                  | exact ⟨⟨by omega, by omega⟩, by omega, by omega⟩
                  | (have := g10 (by omega); rw [m51 823 _ (by omega) (by decide) (by decide)]; exact this)
                  | (have := g10 (by omega); rw [m211 823 _ (by omega) (by decide) (by decide)]; exact this)
                  | (have := g10 (by omega); rw [m200 823 _ (by omega) (by decide) (by decide)]; exact this)
                  | (exact ⟨⟨by rw [up_ne (by omega), up_ne (by omega)]; omega, by rw [up_ne (by omega), up_ne (by omega)]; omega⟩, ⟨by decide, by decide⟩, Or.inl (by decide)⟩)
                  | (exact ⟨⟨by rw [up_ne (by omega), up_ne (by omega)]; omega, by rw [up_ne (by omega), up_ne (by omega)]; omega⟩, (gW (by omega)).2.2, (gW (by omega)).1.2.f9 fun j => by rw [up_ne (by omega), up_ne (by omega)]⟩)
                  | (exact ⟨⟨by omega, by omega⟩, ⟨by decide, by decide⟩, Or.inl (by decide)⟩)
                  | (exact g11 (by omega))
                  | (exfalso; omega)) ?_
              refine And.intro (by
                first
                  | omega
                  | exact gmd
                  | exact ⟨by omega, by omega⟩
                  | exact ⟨gmd, by decide, by decide⟩
                  | exact ⟨i8, by omega, by omega⟩
                  | exact ⟨⟨by omega, by omega⟩, by omega, by omega⟩
                  | (have := g10 (by omega); rw [m51 823 _ (by omega) (by decide) (by decide)]; exact this)
                  | (have := g10 (by omega); rw [m211 823 _ (by omega) (by decide) (by decide)]; exact this)
                  | (have := g10 (by omega); rw [m200 823 _ (by omega) (by decide) (by decide)]; exact this)
                  | (exact ⟨⟨by rw [up_ne (by omega), up_ne (by omega)]; omega, by rw [up_ne (by omega), up_ne (by omega)]; omega⟩, ⟨by decide, by decide⟩, Or.inl (by decide)⟩)
                  | (exact ⟨⟨by rw [up_ne (by omega), up_ne (by omega)]; omega, by rw [up_ne (by omega), up_ne (by omega)]; omega⟩, (gW (by omega)).2.2, (gW (by omega)).1.2.f9 fun j => by rw [up_ne (by omega), up_ne (by omega)]⟩)
                  | (exact ⟨⟨by omega, by omega⟩, ⟨by decide, by decide⟩, Or.inl (by decide)⟩)
                  | (exact g11 (by omega))
                  | (exfalso; omega)) ?_
              refine Exists.intro ((W2 (M 812 e.toNat).toNat)) <| ?_
              refine And.intro (by
                first
                  | omega
                  | exact gmd
                  | exact ⟨by omega, by omega⟩
                  | exact ⟨gmd, by decide, by decide⟩
                  | exact ⟨i8, by omega, by omega⟩
                  | exact ⟨⟨by omega, by omega⟩, by omega, by omega⟩
                  | (have := g10 (by omega); rw [m51 823 _ (by omega) (by decide) (by decide)]; exact this)
                  | (have := g10 (by omega); rw [m211 823 _ (by omega) (by decide) (by decide)]; exact this)
                  | (have := g10 (by omega); rw [m200 823 _ (by omega) (by decide) (by decide)]; exact this)
                  | (exact ⟨⟨by rw [up_ne (by omega), up_ne (by omega)]; omega, by rw [up_ne (by omega), up_ne (by omega)]; omega⟩, ⟨by decide, by decide⟩, Or.inl (by decide)⟩)
                  | (exact ⟨⟨by rw [up_ne (by omega), up_ne (by omega)]; omega, by rw [up_ne (by omega), up_ne (by omega)]; omega⟩, (gW (by omega)).2.2, (gW (by omega)).1.2.f9 fun j => by rw [up_ne (by omega), up_ne (by omega)]⟩)
                  | (exact ⟨⟨by omega, by omega⟩, ⟨by decide, by decide⟩, Or.inl (by decide)⟩)
                  | (exact g11 (by omega))
                  | (exfalso; omega)) ?_
              intro M191 hM191
              obtain ⟨s191, m191⟩ := em_P.b (e := e.toNat) (M := M) hM191
              refine And.intro (by
                first
                  | omega
                  | exact gmd
                  | exact ⟨by omega, by omega⟩
                  | exact ⟨gmd, by decide, by decide⟩
                  | exact ⟨i8, by omega, by omega⟩
                  | exact ⟨⟨by omega, by omega⟩, by omega, by omega⟩
                  | (have := g10 (by omega); rw [m51 823 _ (by omega) (by decide) (by decide)]; exact this)
                  | (have := g10 (by omega); rw [m211 823 _ (by omega) (by decide) (by decide)]; exact this)
                  | (have := g10 (by omega); rw [m200 823 _ (by omega) (by decide) (by decide)]; exact this)
                  | (exact ⟨⟨by rw [up_ne (by omega), up_ne (by omega)]; omega, by rw [up_ne (by omega), up_ne (by omega)]; omega⟩, ⟨by decide, by decide⟩, Or.inl (by decide)⟩)
                  | (exact ⟨⟨by rw [up_ne (by omega), up_ne (by omega)]; omega, by rw [up_ne (by omega), up_ne (by omega)]; omega⟩, (gW (by omega)).2.2, (gW (by omega)).1.2.f9 fun j => by rw [up_ne (by omega), up_ne (by omega)]⟩)
                  | (exact ⟨⟨by omega, by omega⟩, ⟨by decide, by decide⟩, Or.inl (by decide)⟩)
                  | (exact g11 (by omega))
                  | (exfalso; omega)) ?_
              refine Exists.intro ([]) <| ?_
              refine And.intro (by
                first
                  | omega
                  | exact gmd
                  | exact ⟨by omega, by omega⟩
                  | exact ⟨gmd, by decide, by decide⟩
                  | exact ⟨i8, by omega, by omega⟩
                  | exact ⟨⟨by omega, by omega⟩, by omega, by omega⟩
                  | (have := g10 (by omega); rw [m51 823 _ (by omega) (by decide) (by decide)]; exact this)
                  | (have := g10 (by omega); rw [m211 823 _ (by omega) (by decide) (by decide)]; exact this)
                  | (have := g10 (by omega); rw [m200 823 _ (by omega) (by decide) (by decide)]; exact this)
                  | (exact ⟨⟨by rw [up_ne (by omega), up_ne (by omega)]; omega, by rw [up_ne (by omega), up_ne (by omega)]; omega⟩, ⟨by decide, by decide⟩, Or.inl (by decide)⟩)
                  | (exact ⟨⟨by rw [up_ne (by omega), up_ne (by omega)]; omega, by rw [up_ne (by omega), up_ne (by omega)]; omega⟩, (gW (by omega)).2.2, (gW (by omega)).1.2.f9 fun j => by rw [up_ne (by omega), up_ne (by omega)]⟩)
                  | (exact ⟨⟨by omega, by omega⟩, ⟨by decide, by decide⟩, Or.inl (by decide)⟩)
                  | (exact g11 (by omega))
                  | (exfalso; omega)) ?_
              intro M200 hM200
              have s200 : M200 797 33 = M 797 33 + 2 := by have := hM200.F.2; omega
              have m200 : ∀ o j : Nat, ¬ (o = 797 ∧ (j = 27 ∨ j = 33)) → ¬ (817 ≤ o ∧ o ≤ 822) → o ≠ 824 → M200 o j = M o j := fun o j a b c => (hM200.F.1 o j (by omega) b).trans (m191 o j a b c)
              refine And.intro (by
                first
                  | omega
                  | exact gmd
                  | exact ⟨by omega, by omega⟩
                  | exact ⟨gmd, by decide, by decide⟩
                  | exact ⟨i8, by omega, by omega⟩
                  | exact ⟨⟨by omega, by omega⟩, by omega, by omega⟩
                  | (have := g10 (by omega); rw [m51 823 _ (by omega) (by decide) (by decide)]; exact this)
                  | (have := g10 (by omega); rw [m211 823 _ (by omega) (by decide) (by decide)]; exact this)
                  | (have := g10 (by omega); rw [m200 823 _ (by omega) (by decide) (by decide)]; exact this)
                  | (exact ⟨⟨by rw [up_ne (by omega), up_ne (by omega)]; omega, by rw [up_ne (by omega), up_ne (by omega)]; omega⟩, ⟨by decide, by decide⟩, Or.inl (by decide)⟩)
                  | (exact ⟨⟨by rw [up_ne (by omega), up_ne (by omega)]; omega, by rw [up_ne (by omega), up_ne (by omega)]; omega⟩, (gW (by omega)).2.2, (gW (by omega)).1.2.f9 fun j => by rw [up_ne (by omega), up_ne (by omega)]⟩)
                  | (exact ⟨⟨by omega, by omega⟩, ⟨by decide, by decide⟩, Or.inl (by decide)⟩)
                  | (exact g11 (by omega))
                  | (exfalso; omega)) ?_
              refine And.intro (by
                first
                  | omega
                  | exact gmd
                  | exact ⟨by omega, by omega⟩
                  | exact ⟨gmd, by decide, by decide⟩
                  | exact ⟨i8, by omega, by omega⟩
                  | exact ⟨⟨by omega, by omega⟩, by omega, by omega⟩
                  | (have := g10 (by omega); rw [m51 823 _ (by omega) (by decide) (by decide)]; exact this)
                  | (have := g10 (by omega); rw [m211 823 _ (by omega) (by decide) (by decide)]; exact this)
                  | (have := g10 (by omega); rw [m200 823 _ (by omega) (by decide) (by decide)]; exact this)
                  | (exact ⟨⟨by rw [up_ne (by omega), up_ne (by omega)]; omega, by rw [up_ne (by omega), up_ne (by omega)]; omega⟩, ⟨by decide, by decide⟩, Or.inl (by decide)⟩)
                  | (exact ⟨⟨by rw [up_ne (by omega), up_ne (by omega)]; omega, by rw [up_ne (by omega), up_ne (by omega)]; omega⟩, (gW (by omega)).2.2, (gW (by omega)).1.2.f9 fun j => by rw [up_ne (by omega), up_ne (by omega)]⟩)
                  | (exact ⟨⟨by omega, by omega⟩, ⟨by decide, by decide⟩, Or.inl (by decide)⟩)
                  | (exact g11 (by omega))
                  | (exfalso; omega)) ?_
              refine gK _ ⟨fun q => by omega, fun q => by omega, fun _ => ⟨fun _ => ⟨M200, ⟨M191, hM191, M200, hM200, rfl⟩, ?_⟩, fun z => absurd c166 z⟩, fun q => by omega⟩
              rw [m200 823 _ (by omega) (by decide) (by decide), s200]
        · intro c88
          exfalso
          omega
      · intro c60
        refine And.intro (by
          first
            | omega
            | exact gmd
            | exact ⟨by omega, by omega⟩
            | exact ⟨gmd, by decide, by decide⟩
            | exact ⟨i8, by omega, by omega⟩
            | exact ⟨⟨by omega, by omega⟩, by omega, by omega⟩
            | (have := g10 (by omega); rw [m51 823 _ (by omega) (by decide) (by decide)]; exact this)
            | (have := g10 (by omega); rw [m211 823 _ (by omega) (by decide) (by decide)]; exact this)
            | (have := g10 (by omega); rw [m200 823 _ (by omega) (by decide) (by decide)]; exact this)
            | (exact ⟨⟨by rw [up_ne (by omega), up_ne (by omega)]; omega, by rw [up_ne (by omega), up_ne (by omega)]; omega⟩, ⟨by decide, by decide⟩, Or.inl (by decide)⟩)
            | (exact ⟨⟨by rw [up_ne (by omega), up_ne (by omega)]; omega, by rw [up_ne (by omega), up_ne (by omega)]; omega⟩, (gW (by omega)).2.2, (gW (by omega)).1.2.f9 fun j => by rw [up_ne (by omega), up_ne (by omega)]⟩)
            | (exact ⟨⟨by omega, by omega⟩, ⟨by decide, by decide⟩, Or.inl (by decide)⟩)
            | (exact g11 (by omega))
            | (exfalso; omega)) ?_
        refine And.intro (by
          first
            | omega
            | exact gmd
            | exact ⟨by omega, by omega⟩
            | exact ⟨gmd, by decide, by decide⟩
            | exact ⟨i8, by omega, by omega⟩
            | exact ⟨⟨by omega, by omega⟩, by omega, by omega⟩
            | (have := g10 (by omega); rw [m51 823 _ (by omega) (by decide) (by decide)]; exact this)
            | (have := g10 (by omega); rw [m211 823 _ (by omega) (by decide) (by decide)]; exact this)
            | (have := g10 (by omega); rw [m200 823 _ (by omega) (by decide) (by decide)]; exact this)
            | (exact ⟨⟨by rw [up_ne (by omega), up_ne (by omega)]; omega, by rw [up_ne (by omega), up_ne (by omega)]; omega⟩, ⟨by decide, by decide⟩, Or.inl (by decide)⟩)
            | (exact ⟨⟨by rw [up_ne (by omega), up_ne (by omega)]; omega, by rw [up_ne (by omega), up_ne (by omega)]; omega⟩, (gW (by omega)).2.2, (gW (by omega)).1.2.f9 fun j => by rw [up_ne (by omega), up_ne (by omega)]⟩)
            | (exact ⟨⟨by omega, by omega⟩, ⟨by decide, by decide⟩, Or.inl (by decide)⟩)
            | (exact g11 (by omega))
            | (exfalso; omega)) ?_
        exfalso
        omega
    · intro c33
      refine And.intro (by
        first
          | omega
          | exact gmd
          | exact ⟨by omega, by omega⟩
          | exact ⟨gmd, by decide, by decide⟩
          | exact ⟨i8, by omega, by omega⟩
          | exact ⟨⟨by omega, by omega⟩, by omega, by omega⟩
          | (have := g10 (by omega); rw [m51 823 _ (by omega) (by decide) (by decide)]; exact this)
          | (have := g10 (by omega); rw [m211 823 _ (by omega) (by decide) (by decide)]; exact this)
          | (have := g10 (by omega); rw [m200 823 _ (by omega) (by decide) (by decide)]; exact this)
          | (exact ⟨⟨by rw [up_ne (by omega), up_ne (by omega)]; omega, by rw [up_ne (by omega), up_ne (by omega)]; omega⟩, ⟨by decide, by decide⟩, Or.inl (by decide)⟩)
          | (exact ⟨⟨by rw [up_ne (by omega), up_ne (by omega)]; omega, by rw [up_ne (by omega), up_ne (by omega)]; omega⟩, (gW (by omega)).2.2, (gW (by omega)).1.2.f9 fun j => by rw [up_ne (by omega), up_ne (by omega)]⟩)
          | (exact ⟨⟨by omega, by omega⟩, ⟨by decide, by decide⟩, Or.inl (by decide)⟩)
          | (exact g11 (by omega))
          | (exfalso; omega)) ?_
      refine Exists.intro ([]) <| ?_
      refine And.intro (by
        first
          | omega
          | exact gmd
          | exact ⟨by omega, by omega⟩
          | exact ⟨gmd, by decide, by decide⟩
          | exact ⟨i8, by omega, by omega⟩
          | exact ⟨⟨by omega, by omega⟩, by omega, by omega⟩
          | (have := g10 (by omega); rw [m51 823 _ (by omega) (by decide) (by decide)]; exact this)
          | (have := g10 (by omega); rw [m211 823 _ (by omega) (by decide) (by decide)]; exact this)
          | (have := g10 (by omega); rw [m200 823 _ (by omega) (by decide) (by decide)]; exact this)
          | (exact ⟨⟨by rw [up_ne (by omega), up_ne (by omega)]; omega, by rw [up_ne (by omega), up_ne (by omega)]; omega⟩, ⟨by decide, by decide⟩, Or.inl (by decide)⟩)
          | (exact ⟨⟨by rw [up_ne (by omega), up_ne (by omega)]; omega, by rw [up_ne (by omega), up_ne (by omega)]; omega⟩, (gW (by omega)).2.2, (gW (by omega)).1.2.f9 fun j => by rw [up_ne (by omega), up_ne (by omega)]⟩)
          | (exact ⟨⟨by omega, by omega⟩, ⟨by decide, by decide⟩, Or.inl (by decide)⟩)
          | (exact g11 (by omega))
          | (exfalso; omega)) ?_
      intro M51 hM51
      obtain ⟨s51, m51⟩ := em_P.b (e := e.toNat) (M := M) hM51
      have e93 : M51 806 e.toNat = M 806 e.toNat := m51 806 _ (by omega) (by decide) (by decide)
      refine And.intro (by
        first
          | omega
          | exact gmd
          | exact ⟨by omega, by omega⟩
          | exact ⟨gmd, by decide, by decide⟩
          | exact ⟨i8, by omega, by omega⟩
          | exact ⟨⟨by omega, by omega⟩, by omega, by omega⟩
          | (have := g10 (by omega); rw [m51 823 _ (by omega) (by decide) (by decide)]; exact this)
          | (have := g10 (by omega); rw [m211 823 _ (by omega) (by decide) (by decide)]; exact this)
          | (have := g10 (by omega); rw [m200 823 _ (by omega) (by decide) (by decide)]; exact this)
          | (exact ⟨⟨by rw [up_ne (by omega), up_ne (by omega)]; omega, by rw [up_ne (by omega), up_ne (by omega)]; omega⟩, ⟨by decide, by decide⟩, Or.inl (by decide)⟩)
          | (exact ⟨⟨by rw [up_ne (by omega), up_ne (by omega)]; omega, by rw [up_ne (by omega), up_ne (by omega)]; omega⟩, (gW (by omega)).2.2, (gW (by omega)).1.2.f9 fun j => by rw [up_ne (by omega), up_ne (by omega)]⟩)
          | (exact ⟨⟨by omega, by omega⟩, ⟨by decide, by decide⟩, Or.inl (by decide)⟩)
          | (exact g11 (by omega))
          | (exfalso; omega)) ?_
      refine And.intro (by
        first
          | omega
          | exact gmd
          | exact ⟨by omega, by omega⟩
          | exact ⟨gmd, by decide, by decide⟩
          | exact ⟨i8, by omega, by omega⟩
          | exact ⟨⟨by omega, by omega⟩, by omega, by omega⟩
          | (have := g10 (by omega); rw [m51 823 _ (by omega) (by decide) (by decide)]; exact this)
          | (have := g10 (by omega); rw [m211 823 _ (by omega) (by decide) (by decide)]; exact this)
          | (have := g10 (by omega); rw [m200 823 _ (by omega) (by decide) (by decide)]; exact this)
          | (exact ⟨⟨by rw [up_ne (by omega), up_ne (by omega)]; omega, by rw [up_ne (by omega), up_ne (by omega)]; omega⟩, ⟨by decide, by decide⟩, Or.inl (by decide)⟩)
          | (exact ⟨⟨by rw [up_ne (by omega), up_ne (by omega)]; omega, by rw [up_ne (by omega), up_ne (by omega)]; omega⟩, (gW (by omega)).2.2, (gW (by omega)).1.2.f9 fun j => by rw [up_ne (by omega), up_ne (by omega)]⟩)
          | (exact ⟨⟨by omega, by omega⟩, ⟨by decide, by decide⟩, Or.inl (by decide)⟩)
          | (exact g11 (by omega))
          | (exfalso; omega)) ?_
      refine ⟨?_, ?_⟩
      · intro c60
        refine And.intro (by
          first
            | omega
            | exact gmd
            | exact ⟨by omega, by omega⟩
            | exact ⟨gmd, by decide, by decide⟩
            | exact ⟨i8, by omega, by omega⟩
            | exact ⟨⟨by omega, by omega⟩, by omega, by omega⟩
            | (have := g10 (by omega); rw [m51 823 _ (by omega) (by decide) (by decide)]; exact this)
            | (have := g10 (by omega); rw [m211 823 _ (by omega) (by decide) (by decide)]; exact this)
            | (have := g10 (by omega); rw [m200 823 _ (by omega) (by decide) (by decide)]; exact this)
            | (exact ⟨⟨by rw [up_ne (by omega), up_ne (by omega)]; omega, by rw [up_ne (by omega), up_ne (by omega)]; omega⟩, ⟨by decide, by decide⟩, Or.inl (by decide)⟩)
            | (exact ⟨⟨by rw [up_ne (by omega), up_ne (by omega)]; omega, by rw [up_ne (by omega), up_ne (by omega)]; omega⟩, (gW (by omega)).2.2, (gW (by omega)).1.2.f9 fun j => by rw [up_ne (by omega), up_ne (by omega)]⟩)
            | (exact ⟨⟨by omega, by omega⟩, ⟨by decide, by decide⟩, Or.inl (by decide)⟩)
            | (exact g11 (by omega))
            | (exfalso; omega)) ?_
        refine And.intro (by
          first
            | omega
            | exact gmd
            | exact ⟨by omega, by omega⟩
            | exact ⟨gmd, by decide, by decide⟩
            | exact ⟨i8, by omega, by omega⟩
            | exact ⟨⟨by omega, by omega⟩, by omega, by omega⟩
            | (have := g10 (by omega); rw [m51 823 _ (by omega) (by decide) (by decide)]; exact this)
            | (have := g10 (by omega); rw [m211 823 _ (by omega) (by decide) (by decide)]; exact this)
            | (have := g10 (by omega); rw [m200 823 _ (by omega) (by decide) (by decide)]; exact this)
            | (exact ⟨⟨by rw [up_ne (by omega), up_ne (by omega)]; omega, by rw [up_ne (by omega), up_ne (by omega)]; omega⟩, ⟨by decide, by decide⟩, Or.inl (by decide)⟩)
            | (exact ⟨⟨by rw [up_ne (by omega), up_ne (by omega)]; omega, by rw [up_ne (by omega), up_ne (by omega)]; omega⟩, (gW (by omega)).2.2, (gW (by omega)).1.2.f9 fun j => by rw [up_ne (by omega), up_ne (by omega)]⟩)
            | (exact ⟨⟨by omega, by omega⟩, ⟨by decide, by decide⟩, Or.inl (by decide)⟩)
            | (exact g11 (by omega))
            | (exfalso; omega)) ?_
        refine ⟨?_, ?_⟩
        · intro c88
          refine And.intro (by
            first
              | omega
              | exact gmd
              | exact ⟨by omega, by omega⟩
              | exact ⟨gmd, by decide, by decide⟩
              | exact ⟨i8, by omega, by omega⟩
              | exact ⟨⟨by omega, by omega⟩, by omega, by omega⟩
              | (have := g10 (by omega); rw [m51 823 _ (by omega) (by decide) (by decide)]; exact this)
              | (have := g10 (by omega); rw [m211 823 _ (by omega) (by decide) (by decide)]; exact this)
              | (have := g10 (by omega); rw [m200 823 _ (by omega) (by decide) (by decide)]; exact this)
              | (exact ⟨⟨by rw [up_ne (by omega), up_ne (by omega)]; omega, by rw [up_ne (by omega), up_ne (by omega)]; omega⟩, ⟨by decide, by decide⟩, Or.inl (by decide)⟩)
              | (exact ⟨⟨by rw [up_ne (by omega), up_ne (by omega)]; omega, by rw [up_ne (by omega), up_ne (by omega)]; omega⟩, (gW (by omega)).2.2, (gW (by omega)).1.2.f9 fun j => by rw [up_ne (by omega), up_ne (by omega)]⟩)
              | (exact ⟨⟨by omega, by omega⟩, ⟨by decide, by decide⟩, Or.inl (by decide)⟩)
              | (exact g11 (by omega))
              | (exfalso; omega)) ?_
          refine And.intro (by
            first
              | omega
              | exact gmd
              | exact ⟨by omega, by omega⟩
              | exact ⟨gmd, by decide, by decide⟩
              | exact ⟨i8, by omega, by omega⟩
              | exact ⟨⟨by omega, by omega⟩, by omega, by omega⟩
              | (have := g10 (by omega); rw [m51 823 _ (by omega) (by decide) (by decide)]; exact this)
              | (have := g10 (by omega); rw [m211 823 _ (by omega) (by decide) (by decide)]; exact this)
              | (have := g10 (by omega); rw [m200 823 _ (by omega) (by decide) (by decide)]; exact this)
              | (exact ⟨⟨by rw [up_ne (by omega), up_ne (by omega)]; omega, by rw [up_ne (by omega), up_ne (by omega)]; omega⟩, ⟨by decide, by decide⟩, Or.inl (by decide)⟩)
              | (exact ⟨⟨by rw [up_ne (by omega), up_ne (by omega)]; omega, by rw [up_ne (by omega), up_ne (by omega)]; omega⟩, (gW (by omega)).2.2, (gW (by omega)).1.2.f9 fun j => by rw [up_ne (by omega), up_ne (by omega)]⟩)
              | (exact ⟨⟨by omega, by omega⟩, ⟨by decide, by decide⟩, Or.inl (by decide)⟩)
              | (exact g11 (by omega))
              | (exfalso; omega)) ?_
          refine ⟨?_, ?_⟩
          · intro c151
            refine And.intro (by
              first
                | omega
                | exact gmd
                | exact ⟨by omega, by omega⟩
                | exact ⟨gmd, by decide, by decide⟩
                | exact ⟨i8, by omega, by omega⟩
                | exact ⟨⟨by omega, by omega⟩, by omega, by omega⟩
                | (have := g10 (by omega); rw [m51 823 _ (by omega) (by decide) (by decide)]; exact this)
                | (have := g10 (by omega); rw [m211 823 _ (by omega) (by decide) (by decide)]; exact this)
                | (have := g10 (by omega); rw [m200 823 _ (by omega) (by decide) (by decide)]; exact this)
                | (exact ⟨⟨by rw [up_ne (by omega), up_ne (by omega)]; omega, by rw [up_ne (by omega), up_ne (by omega)]; omega⟩, ⟨by decide, by decide⟩, Or.inl (by decide)⟩)
                | (exact ⟨⟨by rw [up_ne (by omega), up_ne (by omega)]; omega, by rw [up_ne (by omega), up_ne (by omega)]; omega⟩, (gW (by omega)).2.2, (gW (by omega)).1.2.f9 fun j => by rw [up_ne (by omega), up_ne (by omega)]⟩)
                | (exact ⟨⟨by omega, by omega⟩, ⟨by decide, by decide⟩, Or.inl (by decide)⟩)
                | (exact g11 (by omega))
                | (exfalso; omega)) ?_
            refine And.intro (by
              first
                | omega
                | exact gmd
                | exact ⟨by omega, by omega⟩
                | exact ⟨gmd, by decide, by decide⟩
                | exact ⟨i8, by omega, by omega⟩
                | exact ⟨⟨by omega, by omega⟩, by omega, by omega⟩
                | (have := g10 (by omega); rw [m51 823 _ (by omega) (by decide) (by decide)]; exact this)
                | (have := g10 (by omega); rw [m211 823 _ (by omega) (by decide) (by decide)]; exact this)
                | (have := g10 (by omega); rw [m200 823 _ (by omega) (by decide) (by decide)]; exact this)
                | (exact ⟨⟨by rw [up_ne (by omega), up_ne (by omega)]; omega, by rw [up_ne (by omega), up_ne (by omega)]; omega⟩, ⟨by decide, by decide⟩, Or.inl (by decide)⟩)
                | (exact ⟨⟨by rw [up_ne (by omega), up_ne (by omega)]; omega, by rw [up_ne (by omega), up_ne (by omega)]; omega⟩, (gW (by omega)).2.2, (gW (by omega)).1.2.f9 fun j => by rw [up_ne (by omega), up_ne (by omega)]⟩)
                | (exact ⟨⟨by omega, by omega⟩, ⟨by decide, by decide⟩, Or.inl (by decide)⟩)
                | (exact g11 (by omega))
                | (exfalso; omega)) ?_
            exfalso
            omega
          · intro c151
            refine And.intro (by
              first
                | omega
                | exact gmd
                | exact ⟨by omega, by omega⟩
                | exact ⟨gmd, by decide, by decide⟩
                | exact ⟨i8, by omega, by omega⟩
                | exact ⟨⟨by omega, by omega⟩, by omega, by omega⟩
                | (have := g10 (by omega); rw [m51 823 _ (by omega) (by decide) (by decide)]; exact this)
                | (have := g10 (by omega); rw [m211 823 _ (by omega) (by decide) (by decide)]; exact this)
                | (have := g10 (by omega); rw [m200 823 _ (by omega) (by decide) (by decide)]; exact this)
                | (exact ⟨⟨by rw [up_ne (by omega), up_ne (by omega)]; omega, by rw [up_ne (by omega), up_ne (by omega)]; omega⟩, ⟨by decide, by decide⟩, Or.inl (by decide)⟩)
                | (exact ⟨⟨by rw [up_ne (by omega), up_ne (by omega)]; omega, by rw [up_ne (by omega), up_ne (by omega)]; omega⟩, (gW (by omega)).2.2, (gW (by omega)).1.2.f9 fun j => by rw [up_ne (by omega), up_ne (by omega)]⟩)
                | (exact ⟨⟨by omega, by omega⟩, ⟨by decide, by decide⟩, Or.inl (by decide)⟩)
                | (exact g11 (by omega))
                | (exfalso; omega)) ?_
            refine And.intro (by
              first
                | omega
                | exact gmd
                | exact ⟨by omega, by omega⟩
                | exact ⟨gmd, by decide, by decide⟩
                | exact ⟨i8, by omega, by omega⟩
                | exact ⟨⟨by omega, by omega⟩, by omega, by omega⟩
                | (have := g10 (by omega); rw [m51 823 _ (by omega) (by decide) (by decide)]; exact this)
                | (have := g10 (by omega); rw [m211 823 _ (by omega) (by decide) (by decide)]; exact this)
                | (have := g10 (by omega); rw [m200 823 _ (by omega) (by decide) (by decide)]; exact this)
                | (exact ⟨⟨by rw [up_ne (by omega), up_ne (by omega)]; omega, by rw [up_ne (by omega), up_ne (by omega)]; omega⟩, ⟨by decide, by decide⟩, Or.inl (by decide)⟩)
                | (exact ⟨⟨by rw [up_ne (by omega), up_ne (by omega)]; omega, by rw [up_ne (by omega), up_ne (by omega)]; omega⟩, (gW (by omega)).2.2, (gW (by omega)).1.2.f9 fun j => by rw [up_ne (by omega), up_ne (by omega)]⟩)
                | (exact ⟨⟨by omega, by omega⟩, ⟨by decide, by decide⟩, Or.inl (by decide)⟩)
                | (exact g11 (by omega))
                | (exfalso; omega)) ?_
            refine ⟨?_, ?_⟩
            · intro c166
              refine Exists.intro ([]) <| ?_
              refine And.intro (by
                first
                  | omega
                  | exact gmd
                  | exact ⟨by omega, by omega⟩
                  | exact ⟨gmd, by decide, by decide⟩
                  | exact ⟨i8, by omega, by omega⟩
                  | exact ⟨⟨by omega, by omega⟩, by omega, by omega⟩
                  | (have := g10 (by omega); rw [m51 823 _ (by omega) (by decide) (by decide)]; exact this)
                  | (have := g10 (by omega); rw [m211 823 _ (by omega) (by decide) (by decide)]; exact this)
                  | (have := g10 (by omega); rw [m200 823 _ (by omega) (by decide) (by decide)]; exact this)
                  | (exact ⟨⟨by rw [up_ne (by omega), up_ne (by omega)]; omega, by rw [up_ne (by omega), up_ne (by omega)]; omega⟩, ⟨by decide, by decide⟩, Or.inl (by decide)⟩)
                  | (exact ⟨⟨by rw [up_ne (by omega), up_ne (by omega)]; omega, by rw [up_ne (by omega), up_ne (by omega)]; omega⟩, (gW (by omega)).2.2, (gW (by omega)).1.2.f9 fun j => by rw [up_ne (by omega), up_ne (by omega)]⟩)
                  | (exact ⟨⟨by omega, by omega⟩, ⟨by decide, by decide⟩, Or.inl (by decide)⟩)
                  | (exact g11 (by omega))
                  | (exfalso; omega)) ?_
              intro M211 hM211
              skip
              refine And.intro (by
                first
                  | omega
                  | exact gmd
                  | exact ⟨by omega, by omega⟩
                  | exact ⟨gmd, by decide, by decide⟩
                  | exact ⟨i8, by omega, by omega⟩
                  | exact ⟨⟨by omega, by omega⟩, by omega, by omega⟩
                  | (have := g10 (by omega); rw [m51 823 _ (by omega) (by decide) (by decide)]; exact this)
                  | (have := g10 (by omega); rw [m211 823 _ (by omega) (by decide) (by decide)]; exact this)
                  | (have := g10 (by omega); rw [m200 823 _ (by omega) (by decide) (by decide)]; exact this)
                  | (exact ⟨⟨by rw [up_ne (by omega), up_ne (by omega)]; omega, by rw [up_ne (by omega), up_ne (by omega)]; omega⟩, ⟨by decide, by decide⟩, Or.inl (by decide)⟩)
                  | (exact ⟨⟨by rw [up_ne (by omega), up_ne (by omega)]; omega, by rw [up_ne (by omega), up_ne (by omega)]; omega⟩, (gW (by omega)).2.2, (gW (by omega)).1.2.f9 fun j => by rw [up_ne (by omega), up_ne (by omega)]⟩)
                  | (exact ⟨⟨by omega, by omega⟩, ⟨by decide, by decide⟩, Or.inl (by decide)⟩)
                  | (exact g11 (by omega))
                  | (exfalso; omega)) ?_
              refine And.intro (by
                first
                  | omega
                  | exact gmd
                  | exact ⟨by omega, by omega⟩
                  | exact ⟨gmd, by decide, by decide⟩
                  | exact ⟨i8, by omega, by omega⟩
                  | exact ⟨⟨by omega, by omega⟩, by omega, by omega⟩
                  | (have := g10 (by omega); rw [m51 823 _ (by omega) (by decide) (by decide)]; exact this)
                  | (have := g10 (by omega); rw [m211 823 _ (by omega) (by decide) (by decide)]; exact this)
                  | (have := g10 (by omega); rw [m200 823 _ (by omega) (by decide) (by decide)]; exact this)
                  | (exact ⟨⟨by rw [up_ne (by omega), up_ne (by omega)]; omega, by rw [up_ne (by omega), up_ne (by omega)]; omega⟩, ⟨by decide, by decide⟩, Or.inl (by decide)⟩)
                  | (exact ⟨⟨by rw [up_ne (by omega), up_ne (by omega)]; omega, by rw [up_ne (by omega), up_ne (by omega)]; omega⟩, (gW (by omega)).2.2, (gW (by omega)).1.2.f9 fun j => by rw [up_ne (by omega), up_ne (by omega)]⟩)
                  | (exact ⟨⟨by omega, by omega⟩, ⟨by decide, by decide⟩, Or.inl (by decide)⟩)
                  | (exact g11 (by omega))
                  | (exfalso; omega)) ?_
              refine And.intro (by
                first
                  | omega
                  | exact gmd
                  | exact ⟨by omega, by omega⟩
                  | exact ⟨gmd, by decide, by decide⟩
                  | exact ⟨i8, by omega, by omega⟩
                  | exact ⟨⟨by omega, by omega⟩, by omega, by omega⟩
                  | (have := g10 (by omega); rw [m51 823 _ (by omega) (by decide) (by decide)]; exact this)
                  | (have := g10 (by omega); rw [m211 823 _ (by omega) (by decide) (by decide)]; exact this)
                  | (have := g10 (by omega); rw [m200 823 _ (by omega) (by decide) (by decide)]; exact this)
                  | (exact ⟨⟨by rw [up_ne (by omega), up_ne (by omega)]; omega, by rw [up_ne (by omega), up_ne (by omega)]; omega⟩, ⟨by decide, by decide⟩, Or.inl (by decide)⟩)
                  | (exact ⟨⟨by rw [up_ne (by omega), up_ne (by omega)]; omega, by rw [up_ne (by omega), up_ne (by omega)]; omega⟩, (gW (by omega)).2.2, (gW (by omega)).1.2.f9 fun j => by rw [up_ne (by omega), up_ne (by omega)]⟩)
                  | (exact ⟨⟨by omega, by omega⟩, ⟨by decide, by decide⟩, Or.inl (by decide)⟩)
                  | (exact g11 (by omega))
                  | (exfalso; omega)) ?_
              refine And.intro (by
                first
                  | omega
                  | exact gmd
                  | exact ⟨by omega, by omega⟩
                  | exact ⟨gmd, by decide, by decide⟩
                  | exact ⟨i8, by omega, by omega⟩
                  | exact ⟨⟨by omega, by omega⟩, by omega, by omega⟩
                  | (have := g10 (by omega); rw [m51 823 _ (by omega) (by decide) (by decide)]; exact this)
                  | (have := g10 (by omega); rw [m211 823 _ (by omega) (by decide) (by decide)]; exact this)
                  | (have := g10 (by omega); rw [m200 823 _ (by omega) (by decide) (by decide)]; exact this)
                  | (exact ⟨⟨by rw [up_ne (by omega), up_ne (by omega)]; omega, by rw [up_ne (by omega), up_ne (by omega)]; omega⟩, ⟨by decide, by decide⟩, Or.inl (by decide)⟩)
                  | (exact ⟨⟨by rw [up_ne (by omega), up_ne (by omega)]; omega, by rw [up_ne (by omega), up_ne (by omega)]; omega⟩, (gW (by omega)).2.2, (gW (by omega)).1.2.f9 fun j => by rw [up_ne (by omega), up_ne (by omega)]⟩)
                  | (exact ⟨⟨by omega, by omega⟩, ⟨by decide, by decide⟩, Or.inl (by decide)⟩)
                  | (exact g11 (by omega))
                  | (exfalso; omega)) ?_
              exfalso
              omega
            · intro c166
              refine And.intro (by
                first
                  | omega
                  | exact gmd
                  | exact ⟨by omega, by omega⟩
                  | exact ⟨gmd, by decide, by decide⟩
                  | exact ⟨i8, by omega, by omega⟩
                  | exact ⟨⟨by omega, by omega⟩, by omega, by omega⟩
                  | (have := g10 (by omega); rw [m51 823 _ (by omega) (by decide) (by decide)]; exact this)
                  | (have := g10 (by omega); rw [m211 823 _ (by omega) (by decide) (by decide)]; exact this)
                  | (have := g10 (by omega); rw [m200 823 _ (by omega) (by decide) (by decide)]; exact this)
                  | (exact ⟨⟨by rw [up_ne (by omega), up_ne (by omega)]; omega, by rw [up_ne (by omega), up_ne (by omega)]; omega⟩, ⟨by decide, by decide⟩, Or.inl (by decide)⟩)
                  | (exact ⟨⟨by rw [up_ne (by omega), up_ne (by omega)]; omega, by rw [up_ne (by omega), up_ne (by omega)]; omega⟩, (gW (by omega)).2.2, (gW (by omega)).1.2.f9 fun j => by rw [up_ne (by omega), up_ne (by omega)]⟩)
                  | (exact ⟨⟨by omega, by omega⟩, ⟨by decide, by decide⟩, Or.inl (by decide)⟩)
                  | (exact g11 (by omega))
                  | (exfalso; omega)) ?_
              refine And.intro (by
                first
                  | omega
                  | exact gmd
                  | exact ⟨by omega, by omega⟩
                  | exact ⟨gmd, by decide, by decide⟩
                  | exact ⟨i8, by omega, by omega⟩
                  | exact ⟨⟨by omega, by omega⟩, by omega, by omega⟩
                  | (have := g10 (by omega); rw [m51 823 _ (by omega) (by decide) (by decide)]; exact this)
                  | (have := g10 (by omega); rw [m211 823 _ (by omega) (by decide) (by decide)]; exact this)
                  | (have := g10 (by omega); rw [m200 823 _ (by omega) (by decide) (by decide)]; exact this)
                  | (exact ⟨⟨by rw [up_ne (by omega), up_ne (by omega)]; omega, by rw [up_ne (by omega), up_ne (by omega)]; omega⟩, ⟨by decide, by decide⟩, Or.inl (by decide)⟩)
                  | (exact ⟨⟨by rw [up_ne (by omega), up_ne (by omega)]; omega, by rw [up_ne (by omega), up_ne (by omega)]; omega⟩, (gW (by omega)).2.2, (gW (by omega)).1.2.f9 fun j => by rw [up_ne (by omega), up_ne (by omega)]⟩)
                  | (exact ⟨⟨by omega, by omega⟩, ⟨by decide, by decide⟩, Or.inl (by decide)⟩)
                  | (exact g11 (by omega))
                  | (exfalso; omega)) ?_
              refine And.intro (by
                first
                  | omega
                  | exact gmd
                  | exact ⟨by omega, by omega⟩
                  | exact ⟨gmd, by decide, by decide⟩
                  | exact ⟨i8, by omega, by omega⟩
                  | exact ⟨⟨by omega, by omega⟩, by omega, by omega⟩
                  | (have := g10 (by omega); rw [m51 823 _ (by omega) (by decide) (by decide)]; exact this)
                  | (have := g10 (by omega); rw [m211 823 _ (by omega) (by decide) (by decide)]; exact this)
                  | (have := g10 (by omega); rw [m200 823 _ (by omega) (by decide) (by decide)]; exact this)
                  | (exact ⟨⟨by rw [up_ne (by omega), up_ne (by omega)]; omega, by rw [up_ne (by omega), up_ne (by omega)]; omega⟩, ⟨by decide, by decide⟩, Or.inl (by decide)⟩)
                  | (exact ⟨⟨by rw [up_ne (by omega), up_ne (by omega)]; omega, by rw [up_ne (by omega), up_ne (by omega)]; omega⟩, (gW (by omega)).2.2, (gW (by omega)).1.2.f9 fun j => by rw [up_ne (by omega), up_ne (by omega)]⟩)
                  | (exact ⟨⟨by omega, by omega⟩, ⟨by decide, by decide⟩, Or.inl (by decide)⟩)
                  | (exact g11 (by omega))
                  | (exfalso; omega)) ?_
              refine Exists.intro ((W2 (M 812 e.toNat).toNat)) <| ?_
              refine And.intro (by
                first
                  | omega
                  | exact gmd
                  | exact ⟨by omega, by omega⟩
                  | exact ⟨gmd, by decide, by decide⟩
                  | exact ⟨i8, by omega, by omega⟩
                  | exact ⟨⟨by omega, by omega⟩, by omega, by omega⟩
                  | (have := g10 (by omega); rw [m51 823 _ (by omega) (by decide) (by decide)]; exact this)
                  | (have := g10 (by omega); rw [m211 823 _ (by omega) (by decide) (by decide)]; exact this)
                  | (have := g10 (by omega); rw [m200 823 _ (by omega) (by decide) (by decide)]; exact this)
                  | (exact ⟨⟨by rw [up_ne (by omega), up_ne (by omega)]; omega, by rw [up_ne (by omega), up_ne (by omega)]; omega⟩, ⟨by decide, by decide⟩, Or.inl (by decide)⟩)
                  | (exact ⟨⟨by rw [up_ne (by omega), up_ne (by omega)]; omega, by rw [up_ne (by omega), up_ne (by omega)]; omega⟩, (gW (by omega)).2.2, (gW (by omega)).1.2.f9 fun j => by rw [up_ne (by omega), up_ne (by omega)]⟩)
                  | (exact ⟨⟨by omega, by omega⟩, ⟨by decide, by decide⟩, Or.inl (by decide)⟩)
                  | (exact g11 (by omega))
                  | (exfalso; omega)) ?_
              intro M191 hM191
              skip
              refine And.intro (by
                first
                  | omega
                  | exact gmd
                  | exact ⟨by omega, by omega⟩
                  | exact ⟨gmd, by decide, by decide⟩
                  | exact ⟨i8, by omega, by omega⟩
                  | exact ⟨⟨by omega, by omega⟩, by omega, by omega⟩
                  | (have := g10 (by omega); rw [m51 823 _ (by omega) (by decide) (by decide)]; exact this)
                  | (have := g10 (by omega); rw [m211 823 _ (by omega) (by decide) (by decide)]; exact this)
                  | (have := g10 (by omega); rw [m200 823 _ (by omega) (by decide) (by decide)]; exact this)
                  | (exact ⟨⟨by rw [up_ne (by omega), up_ne (by omega)]; omega, by rw [up_ne (by omega), up_ne (by omega)]; omega⟩, ⟨by decide, by decide⟩, Or.inl (by decide)⟩)
                  | (exact ⟨⟨by rw [up_ne (by omega), up_ne (by omega)]; omega, by rw [up_ne (by omega), up_ne (by omega)]; omega⟩, (gW (by omega)).2.2, (gW (by omega)).1.2.f9 fun j => by rw [up_ne (by omega), up_ne (by omega)]⟩)
                  | (exact ⟨⟨by omega, by omega⟩, ⟨by decide, by decide⟩, Or.inl (by decide)⟩)
                  | (exact g11 (by omega))
                  | (exfalso; omega)) ?_
              refine Exists.intro ([]) <| ?_
              refine And.intro (by
                first
                  | omega
                  | exact gmd
                  | exact ⟨by omega, by omega⟩
                  | exact ⟨gmd, by decide, by decide⟩
                  | exact ⟨i8, by omega, by omega⟩
                  | exact ⟨⟨by omega, by omega⟩, by omega, by omega⟩
                  | (have := g10 (by omega); rw [m51 823 _ (by omega) (by decide) (by decide)]; exact this)
                  | (have := g10 (by omega); rw [m211 823 _ (by omega) (by decide) (by decide)]; exact this)
                  | (have := g10 (by omega); rw [m200 823 _ (by omega) (by decide) (by decide)]; exact this)
                  | (exact ⟨⟨by rw [up_ne (by omega), up_ne (by omega)]; omega, by rw [up_ne (by omega), up_ne (by omega)]; omega⟩, ⟨by decide, by decide⟩, Or.inl (by decide)⟩)
                  | (exact ⟨⟨by rw [up_ne (by omega), up_ne (by omega)]; omega, by rw [up_ne (by omega), up_ne (by omega)]; omega⟩, (gW (by omega)).2.2, (gW (by omega)).1.2.f9 fun j => by rw [up_ne (by omega), up_ne (by omega)]⟩)
                  | (exact ⟨⟨by omega, by omega⟩, ⟨by decide, by decide⟩, Or.inl (by decide)⟩)
                  | (exact g11 (by omega))
                  | (exfalso; omega)) ?_
              intro M200 hM200
              skip
              refine And.intro (by
                first
                  | omega
                  | exact gmd
                  | exact ⟨by omega, by omega⟩
                  | exact ⟨gmd, by decide, by decide⟩
                  | exact ⟨i8, by omega, by omega⟩
                  | exact ⟨⟨by omega, by omega⟩, by omega, by omega⟩
                  | (have := g10 (by omega); rw [m51 823 _ (by omega) (by decide) (by decide)]; exact this)
                  | (have := g10 (by omega); rw [m211 823 _ (by omega) (by decide) (by decide)]; exact this)
                  | (have := g10 (by omega); rw [m200 823 _ (by omega) (by decide) (by decide)]; exact this)
                  | (exact ⟨⟨by rw [up_ne (by omega), up_ne (by omega)]; omega, by rw [up_ne (by omega), up_ne (by omega)]; omega⟩, ⟨by decide, by decide⟩, Or.inl (by decide)⟩)
                  | (exact ⟨⟨by rw [up_ne (by omega), up_ne (by omega)]; omega, by rw [up_ne (by omega), up_ne (by omega)]; omega⟩, (gW (by omega)).2.2, (gW (by omega)).1.2.f9 fun j => by rw [up_ne (by omega), up_ne (by omega)]⟩)
                  | (exact ⟨⟨by omega, by omega⟩, ⟨by decide, by decide⟩, Or.inl (by decide)⟩)
                  | (exact g11 (by omega))
                  | (exfalso; omega)) ?_
              refine And.intro (by
                first
                  | omega
                  | exact gmd
                  | exact ⟨by omega, by omega⟩
                  | exact ⟨gmd, by decide, by decide⟩
                  | exact ⟨i8, by omega, by omega⟩
                  | exact ⟨⟨by omega, by omega⟩, by omega, by omega⟩
                  | (have := g10 (by omega); rw [m51 823 _ (by omega) (by decide) (by decide)]; exact this)
                  | (have := g10 (by omega); rw [m211 823 _ (by omega) (by decide) (by decide)]; exact this)
                  | (have := g10 (by omega); rw [m200 823 _ (by omega) (by decide) (by decide)]; exact this)
                  | (exact ⟨⟨by rw [up_ne (by omega), up_ne (by omega)]; omega, by rw [up_ne (by omega), up_ne (by omega)]; omega⟩, ⟨by decide, by decide⟩, Or.inl (by decide)⟩)
                  | (exact ⟨⟨by rw [up_ne (by omega), up_ne (by omega)]; omega, by rw [up_ne (by omega), up_ne (by omega)]; omega⟩, (gW (by omega)).2.2, (gW (by omega)).1.2.f9 fun j => by rw [up_ne (by omega), up_ne (by omega)]⟩)
                  | (exact ⟨⟨by omega, by omega⟩, ⟨by decide, by decide⟩, Or.inl (by decide)⟩)
                  | (exact g11 (by omega))
                  | (exfalso; omega)) ?_
              exfalso
              omega
        · intro c88
          refine ⟨_, rfl, rfl, rfl, by decide, by omega, by assumption, rfl, W1, W2, ⟨⟨ge0, ge1⟩, ⟨gs0, gs1⟩, gmd, ⟨gw0, gw1⟩, ⟨gh0, gh1⟩, gW, g10, g11, g08⟩, gK, M51, hM51, fun o k => ?_⟩
          rw [if_neg (by omega)]
      · intro c60
        refine And.intro (by
          first
            | omega
            | exact gmd
            | exact ⟨by omega, by omega⟩
            | exact ⟨gmd, by decide, by decide⟩
            | exact ⟨i8, by omega, by omega⟩
            | exact ⟨⟨by omega, by omega⟩, by omega, by omega⟩
            | (have := g10 (by omega); rw [m51 823 _ (by omega) (by decide) (by decide)]; exact this)
            | (have := g10 (by omega); rw [m211 823 _ (by omega) (by decide) (by decide)]; exact this)
            | (have := g10 (by omega); rw [m200 823 _ (by omega) (by decide) (by decide)]; exact this)
            | (exact ⟨⟨by rw [up_ne (by omega), up_ne (by omega)]; omega, by rw [up_ne (by omega), up_ne (by omega)]; omega⟩, ⟨by decide, by decide⟩, Or.inl (by decide)⟩)
            | (exact ⟨⟨by rw [up_ne (by omega), up_ne (by omega)]; omega, by rw [up_ne (by omega), up_ne (by omega)]; omega⟩, (gW (by omega)).2.2, (gW (by omega)).1.2.f9 fun j => by rw [up_ne (by omega), up_ne (by omega)]⟩)
            | (exact ⟨⟨by omega, by omega⟩, ⟨by decide, by decide⟩, Or.inl (by decide)⟩)
            | (exact g11 (by omega))
            | (exfalso; omega)) ?_
        refine And.intro (by
          first
            | omega
            | exact gmd
            | exact ⟨by omega, by omega⟩
            | exact ⟨gmd, by decide, by decide⟩
            | exact ⟨i8, by omega, by omega⟩
            | exact ⟨⟨by omega, by omega⟩, by omega, by omega⟩
            | (have := g10 (by omega); rw [m51 823 _ (by omega) (by decide) (by decide)]; exact this)
            | (have := g10 (by omega); rw [m211 823 _ (by omega) (by decide) (by decide)]; exact this)
            | (have := g10 (by omega); rw [m200 823 _ (by omega) (by decide) (by decide)]; exact this)
            | (exact ⟨⟨by rw [up_ne (by omega), up_ne (by omega)]; omega, by rw [up_ne (by omega), up_ne (by omega)]; omega⟩, ⟨by decide, by decide⟩, Or.inl (by decide)⟩)
            | (exact ⟨⟨by rw [up_ne (by omega), up_ne (by omega)]; omega, by rw [up_ne (by omega), up_ne (by omega)]; omega⟩, (gW (by omega)).2.2, (gW (by omega)).1.2.f9 fun j => by rw [up_ne (by omega), up_ne (by omega)]⟩)
            | (exact ⟨⟨by omega, by omega⟩, ⟨by decide, by decide⟩, Or.inl (by decide)⟩)
            | (exact g11 (by omega))
            | (exfalso; omega)) ?_
        exfalso
        omega

set_option maxRecDepth 20000 in
theorem vc_X9_emitClose_94 (e : Int) (md : Int) (M : ab_M) (K : List ab_V → ab_M → Prop) (hS : (∃ W1 : Nat → List Int, ∃ W2 : Nat → List Int, (((0 ≤ e ∧ e < 400) ∧ (0 ≤ M 797 33 ∧ M 797 33 ≤ 254) ∧ ab_ir md ∧ (0 ≤ M 806 e.toNat ∧ M 806 e.toNat ≤ 4) ∧ (0 ≤ M 812 e.toNat ∧ M 812 e.toNat < 400) ∧ (M 806 e.toNat = 2 → em_W M (M 812 e.toNat).toNat W1 W2) ∧ (M 806 e.toNat = 0 ∨ M 806 e.toNat = 2 → 0 ≤ M 823 (M 812 e.toNat).toNat ∧ M 823 (M 812 e.toNat).toNat < 256) ∧ (M 806 e.toNat = 1 ∨ M 806 e.toNat = 4 → 0 ≤ M 824 (M 812 e.toNat).toNat ∧ M 824 (M 812 e.toNat).toNat < 256) ∧ ∀ j : Nat, ab_ir (M 821 j))) ∧ (∀ Mx : ab_M, (em_c M Mx e.toNat md W1 W2) → K [] Mx))) (n : Nat) (e1 : Int) (m1 : Int) (h : Int) (ii : Int) (M1 : ab_M) (hI : n = (256 - ii).toNat ∧ e = e1 ∧ md = m1 ∧ 0 ≤ ii ∧ ii ≤ M 797 33 + 1 ∧ M 806 e.toNat = 3 ∧ h = M 812 e.toNat ∧ ∃ (W1 W2 : Nat → List Int), ((0 ≤ e ∧ e < 400) ∧ (0 ≤ M 797 33 ∧ M 797 33 ≤ 254) ∧ ab_ir md ∧ (0 ≤ M 806 e.toNat ∧ M 806 e.toNat ≤ 4) ∧ (0 ≤ M 812 e.toNat ∧ M 812 e.toNat < 400) ∧ (M 806 e.toNat = 2 → em_W M (M 812 e.toNat).toNat W1 W2) ∧ (M 806 e.toNat = 0 ∨ M 806 e.toNat = 2 → 0 ≤ M 823 (M 812 e.toNat).toNat ∧ M 823 (M 812 e.toNat).toNat < 256) ∧ (M 806 e.toNat = 1 ∨ M 806 e.toNat = 4 → 0 ≤ M 824 (M 812 e.toNat).toNat ∧ M 824 (M 812 e.toNat).toNat < 256) ∧ ∀ j : Nat, ab_ir (M 821 j)) ∧ (∀ Mx : ab_M, em_c M Mx e.toNat md W1 W2 → K [] Mx) ∧ ∃ M2, em_P (em_b M e.toNat) M2 5 0 0 [] ∧ ∀ o k : Nat, M1 o k = if o = 820 ∧ (k : Int) < ii ∧ M2 821 k = M 812 e.toNat then M 797 33 + 1 else M2 o k) : (ab_ir ii ∧ ab_ir (M1 797 33)) ∧ (((M1 797 33) ≤ ii → K [] M1) ∧ (ii < (M1 797 33) → (0 ≤ ii ∧ ii < ((256 : Nat) : Int)) ∧ (ab_ir (M1 821 ii.toNat) ∧ ab_ir h) ∧ ((¬ (M1 821 ii.toNat) = h → (0 ≤ ii ∧ ii < ((256 : Nat) : Int)) ∧ (0 ≤ ii ∧ ii < ((256 : Nat) : Int)) ∧ (∃ n', n' < n ∧ ((n' = (256 - (ii + 1)).toNat ∧ e = e1 ∧ md = m1 ∧ 0 ≤ (ii + 1) ∧ (ii + 1) ≤ M 797 33 + 1 ∧ M 806 e.toNat = 3 ∧ h = M 812 e.toNat ∧ ∃ (W1 W2 : Nat → List Int), ((0 ≤ e ∧ e < 400) ∧ (0 ≤ M 797 33 ∧ M 797 33 ≤ 254) ∧ ab_ir md ∧ (0 ≤ M 806 e.toNat ∧ M 806 e.toNat ≤ 4) ∧ (0 ≤ M 812 e.toNat ∧ M 812 e.toNat < 400) ∧ (M 806 e.toNat = 2 → em_W M (M 812 e.toNat).toNat W1 W2) ∧ (M 806 e.toNat = 0 ∨ M 806 e.toNat = 2 → 0 ≤ M 823 (M 812 e.toNat).toNat ∧ M 823 (M 812 e.toNat).toNat < 256) ∧ (M 806 e.toNat = 1 ∨ M 806 e.toNat = 4 → 0 ≤ M 824 (M 812 e.toNat).toNat ∧ M 824 (M 812 e.toNat).toNat < 256) ∧ ∀ j : Nat, ab_ir (M 821 j)) ∧ (∀ Mx : ab_M, em_c M Mx e.toNat md W1 W2 → K [] Mx) ∧ ∃ M2, em_P (em_b M e.toNat) M2 5 0 0 [] ∧ ∀ o k : Nat, (ab_up M1 820 ii.toNat (M1 820 ii.toNat)) o k = if o = 820 ∧ (k : Int) < (ii + 1) ∧ M2 821 k = M 812 e.toNat then M 797 33 + 1 else M2 o k)))) ∧ ((M1 821 ii.toNat) = h → (0 ≤ ii ∧ ii < ((256 : Nat) : Int)) ∧ (∃ n', n' < n ∧ ((n' = (256 - (ii + 1)).toNat ∧ e = e1 ∧ md = m1 ∧ 0 ≤ (ii + 1) ∧ (ii + 1) ≤ M 797 33 + 1 ∧ M 806 e.toNat = 3 ∧ h = M 812 e.toNat ∧ ∃ (W1 W2 : Nat → List Int), ((0 ≤ e ∧ e < 400) ∧ (0 ≤ M 797 33 ∧ M 797 33 ≤ 254) ∧ ab_ir md ∧ (0 ≤ M 806 e.toNat ∧ M 806 e.toNat ≤ 4) ∧ (0 ≤ M 812 e.toNat ∧ M 812 e.toNat < 400) ∧ (M 806 e.toNat = 2 → em_W M (M 812 e.toNat).toNat W1 W2) ∧ (M 806 e.toNat = 0 ∨ M 806 e.toNat = 2 → 0 ≤ M 823 (M 812 e.toNat).toNat ∧ M 823 (M 812 e.toNat).toNat < 256) ∧ (M 806 e.toNat = 1 ∨ M 806 e.toNat = 4 → 0 ≤ M 824 (M 812 e.toNat).toNat ∧ M 824 (M 812 e.toNat).toNat < 256) ∧ ∀ j : Nat, ab_ir (M 821 j)) ∧ (∀ Mx : ab_M, em_c M Mx e.toNat md W1 W2 → K [] Mx) ∧ ∃ M2, em_P (em_b M e.toNat) M2 5 0 0 [] ∧ ∀ o k : Nat, (ab_up M1 820 ii.toNat (M1 797 33)) o k = if o = 820 ∧ (k : Int) < (ii + 1) ∧ M2 821 k = M 812 e.toNat then M 797 33 + 1 else M2 o k))))))) := by
  obtain ⟨hn, q1, q2, hi0, hi1, hw3, hh, W1, W2, ⟨⟨ge0, ge1⟩, ⟨gs0, gs1⟩, gmd, ⟨gw0, gw1⟩, ⟨gh0, gh1⟩, gW, g10, g11, g08⟩, gK, M2, hM2, hM1⟩ := hI
  clear hS
  subst q1
  subst q2
  have a808 : M1 821 ii.toNat = M2 821 ii.toNat := by rw [hM1, if_neg (by omega)]
  obtain ⟨s2, m2⟩ := hM2.b
  have a33 : M1 797 33 = M 797 33 + 1 := by rw [hM1, if_neg (by omega), s2]
  have i8 : ab_ir (M1 821 ii.toNat) := by rw [a808]; exact hM2.i8 (fun j => by rw [em_b_fr (by omega) (by decide)]; exact g08 j) _
  refine And.intro (by
    first
      | omega
      | exact gmd
      | exact ⟨by omega, by omega⟩
      | exact ⟨gmd, by decide, by decide⟩
      | exact ⟨i8, by omega, by omega⟩
      | exact ⟨⟨by omega, by omega⟩, by omega, by omega⟩
      | (have := g10 (by omega); rw [m51 823 _ (by omega) (by decide) (by decide)]; exact this)
      | (have := g10 (by omega); rw [m211 823 _ (by omega) (by decide) (by decide)]; exact this)
      | (have := g10 (by omega); rw [m200 823 _ (by omega) (by decide) (by decide)]; exact this)
      | (exact ⟨⟨by rw [up_ne (by omega), up_ne (by omega)]; omega, by rw [up_ne (by omega), up_ne (by omega)]; omega⟩, ⟨by decide, by decide⟩, Or.inl (by decide)⟩)
      | (exact ⟨⟨by rw [up_ne (by omega), up_ne (by omega)]; omega, by rw [up_ne (by omega), up_ne (by omega)]; omega⟩, (gW (by omega)).2.2, (gW (by omega)).1.2.f9 fun j => by rw [up_ne (by omega), up_ne (by omega)]⟩)
      | (exact ⟨⟨by omega, by omega⟩, ⟨by decide, by decide⟩, Or.inl (by decide)⟩)
      | (exact g11 (by omega))
      | (exfalso; omega)) ?_
  refine ⟨?_, ?_⟩
  · intro c100
    refine gK _ ⟨fun q => by omega, fun _ => ⟨M2, hM2, fun o k => ?_⟩, fun q => by omega, fun q => by omega⟩
    rw [hM1, show ii = M 797 33 + 1 by omega]
  · intro c100
    refine And.intro (by
      first
        | omega
        | exact gmd
        | exact ⟨by omega, by omega⟩
        | exact ⟨gmd, by decide, by decide⟩
        | exact ⟨i8, by omega, by omega⟩
        | exact ⟨⟨by omega, by omega⟩, by omega, by omega⟩
        | (have := g10 (by omega); rw [m51 823 _ (by omega) (by decide) (by decide)]; exact this)
        | (have := g10 (by omega); rw [m211 823 _ (by omega) (by decide) (by decide)]; exact this)
        | (have := g10 (by omega); rw [m200 823 _ (by omega) (by decide) (by decide)]; exact this)
        | (exact ⟨⟨by rw [up_ne (by omega), up_ne (by omega)]; omega, by rw [up_ne (by omega), up_ne (by omega)]; omega⟩, ⟨by decide, by decide⟩, Or.inl (by decide)⟩)
        | (exact ⟨⟨by rw [up_ne (by omega), up_ne (by omega)]; omega, by rw [up_ne (by omega), up_ne (by omega)]; omega⟩, (gW (by omega)).2.2, (gW (by omega)).1.2.f9 fun j => by rw [up_ne (by omega), up_ne (by omega)]⟩)
        | (exact ⟨⟨by omega, by omega⟩, ⟨by decide, by decide⟩, Or.inl (by decide)⟩)
        | (exact g11 (by omega))
        | (exfalso; omega)) ?_
    refine And.intro (by
      first
        | omega
        | exact gmd
        | exact ⟨by omega, by omega⟩
        | exact ⟨gmd, by decide, by decide⟩
        | exact ⟨i8, by omega, by omega⟩
        | exact ⟨⟨by omega, by omega⟩, by omega, by omega⟩
        | (have := g10 (by omega); rw [m51 823 _ (by omega) (by decide) (by decide)]; exact this)
        | (have := g10 (by omega); rw [m211 823 _ (by omega) (by decide) (by decide)]; exact this)
        | (have := g10 (by omega); rw [m200 823 _ (by omega) (by decide) (by decide)]; exact this)
        | (exact ⟨⟨by rw [up_ne (by omega), up_ne (by omega)]; omega, by rw [up_ne (by omega), up_ne (by omega)]; omega⟩, ⟨by decide, by decide⟩, Or.inl (by decide)⟩)
        | (exact ⟨⟨by rw [up_ne (by omega), up_ne (by omega)]; omega, by rw [up_ne (by omega), up_ne (by omega)]; omega⟩, (gW (by omega)).2.2, (gW (by omega)).1.2.f9 fun j => by rw [up_ne (by omega), up_ne (by omega)]⟩)
        | (exact ⟨⟨by omega, by omega⟩, ⟨by decide, by decide⟩, Or.inl (by decide)⟩)
        | (exact g11 (by omega))
        | (exfalso; omega)) ?_
    refine ⟨?_, ?_⟩
    · intro c117
      refine And.intro (by
        first
          | omega
          | exact gmd
          | exact ⟨by omega, by omega⟩
          | exact ⟨gmd, by decide, by decide⟩
          | exact ⟨i8, by omega, by omega⟩
          | exact ⟨⟨by omega, by omega⟩, by omega, by omega⟩
          | (have := g10 (by omega); rw [m51 823 _ (by omega) (by decide) (by decide)]; exact this)
          | (have := g10 (by omega); rw [m211 823 _ (by omega) (by decide) (by decide)]; exact this)
          | (have := g10 (by omega); rw [m200 823 _ (by omega) (by decide) (by decide)]; exact this)
          | (exact ⟨⟨by rw [up_ne (by omega), up_ne (by omega)]; omega, by rw [up_ne (by omega), up_ne (by omega)]; omega⟩, ⟨by decide, by decide⟩, Or.inl (by decide)⟩)
          | (exact ⟨⟨by rw [up_ne (by omega), up_ne (by omega)]; omega, by rw [up_ne (by omega), up_ne (by omega)]; omega⟩, (gW (by omega)).2.2, (gW (by omega)).1.2.f9 fun j => by rw [up_ne (by omega), up_ne (by omega)]⟩)
          | (exact ⟨⟨by omega, by omega⟩, ⟨by decide, by decide⟩, Or.inl (by decide)⟩)
          | (exact g11 (by omega))
          | (exfalso; omega)) ?_
      refine And.intro (by
        first
          | omega
          | exact gmd
          | exact ⟨by omega, by omega⟩
          | exact ⟨gmd, by decide, by decide⟩
          | exact ⟨i8, by omega, by omega⟩
          | exact ⟨⟨by omega, by omega⟩, by omega, by omega⟩
          | (have := g10 (by omega); rw [m51 823 _ (by omega) (by decide) (by decide)]; exact this)
          | (have := g10 (by omega); rw [m211 823 _ (by omega) (by decide) (by decide)]; exact this)
          | (have := g10 (by omega); rw [m200 823 _ (by omega) (by decide) (by decide)]; exact this)
          | (exact ⟨⟨by rw [up_ne (by omega), up_ne (by omega)]; omega, by rw [up_ne (by omega), up_ne (by omega)]; omega⟩, ⟨by decide, by decide⟩, Or.inl (by decide)⟩)
          | (exact ⟨⟨by rw [up_ne (by omega), up_ne (by omega)]; omega, by rw [up_ne (by omega), up_ne (by omega)]; omega⟩, (gW (by omega)).2.2, (gW (by omega)).1.2.f9 fun j => by rw [up_ne (by omega), up_ne (by omega)]⟩)
          | (exact ⟨⟨by omega, by omega⟩, ⟨by decide, by decide⟩, Or.inl (by decide)⟩)
          | (exact g11 (by omega))
          | (exfalso; omega)) ?_
      refine ⟨_, ?_, rfl, rfl, rfl, by omega, by omega, hw3, hh, W1, W2, ⟨⟨ge0, ge1⟩, ⟨gs0, gs1⟩, gmd, ⟨gw0, gw1⟩, ⟨gh0, gh1⟩, gW, g10, g11, g08⟩, gK, M2, hM2, fun o k => ?_⟩
      · omega
      by_cases c : o = 820 ∧ k = ii.toNat
      · obtain ⟨c1, c2⟩ := c
        subst c1
        subst c2
        rw [ab_up_s]
        rw [hM1]
        by_cases d : M2 821 ii.toNat = M 812 e.toNat
        · exact absurd (a808.trans (d.trans hh.symm)) c117
        · rw [if_neg (fun z => by have := z.2.1; omega), if_neg (fun z => d z.2.2)]
      · rw [up_ne c, hM1]
        exact if_cg ⟨fun z => ⟨z.1, by omega, z.2.2⟩, fun z => ⟨z.1, by have : ¬ k = ii.toNat := fun y => c ⟨z.1, y⟩; omega, z.2.2⟩⟩
    · intro c117
      refine And.intro (by
        first
          | omega
          | exact gmd
          | exact ⟨by omega, by omega⟩
          | exact ⟨gmd, by decide, by decide⟩
          | exact ⟨i8, by omega, by omega⟩
          | exact ⟨⟨by omega, by omega⟩, by omega, by omega⟩
          | (have := g10 (by omega); rw [m51 823 _ (by omega) (by decide) (by decide)]; exact this)
          | (have := g10 (by omega); rw [m211 823 _ (by omega) (by decide) (by decide)]; exact this)
          | (have := g10 (by omega); rw [m200 823 _ (by omega) (by decide) (by decide)]; exact this)
          | (exact ⟨⟨by rw [up_ne (by omega), up_ne (by omega)]; omega, by rw [up_ne (by omega), up_ne (by omega)]; omega⟩, ⟨by decide, by decide⟩, Or.inl (by decide)⟩)
          | (exact ⟨⟨by rw [up_ne (by omega), up_ne (by omega)]; omega, by rw [up_ne (by omega), up_ne (by omega)]; omega⟩, (gW (by omega)).2.2, (gW (by omega)).1.2.f9 fun j => by rw [up_ne (by omega), up_ne (by omega)]⟩)
          | (exact ⟨⟨by omega, by omega⟩, ⟨by decide, by decide⟩, Or.inl (by decide)⟩)
          | (exact g11 (by omega))
          | (exfalso; omega)) ?_
      refine ⟨_, ?_, rfl, rfl, rfl, by omega, by omega, hw3, hh, W1, W2, ⟨⟨ge0, ge1⟩, ⟨gs0, gs1⟩, gmd, ⟨gw0, gw1⟩, ⟨gh0, gh1⟩, gW, g10, g11, g08⟩, gK, M2, hM2, fun o k => ?_⟩
      · omega
      by_cases c : o = 820 ∧ k = ii.toNat
      · obtain ⟨c1, c2⟩ := c
        subst c1
        subst c2
        rw [ab_up_s]
        rw [if_pos ⟨rfl, by omega, by rw [← a808, c117, hh]⟩]
        exact a33
      · rw [up_ne c, hM1]
        exact if_cg ⟨fun z => ⟨z.1, by omega, z.2.2⟩, fun z => ⟨z.1, by have : ¬ k = ii.toNat := fun y => c ⟨z.1, y⟩; omega, z.2.2⟩⟩

set_option maxRecDepth 20000 in
set_option maxHeartbeats 1000000 in
theorem ok_X9_emitClose (E : ab_E) : ab_Ok E 5 132 S_X9_emitClose := by
  refine ab_mk rq_X9_emitClose tk_X9_emitClose (rt := 0) (rfl) (cuts := [94]) (G := [(131, S_X9_emit)]) (List.forall_mem_cons.mpr ⟨⟨4, by decide, ok_X9_emit E⟩, fun _ h => absurd h List.not_mem_nil⟩) (by decide) 207 rfl ?_
  intro a M K wd wa hS
  unfold S_X9_emitClose at hS
  split at hS
  ·
    rename_i e md
    refine ⟨Nat.le_of_ble_eq_true rfl, fun pc n L st M1 => match pc, L, st with
      | 94, [.inr (.inr (.inr (797, 9, 0))), .inr (.inl e1), .inr (.inl m1), .inr (.inl h), .inr (.inl ii)], [] => (n = (256 - ii).toNat ∧ e = e1 ∧ md = m1 ∧ 0 ≤ ii ∧ ii ≤ M 797 33 + 1 ∧ M 806 e.toNat = 3 ∧ h = M 812 e.toNat ∧ ∃ (W1 W2 : Nat → List Int), ((0 ≤ e ∧ e < 400) ∧ (0 ≤ M 797 33 ∧ M 797 33 ≤ 254) ∧ ab_ir md ∧ (0 ≤ M 806 e.toNat ∧ M 806 e.toNat ≤ 4) ∧ (0 ≤ M 812 e.toNat ∧ M 812 e.toNat < 400) ∧ (M 806 e.toNat = 2 → em_W M (M 812 e.toNat).toNat W1 W2) ∧ (M 806 e.toNat = 0 ∨ M 806 e.toNat = 2 → 0 ≤ M 823 (M 812 e.toNat).toNat ∧ M 823 (M 812 e.toNat).toNat < 256) ∧ (M 806 e.toNat = 1 ∨ M 806 e.toNat = 4 → 0 ≤ M 824 (M 812 e.toNat).toNat ∧ M 824 (M 812 e.toNat).toNat < 256) ∧ ∀ j : Nat, ab_ir (M 821 j)) ∧ (∀ Mx : ab_M, em_c M Mx e.toNat md W1 W2 → K [] Mx) ∧ ∃ M2, em_P (em_b M e.toNat) M2 5 0 0 [] ∧ ∀ o k : Nat, M1 o k = if o = 820 ∧ (k : Int) < ii ∧ M2 821 k = M 812 e.toNat then M 797 33 + 1 else M2 o k)
      | _, _, _ => False, ?_, ?_⟩
    · exact vc_X9_emitClose_0 e md M K  hS
    · intro pc n L st M1 hI wd1 wL wst
      (try dsimp only at hI)
      split at hI
      ·
        rename_i e1 m1 h ii
        exact vc_X9_emitClose_94 e md M K  hS n e1 m1 h ii _ hI
      · exact hI.elim
  · exact hS.elim
