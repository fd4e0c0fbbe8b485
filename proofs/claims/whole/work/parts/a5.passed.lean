/-! the reference passes a statement -/
theorem an_s_fr {M M' : ab_M} (h1 : ∀ k, M' 805 k = M 805 k) (h2 : ∀ k, M' 806 k = M 806 k) (s : Nat) : ∀ n, an_s M' s n = an_s M s n
  | 0 => rfl
  | n + 1 => by
    show ab_or (an_s M' s n) _ = ab_or (an_s M s n) _
    rw [an_s_fr h1 h2 s n, h1, h2]
theorem tr_a_fr {M M' : ab_M} (h1 : ∀ k, M' 806 k = M 806 k) (h2 : ∀ k, M' 812 k = M 812 k) (h3 : ∀ k, M' 815 k = M 815 k) : ∀ n, tr_a M' n = tr_a M n
  | 0 => rfl
  | n + 1 => by
    show (if M' 806 (M' 815 n).toNat = 3 then M' 812 (M' 815 n).toNat else tr_a M' n) = _
    rw [tr_a_fr h1 h2 h3 n, h1, h2, h3]
    rfl
theorem tr_a_ir {M : ab_M} (h : ∀ k, ab_ir (M 812 k)) : ∀ n, ab_ir (tr_a M n)
  | 0 => by
    show ab_ir (-9)
    exact ⟨by decide, by decide⟩
  | n + 1 => by
    unfold tr_a
    split
    · exact h _
    · exact tr_a_ir h n
theorem tr_a_in {M : ab_M} : ∀ n : Nat, (∀ k : Nat, k < n → M 806 (M 815 k).toNat = 3 → 0 ≤ M 812 (M 815 k).toNat ∧ M 812 (M 815 k).toNat < 400) → -9 ≤ tr_a M n ∧ tr_a M n < 400
  | 0, _ => by
    show (-9 : Int) ≤ -9 ∧ (-9 : Int) < 400
    decide
  | n + 1, h => by
    unfold tr_a
    split
    · have := h n (by omega) (by assumption); omega
    · exact tr_a_in n fun k hk => h k (by omega)

def S_X9_passStatement : ab_PT := fun a M K => match a with
  | [.inr (.inr (.inr (797, 9, 0))), .inr (.inl e)] => (ev_A M ∧ (0 ≤ e ∧ e < M 797 10) ∧ M 805 e.toNat ≤ 8 ∧ pa_S M e.toNat ∧ ∀ k : Nat, (k : Int) < M 797 27 → 9 ≤ M 805 (M 815 k).toNat) ∧ (∀ Mx : ab_M, (pS M Mx e.toNat) → K [] Mx)
  | _ => False
set_option maxRecDepth 20000 in
theorem vc_X9_passStatement_0 (e : Int) (M : ab_M) (K : List ab_V → ab_M → Prop) (hS : (ev_A M ∧ (0 ≤ e ∧ e < M 797 10) ∧ M 805 e.toNat ≤ 8 ∧ pa_S M e.toNat ∧ ∀ k : Nat, (k : Int) < M 797 27 → 9 ≤ M 805 (M 815 k).toNat) ∧ (∀ Mx : ab_M, (pS M Mx e.toNat) → K [] Mx)) : (0 ≤ e ∧ e < ((400 : Nat) : Int)) ∧ (0 ≤ e ∧ e < ((400 : Nat) : Int)) ∧ (-128 ≤ (7 : Int) ∧ (7 : Int) < 128) ∧ (ab_ir (M 805 e.toNat) ∧ ab_ir (7 : Int)) ∧ ((¬ (M 805 e.toNat) = (7 : Int) → (0 ≤ e ∧ e < ((400 : Nat) : Int)) ∧ (0 ≤ e ∧ e < ((400 : Nat) : Int)) ∧ (ab_ir (M 805 e.toNat)) ∧ (((M 805 e.toNat) = 0 → (0 ≤ e ∧ e < ((400 : Nat) : Int)) ∧ (0 ≤ (M 806 e.toNat) ∧ (M 806 e.toNat) ≤ 3) ∧ (∀ M77 : ab_M, (M77 = ab_up (ab_up (ab_up M 797 59 ((M 797 59) + (((1 : Int) + (M 808 e.toNat)) + ((1 : Int) * (M 810 e.toNat))))) 835 (M 806 e.toNat).toNat ((ab_up M 797 59 ((M 797 59) + (((1 : Int) + (M 808 e.toNat)) + ((1 : Int) * (M 810 e.toNat))))) 835 (M 806 e.toNat).toNat + 1)) 834 (M 806 e.toNat).toNat ((ab_up M 797 59 ((M 797 59) + (((1 : Int) + (M 808 e.toNat)) + ((1 : Int) * (M 810 e.toNat))))) 835 (M 806 e.toNat).toNat + 1)) → (0 ≤ e ∧ 4 * e + 3 < ((1600 : Nat) : Int) ∧ 836 ≠ 834 ∧ e < 100000) ∧ (∀ M193 : ab_M, (∀ o' k' : Nat, M193 o' k' = if o' = 836 ∧ 4 * e.toNat ≤ k' ∧ k' < 4 * e.toNat + 4 then M77 834 (k' - 4 * e.toNat) else M77 o' k') → K [] M193))) ∧ (¬ (M 805 e.toNat) = 0 → (0 ≤ e ∧ e < ((400 : Nat) : Int)) ∧ (ab_ir (M 805 e.toNat) ∧ ab_ir (1 : Int)) ∧ (((M 805 e.toNat) = (1 : Int) → (0 ≤ e ∧ e < ((400 : Nat) : Int)) ∧ (0 ≤ (M 806 e.toNat) ∧ (M 806 e.toNat) ≤ 3) ∧ (∀ M77 : ab_M, (M77 = ab_up (ab_up (ab_up M 797 59 ((M 797 59) + (((1 : Int) + (M 808 e.toNat)) + ((1 : Int) * (M 810 e.toNat))))) 835 (M 806 e.toNat).toNat ((ab_up M 797 59 ((M 797 59) + (((1 : Int) + (M 808 e.toNat)) + ((1 : Int) * (M 810 e.toNat))))) 835 (M 806 e.toNat).toNat + 1)) 834 (M 806 e.toNat).toNat ((ab_up M 797 59 ((M 797 59) + (((1 : Int) + (M 808 e.toNat)) + ((1 : Int) * (M 810 e.toNat))))) 835 (M 806 e.toNat).toNat + 1)) → (0 ≤ e ∧ 4 * e + 3 < ((1600 : Nat) : Int) ∧ 836 ≠ 834 ∧ e < 100000) ∧ (∀ M193 : ab_M, (∀ o' k' : Nat, M193 o' k' = if o' = 836 ∧ 4 * e.toNat ≤ k' ∧ k' < 4 * e.toNat + 4 then M77 834 (k' - 4 * e.toNat) else M77 o' k') → K [] M193))) ∧ (¬ (M 805 e.toNat) = (1 : Int) → (0 ≤ e ∧ e < ((400 : Nat) : Int)) ∧ (ab_ir (M 805 e.toNat) ∧ ab_ir (5 : Int)) ∧ ((¬ (M 805 e.toNat) = (5 : Int) → (0 ≤ e ∧ e < ((400 : Nat) : Int)) ∧ (-128 ≤ (7 : Int) ∧ (7 : Int) < 128) ∧ (ab_ir (M 805 e.toNat) ∧ ab_ir (7 : Int)) ∧ ((¬ (M 805 e.toNat) = (7 : Int) → (0 ≤ e ∧ e < ((400 : Nat) : Int)) ∧ (ab_ir (M 805 e.toNat) ∧ ab_ir (4 : Int)) ∧ ((¬ (M 805 e.toNat) = (4 : Int) → (0 ≤ e ∧ 4 * e + 3 < ((1600 : Nat) : Int) ∧ 836 ≠ 834 ∧ e < 100000) ∧ (∀ M193 : ab_M, (∀ o' k' : Nat, M193 o' k' = if o' = 836 ∧ 4 * e.toNat ≤ k' ∧ k' < 4 * e.toNat + 4 then (ab_up M 797 59 ((M 797 59) + (((1 : Int) + (M 808 e.toNat)) + ((1 : Int) * (M 810 e.toNat))))) 834 (k' - 4 * e.toNat) else (ab_up M 797 59 ((M 797 59) + (((1 : Int) + (M 808 e.toNat)) + ((1 : Int) * (M 810 e.toNat))))) o' k') → K [] M193)) ∧ ((M 805 e.toNat) = (4 : Int) → ((0 ≤ (ab_up M 797 59 ((M 797 59) + (((1 : Int) + (M 808 e.toNat)) + ((1 : Int) * (M 810 e.toNat))))) 797 27 ∧ (ab_up M 797 59 ((M 797 59) + (((1 : Int) + (M 808 e.toNat)) + ((1 : Int) * (M 810 e.toNat))))) 797 27 ≤ 130) ∧ ∀ k : Nat, (k : Int) < (ab_up M 797 59 ((M 797 59) + (((1 : Int) + (M 808 e.toNat)) + ((1 : Int) * (M 810 e.toNat))))) 797 27 → 0 ≤ (ab_up M 797 59 ((M 797 59) + (((1 : Int) + (M 808 e.toNat)) + ((1 : Int) * (M 810 e.toNat))))) 815 k ∧ (ab_up M 797 59 ((M 797 59) + (((1 : Int) + (M 808 e.toNat)) + ((1 : Int) * (M 810 e.toNat))))) 815 k < 400 ∧ ab_ir ((ab_up M 797 59 ((M 797 59) + (((1 : Int) + (M 808 e.toNat)) + ((1 : Int) * (M 810 e.toNat))))) 806 ((ab_up M 797 59 ((M 797 59) + (((1 : Int) + (M 808 e.toNat)) + ((1 : Int) * (M 810 e.toNat))))) 815 k).toNat)) ∧ (∀ r140 : Int, (r140 = tr_a (ab_up M 797 59 ((M 797 59) + (((1 : Int) + (M 808 e.toNat)) + ((1 : Int) * (M 810 e.toNat))))) ((ab_up M 797 59 ((M 797 59) + (((1 : Int) + (M 808 e.toNat)) + ((1 : Int) * (M 810 e.toNat))))) 797 27).toNat) → (-128 ≤ (-9 : Int) ∧ (-9 : Int) < 128) ∧ (ab_ir r140 ∧ ab_ir (-9 : Int)) ∧ ((r140 = (-9 : Int) → ((0 : Int) = 0 ∨ (0 : Int) = 1) ∧ (0 ≤ e ∧ 4 * e + 3 < ((1600 : Nat) : Int) ∧ 836 ≠ 834 ∧ e < 100000) ∧ (∀ M193 : ab_M, (∀ o' k' : Nat, M193 o' k' = if o' = 836 ∧ 4 * e.toNat ≤ k' ∧ k' < 4 * e.toNat + 4 then (ab_up (ab_up M 797 59 ((M 797 59) + (((1 : Int) + (M 808 e.toNat)) + ((1 : Int) * (M 810 e.toNat))))) 797 57 (0 : Int)) 834 (k' - 4 * e.toNat) else (ab_up (ab_up M 797 59 ((M 797 59) + (((1 : Int) + (M 808 e.toNat)) + ((1 : Int) * (M 810 e.toNat))))) 797 57 (0 : Int)) o' k') → K [] M193)) ∧ (¬ r140 = (-9 : Int) → (0 ≤ (M 797 66) ∧ 4 * (M 797 66) + 3 < ((520 : Nat) : Int) ∧ 840 ≠ 834 ∧ (M 797 66) < 100000) ∧ (∀ M159 : ab_M, (∀ o' k' : Nat, M159 o' k' = if o' = 840 ∧ 4 * (M 797 66).toNat ≤ k' ∧ k' < 4 * (M 797 66).toNat + 4 then (ab_up M 797 59 ((M 797 59) + (((1 : Int) + (M 808 e.toNat)) + ((1 : Int) * (M 810 e.toNat))))) 834 (k' - 4 * (M 797 66).toNat) else (ab_up M 797 59 ((M 797 59) + (((1 : Int) + (M 808 e.toNat)) + ((1 : Int) * (M 810 e.toNat))))) o' k') → (0 ≤ (M159 797 66) ∧ (M159 797 66) < ((130 : Nat) : Int)) ∧ ((0 : Int) = 0 ∨ (0 : Int) = 1) ∧ (0 ≤ e ∧ 4 * e + 3 < ((1600 : Nat) : Int) ∧ 836 ≠ 834 ∧ e < 100000) ∧ (∀ M193 : ab_M, (∀ o' k' : Nat, M193 o' k' = if o' = 836 ∧ 4 * e.toNat ≤ k' ∧ k' < 4 * e.toNat + 4 then (ab_up (ab_up (ab_up M159 841 ((M159 797 66).toNat) r140) 797 66 ((M159 797 66) + (1 : Int))) 797 57 (0 : Int)) 834 (k' - 4 * e.toNat) else (ab_up (ab_up (ab_up M159 841 ((M159 797 66).toNat) r140) 797 66 ((M159 797 66) + (1 : Int))) 797 57 (0 : Int)) o' k') → K [] M193)))))))) ∧ ((M 805 e.toNat) = (7 : Int) → (0 ≤ e ∧ ∃ ce : Nat, e < (ce : Int) ∧ ce < 400 ∧ (ab_up M 797 59 ((M 797 59) + (((1 : Int) + (M 808 e.toNat)) + ((1 : Int) * (M 810 e.toNat))))) 805 ce = 10 ∧ (ab_up M 797 59 ((M 797 59) + (((1 : Int) + (M 808 e.toNat)) + ((1 : Int) * (M 810 e.toNat))))) 812 ce = e ∧ ∀ j : Nat, j ≤ ce → ab_ir ((ab_up M 797 59 ((M 797 59) + (((1 : Int) + (M 808 e.toNat)) + ((1 : Int) * (M 810 e.toNat))))) 805 j) ∧ ((ab_up M 797 59 ((M 797 59) + (((1 : Int) + (M 808 e.toNat)) + ((1 : Int) * (M 810 e.toNat))))) 805 j = 10 → ab_ir ((ab_up M 797 59 ((M 797 59) + (((1 : Int) + (M 808 e.toNat)) + ((1 : Int) * (M 810 e.toNat))))) 812 j))) ∧ (∀ r96 : Int, (∃ n : Nat, r96 = an_s (ab_up M 797 59 ((M 797 59) + (((1 : Int) + (M 808 e.toNat)) + ((1 : Int) * (M 810 e.toNat))))) (e.toNat + 1) n ∧ e.toNat + 1 + n < 400 ∧ ((ab_up M 797 59 ((M 797 59) + (((1 : Int) + (M 808 e.toNat)) + ((1 : Int) * (M 810 e.toNat))))) 805 (e.toNat + 1 + n) = 10 ∧ (ab_up M 797 59 ((M 797 59) + (((1 : Int) + (M 808 e.toNat)) + ((1 : Int) * (M 810 e.toNat))))) 812 (e.toNat + 1 + n) = e) ∧ ∀ j : Nat, j < n → ¬ ((ab_up M 797 59 ((M 797 59) + (((1 : Int) + (M 808 e.toNat)) + ((1 : Int) * (M 810 e.toNat))))) 805 (e.toNat + 1 + j) = 10 ∧ (ab_up M 797 59 ((M 797 59) + (((1 : Int) + (M 808 e.toNat)) + ((1 : Int) * (M 810 e.toNat))))) 812 (e.toNat + 1 + j) = e)) → (∃ n', ((n' = (4 - (0 : Int)).toNat ∧ e = e ∧ 0 ≤ (0 : Int) ∧ (0 : Int) ≤ 4 ∧ M 805 e.toNat = 7 ∧ pa_any M e.toNat r96 ∧ pL_k M (ab_up M 797 59 ((M 797 59) + (((1 : Int) + (M 808 e.toNat)) + ((1 : Int) * (M 810 e.toNat))))) e.toNat r96 (0 : Int).toNat))))))) ∧ ((M 805 e.toNat) = (5 : Int) → (0 ≤ e ∧ e < ((400 : Nat) : Int)) ∧ (0 ≤ (M 806 e.toNat) ∧ (M 806 e.toNat) ≤ 3) ∧ (∀ M77 : ab_M, (M77 = ab_up (ab_up (ab_up M 797 59 ((M 797 59) + (((1 : Int) + (M 808 e.toNat)) + ((1 : Int) * (M 810 e.toNat))))) 835 (M 806 e.toNat).toNat ((ab_up M 797 59 ((M 797 59) + (((1 : Int) + (M 808 e.toNat)) + ((1 : Int) * (M 810 e.toNat))))) 835 (M 806 e.toNat).toNat + 1)) 834 (M 806 e.toNat).toNat ((ab_up M 797 59 ((M 797 59) + (((1 : Int) + (M 808 e.toNat)) + ((1 : Int) * (M 810 e.toNat))))) 835 (M 806 e.toNat).toNat + 1)) → (0 ≤ e ∧ 4 * e + 3 < ((1600 : Nat) : Int) ∧ 836 ≠ 834 ∧ e < 100000) ∧ (∀ M193 : ab_M, (∀ o' k' : Nat, M193 o' k' = if o' = 836 ∧ 4 * e.toNat ≤ k' ∧ k' < 4 * e.toNat + 4 then M77 834 (k' - 4 * e.toNat) else M77 o' k') → K [] M193))))))))) ∧ ((M 805 e.toNat) = (7 : Int) → (0 ≤ e ∧ e < ((400 : Nat) : Int)) ∧ (0 ≤ e ∧ e < ((400 : Nat) : Int)) ∧ (ab_ir (M 805 e.toNat)) ∧ (((M 805 e.toNat) = 0 → (0 ≤ e ∧ e < ((400 : Nat) : Int)) ∧ (0 ≤ (M 806 e.toNat) ∧ (M 806 e.toNat) ≤ 3) ∧ (∀ M77 : ab_M, (M77 = ab_up (ab_up (ab_up M 797 59 ((M 797 59) + (((1 : Int) + (M 808 e.toNat)) + ((3 : Int) * (M 810 e.toNat))))) 835 (M 806 e.toNat).toNat ((ab_up M 797 59 ((M 797 59) + (((1 : Int) + (M 808 e.toNat)) + ((3 : Int) * (M 810 e.toNat))))) 835 (M 806 e.toNat).toNat + 1)) 834 (M 806 e.toNat).toNat ((ab_up M 797 59 ((M 797 59) + (((1 : Int) + (M 808 e.toNat)) + ((3 : Int) * (M 810 e.toNat))))) 835 (M 806 e.toNat).toNat + 1)) → (0 ≤ e ∧ 4 * e + 3 < ((1600 : Nat) : Int) ∧ 836 ≠ 834 ∧ e < 100000) ∧ (∀ M193 : ab_M, (∀ o' k' : Nat, M193 o' k' = if o' = 836 ∧ 4 * e.toNat ≤ k' ∧ k' < 4 * e.toNat + 4 then M77 834 (k' - 4 * e.toNat) else M77 o' k') → K [] M193))) ∧ (¬ (M 805 e.toNat) = 0 → (0 ≤ e ∧ e < ((400 : Nat) : Int)) ∧ (ab_ir (M 805 e.toNat) ∧ ab_ir (1 : Int)) ∧ (((M 805 e.toNat) = (1 : Int) → (0 ≤ e ∧ e < ((400 : Nat) : Int)) ∧ (0 ≤ (M 806 e.toNat) ∧ (M 806 e.toNat) ≤ 3) ∧ (∀ M77 : ab_M, (M77 = ab_up (ab_up (ab_up M 797 59 ((M 797 59) + (((1 : Int) + (M 808 e.toNat)) + ((3 : Int) * (M 810 e.toNat))))) 835 (M 806 e.toNat).toNat ((ab_up M 797 59 ((M 797 59) + (((1 : Int) + (M 808 e.toNat)) + ((3 : Int) * (M 810 e.toNat))))) 835 (M 806 e.toNat).toNat + 1)) 834 (M 806 e.toNat).toNat ((ab_up M 797 59 ((M 797 59) + (((1 : Int) + (M 808 e.toNat)) + ((3 : Int) * (M 810 e.toNat))))) 835 (M 806 e.toNat).toNat + 1)) → (0 ≤ e ∧ 4 * e + 3 < ((1600 : Nat) : Int) ∧ 836 ≠ 834 ∧ e < 100000) ∧ (∀ M193 : ab_M, (∀ o' k' : Nat, M193 o' k' = if o' = 836 ∧ 4 * e.toNat ≤ k' ∧ k' < 4 * e.toNat + 4 then M77 834 (k' - 4 * e.toNat) else M77 o' k') → K [] M193))) ∧ (¬ (M 805 e.toNat) = (1 : Int) → (0 ≤ e ∧ e < ((400 : Nat) : Int)) ∧ (ab_ir (M 805 e.toNat) ∧ ab_ir (5 : Int)) ∧ ((¬ (M 805 e.toNat) = (5 : Int) → (0 ≤ e ∧ e < ((400 : Nat) : Int)) ∧ (-128 ≤ (7 : Int) ∧ (7 : Int) < 128) ∧ (ab_ir (M 805 e.toNat) ∧ ab_ir (7 : Int)) ∧ ((¬ (M 805 e.toNat) = (7 : Int) → (0 ≤ e ∧ e < ((400 : Nat) : Int)) ∧ (ab_ir (M 805 e.toNat) ∧ ab_ir (4 : Int)) ∧ ((¬ (M 805 e.toNat) = (4 : Int) → (0 ≤ e ∧ 4 * e + 3 < ((1600 : Nat) : Int) ∧ 836 ≠ 834 ∧ e < 100000) ∧ (∀ M193 : ab_M, (∀ o' k' : Nat, M193 o' k' = if o' = 836 ∧ 4 * e.toNat ≤ k' ∧ k' < 4 * e.toNat + 4 then (ab_up M 797 59 ((M 797 59) + (((1 : Int) + (M 808 e.toNat)) + ((3 : Int) * (M 810 e.toNat))))) 834 (k' - 4 * e.toNat) else (ab_up M 797 59 ((M 797 59) + (((1 : Int) + (M 808 e.toNat)) + ((3 : Int) * (M 810 e.toNat))))) o' k') → K [] M193)) ∧ ((M 805 e.toNat) = (4 : Int) → ((0 ≤ (ab_up M 797 59 ((M 797 59) + (((1 : Int) + (M 808 e.toNat)) + ((3 : Int) * (M 810 e.toNat))))) 797 27 ∧ (ab_up M 797 59 ((M 797 59) + (((1 : Int) + (M 808 e.toNat)) + ((3 : Int) * (M 810 e.toNat))))) 797 27 ≤ 130) ∧ ∀ k : Nat, (k : Int) < (ab_up M 797 59 ((M 797 59) + (((1 : Int) + (M 808 e.toNat)) + ((3 : Int) * (M 810 e.toNat))))) 797 27 → 0 ≤ (ab_up M 797 59 ((M 797 59) + (((1 : Int) + (M 808 e.toNat)) + ((3 : Int) * (M 810 e.toNat))))) 815 k ∧ (ab_up M 797 59 ((M 797 59) + (((1 : Int) + (M 808 e.toNat)) + ((3 : Int) * (M 810 e.toNat))))) 815 k < 400 ∧ ab_ir ((ab_up M 797 59 ((M 797 59) + (((1 : Int) + (M 808 e.toNat)) + ((3 : Int) * (M 810 e.toNat))))) 806 ((ab_up M 797 59 ((M 797 59) + (((1 : Int) + (M 808 e.toNat)) + ((3 : Int) * (M 810 e.toNat))))) 815 k).toNat)) ∧ (∀ r140 : Int, (r140 = tr_a (ab_up M 797 59 ((M 797 59) + (((1 : Int) + (M 808 e.toNat)) + ((3 : Int) * (M 810 e.toNat))))) ((ab_up M 797 59 ((M 797 59) + (((1 : Int) + (M 808 e.toNat)) + ((3 : Int) * (M 810 e.toNat))))) 797 27).toNat) → (-128 ≤ (-9 : Int) ∧ (-9 : Int) < 128) ∧ (ab_ir r140 ∧ ab_ir (-9 : Int)) ∧ ((r140 = (-9 : Int) → ((0 : Int) = 0 ∨ (0 : Int) = 1) ∧ (0 ≤ e ∧ 4 * e + 3 < ((1600 : Nat) : Int) ∧ 836 ≠ 834 ∧ e < 100000) ∧ (∀ M193 : ab_M, (∀ o' k' : Nat, M193 o' k' = if o' = 836 ∧ 4 * e.toNat ≤ k' ∧ k' < 4 * e.toNat + 4 then (ab_up (ab_up M 797 59 ((M 797 59) + (((1 : Int) + (M 808 e.toNat)) + ((3 : Int) * (M 810 e.toNat))))) 797 57 (0 : Int)) 834 (k' - 4 * e.toNat) else (ab_up (ab_up M 797 59 ((M 797 59) + (((1 : Int) + (M 808 e.toNat)) + ((3 : Int) * (M 810 e.toNat))))) 797 57 (0 : Int)) o' k') → K [] M193)) ∧ (¬ r140 = (-9 : Int) → (0 ≤ (M 797 66) ∧ 4 * (M 797 66) + 3 < ((520 : Nat) : Int) ∧ 840 ≠ 834 ∧ (M 797 66) < 100000) ∧ (∀ M159 : ab_M, (∀ o' k' : Nat, M159 o' k' = if o' = 840 ∧ 4 * (M 797 66).toNat ≤ k' ∧ k' < 4 * (M 797 66).toNat + 4 then (ab_up M 797 59 ((M 797 59) + (((1 : Int) + (M 808 e.toNat)) + ((3 : Int) * (M 810 e.toNat))))) 834 (k' - 4 * (M 797 66).toNat) else (ab_up M 797 59 ((M 797 59) + (((1 : Int) + (M 808 e.toNat)) + ((3 : Int) * (M 810 e.toNat))))) o' k') → (0 ≤ (M159 797 66) ∧ (M159 797 66) < ((130 : Nat) : Int)) ∧ ((0 : Int) = 0 ∨ (0 : Int) = 1) ∧ (0 ≤ e ∧ 4 * e + 3 < ((1600 : Nat) : Int) ∧ 836 ≠ 834 ∧ e < 100000) ∧ (∀ M193 : ab_M, (∀ o' k' : Nat, M193 o' k' = if o' = 836 ∧ 4 * e.toNat ≤ k' ∧ k' < 4 * e.toNat + 4 then (ab_up (ab_up (ab_up M159 841 ((M159 797 66).toNat) r140) 797 66 ((M159 797 66) + (1 : Int))) 797 57 (0 : Int)) 834 (k' - 4 * e.toNat) else (ab_up (ab_up (ab_up M159 841 ((M159 797 66).toNat) r140) 797 66 ((M159 797 66) + (1 : Int))) 797 57 (0 : Int)) o' k') → K [] M193)))))))) ∧ ((M 805 e.toNat) = (7 : Int) → (0 ≤ e ∧ ∃ ce : Nat, e < (ce : Int) ∧ ce < 400 ∧ (ab_up M 797 59 ((M 797 59) + (((1 : Int) + (M 808 e.toNat)) + ((3 : Int) * (M 810 e.toNat))))) 805 ce = 10 ∧ (ab_up M 797 59 ((M 797 59) + (((1 : Int) + (M 808 e.toNat)) + ((3 : Int) * (M 810 e.toNat))))) 812 ce = e ∧ ∀ j : Nat, j ≤ ce → ab_ir ((ab_up M 797 59 ((M 797 59) + (((1 : Int) + (M 808 e.toNat)) + ((3 : Int) * (M 810 e.toNat))))) 805 j) ∧ ((ab_up M 797 59 ((M 797 59) + (((1 : Int) + (M 808 e.toNat)) + ((3 : Int) * (M 810 e.toNat))))) 805 j = 10 → ab_ir ((ab_up M 797 59 ((M 797 59) + (((1 : Int) + (M 808 e.toNat)) + ((3 : Int) * (M 810 e.toNat))))) 812 j))) ∧ (∀ r96 : Int, (∃ n : Nat, r96 = an_s (ab_up M 797 59 ((M 797 59) + (((1 : Int) + (M 808 e.toNat)) + ((3 : Int) * (M 810 e.toNat))))) (e.toNat + 1) n ∧ e.toNat + 1 + n < 400 ∧ ((ab_up M 797 59 ((M 797 59) + (((1 : Int) + (M 808 e.toNat)) + ((3 : Int) * (M 810 e.toNat))))) 805 (e.toNat + 1 + n) = 10 ∧ (ab_up M 797 59 ((M 797 59) + (((1 : Int) + (M 808 e.toNat)) + ((3 : Int) * (M 810 e.toNat))))) 812 (e.toNat + 1 + n) = e) ∧ ∀ j : Nat, j < n → ¬ ((ab_up M 797 59 ((M 797 59) + (((1 : Int) + (M 808 e.toNat)) + ((3 : Int) * (M 810 e.toNat))))) 805 (e.toNat + 1 + j) = 10 ∧ (ab_up M 797 59 ((M 797 59) + (((1 : Int) + (M 808 e.toNat)) + ((3 : Int) * (M 810 e.toNat))))) 812 (e.toNat + 1 + j) = e)) → (∃ n', ((n' = (4 - (0 : Int)).toNat ∧ e = e ∧ 0 ≤ (0 : Int) ∧ (0 : Int) ≤ 4 ∧ M 805 e.toNat = 7 ∧ pa_any M e.toNat r96 ∧ pL_k M (ab_up M 797 59 ((M 797 59) + (((1 : Int) + (M 808 e.toNat)) + ((3 : Int) * (M 810 e.toNat))))) e.toNat r96 (0 : Int).toNat))))))) ∧ ((M 805 e.toNat) = (5 : Int) → (0 ≤ e ∧ e < ((400 : Nat) : Int)) ∧ (0 ≤ (M 806 e.toNat) ∧ (M 806 e.toNat) ≤ 3) ∧ (∀ M77 : ab_M, (M77 = ab_up (ab_up (ab_up M 797 59 ((M 797 59) + (((1 : Int) + (M 808 e.toNat)) + ((3 : Int) * (M 810 e.toNat))))) 835 (M 806 e.toNat).toNat ((ab_up M 797 59 ((M 797 59) + (((1 : Int) + (M 808 e.toNat)) + ((3 : Int) * (M 810 e.toNat))))) 835 (M 806 e.toNat).toNat + 1)) 834 (M 806 e.toNat).toNat ((ab_up M 797 59 ((M 797 59) + (((1 : Int) + (M 808 e.toNat)) + ((3 : Int) * (M 810 e.toNat))))) 835 (M 806 e.toNat).toNat + 1)) → (0 ≤ e ∧ 4 * e + 3 < ((1600 : Nat) : Int) ∧ 836 ≠ 834 ∧ e < 100000) ∧ (∀ M193 : ab_M, (∀ o' k' : Nat, M193 o' k' = if o' = 836 ∧ 4 * e.toNat ≤ k' ∧ k' < 4 * e.toNat + 4 then M77 834 (k' - 4 * e.toNat) else M77 o' k') → K [] M193)))))))))) := by
  obtain ⟨⟨gA, ⟨ge0, ge1⟩, g8, gS, g9⟩, gK⟩ := hS
  obtain ⟨a0, a1, a2, a3⟩ := id gA
  obtain ⟨b1, b2, b3, b5, b6, b7⟩ := a1 e.toNat (by omega)
  obtain ⟨b6a, b6b⟩ := b6 g8
  obtain ⟨⟨s1, s2⟩, s3, s4, s5, s6, s7, s8, s9⟩ := id gS
  have hd := a2 e.toNat (by omega)
  have htm : M 805 e.toNat = 4 → M 797 66 ≤ 128 := fun q => by
    have h1 := ev_tm_le M (show e.toNat + 1 ≤ (M 797 10).toNat by omega)
    have h2 : ev_tm M (e.toNat + 1) = ev_tm M e.toNat + (if M 805 e.toNat = 4 then 1 else 0) := rfl
    rw [if_pos q] at h2
    omega
  have hop : ∀ k : Nat, (k : Int) < M 797 27 → 0 ≤ M 815 k ∧ M 815 k < 400 ∧ ab_ir (M 806 (M 815 k).toNat) := fun k hk => by
    have := s2 k hk
    have h := (a1 (M 815 k).toNat (by omega)).2.1
    exact ⟨this.1, by omega, by omega, by omega⟩
  have htr : -9 ≤ tr_a M (M 797 27).toNat ∧ tr_a M (M 797 27).toNat < 400 := tr_a_in _ fun k hk _ => by
    have h1 := s2 k (by omega)
    have h2 := g9 k (by omega)
    have := (a1 (M 815 k).toNat (by omega)).2.2.2.1 h2
    omega
  refine And.intro (by
    first
      | omega
      | (simp only [ab_up_2, Nat.reduceEqDiff, if_true, if_false]; first | exact ⟨by omega, by omega⟩ | exact ⟨⟨by omega, by omega⟩, by omega, by omega⟩ | omega)
      | exact ⟨by omega, by omega⟩
      | exact ⟨⟨by omega, by omega⟩, by omega, by omega⟩
      | (have := b3 (by omega); exact ⟨by omega, by omega⟩)
      | (split <;> exact ⟨by decide, by decide⟩)) ?_
  refine And.intro (by
    first
      | omega
      | (simp only [ab_up_2, Nat.reduceEqDiff, if_true, if_false]; first | exact ⟨by omega, by omega⟩ | exact ⟨⟨by omega, by omega⟩, by omega, by omega⟩ | omega)
      | exact ⟨by omega, by omega⟩
      | exact ⟨⟨by omega, by omega⟩, by omega, by omega⟩
      | (have := b3 (by omega); exact ⟨by omega, by omega⟩)
      | (split <;> exact ⟨by decide, by decide⟩)) ?_
  refine And.intro (by
    first
      | omega
      | (simp only [ab_up_2, Nat.reduceEqDiff, if_true, if_false]; first | exact ⟨by omega, by omega⟩ | exact ⟨⟨by omega, by omega⟩, by omega, by omega⟩ | omega)
      | exact ⟨by omega, by omega⟩
      | exact ⟨⟨by omega, by omega⟩, by omega, by omega⟩
      | (have := b3 (by omega); exact ⟨by omega, by omega⟩)
      | (split <;> exact ⟨by decide, by decide⟩)) ?_
  refine And.intro (by
    first
      | omega
      | (simp only [ab_up_2, Nat.reduceEqDiff, if_true, if_false]; first | exact ⟨by omega, by omega⟩ | exact ⟨⟨by omega, by omega⟩, by omega, by omega⟩ | omega)
      | exact ⟨by omega, by omega⟩
      | exact ⟨⟨by omega, by omega⟩, by omega, by omega⟩
      | (have := b3 (by omega); exact ⟨by omega, by omega⟩)
      | (split <;> exact ⟨by decide, by decide⟩)) ?_
  refine ⟨?_, ?_⟩
  · intro c21
    refine And.intro (by
      first
        | omega
        | (simp only [ab_up_2, Nat.reduceEqDiff, if_true, if_false]; first | exact ⟨by omega, by omega⟩ | exact ⟨⟨by omega, by omega⟩, by omega, by omega⟩ | omega)
        | exact ⟨by omega, by omega⟩
        | exact ⟨⟨by omega, by omega⟩, by omega, by omega⟩
        | (have := b3 (by omega); exact ⟨by omega, by omega⟩)
        | (split <;> exact ⟨by decide, by decide⟩)) ?_
    refine And.intro (by
      first
        | omega
        | (simp only [ab_up_2, Nat.reduceEqDiff, if_true, if_false]; first | exact ⟨by omega, by omega⟩ | exact ⟨⟨by omega, by omega⟩, by omega, by omega⟩ | omega)
        | exact ⟨by omega, by omega⟩
        | exact ⟨⟨by omega, by omega⟩, by omega, by omega⟩
        | (have := b3 (by omega); exact ⟨by omega, by omega⟩)
        | (split <;> exact ⟨by decide, by decide⟩)) ?_
    refine And.intro (by
      first
        | omega
        | (simp only [ab_up_2, Nat.reduceEqDiff, if_true, if_false]; first | exact ⟨by omega, by omega⟩ | exact ⟨⟨by omega, by omega⟩, by omega, by omega⟩ | omega)
        | exact ⟨by omega, by omega⟩
        | exact ⟨⟨by omega, by omega⟩, by omega, by omega⟩
        | (have := b3 (by omega); exact ⟨by omega, by omega⟩)
        | (split <;> exact ⟨by decide, by decide⟩)) ?_
    refine ⟨?_, ?_⟩
    · intro c47
      refine And.intro (by
        first
          | omega
          | (simp only [ab_up_2, Nat.reduceEqDiff, if_true, if_false]; first | exact ⟨by omega, by omega⟩ | exact ⟨⟨by omega, by omega⟩, by omega, by omega⟩ | omega)
          | exact ⟨by omega, by omega⟩
          | exact ⟨⟨by omega, by omega⟩, by omega, by omega⟩
          | (have := b3 (by omega); exact ⟨by omega, by omega⟩)
          | (split <;> exact ⟨by decide, by decide⟩)) ?_
      refine And.intro (by
        first
          | omega
          | (simp only [ab_up_2, Nat.reduceEqDiff, if_true, if_false]; first | exact ⟨by omega, by omega⟩ | exact ⟨⟨by omega, by omega⟩, by omega, by omega⟩ | omega)
          | exact ⟨by omega, by omega⟩
          | exact ⟨⟨by omega, by omega⟩, by omega, by omega⟩
          | (have := b3 (by omega); exact ⟨by omega, by omega⟩)
          | (split <;> exact ⟨by decide, by decide⟩)) ?_
      intro M77 hM77
      refine And.intro (by
        exact ⟨by omega, by omega, by decide, by omega⟩) ?_
      intro M193 hM193
      have hk0 : pS0 M _ e.toNat := pS0.one (by omega) (show ((M 797 59) + (((1 : Int) + (M 808 e.toNat)) + ((1 : Int) * (M 810 e.toNat)))) = pS_x M e.toNat by unfold pS_x; rw [if_neg (by omega)]) rfl (by have := b3 (by omega); omega) hM77
      exact gK _ (hk0.kept hM193)
    · intro c47
      refine And.intro (by
        first
          | omega
          | (simp only [ab_up_2, Nat.reduceEqDiff, if_true, if_false]; first | exact ⟨by omega, by omega⟩ | exact ⟨⟨by omega, by omega⟩, by omega, by omega⟩ | omega)
          | exact ⟨by omega, by omega⟩
          | exact ⟨⟨by omega, by omega⟩, by omega, by omega⟩
          | (have := b3 (by omega); exact ⟨by omega, by omega⟩)
          | (split <;> exact ⟨by decide, by decide⟩)) ?_
      refine And.intro (by
        first
          | omega
          | (simp only [ab_up_2, Nat.reduceEqDiff, if_true, if_false]; first | exact ⟨by omega, by omega⟩ | exact ⟨⟨by omega, by omega⟩, by omega, by omega⟩ | omega)
          | exact ⟨by omega, by omega⟩
          | exact ⟨⟨by omega, by omega⟩, by omega, by omega⟩
          | (have := b3 (by omega); exact ⟨by omega, by omega⟩)
          | (split <;> exact ⟨by decide, by decide⟩)) ?_
      refine ⟨?_, ?_⟩
      · intro c57
        refine And.intro (by
          first
            | omega
            | (simp only [ab_up_2, Nat.reduceEqDiff, if_true, if_false]; first | exact ⟨by omega, by omega⟩ | exact ⟨⟨by omega, by omega⟩, by omega, by omega⟩ | omega)
            | exact ⟨by omega, by omega⟩
            | exact ⟨⟨by omega, by omega⟩, by omega, by omega⟩
            | (have := b3 (by omega); exact ⟨by omega, by omega⟩)
            | (split <;> exact ⟨by decide, by decide⟩)) ?_
        refine And.intro (by
          first
            | omega
            | (simp only [ab_up_2, Nat.reduceEqDiff, if_true, if_false]; first | exact ⟨by omega, by omega⟩ | exact ⟨⟨by omega, by omega⟩, by omega, by omega⟩ | omega)
            | exact ⟨by omega, by omega⟩
            | exact ⟨⟨by omega, by omega⟩, by omega, by omega⟩
            | (have := b3 (by omega); exact ⟨by omega, by omega⟩)
            | (split <;> exact ⟨by decide, by decide⟩)) ?_
        intro M77 hM77
        refine And.intro (by
          exact ⟨by omega, by omega, by decide, by omega⟩) ?_
        intro M193 hM193
        have hk0 : pS0 M _ e.toNat := pS0.one (by omega) (show ((M 797 59) + (((1 : Int) + (M 808 e.toNat)) + ((1 : Int) * (M 810 e.toNat)))) = pS_x M e.toNat by unfold pS_x; rw [if_neg (by omega)]) rfl (by have := b3 (by omega); omega) hM77
        exact gK _ (hk0.kept hM193)
      · intro c57
        refine And.intro (by
          first
            | omega
            | (simp only [ab_up_2, Nat.reduceEqDiff, if_true, if_false]; first | exact ⟨by omega, by omega⟩ | exact ⟨⟨by omega, by omega⟩, by omega, by omega⟩ | omega)
            | exact ⟨by omega, by omega⟩
            | exact ⟨⟨by omega, by omega⟩, by omega, by omega⟩
            | (have := b3 (by omega); exact ⟨by omega, by omega⟩)
            | (split <;> exact ⟨by decide, by decide⟩)) ?_
        refine And.intro (by
          first
            | omega
            | (simp only [ab_up_2, Nat.reduceEqDiff, if_true, if_false]; first | exact ⟨by omega, by omega⟩ | exact ⟨⟨by omega, by omega⟩, by omega, by omega⟩ | omega)
            | exact ⟨by omega, by omega⟩
            | exact ⟨⟨by omega, by omega⟩, by omega, by omega⟩
            | (have := b3 (by omega); exact ⟨by omega, by omega⟩)
            | (split <;> exact ⟨by decide, by decide⟩)) ?_
        refine ⟨?_, ?_⟩
        · intro c67
          refine And.intro (by
            first
              | omega
              | (simp only [ab_up_2, Nat.reduceEqDiff, if_true, if_false]; first | exact ⟨by omega, by omega⟩ | exact ⟨⟨by omega, by omega⟩, by omega, by omega⟩ | omega)
              | exact ⟨by omega, by omega⟩
              | exact ⟨⟨by omega, by omega⟩, by omega, by omega⟩
              | (have := b3 (by omega); exact ⟨by omega, by omega⟩)
              | (split <;> exact ⟨by decide, by decide⟩)) ?_
          refine And.intro (by
            first
              | omega
              | (simp only [ab_up_2, Nat.reduceEqDiff, if_true, if_false]; first | exact ⟨by omega, by omega⟩ | exact ⟨⟨by omega, by omega⟩, by omega, by omega⟩ | omega)
              | exact ⟨by omega, by omega⟩
              | exact ⟨⟨by omega, by omega⟩, by omega, by omega⟩
              | (have := b3 (by omega); exact ⟨by omega, by omega⟩)
              | (split <;> exact ⟨by decide, by decide⟩)) ?_
          refine And.intro (by
            first
              | omega
              | (simp only [ab_up_2, Nat.reduceEqDiff, if_true, if_false]; first | exact ⟨by omega, by omega⟩ | exact ⟨⟨by omega, by omega⟩, by omega, by omega⟩ | omega)
              | exact ⟨by omega, by omega⟩
              | exact ⟨⟨by omega, by omega⟩, by omega, by omega⟩
              | (have := b3 (by omega); exact ⟨by omega, by omega⟩)
              | (split <;> exact ⟨by decide, by decide⟩)) ?_
          refine ⟨?_, ?_⟩
          · intro c91
            refine And.intro (by
              first
                | omega
                | (simp only [ab_up_2, Nat.reduceEqDiff, if_true, if_false]; first | exact ⟨by omega, by omega⟩ | exact ⟨⟨by omega, by omega⟩, by omega, by omega⟩ | omega)
                | exact ⟨by omega, by omega⟩
                | exact ⟨⟨by omega, by omega⟩, by omega, by omega⟩
                | (have := b3 (by omega); exact ⟨by omega, by omega⟩)
                | (split <;> exact ⟨by decide, by decide⟩)) ?_
            refine And.intro (by
              first
                | omega
                | (simp only [ab_up_2, Nat.reduceEqDiff, if_true, if_false]; first | exact ⟨by omega, by omega⟩ | exact ⟨⟨by omega, by omega⟩, by omega, by omega⟩ | omega)
                | exact ⟨by omega, by omega⟩
                | exact ⟨⟨by omega, by omega⟩, by omega, by omega⟩
                | (have := b3 (by omega); exact ⟨by omega, by omega⟩)
                | (split <;> exact ⟨by decide, by decide⟩)) ?_
            refine ⟨?_, ?_⟩
            · intro c136
              refine And.intro (by
                exact ⟨by omega, by omega, by decide, by omega⟩) ?_
              intro M193 hM193
              have hk0 : pS0 M _ e.toNat := pS0.none (by omega) (show ((M 797 59) + (((1 : Int) + (M 808 e.toNat)) + ((1 : Int) * (M 810 e.toNat)))) = pS_x M e.toNat by unfold pS_x; rw [if_neg (by omega)]) rfl
              exact gK _ (hk0.kept hM193)
            · intro c136
              refine And.intro (by
                simp only [ab_up_o (show (806 : Nat) ≠ 797 by decide), ab_up_o (show (815 : Nat) ≠ 797 by decide), ab_up_2, Nat.reduceEqDiff, if_true, if_false]
                exact ⟨⟨by omega, by omega⟩, hop⟩) ?_
              intro r140 hr140
              have htr139 : r140 = tr_a M (M 797 27).toNat := by
                rw [hr140, tr_a_fr (M := M) (fun k => ab_up_o (by decide) k) (fun k => ab_up_o (by decide) k) (fun k => ab_up_o (by decide) k), ab_up_k (by decide)]
              refine And.intro (by
                first
                  | omega
                  | (simp only [ab_up_2, Nat.reduceEqDiff, if_true, if_false]; first | exact ⟨by omega, by omega⟩ | exact ⟨⟨by omega, by omega⟩, by omega, by omega⟩ | omega)
                  | exact ⟨by omega, by omega⟩
                  | exact ⟨⟨by omega, by omega⟩, by omega, by omega⟩
                  | (have := b3 (by omega); exact ⟨by omega, by omega⟩)
                  | (split <;> exact ⟨by decide, by decide⟩)) ?_
              refine And.intro (by
                rw [htr139]; exact ⟨⟨by omega, by omega⟩, by decide, by decide⟩) ?_
              refine ⟨?_, ?_⟩
              · intro c147
                refine And.intro (by
                  first
                    | omega
                    | (simp only [ab_up_2, Nat.reduceEqDiff, if_true, if_false]; first | exact ⟨by omega, by omega⟩ | exact ⟨⟨by omega, by omega⟩, by omega, by omega⟩ | omega)
                    | exact ⟨by omega, by omega⟩
                    | exact ⟨⟨by omega, by omega⟩, by omega, by omega⟩
                    | (have := b3 (by omega); exact ⟨by omega, by omega⟩)
                    | (split <;> exact ⟨by decide, by decide⟩)) ?_
                refine And.intro (by
                  exact ⟨by omega, by omega, by decide, by omega⟩) ?_
                intro M193 hM193
                have hk0 : pS0 M _ e.toNat := pS0.thr0 (by omega) (by rw [← htr139]; assumption) (show ((M 797 59) + (((1 : Int) + (M 808 e.toNat)) + ((1 : Int) * (M 810 e.toNat)))) = pS_x M e.toNat by unfold pS_x; rw [if_neg (by omega)]) rfl
                exact gK _ (hk0.kept hM193)
              · intro c147
                refine And.intro (by
                  (try simp only [ab_up_2, Nat.reduceEqDiff, if_true, if_false])
                  have := htm (by omega)
                  exact ⟨by omega, by omega, by decide, by omega⟩) ?_
                intro M159 hM159
                refine And.intro (by
                  have e66 : M159 797 66 = M 797 66 := by rw [hM159, if_neg (by omega), ab_up_k (by decide)]
                  rw [e66]
                  have := htm (by omega)
                  exact ⟨by omega, by omega⟩) ?_
                refine And.intro (by
                  first
                    | omega
                    | (simp only [ab_up_2, Nat.reduceEqDiff, if_true, if_false]; first | exact ⟨by omega, by omega⟩ | exact ⟨⟨by omega, by omega⟩, by omega, by omega⟩ | omega)
                    | exact ⟨by omega, by omega⟩
                    | exact ⟨⟨by omega, by omega⟩, by omega, by omega⟩
                    | (have := b3 (by omega); exact ⟨by omega, by omega⟩)
                    | (split <;> exact ⟨by decide, by decide⟩)) ?_
                refine And.intro (by
                  exact ⟨by omega, by omega, by decide, by omega⟩) ?_
                intro M193 hM193
                have hk0 : pS0 M _ e.toNat := pS0.thr1 (Mk := M159) (by omega) (by rw [← htr139]; assumption) (show ((M 797 59) + (((1 : Int) + (M 808 e.toNat)) + ((1 : Int) * (M 810 e.toNat)))) = pS_x M e.toNat by unfold pS_x; rw [if_neg (by omega)]) s3.1 hM159 (by rw [← htr139])
                exact gK _ (hk0.kept hM193)
          · intro c91
            refine And.intro (by
              refine ⟨by omega, ?_⟩
              obtain ⟨ce, c1, c2, c3, c4⟩ := b7 (by omega)
              refine ⟨ce, by omega, by omega, ?_, ?_, fun j hj => ?_⟩
              · rw [ab_up_o (by decide)]; exact c3
              · rw [ab_up_o (by decide), c4]; omega
              · rw [ab_up_o (by decide), ab_up_o (by decide)]
                have h := a1 j (by omega)
                exact ⟨⟨by omega, by omega⟩, fun q => by have := h.2.2.2.1 (by omega); exact ⟨by omega, by omega⟩⟩) ?_
            intro r96 hr96
            have hany : pa_any M e.toNat r96 := by
              obtain ⟨n, y1, y2, y3, y4⟩ := hr96
              rw [an_s_fr (M := M) (fun k => ab_up_o (by decide) k) (fun k => ab_up_o (by decide) k)] at y1
              simp only [ab_up_o (show (805 : Nat) ≠ 797 by decide), ab_up_o (show (812 : Nat) ≠ 797 by decide)] at y3 y4
              have he : ((e.toNat : Nat) : Int) = e := by omega
              exact ⟨n, y1, y2, ⟨y3.1, y3.2.trans he.symm⟩, fun j hj q => y4 j hj ⟨q.1, q.2.trans he⟩⟩
            exfalso
            omega
        · intro c67
          refine And.intro (by
            first
              | omega
              | (simp only [ab_up_2, Nat.reduceEqDiff, if_true, if_false]; first | exact ⟨by omega, by omega⟩ | exact ⟨⟨by omega, by omega⟩, by omega, by omega⟩ | omega)
              | exact ⟨by omega, by omega⟩
              | exact ⟨⟨by omega, by omega⟩, by omega, by omega⟩
              | (have := b3 (by omega); exact ⟨by omega, by omega⟩)
              | (split <;> exact ⟨by decide, by decide⟩)) ?_
          refine And.intro (by
            first
              | omega
              | (simp only [ab_up_2, Nat.reduceEqDiff, if_true, if_false]; first | exact ⟨by omega, by omega⟩ | exact ⟨⟨by omega, by omega⟩, by omega, by omega⟩ | omega)
              | exact ⟨by omega, by omega⟩
              | exact ⟨⟨by omega, by omega⟩, by omega, by omega⟩
              | (have := b3 (by omega); exact ⟨by omega, by omega⟩)
              | (split <;> exact ⟨by decide, by decide⟩)) ?_
          intro M77 hM77
          refine And.intro (by
            exact ⟨by omega, by omega, by decide, by omega⟩) ?_
          intro M193 hM193
          have hk0 : pS0 M _ e.toNat := pS0.one (by omega) (show ((M 797 59) + (((1 : Int) + (M 808 e.toNat)) + ((1 : Int) * (M 810 e.toNat)))) = pS_x M e.toNat by unfold pS_x; rw [if_neg (by omega)]) rfl (by have := b3 (by omega); omega) hM77
          exact gK _ (hk0.kept hM193)
  · intro c21
    refine And.intro (by
      first
        | omega
        | (simp only [ab_up_2, Nat.reduceEqDiff, if_true, if_false]; first | exact ⟨by omega, by omega⟩ | exact ⟨⟨by omega, by omega⟩, by omega, by omega⟩ | omega)
        | exact ⟨by omega, by omega⟩
        | exact ⟨⟨by omega, by omega⟩, by omega, by omega⟩
        | (have := b3 (by omega); exact ⟨by omega, by omega⟩)
        | (split <;> exact ⟨by decide, by decide⟩)) ?_
    refine And.intro (by
      first
        | omega
        | (simp only [ab_up_2, Nat.reduceEqDiff, if_true, if_false]; first | exact ⟨by omega, by omega⟩ | exact ⟨⟨by omega, by omega⟩, by omega, by omega⟩ | omega)
        | exact ⟨by omega, by omega⟩
        | exact ⟨⟨by omega, by omega⟩, by omega, by omega⟩
        | (have := b3 (by omega); exact ⟨by omega, by omega⟩)
        | (split <;> exact ⟨by decide, by decide⟩)) ?_
    refine And.intro (by
      first
        | omega
        | (simp only [ab_up_2, Nat.reduceEqDiff, if_true, if_false]; first | exact ⟨by omega, by omega⟩ | exact ⟨⟨by omega, by omega⟩, by omega, by omega⟩ | omega)
        | exact ⟨by omega, by omega⟩
        | exact ⟨⟨by omega, by omega⟩, by omega, by omega⟩
        | (have := b3 (by omega); exact ⟨by omega, by omega⟩)
        | (split <;> exact ⟨by decide, by decide⟩)) ?_
    refine ⟨?_, ?_⟩
    · intro c47
      refine And.intro (by
        first
          | omega
          | (simp only [ab_up_2, Nat.reduceEqDiff, if_true, if_false]; first | exact ⟨by omega, by omega⟩ | exact ⟨⟨by omega, by omega⟩, by omega, by omega⟩ | omega)
          | exact ⟨by omega, by omega⟩
          | exact ⟨⟨by omega, by omega⟩, by omega, by omega⟩
          | (have := b3 (by omega); exact ⟨by omega, by omega⟩)
          | (split <;> exact ⟨by decide, by decide⟩)) ?_
      refine And.intro (by
        first
          | omega
          | (simp only [ab_up_2, Nat.reduceEqDiff, if_true, if_false]; first | exact ⟨by omega, by omega⟩ | exact ⟨⟨by omega, by omega⟩, by omega, by omega⟩ | omega)
          | exact ⟨by omega, by omega⟩
          | exact ⟨⟨by omega, by omega⟩, by omega, by omega⟩
          | (have := b3 (by omega); exact ⟨by omega, by omega⟩)
          | (split <;> exact ⟨by decide, by decide⟩)) ?_
      intro M77 hM77
      refine And.intro (by
        exact ⟨by omega, by omega, by decide, by omega⟩) ?_
      intro M193 hM193
      have hk0 : pS0 M _ e.toNat := pS0.one (by omega) (show ((M 797 59) + (((1 : Int) + (M 808 e.toNat)) + ((3 : Int) * (M 810 e.toNat)))) = pS_x M e.toNat by unfold pS_x; rw [if_pos (by omega)]) rfl (by have := b3 (by omega); omega) hM77
      exact gK _ (hk0.kept hM193)
    · intro c47
      refine And.intro (by
        first
          | omega
          | (simp only [ab_up_2, Nat.reduceEqDiff, if_true, if_false]; first | exact ⟨by omega, by omega⟩ | exact ⟨⟨by omega, by omega⟩, by omega, by omega⟩ | omega)
          | exact ⟨by omega, by omega⟩
          | exact ⟨⟨by omega, by omega⟩, by omega, by omega⟩
          | (have := b3 (by omega); exact ⟨by omega, by omega⟩)
          | (split <;> exact ⟨by decide, by decide⟩)) ?_
      refine And.intro (by
        first
          | omega
          | (simp only [ab_up_2, Nat.reduceEqDiff, if_true, if_false]; first | exact ⟨by omega, by omega⟩ | exact ⟨⟨by omega, by omega⟩, by omega, by omega⟩ | omega)
          | exact ⟨by omega, by omega⟩
          | exact ⟨⟨by omega, by omega⟩, by omega, by omega⟩
          | (have := b3 (by omega); exact ⟨by omega, by omega⟩)
          | (split <;> exact ⟨by decide, by decide⟩)) ?_
      refine ⟨?_, ?_⟩
      · intro c57
        refine And.intro (by
          first
            | omega
            | (simp only [ab_up_2, Nat.reduceEqDiff, if_true, if_false]; first | exact ⟨by omega, by omega⟩ | exact ⟨⟨by omega, by omega⟩, by omega, by omega⟩ | omega)
            | exact ⟨by omega, by omega⟩
            | exact ⟨⟨by omega, by omega⟩, by omega, by omega⟩
            | (have := b3 (by omega); exact ⟨by omega, by omega⟩)
            | (split <;> exact ⟨by decide, by decide⟩)) ?_
        refine And.intro (by
          first
            | omega
            | (simp only [ab_up_2, Nat.reduceEqDiff, if_true, if_false]; first | exact ⟨by omega, by omega⟩ | exact ⟨⟨by omega, by omega⟩, by omega, by omega⟩ | omega)
            | exact ⟨by omega, by omega⟩
            | exact ⟨⟨by omega, by omega⟩, by omega, by omega⟩
            | (have := b3 (by omega); exact ⟨by omega, by omega⟩)
            | (split <;> exact ⟨by decide, by decide⟩)) ?_
        intro M77 hM77
        refine And.intro (by
          exact ⟨by omega, by omega, by decide, by omega⟩) ?_
        intro M193 hM193
        have hk0 : pS0 M _ e.toNat := pS0.one (by omega) (show ((M 797 59) + (((1 : Int) + (M 808 e.toNat)) + ((3 : Int) * (M 810 e.toNat)))) = pS_x M e.toNat by unfold pS_x; rw [if_pos (by omega)]) rfl (by have := b3 (by omega); omega) hM77
        exact gK _ (hk0.kept hM193)
      · intro c57
        refine And.intro (by
          first
            | omega
            | (simp only [ab_up_2, Nat.reduceEqDiff, if_true, if_false]; first | exact ⟨by omega, by omega⟩ | exact ⟨⟨by omega, by omega⟩, by omega, by omega⟩ | omega)
            | exact ⟨by omega, by omega⟩
            | exact ⟨⟨by omega, by omega⟩, by omega, by omega⟩
            | (have := b3 (by omega); exact ⟨by omega, by omega⟩)
            | (split <;> exact ⟨by decide, by decide⟩)) ?_
        refine And.intro (by
          first
            | omega
            | (simp only [ab_up_2, Nat.reduceEqDiff, if_true, if_false]; first | exact ⟨by omega, by omega⟩ | exact ⟨⟨by omega, by omega⟩, by omega, by omega⟩ | omega)
            | exact ⟨by omega, by omega⟩
            | exact ⟨⟨by omega, by omega⟩, by omega, by omega⟩
            | (have := b3 (by omega); exact ⟨by omega, by omega⟩)
            | (split <;> exact ⟨by decide, by decide⟩)) ?_
        refine ⟨?_, ?_⟩
        · intro c67
          refine And.intro (by
            first
              | omega
              | (simp only [ab_up_2, Nat.reduceEqDiff, if_true, if_false]; first | exact ⟨by omega, by omega⟩ | exact ⟨⟨by omega, by omega⟩, by omega, by omega⟩ | omega)
              | exact ⟨by omega, by omega⟩
              | exact ⟨⟨by omega, by omega⟩, by omega, by omega⟩
              | (have := b3 (by omega); exact ⟨by omega, by omega⟩)
              | (split <;> exact ⟨by decide, by decide⟩)) ?_
          refine And.intro (by
            first
              | omega
              | (simp only [ab_up_2, Nat.reduceEqDiff, if_true, if_false]; first | exact ⟨by omega, by omega⟩ | exact ⟨⟨by omega, by omega⟩, by omega, by omega⟩ | omega)
              | exact ⟨by omega, by omega⟩
              | exact ⟨⟨by omega, by omega⟩, by omega, by omega⟩
              | (have := b3 (by omega); exact ⟨by omega, by omega⟩)
              | (split <;> exact ⟨by decide, by decide⟩)) ?_
          refine And.intro (by
            first
              | omega
              | (simp only [ab_up_2, Nat.reduceEqDiff, if_true, if_false]; first | exact ⟨by omega, by omega⟩ | exact ⟨⟨by omega, by omega⟩, by omega, by omega⟩ | omega)
              | exact ⟨by omega, by omega⟩
              | exact ⟨⟨by omega, by omega⟩, by omega, by omega⟩
              | (have := b3 (by omega); exact ⟨by omega, by omega⟩)
              | (split <;> exact ⟨by decide, by decide⟩)) ?_
          refine ⟨?_, ?_⟩
          · intro c91
            refine And.intro (by
              first
                | omega
                | (simp only [ab_up_2, Nat.reduceEqDiff, if_true, if_false]; first | exact ⟨by omega, by omega⟩ | exact ⟨⟨by omega, by omega⟩, by omega, by omega⟩ | omega)
                | exact ⟨by omega, by omega⟩
                | exact ⟨⟨by omega, by omega⟩, by omega, by omega⟩
                | (have := b3 (by omega); exact ⟨by omega, by omega⟩)
                | (split <;> exact ⟨by decide, by decide⟩)) ?_
            refine And.intro (by
              first
                | omega
                | (simp only [ab_up_2, Nat.reduceEqDiff, if_true, if_false]; first | exact ⟨by omega, by omega⟩ | exact ⟨⟨by omega, by omega⟩, by omega, by omega⟩ | omega)
                | exact ⟨by omega, by omega⟩
                | exact ⟨⟨by omega, by omega⟩, by omega, by omega⟩
                | (have := b3 (by omega); exact ⟨by omega, by omega⟩)
                | (split <;> exact ⟨by decide, by decide⟩)) ?_
            refine ⟨?_, ?_⟩
            · intro c136
              refine And.intro (by
                exact ⟨by omega, by omega, by decide, by omega⟩) ?_
              intro M193 hM193
              have hk0 : pS0 M _ e.toNat := pS0.none (by omega) (show ((M 797 59) + (((1 : Int) + (M 808 e.toNat)) + ((3 : Int) * (M 810 e.toNat)))) = pS_x M e.toNat by unfold pS_x; rw [if_pos (by omega)]) rfl
              exact gK _ (hk0.kept hM193)
            · intro c136
              refine And.intro (by
                simp only [ab_up_o (show (806 : Nat) ≠ 797 by decide), ab_up_o (show (815 : Nat) ≠ 797 by decide), ab_up_2, Nat.reduceEqDiff, if_true, if_false]
                exact ⟨⟨by omega, by omega⟩, hop⟩) ?_
              intro r140 hr140
              have htr139 : r140 = tr_a M (M 797 27).toNat := by
                rw [hr140, tr_a_fr (M := M) (fun k => ab_up_o (by decide) k) (fun k => ab_up_o (by decide) k) (fun k => ab_up_o (by decide) k), ab_up_k (by decide)]
              refine And.intro (by
                first
                  | omega
                  | (simp only [ab_up_2, Nat.reduceEqDiff, if_true, if_false]; first | exact ⟨by omega, by omega⟩ | exact ⟨⟨by omega, by omega⟩, by omega, by omega⟩ | omega)
                  | exact ⟨by omega, by omega⟩
                  | exact ⟨⟨by omega, by omega⟩, by omega, by omega⟩
                  | (have := b3 (by omega); exact ⟨by omega, by omega⟩)
                  | (split <;> exact ⟨by decide, by decide⟩)) ?_
              refine And.intro (by
                rw [htr139]; exact ⟨⟨by omega, by omega⟩, by decide, by decide⟩) ?_
              refine ⟨?_, ?_⟩
              · intro c147
                refine And.intro (by
                  first
                    | omega
                    | (simp only [ab_up_2, Nat.reduceEqDiff, if_true, if_false]; first | exact ⟨by omega, by omega⟩ | exact ⟨⟨by omega, by omega⟩, by omega, by omega⟩ | omega)
                    | exact ⟨by omega, by omega⟩
                    | exact ⟨⟨by omega, by omega⟩, by omega, by omega⟩
                    | (have := b3 (by omega); exact ⟨by omega, by omega⟩)
                    | (split <;> exact ⟨by decide, by decide⟩)) ?_
                refine And.intro (by
                  exact ⟨by omega, by omega, by decide, by omega⟩) ?_
                intro M193 hM193
                have hk0 : pS0 M _ e.toNat := pS0.thr0 (by omega) (by rw [← htr139]; assumption) (show ((M 797 59) + (((1 : Int) + (M 808 e.toNat)) + ((3 : Int) * (M 810 e.toNat)))) = pS_x M e.toNat by unfold pS_x; rw [if_pos (by omega)]) rfl
                exact gK _ (hk0.kept hM193)
              · intro c147
                refine And.intro (by
                  (try simp only [ab_up_2, Nat.reduceEqDiff, if_true, if_false])
                  have := htm (by omega)
                  exact ⟨by omega, by omega, by decide, by omega⟩) ?_
                intro M159 hM159
                refine And.intro (by
                  have e66 : M159 797 66 = M 797 66 := by rw [hM159, if_neg (by omega), ab_up_k (by decide)]
                  rw [e66]
                  have := htm (by omega)
                  exact ⟨by omega, by omega⟩) ?_
                refine And.intro (by
                  first
                    | omega
                    | (simp only [ab_up_2, Nat.reduceEqDiff, if_true, if_false]; first | exact ⟨by omega, by omega⟩ | exact ⟨⟨by omega, by omega⟩, by omega, by omega⟩ | omega)
                    | exact ⟨by omega, by omega⟩
                    | exact ⟨⟨by omega, by omega⟩, by omega, by omega⟩
                    | (have := b3 (by omega); exact ⟨by omega, by omega⟩)
                    | (split <;> exact ⟨by decide, by decide⟩)) ?_
                refine And.intro (by
                  exact ⟨by omega, by omega, by decide, by omega⟩) ?_
                intro M193 hM193
                have hk0 : pS0 M _ e.toNat := pS0.thr1 (Mk := M159) (by omega) (by rw [← htr139]; assumption) (show ((M 797 59) + (((1 : Int) + (M 808 e.toNat)) + ((3 : Int) * (M 810 e.toNat)))) = pS_x M e.toNat by unfold pS_x; rw [if_pos (by omega)]) s3.1 hM159 (by rw [← htr139])
                exact gK _ (hk0.kept hM193)
          · intro c91
            refine And.intro (by
              refine ⟨by omega, ?_⟩
              obtain ⟨ce, c1, c2, c3, c4⟩ := b7 (by omega)
              refine ⟨ce, by omega, by omega, ?_, ?_, fun j hj => ?_⟩
              · rw [ab_up_o (by decide)]; exact c3
              · rw [ab_up_o (by decide), c4]; omega
              · rw [ab_up_o (by decide), ab_up_o (by decide)]
                have h := a1 j (by omega)
                exact ⟨⟨by omega, by omega⟩, fun q => by have := h.2.2.2.1 (by omega); exact ⟨by omega, by omega⟩⟩) ?_
            intro r96 hr96
            have hany : pa_any M e.toNat r96 := by
              obtain ⟨n, y1, y2, y3, y4⟩ := hr96
              rw [an_s_fr (M := M) (fun k => ab_up_o (by decide) k) (fun k => ab_up_o (by decide) k)] at y1
              simp only [ab_up_o (show (805 : Nat) ≠ 797 by decide), ab_up_o (show (812 : Nat) ≠ 797 by decide)] at y3 y4
              have he : ((e.toNat : Nat) : Int) = e := by omega
              exact ⟨n, y1, y2, ⟨y3.1, y3.2.trans he.symm⟩, fun j hj q => y4 j hj ⟨q.1, q.2.trans he⟩⟩
            refine ⟨_, rfl, rfl, by decide, by decide, by omega, hany, pL_k.start _ ?_ rfl⟩
            unfold pS_x
            rw [if_pos (by omega)]
        · intro c67
          refine And.intro (by
            first
              | omega
              | (simp only [ab_up_2, Nat.reduceEqDiff, if_true, if_false]; first | exact ⟨by omega, by omega⟩ | exact ⟨⟨by omega, by omega⟩, by omega, by omega⟩ | omega)
              | exact ⟨by omega, by omega⟩
              | exact ⟨⟨by omega, by omega⟩, by omega, by omega⟩
              | (have := b3 (by omega); exact ⟨by omega, by omega⟩)
              | (split <;> exact ⟨by decide, by decide⟩)) ?_
          refine And.intro (by
            first
              | omega
              | (simp only [ab_up_2, Nat.reduceEqDiff, if_true, if_false]; first | exact ⟨by omega, by omega⟩ | exact ⟨⟨by omega, by omega⟩, by omega, by omega⟩ | omega)
              | exact ⟨by omega, by omega⟩
              | exact ⟨⟨by omega, by omega⟩, by omega, by omega⟩
              | (have := b3 (by omega); exact ⟨by omega, by omega⟩)
              | (split <;> exact ⟨by decide, by decide⟩)) ?_
          intro M77 hM77
          refine And.intro (by
            exact ⟨by omega, by omega, by decide, by omega⟩) ?_
          intro M193 hM193
          have hk0 : pS0 M _ e.toNat := pS0.one (by omega) (show ((M 797 59) + (((1 : Int) + (M 808 e.toNat)) + ((3 : Int) * (M 810 e.toNat)))) = pS_x M e.toNat by unfold pS_x; rw [if_pos (by omega)]) rfl (by have := b3 (by omega); omega) hM77
          exact gK _ (hk0.kept hM193)

set_option maxRecDepth 20000 in
theorem vc_X9_passStatement_102 (e : Int) (M : ab_M) (K : List ab_V → ab_M → Prop) (hS : (ev_A M ∧ (0 ≤ e ∧ e < M 797 10) ∧ M 805 e.toNat ≤ 8 ∧ pa_S M e.toNat ∧ ∀ k : Nat, (k : Int) < M 797 27 → 9 ≤ M 805 (M 815 k).toNat) ∧ (∀ Mx : ab_M, (pS M Mx e.toNat) → K [] Mx)) (n : Nat) (e1 : Int) (a : Int) (k : Int) (M1 : ab_M) (hI : n = (4 - k).toNat ∧ e = e1 ∧ 0 ≤ k ∧ k ≤ 4 ∧ M 805 e.toNat = 7 ∧ pa_any M e.toNat a ∧ pL_k M M1 e.toNat a k.toNat) : (ab_ir k ∧ ab_ir (4 : Int)) ∧ (((4 : Int) ≤ k → (0 ≤ e1 ∧ 4 * e1 + 3 < ((1600 : Nat) : Int) ∧ 836 ≠ 834 ∧ e1 < 100000) ∧ (∀ M193 : ab_M, (∀ o' k' : Nat, M193 o' k' = if o' = 836 ∧ 4 * e1.toNat ≤ k' ∧ k' < 4 * e1.toNat + 4 then M1 834 (k' - 4 * e1.toNat) else M1 o' k') → K [] M193)) ∧ (k < (4 : Int) → (True) ∧ (∀ r109 : Int, (r109 = if ab_and (ab_shr a k) 1 = 1 then 1 else 0) → (ab_ir r109) ∧ ((r109 = 0 → (∃ n', n' < n ∧ ((n' = (4 - (k + 1)).toNat ∧ e = e1 ∧ 0 ≤ (k + 1) ∧ (k + 1) ≤ 4 ∧ M 805 e.toNat = 7 ∧ pa_any M e.toNat a ∧ pL_k M M1 e.toNat a (k + 1).toNat)))) ∧ (¬ r109 = 0 → (0 ≤ k ∧ k ≤ 3) ∧ (∀ M117 : ab_M, (M117 = ab_up (ab_up M1 835 k.toNat (M1 835 k.toNat + 1)) 834 k.toNat (M1 835 k.toNat + 1)) → (∃ n', n' < n ∧ ((n' = (4 - (k + 1)).toNat ∧ e = e1 ∧ 0 ≤ (k + 1) ∧ (k + 1) ≤ 4 ∧ M 805 e.toNat = 7 ∧ pa_any M e.toNat a ∧ pL_k M M117 e.toNat a (k + 1).toNat))))))))) := by
  obtain ⟨hn, q1, hk0, hk1, hs, ha, hL⟩ := hI
  subst q1
  obtain ⟨⟨gA, ⟨ge0, ge1⟩, g8, gS, g9⟩, gK⟩ := hS
  obtain ⟨a0, a1, a2, a3⟩ := id gA
  obtain ⟨b1, b2, b3, b5, b6, b7⟩ := a1 e.toNat (by omega)
  obtain ⟨b6a, b6b⟩ := b6 g8
  obtain ⟨⟨s1, s2⟩, s3, s4, s5, s6, s7, s8, s9⟩ := id gS
  have hd := a2 e.toNat (by omega)
  have htm : M 805 e.toNat = 4 → M 797 66 ≤ 128 := fun q => by
    have h1 := ev_tm_le M (show e.toNat + 1 ≤ (M 797 10).toNat by omega)
    have h2 : ev_tm M (e.toNat + 1) = ev_tm M e.toNat + (if M 805 e.toNat = 4 then 1 else 0) := rfl
    rw [if_pos q] at h2
    omega
  have hop : ∀ k : Nat, (k : Int) < M 797 27 → 0 ≤ M 815 k ∧ M 815 k < 400 ∧ ab_ir (M 806 (M 815 k).toNat) := fun k hk => by
    have := s2 k hk
    have h := (a1 (M 815 k).toNat (by omega)).2.1
    exact ⟨this.1, by omega, by omega, by omega⟩
  have htr : -9 ≤ tr_a M (M 797 27).toNat ∧ tr_a M (M 797 27).toNat < 400 := tr_a_in _ fun k hk _ => by
    have h1 := s2 k (by omega)
    have h2 := g9 k (by omega)
    have := (a1 (M 815 k).toNat (by omega)).2.2.2.1 h2
    omega
  clear b7
  refine And.intro (by
    first
      | omega
      | (simp only [ab_up_2, Nat.reduceEqDiff, if_true, if_false]; first | exact ⟨by omega, by omega⟩ | exact ⟨⟨by omega, by omega⟩, by omega, by omega⟩ | omega)
      | exact ⟨by omega, by omega⟩
      | exact ⟨⟨by omega, by omega⟩, by omega, by omega⟩
      | (have := b3 (by omega); exact ⟨by omega, by omega⟩)
      | (split <;> exact ⟨by decide, by decide⟩)) ?_
  refine ⟨?_, ?_⟩
  · intro c104
    refine And.intro (by
      exact ⟨by omega, by omega, by decide, by omega⟩) ?_
    intro M193 hM193
    rw [show k.toNat = 4 by omega] at hL
    exact gK _ ((hL.done hs ha).kept hM193)
  · intro c104
    refine And.intro trivial ?_
    intro r109 hr109
    refine And.intro (by
      first
        | omega
        | (simp only [ab_up_2, Nat.reduceEqDiff, if_true, if_false]; first | exact ⟨by omega, by omega⟩ | exact ⟨⟨by omega, by omega⟩, by omega, by omega⟩ | omega)
        | exact ⟨by omega, by omega⟩
        | exact ⟨⟨by omega, by omega⟩, by omega, by omega⟩
        | (have := b3 (by omega); exact ⟨by omega, by omega⟩)
        | (split <;> exact ⟨by decide, by decide⟩)) ?_
    refine ⟨?_, ?_⟩
    · intro c112
      rw [hr109] at c112
      rw [ab_bf] at c112
      clear hr109 r109
      refine ⟨_, ?_, rfl, rfl, by omega, by omega, hs, ha, ?_⟩
      · omega
      · rw [show (k + 1).toNat = k.toNat + 1 by omega]
        refine hL.skip fun z => ?_
        rw [pz_b_has (by omega) (by omega), if_pos z] at c112
        exact c112 rfl
    · intro c112
      rw [hr109] at c112
      rw [ab_bt] at c112
      clear hr109 r109
      refine And.intro (by
        exact ⟨by omega, by omega⟩) ?_
      intro M117 hM117
      refine ⟨_, ?_, rfl, rfl, by omega, by omega, hs, ha, ?_⟩
      · omega
      · rw [show (k + 1).toNat = k.toNat + 1 by omega]
        refine hL.step (by omega) ?_ hM117
        refine Decidable.byContradiction fun z => ?_
        rw [pz_b_has (by omega) (by omega), if_neg z] at c112
        exact absurd c112 (by decide)

set_option maxRecDepth 20000 in
set_option maxHeartbeats 1000000 in
theorem ok_X9_passStatement (E : ab_E) : ab_Ok E 2 168 S_X9_passStatement := by
  refine ab_mk rq_X9_passStatement tk_X9_passStatement (rt := 0) (rfl) (cuts := [102]) (G := [(119, S_X9_anyOf), (143, S_X9_has), (154, S_X9_keepVersions), (178, S_X9_renew), (186, S_X9_tryAround)]) (List.forall_mem_cons.mpr ⟨⟨1, by decide, ok_X9_anyOf E⟩, List.forall_mem_cons.mpr ⟨⟨1, by decide, ok_X9_has E⟩, List.forall_mem_cons.mpr ⟨⟨1, by decide, ok_X9_keepVersions E⟩, List.forall_mem_cons.mpr ⟨⟨1, by decide, ok_X9_renew E⟩, List.forall_mem_cons.mpr ⟨⟨1, by decide, ok_X9_tryAround E⟩, fun _ h => absurd h List.not_mem_nil⟩⟩⟩⟩⟩) (by decide) 164 rfl ?_
  intro a M K wd wa hS
  unfold S_X9_passStatement at hS
  split at hS
  ·
    rename_i e
    refine ⟨Nat.le_of_ble_eq_true rfl, fun pc n L st M1 => match pc, L, st with
      | 102, [.inr (.inr (.inr (797, 9, 0))), .inr (.inl e1), .inr (.inl a), .inr (.inl k)], [] => (n = (4 - k).toNat ∧ e = e1 ∧ 0 ≤ k ∧ k ≤ 4 ∧ M 805 e.toNat = 7 ∧ pa_any M e.toNat a ∧ pL_k M M1 e.toNat a k.toNat)
      | _, _, _ => False, ?_, ?_⟩
    · exact vc_X9_passStatement_0 e M K  hS
    · intro pc n L st M1 hI wd1 wL wst
      (try dsimp only at hI)
      split at hI
      ·
        rename_i e1 a k
        exact vc_X9_passStatement_102 e M K  hS n e1 a k _ hI
      · exact hI.elim
  · exact hS.elim
