/-! the reference reads a statement, whole -/
/-- the reader's start of a statement allows it -/
def pz_mayM (M : ab_M) : Prop := pz_its M ≠ -9 ∧ (((pz_kds (pz_E M)).length : Nat) : Int) + pz_nck (pz_its M) ≤ 16 ∧ (pz_its M = 7 → (((pz_lps (pz_E M)).length : Nat) : Int) < 4 ∧ ((pz_la (pz_E M) (pz_op M) : Nat) : Int) < 2)
def pz_SP (M M' : ab_M) : Prop := (pz_mayM M → pz_res M M' (pz_stm (pz_L M) (pz_E M) (pz_op M) (M 797 24) (pz_its M))) ∧ (¬ pz_mayM M → pz_res M M' (.inl (M 797 24)))
theorem pz_mayno {M : ab_M} (hl : pz_LS M) : pz_res M (ab_up M 797 25 (M 797 24)) (.inl (M 797 24)) := by
  obtain ⟨a, b, c, d, e⟩ := hl
  refine ⟨⟨fun o k x y => ab_up_o x k, fun k x1 x2 x3 x4 x5 x6 x7 => ab_up_k x6 _⟩, ⟨?_, ?_, ?_⟩, ?_, ?_⟩
  · rw [ab_up_k (by decide)]; exact d
  · rw [ab_up_k (by decide)]; exact e
  · rw [ab_up_s]; exact ⟨by omega, by omega⟩
  · exact ab_up_s
  · omega
theorem pz_stm_ok {M M3 N M' : ab_M} (hl : pz_LS M) (h : pz_RI M) (h1 : M 797 10 < 398) (h2 : M 797 27 < 130) (hm : pz_mayM M) (h3 : pz_P3 M M3 (pz_its M) (pz_v0 M)) (hc : pz_c105 M3 N (M 797 10) (pz_its M)) (hN : M' = if pz_its M = 6 ∨ pz_its M = 7 ∨ pz_its M = 8 then pz_ro N (if pz_its M = 6 then 0 else if pz_its M = 7 then 2 else 3) (M 797 10) else N) (hv : 0 ≤ N 806 (M 797 10).toNat ∧ N 806 (M 797 10).toNat ≤ 4) :
    pz_res M M' (pz_stm (pz_L M) (pz_E M) (pz_op M) (M 797 24) (pz_its M)) := by
  have hits := pz_srt_rng (c := pz_at (pz_L M) (M 797 24).toNat) hm.1
  have hits : 0 ≤ pz_its M ∧ pz_its M ≤ 8 := hits
  obtain ⟨e1, e2, e3⟩ := pz_c105_ok h ⟨hm.2.1, fun q => (hm.2.2 q).1⟩ (by omega) h3 hits hc hv
  have hpf : pz_pf M N := h3.1.tr hc.1.pf
  obtain ⟨f5, ⟨b1, b2, b3⟩, q1, q2, q3, q4, q5, q6, q7⟩ := hc
  obtain ⟨p0, ⟨p1, p2, p3, p4, p5⟩, ⟨p6, p7, p8⟩, p9, p10, ⟨p11, p12⟩, ⟨p13, p14⟩⟩ := h3
  have h9 : M3 797 9 = M 797 9 := p0.2 9 (by decide) (by decide) (by decide) (by decide) (by decide) (by decide) (by decide)
  rw [p0.L, p7, p3] at q6 q7
  have hlN : pz_LS N := hpf.LS hl b1 (by omega)
  have hLN := hpf.L
  unfold pz_stm
  rw [show (if pz_its M = 0 then pz_at (pz_L M) (M 797 24).toNat - 97 else 0) = pz_v0 M from rfl, ← q7]
  by_cases hz : N 797 25 = -9
  · rw [if_pos hz, ← q6]
    by_cases hcp : pz_its M = 6 ∨ pz_its M = 7 ∨ pz_its M = 8
    · rw [if_pos hcp] at hN ⊢
      rw [← e1]
      unfold pz_pop
      rw [← hLN]
      unfold pz_ro at hN
      rw [if_pos hz] at hN
      have hEl : ((((pz_E M).length : Nat)) : Int) = M 797 10 := by rw [pz_E_len]; have := h.1.1; omega
      by_cases h40 : pz_at (pz_L N) (N 797 24).toNat = 40
      · rw [if_pos h40] at hN ⊢
        have n10 : N 797 10 = M 797 10 + 1 := by rw [f5 797 10 (by omega) (by omega), p1]
        have n27 : N 797 27 = M 797 27 := by rw [f5 797 27 (by omega) (by omega), p5]
        obtain ⟨g1, g2, g3⟩ := pz_opn_ok (w := (if pz_its M = 6 then 0 else if pz_its M = 7 then 2 else 3)) (i := M 797 10) e3 (by omega) (by omega) ⟨by (repeat' split) <;> omega, by (repeat' split) <;> omega⟩ (by have := h.1.1; omega)
        have n24 : N 797 24 < N 797 9 := by
          rcases Int.lt_or_le (N 797 24) (N 797 9) with q | q
          · exact q
          · exfalso
            have h9 : pz_at (pz_L N) (N 797 24).toNat = -9 := by
              unfold pz_at
              rw [List.getD_eq_getElem?_getD, pz_ls_get, if_neg (by omega)]; rfl
            omega
        have n9 : N 797 9 = M 797 9 := hpf.2 9 (by decide) (by decide) (by decide) (by decide) (by decide) (by decide) (by decide)
        have o24 : M' 797 24 = N 797 24 + 1 := by rw [hN]; unfold pz_opn; simp [ab_up_a]
        have o25 : M' 797 25 = N 797 25 := by rw [hN]; unfold pz_opn; simp [ab_up_a]
        refine ⟨by rw [hN]; exact hpf.tr (pz_opn_pf N _ _), ⟨by omega, by omega, by rw [o25, hz]; exact ⟨by decide, by decide⟩⟩, ?_, ?_, o24, by rw [o25, hz], by rw [hN]; exact g3⟩
        · rw [hN, g1, hEl]
        · rw [hN, g2, e2]
      · rw [if_neg h40] at hN ⊢
        refine ⟨by rw [hN]; exact hpf.tr ⟨fun o k x y => ab_up_o x k, fun k x1 x2 x3 x4 x5 x6 x7 => ab_up_k x6 _⟩, ⟨?_, ?_, ?_⟩, ?_, by omega⟩
        · rw [hN, ab_up_k (by decide)]; exact b1
        · rw [hN, ab_up_k (by decide)]; omega
        · rw [hN, ab_up_s]; have := hl.2.1; exact ⟨by omega, by omega⟩
        · rw [hN, ab_up_s]
    · rw [if_neg hcp] at hN ⊢
      rw [hN]
      exact ⟨hpf, ⟨b1, by omega, b3⟩, e1, e2, rfl, hz, e3⟩
  · rw [if_neg hz]
    have hMN : M' = N := by
      rw [hN]
      split
      · unfold pz_ro
        rw [if_neg hz]
      · rfl
    rw [hMN]
    exact ⟨hpf, ⟨b1, by omega, b3⟩, rfl, hz⟩
theorem pz_nm_rng {ls : List Int} {a f : Int} : 0 ≤ (pz_nm ls a f).1 ∧ (pz_nm ls a f).1 ≤ 3 := by
  unfold pz_nm
  split
  · split
    · rename_i h
      unfold pz_name at h
      show 0 ≤ _ - (97 : Int) ∧ _ - (97 : Int) ≤ 3
      omega
    · exact ⟨Int.le_refl 0, by show (0 : Int) ≤ 3; decide⟩
  · exact ⟨Int.le_refl 0, by show (0 : Int) ≤ 3; decide⟩
theorem pz_n2_rng {ls : List Int} {its v0 a : Int} (h : 0 ≤ v0 ∧ v0 ≤ 3) : 0 ≤ (pz_n2 ls its v0 a).1 ∧ (pz_n2 ls its v0 a).1 ≤ 3 := by
  unfold pz_n2
  split
  · exact pz_nm_rng
  · show 0 ≤ (pz_n1 ls its v0 a).1 ∧ (pz_n1 ls its v0 a).1 ≤ 3
    unfold pz_n1
    split
    · exact pz_nm_rng
    · exact h
theorem pz_v0_rng {M : ab_M} : 0 ≤ pz_v0 M ∧ pz_v0 M ≤ 3 := by
  unfold pz_v0
  split
  · rename_i h
    unfold pz_its pz_srt at h
    repeat' split at h
    all_goals omega
  · exact ⟨Int.le_refl 0, by decide⟩
theorem pz_its_lt {M : ab_M} (hl : pz_LS M) (h : pz_its M ≠ -9) : M 797 24 < M 797 9 := by
  rcases Int.lt_or_le (M 797 24) (M 797 9) with q | q
  · exact q
  · exfalso
    have h9 : pz_at (pz_L M) (M 797 24).toNat = -9 := by
      unfold pz_at
      obtain ⟨a, b, c, d, e⟩ := hl
      rw [List.getD_eq_getElem?_getD, pz_ls_get, if_neg (by omega)]; rfl
    apply h
    unfold pz_its
    rw [h9]
    rfl
theorem pz_ro_27 (N : ab_M) (w i : Int) (h : 0 ≤ N 797 27 ∧ N 797 27 ≤ 130) : ab_ir (pz_ro N w i 797 27) := by
  unfold pz_ro
  split
  · split
    · have e : pz_opn N w i 797 27 = N 797 27 + 1 := by unfold pz_opn; simp [ab_up_a]
      rw [e]
      exact ⟨by omega, by omega⟩
    · rw [ab_up_k (by decide)]
      exact ⟨by omega, by omega⟩
  · exact ⟨by omega, by omega⟩

def S_X9_readStatement : ab_PT := fun a M K => match a with
  | [.inr (.inr (.inr (797, 9, 0)))] => (pz_LS M ∧ M 797 25 = -9 ∧ pz_RI M ∧ M 797 10 < 398 ∧ M 797 27 < 130) ∧ (∀ Mx : ab_M, (pz_SP M Mx ∧ ab_ir (Mx 797 27)) → K [] Mx)
  | _ => False
set_option maxRecDepth 20000 in
theorem vc_X9_readStatement_0  (M : ab_M) (K : List ab_V → ab_M → Prop) (hS : (pz_LS M ∧ M 797 25 = -9 ∧ pz_RI M ∧ M 797 10 < 398 ∧ M 797 27 < 130) ∧ (∀ Mx : ab_M, (pz_SP M Mx ∧ ab_ir (Mx 797 27)) → K [] Mx)) : ((0 ≤ M 797 9 ∧ M 797 9 ≤ 640 ∧ (∀ j, 0 ≤ M 803 j ∧ M 803 j < 256) ∧ 0 ≤ M 797 24 ∧ M 797 24 ≤ M 797 9)) ∧ (∀ r1 : Int, (r1 = if M 797 24 < M 797 9 then M 803 (M 797 24).toNat else -9) → (ab_ir r1) ∧ (∀ r4 : Int, (r4 = if r1 = 104 then 1 else if r1 = 107 then 2 else if r1 = 115 then 3 else if r1 = 116 then 4 else if r1 = 112 then 5 else if r1 = 105 then 6 else if r1 = 119 then 7 else if r1 = 121 then 8 else if 97 ≤ r1 ∧ r1 ≤ 100 then 0 else -9) → (-128 ≤ (-9 : Int) ∧ (-9 : Int) < 128) ∧ (ab_ir r4 ∧ ab_ir (-9 : Int)) ∧ ((r4 = (-9 : Int) → (((0 : Int) = 0 ∨ (0 : Int) = 1) ∧ ab_ir (M 797 25)) ∧ (∀ M56 : ab_M, (M56 = if M 797 25 = -9 ∧ (0 : Int) = 0 then ab_up M 797 25 (M 797 24) else M) → (-128 ≤ (-9 : Int) ∧ (-9 : Int) < 128) ∧ (ab_ir (M56 797 25) ∧ ab_ir (-9 : Int)) ∧ (((M56 797 25) = (-9 : Int) → (0 ≤ (M56 797 10) ∧ (M56 797 10) < ((400 : Nat) : Int)) ∧ (ab_ir r4) ∧ ((¬ r4 = 0 → (0 ≤ (M56 797 10) ∧ (M56 797 10) < ((400 : Nat) : Int)) ∧ (0 ≤ (M56 797 10) ∧ (M56 797 10) < ((400 : Nat) : Int)) ∧ (∃ n', ((n' = (3 - (0 : Int)).toNat ∧ pz_mayM M ∧ pz_its M = r4 ∧ (M56 797 10) = M 797 10 ∧ 0 ≤ (0 : Int) ∧ (0 : Int) ≤ pz_nck (pz_its M) ∧ (ab_up (ab_up (ab_up (ab_up (ab_up M56 797 10 ((M56 797 10) + (1 : Int))) 797 19 ((M56 797 19) + (1 : Int))) 805 ((M56 797 10).toNat) r4) 806 ((M56 797 10).toNat) (0 : Int)) 811 ((M56 797 10).toNat) (M56 797 20)) = pz_ck (pz_s0 M) (pz_its M) (0 : Int).toNat)))) ∧ (r4 = 0 → ((0 ≤ (ab_up (ab_up (ab_up M56 797 10 ((M56 797 10) + (1 : Int))) 797 19 ((M56 797 19) + (1 : Int))) 805 ((M56 797 10).toNat) r4) 797 9 ∧ (ab_up (ab_up (ab_up M56 797 10 ((M56 797 10) + (1 : Int))) 797 19 ((M56 797 19) + (1 : Int))) 805 ((M56 797 10).toNat) r4) 797 9 ≤ 640 ∧ (∀ j, 0 ≤ (ab_up (ab_up (ab_up M56 797 10 ((M56 797 10) + (1 : Int))) 797 19 ((M56 797 19) + (1 : Int))) 805 ((M56 797 10).toNat) r4) 803 j ∧ (ab_up (ab_up (ab_up M56 797 10 ((M56 797 10) + (1 : Int))) 797 19 ((M56 797 19) + (1 : Int))) 805 ((M56 797 10).toNat) r4) 803 j < 256) ∧ 0 ≤ (ab_up (ab_up (ab_up M56 797 10 ((M56 797 10) + (1 : Int))) 797 19 ((M56 797 19) + (1 : Int))) 805 ((M56 797 10).toNat) r4) 797 24 ∧ (ab_up (ab_up (ab_up M56 797 10 ((M56 797 10) + (1 : Int))) 797 19 ((M56 797 19) + (1 : Int))) 805 ((M56 797 10).toNat) r4) 797 24 ≤ (ab_up (ab_up (ab_up M56 797 10 ((M56 797 10) + (1 : Int))) 797 19 ((M56 797 19) + (1 : Int))) 805 ((M56 797 10).toNat) r4) 797 9)) ∧ (∀ r111 : Int, (r111 = if (ab_up (ab_up (ab_up M56 797 10 ((M56 797 10) + (1 : Int))) 797 19 ((M56 797 19) + (1 : Int))) 805 ((M56 797 10).toNat) r4) 797 24 < (ab_up (ab_up (ab_up M56 797 10 ((M56 797 10) + (1 : Int))) 797 19 ((M56 797 19) + (1 : Int))) 805 ((M56 797 10).toNat) r4) 797 9 then (ab_up (ab_up (ab_up M56 797 10 ((M56 797 10) + (1 : Int))) 797 19 ((M56 797 19) + (1 : Int))) 805 ((M56 797 10).toNat) r4) 803 ((ab_up (ab_up (ab_up M56 797 10 ((M56 797 10) + (1 : Int))) 797 19 ((M56 797 19) + (1 : Int))) 805 ((M56 797 10).toNat) r4) 797 24).toNat else -9) → (-128 ≤ (97 : Int) ∧ (97 : Int) < 128) ∧ (0 ≤ (M56 797 10) ∧ (M56 797 10) < ((400 : Nat) : Int)) ∧ (0 ≤ (M56 797 10) ∧ (M56 797 10) < ((400 : Nat) : Int)) ∧ (∃ n', ((n' = (3 - (0 : Int)).toNat ∧ pz_mayM M ∧ pz_its M = r4 ∧ (M56 797 10) = M 797 10 ∧ 0 ≤ (0 : Int) ∧ (0 : Int) ≤ pz_nck (pz_its M) ∧ (ab_up (ab_up (ab_up (ab_up (ab_up M56 797 10 ((M56 797 10) + (1 : Int))) 797 19 ((M56 797 19) + (1 : Int))) 805 ((M56 797 10).toNat) r4) 806 ((M56 797 10).toNat) (r111 - (97 : Int))) 811 ((M56 797 10).toNat) (M56 797 20)) = pz_ck (pz_s0 M) (pz_its M) (0 : Int).toNat))))))) ∧ (¬ (M56 797 25) = (-9 : Int) → K [] M56)))) ∧ (¬ r4 = (-9 : Int) → (ab_ir r4) ∧ (∀ r20 : Int, (r20 = if r4 = 2 ∨ r4 = 5 then 1 else if r4 = 7 then 2 else 0) → (-128 ≤ (16 : Int) ∧ (16 : Int) < 128) ∧ (ab_ir ((M 797 20) + r20) ∧ ab_ir (16 : Int)) ∧ (((16 : Int) < ((M 797 20) + r20) → (((0 : Int) = 0 ∨ (0 : Int) = 1) ∧ ab_ir (M 797 25)) ∧ (∀ M56 : ab_M, (M56 = if M 797 25 = -9 ∧ (0 : Int) = 0 then ab_up M 797 25 (M 797 24) else M) → (-128 ≤ (-9 : Int) ∧ (-9 : Int) < 128) ∧ (ab_ir (M56 797 25) ∧ ab_ir (-9 : Int)) ∧ (((M56 797 25) = (-9 : Int) → (0 ≤ (M56 797 10) ∧ (M56 797 10) < ((400 : Nat) : Int)) ∧ (ab_ir r4) ∧ ((¬ r4 = 0 → (0 ≤ (M56 797 10) ∧ (M56 797 10) < ((400 : Nat) : Int)) ∧ (0 ≤ (M56 797 10) ∧ (M56 797 10) < ((400 : Nat) : Int)) ∧ (∃ n', ((n' = (3 - (0 : Int)).toNat ∧ pz_mayM M ∧ pz_its M = r4 ∧ (M56 797 10) = M 797 10 ∧ 0 ≤ (0 : Int) ∧ (0 : Int) ≤ pz_nck (pz_its M) ∧ (ab_up (ab_up (ab_up (ab_up (ab_up M56 797 10 ((M56 797 10) + (1 : Int))) 797 19 ((M56 797 19) + (1 : Int))) 805 ((M56 797 10).toNat) r4) 806 ((M56 797 10).toNat) (0 : Int)) 811 ((M56 797 10).toNat) (M56 797 20)) = pz_ck (pz_s0 M) (pz_its M) (0 : Int).toNat)))) ∧ (r4 = 0 → ((0 ≤ (ab_up (ab_up (ab_up M56 797 10 ((M56 797 10) + (1 : Int))) 797 19 ((M56 797 19) + (1 : Int))) 805 ((M56 797 10).toNat) r4) 797 9 ∧ (ab_up (ab_up (ab_up M56 797 10 ((M56 797 10) + (1 : Int))) 797 19 ((M56 797 19) + (1 : Int))) 805 ((M56 797 10).toNat) r4) 797 9 ≤ 640 ∧ (∀ j, 0 ≤ (ab_up (ab_up (ab_up M56 797 10 ((M56 797 10) + (1 : Int))) 797 19 ((M56 797 19) + (1 : Int))) 805 ((M56 797 10).toNat) r4) 803 j ∧ (ab_up (ab_up (ab_up M56 797 10 ((M56 797 10) + (1 : Int))) 797 19 ((M56 797 19) + (1 : Int))) 805 ((M56 797 10).toNat) r4) 803 j < 256) ∧ 0 ≤ (ab_up (ab_up (ab_up M56 797 10 ((M56 797 10) + (1 : Int))) 797 19 ((M56 797 19) + (1 : Int))) 805 ((M56 797 10).toNat) r4) 797 24 ∧ (ab_up (ab_up (ab_up M56 797 10 ((M56 797 10) + (1 : Int))) 797 19 ((M56 797 19) + (1 : Int))) 805 ((M56 797 10).toNat) r4) 797 24 ≤ (ab_up (ab_up (ab_up M56 797 10 ((M56 797 10) + (1 : Int))) 797 19 ((M56 797 19) + (1 : Int))) 805 ((M56 797 10).toNat) r4) 797 9)) ∧ (∀ r111 : Int, (r111 = if (ab_up (ab_up (ab_up M56 797 10 ((M56 797 10) + (1 : Int))) 797 19 ((M56 797 19) + (1 : Int))) 805 ((M56 797 10).toNat) r4) 797 24 < (ab_up (ab_up (ab_up M56 797 10 ((M56 797 10) + (1 : Int))) 797 19 ((M56 797 19) + (1 : Int))) 805 ((M56 797 10).toNat) r4) 797 9 then (ab_up (ab_up (ab_up M56 797 10 ((M56 797 10) + (1 : Int))) 797 19 ((M56 797 19) + (1 : Int))) 805 ((M56 797 10).toNat) r4) 803 ((ab_up (ab_up (ab_up M56 797 10 ((M56 797 10) + (1 : Int))) 797 19 ((M56 797 19) + (1 : Int))) 805 ((M56 797 10).toNat) r4) 797 24).toNat else -9) → (-128 ≤ (97 : Int) ∧ (97 : Int) < 128) ∧ (0 ≤ (M56 797 10) ∧ (M56 797 10) < ((400 : Nat) : Int)) ∧ (0 ≤ (M56 797 10) ∧ (M56 797 10) < ((400 : Nat) : Int)) ∧ (∃ n', ((n' = (3 - (0 : Int)).toNat ∧ pz_mayM M ∧ pz_its M = r4 ∧ (M56 797 10) = M 797 10 ∧ 0 ≤ (0 : Int) ∧ (0 : Int) ≤ pz_nck (pz_its M) ∧ (ab_up (ab_up (ab_up (ab_up (ab_up M56 797 10 ((M56 797 10) + (1 : Int))) 797 19 ((M56 797 19) + (1 : Int))) 805 ((M56 797 10).toNat) r4) 806 ((M56 797 10).toNat) (r111 - (97 : Int))) 811 ((M56 797 10).toNat) (M56 797 20)) = pz_ck (pz_s0 M) (pz_its M) (0 : Int).toNat))))))) ∧ (¬ (M56 797 25) = (-9 : Int) → K [] M56)))) ∧ (((M 797 20) + r20) ≤ (16 : Int) → (-128 ≤ (7 : Int) ∧ (7 : Int) < 128) ∧ (ab_ir r4 ∧ ab_ir (7 : Int)) ∧ ((¬ r4 = (7 : Int) → (((1 : Int) = 0 ∨ (1 : Int) = 1) ∧ ab_ir (M 797 25)) ∧ (∀ M56 : ab_M, (M56 = if M 797 25 = -9 ∧ (1 : Int) = 0 then ab_up M 797 25 (M 797 24) else M) → (-128 ≤ (-9 : Int) ∧ (-9 : Int) < 128) ∧ (ab_ir (M56 797 25) ∧ ab_ir (-9 : Int)) ∧ (((M56 797 25) = (-9 : Int) → (0 ≤ (M56 797 10) ∧ (M56 797 10) < ((400 : Nat) : Int)) ∧ (ab_ir r4) ∧ ((¬ r4 = 0 → (0 ≤ (M56 797 10) ∧ (M56 797 10) < ((400 : Nat) : Int)) ∧ (0 ≤ (M56 797 10) ∧ (M56 797 10) < ((400 : Nat) : Int)) ∧ (∃ n', ((n' = (3 - (0 : Int)).toNat ∧ pz_mayM M ∧ pz_its M = r4 ∧ (M56 797 10) = M 797 10 ∧ 0 ≤ (0 : Int) ∧ (0 : Int) ≤ pz_nck (pz_its M) ∧ (ab_up (ab_up (ab_up (ab_up (ab_up M56 797 10 ((M56 797 10) + (1 : Int))) 797 19 ((M56 797 19) + (1 : Int))) 805 ((M56 797 10).toNat) r4) 806 ((M56 797 10).toNat) (0 : Int)) 811 ((M56 797 10).toNat) (M56 797 20)) = pz_ck (pz_s0 M) (pz_its M) (0 : Int).toNat)))) ∧ (r4 = 0 → ((0 ≤ (ab_up (ab_up (ab_up M56 797 10 ((M56 797 10) + (1 : Int))) 797 19 ((M56 797 19) + (1 : Int))) 805 ((M56 797 10).toNat) r4) 797 9 ∧ (ab_up (ab_up (ab_up M56 797 10 ((M56 797 10) + (1 : Int))) 797 19 ((M56 797 19) + (1 : Int))) 805 ((M56 797 10).toNat) r4) 797 9 ≤ 640 ∧ (∀ j, 0 ≤ (ab_up (ab_up (ab_up M56 797 10 ((M56 797 10) + (1 : Int))) 797 19 ((M56 797 19) + (1 : Int))) 805 ((M56 797 10).toNat) r4) 803 j ∧ (ab_up (ab_up (ab_up M56 797 10 ((M56 797 10) + (1 : Int))) 797 19 ((M56 797 19) + (1 : Int))) 805 ((M56 797 10).toNat) r4) 803 j < 256) ∧ 0 ≤ (ab_up (ab_up (ab_up M56 797 10 ((M56 797 10) + (1 : Int))) 797 19 ((M56 797 19) + (1 : Int))) 805 ((M56 797 10).toNat) r4) 797 24 ∧ (ab_up (ab_up (ab_up M56 797 10 ((M56 797 10) + (1 : Int))) 797 19 ((M56 797 19) + (1 : Int))) 805 ((M56 797 10).toNat) r4) 797 24 ≤ (ab_up (ab_up (ab_up M56 797 10 ((M56 797 10) + (1 : Int))) 797 19 ((M56 797 19) + (1 : Int))) 805 ((M56 797 10).toNat) r4) 797 9)) ∧ (∀ r111 : Int, (r111 = if (ab_up (ab_up (ab_up M56 797 10 ((M56 797 10) + (1 : Int))) 797 19 ((M56 797 19) + (1 : Int))) 805 ((M56 797 10).toNat) r4) 797 24 < (ab_up (ab_up (ab_up M56 797 10 ((M56 797 10) + (1 : Int))) 797 19 ((M56 797 19) + (1 : Int))) 805 ((M56 797 10).toNat) r4) 797 9 then (ab_up (ab_up (ab_up M56 797 10 ((M56 797 10) + (1 : Int))) 797 19 ((M56 797 19) + (1 : Int))) 805 ((M56 797 10).toNat) r4) 803 ((ab_up (ab_up (ab_up M56 797 10 ((M56 797 10) + (1 : Int))) 797 19 ((M56 797 19) + (1 : Int))) 805 ((M56 797 10).toNat) r4) 797 24).toNat else -9) → (-128 ≤ (97 : Int) ∧ (97 : Int) < 128) ∧ (0 ≤ (M56 797 10) ∧ (M56 797 10) < ((400 : Nat) : Int)) ∧ (0 ≤ (M56 797 10) ∧ (M56 797 10) < ((400 : Nat) : Int)) ∧ (∃ n', ((n' = (3 - (0 : Int)).toNat ∧ pz_mayM M ∧ pz_its M = r4 ∧ (M56 797 10) = M 797 10 ∧ 0 ≤ (0 : Int) ∧ (0 : Int) ≤ pz_nck (pz_its M) ∧ (ab_up (ab_up (ab_up (ab_up (ab_up M56 797 10 ((M56 797 10) + (1 : Int))) 797 19 ((M56 797 19) + (1 : Int))) 805 ((M56 797 10).toNat) r4) 806 ((M56 797 10).toNat) (r111 - (97 : Int))) 811 ((M56 797 10).toNat) (M56 797 20)) = pz_ck (pz_s0 M) (pz_its M) (0 : Int).toNat))))))) ∧ (¬ (M56 797 25) = (-9 : Int) → K [] M56)))) ∧ (r4 = (7 : Int) → (ab_ir (M 797 21) ∧ ab_ir (4 : Int)) ∧ (((4 : Int) ≤ (M 797 21) → (((0 : Int) = 0 ∨ (0 : Int) = 1) ∧ ab_ir (M 797 25)) ∧ (∀ M56 : ab_M, (M56 = if M 797 25 = -9 ∧ (0 : Int) = 0 then ab_up M 797 25 (M 797 24) else M) → (-128 ≤ (-9 : Int) ∧ (-9 : Int) < 128) ∧ (ab_ir (M56 797 25) ∧ ab_ir (-9 : Int)) ∧ (((M56 797 25) = (-9 : Int) → (0 ≤ (M56 797 10) ∧ (M56 797 10) < ((400 : Nat) : Int)) ∧ (ab_ir r4) ∧ ((¬ r4 = 0 → (0 ≤ (M56 797 10) ∧ (M56 797 10) < ((400 : Nat) : Int)) ∧ (0 ≤ (M56 797 10) ∧ (M56 797 10) < ((400 : Nat) : Int)) ∧ (∃ n', ((n' = (3 - (0 : Int)).toNat ∧ pz_mayM M ∧ pz_its M = r4 ∧ (M56 797 10) = M 797 10 ∧ 0 ≤ (0 : Int) ∧ (0 : Int) ≤ pz_nck (pz_its M) ∧ (ab_up (ab_up (ab_up (ab_up (ab_up M56 797 10 ((M56 797 10) + (1 : Int))) 797 19 ((M56 797 19) + (1 : Int))) 805 ((M56 797 10).toNat) r4) 806 ((M56 797 10).toNat) (0 : Int)) 811 ((M56 797 10).toNat) (M56 797 20)) = pz_ck (pz_s0 M) (pz_its M) (0 : Int).toNat)))) ∧ (r4 = 0 → ((0 ≤ (ab_up (ab_up (ab_up M56 797 10 ((M56 797 10) + (1 : Int))) 797 19 ((M56 797 19) + (1 : Int))) 805 ((M56 797 10).toNat) r4) 797 9 ∧ (ab_up (ab_up (ab_up M56 797 10 ((M56 797 10) + (1 : Int))) 797 19 ((M56 797 19) + (1 : Int))) 805 ((M56 797 10).toNat) r4) 797 9 ≤ 640 ∧ (∀ j, 0 ≤ (ab_up (ab_up (ab_up M56 797 10 ((M56 797 10) + (1 : Int))) 797 19 ((M56 797 19) + (1 : Int))) 805 ((M56 797 10).toNat) r4) 803 j ∧ (ab_up (ab_up (ab_up M56 797 10 ((M56 797 10) + (1 : Int))) 797 19 ((M56 797 19) + (1 : Int))) 805 ((M56 797 10).toNat) r4) 803 j < 256) ∧ 0 ≤ (ab_up (ab_up (ab_up M56 797 10 ((M56 797 10) + (1 : Int))) 797 19 ((M56 797 19) + (1 : Int))) 805 ((M56 797 10).toNat) r4) 797 24 ∧ (ab_up (ab_up (ab_up M56 797 10 ((M56 797 10) + (1 : Int))) 797 19 ((M56 797 19) + (1 : Int))) 805 ((M56 797 10).toNat) r4) 797 24 ≤ (ab_up (ab_up (ab_up M56 797 10 ((M56 797 10) + (1 : Int))) 797 19 ((M56 797 19) + (1 : Int))) 805 ((M56 797 10).toNat) r4) 797 9)) ∧ (∀ r111 : Int, (r111 = if (ab_up (ab_up (ab_up M56 797 10 ((M56 797 10) + (1 : Int))) 797 19 ((M56 797 19) + (1 : Int))) 805 ((M56 797 10).toNat) r4) 797 24 < (ab_up (ab_up (ab_up M56 797 10 ((M56 797 10) + (1 : Int))) 797 19 ((M56 797 19) + (1 : Int))) 805 ((M56 797 10).toNat) r4) 797 9 then (ab_up (ab_up (ab_up M56 797 10 ((M56 797 10) + (1 : Int))) 797 19 ((M56 797 19) + (1 : Int))) 805 ((M56 797 10).toNat) r4) 803 ((ab_up (ab_up (ab_up M56 797 10 ((M56 797 10) + (1 : Int))) 797 19 ((M56 797 19) + (1 : Int))) 805 ((M56 797 10).toNat) r4) 797 24).toNat else -9) → (-128 ≤ (97 : Int) ∧ (97 : Int) < 128) ∧ (0 ≤ (M56 797 10) ∧ (M56 797 10) < ((400 : Nat) : Int)) ∧ (0 ≤ (M56 797 10) ∧ (M56 797 10) < ((400 : Nat) : Int)) ∧ (∃ n', ((n' = (3 - (0 : Int)).toNat ∧ pz_mayM M ∧ pz_its M = r4 ∧ (M56 797 10) = M 797 10 ∧ 0 ≤ (0 : Int) ∧ (0 : Int) ≤ pz_nck (pz_its M) ∧ (ab_up (ab_up (ab_up (ab_up (ab_up M56 797 10 ((M56 797 10) + (1 : Int))) 797 19 ((M56 797 19) + (1 : Int))) 805 ((M56 797 10).toNat) r4) 806 ((M56 797 10).toNat) (r111 - (97 : Int))) 811 ((M56 797 10).toNat) (M56 797 20)) = pz_ck (pz_s0 M) (pz_its M) (0 : Int).toNat))))))) ∧ (¬ (M56 797 25) = (-9 : Int) → K [] M56)))) ∧ ((M 797 21) < (4 : Int) → (0 ≤ M 797 27 ∧ M 797 27 ≤ 130 ∧ ∀ k : Nat, (k : Int) < M 797 27 → 0 ≤ M 815 k ∧ M 815 k < 400 ∧ ab_ir (M 806 (M 815 k).toNat)) ∧ (∀ r44 : Int, (r44 = pz_lar M (M 797 27).toNat) → (ab_ir r44 ∧ ab_ir (2 : Int)) ∧ (((2 : Int) ≤ r44 → (((0 : Int) = 0 ∨ (0 : Int) = 1) ∧ ab_ir (M 797 25)) ∧ (∀ M56 : ab_M, (M56 = if M 797 25 = -9 ∧ (0 : Int) = 0 then ab_up M 797 25 (M 797 24) else M) → (-128 ≤ (-9 : Int) ∧ (-9 : Int) < 128) ∧ (ab_ir (M56 797 25) ∧ ab_ir (-9 : Int)) ∧ (((M56 797 25) = (-9 : Int) → (0 ≤ (M56 797 10) ∧ (M56 797 10) < ((400 : Nat) : Int)) ∧ (ab_ir r4) ∧ ((¬ r4 = 0 → (0 ≤ (M56 797 10) ∧ (M56 797 10) < ((400 : Nat) : Int)) ∧ (0 ≤ (M56 797 10) ∧ (M56 797 10) < ((400 : Nat) : Int)) ∧ (∃ n', ((n' = (3 - (0 : Int)).toNat ∧ pz_mayM M ∧ pz_its M = r4 ∧ (M56 797 10) = M 797 10 ∧ 0 ≤ (0 : Int) ∧ (0 : Int) ≤ pz_nck (pz_its M) ∧ (ab_up (ab_up (ab_up (ab_up (ab_up M56 797 10 ((M56 797 10) + (1 : Int))) 797 19 ((M56 797 19) + (1 : Int))) 805 ((M56 797 10).toNat) r4) 806 ((M56 797 10).toNat) (0 : Int)) 811 ((M56 797 10).toNat) (M56 797 20)) = pz_ck (pz_s0 M) (pz_its M) (0 : Int).toNat)))) ∧ (r4 = 0 → ((0 ≤ (ab_up (ab_up (ab_up M56 797 10 ((M56 797 10) + (1 : Int))) 797 19 ((M56 797 19) + (1 : Int))) 805 ((M56 797 10).toNat) r4) 797 9 ∧ (ab_up (ab_up (ab_up M56 797 10 ((M56 797 10) + (1 : Int))) 797 19 ((M56 797 19) + (1 : Int))) 805 ((M56 797 10).toNat) r4) 797 9 ≤ 640 ∧ (∀ j, 0 ≤ (ab_up (ab_up (ab_up M56 797 10 ((M56 797 10) + (1 : Int))) 797 19 ((M56 797 19) + (1 : Int))) 805 ((M56 797 10).toNat) r4) 803 j ∧ (ab_up (ab_up (ab_up M56 797 10 ((M56 797 10) + (1 : Int))) 797 19 ((M56 797 19) + (1 : Int))) 805 ((M56 797 10).toNat) r4) 803 j < 256) ∧ 0 ≤ (ab_up (ab_up (ab_up M56 797 10 ((M56 797 10) + (1 : Int))) 797 19 ((M56 797 19) + (1 : Int))) 805 ((M56 797 10).toNat) r4) 797 24 ∧ (ab_up (ab_up (ab_up M56 797 10 ((M56 797 10) + (1 : Int))) 797 19 ((M56 797 19) + (1 : Int))) 805 ((M56 797 10).toNat) r4) 797 24 ≤ (ab_up (ab_up (ab_up M56 797 10 ((M56 797 10) + (1 : Int))) 797 19 ((M56 797 19) + (1 : Int))) 805 ((M56 797 10).toNat) r4) 797 9)) ∧ (∀ r111 : Int, (r111 = if (ab_up (ab_up (ab_up M56 797 10 ((M56 797 10) + (1 : Int))) 797 19 ((M56 797 19) + (1 : Int))) 805 ((M56 797 10).toNat) r4) 797 24 < (ab_up (ab_up (ab_up M56 797 10 ((M56 797 10) + (1 : Int))) 797 19 ((M56 797 19) + (1 : Int))) 805 ((M56 797 10).toNat) r4) 797 9 then (ab_up (ab_up (ab_up M56 797 10 ((M56 797 10) + (1 : Int))) 797 19 ((M56 797 19) + (1 : Int))) 805 ((M56 797 10).toNat) r4) 803 ((ab_up (ab_up (ab_up M56 797 10 ((M56 797 10) + (1 : Int))) 797 19 ((M56 797 19) + (1 : Int))) 805 ((M56 797 10).toNat) r4) 797 24).toNat else -9) → (-128 ≤ (97 : Int) ∧ (97 : Int) < 128) ∧ (0 ≤ (M56 797 10) ∧ (M56 797 10) < ((400 : Nat) : Int)) ∧ (0 ≤ (M56 797 10) ∧ (M56 797 10) < ((400 : Nat) : Int)) ∧ (∃ n', ((n' = (3 - (0 : Int)).toNat ∧ pz_mayM M ∧ pz_its M = r4 ∧ (M56 797 10) = M 797 10 ∧ 0 ≤ (0 : Int) ∧ (0 : Int) ≤ pz_nck (pz_its M) ∧ (ab_up (ab_up (ab_up (ab_up (ab_up M56 797 10 ((M56 797 10) + (1 : Int))) 797 19 ((M56 797 19) + (1 : Int))) 805 ((M56 797 10).toNat) r4) 806 ((M56 797 10).toNat) (r111 - (97 : Int))) 811 ((M56 797 10).toNat) (M56 797 20)) = pz_ck (pz_s0 M) (pz_its M) (0 : Int).toNat))))))) ∧ (¬ (M56 797 25) = (-9 : Int) → K [] M56)))) ∧ (r44 < (2 : Int) → (((1 : Int) = 0 ∨ (1 : Int) = 1) ∧ ab_ir (M 797 25)) ∧ (∀ M56 : ab_M, (M56 = if M 797 25 = -9 ∧ (1 : Int) = 0 then ab_up M 797 25 (M 797 24) else M) → (-128 ≤ (-9 : Int) ∧ (-9 : Int) < 128) ∧ (ab_ir (M56 797 25) ∧ ab_ir (-9 : Int)) ∧ (((M56 797 25) = (-9 : Int) → (0 ≤ (M56 797 10) ∧ (M56 797 10) < ((400 : Nat) : Int)) ∧ (ab_ir r4) ∧ ((¬ r4 = 0 → (0 ≤ (M56 797 10) ∧ (M56 797 10) < ((400 : Nat) : Int)) ∧ (0 ≤ (M56 797 10) ∧ (M56 797 10) < ((400 : Nat) : Int)) ∧ (∃ n', ((n' = (3 - (0 : Int)).toNat ∧ pz_mayM M ∧ pz_its M = r4 ∧ (M56 797 10) = M 797 10 ∧ 0 ≤ (0 : Int) ∧ (0 : Int) ≤ pz_nck (pz_its M) ∧ (ab_up (ab_up (ab_up (ab_up (ab_up M56 797 10 ((M56 797 10) + (1 : Int))) 797 19 ((M56 797 19) + (1 : Int))) 805 ((M56 797 10).toNat) r4) 806 ((M56 797 10).toNat) (0 : Int)) 811 ((M56 797 10).toNat) (M56 797 20)) = pz_ck (pz_s0 M) (pz_its M) (0 : Int).toNat)))) ∧ (r4 = 0 → ((0 ≤ (ab_up (ab_up (ab_up M56 797 10 ((M56 797 10) + (1 : Int))) 797 19 ((M56 797 19) + (1 : Int))) 805 ((M56 797 10).toNat) r4) 797 9 ∧ (ab_up (ab_up (ab_up M56 797 10 ((M56 797 10) + (1 : Int))) 797 19 ((M56 797 19) + (1 : Int))) 805 ((M56 797 10).toNat) r4) 797 9 ≤ 640 ∧ (∀ j, 0 ≤ (ab_up (ab_up (ab_up M56 797 10 ((M56 797 10) + (1 : Int))) 797 19 ((M56 797 19) + (1 : Int))) 805 ((M56 797 10).toNat) r4) 803 j ∧ (ab_up (ab_up (ab_up M56 797 10 ((M56 797 10) + (1 : Int))) 797 19 ((M56 797 19) + (1 : Int))) 805 ((M56 797 10).toNat) r4) 803 j < 256) ∧ 0 ≤ (ab_up (ab_up (ab_up M56 797 10 ((M56 797 10) + (1 : Int))) 797 19 ((M56 797 19) + (1 : Int))) 805 ((M56 797 10).toNat) r4) 797 24 ∧ (ab_up (ab_up (ab_up M56 797 10 ((M56 797 10) + (1 : Int))) 797 19 ((M56 797 19) + (1 : Int))) 805 ((M56 797 10).toNat) r4) 797 24 ≤ (ab_up (ab_up (ab_up M56 797 10 ((M56 797 10) + (1 : Int))) 797 19 ((M56 797 19) + (1 : Int))) 805 ((M56 797 10).toNat) r4) 797 9)) ∧ (∀ r111 : Int, (r111 = if (ab_up (ab_up (ab_up M56 797 10 ((M56 797 10) + (1 : Int))) 797 19 ((M56 797 19) + (1 : Int))) 805 ((M56 797 10).toNat) r4) 797 24 < (ab_up (ab_up (ab_up M56 797 10 ((M56 797 10) + (1 : Int))) 797 19 ((M56 797 19) + (1 : Int))) 805 ((M56 797 10).toNat) r4) 797 9 then (ab_up (ab_up (ab_up M56 797 10 ((M56 797 10) + (1 : Int))) 797 19 ((M56 797 19) + (1 : Int))) 805 ((M56 797 10).toNat) r4) 803 ((ab_up (ab_up (ab_up M56 797 10 ((M56 797 10) + (1 : Int))) 797 19 ((M56 797 19) + (1 : Int))) 805 ((M56 797 10).toNat) r4) 797 24).toNat else -9) → (-128 ≤ (97 : Int) ∧ (97 : Int) < 128) ∧ (0 ≤ (M56 797 10) ∧ (M56 797 10) < ((400 : Nat) : Int)) ∧ (0 ≤ (M56 797 10) ∧ (M56 797 10) < ((400 : Nat) : Int)) ∧ (∃ n', ((n' = (3 - (0 : Int)).toNat ∧ pz_mayM M ∧ pz_its M = r4 ∧ (M56 797 10) = M 797 10 ∧ 0 ≤ (0 : Int) ∧ (0 : Int) ≤ pz_nck (pz_its M) ∧ (ab_up (ab_up (ab_up (ab_up (ab_up M56 797 10 ((M56 797 10) + (1 : Int))) 797 19 ((M56 797 19) + (1 : Int))) 805 ((M56 797 10).toNat) r4) 806 ((M56 797 10).toNat) (r111 - (97 : Int))) 811 ((M56 797 10).toNat) (M56 797 20)) = pz_ck (pz_s0 M) (pz_its M) (0 : Int).toNat))))))) ∧ (¬ (M56 797 25) = (-9 : Int) → K [] M56))))))))))))))))) := by
  obtain ⟨⟨g1, g2, g3, g4, g5⟩, gK⟩ := hS
  obtain ⟨⟨a1, a2, a3, a4⟩, gb, ⟨gc1, gc2, gc3⟩, ⟨gd1, gd2, gd3⟩, gf, gg⟩ := id g3
  refine And.intro (by
    exact g1) ?_
  intro r1 hr1
  have hcc := pz_here g1 hr1
  have hcr : ab_ir r1 := by
    rw [hr1]
    split
    · have := g1.2.2.1 (M 797 24).toNat
      omega
    · exact ⟨by decide, by decide⟩
  refine And.intro (by
    first
      | omega
      | (have e56 : M56 = M := by rw [hM56, if_neg (by omega)]
         rw [e56]
         first
           | omega
           | exact ⟨by omega, by omega⟩)) ?_
  intro r4 hr4
  have h4 : r4 = pz_its M := by
    unfold pz_its
    rw [← hcc]
    exact hr4
  have h4r : ab_ir r4 := by
    rw [hr4]
    repeat' split
    all_goals exact ⟨by decide, by decide⟩
  have hla := pz_lar_la g3
  have hlb := pz_lar_bd M (M 797 27).toNat
  refine And.intro (by
    first
      | omega
      | (have e56 : M56 = M := by rw [hM56, if_neg (by omega)]
         rw [e56]
         first
           | omega
           | exact ⟨by omega, by omega⟩)) ?_
  refine And.intro (by
    first
      | omega
      | (have e56 : M56 = M := by rw [hM56, if_neg (by omega)]
         rw [e56]
         first
           | omega
           | exact ⟨by omega, by omega⟩)) ?_
  refine ⟨?_, ?_⟩
  · intro c12
    refine And.intro (by
      first
        | omega
        | (have e56 : M56 = M := by rw [hM56, if_neg (by omega)]
           rw [e56]
           first
             | omega
             | exact ⟨by omega, by omega⟩)) ?_
    intro M56 hM56
    refine And.intro (by
      first
        | omega
        | (have e56 : M56 = M := by rw [hM56, if_neg (by omega)]
           rw [e56]
           first
             | omega
             | exact ⟨by omega, by omega⟩)) ?_
    refine And.intro (by
      rw [hM56]
      split
      · rw [ab_up_s]
        have := g1.2.2.2
        have := g1.2.1
        exact ⟨⟨by omega, by omega⟩, by decide, by decide⟩
      · rw [g2]
        exact ⟨⟨by decide, by decide⟩, by decide, by decide⟩) ?_
    refine ⟨?_, ?_⟩
    · intro c65
      exfalso
      rw [hM56, if_pos ⟨g2, rfl⟩, ab_up_s] at c65
      have := g1.2.2.2.1
      omega
    · intro c65
      have e56 : M56 = ab_up M 797 25 (M 797 24) := by rw [hM56, if_pos ⟨g2, rfl⟩]
      have hno : ¬ pz_mayM M := by
        rintro ⟨y1, y2, y3⟩
        first
          | omega
          | (have y4 := y3 (by omega); omega)
      rw [e56]
      exact gK _ ⟨⟨fun q => absurd q hno, fun _ => pz_mayno g1⟩, by rw [ab_up_k (by decide)]; exact ⟨by omega, by omega⟩⟩
  · intro c12
    refine And.intro (by
      first
        | omega
        | (have e56 : M56 = M := by rw [hM56, if_neg (by omega)]
           rw [e56]
           first
             | omega
             | exact ⟨by omega, by omega⟩)) ?_
    intro r20 hr20
    have h20 : r20 = pz_nck (pz_its M) := by rw [← h4]; exact hr20
    have h20r := pz_nck_rng (pz_its M)
    refine And.intro (by
      first
        | omega
        | (have e56 : M56 = M := by rw [hM56, if_neg (by omega)]
           rw [e56]
           first
             | omega
             | exact ⟨by omega, by omega⟩)) ?_
    refine And.intro (by
      first
        | omega
        | (have e56 : M56 = M := by rw [hM56, if_neg (by omega)]
           rw [e56]
           first
             | omega
             | exact ⟨by omega, by omega⟩)) ?_
    refine ⟨?_, ?_⟩
    · intro c26
      refine And.intro (by
        first
          | omega
          | (have e56 : M56 = M := by rw [hM56, if_neg (by omega)]
             rw [e56]
             first
               | omega
               | exact ⟨by omega, by omega⟩)) ?_
      intro M56 hM56
      refine And.intro (by
        first
          | omega
          | (have e56 : M56 = M := by rw [hM56, if_neg (by omega)]
             rw [e56]
             first
               | omega
               | exact ⟨by omega, by omega⟩)) ?_
      refine And.intro (by
        rw [hM56]
        split
        · rw [ab_up_s]
          have := g1.2.2.2
          have := g1.2.1
          exact ⟨⟨by omega, by omega⟩, by decide, by decide⟩
        · rw [g2]
          exact ⟨⟨by decide, by decide⟩, by decide, by decide⟩) ?_
      refine ⟨?_, ?_⟩
      · intro c65
        exfalso
        rw [hM56, if_pos ⟨g2, rfl⟩, ab_up_s] at c65
        have := g1.2.2.2.1
        omega
      · intro c65
        have e56 : M56 = ab_up M 797 25 (M 797 24) := by rw [hM56, if_pos ⟨g2, rfl⟩]
        have hno : ¬ pz_mayM M := by
          rintro ⟨y1, y2, y3⟩
          first
            | omega
            | (have y4 := y3 (by omega); omega)
        rw [e56]
        exact gK _ ⟨⟨fun q => absurd q hno, fun _ => pz_mayno g1⟩, by rw [ab_up_k (by decide)]; exact ⟨by omega, by omega⟩⟩
    · intro c26
      refine And.intro (by
        first
          | omega
          | (have e56 : M56 = M := by rw [hM56, if_neg (by omega)]
             rw [e56]
             first
               | omega
               | exact ⟨by omega, by omega⟩)) ?_
      refine And.intro (by
        first
          | omega
          | (have e56 : M56 = M := by rw [hM56, if_neg (by omega)]
             rw [e56]
             first
               | omega
               | exact ⟨by omega, by omega⟩)) ?_
      refine ⟨?_, ?_⟩
      · intro c32
        refine And.intro (by
          first
            | omega
            | (have e56 : M56 = M := by rw [hM56, if_neg (by omega)]
               rw [e56]
               first
                 | omega
                 | exact ⟨by omega, by omega⟩)) ?_
        intro M56 hM56
        refine And.intro (by
          first
            | omega
            | (have e56 : M56 = M := by rw [hM56, if_neg (by omega)]
               rw [e56]
               first
                 | omega
                 | exact ⟨by omega, by omega⟩)) ?_
        refine And.intro (by
          rw [hM56]
          split
          · rw [ab_up_s]
            have := g1.2.2.2
            have := g1.2.1
            exact ⟨⟨by omega, by omega⟩, by decide, by decide⟩
          · rw [g2]
            exact ⟨⟨by decide, by decide⟩, by decide, by decide⟩) ?_
        refine ⟨?_, ?_⟩
        · intro c65
          refine And.intro (by
            first
              | omega
              | (have e56 : M56 = M := by rw [hM56, if_neg (by omega)]
                 rw [e56]
                 first
                   | omega
                   | exact ⟨by omega, by omega⟩)) ?_
          refine And.intro (by
            first
              | omega
              | (have e56 : M56 = M := by rw [hM56, if_neg (by omega)]
                 rw [e56]
                 first
                   | omega
                   | exact ⟨by omega, by omega⟩)) ?_
          refine ⟨?_, ?_⟩
          · intro c107
            refine And.intro (by
              first
                | omega
                | (have e56 : M56 = M := by rw [hM56, if_neg (by omega)]
                   rw [e56]
                   first
                     | omega
                     | exact ⟨by omega, by omega⟩)) ?_
            refine And.intro (by
              first
                | omega
                | (have e56 : M56 = M := by rw [hM56, if_neg (by omega)]
                   rw [e56]
                   first
                     | omega
                     | exact ⟨by omega, by omega⟩)) ?_
            have e56 : M56 = M := by rw [hM56, if_neg (by omega)]
            have hmay : pz_mayM M := ⟨by omega, by omega, fun y => ⟨by omega, by omega⟩⟩
            refine ⟨_, rfl, hmay, h4.symm, by rw [e56], by omega, ?_, ?_⟩
            · have := pz_nck_rng (pz_its M); omega
            · show _ = pz_s0 M
              unfold pz_s0 pz_v0
              rw [if_neg (by rw [← h4]; exact c107), ← h4]
              first
                | (rw [e56]; done)
                | (simp [e56, ab_up_a]; done)
          · intro c107
            refine And.intro (by
              have e56 : M56 = M := by rw [hM56, if_neg (by omega)]
              rw [e56]
              have hq9 : pz_pf M (ab_up (ab_up (ab_up M 797 10 (M 797 10 + 1)) 797 19 (M 797 19 + 1)) 805 (M 797 10).toNat r4) := ⟨fun o k x y => by simp only [ab_up_a]; rw [if_neg (by omega), if_neg (by omega), if_neg (by omega)], fun k x1 x2 x3 x4 x5 x6 x7 => by simp only [ab_up_a]; rw [if_neg (by omega), if_neg (by omega), if_neg (by omega)]⟩
              exact hq9.LS g1 (by simp [ab_up_a]; exact g1.2.2.2.1) (by simp [ab_up_a]; exact g1.2.2.2.2)) ?_
            intro r111 hr111
            refine And.intro (by
              first
                | omega
                | (have e56 : M56 = M := by rw [hM56, if_neg (by omega)]
                   rw [e56]
                   first
                     | omega
                     | exact ⟨by omega, by omega⟩)) ?_
            refine And.intro (by
              first
                | omega
                | (have e56 : M56 = M := by rw [hM56, if_neg (by omega)]
                   rw [e56]
                   first
                     | omega
                     | exact ⟨by omega, by omega⟩)) ?_
            refine And.intro (by
              first
                | omega
                | (have e56 : M56 = M := by rw [hM56, if_neg (by omega)]
                   rw [e56]
                   first
                     | omega
                     | exact ⟨by omega, by omega⟩)) ?_
            have e56 : M56 = M := by rw [hM56, if_neg (by omega)]
            have h111 : r111 = r1 := by
              rw [hr111, hr1, e56]
              simp [ab_up_a]
            have hmay : pz_mayM M := ⟨by omega, by omega, fun y => ⟨by omega, by omega⟩⟩
            refine ⟨_, rfl, hmay, h4.symm, by rw [e56], by omega, ?_, ?_⟩
            · have := pz_nck_rng (pz_its M); omega
            · show _ = pz_s0 M
              unfold pz_s0 pz_v0
              rw [if_pos (by rw [← h4]; exact c107), ← h4, ← hcc, ← h111]
              first
                | (rw [e56]; done)
                | (simp [e56, ab_up_a]; done)
        · intro c65
          exfalso
          rw [hM56, if_neg (by omega)] at c65
          exact c65 g2
      · intro c32
        refine And.intro (by
          first
            | omega
            | (have e56 : M56 = M := by rw [hM56, if_neg (by omega)]
               rw [e56]
               first
                 | omega
                 | exact ⟨by omega, by omega⟩)) ?_
        refine ⟨?_, ?_⟩
        · intro c40
          refine And.intro (by
            first
              | omega
              | (have e56 : M56 = M := by rw [hM56, if_neg (by omega)]
                 rw [e56]
                 first
                   | omega
                   | exact ⟨by omega, by omega⟩)) ?_
          intro M56 hM56
          refine And.intro (by
            first
              | omega
              | (have e56 : M56 = M := by rw [hM56, if_neg (by omega)]
                 rw [e56]
                 first
                   | omega
                   | exact ⟨by omega, by omega⟩)) ?_
          refine And.intro (by
            rw [hM56]
            split
            · rw [ab_up_s]
              have := g1.2.2.2
              have := g1.2.1
              exact ⟨⟨by omega, by omega⟩, by decide, by decide⟩
            · rw [g2]
              exact ⟨⟨by decide, by decide⟩, by decide, by decide⟩) ?_
          refine ⟨?_, ?_⟩
          · intro c65
            exfalso
            rw [hM56, if_pos ⟨g2, rfl⟩, ab_up_s] at c65
            have := g1.2.2.2.1
            omega
          · intro c65
            have e56 : M56 = ab_up M 797 25 (M 797 24) := by rw [hM56, if_pos ⟨g2, rfl⟩]
            have hno : ¬ pz_mayM M := by
              rintro ⟨y1, y2, y3⟩
              first
                | omega
                | (have y4 := y3 (by omega); omega)
            rw [e56]
            exact gK _ ⟨⟨fun q => absurd q hno, fun _ => pz_mayno g1⟩, by rw [ab_up_k (by decide)]; exact ⟨by omega, by omega⟩⟩
        · intro c40
          refine And.intro (by
            refine ⟨a3, a4, fun k hk => ?_⟩
            obtain ⟨y1, y2, y3⟩ := gf k hk
            obtain ⟨-, -, y4, y5, -⟩ := gg (M 815 k).toNat (by omega)
            exact ⟨y1, by omega, by omega, by omega⟩) ?_
          intro r44 hr44
          refine And.intro (by
            first
              | omega
              | (have e56 : M56 = M := by rw [hM56, if_neg (by omega)]
                 rw [e56]
                 first
                   | omega
                   | exact ⟨by omega, by omega⟩)) ?_
          refine ⟨?_, ?_⟩
          · intro c48
            refine And.intro (by
              first
                | omega
                | (have e56 : M56 = M := by rw [hM56, if_neg (by omega)]
                   rw [e56]
                   first
                     | omega
                     | exact ⟨by omega, by omega⟩)) ?_
            intro M56 hM56
            refine And.intro (by
              first
                | omega
                | (have e56 : M56 = M := by rw [hM56, if_neg (by omega)]
                   rw [e56]
                   first
                     | omega
                     | exact ⟨by omega, by omega⟩)) ?_
            refine And.intro (by
              rw [hM56]
              split
              · rw [ab_up_s]
                have := g1.2.2.2
                have := g1.2.1
                exact ⟨⟨by omega, by omega⟩, by decide, by decide⟩
              · rw [g2]
                exact ⟨⟨by decide, by decide⟩, by decide, by decide⟩) ?_
            refine ⟨?_, ?_⟩
            · intro c65
              exfalso
              rw [hM56, if_pos ⟨g2, rfl⟩, ab_up_s] at c65
              have := g1.2.2.2.1
              omega
            · intro c65
              have e56 : M56 = ab_up M 797 25 (M 797 24) := by rw [hM56, if_pos ⟨g2, rfl⟩]
              have hno : ¬ pz_mayM M := by
                rintro ⟨y1, y2, y3⟩
                first
                  | omega
                  | (have y4 := y3 (by omega); omega)
              rw [e56]
              exact gK _ ⟨⟨fun q => absurd q hno, fun _ => pz_mayno g1⟩, by rw [ab_up_k (by decide)]; exact ⟨by omega, by omega⟩⟩
          · intro c48
            refine And.intro (by
              first
                | omega
                | (have e56 : M56 = M := by rw [hM56, if_neg (by omega)]
                   rw [e56]
                   first
                     | omega
                     | exact ⟨by omega, by omega⟩)) ?_
            intro M56 hM56
            refine And.intro (by
              first
                | omega
                | (have e56 : M56 = M := by rw [hM56, if_neg (by omega)]
                   rw [e56]
                   first
                     | omega
                     | exact ⟨by omega, by omega⟩)) ?_
            refine And.intro (by
              rw [hM56]
              split
              · rw [ab_up_s]
                have := g1.2.2.2
                have := g1.2.1
                exact ⟨⟨by omega, by omega⟩, by decide, by decide⟩
              · rw [g2]
                exact ⟨⟨by decide, by decide⟩, by decide, by decide⟩) ?_
            refine ⟨?_, ?_⟩
            · intro c65
              refine And.intro (by
                first
                  | omega
                  | (have e56 : M56 = M := by rw [hM56, if_neg (by omega)]
                     rw [e56]
                     first
                       | omega
                       | exact ⟨by omega, by omega⟩)) ?_
              refine And.intro (by
                first
                  | omega
                  | (have e56 : M56 = M := by rw [hM56, if_neg (by omega)]
                     rw [e56]
                     first
                       | omega
                       | exact ⟨by omega, by omega⟩)) ?_
              refine ⟨?_, ?_⟩
              · intro c107
                refine And.intro (by
                  first
                    | omega
                    | (have e56 : M56 = M := by rw [hM56, if_neg (by omega)]
                       rw [e56]
                       first
                         | omega
                         | exact ⟨by omega, by omega⟩)) ?_
                refine And.intro (by
                  first
                    | omega
                    | (have e56 : M56 = M := by rw [hM56, if_neg (by omega)]
                       rw [e56]
                       first
                         | omega
                         | exact ⟨by omega, by omega⟩)) ?_
                have e56 : M56 = M := by rw [hM56, if_neg (by omega)]
                have hmay : pz_mayM M := ⟨by omega, by omega, fun y => ⟨by omega, by omega⟩⟩
                refine ⟨_, rfl, hmay, h4.symm, by rw [e56], by omega, ?_, ?_⟩
                · have := pz_nck_rng (pz_its M); omega
                · show _ = pz_s0 M
                  unfold pz_s0 pz_v0
                  rw [if_neg (by rw [← h4]; exact c107), ← h4]
                  first
                    | (rw [e56]; done)
                    | (simp [e56, ab_up_a]; done)
              · intro c107
                refine And.intro (by
                  have e56 : M56 = M := by rw [hM56, if_neg (by omega)]
                  rw [e56]
                  have hq9 : pz_pf M (ab_up (ab_up (ab_up M 797 10 (M 797 10 + 1)) 797 19 (M 797 19 + 1)) 805 (M 797 10).toNat r4) := ⟨fun o k x y => by simp only [ab_up_a]; rw [if_neg (by omega), if_neg (by omega), if_neg (by omega)], fun k x1 x2 x3 x4 x5 x6 x7 => by simp only [ab_up_a]; rw [if_neg (by omega), if_neg (by omega), if_neg (by omega)]⟩
                  exact hq9.LS g1 (by simp [ab_up_a]; exact g1.2.2.2.1) (by simp [ab_up_a]; exact g1.2.2.2.2)) ?_
                intro r111 hr111
                refine And.intro (by
                  first
                    | omega
                    | (have e56 : M56 = M := by rw [hM56, if_neg (by omega)]
                       rw [e56]
                       first
                         | omega
                         | exact ⟨by omega, by omega⟩)) ?_
                refine And.intro (by
                  first
                    | omega
                    | (have e56 : M56 = M := by rw [hM56, if_neg (by omega)]
                       rw [e56]
                       first
                         | omega
                         | exact ⟨by omega, by omega⟩)) ?_
                refine And.intro (by
                  first
                    | omega
                    | (have e56 : M56 = M := by rw [hM56, if_neg (by omega)]
                       rw [e56]
                       first
                         | omega
                         | exact ⟨by omega, by omega⟩)) ?_
                have e56 : M56 = M := by rw [hM56, if_neg (by omega)]
                have h111 : r111 = r1 := by
                  rw [hr111, hr1, e56]
                  simp [ab_up_a]
                have hmay : pz_mayM M := ⟨by omega, by omega, fun y => ⟨by omega, by omega⟩⟩
                refine ⟨_, rfl, hmay, h4.symm, by rw [e56], by omega, ?_, ?_⟩
                · have := pz_nck_rng (pz_its M); omega
                · show _ = pz_s0 M
                  unfold pz_s0 pz_v0
                  rw [if_pos (by rw [← h4]; exact c107), ← h4, ← hcc, ← h111]
                  first
                    | (rw [e56]; done)
                    | (simp [e56, ab_up_a]; done)
            · intro c65
              exfalso
              rw [hM56, if_neg (by omega)] at c65
              exact c65 g2

set_option maxRecDepth 20000 in
theorem vc_X9_readStatement_134  (M : ab_M) (K : List ab_V → ab_M → Prop) (hS : (pz_LS M ∧ M 797 25 = -9 ∧ pz_RI M ∧ M 797 10 < 398 ∧ M 797 27 < 130) ∧ (∀ Mx : ab_M, (pz_SP M Mx ∧ ab_ir (Mx 797 27)) → K [] Mx)) (n : Nat) (t1 : Int) (e1 : Int) (i1 : Int) (M1 : ab_M) (hI : n = (3 - i1).toNat ∧ pz_mayM M ∧ pz_its M = t1 ∧ e1 = M 797 10 ∧ 0 ≤ i1 ∧ i1 ≤ pz_nck (pz_its M) ∧ M1 = pz_ck (pz_s0 M) (pz_its M) i1.toNat) : (ab_ir t1) ∧ (∀ r136 : Int, (r136 = if t1 = 2 ∨ t1 = 5 then 1 else if t1 = 7 then 2 else 0) → (ab_ir i1 ∧ ab_ir r136) ∧ ((r136 ≤ i1 → (-128 ≤ (7 : Int) ∧ (7 : Int) < 128) ∧ (ab_ir t1 ∧ ab_ir (7 : Int)) ∧ ((¬ t1 = (7 : Int) → (pz_LS (ab_up M1 797 24 ((M1 797 24) + (1 : Int))) ∧ (ab_up M1 797 24 ((M1 797 24) + (1 : Int))) 797 25 = -9 ∧ 0 ≤ e1 ∧ e1 < 399 ∧ (ab_up M1 797 24 ((M1 797 24) + (1 : Int))) 797 10 = e1 + 1 ∧ 0 ≤ (ab_up M1 797 24 ((M1 797 24) + (1 : Int))) 797 27 ∧ (ab_up M1 797 24 ((M1 797 24) + (1 : Int))) 797 27 < 130 ∧ 0 ≤ t1 ∧ t1 ≤ 8) ∧ (∀ M227 : ab_M, (∃ N : ab_M, pz_c105 (ab_up M1 797 24 ((M1 797 24) + (1 : Int))) N e1 t1 ∧ M227 = if t1 = 6 ∨ t1 = 7 ∨ t1 = 8 then pz_ro N (if t1 = 6 then 0 else if t1 = 7 then 2 else 3) e1 else N) → K [] M227)) ∧ (t1 = (7 : Int) → (0 ≤ (M1 797 21) ∧ (M1 797 21) < ((4 : Nat) : Int)) ∧ (pz_LS (ab_up (ab_up (ab_up M1 814 ((M1 797 21).toNat) e1) 797 21 ((M1 797 21) + (1 : Int))) 797 24 ((M1 797 24) + (1 : Int))) ∧ (ab_up (ab_up (ab_up M1 814 ((M1 797 21).toNat) e1) 797 21 ((M1 797 21) + (1 : Int))) 797 24 ((M1 797 24) + (1 : Int))) 797 25 = -9 ∧ 0 ≤ e1 ∧ e1 < 399 ∧ (ab_up (ab_up (ab_up M1 814 ((M1 797 21).toNat) e1) 797 21 ((M1 797 21) + (1 : Int))) 797 24 ((M1 797 24) + (1 : Int))) 797 10 = e1 + 1 ∧ 0 ≤ (ab_up (ab_up (ab_up M1 814 ((M1 797 21).toNat) e1) 797 21 ((M1 797 21) + (1 : Int))) 797 24 ((M1 797 24) + (1 : Int))) 797 27 ∧ (ab_up (ab_up (ab_up M1 814 ((M1 797 21).toNat) e1) 797 21 ((M1 797 21) + (1 : Int))) 797 24 ((M1 797 24) + (1 : Int))) 797 27 < 130 ∧ 0 ≤ t1 ∧ t1 ≤ 8) ∧ (∀ M227 : ab_M, (∃ N : ab_M, pz_c105 (ab_up (ab_up (ab_up M1 814 ((M1 797 21).toNat) e1) 797 21 ((M1 797 21) + (1 : Int))) 797 24 ((M1 797 24) + (1 : Int))) N e1 t1 ∧ M227 = if t1 = 6 ∨ t1 = 7 ∨ t1 = 8 then pz_ro N (if t1 = 6 then 0 else if t1 = 7 then 2 else 3) e1 else N) → K [] M227)))) ∧ (i1 < r136 → (ab_ir t1 ∧ ab_ir (2 : Int)) ∧ ((¬ t1 = (2 : Int) → (ab_ir t1 ∧ ab_ir (5 : Int)) ∧ ((¬ t1 = (5 : Int) → (0 ≤ (M1 797 20) ∧ (M1 797 20) < ((16 : Nat) : Int)) ∧ (∃ n', n' < n ∧ ((n' = (3 - (i1 + 1)).toNat ∧ pz_mayM M ∧ pz_its M = t1 ∧ e1 = M 797 10 ∧ 0 ≤ (i1 + 1) ∧ (i1 + 1) ≤ pz_nck (pz_its M) ∧ (ab_up (ab_up M1 813 ((M1 797 20).toNat) ((1 : Int) + i1)) 797 20 ((M1 797 20) + (1 : Int))) = pz_ck (pz_s0 M) (pz_its M) (i1 + 1).toNat)))) ∧ (t1 = (5 : Int) → (0 ≤ (M1 797 20) ∧ (M1 797 20) < ((16 : Nat) : Int)) ∧ (∃ n', n' < n ∧ ((n' = (3 - (i1 + 1)).toNat ∧ pz_mayM M ∧ pz_its M = t1 ∧ e1 = M 797 10 ∧ 0 ≤ (i1 + 1) ∧ (i1 + 1) ≤ pz_nck (pz_its M) ∧ (ab_up (ab_up M1 813 ((M1 797 20).toNat) (3 : Int)) 797 20 ((M1 797 20) + (1 : Int))) = pz_ck (pz_s0 M) (pz_its M) (i1 + 1).toNat)))))) ∧ (t1 = (2 : Int) → (0 ≤ (M1 797 20) ∧ (M1 797 20) < ((16 : Nat) : Int)) ∧ (∃ n', n' < n ∧ ((n' = (3 - (i1 + 1)).toNat ∧ pz_mayM M ∧ pz_its M = t1 ∧ e1 = M 797 10 ∧ 0 ≤ (i1 + 1) ∧ (i1 + 1) ≤ pz_nck (pz_its M) ∧ (ab_up (ab_up M1 813 ((M1 797 20).toNat) (0 : Int)) 797 20 ((M1 797 20) + (1 : Int))) = pz_ck (pz_s0 M) (pz_its M) (i1 + 1).toNat)))))))) := by
  obtain ⟨hn, hmay, hit, he1, hi0, hi1, hM1⟩ := hI
  obtain ⟨⟨g1, g2, g3, g4, g5⟩, gK⟩ := hS
  have hrng : 0 ≤ pz_its M ∧ pz_its M ≤ 8 := pz_srt_rng hmay.1
  have hnck := pz_nck_rng (pz_its M)
  obtain ⟨⟨a1, a2, a3, a4⟩, gb, ⟨gc1, gc2, gc3⟩, ⟨gd1, gd2, gd3⟩, gf, gg⟩ := id g3
  have s020 : pz_s0 M 797 20 = M 797 20 := by unfold pz_s0; simp [ab_up_a]
  have s021 : pz_s0 M 797 21 = M 797 21 := by unfold pz_s0; simp [ab_up_a]
  have s024 : pz_s0 M 797 24 = M 797 24 := by unfold pz_s0; simp [ab_up_a]
  have h120 : M1 797 20 = M 797 20 + i1 := by rw [hM1, pz_ck_20, s020]; omega
  have h121 : M1 797 21 = M 797 21 := by rw [hM1, pz_ck_o _ _ _ (by decide) (by decide), s021]
  have hmk := hmay.2.1
  have hmk7 := hmay.2.2
  refine And.intro (by
    first
      | omega
      | (have e56 : M56 = M := by rw [hM56, if_neg (by omega)]
         rw [e56]
         first
           | omega
           | exact ⟨by omega, by omega⟩)) ?_
  intro r136 hr136
  have h136 : r136 = pz_nck (pz_its M) := by rw [hit]; exact hr136
  refine And.intro (by
    first
      | omega
      | (have e56 : M56 = M := by rw [hM56, if_neg (by omega)]
         rw [e56]
         first
           | omega
           | exact ⟨by omega, by omega⟩)) ?_
  refine ⟨?_, ?_⟩
  · intro c139
    refine And.intro (by
      first
        | omega
        | (have e56 : M56 = M := by rw [hM56, if_neg (by omega)]
           rw [e56]
           first
             | omega
             | exact ⟨by omega, by omega⟩)) ?_
    refine And.intro (by
      first
        | omega
        | (have e56 : M56 = M := by rw [hM56, if_neg (by omega)]
           rw [e56]
           first
             | omega
             | exact ⟨by omega, by omega⟩)) ?_
    refine ⟨?_, ?_⟩
    · intro c191
      refine And.intro (by
        have hi2 : i1 = pz_nck (pz_its M) := by omega
        have hC : M1 = pz_ck (pz_s0 M) (pz_its M) (pz_nck (pz_its M)).toNat := by rw [hM1, hi2]
        have hP3 := pz_P3_of g3 g2 hrng
        unfold pz_s7 at hP3
        first
          | (rw [if_neg (by omega), ← hC] at hP3
             obtain ⟨p0, ⟨p1, p2, p3, p4, p5⟩, -⟩ := hP3
             have hat : M 797 24 < M 797 9 := pz_its_lt g1 hmay.1
             exact ⟨p0.LS g1 (by rw [p3]; have := g1.2.2.2.1; omega) (by rw [p3]; omega), p4, by omega, by omega, by rw [p1, he1], by rw [p5]; exact a3, by rw [p5]; exact g5, by omega, by omega⟩)
          | (rw [if_pos (by omega), ← hC] at hP3
             rw [he1]
             obtain ⟨p0, ⟨p1, p2, p3, p4, p5⟩, -⟩ := hP3
             have hat : M 797 24 < M 797 9 := pz_its_lt g1 hmay.1
             exact ⟨p0.LS g1 (by rw [p3]; have := g1.2.2.2.1; omega) (by rw [p3]; omega), p4, by omega, by omega, p1, by rw [p5]; exact a3, by rw [p5]; exact g5, by omega, by omega⟩)) ?_
      intro M227 hM227
      have hi2 : i1 = pz_nck (pz_its M) := by omega
      have hC : M1 = pz_ck (pz_s0 M) (pz_its M) (pz_nck (pz_its M)).toNat := by rw [hM1, hi2]
      have hP3 := pz_P3_of g3 g2 hrng
      unfold pz_s7 at hP3
      rw [if_neg (by omega), ← hC] at hP3
      rw [he1, ← hit] at hM227
      obtain ⟨N, hc, hN⟩ := hM227
      have hN27 : N 797 27 = M 797 27 := by rw [hc.1 797 27 (by omega) (by omega), hP3.2.1.2.2.2.2]
      refine gK _ ⟨⟨fun _ => pz_stm_ok g1 g3 g4 g5 hmay hP3 hc hN ?_, fun q => absurd hmay q⟩, by
        rw [hN]
        split
        · exact pz_ro_27 _ _ _ ⟨by omega, by omega⟩
        · exact ⟨by omega, by omega⟩⟩
      have hv := hc.2.2.1
      rw [hP3.1.L, hP3.2.2.1.2.1] at hv
      have := pz_n2_rng (ls := pz_L M) (its := pz_its M) (v0 := pz_v0 M) (a := ab_up M1 797 24 (M1 797 24 + 1) 797 24) (pz_v0_rng (M := M))
      rw [hv]
      omega
    · intro c191
      refine And.intro (by
        first
          | omega
          | (have e56 : M56 = M := by rw [hM56, if_neg (by omega)]
             rw [e56]
             first
               | omega
               | exact ⟨by omega, by omega⟩)) ?_
      refine And.intro (by
        have hi2 : i1 = pz_nck (pz_its M) := by omega
        have hC : M1 = pz_ck (pz_s0 M) (pz_its M) (pz_nck (pz_its M)).toNat := by rw [hM1, hi2]
        have hP3 := pz_P3_of g3 g2 hrng
        unfold pz_s7 at hP3
        first
          | (rw [if_neg (by omega), ← hC] at hP3
             obtain ⟨p0, ⟨p1, p2, p3, p4, p5⟩, -⟩ := hP3
             have hat : M 797 24 < M 797 9 := pz_its_lt g1 hmay.1
             exact ⟨p0.LS g1 (by rw [p3]; have := g1.2.2.2.1; omega) (by rw [p3]; omega), p4, by omega, by omega, by rw [p1, he1], by rw [p5]; exact a3, by rw [p5]; exact g5, by omega, by omega⟩)
          | (rw [if_pos (by omega), ← hC] at hP3
             rw [he1]
             obtain ⟨p0, ⟨p1, p2, p3, p4, p5⟩, -⟩ := hP3
             have hat : M 797 24 < M 797 9 := pz_its_lt g1 hmay.1
             exact ⟨p0.LS g1 (by rw [p3]; have := g1.2.2.2.1; omega) (by rw [p3]; omega), p4, by omega, by omega, p1, by rw [p5]; exact a3, by rw [p5]; exact g5, by omega, by omega⟩)) ?_
      intro M227 hM227
      have hi2 : i1 = pz_nck (pz_its M) := by omega
      have hC : M1 = pz_ck (pz_s0 M) (pz_its M) (pz_nck (pz_its M)).toNat := by rw [hM1, hi2]
      have hP3 := pz_P3_of g3 g2 hrng
      unfold pz_s7 at hP3
      rw [if_pos (by omega), ← hC] at hP3
      rw [he1, ← hit] at hM227
      obtain ⟨N, hc, hN⟩ := hM227
      have hN27 : N 797 27 = M 797 27 := by rw [hc.1 797 27 (by omega) (by omega), hP3.2.1.2.2.2.2]
      refine gK _ ⟨⟨fun _ => pz_stm_ok g1 g3 g4 g5 hmay hP3 hc hN ?_, fun q => absurd hmay q⟩, by
        rw [hN]
        split
        · exact pz_ro_27 _ _ _ ⟨by omega, by omega⟩
        · exact ⟨by omega, by omega⟩⟩
      have hv := hc.2.2.1
      rw [hP3.1.L, hP3.2.2.1.2.1] at hv
      have := pz_n2_rng (ls := pz_L M) (its := pz_its M) (v0 := pz_v0 M) (a := ab_up (ab_up (ab_up M1 814 (M1 797 21).toNat (M 797 10)) 797 21 (M1 797 21 + 1)) 797 24 (M1 797 24 + 1) 797 24) (pz_v0_rng (M := M))
      rw [hv]
      omega
  · intro c139
    refine And.intro (by
      first
        | omega
        | (have e56 : M56 = M := by rw [hM56, if_neg (by omega)]
           rw [e56]
           first
             | omega
             | exact ⟨by omega, by omega⟩)) ?_
    refine ⟨?_, ?_⟩
    · intro c152
      refine And.intro (by
        first
          | omega
          | (have e56 : M56 = M := by rw [hM56, if_neg (by omega)]
             rw [e56]
             first
               | omega
               | exact ⟨by omega, by omega⟩)) ?_
      refine ⟨?_, ?_⟩
      · intro c161
        refine And.intro (by
          first
            | omega
            | (have e56 : M56 = M := by rw [hM56, if_neg (by omega)]
               rw [e56]
               first
                 | omega
                 | exact ⟨by omega, by omega⟩)) ?_
        refine ⟨_, ?_, rfl, hmay, hit, he1, by omega, by omega, ?_⟩
        · omega
        · rw [show (i1 + 1).toNat = i1.toNat + 1 by omega]
          unfold pz_ck
          rw [← hM1, show ((i1.toNat : Nat) : Int) = i1 by omega]
          unfold pz_kk
          rw [if_neg (by omega), if_neg (by omega)]
          try simp [ab_up_a]
      · intro c161
        refine And.intro (by
          first
            | omega
            | (have e56 : M56 = M := by rw [hM56, if_neg (by omega)]
               rw [e56]
               first
                 | omega
                 | exact ⟨by omega, by omega⟩)) ?_
        refine ⟨_, ?_, rfl, hmay, hit, he1, by omega, by omega, ?_⟩
        · omega
        · rw [show (i1 + 1).toNat = i1.toNat + 1 by omega]
          unfold pz_ck
          rw [← hM1, show ((i1.toNat : Nat) : Int) = i1 by omega]
          unfold pz_kk
          rw [if_neg (by omega), if_pos (by omega)]
          try simp [ab_up_a]
    · intro c152
      refine And.intro (by
        first
          | omega
          | (have e56 : M56 = M := by rw [hM56, if_neg (by omega)]
             rw [e56]
             first
               | omega
               | exact ⟨by omega, by omega⟩)) ?_
      refine ⟨_, ?_, rfl, hmay, hit, he1, by omega, by omega, ?_⟩
      · omega
      · rw [show (i1 + 1).toNat = i1.toNat + 1 by omega]
        unfold pz_ck
        rw [← hM1, show ((i1.toNat : Nat) : Int) = i1 by omega]
        unfold pz_kk
        rw [if_pos (by omega)]
        try simp [ab_up_a]

set_option maxRecDepth 20000 in
set_option maxHeartbeats 1000000 in
theorem ok_X9_readStatement (E : ab_E) : ab_Ok E 5 176 S_X9_readStatement := by
  refine ab_mk rq_X9_readStatement tk_X9_readStatement (rt := 0) (rfl) (cuts := [134]) (G := [(125, S_X9_checksOf), (144, S_X9_here), (162, S_X9_loopsAround), (163, S_X9_must), (175, S_X9_readRest), (180, S_X9_sortOf)]) (List.forall_mem_cons.mpr ⟨⟨1, by decide, ok_X9_checksOf E⟩, List.forall_mem_cons.mpr ⟨⟨1, by decide, ok_X9_here E⟩, List.forall_mem_cons.mpr ⟨⟨1, by decide, ok_X9_loopsAround E⟩, List.forall_mem_cons.mpr ⟨⟨1, by decide, ok_X9_must E⟩, List.forall_mem_cons.mpr ⟨⟨4, by decide, ok_X9_readRest E⟩, List.forall_mem_cons.mpr ⟨⟨3, by decide, ok_X9_sortOf E⟩, fun _ h => absurd h List.not_mem_nil⟩⟩⟩⟩⟩⟩) (by decide) 181 rfl ?_
  intro a M K wd wa hS
  unfold S_X9_readStatement at hS
  split at hS
  ·
    refine ⟨Nat.le_of_ble_eq_true rfl, fun pc n L st M1 => match pc, L, st with
      | 134, [.inr (.inr (.inr (797, 9, 0))), .inr (.inl t1), .inr (.inl e1), .inr (.inl i1)], [] => (n = (3 - i1).toNat ∧ pz_mayM M ∧ pz_its M = t1 ∧ e1 = M 797 10 ∧ 0 ≤ i1 ∧ i1 ≤ pz_nck (pz_its M) ∧ M1 = pz_ck (pz_s0 M) (pz_its M) i1.toNat)
      | _, _, _ => False, ?_, ?_⟩
    · exact vc_X9_readStatement_0  M K  hS
    · intro pc n L st M1 hI wd1 wL wst
      (try dsimp only at hI)
      split at hI
      ·
        rename_i t1 e1 i1
        exact vc_X9_readStatement_134  M K  hS n t1 e1 i1 _ hI
      · exact hI.elim
  · exact hS.elim
