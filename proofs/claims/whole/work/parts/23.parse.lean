/-! the reference reads -/
/-- the letters that the reference reads -/
abbrev pz_L (M : ab_M) : List Int := pz_ls (M 803) (M 797 9)
def pz_LS (M : ab_M) : Prop := 0 ≤ M 797 9 ∧ M 797 9 ≤ 640 ∧ (∀ j, 0 ≤ M 803 j ∧ M 803 j < 256) ∧ 0 ≤ M 797 24 ∧ M 797 24 ≤ M 797 9
/-- all but the place and the fault stays -/
def pz_fr (M M' : ab_M) : Prop := ∀ o k, ¬ (o = 797 ∧ (k = 24 ∨ k = 25)) → M' o k = M o k
theorem pz_fr.L {M M' : ab_M} (h : pz_fr M M') : pz_L M' = pz_L M := by
  unfold pz_L
  rw [h 797 9 (by omega)]
  exact pz_ls_congr fun j _ => h 803 j (by omega)
theorem pz_fr.LS {M M' : ab_M} (h : pz_fr M M') (hl : pz_LS M) (h1 : 0 ≤ M' 797 24) (h2 : M' 797 24 ≤ M 797 9) : pz_LS M' := by
  obtain ⟨a, b, c, d, e⟩ := hl
  refine ⟨by rw [h 797 9 (by omega)]; exact a, by rw [h 797 9 (by omega)]; exact b, fun j => by rw [h 803 j (by omega)]; exact c j, h1, by rw [h 797 9 (by omega)]; exact h2⟩
theorem pz_here {M : ab_M} {r : Int} (hl : pz_LS M) (h : r = if M 797 24 < M 797 9 then M 803 (M 797 24).toNat else -9) : r = pz_at (pz_L M) (M 797 24).toNat := by
  obtain ⟨a, b, c, d, e⟩ := hl
  rw [h]
  unfold pz_at
  rw [List.getD_eq_getElem?_getD, pz_ls_get]
  by_cases hlt : M 797 24 < M 797 9
  · rw [if_pos hlt, if_pos (by omega)]; rfl
  · rw [if_neg hlt, if_neg (by omega)]; rfl
/-- in the middle of a term -/
def pz_rt (M M1 : ab_M) (f x : Int) : Prop :=
  f = M 797 24 ∧ pz_fr M M1 ∧ M 797 24 ≤ M1 797 24 ∧ M1 797 24 ≤ M 797 9 ∧ x ≤ 1 + (M1 797 24 - f) ∧ -1 ≤ x ∧
  ((M1 797 25 = -9 ∧ M 797 25 = -9 ∧ 0 ≤ x ∧ pz_tm ((pz_L M).drop (M 797 24).toNat) 1 0 = pz_tm ((pz_L M).drop (M1 797 24).toNat) x.toNat (M1 797 24 - f).toNat) ∨
   (M1 797 25 ≠ -9 ∧ ab_ir (M1 797 25) ∧ (M 797 25 = -9 → pz_tm ((pz_L M).drop (M 797 24).toNat) 1 0 = (false, (M1 797 24 - f).toNat) ∧ M1 797 25 = M1 797 24) ∧ (M 797 25 ≠ -9 → M1 797 24 = M 797 24 ∧ M1 797 25 = M 797 25)))
theorem pz_rt.tok {M M1 : ab_M} {f x c x' : Int} (h : pz_rt M M1 f x) (hl : pz_LS M) (hf : M1 797 25 = -9) (hx : 0 < x) (hc : c = pz_at (pz_L M) (M1 797 24).toNat) (ht : pz_name c ∨ pz_dig c ∨ pz_two c ∨ c = 33) (hx' : x' = x + (if pz_two c then 1 else if c = 33 then 0 else -1)) : pz_rt M (ab_up M1 797 24 (M1 797 24 + 1)) f x' ∧ M1 797 24 < M 797 9 := by
  obtain ⟨h1, h2, h3, h4, h5, h6, h7⟩ := h
  have hlt : M1 797 24 < M 797 9 := by
    rcases Int.lt_or_le (M1 797 24) (M 797 9) with q | q
    · exact q
    · exfalso
      have hn : pz_at (pz_L M) (M1 797 24).toNat = -9 := by
        unfold pz_at
        rw [List.getD_eq_getElem?_getD, pz_ls_get, if_neg (by omega)]; rfl
      rw [hn] at hc
      omega
  have e24 : ab_up M1 797 24 (M1 797 24 + 1) 797 24 = M1 797 24 + 1 := ab_up_s
  have e25 : ab_up M1 797 24 (M1 797 24 + 1) 797 25 = M1 797 25 := ab_up_k (by decide) _
  refine ⟨⟨h1, fun o k hk => ?_, by rw [e24]; omega, by rw [e24]; omega, ?_, ?_, ?_⟩, hlt⟩
  · rw [ab_up_a, if_neg (by omega)]; exact h2 o k hk
  · rw [e24, hx']; split
    · omega
    · split <;> omega
  · rw [hx']; split
    · omega
    · split <;> omega
  · left
    rcases h7 with ⟨-, g1, g2, g3⟩ | ⟨g1, -⟩
    · rw [e24, e25]
      refine ⟨hf, g1, ?_, ?_⟩
      · rw [hx']; split
        · omega
        · split <;> omega
      · rw [g3]
        have hl0 := hl.2.2.2.1
        rw [show x.toNat = (x - 1).toNat + 1 by omega, show (M1 797 24 + 1).toNat = (M1 797 24).toNat + 1 by omega, show (M1 797 24 + 1 - f).toNat = (M1 797 24 - f).toNat + 1 by omega, pz_tm_step, ← hc]
        by_cases a : pz_two c
        · rw [if_pos a, hx', if_pos a, show (x + 1).toNat = (x - 1).toNat + 2 by omega]
        · rw [if_neg a]
          by_cases b : c = 33
          · rw [if_pos b, hx', if_neg a, if_pos b, show (x + 0).toNat = (x - 1).toNat + 1 by omega]
          · rw [if_neg b, if_pos (by rcases ht with t | t | t | t; exact Or.inl t; exact Or.inr t; exact absurd t a; exact absurd t b), hx', if_neg a, if_neg b]
            rfl
    · exact absurd hf g1
theorem pz_rt.bad {M M1 : ab_M} {f x c x' : Int} (h : pz_rt M M1 f x) (hl : pz_LS M) (hf : M1 797 25 = -9) (hx : 0 < x) (hc : c = pz_at (pz_L M) (M1 797 24).toNat) (ht : ¬ (pz_name c ∨ pz_dig c ∨ pz_two c ∨ c = 33)) (hx' : x' = x + (if pz_two c then 1 else if c = 33 then 0 else -1)) : pz_rt M (ab_up (ab_up M1 797 25 (M1 797 24)) 797 24 (M1 797 24 + 0)) f x' := by
  obtain ⟨h1, h2, h3, h4, h5, h6, h7⟩ := h
  have hl0 := hl.2.2.2.1
  have hl1 := hl.2.1
  have e24 : ab_up (ab_up M1 797 25 (M1 797 24)) 797 24 (M1 797 24 + 0) 797 24 = M1 797 24 := by rw [ab_up_s]; omega
  have e25 : ab_up (ab_up M1 797 25 (M1 797 24)) 797 24 (M1 797 24 + 0) 797 25 = M1 797 24 := by rw [ab_up_k (by decide), ab_up_s]
  rw [if_neg (by omega), if_neg (by omega)] at hx'
  refine ⟨h1, fun o k hk => ?_, by rw [e24]; omega, by rw [e24]; omega, by rw [e24]; omega, by omega, Or.inr ⟨by rw [e25]; omega, by rw [e25]; exact ⟨by omega, by omega⟩, fun hm => ?_, fun hm => ?_⟩⟩
  · rw [ab_up_a, if_neg (by omega), ab_up_a, if_neg (by omega)]; exact h2 o k hk
  · rw [e24, e25]
    refine ⟨?_, rfl⟩
    rcases h7 with ⟨-, g1, g2, g3⟩ | ⟨g1, -⟩
    · rw [g3, show x.toNat = (x - 1).toNat + 1 by omega, pz_tm_step, ← hc, if_neg (by omega), if_neg (by omega), if_neg (by omega)]
    · exact absurd hf g1
  · rcases h7 with ⟨-, g1, -⟩ | ⟨g1, -⟩
    · exact absurd g1 hm
    · exact absurd hf g1
theorem pz_rt.fin {M M1 : ab_M} {f x : Int} (h : pz_rt M M1 f x) (hl : pz_LS M) (he : M1 797 25 ≠ -9 ∨ x ≤ 0) : (pz_fr M M1 ∧ 0 ≤ M1 797 24 ∧ M1 797 24 ≤ M 797 9 ∧ ab_ir (M1 797 25)) ∧
    (M 797 25 = -9 → M1 797 24 - f = (((pz_tm ((pz_L M).drop (M 797 24).toNat) 1 0).2 : Nat) : Int) ∧ M1 797 24 = M 797 24 + (M1 797 24 - f) ∧ M1 797 25 = if (pz_tm ((pz_L M).drop (M 797 24).toNat) 1 0).1 then -9 else M1 797 24) ∧ (M 797 25 ≠ -9 → M1 797 24 - f = 0 ∧ M1 797 24 = M 797 24 ∧ M1 797 25 = M 797 25) := by
  obtain ⟨h1, h2, h3, h4, h5, h6, h7⟩ := h
  have hl0 := hl.2.2.2.1
  rcases h7 with ⟨g0, g1, g2, g3⟩ | ⟨g0, g1, g2, g3⟩
  · have hx : x.toNat = 0 := by
      rcases he with he | he
      · exact absurd g0 he
      · omega
    rw [hx, pz_tm_zero] at g3
    refine ⟨⟨h2, by omega, h4, by rw [g0]; exact ⟨by decide, by decide⟩⟩, fun _ => ?_, fun hm => absurd g1 hm⟩
    rw [g3]
    exact ⟨by show _ = (((M1 797 24 - f).toNat : Nat) : Int); omega, by omega, by rw [g0]; rfl⟩
  · refine ⟨⟨h2, by omega, h4, g1⟩, fun hm => ?_, fun hm => ?_⟩
    · obtain ⟨g4, g5⟩ := g2 hm
      rw [g4]
      exact ⟨by show _ = (((M1 797 24 - f).toNat : Nat) : Int); omega, by omega, by rw [g5]; rfl⟩
    · obtain ⟨g4, g5⟩ := g3 hm
      exact ⟨by omega, g4, g5⟩
/-- reading a term, a name: what comes of the place and the fault -/
def pz_te (ls : List Int) (a f : Int) : Int × Int × Int := if f = -9 then ((((pz_tm (ls.drop a.toNat) 1 0).2 : Nat) : Int), a + (((pz_tm (ls.drop a.toNat) 1 0).2 : Nat) : Int), if (pz_tm (ls.drop a.toNat) 1 0).1 then -9 else a + (((pz_tm (ls.drop a.toNat) 1 0).2 : Nat) : Int)) else (0, a, f)
def pz_nm (ls : List Int) (a f : Int) : Int × Int × Int := if f = -9 then (if pz_name (pz_at ls a.toNat) then (pz_at ls a.toNat - 97, a + 1, -9) else (0, a, a)) else (0, a, f)
theorem pz_rt.fin2 {M M1 : ab_M} {f x : Int} (h : pz_rt M M1 f x) (hl : pz_LS M) (he : M1 797 25 ≠ -9 ∨ x ≤ 0) : (pz_fr M M1 ∧ 0 ≤ M1 797 24 ∧ M1 797 24 ≤ M 797 9 ∧ ab_ir (M1 797 25)) ∧
    (M1 797 24 - f = (pz_te (pz_L M) (M 797 24) (M 797 25)).1 ∧ M1 797 24 = (pz_te (pz_L M) (M 797 24) (M 797 25)).2.1 ∧ M1 797 25 = (pz_te (pz_L M) (M 797 24) (M 797 25)).2.2) := by
  obtain ⟨h1, h2, h3⟩ := h.fin hl he
  refine ⟨h1, ?_⟩
  unfold pz_te
  by_cases hm : M 797 25 = -9
  · obtain ⟨g1, g2, g3⟩ := h2 hm
    rw [if_pos hm]
    refine ⟨g1, by show M1 797 24 = M 797 24 + _; omega, ?_⟩
    rw [g3]
    show (if _ then (-9 : Int) else _) = if _ then -9 else _
    rw [g2, g1]
  · obtain ⟨g1, g2, g3⟩ := h3 hm
    rw [if_neg hm]
    exact ⟨g1, g2, g3⟩
def pz_opn (M : ab_M) (w i : Int) : ab_M := ab_up (ab_up (ab_up (ab_up (ab_up (ab_up (ab_up M 797 24 (M 797 24 + 1)) 815 (M 797 27).toNat (M 797 10)) 797 27 (M 797 27 + 1)) 805 (M 797 10).toNat 9) 806 (M 797 10).toNat w) 812 (M 797 10).toNat i) 797 10 (M 797 10 + 1)
/-- what readOpen does -/
def pz_ro (M : ab_M) (w i : Int) : ab_M := if M 797 25 = -9 then (if pz_at (pz_L M) (M 797 24).toNat = 40 then pz_opn M w i else ab_up M 797 25 (M 797 24)) else M
/-- loops around: open blocks of loops among the first so many -/
def pz_lar (M : ab_M) : Nat → Int
  | 0 => 0
  | k + 1 => pz_lar M k + (if M 806 (M 815 k).toNat = 2 then 1 else 0)
theorem pz_lar_bd (M : ab_M) (k : Nat) : 0 ≤ pz_lar M k ∧ pz_lar M k ≤ (k : Int) := by
  induction k with
  | zero => exact ⟨Int.le_refl 0, Int.le_refl 0⟩
  | succ k ih =>
    unfold pz_lar
    split <;> omega
theorem pz_nm_fin {M M8 : ab_M} {r2 r5 : Int} (hl : pz_LS M) (hf : ab_ir (M 797 25)) (hcc : r2 = pz_at (pz_L M) (M 797 24).toNat) (hr5 : r5 = if 97 ≤ r2 ∧ r2 ≤ 100 then 1 else 0) (hM8 : M8 = if M 797 25 = -9 ∧ r5 = 0 then ab_up M 797 25 (M 797 24) else M) :
    (M8 797 25 = -9 → ((pz_fr M (ab_up M8 797 24 (M8 797 24 + 1)) ∧ 0 ≤ ab_up M8 797 24 (M8 797 24 + 1) 797 24 ∧ ab_up M8 797 24 (M8 797 24 + 1) 797 24 ≤ M 797 9 ∧ ab_ir (ab_up M8 797 24 (M8 797 24 + 1) 797 25) ∧ 0 ≤ (pz_nm (pz_L M) (M 797 24) (M 797 25)).1 ∧ (pz_nm (pz_L M) (M 797 24) (M 797 25)).1 ≤ 3) ∧
      (r2 - 97 = (pz_nm (pz_L M) (M 797 24) (M 797 25)).1 ∧ ab_up M8 797 24 (M8 797 24 + 1) 797 24 = (pz_nm (pz_L M) (M 797 24) (M 797 25)).2.1 ∧ ab_up M8 797 24 (M8 797 24 + 1) 797 25 = (pz_nm (pz_L M) (M 797 24) (M 797 25)).2.2))) ∧
    (M8 797 25 ≠ -9 → ((pz_fr M (ab_up M8 797 24 (M8 797 24 + 0)) ∧ 0 ≤ ab_up M8 797 24 (M8 797 24 + 0) 797 24 ∧ ab_up M8 797 24 (M8 797 24 + 0) 797 24 ≤ M 797 9 ∧ ab_ir (ab_up M8 797 24 (M8 797 24 + 0) 797 25) ∧ 0 ≤ (pz_nm (pz_L M) (M 797 24) (M 797 25)).1 ∧ (pz_nm (pz_L M) (M 797 24) (M 797 25)).1 ≤ 3) ∧
      ((0 : Int) = (pz_nm (pz_L M) (M 797 24) (M 797 25)).1 ∧ ab_up M8 797 24 (M8 797 24 + 0) 797 24 = (pz_nm (pz_L M) (M 797 24) (M 797 25)).2.1 ∧ ab_up M8 797 24 (M8 797 24 + 0) 797 25 = (pz_nm (pz_L M) (M 797 24) (M 797 25)).2.2))) := by
  obtain ⟨hs1, hs2, hs3, hs4, hs5⟩ := hl
  rw [ab_up_s, ab_up_s, ab_up_k (by decide), ab_up_k (by decide)]
  by_cases hm : M 797 25 = -9
  · by_cases hn : pz_name r2
    · have e8 : M8 = M := by
        rw [hM8, if_neg]
        rintro ⟨-, q⟩
        rw [hr5, if_pos hn] at q
        omega
      have hlt : M 797 24 < M 797 9 := by
        rcases Int.lt_or_le (M 797 24) (M 797 9) with q | q
        · exact q
        · exfalso
          have h9 : pz_at (pz_L M) (M 797 24).toNat = -9 := by
            unfold pz_at
            rw [List.getD_eq_getElem?_getD, pz_ls_get, if_neg (by omega)]; rfl
          rw [h9] at hcc
          unfold pz_name at hn
          omega
      have en : pz_nm (pz_L M) (M 797 24) (M 797 25) = (r2 - 97, M 797 24 + 1, -9) := by
        unfold pz_nm
        rw [if_pos hm, ← hcc, if_pos hn]
      rw [en, e8]
      refine ⟨fun _ => ⟨⟨fun o k hk => by rw [ab_up_a, if_neg (by omega)], by omega, by omega, hf, ?_, ?_⟩, rfl, rfl, hm⟩, fun q => absurd hm q⟩
      · show 0 ≤ r2 - 97; unfold pz_name at hn; omega
      · show r2 - 97 ≤ 3; unfold pz_name at hn; omega
    · have e8 : M8 = ab_up M 797 25 (M 797 24) := by rw [hM8, if_pos ⟨hm, by rw [hr5, if_neg hn]⟩]
      have en : pz_nm (pz_L M) (M 797 24) (M 797 25) = (0, M 797 24, M 797 24) := by
        unfold pz_nm
        rw [if_pos hm, ← hcc, if_neg hn]
      have e24 : M8 797 24 = M 797 24 := by rw [e8]; exact ab_up_k (by decide) _
      have e25 : M8 797 25 = M 797 24 := by rw [e8]; exact ab_up_s
      rw [en, e24, e25]
      refine ⟨fun q => absurd q (by omega), fun _ => ⟨⟨fun o k hk => by rw [ab_up_a, if_neg (by omega), e8, ab_up_a, if_neg (by omega)], by omega, by omega, ⟨by omega, by omega⟩, Int.le_refl 0, by show (0 : Int) ≤ 3; decide⟩, rfl, by show M 797 24 + 0 = M 797 24; omega, rfl⟩⟩
  · have e8 : M8 = M := by rw [hM8, if_neg (fun q => hm q.1)]
    have en : pz_nm (pz_L M) (M 797 24) (M 797 25) = (0, M 797 24, M 797 25) := by
      unfold pz_nm
      rw [if_neg hm]
    rw [en, e8]
    refine ⟨fun q => absurd q hm, fun _ => ⟨⟨fun o k hk => by rw [ab_up_a, if_neg (by omega)], by omega, by omega, hf, Int.le_refl 0, by show (0 : Int) ≤ 3; decide⟩, rfl, by show M 797 24 + 0 = M 797 24; omega, rfl⟩⟩
/-- the rest of a statement: name, term, name, term -/
def pz_n1 (ls : List Int) (its v0 a : Int) : Int × Int × Int := if its = 1 then pz_nm ls a (-9) else (v0, a, -9)
def pz_t1 (ls : List Int) (its v0 a : Int) : Int × Int × Int := if its = 1 ∨ its = 4 ∨ its = 8 then (0, (pz_n1 ls its v0 a).2.1, (pz_n1 ls its v0 a).2.2) else pz_te ls (pz_n1 ls its v0 a).2.1 (pz_n1 ls its v0 a).2.2
def pz_n2 (ls : List Int) (its v0 a : Int) : Int × Int × Int := if its = 5 then pz_nm ls (pz_t1 ls its v0 a).2.1 (pz_t1 ls its v0 a).2.2 else ((pz_n1 ls its v0 a).1, (pz_t1 ls its v0 a).2.1, (pz_t1 ls its v0 a).2.2)
def pz_t2 (ls : List Int) (its v0 a : Int) : Int × Int × Int := if its = 5 ∨ its = 7 then pz_te ls (pz_n2 ls its v0 a).2.1 (pz_n2 ls its v0 a).2.2 else (0, (pz_n2 ls its v0 a).2.1, (pz_n2 ls its v0 a).2.2)
/-- all but place, fault and an event's rows stays -/
def pz_f5 (M M1 : ab_M) (e : Nat) : Prop := ∀ o k, ¬ (o = 797 ∧ (k = 24 ∨ k = 25)) → ¬ ((o = 806 ∨ o = 807 ∨ o = 808 ∨ o = 809 ∨ o = 810) ∧ k = e) → M1 o k = M o k
theorem pz_f5.L {M M' : ab_M} {e : Nat} (h : pz_f5 M M' e) : pz_L M' = pz_L M := by
  unfold pz_L
  rw [h 797 9 (by omega) (by omega)]
  exact pz_ls_congr fun j _ => h 803 j (by omega) (by omega)
theorem pz_f5.LS {M M' : ab_M} {e : Nat} (h : pz_f5 M M' e) (hl : pz_LS M) (h1 : 0 ≤ M' 797 24) (h2 : M' 797 24 ≤ M 797 9) : pz_LS M' := by
  obtain ⟨a, b, c, d, g⟩ := hl
  refine ⟨by rw [h 797 9 (by omega) (by omega)]; exact a, by rw [h 797 9 (by omega) (by omega)]; exact b, fun j => by rw [h 803 j (by omega) (by omega)]; exact c j, h1, by rw [h 797 9 (by omega) (by omega)]; exact h2⟩
theorem pz_f5.fr {M M1 M2 : ab_M} {e : Nat} (h : pz_f5 M M1 e) (h2 : pz_fr M1 M2) : pz_f5 M M2 e := fun o k a b => by rw [h2 o k a, h o k a b]
theorem pz_f5.up {M M1 : ab_M} {e : Nat} (h : pz_f5 M M1 e) {r : Nat} {v : Int} (hr : r = 806 ∨ r = 807 ∨ r = 808 ∨ r = 809 ∨ r = 810) : pz_f5 M (ab_up M1 r e v) e := fun o k a b => by
  rw [ab_up_a, if_neg (by omega)]
  exact h o k a b
def pz_bd (M M1 : ab_M) : Prop := 0 ≤ M1 797 24 ∧ M1 797 24 ≤ M 797 9 ∧ ab_ir (M1 797 25)
def pz_c15 (M M1 : ab_M) (e its : Int) : Prop := pz_f5 M M1 e.toNat ∧ pz_bd M M1 ∧ M1 806 e.toNat = (pz_n1 (pz_L M) its (M 806 e.toNat) (M 797 24)).1 ∧ M1 797 24 = (pz_n1 (pz_L M) its (M 806 e.toNat) (M 797 24)).2.1 ∧ M1 797 25 = (pz_n1 (pz_L M) its (M 806 e.toNat) (M 797 24)).2.2
def pz_c55 (M M1 : ab_M) (e its : Int) : Prop := pz_f5 M M1 e.toNat ∧ pz_bd M M1 ∧ M1 806 e.toNat = (pz_n1 (pz_L M) its (M 806 e.toNat) (M 797 24)).1 ∧ M1 807 e.toNat = (pz_n1 (pz_L M) its (M 806 e.toNat) (M 797 24)).2.1 ∧ M1 808 e.toNat = (pz_t1 (pz_L M) its (M 806 e.toNat) (M 797 24)).1 ∧ M1 797 24 = (pz_t1 (pz_L M) its (M 806 e.toNat) (M 797 24)).2.1 ∧ M1 797 25 = (pz_t1 (pz_L M) its (M 806 e.toNat) (M 797 24)).2.2
def pz_c70 (M M1 : ab_M) (e its : Int) : Prop := pz_f5 M M1 e.toNat ∧ pz_bd M M1 ∧ M1 806 e.toNat = (pz_n2 (pz_L M) its (M 806 e.toNat) (M 797 24)).1 ∧ M1 807 e.toNat = (pz_n1 (pz_L M) its (M 806 e.toNat) (M 797 24)).2.1 ∧ M1 808 e.toNat = (pz_t1 (pz_L M) its (M 806 e.toNat) (M 797 24)).1 ∧ M1 797 24 = (pz_n2 (pz_L M) its (M 806 e.toNat) (M 797 24)).2.1 ∧ M1 797 25 = (pz_n2 (pz_L M) its (M 806 e.toNat) (M 797 24)).2.2
def pz_c105 (M M1 : ab_M) (e its : Int) : Prop := pz_f5 M M1 e.toNat ∧ pz_bd M M1 ∧ M1 806 e.toNat = (pz_n2 (pz_L M) its (M 806 e.toNat) (M 797 24)).1 ∧ M1 807 e.toNat = (pz_n1 (pz_L M) its (M 806 e.toNat) (M 797 24)).2.1 ∧ M1 808 e.toNat = (pz_t1 (pz_L M) its (M 806 e.toNat) (M 797 24)).1 ∧ M1 809 e.toNat = (pz_n2 (pz_L M) its (M 806 e.toNat) (M 797 24)).2.1 ∧ M1 810 e.toNat = (pz_t2 (pz_L M) its (M 806 e.toNat) (M 797 24)).1 ∧ M1 797 24 = (pz_t2 (pz_L M) its (M 806 e.toNat) (M 797 24)).2.1 ∧ M1 797 25 = (pz_t2 (pz_L M) its (M 806 e.toNat) (M 797 24)).2.2

def S_X9_readTerm : ab_PT := fun a M K => match a with
  | [.inr (.inr (.inr (797, 9, 0)))] => (pz_LS M ∧ ab_ir (M 797 25)) ∧ (∀ rx : Int, ∀ Mx : ab_M, (pz_fr M Mx ∧ 0 ≤ Mx 797 24 ∧ Mx 797 24 ≤ M 797 9 ∧ ab_ir (Mx 797 25)) → (rx = (pz_te (pz_L M) (M 797 24) (M 797 25)).1 ∧ Mx 797 24 = (pz_te (pz_L M) (M 797 24) (M 797 25)).2.1 ∧ Mx 797 25 = (pz_te (pz_L M) (M 797 24) (M 797 25)).2.2) → K [Xi rx] Mx)
  | _ => False
set_option maxRecDepth 20000 in
theorem vc_X9_readTerm_0  (M : ab_M) (K : List ab_V → ab_M → Prop) (hS : (pz_LS M ∧ ab_ir (M 797 25)) ∧ (∀ rx : Int, ∀ Mx : ab_M, (pz_fr M Mx ∧ 0 ≤ Mx 797 24 ∧ Mx 797 24 ≤ M 797 9 ∧ ab_ir (Mx 797 25)) → (rx = (pz_te (pz_L M) (M 797 24) (M 797 25)).1 ∧ Mx 797 24 = (pz_te (pz_L M) (M 797 24) (M 797 25)).2.1 ∧ Mx 797 25 = (pz_te (pz_L M) (M 797 24) (M 797 25)).2.2) → K [Xi rx] Mx)) : (∃ n', ((n' = 2 * (M 797 9 - M 797 24).toNat + (if M 797 25 = -9 then 1 else 0) ∧ pz_rt M M (M 797 24) (1 : Int)))) := by
  skip
  exact ⟨_, rfl, rfl, fun _ _ _ => rfl, by omega, by have := hS.1.1.2.2.2.2; omega, by omega, by omega, by
    by_cases hm : M 797 25 = -9
    · exact Or.inl ⟨hm, hm, by omega, by simp⟩
    · exact Or.inr ⟨hm, hS.1.2, fun h => absurd h hm, fun _ => ⟨rfl, rfl⟩⟩⟩

set_option maxRecDepth 20000 in
theorem vc_X9_readTerm_7  (M : ab_M) (K : List ab_V → ab_M → Prop) (hS : (pz_LS M ∧ ab_ir (M 797 25)) ∧ (∀ rx : Int, ∀ Mx : ab_M, (pz_fr M Mx ∧ 0 ≤ Mx 797 24 ∧ Mx 797 24 ≤ M 797 9 ∧ ab_ir (Mx 797 25)) → (rx = (pz_te (pz_L M) (M 797 24) (M 797 25)).1 ∧ Mx 797 24 = (pz_te (pz_L M) (M 797 24) (M 797 25)).2.1 ∧ Mx 797 25 = (pz_te (pz_L M) (M 797 24) (M 797 25)).2.2) → K [Xi rx] Mx)) (n : Nat) (f : Int) (x : Int) (M1 : ab_M) (hI : n = 2 * (M 797 9 - M1 797 24).toNat + (if M1 797 25 = -9 then 1 else 0) ∧ pz_rt M M1 f x) : (-128 ≤ (-9 : Int) ∧ (-9 : Int) < 128) ∧ (ab_ir (M1 797 25) ∧ ab_ir (-9 : Int)) ∧ ((¬ (M1 797 25) = (-9 : Int) → K [Xi ((M1 797 24) - f)] M1) ∧ ((M1 797 25) = (-9 : Int) → (ab_ir x) ∧ ((x ≤ 0 → K [Xi ((M1 797 24) - f)] M1) ∧ (0 < x → ((0 ≤ M1 797 9 ∧ M1 797 9 ≤ 640 ∧ (∀ j, 0 ≤ M1 803 j ∧ M1 803 j < 256) ∧ 0 ≤ M1 797 24 ∧ M1 797 24 ≤ M1 797 9)) ∧ (∀ r21 : Int, (r21 = if M1 797 24 < M1 797 9 then M1 803 (M1 797 24).toNat else -9) → (ab_ir r21) ∧ (∀ r27 : Int, (r27 = if 97 ≤ r21 ∧ r21 ≤ 100 then 1 else 0) → (ab_ir r27) ∧ ((¬ r27 = 0 → (((1 : Int) = 0 ∨ (1 : Int) = 1) ∧ ab_ir (M1 797 25)) ∧ (∀ M62 : ab_M, (M62 = if M1 797 25 = -9 ∧ (1 : Int) = 0 then ab_up M1 797 25 (M1 797 24) else M1) → (ab_ir r21) ∧ (∀ r67 : Int, (r67 = if r21 = 43 ∨ r21 = 45 ∨ r21 = 61 ∨ r21 = 60 ∨ r21 = 38 ∨ r21 = 124 then 1 else 0) → (ab_ir r67) ∧ ((r67 = 0 → (-128 ≤ (33 : Int) ∧ (33 : Int) < 128) ∧ (ab_ir r21 ∧ ab_ir (33 : Int)) ∧ ((¬ r21 = (33 : Int) → (-128 ≤ (-9 : Int) ∧ (-9 : Int) < 128) ∧ (ab_ir (M62 797 25) ∧ ab_ir (-9 : Int)) ∧ ((¬ (M62 797 25) = (-9 : Int) → (∃ n', n' < n ∧ ((n' = 2 * (M 797 9 - (ab_up M62 797 24 ((M62 797 24) + (0 : Int))) 797 24).toNat + (if (ab_up M62 797 24 ((M62 797 24) + (0 : Int))) 797 25 = -9 then 1 else 0) ∧ pz_rt M (ab_up M62 797 24 ((M62 797 24) + (0 : Int))) f (x + (-1 : Int)))))) ∧ ((M62 797 25) = (-9 : Int) → (∃ n', n' < n ∧ ((n' = 2 * (M 797 9 - (ab_up M62 797 24 ((M62 797 24) + (1 : Int))) 797 24).toNat + (if (ab_up M62 797 24 ((M62 797 24) + (1 : Int))) 797 25 = -9 then 1 else 0) ∧ pz_rt M (ab_up M62 797 24 ((M62 797 24) + (1 : Int))) f (x + (-1 : Int)))))))) ∧ (r21 = (33 : Int) → (-128 ≤ (-9 : Int) ∧ (-9 : Int) < 128) ∧ (ab_ir (M62 797 25) ∧ ab_ir (-9 : Int)) ∧ ((¬ (M62 797 25) = (-9 : Int) → (∃ n', n' < n ∧ ((n' = 2 * (M 797 9 - (ab_up M62 797 24 ((M62 797 24) + (0 : Int))) 797 24).toNat + (if (ab_up M62 797 24 ((M62 797 24) + (0 : Int))) 797 25 = -9 then 1 else 0) ∧ pz_rt M (ab_up M62 797 24 ((M62 797 24) + (0 : Int))) f (x + (0 : Int)))))) ∧ ((M62 797 25) = (-9 : Int) → (∃ n', n' < n ∧ ((n' = 2 * (M 797 9 - (ab_up M62 797 24 ((M62 797 24) + (1 : Int))) 797 24).toNat + (if (ab_up M62 797 24 ((M62 797 24) + (1 : Int))) 797 25 = -9 then 1 else 0) ∧ pz_rt M (ab_up M62 797 24 ((M62 797 24) + (1 : Int))) f (x + (0 : Int)))))))))) ∧ (¬ r67 = 0 → (-128 ≤ (-9 : Int) ∧ (-9 : Int) < 128) ∧ (ab_ir (M62 797 25) ∧ ab_ir (-9 : Int)) ∧ ((¬ (M62 797 25) = (-9 : Int) → (∃ n', n' < n ∧ ((n' = 2 * (M 797 9 - (ab_up M62 797 24 ((M62 797 24) + (0 : Int))) 797 24).toNat + (if (ab_up M62 797 24 ((M62 797 24) + (0 : Int))) 797 25 = -9 then 1 else 0) ∧ pz_rt M (ab_up M62 797 24 ((M62 797 24) + (0 : Int))) f (x + (1 : Int)))))) ∧ ((M62 797 25) = (-9 : Int) → (∃ n', n' < n ∧ ((n' = 2 * (M 797 9 - (ab_up M62 797 24 ((M62 797 24) + (1 : Int))) 797 24).toNat + (if (ab_up M62 797 24 ((M62 797 24) + (1 : Int))) 797 25 = -9 then 1 else 0) ∧ pz_rt M (ab_up M62 797 24 ((M62 797 24) + (1 : Int))) f (x + (1 : Int)))))))))))) ∧ (r27 = 0 → (-128 ≤ (48 : Int) ∧ (48 : Int) < 128) ∧ (-128 ≤ (51 : Int) ∧ (51 : Int) < 128) ∧ (ab_ir r21 ∧ ab_ir (48 : Int) ∧ ab_ir (51 : Int)) ∧ (∀ r38 : Int, (r38 = if (48 : Int) ≤ r21 ∧ r21 ≤ (51 : Int) then 1 else 0) → (ab_ir r38) ∧ ((¬ r38 = 0 → (((1 : Int) = 0 ∨ (1 : Int) = 1) ∧ ab_ir (M1 797 25)) ∧ (∀ M62 : ab_M, (M62 = if M1 797 25 = -9 ∧ (1 : Int) = 0 then ab_up M1 797 25 (M1 797 24) else M1) → (ab_ir r21) ∧ (∀ r67 : Int, (r67 = if r21 = 43 ∨ r21 = 45 ∨ r21 = 61 ∨ r21 = 60 ∨ r21 = 38 ∨ r21 = 124 then 1 else 0) → (ab_ir r67) ∧ ((r67 = 0 → (-128 ≤ (33 : Int) ∧ (33 : Int) < 128) ∧ (ab_ir r21 ∧ ab_ir (33 : Int)) ∧ ((¬ r21 = (33 : Int) → (-128 ≤ (-9 : Int) ∧ (-9 : Int) < 128) ∧ (ab_ir (M62 797 25) ∧ ab_ir (-9 : Int)) ∧ ((¬ (M62 797 25) = (-9 : Int) → (∃ n', n' < n ∧ ((n' = 2 * (M 797 9 - (ab_up M62 797 24 ((M62 797 24) + (0 : Int))) 797 24).toNat + (if (ab_up M62 797 24 ((M62 797 24) + (0 : Int))) 797 25 = -9 then 1 else 0) ∧ pz_rt M (ab_up M62 797 24 ((M62 797 24) + (0 : Int))) f (x + (-1 : Int)))))) ∧ ((M62 797 25) = (-9 : Int) → (∃ n', n' < n ∧ ((n' = 2 * (M 797 9 - (ab_up M62 797 24 ((M62 797 24) + (1 : Int))) 797 24).toNat + (if (ab_up M62 797 24 ((M62 797 24) + (1 : Int))) 797 25 = -9 then 1 else 0) ∧ pz_rt M (ab_up M62 797 24 ((M62 797 24) + (1 : Int))) f (x + (-1 : Int)))))))) ∧ (r21 = (33 : Int) → (-128 ≤ (-9 : Int) ∧ (-9 : Int) < 128) ∧ (ab_ir (M62 797 25) ∧ ab_ir (-9 : Int)) ∧ ((¬ (M62 797 25) = (-9 : Int) → (∃ n', n' < n ∧ ((n' = 2 * (M 797 9 - (ab_up M62 797 24 ((M62 797 24) + (0 : Int))) 797 24).toNat + (if (ab_up M62 797 24 ((M62 797 24) + (0 : Int))) 797 25 = -9 then 1 else 0) ∧ pz_rt M (ab_up M62 797 24 ((M62 797 24) + (0 : Int))) f (x + (0 : Int)))))) ∧ ((M62 797 25) = (-9 : Int) → (∃ n', n' < n ∧ ((n' = 2 * (M 797 9 - (ab_up M62 797 24 ((M62 797 24) + (1 : Int))) 797 24).toNat + (if (ab_up M62 797 24 ((M62 797 24) + (1 : Int))) 797 25 = -9 then 1 else 0) ∧ pz_rt M (ab_up M62 797 24 ((M62 797 24) + (1 : Int))) f (x + (0 : Int)))))))))) ∧ (¬ r67 = 0 → (-128 ≤ (-9 : Int) ∧ (-9 : Int) < 128) ∧ (ab_ir (M62 797 25) ∧ ab_ir (-9 : Int)) ∧ ((¬ (M62 797 25) = (-9 : Int) → (∃ n', n' < n ∧ ((n' = 2 * (M 797 9 - (ab_up M62 797 24 ((M62 797 24) + (0 : Int))) 797 24).toNat + (if (ab_up M62 797 24 ((M62 797 24) + (0 : Int))) 797 25 = -9 then 1 else 0) ∧ pz_rt M (ab_up M62 797 24 ((M62 797 24) + (0 : Int))) f (x + (1 : Int)))))) ∧ ((M62 797 25) = (-9 : Int) → (∃ n', n' < n ∧ ((n' = 2 * (M 797 9 - (ab_up M62 797 24 ((M62 797 24) + (1 : Int))) 797 24).toNat + (if (ab_up M62 797 24 ((M62 797 24) + (1 : Int))) 797 25 = -9 then 1 else 0) ∧ pz_rt M (ab_up M62 797 24 ((M62 797 24) + (1 : Int))) f (x + (1 : Int)))))))))))) ∧ (r38 = 0 → (ab_ir r21) ∧ (∀ r45 : Int, (r45 = if r21 = 43 ∨ r21 = 45 ∨ r21 = 61 ∨ r21 = 60 ∨ r21 = 38 ∨ r21 = 124 then 1 else 0) → (ab_ir r45) ∧ ((¬ r45 = 0 → (((1 : Int) = 0 ∨ (1 : Int) = 1) ∧ ab_ir (M1 797 25)) ∧ (∀ M62 : ab_M, (M62 = if M1 797 25 = -9 ∧ (1 : Int) = 0 then ab_up M1 797 25 (M1 797 24) else M1) → (ab_ir r21) ∧ (∀ r67 : Int, (r67 = if r21 = 43 ∨ r21 = 45 ∨ r21 = 61 ∨ r21 = 60 ∨ r21 = 38 ∨ r21 = 124 then 1 else 0) → (ab_ir r67) ∧ ((r67 = 0 → (-128 ≤ (33 : Int) ∧ (33 : Int) < 128) ∧ (ab_ir r21 ∧ ab_ir (33 : Int)) ∧ ((¬ r21 = (33 : Int) → (-128 ≤ (-9 : Int) ∧ (-9 : Int) < 128) ∧ (ab_ir (M62 797 25) ∧ ab_ir (-9 : Int)) ∧ ((¬ (M62 797 25) = (-9 : Int) → (∃ n', n' < n ∧ ((n' = 2 * (M 797 9 - (ab_up M62 797 24 ((M62 797 24) + (0 : Int))) 797 24).toNat + (if (ab_up M62 797 24 ((M62 797 24) + (0 : Int))) 797 25 = -9 then 1 else 0) ∧ pz_rt M (ab_up M62 797 24 ((M62 797 24) + (0 : Int))) f (x + (-1 : Int)))))) ∧ ((M62 797 25) = (-9 : Int) → (∃ n', n' < n ∧ ((n' = 2 * (M 797 9 - (ab_up M62 797 24 ((M62 797 24) + (1 : Int))) 797 24).toNat + (if (ab_up M62 797 24 ((M62 797 24) + (1 : Int))) 797 25 = -9 then 1 else 0) ∧ pz_rt M (ab_up M62 797 24 ((M62 797 24) + (1 : Int))) f (x + (-1 : Int)))))))) ∧ (r21 = (33 : Int) → (-128 ≤ (-9 : Int) ∧ (-9 : Int) < 128) ∧ (ab_ir (M62 797 25) ∧ ab_ir (-9 : Int)) ∧ ((¬ (M62 797 25) = (-9 : Int) → (∃ n', n' < n ∧ ((n' = 2 * (M 797 9 - (ab_up M62 797 24 ((M62 797 24) + (0 : Int))) 797 24).toNat + (if (ab_up M62 797 24 ((M62 797 24) + (0 : Int))) 797 25 = -9 then 1 else 0) ∧ pz_rt M (ab_up M62 797 24 ((M62 797 24) + (0 : Int))) f (x + (0 : Int)))))) ∧ ((M62 797 25) = (-9 : Int) → (∃ n', n' < n ∧ ((n' = 2 * (M 797 9 - (ab_up M62 797 24 ((M62 797 24) + (1 : Int))) 797 24).toNat + (if (ab_up M62 797 24 ((M62 797 24) + (1 : Int))) 797 25 = -9 then 1 else 0) ∧ pz_rt M (ab_up M62 797 24 ((M62 797 24) + (1 : Int))) f (x + (0 : Int)))))))))) ∧ (¬ r67 = 0 → (-128 ≤ (-9 : Int) ∧ (-9 : Int) < 128) ∧ (ab_ir (M62 797 25) ∧ ab_ir (-9 : Int)) ∧ ((¬ (M62 797 25) = (-9 : Int) → (∃ n', n' < n ∧ ((n' = 2 * (M 797 9 - (ab_up M62 797 24 ((M62 797 24) + (0 : Int))) 797 24).toNat + (if (ab_up M62 797 24 ((M62 797 24) + (0 : Int))) 797 25 = -9 then 1 else 0) ∧ pz_rt M (ab_up M62 797 24 ((M62 797 24) + (0 : Int))) f (x + (1 : Int)))))) ∧ ((M62 797 25) = (-9 : Int) → (∃ n', n' < n ∧ ((n' = 2 * (M 797 9 - (ab_up M62 797 24 ((M62 797 24) + (1 : Int))) 797 24).toNat + (if (ab_up M62 797 24 ((M62 797 24) + (1 : Int))) 797 25 = -9 then 1 else 0) ∧ pz_rt M (ab_up M62 797 24 ((M62 797 24) + (1 : Int))) f (x + (1 : Int)))))))))))) ∧ (r45 = 0 → (-128 ≤ (33 : Int) ∧ (33 : Int) < 128) ∧ (ab_ir r21 ∧ ab_ir (33 : Int)) ∧ ((¬ r21 = (33 : Int) → (((0 : Int) = 0 ∨ (0 : Int) = 1) ∧ ab_ir (M1 797 25)) ∧ (∀ M62 : ab_M, (M62 = if M1 797 25 = -9 ∧ (0 : Int) = 0 then ab_up M1 797 25 (M1 797 24) else M1) → (ab_ir r21) ∧ (∀ r67 : Int, (r67 = if r21 = 43 ∨ r21 = 45 ∨ r21 = 61 ∨ r21 = 60 ∨ r21 = 38 ∨ r21 = 124 then 1 else 0) → (ab_ir r67) ∧ ((r67 = 0 → (-128 ≤ (33 : Int) ∧ (33 : Int) < 128) ∧ (ab_ir r21 ∧ ab_ir (33 : Int)) ∧ ((¬ r21 = (33 : Int) → (-128 ≤ (-9 : Int) ∧ (-9 : Int) < 128) ∧ (ab_ir (M62 797 25) ∧ ab_ir (-9 : Int)) ∧ ((¬ (M62 797 25) = (-9 : Int) → (∃ n', n' < n ∧ ((n' = 2 * (M 797 9 - (ab_up M62 797 24 ((M62 797 24) + (0 : Int))) 797 24).toNat + (if (ab_up M62 797 24 ((M62 797 24) + (0 : Int))) 797 25 = -9 then 1 else 0) ∧ pz_rt M (ab_up M62 797 24 ((M62 797 24) + (0 : Int))) f (x + (-1 : Int)))))) ∧ ((M62 797 25) = (-9 : Int) → (∃ n', n' < n ∧ ((n' = 2 * (M 797 9 - (ab_up M62 797 24 ((M62 797 24) + (1 : Int))) 797 24).toNat + (if (ab_up M62 797 24 ((M62 797 24) + (1 : Int))) 797 25 = -9 then 1 else 0) ∧ pz_rt M (ab_up M62 797 24 ((M62 797 24) + (1 : Int))) f (x + (-1 : Int)))))))) ∧ (r21 = (33 : Int) → (-128 ≤ (-9 : Int) ∧ (-9 : Int) < 128) ∧ (ab_ir (M62 797 25) ∧ ab_ir (-9 : Int)) ∧ ((¬ (M62 797 25) = (-9 : Int) → (∃ n', n' < n ∧ ((n' = 2 * (M 797 9 - (ab_up M62 797 24 ((M62 797 24) + (0 : Int))) 797 24).toNat + (if (ab_up M62 797 24 ((M62 797 24) + (0 : Int))) 797 25 = -9 then 1 else 0) ∧ pz_rt M (ab_up M62 797 24 ((M62 797 24) + (0 : Int))) f (x + (0 : Int)))))) ∧ ((M62 797 25) = (-9 : Int) → (∃ n', n' < n ∧ ((n' = 2 * (M 797 9 - (ab_up M62 797 24 ((M62 797 24) + (1 : Int))) 797 24).toNat + (if (ab_up M62 797 24 ((M62 797 24) + (1 : Int))) 797 25 = -9 then 1 else 0) ∧ pz_rt M (ab_up M62 797 24 ((M62 797 24) + (1 : Int))) f (x + (0 : Int)))))))))) ∧ (¬ r67 = 0 → (-128 ≤ (-9 : Int) ∧ (-9 : Int) < 128) ∧ (ab_ir (M62 797 25) ∧ ab_ir (-9 : Int)) ∧ ((¬ (M62 797 25) = (-9 : Int) → (∃ n', n' < n ∧ ((n' = 2 * (M 797 9 - (ab_up M62 797 24 ((M62 797 24) + (0 : Int))) 797 24).toNat + (if (ab_up M62 797 24 ((M62 797 24) + (0 : Int))) 797 25 = -9 then 1 else 0) ∧ pz_rt M (ab_up M62 797 24 ((M62 797 24) + (0 : Int))) f (x + (1 : Int)))))) ∧ ((M62 797 25) = (-9 : Int) → (∃ n', n' < n ∧ ((n' = 2 * (M 797 9 - (ab_up M62 797 24 ((M62 797 24) + (1 : Int))) 797 24).toNat + (if (ab_up M62 797 24 ((M62 797 24) + (1 : Int))) 797 25 = -9 then 1 else 0) ∧ pz_rt M (ab_up M62 797 24 ((M62 797 24) + (1 : Int))) f (x + (1 : Int)))))))))))) ∧ (r21 = (33 : Int) → (((1 : Int) = 0 ∨ (1 : Int) = 1) ∧ ab_ir (M1 797 25)) ∧ (∀ M62 : ab_M, (M62 = if M1 797 25 = -9 ∧ (1 : Int) = 0 then ab_up M1 797 25 (M1 797 24) else M1) → (ab_ir r21) ∧ (∀ r67 : Int, (r67 = if r21 = 43 ∨ r21 = 45 ∨ r21 = 61 ∨ r21 = 60 ∨ r21 = 38 ∨ r21 = 124 then 1 else 0) → (ab_ir r67) ∧ ((r67 = 0 → (-128 ≤ (33 : Int) ∧ (33 : Int) < 128) ∧ (ab_ir r21 ∧ ab_ir (33 : Int)) ∧ ((¬ r21 = (33 : Int) → (-128 ≤ (-9 : Int) ∧ (-9 : Int) < 128) ∧ (ab_ir (M62 797 25) ∧ ab_ir (-9 : Int)) ∧ ((¬ (M62 797 25) = (-9 : Int) → (∃ n', n' < n ∧ ((n' = 2 * (M 797 9 - (ab_up M62 797 24 ((M62 797 24) + (0 : Int))) 797 24).toNat + (if (ab_up M62 797 24 ((M62 797 24) + (0 : Int))) 797 25 = -9 then 1 else 0) ∧ pz_rt M (ab_up M62 797 24 ((M62 797 24) + (0 : Int))) f (x + (-1 : Int)))))) ∧ ((M62 797 25) = (-9 : Int) → (∃ n', n' < n ∧ ((n' = 2 * (M 797 9 - (ab_up M62 797 24 ((M62 797 24) + (1 : Int))) 797 24).toNat + (if (ab_up M62 797 24 ((M62 797 24) + (1 : Int))) 797 25 = -9 then 1 else 0) ∧ pz_rt M (ab_up M62 797 24 ((M62 797 24) + (1 : Int))) f (x + (-1 : Int)))))))) ∧ (r21 = (33 : Int) → (-128 ≤ (-9 : Int) ∧ (-9 : Int) < 128) ∧ (ab_ir (M62 797 25) ∧ ab_ir (-9 : Int)) ∧ ((¬ (M62 797 25) = (-9 : Int) → (∃ n', n' < n ∧ ((n' = 2 * (M 797 9 - (ab_up M62 797 24 ((M62 797 24) + (0 : Int))) 797 24).toNat + (if (ab_up M62 797 24 ((M62 797 24) + (0 : Int))) 797 25 = -9 then 1 else 0) ∧ pz_rt M (ab_up M62 797 24 ((M62 797 24) + (0 : Int))) f (x + (0 : Int)))))) ∧ ((M62 797 25) = (-9 : Int) → (∃ n', n' < n ∧ ((n' = 2 * (M 797 9 - (ab_up M62 797 24 ((M62 797 24) + (1 : Int))) 797 24).toNat + (if (ab_up M62 797 24 ((M62 797 24) + (1 : Int))) 797 25 = -9 then 1 else 0) ∧ pz_rt M (ab_up M62 797 24 ((M62 797 24) + (1 : Int))) f (x + (0 : Int)))))))))) ∧ (¬ r67 = 0 → (-128 ≤ (-9 : Int) ∧ (-9 : Int) < 128) ∧ (ab_ir (M62 797 25) ∧ ab_ir (-9 : Int)) ∧ ((¬ (M62 797 25) = (-9 : Int) → (∃ n', n' < n ∧ ((n' = 2 * (M 797 9 - (ab_up M62 797 24 ((M62 797 24) + (0 : Int))) 797 24).toNat + (if (ab_up M62 797 24 ((M62 797 24) + (0 : Int))) 797 25 = -9 then 1 else 0) ∧ pz_rt M (ab_up M62 797 24 ((M62 797 24) + (0 : Int))) f (x + (1 : Int)))))) ∧ ((M62 797 25) = (-9 : Int) → (∃ n', n' < n ∧ ((n' = 2 * (M 797 9 - (ab_up M62 797 24 ((M62 797 24) + (1 : Int))) 797 24).toNat + (if (ab_up M62 797 24 ((M62 797 24) + (1 : Int))) 797 25 = -9 then 1 else 0) ∧ pz_rt M (ab_up M62 797 24 ((M62 797 24) + (1 : Int))) f (x + (1 : Int))))))))))))))))))))))))))) := by
  obtain ⟨hn, hrt⟩ := hI
  have hfr := hrt.2.1
  have hLS1 : pz_LS M1 := hfr.LS hS.1.1 (by have := hrt.2.2.1; have := hS.1.1.2.2.2.1; omega) hrt.2.2.2.1
  have hir : ab_ir (M1 797 25) := by
    rcases hrt.2.2.2.2.2.2 with h | h
    · rw [h.1]; exact ⟨by decide, by decide⟩
    · exact h.2.1
  have hb1 := hrt.2.2.2.2.1
  have hb2 := hrt.2.2.2.2.2.1
  have hb3 := hrt.1
  have hb4 := hrt.2.2.1
  have hb5 := hrt.2.2.2.1
  obtain ⟨hs1, hs2, hs3, hs4, hs5⟩ := hS.1.1
  refine And.intro (by
    first
      | omega
      | (simp [ab_up_a]; done)
      | (simp [ab_up_a]; omega)) ?_
  refine And.intro (by
    first
      | omega
      | (simp [ab_up_a]; done)
      | (simp [ab_up_a]; omega)) ?_
  refine ⟨?_, ?_⟩
  · intro c13
    have hq := hrt.fin2 hS.1.1 (by omega)
    exact hS.2 _ _ hq.1 hq.2
  · intro c13
    refine And.intro (by
      first
        | omega
        | (simp [ab_up_a]; done)
        | (simp [ab_up_a]; omega)) ?_
    refine ⟨?_, ?_⟩
    · intro c17
      have hq := hrt.fin2 hS.1.1 (by omega)
      exact hS.2 _ _ hq.1 hq.2
    · intro c17
      refine And.intro (by
        exact hLS1) ?_
      intro r21 hr21
      have hcc := pz_here hLS1 hr21
      rw [hfr.L] at hcc
      have hcr : ab_ir r21 := by
        rw [hr21]
        split
        · have := hLS1.2.2.1 (M1 797 24).toNat
          omega
        · exact ⟨by decide, by decide⟩
      refine And.intro (by
        first
          | omega
          | (simp [ab_up_a]; done)
          | (simp [ab_up_a]; omega)) ?_
      intro r27 hr27
      refine And.intro (by
        first
          | omega
          | (simp [ab_up_a]; done)
          | (simp [ab_up_a]; omega)) ?_
      refine ⟨?_, ?_⟩
      · intro c30
        rw [hr27] at c30
        rw [ab_bt] at c30
        clear hr27 r27
        refine And.intro (by
          first
            | omega
            | (simp [ab_up_a]; done)
            | (simp [ab_up_a]; omega)) ?_
        intro M62 hM62
        have h62r : ab_ir (M62 797 25) := by
          rw [hM62]
          split
          · rw [ab_up_s]
            exact ⟨by omega, by omega⟩
          · exact hir
        refine And.intro (by
          first
            | omega
            | (simp [ab_up_a]; done)
            | (simp [ab_up_a]; omega)) ?_
        intro r67 hr67
        refine And.intro (by
          first
            | omega
            | (simp [ab_up_a]; done)
            | (simp [ab_up_a]; omega)) ?_
        refine ⟨?_, ?_⟩
        · intro c70
          rw [hr67] at c70
          rw [ab_bf] at c70
          clear hr67 r67
          refine And.intro (by
            first
              | omega
              | (simp [ab_up_a]; done)
              | (simp [ab_up_a]; omega)) ?_
          refine And.intro (by
            first
              | omega
              | (simp [ab_up_a]; done)
              | (simp [ab_up_a]; omega)) ?_
          refine ⟨?_, ?_⟩
          · intro c80
            refine And.intro (by
              first
                | omega
                | (simp [ab_up_a]; done)
                | (simp [ab_up_a]; omega)) ?_
            refine And.intro (by
              first
                | omega
                | (simp [ab_up_a]; done)
                | (simp [ab_up_a]; omega)) ?_
            refine ⟨?_, ?_⟩
            · intro c101
              have e62 : M62 = M1 := by rw [hM62, if_neg (by omega)]
              rw [e62] at c101
              exact absurd c13 c101
            · intro c101
              have e62 : M62 = M1 := by rw [hM62, if_neg (by omega)]
              rw [e62]
              have hq := fun x' hx' => hrt.tok (x' := x') hS.1.1 c13 c17 hcc (by unfold pz_name pz_dig pz_two; omega) hx'
              refine ⟨_, ?_, rfl, (hq _ ?_).1⟩
              · have := (hq _ rfl).2
                rw [ab_up_s, ab_up_k (by decide), hn]
                split <;> omega
              · unfold pz_two
                first | omega | ((repeat' split) <;> omega)
          · intro c80
            refine And.intro (by
              first
                | omega
                | (simp [ab_up_a]; done)
                | (simp [ab_up_a]; omega)) ?_
            refine And.intro (by
              first
                | omega
                | (simp [ab_up_a]; done)
                | (simp [ab_up_a]; omega)) ?_
            refine ⟨?_, ?_⟩
            · intro c101
              have e62 : M62 = M1 := by rw [hM62, if_neg (by omega)]
              rw [e62] at c101
              exact absurd c13 c101
            · intro c101
              have e62 : M62 = M1 := by rw [hM62, if_neg (by omega)]
              rw [e62]
              have hq := fun x' hx' => hrt.tok (x' := x') hS.1.1 c13 c17 hcc (by unfold pz_name pz_dig pz_two; omega) hx'
              refine ⟨_, ?_, rfl, (hq _ ?_).1⟩
              · have := (hq _ rfl).2
                rw [ab_up_s, ab_up_k (by decide), hn]
                split <;> omega
              · unfold pz_two
                first | omega | ((repeat' split) <;> omega)
        · intro c70
          rw [hr67] at c70
          rw [ab_bt] at c70
          clear hr67 r67
          refine And.intro (by
            first
              | omega
              | (simp [ab_up_a]; done)
              | (simp [ab_up_a]; omega)) ?_
          refine And.intro (by
            first
              | omega
              | (simp [ab_up_a]; done)
              | (simp [ab_up_a]; omega)) ?_
          refine ⟨?_, ?_⟩
          · intro c101
            have e62 : M62 = M1 := by rw [hM62, if_neg (by omega)]
            rw [e62] at c101
            exact absurd c13 c101
          · intro c101
            have e62 : M62 = M1 := by rw [hM62, if_neg (by omega)]
            rw [e62]
            have hq := fun x' hx' => hrt.tok (x' := x') hS.1.1 c13 c17 hcc (by unfold pz_name pz_dig pz_two; omega) hx'
            refine ⟨_, ?_, rfl, (hq _ ?_).1⟩
            · have := (hq _ rfl).2
              rw [ab_up_s, ab_up_k (by decide), hn]
              split <;> omega
            · unfold pz_two
              first | omega | ((repeat' split) <;> omega)
      · intro c30
        rw [hr27] at c30
        rw [ab_bf] at c30
        clear hr27 r27
        refine And.intro (by
          first
            | omega
            | (simp [ab_up_a]; done)
            | (simp [ab_up_a]; omega)) ?_
        refine And.intro (by
          first
            | omega
            | (simp [ab_up_a]; done)
            | (simp [ab_up_a]; omega)) ?_
        refine And.intro (by
          first
            | omega
            | (simp [ab_up_a]; done)
            | (simp [ab_up_a]; omega)) ?_
        intro r38 hr38
        refine And.intro (by
          first
            | omega
            | (simp [ab_up_a]; done)
            | (simp [ab_up_a]; omega)) ?_
        refine ⟨?_, ?_⟩
        · intro c41
          rw [hr38] at c41
          rw [ab_bt] at c41
          clear hr38 r38
          refine And.intro (by
            first
              | omega
              | (simp [ab_up_a]; done)
              | (simp [ab_up_a]; omega)) ?_
          intro M62 hM62
          have h62r : ab_ir (M62 797 25) := by
            rw [hM62]
            split
            · rw [ab_up_s]
              exact ⟨by omega, by omega⟩
            · exact hir
          refine And.intro (by
            first
              | omega
              | (simp [ab_up_a]; done)
              | (simp [ab_up_a]; omega)) ?_
          intro r67 hr67
          refine And.intro (by
            first
              | omega
              | (simp [ab_up_a]; done)
              | (simp [ab_up_a]; omega)) ?_
          refine ⟨?_, ?_⟩
          · intro c70
            rw [hr67] at c70
            rw [ab_bf] at c70
            clear hr67 r67
            refine And.intro (by
              first
                | omega
                | (simp [ab_up_a]; done)
                | (simp [ab_up_a]; omega)) ?_
            refine And.intro (by
              first
                | omega
                | (simp [ab_up_a]; done)
                | (simp [ab_up_a]; omega)) ?_
            refine ⟨?_, ?_⟩
            · intro c80
              refine And.intro (by
                first
                  | omega
                  | (simp [ab_up_a]; done)
                  | (simp [ab_up_a]; omega)) ?_
              refine And.intro (by
                first
                  | omega
                  | (simp [ab_up_a]; done)
                  | (simp [ab_up_a]; omega)) ?_
              refine ⟨?_, ?_⟩
              · intro c101
                have e62 : M62 = M1 := by rw [hM62, if_neg (by omega)]
                rw [e62] at c101
                exact absurd c13 c101
              · intro c101
                have e62 : M62 = M1 := by rw [hM62, if_neg (by omega)]
                rw [e62]
                have hq := fun x' hx' => hrt.tok (x' := x') hS.1.1 c13 c17 hcc (by unfold pz_name pz_dig pz_two; omega) hx'
                refine ⟨_, ?_, rfl, (hq _ ?_).1⟩
                · have := (hq _ rfl).2
                  rw [ab_up_s, ab_up_k (by decide), hn]
                  split <;> omega
                · unfold pz_two
                  first | omega | ((repeat' split) <;> omega)
            · intro c80
              refine And.intro (by
                first
                  | omega
                  | (simp [ab_up_a]; done)
                  | (simp [ab_up_a]; omega)) ?_
              refine And.intro (by
                first
                  | omega
                  | (simp [ab_up_a]; done)
                  | (simp [ab_up_a]; omega)) ?_
              refine ⟨?_, ?_⟩
              · intro c101
                have e62 : M62 = M1 := by rw [hM62, if_neg (by omega)]
                rw [e62] at c101
                exact absurd c13 c101
              · intro c101
                have e62 : M62 = M1 := by rw [hM62, if_neg (by omega)]
                rw [e62]
                have hq := fun x' hx' => hrt.tok (x' := x') hS.1.1 c13 c17 hcc (by unfold pz_name pz_dig pz_two; omega) hx'
                refine ⟨_, ?_, rfl, (hq _ ?_).1⟩
                · have := (hq _ rfl).2
                  rw [ab_up_s, ab_up_k (by decide), hn]
                  split <;> omega
                · unfold pz_two
                  first | omega | ((repeat' split) <;> omega)
          · intro c70
            rw [hr67] at c70
            rw [ab_bt] at c70
            clear hr67 r67
            refine And.intro (by
              first
                | omega
                | (simp [ab_up_a]; done)
                | (simp [ab_up_a]; omega)) ?_
            refine And.intro (by
              first
                | omega
                | (simp [ab_up_a]; done)
                | (simp [ab_up_a]; omega)) ?_
            refine ⟨?_, ?_⟩
            · intro c101
              have e62 : M62 = M1 := by rw [hM62, if_neg (by omega)]
              rw [e62] at c101
              exact absurd c13 c101
            · intro c101
              have e62 : M62 = M1 := by rw [hM62, if_neg (by omega)]
              rw [e62]
              have hq := fun x' hx' => hrt.tok (x' := x') hS.1.1 c13 c17 hcc (by unfold pz_name pz_dig pz_two; omega) hx'
              refine ⟨_, ?_, rfl, (hq _ ?_).1⟩
              · have := (hq _ rfl).2
                rw [ab_up_s, ab_up_k (by decide), hn]
                split <;> omega
              · unfold pz_two
                first | omega | ((repeat' split) <;> omega)
        · intro c41
          rw [hr38] at c41
          rw [ab_bf] at c41
          clear hr38 r38
          refine And.intro (by
            first
              | omega
              | (simp [ab_up_a]; done)
              | (simp [ab_up_a]; omega)) ?_
          intro r45 hr45
          refine And.intro (by
            first
              | omega
              | (simp [ab_up_a]; done)
              | (simp [ab_up_a]; omega)) ?_
          refine ⟨?_, ?_⟩
          · intro c48
            rw [hr45] at c48
            rw [ab_bt] at c48
            clear hr45 r45
            refine And.intro (by
              first
                | omega
                | (simp [ab_up_a]; done)
                | (simp [ab_up_a]; omega)) ?_
            intro M62 hM62
            have h62r : ab_ir (M62 797 25) := by
              rw [hM62]
              split
              · rw [ab_up_s]
                exact ⟨by omega, by omega⟩
              · exact hir
            refine And.intro (by
              first
                | omega
                | (simp [ab_up_a]; done)
                | (simp [ab_up_a]; omega)) ?_
            intro r67 hr67
            refine And.intro (by
              first
                | omega
                | (simp [ab_up_a]; done)
                | (simp [ab_up_a]; omega)) ?_
            refine ⟨?_, ?_⟩
            · intro c70
              rw [hr67] at c70
              rw [ab_bf] at c70
              clear hr67 r67
              refine And.intro (by
                first
                  | omega
                  | (simp [ab_up_a]; done)
                  | (simp [ab_up_a]; omega)) ?_
              refine And.intro (by
                first
                  | omega
                  | (simp [ab_up_a]; done)
                  | (simp [ab_up_a]; omega)) ?_
              refine ⟨?_, ?_⟩
              · intro c80
                refine And.intro (by
                  first
                    | omega
                    | (simp [ab_up_a]; done)
                    | (simp [ab_up_a]; omega)) ?_
                refine And.intro (by
                  first
                    | omega
                    | (simp [ab_up_a]; done)
                    | (simp [ab_up_a]; omega)) ?_
                refine ⟨?_, ?_⟩
                · intro c101
                  have e62 : M62 = M1 := by rw [hM62, if_neg (by omega)]
                  rw [e62] at c101
                  exact absurd c13 c101
                · intro c101
                  have e62 : M62 = M1 := by rw [hM62, if_neg (by omega)]
                  rw [e62]
                  have hq := fun x' hx' => hrt.tok (x' := x') hS.1.1 c13 c17 hcc (by unfold pz_name pz_dig pz_two; omega) hx'
                  refine ⟨_, ?_, rfl, (hq _ ?_).1⟩
                  · have := (hq _ rfl).2
                    rw [ab_up_s, ab_up_k (by decide), hn]
                    split <;> omega
                  · unfold pz_two
                    first | omega | ((repeat' split) <;> omega)
              · intro c80
                refine And.intro (by
                  first
                    | omega
                    | (simp [ab_up_a]; done)
                    | (simp [ab_up_a]; omega)) ?_
                refine And.intro (by
                  first
                    | omega
                    | (simp [ab_up_a]; done)
                    | (simp [ab_up_a]; omega)) ?_
                refine ⟨?_, ?_⟩
                · intro c101
                  have e62 : M62 = M1 := by rw [hM62, if_neg (by omega)]
                  rw [e62] at c101
                  exact absurd c13 c101
                · intro c101
                  have e62 : M62 = M1 := by rw [hM62, if_neg (by omega)]
                  rw [e62]
                  have hq := fun x' hx' => hrt.tok (x' := x') hS.1.1 c13 c17 hcc (by unfold pz_name pz_dig pz_two; omega) hx'
                  refine ⟨_, ?_, rfl, (hq _ ?_).1⟩
                  · have := (hq _ rfl).2
                    rw [ab_up_s, ab_up_k (by decide), hn]
                    split <;> omega
                  · unfold pz_two
                    first | omega | ((repeat' split) <;> omega)
            · intro c70
              rw [hr67] at c70
              rw [ab_bt] at c70
              clear hr67 r67
              refine And.intro (by
                first
                  | omega
                  | (simp [ab_up_a]; done)
                  | (simp [ab_up_a]; omega)) ?_
              refine And.intro (by
                first
                  | omega
                  | (simp [ab_up_a]; done)
                  | (simp [ab_up_a]; omega)) ?_
              refine ⟨?_, ?_⟩
              · intro c101
                have e62 : M62 = M1 := by rw [hM62, if_neg (by omega)]
                rw [e62] at c101
                exact absurd c13 c101
              · intro c101
                have e62 : M62 = M1 := by rw [hM62, if_neg (by omega)]
                rw [e62]
                have hq := fun x' hx' => hrt.tok (x' := x') hS.1.1 c13 c17 hcc (by unfold pz_name pz_dig pz_two; omega) hx'
                refine ⟨_, ?_, rfl, (hq _ ?_).1⟩
                · have := (hq _ rfl).2
                  rw [ab_up_s, ab_up_k (by decide), hn]
                  split <;> omega
                · unfold pz_two
                  first | omega | ((repeat' split) <;> omega)
          · intro c48
            rw [hr45] at c48
            rw [ab_bf] at c48
            clear hr45 r45
            refine And.intro (by
              first
                | omega
                | (simp [ab_up_a]; done)
                | (simp [ab_up_a]; omega)) ?_
            refine And.intro (by
              first
                | omega
                | (simp [ab_up_a]; done)
                | (simp [ab_up_a]; omega)) ?_
            refine ⟨?_, ?_⟩
            · intro c54
              refine And.intro (by
                first
                  | omega
                  | (simp [ab_up_a]; done)
                  | (simp [ab_up_a]; omega)) ?_
              intro M62 hM62
              have h62r : ab_ir (M62 797 25) := by
                rw [hM62]
                split
                · rw [ab_up_s]
                  exact ⟨by omega, by omega⟩
                · exact hir
              refine And.intro (by
                first
                  | omega
                  | (simp [ab_up_a]; done)
                  | (simp [ab_up_a]; omega)) ?_
              intro r67 hr67
              refine And.intro (by
                first
                  | omega
                  | (simp [ab_up_a]; done)
                  | (simp [ab_up_a]; omega)) ?_
              refine ⟨?_, ?_⟩
              · intro c70
                rw [hr67] at c70
                rw [ab_bf] at c70
                clear hr67 r67
                refine And.intro (by
                  first
                    | omega
                    | (simp [ab_up_a]; done)
                    | (simp [ab_up_a]; omega)) ?_
                refine And.intro (by
                  first
                    | omega
                    | (simp [ab_up_a]; done)
                    | (simp [ab_up_a]; omega)) ?_
                refine ⟨?_, ?_⟩
                · intro c80
                  refine And.intro (by
                    first
                      | omega
                      | (simp [ab_up_a]; done)
                      | (simp [ab_up_a]; omega)) ?_
                  refine And.intro (by
                    first
                      | omega
                      | (simp [ab_up_a]; done)
                      | (simp [ab_up_a]; omega)) ?_
                  refine ⟨?_, ?_⟩
                  · intro c101
                    have e62 : M62 = ab_up M1 797 25 (M1 797 24) := by rw [hM62, if_pos ⟨by omega, by omega⟩]
                    have hq := fun x' hx' => hrt.bad (x' := x') hS.1.1 c13 c17 hcc (by unfold pz_name pz_dig pz_two; omega) hx'
                    rw [e62, show ab_up M1 797 25 (M1 797 24) 797 24 = M1 797 24 from ab_up_k (by decide) _]
                    refine ⟨_, ?_, rfl, hq _ ?_⟩
                    · rw [ab_up_s, ab_up_k (by decide), ab_up_s, hn, if_neg (by omega), if_pos c13]
                      omega
                    · unfold pz_two
                      first | omega | ((repeat' split) <;> omega)
                  · intro c101
                    have e62 : M62 = ab_up M1 797 25 (M1 797 24) := by rw [hM62, if_pos ⟨by omega, by omega⟩]
                    rw [e62, ab_up_s] at c101
                    omega
                · intro c80
                  refine And.intro (by
                    first
                      | omega
                      | (simp [ab_up_a]; done)
                      | (simp [ab_up_a]; omega)) ?_
                  refine And.intro (by
                    first
                      | omega
                      | (simp [ab_up_a]; done)
                      | (simp [ab_up_a]; omega)) ?_
                  refine ⟨?_, ?_⟩
                  · intro c101
                    have e62 : M62 = ab_up M1 797 25 (M1 797 24) := by rw [hM62, if_pos ⟨by omega, by omega⟩]
                    have hq := fun x' hx' => hrt.bad (x' := x') hS.1.1 c13 c17 hcc (by unfold pz_name pz_dig pz_two; omega) hx'
                    rw [e62, show ab_up M1 797 25 (M1 797 24) 797 24 = M1 797 24 from ab_up_k (by decide) _]
                    refine ⟨_, ?_, rfl, hq _ ?_⟩
                    · rw [ab_up_s, ab_up_k (by decide), ab_up_s, hn, if_neg (by omega), if_pos c13]
                      omega
                    · unfold pz_two
                      first | omega | ((repeat' split) <;> omega)
                  · intro c101
                    have e62 : M62 = ab_up M1 797 25 (M1 797 24) := by rw [hM62, if_pos ⟨by omega, by omega⟩]
                    rw [e62, ab_up_s] at c101
                    omega
              · intro c70
                rw [hr67] at c70
                rw [ab_bt] at c70
                clear hr67 r67
                refine And.intro (by
                  first
                    | omega
                    | (simp [ab_up_a]; done)
                    | (simp [ab_up_a]; omega)) ?_
                refine And.intro (by
                  first
                    | omega
                    | (simp [ab_up_a]; done)
                    | (simp [ab_up_a]; omega)) ?_
                refine ⟨?_, ?_⟩
                · intro c101
                  have e62 : M62 = ab_up M1 797 25 (M1 797 24) := by rw [hM62, if_pos ⟨by omega, by omega⟩]
                  have hq := fun x' hx' => hrt.bad (x' := x') hS.1.1 c13 c17 hcc (by unfold pz_name pz_dig pz_two; omega) hx'
                  rw [e62, show ab_up M1 797 25 (M1 797 24) 797 24 = M1 797 24 from ab_up_k (by decide) _]
                  refine ⟨_, ?_, rfl, hq _ ?_⟩
                  · rw [ab_up_s, ab_up_k (by decide), ab_up_s, hn, if_neg (by omega), if_pos c13]
                    omega
                  · unfold pz_two
                    first | omega | ((repeat' split) <;> omega)
                · intro c101
                  have e62 : M62 = ab_up M1 797 25 (M1 797 24) := by rw [hM62, if_pos ⟨by omega, by omega⟩]
                  rw [e62, ab_up_s] at c101
                  omega
            · intro c54
              refine And.intro (by
                first
                  | omega
                  | (simp [ab_up_a]; done)
                  | (simp [ab_up_a]; omega)) ?_
              intro M62 hM62
              have h62r : ab_ir (M62 797 25) := by
                rw [hM62]
                split
                · rw [ab_up_s]
                  exact ⟨by omega, by omega⟩
                · exact hir
              refine And.intro (by
                first
                  | omega
                  | (simp [ab_up_a]; done)
                  | (simp [ab_up_a]; omega)) ?_
              intro r67 hr67
              refine And.intro (by
                first
                  | omega
                  | (simp [ab_up_a]; done)
                  | (simp [ab_up_a]; omega)) ?_
              refine ⟨?_, ?_⟩
              · intro c70
                rw [hr67] at c70
                rw [ab_bf] at c70
                clear hr67 r67
                refine And.intro (by
                  first
                    | omega
                    | (simp [ab_up_a]; done)
                    | (simp [ab_up_a]; omega)) ?_
                refine And.intro (by
                  first
                    | omega
                    | (simp [ab_up_a]; done)
                    | (simp [ab_up_a]; omega)) ?_
                refine ⟨?_, ?_⟩
                · intro c80
                  refine And.intro (by
                    first
                      | omega
                      | (simp [ab_up_a]; done)
                      | (simp [ab_up_a]; omega)) ?_
                  refine And.intro (by
                    first
                      | omega
                      | (simp [ab_up_a]; done)
                      | (simp [ab_up_a]; omega)) ?_
                  refine ⟨?_, ?_⟩
                  · intro c101
                    have e62 : M62 = M1 := by rw [hM62, if_neg (by omega)]
                    rw [e62] at c101
                    exact absurd c13 c101
                  · intro c101
                    have e62 : M62 = M1 := by rw [hM62, if_neg (by omega)]
                    rw [e62]
                    have hq := fun x' hx' => hrt.tok (x' := x') hS.1.1 c13 c17 hcc (by unfold pz_name pz_dig pz_two; omega) hx'
                    refine ⟨_, ?_, rfl, (hq _ ?_).1⟩
                    · have := (hq _ rfl).2
                      rw [ab_up_s, ab_up_k (by decide), hn]
                      split <;> omega
                    · unfold pz_two
                      first | omega | ((repeat' split) <;> omega)
                · intro c80
                  refine And.intro (by
                    first
                      | omega
                      | (simp [ab_up_a]; done)
                      | (simp [ab_up_a]; omega)) ?_
                  refine And.intro (by
                    first
                      | omega
                      | (simp [ab_up_a]; done)
                      | (simp [ab_up_a]; omega)) ?_
                  refine ⟨?_, ?_⟩
                  · intro c101
                    have e62 : M62 = M1 := by rw [hM62, if_neg (by omega)]
                    rw [e62] at c101
                    exact absurd c13 c101
                  · intro c101
                    have e62 : M62 = M1 := by rw [hM62, if_neg (by omega)]
                    rw [e62]
                    have hq := fun x' hx' => hrt.tok (x' := x') hS.1.1 c13 c17 hcc (by unfold pz_name pz_dig pz_two; omega) hx'
                    refine ⟨_, ?_, rfl, (hq _ ?_).1⟩
                    · have := (hq _ rfl).2
                      rw [ab_up_s, ab_up_k (by decide), hn]
                      split <;> omega
                    · unfold pz_two
                      first | omega | ((repeat' split) <;> omega)
              · intro c70
                rw [hr67] at c70
                rw [ab_bt] at c70
                clear hr67 r67
                refine And.intro (by
                  first
                    | omega
                    | (simp [ab_up_a]; done)
                    | (simp [ab_up_a]; omega)) ?_
                refine And.intro (by
                  first
                    | omega
                    | (simp [ab_up_a]; done)
                    | (simp [ab_up_a]; omega)) ?_
                refine ⟨?_, ?_⟩
                · intro c101
                  have e62 : M62 = M1 := by rw [hM62, if_neg (by omega)]
                  rw [e62] at c101
                  exact absurd c13 c101
                · intro c101
                  have e62 : M62 = M1 := by rw [hM62, if_neg (by omega)]
                  rw [e62]
                  have hq := fun x' hx' => hrt.tok (x' := x') hS.1.1 c13 c17 hcc (by unfold pz_name pz_dig pz_two; omega) hx'
                  refine ⟨_, ?_, rfl, (hq _ ?_).1⟩
                  · have := (hq _ rfl).2
                    rw [ab_up_s, ab_up_k (by decide), hn]
                    split <;> omega
                  · unfold pz_two
                    first | omega | ((repeat' split) <;> omega)

set_option maxRecDepth 20000 in
set_option maxHeartbeats 1000000 in
theorem ok_X9_readTerm (E : ab_E) : ab_Ok E 3 177 S_X9_readTerm := by
  refine ab_mk rq_X9_readTerm tk_X9_readTerm (rt := 1) (rfl) (cuts := [7]) (G := [(144, S_X9_here), (145, S_X9_in), (148, S_X9_isName), (150, S_X9_isTwo), (163, S_X9_must)]) (List.forall_mem_cons.mpr ⟨⟨1, by decide, ok_X9_here E⟩, List.forall_mem_cons.mpr ⟨⟨1, by decide, ok_X9_in E⟩, List.forall_mem_cons.mpr ⟨⟨2, by decide, ok_X9_isName E⟩, List.forall_mem_cons.mpr ⟨⟨1, by decide, ok_X9_isTwo E⟩, List.forall_mem_cons.mpr ⟨⟨1, by decide, ok_X9_must E⟩, fun _ h => absurd h List.not_mem_nil⟩⟩⟩⟩⟩) (by decide) 115 rfl ?_
  intro a M K wd wa hS
  unfold S_X9_readTerm at hS
  split at hS
  ·
    refine ⟨Nat.le_of_ble_eq_true rfl, fun pc n L st M1 => match pc, L, st with
      | 7, [.inr (.inr (.inr (797, 9, 0))), .inr (.inl f), .inr (.inl x), u4_], [] => (n = 2 * (M 797 9 - M1 797 24).toNat + (if M1 797 25 = -9 then 1 else 0) ∧ pz_rt M M1 f x)
      | _, _, _ => False, ?_, ?_⟩
    · exact vc_X9_readTerm_0  M K  hS
    · intro pc n L st M1 hI wd1 wL wst
      (try dsimp only at hI)
      split at hI
      ·
        rename_i f x u4_
        exact vc_X9_readTerm_7  M K  hS n f x _ hI
      · exact hI.elim
  · exact hS.elim
def S_X9_readName : ab_PT := fun a M K => match a with
  | [.inr (.inr (.inr (797, 9, 0)))] => (pz_LS M ∧ ab_ir (M 797 25)) ∧ (∀ rx : Int, ∀ Mx : ab_M, (pz_fr M Mx ∧ 0 ≤ Mx 797 24 ∧ Mx 797 24 ≤ M 797 9 ∧ ab_ir (Mx 797 25) ∧ 0 ≤ (pz_nm (pz_L M) (M 797 24) (M 797 25)).1 ∧ (pz_nm (pz_L M) (M 797 24) (M 797 25)).1 ≤ 3) → (rx = (pz_nm (pz_L M) (M 797 24) (M 797 25)).1 ∧ Mx 797 24 = (pz_nm (pz_L M) (M 797 24) (M 797 25)).2.1 ∧ Mx 797 25 = (pz_nm (pz_L M) (M 797 24) (M 797 25)).2.2) → K [Xi rx] Mx)
  | _ => False
set_option maxRecDepth 20000 in
theorem vc_X9_readName_0  (M : ab_M) (K : List ab_V → ab_M → Prop) (hS : (pz_LS M ∧ ab_ir (M 797 25)) ∧ (∀ rx : Int, ∀ Mx : ab_M, (pz_fr M Mx ∧ 0 ≤ Mx 797 24 ∧ Mx 797 24 ≤ M 797 9 ∧ ab_ir (Mx 797 25) ∧ 0 ≤ (pz_nm (pz_L M) (M 797 24) (M 797 25)).1 ∧ (pz_nm (pz_L M) (M 797 24) (M 797 25)).1 ≤ 3) → (rx = (pz_nm (pz_L M) (M 797 24) (M 797 25)).1 ∧ Mx 797 24 = (pz_nm (pz_L M) (M 797 24) (M 797 25)).2.1 ∧ Mx 797 25 = (pz_nm (pz_L M) (M 797 24) (M 797 25)).2.2) → K [Xi rx] Mx)) : ((0 ≤ M 797 9 ∧ M 797 9 ≤ 640 ∧ (∀ j, 0 ≤ M 803 j ∧ M 803 j < 256) ∧ 0 ≤ M 797 24 ∧ M 797 24 ≤ M 797 9)) ∧ (∀ r2 : Int, (r2 = if M 797 24 < M 797 9 then M 803 (M 797 24).toNat else -9) → (ab_ir r2) ∧ (∀ r5 : Int, (r5 = if 97 ≤ r2 ∧ r2 ≤ 100 then 1 else 0) → ((r5 = 0 ∨ r5 = 1) ∧ ab_ir (M 797 25)) ∧ (∀ M8 : ab_M, (M8 = if M 797 25 = -9 ∧ r5 = 0 then ab_up M 797 25 (M 797 24) else M) → (-128 ≤ (-9 : Int) ∧ (-9 : Int) < 128) ∧ (ab_ir (M8 797 25) ∧ ab_ir (-9 : Int)) ∧ ((¬ (M8 797 25) = (-9 : Int) → (-128 ≤ (-9 : Int) ∧ (-9 : Int) < 128) ∧ (ab_ir (M8 797 25) ∧ ab_ir (-9 : Int)) ∧ ((¬ (M8 797 25) = (-9 : Int) → K [Xi (0 : Int)] (ab_up M8 797 24 ((M8 797 24) + (0 : Int)))) ∧ ((M8 797 25) = (-9 : Int) → K [Xi (0 : Int)] (ab_up M8 797 24 ((M8 797 24) + (1 : Int)))))) ∧ ((M8 797 25) = (-9 : Int) → ((0 ≤ M8 797 9 ∧ M8 797 9 ≤ 640 ∧ (∀ j, 0 ≤ M8 803 j ∧ M8 803 j < 256) ∧ 0 ≤ M8 797 24 ∧ M8 797 24 ≤ M8 797 9)) ∧ (∀ r21 : Int, (r21 = if M8 797 24 < M8 797 9 then M8 803 (M8 797 24).toNat else -9) → (-128 ≤ (97 : Int) ∧ (97 : Int) < 128) ∧ (-128 ≤ (-9 : Int) ∧ (-9 : Int) < 128) ∧ (ab_ir (M8 797 25) ∧ ab_ir (-9 : Int)) ∧ ((¬ (M8 797 25) = (-9 : Int) → K [Xi (r21 - (97 : Int))] (ab_up M8 797 24 ((M8 797 24) + (0 : Int)))) ∧ ((M8 797 25) = (-9 : Int) → K [Xi (r21 - (97 : Int))] (ab_up M8 797 24 ((M8 797 24) + (1 : Int))))))))))) := by
  skip
  refine And.intro (by
    exact hS.1.1) ?_
  intro r2 hr2
  have hcc := pz_here hS.1.1 hr2
  have hcr : ab_ir r2 := by
    rw [hr2]
    split
    · have := hS.1.1.2.2.1 (M 797 24).toNat
      omega
    · exact ⟨by decide, by decide⟩
  refine And.intro (by
    first
      | omega
      | (simp [ab_up_a]; done)
      | (simp [ab_up_a]; omega)) ?_
  intro r5 hr5
  refine And.intro (by
    first
      | omega
      | (simp [ab_up_a]; done)
      | (simp [ab_up_a]; omega)) ?_
  intro M8 hM8
  have h8r : ab_ir (M8 797 25) := by
    rw [hM8]
    split
    · rw [ab_up_s]
      have := hS.1.1.2.2.2
      have := hS.1.1.2.1
      exact ⟨by omega, by omega⟩
    · exact hS.1.2
  have h8f : pz_fr M M8 := by
    rw [hM8]
    split
    · intro o k hk
      rw [ab_up_a, if_neg (by omega)]
    · exact fun _ _ _ => rfl
  have h824 : M8 797 24 = M 797 24 := by
    rw [hM8]
    split
    · exact ab_up_k (by decide) _
    · rfl
  have h8l : pz_LS M8 := h8f.LS hS.1.1 (by rw [h824]; exact hS.1.1.2.2.2.1) (by rw [h824]; exact hS.1.1.2.2.2.2)
  refine And.intro (by
    first
      | omega
      | (simp [ab_up_a]; done)
      | (simp [ab_up_a]; omega)) ?_
  refine And.intro (by
    first
      | omega
      | (simp [ab_up_a]; done)
      | (simp [ab_up_a]; omega)) ?_
  refine ⟨?_, ?_⟩
  · intro c17
    refine And.intro (by
      first
        | omega
        | (simp [ab_up_a]; done)
        | (simp [ab_up_a]; omega)) ?_
    refine And.intro (by
      first
        | omega
        | (simp [ab_up_a]; done)
        | (simp [ab_up_a]; omega)) ?_
    refine ⟨?_, ?_⟩
    · intro c43
      have hq := (pz_nm_fin hS.1.1 hS.1.2 hcc hr5 hM8).2 c17
      exact hS.2 _ _ hq.1 hq.2
    · intro c43
      exact absurd c43 c17
  · intro c17
    refine And.intro (by
      exact h8l) ?_
    intro r21 hr21
    refine And.intro (by
      first
        | omega
        | (simp [ab_up_a]; done)
        | (simp [ab_up_a]; omega)) ?_
    refine And.intro (by
      first
        | omega
        | (simp [ab_up_a]; done)
        | (simp [ab_up_a]; omega)) ?_
    refine And.intro (by
      first
        | omega
        | (simp [ab_up_a]; done)
        | (simp [ab_up_a]; omega)) ?_
    refine ⟨?_, ?_⟩
    · intro c43
      exact absurd c17 c43
    · intro c43
      have h20 : r21 = r2 := by rw [pz_here h8l hr21, hcc, h824, h8f.L]
      rw [h20]
      have hq := (pz_nm_fin hS.1.1 hS.1.2 hcc hr5 hM8).1 c17
      exact hS.2 _ _ hq.1 hq.2

set_option maxRecDepth 20000 in
set_option maxHeartbeats 1000000 in
theorem ok_X9_readName (E : ab_E) : ab_Ok E 3 172 S_X9_readName := by
  refine ab_mk rq_X9_readName tk_X9_readName (rt := 1) (rfl) (cuts := []) (G := [(144, S_X9_here), (148, S_X9_isName), (163, S_X9_must)]) (List.forall_mem_cons.mpr ⟨⟨1, by decide, ok_X9_here E⟩, List.forall_mem_cons.mpr ⟨⟨2, by decide, ok_X9_isName E⟩, List.forall_mem_cons.mpr ⟨⟨1, by decide, ok_X9_must E⟩, fun _ h => absurd h List.not_mem_nil⟩⟩⟩) (by decide) 80 rfl ?_
  intro a M K wd wa hS
  unfold S_X9_readName at hS
  split at hS
  ·
    refine ⟨Nat.le_of_ble_eq_true rfl, fun _ _ _ _ _ => False, ?_, ?_⟩
    · exact vc_X9_readName_0  M K  hS
    · exact fun _ _ _ _ _ h => h.elim
  · exact hS.elim
def S_X9_readOpen : ab_PT := fun a M K => match a with
  | [.inr (.inr (.inr (797, 9, 0))), .inr (.inl w), .inr (.inl i)] => (pz_LS M ∧ ab_ir (M 797 25) ∧ 0 ≤ M 797 10 ∧ M 797 10 < 400 ∧ 0 ≤ M 797 27 ∧ M 797 27 < 130) ∧ (∀ Mx : ab_M, (Mx = pz_ro M w i) → K [] Mx)
  | _ => False
set_option maxRecDepth 20000 in
theorem vc_X9_readOpen_0 (w : Int) (i : Int) (M : ab_M) (K : List ab_V → ab_M → Prop) (hS : (pz_LS M ∧ ab_ir (M 797 25) ∧ 0 ≤ M 797 10 ∧ M 797 10 < 400 ∧ 0 ≤ M 797 27 ∧ M 797 27 < 130) ∧ (∀ Mx : ab_M, (Mx = pz_ro M w i) → K [] Mx)) : ((0 ≤ M 797 9 ∧ M 797 9 ≤ 640 ∧ (∀ j, 0 ≤ M 803 j ∧ M 803 j < 256) ∧ 0 ≤ M 797 24 ∧ M 797 24 ≤ M 797 9)) ∧ (∀ r2 : Int, (r2 = if M 797 24 < M 797 9 then M 803 (M 797 24).toNat else -9) → (-128 ≤ (40 : Int) ∧ (40 : Int) < 128) ∧ (ab_ir r2 ∧ ab_ir (40 : Int)) ∧ ((¬ r2 = (40 : Int) → (((0 : Int) = 0 ∨ (0 : Int) = 1) ∧ ab_ir (M 797 25)) ∧ (∀ M15 : ab_M, (M15 = if M 797 25 = -9 ∧ (0 : Int) = 0 then ab_up M 797 25 (M 797 24) else M) → (-128 ≤ (-9 : Int) ∧ (-9 : Int) < 128) ∧ (ab_ir (M15 797 25) ∧ ab_ir (-9 : Int)) ∧ ((¬ (M15 797 25) = (-9 : Int) → K [] M15) ∧ ((M15 797 25) = (-9 : Int) → (0 ≤ (M15 797 27) ∧ (M15 797 27) < ((130 : Nat) : Int)) ∧ (-128 ≤ (9 : Int) ∧ (9 : Int) < 128) ∧ (0 ≤ (M15 797 10) ∧ (M15 797 10) < ((400 : Nat) : Int)) ∧ (0 ≤ (M15 797 10) ∧ (M15 797 10) < ((400 : Nat) : Int)) ∧ (0 ≤ (M15 797 10) ∧ (M15 797 10) < ((400 : Nat) : Int)) ∧ K [] (ab_up (ab_up (ab_up (ab_up (ab_up (ab_up (ab_up M15 797 24 ((M15 797 24) + (1 : Int))) 815 ((M15 797 27).toNat) (M15 797 10)) 797 27 ((M15 797 27) + (1 : Int))) 805 ((M15 797 10).toNat) (9 : Int)) 806 ((M15 797 10).toNat) w) 812 ((M15 797 10).toNat) i) 797 10 ((M15 797 10) + (1 : Int))))))) ∧ (r2 = (40 : Int) → (((1 : Int) = 0 ∨ (1 : Int) = 1) ∧ ab_ir (M 797 25)) ∧ (∀ M15 : ab_M, (M15 = if M 797 25 = -9 ∧ (1 : Int) = 0 then ab_up M 797 25 (M 797 24) else M) → (-128 ≤ (-9 : Int) ∧ (-9 : Int) < 128) ∧ (ab_ir (M15 797 25) ∧ ab_ir (-9 : Int)) ∧ ((¬ (M15 797 25) = (-9 : Int) → K [] M15) ∧ ((M15 797 25) = (-9 : Int) → (0 ≤ (M15 797 27) ∧ (M15 797 27) < ((130 : Nat) : Int)) ∧ (-128 ≤ (9 : Int) ∧ (9 : Int) < 128) ∧ (0 ≤ (M15 797 10) ∧ (M15 797 10) < ((400 : Nat) : Int)) ∧ (0 ≤ (M15 797 10) ∧ (M15 797 10) < ((400 : Nat) : Int)) ∧ (0 ≤ (M15 797 10) ∧ (M15 797 10) < ((400 : Nat) : Int)) ∧ K [] (ab_up (ab_up (ab_up (ab_up (ab_up (ab_up (ab_up M15 797 24 ((M15 797 24) + (1 : Int))) 815 ((M15 797 27).toNat) (M15 797 10)) 797 27 ((M15 797 27) + (1 : Int))) 805 ((M15 797 10).toNat) (9 : Int)) 806 ((M15 797 10).toNat) w) 812 ((M15 797 10).toNat) i) 797 10 ((M15 797 10) + (1 : Int))))))))) := by
  skip
  refine And.intro (by
    exact hS.1.1) ?_
  intro r2 hr2
  have hcc := pz_here hS.1.1 hr2
  have hcr : ab_ir r2 := by
    rw [hr2]
    split
    · have := hS.1.1.2.2.1 (M 797 24).toNat
      omega
    · exact ⟨by decide, by decide⟩
  refine And.intro (by
    first
      | omega
      | (simp [ab_up_a]; done)
      | (simp [ab_up_a]; omega)) ?_
  refine And.intro (by
    first
      | omega
      | (simp [ab_up_a]; done)
      | (simp [ab_up_a]; omega)) ?_
  refine ⟨?_, ?_⟩
  · intro c7
    refine And.intro (by
      first
        | omega
        | (simp [ab_up_a]; done)
        | (simp [ab_up_a]; omega)) ?_
    intro M15 hM15
    have h15r : ab_ir (M15 797 25) := by
      rw [hM15]
      split
      · rw [ab_up_s]
        have := hS.1.1.2.2.2
        have := hS.1.1.2.1
        exact ⟨by omega, by omega⟩
      · exact hS.1.2.1
    refine And.intro (by
      first
        | omega
        | (simp [ab_up_a]; done)
        | (simp [ab_up_a]; omega)) ?_
    refine And.intro (by
      first
        | omega
        | (simp [ab_up_a]; done)
        | (simp [ab_up_a]; omega)) ?_
    refine ⟨?_, ?_⟩
    · intro c24
      refine hS.2 _ ?_
      unfold pz_ro
      by_cases hm : M 797 25 = -9
      · rw [if_pos hm, if_neg (by rw [← hcc]; exact c7), hM15, if_pos ⟨hm, rfl⟩]
      · rw [if_neg hm, hM15, if_neg (fun q => hm q.1)]
    · intro c24
      exfalso
      rw [hM15] at c24
      split at c24
      · rw [ab_up_s] at c24
        have := hS.1.1.2.2.2
        omega
      · rename_i hq9
        exact hq9 ⟨c24, rfl⟩
  · intro c7
    refine And.intro (by
      first
        | omega
        | (simp [ab_up_a]; done)
        | (simp [ab_up_a]; omega)) ?_
    intro M15 hM15
    have h15r : ab_ir (M15 797 25) := by
      rw [hM15]
      split
      · rw [ab_up_s]
        have := hS.1.1.2.2.2
        have := hS.1.1.2.1
        exact ⟨by omega, by omega⟩
      · exact hS.1.2.1
    refine And.intro (by
      first
        | omega
        | (simp [ab_up_a]; done)
        | (simp [ab_up_a]; omega)) ?_
    refine And.intro (by
      first
        | omega
        | (simp [ab_up_a]; done)
        | (simp [ab_up_a]; omega)) ?_
    refine ⟨?_, ?_⟩
    · intro c24
      have e : M15 = M := by rw [hM15, if_neg (by omega)]
      rw [e] at c24 ⊢
      refine hS.2 _ ?_
      unfold pz_ro
      rw [if_neg c24]
    · intro c24
      refine And.intro (by
        have e : M15 = M := by rw [hM15, if_neg (by omega)]
        have h1 := hS.1
        rw [e]
        first
          | omega
          | (simp [ab_up_a]; done)
          | (simp [ab_up_a]; omega)) ?_
      refine And.intro (by
        first
          | omega
          | (simp [ab_up_a]; done)
          | (simp [ab_up_a]; omega)) ?_
      refine And.intro (by
        have e : M15 = M := by rw [hM15, if_neg (by omega)]
        have h1 := hS.1
        rw [e]
        first
          | omega
          | (simp [ab_up_a]; done)
          | (simp [ab_up_a]; omega)) ?_
      refine And.intro (by
        have e : M15 = M := by rw [hM15, if_neg (by omega)]
        have h1 := hS.1
        rw [e]
        first
          | omega
          | (simp [ab_up_a]; done)
          | (simp [ab_up_a]; omega)) ?_
      refine And.intro (by
        have e : M15 = M := by rw [hM15, if_neg (by omega)]
        have h1 := hS.1
        rw [e]
        first
          | omega
          | (simp [ab_up_a]; done)
          | (simp [ab_up_a]; omega)) ?_
      have e : M15 = M := by rw [hM15, if_neg (by omega)]
      rw [e] at c24 ⊢
      refine hS.2 _ ?_
      unfold pz_ro
      rw [if_pos c24, if_pos (by rw [← hcc]; exact c7)]
      unfold pz_opn
      simp [ab_up_a]

set_option maxRecDepth 20000 in
set_option maxHeartbeats 1000000 in
theorem ok_X9_readOpen (E : ab_E) : ab_Ok E 2 173 S_X9_readOpen := by
  refine ab_mk rq_X9_readOpen tk_X9_readOpen (rt := 0) (rfl) (cuts := []) (G := [(144, S_X9_here), (163, S_X9_must)]) (List.forall_mem_cons.mpr ⟨⟨1, by decide, ok_X9_here E⟩, List.forall_mem_cons.mpr ⟨⟨1, by decide, ok_X9_must E⟩, fun _ h => absurd h List.not_mem_nil⟩⟩) (by decide) 107 rfl ?_
  intro a M K wd wa hS
  unfold S_X9_readOpen at hS
  split at hS
  ·
    rename_i w i
    refine ⟨Nat.le_of_ble_eq_true rfl, fun _ _ _ _ _ => False, ?_, ?_⟩
    · exact vc_X9_readOpen_0 w i M K  hS
    · exact fun _ _ _ _ _ h => h.elim
  · exact hS.elim
def S_X9_loopsAround : ab_PT := fun a M K => match a with
  | [.inr (.inr (.inr (797, 9, 0)))] => (0 ≤ M 797 27 ∧ M 797 27 ≤ 130 ∧ ∀ k : Nat, (k : Int) < M 797 27 → 0 ≤ M 815 k ∧ M 815 k < 400 ∧ ab_ir (M 806 (M 815 k).toNat)) ∧ (∀ rx : Int, (rx = pz_lar M (M 797 27).toNat) → K [Xi rx] M)
  | _ => False
set_option maxRecDepth 20000 in
theorem vc_X9_loopsAround_0  (M : ab_M) (K : List ab_V → ab_M → Prop) (hS : (0 ≤ M 797 27 ∧ M 797 27 ≤ 130 ∧ ∀ k : Nat, (k : Int) < M 797 27 → 0 ≤ M 815 k ∧ M 815 k < 400 ∧ ab_ir (M 806 (M 815 k).toNat)) ∧ (∀ rx : Int, (rx = pz_lar M (M 797 27).toNat) → K [Xi rx] M)) : (∃ n', ((n' = (M 797 27 - (0 : Int)).toNat ∧ M = M ∧ 0 ≤ (0 : Int) ∧ (0 : Int) ≤ M 797 27 ∧ (0 : Int) = pz_lar M (0 : Int).toNat))) := by
  skip
  exact ⟨_, rfl, rfl, by omega, by omega, rfl⟩

set_option maxRecDepth 20000 in
theorem vc_X9_loopsAround_4  (M : ab_M) (K : List ab_V → ab_M → Prop) (hS : (0 ≤ M 797 27 ∧ M 797 27 ≤ 130 ∧ ∀ k : Nat, (k : Int) < M 797 27 → 0 ≤ M 815 k ∧ M 815 k < 400 ∧ ab_ir (M 806 (M 815 k).toNat)) ∧ (∀ rx : Int, (rx = pz_lar M (M 797 27).toNat) → K [Xi rx] M)) (n : Nat) (x : Int) (k : Int) (M1 : ab_M) (hI : n = (M 797 27 - k).toNat ∧ M = M1 ∧ 0 ≤ k ∧ k ≤ M 797 27 ∧ x = pz_lar M k.toNat) : (ab_ir k ∧ ab_ir (M1 797 27)) ∧ (((M1 797 27) ≤ k → K [Xi x] M1) ∧ (k < (M1 797 27) → (0 ≤ k ∧ k < ((130 : Nat) : Int)) ∧ (0 ≤ (M1 815 k.toNat) ∧ (M1 815 k.toNat) < ((400 : Nat) : Int)) ∧ (ab_ir (M1 806 ((M1 815 k.toNat).toNat)) ∧ ab_ir (2 : Int)) ∧ ((¬ (M1 806 ((M1 815 k.toNat).toNat)) = (2 : Int) → (∃ n', n' < n ∧ ((n' = (M 797 27 - (k + 1)).toNat ∧ M = M1 ∧ 0 ≤ (k + 1) ∧ (k + 1) ≤ M 797 27 ∧ (x + (0 : Int)) = pz_lar M (k + 1).toNat)))) ∧ ((M1 806 ((M1 815 k.toNat).toNat)) = (2 : Int) → (∃ n', n' < n ∧ ((n' = (M 797 27 - (k + 1)).toNat ∧ M = M1 ∧ 0 ≤ (k + 1) ∧ (k + 1) ≤ M 797 27 ∧ (x + (1 : Int)) = pz_lar M (k + 1).toNat))))))) := by
  obtain ⟨hn, rfl, h1, h2, h3⟩ := hI
  obtain ⟨⟨g1, g2, g3⟩, g4⟩ := hS
  have hb := pz_lar_bd M k.toNat
  refine And.intro (by
    first
      | omega
      | (simp [ab_up_a]; done)
      | (simp [ab_up_a]; omega)) ?_
  refine ⟨?_, ?_⟩
  · intro c9
    refine g4 _ ?_
    rw [h3, show k = M 797 27 by omega]
  · intro c9
    refine And.intro (by
      exact ⟨by omega, by omega⟩) ?_
    refine And.intro (by
      have := g3 k.toNat (by omega)
      exact ⟨by omega, by omega⟩) ?_
    refine And.intro (by
      have := g3 k.toNat (by omega)
      exact ⟨this.2.2, by decide, by decide⟩) ?_
    refine ⟨?_, ?_⟩
    · intro c25
      refine ⟨_, by omega, rfl, rfl, by omega, by omega, ?_⟩
      rw [show (k + 1).toNat = k.toNat + 1 by omega, pz_lar, if_neg c25, h3]
    · intro c25
      refine ⟨_, by omega, rfl, rfl, by omega, by omega, ?_⟩
      rw [show (k + 1).toNat = k.toNat + 1 by omega, pz_lar, if_pos c25, h3]

set_option maxRecDepth 20000 in
set_option maxHeartbeats 1000000 in
theorem ok_X9_loopsAround (E : ab_E) : ab_Ok E 1 162 S_X9_loopsAround := by
  refine ab_mk rq_X9_loopsAround tk_X9_loopsAround (rt := 1) (rfl) (cuts := [4]) (G := []) (fun g hg => by cases hg) (by decide) 77 rfl ?_
  intro a M K wd wa hS
  unfold S_X9_loopsAround at hS
  split at hS
  ·
    refine ⟨Nat.le_of_ble_eq_true rfl, fun pc n L st M1 => match pc, L, st with
      | 4, [.inr (.inr (.inr (797, 9, 0))), .inr (.inl x), .inr (.inl k)], [] => (n = (M 797 27 - k).toNat ∧ M = M1 ∧ 0 ≤ k ∧ k ≤ M 797 27 ∧ x = pz_lar M k.toNat)
      | _, _, _ => False, ?_, ?_⟩
    · exact vc_X9_loopsAround_0  M K  hS
    · intro pc n L st M1 hI wd1 wL wst
      (try dsimp only at hI)
      split at hI
      ·
        rename_i x k
        exact vc_X9_loopsAround_4  M K  hS n x k _ hI
      · exact hI.elim
  · exact hS.elim
