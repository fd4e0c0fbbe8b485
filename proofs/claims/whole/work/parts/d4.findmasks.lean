/-! the reference finds the masks -/
theorem pz_rdn.PR {M N : ab_M} (h : pz_PR M) (hr : pz_rdn M N) : pz_PR N := by
  obtain ⟨⟨n1, n2, n3, n4, n5, n6⟩, ⟨E, hE⟩, h3⟩ := h
  obtain ⟨r1, ⟨r2, r3⟩, r4⟩ := hr
  have f : ∀ k, N 798 k = M 798 k := fun k => r2 798 k (by decide) (by decide) (by omega)
  have hn : pz_now N = pz_now M := by
    have hf : N 798 = M 798 := funext f
    unfold pz_now
    rw [hf]
  refine ⟨⟨by rw [f]; exact n1, by rw [f]; exact n2, fun k hk => by rw [f] at hk ⊢; exact n3 k hk, r4.2.1, by rw [hn]; exact n5, Or.inr r4.1⟩, ⟨E, by rw [hn]; exact hE⟩, fun _ => r4⟩
theorem cb_K.fr {M1 M3 : ab_M} (h : ∀ o k : Nat, o ≠ 825 → M1 o k = M3 o k) (hK : cb_K M3) : cb_K M1 := by
  have h33 : M1 797 33 = M3 797 33 := h _ _ (by decide)
  have h5 : ∀ k, M1 818 k = M3 818 k := fun k => h _ _ (by decide)
  have h6 : ∀ k, M1 819 k = M3 819 k := fun k => h _ _ (by decide)
  have h7 : ∀ k, M1 820 k = M3 820 k := fun k => h _ _ (by decide)
  have h9 : ∀ k, M1 822 k = M3 822 k := fun k => h _ _ (by decide)
  unfold cb_K
  simp only [h33, h5, h6, h7, h9]
  exact hK
theorem re_I.ir {M1 M3 : ab_M} (hK : re_K M3) (hI : re_I M3 M1) {row s : Int} (hr : 0 ≤ row ∧ row < M3 797 33) (hs : 0 ≤ s ∧ s < 256) : ab_ir (cb_v M1 row s) ∧ ab_ir (M1 825 (256 * row + s).toNat) := by
  refine ⟨?_, ?_⟩
  · rw [cb_eq hK hI hr hs]; exact ab_or_ir _ _
  · have f33 : M1 797 33 = M3 797 33 := hI.1 _ _ (by decide)
    have := hI.2.2.2 (256 * row + s).toNat
    unfold re_N at this
    rw [if_pos (by rw [f33]; omega)] at this
    exact this
theorem re_18 {M : ab_M} (hK : re_K M) {b : Nat} : ∀ (n : Nat) {j : Nat}, (j : Int) < 256 * M 797 33 → gx_W (re_S M) (fun j => re_O M j b) n j → b < 18 := by
  have own : ∀ {j : Nat}, (j : Int) < 256 * M 797 33 → re_O M j b → b < 18 := fun {j} hj h => by
    rcases h with ⟨h1, -, h3⟩ | ⟨p, -, -, h⟩ | ⟨p, -, -, h⟩
    · have := hK.2 (j / 256) (by omega) h1
      omega
    · omega
    · omega
  intro n
  induction n with
  | zero => intro j hj h; exact own hj h
  | succ n ih =>
    intro j hj h
    rcases h with h | ⟨q, hq, h⟩
    · exact own hj h
    · have := re_S_rng hK hj hq
      exact ih (by omega) h
theorem re_I.b18 {M1 M3 : ab_M} (hK : re_K M3) (hI : re_I M3 M1) : ∀ i b, b < 32 → pz_b (re_N M1 i) b = true → b < 18 := fun i b hb h => by
  have f33 : M1 797 33 = M3 797 33 := hI.1 _ _ (by decide)
  by_cases c : (i : Int) < 256 * M3 797 33
  · obtain ⟨n, hn⟩ := hI.2.1 i b hb h
    exact re_18 hK n c hn
  · unfold re_N at h
    rw [if_neg (by rw [f33]; exact c), pz_b_0] at h
    cases h
/-- what the finding of masks leaves -/
def fm_D (M3 M' : ab_M) (md : Nat) : Prop := (∀ o k : Nat, o ≠ 825 → ¬ (o = 826 ∧ 256 * md ≤ k ∧ k < 256 * md + 256) → M' o k = M3 o k) ∧ (∀ s : Nat, s < 256 → M' 826 (256 * md + s) = cf_v M' 0 (s : Int)) ∧ ∀ j b : Nat, (j : Int) < 256 * M3 797 33 → b < 32 → (pz_b (M' 825 j) b = true ↔ ∃ n, gx_W (re_S M3) (fun j => re_O M3 j b) n j)
def fm_W (M3 M' : ab_M) (md : Nat) (s : Int) : Prop := (∀ o k : Nat, o ≠ 825 → ¬ (o = 826 ∧ 256 * md ≤ k ∧ k < 256 * md + 256) → M' o k = M3 o k) ∧ (∀ j : Nat, (j : Int) < s → M' 826 (256 * md + j) = cf_v M' 0 (j : Int)) ∧ ∀ j b : Nat, (j : Int) < 256 * M3 797 33 → b < 32 → (pz_b (M' 825 j) b = true ↔ ∃ n, gx_W (re_S M3) (fun j => re_O M3 j b) n j)
def fm_P (M M' : ab_M) (md : Int) (W1 W2 : Nat → List Int) : Prop := ∃ N, pz_rdn M N ∧ ((N 816 md.toNat ≠ 0 ∧ M' = N) ∨ (N 816 md.toNat = 0 ∧ ∃ M2, la_P N M2 md W1 W2 ∧ fm_D (ab_up M2 816 md.toNat 1) M' md.toNat))
def fm_A (M : ab_M) (md : Int) (W1 W2 : Nat → List Int) : Prop := (md = 0 ∨ md = 1) ∧ pz_PR M ∧ ab_ir (M 797 29) ∧ (M 816 md.toNat = 0 ∨ M 816 md.toNat = 1) ∧ (∀ N, pz_rdn M N → la_A N md W1 W2) ∧ ∀ N M2, pz_rdn M N → la_P N M2 md W1 W2 → re_K (ab_up M2 816 md.toNat 1)
/-- rows from here on are closed -/
def fm_c (M3 M1 : ab_M) (lo : Int) : Prop := ∀ j : Nat, lo ≤ (j : Int) → (j : Int) < 256 * M3 797 33 → re_v M3 (re_N M1) j = re_N M1 j
def fm_G (M3 M1 : ab_M) (g0 : Nat) (ch : Int) : Prop := re_I M3 M1 ∧ (ch = 0 ∨ ch = 1) ∧ g0 ≤ gx_c 65536 (re_N M1) ∧ (ch = 1 → g0 + 1 ≤ gx_c 65536 (re_N M1)) ∧ gx_c 65536 (re_N M1) ≤ 1179648

def S_X9_findMasks : ab_PT := fun a M K => match a with
  | [.inr (.inr (.inr (797, 9, 0))), .inr (.inl md)] => (∃ W1 : Nat → List Int, ∃ W2 : Nat → List Int, (fm_A M md W1 W2) ∧ (∀ Mx : ab_M, (fm_P M Mx md W1 W2) → K [] Mx))
  | _ => False
set_option maxRecDepth 20000 in
theorem vc_X9_findMasks_0 (md : Int) (M : ab_M) (K : List ab_V → ab_M → Prop) (hS : (∃ W1 : Nat → List Int, ∃ W2 : Nat → List Int, (fm_A M md W1 W2) ∧ (∀ Mx : ab_M, (fm_P M Mx md W1 W2) → K [] Mx))) : (pz_PR M) ∧ (∀ M1 : ab_M, (pz_rdn M M1) → (0 ≤ md ∧ md < ((2 : Nat) : Int)) ∧ (ab_ir (M1 816 md.toNat)) ∧ (((M1 816 md.toNat) = 0 → (∃ W1_16 : Nat → List Int, ∃ W2_16 : Nat → List Int, (pz_PR M1 ∧ ab_ir md ∧ ab_ir (M1 797 29) ∧ ∀ N, pz_rdn M1 N → la_A N md W1_16 W2_16) ∧ (∀ M16 : ab_M, (la_P M1 M16 md W1_16 W2_16) → ((0 ≤ md ∧ md < ((2 : Nat) : Int)) ∧ ((1 : Int) = 0 ∨ (1 : Int) = 1)) ∧ (∃ n', ((md = md ∧ 0 ≤ (0 : Int) ∧ n' = 10000000000000 + (65536 - (0 : Int)).toNat ∧ ∃ (W1 W2 : Nat → List Int) (N M2 : ab_M), fm_A M md W1 W2 ∧ (∀ Mx : ab_M, fm_P M Mx md W1 W2 → K [] Mx) ∧ pz_rdn M N ∧ N 816 md.toNat = 0 ∧ la_P N M2 md W1 W2 ∧ (0 : Int) ≤ 256 * (ab_up M2 816 md.toNat 1) 797 33 ∧ (∀ o j : Nat, o ≠ 825 → (ab_up M16 816 md.toNat (1 : Int)) o j = (ab_up M2 816 md.toNat 1) o j) ∧ ∀ j : Nat, (j : Int) < (0 : Int) → (ab_up M16 816 md.toNat (1 : Int)) 825 j = 0)))))) ∧ (¬ (M1 816 md.toNat) = 0 → K [] M1))) := by
  obtain ⟨W1, W2, gA, gK⟩ := hS
  have gmd := gA.1
  refine And.intro (by
    first
      | omega
      | exact ⟨by omega, by omega⟩
      | exact ⟨⟨by omega, by omega⟩, by omega, by omega⟩
      | exact ⟨⟨by omega, by omega⟩, ⟨by omega, by omega⟩, by omega, by omega⟩
      | exact gA.2.1
      | (have h := hM1.2.1.1 816 md.toNat (by decide) (by decide) (by omega); rw [h]; rcases gA.2.2.2.1 with z | z <;> (rw [z]; exact ⟨by decide, by decide⟩))
      | (rw [hr87]; exact hG.1.ir hK ⟨hr0, hr1⟩ ⟨hs0, by omega⟩)
      | (rcases hch with z | z <;> (rw [z]; exact ⟨by decide, by decide⟩))) ?_
  intro M1 hM1
  refine And.intro (by
    first
      | omega
      | exact ⟨by omega, by omega⟩
      | exact ⟨⟨by omega, by omega⟩, by omega, by omega⟩
      | exact ⟨⟨by omega, by omega⟩, ⟨by omega, by omega⟩, by omega, by omega⟩
      | exact gA.2.1
      | (have h := hM1.2.1.1 816 md.toNat (by decide) (by decide) (by omega); rw [h]; rcases gA.2.2.2.1 with z | z <;> (rw [z]; exact ⟨by decide, by decide⟩))
      | (rw [hr87]; exact hG.1.ir hK ⟨hr0, hr1⟩ ⟨hs0, by omega⟩)
      | (rcases hch with z | z <;> (rw [z]; exact ⟨by decide, by decide⟩))) ?_
  refine And.intro (by
    first
      | omega
      | exact ⟨by omega, by omega⟩
      | exact ⟨⟨by omega, by omega⟩, by omega, by omega⟩
      | exact ⟨⟨by omega, by omega⟩, ⟨by omega, by omega⟩, by omega, by omega⟩
      | exact gA.2.1
      | (have h := hM1.2.1.1 816 md.toNat (by decide) (by decide) (by omega); rw [h]; rcases gA.2.2.2.1 with z | z <;> (rw [z]; exact ⟨by decide, by decide⟩))
      | (rw [hr87]; exact hG.1.ir hK ⟨hr0, hr1⟩ ⟨hs0, by omega⟩)
      | (rcases hch with z | z <;> (rw [z]; exact ⟨by decide, by decide⟩))) ?_
  refine ⟨?_, ?_⟩
  · intro c10
    refine Exists.intro (W1) <| Exists.intro (W2) <| ?_
    refine And.intro (by
      refine ⟨pz_rdn.PR gA.2.1 hM1, ⟨by omega, by omega⟩, ?_, fun N hN => ?_⟩
      · have h := hM1.2.1.2 29 (by decide) (by decide) (by decide) (by decide) (by decide) (by decide) (by decide) (by decide) (by decide)
        rw [h]; exact gA.2.2.1
      · have := hN.1 hM1.2.2.1
        rw [this]
        exact gA.2.2.2.2.1 M1 hM1) ?_
    intro M16 hM16
    refine And.intro (by
      first
        | omega
        | exact ⟨by omega, by omega⟩
        | exact ⟨⟨by omega, by omega⟩, by omega, by omega⟩
        | exact ⟨⟨by omega, by omega⟩, ⟨by omega, by omega⟩, by omega, by omega⟩
        | exact gA.2.1
        | (have h := hM1.2.1.1 816 md.toNat (by decide) (by decide) (by omega); rw [h]; rcases gA.2.2.2.1 with z | z <;> (rw [z]; exact ⟨by decide, by decide⟩))
        | (rw [hr87]; exact hG.1.ir hK ⟨hr0, hr1⟩ ⟨hs0, by omega⟩)
        | (rcases hch with z | z <;> (rw [z]; exact ⟨by decide, by decide⟩))) ?_
    refine ⟨_, rfl, by decide, rfl, W1, W2, M1, M16, gA, gK, hM1, by assumption, hM16, ?_, fun _ _ _ => rfl, fun j hj => by omega⟩
    obtain ⟨g01, gP, g29, g803, gla, gre⟩ := id gA
    have := (gre M1 M16 hM1 hM16).1.1.1
    omega
  · intro c10
    exact gK _ ⟨M1, hM1, Or.inl ⟨by assumption, rfl⟩⟩

set_option maxRecDepth 20000 in
theorem vc_X9_findMasks_28 (md : Int) (M : ab_M) (K : List ab_V → ab_M → Prop) (hS : (∃ W1 : Nat → List Int, ∃ W2 : Nat → List Int, (fm_A M md W1 W2) ∧ (∀ Mx : ab_M, (fm_P M Mx md W1 W2) → K [] Mx))) (n : Nat) (m1 : Int) (k : Int) (M1 : ab_M) (hI : md = m1 ∧ 0 ≤ k ∧ n = 10000000000000 + (65536 - k).toNat ∧ ∃ (W1 W2 : Nat → List Int) (N M2 : ab_M), fm_A M md W1 W2 ∧ (∀ Mx : ab_M, fm_P M Mx md W1 W2 → K [] Mx) ∧ pz_rdn M N ∧ N 816 md.toNat = 0 ∧ la_P N M2 md W1 W2 ∧ k ≤ 256 * (ab_up M2 816 md.toNat 1) 797 33 ∧ (∀ o j : Nat, o ≠ 825 → M1 o j = (ab_up M2 816 md.toNat 1) o j) ∧ ∀ j : Nat, (j : Int) < k → M1 825 j = 0) : (-32768 ≤ (256 : Int) ∧ (256 : Int) < 32768) ∧ (ab_ir k ∧ ab_ir ((256 : Int) * (M1 797 33))) ∧ ((((256 : Int) * (M1 797 33)) ≤ k → (∃ n', n' < n ∧ ((md = m1 ∧ ∃ (W1 W2 : Nat → List Int) (N M2 : ab_M), fm_A M md W1 W2 ∧ (∀ Mx : ab_M, fm_P M Mx md W1 W2 → K [] Mx) ∧ pz_rdn M N ∧ N 816 md.toNat = 0 ∧ la_P N M2 md W1 W2 ∧ ∃ g0, fm_G (ab_up M2 816 md.toNat 1) M1 g0 0 ∧ g0 = gx_c 65536 (re_N M1) ∧ ((1 : Int) = 0 ∨ (1 : Int) = 1) ∧ n' = 300 + 200000 * (1179648 - g0) + (if (1 : Int) = 1 then 199999 else 0) ∧ ((1 : Int) = 0 → fm_c (ab_up M2 816 md.toNat 1) M1 0))))) ∧ (k < ((256 : Int) * (M1 797 33)) → (0 ≤ k ∧ k < ((65536 : Nat) : Int)) ∧ (∃ n', n' < n ∧ ((md = m1 ∧ 0 ≤ (k + 1) ∧ n' = 10000000000000 + (65536 - (k + 1)).toNat ∧ ∃ (W1 W2 : Nat → List Int) (N M2 : ab_M), fm_A M md W1 W2 ∧ (∀ Mx : ab_M, fm_P M Mx md W1 W2 → K [] Mx) ∧ pz_rdn M N ∧ N 816 md.toNat = 0 ∧ la_P N M2 md W1 W2 ∧ (k + 1) ≤ 256 * (ab_up M2 816 md.toNat 1) 797 33 ∧ (∀ o j : Nat, o ≠ 825 → (ab_up M1 825 k.toNat (0 : Int)) o j = (ab_up M2 816 md.toNat 1) o j) ∧ ∀ j : Nat, (j : Int) < (k + 1) → (ab_up M1 825 k.toNat (0 : Int)) 825 j = 0))))) := by
  obtain ⟨q1, hk0, hn, W1, W2, N, M2, gA, gK, hr, h03, hla, hk1, hfr, hz⟩ := hI
  clear hS
  subst q1
  obtain ⟨g01, gP, g29, g803, gla, gre⟩ := id gA
  have hK := gre N M2 hr hla
  obtain ⟨⟨s0, s1⟩, -⟩ := id hK.1
  have f33 : M1 797 33 = (ab_up M2 816 md.toNat 1) 797 33 := hfr _ _ (by decide)
  refine And.intro (by
    first
      | omega
      | exact ⟨by omega, by omega⟩
      | exact ⟨⟨by omega, by omega⟩, by omega, by omega⟩
      | exact ⟨⟨by omega, by omega⟩, ⟨by omega, by omega⟩, by omega, by omega⟩
      | exact gA.2.1
      | (have h := hM1.2.1.1 816 md.toNat (by decide) (by decide) (by omega); rw [h]; rcases gA.2.2.2.1 with z | z <;> (rw [z]; exact ⟨by decide, by decide⟩))
      | (rw [hr87]; exact hG.1.ir hK ⟨hr0, hr1⟩ ⟨hs0, by omega⟩)
      | (rcases hch with z | z <;> (rw [z]; exact ⟨by decide, by decide⟩))) ?_
  refine And.intro (by
    first
      | omega
      | exact ⟨by omega, by omega⟩
      | exact ⟨⟨by omega, by omega⟩, by omega, by omega⟩
      | exact ⟨⟨by omega, by omega⟩, ⟨by omega, by omega⟩, by omega, by omega⟩
      | exact gA.2.1
      | (have h := hM1.2.1.1 816 md.toNat (by decide) (by decide) (by omega); rw [h]; rcases gA.2.2.2.1 with z | z <;> (rw [z]; exact ⟨by decide, by decide⟩))
      | (rw [hr87]; exact hG.1.ir hK ⟨hr0, hr1⟩ ⟨hs0, by omega⟩)
      | (rcases hch with z | z <;> (rw [z]; exact ⟨by decide, by decide⟩))) ?_
  refine ⟨?_, ?_⟩
  · intro c37
    have hI0 : re_I (ab_up M2 816 md.toNat 1) M1 := re_I.start hfr fun j hj => hz j (by omega)
    have hgT : gx_c 65536 (re_N M1) ≤ 1179648 := gx_m_bd _ _
    refine ⟨_, ?_, rfl, W1, W2, N, M2, gA, gK, hr, h03, hla, gx_c 65536 (re_N M1), ⟨hI0, Or.inl rfl, Nat.le_refl _, fun z => absurd z (by decide), hgT⟩, rfl, Or.inr rfl, rfl, fun z => absurd z (by decide)⟩
    rw [if_pos rfl]
    omega
  · intro c37
    refine And.intro (by
      first
        | omega
        | exact ⟨by omega, by omega⟩
        | exact ⟨⟨by omega, by omega⟩, by omega, by omega⟩
        | exact ⟨⟨by omega, by omega⟩, ⟨by omega, by omega⟩, by omega, by omega⟩
        | exact gA.2.1
        | (have h := hM1.2.1.1 816 md.toNat (by decide) (by decide) (by omega); rw [h]; rcases gA.2.2.2.1 with z | z <;> (rw [z]; exact ⟨by decide, by decide⟩))
        | (rw [hr87]; exact hG.1.ir hK ⟨hr0, hr1⟩ ⟨hs0, by omega⟩)
        | (rcases hch with z | z <;> (rw [z]; exact ⟨by decide, by decide⟩))) ?_
    refine ⟨_, ?_, rfl, by omega, rfl, W1, W2, N, M2, gA, gK, hr, h03, hla, by omega, fun o j z => by rw [ab_up_o z]; exact hfr o j z, fun j hj => ?_⟩
    · omega
    by_cases c : j = k.toNat
    · rw [c, ab_up_s]
    · rw [ab_up_k c]; exact hz j (by omega)

set_option maxRecDepth 20000 in
theorem vc_X9_findMasks_55 (md : Int) (M : ab_M) (K : List ab_V → ab_M → Prop) (hS : (∃ W1 : Nat → List Int, ∃ W2 : Nat → List Int, (fm_A M md W1 W2) ∧ (∀ Mx : ab_M, (fm_P M Mx md W1 W2) → K [] Mx))) (n : Nat) (m1 : Int) (ch : Int) (M1 : ab_M) (hI : md = m1 ∧ ∃ (W1 W2 : Nat → List Int) (N M2 : ab_M), fm_A M md W1 W2 ∧ (∀ Mx : ab_M, fm_P M Mx md W1 W2 → K [] Mx) ∧ pz_rdn M N ∧ N 816 md.toNat = 0 ∧ la_P N M2 md W1 W2 ∧ ∃ g0, fm_G (ab_up M2 816 md.toNat 1) M1 g0 0 ∧ g0 = gx_c 65536 (re_N M1) ∧ (ch = 0 ∨ ch = 1) ∧ n = 300 + 200000 * (1179648 - g0) + (if ch = 1 then 199999 else 0) ∧ (ch = 0 → fm_c (ab_up M2 816 md.toNat 1) M1 0)) : (ab_ir ch) ∧ ((ch = 0 → (∃ n', n' < n ∧ ((md = m1 ∧ 0 ≤ (0 : Int) ∧ (0 : Int) ≤ 256 ∧ n' = (256 - (0 : Int)).toNat ∧ ∃ (W1 W2 : Nat → List Int) (N M2 : ab_M), fm_A M md W1 W2 ∧ (∀ Mx : ab_M, fm_P M Mx md W1 W2 → K [] Mx) ∧ pz_rdn M N ∧ N 816 md.toNat = 0 ∧ la_P N M2 md W1 W2 ∧ fm_W (ab_up M2 816 md.toNat 1) M1 md.toNat (0 : Int))))) ∧ (¬ ch = 0 → (∃ n', n' < n ∧ ((md = m1 ∧ ∃ (W1 W2 : Nat → List Int) (N M2 : ab_M), fm_A M md W1 W2 ∧ (∀ Mx : ab_M, fm_P M Mx md W1 W2 → K [] Mx) ∧ pz_rdn M N ∧ N 816 md.toNat = 0 ∧ la_P N M2 md W1 W2 ∧ -1 ≤ ((M1 797 33) - (1 : Int)) ∧ ((M1 797 33) - (1 : Int)) < (ab_up M2 816 md.toNat 1) 797 33 ∧ ∃ g0, fm_G (ab_up M2 816 md.toNat 1) M1 g0 (0 : Int) ∧ n' = 300 + 200000 * (1179648 - g0) + 300 * (((M1 797 33) - (1 : Int)) + 1).toNat + 1 ∧ ((0 : Int) = 0 → fm_c (ab_up M2 816 md.toNat 1) M1 (256 * (((M1 797 33) - (1 : Int)) + 1)))))))) := by
  obtain ⟨q1, W1, W2, N, M2, gA, gK, hr, h03, hla, g0, hG, hg, hch, hn, hcl⟩ := hI
  clear hS
  subst q1
  obtain ⟨g01, gP, g29, g803, gla, gre⟩ := id gA
  have hK := gre N M2 hr hla
  obtain ⟨⟨s0, s1⟩, -⟩ := id hK.1
  have f33 : M1 797 33 = (ab_up M2 816 md.toNat 1) 797 33 := hG.1.1 _ _ (by decide)
  refine And.intro (by
    first
      | omega
      | exact ⟨by omega, by omega⟩
      | exact ⟨⟨by omega, by omega⟩, by omega, by omega⟩
      | exact ⟨⟨by omega, by omega⟩, ⟨by omega, by omega⟩, by omega, by omega⟩
      | exact gA.2.1
      | (have h := hM1.2.1.1 816 md.toNat (by decide) (by decide) (by omega); rw [h]; rcases gA.2.2.2.1 with z | z <;> (rw [z]; exact ⟨by decide, by decide⟩))
      | (rw [hr87]; exact hG.1.ir hK ⟨hr0, hr1⟩ ⟨hs0, by omega⟩)
      | (rcases hch with z | z <;> (rw [z]; exact ⟨by decide, by decide⟩))) ?_
  refine ⟨?_, ?_⟩
  · intro c56
    refine ⟨_, ?_, rfl, by decide, by decide, rfl, W1, W2, N, M2, gA, gK, hr, h03, hla, fun o k z _ => hG.1.1 o k z, fun j hj => by omega, fun j b hj hb => hG.1.fin hK (fun j hj => hcl (by assumption) j (by omega) hj) hj hb⟩
    rw [if_neg (by omega)] at hn
    omega
  · intro c56
    refine ⟨_, ?_, rfl, W1, W2, N, M2, gA, gK, hr, h03, hla, by omega, by omega, g0, ⟨hG.1, Or.inl rfl, by omega, fun z => absurd z (by decide), hG.2.2.2.2⟩, rfl, fun _ j hj1 hj2 => by omega⟩
    have hch1 : ch = 1 := by omega
    rw [if_pos hch1] at hn
    omega

set_option maxRecDepth 20000 in
theorem vc_X9_findMasks_68 (md : Int) (M : ab_M) (K : List ab_V → ab_M → Prop) (hS : (∃ W1 : Nat → List Int, ∃ W2 : Nat → List Int, (fm_A M md W1 W2) ∧ (∀ Mx : ab_M, (fm_P M Mx md W1 W2) → K [] Mx))) (n : Nat) (m1 : Int) (ch : Int) (row : Int) (M1 : ab_M) (hI : md = m1 ∧ ∃ (W1 W2 : Nat → List Int) (N M2 : ab_M), fm_A M md W1 W2 ∧ (∀ Mx : ab_M, fm_P M Mx md W1 W2 → K [] Mx) ∧ pz_rdn M N ∧ N 816 md.toNat = 0 ∧ la_P N M2 md W1 W2 ∧ -1 ≤ row ∧ row < (ab_up M2 816 md.toNat 1) 797 33 ∧ ∃ g0, fm_G (ab_up M2 816 md.toNat 1) M1 g0 ch ∧ n = 300 + 200000 * (1179648 - g0) + 300 * (row + 1).toNat + 1 ∧ (ch = 0 → fm_c (ab_up M2 816 md.toNat 1) M1 (256 * (row + 1)))) : (ab_ir row) ∧ ((row < 0 → (∃ n', n' < n ∧ ((md = m1 ∧ ∃ (W1 W2 : Nat → List Int) (N M2 : ab_M), fm_A M md W1 W2 ∧ (∀ Mx : ab_M, fm_P M Mx md W1 W2 → K [] Mx) ∧ pz_rdn M N ∧ N 816 md.toNat = 0 ∧ la_P N M2 md W1 W2 ∧ ∃ g0, fm_G (ab_up M2 816 md.toNat 1) M1 g0 0 ∧ g0 = gx_c 65536 (re_N M1) ∧ (ch = 0 ∨ ch = 1) ∧ n' = 300 + 200000 * (1179648 - g0) + (if ch = 1 then 199999 else 0) ∧ (ch = 0 → fm_c (ab_up M2 816 md.toNat 1) M1 0))))) ∧ (0 ≤ row → (∃ n', n' < n ∧ ((md = m1 ∧ ∃ (W1 W2 : Nat → List Int) (N M2 : ab_M), fm_A M md W1 W2 ∧ (∀ Mx : ab_M, fm_P M Mx md W1 W2 → K [] Mx) ∧ pz_rdn M N ∧ N 816 md.toNat = 0 ∧ la_P N M2 md W1 W2 ∧ 0 ≤ row ∧ row < (ab_up M2 816 md.toNat 1) 797 33 ∧ 0 ≤ (0 : Int) ∧ (0 : Int) ≤ 256 ∧ ∃ g0, fm_G (ab_up M2 816 md.toNat 1) M1 g0 ch ∧ n' = 300 + 200000 * (1179648 - g0) + 300 * row.toNat + 2 + (256 - (0 : Int)).toNat ∧ (ch = 0 → fm_c (ab_up M2 816 md.toNat 1) M1 (256 * (row + 1)) ∧ ∀ j : Nat, 256 * row ≤ (j : Int) → (j : Int) < 256 * row + (0 : Int) → re_v (ab_up M2 816 md.toNat 1) (re_N M1) j = re_N M1 j)))))) := by
  obtain ⟨q1, W1, W2, N, M2, gA, gK, hr, h03, hla, hr0, hr1, g0, hG, hn, hcl⟩ := hI
  clear hS
  subst q1
  obtain ⟨g01, gP, g29, g803, gla, gre⟩ := id gA
  have hK := gre N M2 hr hla
  obtain ⟨⟨s0, s1⟩, -⟩ := id hK.1
  have f33 : M1 797 33 = (ab_up M2 816 md.toNat 1) 797 33 := hG.1.1 _ _ (by decide)
  obtain ⟨-, hch, hg0, hg1, hgT⟩ := id hG
  refine And.intro (by
    first
      | omega
      | exact ⟨by omega, by omega⟩
      | exact ⟨⟨by omega, by omega⟩, by omega, by omega⟩
      | exact ⟨⟨by omega, by omega⟩, ⟨by omega, by omega⟩, by omega, by omega⟩
      | exact gA.2.1
      | (have h := hM1.2.1.1 816 md.toNat (by decide) (by decide) (by omega); rw [h]; rcases gA.2.2.2.1 with z | z <;> (rw [z]; exact ⟨by decide, by decide⟩))
      | (rw [hr87]; exact hG.1.ir hK ⟨hr0, hr1⟩ ⟨hs0, by omega⟩)
      | (rcases hch with z | z <;> (rw [z]; exact ⟨by decide, by decide⟩))) ?_
  refine ⟨?_, ?_⟩
  · intro c69
    refine ⟨_, ?_, rfl, W1, W2, N, M2, gA, gK, hr, h03, hla, gx_c 65536 (re_N M1), ⟨hG.1, Or.inl rfl, Nat.le_refl _, fun z => absurd z (by decide), hgT⟩, rfl, hch, rfl, fun z => ?_⟩
    · by_cases c : ch = 1
      · have := hg1 c
        rw [if_pos c]; omega
      · rw [if_neg c]; omega
    · have := hcl z
      rw [show 256 * (row + 1) = 0 by omega] at this
      exact this
  · intro c69
    refine ⟨_, ?_, rfl, W1, W2, N, M2, gA, gK, hr, h03, hla, by omega, hr1, by decide, by decide, g0, hG, rfl, fun z => ⟨hcl z, fun j hj1 hj2 => by omega⟩⟩
    omega

set_option maxRecDepth 20000 in
theorem vc_X9_findMasks_75 (md : Int) (M : ab_M) (K : List ab_V → ab_M → Prop) (hS : (∃ W1 : Nat → List Int, ∃ W2 : Nat → List Int, (fm_A M md W1 W2) ∧ (∀ Mx : ab_M, (fm_P M Mx md W1 W2) → K [] Mx))) (n : Nat) (m1 : Int) (ch : Int) (row : Int) (s : Int) (M1 : ab_M) (hI : md = m1 ∧ ∃ (W1 W2 : Nat → List Int) (N M2 : ab_M), fm_A M md W1 W2 ∧ (∀ Mx : ab_M, fm_P M Mx md W1 W2 → K [] Mx) ∧ pz_rdn M N ∧ N 816 md.toNat = 0 ∧ la_P N M2 md W1 W2 ∧ 0 ≤ row ∧ row < (ab_up M2 816 md.toNat 1) 797 33 ∧ 0 ≤ s ∧ s ≤ 256 ∧ ∃ g0, fm_G (ab_up M2 816 md.toNat 1) M1 g0 ch ∧ n = 300 + 200000 * (1179648 - g0) + 300 * row.toNat + 2 + (256 - s).toNat ∧ (ch = 0 → fm_c (ab_up M2 816 md.toNat 1) M1 (256 * (row + 1)) ∧ ∀ j : Nat, 256 * row ≤ (j : Int) → (j : Int) < 256 * row + s → re_v (ab_up M2 816 md.toNat 1) (re_N M1) j = re_N M1 j)) : (-32768 ≤ (256 : Int) ∧ (256 : Int) < 32768) ∧ (ab_ir s ∧ ab_ir (256 : Int)) ∧ (((256 : Int) ≤ s → (∃ n', n' < n ∧ ((md = m1 ∧ ∃ (W1 W2 : Nat → List Int) (N M2 : ab_M), fm_A M md W1 W2 ∧ (∀ Mx : ab_M, fm_P M Mx md W1 W2 → K [] Mx) ∧ pz_rdn M N ∧ N 816 md.toNat = 0 ∧ la_P N M2 md W1 W2 ∧ -1 ≤ (row + (-1)) ∧ (row + (-1)) < (ab_up M2 816 md.toNat 1) 797 33 ∧ ∃ g0, fm_G (ab_up M2 816 md.toNat 1) M1 g0 ch ∧ n' = 300 + 200000 * (1179648 - g0) + 300 * ((row + (-1)) + 1).toNat + 1 ∧ (ch = 0 → fm_c (ab_up M2 816 md.toNat 1) M1 (256 * ((row + (-1)) + 1))))))) ∧ (s < (256 : Int) → (cb_K M1 ∧ (0 ≤ row ∧ row < M1 797 33) ∧ (0 ≤ s ∧ s < 256)) ∧ (∀ r87 : Int, (r87 = cb_v M1 row s) → (ab_ir ch) ∧ ((¬ ch = 0 → (-32768 ≤ (256 : Int) ∧ (256 : Int) < 32768) ∧ (0 ≤ (((256 : Int) * row) + s) ∧ (((256 : Int) * row) + s) < ((65536 : Nat) : Int)) ∧ (∃ n', n' < n ∧ ((md = m1 ∧ ∃ (W1 W2 : Nat → List Int) (N M2 : ab_M), fm_A M md W1 W2 ∧ (∀ Mx : ab_M, fm_P M Mx md W1 W2 → K [] Mx) ∧ pz_rdn M N ∧ N 816 md.toNat = 0 ∧ la_P N M2 md W1 W2 ∧ 0 ≤ row ∧ row < (ab_up M2 816 md.toNat 1) 797 33 ∧ 0 ≤ (s + 1) ∧ (s + 1) ≤ 256 ∧ ∃ g0, fm_G (ab_up M2 816 md.toNat 1) (ab_up M1 825 ((((256 : Int) * row) + s).toNat) r87) g0 (1 : Int) ∧ n' = 300 + 200000 * (1179648 - g0) + 300 * row.toNat + 2 + (256 - (s + 1)).toNat ∧ ((1 : Int) = 0 → fm_c (ab_up M2 816 md.toNat 1) (ab_up M1 825 ((((256 : Int) * row) + s).toNat) r87) (256 * (row + 1)) ∧ ∀ j : Nat, 256 * row ≤ (j : Int) → (j : Int) < 256 * row + (s + 1) → re_v (ab_up M2 816 md.toNat 1) (re_N (ab_up M1 825 ((((256 : Int) * row) + s).toNat) r87)) j = re_N (ab_up M1 825 ((((256 : Int) * row) + s).toNat) r87) j))))) ∧ (ch = 0 → (-32768 ≤ (256 : Int) ∧ (256 : Int) < 32768) ∧ (0 ≤ (((256 : Int) * row) + s) ∧ (((256 : Int) * row) + s) < ((65536 : Nat) : Int)) ∧ (ab_ir r87 ∧ ab_ir (M1 825 ((((256 : Int) * row) + s).toNat))) ∧ ((r87 = (M1 825 ((((256 : Int) * row) + s).toNat)) → (-32768 ≤ (256 : Int) ∧ (256 : Int) < 32768) ∧ (0 ≤ (((256 : Int) * row) + s) ∧ (((256 : Int) * row) + s) < ((65536 : Nat) : Int)) ∧ (∃ n', n' < n ∧ ((md = m1 ∧ ∃ (W1 W2 : Nat → List Int) (N M2 : ab_M), fm_A M md W1 W2 ∧ (∀ Mx : ab_M, fm_P M Mx md W1 W2 → K [] Mx) ∧ pz_rdn M N ∧ N 816 md.toNat = 0 ∧ la_P N M2 md W1 W2 ∧ 0 ≤ row ∧ row < (ab_up M2 816 md.toNat 1) 797 33 ∧ 0 ≤ (s + 1) ∧ (s + 1) ≤ 256 ∧ ∃ g0, fm_G (ab_up M2 816 md.toNat 1) (ab_up M1 825 ((((256 : Int) * row) + s).toNat) r87) g0 (0 : Int) ∧ n' = 300 + 200000 * (1179648 - g0) + 300 * row.toNat + 2 + (256 - (s + 1)).toNat ∧ ((0 : Int) = 0 → fm_c (ab_up M2 816 md.toNat 1) (ab_up M1 825 ((((256 : Int) * row) + s).toNat) r87) (256 * (row + 1)) ∧ ∀ j : Nat, 256 * row ≤ (j : Int) → (j : Int) < 256 * row + (s + 1) → re_v (ab_up M2 816 md.toNat 1) (re_N (ab_up M1 825 ((((256 : Int) * row) + s).toNat) r87)) j = re_N (ab_up M1 825 ((((256 : Int) * row) + s).toNat) r87) j))))) ∧ (¬ r87 = (M1 825 ((((256 : Int) * row) + s).toNat)) → (-32768 ≤ (256 : Int) ∧ (256 : Int) < 32768) ∧ (0 ≤ (((256 : Int) * row) + s) ∧ (((256 : Int) * row) + s) < ((65536 : Nat) : Int)) ∧ (∃ n', n' < n ∧ ((md = m1 ∧ ∃ (W1 W2 : Nat → List Int) (N M2 : ab_M), fm_A M md W1 W2 ∧ (∀ Mx : ab_M, fm_P M Mx md W1 W2 → K [] Mx) ∧ pz_rdn M N ∧ N 816 md.toNat = 0 ∧ la_P N M2 md W1 W2 ∧ 0 ≤ row ∧ row < (ab_up M2 816 md.toNat 1) 797 33 ∧ 0 ≤ (s + 1) ∧ (s + 1) ≤ 256 ∧ ∃ g0, fm_G (ab_up M2 816 md.toNat 1) (ab_up M1 825 ((((256 : Int) * row) + s).toNat) r87) g0 (1 : Int) ∧ n' = 300 + 200000 * (1179648 - g0) + 300 * row.toNat + 2 + (256 - (s + 1)).toNat ∧ ((1 : Int) = 0 → fm_c (ab_up M2 816 md.toNat 1) (ab_up M1 825 ((((256 : Int) * row) + s).toNat) r87) (256 * (row + 1)) ∧ ∀ j : Nat, 256 * row ≤ (j : Int) → (j : Int) < 256 * row + (s + 1) → re_v (ab_up M2 816 md.toNat 1) (re_N (ab_up M1 825 ((((256 : Int) * row) + s).toNat) r87)) j = re_N (ab_up M1 825 ((((256 : Int) * row) + s).toNat) r87) j))))))))))) := by
  obtain ⟨q1, W1, W2, N, M2, gA, gK, hr, h03, hla, hr0, hr1, hs0, hs1, g0, hG, hn, hcl⟩ := hI
  clear hS
  subst q1
  obtain ⟨g01, gP, g29, g803, gla, gre⟩ := id gA
  have hK := gre N M2 hr hla
  obtain ⟨⟨s0, s1⟩, -⟩ := id hK.1
  have f33 : M1 797 33 = (ab_up M2 816 md.toNat 1) 797 33 := hG.1.1 _ _ (by decide)
  obtain ⟨-, hch, hg0, hg1, hgT⟩ := id hG
  refine And.intro (by
    first
      | omega
      | exact ⟨by omega, by omega⟩
      | exact ⟨⟨by omega, by omega⟩, by omega, by omega⟩
      | exact ⟨⟨by omega, by omega⟩, ⟨by omega, by omega⟩, by omega, by omega⟩
      | exact gA.2.1
      | (have h := hM1.2.1.1 816 md.toNat (by decide) (by decide) (by omega); rw [h]; rcases gA.2.2.2.1 with z | z <;> (rw [z]; exact ⟨by decide, by decide⟩))
      | (rw [hr87]; exact hG.1.ir hK ⟨hr0, hr1⟩ ⟨hs0, by omega⟩)
      | (rcases hch with z | z <;> (rw [z]; exact ⟨by decide, by decide⟩))) ?_
  refine And.intro (by
    first
      | omega
      | exact ⟨by omega, by omega⟩
      | exact ⟨⟨by omega, by omega⟩, by omega, by omega⟩
      | exact ⟨⟨by omega, by omega⟩, ⟨by omega, by omega⟩, by omega, by omega⟩
      | exact gA.2.1
      | (have h := hM1.2.1.1 816 md.toNat (by decide) (by decide) (by omega); rw [h]; rcases gA.2.2.2.1 with z | z <;> (rw [z]; exact ⟨by decide, by decide⟩))
      | (rw [hr87]; exact hG.1.ir hK ⟨hr0, hr1⟩ ⟨hs0, by omega⟩)
      | (rcases hch with z | z <;> (rw [z]; exact ⟨by decide, by decide⟩))) ?_
  refine ⟨?_, ?_⟩
  · intro c80
    refine ⟨_, ?_, rfl, W1, W2, N, M2, gA, gK, hr, h03, hla, by omega, by omega, g0, hG, rfl, fun z => ?_⟩
    · omega
    obtain ⟨y1, y2⟩ := hcl z
    intro j hj1 hj2
    by_cases c : 256 * (row + 1) ≤ (j : Int)
    · exact y1 j c hj2
    · exact y2 j (by omega) (by omega)
  · intro c80
    refine And.intro (by
      exact ⟨hK.1.fr hG.1.1, ⟨hr0, by omega⟩, hs0, by omega⟩) ?_
    intro r87 hr87
    refine And.intro (by
      first
        | omega
        | exact ⟨by omega, by omega⟩
        | exact ⟨⟨by omega, by omega⟩, by omega, by omega⟩
        | exact ⟨⟨by omega, by omega⟩, ⟨by omega, by omega⟩, by omega, by omega⟩
        | exact gA.2.1
        | (have h := hM1.2.1.1 816 md.toNat (by decide) (by decide) (by omega); rw [h]; rcases gA.2.2.2.1 with z | z <;> (rw [z]; exact ⟨by decide, by decide⟩))
        | (rw [hr87]; exact hG.1.ir hK ⟨hr0, hr1⟩ ⟨hs0, by omega⟩)
        | (rcases hch with z | z <;> (rw [z]; exact ⟨by decide, by decide⟩))) ?_
    refine ⟨?_, ?_⟩
    · intro c93
      refine And.intro (by
        first
          | omega
          | exact ⟨by omega, by omega⟩
          | exact ⟨⟨by omega, by omega⟩, by omega, by omega⟩
          | exact ⟨⟨by omega, by omega⟩, ⟨by omega, by omega⟩, by omega, by omega⟩
          | exact gA.2.1
          | (have h := hM1.2.1.1 816 md.toNat (by decide) (by decide) (by omega); rw [h]; rcases gA.2.2.2.1 with z | z <;> (rw [z]; exact ⟨by decide, by decide⟩))
          | (rw [hr87]; exact hG.1.ir hK ⟨hr0, hr1⟩ ⟨hs0, by omega⟩)
          | (rcases hch with z | z <;> (rw [z]; exact ⟨by decide, by decide⟩))) ?_
      refine And.intro (by
        first
          | omega
          | exact ⟨by omega, by omega⟩
          | exact ⟨⟨by omega, by omega⟩, by omega, by omega⟩
          | exact ⟨⟨by omega, by omega⟩, ⟨by omega, by omega⟩, by omega, by omega⟩
          | exact gA.2.1
          | (have h := hM1.2.1.1 816 md.toNat (by decide) (by decide) (by omega); rw [h]; rcases gA.2.2.2.1 with z | z <;> (rw [z]; exact ⟨by decide, by decide⟩))
          | (rw [hr87]; exact hG.1.ir hK ⟨hr0, hr1⟩ ⟨hs0, by omega⟩)
          | (rcases hch with z | z <;> (rw [z]; exact ⟨by decide, by decide⟩))) ?_
      obtain ⟨i1, i2, i3⟩ := hG.1.next hK (row := row) (s := s) ⟨hr0, hr1⟩ ⟨hs0, by omega⟩
      rw [← hr87] at i1 i2 i3
      have hle := gx_c_le (K := 65536) i2
      have hT2 : gx_c 65536 (re_N (ab_up M1 825 (256 * row + s).toNat r87)) ≤ 1179648 := gx_m_bd _ _
      have hj : ((256 * row + s).toNat : Int) < 256 * (ab_up M2 816 md.toNat 1) 797 33 := by omega
      have hold : re_N M1 (256 * row + s).toNat = M1 825 (256 * row + s).toNat := by
        unfold re_N
        rw [if_pos (by rw [f33]; exact hj)]
      have hnew : r87 = re_v (ab_up M2 816 md.toNat 1) (re_N M1) (256 * row + s).toNat := by rw [hr87]; exact cb_eq hK hG.1 ⟨hr0, hr1⟩ ⟨hs0, by omega⟩
      have hch1 : ch = 1 := by omega
      have := hg1 hch1
      refine ⟨_, ?_, rfl, W1, W2, N, M2, gA, gK, hr, h03, hla, hr0, hr1, by omega, by omega, g0, ⟨i1, Or.inr rfl, by omega, fun _ => by omega, hT2⟩, rfl, fun z => absurd z (by decide)⟩
      omega
    · intro c93
      refine And.intro (by
        first
          | omega
          | exact ⟨by omega, by omega⟩
          | exact ⟨⟨by omega, by omega⟩, by omega, by omega⟩
          | exact ⟨⟨by omega, by omega⟩, ⟨by omega, by omega⟩, by omega, by omega⟩
          | exact gA.2.1
          | (have h := hM1.2.1.1 816 md.toNat (by decide) (by decide) (by omega); rw [h]; rcases gA.2.2.2.1 with z | z <;> (rw [z]; exact ⟨by decide, by decide⟩))
          | (rw [hr87]; exact hG.1.ir hK ⟨hr0, hr1⟩ ⟨hs0, by omega⟩)
          | (rcases hch with z | z <;> (rw [z]; exact ⟨by decide, by decide⟩))) ?_
      refine And.intro (by
        first
          | omega
          | exact ⟨by omega, by omega⟩
          | exact ⟨⟨by omega, by omega⟩, by omega, by omega⟩
          | exact ⟨⟨by omega, by omega⟩, ⟨by omega, by omega⟩, by omega, by omega⟩
          | exact gA.2.1
          | (have h := hM1.2.1.1 816 md.toNat (by decide) (by decide) (by omega); rw [h]; rcases gA.2.2.2.1 with z | z <;> (rw [z]; exact ⟨by decide, by decide⟩))
          | (rw [hr87]; exact hG.1.ir hK ⟨hr0, hr1⟩ ⟨hs0, by omega⟩)
          | (rcases hch with z | z <;> (rw [z]; exact ⟨by decide, by decide⟩))) ?_
      refine And.intro (by
        first
          | omega
          | exact ⟨by omega, by omega⟩
          | exact ⟨⟨by omega, by omega⟩, by omega, by omega⟩
          | exact ⟨⟨by omega, by omega⟩, ⟨by omega, by omega⟩, by omega, by omega⟩
          | exact gA.2.1
          | (have h := hM1.2.1.1 816 md.toNat (by decide) (by decide) (by omega); rw [h]; rcases gA.2.2.2.1 with z | z <;> (rw [z]; exact ⟨by decide, by decide⟩))
          | (rw [hr87]; exact hG.1.ir hK ⟨hr0, hr1⟩ ⟨hs0, by omega⟩)
          | (rcases hch with z | z <;> (rw [z]; exact ⟨by decide, by decide⟩))) ?_
      refine ⟨?_, ?_⟩
      · intro c111
        refine And.intro (by
          first
            | omega
            | exact ⟨by omega, by omega⟩
            | exact ⟨⟨by omega, by omega⟩, by omega, by omega⟩
            | exact ⟨⟨by omega, by omega⟩, ⟨by omega, by omega⟩, by omega, by omega⟩
            | exact gA.2.1
            | (have h := hM1.2.1.1 816 md.toNat (by decide) (by decide) (by omega); rw [h]; rcases gA.2.2.2.1 with z | z <;> (rw [z]; exact ⟨by decide, by decide⟩))
            | (rw [hr87]; exact hG.1.ir hK ⟨hr0, hr1⟩ ⟨hs0, by omega⟩)
            | (rcases hch with z | z <;> (rw [z]; exact ⟨by decide, by decide⟩))) ?_
        refine And.intro (by
          first
            | omega
            | exact ⟨by omega, by omega⟩
            | exact ⟨⟨by omega, by omega⟩, by omega, by omega⟩
            | exact ⟨⟨by omega, by omega⟩, ⟨by omega, by omega⟩, by omega, by omega⟩
            | exact gA.2.1
            | (have h := hM1.2.1.1 816 md.toNat (by decide) (by decide) (by omega); rw [h]; rcases gA.2.2.2.1 with z | z <;> (rw [z]; exact ⟨by decide, by decide⟩))
            | (rw [hr87]; exact hG.1.ir hK ⟨hr0, hr1⟩ ⟨hs0, by omega⟩)
            | (rcases hch with z | z <;> (rw [z]; exact ⟨by decide, by decide⟩))) ?_
        obtain ⟨i1, i2, i3⟩ := hG.1.next hK (row := row) (s := s) ⟨hr0, hr1⟩ ⟨hs0, by omega⟩
        rw [← hr87] at i1 i2 i3
        have hle := gx_c_le (K := 65536) i2
        have hT2 : gx_c 65536 (re_N (ab_up M1 825 (256 * row + s).toNat r87)) ≤ 1179648 := gx_m_bd _ _
        have hj : ((256 * row + s).toNat : Int) < 256 * (ab_up M2 816 md.toNat 1) 797 33 := by omega
        have hold : re_N M1 (256 * row + s).toNat = M1 825 (256 * row + s).toNat := by
          unfold re_N
          rw [if_pos (by rw [f33]; exact hj)]
        have hnew : r87 = re_v (ab_up M2 816 md.toNat 1) (re_N M1) (256 * row + s).toNat := by rw [hr87]; exact cb_eq hK hG.1 ⟨hr0, hr1⟩ ⟨hs0, by omega⟩
        have hch0 : ch = 0 := by assumption
        have hsame : re_N (ab_up M1 825 (256 * row + s).toNat r87) = re_N M1 := funext fun i => by
          rw [i3 i]
          by_cases c : i = (256 * row + s).toNat
          · rw [if_pos c, c, ← hnew, hold]; assumption
          · rw [if_neg c]
        refine ⟨_, ?_, rfl, W1, W2, N, M2, gA, gK, hr, h03, hla, hr0, hr1, by omega, by omega, g0, ⟨i1, Or.inl rfl, by omega, fun z => absurd z (by decide), hT2⟩, rfl, fun _ => ?_⟩
        · omega
        obtain ⟨y1, y2⟩ := hcl hch0
        rw [hsame]
        refine ⟨fun j a b => by rw [hsame]; exact y1 j a b, fun j a b => ?_⟩
        by_cases c : j = (256 * row + s).toNat
        · rw [c, ← hnew, hold]; assumption
        · exact y2 j a (by omega)
      · intro c111
        refine And.intro (by
          first
            | omega
            | exact ⟨by omega, by omega⟩
            | exact ⟨⟨by omega, by omega⟩, by omega, by omega⟩
            | exact ⟨⟨by omega, by omega⟩, ⟨by omega, by omega⟩, by omega, by omega⟩
            | exact gA.2.1
            | (have h := hM1.2.1.1 816 md.toNat (by decide) (by decide) (by omega); rw [h]; rcases gA.2.2.2.1 with z | z <;> (rw [z]; exact ⟨by decide, by decide⟩))
            | (rw [hr87]; exact hG.1.ir hK ⟨hr0, hr1⟩ ⟨hs0, by omega⟩)
            | (rcases hch with z | z <;> (rw [z]; exact ⟨by decide, by decide⟩))) ?_
        refine And.intro (by
          first
            | omega
            | exact ⟨by omega, by omega⟩
            | exact ⟨⟨by omega, by omega⟩, by omega, by omega⟩
            | exact ⟨⟨by omega, by omega⟩, ⟨by omega, by omega⟩, by omega, by omega⟩
            | exact gA.2.1
            | (have h := hM1.2.1.1 816 md.toNat (by decide) (by decide) (by omega); rw [h]; rcases gA.2.2.2.1 with z | z <;> (rw [z]; exact ⟨by decide, by decide⟩))
            | (rw [hr87]; exact hG.1.ir hK ⟨hr0, hr1⟩ ⟨hs0, by omega⟩)
            | (rcases hch with z | z <;> (rw [z]; exact ⟨by decide, by decide⟩))) ?_
        obtain ⟨i1, i2, i3⟩ := hG.1.next hK (row := row) (s := s) ⟨hr0, hr1⟩ ⟨hs0, by omega⟩
        rw [← hr87] at i1 i2 i3
        have hle := gx_c_le (K := 65536) i2
        have hT2 : gx_c 65536 (re_N (ab_up M1 825 (256 * row + s).toNat r87)) ≤ 1179648 := gx_m_bd _ _
        have hj : ((256 * row + s).toNat : Int) < 256 * (ab_up M2 816 md.toNat 1) 797 33 := by omega
        have hold : re_N M1 (256 * row + s).toNat = M1 825 (256 * row + s).toNat := by
          unfold re_N
          rw [if_pos (by rw [f33]; exact hj)]
        have hnew : r87 = re_v (ab_up M2 816 md.toNat 1) (re_N M1) (256 * row + s).toNat := by rw [hr87]; exact cb_eq hK hG.1 ⟨hr0, hr1⟩ ⟨hs0, by omega⟩
        have hlt : gx_c 65536 (re_N M1) < gx_c 65536 (re_N (ab_up M1 825 (256 * row + s).toNat r87)) := by
          refine gx_c_lt i2 (j := (256 * row + s).toNat) (by omega) (i1.b18 hK) (hG.1.2.2.2 _) (i1.2.2.2 _) ?_
          rw [i3, if_pos rfl, ← hnew, hold]
          assumption
        refine ⟨_, ?_, rfl, W1, W2, N, M2, gA, gK, hr, h03, hla, hr0, hr1, by omega, by omega, g0, ⟨i1, Or.inr rfl, by omega, fun _ => by omega, hT2⟩, rfl, fun z => absurd z (by decide)⟩
        omega

set_option maxRecDepth 20000 in
theorem vc_X9_findMasks_152 (md : Int) (M : ab_M) (K : List ab_V → ab_M → Prop) (hS : (∃ W1 : Nat → List Int, ∃ W2 : Nat → List Int, (fm_A M md W1 W2) ∧ (∀ Mx : ab_M, (fm_P M Mx md W1 W2) → K [] Mx))) (n : Nat) (m1 : Int) (ch : Int) (s : Int) (M1 : ab_M) (hI : md = m1 ∧ 0 ≤ s ∧ s ≤ 256 ∧ n = (256 - s).toNat ∧ ∃ (W1 W2 : Nat → List Int) (N M2 : ab_M), fm_A M md W1 W2 ∧ (∀ Mx : ab_M, fm_P M Mx md W1 W2 → K [] Mx) ∧ pz_rdn M N ∧ N 816 md.toNat = 0 ∧ la_P N M2 md W1 W2 ∧ fm_W (ab_up M2 816 md.toNat 1) M1 md.toNat s) : (-32768 ≤ (256 : Int) ∧ (256 : Int) < 32768) ∧ (ab_ir s ∧ ab_ir (256 : Int)) ∧ (((256 : Int) ≤ s → K [] M1) ∧ (s < (256 : Int) → (-32768 ≤ (256 : Int) ∧ (256 : Int) < 32768) ∧ ((0 ≤ M1 797 33 ∧ M1 797 33 ≤ 256) ∧ (-1 ≤ (0 : Int) ∧ (0 : Int) ≤ M1 797 33) ∧ (0 ≤ s ∧ s < 256)) ∧ (∀ r173 : Int, (r173 = cf_v M1 (0 : Int) s) → (0 ≤ (((256 : Int) * m1) + s) ∧ (((256 : Int) * m1) + s) < ((512 : Nat) : Int)) ∧ (∃ n', n' < n ∧ ((md = m1 ∧ 0 ≤ (s + 1) ∧ (s + 1) ≤ 256 ∧ n' = (256 - (s + 1)).toNat ∧ ∃ (W1 W2 : Nat → List Int) (N M2 : ab_M), fm_A M md W1 W2 ∧ (∀ Mx : ab_M, fm_P M Mx md W1 W2 → K [] Mx) ∧ pz_rdn M N ∧ N 816 md.toNat = 0 ∧ la_P N M2 md W1 W2 ∧ fm_W (ab_up M2 816 md.toNat 1) (ab_up M1 826 ((((256 : Int) * m1) + s).toNat) r173) md.toNat (s + 1))))))) := by
  obtain ⟨q1, hs0, hs1, hn, W1, W2, N, M2, gA, gK, hr, h03, hla, hW⟩ := hI
  clear hS
  subst q1
  obtain ⟨g01, gP, g29, g803, gla, gre⟩ := id gA
  have hK := gre N M2 hr hla
  obtain ⟨⟨s0, s1⟩, -⟩ := id hK.1
  have f33 : M1 797 33 = (ab_up M2 816 md.toNat 1) 797 33 := hW.1 _ _ (by decide) (by omega)
  refine And.intro (by
    first
      | omega
      | exact ⟨by omega, by omega⟩
      | exact ⟨⟨by omega, by omega⟩, by omega, by omega⟩
      | exact ⟨⟨by omega, by omega⟩, ⟨by omega, by omega⟩, by omega, by omega⟩
      | exact gA.2.1
      | (have h := hM1.2.1.1 816 md.toNat (by decide) (by decide) (by omega); rw [h]; rcases gA.2.2.2.1 with z | z <;> (rw [z]; exact ⟨by decide, by decide⟩))
      | (rw [hr87]; exact hG.1.ir hK ⟨hr0, hr1⟩ ⟨hs0, by omega⟩)
      | (rcases hch with z | z <;> (rw [z]; exact ⟨by decide, by decide⟩))) ?_
  refine And.intro (by
    first
      | omega
      | exact ⟨by omega, by omega⟩
      | exact ⟨⟨by omega, by omega⟩, by omega, by omega⟩
      | exact ⟨⟨by omega, by omega⟩, ⟨by omega, by omega⟩, by omega, by omega⟩
      | exact gA.2.1
      | (have h := hM1.2.1.1 816 md.toNat (by decide) (by decide) (by omega); rw [h]; rcases gA.2.2.2.1 with z | z <;> (rw [z]; exact ⟨by decide, by decide⟩))
      | (rw [hr87]; exact hG.1.ir hK ⟨hr0, hr1⟩ ⟨hs0, by omega⟩)
      | (rcases hch with z | z <;> (rw [z]; exact ⟨by decide, by decide⟩))) ?_
  refine ⟨?_, ?_⟩
  · intro c156
    refine gK _ ⟨N, hr, Or.inr ⟨h03, M2, hla, hW.1, fun j hj => hW.2.1 j (by omega), hW.2.2⟩⟩
  · intro c156
    refine And.intro (by
      first
        | omega
        | exact ⟨by omega, by omega⟩
        | exact ⟨⟨by omega, by omega⟩, by omega, by omega⟩
        | exact ⟨⟨by omega, by omega⟩, ⟨by omega, by omega⟩, by omega, by omega⟩
        | exact gA.2.1
        | (have h := hM1.2.1.1 816 md.toNat (by decide) (by decide) (by omega); rw [h]; rcases gA.2.2.2.1 with z | z <;> (rw [z]; exact ⟨by decide, by decide⟩))
        | (rw [hr87]; exact hG.1.ir hK ⟨hr0, hr1⟩ ⟨hs0, by omega⟩)
        | (rcases hch with z | z <;> (rw [z]; exact ⟨by decide, by decide⟩))) ?_
    refine And.intro (by
      first
        | omega
        | exact ⟨by omega, by omega⟩
        | exact ⟨⟨by omega, by omega⟩, by omega, by omega⟩
        | exact ⟨⟨by omega, by omega⟩, ⟨by omega, by omega⟩, by omega, by omega⟩
        | exact gA.2.1
        | (have h := hM1.2.1.1 816 md.toNat (by decide) (by decide) (by omega); rw [h]; rcases gA.2.2.2.1 with z | z <;> (rw [z]; exact ⟨by decide, by decide⟩))
        | (rw [hr87]; exact hG.1.ir hK ⟨hr0, hr1⟩ ⟨hs0, by omega⟩)
        | (rcases hch with z | z <;> (rw [z]; exact ⟨by decide, by decide⟩))) ?_
    intro r173 hr173
    refine And.intro (by
      first
        | omega
        | exact ⟨by omega, by omega⟩
        | exact ⟨⟨by omega, by omega⟩, by omega, by omega⟩
        | exact ⟨⟨by omega, by omega⟩, ⟨by omega, by omega⟩, by omega, by omega⟩
        | exact gA.2.1
        | (have h := hM1.2.1.1 816 md.toNat (by decide) (by decide) (by omega); rw [h]; rcases gA.2.2.2.1 with z | z <;> (rw [z]; exact ⟨by decide, by decide⟩))
        | (rw [hr87]; exact hG.1.ir hK ⟨hr0, hr1⟩ ⟨hs0, by omega⟩)
        | (rcases hch with z | z <;> (rw [z]; exact ⟨by decide, by decide⟩))) ?_
    obtain ⟨w1, w2, w3⟩ := hW
    have hix : (256 * md + s).toNat = 256 * md.toNat + s.toNat := by omega
    have hf : ∀ o k : Nat, o ≠ 826 → ab_up M1 826 (256 * md + s).toNat r173 o k = M1 o k := fun o k z => up_ne (fun y => z y.1)
    have hcf : ∀ x : Int, cf_v (ab_up M1 826 (256 * md + s).toNat r173) 0 x = cf_v M1 0 x := fun x => by
      unfold cf_v
      rw [hf 797 _ (by decide), hf 825 _ (by decide)]
    refine ⟨_, ?_, rfl, by omega, by omega, rfl, W1, W2, N, M2, gA, gK, hr, h03, hla, fun o k z y => ?_, fun j hj => ?_, fun j b hj hb => by rw [hf _ _ (by decide)]; exact w3 j b hj hb⟩
    · omega
    · rw [up_ne (by omega)]; exact w1 o k z y
    · rw [hcf]
      by_cases c : j = s.toNat
      · rw [c, hix, ab_up_s, hr173, show ((s.toNat : Nat) : Int) = s by omega]
      · rw [up_ne (by omega)]; exact w2 j (by omega)

set_option maxRecDepth 20000 in
set_option maxHeartbeats 1000000 in
theorem ok_X9_findMasks (E : ab_E) : ab_Ok E 9 137 S_X9_findMasks := by
  refine ab_mk rq_X9_findMasks tk_X9_findMasks (rt := 0) (rfl) (cuts := [28, 55, 68, 75, 152]) (G := [(123, S_X9_canBy), (124, S_X9_canFrom), (157, S_X9_lay), (170, S_X9_read)]) (List.forall_mem_cons.mpr ⟨⟨2, by decide, ok_X9_canBy E⟩, List.forall_mem_cons.mpr ⟨⟨1, by decide, ok_X9_canFrom E⟩, List.forall_mem_cons.mpr ⟨⟨8, by decide, ok_X9_lay E⟩, List.forall_mem_cons.mpr ⟨⟨7, by decide, ok_X9_read E⟩, fun _ h => absurd h List.not_mem_nil⟩⟩⟩⟩) (by decide) 154 rfl ?_
  intro a M K wd wa hS
  unfold S_X9_findMasks at hS
  split at hS
  ·
    rename_i md
    refine ⟨Nat.le_of_ble_eq_true rfl, fun pc n L st M1 => match pc, L, st with
      | 28, [.inr (.inr (.inr (797, 9, 0))), .inr (.inl m1), .inr (.inl k), u4_, u5_, u6_], [] => (md = m1 ∧ 0 ≤ k ∧ n = 10000000000000 + (65536 - k).toNat ∧ ∃ (W1 W2 : Nat → List Int) (N M2 : ab_M), fm_A M md W1 W2 ∧ (∀ Mx : ab_M, fm_P M Mx md W1 W2 → K [] Mx) ∧ pz_rdn M N ∧ N 816 md.toNat = 0 ∧ la_P N M2 md W1 W2 ∧ k ≤ 256 * (ab_up M2 816 md.toNat 1) 797 33 ∧ (∀ o j : Nat, o ≠ 825 → M1 o j = (ab_up M2 816 md.toNat 1) o j) ∧ ∀ j : Nat, (j : Int) < k → M1 825 j = 0)
      | 55, [.inr (.inr (.inr (797, 9, 0))), .inr (.inl m1), .inr (.inl ch), u4_, u5_, u6_], [] => (md = m1 ∧ ∃ (W1 W2 : Nat → List Int) (N M2 : ab_M), fm_A M md W1 W2 ∧ (∀ Mx : ab_M, fm_P M Mx md W1 W2 → K [] Mx) ∧ pz_rdn M N ∧ N 816 md.toNat = 0 ∧ la_P N M2 md W1 W2 ∧ ∃ g0, fm_G (ab_up M2 816 md.toNat 1) M1 g0 0 ∧ g0 = gx_c 65536 (re_N M1) ∧ (ch = 0 ∨ ch = 1) ∧ n = 300 + 200000 * (1179648 - g0) + (if ch = 1 then 199999 else 0) ∧ (ch = 0 → fm_c (ab_up M2 816 md.toNat 1) M1 0))
      | 68, [.inr (.inr (.inr (797, 9, 0))), .inr (.inl m1), .inr (.inl ch), .inr (.inl row), u5_, u6_], [] => (md = m1 ∧ ∃ (W1 W2 : Nat → List Int) (N M2 : ab_M), fm_A M md W1 W2 ∧ (∀ Mx : ab_M, fm_P M Mx md W1 W2 → K [] Mx) ∧ pz_rdn M N ∧ N 816 md.toNat = 0 ∧ la_P N M2 md W1 W2 ∧ -1 ≤ row ∧ row < (ab_up M2 816 md.toNat 1) 797 33 ∧ ∃ g0, fm_G (ab_up M2 816 md.toNat 1) M1 g0 ch ∧ n = 300 + 200000 * (1179648 - g0) + 300 * (row + 1).toNat + 1 ∧ (ch = 0 → fm_c (ab_up M2 816 md.toNat 1) M1 (256 * (row + 1))))
      | 75, [.inr (.inr (.inr (797, 9, 0))), .inr (.inl m1), .inr (.inl ch), .inr (.inl row), .inr (.inl s), u6_], [] => (md = m1 ∧ ∃ (W1 W2 : Nat → List Int) (N M2 : ab_M), fm_A M md W1 W2 ∧ (∀ Mx : ab_M, fm_P M Mx md W1 W2 → K [] Mx) ∧ pz_rdn M N ∧ N 816 md.toNat = 0 ∧ la_P N M2 md W1 W2 ∧ 0 ≤ row ∧ row < (ab_up M2 816 md.toNat 1) 797 33 ∧ 0 ≤ s ∧ s ≤ 256 ∧ ∃ g0, fm_G (ab_up M2 816 md.toNat 1) M1 g0 ch ∧ n = 300 + 200000 * (1179648 - g0) + 300 * row.toNat + 2 + (256 - s).toNat ∧ (ch = 0 → fm_c (ab_up M2 816 md.toNat 1) M1 (256 * (row + 1)) ∧ ∀ j : Nat, 256 * row ≤ (j : Int) → (j : Int) < 256 * row + s → re_v (ab_up M2 816 md.toNat 1) (re_N M1) j = re_N M1 j))
      | 152, [.inr (.inr (.inr (797, 9, 0))), .inr (.inl m1), .inr (.inl ch), .inr (.inl s), u5_, u6_], [] => (md = m1 ∧ 0 ≤ s ∧ s ≤ 256 ∧ n = (256 - s).toNat ∧ ∃ (W1 W2 : Nat → List Int) (N M2 : ab_M), fm_A M md W1 W2 ∧ (∀ Mx : ab_M, fm_P M Mx md W1 W2 → K [] Mx) ∧ pz_rdn M N ∧ N 816 md.toNat = 0 ∧ la_P N M2 md W1 W2 ∧ fm_W (ab_up M2 816 md.toNat 1) M1 md.toNat s)
      | _, _, _ => False, ?_, ?_⟩
    · exact vc_X9_findMasks_0 md M K  hS
    · intro pc n L st M1 hI wd1 wL wst
      (try dsimp only at hI)
      split at hI
      ·
        rename_i m1 k u4_ u5_ u6_
        exact vc_X9_findMasks_28 md M K  hS n m1 k _ hI
      ·
        rename_i m1 ch u4_ u5_ u6_
        exact vc_X9_findMasks_55 md M K  hS n m1 ch _ hI
      ·
        rename_i m1 ch row u5_ u6_
        exact vc_X9_findMasks_68 md M K  hS n m1 ch row _ hI
      ·
        rename_i m1 ch row s u6_
        exact vc_X9_findMasks_75 md M K  hS n m1 ch row s _ hI
      ·
        rename_i m1 ch s u5_ u6_
        exact vc_X9_findMasks_152 md M K  hS n m1 ch s _ hI
      · exact hI.elim
  · exact hS.elim
