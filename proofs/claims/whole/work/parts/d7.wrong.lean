/-! the starts from which a check can go wrong -/
theorem fm_A.rd {M N : ab_M} {md : Int} {W1 W2 : Nat → List Int} (h : fm_A M md W1 W2) (hr : pz_rdn M N) : fm_A N md W1 W2 := by
  obtain ⟨h1, h2, h3, h4, h5, h6⟩ := h
  have e : ∀ N', pz_rdn N N' → N' = N := fun N' z => z.1 hr.2.2.1
  refine ⟨h1, pz_rdn.PR h2 hr, ?_, ?_, fun N' z => by rw [e N' z]; exact h5 N hr, fun N' M2 z => by rw [e N' z]; exact h6 N M2 hr⟩
  · rw [hr.2.1.2 29 (by decide) (by decide) (by decide) (by decide) (by decide) (by decide) (by decide) (by decide) (by decide)]; exact h3
  · rw [hr.2.1.1 816 _ (by decide) (by decide) (by omega)]; exact h4
theorem fm_P.rd {M N M1 : ab_M} {md : Int} {W1 W2 : Nat → List Int} (hr : pz_rdn M N) (h : fm_P N M1 md W1 W2) : fm_P M M1 md W1 W2 := by
  obtain ⟨N', z, h⟩ := h
  rw [z.1 hr.2.2.1] at h
  exact ⟨N, hr, h⟩
/-- the starts from which a check can go wrong: how many, the least -/
def wr_f (M : ab_M) (md c : Int) (x : Nat) : Bool := pz_b (M 826 (256 * md.toNat + x)) c.toNat
def wr_1 (f : Nat → Bool) (k : Nat) (r : Int) : Prop := (gx_m f k = 0 ∧ r = -9) ∨ (gx_m f k ≠ 0 ∧ ∃ x : Nat, x < k ∧ f x = true ∧ (∀ y, y < x → ¬ f y = true) ∧ r = (x : Int))
theorem gx_m_0 {f : Nat → Bool} : ∀ k, gx_m f k = 0 → ∀ y, y < k → ¬ f y = true
  | 0, _, y, hy => absurd hy (Nat.not_lt_zero y)
  | k + 1, h, y, hy => by
    have h : gx_m f k + (if f k = true then 1 else 0) = 0 := h
    by_cases c : f k = true
    · rw [if_pos c] at h; omega
    · by_cases e : y = k
      · rw [e]; exact c
      · exact gx_m_0 k (by omega) y (by omega)
theorem wr_1.next {f : Nat → Bool} {k : Nat} {r : Int} (h : wr_1 f k r) : wr_1 f (k + 1) (if f k = true ∧ gx_m f k = 0 then (k : Int) else r) := by
  have e : gx_m f (k + 1) = gx_m f k + (if f k = true then 1 else 0) := rfl
  by_cases c : f k = true
  · rw [if_pos c] at e
    rcases h with ⟨h1, h2⟩ | ⟨h1, x, h2, h3, h4, h5⟩
    · rw [if_pos ⟨c, h1⟩]
      exact Or.inr ⟨by omega, k, Nat.lt_succ_self k, c, fun y hy => gx_m_0 k h1 y hy, rfl⟩
    · rw [if_neg (fun z => h1 z.2)]
      exact Or.inr ⟨by omega, x, by omega, h3, h4, h5⟩
  · rw [if_neg c] at e
    rw [if_neg (fun z => c z.1)]
    rcases h with ⟨h1, h2⟩ | ⟨h1, x, h2, h3, h4, h5⟩
    · exact Or.inl ⟨by omega, h2⟩
    · exact Or.inr ⟨by omega, x, by omega, h3, h4, h5⟩
def wr_P (M M' : ab_M) (md c q r : Int) (W1 W2 : Nat → List Int) : Prop := (¬ (0 ≤ md ∧ md ≤ 1) → M' = M ∧ r = -1) ∧ (0 ≤ md ∧ md ≤ 1 → ∃ N, pz_rdn M N ∧ (¬ ((0 ≤ c ∧ c < N 797 20) ∧ 0 ≤ q ∧ q ≤ 1) → M' = N ∧ r = -1) ∧ ((0 ≤ c ∧ c < N 797 20) ∧ 0 ≤ q ∧ q ≤ 1 → fm_P M M' md W1 W2 ∧ (q = 0 → r = ((gx_m (wr_f M' md c) 256 : Nat) : Int)) ∧ (q = 1 → wr_1 (wr_f M' md c) 256 r)))

def S_X9_wrong : ab_PT := fun a M K => match a with
  | [.inr (.inr (.inr (797, 9, 0))), .inr (.inl md), .inr (.inl c), .inr (.inl q)] => (∃ W1 : Nat → List Int, ∃ W2 : Nat → List Int, ((ab_ir md ∧ ab_ir c ∧ ab_ir q) ∧ (0 ≤ md ∧ md ≤ 1 → fm_A M md W1 W2)) ∧ (∀ rx : Int, ∀ Mx : ab_M, (wr_P M Mx md c q rx W1 W2) → K [Xi rx] Mx))
  | _ => False
set_option maxRecDepth 20000 in
theorem vc_X9_wrong_0 (md : Int) (c : Int) (q : Int) (M : ab_M) (K : List ab_V → ab_M → Prop) (hS : (∃ W1 : Nat → List Int, ∃ W2 : Nat → List Int, ((ab_ir md ∧ ab_ir c ∧ ab_ir q) ∧ (0 ≤ md ∧ md ≤ 1 → fm_A M md W1 W2)) ∧ (∀ rx : Int, ∀ Mx : ab_M, (wr_P M Mx md c q rx W1 W2) → K [Xi rx] Mx))) : (ab_ir md ∧ ab_ir (0 : Int) ∧ ab_ir (1 : Int)) ∧ (∀ r3 : Int, (r3 = if (0 : Int) ≤ md ∧ md ≤ (1 : Int) then 1 else 0) → (ab_ir r3) ∧ ((r3 = 0 → K [Xi (-1 : Int)] M) ∧ (¬ r3 = 0 → (pz_PR M ∧ ab_ir c) ∧ (∀ r11 : Int, ∀ M11 : ab_M, (pz_rdn M M11) → (r11 = if 0 ≤ c ∧ c < M11 797 20 then 1 else 0) → (ab_ir r11) ∧ ((r11 = 0 → K [Xi (-1 : Int)] M11) ∧ (¬ r11 = 0 → (ab_ir q ∧ ab_ir (0 : Int) ∧ ab_ir (1 : Int)) ∧ (∀ r20 : Int, (r20 = if (0 : Int) ≤ q ∧ q ≤ (1 : Int) then 1 else 0) → (ab_ir r20) ∧ ((¬ r20 = 0 → (∃ W1_30 : Nat → List Int, ∃ W2_30 : Nat → List Int, (fm_A M11 md W1_30 W2_30) ∧ (∀ M30 : ab_M, (fm_P M11 M30 md W1_30 W2_30) → (-128 ≤ (-9 : Int) ∧ (-9 : Int) < 128) ∧ (∃ n', ((n' = (256 - (0 : Int)).toNat ∧ 0 ≤ (0 : Int) ∧ (0 : Int) ≤ 256 ∧ md = md ∧ c = c ∧ q = q ∧ (0 ≤ md ∧ md ≤ 1) ∧ (0 ≤ c ∧ c < 16) ∧ (0 ≤ q ∧ q ≤ 1) ∧ ∃ W1 W2 N, (∀ rx : Int, ∀ Mx : ab_M, wr_P M Mx md c q rx W1 W2 → K [Xi rx] Mx) ∧ pz_rdn M N ∧ c < N 797 20 ∧ fm_P M M30 md W1 W2 ∧ (0 : Int) = ((gx_m (wr_f M30 md c) (0 : Int).toNat : Nat) : Int) ∧ wr_1 (wr_f M30 md c) (0 : Int).toNat (-9 : Int))))))) ∧ (r20 = 0 → K [Xi (-1 : Int)] M11))))))))) := by
  obtain ⟨W1, W2, ⟨⟨gm, gc, gq⟩, gA⟩, gK⟩ := hS
  refine And.intro (by
    first
      | omega
      | exact ⟨by omega, by omega⟩
      | exact ⟨gm, ⟨by decide, by decide⟩, by decide, by decide⟩
      | exact ⟨gq, ⟨by decide, by decide⟩, by decide, by decide⟩
      | exact ⟨(gA (by omega)).2.1, gc⟩
      | exact gq
      | (split <;> exact ⟨by decide, by decide⟩)
      | exact (gA (by omega)).rd hM11
      | exact ⟨⟨by omega, by omega⟩, by omega, by omega⟩
      | trivial) ?_
  intro r3 hr3
  refine And.intro (by
    first
      | omega
      | exact ⟨by omega, by omega⟩
      | exact ⟨gm, ⟨by decide, by decide⟩, by decide, by decide⟩
      | exact ⟨gq, ⟨by decide, by decide⟩, by decide, by decide⟩
      | exact ⟨(gA (by omega)).2.1, gc⟩
      | exact gq
      | (split <;> exact ⟨by decide, by decide⟩)
      | exact (gA (by omega)).rd hM11
      | exact ⟨⟨by omega, by omega⟩, by omega, by omega⟩
      | trivial) ?_
  refine ⟨?_, ?_⟩
  · intro c6
    rw [hr3] at c6
    rw [ab_bf] at c6
    clear hr3 r3
    exact gK _ _ ⟨fun _ => ⟨rfl, rfl⟩, fun z => by omega⟩
  · intro c6
    rw [hr3] at c6
    rw [ab_bt] at c6
    clear hr3 r3
    refine And.intro (by
      first
        | omega
        | exact ⟨by omega, by omega⟩
        | exact ⟨gm, ⟨by decide, by decide⟩, by decide, by decide⟩
        | exact ⟨gq, ⟨by decide, by decide⟩, by decide, by decide⟩
        | exact ⟨(gA (by omega)).2.1, gc⟩
        | exact gq
        | (split <;> exact ⟨by decide, by decide⟩)
        | exact (gA (by omega)).rd hM11
        | exact ⟨⟨by omega, by omega⟩, by omega, by omega⟩
        | trivial) ?_
    intro r11 M11 hM11 hr11
    have hri := hM11.2.2.2.2.2.1.2.2.1
    refine And.intro (by
      first
        | omega
        | exact ⟨by omega, by omega⟩
        | exact ⟨gm, ⟨by decide, by decide⟩, by decide, by decide⟩
        | exact ⟨gq, ⟨by decide, by decide⟩, by decide, by decide⟩
        | exact ⟨(gA (by omega)).2.1, gc⟩
        | exact gq
        | (split <;> exact ⟨by decide, by decide⟩)
        | exact (gA (by omega)).rd hM11
        | exact ⟨⟨by omega, by omega⟩, by omega, by omega⟩
        | trivial) ?_
    refine ⟨?_, ?_⟩
    · intro c14
      rw [hr11] at c14
      rw [ab_bf] at c14
      clear hr11 r11
      exact gK _ _ ⟨fun z => by omega, fun _ => ⟨M11, hM11, fun _ => ⟨rfl, rfl⟩, fun z => by omega⟩⟩
    · intro c14
      rw [hr11] at c14
      rw [ab_bt] at c14
      clear hr11 r11
      refine And.intro (by
        first
          | omega
          | exact ⟨by omega, by omega⟩
          | exact ⟨gm, ⟨by decide, by decide⟩, by decide, by decide⟩
          | exact ⟨gq, ⟨by decide, by decide⟩, by decide, by decide⟩
          | exact ⟨(gA (by omega)).2.1, gc⟩
          | exact gq
          | (split <;> exact ⟨by decide, by decide⟩)
          | exact (gA (by omega)).rd hM11
          | exact ⟨⟨by omega, by omega⟩, by omega, by omega⟩
          | trivial) ?_
      intro r20 hr20
      refine And.intro (by
        first
          | omega
          | exact ⟨by omega, by omega⟩
          | exact ⟨gm, ⟨by decide, by decide⟩, by decide, by decide⟩
          | exact ⟨gq, ⟨by decide, by decide⟩, by decide, by decide⟩
          | exact ⟨(gA (by omega)).2.1, gc⟩
          | exact gq
          | (split <;> exact ⟨by decide, by decide⟩)
          | exact (gA (by omega)).rd hM11
          | exact ⟨⟨by omega, by omega⟩, by omega, by omega⟩
          | trivial) ?_
      refine ⟨?_, ?_⟩
      · intro c23
        rw [hr20] at c23
        rw [ab_bt] at c23
        clear hr20 r20
        refine Exists.intro (W1) <| Exists.intro (W2) <| ?_
        refine And.intro (by
          first
            | omega
            | exact ⟨by omega, by omega⟩
            | exact ⟨gm, ⟨by decide, by decide⟩, by decide, by decide⟩
            | exact ⟨gq, ⟨by decide, by decide⟩, by decide, by decide⟩
            | exact ⟨(gA (by omega)).2.1, gc⟩
            | exact gq
            | (split <;> exact ⟨by decide, by decide⟩)
            | exact (gA (by omega)).rd hM11
            | exact ⟨⟨by omega, by omega⟩, by omega, by omega⟩
            | trivial) ?_
        intro M30 hM30
        refine And.intro (by
          first
            | omega
            | exact ⟨by omega, by omega⟩
            | exact ⟨gm, ⟨by decide, by decide⟩, by decide, by decide⟩
            | exact ⟨gq, ⟨by decide, by decide⟩, by decide, by decide⟩
            | exact ⟨(gA (by omega)).2.1, gc⟩
            | exact gq
            | (split <;> exact ⟨by decide, by decide⟩)
            | exact (gA (by omega)).rd hM11
            | exact ⟨⟨by omega, by omega⟩, by omega, by omega⟩
            | trivial) ?_
        have hc20 : 0 ≤ c ∧ c < M11 797 20 := by assumption
        refine ⟨_, rfl, by decide, by decide, rfl, rfl, rfl, ⟨by omega, by omega⟩, ⟨by omega, by omega⟩, ⟨by omega, by omega⟩, W1, W2, M11, gK, hM11, hc20.2, fm_P.rd hM11 hM30, rfl, Or.inl ⟨rfl, rfl⟩⟩
      · intro c23
        rw [hr20] at c23
        rw [ab_bf] at c23
        clear hr20 r20
        exact gK _ _ ⟨fun z => by omega, fun _ => ⟨M11, hM11, fun _ => ⟨rfl, rfl⟩, fun z => by omega⟩⟩

set_option maxRecDepth 20000 in
theorem vc_X9_wrong_43 (md : Int) (c : Int) (q : Int) (M : ab_M) (K : List ab_V → ab_M → Prop) (hS : (∃ W1 : Nat → List Int, ∃ W2 : Nat → List Int, ((ab_ir md ∧ ab_ir c ∧ ab_ir q) ∧ (0 ≤ md ∧ md ≤ 1 → fm_A M md W1 W2)) ∧ (∀ rx : Int, ∀ Mx : ab_M, (wr_P M Mx md c q rx W1 W2) → K [Xi rx] Mx))) (n : Nat) (m1 : Int) (c1 : Int) (q1 : Int) (cnt : Int) (fst : Int) (k : Int) (M1 : ab_M) (hI : n = (256 - k).toNat ∧ 0 ≤ k ∧ k ≤ 256 ∧ md = m1 ∧ c = c1 ∧ q = q1 ∧ (0 ≤ md ∧ md ≤ 1) ∧ (0 ≤ c ∧ c < 16) ∧ (0 ≤ q ∧ q ≤ 1) ∧ ∃ W1 W2 N, (∀ rx : Int, ∀ Mx : ab_M, wr_P M Mx md c q rx W1 W2 → K [Xi rx] Mx) ∧ pz_rdn M N ∧ c < N 797 20 ∧ fm_P M M1 md W1 W2 ∧ cnt = ((gx_m (wr_f M1 md c) k.toNat : Nat) : Int) ∧ wr_1 (wr_f M1 md c) k.toNat fst) : (-32768 ≤ (256 : Int) ∧ (256 : Int) < 32768) ∧ (ab_ir k ∧ ab_ir (256 : Int)) ∧ (((256 : Int) ≤ k → (ab_ir q1) ∧ ((¬ q1 = 0 → K [Xi fst] M1) ∧ (q1 = 0 → K [Xi cnt] M1))) ∧ (k < (256 : Int) → (-32768 ≤ (256 : Int) ∧ (256 : Int) < 32768) ∧ (0 ≤ (((256 : Int) * m1) + k) ∧ (((256 : Int) * m1) + k) < ((512 : Nat) : Int)) ∧ (True) ∧ (∀ r65 : Int, (r65 = if ab_and (ab_shr (M1 826 ((((256 : Int) * m1) + k).toNat)) c1) 1 = 1 then 1 else 0) → (ab_ir r65) ∧ ((r65 = 0 → (∃ n', n' < n ∧ ((n' = (256 - (k + 1)).toNat ∧ 0 ≤ (k + 1) ∧ (k + 1) ≤ 256 ∧ md = m1 ∧ c = c1 ∧ q = q1 ∧ (0 ≤ md ∧ md ≤ 1) ∧ (0 ≤ c ∧ c < 16) ∧ (0 ≤ q ∧ q ≤ 1) ∧ ∃ W1 W2 N, (∀ rx : Int, ∀ Mx : ab_M, wr_P M Mx md c q rx W1 W2 → K [Xi rx] Mx) ∧ pz_rdn M N ∧ c < N 797 20 ∧ fm_P M M1 md W1 W2 ∧ cnt = ((gx_m (wr_f M1 md c) (k + 1).toNat : Nat) : Int) ∧ wr_1 (wr_f M1 md c) (k + 1).toNat fst)))) ∧ (¬ r65 = 0 → (ab_ir cnt) ∧ ((¬ cnt = 0 → (∃ n', n' < n ∧ ((n' = (256 - (k + 1)).toNat ∧ 0 ≤ (k + 1) ∧ (k + 1) ≤ 256 ∧ md = m1 ∧ c = c1 ∧ q = q1 ∧ (0 ≤ md ∧ md ≤ 1) ∧ (0 ≤ c ∧ c < 16) ∧ (0 ≤ q ∧ q ≤ 1) ∧ ∃ W1 W2 N, (∀ rx : Int, ∀ Mx : ab_M, wr_P M Mx md c q rx W1 W2 → K [Xi rx] Mx) ∧ pz_rdn M N ∧ c < N 797 20 ∧ fm_P M M1 md W1 W2 ∧ (cnt + 1) = ((gx_m (wr_f M1 md c) (k + 1).toNat : Nat) : Int) ∧ wr_1 (wr_f M1 md c) (k + 1).toNat fst)))) ∧ (cnt = 0 → (∃ n', n' < n ∧ ((n' = (256 - (k + 1)).toNat ∧ 0 ≤ (k + 1) ∧ (k + 1) ≤ 256 ∧ md = m1 ∧ c = c1 ∧ q = q1 ∧ (0 ≤ md ∧ md ≤ 1) ∧ (0 ≤ c ∧ c < 16) ∧ (0 ≤ q ∧ q ≤ 1) ∧ ∃ W1 W2 N, (∀ rx : Int, ∀ Mx : ab_M, wr_P M Mx md c q rx W1 W2 → K [Xi rx] Mx) ∧ pz_rdn M N ∧ c < N 797 20 ∧ fm_P M M1 md W1 W2 ∧ (cnt + 1) = ((gx_m (wr_f M1 md c) (k + 1).toNat : Nat) : Int) ∧ wr_1 (wr_f M1 md c) (k + 1).toNat k)))))))))) := by
  obtain ⟨hn, hk0, hk1, q1', q2', q3', hmd, hc, hq, W1, W2, N, gK, hr, hc20, hP, hcnt, hfst⟩ := hI
  clear hS
  subst q1'
  subst q2'
  subst q3'
  have hix : (256 * md + k).toNat = 256 * md.toNat + k.toNat := by omega
  have hbd := gx_m_bd (wr_f M1 md c) k.toNat
  refine And.intro (by
    first
      | omega
      | exact ⟨by omega, by omega⟩
      | exact ⟨gm, ⟨by decide, by decide⟩, by decide, by decide⟩
      | exact ⟨gq, ⟨by decide, by decide⟩, by decide, by decide⟩
      | exact ⟨(gA (by omega)).2.1, gc⟩
      | exact gq
      | (split <;> exact ⟨by decide, by decide⟩)
      | exact (gA (by omega)).rd hM11
      | exact ⟨⟨by omega, by omega⟩, by omega, by omega⟩
      | trivial) ?_
  refine And.intro (by
    first
      | omega
      | exact ⟨by omega, by omega⟩
      | exact ⟨gm, ⟨by decide, by decide⟩, by decide, by decide⟩
      | exact ⟨gq, ⟨by decide, by decide⟩, by decide, by decide⟩
      | exact ⟨(gA (by omega)).2.1, gc⟩
      | exact gq
      | (split <;> exact ⟨by decide, by decide⟩)
      | exact (gA (by omega)).rd hM11
      | exact ⟨⟨by omega, by omega⟩, by omega, by omega⟩
      | trivial) ?_
  refine ⟨?_, ?_⟩
  · intro c48
    refine And.intro (by
      first
        | omega
        | exact ⟨by omega, by omega⟩
        | exact ⟨gm, ⟨by decide, by decide⟩, by decide, by decide⟩
        | exact ⟨gq, ⟨by decide, by decide⟩, by decide, by decide⟩
        | exact ⟨(gA (by omega)).2.1, gc⟩
        | exact gq
        | (split <;> exact ⟨by decide, by decide⟩)
        | exact (gA (by omega)).rd hM11
        | exact ⟨⟨by omega, by omega⟩, by omega, by omega⟩
        | trivial) ?_
    refine ⟨?_, ?_⟩
    · intro c95
      have h256 : k.toNat = 256 := by omega
      rw [h256] at hcnt hfst
      refine gK _ _ ⟨fun z => absurd hmd z, fun _ => ⟨N, hr, fun z => absurd ⟨⟨hc.1, hc20⟩, hq⟩ z, fun _ => ⟨hP, fun z => ?_, fun z => ?_⟩⟩⟩
      · first
          | exact hcnt
          | (exfalso; omega)
      · first
          | exact hfst
          | (exfalso; omega)
    · intro c95
      have h256 : k.toNat = 256 := by omega
      rw [h256] at hcnt hfst
      refine gK _ _ ⟨fun z => absurd hmd z, fun _ => ⟨N, hr, fun z => absurd ⟨⟨hc.1, hc20⟩, hq⟩ z, fun _ => ⟨hP, fun z => ?_, fun z => ?_⟩⟩⟩
      · first
          | exact hcnt
          | (exfalso; omega)
      · first
          | exact hfst
          | (exfalso; omega)
  · intro c48
    refine And.intro (by
      first
        | omega
        | exact ⟨by omega, by omega⟩
        | exact ⟨gm, ⟨by decide, by decide⟩, by decide, by decide⟩
        | exact ⟨gq, ⟨by decide, by decide⟩, by decide, by decide⟩
        | exact ⟨(gA (by omega)).2.1, gc⟩
        | exact gq
        | (split <;> exact ⟨by decide, by decide⟩)
        | exact (gA (by omega)).rd hM11
        | exact ⟨⟨by omega, by omega⟩, by omega, by omega⟩
        | trivial) ?_
    refine And.intro (by
      first
        | omega
        | exact ⟨by omega, by omega⟩
        | exact ⟨gm, ⟨by decide, by decide⟩, by decide, by decide⟩
        | exact ⟨gq, ⟨by decide, by decide⟩, by decide, by decide⟩
        | exact ⟨(gA (by omega)).2.1, gc⟩
        | exact gq
        | (split <;> exact ⟨by decide, by decide⟩)
        | exact (gA (by omega)).rd hM11
        | exact ⟨⟨by omega, by omega⟩, by omega, by omega⟩
        | trivial) ?_
    refine And.intro trivial ?_
    intro r65 hr65
    refine And.intro (by
      first
        | omega
        | exact ⟨by omega, by omega⟩
        | exact ⟨gm, ⟨by decide, by decide⟩, by decide, by decide⟩
        | exact ⟨gq, ⟨by decide, by decide⟩, by decide, by decide⟩
        | exact ⟨(gA (by omega)).2.1, gc⟩
        | exact gq
        | (split <;> exact ⟨by decide, by decide⟩)
        | exact (gA (by omega)).rd hM11
        | exact ⟨⟨by omega, by omega⟩, by omega, by omega⟩
        | trivial) ?_
    refine ⟨?_, ?_⟩
    · intro c68
      rw [hr65] at c68
      rw [ab_bf] at c68
      clear hr65 r65
      have hf : ¬ wr_f M1 md c k.toNat = true := fun z => c68 (by rw [pz_b_has (by omega) (by omega), hix]; exact if_pos z)
      have hk1' : (k + 1).toNat = k.toNat + 1 := by omega
      have hnx := hfst.next
      have hcn : gx_m (wr_f M1 md c) (k.toNat + 1) = gx_m (wr_f M1 md c) k.toNat + (if wr_f M1 md c k.toNat = true then 1 else 0) := rfl
      rw [if_neg (fun z => hf z.1)] at hnx
      rw [if_neg hf] at hcn
      refine ⟨_, ?_, rfl, by omega, by omega, rfl, rfl, rfl, hmd, hc, hq, W1, W2, N, gK, hr, hc20, hP, ?_, ?_⟩
      · omega
      · rw [hk1', hcn]; exact hcnt
      · rw [hk1']; exact hnx
    · intro c68
      rw [hr65] at c68
      rw [ab_bt] at c68
      clear hr65 r65
      refine And.intro (by
        first
          | omega
          | exact ⟨by omega, by omega⟩
          | exact ⟨gm, ⟨by decide, by decide⟩, by decide, by decide⟩
          | exact ⟨gq, ⟨by decide, by decide⟩, by decide, by decide⟩
          | exact ⟨(gA (by omega)).2.1, gc⟩
          | exact gq
          | (split <;> exact ⟨by decide, by decide⟩)
          | exact (gA (by omega)).rd hM11
          | exact ⟨⟨by omega, by omega⟩, by omega, by omega⟩
          | trivial) ?_
      refine ⟨?_, ?_⟩
      · intro c73
        have hf :  wr_f M1 md c k.toNat = true := Classical.byContradiction fun z => by
          rw [pz_b_has (by omega) (by omega), hix, if_neg (show ¬ pz_b (M1 826 (256 * md.toNat + k.toNat)) c.toNat = true from z)] at c68
          omega
        have hk1' : (k + 1).toNat = k.toNat + 1 := by omega
        have hnx := hfst.next
        have hcn : gx_m (wr_f M1 md c) (k.toNat + 1) = gx_m (wr_f M1 md c) k.toNat + (if wr_f M1 md c k.toNat = true then 1 else 0) := rfl
        rw [if_pos hf] at hcn
        have hz : gx_m (wr_f M1 md c) k.toNat = 0 ↔ cnt = 0 := by omega
        refine ⟨_, ?_, rfl, by omega, by omega, rfl, rfl, rfl, hmd, hc, hq, W1, W2, N, gK, hr, hc20, hP, ?_, ?_⟩
        · omega
        · rw [hk1', hcn]; omega
        · rw [hk1']
          first
            | (rw [if_pos ⟨hf, by omega⟩, show ((k.toNat : Nat) : Int) = k by omega] at hnx; exact hnx)
            | (rw [if_neg (fun z => by have := z.2; omega)] at hnx; exact hnx)
      · intro c73
        have hf :  wr_f M1 md c k.toNat = true := Classical.byContradiction fun z => by
          rw [pz_b_has (by omega) (by omega), hix, if_neg (show ¬ pz_b (M1 826 (256 * md.toNat + k.toNat)) c.toNat = true from z)] at c68
          omega
        have hk1' : (k + 1).toNat = k.toNat + 1 := by omega
        have hnx := hfst.next
        have hcn : gx_m (wr_f M1 md c) (k.toNat + 1) = gx_m (wr_f M1 md c) k.toNat + (if wr_f M1 md c k.toNat = true then 1 else 0) := rfl
        rw [if_pos hf] at hcn
        have hz : gx_m (wr_f M1 md c) k.toNat = 0 ↔ cnt = 0 := by omega
        refine ⟨_, ?_, rfl, by omega, by omega, rfl, rfl, rfl, hmd, hc, hq, W1, W2, N, gK, hr, hc20, hP, ?_, ?_⟩
        · omega
        · rw [hk1', hcn]; omega
        · rw [hk1']
          first
            | (rw [if_pos ⟨hf, by omega⟩, show ((k.toNat : Nat) : Int) = k by omega] at hnx; exact hnx)
            | (rw [if_neg (fun z => by have := z.2; omega)] at hnx; exact hnx)

set_option maxRecDepth 20000 in
set_option maxHeartbeats 1000000 in
theorem ok_X9_wrong (E : ab_E) : ab_Ok E 10 192 S_X9_wrong := by
  refine ab_mk rq_X9_wrong tk_X9_wrong (rt := 1) (rfl) (cuts := [43]) (G := [(137, S_X9_findMasks), (143, S_X9_has), (145, S_X9_in), (147, S_X9_isCheck)]) (List.forall_mem_cons.mpr ⟨⟨9, by decide, ok_X9_findMasks E⟩, List.forall_mem_cons.mpr ⟨⟨1, by decide, ok_X9_has E⟩, List.forall_mem_cons.mpr ⟨⟨1, by decide, ok_X9_in E⟩, List.forall_mem_cons.mpr ⟨⟨8, by decide, ok_X9_isCheck E⟩, fun _ h => absurd h List.not_mem_nil⟩⟩⟩⟩) (by decide) 104 rfl ?_
  intro a M K wd wa hS
  unfold S_X9_wrong at hS
  split at hS
  ·
    rename_i md c q
    refine ⟨Nat.le_of_ble_eq_true rfl, fun pc n L st M1 => match pc, L, st with
      | 43, [.inr (.inr (.inr (797, 9, 0))), .inr (.inl m1), .inr (.inl c1), .inr (.inl q1), .inr (.inl cnt), .inr (.inl fst), .inr (.inl k)], [] => (n = (256 - k).toNat ∧ 0 ≤ k ∧ k ≤ 256 ∧ md = m1 ∧ c = c1 ∧ q = q1 ∧ (0 ≤ md ∧ md ≤ 1) ∧ (0 ≤ c ∧ c < 16) ∧ (0 ≤ q ∧ q ≤ 1) ∧ ∃ W1 W2 N, (∀ rx : Int, ∀ Mx : ab_M, wr_P M Mx md c q rx W1 W2 → K [Xi rx] Mx) ∧ pz_rdn M N ∧ c < N 797 20 ∧ fm_P M M1 md W1 W2 ∧ cnt = ((gx_m (wr_f M1 md c) k.toNat : Nat) : Int) ∧ wr_1 (wr_f M1 md c) k.toNat fst)
      | _, _, _ => False, ?_, ?_⟩
    · exact vc_X9_wrong_0 md c q M K  hS
    · intro pc n L st M1 hI wd1 wL wst
      (try dsimp only at hI)
      split at hI
      ·
        rename_i m1 c1 q1 cnt fst k
        exact vc_X9_wrong_43 md c q M K  hS n m1 c1 q1 cnt fst k _ hI
      · exact hI.elim
  · exact hS.elim
