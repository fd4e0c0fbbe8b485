/-! what the class tells of runs -/
/-- what the caches of the class hold -/
def pp_A (M : ab_M) : Prop := cv_P M ∧ (M 768 7 = 0 ∨ M 768 7 = 1) ∧ (M 768 8 = 0 ∨ M 768 8 = 1)
def pp_P (M M' : ab_M) (cut : Int) : Prop := pr_N M M' cut
def wy_f (M : ab_M) (md c : Int) (x : Nat) : Bool := pz_b (M (785 + md.toNat) x) c.toNat
theorem can_b {M : ab_M} {md s c : Int} (_ : 0 ≤ md ∧ md ≤ 1) (_ : 0 ≤ s ∧ s ≤ 255) (h3 : 0 ≤ c ∧ c < 32) : (¬ ab_and (M (785 + md.toNat) s.toNat) (ab_shl 1 c) = 0) ↔ wy_f M md c s.toNat = true := pz_b_can h3.1 h3.2
theorem ite_iff {P Q : Prop} [Decidable P] [Decidable Q] (h : P ↔ Q) : (if P then (1 : Int) else 0) = if Q then 1 else 0 := by
  by_cases c : P
  · rw [if_pos c, if_pos (h.1 c)]
  · rw [if_neg c, if_neg (fun q => c (h.2 q))]
theorem gx_m_no {f : Nat → Bool} : ∀ k, (∀ x, x < k → ¬ f x = true) → gx_m f k = 0
  | 0, _ => rfl
  | k + 1, h => by
    show gx_m f k + (if f k = true then 1 else 0) = 0
    rw [gx_m_no k fun x hx => h x (by omega), if_neg (h k (Nat.lt_succ_self k))]
/-- the lowest one, from above -/
def wy_l (f : Nat → Bool) (s lo : Int) : Prop := (lo = -9 ∧ ∀ x : Nat, s < (x : Int) → x < 256 → ¬ f x = true) ∨ (∃ x : Nat, s < (x : Int) ∧ x < 256 ∧ f x = true ∧ (∀ y : Nat, s < (y : Int) → y < x → ¬ f y = true) ∧ lo = (x : Int))
theorem wy_l.next {f : Nat → Bool} {s lo : Int} (hs : 0 ≤ s ∧ s < 256) (h : wy_l f s lo) : wy_l f (s - 1) (if f s.toNat = true then s else lo) := by
  by_cases c : f s.toNat = true
  · rw [if_pos c]
    exact Or.inr ⟨s.toNat, by omega, by omega, c, fun y h1 h2 => by omega, by omega⟩
  · rw [if_neg c]
    rcases h with ⟨h1, h2⟩ | ⟨x, h1, h2, h3, h4, h5⟩
    · refine Or.inl ⟨h1, fun x a b => ?_⟩
      by_cases e : x = s.toNat
      · rw [e]; exact c
      · exact h2 x (by omega) b
    · refine Or.inr ⟨x, by omega, h2, h3, fun y a b => ?_, h5⟩
      by_cases e : y = s.toNat
      · rw [e]; exact c
      · exact h4 y (by omega) b
theorem wy_l.fin {f : Nat → Bool} {s lo : Int} (hs : s < 0) (h : wy_l f s lo) : wr_1 f 256 lo := by
  rcases h with ⟨h1, h2⟩ | ⟨x, h1, h2, h3, h4, h5⟩
  · exact Or.inl ⟨gx_m_no 256 fun x hx => h2 x (by omega) hx, h1⟩
  · exact Or.inr ⟨fun z => gx_m_0 256 z x h2 h3, x, h2, h3, fun y hy => h4 y (by omega) hy, h5⟩
def wy_P (M M' : ab_M) (md c q r : Int) : Prop := (¬ ((0 ≤ md ∧ md ≤ 1) ∧ (0 ≤ c ∧ c < M 26 6) ∧ 0 ≤ q ∧ q ≤ 1) → M' = M ∧ r = -1) ∧ ((0 ≤ md ∧ md ≤ 1) ∧ (0 ≤ c ∧ c < M 26 6) ∧ 0 ≤ q ∧ q ≤ 1 → pp_P M M' md ∧ (q = 0 → r = ((gx_m (wy_f M' md c) 256 : Nat) : Int)) ∧ (q = 1 → wr_1 (wy_f M' md c) 256 r))
def sy_f (M : ab_M) (c : Int) (x : Nat) : Bool := wy_f M 1 c x && !wy_f M 0 c x
def sy_P (M M' : ab_M) (c r : Int) : Prop := (¬ (0 ≤ c ∧ c < M 26 6) → M' = M ∧ r = -1) ∧ (0 ≤ c ∧ c < M 26 6 → ∃ M1, pp_P M M1 0 ∧ pp_P M1 M' 1 ∧ r = ((gx_m (sy_f M' c) 256 : Nat) : Int))
def fy_v (M : ab_M) (md s q r : Int) : Prop := (q = 1 → r = if wy_f M md 16 s.toNat = true then 1 else 0) ∧ (q = 2 → r = if wy_f M md 17 s.toNat = true then 1 else 0) ∧ (q = 0 → (∃ b : Nat, b < 16 ∧ wy_f M md (b : Int) s.toNat = true ∧ (∀ c : Nat, c < b → ¬ wy_f M md (c : Int) s.toNat = true) ∧ r = (b : Int)) ∨ ((∀ c : Nat, c < 16 → ¬ wy_f M md (c : Int) s.toNat = true) ∧ r = -9))
def fy_P (M M' : ab_M) (md s q r : Int) : Prop := (¬ ((0 ≤ md ∧ md ≤ 1) ∧ (0 ≤ s ∧ s ≤ 255) ∧ 0 ≤ q ∧ q ≤ 2) → M' = M ∧ r = -1) ∧ ((0 ≤ md ∧ md ≤ 1) ∧ (0 ≤ s ∧ s ≤ 255) ∧ 0 ≤ q ∧ q ≤ 2 → pp_P M M' md ∧ fy_v M' md s q r)
def ey_f (M : ab_M) (q : Int) (x : Nat) : Bool := decide (M 776 ((if q = 0 then 120 else 121) * 256 + x) ≠ 0)
def ey_P (M M' : ab_M) (md s q k r : Int) : Prop := (¬ ((0 ≤ md ∧ md ≤ 1) ∧ (0 ≤ s ∧ s ≤ 255) ∧ (0 ≤ q ∧ q ≤ 1) ∧ -1 ≤ k) → M' = M ∧ r = -1) ∧ ((0 ≤ md ∧ md ≤ 1) ∧ (0 ≤ s ∧ s ≤ 255) ∧ (0 ≤ q ∧ q ≤ 1) ∧ -1 ≤ k → se_P M M' md s ∧ en_v (ey_f M' q) k r)
def zy_P (M M' : ab_M) (l q r : Int) : Prop := (¬ ((0 ≤ l ∧ l < M 26 8) ∧ 0 ≤ q ∧ q ≤ 1) → M' = M ∧ r = -1) ∧ ((0 ≤ l ∧ l < M 26 8) ∧ 0 ≤ q ∧ q ≤ 1 → pl_P M M' l ∧ (q = 0 → r = M' 788 l.toNat) ∧ (q = 1 → r = M' 789 l.toNat))
def ly_P (M M' : ab_M) (l q r : Int) : Prop := (¬ ((0 ≤ l ∧ l < M 26 8) ∧ 0 ≤ q ∧ q ≤ 2) → M' = M ∧ r = -1) ∧ ((0 ≤ l ∧ l < M 26 8) ∧ 0 ≤ q ∧ q ≤ 2 → (q = 0 → M' = M ∧ r = M (lp_at M l) 4) ∧ (q = 1 → M' = M ∧ r = M (lp_at M l) 6) ∧ (q = 2 → (M' 769 3 = 1 ∧ vl_V M M' (M 26 11) ∧ tv_ok M' ∧ ∀ o k : Nat, ¬ (o = 770 ∨ o = 771 ∨ o = 769 ∧ k = 3) → M' o k = M o k) ∧ r = tv_n M' (M (lp_at M l) 3) 256))
theorem pp_of {M : ab_M} (h : pp_A M) {md : Int} (hm : 0 ≤ md ∧ md ≤ 1) : cv_P M ∧ (md = 0 ∨ md = 1) ∧ (M 768 7 = 0 ∨ M 768 7 = 1) ∧ (M 768 8 = 0 ∨ M 768 8 = 1) := ⟨h.1, by omega, h.2⟩

def S_X8_wrong : ab_PT := fun a M K => match a with
  | [.inr (.inr (.inr (0, 8, 0))), .inr (.inl md), .inr (.inl c), .inr (.inl q)] => ((ab_ir md ∧ ab_ir c ∧ ab_ir q) ∧ pp_A M ∧ (0 ≤ M 26 6 ∧ M 26 6 ≤ 16)) ∧ (∀ rx : Int, ∀ Mx : ab_M, (wy_P M Mx md c q rx) → K [Xi rx] Mx)
  | _ => False
set_option maxRecDepth 20000 in
theorem vc_X8_wrong_0 (md : Int) (c : Int) (q : Int) (M : ab_M) (K : List ab_V → ab_M → Prop) (hS : ((ab_ir md ∧ ab_ir c ∧ ab_ir q) ∧ pp_A M ∧ (0 ≤ M 26 6 ∧ M 26 6 ≤ 16)) ∧ (∀ rx : Int, ∀ Mx : ab_M, (wy_P M Mx md c q rx) → K [Xi rx] Mx)) : (ab_ir md) ∧ (∀ r1 : Int, (r1 = if md = 0 ∨ md = 1 then 1 else 0) → (ab_ir r1) ∧ ((r1 = 0 → K [Xi (-1 : Int)] M) ∧ (¬ r1 = 0 → (ab_ir c ∧ ab_ir (M 26 6)) ∧ (∀ r12 : Int, (r12 = if 0 ≤ c ∧ c < M 26 6 then 1 else 0) → (ab_ir r12) ∧ ((r12 = 0 → K [Xi (-1 : Int)] M) ∧ (¬ r12 = 0 → (ab_ir q) ∧ (∀ r19 : Int, (r19 = if q = 0 ∨ q = 1 then 1 else 0) → (ab_ir r19) ∧ ((¬ r19 = 0 → (cv_P M ∧ (md = 0 ∨ md = 1) ∧ (M 768 7 = 0 ∨ M 768 7 = 1) ∧ (M 768 8 = 0 ∨ M 768 8 = 1)) ∧ (∀ M32 : ab_M, (pr_N M M32 md) → (-128 ≤ (-9 : Int) ∧ (-9 : Int) < 128) ∧ (-32768 ≤ (255 : Int) ∧ (255 : Int) < 32768) ∧ (∃ n', ((n' = ((255 : Int) + 1).toNat ∧ (-1 ≤ (255 : Int) ∧ (255 : Int) ≤ 255) ∧ md = md ∧ c = c ∧ q = q ∧ ((0 ≤ md ∧ md ≤ 1) ∧ (0 ≤ c ∧ c < M 26 6) ∧ 0 ≤ q ∧ q ≤ 1) ∧ pp_P M M32 md ∧ (0 ≤ (0 : Int) ∧ (0 : Int) + ((gx_m (wy_f M32 md c) ((255 : Int) + 1).toNat : Nat) : Int) = ((gx_m (wy_f M32 md c) 256 : Nat) : Int)) ∧ wy_l (wy_f M32 md c) (255 : Int) (-9 : Int)))))) ∧ (r19 = 0 → K [Xi (-1 : Int)] M))))))))) := by
  obtain ⟨⟨⟨gm, gc, gq⟩, gA, g6⟩, gK⟩ := hS
  refine And.intro (by
    first
      | omega
      | exact ⟨by omega, by omega⟩
      | exact ⟨⟨by omega, by omega⟩, by omega, by omega⟩
      | (split <;> exact ⟨by decide, by decide⟩)
      | trivial
      | exact ⟨gc, by omega, by omega⟩
      | exact gm
      | exact gq
      | exact pp_of gA (by omega)) ?_
  intro r1 hr1
  refine And.intro (by
    first
      | omega
      | exact ⟨by omega, by omega⟩
      | exact ⟨⟨by omega, by omega⟩, by omega, by omega⟩
      | (split <;> exact ⟨by decide, by decide⟩)
      | trivial
      | exact ⟨gc, by omega, by omega⟩
      | exact gm
      | exact gq
      | exact pp_of gA (by omega)) ?_
  refine ⟨?_, ?_⟩
  · intro c4
    rw [hr1] at c4
    rw [ab_bf] at c4
    clear hr1 r1
    exact gK _ _ ⟨fun _ => ⟨rfl, rfl⟩, fun z => by omega⟩
  · intro c4
    rw [hr1] at c4
    rw [ab_bt] at c4
    clear hr1 r1
    refine And.intro (by
      first
        | omega
        | exact ⟨by omega, by omega⟩
        | exact ⟨⟨by omega, by omega⟩, by omega, by omega⟩
        | (split <;> exact ⟨by decide, by decide⟩)
        | trivial
        | exact ⟨gc, by omega, by omega⟩
        | exact gm
        | exact gq
        | exact pp_of gA (by omega)) ?_
    intro r12 hr12
    refine And.intro (by
      first
        | omega
        | exact ⟨by omega, by omega⟩
        | exact ⟨⟨by omega, by omega⟩, by omega, by omega⟩
        | (split <;> exact ⟨by decide, by decide⟩)
        | trivial
        | exact ⟨gc, by omega, by omega⟩
        | exact gm
        | exact gq
        | exact pp_of gA (by omega)) ?_
    refine ⟨?_, ?_⟩
    · intro c15
      rw [hr12] at c15
      rw [ab_bf] at c15
      clear hr12 r12
      exact gK _ _ ⟨fun _ => ⟨rfl, rfl⟩, fun z => by omega⟩
    · intro c15
      rw [hr12] at c15
      rw [ab_bt] at c15
      clear hr12 r12
      refine And.intro (by
        first
          | omega
          | exact ⟨by omega, by omega⟩
          | exact ⟨⟨by omega, by omega⟩, by omega, by omega⟩
          | (split <;> exact ⟨by decide, by decide⟩)
          | trivial
          | exact ⟨gc, by omega, by omega⟩
          | exact gm
          | exact gq
          | exact pp_of gA (by omega)) ?_
      intro r19 hr19
      refine And.intro (by
        first
          | omega
          | exact ⟨by omega, by omega⟩
          | exact ⟨⟨by omega, by omega⟩, by omega, by omega⟩
          | (split <;> exact ⟨by decide, by decide⟩)
          | trivial
          | exact ⟨gc, by omega, by omega⟩
          | exact gm
          | exact gq
          | exact pp_of gA (by omega)) ?_
      refine ⟨?_, ?_⟩
      · intro c22
        rw [hr19] at c22
        rw [ab_bt] at c22
        clear hr19 r19
        refine And.intro (by
          first
            | omega
            | exact ⟨by omega, by omega⟩
            | exact ⟨⟨by omega, by omega⟩, by omega, by omega⟩
            | (split <;> exact ⟨by decide, by decide⟩)
            | trivial
            | exact ⟨gc, by omega, by omega⟩
            | exact gm
            | exact gq
            | exact pp_of gA (by omega)) ?_
        intro M32 hM32
        refine And.intro (by
          first
            | omega
            | exact ⟨by omega, by omega⟩
            | exact ⟨⟨by omega, by omega⟩, by omega, by omega⟩
            | (split <;> exact ⟨by decide, by decide⟩)
            | trivial
            | exact ⟨gc, by omega, by omega⟩
            | exact gm
            | exact gq
            | exact pp_of gA (by omega)) ?_
        refine And.intro (by
          first
            | omega
            | exact ⟨by omega, by omega⟩
            | exact ⟨⟨by omega, by omega⟩, by omega, by omega⟩
            | (split <;> exact ⟨by decide, by decide⟩)
            | trivial
            | exact ⟨gc, by omega, by omega⟩
            | exact gm
            | exact gq
            | exact pp_of gA (by omega)) ?_
        refine ⟨_, rfl, ⟨by decide, by decide⟩, rfl, rfl, rfl, ⟨by omega, by omega, by omega⟩, hM32, ⟨by decide, ?_⟩, Or.inl ⟨rfl, fun x a b => by omega⟩⟩
        rw [show ((255 : Int) + 1).toNat = 256 from rfl]
        omega
      · intro c22
        rw [hr19] at c22
        rw [ab_bf] at c22
        clear hr19 r19
        exact gK _ _ ⟨fun _ => ⟨rfl, rfl⟩, fun z => by omega⟩

set_option maxRecDepth 20000 in
theorem vc_X8_wrong_47 (md : Int) (c : Int) (q : Int) (M : ab_M) (K : List ab_V → ab_M → Prop) (hS : ((ab_ir md ∧ ab_ir c ∧ ab_ir q) ∧ pp_A M ∧ (0 ≤ M 26 6 ∧ M 26 6 ≤ 16)) ∧ (∀ rx : Int, ∀ Mx : ab_M, (wy_P M Mx md c q rx) → K [Xi rx] Mx)) (n : Nat) (m1 : Int) (c1 : Int) (q1 : Int) (many : Int) (lo : Int) (s : Int) (M1 : ab_M) (hI : n = (s + 1).toNat ∧ (-1 ≤ s ∧ s ≤ 255) ∧ md = m1 ∧ c = c1 ∧ q = q1 ∧ ((0 ≤ md ∧ md ≤ 1) ∧ (0 ≤ c ∧ c < M 26 6) ∧ 0 ≤ q ∧ q ≤ 1) ∧ pp_P M M1 md ∧ (0 ≤ many ∧ many + ((gx_m (wy_f M1 md c) (s + 1).toNat : Nat) : Int) = ((gx_m (wy_f M1 md c) 256 : Nat) : Int)) ∧ wy_l (wy_f M1 md c) s lo) : (ab_ir s) ∧ ((s < 0 → (ab_ir q1) ∧ ((¬ q1 = 0 → K [Xi lo] M1) ∧ (q1 = 0 → K [Xi many] M1))) ∧ (0 ≤ s → ((m1 = 0 ∨ m1 = 1) ∧ 0 ≤ s ∧ s ≤ 255) ∧ (∀ r60 : Int, (r60 = if ¬ ab_and (M1 (785 + m1.toNat) s.toNat) (ab_shl 1 c1) = 0 then 1 else 0) → (ab_ir r60) ∧ ((r60 = 0 → (∃ n', n' < n ∧ ((n' = ((s + (-1)) + 1).toNat ∧ (-1 ≤ (s + (-1)) ∧ (s + (-1)) ≤ 255) ∧ md = m1 ∧ c = c1 ∧ q = q1 ∧ ((0 ≤ md ∧ md ≤ 1) ∧ (0 ≤ c ∧ c < M 26 6) ∧ 0 ≤ q ∧ q ≤ 1) ∧ pp_P M M1 md ∧ (0 ≤ many ∧ many + ((gx_m (wy_f M1 md c) ((s + (-1)) + 1).toNat : Nat) : Int) = ((gx_m (wy_f M1 md c) 256 : Nat) : Int)) ∧ wy_l (wy_f M1 md c) (s + (-1)) lo)))) ∧ (¬ r60 = 0 → (∃ n', n' < n ∧ ((n' = ((s + (-1)) + 1).toNat ∧ (-1 ≤ (s + (-1)) ∧ (s + (-1)) ≤ 255) ∧ md = m1 ∧ c = c1 ∧ q = q1 ∧ ((0 ≤ md ∧ md ≤ 1) ∧ (0 ≤ c ∧ c < M 26 6) ∧ 0 ≤ q ∧ q ≤ 1) ∧ pp_P M M1 md ∧ (0 ≤ (many + 1) ∧ (many + 1) + ((gx_m (wy_f M1 md c) ((s + (-1)) + 1).toNat : Nat) : Int) = ((gx_m (wy_f M1 md c) 256 : Nat) : Int)) ∧ wy_l (wy_f M1 md c) (s + (-1)) s)))))))) := by
  obtain ⟨⟨⟨gm, gc, gq⟩, gA, g6⟩, gK⟩ := hS
  obtain ⟨hn, hs, e1, e2, e3, hin, hP, ⟨hm0, hmany⟩, hlo⟩ := hI
  subst e1
  subst e2
  subst e3
  refine And.intro (by
    first
      | omega
      | exact ⟨by omega, by omega⟩
      | exact ⟨⟨by omega, by omega⟩, by omega, by omega⟩
      | (split <;> exact ⟨by decide, by decide⟩)
      | trivial
      | exact ⟨gc, by omega, by omega⟩
      | exact gm
      | exact gq
      | exact pp_of gA (by omega)) ?_
  refine ⟨?_, ?_⟩
  · intro c49
    refine And.intro (by
      first
        | omega
        | exact ⟨by omega, by omega⟩
        | exact ⟨⟨by omega, by omega⟩, by omega, by omega⟩
        | (split <;> exact ⟨by decide, by decide⟩)
        | trivial
        | exact ⟨gc, by omega, by omega⟩
        | exact gm
        | exact gq
        | exact pp_of gA (by omega)) ?_
    refine ⟨?_, ?_⟩
    · intro c80
      have h0 : (s + 1).toNat = 0 := by omega
      rw [h0] at hmany
      have hmany : many + ((0 : Nat) : Int) = ((gx_m (wy_f M1 md c) 256 : Nat) : Int) := hmany
      refine gK _ _ ⟨fun z => absurd hin z, fun _ => ⟨hP, fun z => ?_, fun z => ?_⟩⟩
      · first
          | omega
          | (exfalso; omega)
      · first
          | exact hlo.fin (by omega)
          | (exfalso; omega)
    · intro c80
      have h0 : (s + 1).toNat = 0 := by omega
      rw [h0] at hmany
      have hmany : many + ((0 : Nat) : Int) = ((gx_m (wy_f M1 md c) 256 : Nat) : Int) := hmany
      refine gK _ _ ⟨fun z => absurd hin z, fun _ => ⟨hP, fun z => ?_, fun z => ?_⟩⟩
      · first
          | omega
          | (exfalso; omega)
      · first
          | exact hlo.fin (by omega)
          | (exfalso; omega)
  · intro c49
    refine And.intro (by
      first
        | omega
        | exact ⟨by omega, by omega⟩
        | exact ⟨⟨by omega, by omega⟩, by omega, by omega⟩
        | (split <;> exact ⟨by decide, by decide⟩)
        | trivial
        | exact ⟨gc, by omega, by omega⟩
        | exact gm
        | exact gq
        | exact pp_of gA (by omega)) ?_
    intro r60 hr60
    rw [ite_iff (can_b (M := M1) (md := md) (s := s) (c := c) (by omega) ⟨by omega, by omega⟩ (by omega))] at hr60
    refine And.intro (by
      first
        | omega
        | exact ⟨by omega, by omega⟩
        | exact ⟨⟨by omega, by omega⟩, by omega, by omega⟩
        | (split <;> exact ⟨by decide, by decide⟩)
        | trivial
        | exact ⟨gc, by omega, by omega⟩
        | exact gm
        | exact gq
        | exact pp_of gA (by omega)) ?_
    refine ⟨?_, ?_⟩
    · intro c63
      rw [hr60] at c63
      rw [ab_bf] at c63
      clear hr60 r60
      have hk : (s + 1).toNat = s.toNat + 1 := by omega
      have hcn : gx_m (wy_f M1 md c) (s.toNat + 1) = gx_m (wy_f M1 md c) s.toNat + (if wy_f M1 md c s.toNat = true then 1 else 0) := rfl
      have hnx := hlo.next ⟨by omega, by omega⟩
      rw [hk, hcn] at hmany
      rw [if_neg c63] at hnx hmany
      refine ⟨_, ?_, rfl, ⟨by omega, by omega⟩, rfl, rfl, rfl, hin, hP, ⟨by omega, ?_⟩, hnx⟩
      · omega
      rw [show (s + (-1) + 1).toNat = s.toNat by omega]
      omega
    · intro c63
      rw [hr60] at c63
      rw [ab_bt] at c63
      clear hr60 r60
      have hk : (s + 1).toNat = s.toNat + 1 := by omega
      have hcn : gx_m (wy_f M1 md c) (s.toNat + 1) = gx_m (wy_f M1 md c) s.toNat + (if wy_f M1 md c s.toNat = true then 1 else 0) := rfl
      have hnx := hlo.next ⟨by omega, by omega⟩
      rw [hk, hcn] at hmany
      rw [if_pos c63] at hnx hmany
      refine ⟨_, ?_, rfl, ⟨by omega, by omega⟩, rfl, rfl, rfl, hin, hP, ⟨by omega, ?_⟩, hnx⟩
      · omega
      rw [show (s + (-1) + 1).toNat = s.toNat by omega]
      omega

set_option maxRecDepth 20000 in
set_option maxHeartbeats 1000000 in
theorem ok_X8_wrong (E : ab_E) : ab_Ok E 8 116 S_X8_wrong := by
  refine ab_mk rq_X8_wrong tk_X8_wrong (rt := 1) (rfl) (cuts := [47]) (G := [(18, S_X1_hasCheck), (47, S_X3_can), (50, S_X3_prepare), (93, S_X8_isFlag)]) (List.forall_mem_cons.mpr ⟨⟨1, by decide, ok_X1_hasCheck E⟩, List.forall_mem_cons.mpr ⟨⟨1, by decide, ok_X3_can E⟩, List.forall_mem_cons.mpr ⟨⟨7, by decide, ok_X3_prepare E⟩, List.forall_mem_cons.mpr ⟨⟨1, by decide, ok_X8_isFlag E⟩, fun _ h => absurd h List.not_mem_nil⟩⟩⟩⟩) (by decide) 93 rfl ?_
  intro a M K wd wa hS
  unfold S_X8_wrong at hS
  split at hS
  ·
    rename_i md c q
    refine ⟨Nat.le_of_ble_eq_true rfl, fun pc n L st M1 => match pc, L, st with
      | 47, [.inr (.inr (.inr (0, 8, 0))), .inr (.inl m1), .inr (.inl c1), .inr (.inl q1), .inr (.inl many), .inr (.inl lo), .inr (.inl s)], [] => (n = (s + 1).toNat ∧ (-1 ≤ s ∧ s ≤ 255) ∧ md = m1 ∧ c = c1 ∧ q = q1 ∧ ((0 ≤ md ∧ md ≤ 1) ∧ (0 ≤ c ∧ c < M 26 6) ∧ 0 ≤ q ∧ q ≤ 1) ∧ pp_P M M1 md ∧ (0 ≤ many ∧ many + ((gx_m (wy_f M1 md c) (s + 1).toNat : Nat) : Int) = ((gx_m (wy_f M1 md c) 256 : Nat) : Int)) ∧ wy_l (wy_f M1 md c) s lo)
      | _, _, _ => False, ?_, ?_⟩
    · exact vc_X8_wrong_0 md c q M K  hS
    · intro pc n L st M1 hI wd1 wL wst
      (try dsimp only at hI)
      split at hI
      ·
        rename_i m1 c1 q1 many lo s
        exact vc_X8_wrong_47 md c q M K  hS n m1 c1 q1 many lo s _ hI
      · exact hI.elim
  · exact hS.elim
def S_X8_spurious : ab_PT := fun a M K => match a with
  | [.inr (.inr (.inr (0, 8, 0))), .inr (.inl c)] => (ab_ir c ∧ pp_A M ∧ (0 ≤ M 26 6 ∧ M 26 6 ≤ 16) ∧ ∀ M1, pp_P M M1 0 → pp_A M1) ∧ (∀ rx : Int, ∀ Mx : ab_M, (sy_P M Mx c rx) → K [Xi rx] Mx)
  | _ => False
set_option maxRecDepth 20000 in
theorem vc_X8_spurious_0 (c : Int) (M : ab_M) (K : List ab_V → ab_M → Prop) (hS : (ab_ir c ∧ pp_A M ∧ (0 ≤ M 26 6 ∧ M 26 6 ≤ 16) ∧ ∀ M1, pp_P M M1 0 → pp_A M1) ∧ (∀ rx : Int, ∀ Mx : ab_M, (sy_P M Mx c rx) → K [Xi rx] Mx)) : (ab_ir c ∧ ab_ir (M 26 6)) ∧ (∀ r5 : Int, (r5 = if 0 ≤ c ∧ c < M 26 6 then 1 else 0) → (ab_ir r5) ∧ ((¬ r5 = 0 → (cv_P M ∧ ((0 : Int) = 0 ∨ (0 : Int) = 1) ∧ (M 768 7 = 0 ∨ M 768 7 = 1) ∧ (M 768 8 = 0 ∨ M 768 8 = 1)) ∧ (∀ M18 : ab_M, (pr_N M M18 (0 : Int)) → (cv_P M18 ∧ ((1 : Int) = 0 ∨ (1 : Int) = 1) ∧ (M18 768 7 = 0 ∨ M18 768 7 = 1) ∧ (M18 768 8 = 0 ∨ M18 768 8 = 1)) ∧ (∀ M26 : ab_M, (pr_N M18 M26 (1 : Int)) → (∃ n', ((n' = (256 - (0 : Int)).toNat ∧ (0 ≤ (0 : Int) ∧ (0 : Int) ≤ 256) ∧ c = c ∧ (0 ≤ c ∧ c < M 26 6) ∧ (∃ M2, pp_P M M2 0 ∧ pp_P M2 M26 1) ∧ (0 : Int) = ((gx_m (sy_f M26 c) (0 : Int).toNat : Nat) : Int))))))) ∧ (r5 = 0 → K [Xi (-1 : Int)] M))) := by
  obtain ⟨⟨gc, gA, g6, gB⟩, gK⟩ := hS
  refine And.intro (by
    first
      | omega
      | exact ⟨by omega, by omega⟩
      | exact ⟨⟨by omega, by omega⟩, by omega, by omega⟩
      | (split <;> exact ⟨by decide, by decide⟩)
      | trivial
      | exact ⟨gc, by omega, by omega⟩
      | exact pp_of gA (by decide)
      | exact pp_of (gB _ hM18) (by decide)) ?_
  intro r5 hr5
  refine And.intro (by
    first
      | omega
      | exact ⟨by omega, by omega⟩
      | exact ⟨⟨by omega, by omega⟩, by omega, by omega⟩
      | (split <;> exact ⟨by decide, by decide⟩)
      | trivial
      | exact ⟨gc, by omega, by omega⟩
      | exact pp_of gA (by decide)
      | exact pp_of (gB _ hM18) (by decide)) ?_
  refine ⟨?_, ?_⟩
  · intro c8
    rw [hr5] at c8
    rw [ab_bt] at c8
    clear hr5 r5
    refine And.intro (by
      first
        | omega
        | exact ⟨by omega, by omega⟩
        | exact ⟨⟨by omega, by omega⟩, by omega, by omega⟩
        | (split <;> exact ⟨by decide, by decide⟩)
        | trivial
        | exact ⟨gc, by omega, by omega⟩
        | exact pp_of gA (by decide)
        | exact pp_of (gB _ hM18) (by decide)) ?_
    intro M18 hM18
    refine And.intro (by
      first
        | omega
        | exact ⟨by omega, by omega⟩
        | exact ⟨⟨by omega, by omega⟩, by omega, by omega⟩
        | (split <;> exact ⟨by decide, by decide⟩)
        | trivial
        | exact ⟨gc, by omega, by omega⟩
        | exact pp_of gA (by decide)
        | exact pp_of (gB _ hM18) (by decide)) ?_
    intro M26 hM26
    exact ⟨_, rfl, ⟨by decide, by decide⟩, rfl, ⟨by omega, by omega⟩, ⟨M18, hM18, hM26⟩, rfl⟩
  · intro c8
    rw [hr5] at c8
    rw [ab_bf] at c8
    clear hr5 r5
    exact gK _ _ ⟨fun _ => ⟨rfl, rfl⟩, fun z => by omega⟩

set_option maxRecDepth 20000 in
theorem vc_X8_spurious_33 (c : Int) (M : ab_M) (K : List ab_V → ab_M → Prop) (hS : (ab_ir c ∧ pp_A M ∧ (0 ≤ M 26 6 ∧ M 26 6 ≤ 16) ∧ ∀ M1, pp_P M M1 0 → pp_A M1) ∧ (∀ rx : Int, ∀ Mx : ab_M, (sy_P M Mx c rx) → K [Xi rx] Mx)) (n : Nat) (c1 : Int) (cnt : Int) (s : Int) (M1 : ab_M) (hI : n = (256 - s).toNat ∧ (0 ≤ s ∧ s ≤ 256) ∧ c = c1 ∧ (0 ≤ c ∧ c < M 26 6) ∧ (∃ M2, pp_P M M2 0 ∧ pp_P M2 M1 1) ∧ cnt = ((gx_m (sy_f M1 c) s.toNat : Nat) : Int)) : (-32768 ≤ (256 : Int) ∧ (256 : Int) < 32768) ∧ (ab_ir s ∧ ab_ir (256 : Int)) ∧ (((256 : Int) ≤ s → K [Xi cnt] M1) ∧ (s < (256 : Int) → (((1 : Int) = 0 ∨ (1 : Int) = 1) ∧ 0 ≤ s ∧ s ≤ 255) ∧ (∀ r47 : Int, (r47 = if ¬ ab_and (M1 (785 + (1 : Int).toNat) s.toNat) (ab_shl 1 c1) = 0 then 1 else 0) → (ab_ir r47) ∧ ((r47 = 0 → (∃ n', n' < n ∧ ((n' = (256 - (s + 1)).toNat ∧ (0 ≤ (s + 1) ∧ (s + 1) ≤ 256) ∧ c = c1 ∧ (0 ≤ c ∧ c < M 26 6) ∧ (∃ M2, pp_P M M2 0 ∧ pp_P M2 M1 1) ∧ cnt = ((gx_m (sy_f M1 c) (s + 1).toNat : Nat) : Int))))) ∧ (¬ r47 = 0 → (((0 : Int) = 0 ∨ (0 : Int) = 1) ∧ 0 ≤ s ∧ s ≤ 255) ∧ (∀ r60 : Int, (r60 = if ¬ ab_and (M1 (785 + (0 : Int).toNat) s.toNat) (ab_shl 1 c1) = 0 then 1 else 0) → (ab_ir r60) ∧ ((¬ r60 = 0 → (∃ n', n' < n ∧ ((n' = (256 - (s + 1)).toNat ∧ (0 ≤ (s + 1) ∧ (s + 1) ≤ 256) ∧ c = c1 ∧ (0 ≤ c ∧ c < M 26 6) ∧ (∃ M2, pp_P M M2 0 ∧ pp_P M2 M1 1) ∧ cnt = ((gx_m (sy_f M1 c) (s + 1).toNat : Nat) : Int))))) ∧ (r60 = 0 → (∃ n', n' < n ∧ ((n' = (256 - (s + 1)).toNat ∧ (0 ≤ (s + 1) ∧ (s + 1) ≤ 256) ∧ c = c1 ∧ (0 ≤ c ∧ c < M 26 6) ∧ (∃ M2, pp_P M M2 0 ∧ pp_P M2 M1 1) ∧ (cnt + 1) = ((gx_m (sy_f M1 c) (s + 1).toNat : Nat) : Int)))))))))))) := by
  obtain ⟨⟨gc, gA, g6, gB⟩, gK⟩ := hS
  obtain ⟨hn, hs, e1, hin, hP, hcnt⟩ := hI
  subst e1
  refine And.intro (by
    first
      | omega
      | exact ⟨by omega, by omega⟩
      | exact ⟨⟨by omega, by omega⟩, by omega, by omega⟩
      | (split <;> exact ⟨by decide, by decide⟩)
      | trivial
      | exact ⟨gc, by omega, by omega⟩
      | exact pp_of gA (by decide)
      | exact pp_of (gB _ hM18) (by decide)) ?_
  refine And.intro (by
    first
      | omega
      | exact ⟨by omega, by omega⟩
      | exact ⟨⟨by omega, by omega⟩, by omega, by omega⟩
      | (split <;> exact ⟨by decide, by decide⟩)
      | trivial
      | exact ⟨gc, by omega, by omega⟩
      | exact pp_of gA (by decide)
      | exact pp_of (gB _ hM18) (by decide)) ?_
  refine ⟨?_, ?_⟩
  · intro c37
    rw [show s.toNat = 256 by omega] at hcnt
    obtain ⟨M2, h1, h2⟩ := hP
    exact gK _ _ ⟨fun z => absurd hin z, fun _ => ⟨M2, h1, h2, hcnt⟩⟩
  · intro c37
    refine And.intro (by
      first
        | omega
        | exact ⟨by omega, by omega⟩
        | exact ⟨⟨by omega, by omega⟩, by omega, by omega⟩
        | (split <;> exact ⟨by decide, by decide⟩)
        | trivial
        | exact ⟨gc, by omega, by omega⟩
        | exact pp_of gA (by decide)
        | exact pp_of (gB _ hM18) (by decide)) ?_
    intro r47 hr47
    rw [ite_iff (can_b (M := M1) (md := 1) (s := s) (c := c) (by decide) ⟨by omega, by omega⟩ (by omega))] at hr47
    refine And.intro (by
      first
        | omega
        | exact ⟨by omega, by omega⟩
        | exact ⟨⟨by omega, by omega⟩, by omega, by omega⟩
        | (split <;> exact ⟨by decide, by decide⟩)
        | trivial
        | exact ⟨gc, by omega, by omega⟩
        | exact pp_of gA (by decide)
        | exact pp_of (gB _ hM18) (by decide)) ?_
    refine ⟨?_, ?_⟩
    · intro c50
      rw [hr47] at c50
      rw [ab_bf] at c50
      clear hr47 r47
      have hk : (s + 1).toNat = s.toNat + 1 := by omega
      have hcn : gx_m (sy_f M1 c) (s.toNat + 1) = gx_m (sy_f M1 c) s.toNat + (if sy_f M1 c s.toNat = true then 1 else 0) := rfl
      rw [if_neg (show ¬ sy_f M1 c s.toNat = true from fun z => c50 (Bool.and_eq_true_iff.1 z).1)] at hcn
      refine ⟨_, ?_, rfl, ⟨by omega, by omega⟩, rfl, hin, hP, by rw [hk, hcn]; omega⟩
      omega
    · intro c50
      rw [hr47] at c50
      rw [ab_bt] at c50
      clear hr47 r47
      refine And.intro (by
        first
          | omega
          | exact ⟨by omega, by omega⟩
          | exact ⟨⟨by omega, by omega⟩, by omega, by omega⟩
          | (split <;> exact ⟨by decide, by decide⟩)
          | trivial
          | exact ⟨gc, by omega, by omega⟩
          | exact pp_of gA (by decide)
          | exact pp_of (gB _ hM18) (by decide)) ?_
      intro r60 hr60
      rw [ite_iff (can_b (M := M1) (md := 0) (s := s) (c := c) (by decide) ⟨by omega, by omega⟩ (by omega))] at hr60
      refine And.intro (by
        first
          | omega
          | exact ⟨by omega, by omega⟩
          | exact ⟨⟨by omega, by omega⟩, by omega, by omega⟩
          | (split <;> exact ⟨by decide, by decide⟩)
          | trivial
          | exact ⟨gc, by omega, by omega⟩
          | exact pp_of gA (by decide)
          | exact pp_of (gB _ hM18) (by decide)) ?_
      refine ⟨?_, ?_⟩
      · intro c63
        rw [hr60] at c63
        rw [ab_bt] at c63
        clear hr60 r60
        have hk : (s + 1).toNat = s.toNat + 1 := by omega
        have hcn : gx_m (sy_f M1 c) (s.toNat + 1) = gx_m (sy_f M1 c) s.toNat + (if sy_f M1 c s.toNat = true then 1 else 0) := rfl
        rw [if_neg (show ¬ sy_f M1 c s.toNat = true from fun z => by have z := (Bool.and_eq_true_iff.1 z).2; rw [c63] at z; cases z)] at hcn
        refine ⟨_, ?_, rfl, ⟨by omega, by omega⟩, rfl, hin, hP, by rw [hk, hcn]; omega⟩
        omega
      · intro c63
        rw [hr60] at c63
        rw [ab_bf] at c63
        clear hr60 r60
        have hk : (s + 1).toNat = s.toNat + 1 := by omega
        have hcn : gx_m (sy_f M1 c) (s.toNat + 1) = gx_m (sy_f M1 c) s.toNat + (if sy_f M1 c s.toNat = true then 1 else 0) := rfl
        rw [if_pos (show sy_f M1 c s.toNat = true from Bool.and_eq_true_iff.2 ⟨c50, by rw [Bool.not_eq_true']; exact Bool.eq_false_iff.2 c63⟩)] at hcn
        refine ⟨_, ?_, rfl, ⟨by omega, by omega⟩, rfl, hin, hP, by rw [hk, hcn]; omega⟩
        omega

set_option maxRecDepth 20000 in
set_option maxHeartbeats 1000000 in
theorem ok_X8_spurious (E : ab_E) : ab_Ok E 8 107 S_X8_spurious := by
  refine ab_mk rq_X8_spurious tk_X8_spurious (rt := 1) (rfl) (cuts := [33]) (G := [(18, S_X1_hasCheck), (47, S_X3_can), (50, S_X3_prepare)]) (List.forall_mem_cons.mpr ⟨⟨1, by decide, ok_X1_hasCheck E⟩, List.forall_mem_cons.mpr ⟨⟨1, by decide, ok_X3_can E⟩, List.forall_mem_cons.mpr ⟨⟨7, by decide, ok_X3_prepare E⟩, fun _ h => absurd h List.not_mem_nil⟩⟩⟩) (by decide) 91 rfl ?_
  intro a M K wd wa hS
  unfold S_X8_spurious at hS
  split at hS
  ·
    rename_i c
    refine ⟨Nat.le_of_ble_eq_true rfl, fun pc n L st M1 => match pc, L, st with
      | 33, [.inr (.inr (.inr (0, 8, 0))), .inr (.inl c1), .inr (.inl cnt), .inr (.inl s)], [] => (n = (256 - s).toNat ∧ (0 ≤ s ∧ s ≤ 256) ∧ c = c1 ∧ (0 ≤ c ∧ c < M 26 6) ∧ (∃ M2, pp_P M M2 0 ∧ pp_P M2 M1 1) ∧ cnt = ((gx_m (sy_f M1 c) s.toNat : Nat) : Int))
      | _, _, _ => False, ?_, ?_⟩
    · exact vc_X8_spurious_0 c M K  hS
    · intro pc n L st M1 hI wd1 wL wst
      (try dsimp only at hI)
      split at hI
      ·
        rename_i c1 cnt s
        exact vc_X8_spurious_33 c M K  hS n c1 cnt s _ hI
      · exact hI.elim
  · exact hS.elim
def S_X8_from : ab_PT := fun a M K => match a with
  | [.inr (.inr (.inr (0, 8, 0))), .inr (.inl md), .inr (.inl s), .inr (.inl q)] => ((ab_ir md ∧ ab_ir s ∧ ab_ir q) ∧ pp_A M) ∧ (∀ rx : Int, ∀ Mx : ab_M, (fy_P M Mx md s q rx) → K [Xi rx] Mx)
  | _ => False
set_option maxRecDepth 20000 in
theorem vc_X8_from_0 (md : Int) (s : Int) (q : Int) (M : ab_M) (K : List ab_V → ab_M → Prop) (hS : ((ab_ir md ∧ ab_ir s ∧ ab_ir q) ∧ pp_A M) ∧ (∀ rx : Int, ∀ Mx : ab_M, (fy_P M Mx md s q rx) → K [Xi rx] Mx)) : (ab_ir md) ∧ (∀ r1 : Int, (r1 = if md = 0 ∨ md = 1 then 1 else 0) → (ab_ir r1) ∧ ((r1 = 0 → K [Xi (-1 : Int)] M) ∧ (¬ r1 = 0 → (ab_ir s) ∧ (∀ r8 : Int, (r8 = if 0 ≤ s ∧ s < 256 then 1 else 0) → (ab_ir r8) ∧ ((r8 = 0 → K [Xi (-1 : Int)] M) ∧ (¬ r8 = 0 → (ab_ir q) ∧ ((q < 0 → K [Xi (-1 : Int)] M) ∧ (0 ≤ q → (ab_ir q ∧ ab_ir (2 : Int)) ∧ ((q ≤ (2 : Int) → (cv_P M ∧ (md = 0 ∨ md = 1) ∧ (M 768 7 = 0 ∨ M 768 7 = 1) ∧ (M 768 8 = 0 ∨ M 768 8 = 1)) ∧ (∀ M30 : ab_M, (pr_N M M30 md) → (ab_ir q) ∧ ((q ≤ 0 → (∃ n', ((n' = (16 - (0 : Int)).toNat ∧ (0 ≤ (0 : Int) ∧ (0 : Int) ≤ 16) ∧ md = md ∧ s = s ∧ q = q ∧ ((0 ≤ md ∧ md ≤ 1) ∧ (0 ≤ s ∧ s ≤ 255) ∧ q = 0) ∧ pp_P M M30 md ∧ ∀ x : Nat, (x : Int) < (0 : Int) → ¬ wy_f M30 md (x : Int) s.toNat = true)))) ∧ (0 < q → (ab_ir q ∧ ab_ir (1 : Int)) ∧ ((¬ q = (1 : Int) → (-128 ≤ (17 : Int) ∧ (17 : Int) < 128) ∧ ((md = 0 ∨ md = 1) ∧ 0 ≤ s ∧ s ≤ 255) ∧ (∀ r55 : Int, (r55 = if ¬ ab_and (M30 (785 + md.toNat) s.toNat) (ab_shl 1 (17 : Int)) = 0 then 1 else 0) → (ab_ir r55) ∧ ((r55 = 0 → K [Xi (0 : Int)] M30) ∧ (¬ r55 = 0 → K [Xi (1 : Int)] M30)))) ∧ (q = (1 : Int) → (-128 ≤ (16 : Int) ∧ (16 : Int) < 128) ∧ ((md = 0 ∨ md = 1) ∧ 0 ≤ s ∧ s ≤ 255) ∧ (∀ r55 : Int, (r55 = if ¬ ab_and (M30 (785 + md.toNat) s.toNat) (ab_shl 1 (16 : Int)) = 0 then 1 else 0) → (ab_ir r55) ∧ ((r55 = 0 → K [Xi (0 : Int)] M30) ∧ (¬ r55 = 0 → K [Xi (1 : Int)] M30))))))))) ∧ ((2 : Int) < q → K [Xi (-1 : Int)] M)))))))))) := by
  obtain ⟨⟨⟨gm, gs, gq⟩, gA⟩, gK⟩ := hS
  refine And.intro (by
    first
      | omega
      | exact ⟨by omega, by omega⟩
      | exact ⟨⟨by omega, by omega⟩, by omega, by omega⟩
      | (split <;> exact ⟨by decide, by decide⟩)
      | trivial
      | exact gm
      | exact gs
      | exact gq
      | exact ⟨gq, by decide, by decide⟩
      | exact pp_of gA (by omega)) ?_
  intro r1 hr1
  refine And.intro (by
    first
      | omega
      | exact ⟨by omega, by omega⟩
      | exact ⟨⟨by omega, by omega⟩, by omega, by omega⟩
      | (split <;> exact ⟨by decide, by decide⟩)
      | trivial
      | exact gm
      | exact gs
      | exact gq
      | exact ⟨gq, by decide, by decide⟩
      | exact pp_of gA (by omega)) ?_
  refine ⟨?_, ?_⟩
  · intro c4
    rw [hr1] at c4
    rw [ab_bf] at c4
    clear hr1 r1
    exact gK _ _ ⟨fun _ => ⟨rfl, rfl⟩, fun z => by omega⟩
  · intro c4
    rw [hr1] at c4
    rw [ab_bt] at c4
    clear hr1 r1
    refine And.intro (by
      first
        | omega
        | exact ⟨by omega, by omega⟩
        | exact ⟨⟨by omega, by omega⟩, by omega, by omega⟩
        | (split <;> exact ⟨by decide, by decide⟩)
        | trivial
        | exact gm
        | exact gs
        | exact gq
        | exact ⟨gq, by decide, by decide⟩
        | exact pp_of gA (by omega)) ?_
    intro r8 hr8
    refine And.intro (by
      first
        | omega
        | exact ⟨by omega, by omega⟩
        | exact ⟨⟨by omega, by omega⟩, by omega, by omega⟩
        | (split <;> exact ⟨by decide, by decide⟩)
        | trivial
        | exact gm
        | exact gs
        | exact gq
        | exact ⟨gq, by decide, by decide⟩
        | exact pp_of gA (by omega)) ?_
    refine ⟨?_, ?_⟩
    · intro c11
      rw [hr8] at c11
      rw [ab_bf] at c11
      clear hr8 r8
      exact gK _ _ ⟨fun _ => ⟨rfl, rfl⟩, fun z => by omega⟩
    · intro c11
      rw [hr8] at c11
      rw [ab_bt] at c11
      clear hr8 r8
      refine And.intro (by
        first
          | omega
          | exact ⟨by omega, by omega⟩
          | exact ⟨⟨by omega, by omega⟩, by omega, by omega⟩
          | (split <;> exact ⟨by decide, by decide⟩)
          | trivial
          | exact gm
          | exact gs
          | exact gq
          | exact ⟨gq, by decide, by decide⟩
          | exact pp_of gA (by omega)) ?_
      refine ⟨?_, ?_⟩
      · intro c15
        exact gK _ _ ⟨fun _ => ⟨rfl, rfl⟩, fun z => by omega⟩
      · intro c15
        refine And.intro (by
          first
            | omega
            | exact ⟨by omega, by omega⟩
            | exact ⟨⟨by omega, by omega⟩, by omega, by omega⟩
            | (split <;> exact ⟨by decide, by decide⟩)
            | trivial
            | exact gm
            | exact gs
            | exact gq
            | exact ⟨gq, by decide, by decide⟩
            | exact pp_of gA (by omega)) ?_
        refine ⟨?_, ?_⟩
        · intro c20
          refine And.intro (by
            first
              | omega
              | exact ⟨by omega, by omega⟩
              | exact ⟨⟨by omega, by omega⟩, by omega, by omega⟩
              | (split <;> exact ⟨by decide, by decide⟩)
              | trivial
              | exact gm
              | exact gs
              | exact gq
              | exact ⟨gq, by decide, by decide⟩
              | exact pp_of gA (by omega)) ?_
          intro M30 hM30
          refine And.intro (by
            first
              | omega
              | exact ⟨by omega, by omega⟩
              | exact ⟨⟨by omega, by omega⟩, by omega, by omega⟩
              | (split <;> exact ⟨by decide, by decide⟩)
              | trivial
              | exact gm
              | exact gs
              | exact gq
              | exact ⟨gq, by decide, by decide⟩
              | exact pp_of gA (by omega)) ?_
          refine ⟨?_, ?_⟩
          · intro c34
            exact ⟨_, rfl, ⟨by decide, by decide⟩, rfl, rfl, rfl, ⟨by omega, by omega, by omega⟩, hM30, fun x hx => by omega⟩
          · intro c34
            refine And.intro (by
              first
                | omega
                | exact ⟨by omega, by omega⟩
                | exact ⟨⟨by omega, by omega⟩, by omega, by omega⟩
                | (split <;> exact ⟨by decide, by decide⟩)
                | trivial
                | exact gm
                | exact gs
                | exact gq
                | exact ⟨gq, by decide, by decide⟩
                | exact pp_of gA (by omega)) ?_
            refine ⟨?_, ?_⟩
            · intro c45
              refine And.intro (by
                first
                  | omega
                  | exact ⟨by omega, by omega⟩
                  | exact ⟨⟨by omega, by omega⟩, by omega, by omega⟩
                  | (split <;> exact ⟨by decide, by decide⟩)
                  | trivial
                  | exact gm
                  | exact gs
                  | exact gq
                  | exact ⟨gq, by decide, by decide⟩
                  | exact pp_of gA (by omega)) ?_
              refine And.intro (by
                first
                  | omega
                  | exact ⟨by omega, by omega⟩
                  | exact ⟨⟨by omega, by omega⟩, by omega, by omega⟩
                  | (split <;> exact ⟨by decide, by decide⟩)
                  | trivial
                  | exact gm
                  | exact gs
                  | exact gq
                  | exact ⟨gq, by decide, by decide⟩
                  | exact pp_of gA (by omega)) ?_
              intro r55 hr55
              rw [ite_iff (can_b (M := M30) (md := md) (s := s) (c := 17) (by omega) (by omega) (by decide))] at hr55
              refine And.intro (by
                first
                  | omega
                  | exact ⟨by omega, by omega⟩
                  | exact ⟨⟨by omega, by omega⟩, by omega, by omega⟩
                  | (split <;> exact ⟨by decide, by decide⟩)
                  | trivial
                  | exact gm
                  | exact gs
                  | exact gq
                  | exact ⟨gq, by decide, by decide⟩
                  | exact pp_of gA (by omega)) ?_
              refine ⟨?_, ?_⟩
              · intro c58
                rw [hr55] at c58
                rw [ab_bf] at c58
                clear hr55 r55
                refine gK _ _ ⟨fun z => by omega, fun _ => ⟨hM30, fun z => ?_, fun z => ?_, fun z => by omega⟩⟩
                · first
                    | omega
                    | (rw [if_pos c58]; done)
                    | (rw [if_neg c58]; done)
                · first
                    | omega
                    | (rw [if_pos c58]; done)
                    | (rw [if_neg c58]; done)
              · intro c58
                rw [hr55] at c58
                rw [ab_bt] at c58
                clear hr55 r55
                refine gK _ _ ⟨fun z => by omega, fun _ => ⟨hM30, fun z => ?_, fun z => ?_, fun z => by omega⟩⟩
                · first
                    | omega
                    | (rw [if_pos c58]; done)
                    | (rw [if_neg c58]; done)
                · first
                    | omega
                    | (rw [if_pos c58]; done)
                    | (rw [if_neg c58]; done)
            · intro c45
              refine And.intro (by
                first
                  | omega
                  | exact ⟨by omega, by omega⟩
                  | exact ⟨⟨by omega, by omega⟩, by omega, by omega⟩
                  | (split <;> exact ⟨by decide, by decide⟩)
                  | trivial
                  | exact gm
                  | exact gs
                  | exact gq
                  | exact ⟨gq, by decide, by decide⟩
                  | exact pp_of gA (by omega)) ?_
              refine And.intro (by
                first
                  | omega
                  | exact ⟨by omega, by omega⟩
                  | exact ⟨⟨by omega, by omega⟩, by omega, by omega⟩
                  | (split <;> exact ⟨by decide, by decide⟩)
                  | trivial
                  | exact gm
                  | exact gs
                  | exact gq
                  | exact ⟨gq, by decide, by decide⟩
                  | exact pp_of gA (by omega)) ?_
              intro r55 hr55
              rw [ite_iff (can_b (M := M30) (md := md) (s := s) (c := 16) (by omega) (by omega) (by decide))] at hr55
              refine And.intro (by
                first
                  | omega
                  | exact ⟨by omega, by omega⟩
                  | exact ⟨⟨by omega, by omega⟩, by omega, by omega⟩
                  | (split <;> exact ⟨by decide, by decide⟩)
                  | trivial
                  | exact gm
                  | exact gs
                  | exact gq
                  | exact ⟨gq, by decide, by decide⟩
                  | exact pp_of gA (by omega)) ?_
              refine ⟨?_, ?_⟩
              · intro c58
                rw [hr55] at c58
                rw [ab_bf] at c58
                clear hr55 r55
                refine gK _ _ ⟨fun z => by omega, fun _ => ⟨hM30, fun z => ?_, fun z => ?_, fun z => by omega⟩⟩
                · first
                    | omega
                    | (rw [if_pos c58]; done)
                    | (rw [if_neg c58]; done)
                · first
                    | omega
                    | (rw [if_pos c58]; done)
                    | (rw [if_neg c58]; done)
              · intro c58
                rw [hr55] at c58
                rw [ab_bt] at c58
                clear hr55 r55
                refine gK _ _ ⟨fun z => by omega, fun _ => ⟨hM30, fun z => ?_, fun z => ?_, fun z => by omega⟩⟩
                · first
                    | omega
                    | (rw [if_pos c58]; done)
                    | (rw [if_neg c58]; done)
                · first
                    | omega
                    | (rw [if_pos c58]; done)
                    | (rw [if_neg c58]; done)
        · intro c20
          exact gK _ _ ⟨fun _ => ⟨rfl, rfl⟩, fun z => by omega⟩

set_option maxRecDepth 20000 in
theorem vc_X8_from_70 (md : Int) (s : Int) (q : Int) (M : ab_M) (K : List ab_V → ab_M → Prop) (hS : ((ab_ir md ∧ ab_ir s ∧ ab_ir q) ∧ pp_A M) ∧ (∀ rx : Int, ∀ Mx : ab_M, (fy_P M Mx md s q rx) → K [Xi rx] Mx)) (n : Nat) (m1 : Int) (s1 : Int) (q1 : Int) (k : Int) (M1 : ab_M) (hI : n = (16 - k).toNat ∧ (0 ≤ k ∧ k ≤ 16) ∧ md = m1 ∧ s = s1 ∧ q = q1 ∧ ((0 ≤ md ∧ md ≤ 1) ∧ (0 ≤ s ∧ s ≤ 255) ∧ q = 0) ∧ pp_P M M1 md ∧ ∀ x : Nat, (x : Int) < k → ¬ wy_f M1 md (x : Int) s.toNat = true) : (-128 ≤ (16 : Int) ∧ (16 : Int) < 128) ∧ (ab_ir k ∧ ab_ir (16 : Int)) ∧ (((16 : Int) ≤ k → (-128 ≤ (-9 : Int) ∧ (-9 : Int) < 128) ∧ K [Xi (-9 : Int)] M1) ∧ (k < (16 : Int) → ((m1 = 0 ∨ m1 = 1) ∧ 0 ≤ s1 ∧ s1 ≤ 255) ∧ (∀ r85 : Int, (r85 = if ¬ ab_and (M1 (785 + m1.toNat) s1.toNat) (ab_shl 1 k) = 0 then 1 else 0) → (ab_ir r85) ∧ ((r85 = 0 → (∃ n', n' < n ∧ ((n' = (16 - (k + 1)).toNat ∧ (0 ≤ (k + 1) ∧ (k + 1) ≤ 16) ∧ md = m1 ∧ s = s1 ∧ q = q1 ∧ ((0 ≤ md ∧ md ≤ 1) ∧ (0 ≤ s ∧ s ≤ 255) ∧ q = 0) ∧ pp_P M M1 md ∧ ∀ x : Nat, (x : Int) < (k + 1) → ¬ wy_f M1 md (x : Int) s.toNat = true)))) ∧ (¬ r85 = 0 → K [Xi k] M1))))) := by
  obtain ⟨⟨⟨gm, gs, gq⟩, gA⟩, gK⟩ := hS
  obtain ⟨hn, hk, e1, e2, e3, hin, hP, hno⟩ := hI
  subst e1
  subst e2
  subst e3
  refine And.intro (by
    first
      | omega
      | exact ⟨by omega, by omega⟩
      | exact ⟨⟨by omega, by omega⟩, by omega, by omega⟩
      | (split <;> exact ⟨by decide, by decide⟩)
      | trivial
      | exact gm
      | exact gs
      | exact gq
      | exact ⟨gq, by decide, by decide⟩
      | exact pp_of gA (by omega)) ?_
  refine And.intro (by
    first
      | omega
      | exact ⟨by omega, by omega⟩
      | exact ⟨⟨by omega, by omega⟩, by omega, by omega⟩
      | (split <;> exact ⟨by decide, by decide⟩)
      | trivial
      | exact gm
      | exact gs
      | exact gq
      | exact ⟨gq, by decide, by decide⟩
      | exact pp_of gA (by omega)) ?_
  refine ⟨?_, ?_⟩
  · intro c74
    refine And.intro (by
      first
        | omega
        | exact ⟨by omega, by omega⟩
        | exact ⟨⟨by omega, by omega⟩, by omega, by omega⟩
        | (split <;> exact ⟨by decide, by decide⟩)
        | trivial
        | exact gm
        | exact gs
        | exact gq
        | exact ⟨gq, by decide, by decide⟩
        | exact pp_of gA (by omega)) ?_
    refine gK _ _ ⟨fun z => absurd ⟨hin.1, hin.2.1, by omega, by omega⟩ z, fun _ => ⟨hP, fun z => by omega, fun z => by omega, fun _ => Or.inr ⟨fun x hx => hno x (by omega), rfl⟩⟩⟩
  · intro c74
    refine And.intro (by
      first
        | omega
        | exact ⟨by omega, by omega⟩
        | exact ⟨⟨by omega, by omega⟩, by omega, by omega⟩
        | (split <;> exact ⟨by decide, by decide⟩)
        | trivial
        | exact gm
        | exact gs
        | exact gq
        | exact ⟨gq, by decide, by decide⟩
        | exact pp_of gA (by omega)) ?_
    intro r85 hr85
    rw [ite_iff (can_b (M := M1) (md := md) (s := s) (c := k) (by omega) (by omega) (by omega))] at hr85
    refine And.intro (by
      first
        | omega
        | exact ⟨by omega, by omega⟩
        | exact ⟨⟨by omega, by omega⟩, by omega, by omega⟩
        | (split <;> exact ⟨by decide, by decide⟩)
        | trivial
        | exact gm
        | exact gs
        | exact gq
        | exact ⟨gq, by decide, by decide⟩
        | exact pp_of gA (by omega)) ?_
    refine ⟨?_, ?_⟩
    · intro c88
      rw [hr85] at c88
      rw [ab_bf] at c88
      clear hr85 r85
      refine ⟨_, ?_, rfl, ⟨by omega, by omega⟩, rfl, rfl, rfl, hin, hP, fun x hx => ?_⟩
      · omega
      by_cases e : x = k.toNat
      · rw [e, show ((k.toNat : Nat) : Int) = k by omega]; exact c88
      · exact hno x (by omega)
    · intro c88
      rw [hr85] at c88
      rw [ab_bt] at c88
      clear hr85 r85
      refine gK _ _ ⟨fun z => absurd ⟨hin.1, hin.2.1, by omega, by omega⟩ z, fun _ => ⟨hP, fun z => by omega, fun z => by omega, fun _ => Or.inl ⟨k.toNat, by omega, by rw [show ((k.toNat : Nat) : Int) = k by omega]; exact c88, fun x hx => hno x (by omega), by omega⟩⟩⟩

set_option maxRecDepth 20000 in
set_option maxHeartbeats 1000000 in
theorem ok_X8_from (E : ab_E) : ab_Ok E 8 90 S_X8_from := by
  refine ab_mk rq_X8_from tk_X8_from (rt := 1) (rfl) (cuts := [70]) (G := [(47, S_X3_can), (50, S_X3_prepare), (93, S_X8_isFlag), (95, S_X8_isState)]) (List.forall_mem_cons.mpr ⟨⟨1, by decide, ok_X3_can E⟩, List.forall_mem_cons.mpr ⟨⟨7, by decide, ok_X3_prepare E⟩, List.forall_mem_cons.mpr ⟨⟨1, by decide, ok_X8_isFlag E⟩, List.forall_mem_cons.mpr ⟨⟨1, by decide, ok_X8_isState E⟩, fun _ h => absurd h List.not_mem_nil⟩⟩⟩⟩) (by decide) 103 rfl ?_
  intro a M K wd wa hS
  unfold S_X8_from at hS
  split at hS
  ·
    rename_i md s q
    refine ⟨Nat.le_of_ble_eq_true rfl, fun pc n L st M1 => match pc, L, st with
      | 70, [.inr (.inr (.inr (0, 8, 0))), .inr (.inl m1), .inr (.inl s1), .inr (.inl q1), .inr (.inl k)], [] => (n = (16 - k).toNat ∧ (0 ≤ k ∧ k ≤ 16) ∧ md = m1 ∧ s = s1 ∧ q = q1 ∧ ((0 ≤ md ∧ md ≤ 1) ∧ (0 ≤ s ∧ s ≤ 255) ∧ q = 0) ∧ pp_P M M1 md ∧ ∀ x : Nat, (x : Int) < k → ¬ wy_f M1 md (x : Int) s.toNat = true)
      | _, _, _ => False, ?_, ?_⟩
    · exact vc_X8_from_0 md s q M K  hS
    · intro pc n L st M1 hI wd1 wL wst
      (try dsimp only at hI)
      split at hI
      ·
        rename_i m1 s1 q1 k
        exact vc_X8_from_70 md s q M K  hS n m1 s1 q1 k _ hI
      · exact hI.elim
  · exact hS.elim
def S_X8_ends : ab_PT := fun a M K => match a with
  | [.inr (.inr (.inr (0, 8, 0))), .inr (.inl md), .inr (.inl s), .inr (.inl q), .inr (.inl k)] => ((ab_ir md ∧ ab_ir s ∧ ab_ir q ∧ ab_ir k) ∧ cv_P M) ∧ (∀ rx : Int, ∀ Mx : ab_M, (ey_P M Mx md s q k rx) → K [Xi rx] Mx)
  | _ => False
set_option maxRecDepth 20000 in
theorem vc_X8_ends_0 (md : Int) (s : Int) (q : Int) (k : Int) (M : ab_M) (K : List ab_V → ab_M → Prop) (hS : ((ab_ir md ∧ ab_ir s ∧ ab_ir q ∧ ab_ir k) ∧ cv_P M) ∧ (∀ rx : Int, ∀ Mx : ab_M, (ey_P M Mx md s q k rx) → K [Xi rx] Mx)) : (ab_ir md) ∧ (∀ r1 : Int, (r1 = if md = 0 ∨ md = 1 then 1 else 0) → (ab_ir r1) ∧ ((r1 = 0 → K [Xi (-1 : Int)] M) ∧ (¬ r1 = 0 → (ab_ir s) ∧ (∀ r8 : Int, (r8 = if 0 ≤ s ∧ s < 256 then 1 else 0) → (ab_ir r8) ∧ ((r8 = 0 → K [Xi (-1 : Int)] M) ∧ (¬ r8 = 0 → (ab_ir q) ∧ (∀ r15 : Int, (r15 = if q = 0 ∨ q = 1 then 1 else 0) → (ab_ir r15) ∧ ((r15 = 0 → K [Xi (-1 : Int)] M) ∧ (¬ r15 = 0 → (ab_ir k ∧ ab_ir (-1 : Int)) ∧ (((-1 : Int) ≤ k → (cv_P M ∧ (md = 0 ∨ md = 1) ∧ 0 ≤ s ∧ s ≤ 255) ∧ (∀ M35 : ab_M, (se_P M M35 md s) → (ab_ir q) ∧ ((¬ q = 0 → (-128 ≤ (121 : Int) ∧ (121 : Int) < 128) ∧ (∃ n', ((n' = (256 - (0 : Int)).toNat ∧ (0 ≤ (0 : Int) ∧ (0 : Int) ≤ 256) ∧ md = md ∧ s = s ∧ q = q ∧ k = k ∧ ((0 ≤ md ∧ md ≤ 1) ∧ (0 ≤ s ∧ s ≤ 255) ∧ (0 ≤ q ∧ q ≤ 1) ∧ -1 ≤ k) ∧ ((121 : Int) = if q = 0 then 120 else 121) ∧ se_P M M35 md s ∧ (0 : Int) = ((gx_m (ey_f M35 q) (0 : Int).toNat : Nat) : Int) ∧ (k = -1 ∨ (0 : Int) ≤ k))))) ∧ (q = 0 → (-128 ≤ (120 : Int) ∧ (120 : Int) < 128) ∧ (∃ n', ((n' = (256 - (0 : Int)).toNat ∧ (0 ≤ (0 : Int) ∧ (0 : Int) ≤ 256) ∧ md = md ∧ s = s ∧ q = q ∧ k = k ∧ ((0 ≤ md ∧ md ≤ 1) ∧ (0 ≤ s ∧ s ≤ 255) ∧ (0 ≤ q ∧ q ≤ 1) ∧ -1 ≤ k) ∧ ((120 : Int) = if q = 0 then 120 else 121) ∧ se_P M M35 md s ∧ (0 : Int) = ((gx_m (ey_f M35 q) (0 : Int).toNat : Nat) : Int) ∧ (k = -1 ∨ (0 : Int) ≤ k)))))))) ∧ (k < (-1 : Int) → K [Xi (-1 : Int)] M))))))))))) := by
  obtain ⟨⟨⟨gm, gs, gq, gk⟩, gA⟩, gK⟩ := hS
  refine And.intro (by
    first
      | omega
      | exact ⟨by omega, by omega⟩
      | exact ⟨⟨by omega, by omega⟩, by omega, by omega⟩
      | (split <;> exact ⟨by decide, by decide⟩)
      | trivial
      | exact gm
      | exact gs
      | exact gq
      | exact ⟨gk, by decide, by decide⟩
      | exact ⟨gA, by omega, by omega, by omega⟩
      | (have := hj (rw * 256 + x).toNat (by omega); exact ⟨⟨by omega, by omega⟩, by omega, by omega⟩)) ?_
  intro r1 hr1
  refine And.intro (by
    first
      | omega
      | exact ⟨by omega, by omega⟩
      | exact ⟨⟨by omega, by omega⟩, by omega, by omega⟩
      | (split <;> exact ⟨by decide, by decide⟩)
      | trivial
      | exact gm
      | exact gs
      | exact gq
      | exact ⟨gk, by decide, by decide⟩
      | exact ⟨gA, by omega, by omega, by omega⟩
      | (have := hj (rw * 256 + x).toNat (by omega); exact ⟨⟨by omega, by omega⟩, by omega, by omega⟩)) ?_
  refine ⟨?_, ?_⟩
  · intro c4
    rw [hr1] at c4
    rw [ab_bf] at c4
    clear hr1 r1
    exact gK _ _ ⟨fun _ => ⟨rfl, rfl⟩, fun z => by omega⟩
  · intro c4
    rw [hr1] at c4
    rw [ab_bt] at c4
    clear hr1 r1
    refine And.intro (by
      first
        | omega
        | exact ⟨by omega, by omega⟩
        | exact ⟨⟨by omega, by omega⟩, by omega, by omega⟩
        | (split <;> exact ⟨by decide, by decide⟩)
        | trivial
        | exact gm
        | exact gs
        | exact gq
        | exact ⟨gk, by decide, by decide⟩
        | exact ⟨gA, by omega, by omega, by omega⟩
        | (have := hj (rw * 256 + x).toNat (by omega); exact ⟨⟨by omega, by omega⟩, by omega, by omega⟩)) ?_
    intro r8 hr8
    refine And.intro (by
      first
        | omega
        | exact ⟨by omega, by omega⟩
        | exact ⟨⟨by omega, by omega⟩, by omega, by omega⟩
        | (split <;> exact ⟨by decide, by decide⟩)
        | trivial
        | exact gm
        | exact gs
        | exact gq
        | exact ⟨gk, by decide, by decide⟩
        | exact ⟨gA, by omega, by omega, by omega⟩
        | (have := hj (rw * 256 + x).toNat (by omega); exact ⟨⟨by omega, by omega⟩, by omega, by omega⟩)) ?_
    refine ⟨?_, ?_⟩
    · intro c11
      rw [hr8] at c11
      rw [ab_bf] at c11
      clear hr8 r8
      exact gK _ _ ⟨fun _ => ⟨rfl, rfl⟩, fun z => by omega⟩
    · intro c11
      rw [hr8] at c11
      rw [ab_bt] at c11
      clear hr8 r8
      refine And.intro (by
        first
          | omega
          | exact ⟨by omega, by omega⟩
          | exact ⟨⟨by omega, by omega⟩, by omega, by omega⟩
          | (split <;> exact ⟨by decide, by decide⟩)
          | trivial
          | exact gm
          | exact gs
          | exact gq
          | exact ⟨gk, by decide, by decide⟩
          | exact ⟨gA, by omega, by omega, by omega⟩
          | (have := hj (rw * 256 + x).toNat (by omega); exact ⟨⟨by omega, by omega⟩, by omega, by omega⟩)) ?_
      intro r15 hr15
      refine And.intro (by
        first
          | omega
          | exact ⟨by omega, by omega⟩
          | exact ⟨⟨by omega, by omega⟩, by omega, by omega⟩
          | (split <;> exact ⟨by decide, by decide⟩)
          | trivial
          | exact gm
          | exact gs
          | exact gq
          | exact ⟨gk, by decide, by decide⟩
          | exact ⟨gA, by omega, by omega, by omega⟩
          | (have := hj (rw * 256 + x).toNat (by omega); exact ⟨⟨by omega, by omega⟩, by omega, by omega⟩)) ?_
      refine ⟨?_, ?_⟩
      · intro c18
        rw [hr15] at c18
        rw [ab_bf] at c18
        clear hr15 r15
        exact gK _ _ ⟨fun _ => ⟨rfl, rfl⟩, fun z => by omega⟩
      · intro c18
        rw [hr15] at c18
        rw [ab_bt] at c18
        clear hr15 r15
        refine And.intro (by
          first
            | omega
            | exact ⟨by omega, by omega⟩
            | exact ⟨⟨by omega, by omega⟩, by omega, by omega⟩
            | (split <;> exact ⟨by decide, by decide⟩)
            | trivial
            | exact gm
            | exact gs
            | exact gq
            | exact ⟨gk, by decide, by decide⟩
            | exact ⟨gA, by omega, by omega, by omega⟩
            | (have := hj (rw * 256 + x).toNat (by omega); exact ⟨⟨by omega, by omega⟩, by omega, by omega⟩)) ?_
        refine ⟨?_, ?_⟩
        · intro c24
          refine And.intro (by
            first
              | omega
              | exact ⟨by omega, by omega⟩
              | exact ⟨⟨by omega, by omega⟩, by omega, by omega⟩
              | (split <;> exact ⟨by decide, by decide⟩)
              | trivial
              | exact gm
              | exact gs
              | exact gq
              | exact ⟨gk, by decide, by decide⟩
              | exact ⟨gA, by omega, by omega, by omega⟩
              | (have := hj (rw * 256 + x).toNat (by omega); exact ⟨⟨by omega, by omega⟩, by omega, by omega⟩)) ?_
          intro M35 hM35
          refine And.intro (by
            first
              | omega
              | exact ⟨by omega, by omega⟩
              | exact ⟨⟨by omega, by omega⟩, by omega, by omega⟩
              | (split <;> exact ⟨by decide, by decide⟩)
              | trivial
              | exact gm
              | exact gs
              | exact gq
              | exact ⟨gk, by decide, by decide⟩
              | exact ⟨gA, by omega, by omega, by omega⟩
              | (have := hj (rw * 256 + x).toNat (by omega); exact ⟨⟨by omega, by omega⟩, by omega, by omega⟩)) ?_
          refine ⟨?_, ?_⟩
          · intro c39
            refine And.intro (by
              first
                | omega
                | exact ⟨by omega, by omega⟩
                | exact ⟨⟨by omega, by omega⟩, by omega, by omega⟩
                | (split <;> exact ⟨by decide, by decide⟩)
                | trivial
                | exact gm
                | exact gs
                | exact gq
                | exact ⟨gk, by decide, by decide⟩
                | exact ⟨gA, by omega, by omega, by omega⟩
                | (have := hj (rw * 256 + x).toNat (by omega); exact ⟨⟨by omega, by omega⟩, by omega, by omega⟩)) ?_
            refine ⟨_, rfl, ⟨by decide, by decide⟩, rfl, rfl, rfl, rfl, ⟨⟨by omega, by omega⟩, ⟨by omega, by omega⟩, ⟨by omega, by omega⟩, by omega⟩, ?_, hM35, rfl, by omega⟩
            first
              | (rw [if_pos (by assumption)]; done)
              | (rw [if_neg (by assumption)]; done)
          · intro c39
            refine And.intro (by
              first
                | omega
                | exact ⟨by omega, by omega⟩
                | exact ⟨⟨by omega, by omega⟩, by omega, by omega⟩
                | (split <;> exact ⟨by decide, by decide⟩)
                | trivial
                | exact gm
                | exact gs
                | exact gq
                | exact ⟨gk, by decide, by decide⟩
                | exact ⟨gA, by omega, by omega, by omega⟩
                | (have := hj (rw * 256 + x).toNat (by omega); exact ⟨⟨by omega, by omega⟩, by omega, by omega⟩)) ?_
            refine ⟨_, rfl, ⟨by decide, by decide⟩, rfl, rfl, rfl, rfl, ⟨⟨by omega, by omega⟩, ⟨by omega, by omega⟩, ⟨by omega, by omega⟩, by omega⟩, ?_, hM35, rfl, by omega⟩
            first
              | (rw [if_pos (by assumption)]; done)
              | (rw [if_neg (by assumption)]; done)
        · intro c24
          exact gK _ _ ⟨fun _ => ⟨rfl, rfl⟩, fun z => by omega⟩

set_option maxRecDepth 20000 in
theorem vc_X8_ends_57 (md : Int) (s : Int) (q : Int) (k : Int) (M : ab_M) (K : List ab_V → ab_M → Prop) (hS : ((ab_ir md ∧ ab_ir s ∧ ab_ir q ∧ ab_ir k) ∧ cv_P M) ∧ (∀ rx : Int, ∀ Mx : ab_M, (ey_P M Mx md s q k rx) → K [Xi rx] Mx)) (n : Nat) (m1 : Int) (s1 : Int) (q1 : Int) (k1 : Int) (rw : Int) (cnt : Int) (x : Int) (M1 : ab_M) (hI : n = (256 - x).toNat ∧ (0 ≤ x ∧ x ≤ 256) ∧ md = m1 ∧ s = s1 ∧ q = q1 ∧ k = k1 ∧ ((0 ≤ md ∧ md ≤ 1) ∧ (0 ≤ s ∧ s ≤ 255) ∧ (0 ≤ q ∧ q ≤ 1) ∧ -1 ≤ k) ∧ (rw = if q = 0 then 120 else 121) ∧ se_P M M1 md s ∧ cnt = ((gx_m (ey_f M1 q) x.toNat : Nat) : Int) ∧ (k = -1 ∨ cnt ≤ k)) : (-32768 ≤ (256 : Int) ∧ (256 : Int) < 32768) ∧ (ab_ir x ∧ ab_ir (256 : Int)) ∧ (((256 : Int) ≤ x → (ab_ir k1 ∧ ab_ir (-1 : Int)) ∧ ((¬ k1 = (-1 : Int) → (-128 ≤ (-9 : Int) ∧ (-9 : Int) < 128) ∧ K [Xi (-9 : Int)] M1) ∧ (k1 = (-1 : Int) → K [Xi cnt] M1))) ∧ (x < (256 : Int) → ((0 ≤ rw * 256 + x ∧ rw * 256 + x < 33280) ∧ ab_ir (M1 776 (rw * 256 + x).toNat)) ∧ (∀ r73 : Int, (r73 = if ¬ M1 776 (rw * 256 + x).toNat = 0 then 1 else 0) → (ab_ir r73) ∧ ((r73 = 0 → (∃ n', n' < n ∧ ((n' = (256 - (x + 1)).toNat ∧ (0 ≤ (x + 1) ∧ (x + 1) ≤ 256) ∧ md = m1 ∧ s = s1 ∧ q = q1 ∧ k = k1 ∧ ((0 ≤ md ∧ md ≤ 1) ∧ (0 ≤ s ∧ s ≤ 255) ∧ (0 ≤ q ∧ q ≤ 1) ∧ -1 ≤ k) ∧ (rw = if q = 0 then 120 else 121) ∧ se_P M M1 md s ∧ cnt = ((gx_m (ey_f M1 q) (x + 1).toNat : Nat) : Int) ∧ (k = -1 ∨ cnt ≤ k))))) ∧ (¬ r73 = 0 → (ab_ir cnt ∧ ab_ir k1) ∧ ((¬ cnt = k1 → (∃ n', n' < n ∧ ((n' = (256 - (x + 1)).toNat ∧ (0 ≤ (x + 1) ∧ (x + 1) ≤ 256) ∧ md = m1 ∧ s = s1 ∧ q = q1 ∧ k = k1 ∧ ((0 ≤ md ∧ md ≤ 1) ∧ (0 ≤ s ∧ s ≤ 255) ∧ (0 ≤ q ∧ q ≤ 1) ∧ -1 ≤ k) ∧ (rw = if q = 0 then 120 else 121) ∧ se_P M M1 md s ∧ (cnt + 1) = ((gx_m (ey_f M1 q) (x + 1).toNat : Nat) : Int) ∧ (k = -1 ∨ (cnt + 1) ≤ k))))) ∧ (cnt = k1 → K [Xi x] M1))))))) := by
  obtain ⟨⟨⟨gm, gs, gq, gk⟩, gA⟩, gK⟩ := hS
  obtain ⟨hn, hx, e1, e2, e3, e4, hin, hrw, hP, hcnt, hck⟩ := hI
  subst e1
  subst e2
  subst e3
  subst e4
  have hbd := gx_m_bd (ey_f M1 q) x.toNat
  have hrw2 : rw = 120 ∨ rw = 121 := by rw [hrw]; split <;> first | exact Or.inl rfl | exact Or.inr rfl
  have hj := hP.2.2.2.2.2
  have hix : (rw * 256 + x).toNat = (if q = 0 then 120 else 121) * 256 + x.toNat := by
    by_cases z : q = 0
    · rw [if_pos z] at hrw ⊢; omega
    · rw [if_neg z] at hrw ⊢; omega
  refine And.intro (by
    first
      | omega
      | exact ⟨by omega, by omega⟩
      | exact ⟨⟨by omega, by omega⟩, by omega, by omega⟩
      | (split <;> exact ⟨by decide, by decide⟩)
      | trivial
      | exact gm
      | exact gs
      | exact gq
      | exact ⟨gk, by decide, by decide⟩
      | exact ⟨gA, by omega, by omega, by omega⟩
      | (have := hj (rw * 256 + x).toNat (by omega); exact ⟨⟨by omega, by omega⟩, by omega, by omega⟩)) ?_
  refine And.intro (by
    first
      | omega
      | exact ⟨by omega, by omega⟩
      | exact ⟨⟨by omega, by omega⟩, by omega, by omega⟩
      | (split <;> exact ⟨by decide, by decide⟩)
      | trivial
      | exact gm
      | exact gs
      | exact gq
      | exact ⟨gk, by decide, by decide⟩
      | exact ⟨gA, by omega, by omega, by omega⟩
      | (have := hj (rw * 256 + x).toNat (by omega); exact ⟨⟨by omega, by omega⟩, by omega, by omega⟩)) ?_
  refine ⟨?_, ?_⟩
  · intro c62
    refine And.intro (by
      first
        | omega
        | exact ⟨by omega, by omega⟩
        | exact ⟨⟨by omega, by omega⟩, by omega, by omega⟩
        | (split <;> exact ⟨by decide, by decide⟩)
        | trivial
        | exact gm
        | exact gs
        | exact gq
        | exact ⟨gk, by decide, by decide⟩
        | exact ⟨gA, by omega, by omega, by omega⟩
        | (have := hj (rw * 256 + x).toNat (by omega); exact ⟨⟨by omega, by omega⟩, by omega, by omega⟩)) ?_
    refine ⟨?_, ?_⟩
    · intro c101
      refine And.intro (by
        first
          | omega
          | exact ⟨by omega, by omega⟩
          | exact ⟨⟨by omega, by omega⟩, by omega, by omega⟩
          | (split <;> exact ⟨by decide, by decide⟩)
          | trivial
          | exact gm
          | exact gs
          | exact gq
          | exact ⟨gk, by decide, by decide⟩
          | exact ⟨gA, by omega, by omega, by omega⟩
          | (have := hj (rw * 256 + x).toNat (by omega); exact ⟨⟨by omega, by omega⟩, by omega, by omega⟩)) ?_
      have h256 : x.toNat = 256 := by omega
      rw [h256] at hcnt
      first
        | exact gK _ _ ⟨fun z => absurd hin z, fun _ => ⟨hP, fun z => hcnt, fun z => by omega⟩⟩
        | exact gK _ _ ⟨fun z => absurd hin z, fun _ => ⟨hP, fun z => by omega, fun z => Or.inr ⟨by omega, rfl⟩⟩⟩
    · intro c101
      have h256 : x.toNat = 256 := by omega
      rw [h256] at hcnt
      first
        | exact gK _ _ ⟨fun z => absurd hin z, fun _ => ⟨hP, fun z => hcnt, fun z => by omega⟩⟩
        | exact gK _ _ ⟨fun z => absurd hin z, fun _ => ⟨hP, fun z => by omega, fun z => Or.inr ⟨by omega, rfl⟩⟩⟩
  · intro c62
    refine And.intro (by
      first
        | omega
        | exact ⟨by omega, by omega⟩
        | exact ⟨⟨by omega, by omega⟩, by omega, by omega⟩
        | (split <;> exact ⟨by decide, by decide⟩)
        | trivial
        | exact gm
        | exact gs
        | exact gq
        | exact ⟨gk, by decide, by decide⟩
        | exact ⟨gA, by omega, by omega, by omega⟩
        | (have := hj (rw * 256 + x).toNat (by omega); exact ⟨⟨by omega, by omega⟩, by omega, by omega⟩)) ?_
    intro r73 hr73
    rw [hix] at hr73
    replace hr73 : r73 = if ey_f M1 q x.toNat = true then 1 else 0 := hr73.trans (ite_iff (by unfold ey_f; rw [decide_eq_true_iff]))
    refine And.intro (by
      first
        | omega
        | exact ⟨by omega, by omega⟩
        | exact ⟨⟨by omega, by omega⟩, by omega, by omega⟩
        | (split <;> exact ⟨by decide, by decide⟩)
        | trivial
        | exact gm
        | exact gs
        | exact gq
        | exact ⟨gk, by decide, by decide⟩
        | exact ⟨gA, by omega, by omega, by omega⟩
        | (have := hj (rw * 256 + x).toNat (by omega); exact ⟨⟨by omega, by omega⟩, by omega, by omega⟩)) ?_
    refine ⟨?_, ?_⟩
    · intro c76
      rw [hr73] at c76
      rw [ab_bf] at c76
      clear hr73 r73
      have hk : (x + 1).toNat = x.toNat + 1 := by omega
      have hcn : gx_m (ey_f M1 q) (x.toNat + 1) = gx_m (ey_f M1 q) x.toNat + (if ey_f M1 q x.toNat = true then 1 else 0) := rfl
      rw [if_neg c76] at hcn
      refine ⟨_, ?_, rfl, ⟨by omega, by omega⟩, rfl, rfl, rfl, rfl, hin, hrw, hP, by rw [hk, hcn]; omega, by omega⟩
      omega
    · intro c76
      rw [hr73] at c76
      rw [ab_bt] at c76
      clear hr73 r73
      refine And.intro (by
        first
          | omega
          | exact ⟨by omega, by omega⟩
          | exact ⟨⟨by omega, by omega⟩, by omega, by omega⟩
          | (split <;> exact ⟨by decide, by decide⟩)
          | trivial
          | exact gm
          | exact gs
          | exact gq
          | exact ⟨gk, by decide, by decide⟩
          | exact ⟨gA, by omega, by omega, by omega⟩
          | (have := hj (rw * 256 + x).toNat (by omega); exact ⟨⟨by omega, by omega⟩, by omega, by omega⟩)) ?_
      refine ⟨?_, ?_⟩
      · intro c83
        have hk : (x + 1).toNat = x.toNat + 1 := by omega
        have hcn : gx_m (ey_f M1 q) (x.toNat + 1) = gx_m (ey_f M1 q) x.toNat + (if ey_f M1 q x.toNat = true then 1 else 0) := rfl
        rw [if_pos c76] at hcn
        refine ⟨_, ?_, rfl, ⟨by omega, by omega⟩, rfl, rfl, rfl, rfl, hin, hrw, hP, by rw [hk, hcn]; omega, by omega⟩
        omega
      · intro c83
        exact gK _ _ ⟨fun z => absurd hin z, fun _ => ⟨hP, fun z => by omega, fun _ => Or.inl ⟨x.toNat, by omega, c76, by omega, by omega⟩⟩⟩

set_option maxRecDepth 20000 in
set_option maxHeartbeats 1000000 in
theorem ok_X8_ends (E : ab_E) : ab_Ok E 7 87 S_X8_ends := by
  refine ab_mk rq_X8_ends tk_X8_ends (rt := 1) (rfl) (cuts := [57]) (G := [(49, S_X3_isReached), (52, S_X3_search), (93, S_X8_isFlag), (95, S_X8_isState)]) (List.forall_mem_cons.mpr ⟨⟨2, by decide, ok_X3_isReached E⟩, List.forall_mem_cons.mpr ⟨⟨6, by decide, ok_X3_search E⟩, List.forall_mem_cons.mpr ⟨⟨1, by decide, ok_X8_isFlag E⟩, List.forall_mem_cons.mpr ⟨⟨1, by decide, ok_X8_isState E⟩, fun _ h => absurd h List.not_mem_nil⟩⟩⟩⟩) (by decide) 103 rfl ?_
  intro a M K wd wa hS
  unfold S_X8_ends at hS
  split at hS
  ·
    rename_i md s q k
    refine ⟨Nat.le_of_ble_eq_true rfl, fun pc n L st M1 => match pc, L, st with
      | 57, [.inr (.inr (.inr (0, 8, 0))), .inr (.inl m1), .inr (.inl s1), .inr (.inl q1), .inr (.inl k1), .inr (.inl rw), .inr (.inl cnt), .inr (.inl x)], [] => (n = (256 - x).toNat ∧ (0 ≤ x ∧ x ≤ 256) ∧ md = m1 ∧ s = s1 ∧ q = q1 ∧ k = k1 ∧ ((0 ≤ md ∧ md ≤ 1) ∧ (0 ≤ s ∧ s ≤ 255) ∧ (0 ≤ q ∧ q ≤ 1) ∧ -1 ≤ k) ∧ (rw = if q = 0 then 120 else 121) ∧ se_P M M1 md s ∧ cnt = ((gx_m (ey_f M1 q) x.toNat : Nat) : Int) ∧ (k = -1 ∨ cnt ≤ k))
      | _, _, _ => False, ?_, ?_⟩
    · exact vc_X8_ends_0 md s q k M K  hS
    · intro pc n L st M1 hI wd1 wL wst
      (try dsimp only at hI)
      split at hI
      ·
        rename_i m1 s1 q1 k1 rw cnt x
        exact vc_X8_ends_57 md s q k M K  hS n m1 s1 q1 k1 rw cnt x _ hI
      · exact hI.elim
  · exact hS.elim
def S_X8_keeps : ab_PT := fun a M K => match a with
  | [.inr (.inr (.inr (0, 8, 0))), .inr (.inl l), .inr (.inl q)] => (((ab_ir l ∧ ab_ir q) ∧ cv_P M) ∧ ∀ l : Nat, l < 4 → M 787 l = 0 ∨ M 787 l = 1) ∧ (∀ rx : Int, ∀ Mx : ab_M, (zy_P M Mx l q rx) → K [Xi rx] Mx)
  | _ => False
set_option maxRecDepth 20000 in
theorem vc_X8_keeps_0 (l : Int) (q : Int) (M : ab_M) (K : List ab_V → ab_M → Prop) (hS : (((ab_ir l ∧ ab_ir q) ∧ cv_P M) ∧ ∀ l : Nat, l < 4 → M 787 l = 0 ∨ M 787 l = 1) ∧ (∀ rx : Int, ∀ Mx : ab_M, (zy_P M Mx l q rx) → K [Xi rx] Mx)) : (ab_ir l ∧ ab_ir (M 26 8)) ∧ (∀ r5 : Int, (r5 = if 0 ≤ l ∧ l < M 26 8 then 1 else 0) → (ab_ir r5) ∧ ((r5 = 0 → K [Xi (-1 : Int)] M) ∧ (¬ r5 = 0 → (ab_ir q) ∧ (∀ r12 : Int, (r12 = if q = 0 ∨ q = 1 then 1 else 0) → (ab_ir r12) ∧ ((¬ r12 = 0 → (cv_P M ∧ (0 ≤ l ∧ l < M 26 8) ∧ (M 787 l.toNat = 0 ∨ M 787 l.toNat = 1)) ∧ (∀ M25 : ab_M, (pl_P M M25 l) → (ab_ir q) ∧ ((¬ q = 0 → (0 ≤ l ∧ l < ((4 : Nat) : Int)) ∧ K [Xi (M25 789 l.toNat)] M25) ∧ (q = 0 → (0 ≤ l ∧ l < ((4 : Nat) : Int)) ∧ K [Xi (M25 788 l.toNat)] M25)))) ∧ (r12 = 0 → K [Xi (-1 : Int)] M)))))) := by
  obtain ⟨⟨⟨⟨gl, gq⟩, gA⟩, g87⟩, gK⟩ := hS
  have h8 := gA.2.2.1.1.2.1
  refine And.intro (by
    first
      | omega
      | exact ⟨by omega, by omega⟩
      | exact ⟨⟨by omega, by omega⟩, by omega, by omega⟩
      | (split <;> exact ⟨by decide, by decide⟩)
      | trivial
      | exact ⟨gl, by omega, by omega⟩
      | exact gl
      | exact gq
      | exact ⟨gq, by decide, by decide⟩
      | exact ⟨gA, ⟨by omega, by omega⟩, g87 _ (by omega)⟩) ?_
  intro r5 hr5
  refine And.intro (by
    first
      | omega
      | exact ⟨by omega, by omega⟩
      | exact ⟨⟨by omega, by omega⟩, by omega, by omega⟩
      | (split <;> exact ⟨by decide, by decide⟩)
      | trivial
      | exact ⟨gl, by omega, by omega⟩
      | exact gl
      | exact gq
      | exact ⟨gq, by decide, by decide⟩
      | exact ⟨gA, ⟨by omega, by omega⟩, g87 _ (by omega)⟩) ?_
  refine ⟨?_, ?_⟩
  · intro c8
    rw [hr5] at c8
    rw [ab_bf] at c8
    clear hr5 r5
    exact gK _ _ ⟨fun _ => ⟨rfl, rfl⟩, fun z => by omega⟩
  · intro c8
    rw [hr5] at c8
    rw [ab_bt] at c8
    clear hr5 r5
    refine And.intro (by
      first
        | omega
        | exact ⟨by omega, by omega⟩
        | exact ⟨⟨by omega, by omega⟩, by omega, by omega⟩
        | (split <;> exact ⟨by decide, by decide⟩)
        | trivial
        | exact ⟨gl, by omega, by omega⟩
        | exact gl
        | exact gq
        | exact ⟨gq, by decide, by decide⟩
        | exact ⟨gA, ⟨by omega, by omega⟩, g87 _ (by omega)⟩) ?_
    intro r12 hr12
    refine And.intro (by
      first
        | omega
        | exact ⟨by omega, by omega⟩
        | exact ⟨⟨by omega, by omega⟩, by omega, by omega⟩
        | (split <;> exact ⟨by decide, by decide⟩)
        | trivial
        | exact ⟨gl, by omega, by omega⟩
        | exact gl
        | exact gq
        | exact ⟨gq, by decide, by decide⟩
        | exact ⟨gA, ⟨by omega, by omega⟩, g87 _ (by omega)⟩) ?_
    refine ⟨?_, ?_⟩
    · intro c15
      rw [hr12] at c15
      rw [ab_bt] at c15
      clear hr12 r12
      refine And.intro (by
        first
          | omega
          | exact ⟨by omega, by omega⟩
          | exact ⟨⟨by omega, by omega⟩, by omega, by omega⟩
          | (split <;> exact ⟨by decide, by decide⟩)
          | trivial
          | exact ⟨gl, by omega, by omega⟩
          | exact gl
          | exact gq
          | exact ⟨gq, by decide, by decide⟩
          | exact ⟨gA, ⟨by omega, by omega⟩, g87 _ (by omega)⟩) ?_
      intro M25 hM25
      refine And.intro (by
        first
          | omega
          | exact ⟨by omega, by omega⟩
          | exact ⟨⟨by omega, by omega⟩, by omega, by omega⟩
          | (split <;> exact ⟨by decide, by decide⟩)
          | trivial
          | exact ⟨gl, by omega, by omega⟩
          | exact gl
          | exact gq
          | exact ⟨gq, by decide, by decide⟩
          | exact ⟨gA, ⟨by omega, by omega⟩, g87 _ (by omega)⟩) ?_
      refine ⟨?_, ?_⟩
      · intro c29
        refine And.intro (by
          first
            | omega
            | exact ⟨by omega, by omega⟩
            | exact ⟨⟨by omega, by omega⟩, by omega, by omega⟩
            | (split <;> exact ⟨by decide, by decide⟩)
            | trivial
            | exact ⟨gl, by omega, by omega⟩
            | exact gl
            | exact gq
            | exact ⟨gq, by decide, by decide⟩
            | exact ⟨gA, ⟨by omega, by omega⟩, g87 _ (by omega)⟩) ?_
        refine gK _ _ ⟨fun z => by omega, fun _ => ⟨hM25, fun z => ?_, fun z => ?_⟩⟩
        · first
            | rfl
            | (exfalso; omega)
        · first
            | rfl
            | (exfalso; omega)
      · intro c29
        refine And.intro (by
          first
            | omega
            | exact ⟨by omega, by omega⟩
            | exact ⟨⟨by omega, by omega⟩, by omega, by omega⟩
            | (split <;> exact ⟨by decide, by decide⟩)
            | trivial
            | exact ⟨gl, by omega, by omega⟩
            | exact gl
            | exact gq
            | exact ⟨gq, by decide, by decide⟩
            | exact ⟨gA, ⟨by omega, by omega⟩, g87 _ (by omega)⟩) ?_
        refine gK _ _ ⟨fun z => by omega, fun _ => ⟨hM25, fun z => ?_, fun z => ?_⟩⟩
        · first
            | rfl
            | (exfalso; omega)
        · first
            | rfl
            | (exfalso; omega)
    · intro c15
      rw [hr12] at c15
      rw [ab_bf] at c15
      clear hr12 r12
      exact gK _ _ ⟨fun _ => ⟨rfl, rfl⟩, fun z => by omega⟩

set_option maxRecDepth 20000 in
set_option maxHeartbeats 1000000 in
theorem ok_X8_keeps (E : ab_E) : ab_Ok E 8 98 S_X8_keeps := by
  refine ab_mk rq_X8_keeps tk_X8_keeps (rt := 1) (rfl) (cuts := []) (G := [(19, S_X1_hasLoop), (51, S_X3_prepareLoop), (93, S_X8_isFlag)]) (List.forall_mem_cons.mpr ⟨⟨1, by decide, ok_X1_hasLoop E⟩, List.forall_mem_cons.mpr ⟨⟨7, by decide, ok_X3_prepareLoop E⟩, List.forall_mem_cons.mpr ⟨⟨1, by decide, ok_X8_isFlag E⟩, fun _ h => absurd h List.not_mem_nil⟩⟩⟩) (by decide) 78 rfl ?_
  intro a M K wd wa hS
  unfold S_X8_keeps at hS
  split at hS
  ·
    rename_i l q
    refine ⟨Nat.le_of_ble_eq_true rfl, fun _ _ _ _ _ => False, ?_, ?_⟩
    · exact vc_X8_keeps_0 l q M K  hS
    · exact fun _ _ _ _ _ h => h.elim
  · exact hS.elim
def S_X8_loop : ab_PT := fun a M K => match a with
  | [.inr (.inr (.inr (0, 8, 0))), .inr (.inl l), .inr (.inl q)] => ((ab_ir l ∧ ab_ir q) ∧ cv_P M) ∧ (∀ rx : Int, ∀ Mx : ab_M, (ly_P M Mx l q rx) → K [Xi rx] Mx)
  | _ => False
set_option maxRecDepth 20000 in
theorem vc_X8_loop_0 (l : Int) (q : Int) (M : ab_M) (K : List ab_V → ab_M → Prop) (hS : ((ab_ir l ∧ ab_ir q) ∧ cv_P M) ∧ (∀ rx : Int, ∀ Mx : ab_M, (ly_P M Mx l q rx) → K [Xi rx] Mx)) : (ab_ir l ∧ ab_ir (M 26 8)) ∧ (∀ r5 : Int, (r5 = if 0 ≤ l ∧ l < M 26 8 then 1 else 0) → (ab_ir r5) ∧ ((r5 = 0 → K [Xi (-1 : Int)] M) ∧ (¬ r5 = 0 → (ab_ir q) ∧ ((q < 0 → K [Xi (-1 : Int)] M) ∧ (0 ≤ q → (ab_ir q ∧ ab_ir (2 : Int)) ∧ ((q ≤ (2 : Int) → (ab_ir l ∧ M 26 8 ≤ 4 ∧ 0 ≤ M 26 8 ∧ (0 ≤ l ∧ l < M 26 8 → ab_ir (M 392 l.toNat)) ∧ 0 ≤ M 26 3 ∧ M 26 3 ≤ 120) ∧ (∀ o27 : Nat, (o27 = if 0 ≤ l ∧ l < M 26 8 ∧ 0 ≤ M 392 l.toNat ∧ M 392 l.toNat < M 26 3 then 26 + 1 + 1 + 3 * (M 392 l.toNat).toNat else 26 + 362) → (ab_ir q) ∧ ((¬ q = 0 → (ab_ir q ∧ ab_ir (1 : Int)) ∧ ((¬ q = (1 : Int) → (((vl_T M ∧ tv_ok M) ∧ (M 769 3 = 0 ∨ M 769 3 = 1 ∧ vl_V M M (M 26 11))) ∧ -1 ≤ (M o27 3) ∧ (M o27 3) ≤ 63) ∧ (∀ r60 : Int, ∀ M60 : ab_M, (M60 769 3 = 1 ∧ vl_V M M60 (M 26 11) ∧ tv_ok M60 ∧ (∀ o' k' : Nat, ¬ (o' = 770 ∨ o' = 771 ∨ o' = 769 ∧ k' = 3) → M60 o' k' = M o' k')) → (r60 = tv_n M60 (M o27 3) 256) → K [Xi r60] M60)) ∧ (q = (1 : Int) → K [Xi (M o27 6)] M))) ∧ (q = 0 → K [Xi (M o27 4)] M)))) ∧ ((2 : Int) < q → K [Xi (-1 : Int)] M))))))) := by
  obtain ⟨⟨⟨gl, gq⟩, gA⟩, gK⟩ := hS
  have h8 := gA.2.2.1.1.2.1
  have h3 := gA.2.2.1.1.1
  have h392 := gA.2.2.1.1.2.2.1
  have hlp := gA.2.2.1.1.lp l
  refine And.intro (by
    first
      | omega
      | exact ⟨by omega, by omega⟩
      | exact ⟨⟨by omega, by omega⟩, by omega, by omega⟩
      | (split <;> exact ⟨by decide, by decide⟩)
      | trivial
      | exact ⟨gl, by omega, by omega⟩
      | exact gl
      | exact gq
      | exact ⟨gq, by decide, by decide⟩
      | exact ⟨gl, by omega, by omega, fun z => by have := h392 l.toNat (by omega); exact ⟨by omega, by omega⟩, by omega, by omega⟩
      | (rw [ho27]; exact ⟨⟨⟨gA.1, gA.2.1⟩, gA.2.2.2.1⟩, hlp.2.2.2.2.2.1⟩)) ?_
  intro r5 hr5
  refine And.intro (by
    first
      | omega
      | exact ⟨by omega, by omega⟩
      | exact ⟨⟨by omega, by omega⟩, by omega, by omega⟩
      | (split <;> exact ⟨by decide, by decide⟩)
      | trivial
      | exact ⟨gl, by omega, by omega⟩
      | exact gl
      | exact gq
      | exact ⟨gq, by decide, by decide⟩
      | exact ⟨gl, by omega, by omega, fun z => by have := h392 l.toNat (by omega); exact ⟨by omega, by omega⟩, by omega, by omega⟩
      | (rw [ho27]; exact ⟨⟨⟨gA.1, gA.2.1⟩, gA.2.2.2.1⟩, hlp.2.2.2.2.2.1⟩)) ?_
  refine ⟨?_, ?_⟩
  · intro c8
    rw [hr5] at c8
    rw [ab_bf] at c8
    clear hr5 r5
    exact gK _ _ ⟨fun _ => ⟨rfl, rfl⟩, fun z => by omega⟩
  · intro c8
    rw [hr5] at c8
    rw [ab_bt] at c8
    clear hr5 r5
    refine And.intro (by
      first
        | omega
        | exact ⟨by omega, by omega⟩
        | exact ⟨⟨by omega, by omega⟩, by omega, by omega⟩
        | (split <;> exact ⟨by decide, by decide⟩)
        | trivial
        | exact ⟨gl, by omega, by omega⟩
        | exact gl
        | exact gq
        | exact ⟨gq, by decide, by decide⟩
        | exact ⟨gl, by omega, by omega, fun z => by have := h392 l.toNat (by omega); exact ⟨by omega, by omega⟩, by omega, by omega⟩
        | (rw [ho27]; exact ⟨⟨⟨gA.1, gA.2.1⟩, gA.2.2.2.1⟩, hlp.2.2.2.2.2.1⟩)) ?_
    refine ⟨?_, ?_⟩
    · intro c12
      exact gK _ _ ⟨fun _ => ⟨rfl, rfl⟩, fun z => by omega⟩
    · intro c12
      refine And.intro (by
        first
          | omega
          | exact ⟨by omega, by omega⟩
          | exact ⟨⟨by omega, by omega⟩, by omega, by omega⟩
          | (split <;> exact ⟨by decide, by decide⟩)
          | trivial
          | exact ⟨gl, by omega, by omega⟩
          | exact gl
          | exact gq
          | exact ⟨gq, by decide, by decide⟩
          | exact ⟨gl, by omega, by omega, fun z => by have := h392 l.toNat (by omega); exact ⟨by omega, by omega⟩, by omega, by omega⟩
          | (rw [ho27]; exact ⟨⟨⟨gA.1, gA.2.1⟩, gA.2.2.2.1⟩, hlp.2.2.2.2.2.1⟩)) ?_
      refine ⟨?_, ?_⟩
      · intro c17
        refine And.intro (by
          first
            | omega
            | exact ⟨by omega, by omega⟩
            | exact ⟨⟨by omega, by omega⟩, by omega, by omega⟩
            | (split <;> exact ⟨by decide, by decide⟩)
            | trivial
            | exact ⟨gl, by omega, by omega⟩
            | exact gl
            | exact gq
            | exact ⟨gq, by decide, by decide⟩
            | exact ⟨gl, by omega, by omega, fun z => by have := h392 l.toNat (by omega); exact ⟨by omega, by omega⟩, by omega, by omega⟩
            | (rw [ho27]; exact ⟨⟨⟨gA.1, gA.2.1⟩, gA.2.2.2.1⟩, hlp.2.2.2.2.2.1⟩)) ?_
        intro o27 hr27
        have ho27 : o27 = lp_at M l := hr27
        refine And.intro (by
          first
            | omega
            | exact ⟨by omega, by omega⟩
            | exact ⟨⟨by omega, by omega⟩, by omega, by omega⟩
            | (split <;> exact ⟨by decide, by decide⟩)
            | trivial
            | exact ⟨gl, by omega, by omega⟩
            | exact gl
            | exact gq
            | exact ⟨gq, by decide, by decide⟩
            | exact ⟨gl, by omega, by omega, fun z => by have := h392 l.toNat (by omega); exact ⟨by omega, by omega⟩, by omega, by omega⟩
            | (rw [ho27]; exact ⟨⟨⟨gA.1, gA.2.1⟩, gA.2.2.2.1⟩, hlp.2.2.2.2.2.1⟩)) ?_
        refine ⟨?_, ?_⟩
        · intro c32
          refine And.intro (by
            first
              | omega
              | exact ⟨by omega, by omega⟩
              | exact ⟨⟨by omega, by omega⟩, by omega, by omega⟩
              | (split <;> exact ⟨by decide, by decide⟩)
              | trivial
              | exact ⟨gl, by omega, by omega⟩
              | exact gl
              | exact gq
              | exact ⟨gq, by decide, by decide⟩
              | exact ⟨gl, by omega, by omega, fun z => by have := h392 l.toNat (by omega); exact ⟨by omega, by omega⟩, by omega, by omega⟩
              | (rw [ho27]; exact ⟨⟨⟨gA.1, gA.2.1⟩, gA.2.2.2.1⟩, hlp.2.2.2.2.2.1⟩)) ?_
          refine ⟨?_, ?_⟩
          · intro c42
            refine And.intro (by
              first
                | omega
                | exact ⟨by omega, by omega⟩
                | exact ⟨⟨by omega, by omega⟩, by omega, by omega⟩
                | (split <;> exact ⟨by decide, by decide⟩)
                | trivial
                | exact ⟨gl, by omega, by omega⟩
                | exact gl
                | exact gq
                | exact ⟨gq, by decide, by decide⟩
                | exact ⟨gl, by omega, by omega, fun z => by have := h392 l.toNat (by omega); exact ⟨by omega, by omega⟩, by omega, by omega⟩
                | (rw [ho27]; exact ⟨⟨⟨gA.1, gA.2.1⟩, gA.2.2.2.1⟩, hlp.2.2.2.2.2.1⟩)) ?_
            intro r60 M60 hM60 hr60
            first
              | (rw [ho27]; exact gK _ _ ⟨fun z => by omega, fun _ => ⟨fun _ => ⟨rfl, rfl⟩, fun z => by omega, fun z => by omega⟩⟩)
              | (rw [ho27]; exact gK _ _ ⟨fun z => by omega, fun _ => ⟨fun z => by omega, fun _ => ⟨rfl, rfl⟩, fun z => by omega⟩⟩)
              | (rw [ho27] at hr60; exact gK _ _ ⟨fun z => by omega, fun _ => ⟨fun z => by omega, fun z => by omega, fun _ => ⟨hM60, hr60⟩⟩⟩)
          · intro c42
            first
              | (rw [ho27]; exact gK _ _ ⟨fun z => by omega, fun _ => ⟨fun _ => ⟨rfl, rfl⟩, fun z => by omega, fun z => by omega⟩⟩)
              | (rw [ho27]; exact gK _ _ ⟨fun z => by omega, fun _ => ⟨fun z => by omega, fun _ => ⟨rfl, rfl⟩, fun z => by omega⟩⟩)
              | (rw [ho27] at hr60; exact gK _ _ ⟨fun z => by omega, fun _ => ⟨fun z => by omega, fun z => by omega, fun _ => ⟨hM60, hr60⟩⟩⟩)
        · intro c32
          first
            | (rw [ho27]; exact gK _ _ ⟨fun z => by omega, fun _ => ⟨fun _ => ⟨rfl, rfl⟩, fun z => by omega, fun z => by omega⟩⟩)
            | (rw [ho27]; exact gK _ _ ⟨fun z => by omega, fun _ => ⟨fun z => by omega, fun _ => ⟨rfl, rfl⟩, fun z => by omega⟩⟩)
            | (rw [ho27] at hr60; exact gK _ _ ⟨fun z => by omega, fun _ => ⟨fun z => by omega, fun z => by omega, fun _ => ⟨hM60, hr60⟩⟩⟩)
      · intro c17
        exact gK _ _ ⟨fun _ => ⟨rfl, rfl⟩, fun z => by omega⟩

set_option maxRecDepth 20000 in
set_option maxHeartbeats 1000000 in
theorem ok_X8_loop (E : ab_E) : ab_Ok E 6 102 S_X8_loop := by
  refine ab_mk rq_X8_loop tk_X8_loop (rt := 1) (rfl) (cuts := []) (G := [(19, S_X1_hasLoop), (24, S_X1_loopStatement), (53, S_X3_statesWith)]) (List.forall_mem_cons.mpr ⟨⟨1, by decide, ok_X1_hasLoop E⟩, List.forall_mem_cons.mpr ⟨⟨2, by decide, ok_X1_loopStatement E⟩, List.forall_mem_cons.mpr ⟨⟨5, by decide, ok_X3_statesWith E⟩, fun _ h => absurd h List.not_mem_nil⟩⟩⟩) (by decide) 84 rfl ?_
  intro a M K wd wa hS
  unfold S_X8_loop at hS
  split at hS
  ·
    rename_i l q
    refine ⟨Nat.le_of_ble_eq_true rfl, fun _ _ _ _ _ => False, ?_, ?_⟩
    · exact vc_X8_loop_0 l q M K  hS
    · exact fun _ _ _ _ _ h => h.elim
  · exact hS.elim
