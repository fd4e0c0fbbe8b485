/-! states are left out -/
/-- a state leaves: one comes from it to one that is not there -/
def lv_l (M : ab_M) (s : Nat) : Prop := M 832 s = 1 ∧ ∃ t : Nat, t < 256 ∧ M 831 (256 * s + t) = 1 ∧ M 832 t = 0
def lv_g (M M' : ab_M) : Prop := ∀ x : Nat, x < 256 → (M' 832 x = 1 ∧ M 832 x = 1 ∧ ¬ lv_l M x) ∨ (M' 832 x = 0 ∧ ¬ (M 832 x = 1 ∧ ¬ lv_l M x))
def lv_P (M M' : ab_M) (r : Int) : Prop := (∀ o k : Nat, o ≠ 832 → o ≠ 833 → M' o k = M o k) ∧ (∀ k, 256 ≤ k → M' 832 k = M 832 k) ∧ lv_g M M' ∧ ((r = 1 ∧ ∃ x : Nat, x < 256 ∧ lv_l M x) ∨ (r = 0 ∧ ∀ x : Nat, x < 256 → ¬ lv_l M x))
def lv_B (M : ab_M) : Prop := (∀ k, M 832 k = 0 ∨ M 832 k = 1) ∧ ∀ k, M 831 k = 0 ∨ M 831 k = 1
/-- the first states are told of -/
def lv_1 (M M1 : ab_M) (an s : Int) : Prop := (∀ o k : Nat, o ≠ 833 → M1 o k = M o k) ∧ (∀ x : Nat, (x : Int) < s → (M1 833 x = 1 ∧ lv_l M x) ∨ (M1 833 x = 0 ∧ ¬ lv_l M x)) ∧ ((an = 1 ∧ ∃ x : Nat, (x : Int) < s ∧ lv_l M x) ∨ (an = 0 ∧ ∀ x : Nat, (x : Int) < s → ¬ lv_l M x))
def lv_2 (M M1 : ab_M) (s t : Int) : Prop := (M1 833 s.toNat = 1 ∧ lv_l M s.toNat) ∨ (M1 833 s.toNat = 0 ∧ ∀ x : Nat, (x : Int) < t → ¬ (M 831 (256 * s.toNat + x) = 1 ∧ M 832 x = 0))
def lv_3 (M M1 : ab_M) (s : Int) : Prop := (∀ o k : Nat, o ≠ 832 → o ≠ 833 → M1 o k = M o k) ∧ (∀ k : Nat, s ≤ (k : Int) → M1 832 k = M 832 k) ∧ (∀ x : Nat, x < 256 → (M1 833 x = 1 ∧ lv_l M x) ∨ (M1 833 x = 0 ∧ ¬ lv_l M x)) ∧ ∀ x : Nat, (x : Int) < s → (M1 832 x = 1 ∧ M 832 x = 1 ∧ ¬ lv_l M x) ∨ (M1 832 x = 0 ∧ ¬ (M 832 x = 1 ∧ ¬ lv_l M x))
theorem lv_1.next {M M1 : ab_M} {an s an' : Int} (h : lv_1 M M1 an s) (hs : 0 ≤ s) (h2 : (M1 833 s.toNat = 1 ∧ lv_l M s.toNat) ∨ (M1 833 s.toNat = 0 ∧ ¬ lv_l M s.toNat)) (ha : an' = if ¬ an = 0 ∨ ¬ M1 833 s.toNat = 0 then 1 else 0) : lv_1 M M1 an' (s + 1) := by
  obtain ⟨h3, h4, h5⟩ := h
  refine ⟨h3, fun x hx => ?_, ?_⟩
  · by_cases e : x = s.toNat
    · rw [e]; exact h2
    · exact h4 x (by omega)
  · by_cases c : ¬ an = 0 ∨ ¬ M1 833 s.toNat = 0
    · rw [if_pos c] at ha
      refine Or.inl ⟨ha, ?_⟩
      rcases c with c | c
      · rcases h5 with ⟨-, x, x1, x2⟩ | ⟨z, -⟩
        · exact ⟨x, by omega, x2⟩
        · exact absurd z c
      · rcases h2 with ⟨-, z⟩ | ⟨z, -⟩
        · exact ⟨s.toNat, by omega, z⟩
        · exact absurd z c
    · rw [if_neg c] at ha
      refine Or.inr ⟨ha, fun x hx => ?_⟩
      by_cases e : x = s.toNat
      · rw [e]
        rcases h2 with ⟨z, -⟩ | ⟨-, z⟩
        · exact absurd (Or.inr (by rw [z]; decide)) c
        · exact z
      · rcases h5 with ⟨z, -⟩ | ⟨-, z⟩
        · exact absurd (Or.inl (by rw [z]; decide)) c
        · exact z x (by omega)
theorem lv_2.fin {M M1 : ab_M} {s t : Int} (hs : 0 ≤ s) (hB : lv_B M) (h : lv_2 M M1 s t) (hc : 256 ≤ t ∨ M 832 s.toNat = 0 ∨ ¬ M1 833 s.toNat = 0) : (M1 833 s.toNat = 1 ∧ lv_l M s.toNat) ∨ (M1 833 s.toNat = 0 ∧ ¬ lv_l M s.toNat) := by
  rcases h with h | ⟨h1, h2⟩
  · exact Or.inl h
  · refine Or.inr ⟨h1, ?_⟩
    rintro ⟨z1, x, z2, z3, z4⟩
    rcases hc with c | c | c
    · exact h2 x (by omega) ⟨z3, z4⟩
    · omega
    · exact c h1
theorem lv_1.up {M M1 : ab_M} {an s : Int} (h : lv_1 M M1 an s) (hs : 0 ≤ s) (v : Int) : lv_1 M (ab_up M1 833 s.toNat v) an s := by
  obtain ⟨h3, h4, h5⟩ := h
  exact ⟨fun o k x => by rw [ab_up_o x]; exact h3 o k x, fun x hx => by rw [ab_up_k (by omega)]; exact h4 x hx, h5⟩
theorem lv_2.next {M M1 : ab_M} {s t v : Int} (hst : (0 ≤ s ∧ s < 256) ∧ 0 ≤ t ∧ t < 256) (hB : lv_B M) (h : lv_2 M M1 s t) (h0 : M1 833 s.toNat = 0) (hk : ¬ M 832 s.toNat = 0) (hv : v = if ¬ M 831 (256 * s + t).toNat = 0 ∧ M 832 t.toNat = 0 then 1 else 0) : lv_2 M (ab_up M1 833 s.toNat v) s (t + 1) := by
  have e : (256 * s + t).toNat = 256 * s.toNat + t.toNat := by omega
  rw [e] at hv
  by_cases c : ¬ M 831 (256 * s.toNat + t.toNat) = 0 ∧ M 832 t.toNat = 0
  · rw [if_pos c] at hv
    refine Or.inl ⟨by rw [ab_up_s]; exact hv, (hB.1 _).resolve_left hk, t.toNat, by omega, (hB.2 _).resolve_left c.1, c.2⟩
  · rw [if_neg c] at hv
    refine Or.inr ⟨by rw [ab_up_s]; exact hv, fun x hx => ?_⟩
    by_cases ex : x = t.toNat
    · rw [ex]
      rintro ⟨z1, z2⟩
      exact c ⟨by rw [z1]; decide, z2⟩
    · rcases h with ⟨z, -⟩ | ⟨-, z⟩
      · omega
      · exact z x (by omega)
theorem lv_3.next {M M1 : ab_M} {s v : Int} (hs : 0 ≤ s ∧ s < 256) (hB : lv_B M) (h : lv_3 M M1 s) (hv : v = if ¬ M1 832 s.toNat = 0 ∧ M1 833 s.toNat = 0 then 1 else 0) : lv_3 M (ab_up M1 832 s.toNat v) (s + 1) := by
  obtain ⟨h1, h2, h3, h4⟩ := h
  refine ⟨fun o k x y => by rw [ab_up_o x]; exact h1 o k x y, fun k hk => by rw [ab_up_k (by omega)]; exact h2 k (by omega), fun x hx => by rw [ab_up_o (by decide)]; exact h3 x hx, fun x hx => ?_⟩
  by_cases e : x = s.toNat
  · rw [e, ab_up_s]
    have h2 := h2 s.toNat (by omega)
    rw [h2] at hv
    by_cases c : ¬ M 832 s.toNat = 0 ∧ M1 833 s.toNat = 0
    · rw [if_pos c] at hv
      refine Or.inl ⟨hv, (hB.1 _).resolve_left c.1, ?_⟩
      rcases h3 s.toNat (by omega) with ⟨z, -⟩ | ⟨-, z⟩
      · omega
      · exact z
    · rw [if_neg c] at hv
      refine Or.inr ⟨hv, fun z => c ⟨by rw [z.1]; decide, ?_⟩⟩
      rcases h3 s.toNat (by omega) with ⟨-, y⟩ | ⟨y, -⟩
      · exact absurd y z.2
      · exact y
  · rw [ab_up_k e]
    exact h4 x (by omega)

def S_X9_leaveOut : ab_PT := fun a M K => match a with
  | [.inr (.inr (.inr (797, 9, 0)))] => (lv_B M) ∧ (∀ rx : Int, ∀ Mx : ab_M, (lv_P M Mx rx) → K [Xi rx] Mx)
  | _ => False
set_option maxRecDepth 20000 in
theorem vc_X9_leaveOut_0  (M : ab_M) (K : List ab_V → ab_M → Prop) (hS : (lv_B M) ∧ (∀ rx : Int, ∀ Mx : ab_M, (lv_P M Mx rx) → K [Xi rx] Mx)) : (∃ n', ((n' = (256 - (0 : Int)).toNat * 1000 + 1000000 ∧ (0 ≤ (0 : Int) ∧ (0 : Int) ≤ 256) ∧ lv_1 M M (0 : Int) (0 : Int)))) := by
  obtain ⟨gB, gK⟩ := hS
  refine ⟨_, rfl, ⟨by decide, by decide⟩, fun _ _ _ => rfl, fun x hx => by omega, Or.inr ⟨rfl, fun x hx => by omega⟩⟩

set_option maxRecDepth 20000 in
theorem vc_X9_leaveOut_4  (M : ab_M) (K : List ab_V → ab_M → Prop) (hS : (lv_B M) ∧ (∀ rx : Int, ∀ Mx : ab_M, (lv_P M Mx rx) → K [Xi rx] Mx)) (n : Nat) (an : Int) (s : Int) (M1 : ab_M) (hI : n = (256 - s).toNat * 1000 + 1000000 ∧ (0 ≤ s ∧ s ≤ 256) ∧ lv_1 M M1 an s) : (-32768 ≤ (256 : Int) ∧ (256 : Int) < 32768) ∧ (ab_ir s ∧ ab_ir (256 : Int)) ∧ (((256 : Int) ≤ s → (∃ n', n' < n ∧ ((n' = (256 - (0 : Int)).toNat ∧ (0 ≤ (0 : Int) ∧ (0 : Int) ≤ 256) ∧ lv_3 M M1 (0 : Int) ∧ ((an = 1 ∧ ∃ x : Nat, x < 256 ∧ lv_l M x) ∨ (an = 0 ∧ ∀ x : Nat, x < 256 → ¬ lv_l M x)))))) ∧ (s < (256 : Int) → ((0 ≤ s ∧ s < ((256 : Nat) : Int)) ∧ ((0 : Int) = 0 ∨ (0 : Int) = 1)) ∧ (∃ n', n' < n ∧ ((n' = (256 - s).toNat * 1000 + 1000000 - 1 - (0 : Int).toNat ∧ (0 ≤ s ∧ s < 256) ∧ (0 ≤ (0 : Int) ∧ (0 : Int) ≤ 256) ∧ lv_1 M (ab_up M1 833 s.toNat (0 : Int)) an s ∧ lv_2 M (ab_up M1 833 s.toNat (0 : Int)) s (0 : Int)))))) := by
  obtain ⟨gB, gK⟩ := hS
  obtain ⟨hn, hs0, h1⟩ := hI
  refine And.intro (by
    first
      | omega
      | exact ⟨by omega, by omega⟩
      | exact ⟨⟨by omega, by omega⟩, by omega, by omega⟩
      | (rcases gB.1 s.toNat with z | z <;> (rw [e819, z]; exact ⟨by decide, by decide⟩))
      | (rcases gB.1 t.toNat with z | z <;> (rw [e819, z]; exact ⟨by decide, by decide⟩))
      | (rcases gB.2 (256 * s + t).toNat with z | z <;> (rw [e818, z]; exact ⟨by decide, by decide⟩))
      | (rcases h2 with z | z <;> (rw [z.1]; exact ⟨by decide, by decide⟩))
      | (rcases h1.2.2 with z | z <;> (rw [z.1]; exact ⟨by decide, by decide⟩))
      | (rcases h3.2.2.1 s.toNat (by omega) with z | z <;> (rw [z.1]; exact ⟨by decide, by decide⟩))
      | (rcases gB.1 s.toNat with z | z <;> (rw [h3.2.1 _ (by omega), z]; exact ⟨by decide, by decide⟩))
      | (rcases han with z | z <;> (rw [z.1]; first | exact Or.inl rfl | exact Or.inr rfl))) ?_
  refine And.intro (by
    first
      | omega
      | exact ⟨by omega, by omega⟩
      | exact ⟨⟨by omega, by omega⟩, by omega, by omega⟩
      | (rcases gB.1 s.toNat with z | z <;> (rw [e819, z]; exact ⟨by decide, by decide⟩))
      | (rcases gB.1 t.toNat with z | z <;> (rw [e819, z]; exact ⟨by decide, by decide⟩))
      | (rcases gB.2 (256 * s + t).toNat with z | z <;> (rw [e818, z]; exact ⟨by decide, by decide⟩))
      | (rcases h2 with z | z <;> (rw [z.1]; exact ⟨by decide, by decide⟩))
      | (rcases h1.2.2 with z | z <;> (rw [z.1]; exact ⟨by decide, by decide⟩))
      | (rcases h3.2.2.1 s.toNat (by omega) with z | z <;> (rw [z.1]; exact ⟨by decide, by decide⟩))
      | (rcases gB.1 s.toNat with z | z <;> (rw [h3.2.1 _ (by omega), z]; exact ⟨by decide, by decide⟩))
      | (rcases han with z | z <;> (rw [z.1]; first | exact Or.inl rfl | exact Or.inr rfl))) ?_
  refine ⟨?_, ?_⟩
  · intro c8
    refine ⟨_, ?_, rfl, ⟨by decide, by decide⟩, ⟨fun o k _ y => h1.1 o k y, fun k _ => h1.1 _ _ (by decide), fun x hx => h1.2.1 x (by omega), fun x hx => by omega⟩, ?_⟩
    · omega
    rcases h1.2.2 with ⟨z, x, x1, x2⟩ | ⟨z, y⟩
    · exact Or.inl ⟨z, x, by omega, x2⟩
    · exact Or.inr ⟨z, fun x hx => y x (by omega)⟩
  · intro c8
    refine And.intro (by
      first
        | omega
        | exact ⟨by omega, by omega⟩
        | exact ⟨⟨by omega, by omega⟩, by omega, by omega⟩
        | (rcases gB.1 s.toNat with z | z <;> (rw [e819, z]; exact ⟨by decide, by decide⟩))
        | (rcases gB.1 t.toNat with z | z <;> (rw [e819, z]; exact ⟨by decide, by decide⟩))
        | (rcases gB.2 (256 * s + t).toNat with z | z <;> (rw [e818, z]; exact ⟨by decide, by decide⟩))
        | (rcases h2 with z | z <;> (rw [z.1]; exact ⟨by decide, by decide⟩))
        | (rcases h1.2.2 with z | z <;> (rw [z.1]; exact ⟨by decide, by decide⟩))
        | (rcases h3.2.2.1 s.toNat (by omega) with z | z <;> (rw [z.1]; exact ⟨by decide, by decide⟩))
        | (rcases gB.1 s.toNat with z | z <;> (rw [h3.2.1 _ (by omega), z]; exact ⟨by decide, by decide⟩))
        | (rcases han with z | z <;> (rw [z.1]; first | exact Or.inl rfl | exact Or.inr rfl))) ?_
    refine ⟨_, ?_, rfl, ⟨by omega, by omega⟩, ⟨by decide, by decide⟩, h1.up hs0.1 0, Or.inr ⟨ab_up_s, fun x hx => by omega⟩⟩
    omega

set_option maxRecDepth 20000 in
theorem vc_X9_leaveOut_20  (M : ab_M) (K : List ab_V → ab_M → Prop) (hS : (lv_B M) ∧ (∀ rx : Int, ∀ Mx : ab_M, (lv_P M Mx rx) → K [Xi rx] Mx)) (n : Nat) (an : Int) (s : Int) (t : Int) (M1 : ab_M) (hI : n = (256 - s).toNat * 1000 + 1000000 - 1 - t.toNat ∧ (0 ≤ s ∧ s < 256) ∧ (0 ≤ t ∧ t ≤ 256) ∧ lv_1 M M1 an s ∧ lv_2 M M1 s t) : (-32768 ≤ (256 : Int) ∧ (256 : Int) < 32768) ∧ (ab_ir t ∧ ab_ir (256 : Int)) ∧ (((256 : Int) ≤ t → (ab_ir an) ∧ ((¬ an = 0 → (∃ n', n' < n ∧ ((n' = (256 - (s + 1)).toNat * 1000 + 1000000 ∧ (0 ≤ (s + 1) ∧ (s + 1) ≤ 256) ∧ lv_1 M M1 (1 : Int) (s + 1))))) ∧ (an = 0 → (0 ≤ s ∧ s < ((256 : Nat) : Int)) ∧ (ab_ir (M1 833 s.toNat)) ∧ (((M1 833 s.toNat) = 0 → (∃ n', n' < n ∧ ((n' = (256 - (s + 1)).toNat * 1000 + 1000000 ∧ (0 ≤ (s + 1) ∧ (s + 1) ≤ 256) ∧ lv_1 M M1 (0 : Int) (s + 1))))) ∧ (¬ (M1 833 s.toNat) = 0 → (∃ n', n' < n ∧ ((n' = (256 - (s + 1)).toNat * 1000 + 1000000 ∧ (0 ≤ (s + 1) ∧ (s + 1) ≤ 256) ∧ lv_1 M M1 (1 : Int) (s + 1))))))))) ∧ (t < (256 : Int) → (0 ≤ s ∧ s < ((256 : Nat) : Int)) ∧ (ab_ir (M1 832 s.toNat)) ∧ (((M1 832 s.toNat) = 0 → (ab_ir an) ∧ ((¬ an = 0 → (∃ n', n' < n ∧ ((n' = (256 - (s + 1)).toNat * 1000 + 1000000 ∧ (0 ≤ (s + 1) ∧ (s + 1) ≤ 256) ∧ lv_1 M M1 (1 : Int) (s + 1))))) ∧ (an = 0 → (0 ≤ s ∧ s < ((256 : Nat) : Int)) ∧ (ab_ir (M1 833 s.toNat)) ∧ (((M1 833 s.toNat) = 0 → (∃ n', n' < n ∧ ((n' = (256 - (s + 1)).toNat * 1000 + 1000000 ∧ (0 ≤ (s + 1) ∧ (s + 1) ≤ 256) ∧ lv_1 M M1 (0 : Int) (s + 1))))) ∧ (¬ (M1 833 s.toNat) = 0 → (∃ n', n' < n ∧ ((n' = (256 - (s + 1)).toNat * 1000 + 1000000 ∧ (0 ≤ (s + 1) ∧ (s + 1) ≤ 256) ∧ lv_1 M M1 (1 : Int) (s + 1))))))))) ∧ (¬ (M1 832 s.toNat) = 0 → (0 ≤ s ∧ s < ((256 : Nat) : Int)) ∧ (ab_ir (M1 833 s.toNat)) ∧ ((¬ (M1 833 s.toNat) = 0 → (ab_ir an) ∧ ((¬ an = 0 → (∃ n', n' < n ∧ ((n' = (256 - (s + 1)).toNat * 1000 + 1000000 ∧ (0 ≤ (s + 1) ∧ (s + 1) ≤ 256) ∧ lv_1 M M1 (1 : Int) (s + 1))))) ∧ (an = 0 → (0 ≤ s ∧ s < ((256 : Nat) : Int)) ∧ (ab_ir (M1 833 s.toNat)) ∧ (((M1 833 s.toNat) = 0 → (∃ n', n' < n ∧ ((n' = (256 - (s + 1)).toNat * 1000 + 1000000 ∧ (0 ≤ (s + 1) ∧ (s + 1) ≤ 256) ∧ lv_1 M M1 (0 : Int) (s + 1))))) ∧ (¬ (M1 833 s.toNat) = 0 → (∃ n', n' < n ∧ ((n' = (256 - (s + 1)).toNat * 1000 + 1000000 ∧ (0 ≤ (s + 1) ∧ (s + 1) ≤ 256) ∧ lv_1 M M1 (1 : Int) (s + 1))))))))) ∧ ((M1 833 s.toNat) = 0 → (-32768 ≤ (256 : Int) ∧ (256 : Int) < 32768) ∧ (0 ≤ (((256 : Int) * s) + t) ∧ (((256 : Int) * s) + t) < ((65536 : Nat) : Int)) ∧ (ab_ir (M1 831 ((((256 : Int) * s) + t).toNat))) ∧ (((M1 831 ((((256 : Int) * s) + t).toNat)) = 0 → ((0 ≤ s ∧ s < ((256 : Nat) : Int)) ∧ ((0 : Int) = 0 ∨ (0 : Int) = 1)) ∧ (∃ n', n' < n ∧ ((n' = (256 - s).toNat * 1000 + 1000000 - 1 - (t + 1).toNat ∧ (0 ≤ s ∧ s < 256) ∧ (0 ≤ (t + 1) ∧ (t + 1) ≤ 256) ∧ lv_1 M (ab_up M1 833 s.toNat (0 : Int)) an s ∧ lv_2 M (ab_up M1 833 s.toNat (0 : Int)) s (t + 1))))) ∧ (¬ (M1 831 ((((256 : Int) * s) + t).toNat)) = 0 → (0 ≤ t ∧ t < ((256 : Nat) : Int)) ∧ (ab_ir (M1 832 t.toNat)) ∧ ((¬ (M1 832 t.toNat) = 0 → ((0 ≤ s ∧ s < ((256 : Nat) : Int)) ∧ ((0 : Int) = 0 ∨ (0 : Int) = 1)) ∧ (∃ n', n' < n ∧ ((n' = (256 - s).toNat * 1000 + 1000000 - 1 - (t + 1).toNat ∧ (0 ≤ s ∧ s < 256) ∧ (0 ≤ (t + 1) ∧ (t + 1) ≤ 256) ∧ lv_1 M (ab_up M1 833 s.toNat (0 : Int)) an s ∧ lv_2 M (ab_up M1 833 s.toNat (0 : Int)) s (t + 1))))) ∧ ((M1 832 t.toNat) = 0 → ((0 ≤ s ∧ s < ((256 : Nat) : Int)) ∧ ((1 : Int) = 0 ∨ (1 : Int) = 1)) ∧ (∃ n', n' < n ∧ ((n' = (256 - s).toNat * 1000 + 1000000 - 1 - (t + 1).toNat ∧ (0 ≤ s ∧ s < 256) ∧ (0 ≤ (t + 1) ∧ (t + 1) ≤ 256) ∧ lv_1 M (ab_up M1 833 s.toNat (1 : Int)) an s ∧ lv_2 M (ab_up M1 833 s.toNat (1 : Int)) s (t + 1)))))))))))))) := by
  obtain ⟨gB, gK⟩ := hS
  obtain ⟨hn, hs0, ht, h1, h2⟩ := hI
  have e819 : ∀ k, M1 832 k = M 832 k := fun k => h1.1 _ _ (by decide)
  have e818 : ∀ k, M1 831 k = M 831 k := fun k => h1.1 _ _ (by decide)
  refine And.intro (by
    first
      | omega
      | exact ⟨by omega, by omega⟩
      | exact ⟨⟨by omega, by omega⟩, by omega, by omega⟩
      | (rcases gB.1 s.toNat with z | z <;> (rw [e819, z]; exact ⟨by decide, by decide⟩))
      | (rcases gB.1 t.toNat with z | z <;> (rw [e819, z]; exact ⟨by decide, by decide⟩))
      | (rcases gB.2 (256 * s + t).toNat with z | z <;> (rw [e818, z]; exact ⟨by decide, by decide⟩))
      | (rcases h2 with z | z <;> (rw [z.1]; exact ⟨by decide, by decide⟩))
      | (rcases h1.2.2 with z | z <;> (rw [z.1]; exact ⟨by decide, by decide⟩))
      | (rcases h3.2.2.1 s.toNat (by omega) with z | z <;> (rw [z.1]; exact ⟨by decide, by decide⟩))
      | (rcases gB.1 s.toNat with z | z <;> (rw [h3.2.1 _ (by omega), z]; exact ⟨by decide, by decide⟩))
      | (rcases han with z | z <;> (rw [z.1]; first | exact Or.inl rfl | exact Or.inr rfl))) ?_
  refine And.intro (by
    first
      | omega
      | exact ⟨by omega, by omega⟩
      | exact ⟨⟨by omega, by omega⟩, by omega, by omega⟩
      | (rcases gB.1 s.toNat with z | z <;> (rw [e819, z]; exact ⟨by decide, by decide⟩))
      | (rcases gB.1 t.toNat with z | z <;> (rw [e819, z]; exact ⟨by decide, by decide⟩))
      | (rcases gB.2 (256 * s + t).toNat with z | z <;> (rw [e818, z]; exact ⟨by decide, by decide⟩))
      | (rcases h2 with z | z <;> (rw [z.1]; exact ⟨by decide, by decide⟩))
      | (rcases h1.2.2 with z | z <;> (rw [z.1]; exact ⟨by decide, by decide⟩))
      | (rcases h3.2.2.1 s.toNat (by omega) with z | z <;> (rw [z.1]; exact ⟨by decide, by decide⟩))
      | (rcases gB.1 s.toNat with z | z <;> (rw [h3.2.1 _ (by omega), z]; exact ⟨by decide, by decide⟩))
      | (rcases han with z | z <;> (rw [z.1]; first | exact Or.inl rfl | exact Or.inr rfl))) ?_
  refine ⟨?_, ?_⟩
  · intro c24
    refine And.intro (by
      first
        | omega
        | exact ⟨by omega, by omega⟩
        | exact ⟨⟨by omega, by omega⟩, by omega, by omega⟩
        | (rcases gB.1 s.toNat with z | z <;> (rw [e819, z]; exact ⟨by decide, by decide⟩))
        | (rcases gB.1 t.toNat with z | z <;> (rw [e819, z]; exact ⟨by decide, by decide⟩))
        | (rcases gB.2 (256 * s + t).toNat with z | z <;> (rw [e818, z]; exact ⟨by decide, by decide⟩))
        | (rcases h2 with z | z <;> (rw [z.1]; exact ⟨by decide, by decide⟩))
        | (rcases h1.2.2 with z | z <;> (rw [z.1]; exact ⟨by decide, by decide⟩))
        | (rcases h3.2.2.1 s.toNat (by omega) with z | z <;> (rw [z.1]; exact ⟨by decide, by decide⟩))
        | (rcases gB.1 s.toNat with z | z <;> (rw [h3.2.1 _ (by omega), z]; exact ⟨by decide, by decide⟩))
        | (rcases han with z | z <;> (rw [z.1]; first | exact Or.inl rfl | exact Or.inr rfl))) ?_
    refine ⟨?_, ?_⟩
    · intro c87
      have hf := lv_2.fin hs0.1 gB h2 (by first | (exact Or.inl (by assumption)) | (exact Or.inr (Or.inl (by rw [← e819]; assumption))) | (exact Or.inr (Or.inr (by assumption))))
      refine ⟨_, ?_, rfl, ⟨by omega, by omega⟩, h1.next hs0.1 hf ?_⟩
      · omega
      · first
          | (rw [if_pos (Or.inl (by assumption))]; done)
          | (rw [if_pos (Or.inr (by assumption))]; done)
          | (rw [if_neg (by omega)]; done)
    · intro c87
      refine And.intro (by
        first
          | omega
          | exact ⟨by omega, by omega⟩
          | exact ⟨⟨by omega, by omega⟩, by omega, by omega⟩
          | (rcases gB.1 s.toNat with z | z <;> (rw [e819, z]; exact ⟨by decide, by decide⟩))
          | (rcases gB.1 t.toNat with z | z <;> (rw [e819, z]; exact ⟨by decide, by decide⟩))
          | (rcases gB.2 (256 * s + t).toNat with z | z <;> (rw [e818, z]; exact ⟨by decide, by decide⟩))
          | (rcases h2 with z | z <;> (rw [z.1]; exact ⟨by decide, by decide⟩))
          | (rcases h1.2.2 with z | z <;> (rw [z.1]; exact ⟨by decide, by decide⟩))
          | (rcases h3.2.2.1 s.toNat (by omega) with z | z <;> (rw [z.1]; exact ⟨by decide, by decide⟩))
          | (rcases gB.1 s.toNat with z | z <;> (rw [h3.2.1 _ (by omega), z]; exact ⟨by decide, by decide⟩))
          | (rcases han with z | z <;> (rw [z.1]; first | exact Or.inl rfl | exact Or.inr rfl))) ?_
      refine And.intro (by
        first
          | omega
          | exact ⟨by omega, by omega⟩
          | exact ⟨⟨by omega, by omega⟩, by omega, by omega⟩
          | (rcases gB.1 s.toNat with z | z <;> (rw [e819, z]; exact ⟨by decide, by decide⟩))
          | (rcases gB.1 t.toNat with z | z <;> (rw [e819, z]; exact ⟨by decide, by decide⟩))
          | (rcases gB.2 (256 * s + t).toNat with z | z <;> (rw [e818, z]; exact ⟨by decide, by decide⟩))
          | (rcases h2 with z | z <;> (rw [z.1]; exact ⟨by decide, by decide⟩))
          | (rcases h1.2.2 with z | z <;> (rw [z.1]; exact ⟨by decide, by decide⟩))
          | (rcases h3.2.2.1 s.toNat (by omega) with z | z <;> (rw [z.1]; exact ⟨by decide, by decide⟩))
          | (rcases gB.1 s.toNat with z | z <;> (rw [h3.2.1 _ (by omega), z]; exact ⟨by decide, by decide⟩))
          | (rcases han with z | z <;> (rw [z.1]; first | exact Or.inl rfl | exact Or.inr rfl))) ?_
      refine ⟨?_, ?_⟩
      · intro c96
        have hf := lv_2.fin hs0.1 gB h2 (by first | (exact Or.inl (by assumption)) | (exact Or.inr (Or.inl (by rw [← e819]; assumption))) | (exact Or.inr (Or.inr (by assumption))))
        refine ⟨_, ?_, rfl, ⟨by omega, by omega⟩, h1.next hs0.1 hf ?_⟩
        · omega
        · first
            | (rw [if_pos (Or.inl (by assumption))]; done)
            | (rw [if_pos (Or.inr (by assumption))]; done)
            | (rw [if_neg (by omega)]; done)
      · intro c96
        have hf := lv_2.fin hs0.1 gB h2 (by first | (exact Or.inl (by assumption)) | (exact Or.inr (Or.inl (by rw [← e819]; assumption))) | (exact Or.inr (Or.inr (by assumption))))
        refine ⟨_, ?_, rfl, ⟨by omega, by omega⟩, h1.next hs0.1 hf ?_⟩
        · omega
        · first
            | (rw [if_pos (Or.inl (by assumption))]; done)
            | (rw [if_pos (Or.inr (by assumption))]; done)
            | (rw [if_neg (by omega)]; done)
  · intro c24
    refine And.intro (by
      first
        | omega
        | exact ⟨by omega, by omega⟩
        | exact ⟨⟨by omega, by omega⟩, by omega, by omega⟩
        | (rcases gB.1 s.toNat with z | z <;> (rw [e819, z]; exact ⟨by decide, by decide⟩))
        | (rcases gB.1 t.toNat with z | z <;> (rw [e819, z]; exact ⟨by decide, by decide⟩))
        | (rcases gB.2 (256 * s + t).toNat with z | z <;> (rw [e818, z]; exact ⟨by decide, by decide⟩))
        | (rcases h2 with z | z <;> (rw [z.1]; exact ⟨by decide, by decide⟩))
        | (rcases h1.2.2 with z | z <;> (rw [z.1]; exact ⟨by decide, by decide⟩))
        | (rcases h3.2.2.1 s.toNat (by omega) with z | z <;> (rw [z.1]; exact ⟨by decide, by decide⟩))
        | (rcases gB.1 s.toNat with z | z <;> (rw [h3.2.1 _ (by omega), z]; exact ⟨by decide, by decide⟩))
        | (rcases han with z | z <;> (rw [z.1]; first | exact Or.inl rfl | exact Or.inr rfl))) ?_
    refine And.intro (by
      first
        | omega
        | exact ⟨by omega, by omega⟩
        | exact ⟨⟨by omega, by omega⟩, by omega, by omega⟩
        | (rcases gB.1 s.toNat with z | z <;> (rw [e819, z]; exact ⟨by decide, by decide⟩))
        | (rcases gB.1 t.toNat with z | z <;> (rw [e819, z]; exact ⟨by decide, by decide⟩))
        | (rcases gB.2 (256 * s + t).toNat with z | z <;> (rw [e818, z]; exact ⟨by decide, by decide⟩))
        | (rcases h2 with z | z <;> (rw [z.1]; exact ⟨by decide, by decide⟩))
        | (rcases h1.2.2 with z | z <;> (rw [z.1]; exact ⟨by decide, by decide⟩))
        | (rcases h3.2.2.1 s.toNat (by omega) with z | z <;> (rw [z.1]; exact ⟨by decide, by decide⟩))
        | (rcases gB.1 s.toNat with z | z <;> (rw [h3.2.1 _ (by omega), z]; exact ⟨by decide, by decide⟩))
        | (rcases han with z | z <;> (rw [z.1]; first | exact Or.inl rfl | exact Or.inr rfl))) ?_
    refine ⟨?_, ?_⟩
    · intro c33
      refine And.intro (by
        first
          | omega
          | exact ⟨by omega, by omega⟩
          | exact ⟨⟨by omega, by omega⟩, by omega, by omega⟩
          | (rcases gB.1 s.toNat with z | z <;> (rw [e819, z]; exact ⟨by decide, by decide⟩))
          | (rcases gB.1 t.toNat with z | z <;> (rw [e819, z]; exact ⟨by decide, by decide⟩))
          | (rcases gB.2 (256 * s + t).toNat with z | z <;> (rw [e818, z]; exact ⟨by decide, by decide⟩))
          | (rcases h2 with z | z <;> (rw [z.1]; exact ⟨by decide, by decide⟩))
          | (rcases h1.2.2 with z | z <;> (rw [z.1]; exact ⟨by decide, by decide⟩))
          | (rcases h3.2.2.1 s.toNat (by omega) with z | z <;> (rw [z.1]; exact ⟨by decide, by decide⟩))
          | (rcases gB.1 s.toNat with z | z <;> (rw [h3.2.1 _ (by omega), z]; exact ⟨by decide, by decide⟩))
          | (rcases han with z | z <;> (rw [z.1]; first | exact Or.inl rfl | exact Or.inr rfl))) ?_
      refine ⟨?_, ?_⟩
      · intro c87
        have hf := lv_2.fin hs0.1 gB h2 (by first | (exact Or.inl (by assumption)) | (exact Or.inr (Or.inl (by rw [← e819]; assumption))) | (exact Or.inr (Or.inr (by assumption))))
        refine ⟨_, ?_, rfl, ⟨by omega, by omega⟩, h1.next hs0.1 hf ?_⟩
        · omega
        · first
            | (rw [if_pos (Or.inl (by assumption))]; done)
            | (rw [if_pos (Or.inr (by assumption))]; done)
            | (rw [if_neg (by omega)]; done)
      · intro c87
        refine And.intro (by
          first
            | omega
            | exact ⟨by omega, by omega⟩
            | exact ⟨⟨by omega, by omega⟩, by omega, by omega⟩
            | (rcases gB.1 s.toNat with z | z <;> (rw [e819, z]; exact ⟨by decide, by decide⟩))
            | (rcases gB.1 t.toNat with z | z <;> (rw [e819, z]; exact ⟨by decide, by decide⟩))
            | (rcases gB.2 (256 * s + t).toNat with z | z <;> (rw [e818, z]; exact ⟨by decide, by decide⟩))
            | (rcases h2 with z | z <;> (rw [z.1]; exact ⟨by decide, by decide⟩))
            | (rcases h1.2.2 with z | z <;> (rw [z.1]; exact ⟨by decide, by decide⟩))
            | (rcases h3.2.2.1 s.toNat (by omega) with z | z <;> (rw [z.1]; exact ⟨by decide, by decide⟩))
            | (rcases gB.1 s.toNat with z | z <;> (rw [h3.2.1 _ (by omega), z]; exact ⟨by decide, by decide⟩))
            | (rcases han with z | z <;> (rw [z.1]; first | exact Or.inl rfl | exact Or.inr rfl))) ?_
        refine And.intro (by
          first
            | omega
            | exact ⟨by omega, by omega⟩
            | exact ⟨⟨by omega, by omega⟩, by omega, by omega⟩
            | (rcases gB.1 s.toNat with z | z <;> (rw [e819, z]; exact ⟨by decide, by decide⟩))
            | (rcases gB.1 t.toNat with z | z <;> (rw [e819, z]; exact ⟨by decide, by decide⟩))
            | (rcases gB.2 (256 * s + t).toNat with z | z <;> (rw [e818, z]; exact ⟨by decide, by decide⟩))
            | (rcases h2 with z | z <;> (rw [z.1]; exact ⟨by decide, by decide⟩))
            | (rcases h1.2.2 with z | z <;> (rw [z.1]; exact ⟨by decide, by decide⟩))
            | (rcases h3.2.2.1 s.toNat (by omega) with z | z <;> (rw [z.1]; exact ⟨by decide, by decide⟩))
            | (rcases gB.1 s.toNat with z | z <;> (rw [h3.2.1 _ (by omega), z]; exact ⟨by decide, by decide⟩))
            | (rcases han with z | z <;> (rw [z.1]; first | exact Or.inl rfl | exact Or.inr rfl))) ?_
        refine ⟨?_, ?_⟩
        · intro c96
          have hf := lv_2.fin hs0.1 gB h2 (by first | (exact Or.inl (by assumption)) | (exact Or.inr (Or.inl (by rw [← e819]; assumption))) | (exact Or.inr (Or.inr (by assumption))))
          refine ⟨_, ?_, rfl, ⟨by omega, by omega⟩, h1.next hs0.1 hf ?_⟩
          · omega
          · first
              | (rw [if_pos (Or.inl (by assumption))]; done)
              | (rw [if_pos (Or.inr (by assumption))]; done)
              | (rw [if_neg (by omega)]; done)
        · intro c96
          have hf := lv_2.fin hs0.1 gB h2 (by first | (exact Or.inl (by assumption)) | (exact Or.inr (Or.inl (by rw [← e819]; assumption))) | (exact Or.inr (Or.inr (by assumption))))
          refine ⟨_, ?_, rfl, ⟨by omega, by omega⟩, h1.next hs0.1 hf ?_⟩
          · omega
          · first
              | (rw [if_pos (Or.inl (by assumption))]; done)
              | (rw [if_pos (Or.inr (by assumption))]; done)
              | (rw [if_neg (by omega)]; done)
    · intro c33
      refine And.intro (by
        first
          | omega
          | exact ⟨by omega, by omega⟩
          | exact ⟨⟨by omega, by omega⟩, by omega, by omega⟩
          | (rcases gB.1 s.toNat with z | z <;> (rw [e819, z]; exact ⟨by decide, by decide⟩))
          | (rcases gB.1 t.toNat with z | z <;> (rw [e819, z]; exact ⟨by decide, by decide⟩))
          | (rcases gB.2 (256 * s + t).toNat with z | z <;> (rw [e818, z]; exact ⟨by decide, by decide⟩))
          | (rcases h2 with z | z <;> (rw [z.1]; exact ⟨by decide, by decide⟩))
          | (rcases h1.2.2 with z | z <;> (rw [z.1]; exact ⟨by decide, by decide⟩))
          | (rcases h3.2.2.1 s.toNat (by omega) with z | z <;> (rw [z.1]; exact ⟨by decide, by decide⟩))
          | (rcases gB.1 s.toNat with z | z <;> (rw [h3.2.1 _ (by omega), z]; exact ⟨by decide, by decide⟩))
          | (rcases han with z | z <;> (rw [z.1]; first | exact Or.inl rfl | exact Or.inr rfl))) ?_
      refine And.intro (by
        first
          | omega
          | exact ⟨by omega, by omega⟩
          | exact ⟨⟨by omega, by omega⟩, by omega, by omega⟩
          | (rcases gB.1 s.toNat with z | z <;> (rw [e819, z]; exact ⟨by decide, by decide⟩))
          | (rcases gB.1 t.toNat with z | z <;> (rw [e819, z]; exact ⟨by decide, by decide⟩))
          | (rcases gB.2 (256 * s + t).toNat with z | z <;> (rw [e818, z]; exact ⟨by decide, by decide⟩))
          | (rcases h2 with z | z <;> (rw [z.1]; exact ⟨by decide, by decide⟩))
          | (rcases h1.2.2 with z | z <;> (rw [z.1]; exact ⟨by decide, by decide⟩))
          | (rcases h3.2.2.1 s.toNat (by omega) with z | z <;> (rw [z.1]; exact ⟨by decide, by decide⟩))
          | (rcases gB.1 s.toNat with z | z <;> (rw [h3.2.1 _ (by omega), z]; exact ⟨by decide, by decide⟩))
          | (rcases han with z | z <;> (rw [z.1]; first | exact Or.inl rfl | exact Or.inr rfl))) ?_
      refine ⟨?_, ?_⟩
      · intro c42
        refine And.intro (by
          first
            | omega
            | exact ⟨by omega, by omega⟩
            | exact ⟨⟨by omega, by omega⟩, by omega, by omega⟩
            | (rcases gB.1 s.toNat with z | z <;> (rw [e819, z]; exact ⟨by decide, by decide⟩))
            | (rcases gB.1 t.toNat with z | z <;> (rw [e819, z]; exact ⟨by decide, by decide⟩))
            | (rcases gB.2 (256 * s + t).toNat with z | z <;> (rw [e818, z]; exact ⟨by decide, by decide⟩))
            | (rcases h2 with z | z <;> (rw [z.1]; exact ⟨by decide, by decide⟩))
            | (rcases h1.2.2 with z | z <;> (rw [z.1]; exact ⟨by decide, by decide⟩))
            | (rcases h3.2.2.1 s.toNat (by omega) with z | z <;> (rw [z.1]; exact ⟨by decide, by decide⟩))
            | (rcases gB.1 s.toNat with z | z <;> (rw [h3.2.1 _ (by omega), z]; exact ⟨by decide, by decide⟩))
            | (rcases han with z | z <;> (rw [z.1]; first | exact Or.inl rfl | exact Or.inr rfl))) ?_
        refine ⟨?_, ?_⟩
        · intro c87
          have hf := lv_2.fin hs0.1 gB h2 (by first | (exact Or.inl (by assumption)) | (exact Or.inr (Or.inl (by rw [← e819]; assumption))) | (exact Or.inr (Or.inr (by assumption))))
          refine ⟨_, ?_, rfl, ⟨by omega, by omega⟩, h1.next hs0.1 hf ?_⟩
          · omega
          · first
              | (rw [if_pos (Or.inl (by assumption))]; done)
              | (rw [if_pos (Or.inr (by assumption))]; done)
              | (rw [if_neg (by omega)]; done)
        · intro c87
          refine And.intro (by
            first
              | omega
              | exact ⟨by omega, by omega⟩
              | exact ⟨⟨by omega, by omega⟩, by omega, by omega⟩
              | (rcases gB.1 s.toNat with z | z <;> (rw [e819, z]; exact ⟨by decide, by decide⟩))
              | (rcases gB.1 t.toNat with z | z <;> (rw [e819, z]; exact ⟨by decide, by decide⟩))
              | (rcases gB.2 (256 * s + t).toNat with z | z <;> (rw [e818, z]; exact ⟨by decide, by decide⟩))
              | (rcases h2 with z | z <;> (rw [z.1]; exact ⟨by decide, by decide⟩))
              | (rcases h1.2.2 with z | z <;> (rw [z.1]; exact ⟨by decide, by decide⟩))
              | (rcases h3.2.2.1 s.toNat (by omega) with z | z <;> (rw [z.1]; exact ⟨by decide, by decide⟩))
              | (rcases gB.1 s.toNat with z | z <;> (rw [h3.2.1 _ (by omega), z]; exact ⟨by decide, by decide⟩))
              | (rcases han with z | z <;> (rw [z.1]; first | exact Or.inl rfl | exact Or.inr rfl))) ?_
          refine And.intro (by
            first
              | omega
              | exact ⟨by omega, by omega⟩
              | exact ⟨⟨by omega, by omega⟩, by omega, by omega⟩
              | (rcases gB.1 s.toNat with z | z <;> (rw [e819, z]; exact ⟨by decide, by decide⟩))
              | (rcases gB.1 t.toNat with z | z <;> (rw [e819, z]; exact ⟨by decide, by decide⟩))
              | (rcases gB.2 (256 * s + t).toNat with z | z <;> (rw [e818, z]; exact ⟨by decide, by decide⟩))
              | (rcases h2 with z | z <;> (rw [z.1]; exact ⟨by decide, by decide⟩))
              | (rcases h1.2.2 with z | z <;> (rw [z.1]; exact ⟨by decide, by decide⟩))
              | (rcases h3.2.2.1 s.toNat (by omega) with z | z <;> (rw [z.1]; exact ⟨by decide, by decide⟩))
              | (rcases gB.1 s.toNat with z | z <;> (rw [h3.2.1 _ (by omega), z]; exact ⟨by decide, by decide⟩))
              | (rcases han with z | z <;> (rw [z.1]; first | exact Or.inl rfl | exact Or.inr rfl))) ?_
          refine ⟨?_, ?_⟩
          · intro c96
            have hf := lv_2.fin hs0.1 gB h2 (by first | (exact Or.inl (by assumption)) | (exact Or.inr (Or.inl (by rw [← e819]; assumption))) | (exact Or.inr (Or.inr (by assumption))))
            refine ⟨_, ?_, rfl, ⟨by omega, by omega⟩, h1.next hs0.1 hf ?_⟩
            · omega
            · first
                | (rw [if_pos (Or.inl (by assumption))]; done)
                | (rw [if_pos (Or.inr (by assumption))]; done)
                | (rw [if_neg (by omega)]; done)
          · intro c96
            have hf := lv_2.fin hs0.1 gB h2 (by first | (exact Or.inl (by assumption)) | (exact Or.inr (Or.inl (by rw [← e819]; assumption))) | (exact Or.inr (Or.inr (by assumption))))
            refine ⟨_, ?_, rfl, ⟨by omega, by omega⟩, h1.next hs0.1 hf ?_⟩
            · omega
            · first
                | (rw [if_pos (Or.inl (by assumption))]; done)
                | (rw [if_pos (Or.inr (by assumption))]; done)
                | (rw [if_neg (by omega)]; done)
      · intro c42
        refine And.intro (by
          first
            | omega
            | exact ⟨by omega, by omega⟩
            | exact ⟨⟨by omega, by omega⟩, by omega, by omega⟩
            | (rcases gB.1 s.toNat with z | z <;> (rw [e819, z]; exact ⟨by decide, by decide⟩))
            | (rcases gB.1 t.toNat with z | z <;> (rw [e819, z]; exact ⟨by decide, by decide⟩))
            | (rcases gB.2 (256 * s + t).toNat with z | z <;> (rw [e818, z]; exact ⟨by decide, by decide⟩))
            | (rcases h2 with z | z <;> (rw [z.1]; exact ⟨by decide, by decide⟩))
            | (rcases h1.2.2 with z | z <;> (rw [z.1]; exact ⟨by decide, by decide⟩))
            | (rcases h3.2.2.1 s.toNat (by omega) with z | z <;> (rw [z.1]; exact ⟨by decide, by decide⟩))
            | (rcases gB.1 s.toNat with z | z <;> (rw [h3.2.1 _ (by omega), z]; exact ⟨by decide, by decide⟩))
            | (rcases han with z | z <;> (rw [z.1]; first | exact Or.inl rfl | exact Or.inr rfl))) ?_
        refine And.intro (by
          first
            | omega
            | exact ⟨by omega, by omega⟩
            | exact ⟨⟨by omega, by omega⟩, by omega, by omega⟩
            | (rcases gB.1 s.toNat with z | z <;> (rw [e819, z]; exact ⟨by decide, by decide⟩))
            | (rcases gB.1 t.toNat with z | z <;> (rw [e819, z]; exact ⟨by decide, by decide⟩))
            | (rcases gB.2 (256 * s + t).toNat with z | z <;> (rw [e818, z]; exact ⟨by decide, by decide⟩))
            | (rcases h2 with z | z <;> (rw [z.1]; exact ⟨by decide, by decide⟩))
            | (rcases h1.2.2 with z | z <;> (rw [z.1]; exact ⟨by decide, by decide⟩))
            | (rcases h3.2.2.1 s.toNat (by omega) with z | z <;> (rw [z.1]; exact ⟨by decide, by decide⟩))
            | (rcases gB.1 s.toNat with z | z <;> (rw [h3.2.1 _ (by omega), z]; exact ⟨by decide, by decide⟩))
            | (rcases han with z | z <;> (rw [z.1]; first | exact Or.inl rfl | exact Or.inr rfl))) ?_
        refine And.intro (by
          first
            | omega
            | exact ⟨by omega, by omega⟩
            | exact ⟨⟨by omega, by omega⟩, by omega, by omega⟩
            | (rcases gB.1 s.toNat with z | z <;> (rw [e819, z]; exact ⟨by decide, by decide⟩))
            | (rcases gB.1 t.toNat with z | z <;> (rw [e819, z]; exact ⟨by decide, by decide⟩))
            | (rcases gB.2 (256 * s + t).toNat with z | z <;> (rw [e818, z]; exact ⟨by decide, by decide⟩))
            | (rcases h2 with z | z <;> (rw [z.1]; exact ⟨by decide, by decide⟩))
            | (rcases h1.2.2 with z | z <;> (rw [z.1]; exact ⟨by decide, by decide⟩))
            | (rcases h3.2.2.1 s.toNat (by omega) with z | z <;> (rw [z.1]; exact ⟨by decide, by decide⟩))
            | (rcases gB.1 s.toNat with z | z <;> (rw [h3.2.1 _ (by omega), z]; exact ⟨by decide, by decide⟩))
            | (rcases han with z | z <;> (rw [z.1]; first | exact Or.inl rfl | exact Or.inr rfl))) ?_
        refine ⟨?_, ?_⟩
        · intro c62
          refine And.intro (by
            first
              | omega
              | exact ⟨by omega, by omega⟩
              | exact ⟨⟨by omega, by omega⟩, by omega, by omega⟩
              | (rcases gB.1 s.toNat with z | z <;> (rw [e819, z]; exact ⟨by decide, by decide⟩))
              | (rcases gB.1 t.toNat with z | z <;> (rw [e819, z]; exact ⟨by decide, by decide⟩))
              | (rcases gB.2 (256 * s + t).toNat with z | z <;> (rw [e818, z]; exact ⟨by decide, by decide⟩))
              | (rcases h2 with z | z <;> (rw [z.1]; exact ⟨by decide, by decide⟩))
              | (rcases h1.2.2 with z | z <;> (rw [z.1]; exact ⟨by decide, by decide⟩))
              | (rcases h3.2.2.1 s.toNat (by omega) with z | z <;> (rw [z.1]; exact ⟨by decide, by decide⟩))
              | (rcases gB.1 s.toNat with z | z <;> (rw [h3.2.1 _ (by omega), z]; exact ⟨by decide, by decide⟩))
              | (rcases han with z | z <;> (rw [z.1]; first | exact Or.inl rfl | exact Or.inr rfl))) ?_
          refine ⟨_, ?_, rfl, hs0, ⟨by omega, by omega⟩, h1.up hs0.1 _, h2.next ⟨hs0, ht.1, by omega⟩ gB (by assumption) (by rw [← e819]; assumption) ?_⟩
          · omega
          · rw [← e818, ← e819]
            first
              | (rw [if_pos ⟨by assumption, by assumption⟩]; done)
              | (rw [if_neg (by omega)]; done)
        · intro c62
          refine And.intro (by
            first
              | omega
              | exact ⟨by omega, by omega⟩
              | exact ⟨⟨by omega, by omega⟩, by omega, by omega⟩
              | (rcases gB.1 s.toNat with z | z <;> (rw [e819, z]; exact ⟨by decide, by decide⟩))
              | (rcases gB.1 t.toNat with z | z <;> (rw [e819, z]; exact ⟨by decide, by decide⟩))
              | (rcases gB.2 (256 * s + t).toNat with z | z <;> (rw [e818, z]; exact ⟨by decide, by decide⟩))
              | (rcases h2 with z | z <;> (rw [z.1]; exact ⟨by decide, by decide⟩))
              | (rcases h1.2.2 with z | z <;> (rw [z.1]; exact ⟨by decide, by decide⟩))
              | (rcases h3.2.2.1 s.toNat (by omega) with z | z <;> (rw [z.1]; exact ⟨by decide, by decide⟩))
              | (rcases gB.1 s.toNat with z | z <;> (rw [h3.2.1 _ (by omega), z]; exact ⟨by decide, by decide⟩))
              | (rcases han with z | z <;> (rw [z.1]; first | exact Or.inl rfl | exact Or.inr rfl))) ?_
          refine And.intro (by
            first
              | omega
              | exact ⟨by omega, by omega⟩
              | exact ⟨⟨by omega, by omega⟩, by omega, by omega⟩
              | (rcases gB.1 s.toNat with z | z <;> (rw [e819, z]; exact ⟨by decide, by decide⟩))
              | (rcases gB.1 t.toNat with z | z <;> (rw [e819, z]; exact ⟨by decide, by decide⟩))
              | (rcases gB.2 (256 * s + t).toNat with z | z <;> (rw [e818, z]; exact ⟨by decide, by decide⟩))
              | (rcases h2 with z | z <;> (rw [z.1]; exact ⟨by decide, by decide⟩))
              | (rcases h1.2.2 with z | z <;> (rw [z.1]; exact ⟨by decide, by decide⟩))
              | (rcases h3.2.2.1 s.toNat (by omega) with z | z <;> (rw [z.1]; exact ⟨by decide, by decide⟩))
              | (rcases gB.1 s.toNat with z | z <;> (rw [h3.2.1 _ (by omega), z]; exact ⟨by decide, by decide⟩))
              | (rcases han with z | z <;> (rw [z.1]; first | exact Or.inl rfl | exact Or.inr rfl))) ?_
          refine ⟨?_, ?_⟩
          · intro c71
            refine And.intro (by
              first
                | omega
                | exact ⟨by omega, by omega⟩
                | exact ⟨⟨by omega, by omega⟩, by omega, by omega⟩
                | (rcases gB.1 s.toNat with z | z <;> (rw [e819, z]; exact ⟨by decide, by decide⟩))
                | (rcases gB.1 t.toNat with z | z <;> (rw [e819, z]; exact ⟨by decide, by decide⟩))
                | (rcases gB.2 (256 * s + t).toNat with z | z <;> (rw [e818, z]; exact ⟨by decide, by decide⟩))
                | (rcases h2 with z | z <;> (rw [z.1]; exact ⟨by decide, by decide⟩))
                | (rcases h1.2.2 with z | z <;> (rw [z.1]; exact ⟨by decide, by decide⟩))
                | (rcases h3.2.2.1 s.toNat (by omega) with z | z <;> (rw [z.1]; exact ⟨by decide, by decide⟩))
                | (rcases gB.1 s.toNat with z | z <;> (rw [h3.2.1 _ (by omega), z]; exact ⟨by decide, by decide⟩))
                | (rcases han with z | z <;> (rw [z.1]; first | exact Or.inl rfl | exact Or.inr rfl))) ?_
            refine ⟨_, ?_, rfl, hs0, ⟨by omega, by omega⟩, h1.up hs0.1 _, h2.next ⟨hs0, ht.1, by omega⟩ gB (by assumption) (by rw [← e819]; assumption) ?_⟩
            · omega
            · rw [← e818, ← e819]
              first
                | (rw [if_pos ⟨by assumption, by assumption⟩]; done)
                | (rw [if_neg (by omega)]; done)
          · intro c71
            refine And.intro (by
              first
                | omega
                | exact ⟨by omega, by omega⟩
                | exact ⟨⟨by omega, by omega⟩, by omega, by omega⟩
                | (rcases gB.1 s.toNat with z | z <;> (rw [e819, z]; exact ⟨by decide, by decide⟩))
                | (rcases gB.1 t.toNat with z | z <;> (rw [e819, z]; exact ⟨by decide, by decide⟩))
                | (rcases gB.2 (256 * s + t).toNat with z | z <;> (rw [e818, z]; exact ⟨by decide, by decide⟩))
                | (rcases h2 with z | z <;> (rw [z.1]; exact ⟨by decide, by decide⟩))
                | (rcases h1.2.2 with z | z <;> (rw [z.1]; exact ⟨by decide, by decide⟩))
                | (rcases h3.2.2.1 s.toNat (by omega) with z | z <;> (rw [z.1]; exact ⟨by decide, by decide⟩))
                | (rcases gB.1 s.toNat with z | z <;> (rw [h3.2.1 _ (by omega), z]; exact ⟨by decide, by decide⟩))
                | (rcases han with z | z <;> (rw [z.1]; first | exact Or.inl rfl | exact Or.inr rfl))) ?_
            refine ⟨_, ?_, rfl, hs0, ⟨by omega, by omega⟩, h1.up hs0.1 _, h2.next ⟨hs0, ht.1, by omega⟩ gB (by assumption) (by rw [← e819]; assumption) ?_⟩
            · omega
            · rw [← e818, ← e819]
              first
                | (rw [if_pos ⟨by assumption, by assumption⟩]; done)
                | (rw [if_neg (by omega)]; done)

set_option maxRecDepth 20000 in
theorem vc_X9_leaveOut_113  (M : ab_M) (K : List ab_V → ab_M → Prop) (hS : (lv_B M) ∧ (∀ rx : Int, ∀ Mx : ab_M, (lv_P M Mx rx) → K [Xi rx] Mx)) (n : Nat) (an : Int) (s : Int) (M1 : ab_M) (hI : n = (256 - s).toNat ∧ (0 ≤ s ∧ s ≤ 256) ∧ lv_3 M M1 s ∧ ((an = 1 ∧ ∃ x : Nat, x < 256 ∧ lv_l M x) ∨ (an = 0 ∧ ∀ x : Nat, x < 256 → ¬ lv_l M x))) : (-32768 ≤ (256 : Int) ∧ (256 : Int) < 32768) ∧ (ab_ir s ∧ ab_ir (256 : Int)) ∧ (((256 : Int) ≤ s → (an = 0 ∨ an = 1) ∧ K [Xi an] M1) ∧ (s < (256 : Int) → (0 ≤ s ∧ s < ((256 : Nat) : Int)) ∧ (ab_ir (M1 832 s.toNat)) ∧ (((M1 832 s.toNat) = 0 → ((0 ≤ s ∧ s < ((256 : Nat) : Int)) ∧ ((0 : Int) = 0 ∨ (0 : Int) = 1)) ∧ (∃ n', n' < n ∧ ((n' = (256 - (s + 1)).toNat ∧ (0 ≤ (s + 1) ∧ (s + 1) ≤ 256) ∧ lv_3 M (ab_up M1 832 s.toNat (0 : Int)) (s + 1) ∧ ((an = 1 ∧ ∃ x : Nat, x < 256 ∧ lv_l M x) ∨ (an = 0 ∧ ∀ x : Nat, x < 256 → ¬ lv_l M x)))))) ∧ (¬ (M1 832 s.toNat) = 0 → (0 ≤ s ∧ s < ((256 : Nat) : Int)) ∧ (ab_ir (M1 833 s.toNat)) ∧ ((¬ (M1 833 s.toNat) = 0 → ((0 ≤ s ∧ s < ((256 : Nat) : Int)) ∧ ((0 : Int) = 0 ∨ (0 : Int) = 1)) ∧ (∃ n', n' < n ∧ ((n' = (256 - (s + 1)).toNat ∧ (0 ≤ (s + 1) ∧ (s + 1) ≤ 256) ∧ lv_3 M (ab_up M1 832 s.toNat (0 : Int)) (s + 1) ∧ ((an = 1 ∧ ∃ x : Nat, x < 256 ∧ lv_l M x) ∨ (an = 0 ∧ ∀ x : Nat, x < 256 → ¬ lv_l M x)))))) ∧ ((M1 833 s.toNat) = 0 → ((0 ≤ s ∧ s < ((256 : Nat) : Int)) ∧ ((1 : Int) = 0 ∨ (1 : Int) = 1)) ∧ (∃ n', n' < n ∧ ((n' = (256 - (s + 1)).toNat ∧ (0 ≤ (s + 1) ∧ (s + 1) ≤ 256) ∧ lv_3 M (ab_up M1 832 s.toNat (1 : Int)) (s + 1) ∧ ((an = 1 ∧ ∃ x : Nat, x < 256 ∧ lv_l M x) ∨ (an = 0 ∧ ∀ x : Nat, x < 256 → ¬ lv_l M x))))))))))) := by
  obtain ⟨gB, gK⟩ := hS
  obtain ⟨hn, hs0, h3, han⟩ := hI
  refine And.intro (by
    first
      | omega
      | exact ⟨by omega, by omega⟩
      | exact ⟨⟨by omega, by omega⟩, by omega, by omega⟩
      | (rcases gB.1 s.toNat with z | z <;> (rw [e819, z]; exact ⟨by decide, by decide⟩))
      | (rcases gB.1 t.toNat with z | z <;> (rw [e819, z]; exact ⟨by decide, by decide⟩))
      | (rcases gB.2 (256 * s + t).toNat with z | z <;> (rw [e818, z]; exact ⟨by decide, by decide⟩))
      | (rcases h2 with z | z <;> (rw [z.1]; exact ⟨by decide, by decide⟩))
      | (rcases h1.2.2 with z | z <;> (rw [z.1]; exact ⟨by decide, by decide⟩))
      | (rcases h3.2.2.1 s.toNat (by omega) with z | z <;> (rw [z.1]; exact ⟨by decide, by decide⟩))
      | (rcases gB.1 s.toNat with z | z <;> (rw [h3.2.1 _ (by omega), z]; exact ⟨by decide, by decide⟩))
      | (rcases han with z | z <;> (rw [z.1]; first | exact Or.inl rfl | exact Or.inr rfl))) ?_
  refine And.intro (by
    first
      | omega
      | exact ⟨by omega, by omega⟩
      | exact ⟨⟨by omega, by omega⟩, by omega, by omega⟩
      | (rcases gB.1 s.toNat with z | z <;> (rw [e819, z]; exact ⟨by decide, by decide⟩))
      | (rcases gB.1 t.toNat with z | z <;> (rw [e819, z]; exact ⟨by decide, by decide⟩))
      | (rcases gB.2 (256 * s + t).toNat with z | z <;> (rw [e818, z]; exact ⟨by decide, by decide⟩))
      | (rcases h2 with z | z <;> (rw [z.1]; exact ⟨by decide, by decide⟩))
      | (rcases h1.2.2 with z | z <;> (rw [z.1]; exact ⟨by decide, by decide⟩))
      | (rcases h3.2.2.1 s.toNat (by omega) with z | z <;> (rw [z.1]; exact ⟨by decide, by decide⟩))
      | (rcases gB.1 s.toNat with z | z <;> (rw [h3.2.1 _ (by omega), z]; exact ⟨by decide, by decide⟩))
      | (rcases han with z | z <;> (rw [z.1]; first | exact Or.inl rfl | exact Or.inr rfl))) ?_
  refine ⟨?_, ?_⟩
  · intro c117
    refine And.intro (by
      first
        | omega
        | exact ⟨by omega, by omega⟩
        | exact ⟨⟨by omega, by omega⟩, by omega, by omega⟩
        | (rcases gB.1 s.toNat with z | z <;> (rw [e819, z]; exact ⟨by decide, by decide⟩))
        | (rcases gB.1 t.toNat with z | z <;> (rw [e819, z]; exact ⟨by decide, by decide⟩))
        | (rcases gB.2 (256 * s + t).toNat with z | z <;> (rw [e818, z]; exact ⟨by decide, by decide⟩))
        | (rcases h2 with z | z <;> (rw [z.1]; exact ⟨by decide, by decide⟩))
        | (rcases h1.2.2 with z | z <;> (rw [z.1]; exact ⟨by decide, by decide⟩))
        | (rcases h3.2.2.1 s.toNat (by omega) with z | z <;> (rw [z.1]; exact ⟨by decide, by decide⟩))
        | (rcases gB.1 s.toNat with z | z <;> (rw [h3.2.1 _ (by omega), z]; exact ⟨by decide, by decide⟩))
        | (rcases han with z | z <;> (rw [z.1]; first | exact Or.inl rfl | exact Or.inr rfl))) ?_
    refine gK _ _ ⟨h3.1, fun k hk => h3.2.1 k (by omega), fun x hx => h3.2.2.2 x (by omega), han⟩
  · intro c117
    refine And.intro (by
      first
        | omega
        | exact ⟨by omega, by omega⟩
        | exact ⟨⟨by omega, by omega⟩, by omega, by omega⟩
        | (rcases gB.1 s.toNat with z | z <;> (rw [e819, z]; exact ⟨by decide, by decide⟩))
        | (rcases gB.1 t.toNat with z | z <;> (rw [e819, z]; exact ⟨by decide, by decide⟩))
        | (rcases gB.2 (256 * s + t).toNat with z | z <;> (rw [e818, z]; exact ⟨by decide, by decide⟩))
        | (rcases h2 with z | z <;> (rw [z.1]; exact ⟨by decide, by decide⟩))
        | (rcases h1.2.2 with z | z <;> (rw [z.1]; exact ⟨by decide, by decide⟩))
        | (rcases h3.2.2.1 s.toNat (by omega) with z | z <;> (rw [z.1]; exact ⟨by decide, by decide⟩))
        | (rcases gB.1 s.toNat with z | z <;> (rw [h3.2.1 _ (by omega), z]; exact ⟨by decide, by decide⟩))
        | (rcases han with z | z <;> (rw [z.1]; first | exact Or.inl rfl | exact Or.inr rfl))) ?_
    refine And.intro (by
      first
        | omega
        | exact ⟨by omega, by omega⟩
        | exact ⟨⟨by omega, by omega⟩, by omega, by omega⟩
        | (rcases gB.1 s.toNat with z | z <;> (rw [e819, z]; exact ⟨by decide, by decide⟩))
        | (rcases gB.1 t.toNat with z | z <;> (rw [e819, z]; exact ⟨by decide, by decide⟩))
        | (rcases gB.2 (256 * s + t).toNat with z | z <;> (rw [e818, z]; exact ⟨by decide, by decide⟩))
        | (rcases h2 with z | z <;> (rw [z.1]; exact ⟨by decide, by decide⟩))
        | (rcases h1.2.2 with z | z <;> (rw [z.1]; exact ⟨by decide, by decide⟩))
        | (rcases h3.2.2.1 s.toNat (by omega) with z | z <;> (rw [z.1]; exact ⟨by decide, by decide⟩))
        | (rcases gB.1 s.toNat with z | z <;> (rw [h3.2.1 _ (by omega), z]; exact ⟨by decide, by decide⟩))
        | (rcases han with z | z <;> (rw [z.1]; first | exact Or.inl rfl | exact Or.inr rfl))) ?_
    refine ⟨?_, ?_⟩
    · intro c131
      refine And.intro (by
        first
          | omega
          | exact ⟨by omega, by omega⟩
          | exact ⟨⟨by omega, by omega⟩, by omega, by omega⟩
          | (rcases gB.1 s.toNat with z | z <;> (rw [e819, z]; exact ⟨by decide, by decide⟩))
          | (rcases gB.1 t.toNat with z | z <;> (rw [e819, z]; exact ⟨by decide, by decide⟩))
          | (rcases gB.2 (256 * s + t).toNat with z | z <;> (rw [e818, z]; exact ⟨by decide, by decide⟩))
          | (rcases h2 with z | z <;> (rw [z.1]; exact ⟨by decide, by decide⟩))
          | (rcases h1.2.2 with z | z <;> (rw [z.1]; exact ⟨by decide, by decide⟩))
          | (rcases h3.2.2.1 s.toNat (by omega) with z | z <;> (rw [z.1]; exact ⟨by decide, by decide⟩))
          | (rcases gB.1 s.toNat with z | z <;> (rw [h3.2.1 _ (by omega), z]; exact ⟨by decide, by decide⟩))
          | (rcases han with z | z <;> (rw [z.1]; first | exact Or.inl rfl | exact Or.inr rfl))) ?_
      refine ⟨_, ?_, rfl, ⟨by omega, by omega⟩, h3.next ⟨hs0.1, by omega⟩ gB ?_, han⟩
      · clear han h3; omega
      · first
          | (rw [if_pos ⟨by assumption, by assumption⟩]; done)
          | (rw [if_neg (by omega)]; done)
    · intro c131
      refine And.intro (by
        first
          | omega
          | exact ⟨by omega, by omega⟩
          | exact ⟨⟨by omega, by omega⟩, by omega, by omega⟩
          | (rcases gB.1 s.toNat with z | z <;> (rw [e819, z]; exact ⟨by decide, by decide⟩))
          | (rcases gB.1 t.toNat with z | z <;> (rw [e819, z]; exact ⟨by decide, by decide⟩))
          | (rcases gB.2 (256 * s + t).toNat with z | z <;> (rw [e818, z]; exact ⟨by decide, by decide⟩))
          | (rcases h2 with z | z <;> (rw [z.1]; exact ⟨by decide, by decide⟩))
          | (rcases h1.2.2 with z | z <;> (rw [z.1]; exact ⟨by decide, by decide⟩))
          | (rcases h3.2.2.1 s.toNat (by omega) with z | z <;> (rw [z.1]; exact ⟨by decide, by decide⟩))
          | (rcases gB.1 s.toNat with z | z <;> (rw [h3.2.1 _ (by omega), z]; exact ⟨by decide, by decide⟩))
          | (rcases han with z | z <;> (rw [z.1]; first | exact Or.inl rfl | exact Or.inr rfl))) ?_
      refine And.intro (by
        first
          | omega
          | exact ⟨by omega, by omega⟩
          | exact ⟨⟨by omega, by omega⟩, by omega, by omega⟩
          | (rcases gB.1 s.toNat with z | z <;> (rw [e819, z]; exact ⟨by decide, by decide⟩))
          | (rcases gB.1 t.toNat with z | z <;> (rw [e819, z]; exact ⟨by decide, by decide⟩))
          | (rcases gB.2 (256 * s + t).toNat with z | z <;> (rw [e818, z]; exact ⟨by decide, by decide⟩))
          | (rcases h2 with z | z <;> (rw [z.1]; exact ⟨by decide, by decide⟩))
          | (rcases h1.2.2 with z | z <;> (rw [z.1]; exact ⟨by decide, by decide⟩))
          | (rcases h3.2.2.1 s.toNat (by omega) with z | z <;> (rw [z.1]; exact ⟨by decide, by decide⟩))
          | (rcases gB.1 s.toNat with z | z <;> (rw [h3.2.1 _ (by omega), z]; exact ⟨by decide, by decide⟩))
          | (rcases han with z | z <;> (rw [z.1]; first | exact Or.inl rfl | exact Or.inr rfl))) ?_
      refine ⟨?_, ?_⟩
      · intro c140
        refine And.intro (by
          first
            | omega
            | exact ⟨by omega, by omega⟩
            | exact ⟨⟨by omega, by omega⟩, by omega, by omega⟩
            | (rcases gB.1 s.toNat with z | z <;> (rw [e819, z]; exact ⟨by decide, by decide⟩))
            | (rcases gB.1 t.toNat with z | z <;> (rw [e819, z]; exact ⟨by decide, by decide⟩))
            | (rcases gB.2 (256 * s + t).toNat with z | z <;> (rw [e818, z]; exact ⟨by decide, by decide⟩))
            | (rcases h2 with z | z <;> (rw [z.1]; exact ⟨by decide, by decide⟩))
            | (rcases h1.2.2 with z | z <;> (rw [z.1]; exact ⟨by decide, by decide⟩))
            | (rcases h3.2.2.1 s.toNat (by omega) with z | z <;> (rw [z.1]; exact ⟨by decide, by decide⟩))
            | (rcases gB.1 s.toNat with z | z <;> (rw [h3.2.1 _ (by omega), z]; exact ⟨by decide, by decide⟩))
            | (rcases han with z | z <;> (rw [z.1]; first | exact Or.inl rfl | exact Or.inr rfl))) ?_
        refine ⟨_, ?_, rfl, ⟨by omega, by omega⟩, h3.next ⟨hs0.1, by omega⟩ gB ?_, han⟩
        · clear han h3; omega
        · first
            | (rw [if_pos ⟨by assumption, by assumption⟩]; done)
            | (rw [if_neg (by omega)]; done)
      · intro c140
        refine And.intro (by
          first
            | omega
            | exact ⟨by omega, by omega⟩
            | exact ⟨⟨by omega, by omega⟩, by omega, by omega⟩
            | (rcases gB.1 s.toNat with z | z <;> (rw [e819, z]; exact ⟨by decide, by decide⟩))
            | (rcases gB.1 t.toNat with z | z <;> (rw [e819, z]; exact ⟨by decide, by decide⟩))
            | (rcases gB.2 (256 * s + t).toNat with z | z <;> (rw [e818, z]; exact ⟨by decide, by decide⟩))
            | (rcases h2 with z | z <;> (rw [z.1]; exact ⟨by decide, by decide⟩))
            | (rcases h1.2.2 with z | z <;> (rw [z.1]; exact ⟨by decide, by decide⟩))
            | (rcases h3.2.2.1 s.toNat (by omega) with z | z <;> (rw [z.1]; exact ⟨by decide, by decide⟩))
            | (rcases gB.1 s.toNat with z | z <;> (rw [h3.2.1 _ (by omega), z]; exact ⟨by decide, by decide⟩))
            | (rcases han with z | z <;> (rw [z.1]; first | exact Or.inl rfl | exact Or.inr rfl))) ?_
        refine ⟨_, ?_, rfl, ⟨by omega, by omega⟩, h3.next ⟨hs0.1, by omega⟩ gB ?_, han⟩
        · clear han h3; omega
        · first
            | (rw [if_pos ⟨by assumption, by assumption⟩]; done)
            | (rw [if_neg (by omega)]; done)

set_option maxRecDepth 20000 in
set_option maxHeartbeats 1000000 in
theorem ok_X9_leaveOut (E : ab_E) : ab_Ok E 1 159 S_X9_leaveOut := by
  refine ab_mk rq_X9_leaveOut tk_X9_leaveOut (rt := 2) (rfl) (cuts := [4, 20, 113]) (G := []) (fun g hg => by cases hg) (by decide) 139 rfl ?_
  intro a M K wd wa hS
  unfold S_X9_leaveOut at hS
  split at hS
  ·
    refine ⟨Nat.le_of_ble_eq_true rfl, fun pc n L st M1 => match pc, L, st with
      | 4, [.inr (.inr (.inr (797, 9, 0))), .inr (.inl an), .inr (.inl s), u4_], [] => (n = (256 - s).toNat * 1000 + 1000000 ∧ (0 ≤ s ∧ s ≤ 256) ∧ lv_1 M M1 an s)
      | 20, [.inr (.inr (.inr (797, 9, 0))), .inr (.inl an), .inr (.inl s), .inr (.inl t)], [] => (n = (256 - s).toNat * 1000 + 1000000 - 1 - t.toNat ∧ (0 ≤ s ∧ s < 256) ∧ (0 ≤ t ∧ t ≤ 256) ∧ lv_1 M M1 an s ∧ lv_2 M M1 s t)
      | 113, [.inr (.inr (.inr (797, 9, 0))), .inr (.inl an), .inr (.inl s), u4_], [] => (n = (256 - s).toNat ∧ (0 ≤ s ∧ s ≤ 256) ∧ lv_3 M M1 s ∧ ((an = 1 ∧ ∃ x : Nat, x < 256 ∧ lv_l M x) ∨ (an = 0 ∧ ∀ x : Nat, x < 256 → ¬ lv_l M x)))
      | _, _, _ => False, ?_, ?_⟩
    · exact vc_X9_leaveOut_0  M K  hS
    · intro pc n L st M1 hI wd1 wL wst
      (try dsimp only at hI)
      split at hI
      ·
        rename_i an s u4_
        exact vc_X9_leaveOut_4  M K  hS n an s _ hI
      ·
        rename_i an s t
        exact vc_X9_leaveOut_20  M K  hS n an s t _ hI
      ·
        rename_i an s u4_
        exact vc_X9_leaveOut_113  M K  hS n an s _ hI
      · exact hI.elim
  · exact hS.elim
