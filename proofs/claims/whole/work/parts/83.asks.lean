/-! what the graph asks of the program that is read -/
theorem st_at_in {M : ab_M} {r : Nat} (h : (r : Int) < M 26 3) : st_at M (r : Int) = 26 + 1 + 1 + 3 * r := by
  unfold st_at
  rw [if_pos ⟨by omega, h⟩]
  rfl
theorem gc_back_S {M : ab_M} (hL : gc_L M) (hp : ts_p M) {l : Nat} (hl : (l : Int) < M 26 8) {j : Nat} (hj : ((j / 256 : Nat) : Int) = ((122 + l : Nat) : Int)) : gc_S M 1 j = [] := by
  obtain ⟨r, y1, y2, -⟩ := hL.2.2.2.1 l hl
  unfold gc_S
  rw [hj, gc_fd_back hp.2.1.2 hl y2 y1, if_neg (by decide)]
theorem cr_any_c {f g : Nat → Bool} : ∀ (l : List Nat), (∀ x ∈ l, f x = g x) → l.any f = l.any g
  | [], _ => rfl
  | a :: l, h => by rw [List.any_cons, List.any_cons, h a List.mem_cons_self, cr_any_c l fun x hx => h x (List.mem_cons_of_mem _ hx)]
/-- what the fixed points ask of the program that is read -/
def gc_A (M : ab_M) : Prop := ts_p M ∧ gc_L M ∧ ∀ r : Nat, (r : Int) < M 26 3 → ab_ir (M (26 + 1 + 1 + 3 * r) 0) ∧ ab_ir (M (26 + 1 + 1 + 3 * r) 8) ∧ M (26 + 1 + 1 + 3 * r) 8 < M 26 3
theorem ts_p_lo {M M1 : ab_M} (h : ∀ o k : Nat, o < 769 → M1 o k = M o k) (hp : ts_p M) : ts_p M1 := by
  have hs : ∀ s, ts_s M s → ts_s M1 s := fun s hs => by
    have hlt : s < 700 := hs.2.2.2.2.2.2.2.2.2.2.2.1
    unfold ts_s at hs ⊢
    simp only [h s _ (show s < 769 by omega)]
    exact hs
  obtain ⟨a1, a2, a3, a4, a5⟩ := hp
  refine ⟨?_, ?_, fun l hl => ?_, fun r hr => ?_, hs _ a5⟩
  · rw [h 26 3 (by decide)]; exact a1
  · rw [h 26 8 (by decide)]; exact a2
  · rw [h 26 8 (by decide)] at hl
    rw [h 392 _ (by decide), h 26 3 (by decide)]; exact a3 l hl
  · rw [h 26 3 (by decide)] at hr
    exact hs _ (a4 r hr)
theorem gc_L_fr {M M1 : ab_M} (h : ∀ o k : Nat, o < 769 → M1 o k = M o k) (hL : gc_L M) : gc_L M1 := by
  have h3 := hL.1
  have e3 : M1 26 3 = M 26 3 := h 26 3 (by decide)
  have e8 : M1 26 8 = M 26 8 := h 26 8 (by decide)
  have e392 : ∀ k, M1 392 k = M 392 k := fun k => h 392 k (by decide)
  have es : ∀ r : Nat, (r : Int) < M 26 3 → ∀ k, M1 (26 + 1 + 1 + 3 * r) k = M (26 + 1 + 1 + 3 * r) k := fun r hr k => h _ k (by omega)
  have eT : ∀ (r : Nat) (g : Int), (r : Int) < M 26 3 → gc_T M r g → gc_T M1 r g := fun r g hr hT => by
    rcases hT with z | z | z | ⟨l, q, z1, z2, z3, z4, z5⟩
    · exact Or.inl (by rw [e3]; exact z)
    · exact Or.inr (Or.inl z)
    · exact Or.inr (Or.inr (Or.inl z))
    · exact Or.inr (Or.inr (Or.inr ⟨l, q, z1, by rw [e8]; exact z2, by rw [e392]; exact z3, z4, by rw [es q (by omega)]; exact z5⟩))
  obtain ⟨-, b1, b2, b3, b4, b5, b6⟩ := hL
  refine ⟨by rw [e3]; exact h3, fun r hr => ?_, fun r hr => ?_, fun l hl => ?_, fun x r hx hr => ?_, fun r hr => ?_, fun r hr => ?_⟩
  · rw [e3] at hr
    rw [es r hr, es r hr]
    exact ⟨eT _ _ hr (b1 r hr).1, eT _ _ hr (b1 r hr).2⟩
  · rw [e3] at hr
    simp only [es r hr, e8, e392]
    exact b2 r hr
  · rw [e8] at hl
    obtain ⟨r, y1, y2, y3, y4⟩ := b3 l hl
    exact ⟨r, by rw [e3]; exact y1, by rw [e392]; exact y2, by rw [es r y1]; exact y3, by rw [es r y1]; exact y4⟩
  · rw [e3] at hr
    rw [es r hr, es x (by omega)]
    exact b4 x r hx hr
  · rw [e3] at hr ⊢
    rw [es r hr]
    exact b5 r hr
  · rw [e3] at hr
    have ea : cr_iIL M1 26 (26 + 1 + 1 + 3 * r) = cr_iIL M 26 (26 + 1 + 1 + 3 * r) := by
      unfold cr_iIL
      rw [es r hr, cr_anc_c e3 (fun x hx => es x hx 8)]
      refine cr_any_c _ fun x hx => ?_
      rw [es x (cr_anc_lt _ _ _ hx)]
    rw [ea, b6 r hr]
    exact ⟨fun ⟨x, x1, x2, x3⟩ => ⟨x, x1, by rw [es x (by omega)]; exact x2, by rw [es x (by omega)]; exact x3⟩, fun ⟨x, x1, x2, x3⟩ => ⟨x, x1, by rw [← es x (by omega)]; exact x2, by rw [← es x (by omega)]; exact x3⟩⟩
theorem gc_A_fr {M M1 : ab_M} (h : ∀ o k : Nat, o < 769 → M1 o k = M o k) (hA : gc_A M) : gc_A M1 := by
  obtain ⟨h1, h2, h3⟩ := hA
  have hr3 := h2.1
  refine ⟨ts_p_lo h h1, gc_L_fr h h2, fun r hr => ?_⟩
  rw [h 26 3 (by decide)] at hr ⊢
  simp only [h (26 + 1 + 1 + 3 * r) _ (show 26 + 1 + 1 + 3 * r < 769 by omega)]
  exact h3 r hr
theorem ts_e.lo {M M1 : ab_M} (h : ts_e M M1) : ∀ o k : Nat, o < 769 → M1 o k = M o k := fun o k ho => h o k (by omega)
/-- where the program begins -/
def pr_s (M : ab_M) : Nat := if 0 < M 26 3 then 0 else 120
