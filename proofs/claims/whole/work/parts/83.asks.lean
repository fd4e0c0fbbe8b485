/-! what the graph asks of the program that is read -/
theorem st_at_in {M : ab_M} {r : Nat} (h : (r : Int) < M 26 3) : st_at M (r : Int) = 26 + 1 + 1 + 3 * r := by
  unfold st_at
  rw [if_pos ⟨by omega, h⟩]
  rfl
theorem gc_back_S {M : ab_M} (hL : gc_L M) (hp : ts_p M) {l : Nat} (hl : (l : Int) < M 26 8) {j : Nat} (hj : ((j / 256 : Nat) : Int) = ((122 + l : Nat) : Int)) : gc_S M 1 j = [] := by
  obtain ⟨r, y1, y2, -⟩ := hL.2.2.2.1 l hl
  unfold gc_S
  rw [hj, gc_fd_back hp.2.1.2 hl y2 y1, if_neg (by decide)]
theorem cr_any_c {f g : Nat → Bool} : ∀ (l : List Nat), (∀ x ∈ l, f x = g x) → l.any f = l.any g
  | [], _ => rfl
  | a :: l, h => by rw [List.any_cons, List.any_cons, h a List.mem_cons_self, cr_any_c l fun x hx => h x (List.mem_cons_of_mem _ hx)]
/-- what the fixed points ask of the program that is read -/
def gc_A (M : ab_M) : Prop := ts_p M ∧ gc_L M ∧ ∀ r : Nat, (r : Int) < M 26 3 → ab_ir (M (26 + 1 + 1 + 3 * r) 0) ∧ ab_ir (M (26 + 1 + 1 + 3 * r) 8) ∧ M (26 + 1 + 1 + 3 * r) 8 < M 26 3
theorem ts_p_lo {M M1 : ab_M} (h : ∀ o k : Nat, o < 769 → M1 o k = M o k) (hp : ts_p M) : ts_p M1 := by
  have hs : ∀ s, ts_s M s → ts_s M1 s := fun s hs => by
    have hlt : s < 700 := hs.2.2.2.2.2.2.2.2.2.2.2.1
    unfold ts_s at hs ⊢
    simp only [h s _ (show s < 769 by omega)]
    exact hs
  obtain ⟨a1, a2, a3, a4, a5⟩ := hp
  refine ⟨?_, ?_, fun l hl => ?_, fun r hr => ?_, hs _ a5⟩
  · rw [h 26 3 (by decide)]; exact a1
  · rw [h 26 8 (by decide)]; exact a2
  · rw [h 26 8 (by decide)] at hl
    rw [h 392 _ (by decide), h 26 3 (by decide)]; exact a3 l hl
  · rw [h 26 3 (by decide)] at hr
    exact hs _ (a4 r hr)
theorem gc_L_fr {M M1 : ab_M} (h : ∀ o k : Nat, o < 769 → M1 o k = M o k) (hL : gc_L M) : gc_L M1 := by
  have h3 := hL.1
  have e3 : M1 26 3 = M 26 3 := h 26 3 (by decide)
  have e8 : M1 26 8 = M 26 8 := h 26 8 (by decide)
  have e392 : ∀ k, M1 392 k = M 392 k := fun k => h 392 k (by decide)
  have es : ∀ r : Nat, (r : Int) < M 26 3 → ∀ k, M1 (26 + 1 + 1 + 3 * r) k = M (26 + 1 + 1 + 3 * r) k := fun r hr k => h _ k (by omega)
  have eT : ∀ (r : Nat) (g : Int), (r : Int) < M 26 3 → gc_T M r g → gc_T M1 r g := fun r g hr hT => by
    rcases hT with z | z | z | ⟨l, q, z1, z2, z3, z4, z5⟩
    · exact Or.inl (by rw [e3]; exact z)
    · exact Or.inr (Or.inl z)
    · exact Or.inr (Or.inr (Or.inl z))
    · exact Or.inr (Or.inr (Or.inr ⟨l, q, z1, by rw [e8]; exact z2, by rw [e392]; exact z3, z4, by rw [es q (by omega)]; exact z5⟩))
  obtain ⟨-, b1, b2, b3, b4, b5, b6⟩ := hL
  refine ⟨by rw [e3]; exact h3, fun r hr => ?_, fun r hr => ?_, fun l hl => ?_, fun x r hx hr => ?_, fun r hr => ?_, fun r hr => ?_⟩
  · rw [e3] at hr
    rw [es r hr, es r hr]
    exact ⟨eT _ _ hr (b1 r hr).1, eT _ _ hr (b1 r hr).2⟩
  · rw [e3] at hr
    simp only [es r hr, e8, e392]
    exact b2 r hr
  · rw [e8] at hl
    obtain ⟨r, y1, y2, y3, y4⟩ := b3 l hl
    exact ⟨r, by rw [e3]; exact y1, by rw [e392]; exact y2, by rw [es r y1]; exact y3, by rw [es r y1]; exact y4⟩
  · rw [e3] at hr
    rw [es r hr, es x (by omega)]
    exact b4 x r hx hr
  · rw [e3] at hr ⊢
    rw [es r hr]
    exact b5 r hr
  · rw [e3] at hr
    have ea : cr_iIL M1 26 (26 + 1 + 1 + 3 * r) = cr_iIL M 26 (26 + 1 + 1 + 3 * r) := by
      unfold cr_iIL
      rw [es r hr, cr_anc_c e3 (fun x hx => es x hx 8)]
      refine cr_any_c _ fun x hx => ?_
      rw [es x (cr_anc_lt _ _ _ hx)]
    rw [ea, b6 r hr]
    exact ⟨fun ⟨x, x1, x2, x3⟩ => ⟨x, x1, by rw [es x (by omega)]; exact x2, by rw [es x (by omega)]; exact x3⟩, fun ⟨x, x1, x2, x3⟩ => ⟨x, x1, by rw [← es x (by omega)]; exact x2, by rw [← es x (by omega)]; exact x3⟩⟩
theorem gc_A_fr {M M1 : ab_M} (h : ∀ o k : Nat, o < 769 → M1 o k = M o k) (hA : gc_A M) : gc_A M1 := by
  obtain ⟨h1, h2, h3⟩ := hA
  have hr3 := h2.1
  refine ⟨ts_p_lo h h1, gc_L_fr h h2, fun r hr => ?_⟩
  rw [h 26 3 (by decide)] at hr ⊢
  simp only [h (26 + 1 + 1 + 3 * r) _ (show 26 + 1 + 1 + 3 * r < 769 by omega)]
  exact h3 r hr
theorem ts_e.lo {M M1 : ab_M} (h : ts_e M M1) : ∀ o k : Nat, o < 769 → M1 o k = M o k := fun o k ho => h o k (by omega)
/-- where the program begins -/
def pr_s (M : ab_M) : Nat := if 0 < M 26 3 then 0 else 120
theorem gx_W_ext {S : Nat → List Int} {a : Nat} {q : Int} (hq : q ∈ S a) : ∀ {n s : Nat}, gx_W S (fun i => i = a) n s → gx_W S (fun i => i = q.toNat) (n + 1) s
  | 0, s, h => by
    have h : s = a := h
    subst h
    exact Or.inr ⟨q, hq, rfl⟩
  | n + 1, s, h => by
    rcases h with h | ⟨x, h1, h2⟩
    · have h : s = a := h
      subst h
      exact Or.inr ⟨q, hq, gx_W_own (O := fun i => i = q.toNat) rfl _⟩
    · exact Or.inr ⟨x, h1, gx_W_ext hq h2⟩
theorem gx_W_mono {S : Nat → List Int} {O O' : Nat → Prop} (h : ∀ i, O i → O' i) : ∀ {n j : Nat}, gx_W S O n j → gx_W S O' n j
  | 0, _, hw => h _ hw
  | n + 1, _, hw => by
    rcases hw with hw | ⟨q, q1, q2⟩
    · exact Or.inl (h _ hw)
    · exact Or.inr ⟨q, q1, gx_W_mono h q2⟩
/-- a place at the end of a loop's block that is not kept -/
def kp_t (l : Nat) (K : Nat → Prop) (p : Nat) : Prop := p / 256 = 122 + l ∧ ¬ K (p % 256)
/-- from behind the block nothing leads to its end -/
def kp_Z (M : ab_M) (l : Nat) (e : Int) (j : Nat) : Prop := j / 256 = 120 ∨ j / 256 = 121 ∨ (∃ l' : Nat, (l' : Int) < M 26 8 ∧ l' ≠ l ∧ j / 256 = 122 + l') ∨ ∃ q : Nat, gc_w M 1 j q ∧ e < (q : Int) ∧ j / 256 ≠ 122 + l
theorem kp_Z_no {M : ab_M} (hL : gc_L M) (hp : ts_p M) {l lr : Nat} (hl : (l : Int) < M 26 8) (hlr : M 392 l = (lr : Int)) {K : Nat → Prop} : ∀ (n j : Nat), kp_Z M l (M (26 + 1 + 1 + 3 * lr) 14) j → ¬ gx_W (gc_S M 1) (kp_t l K) n j := by
  have h8 := hp.2.1
  have h3 := hL.1
  have hnt : ∀ j, kp_Z M l (M (26 + 1 + 1 + 3 * lr) 14) j → ¬ kp_t l K j := fun j hj ht => by
    rcases hj with h | h | ⟨l', h1, h2, h3⟩ | ⟨q, -, -, h⟩
    · have := ht.1; omega
    · have := ht.1; omega
    · have := ht.1; omega
    · exact h ht.1
  have hsucc : ∀ j, kp_Z M l (M (26 + 1 + 1 + 3 * lr) 14) j → ∀ p ∈ gc_S M 1 j, kp_Z M l (M (26 + 1 + 1 + 3 * lr) 14) p.toNat := fun j hj p hm => by
    rcases hj with h | h | ⟨l', h1, h2, h3⟩ | ⟨q, hw, hq, h⟩
    · rw [gc_S_end (Or.inl h)] at hm; exact absurd hm List.not_mem_nil
    · rw [gc_S_end (Or.inr h)] at hm; exact absurd hm List.not_mem_nil
    · rw [gc_back_S hL hp h1 (by omega)] at hm; exact absurd hm List.not_mem_nil
    · rcases gc_succ hL hp hw hm with z | z | ⟨z1, z2, -⟩ | ⟨l', x, z1, z2, z3, z4, z5⟩ | ⟨z0, z1, l', z2, z3, z4⟩ | ⟨z0, -⟩
      · exact Or.inl z
      · exact Or.inr (Or.inl z)
      · exact Or.inr (Or.inr (Or.inr ⟨p.toNat / 256, Or.inl ⟨rfl, z2⟩, by omega, by omega⟩))
      · refine Or.inr (Or.inr (Or.inl ⟨l', z1, fun e => ?_, z2⟩))
        subst e
        have : x = lr := by omega
        subst this
        omega
      · exact Or.inr (Or.inr (Or.inr ⟨q, Or.inr (Or.inr ⟨z0, l', z2, z4, z3⟩), hq, by omega⟩))
      · exact absurd z0 (by decide)
  intro n
  induction n with
  | zero => intro j hj; exact hnt j hj
  | succ n ih =>
    intro j hj hw
    rcases hw with hw | ⟨q, q1, q2⟩
    · exact hnt j hj hw
    · exact ih _ (hsucc j hj q q1) q2
/-- the states that are kept after so many rounds -/
def kp_K (M : ab_M) (l : Nat) (g t1 t2 : Int) : Nat → Nat → Prop
  | 0 => fun x => ¬ tv M t2 (x : Int) = 0
  | i + 1 => fun x => kp_K M l g t1 t2 i x ∧ ¬ (¬ tv M t1 (x : Int) = 0 ∧ ∃ n, gx_W (gc_S M 1) (kp_t l (kp_K M l g t1 t2 i)) n (g * 256 + (x : Int)).toNat)
theorem kp_K_fr {M M1 : ab_M} (h : ts_e M M1) (hp : ts_p M) (l : Nat) (g t1 t2 : Int) : ∀ i, kp_K M1 l g t1 t2 i = kp_K M l g t1 t2 i
  | 0 => by
    funext x
    show (¬ tv M1 t2 (x : Int) = 0) = (¬ tv M t2 (x : Int) = 0)
    rw [ts_e_tv h]
  | i + 1 => by
    funext x
    show (kp_K M1 l g t1 t2 i x ∧ ¬ (¬ tv M1 t1 (x : Int) = 0 ∧ ∃ n, gx_W (gc_S M1 1) (kp_t l (kp_K M1 l g t1 t2 i)) n (g * 256 + (x : Int)).toNat)) = _
    rw [kp_K_fr h hp l g t1 t2 i, ts_e_tv h, (gc_fr h hp 1).1]
    rfl
def sh_k (M : ab_M) (l i : Nat) : Nat → Prop := kp_K M l (M (lp_at M (l : Int)) 17) (M (lp_at M (l : Int)) 2) (M (lp_at M (l : Int)) 3) i
theorem sh_k_fr {M M1 : ab_M} (h : ts_e M M1) (hA : gc_A M) (l i : Nat) : sh_k M1 l i = sh_k M l i := by
  unfold sh_k
  rw [lp_at_fr h, kp_K_fr h hA.1]
  have := hA.1.lp (l : Int)
  rw [h.s this, h.s this, h.s this]
