/-! the class's graph: what a row leads to -/
def cl_j (row : Int) (s : Nat) : Nat := (row * 256 + ((s : Nat) : Int)).toNat
theorem cl_j_d {row : Int} (h : 0 ≤ row) {s : Nat} (hs : s < 256) : ((cl_j row s / 256 : Nat) : Int) = row ∧ cl_j row s % 256 = s := by
  unfold cl_j
  omega
theorem cl_255 {x : Int} (h : 0 ≤ x ∧ x ≤ 255) : ab_and x 255 = x := by
  have key : ∀ x : Fin 256, ab_and ((x.val : Nat) : Int) 255 = ((x.val : Nat) : Int) := by decide +kernel
  have := key ⟨x.toNat, by omega⟩
  simp only [Int.toNat_of_nonneg h.1] at this
  exact this
theorem cl_ad {G x : Int} {L : List Int} (hG : 0 ≤ G ∧ G < 130) (hx : 0 ≤ x ∧ x ≤ 255) (hL : L.length < 256) : pl_ad G x L = L ++ [G * 256 + x] := by
  unfold pl_ad
  rw [if_pos ⟨hG.1, hG.2, hL⟩, cl_255 hx]
/-- a row's cells -/
def cl_R (M : ab_M) (P : pz_P) (r l c : Nat) (f : Nat → Bool) (G H : Int) : Prop :=
  (r < 120 ∧ (r : Int) < M 26 3) ∧ M (26 + 1 + 1 + 3 * r) 0 = cr_lt P.1 ∧ M (26 + 1 + 1 + 3 * r) 1 = (if P.1 = 0 ∨ P.1 = 1 ∨ P.1 = 5 then P.2.1 else -1) ∧
  (pz_nt1 P.1 = 1 → ∀ s : Nat, s < 256 → tv M (M (26 + 1 + 1 + 3 * r) 2) ((s : Nat) : Int) = mp_v s P.2.2.1) ∧ (pz_nt2 P.1 = 1 → 0 ≤ M (26 + 1 + 1 + 3 * r) 3 ∧ ∀ s : Nat, s < 256 → tv M (M (26 + 1 + 1 + 3 * r) 3) ((s : Nat) : Int) = mp_v s P.2.2.2) ∧ (¬ pz_nt2 P.1 = 1 → M (26 + 1 + 1 + 3 * r) 3 = -1) ∧
  (P.1 = 2 ∨ P.1 = 5 ∨ P.1 = 7 → M (26 + 1 + 1 + 3 * r) 4 = (c : Int)) ∧ (P.1 = 7 → (M (26 + 1 + 1 + 3 * r) 5 = (l : Int) ∧ l < 4) ∧ (M 392 l = (r : Int) ∧ (l : Int) < M 26 8) ∧ M (26 + 1 + 1 + 3 * r) 7 = pz_mb f) ∧
  (M (26 + 1 + 1 + 3 * r) 17 = G ∧ 0 ≤ G ∧ G < 130) ∧ M (26 + 1 + 1 + 3 * r) 18 = H ∧ 0 ≤ H ∧ H < 130
theorem cl_R.fd {M : ab_M} {P : pz_P} {r l c : Nat} {f : Nat → Bool} {G H : Int} (h : cl_R M P r l c f G H) (s md : Int) : pl_fd M ((r : Nat) : Int) s md = pl_st M (26 + 1 + 1 + 3 * r) s md [] := by
  unfold pl_fd st_at
  rw [if_pos (by have := h.1.1; omega), if_pos ⟨by omega, h.1.2⟩]
  rfl
theorem cl_gc {M : ab_M} {md row : Int} (h : 0 ≤ row) {s : Nat} (hs : s < 256) : gc_S M md (cl_j row s) = (pl_fd M row ((s : Nat) : Int) md).2 := by
  unfold gc_S
  rw [(cl_j_d h hs).1, (cl_j_d h hs).2]
theorem cl_h_mem {M : ab_M} {st : Nat} {s : Int} {G : Int} (hG : M st 17 = G ∧ 0 ≤ G ∧ G < 130) (hw : ∀ x : Nat, x < 4 → 0 ≤ pz_sw s (M st 1) ((x : Nat) : Int) ∧ pz_sw s (M st 1) ((x : Nat) : Int) ≤ 255) : ∀ n : Nat, n ≤ 4 → (pl_h M st s [] n).length ≤ n ∧ ∀ q, q ∈ pl_h M st s [] n ↔ ∃ x : Nat, x < n ∧ (M st 3 < 0 ∨ ¬ tv M (M st 3) (pz_sw s (M st 1) ((x : Nat) : Int)) = 0) ∧ q = G * 256 + pz_sw s (M st 1) ((x : Nat) : Int)
  | 0, _ => ⟨Nat.le_refl _, fun q => ⟨fun h => absurd h List.not_mem_nil, fun ⟨x, h, _⟩ => absurd h (Nat.not_lt_zero _)⟩⟩
  | n + 1, hn => by
    obtain ⟨h1, h2⟩ := cl_h_mem hG hw n (by omega)
    have e : pl_h M st s [] (n + 1) = pl_hv M st s ((n : Nat) : Int) (pl_h M st s [] n) := rfl
    rw [e]
    unfold pl_hv
    by_cases c : M st 3 < 0 ∨ ¬ tv M (M st 3) (pz_sw s (M st 1) ((n : Nat) : Int)) = 0
    · rw [if_pos c, hG.1, cl_ad hG.2 (hw n (by omega)) (by omega)]
      refine ⟨by rw [List.length_append]; show _ + 1 ≤ _; omega, fun q => ?_⟩
      rw [List.mem_append, h2, List.mem_singleton]
      constructor
      · rintro (⟨x, x1, x2⟩ | x)
        · exact ⟨x, by omega, x2⟩
        · exact ⟨n, Nat.lt_succ_self n, c, x⟩
      · rintro ⟨x, x1, x2, x3⟩
        by_cases e : x = n
        · subst e; exact Or.inr x3
        · exact Or.inl ⟨x, by omega, x2, x3⟩
    · rw [if_neg c]
      refine ⟨by omega, fun q => ?_⟩
      rw [h2]
      constructor
      · rintro ⟨x, x1, x2⟩
        exact ⟨x, by omega, x2⟩
      · rintro ⟨x, x1, x2, x3⟩
        by_cases e : x = n
        · subst e; exact absurd x2 c
        · exact ⟨x, by omega, x2, x3⟩
theorem cl_hs_mem {M : ab_M} {st : Nat} {zz G H : Int} (hG : M st 17 = G ∧ 0 ≤ G ∧ G < 130) (hH : M st 18 = H ∧ 0 ≤ H ∧ H < 130) : ∀ (n : Nat) (p : Int) (L : List Int), (∀ x ∈ mp_pt (M st 7) n p, 0 ≤ ab_or zz x ∧ ab_or zz x ≤ 255) → L.length + n ≤ 256 → ∀ q, q ∈ pl_hs M st zz n p L ↔ q ∈ L ∨ ∃ x ∈ mp_pt (M st 7) n p, ¬ tv M (M st 3) (ab_or zz x) = 0 ∧ q = (if tv M (M st 2) (ab_or zz x) = 0 then H else G) * 256 + ab_or zz x
  | 0, p, L, _, _, q => ⟨Or.inl, fun h => h.elim id fun ⟨x, hx, _⟩ => absurd hx List.not_mem_nil⟩
  | n + 1, p, L, hx, hL, q => by
    have hp : ∀ x, x ∈ mp_pt (M st 7) (n + 1) p ↔ x = p ∨ (¬ ab_and (p - M st 7) (M st 7) = 0 ∧ x ∈ mp_pt (M st 7) n (ab_and (p - M st 7) (M st 7))) := fun x => by
      show x ∈ p :: (if ab_and (p - M st 7) (M st 7) = 0 then [] else mp_pt (M st 7) n (ab_and (p - M st 7) (M st 7))) ↔ _
      rw [List.mem_cons]
      by_cases c : ab_and (p - M st 7) (M st 7) = 0
      · rw [if_pos c]
        constructor
        · rintro (h | h)
          · exact Or.inl h
          · exact absurd h List.not_mem_nil
        · rintro (h | h)
          · exact Or.inl h
          · exact absurd c h.1
      · rw [if_neg c]
        constructor
        · rintro (h | h)
          · exact Or.inl h
          · exact Or.inr ⟨c, h⟩
        · rintro (h | h)
          · exact Or.inl h
          · exact Or.inr h.2
    have h1 : ∀ q, (q ∈ pl_h1 M st (ab_or zz p) L ↔ q ∈ L ∨ (¬ tv M (M st 3) (ab_or zz p) = 0 ∧ q = (if tv M (M st 2) (ab_or zz p) = 0 then H else G) * 256 + ab_or zz p)) ∧ (pl_h1 M st (ab_or zz p) L).length ≤ L.length + 1 := fun q => by
      unfold pl_h1
      by_cases c : tv M (M st 3) (ab_or zz p) = 0
      · rw [if_pos c]
        exact ⟨⟨Or.inl, fun h => h.elim id fun h => absurd c h.1⟩, by omega⟩
      · rw [if_neg c, cl_ad (by split <;> omega) (hx p ((hp p).2 (Or.inl rfl))) (by omega), hG.1, hH.1]
        refine ⟨?_, by rw [List.length_append]; show _ + 1 ≤ _; omega⟩
        rw [List.mem_append, List.mem_singleton]
        exact ⟨fun h => h.imp id fun h => ⟨c, h⟩, fun h => h.imp id fun h => h.2⟩
    have h2 := fun q => (h1 q).1
    have hlen := (h1 0).2
    have e : pl_hs M st zz (n + 1) p L = if ab_and (p - M st 7) (M st 7) = 0 then pl_h1 M st (ab_or zz p) L else pl_hs M st zz n (ab_and (p - M st 7) (M st 7)) (pl_h1 M st (ab_or zz p) L) := rfl
    rw [e]
    by_cases c : ab_and (p - M st 7) (M st 7) = 0
    · rw [if_pos c, h2]
      constructor
      · rintro (h | h)
        · exact Or.inl h
        · exact Or.inr ⟨p, (hp p).2 (Or.inl rfl), h⟩
      · rintro (h | ⟨x, x1, x2⟩)
        · exact Or.inl h
        · rcases (hp x).1 x1 with y | y
          · subst y; exact Or.inr x2
          · exact absurd c y.1
    · rw [if_neg c, cl_hs_mem hG hH n _ _ (fun x y => hx x ((hp x).2 (Or.inr ⟨c, y⟩))) (by omega), h2]
      constructor
      · rintro ((h | h) | ⟨x, x1, x2⟩)
        · exact Or.inl h
        · exact Or.inr ⟨p, (hp p).2 (Or.inl rfl), h⟩
        · exact Or.inr ⟨x, (hp x).2 (Or.inr ⟨c, x1⟩), x2⟩
      · rintro (h | ⟨x, x1, x2⟩)
        · exact Or.inl (Or.inl h)
        · rcases (hp x).1 x1 with y | y
          · subst y; exact Or.inl (Or.inr x2)
          · exact Or.inr ⟨x, y.2, x2⟩
/-- the head of a loop that is cut -/
theorem cl_head {M : ab_M} {P : pz_P} {r l c : Nat} {f : Nat → Bool} {G H : Int} (h : cl_R M P r l c f G H) (h7 : P.1 = 7) {s : Nat} (hs : s < 256) (md q : Int) : (pl_fd M ((126 + l : Nat) : Int) (ab_and ((s : Nat) : Int) (ab_xor (pz_mb f) (-1))) md).1 = -1 ∧ (q ∈ (pl_fd M ((126 + l : Nat) : Int) (ab_and ((s : Nat) : Int) (ab_xor (pz_mb f) (-1))) md).2 ↔ ∃ s', mp_ag f s s' ∧ ¬ mp_v s' P.2.2.2 = 0 ∧ q = (if mp_v s' P.2.2.1 = 0 then H else G) * 256 + ((s' : Nat) : Int)) := by
  obtain ⟨⟨r1, r2⟩, e0, e1, t1, t2, -, -, e7, g1, g2⟩ := h
  obtain ⟨⟨e5, l4⟩, ⟨l1, l2⟩, e7⟩ := e7 h7
  have hlp : lp_at M (((126 + l : Nat) : Int) - 126) = 26 + 1 + 1 + 3 * r := by
    rw [show ((126 + l : Nat) : Int) - 126 = ((l : Nat) : Int) by omega]
    exact lp_at_of l2 l1 r2
  have t1 := t1 (by unfold pz_nt1; rw [if_neg (by omega)])
  have t2 := (t2 (by unfold pz_nt2; rw [if_pos (by omega)])).2
  have hz : ab_and (ab_and ((s : Nat) : Int) (ab_xor (pz_mb f) (-1))) (pz_mb f) = 0 := by
    have k := mp_z4_k (f 0) (f 1) (f 2) (f 3) ⟨s, hs⟩
    unfold pz_mb
    rw [k.1]
    exact k.2.1
  have hfd : pl_fd M ((126 + l : Nat) : Int) (ab_and ((s : Nat) : Int) (ab_xor (pz_mb f) (-1))) md = (-1, pl_hs M (26 + 1 + 1 + 3 * r) (ab_and ((s : Nat) : Int) (ab_xor (pz_mb f) (-1))) 256 0 []) := by
    unfold pl_fd
    rw [if_neg (by omega), if_pos (by omega), hlp]
    unfold pl_head
    rw [e7, if_pos hz]
  rw [hfd]
  refine ⟨rfl, ?_⟩
  show q ∈ pl_hs M (26 + 1 + 1 + 3 * r) (ab_and ((s : Nat) : Int) (ab_xor (pz_mb f) (-1))) 256 0 [] ↔ _
  have hor : ∀ x ∈ mp_pt (M (26 + 1 + 1 + 3 * r) 7) 256 0, 0 ≤ ab_or (ab_and ((s : Nat) : Int) (ab_xor (pz_mb f) (-1))) x ∧ ab_or (ab_and ((s : Nat) : Int) (ab_xor (pz_mb f) (-1))) x ≤ 255 := fun x hx => by
    rw [e7] at hx
    have hk := (mp_pt_k (f 0) (f 1) (f 2) (f 3)).1
    have := of_decide_eq_true (List.all_eq_true.1 hk x hx)
    have e := (mp_z4_k (f 0) (f 1) (f 2) (f 3) ⟨s, hs⟩).1
    have hlt : mp_z4 (f 0) (f 1) (f 2) (f 3) s < 256 := by
      have d0 := mp_d_lt 0 s
      have d1 := mp_d_lt 1 s
      have d2 := mp_d_lt 2 s
      have d3 := mp_d_lt 3 s
      unfold mp_z4
      repeat' split
      all_goals omega
    unfold pz_mb
    rw [e]
    exact pz_or_r (by omega) (by show ((mp_z4 (f 0) (f 1) (f 2) (f 3) s : Nat) : Int) ≤ 255; omega) (by omega) (by omega)
  rw [cl_hs_mem g1 g2 256 0 [] hor (by show 0 + 256 ≤ 256; decide) q, e7]
  constructor
  · rintro (h | ⟨x, x1, x2, x3⟩)
    · exact absurd h List.not_mem_nil
    · rw [e7] at hor
      have hb := hor x x1
      obtain ⟨s', es⟩ : ∃ s' : Nat, ab_or (ab_and ((s : Nat) : Int) (ab_xor (pz_mb f) (-1))) x = ((s' : Nat) : Int) := ⟨_, (Int.toNat_of_nonneg hb.1).symm⟩
      rw [es] at x2 x3 hb
      rw [t2 s' (by omega)] at x2
      rw [t1 s' (by omega)] at x3
      exact ⟨s', (mp_ag_pt hs s').2 ⟨by omega, x, x1, es⟩, x2, x3⟩
  · rintro ⟨s', h1, h2, h3⟩
    obtain ⟨h4, x, x1, es⟩ := (mp_ag_pt hs s').1 h1
    refine Or.inr ⟨x, x1, ?_, ?_⟩
    · rw [es, t2 s' h4]; exact h2
    · rw [es, t1 s' h4]; exact h3
/-- the end of a loop's block -/
theorem cl_back {M : ab_M} {P : pz_P} {r l c : Nat} {f : Nat → Bool} {G H : Int} (h : cl_R M P r l c f G H) (h7 : P.1 = 7) {s : Nat} (hs : s < 256) : pl_fd M ((122 + l : Nat) : Int) ((s : Nat) : Int) 0 = (-1, [((r : Nat) : Int) * 256 + ((s : Nat) : Int)]) ∧ pl_fd M ((122 + l : Nat) : Int) ((s : Nat) : Int) 1 = (if mp_v s P.2.2.2 = 0 then (c : Int) + 1 else -1, []) := by
  obtain ⟨⟨r1, r2⟩, e0, e1, t1, t2, -, e4, e7, g1, g2⟩ := h
  obtain ⟨⟨e5, l4⟩, ⟨l1, l2⟩, e7⟩ := e7 h7
  have e4 := e4 (Or.inr (Or.inr h7))
  have t2 := (t2 (by unfold pz_nt2; rw [if_pos (by omega)])).2
  have hlp : lp_at M ((l : Nat) : Int) = 26 + 1 + 1 + 3 * r := lp_at_of l2 l1 r2
  have hfd : ∀ md, pl_fd M ((122 + l : Nat) : Int) ((s : Nat) : Int) md = pl_back M ((l : Nat) : Int) ((s : Nat) : Int) md [] := fun md => by
    unfold pl_fd
    rw [if_neg (by omega), if_neg (by omega), if_pos (by omega), show ((122 + l : Nat) : Int) - 122 = ((l : Nat) : Int) by omega]
  rw [hfd, hfd]
  refine ⟨?_, ?_⟩
  · unfold pl_back
    rw [if_pos rfl, if_pos ⟨by omega, l2⟩, show (((l : Nat) : Int)).toNat = l from rfl, l1, cl_ad (by omega) (by omega) (by show 0 < 256; decide)]
    rfl
  · unfold pl_back
    rw [if_neg (by decide), hlp, t2 s hs, e4]
