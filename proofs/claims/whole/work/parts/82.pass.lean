/-! where the class's places lead; what a sweep closes -/
theorem pl_ad_mem {row st : Int} {L : List Int} {p : Int} (h : p ∈ pl_ad row st L) : p ∈ L ∨ (0 ≤ row ∧ row < 130 ∧ ((p.toNat / 256 : Nat) : Int) = row) := by
  unfold pl_ad at h
  split at h
  · rename_i q
    rcases List.mem_append.1 h with e | e
    · exact Or.inl e
    · refine Or.inr ⟨q.1, q.2.1, ?_⟩
      have := pz_and_r st (b := 255) (by decide) (by decide)
      have e := List.mem_singleton.1 e
      omega
  · exact Or.inl h
theorem pl_h_mem {M : ab_M} {s : Nat} {zz p : Int} {L : List Int} : ∀ n, p ∈ pl_h M s zz L n → p ∈ L ∨ ((p.toNat / 256 : Nat) : Int) = M s 17
  | 0, h => Or.inl h
  | n + 1, h => by
    change p ∈ pl_hv M s zz _ (pl_h M s zz L n) at h
    unfold pl_hv at h
    split at h
    · rcases pl_ad_mem h with e | e
      · exact pl_h_mem n e
      · exact Or.inr e.2.2
    · exact pl_h_mem n h
theorem pl_hs_mem {M : ab_M} {s : Nat} {zz p : Int} : ∀ (n : Nat) (part : Int) (L : List Int), p ∈ pl_hs M s zz n part L → p ∈ L ∨ ((p.toNat / 256 : Nat) : Int) = M s 17 ∨ ((p.toNat / 256 : Nat) : Int) = M s 18 := by
  have h1 : ∀ (th : Int) (L : List Int), p ∈ pl_h1 M s th L → p ∈ L ∨ ((p.toNat / 256 : Nat) : Int) = M s 17 ∨ ((p.toNat / 256 : Nat) : Int) = M s 18 := fun th L h => by
    unfold pl_h1 at h
    split at h
    · exact Or.inl h
    · rcases pl_ad_mem h with e | ⟨-, -, e⟩
      · exact Or.inl e
      · split at e
        · exact Or.inr (Or.inr e)
        · exact Or.inr (Or.inl e)
  intro n
  induction n with
  | zero => intro part L h; exact Or.inl h
  | succ n ih =>
    intro part L h
    unfold pl_hs at h
    split at h
    · exact h1 _ _ h
    · rcases ih _ _ h with e | e
      · exact h1 _ _ e
      · exact Or.inr e
theorem pl_st_mem {M : ab_M} {s : Nat} {zz cut p : Int} (h : p ∈ (pl_st M s zz cut []).2) : ((p.toNat / 256 : Nat) : Int) = M s 17 ∨ ((p.toNat / 256 : Nat) : Int) = M s 18 ∨ (M s 0 = 119 ∧ cut = 1 ∧ ((p.toNat / 256 : Nat) : Int) = 126 + M s 5) := by
  have ad : ∀ {row st : Int}, p ∈ pl_ad row st [] → ((p.toNat / 256 : Nat) : Int) = row := fun h => (pl_ad_mem h).elim (fun e => absurd e List.not_mem_nil) fun e => e.2.2
  have hv : ∀ n, p ∈ pl_h M s zz [] n → ((p.toNat / 256 : Nat) : Int) = M s 17 := fun n h => (pl_h_mem n h).elim (fun e => absurd e List.not_mem_nil) id
  unfold pl_st pl_cut at h
  repeat' split at h
  all_goals first
    | exact absurd h List.not_mem_nil
    | exact Or.inl (ad h)
    | exact Or.inl (hv _ h)
    | exact Or.inr (Or.inl (ad h))
    | (rename_i q _; exact Or.inr (Or.inr ⟨q.1, q.2, ad h⟩))
theorem pl_head_mem {M : ab_M} {s : Nat} {zz p : Int} (h : p ∈ pl_head M s zz []) : ((p.toNat / 256 : Nat) : Int) = M s 17 ∨ ((p.toNat / 256 : Nat) : Int) = M s 18 := by
  unfold pl_head at h
  split at h
  · exact (pl_hs_mem _ _ _ h).elim (fun e => absurd e List.not_mem_nil) id
  · exact absurd h List.not_mem_nil
/-- the row to which a place belongs -/
def gc_w (M : ab_M) (cut : Int) (j q : Nat) : Prop := (j / 256 = q ∧ (q : Int) < M 26 3) ∨ (∃ l : Nat, (l : Int) < M 26 8 ∧ j / 256 = 122 + l ∧ M 392 l = (q : Int)) ∨ (cut = 1 ∧ ∃ l : Nat, (l : Int) < M 26 8 ∧ j / 256 = 126 + l ∧ M 392 l = (q : Int))
theorem gc_fd_row {M : ab_M} (hL : gc_L M) {r : Nat} (hr : (r : Int) < M 26 3) (zz cut : Int) : pl_fd M (r : Int) zz cut = pl_st M (26 + 1 + 1 + 3 * r) zz cut [] := by
  have := hL.1
  unfold pl_fd st_at
  rw [if_pos (by omega), if_pos ⟨by omega, hr⟩]
  rfl
theorem lp_at_of {M : ab_M} {l q : Nat} (hl : (l : Int) < M 26 8) (h : M 392 l = (q : Int)) (hq : (q : Int) < M 26 3) : lp_at M (l : Int) = 26 + 1 + 1 + 3 * q := by
  unfold lp_at
  rw [show ((l : Int).toNat) = l from rfl, h, if_pos ⟨by omega, hl, by omega, hq⟩]
  rfl
theorem gc_fd_back {M : ab_M} {l q : Nat} (h4 : M 26 8 ≤ 4) (hl : (l : Int) < M 26 8) (h : M 392 l = (q : Int)) (hq : (q : Int) < M 26 3) (zz cut : Int) : pl_fd M ((122 + l : Nat) : Int) zz cut = if cut = 0 then (-1, pl_ad (q : Int) zz []) else (if tv M (M (26 + 1 + 1 + 3 * q) 3) zz = 0 then M (26 + 1 + 1 + 3 * q) 4 + 1 else -1, []) := by
  unfold pl_fd pl_back
  rw [if_neg (by omega), if_neg (by omega), if_pos (by omega), show (((122 + l : Nat) : Int) - 122) = (l : Int) by omega, lp_at_of hl h hq, show ((l : Int).toNat) = l from rfl, h, if_pos (c := 0 ≤ (l : Int) ∧ _) ⟨by omega, hl⟩]
theorem gc_fd_head {M : ab_M} {l q : Nat} (h4 : M 26 8 ≤ 4) (hl : (l : Int) < M 26 8) (h : M 392 l = (q : Int)) (hq : (q : Int) < M 26 3) (zz cut : Int) : pl_fd M ((126 + l : Nat) : Int) zz cut = (-1, pl_head M (26 + 1 + 1 + 3 * q) zz []) := by
  unfold pl_fd
  rw [if_neg (by omega), if_pos (by omega), show (((126 + l : Nat) : Int) - 126) = (l : Int) by omega, lp_at_of hl h hq]
/-- where a place leads: behind it, to the end of a block in which it stands, to its own head, to its own loop -/
def gc_to (M : ab_M) (cut : Int) (j q r : Nat) : Prop := r = 120 ∨ r = 121 ∨ (q < r ∧ (r : Int) < M 26 3 ∧ True) ∨ (∃ l x : Nat, (l : Int) < M 26 8 ∧ r = 122 + l ∧ M 392 l = (x : Int) ∧ x ≤ q ∧ (q : Int) ≤ M (26 + 1 + 1 + 3 * x) 14) ∨ (cut = 1 ∧ j / 256 = q ∧ ∃ l : Nat, (l : Int) < M 26 8 ∧ M 392 l = (q : Int) ∧ r = 126 + l) ∨ (cut = 0 ∧ r = q ∧ ∃ l : Nat, (l : Int) < M 26 8 ∧ M 392 l = (q : Int) ∧ j / 256 = 122 + l)
theorem gc_succ {M : ab_M} (hL : gc_L M) (hp : ts_p M) {cut : Int} {j q : Nat} (h : gc_w M cut j q) {p : Int} (hm : p ∈ gc_S M cut j) : gc_to M cut j q (p.toNat / 256) := by
  have h3 := hL.1
  have h8 := hp.2.1
  have hT : (q : Int) < M 26 3 → ((j / 256 : Nat) : Int) < 120 ∨ 126 ≤ j / 256 → ∀ g, (g = M (26 + 1 + 1 + 3 * q) 17 ∨ g = M (26 + 1 + 1 + 3 * q) 18) → ((p.toNat / 256 : Nat) : Int) = g → gc_to M cut j q (p.toNat / 256) := fun hq hj g hg e => by
    have hgT : gc_T M q g := by
      rcases hg with hg | hg
      · rw [hg]; exact (hL.2.1 q hq).1
      · rw [hg]; exact (hL.2.1 q hq).2
    rw [← e] at hgT
    rcases hgT with z | z | z | ⟨l, x, z1, z2⟩
    · exact Or.inr (Or.inr (Or.inl ⟨by omega, z.2, trivial⟩))
    · exact Or.inl (by omega)
    · exact Or.inr (Or.inl (by omega))
    · exact Or.inr (Or.inr (Or.inr (Or.inl ⟨l, x, z2.1, by omega, z2.2⟩)))
  unfold gc_S at hm
  rcases h with ⟨e, hq⟩ | ⟨l, hl, e, h392⟩ | ⟨hc, l, hl, e, h392⟩
  · rw [e, gc_fd_row hL hq] at hm
    rcases pl_st_mem hm with z | z | ⟨z1, z2, z⟩
    · exact hT hq (by omega) _ (Or.inl rfl) z
    · exact hT hq (by omega) _ (Or.inr rfl) z
    · obtain ⟨l, y1, y2, y3, -⟩ := hL.2.2.1 q hq z1
      exact Or.inr (Or.inr (Or.inr (Or.inr (Or.inl ⟨z2, e, l, y1, y3, by omega⟩))))
  · obtain ⟨r, y1, y2, -⟩ := hL.2.2.2.1 l hl
    have hq : (q : Int) < M 26 3 := by omega
    rw [e, gc_fd_back h8.2 hl h392 hq] at hm
    split at hm
    · rename_i hc
      dsimp only at hm
      rcases pl_ad_mem hm with z | z
      · exact absurd z List.not_mem_nil
      · exact Or.inr (Or.inr (Or.inr (Or.inr (Or.inr ⟨hc, by omega, l, hl, h392, e⟩))))
    · exact absurd hm List.not_mem_nil
  · obtain ⟨r, y1, y2, -⟩ := hL.2.2.2.1 l hl
    have hq : (q : Int) < M 26 3 := by omega
    rw [e, gc_fd_head h8.2 hl h392 hq] at hm
    rcases pl_head_mem hm with z | z
    · exact hT hq (by omega) _ (Or.inl rfl) z
    · exact hT hq (by omega) _ (Or.inr rfl) z
/-- the places in which a run can be -/
def gc_D (M : ab_M) (cut : Int) (j : Nat) : Prop := j / 256 = 120 ∨ j / 256 = 121 ∨ ∃ q, gc_w M cut j q
theorem gc_w_lt {M : ab_M} (hL : gc_L M) {cut : Int} {j q : Nat} (h : gc_w M cut j q) : (q : Int) < M 26 3 := by
  rcases h with h | ⟨l, hl, -, h⟩ | ⟨-, l, hl, -, h⟩
  · exact h.2
  · obtain ⟨r, y1, y2, -⟩ := hL.2.2.2.1 l hl
    omega
  · obtain ⟨r, y1, y2, -⟩ := hL.2.2.2.1 l hl
    omega
theorem gc_to_w {M : ab_M} {cut : Int} {j q i : Nat} (hq : (q : Int) < M 26 3) (h : gc_to M cut j q (i / 256)) : i / 256 = 120 ∨ i / 256 = 121 ∨ ∃ q', gc_w M cut i q' ∧ (q ≤ q' ∨ (q' ≤ q ∧ (q : Int) ≤ M (26 + 1 + 1 + 3 * q') 14)) := by
  rcases h with h | h | ⟨h1, h2, -⟩ | ⟨l, x, h1, h2, h3, h4⟩ | ⟨h0, h1, l, h2, h3, h4⟩ | ⟨h0, h1, -⟩
  · exact Or.inl h
  · exact Or.inr (Or.inl h)
  · exact Or.inr (Or.inr ⟨i / 256, Or.inl ⟨rfl, h2⟩, Or.inl (by omega)⟩)
  · exact Or.inr (Or.inr ⟨x, Or.inr (Or.inl ⟨l, h1, h2, h3⟩), Or.inr h4⟩)
  · exact Or.inr (Or.inr ⟨q, Or.inr (Or.inr ⟨h0, l, h2, h4, h3⟩), Or.inl (Nat.le_refl _)⟩)
  · exact Or.inr (Or.inr ⟨q, Or.inl ⟨h1, hq⟩, Or.inl (Nat.le_refl _)⟩)
theorem gc_S_end {M : ab_M} {cut : Int} {j : Nat} (h : j / 256 = 120 ∨ j / 256 = 121) : gc_S M cut j = [] := by
  unfold gc_S pl_fd
  rw [if_neg (by omega), if_neg (by omega), if_neg (by omega)]
theorem gc_D_S {M : ab_M} (hL : gc_L M) (hp : ts_p M) {cut : Int} {j : Nat} (h : gc_D M cut j) : ∀ p ∈ gc_S M cut j, gc_D M cut p.toNat := by
  intro p hm
  rcases h with h | h | ⟨q, h⟩
  · rw [gc_S_end (Or.inl h)] at hm; exact absurd hm List.not_mem_nil
  · rw [gc_S_end (Or.inr h)] at hm; exact absurd hm List.not_mem_nil
  · rcases gc_to_w (gc_w_lt hL h) (gc_succ hL hp h hm) with z | z | ⟨q', z, -⟩
    · exact Or.inl z
    · exact Or.inr (Or.inl z)
    · exact Or.inr (Or.inr ⟨q', z⟩)
