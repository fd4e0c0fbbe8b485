/-! the reference's code as a graph, by instructions -/
def ck_j (pc : Int) (s : Nat) : Nat := ((pc + 1) * 256 + ((s : Nat) : Int)).toNat
def co_nx (I : co_I) (κ nx : Int) (s : Nat) : List Int :=
  if I.1 = 0 then [(nx + 1) * 256 + ((mp_w s I.2.1 (mp_v s I.2.2.1) : Nat) : Int)]
  else if I.1 = 1 then [(nx + 1) * 256 + ((mp_w s I.2.1 0 : Nat) : Int), (nx + 1) * 256 + ((mp_w s I.2.1 1 : Nat) : Int), (nx + 1) * 256 + ((mp_w s I.2.1 2 : Nat) : Int), (nx + 1) * 256 + ((mp_w s I.2.1 3 : Nat) : Int)]
  else if I.1 = 2 ∨ I.1 = 3 then (if mp_v s I.2.2.1 = 0 then [] else [(nx + 1) * 256 + ((s : Nat) : Int)])
  else if I.1 = 4 then [((if mp_v s I.2.2.1 = 0 then (if I.2.2.2.2 = true then κ else I.2.2.2.1) else nx) + 1) * 256 + ((s : Nat) : Int)]
  else if I.1 = 5 then [((if I.2.2.2.2 = true then κ else I.2.2.2.1) + 1) * 256 + ((s : Nat) : Int)]
  else []
/-- the graph has this instruction at a place -/
def ck_at (S : Nat → List Int) (O : Nat → Prop) (Qf : mp_Q) (κ p : Int) (I : co_I) : Prop := ∀ s : Nat, s < 256 → (O (ck_j p s) ↔ I.1 = 2 ∧ mp_v s I.2.2.1 = 0 ∧ ∃ c : Nat, I.2.1 = (c : Int) ∧ Qf c) ∧ S (ck_j p s) = co_nx I κ (p + 1) s
def co_g (S : Nat → List Int) (O : Nat → Prop) (Qf : mp_Q) (κ : Int) (r : Nat) (L : List co_I) : Prop := ∀ (i : Nat) (I : co_I), L[i]? = some I → ck_at S O Qf κ ((r + i : Nat) : Int) I
abbrev ck_W (S : Nat → List Int) (O : Nat → Prop) (n : Nat) (pc : Int) (s : Nat) : Prop := gx_W S O n (ck_j pc s)
abbrev ck_Y (S : Nat → List Int) (O : Nat → Prop) (pc : Int) (s : Nat) : Prop := ∃ n, ck_W S O n pc s
theorem co_g.left {S : Nat → List Int} {O : Nat → Prop} {Qf : mp_Q} {κ : Int} {r : Nat} {L L' : List co_I} (h : co_g S O Qf κ r (L ++ L')) : co_g S O Qf κ r L := fun i I hi => h i I (by rw [List.getElem?_append_left (List.getElem?_eq_some_iff.1 hi).1]; exact hi)
theorem co_g.right {S : Nat → List Int} {O : Nat → Prop} {Qf : mp_Q} {κ : Int} {r : Nat} {L L' : List co_I} (h : co_g S O Qf κ r (L ++ L')) : co_g S O Qf κ (r + L.length) L' := fun i I hi => by
  have := h (L.length + i) I (by rw [List.getElem?_append_right (by omega), show L.length + i - L.length = i by omega]; exact hi)
  rw [show r + L.length + i = r + (L.length + i) by omega]
  exact this
theorem co_g.head {S : Nat → List Int} {O : Nat → Prop} {Qf : mp_Q} {κ : Int} {r : Nat} {I : co_I} {L : List co_I} (h : co_g S O Qf κ r (I :: L)) : ck_at S O Qf κ ((r : Nat) : Int) I := h 0 I rfl
theorem co_g.tail {S : Nat → List Int} {O : Nat → Prop} {Qf : mp_Q} {κ : Int} {r : Nat} {I : co_I} {L : List co_I} (h : co_g S O Qf κ r (I :: L)) : co_g S O Qf κ (r + 1) L := fun i J hi => by
  have := h (i + 1) J hi
  rw [show r + 1 + i = r + (i + 1) by omega]
  exact this
theorem co_g.pa {S : Nat → List Int} {O : Nat → Prop} {Qf : mp_Q} {κ κ' : Int} {r : Nat} {L : List co_I} (h : co_g S O Qf κ' r (co_pa κ L)) : co_g S O Qf κ r L := fun i I hi s hs => by
  have h1 : (co_pa κ L)[i]? = some (if I.2.2.2.2 = true then (I.1, I.2.1, I.2.2.1, κ, false) else I) := by
    unfold co_pa
    rw [List.getElem?_map, hi]
    rfl
  have h2 := h i _ h1 s hs
  by_cases c : I.2.2.2.2 = true
  · rw [if_pos c] at h2
    refine ⟨h2.1, h2.2.trans ?_⟩
    unfold co_nx
    rw [if_pos c]
    rfl
  · rw [if_neg c] at h2
    refine ⟨h2.1, h2.2.trans ?_⟩
    unfold co_nx
    rw [if_neg c, if_neg c]
section
variable {S : Nat → List Int} {O : Nat → Prop} {Qf : mp_Q} {κ p : Int} {n s : Nat}
theorem ck_st {I : co_I} (h : ck_at S O Qf κ p I) (hs : s < 256) (hW : ck_W S O n p s) : (I.1 = 2 ∧ mp_v s I.2.2.1 = 0 ∧ ∃ c : Nat, I.2.1 = (c : Int) ∧ Qf c) ∨ ∃ q ∈ co_nx I κ (p + 1) s, ∃ m, m < n ∧ gx_W S O m q.toNat := by
  have := gx_W_st hW
  rw [(h s hs).1, (h s hs).2] at this
  exact this
theorem ck_bk {I : co_I} (h : ck_at S O Qf κ p I) (hs : s < 256) (hW : (I.1 = 2 ∧ mp_v s I.2.2.1 = 0 ∧ ∃ c : Nat, I.2.1 = (c : Int) ∧ Qf c) ∨ ∃ q ∈ co_nx I κ (p + 1) s, ∃ m, gx_W S O m q.toNat) : ck_Y S O p s := by
  refine gx_R ?_
  rw [(h s hs).1, (h s hs).2]
  exact hW
theorem ck_f0 {v t : Int} {w : List Int} {g : Bool} (h : ck_at S O Qf κ p (0, v, w, t, g)) (hs : s < 256) (hW : ck_W S O n p s) : ∃ m, m < n ∧ ck_W S O m (p + 1) (mp_w s v (mp_v s w)) := by
  rcases ck_st h hs hW with h | ⟨q, h1, m, h2, h3⟩
  · exact absurd h.1 (by show ¬ (0 : Int) = 2; decide)
  · have h1 : q ∈ [(p + 1 + 1) * 256 + ((mp_w s v (mp_v s w) : Nat) : Int)] := h1
    rw [List.mem_singleton.1 h1] at h3
    exact ⟨m, h2, h3⟩
theorem ck_f1 {v t : Int} {w : List Int} {g : Bool} (h : ck_at S O Qf κ p (1, v, w, t, g)) (hs : s < 256) (hW : ck_W S O n p s) : ∃ x : Nat, x < 4 ∧ ∃ m, m < n ∧ ck_W S O m (p + 1) (mp_w s v ((x : Nat) : Int)) := by
  rcases ck_st h hs hW with h | ⟨q, h1, m, h2, h3⟩
  · exact absurd h.1 (by show ¬ (1 : Int) = 2; decide)
  · have h1 : q ∈ [(p + 1 + 1) * 256 + ((mp_w s v 0 : Nat) : Int), (p + 1 + 1) * 256 + ((mp_w s v 1 : Nat) : Int), (p + 1 + 1) * 256 + ((mp_w s v 2 : Nat) : Int), (p + 1 + 1) * 256 + ((mp_w s v 3 : Nat) : Int)] := h1
    rcases List.mem_cons.1 h1 with e | h1
    · rw [e] at h3; exact ⟨0, by decide, m, h2, h3⟩
    rcases List.mem_cons.1 h1 with e | h1
    · rw [e] at h3; exact ⟨1, by decide, m, h2, h3⟩
    rcases List.mem_cons.1 h1 with e | h1
    · rw [e] at h3; exact ⟨2, by decide, m, h2, h3⟩
    · rw [List.mem_singleton.1 h1] at h3; exact ⟨3, by decide, m, h2, h3⟩
theorem ck_f2 {t : Int} {c : Int} {w : List Int} {g : Bool} (h : ck_at S O Qf κ p (2, c, w, t, g)) (hs : s < 256) (hW : ck_W S O n p s) : (mp_v s w = 0 ∧ ∃ c' : Nat, c = (c' : Int) ∧ Qf c') ∨ (¬ mp_v s w = 0 ∧ ∃ m, m < n ∧ ck_W S O m (p + 1) s) := by
  rcases ck_st h hs hW with h | ⟨q, h1, m, h2, h3⟩
  · exact Or.inl h.2
  · have h1 : q ∈ (if mp_v s w = 0 then [] else [(p + 1 + 1) * 256 + ((s : Nat) : Int)]) := h1
    by_cases z : mp_v s w = 0
    · rw [if_pos z] at h1; exact absurd h1 List.not_mem_nil
    · rw [if_neg z] at h1
      rw [List.mem_singleton.1 h1] at h3
      exact Or.inr ⟨z, m, h2, h3⟩
theorem ck_f3 {v t : Int} {w : List Int} {g : Bool} (h : ck_at S O Qf κ p (3, v, w, t, g)) (hs : s < 256) (hW : ck_W S O n p s) : ¬ mp_v s w = 0 ∧ ∃ m, m < n ∧ ck_W S O m (p + 1) s := by
  rcases ck_st h hs hW with h | ⟨q, h1, m, h2, h3⟩
  · exact absurd h.1 (by show ¬ (3 : Int) = 2; decide)
  · have h1 : q ∈ (if mp_v s w = 0 then [] else [(p + 1 + 1) * 256 + ((s : Nat) : Int)]) := h1
    by_cases z : mp_v s w = 0
    · rw [if_pos z] at h1; exact absurd h1 List.not_mem_nil
    · rw [if_neg z] at h1
      rw [List.mem_singleton.1 h1] at h3
      exact ⟨z, m, h2, h3⟩
theorem ck_f4 {v t : Int} {w : List Int} (h : ck_at S O Qf κ p (4, v, w, t, false)) (hs : s < 256) (hW : ck_W S O n p s) : ∃ m, m < n ∧ ck_W S O m (if mp_v s w = 0 then t else p + 1) s := by
  rcases ck_st h hs hW with h | ⟨q, h1, m, h2, h3⟩
  · exact absurd h.1 (by show ¬ (4 : Int) = 2; decide)
  · have h1 : q ∈ [((if mp_v s w = 0 then t else p + 1) + 1) * 256 + ((s : Nat) : Int)] := h1
    rw [List.mem_singleton.1 h1] at h3
    exact ⟨m, h2, h3⟩
theorem ck_f5 {v t : Int} {w : List Int} {g : Bool} (h : ck_at S O Qf κ p (5, v, w, t, g)) (hs : s < 256) (hW : ck_W S O n p s) : ∃ m, m < n ∧ ck_W S O m (if g = true then κ else t) s := by
  rcases ck_st h hs hW with h | ⟨q, h1, m, h2, h3⟩
  · exact absurd h.1 (by show ¬ (5 : Int) = 2; decide)
  · have h1 : q ∈ [((if g = true then κ else t) + 1) * 256 + ((s : Nat) : Int)] := h1
    rw [List.mem_singleton.1 h1] at h3
    exact ⟨m, h2, h3⟩
theorem ck_f6 {v t : Int} {w : List Int} {g : Bool} (h : ck_at S O Qf κ p (6, v, w, t, g)) (hs : s < 256) (hW : ck_W S O n p s) : False := by
  rcases ck_st h hs hW with h | ⟨q, h1, m, h2, h3⟩
  · exact absurd h.1 (by show ¬ (6 : Int) = 2; decide)
  · have h1 : q ∈ ([] : List Int) := h1
    exact absurd h1 List.not_mem_nil
theorem ck_b0 {v t : Int} {w : List Int} {g : Bool} (h : ck_at S O Qf κ p (0, v, w, t, g)) (hs : s < 256) (hW : ck_Y S O (p + 1) (mp_w s v (mp_v s w))) : ck_Y S O p s := ck_bk h hs (Or.inr ⟨_, List.mem_singleton.2 rfl, hW⟩)
theorem ck_b1 {v t : Int} {w : List Int} {g : Bool} (h : ck_at S O Qf κ p (1, v, w, t, g)) (hs : s < 256) {x : Nat} (hx : x < 4) (hW : ck_Y S O (p + 1) (mp_w s v ((x : Nat) : Int))) : ck_Y S O p s := by
  refine ck_bk h hs (Or.inr ⟨(p + 1 + 1) * 256 + ((mp_w s v ((x : Nat) : Int) : Nat) : Int), ?_, hW⟩)
  show _ ∈ [(p + 1 + 1) * 256 + ((mp_w s v 0 : Nat) : Int), (p + 1 + 1) * 256 + ((mp_w s v 1 : Nat) : Int), (p + 1 + 1) * 256 + ((mp_w s v 2 : Nat) : Int), (p + 1 + 1) * 256 + ((mp_w s v 3 : Nat) : Int)]
  have hc : x = 0 ∨ x = 1 ∨ x = 2 ∨ x = 3 := by omega
  rcases hc with rfl | rfl | rfl | rfl
  · exact List.mem_cons_self
  · exact List.mem_cons_of_mem _ List.mem_cons_self
  · exact List.mem_cons_of_mem _ (List.mem_cons_of_mem _ List.mem_cons_self)
  · exact List.mem_cons_of_mem _ (List.mem_cons_of_mem _ (List.mem_cons_of_mem _ List.mem_cons_self))
theorem ck_b2 {t : Int} {c : Nat} {w : List Int} {g : Bool} (h : ck_at S O Qf κ p (2, (c : Int), w, t, g)) (hs : s < 256) (hW : (mp_v s w = 0 ∧ Qf c) ∨ (¬ mp_v s w = 0 ∧ ck_Y S O (p + 1) s)) : ck_Y S O p s := by
  refine ck_bk h hs ?_
  rcases hW with ⟨z, h1⟩ | ⟨z, h1⟩
  · exact Or.inl ⟨rfl, z, c, rfl, h1⟩
  · refine Or.inr ⟨(p + 1 + 1) * 256 + ((s : Nat) : Int), ?_, h1⟩
    show _ ∈ (if mp_v s w = 0 then [] else [(p + 1 + 1) * 256 + ((s : Nat) : Int)])
    rw [if_neg z]
    exact List.mem_singleton.2 rfl
theorem ck_b3 {v t : Int} {w : List Int} {g : Bool} (h : ck_at S O Qf κ p (3, v, w, t, g)) (hs : s < 256) (z : ¬ mp_v s w = 0) (hW : ck_Y S O (p + 1) s) : ck_Y S O p s := by
  refine ck_bk h hs (Or.inr ⟨(p + 1 + 1) * 256 + ((s : Nat) : Int), ?_, hW⟩)
  show _ ∈ (if mp_v s w = 0 then [] else [(p + 1 + 1) * 256 + ((s : Nat) : Int)])
  rw [if_neg z]
  exact List.mem_singleton.2 rfl
theorem ck_b4 {v t : Int} {w : List Int} (h : ck_at S O Qf κ p (4, v, w, t, false)) (hs : s < 256) (hW : ck_Y S O (if mp_v s w = 0 then t else p + 1) s) : ck_Y S O p s := ck_bk h hs (Or.inr ⟨_, List.mem_singleton.2 rfl, hW⟩)
theorem ck_b5 {v t : Int} {w : List Int} {g : Bool} (h : ck_at S O Qf κ p (5, v, w, t, g)) (hs : s < 256) (hW : ck_Y S O (if g = true then κ else t) s) : ck_Y S O p s := ck_bk h hs (Or.inr ⟨_, List.mem_singleton.2 rfl, hW⟩)
end
theorem ck_mk_b : ∀ a b c d : Bool, pz_b (pz_mk4 a b c d) 0 = a ∧ pz_b (pz_mk4 a b c d) 1 = b ∧ pz_b (pz_mk4 a b c d) 2 = c ∧ pz_b (pz_mk4 a b c d) 3 = d := by decide +kernel
theorem ck_mk_v (f : Nat → Bool) {v : Nat} (hv : v < 4) : pz_b (pz_mk f) v = f v := by
  have h := ck_mk_b (f 0) (f 1) (f 2) (f 3)
  have hc : v = 0 ∨ v = 1 ∨ v = 2 ∨ v = 3 := by omega
  unfold pz_mk
  rcases hc with rfl | rfl | rfl | rfl
  · exact h.1
  · exact h.2.1
  · exact h.2.2.1
  · exact h.2.2.2
/-- the rows for a loop's variables -/
theorem ck_hv {S : Nat → List Int} {O : Nat → Prop} {Qf : mp_Q} {κ : Int} {f : Nat → Bool} : ∀ (k : Nat), k ≤ 4 → ∀ (r : Nat), co_g S O Qf κ r ((em_h (pz_mk f) k).map co_of) → (∀ n s, s < 256 → ck_W S O n ((r : Nat) : Int) s → mp_hv f k (ck_W S O n ((r + (em_h (pz_mk f) k).length : Nat) : Int)) s) ∧ ∀ s, s < 256 → mp_hv f k (ck_Y S O ((r + (em_h (pz_mk f) k).length : Nat) : Int)) s → ck_Y S O ((r : Nat) : Int) s
  | 0, _, r, _ => ⟨fun n s _ h => h, fun s _ h => h⟩
  | k + 1, hk, r, h => by
    have mono : ∀ (j : Nat), j ≤ 4 → ∀ (Q Q' : mp_Q), mp_le Q Q' → mp_le (mp_hv f j Q) (mp_hv f j Q') := fun j hj Q Q' hQ s hs h => by
      rw [mp_hv_iff j hj _ s hs] at h ⊢
      obtain ⟨s', h1, h2, h3⟩ := h
      exact ⟨s', h1, h2, hQ s' h1 h3⟩
    have e : em_h (pz_mk f) (k + 1) = em_h (pz_mk f) k ++ (if pz_b (pz_mk f) k = true then [(1, (k : Int), 0, [])] else []) := rfl
    rw [ck_mk_v f (by omega)] at e
    rw [e] at h ⊢
    rw [List.map_append] at h
    obtain ⟨i1, i2⟩ := ck_hv k (by omega) r h.left
    by_cases c : f k = true
    · rw [if_pos c] at h ⊢
      have hh := h.right.head
      rw [List.length_map] at hh
      have hh : ck_at S O Qf κ ((r + (em_h (pz_mk f) k).length : Nat) : Int) (1, (k : Int), [], 0, false) := hh
      have e1 : ((r + (em_h (pz_mk f) k ++ [((1 : Int), (k : Int), (0 : Int), ([] : List Int))]).length : Nat) : Int) = ((r + (em_h (pz_mk f) k).length : Nat) : Int) + 1 := by rw [List.length_append, List.length_singleton]; omega
      rw [e1]
      refine ⟨fun n s hs hW => mono k (by omega) _ _ (fun s2 hs2 h2 => ?_) s hs (i1 n s hs hW), fun s hs hW => i2 s hs (mono k (by omega) _ _ (fun s2 hs2 h2 => ?_) s hs hW)⟩
      · show (if f k = true then _ else _)
        rw [if_pos c]
        obtain ⟨x, x1, m, x2, x3⟩ := ck_f1 hh hs2 h2
        exact ⟨x, x1, gx_W_le (Nat.le_of_lt x2) x3⟩
      · have h2 : (if f k = true then ∃ x : Nat, x < 4 ∧ ck_Y S O (((r + (em_h (pz_mk f) k).length : Nat) : Int) + 1) (mp_w s2 ((k : Nat) : Int) ((x : Nat) : Int)) else ck_Y S O (((r + (em_h (pz_mk f) k).length : Nat) : Int) + 1) s2) := h2
        rw [if_pos c] at h2
        obtain ⟨x, x1, x2⟩ := h2
        exact ck_b1 hh hs2 x1 x2
    · rw [if_neg c] at h ⊢
      rw [List.append_nil]
      refine ⟨fun n s hs hW => mono k (by omega) _ _ (fun s2 hs2 h2 => ?_) s hs (i1 n s hs hW), fun s hs hW => i2 s hs (mono k (by omega) _ _ (fun s2 hs2 h2 => ?_) s hs hW)⟩
      · show (if f k = true then _ else _)
        rw [if_neg c]; exact h2
      · have h2 : (if f k = true then ∃ x : Nat, x < 4 ∧ ck_Y S O ((r + (em_h (pz_mk f) k).length : Nat) : Int) (mp_w s2 ((k : Nat) : Int) ((x : Nat) : Int)) else ck_Y S O ((r + (em_h (pz_mk f) k).length : Nat) : Int) s2) := h2
        rw [if_neg c] at h2; exact h2
