/-! the value of a term -/
/-- the value of a variable in a state -/
def pz_vi (s v : Int) : Int := ab_and (ab_shr s (6 - 2 * v)) 3
/-- the value of a sign with two operands -/
def pz_cb (c a b : Int) : Int := if c = 43 then ab_and (a + b) 3 else if c = 45 then ab_and (a - b) 3 else if c = 61 then (if a = b then 1 else 0) else if c = 60 then (if a < b then 1 else 0) else if c = 38 then (if a ≠ 0 ∧ b ≠ 0 then 1 else 0) else (if a ≠ 0 ∨ b ≠ 0 then 1 else 0)
def pz_v1 (s c : Int) (st : List Int) : List Int := if pz_dig c then (c - 48) :: st else if pz_name c then pz_vi s (c - 97) :: st else if c = 33 then (match st with | a :: t => (if a = 0 then 1 else 0) :: t | [] => []) else match st with | a :: b :: t => pz_cb c a b :: t | _ => []
/-- the stack after the letters of a word, taken from the last to the first -/
def pz_st (s : Int) : List Int → List Int
  | [] => []
  | c :: t => pz_v1 s c (pz_st s t)
/-- the value of a term in a state -/
def pz_val (s : Int) (w : List Int) : Int := (pz_st s w).headD 0
/-- a word of so many terms -/
def pz_gw : List Int → Nat → Prop
  | [], l => l = 0
  | c :: t, l => (pz_two c ∧ ∃ m, l = m + 1 ∧ pz_gw t (m + 2)) ∨ (c = 33 ∧ ∃ m, l = m + 1 ∧ pz_gw t (m + 1)) ∨ ((pz_name c ∨ pz_dig c) ∧ ∃ m, l = m + 1 ∧ pz_gw t m)
theorem pz_gw_of (w : List Int) : ∀ l : Nat, pz_tm w l 0 = (true, w.length) → pz_gw w l := by
  induction w with
  | nil =>
    intro l h
    cases l with
    | zero => rfl
    | succ l => rw [pz_tm] at h; exact absurd (congrArg Prod.fst h) (by decide)
  | cons c t ih =>
    intro l h
    cases l with
    | zero => rw [pz_tm] at h; exact absurd (congrArg Prod.snd h) (by simp)
    | succ l =>
      have key : ∀ m, pz_tm t m (0 + 1) = (true, (c :: t).length) → pz_gw t m := by
        intro m hm
        rw [pz_tm_k] at hm
        have h1 : (pz_tm t m 0).1 = true := congrArg Prod.fst hm
        refine ih m (Prod.ext h1 ?_)
        have h2 := congrArg Prod.snd hm
        simp only [List.length_cons] at h2
        show (pz_tm t m 0).2 = t.length
        omega
      rw [pz_tm] at h
      by_cases h1 : pz_two c
      · rw [if_pos h1] at h; exact Or.inl ⟨h1, l, rfl, key _ h⟩
      · rw [if_neg h1] at h
        by_cases h2 : c = 33
        · rw [if_pos h2] at h; exact Or.inr (Or.inl ⟨h2, l, rfl, key _ h⟩)
        · rw [if_neg h2] at h
          by_cases h3 : pz_name c ∨ pz_dig c
          · rw [if_pos h3] at h; exact Or.inr (Or.inr ⟨h3, l, rfl, key _ h⟩)
          · rw [if_neg h3] at h; exact absurd (congrArg Prod.fst h) (by simp)
theorem pz_and3 (x : Int) : 0 ≤ ab_and x 3 ∧ ab_and x 3 ≤ 3 := by
  unfold ab_and
  have e : (Int32.ofInt x &&& Int32.ofInt 3).toInt = (((Int32.ofInt x).toBitVec.toNat &&& 3 : Nat) : Int) := by
    rw [← Int32.toInt_toBitVec, Int32.toBitVec_and, BitVec.toInt_eq_toNat_of_lt, BitVec.toNat_and]
    · rfl
    · rw [BitVec.toNat_and]
      have := Nat.and_le_right (n := (Int32.ofInt x).toBitVec.toNat) (m := (Int32.ofInt 3).toBitVec.toNat)
      have e3 : (Int32.ofInt 3).toBitVec.toNat = 3 := by decide
      rw [e3] at this ⊢
      omega
  rw [e]
  have := Nat.and_le_right (n := (Int32.ofInt x).toBitVec.toNat) (m := 3)
  omega
theorem pz_vi_r (s v : Int) : 0 ≤ pz_vi s v ∧ pz_vi s v ≤ 3 := pz_and3 _
theorem pz_cb_r (c a b : Int) : 0 ≤ pz_cb c a b ∧ pz_cb c a b ≤ 3 := by
  unfold pz_cb
  have h1 := pz_and3 (a + b)
  have h2 := pz_and3 (a - b)
  by_cases g1 : c = 43
  · rw [if_pos g1]; exact h1
  rw [if_neg g1]
  by_cases g2 : c = 45
  · rw [if_pos g2]; exact h2
  rw [if_neg g2]
  clear h1 h2
  repeat' split
  all_goals exact ⟨by decide, by decide⟩
theorem pz_st_len (s : Int) (w : List Int) : ∀ l : Nat, pz_gw w l → (pz_st s w).length = l ∧ l ≤ w.length ∧ ∀ x ∈ pz_st s w, 0 ≤ x ∧ x ≤ 3 := by
  induction w with
  | nil => intro l h; exact ⟨h.symm, Nat.le_of_eq h, fun x hx => absurd hx (by simp [pz_st])⟩
  | cons c t ih =>
    intro l h
    rcases h with ⟨h1, m, rfl, h2⟩ | ⟨h1, m, rfl, h2⟩ | ⟨h1, m, rfl, h2⟩
    · obtain ⟨i1, i2, i3⟩ := ih _ h2
      have n1 : ¬ pz_dig c := by unfold pz_two at h1; unfold pz_dig; omega
      have n2 : ¬ pz_name c := by unfold pz_two at h1; unfold pz_name; omega
      have n3 : ¬ c = 33 := by unfold pz_two at h1; omega
      show (pz_v1 s c (pz_st s t)).length = m + 1 ∧ m + 1 ≤ t.length + 1 ∧ ∀ x ∈ pz_v1 s c (pz_st s t), _
      unfold pz_v1
      rw [if_neg n1, if_neg n2, if_neg n3]
      cases hs : pz_st s t with
      | nil => rw [hs] at i1; simp at i1
      | cons a u =>
        cases u with
        | nil => rw [hs] at i1; simp at i1
        | cons b u =>
          rw [hs] at i1 i3
          refine ⟨by simp only [List.length_cons] at i1 ⊢; omega, by omega, fun x hx => ?_⟩
          rcases List.mem_cons.1 hx with e | e
          · rw [e]; exact pz_cb_r _ _ _
          · exact i3 x (List.mem_cons_of_mem _ (List.mem_cons_of_mem _ e))
    · obtain ⟨i1, i2, i3⟩ := ih _ h2
      have n1 : ¬ pz_dig c := by unfold pz_dig; omega
      have n2 : ¬ pz_name c := by unfold pz_name; omega
      show (pz_v1 s c (pz_st s t)).length = m + 1 ∧ m + 1 ≤ t.length + 1 ∧ ∀ x ∈ pz_v1 s c (pz_st s t), _
      unfold pz_v1
      rw [if_neg n1, if_neg n2, if_pos h1]
      cases hs : pz_st s t with
      | nil => rw [hs] at i1; simp at i1
      | cons a u =>
        rw [hs] at i1 i3
        refine ⟨i1, by omega, fun x hx => ?_⟩
        rcases List.mem_cons.1 hx with e | e
        · rw [e]; split <;> exact ⟨by decide, by decide⟩
        · exact i3 x (List.mem_cons_of_mem _ e)
    · obtain ⟨i1, i2, i3⟩ := ih _ h2
      show (pz_v1 s c (pz_st s t)).length = m + 1 ∧ m + 1 ≤ t.length + 1 ∧ ∀ x ∈ pz_v1 s c (pz_st s t), _
      unfold pz_v1
      by_cases n1 : pz_dig c
      · rw [if_pos n1]
        refine ⟨by rw [List.length_cons, i1], by omega, fun x hx => ?_⟩
        rcases List.mem_cons.1 hx with e | e
        · rw [e]; unfold pz_dig at n1; omega
        · exact i3 x e
      · rw [if_neg n1, if_pos (h1.resolve_right n1)]
        refine ⟨by rw [List.length_cons, i1], by omega, fun x hx => ?_⟩
        rcases List.mem_cons.1 hx with e | e
        · rw [e]; exact pz_vi_r _ _
        · exact i3 x e
/-- a stack in memory, its top last -/
def vl_S (A : Nat) (M : ab_M) : List Int → Prop
  | [] => True
  | a :: t => M A t.length = a ∧ vl_S A M t
theorem vl_S_up {A : Nat} {M : ab_M} {j : Nat} {x : Int} : ∀ t : List Int, t.length ≤ j → vl_S A M t → vl_S A (ab_up M A j x) t
  | [], _, _ => trivial
  | a :: t, h, g => by
    rw [List.length_cons] at h
    exact ⟨by rw [ab_up_k (by omega)]; exact g.1, vl_S_up t (by omega) g.2⟩
/-- under way: the letters from the place k on are on the stack -/
def vl_I (A : Nat) (s : Int) (w : List Int) (k : Nat) (top : Int) (M M1 : ab_M) : Prop := k ≤ w.length ∧ top = (((pz_st s (w.drop k)).length : Nat) : Int) ∧ (∃ l, pz_gw (w.drop k) l) ∧ vl_S A M1 (pz_st s (w.drop k)) ∧ ∀ o' k' : Nat, o' ≠ A → M1 o' k' = M o' k'
theorem pz_gw_drop {w : List Int} : ∀ k : Nat, k ≤ w.length → (∃ l, pz_gw w l) → ∃ l, pz_gw (w.drop k) l := by
  induction w with
  | nil => intro k _ h; rw [List.drop_nil]; exact h
  | cons c t ih =>
    intro k hk h
    cases k with
    | zero => exact h
    | succ k =>
      rw [List.drop_succ_cons]
      refine ih k (by simp only [List.length_cons] at hk; omega) ?_
      obtain ⟨l, h⟩ := h
      rcases h with ⟨-, m, -, h2⟩ | ⟨-, m, -, h2⟩ | ⟨-, m, -, h2⟩
      · exact ⟨_, h2⟩
      · exact ⟨_, h2⟩
      · exact ⟨_, h2⟩
theorem vl_I.start {A : Nat} {s : Int} {w : List Int} {M : ab_M} : vl_I A s w w.length 0 M M := by
  refine ⟨Nat.le_refl _, ?_, ?_, ?_, fun _ _ _ => rfl⟩
  · rw [List.drop_length]; rfl
  · rw [List.drop_length]; exact ⟨0, rfl⟩
  · rw [List.drop_length]; exact trivial
theorem vl_I.bd {A : Nat} {s : Int} {w : List Int} {k : Nat} {top : Int} {M M1 : ab_M} (h : vl_I A s w k top M M1) : 0 ≤ top ∧ top + k ≤ w.length := by
  obtain ⟨h1, h2, ⟨l, h3⟩, h4, h5⟩ := h
  obtain ⟨g1, g2, -⟩ := pz_st_len s _ l h3
  rw [List.length_drop] at g2
  omega
theorem vl_at {w : List Int} {k : Nat} (h : k < w.length) : w.drop k = pz_at w k :: w.drop (k + 1) := by
  rw [List.drop_eq_getElem_cons h]
  congr 1
  simp [pz_at, h]
/-- what a letter finds on the stack -/
theorem vl_I.need {A : Nat} {s : Int} {w : List Int} {k : Nat} {top : Int} {M M1 : ab_M} (h : vl_I A s w (k + 1) top M M1) (hg : ∃ l, pz_gw w l) : (pz_name (pz_at w k) ∨ pz_dig (pz_at w k)) ∨ (pz_at w k = 33 ∧ 1 ≤ top ∧ 0 ≤ M1 A (top - 1).toNat ∧ M1 A (top - 1).toNat ≤ 3) ∨ (pz_two (pz_at w k) ∧ 2 ≤ top ∧ (0 ≤ M1 A (top - 1).toNat ∧ M1 A (top - 1).toNat ≤ 3) ∧ 0 ≤ M1 A (top - 2).toNat ∧ M1 A (top - 2).toNat ≤ 3) := by
  obtain ⟨h1, h2, -, h4, h5⟩ := h
  obtain ⟨l, hl⟩ := pz_gw_drop k (by omega) hg
  rw [vl_at (by omega)] at hl
  rcases hl with ⟨g1, m, -, g2⟩ | ⟨g1, m, -, g2⟩ | ⟨g1, m, -, g2⟩
  · obtain ⟨i1, i2, i3⟩ := pz_st_len s _ _ g2
    refine Or.inr (Or.inr ⟨g1, by omega, ?_⟩)
    cases hs : pz_st s (w.drop (k + 1)) with
    | nil => rw [hs] at i1; simp at i1
    | cons a u =>
      cases u with
      | nil => rw [hs] at i1; simp at i1
      | cons b u =>
        rw [hs] at h2 h4 i3
        simp only [List.length_cons] at h2
        obtain ⟨j1, j2, -⟩ := h4
        rw [List.length_cons] at j1
        rw [show (top - 1).toNat = u.length + 1 by omega, show (top - 2).toNat = u.length by omega, j1, j2]
        exact ⟨i3 a (by simp), i3 b (by simp)⟩
  · obtain ⟨i1, i2, i3⟩ := pz_st_len s _ _ g2
    refine Or.inr (Or.inl ⟨g1, by omega, ?_⟩)
    cases hs : pz_st s (w.drop (k + 1)) with
    | nil => rw [hs] at i1; simp at i1
    | cons a u =>
      rw [hs] at h2 h4 i3
      simp only [List.length_cons] at h2
      rw [show (top - 1).toNat = u.length by omega, h4.1]
      exact i3 a (by simp)
  · exact Or.inl g1
theorem vl_I.push {A : Nat} {s : Int} {w : List Int} {k : Nat} {top x : Int} {M M1 : ab_M} (h : vl_I A s w (k + 1) top M M1) (hg : ∃ l, pz_gw w l) (hx : pz_dig (pz_at w k) ∧ x = pz_at w k - 48 ∨ pz_name (pz_at w k) ∧ x = pz_vi s (pz_at w k - 97)) : vl_I A s w k (top + 1) M (ab_up M1 A top.toNat x) := by
  obtain ⟨h1, h2, -, h4, h5⟩ := h
  have e : pz_st s (w.drop k) = x :: pz_st s (w.drop (k + 1)) := by
    rw [vl_at (by omega)]
    show pz_v1 s _ _ = _
    unfold pz_v1
    rcases hx with ⟨g1, g2⟩ | ⟨g1, g2⟩
    · rw [if_pos g1, g2]
    · rw [if_neg (by unfold pz_name at g1; unfold pz_dig; omega), if_pos g1, g2]
  refine ⟨by omega, by rw [e, List.length_cons]; omega, pz_gw_drop k (by omega) hg, ?_, fun o' k' q => by rw [ab_up_o q]; exact h5 _ _ q⟩
  rw [e]
  have et : top.toNat = (pz_st s (w.drop (k + 1))).length := by omega
  rw [et]
  exact ⟨ab_up_s, vl_S_up _ (Nat.le_refl _) h4⟩
theorem vl_I.not {A : Nat} {s : Int} {w : List Int} {k : Nat} {top x : Int} {M M1 : ab_M} (h : vl_I A s w (k + 1) top M M1) (hg : ∃ l, pz_gw w l) (hc : pz_at w k = 33) (hx : x = if M1 A (top - 1).toNat = 0 then 1 else 0) : vl_I A s w k top M (ab_up M1 A (top - 1).toNat x) := by
  have hn := h.need hg
  obtain ⟨h1, h2, -, h4, h5⟩ := h
  have ht : 1 ≤ top := by
    rcases hn with g | g | g
    · unfold pz_name pz_dig at g; omega
    · exact g.2.1
    · unfold pz_two at g; omega
  cases hs : pz_st s (w.drop (k + 1)) with
  | nil => rw [hs] at h2; simp at h2; omega
  | cons a u =>
    rw [hs] at h2 h4
    simp only [List.length_cons] at h2
    have et : (top - 1).toNat = u.length := by omega
    rw [et, h4.1] at hx
    have e : pz_st s (w.drop k) = x :: u := by
      rw [vl_at (by omega)]
      show pz_v1 s _ _ = _
      unfold pz_v1
      rw [if_neg (by unfold pz_dig; omega), if_neg (by unfold pz_name; omega), if_pos hc, hs, hx]
    refine ⟨by omega, by rw [e, List.length_cons]; omega, pz_gw_drop k (by omega) hg, ?_, fun o' k' q => by rw [ab_up_o q]; exact h5 _ _ q⟩
    rw [e, et]
    exact ⟨ab_up_s, vl_S_up _ (Nat.le_refl _) h4.2⟩
theorem vl_I.two {A : Nat} {s : Int} {w : List Int} {k : Nat} {top x : Int} {M M1 : ab_M} (h : vl_I A s w (k + 1) top M M1) (hg : ∃ l, pz_gw w l) (hc : pz_two (pz_at w k)) (hx : x = pz_cb (pz_at w k) (M1 A (top - 1).toNat) (M1 A (top - 1 - 1).toNat)) : vl_I A s w k (top - 1) M (ab_up M1 A (top - 1 - 1).toNat x) := by
  have hn := h.need hg
  obtain ⟨h1, h2, -, h4, h5⟩ := h
  have ht : 2 ≤ top := by
    unfold pz_two at hc
    rcases hn with g | g | g
    · unfold pz_name pz_dig at g; omega
    · omega
    · exact g.2.1
  cases hs : pz_st s (w.drop (k + 1)) with
  | nil => rw [hs] at h2; simp at h2; omega
  | cons a u =>
    cases u with
    | nil => rw [hs] at h2; simp at h2; omega
    | cons b u =>
      rw [hs] at h2 h4
      simp only [List.length_cons] at h2
      obtain ⟨j1, j2, j3⟩ := h4
      rw [List.length_cons] at j1
      have et : (top - 1).toNat = u.length + 1 := by omega
      have eu : (top - 1 - 1).toNat = u.length := by omega
      rw [et, eu, j1, j2] at hx
      have e : pz_st s (w.drop k) = x :: u := by
        rw [vl_at (by omega)]
        show pz_v1 s _ _ = _
        unfold pz_two at hc
        unfold pz_v1
        rw [if_neg (by unfold pz_dig; omega), if_neg (by unfold pz_name; omega), if_neg (by omega), hs, hx]
      refine ⟨by omega, by rw [e, List.length_cons]; omega, pz_gw_drop k (by omega) hg, ?_, fun o' k' q => by rw [ab_up_o q]; exact h5 _ _ q⟩
      rw [e, eu]
      exact ⟨ab_up_s, vl_S_up _ (Nat.le_refl _) j3⟩
theorem vl_I.fin {A : Nat} {s : Int} {w : List Int} {top : Int} {M M1 : ab_M} (h : vl_I A s w 0 top M M1) (hw : pz_ist w) : top = 1 ∧ M1 A 0 = pz_val s w ∧ 0 ≤ pz_val s w ∧ pz_val s w ≤ 3 := by
  obtain ⟨h1, h2, -, h4, h5⟩ := h
  obtain ⟨g1, -, g3⟩ := pz_st_len s w 1 (pz_gw_of w 1 hw)
  rw [List.drop_zero] at h2 h4
  unfold pz_val
  cases hs : pz_st s w with
  | nil => rw [hs] at g1; simp at g1
  | cons a u =>
    rw [hs] at g1 h2 h4 g3
    simp only [List.length_cons] at g1 h2
    refine ⟨by omega, ?_, g3 a (by simp)⟩
    have := h4.1
    rw [show u.length = 0 by omega] at this
    exact this
/-- a term lies in a row from a place on -/
def vl_P (M : ab_M) (A : Nat) (b : Int) (w : List Int) : Prop := 0 ≤ b ∧ pz_ist w ∧ ∀ j : Nat, j < w.length → M A (b.toNat + j) = pz_at w j
theorem vl_uq {M : ab_M} {A : Nat} {b : Int} {w w' : List Int} (h : vl_P M A b w) (h' : vl_P M A b w') (e : w.length = w'.length) : w = w' := by
  refine List.ext_getElem e fun i h1 h2 => ?_
  have a := h.2.2 i h1
  have a' := h'.2.2 i h2
  rw [a] at a'
  simpa [pz_at, h1, h2] using a'
theorem vl_I.lt {A : Nat} {s : Int} {w : List Int} {k : Nat} {top : Int} {M M1 : ab_M} (h : vl_I A s w (k + 1) top M M1) (hg : ∃ l, pz_gw w l) : 33 ≤ pz_at w k ∧ pz_at w k ≤ 124 := by
  have hn := h.need hg
  unfold pz_name pz_dig pz_two at hn
  omega

def S_X7_combined : ab_PT := fun a M K => match a with
  | [.inr (.inl c), .inr (.inl a), .inr (.inl b)] => (ab_ir c ∧ (0 ≤ a ∧ a ≤ 3) ∧ 0 ≤ b ∧ b ≤ 3) ∧ (∀ rx : Int, (rx = pz_cb c a b) → K [Xi rx] M)
  | _ => False
set_option maxRecDepth 20000 in
theorem vc_X7_combined_0 (c : Int) (a : Int) (b : Int) (M : ab_M) (K : List ab_V → ab_M → Prop) (hS : (ab_ir c ∧ (0 ≤ a ∧ a ≤ 3) ∧ 0 ≤ b ∧ b ≤ 3) ∧ (∀ rx : Int, (rx = pz_cb c a b) → K [Xi rx] M)) : (ab_ir c) ∧ ((c = 38 → (ab_ir a) ∧ ((a = 0 → ((0 : Int) = 0 ∨ (0 : Int) = 1) ∧ (∀ r105 : Int, (r105 = (0 : Int)) → K [Xi r105] M)) ∧ (¬ a = 0 → (ab_ir b) ∧ ((b = 0 → ((0 : Int) = 0 ∨ (0 : Int) = 1) ∧ (∀ r105 : Int, (r105 = (0 : Int)) → K [Xi r105] M)) ∧ (¬ b = 0 → ((1 : Int) = 0 ∨ (1 : Int) = 1) ∧ (∀ r105 : Int, (r105 = (1 : Int)) → K [Xi r105] M)))))) ∧ (¬ c = 38 → ((c = 43 → K [Xi (ab_and (a + b) (3 : Int))] M) ∧ (¬ c = 43 → ((c = 45 → K [Xi (ab_and (a - b) (3 : Int))] M) ∧ (¬ c = 45 → ((c = 60 → (ab_ir a ∧ ab_ir b) ∧ ((b ≤ a → ((0 : Int) = 0 ∨ (0 : Int) = 1) ∧ (∀ r88 : Int, (r88 = (0 : Int)) → K [Xi r88] M)) ∧ (a < b → ((1 : Int) = 0 ∨ (1 : Int) = 1) ∧ (∀ r88 : Int, (r88 = (1 : Int)) → K [Xi r88] M)))) ∧ (¬ c = 60 → ((c = 61 → (ab_ir a ∧ ab_ir b) ∧ ((¬ a = b → ((0 : Int) = 0 ∨ (0 : Int) = 1) ∧ (∀ r74 : Int, (r74 = (0 : Int)) → K [Xi r74] M)) ∧ (a = b → ((1 : Int) = 0 ∨ (1 : Int) = 1) ∧ (∀ r74 : Int, (r74 = (1 : Int)) → K [Xi r74] M)))) ∧ (¬ c = 61 → (ab_ir a) ∧ ((¬ a = 0 → ((1 : Int) = 0 ∨ (1 : Int) = 1) ∧ (∀ r122 : Int, (r122 = (1 : Int)) → K [Xi r122] M)) ∧ (a = 0 → (ab_ir b) ∧ ((b = 0 → ((0 : Int) = 0 ∨ (0 : Int) = 1) ∧ (∀ r122 : Int, (r122 = (0 : Int)) → K [Xi r122] M)) ∧ (¬ b = 0 → ((1 : Int) = 0 ∨ (1 : Int) = 1) ∧ (∀ r122 : Int, (r122 = (1 : Int)) → K [Xi r122] M))))))))))))))) := by
  obtain ⟨⟨g1, ⟨g2, g3⟩, g4, g5⟩, gK⟩ := hS
  have ga : ab_ir a := ⟨by omega, by omega⟩
  have gb : ab_ir b := ⟨by omega, by omega⟩
  refine And.intro (by
    first
      | exact g1
      | exact ga
      | exact gb
      | exact ⟨ga, gb⟩
      | omega
      | (split <;> omega)) ?_
  refine ⟨?_, ?_⟩
  · intro c1_38
    refine And.intro (by
      first
        | exact g1
        | exact ga
        | exact gb
        | exact ⟨ga, gb⟩
        | omega
        | (split <;> omega)) ?_
    refine ⟨?_, ?_⟩
    · intro c93
      refine And.intro (by
        first
          | exact g1
          | exact ga
          | exact gb
          | exact ⟨ga, gb⟩
          | omega
          | (split <;> omega)) ?_
      intro r105 hr105
      refine gK _ ?_
      (try rw [hr74])
      (try rw [hr88])
      (try rw [hr105])
      (try rw [hr122])
      unfold pz_cb
      repeat' split
      all_goals first
        | rfl
        | omega
    · intro c93
      refine And.intro (by
        first
          | exact g1
          | exact ga
          | exact gb
          | exact ⟨ga, gb⟩
          | omega
          | (split <;> omega)) ?_
      refine ⟨?_, ?_⟩
      · intro c97
        refine And.intro (by
          first
            | exact g1
            | exact ga
            | exact gb
            | exact ⟨ga, gb⟩
            | omega
            | (split <;> omega)) ?_
        intro r105 hr105
        refine gK _ ?_
        (try rw [hr74])
        (try rw [hr88])
        (try rw [hr105])
        (try rw [hr122])
        unfold pz_cb
        repeat' split
        all_goals first
          | rfl
          | omega
      · intro c97
        refine And.intro (by
          first
            | exact g1
            | exact ga
            | exact gb
            | exact ⟨ga, gb⟩
            | omega
            | (split <;> omega)) ?_
        intro r105 hr105
        refine gK _ ?_
        (try rw [hr74])
        (try rw [hr88])
        (try rw [hr105])
        (try rw [hr122])
        unfold pz_cb
        repeat' split
        all_goals first
          | rfl
          | omega
  · intro c1_38
    refine ⟨?_, ?_⟩
    · intro c1_43
      refine gK _ ?_
      (try rw [hr74])
      (try rw [hr88])
      (try rw [hr105])
      (try rw [hr122])
      unfold pz_cb
      repeat' split
      all_goals first
        | rfl
        | omega
    · intro c1_43
      refine ⟨?_, ?_⟩
      · intro c1_45
        refine gK _ ?_
        (try rw [hr74])
        (try rw [hr88])
        (try rw [hr105])
        (try rw [hr122])
        unfold pz_cb
        repeat' split
        all_goals first
          | rfl
          | omega
      · intro c1_45
        refine ⟨?_, ?_⟩
        · intro c1_60
          refine And.intro (by
            first
              | exact g1
              | exact ga
              | exact gb
              | exact ⟨ga, gb⟩
              | omega
              | (split <;> omega)) ?_
          refine ⟨?_, ?_⟩
          · intro c80
            refine And.intro (by
              first
                | exact g1
                | exact ga
                | exact gb
                | exact ⟨ga, gb⟩
                | omega
                | (split <;> omega)) ?_
            intro r88 hr88
            refine gK _ ?_
            (try rw [hr74])
            (try rw [hr88])
            (try rw [hr105])
            (try rw [hr122])
            unfold pz_cb
            repeat' split
            all_goals first
              | rfl
              | omega
          · intro c80
            refine And.intro (by
              first
                | exact g1
                | exact ga
                | exact gb
                | exact ⟨ga, gb⟩
                | omega
                | (split <;> omega)) ?_
            intro r88 hr88
            refine gK _ ?_
            (try rw [hr74])
            (try rw [hr88])
            (try rw [hr105])
            (try rw [hr122])
            unfold pz_cb
            repeat' split
            all_goals first
              | rfl
              | omega
        · intro c1_60
          refine ⟨?_, ?_⟩
          · intro c1_61
            refine And.intro (by
              first
                | exact g1
                | exact ga
                | exact gb
                | exact ⟨ga, gb⟩
                | omega
                | (split <;> omega)) ?_
            refine ⟨?_, ?_⟩
            · intro c66
              refine And.intro (by
                first
                  | exact g1
                  | exact ga
                  | exact gb
                  | exact ⟨ga, gb⟩
                  | omega
                  | (split <;> omega)) ?_
              intro r74 hr74
              refine gK _ ?_
              (try rw [hr74])
              (try rw [hr88])
              (try rw [hr105])
              (try rw [hr122])
              unfold pz_cb
              repeat' split
              all_goals first
                | rfl
                | omega
            · intro c66
              refine And.intro (by
                first
                  | exact g1
                  | exact ga
                  | exact gb
                  | exact ⟨ga, gb⟩
                  | omega
                  | (split <;> omega)) ?_
              intro r74 hr74
              refine gK _ ?_
              (try rw [hr74])
              (try rw [hr88])
              (try rw [hr105])
              (try rw [hr122])
              unfold pz_cb
              repeat' split
              all_goals first
                | rfl
                | omega
          · intro c1_61
            refine And.intro (by
              first
                | exact g1
                | exact ga
                | exact gb
                | exact ⟨ga, gb⟩
                | omega
                | (split <;> omega)) ?_
            refine ⟨?_, ?_⟩
            · intro c110
              refine And.intro (by
                first
                  | exact g1
                  | exact ga
                  | exact gb
                  | exact ⟨ga, gb⟩
                  | omega
                  | (split <;> omega)) ?_
              intro r122 hr122
              refine gK _ ?_
              (try rw [hr74])
              (try rw [hr88])
              (try rw [hr105])
              (try rw [hr122])
              unfold pz_cb
              repeat' split
              all_goals first
                | rfl
                | omega
            · intro c110
              refine And.intro (by
                first
                  | exact g1
                  | exact ga
                  | exact gb
                  | exact ⟨ga, gb⟩
                  | omega
                  | (split <;> omega)) ?_
              refine ⟨?_, ?_⟩
              · intro c114
                refine And.intro (by
                  first
                    | exact g1
                    | exact ga
                    | exact gb
                    | exact ⟨ga, gb⟩
                    | omega
                    | (split <;> omega)) ?_
                intro r122 hr122
                refine gK _ ?_
                (try rw [hr74])
                (try rw [hr88])
                (try rw [hr105])
                (try rw [hr122])
                unfold pz_cb
                repeat' split
                all_goals first
                  | rfl
                  | omega
              · intro c114
                refine And.intro (by
                  first
                    | exact g1
                    | exact ga
                    | exact gb
                    | exact ⟨ga, gb⟩
                    | omega
                    | (split <;> omega)) ?_
                intro r122 hr122
                refine gK _ ?_
                (try rw [hr74])
                (try rw [hr88])
                (try rw [hr105])
                (try rw [hr122])
                unfold pz_cb
                repeat' split
                all_goals first
                  | rfl
                  | omega

set_option maxRecDepth 20000 in
set_option maxHeartbeats 1000000 in
theorem ok_X7_combined (E : ab_E) : ab_Ok E 2 72 S_X7_combined := by
  refine ab_mk rq_X7_combined tk_X7_combined (rt := 1) (rfl) (cuts := []) (G := [(77, S_X7_oneIf)]) (List.forall_mem_cons.mpr ⟨⟨1, by decide, ok_X7_oneIf E⟩, fun _ h => absurd h List.not_mem_nil⟩) (by decide) 98 rfl ?_
  intro a M K wd wa hS
  unfold S_X7_combined at hS
  split at hS
  ·
    rename_i c a b
    refine ⟨Nat.le_of_ble_eq_true rfl, fun _ _ _ _ _ => False, ?_, ?_⟩
    · exact vc_X7_combined_0 c a b M K  hS
    · exact fun _ _ _ _ _ h => h.elim
  · exact hS.elim
def S_X9_both : ab_PT := fun a M K => match a with
  | [.inr (.inl c), .inr (.inl a), .inr (.inl b)] => (ab_ir c ∧ (0 ≤ a ∧ a ≤ 3) ∧ 0 ≤ b ∧ b ≤ 3) ∧ (∀ rx : Int, (rx = pz_cb c a b) → K [Xi rx] M)
  | _ => False
set_option maxRecDepth 20000 in
theorem vc_X9_both_0 (c : Int) (a : Int) (b : Int) (M : ab_M) (K : List ab_V → ab_M → Prop) (hS : (ab_ir c ∧ (0 ≤ a ∧ a ≤ 3) ∧ 0 ≤ b ∧ b ≤ 3) ∧ (∀ rx : Int, (rx = pz_cb c a b) → K [Xi rx] M)) : (ab_ir c) ∧ ((c = 38 → (ab_ir a) ∧ ((a = 0 → K [Xi (0 : Int)] M) ∧ (¬ a = 0 → (ab_ir b) ∧ ((b = 0 → K [Xi (0 : Int)] M) ∧ (¬ b = 0 → K [Xi (1 : Int)] M))))) ∧ (¬ c = 38 → ((c = 43 → K [Xi (ab_and (a + b) (3 : Int))] M) ∧ (¬ c = 43 → ((c = 45 → K [Xi (ab_and (a - b) (3 : Int))] M) ∧ (¬ c = 45 → ((c = 60 → (ab_ir a ∧ ab_ir b) ∧ ((b ≤ a → K [Xi (0 : Int)] M) ∧ (a < b → K [Xi (1 : Int)] M))) ∧ (¬ c = 60 → ((c = 61 → (ab_ir a ∧ ab_ir b) ∧ ((¬ a = b → K [Xi (0 : Int)] M) ∧ (a = b → K [Xi (1 : Int)] M))) ∧ (¬ c = 61 → (ab_ir a) ∧ ((¬ a = 0 → K [Xi (1 : Int)] M) ∧ (a = 0 → (ab_ir b) ∧ ((b = 0 → K [Xi (0 : Int)] M) ∧ (¬ b = 0 → K [Xi (1 : Int)] M)))))))))))))) := by
  obtain ⟨⟨g1, ⟨g2, g3⟩, g4, g5⟩, gK⟩ := hS
  have ga : ab_ir a := ⟨by omega, by omega⟩
  have gb : ab_ir b := ⟨by omega, by omega⟩
  refine And.intro (by
    first
      | exact g1
      | exact ga
      | exact gb
      | exact ⟨ga, gb⟩
      | omega
      | (split <;> omega)) ?_
  refine ⟨?_, ?_⟩
  · intro c1_38
    refine And.intro (by
      first
        | exact g1
        | exact ga
        | exact gb
        | exact ⟨ga, gb⟩
        | omega
        | (split <;> omega)) ?_
    refine ⟨?_, ?_⟩
    · intro c87
      refine gK _ ?_
      (try rw [hr74])
      (try rw [hr88])
      (try rw [hr105])
      (try rw [hr122])
      unfold pz_cb
      repeat' split
      all_goals first
        | rfl
        | omega
    · intro c87
      refine And.intro (by
        first
          | exact g1
          | exact ga
          | exact gb
          | exact ⟨ga, gb⟩
          | omega
          | (split <;> omega)) ?_
      refine ⟨?_, ?_⟩
      · intro c91
        refine gK _ ?_
        (try rw [hr74])
        (try rw [hr88])
        (try rw [hr105])
        (try rw [hr122])
        unfold pz_cb
        repeat' split
        all_goals first
          | rfl
          | omega
      · intro c91
        refine gK _ ?_
        (try rw [hr74])
        (try rw [hr88])
        (try rw [hr105])
        (try rw [hr122])
        unfold pz_cb
        repeat' split
        all_goals first
          | rfl
          | omega
  · intro c1_38
    refine ⟨?_, ?_⟩
    · intro c1_43
      refine gK _ ?_
      (try rw [hr74])
      (try rw [hr88])
      (try rw [hr105])
      (try rw [hr122])
      unfold pz_cb
      repeat' split
      all_goals first
        | rfl
        | omega
    · intro c1_43
      refine ⟨?_, ?_⟩
      · intro c1_45
        refine gK _ ?_
        (try rw [hr74])
        (try rw [hr88])
        (try rw [hr105])
        (try rw [hr122])
        unfold pz_cb
        repeat' split
        all_goals first
          | rfl
          | omega
      · intro c1_45
        refine ⟨?_, ?_⟩
        · intro c1_60
          refine And.intro (by
            first
              | exact g1
              | exact ga
              | exact gb
              | exact ⟨ga, gb⟩
              | omega
              | (split <;> omega)) ?_
          refine ⟨?_, ?_⟩
          · intro c77
            refine gK _ ?_
            (try rw [hr74])
            (try rw [hr88])
            (try rw [hr105])
            (try rw [hr122])
            unfold pz_cb
            repeat' split
            all_goals first
              | rfl
              | omega
          · intro c77
            refine gK _ ?_
            (try rw [hr74])
            (try rw [hr88])
            (try rw [hr105])
            (try rw [hr122])
            unfold pz_cb
            repeat' split
            all_goals first
              | rfl
              | omega
        · intro c1_60
          refine ⟨?_, ?_⟩
          · intro c1_61
            refine And.intro (by
              first
                | exact g1
                | exact ga
                | exact gb
                | exact ⟨ga, gb⟩
                | omega
                | (split <;> omega)) ?_
            refine ⟨?_, ?_⟩
            · intro c66
              refine gK _ ?_
              (try rw [hr74])
              (try rw [hr88])
              (try rw [hr105])
              (try rw [hr122])
              unfold pz_cb
              repeat' split
              all_goals first
                | rfl
                | omega
            · intro c66
              refine gK _ ?_
              (try rw [hr74])
              (try rw [hr88])
              (try rw [hr105])
              (try rw [hr122])
              unfold pz_cb
              repeat' split
              all_goals first
                | rfl
                | omega
          · intro c1_61
            refine And.intro (by
              first
                | exact g1
                | exact ga
                | exact gb
                | exact ⟨ga, gb⟩
                | omega
                | (split <;> omega)) ?_
            refine ⟨?_, ?_⟩
            · intro c101
              refine gK _ ?_
              (try rw [hr74])
              (try rw [hr88])
              (try rw [hr105])
              (try rw [hr122])
              unfold pz_cb
              repeat' split
              all_goals first
                | rfl
                | omega
            · intro c101
              refine And.intro (by
                first
                  | exact g1
                  | exact ga
                  | exact gb
                  | exact ⟨ga, gb⟩
                  | omega
                  | (split <;> omega)) ?_
              refine ⟨?_, ?_⟩
              · intro c105
                refine gK _ ?_
                (try rw [hr74])
                (try rw [hr88])
                (try rw [hr105])
                (try rw [hr122])
                unfold pz_cb
                repeat' split
                all_goals first
                  | rfl
                  | omega
              · intro c105
                refine gK _ ?_
                (try rw [hr74])
                (try rw [hr88])
                (try rw [hr105])
                (try rw [hr122])
                unfold pz_cb
                repeat' split
                all_goals first
                  | rfl
                  | omega

set_option maxRecDepth 20000 in
set_option maxHeartbeats 1000000 in
theorem ok_X9_both (E : ab_E) : ab_Ok E 1 122 S_X9_both := by
  refine ab_mk rq_X9_both tk_X9_both (rt := 1) (rfl) (cuts := []) (G := []) (fun g hg => by cases hg) (by decide) 94 rfl ?_
  intro a M K wd wa hS
  unfold S_X9_both at hS
  split at hS
  ·
    rename_i c a b
    refine ⟨Nat.le_of_ble_eq_true rfl, fun _ _ _ _ _ => False, ?_, ?_⟩
    · exact vc_X9_both_0 c a b M K  hS
    · exact fun _ _ _ _ _ h => h.elim
  · exact hS.elim
def S_X7_evaluate : ab_PT := fun a M K => match a with
  | [.inr (.inr (.inr (769, 7, 0))), .inr (.inl be), .inr (.inl en), .inr (.inl s)] => (∃ w : List Int, ((M 26 0 = 3 ∧ 0 ≤ M 3 1 ∧ M 3 1 ≤ 640) ∧ vl_P M 4 be w ∧ w.length ≤ 120 ∧ en = be + ((w.length : Nat) : Int) ∧ en ≤ M 3 1) ∧ (∀ rx : Int, ∀ Mx : ab_M, (∀ o' k' : Nat, o' ≠ 771 → Mx o' k' = M o' k') → (rx = pz_val s w ∧ 0 ≤ rx ∧ rx ≤ 3) → K [Xi rx] Mx))
  | _ => False
set_option maxRecDepth 20000 in
theorem vc_X7_evaluate_0 (be : Int) (en : Int) (s : Int) (M : ab_M) (K : List ab_V → ab_M → Prop) (hS : (∃ w : List Int, ((M 26 0 = 3 ∧ 0 ≤ M 3 1 ∧ M 3 1 ≤ 640) ∧ vl_P M 4 be w ∧ w.length ≤ 120 ∧ en = be + ((w.length : Nat) : Int) ∧ en ≤ M 3 1) ∧ (∀ rx : Int, ∀ Mx : ab_M, (∀ o' k' : Nat, o' ≠ 771 → Mx o' k' = M o' k') → (rx = pz_val s w ∧ 0 ≤ rx ∧ rx ≤ 3) → K [Xi rx] Mx))) : (∃ n', ((n' = ((en - (1 : Int)) - be + 1).toNat ∧ be = be ∧ en = en ∧ s = s ∧ be - 1 ≤ (en - (1 : Int)) ∧ (en - (1 : Int)) < en ∧ ∀ w : List Int, vl_P M 4 be w ∧ w.length ≤ 120 ∧ en = be + ((w.length : Nat) : Int) → vl_I 771 s w ((en - (1 : Int)) - be + 1).toNat (0 : Int) M M))) := by
  obtain ⟨w, ⟨⟨g1, g2, g3⟩, g4, g5, g6, g7⟩, gK⟩ := hS
  have g0 := g4.1
  refine ⟨_, rfl, rfl, rfl, rfl, by omega, by omega, fun w' g' => ?_⟩
  have eu := vl_uq g4 g'.1 (by omega)
  subst eu
  rw [show (en - 1 - be + 1).toNat = w.length by omega]
  exact vl_I.start

set_option maxRecDepth 20000 in
theorem vc_X7_evaluate_8 (be : Int) (en : Int) (s : Int) (M : ab_M) (K : List ab_V → ab_M → Prop) (hS : (∃ w : List Int, ((M 26 0 = 3 ∧ 0 ≤ M 3 1 ∧ M 3 1 ≤ 640) ∧ vl_P M 4 be w ∧ w.length ≤ 120 ∧ en = be + ((w.length : Nat) : Int) ∧ en ≤ M 3 1) ∧ (∀ rx : Int, ∀ Mx : ab_M, (∀ o' k' : Nat, o' ≠ 771 → Mx o' k' = M o' k') → (rx = pz_val s w ∧ 0 ≤ rx ∧ rx ≤ 3) → K [Xi rx] Mx))) (n : Nat) (b1 : Int) (e1 : Int) (s1 : Int) (to : Int) (ii : Int) (M1 : ab_M) (hI : n = (ii - be + 1).toNat ∧ be = b1 ∧ en = e1 ∧ s = s1 ∧ be - 1 ≤ ii ∧ ii < en ∧ ∀ w : List Int, vl_P M 4 be w ∧ w.length ≤ 120 ∧ en = be + ((w.length : Nat) : Int) → vl_I 771 s w (ii - be + 1).toNat to M M1) : (ab_ir ii ∧ ab_ir b1) ∧ ((ii < b1 → (ab_ir to) ∧ ((to ≤ 0 → K [Xi (0 : Int)] M1) ∧ (0 < to → (0 ≤ (to - (1 : Int)) ∧ (to - (1 : Int)) < ((120 : Nat) : Int)) ∧ K [Xi (M1 771 ((to - (1 : Int)).toNat))] M1))) ∧ (b1 ≤ ii → (0 ≤ (M1 26 0) ∧ ab_wf (Xr ((M1 26 0).toNat) 6 0)) ∧ (ab_ir ii ∧ 0 ≤ M1 ((M1 26 0).toNat) 1 ∧ M1 ((M1 26 0).toNat) 1 ≤ ((ab_ln (((M1 26 0).toNat) + 1) : Nat) : Int) ∧ ab_ln (((M1 26 0).toNat) + 1) ≤ 640) ∧ (∀ r23 : Int, (r23 = if 0 ≤ ii ∧ ii < M1 ((M1 26 0).toNat) 1 then M1 (((M1 26 0).toNat) + 1) ii.toNat else -1) → (ab_ir r23) ∧ (∀ r30 : Int, (r30 = if 48 ≤ r23 ∧ r23 ≤ 51 then 1 else 0) → (ab_ir r30) ∧ ((¬ r30 = 0 → (ab_ir to ∧ ab_ir ((120 : Nat) : Int)) ∧ ((to < ((120 : Nat) : Int) → (ab_ir r23) ∧ (∀ r64 : Int, (r64 = if 48 ≤ r23 ∧ r23 ≤ 51 then 1 else 0) → (ab_ir r64) ∧ ((r64 = 0 → (-128 ≤ (97 : Int) ∧ (97 : Int) < 128) ∧ (True) ∧ (∀ r84 : Int, (r84 = ab_and (ab_shr s1 (6 - 2 * (r23 - (97 : Int)))) (4 - 1)) → (0 ≤ to ∧ to < ((120 : Nat) : Int)) ∧ (∃ n', n' < n ∧ ((n' = ((ii + (-1)) - be + 1).toNat ∧ be = b1 ∧ en = e1 ∧ s = s1 ∧ be - 1 ≤ (ii + (-1)) ∧ (ii + (-1)) < en ∧ ∀ w : List Int, vl_P M 4 be w ∧ w.length ≤ 120 ∧ en = be + ((w.length : Nat) : Int) → vl_I 771 s w ((ii + (-1)) - be + 1).toNat (to + 1) M (ab_up M1 771 to.toNat r84)))))) ∧ (¬ r64 = 0 → (-128 ≤ (48 : Int) ∧ (48 : Int) < 128) ∧ (0 ≤ to ∧ to < ((120 : Nat) : Int)) ∧ (∃ n', n' < n ∧ ((n' = ((ii + (-1)) - be + 1).toNat ∧ be = b1 ∧ en = e1 ∧ s = s1 ∧ be - 1 ≤ (ii + (-1)) ∧ (ii + (-1)) < en ∧ ∀ w : List Int, vl_P M 4 be w ∧ w.length ≤ 120 ∧ en = be + ((w.length : Nat) : Int) → vl_I 771 s w ((ii + (-1)) - be + 1).toNat (to + 1) M (ab_up M1 771 to.toNat (r23 - (48 : Int)))))))))) ∧ (((120 : Nat) : Int) ≤ to → K [Xi (0 : Int)] M1))) ∧ (r30 = 0 → (ab_ir r23) ∧ (∀ r38 : Int, (r38 = if 97 ≤ r23 ∧ r23 ≤ 100 then 1 else 0) → (ab_ir r38) ∧ ((r38 = 0 → (-128 ≤ (33 : Int) ∧ (33 : Int) < 128) ∧ (ab_ir r23 ∧ ab_ir (33 : Int)) ∧ ((¬ r23 = (33 : Int) → (ab_ir to ∧ ab_ir (2 : Int)) ∧ (((2 : Int) ≤ to → (0 ≤ (to + (-1)) ∧ (to + (-1)) < ((120 : Nat) : Int)) ∧ (0 ≤ ((to + (-1)) - (1 : Int)) ∧ ((to + (-1)) - (1 : Int)) < ((120 : Nat) : Int)) ∧ (ab_ir r23 ∧ (0 ≤ (M1 771 ((to + (-1)).toNat)) ∧ (M1 771 ((to + (-1)).toNat)) ≤ 3) ∧ 0 ≤ (M1 771 (((to + (-1)) - (1 : Int)).toNat)) ∧ (M1 771 (((to + (-1)) - (1 : Int)).toNat)) ≤ 3) ∧ (∀ r178 : Int, (r178 = pz_cb r23 (M1 771 ((to + (-1)).toNat)) (M1 771 (((to + (-1)) - (1 : Int)).toNat))) → (0 ≤ ((to + (-1)) - (1 : Int)) ∧ ((to + (-1)) - (1 : Int)) < ((120 : Nat) : Int)) ∧ (∃ n', n' < n ∧ ((n' = ((ii + (-1)) - be + 1).toNat ∧ be = b1 ∧ en = e1 ∧ s = s1 ∧ be - 1 ≤ (ii + (-1)) ∧ (ii + (-1)) < en ∧ ∀ w : List Int, vl_P M 4 be w ∧ w.length ≤ 120 ∧ en = be + ((w.length : Nat) : Int) → vl_I 771 s w ((ii + (-1)) - be + 1).toNat (to + (-1)) M (ab_up M1 771 (((to + (-1)) - (1 : Int)).toNat) r178)))))) ∧ (to < (2 : Int) → K [Xi (0 : Int)] M1))) ∧ (r23 = (33 : Int) → (ab_ir to ∧ ab_ir (1 : Int)) ∧ (((1 : Int) ≤ to → (0 ≤ (to - (1 : Int)) ∧ (to - (1 : Int)) < ((120 : Nat) : Int)) ∧ (ab_ir (M1 771 ((to - (1 : Int)).toNat))) ∧ ((¬ (M1 771 ((to - (1 : Int)).toNat)) = 0 → ((0 : Int) = 0 ∨ (0 : Int) = 1) ∧ (∀ r134 : Int, (r134 = (0 : Int)) → (0 ≤ (to - (1 : Int)) ∧ (to - (1 : Int)) < ((120 : Nat) : Int)) ∧ (∃ n', n' < n ∧ ((n' = ((ii + (-1)) - be + 1).toNat ∧ be = b1 ∧ en = e1 ∧ s = s1 ∧ be - 1 ≤ (ii + (-1)) ∧ (ii + (-1)) < en ∧ ∀ w : List Int, vl_P M 4 be w ∧ w.length ≤ 120 ∧ en = be + ((w.length : Nat) : Int) → vl_I 771 s w ((ii + (-1)) - be + 1).toNat to M (ab_up M1 771 ((to - (1 : Int)).toNat) r134)))))) ∧ ((M1 771 ((to - (1 : Int)).toNat)) = 0 → ((1 : Int) = 0 ∨ (1 : Int) = 1) ∧ (∀ r134 : Int, (r134 = (1 : Int)) → (0 ≤ (to - (1 : Int)) ∧ (to - (1 : Int)) < ((120 : Nat) : Int)) ∧ (∃ n', n' < n ∧ ((n' = ((ii + (-1)) - be + 1).toNat ∧ be = b1 ∧ en = e1 ∧ s = s1 ∧ be - 1 ≤ (ii + (-1)) ∧ (ii + (-1)) < en ∧ ∀ w : List Int, vl_P M 4 be w ∧ w.length ≤ 120 ∧ en = be + ((w.length : Nat) : Int) → vl_I 771 s w ((ii + (-1)) - be + 1).toNat to M (ab_up M1 771 ((to - (1 : Int)).toNat) r134)))))))) ∧ (to < (1 : Int) → K [Xi (0 : Int)] M1))))) ∧ (¬ r38 = 0 → (ab_ir to ∧ ab_ir ((120 : Nat) : Int)) ∧ ((to < ((120 : Nat) : Int) → (ab_ir r23) ∧ (∀ r64 : Int, (r64 = if 48 ≤ r23 ∧ r23 ≤ 51 then 1 else 0) → (ab_ir r64) ∧ ((r64 = 0 → (-128 ≤ (97 : Int) ∧ (97 : Int) < 128) ∧ (True) ∧ (∀ r84 : Int, (r84 = ab_and (ab_shr s1 (6 - 2 * (r23 - (97 : Int)))) (4 - 1)) → (0 ≤ to ∧ to < ((120 : Nat) : Int)) ∧ (∃ n', n' < n ∧ ((n' = ((ii + (-1)) - be + 1).toNat ∧ be = b1 ∧ en = e1 ∧ s = s1 ∧ be - 1 ≤ (ii + (-1)) ∧ (ii + (-1)) < en ∧ ∀ w : List Int, vl_P M 4 be w ∧ w.length ≤ 120 ∧ en = be + ((w.length : Nat) : Int) → vl_I 771 s w ((ii + (-1)) - be + 1).toNat (to + 1) M (ab_up M1 771 to.toNat r84)))))) ∧ (¬ r64 = 0 → (-128 ≤ (48 : Int) ∧ (48 : Int) < 128) ∧ (0 ≤ to ∧ to < ((120 : Nat) : Int)) ∧ (∃ n', n' < n ∧ ((n' = ((ii + (-1)) - be + 1).toNat ∧ be = b1 ∧ en = e1 ∧ s = s1 ∧ be - 1 ≤ (ii + (-1)) ∧ (ii + (-1)) < en ∧ ∀ w : List Int, vl_P M 4 be w ∧ w.length ≤ 120 ∧ en = be + ((w.length : Nat) : Int) → vl_I 771 s w ((ii + (-1)) - be + 1).toNat (to + 1) M (ab_up M1 771 to.toNat (r23 - (48 : Int)))))))))) ∧ (((120 : Nat) : Int) ≤ to → K [Xi (0 : Int)] M1))))))))))) := by
  obtain ⟨hn, q1, q2, q3, hlo, hhi, hI⟩ := hI
  subst q1
  subst q2
  subst q3
  obtain ⟨w, ⟨⟨g1, g2, g3⟩, g4, g5, g6, g7⟩, gK⟩ := hS
  have hv := hI w ⟨g4, g5, g6⟩
  clear hI
  have hgw : ∃ l, pz_gw w l := ⟨1, pz_gw_of w 1 g4.2.1⟩
  have hbd := hv.bd
  have g0 := g4.1
  have hfr := hv.2.2.2.2
  have e0 : M1 26 0 = 3 := by rw [hfr _ _ (by decide)]; exact g1
  have e1 : M1 3 1 = M 3 1 := hfr _ _ (by decide)
  have e2 : ∀ k, M1 4 k = M 4 k := fun k => hfr _ _ (by decide)
  have l4 : ab_ln 4 = 640 := rfl
  simp only [e0, show (3 : Int).toNat = 3 from rfl, Nat.reduceAdd, e1, e2]
  refine And.intro (by
    first
      | exact hir
      | omega
      | exact Or.inl trivial
      | exact Or.inr trivial
      | exact ⟨by omega, by omega⟩
      | (split <;> exact ⟨by decide, by decide⟩)
      | exact ⟨⟨by omega, by omega⟩, by omega, by omega⟩
      | exact ⟨⟨by omega, by omega⟩, ⟨by omega, by omega⟩⟩) ?_
  refine ⟨?_, ?_⟩
  · intro c11
    refine And.intro (by
      first
        | exact hir
        | omega
        | exact Or.inl trivial
        | exact Or.inr trivial
        | exact ⟨by omega, by omega⟩
        | (split <;> exact ⟨by decide, by decide⟩)
        | exact ⟨⟨by omega, by omega⟩, by omega, by omega⟩
        | exact ⟨⟨by omega, by omega⟩, ⟨by omega, by omega⟩⟩) ?_
    refine ⟨?_, ?_⟩
    · intro c190
      first
        | (exfalso; omega)
        | (rw [show (ii - be + 1).toNat = 0 by omega] at hv
           obtain ⟨f1, f2, f3⟩ := hv.fin g4.2.1
           first
             | (exfalso; omega)
             | (rw [show (to - 1).toNat = 0 by omega, f2]
                exact gK _ _ hfr ⟨rfl, f3⟩))
    · intro c190
      refine And.intro (by
        first
          | exact hir
          | omega
          | exact Or.inl trivial
          | exact Or.inr trivial
          | exact ⟨by omega, by omega⟩
          | (split <;> exact ⟨by decide, by decide⟩)
          | exact ⟨⟨by omega, by omega⟩, by omega, by omega⟩
          | exact ⟨⟨by omega, by omega⟩, ⟨by omega, by omega⟩⟩) ?_
      first
        | (exfalso; omega)
        | (rw [show (ii - be + 1).toNat = 0 by omega] at hv
           obtain ⟨f1, f2, f3⟩ := hv.fin g4.2.1
           first
             | (exfalso; omega)
             | (rw [show (to - 1).toNat = 0 by omega, f2]
                exact gK _ _ hfr ⟨rfl, f3⟩))
  · intro c11
    refine And.intro (by
      exact ⟨by decide, by decide, by decide, by decide⟩) ?_
    refine And.intro (by
      exact ⟨⟨by omega, by omega⟩, g2, by rw [l4]; omega, Nat.le_of_eq l4⟩) ?_
    intro r23 hr23
    obtain ⟨k, hk⟩ : ∃ k : Nat, (ii - be + 1).toNat = k + 1 := ⟨(ii - be).toNat, by omega⟩
    rw [hk] at hv
    have hc : r23 = pz_at w k := by
      rw [hr23, if_pos ⟨by omega, by omega⟩, show ii.toNat = be.toNat + k by omega]
      exact g4.2.2 k (by omega)
    have hlt := hv.lt hgw
    have hne := hv.need hgw
    rw [← hc] at hlt hne
    unfold pz_name pz_dig pz_two at hne
    have hir : ab_ir r23 := ⟨by omega, by omega⟩
    refine And.intro (by
      first
        | exact hir
        | omega
        | exact Or.inl trivial
        | exact Or.inr trivial
        | exact ⟨by omega, by omega⟩
        | (split <;> exact ⟨by decide, by decide⟩)
        | exact ⟨⟨by omega, by omega⟩, by omega, by omega⟩
        | exact ⟨⟨by omega, by omega⟩, ⟨by omega, by omega⟩⟩) ?_
    intro r30 hr30
    refine And.intro (by
      first
        | exact hir
        | omega
        | exact Or.inl trivial
        | exact Or.inr trivial
        | exact ⟨by omega, by omega⟩
        | (split <;> exact ⟨by decide, by decide⟩)
        | exact ⟨⟨by omega, by omega⟩, by omega, by omega⟩
        | exact ⟨⟨by omega, by omega⟩, ⟨by omega, by omega⟩⟩) ?_
    refine ⟨?_, ?_⟩
    · intro c33
      rw [hr30] at c33
      rw [ab_bt] at c33
      clear hr30 r30
      refine And.intro (by
        first
          | exact hir
          | omega
          | exact Or.inl trivial
          | exact Or.inr trivial
          | exact ⟨by omega, by omega⟩
          | (split <;> exact ⟨by decide, by decide⟩)
          | exact ⟨⟨by omega, by omega⟩, by omega, by omega⟩
          | exact ⟨⟨by omega, by omega⟩, ⟨by omega, by omega⟩⟩) ?_
      refine ⟨?_, ?_⟩
      · intro c51
        refine And.intro (by
          first
            | exact hir
            | omega
            | exact Or.inl trivial
            | exact Or.inr trivial
            | exact ⟨by omega, by omega⟩
            | (split <;> exact ⟨by decide, by decide⟩)
            | exact ⟨⟨by omega, by omega⟩, by omega, by omega⟩
            | exact ⟨⟨by omega, by omega⟩, ⟨by omega, by omega⟩⟩) ?_
        intro r64 hr64
        refine And.intro (by
          first
            | exact hir
            | omega
            | exact Or.inl trivial
            | exact Or.inr trivial
            | exact ⟨by omega, by omega⟩
            | (split <;> exact ⟨by decide, by decide⟩)
            | exact ⟨⟨by omega, by omega⟩, by omega, by omega⟩
            | exact ⟨⟨by omega, by omega⟩, ⟨by omega, by omega⟩⟩) ?_
        refine ⟨?_, ?_⟩
        · intro c67
          rw [hr64] at c67
          rw [ab_bf] at c67
          clear hr64 r64
          refine And.intro (by
            first
              | exact hir
              | omega
              | exact Or.inl trivial
              | exact Or.inr trivial
              | exact ⟨by omega, by omega⟩
              | (split <;> exact ⟨by decide, by decide⟩)
              | exact ⟨⟨by omega, by omega⟩, by omega, by omega⟩
              | exact ⟨⟨by omega, by omega⟩, ⟨by omega, by omega⟩⟩) ?_
          refine And.intro trivial ?_
          intro r84 hr84
          refine And.intro (by
            first
              | exact hir
              | omega
              | exact Or.inl trivial
              | exact Or.inr trivial
              | exact ⟨by omega, by omega⟩
              | (split <;> exact ⟨by decide, by decide⟩)
              | exact ⟨⟨by omega, by omega⟩, by omega, by omega⟩
              | exact ⟨⟨by omega, by omega⟩, ⟨by omega, by omega⟩⟩) ?_
          refine ⟨(ii + -1 - be + 1).toNat, by omega, by trivial, by trivial, by trivial, by trivial, by omega, by omega, fun w' g' => ?_⟩
          have eu := vl_uq g4 g'.1 (by omega)
          subst eu
          rw [show (ii + -1 - be + 1).toNat = k by omega]
          first
            | (refine hv.push hgw ?_
               rw [← hc]
               first
                 | exact Or.inl ⟨by unfold pz_dig; omega, rfl⟩
                 | exact Or.inr ⟨by unfold pz_name; omega, hr84⟩)
            | (refine hv.not hgw (by rw [← hc]; omega) ?_
               first
                 | (rw [hr134, if_pos (by omega)]; done)
                 | (rw [hr134, if_neg (by omega)]; done))
            | (refine hv.two hgw (by rw [← hc]; unfold pz_two; omega) ?_
               rw [← hc]
               exact hr178)
        · intro c67
          rw [hr64] at c67
          rw [ab_bt] at c67
          clear hr64 r64
          refine And.intro (by
            first
              | exact hir
              | omega
              | exact Or.inl trivial
              | exact Or.inr trivial
              | exact ⟨by omega, by omega⟩
              | (split <;> exact ⟨by decide, by decide⟩)
              | exact ⟨⟨by omega, by omega⟩, by omega, by omega⟩
              | exact ⟨⟨by omega, by omega⟩, ⟨by omega, by omega⟩⟩) ?_
          refine And.intro (by
            first
              | exact hir
              | omega
              | exact Or.inl trivial
              | exact Or.inr trivial
              | exact ⟨by omega, by omega⟩
              | (split <;> exact ⟨by decide, by decide⟩)
              | exact ⟨⟨by omega, by omega⟩, by omega, by omega⟩
              | exact ⟨⟨by omega, by omega⟩, ⟨by omega, by omega⟩⟩) ?_
          refine ⟨(ii + -1 - be + 1).toNat, by omega, by trivial, by trivial, by trivial, by trivial, by omega, by omega, fun w' g' => ?_⟩
          have eu := vl_uq g4 g'.1 (by omega)
          subst eu
          rw [show (ii + -1 - be + 1).toNat = k by omega]
          first
            | (refine hv.push hgw ?_
               rw [← hc]
               first
                 | exact Or.inl ⟨by unfold pz_dig; omega, rfl⟩
                 | exact Or.inr ⟨by unfold pz_name; omega, hr84⟩)
            | (refine hv.not hgw (by rw [← hc]; omega) ?_
               first
                 | (rw [hr134, if_pos (by omega)]; done)
                 | (rw [hr134, if_neg (by omega)]; done))
            | (refine hv.two hgw (by rw [← hc]; unfold pz_two; omega) ?_
               rw [← hc]
               exact hr178)
      · intro c51
        first
          | (exfalso; omega)
          | (rw [show (ii - be + 1).toNat = 0 by omega] at hv
             obtain ⟨f1, f2, f3⟩ := hv.fin g4.2.1
             first
               | (exfalso; omega)
               | (rw [show (to - 1).toNat = 0 by omega, f2]
                  exact gK _ _ hfr ⟨rfl, f3⟩))
    · intro c33
      rw [hr30] at c33
      rw [ab_bf] at c33
      clear hr30 r30
      refine And.intro (by
        first
          | exact hir
          | omega
          | exact Or.inl trivial
          | exact Or.inr trivial
          | exact ⟨by omega, by omega⟩
          | (split <;> exact ⟨by decide, by decide⟩)
          | exact ⟨⟨by omega, by omega⟩, by omega, by omega⟩
          | exact ⟨⟨by omega, by omega⟩, ⟨by omega, by omega⟩⟩) ?_
      intro r38 hr38
      refine And.intro (by
        first
          | exact hir
          | omega
          | exact Or.inl trivial
          | exact Or.inr trivial
          | exact ⟨by omega, by omega⟩
          | (split <;> exact ⟨by decide, by decide⟩)
          | exact ⟨⟨by omega, by omega⟩, by omega, by omega⟩
          | exact ⟨⟨by omega, by omega⟩, ⟨by omega, by omega⟩⟩) ?_
      refine ⟨?_, ?_⟩
      · intro c41
        rw [hr38] at c41
        rw [ab_bf] at c41
        clear hr38 r38
        refine And.intro (by
          first
            | exact hir
            | omega
            | exact Or.inl trivial
            | exact Or.inr trivial
            | exact ⟨by omega, by omega⟩
            | (split <;> exact ⟨by decide, by decide⟩)
            | exact ⟨⟨by omega, by omega⟩, by omega, by omega⟩
            | exact ⟨⟨by omega, by omega⟩, ⟨by omega, by omega⟩⟩) ?_
        refine And.intro (by
          first
            | exact hir
            | omega
            | exact Or.inl trivial
            | exact Or.inr trivial
            | exact ⟨by omega, by omega⟩
            | (split <;> exact ⟨by decide, by decide⟩)
            | exact ⟨⟨by omega, by omega⟩, by omega, by omega⟩
            | exact ⟨⟨by omega, by omega⟩, ⟨by omega, by omega⟩⟩) ?_
        refine ⟨?_, ?_⟩
        · intro c98
          refine And.intro (by
            first
              | exact hir
              | omega
              | exact Or.inl trivial
              | exact Or.inr trivial
              | exact ⟨by omega, by omega⟩
              | (split <;> exact ⟨by decide, by decide⟩)
              | exact ⟨⟨by omega, by omega⟩, by omega, by omega⟩
              | exact ⟨⟨by omega, by omega⟩, ⟨by omega, by omega⟩⟩) ?_
          refine ⟨?_, ?_⟩
          · intro c144
            refine And.intro (by
              first
                | exact hir
                | omega
                | exact Or.inl trivial
                | exact Or.inr trivial
                | exact ⟨by omega, by omega⟩
                | (split <;> exact ⟨by decide, by decide⟩)
                | exact ⟨⟨by omega, by omega⟩, by omega, by omega⟩
                | exact ⟨⟨by omega, by omega⟩, ⟨by omega, by omega⟩⟩) ?_
            refine And.intro (by
              first
                | exact hir
                | omega
                | exact Or.inl trivial
                | exact Or.inr trivial
                | exact ⟨by omega, by omega⟩
                | (split <;> exact ⟨by decide, by decide⟩)
                | exact ⟨⟨by omega, by omega⟩, by omega, by omega⟩
                | exact ⟨⟨by omega, by omega⟩, ⟨by omega, by omega⟩⟩) ?_
            refine And.intro (by
              rcases hne with hq | hq | hq
              · exfalso
                omega
              · exfalso
                omega
              · rw [show (to + -1 - 1).toNat = (to - 2).toNat by omega, show (to + -1).toNat = (to - 1).toNat by omega]
                exact ⟨hir, hq.2.2.1, hq.2.2.2⟩) ?_
            intro r178 hr178
            refine And.intro (by
              first
                | exact hir
                | omega
                | exact Or.inl trivial
                | exact Or.inr trivial
                | exact ⟨by omega, by omega⟩
                | (split <;> exact ⟨by decide, by decide⟩)
                | exact ⟨⟨by omega, by omega⟩, by omega, by omega⟩
                | exact ⟨⟨by omega, by omega⟩, ⟨by omega, by omega⟩⟩) ?_
            refine ⟨(ii + -1 - be + 1).toNat, by omega, by trivial, by trivial, by trivial, by trivial, by omega, by omega, fun w' g' => ?_⟩
            have eu := vl_uq g4 g'.1 (by omega)
            subst eu
            rw [show (ii + -1 - be + 1).toNat = k by omega]
            first
              | (refine hv.push hgw ?_
                 rw [← hc]
                 first
                   | exact Or.inl ⟨by unfold pz_dig; omega, rfl⟩
                   | exact Or.inr ⟨by unfold pz_name; omega, hr84⟩)
              | (refine hv.not hgw (by rw [← hc]; omega) ?_
                 first
                   | (rw [hr134, if_pos (by omega)]; done)
                   | (rw [hr134, if_neg (by omega)]; done))
              | (refine hv.two hgw (by rw [← hc]; unfold pz_two; omega) ?_
                 rw [← hc]
                 exact hr178)
          · intro c144
            first
              | (exfalso; omega)
              | (rw [show (ii - be + 1).toNat = 0 by omega] at hv
                 obtain ⟨f1, f2, f3⟩ := hv.fin g4.2.1
                 first
                   | (exfalso; omega)
                   | (rw [show (to - 1).toNat = 0 by omega, f2]
                      exact gK _ _ hfr ⟨rfl, f3⟩))
        · intro c98
          refine And.intro (by
            first
              | exact hir
              | omega
              | exact Or.inl trivial
              | exact Or.inr trivial
              | exact ⟨by omega, by omega⟩
              | (split <;> exact ⟨by decide, by decide⟩)
              | exact ⟨⟨by omega, by omega⟩, by omega, by omega⟩
              | exact ⟨⟨by omega, by omega⟩, ⟨by omega, by omega⟩⟩) ?_
          refine ⟨?_, ?_⟩
          · intro c104
            refine And.intro (by
              first
                | exact hir
                | omega
                | exact Or.inl trivial
                | exact Or.inr trivial
                | exact ⟨by omega, by omega⟩
                | (split <;> exact ⟨by decide, by decide⟩)
                | exact ⟨⟨by omega, by omega⟩, by omega, by omega⟩
                | exact ⟨⟨by omega, by omega⟩, ⟨by omega, by omega⟩⟩) ?_
            refine And.intro (by
              first
                | exact hir
                | omega
                | exact Or.inl trivial
                | exact Or.inr trivial
                | exact ⟨by omega, by omega⟩
                | (split <;> exact ⟨by decide, by decide⟩)
                | exact ⟨⟨by omega, by omega⟩, by omega, by omega⟩
                | exact ⟨⟨by omega, by omega⟩, ⟨by omega, by omega⟩⟩) ?_
            refine ⟨?_, ?_⟩
            · intro c126
              refine And.intro (by
                first
                  | exact hir
                  | omega
                  | exact Or.inl trivial
                  | exact Or.inr trivial
                  | exact ⟨by omega, by omega⟩
                  | (split <;> exact ⟨by decide, by decide⟩)
                  | exact ⟨⟨by omega, by omega⟩, by omega, by omega⟩
                  | exact ⟨⟨by omega, by omega⟩, ⟨by omega, by omega⟩⟩) ?_
              intro r134 hr134
              refine And.intro (by
                first
                  | exact hir
                  | omega
                  | exact Or.inl trivial
                  | exact Or.inr trivial
                  | exact ⟨by omega, by omega⟩
                  | (split <;> exact ⟨by decide, by decide⟩)
                  | exact ⟨⟨by omega, by omega⟩, by omega, by omega⟩
                  | exact ⟨⟨by omega, by omega⟩, ⟨by omega, by omega⟩⟩) ?_
              refine ⟨(ii + -1 - be + 1).toNat, by omega, by trivial, by trivial, by trivial, by trivial, by omega, by omega, fun w' g' => ?_⟩
              have eu := vl_uq g4 g'.1 (by omega)
              subst eu
              rw [show (ii + -1 - be + 1).toNat = k by omega]
              first
                | (refine hv.push hgw ?_
                   rw [← hc]
                   first
                     | exact Or.inl ⟨by unfold pz_dig; omega, rfl⟩
                     | exact Or.inr ⟨by unfold pz_name; omega, hr84⟩)
                | (refine hv.not hgw (by rw [← hc]; omega) ?_
                   first
                     | (rw [hr134, if_pos (by omega)]; done)
                     | (rw [hr134, if_neg (by omega)]; done))
                | (refine hv.two hgw (by rw [← hc]; unfold pz_two; omega) ?_
                   rw [← hc]
                   exact hr178)
            · intro c126
              refine And.intro (by
                first
                  | exact hir
                  | omega
                  | exact Or.inl trivial
                  | exact Or.inr trivial
                  | exact ⟨by omega, by omega⟩
                  | (split <;> exact ⟨by decide, by decide⟩)
                  | exact ⟨⟨by omega, by omega⟩, by omega, by omega⟩
                  | exact ⟨⟨by omega, by omega⟩, ⟨by omega, by omega⟩⟩) ?_
              intro r134 hr134
              refine And.intro (by
                first
                  | exact hir
                  | omega
                  | exact Or.inl trivial
                  | exact Or.inr trivial
                  | exact ⟨by omega, by omega⟩
                  | (split <;> exact ⟨by decide, by decide⟩)
                  | exact ⟨⟨by omega, by omega⟩, by omega, by omega⟩
                  | exact ⟨⟨by omega, by omega⟩, ⟨by omega, by omega⟩⟩) ?_
              refine ⟨(ii + -1 - be + 1).toNat, by omega, by trivial, by trivial, by trivial, by trivial, by omega, by omega, fun w' g' => ?_⟩
              have eu := vl_uq g4 g'.1 (by omega)
              subst eu
              rw [show (ii + -1 - be + 1).toNat = k by omega]
              first
                | (refine hv.push hgw ?_
                   rw [← hc]
                   first
                     | exact Or.inl ⟨by unfold pz_dig; omega, rfl⟩
                     | exact Or.inr ⟨by unfold pz_name; omega, hr84⟩)
                | (refine hv.not hgw (by rw [← hc]; omega) ?_
                   first
                     | (rw [hr134, if_pos (by omega)]; done)
                     | (rw [hr134, if_neg (by omega)]; done))
                | (refine hv.two hgw (by rw [← hc]; unfold pz_two; omega) ?_
                   rw [← hc]
                   exact hr178)
          · intro c104
            first
              | (exfalso; omega)
              | (rw [show (ii - be + 1).toNat = 0 by omega] at hv
                 obtain ⟨f1, f2, f3⟩ := hv.fin g4.2.1
                 first
                   | (exfalso; omega)
                   | (rw [show (to - 1).toNat = 0 by omega, f2]
                      exact gK _ _ hfr ⟨rfl, f3⟩))
      · intro c41
        rw [hr38] at c41
        rw [ab_bt] at c41
        clear hr38 r38
        refine And.intro (by
          first
            | exact hir
            | omega
            | exact Or.inl trivial
            | exact Or.inr trivial
            | exact ⟨by omega, by omega⟩
            | (split <;> exact ⟨by decide, by decide⟩)
            | exact ⟨⟨by omega, by omega⟩, by omega, by omega⟩
            | exact ⟨⟨by omega, by omega⟩, ⟨by omega, by omega⟩⟩) ?_
        refine ⟨?_, ?_⟩
        · intro c51
          refine And.intro (by
            first
              | exact hir
              | omega
              | exact Or.inl trivial
              | exact Or.inr trivial
              | exact ⟨by omega, by omega⟩
              | (split <;> exact ⟨by decide, by decide⟩)
              | exact ⟨⟨by omega, by omega⟩, by omega, by omega⟩
              | exact ⟨⟨by omega, by omega⟩, ⟨by omega, by omega⟩⟩) ?_
          intro r64 hr64
          refine And.intro (by
            first
              | exact hir
              | omega
              | exact Or.inl trivial
              | exact Or.inr trivial
              | exact ⟨by omega, by omega⟩
              | (split <;> exact ⟨by decide, by decide⟩)
              | exact ⟨⟨by omega, by omega⟩, by omega, by omega⟩
              | exact ⟨⟨by omega, by omega⟩, ⟨by omega, by omega⟩⟩) ?_
          refine ⟨?_, ?_⟩
          · intro c67
            rw [hr64] at c67
            rw [ab_bf] at c67
            clear hr64 r64
            refine And.intro (by
              first
                | exact hir
                | omega
                | exact Or.inl trivial
                | exact Or.inr trivial
                | exact ⟨by omega, by omega⟩
                | (split <;> exact ⟨by decide, by decide⟩)
                | exact ⟨⟨by omega, by omega⟩, by omega, by omega⟩
                | exact ⟨⟨by omega, by omega⟩, ⟨by omega, by omega⟩⟩) ?_
            refine And.intro trivial ?_
            intro r84 hr84
            refine And.intro (by
              first
                | exact hir
                | omega
                | exact Or.inl trivial
                | exact Or.inr trivial
                | exact ⟨by omega, by omega⟩
                | (split <;> exact ⟨by decide, by decide⟩)
                | exact ⟨⟨by omega, by omega⟩, by omega, by omega⟩
                | exact ⟨⟨by omega, by omega⟩, ⟨by omega, by omega⟩⟩) ?_
            refine ⟨(ii + -1 - be + 1).toNat, by omega, by trivial, by trivial, by trivial, by trivial, by omega, by omega, fun w' g' => ?_⟩
            have eu := vl_uq g4 g'.1 (by omega)
            subst eu
            rw [show (ii + -1 - be + 1).toNat = k by omega]
            first
              | (refine hv.push hgw ?_
                 rw [← hc]
                 first
                   | exact Or.inl ⟨by unfold pz_dig; omega, rfl⟩
                   | exact Or.inr ⟨by unfold pz_name; omega, hr84⟩)
              | (refine hv.not hgw (by rw [← hc]; omega) ?_
                 first
                   | (rw [hr134, if_pos (by omega)]; done)
                   | (rw [hr134, if_neg (by omega)]; done))
              | (refine hv.two hgw (by rw [← hc]; unfold pz_two; omega) ?_
                 rw [← hc]
                 exact hr178)
          · intro c67
            rw [hr64] at c67
            rw [ab_bt] at c67
            clear hr64 r64
            refine And.intro (by
              first
                | exact hir
                | omega
                | exact Or.inl trivial
                | exact Or.inr trivial
                | exact ⟨by omega, by omega⟩
                | (split <;> exact ⟨by decide, by decide⟩)
                | exact ⟨⟨by omega, by omega⟩, by omega, by omega⟩
                | exact ⟨⟨by omega, by omega⟩, ⟨by omega, by omega⟩⟩) ?_
            refine And.intro (by
              first
                | exact hir
                | omega
                | exact Or.inl trivial
                | exact Or.inr trivial
                | exact ⟨by omega, by omega⟩
                | (split <;> exact ⟨by decide, by decide⟩)
                | exact ⟨⟨by omega, by omega⟩, by omega, by omega⟩
                | exact ⟨⟨by omega, by omega⟩, ⟨by omega, by omega⟩⟩) ?_
            refine ⟨(ii + -1 - be + 1).toNat, by omega, by trivial, by trivial, by trivial, by trivial, by omega, by omega, fun w' g' => ?_⟩
            have eu := vl_uq g4 g'.1 (by omega)
            subst eu
            rw [show (ii + -1 - be + 1).toNat = k by omega]
            first
              | (refine hv.push hgw ?_
                 rw [← hc]
                 first
                   | exact Or.inl ⟨by unfold pz_dig; omega, rfl⟩
                   | exact Or.inr ⟨by unfold pz_name; omega, hr84⟩)
              | (refine hv.not hgw (by rw [← hc]; omega) ?_
                 first
                   | (rw [hr134, if_pos (by omega)]; done)
                   | (rw [hr134, if_neg (by omega)]; done))
              | (refine hv.two hgw (by rw [← hc]; unfold pz_two; omega) ?_
                 rw [← hc]
                 exact hr178)
        · intro c51
          first
            | (exfalso; omega)
            | (rw [show (ii - be + 1).toNat = 0 by omega] at hv
               obtain ⟨f1, f2, f3⟩ := hv.fin g4.2.1
               first
                 | (exfalso; omega)
                 | (rw [show (to - 1).toNat = 0 by omega, f2]
                    exact gK _ _ hfr ⟨rfl, f3⟩))

set_option maxRecDepth 20000 in
set_option maxHeartbeats 1000000 in
theorem ok_X7_evaluate (E : ab_E) : ab_Ok E 3 74 S_X7_evaluate := by
  refine ab_mk rq_X7_evaluate tk_X7_evaluate (rt := 1) (rfl) (cuts := [8]) (G := [(70, S_X6_sign), (72, S_X7_combined), (77, S_X7_oneIf), (92, S_X8_isDigit), (96, S_X8_isVariable), (114, S_X8_valueIn)]) (List.forall_mem_cons.mpr ⟨⟨1, by decide, ok_X6_sign E⟩, List.forall_mem_cons.mpr ⟨⟨2, by decide, ok_X7_combined E⟩, List.forall_mem_cons.mpr ⟨⟨1, by decide, ok_X7_oneIf E⟩, List.forall_mem_cons.mpr ⟨⟨1, by decide, ok_X8_isDigit E⟩, List.forall_mem_cons.mpr ⟨⟨1, by decide, ok_X8_isVariable E⟩, List.forall_mem_cons.mpr ⟨⟨1, by decide, ok_X8_valueIn E⟩, fun _ h => absurd h List.not_mem_nil⟩⟩⟩⟩⟩⟩) (by decide) 159 rfl ?_
  intro a M K wd wa hS
  unfold S_X7_evaluate at hS
  split at hS
  ·
    rename_i be en s
    refine ⟨Nat.le_of_ble_eq_true rfl, fun pc n L st M1 => match pc, L, st with
      | 8, [.inr (.inr (.inr (769, 7, 0))), .inr (.inl b1), .inr (.inl e1), .inr (.inl s1), .inr (.inl to), .inr (.inl ii), u7_], [] => (n = (ii - be + 1).toNat ∧ be = b1 ∧ en = e1 ∧ s = s1 ∧ be - 1 ≤ ii ∧ ii < en ∧ ∀ w : List Int, vl_P M 4 be w ∧ w.length ≤ 120 ∧ en = be + ((w.length : Nat) : Int) → vl_I 771 s w (ii - be + 1).toNat to M M1)
      | _, _, _ => False, ?_, ?_⟩
    · exact vc_X7_evaluate_0 be en s M K  hS
    · intro pc n L st M1 hI wd1 wL wst
      (try dsimp only at hI)
      split at hI
      ·
        rename_i b1 e1 s1 to ii u7_
        exact vc_X7_evaluate_8 be en s M K  hS n b1 e1 s1 to ii _ hI
      · exact hI.elim
  · exact hS.elim
def S_X9_valueOf : ab_PT := fun a M K => match a with
  | [.inr (.inr (.inr (797, 9, 0))), .inr (.inl be), .inr (.inl nn), .inr (.inl s)] => (∃ w : List Int, (vl_P M 803 be w ∧ w.length ≤ 130 ∧ nn = ((w.length : Nat) : Int) ∧ be + nn ≤ 640) ∧ (∀ rx : Int, ∀ Mx : ab_M, (∀ o' k' : Nat, o' ≠ 817 → Mx o' k' = M o' k') → (rx = pz_val s w ∧ 0 ≤ rx ∧ rx ≤ 3) → K [Xi rx] Mx))
  | _ => False
set_option maxRecDepth 20000 in
theorem vc_X9_valueOf_0 (be : Int) (nn : Int) (s : Int) (M : ab_M) (K : List ab_V → ab_M → Prop) (hS : (∃ w : List Int, (vl_P M 803 be w ∧ w.length ≤ 130 ∧ nn = ((w.length : Nat) : Int) ∧ be + nn ≤ 640) ∧ (∀ rx : Int, ∀ Mx : ab_M, (∀ o' k' : Nat, o' ≠ 817 → Mx o' k' = M o' k') → (rx = pz_val s w ∧ 0 ≤ rx ∧ rx ≤ 3) → K [Xi rx] Mx))) : (∃ n', ((n' = (((be + nn) - (1 : Int)) - be + 1).toNat ∧ be = be ∧ nn = nn ∧ s = s ∧ be - 1 ≤ ((be + nn) - (1 : Int)) ∧ ((be + nn) - (1 : Int)) < be + nn ∧ ∀ w : List Int, vl_P M 803 be w ∧ w.length ≤ 130 ∧ nn = ((w.length : Nat) : Int) → vl_I 817 s w (((be + nn) - (1 : Int)) - be + 1).toNat (0 : Int) M M))) := by
  obtain ⟨w, ⟨g4, g5, g6, g7⟩, gK⟩ := hS
  have g0 := g4.1
  refine ⟨_, rfl, rfl, rfl, rfl, by omega, by omega, fun w' g' => ?_⟩
  have eu := vl_uq g4 g'.1 (by omega)
  subst eu
  rw [show (be + nn - 1 - be + 1).toNat = w.length by omega]
  exact vl_I.start

set_option maxRecDepth 20000 in
theorem vc_X9_valueOf_10 (be : Int) (nn : Int) (s : Int) (M : ab_M) (K : List ab_V → ab_M → Prop) (hS : (∃ w : List Int, (vl_P M 803 be w ∧ w.length ≤ 130 ∧ nn = ((w.length : Nat) : Int) ∧ be + nn ≤ 640) ∧ (∀ rx : Int, ∀ Mx : ab_M, (∀ o' k' : Nat, o' ≠ 817 → Mx o' k' = M o' k') → (rx = pz_val s w ∧ 0 ≤ rx ∧ rx ≤ 3) → K [Xi rx] Mx))) (n : Nat) (b1 : Int) (e1 : Int) (s1 : Int) (to : Int) (ii : Int) (M1 : ab_M) (hI : n = (ii - be + 1).toNat ∧ be = b1 ∧ nn = e1 ∧ s = s1 ∧ be - 1 ≤ ii ∧ ii < be + nn ∧ ∀ w : List Int, vl_P M 803 be w ∧ w.length ≤ 130 ∧ nn = ((w.length : Nat) : Int) → vl_I 817 s w (ii - be + 1).toNat to M M1) : (ab_ir ii ∧ ab_ir b1) ∧ ((ii < b1 → (0 ≤ (0 : Int) ∧ (0 : Int) < ((130 : Nat) : Int)) ∧ K [Xi (M1 817 0)] M1) ∧ (b1 ≤ ii → (0 ≤ ii ∧ ii < ((640 : Nat) : Int)) ∧ (-128 ≤ (48 : Int) ∧ (48 : Int) < 128) ∧ (-128 ≤ (51 : Int) ∧ (51 : Int) < 128) ∧ (ab_ir (M1 803 ii.toNat) ∧ ab_ir (48 : Int) ∧ ab_ir (51 : Int)) ∧ (∀ r31 : Int, (r31 = if (48 : Int) ≤ (M1 803 ii.toNat) ∧ (M1 803 ii.toNat) ≤ (51 : Int) then 1 else 0) → (ab_ir r31) ∧ ((r31 = 0 → (ab_ir (M1 803 ii.toNat)) ∧ (∀ r57 : Int, (r57 = if 97 ≤ (M1 803 ii.toNat) ∧ (M1 803 ii.toNat) ≤ 100 then 1 else 0) → (ab_ir r57) ∧ ((r57 = 0 → (-128 ≤ (33 : Int) ∧ (33 : Int) < 128) ∧ (ab_ir (M1 803 ii.toNat) ∧ ab_ir (33 : Int)) ∧ ((¬ (M1 803 ii.toNat) = (33 : Int) → (0 ≤ (to + (-1)) ∧ (to + (-1)) < ((130 : Nat) : Int)) ∧ (0 ≤ ((to + (-1)) - (1 : Int)) ∧ ((to + (-1)) - (1 : Int)) < ((130 : Nat) : Int)) ∧ (ab_ir (M1 803 ii.toNat) ∧ (0 ≤ (M1 817 ((to + (-1)).toNat)) ∧ (M1 817 ((to + (-1)).toNat)) ≤ 3) ∧ 0 ≤ (M1 817 (((to + (-1)) - (1 : Int)).toNat)) ∧ (M1 817 (((to + (-1)) - (1 : Int)).toNat)) ≤ 3) ∧ (∀ r155 : Int, (r155 = pz_cb (M1 803 ii.toNat) (M1 817 ((to + (-1)).toNat)) (M1 817 (((to + (-1)) - (1 : Int)).toNat))) → (0 ≤ ((to + (-1)) - (1 : Int)) ∧ ((to + (-1)) - (1 : Int)) < ((130 : Nat) : Int)) ∧ (∃ n', n' < n ∧ ((n' = ((ii + (-1)) - be + 1).toNat ∧ be = b1 ∧ nn = e1 ∧ s = s1 ∧ be - 1 ≤ (ii + (-1)) ∧ (ii + (-1)) < be + nn ∧ ∀ w : List Int, vl_P M 803 be w ∧ w.length ≤ 130 ∧ nn = ((w.length : Nat) : Int) → vl_I 817 s w ((ii + (-1)) - be + 1).toNat (to + (-1)) M (ab_up M1 817 (((to + (-1)) - (1 : Int)).toNat) r155)))))) ∧ ((M1 803 ii.toNat) = (33 : Int) → (0 ≤ (to - (1 : Int)) ∧ (to - (1 : Int)) < ((130 : Nat) : Int)) ∧ (ab_ir (M1 817 ((to - (1 : Int)).toNat))) ∧ ((¬ (M1 817 ((to - (1 : Int)).toNat)) = 0 → (0 ≤ (to - (1 : Int)) ∧ (to - (1 : Int)) < ((130 : Nat) : Int)) ∧ (∃ n', n' < n ∧ ((n' = ((ii + (-1)) - be + 1).toNat ∧ be = b1 ∧ nn = e1 ∧ s = s1 ∧ be - 1 ≤ (ii + (-1)) ∧ (ii + (-1)) < be + nn ∧ ∀ w : List Int, vl_P M 803 be w ∧ w.length ≤ 130 ∧ nn = ((w.length : Nat) : Int) → vl_I 817 s w ((ii + (-1)) - be + 1).toNat to M (ab_up M1 817 ((to - (1 : Int)).toNat) (0 : Int)))))) ∧ ((M1 817 ((to - (1 : Int)).toNat)) = 0 → (0 ≤ (to - (1 : Int)) ∧ (to - (1 : Int)) < ((130 : Nat) : Int)) ∧ (∃ n', n' < n ∧ ((n' = ((ii + (-1)) - be + 1).toNat ∧ be = b1 ∧ nn = e1 ∧ s = s1 ∧ be - 1 ≤ (ii + (-1)) ∧ (ii + (-1)) < be + nn ∧ ∀ w : List Int, vl_P M 803 be w ∧ w.length ≤ 130 ∧ nn = ((w.length : Nat) : Int) → vl_I 817 s w ((ii + (-1)) - be + 1).toNat to M (ab_up M1 817 ((to - (1 : Int)).toNat) (1 : Int)))))))))) ∧ (¬ r57 = 0 → (-128 ≤ (6 : Int) ∧ (6 : Int) < 128) ∧ (-128 ≤ (97 : Int) ∧ (97 : Int) < 128) ∧ (0 ≤ to ∧ to < ((130 : Nat) : Int)) ∧ (∃ n', n' < n ∧ ((n' = ((ii + (-1)) - be + 1).toNat ∧ be = b1 ∧ nn = e1 ∧ s = s1 ∧ be - 1 ≤ (ii + (-1)) ∧ (ii + (-1)) < be + nn ∧ ∀ w : List Int, vl_P M 803 be w ∧ w.length ≤ 130 ∧ nn = ((w.length : Nat) : Int) → vl_I 817 s w ((ii + (-1)) - be + 1).toNat (to + 1) M (ab_up M1 817 to.toNat (ab_and (ab_shr s1 ((6 : Int) - ((2 : Int) * ((M1 803 ii.toNat) - (97 : Int))))) (3 : Int)))))))))) ∧ (¬ r31 = 0 → (-128 ≤ (48 : Int) ∧ (48 : Int) < 128) ∧ (0 ≤ to ∧ to < ((130 : Nat) : Int)) ∧ (∃ n', n' < n ∧ ((n' = ((ii + (-1)) - be + 1).toNat ∧ be = b1 ∧ nn = e1 ∧ s = s1 ∧ be - 1 ≤ (ii + (-1)) ∧ (ii + (-1)) < be + nn ∧ ∀ w : List Int, vl_P M 803 be w ∧ w.length ≤ 130 ∧ nn = ((w.length : Nat) : Int) → vl_I 817 s w ((ii + (-1)) - be + 1).toNat (to + 1) M (ab_up M1 817 to.toNat ((M1 803 ii.toNat) - (48 : Int))))))))))) := by
  obtain ⟨hn, q1, q2, q3, hlo, hhi, hI⟩ := hI
  subst q1
  subst q2
  subst q3
  obtain ⟨w, ⟨g4, g5, g6, g7⟩, gK⟩ := hS
  have hv := hI w ⟨g4, g5, g6⟩
  clear hI
  have hgw : ∃ l, pz_gw w l := ⟨1, pz_gw_of w 1 g4.2.1⟩
  have hbd := hv.bd
  have g0 := g4.1
  have hfr := hv.2.2.2.2
  have e2 : ∀ k, M1 803 k = M 803 k := fun k => hfr _ _ (by decide)
  simp only [e2]
  have hsp : cr_wr (be ≤ ii → ∃ k : Nat, (ii - be + 1).toNat = k + 1 ∧ M 803 ii.toNat = pz_at w k) := by
    intro hle
    refine ⟨(ii - be).toNat, by omega, ?_⟩
    rw [show ii.toNat = be.toNat + (ii - be).toNat by omega]
    exact g4.2.2 _ (by omega)
  refine And.intro (by
    first
      | omega
      | exact ⟨by omega, by omega⟩
    ) ?_
  refine ⟨?_, ?_⟩
  · intro c13
    refine And.intro (by
      first
        | omega
        | decide
        | exact ⟨by decide, by decide⟩) ?_
    rw [show (ii - be + 1).toNat = 0 by omega] at hv
    obtain ⟨f1, f2, f3⟩ := hv.fin g4.2.1
    rw [f2]
    exact gK _ _ hfr ⟨rfl, f3⟩
  · intro c13
    refine And.intro (by
      first
        | omega
        | exact ⟨by omega, by omega⟩
      ) ?_
    refine And.intro (by
      obtain ⟨k, hk, hc⟩ := hsp (by omega)
      rw [hk] at hv
      have hlt := hv.lt hgw
      have hne := hv.need hgw
      rw [← hc] at hlt hne
      unfold pz_name pz_dig pz_two at hne
      have hir : ab_ir (M 803 ii.toNat) := ⟨by omega, by omega⟩
      first
        | exact hir
        | omega
        | exact Or.inl trivial
        | exact Or.inr trivial
        | exact ⟨by omega, by omega⟩
        | (split <;> exact ⟨by decide, by decide⟩)
        | exact ⟨⟨by omega, by omega⟩, by omega, by omega⟩
        | exact ⟨⟨by omega, by omega⟩, ⟨by omega, by omega⟩⟩) ?_
    refine And.intro (by
      obtain ⟨k, hk, hc⟩ := hsp (by omega)
      rw [hk] at hv
      have hlt := hv.lt hgw
      have hne := hv.need hgw
      rw [← hc] at hlt hne
      unfold pz_name pz_dig pz_two at hne
      have hir : ab_ir (M 803 ii.toNat) := ⟨by omega, by omega⟩
      first
        | exact hir
        | omega
        | exact Or.inl trivial
        | exact Or.inr trivial
        | exact ⟨by omega, by omega⟩
        | (split <;> exact ⟨by decide, by decide⟩)
        | exact ⟨⟨by omega, by omega⟩, by omega, by omega⟩
        | exact ⟨⟨by omega, by omega⟩, ⟨by omega, by omega⟩⟩) ?_
    refine And.intro (by
      obtain ⟨k, hk, hc⟩ := hsp (by omega)
      rw [hk] at hv
      have hlt := hv.lt hgw
      have hne := hv.need hgw
      rw [← hc] at hlt hne
      unfold pz_name pz_dig pz_two at hne
      have hir : ab_ir (M 803 ii.toNat) := ⟨by omega, by omega⟩
      first
        | exact hir
        | omega
        | exact Or.inl trivial
        | exact Or.inr trivial
        | exact ⟨by omega, by omega⟩
        | (split <;> exact ⟨by decide, by decide⟩)
        | exact ⟨⟨by omega, by omega⟩, by omega, by omega⟩
        | exact ⟨⟨by omega, by omega⟩, ⟨by omega, by omega⟩⟩) ?_
    intro r31 hr31
    refine And.intro (by
      obtain ⟨k, hk, hc⟩ := hsp (by omega)
      rw [hk] at hv
      have hlt := hv.lt hgw
      have hne := hv.need hgw
      rw [← hc] at hlt hne
      unfold pz_name pz_dig pz_two at hne
      have hir : ab_ir (M 803 ii.toNat) := ⟨by omega, by omega⟩
      first
        | exact hir
        | omega
        | exact Or.inl trivial
        | exact Or.inr trivial
        | exact ⟨by omega, by omega⟩
        | (split <;> exact ⟨by decide, by decide⟩)
        | exact ⟨⟨by omega, by omega⟩, by omega, by omega⟩
        | exact ⟨⟨by omega, by omega⟩, ⟨by omega, by omega⟩⟩) ?_
    refine ⟨?_, ?_⟩
    · intro c34
      rw [hr31] at c34
      rw [ab_bf] at c34
      clear hr31 r31
      refine And.intro (by
        obtain ⟨k, hk, hc⟩ := hsp (by omega)
        rw [hk] at hv
        have hlt := hv.lt hgw
        have hne := hv.need hgw
        rw [← hc] at hlt hne
        unfold pz_name pz_dig pz_two at hne
        have hir : ab_ir (M 803 ii.toNat) := ⟨by omega, by omega⟩
        first
          | exact hir
          | omega
          | exact Or.inl trivial
          | exact Or.inr trivial
          | exact ⟨by omega, by omega⟩
          | (split <;> exact ⟨by decide, by decide⟩)
          | exact ⟨⟨by omega, by omega⟩, by omega, by omega⟩
          | exact ⟨⟨by omega, by omega⟩, ⟨by omega, by omega⟩⟩) ?_
      intro r57 hr57
      refine And.intro (by
        obtain ⟨k, hk, hc⟩ := hsp (by omega)
        rw [hk] at hv
        have hlt := hv.lt hgw
        have hne := hv.need hgw
        rw [← hc] at hlt hne
        unfold pz_name pz_dig pz_two at hne
        have hir : ab_ir (M 803 ii.toNat) := ⟨by omega, by omega⟩
        first
          | exact hir
          | omega
          | exact Or.inl trivial
          | exact Or.inr trivial
          | exact ⟨by omega, by omega⟩
          | (split <;> exact ⟨by decide, by decide⟩)
          | exact ⟨⟨by omega, by omega⟩, by omega, by omega⟩
          | exact ⟨⟨by omega, by omega⟩, ⟨by omega, by omega⟩⟩) ?_
      refine ⟨?_, ?_⟩
      · intro c60
        rw [hr57] at c60
        rw [ab_bf] at c60
        clear hr57 r57
        refine And.intro (by
          obtain ⟨k, hk, hc⟩ := hsp (by omega)
          rw [hk] at hv
          have hlt := hv.lt hgw
          have hne := hv.need hgw
          rw [← hc] at hlt hne
          unfold pz_name pz_dig pz_two at hne
          have hir : ab_ir (M 803 ii.toNat) := ⟨by omega, by omega⟩
          first
            | exact hir
            | omega
            | exact Or.inl trivial
            | exact Or.inr trivial
            | exact ⟨by omega, by omega⟩
            | (split <;> exact ⟨by decide, by decide⟩)
            | exact ⟨⟨by omega, by omega⟩, by omega, by omega⟩
            | exact ⟨⟨by omega, by omega⟩, ⟨by omega, by omega⟩⟩) ?_
        refine And.intro (by
          obtain ⟨k, hk, hc⟩ := hsp (by omega)
          rw [hk] at hv
          have hlt := hv.lt hgw
          have hne := hv.need hgw
          rw [← hc] at hlt hne
          unfold pz_name pz_dig pz_two at hne
          have hir : ab_ir (M 803 ii.toNat) := ⟨by omega, by omega⟩
          first
            | exact hir
            | omega
            | exact Or.inl trivial
            | exact Or.inr trivial
            | exact ⟨by omega, by omega⟩
            | (split <;> exact ⟨by decide, by decide⟩)
            | exact ⟨⟨by omega, by omega⟩, by omega, by omega⟩
            | exact ⟨⟨by omega, by omega⟩, ⟨by omega, by omega⟩⟩) ?_
        refine ⟨?_, ?_⟩
        · intro c94
          refine And.intro (by
            obtain ⟨k, hk, hc⟩ := hsp (by omega)
            rw [hk] at hv
            have hlt := hv.lt hgw
            have hne := hv.need hgw
            rw [← hc] at hlt hne
            unfold pz_name pz_dig pz_two at hne
            have hir : ab_ir (M 803 ii.toNat) := ⟨by omega, by omega⟩
            first
              | exact hir
              | omega
              | exact Or.inl trivial
              | exact Or.inr trivial
              | exact ⟨by omega, by omega⟩
              | (split <;> exact ⟨by decide, by decide⟩)
              | exact ⟨⟨by omega, by omega⟩, by omega, by omega⟩
              | exact ⟨⟨by omega, by omega⟩, ⟨by omega, by omega⟩⟩) ?_
          refine And.intro (by
            obtain ⟨k, hk, hc⟩ := hsp (by omega)
            rw [hk] at hv
            have hlt := hv.lt hgw
            have hne := hv.need hgw
            rw [← hc] at hlt hne
            unfold pz_name pz_dig pz_two at hne
            have hir : ab_ir (M 803 ii.toNat) := ⟨by omega, by omega⟩
            first
              | exact hir
              | omega
              | exact Or.inl trivial
              | exact Or.inr trivial
              | exact ⟨by omega, by omega⟩
              | (split <;> exact ⟨by decide, by decide⟩)
              | exact ⟨⟨by omega, by omega⟩, by omega, by omega⟩
              | exact ⟨⟨by omega, by omega⟩, ⟨by omega, by omega⟩⟩) ?_
          refine And.intro (by
            obtain ⟨k, hk, hc⟩ := hsp (by omega)
            rw [hk] at hv
            have hlt := hv.lt hgw
            have hne := hv.need hgw
            rw [← hc] at hlt hne
            unfold pz_name pz_dig pz_two at hne
            have hir : ab_ir (M 803 ii.toNat) := ⟨by omega, by omega⟩
            rcases hne with hq | hq | hq
            · exfalso
              omega
            · exfalso
              omega
            · rw [show (to + -1 - 1).toNat = (to - 2).toNat by omega, show (to + -1).toNat = (to - 1).toNat by omega]
              exact ⟨hir, hq.2.2.1, hq.2.2.2⟩) ?_
          intro r155 hr155
          refine And.intro (by
            obtain ⟨k, hk, hc⟩ := hsp (by omega)
            rw [hk] at hv
            have hlt := hv.lt hgw
            have hne := hv.need hgw
            rw [← hc] at hlt hne
            unfold pz_name pz_dig pz_two at hne
            have hir : ab_ir (M 803 ii.toNat) := ⟨by omega, by omega⟩
            first
              | exact hir
              | omega
              | exact Or.inl trivial
              | exact Or.inr trivial
              | exact ⟨by omega, by omega⟩
              | (split <;> exact ⟨by decide, by decide⟩)
              | exact ⟨⟨by omega, by omega⟩, by omega, by omega⟩
              | exact ⟨⟨by omega, by omega⟩, ⟨by omega, by omega⟩⟩) ?_
          obtain ⟨k, hk, hc⟩ := hsp (by omega)
          rw [hk] at hv
          have hlt := hv.lt hgw
          have hne := hv.need hgw
          rw [← hc] at hlt hne
          unfold pz_name pz_dig pz_two at hne
          have hir : ab_ir (M 803 ii.toNat) := ⟨by omega, by omega⟩
          refine ⟨(ii + -1 - be + 1).toNat, by omega, by trivial, by trivial, by trivial, by trivial, by omega, by omega, fun w' g' => ?_⟩
          have eu := vl_uq g4 g'.1 (by omega)
          subst eu
          rw [show (ii + -1 - be + 1).toNat = k by omega]
          first
            | (refine hv.push hgw ?_
               rw [← hc]
               first
                 | exact Or.inl ⟨by unfold pz_dig; omega, rfl⟩
                 | exact Or.inr ⟨by unfold pz_name; omega, rfl⟩)
            | (refine hv.not hgw (by rw [← hc]; omega) ?_
               first
                 | (rw [if_pos (by omega)]; done)
                 | (rw [if_neg (by omega)]; done))
            | (refine hv.two hgw (by rw [← hc]; unfold pz_two; omega) ?_
               rw [← hc]
               exact hr155)
        · intro c94
          refine And.intro (by
            obtain ⟨k, hk, hc⟩ := hsp (by omega)
            rw [hk] at hv
            have hlt := hv.lt hgw
            have hne := hv.need hgw
            rw [← hc] at hlt hne
            unfold pz_name pz_dig pz_two at hne
            have hir : ab_ir (M 803 ii.toNat) := ⟨by omega, by omega⟩
            first
              | exact hir
              | omega
              | exact Or.inl trivial
              | exact Or.inr trivial
              | exact ⟨by omega, by omega⟩
              | (split <;> exact ⟨by decide, by decide⟩)
              | exact ⟨⟨by omega, by omega⟩, by omega, by omega⟩
              | exact ⟨⟨by omega, by omega⟩, ⟨by omega, by omega⟩⟩) ?_
          refine And.intro (by
            obtain ⟨k, hk, hc⟩ := hsp (by omega)
            rw [hk] at hv
            have hlt := hv.lt hgw
            have hne := hv.need hgw
            rw [← hc] at hlt hne
            unfold pz_name pz_dig pz_two at hne
            have hir : ab_ir (M 803 ii.toNat) := ⟨by omega, by omega⟩
            first
              | exact hir
              | omega
              | exact Or.inl trivial
              | exact Or.inr trivial
              | exact ⟨by omega, by omega⟩
              | (split <;> exact ⟨by decide, by decide⟩)
              | exact ⟨⟨by omega, by omega⟩, by omega, by omega⟩
              | exact ⟨⟨by omega, by omega⟩, ⟨by omega, by omega⟩⟩) ?_
          refine ⟨?_, ?_⟩
          · intro c114
            refine And.intro (by
              obtain ⟨k, hk, hc⟩ := hsp (by omega)
              rw [hk] at hv
              have hlt := hv.lt hgw
              have hne := hv.need hgw
              rw [← hc] at hlt hne
              unfold pz_name pz_dig pz_two at hne
              have hir : ab_ir (M 803 ii.toNat) := ⟨by omega, by omega⟩
              first
                | exact hir
                | omega
                | exact Or.inl trivial
                | exact Or.inr trivial
                | exact ⟨by omega, by omega⟩
                | (split <;> exact ⟨by decide, by decide⟩)
                | exact ⟨⟨by omega, by omega⟩, by omega, by omega⟩
                | exact ⟨⟨by omega, by omega⟩, ⟨by omega, by omega⟩⟩) ?_
            obtain ⟨k, hk, hc⟩ := hsp (by omega)
            rw [hk] at hv
            have hlt := hv.lt hgw
            have hne := hv.need hgw
            rw [← hc] at hlt hne
            unfold pz_name pz_dig pz_two at hne
            have hir : ab_ir (M 803 ii.toNat) := ⟨by omega, by omega⟩
            refine ⟨(ii + -1 - be + 1).toNat, by omega, by trivial, by trivial, by trivial, by trivial, by omega, by omega, fun w' g' => ?_⟩
            have eu := vl_uq g4 g'.1 (by omega)
            subst eu
            rw [show (ii + -1 - be + 1).toNat = k by omega]
            first
              | (refine hv.push hgw ?_
                 rw [← hc]
                 first
                   | exact Or.inl ⟨by unfold pz_dig; omega, rfl⟩
                   | exact Or.inr ⟨by unfold pz_name; omega, rfl⟩)
              | (refine hv.not hgw (by rw [← hc]; omega) ?_
                 first
                   | (rw [if_pos (by omega)]; done)
                   | (rw [if_neg (by omega)]; done))
              | (refine hv.two hgw (by rw [← hc]; unfold pz_two; omega) ?_
                 rw [← hc]
                 exact hr155)
          · intro c114
            refine And.intro (by
              obtain ⟨k, hk, hc⟩ := hsp (by omega)
              rw [hk] at hv
              have hlt := hv.lt hgw
              have hne := hv.need hgw
              rw [← hc] at hlt hne
              unfold pz_name pz_dig pz_two at hne
              have hir : ab_ir (M 803 ii.toNat) := ⟨by omega, by omega⟩
              first
                | exact hir
                | omega
                | exact Or.inl trivial
                | exact Or.inr trivial
                | exact ⟨by omega, by omega⟩
                | (split <;> exact ⟨by decide, by decide⟩)
                | exact ⟨⟨by omega, by omega⟩, by omega, by omega⟩
                | exact ⟨⟨by omega, by omega⟩, ⟨by omega, by omega⟩⟩) ?_
            obtain ⟨k, hk, hc⟩ := hsp (by omega)
            rw [hk] at hv
            have hlt := hv.lt hgw
            have hne := hv.need hgw
            rw [← hc] at hlt hne
            unfold pz_name pz_dig pz_two at hne
            have hir : ab_ir (M 803 ii.toNat) := ⟨by omega, by omega⟩
            refine ⟨(ii + -1 - be + 1).toNat, by omega, by trivial, by trivial, by trivial, by trivial, by omega, by omega, fun w' g' => ?_⟩
            have eu := vl_uq g4 g'.1 (by omega)
            subst eu
            rw [show (ii + -1 - be + 1).toNat = k by omega]
            first
              | (refine hv.push hgw ?_
                 rw [← hc]
                 first
                   | exact Or.inl ⟨by unfold pz_dig; omega, rfl⟩
                   | exact Or.inr ⟨by unfold pz_name; omega, rfl⟩)
              | (refine hv.not hgw (by rw [← hc]; omega) ?_
                 first
                   | (rw [if_pos (by omega)]; done)
                   | (rw [if_neg (by omega)]; done))
              | (refine hv.two hgw (by rw [← hc]; unfold pz_two; omega) ?_
                 rw [← hc]
                 exact hr155)
      · intro c60
        rw [hr57] at c60
        rw [ab_bt] at c60
        clear hr57 r57
        refine And.intro (by
          obtain ⟨k, hk, hc⟩ := hsp (by omega)
          rw [hk] at hv
          have hlt := hv.lt hgw
          have hne := hv.need hgw
          rw [← hc] at hlt hne
          unfold pz_name pz_dig pz_two at hne
          have hir : ab_ir (M 803 ii.toNat) := ⟨by omega, by omega⟩
          first
            | exact hir
            | omega
            | exact Or.inl trivial
            | exact Or.inr trivial
            | exact ⟨by omega, by omega⟩
            | (split <;> exact ⟨by decide, by decide⟩)
            | exact ⟨⟨by omega, by omega⟩, by omega, by omega⟩
            | exact ⟨⟨by omega, by omega⟩, ⟨by omega, by omega⟩⟩) ?_
        refine And.intro (by
          obtain ⟨k, hk, hc⟩ := hsp (by omega)
          rw [hk] at hv
          have hlt := hv.lt hgw
          have hne := hv.need hgw
          rw [← hc] at hlt hne
          unfold pz_name pz_dig pz_two at hne
          have hir : ab_ir (M 803 ii.toNat) := ⟨by omega, by omega⟩
          first
            | exact hir
            | omega
            | exact Or.inl trivial
            | exact Or.inr trivial
            | exact ⟨by omega, by omega⟩
            | (split <;> exact ⟨by decide, by decide⟩)
            | exact ⟨⟨by omega, by omega⟩, by omega, by omega⟩
            | exact ⟨⟨by omega, by omega⟩, ⟨by omega, by omega⟩⟩) ?_
        refine And.intro (by
          obtain ⟨k, hk, hc⟩ := hsp (by omega)
          rw [hk] at hv
          have hlt := hv.lt hgw
          have hne := hv.need hgw
          rw [← hc] at hlt hne
          unfold pz_name pz_dig pz_two at hne
          have hir : ab_ir (M 803 ii.toNat) := ⟨by omega, by omega⟩
          first
            | exact hir
            | omega
            | exact Or.inl trivial
            | exact Or.inr trivial
            | exact ⟨by omega, by omega⟩
            | (split <;> exact ⟨by decide, by decide⟩)
            | exact ⟨⟨by omega, by omega⟩, by omega, by omega⟩
            | exact ⟨⟨by omega, by omega⟩, ⟨by omega, by omega⟩⟩) ?_
        obtain ⟨k, hk, hc⟩ := hsp (by omega)
        rw [hk] at hv
        have hlt := hv.lt hgw
        have hne := hv.need hgw
        rw [← hc] at hlt hne
        unfold pz_name pz_dig pz_two at hne
        have hir : ab_ir (M 803 ii.toNat) := ⟨by omega, by omega⟩
        refine ⟨(ii + -1 - be + 1).toNat, by omega, by trivial, by trivial, by trivial, by trivial, by omega, by omega, fun w' g' => ?_⟩
        have eu := vl_uq g4 g'.1 (by omega)
        subst eu
        rw [show (ii + -1 - be + 1).toNat = k by omega]
        first
          | (refine hv.push hgw ?_
             rw [← hc]
             first
               | exact Or.inl ⟨by unfold pz_dig; omega, rfl⟩
               | exact Or.inr ⟨by unfold pz_name; omega, rfl⟩)
          | (refine hv.not hgw (by rw [← hc]; omega) ?_
             first
               | (rw [if_pos (by omega)]; done)
               | (rw [if_neg (by omega)]; done))
          | (refine hv.two hgw (by rw [← hc]; unfold pz_two; omega) ?_
             rw [← hc]
             exact hr155)
    · intro c34
      rw [hr31] at c34
      rw [ab_bt] at c34
      clear hr31 r31
      refine And.intro (by
        obtain ⟨k, hk, hc⟩ := hsp (by omega)
        rw [hk] at hv
        have hlt := hv.lt hgw
        have hne := hv.need hgw
        rw [← hc] at hlt hne
        unfold pz_name pz_dig pz_two at hne
        have hir : ab_ir (M 803 ii.toNat) := ⟨by omega, by omega⟩
        first
          | exact hir
          | omega
          | exact Or.inl trivial
          | exact Or.inr trivial
          | exact ⟨by omega, by omega⟩
          | (split <;> exact ⟨by decide, by decide⟩)
          | exact ⟨⟨by omega, by omega⟩, by omega, by omega⟩
          | exact ⟨⟨by omega, by omega⟩, ⟨by omega, by omega⟩⟩) ?_
      refine And.intro (by
        obtain ⟨k, hk, hc⟩ := hsp (by omega)
        rw [hk] at hv
        have hlt := hv.lt hgw
        have hne := hv.need hgw
        rw [← hc] at hlt hne
        unfold pz_name pz_dig pz_two at hne
        have hir : ab_ir (M 803 ii.toNat) := ⟨by omega, by omega⟩
        first
          | exact hir
          | omega
          | exact Or.inl trivial
          | exact Or.inr trivial
          | exact ⟨by omega, by omega⟩
          | (split <;> exact ⟨by decide, by decide⟩)
          | exact ⟨⟨by omega, by omega⟩, by omega, by omega⟩
          | exact ⟨⟨by omega, by omega⟩, ⟨by omega, by omega⟩⟩) ?_
      obtain ⟨k, hk, hc⟩ := hsp (by omega)
      rw [hk] at hv
      have hlt := hv.lt hgw
      have hne := hv.need hgw
      rw [← hc] at hlt hne
      unfold pz_name pz_dig pz_two at hne
      have hir : ab_ir (M 803 ii.toNat) := ⟨by omega, by omega⟩
      refine ⟨(ii + -1 - be + 1).toNat, by omega, by trivial, by trivial, by trivial, by trivial, by omega, by omega, fun w' g' => ?_⟩
      have eu := vl_uq g4 g'.1 (by omega)
      subst eu
      rw [show (ii + -1 - be + 1).toNat = k by omega]
      first
        | (refine hv.push hgw ?_
           rw [← hc]
           first
             | exact Or.inl ⟨by unfold pz_dig; omega, rfl⟩
             | exact Or.inr ⟨by unfold pz_name; omega, rfl⟩)
        | (refine hv.not hgw (by rw [← hc]; omega) ?_
           first
             | (rw [if_pos (by omega)]; done)
             | (rw [if_neg (by omega)]; done))
        | (refine hv.two hgw (by rw [← hc]; unfold pz_two; omega) ?_
           rw [← hc]
           exact hr155)

set_option maxRecDepth 20000 in
set_option maxHeartbeats 1000000 in
theorem ok_X9_valueOf (E : ab_E) : ab_Ok E 3 189 S_X9_valueOf := by
  refine ab_mk rq_X9_valueOf tk_X9_valueOf (rt := 1) (rfl) (cuts := [10]) (G := [(122, S_X9_both), (145, S_X9_in), (148, S_X9_isName)]) (List.forall_mem_cons.mpr ⟨⟨1, by decide, ok_X9_both E⟩, List.forall_mem_cons.mpr ⟨⟨1, by decide, ok_X9_in E⟩, List.forall_mem_cons.mpr ⟨⟨2, by decide, ok_X9_isName E⟩, fun _ h => absurd h List.not_mem_nil⟩⟩⟩) (by decide) 146 rfl ?_
  intro a M K wd wa hS
  unfold S_X9_valueOf at hS
  split at hS
  ·
    rename_i be nn s
    refine ⟨Nat.le_of_ble_eq_true rfl, fun pc n L st M1 => match pc, L, st with
      | 10, [.inr (.inr (.inr (797, 9, 0))), .inr (.inl b1), .inr (.inl e1), .inr (.inl s1), .inr (.inl to), .inr (.inl ii), u7_], [] => (n = (ii - be + 1).toNat ∧ be = b1 ∧ nn = e1 ∧ s = s1 ∧ be - 1 ≤ ii ∧ ii < be + nn ∧ ∀ w : List Int, vl_P M 803 be w ∧ w.length ≤ 130 ∧ nn = ((w.length : Nat) : Int) → vl_I 817 s w (ii - be + 1).toNat to M M1)
      | _, _, _ => False, ?_, ?_⟩
    · exact vc_X9_valueOf_0 be nn s M K  hS
    · intro pc n L st M1 hI wd1 wL wst
      (try dsimp only at hI)
      split at hI
      ·
        rename_i b1 e1 s1 to ii u7_
        exact vc_X9_valueOf_10 be nn s M K  hS n b1 e1 s1 to ii _ hI
      · exact hI.elim
  · exact hS.elim
