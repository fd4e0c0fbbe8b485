/-! PURE: lists out of memory, letters, terms, events -/
/-- the first n of a row -/
def pz_ls (f : Nat → Int) (n : Int) : List Int := (List.range n.toNat).map f
theorem pz_ls_len (f : Nat → Int) (n : Int) : (pz_ls f n).length = n.toNat := by simp [pz_ls]
theorem pz_ls_get (f : Nat → Int) (n : Int) (j : Nat) : (pz_ls f n)[j]? = if j < n.toNat then some (f j) else none := by
  unfold pz_ls
  by_cases h : j < n.toNat
  · simp [h]
  · simp [h]
theorem pz_ls_congr {f g : Nat → Int} {n : Int} (h : ∀ j, j < n.toNat → f j = g j) : pz_ls f n = pz_ls g n := by
  apply List.ext_getElem?
  intro j
  rw [pz_ls_get, pz_ls_get]
  by_cases hj : j < n.toNat
  · rw [if_pos hj, if_pos hj, h j hj]
  · rw [if_neg hj, if_neg hj]
theorem pz_ls_succ (f : Nat → Int) {n : Int} (h : 0 ≤ n) : pz_ls f (n + 1) = pz_ls f n ++ [f n.toNat] := by
  unfold pz_ls
  rw [show (n + 1).toNat = n.toNat + 1 by omega, List.range_succ, List.map_append]
  rfl
abbrev pz_name (c : Int) : Prop := 97 ≤ c ∧ c ≤ 100
abbrev pz_dig (c : Int) : Prop := 48 ≤ c ∧ c ≤ 51
abbrev pz_two (c : Int) : Prop := c = 43 ∨ c = 45 ∨ c = 61 ∨ c = 60 ∨ c = 38 ∨ c = 124
/-- a term with so many operands missing: whether it is one, how many letters were taken -/
def pz_tm : List Int → Nat → Nat → Bool × Nat
  | _, 0, k => (true, k)
  | [], _ + 1, k => (false, k)
  | c :: t, l + 1, k => if pz_two c then pz_tm t (l + 2) (k + 1) else if c = 33 then pz_tm t (l + 1) (k + 1) else if pz_name c ∨ pz_dig c then pz_tm t l (k + 1) else (false, k)
/-- the letter at a place, -9 behind the last -/
def pz_at (ls : List Int) (i : Nat) : Int := ls.getD i (-9)
theorem pz_tm_step (ls : List Int) (i l k : Nat) : pz_tm (ls.drop i) (l + 1) k = if pz_two (pz_at ls i) then pz_tm (ls.drop (i + 1)) (l + 2) (k + 1) else if pz_at ls i = 33 then pz_tm (ls.drop (i + 1)) (l + 1) (k + 1) else if pz_name (pz_at ls i) ∨ pz_dig (pz_at ls i) then pz_tm (ls.drop (i + 1)) l (k + 1) else (false, k) := by
  by_cases hi : i < ls.length
  · rw [List.drop_eq_getElem_cons hi]
    have e : pz_at ls i = ls[i] := by simp [pz_at, hi]
    rw [e, pz_tm]
  · rw [List.drop_eq_nil_of_le (by omega), List.drop_eq_nil_of_le (by omega)]
    have e : pz_at ls i = -9 := by simp [pz_at]; rw [List.getElem?_eq_none (by omega)]; rfl
    rw [e, pz_tm, if_neg (by omega), if_neg (by omega), if_neg (by omega)]
theorem pz_tm_zero (ls : List Int) (k : Nat) : pz_tm ls 0 k = (true, k) := by cases ls <;> rfl
/-- an event: its sort, variable, term and its size, other term and its size, check, head -/
abbrev pz_Ev : Type := Int × Int × Int × Int × Int × Int × Int × Int
/-- the kinds of an event's checks -/
def pz_kd (v : pz_Ev) : List Int := if v.1 = 2 then [0] else if v.1 = 5 then [3] else if v.1 = 7 then [1, 2] else []
def pz_kds (E : List pz_Ev) : List Int := E.flatMap pz_kd
def pz_nS (E : List pz_Ev) : Nat := (E.filter (fun v => decide (v.1 ≤ 8))).length
def pz_lps (E : List pz_Ev) : List Nat := (List.range E.length).filter (fun i => decide ((E.getD i (10, 0, 0, 0, 0, 0, 0, 0)).1 = 7))
theorem pz_kds_app (E : List pz_Ev) (v : pz_Ev) : pz_kds (E ++ [v]) = pz_kds E ++ pz_kd v := by simp [pz_kds]
theorem pz_nS_app (E : List pz_Ev) (v : pz_Ev) : pz_nS (E ++ [v]) = pz_nS E + if v.1 ≤ 8 then 1 else 0 := by
  unfold pz_nS
  rw [List.filter_append, List.length_append]
  by_cases h : v.1 ≤ 8 <;> simp [h]
theorem pz_lps_app (E : List pz_Ev) (v : pz_Ev) : pz_lps (E ++ [v]) = pz_lps E ++ if v.1 = 7 then [E.length] else [] := by
  unfold pz_lps
  rw [List.length_append, List.length_singleton, List.range_succ, List.filter_append]
  congr 1
  · apply List.filter_congr
    intro i hi
    have hi := List.mem_range.mp hi
    rw [List.getD_eq_getElem?_getD, List.getElem?_append_left hi, ← List.getD_eq_getElem?_getD]
  · by_cases h : v.1 = 7 <;> simp [h]
theorem ab_bt {P : Prop} [Decidable P] : (¬ (if P then (1 : Int) else 0) = 0) ↔ P := by
  by_cases h : P <;> simp [h]
theorem ab_bf {P : Prop} [Decidable P] : ((if P then (1 : Int) else 0) = 0) ↔ ¬ P := by
  by_cases h : P <;> simp [h]
