/-! blocks that open and close, pure -/
theorem if_cg {P Q : Prop} [Decidable P] [Decidable Q] {a b : Int} (h : P ↔ Q) : (if P then a else b) = if Q then a else b := by
  by_cases c : P
  · rw [if_pos c, if_pos (h.1 c)]
  · rw [if_neg c, if_neg (fun q => c (h.2 q))]
def jv_b (L : List Int) : Bool := L.all fun x => decide (x = L.headD (-9))
theorem jv_b_a {L : List Int} : jv_b L = true ↔ jv_a L := by
  unfold jv_b jv_a
  rw [List.all_eq_true]
  exact ⟨fun h x hx => of_decide_eq_true (h x hx), fun h x hx => decide_eq_true (h x hx)⟩
theorem jv_len_eq (M : ab_M) (its v v' : Int) : ∀ k, (jv_L M its v k).length = (jv_L M its v' k).length
  | 0 => rfl
  | k + 1 => by
    unfold jv_L
    rw [List.length_append, List.length_append, jv_len_eq M its v v' k]
    split <;> rfl
theorem jv_L_fr {M M' : ab_M} (h1 : ∀ k, M' 840 k = M 840 k) (h2 : ∀ k, M' 841 k = M 841 k) (its v : Int) : ∀ k, jv_L M' its v k = jv_L M its v k
  | 0 => rfl
  | k + 1 => by
    unfold jv_L
    rw [jv_L_fr h1 h2 its v k, h1, h2]
theorem jv_hd_r {M : ab_M} (h : ∀ j, -9 ≤ M 840 j ∧ M 840 j ≤ 1000) (its v : Int) (k : Nat) : -9 ≤ (jv_L M its v k).headD (-9) ∧ (jv_L M its v k).headD (-9) ≤ 1000 := by
  have all : ∀ k, ∀ x ∈ jv_L M its v k, -9 ≤ x ∧ x ≤ 1000 := by
    intro k
    induction k with
    | zero => intro x hx; exact absurd hx List.not_mem_nil
    | succ k ih =>
      intro x hx
      unfold jv_L at hx
      rcases List.mem_append.1 hx with q | q
      · exact ih x q
      · split at q
        · rw [List.mem_singleton.1 q]; exact h _
        · exact absurd q List.not_mem_nil
  cases hc : jv_L M its v k with
  | nil => show (-9 : Int) ≤ -9 ∧ (-9 : Int) ≤ 1000; decide
  | cons a l => exact all k a (by rw [hc]; exact List.mem_cons_self)
/-- the throws of a try come together -/
abbrev pO_L (M : ab_M) (its : Int) (v : Nat) : List Int := jv_L M its (v : Int) (M 797 66).toNat
def pO_4 (M M' : ab_M) (its : Int) : Prop := (pO_L M its 0 = [] → (∀ v, v < 4 → M' 834 v = M 834 v) ∧ (∀ v, v < 4 → M' 835 v = M 835 v) ∧ M' 797 57 = 0 ∧ M' 797 58 = M 797 58) ∧
  (pO_L M its 0 ≠ [] → (∀ v, v < 4 → M' 835 v = M 835 v + (if jv_b (pO_L M its v) = true then 0 else 1)) ∧ (∀ v, v < 4 → M' 834 v = if jv_b (pO_L M its v) = true then (pO_L M its v).headD (-9) else M 835 v + 1) ∧ M' 797 57 = 1 ∧ M' 797 58 = M 797 58 + (((pO_L M its 0).length : Nat) : Int) * ps_cnt (fun v => !jv_b (pO_L M its v)))
/-- a block opens -/
def pO (M M' : ab_M) (e : Nat) : Prop := (M' 797 27 = M 797 27 + 1 ∧ M' 815 (M 797 27).toNat = (e : Int)) ∧
  (M 806 e = 1 ∧ M 839 (M 812 e).toNat = 1 → (∀ v, v < 4 → M' 834 v = M 836 (4 * (M 812 e).toNat + v)) ∧ (∀ v, v < 4 → M' 835 v = M 835 v) ∧ M' 797 57 = 1 ∧ M' 797 58 = M 797 58) ∧
  (M 806 e = 4 → pO_4 M M' (M 812 e)) ∧
  (¬ (M 806 e = 1 ∧ M 839 (M 812 e).toNat = 1) ∧ M 806 e ≠ 4 → (∀ v, v < 4 → M' 834 v = M 834 v) ∧ (∀ v, v < 4 → M' 835 v = M 835 v) ∧ M' 797 57 = M 797 57 ∧ M' 797 58 = M 797 58) ∧
  ∀ o k : Nat, ¬ (o = 797 ∧ (k = 27 ∨ k = 57 ∨ k = 58)) → ¬ (o = 815 ∧ k = (M 797 27).toNat) → ¬ (o = 834 ∧ k < 4) → ¬ (o = 835 ∧ k < 4) → M' o k = M o k
/-- a block closes -/
def pC (M M' : ab_M) (e : Nat) : Prop := (M 806 e = 0 ∨ M 806 e = 3 → ∀ o k : Nat, M' o k = if o = 837 ∧ 4 * (M 812 e).toNat ≤ k ∧ k < 4 * (M 812 e).toNat + 4 then M 834 (k - 4 * (M 812 e).toNat) else ab_up (ab_up M 797 27 (M 797 27 - 1)) 838 (M 812 e).toNat (M 797 57) o k) ∧
  (M 806 e = 2 → (M 839 (M 812 e).toNat = 1 → ∀ o k : Nat, M' o k = if o = 834 ∧ k < 4 then M 836 (4 * (M 812 e).toNat + k) else ab_up (ab_up M 797 27 (M 797 27 - 1)) 797 57 1 o k) ∧ (M 839 (M 812 e).toNat = 0 → M' = ab_up (ab_up M 797 27 (M 797 27 - 1)) 797 57 0)) ∧
  (M 806 e = 1 ∨ M 806 e = 4 → jb_P (ab_up M 797 27 (M 797 27 - 1)) M' (M 812 e).toNat)
/-- while the versions of the throws come together -/
def pO_I (M M1 : ab_M) (its : Int) (e v : Nat) : Prop := (∀ w, w < 4 → M1 835 w = M 835 w + (if w < v ∧ ¬ jv_b (pO_L M its w) = true then 1 else 0)) ∧ (∀ w, w < 4 → M1 834 w = if w < v then (if jv_b (pO_L M its w) = true then (pO_L M its w).headD (-9) else M 835 w + 1) else M 834 w) ∧ M1 797 58 = M 797 58 + (((pO_L M its 0).length : Nat) : Int) * ps_cnt (fun w => decide (w < v) && !jv_b (pO_L M its w)) ∧ M1 797 57 = (if pO_L M its 0 = [] then 0 else 1) ∧ (M1 797 27 = M 797 27 + 1 ∧ M1 815 (M 797 27).toNat = (e : Int)) ∧
  ∀ o k : Nat, ¬ (o = 797 ∧ (k = 27 ∨ k = 57 ∨ k = 58)) → ¬ (o = 815 ∧ k = (M 797 27).toNat) → ¬ (o = 834 ∧ k < 4) → ¬ (o = 835 ∧ k < 4) → M1 o k = M o k
theorem pO_I.next {M M1 M2 : ab_M} {its : Int} {e v : Nat} (h : pO_I M M1 its e v) (hv : v < 4)
    (h1 : jv_a (pO_L M its v) → M2 = ab_up M1 834 v ((pO_L M its v).headD (-9))) (h2 : ¬ jv_a (pO_L M its v) → M2 = ab_up (ab_up (ab_up M1 835 v (M1 835 v + 1)) 834 v (M1 835 v + 1)) 797 58 (M1 797 58 + (((pO_L M its 0).length : Nat) : Int))) : pO_I M M2 its e (v + 1) := by
  obtain ⟨a1, a2, a3, a4, ⟨a5, a6⟩, a7⟩ := h
  have hcnt := ps_cnt_s (fun w => !jv_b (pO_L M its w)) hv
  have e22 : M1 835 v = M 835 v := by rw [a1 v hv, if_neg (fun q => absurd q.1 (Nat.lt_irrefl v))]; omega
  by_cases c : jv_a (pO_L M its v)
  · have cb := jv_b_a.2 c
    have h := h1 c
    subst h
    refine ⟨fun w hw => ?_, fun w hw => ?_, ?_, ?_, ⟨?_, ?_⟩, fun o k q1 q2 q3 q4 => ?_⟩
    · rw [ab_up_o (by decide), a1 w hw]
      by_cases d : w = v
      · subst d
        rw [if_neg (fun q => absurd q.1 (Nat.lt_irrefl w)), if_neg (fun q => q.2 cb)]
      · rw [if_cg (P := w < v ∧ ¬ jv_b (pO_L M its w) = true) (Q := w < v + 1 ∧ ¬ jv_b (pO_L M its w) = true) ⟨fun q => ⟨by omega, q.2⟩, fun q => ⟨by omega, q.2⟩⟩]
    · by_cases d : w = v
      · subst d
        rw [ab_up_s, if_pos (Nat.lt_succ_self w), if_pos cb]
      · rw [ab_up_k d, a2 w hw, if_cg (P := w < v) (Q := w < v + 1) ⟨fun q => by omega, fun q => by omega⟩]
    · rw [ab_up_o (by decide), a3, hcnt, cb, if_neg (by decide), Int.add_zero]
    · rw [ab_up_o (by decide)]; exact a4
    · rw [ab_up_o (by decide)]; exact a5
    · rw [ab_up_o (by decide)]; exact a6
    · rw [up_ne (fun z => q3 ⟨z.1, by omega⟩)]; exact a7 o k q1 q2 q3 q4
  · have cb : ¬ jv_b (pO_L M its v) = true := fun q => c (jv_b_a.1 q)
    have cb2 : jv_b (pO_L M its v) = false := by cases e : jv_b (pO_L M its v) <;> first | rfl | exact absurd e cb
    have h := h2 c
    subst h
    refine ⟨fun w hw => ?_, fun w hw => ?_, ?_, ?_, ⟨?_, ?_⟩, fun o k q1 q2 q3 q4 => ?_⟩
    · rw [ab_up_o (by decide), ab_up_o (by decide)]
      by_cases d : w = v
      · subst d
        rw [ab_up_s, e22, if_pos ⟨Nat.lt_succ_self w, cb⟩]
      · rw [ab_up_k d, a1 w hw, if_cg (P := w < v ∧ ¬ jv_b (pO_L M its w) = true) (Q := w < v + 1 ∧ ¬ jv_b (pO_L M its w) = true) ⟨fun q => ⟨by omega, q.2⟩, fun q => ⟨by omega, q.2⟩⟩]
    · rw [ab_up_o (by decide)]
      by_cases d : w = v
      · subst d
        rw [ab_up_s, if_pos (Nat.lt_succ_self w), if_neg cb, e22]
      · rw [ab_up_k d, ab_up_o (by decide), a2 w hw, if_cg (P := w < v) (Q := w < v + 1) ⟨fun q => by omega, fun q => by omega⟩]
    · rw [ab_up_s, a3, hcnt, cb2, if_pos (by decide), Int.mul_add, Int.mul_one]
      omega
    · rw [ab_up_k (by decide), ab_up_o (by decide), ab_up_o (by decide)]; exact a4
    · rw [ab_up_k (by decide), ab_up_o (by decide), ab_up_o (by decide)]; exact a5
    · rw [ab_up_o (by decide), ab_up_o (by decide), ab_up_o (by decide)]; exact a6
    · rw [up_ne (fun z => q1 ⟨z.1, by omega⟩), up_ne (fun z => q3 ⟨z.1, by omega⟩), up_ne (fun z => q4 ⟨z.1, by omega⟩)]
      exact a7 o k q1 q2 q3 q4
theorem pO_I.done {M M1 : ab_M} {its : Int} {e v : Nat} (h : pO_I M M1 its e v) (hv : (v = 4 ∧ pO_L M its 0 ≠ []) ∨ (v = 0 ∧ pO_L M its 0 = [])) (h4 : M 806 e = 4) (hi : its = M 812 e) : pO M M1 e := by
  obtain ⟨a1, a2, a3, a4, a5, a7⟩ := h
  subst hi
  refine ⟨a5, fun q => absurd q.1 (by omega), fun _ => ⟨fun q => ?_, fun q => ?_⟩, fun q => absurd h4 q.2, a7⟩
  · have hv : v = 0 := by
      rcases hv with z | z
      · exact absurd q z.2
      · exact z.1
    subst hv
    refine ⟨fun w hw => ?_, fun w hw => ?_, by rw [a4, if_pos q], ?_⟩
    · rw [a2 w hw, if_neg (Nat.not_lt_zero w)]
    · rw [a1 w hw, if_neg (fun z => Nat.not_lt_zero w z.1)]; omega
    · rw [a3, ps_cnt_0]; omega
  · have hv : v = 4 := by
      rcases hv with z | z
      · exact z.1
      · exact absurd z.2 q
    subst hv
    refine ⟨fun w hw => ?_, fun w hw => ?_, by rw [a4, if_neg q], ?_⟩
    · rw [a1 w hw]
      by_cases c : jv_b (pO_L M (M 812 e) w) = true
      · rw [if_neg (fun z => z.2 c), if_pos c]
      · rw [if_pos ⟨hw, c⟩, if_neg c]
    · rw [a2 w hw, if_pos hw]
    · rw [a3, ps_cnt_4]

