/-! the class: links of a statement -/
def cr_LI (M M' : ab_M) (s : Nat) : Prop := (∀ o k : Nat, ¬ (o = s ∧ (k = 17 ∨ k = 18)) → M' o k = M o k) ∧ M' s 17 = cr_go M s ∧ M' s 18 = cr_ot M s
theorem cr_en_17 {M : ab_M} {s w k : Nat} {x : Int} : cr_en (ab_up M s 17 x) w k = if w + 1 = s then cr_en (ab_up M s 17 x) w k else cr_en M w k := by
  by_cases q : w + 1 = s
  · rw [if_pos q]
  · rw [if_neg q]
    unfold cr_en cr_rb
    simp only [ab_up_2, q, if_false, Nat.reduceEqDiff, ite_self]
theorem cr_en_18 {M : ab_M} {s w k : Nat} {x : Int} : cr_en (ab_up M s 18 x) w k = if w + 1 = s then cr_en (ab_up M s 18 x) w k else cr_en M w k := by
  by_cases q : w + 1 = s
  · rw [if_pos q]
  · rw [if_neg q]
    unfold cr_en cr_rb
    simp only [ab_up_2, q, if_false, Nat.reduceEqDiff, ite_self]
abbrev cr_rw (p r : Nat) : Nat := p + 1 + 1 + 3 * r
/-- the rows in whose blocks a row stands, the innermost first -/
def cr_anc (M : ab_M) (p : Nat) : Nat → Int → List Nat
  | 0, _ => []
  | n + 1, x => if 0 ≤ x ∧ x < M p 3 then x.toNat :: cr_anc M p n (M (p + 1 + 1 + 3 * x.toNat) 8) else []
def cr_sw (v : Int) : Int := ab_or (ab_and 0 (ab_xor (ab_shl (4 - 1) (6 - 2 * v)) (-1))) (ab_shl 3 (6 - 2 * v))
def cr_nmf (p : Nat) (v : Int) (N : ab_M) (q : Nat) : ab_M := if N (p + 1 + 1 + 3 * q) 0 = 119 then ab_up (ab_up N (p + 1 + 1 + 3 * q) 6 (ab_or (N (p + 1 + 1 + 3 * q) 6) (ab_shl 1 v))) (p + 1 + 1 + 3 * q) 7 (ab_or (N (p + 1 + 1 + 3 * q) 7) (cr_sw v)) else N
theorem cr_nm_fr (p : Nat) (v : Int) (l : List Nat) : ∀ (M : ab_M) (o k : Nat), k ≠ 6 → k ≠ 7 → l.foldl (cr_nmf p v) M o k = M o k := by
  induction l with
  | nil => intro M o k _ _; rfl
  | cons q l ih =>
    intro M o k h6 h7
    rw [List.foldl_cons, ih _ o k h6 h7]
    unfold cr_nmf
    split
    · rw [up_ne (fun y => h7 y.2), up_ne (fun y => h6 y.2)]
    · rfl
theorem cr_nm_fo (p : Nat) (v : Int) (l : List Nat) : ∀ (M : ab_M) (o k : Nat), (∀ q ∈ l, o ≠ p + 1 + 1 + 3 * q) → l.foldl (cr_nmf p v) M o k = M o k := by
  induction l with
  | nil => intro M o k _; rfl
  | cons q l ih =>
    intro M o k h
    rw [List.foldl_cons, ih _ o k (fun q' hq => h q' (List.mem_cons_of_mem _ hq))]
    have hq := h q List.mem_cons_self
    unfold cr_nmf
    split
    · rw [up_ne (fun y => hq y.1), up_ne (fun y => hq y.1)]
    · rfl
theorem ab_or_id (a b : Int) : ab_or (ab_or a b) b = ab_or a b := by
  unfold ab_or
  rw [Int32.ofInt_toInt]
  apply congrArg
  rw [Int32.or_assoc, Int32.or_self]
theorem cr_nm_at (p : Nat) (v : Int) (l : List Nat) : ∀ (M : ab_M) (q : Nat), l.foldl (cr_nmf p v) M (p + 1 + 1 + 3 * q) 6 = (if q ∈ l ∧ M (p + 1 + 1 + 3 * q) 0 = 119 then ab_or (M (p + 1 + 1 + 3 * q) 6) (ab_shl 1 v) else M (p + 1 + 1 + 3 * q) 6) ∧ l.foldl (cr_nmf p v) M (p + 1 + 1 + 3 * q) 7 = (if q ∈ l ∧ M (p + 1 + 1 + 3 * q) 0 = 119 then ab_or (M (p + 1 + 1 + 3 * q) 7) (cr_sw v) else M (p + 1 + 1 + 3 * q) 7) := by
  induction l with
  | nil => intro M q; rw [if_neg (fun y => by cases y.1), if_neg (fun y => by cases y.1)]; exact ⟨rfl, rfl⟩
  | cons x l ih =>
    intro M q
    rw [List.foldl_cons]
    obtain ⟨h6, h7⟩ := ih (cr_nmf p v M x) q
    rw [h6, h7]
    by_cases hx : q = x
    · subst hx
      by_cases h0 : M (p + 1 + 1 + 3 * q) 0 = 119
      · have e : cr_nmf p v M q = ab_up (ab_up M (p + 1 + 1 + 3 * q) 6 (ab_or (M (p + 1 + 1 + 3 * q) 6) (ab_shl 1 v))) (p + 1 + 1 + 3 * q) 7 (ab_or (M (p + 1 + 1 + 3 * q) 7) (cr_sw v)) := by unfold cr_nmf; rw [if_pos h0]
        rw [e]
        simp only [ab_up_2, if_true, Nat.reduceEqDiff, if_false, h0, and_true, List.mem_cons, true_or]
        by_cases hm : q ∈ l
        · rw [if_pos hm, if_pos hm, ab_or_id, ab_or_id]; exact ⟨rfl, rfl⟩
        · rw [if_neg hm, if_neg hm]; exact ⟨rfl, rfl⟩
      · have e : cr_nmf p v M q = M := by unfold cr_nmf; rw [if_neg h0]
        rw [e, if_neg (fun y => h0 y.2), if_neg (fun y => h0 y.2), if_neg (fun y => h0 y.2), if_neg (fun y => h0 y.2)]
        exact ⟨rfl, rfl⟩
    · have e : ∀ k, cr_nmf p v M x (p + 1 + 1 + 3 * q) k = M (p + 1 + 1 + 3 * q) k := fun k => by
        unfold cr_nmf
        split
        · rw [up_ne (by omega), up_ne (by omega)]
        · rfl
      rw [e, e, e]
      have hm : (q ∈ x :: l) ↔ q ∈ l := by rw [List.mem_cons]; exact ⟨fun y => y.resolve_left hx, Or.inr⟩
      simp only [hm]
      exact ⟨trivial, trivial⟩
/-- what noteModified goes through -/
def cr_nmI (M M1 : ab_M) (p s : Nat) (i : Int) (w : Nat) : Prop := ∃ (l : List Nat) (x : Int), cr_anc M p 120 (M s 8) = l ++ cr_anc M p (120 - i).toNat x ∧ M1 = l.foldl (cr_nmf p (M s 1)) M ∧ w = (if 0 ≤ x ∧ x < M p 3 then p + 1 + 1 + 3 * x.toNat else p + 362) ∧ ab_ir x ∧ 0 ≤ i ∧ i ≤ 120
theorem cr_anc_s (M : ab_M) (p n : Nat) (x : Int) (h : 0 ≤ x ∧ x < M p 3) : cr_anc M p (n + 1) x = x.toNat :: cr_anc M p n (M (p + 1 + 1 + 3 * x.toNat) 8) := by
  show (if 0 ≤ x ∧ x < M p 3 then _ else _) = _
  rw [if_pos h]
theorem cr_anc_e (M : ab_M) (p n : Nat) (x : Int) (h : ¬ (0 ≤ x ∧ x < M p 3)) : cr_anc M p n x = [] := by
  cases n with
  | zero => rfl
  | succ n =>
    show (if 0 ≤ x ∧ x < M p 3 then _ else _) = _
    rw [if_neg h]
def pz_mk4 (a b c d : Bool) : Int := (if a then 1 else 0) + (if b then 2 else 0) + (if c then 4 else 0) + (if d then 8 else 0)
def pz_mb4 (a b c d : Bool) : Int := (if a then 192 else 0) + (if b then 48 else 0) + (if c then 12 else 0) + (if d then 3 else 0)
def pz_mk (s : Nat → Bool) : Int := pz_mk4 (s 0) (s 1) (s 2) (s 3)
def pz_mb (s : Nat → Bool) : Int := pz_mb4 (s 0) (s 1) (s 2) (s 3)
theorem pz_mk4_or : ∀ a b c d : Bool, (ab_or (pz_mk4 a b c d) (ab_shl 1 0) = pz_mk4 true b c d ∧ ab_or (pz_mb4 a b c d) (cr_sw 0) = pz_mb4 true b c d) ∧ (ab_or (pz_mk4 a b c d) (ab_shl 1 1) = pz_mk4 a true c d ∧ ab_or (pz_mb4 a b c d) (cr_sw 1) = pz_mb4 a true c d) ∧ (ab_or (pz_mk4 a b c d) (ab_shl 1 2) = pz_mk4 a b true d ∧ ab_or (pz_mb4 a b c d) (cr_sw 2) = pz_mb4 a b true d) ∧ (ab_or (pz_mk4 a b c d) (ab_shl 1 3) = pz_mk4 a b c true ∧ ab_or (pz_mb4 a b c d) (cr_sw 3) = pz_mb4 a b c true) := by decide +kernel
theorem pz_mk_or (s : Nat → Bool) (v : Nat) (hv : v ≤ 3) : ab_or (pz_mk s) (ab_shl 1 (v : Int)) = pz_mk (fun w => s w || decide (w = v)) ∧ ab_or (pz_mb s) (cr_sw (v : Int)) = pz_mb (fun w => s w || decide (w = v)) := by
  have hc : v = 0 ∨ v = 1 ∨ v = 2 ∨ v = 3 := by omega
  have h := pz_mk4_or (s 0) (s 1) (s 2) (s 3)
  unfold pz_mk pz_mb
  rcases hc with rfl | rfl | rfl | rfl
  · simpa using h.1
  · simpa using h.2.1
  · simpa using h.2.2.1
  · simpa using h.2.2.2

def S_X1_linkIn : ab_PT := fun a M K => match a with
  | [.inr (.inr (.inr (p, 1, n1))), .inr (.inr (.inr (s, 4, n2)))] => (ab_ir (M s 0) ∧ ab_ir (M (s + 1) 0) ∧ ab_ir (M (s + 1) 1)) ∧ (∀ Mx : ab_M, (cr_LI M Mx s) → K [] Mx)
  | _ => False
set_option maxRecDepth 20000 in
theorem vc_X1_linkIn_0 (p : Nat) (n1 : Nat) (s : Nat) (n2 : Nat) (M : ab_M) (K : List ab_V → ab_M → Prop) (hS : (ab_ir (M s 0) ∧ ab_ir (M (s + 1) 0) ∧ ab_ir (M (s + 1) 1)) ∧ (∀ Mx : ab_M, (cr_LI M Mx s) → K [] Mx)) : (-128 ≤ (116 : Int) ∧ (116 : Int) < 128) ∧ (ab_ir ((ab_up M s 18 (M s 15)) s 0) ∧ ab_ir (116 : Int)) ∧ ((¬ ((ab_up M s 18 (M s 15)) s 0) = (116 : Int) → (-128 ≤ (105 : Int) ∧ (105 : Int) < 128) ∧ (ab_ir ((ab_up M s 18 (M s 15)) s 0) ∧ ab_ir (105 : Int)) ∧ ((((ab_up M s 18 (M s 15)) s 0) = (105 : Int) → (ab_ir ((ab_up M s 18 (M s 15)) s 0) ∧ ab_ir ((ab_up M s 18 (M s 15)) (s + 1) (0 : Int).toNat) ∧ 0 ≤ (0 : Int) ∧ (0 : Int) < 2) ∧ (∀ r59 : Int, (r59 = cr_en (ab_up M s 18 (M s 15)) s (0 : Int).toNat) → (-128 ≤ (105 : Int) ∧ (105 : Int) < 128) ∧ (ab_ir ((ab_up (ab_up M s 18 (M s 15)) s 17 r59) s 0) ∧ ab_ir (105 : Int)) ∧ ((¬ ((ab_up (ab_up M s 18 (M s 15)) s 17 r59) s 0) = (105 : Int) → K [] (ab_up (ab_up M s 18 (M s 15)) s 17 r59)) ∧ (((ab_up (ab_up M s 18 (M s 15)) s 17 r59) s 0) = (105 : Int) → (ab_ir ((ab_up (ab_up M s 18 (M s 15)) s 17 r59) s 0) ∧ ab_ir ((ab_up (ab_up M s 18 (M s 15)) s 17 r59) (s + 1) (1 : Int).toNat) ∧ 0 ≤ (1 : Int) ∧ (1 : Int) < 2) ∧ (∀ r89 : Int, (r89 = cr_en (ab_up (ab_up M s 18 (M s 15)) s 17 r59) s (1 : Int).toNat) → K [] (ab_up (ab_up (ab_up M s 18 (M s 15)) s 17 r59) s 18 r89)))))) ∧ (¬ ((ab_up M s 18 (M s 15)) s 0) = (105 : Int) → (-128 ≤ (119 : Int) ∧ (119 : Int) < 128) ∧ (ab_ir ((ab_up M s 18 (M s 15)) s 0) ∧ ab_ir (119 : Int)) ∧ ((((ab_up M s 18 (M s 15)) s 0) = (119 : Int) → (ab_ir ((ab_up M s 18 (M s 15)) s 0) ∧ ab_ir ((ab_up M s 18 (M s 15)) (s + 1) (0 : Int).toNat) ∧ 0 ≤ (0 : Int) ∧ (0 : Int) < 2) ∧ (∀ r59 : Int, (r59 = cr_en (ab_up M s 18 (M s 15)) s (0 : Int).toNat) → (-128 ≤ (105 : Int) ∧ (105 : Int) < 128) ∧ (ab_ir ((ab_up (ab_up M s 18 (M s 15)) s 17 r59) s 0) ∧ ab_ir (105 : Int)) ∧ ((¬ ((ab_up (ab_up M s 18 (M s 15)) s 17 r59) s 0) = (105 : Int) → K [] (ab_up (ab_up M s 18 (M s 15)) s 17 r59)) ∧ (((ab_up (ab_up M s 18 (M s 15)) s 17 r59) s 0) = (105 : Int) → (ab_ir ((ab_up (ab_up M s 18 (M s 15)) s 17 r59) s 0) ∧ ab_ir ((ab_up (ab_up M s 18 (M s 15)) s 17 r59) (s + 1) (1 : Int).toNat) ∧ 0 ≤ (1 : Int) ∧ (1 : Int) < 2) ∧ (∀ r89 : Int, (r89 = cr_en (ab_up (ab_up M s 18 (M s 15)) s 17 r59) s (1 : Int).toNat) → K [] (ab_up (ab_up (ab_up M s 18 (M s 15)) s 17 r59) s 18 r89)))))) ∧ (¬ ((ab_up M s 18 (M s 15)) s 0) = (119 : Int) → (-128 ≤ (121 : Int) ∧ (121 : Int) < 128) ∧ (ab_ir ((ab_up M s 18 (M s 15)) s 0) ∧ ab_ir (121 : Int)) ∧ ((¬ ((ab_up M s 18 (M s 15)) s 0) = (121 : Int) → (-128 ≤ (105 : Int) ∧ (105 : Int) < 128) ∧ (ab_ir ((ab_up (ab_up M s 18 (M s 15)) s 17 ((ab_up M s 18 (M s 15)) s 15)) s 0) ∧ ab_ir (105 : Int)) ∧ ((¬ ((ab_up (ab_up M s 18 (M s 15)) s 17 ((ab_up M s 18 (M s 15)) s 15)) s 0) = (105 : Int) → K [] (ab_up (ab_up M s 18 (M s 15)) s 17 ((ab_up M s 18 (M s 15)) s 15))) ∧ (((ab_up (ab_up M s 18 (M s 15)) s 17 ((ab_up M s 18 (M s 15)) s 15)) s 0) = (105 : Int) → (ab_ir ((ab_up (ab_up M s 18 (M s 15)) s 17 ((ab_up M s 18 (M s 15)) s 15)) s 0) ∧ ab_ir ((ab_up (ab_up M s 18 (M s 15)) s 17 ((ab_up M s 18 (M s 15)) s 15)) (s + 1) (1 : Int).toNat) ∧ 0 ≤ (1 : Int) ∧ (1 : Int) < 2) ∧ (∀ r89 : Int, (r89 = cr_en (ab_up (ab_up M s 18 (M s 15)) s 17 ((ab_up M s 18 (M s 15)) s 15)) s (1 : Int).toNat) → K [] (ab_up (ab_up (ab_up M s 18 (M s 15)) s 17 ((ab_up M s 18 (M s 15)) s 15)) s 18 r89))))) ∧ (((ab_up M s 18 (M s 15)) s 0) = (121 : Int) → (ab_ir ((ab_up M s 18 (M s 15)) s 0) ∧ ab_ir ((ab_up M s 18 (M s 15)) (s + 1) (0 : Int).toNat) ∧ 0 ≤ (0 : Int) ∧ (0 : Int) < 2) ∧ (∀ r59 : Int, (r59 = cr_en (ab_up M s 18 (M s 15)) s (0 : Int).toNat) → (-128 ≤ (105 : Int) ∧ (105 : Int) < 128) ∧ (ab_ir ((ab_up (ab_up M s 18 (M s 15)) s 17 r59) s 0) ∧ ab_ir (105 : Int)) ∧ ((¬ ((ab_up (ab_up M s 18 (M s 15)) s 17 r59) s 0) = (105 : Int) → K [] (ab_up (ab_up M s 18 (M s 15)) s 17 r59)) ∧ (((ab_up (ab_up M s 18 (M s 15)) s 17 r59) s 0) = (105 : Int) → (ab_ir ((ab_up (ab_up M s 18 (M s 15)) s 17 r59) s 0) ∧ ab_ir ((ab_up (ab_up M s 18 (M s 15)) s 17 r59) (s + 1) (1 : Int).toNat) ∧ 0 ≤ (1 : Int) ∧ (1 : Int) < 2) ∧ (∀ r89 : Int, (r89 = cr_en (ab_up (ab_up M s 18 (M s 15)) s 17 r59) s (1 : Int).toNat) → K [] (ab_up (ab_up (ab_up M s 18 (M s 15)) s 17 r59) s 18 r89)))))))))))) ∧ (((ab_up M s 18 (M s 15)) s 0) = (116 : Int) → (-128 ≤ (105 : Int) ∧ (105 : Int) < 128) ∧ (ab_ir ((ab_up (ab_up M s 18 (M s 15)) s 17 ((ab_up M s 18 (M s 15)) s 16)) s 0) ∧ ab_ir (105 : Int)) ∧ ((¬ ((ab_up (ab_up M s 18 (M s 15)) s 17 ((ab_up M s 18 (M s 15)) s 16)) s 0) = (105 : Int) → K [] (ab_up (ab_up M s 18 (M s 15)) s 17 ((ab_up M s 18 (M s 15)) s 16))) ∧ (((ab_up (ab_up M s 18 (M s 15)) s 17 ((ab_up M s 18 (M s 15)) s 16)) s 0) = (105 : Int) → (ab_ir ((ab_up (ab_up M s 18 (M s 15)) s 17 ((ab_up M s 18 (M s 15)) s 16)) s 0) ∧ ab_ir ((ab_up (ab_up M s 18 (M s 15)) s 17 ((ab_up M s 18 (M s 15)) s 16)) (s + 1) (1 : Int).toNat) ∧ 0 ≤ (1 : Int) ∧ (1 : Int) < 2) ∧ (∀ r89 : Int, (r89 = cr_en (ab_up (ab_up M s 18 (M s 15)) s 17 ((ab_up M s 18 (M s 15)) s 16)) s (1 : Int).toNat) → K [] (ab_up (ab_up (ab_up M s 18 (M s 15)) s 17 ((ab_up M s 18 (M s 15)) s 16)) s 18 r89)))))) := by
  obtain ⟨⟨h1, h2, h3⟩, gK⟩ := hS
  have n1 : ¬ s + 1 = s := by omega
  refine And.intro (by
    (try simp only [ab_up_2, n1, Nat.reduceEqDiff, if_false, if_true])
    first
      | exact ⟨h1, by decide, by decide⟩
      | exact ⟨h1, h2, by decide, by decide⟩
      | exact ⟨h1, h3, by decide, by decide⟩
      | exact ⟨by decide, by decide⟩
      | trivial
      | omega) ?_
  refine And.intro (by
    (try simp only [ab_up_2, n1, Nat.reduceEqDiff, if_false, if_true])
    first
      | exact ⟨h1, by decide, by decide⟩
      | exact ⟨h1, h2, by decide, by decide⟩
      | exact ⟨h1, h3, by decide, by decide⟩
      | exact ⟨by decide, by decide⟩
      | trivial
      | omega) ?_
  refine ⟨?_, ?_⟩
  · intro c14
    refine And.intro (by
      (try simp only [ab_up_2, n1, Nat.reduceEqDiff, if_false, if_true])
      first
        | exact ⟨h1, by decide, by decide⟩
        | exact ⟨h1, h2, by decide, by decide⟩
        | exact ⟨h1, h3, by decide, by decide⟩
        | exact ⟨by decide, by decide⟩
        | trivial
        | omega) ?_
    refine And.intro (by
      (try simp only [ab_up_2, n1, Nat.reduceEqDiff, if_false, if_true])
      first
        | exact ⟨h1, by decide, by decide⟩
        | exact ⟨h1, h2, by decide, by decide⟩
        | exact ⟨h1, h3, by decide, by decide⟩
        | exact ⟨by decide, by decide⟩
        | trivial
        | omega) ?_
    refine ⟨?_, ?_⟩
    · intro c34
      refine And.intro (by
        (try simp only [ab_up_2, n1, Nat.reduceEqDiff, if_false, if_true])
        first
          | exact ⟨h1, by decide, by decide⟩
          | exact ⟨h1, h2, by decide, by decide⟩
          | exact ⟨h1, h3, by decide, by decide⟩
          | exact ⟨by decide, by decide⟩
          | trivial
          | omega) ?_
      intro r59 hr59
      refine And.intro (by
        (try simp only [ab_up_2, n1, Nat.reduceEqDiff, if_false, if_true])
        first
          | exact ⟨h1, by decide, by decide⟩
          | exact ⟨h1, h2, by decide, by decide⟩
          | exact ⟨h1, h3, by decide, by decide⟩
          | exact ⟨by decide, by decide⟩
          | trivial
          | omega) ?_
      refine And.intro (by
        (try simp only [ab_up_2, n1, Nat.reduceEqDiff, if_false, if_true])
        first
          | exact ⟨h1, by decide, by decide⟩
          | exact ⟨h1, h2, by decide, by decide⟩
          | exact ⟨h1, h3, by decide, by decide⟩
          | exact ⟨by decide, by decide⟩
          | trivial
          | omega) ?_
      refine ⟨?_, ?_⟩
      · intro c82
        (try simp only [ab_up_2, n1, Nat.reduceEqDiff, if_false, if_true] at c14)
        (try simp only [ab_up_2, n1, Nat.reduceEqDiff, if_false, if_true] at c34)
        (try simp only [ab_up_2, n1, Nat.reduceEqDiff, if_false, if_true] at c43)
        (try simp only [ab_up_2, n1, Nat.reduceEqDiff, if_false, if_true] at c52)
        (try simp only [ab_up_2, n1, Nat.reduceEqDiff, if_false, if_true] at c82)
        (try rw [cr_en_18, if_neg n1] at hr59)
        (try rw [cr_en_17, if_neg n1, cr_en_18, if_neg n1] at hr89)
        first
          | (exfalso; omega)
          | (refine gK _ ⟨fun o k h => ?_, ?_, ?_⟩
             · first
                 | (rw [up_ne (fun y => h ⟨y.1, Or.inr y.2⟩), up_ne (fun y => h ⟨y.1, Or.inl y.2⟩), up_ne (fun y => h ⟨y.1, Or.inr y.2⟩)]; done)
                 | (rw [up_ne (fun y => h ⟨y.1, Or.inl y.2⟩), up_ne (fun y => h ⟨y.1, Or.inr y.2⟩)]; done)
             · simp only [ab_up_2, n1, Nat.reduceEqDiff, if_false, if_true]
               unfold cr_go
               first
                 | (rw [if_pos (by omega)]; done)
                 | (rw [if_neg (by omega), if_pos (by omega)]; exact hr59)
                 | (rw [if_neg (by omega), if_neg (by omega)]; done)
             · simp only [ab_up_2, n1, Nat.reduceEqDiff, if_false, if_true]
               unfold cr_ot
               first
                 | (rw [if_pos (by omega)]; exact hr89)
                 | (rw [if_neg (by omega)]; done))
      · intro c82
        refine And.intro (by
          (try simp only [ab_up_2, n1, Nat.reduceEqDiff, if_false, if_true])
          first
            | exact ⟨h1, by decide, by decide⟩
            | exact ⟨h1, h2, by decide, by decide⟩
            | exact ⟨h1, h3, by decide, by decide⟩
            | exact ⟨by decide, by decide⟩
            | trivial
            | omega) ?_
        intro r89 hr89
        (try simp only [ab_up_2, n1, Nat.reduceEqDiff, if_false, if_true] at c14)
        (try simp only [ab_up_2, n1, Nat.reduceEqDiff, if_false, if_true] at c34)
        (try simp only [ab_up_2, n1, Nat.reduceEqDiff, if_false, if_true] at c43)
        (try simp only [ab_up_2, n1, Nat.reduceEqDiff, if_false, if_true] at c52)
        (try simp only [ab_up_2, n1, Nat.reduceEqDiff, if_false, if_true] at c82)
        (try rw [cr_en_18, if_neg n1] at hr59)
        (try rw [cr_en_17, if_neg n1, cr_en_18, if_neg n1] at hr89)
        first
          | (exfalso; omega)
          | (refine gK _ ⟨fun o k h => ?_, ?_, ?_⟩
             · first
                 | (rw [up_ne (fun y => h ⟨y.1, Or.inr y.2⟩), up_ne (fun y => h ⟨y.1, Or.inl y.2⟩), up_ne (fun y => h ⟨y.1, Or.inr y.2⟩)]; done)
                 | (rw [up_ne (fun y => h ⟨y.1, Or.inl y.2⟩), up_ne (fun y => h ⟨y.1, Or.inr y.2⟩)]; done)
             · simp only [ab_up_2, n1, Nat.reduceEqDiff, if_false, if_true]
               unfold cr_go
               first
                 | (rw [if_pos (by omega)]; done)
                 | (rw [if_neg (by omega), if_pos (by omega)]; exact hr59)
                 | (rw [if_neg (by omega), if_neg (by omega)]; done)
             · simp only [ab_up_2, n1, Nat.reduceEqDiff, if_false, if_true]
               unfold cr_ot
               first
                 | (rw [if_pos (by omega)]; exact hr89)
                 | (rw [if_neg (by omega)]; done))
    · intro c34
      refine And.intro (by
        (try simp only [ab_up_2, n1, Nat.reduceEqDiff, if_false, if_true])
        first
          | exact ⟨h1, by decide, by decide⟩
          | exact ⟨h1, h2, by decide, by decide⟩
          | exact ⟨h1, h3, by decide, by decide⟩
          | exact ⟨by decide, by decide⟩
          | trivial
          | omega) ?_
      refine And.intro (by
        (try simp only [ab_up_2, n1, Nat.reduceEqDiff, if_false, if_true])
        first
          | exact ⟨h1, by decide, by decide⟩
          | exact ⟨h1, h2, by decide, by decide⟩
          | exact ⟨h1, h3, by decide, by decide⟩
          | exact ⟨by decide, by decide⟩
          | trivial
          | omega) ?_
      refine ⟨?_, ?_⟩
      · intro c43
        refine And.intro (by
          (try simp only [ab_up_2, n1, Nat.reduceEqDiff, if_false, if_true])
          first
            | exact ⟨h1, by decide, by decide⟩
            | exact ⟨h1, h2, by decide, by decide⟩
            | exact ⟨h1, h3, by decide, by decide⟩
            | exact ⟨by decide, by decide⟩
            | trivial
            | omega) ?_
        intro r59 hr59
        refine And.intro (by
          (try simp only [ab_up_2, n1, Nat.reduceEqDiff, if_false, if_true])
          first
            | exact ⟨h1, by decide, by decide⟩
            | exact ⟨h1, h2, by decide, by decide⟩
            | exact ⟨h1, h3, by decide, by decide⟩
            | exact ⟨by decide, by decide⟩
            | trivial
            | omega) ?_
        refine And.intro (by
          (try simp only [ab_up_2, n1, Nat.reduceEqDiff, if_false, if_true])
          first
            | exact ⟨h1, by decide, by decide⟩
            | exact ⟨h1, h2, by decide, by decide⟩
            | exact ⟨h1, h3, by decide, by decide⟩
            | exact ⟨by decide, by decide⟩
            | trivial
            | omega) ?_
        refine ⟨?_, ?_⟩
        · intro c82
          (try simp only [ab_up_2, n1, Nat.reduceEqDiff, if_false, if_true] at c14)
          (try simp only [ab_up_2, n1, Nat.reduceEqDiff, if_false, if_true] at c34)
          (try simp only [ab_up_2, n1, Nat.reduceEqDiff, if_false, if_true] at c43)
          (try simp only [ab_up_2, n1, Nat.reduceEqDiff, if_false, if_true] at c52)
          (try simp only [ab_up_2, n1, Nat.reduceEqDiff, if_false, if_true] at c82)
          (try rw [cr_en_18, if_neg n1] at hr59)
          (try rw [cr_en_17, if_neg n1, cr_en_18, if_neg n1] at hr89)
          first
            | (exfalso; omega)
            | (refine gK _ ⟨fun o k h => ?_, ?_, ?_⟩
               · first
                   | (rw [up_ne (fun y => h ⟨y.1, Or.inr y.2⟩), up_ne (fun y => h ⟨y.1, Or.inl y.2⟩), up_ne (fun y => h ⟨y.1, Or.inr y.2⟩)]; done)
                   | (rw [up_ne (fun y => h ⟨y.1, Or.inl y.2⟩), up_ne (fun y => h ⟨y.1, Or.inr y.2⟩)]; done)
               · simp only [ab_up_2, n1, Nat.reduceEqDiff, if_false, if_true]
                 unfold cr_go
                 first
                   | (rw [if_pos (by omega)]; done)
                   | (rw [if_neg (by omega), if_pos (by omega)]; exact hr59)
                   | (rw [if_neg (by omega), if_neg (by omega)]; done)
               · simp only [ab_up_2, n1, Nat.reduceEqDiff, if_false, if_true]
                 unfold cr_ot
                 first
                   | (rw [if_pos (by omega)]; exact hr89)
                   | (rw [if_neg (by omega)]; done))
        · intro c82
          refine And.intro (by
            (try simp only [ab_up_2, n1, Nat.reduceEqDiff, if_false, if_true])
            first
              | exact ⟨h1, by decide, by decide⟩
              | exact ⟨h1, h2, by decide, by decide⟩
              | exact ⟨h1, h3, by decide, by decide⟩
              | exact ⟨by decide, by decide⟩
              | trivial
              | omega) ?_
          intro r89 hr89
          (try simp only [ab_up_2, n1, Nat.reduceEqDiff, if_false, if_true] at c14)
          (try simp only [ab_up_2, n1, Nat.reduceEqDiff, if_false, if_true] at c34)
          (try simp only [ab_up_2, n1, Nat.reduceEqDiff, if_false, if_true] at c43)
          (try simp only [ab_up_2, n1, Nat.reduceEqDiff, if_false, if_true] at c52)
          (try simp only [ab_up_2, n1, Nat.reduceEqDiff, if_false, if_true] at c82)
          (try rw [cr_en_18, if_neg n1] at hr59)
          (try rw [cr_en_17, if_neg n1, cr_en_18, if_neg n1] at hr89)
          first
            | (exfalso; omega)
            | (refine gK _ ⟨fun o k h => ?_, ?_, ?_⟩
               · first
                   | (rw [up_ne (fun y => h ⟨y.1, Or.inr y.2⟩), up_ne (fun y => h ⟨y.1, Or.inl y.2⟩), up_ne (fun y => h ⟨y.1, Or.inr y.2⟩)]; done)
                   | (rw [up_ne (fun y => h ⟨y.1, Or.inl y.2⟩), up_ne (fun y => h ⟨y.1, Or.inr y.2⟩)]; done)
               · simp only [ab_up_2, n1, Nat.reduceEqDiff, if_false, if_true]
                 unfold cr_go
                 first
                   | (rw [if_pos (by omega)]; done)
                   | (rw [if_neg (by omega), if_pos (by omega)]; exact hr59)
                   | (rw [if_neg (by omega), if_neg (by omega)]; done)
               · simp only [ab_up_2, n1, Nat.reduceEqDiff, if_false, if_true]
                 unfold cr_ot
                 first
                   | (rw [if_pos (by omega)]; exact hr89)
                   | (rw [if_neg (by omega)]; done))
      · intro c43
        refine And.intro (by
          (try simp only [ab_up_2, n1, Nat.reduceEqDiff, if_false, if_true])
          first
            | exact ⟨h1, by decide, by decide⟩
            | exact ⟨h1, h2, by decide, by decide⟩
            | exact ⟨h1, h3, by decide, by decide⟩
            | exact ⟨by decide, by decide⟩
            | trivial
            | omega) ?_
        refine And.intro (by
          (try simp only [ab_up_2, n1, Nat.reduceEqDiff, if_false, if_true])
          first
            | exact ⟨h1, by decide, by decide⟩
            | exact ⟨h1, h2, by decide, by decide⟩
            | exact ⟨h1, h3, by decide, by decide⟩
            | exact ⟨by decide, by decide⟩
            | trivial
            | omega) ?_
        refine ⟨?_, ?_⟩
        · intro c52
          refine And.intro (by
            (try simp only [ab_up_2, n1, Nat.reduceEqDiff, if_false, if_true])
            first
              | exact ⟨h1, by decide, by decide⟩
              | exact ⟨h1, h2, by decide, by decide⟩
              | exact ⟨h1, h3, by decide, by decide⟩
              | exact ⟨by decide, by decide⟩
              | trivial
              | omega) ?_
          refine And.intro (by
            (try simp only [ab_up_2, n1, Nat.reduceEqDiff, if_false, if_true])
            first
              | exact ⟨h1, by decide, by decide⟩
              | exact ⟨h1, h2, by decide, by decide⟩
              | exact ⟨h1, h3, by decide, by decide⟩
              | exact ⟨by decide, by decide⟩
              | trivial
              | omega) ?_
          refine ⟨?_, ?_⟩
          · intro c82
            (try simp only [ab_up_2, n1, Nat.reduceEqDiff, if_false, if_true] at c14)
            (try simp only [ab_up_2, n1, Nat.reduceEqDiff, if_false, if_true] at c34)
            (try simp only [ab_up_2, n1, Nat.reduceEqDiff, if_false, if_true] at c43)
            (try simp only [ab_up_2, n1, Nat.reduceEqDiff, if_false, if_true] at c52)
            (try simp only [ab_up_2, n1, Nat.reduceEqDiff, if_false, if_true] at c82)
            (try rw [cr_en_18, if_neg n1] at hr59)
            (try rw [cr_en_17, if_neg n1, cr_en_18, if_neg n1] at hr89)
            first
              | (exfalso; omega)
              | (refine gK _ ⟨fun o k h => ?_, ?_, ?_⟩
                 · first
                     | (rw [up_ne (fun y => h ⟨y.1, Or.inr y.2⟩), up_ne (fun y => h ⟨y.1, Or.inl y.2⟩), up_ne (fun y => h ⟨y.1, Or.inr y.2⟩)]; done)
                     | (rw [up_ne (fun y => h ⟨y.1, Or.inl y.2⟩), up_ne (fun y => h ⟨y.1, Or.inr y.2⟩)]; done)
                 · simp only [ab_up_2, n1, Nat.reduceEqDiff, if_false, if_true]
                   unfold cr_go
                   first
                     | (rw [if_pos (by omega)]; done)
                     | (rw [if_neg (by omega), if_pos (by omega)]; exact hr59)
                     | (rw [if_neg (by omega), if_neg (by omega)]; done)
                 · simp only [ab_up_2, n1, Nat.reduceEqDiff, if_false, if_true]
                   unfold cr_ot
                   first
                     | (rw [if_pos (by omega)]; exact hr89)
                     | (rw [if_neg (by omega)]; done))
          · intro c82
            refine And.intro (by
              (try simp only [ab_up_2, n1, Nat.reduceEqDiff, if_false, if_true])
              first
                | exact ⟨h1, by decide, by decide⟩
                | exact ⟨h1, h2, by decide, by decide⟩
                | exact ⟨h1, h3, by decide, by decide⟩
                | exact ⟨by decide, by decide⟩
                | trivial
                | omega) ?_
            intro r89 hr89
            (try simp only [ab_up_2, n1, Nat.reduceEqDiff, if_false, if_true] at c14)
            (try simp only [ab_up_2, n1, Nat.reduceEqDiff, if_false, if_true] at c34)
            (try simp only [ab_up_2, n1, Nat.reduceEqDiff, if_false, if_true] at c43)
            (try simp only [ab_up_2, n1, Nat.reduceEqDiff, if_false, if_true] at c52)
            (try simp only [ab_up_2, n1, Nat.reduceEqDiff, if_false, if_true] at c82)
            (try rw [cr_en_18, if_neg n1] at hr59)
            (try rw [cr_en_17, if_neg n1, cr_en_18, if_neg n1] at hr89)
            first
              | (exfalso; omega)
              | (refine gK _ ⟨fun o k h => ?_, ?_, ?_⟩
                 · first
                     | (rw [up_ne (fun y => h ⟨y.1, Or.inr y.2⟩), up_ne (fun y => h ⟨y.1, Or.inl y.2⟩), up_ne (fun y => h ⟨y.1, Or.inr y.2⟩)]; done)
                     | (rw [up_ne (fun y => h ⟨y.1, Or.inl y.2⟩), up_ne (fun y => h ⟨y.1, Or.inr y.2⟩)]; done)
                 · simp only [ab_up_2, n1, Nat.reduceEqDiff, if_false, if_true]
                   unfold cr_go
                   first
                     | (rw [if_pos (by omega)]; done)
                     | (rw [if_neg (by omega), if_pos (by omega)]; exact hr59)
                     | (rw [if_neg (by omega), if_neg (by omega)]; done)
                 · simp only [ab_up_2, n1, Nat.reduceEqDiff, if_false, if_true]
                   unfold cr_ot
                   first
                     | (rw [if_pos (by omega)]; exact hr89)
                     | (rw [if_neg (by omega)]; done))
        · intro c52
          refine And.intro (by
            (try simp only [ab_up_2, n1, Nat.reduceEqDiff, if_false, if_true])
            first
              | exact ⟨h1, by decide, by decide⟩
              | exact ⟨h1, h2, by decide, by decide⟩
              | exact ⟨h1, h3, by decide, by decide⟩
              | exact ⟨by decide, by decide⟩
              | trivial
              | omega) ?_
          intro r59 hr59
          refine And.intro (by
            (try simp only [ab_up_2, n1, Nat.reduceEqDiff, if_false, if_true])
            first
              | exact ⟨h1, by decide, by decide⟩
              | exact ⟨h1, h2, by decide, by decide⟩
              | exact ⟨h1, h3, by decide, by decide⟩
              | exact ⟨by decide, by decide⟩
              | trivial
              | omega) ?_
          refine And.intro (by
            (try simp only [ab_up_2, n1, Nat.reduceEqDiff, if_false, if_true])
            first
              | exact ⟨h1, by decide, by decide⟩
              | exact ⟨h1, h2, by decide, by decide⟩
              | exact ⟨h1, h3, by decide, by decide⟩
              | exact ⟨by decide, by decide⟩
              | trivial
              | omega) ?_
          refine ⟨?_, ?_⟩
          · intro c82
            (try simp only [ab_up_2, n1, Nat.reduceEqDiff, if_false, if_true] at c14)
            (try simp only [ab_up_2, n1, Nat.reduceEqDiff, if_false, if_true] at c34)
            (try simp only [ab_up_2, n1, Nat.reduceEqDiff, if_false, if_true] at c43)
            (try simp only [ab_up_2, n1, Nat.reduceEqDiff, if_false, if_true] at c52)
            (try simp only [ab_up_2, n1, Nat.reduceEqDiff, if_false, if_true] at c82)
            (try rw [cr_en_18, if_neg n1] at hr59)
            (try rw [cr_en_17, if_neg n1, cr_en_18, if_neg n1] at hr89)
            first
              | (exfalso; omega)
              | (refine gK _ ⟨fun o k h => ?_, ?_, ?_⟩
                 · first
                     | (rw [up_ne (fun y => h ⟨y.1, Or.inr y.2⟩), up_ne (fun y => h ⟨y.1, Or.inl y.2⟩), up_ne (fun y => h ⟨y.1, Or.inr y.2⟩)]; done)
                     | (rw [up_ne (fun y => h ⟨y.1, Or.inl y.2⟩), up_ne (fun y => h ⟨y.1, Or.inr y.2⟩)]; done)
                 · simp only [ab_up_2, n1, Nat.reduceEqDiff, if_false, if_true]
                   unfold cr_go
                   first
                     | (rw [if_pos (by omega)]; done)
                     | (rw [if_neg (by omega), if_pos (by omega)]; exact hr59)
                     | (rw [if_neg (by omega), if_neg (by omega)]; done)
                 · simp only [ab_up_2, n1, Nat.reduceEqDiff, if_false, if_true]
                   unfold cr_ot
                   first
                     | (rw [if_pos (by omega)]; exact hr89)
                     | (rw [if_neg (by omega)]; done))
          · intro c82
            refine And.intro (by
              (try simp only [ab_up_2, n1, Nat.reduceEqDiff, if_false, if_true])
              first
                | exact ⟨h1, by decide, by decide⟩
                | exact ⟨h1, h2, by decide, by decide⟩
                | exact ⟨h1, h3, by decide, by decide⟩
                | exact ⟨by decide, by decide⟩
                | trivial
                | omega) ?_
            intro r89 hr89
            (try simp only [ab_up_2, n1, Nat.reduceEqDiff, if_false, if_true] at c14)
            (try simp only [ab_up_2, n1, Nat.reduceEqDiff, if_false, if_true] at c34)
            (try simp only [ab_up_2, n1, Nat.reduceEqDiff, if_false, if_true] at c43)
            (try simp only [ab_up_2, n1, Nat.reduceEqDiff, if_false, if_true] at c52)
            (try simp only [ab_up_2, n1, Nat.reduceEqDiff, if_false, if_true] at c82)
            (try rw [cr_en_18, if_neg n1] at hr59)
            (try rw [cr_en_17, if_neg n1, cr_en_18, if_neg n1] at hr89)
            first
              | (exfalso; omega)
              | (refine gK _ ⟨fun o k h => ?_, ?_, ?_⟩
                 · first
                     | (rw [up_ne (fun y => h ⟨y.1, Or.inr y.2⟩), up_ne (fun y => h ⟨y.1, Or.inl y.2⟩), up_ne (fun y => h ⟨y.1, Or.inr y.2⟩)]; done)
                     | (rw [up_ne (fun y => h ⟨y.1, Or.inl y.2⟩), up_ne (fun y => h ⟨y.1, Or.inr y.2⟩)]; done)
                 · simp only [ab_up_2, n1, Nat.reduceEqDiff, if_false, if_true]
                   unfold cr_go
                   first
                     | (rw [if_pos (by omega)]; done)
                     | (rw [if_neg (by omega), if_pos (by omega)]; exact hr59)
                     | (rw [if_neg (by omega), if_neg (by omega)]; done)
                 · simp only [ab_up_2, n1, Nat.reduceEqDiff, if_false, if_true]
                   unfold cr_ot
                   first
                     | (rw [if_pos (by omega)]; exact hr89)
                     | (rw [if_neg (by omega)]; done))
  · intro c14
    refine And.intro (by
      (try simp only [ab_up_2, n1, Nat.reduceEqDiff, if_false, if_true])
      first
        | exact ⟨h1, by decide, by decide⟩
        | exact ⟨h1, h2, by decide, by decide⟩
        | exact ⟨h1, h3, by decide, by decide⟩
        | exact ⟨by decide, by decide⟩
        | trivial
        | omega) ?_
    refine And.intro (by
      (try simp only [ab_up_2, n1, Nat.reduceEqDiff, if_false, if_true])
      first
        | exact ⟨h1, by decide, by decide⟩
        | exact ⟨h1, h2, by decide, by decide⟩
        | exact ⟨h1, h3, by decide, by decide⟩
        | exact ⟨by decide, by decide⟩
        | trivial
        | omega) ?_
    refine ⟨?_, ?_⟩
    · intro c82
      (try simp only [ab_up_2, n1, Nat.reduceEqDiff, if_false, if_true] at c14)
      (try simp only [ab_up_2, n1, Nat.reduceEqDiff, if_false, if_true] at c34)
      (try simp only [ab_up_2, n1, Nat.reduceEqDiff, if_false, if_true] at c43)
      (try simp only [ab_up_2, n1, Nat.reduceEqDiff, if_false, if_true] at c52)
      (try simp only [ab_up_2, n1, Nat.reduceEqDiff, if_false, if_true] at c82)
      (try rw [cr_en_18, if_neg n1] at hr59)
      (try rw [cr_en_17, if_neg n1, cr_en_18, if_neg n1] at hr89)
      first
        | (exfalso; omega)
        | (refine gK _ ⟨fun o k h => ?_, ?_, ?_⟩
           · first
               | (rw [up_ne (fun y => h ⟨y.1, Or.inr y.2⟩), up_ne (fun y => h ⟨y.1, Or.inl y.2⟩), up_ne (fun y => h ⟨y.1, Or.inr y.2⟩)]; done)
               | (rw [up_ne (fun y => h ⟨y.1, Or.inl y.2⟩), up_ne (fun y => h ⟨y.1, Or.inr y.2⟩)]; done)
           · simp only [ab_up_2, n1, Nat.reduceEqDiff, if_false, if_true]
             unfold cr_go
             first
               | (rw [if_pos (by omega)]; done)
               | (rw [if_neg (by omega), if_pos (by omega)]; exact hr59)
               | (rw [if_neg (by omega), if_neg (by omega)]; done)
           · simp only [ab_up_2, n1, Nat.reduceEqDiff, if_false, if_true]
             unfold cr_ot
             first
               | (rw [if_pos (by omega)]; exact hr89)
               | (rw [if_neg (by omega)]; done))
    · intro c82
      refine And.intro (by
        (try simp only [ab_up_2, n1, Nat.reduceEqDiff, if_false, if_true])
        first
          | exact ⟨h1, by decide, by decide⟩
          | exact ⟨h1, h2, by decide, by decide⟩
          | exact ⟨h1, h3, by decide, by decide⟩
          | exact ⟨by decide, by decide⟩
          | trivial
          | omega) ?_
      intro r89 hr89
      (try simp only [ab_up_2, n1, Nat.reduceEqDiff, if_false, if_true] at c14)
      (try simp only [ab_up_2, n1, Nat.reduceEqDiff, if_false, if_true] at c34)
      (try simp only [ab_up_2, n1, Nat.reduceEqDiff, if_false, if_true] at c43)
      (try simp only [ab_up_2, n1, Nat.reduceEqDiff, if_false, if_true] at c52)
      (try simp only [ab_up_2, n1, Nat.reduceEqDiff, if_false, if_true] at c82)
      (try rw [cr_en_18, if_neg n1] at hr59)
      (try rw [cr_en_17, if_neg n1, cr_en_18, if_neg n1] at hr89)
      first
        | (exfalso; omega)
        | (refine gK _ ⟨fun o k h => ?_, ?_, ?_⟩
           · first
               | (rw [up_ne (fun y => h ⟨y.1, Or.inr y.2⟩), up_ne (fun y => h ⟨y.1, Or.inl y.2⟩), up_ne (fun y => h ⟨y.1, Or.inr y.2⟩)]; done)
               | (rw [up_ne (fun y => h ⟨y.1, Or.inl y.2⟩), up_ne (fun y => h ⟨y.1, Or.inr y.2⟩)]; done)
           · simp only [ab_up_2, n1, Nat.reduceEqDiff, if_false, if_true]
             unfold cr_go
             first
               | (rw [if_pos (by omega)]; done)
               | (rw [if_neg (by omega), if_pos (by omega)]; exact hr59)
               | (rw [if_neg (by omega), if_neg (by omega)]; done)
           · simp only [ab_up_2, n1, Nat.reduceEqDiff, if_false, if_true]
             unfold cr_ot
             first
               | (rw [if_pos (by omega)]; exact hr89)
               | (rw [if_neg (by omega)]; done))

set_option maxRecDepth 20000 in
set_option maxHeartbeats 1000000 in
theorem ok_X1_linkIn (E : ab_E) : ab_Ok E 4 21 S_X1_linkIn := by
  refine ab_mk rq_X1_linkIn tk_X1_linkIn (rt := 0) (rfl) (cuts := []) (G := [(17, S_X1_entry)]) (List.forall_mem_cons.mpr ⟨⟨3, by decide, ok_X1_entry E⟩, fun _ h => absurd h List.not_mem_nil⟩) (by decide) 97 rfl ?_
  intro a M K wd wa hS
  unfold S_X1_linkIn at hS
  split at hS
  ·
    rename_i p n1 s n2
    refine ⟨Nat.le_of_ble_eq_true rfl, fun _ _ _ _ _ => False, ?_, ?_⟩
    · exact vc_X1_linkIn_0 p n1 s n2 M K  hS
    · exact fun _ _ _ _ _ h => h.elim
  · exact hS.elim
def S_X1_noteModified : ab_PT := fun a M K => match a with
  | [.inr (.inr (.inr (p, 1, n1))), .inr (.inr (.inr (s, 4, n2)))] => ((0 ≤ M p 3 ∧ M p 3 ≤ 120) ∧ ab_ir (M s 1) ∧ ab_ir (M s 8) ∧ ∀ r : Nat, (r : Int) < M p 3 → ab_ir (M (p + 1 + 1 + 3 * r) 0) ∧ ab_ir (M (p + 1 + 1 + 3 * r) 8)) ∧ (∀ Mx : ab_M, (Mx = if M s 1 < 0 then M else (cr_anc M p 120 (M s 8)).foldl (cr_nmf p (M s 1)) M) → K [] Mx)
  | _ => False
set_option maxRecDepth 20000 in
theorem vc_X1_noteModified_0 (p : Nat) (n1 : Nat) (s : Nat) (n2 : Nat) (M : ab_M) (K : List ab_V → ab_M → Prop) (hS : ((0 ≤ M p 3 ∧ M p 3 ≤ 120) ∧ ab_ir (M s 1) ∧ ab_ir (M s 8) ∧ ∀ r : Nat, (r : Int) < M p 3 → ab_ir (M (p + 1 + 1 + 3 * r) 0) ∧ ab_ir (M (p + 1 + 1 + 3 * r) 8)) ∧ (∀ Mx : ab_M, (Mx = if M s 1 < 0 then M else (cr_anc M p 120 (M s 8)).foldl (cr_nmf p (M s 1)) M) → K [] Mx)) : (ab_ir (M s 1)) ∧ ((0 ≤ (M s 1) → (ab_ir (M s 8) ∧ 0 ≤ M p 3 ∧ M p 3 ≤ 120) ∧ (∀ o13 : Nat, (o13 = if 0 ≤ (M s 8) ∧ (M s 8) < M p 3 then p + 1 + 1 + 3 * (M s 8).toNat else p + 362) → (∃ n', (p = p ∧ n1 = n1 ∧ s = s ∧ n2 = n2 ∧ (n' = (120 - (0 : Int)).toNat ∧ 0 ≤ M s 1 ∧ cr_nmI M M p s (0 : Int) o13))))) ∧ ((M s 1) < 0 → K [] M)) := by
  obtain ⟨⟨⟨h1, h2⟩, h3, h4, h5⟩, gK⟩ := hS
  refine And.intro (by
    first
      | exact h3
      | exact (hir (by assumption)).1
      | (rw [hr34]; split <;> exact ⟨by decide, by decide⟩)
      | trivial
      | exact ⟨by decide, by decide⟩
      | exact ⟨h4, h1, h2⟩
      | (simp only [ab_up_2, if_true, if_false, Nat.reduceEqDiff, ite_self, fw8, fp]; exact ⟨(hir (by assumption)).2, h1, h2⟩)
      | exact ⟨⟨by omega, by omega⟩, by decide, by decide⟩
      | omega) ?_
  refine ⟨?_, ?_⟩
  · intro c4
    refine And.intro (by
      first
        | exact h3
        | exact (hir (by assumption)).1
        | (rw [hr34]; split <;> exact ⟨by decide, by decide⟩)
        | trivial
        | exact ⟨by decide, by decide⟩
        | exact ⟨h4, h1, h2⟩
        | (simp only [ab_up_2, if_true, if_false, Nat.reduceEqDiff, ite_self, fw8, fp]; exact ⟨(hir (by assumption)).2, h1, h2⟩)
        | exact ⟨⟨by omega, by omega⟩, by decide, by decide⟩
        | omega) ?_
    intro o13 hr13
    refine ⟨_, rfl, rfl, rfl, rfl, rfl, by omega, [], M s 8, rfl, rfl, ?_, h4, by omega, by omega⟩
    exact hr13
  · intro c4
    exact gK _ (by rw [if_pos (by omega)])

set_option maxRecDepth 20000 in
theorem vc_X1_noteModified_19 (p : Nat) (n1 : Nat) (s : Nat) (n2 : Nat) (M : ab_M) (K : List ab_V → ab_M → Prop) (hS : ((0 ≤ M p 3 ∧ M p 3 ≤ 120) ∧ ab_ir (M s 1) ∧ ab_ir (M s 8) ∧ ∀ r : Nat, (r : Int) < M p 3 → ab_ir (M (p + 1 + 1 + 3 * r) 0) ∧ ab_ir (M (p + 1 + 1 + 3 * r) 8)) ∧ (∀ Mx : ab_M, (Mx = if M s 1 < 0 then M else (cr_anc M p 120 (M s 8)).foldl (cr_nmf p (M s 1)) M) → K [] Mx)) (n : Nat) (w : Nat) (k : Int) (M1 : ab_M) (hI : n = (120 - k).toNat ∧ 0 ≤ M s 1 ∧ cr_nmI M M1 p s k w) : (-128 ≤ (120 : Int) ∧ (120 : Int) < 128) ∧ (ab_ir k ∧ ab_ir (120 : Int)) ∧ (((120 : Int) ≤ k → K [] M1) ∧ (k < (120 : Int) → ((w = p + 362 → K [] M1) ∧ (¬ w = p + 362 → (ab_ir (M1 w 0)) ∧ (∀ r34 : Int, (r34 = if M1 w 0 = 119 then 1 else 0) → (ab_ir r34) ∧ ((r34 = 0 → (ab_ir (M1 w 8) ∧ 0 ≤ M1 p 3 ∧ M1 p 3 ≤ 120) ∧ (∀ o78 : Nat, (o78 = if 0 ≤ (M1 w 8) ∧ (M1 w 8) < M1 p 3 then p + 1 + 1 + 3 * (M1 w 8).toNat else p + 362) → (∃ n', n' < n ∧ (p = p ∧ n1 = n1 ∧ s = s ∧ n2 = n2 ∧ (n' = (120 - (k + 1)).toNat ∧ 0 ≤ M s 1 ∧ cr_nmI M M1 p s (k + 1) o78))))) ∧ (¬ r34 = 0 → (True) ∧ (∀ r66 : Int, (r66 = ab_or (ab_and (0 : Int) (ab_xor (ab_shl (4 - 1) (6 - 2 * ((ab_up M1 w 6 (ab_or (M1 w 6) (ab_shl (1 : Int) (M1 s 1)))) s 1))) (-1))) (ab_shl (3 : Int) (6 - 2 * ((ab_up M1 w 6 (ab_or (M1 w 6) (ab_shl (1 : Int) (M1 s 1)))) s 1)))) → (ab_ir ((ab_up (ab_up M1 w 6 (ab_or (M1 w 6) (ab_shl (1 : Int) (M1 s 1)))) w 7 (ab_or ((ab_up M1 w 6 (ab_or (M1 w 6) (ab_shl (1 : Int) (M1 s 1)))) w 7) r66)) w 8) ∧ 0 ≤ (ab_up (ab_up M1 w 6 (ab_or (M1 w 6) (ab_shl (1 : Int) (M1 s 1)))) w 7 (ab_or ((ab_up M1 w 6 (ab_or (M1 w 6) (ab_shl (1 : Int) (M1 s 1)))) w 7) r66)) p 3 ∧ (ab_up (ab_up M1 w 6 (ab_or (M1 w 6) (ab_shl (1 : Int) (M1 s 1)))) w 7 (ab_or ((ab_up M1 w 6 (ab_or (M1 w 6) (ab_shl (1 : Int) (M1 s 1)))) w 7) r66)) p 3 ≤ 120) ∧ (∀ o78 : Nat, (o78 = if 0 ≤ ((ab_up (ab_up M1 w 6 (ab_or (M1 w 6) (ab_shl (1 : Int) (M1 s 1)))) w 7 (ab_or ((ab_up M1 w 6 (ab_or (M1 w 6) (ab_shl (1 : Int) (M1 s 1)))) w 7) r66)) w 8) ∧ ((ab_up (ab_up M1 w 6 (ab_or (M1 w 6) (ab_shl (1 : Int) (M1 s 1)))) w 7 (ab_or ((ab_up M1 w 6 (ab_or (M1 w 6) (ab_shl (1 : Int) (M1 s 1)))) w 7) r66)) w 8) < (ab_up (ab_up M1 w 6 (ab_or (M1 w 6) (ab_shl (1 : Int) (M1 s 1)))) w 7 (ab_or ((ab_up M1 w 6 (ab_or (M1 w 6) (ab_shl (1 : Int) (M1 s 1)))) w 7) r66)) p 3 then p + 1 + 1 + 3 * ((ab_up (ab_up M1 w 6 (ab_or (M1 w 6) (ab_shl (1 : Int) (M1 s 1)))) w 7 (ab_or ((ab_up M1 w 6 (ab_or (M1 w 6) (ab_shl (1 : Int) (M1 s 1)))) w 7) r66)) w 8).toNat else p + 362) → (∃ n', n' < n ∧ (p = p ∧ n1 = n1 ∧ s = s ∧ n2 = n2 ∧ (n' = (120 - (k + 1)).toNat ∧ 0 ≤ M s 1 ∧ cr_nmI M (ab_up (ab_up M1 w 6 (ab_or (M1 w 6) (ab_shl (1 : Int) (M1 s 1)))) w 7 (ab_or ((ab_up M1 w 6 (ab_or (M1 w 6) (ab_shl (1 : Int) (M1 s 1)))) w 7) r66)) p s (k + 1) o78)))))))))))) := by
  obtain ⟨hn, hv, l, x, hch, hM1, hw, hx, hi0, hi1⟩ := hI
  obtain ⟨⟨⟨h1, h2⟩, h3, h4, h5⟩, gK⟩ := hS
  have f : ∀ o k, k ≠ 6 → k ≠ 7 → M1 o k = M o k := fun o k a b => by rw [hM1]; exact cr_nm_fr p _ l M o k a b
  have fp : M1 p 3 = M p 3 := f _ _ (by decide) (by decide)
  have fs1 : M1 s 1 = M s 1 := f _ _ (by decide) (by decide)
  have fw8 : M1 w 8 = M w 8 := f _ _ (by decide) (by decide)
  have fw0 : M1 w 0 = M w 0 := f _ _ (by decide) (by decide)
  have hgo : ¬ w = p + 362 → 0 ≤ x ∧ x < M p 3 ∧ w = p + 1 + 1 + 3 * x.toNat := fun q => by
    by_cases z : 0 ≤ x ∧ x < M p 3
    · rw [if_pos z] at hw
      exact ⟨z.1, z.2, hw⟩
    · rw [if_neg z] at hw
      exact absurd hw q
  have hir : ¬ w = p + 362 → ab_ir (M w 0) ∧ ab_ir (M w 8) := fun q => by
    obtain ⟨z1, z2, z3⟩ := hgo q
    rw [z3]
    exact h5 x.toNat (by omega)
  simp only [fp, fs1, fw8, fw0]
  refine And.intro (by
    first
      | exact h3
      | exact (hir (by assumption)).1
      | (rw [hr34]; split <;> exact ⟨by decide, by decide⟩)
      | trivial
      | exact ⟨by decide, by decide⟩
      | exact ⟨h4, h1, h2⟩
      | (simp only [ab_up_2, if_true, if_false, Nat.reduceEqDiff, ite_self, fw8, fp]; exact ⟨(hir (by assumption)).2, h1, h2⟩)
      | exact ⟨⟨by omega, by omega⟩, by decide, by decide⟩
      | omega) ?_
  refine And.intro (by
    first
      | exact h3
      | exact (hir (by assumption)).1
      | (rw [hr34]; split <;> exact ⟨by decide, by decide⟩)
      | trivial
      | exact ⟨by decide, by decide⟩
      | exact ⟨h4, h1, h2⟩
      | (simp only [ab_up_2, if_true, if_false, Nat.reduceEqDiff, ite_self, fw8, fp]; exact ⟨(hir (by assumption)).2, h1, h2⟩)
      | exact ⟨⟨by omega, by omega⟩, by decide, by decide⟩
      | omega) ?_
  refine ⟨?_, ?_⟩
  · intro c22
    refine gK _ ?_
    rw [if_neg (by omega), hM1, hch]
    rw [show (120 - k).toNat = 0 by omega]
    exact congrArg (fun z => List.foldl _ M z) (List.append_nil l).symm
  · intro c22
    refine ⟨?_, ?_⟩
    · intro c30
      refine gK _ ?_
      rw [if_neg (by omega), hM1, hch]
      rw [cr_anc_e M p _ x (fun z => by rw [if_pos z] at hw; omega), List.append_nil]
    · intro c30
      refine And.intro (by
        first
          | exact h3
          | exact (hir (by assumption)).1
          | (rw [hr34]; split <;> exact ⟨by decide, by decide⟩)
          | trivial
          | exact ⟨by decide, by decide⟩
          | exact ⟨h4, h1, h2⟩
          | (simp only [ab_up_2, if_true, if_false, Nat.reduceEqDiff, ite_self, fw8, fp]; exact ⟨(hir (by assumption)).2, h1, h2⟩)
          | exact ⟨⟨by omega, by omega⟩, by decide, by decide⟩
          | omega) ?_
      intro r34 hr34
      refine And.intro (by
        first
          | exact h3
          | exact (hir (by assumption)).1
          | (rw [hr34]; split <;> exact ⟨by decide, by decide⟩)
          | trivial
          | exact ⟨by decide, by decide⟩
          | exact ⟨h4, h1, h2⟩
          | (simp only [ab_up_2, if_true, if_false, Nat.reduceEqDiff, ite_self, fw8, fp]; exact ⟨(hir (by assumption)).2, h1, h2⟩)
          | exact ⟨⟨by omega, by omega⟩, by decide, by decide⟩
          | omega) ?_
      refine ⟨?_, ?_⟩
      · intro c37
        rw [hr34] at c37
        rw [ab_bf] at c37
        clear hr34 r34
        refine And.intro (by
          first
            | exact h3
            | exact (hir (by assumption)).1
            | (rw [hr34]; split <;> exact ⟨by decide, by decide⟩)
            | trivial
            | exact ⟨by decide, by decide⟩
            | exact ⟨h4, h1, h2⟩
            | (simp only [ab_up_2, if_true, if_false, Nat.reduceEqDiff, ite_self, fw8, fp]; exact ⟨(hir (by assumption)).2, h1, h2⟩)
            | exact ⟨⟨by omega, by omega⟩, by decide, by decide⟩
            | omega) ?_
        intro o78 hr78
        obtain ⟨z1, z2, z3⟩ := hgo c30
        have hir2 := (hir c30).2
        (try simp only [ab_up_2, if_true, if_false, Nat.reduceEqDiff, ite_self, fw8, fp] at hr78)
        refine ⟨_, ?_, by trivial, by trivial, by trivial, by trivial, rfl, hv, l ++ [x.toNat], M w 8, ?_, ?_, hr78, hir2, by omega, by omega⟩
        · omega
        · rw [hch, show (120 - k).toNat = (120 - (k + 1)).toNat + 1 by omega, cr_anc_s M p _ x ⟨z1, z2⟩, ← z3, List.append_assoc]
          rfl
        · rw [List.foldl_append, ← hM1]
          show _ = cr_nmf p (M s 1) M1 x.toNat
          unfold cr_nmf
          rw [← z3, fw0]
          rw [if_neg c37]
      · intro c37
        rw [hr34] at c37
        rw [ab_bt] at c37
        clear hr34 r34
        refine And.intro trivial ?_
        intro r66 hr66
        refine And.intro (by
          first
            | exact h3
            | exact (hir (by assumption)).1
            | (rw [hr34]; split <;> exact ⟨by decide, by decide⟩)
            | trivial
            | exact ⟨by decide, by decide⟩
            | exact ⟨h4, h1, h2⟩
            | (simp only [ab_up_2, if_true, if_false, Nat.reduceEqDiff, ite_self, fw8, fp]; exact ⟨(hir (by assumption)).2, h1, h2⟩)
            | exact ⟨⟨by omega, by omega⟩, by decide, by decide⟩
            | omega) ?_
        intro o78 hr78
        obtain ⟨z1, z2, z3⟩ := hgo c30
        have hir2 := (hir c30).2
        (try simp only [ab_up_2, if_true, if_false, Nat.reduceEqDiff, ite_self, fw8, fp] at hr78)
        refine ⟨_, ?_, by trivial, by trivial, by trivial, by trivial, rfl, hv, l ++ [x.toNat], M w 8, ?_, ?_, hr78, hir2, by omega, by omega⟩
        · omega
        · rw [hch, show (120 - k).toNat = (120 - (k + 1)).toNat + 1 by omega, cr_anc_s M p _ x ⟨z1, z2⟩, ← z3, List.append_assoc]
          rfl
        · rw [List.foldl_append, ← hM1]
          show _ = cr_nmf p (M s 1) M1 x.toNat
          unfold cr_nmf
          rw [← z3, fw0]
          rw [if_pos c37]
          simp only [ab_up_2, if_true, if_false, Nat.reduceEqDiff, ite_self, fs1] at hr66
          rw [hr66, ab_up_k (by decide)]
          rfl

set_option maxRecDepth 20000 in
set_option maxHeartbeats 1000000 in
theorem ok_X1_noteModified (E : ab_E) : ab_Ok E 2 25 S_X1_noteModified := by
  refine ab_mk rq_X1_noteModified tk_X1_noteModified (rt := 0) (rfl) (cuts := [19]) (G := [(16, S_X1_at), (56, S_X4_isLoop), (110, S_X8_stateWith)]) (List.forall_mem_cons.mpr ⟨⟨1, by decide, ok_X1_at E⟩, List.forall_mem_cons.mpr ⟨⟨1, by decide, ok_X4_isLoop E⟩, List.forall_mem_cons.mpr ⟨⟨1, by decide, ok_X8_stateWith E⟩, fun _ h => absurd h List.not_mem_nil⟩⟩⟩) (by decide) 98 rfl ?_
  intro a M K wd wa hS
  unfold S_X1_noteModified at hS
  split at hS
  ·
    rename_i p n1 s n2
    refine ⟨Nat.le_of_ble_eq_true rfl, fun pc n L st M1 => match pc, L, st with
      | 19, [.inr (.inr (.inr (p_, 1, n1_))), .inr (.inr (.inr (s_, 4, n2_))), .inr (.inr (.inr (w, 4, 0))), .inr (.inl k)], [] => p_ = p ∧ n1_ = n1 ∧ s_ = s ∧ n2_ = n2 ∧ (n = (120 - k).toNat ∧ 0 ≤ M s 1 ∧ cr_nmI M M1 p s k w)
      | _, _, _ => False, ?_, ?_⟩
    · exact vc_X1_noteModified_0 p n1 s n2 M K  hS
    · intro pc n L st M1 hI wd1 wL wst
      (try dsimp only at hI)
      split at hI
      ·
        rename_i p_ n1_ s_ n2_ w k
        obtain ⟨e0_, e1_, e2_, e3_, hI⟩ := hI
        have e0_ := e0_.symm
        subst e0_
        have e1_ := e1_.symm
        subst e1_
        have e2_ := e2_.symm
        subst e2_
        have e3_ := e3_.symm
        subst e3_
        exact vc_X1_noteModified_19 p n1 s n2 M K  hS n w k _ hI
      · exact hI.elim
  · exact hS.elim
