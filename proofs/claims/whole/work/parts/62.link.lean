/-! the class: all links -/
theorem cr_anc_c {M M' : ab_M} {p : Nat} (h3 : M' p 3 = M p 3) (h : ∀ r : Nat, (r : Int) < M p 3 → M' (p + 1 + 1 + 3 * r) 8 = M (p + 1 + 1 + 3 * r) 8) : ∀ (n : Nat) (x : Int), cr_anc M' p n x = cr_anc M p n x := by
  intro n
  induction n with
  | zero => intro x; rfl
  | succ n ih =>
    intro x
    show (if 0 ≤ x ∧ x < M' p 3 then _ else _) = (if 0 ≤ x ∧ x < M p 3 then _ else _)
    rw [h3]
    by_cases q : 0 ≤ x ∧ x < M p 3
    · rw [if_pos q, if_pos q, ih, h _ (by omega)]
    · rw [if_neg q, if_neg q]
/-- what is modified in a loop's block by the first so many rows -/
def cr_mdf (M : ab_M) (p q k v : Nat) : Bool := (List.range k).any (fun r => decide (M (p + 1 + 1 + 3 * r) 1 = (v : Int)) && (cr_anc M p 120 (M (p + 1 + 1 + 3 * r) 8)).contains q)
theorem cr_mdf_s (M : ab_M) (p q k v : Nat) : cr_mdf M p q (k + 1) v = (cr_mdf M p q k v || (decide (M (p + 1 + 1 + 3 * k) 1 = (v : Int)) && (cr_anc M p 120 (M (p + 1 + 1 + 3 * k) 8)).contains q)) := by
  unfold cr_mdf
  rw [List.range_succ, List.any_append]
  simp
def cr_LP (p : Nat) (M : ab_M) : Prop := (0 ≤ M p 3 ∧ M p 3 ≤ 120) ∧ ∀ r : Nat, (r : Int) < M p 3 → cr_wr ((ab_ir (M (p + 1 + 1 + 3 * r) 0) ∧ (-1 ≤ M (p + 1 + 1 + 3 * r) 1 ∧ M (p + 1 + 1 + 3 * r) 1 ≤ 3) ∧ (-1 ≤ M (p + 1 + 1 + 3 * r) 8 ∧ M (p + 1 + 1 + 3 * r) 8 < (r : Int)) ∧ ab_ir (M (p + 1 + 1 + 3 * r) 9) ∧ ab_ir (M (p + 1 + 1 + 3 * r) 10)) ∧ (ab_ir (M (p + 1 + 1 + 3 * r + 1) 0) ∧ ab_ir (M (p + 1 + 1 + 3 * r + 1) 1)) ∧ M (p + 1 + 1 + 3 * r) 6 = 0 ∧ M (p + 1 + 1 + 3 * r) 7 = 0)
def cr_eqs (p s : Nat) (M : ab_M) : Prop := M s 15 = cr_aft M p s ∧ M s 16 = cr_cau M p s ∧ M s 17 = cr_go M s ∧ M s 18 = cr_ot M s
def cr_LV (p : Nat) (M M1 : ab_M) (k : Nat) : Prop := (∀ o' k' : Nat, (∀ r : Nat, (r : Int) < M p 3 → o' ≠ p + 1 + 1 + 3 * r) → M1 o' k' = M o' k') ∧ (∀ r j : Nat, (r : Int) < M p 3 → j ≠ 6 → j ≠ 7 → j ≠ 15 → j ≠ 16 → j ≠ 17 → j ≠ 18 → M1 (p + 1 + 1 + 3 * r) j = M (p + 1 + 1 + 3 * r) j) ∧
  (∀ r : Nat, r < k → cr_eqs p (p + 1 + 1 + 3 * r) M1) ∧
  (∀ q : Nat, (q : Int) < M p 3 → M1 (p + 1 + 1 + 3 * q) 6 = (if M (p + 1 + 1 + 3 * q) 0 = 119 then pz_mk (cr_mdf M p q k) else 0) ∧ M1 (p + 1 + 1 + 3 * q) 7 = (if M (p + 1 + 1 + 3 * q) 0 = 119 then pz_mb (cr_mdf M p q k) else 0))
theorem cr_LV.step {p s : Nat} {M M1 M18 M23 M28 : ab_M} {k : Nat} (hP : cr_LP p M) (h : cr_LV p M M1 k) (hk : (k : Int) < M p 3) (hs : s = p + 1 + 1 + 3 * k) (h18 : M18 = ab_up (ab_up M1 s 15 (cr_aft M1 p s)) s 16 (cr_cau M1 p s)) (h23 : cr_LI M18 M23 s) (h28 : M28 = if M23 s 1 < 0 then M23 else (cr_anc M23 p 120 (M23 s 8)).foldl (cr_nmf p (M23 s 1)) M23) : cr_LV p M M28 (k + 1) := by
  obtain ⟨hA, hB, hC, hD⟩ := h
  obtain ⟨i1, i2, i3⟩ := h23
  have hPk : cr_wr _ := hP.2 k hk
  -- M18 and M23 against M1
  have g18 : ∀ o j : Nat, ¬ (o = s ∧ (j = 15 ∨ j = 16)) → M18 o j = M1 o j := fun o j g => by
    rw [h18, up_ne (fun y => g ⟨y.1, Or.inr y.2⟩), up_ne (fun y => g ⟨y.1, Or.inl y.2⟩)]
  have g28 : ∀ o j : Nat, j ≠ 6 → j ≠ 7 → M28 o j = M23 o j := fun o j a b => by
    rw [h28]
    split
    · rfl
    · exact cr_nm_fr p _ _ _ o j a b
  have agree : ∀ o j : Nat, j ≠ 6 → j ≠ 7 → ¬ (o = s ∧ (j = 15 ∨ j = 16 ∨ j = 17 ∨ j = 18)) → M28 o j = M1 o j := fun o j a b g => by
    rw [g28 o j a b, i1 o j (fun y => g ⟨y.1, by rcases y.2 with z | z; exact Or.inr (Or.inr (Or.inl z)); exact Or.inr (Or.inr (Or.inr z))⟩), g18 o j (fun y => g ⟨y.1, by rcases y.2 with z | z; exact Or.inl z; exact Or.inr (Or.inl z)⟩)]
  have par : ∀ r : Nat, (r : Int) < M p 3 → M1 (p + 1 + 1 + 3 * r) 8 = M (p + 1 + 1 + 3 * r) 8 := fun r hr => hB r 8 hr (by decide) (by decide) (by decide) (by decide) (by decide) (by decide)
  have aft : ∀ r : Nat, (r : Int) < M p 3 → r ≤ k → cr_aft M28 p (p + 1 + 1 + 3 * r) = cr_aft M1 p (p + 1 + 1 + 3 * r) ∧ cr_cau M28 p (p + 1 + 1 + 3 * r) = cr_cau M1 p (p + 1 + 1 + 3 * r) := fun r hr hrk => by
    have hp := (hP.2 r hr).1.2.2.1
    rw [← par r hr] at hp
    have e8 : M28 (p + 1 + 1 + 3 * r) 8 = M1 (p + 1 + 1 + 3 * r) 8 := agree _ 8 (by decide) (by decide) (by omega)
    have e9 : M28 (p + 1 + 1 + 3 * r) 9 = M1 (p + 1 + 1 + 3 * r) 9 := agree _ 9 (by decide) (by decide) (by omega)
    have e10 : M28 (p + 1 + 1 + 3 * r) 10 = M1 (p + 1 + 1 + 3 * r) 10 := agree _ 10 (by decide) (by decide) (by omega)
    have hw : 0 ≤ M1 (p + 1 + 1 + 3 * r) 8 → cr_ow M1 p (p + 1 + 1 + 3 * r) ≠ s := fun q => by
      show p + 1 + 1 + 3 * (M1 (p + 1 + 1 + 3 * r) 8).toNat ≠ s
      omega
    have hw1 : 0 ≤ M1 (p + 1 + 1 + 3 * r) 8 → cr_ow M1 p (p + 1 + 1 + 3 * r) + 1 ≠ s := fun q => by
      show p + 1 + 1 + 3 * (M1 (p + 1 + 1 + 3 * r) 8).toNat + 1 ≠ s
      omega
    have eow : cr_ow M28 p (p + 1 + 1 + 3 * r) = cr_ow M1 p (p + 1 + 1 + 3 * r) := by
      show p + 1 + 1 + 3 * (M28 (p + 1 + 1 + 3 * r) 8).toNat = _
      rw [e8]
    have rb : 0 ≤ M1 (p + 1 + 1 + 3 * r) 8 → cr_rb M28 (cr_ow M1 p (p + 1 + 1 + 3 * r)) = cr_rb M1 (cr_ow M1 p (p + 1 + 1 + 3 * r)) := fun q => by
      unfold cr_rb
      rw [agree _ 0 (by decide) (by decide) (fun y => hw q y.1), agree _ 5 (by decide) (by decide) (fun y => hw q y.1), agree _ 15 (by decide) (by decide) (fun y => hw q y.1)]
    have en : 0 ≤ M1 (p + 1 + 1 + 3 * r) 8 → cr_en M28 (cr_ow M1 p (p + 1 + 1 + 3 * r)) 1 = cr_en M1 (cr_ow M1 p (p + 1 + 1 + 3 * r)) 1 := fun q => by
      unfold cr_en
      rw [rb q, agree _ 1 (by decide) (by decide) (fun y => hw1 q y.1)]
    unfold cr_aft cr_cau
    rw [eow, e8, e9, e10]
    by_cases q : 0 ≤ M1 (p + 1 + 1 + 3 * r) 8
    · rw [if_pos q, if_pos q, rb q, en q, agree _ 0 (by decide) (by decide) (fun y => hw q y.1), agree _ 16 (by decide) (by decide) (fun y => hw q y.1)]
      exact ⟨rfl, rfl⟩
    · rw [if_neg q, if_neg q, if_neg q, if_neg q]
      exact ⟨rfl, rfl⟩
  refine ⟨fun o' k' g => ?_, fun r j hr a b c d e f => ?_, fun r hr => ?_, fun q hq => ?_⟩
  · have gs : o' ≠ s := by rw [hs]; exact g k hk
    have e23 : M23 o' k' = M1 o' k' := by rw [i1 o' k' (fun y => gs y.1), g18 o' k' (fun y => gs y.1)]
    rw [h28]
    split
    · rw [e23]; exact hA o' k' g
    · rw [cr_nm_fo p _ _ _ o' k' (fun q hq => ?_), e23]
      · exact hA o' k' g
      · have e3 : M23 p 3 = M p 3 := by
          rw [i1 _ _ (by omega), g18 _ _ (by omega)]
          exact hA _ _ fun r _ => by omega
        have mem : ∀ (n : Nat) (x : Int), q ∈ cr_anc M23 p n x → (q : Int) < M p 3 := by
          intro n
          induction n with
          | zero => intro x hx; cases hx
          | succ n ih =>
            intro x hx
            have hx : q ∈ (if 0 ≤ x ∧ x < M23 p 3 then x.toNat :: cr_anc M23 p n (M23 (p + 1 + 1 + 3 * x.toNat) 8) else []) := hx
            split at hx
            · rename_i hz
              rcases List.mem_cons.mp hx with hx | hx
              · omega
              · exact ih _ hx
            · cases hx
        exact g q (mem _ _ hq)
  · rw [agree _ j a b (by omega)]
    exact hB r j hr a b c d e f
  · by_cases hrk : r = k
    · subst hrk
      obtain ⟨q1, q2⟩ := aft r hk (Nat.le_refl _)
      rw [← hs] at q1 q2 ⊢
      have a18 : ∀ o j : Nat, j ≠ 6 → j ≠ 7 → ¬ (o = s ∧ (j = 17 ∨ j = 18)) → M28 o j = M18 o j := fun o j a b g => by rw [g28 o j a b, i1 o j g]
      have k15 : M18 s 15 = cr_aft M1 p s := by rw [h18, up_ne (by omega), ab_up_s]
      have k16 : M18 s 16 = cr_cau M1 p s := by rw [h18, ab_up_s]
      have rb : cr_rb M28 s = cr_rb M18 s := by
        unfold cr_rb
        rw [a18 _ 0 (by decide) (by decide) (by omega), a18 _ 5 (by decide) (by decide) (by omega), a18 _ 15 (by decide) (by decide) (by omega)]
      have en : ∀ j, j < 2 → cr_en M28 s j = cr_en M18 s j := fun j hj => by
        unfold cr_en
        rw [rb, a18 _ j (by omega) (by omega) (by omega)]
      refine ⟨by rw [q1, a18 _ 15 (by decide) (by decide) (by omega), k15], by rw [q2, a18 _ 16 (by decide) (by decide) (by omega), k16], ?_, ?_⟩
      · rw [g28 _ 17 (by decide) (by decide), i2]
        unfold cr_go
        rw [a18 _ 0 (by decide) (by decide) (by omega), a18 _ 16 (by decide) (by decide) (by omega), a18 _ 15 (by decide) (by decide) (by omega), en 0 (by decide)]
      · rw [g28 _ 18 (by decide) (by decide), i3]
        unfold cr_ot
        rw [a18 _ 0 (by decide) (by decide) (by omega), a18 _ 15 (by decide) (by decide) (by omega), en 1 (by decide)]
    · have hr2 : r < k := by omega
      obtain ⟨c1, c2, c3, c4⟩ := hC r hr2
      obtain ⟨q1, q2⟩ := aft r (by omega) (by omega)
      have n1 : ¬ p + 1 + 1 + 3 * r = s := by omega
      have n2 : ¬ p + 1 + 1 + 3 * r + 1 = s := by omega
      have rb : cr_rb M28 (p + 1 + 1 + 3 * r) = cr_rb M1 (p + 1 + 1 + 3 * r) := by
        unfold cr_rb
        rw [agree _ 0 (by decide) (by decide) (fun y => n1 y.1), agree _ 5 (by decide) (by decide) (fun y => n1 y.1), agree _ 15 (by decide) (by decide) (fun y => n1 y.1)]
      have en : ∀ j, j < 2 → cr_en M28 (p + 1 + 1 + 3 * r) j = cr_en M1 (p + 1 + 1 + 3 * r) j := fun j hj => by
        unfold cr_en
        rw [rb, agree _ j (by omega) (by omega) (fun y => n2 y.1)]
      refine ⟨by rw [q1, agree _ 15 (by decide) (by decide) (fun y => n1 y.1), c1], by rw [q2, agree _ 16 (by decide) (by decide) (fun y => n1 y.1), c2], ?_, ?_⟩
      · rw [agree _ 17 (by decide) (by decide) (fun y => n1 y.1), c3]
        unfold cr_go
        rw [agree _ 0 (by decide) (by decide) (fun y => n1 y.1), agree _ 16 (by decide) (by decide) (fun y => n1 y.1), agree _ 15 (by decide) (by decide) (fun y => n1 y.1), en 0 (by decide)]
      · rw [agree _ 18 (by decide) (by decide) (fun y => n1 y.1), c4]
        unfold cr_ot
        rw [agree _ 0 (by decide) (by decide) (fun y => n1 y.1), agree _ 15 (by decide) (by decide) (fun y => n1 y.1), en 1 (by decide)]
  · have e3 : M23 p 3 = M p 3 := by
      rw [i1 _ _ (by omega), g18 _ _ (by omega)]
      exact hA _ _ fun r _ => by omega
    have r23 : ∀ (r j : Nat), (r : Int) < M p 3 → j ≠ 6 → j ≠ 7 → j ≠ 15 → j ≠ 16 → j ≠ 17 → j ≠ 18 → M23 (p + 1 + 1 + 3 * r) j = M (p + 1 + 1 + 3 * r) j := fun r j hr a b c d e f => by
      rw [i1 _ _ (by omega), g18 _ _ (by omega)]
      exact hB r j hr a b c d e f
    have hanc : cr_anc M23 p 120 (M23 s 8) = cr_anc M p 120 (M s 8) := by
      rw [hs, r23 k 8 hk (by decide) (by decide) (by decide) (by decide) (by decide) (by decide)]
      exact cr_anc_c e3 (fun r hr => r23 r 8 hr (by decide) (by decide) (by decide) (by decide) (by decide) (by decide)) _ _
    have e1 : M23 s 1 = M s 1 := by rw [hs]; exact r23 k 1 hk (by decide) (by decide) (by decide) (by decide) (by decide) (by decide)
    have q6 : M23 (p + 1 + 1 + 3 * q) 6 = M1 (p + 1 + 1 + 3 * q) 6 := by rw [i1 _ _ (by omega), g18 _ _ (by omega)]
    have q7 : M23 (p + 1 + 1 + 3 * q) 7 = M1 (p + 1 + 1 + 3 * q) 7 := by rw [i1 _ _ (by omega), g18 _ _ (by omega)]
    have q0 : M23 (p + 1 + 1 + 3 * q) 0 = M (p + 1 + 1 + 3 * q) 0 := r23 q 0 hq (by decide) (by decide) (by decide) (by decide) (by decide) (by decide)
    obtain ⟨d6, d7⟩ := hD q hq
    have hv := hPk.1.2.1
    rw [← hs] at hv
    have es : ∀ v, cr_mdf M p q (k + 1) v = (cr_mdf M p q k v || (decide (M s 1 = (v : Int)) && (cr_anc M p 120 (M s 8)).contains q)) := fun v => by rw [cr_mdf_s, hs]
    rw [h28]
    by_cases hneg : M23 s 1 < 0
    · rw [if_pos hneg, q6, q7, d6, d7]
      have e : cr_mdf M p q (k + 1) = cr_mdf M p q k := by
        funext v
        rw [es, decide_eq_false (by omega), Bool.false_and, Bool.or_false]
      rw [e]
      exact ⟨rfl, rfl⟩
    · rw [if_neg hneg, hanc]
      obtain ⟨f6, f7⟩ := cr_nm_at p (M23 s 1) (cr_anc M p 120 (M s 8)) M23 q
      rw [f6, f7, q6, q7, q0, d6, d7, e1]
      have hvn : ((M s 1).toNat : Int) = M s 1 := by omega
      have hor := pz_mk_or (cr_mdf M p q k) (M s 1).toNat (by omega)
      rw [hvn] at hor
      by_cases h0 : M (p + 1 + 1 + 3 * q) 0 = 119
      · rw [if_pos h0, if_pos h0, if_pos h0, if_pos h0]
        by_cases hm : q ∈ cr_anc M p 120 (M s 8)
        · rw [if_pos ⟨hm, h0⟩, if_pos ⟨hm, h0⟩, hor.1, hor.2]
          have e : (fun w => cr_mdf M p q k w || decide (w = (M s 1).toNat)) = cr_mdf M p q (k + 1) := by
            funext v
            rw [es, List.contains_iff_mem.mpr hm, Bool.and_true]
            congr 1
            apply decide_eq_decide.mpr
            omega
          rw [e]
          exact ⟨rfl, rfl⟩
        · rw [if_neg (fun y => hm y.1), if_neg (fun y => hm y.1)]
          have e : cr_mdf M p q (k + 1) = cr_mdf M p q k := by
            funext v
            rw [es, Bool.eq_false_iff.mpr (fun z => hm (List.contains_iff_mem.mp z)), Bool.and_false, Bool.or_false]
          rw [e]
          exact ⟨rfl, rfl⟩
      · rw [if_neg h0, if_neg h0, if_neg h0, if_neg h0, if_neg (fun y => h0 y.2), if_neg (fun y => h0 y.2)]
        exact ⟨rfl, rfl⟩
def cr_iIL (M : ab_M) (p s : Nat) : Bool := (cr_anc M p 120 (M s 8)).any (fun q => decide (M (p + 1 + 1 + 3 * q) 0 = 119))

def S_X1_link : ab_PT := fun a M K => match a with
  | [.inr (.inr (.inr (p, 1, n1)))] => (cr_LP p M) ∧ (∀ Mx : ab_M, (cr_LV p M Mx (M p 3).toNat) → K [] Mx)
  | _ => False
set_option maxRecDepth 20000 in
theorem vc_X1_link_0 (p : Nat) (n1 : Nat) (M : ab_M) (K : List ab_V → ab_M → Prop) (hS : (cr_LP p M) ∧ (∀ Mx : ab_M, (cr_LV p M Mx (M p 3).toNat) → K [] Mx)) : (∃ n', (p = p ∧ n1 = n1 ∧ (n' = (M p 3 - (0 : Int)).toNat ∧ 0 ≤ (0 : Int) ∧ (0 : Int) ≤ M p 3 ∧ cr_LV p M M (0 : Int).toNat))) := by
  obtain ⟨hP, gK⟩ := hS
  obtain ⟨g1, g2⟩ := hP.1
  refine ⟨_, rfl, rfl, rfl, by omega, g1, fun _ _ _ => rfl, fun _ _ _ _ _ _ _ _ _ => rfl, fun r hr => absurd hr (Nat.not_lt_zero _), fun q hq => ?_⟩
  have hrr : cr_wr _ := hP.2 q hq
  have e : cr_mdf M p q (Int.toNat 0) = fun _ => false := rfl
  rw [e, hrr.2.2.1, hrr.2.2.2]
  split
  · exact ⟨rfl, rfl⟩
  · exact ⟨rfl, rfl⟩

set_option maxRecDepth 20000 in
theorem vc_X1_link_2 (p : Nat) (n1 : Nat) (M : ab_M) (K : List ab_V → ab_M → Prop) (hS : (cr_LP p M) ∧ (∀ Mx : ab_M, (cr_LV p M Mx (M p 3).toNat) → K [] Mx)) (n : Nat) (k : Int) (M1 : ab_M) (hI : n = (M p 3 - k).toNat ∧ 0 ≤ k ∧ k ≤ M p 3 ∧ cr_LV p M M1 k.toNat) : (ab_ir k ∧ ab_ir (M1 p 3)) ∧ (((M1 p 3) ≤ k → K [] M1) ∧ (k < (M1 p 3) → (ab_ir k ∧ 0 ≤ M1 p 3 ∧ M1 p 3 ≤ 120) ∧ (∀ o12 : Nat, (o12 = if 0 ≤ k ∧ k < M1 p 3 then p + 1 + 1 + 3 * k.toNat else p + 362) → ((0 ≤ M1 p 3 ∧ M1 p 3 ≤ 120) ∧ (ab_ir (M1 o12 8) ∧ ab_ir (M1 o12 9) ∧ ab_ir (M1 o12 10)) ∧ (0 ≤ M1 o12 8 → M1 o12 8 < M1 p 3 ∧ ab_ir (M1 (cr_ow M1 p o12) 0) ∧ ab_ir (M1 (cr_ow M1 p o12 + 1) 1) ∧ ¬ cr_ow M1 p o12 = o12 ∧ ¬ cr_ow M1 p o12 + 1 = o12)) ∧ (∀ M18 : ab_M, (M18 = ab_up (ab_up M1 o12 15 (cr_aft M1 p o12)) o12 16 (cr_cau M1 p o12)) → (ab_ir (M18 o12 0) ∧ ab_ir (M18 (o12 + 1) 0) ∧ ab_ir (M18 (o12 + 1) 1)) ∧ (∀ M23 : ab_M, (cr_LI M18 M23 o12) → ((0 ≤ M23 p 3 ∧ M23 p 3 ≤ 120) ∧ ab_ir (M23 o12 1) ∧ ab_ir (M23 o12 8) ∧ ∀ r : Nat, (r : Int) < M23 p 3 → ab_ir (M23 (p + 1 + 1 + 3 * r) 0) ∧ ab_ir (M23 (p + 1 + 1 + 3 * r) 8)) ∧ (∀ M28 : ab_M, (M28 = if M23 o12 1 < 0 then M23 else (cr_anc M23 p 120 (M23 o12 8)).foldl (cr_nmf p (M23 o12 1)) M23) → (∃ n', n' < n ∧ (p = p ∧ n1 = n1 ∧ (n' = (M p 3 - (k + 1)).toNat ∧ 0 ≤ (k + 1) ∧ (k + 1) ≤ M p 3 ∧ cr_LV p M M28 (k + 1).toNat))))))))) := by
  obtain ⟨hn, h0, h1, hV⟩ := hI
  obtain ⟨hP, gK⟩ := hS
  obtain ⟨hA, hB, -, -⟩ := id hV
  obtain ⟨g1, g2⟩ := hP.1
  have e3 : M1 p 3 = M p 3 := hA _ _ fun r _ => by omega
  have h1b : ∀ r : Nat, (r : Int) < M p 3 → ∀ k', M1 (p + 1 + 1 + 3 * r + 1) k' = M (p + 1 + 1 + 3 * r + 1) k' := fun r _ k' => hA _ _ fun r' _ => by omega
  simp only [e3]
  refine And.intro (by
    first
      | exact ⟨⟨by omega, by omega⟩, by omega, by omega⟩
      | omega) ?_
  refine ⟨?_, ?_⟩
  · intro c7
    have e : k = M p 3 := by omega
    subst e
    exact gK _ hV
  · intro c7
    refine And.intro (by
      exact ⟨⟨by omega, by omega⟩, g1, g2⟩) ?_
    intro o12 hr12
    have e12 : o12 = p + 1 + 1 + 3 * k.toNat := by rw [hr12, if_pos ⟨by omega, by omega⟩]
    clear hr12
    have hk : ((k.toNat : Nat) : Int) < M p 3 := by omega
    have hrk : cr_wr _ := hP.2 k.toNat hk
    have f : ∀ j, j ≠ 6 → j ≠ 7 → j ≠ 15 → j ≠ 16 → j ≠ 17 → j ≠ 18 → M1 o12 j = M o12 j := fun j a b c d e g => by rw [e12]; exact hB k.toNat j hk a b c d e g
    rw [← e12] at hrk
    have f8 := f 8 (by decide) (by decide) (by decide) (by decide) (by decide) (by decide)
    refine And.intro (by
      refine ⟨⟨by omega, by omega⟩, ⟨?_, ?_, ?_⟩, fun hq => ?_⟩
      · rw [f8]
        have := hrk.1.2.2.1
        exact ⟨by omega, by omega⟩
      · rw [f 9 (by decide) (by decide) (by decide) (by decide) (by decide) (by decide)]; exact hrk.1.2.2.2.1
      · rw [f 10 (by decide) (by decide) (by decide) (by decide) (by decide) (by decide)]; exact hrk.1.2.2.2.2
      · rw [f8] at hq ⊢
        have hp := hrk.1.2.2.1
        have hw : cr_ow M1 p o12 = p + 1 + 1 + 3 * (M o12 8).toNat := by show p + 1 + 1 + 3 * (M1 o12 8).toNat = _; rw [f8]
        have hpl : (((M o12 8).toNat : Nat) : Int) < M p 3 := by omega
        have hrp : cr_wr _ := hP.2 _ hpl
        rw [hw]
        refine ⟨by omega, ?_, ?_, by omega, by omega⟩
        · rw [hB _ 0 hpl (by decide) (by decide) (by decide) (by decide) (by decide) (by decide)]; exact hrp.1.1
        · rw [h1b _ hpl]; exact hrp.2.1.2) ?_
    intro M18 hM18
    have f18 : ∀ o j : Nat, ¬ (o = o12 ∧ (j = 15 ∨ j = 16)) → M18 o j = M1 o j := fun o j g => by rw [hM18, up_ne (fun y => g ⟨y.1, Or.inr y.2⟩), up_ne (fun y => g ⟨y.1, Or.inl y.2⟩)]
    refine And.intro (by
      refine ⟨?_, ?_, ?_⟩
      · rw [f18 _ _ (by omega), f 0 (by decide) (by decide) (by decide) (by decide) (by decide) (by decide)]; exact hrk.1.1
      · rw [f18 _ _ (by omega), e12, h1b _ hk, ← e12]; exact hrk.2.1.1
      · rw [f18 _ _ (by omega), e12, h1b _ hk, ← e12]; exact hrk.2.1.2) ?_
    intro M23 hM23
    refine And.intro (by
      have f23 : ∀ o j : Nat, ¬ (o = o12 ∧ (j = 15 ∨ j = 16 ∨ j = 17 ∨ j = 18)) → M23 o j = M1 o j := fun o j g => by rw [hM23.1 o j (fun y => g ⟨y.1, by rcases y.2 with z | z; exact Or.inr (Or.inr (Or.inl z)); exact Or.inr (Or.inr (Or.inr z))⟩), f18 o j (fun y => g ⟨y.1, by rcases y.2 with z | z; exact Or.inl z; exact Or.inr (Or.inl z)⟩)]
      have e3' : M23 p 3 = M p 3 := by rw [f23 _ _ (by omega), e3]
      rw [e3']
      refine ⟨⟨g1, g2⟩, ?_, ?_, fun r hr => ?_⟩
      · rw [f23 _ _ (by omega), f 1 (by decide) (by decide) (by decide) (by decide) (by decide) (by decide)]
        have := hrk.1.2.1
        exact ⟨by omega, by omega⟩
      · rw [f23 _ _ (by omega), f8]
        have := hrk.1.2.2.1
        exact ⟨by omega, by omega⟩
      · have hrr : cr_wr _ := hP.2 r hr
        rw [f23 _ _ (by omega), f23 _ _ (by omega), hB r 0 hr (by decide) (by decide) (by decide) (by decide) (by decide) (by decide), hB r 8 hr (by decide) (by decide) (by decide) (by decide) (by decide) (by decide)]
        have := hrr.1.2.2.1
        exact ⟨hrr.1.1, by omega, by omega⟩) ?_
    intro M28 hM28
    refine ⟨_, ?_, by trivial, by trivial, rfl, by omega, by omega, ?_⟩
    · omega
    · rw [show (k + 1).toNat = k.toNat + 1 by omega]
      exact hV.step hP hk e12 hM18 hM23 hM28

set_option maxRecDepth 20000 in
set_option maxHeartbeats 1000000 in
theorem ok_X1_link (E : ab_E) : ab_Ok E 5 20 S_X1_link := by
  refine ab_mk rq_X1_link tk_X1_link (rt := 0) (rfl) (cuts := [2]) (G := [(16, S_X1_at), (21, S_X1_linkIn), (22, S_X1_linkOut), (25, S_X1_noteModified)]) (List.forall_mem_cons.mpr ⟨⟨1, by decide, ok_X1_at E⟩, List.forall_mem_cons.mpr ⟨⟨4, by decide, ok_X1_linkIn E⟩, List.forall_mem_cons.mpr ⟨⟨4, by decide, ok_X1_linkOut E⟩, List.forall_mem_cons.mpr ⟨⟨2, by decide, ok_X1_noteModified E⟩, fun _ h => absurd h List.not_mem_nil⟩⟩⟩⟩) (by decide) 72 rfl ?_
  intro a M K wd wa hS
  unfold S_X1_link at hS
  split at hS
  ·
    rename_i p n1
    refine ⟨Nat.le_of_ble_eq_true rfl, fun pc n L st M1 => match pc, L, st with
      | 2, [.inr (.inr (.inr (p_, 1, n1_))), .inr (.inl k), u3_], [] => p_ = p ∧ n1_ = n1 ∧ (n = (M p 3 - k).toNat ∧ 0 ≤ k ∧ k ≤ M p 3 ∧ cr_LV p M M1 k.toNat)
      | _, _, _ => False, ?_, ?_⟩
    · exact vc_X1_link_0 p n1 M K  hS
    · intro pc n L st M1 hI wd1 wL wst
      (try dsimp only at hI)
      split at hI
      ·
        rename_i p_ n1_ k u3_
        obtain ⟨e0_, e1_, hI⟩ := hI
        have e0_ := e0_.symm
        subst e0_
        have e1_ := e1_.symm
        subst e1_
        exact vc_X1_link_2 p n1 M K  hS n k _ hI
      · exact hI.elim
  · exact hS.elim
