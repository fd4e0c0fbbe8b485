/-! the passive form and the form by copying, of a tree -/
abbrev ps_V : Type := Nat → Int
/-- greatest versions, equalities, size -/
abbrev ps_S : Type := ps_V × Int × Int
def ps_rn (st : ps_S) (V : ps_V) (S : Nat → Bool) : ps_S × ps_V := ((fun v => st.1 v + (if S v = true then 1 else 0), st.2.1, st.2.2), fun v => if S v = true then st.1 v + 1 else V v)
def ps_cnt (S : Nat → Bool) : Int := (if S 0 = true then 1 else 0) + (if S 1 = true then 1 else 0) + (if S 2 = true then 1 else 0) + (if S 3 = true then 1 else 0)
def ps_df (V W : ps_V) (v : Nat) : Bool := decide (v < 4 ∧ V v ≠ W v)
def ps_jn (st : ps_S) (e1 e2 : Option ps_V) : ps_S × Option ps_V := match e1, e2 with
  | none, e => (st, e)
  | some V, none => (st, some V)
  | some V, some W => (((ps_rn st V (ps_df V W)).1.1, (ps_rn st V (ps_df V W)).1.2.1 + 2 * ps_cnt (ps_df V W), (ps_rn st V (ps_df V W)).1.2.2), some (ps_rn st V (ps_df V W)).2)
/-- a join of throws -/
def ps_tS (V0 : ps_V) (th : List ps_V) (v : Nat) : Bool := th.any fun U => ps_df V0 U v
def ps_tj (st : ps_S) (V0 : ps_V) (th : List ps_V) : ps_S × ps_V := (((ps_rn st V0 (ps_tS V0 th)).1.1, st.2.1 + ((th.length : Nat) : Int) * ps_cnt (ps_tS V0 th), st.2.2), (ps_rn st V0 (ps_tS V0 th)).2)
abbrev ps_R : Type := ps_S × Option ps_V × List ps_V
def ps_sz (P : pz_P) : Int := 1 + ((P.2.2.1.length : Nat) : Int) + (if P.1 = 7 then 3 else 1) * ((P.2.2.2.length : Nat) : Int)
def ps_P (P : pz_P) (md : Nat → Bool) (A B : ps_V → ps_S → ps_R) (V : ps_V) (s0 : ps_S) : ps_R :=
  if P.1 = 0 ∨ P.1 = 1 ∨ P.1 = 5 then ((ps_rn (s0.1, s0.2.1, s0.2.2 + ps_sz P) V (fun v => decide ((v : Int) = P.2.1))).1, some (ps_rn (s0.1, s0.2.1, s0.2.2 + ps_sz P) V (fun v => decide ((v : Int) = P.2.1))).2, [])
  else if P.1 = 4 then ((s0.1, s0.2.1, s0.2.2 + ps_sz P), none, [V])
  else if P.1 = 6 then ((ps_jn (B V (A V (s0.1, s0.2.1, s0.2.2 + ps_sz P)).1).1 (A V (s0.1, s0.2.1, s0.2.2 + ps_sz P)).2.1 (B V (A V (s0.1, s0.2.1, s0.2.2 + ps_sz P)).1).2.1).1, (ps_jn (B V (A V (s0.1, s0.2.1, s0.2.2 + ps_sz P)).1).1 (A V (s0.1, s0.2.1, s0.2.2 + ps_sz P)).2.1 (B V (A V (s0.1, s0.2.1, s0.2.2 + ps_sz P)).1).2.1).2, (A V (s0.1, s0.2.1, s0.2.2 + ps_sz P)).2.2 ++ (B V (A V (s0.1, s0.2.1, s0.2.2 + ps_sz P)).1).2.2)
  else if P.1 = 7 then ((A (ps_rn (s0.1, s0.2.1, s0.2.2 + ps_sz P) V (fun v => decide (v < 4) && md v)).2 (ps_rn (s0.1, s0.2.1, s0.2.2 + ps_sz P) V (fun v => decide (v < 4) && md v)).1).1, some (ps_rn (s0.1, s0.2.1, s0.2.2 + ps_sz P) V (fun v => decide (v < 4) && md v)).2, (A (ps_rn (s0.1, s0.2.1, s0.2.2 + ps_sz P) V (fun v => decide (v < 4) && md v)).2 (ps_rn (s0.1, s0.2.1, s0.2.2 + ps_sz P) V (fun v => decide (v < 4) && md v)).1).2.2)
  else if P.1 = 8 then (match (A V (s0.1, s0.2.1, s0.2.2 + ps_sz P)).2.2 with
    | [] => ((A V (s0.1, s0.2.1, s0.2.2 + ps_sz P)).1, (A V (s0.1, s0.2.1, s0.2.2 + ps_sz P)).2.1, [])
    | V0 :: th => ((ps_jn (B (ps_tj (A V (s0.1, s0.2.1, s0.2.2 + ps_sz P)).1 V0 (V0 :: th)).2 (ps_tj (A V (s0.1, s0.2.1, s0.2.2 + ps_sz P)).1 V0 (V0 :: th)).1).1 (A V (s0.1, s0.2.1, s0.2.2 + ps_sz P)).2.1 (B (ps_tj (A V (s0.1, s0.2.1, s0.2.2 + ps_sz P)).1 V0 (V0 :: th)).2 (ps_tj (A V (s0.1, s0.2.1, s0.2.2 + ps_sz P)).1 V0 (V0 :: th)).1).2.1).1, (ps_jn (B (ps_tj (A V (s0.1, s0.2.1, s0.2.2 + ps_sz P)).1 V0 (V0 :: th)).2 (ps_tj (A V (s0.1, s0.2.1, s0.2.2 + ps_sz P)).1 V0 (V0 :: th)).1).1 (A V (s0.1, s0.2.1, s0.2.2 + ps_sz P)).2.1 (B (ps_tj (A V (s0.1, s0.2.1, s0.2.2 + ps_sz P)).1 V0 (V0 :: th)).2 (ps_tj (A V (s0.1, s0.2.1, s0.2.2 + ps_sz P)).1 V0 (V0 :: th)).1).2.1).2, (B (ps_tj (A V (s0.1, s0.2.1, s0.2.2 + ps_sz P)).1 V0 (V0 :: th)).2 (ps_tj (A V (s0.1, s0.2.1, s0.2.2 + ps_sz P)).1 V0 (V0 :: th)).1).2.2))
  else ((s0.1, s0.2.1, s0.2.2 + ps_sz P), some V, [])
def ps_t : pz_T → ps_V → ps_S → ps_R
  | .leaf, V, st => (st, some V, [])
  | .inner _ P _ t (.inner _ _ _ a b), V, st => match (ps_t t V st).2.1 with
    | none => ps_t t V st
    | some V1 => ((ps_P P (pz_md a) (ps_t a) (ps_t b) V1 (ps_t t V st).1).1, (ps_P P (pz_md a) (ps_t a) (ps_t b) V1 (ps_t t V st).1).2.1, (ps_t t V st).2.2 ++ (ps_P P (pz_md a) (ps_t a) (ps_t b) V1 (ps_t t V st).1).2.2)
  | .inner _ _ _ _ .leaf, V, st => (st, some V, [])
def cp_P (P : pz_P) (A B : Int → Int → Int) (n x : Int) : Int :=
  if P.1 = 4 then x
  else if P.1 = 6 then 2 * ((P.2.2.1.length : Nat) : Int) + A n x + B n x + 1
  else if P.1 = 7 then 3 * ((P.2.2.2.length : Nat) : Int) + 2 * ((P.2.2.1.length : Nat) : Int) + A ((P.2.2.2.length : Nat) : Int) x + n + 1
  else if P.1 = 8 then A n (B n x)
  else n + ((P.2.2.1.length : Nat) : Int) + ((P.2.2.2.length : Nat) : Int) + 1
/-- the size by copying -/
def cp_t : pz_T → Int → Int → Int
  | .leaf, n, _ => n
  | .inner _ P _ t (.inner _ _ _ a b), n, x => cp_t t (cp_P P (cp_t a) (cp_t b) n x) x
  | .inner _ _ _ _ .leaf, n, _ => n
/-- how deep blocks lie -/
def pz_ht : pz_T → Nat
  | .leaf => 0
  | .inner _ _ _ t (.inner _ _ _ a b) => Nat.max (pz_ht t) (Nat.max (pz_ht a) (pz_ht b) + 1)
  | .inner _ _ _ _ .leaf => 0
/-! bounds -/
def ps_bd (V : ps_V) (st : ps_S) : Prop := ∀ v, v < 4 → 0 ≤ V v ∧ V v ≤ st.1 v
def ps_le (s s' : ps_S) (n : Nat) : Prop := ∀ v, v < 4 → s.1 v ≤ s'.1 v ∧ s'.1 v ≤ s.1 v + ((n : Nat) : Int)
/-- what comes of it is in bounds -/
def ps_ok (s : ps_S) (r : ps_R) (n : Nat) : Prop := ps_le s r.1 n ∧ (∀ V, r.2.1 = some V → ps_bd V r.1) ∧ ∀ V ∈ r.2.2, ps_bd V r.1
theorem ps_le.rf (s : ps_S) (n : Nat) : ps_le s s n := fun v _ => ⟨Int.le_refl _, by omega⟩
theorem ps_le.tr {a b c : ps_S} {m n k : Nat} (h : ps_le a b m) (h' : ps_le b c n) (hk : m + n ≤ k) : ps_le a c k := fun v hv => by
  have := h v hv
  have := h' v hv
  omega
theorem ps_le.bd {V : ps_V} {s s' : ps_S} {n : Nat} (h : ps_le s s' n) (hb : ps_bd V s) : ps_bd V s' := fun v hv => by
  have := h v hv
  have := hb v hv
  omega
theorem ps_rn_ok {V : ps_V} {st : ps_S} (h : ps_bd V st) (S : Nat → Bool) : ps_le st (ps_rn st V S).1 1 ∧ ps_bd (ps_rn st V S).2 (ps_rn st V S).1 := by
  refine ⟨fun v hv => ?_, fun v hv => ?_⟩
  · show st.1 v ≤ st.1 v + (if S v = true then 1 else 0) ∧ st.1 v + (if S v = true then 1 else 0) ≤ _
    split <;> omega
  · have := h v hv
    show 0 ≤ (if S v = true then st.1 v + 1 else V v) ∧ (if S v = true then st.1 v + 1 else V v) ≤ st.1 v + (if S v = true then 1 else 0)
    split <;> omega
theorem ps_jn_ok {st : ps_S} {e1 e2 : Option ps_V} (h1 : ∀ V, e1 = some V → ps_bd V st) (h2 : ∀ V, e2 = some V → ps_bd V st) : ps_le st (ps_jn st e1 e2).1 1 ∧ ∀ V, (ps_jn st e1 e2).2 = some V → ps_bd V (ps_jn st e1 e2).1 := by
  cases e1 with
  | none => exact ⟨ps_le.rf _ _, h2⟩
  | some V =>
    cases e2 with
    | none => exact ⟨ps_le.rf _ _, h1⟩
    | some W =>
      obtain ⟨g1, g2⟩ := ps_rn_ok (h1 V rfl) (ps_df V W)
      exact ⟨g1, fun U hU => by cases hU; exact g2⟩
theorem ps_tj_ok {st : ps_S} {V0 : ps_V} (th : List ps_V) (h : ps_bd V0 st) : ps_le st (ps_tj st V0 th).1 1 ∧ ps_bd (ps_tj st V0 th).2 (ps_tj st V0 th).1 := ps_rn_ok h (ps_tS V0 th)
theorem ps_P_ok {P : pz_P} {md : Nat → Bool} {A B : ps_V → ps_S → ps_R} {na nb : Nat} (hA : ∀ V s, ps_bd V s → ps_ok s (A V s) na) (hB : ∀ V s, ps_bd V s → ps_ok s (B V s) nb) {V : ps_V} {s0 : ps_S} (h : ps_bd V s0) : ps_ok s0 (ps_P P md A B V s0) (na + nb + 2) := by
  have h' : ps_bd V (s0.1, s0.2.1, s0.2.2 + ps_sz P) := h
  have hs : ps_le s0 (s0.1, s0.2.1, s0.2.2 + ps_sz P) 0 := fun v _ => ⟨Int.le_refl _, by show s0.1 v ≤ _; omega⟩
  unfold ps_P
  split
  · obtain ⟨g1, g2⟩ := ps_rn_ok h' (fun v => decide ((v : Int) = P.2.1))
    exact ⟨hs.tr g1 (by omega), fun U hU => by cases hU; exact g2, fun U hU => absurd hU List.not_mem_nil⟩
  · split
    · exact ⟨hs.tr (ps_le.rf _ 0) (by omega), fun U hU => (by cases hU), fun U hU => by rw [List.mem_singleton.1 hU]; exact h'⟩
    · split
      · obtain ⟨a1, a2, a3⟩ := hA V _ h'
        obtain ⟨b1, b2, b3⟩ := hB V _ (a1.bd h')
        obtain ⟨j1, j2⟩ := ps_jn_ok (fun U hU => b1.bd (a2 U hU)) b2
        refine ⟨hs.tr (a1.tr (b1.tr j1 (Nat.le_refl _)) (Nat.le_refl _)) (by omega), j2, fun U hU => ?_⟩
        rcases List.mem_append.1 hU with q | q
        · exact j1.bd (b1.bd (a3 U q))
        · exact j1.bd (b3 U q)
      · split
        · obtain ⟨g1, g2⟩ := ps_rn_ok h' (fun v => decide (v < 4) && md v)
          obtain ⟨a1, a2, a3⟩ := hA _ _ g2
          exact ⟨hs.tr (g1.tr a1 (Nat.le_refl _)) (by omega), fun U hU => by cases hU; exact a1.bd g2, a3⟩
        · split
          · obtain ⟨a1, a2, a3⟩ := hA V _ h'
            split
            · exact ⟨hs.tr a1 (by omega), a2, fun U hU => absurd hU List.not_mem_nil⟩
            · rename_i V0 th e
              have hV0 := a3 V0 (by rw [e]; exact List.mem_cons_self)
              obtain ⟨t1, t2⟩ := ps_tj_ok (V0 :: th) hV0
              obtain ⟨b1, b2, b3⟩ := hB _ _ t2
              obtain ⟨j1, j2⟩ := ps_jn_ok (fun U hU => b1.bd (t1.bd (a2 U hU))) b2
              exact ⟨hs.tr (a1.tr (t1.tr (b1.tr j1 (Nat.le_refl _)) (Nat.le_refl _)) (Nat.le_refl _)) (by omega), j2, fun U hU => j1.bd (b3 U hU)⟩
          · exact ⟨hs.tr (ps_le.rf _ 0) (by omega), fun U hU => by cases hU; exact h', fun U hU => absurd hU List.not_mem_nil⟩
theorem ps_t_ok : ∀ (t : pz_T) (V : ps_V) (s : ps_S), ps_bd V s → ps_ok s (ps_t t V s) (2 * pz_sz t) := by
  intro t
  induction t using pz_ind with
  | h0 => exact fun V s h => ⟨ps_le.rf _ _, fun U hU => by cases hU; exact h, fun U hU => absurd hU List.not_mem_nil⟩
  | h2 s P v t => exact fun V s h => ⟨ps_le.rf _ _, fun U hU => by cases hU; exact h, fun U hU => absurd hU List.not_mem_nil⟩
  | h1 s P v t s' P' v' a b iht iha ihb =>
    intro V st h
    rw [pz_sz_nd]
    obtain ⟨t1, t2, t3⟩ := iht V st h
    unfold ps_t
    cases e : (ps_t t V st).2.1 with
    | none => exact ⟨t1.tr (ps_le.rf _ 0) (by omega), t2, t3⟩
    | some V1 =>
      obtain ⟨p1, p2, p3⟩ := ps_P_ok (P := P) (md := pz_md a) iha ihb (t2 V1 e)
      refine ⟨t1.tr p1 (by omega), p2, fun U hU => ?_⟩
      rcases List.mem_append.1 hU with q | q
      · exact p1.bd (t3 U q)
      · exact p3 U q
theorem pk_ok_bd {V : ps_V} {st : ps_S} (h : ps_bd V st) (hs : ∀ v, v < 4 → st.1 v < 32768) : pk_ok V := fun v hv => by
  have := h v hv
  have := hs v hv
  omega
