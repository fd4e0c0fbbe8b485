/-! programs as trees -/
/-- a statement: its sort, variable, first and second term -/
abbrev pz_P : Type := Int × Int × List Int × List Int
/-- a row of statements: the ones before, the last one, its blocks -/
abbrev pz_T : Type := Std.DTreeMap.Internal.Impl pz_P (fun _ => Unit)
def pz_P0 : pz_P := (0, 0, [], [])
abbrev pz_nd (P : pz_P) (p a b : pz_T) : pz_T := .inner 0 P () p (.inner 0 pz_P0 () a b)
theorem pz_ind {C : pz_T → Prop} (h0 : C .leaf) (h1 : ∀ s P v p s' P' v' a b, C p → C a → C b → C (.inner s P v p (.inner s' P' v' a b))) (h2 : ∀ s P v p, C (.inner s P v p .leaf)) : ∀ t, C t := by
  have key : ∀ t : pz_T, C t ∧ (∀ s P v a b, t = .inner s P v a b → C a ∧ C b) := by
    intro t
    induction t with
    | leaf => exact ⟨h0, fun s P v a b h => by cases h⟩
    | inner s P v p c ihp ihc =>
      refine ⟨?_, fun s' P' v' a b h => ?_⟩
      · cases c with
        | leaf => exact h2 s P v p
        | inner s' P' v' a b =>
          obtain ⟨q1, q2⟩ := ihc.2 _ _ _ _ _ rfl
          exact h1 s P v p s' P' v' a b ihp.1 q1 q2
      · cases h
        exact ⟨ihp.1, ihc.1⟩
  exact fun t => (key t).1
def pz_ist (t : List Int) : Prop := pz_tm t 1 0 = (true, t.length)
def pz_wfP (P : pz_P) : Prop := (0 ≤ P.1 ∧ P.1 ≤ 8) ∧ (if P.1 = 0 ∨ P.1 = 1 ∨ P.1 = 5 then 0 ≤ P.2.1 ∧ P.2.1 ≤ 3 else P.2.1 = 0) ∧ (if P.1 = 1 ∨ P.1 = 4 ∨ P.1 = 8 then P.2.2.1 = [] else pz_ist P.2.2.1) ∧ (if P.1 = 5 ∨ P.1 = 7 then pz_ist P.2.2.2 else P.2.2.2 = [])
def pz_wf : pz_T → Prop
  | .leaf => True
  | .inner _ P _ p (.inner _ _ _ a b) => pz_wf p ∧ pz_wf a ∧ pz_wf b ∧ pz_wfP P ∧ (P.1 < 6 → a = .leaf ∧ b = .leaf) ∧ (P.1 = 7 → b = .leaf)
  | .inner _ _ _ _ .leaf => False
def pz_lt (s v : Int) : Int := if s = 0 then 97 + v else if s = 1 then 104 else if s = 2 then 107 else if s = 3 then 115 else if s = 4 then 116 else if s = 5 then 112 else if s = 6 then 105 else if s = 7 then 119 else 121
/-- a statement's letters before its blocks -/
def pz_hd (P : pz_P) : List Int := pz_lt P.1 P.2.1 :: ((if P.1 = 1 then [97 + P.2.1] else []) ++ (P.2.2.1 ++ ((if P.1 = 5 then [97 + P.2.1] else []) ++ P.2.2.2)))
/-- all letters -/
def pz_pr : pz_T → List Int
  | .leaf => []
  | .inner _ P _ p (.inner _ _ _ a b) => pz_pr p ++ (pz_hd P ++ (if 6 ≤ P.1 then 40 :: (pz_pr a ++ 41 :: (if P.1 = 7 then [] else 40 :: (pz_pr b ++ [41]))) else []))
  | .inner _ _ _ _ .leaf => []
def pz_kn : pz_T → Nat
  | .leaf => 0
  | .inner _ P _ p (.inner _ _ _ a b) => pz_kn p + ((pz_kd (P.1, 0, 0, 0, 0, 0, 0, 0)).length + (pz_kn a + pz_kn b))
  | .inner _ _ _ _ .leaf => 0
def pz_nl : pz_T → Nat
  | .leaf => 0
  | .inner _ P _ p (.inner _ _ _ a b) => pz_nl p + ((if P.1 = 7 then 1 else 0) + (pz_nl a + pz_nl b))
  | .inner _ _ _ _ .leaf => 0
def pz_ld : pz_T → Nat
  | .leaf => 0
  | .inner _ P _ p (.inner _ _ _ a b) => Nat.max (pz_ld p) (Nat.max (pz_ld a) (pz_ld b) + (if P.1 = 7 then 1 else 0))
  | .inner _ _ _ _ .leaf => 0
def pz_ne : pz_T → Nat
  | .leaf => 0
  | .inner _ P _ p (.inner _ _ _ a b) => pz_ne p + (1 + (if 6 ≤ P.1 then 2 + (pz_ne a + (if P.1 = 7 then 0 else 2 + pz_ne b)) else 0))
  | .inner _ _ _ _ .leaf => 0
def pz_sz : pz_T → Nat
  | .leaf => 0
  | .inner _ _ _ p (.inner _ _ _ a b) => pz_sz p + (1 + (pz_sz a + pz_sz b))
  | .inner _ _ _ _ .leaf => 0
/-- turns of the reader -/
def pz_tn : pz_T → Nat
  | .leaf => 0
  | .inner _ P _ p (.inner _ _ _ a b) => pz_tn p + (1 + (if 6 ≤ P.1 then pz_tn a + (1 + (if P.1 = 7 then 0 else pz_tn b + 1)) else 0))
  | .inner _ _ _ _ .leaf => 0
def pz_evP (P : pz_P) (q c : Nat) : pz_Ev := (P.1, P.2.1, ((q + 1 + (if P.1 = 1 then 1 else 0) : Nat) : Int), (P.2.2.1.length : Int), ((q + 1 + (if P.1 = 1 then 1 else 0) + P.2.2.1.length + (if P.1 = 5 then 1 else 0) : Nat) : Int), (P.2.2.2.length : Int), (c : Int), 0)
abbrev pz_w1 (s : Int) : Int := if s = 6 then 0 else if s = 7 then 2 else 3
abbrev pz_w2 (s : Int) : Int := if s = 6 then 1 else 4
abbrev pz_eo (w : Int) (e : Nat) : pz_Ev := (9, w, 0, 0, 0, 0, 0, (e : Int))
abbrev pz_ec (w : Int) (e : Nat) : pz_Ev := (10, w, 0, 0, 0, 0, 0, (e : Int))
/-- all events, from so many letters, events, checks on -/
def pz_fl : pz_T → Nat → Nat → Nat → List pz_Ev
  | .leaf, _, _, _ => []
  | .inner _ P _ p (.inner _ _ _ a b), q, e, c => pz_fl p q e c ++ (pz_evP P (q + (pz_pr p).length) (c + pz_kn p) :: (if 6 ≤ P.1 then
      pz_eo (pz_w1 P.1) (e + pz_ne p) :: (pz_fl a (q + (pz_pr p).length + (pz_hd P).length + 1) (e + pz_ne p + 2) (c + pz_kn p + (pz_kd (P.1, 0, 0, 0, 0, 0, 0, 0)).length) ++ pz_ec (pz_w1 P.1) (e + pz_ne p) :: (if P.1 = 7 then [] else
      pz_eo (pz_w2 P.1) (e + pz_ne p) :: (pz_fl b (q + (pz_pr p).length + (pz_hd P).length + 1 + (pz_pr a).length + 2) (e + pz_ne p + 2 + pz_ne a + 2) (c + pz_kn p + (pz_kd (P.1, 0, 0, 0, 0, 0, 0, 0)).length + pz_kn a) ++ [pz_ec (pz_w2 P.1) (e + pz_ne p)]))) else []))
  | .inner _ _ _ _ .leaf, _, _, _ => []
/-! terms -/
theorem pz_tm_k (ls : List Int) : ∀ l k : Nat, pz_tm ls l k = ((pz_tm ls l 0).1, k + (pz_tm ls l 0).2) := by
  induction ls with
  | nil =>
    intro l k
    cases l with
    | zero => simp [pz_tm]
    | succ l => simp [pz_tm]
  | cons c t ih =>
    intro l k
    cases l with
    | zero => simp [pz_tm]
    | succ l =>
      unfold pz_tm
      split
      · rw [ih (l + 2) (k + 1), ih (l + 2) 1]
        simp only [Prod.mk.injEq, true_and]
        omega
      · split
        · rw [ih (l + 1) (k + 1), ih (l + 1) 1]
          simp only [Prod.mk.injEq, true_and]
          omega
        · split
          · rw [ih l (k + 1), ih l 1]
            simp only [Prod.mk.injEq, true_and]
            omega
          · simp
theorem pz_tm_pre (ls : List Int) : ∀ (l m : Nat), pz_tm ls l 0 = (true, m) → m ≤ ls.length ∧ ∀ rest, pz_tm (ls.take m ++ rest) l 0 = (true, m) := by
  induction ls with
  | nil =>
    intro l m h
    cases l with
    | zero =>
      simp only [pz_tm, Prod.mk.injEq, true_and] at h
      subst h
      refine ⟨Nat.le_refl _, fun rest => ?_⟩
      rw [pz_tm_zero]
    | succ l => simp [pz_tm] at h
  | cons c t ih =>
    intro l m h
    cases l with
    | zero =>
      rw [pz_tm_zero] at h
      cases h
      exact ⟨Nat.zero_le _, fun rest => by rw [pz_tm_zero]⟩
    | succ l =>
      have step : ∀ l' : Nat, pz_tm t l' 1 = (true, m) → (∀ rest, pz_tm (c :: rest) (l + 1) 0 = pz_tm rest l' 1) → m ≤ (c :: t).length ∧ ∀ rest, pz_tm ((c :: t).take m ++ rest) (l + 1) 0 = (true, m) := by
        intro l' h1 h2
        rw [pz_tm_k] at h1
        have e1 : (pz_tm t l' 0).1 = true := congrArg Prod.fst h1
        have e2 : 1 + (pz_tm t l' 0).2 = m := congrArg Prod.snd h1
        obtain ⟨m', rfl⟩ : ∃ m', m = m' + 1 := ⟨m - 1, by omega⟩
        obtain ⟨q1, q2⟩ := ih l' m' (Prod.ext e1 (by show _ = m'; omega))
        refine ⟨by rw [List.length_cons]; omega, fun rest => ?_⟩
        rw [List.take_succ_cons, List.cons_append, h2, pz_tm_k, q2]
        simp only [Prod.mk.injEq, true_and]
        omega
      unfold pz_tm at h
      split at h
      · rename_i hc
        exact step _ h fun rest => by rw [pz_tm, if_pos hc]
      · rename_i hc
        split at h
        · rename_i hc2
          exact step _ h fun rest => by rw [pz_tm, if_neg hc, if_pos hc2]
        · rename_i hc2
          split at h
          · rename_i hc3
            exact step _ h fun rest => by rw [pz_tm, if_neg hc, if_neg hc2, if_pos hc3]
          · cases h
theorem pz_ist_app {t : List Int} (h : pz_ist t) (rest : List Int) : pz_tm (t ++ rest) 1 0 = (true, t.length) := by
  have := (pz_tm_pre t 1 t.length h).2 rest
  rwa [List.take_length] at this
theorem pz_ist_of {ls : List Int} {m : Nat} (h : pz_tm ls 1 0 = (true, m)) : pz_ist (ls.take m) ∧ (ls.take m).length = m := by
  obtain ⟨q1, q2⟩ := pz_tm_pre ls 1 m h
  have := q2 []
  rw [List.append_nil] at this
  have e : (ls.take m).length = m := by rw [List.length_take]; omega
  exact ⟨by unfold pz_ist; rw [this, e], e⟩
theorem pz_te_go {ls t rest : List Int} {A : Nat} (h : ls.drop A = t ++ rest) (ht : pz_ist t) : pz_te ls (A : Int) (-9) = ((t.length : Int), ((A + t.length : Nat) : Int), -9) := by
  unfold pz_te
  rw [if_pos rfl, Int.toNat_natCast, h, pz_ist_app ht]
  rfl
theorem pz_te_ok {ls : List Int} {a f : Int} (ha : 0 ≤ a) (h : (pz_te ls a f).2.2 = -9) : f = -9 ∧ ∃ t, pz_ist t ∧ ls.drop a.toNat = t ++ ls.drop (a.toNat + t.length) := by
  unfold pz_te at h
  split at h
  · rename_i hf
    refine ⟨hf, ?_⟩
    by_cases hb : (pz_tm (ls.drop a.toNat) 1 0).1 = true
    · obtain ⟨q1, q2⟩ := pz_ist_of (ls := ls.drop a.toNat) (m := (pz_tm (ls.drop a.toNat) 1 0).2) (Prod.ext hb rfl)
      refine ⟨_, q1, ?_⟩
      rw [q2, ← List.drop_drop, List.take_append_drop]
    · exfalso
      have h : (if (pz_tm (ls.drop a.toNat) 1 0).1 then (-9 : Int) else _) = -9 := h
      rw [if_neg hb] at h
      omega
  · rename_i hf
    exact absurd h hf
theorem pz_at_drop {ls : List Int} {A : Nat} {c : Int} {rest : List Int} (h : ls.drop A = c :: rest) : pz_at ls A = c ∧ ls.drop (A + 1) = rest ∧ A < ls.length := by
  have hl : A < ls.length := by
    rcases Nat.lt_or_ge A ls.length with q | q
    · exact q
    · rw [List.drop_eq_nil_of_le q] at h; cases h
  rw [List.drop_eq_getElem_cons hl] at h
  obtain ⟨h1, h2⟩ := List.cons.inj h
  refine ⟨?_, h2, hl⟩
  unfold pz_at
  rw [List.getD_eq_getElem?_getD, List.getElem?_eq_getElem hl]
  exact h1
theorem pz_drop_at {ls : List Int} {A : Nat} (h : A < ls.length) : ls.drop A = pz_at ls A :: ls.drop (A + 1) := by
  rw [List.drop_eq_getElem_cons h]
  unfold pz_at
  rw [List.getD_eq_getElem?_getD, List.getElem?_eq_getElem h]
  rfl
theorem pz_nm_go {ls rest : List Int} {A : Nat} {v : Int} (h : ls.drop A = (97 + v) :: rest) (hv : 0 ≤ v ∧ v ≤ 3) : pz_nm ls (A : Int) (-9) = (v, ((A + 1 : Nat) : Int), -9) := by
  obtain ⟨h1, -, -⟩ := pz_at_drop h
  unfold pz_nm
  rw [if_pos rfl, Int.toNat_natCast, h1, if_pos (by unfold pz_name; omega)]
  rw [show 97 + v - 97 = v by omega]
  rfl
theorem pz_nm_ok {ls : List Int} {a f : Int} (ha : 0 ≤ a) (h : (pz_nm ls a f).2.2 = -9) : f = -9 ∧ ∃ v, (0 ≤ v ∧ v ≤ 3) ∧ ls.drop a.toNat = (97 + v) :: ls.drop (a.toNat + 1) := by
  unfold pz_nm at h
  split at h
  · rename_i hf
    split at h
    · rename_i hn
      refine ⟨hf, pz_at ls a.toNat - 97, ?_, ?_⟩
      · unfold pz_name at hn; omega
      · rw [show 97 + (pz_at ls a.toNat - 97) = pz_at ls a.toNat by omega]
        exact pz_drop_at (pz_at_lt (by unfold pz_name at hn; omega))
    · exfalso
      have h : a = -9 := h
      omega
  · rename_i hf
    exact absurd h hf
