/-! what is read is printed of a tree -/
theorem pz_turn_inv {ls : List Int} {E : List pz_Ev} {op : List Nat} {A : Nat} {r : List pz_Ev × List Nat × Int} (hA : A < ls.length) (h : pz_turn ls E op (A : Int) = .inr r) :
    (∃ P : pz_P, pz_wfP P ∧ ls.drop A = pz_hd P ++ ls.drop (A + (pz_hd P).length) ∧ A + (pz_hd P).length ≤ ls.length ∧ (pz_kds E).length + (pz_kd (P.1, 0, 0, 0, 0, 0, 0, 0)).length ≤ 16 ∧ (P.1 = 7 → pz_c7 E < 4 ∧ pz_la E op < 2) ∧ (pz_at ls A = 41 → op = []) ∧
      ((P.1 < 6 ∧ r = (E ++ [pz_evP P A (pz_kds E).length], op, ((A + (pz_hd P).length : Nat) : Int))) ∨ (6 ≤ P.1 ∧ pz_at ls (A + (pz_hd P).length) = 40 ∧ r = (E ++ [pz_evP P A (pz_kds E).length] ++ [pz_eo (pz_w1 P.1) E.length], (E.length + 1) :: op, ((A + (pz_hd P).length + 1 : Nat) : Int))))) ∨
    (∃ o op', op = o :: op' ∧ pz_at ls A = 41 ∧ ((((E.getD o pz_d0).2.1 = 0 ∨ (E.getD o pz_d0).2.1 = 3) ∧ pz_at ls (A + 1) = 40 ∧ r = (E ++ [(10, (E.getD o pz_d0).2.1, 0, 0, 0, 0, 0, (E.getD o pz_d0).2.2.2.2.2.2.2)] ++ [(9, if (E.getD o pz_d0).2.1 = 0 then 1 else 4, 0, 0, 0, 0, 0, (E.getD o pz_d0).2.2.2.2.2.2.2)], (E.length + 1) :: op', ((A + 2 : Nat) : Int))) ∨
      (¬ ((E.getD o pz_d0).2.1 = 0 ∨ (E.getD o pz_d0).2.1 = 3) ∧ r = (E ++ [(10, (E.getD o pz_d0).2.1, 0, 0, 0, 0, 0, (E.getD o pz_d0).2.2.2.2.2.2.2)], op', ((A + 1 : Nat) : Int))))) := by
  have pop : ∀ {E : List pz_Ev} {op : List Nat} {B : Nat} {w i : Int} {r}, pz_pop ls E op (B : Int) w i = .inr r → pz_at ls B = 40 ∧ r = (E ++ [(9, w, 0, 0, 0, 0, 0, i)], E.length :: op, ((B + 1 : Nat) : Int)) := by
    intro E op B w i r h
    unfold pz_pop at h
    rw [Int.toNat_natCast] at h
    split at h
    · rename_i hq
      cases h
      exact ⟨hq, rfl⟩
    · cases h
  have stm : (pz_srt (pz_at ls A) ≠ -9 ∧ ((pz_kds E).length : Int) + pz_nck (pz_srt (pz_at ls A)) ≤ 16 ∧ (pz_srt (pz_at ls A) = 7 → ((pz_lps E).length : Int) < 4 ∧ (pz_la E op : Int) < 2)) → pz_stm ls E op (A : Int) (pz_srt (pz_at ls A)) = .inr r → (pz_at ls A = 41 → op = []) → ∃ P : pz_P, pz_wfP P ∧ ls.drop A = pz_hd P ++ ls.drop (A + (pz_hd P).length) ∧ A + (pz_hd P).length ≤ ls.length ∧ (pz_kds E).length + (pz_kd (P.1, 0, 0, 0, 0, 0, 0, 0)).length ≤ 16 ∧ (P.1 = 7 → pz_c7 E < 4 ∧ pz_la E op < 2) ∧ (pz_at ls A = 41 → op = []) ∧
      ((P.1 < 6 ∧ r = (E ++ [pz_evP P A (pz_kds E).length], op, ((A + (pz_hd P).length : Nat) : Int))) ∨ (6 ≤ P.1 ∧ pz_at ls (A + (pz_hd P).length) = 40 ∧ r = (E ++ [pz_evP P A (pz_kds E).length] ++ [pz_eo (pz_w1 P.1) E.length], (E.length + 1) :: op, ((A + (pz_hd P).length + 1 : Nat) : Int)))) := by
    intro hm hs h41
    obtain ⟨m1, m2, m3⟩ := hm
    generalize hits : pz_srt (pz_at ls A) = its at m1 m2 m3 hs
    have hr : 0 ≤ its ∧ its ≤ 8 := by
      rw [← hits] at m1 ⊢
      unfold pz_srt at m1 ⊢
      repeat' split
      all_goals first
        | omega
        | (exfalso; simp_all)
    have hf : (pz_t2 ls its (if its = 0 then pz_at ls A - 97 else 0) ((A : Int) + 1)).2.2 = -9 := by
      unfold pz_stm at hs
      rw [Int.toNat_natCast] at hs
      by_cases q : (pz_t2 ls its (if its = 0 then pz_at ls A - 97 else 0) ((A : Int) + 1)).2.2 = -9
      · exact q
      · rw [if_neg q] at hs
        cases hs
    obtain ⟨P, hP1, hP2, hP3⟩ := pz_got_ex hr hA hits hf
    rw [← hP1] at hs m2 m3
    have hle : A + (pz_hd P).length ≤ ls.length := by
      have := congrArg List.length hP3
      rw [List.length_append, List.length_drop, List.length_drop] at this
      omega
    have hk := pz_kd_len P.1
    rw [pz_stm_go hP2 hP3] at hs
    refine ⟨P, hP2, hP3, hle, by omega, fun q => ?_, h41, ?_⟩
    · rw [← pz_lps_c7]
      obtain ⟨x1, x2⟩ := m3 q
      exact ⟨by omega, by omega⟩
    · by_cases h6 : 6 ≤ P.1
      · rw [if_pos h6] at hs
        obtain ⟨y1, y2⟩ := pop hs
        refine Or.inr ⟨h6, y1, ?_⟩
        rw [y2, List.length_append]
        rfl
      · rw [if_neg h6] at hs
        cases hs
        exact Or.inl ⟨by omega, rfl⟩
  unfold pz_turn at h
  cases op with
  | nil =>
    dsimp only at h
    rw [Int.toNat_natCast] at h
    split at h
    · rename_i hm
      exact Or.inl (stm hm h (fun _ => rfl))
    · cases h
  | cons o op =>
    dsimp only at h
    rw [Int.toNat_natCast] at h
    split at h
    · rename_i hat
      refine Or.inr ⟨o, op, rfl, hat, ?_⟩
      split at h
      · rename_i hw
        obtain ⟨y1, y2⟩ := pop (B := A + 1) h
        refine Or.inl ⟨hw, y1, ?_⟩
        rw [y2, List.length_append]
        rfl
      · rename_i hw
        cases h
        exact Or.inr ⟨hw, rfl⟩
    · rename_i hat
      split at h
      · rename_i hm
        exact Or.inl (stm hm h (fun q => absurd q hat))
      · cases h
/-- an open block: the statements before, the statement whose block it is, whether it is the second one, the first one -/
abbrev pz_F : Type := pz_T × pz_P × Bool × pz_T
def pz_fpr (f : pz_F) : List Int := pz_pr f.1 ++ (pz_hd f.2.1 ++ 40 :: (if f.2.2.1 then pz_pr f.2.2.2 ++ [41, 40] else []))
def pz_zpr : List pz_F → List Int
  | [] => []
  | f :: fs => pz_zpr fs ++ pz_fpr f
def pz_zkn : List pz_F → Nat
  | [] => 0
  | f :: fs => pz_zkn fs + (pz_kn f.1 + ((pz_kd (f.2.1.1, 0, 0, 0, 0, 0, 0, 0)).length + (if f.2.2.1 then pz_kn f.2.2.2 else 0)))
def pz_fX (f : pz_F) (q e c : Nat) : List pz_Ev := pz_fl f.1 q e c ++ pz_evP f.2.1 (q + (pz_pr f.1).length) (c + pz_kn f.1) :: (if f.2.2.1 then pz_eo (pz_w1 f.2.1.1) (e + pz_ne f.1) :: (pz_fl f.2.2.2 (q + (pz_pr f.1).length + (pz_hd f.2.1).length + 1) (e + pz_ne f.1 + 2) (c + pz_kn f.1 + (pz_kd (f.2.1.1, 0, 0, 0, 0, 0, 0, 0)).length) ++ [pz_ec (pz_w1 f.2.1.1) (e + pz_ne f.1)]) else [])
abbrev pz_fw (f : pz_F) : Int := if f.2.2.1 then pz_w2 f.2.1.1 else pz_w1 f.2.1.1
def pz_zE : List pz_F → List pz_Ev
  | [] => []
  | f :: fs => pz_zE fs ++ pz_fX f (pz_zpr fs).length (pz_zE fs).length (pz_zkn fs) ++ [pz_eo (pz_fw f) ((pz_zE fs).length + pz_ne f.1)]
def pz_zO : List pz_F → List Nat
  | [] => []
  | f :: fs => (pz_zE fs ++ pz_fX f (pz_zpr fs).length (pz_zE fs).length (pz_zkn fs)).length :: pz_zO fs
def pz_zl : List pz_F → Nat
  | [] => 0
  | f :: fs => pz_zl fs + (if f.2.1.1 = 7 then 1 else 0)
def pz_fwf (f : pz_F) : Prop := pz_wf f.1 ∧ pz_wfP f.2.1 ∧ 6 ≤ f.2.1.1 ∧ (f.2.1.1 = 7 → f.2.2.1 = false) ∧ pz_wf f.2.2.2 ∧ (f.2.2.1 = false → f.2.2.2 = .leaf)
def pz_zwf : List pz_F → Prop
  | [] => True
  | f :: fs => pz_zwf fs ∧ pz_fwf f ∧ pz_zl fs + pz_ld f.1 ≤ 2 ∧ pz_zl fs + pz_ld f.2.2.2 ≤ 2 ∧ (f.2.1.1 = 7 → pz_zl fs < 2)
/-- where the reader is, as open blocks and the statements of the innermost -/
def pz_Z (ls : List Int) (fs : List pz_F) (t : pz_T) (E : List pz_Ev) (op : List Nat) (A : Nat) : Prop := pz_zwf fs ∧ pz_wf t ∧ pz_zl fs + pz_ld t ≤ 2 ∧ A ≤ ls.length ∧ ls.take A = pz_zpr fs ++ pz_pr t ∧ E = pz_zE fs ++ pz_fl t (pz_zpr fs).length (pz_zE fs).length (pz_zkn fs) ∧ op = pz_zO fs ∧ (pz_kds E).length ≤ 16 ∧ pz_c7 E ≤ 4
theorem pz_zO_lt : ∀ fs : List pz_F, ∀ o ∈ pz_zO fs, o < (pz_zE fs).length := by
  intro fs
  induction fs with
  | nil => intro o h; cases h
  | cons f fs ih =>
    intro o h
    rw [pz_zE, List.length_append, List.length_singleton]
    rcases List.mem_cons.mp h with h | h
    · rw [h]; exact Nat.lt_succ_self _
    · have := ih o h
      rw [List.length_append]
      omega
theorem pz_zkn_kds : ∀ fs : List pz_F, pz_zwf fs → (pz_kds (pz_zE fs)).length = pz_zkn fs := by
  intro fs
  induction fs with
  | nil => intro _; rfl
  | cons f fs ih =>
    intro h
    obtain ⟨h1, ⟨h2, h3, h4, h5, h6, h7⟩, -⟩ := h
    rw [pz_zE, pz_zkn, pz_kds_app', pz_kds_app', List.length_append, List.length_append, ih h1, pz_kds_cons, pz_kd_eo]
    unfold pz_fX
    rw [pz_kds_app', List.length_append, pz_kds_fl _ h2, pz_kds_cons, pz_kd_evP, List.length_append]
    by_cases hs : f.2.2.1 = true
    · rw [if_pos hs, if_pos hs, pz_kds_cons, pz_kd_eo, List.nil_append, pz_kds_app', List.length_append, pz_kds_fl _ h6, pz_kds_cons, pz_kd_ec]
      rfl
    · rw [if_neg hs, if_neg hs]
      rfl
theorem pz_zl_la : ∀ (fs : List pz_F), pz_zwf fs → ∀ F, pz_la (pz_zE fs ++ F) (pz_zO fs) = pz_zl fs := by
  intro fs
  induction fs with
  | nil => intro _ F; rfl
  | cons f fs ih =>
    intro h F
    obtain ⟨h1, ⟨h2, h3, h4, h5, h6, h7⟩, -⟩ := h
    rw [pz_la_app (pz_zO_lt (f :: fs)), pz_zE, pz_zO, pz_zl]
    have e1 : (pz_zE fs ++ pz_fX f (pz_zpr fs).length (pz_zE fs).length (pz_zkn fs) ++ [pz_eo (pz_fw f) ((pz_zE fs).length + pz_ne f.1)]).getD (pz_zE fs ++ pz_fX f (pz_zpr fs).length (pz_zE fs).length (pz_zkn fs)).length pz_d0 = pz_eo (pz_fw f) ((pz_zE fs).length + pz_ne f.1) := pz_getD_mid
    have e2 := ih h1 (pz_fX f (pz_zpr fs).length (pz_zE fs).length (pz_zkn fs) ++ [pz_eo (pz_fw f) ((pz_zE fs).length + pz_ne f.1)])
    rw [← List.append_assoc] at e2
    have hw : pz_fw f = 2 ↔ f.2.1.1 = 7 := by
      unfold pz_fw pz_w1 pz_w2
      constructor
      · intro q
        repeat' split at q
        all_goals first
          | assumption
          | omega
      · intro q
        rw [h5 q, if_neg (by decide), if_neg (by omega), if_pos q]
    unfold pz_la at *
    generalize hG : pz_zE fs ++ pz_fX f (pz_zpr fs).length (pz_zE fs).length (pz_zkn fs) ++ [pz_eo (pz_fw f) ((pz_zE fs).length + pz_ne f.1)] = G at *
    by_cases hw2 : f.2.1.1 = 7
    · rw [List.filter_cons_of_pos (p := fun e => decide ((G.getD e pz_d0).2.1 = 2)) (decide_eq_true (show (G.getD _ pz_d0).2.1 = 2 by rw [e1]; exact hw.2 hw2)), List.length_cons, e2, if_pos hw2]
    · rw [List.filter_cons_of_neg (p := fun e => decide ((G.getD e pz_d0).2.1 = 2)) (fun q => hw2 (hw.1 (by have q := of_decide_eq_true q; rw [e1] at q; exact q))), e2, if_neg hw2]
      rfl
theorem pz_take_app {ls x r : List Int} {A : Nat} (h : ls.drop A = x ++ r) (hA : A ≤ ls.length) : ls.take (A + x.length) = ls.take A ++ x := by
  have h2 : ls = ls.take A ++ (x ++ r) := by rw [← h, List.take_append_drop]
  have hl : (ls.take A).length = A := by rw [List.length_take]; omega
  have h3 : ls.take (A + x.length) = (ls.take A ++ (x ++ r)).take (A + x.length) := by rw [← h2]
  rw [h3, ← List.append_assoc, List.take_append_of_le_length (by rw [List.length_append, hl]; omega), List.take_of_length_le (by rw [List.length_append, hl]; omega)]
theorem pz_fX_len (f : pz_F) (q e c : Nat) : (pz_fX f q e c).length = pz_ne f.1 + 1 + (if f.2.2.1 then pz_ne f.2.2.2 + 2 else 0) := by
  unfold pz_fX
  rw [List.length_append, pz_fl_len, List.length_cons]
  by_cases hs : f.2.2.1 = true
  · rw [if_pos hs, if_pos hs, List.length_cons, List.length_append, pz_fl_len]
    simp
    omega
  · rw [if_neg hs, if_neg hs]
    simp
/-- how a turn changes open blocks and statements -/
def pz_zs (fs : List pz_F) (t : pz_T) (fs' : List pz_F) (t' : pz_T) : Prop :=
  (∃ P, pz_wfP P ∧ P.1 < 6 ∧ fs' = fs ∧ t' = pz_nd P t .leaf .leaf) ∨ (∃ P, pz_wfP P ∧ 6 ≤ P.1 ∧ fs' = (t, P, false, .leaf) :: fs ∧ t' = .leaf) ∨
  (∃ p P fs0, fs = (p, P, false, .leaf) :: fs0 ∧ P.1 ≠ 7 ∧ fs' = (p, P, true, t) :: fs0 ∧ t' = .leaf) ∨ (∃ p P fs0, fs = (p, P, false, .leaf) :: fs0 ∧ P.1 = 7 ∧ fs' = fs0 ∧ t' = pz_nd P p t .leaf) ∨
  (∃ p P a fs0, fs = (p, P, true, a) :: fs0 ∧ P.1 ≠ 7 ∧ fs' = fs0 ∧ t' = pz_nd P p a t)
theorem pz_Z_step {ls : List Int} {fs : List pz_F} {t : pz_T} {E : List pz_Ev} {op : List Nat} {A : Nat} {r : List pz_Ev × List Nat × Int} (hZ : pz_Z ls fs t E op A) (hA : A < ls.length) (h : pz_turn ls E op (A : Int) = .inr r) : ∃ (fs' : List pz_F) (t' : pz_T) (A' : Nat), r.2.2 = (A' : Int) ∧ pz_Z ls fs' t' r.1 r.2.1 A' ∧ pz_zs fs t fs' t' := by
  obtain ⟨z1, z2, z3, z4, z5, z6, z7, z8, z9⟩ := hZ
  have hkE : (pz_kds E).length = pz_zkn fs + pz_kn t := by rw [z6, pz_kds_app', List.length_append, pz_kds_fl t z2, pz_zkn_kds fs z1]
  have hlE : pz_la E op = pz_zl fs := by rw [z6, z7]; exact pz_zl_la fs z1 _
  have hnE : E.length = (pz_zE fs).length + pz_ne t := by rw [z6, List.length_append, pz_fl_len]
  have hAl : A = (pz_zpr fs).length + (pz_pr t).length := by
    have := congrArg List.length z5
    rw [List.length_take, List.length_append] at this
    omega
  rcases pz_turn_inv hA h with ⟨P, hP, hd, hle, hk, h7, h41, hr⟩ | ⟨o, op', hop, h41, hr⟩
  · rcases hr with ⟨h6, hr⟩ | ⟨h6, h40, hr⟩
    · subst hr
      refine ⟨fs, pz_nd P t .leaf .leaf, A + (pz_hd P).length, rfl, ⟨z1, ⟨z2, trivial, trivial, hP, fun _ => ⟨rfl, rfl⟩, fun _ => rfl⟩, ?_, hle, ?_, ?_, z7, ?_, ?_⟩, Or.inl ⟨P, hP, h6, rfl, rfl⟩⟩
      · rw [pz_ld_nd, if_neg (by omega)]
        show pz_zl fs + max (pz_ld t) 0 ≤ 2
        omega
      · rw [pz_take_app hd z4, z5, pz_pr_nd, if_neg (by omega), List.append_nil, List.append_assoc]
      · show E ++ [pz_evP P A (pz_kds E).length] = _
        rw [pz_fl_nd, if_neg (by omega), hkE, ← hAl, ← List.append_assoc, ← z6]
      · rw [pz_kds_app', List.length_append, pz_kds_cons, List.length_append, pz_kd_evP]
        show (pz_kds E).length + ((pz_kd (P.1, 0, 0, 0, 0, 0, 0, 0)).length + 0) ≤ 16
        omega
      · rw [pz_c7_app, pz_c7_cons]
        show pz_c7 E + ((if P.1 = 7 then 1 else 0) + 0) ≤ 4
        rw [if_neg (by omega)]
        omega
    · subst hr
      have hlt := pz_at_lt (ls := ls) (i := A + (pz_hd P).length) (by omega)
      have hd2 : ls.drop A = (pz_hd P ++ [40]) ++ ls.drop (A + (pz_hd P).length + 1) := by
        rw [hd, pz_drop_at hlt, h40, List.append_assoc]
        rfl
      refine ⟨(t, P, false, .leaf) :: fs, .leaf, A + (pz_hd P).length + 1, rfl, ⟨⟨z1, ⟨z2, hP, h6, fun _ => rfl, trivial, fun _ => rfl⟩, z3, ?_, ?_⟩, trivial, ?_, hlt, ?_, ?_, ?_, ?_, ?_⟩, Or.inr (Or.inl ⟨P, hP, h6, rfl, rfl⟩)⟩
      · show pz_zl fs + 0 ≤ 2
        omega
      · intro q
        have := (h7 q).2
        omega
      · show pz_zl fs + (if P.1 = 7 then 1 else 0) + 0 ≤ 2
        by_cases q : P.1 = 7
        · have := (h7 q).2
          rw [if_pos q]
          omega
        · rw [if_neg q]
          omega
      · have := pz_take_app hd2 z4
        rw [List.length_append, List.length_singleton, ← Nat.add_assoc] at this
        rw [this, z5]
        show _ = pz_zpr fs ++ (pz_pr t ++ (pz_hd P ++ 40 :: [])) ++ []
        simp
      · show E ++ [pz_evP P A (pz_kds E).length] ++ [pz_eo (pz_w1 P.1) E.length] = pz_zE fs ++ (pz_fl t (pz_zpr fs).length (pz_zE fs).length (pz_zkn fs) ++ pz_evP P ((pz_zpr fs).length + (pz_pr t).length) (pz_zkn fs + pz_kn t) :: []) ++ [pz_eo (pz_w1 P.1) ((pz_zE fs).length + pz_ne t)] ++ []
        rw [hkE, ← hAl, ← hnE, List.append_nil, ← List.append_assoc, ← z6]
      · show (E.length + 1) :: op = (pz_zE fs ++ pz_fX (t, P, false, .leaf) (pz_zpr fs).length (pz_zE fs).length (pz_zkn fs)).length :: pz_zO fs
        rw [← z7, List.length_append, pz_fX_len, hnE]
        rfl
      · rw [pz_kds_app', pz_kds_app', List.length_append, List.length_append, pz_kds_cons, List.length_append, pz_kd_evP]
        show (pz_kds E).length + ((pz_kd (P.1, 0, 0, 0, 0, 0, 0, 0)).length + 0) + 0 ≤ 16
        omega
      · rw [pz_c7_app, pz_c7_app, pz_c7_cons, pz_c7_cons]
        show pz_c7 E + ((if P.1 = 7 then 1 else 0) + 0) + (0 + 0) ≤ 4
        by_cases q : P.1 = 7
        · have := (h7 q).1
          rw [if_pos q]
          omega
        · rw [if_neg q]
          omega
  · rw [z7] at hop
    cases fs with
    | nil => cases hop
    | cons f fs =>
      obtain ⟨p, P, sn, a⟩ := f
      obtain ⟨y1, ⟨y2, y3, y4, y5, y6, y7⟩, y8, y9, y10⟩ := z1
      dsimp only at y2 y3 y4 y5 y6 y7 y8 y9 y10
      obtain ⟨ho1, ho2⟩ := List.cons.inj hop
      have hEo : E.getD o pz_d0 = pz_eo (pz_fw (p, P, sn, a)) ((pz_zE fs).length + pz_ne p) := by
        rw [z6, ← ho1, pz_zE, List.append_assoc]
        exact pz_getD_mid
      rw [hEo] at hr
      have hdA := pz_drop_at hA
      rw [h41] at hdA
      cases sn with
      | false =>
        have ha : a = .leaf := y7 rfl
        subst ha
        have hfw : pz_fw (p, P, false, .leaf) = pz_w1 P.1 := rfl
        rw [hfw] at hr
        by_cases h7 : P.1 = 7
        · have hw : pz_w1 P.1 = 2 := by rw [h7]; rfl
          rcases hr with ⟨q, -⟩ | ⟨-, hr⟩
          · exfalso
            have q : pz_w1 P.1 = 0 ∨ pz_w1 P.1 = 3 := q
            rw [hw] at q
            omega
          · have hr : r = (E ++ [pz_ec (pz_w1 P.1) ((pz_zE fs).length + pz_ne p)], op', ((A + 1 : Nat) : Int)) := hr
            subst hr
            refine ⟨fs, pz_nd P p t .leaf, A + 1, rfl, ⟨y1, ⟨y2, z2, trivial, y3, fun q => by omega, fun _ => rfl⟩, ?_, by omega, ?_, ?_, ho2.symm, ?_, ?_⟩, Or.inr (Or.inr (Or.inr (Or.inl ⟨p, P, fs, rfl, h7, rfl, rfl⟩)))⟩
            · rw [pz_ld_nd, if_pos h7]
              have z3 : pz_zl fs + (if P.1 = 7 then 1 else 0) + pz_ld t ≤ 2 := z3
              rw [if_pos h7] at z3
              show pz_zl fs + max (pz_ld p) (max (pz_ld t) 0 + 1) ≤ 2
              omega
            · have := pz_take_app (x := [41]) hdA z4
              rw [List.length_singleton] at this
              rw [this, z5, pz_pr_nd, if_pos y4, if_pos h7]
              show pz_zpr fs ++ (pz_pr p ++ (pz_hd P ++ 40 :: [])) ++ pz_pr t ++ [41] = _
              simp
            · show E ++ [pz_ec (pz_w1 P.1) ((pz_zE fs).length + pz_ne p)] = _
              rw [z6, pz_fl_nd, if_pos y4, if_pos h7]
              show pz_zE fs ++ (pz_fl p (pz_zpr fs).length (pz_zE fs).length (pz_zkn fs) ++ pz_evP P ((pz_zpr fs).length + (pz_pr p).length) (pz_zkn fs + pz_kn p) :: []) ++ [pz_eo (pz_w1 P.1) ((pz_zE fs).length + pz_ne p)] ++ pz_fl t (pz_zpr fs ++ (pz_pr p ++ (pz_hd P ++ 40 :: []))).length (pz_zE fs ++ pz_fX (p, P, false, .leaf) (pz_zpr fs).length (pz_zE fs).length (pz_zkn fs) ++ [pz_eo (pz_w1 P.1) ((pz_zE fs).length + pz_ne p)]).length (pz_zkn fs + (pz_kn p + ((pz_kd (P.1, 0, 0, 0, 0, 0, 0, 0)).length + 0))) ++ [pz_ec (pz_w1 P.1) ((pz_zE fs).length + pz_ne p)] = _
              rw [List.length_append (as := pz_zE fs ++ pz_fX (p, P, false, .leaf) (pz_zpr fs).length (pz_zE fs).length (pz_zkn fs)), List.length_append (as := pz_zE fs), pz_fX_len]
              simp only [List.length_append, List.length_cons, List.length_nil, List.append_assoc, List.cons_append, List.nil_append, Nat.add_assoc, Nat.zero_add, Nat.add_zero]
              rfl
            · rw [pz_kds_app', List.length_append]
              show (pz_kds E).length + 0 ≤ 16
              exact z8
            · rw [pz_c7_app]
              show pz_c7 E + 0 ≤ 4
              exact z9
        · have hw : pz_w1 P.1 = 0 ∨ pz_w1 P.1 = 3 := by
            show (if P.1 = 6 then (0 : Int) else if P.1 = 7 then 2 else 3) = 0 ∨ (if P.1 = 6 then (0 : Int) else if P.1 = 7 then 2 else 3) = 3
            by_cases h66 : P.1 = 6
            · rw [if_pos h66]; exact Or.inl rfl
            · rw [if_neg h66, if_neg h7]; exact Or.inr rfl
          rcases hr with ⟨-, q40, hr⟩ | ⟨q, -⟩
          · have hr : r = (E ++ [pz_ec (pz_w1 P.1) ((pz_zE fs).length + pz_ne p)] ++ [(9, if pz_w1 P.1 = 0 then 1 else 4, 0, 0, 0, 0, 0, (((pz_zE fs).length + pz_ne p : Nat) : Int))], (E.length + 1) :: op', ((A + 2 : Nat) : Int)) := hr
            have hw2 : (if pz_w1 P.1 = 0 then (1 : Int) else 4) = pz_w2 P.1 := by
              show (if (if P.1 = 6 then (0 : Int) else if P.1 = 7 then 2 else 3) = 0 then (1 : Int) else 4) = if P.1 = 6 then 1 else 4
              by_cases h66 : P.1 = 6
              · rw [if_pos h66, if_pos h66]; rfl
              · rw [if_neg h66, if_neg h66, if_neg h7]; rfl
            rw [hw2] at hr
            subst hr
            have hA1 : A + 1 < ls.length := pz_at_lt (by omega)
            refine ⟨(p, P, true, t) :: fs, .leaf, A + 2, rfl, ⟨⟨y1, ⟨y2, y3, y4, fun q => absurd q h7, z2, fun q => by cases q⟩, y8, ?_, y10⟩, trivial, ?_, by omega, ?_, ?_, ?_, ?_, ?_⟩, Or.inr (Or.inr (Or.inl ⟨p, P, fs, rfl, h7, rfl, rfl⟩))⟩
            · have z3 : pz_zl fs + (if P.1 = 7 then 1 else 0) + pz_ld t ≤ 2 := z3
              rw [if_neg h7] at z3
              show pz_zl fs + pz_ld t ≤ 2
              omega
            · show pz_zl fs + (if P.1 = 7 then 1 else 0) + 0 ≤ 2
              rw [if_neg h7]
              omega
            · have hd2 : ls.drop A = [41, 40] ++ ls.drop (A + 2) := by
                rw [hdA, pz_drop_at hA1, q40]
                rfl
              have := pz_take_app (x := [41, 40]) hd2 z4
              rw [show ([41, 40] : List Int).length = 2 from rfl] at this
              rw [this, z5]
              show pz_zpr fs ++ (pz_pr p ++ (pz_hd P ++ 40 :: [])) ++ pz_pr t ++ [41, 40] = pz_zpr fs ++ (pz_pr p ++ (pz_hd P ++ 40 :: (pz_pr t ++ [41, 40]))) ++ []
              simp
            · show E ++ [pz_ec (pz_w1 P.1) ((pz_zE fs).length + pz_ne p)] ++ [pz_eo (pz_w2 P.1) ((pz_zE fs).length + pz_ne p)] = pz_zE fs ++ pz_fX (p, P, true, t) (pz_zpr fs).length (pz_zE fs).length (pz_zkn fs) ++ [pz_eo (pz_w2 P.1) ((pz_zE fs).length + pz_ne p)] ++ []
              rw [z6]
              show pz_zE fs ++ (pz_fl p (pz_zpr fs).length (pz_zE fs).length (pz_zkn fs) ++ pz_evP P ((pz_zpr fs).length + (pz_pr p).length) (pz_zkn fs + pz_kn p) :: []) ++ [pz_eo (pz_w1 P.1) ((pz_zE fs).length + pz_ne p)] ++ pz_fl t (pz_zpr fs ++ (pz_pr p ++ (pz_hd P ++ 40 :: []))).length (pz_zE fs ++ pz_fX (p, P, false, .leaf) (pz_zpr fs).length (pz_zE fs).length (pz_zkn fs) ++ [pz_eo (pz_w1 P.1) ((pz_zE fs).length + pz_ne p)]).length (pz_zkn fs + (pz_kn p + ((pz_kd (P.1, 0, 0, 0, 0, 0, 0, 0)).length + 0))) ++ [pz_ec (pz_w1 P.1) ((pz_zE fs).length + pz_ne p)] ++ [pz_eo (pz_w2 P.1) ((pz_zE fs).length + pz_ne p)] = pz_zE fs ++ (pz_fl p (pz_zpr fs).length (pz_zE fs).length (pz_zkn fs) ++ pz_evP P ((pz_zpr fs).length + (pz_pr p).length) (pz_zkn fs + pz_kn p) :: (pz_eo (pz_w1 P.1) ((pz_zE fs).length + pz_ne p) :: (pz_fl t ((pz_zpr fs).length + (pz_pr p).length + (pz_hd P).length + 1) ((pz_zE fs).length + pz_ne p + 2) (pz_zkn fs + pz_kn p + (pz_kd (P.1, 0, 0, 0, 0, 0, 0, 0)).length) ++ [pz_ec (pz_w1 P.1) ((pz_zE fs).length + pz_ne p)]))) ++ [pz_eo (pz_w2 P.1) ((pz_zE fs).length + pz_ne p)] ++ []
              rw [List.length_append (as := pz_zE fs ++ pz_fX (p, P, false, .leaf) (pz_zpr fs).length (pz_zE fs).length (pz_zkn fs)), List.length_append (as := pz_zE fs), pz_fX_len]
              simp only [List.length_append, List.length_cons, List.length_nil, List.append_assoc, List.cons_append, List.nil_append, List.append_nil, Nat.add_assoc, Nat.zero_add, Nat.add_zero]
              rfl
            · show (E.length + 1) :: op' = (pz_zE fs ++ pz_fX (p, P, true, t) (pz_zpr fs).length (pz_zE fs).length (pz_zkn fs)).length :: pz_zO fs
              rw [← ho2, List.length_append, pz_fX_len]
              show (E.length + 1) :: pz_zO fs = ((pz_zE fs).length + (pz_ne p + 1 + (pz_ne t + 2))) :: pz_zO fs
              rw [hnE]
              show ((pz_zE fs ++ pz_fX (p, P, false, .leaf) (pz_zpr fs).length (pz_zE fs).length (pz_zkn fs) ++ [pz_eo (pz_w1 P.1) ((pz_zE fs).length + pz_ne p)]).length + pz_ne t + 1) :: pz_zO fs = _
              rw [List.length_append, List.length_append, pz_fX_len]
              congr 1
              show (pz_zE fs).length + (pz_ne p + 1 + 0) + 1 + pz_ne t + 1 = _
              omega
            · rw [pz_kds_app', pz_kds_app', List.length_append, List.length_append]
              show (pz_kds E).length + 0 + 0 ≤ 16
              exact z8
            · rw [pz_c7_app, pz_c7_app]
              show pz_c7 E + 0 + 0 ≤ 4
              exact z9
          · exfalso
            exact q hw
      | true =>
        have h7 : P.1 ≠ 7 := fun q => by have := y5 q; cases this
        have hw : pz_fw (p, P, true, a) = pz_w2 P.1 := rfl
        rw [hw] at hr
        rcases hr with ⟨q, -⟩ | ⟨-, hr⟩
        · exfalso
          have q : pz_w2 P.1 = 0 ∨ pz_w2 P.1 = 3 := q
          have : pz_w2 P.1 = 1 ∨ pz_w2 P.1 = 4 := by
            show (if P.1 = 6 then (1 : Int) else 4) = 1 ∨ (if P.1 = 6 then (1 : Int) else 4) = 4
            by_cases h66 : P.1 = 6
            · rw [if_pos h66]; exact Or.inl rfl
            · rw [if_neg h66]; exact Or.inr rfl
          omega
        · have hr : r = (E ++ [pz_ec (pz_w2 P.1) ((pz_zE fs).length + pz_ne p)], op', ((A + 1 : Nat) : Int)) := hr
          subst hr
          refine ⟨fs, pz_nd P p a t, A + 1, rfl, ⟨y1, ⟨y2, y6, z2, y3, fun q => by omega, fun q => absurd q h7⟩, ?_, by omega, ?_, ?_, ho2.symm, ?_, ?_⟩, Or.inr (Or.inr (Or.inr (Or.inr ⟨p, P, a, fs, rfl, h7, rfl, rfl⟩)))⟩
          · rw [pz_ld_nd, if_neg h7]
            have z3 : pz_zl fs + (if P.1 = 7 then 1 else 0) + pz_ld t ≤ 2 := z3
            rw [if_neg h7] at z3
            show pz_zl fs + max (pz_ld p) (max (pz_ld a) (pz_ld t) + 0) ≤ 2
            omega
          · have := pz_take_app (x := [41]) hdA z4
            rw [List.length_singleton] at this
            rw [this, z5, pz_pr_nd, if_pos y4, if_neg h7]
            show pz_zpr fs ++ (pz_pr p ++ (pz_hd P ++ 40 :: (pz_pr a ++ [41, 40]))) ++ pz_pr t ++ [41] = _
            simp
          · show E ++ [pz_ec (pz_w2 P.1) ((pz_zE fs).length + pz_ne p)] = _
            rw [z6, pz_fl_nd, if_pos y4, if_neg h7]
            show pz_zE fs ++ (pz_fl p (pz_zpr fs).length (pz_zE fs).length (pz_zkn fs) ++ pz_evP P ((pz_zpr fs).length + (pz_pr p).length) (pz_zkn fs + pz_kn p) :: (pz_eo (pz_w1 P.1) ((pz_zE fs).length + pz_ne p) :: (pz_fl a ((pz_zpr fs).length + (pz_pr p).length + (pz_hd P).length + 1) ((pz_zE fs).length + pz_ne p + 2) (pz_zkn fs + pz_kn p + (pz_kd (P.1, 0, 0, 0, 0, 0, 0, 0)).length) ++ [pz_ec (pz_w1 P.1) ((pz_zE fs).length + pz_ne p)]))) ++ [pz_eo (pz_w2 P.1) ((pz_zE fs).length + pz_ne p)] ++ pz_fl t (pz_zpr fs ++ (pz_pr p ++ (pz_hd P ++ 40 :: (pz_pr a ++ [41, 40])))).length (pz_zE fs ++ pz_fX (p, P, true, a) (pz_zpr fs).length (pz_zE fs).length (pz_zkn fs) ++ [pz_eo (pz_w2 P.1) ((pz_zE fs).length + pz_ne p)]).length (pz_zkn fs + (pz_kn p + ((pz_kd (P.1, 0, 0, 0, 0, 0, 0, 0)).length + pz_kn a))) ++ [pz_ec (pz_w2 P.1) ((pz_zE fs).length + pz_ne p)] = _
            rw [List.length_append (as := pz_zE fs ++ pz_fX (p, P, true, a) (pz_zpr fs).length (pz_zE fs).length (pz_zkn fs)), List.length_append (as := pz_zE fs), pz_fX_len]
            simp only [List.length_append, List.length_cons, List.length_nil, List.append_assoc, List.cons_append, List.nil_append, Nat.add_assoc, Nat.zero_add, Nat.add_zero, if_true]
            rw [show (pz_pr a).length + (1 + (1 + 1)) = 1 + ((pz_pr a).length + 2) by omega, show 1 + (pz_ne a + (2 + 1)) = 2 + (pz_ne a + 2) by omega]
          · rw [pz_kds_app', List.length_append]
            show (pz_kds E).length + 0 ≤ 16
            exact z8
          · rw [pz_c7_app]
            show pz_c7 E + 0 ≤ 4
            exact z9
/-- a text that is read is what is printed of a tree, its events the tree's -/
theorem pz_run_Z {ls : List Int} : ∀ (n : Nat) (fs : List pz_F) (t : pz_T) (E : List pz_Ev) (op : List Nat) (A : Nat) (R : List pz_Ev), pz_Z ls fs t E op A → pz_run ls n E op (A : Int) = .inr R → ∃ t, pz_wf t ∧ pz_ld t ≤ 2 ∧ ls = pz_pr t ∧ R = pz_fl t 0 0 0 ∧ pz_kn t ≤ 16 ∧ pz_nl t ≤ 4 := by
  intro n
  induction n with
  | zero => intro fs t E op A R _ h; cases h
  | succ n ih =>
    intro fs t E op A R hZ h
    unfold pz_run at h
    split at h
    · rename_i hlt
      cases hx : pz_turn ls E op (A : Int) with
      | inl q => rw [hx] at h; cases h
      | inr r =>
        rw [hx] at h
        obtain ⟨fs', t', A', e1, e2, -⟩ := pz_Z_step hZ (by omega) hx
        have h : pz_run ls n r.1 r.2.1 r.2.2 = .inr R := h
        rw [e1] at h
        exact ih fs' t' r.1 r.2.1 A' R e2 h
    · rename_i hge
      split at h
      · rename_i hop
        cases h
        obtain ⟨z1, z2, z3, z4, z5, z6, z7, z8, z9⟩ := hZ
        have hfs : fs = [] := by
          cases fs with
          | nil => rfl
          | cons f fs => rw [z7] at hop; cases hop
        subst hfs
        have hA : A = ls.length := by omega
        rw [hA, List.take_length] at z5
        have z6 : E = pz_fl t 0 0 0 := z6
        refine ⟨t, z2, by have z3 : 0 + pz_ld t ≤ 2 := z3; omega, z5, z6, ?_, ?_⟩
        · rw [← pz_kds_fl t z2 0 0 0, ← z6]; exact z8
        · rw [← pz_c7_fl t z2 0 0 0, ← z6]; exact z9
      · cases h
theorem pz_read_tree {ls : List Int} {R : List pz_Ev} (h : pz_read ls = .inr R) : ∃ t, pz_wf t ∧ pz_ld t ≤ 2 ∧ ls = pz_pr t ∧ R = pz_fl t 0 0 0 ∧ pz_kn t ≤ 16 ∧ pz_nl t ≤ 4 := by
  refine pz_run_Z (ls.length + 1) [] .leaf [] [] 0 R ⟨trivial, trivial, Nat.zero_le _, Nat.zero_le _, ?_, rfl, rfl, Nat.zero_le _, Nat.zero_le _⟩ h
  rw [List.take_zero]
  rfl
