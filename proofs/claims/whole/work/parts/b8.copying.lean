/-! the reference: the form by copying -/
/-- what a statement comes to -/
def cq_v (M : ab_M) (e d : Nat) : Int := if M 805 e = 4 then M 843 d else if M 805 e = 6 then 2 * M 808 e + M 844 e + M 845 e + 1 else if M 805 e = 7 then 3 * M 810 e + 2 * M 808 e + M 844 e + M 842 d + 1 else if M 805 e = 8 then M 844 e else M 842 d + M 808 e + M 810 e + 1
/-- an event, backwards -/
def cq_s (M : ab_M) (e : Nat) : ab_M :=
  if M 805 e = 10 then ab_up (ab_up (ab_up M 842 (M 797 27 + 1).toNat (if M 806 e = 2 then M 810 (M 812 e).toNat else M 842 (M 797 27).toNat)) 843 (M 797 27 + 1).toNat (if M 806 e = 3 then M 845 (M 812 e).toNat else M 843 (M 797 27).toNat)) 797 27 (M 797 27 + 1)
  else if M 805 e = 9 then ab_up (ab_up M 797 27 (M 797 27 - 1)) (if M 806 e = 1 ∨ M 806 e = 4 then 845 else 844) (M 812 e).toNat (M 842 (M 797 27).toNat)
  else ab_up M 842 (M 797 27).toNat (cq_v M e (M 797 27).toNat)
def cq_m (n : Nat) (M : ab_M) : Nat → ab_M
  | 0 => M
  | k + 1 => cq_s (cq_m n M k) (n - 1 - k)
def cq_0 (N : ab_M) : ab_M := ab_up (ab_up (ab_up N 797 27 0) 842 0 1) 843 0 1
theorem cq_s_fr (M : ab_M) (e : Nat) {o j : Nat} (h : o ≠ 842 ∧ o ≠ 843 ∧ o ≠ 844 ∧ o ≠ 845 ∧ ¬ (o = 797 ∧ j = 27)) : cq_s M e o j = M o j := by
  obtain ⟨h1, h2, h3, h4, h5⟩ := h
  unfold cq_s
  split
  · rw [up_ne h5, ab_up_o h2, ab_up_o h1]
  · split
    · rw [ab_up_o (by split <;> assumption), up_ne h5]
    · rw [ab_up_o h1]
theorem cq_m_fr (n : Nat) (M : ab_M) {o j : Nat} (h : o ≠ 842 ∧ o ≠ 843 ∧ o ≠ 844 ∧ o ≠ 845 ∧ ¬ (o = 797 ∧ j = 27)) : ∀ k, cq_m n M k o j = M o j
  | 0 => rfl
  | k + 1 => (cq_s_fr _ _ h).trans (cq_m_fr n M h k)
theorem cq_0_fr (N : ab_M) {o j : Nat} (h : o ≠ 842 ∧ o ≠ 843 ∧ o ≠ 844 ∧ o ≠ 845 ∧ ¬ (o = 797 ∧ j = 27)) : cq_0 N o j = N o j := by
  obtain ⟨h1, h2, h3, h4, h5⟩ := h
  unfold cq_0
  rw [ab_up_o h2, ab_up_o h1, up_ne h5]
theorem cq_m_f2 (n : Nat) (N : ab_M) {o : Nat} (h : o ≠ 842 ∧ o ≠ 843 ∧ o ≠ 844 ∧ o ≠ 845 ∧ o ≠ 797) (k j : Nat) : cq_m n (cq_0 N) k o j = N o j := by
  have h' : o ≠ 842 ∧ o ≠ 843 ∧ o ≠ 844 ∧ o ≠ 845 ∧ ¬ (o = 797 ∧ j = 27) := ⟨h.1, h.2.1, h.2.2.1, h.2.2.2.1, fun z => h.2.2.2.2 z.1⟩
  rw [cq_m_fr _ _ h', cq_0_fr _ h']
theorem cq_s_27 (M : ab_M) (e : Nat) : cq_s M e 797 27 = M 797 27 + (if M 805 e = 10 then 1 else if M 805 e = 9 then -1 else 0) := by
  unfold cq_s
  split
  · rw [ab_up_s]
  · split
    · rw [ab_up_o (by split <;> decide), ab_up_s]; rfl
    · rw [ab_up_o (by decide)]; omega
theorem cq_m_27 {N : ab_M} {n : Nat} (h0 : ev_dm N n = 0) : ∀ k, k ≤ n → cq_m n (cq_0 N) k 797 27 = ev_dm N (n - k)
  | 0, _ => by
    show cq_0 N 797 27 = ev_dm N n
    rw [h0]
    unfold cq_0
    rw [ab_up_o (by decide), ab_up_o (by decide), ab_up_s]
  | k + 1, hk => by
    show cq_s (cq_m n (cq_0 N) k) (n - 1 - k) 797 27 = _
    rw [cq_s_27, cq_m_27 h0 k (by omega), cq_m_f2 _ _ (by decide), show n - k = (n - 1 - k) + 1 by omega, show n - (k + 1) = n - 1 - k by omega]
    show ev_dm N (n - 1 - k) + (if N 805 (n - 1 - k) = 9 then 1 else if N 805 (n - 1 - k) = 10 then -1 else 0) + (if N 805 (n - 1 - k) = 10 then 1 else if N 805 (n - 1 - k) = 9 then -1 else 0) = _
    by_cases c : N 805 (n - 1 - k) = 9
    · rw [if_pos c, if_neg (by omega), if_pos c]; omega
    · rw [if_neg c, if_neg c]
      split <;> omega
/-- what the form by copying reads is in its bounds -/
def cq_A (N : ab_M) : Prop := ev_A N ∧ ev_dm N (N 797 10).toNat = 0 ∧ ∀ i : Nat, (i : Int) < N 797 10 → N 805 i = 10 → N 806 i = 2 → ab_ir (N 810 (N 812 i).toNat)
/-- the whole -/
def cq_P (M M' : ab_M) : Prop := ∃ N, pz_rdn M N ∧ M' = cq_m (N 797 10).toNat (cq_0 N) (N 797 10).toNat

def S_X9_copyStatement : ab_PT := fun a M K => match a with
  | [.inr (.inr (.inr (797, 9, 0))), .inr (.inl e)] => ((0 ≤ e ∧ e < 400) ∧ (0 ≤ M 797 27 ∧ M 797 27 ≤ 121) ∧ ab_ir (M 805 e.toNat) ∧ ab_ir (M 808 e.toNat) ∧ ab_ir (M 810 e.toNat)) ∧ (∀ Mx : ab_M, (Mx = ab_up M 842 (M 797 27).toNat (cq_v M e.toNat (M 797 27).toNat)) → K [] Mx)
  | _ => False
set_option maxRecDepth 20000 in
theorem vc_X9_copyStatement_0 (e : Int) (M : ab_M) (K : List ab_V → ab_M → Prop) (hS : ((0 ≤ e ∧ e < 400) ∧ (0 ≤ M 797 27 ∧ M 797 27 ≤ 121) ∧ ab_ir (M 805 e.toNat) ∧ ab_ir (M 808 e.toNat) ∧ ab_ir (M 810 e.toNat)) ∧ (∀ Mx : ab_M, (Mx = ab_up M 842 (M 797 27).toNat (cq_v M e.toNat (M 797 27).toNat)) → K [] Mx)) : (0 ≤ (M 797 27) ∧ (M 797 27) < ((130 : Nat) : Int)) ∧ (0 ≤ e ∧ e < ((400 : Nat) : Int)) ∧ (ab_ir (M 805 e.toNat)) ∧ (((M 805 e.toNat) = 4 → (0 ≤ (M 797 27) ∧ (M 797 27) < ((130 : Nat) : Int)) ∧ (0 ≤ (M 797 27) ∧ (M 797 27) < ((130 : Nat) : Int)) ∧ K [] (ab_up M 842 ((M 797 27).toNat) (M 843 ((M 797 27).toNat)))) ∧ (¬ (M 805 e.toNat) = 4 → (((M 805 e.toNat) = 6 → (0 ≤ e ∧ e < ((400 : Nat) : Int)) ∧ (ab_ir (M 808 e.toNat)) ∧ (0 ≤ e ∧ e < ((400 : Nat) : Int)) ∧ (0 ≤ e ∧ e < ((400 : Nat) : Int)) ∧ (0 ≤ (M 797 27) ∧ (M 797 27) < ((130 : Nat) : Int)) ∧ K [] (ab_up M 842 ((M 797 27).toNat) (((((2 : Int) * (M 808 e.toNat)) + (M 844 e.toNat)) + (M 845 e.toNat)) + ((1 : Nat) : Int)))) ∧ (¬ (M 805 e.toNat) = 6 → (((M 805 e.toNat) = 7 → (0 ≤ e ∧ e < ((400 : Nat) : Int)) ∧ (ab_ir (M 810 e.toNat)) ∧ (0 ≤ e ∧ e < ((400 : Nat) : Int)) ∧ (ab_ir (M 808 e.toNat)) ∧ (0 ≤ e ∧ e < ((400 : Nat) : Int)) ∧ (0 ≤ (M 797 27) ∧ (M 797 27) < ((130 : Nat) : Int)) ∧ K [] (ab_up M 842 ((M 797 27).toNat) ((((((3 : Int) * (M 810 e.toNat)) + ((2 : Int) * (M 808 e.toNat))) + (M 844 e.toNat)) + (M 842 ((M 797 27).toNat))) + ((1 : Nat) : Int)))) ∧ (¬ (M 805 e.toNat) = 7 → (((M 805 e.toNat) = 8 → (0 ≤ e ∧ e < ((400 : Nat) : Int)) ∧ (0 ≤ (M 797 27) ∧ (M 797 27) < ((130 : Nat) : Int)) ∧ K [] (ab_up M 842 ((M 797 27).toNat) (M 844 e.toNat))) ∧ (¬ (M 805 e.toNat) = 8 → (0 ≤ e ∧ e < ((400 : Nat) : Int)) ∧ (ab_ir (M 808 e.toNat)) ∧ (0 ≤ e ∧ e < ((400 : Nat) : Int)) ∧ (ab_ir (M 810 e.toNat)) ∧ (0 ≤ (M 797 27) ∧ (M 797 27) < ((130 : Nat) : Int)) ∧ K [] (ab_up M 842 ((M 797 27).toNat) ((((M 842 ((M 797 27).toNat)) + (M 808 e.toNat)) + (M 810 e.toNat)) + ((1 : Nat) : Int))))))))))) := by
  obtain ⟨⟨⟨ge0, ge1⟩, ⟨gd0, gd1⟩, g92, g95, g97⟩, gK⟩ := hS
  refine And.intro (by
    first
      | omega
      | exact ⟨by omega, by omega⟩
      | exact g92
      | exact g95
      | exact g97
      | exact ⟨g92, by decide, by decide⟩) ?_
  refine And.intro (by
    first
      | omega
      | exact ⟨by omega, by omega⟩
      | exact g92
      | exact g95
      | exact g97
      | exact ⟨g92, by decide, by decide⟩) ?_
  refine And.intro (by
    first
      | omega
      | exact ⟨by omega, by omega⟩
      | exact g92
      | exact g95
      | exact g97
      | exact ⟨g92, by decide, by decide⟩) ?_
  refine ⟨?_, ?_⟩
  · intro c16_4
    refine And.intro (by
      first
        | omega
        | exact ⟨by omega, by omega⟩
        | exact g92
        | exact g95
        | exact g97
        | exact ⟨g92, by decide, by decide⟩) ?_
    refine And.intro (by
      first
        | omega
        | exact ⟨by omega, by omega⟩
        | exact g92
        | exact g95
        | exact g97
        | exact ⟨g92, by decide, by decide⟩) ?_
    refine gK _ ?_
    unfold cq_v
    first
      | (rw [if_neg c16_4, if_neg c16_6, if_neg c16_7, if_neg c16_8] <;> rfl)
      | (rw [if_neg c16_4, if_neg c16_6, if_neg c16_7, if_pos c16_8] <;> rfl)
      | (rw [if_neg c16_4, if_neg c16_6, if_pos c16_7] <;> rfl)
      | (rw [if_neg c16_4, if_pos c16_6] <;> rfl)
      | (rw [if_pos c16_4] <;> rfl)
  · intro c16_4
    refine ⟨?_, ?_⟩
    · intro c16_6
      refine And.intro (by
        first
          | omega
          | exact ⟨by omega, by omega⟩
          | exact g92
          | exact g95
          | exact g97
          | exact ⟨g92, by decide, by decide⟩) ?_
      refine And.intro (by
        first
          | omega
          | exact ⟨by omega, by omega⟩
          | exact g92
          | exact g95
          | exact g97
          | exact ⟨g92, by decide, by decide⟩) ?_
      refine And.intro (by
        first
          | omega
          | exact ⟨by omega, by omega⟩
          | exact g92
          | exact g95
          | exact g97
          | exact ⟨g92, by decide, by decide⟩) ?_
      refine And.intro (by
        first
          | omega
          | exact ⟨by omega, by omega⟩
          | exact g92
          | exact g95
          | exact g97
          | exact ⟨g92, by decide, by decide⟩) ?_
      refine And.intro (by
        first
          | omega
          | exact ⟨by omega, by omega⟩
          | exact g92
          | exact g95
          | exact g97
          | exact ⟨g92, by decide, by decide⟩) ?_
      refine gK _ ?_
      unfold cq_v
      first
        | (rw [if_neg c16_4, if_neg c16_6, if_neg c16_7, if_neg c16_8] <;> rfl)
        | (rw [if_neg c16_4, if_neg c16_6, if_neg c16_7, if_pos c16_8] <;> rfl)
        | (rw [if_neg c16_4, if_neg c16_6, if_pos c16_7] <;> rfl)
        | (rw [if_neg c16_4, if_pos c16_6] <;> rfl)
        | (rw [if_pos c16_4] <;> rfl)
    · intro c16_6
      refine ⟨?_, ?_⟩
      · intro c16_7
        refine And.intro (by
          first
            | omega
            | exact ⟨by omega, by omega⟩
            | exact g92
            | exact g95
            | exact g97
            | exact ⟨g92, by decide, by decide⟩) ?_
        refine And.intro (by
          first
            | omega
            | exact ⟨by omega, by omega⟩
            | exact g92
            | exact g95
            | exact g97
            | exact ⟨g92, by decide, by decide⟩) ?_
        refine And.intro (by
          first
            | omega
            | exact ⟨by omega, by omega⟩
            | exact g92
            | exact g95
            | exact g97
            | exact ⟨g92, by decide, by decide⟩) ?_
        refine And.intro (by
          first
            | omega
            | exact ⟨by omega, by omega⟩
            | exact g92
            | exact g95
            | exact g97
            | exact ⟨g92, by decide, by decide⟩) ?_
        refine And.intro (by
          first
            | omega
            | exact ⟨by omega, by omega⟩
            | exact g92
            | exact g95
            | exact g97
            | exact ⟨g92, by decide, by decide⟩) ?_
        refine And.intro (by
          first
            | omega
            | exact ⟨by omega, by omega⟩
            | exact g92
            | exact g95
            | exact g97
            | exact ⟨g92, by decide, by decide⟩) ?_
        refine gK _ ?_
        unfold cq_v
        first
          | (rw [if_neg c16_4, if_neg c16_6, if_neg c16_7, if_neg c16_8] <;> rfl)
          | (rw [if_neg c16_4, if_neg c16_6, if_neg c16_7, if_pos c16_8] <;> rfl)
          | (rw [if_neg c16_4, if_neg c16_6, if_pos c16_7] <;> rfl)
          | (rw [if_neg c16_4, if_pos c16_6] <;> rfl)
          | (rw [if_pos c16_4] <;> rfl)
      · intro c16_7
        refine ⟨?_, ?_⟩
        · intro c16_8
          refine And.intro (by
            first
              | omega
              | exact ⟨by omega, by omega⟩
              | exact g92
              | exact g95
              | exact g97
              | exact ⟨g92, by decide, by decide⟩) ?_
          refine And.intro (by
            first
              | omega
              | exact ⟨by omega, by omega⟩
              | exact g92
              | exact g95
              | exact g97
              | exact ⟨g92, by decide, by decide⟩) ?_
          refine gK _ ?_
          unfold cq_v
          first
            | (rw [if_neg c16_4, if_neg c16_6, if_neg c16_7, if_neg c16_8] <;> rfl)
            | (rw [if_neg c16_4, if_neg c16_6, if_neg c16_7, if_pos c16_8] <;> rfl)
            | (rw [if_neg c16_4, if_neg c16_6, if_pos c16_7] <;> rfl)
            | (rw [if_neg c16_4, if_pos c16_6] <;> rfl)
            | (rw [if_pos c16_4] <;> rfl)
        · intro c16_8
          refine And.intro (by
            first
              | omega
              | exact ⟨by omega, by omega⟩
              | exact g92
              | exact g95
              | exact g97
              | exact ⟨g92, by decide, by decide⟩) ?_
          refine And.intro (by
            first
              | omega
              | exact ⟨by omega, by omega⟩
              | exact g92
              | exact g95
              | exact g97
              | exact ⟨g92, by decide, by decide⟩) ?_
          refine And.intro (by
            first
              | omega
              | exact ⟨by omega, by omega⟩
              | exact g92
              | exact g95
              | exact g97
              | exact ⟨g92, by decide, by decide⟩) ?_
          refine And.intro (by
            first
              | omega
              | exact ⟨by omega, by omega⟩
              | exact g92
              | exact g95
              | exact g97
              | exact ⟨g92, by decide, by decide⟩) ?_
          refine And.intro (by
            first
              | omega
              | exact ⟨by omega, by omega⟩
              | exact g92
              | exact g95
              | exact g97
              | exact ⟨g92, by decide, by decide⟩) ?_
          refine gK _ ?_
          unfold cq_v
          first
            | (rw [if_neg c16_4, if_neg c16_6, if_neg c16_7, if_neg c16_8] <;> rfl)
            | (rw [if_neg c16_4, if_neg c16_6, if_neg c16_7, if_pos c16_8] <;> rfl)
            | (rw [if_neg c16_4, if_neg c16_6, if_pos c16_7] <;> rfl)
            | (rw [if_neg c16_4, if_pos c16_6] <;> rfl)
            | (rw [if_pos c16_4] <;> rfl)

set_option maxRecDepth 20000 in
set_option maxHeartbeats 1000000 in
theorem ok_X9_copyStatement (E : ab_E) : ab_Ok E 1 129 S_X9_copyStatement := by
  refine ab_mk rq_X9_copyStatement tk_X9_copyStatement (rt := 0) (rfl) (cuts := []) (G := []) (fun g hg => by cases hg) (by decide) 158 rfl ?_
  intro a M K wd wa hS
  unfold S_X9_copyStatement at hS
  split at hS
  ·
    rename_i e
    refine ⟨Nat.le_of_ble_eq_true rfl, fun _ _ _ _ _ => False, ?_, ?_⟩
    · exact vc_X9_copyStatement_0 e M K  hS
    · exact fun _ _ _ _ _ h => h.elim
  · exact hS.elim
def S_X9_copied : ab_PT := fun a M K => match a with
  | [.inr (.inr (.inr (797, 9, 0)))] => (pz_PR M ∧ ∀ N, pz_rdn M N → cq_A N) ∧ (∀ rx : Int, ∀ Mx : ab_M, (cq_P M Mx ∧ rx = Mx 842 0) → K [Xl rx] Mx)
  | _ => False
set_option maxRecDepth 20000 in
theorem vc_X9_copied_0  (M : ab_M) (K : List ab_V → ab_M → Prop) (hS : (pz_PR M ∧ ∀ N, pz_rdn M N → cq_A N) ∧ (∀ rx : Int, ∀ Mx : ab_M, (cq_P M Mx ∧ rx = Mx 842 0) → K [Xl rx] Mx)) : (pz_PR M) ∧ (∀ M1 : ab_M, (pz_rdn M M1) → (0 ≤ (0 : Int) ∧ (0 : Int) < ((130 : Nat) : Int)) ∧ (0 ≤ (0 : Int) ∧ (0 : Int) < ((130 : Nat) : Int)) ∧ (∃ n', ((n' = (((M1 797 10) - (1 : Int)) + 1).toNat ∧ -1 ≤ ((M1 797 10) - (1 : Int)) ∧ ∃ N : ab_M, pz_rdn M N ∧ ((M1 797 10) - (1 : Int)) < N 797 10 ∧ (ab_up (ab_up (ab_up M1 797 27 (0 : Int)) 842 0 ((1 : Nat) : Int)) 843 0 ((1 : Nat) : Int)) = cq_m (N 797 10).toNat (cq_0 N) (N 797 10 - 1 - ((M1 797 10) - (1 : Int))).toNat)))) := by
  obtain ⟨⟨gP, gA⟩, gK⟩ := hS
  refine And.intro (by
    first
      | omega
      | exact gP
      | (have := (ae (by omega)).2.2.2.2.2.2 (by omega) (by assumption); exact this)
      | (obtain ⟨x1, x2, x3, x4, x5, x6, x7⟩ := ae (by omega); clear x7; first | exact ⟨by omega, by omega⟩ | exact ⟨⟨by omega, by omega⟩, by omega, by omega⟩)
      | exact ⟨by omega, by omega⟩) ?_
  intro M1 hM1
  refine And.intro (by
    first
      | omega
      | exact gP
      | (have := (ae (by omega)).2.2.2.2.2.2 (by omega) (by assumption); exact this)
      | (obtain ⟨x1, x2, x3, x4, x5, x6, x7⟩ := ae (by omega); clear x7; first | exact ⟨by omega, by omega⟩ | exact ⟨⟨by omega, by omega⟩, by omega, by omega⟩)
      | exact ⟨by omega, by omega⟩) ?_
  refine And.intro (by
    first
      | omega
      | exact gP
      | (have := (ae (by omega)).2.2.2.2.2.2 (by omega) (by assumption); exact this)
      | (obtain ⟨x1, x2, x3, x4, x5, x6, x7⟩ := ae (by omega); clear x7; first | exact ⟨by omega, by omega⟩ | exact ⟨⟨by omega, by omega⟩, by omega, by omega⟩)
      | exact ⟨by omega, by omega⟩) ?_
  refine ⟨_, rfl, ?_, M1, hM1, by omega, ?_⟩
  · have := (gA M1 hM1).1.1; omega
  rw [show (M1 797 10 - 1 - (M1 797 10 - 1)).toNat = 0 by omega]
  rfl

set_option maxRecDepth 20000 in
theorem vc_X9_copied_30  (M : ab_M) (K : List ab_V → ab_M → Prop) (hS : (pz_PR M ∧ ∀ N, pz_rdn M N → cq_A N) ∧ (∀ rx : Int, ∀ Mx : ab_M, (cq_P M Mx ∧ rx = Mx 842 0) → K [Xl rx] Mx)) (n : Nat) (e : Int) (M1 : ab_M) (hI : n = (e + 1).toNat ∧ -1 ≤ e ∧ ∃ N : ab_M, pz_rdn M N ∧ e < N 797 10 ∧ M1 = cq_m (N 797 10).toNat (cq_0 N) (N 797 10 - 1 - e).toNat) : (ab_ir e) ∧ ((e < 0 → (0 ≤ (0 : Int) ∧ (0 : Int) < ((130 : Nat) : Int)) ∧ K [Xl (M1 842 0)] M1) ∧ (0 ≤ e → (0 ≤ e ∧ e < ((400 : Nat) : Int)) ∧ (0 ≤ e ∧ e < ((400 : Nat) : Int)) ∧ (-128 ≤ (10 : Int) ∧ (10 : Int) < 128) ∧ (ab_ir (M1 805 e.toNat) ∧ ab_ir (10 : Int)) ∧ ((¬ (M1 805 e.toNat) = (10 : Int) → (0 ≤ e ∧ e < ((400 : Nat) : Int)) ∧ (-128 ≤ (9 : Int) ∧ (9 : Int) < 128) ∧ (ab_ir (M1 805 e.toNat) ∧ ab_ir (9 : Int)) ∧ ((¬ (M1 805 e.toNat) = (9 : Int) → ((0 ≤ e ∧ e < 400) ∧ (0 ≤ M1 797 27 ∧ M1 797 27 ≤ 121) ∧ ab_ir (M1 805 e.toNat) ∧ ab_ir (M1 808 e.toNat) ∧ ab_ir (M1 810 e.toNat)) ∧ (∀ M227 : ab_M, (M227 = ab_up M1 842 (M1 797 27).toNat (cq_v M1 e.toNat (M1 797 27).toNat)) → (∃ n', n' < n ∧ ((n' = ((e + (-1)) + 1).toNat ∧ -1 ≤ (e + (-1)) ∧ ∃ N : ab_M, pz_rdn M N ∧ (e + (-1)) < N 797 10 ∧ M227 = cq_m (N 797 10).toNat (cq_0 N) (N 797 10 - 1 - (e + (-1))).toNat))))) ∧ ((M1 805 e.toNat) = (9 : Int) → (0 ≤ e ∧ e < ((400 : Nat) : Int)) ∧ (ab_ir (M1 806 e.toNat) ∧ ab_ir (1 : Int)) ∧ (((M1 806 e.toNat) = (1 : Int) → (0 ≤ (((M1 797 27) - (1 : Int)) + (1 : Int)) ∧ (((M1 797 27) - (1 : Int)) + (1 : Int)) < ((130 : Nat) : Int)) ∧ (0 ≤ (M1 812 e.toNat) ∧ (M1 812 e.toNat) < ((400 : Nat) : Int)) ∧ (∃ n', n' < n ∧ ((n' = ((e + (-1)) + 1).toNat ∧ -1 ≤ (e + (-1)) ∧ ∃ N : ab_M, pz_rdn M N ∧ (e + (-1)) < N 797 10 ∧ (ab_up (ab_up M1 797 27 ((M1 797 27) - (1 : Int))) 845 ((M1 812 e.toNat).toNat) (M1 842 ((((M1 797 27) - (1 : Int)) + (1 : Int)).toNat))) = cq_m (N 797 10).toNat (cq_0 N) (N 797 10 - 1 - (e + (-1))).toNat)))) ∧ (¬ (M1 806 e.toNat) = (1 : Int) → (0 ≤ e ∧ e < ((400 : Nat) : Int)) ∧ (ab_ir (M1 806 e.toNat) ∧ ab_ir (4 : Int)) ∧ ((¬ (M1 806 e.toNat) = (4 : Int) → (0 ≤ (((M1 797 27) - (1 : Int)) + (1 : Int)) ∧ (((M1 797 27) - (1 : Int)) + (1 : Int)) < ((130 : Nat) : Int)) ∧ (0 ≤ (M1 812 e.toNat) ∧ (M1 812 e.toNat) < ((400 : Nat) : Int)) ∧ (∃ n', n' < n ∧ ((n' = ((e + (-1)) + 1).toNat ∧ -1 ≤ (e + (-1)) ∧ ∃ N : ab_M, pz_rdn M N ∧ (e + (-1)) < N 797 10 ∧ (ab_up (ab_up M1 797 27 ((M1 797 27) - (1 : Int))) 844 ((M1 812 e.toNat).toNat) (M1 842 ((((M1 797 27) - (1 : Int)) + (1 : Int)).toNat))) = cq_m (N 797 10).toNat (cq_0 N) (N 797 10 - 1 - (e + (-1))).toNat)))) ∧ ((M1 806 e.toNat) = (4 : Int) → (0 ≤ (((M1 797 27) - (1 : Int)) + (1 : Int)) ∧ (((M1 797 27) - (1 : Int)) + (1 : Int)) < ((130 : Nat) : Int)) ∧ (0 ≤ (M1 812 e.toNat) ∧ (M1 812 e.toNat) < ((400 : Nat) : Int)) ∧ (∃ n', n' < n ∧ ((n' = ((e + (-1)) + 1).toNat ∧ -1 ≤ (e + (-1)) ∧ ∃ N : ab_M, pz_rdn M N ∧ (e + (-1)) < N 797 10 ∧ (ab_up (ab_up M1 797 27 ((M1 797 27) - (1 : Int))) 845 ((M1 812 e.toNat).toNat) (M1 842 ((((M1 797 27) - (1 : Int)) + (1 : Int)).toNat))) = cq_m (N 797 10).toNat (cq_0 N) (N 797 10 - 1 - (e + (-1))).toNat)))))))))) ∧ ((M1 805 e.toNat) = (10 : Int) → (0 ≤ e ∧ e < ((400 : Nat) : Int)) ∧ (ab_ir (M1 806 e.toNat) ∧ ab_ir (2 : Int)) ∧ ((¬ (M1 806 e.toNat) = (2 : Int) → (0 ≤ (M1 797 27) ∧ (M1 797 27) < ((130 : Nat) : Int)) ∧ (0 ≤ ((M1 797 27) + (1 : Int)) ∧ ((M1 797 27) + (1 : Int)) < ((130 : Nat) : Int)) ∧ (0 ≤ e ∧ e < ((400 : Nat) : Int)) ∧ (ab_ir (M1 806 e.toNat) ∧ ab_ir (3 : Int)) ∧ ((¬ (M1 806 e.toNat) = (3 : Int) → (0 ≤ (M1 797 27) ∧ (M1 797 27) < ((130 : Nat) : Int)) ∧ (0 ≤ ((M1 797 27) + (1 : Int)) ∧ ((M1 797 27) + (1 : Int)) < ((130 : Nat) : Int)) ∧ (∃ n', n' < n ∧ ((n' = ((e + (-1)) + 1).toNat ∧ -1 ≤ (e + (-1)) ∧ ∃ N : ab_M, pz_rdn M N ∧ (e + (-1)) < N 797 10 ∧ (ab_up (ab_up (ab_up M1 842 (((M1 797 27) + (1 : Int)).toNat) (M1 842 ((M1 797 27).toNat))) 843 (((M1 797 27) + (1 : Int)).toNat) (M1 843 ((M1 797 27).toNat))) 797 27 ((M1 797 27) + (1 : Int))) = cq_m (N 797 10).toNat (cq_0 N) (N 797 10 - 1 - (e + (-1))).toNat)))) ∧ ((M1 806 e.toNat) = (3 : Int) → (0 ≤ (M1 812 e.toNat) ∧ (M1 812 e.toNat) < ((400 : Nat) : Int)) ∧ (0 ≤ ((M1 797 27) + (1 : Int)) ∧ ((M1 797 27) + (1 : Int)) < ((130 : Nat) : Int)) ∧ (∃ n', n' < n ∧ ((n' = ((e + (-1)) + 1).toNat ∧ -1 ≤ (e + (-1)) ∧ ∃ N : ab_M, pz_rdn M N ∧ (e + (-1)) < N 797 10 ∧ (ab_up (ab_up (ab_up M1 842 (((M1 797 27) + (1 : Int)).toNat) (M1 842 ((M1 797 27).toNat))) 843 (((M1 797 27) + (1 : Int)).toNat) (M1 845 ((M1 812 e.toNat).toNat))) 797 27 ((M1 797 27) + (1 : Int))) = cq_m (N 797 10).toNat (cq_0 N) (N 797 10 - 1 - (e + (-1))).toNat)))))) ∧ ((M1 806 e.toNat) = (2 : Int) → (0 ≤ (M1 812 e.toNat) ∧ (M1 812 e.toNat) < ((400 : Nat) : Int)) ∧ (ab_ir (M1 810 ((M1 812 e.toNat).toNat))) ∧ (0 ≤ ((M1 797 27) + (1 : Int)) ∧ ((M1 797 27) + (1 : Int)) < ((130 : Nat) : Int)) ∧ (0 ≤ e ∧ e < ((400 : Nat) : Int)) ∧ (ab_ir (M1 806 e.toNat) ∧ ab_ir (3 : Int)) ∧ ((¬ (M1 806 e.toNat) = (3 : Int) → (0 ≤ (M1 797 27) ∧ (M1 797 27) < ((130 : Nat) : Int)) ∧ (0 ≤ ((M1 797 27) + (1 : Int)) ∧ ((M1 797 27) + (1 : Int)) < ((130 : Nat) : Int)) ∧ (∃ n', n' < n ∧ ((n' = ((e + (-1)) + 1).toNat ∧ -1 ≤ (e + (-1)) ∧ ∃ N : ab_M, pz_rdn M N ∧ (e + (-1)) < N 797 10 ∧ (ab_up (ab_up (ab_up M1 842 (((M1 797 27) + (1 : Int)).toNat) (M1 810 ((M1 812 e.toNat).toNat))) 843 (((M1 797 27) + (1 : Int)).toNat) (M1 843 ((M1 797 27).toNat))) 797 27 ((M1 797 27) + (1 : Int))) = cq_m (N 797 10).toNat (cq_0 N) (N 797 10 - 1 - (e + (-1))).toNat)))) ∧ ((M1 806 e.toNat) = (3 : Int) → (0 ≤ (M1 812 e.toNat) ∧ (M1 812 e.toNat) < ((400 : Nat) : Int)) ∧ (0 ≤ ((M1 797 27) + (1 : Int)) ∧ ((M1 797 27) + (1 : Int)) < ((130 : Nat) : Int)) ∧ (∃ n', n' < n ∧ ((n' = ((e + (-1)) + 1).toNat ∧ -1 ≤ (e + (-1)) ∧ ∃ N : ab_M, pz_rdn M N ∧ (e + (-1)) < N 797 10 ∧ (ab_up (ab_up (ab_up M1 842 (((M1 797 27) + (1 : Int)).toNat) (M1 810 ((M1 812 e.toNat).toNat))) 843 (((M1 797 27) + (1 : Int)).toNat) (M1 845 ((M1 812 e.toNat).toNat))) 797 27 ((M1 797 27) + (1 : Int))) = cq_m (N 797 10).toNat (cq_0 N) (N 797 10 - 1 - (e + (-1))).toNat))))))))))) := by
  obtain ⟨hn, he0, N, hr, hle, hM1⟩ := hI
  obtain ⟨⟨gP, gA⟩, gK⟩ := hS
  obtain ⟨hA, h00, h97⟩ := gA N hr
  obtain ⟨a0, a1, a2, -⟩ := id hA
  have fr : ∀ o j : Nat, o ≠ 842 ∧ o ≠ 843 ∧ o ≠ 844 ∧ o ≠ 845 ∧ o ≠ 797 → M1 o j = N o j := fun o j h => by rw [hM1]; exact cq_m_f2 _ _ h _ _
  have d27 : M1 797 27 = ev_dm N (e + 1).toNat := by
    rw [hM1, cq_m_27 h00 _ (by omega)]
    congr 1
    omega
  have dd := a2 (e + 1).toNat (by omega)
  rw [← d27] at dd
  have ae : 0 ≤ e → (0 ≤ M1 805 e.toNat ∧ M1 805 e.toNat ≤ 10) ∧ (0 ≤ M1 806 e.toNat ∧ M1 806 e.toNat ≤ 4) ∧ (9 ≤ M1 805 e.toNat → 0 ≤ M1 812 e.toNat ∧ M1 812 e.toNat < e) ∧ (M1 805 e.toNat ≤ 8 → (0 ≤ M1 808 e.toNat ∧ M1 808 e.toNat ≤ 640) ∧ (0 ≤ M1 810 e.toNat ∧ M1 810 e.toNat ≤ 640)) ∧ (M1 805 e.toNat = 10 → M1 797 27 ≤ 119) ∧ (M1 805 e.toNat = 9 → 1 ≤ M1 797 27) ∧ (M1 805 e.toNat = 10 → M1 806 e.toNat = 2 → ab_ir (M1 810 (M1 812 e.toNat).toNat)) := fun q => by
    rw [fr 805 _ (by decide), fr 806 _ (by decide), fr 812 _ (by decide), fr 808 _ (by decide), fr 810 _ (by decide), fr 810 _ (by decide), d27, show (e + 1).toNat = e.toNat + 1 by omega]
    obtain ⟨x1, x2, x3, x4, x5, -⟩ := a1 e.toNat (by omega)
    have y := a2 e.toNat (by omega)
    have z : ev_dm N (e.toNat + 1) = ev_dm N e.toNat + (if N 805 e.toNat = 9 then 1 else if N 805 e.toNat = 10 then -1 else 0) := rfl
    refine ⟨x1, x2, fun w => by have := x4 w; omega, x5, fun w => ?_, fun w => ?_, h97 _ (by omega)⟩
    · rw [z, if_neg (by omega), if_pos w]; omega
    · rw [z, if_pos w]; omega
  have hnext : 0 ≤ e → cq_m (N 797 10).toNat (cq_0 N) (N 797 10 - 1 - (e - 1)).toNat = cq_s M1 e.toNat := fun q => by
    rw [show (N 797 10 - 1 - (e - 1)).toNat = (N 797 10 - 1 - e).toNat + 1 by omega]
    show cq_s (cq_m (N 797 10).toNat (cq_0 N) (N 797 10 - 1 - e).toNat) ((N 797 10).toNat - 1 - (N 797 10 - 1 - e).toNat) = _
    rw [← hM1, show (N 797 10).toNat - 1 - (N 797 10 - 1 - e).toNat = e.toNat by omega]
  refine And.intro (by
    first
      | omega
      | exact gP
      | (have := (ae (by omega)).2.2.2.2.2.2 (by omega) (by assumption); exact this)
      | (obtain ⟨x1, x2, x3, x4, x5, x6, x7⟩ := ae (by omega); clear x7; first | exact ⟨by omega, by omega⟩ | exact ⟨⟨by omega, by omega⟩, by omega, by omega⟩)
      | exact ⟨by omega, by omega⟩) ?_
  refine ⟨?_, ?_⟩
  · intro c31
    refine And.intro (by
      first
        | omega
        | exact gP
        | (have := (ae (by omega)).2.2.2.2.2.2 (by omega) (by assumption); exact this)
        | (obtain ⟨x1, x2, x3, x4, x5, x6, x7⟩ := ae (by omega); clear x7; first | exact ⟨by omega, by omega⟩ | exact ⟨⟨by omega, by omega⟩, by omega, by omega⟩)
        | exact ⟨by omega, by omega⟩) ?_
    refine gK _ _ ⟨⟨N, hr, ?_⟩, rfl⟩
    rw [hM1]
    congr 1
    omega
  · intro c31
    refine And.intro (by
      first
        | omega
        | exact gP
        | (have := (ae (by omega)).2.2.2.2.2.2 (by omega) (by assumption); exact this)
        | (obtain ⟨x1, x2, x3, x4, x5, x6, x7⟩ := ae (by omega); clear x7; first | exact ⟨by omega, by omega⟩ | exact ⟨⟨by omega, by omega⟩, by omega, by omega⟩)
        | exact ⟨by omega, by omega⟩) ?_
    refine And.intro (by
      first
        | omega
        | exact gP
        | (have := (ae (by omega)).2.2.2.2.2.2 (by omega) (by assumption); exact this)
        | (obtain ⟨x1, x2, x3, x4, x5, x6, x7⟩ := ae (by omega); clear x7; first | exact ⟨by omega, by omega⟩ | exact ⟨⟨by omega, by omega⟩, by omega, by omega⟩)
        | exact ⟨by omega, by omega⟩) ?_
    refine And.intro (by
      first
        | omega
        | exact gP
        | (have := (ae (by omega)).2.2.2.2.2.2 (by omega) (by assumption); exact this)
        | (obtain ⟨x1, x2, x3, x4, x5, x6, x7⟩ := ae (by omega); clear x7; first | exact ⟨by omega, by omega⟩ | exact ⟨⟨by omega, by omega⟩, by omega, by omega⟩)
        | exact ⟨by omega, by omega⟩) ?_
    refine And.intro (by
      first
        | omega
        | exact gP
        | (have := (ae (by omega)).2.2.2.2.2.2 (by omega) (by assumption); exact this)
        | (obtain ⟨x1, x2, x3, x4, x5, x6, x7⟩ := ae (by omega); clear x7; first | exact ⟨by omega, by omega⟩ | exact ⟨⟨by omega, by omega⟩, by omega, by omega⟩)
        | exact ⟨by omega, by omega⟩) ?_
    refine ⟨?_, ?_⟩
    · intro c49
      refine And.intro (by
        first
          | omega
          | exact gP
          | (have := (ae (by omega)).2.2.2.2.2.2 (by omega) (by assumption); exact this)
          | (obtain ⟨x1, x2, x3, x4, x5, x6, x7⟩ := ae (by omega); clear x7; first | exact ⟨by omega, by omega⟩ | exact ⟨⟨by omega, by omega⟩, by omega, by omega⟩)
          | exact ⟨by omega, by omega⟩) ?_
      refine And.intro (by
        first
          | omega
          | exact gP
          | (have := (ae (by omega)).2.2.2.2.2.2 (by omega) (by assumption); exact this)
          | (obtain ⟨x1, x2, x3, x4, x5, x6, x7⟩ := ae (by omega); clear x7; first | exact ⟨by omega, by omega⟩ | exact ⟨⟨by omega, by omega⟩, by omega, by omega⟩)
          | exact ⟨by omega, by omega⟩) ?_
      refine And.intro (by
        first
          | omega
          | exact gP
          | (have := (ae (by omega)).2.2.2.2.2.2 (by omega) (by assumption); exact this)
          | (obtain ⟨x1, x2, x3, x4, x5, x6, x7⟩ := ae (by omega); clear x7; first | exact ⟨by omega, by omega⟩ | exact ⟨⟨by omega, by omega⟩, by omega, by omega⟩)
          | exact ⟨by omega, by omega⟩) ?_
      refine ⟨?_, ?_⟩
      · intro c152
        refine And.intro (by
          obtain ⟨x1, x2, x3, x4, x5, x6, x7⟩ := ae (by omega)
          clear x7
          exact ⟨⟨by omega, by omega⟩, ⟨by omega, by omega⟩, ⟨by omega, by omega⟩, ⟨by omega, by omega⟩, ⟨by omega, by omega⟩⟩) ?_
        intro M227 hM227
        refine ⟨_, ?_, rfl, by omega, N, hr, by omega, ?_⟩
        · omega
        rw [show e + -1 = e - 1 by omega, hnext (by omega)]
        unfold cq_s
        rw [if_neg c49, if_neg c152, hM227]
      · intro c152
        refine And.intro (by
          first
            | omega
            | exact gP
            | (have := (ae (by omega)).2.2.2.2.2.2 (by omega) (by assumption); exact this)
            | (obtain ⟨x1, x2, x3, x4, x5, x6, x7⟩ := ae (by omega); clear x7; first | exact ⟨by omega, by omega⟩ | exact ⟨⟨by omega, by omega⟩, by omega, by omega⟩)
            | exact ⟨by omega, by omega⟩) ?_
        refine And.intro (by
          first
            | omega
            | exact gP
            | (have := (ae (by omega)).2.2.2.2.2.2 (by omega) (by assumption); exact this)
            | (obtain ⟨x1, x2, x3, x4, x5, x6, x7⟩ := ae (by omega); clear x7; first | exact ⟨by omega, by omega⟩ | exact ⟨⟨by omega, by omega⟩, by omega, by omega⟩)
            | exact ⟨by omega, by omega⟩) ?_
        refine ⟨?_, ?_⟩
        · intro c172
          refine And.intro (by
            first
              | omega
              | exact gP
              | (have := (ae (by omega)).2.2.2.2.2.2 (by omega) (by assumption); exact this)
              | (obtain ⟨x1, x2, x3, x4, x5, x6, x7⟩ := ae (by omega); clear x7; first | exact ⟨by omega, by omega⟩ | exact ⟨⟨by omega, by omega⟩, by omega, by omega⟩)
              | exact ⟨by omega, by omega⟩) ?_
          refine And.intro (by
            first
              | omega
              | exact gP
              | (have := (ae (by omega)).2.2.2.2.2.2 (by omega) (by assumption); exact this)
              | (obtain ⟨x1, x2, x3, x4, x5, x6, x7⟩ := ae (by omega); clear x7; first | exact ⟨by omega, by omega⟩ | exact ⟨⟨by omega, by omega⟩, by omega, by omega⟩)
              | exact ⟨by omega, by omega⟩) ?_
          refine ⟨_, ?_, rfl, by omega, N, hr, by omega, ?_⟩
          · omega
          rw [show e + -1 = e - 1 by omega, hnext (by omega)]
          unfold cq_s
          rw [if_neg c49, if_pos c152, if_pos (Or.inl c172), show M1 797 27 - 1 + 1 = M1 797 27 by omega] <;> rfl
        · intro c172
          refine And.intro (by
            first
              | omega
              | exact gP
              | (have := (ae (by omega)).2.2.2.2.2.2 (by omega) (by assumption); exact this)
              | (obtain ⟨x1, x2, x3, x4, x5, x6, x7⟩ := ae (by omega); clear x7; first | exact ⟨by omega, by omega⟩ | exact ⟨⟨by omega, by omega⟩, by omega, by omega⟩)
              | exact ⟨by omega, by omega⟩) ?_
          refine And.intro (by
            first
              | omega
              | exact gP
              | (have := (ae (by omega)).2.2.2.2.2.2 (by omega) (by assumption); exact this)
              | (obtain ⟨x1, x2, x3, x4, x5, x6, x7⟩ := ae (by omega); clear x7; first | exact ⟨by omega, by omega⟩ | exact ⟨⟨by omega, by omega⟩, by omega, by omega⟩)
              | exact ⟨by omega, by omega⟩) ?_
          refine ⟨?_, ?_⟩
          · intro c182
            refine And.intro (by
              first
                | omega
                | exact gP
                | (have := (ae (by omega)).2.2.2.2.2.2 (by omega) (by assumption); exact this)
                | (obtain ⟨x1, x2, x3, x4, x5, x6, x7⟩ := ae (by omega); clear x7; first | exact ⟨by omega, by omega⟩ | exact ⟨⟨by omega, by omega⟩, by omega, by omega⟩)
                | exact ⟨by omega, by omega⟩) ?_
            refine And.intro (by
              first
                | omega
                | exact gP
                | (have := (ae (by omega)).2.2.2.2.2.2 (by omega) (by assumption); exact this)
                | (obtain ⟨x1, x2, x3, x4, x5, x6, x7⟩ := ae (by omega); clear x7; first | exact ⟨by omega, by omega⟩ | exact ⟨⟨by omega, by omega⟩, by omega, by omega⟩)
                | exact ⟨by omega, by omega⟩) ?_
            refine ⟨_, ?_, rfl, by omega, N, hr, by omega, ?_⟩
            · omega
            rw [show e + -1 = e - 1 by omega, hnext (by omega)]
            unfold cq_s
            rw [if_neg c49, if_pos c152, if_neg (fun z => z.elim c172 c182), show M1 797 27 - 1 + 1 = M1 797 27 by omega] <;> rfl
          · intro c182
            refine And.intro (by
              first
                | omega
                | exact gP
                | (have := (ae (by omega)).2.2.2.2.2.2 (by omega) (by assumption); exact this)
                | (obtain ⟨x1, x2, x3, x4, x5, x6, x7⟩ := ae (by omega); clear x7; first | exact ⟨by omega, by omega⟩ | exact ⟨⟨by omega, by omega⟩, by omega, by omega⟩)
                | exact ⟨by omega, by omega⟩) ?_
            refine And.intro (by
              first
                | omega
                | exact gP
                | (have := (ae (by omega)).2.2.2.2.2.2 (by omega) (by assumption); exact this)
                | (obtain ⟨x1, x2, x3, x4, x5, x6, x7⟩ := ae (by omega); clear x7; first | exact ⟨by omega, by omega⟩ | exact ⟨⟨by omega, by omega⟩, by omega, by omega⟩)
                | exact ⟨by omega, by omega⟩) ?_
            refine ⟨_, ?_, rfl, by omega, N, hr, by omega, ?_⟩
            · omega
            rw [show e + -1 = e - 1 by omega, hnext (by omega)]
            unfold cq_s
            rw [if_neg c49, if_pos c152, if_pos (Or.inr c182), show M1 797 27 - 1 + 1 = M1 797 27 by omega] <;> rfl
    · intro c49
      refine And.intro (by
        first
          | omega
          | exact gP
          | (have := (ae (by omega)).2.2.2.2.2.2 (by omega) (by assumption); exact this)
          | (obtain ⟨x1, x2, x3, x4, x5, x6, x7⟩ := ae (by omega); clear x7; first | exact ⟨by omega, by omega⟩ | exact ⟨⟨by omega, by omega⟩, by omega, by omega⟩)
          | exact ⟨by omega, by omega⟩) ?_
      refine And.intro (by
        first
          | omega
          | exact gP
          | (have := (ae (by omega)).2.2.2.2.2.2 (by omega) (by assumption); exact this)
          | (obtain ⟨x1, x2, x3, x4, x5, x6, x7⟩ := ae (by omega); clear x7; first | exact ⟨by omega, by omega⟩ | exact ⟨⟨by omega, by omega⟩, by omega, by omega⟩)
          | exact ⟨by omega, by omega⟩) ?_
      refine ⟨?_, ?_⟩
      · intro c69
        refine And.intro (by
          first
            | omega
            | exact gP
            | (have := (ae (by omega)).2.2.2.2.2.2 (by omega) (by assumption); exact this)
            | (obtain ⟨x1, x2, x3, x4, x5, x6, x7⟩ := ae (by omega); clear x7; first | exact ⟨by omega, by omega⟩ | exact ⟨⟨by omega, by omega⟩, by omega, by omega⟩)
            | exact ⟨by omega, by omega⟩) ?_
        refine And.intro (by
          first
            | omega
            | exact gP
            | (have := (ae (by omega)).2.2.2.2.2.2 (by omega) (by assumption); exact this)
            | (obtain ⟨x1, x2, x3, x4, x5, x6, x7⟩ := ae (by omega); clear x7; first | exact ⟨by omega, by omega⟩ | exact ⟨⟨by omega, by omega⟩, by omega, by omega⟩)
            | exact ⟨by omega, by omega⟩) ?_
        refine And.intro (by
          first
            | omega
            | exact gP
            | (have := (ae (by omega)).2.2.2.2.2.2 (by omega) (by assumption); exact this)
            | (obtain ⟨x1, x2, x3, x4, x5, x6, x7⟩ := ae (by omega); clear x7; first | exact ⟨by omega, by omega⟩ | exact ⟨⟨by omega, by omega⟩, by omega, by omega⟩)
            | exact ⟨by omega, by omega⟩) ?_
        refine And.intro (by
          first
            | omega
            | exact gP
            | (have := (ae (by omega)).2.2.2.2.2.2 (by omega) (by assumption); exact this)
            | (obtain ⟨x1, x2, x3, x4, x5, x6, x7⟩ := ae (by omega); clear x7; first | exact ⟨by omega, by omega⟩ | exact ⟨⟨by omega, by omega⟩, by omega, by omega⟩)
            | exact ⟨by omega, by omega⟩) ?_
        refine ⟨?_, ?_⟩
        · intro c109
          refine And.intro (by
            first
              | omega
              | exact gP
              | (have := (ae (by omega)).2.2.2.2.2.2 (by omega) (by assumption); exact this)
              | (obtain ⟨x1, x2, x3, x4, x5, x6, x7⟩ := ae (by omega); clear x7; first | exact ⟨by omega, by omega⟩ | exact ⟨⟨by omega, by omega⟩, by omega, by omega⟩)
              | exact ⟨by omega, by omega⟩) ?_
          refine And.intro (by
            first
              | omega
              | exact gP
              | (have := (ae (by omega)).2.2.2.2.2.2 (by omega) (by assumption); exact this)
              | (obtain ⟨x1, x2, x3, x4, x5, x6, x7⟩ := ae (by omega); clear x7; first | exact ⟨by omega, by omega⟩ | exact ⟨⟨by omega, by omega⟩, by omega, by omega⟩)
              | exact ⟨by omega, by omega⟩) ?_
          refine ⟨_, ?_, rfl, by omega, N, hr, by omega, ?_⟩
          · omega
          rw [show e + -1 = e - 1 by omega, hnext (by omega)]
          unfold cq_s
          rw [if_pos (show M1 805 e.toNat = 10 from by omega), if_neg c69, if_neg c109] <;> rfl
        · intro c109
          refine And.intro (by
            first
              | omega
              | exact gP
              | (have := (ae (by omega)).2.2.2.2.2.2 (by omega) (by assumption); exact this)
              | (obtain ⟨x1, x2, x3, x4, x5, x6, x7⟩ := ae (by omega); clear x7; first | exact ⟨by omega, by omega⟩ | exact ⟨⟨by omega, by omega⟩, by omega, by omega⟩)
              | exact ⟨by omega, by omega⟩) ?_
          refine And.intro (by
            first
              | omega
              | exact gP
              | (have := (ae (by omega)).2.2.2.2.2.2 (by omega) (by assumption); exact this)
              | (obtain ⟨x1, x2, x3, x4, x5, x6, x7⟩ := ae (by omega); clear x7; first | exact ⟨by omega, by omega⟩ | exact ⟨⟨by omega, by omega⟩, by omega, by omega⟩)
              | exact ⟨by omega, by omega⟩) ?_
          refine ⟨_, ?_, rfl, by omega, N, hr, by omega, ?_⟩
          · omega
          rw [show e + -1 = e - 1 by omega, hnext (by omega)]
          unfold cq_s
          rw [if_pos (show M1 805 e.toNat = 10 from by omega), if_neg c69, if_pos c109] <;> rfl
      · intro c69
        refine And.intro (by
          first
            | omega
            | exact gP
            | (have := (ae (by omega)).2.2.2.2.2.2 (by omega) (by assumption); exact this)
            | (obtain ⟨x1, x2, x3, x4, x5, x6, x7⟩ := ae (by omega); clear x7; first | exact ⟨by omega, by omega⟩ | exact ⟨⟨by omega, by omega⟩, by omega, by omega⟩)
            | exact ⟨by omega, by omega⟩) ?_
        refine And.intro (by
          first
            | omega
            | exact gP
            | (have := (ae (by omega)).2.2.2.2.2.2 (by omega) (by assumption); exact this)
            | (obtain ⟨x1, x2, x3, x4, x5, x6, x7⟩ := ae (by omega); clear x7; first | exact ⟨by omega, by omega⟩ | exact ⟨⟨by omega, by omega⟩, by omega, by omega⟩)
            | exact ⟨by omega, by omega⟩) ?_
        refine And.intro (by
          first
            | omega
            | exact gP
            | (have := (ae (by omega)).2.2.2.2.2.2 (by omega) (by assumption); exact this)
            | (obtain ⟨x1, x2, x3, x4, x5, x6, x7⟩ := ae (by omega); clear x7; first | exact ⟨by omega, by omega⟩ | exact ⟨⟨by omega, by omega⟩, by omega, by omega⟩)
            | exact ⟨by omega, by omega⟩) ?_
        refine And.intro (by
          first
            | omega
            | exact gP
            | (have := (ae (by omega)).2.2.2.2.2.2 (by omega) (by assumption); exact this)
            | (obtain ⟨x1, x2, x3, x4, x5, x6, x7⟩ := ae (by omega); clear x7; first | exact ⟨by omega, by omega⟩ | exact ⟨⟨by omega, by omega⟩, by omega, by omega⟩)
            | exact ⟨by omega, by omega⟩) ?_
        refine And.intro (by
          first
            | omega
            | exact gP
            | (have := (ae (by omega)).2.2.2.2.2.2 (by omega) (by assumption); exact this)
            | (obtain ⟨x1, x2, x3, x4, x5, x6, x7⟩ := ae (by omega); clear x7; first | exact ⟨by omega, by omega⟩ | exact ⟨⟨by omega, by omega⟩, by omega, by omega⟩)
            | exact ⟨by omega, by omega⟩) ?_
        refine ⟨?_, ?_⟩
        · intro c109
          refine And.intro (by
            first
              | omega
              | exact gP
              | (have := (ae (by omega)).2.2.2.2.2.2 (by omega) (by assumption); exact this)
              | (obtain ⟨x1, x2, x3, x4, x5, x6, x7⟩ := ae (by omega); clear x7; first | exact ⟨by omega, by omega⟩ | exact ⟨⟨by omega, by omega⟩, by omega, by omega⟩)
              | exact ⟨by omega, by omega⟩) ?_
          refine And.intro (by
            first
              | omega
              | exact gP
              | (have := (ae (by omega)).2.2.2.2.2.2 (by omega) (by assumption); exact this)
              | (obtain ⟨x1, x2, x3, x4, x5, x6, x7⟩ := ae (by omega); clear x7; first | exact ⟨by omega, by omega⟩ | exact ⟨⟨by omega, by omega⟩, by omega, by omega⟩)
              | exact ⟨by omega, by omega⟩) ?_
          refine ⟨_, ?_, rfl, by omega, N, hr, by omega, ?_⟩
          · omega
          rw [show e + -1 = e - 1 by omega, hnext (by omega)]
          unfold cq_s
          rw [if_pos (show M1 805 e.toNat = 10 from by omega), if_pos c69, if_neg c109] <;> rfl
        · intro c109
          refine And.intro (by
            first
              | omega
              | exact gP
              | (have := (ae (by omega)).2.2.2.2.2.2 (by omega) (by assumption); exact this)
              | (obtain ⟨x1, x2, x3, x4, x5, x6, x7⟩ := ae (by omega); clear x7; first | exact ⟨by omega, by omega⟩ | exact ⟨⟨by omega, by omega⟩, by omega, by omega⟩)
              | exact ⟨by omega, by omega⟩) ?_
          refine And.intro (by
            first
              | omega
              | exact gP
              | (have := (ae (by omega)).2.2.2.2.2.2 (by omega) (by assumption); exact this)
              | (obtain ⟨x1, x2, x3, x4, x5, x6, x7⟩ := ae (by omega); clear x7; first | exact ⟨by omega, by omega⟩ | exact ⟨⟨by omega, by omega⟩, by omega, by omega⟩)
              | exact ⟨by omega, by omega⟩) ?_
          refine ⟨_, ?_, rfl, by omega, N, hr, by omega, ?_⟩
          · omega
          rw [show e + -1 = e - 1 by omega, hnext (by omega)]
          unfold cq_s
          rw [if_pos (show M1 805 e.toNat = 10 from by omega), if_pos c69, if_pos c109] <;> rfl

set_option maxRecDepth 20000 in
set_option maxHeartbeats 1000000 in
theorem ok_X9_copied (E : ab_E) : ab_Ok E 8 128 S_X9_copied := by
  refine ab_mk rq_X9_copied tk_X9_copied (rt := 3) (rfl) (cuts := [30]) (G := [(129, S_X9_copyStatement), (170, S_X9_read)]) (List.forall_mem_cons.mpr ⟨⟨1, by decide, ok_X9_copyStatement E⟩, List.forall_mem_cons.mpr ⟨⟨7, by decide, ok_X9_read E⟩, fun _ h => absurd h List.not_mem_nil⟩⟩) (by decide) 195 rfl ?_
  intro a M K wd wa hS
  unfold S_X9_copied at hS
  split at hS
  ·
    refine ⟨Nat.le_of_ble_eq_true rfl, fun pc n L st M1 => match pc, L, st with
      | 30, [.inr (.inr (.inr (797, 9, 0))), .inr (.inl e), u3_], [] => (n = (e + 1).toNat ∧ -1 ≤ e ∧ ∃ N : ab_M, pz_rdn M N ∧ e < N 797 10 ∧ M1 = cq_m (N 797 10).toNat (cq_0 N) (N 797 10 - 1 - e).toNat)
      | _, _, _ => False, ?_, ?_⟩
    · exact vc_X9_copied_0  M K  hS
    · intro pc n L st M1 hI wd1 wL wst
      (try dsimp only at hI)
      split at hI
      ·
        rename_i e u3_
        exact vc_X9_copied_30  M K  hS n e _ hI
      · exact hI.elim
  · exact hS.elim
