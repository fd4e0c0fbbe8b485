/-! the reference's code is laid -/
theorem em_V.f2 {M M' : ab_M} {e : Nat} {md : Int} {W1 W2 : Nat → List Int} (h : em_V M e md W1 W2) (h9 : ∀ j, M' 803 j = M 803 j) (hE : ∀ o j : Nat, 805 ≤ o → o ≤ 812 → M' o j = M o j) : em_V M' e md W1 W2 := by
  have fw : ∀ i, em_W M i W1 W2 → em_W M' i W1 W2 := fun i ⟨⟨w1, w2⟩, w3, w4⟩ => by
    unfold em_W
    rw [hE 807 _ (by decide) (by decide), hE 808 _ (by decide) (by decide), hE 809 _ (by decide) (by decide), hE 810 _ (by decide) (by decide)]
    exact ⟨⟨w1.f9 h9, w2.f9 h9⟩, w3, w4⟩
  obtain ⟨v1, v2, v3, v4⟩ := h
  unfold em_V
  rw [hE 805 _ (by decide) (by decide), hE 806 _ (by decide) (by decide), hE 812 _ (by decide) (by decide)]
  refine ⟨v1, fun q => fw _ (v2 q), fun q r => ?_, fun q => ?_⟩
  · obtain ⟨h0, ce, h1, h2, h3, h4, h5⟩ := v3 q r
    refine ⟨h0, ce, h1, h2, by rw [hE _ _ (by decide) (by decide)]; exact h3, by rw [hE _ _ (by decide) (by decide)]; exact h4, fun j hj => ?_⟩
    rw [hE _ _ (by decide) (by decide), hE _ _ (by decide) (by decide)]
    exact h5 j hj
  · obtain ⟨x1, x2, x3⟩ := v4 q
    exact ⟨x1, x2, fun r => fw _ (x3 r)⟩
/-- what is read can be written as code -/
def la_A (N : ab_M) (md : Int) (W1 W2 : Nat → List Int) : Prop := ev_A N ∧ la_c N (N 797 10).toNat ≤ 249 ∧ em_G N ∧ ∀ i : Nat, (i : Int) < N 797 10 → em_V N i md W1 W2
def la_C (N1 : ab_M) (n : Nat) (md : Int) (W1 W2 : Nat → List Int) (M' : ab_M) : Prop := ∃ m : Nat → ab_M, m 0 = N1 ∧ (∀ i, i < n → em_e (m i) (m (i + 1)) i md W1 W2) ∧ m n = M'
theorem la_C.next {N M1 M2 : ab_M} {n : Nat} {md : Int} {W1 W2 : Nat → List Int} (h : la_C N n md W1 W2 M1) (hR : em_e M1 M2 n md W1 W2) : la_C N (n + 1) md W1 W2 M2 := by
  obtain ⟨m, h1, h2, h3⟩ := h
  refine ⟨fun i => if i ≤ n then m i else M2, by show (if 0 ≤ n then m 0 else M2) = N; rw [if_pos (Nat.zero_le _)]; exact h1, fun i hi => ?_, if_neg (by omega)⟩
  show em_e (if i ≤ n then m i else M2) (if i + 1 ≤ n then m (i + 1) else M2) i md W1 W2
  rw [if_pos (by omega)]
  by_cases c : i = n
  · subst c
    rw [if_neg (by omega), h3]; exact hR
  · rw [if_pos (by omega)]; exact h2 i (by omega)
def la_0 (N : ab_M) (md : Int) : ab_M := ab_up (ab_up (ab_up N 797 29 md) 797 33 0) 797 27 0
/-- before an event -/
def la_I (N M1 : ab_M) (md : Int) (e : Nat) : Prop := (∀ o j : Nat, ¬ (o = 797 ∧ (j = 27 ∨ j = 29 ∨ j = 33)) → o ≠ 815 → ¬ (817 ≤ o ∧ o ≤ 824) → M1 o j = N o j) ∧ M1 797 29 = md ∧ (M1 797 27 = ev_dm N e ∧ ∀ k : Nat, (k : Int) < M1 797 27 → 0 ≤ M1 815 k ∧ M1 815 k < (e : Int) ∧ N 805 (M1 815 k).toNat = 9) ∧ (0 ≤ M1 797 33 ∧ M1 797 33 ≤ la_c N e) ∧ em_G M1
theorem la_I.start {N : ab_M} {md : Int} (hG : em_G N) : la_I N (la_0 N md) md 0 := by
  have f : ∀ o j : Nat, ¬ (o = 797 ∧ (j = 27 ∨ j = 29 ∨ j = 33)) → la_0 N md o j = N o j := fun o j h => by
    unfold la_0
    rw [up_ne (by omega), up_ne (by omega), up_ne (by omega)]
  have e27 : la_0 N md 797 27 = 0 := by unfold la_0; rw [ab_up_s]
  have e33 : la_0 N md 797 33 = 0 := by unfold la_0; rw [up_ne (by omega), ab_up_s]
  refine ⟨fun o j a _ _ => f o j a, ?_, ⟨e27, fun k hk => by omega⟩, ⟨by omega, by rw [e33]; exact Int.le_refl _⟩, ?_⟩
  · unfold la_0; rw [up_ne (by omega), up_ne (by omega), ab_up_s]
  · obtain ⟨g1, g2, g3⟩ := hG
    exact ⟨fun j => by rw [f _ _ (by omega)]; exact g1 j, fun j => by rw [f _ _ (by omega)]; exact g2 j, fun j => by rw [f _ _ (by omega)]; exact g3 j⟩
theorem la_I.pre {N M1 : ab_M} {md : Int} {W1 W2 : Nat → List Int} {e : Nat} (hA : la_A N md W1 W2) (he : (e : Int) < N 797 10) (h : la_I N M1 md e) : (0 ≤ M1 797 33 ∧ M1 797 33 ≤ 249) ∧ em_V M1 e md W1 W2 ∧ em_G M1 ∧ em_O M1 ∧ ab_ir (tr_a M1 (M1 797 27).toNat) := by
  obtain ⟨i1, i2, ⟨i3, i4⟩, i5, i6⟩ := h
  obtain ⟨a1, a2, a3, a4⟩ := hA
  obtain ⟨b1, b2, b3, -⟩ := a1
  have hc := la_c_le N (show e ≤ (N 797 10).toNat by omega)
  have hE : ∀ o j : Nat, 805 ≤ o → o ≤ 812 → M1 o j = N o j := fun o j x y => i1 o j (by omega) (by omega) (by omega)
  have hd := b3 e (by omega)
  refine ⟨by omega, (a4 e he).f2 (fun j => i1 803 j (by omega) (by decide) (by omega)) hE, i6, ⟨by omega, fun k hk => ?_⟩, tr_a_ir2 _ fun k hk => ?_⟩
  · obtain ⟨x1, x2, x3⟩ := i4 k hk
    have := b2 (M1 815 k).toNat (by omega)
    rw [hE 806 _ (by decide) (by decide)]
    exact ⟨x1, by omega, ⟨by omega, by omega⟩⟩
  · obtain ⟨x1, x2, x3⟩ := i4 k (by omega)
    obtain ⟨-, -, -, y4, -⟩ := b2 (M1 815 k).toNat (by omega)
    have := y4 (by omega)
    rw [hE 812 _ (by decide) (by decide)]
    exact ⟨by omega, by omega⟩
theorem la_I.next {N M1 M2 : ab_M} {md : Int} {W1 W2 : Nat → List Int} {e : Nat} (hA : la_A N md W1 W2) (he : (e : Int) < N 797 10) (h : la_I N M1 md e) (hR : em_e M1 M2 e md W1 W2) : la_I N M2 md (e + 1) := by
  obtain ⟨p1, p2, p3, p4, p5⟩ := h.pre hA he
  obtain ⟨i1, i2, ⟨i3, i4⟩, i5, i6⟩ := h
  obtain ⟨a1, -, -, -⟩ := hA
  obtain ⟨b1, b2, b3, -⟩ := a1
  have hE : ∀ o j : Nat, 805 ≤ o → o ≤ 812 → M1 o j = N o j := fun o j x y => i1 o j (by omega) (by omega) (by omega)
  have bb := b2 e he
  have e792 := hE 805 e (by decide) (by decide)
  have e793 := hE 806 e (by decide) (by decide)
  have hk : la_k M1 e = la_k N e := by unfold la_k; rw [e792, e793]
  have hd : ev_dm N (e + 1) = ev_dm N e + (if N 805 e = 9 then 1 else if N 805 e = 10 then -1 else 0) := rfl
  have hc : la_c N (e + 1) = la_c N e + la_k N e := rfl
  have hk0 := la_k_0 N e
  obtain ⟨s10, s8⟩ := hR.s p1 (by omega) (fun _ => by omega) p5
  by_cases c9 : M1 805 e = 9
  · have h9 := hR.2.2.2.2.2.2.2.2.2.1 c9
    rw [if_pos (by omega)] at hd
    have f : ∀ o j : Nat, ¬ (o = 797 ∧ j = 27) → o ≠ 815 → M2 o j = M1 o j := fun o j x y => by rw [h9, up_ne x, ab_up_o y]
    have f27 : M2 797 27 = M1 797 27 + 1 := by rw [h9, ab_up_s]
    refine ⟨fun o j x y z => (f o j (by omega) y).trans (i1 o j x y z), (f _ _ (by omega) (by decide)).trans i2, ⟨by omega, fun k hk' => ?_⟩, by rw [f _ _ (by omega) (by decide)]; omega, ?_⟩
    · by_cases ck : k = (M1 797 27).toNat
      · have : M2 815 k = (e : Int) := by rw [h9, up_ne (by omega), ck, ab_up_s]
        rw [this]
        exact ⟨by omega, by omega, by rw [show ((e : Int)).toNat = e from rfl]; omega⟩
      · have : M2 815 k = M1 815 k := by rw [h9, up_ne (by omega), ab_up_k ck]
        rw [this]
        have := i4 k (by have := p4.1; omega)
        exact ⟨this.1, by omega, this.2.2⟩
    · obtain ⟨g1, g2, g3⟩ := i6
      exact ⟨fun j => by rw [f _ _ (by omega) (by decide)]; exact g1 j, fun j => by rw [f _ _ (by omega) (by decide)]; exact g2 j, fun j => by rw [f _ _ (by omega) (by decide)]; exact g3 j⟩
  · by_cases c10 : M1 805 e = 10
    · obtain ⟨q1, q2, q3⟩ := s10 c10
      rw [hk] at q2
      rw [if_neg (by omega), if_pos (by omega)] at hd
      have f : ∀ o j : Nat, ¬ (o = 797 ∧ (j = 27 ∨ j = 33)) → ¬ (817 ≤ o ∧ o ≤ 824) → M2 o j = M1 o j := fun o j x y => by rw [q1 o j (by omega) y, up_ne (by omega)]
      have f27 : M2 797 27 = M1 797 27 - 1 := by rw [q1 797 27 (by omega) (by omega), ab_up_s]
      rw [ab_up_k (by decide)] at q2
      refine ⟨fun o j x y z => (f o j (by omega) z).trans (i1 o j x y z), (f _ _ (by omega) (by omega)).trans i2, ⟨by omega, fun k hk' => ?_⟩, by omega, q3 ?_⟩
      · rw [f 815 k (by omega) (by omega)]
        have := i4 k (by omega)
        exact ⟨this.1, by omega, this.2.2⟩
      · obtain ⟨g1, g2, g3⟩ := i6
        exact ⟨fun j => by rw [ab_up_o (by decide)]; exact g1 j, fun j => by rw [ab_up_o (by decide)]; exact g2 j, fun j => by rw [ab_up_o (by decide)]; exact g3 j⟩
    · obtain ⟨q1, q2, q3⟩ := s8 (by omega)
      rw [hk] at q2
      rw [if_neg (by omega), if_neg (by omega)] at hd
      have f27 : M2 797 27 = M1 797 27 := q1 797 27 (by omega) (by omega)
      refine ⟨fun o j x y z => (q1 o j (by omega) z).trans (i1 o j x y z), (q1 _ _ (by omega) (by omega)).trans i2, ⟨by omega, fun k hk' => ?_⟩, by omega, q3 i6⟩
      rw [q1 815 k (by omega) (by omega)]
      have := i4 k (by omega)
      exact ⟨this.1, by omega, this.2.2⟩
def la_P (M M' : ab_M) (md : Int) (W1 W2 : Nat → List Int) : Prop := ∃ N, pz_rdn M N ∧ ((N 797 29 = md ∧ M' = N) ∨ (N 797 29 ≠ md ∧ la_C (la_0 N md) (N 797 10).toNat md W1 W2 M' ∧ la_I N M' md (N 797 10).toNat))

def S_X9_lay : ab_PT := fun a M K => match a with
  | [.inr (.inr (.inr (797, 9, 0))), .inr (.inl md)] => (∃ W1 : Nat → List Int, ∃ W2 : Nat → List Int, (pz_PR M ∧ ab_ir md ∧ ab_ir (M 797 29) ∧ ∀ N, pz_rdn M N → la_A N md W1 W2) ∧ (∀ Mx : ab_M, (la_P M Mx md W1 W2) → K [] Mx))
  | _ => False
set_option maxRecDepth 20000 in
theorem vc_X9_lay_0 (md : Int) (M : ab_M) (K : List ab_V → ab_M → Prop) (hS : (∃ W1 : Nat → List Int, ∃ W2 : Nat → List Int, (pz_PR M ∧ ab_ir md ∧ ab_ir (M 797 29) ∧ ∀ N, pz_rdn M N → la_A N md W1 W2) ∧ (∀ Mx : ab_M, (la_P M Mx md W1 W2) → K [] Mx))) : (pz_PR M) ∧ (∀ M1 : ab_M, (pz_rdn M M1) → (ab_ir (M1 797 29) ∧ ab_ir md) ∧ ((¬ (M1 797 29) = md → (∃ n', ((n' = (400 - (0 : Int)).toNat ∧ md = md ∧ 0 ≤ (0 : Int) ∧ ∃ W1 W2, (pz_PR M ∧ ab_ir md ∧ ab_ir (M 797 29) ∧ ∀ N, pz_rdn M N → la_A N md W1 W2) ∧ (∀ Mx : ab_M, la_P M Mx md W1 W2 → K [] Mx) ∧ ∃ N, pz_rdn M N ∧ N 797 29 ≠ md ∧ (0 : Int) ≤ N 797 10 ∧ la_C (la_0 N md) (0 : Int).toNat md W1 W2 (ab_up (ab_up (ab_up M1 797 29 md) 797 33 (0 : Int)) 797 27 (0 : Int)) ∧ la_I N (ab_up (ab_up (ab_up M1 797 29 md) 797 33 (0 : Int)) 797 27 (0 : Int)) md (0 : Int).toNat)))) ∧ ((M1 797 29) = md → K [] M1))) := by
  obtain ⟨W1, W2, ⟨gP, gmd, g29, gA⟩, gK⟩ := hS
  refine And.intro (by
    first
      | omega
      | exact gP
      | exact gmd
      | exact ⟨by omega, by omega⟩
      | exact ⟨⟨by omega, by omega⟩, by omega, by omega⟩
      | (refine ⟨?_, gmd⟩
         have h := hM1.2.1.2 29 (by decide) (by decide) (by decide) (by decide) (by decide) (by decide) (by decide) (by decide) (by decide)
         rw [h]; exact g29)) ?_
  intro M1 hM1
  refine And.intro (by
    first
      | omega
      | exact gP
      | exact gmd
      | exact ⟨by omega, by omega⟩
      | exact ⟨⟨by omega, by omega⟩, by omega, by omega⟩
      | (refine ⟨?_, gmd⟩
         have h := hM1.2.1.2 29 (by decide) (by decide) (by decide) (by decide) (by decide) (by decide) (by decide) (by decide) (by decide)
         rw [h]; exact g29)) ?_
  refine ⟨?_, ?_⟩
  · intro c9
    refine ⟨_, rfl, rfl, by decide, W1, W2, ⟨gP, gmd, g29, gA⟩, gK, M1, hM1, by assumption, ?_, ⟨fun _ => la_0 M1 md, rfl, fun i hi => absurd hi (Nat.not_lt_zero i), rfl⟩, la_I.start (gA M1 hM1).2.2.1⟩
    have := (gA M1 hM1).1.1
    omega
  · intro c9
    exact gK _ ⟨M1, hM1, Or.inl ⟨by assumption, rfl⟩⟩

set_option maxRecDepth 20000 in
theorem vc_X9_lay_30 (md : Int) (M : ab_M) (K : List ab_V → ab_M → Prop) (hS : (∃ W1 : Nat → List Int, ∃ W2 : Nat → List Int, (pz_PR M ∧ ab_ir md ∧ ab_ir (M 797 29) ∧ ∀ N, pz_rdn M N → la_A N md W1 W2) ∧ (∀ Mx : ab_M, (la_P M Mx md W1 W2) → K [] Mx))) (n : Nat) (m1 : Int) (e : Int) (M1 : ab_M) (hI : n = (400 - e).toNat ∧ md = m1 ∧ 0 ≤ e ∧ ∃ W1 W2, (pz_PR M ∧ ab_ir md ∧ ab_ir (M 797 29) ∧ ∀ N, pz_rdn M N → la_A N md W1 W2) ∧ (∀ Mx : ab_M, la_P M Mx md W1 W2 → K [] Mx) ∧ ∃ N, pz_rdn M N ∧ N 797 29 ≠ md ∧ e ≤ N 797 10 ∧ la_C (la_0 N md) e.toNat md W1 W2 M1 ∧ la_I N M1 md e.toNat) : (ab_ir e ∧ ab_ir (M1 797 10)) ∧ (((M1 797 10) ≤ e → K [] M1) ∧ (e < (M1 797 10) → (∃ W1_41 : Nat → List Int, ∃ W2_41 : Nat → List Int, (((0 ≤ e ∧ e < 400) ∧ (0 ≤ M1 797 33 ∧ M1 797 33 ≤ 249) ∧ ab_ir m1 ∧ em_V M1 e.toNat m1 W1_41 W2_41 ∧ em_G M1 ∧ em_O M1)) ∧ (∀ M41 : ab_M, (em_e M1 M41 e.toNat m1 W1_41 W2_41) → (∃ n', n' < n ∧ ((n' = (400 - (e + 1)).toNat ∧ md = m1 ∧ 0 ≤ (e + 1) ∧ ∃ W1 W2, (pz_PR M ∧ ab_ir md ∧ ab_ir (M 797 29) ∧ ∀ N, pz_rdn M N → la_A N md W1 W2) ∧ (∀ Mx : ab_M, la_P M Mx md W1 W2 → K [] Mx) ∧ ∃ N, pz_rdn M N ∧ N 797 29 ≠ md ∧ (e + 1) ≤ N 797 10 ∧ la_C (la_0 N md) (e + 1).toNat md W1 W2 M41 ∧ la_I N M41 md (e + 1).toNat))))))) := by
  obtain ⟨hn, q1, he0, W1, W2, ⟨gP, gmd, g29, gA⟩, gK, N, hr, hne, hle, hC, hI⟩ := hI
  clear hS
  subst q1
  have hAN := gA N hr
  have hE10 : M1 797 10 = N 797 10 := hI.1 797 10 (by omega) (by decide) (by omega)
  have h400 := hAN.1.1
  refine And.intro (by
    first
      | omega
      | exact gP
      | exact gmd
      | exact ⟨by omega, by omega⟩
      | exact ⟨⟨by omega, by omega⟩, by omega, by omega⟩
      | (refine ⟨?_, gmd⟩
         have h := hM1.2.1.2 29 (by decide) (by decide) (by decide) (by decide) (by decide) (by decide) (by decide) (by decide) (by decide)
         rw [h]; exact g29)) ?_
  refine ⟨?_, ?_⟩
  · intro c35
    have hen : e.toNat = (N 797 10).toNat := by omega
    rw [hen] at hC hI
    exact gK _ ⟨N, hr, Or.inr ⟨hne, hC, hI⟩⟩
  · intro c35
    refine Exists.intro (W1) <| Exists.intro (W2) <| ?_
    refine And.intro (by
      have hlt : ((e.toNat : Nat) : Int) < N 797 10 := by omega
      obtain ⟨x1, x2, x3, x4, -⟩ := hI.pre hAN hlt
      exact ⟨⟨by omega, by omega⟩, x1, gmd, x2, x3, x4⟩) ?_
    intro M41 hM41
    have hlt : ((e.toNat : Nat) : Int) < N 797 10 := by omega
    refine ⟨_, ?_, rfl, rfl, by omega, W1, W2, ⟨gP, gmd, g29, gA⟩, gK, N, hr, hne, by omega, ?_, ?_⟩
    · omega
    · rw [show (e + 1).toNat = e.toNat + 1 by omega]
      exact hC.next hM41
    · rw [show (e + 1).toNat = e.toNat + 1 by omega]
      exact hI.next hAN hlt hM41

set_option maxRecDepth 20000 in
set_option maxHeartbeats 1000000 in
theorem ok_X9_lay (E : ab_E) : ab_Ok E 8 157 S_X9_lay := by
  refine ab_mk rq_X9_lay tk_X9_lay (rt := 0) (rfl) (cuts := [30]) (G := [(133, S_X9_emitEvent), (170, S_X9_read)]) (List.forall_mem_cons.mpr ⟨⟨6, by decide, ok_X9_emitEvent E⟩, List.forall_mem_cons.mpr ⟨⟨7, by decide, ok_X9_read E⟩, fun _ h => absurd h List.not_mem_nil⟩⟩) (by decide) 79 rfl ?_
  intro a M K wd wa hS
  unfold S_X9_lay at hS
  split at hS
  ·
    rename_i md
    refine ⟨Nat.le_of_ble_eq_true rfl, fun pc n L st M1 => match pc, L, st with
      | 30, [.inr (.inr (.inr (797, 9, 0))), .inr (.inl m1), .inr (.inl e)], [] => (n = (400 - e).toNat ∧ md = m1 ∧ 0 ≤ e ∧ ∃ W1 W2, (pz_PR M ∧ ab_ir md ∧ ab_ir (M 797 29) ∧ ∀ N, pz_rdn M N → la_A N md W1 W2) ∧ (∀ Mx : ab_M, la_P M Mx md W1 W2 → K [] Mx) ∧ ∃ N, pz_rdn M N ∧ N 797 29 ≠ md ∧ e ≤ N 797 10 ∧ la_C (la_0 N md) e.toNat md W1 W2 M1 ∧ la_I N M1 md e.toNat)
      | _, _, _ => False, ?_, ?_⟩
    · exact vc_X9_lay_0 md M K  hS
    · intro pc n L st M1 hI wd1 wL wst
      (try dsimp only at hI)
      split at hI
      ·
        rename_i m1 e
        exact vc_X9_lay_30 md M K  hS n m1 e _ hI
      · exact hI.elim
  · exact hS.elim
