/-! the passive form by the events, statement by statement -/
theorem tr_a_push {M M' : ab_M} {e : Nat} (h93 : ∀ k, M' 806 k = M 806 k) (h99 : ∀ k, M' 812 k = M 812 k) (h0 : 0 ≤ M 797 27) (h27 : M' 797 27 = M 797 27 + 1) (hd : M' 815 (M 797 27).toNat = (e : Int)) (hk : ∀ k : Nat, (k : Int) < M 797 27 → M' 815 k = M 815 k) : tr_a M' (M' 797 27).toNat = if M 806 e = 3 then M 812 e else tr_a M (M 797 27).toNat := by
  have hlow : ∀ n : Nat, (n : Int) ≤ M 797 27 → tr_a M' n = tr_a M n := by
    intro n
    induction n with
    | zero => intro _; rfl
    | succ n ih =>
      intro hn
      show (if M' 806 (M' 815 n).toNat = 3 then M' 812 (M' 815 n).toNat else tr_a M' n) = (if M 806 (M 815 n).toNat = 3 then M 812 (M 815 n).toNat else tr_a M n)
      rw [ih (by omega), hk n (by omega), h93, h99]
  rw [h27, show (M 797 27 + 1).toNat = (M 797 27).toNat + 1 by omega]
  show (if M' 806 (M' 815 (M 797 27).toNat).toNat = 3 then M' 812 (M' 815 (M 797 27).toNat).toNat else tr_a M' (M 797 27).toNat) = _
  rw [hd, hlow _ (by omega), h93, h99, show ((e : Int)).toNat = e from rfl]
theorem tr_a_eq {M M' : ab_M} (h93 : ∀ k, M' 806 k = M 806 k) (h99 : ∀ k, M' 812 k = M 812 k) (h27 : M' 797 27 = M 797 27) (hk : ∀ k : Nat, (k : Int) < M 797 27 → M' 815 k = M 815 k) : tr_a M' (M' 797 27).toNat = tr_a M (M 797 27).toNat := by
  have hlow : ∀ n : Nat, (n : Int) ≤ M 797 27 → tr_a M' n = tr_a M n := by
    intro n
    induction n with
    | zero => intro _; rfl
    | succ n ih =>
      intro hn
      show (if M' 806 (M' 815 n).toNat = 3 then M' 812 (M' 815 n).toNat else tr_a M' n) = (if M 806 (M 815 n).toNat = 3 then M 812 (M 815 n).toNat else tr_a M n)
      rw [ih (by omega), hk n (by omega), h93, h99]
  rw [h27]
  by_cases c : 0 ≤ M 797 27
  · exact hlow _ (by omega)
  · rw [show (M 797 27).toNat = 0 by omega]; rfl
/-- the throws of a tree, of a statement: what is said of a stretch of events -/
def pq_T (N : ab_M) (m : Nat → ab_M) (n : Nat) (L : Nat → List pz_Ev → Prop) (F : ps_V → ps_S → ps_R) : Prop := True
def pq_ch (N : ab_M) (m : Nat → ab_M) (a b : Nat) : Prop := (∀ i, a ≤ i → i < b → pR i (m i) (m (i + 1))) ∧ ∀ i, a ≤ i → i ≤ b → pa_S (m i) i ∧ ev_E N (m i) ∧ 0 ≤ m i 797 27
theorem pq_ch.sub {N : ab_M} {m : Nat → ab_M} {a b c d : Nat} (h : pq_ch N m a b) (h1 : a ≤ c) (h2 : d ≤ b) : pq_ch N m c d := ⟨fun i x y => h.1 i (by omega) (by omega), fun i x y => h.2 i (by omega) (by omega)⟩
/-- over a stretch of events, in both cases: it is come to, or not -/
def pq_R (m : Nat → ab_M) (a b : Nat) (F : ps_V → ps_S → ps_R) : Prop := ∀ τ : Int, τ = tr_a (m a) (m a 797 27).toNat → τ < (a : Int) → (∀ its : Int, (a : Int) ≤ its → ∀ v, v < 4 → pO_L (m a) its v = []) →
  (∀ V st, (m a 797 57 = 1 ∧ (∀ v, v < 4 → m a 834 v = V v) ∧ pq_g (m a) st) → pq_F (m a) (m b) a b τ (F V st).2.2 ∧ pq_e (m b) (F V st).2.1 (F V st).1) ∧
  (m a 797 57 = 0 → ∀ st, pq_g (m a) st → pq_F (m a) (m b) a b τ [] ∧ m b 797 57 = 0 ∧ pq_g (m b) st)
theorem pq_R.cg {m : Nat → ab_M} {a b : Nat} {F G : ps_V → ps_S → ps_R} (h : pq_R m a b F) (e : ∀ V st, F V st = G V st) : pq_R m a b G := fun τ t1 t2 t3 => by
  obtain ⟨h1, h2⟩ := h τ t1 t2 t3
  exact ⟨fun V st q => by rw [← e]; exact h1 V st q, h2⟩
/-- the event of a statement: come to -/
theorem pq_stm {N M M' : ab_M} {e : Nat} {V : ps_V} {st : ps_S} (hN : ev_E N M) (hS : pa_S M e) (hR : pR e M M') (h8 : M 805 e ≤ 8) (h57 : M 797 57 = 1) (hV : ∀ v, v < 4 → M 834 v = V v) (hg : pq_g M st) :
    ∃ S : Nat → Bool, ((M 805 e = 0 ∨ M 805 e = 1 ∨ M 805 e = 5) → ∀ v, S v = decide ((v : Int) = M 806 e)) ∧ (M 805 e = 7 → ∃ a, pa_any M e a ∧ ∀ v, S v = pz_b a v) ∧ (¬ (M 805 e = 0 ∨ M 805 e = 1 ∨ M 805 e = 5 ∨ M 805 e = 7) → ∀ v, S v = false) ∧
      (∀ v, v < 4 → M' 834 v = (ps_rn (st.1, st.2.1, st.2.2 + (1 + M 808 e + (if M 805 e = 7 then 3 else 1) * M 810 e)) V S).2 v) ∧ pq_g M' (ps_rn (st.1, st.2.1, st.2.2 + (1 + M 808 e + (if M 805 e = 7 then 3 else 1) * M 810 e)) V S).1 ∧ (∀ v, v < 4 → M' 836 (4 * e + v) = M' 834 v) ∧ M' 839 e = 1 ∧ M' 797 57 = (if M 805 e = 4 then 0 else 1) ∧
      (M' 797 27 = M 797 27 ∧ ∀ k, M' 815 k = M 815 k) ∧ (∀ k, ¬ (4 * e ≤ k ∧ k < 4 * (e + 1)) → M' 836 k = M 836 k ∧ M' 837 k = M 837 k) ∧ (∀ k, ¬ (e ≤ k ∧ k < e + 1) → M' 838 k = M 838 k ∧ M' 839 k = M 839 k) ∧
      ∀ its : Int, ∀ v, v < 4 → pO_L M' its v = pO_L M its v ++ (if M 805 e = 4 ∧ its = tr_a M (M 797 27).toNat ∧ its ≠ -9 then [V v] else []) := by
  obtain ⟨S, p1, p2, p3, q1, q2, q3, q4, q5, q6, q7, q8⟩ := (hR.2.2 h8).2 h57
  have g0 : ∀ o k : Nat, o ≠ 839 → ab_up M 839 e (M 797 57) o k = M o k := fun o k q => ab_up_o q _
  rw [g0 805 _ (by decide), g0 806 _ (by decide)] at p1
  rw [g0 805 _ (by decide)] at p2 p3
  rw [g0 805 _ (by decide)] at q5
  rw [g0 797 66 (by decide)] at q6 q7
  have hE := (hR.2.2 h8).E (Or.inr h57)
  have hx : pS_x (ab_up M 839 e (M 797 57)) e = st.2.2 + (1 + M 808 e + (if M 805 e = 7 then 3 else 1) * M 810 e) := by
    unfold pS_x
    rw [g0 797 _ (by decide), g0 808 _ (by decide), g0 805 _ (by decide), g0 810 _ (by decide), hg.2.2]
  have htr : tr_a (ab_up M 839 e (M 797 57)) (ab_up M 839 e (M 797 57) 797 27).toNat = tr_a M (M 797 27).toNat := tr_a_eq (fun k => g0 _ _ (by decide)) (fun k => g0 _ _ (by decide)) (g0 _ _ (by decide)) (fun k _ => g0 _ _ (by decide))
  have fr : ∀ o k : Nat, o ≠ 839 → ¬ (o = 797 ∧ (k = 57 ∨ k = 59 ∨ k = 66)) → ¬ (o = 834 ∧ k < 4) → ¬ (o = 835 ∧ k < 4) → ¬ (o = 836 ∧ 4 * e ≤ k ∧ k < 4 * e + 4) → o ≠ 840 → o ≠ 841 → M' o k = M o k := fun o k a b c d f g h => by
    rw [q8 o k b c d f (fun x => by have := x.2; omega), g0 o k a]
  refine ⟨S, p1, fun z => ?_, p3, fun v hv => ?_, ⟨fun v hv => ?_, ?_, ?_⟩, q3, ?_, ?_, ⟨hE.2.1, hE.2.2⟩, fun k q => ⟨fr _ _ (by decide) (by omega) (by omega) (by omega) (by omega) (by decide) (by decide), fr _ _ (by decide) (by omega) (by omega) (by omega) (by omega) (by decide) (by decide)⟩, fun k q => ⟨fr _ _ (by decide) (by omega) (by omega) (by omega) (by omega) (by decide) (by decide), ?_⟩, fun its v hv => ?_⟩
  · obtain ⟨a, ⟨n, y1, y2, y3, y4⟩, hb⟩ := p2 z
    refine ⟨a, ⟨n, ?_, y2, ?_, fun j hj => ?_⟩, hb⟩
    · rw [y1]; exact an_s_fr (fun k => g0 _ _ (by decide)) (fun k => g0 _ _ (by decide)) _ _
    · rw [g0 _ _ (by decide), g0 _ _ (by decide)] at y3; exact y3
    · have := y4 j hj
      rw [g0 _ _ (by decide), g0 _ _ (by decide)] at this
      exact this
  · rw [q2 v hv, g0 _ _ (by decide), g0 _ _ (by decide), hg.1 v hv, hV v hv]
    rfl
  · rw [q1 v hv, g0 _ _ (by decide), hg.1 v hv]
    rfl
  · rw [fr 797 58 (by decide) (by omega) (by omega) (by omega) (by omega) (by decide) (by decide)]; exact hg.2.1
  · rw [q4, hx]
    rfl
  · rw [q8 839 e (by omega) (by omega) (by omega) (by omega) (fun x => by have := x.2; omega), ab_up_s]; exact h57
  · rw [q5, g0 _ _ (by decide), h57]
  · rw [q8 839 k (by omega) (by omega) (by omega) (by omega) (fun x => by have := x.2; omega), ab_up_k (by omega)]
  · have htS : pS_t (ab_up M 839 e (M 797 57)) e ↔ M 805 e = 4 ∧ tr_a M (M 797 27).toNat ≠ -9 := by
      unfold pS_t
      rw [htr, g0 _ _ (by decide)]
    by_cases z : pS_t (ab_up M 839 e (M 797 57)) e
    · have z2 := htS.1 z
      obtain ⟨y1, y2, y3⟩ := q6 z
      rw [htr] at y2
      have h0 := hS.2.1.1
      show jv_L M' its (v : Int) (M' 797 66).toNat = _
      rw [y1, show (M 797 66 + 1).toNat = (M 797 66).toNat + 1 by omega]
      have low : ∀ n : Nat, n ≤ (M 797 66).toNat → jv_L M' its (v : Int) n = jv_L M its (v : Int) n := by
        intro n
        induction n with
        | zero => intro _; rfl
        | succ n ih =>
          intro hn
          show jv_L M' its (v : Int) n ++ _ = jv_L M its (v : Int) n ++ _
          have e1 : M' 841 n = M 841 n := by rw [q8 841 n (by omega) (by omega) (by omega) (by omega) (fun x => by rw [g0 797 66 (by decide)] at x; omega), g0 _ _ (by decide)]
          have e2 : M' 840 (4 * n + ((v : Int)).toNat) = M 840 (4 * n + ((v : Int)).toNat) := by
            have : ((v : Int)).toNat = v := rfl
            rw [this, q8 840 _ (by omega) (by omega) (by omega) (by omega) (fun x => by rw [g0 797 66 (by decide)] at x; omega), g0 _ _ (by decide)]
          rw [ih (by omega), e1, e2]
      show jv_L M' its (v : Int) (M 797 66).toNat ++ _ = _
      rw [low _ (Nat.le_refl _)]
      have e3 : M' 840 (4 * (M 797 66).toNat + ((v : Int)).toNat) = V v := by
        have := y3 v hv
        rw [g0 834 _ (by decide), hV v hv] at this
        exact this
      rw [y2, e3]
      congr 1
      by_cases c : tr_a M (M 797 27).toNat = its
      · rw [if_pos c, if_pos ⟨z2.1, c.symm, by rw [← c]; exact z2.2⟩]
      · rw [if_neg c, if_neg (fun x => c x.2.1.symm)]
    · have h66 := q7 z
      have z2 : ¬ (M 805 e = 4 ∧ its = tr_a M (M 797 27).toNat ∧ its ≠ -9) := fun x => z (htS.2 ⟨x.1, by rw [← x.2.1]; exact x.2.2⟩)
      rw [if_neg z2, List.append_nil]
      exact pO_L_fr (fun k => by rw [q8 840 k (by omega) (by omega) (by omega) (by omega) (fun x => z x.1), g0 _ _ (by decide)]) (fun k => by rw [q8 841 k (by omega) (by omega) (by omega) (by omega) (fun x => z x.1), g0 _ _ (by decide)]) h66 its v
/-- the event of a statement: not come to -/
theorem pq_stm0 {M M' : ab_M} {e : Nat} {st : ps_S} (hR : pR e M M') (h8 : M 805 e ≤ 8) (h57 : M 797 57 = 0) (hg : pq_g M st) : M' = ab_up M 839 e 0 ∧ pq_g M' st ∧ M' 797 57 = 0 := by
  have h := (hR.2.2 h8).1 h57
  rw [h57] at h
  subst h
  refine ⟨rfl, ⟨fun v hv => ?_, ?_, ?_⟩, ?_⟩
  · rw [ab_up_o (by decide)]; exact hg.1 v hv
  · rw [ab_up_o (by decide)]; exact hg.2.1
  · rw [ab_up_o (by decide)]; exact hg.2.2
  · rw [ab_up_o (by decide)]; exact h57
/-- a second block closes -/
theorem pq_join {M M' : ab_M} {e e1 : Nat} {ea eb : Option ps_V} {st : ps_S} (hR : pR e M M') (h10 : M 805 e = 10) (hw : M 806 e = 1 ∨ M 806 e = 4) (hh : M 812 e = (e1 : Int)) (h25 : (∀ V, ea = some V → M 838 e1 = 1 ∧ ∀ v, v < 4 → M 837 (4 * e1 + v) = V v) ∧ (ea = none → M 838 e1 = 0)) (hb : pq_e M eb st) :
    pq_e M' (ps_jn st ea eb).2 (ps_jn st ea eb).1 ∧ M' 797 27 = M 797 27 - 1 ∧ ∀ o k : Nat, ¬ (o = 797 ∧ (k = 27 ∨ k = 57 ∨ k = 58)) → ¬ (o = 834 ∧ k < 4) → ¬ (o = 835 ∧ k < 4) → M' o k = M o k := by
  obtain ⟨-, -, c3⟩ := hR.2.1 h10
  have hj := c3 hw
  rw [hh, show ((e1 : Int)).toNat = e1 from rfl] at hj
  have g : ∀ o k : Nat, ¬ (o = 797 ∧ k = 27) → ab_up M 797 27 (M 797 27 - 1) o k = M o k := fun o k q => up_ne q
  have g27 : ab_up M 797 27 (M 797 27 - 1) 797 27 = M 797 27 - 1 := ab_up_s
  obtain ⟨j1, j2, j3⟩ := hj
  rw [g 838 _ (by omega), g 797 57 (by omega)] at j1 j2
  rw [g 838 _ (by omega)] at j3
  obtain ⟨b1, b2, b3, b4, b5⟩ := hb
  have fr : ∀ {X : ab_M}, jb_f (ab_up M 797 27 (M 797 27 - 1)) X → X 797 27 = M 797 27 - 1 ∧ X 797 59 = M 797 59 ∧ ∀ o k : Nat, ¬ (o = 797 ∧ (k = 27 ∨ k = 57 ∨ k = 58)) → ¬ (o = 834 ∧ k < 4) → ¬ (o = 835 ∧ k < 4) → X o k = M o k := fun h => ⟨(h 797 27 (by omega) (by omega) (by omega)).trans g27, (h 797 59 (by omega) (by omega) (by omega)).trans (g _ _ (by omega)), fun o k q1 q2 q3 => (h o k q2 q3 (by omega)).trans (g o k (by omega))⟩
  cases ea with
  | none =>
    have h := j3 (h25.2 rfl)
    subst h
    refine ⟨⟨fun V hV => ?_, fun q => ?_, ⟨fun v hv => ?_, ?_, ?_⟩⟩, g27, fun o k q1 _ _ => g o k (by omega)⟩
    · obtain ⟨z1, z2⟩ := b1 V hV
      exact ⟨by rw [g _ _ (by omega)]; exact z1, fun v hv => by rw [g _ _ (by omega)]; exact z2 v hv⟩
    · rw [g _ _ (by omega)]; exact b2 q
    · rw [g _ _ (by omega)]; exact b3 v hv
    · rw [g _ _ (by omega)]; exact b4
    · rw [g _ _ (by omega)]; exact b5
  | some V =>
    obtain ⟨y1, y2⟩ := h25.1 V rfl
    cases eb with
    | none =>
      obtain ⟨k1, k2, k3, k4, k5⟩ := j2 ⟨y1, b2 rfl⟩
      obtain ⟨f1, f2, f3⟩ := fr k5
      refine ⟨⟨fun W hW => ?_, fun q => (by cases q), ⟨fun v hv => ?_, ?_, ?_⟩⟩, f1, f3⟩
      · cases hW
        exact ⟨k4, fun v hv => by rw [k1 v hv, g _ _ (by omega)]; exact y2 v hv⟩
      · rw [k2 v hv, g _ _ (by omega)]; exact b3 v hv
      · rw [k3, g _ _ (by omega)]; exact b4
      · rw [f2]; exact b5
    | some W =>
      obtain ⟨z1, z2⟩ := b1 W rfl
      obtain ⟨k1, k2, k3, k4, k5⟩ := j1 ⟨y1, z1⟩
      obtain ⟨f1, f2, f3⟩ := fr k5
      have hS : ∀ v, v < 4 → jb_S (ab_up M 797 27 (M 797 27 - 1)) e1 v = ps_df V W v := fun v hv => by
        unfold jb_S ps_df
        rw [g _ _ (by omega), g _ _ (by omega), y2 v hv, z2 v hv]
      obtain ⟨r1, r2⟩ := rn_k_4 (ab_up M 797 27 (M 797 27 - 1) 835, 0, 0) (ab_up M 797 27 (M 797 27 - 1) 834) (jb_S (ab_up M 797 27 (M 797 27 - 1)) e1)
      have hv1 : ∀ v, v < 4 → M' 835 v = st.1 v + (if ps_df V W v = true then 1 else 0) := fun v hv => by
        rw [k1 v hv, r1 v hv]
        show ab_up M 797 27 (M 797 27 - 1) 835 v + (if jb_S (ab_up M 797 27 (M 797 27 - 1)) e1 v = true then 1 else 0) = _
        rw [hS v hv, g _ _ (by omega), b3 v hv]
      have hv2 : ∀ v, v < 4 → M' 834 v = if ps_df V W v = true then st.1 v + 1 else V v := fun v hv => by
        rw [k2 v hv, r2 v hv]
        show (if jb_S (ab_up M 797 27 (M 797 27 - 1)) e1 v = true then ab_up M 797 27 (M 797 27 - 1) 835 v + 1 else ab_up M 797 27 (M 797 27 - 1) 834 v) = _
        rw [hS v hv, g _ _ (by omega), g _ _ (by omega), b3 v hv, z2 v hv]
        by_cases c : ps_df V W v = true
        · rw [if_pos c, if_pos c]
        · rw [if_neg c, if_neg c]
          have : ¬ (v < 4 ∧ V v ≠ W v) := fun q => c (decide_eq_true q)
          exact (Classical.byContradiction fun q => this ⟨hv, fun x => q x.symm⟩)
      have hcnt : ps_cnt (fun v => decide (v < 4) && jb_S (ab_up M 797 27 (M 797 27 - 1)) e1 v) = ps_cnt (ps_df V W) := by
        unfold ps_cnt
        simp only [hS 0 (by decide), hS 1 (by decide), hS 2 (by decide), hS 3 (by decide)]
        simp
      refine ⟨⟨fun U hU => ?_, fun q => (by cases q), ⟨hv1, ?_, ?_⟩⟩, f1, f3⟩
      · cases hU
        refine ⟨by rw [k4, g _ _ (by omega)]; exact z1, hv2⟩
      · rw [k3, hcnt, g _ _ (by omega), b4]
        rfl
      · rw [f2]; exact b5
/-- a block opens: what stays -/
theorem pq_open {M M' : ab_M} {e : Nat} (hR : pR e M M') (h9 : M 805 e = 9) : (M' 797 27 = M 797 27 + 1 ∧ M' 815 (M 797 27).toNat = (e : Int) ∧ ∀ k : Nat, (k : Int) < M 797 27 → M' 815 k = M 815 k) ∧ (∀ o k : Nat, o ≠ 797 → o ≠ 815 → o ≠ 834 → o ≠ 835 → M' o k = M o k) ∧ M' 797 66 = M 797 66 ∧ M' 797 59 = M 797 59 := by
  obtain ⟨⟨p1, p2⟩, -, -, -, p6⟩ := hR.1 h9
  exact ⟨⟨p1, p2, fun k hk => p6 815 k (by omega) (by omega) (by omega) (by omega)⟩, fun o k a b c d => p6 o k (by omega) (by omega) (by omega) (by omega), p6 _ _ (by omega) (by omega) (by omega) (by omega), p6 _ _ (by omega) (by omega) (by omega) (by omega)⟩
/-- a block between its ends: what of the rest changes -/
theorem pq_blk {m1 m2 m3 m4 : ab_M} {e1 o f : Nat} {w w' τ : Int} {th : List ps_V} (h1 : e1 < o) (h2 : o < f) (hR1 : pR o m1 m2) (o1 : m1 805 o = 9) (hS3 : pa_S m3 f) (hF : pq_F m2 m3 (o + 1) f (if w = 3 then (e1 : Int) else τ) th) (hR3 : pR f m3 m4) (l1 : m3 805 f = 10) (l2 : m3 806 f = w') (hw' : 0 ≤ w' ∧ w' ≤ 4) (l3 : m3 812 f = (e1 : Int)) :
    pq_F m1 m4 e1 (f + 1) τ (if w = 3 then [] else th) ∧ m4 797 27 = m3 797 27 - 1 ∧ m4 797 66 = m3 797 66 ∧ (∀ o' k : Nat, ¬ (o' = 797 ∧ (k = 27 ∨ k = 57 ∨ k = 58)) → ¬ (o' = 834 ∧ k < 4) → ¬ (o' = 835 ∧ k < 4) → ¬ (o' = 837 ∧ (w' = 0 ∨ w' = 3) ∧ 4 * e1 ≤ k ∧ k < 4 * e1 + 4) → ¬ (o' = 838 ∧ (w' = 0 ∨ w' = 3) ∧ k = e1) → m4 o' k = m3 o' k) ∧ (∀ v, v < 4 → pO_L m4 (e1 : Int) v = pO_L m1 (e1 : Int) v ++ (if w = 3 then th.map (fun U => U v) else if (e1 : Int) = τ ∧ τ ≠ -9 then th.map (fun U => U v) else [])) := by
  obtain ⟨⟨a1, a2, a3⟩, a4, a5, a6⟩ := pq_open hR1 o1
  obtain ⟨⟨f1, f2⟩, f3, f4, f5, f6⟩ := hF
  obtain ⟨c1, c2⟩ := (hR3.2.1 l1).fr (by rw [l2]; exact hw') hS3.2.2.2.2.1 hS3.2.2.2.1 hS3.2.2.1
  rw [l2, l3, show ((e1 : Int)).toNat = e1 from rfl] at c2
  have hl4 : ∀ (its : Int) (v : Nat), pO_L m4 its v = pO_L m3 its v := fun its v => pO_L_fr (fun k => c2 840 k (by omega) (by omega) (by omega) (by omega) (by omega)) (fun k => c2 841 k (by omega) (by omega) (by omega) (by omega) (by omega)) (c2 797 66 (by omega) (by omega) (by omega) (by omega) (by omega)) its v
  have hl2 : ∀ (its : Int) (v : Nat), pO_L m2 its v = pO_L m1 its v := fun its v => pO_L_fr (fun k => a4 840 k (by decide) (by decide) (by decide) (by decide)) (fun k => a4 841 k (by decide) (by decide) (by decide) (by decide)) a5 its v
  have h23 : ∀ k, m2 836 k = m1 836 k ∧ m2 837 k = m1 837 k ∧ m2 838 k = m1 838 k ∧ m2 839 k = m1 839 k := fun k => ⟨a4 _ _ (by decide) (by decide) (by decide) (by decide), a4 _ _ (by decide) (by decide) (by decide) (by decide), a4 _ _ (by decide) (by decide) (by decide) (by decide), a4 _ _ (by decide) (by decide) (by decide) (by decide)⟩
  refine ⟨⟨⟨by omega, fun k hk => ?_⟩, fun k q => ⟨?_, ?_⟩, fun k q => ⟨?_, ?_⟩, fun its hi v hv => ?_, fun its hi v hv => ?_⟩, c1, c2 797 66 (by omega) (by omega) (by omega) (by omega) (by omega), c2, fun v hv => ?_⟩
  · rw [c2 815 k (by omega) (by omega) (by omega) (by omega) (by omega), f2 k (by omega), a3 k hk]
  · rw [c2 836 k (by omega) (by omega) (by omega) (by omega) (by omega), (f3 k (by omega)).1, (h23 k).1]
  · rw [c2 837 k (by omega) (by omega) (by omega) (by omega) (by omega), (f3 k (by omega)).2, (h23 k).2.1]
  · rw [c2 838 k (by omega) (by omega) (by omega) (by omega) (by omega), (f4 k (by omega)).1, (h23 k).2.2.1]
  · rw [c2 839 k (by omega) (by omega) (by omega) (by omega) (by omega), (f4 k (by omega)).2, (h23 k).2.2.2]
  · rw [hl4, f5 its (by omega) v hv, hl2]
    congr 1
    by_cases c : w = 3
    · rw [if_pos c, if_pos c, if_neg (by omega)]
      simp
    · rw [if_neg c, if_neg c]
  · rw [hl4, f6 its (by omega) v hv, hl2]
  · rw [hl4, f5 (e1 : Int) (by omega) v hv, hl2]
    congr 1
    by_cases c : w = 3
    · rw [if_pos c, if_pos c, if_pos ⟨rfl, by omega⟩]
    · rw [if_neg c, if_neg c]
