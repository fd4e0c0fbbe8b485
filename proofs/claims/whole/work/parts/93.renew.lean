/-! small methods of the passive form -/
theorem pz_mk_orb (s : Nat → Bool) {k : Nat} (hk : k < 4) : ab_or (pz_mk s) (ab_shl 1 (k : Int)) = pz_mk (fun v => decide (v = k) || s v) := by
  have key : ∀ (k : Fin 4), ∀ a b c d : Bool, ab_or (pz_mk4 a b c d) (ab_shl 1 ((k.val : Nat) : Int)) = pz_mk4 (decide (0 = k.val) || a) (decide (1 = k.val) || b) (decide (2 = k.val) || c) (decide (3 = k.val) || d) := by decide +kernel
  exact key ⟨k, hk⟩ (s 0) (s 1) (s 2) (s 3)
theorem pz_mk_b (s : Nat → Bool) {v : Nat} (hv : v < 4) : pz_b (pz_mk s) v = s v := by
  have key : ∀ (v : Fin 4), ∀ a b c d : Bool, pz_b (pz_mk4 a b c d) v.val = (if v.val = 0 then a else if v.val = 1 then b else if v.val = 2 then c else d) := by decide +kernel
  have := key ⟨v, hv⟩ (s 0) (s 1) (s 2) (s 3)
  refine this.trans ?_
  have : v = 0 ∨ v = 1 ∨ v = 2 ∨ v = 3 := by omega
  rcases this with rfl | rfl | rfl | rfl <;> rfl
theorem pz_mk_cg {s s' : Nat → Bool} (h : ∀ v, v < 4 → s v = s' v) : pz_mk s = pz_mk s' := by
  unfold pz_mk
  rw [h 0 (by decide), h 1 (by decide), h 2 (by decide), h 3 (by decide)]
theorem pz_mk_rng (s : Nat → Bool) : 0 ≤ pz_mk s ∧ pz_mk s ≤ 15 := by
  have key : ∀ a b c d : Bool, 0 ≤ pz_mk4 a b c d ∧ pz_mk4 a b c d ≤ 15 := by decide +kernel
  exact key _ _ _ _
theorem pk_cg {V W : Nat → Int} (h : ∀ v, v < 4 → V v = W v) : pk V = pk W := by
  unfold pk
  rw [h 0 (by decide), h 1 (by decide), h 2 (by decide), h 3 (by decide)]
/-- the state of the passive form in memory -/
def ps_M (M : ab_M) (st : ps_S) : Prop := (∀ v, v < 4 → M 791 v = st.1 v) ∧ M 790 2 = st.2.1 ∧ M 790 3 = st.2.2
def ps_N (M M' : ab_M) : Prop := ∀ o k : Nat, ¬ (o = 790 ∧ (k = 2 ∨ k = 3)) → ¬ (o = 791 ∧ k < 4) → M' o k = M o k
def ps_g (st : ps_S) : Prop := ∀ v, v < 4 → 0 ≤ st.1 v ∧ st.1 v < 32767
def pe (e : Option ps_V) : Int := match e with
  | none => -1
  | some V => pk V
theorem ab_ir_small {z : Int} (h : 0 ≤ z ∧ z < 32768) : ab_ir z := ⟨by omega, by omega⟩
/-- renewing the first variables -/
def rn_k (st : ps_S) (V : ps_V) (S : Nat → Bool) (k : Nat) : ps_S × ps_V := ps_rn st V (fun v => decide (v < k) && S v)
theorem rn_k_0 (st : ps_S) (V : ps_V) (S : Nat → Bool) : (∀ v, (rn_k st V S 0).1.1 v = st.1 v) ∧ ∀ v, (rn_k st V S 0).2 v = V v := by
  refine ⟨fun v => ?_, fun v => ?_⟩
  · show st.1 v + (if (decide (v < 0) && S v) = true then 1 else 0) = _
    rw [decide_eq_false (Nat.not_lt_zero _)]
    simp
  · show (if (decide (v < 0) && S v) = true then st.1 v + 1 else V v) = _
    rw [decide_eq_false (Nat.not_lt_zero _)]
    simp
theorem rn_k_s (st : ps_S) (V : ps_V) (S : Nat → Bool) (k : Nat) : (∀ v, (rn_k st V S (k + 1)).1.1 v = if v = k ∧ S k = true then st.1 k + 1 else (rn_k st V S k).1.1 v) ∧ ∀ v, (rn_k st V S (k + 1)).2 v = if v = k ∧ S k = true then st.1 k + 1 else (rn_k st V S k).2 v := by
  refine ⟨fun v => ?_, fun v => ?_⟩
  · show st.1 v + (if (decide (v < k + 1) && S v) = true then 1 else 0) = if v = k ∧ S k = true then st.1 k + 1 else st.1 v + (if (decide (v < k) && S v) = true then 1 else 0)
    by_cases e : v = k
    · subst e
      rw [decide_eq_true (Nat.lt_succ_self _), decide_eq_false (Nat.lt_irrefl _)]
      cases S v <;> simp
    · rw [if_neg (show ¬ (v = k ∧ S k = true) from fun q => e q.1), show decide (v < k + 1) = decide (v < k) from decide_eq_decide.2 ⟨fun q => by omega, fun q => by omega⟩]
  · show (if (decide (v < k + 1) && S v) = true then st.1 v + 1 else V v) = if v = k ∧ S k = true then st.1 k + 1 else (if (decide (v < k) && S v) = true then st.1 v + 1 else V v)
    by_cases e : v = k
    · subst e
      rw [decide_eq_true (Nat.lt_succ_self _), decide_eq_false (Nat.lt_irrefl _)]
      cases S v <;> simp
    · rw [if_neg (show ¬ (v = k ∧ S k = true) from fun q => e q.1), show decide (v < k + 1) = decide (v < k) from decide_eq_decide.2 ⟨fun q => by omega, fun q => by omega⟩]
theorem rn_k_4 (st : ps_S) (V : ps_V) (S : Nat → Bool) : (∀ v, v < 4 → (rn_k st V S 4).1.1 v = (ps_rn st V S).1.1 v) ∧ ∀ v, v < 4 → (rn_k st V S 4).2 v = (ps_rn st V S).2 v := by
  refine ⟨fun v hv => ?_, fun v hv => ?_⟩
  · show st.1 v + (if (decide (v < 4) && S v) = true then 1 else 0) = st.1 v + (if S v = true then 1 else 0)
    rw [decide_eq_true hv, Bool.true_and]
  · show (if (decide (v < 4) && S v) = true then st.1 v + 1 else V v) = (if S v = true then st.1 v + 1 else V v)
    rw [decide_eq_true hv, Bool.true_and]
theorem rn_k_ok {st : ps_S} {V : ps_V} {S : Nat → Bool} (hV : pk_ok V) (hg : ps_g st) (k : Nat) : pk_ok (rn_k st V S k).2 := fun v hv => by
  have := hV v hv
  have := hg v hv
  show 0 ≤ (if (decide (v < k) && S v) = true then st.1 v + 1 else V v) ∧ (if (decide (v < k) && S v) = true then st.1 v + 1 else V v) < 32768
  split <;> omega
/-- how one more is renewed -/
theorem rn_step {M1 : ab_M} {st : ps_S} {V : ps_V} {S : Nat → Bool} {k : Nat} {now : Int} (hk : k < 4) (hV : pk_ok V) (hg : ps_g st) (hM : ps_M M1 (rn_k st V S k).1) (hn : now = pk (rn_k st V S k).2) (hS : S k = true) :
    ps_M (ab_up M1 791 k (M1 791 k + 1)) (rn_k st V S (k + 1)).1 ∧ ab_lor (ab_land now (ab_lxor (ab_lshl 32767 (15 * (k : Int))) (-1))) (ab_lshl (M1 791 k + 1) (15 * (k : Int))) = pk (rn_k st V S (k + 1)).2 := by
  obtain ⟨s1, s2⟩ := rn_k_s st V S k
  have hkk : M1 791 k = st.1 k := by
    rw [hM.1 k hk]
    show st.1 k + (if (decide (k < k) && S k) = true then 1 else 0) = _
    rw [decide_eq_false (Nat.lt_irrefl _)]
    simp
  have hgk := hg k hk
  refine ⟨⟨fun v hv => ?_, ?_, ?_⟩, ?_⟩
  · rw [s1 v]
    by_cases e : v = k
    · subst e
      rw [ab_up_s, if_pos (show v = v ∧ S v = true from ⟨rfl, hS⟩), hkk]
    · rw [ab_up_k e, if_neg (show ¬ (v = k ∧ S k = true) from fun q => e q.1)]
      exact hM.1 v hv
  · rw [ab_up_o (by decide)]; exact hM.2.1
  · rw [ab_up_o (by decide)]; exact hM.2.2
  · rw [hn, hkk, pk_set (rn_k_ok hV hg k) hk (by omega) (by omega)]
    refine pk_cg fun v hv => ?_
    rw [s2 v]
    show (if v = k then st.1 k + 1 else (rn_k st V S k).2 v) = _
    by_cases e : v = k
    · rw [if_pos e, if_pos (show v = k ∧ S k = true from ⟨e, hS⟩)]
    · rw [if_neg e, if_neg (show ¬ (v = k ∧ S k = true) from fun q => e q.1)]
theorem rn_skip {M1 : ab_M} {st : ps_S} {V : ps_V} {S : Nat → Bool} {k : Nat} (hM : ps_M M1 (rn_k st V S k).1) (hS : ¬ S k = true) : ps_M M1 (rn_k st V S (k + 1)).1 ∧ pk (rn_k st V S k).2 = pk (rn_k st V S (k + 1)).2 := by
  obtain ⟨s1, s2⟩ := rn_k_s st V S k
  refine ⟨⟨fun v hv => ?_, hM.2.1, hM.2.2⟩, pk_cg fun v hv => ?_⟩
  · rw [s1 v, if_neg (show ¬ (v = k ∧ S k = true) from fun q => hS q.2)]
    exact hM.1 v hv
  · rw [s2 v, if_neg (show ¬ (v = k ∧ S k = true) from fun q => hS q.2)]
/-- what throws have been met for a try -/
def th_R (M : ab_M) (th : List ps_V) (c : Nat) : Prop := M 792 c = ((th.length : Nat) : Int) ∧ (th = [] → M 794 c = 0) ∧ ∀ V0 rest, th = V0 :: rest → M 793 c = pk V0 ∧ M 794 c = pz_mk (ps_tS V0 th)
theorem th_R.add {M M' : ab_M} {th : List ps_V} {c : Nat} {V : ps_V} (h : th_R M th c) (hM : M' = if M 792 c = 0 then ab_up (ab_up (ab_up M 793 c (pk V)) 792 c (M 792 c + 1)) 794 c (ab_or (M 794 c) (pz_mk (ps_df V V))) else ab_up (ab_up M 792 c (M 792 c + 1)) 794 c (ab_or (M 794 c) (pz_mk (ps_df (th.headD V) V)))) : th_R M' (th ++ [V]) c := by
  obtain ⟨h1, h2, h3⟩ := h
  have hor : ∀ s s' : Nat → Bool, ab_or (pz_mk s) (pz_mk s') = pz_mk (fun v => s v || s' v) := fun s s' => by
    have key : ∀ a b c d a' b' c' d' : Bool, ab_or (pz_mk4 a b c d) (pz_mk4 a' b' c' d') = pz_mk4 (a || a') (b || b') (c || c') (d || d') := by decide +kernel
    exact key _ _ _ _ _ _ _ _
  have hself : ∀ v, ps_df V V v = false := fun v => decide_eq_false fun q => q.2 rfl
  cases th with
  | nil =>
    have e0 : M 792 c = 0 := h1
    rw [if_pos e0] at hM
    refine ⟨?_, fun q => absurd q (by simp), fun V0 rest q => ?_⟩
    · rw [hM, ab_up_o (by decide), ab_up_s, e0]; rfl
    · have e1 : V = V0 := by simpa using (List.cons.inj q).1
      subst e1
      refine ⟨by rw [hM, ab_up_o (by decide), ab_up_o (by decide), ab_up_s], ?_⟩
      rw [hM, ab_up_s, h2 rfl, show (0 : Int) = pz_mk (fun _ => false) by decide, hor]
      refine pz_mk_cg fun v _ => ?_
      show (false || ps_df V V v) = [V].any fun U => ps_df V U v
      simp
  | cons V0 rest =>
    have e0 : ¬ M 792 c = 0 := by rw [h1, List.length_cons]; omega
    rw [if_neg e0] at hM
    obtain ⟨g1, g2⟩ := h3 V0 rest rfl
    refine ⟨?_, fun q => absurd q (by simp), fun V1 r1 q => ?_⟩
    · rw [hM, ab_up_o (by decide), ab_up_s, h1, List.length_append]
      simp only [List.length_cons, List.length_nil]
      omega
    · have e1 : V0 = V1 := (List.cons.inj q).1
      subst e1
      refine ⟨by rw [hM, ab_up_o (by decide), ab_up_o (by decide)]; exact g1, ?_⟩
      rw [hM, ab_up_s, g2]
      show ab_or _ (pz_mk (ps_df V0 V)) = _
      rw [hor]
      refine pz_mk_cg fun v _ => ?_
      show _ = ((V0 :: rest) ++ [V]).any fun U => ps_df V0 U v
      rw [List.any_append]
      simp [ps_tS]

def S_J6_bitCount_0f7a4 : ab_PT := fun a M K => match a with
  | [.inr (.inl x)] => (∃ S : Nat → Bool, (x = pz_mk S) ∧ (∀ rx : Int, (rx = ps_cnt S) → K [Xi rx] M))
  | _ => False
set_option maxRecDepth 20000 in
theorem vc_J6_bitCount_0f7a4_0 (x : Int) (M : ab_M) (K : List ab_V → ab_M → Prop) (hS : (∃ S : Nat → Bool, (x = pz_mk S) ∧ (∀ rx : Int, (rx = ps_cnt S) → K [Xi rx] M))) : (-128 ≤ (8 : Int) ∧ (8 : Int) < 128) ∧ (-128 ≤ (16 : Int) ∧ (16 : Int) < 128) ∧ (-128 ≤ (63 : Int) ∧ (63 : Int) < 128) ∧ K [Xi (ab_and (((ab_and (((ab_and (x - (ab_and (ab_ushr x (1 : Int)) (1431655765 : Int))) (858993459 : Int)) + (ab_and (ab_ushr (x - (ab_and (ab_ushr x (1 : Int)) (1431655765 : Int))) (2 : Int)) (858993459 : Int))) + (ab_ushr ((ab_and (x - (ab_and (ab_ushr x (1 : Int)) (1431655765 : Int))) (858993459 : Int)) + (ab_and (ab_ushr (x - (ab_and (ab_ushr x (1 : Int)) (1431655765 : Int))) (2 : Int)) (858993459 : Int))) (4 : Int))) (252645135 : Int)) + (ab_ushr (ab_and (((ab_and (x - (ab_and (ab_ushr x (1 : Int)) (1431655765 : Int))) (858993459 : Int)) + (ab_and (ab_ushr (x - (ab_and (ab_ushr x (1 : Int)) (1431655765 : Int))) (2 : Int)) (858993459 : Int))) + (ab_ushr ((ab_and (x - (ab_and (ab_ushr x (1 : Int)) (1431655765 : Int))) (858993459 : Int)) + (ab_and (ab_ushr (x - (ab_and (ab_ushr x (1 : Int)) (1431655765 : Int))) (2 : Int)) (858993459 : Int))) (4 : Int))) (252645135 : Int)) (8 : Int))) + (ab_ushr ((ab_and (((ab_and (x - (ab_and (ab_ushr x (1 : Int)) (1431655765 : Int))) (858993459 : Int)) + (ab_and (ab_ushr (x - (ab_and (ab_ushr x (1 : Int)) (1431655765 : Int))) (2 : Int)) (858993459 : Int))) + (ab_ushr ((ab_and (x - (ab_and (ab_ushr x (1 : Int)) (1431655765 : Int))) (858993459 : Int)) + (ab_and (ab_ushr (x - (ab_and (ab_ushr x (1 : Int)) (1431655765 : Int))) (2 : Int)) (858993459 : Int))) (4 : Int))) (252645135 : Int)) + (ab_ushr (ab_and (((ab_and (x - (ab_and (ab_ushr x (1 : Int)) (1431655765 : Int))) (858993459 : Int)) + (ab_and (ab_ushr (x - (ab_and (ab_ushr x (1 : Int)) (1431655765 : Int))) (2 : Int)) (858993459 : Int))) + (ab_ushr ((ab_and (x - (ab_and (ab_ushr x (1 : Int)) (1431655765 : Int))) (858993459 : Int)) + (ab_and (ab_ushr (x - (ab_and (ab_ushr x (1 : Int)) (1431655765 : Int))) (2 : Int)) (858993459 : Int))) (4 : Int))) (252645135 : Int)) (8 : Int))) (16 : Int))) (63 : Int))] M := by
  obtain ⟨S, gx, gK⟩ := hS
  refine And.intro (by
    first
      | omega
      | (simp [ab_up_a]; done)
      | (simp [ab_up_a]; omega)) ?_
  refine And.intro (by
    first
      | omega
      | (simp [ab_up_a]; done)
      | (simp [ab_up_a]; omega)) ?_
  refine And.intro (by
    first
      | omega
      | (simp [ab_up_a]; done)
      | (simp [ab_up_a]; omega)) ?_
  refine gK _ ?_
  subst gx
  unfold pz_mk ps_cnt
  generalize S 0 = a
  generalize S 1 = b
  generalize S 2 = c
  generalize S 3 = d
  revert a b c d
  decide +kernel

set_option maxRecDepth 20000 in
set_option maxHeartbeats 1000000 in
theorem ok_J6_bitCount_0f7a4 (E : ab_E) : ab_Ok E 1 217 S_J6_bitCount_0f7a4 := by
  refine ab_mk rq_J6_bitCount_0f7a4 tk_J6_bitCount_0f7a4 (rt := 1) (rfl) (cuts := []) (G := []) (fun g hg => by cases hg) (by decide) 92 rfl ?_
  intro a M K wd wa hS
  unfold S_J6_bitCount_0f7a4 at hS
  split at hS
  ·
    rename_i x
    refine ⟨Nat.le_of_ble_eq_true rfl, fun _ _ _ _ _ => False, ?_, ?_⟩
    · exact vc_J6_bitCount_0f7a4_0 x M K  hS
    · exact fun _ _ _ _ _ h => h.elim
  · exact hS.elim
def S_X0_renewed : ab_PT := fun a M K => match a with
  | [.inr (.inr (.inr (790, 0, 0))), .inr (.inr (.inl LL)), .inr (.inl vs)] => (∃ V : ps_V, ∃ st : ps_S, (LL = pk V ∧ pk_ok V ∧ ps_M M st ∧ ps_g st) ∧ (∀ rx : Int, ∀ Mx : ab_M, (ps_M Mx (ps_rn st V (fun v => pz_b vs v)).1 ∧ ps_N M Mx) → (rx = pk (ps_rn st V (fun v => pz_b vs v)).2) → K [Xl rx] Mx))
  | _ => False
set_option maxRecDepth 20000 in
theorem vc_X0_renewed_0 (LL : Int) (vs : Int) (M : ab_M) (K : List ab_V → ab_M → Prop) (hS : (∃ V : ps_V, ∃ st : ps_S, (LL = pk V ∧ pk_ok V ∧ ps_M M st ∧ ps_g st) ∧ (∀ rx : Int, ∀ Mx : ab_M, (ps_M Mx (ps_rn st V (fun v => pz_b vs v)).1 ∧ ps_N M Mx) → (rx = pk (ps_rn st V (fun v => pz_b vs v)).2) → K [Xl rx] Mx))) : (∃ n', ((n' = (4 - (0 : Int)).toNat ∧ LL = LL ∧ vs = vs ∧ 0 ≤ (0 : Int) ∧ (0 : Int) ≤ 4 ∧ ps_N M M ∧ ∀ (V : ps_V) (st : ps_S), LL = pk V ∧ pk_ok V ∧ ps_M M st ∧ ps_g st → LL = pk (rn_k st V (fun v => pz_b vs v) (0 : Int).toNat).2 ∧ ps_M M (rn_k st V (fun v => pz_b vs v) (0 : Int).toNat).1))) := by
  obtain ⟨V, st, ⟨hL, hV, hM, hg⟩, gK⟩ := hS
  refine ⟨_, rfl, rfl, rfl, by decide, by decide, fun _ _ _ _ => rfl, fun V st h => ?_⟩
  obtain ⟨z1, z2⟩ := rn_k_0 st V (fun v => pz_b vs v)
  refine ⟨?_, fun v hv => ?_, h.2.2.1.2.1, h.2.2.1.2.2⟩
  · rw [h.1]; exact pk_cg fun v _ => (z2 v).symm
  · rw [h.2.2.1.1 v hv]; exact (z1 v).symm

set_option maxRecDepth 20000 in
theorem vc_X0_renewed_6 (LL : Int) (vs : Int) (M : ab_M) (K : List ab_V → ab_M → Prop) (hS : (∃ V : ps_V, ∃ st : ps_S, (LL = pk V ∧ pk_ok V ∧ ps_M M st ∧ ps_g st) ∧ (∀ rx : Int, ∀ Mx : ab_M, (ps_M Mx (ps_rn st V (fun v => pz_b vs v)).1 ∧ ps_N M Mx) → (rx = pk (ps_rn st V (fun v => pz_b vs v)).2) → K [Xl rx] Mx))) (n : Nat) (L1 : Int) (vs1 : Int) (now : Int) (k : Int) (M1 : ab_M) (hI : n = (4 - k).toNat ∧ LL = L1 ∧ vs = vs1 ∧ 0 ≤ k ∧ k ≤ 4 ∧ ps_N M M1 ∧ ∀ (V : ps_V) (st : ps_S), LL = pk V ∧ pk_ok V ∧ ps_M M st ∧ ps_g st → now = pk (rn_k st V (fun v => pz_b vs v) k.toNat).2 ∧ ps_M M1 (rn_k st V (fun v => pz_b vs v) k.toNat).1) : (ab_ir k ∧ ab_ir (4 : Int)) ∧ (((4 : Int) ≤ k → K [Xl now] M1) ∧ (k < (4 : Int) → (ab_ir (ab_and vs1 (ab_shl (1 : Int) k))) ∧ (((ab_and vs1 (ab_shl (1 : Int) k)) = 0 → (∃ n', n' < n ∧ ((n' = (4 - (k + 1)).toNat ∧ LL = L1 ∧ vs = vs1 ∧ 0 ≤ (k + 1) ∧ (k + 1) ≤ 4 ∧ ps_N M M1 ∧ ∀ (V : ps_V) (st : ps_S), LL = pk V ∧ pk_ok V ∧ ps_M M st ∧ ps_g st → now = pk (rn_k st V (fun v => pz_b vs v) (k + 1).toNat).2 ∧ ps_M M1 (rn_k st V (fun v => pz_b vs v) (k + 1).toNat).1)))) ∧ (¬ (ab_and vs1 (ab_shl (1 : Int) k)) = 0 → (0 ≤ k ∧ k < ((4 : Nat) : Int)) ∧ (0 ≤ k ∧ k < ((4 : Nat) : Int)) ∧ (-128 ≤ (15 : Int) ∧ (15 : Int) < 128) ∧ (0 ≤ k ∧ k < ((4 : Nat) : Int)) ∧ (ab_ir ((ab_up M1 791 k.toNat ((M1 791 k.toNat) + (1 : Int))) 791 k.toNat)) ∧ (-128 ≤ (15 : Int) ∧ (15 : Int) < 128) ∧ (∃ n', n' < n ∧ ((n' = (4 - (k + 1)).toNat ∧ LL = L1 ∧ vs = vs1 ∧ 0 ≤ (k + 1) ∧ (k + 1) ≤ 4 ∧ ps_N M (ab_up M1 791 k.toNat ((M1 791 k.toNat) + (1 : Int))) ∧ ∀ (V : ps_V) (st : ps_S), LL = pk V ∧ pk_ok V ∧ ps_M M st ∧ ps_g st → (ab_lor (ab_land now (ab_lxor (ab_lshl (32767 : Int) ((15 : Int) * k)) (-1 : Int))) (ab_lshl ((ab_up M1 791 k.toNat ((M1 791 k.toNat) + (1 : Int))) 791 k.toNat) ((15 : Int) * k))) = pk (rn_k st V (fun v => pz_b vs v) (k + 1).toNat).2 ∧ ps_M (ab_up M1 791 k.toNat ((M1 791 k.toNat) + (1 : Int))) (rn_k st V (fun v => pz_b vs v) (k + 1).toNat).1))))))) := by
  obtain ⟨hn, q1, q2, hk0, hk1, hN, hI⟩ := hI
  subst q1
  subst q2
  obtain ⟨V, st, hpre, gK⟩ := hS
  obtain ⟨hnow, hM1⟩ := hI V st hpre
  obtain ⟨hL, hV, hM, hg⟩ := hpre
  obtain ⟨k, rfl⟩ : ∃ z : Nat, k = (z : Int) := ⟨k.toNat, by omega⟩
  rw [show ((k : Int)).toNat = k from rfl] at hnow hM1
  have hkr : k < 4 → ab_ir (M1 791 k + 1) ∧ M1 791 k = st.1 k := fun q => by
    have h1 := hg k q
    have h2 : M1 791 k = st.1 k := by
      rw [hM1.1 k q]
      show st.1 k + (if (decide (k < k) && _) = true then 1 else 0) = _
      rw [decide_eq_false (Nat.lt_irrefl _)]
      simp
    exact ⟨⟨by omega, by omega⟩, h2⟩
  refine And.intro (by
    first
      | omega
      | exact ab_and_ir _ _
      | exact ⟨by omega, by omega⟩
      | (simp only [ab_up_s]; first | exact (hkr (by omega)).1 | omega)
      | (rw [show ((k : Int)).toNat = k from rfl, ab_up_s]; exact (hkr (by omega)).1)) ?_
  refine ⟨?_, ?_⟩
  · intro c9
    have hk : k = 4 := by omega
    subst hk
    obtain ⟨z1, z2⟩ := rn_k_4 st V (fun v => pz_b vs v)
    refine gK _ _ ⟨⟨fun v hv => ?_, hM1.2.1, hM1.2.2⟩, hN⟩ ?_
    · rw [hM1.1 v hv]; exact z1 v hv
    · rw [hnow]; exact pk_cg z2
  · intro c9
    refine And.intro (by
      first
        | omega
        | exact ab_and_ir _ _
        | exact ⟨by omega, by omega⟩
        | (simp only [ab_up_s]; first | exact (hkr (by omega)).1 | omega)
        | (rw [show ((k : Int)).toNat = k from rfl, ab_up_s]; exact (hkr (by omega)).1)) ?_
    refine ⟨?_, ?_⟩
    · intro c18
      refine ⟨_, ?_, rfl, rfl, rfl, by omega, by omega, hN, fun V' st' h => ?_⟩
      · omega
      have hbit : ¬ pz_b vs k = true := fun q => (pz_b_can (x := vs) (b := (k : Int)) (by omega) (by omega)).2 q (by assumption)
      obtain ⟨hnow', hM1'⟩ := hI V' st' h
      rw [show ((k : Int)).toNat = k from rfl] at hnow' hM1'
      rw [show ((k : Int) + 1).toNat = k + 1 by omega]
      obtain ⟨z1, z2⟩ := rn_skip (S := fun v => pz_b vs v) hM1' hbit
      exact ⟨hnow'.trans z2, z1⟩
    · intro c18
      refine And.intro (by
        first
          | omega
          | exact ab_and_ir _ _
          | exact ⟨by omega, by omega⟩
          | (simp only [ab_up_s]; first | exact (hkr (by omega)).1 | omega)
          | (rw [show ((k : Int)).toNat = k from rfl, ab_up_s]; exact (hkr (by omega)).1)) ?_
      refine And.intro (by
        first
          | omega
          | exact ab_and_ir _ _
          | exact ⟨by omega, by omega⟩
          | (simp only [ab_up_s]; first | exact (hkr (by omega)).1 | omega)
          | (rw [show ((k : Int)).toNat = k from rfl, ab_up_s]; exact (hkr (by omega)).1)) ?_
      refine And.intro (by
        first
          | omega
          | exact ab_and_ir _ _
          | exact ⟨by omega, by omega⟩
          | (simp only [ab_up_s]; first | exact (hkr (by omega)).1 | omega)
          | (rw [show ((k : Int)).toNat = k from rfl, ab_up_s]; exact (hkr (by omega)).1)) ?_
      refine And.intro (by
        first
          | omega
          | exact ab_and_ir _ _
          | exact ⟨by omega, by omega⟩
          | (simp only [ab_up_s]; first | exact (hkr (by omega)).1 | omega)
          | (rw [show ((k : Int)).toNat = k from rfl, ab_up_s]; exact (hkr (by omega)).1)) ?_
      refine And.intro (by
        first
          | omega
          | exact ab_and_ir _ _
          | exact ⟨by omega, by omega⟩
          | (simp only [ab_up_s]; first | exact (hkr (by omega)).1 | omega)
          | (rw [show ((k : Int)).toNat = k from rfl, ab_up_s]; exact (hkr (by omega)).1)) ?_
      refine And.intro (by
        first
          | omega
          | exact ab_and_ir _ _
          | exact ⟨by omega, by omega⟩
          | (simp only [ab_up_s]; first | exact (hkr (by omega)).1 | omega)
          | (rw [show ((k : Int)).toNat = k from rfl, ab_up_s]; exact (hkr (by omega)).1)) ?_
      refine ⟨_, ?_, rfl, rfl, rfl, by omega, by omega, fun o j y1 y2 => ?_, fun V' st' h => ?_⟩
      · omega
      · rw [up_ne (fun q => y2 ⟨q.1, by have := q.2; omega⟩)]
        exact hN o j y1 y2
      have hbit : pz_b vs k = true := (pz_b_can (x := vs) (b := (k : Int)) (by omega) (by omega)).1 (by assumption)
      obtain ⟨hnow', hM1'⟩ := hI V' st' h
      rw [show ((k : Int)).toNat = k from rfl] at hnow' hM1'
      rw [show ((k : Int) + 1).toNat = k + 1 by omega]
      obtain ⟨z1, z2⟩ := rn_step (S := fun v => pz_b vs v) (show k < 4 by omega) h.2.1 h.2.2.2 hM1' hnow' hbit
      refine ⟨?_, z1⟩
      rw [← z2]
      simp only [show ((k : Int)).toNat = k from rfl, ab_up_s]

set_option maxRecDepth 20000 in
set_option maxHeartbeats 1000000 in
theorem ok_X0_renewed (E : ab_E) : ab_Ok E 1 6 S_X0_renewed := by
  refine ab_mk rq_X0_renewed tk_X0_renewed (rt := 3) (rfl) (cuts := [6]) (G := []) (fun g hg => by cases hg) (by decide) 95 rfl ?_
  intro a M K wd wa hS
  unfold S_X0_renewed at hS
  split at hS
  ·
    rename_i LL vs
    refine ⟨Nat.le_of_ble_eq_true rfl, fun pc n L st M1 => match pc, L, st with
      | 6, [.inr (.inr (.inr (790, 0, 0))), .inr (.inr (.inl L1)), .inl (), .inr (.inl vs1), .inr (.inr (.inl now)), .inl (), .inr (.inl k)], [] => (n = (4 - k).toNat ∧ LL = L1 ∧ vs = vs1 ∧ 0 ≤ k ∧ k ≤ 4 ∧ ps_N M M1 ∧ ∀ (V : ps_V) (st : ps_S), LL = pk V ∧ pk_ok V ∧ ps_M M st ∧ ps_g st → now = pk (rn_k st V (fun v => pz_b vs v) k.toNat).2 ∧ ps_M M1 (rn_k st V (fun v => pz_b vs v) k.toNat).1)
      | _, _, _ => False, ?_, ?_⟩
    · exact vc_X0_renewed_0 LL vs M K  hS
    · intro pc n L st M1 hI wd1 wL wst
      (try dsimp only at hI)
      split at hI
      ·
        rename_i L1 vs1 now k
        exact vc_X0_renewed_6 LL vs M K  hS n L1 vs1 now k _ hI
      · exact hI.elim
  · exact hS.elim
def S_X0_differing : ab_PT := fun a M K => match a with
  | [.inr (.inr (.inl A)), .inr (.inr (.inl B))] => (∃ V : ps_V, ∃ W : ps_V, (A = pk V ∧ B = pk W ∧ pk_ok V ∧ pk_ok W) ∧ (∀ rx : Int, (rx = pz_mk (ps_df V W)) → K [Xi rx] M))
  | _ => False
set_option maxRecDepth 20000 in
theorem vc_X0_differing_0 (A : Int) (B : Int) (M : ab_M) (K : List ab_V → ab_M → Prop) (hS : (∃ V : ps_V, ∃ W : ps_V, (A = pk V ∧ B = pk W ∧ pk_ok V ∧ pk_ok W) ∧ (∀ rx : Int, (rx = pz_mk (ps_df V W)) → K [Xi rx] M))) : (∃ n', ((n' = (4 - (0 : Int)).toNat ∧ A = A ∧ B = B ∧ 0 ≤ (0 : Int) ∧ (0 : Int) ≤ 4 ∧ M = M ∧ ∀ (V W : ps_V), A = pk V ∧ B = pk W ∧ pk_ok V ∧ pk_ok W → (0 : Int) = pz_mk (fun v => decide (v < (0 : Int).toNat) && ps_df V W v)))) := by
  obtain ⟨V, W, ⟨hA, hB, hV, hW⟩, gK⟩ := hS
  refine ⟨_, rfl, rfl, rfl, by decide, by decide, rfl, fun V W h => ?_⟩
  have : ∀ s : Nat → Bool, pz_mk (fun v => decide (v < 0) && s v) = 0 := fun s => by
    rw [pz_mk_cg (s' := fun _ => false) fun v _ => by rw [decide_eq_false (Nat.not_lt_zero _)]; rfl]
    decide
  exact (this _).symm

set_option maxRecDepth 20000 in
theorem vc_X0_differing_6 (A : Int) (B : Int) (M : ab_M) (K : List ab_V → ab_M → Prop) (hS : (∃ V : ps_V, ∃ W : ps_V, (A = pk V ∧ B = pk W ∧ pk_ok V ∧ pk_ok W) ∧ (∀ rx : Int, (rx = pz_mk (ps_df V W)) → K [Xi rx] M))) (n : Nat) (A1 : Int) (B1 : Int) (m : Int) (k : Int) (M1 : ab_M) (hI : n = (4 - k).toNat ∧ A = A1 ∧ B = B1 ∧ 0 ≤ k ∧ k ≤ 4 ∧ M = M1 ∧ ∀ (V W : ps_V), A = pk V ∧ B = pk W ∧ pk_ok V ∧ pk_ok W → m = pz_mk (fun v => decide (v < k.toNat) && ps_df V W v)) : (ab_ir k ∧ ab_ir (4 : Int)) ∧ (((4 : Int) ≤ k → K [Xi m] M1) ∧ (k < (4 : Int) → (-128 ≤ (15 : Int) ∧ (15 : Int) < 128) ∧ ((ab_land (ab_lshr (ab_lxor A1 B1) ((15 : Int) * k)) (32767 : Int)) = ((0 : Nat) : Int) ∨ (ab_lr (ab_land (ab_lshr (ab_lxor A1 B1) ((15 : Int) * k)) (32767 : Int)) ∧ ab_lr ((0 : Nat) : Int))) ∧ (ab_ir (if ((0 : Nat) : Int) < (ab_land (ab_lshr (ab_lxor A1 B1) ((15 : Int) * k)) (32767 : Int)) then 1 else if (ab_land (ab_lshr (ab_lxor A1 B1) ((15 : Int) * k)) (32767 : Int)) = ((0 : Nat) : Int) then 0 else -1 : Int)) ∧ (((if ((0 : Nat) : Int) < (ab_land (ab_lshr (ab_lxor A1 B1) ((15 : Int) * k)) (32767 : Int)) then 1 else if (ab_land (ab_lshr (ab_lxor A1 B1) ((15 : Int) * k)) (32767 : Int)) = ((0 : Nat) : Int) then 0 else -1 : Int) = 0 → (∃ n', n' < n ∧ ((n' = (4 - (k + 1)).toNat ∧ A = A1 ∧ B = B1 ∧ 0 ≤ (k + 1) ∧ (k + 1) ≤ 4 ∧ M = M1 ∧ ∀ (V W : ps_V), A = pk V ∧ B = pk W ∧ pk_ok V ∧ pk_ok W → m = pz_mk (fun v => decide (v < (k + 1).toNat) && ps_df V W v))))) ∧ (¬ (if ((0 : Nat) : Int) < (ab_land (ab_lshr (ab_lxor A1 B1) ((15 : Int) * k)) (32767 : Int)) then 1 else if (ab_land (ab_lshr (ab_lxor A1 B1) ((15 : Int) * k)) (32767 : Int)) = ((0 : Nat) : Int) then 0 else -1 : Int) = 0 → (∃ n', n' < n ∧ ((n' = (4 - (k + 1)).toNat ∧ A = A1 ∧ B = B1 ∧ 0 ≤ (k + 1) ∧ (k + 1) ≤ 4 ∧ M = M1 ∧ ∀ (V W : ps_V), A = pk V ∧ B = pk W ∧ pk_ok V ∧ pk_ok W → (ab_or m (ab_shl (1 : Int) k)) = pz_mk (fun v => decide (v < (k + 1).toNat) && ps_df V W v)))))))) := by
  obtain ⟨hn, q1, q2, hk0, hk1, q3, hI⟩ := hI
  subst q1
  subst q2
  subst q3
  obtain ⟨V, W, hpre, gK⟩ := hS
  have hm := hI V W hpre
  obtain ⟨hA, hB, hV, hW⟩ := hpre
  obtain ⟨k, rfl⟩ : ∃ z : Nat, k = (z : Int) := ⟨k.toNat, by omega⟩
  rw [show ((k : Int)).toNat = k from rfl] at hm
  refine And.intro (by
    first
      | omega
      | exact ⟨by omega, by omega⟩
      | exact Or.inr ⟨ab_land_lr _ _, by decide, by decide⟩
      | (split <;> first | exact ⟨by decide, by decide⟩ | (split <;> exact ⟨by decide, by decide⟩))) ?_
  refine ⟨?_, ?_⟩
  · intro c9
    refine gK _ ?_
    rw [hm]
    refine pz_mk_cg fun v hv => ?_
    rw [decide_eq_true (show v < k by omega), Bool.true_and]
  · intro c9
    refine And.intro (by
      first
        | omega
        | exact ⟨by omega, by omega⟩
        | exact Or.inr ⟨ab_land_lr _ _, by decide, by decide⟩
        | (split <;> first | exact ⟨by decide, by decide⟩ | (split <;> exact ⟨by decide, by decide⟩))) ?_
    refine And.intro (by
      first
        | omega
        | exact ⟨by omega, by omega⟩
        | exact Or.inr ⟨ab_land_lr _ _, by decide, by decide⟩
        | (split <;> first | exact ⟨by decide, by decide⟩ | (split <;> exact ⟨by decide, by decide⟩))) ?_
    refine And.intro (by
      first
        | omega
        | exact ⟨by omega, by omega⟩
        | exact Or.inr ⟨ab_land_lr _ _, by decide, by decide⟩
        | (split <;> first | exact ⟨by decide, by decide⟩ | (split <;> exact ⟨by decide, by decide⟩))) ?_
    refine ⟨?_, ?_⟩
    · intro c27
      refine ⟨_, ?_, rfl, rfl, rfl, by omega, by omega, rfl, fun V' W' h => ?_⟩
      · omega
      rw [show ((k : Int) + 1).toNat = k + 1 by omega, hI V' W' h, show ((k : Int)).toNat = k from rfl]
      have hX : V' k = W' k := by
        refine (pk_dif (V := V') (W := W') h.2.2.1 h.2.2.2 (show k < 4 by omega)).1 ?_
        rw [← h.1, ← h.2.1]
        refine Decidable.byContradiction fun q => ?_
        split at c27
        · exact absurd c27 (by decide)
        · rw [if_neg (show ¬ _ = ((0 : Nat) : Int) from q)] at c27
          exact absurd c27 (by decide)
      refine pz_mk_cg fun v hv => ?_
      by_cases e : v = k
      · subst e
        show (decide (v < v) && decide (v < 4 ∧ V' v ≠ W' v)) = (decide (v < v + 1) && decide (v < 4 ∧ V' v ≠ W' v))
        rw [decide_eq_false (show ¬ (v < 4 ∧ V' v ≠ W' v) from fun q => q.2 hX), Bool.and_false, Bool.and_false]
      · rw [show decide (v < k + 1) = decide (v < k) from decide_eq_decide.2 ⟨fun q => by omega, fun q => by omega⟩]
    · intro c27
      refine ⟨_, ?_, rfl, rfl, rfl, by omega, by omega, rfl, fun V' W' h => ?_⟩
      · omega
      rw [show ((k : Int) + 1).toNat = k + 1 by omega, hI V' W' h, show ((k : Int)).toNat = k from rfl, pz_mk_orb _ (show k < 4 by omega)]
      have hX : V' k ≠ W' k := fun q => by
        have := (pk_dif (V := V') (W := W') h.2.2.1 h.2.2.2 (show k < 4 by omega)).2 q
        rw [← h.1, ← h.2.1] at this
        rw [this] at c27
        exact c27 rfl
      refine pz_mk_cg fun v hv => ?_
      by_cases e : v = k
      · subst e
        show (decide (v = v) || _) = (decide (v < v + 1) && decide (v < 4 ∧ V' v ≠ W' v))
        rw [decide_eq_true rfl, decide_eq_true (Nat.lt_succ_self v), decide_eq_true (show v < 4 ∧ V' v ≠ W' v from ⟨hv, hX⟩)]
        rfl
      · rw [show decide (v < k + 1) = decide (v < k) from decide_eq_decide.2 ⟨fun q => by omega, fun q => by omega⟩, decide_eq_false e, Bool.false_or]

set_option maxRecDepth 20000 in
set_option maxHeartbeats 1000000 in
theorem ok_X0_differing (E : ab_E) : ab_Ok E 1 3 S_X0_differing := by
  refine ab_mk rq_X0_differing tk_X0_differing (rt := 1) (rfl) (cuts := [6]) (G := []) (fun g hg => by cases hg) (by decide) 79 rfl ?_
  intro a M K wd wa hS
  unfold S_X0_differing at hS
  split at hS
  ·
    rename_i A B
    refine ⟨Nat.le_of_ble_eq_true rfl, fun pc n L st M1 => match pc, L, st with
      | 6, [.inr (.inr (.inl A1)), .inl (), .inr (.inr (.inl B1)), .inl (), .inr (.inl m), .inr (.inl k)], [] => (n = (4 - k).toNat ∧ A = A1 ∧ B = B1 ∧ 0 ≤ k ∧ k ≤ 4 ∧ M = M1 ∧ ∀ (V W : ps_V), A = pk V ∧ B = pk W ∧ pk_ok V ∧ pk_ok W → m = pz_mk (fun v => decide (v < k.toNat) && ps_df V W v))
      | _, _, _ => False, ?_, ?_⟩
    · exact vc_X0_differing_0 A B M K  hS
    · intro pc n L st M1 hI wd1 wL wst
      (try dsimp only at hI)
      split at hI
      ·
        rename_i A1 B1 m k
        exact vc_X0_differing_6 A B M K  hS n A1 B1 m k _ hI
      · exact hI.elim
  · exact hS.elim
