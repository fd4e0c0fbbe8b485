/-! blocks of the passive form -/
def ps_x (s0 : ps_S) (n : Nat) : Prop := ∀ v, v < 4 → 0 ≤ s0.1 v ∧ s0.1 v + ((n : Nat) : Int) ≤ 32000
def ps_pm (M : ab_M) : Prop := (0 ≤ M 26 3 ∧ M 26 3 ≤ 120) ∧ (0 ≤ M 26 11 ∧ M 26 11 ≤ 64)
/-- the throws that are caught outside -/
def ps_c (M : ab_M) (cat dep : Int) (th : List ps_V) (n : Nat) : Prop := cat = -1 ∨ (0 ≤ cat ∧ cat < dep) ∧ th_R M th cat.toNat ∧ (∀ V ∈ th, pk_ok V) ∧ th.length + n ≤ 1000
theorem th_R.fr {M M' : ab_M} {th : List ps_V} {c : Nat} (h : th_R M th c) (e : M' 792 c = M 792 c ∧ M' 793 c = M 793 c ∧ M' 794 c = M 794 c) : th_R M' th c := by
  unfold th_R
  rw [e.1, e.2.1, e.2.2]
  exact h
theorem ps_pm.lo {M M' : ab_M} (h : ps_pm M) (hl : ∀ o k : Nat, o < 790 → M' o k = M o k) : ps_pm M' := by
  unfold ps_pm
  rw [hl 26 3 (by decide), hl 26 11 (by decide)]
  exact h
theorem ps_x.le {s0 s1 : ps_S} {n m k : Nat} (h : ps_x s0 n) (hl : ps_le s0 s1 m) (hk : k + m ≤ n) : ps_x s1 k := fun v hv => by
  have := h v hv
  have := hl v hv
  omega
theorem ps_x.g {s0 : ps_S} {n : Nat} (h : ps_x s0 n) : ps_g s0 := fun v hv => by
  have := h v hv
  omega
theorem ps_x.pk {s0 : ps_S} {n : Nat} {V : ps_V} (h : ps_x s0 n) (hb : ps_bd V s0) : pk_ok V := pk_ok_bd hb fun v hv => by
  have := h v hv
  omega
theorem th_R.N {M M' : ab_M} {th : List ps_V} {c : Nat} (h : th_R M th c) (hN : ps_N M M') : th_R M' th c := h.fr ⟨hN _ _ (by omega) (by omega), hN _ _ (by omega) (by omega), hN _ _ (by omega) (by omega)⟩
theorem ps_c.N {M M' : ab_M} {cat dep : Int} {th : List ps_V} {n : Nat} (h : ps_c M cat dep th n) (hN : ps_N M M') : ps_c M' cat dep th n := h.imp id fun q => ⟨q.1, q.2.1.N hN, q.2.2⟩
theorem ps_c.le {M : ab_M} {cat dep dep' : Int} {th : List ps_V} {n m : Nat} (h : ps_c M cat dep th n) (hm : m ≤ n) (hd : dep ≤ dep') : ps_c M cat dep' th m := h.imp id fun q => ⟨⟨q.1.1, by omega⟩, q.2.1, q.2.2.1, by omega⟩
/-- behind a block or a statement the outer throws are more -/
theorem ps_c.go {M M' : ab_M} {cat dep : Int} {th nw : List ps_V} {n m : Nat} (h : ps_c M cat dep th n) (ht : 0 ≤ cat → th_R M' (th ++ nw) cat.toNat) (hn : ∀ V ∈ nw, pk_ok V) (hm : nw.length + m ≤ n) : ps_c M' cat dep (th ++ nw) m := by
  rcases h with h | h
  · exact Or.inl h
  · refine Or.inr ⟨h.1, ht h.1.1, fun V hV => (List.mem_append.1 hV).elim (h.2.2.1 V) (hn V), ?_⟩
    have := h.2.2.2
    rw [List.length_append]
    omega
theorem ps_c.th {M : ab_M} {cat dep : Int} {th : List ps_V} {n : Nat} (h : ps_c M cat dep th n) : 0 ≤ cat → th_R M th cat.toNat := fun q => by
  rcases h with h | h
  · omega
  · exact h.2.1
theorem ps_M.sz {M : ab_M} {s0 : ps_S} {x k : Int} (h : ps_M M s0) (e : x = M 790 3 + k) : ps_M (ab_up M 790 3 x) (s0.1, s0.2.1, s0.2.2 + k) := by
  refine ⟨fun v hv => ?_, ?_, ?_⟩
  · rw [ab_up_o (by decide)]; exact h.1 v hv
  · rw [ab_up_k (by decide)]; exact h.2.1
  · rw [ab_up_s, e, h.2.2]
theorem ps_N.sz (M : ab_M) (x : Int) : ps_N M (ab_up M 790 3 x) := fun o k q _ => up_ne fun z => q ⟨z.1, Or.inr z.2⟩
theorem ps_N.lo {A B : ab_M} (h : ps_N A B) : ∀ o k : Nat, o < 790 → B o k = A o k := fun o k ho => h o k (by omega) (by omega)
/-- a try -/
def ps_y (A B : ps_V → ps_S → ps_R) (V : ps_V) (s : ps_S) : ps_R := match (A V s).2.2 with
  | [] => ((A V s).1, (A V s).2.1, [])
  | V0 :: th => ((ps_jn (B (ps_tj (A V s).1 V0 (V0 :: th)).2 (ps_tj (A V s).1 V0 (V0 :: th)).1).1 (A V s).2.1 (B (ps_tj (A V s).1 V0 (V0 :: th)).2 (ps_tj (A V s).1 V0 (V0 :: th)).1).2.1).1, (ps_jn (B (ps_tj (A V s).1 V0 (V0 :: th)).2 (ps_tj (A V s).1 V0 (V0 :: th)).1).1 (A V s).2.1 (B (ps_tj (A V s).1 V0 (V0 :: th)).2 (ps_tj (A V s).1 V0 (V0 :: th)).1).2.1).2, (B (ps_tj (A V s).1 V0 (V0 :: th)).2 (ps_tj (A V s).1 V0 (V0 :: th)).1).2.2)
theorem ps_P_8 {P : pz_P} (h : P.1 = 8) (md : Nat → Bool) (A B : ps_V → ps_S → ps_R) (V : ps_V) (s0 : ps_S) : ps_P P md A B V s0 = ps_y A B V (s0.1, s0.2.1, s0.2.2 + ps_sz P) := by
  unfold ps_P
  rw [if_neg (by omega), if_neg (by omega), if_neg (by omega), if_neg (by omega), if_pos h]
  rfl
theorem ps_P_7 {P : pz_P} (h : P.1 = 7) (md : Nat → Bool) (A B : ps_V → ps_S → ps_R) (V : ps_V) (s0 : ps_S) : ps_P P md A B V s0 = ((A (ps_rn (s0.1, s0.2.1, s0.2.2 + ps_sz P) V (fun v => decide (v < 4) && md v)).2 (ps_rn (s0.1, s0.2.1, s0.2.2 + ps_sz P) V (fun v => decide (v < 4) && md v)).1).1, some (ps_rn (s0.1, s0.2.1, s0.2.2 + ps_sz P) V (fun v => decide (v < 4) && md v)).2, (A (ps_rn (s0.1, s0.2.1, s0.2.2 + ps_sz P) V (fun v => decide (v < 4) && md v)).2 (ps_rn (s0.1, s0.2.1, s0.2.2 + ps_sz P) V (fun v => decide (v < 4) && md v)).1).2.2) := by
  unfold ps_P
  rw [if_neg (by omega), if_neg (by omega), if_neg (by omega), if_pos h]
theorem ps_P_6 {P : pz_P} (h : P.1 = 6) (md : Nat → Bool) (A B : ps_V → ps_S → ps_R) (V : ps_V) (s0 : ps_S) : ps_P P md A B V s0 = ((ps_jn (B V (A V (s0.1, s0.2.1, s0.2.2 + ps_sz P)).1).1 (A V (s0.1, s0.2.1, s0.2.2 + ps_sz P)).2.1 (B V (A V (s0.1, s0.2.1, s0.2.2 + ps_sz P)).1).2.1).1, (ps_jn (B V (A V (s0.1, s0.2.1, s0.2.2 + ps_sz P)).1).1 (A V (s0.1, s0.2.1, s0.2.2 + ps_sz P)).2.1 (B V (A V (s0.1, s0.2.1, s0.2.2 + ps_sz P)).1).2.1).2, (A V (s0.1, s0.2.1, s0.2.2 + ps_sz P)).2.2 ++ (B V (A V (s0.1, s0.2.1, s0.2.2 + ps_sz P)).1).2.2) := by
  unfold ps_P
  rw [if_neg (by omega), if_neg (by omega), if_pos h]
theorem ps_P_4 {P : pz_P} (h : P.1 = 4) (md : Nat → Bool) (A B : ps_V → ps_S → ps_R) (V : ps_V) (s0 : ps_S) : ps_P P md A B V s0 = ((s0.1, s0.2.1, s0.2.2 + ps_sz P), none, [V]) := by
  unfold ps_P
  rw [if_neg (by omega), if_pos h]
theorem ps_P_0 {P : pz_P} (h : P.1 = 0 ∨ P.1 = 1 ∨ P.1 = 5) (md : Nat → Bool) (A B : ps_V → ps_S → ps_R) (V : ps_V) (s0 : ps_S) : ps_P P md A B V s0 = ((ps_rn (s0.1, s0.2.1, s0.2.2 + ps_sz P) V (fun v => decide ((v : Int) = P.2.1))).1, some (ps_rn (s0.1, s0.2.1, s0.2.2 + ps_sz P) V (fun v => decide ((v : Int) = P.2.1))).2, []) := by
  unfold ps_P
  rw [if_pos h]
theorem ps_P_2 {P : pz_P} (h : P.1 = 2 ∨ P.1 = 3) (md : Nat → Bool) (A B : ps_V → ps_S → ps_R) (V : ps_V) (s0 : ps_S) : ps_P P md A B V s0 = ((s0.1, s0.2.1, s0.2.2 + ps_sz P), some V, []) := by
  unfold ps_P
  rw [if_neg (by omega), if_neg (by omega), if_neg (by omega), if_neg (by omega), if_neg (by omega)]
/-- a statement's letter says its sort -/
theorem cr_lt_all {P : pz_P} (h : pz_wfP P) {x : Int} (e : x = cr_lt P.1) : (P.1 = 0 ∧ x = 118) ∨ (P.1 = 1 ∧ x = 104) ∨ (P.1 = 2 ∧ x = 107) ∨ (P.1 = 3 ∧ x = 115) ∨ (P.1 = 4 ∧ x = 116) ∨ (P.1 = 5 ∧ x = 112) ∨ (P.1 = 6 ∧ x = 105) ∨ (P.1 = 7 ∧ x = 119) ∨ (P.1 = 8 ∧ x = 121) := by
  have h1 := h.1
  have hc : P.1 = 0 ∨ P.1 = 1 ∨ P.1 = 2 ∨ P.1 = 3 ∨ P.1 = 4 ∨ P.1 = 5 ∨ P.1 = 6 ∨ P.1 = 7 ∨ P.1 = 8 := by omega
  rcases hc with q | q | q | q | q | q | q | q | q <;> (rw [q] at e; have : x = _ := e; simp [cr_lt, pz_lt] at this; omega)
/-- the next statement of a block -/
theorem ps_next {M : ab_M} {t p : pz_T} {r0 : Nat} (hQ : ps_Q M t r0 (-1)) (hp : pfx p t) (hn : p ≠ t) : ∃ (s : Nat) (P : pz_P) (v : Unit) (s' : Nat) (P' : pz_P) (v' : Unit) (a b : pz_T) (nx : Int),
    pfx (.inner s P v p (.inner s' P' v' a b)) t ∧ pz_sz p + (1 + (pz_sz a + pz_sz b)) ≤ pz_sz t ∧ Nat.max (pz_ht a) (pz_ht b) + 1 ≤ pz_ht t ∧ ps_row M P (r0 + pz_sz p) a b nx (cr_ls p r0) ∧ ps_Q M a (r0 + pz_sz p + 1) (-1) ∧ ps_Q M b (r0 + pz_sz p + 1 + pz_sz a) (-1) ∧
    ((.inner s P v p (.inner s' P' v' a b) = t ∧ nx = -1) ∨ (.inner s P v p (.inner s' P' v' a b) ≠ t ∧ nx = ((r0 + pz_sz (.inner s P v p (.inner s' P' v' a b)) : Nat) : Int))) := by
  obtain ⟨s, P, v, c, h⟩ := pfx_next t hp hn
  have hw := pfx_wf t hQ.1 h
  cases c with
  | leaf => exact hw.elim
  | inner s' P' v' a b =>
    obtain ⟨z1, z2⟩ := pfx_sz t hQ.1 h
    have hh : Nat.max (pz_ht a) (pz_ht b) + 1 ≤ pz_ht (.inner s P v p (.inner s' P' v' a b)) := Nat.le_max_right _ _
    rw [pz_sz_nd] at z1
    rcases pfx_Q t (-1) hQ h with ⟨e, q⟩ | ⟨q, q2, -⟩
    · obtain ⟨-, y1, y2, y3⟩ := q.nd
      exact ⟨s, P, v, s', P', v', a, b, _, h, z1, Nat.le_trans hh z2, y1, y2, y3, Or.inl ⟨e, rfl⟩⟩
    · obtain ⟨-, y1, y2, y3⟩ := q.nd
      exact ⟨s, P, v, s', P', v', a, b, _, h, z1, Nat.le_trans hh z2, y1, y2, y3, Or.inr ⟨fun e => by rw [e] at q2; omega, rfl⟩⟩

