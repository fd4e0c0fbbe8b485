/-! the class: a program read, its rows linked -/
/-- the cells of rows that links leave alone -/
def cr_sm2 (p : Nat) (M M' : ab_M) (lo hi : Nat) : Prop := ∀ i, lo ≤ i → i < hi → (∀ k, k ≠ 6 → k ≠ 7 → k ≠ 15 → k ≠ 16 → k ≠ 17 → k ≠ 18 → M' (p + 1 + 1 + 3 * i) k = M (p + 1 + 1 + 3 * i) k) ∧ (∀ k, M' (p + 1 + 1 + 3 * i + 1) k = M (p + 1 + 1 + 3 * i + 1) k ∧ M' (p + 1 + 1 + 3 * i + 2) k = M (p + 1 + 1 + 3 * i + 2) k)
theorem cr_sm2.le {p : Nat} {M M' : ab_M} {lo hi lo' hi' : Nat} (h : cr_sm2 p M M' lo hi) (h1 : lo ≤ lo') (h2 : hi' ≤ hi) : cr_sm2 p M M' lo' hi' := fun i a b => h i (by omega) (by omega)
theorem cr_S_f2 {f : Nat → Int} {M M' : ab_M} {p r : Nat} {P : pz_P} {par side nx pv : Int} {c l k q : Nat} {b0 b1 l0 l1 en : Int} (h : cr_S f M p r P par side nx pv c l k q b0 b1 l0 l1 en) (hs : cr_sm2 p M M' r (r + 1)) (ha : cr_sa p M M' (l + (if P.1 = 7 then 1 else 0)) (k + pz_nt1 P.1 + pz_nt2 P.1)) : cr_S f M' p r P par side nx pv c l k q b0 b1 l0 l1 en := by
  obtain ⟨e0, e12⟩ := hs r (Nat.le_refl _) (Nat.lt_succ_self _)
  unfold cr_S at h ⊢
  rw [e0 0 (by decide) (by decide) (by decide) (by decide) (by decide) (by decide), e0 1 (by decide) (by decide) (by decide) (by decide) (by decide) (by decide), e0 2 (by decide) (by decide) (by decide) (by decide) (by decide) (by decide), e0 3 (by decide) (by decide) (by decide) (by decide) (by decide) (by decide), e0 4 (by decide) (by decide) (by decide) (by decide) (by decide) (by decide), e0 5 (by decide) (by decide) (by decide) (by decide) (by decide) (by decide), e0 8 (by decide) (by decide) (by decide) (by decide) (by decide) (by decide), e0 9 (by decide) (by decide) (by decide) (by decide) (by decide) (by decide), e0 10 (by decide) (by decide) (by decide) (by decide) (by decide) (by decide), e0 11 (by decide) (by decide) (by decide) (by decide) (by decide) (by decide), e0 14 (by decide) (by decide) (by decide) (by decide) (by decide) (by decide), (e12 0).1, (e12 1).1, (e12 0).2, (e12 1).2]
  obtain ⟨h1, h2, h3, h4, h5, h6⟩ := h
  refine ⟨h1, h2, h3, fun z => ?_, fun z => ?_, fun z => ?_⟩
  · rw [if_pos z] at ha
    rw [ha.1 l (by omega)]; exact h4 z
  · rw [(ha.2 k (by omega)).1, (ha.2 k (by omega)).2]; exact h5 z
  · have hz : pz_nt1 P.1 = 1 := (pz_nts P.1).2.2 z
    rw [(ha.2 (k + 1) (by omega)).1, (ha.2 (k + 1) (by omega)).2]; exact h6 z
theorem cr_T_f2 {f : Nat → Int} {M M' : ab_M} {p : Nat} : ∀ (t : pz_T) (r0 : Nat) (par side nx : Int) (c l k q : Nat), cr_T f M p t r0 par side nx c l k q → cr_sm2 p M M' r0 (r0 + pz_sz t) → cr_sa p M M' (l + pz_nl t) (k + pz_nt t) → cr_T f M' p t r0 par side nx c l k q := by
  intro t
  induction t using pz_ind with
  | h0 => intros; trivial
  | h2 s P v t => intro r0 par side nx c l k q h; exact h.elim
  | h1 s P v t s' P' v' a b iht iha ihb =>
    intro r0 par side nx c l k q h hs ha
    rw [pz_sz_nd] at hs
    rw [pz_nl_nd, pz_nt_nd] at ha
    obtain ⟨h1, h2, h3, h4⟩ := h
    exact ⟨iht _ _ _ _ _ _ _ _ h1 (hs.le (Nat.le_refl _) (by omega)) (ha.le (by omega) (by omega)), cr_S_f2 h2 (hs.le (by omega) (by omega)) (ha.le (by split <;> omega) (by omega)),
      iha _ _ _ _ _ _ _ _ h3 (hs.le (by omega) (by omega)) (ha.le (by split <;> omega) (by omega)), ihb _ _ _ _ _ _ _ _ h4 (hs.le (by omega) (by omega)) (ha.le (by split <;> omega) (by omega))⟩
/-- the bounds of rows of a tree -/
def cr_rg (M : ab_M) (p r : Nat) : Prop := (0 ≤ M (p + 1 + 1 + 3 * r) 0 ∧ M (p + 1 + 1 + 3 * r) 0 < 256) ∧ (-1 ≤ M (p + 1 + 1 + 3 * r) 1 ∧ M (p + 1 + 1 + 3 * r) 1 ≤ 3) ∧ (-1 ≤ M (p + 1 + 1 + 3 * r) 8 ∧ M (p + 1 + 1 + 3 * r) 8 < (r : Int)) ∧ (M (p + 1 + 1 + 3 * r) 9 = 0 ∨ M (p + 1 + 1 + 3 * r) 9 = 1) ∧ (-1 ≤ M (p + 1 + 1 + 3 * r) 10 ∧ M (p + 1 + 1 + 3 * r) 10 < 1000) ∧ (-1 ≤ M (p + 1 + 1 + 3 * r + 1) 0 ∧ M (p + 1 + 1 + 3 * r + 1) 0 < 1000) ∧ (-1 ≤ M (p + 1 + 1 + 3 * r + 1) 1 ∧ M (p + 1 + 1 + 3 * r + 1) 1 < 1000)
theorem cr_lt_rg {s : Int} (h0 : 0 ≤ s) (h8 : s ≤ 8) : 0 ≤ cr_lt s ∧ cr_lt s < 256 := by
  have hc : s = 0 ∨ s = 1 ∨ s = 2 ∨ s = 3 ∨ s = 4 ∨ s = 5 ∨ s = 6 ∨ s = 7 ∨ s = 8 := by omega
  rcases hc with rfl | rfl | rfl | rfl | rfl | rfl | rfl | rfl | rfl <;> decide
theorem cr_fs_rg (t : pz_T) (r0 : Nat) (h : r0 < 500) : -1 ≤ cr_fs t r0 ∧ cr_fs t r0 < 1000 := by
  cases t with
  | leaf => exact ⟨Int.le_refl _, by show (-1 : Int) < 1000; decide⟩
  | inner s P v q c => exact ⟨by show (-1 : Int) ≤ (r0 : Int); omega, by show (r0 : Int) < 1000; omega⟩
theorem cr_T_rg {f : Nat → Int} {M : ab_M} {p : Nat} : ∀ (t : pz_T), pz_wf t → ∀ (r0 : Nat) (par side nx : Int) (c l k q : Nat), cr_T f M p t r0 par side nx c l k q → (-1 ≤ par ∧ par < (r0 : Int)) → (side = 0 ∨ side = 1) → (-1 ≤ nx ∧ nx < 1000) → r0 + pz_sz t ≤ 120 → ∀ r, r0 ≤ r → r < r0 + pz_sz t → cr_rg M p r := by
  intro t
  induction t using pz_ind with
  | h0 => intro _ r0 par side nx c l k q _ _ _ _ _ r h1 h2; exact absurd h2 (by show ¬ r < r0 + 0; omega)
  | h2 s P v t => intro h; exact h.elim
  | h1 s P v t s' P' v' a b iht iha ihb =>
    intro hw r0 par side nx c l k q h hp hs hn hb r h1 h2
    obtain ⟨w1, w2, w3, w4, w5, w6⟩ := hw
    rw [pz_sz_nd] at hb h2
    obtain ⟨g1, g2, g3, g4⟩ := h
    by_cases c1 : r < r0 + pz_sz t
    · exact iht w1 _ _ _ _ _ _ _ _ g1 hp hs ⟨by omega, by omega⟩ (by omega) r h1 c1
    · by_cases c2 : r = r0 + pz_sz t
      · subst c2
        obtain ⟨⟨s0, s1, -⟩, ⟨s8, s9, s10, -⟩, ⟨b0, b1, -⟩, -⟩ := g2
        have hl := cr_lt_rg w4.1.1 w4.1.2
        have f0 := cr_fs_rg a (r0 + pz_sz t + 1) (by omega)
        have f1 := cr_fs_rg b (r0 + pz_sz t + 1 + pz_sz a) (by omega)
        unfold cr_rg
        rw [s0, s1, s8, s9, s10, b0, b1]
        refine ⟨hl, ?_, ⟨hp.1, by omega⟩, hs, hn, f0, f1⟩
        have hv := w4.2.1
        by_cases z : P.1 = 0 ∨ P.1 = 1 ∨ P.1 = 5
        · rw [if_pos z] at hv ⊢; exact ⟨by omega, by omega⟩
        · rw [if_neg z]; exact ⟨by decide, by decide⟩
      · by_cases c3 : r < r0 + pz_sz t + 1 + pz_sz a
        · exact iha w2 _ _ _ _ _ _ _ _ g3 ⟨by omega, by omega⟩ (Or.inl rfl) ⟨by decide, by decide⟩ (by omega) r (by omega) c3
        · exact ihb w3 _ _ _ _ _ _ _ _ g4 ⟨by omega, by omega⟩ (Or.inr rfl) ⟨by decide, by decide⟩ (by omega) r (by omega) (by omega)
/-- a program of a tree, read; linked -/
def cr_PT (f : Nat → Int) (M : ab_M) (p : Nat) (t : pz_T) : Prop := cr_T f M p t 0 (-1) 0 (-1) 0 0 0 0 ∧ (M p 3 = (pz_sz t : Int) ∧ M p 4 = cr_ls t 0 ∧ M p 6 = (pz_kn t : Int) ∧ M p 8 = (pz_nl t : Int) ∧ M p 11 = (pz_nt t : Int)) ∧ (∀ (k : Nat) (v : Int), (pz_kds (pz_fl t 0 0 0))[k]? = some v → M (p + 365) k = v)
def cr_PL (M : ab_M) (p : Nat) (n : Nat) : Prop := (∀ r : Nat, r < n → cr_rg M p r ∧ cr_eqs p (p + 1 + 1 + 3 * r) M) ∧ ∀ q : Nat, q < n → M (p + 1 + 1 + 3 * q) 6 = (if M (p + 1 + 1 + 3 * q) 0 = 119 then pz_mk (cr_mdf M p q n) else 0) ∧ M (p + 1 + 1 + 3 * q) 7 = (if M (p + 1 + 1 + 3 * q) 0 = 119 then pz_mb (cr_mdf M p q n) else 0)
theorem cr_R.pt {f : Nat → Int} {M : ab_M} {p : Nat} {t : pz_T} {ls : List Int} {E : List pz_Ev} {op : List Nat} {A : Nat} (hR : cr_R f M p [] t E) (hZ : pz_Z ls [] t E op A) : cr_PT f M p t := by
  obtain ⟨⟨r3, r6, r8, r11⟩, rk, ⟨rd, rl, rt⟩, rm, rT, rZ⟩ := hR
  obtain ⟨c1, c2, c3, c4, c5, c6, c7, c8⟩ := hZ.cn
  have hE : E = pz_fl t 0 0 0 := hZ.2.2.2.2.2.1
  rw [hE] at rk
  refine ⟨rT, ⟨?_, rZ, ?_, ?_, ?_⟩, rk⟩
  · rw [r3]; show ((0 + pz_sz t : Nat) : Int) = _; omega
  · rw [r6, c1]; show ((0 + pz_kn t : Nat) : Int) = _; omega
  · rw [r8]; show ((0 + pz_nl t : Nat) : Int) = _; omega
  · rw [r11]; show ((0 + pz_nt t : Nat) : Int) = _; omega
theorem cr_PT.lp {f : Nat → Int} {M : ab_M} {p : Nat} {t : pz_T} (h : cr_PT f M p t) (hw : pz_wf t) (hb : pz_sz t ≤ 120) (hm : ∀ r : Nat, r < pz_sz t → M (p + 1 + 1 + 3 * r) 6 = 0 ∧ M (p + 1 + 1 + 3 * r) 7 = 0) : cr_LP p M := by
  obtain ⟨hT, ⟨h3, -⟩, -⟩ := h
  refine ⟨by rw [h3]; exact ⟨by omega, by omega⟩, fun r hr => ?_⟩
  rw [h3] at hr
  obtain ⟨g1, g2, g3, g4, g5, g6, g7⟩ := cr_T_rg t hw 0 _ _ _ _ _ _ _ hT ⟨by decide, by decide⟩ (Or.inl rfl) ⟨by decide, by decide⟩ (by omega) r (Nat.zero_le _) (by omega)
  exact ⟨⟨⟨by omega, by omega⟩, g2, g3, by rcases g4 with q | q <;> (rw [q]; exact ⟨by decide, by decide⟩), by exact ⟨by omega, by omega⟩⟩, ⟨⟨by omega, by omega⟩, ⟨by omega, by omega⟩⟩, hm r (by omega)⟩
/-- linked -/
theorem cr_PT.link {f : Nat → Int} {M M' : ab_M} {p : Nat} {t : pz_T} (h : cr_PT f M p t) (hw : pz_wf t) (hb : pz_sz t ≤ 120) (hL : cr_LV p M M' (pz_sz t)) : cr_PT f M' p t ∧ cr_PL M' p (pz_sz t) := by
  have h0 := h
  obtain ⟨hT, ⟨h3, h4, h6, h8, h11⟩, hk⟩ := h
  obtain ⟨hA, hB, hC, hD⟩ := hL
  have far : ∀ o k : Nat, ¬ (p + 1 < o ∧ o < p + 362) → M' o k = M o k := fun o k g => hA o k fun r hr => by omega
  have sm2 : cr_sm2 p M M' 0 (pz_sz t) := fun i _ hi => ⟨fun k a b c d e g => hB i k (by omega) a b c d e g, fun k => ⟨hA _ _ fun r hr => by omega, hA _ _ fun r hr => by omega⟩⟩
  have rr : ∀ r j : Nat, r < pz_sz t → j ≠ 6 → j ≠ 7 → j ≠ 15 → j ≠ 16 → j ≠ 17 → j ≠ 18 → M' (p + 1 + 1 + 3 * r) j = M (p + 1 + 1 + 3 * r) j := fun r j hr => hB r j (by omega)
  have hT' : cr_T f M' p t 0 (-1) 0 (-1) 0 0 0 0 := cr_T_f2 t 0 _ _ _ _ _ _ _ hT (sm2.le (Nat.le_refl _) (by omega)) ⟨fun i _ => far _ _ (by omega), fun i _ => ⟨far _ _ (by omega), far _ _ (by omega)⟩⟩
  have e3 : M' p 3 = M p 3 := far _ _ (by omega)
  refine ⟨⟨hT', ⟨by rw [e3]; exact h3, by rw [far _ _ (by omega)]; exact h4, by rw [far _ _ (by omega)]; exact h6, by rw [far _ _ (by omega)]; exact h8, by rw [far _ _ (by omega)]; exact h11⟩, fun k v hv => by rw [far _ _ (by omega)]; exact hk k v hv⟩, fun r hr => ⟨?_, hC r hr⟩, fun q hq => ?_⟩
  · exact cr_T_rg t hw 0 _ _ _ _ _ _ _ hT' ⟨by decide, by decide⟩ (Or.inl rfl) ⟨by decide, by decide⟩ (by omega) r (Nat.zero_le _) (by omega)
  · have e0 : M' (p + 1 + 1 + 3 * q) 0 = M (p + 1 + 1 + 3 * q) 0 := rr q 0 hq (by decide) (by decide) (by decide) (by decide) (by decide) (by decide)
    have em : cr_mdf M' p q (pz_sz t) = cr_mdf M p q (pz_sz t) := by
      funext v
      unfold cr_mdf
      rw [Bool.eq_iff_iff, List.any_eq_true, List.any_eq_true]
      have ea : ∀ r, r < pz_sz t → cr_anc M' p 120 (M' (p + 1 + 1 + 3 * r) 8) = cr_anc M p 120 (M (p + 1 + 1 + 3 * r) 8) := fun r hr => by
        rw [rr r 8 hr (by decide) (by decide) (by decide) (by decide) (by decide) (by decide)]
        exact cr_anc_c e3 (fun r' hr' => rr r' 8 (by omega) (by decide) (by decide) (by decide) (by decide) (by decide) (by decide)) _ _
      constructor
      · rintro ⟨r, hr, hz⟩
        have hr2 := List.mem_range.mp hr
        refine ⟨r, hr, ?_⟩
        rw [← ea r hr2, ← rr r 1 hr2 (by decide) (by decide) (by decide) (by decide) (by decide) (by decide)]
        exact hz
      · rintro ⟨r, hr, hz⟩
        have hr2 := List.mem_range.mp hr
        refine ⟨r, hr, ?_⟩
        rw [ea r hr2, rr r 1 hr2 (by decide) (by decide) (by decide) (by decide) (by decide) (by decide)]
        exact hz
    rw [e0, em]
    exact hD q (by omega)

