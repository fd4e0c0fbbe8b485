/-! program() of the class -/
theorem pz_gw_r : ∀ (w : List Int) (l : Nat), pz_gw w l → ∀ c ∈ w, 33 ≤ c ∧ c ≤ 124
  | [], _, _, c, hc => absurd hc List.not_mem_nil
  | d :: w, l, h, c, hc => by
    have hw : ∃ m, pz_gw w m := by
      rcases h with ⟨-, m, -, h⟩ | ⟨-, m, -, h⟩ | ⟨-, m, -, h⟩
      · exact ⟨_, h⟩
      · exact ⟨_, h⟩
      · exact ⟨_, h⟩
    rcases List.mem_cons.1 hc with e | e
    · rw [e]
      rcases h with ⟨h, -⟩ | ⟨h, -⟩ | ⟨h, -⟩
      · unfold pz_two at h; omega
      · omega
      · unfold pz_name pz_dig at h; omega
    · obtain ⟨m, hm⟩ := hw
      exact pz_gw_r w m hm c e
theorem pz_ist_r {w : List Int} (h : pz_ist w) : ∀ c ∈ w, 33 ≤ c ∧ c ≤ 124 := pz_gw_r w 1 (pz_gw_of w 1 h)
theorem pz_hd_r {P : pz_P} (h : pz_wfP P) : ∀ c ∈ pz_hd P, 33 ≤ c ∧ c ≤ 124 := by
  obtain ⟨⟨h0, h8⟩, hv, h1, h2⟩ := h
  have hv2 : 0 ≤ P.2.1 ∧ P.2.1 ≤ 3 := by split at hv <;> omega
  have r1 : ∀ c ∈ P.2.2.1, 33 ≤ c ∧ c ≤ 124 := by
    by_cases z : P.1 = 1 ∨ P.1 = 4 ∨ P.1 = 8
    · rw [if_pos z] at h1; rw [h1]; exact fun c hc => absurd hc List.not_mem_nil
    · rw [if_neg z] at h1; exact pz_ist_r h1
  have r2 : ∀ c ∈ P.2.2.2, 33 ≤ c ∧ c ≤ 124 := by
    by_cases z : P.1 = 5 ∨ P.1 = 7
    · rw [if_pos z] at h2; exact pz_ist_r h2
    · rw [if_neg z] at h2; rw [h2]; exact fun c hc => absurd hc List.not_mem_nil
  intro c hc
  rcases List.mem_cons.1 hc with hc | hc
  · rw [hc]
    unfold pz_lt
    repeat' split
    all_goals omega
  · rcases List.mem_append.1 hc with hc | hc
    · split at hc
      · rw [List.mem_singleton.1 hc]; omega
      · exact absurd hc List.not_mem_nil
    · rcases List.mem_append.1 hc with hc | hc
      · exact r1 c hc
      · rcases List.mem_append.1 hc with hc | hc
        · split at hc
          · rw [List.mem_singleton.1 hc]; omega
          · exact absurd hc List.not_mem_nil
        · exact r2 c hc
theorem pz_pr_r : ∀ (t : pz_T), pz_wf t → ∀ c ∈ pz_pr t, 33 ≤ c ∧ c ≤ 124 := by
  intro t
  induction t using pz_ind with
  | h0 => intro _ c hc; exact absurd hc List.not_mem_nil
  | h2 s P v t => intro h; exact h.elim
  | h1 s P v t s' P' v' a b iht iha ihb =>
    intro hw c hc
    obtain ⟨w1, w2, w3, w4, w5, w6⟩ := hw
    rw [pz_pr_nd] at hc
    rcases List.mem_append.1 hc with hc | hc
    · exact iht w1 c hc
    · rcases List.mem_append.1 hc with hc | hc
      · exact pz_hd_r w4 c hc
      · split at hc
        · rcases List.mem_cons.1 hc with hc | hc
          · omega
          · rcases List.mem_append.1 hc with hc | hc
            · exact iha w2 c hc
            · rcases List.mem_cons.1 hc with hc | hc
              · omega
              · split at hc
                · exact absurd hc List.not_mem_nil
                · rcases List.mem_cons.1 hc with hc | hc
                  · omega
                  · rcases List.mem_append.1 hc with hc | hc
                    · exact ihb w3 c hc
                    · rw [List.mem_singleton.1 hc]; omega
        · exact absurd hc List.not_mem_nil
theorem gd.r {ls : List Int} {t : pz_T} (h : gd ls t) : ∀ c ∈ ls, 33 ≤ c ∧ c ≤ 124 := by rw [h.1.2.2]; exact pz_pr_r t h.1.1
theorem gd.f {ls : List Int} {t : pz_T} (h : gd ls t) : ls.filter (fun c => decide (c ≠ 32)) = ls := List.filter_eq_self.2 fun c hc => decide_eq_true (by have := h.r c hc; omega)
/-- the program is read -/
def pd_P (M : ab_M) (t : pz_T) : Prop := gd (tx M 3) t ∧ cr_PT (M 4) M 26 t ∧ cr_PL M 26 (pz_sz t) ∧ M 26 0 = 3
def rp_F (M M' : ab_M) : Prop := ∀ o k : Nat, ¬ (764 ≤ o ∧ o ≤ 767) → ¬ ((26 ≤ o ∧ o ≤ 394) ∧ ¬ (o = 26 ∧ k = 0) ∧ o ≠ 388) → ¬ (o = 769 ∧ k = 3) → ¬ ((o = 775 ∧ k = 9) ∨ (o = 768 ∧ (k = 7 ∨ k = 8)) ∨ o = 787) → M' o k = M o k
def rp_C (M' : ab_M) : Prop := M' 769 3 = 0 ∧ M' 775 9 = -1 ∧ M' 768 7 = 0 ∧ M' 768 8 = 0 ∧ ∀ l : Nat, l < 4 → M' 787 l = 0
def rp_P (M M' : ab_M) : Prop := rp_F M M' ∧ rp_C M' ∧ ∃ t, pd_P M' t
def rp_A (M : ab_M) : Prop := tx_ok M 3 ∧ M 26 0 = 3 ∧ ∃ t, gd (tx M 3) t
/-- the cells of the program that is read are the same -/
theorem pl_fr {M M' : ab_M} {n : Nat} (h : ∀ o k : Nat, 26 ≤ o → o ≤ 394 → M' o k = M o k) (hn : n ≤ 120) (h3 : M 26 3 = (n : Int)) (hPL : cr_PL M 26 n) : cr_PL M' 26 n := by
  obtain ⟨h1, h2⟩ := hPL
  have e3 : M' 26 3 = M 26 3 := h _ _ (by decide) (by decide)
  have rb : ∀ w : Nat, 26 ≤ w → w ≤ 394 → cr_rb M' w = cr_rb M w := fun w a b => by
    unfold cr_rb
    rw [h w 0 a b, h w 5 a b, h w 15 a b]
  have en : ∀ w k : Nat, 26 ≤ w → w ≤ 393 → cr_en M' w k = cr_en M w k := fun w k a b => by
    unfold cr_en
    rw [h (w + 1) k (by omega) (by omega), rb w a (by omega)]
  refine ⟨fun r hr => ?_, fun q hq => ?_⟩
  · have hs : ∀ k, M' (26 + 1 + 1 + 3 * r) k = M (26 + 1 + 1 + 3 * r) k := fun k => h _ _ (by omega) (by omega)
    have hs1 : ∀ k, M' (26 + 1 + 1 + 3 * r + 1) k = M (26 + 1 + 1 + 3 * r + 1) k := fun k => h _ _ (by omega) (by omega)
    obtain ⟨g1, g2, g3, g4, g5⟩ := h1 r hr
    have o1 : cr_ow M' 26 (26 + 1 + 1 + 3 * r) = cr_ow M 26 (26 + 1 + 1 + 3 * r) := by show 26 + 1 + 1 + 3 * (M' (26 + 1 + 1 + 3 * r) 8).toNat = 26 + 1 + 1 + 3 * (M (26 + 1 + 1 + 3 * r) 8).toNat; rw [hs]
    obtain ⟨o2, o3⟩ : 26 ≤ cr_ow M 26 (26 + 1 + 1 + 3 * r) ∧ cr_ow M 26 (26 + 1 + 1 + 3 * r) ≤ 388 := by
      have := g1.2.2.1
      show 26 ≤ 26 + 1 + 1 + 3 * (M (26 + 1 + 1 + 3 * r) 8).toNat ∧ 26 + 1 + 1 + 3 * (M (26 + 1 + 1 + 3 * r) 8).toNat ≤ 388
      omega
    have er := fun k => en (26 + 1 + 1 + 3 * r) k (by omega) (by omega)
    refine ⟨?_, ?_, ?_, ?_, ?_⟩
    · unfold cr_rg
      simp only [hs, hs1]
      exact g1
    · rw [hs, g2]
      unfold cr_aft
      rw [hs, hs, o1, rb _ o2 (by omega)]
    · rw [hs, g3]
      unfold cr_cau
      rw [hs, hs, o1, h _ 0 o2 (by omega), h _ 16 o2 (by omega), en _ 1 o2 (by omega)]
    · rw [hs, g4]
      unfold cr_go
      rw [hs, hs, hs, er]
    · rw [hs, g5]
      unfold cr_ot
      rw [hs, hs, er]
  · have hs : ∀ k, M' (26 + 1 + 1 + 3 * q) k = M (26 + 1 + 1 + 3 * q) k := fun k => h _ _ (by omega) (by omega)
    have em : cr_mdf M' 26 q n = cr_mdf M 26 q n := by
      funext v
      unfold cr_mdf
      rw [Bool.eq_iff_iff, List.any_eq_true, List.any_eq_true]
      have ea : ∀ r, r < n → cr_anc M' 26 120 (M' (26 + 1 + 1 + 3 * r) 8) = cr_anc M 26 120 (M (26 + 1 + 1 + 3 * r) 8) ∧ M' (26 + 1 + 1 + 3 * r) 1 = M (26 + 1 + 1 + 3 * r) 1 := fun r hr => by
        rw [h (26 + 1 + 1 + 3 * r) 8 (by omega) (by omega)]
        exact ⟨cr_anc_c e3 (fun r' hr' => h _ _ (by omega) (by omega)) _ _, h _ _ (by omega) (by omega)⟩
      constructor
      · rintro ⟨r, hr, hz⟩
        have hr2 := List.mem_range.mp hr
        refine ⟨r, hr, ?_⟩
        rw [← (ea r hr2).1, ← (ea r hr2).2]
        exact hz
      · rintro ⟨r, hr, hz⟩
        have hr2 := List.mem_range.mp hr
        refine ⟨r, hr, ?_⟩
        rw [(ea r hr2).1, (ea r hr2).2]
        exact hz
    rw [hs, hs, hs, em]
    exact h2 q hq
theorem pt_fr {M M' : ab_M} {f : Nat → Int} {t : pz_T} (h : ∀ o k : Nat, 26 ≤ o → o ≤ 394 → M' o k = M o k) (hn : pz_sz t ≤ 120) (hPT : cr_PT f M 26 t) : cr_PT f M' 26 t := by
  obtain ⟨a1, ⟨a2, a3, a4, a5, a6⟩, a7⟩ := hPT
  refine ⟨cr_T_fr t 0 _ _ _ _ _ _ _ a1 (fun i _ hi j hj k => h _ _ (by omega) (by omega)) ⟨fun i _ => h _ _ (by decide) (by decide), fun i _ => ⟨h _ _ (by decide) (by decide), h _ _ (by decide) (by decide)⟩⟩, ⟨?_, ?_, ?_, ?_, ?_⟩, fun k v hv => ?_⟩
  · rw [h _ _ (by decide) (by decide)]; exact a2
  · rw [h _ _ (by decide) (by decide)]; exact a3
  · rw [h _ _ (by decide) (by decide)]; exact a4
  · rw [h _ _ (by decide) (by decide)]; exact a5
  · rw [h _ _ (by decide) (by decide)]; exact a6
  · rw [h _ _ (by decide) (by decide)]; exact a7 k v hv
theorem gd.sz {ls : List Int} {t : pz_T} (h : gd ls t) : pz_sz t ≤ 120 ∧ pz_nt t ≤ 60 := by
  obtain ⟨-, h2, h3⟩ := pz_mu_fl t h.1.1 0 0 0
  rw [gm_fl t h.1.1] at h2 h3
  have := h.2.2.2.2
  omega
theorem pd_P.fr {M M' : ab_M} {t : pz_T} (hP : pd_P M t) (h : ∀ o k : Nat, 26 ≤ o → o ≤ 394 → M' o k = M o k) (h3 : M' 3 1 = M 3 1) (h4 : ∀ k, M' 4 k = M 4 k) : pd_P M' t := by
  obtain ⟨p1, p2, p3, p4⟩ := hP
  have e4 : M' 4 = M 4 := funext h4
  have htx : tx M' 3 = tx M 3 := by
    show pz_ls (M' 4) (M' 3 1) = pz_ls (M 4) (M 3 1)
    rw [h3, e4]
  refine ⟨by rw [htx]; exact p1, by rw [e4]; exact pt_fr h p1.sz.1 p2, pl_fr h p1.sz.1 p2.2.1.1 p3, by rw [h _ _ (by decide) (by decide)]; exact p4⟩
theorem rp_of {M A M' : ab_M} {r : Int} (hA : rp_A M) (h1 : cr_RP 3 26 M A r) (h2 : dr_P A M') : rp_P M M' := by
  obtain ⟨h3, h26, t0, ht0⟩ := hA
  obtain ⟨-, hF, hm⟩ := h1
  have hL : cr_L 3 M = tx M 3 := ht0.f
  rw [hL, ht0.2.1] at hm
  obtain ⟨-, t, g1, g2, g3, g4, g5, g6⟩ := hm
  obtain ⟨d1, d2, d3, d4, d5, d6⟩ := h2
  have e : ∀ o k : Nat, o < 768 → M' o k = A o k := fun o k x => d6 o k (by omega) (by omega) (by omega) (by omega)
  have f3 : ∀ k, A 3 k = M 3 k := fun k => hF _ _ (by omega) (by omega)
  have f4 : A 4 = M 4 := funext fun k => hF _ _ (by omega) (by omega)
  have htx : tx A 3 = tx M 3 := by
    show pz_ls (A 4) (A 3 1) = pz_ls (M 4) (M 3 1)
    rw [f3, f4]
  have hg : gd (tx M 3) t := ht0.any g1 g2 g3 g4
  have hpA : pd_P A t := ⟨by rw [htx]; exact hg, by rw [f4]; exact g5, g6, by rw [hF _ _ (by omega) (by omega)]; exact h26⟩
  refine ⟨fun o k x y z w => ?_, ⟨d1, d2, d3, d4, d5⟩, t, hpA.fr (fun o k a b => e _ _ (by omega)) (e _ _ (by decide)) fun k => e _ _ (by decide)⟩
  · rw [d6 o k z (by omega) (by omega) (by omega)]
    exact hF o k x (by omega)
/-- only the reader's trial changes -/
def pm_F (M M' : ab_M) : Prop := ∀ o k : Nat, ¬ (764 ≤ o ∧ o ≤ 767) → ¬ ((395 ≤ o ∧ o ≤ 763) ∧ ¬ (o = 395 ∧ k = 0) ∧ o ≠ 757) → M' o k = M o k
def ck_F (M M' : ab_M) : Prop := ∀ o k : Nat, ¬ (764 ≤ o ∧ o ≤ 767) → ¬ ((395 ≤ o ∧ o ≤ 763) ∧ ¬ (o = 395 ∧ k = 0) ∧ o ≠ 757) → ¬ ((26 ≤ o ∧ o ≤ 394) ∧ ¬ (o = 26 ∧ k = 0) ∧ o ≠ 388) → ¬ (o = 769 ∧ k = 3) → ¬ ((o = 775 ∧ k = 9) ∨ (o = 768 ∧ (k = 7 ∨ k = 8)) ∨ o = 787) → ¬ (3 ≤ o ∧ o ≤ 19) → ¬ (o = 0 ∧ k = 13) → ¬ (o = 1 ∧ k = 1) → M' o k = M o k
/-- the texts that a change uses -/
def tc_ok (M : ab_M) : Prop := (er_ok M ∧ ∀ o : Nat, 8 ≤ o → o ≤ 18 → o % 2 = 0 → tx_ok M o) ∧ (tx_ok M 3 ∧ tx_ok M 5) ∧ 0 ≤ M 0 13 ∧ M 0 13 ≤ 6
/-- a change: the program has other letters -/
def ct_P (M M' : ab_M) (ls : List Int) : Prop := ck_F M M' ∧ tc_ok M' ∧ M' 1 1 = 0 ∧ past M' = (if 6 ≤ M 0 13 then (past M).tail else past M) ++ [tx M 3] ∧ tx M' 3 = ls ∧ rp_C M' ∧ ∃ t, pd_P M' t
theorem tx_fr {M M' : ab_M} {o : Nat} (h1 : M' o 1 = M o 1) (h2 : ∀ k, M' (o + 1) k = M (o + 1) k) : tx M' o = tx M o ∧ (tx_ok M o → tx_ok M' o) := by
  refine ⟨?_, fun h => ?_⟩
  · show pz_ls (M' (o + 1)) (M' o 1) = _
    rw [h1]
    exact pz_ls_congr fun j _ => h2 j
  · unfold tx_ok
    rw [h1]
    exact ⟨h.1, fun j => by rw [h2]; exact h.2 j⟩
theorem er_fr {M M' : ab_M} (h : ∀ k, M' 7 k = M 7 k) (he : er_ok M) : er_ok M' := by
  unfold er_ok
  simp only [h]
  exact he
theorem ct_A {M C : ab_M} (hM : tc_ok M) (hC : ∀ o k : Nat, o < 26 → o ≠ 6 → ¬ (o = 5 ∧ k = 1) → C o k = M o k) (h5 : tx_ok C 5) : ch_A C ∧ past C = past M ∧ tx C 3 = tx M 3 := by
  obtain ⟨⟨t1, t2⟩, ⟨t3, t4⟩, t5, t6⟩ := hM
  have e13 : C 0 13 = M 0 13 := hC _ _ (by decide) (by decide) (by decide)
  have e7 : ∀ k, C 7 k = M 7 k := fun k => hC _ _ (by decide) (by decide) (by omega)
  have ft := fun (o : Nat) (a : o ≤ 22) (b : o ≠ 5 ∧ o ≠ 4) (c : o ≠ 6) => tx_fr (M := M) (M' := C) (o := o) (hC _ _ (by omega) (by omega) (by omega)) (fun k => hC _ _ (by omega) (by omega) (by omega))
  refine ⟨⟨⟨er_fr e7 t1, fun o a b c => (ft o (by omega) (by omega) (by omega)).2 (t2 o a b c)⟩, ⟨(ft 3 (by decide) (by decide) (by decide)).2 t3, h5⟩, by rw [e13]; exact ⟨t5, t6⟩⟩, past_ext e13 fun k hk => ?_, (ft 3 (by decide) (by decide) (by decide)).1⟩
  obtain ⟨-, -, ⟨w1, w2, w3, w4⟩, -⟩ := er_wf t1 (show k < 6 by omega)
  rw [e7]
  exact (ft _ (by omega) (by omega) (by omega)).1
theorem ct_of {M A C D M' : ab_M} {ls : List Int} {t : pz_T} (hM : tc_ok M) (h26 : M 26 0 = 3) (hA : pm_F M A) (hC : ∀ o k : Nat, o ≠ 6 → ¬ (o = 5 ∧ k = 1) → C o k = A o k) (h5 : tx_ok C 5) (hls : tx C 5 = ls) (hg : gd ls t) (hD : ch_P C D) : rp_A D ∧ (rp_P D M' → ct_P M M' ls) := by
  have low : ∀ o k : Nat, o < 395 → o ≠ 6 → ¬ (o = 5 ∧ k = 1) → C o k = M o k := fun o k a b c => (hC o k b c).trans (hA o k (by omega) (by omega))
  obtain ⟨c1, c2, c3⟩ := ct_A hM (fun o k a b c => low o k (by omega) b c) h5
  obtain ⟨d1, d2, ⟨d3, d4, d5⟩, d6, d7, d8⟩ := hD
  have e13 : C 0 13 = M 0 13 := low _ _ (by decide) (by decide) (by decide)
  refine ⟨⟨d5, ?_, t, by rw [d8, hls]; exact hg⟩, fun ⟨r1, r2, t', r3⟩ => ?_⟩
  · rw [d1 _ _ (by decide) (by decide) (by decide) (by decide) (by decide), low _ _ (by decide) (by decide) (by decide)]; exact h26
  have f : ∀ o k : Nat, o < 26 → M' o k = D o k := fun o k a => r1 o k (by omega) (by omega) (by omega) (by omega)
  have ft := fun (o : Nat) (a : o ≤ 24) => tx_fr (M := D) (M' := M') (o := o) (f _ _ (by omega)) (fun k => f _ _ (by omega))
  have d55 : tx_ok D 5 := (tx_fr (M := C) (M' := D) (d1 _ _ (by decide) (by decide) (by decide) (by decide) (by decide)) (fun k => d1 _ _ (by decide) (by decide) (by decide) (by omega) (by omega))).2 h5
  refine ⟨fun o k x1 x2 x3 x4 x5 x6 x7 x8 => ?_, ⟨⟨er_fr (fun k => f _ _ (by decide)) d3, fun o a b c => (ft o (by omega)).2 (d4 o a b c)⟩, ⟨(ft 3 (by decide)).2 d5, (ft 5 (by decide)).2 d55⟩, by rw [f _ _ (by decide)]; exact d6⟩, by rw [f _ _ (by decide)]; exact d2, ?_, ?_, r2, t', r3⟩
  · rw [r1 o k x1 (by omega) x4 x5, d1 o k (by omega) (by omega) (by omega) x7 x8, hC o k (by omega) (by omega)]
    exact hA o k x1 x2
  · rw [past_ext (M := D) (f _ _ (by decide)) (fun k hk => by
      obtain ⟨-, -, ⟨w1, w2, w3, w4⟩, -⟩ := er_wf d3 (show k < 6 by omega)
      rw [f 7 _ (by decide)]
      exact (ft _ (by omega)).1), d7, e13, c2, c3]
  · rw [(ft 3 (by decide)).1, d8]
    exact hls
/-- program() -/
def pm_P (M M' : ab_M) (r : Int) : Prop := match pz_read (cr_L 1 M) with
  | .inl q => pm_F M M' ∧ ∃ e : Nat, r = -10 - (e : Int) ∧ (e : Int) ≤ M 1 1 ∧ ((e : Int) < M 1 1 → M 2 e ≠ 32) ∧ q = ((cr_c 1 M e : Nat) : Int)
  | .inr _ => ct_P M M' (cr_L 1 M) ∧ r = M' 26 3
def pm_A (M : ab_M) : Prop := tc_ok M ∧ tx_ok M 1 ∧ M 26 0 = 3 ∧ M 395 0 = 1
theorem ap_l_all (M : ab_M) (o : Nat) (h : 0 ≤ M o 1) : ap_l (M (o + 1)) 0 (M o 1).toNat = (tx M o).filter fun c => decide (c ≠ 32) := by
  show ((List.range (M o 1).toNat).map fun j => M (o + 1) ((0 : Int).toNat + j)).filter _ = ((List.range (M o 1).toNat).map (M (o + 1))).filter _
  congr 1
  exact List.map_congr_left fun j _ => by rw [show (0 : Int).toNat + j = j by omega]

def S_X8_readPresent : ab_PT := fun a M K => match a with
  | [.inr (.inr (.inr (0, 8, 0)))] => (rp_A M) ∧ (∀ Mx : ab_M, (rp_P M Mx) → K [] Mx)
  | _ => False
set_option maxRecDepth 20000 in
theorem vc_X8_readPresent_0  (M : ab_M) (K : List ab_V → ab_M → Prop) (hS : (rp_A M) ∧ (∀ Mx : ab_M, (rp_P M Mx) → K [] Mx)) : (cr_op 3 26 ∧ M 26 0 = (3 : Int) ∧ ((0 ≤ M 3 1 ∧ M 3 1 ≤ (if 3 = 1 then 120 else 640)) ∧ ∀ j, 0 ≤ M 4 j ∧ M 4 j < 256) ∧ cr_BD (cr_L 3 M)) ∧ (∀ r12 : Int, ∀ M12 : ab_M, (cr_RP 3 26 M M12 r12) → (True) ∧ (∀ M20 : ab_M, (dr_P M12 M20) → K [] M20)) := by
  obtain ⟨gA, gK⟩ := hS
  obtain ⟨a1, a2, t, a3⟩ := id gA
  have hBD : cr_BD (cr_L 3 M) := by
    have e : cr_L 3 M = tx M 3 := a3.f
    rw [e]
    exact a3.bd
  refine And.intro (by
    first
      | exact ⟨Or.inr ⟨rfl, rfl⟩, a2, ⟨a1.1, a1.2⟩, hBD⟩
      | trivial) ?_
  intro r12 M12 hM12
  refine And.intro trivial ?_
  intro M20 hM20
  exact gK _ (rp_of gA hM12 hM20)

set_option maxRecDepth 20000 in
set_option maxHeartbeats 1000000 in
theorem ok_X8_readPresent (E : ab_E) : ab_Ok E 7 105 S_X8_readPresent := by
  refine ab_mk rq_X8_readPresent tk_X8_readPresent (rt := 0) (rfl) (cuts := []) (G := [(40, S_X2_readProgram), (48, S_X3_drop)]) (List.forall_mem_cons.mpr ⟨⟨6, by decide, ok_X2_readProgram E⟩, List.forall_mem_cons.mpr ⟨⟨2, by decide, ok_X3_drop E⟩, fun _ h => absurd h List.not_mem_nil⟩⟩) (by decide) 62 rfl ?_
  intro a M K wd wa hS
  unfold S_X8_readPresent at hS
  split at hS
  ·
    refine ⟨Nat.le_of_ble_eq_true rfl, fun _ _ _ _ _ => False, ?_, ?_⟩
    · exact vc_X8_readPresent_0  M K  hS
    · exact fun _ _ _ _ _ h => h.elim
  · exact hS.elim
def S_X8_program : ab_PT := fun a M K => match a with
  | [.inr (.inr (.inr (0, 8, 0)))] => (pm_A M) ∧ (∀ rx : Int, ∀ Mx : ab_M, (pm_P M Mx rx) → K [Xi rx] Mx)
  | _ => False
set_option maxRecDepth 20000 in
theorem vc_X8_program_0  (M : ab_M) (K : List ab_V → ab_M → Prop) (hS : (pm_A M) ∧ (∀ rx : Int, ∀ Mx : ab_M, (pm_P M Mx rx) → K [Xi rx] Mx)) : (cr_op 1 395 ∧ M 395 0 = (1 : Int) ∧ ((0 ≤ M 1 1 ∧ M 1 1 ≤ (if 1 = 1 then 120 else 640)) ∧ ∀ j, 0 ≤ M 2 j ∧ M 2 j < 256) ∧ cr_BD (cr_L 1 M)) ∧ (∀ r12 : Int, ∀ M12 : ab_M, (cr_RP 1 395 M M12 r12) → (ab_ir r12) ∧ ((r12 < 0 → ((1 = 1 ∨ 1 = 3) ∧ tx_ok (ab_up M12 5 1 (0 : Int)) 5 ∧ tx_ok (ab_up M12 5 1 (0 : Int)) 1 ∧ (0 ≤ (0 : Int) ∧ (0 : Int) ≤ 640) ∧ (ab_ir (M12 1 1) ∧ (M12 1 1) ≤ (ab_up M12 5 1 (0 : Int)) 1 1) ∧ (ab_up M12 5 1 (0 : Int)) 5 1 + (((ap_l ((ab_up M12 5 1 (0 : Int)) 2) (0 : Int) ((M12 1 1) - (0 : Int)).toNat).length : Nat) : Int) ≤ 640) ∧ (∀ M49 : ab_M, (ap_I (ab_up M12 5 1 (0 : Int)) M49 1 (0 : Int) (if (0 : Int) < (M12 1 1) then (M12 1 1) else (0 : Int))) → (ch_A M49) ∧ (∀ M53 : ab_M, (ch_P M49 M53) → (rp_A M53) ∧ (∀ M57 : ab_M, (rp_P M53 M57) → K [Xi (M57 26 3)] M57)))) ∧ (0 ≤ r12 → (-128 ≤ (-10 : Int) ∧ (-10 : Int) < 128) ∧ K [Xi ((-10 : Int) - r12)] M12))) := by
  obtain ⟨gA, gK⟩ := hS
  obtain ⟨a1, a2, a3, a4⟩ := id gA
  have hlen : (cr_L 1 M).length ≤ 120 := by
    have h1 := List.length_filter_le (fun c => decide (c ≠ 32)) (pz_ls (M 2) (M 1 1))
    rw [pz_ls_len] at h1
    have h2 := a2.1
    rw [if_pos rfl] at h2
    show ((pz_ls (M 2) (M 1 1)).filter _).length ≤ 120
    omega
  refine And.intro (by
    first
      | exact ⟨Or.inl ⟨rfl, rfl⟩, a4, ⟨a2.1, a2.2⟩, cr_BD_120 hlen⟩
      | omega
      | exact ⟨by omega, by omega⟩
      | exact hcA
      | exact hrA
      | exact hr12
      | trivial) ?_
  intro r12 M12 hM12
  obtain ⟨-, hFA0, hm⟩ := hM12
  have hFA : pm_F M M12 := fun o k x y => hFA0 o k x (by omega)
  have hr12 : ab_ir r12 := by
    have h2 := a2.1
    rw [if_pos rfl] at h2
    cases hx : pz_read (cr_L 1 M) with
    | inr E => rw [hx] at hm; have := hm.1; omega
    | inl q => rw [hx] at hm; obtain ⟨e, z1, z2, -⟩ := hm; omega
  refine And.intro (by
    first
      | exact ⟨Or.inl ⟨rfl, rfl⟩, a4, ⟨a2.1, a2.2⟩, cr_BD_120 hlen⟩
      | omega
      | exact ⟨by omega, by omega⟩
      | exact hcA
      | exact hrA
      | exact hr12
      | trivial) ?_
  refine ⟨?_, ?_⟩
  · intro c17
    refine And.intro (by
      have h51 := a1.2.1.2
      have f : ∀ o k : Nat, o < 395 → M12 o k = M o k := fun o k h => hFA o k (by omega) (by omega)
      have f1 : tx_ok (ab_up M12 5 1 0) 1 := (tx_fr (by rw [up_ne (by omega), f _ _ (by decide)]) (fun k => by rw [up_ne (by omega), f _ _ (by decide)])).2 a2
      have f5 : tx_ok (ab_up M12 5 1 0) 5 := ⟨by rw [ab_up_s]; exact ⟨by decide, by decide⟩, fun j => by rw [ab_up_o (by decide), f _ _ (by decide)]; exact h51.2 j⟩
      have e11 : M12 1 1 = M 1 1 := f _ _ (by decide)
      have h11 := a2.1
      rw [if_pos rfl] at h11
      refine ⟨Or.inl rfl, f5, f1, by decide, ⟨by rw [e11]; omega, Int.le_refl _⟩, ?_⟩
      rw [ab_up_s, e11, show (M 1 1 - 0).toNat = (M 1 1).toNat by omega]
      have e2 : ap_l (ab_up M12 5 1 0 2) 0 (M 1 1).toNat = cr_L 1 M := by
        rw [show cr_L 1 M = (tx M 1).filter (fun c => decide (c ≠ 32)) from rfl, ← ap_l_all M 1 h11.1]
        unfold ap_l
        congr 1
        exact List.map_congr_left fun j _ => by show ab_up M12 5 1 0 2 _ = M 2 _; rw [ab_up_o (by decide), f _ _ (by decide)]
      rw [e2]
      omega) ?_
    intro M49 hM49
    have f : ∀ o k : Nat, o < 395 → M12 o k = M o k := fun o k h => hFA o k (by omega) (by omega)
    have e11 : M12 1 1 = M 1 1 := f _ _ (by decide)
    have h11 := a2.1
    rw [if_pos rfl] at h11
    have hls : tx M49 5 = cr_L 1 M := by
      obtain ⟨-, -, z⟩ := hM49
      rw [z]
      have z0 : tx (ab_up M12 5 1 0) 5 = [] := by
        show pz_ls _ (ab_up M12 5 1 0 5 1) = []
        rw [ab_up_s]
        rfl
      rw [z0, List.nil_append, show cr_L 1 M = (tx M 1).filter (fun c => decide (c ≠ 32)) from rfl, ← ap_l_all M 1 h11.1, e11]
      have ei : ((if (0 : Int) < M 1 1 then M 1 1 else 0) - 0).toNat = (M 1 1).toNat := by split <;> omega
      rw [ei]
      unfold ap_l
      congr 1
      exact List.map_congr_left fun j _ => by show ab_up M12 5 1 0 2 _ = M 2 _; rw [ab_up_o (by decide), f _ _ (by decide)]
    have hC : ∀ o k : Nat, o ≠ 6 → ¬ (o = 5 ∧ k = 1) → M49 o k = M12 o k := fun o k x y => (hM49.1 o k x y).trans (up_ne y)
    obtain ⟨E, hE⟩ : ∃ E, pz_read (cr_L 1 M) = .inr E := by
      cases hx : pz_read (cr_L 1 M) with
      | inr E => exact ⟨E, rfl⟩
      | inl q => rw [hx] at hm; obtain ⟨e, z, -⟩ := hm; omega
    rw [hE] at hm
    obtain ⟨-, t, t1, t2, t3, t4, -, -⟩ := hm
    have hgt : gd (cr_L 1 M) t := gd_short hlen t1 t2 t3 (by rw [hE, t4])
    have hcA := (ct_A (C := M49) a1 (fun o k x y z => (hC o k y z).trans (f o k (by omega))) hM49.2.1).1
    refine And.intro (by
      first
        | exact ⟨Or.inl ⟨rfl, rfl⟩, a4, ⟨a2.1, a2.2⟩, cr_BD_120 hlen⟩
        | omega
        | exact ⟨by omega, by omega⟩
        | exact hcA
        | exact hrA
        | exact hr12
        | trivial) ?_
    intro M53 hM53
    have hct := fun M' => ct_of (M' := M') a1 a3 hFA hC hM49.2.1 hls hgt hM53
    have hrA := (hct M).1
    refine And.intro (by
      first
        | exact ⟨Or.inl ⟨rfl, rfl⟩, a4, ⟨a2.1, a2.2⟩, cr_BD_120 hlen⟩
        | omega
        | exact ⟨by omega, by omega⟩
        | exact hcA
        | exact hrA
        | exact hr12
        | trivial) ?_
    intro M57 hM57
    refine gK _ _ ?_
    unfold pm_P
    rw [hE]
    exact ⟨(hct _).2 hM57, rfl⟩
  · intro c17
    refine And.intro (by
      first
        | exact ⟨Or.inl ⟨rfl, rfl⟩, a4, ⟨a2.1, a2.2⟩, cr_BD_120 hlen⟩
        | omega
        | exact ⟨by omega, by omega⟩
        | exact hcA
        | exact hrA
        | exact hr12
        | trivial) ?_
    refine gK _ _ ?_
    unfold pm_P
    cases hx : pz_read (cr_L 1 M) with
    | inr E => rw [hx] at hm; have := hm.1; omega
    | inl q =>
      rw [hx] at hm
      obtain ⟨e, z1, z2, z3, z4⟩ := hm
      exact ⟨hFA, e, by omega, z2, z3, z4⟩

set_option maxRecDepth 20000 in
set_option maxHeartbeats 1000000 in
theorem ok_X8_program (E : ab_E) : ab_Ok E 8 104 S_X8_program := by
  refine ab_mk rq_X8_program tk_X8_program (rt := 1) (rfl) (cuts := []) (G := [(40, S_X2_readProgram), (68, S_X6_addPlain), (82, S_X8_changeToSpare), (105, S_X8_readPresent)]) (List.forall_mem_cons.mpr ⟨⟨6, by decide, ok_X2_readProgram E⟩, List.forall_mem_cons.mpr ⟨⟨2, by decide, ok_X6_addPlain E⟩, List.forall_mem_cons.mpr ⟨⟨2, by decide, ok_X8_changeToSpare E⟩, List.forall_mem_cons.mpr ⟨⟨7, by decide, ok_X8_readPresent E⟩, fun _ h => absurd h List.not_mem_nil⟩⟩⟩⟩) (by decide) 85 rfl ?_
  intro a M K wd wa hS
  unfold S_X8_program at hS
  split at hS
  ·
    refine ⟨Nat.le_of_ble_eq_true rfl, fun _ _ _ _ _ => False, ?_, ?_⟩
    · exact vc_X8_program_0  M K  hS
    · exact fun _ _ _ _ _ h => h.elim
  · exact hS.elim
