/-! the passive form by the events: the whole of a tree -/
/-- a first block closes -/
theorem pq_c1 {M M' : ab_M} {f e1 : Nat} {ea : Option ps_V} {st : ps_S} (hR : pR f M M') (h10 : M 805 f = 10) (hw : M 806 f = 0 ∨ M 806 f = 3) (hh : M 812 f = (e1 : Int)) (hE : pq_e M ea st) : pq_e M' ea st ∧ (∀ V, ea = some V → M' 838 e1 = 1 ∧ ∀ v, v < 4 → M' 837 (4 * e1 + v) = V v) ∧ (ea = none → M' 838 e1 = 0) := by
  obtain ⟨c1, -, -⟩ := hR.2.1 h10
  have h := c1 hw
  rw [hh, show ((e1 : Int)).toNat = e1 from rfl] at h
  have g : ∀ o k : Nat, o ≠ 837 → o ≠ 838 → ¬ (o = 797 ∧ k = 27) → M' o k = M o k := fun o k a b d => by rw [h, if_neg (fun z => a z.1), ab_up_o b, up_ne d]
  have g25 : M' 838 e1 = M 797 57 := by rw [h, if_neg (by omega), ab_up_s]
  have g24 : ∀ v, v < 4 → M' 837 (4 * e1 + v) = M 834 v := fun v hv => by rw [h, if_pos ⟨rfl, by omega, by omega⟩, show 4 * e1 + v - 4 * e1 = v by omega]
  obtain ⟨b1, b2, b3, b4, b5⟩ := hE
  refine ⟨⟨fun V hV => ?_, fun q => ?_, ⟨fun v hv => ?_, ?_, ?_⟩⟩, fun V hV => ?_, fun q => ?_⟩
  · obtain ⟨z1, z2⟩ := b1 V hV
    exact ⟨by rw [g _ _ (by decide) (by decide) (by omega)]; exact z1, fun v hv => by rw [g _ _ (by decide) (by decide) (by omega)]; exact z2 v hv⟩
  · rw [g _ _ (by decide) (by decide) (by omega)]; exact b2 q
  · rw [g _ _ (by decide) (by decide) (by omega)]; exact b3 v hv
  · rw [g _ _ (by decide) (by decide) (by omega)]; exact b4
  · rw [g _ _ (by decide) (by decide) (by omega)]; exact b5
  · obtain ⟨z1, z2⟩ := b1 V hV
    exact ⟨by rw [g25]; exact z1, fun v hv => by rw [g24 v hv]; exact z2 v hv⟩
  · rw [g25]; exact b2 q
/-- a block opens that is come to as before -/
theorem pq_o0 {M M' : ab_M} {o : Nat} {e1 : Nat} {st : ps_S} (hR : pR o M M') (h9 : M 805 o = 9) (hh : M 812 o = (e1 : Int)) (hw : ¬ (M 806 o = 1 ∧ M 839 e1 = 1) ∧ M 806 o ≠ 4) (hg : pq_g M st) : M' 797 57 = M 797 57 ∧ (∀ v, v < 4 → M' 834 v = M 834 v) ∧ pq_g M' st := by
  obtain ⟨-, -, -, p5, p6⟩ := hR.1 h9
  rw [hh, show ((e1 : Int)).toNat = e1 from rfl] at p5
  obtain ⟨y1, y2, y3, y4⟩ := p5 hw
  exact ⟨y3, y1, fun v hv => (y2 v hv).trans (hg.1 v hv), y4.trans hg.2.1, (p6 797 59 (by omega) (by omega) (by omega) (by omega)).trans hg.2.2⟩
theorem pq_o1 {M M' : ab_M} {o : Nat} {e1 : Nat} {V : ps_V} {st : ps_S} (hR : pR o M M') (h9 : M 805 o = 9) (hh : M 812 o = (e1 : Int)) (hw : M 806 o = 1 ∧ M 839 e1 = 1) (h23 : ∀ v, v < 4 → M 836 (4 * e1 + v) = V v) (hg : pq_g M st) : M' 797 57 = 1 ∧ (∀ v, v < 4 → M' 834 v = V v) ∧ pq_g M' st := by
  obtain ⟨-, p3, -, -, p6⟩ := hR.1 h9
  rw [hh, show ((e1 : Int)).toNat = e1 from rfl] at p3
  obtain ⟨y1, y2, y3, y4⟩ := p3 hw
  exact ⟨y3, fun v hv => (y1 v hv).trans (h23 v hv), fun v hv => (y2 v hv).trans (hg.1 v hv), y4.trans hg.2.1, (p6 797 59 (by omega) (by omega) (by omega) (by omega)).trans hg.2.2⟩
/-- the second block of a try opens -/
theorem pq_o4 {M M' : ab_M} {o : Nat} {e1 : Nat} {st : ps_S} {th : List ps_V} (hR : pR o M M') (h9 : M 805 o = 9) (hh : M 812 o = (e1 : Int)) (hw : M 806 o = 4) (hth : ∀ v, v < 4 → pO_L M (e1 : Int) v = th.map (fun U => U v)) (hg : pq_g M st) :
    (th = [] → M' 797 57 = 0 ∧ pq_g M' st) ∧ ∀ V0 r, th = V0 :: r → M' 797 57 = 1 ∧ (∀ v, v < 4 → M' 834 v = (ps_tj st V0 th).2 v) ∧ pq_g M' (ps_tj st V0 th).1 := by
  obtain ⟨-, -, p4, -, p6⟩ := hR.1 h9
  have h4 := p4 hw
  rw [hh] at h4
  obtain ⟨h41, h42⟩ := h4
  have e59 : M' 797 59 = st.2.2 := (p6 797 59 (by omega) (by omega) (by omega) (by omega)).trans hg.2.2
  refine ⟨fun q => ?_, fun V0 r q => ?_⟩
  · obtain ⟨y1, y2, y3, y4⟩ := h41 (by rw [hth 0 (by decide), q]; rfl)
    exact ⟨y3, fun v hv => (y2 v hv).trans (hg.1 v hv), y4.trans hg.2.1, e59⟩
  · obtain ⟨y1, y2, y3, y4⟩ := h42 (by rw [hth 0 (by decide), q]; simp)
    have hb : ∀ v, v < 4 → (jv_b (pO_L M (e1 : Int) v) = true ↔ ¬ ps_tS V0 th v = true) := fun v hv => by
      rw [hth v hv, jv_b_a, q]
      unfold jv_a ps_tS
      rw [List.any_eq_true]
      constructor
      · rintro h ⟨U, hU, hd⟩
        have hd := of_decide_eq_true hd
        exact hd.2 (h (U v) (List.mem_map.2 ⟨U, hU, rfl⟩)).symm
      · intro h x hx
        obtain ⟨U, hU, rfl⟩ := List.mem_map.1 hx
        show U v = V0 v
        refine Classical.byContradiction fun z => h ⟨U, hU, decide_eq_true ⟨hv, fun w => z w.symm⟩⟩
    have hhd : ∀ v, v < 4 → (pO_L M (e1 : Int) v).headD (-9) = V0 v := fun v hv => by rw [hth v hv, q]; rfl
    have hcnt : ps_cnt (fun v => !jv_b (pO_L M (e1 : Int) v)) = ps_cnt (ps_tS V0 th) := by
      have hx : ∀ v, v < 4 → (!jv_b (pO_L M (e1 : Int) v)) = ps_tS V0 th v := fun v hv => by
        have := hb v hv
        cases e : jv_b (pO_L M (e1 : Int) v) <;> cases e' : ps_tS V0 th v <;> rw [e, e'] at this <;> simp_all
      unfold ps_cnt
      simp only [hx 0 (by decide), hx 1 (by decide), hx 2 (by decide), hx 3 (by decide)]
    refine ⟨y3, fun v hv => ?_, ⟨fun v hv => ?_, ?_, e59⟩⟩
    · rw [y2 v hv, hhd v hv, hg.1 v hv]
      show _ = if ps_tS V0 th v = true then st.1 v + 1 else V0 v
      by_cases c : ps_tS V0 th v = true
      · rw [if_pos c, if_neg (fun z => (hb v hv).1 z c)]
      · rw [if_neg c, if_pos ((hb v hv).2 c)]
    · rw [y1 v hv, hg.1 v hv]
      show _ = st.1 v + (if ps_tS V0 th v = true then 1 else 0)
      by_cases c : ps_tS V0 th v = true
      · rw [if_pos c, if_neg (fun z => (hb v hv).1 z c)]
      · rw [if_neg c, if_pos ((hb v hv).2 c)]
    · rw [y4, hg.2.1, hcnt, hth 0 (by decide), List.length_map]
      rfl
theorem ps_rn_F {st : ps_S} {V : ps_V} {S : Nat → Bool} (h : ∀ v, S v = false) : (∀ v, (ps_rn st V S).2 v = V v) ∧ (∀ v, (ps_rn st V S).1.1 v = st.1 v) := by
  refine ⟨fun v => ?_, fun v => ?_⟩
  · show (if S v = true then _ else V v) = _
    rw [h v]; rfl
  · show st.1 v + (if S v = true then 1 else 0) = _
    rw [h v]; simp
def pq_len (P : pz_P) (a b : pz_T) : Nat := 1 + (if 6 ≤ P.1 then 2 + (pz_ne a + (if P.1 = 7 then 0 else 2 + pz_ne b)) else 0)
/-- a loop's block closes -/
theorem pq_c2 {M M' : ab_M} {f e1 : Nat} {st : ps_S} (hR : pR f M M') (h10 : M 805 f = 10) (hw : M 806 f = 2) (hh : M 812 f = (e1 : Int)) (hg : pq_g M st) : (M 839 e1 = 1 → ∀ V : ps_V, (∀ v, v < 4 → M 836 (4 * e1 + v) = V v) → pq_e M' (some V) st) ∧ (M 839 e1 = 0 → pq_e M' none st) := by
  obtain ⟨-, c2, -⟩ := hR.2.1 h10
  obtain ⟨h1, h0⟩ := c2 hw
  rw [hh, show ((e1 : Int)).toNat = e1 from rfl] at h1 h0
  refine ⟨fun q V hV => ?_, fun q => ?_⟩
  · have h := h1 q
    have g : ∀ o k : Nat, ¬ (o = 834 ∧ k < 4) → ¬ (o = 797 ∧ (k = 27 ∨ k = 57)) → M' o k = M o k := fun o k a b => by rw [h, if_neg a, up_ne (by omega), up_ne (by omega)]
    refine ⟨fun W hW => ?_, fun z => (by cases z), ⟨fun v hv => ?_, ?_, ?_⟩⟩
    · cases hW
      exact ⟨by rw [h, if_neg (by omega), ab_up_s], fun v hv => by rw [h, if_pos ⟨rfl, hv⟩]; exact hV v hv⟩
    · rw [g _ _ (by omega) (by omega)]; exact hg.1 v hv
    · rw [g _ _ (by omega) (by omega)]; exact hg.2.1
    · rw [g _ _ (by omega) (by omega)]; exact hg.2.2
  · have h := h0 q
    subst h
    refine ⟨fun W hW => (by cases hW), fun _ => ab_up_s, ⟨fun v hv => ?_, ?_, ?_⟩⟩
    · rw [up_ne (by omega), up_ne (by omega)]; exact hg.1 v hv
    · rw [up_ne (by omega), up_ne (by omega)]; exact hg.2.1
    · rw [up_ne (by omega), up_ne (by omega)]; exact hg.2.2
theorem pq_F.tra {A B C : ab_M} {a b c : Nat} {τ : Int} {t1 t2 : List ps_V} (hbc : b ≤ c) (h : pq_F A B a b τ t1) (h' : pq_F B C a c τ t2) : pq_F A C a c τ (t1 ++ t2) := by
  obtain ⟨⟨h1, h2⟩, h3, h4, h5, h6⟩ := h
  obtain ⟨⟨g1, g2⟩, g3, g4, g5, g6⟩ := h'
  refine ⟨⟨g1.trans h1, fun k hk => (g2 k (by omega)).trans (h2 k hk)⟩, fun k q => ⟨((g3 k (by omega)).1).trans (h3 k (by omega)).1, ((g3 k (by omega)).2).trans (h3 k (by omega)).2⟩, fun k q => ⟨((g4 k (by omega)).1).trans (h4 k (by omega)).1, ((g4 k (by omega)).2).trans (h4 k (by omega)).2⟩, fun its hi v hv => ?_, fun its hi v hv => (g6 its hi v hv).trans (h6 its (by omega) v hv)⟩
  rw [g5 its (by omega) v hv, h5 its hi v hv, List.append_assoc]
  congr 1
  split
  · rw [List.map_append]
  · rfl
