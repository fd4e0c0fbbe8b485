/-! a statement, by its events -/
theorem pq_fin {m : Nat → ab_M} {e1 o g : Nat} {w w' τ : Int} {tt th : List ps_V} {ea eb : Option ps_V} {st : ps_S} (hB : pq_B m e1 o g w w' τ tt th) (hR : pR g (m g) (m (g + 1))) (hl : m g 805 g = 10 ∧ m g 806 g = w' ∧ m g 812 g = (e1 : Int)) (hw : w' = 1 ∨ w' = 4)
    (ha : (∀ V, ea = some V → m o 838 e1 = 1 ∧ ∀ v, v < 4 → m o 837 (4 * e1 + v) = V v) ∧ (ea = none → m o 838 e1 = 0)) (hb : pq_e (m g) eb st) : pq_F (m e1) (m (g + 1)) e1 (g + 1) τ tt ∧ pq_e (m (g + 1)) (ps_jn st ea eb).2 (ps_jn st ea eb).1 := by
  obtain ⟨b1, -, -, -, b5, b6, -⟩ := hB
  obtain ⟨l1, l2, l3⟩ := hl
  refine ⟨b1, (pq_join hR l1 (by rw [l2]; exact hw) l3 ⟨fun V hV => ?_, fun q => by rw [b6]; exact ha.2 q⟩ hb).1⟩
  obtain ⟨z1, z2⟩ := ha.1 V hV
  exact ⟨by rw [b6]; exact z1, fun v hv => by rw [(b5 v hv).2]; exact z2 v hv⟩
theorem pq_e.l {M : ab_M} {o : Option ps_V} {st : ps_S} (h : pq_e M o st) : pq_g M st := h.2.2
theorem ps_jn_n (st : ps_S) (e : Option ps_V) : ps_jn st e none = (st, e) := by cases e <;> rfl
/-- the blocks of a choice or a try, after the first one's end -/
theorem pq_two {N : ab_M} {m : Nat → ab_M} {e1 f g : Nat} {w τ : Int} {t0 thA : List ps_V} {ea : Option ps_V} {st : ps_S} {F : ps_V → ps_S → ps_R} (hch : pq_ch N m e1 (g + 1)) (h1 : e1 < f) (h2 : f + 1 < g) (hw : w = 1 ∨ w = 4)
    (ho : m (f + 1) 805 (f + 1) = 9 ∧ m (f + 1) 806 (f + 1) = w ∧ m (f + 1) 812 (f + 1) = (e1 : Int)) (hl : m g 805 g = 10 ∧ m g 806 g = w ∧ m g 812 g = (e1 : Int)) (hF : pq_R m (f + 2) g F) (ht : τ = tr_a (m e1) (m e1 797 27).toNat) (hτ : τ < (e1 : Int))
    (hemp : ∀ its : Int, (e1 : Int) ≤ its → ∀ v, v < 4 → pO_L (m e1) its v = []) (h0 : pq_F (m e1) (m (f + 1)) e1 (f + 1) τ t0)
    (hth : ∀ v, v < 4 → pO_L (m (f + 1)) (e1 : Int) v = thA.map (fun U => U v)) (hea : pq_e (m (f + 1)) ea st) (ha : (∀ V, ea = some V → m (f + 1) 838 e1 = 1 ∧ ∀ v, v < 4 → m (f + 1) 837 (4 * e1 + v) = V v) ∧ (ea = none → m (f + 1) 838 e1 = 0)) :
    (w = 1 → m (f + 1) 839 e1 = 1 → ∀ V : ps_V, (∀ v, v < 4 → m (f + 1) 836 (4 * e1 + v) = V v) → pq_F (m e1) (m (g + 1)) e1 (g + 1) τ (t0 ++ (F V st).2.2) ∧ pq_e (m (g + 1)) (ps_jn (F V st).1 ea (F V st).2.1).2 (ps_jn (F V st).1 ea (F V st).2.1).1) ∧
    (w = 1 → m (f + 1) 839 e1 = 0 → ea = none → pq_F (m e1) (m (g + 1)) e1 (g + 1) τ t0 ∧ pq_e (m (g + 1)) none st) ∧
    (w = 4 → thA = [] → pq_F (m e1) (m (g + 1)) e1 (g + 1) τ t0 ∧ pq_e (m (g + 1)) ea st) ∧
    (w = 4 → ∀ V0 r, thA = V0 :: r → pq_F (m e1) (m (g + 1)) e1 (g + 1) τ (t0 ++ (F (ps_tj st V0 thA).2 (ps_tj st V0 thA).1).2.2) ∧ pq_e (m (g + 1)) (ps_jn (F (ps_tj st V0 thA).2 (ps_tj st V0 thA).1).1 ea (F (ps_tj st V0 thA).2 (ps_tj st V0 thA).1).2.1).2 (ps_jn (F (ps_tj st V0 thA).2 (ps_tj st V0 thA).1).1 ea (F (ps_tj st V0 thA).2 (ps_tj st V0 thA).1).2.1).1) := by
  obtain ⟨o1, o2, o3⟩ := ho
  have hRo := hch.1 (f + 1) (by omega) (by omega)
  have hRg := hch.1 g (by omega) (by omega)
  obtain ⟨hA, hZ⟩ := pq_bl hch (by omega) h2 ⟨o1, o2, o3⟩ hl (by omega) hF ht hτ hemp h0
  have hn3 : ∀ l : List ps_V, (if w = 3 then [] else l) = l := fun l => if_neg (by omega)
  refine ⟨fun w1 h26 V hV => ?_, fun w1 h26 q => ?_, fun w4 q => ?_, fun w4 V0 r q => ?_⟩
  · obtain ⟨x1, x2, x3⟩ := pq_o1 hRo o1 o3 ⟨o2.trans w1, h26⟩ hV hea.l
    obtain ⟨y1, y2⟩ := hA V st ⟨x1, x2, x3⟩
    rw [hn3] at y1
    exact pq_fin y1 hRg hl hw ha y2
  · obtain ⟨x1, x2, x3⟩ := pq_o0 (e1 := e1) hRo o1 o3 ⟨fun z => by omega, by omega⟩ hea.l
    obtain ⟨y1, y2⟩ := hZ (x1.trans (hea.2.1 q)) st x3
    have := pq_fin y1 hRg hl hw ha y2
    rw [q] at this
    exact this
  · obtain ⟨x1, x2⟩ := (pq_o4 hRo o1 o3 (o2.trans w4) hth hea.l).1 q
    obtain ⟨y1, y2⟩ := hZ x1 st x2
    have := pq_fin y1 hRg hl hw ha y2
    rw [ps_jn_n] at this
    exact this
  · obtain ⟨x1, x2, x3⟩ := (pq_o4 hRo o1 o3 (o2.trans w4) hth hea.l).2 V0 r q
    obtain ⟨y1, y2⟩ := hA _ _ ⟨x1, x2, x3⟩
    rw [hn3] at y1
    exact pq_fin y1 hRg hl hw ha y2
