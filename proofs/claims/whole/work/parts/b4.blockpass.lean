/-! a block of a statement, by its events -/
def pq_B (m : Nat → ab_M) (e1 o f : Nat) (w w' τ : Int) (tt th : List ps_V) : Prop :=
  pq_F (m e1) (m (f + 1)) e1 (f + 1) τ tt ∧ m (f + 1) 797 27 = m f 797 27 - 1 ∧
  (∀ o' k : Nat, ¬ (o' = 797 ∧ (k = 27 ∨ k = 57 ∨ k = 58)) → ¬ (o' = 834 ∧ k < 4) → ¬ (o' = 835 ∧ k < 4) → ¬ (o' = 837 ∧ (w' = 0 ∨ w' = 3) ∧ 4 * e1 ≤ k ∧ k < 4 * e1 + 4) → ¬ (o' = 838 ∧ (w' = 0 ∨ w' = 3) ∧ k = e1) → m (f + 1) o' k = m f o' k) ∧
  (∀ v, v < 4 → pO_L (m (f + 1)) (e1 : Int) v = pO_L (m o) (e1 : Int) v ++ (if w = 3 then th.map (fun U => U v) else [])) ∧
  (∀ v, v < 4 → m f 836 (4 * e1 + v) = m o 836 (4 * e1 + v) ∧ m f 837 (4 * e1 + v) = m o 837 (4 * e1 + v)) ∧ m f 838 e1 = m o 838 e1 ∧ m f 839 e1 = m o 839 e1
theorem pq_bl {N : ab_M} {m : Nat → ab_M} {e1 o f : Nat} {w w' τ : Int} {F : ps_V → ps_S → ps_R} {t0 : List ps_V} (hch : pq_ch N m e1 (f + 1)) (h1 : e1 < o) (h2 : o < f)
    (ho : m o 805 o = 9 ∧ m o 806 o = w ∧ m o 812 o = (e1 : Int)) (hl : m f 805 f = 10 ∧ m f 806 f = w' ∧ m f 812 f = (e1 : Int)) (hw' : 0 ≤ w' ∧ w' ≤ 4) (hF : pq_R m (o + 1) f F) (ht : τ = tr_a (m e1) (m e1 797 27).toNat) (hτ : τ < (e1 : Int))
    (hemp : ∀ its : Int, (e1 : Int) ≤ its → ∀ v, v < 4 → pO_L (m e1) its v = []) (h0 : pq_F (m e1) (m o) e1 o τ t0) :
    (∀ V st, (m (o + 1) 797 57 = 1 ∧ (∀ v, v < 4 → m (o + 1) 834 v = V v) ∧ pq_g (m (o + 1)) st) → pq_B m e1 o f w w' τ (t0 ++ (if w = 3 then [] else (F V st).2.2)) (F V st).2.2 ∧ pq_e (m f) (F V st).2.1 (F V st).1) ∧
    (m (o + 1) 797 57 = 0 → ∀ st, pq_g (m (o + 1)) st → pq_B m e1 o f w w' τ t0 [] ∧ pq_e (m f) none st) := by
  obtain ⟨o1, o2, o3⟩ := ho
  obtain ⟨l1, l2, l3⟩ := hl
  obtain ⟨hR, hSE⟩ := hch
  have E := fun i (h1 : e1 ≤ i) (h2 : i ≤ f + 1) => (hSE i h1 h2).2.1
  have ev := fun i (h1 : e1 ≤ i) (h2 : i ≤ f + 1) (o k : Nat) (x : 805 ≤ o) (y : o ≤ 812) => (E i h1 h2).1 o k x y
  have hRo := hR o (by omega) (by omega)
  have hRf := hR f (by omega) (by omega)
  obtain ⟨⟨y1, y2, y3⟩, y4, y5, y6⟩ := pq_open hRo o1
  have hto : tr_a (m o) (m o 797 27).toNat = τ := by
    rw [ht]
    exact tr_a_eq (fun k => (ev o (by omega) (by omega) 806 k (by decide) (by decide)).trans (ev e1 (Nat.le_refl _) (by omega) 806 k (by decide) (by decide)).symm) (fun k => (ev o (by omega) (by omega) 812 k (by decide) (by decide)).trans (ev e1 (Nat.le_refl _) (by omega) 812 k (by decide) (by decide)).symm) h0.1.1 h0.1.2
  have ht2 : (if w = 3 then (e1 : Int) else τ) = tr_a (m (o + 1)) (m (o + 1) 797 27).toNat := by
    rw [tr_a_push (e := o) (M := m o) (fun k => ((ev (o + 1) (by omega) (by omega) 806 k (by decide) (by decide)).trans (ev o (by omega) (by omega) 806 k (by decide) (by decide)).symm)) (fun k => ((ev (o + 1) (by omega) (by omega) 812 k (by decide) (by decide)).trans (ev o (by omega) (by omega) 812 k (by decide) (by decide)).symm)) (hSE o (by omega) (by omega)).2.2 y1 y2 y3, o3, o2, hto]
  have hlo : ∀ (its : Int) (v : Nat), pO_L (m (o + 1)) its v = pO_L (m o) its v := fun its v => pO_L_fr (fun k => y4 840 k (by decide) (by decide) (by decide) (by decide)) (fun k => y4 841 k (by decide) (by decide) (by decide) (by decide)) y5 its v
  have hem2 : ∀ its : Int, ((o + 1 : Nat) : Int) ≤ its → ∀ v, v < 4 → pO_L (m (o + 1)) its v = [] := fun its hi v hv => by
    rw [hlo, h0.2.2.2.2 its (by omega) v hv]
    exact hemp its (by omega) v hv
  obtain ⟨hA, hZ⟩ := hF _ ht2 (by split <;> omega) hem2
  have key : ∀ (th : List ps_V), pq_F (m (o + 1)) (m f) (o + 1) f (if w = 3 then (e1 : Int) else τ) th → pq_B m e1 o f w w' τ (t0 ++ (if w = 3 then [] else th)) th := fun th hFt => by
    obtain ⟨k1, k2, k3, k4, k5⟩ := pq_blk h1 h2 hRo o1 (hSE f (by omega) (by omega)).1 hFt hRf l1 l2 hw' l3
    refine ⟨h0.tra (by omega) k1, k2, k4, fun v hv => ?_, fun v hv => ⟨?_, ?_⟩, ?_, ?_⟩
    · rw [k5 v hv]
      congr 1
      by_cases c : w = 3
      · rw [if_pos c, if_pos c]
      · rw [if_neg c, if_neg c, if_neg (by omega)]
    · rw [(hFt.2.1 (4 * e1 + v) (by omega)).1, y4 836 _ (by decide) (by decide) (by decide) (by decide)]
    · rw [(hFt.2.1 (4 * e1 + v) (by omega)).2, y4 837 _ (by decide) (by decide) (by decide) (by decide)]
    · rw [(hFt.2.2.1 e1 (by omega)).1, y4 838 _ (by decide) (by decide) (by decide) (by decide)]
    · rw [(hFt.2.2.1 e1 (by omega)).2, y4 839 _ (by decide) (by decide) (by decide) (by decide)]
  refine ⟨fun V st h => ?_, fun h57 st hg => ?_⟩
  · obtain ⟨a1, a2⟩ := hA V st h
    exact ⟨key _ a1, a2⟩
  · obtain ⟨a1, a2, a3⟩ := hZ h57 st hg
    have := key _ a1
    rw [show (t0 ++ if w = 3 then [] else []) = t0 by split <;> exact List.append_nil _] at this
    exact ⟨this, fun V hV => (by cases hV), fun _ => a2, a3⟩
def pq_hb (m : Nat → ab_M) (P : pz_P) (a b : pz_T) (e1 : Nat) : Prop := ∃ f : Nat, f = e1 + 2 + pz_ne a ∧ f + 1 ≤ e1 + pq_len P a b ∧ (m (e1 + 1) 805 (e1 + 1) = 9 ∧ m (e1 + 1) 806 (e1 + 1) = pz_w1 P.1 ∧ m (e1 + 1) 812 (e1 + 1) = (e1 : Int)) ∧ (m f 805 f = 10 ∧ m f 806 f = pz_w1 P.1 ∧ m f 812 f = (e1 : Int)) ∧
      (P.1 = 7 → e1 + pq_len P a b = f + 1) ∧ (P.1 ≠ 7 → e1 + pq_len P a b = f + 2 + pz_ne b + 1 ∧ (m (f + 1) 805 (f + 1) = 9 ∧ m (f + 1) 806 (f + 1) = pz_w2 P.1 ∧ m (f + 1) 812 (f + 1) = (e1 : Int)) ∧ (m (f + 2 + pz_ne b) 805 (f + 2 + pz_ne b) = 10 ∧ m (f + 2 + pz_ne b) 806 (f + 2 + pz_ne b) = pz_w2 P.1 ∧ m (f + 2 + pz_ne b) 812 (f + 2 + pz_ne b) = (e1 : Int)))
theorem pq_hb_of {N : ab_M} {m : Nat → ab_M} {P : pz_P} {a b : pz_T} {e1 q c : Nat} (hnd : ev_nd N P a b e1 q c) (hch : pq_ch N m e1 (e1 + pq_len P a b)) (h6 : 6 ≤ P.1) : pq_hb m P a b e1 := by
  obtain ⟨hR, hSE⟩ := hch
  obtain ⟨hev, hblk⟩ := hnd
  have ev := fun i (h1 : e1 ≤ i) (h2 : i ≤ e1 + pq_len P a b) (o k : Nat) (x : 805 ≤ o) (y : o ≤ 812) => ((hSE i h1 h2).2.1).1 o k x y
  obtain ⟨g1, -, g3, g4⟩ := hblk h6
  obtain ⟨o1, o2, o3⟩ := pz_ev_o g1
  obtain ⟨l1, l2, l3⟩ := pz_ev_c g3
  have hlen : pq_len P a b = 1 + (2 + (pz_ne a + (if P.1 = 7 then 0 else 2 + pz_ne b))) := by unfold pq_len; rw [if_pos h6]
  have hf : e1 + 2 + pz_ne a + 1 ≤ e1 + pq_len P a b := by rw [hlen]; omega
  refine ⟨_, rfl, hf, ⟨(ev _ (by omega) (by omega) _ _ (by decide) (by decide)).trans o1, (ev _ (by omega) (by omega) _ _ (by decide) (by decide)).trans o2, (ev _ (by omega) (by omega) _ _ (by decide) (by decide)).trans o3⟩, ⟨(ev _ (by omega) (by omega) _ _ (by decide) (by decide)).trans l1, (ev _ (by omega) (by omega) _ _ (by decide) (by decide)).trans l2, (ev _ (by omega) (by omega) _ _ (by decide) (by decide)).trans l3⟩, fun h7 => by rw [hlen, if_pos h7]; omega, fun h7 => ?_⟩
  rw [if_neg h7] at hlen
  obtain ⟨g5, -, g7⟩ := g4 h7
  obtain ⟨o4, o5, o6⟩ := pz_ev_o g5
  obtain ⟨l4, l5, l6⟩ := pz_ev_c g7
  refine ⟨by omega, ⟨(ev _ (by omega) (by omega) _ _ (by decide) (by decide)).trans o4, (ev _ (by omega) (by omega) _ _ (by decide) (by decide)).trans o5, (ev _ (by omega) (by omega) _ _ (by decide) (by decide)).trans o6⟩, ⟨(ev _ (by omega) (by omega) _ _ (by decide) (by decide)).trans l4, (ev _ (by omega) (by omega) _ _ (by decide) (by decide)).trans l5, (ev _ (by omega) (by omega) _ _ (by decide) (by decide)).trans l6⟩⟩
