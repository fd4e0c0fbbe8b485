/-! a block's code -/
def co_R (m : Nat → ab_M) (a b : Nat) (F : Nat → List co_I) : Prop := ∀ (τ : Int) (r : Nat), τ = tr_a (m a) (m a 797 27).toNat → τ < (a : Int) → m a 797 33 = (r : Int) → 0 ≤ m a 797 27 → (∀ i, i < r → m a 821 i < (a : Int)) → co_B (m a) (m b) a b r (F r) τ
def co_ch (m : Nat → ab_M) (a b : Nat) (md : Int) (W1 W2 : Nat → List Int) : Prop := ∀ i, a ≤ i → i < b → em_e (m i) (m (i + 1)) i md W1 W2
/-- the memory where a block's end begins -/
def co_X (M : ab_M) : ab_M := ab_up M 797 27 (M 797 27 - 1)
theorem co_bl {N : ab_M} {m : Nat → ab_M} {e1 o f : Nat} {w md τ : Int} {W1 W2 : Nat → List Int} {F : Nat → List co_I} {r : Nat} (hch : co_ch m o (f + 1) md W1 W2) (hE : ∀ i, o ≤ i → i ≤ f → ∀ o' k, 805 ≤ o' → o' ≤ 812 → m i o' k = N o' k) (h1 : e1 < o) (h2 : o < f)
    (ho : N 805 o = 9 ∧ N 806 o = w ∧ N 812 o = (e1 : Int)) (hF : co_R m (o + 1) f F) (ht : τ = tr_a (m o) (m o 797 27).toNat) (hτ : τ < (e1 : Int)) (hr : m o 797 33 = (r : Int)) (h27 : 0 ≤ m o 797 27) (h8 : ∀ i, i < r → m o 821 i < (o : Int)) :
    co_B (m o) (co_X (m f)) (o + 1) f r (F r) (if w = 3 then (e1 : Int) else τ) ∧ m f 797 27 = m o 797 27 + 1 := by
  obtain ⟨o1, o2, o3⟩ := ho
  have ev := fun i (x : o ≤ i) (y : i ≤ f) => hE i x y
  have h9 := (hch o (Nat.le_refl _) (by omega)).2.2.2.2.2.2.2.2.2.1 ((ev o (Nat.le_refl _) (by omega) 805 o (by decide) (by decide)).trans o1)
  have f27 : m (o + 1) 797 27 = m o 797 27 + 1 := by rw [h9, ab_up_s]
  have fo : m (o + 1) 815 (m o 797 27).toNat = (o : Int) := by rw [h9, up_ne (by omega), ab_up_s]
  have fr : ∀ o' k : Nat, ¬ (o' = 797 ∧ k = 27) → ¬ (o' = 815 ∧ k = (m o 797 27).toNat) → m (o + 1) o' k = m o o' k := fun o' k x y => by rw [h9, up_ne x, up_ne y]
  have hk : ∀ k : Nat, (k : Int) < m o 797 27 → m (o + 1) 815 k = m o 815 k := fun k hk => fr _ _ (by omega) (by omega)
  have ht2 : (if w = 3 then (e1 : Int) else τ) = tr_a (m (o + 1)) (m (o + 1) 797 27).toNat := by
    rw [tr_a_push (e := o) (M := m o) (fun k => fr _ _ (by omega) (by omega)) (fun k => fr _ _ (by omega) (by omega)) h27 f27 fo hk, ← ht, ev o (Nat.le_refl _) (by omega) 806 o (by decide) (by decide), ev o (Nat.le_refl _) (by omega) 812 o (by decide) (by decide), o2, o3]
  have key := hF _ r ht2 (by split <;> omega) ((fr _ _ (by omega) (by omega)).trans hr) (by omega) (fun i hi => by rw [fr _ _ (by omega) (by omega)]; have := h8 i hi; omega)
  obtain ⟨x1, x2, x3, x4, ⟨x5, x6⟩, x7⟩ := key
  have fx : ∀ o' k : Nat, ¬ (o' = 797 ∧ k = 27) → co_X (m f) o' k = m f o' k := fun o' k x => up_ne x
  have e27 : m f 797 27 = m o 797 27 + 1 := x5.trans f27
  refine ⟨⟨hr, (fx _ _ (by omega)).trans x2, x3.same fun i _ _ => ⟨fun o' x y => fx _ _ (by omega), fun s hs => fx _ _ (by omega)⟩, fun i hi => ?_, ⟨?_, fun k hk' => ?_⟩, fun k hk' => ?_⟩, e27⟩
  · obtain ⟨s1, s2⟩ := x4 i hi
    exact ⟨fun o' x y => by rw [fx _ _ (by omega), s1 o' x y, fr _ _ (by omega) (by omega)], fun s hs => by rw [fx _ _ (by omega), s2 s hs, fr _ _ (by omega) (by omega)]⟩
  · show ab_up (m f) 797 27 (m f 797 27 - 1) 797 27 = _
    rw [ab_up_s]; omega
  · rw [fx _ _ (by omega), x6 k (by omega), hk k hk']
  · rw [fx _ _ (by omega), fx _ _ (by omega), (x7 k hk').1, (x7 k hk').2, fr _ _ (by omega) (by omega), fr _ _ (by omega) (by omega)]
    exact ⟨rfl, rfl⟩
/-- the end of a first block -/
theorem co_e1 {m : Nat → ab_M} {A : ab_M} {a b r f e1 : Nat} {τ : Int} {L : List co_I} {M2 : ab_M} {op q nn : Int} {w : List Int} (hB : co_B A (co_X (m f)) a b r L τ) (h : em_P (em_b (m f) f) M2 op q nn w) (hw : w ≠ [] → 0 < nn) (hh : m f 812 f = (e1 : Int)) (ha : a ≤ e1) (hb : e1 < b) : co_B A M2 a b r (L ++ [(op, q, w, 0, false)]) τ ∧ M2 824 e1 = ((r + L.length : Nat) : Int) ∧ M2 823 e1 = m f 823 e1 := by
  have hX : ∀ o k : Nat, ¬ (o = 797 ∧ k = 27) → co_X (m f) o k = m f o k := fun o k x => up_ne x
  have h33 : m f 797 33 = ((r + L.length : Nat) : Int) := (hX _ _ (by omega)).symm.trans hB.2.1
  have hb' : em_b (m f) f = ab_up (co_X (m f)) 824 e1 (m f 797 33) := by
    unfold em_b co_X
    rw [hh]; rfl
  have hP : co_B (em_b (m f) f) M2 a b (r + L.length) [(op, q, w, 0, false)] τ := h.B hw ((em_b_fr (by omega) (by decide)).trans h33) a b τ
  have hP' : co_B (co_X (m f)) M2 a b (r + L.length) [(op, q, w, 0, false)] τ := hP.left (fun o k x y => by rw [hb', ab_up_o y]) (fun k hk => by rw [hb']; exact ⟨up_ne (by omega), up_ne (by omega)⟩)
  refine ⟨hB.tr a b hP' (Nat.le_refl _) (Nat.le_refl _) (Nat.le_refl _) (Nat.le_refl _), ?_, ?_⟩
  · rw [h.F.1 824 _ (by omega) (by omega), hb', ab_up_s, h33]
  · rw [h.F.1 823 _ (by omega) (by omega), em_b_fr (by omega) (by decide)]
