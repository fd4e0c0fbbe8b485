/-! what holds before the first call -/
theorem gd_leaf : gd [] .leaf := ⟨⟨trivial, by decide, rfl⟩, rfl, ⟨by decide, by decide⟩, trivial, by decide⟩
theorem tx_0 {M : ab_M} {o : Nat} (h1 : M o 1 = 0) (h2 : ∀ j, M (o + 1) j = 0) : tx_ok M o ∧ tx M o = [] := by
  refine ⟨⟨?_, fun j => by rw [h2]; exact ⟨by decide, by decide⟩⟩, ?_⟩
  · rw [h1]; split <;> exact ⟨by decide, by decide⟩
  · unfold tx; rw [h1]; rfl
theorem INV_0 {M : ab_M} (ha : ∀ o k : Nat, (o = 2 ∨ o = 4 ∨ o = 6 ∨ (8 ≤ o ∧ o ≤ 19 ∧ o % 2 = 1) ∨ o = 22 ∨ o = 24 ∨ o = 25 ∨ o = 770 ∨ o = 787 ∨ o = 795 ∨ o = 796 ∨ 798 ≤ o) → M o k = 0)
    (hl : ∀ o : Nat, (o = 1 ∨ o = 3 ∨ o = 5 ∨ (8 ≤ o ∧ o ≤ 18 ∧ o % 2 = 0) ∨ o = 21 ∨ o = 23) → M o 1 = 0) (h7 : ∀ k : Nat, k < 6 → M 7 k = ((8 + 2 * k : Nat) : Int)) (h20 : M 20 0 = 21 ∧ M 20 1 = 23) (h26 : M 26 0 = 3 ∧ M 26 3 = 0 ∧ M 26 4 = -1 ∧ M 26 6 = 0 ∧ M 26 8 = 0 ∧ M 26 11 = 0) (h395 : M 395 0 = 1)
    (h388 : M 388 0 = 0 ∧ M 388 1 = -1 ∧ M 388 2 = -1 ∧ M 388 3 = -1 ∧ M 388 4 = -1 ∧ M 388 5 = -1 ∧ M 388 7 = 0 ∧ M 388 17 = 120 ∧ M 388 18 = 120) (h0 : M 0 13 = 0 ∧ M 0 14 = 0) (h769 : M 769 3 = 0) (h775 : M 775 9 = -1) (h768 : M 768 7 = 0 ∧ M 768 8 = 0) (h784 : M 797 2 = 0 ∧ M 797 6 = 0 ∧ M 797 28 = 1 ∧ M 797 29 = -9 ∧ M 797 31 = 0 ∧ M 797 44 = 0 ∧ M 797 71 = 0) (h784' : M 797 9 = 0 ∧ M 797 10 = 0 ∧ M 797 19 = 0 ∧ M 797 20 = 0 ∧ M 797 21 = 0 ∧ M 797 27 = 0) : INV 0 M := by
  have ht : ∀ o : Nat, (o = 1 ∨ o = 3 ∨ o = 5 ∨ (8 ≤ o ∧ o ≤ 18 ∧ o % 2 = 0) ∨ o = 21 ∨ o = 23) → tx_ok M o ∧ tx M o = [] := fun o ho => tx_0 (hl o ho) fun j => ha _ j (by omega)
  obtain ⟨g1, g2, g3, g4, g5, g6, g7⟩ := h784
  obtain ⟨p1, p2, p3, p4, p5, p6⟩ := h26
  obtain ⟨s0, s1, s2, s3, s4, s5, s7, s17, s18⟩ := h388
  have hp : past M = [] := by unfold past; rw [h0.1]; rfl
  have hn : pz_now M = [] := by unfold pz_now; rw [ha 798 640 (by omega)]; rfl
  have hz : ∀ o k : Nat, 798 ≤ o → M o k = 0 := fun o k h => ha o k (by omega)
  obtain ⟨w1, w2, w3, w4, w5, w6⟩ := h784'
  have hE : pz_E M = [] := by unfold pz_E; rw [w2]; rfl
  have hRK : pz_RK M := by
    refine ⟨g3, fun j => by rw [hz 803 j (by decide)]; exact ⟨by decide, by decide⟩, by rw [hn]; unfold pz_L; rw [w1]; rfl, ?_, by rw [hn, hE]; exact gd_leaf.2.1⟩
    unfold pz_RI
    rw [hE]
    refine ⟨⟨by omega, by omega, by omega, by omega⟩, by rw [w3]; rfl, ⟨by rw [w4]; rfl, by decide, fun k v h => by cases h⟩, ⟨by rw [w5]; rfl, by decide, fun l e h => by cases h⟩, fun i hi => by omega, fun e he => by omega⟩
  refine ⟨.leaf, ⟨⟨⟨⟨⟨⟨fun k hk => ⟨k, hk, h7 k hk⟩, fun k j hk hj e => by rw [h7 k hk, h7 j hj] at e; omega⟩, fun o a b c => (ht o (by omega)).1⟩, ⟨(ht 3 (by omega)).1, (ht 5 (by omega)).1⟩, by omega⟩, h20, h395⟩, ?_, ?_, by rw [hp]; exact fun w hw => absurd hw List.not_mem_nil, fun z hz => .inl (ha 25 z (by omega)), (ht 21 (by omega)).1, (ht 23 (by omega)).1⟩, ⟨(ht 1 (by omega)).1, by omega, fun k => by rw [ha 795 k (by omega), ha 796 k (by omega)]; exact ⟨⟨by decide, by decide⟩, by decide, by decide⟩⟩, ⟨fun k => by rw [ha 770 k (by omega)]; exact ⟨by decide, by decide⟩, Or.inl h775, .inl h769, fun c hc => .inl (by
    have : c = 0 ∨ c = 1 := by omega
    rcases this with z | z
    · rw [z]; exact h768.1
    · rw [z]; exact h768.2), fun l _ => .inl (ha 787 l (by omega))⟩⟩, ?_, ?_⟩
  · refine ⟨by rw [(ht 3 (by omega)).2]; exact gd_leaf, ⟨trivial, ⟨p2, p3, p4, p5, p6⟩, fun k v h => absurd h (by simp [pz_kds, pz_fl])⟩, ⟨fun r hr => absurd hr (Nat.not_lt_zero r), fun q hq => absurd hq (Nat.not_lt_zero q)⟩, p1⟩
  · refine ⟨by decide, by decide, ⟨by omega, by omega⟩, by omega, by omega, by omega, ⟨by omega, by omega⟩, ⟨by omega, by omega⟩, by omega, by omega, fun z => by omega, by decide, by omega⟩
  · rw [(ht 3 (by omega)).2]
    refine ⟨⟨⟨by omega, fun k hk => by omega⟩, ⟨by omega, fun j hj => by omega⟩, fun z _ => .inl (hz 801 z (by decide)), by omega, fun k => by rw [hz 847 k (by decide)]; exact ⟨by decide, by decide⟩⟩, ⟨gd_leaf, hn, ⟨by rw [hz 798 640 (by decide)]; decide, by rw [hz 798 640 (by decide)]; decide, fun k _ => by rw [hz 798 k (by decide)]; exact ⟨by decide, by decide⟩, fun j => by rw [hz 803 j (by decide)]; exact ⟨by decide, by decide⟩, by rw [hn]; exact gd_leaf.okr, .inr g3⟩, ⟨_, by rw [hn]; exact gd_leaf.2.1⟩, fun _ => hRK⟩, ⟨⟨by omega, by omega⟩, ⟨fun j => by rw [hz 823 j (by decide)]; exact ⟨by decide, by decide⟩, fun j => by rw [hz 824 j (by decide)]; exact ⟨by decide, by decide⟩, fun j => by rw [hz 821 j (by decide)]; exact ⟨by decide, by decide⟩⟩, fun z => by omega, fun z => by omega⟩, fun md _ => .inl (hz 816 md (by decide)), ⟨⟨fun i => .inl (hz 838 i (by decide)), fun i => .inl (hz 839 i (by decide)), fun j => by rw [hz 834 j (by decide), hz 836 j (by decide), hz 837 j (by decide), hz 840 j (by decide)]; exact ⟨⟨by decide, by decide⟩, ⟨by decide, by decide⟩, ⟨by decide, by decide⟩, by decide, by decide⟩, fun j => by rw [hz 841 j (by decide)]; exact ⟨by decide, by decide⟩⟩, .inl g5, fun z => by omega⟩, ⟨by omega, fun j => by rw [hz 827 j (by decide), hz 829 j (by decide), hz 830 j (by decide), g6]; exact ⟨⟨by decide, by decide⟩, ⟨by decide, by decide⟩, by decide, by decide⟩⟩, by omega, fun k => .inl (hz 832 k (by decide)), fun k => .inl (hz 831 k (by decide))⟩
  · have h1 := hl 1 (by omega)
    refine ⟨⟨by omega, fun k hk => by omega⟩, by rw [(ht 3 (by omega)).2, hn], ⟨by omega, by rw [hp, g1]; rfl⟩, fun z hz2 => ⟨by rw [ha 25 z (by omega), hz 801 z (by decide)], fun y => by rw [ha 25 z (by omega)] at y; omega⟩, by omega, fun k hk => by omega⟩
