/-! the reference reads what it keeps -/
/-- the cells that reading again may write -/
def pz_rf (M M' : ab_M) : Prop := (∀ o k, o ≠ 797 → o ≠ 803 → ¬ (805 ≤ o ∧ o ≤ 815) → M' o k = M o k) ∧ ∀ k, k ≠ 9 → k ≠ 10 → k ≠ 19 → k ≠ 20 → k ≠ 21 → k ≠ 24 → k ≠ 25 → k ≠ 27 → k ≠ 28 → M' 797 k = M 797 k
/-- what is kept of the present program can be read -/
def pz_NG (M : ab_M) : Prop := 0 ≤ M 798 640 ∧ M 798 640 ≤ 640 ∧ (∀ k : Nat, (k : Int) < M 798 640 → 0 ≤ M 798 k ∧ M 798 k < 256) ∧ (∀ j, 0 ≤ M 803 j ∧ M 803 j < 256) ∧ pz_okr (pz_now M) ((pz_now M).length + 1) [] [] 0 ∧ (M 797 28 = 0 ∨ M 797 28 = 1)
def pz_RD (M M' : ab_M) : Prop := pz_rf M M' ∧ (∀ j, 0 ≤ M' 803 j ∧ M' 803 j < 256) ∧ M' 797 28 = 1 ∧ pz_L M' = pz_now M ∧ ab_ir (M' 797 25) ∧ match pz_read (pz_now M) with
  | .inl p => M' 797 25 = p
  | .inr E => M' 797 25 = -9 ∧ pz_E M' = E ∧ pz_RI M'
theorem pz_RI.fr {M M' : ab_M} (h : pz_RI M) (h1 : ∀ o k, 805 ≤ o → o ≤ 815 → M' o k = M o k) (h2 : M' 797 10 = M 797 10 ∧ M' 797 19 = M 797 19 ∧ M' 797 20 = M 797 20 ∧ M' 797 21 = M 797 21 ∧ M' 797 27 = M 797 27) : pz_RI M' ∧ pz_E M' = pz_E M := by
  have e : pz_E M' = pz_E M := pz_E_same h2.1 fun e o _ a b => h1 o e a (by omega)
  obtain ⟨a, b, ⟨c1, c2, c3⟩, ⟨d1, d2, d3⟩, f, g⟩ := h
  obtain ⟨r1, r2, r3, r4, r5⟩ := h2
  refine ⟨⟨⟨by omega, by omega, by omega, by omega⟩, by rw [e, r2]; exact b, ⟨by rw [e, r3]; exact c1, by rw [e]; exact c2, fun k v hk => by rw [e] at hk; rw [h1 813 k (by decide) (by decide)]; exact c3 k v hk⟩, ⟨by rw [e, r4]; exact d1, by rw [e]; exact d2, fun k v hk => by rw [e] at hk; rw [h1 814 k (by decide) (by decide)]; exact d3 k v hk⟩, fun i hi => ?_, fun i hi => ?_⟩, e⟩
  · rw [r5] at hi
    rw [h1 815 i (by decide) (by decide), h1 805 _ (by decide) (by decide), r1]
    exact f i hi
  · rw [r1] at hi
    rw [h1 805 i (by decide) (by decide), h1 806 i (by decide) (by decide), h1 812 i (by decide) (by decide), r1]
    exact g i hi
theorem pz_RD_of {M N P : ab_M} {r : Int} (h1 : pz_TN M N) (h2 : pz_PP N P r) : pz_RD M (ab_up (ab_up P 797 25 r) 797 28 1) := by
  have hL := h1.L
  obtain ⟨t1, t2, t3, t4⟩ := h1
  obtain ⟨p1, p2, p3, p4⟩ := h2
  have hX : ∀ o k, ¬ (o = 797 ∧ (k = 25 ∨ k = 28)) → ab_up (ab_up P 797 25 r) 797 28 1 o k = P o k := fun o k x => by rw [ab_up_a, if_neg (by omega), ab_up_a, if_neg (by omega)]
  have h25 : ab_up (ab_up P 797 25 r) 797 28 1 797 25 = r := by rw [ab_up_k (by decide), ab_up_s]
  have hLX : pz_L (ab_up (ab_up P 797 25 r) 797 28 1) = pz_now M := by
    rw [← hL, ← p1.L]
    unfold pz_L
    rw [hX 797 9 (by omega)]
    exact pz_ls_congr fun j _ => hX 803 j (by omega)
  refine ⟨⟨fun o k x y z => ?_, fun k x1 x2 x3 x4 x5 x6 x7 x8 x9 => ?_⟩, fun j => ?_, ab_up_s, hLX, by rw [h25]; exact p3, ?_⟩
  · rw [hX o k (by omega), p1.1 o k x z, t1 o k (by omega) y]
  · rw [hX 797 k (by omega), p1.2 k x2 x3 x4 x5 x6 x7 x8, t1 797 k (by omega) (by decide)]
  · rw [hX 803 j (by omega), p1.1 803 j (by decide) (by omega)]; exact t4 j
  · rw [← hL]
    cases hr : pz_read (pz_L N) with
    | inl p =>
      rw [hr] at p4
      show _ = p
      rw [h25]; exact p4.1
    | inr E =>
      rw [hr] at p4
      obtain ⟨q1, q2, q3⟩ := p4
      obtain ⟨u1, u2⟩ := q3.fr (M' := ab_up (ab_up P 797 25 r) 797 28 1) (fun o k a b => hX o k (by omega)) ⟨hX _ _ (by omega), hX _ _ (by omega), hX _ _ (by omega), hX _ _ (by omega), hX _ _ (by omega)⟩
      exact ⟨by rw [h25]; exact q1, by rw [u2]; exact q2, u1⟩
/-- what is kept of the present program is read -/
def pz_RK (M : ab_M) : Prop := M 797 28 = 1 ∧ (∀ j, 0 ≤ M 803 j ∧ M 803 j < 256) ∧ pz_L M = pz_now M ∧ pz_RI M ∧ pz_read (pz_now M) = .inr (pz_E M)
def pz_PR (M : ab_M) : Prop := pz_NG M ∧ (∃ E, pz_read (pz_now M) = .inr E) ∧ (M 797 28 = 1 → pz_RK M)
def pz_rdn (M M' : ab_M) : Prop := (M 797 28 = 1 → M' = M) ∧ pz_rf M M' ∧ pz_RK M'
theorem pz_rdn_of {M M' : ab_M} (h : pz_PR M) (h1 : pz_RD M M') (h0 : M 797 28 ≠ 1) : pz_rdn M M' := by
  obtain ⟨-, ⟨E, hE⟩, -⟩ := h
  obtain ⟨a1, a2, a3, a4, a5, a6⟩ := h1
  rw [hE] at a6
  obtain ⟨b1, b2, b3⟩ := a6
  have hn : pz_now M' = pz_now M := by
    unfold pz_now
    rw [a1.1 798 640 (by decide) (by decide) (by omega)]
    exact pz_ls_congr fun j _ => a1.1 798 j (by decide) (by decide) (by omega)
  exact ⟨fun q => absurd q h0, a1, a3, a2, by rw [a4, hn], b3, by rw [hn, hE, b2]⟩
theorem pz_rf.rfl' (M : ab_M) : pz_rf M M := ⟨fun _ _ _ _ _ => rfl, fun _ _ _ _ _ _ _ _ _ _ => rfl⟩
/-- a stretch of a cell is written -/
def ab_blk (M : ab_M) (o a n : Nat) (f : Nat → Int) : ab_M := fun o' k => if o' = o ∧ a ≤ k ∧ k < a + n then f (k - a) else M o' k
theorem ab_blk_0 (M : ab_M) (o a : Nat) (f : Nat → Int) : ab_blk M o a 0 f = M := by
  funext o' k
  exact if_neg (by omega)
theorem ab_blk_s {M : ab_M} {o a n : Nat} {f : Nat → Int} {k : Nat} {v : Int} (hk : k = a + n) (hv : v = f n) : ab_up (ab_blk M o a n f) o k v = ab_blk M o a (n + 1) f := by
  funext o' k'
  rw [ab_up_a]
  unfold ab_blk
  by_cases h : o' = o ∧ k' = k
  · rw [if_pos h, if_pos ⟨h.1, by omega, by omega⟩, hv, show k' - a = n by omega]
  · rw [if_neg h]
    by_cases h2 : o' = o ∧ a ≤ k' ∧ k' < a + n
    · rw [if_pos h2, if_pos ⟨h2.1, h2.2.1, by omega⟩]
    · rw [if_neg h2, if_neg (by omega)]
theorem ab_blk_o {M : ab_M} {o a n : Nat} {f : Nat → Int} {o' : Nat} (h : o' ≠ o) (k : Nat) : ab_blk M o a n f o' k = M o' k := if_neg fun q => h q.1
theorem ab_blk_g {M : ab_M} {o a n : Nat} {f : Nat → Int} {k : Nat} (h1 : a ≤ k) (h2 : k < a + n) : ab_blk M o a n f o k = f (k - a) := if_pos ⟨rfl, h1, h2⟩
theorem ab_blk_n {M : ab_M} {o a n : Nat} {f : Nat → Int} {k : Nat} (h : k < a ∨ a + n ≤ k) (o' : Nat) : ab_blk M o a n f o' k = M o' k := if_neg fun q => by omega

def S_X9_read : ab_PT := fun a M K => match a with
  | [.inr (.inr (.inr (797, 9, 0)))] => (pz_PR M) ∧ (∀ Mx : ab_M, (pz_rdn M Mx) → K [] Mx)
  | _ => False
set_option maxRecDepth 20000 in
theorem vc_X9_read_0  (M : ab_M) (K : List ab_V → ab_M → Prop) (hS : (pz_PR M) ∧ (∀ Mx : ab_M, (pz_rdn M Mx) → K [] Mx)) : (ab_ir (M 797 28)) ∧ ((¬ (M 797 28) = 0 → K [] M) ∧ ((M 797 28) = 0 → (0 ≤ M 798 640 ∧ M 798 640 ≤ 640 ∧ (∀ k : Nat, (k : Int) < M 798 640 → 0 ≤ M 798 k ∧ M 798 k < 256) ∧ (∀ j, 0 ≤ M 803 j ∧ M 803 j < 256)) ∧ (∀ M8 : ab_M, (pz_TN M M8) → (0 ≤ M8 797 9 ∧ M8 797 9 ≤ 640 ∧ (∀ j, 0 ≤ M8 803 j ∧ M8 803 j < 256) ∧ pz_okr (pz_L M8) ((pz_L M8).length + 1) [] [] 0) ∧ (∀ r13 : Int, ∀ M13 : ab_M, (pz_PP M8 M13 r13) → ((1 : Int) = 0 ∨ (1 : Int) = 1) ∧ K [] (ab_up (ab_up M13 797 25 r13) 797 28 (1 : Int)))))) := by
  obtain ⟨g, gK⟩ := hS
  obtain ⟨⟨g1, g2, g3, g4, g5, g6⟩, -, g7⟩ := id g
  refine And.intro (by
    rcases g6 with q | q
    · rw [q]; exact ⟨by decide, by decide⟩
    · rw [q]; exact ⟨by decide, by decide⟩) ?_
  refine ⟨?_, ?_⟩
  · intro c4
    exact gK _ ⟨fun _ => rfl, pz_rf.rfl' M, g7 (by omega)⟩
  · intro c4
    refine And.intro (by
      exact ⟨g1, g2, g3, g4⟩) ?_
    intro M8 hM8
    refine And.intro (by
      have hL := hM8.L
      rw [hL]
      exact ⟨by rw [hM8.2.1]; exact g1, by rw [hM8.2.1]; exact g2, hM8.2.2.2, g5⟩) ?_
    intro r13 M13 hM13
    refine And.intro (by
      first
        | omega
        | (simp [ab_up_a]; done)
        | (simp [ab_up_a]; omega)) ?_
    exact gK _ (pz_rdn_of g (pz_RD_of hM8 hM13) (by omega))

set_option maxRecDepth 20000 in
set_option maxHeartbeats 1000000 in
theorem ok_X9_read (E : ab_E) : ab_Ok E 7 170 S_X9_read := by
  refine ab_mk rq_X9_read tk_X9_read (rt := 0) (rfl) (cuts := []) (G := [(174, S_X9_readProgram), (183, S_X9_takeNow)]) (List.forall_mem_cons.mpr ⟨⟨6, by decide, ok_X9_readProgram E⟩, List.forall_mem_cons.mpr ⟨⟨1, by decide, ok_X9_takeNow E⟩, fun _ h => absurd h List.not_mem_nil⟩⟩) (by decide) 63 rfl ?_
  intro a M K wd wa hS
  unfold S_X9_read at hS
  split at hS
  ·
    refine ⟨Nat.le_of_ble_eq_true rfl, fun _ _ _ _ _ => False, ?_, ?_⟩
    · exact vc_X9_read_0  M K  hS
    · exact fun _ _ _ _ _ h => h.elim
  · exact hS.elim
