/-! the reference: kind, count, undo, keep, back -/
def pz_fgt (M : ab_M) : ab_M := ab_up (ab_up (ab_up (ab_up (ab_up M 797 28 0) 797 29 (-9)) 816 0 0) 816 1 0) 797 31 0
/-- taken back -/
def pz_UD (M : ab_M) : ab_M := pz_fgt (ab_blk (ab_up M 797 2 (M 797 2 - 1)) 798 0 641 (fun k => M 799 (641 * (M 797 2 - 1).toNat + k)))
/-- kept aside -/
def pz_KP (M M' : ab_M) (z r : Int) : Prop := (¬ (0 ≤ z ∧ z ≤ 1) → r = -1 ∧ M' = M) ∧ ((0 ≤ z ∧ z ≤ 1) → ∃ N, pz_rdn M N ∧ M' = ab_up (ab_blk N 800 (641 * z).toNat 641 (fun k => N 798 k)) 801 z.toNat 1 ∧ r = N 797 19)
/-- brought back -/
def pz_BK (M : ab_M) (z : Int) : ab_M := pz_fgt (ab_up (ab_blk M 798 0 641 (fun k => M 800 (641 * z.toNat + k))) 797 2 0)
def pz_BQ (M M' : ab_M) (z r : Int) : Prop := (¬ (0 ≤ z ∧ z ≤ 1) → r = -1 ∧ M' = M) ∧ ((0 ≤ z ∧ z ≤ 1) → M 801 z.toNat = 0 → r = -2 ∧ M' = M) ∧ ((0 ≤ z ∧ z ≤ 1) → M 801 z.toNat = 1 → r = M' 797 19 ∧ pz_rdn (pz_BK M z) M')

def S_X9_kind : ab_PT := fun a M K => match a with
  | [.inr (.inr (.inr (797, 9, 0))), .inr (.inl c)] => (pz_PR M ∧ ab_ir c) ∧ (∀ rx : Int, ∀ Mx : ab_M, (pz_rdn M Mx) → (rx = if 0 ≤ c ∧ c < Mx 797 20 then Mx 813 c.toNat else -1) → K [Xi rx] Mx)
  | _ => False
set_option maxRecDepth 20000 in
theorem vc_X9_kind_0 (c : Int) (M : ab_M) (K : List ab_V → ab_M → Prop) (hS : (pz_PR M ∧ ab_ir c) ∧ (∀ rx : Int, ∀ Mx : ab_M, (pz_rdn M Mx) → (rx = if 0 ≤ c ∧ c < Mx 797 20 then Mx 813 c.toNat else -1) → K [Xi rx] Mx)) : (pz_PR M) ∧ (∀ M1 : ab_M, (pz_rdn M M1) → (ab_ir c ∧ ab_ir (0 : Int) ∧ ab_ir ((M1 797 20) - (1 : Int))) ∧ (∀ r12 : Int, (r12 = if (0 : Int) ≤ c ∧ c ≤ ((M1 797 20) - (1 : Int)) then 1 else 0) → (ab_ir r12) ∧ ((r12 = 0 → K [Xi (-1 : Int)] M1) ∧ (¬ r12 = 0 → (0 ≤ c ∧ c < ((16 : Nat) : Int)) ∧ K [Xi (M1 813 c.toNat)] M1)))) := by
  obtain ⟨⟨g1, g2⟩, gK⟩ := hS
  refine And.intro (by
    exact g1) ?_
  intro M1 hM1
  have hRI := hM1.2.2.2.2.2.1
  have hc1 := hRI.2.2.1.1
  have hc2 := hRI.2.2.1.2.1
  refine And.intro (by
    first
      | omega
      | (simp [ab_up_a]; done)
      | (simp [ab_up_a]; omega)) ?_
  intro r12 hr12
  refine And.intro (by
    first
      | omega
      | (simp [ab_up_a]; done)
      | (simp [ab_up_a]; omega)) ?_
  refine ⟨?_, ?_⟩
  · intro c15
    rw [hr12] at c15
    rw [ab_bf] at c15
    clear hr12 r12
    refine gK _ _ hM1 ?_
    first
      | (rw [if_pos (by omega)]; done)
      | (rw [if_neg (by omega)]; done)
  · intro c15
    rw [hr12] at c15
    rw [ab_bt] at c15
    clear hr12 r12
    refine And.intro (by
      first
        | omega
        | (simp [ab_up_a]; done)
        | (simp [ab_up_a]; omega)) ?_
    refine gK _ _ hM1 ?_
    first
      | (rw [if_pos (by omega)]; done)
      | (rw [if_neg (by omega)]; done)

set_option maxRecDepth 20000 in
set_option maxHeartbeats 1000000 in
theorem ok_X9_kind (E : ab_E) : ab_Ok E 8 156 S_X9_kind := by
  refine ab_mk rq_X9_kind tk_X9_kind (rt := 1) (rfl) (cuts := []) (G := [(145, S_X9_in), (170, S_X9_read)]) (List.forall_mem_cons.mpr ⟨⟨1, by decide, ok_X9_in E⟩, List.forall_mem_cons.mpr ⟨⟨7, by decide, ok_X9_read E⟩, fun _ h => absurd h List.not_mem_nil⟩⟩) (by decide) 67 rfl ?_
  intro a M K wd wa hS
  unfold S_X9_kind at hS
  split at hS
  ·
    rename_i c
    refine ⟨Nat.le_of_ble_eq_true rfl, fun _ _ _ _ _ => False, ?_, ?_⟩
    · exact vc_X9_kind_0 c M K  hS
    · exact fun _ _ _ _ _ h => h.elim
  · exact hS.elim
def S_X9_count : ab_PT := fun a M K => match a with
  | [.inr (.inr (.inr (797, 9, 0))), .inr (.inl w)] => (pz_PR M ∧ ab_ir w) ∧ (∀ rx : Int, ∀ Mx : ab_M, (pz_rdn M Mx) → (rx = if w = 0 then Mx 797 19 else if w = 1 then Mx 797 20 else if w = 2 then Mx 797 21 else if w = 3 then Mx 797 71 else if w = 4 then Mx 797 6 else if w = 5 then Mx 797 2 else -1) → K [Xi rx] Mx)
  | _ => False
set_option maxRecDepth 20000 in
theorem vc_X9_count_0 (w : Int) (M : ab_M) (K : List ab_V → ab_M → Prop) (hS : (pz_PR M ∧ ab_ir w) ∧ (∀ rx : Int, ∀ Mx : ab_M, (pz_rdn M Mx) → (rx = if w = 0 then Mx 797 19 else if w = 1 then Mx 797 20 else if w = 2 then Mx 797 21 else if w = 3 then Mx 797 71 else if w = 4 then Mx 797 6 else if w = 5 then Mx 797 2 else -1) → K [Xi rx] Mx)) : (pz_PR M) ∧ (∀ M1 : ab_M, (pz_rdn M M1) → (ab_ir w) ∧ ((w = 0 → K [Xi (M1 797 19)] M1) ∧ (¬ w = 0 → ((w = 1 → K [Xi (M1 797 20)] M1) ∧ (¬ w = 1 → ((w = 2 → K [Xi (M1 797 21)] M1) ∧ (¬ w = 2 → ((w = 3 → K [Xi (M1 797 71)] M1) ∧ (¬ w = 3 → ((w = 4 → K [Xi (M1 797 6)] M1) ∧ (¬ w = 4 → ((w = 5 → K [Xi (M1 797 2)] M1) ∧ (¬ w = 5 → K [Xi (-1 : Int)] M1))))))))))))) := by
  obtain ⟨⟨g1, g2⟩, gK⟩ := hS
  refine And.intro (by
    exact g1) ?_
  intro M1 hM1
  refine And.intro (by
    first
      | omega
      | (simp [ab_up_a]; done)
      | (simp [ab_up_a]; omega)) ?_
  refine ⟨?_, ?_⟩
  · intro c5_0
    refine gK _ _ hM1 ?_
    simp [*]
  · intro c5_0
    refine ⟨?_, ?_⟩
    · intro c5_1
      refine gK _ _ hM1 ?_
      simp [*]
    · intro c5_1
      refine ⟨?_, ?_⟩
      · intro c5_2
        refine gK _ _ hM1 ?_
        simp [*]
      · intro c5_2
        refine ⟨?_, ?_⟩
        · intro c5_3
          refine gK _ _ hM1 ?_
          simp [*]
        · intro c5_3
          refine ⟨?_, ?_⟩
          · intro c5_4
            refine gK _ _ hM1 ?_
            simp [*]
          · intro c5_4
            refine ⟨?_, ?_⟩
            · intro c5_5
              refine gK _ _ hM1 ?_
              simp [*]
            · intro c5_5
              refine gK _ _ hM1 ?_
              simp [*]

set_option maxRecDepth 20000 in
set_option maxHeartbeats 1000000 in
theorem ok_X9_count (E : ab_E) : ab_Ok E 8 130 S_X9_count := by
  refine ab_mk rq_X9_count tk_X9_count (rt := 1) (rfl) (cuts := []) (G := [(170, S_X9_read)]) (List.forall_mem_cons.mpr ⟨⟨7, by decide, ok_X9_read E⟩, fun _ h => absurd h List.not_mem_nil⟩) (by decide) 74 rfl ?_
  intro a M K wd wa hS
  unfold S_X9_count at hS
  split at hS
  ·
    rename_i w
    refine ⟨Nat.le_of_ble_eq_true rfl, fun _ _ _ _ _ => False, ?_, ?_⟩
    · exact vc_X9_count_0 w M K  hS
    · exact fun _ _ _ _ _ h => h.elim
  · exact hS.elim
def S_X9_undo : ab_PT := fun a M K => match a with
  | [.inr (.inr (.inr (797, 9, 0)))] => (0 ≤ M 797 2 ∧ M 797 2 ≤ 6) ∧ (∀ rx : Int, ∀ Mx : ab_M, (Mx = if M 797 2 = 0 then M else pz_UD M) → (rx = if M 797 2 = 0 then -2 else M 797 2 - 1) → K [Xi rx] Mx)
  | _ => False
set_option maxRecDepth 20000 in
theorem vc_X9_undo_0  (M : ab_M) (K : List ab_V → ab_M → Prop) (hS : (0 ≤ M 797 2 ∧ M 797 2 ≤ 6) ∧ (∀ rx : Int, ∀ Mx : ab_M, (Mx = if M 797 2 = 0 then M else pz_UD M) → (rx = if M 797 2 = 0 then -2 else M 797 2 - 1) → K [Xi rx] Mx)) : (ab_ir (M 797 2)) ∧ ((¬ (M 797 2) = 0 → (∃ n', ((n' = (641 - (0 : Int)).toNat ∧ (ab_up M 797 2 ((M 797 2) - (1 : Int))) = ab_blk (ab_up M 797 2 (M 797 2 - 1)) 798 0 (0 : Int).toNat (fun k => M 799 (641 * (M 797 2 - 1).toNat + k)) ∧ M 797 2 ≠ 0 ∧ 0 ≤ (0 : Int) ∧ (0 : Int) ≤ 641)))) ∧ ((M 797 2) = 0 → (-128 ≤ (-2 : Int) ∧ (-2 : Int) < 128) ∧ K [Xi (-2 : Int)] M)) := by
  obtain ⟨⟨g1, g2⟩, gK⟩ := hS
  refine And.intro (by
    first
      | omega
      | (simp [ab_up_a]; done)
      | (simp [ab_up_a]; omega)) ?_
  refine ⟨?_, ?_⟩
  · intro c4
    refine ⟨_, rfl, ?_, c4, by omega, by omega⟩
    rw [show (0 : Int).toNat = 0 from rfl, ab_blk_0]
  · intro c4
    refine And.intro (by
      first
        | omega
        | (simp [ab_up_a]; done)
        | (simp [ab_up_a]; omega)) ?_
    refine gK _ _ ?_ ?_
    · rw [if_pos c4]
    · rw [if_pos c4]

set_option maxRecDepth 20000 in
theorem vc_X9_undo_22  (M : ab_M) (K : List ab_V → ab_M → Prop) (hS : (0 ≤ M 797 2 ∧ M 797 2 ≤ 6) ∧ (∀ rx : Int, ∀ Mx : ab_M, (Mx = if M 797 2 = 0 then M else pz_UD M) → (rx = if M 797 2 = 0 then -2 else M 797 2 - 1) → K [Xi rx] Mx)) (n : Nat) (i1 : Int) (M1 : ab_M) (hI : n = (641 - i1).toNat ∧ M1 = ab_blk (ab_up M 797 2 (M 797 2 - 1)) 798 0 i1.toNat (fun k => M 799 (641 * (M 797 2 - 1).toNat + k)) ∧ M 797 2 ≠ 0 ∧ 0 ≤ i1 ∧ i1 ≤ 641) : (-32768 ≤ (640 : Int) ∧ (640 : Int) < 32768) ∧ (ab_ir i1 ∧ ab_ir (640 : Int)) ∧ (((640 : Int) < i1 → (True) ∧ (∀ M57 : ab_M, (M57 = ab_up (ab_up (ab_up (ab_up (ab_up M1 797 28 0) 797 29 (-9)) 816 0 0) 816 1 0) 797 31 0) → K [Xi (M57 797 2)] M57)) ∧ (i1 ≤ (640 : Int) → (-32768 ≤ (641 : Int) ∧ (641 : Int) < 32768) ∧ (0 ≤ (((641 : Int) * (M1 797 2)) + i1) ∧ (((641 : Int) * (M1 797 2)) + i1) < ((3846 : Nat) : Int)) ∧ (0 ≤ i1 ∧ i1 < ((641 : Nat) : Int)) ∧ (∃ n', n' < n ∧ ((n' = (641 - (i1 + 1)).toNat ∧ (ab_up M1 798 i1.toNat (M1 799 ((((641 : Int) * (M1 797 2)) + i1).toNat))) = ab_blk (ab_up M 797 2 (M 797 2 - 1)) 798 0 (i1 + 1).toNat (fun k => M 799 (641 * (M 797 2 - 1).toNat + k)) ∧ M 797 2 ≠ 0 ∧ 0 ≤ (i1 + 1) ∧ (i1 + 1) ≤ 641))))) := by
  obtain ⟨hn, rfl, h0, h1, h2⟩ := hI
  obtain ⟨⟨g1, g2⟩, gK⟩ := hS
  have e2 : ab_blk (ab_up M 797 2 (M 797 2 - 1)) 798 0 i1.toNat (fun k => M 799 (641 * (M 797 2 - 1).toNat + k)) 797 2 = M 797 2 - 1 := by rw [ab_blk_o (by decide), ab_up_s]
  have e3 : ∀ k, ab_blk (ab_up M 797 2 (M 797 2 - 1)) 798 0 i1.toNat (fun k => M 799 (641 * (M 797 2 - 1).toNat + k)) 799 k = M 799 k := fun k => by rw [ab_blk_o (by decide), ab_up_o (by decide)]
  refine And.intro (by
    first
      | omega
      | (simp [ab_up_a]; done)
      | (simp [ab_up_a]; omega)) ?_
  refine And.intro (by
    first
      | omega
      | (simp [ab_up_a]; done)
      | (simp [ab_up_a]; omega)) ?_
  refine ⟨?_, ?_⟩
  · intro c26
    refine And.intro trivial ?_
    intro M57 hM57
    have e : i1 = 641 := by omega
    rw [e] at hM57 e2
    refine gK _ _ ?_ ?_
    · rw [if_neg h0, hM57]
      rfl
    · rw [if_neg h0, hM57]
      simp only [ab_up_a]
      simp only [Nat.reduceEqDiff, false_and, if_false, and_false]
      exact e2
  · intro c26
    refine And.intro (by
      first
        | omega
        | (simp [ab_up_a]; done)
        | (simp [ab_up_a]; omega)) ?_
    refine And.intro (by
      rw [e2]
      exact ⟨by omega, by omega⟩) ?_
    refine And.intro (by
      first
        | omega
        | (simp [ab_up_a]; done)
        | (simp [ab_up_a]; omega)) ?_
    refine ⟨_, ?_, rfl, ?_, h0, by omega, by omega⟩
    · omega
    · rw [e2, e3, show (i1 + 1).toNat = i1.toNat + 1 by omega]
      exact ab_blk_s (by omega) (by rw [show (641 * (M 797 2 - 1) + i1).toNat = 641 * (M 797 2 - 1).toNat + i1.toNat by omega])

set_option maxRecDepth 20000 in
set_option maxHeartbeats 1000000 in
theorem ok_X9_undo (E : ab_E) : ab_Ok E 2 188 S_X9_undo := by
  refine ab_mk rq_X9_undo tk_X9_undo (rt := 1) (rfl) (cuts := [22]) (G := [(139, S_X9_forgetAll)]) (List.forall_mem_cons.mpr ⟨⟨1, by decide, ok_X9_forgetAll E⟩, fun _ h => absurd h List.not_mem_nil⟩) (by decide) 86 rfl ?_
  intro a M K wd wa hS
  unfold S_X9_undo at hS
  split at hS
  ·
    refine ⟨Nat.le_of_ble_eq_true rfl, fun pc n L st M1 => match pc, L, st with
      | 22, [.inr (.inr (.inr (797, 9, 0))), .inr (.inl i1)], [] => (n = (641 - i1).toNat ∧ M1 = ab_blk (ab_up M 797 2 (M 797 2 - 1)) 798 0 i1.toNat (fun k => M 799 (641 * (M 797 2 - 1).toNat + k)) ∧ M 797 2 ≠ 0 ∧ 0 ≤ i1 ∧ i1 ≤ 641)
      | _, _, _ => False, ?_, ?_⟩
    · exact vc_X9_undo_0  M K  hS
    · intro pc n L st M1 hI wd1 wL wst
      (try dsimp only at hI)
      split at hI
      ·
        rename_i i1
        exact vc_X9_undo_22  M K  hS n i1 _ hI
      · exact hI.elim
  · exact hS.elim
def S_X9_keep : ab_PT := fun a M K => match a with
  | [.inr (.inr (.inr (797, 9, 0))), .inr (.inl z)] => (pz_PR M ∧ ab_ir z) ∧ (∀ rx : Int, ∀ Mx : ab_M, (pz_KP M Mx z rx) → K [Xi rx] Mx)
  | _ => False
set_option maxRecDepth 20000 in
theorem vc_X9_keep_0 (z : Int) (M : ab_M) (K : List ab_V → ab_M → Prop) (hS : (pz_PR M ∧ ab_ir z) ∧ (∀ rx : Int, ∀ Mx : ab_M, (pz_KP M Mx z rx) → K [Xi rx] Mx)) : (ab_ir z ∧ ab_ir (0 : Int) ∧ ab_ir (1 : Int)) ∧ (∀ r3 : Int, (r3 = if (0 : Int) ≤ z ∧ z ≤ (1 : Int) then 1 else 0) → (ab_ir r3) ∧ ((¬ r3 = 0 → (pz_PR M) ∧ (∀ M12 : ab_M, (pz_rdn M M12) → (∃ n', ((n' = (641 - (0 : Int)).toNat ∧ ∃ N, pz_rdn M N ∧ M12 = ab_blk N 800 (641 * z).toNat (0 : Int).toNat (fun k => N 798 k) ∧ (0 ≤ z ∧ z ≤ 1 ∧ z = z) ∧ 0 ≤ (0 : Int) ∧ (0 : Int) ≤ 641))))) ∧ (r3 = 0 → K [Xi (-1 : Int)] M))) := by
  obtain ⟨⟨g1, g2⟩, gK⟩ := hS
  refine And.intro (by
    first
      | omega
      | (simp [ab_up_a]; done)
      | (simp [ab_up_a]; omega)) ?_
  intro r3 hr3
  refine And.intro (by
    first
      | omega
      | (simp [ab_up_a]; done)
      | (simp [ab_up_a]; omega)) ?_
  refine ⟨?_, ?_⟩
  · intro c6
    rw [hr3] at c6
    rw [ab_bt] at c6
    clear hr3 r3
    refine And.intro (by
      exact g1) ?_
    intro M12 hM12
    refine ⟨_, rfl, M12, hM12, ?_, ⟨by omega, by omega, rfl⟩, by omega, by omega⟩
    rw [show (0 : Int).toNat = 0 from rfl, ab_blk_0]
  · intro c6
    rw [hr3] at c6
    rw [ab_bf] at c6
    clear hr3 r3
    refine gK _ _ ⟨fun _ => ⟨rfl, rfl⟩, fun q => absurd q (by omega)⟩

set_option maxRecDepth 20000 in
theorem vc_X9_keep_17 (z : Int) (M : ab_M) (K : List ab_V → ab_M → Prop) (hS : (pz_PR M ∧ ab_ir z) ∧ (∀ rx : Int, ∀ Mx : ab_M, (pz_KP M Mx z rx) → K [Xi rx] Mx)) (n : Nat) (z0 : Int) (i1 : Int) (M1 : ab_M) (hI : n = (641 - i1).toNat ∧ ∃ N, pz_rdn M N ∧ M1 = ab_blk N 800 (641 * z).toNat i1.toNat (fun k => N 798 k) ∧ (0 ≤ z ∧ z ≤ 1 ∧ z0 = z) ∧ 0 ≤ i1 ∧ i1 ≤ 641) : (-32768 ≤ (640 : Int) ∧ (640 : Int) < 32768) ∧ (ab_ir i1 ∧ ab_ir (640 : Int)) ∧ (((640 : Int) < i1 → ((0 ≤ z0 ∧ z0 < ((2 : Nat) : Int)) ∧ ((1 : Int) = 0 ∨ (1 : Int) = 1)) ∧ K [Xi (M1 797 19)] (ab_up M1 801 z0.toNat (1 : Int))) ∧ (i1 ≤ (640 : Int) → (-32768 ≤ (641 : Int) ∧ (641 : Int) < 32768) ∧ (0 ≤ i1 ∧ i1 < ((641 : Nat) : Int)) ∧ (0 ≤ (((641 : Int) * z0) + i1) ∧ (((641 : Int) * z0) + i1) < ((1282 : Nat) : Int)) ∧ (∃ n', n' < n ∧ ((n' = (641 - (i1 + 1)).toNat ∧ ∃ N, pz_rdn M N ∧ (ab_up M1 800 ((((641 : Int) * z0) + i1).toNat) (M1 798 i1.toNat)) = ab_blk N 800 (641 * z).toNat (i1 + 1).toNat (fun k => N 798 k) ∧ (0 ≤ z ∧ z ≤ 1 ∧ z0 = z) ∧ 0 ≤ (i1 + 1) ∧ (i1 + 1) ≤ 641))))) := by
  obtain ⟨hn, N, hN, rfl, h0, h1, h2⟩ := hI
  obtain ⟨⟨g1, g2⟩, gK⟩ := hS
  have e3 : ∀ k, ab_blk N 800 (641 * z).toNat i1.toNat (fun k => N 798 k) 798 k = N 798 k := fun k => ab_blk_o (by decide) k
  refine And.intro (by
    first
      | omega
      | (simp [ab_up_a]; done)
      | (simp [ab_up_a]; omega)) ?_
  refine And.intro (by
    first
      | omega
      | (simp [ab_up_a]; done)
      | (simp [ab_up_a]; omega)) ?_
  refine ⟨?_, ?_⟩
  · intro c21
    refine And.intro (by
      first
        | omega
        | (simp [ab_up_a]; done)
        | (simp [ab_up_a]; omega)) ?_
    have e : i1 = 641 := by omega
    subst e
    obtain ⟨h3, h4, rfl⟩ := h0
    exact gK _ _ ⟨fun q => absurd ⟨h3, h4⟩ q, fun _ => ⟨N, hN, rfl, by rw [ab_blk_o (by decide)]⟩⟩
  · intro c21
    refine And.intro (by
      first
        | omega
        | (simp [ab_up_a]; done)
        | (simp [ab_up_a]; omega)) ?_
    refine And.intro (by
      first
        | omega
        | (simp [ab_up_a]; done)
        | (simp [ab_up_a]; omega)) ?_
    refine And.intro (by
      first
        | omega
        | (simp [ab_up_a]; done)
        | (simp [ab_up_a]; omega)) ?_
    refine ⟨_, ?_, rfl, N, hN, ?_, h0, by omega, by omega⟩
    · omega
    · rw [e3, show (i1 + 1).toNat = i1.toNat + 1 by omega]
      rw [h0.2.2]
      exact ab_blk_s (by omega) rfl

set_option maxRecDepth 20000 in
set_option maxHeartbeats 1000000 in
theorem ok_X9_keep (E : ab_E) : ab_Ok E 8 153 S_X9_keep := by
  refine ab_mk rq_X9_keep tk_X9_keep (rt := 1) (rfl) (cuts := [17]) (G := [(145, S_X9_in), (170, S_X9_read)]) (List.forall_mem_cons.mpr ⟨⟨1, by decide, ok_X9_in E⟩, List.forall_mem_cons.mpr ⟨⟨7, by decide, ok_X9_read E⟩, fun _ h => absurd h List.not_mem_nil⟩⟩) (by decide) 86 rfl ?_
  intro a M K wd wa hS
  unfold S_X9_keep at hS
  split at hS
  ·
    rename_i z
    refine ⟨Nat.le_of_ble_eq_true rfl, fun pc n L st M1 => match pc, L, st with
      | 17, [.inr (.inr (.inr (797, 9, 0))), .inr (.inl z0), .inr (.inl i1)], [] => (n = (641 - i1).toNat ∧ ∃ N, pz_rdn M N ∧ M1 = ab_blk N 800 (641 * z).toNat i1.toNat (fun k => N 798 k) ∧ (0 ≤ z ∧ z ≤ 1 ∧ z0 = z) ∧ 0 ≤ i1 ∧ i1 ≤ 641)
      | _, _, _ => False, ?_, ?_⟩
    · exact vc_X9_keep_0 z M K  hS
    · intro pc n L st M1 hI wd1 wL wst
      (try dsimp only at hI)
      split at hI
      ·
        rename_i z0 i1
        exact vc_X9_keep_17 z M K  hS n z0 i1 _ hI
      · exact hI.elim
  · exact hS.elim
def S_X9_back : ab_PT := fun a M K => match a with
  | [.inr (.inr (.inr (797, 9, 0))), .inr (.inl z)] => (ab_ir z ∧ (0 ≤ z ∧ z ≤ 1 → (M 801 z.toNat = 0 ∨ M 801 z.toNat = 1) ∧ (M 801 z.toNat = 1 → pz_PR (pz_BK M z)))) ∧ (∀ rx : Int, ∀ Mx : ab_M, (pz_BQ M Mx z rx) → K [Xi rx] Mx)
  | _ => False
set_option maxRecDepth 20000 in
theorem vc_X9_back_0 (z : Int) (M : ab_M) (K : List ab_V → ab_M → Prop) (hS : (ab_ir z ∧ (0 ≤ z ∧ z ≤ 1 → (M 801 z.toNat = 0 ∨ M 801 z.toNat = 1) ∧ (M 801 z.toNat = 1 → pz_PR (pz_BK M z)))) ∧ (∀ rx : Int, ∀ Mx : ab_M, (pz_BQ M Mx z rx) → K [Xi rx] Mx)) : (ab_ir z ∧ ab_ir (0 : Int) ∧ ab_ir (1 : Int)) ∧ (∀ r3 : Int, (r3 = if (0 : Int) ≤ z ∧ z ≤ (1 : Int) then 1 else 0) → (ab_ir r3) ∧ ((¬ r3 = 0 → (0 ≤ z ∧ z < ((2 : Nat) : Int)) ∧ (ab_ir (M 801 z.toNat)) ∧ ((¬ (M 801 z.toNat) = 0 → (∃ n', ((n' = (641 - (0 : Int)).toNat ∧ M = ab_blk M 798 0 (0 : Int).toNat (fun k => M 800 (641 * z.toNat + k)) ∧ (0 ≤ z ∧ z ≤ 1 ∧ z = z ∧ M 801 z.toNat = 1) ∧ 0 ≤ (0 : Int) ∧ (0 : Int) ≤ 641)))) ∧ ((M 801 z.toNat) = 0 → (-128 ≤ (-2 : Int) ∧ (-2 : Int) < 128) ∧ K [Xi (-2 : Int)] M))) ∧ (r3 = 0 → K [Xi (-1 : Int)] M))) := by
  obtain ⟨⟨g1, g2⟩, gK⟩ := hS
  refine And.intro (by
    first
      | omega
      | (simp [ab_up_a]; done)
      | (simp [ab_up_a]; omega)) ?_
  intro r3 hr3
  refine And.intro (by
    first
      | omega
      | (simp [ab_up_a]; done)
      | (simp [ab_up_a]; omega)) ?_
  refine ⟨?_, ?_⟩
  · intro c6
    rw [hr3] at c6
    rw [ab_bt] at c6
    clear hr3 r3
    refine And.intro (by
      first
        | omega
        | (simp [ab_up_a]; done)
        | (simp [ab_up_a]; omega)) ?_
    refine And.intro (by
      have := (g2 ⟨by omega, by omega⟩).1
      rcases this with q | q
      · rw [q]; exact ⟨by decide, by decide⟩
      · rw [q]; exact ⟨by decide, by decide⟩) ?_
    refine ⟨?_, ?_⟩
    · intro c17
      refine ⟨_, rfl, ?_, ⟨by omega, by omega, rfl, by have := (g2 ⟨by omega, by omega⟩).1; omega⟩, by omega, by omega⟩
      rw [show (0 : Int).toNat = 0 from rfl, ab_blk_0]
    · intro c17
      refine And.intro (by
        first
          | omega
          | (simp [ab_up_a]; done)
          | (simp [ab_up_a]; omega)) ?_
      refine gK _ _ ⟨fun q => absurd q (by omega), fun _ _ => ⟨rfl, rfl⟩, fun _ q => absurd q (by omega)⟩
  · intro c6
    rw [hr3] at c6
    rw [ab_bf] at c6
    clear hr3 r3
    refine gK _ _ ⟨fun _ => ⟨rfl, rfl⟩, fun q => absurd q (by omega), fun q => absurd q (by omega)⟩

set_option maxRecDepth 20000 in
theorem vc_X9_back_25 (z : Int) (M : ab_M) (K : List ab_V → ab_M → Prop) (hS : (ab_ir z ∧ (0 ≤ z ∧ z ≤ 1 → (M 801 z.toNat = 0 ∨ M 801 z.toNat = 1) ∧ (M 801 z.toNat = 1 → pz_PR (pz_BK M z)))) ∧ (∀ rx : Int, ∀ Mx : ab_M, (pz_BQ M Mx z rx) → K [Xi rx] Mx)) (n : Nat) (z0 : Int) (i1 : Int) (M1 : ab_M) (hI : n = (641 - i1).toNat ∧ M1 = ab_blk M 798 0 i1.toNat (fun k => M 800 (641 * z.toNat + k)) ∧ (0 ≤ z ∧ z ≤ 1 ∧ z0 = z ∧ M 801 z.toNat = 1) ∧ 0 ≤ i1 ∧ i1 ≤ 641) : (-32768 ≤ (640 : Int) ∧ (640 : Int) < 32768) ∧ (ab_ir i1 ∧ ab_ir (640 : Int)) ∧ (((640 : Int) < i1 → (True) ∧ (∀ M62 : ab_M, (M62 = ab_up (ab_up (ab_up (ab_up (ab_up (ab_up M1 797 2 (0 : Int)) 797 28 0) 797 29 (-9)) 816 0 0) 816 1 0) 797 31 0) → (pz_PR M62) ∧ (∀ M66 : ab_M, (pz_rdn M62 M66) → K [Xi (M66 797 19)] M66))) ∧ (i1 ≤ (640 : Int) → (-32768 ≤ (641 : Int) ∧ (641 : Int) < 32768) ∧ (0 ≤ (((641 : Int) * z0) + i1) ∧ (((641 : Int) * z0) + i1) < ((1282 : Nat) : Int)) ∧ (0 ≤ i1 ∧ i1 < ((641 : Nat) : Int)) ∧ (∃ n', n' < n ∧ ((n' = (641 - (i1 + 1)).toNat ∧ (ab_up M1 798 i1.toNat (M1 800 ((((641 : Int) * z0) + i1).toNat))) = ab_blk M 798 0 (i1 + 1).toNat (fun k => M 800 (641 * z.toNat + k)) ∧ (0 ≤ z ∧ z ≤ 1 ∧ z0 = z ∧ M 801 z.toNat = 1) ∧ 0 ≤ (i1 + 1) ∧ (i1 + 1) ≤ 641))))) := by
  obtain ⟨hn, rfl, h0, h1, h2⟩ := hI
  obtain ⟨⟨g1, g2⟩, gK⟩ := hS
  have e3 : ∀ k, ab_blk M 798 0 i1.toNat (fun k => M 800 (641 * z.toNat + k)) 800 k = M 800 k := fun k => ab_blk_o (by decide) k
  refine And.intro (by
    first
      | omega
      | (simp [ab_up_a]; done)
      | (simp [ab_up_a]; omega)) ?_
  refine And.intro (by
    first
      | omega
      | (simp [ab_up_a]; done)
      | (simp [ab_up_a]; omega)) ?_
  refine ⟨?_, ?_⟩
  · intro c29
    refine And.intro trivial ?_
    intro M62 hM62
    refine And.intro (by
      have e : i1 = 641 := by omega
      subst e
      obtain ⟨h3, h4, rfl, h5⟩ := h0
      rw [hM62]
      exact (g2 ⟨h3, h4⟩).2 h5) ?_
    intro M66 hM66
    have e : i1 = 641 := by omega
    subst e
    obtain ⟨h3, h4, rfl, h5⟩ := h0
    rw [hM62] at hM66
    exact gK _ _ ⟨fun q => absurd ⟨h3, h4⟩ q, fun _ q => absurd q (by omega), fun _ _ => ⟨rfl, hM66⟩⟩
  · intro c29
    refine And.intro (by
      first
        | omega
        | (simp [ab_up_a]; done)
        | (simp [ab_up_a]; omega)) ?_
    refine And.intro (by
      first
        | omega
        | (simp [ab_up_a]; done)
        | (simp [ab_up_a]; omega)) ?_
    refine And.intro (by
      first
        | omega
        | (simp [ab_up_a]; done)
        | (simp [ab_up_a]; omega)) ?_
    refine ⟨_, ?_, rfl, ?_, h0, by omega, by omega⟩
    · omega
    · rw [e3, show (i1 + 1).toNat = i1.toNat + 1 by omega]
      exact ab_blk_s (by omega) (by rw [h0.2.2.1, show (641 * z + i1).toNat = 641 * z.toNat + i1.toNat by omega])

set_option maxRecDepth 20000 in
set_option maxHeartbeats 1000000 in
theorem ok_X9_back (E : ab_E) : ab_Ok E 8 121 S_X9_back := by
  refine ab_mk rq_X9_back tk_X9_back (rt := 1) (rfl) (cuts := [25]) (G := [(139, S_X9_forgetAll), (145, S_X9_in), (170, S_X9_read)]) (List.forall_mem_cons.mpr ⟨⟨1, by decide, ok_X9_forgetAll E⟩, List.forall_mem_cons.mpr ⟨⟨1, by decide, ok_X9_in E⟩, List.forall_mem_cons.mpr ⟨⟨7, by decide, ok_X9_read E⟩, fun _ h => absurd h List.not_mem_nil⟩⟩⟩) (by decide) 93 rfl ?_
  intro a M K wd wa hS
  unfold S_X9_back at hS
  split at hS
  ·
    rename_i z
    refine ⟨Nat.le_of_ble_eq_true rfl, fun pc n L st M1 => match pc, L, st with
      | 25, [.inr (.inr (.inr (797, 9, 0))), .inr (.inl z0), .inr (.inl i1)], [] => (n = (641 - i1).toNat ∧ M1 = ab_blk M 798 0 i1.toNat (fun k => M 800 (641 * z.toNat + k)) ∧ (0 ≤ z ∧ z ≤ 1 ∧ z0 = z ∧ M 801 z.toNat = 1) ∧ 0 ≤ i1 ∧ i1 ≤ 641)
      | _, _, _ => False, ?_, ?_⟩
    · exact vc_X9_back_0 z M K  hS
    · intro pc n L st M1 hI wd1 wL wst
      (try dsimp only at hI)
      split at hI
      ·
        rename_i z0 i1
        exact vc_X9_back_25 z M K  hS n z0 i1 _ hI
      · exact hI.elim
  · exact hS.elim
