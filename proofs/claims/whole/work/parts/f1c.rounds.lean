/-! sets of states in words; the rounds -/
theorem nd_lc (a b : Int) : (if b < a then (1 : Int) else if a = b then 0 else -1) = 0 ↔ a = b := by
  constructor
  · intro h
    split at h
    · cases h
    · split at h
      · assumption
      · cases h
  · intro h
    subst h
    rw [if_neg (Int.lt_irrefl _), if_pos rfl]
theorem nd_li (a b : Int) : ab_ir (if b < a then (1 : Int) else if a = b then 0 else -1) := by
  split
  · exact ⟨by decide, by decide⟩
  · split <;> exact ⟨by decide, by decide⟩
/-- a set of states: a bit for each, in four words -/
def nd_b (M : ab_M) (o y : Nat) : Bool := pz_lb (M o (y / 64)) (y % 64)
/-- the state in which a block can end, from a state -/
def nd_e (M : ab_M) (x y : Nat) : Bool := pz_lb (M 782 (4 * x + y / 64)) (y % 64)
def nd_c (M : ab_M) (x : Nat) : Bool := (List.range 256).any fun y => nd_e M x y && nd_b M 783 y
theorem nd_c_iff {M : ab_M} {x : Nat} : nd_c M x = true ↔ ∃ y, y < 256 ∧ nd_e M x y = true ∧ nd_b M 783 y = true := by
  unfold nd_c
  rw [List.any_eq_true]
  constructor
  · rintro ⟨y, h1, h2⟩
    exact ⟨y, List.mem_range.1 h1, Bool.and_eq_true_iff.1 h2⟩
  · rintro ⟨y, h1, h2⟩
    exact ⟨y, List.mem_range.2 h1, Bool.and_eq_true_iff.2 h2⟩
theorem nd_c_fr {M M1 : ab_M} (h2 : ∀ k, M1 782 k = M 782 k) (h3 : ∀ k, M1 783 k = M 783 k) (x : Nat) : nd_c M1 x = nd_c M x := by
  unfold nd_c nd_e nd_b
  simp only [h2, h3]
theorem nd_b_set {M : ab_M} {o : Nat} {k : Int} (h0 : 0 ≤ k) (h1 : k < 256) {y : Nat} (hy : y < 256) : nd_b (ab_up M o (k / 64).toNat (ab_lor (M o (k / 64).toNat) (ab_lshl ((1 : Nat) : Int) (k % 64)))) o y = (nd_b M o y || decide ((y : Int) = k)) := by
  unfold nd_b
  by_cases e : y / 64 = (k / 64).toNat
  · rw [e, ab_up_s, pz_lb_or, pz_lb_one (by omega) (by omega) (Nat.mod_lt _ (by decide))]
    congr 1
    exact decide_eq_decide.2 ⟨fun q => by omega, fun q => by omega⟩
  · rw [ab_up_k e, decide_eq_false (fun q => e (by omega)), Bool.or_false]
theorem nd_b_or {M : ab_M} {w : Nat} (y : Nat) : nd_b (ab_up M 783 w (ab_lor (M 783 w) (M 784 w))) 783 y = if y / 64 = w then (nd_b M 783 y || nd_b M 784 y) else nd_b M 783 y := by
  unfold nd_b
  by_cases e : y / 64 = w
  · rw [e, ab_up_s, if_pos rfl, pz_lb_or]
  · rw [ab_up_k e, if_neg e]
theorem nd_w0 (M : ab_M) (s w : Nat) (hw : w < 4) : ab_land (M 782 (4 * s + w)) (M 783 w) = 0 ↔ ∀ y, y < 256 → y / 64 = w → ¬ (nd_e M s y = true ∧ nd_b M 783 y = true) := by
  rw [pz_land_0]
  constructor
  · intro h y hy e
    have := h (y % 64) (Nat.mod_lt _ (by decide))
    unfold nd_e nd_b
    rw [e]
    exact this
  · intro h b hb
    have := h (64 * w + b) (by omega) (by omega)
    unfold nd_e nd_b at this
    rw [show (64 * w + b) / 64 = w by omega, show (64 * w + b) % 64 = b by omega] at this
    exact this
theorem nd_w1 (M : ab_M) (w : Nat) (hw : w < 4) : ab_land (M 784 w) (ab_lxor (M 783 w) (-1)) = 0 ↔ ∀ y, y < 256 → y / 64 = w → ¬ (nd_b M 784 y = true ∧ ¬ nd_b M 783 y = true) := by
  rw [pz_land_0]
  constructor
  · intro h y hy e q
    have := h (y % 64) (Nat.mod_lt _ (by decide))
    rw [pz_lb_not _ (Nat.mod_lt _ (by decide))] at this
    unfold nd_b at q
    rw [e] at q
    refine this ⟨q.1, ?_⟩
    rw [Bool.eq_false_iff.2 q.2]
    rfl
  · intro h b hb q
    have := h (64 * w + b) (by omega) (by omega)
    unfold nd_b at this
    rw [show (64 * w + b) / 64 = w by omega, show (64 * w + b) % 64 = b by omega] at this
    rw [pz_lb_not _ hb] at q
    refine this ⟨q.1, fun z => ?_⟩
    rw [z] at q
    cases q.2
theorem gx_m_top {f : Nat → Bool} : ∀ k, k ≤ gx_m f k → ∀ x, x < k → f x = true
  | 0, _, x, h => absurd h (Nat.not_lt_zero _)
  | k + 1, h, x, hx => by
    have h1 : k + 1 ≤ gx_m f k + (if f k = true then 1 else 0) := h
    have h2 := gx_m_bd f k
    by_cases e : f k = true
    · rw [if_pos e] at h1
      by_cases c : x = k
      · rw [c]; exact e
      · exact gx_m_top k (by omega) x (by omega)
    · rw [if_neg e] at h1
      omega
/-- the states that are out after so many rounds -/
def nd_K (M : ab_M) (t : Int) : Nat → Nat → Prop
  | 0 => fun y => tv M t (y : Int) = 0
  | i + 1 => fun y => nd_K M t i y ∨ ∃ z, z < 256 ∧ nd_e M y z = true ∧ nd_K M t i z
def nd_I (M M1 : ab_M) (t : Int) (i : Nat) : Prop := (∀ y, y < 256 → (nd_b M1 783 y = true ↔ nd_K M t i y)) ∧ (∀ k, k < i → ∃ y, y < 256 ∧ ¬ nd_K M t k y ∧ nd_K M t (k + 1) y) ∧ i ≤ gx_m (nd_b M1 783) 256 ∧ ∀ o' k' : Nat, o' ≠ 783 → o' ≠ 784 → M1 o' k' = M o' k'
/-- what the rounds give -/
def nd_P (M M' : ab_M) (t r : Int) : Prop := (∃ i : Nat, r = (i : Int) ∧ (∀ y, y < 256 → (nd_b M' 783 y = true ↔ nd_K M t i y)) ∧ (∀ k, k < i → ∃ y, y < 256 ∧ ¬ nd_K M t k y ∧ nd_K M t (k + 1) y) ∧ ∀ y, y < 256 → nd_K M t (i + 1) y → nd_K M t i y) ∧ ∀ o' k' : Nat, o' ≠ 783 → o' ≠ 784 → M' o' k' = M o' k'
def nd_R (M M' : ab_M) (r : Int) : Prop := (r = 0 ∨ r = 1) ∧ (r = 1 ↔ ∃ y, y < 256 ∧ nd_c M y = true ∧ ¬ nd_b M 783 y = true) ∧ (∀ y, y < 256 → (nd_b M' 783 y = true ↔ nd_b M 783 y = true ∨ nd_c M y = true)) ∧ ∀ o' k' : Nat, o' ≠ 783 → o' ≠ 784 → M' o' k' = M o' k'
theorem nd_step {M M1 : ab_M} {t : Int} {i : Nat} (h : nd_I M M1 t i) (y : Nat) : nd_c M1 y = true ↔ ∃ z, z < 256 ∧ nd_e M y z = true ∧ nd_K M t i z := by
  rw [nd_c_iff]
  have e : ∀ z, nd_e M1 y z = nd_e M y z := fun z => by unfold nd_e; rw [h.2.2.2 782 _ (by decide) (by decide)]
  constructor
  · rintro ⟨z, z1, z2, z3⟩
    exact ⟨z, z1, by rw [← e]; exact z2, (h.1 z z1).1 z3⟩
  · rintro ⟨z, z1, z2, z3⟩
    exact ⟨z, z1, by rw [e]; exact z2, (h.1 z z1).2 z3⟩
theorem nd_next {M M1 M2 : ab_M} {t r : Int} {i : Nat} (h : nd_I M M1 t i) (hR : nd_R M1 M2 r) : (r = 1 → nd_I M M2 t (i + 1)) ∧ (r = 0 → nd_P M M2 t (i : Int)) := by
  obtain ⟨r1, r2, r3, r4⟩ := hR
  have hf : ∀ o' k' : Nat, o' ≠ 783 → o' ≠ 784 → M2 o' k' = M o' k' := fun o k a b => (r4 o k a b).trans (h.2.2.2 o k a b)
  have hb : ∀ y, y < 256 → (nd_b M2 783 y = true ↔ nd_K M t (i + 1) y) := fun y hy => by
    rw [r3 y hy, h.1 y hy, nd_step h y]
    exact Iff.rfl
  refine ⟨fun hr => ?_, fun hr => ?_⟩
  · obtain ⟨y, y1, y2, y3⟩ := r2.1 hr
    refine ⟨hb, fun k hk => ?_, ?_, hf⟩
    · by_cases e : k = i
      · subst e
        exact ⟨y, y1, fun z => y3 ((h.1 y y1).2 z), Or.inr ((nd_step h y).1 y2)⟩
      · exact h.2.1 k (by omega)
    · have := gx_m_lt (f := nd_b M1 783) (g := nd_b M2 783) 256 (fun x hx q => (r3 x hx).2 (Or.inl q)) ⟨y, y1, (r3 y y1).2 (Or.inr y2), y3⟩
      have := h.2.2.1
      omega
  · have hno : ∀ y, y < 256 → nd_c M1 y = true → nd_b M1 783 y = true := fun y hy q => Classical.byContradiction fun z => by
      have := r2.2 ⟨y, hy, q, z⟩
      omega
    refine ⟨⟨i, rfl, fun y hy => ?_, h.2.1, fun y hy q => ?_⟩, hf⟩
    · rw [r3 y hy, ← h.1 y hy]
      exact ⟨fun q => q.elim id (hno y hy), Or.inl⟩
    · rcases q with q | q
      · exact q
      · exact (h.1 y hy).1 (hno y hy ((nd_step h y).2 q))
theorem nd_last {M M1 : ab_M} {t : Int} (h : nd_I M M1 t 256) : nd_P M M1 t ((256 : Nat) : Int) := by
  have hall := gx_m_top 256 h.2.2.1
  exact ⟨⟨256, rfl, h.1, h.2.1, fun y hy _ => (h.1 y hy).1 (hall y hy)⟩, h.2.2.2⟩
theorem nd_sum (M : ab_M) (w : Nat) : gx_m (nd_b M 783) (64 * (w + 1)) = gx_m (nd_b M 783) (64 * w) + gx_m (pz_lb (M 783 w)) 64 := by
  rw [show 64 * (w + 1) = 64 * w + 64 by omega, gx_m_add]
  congr 1
  refine gx_m_cong 64 fun i hi => ?_
  unfold nd_b
  rw [show (64 * w + i) / 64 = w by omega, show (64 * w + i) % 64 = i by omega]
theorem tv_fr {M M1 : ab_M} (h : ∀ k, M1 770 k = M 770 k) (t s : Int) : tv M1 t s = tv M t s := by unfold tv; rw [h]
theorem tv_ok.fr {M M1 : ab_M} (h : tv_ok M) (e : ∀ k, M1 770 k = M 770 k) : tv_ok M1 := fun k => by rw [e]; exact h k

def S_X11_canLeave : ab_PT := fun a M K => match a with
  | [.inr (.inr (.inr (781, 11, 0))), .inr (.inl s)] => (0 ≤ s ∧ s ≤ 255) ∧ (∀ rx : Int, (rx = if nd_c M s.toNat = true then 1 else 0) → K [Xi rx] M)
  | _ => False
set_option maxRecDepth 20000 in
theorem vc_X11_canLeave_0 (s : Int) (M : ab_M) (K : List ab_V → ab_M → Prop) (hS : (0 ≤ s ∧ s ≤ 255) ∧ (∀ rx : Int, (rx = if nd_c M s.toNat = true then 1 else 0) → K [Xi rx] M)) : (∃ n', ((n' = (4 - (0 : Int)).toNat ∧ s = s ∧ 0 ≤ (0 : Int) ∧ (0 : Int) ≤ 4 ∧ M = M ∧ ∀ y : Nat, y < 256 → ((y / 64 : Nat) : Int) < (0 : Int) → ¬ (nd_e M s.toNat y = true ∧ nd_b M 783 y = true)))) := by
  obtain ⟨gs, gK⟩ := hS
  exact ⟨_, rfl, rfl, by decide, by decide, rfl, fun y _ q => by omega⟩

set_option maxRecDepth 20000 in
theorem vc_X11_canLeave_2 (s : Int) (M : ab_M) (K : List ab_V → ab_M → Prop) (hS : (0 ≤ s ∧ s ≤ 255) ∧ (∀ rx : Int, (rx = if nd_c M s.toNat = true then 1 else 0) → K [Xi rx] M)) (n : Nat) (s1 : Int) (w : Int) (M1 : ab_M) (hI : n = (4 - w).toNat ∧ s = s1 ∧ 0 ≤ w ∧ w ≤ 4 ∧ M1 = M ∧ ∀ y : Nat, y < 256 → ((y / 64 : Nat) : Int) < w → ¬ (nd_e M s.toNat y = true ∧ nd_b M 783 y = true)) : (ab_ir w ∧ ab_ir (4 : Int)) ∧ (((4 : Int) ≤ w → ((0 : Int) = 0 ∨ (0 : Int) = 1) ∧ K [Xi (0 : Int)] M1) ∧ (w < (4 : Int) → (0 ≤ ((s1 * (4 : Int)) + w) ∧ ((s1 * (4 : Int)) + w) < ((1024 : Nat) : Int)) ∧ (0 ≤ w ∧ w < ((4 : Nat) : Int)) ∧ ((ab_land (M1 782 (((s1 * (4 : Int)) + w).toNat)) (M1 783 w.toNat)) = ((0 : Nat) : Int) ∨ (ab_lr (ab_land (M1 782 (((s1 * (4 : Int)) + w).toNat)) (M1 783 w.toNat)) ∧ ab_lr ((0 : Nat) : Int))) ∧ (ab_ir (if ((0 : Nat) : Int) < (ab_land (M1 782 (((s1 * (4 : Int)) + w).toNat)) (M1 783 w.toNat)) then 1 else if (ab_land (M1 782 (((s1 * (4 : Int)) + w).toNat)) (M1 783 w.toNat)) = ((0 : Nat) : Int) then 0 else -1 : Int)) ∧ (((if ((0 : Nat) : Int) < (ab_land (M1 782 (((s1 * (4 : Int)) + w).toNat)) (M1 783 w.toNat)) then 1 else if (ab_land (M1 782 (((s1 * (4 : Int)) + w).toNat)) (M1 783 w.toNat)) = ((0 : Nat) : Int) then 0 else -1 : Int) = 0 → (∃ n', n' < n ∧ ((n' = (4 - (w + 1)).toNat ∧ s = s1 ∧ 0 ≤ (w + 1) ∧ (w + 1) ≤ 4 ∧ M1 = M ∧ ∀ y : Nat, y < 256 → ((y / 64 : Nat) : Int) < (w + 1) → ¬ (nd_e M s.toNat y = true ∧ nd_b M 783 y = true))))) ∧ (¬ (if ((0 : Nat) : Int) < (ab_land (M1 782 (((s1 * (4 : Int)) + w).toNat)) (M1 783 w.toNat)) then 1 else if (ab_land (M1 782 (((s1 * (4 : Int)) + w).toNat)) (M1 783 w.toNat)) = ((0 : Nat) : Int) then 0 else -1 : Int) = 0 → ((1 : Int) = 0 ∨ (1 : Int) = 1) ∧ K [Xi (1 : Int)] M1)))) := by
  obtain ⟨hn, q1, hw0, hw1, q2, hI⟩ := hI
  subst q1
  subst q2
  obtain ⟨gs, gK⟩ := hS
  have hz : w < 4 → (ab_land (M1 782 ((s * 4) + w).toNat) (M1 783 w.toNat) = ((0 : Nat) : Int) ↔ ∀ y, y < 256 → y / 64 = w.toNat → ¬ (nd_e M1 s.toNat y = true ∧ nd_b M1 783 y = true)) := fun q => by
    rw [show ((s * 4) + w).toNat = 4 * s.toNat + w.toNat by omega]
    exact nd_w0 M1 s.toNat w.toNat (by omega)
  refine And.intro (by
    first
      | omega
      | exact ⟨by omega, by omega⟩
      | exact ⟨⟨by omega, by omega⟩, by omega, by omega⟩
      | trivial
      | exact nd_li _ _
      | exact Or.inr ⟨ab_land_lr _ _, by decide, by decide⟩) ?_
  refine ⟨?_, ?_⟩
  · intro c4
    refine And.intro (by
      first
        | omega
        | exact ⟨by omega, by omega⟩
        | exact ⟨⟨by omega, by omega⟩, by omega, by omega⟩
        | trivial
        | exact nd_li _ _
        | exact Or.inr ⟨ab_land_lr _ _, by decide, by decide⟩) ?_
    refine gK _ (if_neg fun z => ?_).symm
    obtain ⟨y, y1, y2, y3⟩ := nd_c_iff.1 z
    exact hI y y1 (by omega) ⟨y2, y3⟩
  · intro c4
    refine And.intro (by
      first
        | omega
        | exact ⟨by omega, by omega⟩
        | exact ⟨⟨by omega, by omega⟩, by omega, by omega⟩
        | trivial
        | exact nd_li _ _
        | exact Or.inr ⟨ab_land_lr _ _, by decide, by decide⟩) ?_
    refine And.intro (by
      first
        | omega
        | exact ⟨by omega, by omega⟩
        | exact ⟨⟨by omega, by omega⟩, by omega, by omega⟩
        | trivial
        | exact nd_li _ _
        | exact Or.inr ⟨ab_land_lr _ _, by decide, by decide⟩) ?_
    refine And.intro (by
      first
        | omega
        | exact ⟨by omega, by omega⟩
        | exact ⟨⟨by omega, by omega⟩, by omega, by omega⟩
        | trivial
        | exact nd_li _ _
        | exact Or.inr ⟨ab_land_lr _ _, by decide, by decide⟩) ?_
    refine And.intro (by
      first
        | omega
        | exact ⟨by omega, by omega⟩
        | exact ⟨⟨by omega, by omega⟩, by omega, by omega⟩
        | trivial
        | exact nd_li _ _
        | exact Or.inr ⟨ab_land_lr _ _, by decide, by decide⟩) ?_
    refine ⟨?_, ?_⟩
    · intro c26
      rw [nd_lc] at c26
      have hz := (hz (by omega)).1 c26
      refine ⟨_, ?_, rfl, rfl, by omega, by omega, rfl, fun y hy q => ?_⟩
      · omega
      by_cases e : y / 64 = w.toNat
      · exact hz y hy e
      · exact hI y hy (by omega)
    · intro c26
      refine And.intro (by
        first
          | omega
          | exact ⟨by omega, by omega⟩
          | exact ⟨⟨by omega, by omega⟩, by omega, by omega⟩
          | trivial
          | exact nd_li _ _
          | exact Or.inr ⟨ab_land_lr _ _, by decide, by decide⟩) ?_
      rw [nd_lc] at c26
      refine gK _ (if_pos ?_).symm
      rw [nd_c_iff]
      refine Classical.byContradiction fun z => c26 ((hz (by omega)).2 fun y hy _ q => z ⟨y, hy, q.1, q.2⟩)

set_option maxRecDepth 20000 in
set_option maxHeartbeats 1000000 in
theorem ok_X11_canLeave (E : ab_E) : ab_Ok E 1 201 S_X11_canLeave := by
  refine ab_mk rq_X11_canLeave tk_X11_canLeave (rt := 2) (rfl) (cuts := [2]) (G := []) (fun g hg => by cases hg) (by decide) 77 rfl ?_
  intro a M K wd wa hS
  unfold S_X11_canLeave at hS
  split at hS
  ·
    rename_i s
    refine ⟨Nat.le_of_ble_eq_true rfl, fun pc n L st M1 => match pc, L, st with
      | 2, [.inr (.inr (.inr (781, 11, 0))), .inr (.inl s1), .inr (.inl w)], [] => (n = (4 - w).toNat ∧ s = s1 ∧ 0 ≤ w ∧ w ≤ 4 ∧ M1 = M ∧ ∀ y : Nat, y < 256 → ((y / 64 : Nat) : Int) < w → ¬ (nd_e M s.toNat y = true ∧ nd_b M 783 y = true))
      | _, _, _ => False, ?_, ?_⟩
    · exact vc_X11_canLeave_0 s M K  hS
    · intro pc n L st M1 hI wd1 wL wst
      (try dsimp only at hI)
      split at hI
      ·
        rename_i s1 w
        exact vc_X11_canLeave_2 s M K  hS n s1 w _ hI
      · exact hI.elim
  · exact hS.elim
def S_X11_begin : ab_PT := fun a M K => match a with
  | [.inr (.inr (.inr (781, 11, 0))), .inr (.inl t)] => ((-1 ≤ t ∧ t ≤ 63) ∧ tv_ok M) ∧ (∀ Mx : ab_M, ((∀ y : Nat, y < 256 → (nd_b Mx 783 y = true ↔ tv M t (y : Int) = 0)) ∧ ∀ o' k' : Nat, o' ≠ 783 → Mx o' k' = M o' k') → K [] Mx)
  | _ => False
set_option maxRecDepth 20000 in
theorem vc_X11_begin_0 (t : Int) (M : ab_M) (K : List ab_V → ab_M → Prop) (hS : ((-1 ≤ t ∧ t ≤ 63) ∧ tv_ok M) ∧ (∀ Mx : ab_M, ((∀ y : Nat, y < 256 → (nd_b Mx 783 y = true ↔ tv M t (y : Int) = 0)) ∧ ∀ o' k' : Nat, o' ≠ 783 → Mx o' k' = M o' k') → K [] Mx)) : (4 ≤ 65536) ∧ (∀ M5 : ab_M, (∀ o' k' : Nat, M5 o' k' = if o' = 783 ∧ k' < 4 then ((0 : Nat) : Int) else M o' k') → (∃ n', ((n' = (256 - (0 : Int)).toNat ∧ t = t ∧ 0 ≤ (0 : Int) ∧ (0 : Int) ≤ 256 ∧ (∀ y : Nat, y < 256 → (nd_b M5 783 y = true ↔ (y : Int) < (0 : Int) ∧ tv M t (y : Int) = 0)) ∧ ∀ o' k' : Nat, o' ≠ 783 → M5 o' k' = M o' k')))) := by
  obtain ⟨⟨gt, gv⟩, gK⟩ := hS
  refine And.intro (by
    first
      | omega
      | exact ⟨by omega, by omega⟩
      | exact ⟨⟨by omega, by omega⟩, by omega, by omega⟩
      | trivial
      | exact nd_li _ _
      | exact Or.inr ⟨ab_land_lr _ _, by decide, by decide⟩
      | exact ⟨⟨by omega, by omega⟩, hv1⟩
      | (split <;> exact ⟨by decide, by decide⟩)) ?_
  intro M5 hM5
  refine ⟨_, rfl, rfl, by decide, by decide, fun y hy => ?_, fun o' k' q => ?_⟩
  · unfold nd_b
    rw [hM5, if_pos ⟨rfl, by omega⟩, pz_lb_n0]
    exact ⟨fun z => (by cases z), fun z => by omega⟩
  · rw [hM5, if_neg (fun z => q z.1)]

set_option maxRecDepth 20000 in
theorem vc_X11_begin_10 (t : Int) (M : ab_M) (K : List ab_V → ab_M → Prop) (hS : ((-1 ≤ t ∧ t ≤ 63) ∧ tv_ok M) ∧ (∀ Mx : ab_M, ((∀ y : Nat, y < 256 → (nd_b Mx 783 y = true ↔ tv M t (y : Int) = 0)) ∧ ∀ o' k' : Nat, o' ≠ 783 → Mx o' k' = M o' k') → K [] Mx)) (n : Nat) (t1 : Int) (k : Int) (M1 : ab_M) (hI : n = (256 - k).toNat ∧ t = t1 ∧ 0 ≤ k ∧ k ≤ 256 ∧ (∀ y : Nat, y < 256 → (nd_b M1 783 y = true ↔ (y : Int) < k ∧ tv M t (y : Int) = 0)) ∧ ∀ o' k' : Nat, o' ≠ 783 → M1 o' k' = M o' k') : (-32768 ≤ (256 : Int) ∧ (256 : Int) < 32768) ∧ (ab_ir k ∧ ab_ir (256 : Int)) ∧ (((256 : Int) ≤ k → K [] M1) ∧ (k < (256 : Int) → (ab_ir (t1 * 256 + k) ∧ tv_ok M1) ∧ (∀ r23 : Int, (r23 = if ¬ tv M1 t1 k = 0 then 1 else 0) → (ab_ir r23) ∧ ((¬ r23 = 0 → (∃ n', n' < n ∧ ((n' = (256 - (k + 1)).toNat ∧ t = t1 ∧ 0 ≤ (k + 1) ∧ (k + 1) ≤ 256 ∧ (∀ y : Nat, y < 256 → (nd_b M1 783 y = true ↔ (y : Int) < (k + 1) ∧ tv M t (y : Int) = 0)) ∧ ∀ o' k' : Nat, o' ≠ 783 → M1 o' k' = M o' k')))) ∧ (r23 = 0 → (-128 ≤ (64 : Int) ∧ (64 : Int) < 128) ∧ (0 ≤ k ∧ k < 2147483648 ∧ 0 < (64 : Int) ∧ (64 : Int) < 2147483648) ∧ (0 ≤ (k / (64 : Int)) ∧ (k / (64 : Int)) < ((4 : Nat) : Int)) ∧ (-128 ≤ (64 : Int) ∧ (64 : Int) < 128) ∧ (0 ≤ k ∧ k < 2147483648 ∧ 0 < (64 : Int) ∧ (64 : Int) < 2147483648) ∧ (0 ≤ (k / (64 : Int)) ∧ (k / (64 : Int)) < ((4 : Nat) : Int)) ∧ (∃ n', n' < n ∧ ((n' = (256 - (k + 1)).toNat ∧ t = t1 ∧ 0 ≤ (k + 1) ∧ (k + 1) ≤ 256 ∧ (∀ y : Nat, y < 256 → (nd_b (ab_up M1 783 ((k / (64 : Int)).toNat) (ab_lor (M1 783 ((k / (64 : Int)).toNat)) (ab_lshl ((1 : Nat) : Int) (k % (64 : Int))))) 783 y = true ↔ (y : Int) < (k + 1) ∧ tv M t (y : Int) = 0)) ∧ ∀ o' k' : Nat, o' ≠ 783 → (ab_up M1 783 ((k / (64 : Int)).toNat) (ab_lor (M1 783 ((k / (64 : Int)).toNat)) (ab_lshl ((1 : Nat) : Int) (k % (64 : Int))))) o' k' = M o' k')))))))) := by
  obtain ⟨hn, q1, hk0, hk1, hI, hf⟩ := hI
  subst q1
  obtain ⟨⟨gt, gv⟩, gK⟩ := hS
  have hv1 := gv.fr fun k => hf 770 k (by decide)
  have htv := tv_fr (fun k => hf 770 k (by decide))
  refine And.intro (by
    first
      | omega
      | exact ⟨by omega, by omega⟩
      | exact ⟨⟨by omega, by omega⟩, by omega, by omega⟩
      | trivial
      | exact nd_li _ _
      | exact Or.inr ⟨ab_land_lr _ _, by decide, by decide⟩
      | exact ⟨⟨by omega, by omega⟩, hv1⟩
      | (split <;> exact ⟨by decide, by decide⟩)) ?_
  refine And.intro (by
    first
      | omega
      | exact ⟨by omega, by omega⟩
      | exact ⟨⟨by omega, by omega⟩, by omega, by omega⟩
      | trivial
      | exact nd_li _ _
      | exact Or.inr ⟨ab_land_lr _ _, by decide, by decide⟩
      | exact ⟨⟨by omega, by omega⟩, hv1⟩
      | (split <;> exact ⟨by decide, by decide⟩)) ?_
  refine ⟨?_, ?_⟩
  · intro c14
    refine gK _ ⟨fun y hy => ?_, hf⟩
    rw [hI y hy]
    exact ⟨fun z => z.2, fun z => ⟨by omega, z⟩⟩
  · intro c14
    refine And.intro (by
      first
        | omega
        | exact ⟨by omega, by omega⟩
        | exact ⟨⟨by omega, by omega⟩, by omega, by omega⟩
        | trivial
        | exact nd_li _ _
        | exact Or.inr ⟨ab_land_lr _ _, by decide, by decide⟩
        | exact ⟨⟨by omega, by omega⟩, hv1⟩
        | (split <;> exact ⟨by decide, by decide⟩)) ?_
    intro r23 hr23
    refine And.intro (by
      first
        | omega
        | exact ⟨by omega, by omega⟩
        | exact ⟨⟨by omega, by omega⟩, by omega, by omega⟩
        | trivial
        | exact nd_li _ _
        | exact Or.inr ⟨ab_land_lr _ _, by decide, by decide⟩
        | exact ⟨⟨by omega, by omega⟩, hv1⟩
        | (split <;> exact ⟨by decide, by decide⟩)) ?_
    refine ⟨?_, ?_⟩
    · intro c26
      rw [hr23] at c26
      rw [ab_bt] at c26
      clear hr23 r23
      rw [htv] at c26
      refine ⟨_, ?_, rfl, rfl, by omega, by omega, fun y hy => ?_, fun o' k' q => ?_⟩
      · omega
      · first
          | (rw [nd_b_set hk0 (by omega) hy, Bool.or_eq_true, hI y hy, decide_eq_true_iff]
             constructor
             · rintro (z | z)
               · exact ⟨by omega, z.2⟩
               · exact ⟨by omega, by rw [z]; first | exact c26 | exact Decidable.not_not.1 c26⟩
             · intro z
               by_cases e : (y : Int) = k
               · exact Or.inr e
               · exact Or.inl ⟨by omega, z.2⟩)
          | (rw [hI y hy]
             constructor
             · exact fun z => ⟨by omega, z.2⟩
             · intro z
               by_cases e : (y : Int) = k
               · rw [e] at z; exact absurd z.2 c26
               · exact ⟨by omega, z.2⟩)
      · first
          | (rw [ab_up_o q]; exact hf o' k' q)
          | exact hf o' k' q
    · intro c26
      rw [hr23] at c26
      rw [ab_bf] at c26
      clear hr23 r23
      refine And.intro (by
        first
          | omega
          | exact ⟨by omega, by omega⟩
          | exact ⟨⟨by omega, by omega⟩, by omega, by omega⟩
          | trivial
          | exact nd_li _ _
          | exact Or.inr ⟨ab_land_lr _ _, by decide, by decide⟩
          | exact ⟨⟨by omega, by omega⟩, hv1⟩
          | (split <;> exact ⟨by decide, by decide⟩)) ?_
      refine And.intro (by
        first
          | omega
          | exact ⟨by omega, by omega⟩
          | exact ⟨⟨by omega, by omega⟩, by omega, by omega⟩
          | trivial
          | exact nd_li _ _
          | exact Or.inr ⟨ab_land_lr _ _, by decide, by decide⟩
          | exact ⟨⟨by omega, by omega⟩, hv1⟩
          | (split <;> exact ⟨by decide, by decide⟩)) ?_
      refine And.intro (by
        first
          | omega
          | exact ⟨by omega, by omega⟩
          | exact ⟨⟨by omega, by omega⟩, by omega, by omega⟩
          | trivial
          | exact nd_li _ _
          | exact Or.inr ⟨ab_land_lr _ _, by decide, by decide⟩
          | exact ⟨⟨by omega, by omega⟩, hv1⟩
          | (split <;> exact ⟨by decide, by decide⟩)) ?_
      refine And.intro (by
        first
          | omega
          | exact ⟨by omega, by omega⟩
          | exact ⟨⟨by omega, by omega⟩, by omega, by omega⟩
          | trivial
          | exact nd_li _ _
          | exact Or.inr ⟨ab_land_lr _ _, by decide, by decide⟩
          | exact ⟨⟨by omega, by omega⟩, hv1⟩
          | (split <;> exact ⟨by decide, by decide⟩)) ?_
      refine And.intro (by
        first
          | omega
          | exact ⟨by omega, by omega⟩
          | exact ⟨⟨by omega, by omega⟩, by omega, by omega⟩
          | trivial
          | exact nd_li _ _
          | exact Or.inr ⟨ab_land_lr _ _, by decide, by decide⟩
          | exact ⟨⟨by omega, by omega⟩, hv1⟩
          | (split <;> exact ⟨by decide, by decide⟩)) ?_
      refine And.intro (by
        first
          | omega
          | exact ⟨by omega, by omega⟩
          | exact ⟨⟨by omega, by omega⟩, by omega, by omega⟩
          | trivial
          | exact nd_li _ _
          | exact Or.inr ⟨ab_land_lr _ _, by decide, by decide⟩
          | exact ⟨⟨by omega, by omega⟩, hv1⟩
          | (split <;> exact ⟨by decide, by decide⟩)) ?_
      rw [htv] at c26
      refine ⟨_, ?_, rfl, rfl, by omega, by omega, fun y hy => ?_, fun o' k' q => ?_⟩
      · omega
      · first
          | (rw [nd_b_set hk0 (by omega) hy, Bool.or_eq_true, hI y hy, decide_eq_true_iff]
             constructor
             · rintro (z | z)
               · exact ⟨by omega, z.2⟩
               · exact ⟨by omega, by rw [z]; first | exact c26 | exact Decidable.not_not.1 c26⟩
             · intro z
               by_cases e : (y : Int) = k
               · exact Or.inr e
               · exact Or.inl ⟨by omega, z.2⟩)
          | (rw [hI y hy]
             constructor
             · exact fun z => ⟨by omega, z.2⟩
             · intro z
               by_cases e : (y : Int) = k
               · rw [e] at z; exact absurd z.2 c26
               · exact ⟨by omega, z.2⟩)
      · first
          | (rw [ab_up_o q]; exact hf o' k' q)
          | exact hf o' k' q

set_option maxRecDepth 20000 in
set_option maxHeartbeats 1000000 in
theorem ok_X11_begin (E : ab_E) : ab_Ok E 2 200 S_X11_begin := by
  refine ab_mk rq_X11_begin tk_X11_begin (rt := 0) (rfl) (cuts := [10]) (G := [(220, S_J7_fill_d0a16), (75, S_X7_isTrue)]) (List.forall_mem_cons.mpr ⟨⟨1, by decide, ok_J7_fill_d0a16 E⟩, List.forall_mem_cons.mpr ⟨⟨1, by decide, ok_X7_isTrue E⟩, fun _ h => absurd h List.not_mem_nil⟩⟩) (by decide) 82 rfl ?_
  intro a M K wd wa hS
  unfold S_X11_begin at hS
  split at hS
  ·
    rename_i t
    refine ⟨Nat.le_of_ble_eq_true rfl, fun pc n L st M1 => match pc, L, st with
      | 10, [.inr (.inr (.inr (781, 11, 0))), .inr (.inl t1), .inr (.inl k)], [] => (n = (256 - k).toNat ∧ t = t1 ∧ 0 ≤ k ∧ k ≤ 256 ∧ (∀ y : Nat, y < 256 → (nd_b M1 783 y = true ↔ (y : Int) < k ∧ tv M t (y : Int) = 0)) ∧ ∀ o' k' : Nat, o' ≠ 783 → M1 o' k' = M o' k')
      | _, _, _ => False, ?_, ?_⟩
    · exact vc_X11_begin_0 t M K  hS
    · intro pc n L st M1 hI wd1 wL wst
      (try dsimp only at hI)
      split at hI
      ·
        rename_i t1 k
        exact vc_X11_begin_10 t M K  hS n t1 k _ hI
      · exact hI.elim
  · exact hS.elim
def S_X11_isRoundRemoving : ab_PT := fun a M K => match a with
  | [.inr (.inr (.inr (781, 11, 0)))] => (True) ∧ (∀ rx : Int, ∀ Mx : ab_M, (nd_R M Mx rx) → K [Xi rx] Mx)
  | _ => False
set_option maxRecDepth 20000 in
theorem vc_X11_isRoundRemoving_0  (M : ab_M) (K : List ab_V → ab_M → Prop) (hS : (True) ∧ (∀ rx : Int, ∀ Mx : ab_M, (nd_R M Mx rx) → K [Xi rx] Mx)) : (4 ≤ 65536) ∧ (∀ M5 : ab_M, (∀ o' k' : Nat, M5 o' k' = if o' = 784 ∧ k' < 4 then ((0 : Nat) : Int) else M o' k') → (∃ n', ((n' = 1000 + (256 - (0 : Int)).toNat ∧ 0 ≤ (0 : Int) ∧ (0 : Int) ≤ 256 ∧ (∀ y : Nat, y < 256 → (nd_b M5 784 y = true ↔ (y : Int) < (0 : Int) ∧ nd_c M y = true)) ∧ ∀ o' k' : Nat, o' ≠ 784 → M5 o' k' = M o' k')))) := by
  obtain ⟨-, gK⟩ := hS
  refine And.intro (by
    first
      | omega
      | exact ⟨by omega, by omega⟩
      | exact ⟨⟨by omega, by omega⟩, by omega, by omega⟩
      | trivial
      | exact nd_li _ _
      | exact Or.inr ⟨ab_land_lr _ _, by decide, by decide⟩
      | (split <;> exact ⟨by decide, by decide⟩)
      | exact hso
      | exact Or.inl rfl
      | exact Or.inr rfl) ?_
  intro M5 hM5
  refine ⟨_, rfl, by decide, by decide, fun y hy => ?_, fun o' k' q => ?_⟩
  · unfold nd_b
    rw [hM5, if_pos ⟨rfl, by omega⟩, pz_lb_n0]
    exact ⟨fun z => (by cases z), fun z => by omega⟩
  · rw [hM5, if_neg (fun z => q z.1)]

set_option maxRecDepth 20000 in
theorem vc_X11_isRoundRemoving_10  (M : ab_M) (K : List ab_V → ab_M → Prop) (hS : (True) ∧ (∀ rx : Int, ∀ Mx : ab_M, (nd_R M Mx rx) → K [Xi rx] Mx)) (n : Nat) (k : Int) (M1 : ab_M) (hI : n = 1000 + (256 - k).toNat ∧ 0 ≤ k ∧ k ≤ 256 ∧ (∀ y : Nat, y < 256 → (nd_b M1 784 y = true ↔ (y : Int) < k ∧ nd_c M y = true)) ∧ ∀ o' k' : Nat, o' ≠ 784 → M1 o' k' = M o' k') : (-32768 ≤ (256 : Int) ∧ (256 : Int) < 32768) ∧ (ab_ir k ∧ ab_ir (256 : Int)) ∧ (((256 : Int) ≤ k → (∃ n', n' < n ∧ ((n' = (4 - (0 : Int)).toNat ∧ 0 ≤ (0 : Int) ∧ (0 : Int) ≤ 4 ∧ ((0 : Int) = 0 ∨ (0 : Int) = 1) ∧ ((0 : Int) = 1 ↔ ∃ y : Nat, y < 256 ∧ ((y / 64 : Nat) : Int) < (0 : Int) ∧ nd_c M y = true ∧ ¬ nd_b M 783 y = true) ∧ (∀ y : Nat, y < 256 → (nd_b M1 784 y = true ↔ nd_c M y = true)) ∧ (∀ y : Nat, y < 256 → (nd_b M1 783 y = true ↔ nd_b M 783 y = true ∨ (((y / 64 : Nat) : Int) < (0 : Int) ∧ nd_c M y = true))) ∧ ∀ o' k' : Nat, o' ≠ 783 → o' ≠ 784 → M1 o' k' = M o' k')))) ∧ (k < (256 : Int) → (0 ≤ k ∧ k ≤ 255) ∧ (∀ r19 : Int, (r19 = if nd_c M1 k.toNat = true then 1 else 0) → (ab_ir r19) ∧ ((r19 = 0 → (∃ n', n' < n ∧ ((n' = 1000 + (256 - (k + 1)).toNat ∧ 0 ≤ (k + 1) ∧ (k + 1) ≤ 256 ∧ (∀ y : Nat, y < 256 → (nd_b M1 784 y = true ↔ (y : Int) < (k + 1) ∧ nd_c M y = true)) ∧ ∀ o' k' : Nat, o' ≠ 784 → M1 o' k' = M o' k')))) ∧ (¬ r19 = 0 → (-128 ≤ (64 : Int) ∧ (64 : Int) < 128) ∧ (0 ≤ k ∧ k < 2147483648 ∧ 0 < (64 : Int) ∧ (64 : Int) < 2147483648) ∧ (0 ≤ (k / (64 : Int)) ∧ (k / (64 : Int)) < ((4 : Nat) : Int)) ∧ (-128 ≤ (64 : Int) ∧ (64 : Int) < 128) ∧ (0 ≤ k ∧ k < 2147483648 ∧ 0 < (64 : Int) ∧ (64 : Int) < 2147483648) ∧ (0 ≤ (k / (64 : Int)) ∧ (k / (64 : Int)) < ((4 : Nat) : Int)) ∧ (∃ n', n' < n ∧ ((n' = 1000 + (256 - (k + 1)).toNat ∧ 0 ≤ (k + 1) ∧ (k + 1) ≤ 256 ∧ (∀ y : Nat, y < 256 → (nd_b (ab_up M1 784 ((k / (64 : Int)).toNat) (ab_lor (M1 784 ((k / (64 : Int)).toNat)) (ab_lshl ((1 : Nat) : Int) (k % (64 : Int))))) 784 y = true ↔ (y : Int) < (k + 1) ∧ nd_c M y = true)) ∧ ∀ o' k' : Nat, o' ≠ 784 → (ab_up M1 784 ((k / (64 : Int)).toNat) (ab_lor (M1 784 ((k / (64 : Int)).toNat)) (ab_lshl ((1 : Nat) : Int) (k % (64 : Int))))) o' k' = M o' k')))))))) := by
  obtain ⟨hn, hk0, hk1, hI, hf⟩ := hI
  obtain ⟨-, gK⟩ := hS
  have hc := nd_c_fr (fun k => hf 782 k (by decide)) (fun k => hf 783 k (by decide))
  refine And.intro (by
    first
      | omega
      | exact ⟨by omega, by omega⟩
      | exact ⟨⟨by omega, by omega⟩, by omega, by omega⟩
      | trivial
      | exact nd_li _ _
      | exact Or.inr ⟨ab_land_lr _ _, by decide, by decide⟩
      | (split <;> exact ⟨by decide, by decide⟩)
      | exact hso
      | exact Or.inl rfl
      | exact Or.inr rfl) ?_
  refine And.intro (by
    first
      | omega
      | exact ⟨by omega, by omega⟩
      | exact ⟨⟨by omega, by omega⟩, by omega, by omega⟩
      | trivial
      | exact nd_li _ _
      | exact Or.inr ⟨ab_land_lr _ _, by decide, by decide⟩
      | (split <;> exact ⟨by decide, by decide⟩)
      | exact hso
      | exact Or.inl rfl
      | exact Or.inr rfl) ?_
  refine ⟨?_, ?_⟩
  · intro c14
    refine ⟨_, ?_, rfl, by decide, by decide, Or.inl rfl, ⟨fun z => by omega, fun ⟨y, _, z, _⟩ => by omega⟩, fun y hy => ?_, fun y hy => ?_, fun o' k' _ q => hf o' k' q⟩
    · omega
    · rw [hI y hy]
      exact ⟨fun z => z.2, fun z => ⟨by omega, z⟩⟩
    · unfold nd_b
      rw [hf 783 _ (by decide)]
      exact ⟨Or.inl, fun z => z.elim id fun z => by omega⟩
  · intro c14
    refine And.intro (by
      first
        | omega
        | exact ⟨by omega, by omega⟩
        | exact ⟨⟨by omega, by omega⟩, by omega, by omega⟩
        | trivial
        | exact nd_li _ _
        | exact Or.inr ⟨ab_land_lr _ _, by decide, by decide⟩
        | (split <;> exact ⟨by decide, by decide⟩)
        | exact hso
        | exact Or.inl rfl
        | exact Or.inr rfl) ?_
    intro r19 hr19
    refine And.intro (by
      first
        | omega
        | exact ⟨by omega, by omega⟩
        | exact ⟨⟨by omega, by omega⟩, by omega, by omega⟩
        | trivial
        | exact nd_li _ _
        | exact Or.inr ⟨ab_land_lr _ _, by decide, by decide⟩
        | (split <;> exact ⟨by decide, by decide⟩)
        | exact hso
        | exact Or.inl rfl
        | exact Or.inr rfl) ?_
    refine ⟨?_, ?_⟩
    · intro c22
      rw [hr19] at c22
      rw [ab_bf] at c22
      clear hr19 r19
      rw [hc] at c22
      refine ⟨_, ?_, rfl, by omega, by omega, fun y hy => ?_, fun o' k' q => ?_⟩
      · omega
      · first
          | (rw [nd_b_set hk0 (by omega) hy, Bool.or_eq_true, hI y hy, decide_eq_true_iff]
             constructor
             · rintro (z | z)
               · exact ⟨by omega, z.2⟩
               · exact ⟨by omega, by rw [show y = k.toNat by omega]; exact c22⟩
             · intro z
               by_cases e : (y : Int) = k
               · exact Or.inr e
               · exact Or.inl ⟨by omega, z.2⟩)
          | (rw [hI y hy]
             constructor
             · exact fun z => ⟨by omega, z.2⟩
             · intro z
               by_cases e : (y : Int) = k
               · rw [show y = k.toNat by omega] at z; exact absurd z.2 c22
               · exact ⟨by omega, z.2⟩)
      · first
          | (rw [ab_up_o q]; exact hf o' k' q)
          | exact hf o' k' q
    · intro c22
      rw [hr19] at c22
      rw [ab_bt] at c22
      clear hr19 r19
      refine And.intro (by
        first
          | omega
          | exact ⟨by omega, by omega⟩
          | exact ⟨⟨by omega, by omega⟩, by omega, by omega⟩
          | trivial
          | exact nd_li _ _
          | exact Or.inr ⟨ab_land_lr _ _, by decide, by decide⟩
          | (split <;> exact ⟨by decide, by decide⟩)
          | exact hso
          | exact Or.inl rfl
          | exact Or.inr rfl) ?_
      refine And.intro (by
        first
          | omega
          | exact ⟨by omega, by omega⟩
          | exact ⟨⟨by omega, by omega⟩, by omega, by omega⟩
          | trivial
          | exact nd_li _ _
          | exact Or.inr ⟨ab_land_lr _ _, by decide, by decide⟩
          | (split <;> exact ⟨by decide, by decide⟩)
          | exact hso
          | exact Or.inl rfl
          | exact Or.inr rfl) ?_
      refine And.intro (by
        first
          | omega
          | exact ⟨by omega, by omega⟩
          | exact ⟨⟨by omega, by omega⟩, by omega, by omega⟩
          | trivial
          | exact nd_li _ _
          | exact Or.inr ⟨ab_land_lr _ _, by decide, by decide⟩
          | (split <;> exact ⟨by decide, by decide⟩)
          | exact hso
          | exact Or.inl rfl
          | exact Or.inr rfl) ?_
      refine And.intro (by
        first
          | omega
          | exact ⟨by omega, by omega⟩
          | exact ⟨⟨by omega, by omega⟩, by omega, by omega⟩
          | trivial
          | exact nd_li _ _
          | exact Or.inr ⟨ab_land_lr _ _, by decide, by decide⟩
          | (split <;> exact ⟨by decide, by decide⟩)
          | exact hso
          | exact Or.inl rfl
          | exact Or.inr rfl) ?_
      refine And.intro (by
        first
          | omega
          | exact ⟨by omega, by omega⟩
          | exact ⟨⟨by omega, by omega⟩, by omega, by omega⟩
          | trivial
          | exact nd_li _ _
          | exact Or.inr ⟨ab_land_lr _ _, by decide, by decide⟩
          | (split <;> exact ⟨by decide, by decide⟩)
          | exact hso
          | exact Or.inl rfl
          | exact Or.inr rfl) ?_
      refine And.intro (by
        first
          | omega
          | exact ⟨by omega, by omega⟩
          | exact ⟨⟨by omega, by omega⟩, by omega, by omega⟩
          | trivial
          | exact nd_li _ _
          | exact Or.inr ⟨ab_land_lr _ _, by decide, by decide⟩
          | (split <;> exact ⟨by decide, by decide⟩)
          | exact hso
          | exact Or.inl rfl
          | exact Or.inr rfl) ?_
      rw [hc] at c22
      refine ⟨_, ?_, rfl, by omega, by omega, fun y hy => ?_, fun o' k' q => ?_⟩
      · omega
      · first
          | (rw [nd_b_set hk0 (by omega) hy, Bool.or_eq_true, hI y hy, decide_eq_true_iff]
             constructor
             · rintro (z | z)
               · exact ⟨by omega, z.2⟩
               · exact ⟨by omega, by rw [show y = k.toNat by omega]; exact c22⟩
             · intro z
               by_cases e : (y : Int) = k
               · exact Or.inr e
               · exact Or.inl ⟨by omega, z.2⟩)
          | (rw [hI y hy]
             constructor
             · exact fun z => ⟨by omega, z.2⟩
             · intro z
               by_cases e : (y : Int) = k
               · rw [show y = k.toNat by omega] at z; exact absurd z.2 c22
               · exact ⟨by omega, z.2⟩)
      · first
          | (rw [ab_up_o q]; exact hf o' k' q)
          | exact hf o' k' q

set_option maxRecDepth 20000 in
theorem vc_X11_isRoundRemoving_53  (M : ab_M) (K : List ab_V → ab_M → Prop) (hS : (True) ∧ (∀ rx : Int, ∀ Mx : ab_M, (nd_R M Mx rx) → K [Xi rx] Mx)) (n : Nat) (so : Int) (w : Int) (M1 : ab_M) (hI : n = (4 - w).toNat ∧ 0 ≤ w ∧ w ≤ 4 ∧ (so = 0 ∨ so = 1) ∧ (so = 1 ↔ ∃ y : Nat, y < 256 ∧ ((y / 64 : Nat) : Int) < w ∧ nd_c M y = true ∧ ¬ nd_b M 783 y = true) ∧ (∀ y : Nat, y < 256 → (nd_b M1 784 y = true ↔ nd_c M y = true)) ∧ (∀ y : Nat, y < 256 → (nd_b M1 783 y = true ↔ nd_b M 783 y = true ∨ (((y / 64 : Nat) : Int) < w ∧ nd_c M y = true))) ∧ ∀ o' k' : Nat, o' ≠ 783 → o' ≠ 784 → M1 o' k' = M o' k') : (ab_ir w ∧ ab_ir (4 : Int)) ∧ (((4 : Int) ≤ w → (so = 0 ∨ so = 1) ∧ K [Xi so] M1) ∧ (w < (4 : Int) → (ab_ir so) ∧ ((¬ so = 0 → (0 ≤ w ∧ w < ((4 : Nat) : Int)) ∧ (0 ≤ w ∧ w < ((4 : Nat) : Int)) ∧ (0 ≤ w ∧ w < ((4 : Nat) : Int)) ∧ (∃ n', n' < n ∧ ((n' = (4 - (w + 1)).toNat ∧ 0 ≤ (w + 1) ∧ (w + 1) ≤ 4 ∧ ((1 : Int) = 0 ∨ (1 : Int) = 1) ∧ ((1 : Int) = 1 ↔ ∃ y : Nat, y < 256 ∧ ((y / 64 : Nat) : Int) < (w + 1) ∧ nd_c M y = true ∧ ¬ nd_b M 783 y = true) ∧ (∀ y : Nat, y < 256 → (nd_b (ab_up M1 783 w.toNat (ab_lor (M1 783 w.toNat) (M1 784 w.toNat))) 784 y = true ↔ nd_c M y = true)) ∧ (∀ y : Nat, y < 256 → (nd_b (ab_up M1 783 w.toNat (ab_lor (M1 783 w.toNat) (M1 784 w.toNat))) 783 y = true ↔ nd_b M 783 y = true ∨ (((y / 64 : Nat) : Int) < (w + 1) ∧ nd_c M y = true))) ∧ ∀ o' k' : Nat, o' ≠ 783 → o' ≠ 784 → (ab_up M1 783 w.toNat (ab_lor (M1 783 w.toNat) (M1 784 w.toNat))) o' k' = M o' k')))) ∧ (so = 0 → (0 ≤ w ∧ w < ((4 : Nat) : Int)) ∧ (0 ≤ w ∧ w < ((4 : Nat) : Int)) ∧ ((ab_land (M1 784 w.toNat) (ab_lxor (M1 783 w.toNat) (-1 : Int))) = ((0 : Nat) : Int) ∨ (ab_lr (ab_land (M1 784 w.toNat) (ab_lxor (M1 783 w.toNat) (-1 : Int))) ∧ ab_lr ((0 : Nat) : Int))) ∧ (ab_ir (if ((0 : Nat) : Int) < (ab_land (M1 784 w.toNat) (ab_lxor (M1 783 w.toNat) (-1 : Int))) then 1 else if (ab_land (M1 784 w.toNat) (ab_lxor (M1 783 w.toNat) (-1 : Int))) = ((0 : Nat) : Int) then 0 else -1 : Int)) ∧ (((if ((0 : Nat) : Int) < (ab_land (M1 784 w.toNat) (ab_lxor (M1 783 w.toNat) (-1 : Int))) then 1 else if (ab_land (M1 784 w.toNat) (ab_lxor (M1 783 w.toNat) (-1 : Int))) = ((0 : Nat) : Int) then 0 else -1 : Int) = 0 → (0 ≤ w ∧ w < ((4 : Nat) : Int)) ∧ (0 ≤ w ∧ w < ((4 : Nat) : Int)) ∧ (0 ≤ w ∧ w < ((4 : Nat) : Int)) ∧ (∃ n', n' < n ∧ ((n' = (4 - (w + 1)).toNat ∧ 0 ≤ (w + 1) ∧ (w + 1) ≤ 4 ∧ ((0 : Int) = 0 ∨ (0 : Int) = 1) ∧ ((0 : Int) = 1 ↔ ∃ y : Nat, y < 256 ∧ ((y / 64 : Nat) : Int) < (w + 1) ∧ nd_c M y = true ∧ ¬ nd_b M 783 y = true) ∧ (∀ y : Nat, y < 256 → (nd_b (ab_up M1 783 w.toNat (ab_lor (M1 783 w.toNat) (M1 784 w.toNat))) 784 y = true ↔ nd_c M y = true)) ∧ (∀ y : Nat, y < 256 → (nd_b (ab_up M1 783 w.toNat (ab_lor (M1 783 w.toNat) (M1 784 w.toNat))) 783 y = true ↔ nd_b M 783 y = true ∨ (((y / 64 : Nat) : Int) < (w + 1) ∧ nd_c M y = true))) ∧ ∀ o' k' : Nat, o' ≠ 783 → o' ≠ 784 → (ab_up M1 783 w.toNat (ab_lor (M1 783 w.toNat) (M1 784 w.toNat))) o' k' = M o' k')))) ∧ (¬ (if ((0 : Nat) : Int) < (ab_land (M1 784 w.toNat) (ab_lxor (M1 783 w.toNat) (-1 : Int))) then 1 else if (ab_land (M1 784 w.toNat) (ab_lxor (M1 783 w.toNat) (-1 : Int))) = ((0 : Nat) : Int) then 0 else -1 : Int) = 0 → (0 ≤ w ∧ w < ((4 : Nat) : Int)) ∧ (0 ≤ w ∧ w < ((4 : Nat) : Int)) ∧ (0 ≤ w ∧ w < ((4 : Nat) : Int)) ∧ (∃ n', n' < n ∧ ((n' = (4 - (w + 1)).toNat ∧ 0 ≤ (w + 1) ∧ (w + 1) ≤ 4 ∧ ((1 : Int) = 0 ∨ (1 : Int) = 1) ∧ ((1 : Int) = 1 ↔ ∃ y : Nat, y < 256 ∧ ((y / 64 : Nat) : Int) < (w + 1) ∧ nd_c M y = true ∧ ¬ nd_b M 783 y = true) ∧ (∀ y : Nat, y < 256 → (nd_b (ab_up M1 783 w.toNat (ab_lor (M1 783 w.toNat) (M1 784 w.toNat))) 784 y = true ↔ nd_c M y = true)) ∧ (∀ y : Nat, y < 256 → (nd_b (ab_up M1 783 w.toNat (ab_lor (M1 783 w.toNat) (M1 784 w.toNat))) 783 y = true ↔ nd_b M 783 y = true ∨ (((y / 64 : Nat) : Int) < (w + 1) ∧ nd_c M y = true))) ∧ ∀ o' k' : Nat, o' ≠ 783 → o' ≠ 784 → (ab_up M1 783 w.toNat (ab_lor (M1 783 w.toNat) (M1 784 w.toNat))) o' k' = M o' k'))))))))) := by
  obtain ⟨hn, hw0, hw1, hso, hX, h4, h3, hf⟩ := hI
  obtain ⟨-, gK⟩ := hS
  have hz : w < 4 → (ab_land (M1 784 w.toNat) (ab_lxor (M1 783 w.toNat) (-1)) = ((0 : Nat) : Int) ↔ ∀ y, y < 256 → y / 64 = w.toNat → ¬ (nd_b M1 784 y = true ∧ ¬ nd_b M1 783 y = true)) := fun q => nd_w1 M1 w.toNat (by omega)
  have hor : ∀ y : Nat, y < 256 → w < 4 → (nd_b (ab_up M1 783 w.toNat (ab_lor (M1 783 w.toNat) (M1 784 w.toNat))) 783 y = true ↔ nd_b M 783 y = true ∨ (((y / 64 : Nat) : Int) < w + 1 ∧ nd_c M y = true)) := fun y hy q => by
    rw [nd_b_or]
    by_cases e : y / 64 = w.toNat
    · rw [if_pos e, Bool.or_eq_true, h3 y hy, h4 y hy]
      constructor
      · rintro ((z | z) | z)
        · exact Or.inl z
        · exact Or.inr ⟨by omega, z.2⟩
        · exact Or.inr ⟨by omega, z⟩
      · rintro (z | z)
        · exact Or.inl (Or.inl z)
        · exact Or.inr z.2
    · rw [if_neg e, h3 y hy]
      constructor
      · rintro (z | z)
        · exact Or.inl z
        · exact Or.inr ⟨by omega, z.2⟩
      · rintro (z | z)
        · exact Or.inl z
        · exact Or.inr ⟨by omega, z.2⟩
  have h3w : ∀ y : Nat, y < 256 → y / 64 = w.toNat → (nd_b M1 783 y = true ↔ nd_b M 783 y = true) := fun y hy e => by
    rw [h3 y hy]
    exact ⟨fun z => z.elim id fun z => by omega, Or.inl⟩
  refine And.intro (by
    first
      | omega
      | exact ⟨by omega, by omega⟩
      | exact ⟨⟨by omega, by omega⟩, by omega, by omega⟩
      | trivial
      | exact nd_li _ _
      | exact Or.inr ⟨ab_land_lr _ _, by decide, by decide⟩
      | (split <;> exact ⟨by decide, by decide⟩)
      | exact hso
      | exact Or.inl rfl
      | exact Or.inr rfl) ?_
  refine ⟨?_, ?_⟩
  · intro c55
    refine And.intro (by
      first
        | omega
        | exact ⟨by omega, by omega⟩
        | exact ⟨⟨by omega, by omega⟩, by omega, by omega⟩
        | trivial
        | exact nd_li _ _
        | exact Or.inr ⟨ab_land_lr _ _, by decide, by decide⟩
        | (split <;> exact ⟨by decide, by decide⟩)
        | exact hso
        | exact Or.inl rfl
        | exact Or.inr rfl) ?_
    refine gK _ _ ⟨hso, ?_, fun y hy => ?_, hf⟩
    · rw [hX]
      exact ⟨fun ⟨y, y1, _, y2⟩ => ⟨y, y1, y2⟩, fun ⟨y, y1, y2⟩ => ⟨y, y1, by omega, y2⟩⟩
    · rw [h3 y hy]
      exact ⟨fun z => z.imp id fun z => z.2, fun z => z.imp id fun z => ⟨by omega, z⟩⟩
  · intro c55
    refine And.intro (by
      first
        | omega
        | exact ⟨by omega, by omega⟩
        | exact ⟨⟨by omega, by omega⟩, by omega, by omega⟩
        | trivial
        | exact nd_li _ _
        | exact Or.inr ⟨ab_land_lr _ _, by decide, by decide⟩
        | (split <;> exact ⟨by decide, by decide⟩)
        | exact hso
        | exact Or.inl rfl
        | exact Or.inr rfl) ?_
    refine ⟨?_, ?_⟩
    · intro c59
      refine And.intro (by
        first
          | omega
          | exact ⟨by omega, by omega⟩
          | exact ⟨⟨by omega, by omega⟩, by omega, by omega⟩
          | trivial
          | exact nd_li _ _
          | exact Or.inr ⟨ab_land_lr _ _, by decide, by decide⟩
          | (split <;> exact ⟨by decide, by decide⟩)
          | exact hso
          | exact Or.inl rfl
          | exact Or.inr rfl) ?_
      refine And.intro (by
        first
          | omega
          | exact ⟨by omega, by omega⟩
          | exact ⟨⟨by omega, by omega⟩, by omega, by omega⟩
          | trivial
          | exact nd_li _ _
          | exact Or.inr ⟨ab_land_lr _ _, by decide, by decide⟩
          | (split <;> exact ⟨by decide, by decide⟩)
          | exact hso
          | exact Or.inl rfl
          | exact Or.inr rfl) ?_
      refine And.intro (by
        first
          | omega
          | exact ⟨by omega, by omega⟩
          | exact ⟨⟨by omega, by omega⟩, by omega, by omega⟩
          | trivial
          | exact nd_li _ _
          | exact Or.inr ⟨ab_land_lr _ _, by decide, by decide⟩
          | (split <;> exact ⟨by decide, by decide⟩)
          | exact hso
          | exact Or.inl rfl
          | exact Or.inr rfl) ?_
      have hone : (1 : Int) = 1 ↔ ∃ y : Nat, y < 256 ∧ ((y / 64 : Nat) : Int) < w + 1 ∧ nd_c M y = true ∧ ¬ nd_b M 783 y = true := by
        refine ⟨fun _ => ?_, fun _ => rfl⟩
        obtain ⟨y, y1, y2, y3⟩ := hX.1 (by omega)
        exact ⟨y, y1, by omega, y3⟩
      refine ⟨_, ?_, rfl, by omega, by omega, Or.inr rfl, hone, fun y hy => ?_, fun y hy => hor y hy (by omega), fun o' k' a b => ?_⟩
      · clear hone hX
        omega
      · unfold nd_b
        rw [ab_up_o (by decide)]
        exact h4 y hy
      · rw [ab_up_o a]; exact hf o' k' a b
    · intro c59
      refine And.intro (by
        first
          | omega
          | exact ⟨by omega, by omega⟩
          | exact ⟨⟨by omega, by omega⟩, by omega, by omega⟩
          | trivial
          | exact nd_li _ _
          | exact Or.inr ⟨ab_land_lr _ _, by decide, by decide⟩
          | (split <;> exact ⟨by decide, by decide⟩)
          | exact hso
          | exact Or.inl rfl
          | exact Or.inr rfl) ?_
      refine And.intro (by
        first
          | omega
          | exact ⟨by omega, by omega⟩
          | exact ⟨⟨by omega, by omega⟩, by omega, by omega⟩
          | trivial
          | exact nd_li _ _
          | exact Or.inr ⟨ab_land_lr _ _, by decide, by decide⟩
          | (split <;> exact ⟨by decide, by decide⟩)
          | exact hso
          | exact Or.inl rfl
          | exact Or.inr rfl) ?_
      refine And.intro (by
        first
          | omega
          | exact ⟨by omega, by omega⟩
          | exact ⟨⟨by omega, by omega⟩, by omega, by omega⟩
          | trivial
          | exact nd_li _ _
          | exact Or.inr ⟨ab_land_lr _ _, by decide, by decide⟩
          | (split <;> exact ⟨by decide, by decide⟩)
          | exact hso
          | exact Or.inl rfl
          | exact Or.inr rfl) ?_
      refine And.intro (by
        first
          | omega
          | exact ⟨by omega, by omega⟩
          | exact ⟨⟨by omega, by omega⟩, by omega, by omega⟩
          | trivial
          | exact nd_li _ _
          | exact Or.inr ⟨ab_land_lr _ _, by decide, by decide⟩
          | (split <;> exact ⟨by decide, by decide⟩)
          | exact hso
          | exact Or.inl rfl
          | exact Or.inr rfl) ?_
      refine ⟨?_, ?_⟩
      · intro c81
        refine And.intro (by
          first
            | omega
            | exact ⟨by omega, by omega⟩
            | exact ⟨⟨by omega, by omega⟩, by omega, by omega⟩
            | trivial
            | exact nd_li _ _
            | exact Or.inr ⟨ab_land_lr _ _, by decide, by decide⟩
            | (split <;> exact ⟨by decide, by decide⟩)
            | exact hso
            | exact Or.inl rfl
            | exact Or.inr rfl) ?_
        refine And.intro (by
          first
            | omega
            | exact ⟨by omega, by omega⟩
            | exact ⟨⟨by omega, by omega⟩, by omega, by omega⟩
            | trivial
            | exact nd_li _ _
            | exact Or.inr ⟨ab_land_lr _ _, by decide, by decide⟩
            | (split <;> exact ⟨by decide, by decide⟩)
            | exact hso
            | exact Or.inl rfl
            | exact Or.inr rfl) ?_
        refine And.intro (by
          first
            | omega
            | exact ⟨by omega, by omega⟩
            | exact ⟨⟨by omega, by omega⟩, by omega, by omega⟩
            | trivial
            | exact nd_li _ _
            | exact Or.inr ⟨ab_land_lr _ _, by decide, by decide⟩
            | (split <;> exact ⟨by decide, by decide⟩)
            | exact hso
            | exact Or.inl rfl
            | exact Or.inr rfl) ?_
        rw [nd_lc] at c81
        have hzz := (hz (by omega)).1 c81
        have hone : (0 : Int) = 1 ↔ ∃ y : Nat, y < 256 ∧ ((y / 64 : Nat) : Int) < w + 1 ∧ nd_c M y = true ∧ ¬ nd_b M 783 y = true := by
          refine ⟨fun z => by omega, fun ⟨y, y1, y2, y3, y4⟩ => ?_⟩
          by_cases e : y / 64 = w.toNat
          · exact absurd ⟨(h4 y y1).2 y3, fun z => y4 ((h3w y y1 e).1 z)⟩ (hzz y y1 e)
          · have := hX.2 ⟨y, y1, by omega, y3, y4⟩
            omega
        refine ⟨_, ?_, rfl, by omega, by omega, Or.inl rfl, hone, fun y hy => ?_, fun y hy => hor y hy (by omega), fun o' k' a b => ?_⟩
        · clear hone hX
          omega
        · unfold nd_b
          rw [ab_up_o (by decide)]
          exact h4 y hy
        · rw [ab_up_o a]; exact hf o' k' a b
      · intro c81
        refine And.intro (by
          first
            | omega
            | exact ⟨by omega, by omega⟩
            | exact ⟨⟨by omega, by omega⟩, by omega, by omega⟩
            | trivial
            | exact nd_li _ _
            | exact Or.inr ⟨ab_land_lr _ _, by decide, by decide⟩
            | (split <;> exact ⟨by decide, by decide⟩)
            | exact hso
            | exact Or.inl rfl
            | exact Or.inr rfl) ?_
        refine And.intro (by
          first
            | omega
            | exact ⟨by omega, by omega⟩
            | exact ⟨⟨by omega, by omega⟩, by omega, by omega⟩
            | trivial
            | exact nd_li _ _
            | exact Or.inr ⟨ab_land_lr _ _, by decide, by decide⟩
            | (split <;> exact ⟨by decide, by decide⟩)
            | exact hso
            | exact Or.inl rfl
            | exact Or.inr rfl) ?_
        refine And.intro (by
          first
            | omega
            | exact ⟨by omega, by omega⟩
            | exact ⟨⟨by omega, by omega⟩, by omega, by omega⟩
            | trivial
            | exact nd_li _ _
            | exact Or.inr ⟨ab_land_lr _ _, by decide, by decide⟩
            | (split <;> exact ⟨by decide, by decide⟩)
            | exact hso
            | exact Or.inl rfl
            | exact Or.inr rfl) ?_
        rw [nd_lc] at c81
        have hone : (1 : Int) = 1 ↔ ∃ y : Nat, y < 256 ∧ ((y / 64 : Nat) : Int) < w + 1 ∧ nd_c M y = true ∧ ¬ nd_b M 783 y = true := by
          refine ⟨fun _ => Classical.byContradiction fun z => c81 ((hz (by omega)).2 fun y y1 e q => z ⟨y, y1, by omega, (h4 y y1).1 q.1, fun u => q.2 ((h3w y y1 e).2 u)⟩), fun _ => rfl⟩
        refine ⟨_, ?_, rfl, by omega, by omega, Or.inr rfl, hone, fun y hy => ?_, fun y hy => hor y hy (by omega), fun o' k' a b => ?_⟩
        · clear hone hX
          omega
        · unfold nd_b
          rw [ab_up_o (by decide)]
          exact h4 y hy
        · rw [ab_up_o a]; exact hf o' k' a b

set_option maxRecDepth 20000 in
set_option maxHeartbeats 1000000 in
theorem ok_X11_isRoundRemoving (E : ab_E) : ab_Ok E 2 202 S_X11_isRoundRemoving := by
  refine ab_mk rq_X11_isRoundRemoving tk_X11_isRoundRemoving (rt := 2) (rfl) (cuts := [10, 53]) (G := [(220, S_J7_fill_d0a16), (201, S_X11_canLeave)]) (List.forall_mem_cons.mpr ⟨⟨1, by decide, ok_J7_fill_d0a16 E⟩, List.forall_mem_cons.mpr ⟨⟨1, by decide, ok_X11_canLeave E⟩, fun _ h => absurd h List.not_mem_nil⟩⟩) (by decide) 121 rfl ?_
  intro a M K wd wa hS
  unfold S_X11_isRoundRemoving at hS
  split at hS
  ·
    refine ⟨Nat.le_of_ble_eq_true rfl, fun pc n L st M1 => match pc, L, st with
      | 10, [.inr (.inr (.inr (781, 11, 0))), .inr (.inl k), u3_], [] => (n = 1000 + (256 - k).toNat ∧ 0 ≤ k ∧ k ≤ 256 ∧ (∀ y : Nat, y < 256 → (nd_b M1 784 y = true ↔ (y : Int) < k ∧ nd_c M y = true)) ∧ ∀ o' k' : Nat, o' ≠ 784 → M1 o' k' = M o' k')
      | 53, [.inr (.inr (.inr (781, 11, 0))), .inr (.inl so), .inr (.inl w)], [] => (n = (4 - w).toNat ∧ 0 ≤ w ∧ w ≤ 4 ∧ (so = 0 ∨ so = 1) ∧ (so = 1 ↔ ∃ y : Nat, y < 256 ∧ ((y / 64 : Nat) : Int) < w ∧ nd_c M y = true ∧ ¬ nd_b M 783 y = true) ∧ (∀ y : Nat, y < 256 → (nd_b M1 784 y = true ↔ nd_c M y = true)) ∧ (∀ y : Nat, y < 256 → (nd_b M1 783 y = true ↔ nd_b M 783 y = true ∨ (((y / 64 : Nat) : Int) < w ∧ nd_c M y = true))) ∧ ∀ o' k' : Nat, o' ≠ 783 → o' ≠ 784 → M1 o' k' = M o' k')
      | _, _, _ => False, ?_, ?_⟩
    · exact vc_X11_isRoundRemoving_0  M K  hS
    · intro pc n L st M1 hI wd1 wL wst
      (try dsimp only at hI)
      split at hI
      ·
        rename_i k u3_
        exact vc_X11_isRoundRemoving_10  M K  hS n k _ hI
      ·
        rename_i so w
        exact vc_X11_isRoundRemoving_53  M K  hS n so w _ hI
      · exact hI.elim
  · exact hS.elim
def S_X11_shrink : ab_PT := fun a M K => match a with
  | [.inr (.inr (.inr (781, 11, 0))), .inr (.inl t)] => ((-1 ≤ t ∧ t ≤ 63) ∧ tv_ok M) ∧ (∀ rx : Int, ∀ Mx : ab_M, (nd_P M Mx t rx) → K [Xi rx] Mx)
  | _ => False
set_option maxRecDepth 20000 in
theorem vc_X11_shrink_0 (t : Int) (M : ab_M) (K : List ab_V → ab_M → Prop) (hS : ((-1 ≤ t ∧ t ≤ 63) ∧ tv_ok M) ∧ (∀ rx : Int, ∀ Mx : ab_M, (nd_P M Mx t rx) → K [Xi rx] Mx)) : ((-1 ≤ t ∧ t ≤ 63) ∧ tv_ok M) ∧ (∀ M2 : ab_M, ((∀ y : Nat, y < 256 → (nd_b M2 783 y = true ↔ tv M t (y : Int) = 0)) ∧ ∀ o' k' : Nat, o' ≠ 783 → M2 o' k' = M o' k') → (∃ n', ((n' = (256 - (0 : Int)).toNat ∧ t = t ∧ 0 ≤ (0 : Int) ∧ (0 : Int) ≤ 256 ∧ nd_I M M2 t (0 : Int).toNat)))) := by
  obtain ⟨gA, gK⟩ := hS
  refine And.intro (by
    first
      | omega
      | exact ⟨by omega, by omega⟩
      | exact ⟨⟨by omega, by omega⟩, by omega, by omega⟩
      | trivial
      | exact nd_li _ _
      | exact Or.inr ⟨ab_land_lr _ _, by decide, by decide⟩
      | exact gA
      | (rcases hM15.1 with z | z <;> (rw [z]; exact ⟨by decide, by decide⟩))) ?_
  intro M2 hM2
  exact ⟨_, rfl, rfl, by decide, by decide, hM2.1, fun k hk => absurd hk (Nat.not_lt_zero _), Nat.zero_le _, fun o' k' a _ => hM2.2 o' k' a⟩

set_option maxRecDepth 20000 in
theorem vc_X11_shrink_7 (t : Int) (M : ab_M) (K : List ab_V → ab_M → Prop) (hS : ((-1 ≤ t ∧ t ≤ 63) ∧ tv_ok M) ∧ (∀ rx : Int, ∀ Mx : ab_M, (nd_P M Mx t rx) → K [Xi rx] Mx)) (n : Nat) (t1 : Int) (k : Int) (M1 : ab_M) (hI : n = (256 - k).toNat ∧ t = t1 ∧ 0 ≤ k ∧ k ≤ 256 ∧ nd_I M M1 t k.toNat) : (-32768 ≤ (256 : Int) ∧ (256 : Int) < 32768) ∧ (ab_ir k ∧ ab_ir (256 : Int)) ∧ (((256 : Int) ≤ k → K [Xi k] M1) ∧ (k < (256 : Int) → (True) ∧ (∀ r15 : Int, ∀ M15 : ab_M, (nd_R M1 M15 r15) → (ab_ir r15) ∧ ((r15 = 0 → K [Xi k] M15) ∧ (¬ r15 = 0 → (∃ n', n' < n ∧ ((n' = (256 - (k + 1)).toNat ∧ t = t1 ∧ 0 ≤ (k + 1) ∧ (k + 1) ≤ 256 ∧ nd_I M M15 t (k + 1).toNat)))))))) := by
  obtain ⟨hn, q1, hk0, hk1, hI⟩ := hI
  subst q1
  obtain ⟨gA, gK⟩ := hS
  refine And.intro (by
    first
      | omega
      | exact ⟨by omega, by omega⟩
      | exact ⟨⟨by omega, by omega⟩, by omega, by omega⟩
      | trivial
      | exact nd_li _ _
      | exact Or.inr ⟨ab_land_lr _ _, by decide, by decide⟩
      | exact gA
      | (rcases hM15.1 with z | z <;> (rw [z]; exact ⟨by decide, by decide⟩))) ?_
  refine And.intro (by
    first
      | omega
      | exact ⟨by omega, by omega⟩
      | exact ⟨⟨by omega, by omega⟩, by omega, by omega⟩
      | trivial
      | exact nd_li _ _
      | exact Or.inr ⟨ab_land_lr _ _, by decide, by decide⟩
      | exact gA
      | (rcases hM15.1 with z | z <;> (rw [z]; exact ⟨by decide, by decide⟩))) ?_
  refine ⟨?_, ?_⟩
  · intro c11
    refine gK _ _ ?_
    have hk : k = 256 := by omega
    subst hk
    exact nd_last hI
  · intro c11
    refine And.intro trivial ?_
    intro r15 M15 hM15
    refine And.intro (by
      first
        | omega
        | exact ⟨by omega, by omega⟩
        | exact ⟨⟨by omega, by omega⟩, by omega, by omega⟩
        | trivial
        | exact nd_li _ _
        | exact Or.inr ⟨ab_land_lr _ _, by decide, by decide⟩
        | exact gA
        | (rcases hM15.1 with z | z <;> (rw [z]; exact ⟨by decide, by decide⟩))) ?_
    refine ⟨?_, ?_⟩
    · intro c18
      refine gK _ _ ?_
      have h := (nd_next hI hM15).2 (by assumption)
      rw [show ((k.toNat : Nat) : Int) = k by omega] at h
      exact h
    · intro c18
      refine ⟨_, ?_, rfl, rfl, by omega, by omega, ?_⟩
      · omega
      rw [show (k + 1).toNat = k.toNat + 1 by omega]
      exact (nd_next hI hM15).1 (by have := hM15.1; omega)

set_option maxRecDepth 20000 in
set_option maxHeartbeats 1000000 in
theorem ok_X11_shrink (E : ab_E) : ab_Ok E 3 203 S_X11_shrink := by
  refine ab_mk rq_X11_shrink tk_X11_shrink (rt := 1) (rfl) (cuts := [7]) (G := [(200, S_X11_begin), (202, S_X11_isRoundRemoving)]) (List.forall_mem_cons.mpr ⟨⟨2, by decide, ok_X11_begin E⟩, List.forall_mem_cons.mpr ⟨⟨2, by decide, ok_X11_isRoundRemoving E⟩, fun _ h => absurd h List.not_mem_nil⟩⟩) (by decide) 65 rfl ?_
  intro a M K wd wa hS
  unfold S_X11_shrink at hS
  split at hS
  ·
    rename_i t
    refine ⟨Nat.le_of_ble_eq_true rfl, fun pc n L st M1 => match pc, L, st with
      | 7, [.inr (.inr (.inr (781, 11, 0))), .inr (.inl t1), .inr (.inl k)], [] => (n = (256 - k).toNat ∧ t = t1 ∧ 0 ≤ k ∧ k ≤ 256 ∧ nd_I M M1 t k.toNat)
      | _, _, _ => False, ?_, ?_⟩
    · exact vc_X11_shrink_0 t M K  hS
    · intro pc n L st M1 hI wd1 wL wst
      (try dsimp only at hI)
      split at hI
      ·
        rename_i t1 k
        exact vc_X11_shrink_7 t M K  hS n t1 k _ hI
      · exact hI.elim
  · exact hS.elim
def S_X11_statesKept : ab_PT := fun a M K => match a with
  | [.inr (.inr (.inr (781, 11, 0)))] => (True) ∧ (∀ rx : Int, (rx = ((gx_m (fun y => !nd_b M 783 y) 256 : Nat) : Int)) → K [Xi rx] M)
  | _ => False
set_option maxRecDepth 20000 in
theorem vc_X11_statesKept_0  (M : ab_M) (K : List ab_V → ab_M → Prop) (hS : (True) ∧ (∀ rx : Int, (rx = ((gx_m (fun y => !nd_b M 783 y) 256 : Nat) : Int)) → K [Xi rx] M)) : (-32768 ≤ (256 : Int) ∧ (256 : Int) < 32768) ∧ (∃ n', ((n' = (4 - (0 : Int)).toNat ∧ 0 ≤ (0 : Int) ∧ (0 : Int) ≤ 4 ∧ (256 : Int) = 256 - ((gx_m (nd_b M 783) (64 * (0 : Int).toNat) : Nat) : Int) ∧ M = M))) := by
  obtain ⟨-, gK⟩ := hS
  refine And.intro (by
    first
      | omega
      | exact ⟨by omega, by omega⟩
      | exact ⟨⟨by omega, by omega⟩, by omega, by omega⟩
      | trivial
      | exact nd_li _ _
      | exact Or.inr ⟨ab_land_lr _ _, by decide, by decide⟩) ?_
  exact ⟨_, rfl, by decide, by decide, rfl, rfl⟩

set_option maxRecDepth 20000 in
theorem vc_X11_statesKept_6  (M : ab_M) (K : List ab_V → ab_M → Prop) (hS : (True) ∧ (∀ rx : Int, (rx = ((gx_m (fun y => !nd_b M 783 y) 256 : Nat) : Int)) → K [Xi rx] M)) (n : Nat) (m : Int) (w : Int) (M1 : ab_M) (hI : n = (4 - w).toNat ∧ 0 ≤ w ∧ w ≤ 4 ∧ m = 256 - ((gx_m (nd_b M 783) (64 * w.toNat) : Nat) : Int) ∧ M1 = M) : (ab_ir w ∧ ab_ir (4 : Int)) ∧ (((4 : Int) ≤ w → K [Xi m] M1) ∧ (w < (4 : Int) → (0 ≤ w ∧ w < ((4 : Nat) : Int)) ∧ (True) ∧ (∀ r18 : Int, (r18 = ((gx_m (pz_lb (M1 783 w.toNat)) 64 : Nat) : Int)) → (∃ n', n' < n ∧ ((n' = (4 - (w + 1)).toNat ∧ 0 ≤ (w + 1) ∧ (w + 1) ≤ 4 ∧ (m - r18) = 256 - ((gx_m (nd_b M 783) (64 * (w + 1).toNat) : Nat) : Int) ∧ M1 = M)))))) := by
  obtain ⟨hn, hw0, hw1, hm, q2⟩ := hI
  subst q2
  obtain ⟨-, gK⟩ := hS
  refine And.intro (by
    first
      | omega
      | exact ⟨by omega, by omega⟩
      | exact ⟨⟨by omega, by omega⟩, by omega, by omega⟩
      | trivial
      | exact nd_li _ _
      | exact Or.inr ⟨ab_land_lr _ _, by decide, by decide⟩) ?_
  refine ⟨?_, ?_⟩
  · intro c8
    refine gK _ ?_
    have h := gx_m_neg (nd_b M1 783) 256
    rw [hm, show 64 * w.toNat = 256 by omega]
    omega
  · intro c8
    refine And.intro (by
      first
        | omega
        | exact ⟨by omega, by omega⟩
        | exact ⟨⟨by omega, by omega⟩, by omega, by omega⟩
        | trivial
        | exact nd_li _ _
        | exact Or.inr ⟨ab_land_lr _ _, by decide, by decide⟩) ?_
    refine And.intro trivial ?_
    intro r18 hr18
    refine ⟨_, ?_, rfl, by omega, by omega, ?_, rfl⟩
    · omega
    rw [show (w + 1).toNat = w.toNat + 1 by omega, nd_sum, hr18, hm]
    omega

set_option maxRecDepth 20000 in
set_option maxHeartbeats 1000000 in
theorem ok_X11_statesKept (E : ab_E) : ab_Ok E 2 204 S_X11_statesKept := by
  refine ab_mk rq_X11_statesKept tk_X11_statesKept (rt := 1) (rfl) (cuts := [6]) (G := [(222, S_J13_bitCount_95d88)]) (List.forall_mem_cons.mpr ⟨⟨1, by decide, ok_J13_bitCount_95d88 E⟩, fun _ h => absurd h List.not_mem_nil⟩) (by decide) 69 rfl ?_
  intro a M K wd wa hS
  unfold S_X11_statesKept at hS
  split at hS
  ·
    refine ⟨Nat.le_of_ble_eq_true rfl, fun pc n L st M1 => match pc, L, st with
      | 6, [.inr (.inr (.inr (781, 11, 0))), .inr (.inl m), .inr (.inl w)], [] => (n = (4 - w).toNat ∧ 0 ≤ w ∧ w ≤ 4 ∧ m = 256 - ((gx_m (nd_b M 783) (64 * w.toNat) : Nat) : Int) ∧ M1 = M)
      | _, _, _ => False, ?_, ?_⟩
    · exact vc_X11_statesKept_0  M K  hS
    · intro pc n L st M1 hI wd1 wL wst
      (try dsimp only at hI)
      split at hI
      ·
        rename_i m w
        exact vc_X11_statesKept_6  M K  hS n m w _ hI
      · exact hI.elim
  · exact hS.elim
