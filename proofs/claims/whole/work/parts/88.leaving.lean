/-! which states leave -/
/-- how many notes of a row are 0 -/
def kp_n (N : Nat → Int) (b : Nat) : Nat → Int
  | 0 => 0
  | k + 1 => kp_n N b k + if N (b + k) = 0 then 1 else 0
/-- which states leave in a round -/
def rl_c (M : ab_M) (s : Nat) (be : Int) (k : Nat) : Prop := pz_b (M 774 (M s 17 * 256 + (k : Int)).toNat) 18 = true ∧ M 774 (be + (k : Int)).toNat = 0 ∧ ¬ tv M (M s 2) (k : Int) = 0
theorem ab_and_18 (x : Int) : (¬ ab_and x 262144 = 0) ↔ pz_b x 18 = true := by
  have := pz_b_can (x := x) (b := 18) (by decide) (by decide)
  rw [show ab_shl 1 18 = 262144 by decide +kernel] at this
  exact this
/-- after so many states: who leaves has its note -/
def rl_I (M M1 : ab_M) (s : Nat) (be re : Int) (k : Nat) : Prop := (∀ o' k' : Nat, ¬ (o' = 774 ∧ ∃ x : Nat, x < k ∧ k' = (be + (x : Int)).toNat ∧ rl_c M s be x) → M1 o' k' = M o' k') ∧ (∀ x : Nat, x < k → rl_c M s be x → M1 774 (be + (x : Int)).toNat = 262144) ∧ (re = 0 ∧ (∀ x, x < k → ¬ rl_c M s be x) ∨ re = 1 ∧ ∃ x, x < k ∧ rl_c M s be x)
theorem rl_I.start (M : ab_M) (s : Nat) (be : Int) : rl_I M M s be 0 0 := ⟨fun _ _ _ => rfl, fun x h => absurd h (Nat.not_lt_zero _), Or.inl ⟨rfl, fun x h => absurd h (Nat.not_lt_zero _)⟩⟩
theorem rl_I.no {M M1 : ab_M} {s : Nat} {be re : Int} {k : Nat} (h : rl_I M M1 s be re k) (hk : ¬ rl_c M s be k) : rl_I M M1 s be re (k + 1) := by
  obtain ⟨h1, h2, h3⟩ := h
  refine ⟨fun o' k' q => h1 o' k' fun ⟨q1, x, x1, x2, x3⟩ => q ⟨q1, x, by omega, x2, x3⟩, fun x hx hc => ?_, ?_⟩
  · by_cases e : x = k
    · subst e; exact absurd hc hk
    · exact h2 x (by omega) hc
  · rcases h3 with ⟨a, b⟩ | ⟨a, x, b, c⟩
    · refine Or.inl ⟨a, fun x hx => ?_⟩
      by_cases e : x = k
      · subst e; exact hk
      · exact b x (by omega)
    · exact Or.inr ⟨a, x, by omega, c⟩
theorem rl_I.yes {M M1 : ab_M} {s : Nat} {be re : Int} {k : Nat} (h : rl_I M M1 s be re k) (hb : 0 ≤ be) (hk : rl_c M s be k) : rl_I M (ab_up M1 774 (be + (k : Int)).toNat 262144) s be 1 (k + 1) := by
  obtain ⟨h1, h2, h3⟩ := h
  refine ⟨fun o' k' q => ?_, fun x hx hc => ?_, Or.inr ⟨rfl, k, by omega, hk⟩⟩
  · rw [up_ne (fun z => q ⟨z.1, k, by omega, z.2, hk⟩)]
    exact h1 o' k' fun ⟨q1, x, x1, x2, x3⟩ => q ⟨q1, x, by omega, x2, x3⟩
  · by_cases e : x = k
    · subst e; rw [ab_up_s]
    · rw [ab_up_k (by omega)]
      exact h2 x (by omega) hc
/-- the cells that the next state asks for are as they were -/
theorem rl_I.at {M M1 : ab_M} {s : Nat} {be re : Int} {k : Nat} (h : rl_I M M1 s be re k) (hb : 0 ≤ be) (hs : s < 700) (hgo : M s 17 * 256 = be ∨ (∀ x y : Nat, x < 256 → y < 256 → (M s 17 * 256 + (x : Int)).toNat ≠ (be + (y : Int)).toNat)) (hk : k < 256) : (∀ j, M1 s j = M s j) ∧ M1 774 (M s 17 * 256 + (k : Int)).toNat = M 774 (M s 17 * 256 + (k : Int)).toNat ∧ M1 774 (be + (k : Int)).toNat = M 774 (be + (k : Int)).toNat ∧ ∀ t z, tv M1 t z = tv M t z := by
  obtain ⟨h1, -, -⟩ := h
  refine ⟨fun j => h1 s j fun q => absurd q.1 (by omega), h1 _ _ ?_, h1 _ _ ?_, fun t z => ?_⟩
  · rintro ⟨-, x, x1, x2, -⟩
    rcases hgo with g | g
    · omega
    · exact g k x hk (by omega) x2
  · rintro ⟨-, x, x1, x2, -⟩
    omega
  · unfold tv
    rw [h1 770 _ (fun q => absurd q.1 (by decide))]

def S_X3_isReached : ab_PT := fun a M K => match a with
  | [.inr (.inr (.inr (768, 3, 0))), .inr (.inl row), .inr (.inl zz)] => ((0 ≤ row * 256 + zz ∧ row * 256 + zz < 33280) ∧ ab_ir (M 774 (row * 256 + zz).toNat)) ∧ (∀ rx : Int, (rx = if ¬ M 774 (row * 256 + zz).toNat = 0 then 1 else 0) → K [Xi rx] M)
  | _ => False
set_option maxRecDepth 20000 in
theorem vc_X3_isReached_0 (row : Int) (zz : Int) (M : ab_M) (K : List ab_V → ab_M → Prop) (hS : ((0 ≤ row * 256 + zz ∧ row * 256 + zz < 33280) ∧ ab_ir (M 774 (row * 256 + zz).toNat)) ∧ (∀ rx : Int, (rx = if ¬ M 774 (row * 256 + zz).toNat = 0 then 1 else 0) → K [Xi rx] M)) : (-32768 ≤ (256 : Int) ∧ (256 : Int) < 32768) ∧ (0 ≤ ((row * (256 : Int)) + zz) ∧ ((row * (256 : Int)) + zz) < ((33280 : Nat) : Int)) ∧ (ab_ir (M 774 (((row * (256 : Int)) + zz).toNat))) ∧ (((M 774 (((row * (256 : Int)) + zz).toNat)) = 0 → ((0 : Int) = 0 ∨ (0 : Int) = 1) ∧ K [Xi (0 : Int)] M) ∧ (¬ (M 774 (((row * (256 : Int)) + zz).toNat)) = 0 → ((1 : Int) = 0 ∨ (1 : Int) = 1) ∧ K [Xi (1 : Int)] M)) := by
  obtain ⟨⟨g1, g2⟩, gK⟩ := hS
  refine And.intro (by
    first
      | omega
      | exact g1
      | exact ⟨by omega, by omega⟩
      | (split <;> exact ⟨by decide, by decide⟩)) ?_
  refine And.intro (by
    first
      | omega
      | exact g1
      | exact ⟨by omega, by omega⟩
      | (split <;> exact ⟨by decide, by decide⟩)) ?_
  refine And.intro (by
    first
      | omega
      | exact g1
      | exact ⟨by omega, by omega⟩
      | (split <;> exact ⟨by decide, by decide⟩)) ?_
  refine ⟨?_, ?_⟩
  · intro c12
    refine And.intro (by
      first
        | omega
        | exact g1
        | exact ⟨by omega, by omega⟩
        | (split <;> exact ⟨by decide, by decide⟩)) ?_
    refine gK _ ?_
    first
      | (rw [if_pos (by assumption)]; done)
      | (rw [if_neg (fun q => q (by assumption))]; done)
  · intro c12
    refine And.intro (by
      first
        | omega
        | exact g1
        | exact ⟨by omega, by omega⟩
        | (split <;> exact ⟨by decide, by decide⟩)) ?_
    refine gK _ ?_
    first
      | (rw [if_pos (by assumption)]; done)
      | (rw [if_neg (fun q => q (by assumption))]; done)

set_option maxRecDepth 20000 in
set_option maxHeartbeats 1000000 in
theorem ok_X3_isReached (E : ab_E) : ab_Ok E 1 51 S_X3_isReached := by
  refine ab_mk rq_X3_isReached tk_X3_isReached (rt := 2) (rfl) (cuts := []) (G := []) (fun g hg => by cases hg) (by decide) 63 rfl ?_
  intro a M K wd wa hS
  unfold S_X3_isReached at hS
  split at hS
  ·
    rename_i row zz
    refine ⟨Nat.le_of_ble_eq_true rfl, fun _ _ _ _ _ => False, ?_, ?_⟩
    · exact vc_X3_isReached_0 row zz M K  hS
    · exact fun _ _ _ _ _ h => h.elim
  · exact hS.elim
def S_X3_statesKept : ab_PT := fun a M K => match a with
  | [.inr (.inr (.inr (768, 3, 0))), .inr (.inl l)] => ((0 ≤ l ∧ l ≤ 3) ∧ ∀ j, ab_ir (M 774 j)) ∧ (∀ rx : Int, (rx = kp_n (M 774) ((122 + l) * 256).toNat 256) → K [Xi rx] M)
  | _ => False
set_option maxRecDepth 20000 in
theorem vc_X3_statesKept_0 (l : Int) (M : ab_M) (K : List ab_V → ab_M → Prop) (hS : ((0 ≤ l ∧ l ≤ 3) ∧ ∀ j, ab_ir (M 774 j)) ∧ (∀ rx : Int, (rx = kp_n (M 774) ((122 + l) * 256).toNat 256) → K [Xi rx] M)) : (∃ n', ((n' = (256 - (0 : Int)).toNat ∧ l = l ∧ 0 ≤ (0 : Int) ∧ (0 : Int) ≤ 256 ∧ M = M ∧ (0 : Int) = kp_n (M 774) ((122 + l) * 256).toNat (0 : Int).toNat))) := by
  obtain ⟨⟨g1, g2⟩, gK⟩ := hS
  exact ⟨_, rfl, rfl, by decide, by decide, rfl, rfl⟩

set_option maxRecDepth 20000 in
theorem vc_X3_statesKept_4 (l : Int) (M : ab_M) (K : List ab_V → ab_M → Prop) (hS : ((0 ≤ l ∧ l ≤ 3) ∧ ∀ j, ab_ir (M 774 j)) ∧ (∀ rx : Int, (rx = kp_n (M 774) ((122 + l) * 256).toNat 256) → K [Xi rx] M)) (n : Nat) (l1 : Int) (m : Int) (k : Int) (M1 : ab_M) (hI : n = (256 - k).toNat ∧ l = l1 ∧ 0 ≤ k ∧ k ≤ 256 ∧ M = M1 ∧ m = kp_n (M 774) ((122 + l) * 256).toNat k.toNat) : (-32768 ≤ (256 : Int) ∧ (256 : Int) < 32768) ∧ (ab_ir k ∧ ab_ir (256 : Int)) ∧ (((256 : Int) ≤ k → K [Xi m] M1) ∧ (k < (256 : Int) → (-128 ≤ (122 : Int) ∧ (122 : Int) < 128) ∧ ((0 ≤ ((122 : Int) + l1) * 256 + k ∧ ((122 : Int) + l1) * 256 + k < 33280) ∧ ab_ir (M1 774 (((122 : Int) + l1) * 256 + k).toNat)) ∧ (∀ r17 : Int, (r17 = if ¬ M1 774 (((122 : Int) + l1) * 256 + k).toNat = 0 then 1 else 0) → (ab_ir r17) ∧ ((¬ r17 = 0 → (∃ n', n' < n ∧ ((n' = (256 - (k + 1)).toNat ∧ l = l1 ∧ 0 ≤ (k + 1) ∧ (k + 1) ≤ 256 ∧ M = M1 ∧ m = kp_n (M 774) ((122 + l) * 256).toNat (k + 1).toNat)))) ∧ (r17 = 0 → (∃ n', n' < n ∧ ((n' = (256 - (k + 1)).toNat ∧ l = l1 ∧ 0 ≤ (k + 1) ∧ (k + 1) ≤ 256 ∧ M = M1 ∧ (m + 1) = kp_n (M 774) ((122 + l) * 256).toNat (k + 1).toNat)))))))) := by
  obtain ⟨hn, q1, hk0, hk1, q2, hm⟩ := hI
  subst q1
  subst q2
  obtain ⟨⟨g1, g2⟩, gK⟩ := hS
  have gx := g2 ((122 + l) * 256 + k).toNat
  refine And.intro (by
    first
      | omega
      | exact ⟨⟨by omega, by omega⟩, gx⟩
      | exact ⟨by omega, by omega⟩
      | (split <;> exact ⟨by decide, by decide⟩)) ?_
  refine And.intro (by
    first
      | omega
      | exact ⟨⟨by omega, by omega⟩, gx⟩
      | exact ⟨by omega, by omega⟩
      | (split <;> exact ⟨by decide, by decide⟩)) ?_
  refine ⟨?_, ?_⟩
  · intro c8
    rw [show k.toNat = 256 by omega] at hm
    exact gK _ hm
  · intro c8
    refine And.intro (by
      first
        | omega
        | exact ⟨⟨by omega, by omega⟩, gx⟩
        | exact ⟨by omega, by omega⟩
        | (split <;> exact ⟨by decide, by decide⟩)) ?_
    refine And.intro (by
      first
        | omega
        | exact ⟨⟨by omega, by omega⟩, gx⟩
        | exact ⟨by omega, by omega⟩
        | (split <;> exact ⟨by decide, by decide⟩)) ?_
    intro r17 hr17
    refine And.intro (by
      first
        | omega
        | exact ⟨⟨by omega, by omega⟩, gx⟩
        | exact ⟨by omega, by omega⟩
        | (split <;> exact ⟨by decide, by decide⟩)) ?_
    refine ⟨?_, ?_⟩
    · intro c20
      rw [hr17] at c20
      rw [ab_bt] at c20
      clear hr17 r17
      refine ⟨_, by omega, rfl, rfl, by omega, by omega, rfl, ?_⟩
      rw [show (k + 1).toNat = k.toNat + 1 by omega]
      show _ = kp_n (M 774) _ k.toNat + if M 774 (((122 + l) * 256).toNat + k.toNat) = 0 then 1 else 0
      rw [show ((122 + l) * 256).toNat + k.toNat = ((122 + l) * 256 + k).toNat by omega, hm]
      first
        | (rw [if_pos (by assumption)]; done)
        | (rw [if_pos (Decidable.not_not.1 (by assumption))]; done)
        | (rw [if_neg (by assumption), Int.add_zero]; done)
    · intro c20
      rw [hr17] at c20
      rw [ab_bf] at c20
      clear hr17 r17
      refine ⟨_, by omega, rfl, rfl, by omega, by omega, rfl, ?_⟩
      rw [show (k + 1).toNat = k.toNat + 1 by omega]
      show _ = kp_n (M 774) _ k.toNat + if M 774 (((122 + l) * 256).toNat + k.toNat) = 0 then 1 else 0
      rw [show ((122 + l) * 256).toNat + k.toNat = ((122 + l) * 256 + k).toNat by omega, hm]
      first
        | (rw [if_pos (by assumption)]; done)
        | (rw [if_pos (Decidable.not_not.1 (by assumption))]; done)
        | (rw [if_neg (by assumption), Int.add_zero]; done)

set_option maxRecDepth 20000 in
set_option maxHeartbeats 1000000 in
theorem ok_X3_statesKept (E : ab_E) : ab_Ok E 2 57 S_X3_statesKept := by
  refine ab_mk rq_X3_statesKept tk_X3_statesKept (rt := 1) (rfl) (cuts := [4]) (G := [(51, S_X3_isReached)]) (List.forall_mem_cons.mpr ⟨⟨1, by decide, ok_X3_isReached E⟩, fun _ h => absurd h List.not_mem_nil⟩) (by decide) 69 rfl ?_
  intro a M K wd wa hS
  unfold S_X3_statesKept at hS
  split at hS
  ·
    rename_i l
    refine ⟨Nat.le_of_ble_eq_true rfl, fun pc n L st M1 => match pc, L, st with
      | 4, [.inr (.inr (.inr (768, 3, 0))), .inr (.inl l1), .inr (.inl m), .inr (.inl k)], [] => (n = (256 - k).toNat ∧ l = l1 ∧ 0 ≤ k ∧ k ≤ 256 ∧ M = M1 ∧ m = kp_n (M 774) ((122 + l) * 256).toNat k.toNat)
      | _, _, _ => False, ?_, ?_⟩
    · exact vc_X3_statesKept_0 l M K  hS
    · intro pc n L st M1 hI wd1 wL wst
      (try dsimp only at hI)
      split at hI
      ·
        rename_i l1 m k
        exact vc_X3_statesKept_4 l M K  hS n l1 m k _ hI
      · exact hI.elim
  · exact hS.elim
def S_X3_removeLeaving : ab_PT := fun a M K => match a with
  | [.inr (.inr (.inr (768, 3, 0))), .inr (.inr (.inr (s, 4, nn))), .inr (.inl be)] => (tv_ok M ∧ s < 700 ∧ (∃ l : Nat, l < 4 ∧ be = (122 + (l : Int)) * 256) ∧ (0 ≤ M s 17 ∧ M s 17 < 130) ∧ (-1 ≤ M s 2 ∧ M s 2 ≤ 63) ∧ ∀ j, ab_ir (M 774 j)) ∧ (∀ rx : Int, ∀ Mx : ab_M, (rl_I M Mx s be rx 256) → K [Xi rx] Mx)
  | _ => False
set_option maxRecDepth 20000 in
theorem vc_X3_removeLeaving_0 (s : Nat) (nn : Nat) (be : Int) (M : ab_M) (K : List ab_V → ab_M → Prop) (hS : (tv_ok M ∧ s < 700 ∧ (∃ l : Nat, l < 4 ∧ be = (122 + (l : Int)) * 256) ∧ (0 ≤ M s 17 ∧ M s 17 < 130) ∧ (-1 ≤ M s 2 ∧ M s 2 ≤ 63) ∧ ∀ j, ab_ir (M 774 j)) ∧ (∀ rx : Int, ∀ Mx : ab_M, (rl_I M Mx s be rx 256) → K [Xi rx] Mx)) : (∃ n', (s = s ∧ nn = nn ∧ (n' = (256 - (0 : Int)).toNat ∧ be = be ∧ 0 ≤ (0 : Int) ∧ (0 : Int) ≤ 256 ∧ ((0 : Int) = 0 ∨ (0 : Int) = 1) ∧ rl_I M M s be (0 : Int) (0 : Int).toNat))) := by
  obtain ⟨⟨gv, gs, ⟨l, gl, gb⟩, g17, g2, gi⟩, gK⟩ := hS
  have hbe : 0 ≤ be := by omega
  exact ⟨_, rfl, rfl, rfl, rfl, by decide, by decide, Or.inl rfl, rl_I.start _ _ _⟩

set_option maxRecDepth 20000 in
theorem vc_X3_removeLeaving_5 (s : Nat) (nn : Nat) (be : Int) (M : ab_M) (K : List ab_V → ab_M → Prop) (hS : (tv_ok M ∧ s < 700 ∧ (∃ l : Nat, l < 4 ∧ be = (122 + (l : Int)) * 256) ∧ (0 ≤ M s 17 ∧ M s 17 < 130) ∧ (-1 ≤ M s 2 ∧ M s 2 ≤ 63) ∧ ∀ j, ab_ir (M 774 j)) ∧ (∀ rx : Int, ∀ Mx : ab_M, (rl_I M Mx s be rx 256) → K [Xi rx] Mx)) (n : Nat) (b1 : Int) (re : Int) (k : Int) (M1 : ab_M) (hI : n = (256 - k).toNat ∧ be = b1 ∧ 0 ≤ k ∧ k ≤ 256 ∧ (re = 0 ∨ re = 1) ∧ rl_I M M1 s be re k.toNat) : (-32768 ≤ (256 : Int) ∧ (256 : Int) < 32768) ∧ (ab_ir k ∧ ab_ir (256 : Int)) ∧ (((256 : Int) ≤ k → (re = 0 ∨ re = 1) ∧ K [Xi re] M1) ∧ (k < (256 : Int) → (-32768 ≤ (256 : Int) ∧ (256 : Int) < 32768) ∧ (0 ≤ (((M1 s 17) * (256 : Int)) + k) ∧ (((M1 s 17) * (256 : Int)) + k) < ((33280 : Nat) : Int)) ∧ (ab_ir (ab_and (M1 774 ((((M1 s 17) * (256 : Int)) + k).toNat)) (262144 : Int))) ∧ (((ab_and (M1 774 ((((M1 s 17) * (256 : Int)) + k).toNat)) (262144 : Int)) = 0 → (ab_ir (0 : Int)) ∧ (((0 : Int) = 0 → (∃ n', n' < n ∧ (s = s ∧ nn = nn ∧ (n' = (256 - (k + 1)).toNat ∧ be = b1 ∧ 0 ≤ (k + 1) ∧ (k + 1) ≤ 256 ∧ (re = 0 ∨ re = 1) ∧ rl_I M M1 s be re (k + 1).toNat)))) ∧ (¬ (0 : Int) = 0 → (0 ≤ (b1 + k) ∧ (b1 + k) < ((33280 : Nat) : Int)) ∧ (ab_ir (M1 774 ((b1 + k).toNat))) ∧ ((¬ (M1 774 ((b1 + k).toNat)) = 0 → (∃ n', n' < n ∧ (s = s ∧ nn = nn ∧ (n' = (256 - (k + 1)).toNat ∧ be = b1 ∧ 0 ≤ (k + 1) ∧ (k + 1) ≤ 256 ∧ (re = 0 ∨ re = 1) ∧ rl_I M M1 s be re (k + 1).toNat)))) ∧ ((M1 774 ((b1 + k).toNat)) = 0 → (ab_ir ((M1 s 2) * 256 + k) ∧ tv_ok M1) ∧ (∀ r69 : Int, (r69 = if ¬ tv M1 (M1 s 2) k = 0 then 1 else 0) → (ab_ir r69) ∧ ((r69 = 0 → (∃ n', n' < n ∧ (s = s ∧ nn = nn ∧ (n' = (256 - (k + 1)).toNat ∧ be = b1 ∧ 0 ≤ (k + 1) ∧ (k + 1) ≤ 256 ∧ (re = 0 ∨ re = 1) ∧ rl_I M M1 s be re (k + 1).toNat)))) ∧ (¬ r69 = 0 → (0 ≤ (b1 + k) ∧ (b1 + k) < ((33280 : Nat) : Int)) ∧ (∃ n', n' < n ∧ (s = s ∧ nn = nn ∧ (n' = (256 - (k + 1)).toNat ∧ be = b1 ∧ 0 ≤ (k + 1) ∧ (k + 1) ≤ 256 ∧ ((1 : Int) = 0 ∨ (1 : Int) = 1) ∧ rl_I M (ab_up M1 774 ((b1 + k).toNat) (262144 : Int)) s be (1 : Int) (k + 1).toNat))))))))))) ∧ (¬ (ab_and (M1 774 ((((M1 s 17) * (256 : Int)) + k).toNat)) (262144 : Int)) = 0 → (ab_ir (1 : Int)) ∧ (((1 : Int) = 0 → (∃ n', n' < n ∧ (s = s ∧ nn = nn ∧ (n' = (256 - (k + 1)).toNat ∧ be = b1 ∧ 0 ≤ (k + 1) ∧ (k + 1) ≤ 256 ∧ (re = 0 ∨ re = 1) ∧ rl_I M M1 s be re (k + 1).toNat)))) ∧ (¬ (1 : Int) = 0 → (0 ≤ (b1 + k) ∧ (b1 + k) < ((33280 : Nat) : Int)) ∧ (ab_ir (M1 774 ((b1 + k).toNat))) ∧ ((¬ (M1 774 ((b1 + k).toNat)) = 0 → (∃ n', n' < n ∧ (s = s ∧ nn = nn ∧ (n' = (256 - (k + 1)).toNat ∧ be = b1 ∧ 0 ≤ (k + 1) ∧ (k + 1) ≤ 256 ∧ (re = 0 ∨ re = 1) ∧ rl_I M M1 s be re (k + 1).toNat)))) ∧ ((M1 774 ((b1 + k).toNat)) = 0 → (ab_ir ((M1 s 2) * 256 + k) ∧ tv_ok M1) ∧ (∀ r69 : Int, (r69 = if ¬ tv M1 (M1 s 2) k = 0 then 1 else 0) → (ab_ir r69) ∧ ((r69 = 0 → (∃ n', n' < n ∧ (s = s ∧ nn = nn ∧ (n' = (256 - (k + 1)).toNat ∧ be = b1 ∧ 0 ≤ (k + 1) ∧ (k + 1) ≤ 256 ∧ (re = 0 ∨ re = 1) ∧ rl_I M M1 s be re (k + 1).toNat)))) ∧ (¬ r69 = 0 → (0 ≤ (b1 + k) ∧ (b1 + k) < ((33280 : Nat) : Int)) ∧ (∃ n', n' < n ∧ (s = s ∧ nn = nn ∧ (n' = (256 - (k + 1)).toNat ∧ be = b1 ∧ 0 ≤ (k + 1) ∧ (k + 1) ≤ 256 ∧ ((1 : Int) = 0 ∨ (1 : Int) = 1) ∧ rl_I M (ab_up M1 774 ((b1 + k).toNat) (262144 : Int)) s be (1 : Int) (k + 1).toNat)))))))))))))) := by
  obtain ⟨hn, q1, hk0, hk1, hre, hI⟩ := hI
  subst q1
  obtain ⟨⟨gv, gs, ⟨l, gl, gb⟩, g17, g2, gi⟩, gK⟩ := hS
  have hbe : 0 ≤ be := by omega
  have hgo : M s 17 * 256 = be ∨ (∀ x y : Nat, x < 256 → y < 256 → (M s 17 * 256 + (x : Int)).toNat ≠ (be + (y : Int)).toNat) := by
    by_cases e : M s 17 * 256 = be
    · exact Or.inl e
    · exact Or.inr fun x y hx hy => by omega
  have hat := fun q : k < 256 => hI.at hbe gs hgo (show k.toNat < 256 by omega)
  have hI2 := hI
  have e17 : M1 s 17 = M s 17 := hI.1 s 17 fun q => absurd q.1 (by omega)
  have e2 : M1 s 2 = M s 2 := hI.1 s 2 fun q => absurd q.1 (by omega)
  have hv1 : tv_ok M1 := fun z => by rw [hI.1 770 z (fun q => absurd q.1 (by decide))]; exact gv z
  have hcast : ((k.toNat : Nat) : Int) = k := by omega
  have hir : k < 256 → ab_ir (M1 774 (be + k).toNat) := fun q => by
    have := (hat q).2.2.1
    rw [hcast] at this
    rw [this]
    exact gi _
  clear hI2
  refine And.intro (by
    first
      | omega
      | exact hir (by assumption)
      | exact ab_and_ir _ _
      | exact ⟨by omega, by omega⟩
      | (rw [e17]; exact ⟨by omega, by omega⟩)
      | exact ⟨⟨by omega, by omega⟩, hv1⟩
      | (rw [e2]; exact ⟨⟨by omega, by omega⟩, hv1⟩)
      | (split <;> exact ⟨by decide, by decide⟩)
      | exact ⟨by decide, by decide⟩) ?_
  refine And.intro (by
    first
      | omega
      | exact hir (by assumption)
      | exact ab_and_ir _ _
      | exact ⟨by omega, by omega⟩
      | (rw [e17]; exact ⟨by omega, by omega⟩)
      | exact ⟨⟨by omega, by omega⟩, hv1⟩
      | (rw [e2]; exact ⟨⟨by omega, by omega⟩, hv1⟩)
      | (split <;> exact ⟨by decide, by decide⟩)
      | exact ⟨by decide, by decide⟩) ?_
  refine ⟨?_, ?_⟩
  · intro c10
    refine And.intro (by
      first
        | omega
        | exact hir (by assumption)
        | exact ab_and_ir _ _
        | exact ⟨by omega, by omega⟩
        | (rw [e17]; exact ⟨by omega, by omega⟩)
        | exact ⟨⟨by omega, by omega⟩, hv1⟩
        | (rw [e2]; exact ⟨⟨by omega, by omega⟩, hv1⟩)
        | (split <;> exact ⟨by decide, by decide⟩)
        | exact ⟨by decide, by decide⟩) ?_
    rw [show k.toNat = 256 by omega] at hI
    exact gK _ _ hI
  · intro c10
    refine And.intro (by
      first
        | omega
        | exact hir (by assumption)
        | exact ab_and_ir _ _
        | exact ⟨by omega, by omega⟩
        | (rw [e17]; exact ⟨by omega, by omega⟩)
        | exact ⟨⟨by omega, by omega⟩, hv1⟩
        | (rw [e2]; exact ⟨⟨by omega, by omega⟩, hv1⟩)
        | (split <;> exact ⟨by decide, by decide⟩)
        | exact ⟨by decide, by decide⟩) ?_
    refine And.intro (by
      first
        | omega
        | exact hir (by assumption)
        | exact ab_and_ir _ _
        | exact ⟨by omega, by omega⟩
        | (rw [e17]; exact ⟨by omega, by omega⟩)
        | exact ⟨⟨by omega, by omega⟩, hv1⟩
        | (rw [e2]; exact ⟨⟨by omega, by omega⟩, hv1⟩)
        | (split <;> exact ⟨by decide, by decide⟩)
        | exact ⟨by decide, by decide⟩) ?_
    refine And.intro (by
      first
        | omega
        | exact hir (by assumption)
        | exact ab_and_ir _ _
        | exact ⟨by omega, by omega⟩
        | (rw [e17]; exact ⟨by omega, by omega⟩)
        | exact ⟨⟨by omega, by omega⟩, hv1⟩
        | (rw [e2]; exact ⟨⟨by omega, by omega⟩, hv1⟩)
        | (split <;> exact ⟨by decide, by decide⟩)
        | exact ⟨by decide, by decide⟩) ?_
    refine ⟨?_, ?_⟩
    · intro c32
      refine And.intro (by
        first
          | omega
          | exact hir (by assumption)
          | exact ab_and_ir _ _
          | exact ⟨by omega, by omega⟩
          | (rw [e17]; exact ⟨by omega, by omega⟩)
          | exact ⟨⟨by omega, by omega⟩, hv1⟩
          | (rw [e2]; exact ⟨⟨by omega, by omega⟩, hv1⟩)
          | (split <;> exact ⟨by decide, by decide⟩)
          | exact ⟨by decide, by decide⟩) ?_
      refine ⟨?_, ?_⟩
      · intro c44
        obtain ⟨-, z1, z2, z3⟩ := hat (by assumption)
        rw [hcast] at z1 z2
        refine ⟨_, ?_, rfl, rfl, rfl, rfl, by omega, by omega, hre, ?_⟩
        · omega
        rw [show (k + 1).toNat = k.toNat + 1 by omega]
        refine hI.no fun q => ?_
        obtain ⟨y1, y2, y3⟩ := q
        rw [hcast] at y1 y2 y3
        rw [← z1, ← e17] at y1
        rw [← z2] at y2
        rw [← z3, ← e2] at y3
        have y4 := (ab_and_18 _).2 y1
        first
          | exact absurd (by assumption) y4
          | exact absurd y2 (by assumption)
          | exact absurd (by assumption) y3
          | exact absurd y4 (by assumption)
          | exact absurd y3 (by assumption)
      · intro c44
        refine And.intro (by
          first
            | omega
            | exact hir (by assumption)
            | exact ab_and_ir _ _
            | exact ⟨by omega, by omega⟩
            | (rw [e17]; exact ⟨by omega, by omega⟩)
            | exact ⟨⟨by omega, by omega⟩, hv1⟩
            | (rw [e2]; exact ⟨⟨by omega, by omega⟩, hv1⟩)
            | (split <;> exact ⟨by decide, by decide⟩)
            | exact ⟨by decide, by decide⟩) ?_
        refine And.intro (by
          first
            | omega
            | exact hir (by assumption)
            | exact ab_and_ir _ _
            | exact ⟨by omega, by omega⟩
            | (rw [e17]; exact ⟨by omega, by omega⟩)
            | exact ⟨⟨by omega, by omega⟩, hv1⟩
            | (rw [e2]; exact ⟨⟨by omega, by omega⟩, hv1⟩)
            | (split <;> exact ⟨by decide, by decide⟩)
            | exact ⟨by decide, by decide⟩) ?_
        refine ⟨?_, ?_⟩
        · intro c56
          exact absurd rfl c44
        · intro c56
          refine And.intro (by
            first
              | omega
              | exact hir (by assumption)
              | exact ab_and_ir _ _
              | exact ⟨by omega, by omega⟩
              | (rw [e17]; exact ⟨by omega, by omega⟩)
              | exact ⟨⟨by omega, by omega⟩, hv1⟩
              | (rw [e2]; exact ⟨⟨by omega, by omega⟩, hv1⟩)
              | (split <;> exact ⟨by decide, by decide⟩)
              | exact ⟨by decide, by decide⟩) ?_
          intro r69 hr69
          refine And.intro (by
            first
              | omega
              | exact hir (by assumption)
              | exact ab_and_ir _ _
              | exact ⟨by omega, by omega⟩
              | (rw [e17]; exact ⟨by omega, by omega⟩)
              | exact ⟨⟨by omega, by omega⟩, hv1⟩
              | (rw [e2]; exact ⟨⟨by omega, by omega⟩, hv1⟩)
              | (split <;> exact ⟨by decide, by decide⟩)
              | exact ⟨by decide, by decide⟩) ?_
          refine ⟨?_, ?_⟩
          · intro c72
            rw [hr69] at c72
            rw [ab_bf] at c72
            clear hr69 r69
            exact absurd rfl c44
          · intro c72
            rw [hr69] at c72
            rw [ab_bt] at c72
            clear hr69 r69
            refine And.intro (by
              first
                | omega
                | exact hir (by assumption)
                | exact ab_and_ir _ _
                | exact ⟨by omega, by omega⟩
                | (rw [e17]; exact ⟨by omega, by omega⟩)
                | exact ⟨⟨by omega, by omega⟩, hv1⟩
                | (rw [e2]; exact ⟨⟨by omega, by omega⟩, hv1⟩)
                | (split <;> exact ⟨by decide, by decide⟩)
                | exact ⟨by decide, by decide⟩) ?_
            exact absurd rfl c44
    · intro c32
      refine And.intro (by
        first
          | omega
          | exact hir (by assumption)
          | exact ab_and_ir _ _
          | exact ⟨by omega, by omega⟩
          | (rw [e17]; exact ⟨by omega, by omega⟩)
          | exact ⟨⟨by omega, by omega⟩, hv1⟩
          | (rw [e2]; exact ⟨⟨by omega, by omega⟩, hv1⟩)
          | (split <;> exact ⟨by decide, by decide⟩)
          | exact ⟨by decide, by decide⟩) ?_
      refine ⟨?_, ?_⟩
      · intro c44
        exact absurd c44 (by decide)
      · intro c44
        refine And.intro (by
          first
            | omega
            | exact hir (by assumption)
            | exact ab_and_ir _ _
            | exact ⟨by omega, by omega⟩
            | (rw [e17]; exact ⟨by omega, by omega⟩)
            | exact ⟨⟨by omega, by omega⟩, hv1⟩
            | (rw [e2]; exact ⟨⟨by omega, by omega⟩, hv1⟩)
            | (split <;> exact ⟨by decide, by decide⟩)
            | exact ⟨by decide, by decide⟩) ?_
        refine And.intro (by
          first
            | omega
            | exact hir (by assumption)
            | exact ab_and_ir _ _
            | exact ⟨by omega, by omega⟩
            | (rw [e17]; exact ⟨by omega, by omega⟩)
            | exact ⟨⟨by omega, by omega⟩, hv1⟩
            | (rw [e2]; exact ⟨⟨by omega, by omega⟩, hv1⟩)
            | (split <;> exact ⟨by decide, by decide⟩)
            | exact ⟨by decide, by decide⟩) ?_
        refine ⟨?_, ?_⟩
        · intro c56
          obtain ⟨-, z1, z2, z3⟩ := hat (by assumption)
          rw [hcast] at z1 z2
          refine ⟨_, ?_, rfl, rfl, rfl, rfl, by omega, by omega, hre, ?_⟩
          · omega
          rw [show (k + 1).toNat = k.toNat + 1 by omega]
          refine hI.no fun q => ?_
          obtain ⟨y1, y2, y3⟩ := q
          rw [hcast] at y1 y2 y3
          rw [← z1, ← e17] at y1
          rw [← z2] at y2
          rw [← z3, ← e2] at y3
          have y4 := (ab_and_18 _).2 y1
          first
            | exact absurd (by assumption) y4
            | exact absurd y2 (by assumption)
            | exact absurd (by assumption) y3
            | exact absurd y4 (by assumption)
            | exact absurd y3 (by assumption)
        · intro c56
          refine And.intro (by
            first
              | omega
              | exact hir (by assumption)
              | exact ab_and_ir _ _
              | exact ⟨by omega, by omega⟩
              | (rw [e17]; exact ⟨by omega, by omega⟩)
              | exact ⟨⟨by omega, by omega⟩, hv1⟩
              | (rw [e2]; exact ⟨⟨by omega, by omega⟩, hv1⟩)
              | (split <;> exact ⟨by decide, by decide⟩)
              | exact ⟨by decide, by decide⟩) ?_
          intro r69 hr69
          refine And.intro (by
            first
              | omega
              | exact hir (by assumption)
              | exact ab_and_ir _ _
              | exact ⟨by omega, by omega⟩
              | (rw [e17]; exact ⟨by omega, by omega⟩)
              | exact ⟨⟨by omega, by omega⟩, hv1⟩
              | (rw [e2]; exact ⟨⟨by omega, by omega⟩, hv1⟩)
              | (split <;> exact ⟨by decide, by decide⟩)
              | exact ⟨by decide, by decide⟩) ?_
          refine ⟨?_, ?_⟩
          · intro c72
            rw [hr69] at c72
            rw [ab_bf] at c72
            clear hr69 r69
            obtain ⟨-, z1, z2, z3⟩ := hat (by assumption)
            rw [hcast] at z1 z2
            refine ⟨_, ?_, rfl, rfl, rfl, rfl, by omega, by omega, hre, ?_⟩
            · omega
            rw [show (k + 1).toNat = k.toNat + 1 by omega]
            refine hI.no fun q => ?_
            obtain ⟨y1, y2, y3⟩ := q
            rw [hcast] at y1 y2 y3
            rw [← z1, ← e17] at y1
            rw [← z2] at y2
            rw [← z3, ← e2] at y3
            have y4 := (ab_and_18 _).2 y1
            first
              | exact absurd (by assumption) y4
              | exact absurd y2 (by assumption)
              | exact absurd (by assumption) y3
              | exact absurd y4 (by assumption)
              | exact absurd y3 (by assumption)
          · intro c72
            rw [hr69] at c72
            rw [ab_bt] at c72
            clear hr69 r69
            refine And.intro (by
              first
                | omega
                | exact hir (by assumption)
                | exact ab_and_ir _ _
                | exact ⟨by omega, by omega⟩
                | (rw [e17]; exact ⟨by omega, by omega⟩)
                | exact ⟨⟨by omega, by omega⟩, hv1⟩
                | (rw [e2]; exact ⟨⟨by omega, by omega⟩, hv1⟩)
                | (split <;> exact ⟨by decide, by decide⟩)
                | exact ⟨by decide, by decide⟩) ?_
            obtain ⟨-, z1, z2, z3⟩ := hat (by assumption)
            rw [hcast] at z1 z2
            refine ⟨_, ?_, rfl, rfl, rfl, rfl, by omega, by omega, Or.inr rfl, ?_⟩
            · omega
            rw [show (k + 1).toNat = k.toNat + 1 by omega]
            have := hI.yes hbe (k := k.toNat) (re := re) ⟨?_, ?_, ?_⟩
            · rw [hcast] at this
              exact this
            · rw [hcast, ← z1, ← e17]
              exact (ab_and_18 _).1 (by assumption)
            · rw [hcast, ← z2]
              first
                | assumption
                | exact Decidable.not_not.1 (by assumption)
            · rw [hcast, ← z3, ← e2]
              assumption

set_option maxRecDepth 20000 in
set_option maxHeartbeats 1000000 in
theorem ok_X3_removeLeaving (E : ab_E) : ab_Ok E 2 54 S_X3_removeLeaving := by
  refine ab_mk rq_X3_removeLeaving tk_X3_removeLeaving (rt := 2) (rfl) (cuts := [5]) (G := [(81, S_X7_isTrue)]) (List.forall_mem_cons.mpr ⟨⟨1, by decide, ok_X7_isTrue E⟩, fun _ h => absurd h List.not_mem_nil⟩) (by decide) 102 rfl ?_
  intro a M K wd wa hS
  unfold S_X3_removeLeaving at hS
  split at hS
  ·
    rename_i s nn be
    refine ⟨Nat.le_of_ble_eq_true rfl, fun pc n L st M1 => match pc, L, st with
      | 5, [.inr (.inr (.inr (768, 3, 0))), .inr (.inr (.inr (s_, 4, nn_))), .inr (.inl b1), .inr (.inl re), .inr (.inl k), u6_], [] => s_ = s ∧ nn_ = nn ∧ (n = (256 - k).toNat ∧ be = b1 ∧ 0 ≤ k ∧ k ≤ 256 ∧ (re = 0 ∨ re = 1) ∧ rl_I M M1 s be re k.toNat)
      | _, _, _ => False, ?_, ?_⟩
    · exact vc_X3_removeLeaving_0 s nn be M K  hS
    · intro pc n L st M1 hI wd1 wL wst
      (try dsimp only at hI)
      split at hI
      ·
        rename_i s_ nn_ b1 re k u6_
        obtain ⟨e0_, e1_, hI⟩ := hI
        have e0_ := e0_.symm
        subst e0_
        have e1_ := e1_.symm
        subst e1_
        exact vc_X3_removeLeaving_5 s nn be M K  hS n b1 re k _ hI
      · exact hI.elim
  · exact hS.elim
