/-! the making: what the cells hold when they are made, without proof of the walk -/
def ac_sp (c o k : Nat) : Int :=
  if c = 4 then (if o = 388 ∨ o = 757 then ([0, -1, -1, -1, -1, -1, 0, 0, -1, 0, -1, -1, 0, 0, -1, 120, 121, 120, 120] : List Int).getD k 0 else 0)
  else if c = 1 ∧ k = 4 then -1 else if c = 2 ∧ k = 3 then -1 else if c = 2 ∧ k = 4 then -1 else if c = 9 ∧ k = 28 then 1 else if c = 9 ∧ k = 29 then -9 else if c = 12 ∧ k = 9 then -1 else 0
def ac_t3 (c o k : Nat) : Int := if c = 1 then (if o = 26 then 3 else 1) else if k = 0 then 1 else 395
def ac_Tc (c o k : Nat) : Int :=
  if c < 20 then (if (ab_ft c k).1 = 2 then ((ab_ft c k).2.1 : Int) else if (ab_ft c k).1 = 4 ∨ (ab_ft c k).1 = 5 then ((o + (ab_ft c k).2.1 : Nat) : Int) else if (ab_ft c k).1 = 3 then ac_t3 c o k else ac_sp c o k)
  else if c = 25 then ((o + 1 + 3 * k : Nat) : Int) else if c = 26 then (if o = 7 then ((8 + 2 * k : Nat) : Int) else ((21 + 2 * k : Nat) : Int)) else 0
/-- what cell o holds at place k when all is made -/
def ac_T (o k : Nat) : Int := ac_Tc (ab_kd o) o k
/-- places of which something is said -/
def ac_rc (c o k : Nat) : Bool := if c < 20 then Nat.blt k (ab_nf c) else if c = 25 ∨ c = 26 then Nat.blt k (ab_ln o) else !(Nat.beq o 389 || Nat.beq o 390 || Nat.beq o 758 || Nat.beq o 759)
def ac_r (o k : Nat) : Bool := ac_rc (ab_kd o) o k
/-- cells from o on are as they shall be, those before o as they were -/
def ac_KF (o n : Nat) (M M' : ab_M) : Prop := (∀ o', o' < o → ∀ k, M' o' k = M o' k) ∧ ∀ o', o ≤ o' → o' < n → ∀ k, ac_r o' k = true → M' o' k = ac_T o' k
def ac_F (o : Nat) (M M' : ab_M) : Prop := ∀ o', o' < o → ∀ k, M' o' k = M o' k
theorem ac_F.rf (o : Nat) (M : ab_M) : ac_F o M M := fun _ _ _ => rfl
theorem ac_F.up {o x j : Nat} {v : Int} {M M' : ab_M} (h : ac_F o M M') (hx : o ≤ x) : ac_F o M (ab_up M' x j v) := fun o' ho k => (ab_up_o (by omega) k).trans (h o' ho k)
theorem ac_F.nw {o n : Nat} {M M' : ab_M} (h : ac_F o M M') (hx : o ≤ n) : ac_F o M (ac_nw M' n) := fun o' ho k => (if_neg (by omega)).trans (h o' ho k)
/-- arrays of numbers are empty -/
def ac_Z (o n : Nat) (M : ab_M) : Prop := ∀ o', o ≤ o' → o' < n → 20 ≤ ab_kd o' → ab_kd o' < 25 → ∀ k, M o' k = 0
theorem ac_Z.rf (o : Nat) (M : ab_M) : ac_Z o o M := fun o' h1 h2 => absurd h1 (by omega)
theorem ac_Z.up {o n x j : Nat} {v : Int} {M : ab_M} (h : ac_Z o n M) (hx : ab_kd x < 20) : ac_Z o n (ab_up M x j v) := fun o' h1 h2 h3 h4 k => (ab_up_o (fun e => by subst e; omega) k).trans (h o' h1 h2 h3 h4 k)
theorem ac_nw_0 {M : ab_M} {n k : Nat} (h1 : 20 ≤ ab_kd n) (h2 : ab_kd n < 25) : ac_nw M n n k = 0 := by
  unfold ac_nw ac_z
  rw [if_pos rfl, if_neg (by omega), if_neg (by omega)]
theorem ac_Z.nw {o n : Nat} {M : ab_M} (h : ac_Z o n M) : ac_Z o (n + 1) (ac_nw M n) := fun o' h1 h2 h3 h4 k => by
  by_cases e : o' = n
  · subst e; exact ac_nw_0 h3 h4
  · exact (if_neg e).trans (h o' h1 (by omega) h3 h4 k)
/-- what a stretch makes doesn't depend on what was there -/
def ac_Q (o n : Nat) (M1 M2 : ab_M) : Prop := ∀ o', o ≤ o' → o' < n → ∀ k, M1 o' k = M2 o' k
theorem ac_Q.rf (o : Nat) (M1 M2 : ab_M) : ac_Q o o M1 M2 := fun o' h1 h2 => absurd h1 (by omega)
theorem ac_Q.up {o n x j : Nat} {v : Int} {M1 M2 : ab_M} (h : ac_Q o n M1 M2) : ac_Q o n (ab_up M1 x j v) (ab_up M2 x j v) := fun o' h1 h2 k => by
  rw [ab_up_a, ab_up_a, h o' h1 h2 k]
theorem ac_Q.nw {o n : Nat} {M1 M2 : ab_M} (h : ac_Q o n M1 M2) : ac_Q o (n + 1) (ac_nw M1 n) (ac_nw M2 n) := fun o' h1 h2 k => by
  unfold ac_nw
  by_cases e : o' = n
  · rw [if_pos e, if_pos e]
  · rw [if_neg e, if_neg e]; exact h o' h1 (by omega) k
def ac_ck (C : ab_M) (o i : Nat) : Bool := if ab_kd (o + i) < 20 then (List.range (ab_nf (ab_kd (o + i)))).all (fun k => decide (C (o + i) k = ac_T (o + i) k)) else decide (20 ≤ ab_kd (o + i) ∧ ab_kd (o + i) < 25)
theorem ac_T0 {o k : Nat} (h1 : 20 ≤ ab_kd o) (h2 : ab_kd o < 25) : ac_T o k = 0 := by
  unfold ac_T ac_Tc
  rw [if_neg (by omega), if_neg (by omega), if_neg (by omega)]
theorem ac_KF_of {o n : Nat} {C : ab_M → ab_M} (hF : ∀ M, ac_F o M (C M)) (hQ : ∀ M1 M2, ac_Q o n (C M1) (C M2)) (hZ : ac_Z o n (C (fun _ _ => 0))) (hc : (List.range (n - o)).all (fun i => ac_ck (C (fun _ _ => 0)) o i) = true) (M : ab_M) : ac_KF o n M (C M) := by
  refine ⟨hF M, fun o' h1 h2 k hk => ?_⟩
  rw [hQ M (fun _ _ => 0) o' h1 h2 k]
  have h := List.all_eq_true.mp hc (o' - o) (List.mem_range.mpr (by omega))
  unfold ac_ck at h
  rw [show o + (o' - o) = o' by omega] at h
  by_cases h3 : ab_kd o' < 20
  · rw [if_pos h3] at h
    unfold ac_r ac_rc at hk
    rw [if_pos h3] at hk
    have hk' : k < ab_nf (ab_kd o') := by simpa using hk
    exact of_decide_eq_true (List.all_eq_true.mp h k (List.mem_range.mpr hk'))
  · rw [if_neg h3] at h
    obtain ⟨h4, h5⟩ := of_decide_eq_true h
    rw [hZ o' h1 h2 h4 h5 k, ac_T0 h4 h5]
/-- where a text's signs lie; statements -/
def ch_X6 (o : Nat) (M : ab_M) : ab_M := ab_up (ac_nw M (o + 1)) o 0 ((o + 1 : Nat) : Int)
def ch_X4 (o : Nat) (M : ab_M) : ab_M := ab_up (ac_nw (ab_up (ac_nw M (o + 1)) o 12 ((o + 1 : Nat) : Int)) (o + 2)) o 13 ((o + 2 : Nat) : Int)
theorem ac_x6 : ([1, 3, 5, 8, 10, 12, 14, 16, 18, 21, 23] : List Nat).all (fun o => (List.range 2).all (fun i => ac_ck (ch_X6 o (ac_nw (fun _ _ => 0) o)) o i)) = true := by decide +kernel
theorem kf_X6 {o : Nat} (ho : o ∈ ([1, 3, 5, 8, 10, 12, 14, 16, 18, 21, 23] : List Nat)) (h6 : ab_kd o = 6) (M : ab_M) : ac_KF o (o + 2) M (ch_X6 o (ac_nw M o)) := by
  refine ac_KF_of (C := fun M => ch_X6 o (ac_nw M o)) (fun M => ((ac_F.rf o M).nw (Nat.le_refl _)).nw (by omega) |>.up (Nat.le_refl _)) (fun M1 M2 => ((ac_Q.rf o M1 M2).nw).nw.up) (((ac_Z.rf o _).nw).nw.up (by omega)) ?_ M
  rw [show o + 2 - o = 2 by omega]
  exact List.all_eq_true.mp ac_x6 o ho
theorem ac_f4 : (List.range 19).all (fun k => decide (k = 12 ∨ k = 13 ∨ (ab_ft 4 k).1 = 0)) = true := by decide +kernel
theorem kf_X4 {o : Nat} (h4 : ab_kd o = 4) (h1 : ab_kd (o + 1) = 20) (h2 : ab_kd (o + 2) = 20) (hn : ¬ (o = 388 ∨ o = 757)) (M : ab_M) : ac_KF o (o + 3) M (ch_X4 o (ac_nw M o)) := by
  refine ⟨((ac_F.rf o M).nw (Nat.le_refl _)).nw (by omega) |>.up (Nat.le_refl _) |>.nw (by omega) |>.up (Nat.le_refl _), fun o' g1 g2 k hk => ?_⟩
  have hZ : ac_Z o (o + 3) (ch_X4 o (ac_nw M o)) := ((ac_Z.rf o M).nw.nw.up (by omega)).nw.up (by omega)
  by_cases e : o' = o
  · subst e
    have hk' : k < 19 := by
      unfold ac_r ac_rc at hk
      rw [h4, if_pos (by decide)] at hk
      have : k < ab_nf 4 := by simpa using hk
      exact this
    unfold ac_T ac_Tc ch_X4
    rw [h4, if_pos (by decide), ab_up_a]
    by_cases e13 : k = 13
    · subst e13
      rw [if_pos ⟨rfl, rfl⟩]; rfl
    rw [if_neg (by omega)]
    unfold ac_nw
    rw [if_neg (by omega), ab_up_a]
    by_cases e12 : k = 12
    · subst e12
      rw [if_pos ⟨rfl, rfl⟩]; rfl
    rw [if_neg (by omega), if_neg (by omega), if_pos rfl]
    have h0 := of_decide_eq_true (List.all_eq_true.mp ac_f4 k (List.mem_range.mpr hk'))
    have h0' : (ab_ft 4 k).1 = 0 := by omega
    unfold ac_z ac_sp
    rw [h4, h0', if_pos (by decide), if_pos (by decide), if_neg (by decide), if_neg (by decide), if_neg (by decide), if_pos rfl, if_neg hn]
  · have h5 : 20 ≤ ab_kd o' ∧ ab_kd o' < 25 := by
      rcases (show o' = o + 1 ∨ o' = o + 2 by omega) with h | h
      · rw [h, h1]; exact ⟨by decide, by decide⟩
      · rw [h, h2]; exact ⟨by decide, by decide⟩
    rw [hZ o' g1 g2 h5.1 h5.2 k, ac_T0 h5.1 h5.2]
