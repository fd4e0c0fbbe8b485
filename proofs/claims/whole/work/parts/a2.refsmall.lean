/-! small methods of the reference -/
/-- the try around: the innermost open block that is tried -/
def tr_a (M : ab_M) : Nat → Int
  | 0 => -9
  | k + 1 => if M 806 (M 815 k).toNat = 3 then M 812 (M 815 k).toNat else tr_a M k
/-- what is set from an event on -/
def an_s (M : ab_M) (s : Nat) : Nat → Int
  | 0 => 0
  | k + 1 => ab_or (an_s M s k) (if M 805 (s + k) = 0 ∨ M 805 (s + k) = 1 ∨ M 805 (s + k) = 5 then ab_shl 1 (M 806 (s + k)) else 0)
/-- the versions of a variable at the throws of a try -/
def jv_L (M : ab_M) (its v : Int) : Nat → List Int
  | 0 => []
  | k + 1 => jv_L M its v k ++ (if M 841 k = its then [M 840 (4 * k + v.toNat)] else [])
def jv_a (L : List Int) : Prop := ∀ x ∈ L, x = L.headD (-9)
theorem jv_L_len (M : ab_M) (its v : Int) : ∀ k, (jv_L M its v k).length ≤ k
  | 0 => Nat.le_refl _
  | k + 1 => by
    have := jv_L_len M its v k
    unfold jv_L
    rw [List.length_append]
    split
    · simp only [List.length_cons, List.length_nil]; omega
    · simp only [List.length_nil]; omega

def S_X9_renew : ab_PT := fun a M K => match a with
  | [.inr (.inr (.inr (797, 9, 0))), .inr (.inl v)] => (0 ≤ v ∧ v ≤ 3) ∧ (∀ Mx : ab_M, (Mx = ab_up (ab_up M 835 v.toNat (M 835 v.toNat + 1)) 834 v.toNat (M 835 v.toNat + 1)) → K [] Mx)
  | _ => False
set_option maxRecDepth 20000 in
theorem vc_X9_renew_0 (v : Int) (M : ab_M) (K : List ab_V → ab_M → Prop) (hS : (0 ≤ v ∧ v ≤ 3) ∧ (∀ Mx : ab_M, (Mx = ab_up (ab_up M 835 v.toNat (M 835 v.toNat + 1)) 834 v.toNat (M 835 v.toNat + 1)) → K [] Mx)) : (0 ≤ v ∧ v < ((4 : Nat) : Int)) ∧ (0 ≤ v ∧ v < ((4 : Nat) : Int)) ∧ (0 ≤ v ∧ v < ((4 : Nat) : Int)) ∧ (0 ≤ v ∧ v < ((4 : Nat) : Int)) ∧ K [] (ab_up (ab_up M 835 v.toNat ((M 835 v.toNat) + (1 : Int))) 834 v.toNat ((ab_up M 835 v.toNat ((M 835 v.toNat) + (1 : Int))) 835 v.toNat)) := by
  obtain ⟨gv, gK⟩ := hS
  refine And.intro (by
    first
      | omega
      | exact ⟨by omega, by omega⟩
      | exact ⟨⟨by omega, by omega⟩, by omega, by omega⟩
      | exact ab_and_ir _ _
      | exact ⟨ab_and_ir _ _, by decide, by decide⟩
      | (split <;> exact ⟨by decide, by decide⟩)) ?_
  refine And.intro (by
    first
      | omega
      | exact ⟨by omega, by omega⟩
      | exact ⟨⟨by omega, by omega⟩, by omega, by omega⟩
      | exact ab_and_ir _ _
      | exact ⟨ab_and_ir _ _, by decide, by decide⟩
      | (split <;> exact ⟨by decide, by decide⟩)) ?_
  refine And.intro (by
    first
      | omega
      | exact ⟨by omega, by omega⟩
      | exact ⟨⟨by omega, by omega⟩, by omega, by omega⟩
      | exact ab_and_ir _ _
      | exact ⟨ab_and_ir _ _, by decide, by decide⟩
      | (split <;> exact ⟨by decide, by decide⟩)) ?_
  refine And.intro (by
    first
      | omega
      | exact ⟨by omega, by omega⟩
      | exact ⟨⟨by omega, by omega⟩, by omega, by omega⟩
      | exact ab_and_ir _ _
      | exact ⟨ab_and_ir _ _, by decide, by decide⟩
      | (split <;> exact ⟨by decide, by decide⟩)) ?_
  refine gK _ ?_
  simp only [ab_up_s]

set_option maxRecDepth 20000 in
set_option maxHeartbeats 1000000 in
theorem ok_X9_renew (E : ab_E) : ab_Ok E 1 178 S_X9_renew := by
  refine ab_mk rq_X9_renew tk_X9_renew (rt := 0) (rfl) (cuts := []) (G := []) (fun g hg => by cases hg) (by decide) 67 rfl ?_
  intro a M K wd wa hS
  unfold S_X9_renew at hS
  split at hS
  ·
    rename_i v
    refine ⟨Nat.le_of_ble_eq_true rfl, fun _ _ _ _ _ => False, ?_, ?_⟩
    · exact vc_X9_renew_0 v M K  hS
    · exact fun _ _ _ _ _ h => h.elim
  · exact hS.elim
def S_X9_keepVersions : ab_PT := fun a M K => match a with
  | [.inr (.inr (.inr (797, 9, 0))), .inr (.inr (.inr (a, 20, ln))), .inr (.inl e)] => (0 ≤ e ∧ 4 * e + 3 < ((ln : Nat) : Int) ∧ a ≠ 834 ∧ e < 100000) ∧ (∀ Mx : ab_M, (∀ o' k' : Nat, Mx o' k' = if o' = a ∧ 4 * e.toNat ≤ k' ∧ k' < 4 * e.toNat + 4 then M 834 (k' - 4 * e.toNat) else M o' k') → K [] Mx)
  | _ => False
set_option maxRecDepth 20000 in
theorem vc_X9_keepVersions_0 (a : Nat) (ln : Nat) (e : Int) (M : ab_M) (K : List ab_V → ab_M → Prop) (hS : (0 ≤ e ∧ 4 * e + 3 < ((ln : Nat) : Int) ∧ a ≠ 834 ∧ e < 100000) ∧ (∀ Mx : ab_M, (∀ o' k' : Nat, Mx o' k' = if o' = a ∧ 4 * e.toNat ≤ k' ∧ k' < 4 * e.toNat + 4 then M 834 (k' - 4 * e.toNat) else M o' k') → K [] Mx)) : (∃ n', (a = a ∧ ln = ln ∧ (n' = (4 - (0 : Int)).toNat ∧ e = e ∧ 0 ≤ (0 : Int) ∧ (0 : Int) ≤ 4 ∧ ∀ o' k' : Nat, M o' k' = if o' = a ∧ 4 * e.toNat ≤ k' ∧ k' < 4 * e.toNat + (0 : Int).toNat then M 834 (k' - 4 * e.toNat) else M o' k'))) := by
  obtain ⟨⟨g1, g2, g3, g4⟩, gK⟩ := hS
  exact ⟨_, rfl, rfl, rfl, rfl, by decide, by decide, fun o' k' => (if_neg (by omega)).symm⟩

set_option maxRecDepth 20000 in
theorem vc_X9_keepVersions_2 (a : Nat) (ln : Nat) (e : Int) (M : ab_M) (K : List ab_V → ab_M → Prop) (hS : (0 ≤ e ∧ 4 * e + 3 < ((ln : Nat) : Int) ∧ a ≠ 834 ∧ e < 100000) ∧ (∀ Mx : ab_M, (∀ o' k' : Nat, Mx o' k' = if o' = a ∧ 4 * e.toNat ≤ k' ∧ k' < 4 * e.toNat + 4 then M 834 (k' - 4 * e.toNat) else M o' k') → K [] Mx)) (n : Nat) (e1 : Int) (k : Int) (M1 : ab_M) (hI : n = (4 - k).toNat ∧ e = e1 ∧ 0 ≤ k ∧ k ≤ 4 ∧ ∀ o' k' : Nat, M1 o' k' = if o' = a ∧ 4 * e.toNat ≤ k' ∧ k' < 4 * e.toNat + k.toNat then M 834 (k' - 4 * e.toNat) else M o' k') : (ab_ir k ∧ ab_ir (4 : Int)) ∧ (((4 : Int) ≤ k → K [] M1) ∧ (k < (4 : Int) → (0 ≤ k ∧ k < ((4 : Nat) : Int)) ∧ (0 ≤ (((4 : Int) * e1) + k) ∧ (((4 : Int) * e1) + k) < ((ln : Nat) : Int)) ∧ (∃ n', n' < n ∧ (a = a ∧ ln = ln ∧ (n' = (4 - (k + 1)).toNat ∧ e = e1 ∧ 0 ≤ (k + 1) ∧ (k + 1) ≤ 4 ∧ ∀ o' k' : Nat, (ab_up M1 a ((((4 : Int) * e1) + k).toNat) (M1 834 k.toNat)) o' k' = if o' = a ∧ 4 * e.toNat ≤ k' ∧ k' < 4 * e.toNat + (k + 1).toNat then M 834 (k' - 4 * e.toNat) else M o' k'))))) := by
  obtain ⟨hn, q1, hk0, hk1, hI⟩ := hI
  subst q1
  obtain ⟨⟨g1, g2, g3, g4⟩, gK⟩ := hS
  refine And.intro (by
    first
      | omega
      | exact ⟨by omega, by omega⟩
      | exact ⟨⟨by omega, by omega⟩, by omega, by omega⟩
      | exact ab_and_ir _ _
      | exact ⟨ab_and_ir _ _, by decide, by decide⟩
      | (split <;> exact ⟨by decide, by decide⟩)) ?_
  refine ⟨?_, ?_⟩
  · intro c4
    have hk : k = 4 := by omega
    subst hk
    exact gK _ hI
  · intro c4
    refine And.intro (by
      first
        | omega
        | exact ⟨by omega, by omega⟩
        | exact ⟨⟨by omega, by omega⟩, by omega, by omega⟩
        | exact ab_and_ir _ _
        | exact ⟨ab_and_ir _ _, by decide, by decide⟩
        | (split <;> exact ⟨by decide, by decide⟩)) ?_
    refine And.intro (by
      first
        | omega
        | exact ⟨by omega, by omega⟩
        | exact ⟨⟨by omega, by omega⟩, by omega, by omega⟩
        | exact ab_and_ir _ _
        | exact ⟨ab_and_ir _ _, by decide, by decide⟩
        | (split <;> exact ⟨by decide, by decide⟩)) ?_
    refine ⟨_, ?_, rfl, rfl, rfl, rfl, by omega, by omega, fun o' k' => ?_⟩
    · omega
    by_cases q : o' = a ∧ k' = (4 * e + k).toNat
    · rw [q.1, q.2, ab_up_s, if_pos ⟨rfl, by omega, by omega⟩, hI 834 k.toNat, if_neg (fun z => g3 z.1.symm)]
      congr 1
      omega
    · rw [up_ne q, hI o' k']
      by_cases c : o' = a ∧ 4 * e.toNat ≤ k' ∧ k' < 4 * e.toNat + k.toNat
      · rw [if_pos c, if_pos ⟨c.1, c.2.1, by omega⟩]
      · rw [if_neg c, if_neg (fun z => c ⟨z.1, z.2.1, by have := z.2.2; have : ¬ k' = (4 * e + k).toNat := fun w => q ⟨z.1, w⟩; omega⟩)]

set_option maxRecDepth 20000 in
set_option maxHeartbeats 1000000 in
theorem ok_X9_keepVersions (E : ab_E) : ab_Ok E 1 154 S_X9_keepVersions := by
  refine ab_mk rq_X9_keepVersions tk_X9_keepVersions (rt := 0) (rfl) (cuts := [2]) (G := []) (fun g hg => by cases hg) (by decide) 69 rfl ?_
  intro a M K wd wa hS
  unfold S_X9_keepVersions at hS
  split at hS
  ·
    rename_i a ln e
    refine ⟨Nat.le_of_ble_eq_true rfl, fun pc n L st M1 => match pc, L, st with
      | 2, [.inr (.inr (.inr (797, 9, 0))), .inr (.inr (.inr (a_, 20, ln_))), .inr (.inl e1), .inr (.inl k)], [] => a_ = a ∧ ln_ = ln ∧ (n = (4 - k).toNat ∧ e = e1 ∧ 0 ≤ k ∧ k ≤ 4 ∧ ∀ o' k' : Nat, M1 o' k' = if o' = a ∧ 4 * e.toNat ≤ k' ∧ k' < 4 * e.toNat + k.toNat then M 834 (k' - 4 * e.toNat) else M o' k')
      | _, _, _ => False, ?_, ?_⟩
    · exact vc_X9_keepVersions_0 a ln e M K  hS
    · intro pc n L st M1 hI wd1 wL wst
      (try dsimp only at hI)
      split at hI
      ·
        rename_i a_ ln_ e1 k
        obtain ⟨e0_, e1_, hI⟩ := hI
        have e0_ := e0_.symm
        subst e0_
        have e1_ := e1_.symm
        subst e1_
        exact vc_X9_keepVersions_2 a ln e M K  hS n e1 k _ hI
      · exact hI.elim
  · exact hS.elim
def S_X9_layVersions : ab_PT := fun a M K => match a with
  | [.inr (.inr (.inr (797, 9, 0))), .inr (.inr (.inr (a, 20, ln))), .inr (.inl e)] => (0 ≤ e ∧ 4 * e + 3 < ((ln : Nat) : Int) ∧ a ≠ 834 ∧ e < 100000) ∧ (∀ Mx : ab_M, (∀ o' k' : Nat, Mx o' k' = if o' = 834 ∧ k' < 4 then M a (4 * e.toNat + k') else M o' k') → K [] Mx)
  | _ => False
set_option maxRecDepth 20000 in
theorem vc_X9_layVersions_0 (a : Nat) (ln : Nat) (e : Int) (M : ab_M) (K : List ab_V → ab_M → Prop) (hS : (0 ≤ e ∧ 4 * e + 3 < ((ln : Nat) : Int) ∧ a ≠ 834 ∧ e < 100000) ∧ (∀ Mx : ab_M, (∀ o' k' : Nat, Mx o' k' = if o' = 834 ∧ k' < 4 then M a (4 * e.toNat + k') else M o' k') → K [] Mx)) : (∃ n', (a = a ∧ ln = ln ∧ (n' = (4 - (0 : Int)).toNat ∧ e = e ∧ 0 ≤ (0 : Int) ∧ (0 : Int) ≤ 4 ∧ ∀ o' k' : Nat, M o' k' = if o' = 834 ∧ k' < (0 : Int).toNat then M a (4 * e.toNat + k') else M o' k'))) := by
  obtain ⟨⟨g1, g2, g3, g4⟩, gK⟩ := hS
  exact ⟨_, rfl, rfl, rfl, rfl, by decide, by decide, fun o' k' => (if_neg (by omega)).symm⟩

set_option maxRecDepth 20000 in
theorem vc_X9_layVersions_2 (a : Nat) (ln : Nat) (e : Int) (M : ab_M) (K : List ab_V → ab_M → Prop) (hS : (0 ≤ e ∧ 4 * e + 3 < ((ln : Nat) : Int) ∧ a ≠ 834 ∧ e < 100000) ∧ (∀ Mx : ab_M, (∀ o' k' : Nat, Mx o' k' = if o' = 834 ∧ k' < 4 then M a (4 * e.toNat + k') else M o' k') → K [] Mx)) (n : Nat) (e1 : Int) (k : Int) (M1 : ab_M) (hI : n = (4 - k).toNat ∧ e = e1 ∧ 0 ≤ k ∧ k ≤ 4 ∧ ∀ o' k' : Nat, M1 o' k' = if o' = 834 ∧ k' < k.toNat then M a (4 * e.toNat + k') else M o' k') : (ab_ir k ∧ ab_ir (4 : Int)) ∧ (((4 : Int) ≤ k → K [] M1) ∧ (k < (4 : Int) → (0 ≤ (((4 : Int) * e1) + k) ∧ (((4 : Int) * e1) + k) < ((ln : Nat) : Int)) ∧ (0 ≤ k ∧ k < ((4 : Nat) : Int)) ∧ (∃ n', n' < n ∧ (a = a ∧ ln = ln ∧ (n' = (4 - (k + 1)).toNat ∧ e = e1 ∧ 0 ≤ (k + 1) ∧ (k + 1) ≤ 4 ∧ ∀ o' k' : Nat, (ab_up M1 834 k.toNat (M1 a ((((4 : Int) * e1) + k).toNat))) o' k' = if o' = 834 ∧ k' < (k + 1).toNat then M a (4 * e.toNat + k') else M o' k'))))) := by
  obtain ⟨hn, q1, hk0, hk1, hI⟩ := hI
  subst q1
  obtain ⟨⟨g1, g2, g3, g4⟩, gK⟩ := hS
  refine And.intro (by
    first
      | omega
      | exact ⟨by omega, by omega⟩
      | exact ⟨⟨by omega, by omega⟩, by omega, by omega⟩
      | exact ab_and_ir _ _
      | exact ⟨ab_and_ir _ _, by decide, by decide⟩
      | (split <;> exact ⟨by decide, by decide⟩)) ?_
  refine ⟨?_, ?_⟩
  · intro c4
    have hk : k = 4 := by omega
    subst hk
    exact gK _ hI
  · intro c4
    refine And.intro (by
      first
        | omega
        | exact ⟨by omega, by omega⟩
        | exact ⟨⟨by omega, by omega⟩, by omega, by omega⟩
        | exact ab_and_ir _ _
        | exact ⟨ab_and_ir _ _, by decide, by decide⟩
        | (split <;> exact ⟨by decide, by decide⟩)) ?_
    refine And.intro (by
      first
        | omega
        | exact ⟨by omega, by omega⟩
        | exact ⟨⟨by omega, by omega⟩, by omega, by omega⟩
        | exact ab_and_ir _ _
        | exact ⟨ab_and_ir _ _, by decide, by decide⟩
        | (split <;> exact ⟨by decide, by decide⟩)) ?_
    refine ⟨_, ?_, rfl, rfl, rfl, rfl, by omega, by omega, fun o' k' => ?_⟩
    · omega
    by_cases q : o' = 834 ∧ k' = k.toNat
    · rw [q.1, q.2, ab_up_s, if_pos ⟨rfl, by omega⟩, hI a (4 * e + k).toNat, if_neg (fun z => g3 z.1)]
      congr 1
      omega
    · rw [up_ne q, hI o' k']
      by_cases c : o' = 834 ∧ k' < k.toNat
      · rw [if_pos c, if_pos ⟨c.1, by omega⟩]
      · rw [if_neg c, if_neg (fun z => c ⟨z.1, by have := z.2; have : ¬ k' = k.toNat := fun w => q ⟨z.1, w⟩; omega⟩)]

set_option maxRecDepth 20000 in
set_option maxHeartbeats 1000000 in
theorem ok_X9_layVersions (E : ab_E) : ab_Ok E 1 158 S_X9_layVersions := by
  refine ab_mk rq_X9_layVersions tk_X9_layVersions (rt := 0) (rfl) (cuts := [2]) (G := []) (fun g hg => by cases hg) (by decide) 69 rfl ?_
  intro a M K wd wa hS
  unfold S_X9_layVersions at hS
  split at hS
  ·
    rename_i a ln e
    refine ⟨Nat.le_of_ble_eq_true rfl, fun pc n L st M1 => match pc, L, st with
      | 2, [.inr (.inr (.inr (797, 9, 0))), .inr (.inr (.inr (a_, 20, ln_))), .inr (.inl e1), .inr (.inl k)], [] => a_ = a ∧ ln_ = ln ∧ (n = (4 - k).toNat ∧ e = e1 ∧ 0 ≤ k ∧ k ≤ 4 ∧ ∀ o' k' : Nat, M1 o' k' = if o' = 834 ∧ k' < k.toNat then M a (4 * e.toNat + k') else M o' k')
      | _, _, _ => False, ?_, ?_⟩
    · exact vc_X9_layVersions_0 a ln e M K  hS
    · intro pc n L st M1 hI wd1 wL wst
      (try dsimp only at hI)
      split at hI
      ·
        rename_i a_ ln_ e1 k
        obtain ⟨e0_, e1_, hI⟩ := hI
        have e0_ := e0_.symm
        subst e0_
        have e1_ := e1_.symm
        subst e1_
        exact vc_X9_layVersions_2 a ln e M K  hS n e1 k _ hI
      · exact hI.elim
  · exact hS.elim
def S_X9_tryAround : ab_PT := fun a M K => match a with
  | [.inr (.inr (.inr (797, 9, 0)))] => ((0 ≤ M 797 27 ∧ M 797 27 ≤ 130) ∧ ∀ k : Nat, (k : Int) < M 797 27 → 0 ≤ M 815 k ∧ M 815 k < 400 ∧ ab_ir (M 806 (M 815 k).toNat)) ∧ (∀ rx : Int, (rx = tr_a M (M 797 27).toNat) → K [Xi rx] M)
  | _ => False
set_option maxRecDepth 20000 in
theorem vc_X9_tryAround_0  (M : ab_M) (K : List ab_V → ab_M → Prop) (hS : ((0 ≤ M 797 27 ∧ M 797 27 ≤ 130) ∧ ∀ k : Nat, (k : Int) < M 797 27 → 0 ≤ M 815 k ∧ M 815 k < 400 ∧ ab_ir (M 806 (M 815 k).toNat)) ∧ (∀ rx : Int, (rx = tr_a M (M 797 27).toNat) → K [Xi rx] M)) : (∃ n', ((n' = (((M 797 27) - (1 : Int)) + 1).toNat ∧ -1 ≤ ((M 797 27) - (1 : Int)) ∧ ((M 797 27) - (1 : Int)) < M 797 27 ∧ M = M ∧ tr_a M (M 797 27).toNat = tr_a M (((M 797 27) - (1 : Int)) + 1).toNat))) := by
  obtain ⟨⟨g1, g2⟩, gK⟩ := hS
  refine ⟨_, rfl, by omega, by omega, rfl, ?_⟩
  rw [show M 797 27 - 1 + 1 = M 797 27 by omega]

set_option maxRecDepth 20000 in
theorem vc_X9_tryAround_7  (M : ab_M) (K : List ab_V → ab_M → Prop) (hS : ((0 ≤ M 797 27 ∧ M 797 27 ≤ 130) ∧ ∀ k : Nat, (k : Int) < M 797 27 → 0 ≤ M 815 k ∧ M 815 k < 400 ∧ ab_ir (M 806 (M 815 k).toNat)) ∧ (∀ rx : Int, (rx = tr_a M (M 797 27).toNat) → K [Xi rx] M)) (n : Nat) (k : Int) (M1 : ab_M) (hI : n = (k + 1).toNat ∧ -1 ≤ k ∧ k < M 797 27 ∧ M = M1 ∧ tr_a M (M 797 27).toNat = tr_a M (k + 1).toNat) : (ab_ir k) ∧ ((k < 0 → (-128 ≤ (-9 : Int) ∧ (-9 : Int) < 128) ∧ K [Xi (-9 : Int)] M1) ∧ (0 ≤ k → (0 ≤ k ∧ k < ((130 : Nat) : Int)) ∧ (0 ≤ (M1 815 k.toNat) ∧ (M1 815 k.toNat) < ((400 : Nat) : Int)) ∧ (ab_ir (M1 806 ((M1 815 k.toNat).toNat)) ∧ ab_ir (3 : Int)) ∧ ((¬ (M1 806 ((M1 815 k.toNat).toNat)) = (3 : Int) → (∃ n', n' < n ∧ ((n' = ((k + (-1)) + 1).toNat ∧ -1 ≤ (k + (-1)) ∧ (k + (-1)) < M 797 27 ∧ M = M1 ∧ tr_a M (M 797 27).toNat = tr_a M ((k + (-1)) + 1).toNat)))) ∧ ((M1 806 ((M1 815 k.toNat).toNat)) = (3 : Int) → (0 ≤ k ∧ k < ((130 : Nat) : Int)) ∧ (0 ≤ (M1 815 k.toNat) ∧ (M1 815 k.toNat) < ((400 : Nat) : Int)) ∧ K [Xi (M1 812 ((M1 815 k.toNat).toNat))] M1)))) := by
  obtain ⟨hn, hk0, hk1, q1, hI⟩ := hI
  subst q1
  obtain ⟨⟨g1, g2⟩, gK⟩ := hS
  have g3 : 0 ≤ k → 0 ≤ M 815 k.toNat ∧ M 815 k.toNat < 400 ∧ ab_ir (M 806 (M 815 k.toNat).toNat) := fun q => g2 k.toNat (by omega)
  refine And.intro (by
    first
      | omega
      | exact ⟨by omega, by omega⟩
      | (have := g3 (by omega); exact ⟨by omega, by omega⟩)
      | (have := g3 (by omega); exact ⟨this.2.2, by decide, by decide⟩)) ?_
  refine ⟨?_, ?_⟩
  · intro c8
    refine And.intro (by
      first
        | omega
        | exact ⟨by omega, by omega⟩
        | (have := g3 (by omega); exact ⟨by omega, by omega⟩)
        | (have := g3 (by omega); exact ⟨this.2.2, by decide, by decide⟩)) ?_
    refine gK _ ?_
    rw [hI, show (k + 1).toNat = 0 by omega]
    rfl
  · intro c8
    refine And.intro (by
      first
        | omega
        | exact ⟨by omega, by omega⟩
        | (have := g3 (by omega); exact ⟨by omega, by omega⟩)
        | (have := g3 (by omega); exact ⟨this.2.2, by decide, by decide⟩)) ?_
    refine And.intro (by
      first
        | omega
        | exact ⟨by omega, by omega⟩
        | (have := g3 (by omega); exact ⟨by omega, by omega⟩)
        | (have := g3 (by omega); exact ⟨this.2.2, by decide, by decide⟩)) ?_
    refine And.intro (by
      first
        | omega
        | exact ⟨by omega, by omega⟩
        | (have := g3 (by omega); exact ⟨by omega, by omega⟩)
        | (have := g3 (by omega); exact ⟨this.2.2, by decide, by decide⟩)) ?_
    refine ⟨?_, ?_⟩
    · intro c23
      refine ⟨_, by omega, rfl, by omega, by omega, rfl, ?_⟩
      rw [hI, show (k + 1).toNat = k.toNat + 1 by omega]
      show (if M 806 (M 815 k.toNat).toNat = 3 then _ else tr_a M k.toNat) = _
      rw [if_neg (by assumption), show (k + -1 + 1).toNat = k.toNat by omega]
    · intro c23
      refine And.intro (by
        first
          | omega
          | exact ⟨by omega, by omega⟩
          | (have := g3 (by omega); exact ⟨by omega, by omega⟩)
          | (have := g3 (by omega); exact ⟨this.2.2, by decide, by decide⟩)) ?_
      refine And.intro (by
        first
          | omega
          | exact ⟨by omega, by omega⟩
          | (have := g3 (by omega); exact ⟨by omega, by omega⟩)
          | (have := g3 (by omega); exact ⟨this.2.2, by decide, by decide⟩)) ?_
      refine gK _ ?_
      rw [hI, show (k + 1).toNat = k.toNat + 1 by omega]
      show _ = (if M 806 (M 815 k.toNat).toNat = 3 then M 812 (M 815 k.toNat).toNat else tr_a M k.toNat)
      rw [if_pos (by assumption)]

set_option maxRecDepth 20000 in
set_option maxHeartbeats 1000000 in
theorem ok_X9_tryAround (E : ab_E) : ab_Ok E 1 186 S_X9_tryAround := by
  refine ab_mk rq_X9_tryAround tk_X9_tryAround (rt := 1) (rfl) (cuts := [7]) (G := []) (fun g hg => by cases hg) (by decide) 78 rfl ?_
  intro a M K wd wa hS
  unfold S_X9_tryAround at hS
  split at hS
  ·
    refine ⟨Nat.le_of_ble_eq_true rfl, fun pc n L st M1 => match pc, L, st with
      | 7, [.inr (.inr (.inr (797, 9, 0))), .inr (.inl k)], [] => (n = (k + 1).toNat ∧ -1 ≤ k ∧ k < M 797 27 ∧ M = M1 ∧ tr_a M (M 797 27).toNat = tr_a M (k + 1).toNat)
      | _, _, _ => False, ?_, ?_⟩
    · exact vc_X9_tryAround_0  M K  hS
    · intro pc n L st M1 hI wd1 wL wst
      (try dsimp only at hI)
      split at hI
      ·
        rename_i k
        exact vc_X9_tryAround_7  M K  hS n k _ hI
      · exact hI.elim
  · exact hS.elim
def S_X9_has : ab_PT := fun a M K => match a with
  | [.inr (.inl x), .inr (.inl k)] => (True) ∧ (∀ rx : Int, (rx = if ab_and (ab_shr x k) 1 = 1 then 1 else 0) → K [Xi rx] M)
  | _ => False
set_option maxRecDepth 20000 in
theorem vc_X9_has_0 (x : Int) (k : Int) (M : ab_M) (K : List ab_V → ab_M → Prop) (hS : (True) ∧ (∀ rx : Int, (rx = if ab_and (ab_shr x k) 1 = 1 then 1 else 0) → K [Xi rx] M)) : (ab_ir (ab_and (ab_shr x k) (1 : Int)) ∧ ab_ir (1 : Int)) ∧ ((¬ (ab_and (ab_shr x k) (1 : Int)) = (1 : Int) → ((0 : Int) = 0 ∨ (0 : Int) = 1) ∧ K [Xi (0 : Int)] M) ∧ ((ab_and (ab_shr x k) (1 : Int)) = (1 : Int) → ((1 : Int) = 0 ∨ (1 : Int) = 1) ∧ K [Xi (1 : Int)] M)) := by
  obtain ⟨-, gK⟩ := hS
  refine And.intro (by
    first
      | omega
      | exact ⟨by omega, by omega⟩
      | exact ⟨⟨by omega, by omega⟩, by omega, by omega⟩
      | exact ab_and_ir _ _
      | exact ⟨ab_and_ir _ _, by decide, by decide⟩
      | (split <;> exact ⟨by decide, by decide⟩)) ?_
  refine ⟨?_, ?_⟩
  · intro c6
    refine And.intro (by
      first
        | omega
        | exact ⟨by omega, by omega⟩
        | exact ⟨⟨by omega, by omega⟩, by omega, by omega⟩
        | exact ab_and_ir _ _
        | exact ⟨ab_and_ir _ _, by decide, by decide⟩
        | (split <;> exact ⟨by decide, by decide⟩)) ?_
    refine gK _ ?_
    first
      | (rw [if_pos (by assumption)]; done)
      | (rw [if_neg (by assumption)]; done)
  · intro c6
    refine And.intro (by
      first
        | omega
        | exact ⟨by omega, by omega⟩
        | exact ⟨⟨by omega, by omega⟩, by omega, by omega⟩
        | exact ab_and_ir _ _
        | exact ⟨ab_and_ir _ _, by decide, by decide⟩
        | (split <;> exact ⟨by decide, by decide⟩)) ?_
    refine gK _ ?_
    first
      | (rw [if_pos (by assumption)]; done)
      | (rw [if_neg (by assumption)]; done)

set_option maxRecDepth 20000 in
set_option maxHeartbeats 1000000 in
theorem ok_X9_has (E : ab_E) : ab_Ok E 1 143 S_X9_has := by
  refine ab_mk rq_X9_has tk_X9_has (rt := 2) (rfl) (cuts := []) (G := []) (fun g hg => by cases hg) (by decide) 61 rfl ?_
  intro a M K wd wa hS
  unfold S_X9_has at hS
  split at hS
  ·
    rename_i x k
    refine ⟨Nat.le_of_ble_eq_true rfl, fun _ _ _ _ _ => False, ?_, ?_⟩
    · exact vc_X9_has_0 x k M K  hS
    · exact fun _ _ _ _ _ h => h.elim
  · exact hS.elim
def S_X9_with : ab_PT := fun a M K => match a with
  | [.inr (.inl x), .inr (.inl v), .inr (.inl y)] => (True) ∧ (∀ rx : Int, (rx = pz_sw x v y) → K [Xi rx] M)
  | _ => False
set_option maxRecDepth 20000 in
theorem vc_X9_with_0 (x : Int) (v : Int) (y : Int) (M : ab_M) (K : List ab_V → ab_M → Prop) (hS : (True) ∧ (∀ rx : Int, (rx = pz_sw x v y) → K [Xi rx] M)) : (-128 ≤ (6 : Int) ∧ (6 : Int) < 128) ∧ K [Xi (ab_or (ab_and x (ab_xor (ab_shl (3 : Int) ((6 : Int) - ((2 : Int) * v))) (-1 : Int))) (ab_shl y ((6 : Int) - ((2 : Int) * v))))] M := by
  obtain ⟨-, gK⟩ := hS
  refine And.intro (by
    first
      | omega
      | exact ⟨by omega, by omega⟩
      | exact ⟨⟨by omega, by omega⟩, by omega, by omega⟩
      | exact ab_and_ir _ _
      | exact ⟨ab_and_ir _ _, by decide, by decide⟩
      | (split <;> exact ⟨by decide, by decide⟩)) ?_
  exact gK _ rfl

set_option maxRecDepth 20000 in
set_option maxHeartbeats 1000000 in
theorem ok_X9_with (E : ab_E) : ab_Ok E 1 191 S_X9_with := by
  refine ab_mk rq_X9_with tk_X9_with (rt := 1) (rfl) (cuts := []) (G := []) (fun g hg => by cases hg) (by decide) 68 rfl ?_
  intro a M K wd wa hS
  unfold S_X9_with at hS
  split at hS
  ·
    rename_i x v y
    refine ⟨Nat.le_of_ble_eq_true rfl, fun _ _ _ _ _ => False, ?_, ?_⟩
    · exact vc_X9_with_0 x v y M K  hS
    · exact fun _ _ _ _ _ h => h.elim
  · exact hS.elim
def S_X9_anyOf : ab_PT := fun a M K => match a with
  | [.inr (.inr (.inr (797, 9, 0))), .inr (.inl its)] => (0 ≤ its ∧ ∃ ce : Nat, its < (ce : Int) ∧ ce < 400 ∧ M 805 ce = 10 ∧ M 812 ce = its ∧ ∀ j : Nat, j ≤ ce → ab_ir (M 805 j) ∧ (M 805 j = 10 → ab_ir (M 812 j))) ∧ (∀ rx : Int, (∃ n : Nat, rx = an_s M (its.toNat + 1) n ∧ its.toNat + 1 + n < 400 ∧ (M 805 (its.toNat + 1 + n) = 10 ∧ M 812 (its.toNat + 1 + n) = its) ∧ ∀ j : Nat, j < n → ¬ (M 805 (its.toNat + 1 + j) = 10 ∧ M 812 (its.toNat + 1 + j) = its)) → K [Xi rx] M)
  | _ => False
set_option maxRecDepth 20000 in
theorem vc_X9_anyOf_0 (its : Int) (M : ab_M) (K : List ab_V → ab_M → Prop) (hS : (0 ≤ its ∧ ∃ ce : Nat, its < (ce : Int) ∧ ce < 400 ∧ M 805 ce = 10 ∧ M 812 ce = its ∧ ∀ j : Nat, j ≤ ce → ab_ir (M 805 j) ∧ (M 805 j = 10 → ab_ir (M 812 j))) ∧ (∀ rx : Int, (∃ n : Nat, rx = an_s M (its.toNat + 1) n ∧ its.toNat + 1 + n < 400 ∧ (M 805 (its.toNat + 1 + n) = 10 ∧ M 812 (its.toNat + 1 + n) = its) ∧ ∀ j : Nat, j < n → ¬ (M 805 (its.toNat + 1 + j) = 10 ∧ M 812 (its.toNat + 1 + j) = its)) → K [Xi rx] M)) : (∃ n', ((n' = (400 - (its + (1 : Int))).toNat ∧ its = its ∧ M = M ∧ its < (its + (1 : Int)) ∧ (its + (1 : Int)) < 400 ∧ (0 : Int) = an_s M (its.toNat + 1) ((its + (1 : Int)) - its - 1).toNat ∧ (∀ j : Nat, (its.toNat + 1 + j : Nat) < (its + (1 : Int)).toNat → ¬ (M 805 (its.toNat + 1 + j) = 10 ∧ M 812 (its.toNat + 1 + j) = its)) ∧ ∃ ce : Nat, (its + (1 : Int)) ≤ (ce : Int) ∧ ce < 400 ∧ M 805 ce = 10 ∧ M 812 ce = its ∧ ∀ j : Nat, j ≤ ce → ab_ir (M 805 j) ∧ (M 805 j = 10 → ab_ir (M 812 j))))) := by
  obtain ⟨⟨g1, ce, g2, g3, g4, g5, g6⟩, gK⟩ := hS
  refine ⟨_, rfl, rfl, rfl, by omega, by omega, ?_, fun j hj => by omega, ce, by omega, g3, g4, g5, g6⟩
  rw [show (its + 1 - its - 1).toNat = 0 by omega]
  rfl

set_option maxRecDepth 20000 in
theorem vc_X9_anyOf_6 (its : Int) (M : ab_M) (K : List ab_V → ab_M → Prop) (hS : (0 ≤ its ∧ ∃ ce : Nat, its < (ce : Int) ∧ ce < 400 ∧ M 805 ce = 10 ∧ M 812 ce = its ∧ ∀ j : Nat, j ≤ ce → ab_ir (M 805 j) ∧ (M 805 j = 10 → ab_ir (M 812 j))) ∧ (∀ rx : Int, (∃ n : Nat, rx = an_s M (its.toNat + 1) n ∧ its.toNat + 1 + n < 400 ∧ (M 805 (its.toNat + 1 + n) = 10 ∧ M 812 (its.toNat + 1 + n) = its) ∧ ∀ j : Nat, j < n → ¬ (M 805 (its.toNat + 1 + j) = 10 ∧ M 812 (its.toNat + 1 + j) = its)) → K [Xi rx] M)) (n : Nat) (its1 : Int) (m : Int) (e : Int) (M1 : ab_M) (hI : n = (400 - e).toNat ∧ its = its1 ∧ M = M1 ∧ its < e ∧ e < 400 ∧ m = an_s M (its.toNat + 1) (e - its - 1).toNat ∧ (∀ j : Nat, (its.toNat + 1 + j : Nat) < e.toNat → ¬ (M 805 (its.toNat + 1 + j) = 10 ∧ M 812 (its.toNat + 1 + j) = its)) ∧ ∃ ce : Nat, e ≤ (ce : Int) ∧ ce < 400 ∧ M 805 ce = 10 ∧ M 812 ce = its ∧ ∀ j : Nat, j ≤ ce → ab_ir (M 805 j) ∧ (M 805 j = 10 → ab_ir (M 812 j))) : (0 ≤ e ∧ e < ((400 : Nat) : Int)) ∧ (-128 ≤ (10 : Int) ∧ (10 : Int) < 128) ∧ (ab_ir (M1 805 e.toNat) ∧ ab_ir (10 : Int)) ∧ ((¬ (M1 805 e.toNat) = (10 : Int) → (0 ≤ e ∧ e < ((400 : Nat) : Int)) ∧ (ab_ir (M1 805 e.toNat)) ∧ (((M1 805 e.toNat) = 0 → (0 ≤ e ∧ e < ((400 : Nat) : Int)) ∧ (∃ n', n' < n ∧ ((n' = (400 - (e + 1)).toNat ∧ its = its1 ∧ M = M1 ∧ its < (e + 1) ∧ (e + 1) < 400 ∧ (ab_or m (ab_shl (1 : Int) (M1 806 e.toNat))) = an_s M (its.toNat + 1) ((e + 1) - its - 1).toNat ∧ (∀ j : Nat, (its.toNat + 1 + j : Nat) < (e + 1).toNat → ¬ (M 805 (its.toNat + 1 + j) = 10 ∧ M 812 (its.toNat + 1 + j) = its)) ∧ ∃ ce : Nat, (e + 1) ≤ (ce : Int) ∧ ce < 400 ∧ M 805 ce = 10 ∧ M 812 ce = its ∧ ∀ j : Nat, j ≤ ce → ab_ir (M 805 j) ∧ (M 805 j = 10 → ab_ir (M 812 j)))))) ∧ (¬ (M1 805 e.toNat) = 0 → (0 ≤ e ∧ e < ((400 : Nat) : Int)) ∧ (ab_ir (M1 805 e.toNat) ∧ ab_ir (1 : Int)) ∧ (((M1 805 e.toNat) = (1 : Int) → (0 ≤ e ∧ e < ((400 : Nat) : Int)) ∧ (∃ n', n' < n ∧ ((n' = (400 - (e + 1)).toNat ∧ its = its1 ∧ M = M1 ∧ its < (e + 1) ∧ (e + 1) < 400 ∧ (ab_or m (ab_shl (1 : Int) (M1 806 e.toNat))) = an_s M (its.toNat + 1) ((e + 1) - its - 1).toNat ∧ (∀ j : Nat, (its.toNat + 1 + j : Nat) < (e + 1).toNat → ¬ (M 805 (its.toNat + 1 + j) = 10 ∧ M 812 (its.toNat + 1 + j) = its)) ∧ ∃ ce : Nat, (e + 1) ≤ (ce : Int) ∧ ce < 400 ∧ M 805 ce = 10 ∧ M 812 ce = its ∧ ∀ j : Nat, j ≤ ce → ab_ir (M 805 j) ∧ (M 805 j = 10 → ab_ir (M 812 j)))))) ∧ (¬ (M1 805 e.toNat) = (1 : Int) → (0 ≤ e ∧ e < ((400 : Nat) : Int)) ∧ (ab_ir (M1 805 e.toNat) ∧ ab_ir (5 : Int)) ∧ ((¬ (M1 805 e.toNat) = (5 : Int) → (∃ n', n' < n ∧ ((n' = (400 - (e + 1)).toNat ∧ its = its1 ∧ M = M1 ∧ its < (e + 1) ∧ (e + 1) < 400 ∧ (ab_or m (0 : Int)) = an_s M (its.toNat + 1) ((e + 1) - its - 1).toNat ∧ (∀ j : Nat, (its.toNat + 1 + j : Nat) < (e + 1).toNat → ¬ (M 805 (its.toNat + 1 + j) = 10 ∧ M 812 (its.toNat + 1 + j) = its)) ∧ ∃ ce : Nat, (e + 1) ≤ (ce : Int) ∧ ce < 400 ∧ M 805 ce = 10 ∧ M 812 ce = its ∧ ∀ j : Nat, j ≤ ce → ab_ir (M 805 j) ∧ (M 805 j = 10 → ab_ir (M 812 j)))))) ∧ ((M1 805 e.toNat) = (5 : Int) → (0 ≤ e ∧ e < ((400 : Nat) : Int)) ∧ (∃ n', n' < n ∧ ((n' = (400 - (e + 1)).toNat ∧ its = its1 ∧ M = M1 ∧ its < (e + 1) ∧ (e + 1) < 400 ∧ (ab_or m (ab_shl (1 : Int) (M1 806 e.toNat))) = an_s M (its.toNat + 1) ((e + 1) - its - 1).toNat ∧ (∀ j : Nat, (its.toNat + 1 + j : Nat) < (e + 1).toNat → ¬ (M 805 (its.toNat + 1 + j) = 10 ∧ M 812 (its.toNat + 1 + j) = its)) ∧ ∃ ce : Nat, (e + 1) ≤ (ce : Int) ∧ ce < 400 ∧ M 805 ce = 10 ∧ M 812 ce = its ∧ ∀ j : Nat, j ≤ ce → ab_ir (M 805 j) ∧ (M 805 j = 10 → ab_ir (M 812 j)))))))))))) ∧ ((M1 805 e.toNat) = (10 : Int) → (0 ≤ e ∧ e < ((400 : Nat) : Int)) ∧ (ab_ir (M1 812 e.toNat) ∧ ab_ir its1) ∧ (((M1 812 e.toNat) = its1 → K [Xi m] M1) ∧ (¬ (M1 812 e.toNat) = its1 → (0 ≤ e ∧ e < ((400 : Nat) : Int)) ∧ (ab_ir (M1 805 e.toNat)) ∧ (((M1 805 e.toNat) = 0 → (0 ≤ e ∧ e < ((400 : Nat) : Int)) ∧ (∃ n', n' < n ∧ ((n' = (400 - (e + 1)).toNat ∧ its = its1 ∧ M = M1 ∧ its < (e + 1) ∧ (e + 1) < 400 ∧ (ab_or m (ab_shl (1 : Int) (M1 806 e.toNat))) = an_s M (its.toNat + 1) ((e + 1) - its - 1).toNat ∧ (∀ j : Nat, (its.toNat + 1 + j : Nat) < (e + 1).toNat → ¬ (M 805 (its.toNat + 1 + j) = 10 ∧ M 812 (its.toNat + 1 + j) = its)) ∧ ∃ ce : Nat, (e + 1) ≤ (ce : Int) ∧ ce < 400 ∧ M 805 ce = 10 ∧ M 812 ce = its ∧ ∀ j : Nat, j ≤ ce → ab_ir (M 805 j) ∧ (M 805 j = 10 → ab_ir (M 812 j)))))) ∧ (¬ (M1 805 e.toNat) = 0 → (0 ≤ e ∧ e < ((400 : Nat) : Int)) ∧ (ab_ir (M1 805 e.toNat) ∧ ab_ir (1 : Int)) ∧ (((M1 805 e.toNat) = (1 : Int) → (0 ≤ e ∧ e < ((400 : Nat) : Int)) ∧ (∃ n', n' < n ∧ ((n' = (400 - (e + 1)).toNat ∧ its = its1 ∧ M = M1 ∧ its < (e + 1) ∧ (e + 1) < 400 ∧ (ab_or m (ab_shl (1 : Int) (M1 806 e.toNat))) = an_s M (its.toNat + 1) ((e + 1) - its - 1).toNat ∧ (∀ j : Nat, (its.toNat + 1 + j : Nat) < (e + 1).toNat → ¬ (M 805 (its.toNat + 1 + j) = 10 ∧ M 812 (its.toNat + 1 + j) = its)) ∧ ∃ ce : Nat, (e + 1) ≤ (ce : Int) ∧ ce < 400 ∧ M 805 ce = 10 ∧ M 812 ce = its ∧ ∀ j : Nat, j ≤ ce → ab_ir (M 805 j) ∧ (M 805 j = 10 → ab_ir (M 812 j)))))) ∧ (¬ (M1 805 e.toNat) = (1 : Int) → (0 ≤ e ∧ e < ((400 : Nat) : Int)) ∧ (ab_ir (M1 805 e.toNat) ∧ ab_ir (5 : Int)) ∧ ((¬ (M1 805 e.toNat) = (5 : Int) → (∃ n', n' < n ∧ ((n' = (400 - (e + 1)).toNat ∧ its = its1 ∧ M = M1 ∧ its < (e + 1) ∧ (e + 1) < 400 ∧ (ab_or m (0 : Int)) = an_s M (its.toNat + 1) ((e + 1) - its - 1).toNat ∧ (∀ j : Nat, (its.toNat + 1 + j : Nat) < (e + 1).toNat → ¬ (M 805 (its.toNat + 1 + j) = 10 ∧ M 812 (its.toNat + 1 + j) = its)) ∧ ∃ ce : Nat, (e + 1) ≤ (ce : Int) ∧ ce < 400 ∧ M 805 ce = 10 ∧ M 812 ce = its ∧ ∀ j : Nat, j ≤ ce → ab_ir (M 805 j) ∧ (M 805 j = 10 → ab_ir (M 812 j)))))) ∧ ((M1 805 e.toNat) = (5 : Int) → (0 ≤ e ∧ e < ((400 : Nat) : Int)) ∧ (∃ n', n' < n ∧ ((n' = (400 - (e + 1)).toNat ∧ its = its1 ∧ M = M1 ∧ its < (e + 1) ∧ (e + 1) < 400 ∧ (ab_or m (ab_shl (1 : Int) (M1 806 e.toNat))) = an_s M (its.toNat + 1) ((e + 1) - its - 1).toNat ∧ (∀ j : Nat, (its.toNat + 1 + j : Nat) < (e + 1).toNat → ¬ (M 805 (its.toNat + 1 + j) = 10 ∧ M 812 (its.toNat + 1 + j) = its)) ∧ ∃ ce : Nat, (e + 1) ≤ (ce : Int) ∧ ce < 400 ∧ M 805 ce = 10 ∧ M 812 ce = its ∧ ∀ j : Nat, j ≤ ce → ab_ir (M 805 j) ∧ (M 805 j = 10 → ab_ir (M 812 j))))))))))))))) := by
  obtain ⟨hn, q1, q2, he0, he1, hm, hno, ce, c1, c2, c3, c4, g6⟩ := hI
  subst q1
  subst q2
  obtain ⟨⟨g1, -⟩, gK⟩ := hS
  have g7 := g6 e.toNat (by omega)
  have he : its.toNat + 1 + (e - its - 1).toNat = e.toNat := by omega
  refine And.intro (by
    first
      | omega
      | exact ⟨by omega, by omega⟩
      | exact ⟨g7.1, by decide, by decide⟩
      | exact g7.1
      | exact ⟨g7.2 (by assumption), by omega, by omega⟩) ?_
  refine And.intro (by
    first
      | omega
      | exact ⟨by omega, by omega⟩
      | exact ⟨g7.1, by decide, by decide⟩
      | exact g7.1
      | exact ⟨g7.2 (by assumption), by omega, by omega⟩) ?_
  refine And.intro (by
    first
      | omega
      | exact ⟨by omega, by omega⟩
      | exact ⟨g7.1, by decide, by decide⟩
      | exact g7.1
      | exact ⟨g7.2 (by assumption), by omega, by omega⟩) ?_
  refine ⟨?_, ?_⟩
  · intro c14
    refine And.intro (by
      first
        | omega
        | exact ⟨by omega, by omega⟩
        | exact ⟨g7.1, by decide, by decide⟩
        | exact g7.1
        | exact ⟨g7.2 (by assumption), by omega, by omega⟩) ?_
    refine And.intro (by
      first
        | omega
        | exact ⟨by omega, by omega⟩
        | exact ⟨g7.1, by decide, by decide⟩
        | exact g7.1
        | exact ⟨g7.2 (by assumption), by omega, by omega⟩) ?_
    refine ⟨?_, ?_⟩
    · intro c34
      refine And.intro (by
        first
          | omega
          | exact ⟨by omega, by omega⟩
          | exact ⟨g7.1, by decide, by decide⟩
          | exact g7.1
          | exact ⟨g7.2 (by assumption), by omega, by omega⟩) ?_
      have hne : ¬ (M 805 e.toNat = 10 ∧ M 812 e.toNat = its) := fun z => by
        first
          | exact absurd z.1 (by assumption)
          | exact absurd z.2 (by assumption)
      have hce : ce ≠ e.toNat := fun z => hne (by rw [← z]; exact ⟨c3, c4⟩)
      refine ⟨_, ?_, rfl, rfl, rfl, by omega, by omega, ?_, fun j hj => ?_, ce, by omega, c2, c3, c4, g6⟩
      · omega
      · rw [show (e + 1 - its - 1).toNat = (e - its - 1).toNat + 1 by omega]
        unfold an_s
        rw [he, ← hm]
        first
          | (rw [if_pos (Or.inl (by assumption))]; done)
          | (rw [if_pos (Or.inr (Or.inl (by assumption)))]; done)
          | (rw [if_pos (Or.inr (Or.inr (by assumption)))]; done)
          | (rw [if_neg (fun z => by rcases z with z | z | z <;> exact absurd z (by assumption))]; done)
      · by_cases c : its.toNat + 1 + j < e.toNat
        · exact hno j c
        · rw [show its.toNat + 1 + j = e.toNat by omega]
          exact hne
    · intro c34
      refine And.intro (by
        first
          | omega
          | exact ⟨by omega, by omega⟩
          | exact ⟨g7.1, by decide, by decide⟩
          | exact g7.1
          | exact ⟨g7.2 (by assumption), by omega, by omega⟩) ?_
      refine And.intro (by
        first
          | omega
          | exact ⟨by omega, by omega⟩
          | exact ⟨g7.1, by decide, by decide⟩
          | exact g7.1
          | exact ⟨g7.2 (by assumption), by omega, by omega⟩) ?_
      refine ⟨?_, ?_⟩
      · intro c44
        refine And.intro (by
          first
            | omega
            | exact ⟨by omega, by omega⟩
            | exact ⟨g7.1, by decide, by decide⟩
            | exact g7.1
            | exact ⟨g7.2 (by assumption), by omega, by omega⟩) ?_
        have hne : ¬ (M 805 e.toNat = 10 ∧ M 812 e.toNat = its) := fun z => by
          first
            | exact absurd z.1 (by assumption)
            | exact absurd z.2 (by assumption)
        have hce : ce ≠ e.toNat := fun z => hne (by rw [← z]; exact ⟨c3, c4⟩)
        refine ⟨_, ?_, rfl, rfl, rfl, by omega, by omega, ?_, fun j hj => ?_, ce, by omega, c2, c3, c4, g6⟩
        · omega
        · rw [show (e + 1 - its - 1).toNat = (e - its - 1).toNat + 1 by omega]
          unfold an_s
          rw [he, ← hm]
          first
            | (rw [if_pos (Or.inl (by assumption))]; done)
            | (rw [if_pos (Or.inr (Or.inl (by assumption)))]; done)
            | (rw [if_pos (Or.inr (Or.inr (by assumption)))]; done)
            | (rw [if_neg (fun z => by rcases z with z | z | z <;> exact absurd z (by assumption))]; done)
        · by_cases c : its.toNat + 1 + j < e.toNat
          · exact hno j c
          · rw [show its.toNat + 1 + j = e.toNat by omega]
            exact hne
      · intro c44
        refine And.intro (by
          first
            | omega
            | exact ⟨by omega, by omega⟩
            | exact ⟨g7.1, by decide, by decide⟩
            | exact g7.1
            | exact ⟨g7.2 (by assumption), by omega, by omega⟩) ?_
        refine And.intro (by
          first
            | omega
            | exact ⟨by omega, by omega⟩
            | exact ⟨g7.1, by decide, by decide⟩
            | exact g7.1
            | exact ⟨g7.2 (by assumption), by omega, by omega⟩) ?_
        refine ⟨?_, ?_⟩
        · intro c54
          have hne : ¬ (M 805 e.toNat = 10 ∧ M 812 e.toNat = its) := fun z => by
            first
              | exact absurd z.1 (by assumption)
              | exact absurd z.2 (by assumption)
          have hce : ce ≠ e.toNat := fun z => hne (by rw [← z]; exact ⟨c3, c4⟩)
          refine ⟨_, ?_, rfl, rfl, rfl, by omega, by omega, ?_, fun j hj => ?_, ce, by omega, c2, c3, c4, g6⟩
          · omega
          · rw [show (e + 1 - its - 1).toNat = (e - its - 1).toNat + 1 by omega]
            unfold an_s
            rw [he, ← hm]
            first
              | (rw [if_pos (Or.inl (by assumption))]; done)
              | (rw [if_pos (Or.inr (Or.inl (by assumption)))]; done)
              | (rw [if_pos (Or.inr (Or.inr (by assumption)))]; done)
              | (rw [if_neg (fun z => by rcases z with z | z | z <;> exact absurd z (by assumption))]; done)
          · by_cases c : its.toNat + 1 + j < e.toNat
            · exact hno j c
            · rw [show its.toNat + 1 + j = e.toNat by omega]
              exact hne
        · intro c54
          refine And.intro (by
            first
              | omega
              | exact ⟨by omega, by omega⟩
              | exact ⟨g7.1, by decide, by decide⟩
              | exact g7.1
              | exact ⟨g7.2 (by assumption), by omega, by omega⟩) ?_
          have hne : ¬ (M 805 e.toNat = 10 ∧ M 812 e.toNat = its) := fun z => by
            first
              | exact absurd z.1 (by assumption)
              | exact absurd z.2 (by assumption)
          have hce : ce ≠ e.toNat := fun z => hne (by rw [← z]; exact ⟨c3, c4⟩)
          refine ⟨_, ?_, rfl, rfl, rfl, by omega, by omega, ?_, fun j hj => ?_, ce, by omega, c2, c3, c4, g6⟩
          · omega
          · rw [show (e + 1 - its - 1).toNat = (e - its - 1).toNat + 1 by omega]
            unfold an_s
            rw [he, ← hm]
            first
              | (rw [if_pos (Or.inl (by assumption))]; done)
              | (rw [if_pos (Or.inr (Or.inl (by assumption)))]; done)
              | (rw [if_pos (Or.inr (Or.inr (by assumption)))]; done)
              | (rw [if_neg (fun z => by rcases z with z | z | z <;> exact absurd z (by assumption))]; done)
          · by_cases c : its.toNat + 1 + j < e.toNat
            · exact hno j c
            · rw [show its.toNat + 1 + j = e.toNat by omega]
              exact hne
  · intro c14
    refine And.intro (by
      first
        | omega
        | exact ⟨by omega, by omega⟩
        | exact ⟨g7.1, by decide, by decide⟩
        | exact g7.1
        | exact ⟨g7.2 (by assumption), by omega, by omega⟩) ?_
    refine And.intro (by
      first
        | omega
        | exact ⟨by omega, by omega⟩
        | exact ⟨g7.1, by decide, by decide⟩
        | exact g7.1
        | exact ⟨g7.2 (by assumption), by omega, by omega⟩) ?_
    refine ⟨?_, ?_⟩
    · intro c24
      refine gK _ ⟨(e - its - 1).toNat, hm, by omega, ?_, fun j hj => hno j (by omega)⟩
      rw [he]
      exact ⟨by assumption, by assumption⟩
    · intro c24
      refine And.intro (by
        first
          | omega
          | exact ⟨by omega, by omega⟩
          | exact ⟨g7.1, by decide, by decide⟩
          | exact g7.1
          | exact ⟨g7.2 (by assumption), by omega, by omega⟩) ?_
      refine And.intro (by
        first
          | omega
          | exact ⟨by omega, by omega⟩
          | exact ⟨g7.1, by decide, by decide⟩
          | exact g7.1
          | exact ⟨g7.2 (by assumption), by omega, by omega⟩) ?_
      refine ⟨?_, ?_⟩
      · intro c34
        refine And.intro (by
          first
            | omega
            | exact ⟨by omega, by omega⟩
            | exact ⟨g7.1, by decide, by decide⟩
            | exact g7.1
            | exact ⟨g7.2 (by assumption), by omega, by omega⟩) ?_
        have hne : ¬ (M 805 e.toNat = 10 ∧ M 812 e.toNat = its) := fun z => by
          first
            | exact absurd z.1 (by assumption)
            | exact absurd z.2 (by assumption)
        have hce : ce ≠ e.toNat := fun z => hne (by rw [← z]; exact ⟨c3, c4⟩)
        refine ⟨_, ?_, rfl, rfl, rfl, by omega, by omega, ?_, fun j hj => ?_, ce, by omega, c2, c3, c4, g6⟩
        · omega
        · rw [show (e + 1 - its - 1).toNat = (e - its - 1).toNat + 1 by omega]
          unfold an_s
          rw [he, ← hm]
          first
            | (rw [if_pos (Or.inl (by assumption))]; done)
            | (rw [if_pos (Or.inr (Or.inl (by assumption)))]; done)
            | (rw [if_pos (Or.inr (Or.inr (by assumption)))]; done)
            | (rw [if_neg (fun z => by rcases z with z | z | z <;> exact absurd z (by assumption))]; done)
        · by_cases c : its.toNat + 1 + j < e.toNat
          · exact hno j c
          · rw [show its.toNat + 1 + j = e.toNat by omega]
            exact hne
      · intro c34
        refine And.intro (by
          first
            | omega
            | exact ⟨by omega, by omega⟩
            | exact ⟨g7.1, by decide, by decide⟩
            | exact g7.1
            | exact ⟨g7.2 (by assumption), by omega, by omega⟩) ?_
        refine And.intro (by
          first
            | omega
            | exact ⟨by omega, by omega⟩
            | exact ⟨g7.1, by decide, by decide⟩
            | exact g7.1
            | exact ⟨g7.2 (by assumption), by omega, by omega⟩) ?_
        refine ⟨?_, ?_⟩
        · intro c44
          refine And.intro (by
            first
              | omega
              | exact ⟨by omega, by omega⟩
              | exact ⟨g7.1, by decide, by decide⟩
              | exact g7.1
              | exact ⟨g7.2 (by assumption), by omega, by omega⟩) ?_
          have hne : ¬ (M 805 e.toNat = 10 ∧ M 812 e.toNat = its) := fun z => by
            first
              | exact absurd z.1 (by assumption)
              | exact absurd z.2 (by assumption)
          have hce : ce ≠ e.toNat := fun z => hne (by rw [← z]; exact ⟨c3, c4⟩)
          refine ⟨_, ?_, rfl, rfl, rfl, by omega, by omega, ?_, fun j hj => ?_, ce, by omega, c2, c3, c4, g6⟩
          · omega
          · rw [show (e + 1 - its - 1).toNat = (e - its - 1).toNat + 1 by omega]
            unfold an_s
            rw [he, ← hm]
            first
              | (rw [if_pos (Or.inl (by assumption))]; done)
              | (rw [if_pos (Or.inr (Or.inl (by assumption)))]; done)
              | (rw [if_pos (Or.inr (Or.inr (by assumption)))]; done)
              | (rw [if_neg (fun z => by rcases z with z | z | z <;> exact absurd z (by assumption))]; done)
          · by_cases c : its.toNat + 1 + j < e.toNat
            · exact hno j c
            · rw [show its.toNat + 1 + j = e.toNat by omega]
              exact hne
        · intro c44
          refine And.intro (by
            first
              | omega
              | exact ⟨by omega, by omega⟩
              | exact ⟨g7.1, by decide, by decide⟩
              | exact g7.1
              | exact ⟨g7.2 (by assumption), by omega, by omega⟩) ?_
          refine And.intro (by
            first
              | omega
              | exact ⟨by omega, by omega⟩
              | exact ⟨g7.1, by decide, by decide⟩
              | exact g7.1
              | exact ⟨g7.2 (by assumption), by omega, by omega⟩) ?_
          refine ⟨?_, ?_⟩
          · intro c54
            have hne : ¬ (M 805 e.toNat = 10 ∧ M 812 e.toNat = its) := fun z => by
              first
                | exact absurd z.1 (by assumption)
                | exact absurd z.2 (by assumption)
            have hce : ce ≠ e.toNat := fun z => hne (by rw [← z]; exact ⟨c3, c4⟩)
            refine ⟨_, ?_, rfl, rfl, rfl, by omega, by omega, ?_, fun j hj => ?_, ce, by omega, c2, c3, c4, g6⟩
            · omega
            · rw [show (e + 1 - its - 1).toNat = (e - its - 1).toNat + 1 by omega]
              unfold an_s
              rw [he, ← hm]
              first
                | (rw [if_pos (Or.inl (by assumption))]; done)
                | (rw [if_pos (Or.inr (Or.inl (by assumption)))]; done)
                | (rw [if_pos (Or.inr (Or.inr (by assumption)))]; done)
                | (rw [if_neg (fun z => by rcases z with z | z | z <;> exact absurd z (by assumption))]; done)
            · by_cases c : its.toNat + 1 + j < e.toNat
              · exact hno j c
              · rw [show its.toNat + 1 + j = e.toNat by omega]
                exact hne
          · intro c54
            refine And.intro (by
              first
                | omega
                | exact ⟨by omega, by omega⟩
                | exact ⟨g7.1, by decide, by decide⟩
                | exact g7.1
                | exact ⟨g7.2 (by assumption), by omega, by omega⟩) ?_
            have hne : ¬ (M 805 e.toNat = 10 ∧ M 812 e.toNat = its) := fun z => by
              first
                | exact absurd z.1 (by assumption)
                | exact absurd z.2 (by assumption)
            have hce : ce ≠ e.toNat := fun z => hne (by rw [← z]; exact ⟨c3, c4⟩)
            refine ⟨_, ?_, rfl, rfl, rfl, by omega, by omega, ?_, fun j hj => ?_, ce, by omega, c2, c3, c4, g6⟩
            · omega
            · rw [show (e + 1 - its - 1).toNat = (e - its - 1).toNat + 1 by omega]
              unfold an_s
              rw [he, ← hm]
              first
                | (rw [if_pos (Or.inl (by assumption))]; done)
                | (rw [if_pos (Or.inr (Or.inl (by assumption)))]; done)
                | (rw [if_pos (Or.inr (Or.inr (by assumption)))]; done)
                | (rw [if_neg (fun z => by rcases z with z | z | z <;> exact absurd z (by assumption))]; done)
            · by_cases c : its.toNat + 1 + j < e.toNat
              · exact hno j c
              · rw [show its.toNat + 1 + j = e.toNat by omega]
                exact hne

set_option maxRecDepth 20000 in
set_option maxHeartbeats 1000000 in
theorem ok_X9_anyOf (E : ab_E) : ab_Ok E 1 119 S_X9_anyOf := by
  refine ab_mk rq_X9_anyOf tk_X9_anyOf (rt := 1) (rfl) (cuts := [6]) (G := []) (fun g hg => by cases hg) (by decide) 100 rfl ?_
  intro a M K wd wa hS
  unfold S_X9_anyOf at hS
  split at hS
  ·
    rename_i its
    refine ⟨Nat.le_of_ble_eq_true rfl, fun pc n L st M1 => match pc, L, st with
      | 6, [.inr (.inr (.inr (797, 9, 0))), .inr (.inl its1), .inr (.inl m), .inr (.inl e)], [] => (n = (400 - e).toNat ∧ its = its1 ∧ M = M1 ∧ its < e ∧ e < 400 ∧ m = an_s M (its.toNat + 1) (e - its - 1).toNat ∧ (∀ j : Nat, (its.toNat + 1 + j : Nat) < e.toNat → ¬ (M 805 (its.toNat + 1 + j) = 10 ∧ M 812 (its.toNat + 1 + j) = its)) ∧ ∃ ce : Nat, e ≤ (ce : Int) ∧ ce < 400 ∧ M 805 ce = 10 ∧ M 812 ce = its ∧ ∀ j : Nat, j ≤ ce → ab_ir (M 805 j) ∧ (M 805 j = 10 → ab_ir (M 812 j)))
      | _, _, _ => False, ?_, ?_⟩
    · exact vc_X9_anyOf_0 its M K  hS
    · intro pc n L st M1 hI wd1 wL wst
      (try dsimp only at hI)
      split at hI
      ·
        rename_i its1 m e
        exact vc_X9_anyOf_6 its M K  hS n its1 m e _ hI
      · exact hI.elim
  · exact hS.elim
