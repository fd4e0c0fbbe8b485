/-! joins of the reference -/
theorem jv_a_add {L : List Int} {x : Int} : jv_a (L ++ [x]) ↔ jv_a L ∧ (L = [] ∨ x = L.headD (-9)) := by
  cases L with
  | nil =>
    refine ⟨fun _ => ⟨fun y h => absurd h List.not_mem_nil, Or.inl rfl⟩, fun _ y h => ?_⟩
    rw [List.nil_append] at h
    exact List.mem_singleton.1 h
  | cons a l =>
    have e : ((a :: l) ++ [x]).headD (-9) = (a :: l).headD (-9) := rfl
    unfold jv_a
    rw [e]
    constructor
    · intro h
      exact ⟨fun y hy => h y (List.mem_append.2 (Or.inl hy)), Or.inr (h x (List.mem_append.2 (Or.inr List.mem_cons_self)))⟩
    · rintro ⟨h1, h2⟩ y hy
      rcases List.mem_append.1 hy with q | q
      · exact h1 y q
      · rw [List.mem_singleton.1 q]
        rcases h2 with h2 | h2
        · exact absurd h2 (by simp)
        · exact h2
theorem jv_hd_add {L : List Int} {x : Int} : (L ++ [x]).headD (-9) = if L = [] then x else L.headD (-9) := by
  cases L with
  | nil => rfl
  | cons a l => rw [if_neg (by simp)]; rfl
theorem ps_cnt_s (S : Nat → Bool) {k : Nat} (hk : k < 4) : ps_cnt (fun v => decide (v < k + 1) && S v) = ps_cnt (fun v => decide (v < k) && S v) + if S k = true then 1 else 0 := by
  have : k = 0 ∨ k = 1 ∨ k = 2 ∨ k = 3 := by omega
  unfold ps_cnt
  rcases this with rfl | rfl | rfl | rfl <;> simp <;> omega
theorem ps_cnt_0 (S : Nat → Bool) : ps_cnt (fun v => decide (v < 0) && S v) = 0 := by
  unfold ps_cnt
  simp
theorem ps_cnt_4 (S : Nat → Bool) : ps_cnt (fun v => decide (v < 4) && S v) = ps_cnt S := by
  unfold ps_cnt
  simp
/-- which versions behind a first block differ from those now -/
def jb_S (M : ab_M) (e : Nat) (v : Nat) : Bool := decide (v < 4 ∧ M 837 (4 * e + v) ≠ M 834 v)
def jb_f (M M' : ab_M) : Prop := ∀ o k : Nat, ¬ (o = 834 ∧ k < 4) → ¬ (o = 835 ∧ k < 4) → ¬ (o = 797 ∧ (k = 57 ∨ k = 58)) → M' o k = M o k
def jb_k (M M1 : ab_M) (e k : Nat) : Prop := (∀ v, v < 4 → M1 835 v = (rn_k (M 835, 0, 0) (M 834) (jb_S M e) k).1.1 v) ∧ (∀ v, v < 4 → M1 834 v = (rn_k (M 835, 0, 0) (M 834) (jb_S M e) k).2 v) ∧ M1 797 58 = M 797 58 + 2 * ps_cnt (fun v => decide (v < k) && jb_S M e v) ∧ M1 797 57 = M 797 57 ∧ jb_f M M1
def jb_P (M M' : ab_M) (e : Nat) : Prop := (M 838 e = 1 ∧ M 797 57 = 1 → jb_k M M' e 4) ∧ (M 838 e = 1 ∧ M 797 57 = 0 → (∀ v, v < 4 → M' 834 v = M 837 (4 * e + v)) ∧ (∀ v, v < 4 → M' 835 v = M 835 v) ∧ M' 797 58 = M 797 58 ∧ M' 797 57 = 1 ∧ jb_f M M') ∧ (M 838 e = 0 → M' = M)
theorem jb_k.start (M : ab_M) (e : Nat) : jb_k M M e 0 := by
  obtain ⟨z1, z2⟩ := rn_k_0 (M 835, 0, 0) (M 834) (jb_S M e)
  refine ⟨fun v _ => (z1 v).symm, fun v _ => (z2 v).symm, ?_, rfl, fun _ _ _ _ _ => rfl⟩
  rw [ps_cnt_0]
  omega
theorem jb_k.skip {M M1 : ab_M} {e k : Nat} (h : jb_k M M1 e k) (hk : k < 4) (hS : ¬ jb_S M e k = true) : jb_k M M1 e (k + 1) := by
  obtain ⟨h1, h2, h3, h4, h5⟩ := h
  obtain ⟨s1, s2⟩ := rn_k_s (M 835, 0, 0) (M 834) (jb_S M e) k
  refine ⟨fun v hv => ?_, fun v hv => ?_, ?_, h4, h5⟩
  · rw [s1 v, if_neg (show ¬ (v = k ∧ jb_S M e k = true) from fun q => hS q.2)]; exact h1 v hv
  · rw [s2 v, if_neg (show ¬ (v = k ∧ jb_S M e k = true) from fun q => hS q.2)]; exact h2 v hv
  · rw [h3, ps_cnt_s _ hk, if_neg hS]
    omega
theorem jb_k.step {M M1 M2 : ab_M} {e k : Nat} (h : jb_k M M1 e k) (hk : k < 4) (hS : jb_S M e k = true) (h2' : M2 = ab_up (ab_up (ab_up M1 835 k (M1 835 k + 1)) 834 k (M1 835 k + 1)) 797 58 (M1 797 58 + 2)) : jb_k M M2 e (k + 1) := by
  obtain ⟨h1, h2, h3, h4, h5⟩ := h
  obtain ⟨s1, s2⟩ := rn_k_s (M 835, 0, 0) (M 834) (jb_S M e) k
  have hkk : M1 835 k = M 835 k := by
    rw [h1 k hk]
    show M 835 k + (if (decide (k < k) && jb_S M e k) = true then 1 else 0) = _
    rw [decide_eq_false (Nat.lt_irrefl _)]
    simp
  subst h2'
  refine ⟨fun v hv => ?_, fun v hv => ?_, ?_, ?_, fun o j q1 q2 q3 => ?_⟩
  · rw [s1 v, ab_up_o (by decide), ab_up_o (by decide)]
    by_cases c : v = k
    · subst c
      rw [ab_up_s, if_pos (show v = v ∧ jb_S M e v = true from ⟨rfl, hS⟩), hkk]
    · rw [ab_up_k c, if_neg (show ¬ (v = k ∧ jb_S M e k = true) from fun q => c q.1)]; exact h1 v hv
  · rw [s2 v, ab_up_o (by decide)]
    by_cases c : v = k
    · subst c
      rw [ab_up_s, if_pos (show v = v ∧ jb_S M e v = true from ⟨rfl, hS⟩), hkk]
    · rw [ab_up_k c, ab_up_o (by decide), if_neg (show ¬ (v = k ∧ jb_S M e k = true) from fun q => c q.1)]; exact h2 v hv
  · rw [ab_up_s, h3, ps_cnt_s _ hk, if_pos hS]
    omega
  · rw [ab_up_k (by decide), ab_up_o (by decide), ab_up_o (by decide)]; exact h4
  · rw [up_ne (fun z => q3 ⟨z.1, Or.inr z.2⟩), up_ne (fun z => q1 ⟨z.1, by omega⟩), up_ne (fun z => q2 ⟨z.1, by omega⟩)]
    exact h5 o j q1 q2 q3

def S_X9_joinVariable : ab_PT := fun a M K => match a with
  | [.inr (.inr (.inr (797, 9, 0))), .inr (.inl v), .inr (.inl fr), .inr (.inl to), .inr (.inl its)] => ((0 ≤ v ∧ v ≤ 3) ∧ fr = 0 ∧ (0 ≤ to ∧ to ≤ 130) ∧ ab_ir its ∧ ∀ k : Nat, (k : Int) < to → ab_ir (M 841 k) ∧ ab_ir (M 840 (4 * k + v.toNat))) ∧ (∀ Mx : ab_M, ((jv_a (jv_L M its v to.toNat) → Mx = ab_up M 834 v.toNat ((jv_L M its v to.toNat).headD (-9))) ∧ (¬ jv_a (jv_L M its v to.toNat) → Mx = ab_up (ab_up (ab_up M 835 v.toNat (M 835 v.toNat + 1)) 834 v.toNat (M 835 v.toNat + 1)) 797 58 (M 797 58 + (((jv_L M its v to.toNat).length : Nat) : Int)))) → K [] Mx)
  | _ => False
set_option maxRecDepth 20000 in
theorem vc_X9_joinVariable_0 (v : Int) (fr : Int) (to : Int) (its : Int) (M : ab_M) (K : List ab_V → ab_M → Prop) (hS : ((0 ≤ v ∧ v ≤ 3) ∧ fr = 0 ∧ (0 ≤ to ∧ to ≤ 130) ∧ ab_ir its ∧ ∀ k : Nat, (k : Int) < to → ab_ir (M 841 k) ∧ ab_ir (M 840 (4 * k + v.toNat))) ∧ (∀ Mx : ab_M, ((jv_a (jv_L M its v to.toNat) → Mx = ab_up M 834 v.toNat ((jv_L M its v to.toNat).headD (-9))) ∧ (¬ jv_a (jv_L M its v to.toNat) → Mx = ab_up (ab_up (ab_up M 835 v.toNat (M 835 v.toNat + 1)) 834 v.toNat (M 835 v.toNat + 1)) 797 58 (M 797 58 + (((jv_L M its v to.toNat).length : Nat) : Int)))) → K [] Mx)) : (-128 ≤ (-9 : Int) ∧ (-9 : Int) < 128) ∧ (∃ n', ((n' = (to - fr).toNat ∧ v = v ∧ fr = fr ∧ to = to ∧ its = its ∧ M = M ∧ 0 ≤ fr ∧ fr ≤ to ∧ (0 : Int) = (((jv_L M its v fr.toNat).length : Nat) : Int) ∧ (-9 : Int) = (jv_L M its v fr.toNat).headD (-9) ∧ ((1 : Int) = 1 ∧ jv_a (jv_L M its v fr.toNat) ∨ (1 : Int) = 0 ∧ ¬ jv_a (jv_L M its v fr.toNat))))) := by
  obtain ⟨⟨⟨gv0, gv1⟩, gf, ⟨gt0, gt1⟩, gi, gr⟩, gK⟩ := hS
  subst gf
  refine And.intro (by
    first
      | omega
      | exact ⟨by omega, by omega⟩
      | exact ⟨⟨by omega, by omega⟩, by omega, by omega⟩
      | exact ⟨(gk (by omega)).1, gi⟩
      | (rw [ei]; exact ⟨(gk (by omega)).2, hfr⟩)
      | (split <;> exact ⟨by decide, by decide⟩)) ?_
  exact ⟨_, rfl, rfl, rfl, rfl, rfl, rfl, by decide, gt0, rfl, rfl, Or.inl ⟨rfl, fun x h => absurd h List.not_mem_nil⟩⟩

set_option maxRecDepth 20000 in
theorem vc_X9_joinVariable_13 (v : Int) (fr : Int) (to : Int) (its : Int) (M : ab_M) (K : List ab_V → ab_M → Prop) (hS : ((0 ≤ v ∧ v ≤ 3) ∧ fr = 0 ∧ (0 ≤ to ∧ to ≤ 130) ∧ ab_ir its ∧ ∀ k : Nat, (k : Int) < to → ab_ir (M 841 k) ∧ ab_ir (M 840 (4 * k + v.toNat))) ∧ (∀ Mx : ab_M, ((jv_a (jv_L M its v to.toNat) → Mx = ab_up M 834 v.toNat ((jv_L M its v to.toNat).headD (-9))) ∧ (¬ jv_a (jv_L M its v to.toNat) → Mx = ab_up (ab_up (ab_up M 835 v.toNat (M 835 v.toNat + 1)) 834 v.toNat (M 835 v.toNat + 1)) 797 58 (M 797 58 + (((jv_L M its v to.toNat).length : Nat) : Int)))) → K [] Mx)) (n : Nat) (v1 : Int) (f1 : Int) (t1 : Int) (s1 : Int) (fi : Int) (m : Int) (al : Int) (k : Int) (M1 : ab_M) (hI : n = (to - k).toNat ∧ v = v1 ∧ fr = f1 ∧ to = t1 ∧ its = s1 ∧ M = M1 ∧ 0 ≤ k ∧ k ≤ to ∧ m = (((jv_L M its v k.toNat).length : Nat) : Int) ∧ fi = (jv_L M its v k.toNat).headD (-9) ∧ (al = 1 ∧ jv_a (jv_L M its v k.toNat) ∨ al = 0 ∧ ¬ jv_a (jv_L M its v k.toNat))) : (ab_ir k ∧ ab_ir t1) ∧ ((t1 ≤ k → (ab_ir al) ∧ ((al = 0 → (0 ≤ v1 ∧ v1 ≤ 3) ∧ (∀ M114 : ab_M, (M114 = ab_up (ab_up M1 835 v1.toNat (M1 835 v1.toNat + 1)) 834 v1.toNat (M1 835 v1.toNat + 1)) → K [] (ab_up M114 797 58 ((M114 797 58) + m)))) ∧ (¬ al = 0 → (0 ≤ v1 ∧ v1 < ((4 : Nat) : Int)) ∧ K [] (ab_up M1 834 v1.toNat fi)))) ∧ (k < t1 → (0 ≤ k ∧ k < ((130 : Nat) : Int)) ∧ (ab_ir (M1 841 k.toNat) ∧ ab_ir s1) ∧ ((¬ (M1 841 k.toNat) = s1 → (∃ n', n' < n ∧ ((n' = (to - (k + 1)).toNat ∧ v = v1 ∧ fr = f1 ∧ to = t1 ∧ its = s1 ∧ M = M1 ∧ 0 ≤ (k + 1) ∧ (k + 1) ≤ to ∧ m = (((jv_L M its v (k + 1).toNat).length : Nat) : Int) ∧ fi = (jv_L M its v (k + 1).toNat).headD (-9) ∧ (al = 1 ∧ jv_a (jv_L M its v (k + 1).toNat) ∨ al = 0 ∧ ¬ jv_a (jv_L M its v (k + 1).toNat)))))) ∧ ((M1 841 k.toNat) = s1 → (ab_ir al) ∧ ((al = 0 → (ab_ir m) ∧ ((¬ m = 0 → (∃ n', n' < n ∧ ((n' = (to - (k + 1)).toNat ∧ v = v1 ∧ fr = f1 ∧ to = t1 ∧ its = s1 ∧ M = M1 ∧ 0 ≤ (k + 1) ∧ (k + 1) ≤ to ∧ (m + 1) = (((jv_L M its v (k + 1).toNat).length : Nat) : Int) ∧ fi = (jv_L M its v (k + 1).toNat).headD (-9) ∧ ((0 : Int) = 1 ∧ jv_a (jv_L M its v (k + 1).toNat) ∨ (0 : Int) = 0 ∧ ¬ jv_a (jv_L M its v (k + 1).toNat)))))) ∧ (m = 0 → (0 ≤ (((4 : Int) * k) + v1) ∧ (((4 : Int) * k) + v1) < ((520 : Nat) : Int)) ∧ (∃ n', n' < n ∧ ((n' = (to - (k + 1)).toNat ∧ v = v1 ∧ fr = f1 ∧ to = t1 ∧ its = s1 ∧ M = M1 ∧ 0 ≤ (k + 1) ∧ (k + 1) ≤ to ∧ (m + 1) = (((jv_L M its v (k + 1).toNat).length : Nat) : Int) ∧ (M1 840 ((((4 : Int) * k) + v1).toNat)) = (jv_L M its v (k + 1).toNat).headD (-9) ∧ ((0 : Int) = 1 ∧ jv_a (jv_L M its v (k + 1).toNat) ∨ (0 : Int) = 0 ∧ ¬ jv_a (jv_L M its v (k + 1).toNat)))))))) ∧ (¬ al = 0 → (ab_ir m) ∧ ((m = 0 → (ab_ir m) ∧ ((¬ m = 0 → (∃ n', n' < n ∧ ((n' = (to - (k + 1)).toNat ∧ v = v1 ∧ fr = f1 ∧ to = t1 ∧ its = s1 ∧ M = M1 ∧ 0 ≤ (k + 1) ∧ (k + 1) ≤ to ∧ (m + 1) = (((jv_L M its v (k + 1).toNat).length : Nat) : Int) ∧ fi = (jv_L M its v (k + 1).toNat).headD (-9) ∧ ((1 : Int) = 1 ∧ jv_a (jv_L M its v (k + 1).toNat) ∨ (1 : Int) = 0 ∧ ¬ jv_a (jv_L M its v (k + 1).toNat)))))) ∧ (m = 0 → (0 ≤ (((4 : Int) * k) + v1) ∧ (((4 : Int) * k) + v1) < ((520 : Nat) : Int)) ∧ (∃ n', n' < n ∧ ((n' = (to - (k + 1)).toNat ∧ v = v1 ∧ fr = f1 ∧ to = t1 ∧ its = s1 ∧ M = M1 ∧ 0 ≤ (k + 1) ∧ (k + 1) ≤ to ∧ (m + 1) = (((jv_L M its v (k + 1).toNat).length : Nat) : Int) ∧ (M1 840 ((((4 : Int) * k) + v1).toNat)) = (jv_L M its v (k + 1).toNat).headD (-9) ∧ ((1 : Int) = 1 ∧ jv_a (jv_L M its v (k + 1).toNat) ∨ (1 : Int) = 0 ∧ ¬ jv_a (jv_L M its v (k + 1).toNat)))))))) ∧ (¬ m = 0 → (0 ≤ (((4 : Int) * k) + v1) ∧ (((4 : Int) * k) + v1) < ((520 : Nat) : Int)) ∧ (ab_ir (M1 840 ((((4 : Int) * k) + v1).toNat)) ∧ ab_ir fi) ∧ ((¬ (M1 840 ((((4 : Int) * k) + v1).toNat)) = fi → (ab_ir m) ∧ ((¬ m = 0 → (∃ n', n' < n ∧ ((n' = (to - (k + 1)).toNat ∧ v = v1 ∧ fr = f1 ∧ to = t1 ∧ its = s1 ∧ M = M1 ∧ 0 ≤ (k + 1) ∧ (k + 1) ≤ to ∧ (m + 1) = (((jv_L M its v (k + 1).toNat).length : Nat) : Int) ∧ fi = (jv_L M its v (k + 1).toNat).headD (-9) ∧ ((0 : Int) = 1 ∧ jv_a (jv_L M its v (k + 1).toNat) ∨ (0 : Int) = 0 ∧ ¬ jv_a (jv_L M its v (k + 1).toNat)))))) ∧ (m = 0 → (0 ≤ (((4 : Int) * k) + v1) ∧ (((4 : Int) * k) + v1) < ((520 : Nat) : Int)) ∧ (∃ n', n' < n ∧ ((n' = (to - (k + 1)).toNat ∧ v = v1 ∧ fr = f1 ∧ to = t1 ∧ its = s1 ∧ M = M1 ∧ 0 ≤ (k + 1) ∧ (k + 1) ≤ to ∧ (m + 1) = (((jv_L M its v (k + 1).toNat).length : Nat) : Int) ∧ (M1 840 ((((4 : Int) * k) + v1).toNat)) = (jv_L M its v (k + 1).toNat).headD (-9) ∧ ((0 : Int) = 1 ∧ jv_a (jv_L M its v (k + 1).toNat) ∨ (0 : Int) = 0 ∧ ¬ jv_a (jv_L M its v (k + 1).toNat)))))))) ∧ ((M1 840 ((((4 : Int) * k) + v1).toNat)) = fi → (ab_ir m) ∧ ((¬ m = 0 → (∃ n', n' < n ∧ ((n' = (to - (k + 1)).toNat ∧ v = v1 ∧ fr = f1 ∧ to = t1 ∧ its = s1 ∧ M = M1 ∧ 0 ≤ (k + 1) ∧ (k + 1) ≤ to ∧ (m + 1) = (((jv_L M its v (k + 1).toNat).length : Nat) : Int) ∧ fi = (jv_L M its v (k + 1).toNat).headD (-9) ∧ ((1 : Int) = 1 ∧ jv_a (jv_L M its v (k + 1).toNat) ∨ (1 : Int) = 0 ∧ ¬ jv_a (jv_L M its v (k + 1).toNat)))))) ∧ (m = 0 → (0 ≤ (((4 : Int) * k) + v1) ∧ (((4 : Int) * k) + v1) < ((520 : Nat) : Int)) ∧ (∃ n', n' < n ∧ ((n' = (to - (k + 1)).toNat ∧ v = v1 ∧ fr = f1 ∧ to = t1 ∧ its = s1 ∧ M = M1 ∧ 0 ≤ (k + 1) ∧ (k + 1) ≤ to ∧ (m + 1) = (((jv_L M its v (k + 1).toNat).length : Nat) : Int) ∧ (M1 840 ((((4 : Int) * k) + v1).toNat)) = (jv_L M its v (k + 1).toNat).headD (-9) ∧ ((1 : Int) = 1 ∧ jv_a (jv_L M its v (k + 1).toNat) ∨ (1 : Int) = 0 ∧ ¬ jv_a (jv_L M its v (k + 1).toNat))))))))))))))))) := by
  obtain ⟨hn, q1, q2, q3, q4, q5, hk0, hk1, hm, hfi, hal⟩ := hI
  subst q1
  subst q2
  subst q3
  subst q4
  subst q5
  obtain ⟨⟨⟨gv0, gv1⟩, gf, ⟨gt0, gt1⟩, gi, gr⟩, gK⟩ := hS
  subst gf
  have hlen := jv_L_len M its v k.toNat
  have gk : k < to → ab_ir (M 841 k.toNat) ∧ ab_ir (M 840 (4 * k.toNat + v.toNat)) := fun q => gr k.toNat (by omega)
  have ei : (4 * k + v).toNat = 4 * k.toNat + v.toNat := by omega
  have hfr : ab_ir fi := by
    rw [hfi]
    have : ∀ j : Nat, (j : Int) ≤ to → ∀ x ∈ jv_L M its v j, ab_ir x := by
      intro j
      induction j with
      | zero => intro _ x hx; exact absurd hx List.not_mem_nil
      | succ j ih =>
        intro hj x hx
        unfold jv_L at hx
        rcases List.mem_append.1 hx with q | q
        · exact ih (by omega) x q
        · split at q
          · rw [List.mem_singleton.1 q]; exact (gr j (by omega)).2
          · exact absurd q List.not_mem_nil
    cases hc : jv_L M its v k.toNat with
    | nil => exact ⟨by decide, by decide⟩
    | cons a l => exact this k.toNat (by omega) a (by rw [hc]; exact List.mem_cons_self)
  have hs : k < to → jv_L M its v (k + 1).toNat = jv_L M its v k.toNat ++ (if M 841 k.toNat = its then [M 840 (4 * k.toNat + v.toNat)] else []) := fun q => by
    rw [show (k + 1).toNat = k.toNat + 1 by omega]
    rfl
  have hm0 : m = 0 ↔ jv_L M its v k.toNat = [] := by
    rw [hm]
    constructor
    · intro z; exact List.length_eq_zero_iff.1 (by omega)
    · intro z; rw [z]; rfl
  refine And.intro (by
    first
      | omega
      | exact ⟨by omega, by omega⟩
      | exact ⟨⟨by omega, by omega⟩, by omega, by omega⟩
      | exact ⟨(gk (by omega)).1, gi⟩
      | (rw [ei]; exact ⟨(gk (by omega)).2, hfr⟩)
      | (split <;> exact ⟨by decide, by decide⟩)) ?_
  refine ⟨?_, ?_⟩
  · intro c16
    refine And.intro (by
      first
        | omega
        | exact ⟨by omega, by omega⟩
        | exact ⟨⟨by omega, by omega⟩, by omega, by omega⟩
        | exact ⟨(gk (by omega)).1, gi⟩
        | (rw [ei]; exact ⟨(gk (by omega)).2, hfr⟩)
        | (split <;> exact ⟨by decide, by decide⟩)) ?_
    refine ⟨?_, ?_⟩
    · intro c98
      refine And.intro (by
        first
          | omega
          | exact ⟨by omega, by omega⟩
          | exact ⟨⟨by omega, by omega⟩, by omega, by omega⟩
          | exact ⟨(gk (by omega)).1, gi⟩
          | (rw [ei]; exact ⟨(gk (by omega)).2, hfr⟩)
          | (split <;> exact ⟨by decide, by decide⟩)) ?_
      intro M114 hM114
      have hkt : k = to := by omega
      subst hkt
      refine gK _ ⟨fun z => ?_, fun _ => ?_⟩
      · rcases hal with w | w
        · exact absurd (w.1.symm.trans c98) (by decide)
        · exact absurd z w.2
      · rw [hM114, ← hm]
        simp only [ab_up_2, Nat.reduceEqDiff, if_true, if_false]
    · intro c98
      refine And.intro (by
        first
          | omega
          | exact ⟨by omega, by omega⟩
          | exact ⟨⟨by omega, by omega⟩, by omega, by omega⟩
          | exact ⟨(gk (by omega)).1, gi⟩
          | (rw [ei]; exact ⟨(gk (by omega)).2, hfr⟩)
          | (split <;> exact ⟨by decide, by decide⟩)) ?_
      have hkt : k = to := by omega
      subst hkt
      refine gK _ ⟨fun _ => by rw [hfi], fun z => ?_⟩
      rcases hal with w | w
      · exact absurd w.2 z
      · exact absurd w.1 c98
  · intro c16
    refine And.intro (by
      first
        | omega
        | exact ⟨by omega, by omega⟩
        | exact ⟨⟨by omega, by omega⟩, by omega, by omega⟩
        | exact ⟨(gk (by omega)).1, gi⟩
        | (rw [ei]; exact ⟨(gk (by omega)).2, hfr⟩)
        | (split <;> exact ⟨by decide, by decide⟩)) ?_
    refine And.intro (by
      first
        | omega
        | exact ⟨by omega, by omega⟩
        | exact ⟨⟨by omega, by omega⟩, by omega, by omega⟩
        | exact ⟨(gk (by omega)).1, gi⟩
        | (rw [ei]; exact ⟨(gk (by omega)).2, hfr⟩)
        | (split <;> exact ⟨by decide, by decide⟩)) ?_
    refine ⟨?_, ?_⟩
    · intro c28
      refine ⟨_, ?_, rfl, rfl, rfl, rfl, rfl, rfl, by omega, by omega, ?_, ?_, ?_⟩
      · omega
      · rw [hs (by omega), if_neg (by assumption), List.append_nil]; exact hm
      · rw [hs (by omega), if_neg (by assumption), List.append_nil]; exact hfi
      · rw [hs (by omega), if_neg (by assumption), List.append_nil]; exact hal
    · intro c28
      refine And.intro (by
        first
          | omega
          | exact ⟨by omega, by omega⟩
          | exact ⟨⟨by omega, by omega⟩, by omega, by omega⟩
          | exact ⟨(gk (by omega)).1, gi⟩
          | (rw [ei]; exact ⟨(gk (by omega)).2, hfr⟩)
          | (split <;> exact ⟨by decide, by decide⟩)) ?_
      refine ⟨?_, ?_⟩
      · intro c33
        refine And.intro (by
          first
            | omega
            | exact ⟨by omega, by omega⟩
            | exact ⟨⟨by omega, by omega⟩, by omega, by omega⟩
            | exact ⟨(gk (by omega)).1, gi⟩
            | (rw [ei]; exact ⟨(gk (by omega)).2, hfr⟩)
            | (split <;> exact ⟨by decide, by decide⟩)) ?_
        refine ⟨?_, ?_⟩
        · intro c66
          have hadd := hs (by omega)
          rw [if_pos (by assumption)] at hadd
          refine ⟨_, ?_, rfl, rfl, rfl, rfl, rfl, rfl, by omega, by omega, ?_, ?_, ?_⟩
          · omega
          · rw [hadd, List.length_append, hm]
            simp only [List.length_cons, List.length_nil]
            omega
          · rw [hadd, jv_hd_add]
            first
              | (rw [if_pos (hm0.1 (by assumption))]; (try rw [ei]); done)
              | (rw [if_pos (hm0.1 (by assumption)), ei]; done)
              | (rw [if_neg (fun z => absurd (hm0.2 z) (by assumption))]; exact hfi)
          · rw [hadd, jv_a_add]
            try rw [ei] at *
            first
              | (refine Or.inl ⟨rfl, ?_, Or.inl (hm0.1 (by assumption))⟩
                 rcases hal with z | z
                 · exact z.2
                 · exact absurd z.1 (by assumption))
              | (refine Or.inl ⟨rfl, ?_, Or.inr (by rw [← hfi]; assumption)⟩
                 rcases hal with z | z
                 · exact z.2
                 · exact absurd z.1 (by assumption))
              | (refine Or.inr ⟨rfl, fun z => ?_⟩
                 rcases hal with w | w
                 · exact absurd (w.1.symm.trans (by assumption)) (by decide)
                 · exact w.2 z.1)
              | (refine Or.inr ⟨rfl, fun z => ?_⟩
                 rcases z.2 with w | w
                 · exact absurd (hm0.2 w) (by assumption)
                 · rw [← hfi] at w
                   exact absurd w (by assumption))
        · intro c66
          refine And.intro (by
            first
              | omega
              | exact ⟨by omega, by omega⟩
              | exact ⟨⟨by omega, by omega⟩, by omega, by omega⟩
              | exact ⟨(gk (by omega)).1, gi⟩
              | (rw [ei]; exact ⟨(gk (by omega)).2, hfr⟩)
              | (split <;> exact ⟨by decide, by decide⟩)) ?_
          have hadd := hs (by omega)
          rw [if_pos (by assumption)] at hadd
          refine ⟨_, ?_, rfl, rfl, rfl, rfl, rfl, rfl, by omega, by omega, ?_, ?_, ?_⟩
          · omega
          · rw [hadd, List.length_append, hm]
            simp only [List.length_cons, List.length_nil]
            omega
          · rw [hadd, jv_hd_add]
            first
              | (rw [if_pos (hm0.1 (by assumption))]; (try rw [ei]); done)
              | (rw [if_pos (hm0.1 (by assumption)), ei]; done)
              | (rw [if_neg (fun z => absurd (hm0.2 z) (by assumption))]; exact hfi)
          · rw [hadd, jv_a_add]
            try rw [ei] at *
            first
              | (refine Or.inl ⟨rfl, ?_, Or.inl (hm0.1 (by assumption))⟩
                 rcases hal with z | z
                 · exact z.2
                 · exact absurd z.1 (by assumption))
              | (refine Or.inl ⟨rfl, ?_, Or.inr (by rw [← hfi]; assumption)⟩
                 rcases hal with z | z
                 · exact z.2
                 · exact absurd z.1 (by assumption))
              | (refine Or.inr ⟨rfl, fun z => ?_⟩
                 rcases hal with w | w
                 · exact absurd (w.1.symm.trans (by assumption)) (by decide)
                 · exact w.2 z.1)
              | (refine Or.inr ⟨rfl, fun z => ?_⟩
                 rcases z.2 with w | w
                 · exact absurd (hm0.2 w) (by assumption)
                 · rw [← hfi] at w
                   exact absurd w (by assumption))
      · intro c33
        refine And.intro (by
          first
            | omega
            | exact ⟨by omega, by omega⟩
            | exact ⟨⟨by omega, by omega⟩, by omega, by omega⟩
            | exact ⟨(gk (by omega)).1, gi⟩
            | (rw [ei]; exact ⟨(gk (by omega)).2, hfr⟩)
            | (split <;> exact ⟨by decide, by decide⟩)) ?_
        refine ⟨?_, ?_⟩
        · intro c38
          refine And.intro (by
            first
              | omega
              | exact ⟨by omega, by omega⟩
              | exact ⟨⟨by omega, by omega⟩, by omega, by omega⟩
              | exact ⟨(gk (by omega)).1, gi⟩
              | (rw [ei]; exact ⟨(gk (by omega)).2, hfr⟩)
              | (split <;> exact ⟨by decide, by decide⟩)) ?_
          refine ⟨?_, ?_⟩
          · intro c66
            have hadd := hs (by omega)
            rw [if_pos (by assumption)] at hadd
            refine ⟨_, ?_, rfl, rfl, rfl, rfl, rfl, rfl, by omega, by omega, ?_, ?_, ?_⟩
            · omega
            · rw [hadd, List.length_append, hm]
              simp only [List.length_cons, List.length_nil]
              omega
            · rw [hadd, jv_hd_add]
              first
                | (rw [if_pos (hm0.1 (by assumption))]; (try rw [ei]); done)
                | (rw [if_pos (hm0.1 (by assumption)), ei]; done)
                | (rw [if_neg (fun z => absurd (hm0.2 z) (by assumption))]; exact hfi)
            · rw [hadd, jv_a_add]
              try rw [ei] at *
              first
                | (refine Or.inl ⟨rfl, ?_, Or.inl (hm0.1 (by assumption))⟩
                   rcases hal with z | z
                   · exact z.2
                   · exact absurd z.1 (by assumption))
                | (refine Or.inl ⟨rfl, ?_, Or.inr (by rw [← hfi]; assumption)⟩
                   rcases hal with z | z
                   · exact z.2
                   · exact absurd z.1 (by assumption))
                | (refine Or.inr ⟨rfl, fun z => ?_⟩
                   rcases hal with w | w
                   · exact absurd (w.1.symm.trans (by assumption)) (by decide)
                   · exact w.2 z.1)
                | (refine Or.inr ⟨rfl, fun z => ?_⟩
                   rcases z.2 with w | w
                   · exact absurd (hm0.2 w) (by assumption)
                   · rw [← hfi] at w
                     exact absurd w (by assumption))
          · intro c66
            refine And.intro (by
              first
                | omega
                | exact ⟨by omega, by omega⟩
                | exact ⟨⟨by omega, by omega⟩, by omega, by omega⟩
                | exact ⟨(gk (by omega)).1, gi⟩
                | (rw [ei]; exact ⟨(gk (by omega)).2, hfr⟩)
                | (split <;> exact ⟨by decide, by decide⟩)) ?_
            have hadd := hs (by omega)
            rw [if_pos (by assumption)] at hadd
            refine ⟨_, ?_, rfl, rfl, rfl, rfl, rfl, rfl, by omega, by omega, ?_, ?_, ?_⟩
            · omega
            · rw [hadd, List.length_append, hm]
              simp only [List.length_cons, List.length_nil]
              omega
            · rw [hadd, jv_hd_add]
              first
                | (rw [if_pos (hm0.1 (by assumption))]; (try rw [ei]); done)
                | (rw [if_pos (hm0.1 (by assumption)), ei]; done)
                | (rw [if_neg (fun z => absurd (hm0.2 z) (by assumption))]; exact hfi)
            · rw [hadd, jv_a_add]
              try rw [ei] at *
              first
                | (refine Or.inl ⟨rfl, ?_, Or.inl (hm0.1 (by assumption))⟩
                   rcases hal with z | z
                   · exact z.2
                   · exact absurd z.1 (by assumption))
                | (refine Or.inl ⟨rfl, ?_, Or.inr (by rw [← hfi]; assumption)⟩
                   rcases hal with z | z
                   · exact z.2
                   · exact absurd z.1 (by assumption))
                | (refine Or.inr ⟨rfl, fun z => ?_⟩
                   rcases hal with w | w
                   · exact absurd (w.1.symm.trans (by assumption)) (by decide)
                   · exact w.2 z.1)
                | (refine Or.inr ⟨rfl, fun z => ?_⟩
                   rcases z.2 with w | w
                   · exact absurd (hm0.2 w) (by assumption)
                   · rw [← hfi] at w
                     exact absurd w (by assumption))
        · intro c38
          refine And.intro (by
            first
              | omega
              | exact ⟨by omega, by omega⟩
              | exact ⟨⟨by omega, by omega⟩, by omega, by omega⟩
              | exact ⟨(gk (by omega)).1, gi⟩
              | (rw [ei]; exact ⟨(gk (by omega)).2, hfr⟩)
              | (split <;> exact ⟨by decide, by decide⟩)) ?_
          refine And.intro (by
            first
              | omega
              | exact ⟨by omega, by omega⟩
              | exact ⟨⟨by omega, by omega⟩, by omega, by omega⟩
              | exact ⟨(gk (by omega)).1, gi⟩
              | (rw [ei]; exact ⟨(gk (by omega)).2, hfr⟩)
              | (split <;> exact ⟨by decide, by decide⟩)) ?_
          refine ⟨?_, ?_⟩
          · intro c54
            refine And.intro (by
              first
                | omega
                | exact ⟨by omega, by omega⟩
                | exact ⟨⟨by omega, by omega⟩, by omega, by omega⟩
                | exact ⟨(gk (by omega)).1, gi⟩
                | (rw [ei]; exact ⟨(gk (by omega)).2, hfr⟩)
                | (split <;> exact ⟨by decide, by decide⟩)) ?_
            refine ⟨?_, ?_⟩
            · intro c66
              have hadd := hs (by omega)
              rw [if_pos (by assumption)] at hadd
              refine ⟨_, ?_, rfl, rfl, rfl, rfl, rfl, rfl, by omega, by omega, ?_, ?_, ?_⟩
              · omega
              · rw [hadd, List.length_append, hm]
                simp only [List.length_cons, List.length_nil]
                omega
              · rw [hadd, jv_hd_add]
                first
                  | (rw [if_pos (hm0.1 (by assumption))]; (try rw [ei]); done)
                  | (rw [if_pos (hm0.1 (by assumption)), ei]; done)
                  | (rw [if_neg (fun z => absurd (hm0.2 z) (by assumption))]; exact hfi)
              · rw [hadd, jv_a_add]
                try rw [ei] at *
                first
                  | (refine Or.inl ⟨rfl, ?_, Or.inl (hm0.1 (by assumption))⟩
                     rcases hal with z | z
                     · exact z.2
                     · exact absurd z.1 (by assumption))
                  | (refine Or.inl ⟨rfl, ?_, Or.inr (by rw [← hfi]; assumption)⟩
                     rcases hal with z | z
                     · exact z.2
                     · exact absurd z.1 (by assumption))
                  | (refine Or.inr ⟨rfl, fun z => ?_⟩
                     rcases hal with w | w
                     · exact absurd (w.1.symm.trans (by assumption)) (by decide)
                     · exact w.2 z.1)
                  | (refine Or.inr ⟨rfl, fun z => ?_⟩
                     rcases z.2 with w | w
                     · exact absurd (hm0.2 w) (by assumption)
                     · rw [← hfi] at w
                       exact absurd w (by assumption))
            · intro c66
              refine And.intro (by
                first
                  | omega
                  | exact ⟨by omega, by omega⟩
                  | exact ⟨⟨by omega, by omega⟩, by omega, by omega⟩
                  | exact ⟨(gk (by omega)).1, gi⟩
                  | (rw [ei]; exact ⟨(gk (by omega)).2, hfr⟩)
                  | (split <;> exact ⟨by decide, by decide⟩)) ?_
              have hadd := hs (by omega)
              rw [if_pos (by assumption)] at hadd
              refine ⟨_, ?_, rfl, rfl, rfl, rfl, rfl, rfl, by omega, by omega, ?_, ?_, ?_⟩
              · omega
              · rw [hadd, List.length_append, hm]
                simp only [List.length_cons, List.length_nil]
                omega
              · rw [hadd, jv_hd_add]
                first
                  | (rw [if_pos (hm0.1 (by assumption))]; (try rw [ei]); done)
                  | (rw [if_pos (hm0.1 (by assumption)), ei]; done)
                  | (rw [if_neg (fun z => absurd (hm0.2 z) (by assumption))]; exact hfi)
              · rw [hadd, jv_a_add]
                try rw [ei] at *
                first
                  | (refine Or.inl ⟨rfl, ?_, Or.inl (hm0.1 (by assumption))⟩
                     rcases hal with z | z
                     · exact z.2
                     · exact absurd z.1 (by assumption))
                  | (refine Or.inl ⟨rfl, ?_, Or.inr (by rw [← hfi]; assumption)⟩
                     rcases hal with z | z
                     · exact z.2
                     · exact absurd z.1 (by assumption))
                  | (refine Or.inr ⟨rfl, fun z => ?_⟩
                     rcases hal with w | w
                     · exact absurd (w.1.symm.trans (by assumption)) (by decide)
                     · exact w.2 z.1)
                  | (refine Or.inr ⟨rfl, fun z => ?_⟩
                     rcases z.2 with w | w
                     · exact absurd (hm0.2 w) (by assumption)
                     · rw [← hfi] at w
                       exact absurd w (by assumption))
          · intro c54
            refine And.intro (by
              first
                | omega
                | exact ⟨by omega, by omega⟩
                | exact ⟨⟨by omega, by omega⟩, by omega, by omega⟩
                | exact ⟨(gk (by omega)).1, gi⟩
                | (rw [ei]; exact ⟨(gk (by omega)).2, hfr⟩)
                | (split <;> exact ⟨by decide, by decide⟩)) ?_
            refine ⟨?_, ?_⟩
            · intro c66
              have hadd := hs (by omega)
              rw [if_pos (by assumption)] at hadd
              refine ⟨_, ?_, rfl, rfl, rfl, rfl, rfl, rfl, by omega, by omega, ?_, ?_, ?_⟩
              · omega
              · rw [hadd, List.length_append, hm]
                simp only [List.length_cons, List.length_nil]
                omega
              · rw [hadd, jv_hd_add]
                first
                  | (rw [if_pos (hm0.1 (by assumption))]; (try rw [ei]); done)
                  | (rw [if_pos (hm0.1 (by assumption)), ei]; done)
                  | (rw [if_neg (fun z => absurd (hm0.2 z) (by assumption))]; exact hfi)
              · rw [hadd, jv_a_add]
                try rw [ei] at *
                first
                  | (refine Or.inl ⟨rfl, ?_, Or.inl (hm0.1 (by assumption))⟩
                     rcases hal with z | z
                     · exact z.2
                     · exact absurd z.1 (by assumption))
                  | (refine Or.inl ⟨rfl, ?_, Or.inr (by rw [← hfi]; assumption)⟩
                     rcases hal with z | z
                     · exact z.2
                     · exact absurd z.1 (by assumption))
                  | (refine Or.inr ⟨rfl, fun z => ?_⟩
                     rcases hal with w | w
                     · exact absurd (w.1.symm.trans (by assumption)) (by decide)
                     · exact w.2 z.1)
                  | (refine Or.inr ⟨rfl, fun z => ?_⟩
                     rcases z.2 with w | w
                     · exact absurd (hm0.2 w) (by assumption)
                     · rw [← hfi] at w
                       exact absurd w (by assumption))
            · intro c66
              refine And.intro (by
                first
                  | omega
                  | exact ⟨by omega, by omega⟩
                  | exact ⟨⟨by omega, by omega⟩, by omega, by omega⟩
                  | exact ⟨(gk (by omega)).1, gi⟩
                  | (rw [ei]; exact ⟨(gk (by omega)).2, hfr⟩)
                  | (split <;> exact ⟨by decide, by decide⟩)) ?_
              have hadd := hs (by omega)
              rw [if_pos (by assumption)] at hadd
              refine ⟨_, ?_, rfl, rfl, rfl, rfl, rfl, rfl, by omega, by omega, ?_, ?_, ?_⟩
              · omega
              · rw [hadd, List.length_append, hm]
                simp only [List.length_cons, List.length_nil]
                omega
              · rw [hadd, jv_hd_add]
                first
                  | (rw [if_pos (hm0.1 (by assumption))]; (try rw [ei]); done)
                  | (rw [if_pos (hm0.1 (by assumption)), ei]; done)
                  | (rw [if_neg (fun z => absurd (hm0.2 z) (by assumption))]; exact hfi)
              · rw [hadd, jv_a_add]
                try rw [ei] at *
                first
                  | (refine Or.inl ⟨rfl, ?_, Or.inl (hm0.1 (by assumption))⟩
                     rcases hal with z | z
                     · exact z.2
                     · exact absurd z.1 (by assumption))
                  | (refine Or.inl ⟨rfl, ?_, Or.inr (by rw [← hfi]; assumption)⟩
                     rcases hal with z | z
                     · exact z.2
                     · exact absurd z.1 (by assumption))
                  | (refine Or.inr ⟨rfl, fun z => ?_⟩
                     rcases hal with w | w
                     · exact absurd (w.1.symm.trans (by assumption)) (by decide)
                     · exact w.2 z.1)
                  | (refine Or.inr ⟨rfl, fun z => ?_⟩
                     rcases z.2 with w | w
                     · exact absurd (hm0.2 w) (by assumption)
                     · rw [← hfi] at w
                       exact absurd w (by assumption))

set_option maxRecDepth 20000 in
set_option maxHeartbeats 1000000 in
theorem ok_X9_joinVariable (E : ab_E) : ab_Ok E 2 152 S_X9_joinVariable := by
  refine ab_mk rq_X9_joinVariable tk_X9_joinVariable (rt := 0) (rfl) (cuts := [13]) (G := [(178, S_X9_renew)]) (List.forall_mem_cons.mpr ⟨⟨1, by decide, ok_X9_renew E⟩, fun _ h => absurd h List.not_mem_nil⟩) (by decide) 119 rfl ?_
  intro a M K wd wa hS
  unfold S_X9_joinVariable at hS
  split at hS
  ·
    rename_i v fr to its
    refine ⟨Nat.le_of_ble_eq_true rfl, fun pc n L st M1 => match pc, L, st with
      | 13, [.inr (.inr (.inr (797, 9, 0))), .inr (.inl v1), .inr (.inl f1), .inr (.inl t1), .inr (.inl s1), .inr (.inl fi), .inr (.inl m), .inr (.inl al), .inr (.inl k)], [] => (n = (to - k).toNat ∧ v = v1 ∧ fr = f1 ∧ to = t1 ∧ its = s1 ∧ M = M1 ∧ 0 ≤ k ∧ k ≤ to ∧ m = (((jv_L M its v k.toNat).length : Nat) : Int) ∧ fi = (jv_L M its v k.toNat).headD (-9) ∧ (al = 1 ∧ jv_a (jv_L M its v k.toNat) ∨ al = 0 ∧ ¬ jv_a (jv_L M its v k.toNat)))
      | _, _, _ => False, ?_, ?_⟩
    · exact vc_X9_joinVariable_0 v fr to its M K  hS
    · intro pc n L st M1 hI wd1 wL wst
      (try dsimp only at hI)
      split at hI
      ·
        rename_i v1 f1 t1 s1 fi m al k
        exact vc_X9_joinVariable_13 v fr to its M K  hS n v1 f1 t1 s1 fi m al k _ hI
      · exact hI.elim
  · exact hS.elim
def S_X9_joinBoth : ab_PT := fun a M K => match a with
  | [.inr (.inr (.inr (797, 9, 0))), .inr (.inl e)] => ((0 ≤ e ∧ e < 400) ∧ (M 838 e.toNat = 0 ∨ M 838 e.toNat = 1) ∧ (M 797 57 = 0 ∨ M 797 57 = 1) ∧ ∀ v : Nat, v < 4 → ab_ir (M 837 (4 * e.toNat + v)) ∧ ab_ir (M 834 v) ∧ ab_ir (M 835 v + 1)) ∧ (∀ Mx : ab_M, (jb_P M Mx e.toNat) → K [] Mx)
  | _ => False
set_option maxRecDepth 20000 in
theorem vc_X9_joinBoth_0 (e : Int) (M : ab_M) (K : List ab_V → ab_M → Prop) (hS : ((0 ≤ e ∧ e < 400) ∧ (M 838 e.toNat = 0 ∨ M 838 e.toNat = 1) ∧ (M 797 57 = 0 ∨ M 797 57 = 1) ∧ ∀ v : Nat, v < 4 → ab_ir (M 837 (4 * e.toNat + v)) ∧ ab_ir (M 834 v) ∧ ab_ir (M 835 v + 1)) ∧ (∀ Mx : ab_M, (jb_P M Mx e.toNat) → K [] Mx)) : (0 ≤ e ∧ e < ((400 : Nat) : Int)) ∧ (ab_ir (M 838 e.toNat)) ∧ (((M 838 e.toNat) = 0 → (0 ≤ e ∧ e < ((400 : Nat) : Int)) ∧ (ab_ir (M 838 e.toNat)) ∧ (((M 838 e.toNat) = 0 → K [] M) ∧ (¬ (M 838 e.toNat) = 0 → (0 ≤ e ∧ 4 * e + 3 < ((1600 : Nat) : Int) ∧ 837 ≠ 834 ∧ e < 100000) ∧ (∀ M81 : ab_M, (∀ o' k' : Nat, M81 o' k' = if o' = 834 ∧ k' < 4 then M 837 (4 * e.toNat + k') else M o' k') → ((1 : Int) = 0 ∨ (1 : Int) = 1) ∧ K [] (ab_up M81 797 57 (1 : Int)))))) ∧ (¬ (M 838 e.toNat) = 0 → (ab_ir (M 797 57)) ∧ (((M 797 57) = 0 → (0 ≤ e ∧ e < ((400 : Nat) : Int)) ∧ (ab_ir (M 838 e.toNat)) ∧ (((M 838 e.toNat) = 0 → K [] M) ∧ (¬ (M 838 e.toNat) = 0 → (0 ≤ e ∧ 4 * e + 3 < ((1600 : Nat) : Int) ∧ 837 ≠ 834 ∧ e < 100000) ∧ (∀ M81 : ab_M, (∀ o' k' : Nat, M81 o' k' = if o' = 834 ∧ k' < 4 then M 837 (4 * e.toNat + k') else M o' k') → ((1 : Int) = 0 ∨ (1 : Int) = 1) ∧ K [] (ab_up M81 797 57 (1 : Int)))))) ∧ (¬ (M 797 57) = 0 → (∃ n', ((n' = (4 - (0 : Int)).toNat ∧ e = e ∧ 0 ≤ (0 : Int) ∧ (0 : Int) ≤ 4 ∧ (M 838 e.toNat = 1 ∧ M 797 57 = 1) ∧ jb_k M M e.toNat (0 : Int).toNat))))))) := by
  obtain ⟨⟨⟨ge0, ge1⟩, gb, gc, gr⟩, gK⟩ := hS
  obtain ⟨e, rfl⟩ : ∃ z : Nat, e = (z : Int) := ⟨e.toNat, by omega⟩
  refine And.intro (by
    first
      | omega
      | exact ⟨by omega, by omega⟩
      | exact ⟨⟨by omega, by omega⟩, by omega, by omega⟩
      | (rcases gb with z | z <;> (rw [z]; exact ⟨by decide, by decide⟩))
      | (rcases gc with z | z <;> (rw [z]; exact ⟨by decide, by decide⟩))
      | (rw [ei, hb, show ((k : Int)).toNat = k from rfl, hnow (by omega)]; exact ⟨(hk' (by omega)).1, (hk' (by omega)).2.1⟩)
      | exact ⟨by omega, by omega, by decide, by omega⟩) ?_
  refine And.intro (by
    first
      | omega
      | exact ⟨by omega, by omega⟩
      | exact ⟨⟨by omega, by omega⟩, by omega, by omega⟩
      | (rcases gb with z | z <;> (rw [z]; exact ⟨by decide, by decide⟩))
      | (rcases gc with z | z <;> (rw [z]; exact ⟨by decide, by decide⟩))
      | (rw [ei, hb, show ((k : Int)).toNat = k from rfl, hnow (by omega)]; exact ⟨(hk' (by omega)).1, (hk' (by omega)).2.1⟩)
      | exact ⟨by omega, by omega, by decide, by omega⟩) ?_
  refine ⟨?_, ?_⟩
  · intro c6
    refine And.intro (by
      first
        | omega
        | exact ⟨by omega, by omega⟩
        | exact ⟨⟨by omega, by omega⟩, by omega, by omega⟩
        | (rcases gb with z | z <;> (rw [z]; exact ⟨by decide, by decide⟩))
        | (rcases gc with z | z <;> (rw [z]; exact ⟨by decide, by decide⟩))
        | (rw [ei, hb, show ((k : Int)).toNat = k from rfl, hnow (by omega)]; exact ⟨(hk' (by omega)).1, (hk' (by omega)).2.1⟩)
        | exact ⟨by omega, by omega, by decide, by omega⟩) ?_
    refine And.intro (by
      first
        | omega
        | exact ⟨by omega, by omega⟩
        | exact ⟨⟨by omega, by omega⟩, by omega, by omega⟩
        | (rcases gb with z | z <;> (rw [z]; exact ⟨by decide, by decide⟩))
        | (rcases gc with z | z <;> (rw [z]; exact ⟨by decide, by decide⟩))
        | (rw [ei, hb, show ((k : Int)).toNat = k from rfl, hnow (by omega)]; exact ⟨(hk' (by omega)).1, (hk' (by omega)).2.1⟩)
        | exact ⟨by omega, by omega, by decide, by omega⟩) ?_
    refine ⟨?_, ?_⟩
    · intro c72
      have h1 : M 838 e = 0 := by assumption
      exact gK _ ⟨fun q => by have := q.1; omega, fun q => by have := q.1; omega, fun _ => rfl⟩
    · intro c72
      refine And.intro (by
        first
          | omega
          | exact ⟨by omega, by omega⟩
          | exact ⟨⟨by omega, by omega⟩, by omega, by omega⟩
          | (rcases gb with z | z <;> (rw [z]; exact ⟨by decide, by decide⟩))
          | (rcases gc with z | z <;> (rw [z]; exact ⟨by decide, by decide⟩))
          | (rw [ei, hb, show ((k : Int)).toNat = k from rfl, hnow (by omega)]; exact ⟨(hk' (by omega)).1, (hk' (by omega)).2.1⟩)
          | exact ⟨by omega, by omega, by decide, by omega⟩) ?_
      intro M81 hM81
      refine And.intro (by
        first
          | omega
          | exact ⟨by omega, by omega⟩
          | exact ⟨⟨by omega, by omega⟩, by omega, by omega⟩
          | (rcases gb with z | z <;> (rw [z]; exact ⟨by decide, by decide⟩))
          | (rcases gc with z | z <;> (rw [z]; exact ⟨by decide, by decide⟩))
          | (rw [ei, hb, show ((k : Int)).toNat = k from rfl, hnow (by omega)]; exact ⟨(hk' (by omega)).1, (hk' (by omega)).2.1⟩)
          | exact ⟨by omega, by omega, by decide, by omega⟩) ?_
      exact absurd c6 c72
  · intro c6
    refine And.intro (by
      first
        | omega
        | exact ⟨by omega, by omega⟩
        | exact ⟨⟨by omega, by omega⟩, by omega, by omega⟩
        | (rcases gb with z | z <;> (rw [z]; exact ⟨by decide, by decide⟩))
        | (rcases gc with z | z <;> (rw [z]; exact ⟨by decide, by decide⟩))
        | (rw [ei, hb, show ((k : Int)).toNat = k from rfl, hnow (by omega)]; exact ⟨(hk' (by omega)).1, (hk' (by omega)).2.1⟩)
        | exact ⟨by omega, by omega, by decide, by omega⟩) ?_
    refine ⟨?_, ?_⟩
    · intro c13
      refine And.intro (by
        first
          | omega
          | exact ⟨by omega, by omega⟩
          | exact ⟨⟨by omega, by omega⟩, by omega, by omega⟩
          | (rcases gb with z | z <;> (rw [z]; exact ⟨by decide, by decide⟩))
          | (rcases gc with z | z <;> (rw [z]; exact ⟨by decide, by decide⟩))
          | (rw [ei, hb, show ((k : Int)).toNat = k from rfl, hnow (by omega)]; exact ⟨(hk' (by omega)).1, (hk' (by omega)).2.1⟩)
          | exact ⟨by omega, by omega, by decide, by omega⟩) ?_
      refine And.intro (by
        first
          | omega
          | exact ⟨by omega, by omega⟩
          | exact ⟨⟨by omega, by omega⟩, by omega, by omega⟩
          | (rcases gb with z | z <;> (rw [z]; exact ⟨by decide, by decide⟩))
          | (rcases gc with z | z <;> (rw [z]; exact ⟨by decide, by decide⟩))
          | (rw [ei, hb, show ((k : Int)).toNat = k from rfl, hnow (by omega)]; exact ⟨(hk' (by omega)).1, (hk' (by omega)).2.1⟩)
          | exact ⟨by omega, by omega, by decide, by omega⟩) ?_
      refine ⟨?_, ?_⟩
      · intro c72
        have h1 : M 838 e = 0 := by assumption
        exact gK _ ⟨fun q => by have := q.1; omega, fun q => by have := q.1; omega, fun _ => rfl⟩
      · intro c72
        refine And.intro (by
          first
            | omega
            | exact ⟨by omega, by omega⟩
            | exact ⟨⟨by omega, by omega⟩, by omega, by omega⟩
            | (rcases gb with z | z <;> (rw [z]; exact ⟨by decide, by decide⟩))
            | (rcases gc with z | z <;> (rw [z]; exact ⟨by decide, by decide⟩))
            | (rw [ei, hb, show ((k : Int)).toNat = k from rfl, hnow (by omega)]; exact ⟨(hk' (by omega)).1, (hk' (by omega)).2.1⟩)
            | exact ⟨by omega, by omega, by decide, by omega⟩) ?_
        intro M81 hM81
        refine And.intro (by
          first
            | omega
            | exact ⟨by omega, by omega⟩
            | exact ⟨⟨by omega, by omega⟩, by omega, by omega⟩
            | (rcases gb with z | z <;> (rw [z]; exact ⟨by decide, by decide⟩))
            | (rcases gc with z | z <;> (rw [z]; exact ⟨by decide, by decide⟩))
            | (rw [ei, hb, show ((k : Int)).toNat = k from rfl, hnow (by omega)]; exact ⟨(hk' (by omega)).1, (hk' (by omega)).2.1⟩)
            | exact ⟨by omega, by omega, by decide, by omega⟩) ?_
        have h1 : M 838 e = 1 := gb.resolve_left (by assumption)
        have hz : M 797 57 = 0 := by
          first
            | assumption
            | exact absurd (by assumption) (by assumption)
        refine gK _ ⟨fun q => by have := q.2; omega, fun _ => ⟨fun v hv => ?_, fun v hv => ?_, ?_, ab_up_s, fun o j q1 q2 q3 => ?_⟩, fun q => by omega⟩
        · rw [ab_up_o (by decide), hM81, if_pos ⟨rfl, hv⟩]
        · rw [ab_up_o (by decide), hM81, if_neg (by omega)]
        · rw [ab_up_k (by decide), hM81, if_neg (by omega)]
        · rw [up_ne (fun z => q3 ⟨z.1, Or.inl z.2⟩), hM81, if_neg (fun z => q1 z)]
    · intro c13
      refine ⟨_, rfl, rfl, by decide, by decide, ⟨?_, ?_⟩, jb_k.start M e⟩
      · exact gb.resolve_left (by assumption)
      · exact gc.resolve_left (by assumption)

set_option maxRecDepth 20000 in
theorem vc_X9_joinBoth_18 (e : Int) (M : ab_M) (K : List ab_V → ab_M → Prop) (hS : ((0 ≤ e ∧ e < 400) ∧ (M 838 e.toNat = 0 ∨ M 838 e.toNat = 1) ∧ (M 797 57 = 0 ∨ M 797 57 = 1) ∧ ∀ v : Nat, v < 4 → ab_ir (M 837 (4 * e.toNat + v)) ∧ ab_ir (M 834 v) ∧ ab_ir (M 835 v + 1)) ∧ (∀ Mx : ab_M, (jb_P M Mx e.toNat) → K [] Mx)) (n : Nat) (e1 : Int) (k : Int) (M1 : ab_M) (hI : n = (4 - k).toNat ∧ e = e1 ∧ 0 ≤ k ∧ k ≤ 4 ∧ (M 838 e.toNat = 1 ∧ M 797 57 = 1) ∧ jb_k M M1 e.toNat k.toNat) : (ab_ir k ∧ ab_ir (4 : Int)) ∧ (((4 : Int) ≤ k → K [] M1) ∧ (k < (4 : Int) → (0 ≤ (((4 : Int) * e1) + k) ∧ (((4 : Int) * e1) + k) < ((1600 : Nat) : Int)) ∧ (0 ≤ k ∧ k < ((4 : Nat) : Int)) ∧ (ab_ir (M1 837 ((((4 : Int) * e1) + k).toNat)) ∧ ab_ir (M1 834 k.toNat)) ∧ (((M1 837 ((((4 : Int) * e1) + k).toNat)) = (M1 834 k.toNat) → (∃ n', n' < n ∧ ((n' = (4 - (k + 1)).toNat ∧ e = e1 ∧ 0 ≤ (k + 1) ∧ (k + 1) ≤ 4 ∧ (M 838 e.toNat = 1 ∧ M 797 57 = 1) ∧ jb_k M M1 e.toNat (k + 1).toNat)))) ∧ (¬ (M1 837 ((((4 : Int) * e1) + k).toNat)) = (M1 834 k.toNat) → (0 ≤ k ∧ k ≤ 3) ∧ (∀ M44 : ab_M, (M44 = ab_up (ab_up M1 835 k.toNat (M1 835 k.toNat + 1)) 834 k.toNat (M1 835 k.toNat + 1)) → (∃ n', n' < n ∧ ((n' = (4 - (k + 1)).toNat ∧ e = e1 ∧ 0 ≤ (k + 1) ∧ (k + 1) ≤ 4 ∧ (M 838 e.toNat = 1 ∧ M 797 57 = 1) ∧ jb_k M (ab_up M44 797 58 ((M44 797 58) + (2 : Int))) e.toNat (k + 1).toNat)))))))) := by
  obtain ⟨hn, q1, hk0, hk1, hfl, hJ⟩ := hI
  subst q1
  obtain ⟨⟨⟨ge0, ge1⟩, gb, gc, gr⟩, gK⟩ := hS
  obtain ⟨e, rfl⟩ : ∃ z : Nat, e = (z : Int) := ⟨e.toNat, by omega⟩
  obtain ⟨k, rfl⟩ : ∃ z : Nat, k = (z : Int) := ⟨k.toNat, by omega⟩
  rw [show ((k : Int)).toNat = k from rfl, show ((e : Int)).toNat = e from rfl] at hJ
  rw [show ((e : Int)).toNat = e from rfl] at hfl gr
  have ei : (4 * (e : Int) + (k : Int)).toNat = 4 * e + k := by omega
  have hb : M1 837 (4 * e + k) = M 837 (4 * e + k) := hJ.2.2.2.2 _ _ (by omega) (by omega) (by omega)
  have hnow : k < 4 → M1 834 k = M 834 k := fun q => by
    rw [hJ.2.1 k q]
    show (if (decide (k < k) && jb_S M e k) = true then _ else M 834 k) = _
    rw [decide_eq_false (Nat.lt_irrefl _)]
    simp
  have hk' : k < 4 → ab_ir (M 837 (4 * e + k)) ∧ ab_ir (M 834 k) ∧ ab_ir (M 835 k + 1) := fun q => gr k q
  refine And.intro (by
    first
      | omega
      | exact ⟨by omega, by omega⟩
      | exact ⟨⟨by omega, by omega⟩, by omega, by omega⟩
      | (rcases gb with z | z <;> (rw [z]; exact ⟨by decide, by decide⟩))
      | (rcases gc with z | z <;> (rw [z]; exact ⟨by decide, by decide⟩))
      | (rw [ei, hb, show ((k : Int)).toNat = k from rfl, hnow (by omega)]; exact ⟨(hk' (by omega)).1, (hk' (by omega)).2.1⟩)
      | exact ⟨by omega, by omega, by decide, by omega⟩) ?_
  refine ⟨?_, ?_⟩
  · intro c20
    have hk : k = 4 := by omega
    subst hk
    exact gK _ ⟨fun _ => hJ, fun q => absurd (hfl.2.symm.trans q.2) (by decide), fun q => absurd (hfl.1.symm.trans q) (by decide)⟩
  · intro c20
    refine And.intro (by
      first
        | omega
        | exact ⟨by omega, by omega⟩
        | exact ⟨⟨by omega, by omega⟩, by omega, by omega⟩
        | (rcases gb with z | z <;> (rw [z]; exact ⟨by decide, by decide⟩))
        | (rcases gc with z | z <;> (rw [z]; exact ⟨by decide, by decide⟩))
        | (rw [ei, hb, show ((k : Int)).toNat = k from rfl, hnow (by omega)]; exact ⟨(hk' (by omega)).1, (hk' (by omega)).2.1⟩)
        | exact ⟨by omega, by omega, by decide, by omega⟩) ?_
    refine And.intro (by
      first
        | omega
        | exact ⟨by omega, by omega⟩
        | exact ⟨⟨by omega, by omega⟩, by omega, by omega⟩
        | (rcases gb with z | z <;> (rw [z]; exact ⟨by decide, by decide⟩))
        | (rcases gc with z | z <;> (rw [z]; exact ⟨by decide, by decide⟩))
        | (rw [ei, hb, show ((k : Int)).toNat = k from rfl, hnow (by omega)]; exact ⟨(hk' (by omega)).1, (hk' (by omega)).2.1⟩)
        | exact ⟨by omega, by omega, by decide, by omega⟩) ?_
    refine And.intro (by
      first
        | omega
        | exact ⟨by omega, by omega⟩
        | exact ⟨⟨by omega, by omega⟩, by omega, by omega⟩
        | (rcases gb with z | z <;> (rw [z]; exact ⟨by decide, by decide⟩))
        | (rcases gc with z | z <;> (rw [z]; exact ⟨by decide, by decide⟩))
        | (rw [ei, hb, show ((k : Int)).toNat = k from rfl, hnow (by omega)]; exact ⟨(hk' (by omega)).1, (hk' (by omega)).2.1⟩)
        | exact ⟨by omega, by omega, by decide, by omega⟩) ?_
    refine ⟨?_, ?_⟩
    · intro c39
      refine ⟨_, ?_, rfl, rfl, by omega, by omega, hfl, ?_⟩
      · omega
      · rw [show ((k : Int) + 1).toNat = k + 1 by omega]
        refine hJ.skip (by omega) fun z => ?_
        have z := (of_decide_eq_true z).2
        rw [ei, hb, show ((k : Int)).toNat = k from rfl, hnow (by omega)] at c39
        exact z c39
    · intro c39
      refine And.intro (by
        first
          | omega
          | exact ⟨by omega, by omega⟩
          | exact ⟨⟨by omega, by omega⟩, by omega, by omega⟩
          | (rcases gb with z | z <;> (rw [z]; exact ⟨by decide, by decide⟩))
          | (rcases gc with z | z <;> (rw [z]; exact ⟨by decide, by decide⟩))
          | (rw [ei, hb, show ((k : Int)).toNat = k from rfl, hnow (by omega)]; exact ⟨(hk' (by omega)).1, (hk' (by omega)).2.1⟩)
          | exact ⟨by omega, by omega, by decide, by omega⟩) ?_
      intro M44 hM44
      refine ⟨_, ?_, rfl, rfl, by omega, by omega, hfl, ?_⟩
      · omega
      · rw [show ((k : Int) + 1).toNat = k + 1 by omega]
        rw [ei, hb, show ((k : Int)).toNat = k from rfl, hnow (by omega)] at c39
        refine hJ.step (by omega) (decide_eq_true ⟨by omega, c39⟩) ?_
        rw [hM44]
        simp only [ab_up_2, Nat.reduceEqDiff, if_true, if_false, show ((k : Int)).toNat = k from rfl]

set_option maxRecDepth 20000 in
set_option maxHeartbeats 1000000 in
theorem ok_X9_joinBoth (E : ab_E) : ab_Ok E 2 151 S_X9_joinBoth := by
  refine ab_mk rq_X9_joinBoth tk_X9_joinBoth (rt := 0) (rfl) (cuts := [18]) (G := [(158, S_X9_layVersions), (178, S_X9_renew)]) (List.forall_mem_cons.mpr ⟨⟨1, by decide, ok_X9_layVersions E⟩, List.forall_mem_cons.mpr ⟨⟨1, by decide, ok_X9_renew E⟩, fun _ h => absurd h List.not_mem_nil⟩⟩) (by decide) 102 rfl ?_
  intro a M K wd wa hS
  unfold S_X9_joinBoth at hS
  split at hS
  ·
    rename_i e
    refine ⟨Nat.le_of_ble_eq_true rfl, fun pc n L st M1 => match pc, L, st with
      | 18, [.inr (.inr (.inr (797, 9, 0))), .inr (.inl e1), .inr (.inl k)], [] => (n = (4 - k).toNat ∧ e = e1 ∧ 0 ≤ k ∧ k ≤ 4 ∧ (M 838 e.toNat = 1 ∧ M 797 57 = 1) ∧ jb_k M M1 e.toNat k.toNat)
      | _, _, _ => False, ?_, ?_⟩
    · exact vc_X9_joinBoth_0 e M K  hS
    · intro pc n L st M1 hI wd1 wL wst
      (try dsimp only at hI)
      split at hI
      ·
        rename_i e1 k
        exact vc_X9_joinBoth_18 e M K  hS n e1 k _ hI
      · exact hI.elim
  · exact hS.elim
