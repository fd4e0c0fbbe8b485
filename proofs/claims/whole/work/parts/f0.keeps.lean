/-! the greatest set of an invariant -/
/-- the sets of the rounds -/
def ke_K (inv : Nat → Prop) (g : Nat → Nat → Prop) : Nat → Nat → Prop
  | 0 => inv
  | i + 1 => fun x => ke_K inv g i x ∧ ¬ ∃ t : Nat, t < 256 ∧ g x t ∧ ¬ ke_K inv g i t
def ke_i (w : List Int) (s : Nat) : Prop := ¬ mp_v s w = 0
def ke_g (M2 : ab_M) (w : List Int) (lo hi : Int) (s t : Nat) : Prop := ¬ mp_v s w = 0 ∧ gt_r M2 lo hi (s : Int) (hi, (t : Int))
def ke_w (M : ab_M) (b n : Int) (w : List Int) : Prop := vl_P M 803 b w ∧ w.length ≤ 130 ∧ n = ((w.length : Nat) : Int) ∧ b + n ≤ 640
def ke_B (M2 : ab_M) (e : Int) (W1 W2 : Nat → List Int) : Prop := (cb_K M2 ∧ gt_B M2 ∧ M2 797 44 < 1999999000) ∧ (0 ≤ e ∧ e < 400) ∧ (0 ≤ M2 823 e.toNat + 1 ∧ M2 823 e.toNat + 1 ≤ M2 824 e.toNat ∧ M2 824 e.toNat ≤ M2 797 33) ∧ (ke_w M2 (M2 807 e.toNat) (M2 808 e.toNat) (W1 e.toNat) ∧ ke_w M2 (M2 809 e.toNat) (M2 810 e.toNat) (W2 e.toNat)) ∧ lv_B M2
def ke_F (M2 M1 : ab_M) : Prop := ∀ o k : Nat, o ≠ 817 → ¬ (827 ≤ o ∧ o ≤ 833) → ¬ (o = 797 ∧ 44 ≤ k ∧ k ≤ 49) → M1 o k = M2 o k
abbrev ke_G (M2 : ab_M) (e : Int) (W1 : Nat → List Int) : Nat → Nat → Prop := ke_g M2 (W1 e.toNat) (M2 823 e.toNat + 1) (M2 824 e.toNat)
abbrev ke_J (W2 : Nat → List Int) (e : Int) : Nat → Prop := ke_i (W2 e.toNat)
/-- what all turns hold -/
def ke_I (M2 M1 : ab_M) (d : Int) : Prop := ke_F M2 M1 ∧ (gt_B M1 ∧ M1 797 44 ≤ M2 797 44 + d) ∧ lv_B M1
/-- the first states' rows -/
def ke_1 (M2 M1 : ab_M) (e : Int) (W1 W2 : Nat → List Int) (s : Int) : Prop := (∀ x : Nat, (x : Int) < s → (M1 832 x = 1 ↔ ke_J W2 e x)) ∧ ∀ x : Nat, (x : Int) < s → ∀ t : Nat, t < 256 → (M1 831 (256 * x + t) = 1 ↔ ke_G M2 e W1 x t)
def ke_2 (M2 M1 : ab_M) (e : Int) (W1 W2 : Nat → List Int) (s is t : Int) : Prop := (M1 832 s.toNat = 1 ↔ ke_J W2 e s.toNat) ∧ ((is = 1 ∧ ¬ mp_v s.toNat (W1 e.toNat) = 0 ∧ ∀ y : Nat, y < 256 → (M1 829 y = M1 797 44 ↔ gt_r M2 (M2 823 e.toNat + 1) (M2 824 e.toNat) ((s.toNat : Nat) : Int) (M2 824 e.toNat, (y : Int)))) ∨ (is = 0 ∧ mp_v s.toNat (W1 e.toNat) = 0)) ∧ ∀ y : Nat, (y : Int) < t → (M1 831 (256 * s.toNat + y) = 1 ↔ ke_G M2 e W1 s.toNat y)
/-- after some rounds -/
def ke_3 (M2 M1 : ab_M) (e : Int) (W1 W2 : Nat → List Int) (i : Nat) : Prop := (∀ x : Nat, x < 256 → (M1 832 x = 1 ↔ ke_K (ke_J W2 e) (ke_G M2 e W1) i x)) ∧ (∀ j, j < i → ∃ x : Nat, x < 256 ∧ ke_K (ke_J W2 e) (ke_G M2 e W1) j x ∧ ¬ ke_K (ke_J W2 e) (ke_G M2 e W1) (j + 1) x)
def ke_n (M1 : ab_M) : Nat := gx_m (fun x => decide (M1 832 x = 1)) 256
def ke_P (M M' : ab_M) (l q r : Int) (W1 W2 : Nat → List Int) : Prop := ∃ N, pz_rdn M N ∧ (¬ ((0 ≤ l ∧ l < N 797 21) ∧ 0 ≤ q ∧ q ≤ 1) → M' = N ∧ r = -1) ∧ ((0 ≤ l ∧ l < N 797 21) ∧ 0 ≤ q ∧ q ≤ 1 → ∃ M2, la_P N M2 1 W1 W2 ∧ ke_I M2 M' 256 ∧ ∃ i : Nat, ke_3 M2 M' (M2 814 l.toNat) W1 W2 i ∧ (∀ x : Nat, x < 256 → ke_K (ke_J W2 (M2 814 l.toNat)) (ke_G M2 (M2 814 l.toNat) W1) i x → ke_K (ke_J W2 (M2 814 l.toNat)) (ke_G M2 (M2 814 l.toNat) W1) (i + 1) x) ∧ (q = 0 → r = ((ke_n M' : Nat) : Int)) ∧ (q = 1 → r = (i : Int)))
theorem ke_F.p {M2 M1 : ab_M} (h : ke_F M2 M1) : ∀ o k : Nat, 818 ≤ o → o ≤ 822 → M1 o k = M2 o k := fun o k a b => h o k (by omega) (by omega) (by omega)
theorem ke_F.K {M2 M1 : ab_M} (h : ke_F M2 M1) (hK : cb_K M2) : cb_K M1 := by
  unfold cb_K
  rw [h 797 33 (by decide) (by omega) (by omega)]
  refine ⟨hK.1, fun i hi => ?_⟩
  have := hK.2 i hi
  rw [h.p 818 _ (by decide) (by decide), h.p 819 _ (by decide) (by decide), h.p 820 _ (by decide) (by decide)]
  refine ⟨this.1, this.2.1, this.2.2.1, fun s hs => ?_⟩
  rw [h.p 822 _ (by decide) (by decide)]
  exact this.2.2.2 s hs
theorem ke_F.r {M2 M1 : ab_M} (h : ke_F M2 M1) (lo hi s : Int) (p : Int × Int) : gt_r M1 lo hi s p ↔ gt_r M2 lo hi s p := by
  unfold gt_r
  rw [gt_S_fr h.p]
theorem ke_I.v {M2 M1 A : ab_M} {d : Int} (h : ke_I M2 M1 d) (h2 : ∀ o k : Nat, o ≠ 817 → A o k = M1 o k) : ke_I M2 A d := by
  obtain ⟨h3, ⟨h4, h5⟩, h6⟩ := h
  refine ⟨fun o k a b c => (h2 o k a).trans (h3 o k a b c), ⟨?_, by rw [h2 _ _ (by decide)]; exact h5⟩, ?_⟩
  · unfold gt_B
    simp only [h2 797 _ (by decide), h2 827 _ (by decide), h2 829 _ (by decide), h2 830 _ (by decide)]
    exact h4
  · unfold lv_B
    simp only [h2 832 _ (by decide), h2 831 _ (by decide)]
    exact h6
theorem ke_I.u {M2 M1 : ab_M} {d : Int} (h : ke_I M2 M1 d) {o k : Nat} {v : Int} (ho : o = 831 ∨ o = 832) (hv : v = 0 ∨ v = 1) : ke_I M2 (ab_up M1 o k v) d := by
  obtain ⟨h3, ⟨h4, h5⟩, h6⟩ := h
  refine ⟨fun o' k' a b c => (up_ne (by omega)).trans (h3 o' k' a b c), ⟨?_, by rw [up_ne (by omega)]; exact h5⟩, fun j => ?_, fun j => ?_⟩
  · unfold gt_B
    rw [up_ne (by omega)]
    refine ⟨h4.1, fun j => ?_⟩
    rw [up_ne (by omega), up_ne (by omega), up_ne (by omega)]
    exact h4.2 j
  · by_cases c : 832 = o ∧ j = k
    · rw [c.1, c.2, ab_up_s]; exact hv
    · rw [up_ne c]; exact h6.1 j
  · by_cases c : 831 = o ∧ j = k
    · rw [c.1, c.2, ab_up_s]; exact hv
    · rw [up_ne c]; exact h6.2 j
theorem ke_w.fr {M2 M1 : ab_M} (h : ke_F M2 M1) {b n : Int} {w : List Int} (hw : ke_w M2 b n w) : ke_w M1 b n w := ⟨hw.1.fr fun j => h _ _ (by decide) (by omega) (by omega), hw.2⟩
/-- one may go through -/
theorem ke_I.A {M2 M1 : ab_M} {e s d : Int} {W1 W2 : Nat → List Int} (hB : ke_B M2 e W1 W2) (h : ke_I M2 M1 d) (hd : d ≤ 256) (hs : 0 ≤ s ∧ s < 256) : gt_A M1 (M1 823 e.toNat + 1) (M1 824 e.toNat) s := by
  obtain ⟨h3, ⟨h4, h5⟩, h6⟩ := h
  obtain ⟨⟨b1, b2, b3⟩, b4, b5, b6⟩ := hB
  rw [h3 823 _ (by decide) (by omega) (by omega), h3 824 _ (by decide) (by omega) (by omega)]
  refine ⟨h3.K b1, ?_, hs, h4, by omega⟩
  rw [h3 797 33 (by decide) (by omega) (by omega)]
  omega
/-- gone through from a state -/
theorem ke_I.go {M2 M1 A : ab_M} {e s d : Int} (h : ke_I M2 M1 d) (hP : gt_P M1 A (M1 823 e.toNat + 1) (M1 824 e.toNat) s) : ke_I M2 A (d + 1) ∧ (∀ k, A 832 k = M1 832 k) ∧ (∀ k, A 831 k = M1 831 k) ∧ ∀ y : Nat, y < 256 → (A 829 y = A 797 44 ↔ gt_r M2 (M2 823 e.toNat + 1) (M2 824 e.toNat) s (M2 824 e.toNat, (y : Int))) := by
  obtain ⟨h3, ⟨h4, h5⟩, h6⟩ := h
  obtain ⟨p1, ⟨p2, p3⟩, p4⟩ := hP
  have e0 := h3 823 e.toNat (by decide) (by omega) (by omega)
  have e1 := h3 824 e.toNat (by decide) (by omega) (by omega)
  have f9 : ∀ k, A 832 k = M1 832 k := fun k => p1 _ _ (by omega) (by omega)
  have f8 : ∀ k, A 831 k = M1 831 k := fun k => p1 _ _ (by omega) (by omega)
  refine ⟨⟨fun o k a b c => (p1 o k (by omega) c).trans (h3 o k a b c), ⟨p3, by omega⟩, fun k => by rw [f9]; exact h6.1 k, fun k => by rw [f8]; exact h6.2 k⟩, f9, f8, fun y hy => ?_⟩
  rw [(p4 y hy).1, h3.r, e0, e1]
theorem ke_I.le {M2 M1 : ab_M} {d d' : Int} (h : ke_I M2 M1 d) (hd : d ≤ d') : ke_I M2 M1 d' := ⟨h.1, ⟨h.2.1.1, by have := h.2.1.2; omega⟩, h.2.2⟩
/-- a row of ends -/
theorem ke_2.next {M2 M1 : ab_M} {e s is t v : Int} {W1 W2 : Nat → List Int} (h : ke_2 M2 M1 e W1 W2 s is t) (ht : 0 ≤ t ∧ t < 256) (hs : 0 ≤ s ∧ s < 256) (hv : v = if ¬ is = 0 ∧ M1 829 t.toNat = M1 797 44 then 1 else 0) : ke_2 M2 (ab_up M1 831 (256 * s + t).toNat v) e W1 W2 s is (t + 1) := by
  obtain ⟨h1, h2, h3⟩ := h
  have o : ∀ o k : Nat, o ≠ 831 → ab_up M1 831 (256 * s + t).toNat v o k = M1 o k := fun o k x => ab_up_o x _
  refine ⟨by rw [o _ _ (by decide)]; exact h1, ?_, fun y hy => ?_⟩
  · rw [o _ _ (by decide)]
    simp only [o 829 _ (by decide)]
    exact h2
  · by_cases c : y = t.toNat
    · have ek : 256 * s.toNat + y = (256 * s + t).toNat := by omega
      rw [ek, ab_up_s, hv]
      show _ ↔ ¬ mp_v s.toNat (W1 e.toNat) = 0 ∧ gt_r M2 (M2 823 e.toNat + 1) (M2 824 e.toNat) ((s.toNat : Nat) : Int) (M2 824 e.toNat, (y : Int))
      rcases h2 with ⟨a1, a2, a3⟩ | ⟨a1, a2⟩
      · have a3 := a3 y (by omega)
        rw [← c, ← a3]
        by_cases z : M1 829 y = M1 797 44
        · rw [if_pos ⟨by rw [a1]; decide, z⟩]; exact ⟨fun _ => ⟨a2, z⟩, fun _ => rfl⟩
        · rw [if_neg (fun w => z w.2)]; exact ⟨fun w => absurd w (by decide), fun w => absurd w.2 z⟩
      · rw [if_neg (fun w => w.1 a1)]
        exact ⟨fun w => absurd w (by decide), fun w => absurd a2 w.1⟩
    · rw [ab_up_k (by omega)]
      exact h3 y (by omega)
theorem ke_1.u8 {M2 M1 : ab_M} {e s t v : Int} {W1 W2 : Nat → List Int} (h : ke_1 M2 M1 e W1 W2 s) (ht : 0 ≤ t ∧ t < 256) (hs : 0 ≤ s ∧ s < 256) : ke_1 M2 (ab_up M1 831 (256 * s + t).toNat v) e W1 W2 s := ⟨fun x hx => by rw [ab_up_o (by decide)]; exact h.1 x hx, fun x hx y hy => by rw [ab_up_k (by omega)]; exact h.2 x hx y hy⟩
theorem ke_1.fr {M2 M1 A : ab_M} {e s : Int} {W1 W2 : Nat → List Int} (h : ke_1 M2 M1 e W1 W2 s) (h9 : ∀ k : Nat, (k : Int) < s → A 832 k = M1 832 k) (h8 : ∀ k, A 831 k = M1 831 k) : ke_1 M2 A e W1 W2 s := ⟨fun x hx => by rw [h9 x hx]; exact h.1 x hx, fun x hx y hy => by rw [h8]; exact h.2 x hx y hy⟩
theorem ke_1.next {M2 M1 : ab_M} {e s is : Int} {W1 W2 : Nat → List Int} (hs : 0 ≤ s) (h : ke_1 M2 M1 e W1 W2 s) (h2 : ke_2 M2 M1 e W1 W2 s is 256) : ke_1 M2 M1 e W1 W2 (s + 1) := by
  refine ⟨fun x hx => ?_, fun x hx y hy => ?_⟩
  · by_cases c : x = s.toNat
    · rw [c]; exact h2.1
    · exact h.1 x (by omega)
  · by_cases c : x = s.toNat
    · rw [c]; exact h2.2.2 y (by omega)
    · exact h.2 x (by omega) y hy
theorem ke_lv {M2 M1 : ab_M} {e : Int} {W1 W2 : Nat → List Int} {i : Nat} (hB : lv_B M1) (h3 : ke_3 M2 M1 e W1 W2 i) (h8 : ∀ x : Nat, x < 256 → ∀ t : Nat, t < 256 → (M1 831 (256 * x + t) = 1 ↔ ke_G M2 e W1 x t)) {x : Nat} (hx : x < 256) : lv_l M1 x ↔ ke_K (ke_J W2 e) (ke_G M2 e W1) i x ∧ ¬ ke_K (ke_J W2 e) (ke_G M2 e W1) (i + 1) x := by
  have h := h3.1
  unfold lv_l
  rw [h x hx]
  constructor
  · rintro ⟨a, t, t1, t2, t3⟩
    refine ⟨a, fun z => z.2 ⟨t, t1, (h8 x hx t t1).1 t2, fun y => ?_⟩⟩
    have := (h t t1).2 y
    omega
  · rintro ⟨a, b⟩
    refine ⟨a, ?_⟩
    have c : ∃ t : Nat, t < 256 ∧ ke_G M2 e W1 x t ∧ ¬ ke_K (ke_J W2 e) (ke_G M2 e W1) i t := Classical.byContradiction fun z => b ⟨a, z⟩
    obtain ⟨t, t1, t2, t3⟩ := c
    refine ⟨t, t1, (h8 x hx t t1).2 t2, (hB.1 t).resolve_right fun z => t3 ((h t t1).1 z)⟩
/-- a round -/
theorem ke_3.next {M2 M1 A : ab_M} {e r : Int} {W1 W2 : Nat → List Int} {i : Nat} (hB : lv_B M1) (h3 : ke_3 M2 M1 e W1 W2 i) (h8 : ∀ x : Nat, x < 256 → ∀ t : Nat, t < 256 → (M1 831 (256 * x + t) = 1 ↔ ke_G M2 e W1 x t)) (hl : lv_P M1 A r) : (r = 0 ∨ r = 1) ∧ (r = 1 → ke_3 M2 A e W1 W2 (i + 1) ∧ ke_n A < ke_n M1) ∧ (r = 0 → ke_3 M2 A e W1 W2 i ∧ ∀ x : Nat, x < 256 → ke_K (ke_J W2 e) (ke_G M2 e W1) i x → ke_K (ke_J W2 e) (ke_G M2 e W1) (i + 1) x) ∧ lv_B A ∧ ∀ k, A 831 k = M1 831 k := by
  obtain ⟨l1, l2, l3, l4⟩ := hl
  have f8 : ∀ k, A 831 k = M1 831 k := fun k => l1 _ _ (by decide) (by decide)
  have hlv := fun x hx => ke_lv hB h3 h8 (x := x) hx
  have hA : ∀ x : Nat, x < 256 → (A 832 x = 1 ↔ ke_K (ke_J W2 e) (ke_G M2 e W1) (i + 1) x) := fun x hx => by
    have hk := h3.1 x hx
    have hle : ke_K (ke_J W2 e) (ke_G M2 e W1) (i + 1) x → ke_K (ke_J W2 e) (ke_G M2 e W1) i x := fun z => z.1
    rcases l3 x hx with ⟨a, b, c⟩ | ⟨a, b⟩
    · rw [hlv x hx] at c
      exact ⟨fun _ => Classical.byContradiction fun z => c ⟨hk.1 b, z⟩, fun _ => a⟩
    · rw [hlv x hx] at b
      refine ⟨fun z => by omega, fun z => absurd ⟨hk.2 (hle z), fun y => y.2 z⟩ b⟩
  refine ⟨by rcases l4 with z | z; exact Or.inr z.1; exact Or.inl z.1, fun hr => ?_, fun hr => ?_, ⟨fun k => ?_, fun k => by rw [f8]; exact hB.2 k⟩, f8⟩
  · rcases l4 with ⟨-, x, x1, x2⟩ | ⟨z, -⟩
    · rw [hlv x x1] at x2
      refine ⟨⟨hA, fun j hj => ?_⟩, ?_⟩
      · by_cases c : j = i
        · rw [c]; exact ⟨x, x1, x2⟩
        · exact h3.2 j (by omega)
      · refine gx_m_lt _ (fun y hy q => ?_) ⟨x, x1, ?_, ?_⟩
        · rw [decide_eq_true_iff] at q ⊢
          exact (h3.1 y hy).2 ((hA y hy).1 q).1
        · rw [decide_eq_true_iff]
          exact (h3.1 x x1).2 x2.1
        · rw [decide_eq_true_iff]
          exact fun q => x2.2 ((hA x x1).1 q)
    · omega
  · rcases l4 with ⟨z, -⟩ | ⟨-, z⟩
    · omega
    · have hst : ∀ x : Nat, x < 256 → ke_K (ke_J W2 e) (ke_G M2 e W1) i x → ke_K (ke_J W2 e) (ke_G M2 e W1) (i + 1) x := fun x hx q => Classical.byContradiction fun y => z x hx ((hlv x hx).2 ⟨q, y⟩)
      exact ⟨⟨fun x hx => (hA x hx).trans ⟨fun q => q.1, hst x hx⟩, h3.2⟩, hst⟩
  · by_cases c : k < 256
    · rcases l3 k c with z | z
      · exact Or.inr z.1
      · exact Or.inl z.1
    · rw [l2 k (by omega)]; exact hB.1 k

def S_X9_keeps : ab_PT := fun a M K => match a with
  | [.inr (.inr (.inr (797, 9, 0))), .inr (.inl l), .inr (.inl q)] => (∃ W1 : Nat → List Int, ∃ W2 : Nat → List Int, ((pz_PR M ∧ ab_ir l ∧ ab_ir q) ∧ ∀ N, pz_rdn M N → (0 ≤ N 797 21 ∧ N 797 21 ≤ 4) ∧ ab_ir (N 797 29) ∧ la_A N 1 W1 W2 ∧ ∀ M2, la_P N M2 1 W1 W2 → (0 ≤ l ∧ l < N 797 21 → ke_B M2 (M2 814 l.toNat) W1 W2)) ∧ (∀ rx : Int, ∀ Mx : ab_M, (ke_P M Mx l q rx W1 W2) → K [Xi rx] Mx))
  | _ => False
set_option maxRecDepth 20000 in
theorem vc_X9_keeps_0 (l : Int) (q : Int) (M : ab_M) (K : List ab_V → ab_M → Prop) (hS : (∃ W1 : Nat → List Int, ∃ W2 : Nat → List Int, ((pz_PR M ∧ ab_ir l ∧ ab_ir q) ∧ ∀ N, pz_rdn M N → (0 ≤ N 797 21 ∧ N 797 21 ≤ 4) ∧ ab_ir (N 797 29) ∧ la_A N 1 W1 W2 ∧ ∀ M2, la_P N M2 1 W1 W2 → (0 ≤ l ∧ l < N 797 21 → ke_B M2 (M2 814 l.toNat) W1 W2)) ∧ (∀ rx : Int, ∀ Mx : ab_M, (ke_P M Mx l q rx W1 W2) → K [Xi rx] Mx))) : (pz_PR M) ∧ (∀ M1 : ab_M, (pz_rdn M M1) → (ab_ir l ∧ ab_ir (0 : Int) ∧ ab_ir ((M1 797 21) - (1 : Int))) ∧ (∀ r12 : Int, (r12 = if (0 : Int) ≤ l ∧ l ≤ ((M1 797 21) - (1 : Int)) then 1 else 0) → (ab_ir r12) ∧ ((r12 = 0 → K [Xi (-1 : Int)] M1) ∧ (¬ r12 = 0 → (ab_ir q ∧ ab_ir (0 : Int) ∧ ab_ir (1 : Int)) ∧ (∀ r21 : Int, (r21 = if (0 : Int) ≤ q ∧ q ≤ (1 : Int) then 1 else 0) → (ab_ir r21) ∧ ((¬ r21 = 0 → (∃ W1_31 : Nat → List Int, ∃ W2_31 : Nat → List Int, (pz_PR M1 ∧ ab_ir (1 : Int) ∧ ab_ir (M1 797 29) ∧ ∀ N, pz_rdn M1 N → la_A N (1 : Int) W1_31 W2_31) ∧ (∀ M31 : ab_M, (la_P M1 M31 (1 : Int) W1_31 W2_31) → (0 ≤ l ∧ l < ((4 : Nat) : Int)) ∧ (∃ n', ((n' = 3000 + (256 - (0 : Int)).toNat * 300 ∧ 0 ≤ (0 : Int) ∧ (0 : Int) ≤ 256 ∧ l = l ∧ q = q ∧ ∃ W1 W2 N M2, (∀ rx : Int, ∀ Mx : ab_M, ke_P M Mx l q rx W1 W2 → K [Xi rx] Mx) ∧ pz_rdn M N ∧ ((0 ≤ l ∧ l < N 797 21) ∧ 0 ≤ q ∧ q ≤ 1) ∧ la_P N M2 1 W1 W2 ∧ ke_B M2 (M2 814 l.toNat) W1 W2 ∧ (M31 814 l.toNat) = M2 814 l.toNat ∧ ke_I M2 M31 (0 : Int) ∧ ke_1 M2 M31 (M31 814 l.toNat) W1 W2 (0 : Int))))))) ∧ (r21 = 0 → K [Xi (-1 : Int)] M1))))))) := by
  obtain ⟨W1, W2, ⟨⟨gP, gl, gq⟩, gA⟩, gK⟩ := hS
  refine And.intro (by
    first
      | omega
      | exact gP
      | exact ⟨by omega, by omega⟩
      | exact ⟨gl, ⟨by decide, by decide⟩, by omega, by omega⟩
      | exact ⟨gq, ⟨by decide, by decide⟩, by decide, by decide⟩
      | exact ⟨gq, by decide, by decide⟩
      | (split <;> exact ⟨by decide, by decide⟩)
      | exact ⟨⟨by omega, by omega⟩, by omega, by omega⟩
      | exact ⟨⟨by omega, by omega⟩, Or.inl rfl⟩
      | exact ⟨⟨by omega, by omega⟩, Or.inr rfl⟩
      | (rcases h2.2.1 with z | z <;> (rw [z.1]; exact ⟨by decide, by decide⟩))
      | (rcases hB1.1 s.toNat with z | z <;> (rw [z]; exact ⟨by decide, by decide⟩))
      | (have := hI.2.1.1.1; have := (hI.2.1.1.2 t.toNat).2.1; exact ⟨⟨by omega, by omega⟩, by omega, by omega⟩)
      | exact hB1
      | (rcases (ke_3.next hB1 h3 h8 hM203).1 with z | z <;> (rw [z]; exact ⟨by decide, by decide⟩))
      | trivial) ?_
  intro M1 hM1
  have hA0 := (gA M1 hM1).1
  refine And.intro (by
    first
      | omega
      | exact gP
      | exact ⟨by omega, by omega⟩
      | exact ⟨gl, ⟨by decide, by decide⟩, by omega, by omega⟩
      | exact ⟨gq, ⟨by decide, by decide⟩, by decide, by decide⟩
      | exact ⟨gq, by decide, by decide⟩
      | (split <;> exact ⟨by decide, by decide⟩)
      | exact ⟨⟨by omega, by omega⟩, by omega, by omega⟩
      | exact ⟨⟨by omega, by omega⟩, Or.inl rfl⟩
      | exact ⟨⟨by omega, by omega⟩, Or.inr rfl⟩
      | (rcases h2.2.1 with z | z <;> (rw [z.1]; exact ⟨by decide, by decide⟩))
      | (rcases hB1.1 s.toNat with z | z <;> (rw [z]; exact ⟨by decide, by decide⟩))
      | (have := hI.2.1.1.1; have := (hI.2.1.1.2 t.toNat).2.1; exact ⟨⟨by omega, by omega⟩, by omega, by omega⟩)
      | exact hB1
      | (rcases (ke_3.next hB1 h3 h8 hM203).1 with z | z <;> (rw [z]; exact ⟨by decide, by decide⟩))
      | trivial) ?_
  intro r12 hr12
  refine And.intro (by
    first
      | omega
      | exact gP
      | exact ⟨by omega, by omega⟩
      | exact ⟨gl, ⟨by decide, by decide⟩, by omega, by omega⟩
      | exact ⟨gq, ⟨by decide, by decide⟩, by decide, by decide⟩
      | exact ⟨gq, by decide, by decide⟩
      | (split <;> exact ⟨by decide, by decide⟩)
      | exact ⟨⟨by omega, by omega⟩, by omega, by omega⟩
      | exact ⟨⟨by omega, by omega⟩, Or.inl rfl⟩
      | exact ⟨⟨by omega, by omega⟩, Or.inr rfl⟩
      | (rcases h2.2.1 with z | z <;> (rw [z.1]; exact ⟨by decide, by decide⟩))
      | (rcases hB1.1 s.toNat with z | z <;> (rw [z]; exact ⟨by decide, by decide⟩))
      | (have := hI.2.1.1.1; have := (hI.2.1.1.2 t.toNat).2.1; exact ⟨⟨by omega, by omega⟩, by omega, by omega⟩)
      | exact hB1
      | (rcases (ke_3.next hB1 h3 h8 hM203).1 with z | z <;> (rw [z]; exact ⟨by decide, by decide⟩))
      | trivial) ?_
  refine ⟨?_, ?_⟩
  · intro c15
    rw [hr12] at c15
    rw [ab_bf] at c15
    clear hr12 r12
    exact gK _ _ ⟨M1, hM1, fun _ => ⟨rfl, rfl⟩, fun z => by omega⟩
  · intro c15
    rw [hr12] at c15
    rw [ab_bt] at c15
    clear hr12 r12
    refine And.intro (by
      first
        | omega
        | exact gP
        | exact ⟨by omega, by omega⟩
        | exact ⟨gl, ⟨by decide, by decide⟩, by omega, by omega⟩
        | exact ⟨gq, ⟨by decide, by decide⟩, by decide, by decide⟩
        | exact ⟨gq, by decide, by decide⟩
        | (split <;> exact ⟨by decide, by decide⟩)
        | exact ⟨⟨by omega, by omega⟩, by omega, by omega⟩
        | exact ⟨⟨by omega, by omega⟩, Or.inl rfl⟩
        | exact ⟨⟨by omega, by omega⟩, Or.inr rfl⟩
        | (rcases h2.2.1 with z | z <;> (rw [z.1]; exact ⟨by decide, by decide⟩))
        | (rcases hB1.1 s.toNat with z | z <;> (rw [z]; exact ⟨by decide, by decide⟩))
        | (have := hI.2.1.1.1; have := (hI.2.1.1.2 t.toNat).2.1; exact ⟨⟨by omega, by omega⟩, by omega, by omega⟩)
        | exact hB1
        | (rcases (ke_3.next hB1 h3 h8 hM203).1 with z | z <;> (rw [z]; exact ⟨by decide, by decide⟩))
        | trivial) ?_
    intro r21 hr21
    refine And.intro (by
      first
        | omega
        | exact gP
        | exact ⟨by omega, by omega⟩
        | exact ⟨gl, ⟨by decide, by decide⟩, by omega, by omega⟩
        | exact ⟨gq, ⟨by decide, by decide⟩, by decide, by decide⟩
        | exact ⟨gq, by decide, by decide⟩
        | (split <;> exact ⟨by decide, by decide⟩)
        | exact ⟨⟨by omega, by omega⟩, by omega, by omega⟩
        | exact ⟨⟨by omega, by omega⟩, Or.inl rfl⟩
        | exact ⟨⟨by omega, by omega⟩, Or.inr rfl⟩
        | (rcases h2.2.1 with z | z <;> (rw [z.1]; exact ⟨by decide, by decide⟩))
        | (rcases hB1.1 s.toNat with z | z <;> (rw [z]; exact ⟨by decide, by decide⟩))
        | (have := hI.2.1.1.1; have := (hI.2.1.1.2 t.toNat).2.1; exact ⟨⟨by omega, by omega⟩, by omega, by omega⟩)
        | exact hB1
        | (rcases (ke_3.next hB1 h3 h8 hM203).1 with z | z <;> (rw [z]; exact ⟨by decide, by decide⟩))
        | trivial) ?_
    refine ⟨?_, ?_⟩
    · intro c24
      rw [hr21] at c24
      rw [ab_bt] at c24
      clear hr21 r21
      refine Exists.intro (W1) <| Exists.intro (W2) <| ?_
      refine And.intro (by
        have h := gA M1 hM1
        exact ⟨pz_rdn.PR gP hM1, ⟨by decide, by decide⟩, h.2.1, fun N' z => by rw [z.1 hM1.2.2.1]; exact h.2.2.1⟩) ?_
      intro M31 hM31
      refine And.intro (by
        first
          | omega
          | exact gP
          | exact ⟨by omega, by omega⟩
          | exact ⟨gl, ⟨by decide, by decide⟩, by omega, by omega⟩
          | exact ⟨gq, ⟨by decide, by decide⟩, by decide, by decide⟩
          | exact ⟨gq, by decide, by decide⟩
          | (split <;> exact ⟨by decide, by decide⟩)
          | exact ⟨⟨by omega, by omega⟩, by omega, by omega⟩
          | exact ⟨⟨by omega, by omega⟩, Or.inl rfl⟩
          | exact ⟨⟨by omega, by omega⟩, Or.inr rfl⟩
          | (rcases h2.2.1 with z | z <;> (rw [z.1]; exact ⟨by decide, by decide⟩))
          | (rcases hB1.1 s.toNat with z | z <;> (rw [z]; exact ⟨by decide, by decide⟩))
          | (have := hI.2.1.1.1; have := (hI.2.1.1.2 t.toNat).2.1; exact ⟨⟨by omega, by omega⟩, by omega, by omega⟩)
          | exact hB1
          | (rcases (ke_3.next hB1 h3 h8 hM203).1 with z | z <;> (rw [z]; exact ⟨by decide, by decide⟩))
          | trivial) ?_
      have hok := (gA M1 hM1).2.2.2 _ hM31 ⟨by omega, by omega⟩
      refine ⟨_, rfl, by decide, by decide, rfl, rfl, W1, W2, M1, M31, gK, hM1, ⟨⟨by omega, by omega⟩, by omega, by omega⟩, hM31, hok, rfl, ⟨fun _ _ _ _ _ => rfl, ⟨hok.1.2.1, by omega⟩, hok.2.2.2.2⟩, fun x hx => by omega, fun x hx => by omega⟩
    · intro c24
      rw [hr21] at c24
      rw [ab_bf] at c24
      clear hr21 r21
      exact gK _ _ ⟨M1, hM1, fun _ => ⟨rfl, rfl⟩, fun z => by omega⟩

set_option maxRecDepth 20000 in
theorem vc_X9_keeps_44 (l : Int) (q : Int) (M : ab_M) (K : List ab_V → ab_M → Prop) (hS : (∃ W1 : Nat → List Int, ∃ W2 : Nat → List Int, ((pz_PR M ∧ ab_ir l ∧ ab_ir q) ∧ ∀ N, pz_rdn M N → (0 ≤ N 797 21 ∧ N 797 21 ≤ 4) ∧ ab_ir (N 797 29) ∧ la_A N 1 W1 W2 ∧ ∀ M2, la_P N M2 1 W1 W2 → (0 ≤ l ∧ l < N 797 21 → ke_B M2 (M2 814 l.toNat) W1 W2)) ∧ (∀ rx : Int, ∀ Mx : ab_M, (ke_P M Mx l q rx W1 W2) → K [Xi rx] Mx))) (n : Nat) (l1 : Int) (q1 : Int) (e : Int) (s : Int) (M1 : ab_M) (hI : n = 3000 + (256 - s).toNat * 300 ∧ 0 ≤ s ∧ s ≤ 256 ∧ l = l1 ∧ q = q1 ∧ ∃ W1 W2 N M2, (∀ rx : Int, ∀ Mx : ab_M, ke_P M Mx l q rx W1 W2 → K [Xi rx] Mx) ∧ pz_rdn M N ∧ ((0 ≤ l ∧ l < N 797 21) ∧ 0 ≤ q ∧ q ≤ 1) ∧ la_P N M2 1 W1 W2 ∧ ke_B M2 (M2 814 l.toNat) W1 W2 ∧ e = M2 814 l.toNat ∧ ke_I M2 M1 s ∧ ke_1 M2 M1 e W1 W2 s) : (-32768 ≤ (256 : Int) ∧ (256 : Int) < 32768) ∧ (ab_ir s ∧ ab_ir (256 : Int)) ∧ (((256 : Int) ≤ s → (∃ n', n' < n ∧ ((n' = 300 + ke_n M1 ∧ 0 ≤ (0 : Int) ∧ (0 : Int) + ((ke_n M1 : Nat) : Int) ≤ 256 ∧ l = l1 ∧ q = q1 ∧ ∃ W1 W2 N M2, (∀ rx : Int, ∀ Mx : ab_M, ke_P M Mx l q rx W1 W2 → K [Xi rx] Mx) ∧ pz_rdn M N ∧ ((0 ≤ l ∧ l < N 797 21) ∧ 0 ≤ q ∧ q ≤ 1) ∧ la_P N M2 1 W1 W2 ∧ ke_B M2 (M2 814 l.toNat) W1 W2 ∧ e = M2 814 l.toNat ∧ ke_I M2 M1 256 ∧ ke_3 M2 M1 e W1 W2 (0 : Int).toNat ∧ (∀ x : Nat, x < 256 → ∀ t : Nat, t < 256 → (M1 831 (256 * x + t) = 1 ↔ ke_G M2 e W1 x t)))))) ∧ (s < (256 : Int) → (0 ≤ e ∧ e < ((400 : Nat) : Int)) ∧ (0 ≤ e ∧ e < ((400 : Nat) : Int)) ∧ (∃ w_73 : List Int, (vl_P M1 803 (M1 809 e.toNat) w_73 ∧ w_73.length ≤ 130 ∧ (M1 810 e.toNat) = ((w_73.length : Nat) : Int) ∧ (M1 809 e.toNat) + (M1 810 e.toNat) ≤ 640) ∧ (∀ r73 : Int, ∀ M73 : ab_M, (∀ o' k' : Nat, o' ≠ 817 → M73 o' k' = M1 o' k') → (r73 = pz_val s w_73 ∧ 0 ≤ r73 ∧ r73 ≤ 3) → (ab_ir r73) ∧ ((r73 = 0 → ((0 ≤ s ∧ s < ((256 : Nat) : Int)) ∧ ((0 : Int) = 0 ∨ (0 : Int) = 1)) ∧ (0 ≤ e ∧ e < ((400 : Nat) : Int)) ∧ (0 ≤ e ∧ e < ((400 : Nat) : Int)) ∧ (∃ w_100 : List Int, (vl_P (ab_up M73 832 s.toNat (0 : Int)) 803 (M73 807 e.toNat) w_100 ∧ w_100.length ≤ 130 ∧ (M73 808 e.toNat) = ((w_100.length : Nat) : Int) ∧ (M73 807 e.toNat) + (M73 808 e.toNat) ≤ 640) ∧ (∀ r100 : Int, ∀ M100 : ab_M, (∀ o' k' : Nat, o' ≠ 817 → M100 o' k' = (ab_up M73 832 s.toNat (0 : Int)) o' k') → (r100 = pz_val s w_100 ∧ 0 ≤ r100 ∧ r100 ≤ 3) → (ab_ir r100) ∧ ((r100 = 0 → (ab_ir (0 : Int)) ∧ (((0 : Int) = 0 → (∃ n', n' < n ∧ ((n' = 3000 + (256 - s).toNat * 300 - 1 - (0 : Int).toNat ∧ (0 ≤ s ∧ s < 256) ∧ (0 ≤ (0 : Int) ∧ (0 : Int) ≤ 256) ∧ l = l1 ∧ q = q1 ∧ ∃ W1 W2 N M2, (∀ rx : Int, ∀ Mx : ab_M, ke_P M Mx l q rx W1 W2 → K [Xi rx] Mx) ∧ pz_rdn M N ∧ ((0 ≤ l ∧ l < N 797 21) ∧ 0 ≤ q ∧ q ≤ 1) ∧ la_P N M2 1 W1 W2 ∧ ke_B M2 (M2 814 l.toNat) W1 W2 ∧ e = M2 814 l.toNat ∧ ke_I M2 M100 (s + 1) ∧ ke_1 M2 M100 e W1 W2 s ∧ ke_2 M2 M100 e W1 W2 s (0 : Int) (0 : Int))))) ∧ (¬ (0 : Int) = 0 → (0 ≤ e ∧ e < ((400 : Nat) : Int)) ∧ (0 ≤ e ∧ e < ((400 : Nat) : Int)) ∧ (gt_A M100 ((M100 823 e.toNat) + (1 : Int)) (M100 824 e.toNat) s) ∧ (∀ M135 : ab_M, (gt_P M100 M135 ((M100 823 e.toNat) + (1 : Int)) (M100 824 e.toNat) s) → (∃ n', n' < n ∧ ((n' = 3000 + (256 - s).toNat * 300 - 1 - (0 : Int).toNat ∧ (0 ≤ s ∧ s < 256) ∧ (0 ≤ (0 : Int) ∧ (0 : Int) ≤ 256) ∧ l = l1 ∧ q = q1 ∧ ∃ W1 W2 N M2, (∀ rx : Int, ∀ Mx : ab_M, ke_P M Mx l q rx W1 W2 → K [Xi rx] Mx) ∧ pz_rdn M N ∧ ((0 ≤ l ∧ l < N 797 21) ∧ 0 ≤ q ∧ q ≤ 1) ∧ la_P N M2 1 W1 W2 ∧ ke_B M2 (M2 814 l.toNat) W1 W2 ∧ e = M2 814 l.toNat ∧ ke_I M2 M135 (s + 1) ∧ ke_1 M2 M135 e W1 W2 s ∧ ke_2 M2 M135 e W1 W2 s (0 : Int) (0 : Int)))))))) ∧ (¬ r100 = 0 → (ab_ir (1 : Int)) ∧ (((1 : Int) = 0 → (∃ n', n' < n ∧ ((n' = 3000 + (256 - s).toNat * 300 - 1 - (0 : Int).toNat ∧ (0 ≤ s ∧ s < 256) ∧ (0 ≤ (0 : Int) ∧ (0 : Int) ≤ 256) ∧ l = l1 ∧ q = q1 ∧ ∃ W1 W2 N M2, (∀ rx : Int, ∀ Mx : ab_M, ke_P M Mx l q rx W1 W2 → K [Xi rx] Mx) ∧ pz_rdn M N ∧ ((0 ≤ l ∧ l < N 797 21) ∧ 0 ≤ q ∧ q ≤ 1) ∧ la_P N M2 1 W1 W2 ∧ ke_B M2 (M2 814 l.toNat) W1 W2 ∧ e = M2 814 l.toNat ∧ ke_I M2 M100 (s + 1) ∧ ke_1 M2 M100 e W1 W2 s ∧ ke_2 M2 M100 e W1 W2 s (1 : Int) (0 : Int))))) ∧ (¬ (1 : Int) = 0 → (0 ≤ e ∧ e < ((400 : Nat) : Int)) ∧ (0 ≤ e ∧ e < ((400 : Nat) : Int)) ∧ (gt_A M100 ((M100 823 e.toNat) + (1 : Int)) (M100 824 e.toNat) s) ∧ (∀ M135 : ab_M, (gt_P M100 M135 ((M100 823 e.toNat) + (1 : Int)) (M100 824 e.toNat) s) → (∃ n', n' < n ∧ ((n' = 3000 + (256 - s).toNat * 300 - 1 - (0 : Int).toNat ∧ (0 ≤ s ∧ s < 256) ∧ (0 ≤ (0 : Int) ∧ (0 : Int) ≤ 256) ∧ l = l1 ∧ q = q1 ∧ ∃ W1 W2 N M2, (∀ rx : Int, ∀ Mx : ab_M, ke_P M Mx l q rx W1 W2 → K [Xi rx] Mx) ∧ pz_rdn M N ∧ ((0 ≤ l ∧ l < N 797 21) ∧ 0 ≤ q ∧ q ≤ 1) ∧ la_P N M2 1 W1 W2 ∧ ke_B M2 (M2 814 l.toNat) W1 W2 ∧ e = M2 814 l.toNat ∧ ke_I M2 M135 (s + 1) ∧ ke_1 M2 M135 e W1 W2 s ∧ ke_2 M2 M135 e W1 W2 s (1 : Int) (0 : Int)))))))))))) ∧ (¬ r73 = 0 → ((0 ≤ s ∧ s < ((256 : Nat) : Int)) ∧ ((1 : Int) = 0 ∨ (1 : Int) = 1)) ∧ (0 ≤ e ∧ e < ((400 : Nat) : Int)) ∧ (0 ≤ e ∧ e < ((400 : Nat) : Int)) ∧ (∃ w_100 : List Int, (vl_P (ab_up M73 832 s.toNat (1 : Int)) 803 (M73 807 e.toNat) w_100 ∧ w_100.length ≤ 130 ∧ (M73 808 e.toNat) = ((w_100.length : Nat) : Int) ∧ (M73 807 e.toNat) + (M73 808 e.toNat) ≤ 640) ∧ (∀ r100 : Int, ∀ M100 : ab_M, (∀ o' k' : Nat, o' ≠ 817 → M100 o' k' = (ab_up M73 832 s.toNat (1 : Int)) o' k') → (r100 = pz_val s w_100 ∧ 0 ≤ r100 ∧ r100 ≤ 3) → (ab_ir r100) ∧ ((r100 = 0 → (ab_ir (0 : Int)) ∧ (((0 : Int) = 0 → (∃ n', n' < n ∧ ((n' = 3000 + (256 - s).toNat * 300 - 1 - (0 : Int).toNat ∧ (0 ≤ s ∧ s < 256) ∧ (0 ≤ (0 : Int) ∧ (0 : Int) ≤ 256) ∧ l = l1 ∧ q = q1 ∧ ∃ W1 W2 N M2, (∀ rx : Int, ∀ Mx : ab_M, ke_P M Mx l q rx W1 W2 → K [Xi rx] Mx) ∧ pz_rdn M N ∧ ((0 ≤ l ∧ l < N 797 21) ∧ 0 ≤ q ∧ q ≤ 1) ∧ la_P N M2 1 W1 W2 ∧ ke_B M2 (M2 814 l.toNat) W1 W2 ∧ e = M2 814 l.toNat ∧ ke_I M2 M100 (s + 1) ∧ ke_1 M2 M100 e W1 W2 s ∧ ke_2 M2 M100 e W1 W2 s (0 : Int) (0 : Int))))) ∧ (¬ (0 : Int) = 0 → (0 ≤ e ∧ e < ((400 : Nat) : Int)) ∧ (0 ≤ e ∧ e < ((400 : Nat) : Int)) ∧ (gt_A M100 ((M100 823 e.toNat) + (1 : Int)) (M100 824 e.toNat) s) ∧ (∀ M135 : ab_M, (gt_P M100 M135 ((M100 823 e.toNat) + (1 : Int)) (M100 824 e.toNat) s) → (∃ n', n' < n ∧ ((n' = 3000 + (256 - s).toNat * 300 - 1 - (0 : Int).toNat ∧ (0 ≤ s ∧ s < 256) ∧ (0 ≤ (0 : Int) ∧ (0 : Int) ≤ 256) ∧ l = l1 ∧ q = q1 ∧ ∃ W1 W2 N M2, (∀ rx : Int, ∀ Mx : ab_M, ke_P M Mx l q rx W1 W2 → K [Xi rx] Mx) ∧ pz_rdn M N ∧ ((0 ≤ l ∧ l < N 797 21) ∧ 0 ≤ q ∧ q ≤ 1) ∧ la_P N M2 1 W1 W2 ∧ ke_B M2 (M2 814 l.toNat) W1 W2 ∧ e = M2 814 l.toNat ∧ ke_I M2 M135 (s + 1) ∧ ke_1 M2 M135 e W1 W2 s ∧ ke_2 M2 M135 e W1 W2 s (0 : Int) (0 : Int)))))))) ∧ (¬ r100 = 0 → (ab_ir (1 : Int)) ∧ (((1 : Int) = 0 → (∃ n', n' < n ∧ ((n' = 3000 + (256 - s).toNat * 300 - 1 - (0 : Int).toNat ∧ (0 ≤ s ∧ s < 256) ∧ (0 ≤ (0 : Int) ∧ (0 : Int) ≤ 256) ∧ l = l1 ∧ q = q1 ∧ ∃ W1 W2 N M2, (∀ rx : Int, ∀ Mx : ab_M, ke_P M Mx l q rx W1 W2 → K [Xi rx] Mx) ∧ pz_rdn M N ∧ ((0 ≤ l ∧ l < N 797 21) ∧ 0 ≤ q ∧ q ≤ 1) ∧ la_P N M2 1 W1 W2 ∧ ke_B M2 (M2 814 l.toNat) W1 W2 ∧ e = M2 814 l.toNat ∧ ke_I M2 M100 (s + 1) ∧ ke_1 M2 M100 e W1 W2 s ∧ ke_2 M2 M100 e W1 W2 s (1 : Int) (0 : Int))))) ∧ (¬ (1 : Int) = 0 → (0 ≤ e ∧ e < ((400 : Nat) : Int)) ∧ (0 ≤ e ∧ e < ((400 : Nat) : Int)) ∧ (gt_A M100 ((M100 823 e.toNat) + (1 : Int)) (M100 824 e.toNat) s) ∧ (∀ M135 : ab_M, (gt_P M100 M135 ((M100 823 e.toNat) + (1 : Int)) (M100 824 e.toNat) s) → (∃ n', n' < n ∧ ((n' = 3000 + (256 - s).toNat * 300 - 1 - (0 : Int).toNat ∧ (0 ≤ s ∧ s < 256) ∧ (0 ≤ (0 : Int) ∧ (0 : Int) ≤ 256) ∧ l = l1 ∧ q = q1 ∧ ∃ W1 W2 N M2, (∀ rx : Int, ∀ Mx : ab_M, ke_P M Mx l q rx W1 W2 → K [Xi rx] Mx) ∧ pz_rdn M N ∧ ((0 ≤ l ∧ l < N 797 21) ∧ 0 ≤ q ∧ q ≤ 1) ∧ la_P N M2 1 W1 W2 ∧ ke_B M2 (M2 814 l.toNat) W1 W2 ∧ e = M2 814 l.toNat ∧ ke_I M2 M135 (s + 1) ∧ ke_1 M2 M135 e W1 W2 s ∧ ke_2 M2 M135 e W1 W2 s (1 : Int) (0 : Int))))))))))))))))) := by
  obtain ⟨hn, hs0, hs1, e1, e2, W1, W2, N, M2, gK, hr, hin, hla, hB, he, hI, h1⟩ := hI
  clear hS
  subst e1
  subst e2
  rw [← he] at hB
  obtain ⟨⟨b1, b2, b3⟩, b4, b5, ⟨b6, b7⟩, b8⟩ := id hB
  have hF := hI.1
  have hB1 := hI.2.2
  refine And.intro (by
    first
      | omega
      | exact gP
      | exact ⟨by omega, by omega⟩
      | exact ⟨gl, ⟨by decide, by decide⟩, by omega, by omega⟩
      | exact ⟨gq, ⟨by decide, by decide⟩, by decide, by decide⟩
      | exact ⟨gq, by decide, by decide⟩
      | (split <;> exact ⟨by decide, by decide⟩)
      | exact ⟨⟨by omega, by omega⟩, by omega, by omega⟩
      | exact ⟨⟨by omega, by omega⟩, Or.inl rfl⟩
      | exact ⟨⟨by omega, by omega⟩, Or.inr rfl⟩
      | (rcases h2.2.1 with z | z <;> (rw [z.1]; exact ⟨by decide, by decide⟩))
      | (rcases hB1.1 s.toNat with z | z <;> (rw [z]; exact ⟨by decide, by decide⟩))
      | (have := hI.2.1.1.1; have := (hI.2.1.1.2 t.toNat).2.1; exact ⟨⟨by omega, by omega⟩, by omega, by omega⟩)
      | exact hB1
      | (rcases (ke_3.next hB1 h3 h8 hM203).1 with z | z <;> (rw [z]; exact ⟨by decide, by decide⟩))
      | trivial) ?_
  refine And.intro (by
    first
      | omega
      | exact gP
      | exact ⟨by omega, by omega⟩
      | exact ⟨gl, ⟨by decide, by decide⟩, by omega, by omega⟩
      | exact ⟨gq, ⟨by decide, by decide⟩, by decide, by decide⟩
      | exact ⟨gq, by decide, by decide⟩
      | (split <;> exact ⟨by decide, by decide⟩)
      | exact ⟨⟨by omega, by omega⟩, by omega, by omega⟩
      | exact ⟨⟨by omega, by omega⟩, Or.inl rfl⟩
      | exact ⟨⟨by omega, by omega⟩, Or.inr rfl⟩
      | (rcases h2.2.1 with z | z <;> (rw [z.1]; exact ⟨by decide, by decide⟩))
      | (rcases hB1.1 s.toNat with z | z <;> (rw [z]; exact ⟨by decide, by decide⟩))
      | (have := hI.2.1.1.1; have := (hI.2.1.1.2 t.toNat).2.1; exact ⟨⟨by omega, by omega⟩, by omega, by omega⟩)
      | exact hB1
      | (rcases (ke_3.next hB1 h3 h8 hM203).1 with z | z <;> (rw [z]; exact ⟨by decide, by decide⟩))
      | trivial) ?_
  refine ⟨?_, ?_⟩
  · intro c49
    have hk := gx_m_bd (fun x => decide (M1 832 x = 1)) 256
    have hk2 : ke_n M1 ≤ 256 := hk
    have h256 : s = 256 := by omega
    rw [h256] at h1
    refine ⟨_, ?_, rfl, by decide, by omega, rfl, rfl, W1, W2, N, M2, gK, hr, hin, hla, by rw [← he]; exact hB, he, hI.le (by omega), ⟨fun x hx => h1.1 x (by omega), fun j hj => absurd hj (Nat.not_lt_zero j)⟩, fun x hx => h1.2 x (by omega)⟩
    omega
  · intro c49
    refine And.intro (by
      first
        | omega
        | exact gP
        | exact ⟨by omega, by omega⟩
        | exact ⟨gl, ⟨by decide, by decide⟩, by omega, by omega⟩
        | exact ⟨gq, ⟨by decide, by decide⟩, by decide, by decide⟩
        | exact ⟨gq, by decide, by decide⟩
        | (split <;> exact ⟨by decide, by decide⟩)
        | exact ⟨⟨by omega, by omega⟩, by omega, by omega⟩
        | exact ⟨⟨by omega, by omega⟩, Or.inl rfl⟩
        | exact ⟨⟨by omega, by omega⟩, Or.inr rfl⟩
        | (rcases h2.2.1 with z | z <;> (rw [z.1]; exact ⟨by decide, by decide⟩))
        | (rcases hB1.1 s.toNat with z | z <;> (rw [z]; exact ⟨by decide, by decide⟩))
        | (have := hI.2.1.1.1; have := (hI.2.1.1.2 t.toNat).2.1; exact ⟨⟨by omega, by omega⟩, by omega, by omega⟩)
        | exact hB1
        | (rcases (ke_3.next hB1 h3 h8 hM203).1 with z | z <;> (rw [z]; exact ⟨by decide, by decide⟩))
        | trivial) ?_
    refine And.intro (by
      first
        | omega
        | exact gP
        | exact ⟨by omega, by omega⟩
        | exact ⟨gl, ⟨by decide, by decide⟩, by omega, by omega⟩
        | exact ⟨gq, ⟨by decide, by decide⟩, by decide, by decide⟩
        | exact ⟨gq, by decide, by decide⟩
        | (split <;> exact ⟨by decide, by decide⟩)
        | exact ⟨⟨by omega, by omega⟩, by omega, by omega⟩
        | exact ⟨⟨by omega, by omega⟩, Or.inl rfl⟩
        | exact ⟨⟨by omega, by omega⟩, Or.inr rfl⟩
        | (rcases h2.2.1 with z | z <;> (rw [z.1]; exact ⟨by decide, by decide⟩))
        | (rcases hB1.1 s.toNat with z | z <;> (rw [z]; exact ⟨by decide, by decide⟩))
        | (have := hI.2.1.1.1; have := (hI.2.1.1.2 t.toNat).2.1; exact ⟨⟨by omega, by omega⟩, by omega, by omega⟩)
        | exact hB1
        | (rcases (ke_3.next hB1 h3 h8 hM203).1 with z | z <;> (rw [z]; exact ⟨by decide, by decide⟩))
        | trivial) ?_
    refine Exists.intro ((W2 e.toNat)) <| ?_
    refine And.intro (by
      have h := b7.fr hF
      rw [hF 809 _ (by decide) (by omega) (by omega), hF 810 _ (by decide) (by omega) (by omega)]
      exact h) ?_
    intro r73 M73 hM73 hr73
    refine And.intro (by
      first
        | omega
        | exact gP
        | exact ⟨by omega, by omega⟩
        | exact ⟨gl, ⟨by decide, by decide⟩, by omega, by omega⟩
        | exact ⟨gq, ⟨by decide, by decide⟩, by decide, by decide⟩
        | exact ⟨gq, by decide, by decide⟩
        | (split <;> exact ⟨by decide, by decide⟩)
        | exact ⟨⟨by omega, by omega⟩, by omega, by omega⟩
        | exact ⟨⟨by omega, by omega⟩, Or.inl rfl⟩
        | exact ⟨⟨by omega, by omega⟩, Or.inr rfl⟩
        | (rcases h2.2.1 with z | z <;> (rw [z.1]; exact ⟨by decide, by decide⟩))
        | (rcases hB1.1 s.toNat with z | z <;> (rw [z]; exact ⟨by decide, by decide⟩))
        | (have := hI.2.1.1.1; have := (hI.2.1.1.2 t.toNat).2.1; exact ⟨⟨by omega, by omega⟩, by omega, by omega⟩)
        | exact hB1
        | (rcases (ke_3.next hB1 h3 h8 hM203).1 with z | z <;> (rw [z]; exact ⟨by decide, by decide⟩))
        | trivial) ?_
    refine ⟨?_, ?_⟩
    · intro c76
      refine And.intro (by
        first
          | omega
          | exact gP
          | exact ⟨by omega, by omega⟩
          | exact ⟨gl, ⟨by decide, by decide⟩, by omega, by omega⟩
          | exact ⟨gq, ⟨by decide, by decide⟩, by decide, by decide⟩
          | exact ⟨gq, by decide, by decide⟩
          | (split <;> exact ⟨by decide, by decide⟩)
          | exact ⟨⟨by omega, by omega⟩, by omega, by omega⟩
          | exact ⟨⟨by omega, by omega⟩, Or.inl rfl⟩
          | exact ⟨⟨by omega, by omega⟩, Or.inr rfl⟩
          | (rcases h2.2.1 with z | z <;> (rw [z.1]; exact ⟨by decide, by decide⟩))
          | (rcases hB1.1 s.toNat with z | z <;> (rw [z]; exact ⟨by decide, by decide⟩))
          | (have := hI.2.1.1.1; have := (hI.2.1.1.2 t.toNat).2.1; exact ⟨⟨by omega, by omega⟩, by omega, by omega⟩)
          | exact hB1
          | (rcases (ke_3.next hB1 h3 h8 hM203).1 with z | z <;> (rw [z]; exact ⟨by decide, by decide⟩))
          | trivial) ?_
      refine And.intro (by
        first
          | omega
          | exact gP
          | exact ⟨by omega, by omega⟩
          | exact ⟨gl, ⟨by decide, by decide⟩, by omega, by omega⟩
          | exact ⟨gq, ⟨by decide, by decide⟩, by decide, by decide⟩
          | exact ⟨gq, by decide, by decide⟩
          | (split <;> exact ⟨by decide, by decide⟩)
          | exact ⟨⟨by omega, by omega⟩, by omega, by omega⟩
          | exact ⟨⟨by omega, by omega⟩, Or.inl rfl⟩
          | exact ⟨⟨by omega, by omega⟩, Or.inr rfl⟩
          | (rcases h2.2.1 with z | z <;> (rw [z.1]; exact ⟨by decide, by decide⟩))
          | (rcases hB1.1 s.toNat with z | z <;> (rw [z]; exact ⟨by decide, by decide⟩))
          | (have := hI.2.1.1.1; have := (hI.2.1.1.2 t.toNat).2.1; exact ⟨⟨by omega, by omega⟩, by omega, by omega⟩)
          | exact hB1
          | (rcases (ke_3.next hB1 h3 h8 hM203).1 with z | z <;> (rw [z]; exact ⟨by decide, by decide⟩))
          | trivial) ?_
      refine And.intro (by
        first
          | omega
          | exact gP
          | exact ⟨by omega, by omega⟩
          | exact ⟨gl, ⟨by decide, by decide⟩, by omega, by omega⟩
          | exact ⟨gq, ⟨by decide, by decide⟩, by decide, by decide⟩
          | exact ⟨gq, by decide, by decide⟩
          | (split <;> exact ⟨by decide, by decide⟩)
          | exact ⟨⟨by omega, by omega⟩, by omega, by omega⟩
          | exact ⟨⟨by omega, by omega⟩, Or.inl rfl⟩
          | exact ⟨⟨by omega, by omega⟩, Or.inr rfl⟩
          | (rcases h2.2.1 with z | z <;> (rw [z.1]; exact ⟨by decide, by decide⟩))
          | (rcases hB1.1 s.toNat with z | z <;> (rw [z]; exact ⟨by decide, by decide⟩))
          | (have := hI.2.1.1.1; have := (hI.2.1.1.2 t.toNat).2.1; exact ⟨⟨by omega, by omega⟩, by omega, by omega⟩)
          | exact hB1
          | (rcases (ke_3.next hB1 h3 h8 hM203).1 with z | z <;> (rw [z]; exact ⟨by decide, by decide⟩))
          | trivial) ?_
      refine Exists.intro ((W1 e.toNat)) <| ?_
      refine And.intro (by
        have hF2 : ke_F M2 (ab_up M73 832 s.toNat _) := ((hI.v hM73).u (Or.inr rfl) (by first | exact Or.inl rfl | exact Or.inr rfl)).1
        have h := b6.fr hF2
        rw [hM73 807 _ (by decide), hM73 808 _ (by decide), hF 807 _ (by decide) (by omega) (by omega), hF 808 _ (by decide) (by omega) (by omega)]
        exact h) ?_
      intro r100 M100 hM100 hr100
      refine And.intro (by
        first
          | omega
          | exact gP
          | exact ⟨by omega, by omega⟩
          | exact ⟨gl, ⟨by decide, by decide⟩, by omega, by omega⟩
          | exact ⟨gq, ⟨by decide, by decide⟩, by decide, by decide⟩
          | exact ⟨gq, by decide, by decide⟩
          | (split <;> exact ⟨by decide, by decide⟩)
          | exact ⟨⟨by omega, by omega⟩, by omega, by omega⟩
          | exact ⟨⟨by omega, by omega⟩, Or.inl rfl⟩
          | exact ⟨⟨by omega, by omega⟩, Or.inr rfl⟩
          | (rcases h2.2.1 with z | z <;> (rw [z.1]; exact ⟨by decide, by decide⟩))
          | (rcases hB1.1 s.toNat with z | z <;> (rw [z]; exact ⟨by decide, by decide⟩))
          | (have := hI.2.1.1.1; have := (hI.2.1.1.2 t.toNat).2.1; exact ⟨⟨by omega, by omega⟩, by omega, by omega⟩)
          | exact hB1
          | (rcases (ke_3.next hB1 h3 h8 hM203).1 with z | z <;> (rw [z]; exact ⟨by decide, by decide⟩))
          | trivial) ?_
      refine ⟨?_, ?_⟩
      · intro c103
        refine And.intro (by
          first
            | omega
            | exact gP
            | exact ⟨by omega, by omega⟩
            | exact ⟨gl, ⟨by decide, by decide⟩, by omega, by omega⟩
            | exact ⟨gq, ⟨by decide, by decide⟩, by decide, by decide⟩
            | exact ⟨gq, by decide, by decide⟩
            | (split <;> exact ⟨by decide, by decide⟩)
            | exact ⟨⟨by omega, by omega⟩, by omega, by omega⟩
            | exact ⟨⟨by omega, by omega⟩, Or.inl rfl⟩
            | exact ⟨⟨by omega, by omega⟩, Or.inr rfl⟩
            | (rcases h2.2.1 with z | z <;> (rw [z.1]; exact ⟨by decide, by decide⟩))
            | (rcases hB1.1 s.toNat with z | z <;> (rw [z]; exact ⟨by decide, by decide⟩))
            | (have := hI.2.1.1.1; have := (hI.2.1.1.2 t.toNat).2.1; exact ⟨⟨by omega, by omega⟩, by omega, by omega⟩)
            | exact hB1
            | (rcases (ke_3.next hB1 h3 h8 hM203).1 with z | z <;> (rw [z]; exact ⟨by decide, by decide⟩))
            | trivial) ?_
        refine ⟨?_, ?_⟩
        · intro c115
          obtain ⟨va, vb⟩ := hr73
          obtain ⟨vc, vd⟩ := hr100
          have es : ((s.toNat : Nat) : Int) = s := by omega
          have i73 := hI.v hM73
          have i84 := i73.u (o := 832) (k := s.toNat) (v := 0) (Or.inr rfl) (by first | exact Or.inl rfl | exact Or.inr rfl)
          have i100 := i84.v hM100
          have k1 : ke_1 M2 M100 e W1 W2 s := h1.fr (fun k hk => by rw [hM100 _ _ (by decide), ab_up_k (by omega), hM73 _ _ (by decide)]) (fun k => by rw [hM100 _ _ (by decide), ab_up_o (by decide), hM73 _ _ (by decide)])
          have k2 : M100 832 s.toNat = 1 ↔ ke_J W2 e s.toNat := by
            rw [hM100 _ _ (by decide), ab_up_s]
            show _ ↔ ¬ pz_val ((s.toNat : Nat) : Int) _ = 0
            rw [es, ← va]
            first
              | exact ⟨fun _ => by assumption, fun _ => rfl⟩
              | exact ⟨fun z => absurd z (by decide), fun z => absurd (by assumption) z⟩
          have vc2 : mp_v s.toNat (W1 e.toNat) = 0 := by
            show pz_val ((s.toNat : Nat) : Int) _ = 0
            rw [es, ← vc]; assumption
          refine ⟨_, ?_, rfl, ⟨by omega, by omega⟩, ⟨by decide, by decide⟩, rfl, rfl, W1, W2, N, M2, gK, hr, hin, hla, by rw [← he]; exact hB, he, i100.le (by omega), k1, ⟨k2, Or.inr ⟨rfl, vc2⟩, fun y hy => by omega⟩⟩
          omega
        · intro c115
          omega
      · intro c103
        refine And.intro (by
          first
            | omega
            | exact gP
            | exact ⟨by omega, by omega⟩
            | exact ⟨gl, ⟨by decide, by decide⟩, by omega, by omega⟩
            | exact ⟨gq, ⟨by decide, by decide⟩, by decide, by decide⟩
            | exact ⟨gq, by decide, by decide⟩
            | (split <;> exact ⟨by decide, by decide⟩)
            | exact ⟨⟨by omega, by omega⟩, by omega, by omega⟩
            | exact ⟨⟨by omega, by omega⟩, Or.inl rfl⟩
            | exact ⟨⟨by omega, by omega⟩, Or.inr rfl⟩
            | (rcases h2.2.1 with z | z <;> (rw [z.1]; exact ⟨by decide, by decide⟩))
            | (rcases hB1.1 s.toNat with z | z <;> (rw [z]; exact ⟨by decide, by decide⟩))
            | (have := hI.2.1.1.1; have := (hI.2.1.1.2 t.toNat).2.1; exact ⟨⟨by omega, by omega⟩, by omega, by omega⟩)
            | exact hB1
            | (rcases (ke_3.next hB1 h3 h8 hM203).1 with z | z <;> (rw [z]; exact ⟨by decide, by decide⟩))
            | trivial) ?_
        refine ⟨?_, ?_⟩
        · intro c115
          omega
        · intro c115
          refine And.intro (by
            first
              | omega
              | exact gP
              | exact ⟨by omega, by omega⟩
              | exact ⟨gl, ⟨by decide, by decide⟩, by omega, by omega⟩
              | exact ⟨gq, ⟨by decide, by decide⟩, by decide, by decide⟩
              | exact ⟨gq, by decide, by decide⟩
              | (split <;> exact ⟨by decide, by decide⟩)
              | exact ⟨⟨by omega, by omega⟩, by omega, by omega⟩
              | exact ⟨⟨by omega, by omega⟩, Or.inl rfl⟩
              | exact ⟨⟨by omega, by omega⟩, Or.inr rfl⟩
              | (rcases h2.2.1 with z | z <;> (rw [z.1]; exact ⟨by decide, by decide⟩))
              | (rcases hB1.1 s.toNat with z | z <;> (rw [z]; exact ⟨by decide, by decide⟩))
              | (have := hI.2.1.1.1; have := (hI.2.1.1.2 t.toNat).2.1; exact ⟨⟨by omega, by omega⟩, by omega, by omega⟩)
              | exact hB1
              | (rcases (ke_3.next hB1 h3 h8 hM203).1 with z | z <;> (rw [z]; exact ⟨by decide, by decide⟩))
              | trivial) ?_
          refine And.intro (by
            first
              | omega
              | exact gP
              | exact ⟨by omega, by omega⟩
              | exact ⟨gl, ⟨by decide, by decide⟩, by omega, by omega⟩
              | exact ⟨gq, ⟨by decide, by decide⟩, by decide, by decide⟩
              | exact ⟨gq, by decide, by decide⟩
              | (split <;> exact ⟨by decide, by decide⟩)
              | exact ⟨⟨by omega, by omega⟩, by omega, by omega⟩
              | exact ⟨⟨by omega, by omega⟩, Or.inl rfl⟩
              | exact ⟨⟨by omega, by omega⟩, Or.inr rfl⟩
              | (rcases h2.2.1 with z | z <;> (rw [z.1]; exact ⟨by decide, by decide⟩))
              | (rcases hB1.1 s.toNat with z | z <;> (rw [z]; exact ⟨by decide, by decide⟩))
              | (have := hI.2.1.1.1; have := (hI.2.1.1.2 t.toNat).2.1; exact ⟨⟨by omega, by omega⟩, by omega, by omega⟩)
              | exact hB1
              | (rcases (ke_3.next hB1 h3 h8 hM203).1 with z | z <;> (rw [z]; exact ⟨by decide, by decide⟩))
              | trivial) ?_
          refine And.intro (by
            have i100 := ((hI.v hM73).u (o := 832) (k := s.toNat) (Or.inr rfl) (by first | exact Or.inl rfl | exact Or.inr rfl)).v hM100
            exact i100.A hB (by omega) ⟨hs0, by omega⟩) ?_
          intro M135 hM135
          obtain ⟨va, vb⟩ := hr73
          obtain ⟨vc, vd⟩ := hr100
          have es : ((s.toNat : Nat) : Int) = s := by omega
          have i73 := hI.v hM73
          have i84 := i73.u (o := 832) (k := s.toNat) (v := 0) (Or.inr rfl) (by first | exact Or.inl rfl | exact Or.inr rfl)
          have i100 := i84.v hM100
          have k1 : ke_1 M2 M100 e W1 W2 s := h1.fr (fun k hk => by rw [hM100 _ _ (by decide), ab_up_k (by omega), hM73 _ _ (by decide)]) (fun k => by rw [hM100 _ _ (by decide), ab_up_o (by decide), hM73 _ _ (by decide)])
          have k2 : M100 832 s.toNat = 1 ↔ ke_J W2 e s.toNat := by
            rw [hM100 _ _ (by decide), ab_up_s]
            show _ ↔ ¬ pz_val ((s.toNat : Nat) : Int) _ = 0
            rw [es, ← va]
            first
              | exact ⟨fun _ => by assumption, fun _ => rfl⟩
              | exact ⟨fun z => absurd z (by decide), fun z => absurd (by assumption) z⟩
          have vc2 : ¬ mp_v s.toNat (W1 e.toNat) = 0 := by
            show ¬ pz_val ((s.toNat : Nat) : Int) _ = 0
            rw [es, ← vc]; assumption
          obtain ⟨g1, g2, g3, g4⟩ := i100.go hM135
          refine ⟨_, ?_, rfl, ⟨by omega, by omega⟩, ⟨by decide, by decide⟩, rfl, rfl, W1, W2, N, M2, gK, hr, hin, hla, by rw [← he]; exact hB, he, g1, k1.fr (fun k _ => g2 k) g3, ⟨by rw [g2]; exact k2, Or.inl ⟨rfl, vc2, fun y hy => by rw [es]; exact g4 y hy⟩, fun y hy => by omega⟩⟩
          omega
    · intro c76
      refine And.intro (by
        first
          | omega
          | exact gP
          | exact ⟨by omega, by omega⟩
          | exact ⟨gl, ⟨by decide, by decide⟩, by omega, by omega⟩
          | exact ⟨gq, ⟨by decide, by decide⟩, by decide, by decide⟩
          | exact ⟨gq, by decide, by decide⟩
          | (split <;> exact ⟨by decide, by decide⟩)
          | exact ⟨⟨by omega, by omega⟩, by omega, by omega⟩
          | exact ⟨⟨by omega, by omega⟩, Or.inl rfl⟩
          | exact ⟨⟨by omega, by omega⟩, Or.inr rfl⟩
          | (rcases h2.2.1 with z | z <;> (rw [z.1]; exact ⟨by decide, by decide⟩))
          | (rcases hB1.1 s.toNat with z | z <;> (rw [z]; exact ⟨by decide, by decide⟩))
          | (have := hI.2.1.1.1; have := (hI.2.1.1.2 t.toNat).2.1; exact ⟨⟨by omega, by omega⟩, by omega, by omega⟩)
          | exact hB1
          | (rcases (ke_3.next hB1 h3 h8 hM203).1 with z | z <;> (rw [z]; exact ⟨by decide, by decide⟩))
          | trivial) ?_
      refine And.intro (by
        first
          | omega
          | exact gP
          | exact ⟨by omega, by omega⟩
          | exact ⟨gl, ⟨by decide, by decide⟩, by omega, by omega⟩
          | exact ⟨gq, ⟨by decide, by decide⟩, by decide, by decide⟩
          | exact ⟨gq, by decide, by decide⟩
          | (split <;> exact ⟨by decide, by decide⟩)
          | exact ⟨⟨by omega, by omega⟩, by omega, by omega⟩
          | exact ⟨⟨by omega, by omega⟩, Or.inl rfl⟩
          | exact ⟨⟨by omega, by omega⟩, Or.inr rfl⟩
          | (rcases h2.2.1 with z | z <;> (rw [z.1]; exact ⟨by decide, by decide⟩))
          | (rcases hB1.1 s.toNat with z | z <;> (rw [z]; exact ⟨by decide, by decide⟩))
          | (have := hI.2.1.1.1; have := (hI.2.1.1.2 t.toNat).2.1; exact ⟨⟨by omega, by omega⟩, by omega, by omega⟩)
          | exact hB1
          | (rcases (ke_3.next hB1 h3 h8 hM203).1 with z | z <;> (rw [z]; exact ⟨by decide, by decide⟩))
          | trivial) ?_
      refine And.intro (by
        first
          | omega
          | exact gP
          | exact ⟨by omega, by omega⟩
          | exact ⟨gl, ⟨by decide, by decide⟩, by omega, by omega⟩
          | exact ⟨gq, ⟨by decide, by decide⟩, by decide, by decide⟩
          | exact ⟨gq, by decide, by decide⟩
          | (split <;> exact ⟨by decide, by decide⟩)
          | exact ⟨⟨by omega, by omega⟩, by omega, by omega⟩
          | exact ⟨⟨by omega, by omega⟩, Or.inl rfl⟩
          | exact ⟨⟨by omega, by omega⟩, Or.inr rfl⟩
          | (rcases h2.2.1 with z | z <;> (rw [z.1]; exact ⟨by decide, by decide⟩))
          | (rcases hB1.1 s.toNat with z | z <;> (rw [z]; exact ⟨by decide, by decide⟩))
          | (have := hI.2.1.1.1; have := (hI.2.1.1.2 t.toNat).2.1; exact ⟨⟨by omega, by omega⟩, by omega, by omega⟩)
          | exact hB1
          | (rcases (ke_3.next hB1 h3 h8 hM203).1 with z | z <;> (rw [z]; exact ⟨by decide, by decide⟩))
          | trivial) ?_
      refine Exists.intro ((W1 e.toNat)) <| ?_
      refine And.intro (by
        have hF2 : ke_F M2 (ab_up M73 832 s.toNat _) := ((hI.v hM73).u (Or.inr rfl) (by first | exact Or.inl rfl | exact Or.inr rfl)).1
        have h := b6.fr hF2
        rw [hM73 807 _ (by decide), hM73 808 _ (by decide), hF 807 _ (by decide) (by omega) (by omega), hF 808 _ (by decide) (by omega) (by omega)]
        exact h) ?_
      intro r100 M100 hM100 hr100
      refine And.intro (by
        first
          | omega
          | exact gP
          | exact ⟨by omega, by omega⟩
          | exact ⟨gl, ⟨by decide, by decide⟩, by omega, by omega⟩
          | exact ⟨gq, ⟨by decide, by decide⟩, by decide, by decide⟩
          | exact ⟨gq, by decide, by decide⟩
          | (split <;> exact ⟨by decide, by decide⟩)
          | exact ⟨⟨by omega, by omega⟩, by omega, by omega⟩
          | exact ⟨⟨by omega, by omega⟩, Or.inl rfl⟩
          | exact ⟨⟨by omega, by omega⟩, Or.inr rfl⟩
          | (rcases h2.2.1 with z | z <;> (rw [z.1]; exact ⟨by decide, by decide⟩))
          | (rcases hB1.1 s.toNat with z | z <;> (rw [z]; exact ⟨by decide, by decide⟩))
          | (have := hI.2.1.1.1; have := (hI.2.1.1.2 t.toNat).2.1; exact ⟨⟨by omega, by omega⟩, by omega, by omega⟩)
          | exact hB1
          | (rcases (ke_3.next hB1 h3 h8 hM203).1 with z | z <;> (rw [z]; exact ⟨by decide, by decide⟩))
          | trivial) ?_
      refine ⟨?_, ?_⟩
      · intro c103
        refine And.intro (by
          first
            | omega
            | exact gP
            | exact ⟨by omega, by omega⟩
            | exact ⟨gl, ⟨by decide, by decide⟩, by omega, by omega⟩
            | exact ⟨gq, ⟨by decide, by decide⟩, by decide, by decide⟩
            | exact ⟨gq, by decide, by decide⟩
            | (split <;> exact ⟨by decide, by decide⟩)
            | exact ⟨⟨by omega, by omega⟩, by omega, by omega⟩
            | exact ⟨⟨by omega, by omega⟩, Or.inl rfl⟩
            | exact ⟨⟨by omega, by omega⟩, Or.inr rfl⟩
            | (rcases h2.2.1 with z | z <;> (rw [z.1]; exact ⟨by decide, by decide⟩))
            | (rcases hB1.1 s.toNat with z | z <;> (rw [z]; exact ⟨by decide, by decide⟩))
            | (have := hI.2.1.1.1; have := (hI.2.1.1.2 t.toNat).2.1; exact ⟨⟨by omega, by omega⟩, by omega, by omega⟩)
            | exact hB1
            | (rcases (ke_3.next hB1 h3 h8 hM203).1 with z | z <;> (rw [z]; exact ⟨by decide, by decide⟩))
            | trivial) ?_
        refine ⟨?_, ?_⟩
        · intro c115
          obtain ⟨va, vb⟩ := hr73
          obtain ⟨vc, vd⟩ := hr100
          have es : ((s.toNat : Nat) : Int) = s := by omega
          have i73 := hI.v hM73
          have i84 := i73.u (o := 832) (k := s.toNat) (v := 1) (Or.inr rfl) (by first | exact Or.inl rfl | exact Or.inr rfl)
          have i100 := i84.v hM100
          have k1 : ke_1 M2 M100 e W1 W2 s := h1.fr (fun k hk => by rw [hM100 _ _ (by decide), ab_up_k (by omega), hM73 _ _ (by decide)]) (fun k => by rw [hM100 _ _ (by decide), ab_up_o (by decide), hM73 _ _ (by decide)])
          have k2 : M100 832 s.toNat = 1 ↔ ke_J W2 e s.toNat := by
            rw [hM100 _ _ (by decide), ab_up_s]
            show _ ↔ ¬ pz_val ((s.toNat : Nat) : Int) _ = 0
            rw [es, ← va]
            first
              | exact ⟨fun _ => by assumption, fun _ => rfl⟩
              | exact ⟨fun z => absurd z (by decide), fun z => absurd (by assumption) z⟩
          have vc2 : mp_v s.toNat (W1 e.toNat) = 0 := by
            show pz_val ((s.toNat : Nat) : Int) _ = 0
            rw [es, ← vc]; assumption
          refine ⟨_, ?_, rfl, ⟨by omega, by omega⟩, ⟨by decide, by decide⟩, rfl, rfl, W1, W2, N, M2, gK, hr, hin, hla, by rw [← he]; exact hB, he, i100.le (by omega), k1, ⟨k2, Or.inr ⟨rfl, vc2⟩, fun y hy => by omega⟩⟩
          omega
        · intro c115
          omega
      · intro c103
        refine And.intro (by
          first
            | omega
            | exact gP
            | exact ⟨by omega, by omega⟩
            | exact ⟨gl, ⟨by decide, by decide⟩, by omega, by omega⟩
            | exact ⟨gq, ⟨by decide, by decide⟩, by decide, by decide⟩
            | exact ⟨gq, by decide, by decide⟩
            | (split <;> exact ⟨by decide, by decide⟩)
            | exact ⟨⟨by omega, by omega⟩, by omega, by omega⟩
            | exact ⟨⟨by omega, by omega⟩, Or.inl rfl⟩
            | exact ⟨⟨by omega, by omega⟩, Or.inr rfl⟩
            | (rcases h2.2.1 with z | z <;> (rw [z.1]; exact ⟨by decide, by decide⟩))
            | (rcases hB1.1 s.toNat with z | z <;> (rw [z]; exact ⟨by decide, by decide⟩))
            | (have := hI.2.1.1.1; have := (hI.2.1.1.2 t.toNat).2.1; exact ⟨⟨by omega, by omega⟩, by omega, by omega⟩)
            | exact hB1
            | (rcases (ke_3.next hB1 h3 h8 hM203).1 with z | z <;> (rw [z]; exact ⟨by decide, by decide⟩))
            | trivial) ?_
        refine ⟨?_, ?_⟩
        · intro c115
          omega
        · intro c115
          refine And.intro (by
            first
              | omega
              | exact gP
              | exact ⟨by omega, by omega⟩
              | exact ⟨gl, ⟨by decide, by decide⟩, by omega, by omega⟩
              | exact ⟨gq, ⟨by decide, by decide⟩, by decide, by decide⟩
              | exact ⟨gq, by decide, by decide⟩
              | (split <;> exact ⟨by decide, by decide⟩)
              | exact ⟨⟨by omega, by omega⟩, by omega, by omega⟩
              | exact ⟨⟨by omega, by omega⟩, Or.inl rfl⟩
              | exact ⟨⟨by omega, by omega⟩, Or.inr rfl⟩
              | (rcases h2.2.1 with z | z <;> (rw [z.1]; exact ⟨by decide, by decide⟩))
              | (rcases hB1.1 s.toNat with z | z <;> (rw [z]; exact ⟨by decide, by decide⟩))
              | (have := hI.2.1.1.1; have := (hI.2.1.1.2 t.toNat).2.1; exact ⟨⟨by omega, by omega⟩, by omega, by omega⟩)
              | exact hB1
              | (rcases (ke_3.next hB1 h3 h8 hM203).1 with z | z <;> (rw [z]; exact ⟨by decide, by decide⟩))
              | trivial) ?_
          refine And.intro (by
            first
              | omega
              | exact gP
              | exact ⟨by omega, by omega⟩
              | exact ⟨gl, ⟨by decide, by decide⟩, by omega, by omega⟩
              | exact ⟨gq, ⟨by decide, by decide⟩, by decide, by decide⟩
              | exact ⟨gq, by decide, by decide⟩
              | (split <;> exact ⟨by decide, by decide⟩)
              | exact ⟨⟨by omega, by omega⟩, by omega, by omega⟩
              | exact ⟨⟨by omega, by omega⟩, Or.inl rfl⟩
              | exact ⟨⟨by omega, by omega⟩, Or.inr rfl⟩
              | (rcases h2.2.1 with z | z <;> (rw [z.1]; exact ⟨by decide, by decide⟩))
              | (rcases hB1.1 s.toNat with z | z <;> (rw [z]; exact ⟨by decide, by decide⟩))
              | (have := hI.2.1.1.1; have := (hI.2.1.1.2 t.toNat).2.1; exact ⟨⟨by omega, by omega⟩, by omega, by omega⟩)
              | exact hB1
              | (rcases (ke_3.next hB1 h3 h8 hM203).1 with z | z <;> (rw [z]; exact ⟨by decide, by decide⟩))
              | trivial) ?_
          refine And.intro (by
            have i100 := ((hI.v hM73).u (o := 832) (k := s.toNat) (Or.inr rfl) (by first | exact Or.inl rfl | exact Or.inr rfl)).v hM100
            exact i100.A hB (by omega) ⟨hs0, by omega⟩) ?_
          intro M135 hM135
          obtain ⟨va, vb⟩ := hr73
          obtain ⟨vc, vd⟩ := hr100
          have es : ((s.toNat : Nat) : Int) = s := by omega
          have i73 := hI.v hM73
          have i84 := i73.u (o := 832) (k := s.toNat) (v := 1) (Or.inr rfl) (by first | exact Or.inl rfl | exact Or.inr rfl)
          have i100 := i84.v hM100
          have k1 : ke_1 M2 M100 e W1 W2 s := h1.fr (fun k hk => by rw [hM100 _ _ (by decide), ab_up_k (by omega), hM73 _ _ (by decide)]) (fun k => by rw [hM100 _ _ (by decide), ab_up_o (by decide), hM73 _ _ (by decide)])
          have k2 : M100 832 s.toNat = 1 ↔ ke_J W2 e s.toNat := by
            rw [hM100 _ _ (by decide), ab_up_s]
            show _ ↔ ¬ pz_val ((s.toNat : Nat) : Int) _ = 0
            rw [es, ← va]
            first
              | exact ⟨fun _ => by assumption, fun _ => rfl⟩
              | exact ⟨fun z => absurd z (by decide), fun z => absurd (by assumption) z⟩
          have vc2 : ¬ mp_v s.toNat (W1 e.toNat) = 0 := by
            show ¬ pz_val ((s.toNat : Nat) : Int) _ = 0
            rw [es, ← vc]; assumption
          obtain ⟨g1, g2, g3, g4⟩ := i100.go hM135
          refine ⟨_, ?_, rfl, ⟨by omega, by omega⟩, ⟨by decide, by decide⟩, rfl, rfl, W1, W2, N, M2, gK, hr, hin, hla, by rw [← he]; exact hB, he, g1, k1.fr (fun k _ => g2 k) g3, ⟨by rw [g2]; exact k2, Or.inl ⟨rfl, vc2, fun y hy => by rw [es]; exact g4 y hy⟩, fun y hy => by omega⟩⟩
          omega

set_option maxRecDepth 20000 in
theorem vc_X9_keeps_141 (l : Int) (q : Int) (M : ab_M) (K : List ab_V → ab_M → Prop) (hS : (∃ W1 : Nat → List Int, ∃ W2 : Nat → List Int, ((pz_PR M ∧ ab_ir l ∧ ab_ir q) ∧ ∀ N, pz_rdn M N → (0 ≤ N 797 21 ∧ N 797 21 ≤ 4) ∧ ab_ir (N 797 29) ∧ la_A N 1 W1 W2 ∧ ∀ M2, la_P N M2 1 W1 W2 → (0 ≤ l ∧ l < N 797 21 → ke_B M2 (M2 814 l.toNat) W1 W2)) ∧ (∀ rx : Int, ∀ Mx : ab_M, (ke_P M Mx l q rx W1 W2) → K [Xi rx] Mx))) (n : Nat) (l1 : Int) (q1 : Int) (e : Int) (s : Int) (is : Int) (t : Int) (M1 : ab_M) (hI : n = 3000 + (256 - s).toNat * 300 - 1 - t.toNat ∧ (0 ≤ s ∧ s < 256) ∧ (0 ≤ t ∧ t ≤ 256) ∧ l = l1 ∧ q = q1 ∧ ∃ W1 W2 N M2, (∀ rx : Int, ∀ Mx : ab_M, ke_P M Mx l q rx W1 W2 → K [Xi rx] Mx) ∧ pz_rdn M N ∧ ((0 ≤ l ∧ l < N 797 21) ∧ 0 ≤ q ∧ q ≤ 1) ∧ la_P N M2 1 W1 W2 ∧ ke_B M2 (M2 814 l.toNat) W1 W2 ∧ e = M2 814 l.toNat ∧ ke_I M2 M1 (s + 1) ∧ ke_1 M2 M1 e W1 W2 s ∧ ke_2 M2 M1 e W1 W2 s is t) : (-32768 ≤ (256 : Int) ∧ (256 : Int) < 32768) ∧ (ab_ir t ∧ ab_ir (256 : Int)) ∧ (((256 : Int) ≤ t → (∃ n', n' < n ∧ ((n' = 3000 + (256 - (s + 1)).toNat * 300 ∧ 0 ≤ (s + 1) ∧ (s + 1) ≤ 256 ∧ l = l1 ∧ q = q1 ∧ ∃ W1 W2 N M2, (∀ rx : Int, ∀ Mx : ab_M, ke_P M Mx l q rx W1 W2 → K [Xi rx] Mx) ∧ pz_rdn M N ∧ ((0 ≤ l ∧ l < N 797 21) ∧ 0 ≤ q ∧ q ≤ 1) ∧ la_P N M2 1 W1 W2 ∧ ke_B M2 (M2 814 l.toNat) W1 W2 ∧ e = M2 814 l.toNat ∧ ke_I M2 M1 (s + 1) ∧ ke_1 M2 M1 e W1 W2 (s + 1))))) ∧ (t < (256 : Int) → (-32768 ≤ (256 : Int) ∧ (256 : Int) < 32768) ∧ (ab_ir is) ∧ ((is = 0 → ((0 ≤ (((256 : Int) * s) + t) ∧ (((256 : Int) * s) + t) < ((65536 : Nat) : Int)) ∧ ((0 : Int) = 0 ∨ (0 : Int) = 1)) ∧ (∃ n', n' < n ∧ ((n' = 3000 + (256 - s).toNat * 300 - 1 - (t + 1).toNat ∧ (0 ≤ s ∧ s < 256) ∧ (0 ≤ (t + 1) ∧ (t + 1) ≤ 256) ∧ l = l1 ∧ q = q1 ∧ ∃ W1 W2 N M2, (∀ rx : Int, ∀ Mx : ab_M, ke_P M Mx l q rx W1 W2 → K [Xi rx] Mx) ∧ pz_rdn M N ∧ ((0 ≤ l ∧ l < N 797 21) ∧ 0 ≤ q ∧ q ≤ 1) ∧ la_P N M2 1 W1 W2 ∧ ke_B M2 (M2 814 l.toNat) W1 W2 ∧ e = M2 814 l.toNat ∧ ke_I M2 (ab_up M1 831 ((((256 : Int) * s) + t).toNat) (0 : Int)) (s + 1) ∧ ke_1 M2 (ab_up M1 831 ((((256 : Int) * s) + t).toNat) (0 : Int)) e W1 W2 s ∧ ke_2 M2 (ab_up M1 831 ((((256 : Int) * s) + t).toNat) (0 : Int)) e W1 W2 s is (t + 1))))) ∧ (¬ is = 0 → (0 ≤ t ∧ t < ((256 : Nat) : Int)) ∧ (ab_ir (M1 829 t.toNat) ∧ ab_ir (M1 797 44)) ∧ ((¬ (M1 829 t.toNat) = (M1 797 44) → ((0 ≤ (((256 : Int) * s) + t) ∧ (((256 : Int) * s) + t) < ((65536 : Nat) : Int)) ∧ ((0 : Int) = 0 ∨ (0 : Int) = 1)) ∧ (∃ n', n' < n ∧ ((n' = 3000 + (256 - s).toNat * 300 - 1 - (t + 1).toNat ∧ (0 ≤ s ∧ s < 256) ∧ (0 ≤ (t + 1) ∧ (t + 1) ≤ 256) ∧ l = l1 ∧ q = q1 ∧ ∃ W1 W2 N M2, (∀ rx : Int, ∀ Mx : ab_M, ke_P M Mx l q rx W1 W2 → K [Xi rx] Mx) ∧ pz_rdn M N ∧ ((0 ≤ l ∧ l < N 797 21) ∧ 0 ≤ q ∧ q ≤ 1) ∧ la_P N M2 1 W1 W2 ∧ ke_B M2 (M2 814 l.toNat) W1 W2 ∧ e = M2 814 l.toNat ∧ ke_I M2 (ab_up M1 831 ((((256 : Int) * s) + t).toNat) (0 : Int)) (s + 1) ∧ ke_1 M2 (ab_up M1 831 ((((256 : Int) * s) + t).toNat) (0 : Int)) e W1 W2 s ∧ ke_2 M2 (ab_up M1 831 ((((256 : Int) * s) + t).toNat) (0 : Int)) e W1 W2 s is (t + 1))))) ∧ ((M1 829 t.toNat) = (M1 797 44) → ((0 ≤ (((256 : Int) * s) + t) ∧ (((256 : Int) * s) + t) < ((65536 : Nat) : Int)) ∧ ((1 : Int) = 0 ∨ (1 : Int) = 1)) ∧ (∃ n', n' < n ∧ ((n' = 3000 + (256 - s).toNat * 300 - 1 - (t + 1).toNat ∧ (0 ≤ s ∧ s < 256) ∧ (0 ≤ (t + 1) ∧ (t + 1) ≤ 256) ∧ l = l1 ∧ q = q1 ∧ ∃ W1 W2 N M2, (∀ rx : Int, ∀ Mx : ab_M, ke_P M Mx l q rx W1 W2 → K [Xi rx] Mx) ∧ pz_rdn M N ∧ ((0 ≤ l ∧ l < N 797 21) ∧ 0 ≤ q ∧ q ≤ 1) ∧ la_P N M2 1 W1 W2 ∧ ke_B M2 (M2 814 l.toNat) W1 W2 ∧ e = M2 814 l.toNat ∧ ke_I M2 (ab_up M1 831 ((((256 : Int) * s) + t).toNat) (1 : Int)) (s + 1) ∧ ke_1 M2 (ab_up M1 831 ((((256 : Int) * s) + t).toNat) (1 : Int)) e W1 W2 s ∧ ke_2 M2 (ab_up M1 831 ((((256 : Int) * s) + t).toNat) (1 : Int)) e W1 W2 s is (t + 1)))))))))) := by
  obtain ⟨hn, hs0, ht, e1, e2, W1, W2, N, M2, gK, hr, hin, hla, hB, he, hI, h1, h2⟩ := hI
  clear hS
  subst e1
  subst e2
  rw [← he] at hB
  obtain ⟨⟨b1, b2, b3⟩, b4, b5, ⟨b6, b7⟩, b8⟩ := id hB
  have hF := hI.1
  have hB1 := hI.2.2
  refine And.intro (by
    first
      | omega
      | exact gP
      | exact ⟨by omega, by omega⟩
      | exact ⟨gl, ⟨by decide, by decide⟩, by omega, by omega⟩
      | exact ⟨gq, ⟨by decide, by decide⟩, by decide, by decide⟩
      | exact ⟨gq, by decide, by decide⟩
      | (split <;> exact ⟨by decide, by decide⟩)
      | exact ⟨⟨by omega, by omega⟩, by omega, by omega⟩
      | exact ⟨⟨by omega, by omega⟩, Or.inl rfl⟩
      | exact ⟨⟨by omega, by omega⟩, Or.inr rfl⟩
      | (rcases h2.2.1 with z | z <;> (rw [z.1]; exact ⟨by decide, by decide⟩))
      | (rcases hB1.1 s.toNat with z | z <;> (rw [z]; exact ⟨by decide, by decide⟩))
      | (have := hI.2.1.1.1; have := (hI.2.1.1.2 t.toNat).2.1; exact ⟨⟨by omega, by omega⟩, by omega, by omega⟩)
      | exact hB1
      | (rcases (ke_3.next hB1 h3 h8 hM203).1 with z | z <;> (rw [z]; exact ⟨by decide, by decide⟩))
      | trivial) ?_
  refine And.intro (by
    first
      | omega
      | exact gP
      | exact ⟨by omega, by omega⟩
      | exact ⟨gl, ⟨by decide, by decide⟩, by omega, by omega⟩
      | exact ⟨gq, ⟨by decide, by decide⟩, by decide, by decide⟩
      | exact ⟨gq, by decide, by decide⟩
      | (split <;> exact ⟨by decide, by decide⟩)
      | exact ⟨⟨by omega, by omega⟩, by omega, by omega⟩
      | exact ⟨⟨by omega, by omega⟩, Or.inl rfl⟩
      | exact ⟨⟨by omega, by omega⟩, Or.inr rfl⟩
      | (rcases h2.2.1 with z | z <;> (rw [z.1]; exact ⟨by decide, by decide⟩))
      | (rcases hB1.1 s.toNat with z | z <;> (rw [z]; exact ⟨by decide, by decide⟩))
      | (have := hI.2.1.1.1; have := (hI.2.1.1.2 t.toNat).2.1; exact ⟨⟨by omega, by omega⟩, by omega, by omega⟩)
      | exact hB1
      | (rcases (ke_3.next hB1 h3 h8 hM203).1 with z | z <;> (rw [z]; exact ⟨by decide, by decide⟩))
      | trivial) ?_
  refine ⟨?_, ?_⟩
  · intro c146
    have ht256 : t = 256 := by omega
    rw [ht256] at h2
    refine ⟨_, ?_, rfl, by omega, by omega, rfl, rfl, W1, W2, N, M2, gK, hr, hin, hla, by rw [← he]; exact hB, he, hI, h1.next hs0.1 h2⟩
    omega
  · intro c146
    refine And.intro (by
      first
        | omega
        | exact gP
        | exact ⟨by omega, by omega⟩
        | exact ⟨gl, ⟨by decide, by decide⟩, by omega, by omega⟩
        | exact ⟨gq, ⟨by decide, by decide⟩, by decide, by decide⟩
        | exact ⟨gq, by decide, by decide⟩
        | (split <;> exact ⟨by decide, by decide⟩)
        | exact ⟨⟨by omega, by omega⟩, by omega, by omega⟩
        | exact ⟨⟨by omega, by omega⟩, Or.inl rfl⟩
        | exact ⟨⟨by omega, by omega⟩, Or.inr rfl⟩
        | (rcases h2.2.1 with z | z <;> (rw [z.1]; exact ⟨by decide, by decide⟩))
        | (rcases hB1.1 s.toNat with z | z <;> (rw [z]; exact ⟨by decide, by decide⟩))
        | (have := hI.2.1.1.1; have := (hI.2.1.1.2 t.toNat).2.1; exact ⟨⟨by omega, by omega⟩, by omega, by omega⟩)
        | exact hB1
        | (rcases (ke_3.next hB1 h3 h8 hM203).1 with z | z <;> (rw [z]; exact ⟨by decide, by decide⟩))
        | trivial) ?_
    refine And.intro (by
      first
        | omega
        | exact gP
        | exact ⟨by omega, by omega⟩
        | exact ⟨gl, ⟨by decide, by decide⟩, by omega, by omega⟩
        | exact ⟨gq, ⟨by decide, by decide⟩, by decide, by decide⟩
        | exact ⟨gq, by decide, by decide⟩
        | (split <;> exact ⟨by decide, by decide⟩)
        | exact ⟨⟨by omega, by omega⟩, by omega, by omega⟩
        | exact ⟨⟨by omega, by omega⟩, Or.inl rfl⟩
        | exact ⟨⟨by omega, by omega⟩, Or.inr rfl⟩
        | (rcases h2.2.1 with z | z <;> (rw [z.1]; exact ⟨by decide, by decide⟩))
        | (rcases hB1.1 s.toNat with z | z <;> (rw [z]; exact ⟨by decide, by decide⟩))
        | (have := hI.2.1.1.1; have := (hI.2.1.1.2 t.toNat).2.1; exact ⟨⟨by omega, by omega⟩, by omega, by omega⟩)
        | exact hB1
        | (rcases (ke_3.next hB1 h3 h8 hM203).1 with z | z <;> (rw [z]; exact ⟨by decide, by decide⟩))
        | trivial) ?_
    refine ⟨?_, ?_⟩
    · intro c164
      refine And.intro (by
        first
          | omega
          | exact gP
          | exact ⟨by omega, by omega⟩
          | exact ⟨gl, ⟨by decide, by decide⟩, by omega, by omega⟩
          | exact ⟨gq, ⟨by decide, by decide⟩, by decide, by decide⟩
          | exact ⟨gq, by decide, by decide⟩
          | (split <;> exact ⟨by decide, by decide⟩)
          | exact ⟨⟨by omega, by omega⟩, by omega, by omega⟩
          | exact ⟨⟨by omega, by omega⟩, Or.inl rfl⟩
          | exact ⟨⟨by omega, by omega⟩, Or.inr rfl⟩
          | (rcases h2.2.1 with z | z <;> (rw [z.1]; exact ⟨by decide, by decide⟩))
          | (rcases hB1.1 s.toNat with z | z <;> (rw [z]; exact ⟨by decide, by decide⟩))
          | (have := hI.2.1.1.1; have := (hI.2.1.1.2 t.toNat).2.1; exact ⟨⟨by omega, by omega⟩, by omega, by omega⟩)
          | exact hB1
          | (rcases (ke_3.next hB1 h3 h8 hM203).1 with z | z <;> (rw [z]; exact ⟨by decide, by decide⟩))
          | trivial) ?_
      refine ⟨_, ?_, rfl, hs0, ⟨by omega, by omega⟩, rfl, rfl, W1, W2, N, M2, gK, hr, hin, hla, by rw [← he]; exact hB, he, hI.u (Or.inl rfl) (by first | exact Or.inl rfl | exact Or.inr rfl), h1.u8 ⟨ht.1, by omega⟩ hs0, h2.next ⟨ht.1, by omega⟩ hs0 ?_⟩
      · omega
      · first
          | (rw [if_pos ⟨by assumption, by assumption⟩]; done)
          | (rw [if_neg (fun z => z.1 (by assumption))]; done)
          | (rw [if_neg (fun z => absurd z.2 (by assumption))]; done)
    · intro c164
      refine And.intro (by
        first
          | omega
          | exact gP
          | exact ⟨by omega, by omega⟩
          | exact ⟨gl, ⟨by decide, by decide⟩, by omega, by omega⟩
          | exact ⟨gq, ⟨by decide, by decide⟩, by decide, by decide⟩
          | exact ⟨gq, by decide, by decide⟩
          | (split <;> exact ⟨by decide, by decide⟩)
          | exact ⟨⟨by omega, by omega⟩, by omega, by omega⟩
          | exact ⟨⟨by omega, by omega⟩, Or.inl rfl⟩
          | exact ⟨⟨by omega, by omega⟩, Or.inr rfl⟩
          | (rcases h2.2.1 with z | z <;> (rw [z.1]; exact ⟨by decide, by decide⟩))
          | (rcases hB1.1 s.toNat with z | z <;> (rw [z]; exact ⟨by decide, by decide⟩))
          | (have := hI.2.1.1.1; have := (hI.2.1.1.2 t.toNat).2.1; exact ⟨⟨by omega, by omega⟩, by omega, by omega⟩)
          | exact hB1
          | (rcases (ke_3.next hB1 h3 h8 hM203).1 with z | z <;> (rw [z]; exact ⟨by decide, by decide⟩))
          | trivial) ?_
      refine And.intro (by
        first
          | omega
          | exact gP
          | exact ⟨by omega, by omega⟩
          | exact ⟨gl, ⟨by decide, by decide⟩, by omega, by omega⟩
          | exact ⟨gq, ⟨by decide, by decide⟩, by decide, by decide⟩
          | exact ⟨gq, by decide, by decide⟩
          | (split <;> exact ⟨by decide, by decide⟩)
          | exact ⟨⟨by omega, by omega⟩, by omega, by omega⟩
          | exact ⟨⟨by omega, by omega⟩, Or.inl rfl⟩
          | exact ⟨⟨by omega, by omega⟩, Or.inr rfl⟩
          | (rcases h2.2.1 with z | z <;> (rw [z.1]; exact ⟨by decide, by decide⟩))
          | (rcases hB1.1 s.toNat with z | z <;> (rw [z]; exact ⟨by decide, by decide⟩))
          | (have := hI.2.1.1.1; have := (hI.2.1.1.2 t.toNat).2.1; exact ⟨⟨by omega, by omega⟩, by omega, by omega⟩)
          | exact hB1
          | (rcases (ke_3.next hB1 h3 h8 hM203).1 with z | z <;> (rw [z]; exact ⟨by decide, by decide⟩))
          | trivial) ?_
      refine ⟨?_, ?_⟩
      · intro c178
        refine And.intro (by
          first
            | omega
            | exact gP
            | exact ⟨by omega, by omega⟩
            | exact ⟨gl, ⟨by decide, by decide⟩, by omega, by omega⟩
            | exact ⟨gq, ⟨by decide, by decide⟩, by decide, by decide⟩
            | exact ⟨gq, by decide, by decide⟩
            | (split <;> exact ⟨by decide, by decide⟩)
            | exact ⟨⟨by omega, by omega⟩, by omega, by omega⟩
            | exact ⟨⟨by omega, by omega⟩, Or.inl rfl⟩
            | exact ⟨⟨by omega, by omega⟩, Or.inr rfl⟩
            | (rcases h2.2.1 with z | z <;> (rw [z.1]; exact ⟨by decide, by decide⟩))
            | (rcases hB1.1 s.toNat with z | z <;> (rw [z]; exact ⟨by decide, by decide⟩))
            | (have := hI.2.1.1.1; have := (hI.2.1.1.2 t.toNat).2.1; exact ⟨⟨by omega, by omega⟩, by omega, by omega⟩)
            | exact hB1
            | (rcases (ke_3.next hB1 h3 h8 hM203).1 with z | z <;> (rw [z]; exact ⟨by decide, by decide⟩))
            | trivial) ?_
        refine ⟨_, ?_, rfl, hs0, ⟨by omega, by omega⟩, rfl, rfl, W1, W2, N, M2, gK, hr, hin, hla, by rw [← he]; exact hB, he, hI.u (Or.inl rfl) (by first | exact Or.inl rfl | exact Or.inr rfl), h1.u8 ⟨ht.1, by omega⟩ hs0, h2.next ⟨ht.1, by omega⟩ hs0 ?_⟩
        · omega
        · first
            | (rw [if_pos ⟨by assumption, by assumption⟩]; done)
            | (rw [if_neg (fun z => z.1 (by assumption))]; done)
            | (rw [if_neg (fun z => absurd z.2 (by assumption))]; done)
      · intro c178
        refine And.intro (by
          first
            | omega
            | exact gP
            | exact ⟨by omega, by omega⟩
            | exact ⟨gl, ⟨by decide, by decide⟩, by omega, by omega⟩
            | exact ⟨gq, ⟨by decide, by decide⟩, by decide, by decide⟩
            | exact ⟨gq, by decide, by decide⟩
            | (split <;> exact ⟨by decide, by decide⟩)
            | exact ⟨⟨by omega, by omega⟩, by omega, by omega⟩
            | exact ⟨⟨by omega, by omega⟩, Or.inl rfl⟩
            | exact ⟨⟨by omega, by omega⟩, Or.inr rfl⟩
            | (rcases h2.2.1 with z | z <;> (rw [z.1]; exact ⟨by decide, by decide⟩))
            | (rcases hB1.1 s.toNat with z | z <;> (rw [z]; exact ⟨by decide, by decide⟩))
            | (have := hI.2.1.1.1; have := (hI.2.1.1.2 t.toNat).2.1; exact ⟨⟨by omega, by omega⟩, by omega, by omega⟩)
            | exact hB1
            | (rcases (ke_3.next hB1 h3 h8 hM203).1 with z | z <;> (rw [z]; exact ⟨by decide, by decide⟩))
            | trivial) ?_
        refine ⟨_, ?_, rfl, hs0, ⟨by omega, by omega⟩, rfl, rfl, W1, W2, N, M2, gK, hr, hin, hla, by rw [← he]; exact hB, he, hI.u (Or.inl rfl) (by first | exact Or.inl rfl | exact Or.inr rfl), h1.u8 ⟨ht.1, by omega⟩ hs0, h2.next ⟨ht.1, by omega⟩ hs0 ?_⟩
        · omega
        · first
            | (rw [if_pos ⟨by assumption, by assumption⟩]; done)
            | (rw [if_neg (fun z => z.1 (by assumption))]; done)
            | (rw [if_neg (fun z => absurd z.2 (by assumption))]; done)

set_option maxRecDepth 20000 in
theorem vc_X9_keeps_202 (l : Int) (q : Int) (M : ab_M) (K : List ab_V → ab_M → Prop) (hS : (∃ W1 : Nat → List Int, ∃ W2 : Nat → List Int, ((pz_PR M ∧ ab_ir l ∧ ab_ir q) ∧ ∀ N, pz_rdn M N → (0 ≤ N 797 21 ∧ N 797 21 ≤ 4) ∧ ab_ir (N 797 29) ∧ la_A N 1 W1 W2 ∧ ∀ M2, la_P N M2 1 W1 W2 → (0 ≤ l ∧ l < N 797 21 → ke_B M2 (M2 814 l.toNat) W1 W2)) ∧ (∀ rx : Int, ∀ Mx : ab_M, (ke_P M Mx l q rx W1 W2) → K [Xi rx] Mx))) (n : Nat) (l1 : Int) (q1 : Int) (e : Int) (rn : Int) (M1 : ab_M) (hI : n = 300 + ke_n M1 ∧ 0 ≤ rn ∧ rn + ((ke_n M1 : Nat) : Int) ≤ 256 ∧ l = l1 ∧ q = q1 ∧ ∃ W1 W2 N M2, (∀ rx : Int, ∀ Mx : ab_M, ke_P M Mx l q rx W1 W2 → K [Xi rx] Mx) ∧ pz_rdn M N ∧ ((0 ≤ l ∧ l < N 797 21) ∧ 0 ≤ q ∧ q ≤ 1) ∧ la_P N M2 1 W1 W2 ∧ ke_B M2 (M2 814 l.toNat) W1 W2 ∧ e = M2 814 l.toNat ∧ ke_I M2 M1 256 ∧ ke_3 M2 M1 e W1 W2 rn.toNat ∧ (∀ x : Nat, x < 256 → ∀ t : Nat, t < 256 → (M1 831 (256 * x + t) = 1 ↔ ke_G M2 e W1 x t))) : (lv_B M1) ∧ (∀ r203 : Int, ∀ M203 : ab_M, (lv_P M1 M203 r203) → (ab_ir r203) ∧ ((r203 = 0 → (∃ n', n' < n ∧ ((n' = (256 - (0 : Int)).toNat ∧ 0 ≤ (0 : Int) ∧ (0 : Int) ≤ 256 ∧ (0 ≤ rn ∧ rn ≤ 256) ∧ l = l1 ∧ q = q1 ∧ ∃ W1 W2 N M2, (∀ rx : Int, ∀ Mx : ab_M, ke_P M Mx l q rx W1 W2 → K [Xi rx] Mx) ∧ pz_rdn M N ∧ ((0 ≤ l ∧ l < N 797 21) ∧ 0 ≤ q ∧ q ≤ 1) ∧ la_P N M2 1 W1 W2 ∧ ke_B M2 (M2 814 l.toNat) W1 W2 ∧ e = M2 814 l.toNat ∧ ke_I M2 M203 256 ∧ ke_3 M2 M203 e W1 W2 rn.toNat ∧ (∀ x : Nat, x < 256 → ke_K (ke_J W2 e) (ke_G M2 e W1) rn.toNat x → ke_K (ke_J W2 e) (ke_G M2 e W1) (rn.toNat + 1) x) ∧ (0 : Int) = ((gx_m (fun x => decide (M203 832 x = 1)) (0 : Int).toNat : Nat) : Int))))) ∧ (¬ r203 = 0 → (∃ n', n' < n ∧ ((n' = 300 + ke_n M203 ∧ 0 ≤ (rn + 1) ∧ (rn + 1) + ((ke_n M203 : Nat) : Int) ≤ 256 ∧ l = l1 ∧ q = q1 ∧ ∃ W1 W2 N M2, (∀ rx : Int, ∀ Mx : ab_M, ke_P M Mx l q rx W1 W2 → K [Xi rx] Mx) ∧ pz_rdn M N ∧ ((0 ≤ l ∧ l < N 797 21) ∧ 0 ≤ q ∧ q ≤ 1) ∧ la_P N M2 1 W1 W2 ∧ ke_B M2 (M2 814 l.toNat) W1 W2 ∧ e = M2 814 l.toNat ∧ ke_I M2 M203 256 ∧ ke_3 M2 M203 e W1 W2 (rn + 1).toNat ∧ (∀ x : Nat, x < 256 → ∀ t : Nat, t < 256 → (M203 831 (256 * x + t) = 1 ↔ ke_G M2 e W1 x t)))))))) := by
  obtain ⟨hn, hr0, hr1, e1, e2, W1, W2, N, M2, gK, hr, hin, hla, hB, he, hI, h3, h8⟩ := hI
  clear hS
  subst e1
  subst e2
  rw [← he] at hB
  obtain ⟨⟨b1, b2, b3⟩, b4, b5, ⟨b6, b7⟩, b8⟩ := id hB
  have hF := hI.1
  have hB1 := hI.2.2
  refine And.intro (by
    first
      | omega
      | exact gP
      | exact ⟨by omega, by omega⟩
      | exact ⟨gl, ⟨by decide, by decide⟩, by omega, by omega⟩
      | exact ⟨gq, ⟨by decide, by decide⟩, by decide, by decide⟩
      | exact ⟨gq, by decide, by decide⟩
      | (split <;> exact ⟨by decide, by decide⟩)
      | exact ⟨⟨by omega, by omega⟩, by omega, by omega⟩
      | exact ⟨⟨by omega, by omega⟩, Or.inl rfl⟩
      | exact ⟨⟨by omega, by omega⟩, Or.inr rfl⟩
      | (rcases h2.2.1 with z | z <;> (rw [z.1]; exact ⟨by decide, by decide⟩))
      | (rcases hB1.1 s.toNat with z | z <;> (rw [z]; exact ⟨by decide, by decide⟩))
      | (have := hI.2.1.1.1; have := (hI.2.1.1.2 t.toNat).2.1; exact ⟨⟨by omega, by omega⟩, by omega, by omega⟩)
      | exact hB1
      | (rcases (ke_3.next hB1 h3 h8 hM203).1 with z | z <;> (rw [z]; exact ⟨by decide, by decide⟩))
      | trivial) ?_
  intro r203 M203 hM203
  refine And.intro (by
    first
      | omega
      | exact gP
      | exact ⟨by omega, by omega⟩
      | exact ⟨gl, ⟨by decide, by decide⟩, by omega, by omega⟩
      | exact ⟨gq, ⟨by decide, by decide⟩, by decide, by decide⟩
      | exact ⟨gq, by decide, by decide⟩
      | (split <;> exact ⟨by decide, by decide⟩)
      | exact ⟨⟨by omega, by omega⟩, by omega, by omega⟩
      | exact ⟨⟨by omega, by omega⟩, Or.inl rfl⟩
      | exact ⟨⟨by omega, by omega⟩, Or.inr rfl⟩
      | (rcases h2.2.1 with z | z <;> (rw [z.1]; exact ⟨by decide, by decide⟩))
      | (rcases hB1.1 s.toNat with z | z <;> (rw [z]; exact ⟨by decide, by decide⟩))
      | (have := hI.2.1.1.1; have := (hI.2.1.1.2 t.toNat).2.1; exact ⟨⟨by omega, by omega⟩, by omega, by omega⟩)
      | exact hB1
      | (rcases (ke_3.next hB1 h3 h8 hM203).1 with z | z <;> (rw [z]; exact ⟨by decide, by decide⟩))
      | trivial) ?_
  refine ⟨?_, ?_⟩
  · intro c206
    obtain ⟨a1, a2, a3, a4, a5⟩ := ke_3.next hB1 h3 h8 hM203
    obtain ⟨c1, c2⟩ := a3 (by assumption)
    refine ⟨_, ?_, rfl, by decide, by decide, ⟨by omega, by omega⟩, rfl, rfl, W1, W2, N, M2, gK, hr, hin, hla, by rw [← he]; exact hB, he, ⟨fun o k x y z => (hM203.1 o k (by omega) (by omega)).trans (hF o k x y z), ⟨?_, by rw [hM203.1 _ _ (by decide) (by decide)]; exact hI.2.1.2⟩, a4⟩, c1, c2, rfl⟩
    · omega
    · unfold gt_B
      simp only [hM203.1 797 _ (by decide) (by decide), hM203.1 827 _ (by decide) (by decide), hM203.1 829 _ (by decide) (by decide), hM203.1 830 _ (by decide) (by decide)]
      exact hI.2.1.1
  · intro c206
    obtain ⟨a1, a2, a3, a4, a5⟩ := ke_3.next hB1 h3 h8 hM203
    have hr1 : r203 = 1 := by omega
    obtain ⟨c1, c2⟩ := a2 hr1
    refine ⟨_, ?_, rfl, by omega, by omega, rfl, rfl, W1, W2, N, M2, gK, hr, hin, hla, by rw [← he]; exact hB, he, ⟨fun o k x y z => (hM203.1 o k (by omega) (by omega)).trans (hF o k x y z), ⟨?_, by rw [hM203.1 _ _ (by decide) (by decide)]; exact hI.2.1.2⟩, a4⟩, ?_, fun x hx t ht => by rw [a5]; exact h8 x hx t ht⟩
    · omega
    · unfold gt_B
      simp only [hM203.1 797 _ (by decide) (by decide), hM203.1 827 _ (by decide) (by decide), hM203.1 829 _ (by decide) (by decide), hM203.1 830 _ (by decide) (by decide)]
      exact hI.2.1.1
    · rw [show (rn + 1).toNat = rn.toNat + 1 by omega]; exact c1

set_option maxRecDepth 20000 in
theorem vc_X9_keeps_221 (l : Int) (q : Int) (M : ab_M) (K : List ab_V → ab_M → Prop) (hS : (∃ W1 : Nat → List Int, ∃ W2 : Nat → List Int, ((pz_PR M ∧ ab_ir l ∧ ab_ir q) ∧ ∀ N, pz_rdn M N → (0 ≤ N 797 21 ∧ N 797 21 ≤ 4) ∧ ab_ir (N 797 29) ∧ la_A N 1 W1 W2 ∧ ∀ M2, la_P N M2 1 W1 W2 → (0 ≤ l ∧ l < N 797 21 → ke_B M2 (M2 814 l.toNat) W1 W2)) ∧ (∀ rx : Int, ∀ Mx : ab_M, (ke_P M Mx l q rx W1 W2) → K [Xi rx] Mx))) (n : Nat) (l1 : Int) (q1 : Int) (e : Int) (rn : Int) (cnt : Int) (s : Int) (M1 : ab_M) (hI : n = (256 - s).toNat ∧ 0 ≤ s ∧ s ≤ 256 ∧ (0 ≤ rn ∧ rn ≤ 256) ∧ l = l1 ∧ q = q1 ∧ ∃ W1 W2 N M2, (∀ rx : Int, ∀ Mx : ab_M, ke_P M Mx l q rx W1 W2 → K [Xi rx] Mx) ∧ pz_rdn M N ∧ ((0 ≤ l ∧ l < N 797 21) ∧ 0 ≤ q ∧ q ≤ 1) ∧ la_P N M2 1 W1 W2 ∧ ke_B M2 (M2 814 l.toNat) W1 W2 ∧ e = M2 814 l.toNat ∧ ke_I M2 M1 256 ∧ ke_3 M2 M1 e W1 W2 rn.toNat ∧ (∀ x : Nat, x < 256 → ke_K (ke_J W2 e) (ke_G M2 e W1) rn.toNat x → ke_K (ke_J W2 e) (ke_G M2 e W1) (rn.toNat + 1) x) ∧ cnt = ((gx_m (fun x => decide (M1 832 x = 1)) s.toNat : Nat) : Int)) : (-32768 ≤ (256 : Int) ∧ (256 : Int) < 32768) ∧ (ab_ir s ∧ ab_ir (256 : Int)) ∧ (((256 : Int) ≤ s → (ab_ir q1) ∧ ((¬ q1 = 0 → K [Xi rn] M1) ∧ (q1 = 0 → K [Xi cnt] M1))) ∧ (s < (256 : Int) → (0 ≤ s ∧ s < ((256 : Nat) : Int)) ∧ (ab_ir (M1 832 s.toNat)) ∧ (((M1 832 s.toNat) = 0 → (∃ n', n' < n ∧ ((n' = (256 - (s + 1)).toNat ∧ 0 ≤ (s + 1) ∧ (s + 1) ≤ 256 ∧ (0 ≤ rn ∧ rn ≤ 256) ∧ l = l1 ∧ q = q1 ∧ ∃ W1 W2 N M2, (∀ rx : Int, ∀ Mx : ab_M, ke_P M Mx l q rx W1 W2 → K [Xi rx] Mx) ∧ pz_rdn M N ∧ ((0 ≤ l ∧ l < N 797 21) ∧ 0 ≤ q ∧ q ≤ 1) ∧ la_P N M2 1 W1 W2 ∧ ke_B M2 (M2 814 l.toNat) W1 W2 ∧ e = M2 814 l.toNat ∧ ke_I M2 M1 256 ∧ ke_3 M2 M1 e W1 W2 rn.toNat ∧ (∀ x : Nat, x < 256 → ke_K (ke_J W2 e) (ke_G M2 e W1) rn.toNat x → ke_K (ke_J W2 e) (ke_G M2 e W1) (rn.toNat + 1) x) ∧ (cnt + (0 : Int)) = ((gx_m (fun x => decide (M1 832 x = 1)) (s + 1).toNat : Nat) : Int))))) ∧ (¬ (M1 832 s.toNat) = 0 → (∃ n', n' < n ∧ ((n' = (256 - (s + 1)).toNat ∧ 0 ≤ (s + 1) ∧ (s + 1) ≤ 256 ∧ (0 ≤ rn ∧ rn ≤ 256) ∧ l = l1 ∧ q = q1 ∧ ∃ W1 W2 N M2, (∀ rx : Int, ∀ Mx : ab_M, ke_P M Mx l q rx W1 W2 → K [Xi rx] Mx) ∧ pz_rdn M N ∧ ((0 ≤ l ∧ l < N 797 21) ∧ 0 ≤ q ∧ q ≤ 1) ∧ la_P N M2 1 W1 W2 ∧ ke_B M2 (M2 814 l.toNat) W1 W2 ∧ e = M2 814 l.toNat ∧ ke_I M2 M1 256 ∧ ke_3 M2 M1 e W1 W2 rn.toNat ∧ (∀ x : Nat, x < 256 → ke_K (ke_J W2 e) (ke_G M2 e W1) rn.toNat x → ke_K (ke_J W2 e) (ke_G M2 e W1) (rn.toNat + 1) x) ∧ (cnt + (1 : Int)) = ((gx_m (fun x => decide (M1 832 x = 1)) (s + 1).toNat : Nat) : Int)))))))) := by
  obtain ⟨hn, hs0, hs1, hrn, e1, e2, W1, W2, N, M2, gK, hr, hin, hla, hB, he, hI, h3, hst, hcnt⟩ := hI
  clear hS
  subst e1
  subst e2
  rw [← he] at hB
  obtain ⟨⟨b1, b2, b3⟩, b4, b5, ⟨b6, b7⟩, b8⟩ := id hB
  have hF := hI.1
  have hB1 := hI.2.2
  refine And.intro (by
    first
      | omega
      | exact gP
      | exact ⟨by omega, by omega⟩
      | exact ⟨gl, ⟨by decide, by decide⟩, by omega, by omega⟩
      | exact ⟨gq, ⟨by decide, by decide⟩, by decide, by decide⟩
      | exact ⟨gq, by decide, by decide⟩
      | (split <;> exact ⟨by decide, by decide⟩)
      | exact ⟨⟨by omega, by omega⟩, by omega, by omega⟩
      | exact ⟨⟨by omega, by omega⟩, Or.inl rfl⟩
      | exact ⟨⟨by omega, by omega⟩, Or.inr rfl⟩
      | (rcases h2.2.1 with z | z <;> (rw [z.1]; exact ⟨by decide, by decide⟩))
      | (rcases hB1.1 s.toNat with z | z <;> (rw [z]; exact ⟨by decide, by decide⟩))
      | (have := hI.2.1.1.1; have := (hI.2.1.1.2 t.toNat).2.1; exact ⟨⟨by omega, by omega⟩, by omega, by omega⟩)
      | exact hB1
      | (rcases (ke_3.next hB1 h3 h8 hM203).1 with z | z <;> (rw [z]; exact ⟨by decide, by decide⟩))
      | trivial) ?_
  refine And.intro (by
    first
      | omega
      | exact gP
      | exact ⟨by omega, by omega⟩
      | exact ⟨gl, ⟨by decide, by decide⟩, by omega, by omega⟩
      | exact ⟨gq, ⟨by decide, by decide⟩, by decide, by decide⟩
      | exact ⟨gq, by decide, by decide⟩
      | (split <;> exact ⟨by decide, by decide⟩)
      | exact ⟨⟨by omega, by omega⟩, by omega, by omega⟩
      | exact ⟨⟨by omega, by omega⟩, Or.inl rfl⟩
      | exact ⟨⟨by omega, by omega⟩, Or.inr rfl⟩
      | (rcases h2.2.1 with z | z <;> (rw [z.1]; exact ⟨by decide, by decide⟩))
      | (rcases hB1.1 s.toNat with z | z <;> (rw [z]; exact ⟨by decide, by decide⟩))
      | (have := hI.2.1.1.1; have := (hI.2.1.1.2 t.toNat).2.1; exact ⟨⟨by omega, by omega⟩, by omega, by omega⟩)
      | exact hB1
      | (rcases (ke_3.next hB1 h3 h8 hM203).1 with z | z <;> (rw [z]; exact ⟨by decide, by decide⟩))
      | trivial) ?_
  refine ⟨?_, ?_⟩
  · intro c226
    refine And.intro (by
      first
        | omega
        | exact gP
        | exact ⟨by omega, by omega⟩
        | exact ⟨gl, ⟨by decide, by decide⟩, by omega, by omega⟩
        | exact ⟨gq, ⟨by decide, by decide⟩, by decide, by decide⟩
        | exact ⟨gq, by decide, by decide⟩
        | (split <;> exact ⟨by decide, by decide⟩)
        | exact ⟨⟨by omega, by omega⟩, by omega, by omega⟩
        | exact ⟨⟨by omega, by omega⟩, Or.inl rfl⟩
        | exact ⟨⟨by omega, by omega⟩, Or.inr rfl⟩
        | (rcases h2.2.1 with z | z <;> (rw [z.1]; exact ⟨by decide, by decide⟩))
        | (rcases hB1.1 s.toNat with z | z <;> (rw [z]; exact ⟨by decide, by decide⟩))
        | (have := hI.2.1.1.1; have := (hI.2.1.1.2 t.toNat).2.1; exact ⟨⟨by omega, by omega⟩, by omega, by omega⟩)
        | exact hB1
        | (rcases (ke_3.next hB1 h3 h8 hM203).1 with z | z <;> (rw [z]; exact ⟨by decide, by decide⟩))
        | trivial) ?_
    refine ⟨?_, ?_⟩
    · intro c256
      have h256 : s.toNat = 256 := by omega
      rw [h256] at hcnt
      rw [he] at h3 hst
      refine gK _ _ ⟨N, hr, fun z => absurd hin z, fun _ => ⟨M2, hla, hI, rn.toNat, h3, hst, fun z => ?_, fun z => ?_⟩⟩
      · first
          | exact hcnt
          | (exfalso; omega)
      · first
          | omega
          | (exfalso; omega)
    · intro c256
      have h256 : s.toNat = 256 := by omega
      rw [h256] at hcnt
      rw [he] at h3 hst
      refine gK _ _ ⟨N, hr, fun z => absurd hin z, fun _ => ⟨M2, hla, hI, rn.toNat, h3, hst, fun z => ?_, fun z => ?_⟩⟩
      · first
          | exact hcnt
          | (exfalso; omega)
      · first
          | omega
          | (exfalso; omega)
  · intro c226
    refine And.intro (by
      first
        | omega
        | exact gP
        | exact ⟨by omega, by omega⟩
        | exact ⟨gl, ⟨by decide, by decide⟩, by omega, by omega⟩
        | exact ⟨gq, ⟨by decide, by decide⟩, by decide, by decide⟩
        | exact ⟨gq, by decide, by decide⟩
        | (split <;> exact ⟨by decide, by decide⟩)
        | exact ⟨⟨by omega, by omega⟩, by omega, by omega⟩
        | exact ⟨⟨by omega, by omega⟩, Or.inl rfl⟩
        | exact ⟨⟨by omega, by omega⟩, Or.inr rfl⟩
        | (rcases h2.2.1 with z | z <;> (rw [z.1]; exact ⟨by decide, by decide⟩))
        | (rcases hB1.1 s.toNat with z | z <;> (rw [z]; exact ⟨by decide, by decide⟩))
        | (have := hI.2.1.1.1; have := (hI.2.1.1.2 t.toNat).2.1; exact ⟨⟨by omega, by omega⟩, by omega, by omega⟩)
        | exact hB1
        | (rcases (ke_3.next hB1 h3 h8 hM203).1 with z | z <;> (rw [z]; exact ⟨by decide, by decide⟩))
        | trivial) ?_
    refine And.intro (by
      first
        | omega
        | exact gP
        | exact ⟨by omega, by omega⟩
        | exact ⟨gl, ⟨by decide, by decide⟩, by omega, by omega⟩
        | exact ⟨gq, ⟨by decide, by decide⟩, by decide, by decide⟩
        | exact ⟨gq, by decide, by decide⟩
        | (split <;> exact ⟨by decide, by decide⟩)
        | exact ⟨⟨by omega, by omega⟩, by omega, by omega⟩
        | exact ⟨⟨by omega, by omega⟩, Or.inl rfl⟩
        | exact ⟨⟨by omega, by omega⟩, Or.inr rfl⟩
        | (rcases h2.2.1 with z | z <;> (rw [z.1]; exact ⟨by decide, by decide⟩))
        | (rcases hB1.1 s.toNat with z | z <;> (rw [z]; exact ⟨by decide, by decide⟩))
        | (have := hI.2.1.1.1; have := (hI.2.1.1.2 t.toNat).2.1; exact ⟨⟨by omega, by omega⟩, by omega, by omega⟩)
        | exact hB1
        | (rcases (ke_3.next hB1 h3 h8 hM203).1 with z | z <;> (rw [z]; exact ⟨by decide, by decide⟩))
        | trivial) ?_
    refine ⟨?_, ?_⟩
    · intro c238
      have hk1' : (s + 1).toNat = s.toNat + 1 := by omega
      have hcn : gx_m (fun x => decide (M1 832 x = 1)) (s.toNat + 1) = gx_m (fun x => decide (M1 832 x = 1)) s.toNat + (if decide (M1 832 s.toNat = 1) = true then 1 else 0) := rfl
      have hc01 := hB1.1 s.toNat
      rw [if_neg (by rw [decide_eq_true_iff]; omega)] at hcn
      refine ⟨_, ?_, rfl, by omega, by omega, hrn, rfl, rfl, W1, W2, N, M2, gK, hr, hin, hla, by rw [← he]; exact hB, he, hI, h3, hst, ?_⟩
      · omega
      · rw [hk1', hcn]; omega
    · intro c238
      have hk1' : (s + 1).toNat = s.toNat + 1 := by omega
      have hcn : gx_m (fun x => decide (M1 832 x = 1)) (s.toNat + 1) = gx_m (fun x => decide (M1 832 x = 1)) s.toNat + (if decide (M1 832 s.toNat = 1) = true then 1 else 0) := rfl
      have hc01 := hB1.1 s.toNat
      rw [if_pos (decide_eq_true (by omega))] at hcn
      refine ⟨_, ?_, rfl, by omega, by omega, hrn, rfl, rfl, W1, W2, N, M2, gK, hr, hin, hla, by rw [← he]; exact hB, he, hI, h3, hst, ?_⟩
      · omega
      · rw [hk1', hcn]; omega

set_option maxRecDepth 20000 in
set_option maxHeartbeats 1000000 in
theorem ok_X9_keeps (E : ab_E) : ab_Ok E 9 155 S_X9_keeps := by
  refine ab_mk rq_X9_keeps tk_X9_keeps (rt := 1) (rfl) (cuts := [44, 141, 202, 221]) (G := [(142, S_X9_goThrough), (145, S_X9_in), (157, S_X9_lay), (159, S_X9_leaveOut), (170, S_X9_read), (189, S_X9_valueOf)]) (List.forall_mem_cons.mpr ⟨⟨4, by decide, ok_X9_goThrough E⟩, List.forall_mem_cons.mpr ⟨⟨1, by decide, ok_X9_in E⟩, List.forall_mem_cons.mpr ⟨⟨8, by decide, ok_X9_lay E⟩, List.forall_mem_cons.mpr ⟨⟨1, by decide, ok_X9_leaveOut E⟩, List.forall_mem_cons.mpr ⟨⟨7, by decide, ok_X9_read E⟩, List.forall_mem_cons.mpr ⟨⟨3, by decide, ok_X9_valueOf E⟩, fun _ h => absurd h List.not_mem_nil⟩⟩⟩⟩⟩⟩) (by decide) 192 rfl ?_
  intro a M K wd wa hS
  unfold S_X9_keeps at hS
  split at hS
  ·
    rename_i l q
    refine ⟨Nat.le_of_ble_eq_true rfl, fun pc n L st M1 => match pc, L, st with
      | 44, [.inr (.inr (.inr (797, 9, 0))), .inr (.inl l1), .inr (.inl q1), .inr (.inl e), .inr (.inl s), u6_, u7_], [] => (n = 3000 + (256 - s).toNat * 300 ∧ 0 ≤ s ∧ s ≤ 256 ∧ l = l1 ∧ q = q1 ∧ ∃ W1 W2 N M2, (∀ rx : Int, ∀ Mx : ab_M, ke_P M Mx l q rx W1 W2 → K [Xi rx] Mx) ∧ pz_rdn M N ∧ ((0 ≤ l ∧ l < N 797 21) ∧ 0 ≤ q ∧ q ≤ 1) ∧ la_P N M2 1 W1 W2 ∧ ke_B M2 (M2 814 l.toNat) W1 W2 ∧ e = M2 814 l.toNat ∧ ke_I M2 M1 s ∧ ke_1 M2 M1 e W1 W2 s)
      | 141, [.inr (.inr (.inr (797, 9, 0))), .inr (.inl l1), .inr (.inl q1), .inr (.inl e), .inr (.inl s), .inr (.inl is), .inr (.inl t)], [] => (n = 3000 + (256 - s).toNat * 300 - 1 - t.toNat ∧ (0 ≤ s ∧ s < 256) ∧ (0 ≤ t ∧ t ≤ 256) ∧ l = l1 ∧ q = q1 ∧ ∃ W1 W2 N M2, (∀ rx : Int, ∀ Mx : ab_M, ke_P M Mx l q rx W1 W2 → K [Xi rx] Mx) ∧ pz_rdn M N ∧ ((0 ≤ l ∧ l < N 797 21) ∧ 0 ≤ q ∧ q ≤ 1) ∧ la_P N M2 1 W1 W2 ∧ ke_B M2 (M2 814 l.toNat) W1 W2 ∧ e = M2 814 l.toNat ∧ ke_I M2 M1 (s + 1) ∧ ke_1 M2 M1 e W1 W2 s ∧ ke_2 M2 M1 e W1 W2 s is t)
      | 202, [.inr (.inr (.inr (797, 9, 0))), .inr (.inl l1), .inr (.inl q1), .inr (.inl e), .inr (.inl rn), u6_, u7_], [] => (n = 300 + ke_n M1 ∧ 0 ≤ rn ∧ rn + ((ke_n M1 : Nat) : Int) ≤ 256 ∧ l = l1 ∧ q = q1 ∧ ∃ W1 W2 N M2, (∀ rx : Int, ∀ Mx : ab_M, ke_P M Mx l q rx W1 W2 → K [Xi rx] Mx) ∧ pz_rdn M N ∧ ((0 ≤ l ∧ l < N 797 21) ∧ 0 ≤ q ∧ q ≤ 1) ∧ la_P N M2 1 W1 W2 ∧ ke_B M2 (M2 814 l.toNat) W1 W2 ∧ e = M2 814 l.toNat ∧ ke_I M2 M1 256 ∧ ke_3 M2 M1 e W1 W2 rn.toNat ∧ (∀ x : Nat, x < 256 → ∀ t : Nat, t < 256 → (M1 831 (256 * x + t) = 1 ↔ ke_G M2 e W1 x t)))
      | 221, [.inr (.inr (.inr (797, 9, 0))), .inr (.inl l1), .inr (.inl q1), .inr (.inl e), .inr (.inl rn), .inr (.inl cnt), .inr (.inl s)], [] => (n = (256 - s).toNat ∧ 0 ≤ s ∧ s ≤ 256 ∧ (0 ≤ rn ∧ rn ≤ 256) ∧ l = l1 ∧ q = q1 ∧ ∃ W1 W2 N M2, (∀ rx : Int, ∀ Mx : ab_M, ke_P M Mx l q rx W1 W2 → K [Xi rx] Mx) ∧ pz_rdn M N ∧ ((0 ≤ l ∧ l < N 797 21) ∧ 0 ≤ q ∧ q ≤ 1) ∧ la_P N M2 1 W1 W2 ∧ ke_B M2 (M2 814 l.toNat) W1 W2 ∧ e = M2 814 l.toNat ∧ ke_I M2 M1 256 ∧ ke_3 M2 M1 e W1 W2 rn.toNat ∧ (∀ x : Nat, x < 256 → ke_K (ke_J W2 e) (ke_G M2 e W1) rn.toNat x → ke_K (ke_J W2 e) (ke_G M2 e W1) (rn.toNat + 1) x) ∧ cnt = ((gx_m (fun x => decide (M1 832 x = 1)) s.toNat : Nat) : Int))
      | _, _, _ => False, ?_, ?_⟩
    · exact vc_X9_keeps_0 l q M K  hS
    · intro pc n L st M1 hI wd1 wL wst
      (try dsimp only at hI)
      split at hI
      ·
        rename_i l1 q1 e s u6_ u7_
        exact vc_X9_keeps_44 l q M K  hS n l1 q1 e s _ hI
      ·
        rename_i l1 q1 e s is t
        exact vc_X9_keeps_141 l q M K  hS n l1 q1 e s is t _ hI
      ·
        rename_i l1 q1 e rn u6_ u7_
        exact vc_X9_keeps_202 l q M K  hS n l1 q1 e rn _ hI
      ·
        rename_i l1 q1 e rn cnt s
        exact vc_X9_keeps_221 l q M K  hS n l1 q1 e rn cnt s _ hI
      · exact hI.elim
  · exact hS.elim
