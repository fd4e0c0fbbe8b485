/-! what is told of a loop -/
def lo_f (w : List Int) (s : Nat) : Bool := decide (pz_val (s : Int) w ≠ 0)
/-- what is told of a loop -/
def lo_P (M M' : ab_M) (l q r : Int) (W2 : Nat → List Int) : Prop := ∃ N, pz_rdn M N ∧ (∀ o k : Nat, o ≠ 817 → M' o k = N o k) ∧ (¬ ((0 ≤ l ∧ l < N 797 21) ∧ 0 ≤ q ∧ q ≤ 2) → r = -1) ∧ ((0 ≤ l ∧ l < N 797 21) ∧ 0 ≤ q ∧ q ≤ 2 → (q = 0 → r = N 811 (N 814 l.toNat).toNat) ∧ (q = 1 → pa_any N (N 814 l.toNat).toNat r) ∧ (q = 2 → r = ((gx_m (lo_f (W2 (N 814 l.toNat).toNat)) 256 : Nat) : Int)))
def lo_A (N : ab_M) (W2 : Nat → List Int) : Prop := (0 ≤ N 797 21 ∧ N 797 21 ≤ 4) ∧ ∀ l : Nat, (l : Int) < N 797 21 → (0 ≤ N 814 l ∧ N 814 l < 400) ∧ em_a N (N 814 l) ∧ (vl_P N 803 (N 809 (N 814 l).toNat) (W2 (N 814 l).toNat) ∧ (W2 (N 814 l).toNat).length ≤ 130 ∧ N 810 (N 814 l).toNat = (((W2 (N 814 l).toNat).length : Nat) : Int) ∧ N 809 (N 814 l).toNat + N 810 (N 814 l).toNat ≤ 640)

def S_X9_loop : ab_PT := fun a M K => match a with
  | [.inr (.inr (.inr (797, 9, 0))), .inr (.inl l), .inr (.inl q)] => (∃ W2 : Nat → List Int, ((pz_PR M ∧ ab_ir l ∧ ab_ir q) ∧ ∀ N, pz_rdn M N → lo_A N W2) ∧ (∀ rx : Int, ∀ Mx : ab_M, (lo_P M Mx l q rx W2) → K [Xi rx] Mx))
  | _ => False
set_option maxRecDepth 20000 in
theorem vc_X9_loop_0 (l : Int) (q : Int) (M : ab_M) (K : List ab_V → ab_M → Prop) (hS : (∃ W2 : Nat → List Int, ((pz_PR M ∧ ab_ir l ∧ ab_ir q) ∧ ∀ N, pz_rdn M N → lo_A N W2) ∧ (∀ rx : Int, ∀ Mx : ab_M, (lo_P M Mx l q rx W2) → K [Xi rx] Mx))) : (pz_PR M) ∧ (∀ M1 : ab_M, (pz_rdn M M1) → (ab_ir l ∧ ab_ir (0 : Int) ∧ ab_ir ((M1 797 21) - (1 : Int))) ∧ (∀ r12 : Int, (r12 = if (0 : Int) ≤ l ∧ l ≤ ((M1 797 21) - (1 : Int)) then 1 else 0) → (ab_ir r12) ∧ ((r12 = 0 → K [Xi (-1 : Int)] M1) ∧ (¬ r12 = 0 → (ab_ir q ∧ ab_ir (0 : Int) ∧ ab_ir (2 : Int)) ∧ (∀ r21 : Int, (r21 = if (0 : Int) ≤ q ∧ q ≤ (2 : Int) then 1 else 0) → (ab_ir r21) ∧ ((¬ r21 = 0 → (0 ≤ l ∧ l < ((4 : Nat) : Int)) ∧ (ab_ir q ∧ ab_ir (2 : Int)) ∧ (((2 : Int) ≤ q → (∃ n', ((n' = (256 - (0 : Int)).toNat ∧ 0 ≤ (0 : Int) ∧ (0 : Int) ≤ 256 ∧ l = l ∧ q = q ∧ ∃ W2 N, (∀ rx : Int, ∀ Mx : ab_M, lo_P M Mx l q rx W2 → K [Xi rx] Mx) ∧ pz_rdn M N ∧ lo_A N W2 ∧ (0 ≤ l ∧ l < N 797 21) ∧ q = 2 ∧ (M1 814 l.toNat) = N 814 l.toNat ∧ (∀ o k : Nat, o ≠ 817 → M1 o k = N o k) ∧ (0 : Int) = ((gx_m (lo_f (W2 (N 814 l.toNat).toNat)) (0 : Int).toNat : Nat) : Int))))) ∧ (q < (2 : Int) → (ab_ir q) ∧ ((¬ q = 0 → (0 ≤ (M1 814 l.toNat) ∧ ∃ ce : Nat, (M1 814 l.toNat) < (ce : Int) ∧ ce < 400 ∧ M1 805 ce = 10 ∧ M1 812 ce = (M1 814 l.toNat) ∧ ∀ j : Nat, j ≤ ce → ab_ir (M1 805 j) ∧ (M1 805 j = 10 → ab_ir (M1 812 j))) ∧ (∀ r56 : Int, (∃ n : Nat, r56 = an_s M1 ((M1 814 l.toNat).toNat + 1) n ∧ (M1 814 l.toNat).toNat + 1 + n < 400 ∧ (M1 805 ((M1 814 l.toNat).toNat + 1 + n) = 10 ∧ M1 812 ((M1 814 l.toNat).toNat + 1 + n) = (M1 814 l.toNat)) ∧ ∀ j : Nat, j < n → ¬ (M1 805 ((M1 814 l.toNat).toNat + 1 + j) = 10 ∧ M1 812 ((M1 814 l.toNat).toNat + 1 + j) = (M1 814 l.toNat))) → K [Xi r56] M1)) ∧ (q = 0 → (0 ≤ (M1 814 l.toNat) ∧ (M1 814 l.toNat) < ((400 : Nat) : Int)) ∧ K [Xi (M1 811 ((M1 814 l.toNat).toNat))] M1))))) ∧ (r21 = 0 → K [Xi (-1 : Int)] M1))))))) := by
  obtain ⟨W2, ⟨⟨gP, gl, gq⟩, gA⟩, gK⟩ := hS
  refine And.intro (by
    first
      | omega
      | exact gP
      | exact ⟨by omega, by omega⟩
      | exact ⟨gl, ⟨by decide, by decide⟩, by omega, by omega⟩
      | exact ⟨gq, ⟨by decide, by decide⟩, by decide, by decide⟩
      | exact ⟨gq, by decide, by decide⟩
      | exact gq
      | (split <;> exact ⟨by decide, by decide⟩)
      | (have := (hA.2 l.toNat (by omega)).1; omega)
      | exact (hA.2 l.toNat (by omega)).2.1
      | (rw [f6, f7]; exact ⟨b4.1.fr fun j => hf _ _ (by decide), b4.2⟩)
      | exact ⟨⟨by omega, by omega⟩, by omega, by omega⟩
      | trivial) ?_
  intro M1 hM1
  have hA := gA M1 hM1
  obtain ⟨hA1, hA2⟩ := hA.1
  refine And.intro (by
    first
      | omega
      | exact gP
      | exact ⟨by omega, by omega⟩
      | exact ⟨gl, ⟨by decide, by decide⟩, by omega, by omega⟩
      | exact ⟨gq, ⟨by decide, by decide⟩, by decide, by decide⟩
      | exact ⟨gq, by decide, by decide⟩
      | exact gq
      | (split <;> exact ⟨by decide, by decide⟩)
      | (have := (hA.2 l.toNat (by omega)).1; omega)
      | exact (hA.2 l.toNat (by omega)).2.1
      | (rw [f6, f7]; exact ⟨b4.1.fr fun j => hf _ _ (by decide), b4.2⟩)
      | exact ⟨⟨by omega, by omega⟩, by omega, by omega⟩
      | trivial) ?_
  intro r12 hr12
  refine And.intro (by
    first
      | omega
      | exact gP
      | exact ⟨by omega, by omega⟩
      | exact ⟨gl, ⟨by decide, by decide⟩, by omega, by omega⟩
      | exact ⟨gq, ⟨by decide, by decide⟩, by decide, by decide⟩
      | exact ⟨gq, by decide, by decide⟩
      | exact gq
      | (split <;> exact ⟨by decide, by decide⟩)
      | (have := (hA.2 l.toNat (by omega)).1; omega)
      | exact (hA.2 l.toNat (by omega)).2.1
      | (rw [f6, f7]; exact ⟨b4.1.fr fun j => hf _ _ (by decide), b4.2⟩)
      | exact ⟨⟨by omega, by omega⟩, by omega, by omega⟩
      | trivial) ?_
  refine ⟨?_, ?_⟩
  · intro c15
    rw [hr12] at c15
    rw [ab_bf] at c15
    clear hr12 r12
    first
      | exact gK _ _ ⟨M1, hM1, fun _ _ _ => rfl, fun _ => rfl, fun z => by omega⟩
      | exact gK _ _ ⟨M1, hM1, fun _ _ _ => rfl, fun z => by omega, fun _ => ⟨fun _ => rfl, fun z => by omega, fun z => by omega⟩⟩
      | (refine gK _ _ ⟨M1, hM1, fun _ _ _ => rfl, fun z => by omega, fun _ => ⟨fun z => by omega, fun _ => ?_, fun z => by omega⟩⟩
         unfold pa_any
         rw [show (((M1 814 l.toNat).toNat : Nat) : Int) = M1 814 l.toNat by have := (hA.2 l.toNat (by omega)).1; omega]
         exact hr56)
  · intro c15
    rw [hr12] at c15
    rw [ab_bt] at c15
    clear hr12 r12
    refine And.intro (by
      first
        | omega
        | exact gP
        | exact ⟨by omega, by omega⟩
        | exact ⟨gl, ⟨by decide, by decide⟩, by omega, by omega⟩
        | exact ⟨gq, ⟨by decide, by decide⟩, by decide, by decide⟩
        | exact ⟨gq, by decide, by decide⟩
        | exact gq
        | (split <;> exact ⟨by decide, by decide⟩)
        | (have := (hA.2 l.toNat (by omega)).1; omega)
        | exact (hA.2 l.toNat (by omega)).2.1
        | (rw [f6, f7]; exact ⟨b4.1.fr fun j => hf _ _ (by decide), b4.2⟩)
        | exact ⟨⟨by omega, by omega⟩, by omega, by omega⟩
        | trivial) ?_
    intro r21 hr21
    refine And.intro (by
      first
        | omega
        | exact gP
        | exact ⟨by omega, by omega⟩
        | exact ⟨gl, ⟨by decide, by decide⟩, by omega, by omega⟩
        | exact ⟨gq, ⟨by decide, by decide⟩, by decide, by decide⟩
        | exact ⟨gq, by decide, by decide⟩
        | exact gq
        | (split <;> exact ⟨by decide, by decide⟩)
        | (have := (hA.2 l.toNat (by omega)).1; omega)
        | exact (hA.2 l.toNat (by omega)).2.1
        | (rw [f6, f7]; exact ⟨b4.1.fr fun j => hf _ _ (by decide), b4.2⟩)
        | exact ⟨⟨by omega, by omega⟩, by omega, by omega⟩
        | trivial) ?_
    refine ⟨?_, ?_⟩
    · intro c24
      rw [hr21] at c24
      rw [ab_bt] at c24
      clear hr21 r21
      refine And.intro (by
        first
          | omega
          | exact gP
          | exact ⟨by omega, by omega⟩
          | exact ⟨gl, ⟨by decide, by decide⟩, by omega, by omega⟩
          | exact ⟨gq, ⟨by decide, by decide⟩, by decide, by decide⟩
          | exact ⟨gq, by decide, by decide⟩
          | exact gq
          | (split <;> exact ⟨by decide, by decide⟩)
          | (have := (hA.2 l.toNat (by omega)).1; omega)
          | exact (hA.2 l.toNat (by omega)).2.1
          | (rw [f6, f7]; exact ⟨b4.1.fr fun j => hf _ _ (by decide), b4.2⟩)
          | exact ⟨⟨by omega, by omega⟩, by omega, by omega⟩
          | trivial) ?_
      refine And.intro (by
        first
          | omega
          | exact gP
          | exact ⟨by omega, by omega⟩
          | exact ⟨gl, ⟨by decide, by decide⟩, by omega, by omega⟩
          | exact ⟨gq, ⟨by decide, by decide⟩, by decide, by decide⟩
          | exact ⟨gq, by decide, by decide⟩
          | exact gq
          | (split <;> exact ⟨by decide, by decide⟩)
          | (have := (hA.2 l.toNat (by omega)).1; omega)
          | exact (hA.2 l.toNat (by omega)).2.1
          | (rw [f6, f7]; exact ⟨b4.1.fr fun j => hf _ _ (by decide), b4.2⟩)
          | exact ⟨⟨by omega, by omega⟩, by omega, by omega⟩
          | trivial) ?_
      refine ⟨?_, ?_⟩
      · intro c38
        refine ⟨_, rfl, by decide, by decide, rfl, rfl, W2, M1, gK, hM1, hA, ⟨by omega, by omega⟩, by omega, rfl, fun _ _ _ => rfl, rfl⟩
      · intro c38
        refine And.intro (by
          first
            | omega
            | exact gP
            | exact ⟨by omega, by omega⟩
            | exact ⟨gl, ⟨by decide, by decide⟩, by omega, by omega⟩
            | exact ⟨gq, ⟨by decide, by decide⟩, by decide, by decide⟩
            | exact ⟨gq, by decide, by decide⟩
            | exact gq
            | (split <;> exact ⟨by decide, by decide⟩)
            | (have := (hA.2 l.toNat (by omega)).1; omega)
            | exact (hA.2 l.toNat (by omega)).2.1
            | (rw [f6, f7]; exact ⟨b4.1.fr fun j => hf _ _ (by decide), b4.2⟩)
            | exact ⟨⟨by omega, by omega⟩, by omega, by omega⟩
            | trivial) ?_
        refine ⟨?_, ?_⟩
        · intro c42
          refine And.intro (by
            first
              | omega
              | exact gP
              | exact ⟨by omega, by omega⟩
              | exact ⟨gl, ⟨by decide, by decide⟩, by omega, by omega⟩
              | exact ⟨gq, ⟨by decide, by decide⟩, by decide, by decide⟩
              | exact ⟨gq, by decide, by decide⟩
              | exact gq
              | (split <;> exact ⟨by decide, by decide⟩)
              | (have := (hA.2 l.toNat (by omega)).1; omega)
              | exact (hA.2 l.toNat (by omega)).2.1
              | (rw [f6, f7]; exact ⟨b4.1.fr fun j => hf _ _ (by decide), b4.2⟩)
              | exact ⟨⟨by omega, by omega⟩, by omega, by omega⟩
              | trivial) ?_
          intro r56 hr56
          first
            | exact gK _ _ ⟨M1, hM1, fun _ _ _ => rfl, fun _ => rfl, fun z => by omega⟩
            | exact gK _ _ ⟨M1, hM1, fun _ _ _ => rfl, fun z => by omega, fun _ => ⟨fun _ => rfl, fun z => by omega, fun z => by omega⟩⟩
            | (refine gK _ _ ⟨M1, hM1, fun _ _ _ => rfl, fun z => by omega, fun _ => ⟨fun z => by omega, fun _ => ?_, fun z => by omega⟩⟩
               unfold pa_any
               rw [show (((M1 814 l.toNat).toNat : Nat) : Int) = M1 814 l.toNat by have := (hA.2 l.toNat (by omega)).1; omega]
               exact hr56)
        · intro c42
          refine And.intro (by
            first
              | omega
              | exact gP
              | exact ⟨by omega, by omega⟩
              | exact ⟨gl, ⟨by decide, by decide⟩, by omega, by omega⟩
              | exact ⟨gq, ⟨by decide, by decide⟩, by decide, by decide⟩
              | exact ⟨gq, by decide, by decide⟩
              | exact gq
              | (split <;> exact ⟨by decide, by decide⟩)
              | (have := (hA.2 l.toNat (by omega)).1; omega)
              | exact (hA.2 l.toNat (by omega)).2.1
              | (rw [f6, f7]; exact ⟨b4.1.fr fun j => hf _ _ (by decide), b4.2⟩)
              | exact ⟨⟨by omega, by omega⟩, by omega, by omega⟩
              | trivial) ?_
          first
            | exact gK _ _ ⟨M1, hM1, fun _ _ _ => rfl, fun _ => rfl, fun z => by omega⟩
            | exact gK _ _ ⟨M1, hM1, fun _ _ _ => rfl, fun z => by omega, fun _ => ⟨fun _ => rfl, fun z => by omega, fun z => by omega⟩⟩
            | (refine gK _ _ ⟨M1, hM1, fun _ _ _ => rfl, fun z => by omega, fun _ => ⟨fun z => by omega, fun _ => ?_, fun z => by omega⟩⟩
               unfold pa_any
               rw [show (((M1 814 l.toNat).toNat : Nat) : Int) = M1 814 l.toNat by have := (hA.2 l.toNat (by omega)).1; omega]
               exact hr56)
    · intro c24
      rw [hr21] at c24
      rw [ab_bf] at c24
      clear hr21 r21
      first
        | exact gK _ _ ⟨M1, hM1, fun _ _ _ => rfl, fun _ => rfl, fun z => by omega⟩
        | exact gK _ _ ⟨M1, hM1, fun _ _ _ => rfl, fun z => by omega, fun _ => ⟨fun _ => rfl, fun z => by omega, fun z => by omega⟩⟩
        | (refine gK _ _ ⟨M1, hM1, fun _ _ _ => rfl, fun z => by omega, fun _ => ⟨fun z => by omega, fun _ => ?_, fun z => by omega⟩⟩
           unfold pa_any
           rw [show (((M1 814 l.toNat).toNat : Nat) : Int) = M1 814 l.toNat by have := (hA.2 l.toNat (by omega)).1; omega]
           exact hr56)

set_option maxRecDepth 20000 in
theorem vc_X9_loop_66 (l : Int) (q : Int) (M : ab_M) (K : List ab_V → ab_M → Prop) (hS : (∃ W2 : Nat → List Int, ((pz_PR M ∧ ab_ir l ∧ ab_ir q) ∧ ∀ N, pz_rdn M N → lo_A N W2) ∧ (∀ rx : Int, ∀ Mx : ab_M, (lo_P M Mx l q rx W2) → K [Xi rx] Mx))) (n : Nat) (l1 : Int) (q1 : Int) (e : Int) (cnt : Int) (s : Int) (M1 : ab_M) (hI : n = (256 - s).toNat ∧ 0 ≤ s ∧ s ≤ 256 ∧ l = l1 ∧ q = q1 ∧ ∃ W2 N, (∀ rx : Int, ∀ Mx : ab_M, lo_P M Mx l q rx W2 → K [Xi rx] Mx) ∧ pz_rdn M N ∧ lo_A N W2 ∧ (0 ≤ l ∧ l < N 797 21) ∧ q = 2 ∧ e = N 814 l.toNat ∧ (∀ o k : Nat, o ≠ 817 → M1 o k = N o k) ∧ cnt = ((gx_m (lo_f (W2 (N 814 l.toNat).toNat)) s.toNat : Nat) : Int)) : (-32768 ≤ (256 : Int) ∧ (256 : Int) < 32768) ∧ (ab_ir s ∧ ab_ir (256 : Int)) ∧ (((256 : Int) ≤ s → K [Xi cnt] M1) ∧ (s < (256 : Int) → (0 ≤ e ∧ e < ((400 : Nat) : Int)) ∧ (0 ≤ e ∧ e < ((400 : Nat) : Int)) ∧ (∃ w_91 : List Int, (vl_P M1 803 (M1 809 e.toNat) w_91 ∧ w_91.length ≤ 130 ∧ (M1 810 e.toNat) = ((w_91.length : Nat) : Int) ∧ (M1 809 e.toNat) + (M1 810 e.toNat) ≤ 640) ∧ (∀ r91 : Int, ∀ M91 : ab_M, (∀ o' k' : Nat, o' ≠ 817 → M91 o' k' = M1 o' k') → (r91 = pz_val s w_91 ∧ 0 ≤ r91 ∧ r91 ≤ 3) → (ab_ir r91) ∧ ((r91 = 0 → (∃ n', n' < n ∧ ((n' = (256 - (s + 1)).toNat ∧ 0 ≤ (s + 1) ∧ (s + 1) ≤ 256 ∧ l = l1 ∧ q = q1 ∧ ∃ W2 N, (∀ rx : Int, ∀ Mx : ab_M, lo_P M Mx l q rx W2 → K [Xi rx] Mx) ∧ pz_rdn M N ∧ lo_A N W2 ∧ (0 ≤ l ∧ l < N 797 21) ∧ q = 2 ∧ e = N 814 l.toNat ∧ (∀ o k : Nat, o ≠ 817 → M91 o k = N o k) ∧ (cnt + (0 : Int)) = ((gx_m (lo_f (W2 (N 814 l.toNat).toNat)) (s + 1).toNat : Nat) : Int))))) ∧ (¬ r91 = 0 → (∃ n', n' < n ∧ ((n' = (256 - (s + 1)).toNat ∧ 0 ≤ (s + 1) ∧ (s + 1) ≤ 256 ∧ l = l1 ∧ q = q1 ∧ ∃ W2 N, (∀ rx : Int, ∀ Mx : ab_M, lo_P M Mx l q rx W2 → K [Xi rx] Mx) ∧ pz_rdn M N ∧ lo_A N W2 ∧ (0 ≤ l ∧ l < N 797 21) ∧ q = 2 ∧ e = N 814 l.toNat ∧ (∀ o k : Nat, o ≠ 817 → M91 o k = N o k) ∧ (cnt + (1 : Int)) = ((gx_m (lo_f (W2 (N 814 l.toNat).toNat)) (s + 1).toNat : Nat) : Int)))))))))) := by
  obtain ⟨hn, hs0, hs1, q1', q2', W2, N, gK, hr, hA, hl, hq, he, hf, hcnt⟩ := hI
  clear hS
  subst q1'
  subst q2'
  subst he
  obtain ⟨⟨a1, a2⟩, a3⟩ := id hA
  obtain ⟨⟨b1, b2⟩, b3, b4⟩ := a3 l.toNat (by omega)
  have f6 : ∀ k, M1 809 k = N 809 k := fun k => hf _ _ (by decide)
  have f7 : ∀ k, M1 810 k = N 810 k := fun k => hf _ _ (by decide)
  have hbd := gx_m_bd (lo_f (W2 (N 814 l.toNat).toNat)) s.toNat
  refine And.intro (by
    first
      | omega
      | exact gP
      | exact ⟨by omega, by omega⟩
      | exact ⟨gl, ⟨by decide, by decide⟩, by omega, by omega⟩
      | exact ⟨gq, ⟨by decide, by decide⟩, by decide, by decide⟩
      | exact ⟨gq, by decide, by decide⟩
      | exact gq
      | (split <;> exact ⟨by decide, by decide⟩)
      | (have := (hA.2 l.toNat (by omega)).1; omega)
      | exact (hA.2 l.toNat (by omega)).2.1
      | (rw [f6, f7]; exact ⟨b4.1.fr fun j => hf _ _ (by decide), b4.2⟩)
      | exact ⟨⟨by omega, by omega⟩, by omega, by omega⟩
      | trivial) ?_
  refine And.intro (by
    first
      | omega
      | exact gP
      | exact ⟨by omega, by omega⟩
      | exact ⟨gl, ⟨by decide, by decide⟩, by omega, by omega⟩
      | exact ⟨gq, ⟨by decide, by decide⟩, by decide, by decide⟩
      | exact ⟨gq, by decide, by decide⟩
      | exact gq
      | (split <;> exact ⟨by decide, by decide⟩)
      | (have := (hA.2 l.toNat (by omega)).1; omega)
      | exact (hA.2 l.toNat (by omega)).2.1
      | (rw [f6, f7]; exact ⟨b4.1.fr fun j => hf _ _ (by decide), b4.2⟩)
      | exact ⟨⟨by omega, by omega⟩, by omega, by omega⟩
      | trivial) ?_
  refine ⟨?_, ?_⟩
  · intro c71
    rw [show s.toNat = 256 by omega] at hcnt
    exact gK _ _ ⟨N, hr, hf, fun z => absurd ⟨hl, by omega, by omega⟩ z, fun _ => ⟨fun z => by omega, fun z => by omega, fun _ => hcnt⟩⟩
  · intro c71
    refine And.intro (by
      first
        | omega
        | exact gP
        | exact ⟨by omega, by omega⟩
        | exact ⟨gl, ⟨by decide, by decide⟩, by omega, by omega⟩
        | exact ⟨gq, ⟨by decide, by decide⟩, by decide, by decide⟩
        | exact ⟨gq, by decide, by decide⟩
        | exact gq
        | (split <;> exact ⟨by decide, by decide⟩)
        | (have := (hA.2 l.toNat (by omega)).1; omega)
        | exact (hA.2 l.toNat (by omega)).2.1
        | (rw [f6, f7]; exact ⟨b4.1.fr fun j => hf _ _ (by decide), b4.2⟩)
        | exact ⟨⟨by omega, by omega⟩, by omega, by omega⟩
        | trivial) ?_
    refine And.intro (by
      first
        | omega
        | exact gP
        | exact ⟨by omega, by omega⟩
        | exact ⟨gl, ⟨by decide, by decide⟩, by omega, by omega⟩
        | exact ⟨gq, ⟨by decide, by decide⟩, by decide, by decide⟩
        | exact ⟨gq, by decide, by decide⟩
        | exact gq
        | (split <;> exact ⟨by decide, by decide⟩)
        | (have := (hA.2 l.toNat (by omega)).1; omega)
        | exact (hA.2 l.toNat (by omega)).2.1
        | (rw [f6, f7]; exact ⟨b4.1.fr fun j => hf _ _ (by decide), b4.2⟩)
        | exact ⟨⟨by omega, by omega⟩, by omega, by omega⟩
        | trivial) ?_
    refine Exists.intro ((W2 (N 814 l.toNat).toNat)) <| ?_
    refine And.intro (by
      first
        | omega
        | exact gP
        | exact ⟨by omega, by omega⟩
        | exact ⟨gl, ⟨by decide, by decide⟩, by omega, by omega⟩
        | exact ⟨gq, ⟨by decide, by decide⟩, by decide, by decide⟩
        | exact ⟨gq, by decide, by decide⟩
        | exact gq
        | (split <;> exact ⟨by decide, by decide⟩)
        | (have := (hA.2 l.toNat (by omega)).1; omega)
        | exact (hA.2 l.toNat (by omega)).2.1
        | (rw [f6, f7]; exact ⟨b4.1.fr fun j => hf _ _ (by decide), b4.2⟩)
        | exact ⟨⟨by omega, by omega⟩, by omega, by omega⟩
        | trivial) ?_
    intro r91 M91 hM91 hr91
    refine And.intro (by
      first
        | omega
        | exact gP
        | exact ⟨by omega, by omega⟩
        | exact ⟨gl, ⟨by decide, by decide⟩, by omega, by omega⟩
        | exact ⟨gq, ⟨by decide, by decide⟩, by decide, by decide⟩
        | exact ⟨gq, by decide, by decide⟩
        | exact gq
        | (split <;> exact ⟨by decide, by decide⟩)
        | (have := (hA.2 l.toNat (by omega)).1; omega)
        | exact (hA.2 l.toNat (by omega)).2.1
        | (rw [f6, f7]; exact ⟨b4.1.fr fun j => hf _ _ (by decide), b4.2⟩)
        | exact ⟨⟨by omega, by omega⟩, by omega, by omega⟩
        | trivial) ?_
    refine ⟨?_, ?_⟩
    · intro c94
      have hk1' : (s + 1).toNat = s.toNat + 1 := by omega
      have hcn : gx_m (lo_f (W2 (N 814 l.toNat).toNat)) (s.toNat + 1) = gx_m (lo_f (W2 (N 814 l.toNat).toNat)) s.toNat + (if lo_f (W2 (N 814 l.toNat).toNat) s.toNat = true then 1 else 0) := rfl
      have hv := hr91.1
      rw [show s = ((s.toNat : Nat) : Int) by omega] at hv
      rw [if_neg (show ¬ lo_f (W2 (N 814 l.toNat).toNat) s.toNat = true from fun z => of_decide_eq_true z (by rw [← hv]; assumption))] at hcn
      refine ⟨_, ?_, rfl, by omega, by omega, rfl, rfl, W2, N, gK, hr, hA, hl, hq, rfl, fun o k z => (hM91 o k z).trans (hf o k z), ?_⟩
      · omega
      rw [hk1', hcn]
      omega
    · intro c94
      have hk1' : (s + 1).toNat = s.toNat + 1 := by omega
      have hcn : gx_m (lo_f (W2 (N 814 l.toNat).toNat)) (s.toNat + 1) = gx_m (lo_f (W2 (N 814 l.toNat).toNat)) s.toNat + (if lo_f (W2 (N 814 l.toNat).toNat) s.toNat = true then 1 else 0) := rfl
      have hv := hr91.1
      rw [show s = ((s.toNat : Nat) : Int) by omega] at hv
      rw [if_pos (show lo_f (W2 (N 814 l.toNat).toNat) s.toNat = true from decide_eq_true (fun z => by rw [← hv] at z; contradiction))] at hcn
      refine ⟨_, ?_, rfl, by omega, by omega, rfl, rfl, W2, N, gK, hr, hA, hl, hq, rfl, fun o k z => (hM91 o k z).trans (hf o k z), ?_⟩
      · omega
      rw [hk1', hcn]
      omega

set_option maxRecDepth 20000 in
set_option maxHeartbeats 1000000 in
theorem ok_X9_loop (E : ab_E) : ab_Ok E 8 161 S_X9_loop := by
  refine ab_mk rq_X9_loop tk_X9_loop (rt := 1) (rfl) (cuts := [66]) (G := [(119, S_X9_anyOf), (145, S_X9_in), (170, S_X9_read), (189, S_X9_valueOf)]) (List.forall_mem_cons.mpr ⟨⟨1, by decide, ok_X9_anyOf E⟩, List.forall_mem_cons.mpr ⟨⟨1, by decide, ok_X9_in E⟩, List.forall_mem_cons.mpr ⟨⟨7, by decide, ok_X9_read E⟩, List.forall_mem_cons.mpr ⟨⟨3, by decide, ok_X9_valueOf E⟩, fun _ h => absurd h List.not_mem_nil⟩⟩⟩⟩) (by decide) 115 rfl ?_
  intro a M K wd wa hS
  unfold S_X9_loop at hS
  split at hS
  ·
    rename_i l q
    refine ⟨Nat.le_of_ble_eq_true rfl, fun pc n L st M1 => match pc, L, st with
      | 66, [.inr (.inr (.inr (797, 9, 0))), .inr (.inl l1), .inr (.inl q1), .inr (.inl e), .inr (.inl cnt), .inr (.inl s)], [] => (n = (256 - s).toNat ∧ 0 ≤ s ∧ s ≤ 256 ∧ l = l1 ∧ q = q1 ∧ ∃ W2 N, (∀ rx : Int, ∀ Mx : ab_M, lo_P M Mx l q rx W2 → K [Xi rx] Mx) ∧ pz_rdn M N ∧ lo_A N W2 ∧ (0 ≤ l ∧ l < N 797 21) ∧ q = 2 ∧ e = N 814 l.toNat ∧ (∀ o k : Nat, o ≠ 817 → M1 o k = N o k) ∧ cnt = ((gx_m (lo_f (W2 (N 814 l.toNat).toNat)) s.toNat : Nat) : Int))
      | _, _, _ => False, ?_, ?_⟩
    · exact vc_X9_loop_0 l q M K  hS
    · intro pc n L st M1 hI wd1 wL wst
      (try dsimp only at hI)
      split at hI
      ·
        rename_i l1 q1 e cnt s
        exact vc_X9_loop_66 l q M K  hS n l1 q1 e cnt s _ hI
      · exact hI.elim
  · exact hS.elim
