/-! the places that a head leads to -/
theorem pz_tw_nat {b : Int} (h0 : 0 ≤ b) (h1 : b ≤ 255) : (Int32.ofInt b).toBitVec.toNat = b.toNat := by
  rw [Int32.toBitVec_ofInt, BitVec.toNat_ofInt]
  omega
theorem pz_and_r (x : Int) {b : Int} (h0 : 0 ≤ b) (h1 : b ≤ 255) : 0 ≤ ab_and x b ∧ ab_and x b ≤ b := by
  unfold ab_and
  have hle := Nat.and_le_right (n := (Int32.ofInt x).toBitVec.toNat) (m := (Int32.ofInt b).toBitVec.toNat)
  have e3 := pz_tw_nat h0 h1
  have e : (Int32.ofInt x &&& Int32.ofInt b).toInt = (((Int32.ofInt x).toBitVec.toNat &&& (Int32.ofInt b).toBitVec.toNat : Nat) : Int) := by
    rw [← Int32.toInt_toBitVec, Int32.toBitVec_and, BitVec.toInt_eq_toNat_of_lt, BitVec.toNat_and]
    rw [BitVec.toNat_and]
    omega
  rw [e]
  omega
theorem pz_or_r {a b : Int} (h0 : 0 ≤ a) (h1 : a ≤ 255) (g0 : 0 ≤ b) (g1 : b ≤ 255) : 0 ≤ ab_or a b ∧ ab_or a b ≤ 255 := by
  unfold ab_or
  have e1 := pz_tw_nat h0 h1
  have e2 := pz_tw_nat g0 g1
  have hlt : (Int32.ofInt a).toBitVec.toNat ||| (Int32.ofInt b).toBitVec.toNat < 2 ^ 8 := Nat.or_lt_two_pow (by omega) (by omega)
  have e : (Int32.ofInt a ||| Int32.ofInt b).toInt = (((Int32.ofInt a).toBitVec.toNat ||| (Int32.ofInt b).toBitVec.toNat : Nat) : Int) := by
    rw [← Int32.toInt_toBitVec, Int32.toBitVec_or, BitVec.toInt_eq_toNat_of_lt, BitVec.toNat_or]
    rw [BitVec.toNat_or]
    omega
  rw [e]
  omega
/-- what a loop's head leads to in one state -/
def pl_h1 (M : ab_M) (s : Nat) (th : Int) (L : List Int) : List Int := if tv M (M s 3) th = 0 then L else pl_ad (if tv M (M s 2) th = 0 then M s 18 else M s 17) th L
def pl_hs (M : ab_M) (s : Nat) (zz : Int) : Nat → Int → List Int → List Int
  | 0, _, L => L
  | n + 1, part, L => if ab_and (part - M s 7) (M s 7) = 0 then pl_h1 M s (ab_or zz part) L else pl_hs M s zz n (ab_and (part - M s 7) (M s 7)) (pl_h1 M s (ab_or zz part) L)
def pl_head (M : ab_M) (s : Nat) (zz : Int) (L : List Int) : List Int := if ab_and zz (M s 7) = 0 then pl_hs M s zz 256 0 L else L

def S_X5_ofHead : ab_PT := fun a M K => match a with
  | [.inr (.inr (.inr (772, 5, 0))), .inr (.inr (.inr (s, 4, nn))), .inr (.inl zz)] => (∃ L : List Int, (((ts_L M L ∧ tv_ok M) ∧ ts_s M s ∧ 0 ≤ zz ∧ zz ≤ 255)) ∧ (∀ Mx : ab_M, (ts_L Mx (pl_head M s zz L) ∧ ts_f M Mx) → K [] Mx))
  | _ => False
set_option maxRecDepth 20000 in
theorem vc_X5_ofHead_0 (s : Nat) (nn : Nat) (zz : Int) (M : ab_M) (K : List ab_V → ab_M → Prop) (hS : (∃ L : List Int, (((ts_L M L ∧ tv_ok M) ∧ ts_s M s ∧ 0 ≤ zz ∧ zz ≤ 255)) ∧ (∀ Mx : ab_M, (ts_L Mx (pl_head M s zz L) ∧ ts_f M Mx) → K [] Mx))) : (ab_ir (ab_and zz (M s 7))) ∧ (((ab_and zz (M s 7)) = 0 → (∃ n', (s = s ∧ nn = nn ∧ (n' = (256 - (0 : Int)).toNat ∧ zz = zz ∧ M s 7 = (M s 7) ∧ 0 ≤ (0 : Int) ∧ (0 : Int) ≤ 256 ∧ 0 ≤ (0 : Int) ∧ (0 : Int) ≤ 255 ∧ ab_and zz (M s 7) = 0 ∧ ts_f M M ∧ ∀ L : List Int, ts_L M L → ∃ L1 : List Int, ts_L M L1 ∧ pl_hs M s zz (256 - (0 : Int)).toNat (0 : Int) L1 = pl_hs M s zz 256 0 L)))) ∧ (¬ (ab_and zz (M s 7)) = 0 → K [] M)) := by
  obtain ⟨L, ⟨⟨gL, gv⟩, gs, gt1, gt2⟩, gK⟩ := hS
  have gs2 := id gs
  obtain ⟨s1, s2, s3, s4, s5, s6, s7, s8, s9, s10, s11⟩ := gs2
  have hpr := pz_and_r zz s10.1 s10.2
  refine And.intro (by
    first
      | exact hv1
      | exact hIL
      | omega
      | exact s7
      | exact s8
      | exact trivial
      | exact ⟨by omega, by omega⟩
      | exact ⟨⟨by omega, by omega⟩, hv1⟩
      | exact ⟨s7, hIL⟩
      | exact ⟨s8, hIL⟩
      | (split <;> exact ⟨by decide, by decide⟩)
      | exact ⟨⟨by omega, by omega⟩, by omega, by omega⟩) ?_
  refine ⟨?_, ?_⟩
  · intro c8
    exact ⟨_, rfl, rfl, rfl, rfl, rfl, by decide, by decide, by decide, by decide, by assumption, ts_f.rf M, fun L h => ⟨L, h, rfl⟩⟩
  · intro c8
    unfold pl_head at gK
    rw [if_neg (by assumption)] at gK
    exact gK _ ⟨gL, ts_f.rf M⟩

set_option maxRecDepth 20000 in
theorem vc_X5_ofHead_18 (s : Nat) (nn : Nat) (zz : Int) (M : ab_M) (K : List ab_V → ab_M → Prop) (hS : (∃ L : List Int, (((ts_L M L ∧ tv_ok M) ∧ ts_s M s ∧ 0 ≤ zz ∧ zz ≤ 255)) ∧ (∀ Mx : ab_M, (ts_L Mx (pl_head M s zz L) ∧ ts_f M Mx) → K [] Mx))) (n : Nat) (t1 : Int) (b1 : Int) (part : Int) (k : Int) (M1 : ab_M) (hI : n = (256 - k).toNat ∧ zz = t1 ∧ M s 7 = b1 ∧ 0 ≤ k ∧ k ≤ 256 ∧ 0 ≤ part ∧ part ≤ 255 ∧ ab_and zz (M s 7) = 0 ∧ ts_f M M1 ∧ ∀ L : List Int, ts_L M L → ∃ L1 : List Int, ts_L M1 L1 ∧ pl_hs M s zz (256 - k).toNat part L1 = pl_hs M s zz 256 0 L) : (-32768 ≤ (256 : Int) ∧ (256 : Int) < 32768) ∧ (ab_ir k ∧ ab_ir (256 : Int)) ∧ (((256 : Int) ≤ k → K [] M1) ∧ (k < (256 : Int) → (ab_ir ((M1 s 3) * 256 + (ab_or t1 part)) ∧ tv_ok M1) ∧ (∀ r42 : Int, (r42 = if ¬ tv M1 (M1 s 3) (ab_or t1 part) = 0 then 1 else 0) → (ab_ir r42) ∧ ((r42 = 0 → (ab_ir (ab_and (part - b1) b1)) ∧ ((¬ (ab_and (part - b1) b1) = 0 → (∃ n', n' < n ∧ (s = s ∧ nn = nn ∧ (n' = (256 - (k + 1)).toNat ∧ zz = t1 ∧ M s 7 = b1 ∧ 0 ≤ (k + 1) ∧ (k + 1) ≤ 256 ∧ 0 ≤ (ab_and (part - b1) b1) ∧ (ab_and (part - b1) b1) ≤ 255 ∧ ab_and zz (M s 7) = 0 ∧ ts_f M M1 ∧ ∀ L : List Int, ts_L M L → ∃ L1 : List Int, ts_L M1 L1 ∧ pl_hs M s zz (256 - (k + 1)).toNat (ab_and (part - b1) b1) L1 = pl_hs M s zz 256 0 L)))) ∧ ((ab_and (part - b1) b1) = 0 → K [] M1))) ∧ (¬ r42 = 0 → (ab_ir ((M1 s 2) * 256 + (ab_or t1 part)) ∧ tv_ok M1) ∧ (∀ r59 : Int, (r59 = if ¬ tv M1 (M1 s 2) (ab_or t1 part) = 0 then 1 else 0) → (ab_ir r59) ∧ ((r59 = 0 → (∃ L_78 : List Int, (ab_ir (M1 s 18) ∧ ts_L M1 L_78) ∧ (∀ M78 : ab_M, (ts_L M78 (pl_ad (M1 s 18) (ab_or t1 part) L_78) ∧ ts_f M1 M78) → (ab_ir (ab_and (part - b1) b1)) ∧ ((¬ (ab_and (part - b1) b1) = 0 → (∃ n', n' < n ∧ (s = s ∧ nn = nn ∧ (n' = (256 - (k + 1)).toNat ∧ zz = t1 ∧ M s 7 = b1 ∧ 0 ≤ (k + 1) ∧ (k + 1) ≤ 256 ∧ 0 ≤ (ab_and (part - b1) b1) ∧ (ab_and (part - b1) b1) ≤ 255 ∧ ab_and zz (M s 7) = 0 ∧ ts_f M M78 ∧ ∀ L : List Int, ts_L M L → ∃ L1 : List Int, ts_L M78 L1 ∧ pl_hs M s zz (256 - (k + 1)).toNat (ab_and (part - b1) b1) L1 = pl_hs M s zz 256 0 L)))) ∧ ((ab_and (part - b1) b1) = 0 → K [] M78))))) ∧ (¬ r59 = 0 → (∃ L_78 : List Int, (ab_ir (M1 s 17) ∧ ts_L M1 L_78) ∧ (∀ M78 : ab_M, (ts_L M78 (pl_ad (M1 s 17) (ab_or t1 part) L_78) ∧ ts_f M1 M78) → (ab_ir (ab_and (part - b1) b1)) ∧ ((¬ (ab_and (part - b1) b1) = 0 → (∃ n', n' < n ∧ (s = s ∧ nn = nn ∧ (n' = (256 - (k + 1)).toNat ∧ zz = t1 ∧ M s 7 = b1 ∧ 0 ≤ (k + 1) ∧ (k + 1) ≤ 256 ∧ 0 ≤ (ab_and (part - b1) b1) ∧ (ab_and (part - b1) b1) ≤ 255 ∧ ab_and zz (M s 7) = 0 ∧ ts_f M M78 ∧ ∀ L : List Int, ts_L M L → ∃ L1 : List Int, ts_L M78 L1 ∧ pl_hs M s zz (256 - (k + 1)).toNat (ab_and (part - b1) b1) L1 = pl_hs M s zz 256 0 L)))) ∧ ((ab_and (part - b1) b1) = 0 → K [] M78)))))))))))) := by
  obtain ⟨hn, q1, q2, hk0, hk4, hp0, hp1, hz, hf, hI⟩ := hI
  subst q1
  subst q2
  obtain ⟨L, ⟨⟨gL, gv⟩, gs, gt1, gt2⟩, gK⟩ := hS
  have gs2 := id gs
  obtain ⟨s1, s2, s3, s4, s5, s6, s7, s8, s9, s10, s11⟩ := gs2
  obtain ⟨L1, hIL, hE⟩ := hI L gL
  clear hI
  have hs : ∀ j, M1 s j = M s j := hf.s gs
  have hv1 := ts_f_ok hf gv
  have hor := pz_or_r gt1 gt2 hp0 hp1
  have hpr := pz_and_r (part - M s 7) s10.1 s10.2
  have hb := s10
  unfold pl_head at gK
  rw [if_pos hz] at gK
  generalize hFF : pl_hs M s zz 256 0 L = FF at hE gK
  generalize hth : ab_or zz part = th at *
  simp only [hs, ts_f_tv hf]
  refine And.intro (by
    first
      | exact hv1
      | exact hIL
      | omega
      | exact s7
      | exact s8
      | exact trivial
      | exact ⟨by omega, by omega⟩
      | exact ⟨⟨by omega, by omega⟩, hv1⟩
      | exact ⟨s7, hIL⟩
      | exact ⟨s8, hIL⟩
      | (split <;> exact ⟨by decide, by decide⟩)
      | exact ⟨⟨by omega, by omega⟩, by omega, by omega⟩) ?_
  refine And.intro (by
    first
      | exact hv1
      | exact hIL
      | omega
      | exact s7
      | exact s8
      | exact trivial
      | exact ⟨by omega, by omega⟩
      | exact ⟨⟨by omega, by omega⟩, hv1⟩
      | exact ⟨s7, hIL⟩
      | exact ⟨s8, hIL⟩
      | (split <;> exact ⟨by decide, by decide⟩)
      | exact ⟨⟨by omega, by omega⟩, by omega, by omega⟩) ?_
  refine ⟨?_, ?_⟩
  · intro c23
    rw [show (256 - k).toNat = 0 by omega] at hE
    unfold pl_hs at hE
    rw [← hE] at gK
    exact gK _ ⟨hIL, hf⟩
  · intro c23
    refine And.intro (by
      first
        | exact hv1
        | exact hIL
        | omega
        | exact s7
        | exact s8
        | exact trivial
        | exact ⟨by omega, by omega⟩
        | exact ⟨⟨by omega, by omega⟩, hv1⟩
        | exact ⟨s7, hIL⟩
        | exact ⟨s8, hIL⟩
        | (split <;> exact ⟨by decide, by decide⟩)
        | exact ⟨⟨by omega, by omega⟩, by omega, by omega⟩) ?_
    intro r42 hr42
    refine And.intro (by
      first
        | exact hv1
        | exact hIL
        | omega
        | exact s7
        | exact s8
        | exact trivial
        | exact ⟨by omega, by omega⟩
        | exact ⟨⟨by omega, by omega⟩, hv1⟩
        | exact ⟨s7, hIL⟩
        | exact ⟨s8, hIL⟩
        | (split <;> exact ⟨by decide, by decide⟩)
        | exact ⟨⟨by omega, by omega⟩, by omega, by omega⟩) ?_
    refine ⟨?_, ?_⟩
    · intro c45
      rw [hr42] at c45
      rw [ab_bf] at c45
      clear hr42 r42
      refine And.intro (by
        first
          | exact hv1
          | exact hIL
          | omega
          | exact s7
          | exact s8
          | exact trivial
          | exact ⟨by omega, by omega⟩
          | exact ⟨⟨by omega, by omega⟩, hv1⟩
          | exact ⟨s7, hIL⟩
          | exact ⟨s8, hIL⟩
          | (split <;> exact ⟨by decide, by decide⟩)
          | exact ⟨⟨by omega, by omega⟩, by omega, by omega⟩) ?_
      refine ⟨?_, ?_⟩
      · intro c91
        rw [show (256 - k).toNat = (256 - (k + 1)).toNat + 1 by omega] at hE
        unfold pl_hs at hE
        rw [if_neg (by assumption), hth] at hE
        unfold pl_h1 at hE
        first
          | (rw [if_neg (by assumption)] at hE
             refine ⟨_, ?_, by trivial, by trivial, rfl, by trivial, by trivial, by omega, by omega, by omega, by omega, hz, hf.trans hM78.2, fun L' h' => ?_⟩
             · omega
             have eu := gL.uq h'
             subst eu
             refine ⟨_, hM78.1, ?_⟩
             first
               | (rw [if_neg (by assumption)] at hE; exact hE.trans hFF.symm)
               | (rw [if_pos (Decidable.not_not.1 (by assumption))] at hE; exact hE.trans hFF.symm))
          | (rw [if_pos (Decidable.not_not.1 (by assumption))] at hE
             refine ⟨_, ?_, by trivial, by trivial, rfl, by trivial, by trivial, by omega, by omega, by omega, by omega, hz, hf, fun L' h' => ?_⟩
             · omega
             have eu := gL.uq h'
             subst eu
             exact ⟨_, hIL, hE.trans hFF.symm⟩)
      · intro c91
        rw [show (256 - k).toNat = (256 - (k + 1)).toNat + 1 by omega] at hE
        unfold pl_hs at hE
        rw [if_pos (by assumption), hth] at hE
        unfold pl_h1 at hE
        rw [← hE] at gK
        first
          | (rw [if_neg (by assumption)] at gK
             first
               | (rw [if_neg (by assumption)] at gK; exact gK _ ⟨hM78.1, hf.trans hM78.2⟩)
               | (rw [if_pos (Decidable.not_not.1 (by assumption))] at gK; exact gK _ ⟨hM78.1, hf.trans hM78.2⟩))
          | (rw [if_pos (Decidable.not_not.1 (by assumption))] at gK
             exact gK _ ⟨hIL, hf⟩)
    · intro c45
      rw [hr42] at c45
      rw [ab_bt] at c45
      clear hr42 r42
      refine And.intro (by
        first
          | exact hv1
          | exact hIL
          | omega
          | exact s7
          | exact s8
          | exact trivial
          | exact ⟨by omega, by omega⟩
          | exact ⟨⟨by omega, by omega⟩, hv1⟩
          | exact ⟨s7, hIL⟩
          | exact ⟨s8, hIL⟩
          | (split <;> exact ⟨by decide, by decide⟩)
          | exact ⟨⟨by omega, by omega⟩, by omega, by omega⟩) ?_
      intro r59 hr59
      refine And.intro (by
        first
          | exact hv1
          | exact hIL
          | omega
          | exact s7
          | exact s8
          | exact trivial
          | exact ⟨by omega, by omega⟩
          | exact ⟨⟨by omega, by omega⟩, hv1⟩
          | exact ⟨s7, hIL⟩
          | exact ⟨s8, hIL⟩
          | (split <;> exact ⟨by decide, by decide⟩)
          | exact ⟨⟨by omega, by omega⟩, by omega, by omega⟩) ?_
      refine ⟨?_, ?_⟩
      · intro c62
        rw [hr59] at c62
        rw [ab_bf] at c62
        clear hr59 r59
        refine Exists.intro (L1) <| ?_
        refine And.intro (by
          first
            | exact hv1
            | exact hIL
            | omega
            | exact s7
            | exact s8
            | exact trivial
            | exact ⟨by omega, by omega⟩
            | exact ⟨⟨by omega, by omega⟩, hv1⟩
            | exact ⟨s7, hIL⟩
            | exact ⟨s8, hIL⟩
            | (split <;> exact ⟨by decide, by decide⟩)
            | exact ⟨⟨by omega, by omega⟩, by omega, by omega⟩) ?_
        intro M78 hM78
        refine And.intro (by
          first
            | exact hv1
            | exact hIL
            | omega
            | exact s7
            | exact s8
            | exact trivial
            | exact ⟨by omega, by omega⟩
            | exact ⟨⟨by omega, by omega⟩, hv1⟩
            | exact ⟨s7, hIL⟩
            | exact ⟨s8, hIL⟩
            | (split <;> exact ⟨by decide, by decide⟩)
            | exact ⟨⟨by omega, by omega⟩, by omega, by omega⟩) ?_
        refine ⟨?_, ?_⟩
        · intro c91
          rw [show (256 - k).toNat = (256 - (k + 1)).toNat + 1 by omega] at hE
          unfold pl_hs at hE
          rw [if_neg (by assumption), hth] at hE
          unfold pl_h1 at hE
          first
            | (rw [if_neg (by assumption)] at hE
               refine ⟨_, ?_, by trivial, by trivial, rfl, by trivial, by trivial, by omega, by omega, by omega, by omega, hz, hf.trans hM78.2, fun L' h' => ?_⟩
               · omega
               have eu := gL.uq h'
               subst eu
               refine ⟨_, hM78.1, ?_⟩
               first
                 | (rw [if_neg (by assumption)] at hE; exact hE.trans hFF.symm)
                 | (rw [if_pos (Decidable.not_not.1 (by assumption))] at hE; exact hE.trans hFF.symm))
            | (rw [if_pos (Decidable.not_not.1 (by assumption))] at hE
               refine ⟨_, ?_, by trivial, by trivial, rfl, by trivial, by trivial, by omega, by omega, by omega, by omega, hz, hf, fun L' h' => ?_⟩
               · omega
               have eu := gL.uq h'
               subst eu
               exact ⟨_, hIL, hE.trans hFF.symm⟩)
        · intro c91
          rw [show (256 - k).toNat = (256 - (k + 1)).toNat + 1 by omega] at hE
          unfold pl_hs at hE
          rw [if_pos (by assumption), hth] at hE
          unfold pl_h1 at hE
          rw [← hE] at gK
          first
            | (rw [if_neg (by assumption)] at gK
               first
                 | (rw [if_neg (by assumption)] at gK; exact gK _ ⟨hM78.1, hf.trans hM78.2⟩)
                 | (rw [if_pos (Decidable.not_not.1 (by assumption))] at gK; exact gK _ ⟨hM78.1, hf.trans hM78.2⟩))
            | (rw [if_pos (Decidable.not_not.1 (by assumption))] at gK
               exact gK _ ⟨hIL, hf⟩)
      · intro c62
        rw [hr59] at c62
        rw [ab_bt] at c62
        clear hr59 r59
        refine Exists.intro (L1) <| ?_
        refine And.intro (by
          first
            | exact hv1
            | exact hIL
            | omega
            | exact s7
            | exact s8
            | exact trivial
            | exact ⟨by omega, by omega⟩
            | exact ⟨⟨by omega, by omega⟩, hv1⟩
            | exact ⟨s7, hIL⟩
            | exact ⟨s8, hIL⟩
            | (split <;> exact ⟨by decide, by decide⟩)
            | exact ⟨⟨by omega, by omega⟩, by omega, by omega⟩) ?_
        intro M78 hM78
        refine And.intro (by
          first
            | exact hv1
            | exact hIL
            | omega
            | exact s7
            | exact s8
            | exact trivial
            | exact ⟨by omega, by omega⟩
            | exact ⟨⟨by omega, by omega⟩, hv1⟩
            | exact ⟨s7, hIL⟩
            | exact ⟨s8, hIL⟩
            | (split <;> exact ⟨by decide, by decide⟩)
            | exact ⟨⟨by omega, by omega⟩, by omega, by omega⟩) ?_
        refine ⟨?_, ?_⟩
        · intro c91
          rw [show (256 - k).toNat = (256 - (k + 1)).toNat + 1 by omega] at hE
          unfold pl_hs at hE
          rw [if_neg (by assumption), hth] at hE
          unfold pl_h1 at hE
          first
            | (rw [if_neg (by assumption)] at hE
               refine ⟨_, ?_, by trivial, by trivial, rfl, by trivial, by trivial, by omega, by omega, by omega, by omega, hz, hf.trans hM78.2, fun L' h' => ?_⟩
               · omega
               have eu := gL.uq h'
               subst eu
               refine ⟨_, hM78.1, ?_⟩
               first
                 | (rw [if_neg (by assumption)] at hE; exact hE.trans hFF.symm)
                 | (rw [if_pos (Decidable.not_not.1 (by assumption))] at hE; exact hE.trans hFF.symm))
            | (rw [if_pos (Decidable.not_not.1 (by assumption))] at hE
               refine ⟨_, ?_, by trivial, by trivial, rfl, by trivial, by trivial, by omega, by omega, by omega, by omega, hz, hf, fun L' h' => ?_⟩
               · omega
               have eu := gL.uq h'
               subst eu
               exact ⟨_, hIL, hE.trans hFF.symm⟩)
        · intro c91
          rw [show (256 - k).toNat = (256 - (k + 1)).toNat + 1 by omega] at hE
          unfold pl_hs at hE
          rw [if_pos (by assumption), hth] at hE
          unfold pl_h1 at hE
          rw [← hE] at gK
          first
            | (rw [if_neg (by assumption)] at gK
               first
                 | (rw [if_neg (by assumption)] at gK; exact gK _ ⟨hM78.1, hf.trans hM78.2⟩)
                 | (rw [if_pos (Decidable.not_not.1 (by assumption))] at gK; exact gK _ ⟨hM78.1, hf.trans hM78.2⟩))
            | (rw [if_pos (Decidable.not_not.1 (by assumption))] at gK
               exact gK _ ⟨hIL, hf⟩)

set_option maxRecDepth 20000 in
set_option maxHeartbeats 1000000 in
theorem ok_X5_ofHead (E : ab_E) : ab_Ok E 2 64 S_X5_ofHead := by
  refine ab_mk rq_X5_ofHead tk_X5_ofHead (rt := 0) (rfl) (cuts := [18]) (G := [(59, S_X5_add), (75, S_X7_isTrue)]) (List.forall_mem_cons.mpr ⟨⟨1, by decide, ok_X5_add E⟩, List.forall_mem_cons.mpr ⟨⟨1, by decide, ok_X7_isTrue E⟩, fun _ h => absurd h List.not_mem_nil⟩⟩) (by decide) 103 rfl ?_
  intro a M K wd wa hS
  unfold S_X5_ofHead at hS
  split at hS
  ·
    rename_i s nn zz
    refine ⟨Nat.le_of_ble_eq_true rfl, fun pc n L st M1 => match pc, L, st with
      | 18, [.inr (.inr (.inr (772, 5, 0))), .inr (.inr (.inr (s_, 4, nn_))), .inr (.inl t1), .inr (.inl b1), .inr (.inl part), .inr (.inl k), u7_], [] => s_ = s ∧ nn_ = nn ∧ (n = (256 - k).toNat ∧ zz = t1 ∧ M s 7 = b1 ∧ 0 ≤ k ∧ k ≤ 256 ∧ 0 ≤ part ∧ part ≤ 255 ∧ ab_and zz (M s 7) = 0 ∧ ts_f M M1 ∧ ∀ L : List Int, ts_L M L → ∃ L1 : List Int, ts_L M1 L1 ∧ pl_hs M s zz (256 - k).toNat part L1 = pl_hs M s zz 256 0 L)
      | _, _, _ => False, ?_, ?_⟩
    · exact vc_X5_ofHead_0 s nn zz M K  hS
    · intro pc n L st M1 hI wd1 wL wst
      (try dsimp only at hI)
      split at hI
      ·
        rename_i s_ nn_ t1 b1 part k u7_
        obtain ⟨e0_, e1_, hI⟩ := hI
        have e0_ := e0_.symm
        subst e0_
        have e1_ := e1_.symm
        subst e1_
        exact vc_X5_ofHead_18 s nn zz M K  hS n t1 b1 part k _ hI
      · exact hI.elim
  · exact hS.elim
