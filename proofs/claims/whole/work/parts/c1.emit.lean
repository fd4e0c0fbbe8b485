/-! the reference writes a row of code -/
/-- the values of a term that may be wanting -/
def em_w (M : ab_M) (be nn : Int) (w : List Int) : Prop := nn ≤ 0 ∨ (vl_P M 803 be w ∧ w.length ≤ 130 ∧ nn = ((w.length : Nat) : Int) ∧ be + nn ≤ 640)
/-- a row of code is written -/
def em_r (M M' : ab_M) (r : Nat) (op q nn : Int) (w : List Int) (k : Nat) : Prop := M' 818 r = op ∧ M' 819 r = q ∧ M' 820 r = 0 ∧ M' 821 r = -9 ∧ (0 < nn → ∀ s : Nat, s < k → M' 822 (256 * r + s) = pz_val ((s : Nat) : Int) w) ∧
  ∀ o j : Nat, ¬ (o = 797 ∧ j = 33) → ¬ (818 ≤ o ∧ o ≤ 821 ∧ j = r) → ¬ (o = 822 ∧ 256 * r ≤ j ∧ j < 256 * r + 256) → o ≠ 817 → M' o j = M o j
def em_P (M M' : ab_M) (op q nn : Int) (w : List Int) : Prop := em_r M M' (M 797 33).toNat op q nn w 256 ∧ M' 797 33 = M 797 33 + 1

def S_X9_emit : ab_PT := fun a M K => match a with
  | [.inr (.inr (.inr (797, 9, 0))), .inr (.inl op), .inr (.inl q), .inr (.inl be), .inr (.inl nn)] => (∃ w : List Int, (((0 ≤ M 797 33 ∧ M 797 33 < 256) ∧ ab_ir nn ∧ em_w M be nn w)) ∧ (∀ Mx : ab_M, (em_P M Mx op q nn w) → K [] Mx))
  | _ => False
set_option maxRecDepth 20000 in
theorem vc_X9_emit_0 (op : Int) (q : Int) (be : Int) (nn : Int) (M : ab_M) (K : List ab_V → ab_M → Prop) (hS : (∃ w : List Int, (((0 ≤ M 797 33 ∧ M 797 33 < 256) ∧ ab_ir nn ∧ em_w M be nn w)) ∧ (∀ Mx : ab_M, (em_P M Mx op q nn w) → K [] Mx))) : (0 ≤ (M 797 33) ∧ (M 797 33) < ((256 : Nat) : Int)) ∧ (0 ≤ (M 797 33) ∧ (M 797 33) < ((256 : Nat) : Int)) ∧ (0 ≤ (M 797 33) ∧ (M 797 33) < ((256 : Nat) : Int)) ∧ (-128 ≤ (-9 : Int) ∧ (-9 : Int) < 128) ∧ (0 ≤ (M 797 33) ∧ (M 797 33) < ((256 : Nat) : Int)) ∧ (∃ n', ((n' = (256 - (0 : Int)).toNat ∧ op = op ∧ q = q ∧ be = be ∧ nn = nn ∧ 0 ≤ (0 : Int) ∧ (0 : Int) ≤ 256 ∧ ∃ w, ((0 ≤ M 797 33 ∧ M 797 33 < 256) ∧ ab_ir nn ∧ em_w M be nn w) ∧ (∀ Mx : ab_M, em_P M Mx op q nn w → K [] Mx) ∧ (ab_up (ab_up (ab_up (ab_up M 818 ((M 797 33).toNat) op) 819 ((M 797 33).toNat) q) 820 ((M 797 33).toNat) (0 : Int)) 821 ((M 797 33).toNat) (-9 : Int)) 797 33 = M 797 33 ∧ em_r M (ab_up (ab_up (ab_up (ab_up M 818 ((M 797 33).toNat) op) 819 ((M 797 33).toNat) q) 820 ((M 797 33).toNat) (0 : Int)) 821 ((M 797 33).toNat) (-9 : Int)) (M 797 33).toNat op q nn w (0 : Int).toNat))) := by
  obtain ⟨w, ⟨⟨g0, g1⟩, gn, gw⟩, gK⟩ := hS
  refine And.intro (by
    first
      | omega
      | exact gn
      | exact ⟨by omega, by omega⟩
      | exact ⟨⟨by omega, by omega⟩, by omega, by omega⟩) ?_
  refine And.intro (by
    first
      | omega
      | exact gn
      | exact ⟨by omega, by omega⟩
      | exact ⟨⟨by omega, by omega⟩, by omega, by omega⟩) ?_
  refine And.intro (by
    first
      | omega
      | exact gn
      | exact ⟨by omega, by omega⟩
      | exact ⟨⟨by omega, by omega⟩, by omega, by omega⟩) ?_
  refine And.intro (by
    first
      | omega
      | exact gn
      | exact ⟨by omega, by omega⟩
      | exact ⟨⟨by omega, by omega⟩, by omega, by omega⟩) ?_
  refine And.intro (by
    first
      | omega
      | exact gn
      | exact ⟨by omega, by omega⟩
      | exact ⟨⟨by omega, by omega⟩, by omega, by omega⟩) ?_
  refine ⟨_, rfl, rfl, rfl, rfl, rfl, by decide, by decide, w, ⟨⟨g0, g1⟩, gn, gw⟩, gK, ?_, ?_, ?_, ?_, ?_, fun _ s hs => absurd hs (Nat.not_lt_zero s), fun o j h1 h2 h3 h4 => ?_⟩
  · rw [ab_up_o (by decide), ab_up_o (by decide), ab_up_o (by decide), ab_up_o (by decide)]
  · rw [ab_up_o (by decide), ab_up_o (by decide), ab_up_o (by decide), ab_up_s]
  · rw [ab_up_o (by decide), ab_up_o (by decide), ab_up_s]
  · rw [ab_up_o (by decide), ab_up_s]
  · rw [ab_up_s]
  · rw [up_ne (by omega), up_ne (by omega), up_ne (by omega), up_ne (by omega)]

set_option maxRecDepth 20000 in
theorem vc_X9_emit_44 (op : Int) (q : Int) (be : Int) (nn : Int) (M : ab_M) (K : List ab_V → ab_M → Prop) (hS : (∃ w : List Int, (((0 ≤ M 797 33 ∧ M 797 33 < 256) ∧ ab_ir nn ∧ em_w M be nn w)) ∧ (∀ Mx : ab_M, (em_P M Mx op q nn w) → K [] Mx))) (n : Nat) (o1 : Int) (f1 : Int) (b1 : Int) (n1 : Int) (k : Int) (M1 : ab_M) (hI : n = (256 - k).toNat ∧ op = o1 ∧ q = f1 ∧ be = b1 ∧ nn = n1 ∧ 0 ≤ k ∧ k ≤ 256 ∧ ∃ w, ((0 ≤ M 797 33 ∧ M 797 33 < 256) ∧ ab_ir nn ∧ em_w M be nn w) ∧ (∀ Mx : ab_M, em_P M Mx op q nn w → K [] Mx) ∧ M1 797 33 = M 797 33 ∧ em_r M M1 (M 797 33).toNat op q nn w k.toNat) : (-32768 ≤ (256 : Int) ∧ (256 : Int) < 32768) ∧ (ab_ir k ∧ ab_ir (256 : Int)) ∧ (((256 : Int) ≤ k → K [] (ab_up M1 797 33 ((M1 797 33) + (1 : Int)))) ∧ (k < (256 : Int) → (ab_ir n1) ∧ ((n1 ≤ 0 → K [] (ab_up M1 797 33 ((M1 797 33) + (1 : Int)))) ∧ (0 < n1 → (-32768 ≤ (256 : Int) ∧ (256 : Int) < 32768) ∧ (∃ w_78 : List Int, (vl_P M1 803 b1 w_78 ∧ w_78.length ≤ 130 ∧ n1 = ((w_78.length : Nat) : Int) ∧ b1 + n1 ≤ 640) ∧ (∀ r78 : Int, ∀ M78 : ab_M, (∀ o' k' : Nat, o' ≠ 817 → M78 o' k' = M1 o' k') → (r78 = pz_val k w_78 ∧ 0 ≤ r78 ∧ r78 ≤ 3) → (-128 ≤ r78 ∧ r78 < 128) ∧ ((0 ≤ (((256 : Int) * (M1 797 33)) + k) ∧ (((256 : Int) * (M1 797 33)) + k) < ((65536 : Nat) : Int)) ∧ -128 ≤ r78 ∧ r78 < 128) ∧ (∃ n', n' < n ∧ ((n' = (256 - (k + 1)).toNat ∧ op = o1 ∧ q = f1 ∧ be = b1 ∧ nn = n1 ∧ 0 ≤ (k + 1) ∧ (k + 1) ≤ 256 ∧ ∃ w, ((0 ≤ M 797 33 ∧ M 797 33 < 256) ∧ ab_ir nn ∧ em_w M be nn w) ∧ (∀ Mx : ab_M, em_P M Mx op q nn w → K [] Mx) ∧ (ab_up M78 822 ((((256 : Int) * (M1 797 33)) + k).toNat) r78) 797 33 = M 797 33 ∧ em_r M (ab_up M78 822 ((((256 : Int) * (M1 797 33)) + k).toNat) r78) (M 797 33).toNat op q nn w (k + 1).toNat))))))))) := by
  obtain ⟨hn, q1, q2, q3, q4, hk0, hk1, w, ⟨⟨g0, g1⟩, gn, gw⟩, gK, g33, e1, e2, e3, e4, e5, e6⟩ := hI
  clear hS
  subst q1
  subst q2
  subst q3
  subst q4
  refine And.intro (by
    first
      | omega
      | exact gn
      | exact ⟨by omega, by omega⟩
      | exact ⟨⟨by omega, by omega⟩, by omega, by omega⟩) ?_
  refine And.intro (by
    first
      | omega
      | exact gn
      | exact ⟨by omega, by omega⟩
      | exact ⟨⟨by omega, by omega⟩, by omega, by omega⟩) ?_
  refine ⟨?_, ?_⟩
  · intro c49
    have f : ∀ o j : Nat, ¬ (o = 797 ∧ j = 33) → ab_up M1 797 33 (M1 797 33 + 1) o j = M1 o j := fun o j b => up_ne b
    refine gK _ ⟨⟨?_, ?_, ?_, ?_, fun hp s hs => ?_, fun o j h1 h2 h3 h4 => ?_⟩, ?_⟩
    · rw [f _ _ (by omega)]; exact e1
    · rw [f _ _ (by omega)]; exact e2
    · rw [f _ _ (by omega)]; exact e3
    · rw [f _ _ (by omega)]; exact e4
    · rw [f _ _ (by omega)]
      exact e5 hp s (by omega)
    · rw [f _ _ h1]
      exact e6 o j h1 h2 h3 h4
    · rw [ab_up_s, g33]
  · intro c49
    refine And.intro (by
      first
        | omega
        | exact gn
        | exact ⟨by omega, by omega⟩
        | exact ⟨⟨by omega, by omega⟩, by omega, by omega⟩) ?_
    refine ⟨?_, ?_⟩
    · intro c54
      have f : ∀ o j : Nat, ¬ (o = 797 ∧ j = 33) → ab_up M1 797 33 (M1 797 33 + 1) o j = M1 o j := fun o j b => up_ne b
      refine gK _ ⟨⟨?_, ?_, ?_, ?_, fun hp s hs => ?_, fun o j h1 h2 h3 h4 => ?_⟩, ?_⟩
      · rw [f _ _ (by omega)]; exact e1
      · rw [f _ _ (by omega)]; exact e2
      · rw [f _ _ (by omega)]; exact e3
      · rw [f _ _ (by omega)]; exact e4
      · rw [f _ _ (by omega)]
        exact e5 hp s (by omega)
      · rw [f _ _ h1]
        exact e6 o j h1 h2 h3 h4
      · rw [ab_up_s, g33]
    · intro c54
      refine And.intro (by
        first
          | omega
          | exact gn
          | exact ⟨by omega, by omega⟩
          | exact ⟨⟨by omega, by omega⟩, by omega, by omega⟩) ?_
      refine Exists.intro (w) <| ?_
      refine And.intro (by
        obtain ⟨w1, w2, w3, w4⟩ := gw.resolve_left (by omega)
        exact ⟨w1.fr fun j => e6 803 j (by omega) (by omega) (by omega) (by omega), w2, w3, w4⟩) ?_
      intro r78 M78 hM78 hr78
      refine And.intro (by
        first
          | omega
          | exact gn
          | exact ⟨by omega, by omega⟩
          | exact ⟨⟨by omega, by omega⟩, by omega, by omega⟩) ?_
      refine And.intro (by
        first
          | omega
          | exact gn
          | exact ⟨by omega, by omega⟩
          | exact ⟨⟨by omega, by omega⟩, by omega, by omega⟩) ?_
      have f : ∀ o j : Nat, o ≠ 817 → ¬ (o = 822 ∧ j = (256 * M1 797 33 + k).toNat) → ab_up M78 822 (256 * M1 797 33 + k).toNat r78 o j = M1 o j := fun o j a b => by rw [up_ne b]; exact hM78 o j a
      have hix : (256 * M1 797 33 + k).toNat = 256 * (M 797 33).toNat + k.toNat := by rw [g33]; omega
      refine ⟨_, ?_, rfl, rfl, rfl, rfl, rfl, by omega, by omega, w, ⟨⟨g0, g1⟩, gn, gw⟩, gK, ?_, ?_, ?_, ?_, ?_, fun hp s hs => ?_, fun o j h1 h2 h3 h4 => ?_⟩
      · omega
      · rw [f _ _ (by decide) (by omega)]; exact g33
      · rw [f _ _ (by decide) (by omega)]; exact e1
      · rw [f _ _ (by decide) (by omega)]; exact e2
      · rw [f _ _ (by decide) (by omega)]; exact e3
      · rw [f _ _ (by decide) (by omega)]; exact e4
      · by_cases z : s = k.toNat
        · rw [z, hix, ab_up_s, hr78.1, show ((k.toNat : Nat) : Int) = k by omega]
        · rw [f _ _ (by decide) (by omega)]
          exact e5 hp s (by omega)
      · rw [f _ _ h4 (by omega)]
        exact e6 o j h1 h2 h3 h4

set_option maxRecDepth 20000 in
set_option maxHeartbeats 1000000 in
theorem ok_X9_emit (E : ab_E) : ab_Ok E 4 131 S_X9_emit := by
  refine ab_mk rq_X9_emit tk_X9_emit (rt := 0) (rfl) (cuts := [44]) (G := [(189, S_X9_valueOf)]) (List.forall_mem_cons.mpr ⟨⟨3, by decide, ok_X9_valueOf E⟩, fun _ h => absurd h List.not_mem_nil⟩) (by decide) 105 rfl ?_
  intro a M K wd wa hS
  unfold S_X9_emit at hS
  split at hS
  ·
    rename_i op q be nn
    refine ⟨Nat.le_of_ble_eq_true rfl, fun pc n L st M1 => match pc, L, st with
      | 44, [.inr (.inr (.inr (797, 9, 0))), .inr (.inl o1), .inr (.inl f1), .inr (.inl b1), .inr (.inl n1), .inr (.inl k)], [] => (n = (256 - k).toNat ∧ op = o1 ∧ q = f1 ∧ be = b1 ∧ nn = n1 ∧ 0 ≤ k ∧ k ≤ 256 ∧ ∃ w, ((0 ≤ M 797 33 ∧ M 797 33 < 256) ∧ ab_ir nn ∧ em_w M be nn w) ∧ (∀ Mx : ab_M, em_P M Mx op q nn w → K [] Mx) ∧ M1 797 33 = M 797 33 ∧ em_r M M1 (M 797 33).toNat op q nn w k.toNat)
      | _, _, _ => False, ?_, ?_⟩
    · exact vc_X9_emit_0 op q be nn M K  hS
    · intro pc n L st M1 hI wd1 wL wst
      (try dsimp only at hI)
      split at hI
      ·
        rename_i o1 f1 b1 n1 k
        exact vc_X9_emit_44 op q be nn M K  hS n o1 f1 b1 n1 k _ hI
      · exact hI.elim
  · exact hS.elim
