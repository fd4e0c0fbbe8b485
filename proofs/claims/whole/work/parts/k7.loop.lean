/-! the making: the loop of a program over its statements -/
theorem ac_le32 {a b : Nat} (ha : a < 2 ^ 31) (hb : b < 2 ^ 31) : Int32.ofInt ((a : Nat) : Int) ≤ Int32.ofInt ((b : Nat) : Int) ↔ a ≤ b := by
  rw [Int32.le_iff_toInt_le, Int32.toInt_ofInt_of_le (by omega) (by omega), Int32.toInt_ofInt_of_le (by omega) (by omega)]
  omega
def ac_lo (P i : Nat) : Bool := decide (ab_kd (P + 2 + 3 * i) = 4) && (decide (ab_kd (P + 2 + 3 * i + 1) = 20 ∧ ab_ln (P + 2 + 3 * i + 1) = 2) && (decide (ab_kd (P + 2 + 3 * i + 2) = 20 ∧ ab_ln (P + 2 + 3 * i + 2) = 2) && (decide (((P + 2 + 3 * i : Nat) : Int) = ac_T (P + 1) i) && decide (¬ (P + 2 + 3 * i = 388 ∨ P + 2 + 3 * i = 757)))))
theorem ac_lo26 : (List.range 120).all (fun i => ac_lo 26 i) = true := by decide +kernel
theorem ac_lo395 : (List.range 120).all (fun i => ac_lo 395 i) = true := by decide +kernel
theorem lay_26 : ∀ i, i < 120 → ac_lo 26 i = true := fun i hi => List.all_eq_true.mp ac_lo26 i (List.mem_range.mpr hi)
theorem lay_395 : ∀ i, i < 120 → ac_lo 395 i = true := fun i hi => List.all_eq_true.mp ac_lo395 i (List.mem_range.mpr hi)
section AC
variable {p : Program} {l : Launch} {e : Env} {R : Room} {s : State} {m : MethodId} {args : Array Value} {below : List Frame} {meth : Method} {c : Code} {Q : State → Prop} {E : ab_E}
set_option maxRecDepth 20000 in
set_option maxHeartbeats 1000000 in
theorem X1_loop (hC : ab_Cx p s m args meth c E cX1_init 1 3) (hN : ac_NK s) (hR : R.frames = 2 ∧ R.locals = 64 * 2) {P t c0 s0 : Nat} (hcel : c0 + 360 ≤ R.cells) (hslo : s0 + 2760 ≤ R.slots) (hkP : ab_kd P = 1) (hkA : ab_kd (P + 1) = 25 ∧ ab_ln (P + 1) = 120) (hPn : P + 369 ≤ ab_n) (hlay : ∀ i, i < 120 → ac_lo P i = true) {M0 : ab_M} {g : Nat → Int} (hg : g 1 = ((P + 1 : Nat) : Int))
    (kk : ∀ (M : ab_M) (H : Heap) (locs : List Loc) (ls : Array Slot), ac_I P (P + 362) (P + 1) 120 M0 g M → ac_H E (P + 362) M H → va_S (fun q => E.1 ≤ q) s.heap H locs → lv_has ls 3 [(2, .int (Int32.ofInt ((120 : Nat) : Int))), (0, .ref (E.1 + P)), (1, .ref (E.1 + t))] → W p l e R s m args below meth c H locs (c0 + 360) (s0 + 2760) Q (F0 m 45 ls [])) :
    ∀ (j i : Nat), i + j = 120 → ∀ (M : ab_M) (H : Heap) (locs : List Loc) (ls : Array Slot), ac_I P (P + 2 + 3 * i) (P + 1) i M0 g M → ac_H E (P + 2 + 3 * i) M H → va_S (fun q => E.1 ≤ q) s.heap H locs → lv_has ls 3 [(2, .int (Int32.ofInt ((i : Nat) : Int))), (0, .ref (E.1 + P)), (1, .ref (E.1 + t))] → W p l e R s m args below meth c H locs (c0 + 3 * i) (s0 + 23 * i) Q (F0 m 20 ls []) := by
  obtain ⟨hx, hb, hml, hown, hts, hK, hlk, hsz⟩ := id hC
  intro j
  induction j with
  | zero =>
    intro i hi M H locs ls hI hP hS hl
    have e : i = 120 := by omega
    subst e
    refine lv_iload_n hx hb (show decode cX1_init 20 = .ok (.iload_n 2, 1) by decide +kernel) rfl (lv_at hl 0 rfl) ?_
    refine lv_bipush (v := Int32.ofInt ((120 : Nat) : Int)) hx hb (show decode cX1_init 21 = .ok (.bipush 120, 2) by decide +kernel) (by decide) ?_
    refine lv_icmp_ge (tgt := 45) hx hb (show decode cX1_init 23 = .ok (.if_icmp .ge 22, 3) by decide +kernel) (by decide) (fun cq => ?_) (fun cq => ?_)
    · exact kk M H locs ls hI hP hS hl
    · exact absurd ((ac_le32 (by omega) (by omega)).mpr (Nat.le_refl 120)) cq
  | succ j ih =>
    intro i hi M H locs ls hI hP hS hl
    have hl0 := hlay i (by omega)
    unfold ac_lo at hl0
    simp only [Bool.and_eq_true, decide_eq_true_eq] at hl0
    obtain ⟨h4, h1, h2, hT, hne⟩ := hl0
    have hA := hI.2.1 1
    refine lv_iload_n hx hb (show decode cX1_init 20 = .ok (.iload_n 2, 1) by decide +kernel) rfl (lv_at hl 0 rfl) ?_
    refine lv_bipush (v := Int32.ofInt ((120 : Nat) : Int)) hx hb (show decode cX1_init 21 = .ok (.bipush 120, 2) by decide +kernel) (by decide) ?_
    refine lv_icmp_ge (tgt := 45) hx hb (show decode cX1_init 23 = .ok (.if_icmp .ge 22, 3) by decide +kernel) (by decide) (fun cq => ?_) (fun cq => ?_)
    · exact absurd ((ac_le32 (by omega) (by omega)).mp cq) (by omega)
    refine lv_aload_n hx hb (show decode cX1_init 26 = .ok (.aload_n 0, 1) by decide +kernel) rfl (lv_at hl 1 rfl) ?_
    refine ac_rdr hC (n := P + 2 + 3 * i) (r := (0, 0, 1, 1, 272)) (show decode cX1_init 27 = .ok (.getfield 17, 3) by decide +kernel) (by decide +kernel) (o := P) (o' := P + 1) (by omega) hkP (by decide +kernel) (hA.trans hg) hP ?_
    refine lv_iload_n hx hb (show decode cX1_init 30 = .ok (.iload_n 2, 1) by decide +kernel) rfl (lv_at hl 0 rfl) ?_
    refine ac_new hC (n := P + 2 + 3 * i) (i := 15) (ci := 4) (q := (RX4, TX4, 19)) rfl h4 (ab_tnm (List.mem_of_getElem? (i := 146) rfl) rfl) (ab_tnm (List.mem_of_getElem? (i := 148) rfl) rfl) (ab_tnm (List.mem_of_getElem? (i := 98) rfl) rfl) (show decode cX1_init 31 = .ok (.new 15, 3) by decide +kernel) hP hS (by omega) (by show s0 + 23 * i + 19 ≤ _; omega) (fun H1 hP1 hS1 => ?_)
    refine lv_dup hx hb (show decode cX1_init 34 = .ok (.dup, 1) by decide +kernel) rfl ?_
    refine ac_initN hC hN hR (n := P + 2 + 3 * i + 1) (d' := 1) (by decide) (ix := 54) (q := (yX4_init, cX4_init, 1, none, 4, (151, 150, 9999, 98), 2)) rfl ⟨rfl, rfl⟩ (ab_tnm (List.mem_of_getElem? (i := 150) rfl) rfl) (show decode cX1_init 35 = .ok (.invokespecial 21, 3) by decide +kernel) (List.mem_of_getElem? (i := 149) rfl) (o := P + 2 + 3 * i) (a := []) (rest := [.ref (E.1 + (P + 2 + 3 * i)), .int (Int32.ofInt ((i : Nat) : Int)), .ref (E.1 + (P + 1))]) (by decide +kernel) (mk_X4 E (o := P + 2 + 3 * i) h4 h1 h2 _) hP1 hS1 hl.1 (Nat.le_of_ble_eq_true rfl) (by omega) (by show s0 + 23 * i + 19 + 4 ≤ _; omega) (fun M2 H2 locs2 hM2 hP2 hS2 => ?_)
    have hI2 := hI.con (M' := M2) (by rw [hM2]; exact kf_X4 h4 h1.1 h2.1 hne _) (by omega) (by omega)
    refine ac_aast hC (n := P + 2 + 3 * i + 3) (o := P + 1) (o' := P + 2 + 3 * i) (i := i) (.inr ⟨hkA.1, h4⟩) (by omega) (by omega) (by omega) (by omega) (show decode cX1_init 38 = .ok (.aastore, 1) by decide +kernel) hP2 hS2 (fun H3 locs3 hP3 hS3 => ?_)
    have hI3 := hI2.ast (v := ((P + 2 + 3 * i : Nat) : Int)) (by omega) hT
    refine lv_iinc (v := Int32.ofInt ((i + 1 : Nat) : Int)) (lv' := [(2, .int (Int32.ofInt ((i + 1 : Nat) : Int))), (0, .ref (E.1 + P)), (1, .ref (E.1 + t))]) hx hb (show decode cX1_init 39 = .ok (.iinc 2 1, 3) by decide +kernel) hl (k := 0) rfl (by rw [← Int32.ofInt_add]; rfl) (by decide) rfl (fun ls hl => ?_)
    refine lv_goto (tgt := 20) hx hb (show decode cX1_init 42 = .ok (.goto (-22), 3) by decide +kernel) (by decide) ?_
    refine W.widen (k := c0 + 3 * (i + 1)) (n := s0 + 23 * (i + 1)) (by omega) (by show s0 + 23 * i + 19 + 4 ≤ _; omega) ?_
    have hn : P + 2 + 3 * (i + 1) = P + 2 + 3 * i + 3 := by omega
    exact ih (i + 1) (by omega) _ H3 locs3 ls (by rw [hn]; exact hI3) (by rw [hn]; exact hP3) hS3 hl
end AC
