/-! the making: a text -/
theorem ac_obj : Cond.instanceMethod Lib.objectInit ∈ ab_tn ∧ Cond.code Lib.objectInit ⟨#[0xb1]⟩ 1 none ∈ ab_tn :=
  ⟨ab_tnm (List.mem_of_getElem? (i := 118) rfl) rfl, ab_tnm (List.mem_of_getElem? (i := 119) rfl) rfl⟩
set_option maxRecDepth 20000 in
set_option maxHeartbeats 1000000 in
theorem mk_X6 (E : ab_E) {o : Nat} (h6 : ab_kd o = 6) (h24 : ab_kd (o + 1) = 24) (ho : o + 1 < ab_n) (hln : ab_ln (o + 1) ≤ 60000) (M : ab_M) : ac_Ok E 1 66 1 (ab_ln (o + 1)) [.inr (.inr (.inr (o, 6, 0))), .inr (.inl ((ab_ln (o + 1) : Nat) : Int))] (o + 1) (o + 2) M (fun M' => M' = ab_up (ac_nw M (o + 1)) o 0 ((o + 1 : Nat) : Int)) := by
  refine ac_mk (q := (yX6_init, cX6_init, 2, none, 6, (124, 123, 9999, 95), 2)) rfl rfl rfl (Nat.le_of_ble_eq_true rfl) ?_
  intro p l e s m below meth c ls hC hN hin hr hP hl
  have hC : ab_Cx p s m _ meth c E cX6_init 6 2 := hC
  obtain ⟨hx, hb, hml, hown, hts, hK, hlk, hsz⟩ := id hC
  have hl : lv_has ls 2 [(0, .ref (E.1 + o)), (1, .int (Int32.ofInt ((ab_ln (o + 1) : Nat) : Int)))] := hl
  have hS : va_S (fun q => E.1 ≤ q) s.heap s.heap [] := va_S.rf
  refine lv_aload_n hx hb (show decode cX6_init 0 = .ok (.aload_n 0, 1) by decide +kernel) rfl (lv_at hl 0 rfl) ?_
  refine W.objInit hx hb hown (hts _ (ab_tnm (List.mem_of_getElem? (i := 125) rfl) rfl)) (hts _ ac_obj.1) (hts _ ac_obj.2) rfl (by rw [hml]; exact hl.1) rfl (show decode cX6_init 1 = .ok (.invokespecial 3, 3) by decide +kernel) (Nat.le_of_ble_eq_true rfl) (Nat.le_of_ble_eq_true rfl) ?_
  refine W.eq (g2 := F0 m 4 ls []) rfl ?_
  refine lv_aload_n hx hb (show decode cX6_init 4 = .ok (.aload_n 0, 1) by decide +kernel) rfl (lv_at hl 0 rfl) ?_
  refine lv_iload_n hx hb (show decode cX6_init 5 = .ok (.iload_n 1, 1) by decide +kernel) rfl (lv_at hl 1 rfl) ?_
  refine lv_iconst (v := 0) hx hb (show decode cX6_init 6 = .ok (.iconst 0, 1) by decide +kernel) (by decide) ?_
  refine va_mmax hx hb (hml.trans hl.1.symm) hown (hts _ (ab_tnm (List.mem_of_getElem? (i := 126) rfl) rfl)) (hts _ ab_mmx.1) (hts _ ab_mmx.2.1) (hts _ ab_mmx.2.2) (Nat.le_of_ble_eq_true rfl) (Nat.le_of_ble_eq_true rfl) (Nat.zero_le _) (Nat.zero_le _) (show decode cX6_init 7 = .ok (.invokestatic 9, 3) by decide +kernel) ?_
  have hmx : (if Int32.ofInt ((ab_ln (o + 1) : Nat) : Int) < 0 then (0 : Int32) else Int32.ofInt ((ab_ln (o + 1) : Nat) : Int)) = Int32.ofInt ((ab_ln (o + 1) : Nat) : Int) := if_neg (ac_len (N := ab_ln (o + 1)) (by omega)).1
  refine W.eq (g2 := F0 m 10 ls [.int (Int32.ofInt ((ab_ln (o + 1) : Nat) : Int)), .ref (E.1 + o)]) (congrArg (fun v : Int32 => F0 m 10 ls [.int v, .ref (E.1 + o)]) hmx) ?_
  refine ac_newa hC (atype := .char) (c0 := 24) (ab_tnm (List.mem_of_getElem? (i := 138) rfl) rfl) h24 (by right; right; right; right; exact ⟨rfl, rfl⟩) (by omega) (show decode cX6_init 10 = .ok (.newarray .char, 2) by decide +kernel) hP hS (Nat.le_refl _) (by show 0 + _ ≤ _; rw [Nat.zero_add]; exact Nat.le_refl _) (fun H1 hP1 hS1 => ?_)
  refine ac_putF hC hin (r := (0, 0, 6, 0, 129)) (show decode cX6_init 12 = .ok (.putfield 15, 3) by decide +kernel) (by decide +kernel) rfl (by omega) h6 (o' := o + 1) hP1 hS1 (by decide +kernel) ⟨_, rfl, rfl⟩ (fun H2 locs2 hP2 hS2 => ?_)
  exact ac_ret hC hr (show decode cX6_init 15 = .ok (.return_, 1) by decide +kernel) hP2 hS2 rfl (Nat.le_refl _) (by omega)
