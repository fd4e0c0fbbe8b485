/-! the making: a statement -/
set_option maxRecDepth 20000 in
set_option maxHeartbeats 1000000 in
theorem mk_X4 (E : ab_E) {o : Nat} (h4 : ab_kd o = 4) (h1 : ab_kd (o + 1) = 20 ∧ ab_ln (o + 1) = 2) (h2 : ab_kd (o + 2) = 20 ∧ ab_ln (o + 2) = 2) (M : ab_M) : ac_Ok E 1 54 2 4 [.inr (.inr (.inr (o, 4, 0)))] (o + 1) (o + 3) M (fun M' => M' = ab_up (ac_nw (ab_up (ac_nw M (o + 1)) o 12 ((o + 1 : Nat) : Int)) (o + 2)) o 13 ((o + 2 : Nat) : Int)) := by
  refine ac_mk (q := (yX4_init, cX4_init, 1, none, 4, (151, 150, 9999, 98), 2)) rfl rfl rfl (Nat.le_of_ble_eq_true rfl) ?_
  intro p l e s m below meth c ls hC hN hin hr hP hl
  have hC : ab_Cx p s m _ meth c E cX4_init 4 1 := hC
  obtain ⟨hx, hb, hml, hown, hts, hK, hlk, hsz⟩ := id hC
  have hl : lv_has ls 1 [(0, .ref (E.1 + o))] := hl
  have hS : va_S (fun q => E.1 ≤ q) s.heap s.heap [] := va_S.rf
  refine lv_aload_n hx hb (show decode cX4_init 0 = .ok (.aload_n 0, 1) by decide +kernel) rfl (lv_at hl 0 rfl) ?_
  refine W.objInit hx hb hown (hts _ (ab_tnm (List.mem_of_getElem? (i := 152) rfl) rfl)) (hts _ ac_obj.1) (hts _ ac_obj.2) rfl (by rw [hml]; exact hl.1) rfl (show decode cX4_init 1 = .ok (.invokespecial 3, 3) by decide +kernel) (Nat.le_of_ble_eq_true rfl) (Nat.le_of_ble_eq_true rfl) ?_
  refine W.eq (g2 := F0 m 4 ls []) rfl ?_
  refine lv_aload_n hx hb (show decode cX4_init 4 = .ok (.aload_n 0, 1) by decide +kernel) rfl (lv_at hl 0 rfl) ?_
  refine lv_iconst (v := 2) hx hb (show decode cX4_init 5 = .ok (.iconst 2, 1) by decide +kernel) (by decide) ?_
  refine W.eq (g2 := F0 m 6 ls [.int (Int32.ofInt ((ab_ln (o + 1) : Nat) : Int)), .ref (E.1 + o)]) (by rw [h1.2]; rfl) ?_
  refine ac_newa hC (atype := .int) (c0 := 20) (ab_tnm (List.mem_of_getElem? (i := 264) rfl) rfl) h1.1 (.inl ⟨rfl, rfl⟩) (by omega) (show decode cX4_init 6 = .ok (.newarray .int, 2) by decide +kernel) hP hS (Nat.le_of_ble_eq_true rfl) (by rw [h1.2]; exact Nat.le_of_ble_eq_true rfl) (fun H1 hP1 hS1 => ?_)
  refine ac_putF hC hin (r := (0, 0, 4, 12, 203)) (show decode cX4_init 8 = .ok (.putfield 9, 3) by decide +kernel) (by decide +kernel) rfl (by omega) h4 (o' := o + 1) hP1 hS1 (by decide +kernel) ⟨_, rfl, rfl⟩ (fun H2 locs2 hP2 hS2 => ?_)
  refine lv_aload_n hx hb (show decode cX4_init 11 = .ok (.aload_n 0, 1) by decide +kernel) rfl (lv_at hl 0 rfl) ?_
  refine lv_iconst (v := 2) hx hb (show decode cX4_init 12 = .ok (.iconst 2, 1) by decide +kernel) (by decide) ?_
  refine W.eq (g2 := F0 m 13 ls [.int (Int32.ofInt ((ab_ln (o + 2) : Nat) : Int)), .ref (E.1 + o)]) (by rw [h2.2]; rfl) ?_
  refine ac_newa hC (n := o + 2) (atype := .int) (c0 := 20) (ab_tnm (List.mem_of_getElem? (i := 264) rfl) rfl) h2.1 (.inl ⟨rfl, rfl⟩) (by omega) (show decode cX4_init 13 = .ok (.newarray .int, 2) by decide +kernel) hP2 hS2 (Nat.le_of_ble_eq_true rfl) (by rw [h1.2, h2.2]; exact Nat.le_of_ble_eq_true rfl) (fun H3 hP3 hS3 => ?_)
  refine ac_putF hC hin (r := (0, 0, 4, 13, 207)) (show decode cX4_init 15 = .ok (.putfield 15, 3) by decide +kernel) (by decide +kernel) rfl (by omega) h4 (o' := o + 2) hP3 hS3 (by decide +kernel) ⟨_, rfl, rfl⟩ (fun H4 locs4 hP4 hS4 => ?_)
  exact ac_ret hC hr (show decode cX4_init 18 = .ok (.return_, 1) by decide +kernel) hP4 hS4 rfl (Nat.le_refl _) (by rw [h1.2, h2.2]; exact Nat.le_refl _)
