/-! the making: the class (written by a program) -/
set_option maxRecDepth 20000 in
set_option maxHeartbeats 4000000 in
theorem mk_X8 (E : ab_E) (M0 : ab_M) : ac_Ok E 3 79 796 197951 [.inr (.inr (.inr (0, 8, 0)))] 1 797 (ac_nw M0 0) (fun M' => ac_KF 0 797 M0 M') := by
  refine ac_mk (q := (yX8_init, cX8_init, 2, none, 8, (116, 115, 9999, 94), 2)) rfl rfl rfl (Nat.le_of_ble_eq_true rfl) ?_
  intro p l e s m below meth c ls hC hN hin hr hP hl
  have hC : ab_Cx p s m _ meth c E cX8_init 8 2 := hC
  obtain ⟨hx, hb, hml, hown, hts, hK, hlk, hsz⟩ := id hC
  have hl : lv_has ls 2 [(0, .ref (E.1 + 0))] := hl
  have hS : va_S (fun q => E.1 ≤ q) s.heap s.heap [] := va_S.rf
  have hI := ac_I.st (p := 0) M0
  refine lv_aload_n hx hb (show decode cX8_init 0 = .ok (.aload_n 0, 1) by decide +kernel) rfl (lv_at hl 0 rfl) ?_
  refine W.objInit hx hb hown (hts _ (ab_tnm (List.mem_of_getElem? (i := 117) rfl) rfl)) (hts _ ac_obj.1) (hts _ ac_obj.2) rfl (by rw [hml]; exact hl.1) rfl (show decode cX8_init 1 = .ok (.invokespecial 3, 3) by decide +kernel) (Nat.le_of_ble_eq_true rfl) (Nat.le_of_ble_eq_true rfl) ?_
  refine W.eq (g2 := F0 m 4 ls []) rfl ?_
  refine lv_aload_n hx hb (show decode cX8_init 4 = .ok (.aload_n 0, 1) by decide +kernel) rfl (lv_at hl 0 rfl) ?_
  refine ac_new hC (n := 1) (i := 9) (ci := 6) (q := (RX6, TX6, 2)) rfl (by decide +kernel) (ab_tnm (List.mem_of_getElem? (i := 120) rfl) rfl) (ab_tnm (List.mem_of_getElem? (i := 121) rfl) rfl) (ab_tnm (List.mem_of_getElem? (i := 95) rfl) rfl) (show decode cX8_init 5 = .ok (.new 9, 3) by decide +kernel) hP hS (Nat.le_of_ble_eq_true rfl) (Nat.le_of_ble_eq_true rfl) (fun H1 hP1 hS1 => ?_)
  refine lv_dup hx hb (show decode cX8_init 8 = .ok (.dup, 1) by decide +kernel) rfl ?_
  refine lv_bipush (v := Int32.ofInt ((120 : Nat) : Int)) hx hb (show decode cX8_init 9 = .ok (.bipush 120, 2) by decide +kernel) (by decide) ?_
  refine ac_init hC hN ⟨rfl, rfl⟩ (n := 2) (d' := 1) (by decide) (ix := 66) (q := (yX6_init, cX6_init, 2, none, 6, (124, 123, 9999, 95), 2)) rfl ⟨rfl, rfl⟩ (ab_tnm (List.mem_of_getElem? (i := 123) rfl) rfl) (show decode cX8_init 11 = .ok (.invokespecial 11, 3) by decide +kernel) (ab_tnm (List.mem_of_getElem? (i := 122) rfl) rfl) (o := 1) (a := [.inr (.inl ((120 : Nat) : Int))]) (rest := [.ref (E.1 + 1), .ref (E.1 + 0)]) (by decide +kernel) (mk_X6n E (o := 1) (N := 120) (by decide +kernel) (by decide +kernel) (by decide) (by decide +kernel) (Nat.le_of_ble_eq_true rfl) _) hP1 hS1 hl.1 (Nat.le_of_ble_eq_true rfl) (Nat.le_of_ble_eq_true rfl) (Nat.le_of_ble_eq_true rfl) (fun M2 H2 locs2 hM2 hP2 hS2 => ?_)
  have hI2 : ac_I 0 3 0 0 M0 _ _ := hI.con (M' := M2) (by rw [hM2]; exact kf_X6 (by decide) (by decide +kernel) _) (by decide) (by decide)
  refine ac_putF hC hin (n := 3) (r := (0, 0, 8, 0, 557)) (show decode cX8_init 14 = .ok (.putfield 14, 3) by decide +kernel) (by decide +kernel) rfl (by decide) (by decide +kernel) (o := 0) (o' := 1) hP2 hS2 (by decide +kernel) ⟨_, rfl, rfl⟩ (fun H3 locs3 hP3 hS3 => ?_)
  have hI3 := hI2.put (j := 0) (v := ((1 : Nat) : Int)) (fun _ => rfl)
  refine lv_aload_n hx hb (show decode cX8_init 17 = .ok (.aload_n 0, 1) by decide +kernel) rfl (lv_at hl 0 rfl) ?_
  refine ac_new hC (n := 3) (i := 9) (ci := 6) (q := (RX6, TX6, 2)) rfl (by decide +kernel) (ab_tnm (List.mem_of_getElem? (i := 120) rfl) rfl) (ab_tnm (List.mem_of_getElem? (i := 121) rfl) rfl) (ab_tnm (List.mem_of_getElem? (i := 95) rfl) rfl) (show decode cX8_init 18 = .ok (.new 9, 3) by decide +kernel) hP3 hS3 (Nat.le_of_ble_eq_true rfl) (Nat.le_of_ble_eq_true rfl) (fun H4 hP4 hS4 => ?_)
  refine lv_dup hx hb (show decode cX8_init 21 = .ok (.dup, 1) by decide +kernel) rfl ?_
  refine lv_sipush (v := Int32.ofInt ((640 : Nat) : Int)) hx hb (show decode cX8_init 22 = .ok (.sipush 640, 3) by decide +kernel) (by decide) ?_
  refine ac_init hC hN ⟨rfl, rfl⟩ (n := 4) (d' := 1) (by decide) (ix := 66) (q := (yX6_init, cX6_init, 2, none, 6, (124, 123, 9999, 95), 2)) rfl ⟨rfl, rfl⟩ (ab_tnm (List.mem_of_getElem? (i := 123) rfl) rfl) (show decode cX8_init 25 = .ok (.invokespecial 11, 3) by decide +kernel) (ab_tnm (List.mem_of_getElem? (i := 122) rfl) rfl) (o := 3) (a := [.inr (.inl ((640 : Nat) : Int))]) (rest := [.ref (E.1 + 3), .ref (E.1 + 0)]) (by decide +kernel) (mk_X6n E (o := 3) (N := 640) (by decide +kernel) (by decide +kernel) (by decide) (by decide +kernel) (Nat.le_of_ble_eq_true rfl) _) hP4 hS4 hl.1 (Nat.le_of_ble_eq_true rfl) (Nat.le_of_ble_eq_true rfl) (Nat.le_of_ble_eq_true rfl) (fun M5 H5 locs5 hM5 hP5 hS5 => ?_)
  have hI5 : ac_I 0 5 0 0 M0 _ _ := hI3.con (M' := M5) (by rw [hM5]; exact kf_X6 (by decide) (by decide +kernel) _) (by decide) (by decide)
  refine ac_putF hC hin (n := 5) (r := (0, 0, 8, 1, 558)) (show decode cX8_init 28 = .ok (.putfield 18, 3) by decide +kernel) (by decide +kernel) rfl (by decide) (by decide +kernel) (o := 0) (o' := 3) hP5 hS5 (by decide +kernel) ⟨_, rfl, rfl⟩ (fun H6 locs6 hP6 hS6 => ?_)
  have hI6 := hI5.put (j := 1) (v := ((3 : Nat) : Int)) (fun _ => rfl)
  refine lv_aload_n hx hb (show decode cX8_init 31 = .ok (.aload_n 0, 1) by decide +kernel) rfl (lv_at hl 0 rfl) ?_
  refine ac_new hC (n := 5) (i := 9) (ci := 6) (q := (RX6, TX6, 2)) rfl (by decide +kernel) (ab_tnm (List.mem_of_getElem? (i := 120) rfl) rfl) (ab_tnm (List.mem_of_getElem? (i := 121) rfl) rfl) (ab_tnm (List.mem_of_getElem? (i := 95) rfl) rfl) (show decode cX8_init 32 = .ok (.new 9, 3) by decide +kernel) hP6 hS6 (Nat.le_of_ble_eq_true rfl) (Nat.le_of_ble_eq_true rfl) (fun H7 hP7 hS7 => ?_)
  refine lv_dup hx hb (show decode cX8_init 35 = .ok (.dup, 1) by decide +kernel) rfl ?_
  refine lv_sipush (v := Int32.ofInt ((640 : Nat) : Int)) hx hb (show decode cX8_init 36 = .ok (.sipush 640, 3) by decide +kernel) (by decide) ?_
  refine ac_init hC hN ⟨rfl, rfl⟩ (n := 6) (d' := 1) (by decide) (ix := 66) (q := (yX6_init, cX6_init, 2, none, 6, (124, 123, 9999, 95), 2)) rfl ⟨rfl, rfl⟩ (ab_tnm (List.mem_of_getElem? (i := 123) rfl) rfl) (show decode cX8_init 39 = .ok (.invokespecial 11, 3) by decide +kernel) (ab_tnm (List.mem_of_getElem? (i := 122) rfl) rfl) (o := 5) (a := [.inr (.inl ((640 : Nat) : Int))]) (rest := [.ref (E.1 + 5), .ref (E.1 + 0)]) (by decide +kernel) (mk_X6n E (o := 5) (N := 640) (by decide +kernel) (by decide +kernel) (by decide) (by decide +kernel) (Nat.le_of_ble_eq_true rfl) _) hP7 hS7 hl.1 (Nat.le_of_ble_eq_true rfl) (Nat.le_of_ble_eq_true rfl) (Nat.le_of_ble_eq_true rfl) (fun M8 H8 locs8 hM8 hP8 hS8 => ?_)
  have hI8 : ac_I 0 7 0 0 M0 _ _ := hI6.con (M' := M8) (by rw [hM8]; exact kf_X6 (by decide) (by decide +kernel) _) (by decide) (by decide)
  refine ac_putF hC hin (n := 7) (r := (0, 0, 8, 2, 559)) (show decode cX8_init 42 = .ok (.putfield 21, 3) by decide +kernel) (by decide +kernel) rfl (by decide) (by decide +kernel) (o := 0) (o' := 5) hP8 hS8 (by decide +kernel) ⟨_, rfl, rfl⟩ (fun H9 locs9 hP9 hS9 => ?_)
  have hI9 := hI8.put (j := 2) (v := ((5 : Nat) : Int)) (fun _ => rfl)
  refine lv_aload_n hx hb (show decode cX8_init 45 = .ok (.aload_n 0, 1) by decide +kernel) rfl (lv_at hl 0 rfl) ?_
  refine lv_bipush (v := Int32.ofInt ((6 : Nat) : Int)) hx hb (show decode cX8_init 46 = .ok (.bipush 6, 2) by decide +kernel) (by decide) ?_
  refine ac_newqn hC (n := 7) (i := 9) (c0 := 26) (N := 6) (C := RX6) (ab_tnm (List.mem_of_getElem? (i := 120) rfl) rfl) (va_AO.use hN.2.2) (by decide +kernel) (by decide +kernel) (by right; exact ⟨rfl, rfl⟩) (Nat.le_of_ble_eq_true rfl) (show decode cX8_init 48 = .ok (.anewarray 9, 3) by decide +kernel) hP9 hS9 (Nat.le_of_ble_eq_true rfl) (Nat.le_of_ble_eq_true rfl) (fun H10 hP10 hS10 => ?_)
  have hI10 : ac_I 0 8 7 0 M0 _ _ := hI9.ref (by decide)
  refine ac_putF hC hin (n := 8) (r := (0, 0, 8, 3, 560)) (show decode cX8_init 51 = .ok (.putfield 24, 3) by decide +kernel) (by decide +kernel) rfl (by decide) (by decide +kernel) (o := 0) (o' := 7) hP10 hS10 (by decide +kernel) ⟨_, rfl, rfl⟩ (fun H11 locs11 hP11 hS11 => ?_)
  have hI11 := hI10.put (j := 3) (v := ((7 : Nat) : Int)) (fun e => absurd e (by decide))
  refine lv_iconst (v := Int32.ofInt ((0 : Nat) : Int)) hx hb (show decode cX8_init 54 = .ok (.iconst 0, 1) by decide +kernel) (by decide) ?_
  refine lv_istore_n (lv' := [(1, .int (Int32.ofInt ((0 : Nat) : Int))), (0, .ref (E.1 + 0))]) hx hb (show decode cX8_init 55 = .ok (.istore_n 1, 1) by decide +kernel) rfl hl (by decide) rfl (fun ls hl => ?_)
  refine lv_iload_n hx hb (show decode cX8_init 56 = .ok (.iload_n 1, 1) by decide +kernel) rfl (lv_at hl 0 rfl) ?_
  refine lv_bipush (v := Int32.ofInt ((6 : Nat) : Int)) hx hb (show decode cX8_init 57 = .ok (.bipush 6, 2) by decide +kernel) (by decide) ?_
  refine lv_icmp_ge (tgt := 84) hx hb (show decode cX8_init 59 = .ok (.if_icmp .ge 25, 3) by decide +kernel) (by decide) (fun cq => ?_) (fun cq => ?_)
  · exact absurd cq (by decide)
  refine lv_aload_n hx hb (show decode cX8_init 62 = .ok (.aload_n 0, 1) by decide +kernel) rfl (lv_at hl 1 rfl) ?_
  refine ac_rdr hC (n := 8) (r := (0, 0, 8, 3, 560)) (show decode cX8_init 63 = .ok (.getfield 24, 3) by decide +kernel) (by decide +kernel) (o := 0) (o' := 7) (by decide) (by decide +kernel) (by decide +kernel) ((hI11.2.1 3).trans rfl) hP11 ?_
  refine lv_iload_n hx hb (show decode cX8_init 66 = .ok (.iload_n 1, 1) by decide +kernel) rfl (lv_at hl 0 rfl) ?_
  refine ac_new hC (n := 8) (i := 9) (ci := 6) (q := (RX6, TX6, 2)) rfl (by decide +kernel) (ab_tnm (List.mem_of_getElem? (i := 120) rfl) rfl) (ab_tnm (List.mem_of_getElem? (i := 121) rfl) rfl) (ab_tnm (List.mem_of_getElem? (i := 95) rfl) rfl) (show decode cX8_init 67 = .ok (.new 9, 3) by decide +kernel) hP11 hS11 (Nat.le_of_ble_eq_true rfl) (Nat.le_of_ble_eq_true rfl) (fun H12 hP12 hS12 => ?_)
  refine lv_dup hx hb (show decode cX8_init 70 = .ok (.dup, 1) by decide +kernel) rfl ?_
  refine lv_sipush (v := Int32.ofInt ((640 : Nat) : Int)) hx hb (show decode cX8_init 71 = .ok (.sipush 640, 3) by decide +kernel) (by decide) ?_
  refine ac_init hC hN ⟨rfl, rfl⟩ (n := 9) (d' := 1) (by decide) (ix := 66) (q := (yX6_init, cX6_init, 2, none, 6, (124, 123, 9999, 95), 2)) rfl ⟨rfl, rfl⟩ (ab_tnm (List.mem_of_getElem? (i := 123) rfl) rfl) (show decode cX8_init 74 = .ok (.invokespecial 11, 3) by decide +kernel) (ab_tnm (List.mem_of_getElem? (i := 122) rfl) rfl) (o := 8) (a := [.inr (.inl ((640 : Nat) : Int))]) (rest := [.ref (E.1 + 8), .int (Int32.ofInt ((0 : Nat) : Int)), .ref (E.1 + 7)]) (by decide +kernel) (mk_X6n E (o := 8) (N := 640) (by decide +kernel) (by decide +kernel) (by decide) (by decide +kernel) (Nat.le_of_ble_eq_true rfl) _) hP12 hS12 hl.1 (Nat.le_of_ble_eq_true rfl) (Nat.le_of_ble_eq_true rfl) (Nat.le_of_ble_eq_true rfl) (fun M13 H13 locs13 hM13 hP13 hS13 => ?_)
  have hI13 : ac_I 0 10 7 0 M0 _ _ := hI11.con (M' := M13) (by rw [hM13]; exact kf_X6 (by decide) (by decide +kernel) _) (by decide) (by decide)
  refine ac_aast hC (n := 10) (o := 7) (o' := 8) (i := 0) (.inl ⟨by decide +kernel, by decide +kernel⟩) (by decide) (by decide) (by decide) (by decide +kernel) (show decode cX8_init 77 = .ok (.aastore, 1) by decide +kernel) hP13 hS13 (fun H14 locs14 hP14 hS14 => ?_)
  have hI14 : ac_I 0 10 7 1 M0 _ _ := hI13.ast (v := ((8 : Nat) : Int)) (by decide) (by decide +kernel)
  refine lv_iinc (v := Int32.ofInt ((1 : Nat) : Int)) (lv' := [(1, .int (Int32.ofInt ((1 : Nat) : Int))), (0, .ref (E.1 + 0))]) hx hb (show decode cX8_init 78 = .ok (.iinc 1 1, 3) by decide +kernel) hl (k := 0) rfl (by decide) (by decide) rfl (fun ls hl => ?_)
  refine lv_goto (tgt := 56) hx hb (show decode cX8_init 81 = .ok (.goto (-25), 3) by decide +kernel) (by decide) ?_
  refine lv_iload_n hx hb (show decode cX8_init 56 = .ok (.iload_n 1, 1) by decide +kernel) rfl (lv_at hl 0 rfl) ?_
  refine lv_bipush (v := Int32.ofInt ((6 : Nat) : Int)) hx hb (show decode cX8_init 57 = .ok (.bipush 6, 2) by decide +kernel) (by decide) ?_
  refine lv_icmp_ge (tgt := 84) hx hb (show decode cX8_init 59 = .ok (.if_icmp .ge 25, 3) by decide +kernel) (by decide) (fun cq => ?_) (fun cq => ?_)
  · exact absurd cq (by decide)
  refine lv_aload_n hx hb (show decode cX8_init 62 = .ok (.aload_n 0, 1) by decide +kernel) rfl (lv_at hl 1 rfl) ?_
  refine ac_rdr hC (n := 10) (r := (0, 0, 8, 3, 560)) (show decode cX8_init 63 = .ok (.getfield 24, 3) by decide +kernel) (by decide +kernel) (o := 0) (o' := 7) (by decide) (by decide +kernel) (by decide +kernel) ((hI14.2.1 3).trans rfl) hP14 ?_
  refine lv_iload_n hx hb (show decode cX8_init 66 = .ok (.iload_n 1, 1) by decide +kernel) rfl (lv_at hl 0 rfl) ?_
  refine ac_new hC (n := 10) (i := 9) (ci := 6) (q := (RX6, TX6, 2)) rfl (by decide +kernel) (ab_tnm (List.mem_of_getElem? (i := 120) rfl) rfl) (ab_tnm (List.mem_of_getElem? (i := 121) rfl) rfl) (ab_tnm (List.mem_of_getElem? (i := 95) rfl) rfl) (show decode cX8_init 67 = .ok (.new 9, 3) by decide +kernel) hP14 hS14 (Nat.le_of_ble_eq_true rfl) (Nat.le_of_ble_eq_true rfl) (fun H15 hP15 hS15 => ?_)
  refine lv_dup hx hb (show decode cX8_init 70 = .ok (.dup, 1) by decide +kernel) rfl ?_
  refine lv_sipush (v := Int32.ofInt ((640 : Nat) : Int)) hx hb (show decode cX8_init 71 = .ok (.sipush 640, 3) by decide +kernel) (by decide) ?_
  refine ac_init hC hN ⟨rfl, rfl⟩ (n := 11) (d' := 1) (by decide) (ix := 66) (q := (yX6_init, cX6_init, 2, none, 6, (124, 123, 9999, 95), 2)) rfl ⟨rfl, rfl⟩ (ab_tnm (List.mem_of_getElem? (i := 123) rfl) rfl) (show decode cX8_init 74 = .ok (.invokespecial 11, 3) by decide +kernel) (ab_tnm (List.mem_of_getElem? (i := 122) rfl) rfl) (o := 10) (a := [.inr (.inl ((640 : Nat) : Int))]) (rest := [.ref (E.1 + 10), .int (Int32.ofInt ((1 : Nat) : Int)), .ref (E.1 + 7)]) (by decide +kernel) (mk_X6n E (o := 10) (N := 640) (by decide +kernel) (by decide +kernel) (by decide) (by decide +kernel) (Nat.le_of_ble_eq_true rfl) _) hP15 hS15 hl.1 (Nat.le_of_ble_eq_true rfl) (Nat.le_of_ble_eq_true rfl) (Nat.le_of_ble_eq_true rfl) (fun M16 H16 locs16 hM16 hP16 hS16 => ?_)
  have hI16 : ac_I 0 12 7 1 M0 _ _ := hI14.con (M' := M16) (by rw [hM16]; exact kf_X6 (by decide) (by decide +kernel) _) (by decide) (by decide)
  refine ac_aast hC (n := 12) (o := 7) (o' := 10) (i := 1) (.inl ⟨by decide +kernel, by decide +kernel⟩) (by decide) (by decide) (by decide) (by decide +kernel) (show decode cX8_init 77 = .ok (.aastore, 1) by decide +kernel) hP16 hS16 (fun H17 locs17 hP17 hS17 => ?_)
  have hI17 : ac_I 0 12 7 2 M0 _ _ := hI16.ast (v := ((10 : Nat) : Int)) (by decide) (by decide +kernel)
  refine lv_iinc (v := Int32.ofInt ((2 : Nat) : Int)) (lv' := [(1, .int (Int32.ofInt ((2 : Nat) : Int))), (0, .ref (E.1 + 0))]) hx hb (show decode cX8_init 78 = .ok (.iinc 1 1, 3) by decide +kernel) hl (k := 0) rfl (by decide) (by decide) rfl (fun ls hl => ?_)
  refine lv_goto (tgt := 56) hx hb (show decode cX8_init 81 = .ok (.goto (-25), 3) by decide +kernel) (by decide) ?_
  refine lv_iload_n hx hb (show decode cX8_init 56 = .ok (.iload_n 1, 1) by decide +kernel) rfl (lv_at hl 0 rfl) ?_
  refine lv_bipush (v := Int32.ofInt ((6 : Nat) : Int)) hx hb (show decode cX8_init 57 = .ok (.bipush 6, 2) by decide +kernel) (by decide) ?_
  refine lv_icmp_ge (tgt := 84) hx hb (show decode cX8_init 59 = .ok (.if_icmp .ge 25, 3) by decide +kernel) (by decide) (fun cq => ?_) (fun cq => ?_)
  · exact absurd cq (by decide)
  refine lv_aload_n hx hb (show decode cX8_init 62 = .ok (.aload_n 0, 1) by decide +kernel) rfl (lv_at hl 1 rfl) ?_
  refine ac_rdr hC (n := 12) (r := (0, 0, 8, 3, 560)) (show decode cX8_init 63 = .ok (.getfield 24, 3) by decide +kernel) (by decide +kernel) (o := 0) (o' := 7) (by decide) (by decide +kernel) (by decide +kernel) ((hI17.2.1 3).trans rfl) hP17 ?_
  refine lv_iload_n hx hb (show decode cX8_init 66 = .ok (.iload_n 1, 1) by decide +kernel) rfl (lv_at hl 0 rfl) ?_
  refine ac_new hC (n := 12) (i := 9) (ci := 6) (q := (RX6, TX6, 2)) rfl (by decide +kernel) (ab_tnm (List.mem_of_getElem? (i := 120) rfl) rfl) (ab_tnm (List.mem_of_getElem? (i := 121) rfl) rfl) (ab_tnm (List.mem_of_getElem? (i := 95) rfl) rfl) (show decode cX8_init 67 = .ok (.new 9, 3) by decide +kernel) hP17 hS17 (Nat.le_of_ble_eq_true rfl) (Nat.le_of_ble_eq_true rfl) (fun H18 hP18 hS18 => ?_)
  refine lv_dup hx hb (show decode cX8_init 70 = .ok (.dup, 1) by decide +kernel) rfl ?_
  refine lv_sipush (v := Int32.ofInt ((640 : Nat) : Int)) hx hb (show decode cX8_init 71 = .ok (.sipush 640, 3) by decide +kernel) (by decide) ?_
  refine ac_init hC hN ⟨rfl, rfl⟩ (n := 13) (d' := 1) (by decide) (ix := 66) (q := (yX6_init, cX6_init, 2, none, 6, (124, 123, 9999, 95), 2)) rfl ⟨rfl, rfl⟩ (ab_tnm (List.mem_of_getElem? (i := 123) rfl) rfl) (show decode cX8_init 74 = .ok (.invokespecial 11, 3) by decide +kernel) (ab_tnm (List.mem_of_getElem? (i := 122) rfl) rfl) (o := 12) (a := [.inr (.inl ((640 : Nat) : Int))]) (rest := [.ref (E.1 + 12), .int (Int32.ofInt ((2 : Nat) : Int)), .ref (E.1 + 7)]) (by decide +kernel) (mk_X6n E (o := 12) (N := 640) (by decide +kernel) (by decide +kernel) (by decide) (by decide +kernel) (Nat.le_of_ble_eq_true rfl) _) hP18 hS18 hl.1 (Nat.le_of_ble_eq_true rfl) (Nat.le_of_ble_eq_true rfl) (Nat.le_of_ble_eq_true rfl) (fun M19 H19 locs19 hM19 hP19 hS19 => ?_)
  have hI19 : ac_I 0 14 7 2 M0 _ _ := hI17.con (M' := M19) (by rw [hM19]; exact kf_X6 (by decide) (by decide +kernel) _) (by decide) (by decide)
  refine ac_aast hC (n := 14) (o := 7) (o' := 12) (i := 2) (.inl ⟨by decide +kernel, by decide +kernel⟩) (by decide) (by decide) (by decide) (by decide +kernel) (show decode cX8_init 77 = .ok (.aastore, 1) by decide +kernel) hP19 hS19 (fun H20 locs20 hP20 hS20 => ?_)
  have hI20 : ac_I 0 14 7 3 M0 _ _ := hI19.ast (v := ((12 : Nat) : Int)) (by decide) (by decide +kernel)
  refine lv_iinc (v := Int32.ofInt ((3 : Nat) : Int)) (lv' := [(1, .int (Int32.ofInt ((3 : Nat) : Int))), (0, .ref (E.1 + 0))]) hx hb (show decode cX8_init 78 = .ok (.iinc 1 1, 3) by decide +kernel) hl (k := 0) rfl (by decide) (by decide) rfl (fun ls hl => ?_)
  refine lv_goto (tgt := 56) hx hb (show decode cX8_init 81 = .ok (.goto (-25), 3) by decide +kernel) (by decide) ?_
  refine lv_iload_n hx hb (show decode cX8_init 56 = .ok (.iload_n 1, 1) by decide +kernel) rfl (lv_at hl 0 rfl) ?_
  refine lv_bipush (v := Int32.ofInt ((6 : Nat) : Int)) hx hb (show decode cX8_init 57 = .ok (.bipush 6, 2) by decide +kernel) (by decide) ?_
  refine lv_icmp_ge (tgt := 84) hx hb (show decode cX8_init 59 = .ok (.if_icmp .ge 25, 3) by decide +kernel) (by decide) (fun cq => ?_) (fun cq => ?_)
  · exact absurd cq (by decide)
  refine lv_aload_n hx hb (show decode cX8_init 62 = .ok (.aload_n 0, 1) by decide +kernel) rfl (lv_at hl 1 rfl) ?_
  refine ac_rdr hC (n := 14) (r := (0, 0, 8, 3, 560)) (show decode cX8_init 63 = .ok (.getfield 24, 3) by decide +kernel) (by decide +kernel) (o := 0) (o' := 7) (by decide) (by decide +kernel) (by decide +kernel) ((hI20.2.1 3).trans rfl) hP20 ?_
  refine lv_iload_n hx hb (show decode cX8_init 66 = .ok (.iload_n 1, 1) by decide +kernel) rfl (lv_at hl 0 rfl) ?_
  refine ac_new hC (n := 14) (i := 9) (ci := 6) (q := (RX6, TX6, 2)) rfl (by decide +kernel) (ab_tnm (List.mem_of_getElem? (i := 120) rfl) rfl) (ab_tnm (List.mem_of_getElem? (i := 121) rfl) rfl) (ab_tnm (List.mem_of_getElem? (i := 95) rfl) rfl) (show decode cX8_init 67 = .ok (.new 9, 3) by decide +kernel) hP20 hS20 (Nat.le_of_ble_eq_true rfl) (Nat.le_of_ble_eq_true rfl) (fun H21 hP21 hS21 => ?_)
  refine lv_dup hx hb (show decode cX8_init 70 = .ok (.dup, 1) by decide +kernel) rfl ?_
  refine lv_sipush (v := Int32.ofInt ((640 : Nat) : Int)) hx hb (show decode cX8_init 71 = .ok (.sipush 640, 3) by decide +kernel) (by decide) ?_
  refine ac_init hC hN ⟨rfl, rfl⟩ (n := 15) (d' := 1) (by decide) (ix := 66) (q := (yX6_init, cX6_init, 2, none, 6, (124, 123, 9999, 95), 2)) rfl ⟨rfl, rfl⟩ (ab_tnm (List.mem_of_getElem? (i := 123) rfl) rfl) (show decode cX8_init 74 = .ok (.invokespecial 11, 3) by decide +kernel) (ab_tnm (List.mem_of_getElem? (i := 122) rfl) rfl) (o := 14) (a := [.inr (.inl ((640 : Nat) : Int))]) (rest := [.ref (E.1 + 14), .int (Int32.ofInt ((3 : Nat) : Int)), .ref (E.1 + 7)]) (by decide +kernel) (mk_X6n E (o := 14) (N := 640) (by decide +kernel) (by decide +kernel) (by decide) (by decide +kernel) (Nat.le_of_ble_eq_true rfl) _) hP21 hS21 hl.1 (Nat.le_of_ble_eq_true rfl) (Nat.le_of_ble_eq_true rfl) (Nat.le_of_ble_eq_true rfl) (fun M22 H22 locs22 hM22 hP22 hS22 => ?_)
  have hI22 : ac_I 0 16 7 3 M0 _ _ := hI20.con (M' := M22) (by rw [hM22]; exact kf_X6 (by decide) (by decide +kernel) _) (by decide) (by decide)
  refine ac_aast hC (n := 16) (o := 7) (o' := 14) (i := 3) (.inl ⟨by decide +kernel, by decide +kernel⟩) (by decide) (by decide) (by decide) (by decide +kernel) (show decode cX8_init 77 = .ok (.aastore, 1) by decide +kernel) hP22 hS22 (fun H23 locs23 hP23 hS23 => ?_)
  have hI23 : ac_I 0 16 7 4 M0 _ _ := hI22.ast (v := ((14 : Nat) : Int)) (by decide) (by decide +kernel)
  refine lv_iinc (v := Int32.ofInt ((4 : Nat) : Int)) (lv' := [(1, .int (Int32.ofInt ((4 : Nat) : Int))), (0, .ref (E.1 + 0))]) hx hb (show decode cX8_init 78 = .ok (.iinc 1 1, 3) by decide +kernel) hl (k := 0) rfl (by decide) (by decide) rfl (fun ls hl => ?_)
  refine lv_goto (tgt := 56) hx hb (show decode cX8_init 81 = .ok (.goto (-25), 3) by decide +kernel) (by decide) ?_
  refine lv_iload_n hx hb (show decode cX8_init 56 = .ok (.iload_n 1, 1) by decide +kernel) rfl (lv_at hl 0 rfl) ?_
  refine lv_bipush (v := Int32.ofInt ((6 : Nat) : Int)) hx hb (show decode cX8_init 57 = .ok (.bipush 6, 2) by decide +kernel) (by decide) ?_
  refine lv_icmp_ge (tgt := 84) hx hb (show decode cX8_init 59 = .ok (.if_icmp .ge 25, 3) by decide +kernel) (by decide) (fun cq => ?_) (fun cq => ?_)
  · exact absurd cq (by decide)
  refine lv_aload_n hx hb (show decode cX8_init 62 = .ok (.aload_n 0, 1) by decide +kernel) rfl (lv_at hl 1 rfl) ?_
  refine ac_rdr hC (n := 16) (r := (0, 0, 8, 3, 560)) (show decode cX8_init 63 = .ok (.getfield 24, 3) by decide +kernel) (by decide +kernel) (o := 0) (o' := 7) (by decide) (by decide +kernel) (by decide +kernel) ((hI23.2.1 3).trans rfl) hP23 ?_
  refine lv_iload_n hx hb (show decode cX8_init 66 = .ok (.iload_n 1, 1) by decide +kernel) rfl (lv_at hl 0 rfl) ?_
  refine ac_new hC (n := 16) (i := 9) (ci := 6) (q := (RX6, TX6, 2)) rfl (by decide +kernel) (ab_tnm (List.mem_of_getElem? (i := 120) rfl) rfl) (ab_tnm (List.mem_of_getElem? (i := 121) rfl) rfl) (ab_tnm (List.mem_of_getElem? (i := 95) rfl) rfl) (show decode cX8_init 67 = .ok (.new 9, 3) by decide +kernel) hP23 hS23 (Nat.le_of_ble_eq_true rfl) (Nat.le_of_ble_eq_true rfl) (fun H24 hP24 hS24 => ?_)
  refine lv_dup hx hb (show decode cX8_init 70 = .ok (.dup, 1) by decide +kernel) rfl ?_
  refine lv_sipush (v := Int32.ofInt ((640 : Nat) : Int)) hx hb (show decode cX8_init 71 = .ok (.sipush 640, 3) by decide +kernel) (by decide) ?_
  refine ac_init hC hN ⟨rfl, rfl⟩ (n := 17) (d' := 1) (by decide) (ix := 66) (q := (yX6_init, cX6_init, 2, none, 6, (124, 123, 9999, 95), 2)) rfl ⟨rfl, rfl⟩ (ab_tnm (List.mem_of_getElem? (i := 123) rfl) rfl) (show decode cX8_init 74 = .ok (.invokespecial 11, 3) by decide +kernel) (ab_tnm (List.mem_of_getElem? (i := 122) rfl) rfl) (o := 16) (a := [.inr (.inl ((640 : Nat) : Int))]) (rest := [.ref (E.1 + 16), .int (Int32.ofInt ((4 : Nat) : Int)), .ref (E.1 + 7)]) (by decide +kernel) (mk_X6n E (o := 16) (N := 640) (by decide +kernel) (by decide +kernel) (by decide) (by decide +kernel) (Nat.le_of_ble_eq_true rfl) _) hP24 hS24 hl.1 (Nat.le_of_ble_eq_true rfl) (Nat.le_of_ble_eq_true rfl) (Nat.le_of_ble_eq_true rfl) (fun M25 H25 locs25 hM25 hP25 hS25 => ?_)
  have hI25 : ac_I 0 18 7 4 M0 _ _ := hI23.con (M' := M25) (by rw [hM25]; exact kf_X6 (by decide) (by decide +kernel) _) (by decide) (by decide)
  refine ac_aast hC (n := 18) (o := 7) (o' := 16) (i := 4) (.inl ⟨by decide +kernel, by decide +kernel⟩) (by decide) (by decide) (by decide) (by decide +kernel) (show decode cX8_init 77 = .ok (.aastore, 1) by decide +kernel) hP25 hS25 (fun H26 locs26 hP26 hS26 => ?_)
  have hI26 : ac_I 0 18 7 5 M0 _ _ := hI25.ast (v := ((16 : Nat) : Int)) (by decide) (by decide +kernel)
  refine lv_iinc (v := Int32.ofInt ((5 : Nat) : Int)) (lv' := [(1, .int (Int32.ofInt ((5 : Nat) : Int))), (0, .ref (E.1 + 0))]) hx hb (show decode cX8_init 78 = .ok (.iinc 1 1, 3) by decide +kernel) hl (k := 0) rfl (by decide) (by decide) rfl (fun ls hl => ?_)
  refine lv_goto (tgt := 56) hx hb (show decode cX8_init 81 = .ok (.goto (-25), 3) by decide +kernel) (by decide) ?_
  refine lv_iload_n hx hb (show decode cX8_init 56 = .ok (.iload_n 1, 1) by decide +kernel) rfl (lv_at hl 0 rfl) ?_
  refine lv_bipush (v := Int32.ofInt ((6 : Nat) : Int)) hx hb (show decode cX8_init 57 = .ok (.bipush 6, 2) by decide +kernel) (by decide) ?_
  refine lv_icmp_ge (tgt := 84) hx hb (show decode cX8_init 59 = .ok (.if_icmp .ge 25, 3) by decide +kernel) (by decide) (fun cq => ?_) (fun cq => ?_)
  · exact absurd cq (by decide)
  refine lv_aload_n hx hb (show decode cX8_init 62 = .ok (.aload_n 0, 1) by decide +kernel) rfl (lv_at hl 1 rfl) ?_
  refine ac_rdr hC (n := 18) (r := (0, 0, 8, 3, 560)) (show decode cX8_init 63 = .ok (.getfield 24, 3) by decide +kernel) (by decide +kernel) (o := 0) (o' := 7) (by decide) (by decide +kernel) (by decide +kernel) ((hI26.2.1 3).trans rfl) hP26 ?_
  refine lv_iload_n hx hb (show decode cX8_init 66 = .ok (.iload_n 1, 1) by decide +kernel) rfl (lv_at hl 0 rfl) ?_
  refine ac_new hC (n := 18) (i := 9) (ci := 6) (q := (RX6, TX6, 2)) rfl (by decide +kernel) (ab_tnm (List.mem_of_getElem? (i := 120) rfl) rfl) (ab_tnm (List.mem_of_getElem? (i := 121) rfl) rfl) (ab_tnm (List.mem_of_getElem? (i := 95) rfl) rfl) (show decode cX8_init 67 = .ok (.new 9, 3) by decide +kernel) hP26 hS26 (Nat.le_of_ble_eq_true rfl) (Nat.le_of_ble_eq_true rfl) (fun H27 hP27 hS27 => ?_)
  refine lv_dup hx hb (show decode cX8_init 70 = .ok (.dup, 1) by decide +kernel) rfl ?_
  refine lv_sipush (v := Int32.ofInt ((640 : Nat) : Int)) hx hb (show decode cX8_init 71 = .ok (.sipush 640, 3) by decide +kernel) (by decide) ?_
  refine ac_init hC hN ⟨rfl, rfl⟩ (n := 19) (d' := 1) (by decide) (ix := 66) (q := (yX6_init, cX6_init, 2, none, 6, (124, 123, 9999, 95), 2)) rfl ⟨rfl, rfl⟩ (ab_tnm (List.mem_of_getElem? (i := 123) rfl) rfl) (show decode cX8_init 74 = .ok (.invokespecial 11, 3) by decide +kernel) (ab_tnm (List.mem_of_getElem? (i := 122) rfl) rfl) (o := 18) (a := [.inr (.inl ((640 : Nat) : Int))]) (rest := [.ref (E.1 + 18), .int (Int32.ofInt ((5 : Nat) : Int)), .ref (E.1 + 7)]) (by decide +kernel) (mk_X6n E (o := 18) (N := 640) (by decide +kernel) (by decide +kernel) (by decide) (by decide +kernel) (Nat.le_of_ble_eq_true rfl) _) hP27 hS27 hl.1 (Nat.le_of_ble_eq_true rfl) (Nat.le_of_ble_eq_true rfl) (Nat.le_of_ble_eq_true rfl) (fun M28 H28 locs28 hM28 hP28 hS28 => ?_)
  have hI28 : ac_I 0 20 7 5 M0 _ _ := hI26.con (M' := M28) (by rw [hM28]; exact kf_X6 (by decide) (by decide +kernel) _) (by decide) (by decide)
  refine ac_aast hC (n := 20) (o := 7) (o' := 18) (i := 5) (.inl ⟨by decide +kernel, by decide +kernel⟩) (by decide) (by decide) (by decide) (by decide +kernel) (show decode cX8_init 77 = .ok (.aastore, 1) by decide +kernel) hP28 hS28 (fun H29 locs29 hP29 hS29 => ?_)
  have hI29 : ac_I 0 20 7 6 M0 _ _ := hI28.ast (v := ((18 : Nat) : Int)) (by decide) (by decide +kernel)
  have hI30 := hI29.fin (fun k hk => by have h := (show ac_rc (ab_kd 7) 7 k = true from hk); rw [show ab_kd 7 = 26 by decide +kernel] at h; unfold ac_rc at h; rw [show ab_ln 7 = 6 by decide +kernel] at h; simpa using h)
  refine lv_iinc (v := Int32.ofInt ((6 : Nat) : Int)) (lv' := [(1, .int (Int32.ofInt ((6 : Nat) : Int))), (0, .ref (E.1 + 0))]) hx hb (show decode cX8_init 78 = .ok (.iinc 1 1, 3) by decide +kernel) hl (k := 0) rfl (by decide) (by decide) rfl (fun ls hl => ?_)
  refine lv_goto (tgt := 56) hx hb (show decode cX8_init 81 = .ok (.goto (-25), 3) by decide +kernel) (by decide) ?_
  refine lv_iload_n hx hb (show decode cX8_init 56 = .ok (.iload_n 1, 1) by decide +kernel) rfl (lv_at hl 0 rfl) ?_
  refine lv_bipush (v := Int32.ofInt ((6 : Nat) : Int)) hx hb (show decode cX8_init 57 = .ok (.bipush 6, 2) by decide +kernel) (by decide) ?_
  refine lv_icmp_ge (tgt := 84) hx hb (show decode cX8_init 59 = .ok (.if_icmp .ge 25, 3) by decide +kernel) (by decide) (fun cq => ?_) (fun cq => ?_)
  rotate_left
  · exact absurd (by decide) cq
  refine lv_aload_n hx hb (show decode cX8_init 84 = .ok (.aload_n 0, 1) by decide +kernel) rfl (lv_at hl 1 rfl) ?_
  refine lv_iconst (v := Int32.ofInt ((2 : Nat) : Int)) hx hb (show decode cX8_init 85 = .ok (.iconst 2, 1) by decide +kernel) (by decide) ?_
  refine ac_newqn hC (n := 20) (i := 9) (c0 := 26) (N := 2) (C := RX6) (ab_tnm (List.mem_of_getElem? (i := 120) rfl) rfl) (va_AO.use hN.2.2) (by decide +kernel) (by decide +kernel) (by right; exact ⟨rfl, rfl⟩) (Nat.le_of_ble_eq_true rfl) (show decode cX8_init 86 = .ok (.anewarray 9, 3) by decide +kernel) hP29 hS29 (Nat.le_of_ble_eq_true rfl) (Nat.le_of_ble_eq_true rfl) (fun H31 hP31 hS31 => ?_)
  have hI31 : ac_I 0 21 20 0 M0 _ _ := hI30.ref (by decide)
  refine ac_putF hC hin (n := 21) (r := (0, 0, 8, 4, 561)) (show decode cX8_init 89 = .ok (.putfield 28, 3) by decide +kernel) (by decide +kernel) rfl (by decide) (by decide +kernel) (o := 0) (o' := 20) hP31 hS31 (by decide +kernel) ⟨_, rfl, rfl⟩ (fun H32 locs32 hP32 hS32 => ?_)
  have hI32 := hI31.put (j := 4) (v := ((20 : Nat) : Int)) (fun e => absurd e (by decide))
  refine lv_iconst (v := Int32.ofInt ((0 : Nat) : Int)) hx hb (show decode cX8_init 92 = .ok (.iconst 0, 1) by decide +kernel) (by decide) ?_
  refine lv_istore_n (lv' := [(1, .int (Int32.ofInt ((0 : Nat) : Int))), (0, .ref (E.1 + 0))]) hx hb (show decode cX8_init 93 = .ok (.istore_n 1, 1) by decide +kernel) rfl hl (by decide) rfl (fun ls hl => ?_)
  refine lv_iload_n hx hb (show decode cX8_init 94 = .ok (.iload_n 1, 1) by decide +kernel) rfl (lv_at hl 0 rfl) ?_
  refine lv_iconst (v := Int32.ofInt ((2 : Nat) : Int)) hx hb (show decode cX8_init 95 = .ok (.iconst 2, 1) by decide +kernel) (by decide) ?_
  refine lv_icmp_ge (tgt := 121) hx hb (show decode cX8_init 96 = .ok (.if_icmp .ge 25, 3) by decide +kernel) (by decide) (fun cq => ?_) (fun cq => ?_)
  · exact absurd cq (by decide)
  refine lv_aload_n hx hb (show decode cX8_init 99 = .ok (.aload_n 0, 1) by decide +kernel) rfl (lv_at hl 1 rfl) ?_
  refine ac_rdr hC (n := 21) (r := (0, 0, 8, 4, 561)) (show decode cX8_init 100 = .ok (.getfield 28, 3) by decide +kernel) (by decide +kernel) (o := 0) (o' := 20) (by decide) (by decide +kernel) (by decide +kernel) ((hI32.2.1 4).trans rfl) hP32 ?_
  refine lv_iload_n hx hb (show decode cX8_init 103 = .ok (.iload_n 1, 1) by decide +kernel) rfl (lv_at hl 0 rfl) ?_
  refine ac_new hC (n := 21) (i := 9) (ci := 6) (q := (RX6, TX6, 2)) rfl (by decide +kernel) (ab_tnm (List.mem_of_getElem? (i := 120) rfl) rfl) (ab_tnm (List.mem_of_getElem? (i := 121) rfl) rfl) (ab_tnm (List.mem_of_getElem? (i := 95) rfl) rfl) (show decode cX8_init 104 = .ok (.new 9, 3) by decide +kernel) hP32 hS32 (Nat.le_of_ble_eq_true rfl) (Nat.le_of_ble_eq_true rfl) (fun H33 hP33 hS33 => ?_)
  refine lv_dup hx hb (show decode cX8_init 107 = .ok (.dup, 1) by decide +kernel) rfl ?_
  refine lv_sipush (v := Int32.ofInt ((640 : Nat) : Int)) hx hb (show decode cX8_init 108 = .ok (.sipush 640, 3) by decide +kernel) (by decide) ?_
  refine ac_init hC hN ⟨rfl, rfl⟩ (n := 22) (d' := 1) (by decide) (ix := 66) (q := (yX6_init, cX6_init, 2, none, 6, (124, 123, 9999, 95), 2)) rfl ⟨rfl, rfl⟩ (ab_tnm (List.mem_of_getElem? (i := 123) rfl) rfl) (show decode cX8_init 111 = .ok (.invokespecial 11, 3) by decide +kernel) (ab_tnm (List.mem_of_getElem? (i := 122) rfl) rfl) (o := 21) (a := [.inr (.inl ((640 : Nat) : Int))]) (rest := [.ref (E.1 + 21), .int (Int32.ofInt ((0 : Nat) : Int)), .ref (E.1 + 20)]) (by decide +kernel) (mk_X6n E (o := 21) (N := 640) (by decide +kernel) (by decide +kernel) (by decide) (by decide +kernel) (Nat.le_of_ble_eq_true rfl) _) hP33 hS33 hl.1 (Nat.le_of_ble_eq_true rfl) (Nat.le_of_ble_eq_true rfl) (Nat.le_of_ble_eq_true rfl) (fun M34 H34 locs34 hM34 hP34 hS34 => ?_)
  have hI34 : ac_I 0 23 20 0 M0 _ _ := hI32.con (M' := M34) (by rw [hM34]; exact kf_X6 (by decide) (by decide +kernel) _) (by decide) (by decide)
  refine ac_aast hC (n := 23) (o := 20) (o' := 21) (i := 0) (.inl ⟨by decide +kernel, by decide +kernel⟩) (by decide) (by decide) (by decide) (by decide +kernel) (show decode cX8_init 114 = .ok (.aastore, 1) by decide +kernel) hP34 hS34 (fun H35 locs35 hP35 hS35 => ?_)
  have hI35 : ac_I 0 23 20 1 M0 _ _ := hI34.ast (v := ((21 : Nat) : Int)) (by decide) (by decide +kernel)
  refine lv_iinc (v := Int32.ofInt ((1 : Nat) : Int)) (lv' := [(1, .int (Int32.ofInt ((1 : Nat) : Int))), (0, .ref (E.1 + 0))]) hx hb (show decode cX8_init 115 = .ok (.iinc 1 1, 3) by decide +kernel) hl (k := 0) rfl (by decide) (by decide) rfl (fun ls hl => ?_)
  refine lv_goto (tgt := 94) hx hb (show decode cX8_init 118 = .ok (.goto (-24), 3) by decide +kernel) (by decide) ?_
  refine lv_iload_n hx hb (show decode cX8_init 94 = .ok (.iload_n 1, 1) by decide +kernel) rfl (lv_at hl 0 rfl) ?_
  refine lv_iconst (v := Int32.ofInt ((2 : Nat) : Int)) hx hb (show decode cX8_init 95 = .ok (.iconst 2, 1) by decide +kernel) (by decide) ?_
  refine lv_icmp_ge (tgt := 121) hx hb (show decode cX8_init 96 = .ok (.if_icmp .ge 25, 3) by decide +kernel) (by decide) (fun cq => ?_) (fun cq => ?_)
  · exact absurd cq (by decide)
  refine lv_aload_n hx hb (show decode cX8_init 99 = .ok (.aload_n 0, 1) by decide +kernel) rfl (lv_at hl 1 rfl) ?_
  refine ac_rdr hC (n := 23) (r := (0, 0, 8, 4, 561)) (show decode cX8_init 100 = .ok (.getfield 28, 3) by decide +kernel) (by decide +kernel) (o := 0) (o' := 20) (by decide) (by decide +kernel) (by decide +kernel) ((hI35.2.1 4).trans rfl) hP35 ?_
  refine lv_iload_n hx hb (show decode cX8_init 103 = .ok (.iload_n 1, 1) by decide +kernel) rfl (lv_at hl 0 rfl) ?_
  refine ac_new hC (n := 23) (i := 9) (ci := 6) (q := (RX6, TX6, 2)) rfl (by decide +kernel) (ab_tnm (List.mem_of_getElem? (i := 120) rfl) rfl) (ab_tnm (List.mem_of_getElem? (i := 121) rfl) rfl) (ab_tnm (List.mem_of_getElem? (i := 95) rfl) rfl) (show decode cX8_init 104 = .ok (.new 9, 3) by decide +kernel) hP35 hS35 (Nat.le_of_ble_eq_true rfl) (Nat.le_of_ble_eq_true rfl) (fun H36 hP36 hS36 => ?_)
  refine lv_dup hx hb (show decode cX8_init 107 = .ok (.dup, 1) by decide +kernel) rfl ?_
  refine lv_sipush (v := Int32.ofInt ((640 : Nat) : Int)) hx hb (show decode cX8_init 108 = .ok (.sipush 640, 3) by decide +kernel) (by decide) ?_
  refine ac_init hC hN ⟨rfl, rfl⟩ (n := 24) (d' := 1) (by decide) (ix := 66) (q := (yX6_init, cX6_init, 2, none, 6, (124, 123, 9999, 95), 2)) rfl ⟨rfl, rfl⟩ (ab_tnm (List.mem_of_getElem? (i := 123) rfl) rfl) (show decode cX8_init 111 = .ok (.invokespecial 11, 3) by decide +kernel) (ab_tnm (List.mem_of_getElem? (i := 122) rfl) rfl) (o := 23) (a := [.inr (.inl ((640 : Nat) : Int))]) (rest := [.ref (E.1 + 23), .int (Int32.ofInt ((1 : Nat) : Int)), .ref (E.1 + 20)]) (by decide +kernel) (mk_X6n E (o := 23) (N := 640) (by decide +kernel) (by decide +kernel) (by decide) (by decide +kernel) (Nat.le_of_ble_eq_true rfl) _) hP36 hS36 hl.1 (Nat.le_of_ble_eq_true rfl) (Nat.le_of_ble_eq_true rfl) (Nat.le_of_ble_eq_true rfl) (fun M37 H37 locs37 hM37 hP37 hS37 => ?_)
  have hI37 : ac_I 0 25 20 1 M0 _ _ := hI35.con (M' := M37) (by rw [hM37]; exact kf_X6 (by decide) (by decide +kernel) _) (by decide) (by decide)
  refine ac_aast hC (n := 25) (o := 20) (o' := 23) (i := 1) (.inl ⟨by decide +kernel, by decide +kernel⟩) (by decide) (by decide) (by decide) (by decide +kernel) (show decode cX8_init 114 = .ok (.aastore, 1) by decide +kernel) hP37 hS37 (fun H38 locs38 hP38 hS38 => ?_)
  have hI38 : ac_I 0 25 20 2 M0 _ _ := hI37.ast (v := ((23 : Nat) : Int)) (by decide) (by decide +kernel)
  have hI39 := hI38.fin (fun k hk => by have h := (show ac_rc (ab_kd 20) 20 k = true from hk); rw [show ab_kd 20 = 26 by decide +kernel] at h; unfold ac_rc at h; rw [show ab_ln 20 = 2 by decide +kernel] at h; simpa using h)
  refine lv_iinc (v := Int32.ofInt ((2 : Nat) : Int)) (lv' := [(1, .int (Int32.ofInt ((2 : Nat) : Int))), (0, .ref (E.1 + 0))]) hx hb (show decode cX8_init 115 = .ok (.iinc 1 1, 3) by decide +kernel) hl (k := 0) rfl (by decide) (by decide) rfl (fun ls hl => ?_)
  refine lv_goto (tgt := 94) hx hb (show decode cX8_init 118 = .ok (.goto (-24), 3) by decide +kernel) (by decide) ?_
  refine lv_iload_n hx hb (show decode cX8_init 94 = .ok (.iload_n 1, 1) by decide +kernel) rfl (lv_at hl 0 rfl) ?_
  refine lv_iconst (v := Int32.ofInt ((2 : Nat) : Int)) hx hb (show decode cX8_init 95 = .ok (.iconst 2, 1) by decide +kernel) (by decide) ?_
  refine lv_icmp_ge (tgt := 121) hx hb (show decode cX8_init 96 = .ok (.if_icmp .ge 25, 3) by decide +kernel) (by decide) (fun cq => ?_) (fun cq => ?_)
  rotate_left
  · exact absurd (by decide) cq
  refine lv_aload_n hx hb (show decode cX8_init 121 = .ok (.aload_n 0, 1) by decide +kernel) rfl (lv_at hl 1 rfl) ?_
  refine lv_iconst (v := Int32.ofInt ((2 : Nat) : Int)) hx hb (show decode cX8_init 122 = .ok (.iconst 2, 1) by decide +kernel) (by decide) ?_
  refine ac_newan hC (n := 25) (atype := .boolean) (c0 := 23) (N := 2) (ab_tnm (List.mem_of_getElem? (i := 263) rfl) rfl) (by decide +kernel) (by decide +kernel) (by right; right; right; left; exact ⟨rfl, rfl⟩) (Nat.le_of_ble_eq_true rfl) (show decode cX8_init 123 = .ok (.newarray .boolean, 2) by decide +kernel) hP38 hS38 (Nat.le_of_ble_eq_true rfl) (Nat.le_of_ble_eq_true rfl) (fun H40 hP40 hS40 => ?_)
  have hI40 : ac_I 0 26 0 0 M0 _ _ := hI39.con (kf_nw (by decide +kernel) (by decide +kernel) _) (by decide) (by decide)
  refine ac_putF hC hin (n := 26) (r := (0, 0, 8, 5, 562)) (show decode cX8_init 125 = .ok (.putfield 31, 3) by decide +kernel) (by decide +kernel) rfl (by decide) (by decide +kernel) (o := 0) (o' := 25) hP40 hS40 (by decide +kernel) ⟨_, rfl, rfl⟩ (fun H41 locs41 hP41 hS41 => ?_)
  have hI41 := hI40.put (j := 5) (v := ((25 : Nat) : Int)) (fun _ => rfl)
  refine lv_aload_n hx hb (show decode cX8_init 128 = .ok (.aload_n 0, 1) by decide +kernel) rfl (lv_at hl 1 rfl) ?_
  refine ac_new hC (n := 26) (i := 35) (ci := 1) (q := (RX1, TX1, 12)) rfl (by decide +kernel) (ab_tnm (List.mem_of_getElem? (i := 140) rfl) rfl) (ab_tnm (List.mem_of_getElem? (i := 141) rfl) rfl) (ab_tnm (List.mem_of_getElem? (i := 97) rfl) rfl) (show decode cX8_init 129 = .ok (.new 35, 3) by decide +kernel) hP41 hS41 (Nat.le_of_ble_eq_true rfl) (Nat.le_of_ble_eq_true rfl) (fun H42 hP42 hS42 => ?_)
  refine lv_dup hx hb (show decode cX8_init 132 = .ok (.dup, 1) by decide +kernel) rfl ?_
  refine lv_aload_n hx hb (show decode cX8_init 133 = .ok (.aload_n 0, 1) by decide +kernel) rfl (lv_at hl 1 rfl) ?_
  refine ac_rdr hC (n := 27) (r := (0, 0, 8, 1, 558)) (show decode cX8_init 134 = .ok (.getfield 18, 3) by decide +kernel) (by decide +kernel) (o := 0) (o' := 3) (by decide) (by decide +kernel) (by decide +kernel) (by exact (if_neg (by decide)).trans ((hI41.2.1 1).trans rfl)) hP42 ?_
  refine ac_init hC hN ⟨rfl, rfl⟩ (n := 27) (d' := 2) (by decide) (ix := 12) (q := (yX1_init, cX1_init, 3, none, 1, (144, 143, 9999, 97), 2)) rfl ⟨rfl, rfl⟩ (ab_tnm (List.mem_of_getElem? (i := 143) rfl) rfl) (show decode cX8_init 137 = .ok (.invokespecial 37, 3) by decide +kernel) (ab_tnm (List.mem_of_getElem? (i := 142) rfl) rfl) (o := 26) (a := [.inr (.inr (.inr (3, 6, 0)))]) (rest := [.ref (E.1 + 26), .ref (E.1 + 0)]) (by decide +kernel) (mk_X1_26 E _) hP42 hS42 hl.1 (Nat.le_of_ble_eq_true rfl) (Nat.le_of_ble_eq_true rfl) (Nat.le_of_ble_eq_true rfl) (fun M43 H43 locs43 hM43 hP43 hS43 => ?_)
  have hI43 : ac_I 0 395 0 0 M0 _ _ := hI41.con (M' := M43) (hM43) (by decide) (by decide)
  refine ac_putF hC hin (n := 395) (r := (0, 0, 8, 7, 564)) (show decode cX8_init 140 = .ok (.putfield 40, 3) by decide +kernel) (by decide +kernel) rfl (by decide) (by decide +kernel) (o := 0) (o' := 26) hP43 hS43 (by decide +kernel) ⟨_, rfl, rfl⟩ (fun H44 locs44 hP44 hS44 => ?_)
  have hI44 := hI43.put (j := 7) (v := ((26 : Nat) : Int)) (fun _ => rfl)
  refine lv_aload_n hx hb (show decode cX8_init 143 = .ok (.aload_n 0, 1) by decide +kernel) rfl (lv_at hl 1 rfl) ?_
  refine ac_new hC (n := 395) (i := 35) (ci := 1) (q := (RX1, TX1, 12)) rfl (by decide +kernel) (ab_tnm (List.mem_of_getElem? (i := 140) rfl) rfl) (ab_tnm (List.mem_of_getElem? (i := 141) rfl) rfl) (ab_tnm (List.mem_of_getElem? (i := 97) rfl) rfl) (show decode cX8_init 144 = .ok (.new 35, 3) by decide +kernel) hP44 hS44 (Nat.le_of_ble_eq_true rfl) (Nat.le_of_ble_eq_true rfl) (fun H45 hP45 hS45 => ?_)
  refine lv_dup hx hb (show decode cX8_init 147 = .ok (.dup, 1) by decide +kernel) rfl ?_
  refine lv_aload_n hx hb (show decode cX8_init 148 = .ok (.aload_n 0, 1) by decide +kernel) rfl (lv_at hl 1 rfl) ?_
  refine ac_rdr hC (n := 396) (r := (0, 0, 8, 0, 557)) (show decode cX8_init 149 = .ok (.getfield 14, 3) by decide +kernel) (by decide +kernel) (o := 0) (o' := 1) (by decide) (by decide +kernel) (by decide +kernel) (by exact (if_neg (by decide)).trans ((hI44.2.1 0).trans rfl)) hP45 ?_
  refine ac_init hC hN ⟨rfl, rfl⟩ (n := 396) (d' := 2) (by decide) (ix := 12) (q := (yX1_init, cX1_init, 3, none, 1, (144, 143, 9999, 97), 2)) rfl ⟨rfl, rfl⟩ (ab_tnm (List.mem_of_getElem? (i := 143) rfl) rfl) (show decode cX8_init 152 = .ok (.invokespecial 37, 3) by decide +kernel) (ab_tnm (List.mem_of_getElem? (i := 142) rfl) rfl) (o := 395) (a := [.inr (.inr (.inr (1, 6, 0)))]) (rest := [.ref (E.1 + 395), .ref (E.1 + 0)]) (by decide +kernel) (mk_X1_395 E _) hP45 hS45 hl.1 (Nat.le_of_ble_eq_true rfl) (Nat.le_of_ble_eq_true rfl) (Nat.le_of_ble_eq_true rfl) (fun M46 H46 locs46 hM46 hP46 hS46 => ?_)
  have hI46 : ac_I 0 764 0 0 M0 _ _ := hI44.con (M' := M46) (hM46) (by decide) (by decide)
  refine ac_putF hC hin (n := 764) (r := (0, 0, 8, 8, 565)) (show decode cX8_init 155 = .ok (.putfield 44, 3) by decide +kernel) (by decide +kernel) rfl (by decide) (by decide +kernel) (o := 0) (o' := 395) hP46 hS46 (by decide +kernel) ⟨_, rfl, rfl⟩ (fun H47 locs47 hP47 hS47 => ?_)
  have hI47 := hI46.put (j := 8) (v := ((395 : Nat) : Int)) (fun _ => rfl)
  refine lv_aload_n hx hb (show decode cX8_init 158 = .ok (.aload_n 0, 1) by decide +kernel) rfl (lv_at hl 1 rfl) ?_
  refine ac_new hC (n := 764) (i := 47) (ci := 2) (q := (RX2, TX2, 10)) rfl (by decide +kernel) (ab_tnm (List.mem_of_getElem? (i := 322) rfl) rfl) (ab_tnm (List.mem_of_getElem? (i := 323) rfl) rfl) (ab_tnm (List.mem_of_getElem? (i := 99) rfl) rfl) (show decode cX8_init 159 = .ok (.new 47, 3) by decide +kernel) hP47 hS47 (Nat.le_of_ble_eq_true rfl) (Nat.le_of_ble_eq_true rfl) (fun H48 hP48 hS48 => ?_)
  refine lv_dup hx hb (show decode cX8_init 162 = .ok (.dup, 1) by decide +kernel) rfl ?_
  refine lv_aload_n hx hb (show decode cX8_init 163 = .ok (.aload_n 0, 1) by decide +kernel) rfl (lv_at hl 1 rfl) ?_
  refine ac_rdr hC (n := 765) (r := (0, 0, 8, 8, 565)) (show decode cX8_init 164 = .ok (.getfield 44, 3) by decide +kernel) (by decide +kernel) (o := 0) (o' := 395) (by decide) (by decide +kernel) (by decide +kernel) (by exact (if_neg (by decide)).trans ((hI47.2.1 8).trans rfl)) hP48 ?_
  refine ac_init hC hN ⟨rfl, rfl⟩ (n := 765) (d' := 2) (by decide) (ix := 31) (q := (yX2_init, cX2_init, 2, none, 2, (326, 325, 9999, 99), 2)) rfl ⟨rfl, rfl⟩ (ab_tnm (List.mem_of_getElem? (i := 325) rfl) rfl) (show decode cX8_init 167 = .ok (.invokespecial 49, 3) by decide +kernel) (ab_tnm (List.mem_of_getElem? (i := 324) rfl) rfl) (o := 764) (a := [.inr (.inr (.inr (395, 1, 0)))]) (rest := [.ref (E.1 + 764), .ref (E.1 + 0)]) (by decide +kernel) (mk_X2 E _ ((if_neg (by decide)).trans ((hI47.2.2.2 395 (by decide) (by decide) (by decide) 0 (by decide +kernel)).trans (by decide +kernel)))) hP48 hS48 hl.1 (Nat.le_of_ble_eq_true rfl) (Nat.le_of_ble_eq_true rfl) (Nat.le_of_ble_eq_true rfl) (fun M49 H49 locs49 hM49 hP49 hS49 => ?_)
  have hI49 : ac_I 0 768 0 0 M0 _ _ := hI47.con (M' := M49) (by rw [hM49]; exact kf_X2 _) (by decide) (by decide)
  refine ac_putF hC hin (n := 768) (r := (0, 0, 8, 6, 563)) (show decode cX8_init 170 = .ok (.putfield 52, 3) by decide +kernel) (by decide +kernel) rfl (by decide) (by decide +kernel) (o := 0) (o' := 764) hP49 hS49 (by decide +kernel) ⟨_, rfl, rfl⟩ (fun H50 locs50 hP50 hS50 => ?_)
  have hI50 := hI49.put (j := 6) (v := ((764 : Nat) : Int)) (fun _ => rfl)
  refine lv_aload_n hx hb (show decode cX8_init 173 = .ok (.aload_n 0, 1) by decide +kernel) rfl (lv_at hl 1 rfl) ?_
  refine ac_new hC (n := 768) (i := 56) (ci := 3) (q := (RX3, TX3, 12)) rfl (by decide +kernel) (ab_tnm (List.mem_of_getElem? (i := 359) rfl) rfl) (ab_tnm (List.mem_of_getElem? (i := 360) rfl) rfl) (ab_tnm (List.mem_of_getElem? (i := 100) rfl) rfl) (show decode cX8_init 174 = .ok (.new 56, 3) by decide +kernel) hP50 hS50 (Nat.le_of_ble_eq_true rfl) (Nat.le_of_ble_eq_true rfl) (fun H51 hP51 hS51 => ?_)
  refine lv_dup hx hb (show decode cX8_init 177 = .ok (.dup, 1) by decide +kernel) rfl ?_
  refine lv_aload_n hx hb (show decode cX8_init 178 = .ok (.aload_n 0, 1) by decide +kernel) rfl (lv_at hl 1 rfl) ?_
  refine ac_rdr hC (n := 769) (r := (0, 0, 8, 7, 564)) (show decode cX8_init 179 = .ok (.getfield 40, 3) by decide +kernel) (by decide +kernel) (o := 0) (o' := 26) (by decide) (by decide +kernel) (by decide +kernel) (by exact (if_neg (by decide)).trans ((hI50.2.1 7).trans rfl)) hP51 ?_
  refine ac_init hC hN ⟨rfl, rfl⟩ (n := 769) (d' := 2) (by decide) (ix := 46) (q := (yX3_init, cX3_init, 4, none, 3, (363, 362, 9999, 100), 2)) rfl ⟨rfl, rfl⟩ (ab_tnm (List.mem_of_getElem? (i := 362) rfl) rfl) (show decode cX8_init 182 = .ok (.invokespecial 58, 3) by decide +kernel) (ab_tnm (List.mem_of_getElem? (i := 361) rfl) rfl) (o := 768) (a := [.inr (.inr (.inr (26, 1, 0)))]) (rest := [.ref (E.1 + 768), .ref (E.1 + 0)]) (by decide +kernel) (mk_X3 E _) hP51 hS51 hl.1 (Nat.le_of_ble_eq_true rfl) (Nat.le_of_ble_eq_true rfl) (Nat.le_of_ble_eq_true rfl) (fun M52 H52 locs52 hM52 hP52 hS52 => ?_)
  have hI52 : ac_I 0 790 0 0 M0 _ _ := hI50.con (M' := M52) (by rw [hM52]; exact kf_X3 _) (by decide) (by decide)
  refine ac_putF hC hin (n := 790) (r := (0, 0, 8, 9, 566)) (show decode cX8_init 185 = .ok (.putfield 59, 3) by decide +kernel) (by decide +kernel) rfl (by decide) (by decide +kernel) (o := 0) (o' := 768) hP52 hS52 (by decide +kernel) ⟨_, rfl, rfl⟩ (fun H53 locs53 hP53 hS53 => ?_)
  have hI53 := hI52.put (j := 9) (v := ((768 : Nat) : Int)) (fun _ => rfl)
  refine lv_aload_n hx hb (show decode cX8_init 188 = .ok (.aload_n 0, 1) by decide +kernel) rfl (lv_at hl 1 rfl) ?_
  refine ac_new hC (n := 790) (i := 63) (ci := 0) (q := (RX0, TX0, 7)) rfl (by decide +kernel) (ab_tnm (List.mem_of_getElem? (i := 526) rfl) rfl) (ab_tnm (List.mem_of_getElem? (i := 527) rfl) rfl) (ab_tnm (List.mem_of_getElem? (i := 106) rfl) rfl) (show decode cX8_init 189 = .ok (.new 63, 3) by decide +kernel) hP53 hS53 (Nat.le_of_ble_eq_true rfl) (Nat.le_of_ble_eq_true rfl) (fun H54 hP54 hS54 => ?_)
  refine lv_dup hx hb (show decode cX8_init 192 = .ok (.dup, 1) by decide +kernel) rfl ?_
  refine lv_aload_n hx hb (show decode cX8_init 193 = .ok (.aload_n 0, 1) by decide +kernel) rfl (lv_at hl 1 rfl) ?_
  refine ac_rdr hC (n := 791) (r := (0, 0, 8, 7, 564)) (show decode cX8_init 194 = .ok (.getfield 40, 3) by decide +kernel) (by decide +kernel) (o := 0) (o' := 26) (by decide) (by decide +kernel) (by decide +kernel) (by exact (if_neg (by decide)).trans ((hI53.2.1 7).trans rfl)) hP54 ?_
  refine ac_init hC hN ⟨rfl, rfl⟩ (n := 791) (d' := 1) (by decide) (ix := 0) (q := (yX0_init, cX0_init, 2, none, 0, (530, 529, 9999, 106), 2)) rfl ⟨rfl, rfl⟩ (ab_tnm (List.mem_of_getElem? (i := 529) rfl) rfl) (show decode cX8_init 197 = .ok (.invokespecial 65, 3) by decide +kernel) (ab_tnm (List.mem_of_getElem? (i := 528) rfl) rfl) (o := 790) (a := [.inr (.inr (.inr (26, 1, 0)))]) (rest := [.ref (E.1 + 790), .ref (E.1 + 0)]) (by decide +kernel) (mk_X0 E (o := 790) (g := 26) (by decide +kernel) ⟨by decide +kernel, by decide +kernel⟩ ⟨by decide +kernel, by decide +kernel⟩ ⟨by decide +kernel, by decide +kernel⟩ ⟨by decide +kernel, by decide +kernel⟩ _) hP54 hS54 hl.1 (Nat.le_of_ble_eq_true rfl) (Nat.le_of_ble_eq_true rfl) (Nat.le_of_ble_eq_true rfl) (fun M55 H55 locs55 hM55 hP55 hS55 => ?_)
  have hI55 : ac_I 0 795 0 0 M0 _ _ := hI53.con (M' := M55) (by rw [hM55]; exact kf_X0 _) (by decide) (by decide)
  refine ac_putF hC hin (n := 795) (r := (0, 0, 8, 10, 567)) (show decode cX8_init 200 = .ok (.putfield 66, 3) by decide +kernel) (by decide +kernel) rfl (by decide) (by decide +kernel) (o := 0) (o' := 790) hP55 hS55 (by decide +kernel) ⟨_, rfl, rfl⟩ (fun H56 locs56 hP56 hS56 => ?_)
  have hI56 := hI55.put (j := 10) (v := ((790 : Nat) : Int)) (fun _ => rfl)
  refine lv_aload_n hx hb (show decode cX8_init 203 = .ok (.aload_n 0, 1) by decide +kernel) rfl (lv_at hl 1 rfl) ?_
  refine lv_bipush (v := Int32.ofInt ((6 : Nat) : Int)) hx hb (show decode cX8_init 204 = .ok (.bipush 6, 2) by decide +kernel) (by decide) ?_
  refine ac_newan hC (n := 795) (atype := .int) (c0 := 20) (N := 6) (ab_tnm (List.mem_of_getElem? (i := 264) rfl) rfl) (by decide +kernel) (by decide +kernel) (by left; exact ⟨rfl, rfl⟩) (Nat.le_of_ble_eq_true rfl) (show decode cX8_init 206 = .ok (.newarray .int, 2) by decide +kernel) hP56 hS56 (Nat.le_of_ble_eq_true rfl) (Nat.le_of_ble_eq_true rfl) (fun H57 hP57 hS57 => ?_)
  have hI57 : ac_I 0 796 0 0 M0 _ _ := hI56.con (kf_nw (by decide +kernel) (by decide +kernel) _) (by decide) (by decide)
  refine ac_putF hC hin (n := 796) (r := (0, 0, 8, 11, 568)) (show decode cX8_init 208 = .ok (.putfield 70, 3) by decide +kernel) (by decide +kernel) rfl (by decide) (by decide +kernel) (o := 0) (o' := 795) hP57 hS57 (by decide +kernel) ⟨_, rfl, rfl⟩ (fun H58 locs58 hP58 hS58 => ?_)
  have hI58 := hI57.put (j := 11) (v := ((795 : Nat) : Int)) (fun _ => rfl)
  refine lv_aload_n hx hb (show decode cX8_init 211 = .ok (.aload_n 0, 1) by decide +kernel) rfl (lv_at hl 1 rfl) ?_
  refine lv_bipush (v := Int32.ofInt ((6 : Nat) : Int)) hx hb (show decode cX8_init 212 = .ok (.bipush 6, 2) by decide +kernel) (by decide) ?_
  refine ac_newan hC (n := 796) (atype := .int) (c0 := 20) (N := 6) (ab_tnm (List.mem_of_getElem? (i := 264) rfl) rfl) (by decide +kernel) (by decide +kernel) (by left; exact ⟨rfl, rfl⟩) (Nat.le_of_ble_eq_true rfl) (show decode cX8_init 214 = .ok (.newarray .int, 2) by decide +kernel) hP58 hS58 (Nat.le_of_ble_eq_true rfl) (Nat.le_of_ble_eq_true rfl) (fun H59 hP59 hS59 => ?_)
  have hI59 : ac_I 0 797 0 0 M0 _ _ := hI58.con (kf_nw (by decide +kernel) (by decide +kernel) _) (by decide) (by decide)
  refine ac_putF hC hin (n := 797) (r := (0, 0, 8, 12, 569)) (show decode cX8_init 216 = .ok (.putfield 74, 3) by decide +kernel) (by decide +kernel) rfl (by decide) (by decide +kernel) (o := 0) (o' := 796) hP59 hS59 (by decide +kernel) ⟨_, rfl, rfl⟩ (fun H60 locs60 hP60 hS60 => ?_)
  have hI60 := hI59.put (j := 12) (v := ((796 : Nat) : Int)) (fun _ => rfl)
  exact ac_ret hC hr (show decode cX8_init 219 = .ok (.return_, 1) by decide +kernel) hP60 hS60 (hI60.kfc (N := 15) (by decide +kernel) (by decide +kernel) (by decide +kernel)) (Nat.le_of_ble_eq_true rfl) (Nat.le_of_ble_eq_true rfl)
