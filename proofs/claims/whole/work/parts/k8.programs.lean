/-! the making: programs (written by a program) -/
set_option maxRecDepth 20000 in
set_option maxHeartbeats 4000000 in
theorem mk_X1_26 (E : ab_E) (M0 : ab_M) : ac_Ok E 2 12 368 3051 [.inr (.inr (.inr (26, 1, 0))), .inr (.inr (.inr (3, 6, 0)))] 27 395 (ac_nw M0 26) (fun M' => ac_KF 26 395 M0 M') := by
  refine ac_mk (q := (yX1_init, cX1_init, 3, none, 1, (144, 143, 9999, 97), 2)) rfl rfl rfl (Nat.le_of_ble_eq_true rfl) ?_
  intro p l e s m below meth c ls hC hN hin hr hP hl
  have hC : ab_Cx p s m _ meth c E cX1_init 1 3 := hC
  obtain ⟨hx, hb, hml, hown, hts, hK, hlk, hsz⟩ := id hC
  have hl : lv_has ls 3 [(0, .ref (E.1 + 26)), (1, .ref (E.1 + 3))] := hl
  have hS : va_S (fun q => E.1 ≤ q) s.heap s.heap [] := va_S.rf
  have hI := ac_I.st (p := 26) M0
  refine lv_aload_n hx hb (show decode cX1_init 0 = .ok (.aload_n 0, 1) by decide +kernel) rfl (lv_at hl 0 rfl) ?_
  refine W.objInit hx hb hown (hts _ (ab_tnm (List.mem_of_getElem? (i := 145) rfl) rfl)) (hts _ ac_obj.1) (hts _ ac_obj.2) rfl (by rw [hml]; exact hl.1) rfl (show decode cX1_init 1 = .ok (.invokespecial 3, 3) by decide +kernel) (Nat.le_of_ble_eq_true rfl) (Nat.le_of_ble_eq_true rfl) ?_
  refine W.eq (g2 := F0 m 4 ls []) rfl ?_
  refine lv_aload_n hx hb (show decode cX1_init 4 = .ok (.aload_n 0, 1) by decide +kernel) rfl (lv_at hl 0 rfl) ?_
  refine lv_aload_n hx hb (show decode cX1_init 5 = .ok (.aload_n 1, 1) by decide +kernel) rfl (lv_at hl 1 rfl) ?_
  refine ac_putr hC (n := 27) (r := (0, 0, 1, 0, 269)) (show decode cX1_init 6 = .ok (.putfield 9, 3) by decide +kernel) (by decide +kernel) (o := 26) (o' := 3) (by decide) (by decide +kernel) hP hS (by decide +kernel) ⟨_, rfl, rfl⟩ (fun H1 locs1 hP1 hS1 => ?_)
  have hI1 := hI.put (j := 0) (v := ((3 : Nat) : Int)) (fun _ => rfl)
  refine lv_aload_n hx hb (show decode cX1_init 9 = .ok (.aload_n 0, 1) by decide +kernel) rfl (lv_at hl 0 rfl) ?_
  refine lv_bipush (v := Int32.ofInt ((120 : Nat) : Int)) hx hb (show decode cX1_init 10 = .ok (.bipush 120, 2) by decide +kernel) (by decide) ?_
  refine ac_newqn hC (n := 27) (i := 15) (c0 := 25) (N := 120) (C := RX4) (ab_tnm (List.mem_of_getElem? (i := 146) rfl) rfl) (va_AO.use hN.2.1) (by decide +kernel) (by decide +kernel) (by left; exact ⟨rfl, rfl⟩) (Nat.le_of_ble_eq_true rfl) (show decode cX1_init 12 = .ok (.anewarray 15, 3) by decide +kernel) hP1 hS1 (Nat.le_of_ble_eq_true rfl) (Nat.le_of_ble_eq_true rfl) (fun H2 hP2 hS2 => ?_)
  have hI2 : ac_I 26 28 27 0 M0 _ _ := hI1.ref (by decide)
  refine ac_putF hC hin (n := 28) (r := (0, 0, 1, 1, 272)) (show decode cX1_init 15 = .ok (.putfield 17, 3) by decide +kernel) (by decide +kernel) rfl (by decide) (by decide +kernel) (o := 26) (o' := 27) hP2 hS2 (by decide +kernel) ⟨_, rfl, rfl⟩ (fun H3 locs3 hP3 hS3 => ?_)
  have hI3 := hI2.put (j := 1) (v := ((27 : Nat) : Int)) (fun e => absurd e (by decide))
  refine lv_iconst (v := Int32.ofInt ((0 : Nat) : Int)) hx hb (show decode cX1_init 18 = .ok (.iconst 0, 1) by decide +kernel) (by decide) ?_
  refine lv_istore_n (lv' := [(2, .int (Int32.ofInt ((0 : Nat) : Int))), (0, .ref (E.1 + 26)), (1, .ref (E.1 + 3))]) hx hb (show decode cX1_init 19 = .ok (.istore_n 2, 1) by decide +kernel) rfl hl (by decide) rfl (fun ls hl => ?_)
  refine X1_loop (P := 26) (t := 3) (c0 := 1) (s0 := 120) hC hN ⟨rfl, rfl⟩ (Nat.le_of_ble_eq_true rfl) (Nat.le_of_ble_eq_true rfl) (by decide +kernel) (by decide +kernel) (by decide) lay_26 (by rfl) (fun M4 H4 locs4 ls hI4 hP4 hS4 hl => ?_) 120 0 rfl _ _ _ _ hI3 hP3 hS3 hl
  have hI5 := hI4.fin (fun k hk => by have h := (show ac_rc (ab_kd 27) 27 k = true from hk); rw [show ab_kd 27 = 25 by decide +kernel] at h; unfold ac_rc at h; rw [show ab_ln 27 = 120 by decide +kernel] at h; simpa using h)
  refine lv_aload_n hx hb (show decode cX1_init 45 = .ok (.aload_n 0, 1) by decide +kernel) rfl (lv_at hl 1 rfl) ?_
  refine ac_new hC (n := 388) (i := 15) (ci := 4) (q := (RX4, TX4, 19)) rfl (by decide +kernel) (ab_tnm (List.mem_of_getElem? (i := 146) rfl) rfl) (ab_tnm (List.mem_of_getElem? (i := 148) rfl) rfl) (ab_tnm (List.mem_of_getElem? (i := 98) rfl) rfl) (show decode cX1_init 46 = .ok (.new 15, 3) by decide +kernel) hP4 hS4 (Nat.le_of_ble_eq_true rfl) (Nat.le_of_ble_eq_true rfl) (fun H6 hP6 hS6 => ?_)
  refine lv_dup hx hb (show decode cX1_init 49 = .ok (.dup, 1) by decide +kernel) rfl ?_
  refine ac_initN hC hN ⟨rfl, rfl⟩ (n := 389) (d' := 1) (by decide) (ix := 54) (q := (yX4_init, cX4_init, 1, none, 4, (151, 150, 9999, 98), 2)) rfl ⟨rfl, rfl⟩ (ab_tnm (List.mem_of_getElem? (i := 150) rfl) rfl) (show decode cX1_init 50 = .ok (.invokespecial 21, 3) by decide +kernel) (List.mem_of_getElem? (i := 149) rfl) (o := 388) (a := []) (rest := [.ref (E.1 + 388), .ref (E.1 + 26)]) (by decide +kernel) (mk_X4 E (o := 388) (by decide +kernel) ⟨by decide +kernel, by decide +kernel⟩ ⟨by decide +kernel, by decide +kernel⟩ _) hP6 hS6 hl.1 (Nat.le_of_ble_eq_true rfl) (Nat.le_of_ble_eq_true rfl) (Nat.le_of_ble_eq_true rfl) (fun M7 H7 locs7 hM7 hP7 hS7 => ?_)
  have hI7 := hI5.fr (M' := M7) (fun o' ho k => by rw [hM7]; exact fr_X4 _ (by decide) (by decide +kernel) o' ho k)
  have hq12 : (ab_up M7 26 2 ((388 : Nat) : Int)) 388 12 = ((389 : Nat) : Int) := by rw [hM7]; rfl
  have hq13 : (ab_up M7 26 2 ((388 : Nat) : Int)) 388 13 = ((390 : Nat) : Int) := by rw [hM7]; rfl
  refine ac_putF hC hin (n := 391) (r := (0, 0, 1, 2, 273)) (show decode cX1_init 53 = .ok (.putfield 22, 3) by decide +kernel) (by decide +kernel) rfl (by decide) (by decide +kernel) (o := 26) (o' := 388) hP7 hS7 (by decide +kernel) ⟨_, rfl, rfl⟩ (fun H8 locs8 hP8 hS8 => ?_)
  have hI8 := hI7.put (j := 2) (v := ((388 : Nat) : Int)) (fun _ => rfl)
  refine lv_aload_n hx hb (show decode cX1_init 56 = .ok (.aload_n 0, 1) by decide +kernel) rfl (lv_at hl 1 rfl) ?_
  refine ac_rdr hC (n := 391) (r := (0, 0, 1, 2, 273)) (show decode cX1_init 57 = .ok (.getfield 22, 3) by decide +kernel) (by decide +kernel) (o := 26) (o' := 388) (by decide) (by decide +kernel) (by decide +kernel) ((hI8.2.1 2).trans rfl) hP8 ?_
  refine lv_iconst (v := Int32.ofInt ((0 : Nat) : Int)) hx hb (show decode cX1_init 60 = .ok (.iconst 0, 1) by decide +kernel) (by decide) ?_
  refine ac_virt hC hN ⟨rfl, rfl⟩ (n := 391) (d' := 1) (by decide) (ix := 57) (ci := 4) (q := (yX4_reset, cX4_reset, 3, none, 4, (268, 266, 267, 98), 0)) rfl rfl rfl rfl (show decode cX1_init 61 = .ok (.invokevirtual 26, 3) by decide +kernel) (ab_tnm (List.mem_of_getElem? (i := 265) rfl) rfl) (o := 388) (n0 := 0) (by decide) (by decide +kernel) (a := [.inr (.inl ((0 : Nat) : Int))]) (rest := []) (by decide +kernel) (mk_reset388 E _ hq12 hq13) hP8 hS8 hl.1 (Nat.le_of_ble_eq_true rfl) (Nat.le_of_ble_eq_true rfl) (Nat.le_of_ble_eq_true rfl) (fun M9 H9 locs9 hM9 hP9 hS9 => ?_)
  have hI9 := (hI8.fr (M' := M9) (fun o' ho k => by rw [hM9]; exact fr_reset388 _ o' ho k)).ext (n' := 391) (by decide) (fun o' g1 g2 k hk => by rw [hM9, show M7 = ch_X4 388 (ac_nw _ 388) from hM7]; exact kf_N388 _ o' g1 g2 k hk)
  refine lv_aload_n hx hb (show decode cX1_init 64 = .ok (.aload_n 0, 1) by decide +kernel) rfl (lv_at hl 1 rfl) ?_
  refine lv_iconst (v := Int32.ofInt (-1)) hx hb (show decode cX1_init 65 = .ok (.iconst (-1), 1) by decide +kernel) (by decide) ?_
  refine W.eq (g2 := F0 m 66 ls (ab_fv E.1 (ab_ft 1 4).1 (-1 : Int) :: .ref (E.1 + 26) :: [])) rfl ?_
  refine ac_put hC (n := 391) (r := (0, 0, 1, 4, 280)) (show decode cX1_init 66 = .ok (.putfield 30, 3) by decide +kernel) (by decide +kernel) (by decide) (by decide +kernel) (z := (-1 : Int)) hP9 hS9 (by first | exact .inl (by decide +kernel) | exact .inr (.inl ⟨by decide +kernel, by decide⟩)) ⟨_, rfl, rfl⟩ (fun H10 locs10 hP10 hS10 => ?_)
  have hI10 := hI9.put (j := 4) (v := (-1 : Int)) (fun _ => rfl)
  refine lv_aload_n hx hb (show decode cX1_init 69 = .ok (.aload_n 0, 1) by decide +kernel) rfl (lv_at hl 1 rfl) ?_
  refine lv_bipush (v := Int32.ofInt ((16 : Nat) : Int)) hx hb (show decode cX1_init 70 = .ok (.bipush 16, 2) by decide +kernel) (by decide) ?_
  refine ac_newan hC (n := 391) (atype := .int) (c0 := 20) (N := 16) (ab_tnm (List.mem_of_getElem? (i := 264) rfl) rfl) (by decide +kernel) (by decide +kernel) (by left; exact ⟨rfl, rfl⟩) (Nat.le_of_ble_eq_true rfl) (show decode cX1_init 72 = .ok (.newarray .int, 2) by decide +kernel) hP10 hS10 (Nat.le_of_ble_eq_true rfl) (Nat.le_of_ble_eq_true rfl) (fun H11 hP11 hS11 => ?_)
  have hI11 : ac_I 26 392 26 0 M0 _ _ := hI10.con (kf_nw (by decide +kernel) (by decide +kernel) _) (by decide) (by decide)
  refine ac_putF hC hin (n := 392) (r := (0, 0, 1, 5, 283)) (show decode cX1_init 74 = .ok (.putfield 34, 3) by decide +kernel) (by decide +kernel) rfl (by decide) (by decide +kernel) (o := 26) (o' := 391) hP11 hS11 (by decide +kernel) ⟨_, rfl, rfl⟩ (fun H12 locs12 hP12 hS12 => ?_)
  have hI12 := hI11.put (j := 5) (v := ((391 : Nat) : Int)) (fun _ => rfl)
  refine lv_aload_n hx hb (show decode cX1_init 77 = .ok (.aload_n 0, 1) by decide +kernel) rfl (lv_at hl 1 rfl) ?_
  refine lv_iconst (v := Int32.ofInt ((4 : Nat) : Int)) hx hb (show decode cX1_init 78 = .ok (.iconst 4, 1) by decide +kernel) (by decide) ?_
  refine ac_newan hC (n := 392) (atype := .int) (c0 := 20) (N := 4) (ab_tnm (List.mem_of_getElem? (i := 264) rfl) rfl) (by decide +kernel) (by decide +kernel) (by left; exact ⟨rfl, rfl⟩) (Nat.le_of_ble_eq_true rfl) (show decode cX1_init 79 = .ok (.newarray .int, 2) by decide +kernel) hP12 hS12 (Nat.le_of_ble_eq_true rfl) (Nat.le_of_ble_eq_true rfl) (fun H13 hP13 hS13 => ?_)
  have hI13 : ac_I 26 393 26 0 M0 _ _ := hI12.con (kf_nw (by decide +kernel) (by decide +kernel) _) (by decide) (by decide)
  refine ac_putF hC hin (n := 393) (r := (0, 0, 1, 7, 288)) (show decode cX1_init 81 = .ok (.putfield 38, 3) by decide +kernel) (by decide +kernel) rfl (by decide) (by decide +kernel) (o := 26) (o' := 392) hP13 hS13 (by decide +kernel) ⟨_, rfl, rfl⟩ (fun H14 locs14 hP14 hS14 => ?_)
  have hI14 := hI13.put (j := 7) (v := ((392 : Nat) : Int)) (fun _ => rfl)
  refine lv_aload_n hx hb (show decode cX1_init 84 = .ok (.aload_n 0, 1) by decide +kernel) rfl (lv_at hl 1 rfl) ?_
  refine lv_bipush (v := Int32.ofInt ((64 : Nat) : Int)) hx hb (show decode cX1_init 85 = .ok (.bipush 64, 2) by decide +kernel) (by decide) ?_
  refine ac_newan hC (n := 393) (atype := .int) (c0 := 20) (N := 64) (ab_tnm (List.mem_of_getElem? (i := 264) rfl) rfl) (by decide +kernel) (by decide +kernel) (by left; exact ⟨rfl, rfl⟩) (Nat.le_of_ble_eq_true rfl) (show decode cX1_init 87 = .ok (.newarray .int, 2) by decide +kernel) hP14 hS14 (Nat.le_of_ble_eq_true rfl) (Nat.le_of_ble_eq_true rfl) (fun H15 hP15 hS15 => ?_)
  have hI15 : ac_I 26 394 26 0 M0 _ _ := hI14.con (kf_nw (by decide +kernel) (by decide +kernel) _) (by decide) (by decide)
  refine ac_putF hC hin (n := 394) (r := (0, 0, 1, 9, 293)) (show decode cX1_init 89 = .ok (.putfield 41, 3) by decide +kernel) (by decide +kernel) rfl (by decide) (by decide +kernel) (o := 26) (o' := 393) hP15 hS15 (by decide +kernel) ⟨_, rfl, rfl⟩ (fun H16 locs16 hP16 hS16 => ?_)
  have hI16 := hI15.put (j := 9) (v := ((393 : Nat) : Int)) (fun _ => rfl)
  refine lv_aload_n hx hb (show decode cX1_init 92 = .ok (.aload_n 0, 1) by decide +kernel) rfl (lv_at hl 1 rfl) ?_
  refine lv_bipush (v := Int32.ofInt ((64 : Nat) : Int)) hx hb (show decode cX1_init 93 = .ok (.bipush 64, 2) by decide +kernel) (by decide) ?_
  refine ac_newan hC (n := 394) (atype := .int) (c0 := 20) (N := 64) (ab_tnm (List.mem_of_getElem? (i := 264) rfl) rfl) (by decide +kernel) (by decide +kernel) (by left; exact ⟨rfl, rfl⟩) (Nat.le_of_ble_eq_true rfl) (show decode cX1_init 95 = .ok (.newarray .int, 2) by decide +kernel) hP16 hS16 (Nat.le_of_ble_eq_true rfl) (Nat.le_of_ble_eq_true rfl) (fun H17 hP17 hS17 => ?_)
  have hI17 : ac_I 26 395 26 0 M0 _ _ := hI16.con (kf_nw (by decide +kernel) (by decide +kernel) _) (by decide) (by decide)
  refine ac_putF hC hin (n := 395) (r := (0, 0, 1, 10, 294)) (show decode cX1_init 97 = .ok (.putfield 44, 3) by decide +kernel) (by decide +kernel) rfl (by decide) (by decide +kernel) (o := 26) (o' := 394) hP17 hS17 (by decide +kernel) ⟨_, rfl, rfl⟩ (fun H18 locs18 hP18 hS18 => ?_)
  have hI18 := hI17.put (j := 10) (v := ((394 : Nat) : Int)) (fun _ => rfl)
  exact ac_ret hC hr (show decode cX1_init 100 = .ok (.return_, 1) by decide +kernel) hP18 hS18 (hI18.kfc (N := 12) (by decide +kernel) (by decide +kernel) (by decide +kernel)) (Nat.le_of_ble_eq_true rfl) (Nat.le_of_ble_eq_true rfl)
set_option maxRecDepth 20000 in
set_option maxHeartbeats 4000000 in
theorem mk_X1_395 (E : ab_E) (M0 : ab_M) : ac_Ok E 2 12 368 3051 [.inr (.inr (.inr (395, 1, 0))), .inr (.inr (.inr (1, 6, 0)))] 396 764 (ac_nw M0 395) (fun M' => ac_KF 395 764 M0 M') := by
  refine ac_mk (q := (yX1_init, cX1_init, 3, none, 1, (144, 143, 9999, 97), 2)) rfl rfl rfl (Nat.le_of_ble_eq_true rfl) ?_
  intro p l e s m below meth c ls hC hN hin hr hP hl
  have hC : ab_Cx p s m _ meth c E cX1_init 1 3 := hC
  obtain ⟨hx, hb, hml, hown, hts, hK, hlk, hsz⟩ := id hC
  have hl : lv_has ls 3 [(0, .ref (E.1 + 395)), (1, .ref (E.1 + 1))] := hl
  have hS : va_S (fun q => E.1 ≤ q) s.heap s.heap [] := va_S.rf
  have hI := ac_I.st (p := 395) M0
  refine lv_aload_n hx hb (show decode cX1_init 0 = .ok (.aload_n 0, 1) by decide +kernel) rfl (lv_at hl 0 rfl) ?_
  refine W.objInit hx hb hown (hts _ (ab_tnm (List.mem_of_getElem? (i := 145) rfl) rfl)) (hts _ ac_obj.1) (hts _ ac_obj.2) rfl (by rw [hml]; exact hl.1) rfl (show decode cX1_init 1 = .ok (.invokespecial 3, 3) by decide +kernel) (Nat.le_of_ble_eq_true rfl) (Nat.le_of_ble_eq_true rfl) ?_
  refine W.eq (g2 := F0 m 4 ls []) rfl ?_
  refine lv_aload_n hx hb (show decode cX1_init 4 = .ok (.aload_n 0, 1) by decide +kernel) rfl (lv_at hl 0 rfl) ?_
  refine lv_aload_n hx hb (show decode cX1_init 5 = .ok (.aload_n 1, 1) by decide +kernel) rfl (lv_at hl 1 rfl) ?_
  refine ac_putr hC (n := 396) (r := (0, 0, 1, 0, 269)) (show decode cX1_init 6 = .ok (.putfield 9, 3) by decide +kernel) (by decide +kernel) (o := 395) (o' := 1) (by decide) (by decide +kernel) hP hS (by decide +kernel) ⟨_, rfl, rfl⟩ (fun H1 locs1 hP1 hS1 => ?_)
  have hI1 := hI.put (j := 0) (v := ((1 : Nat) : Int)) (fun _ => rfl)
  refine lv_aload_n hx hb (show decode cX1_init 9 = .ok (.aload_n 0, 1) by decide +kernel) rfl (lv_at hl 0 rfl) ?_
  refine lv_bipush (v := Int32.ofInt ((120 : Nat) : Int)) hx hb (show decode cX1_init 10 = .ok (.bipush 120, 2) by decide +kernel) (by decide) ?_
  refine ac_newqn hC (n := 396) (i := 15) (c0 := 25) (N := 120) (C := RX4) (ab_tnm (List.mem_of_getElem? (i := 146) rfl) rfl) (va_AO.use hN.2.1) (by decide +kernel) (by decide +kernel) (by left; exact ⟨rfl, rfl⟩) (Nat.le_of_ble_eq_true rfl) (show decode cX1_init 12 = .ok (.anewarray 15, 3) by decide +kernel) hP1 hS1 (Nat.le_of_ble_eq_true rfl) (Nat.le_of_ble_eq_true rfl) (fun H2 hP2 hS2 => ?_)
  have hI2 : ac_I 395 397 396 0 M0 _ _ := hI1.ref (by decide)
  refine ac_putF hC hin (n := 397) (r := (0, 0, 1, 1, 272)) (show decode cX1_init 15 = .ok (.putfield 17, 3) by decide +kernel) (by decide +kernel) rfl (by decide) (by decide +kernel) (o := 395) (o' := 396) hP2 hS2 (by decide +kernel) ⟨_, rfl, rfl⟩ (fun H3 locs3 hP3 hS3 => ?_)
  have hI3 := hI2.put (j := 1) (v := ((396 : Nat) : Int)) (fun e => absurd e (by decide))
  refine lv_iconst (v := Int32.ofInt ((0 : Nat) : Int)) hx hb (show decode cX1_init 18 = .ok (.iconst 0, 1) by decide +kernel) (by decide) ?_
  refine lv_istore_n (lv' := [(2, .int (Int32.ofInt ((0 : Nat) : Int))), (0, .ref (E.1 + 395)), (1, .ref (E.1 + 1))]) hx hb (show decode cX1_init 19 = .ok (.istore_n 2, 1) by decide +kernel) rfl hl (by decide) rfl (fun ls hl => ?_)
  refine X1_loop (P := 395) (t := 1) (c0 := 1) (s0 := 120) hC hN ⟨rfl, rfl⟩ (Nat.le_of_ble_eq_true rfl) (Nat.le_of_ble_eq_true rfl) (by decide +kernel) (by decide +kernel) (by decide) lay_395 (by rfl) (fun M4 H4 locs4 ls hI4 hP4 hS4 hl => ?_) 120 0 rfl _ _ _ _ hI3 hP3 hS3 hl
  have hI5 := hI4.fin (fun k hk => by have h := (show ac_rc (ab_kd 396) 396 k = true from hk); rw [show ab_kd 396 = 25 by decide +kernel] at h; unfold ac_rc at h; rw [show ab_ln 396 = 120 by decide +kernel] at h; simpa using h)
  refine lv_aload_n hx hb (show decode cX1_init 45 = .ok (.aload_n 0, 1) by decide +kernel) rfl (lv_at hl 1 rfl) ?_
  refine ac_new hC (n := 757) (i := 15) (ci := 4) (q := (RX4, TX4, 19)) rfl (by decide +kernel) (ab_tnm (List.mem_of_getElem? (i := 146) rfl) rfl) (ab_tnm (List.mem_of_getElem? (i := 148) rfl) rfl) (ab_tnm (List.mem_of_getElem? (i := 98) rfl) rfl) (show decode cX1_init 46 = .ok (.new 15, 3) by decide +kernel) hP4 hS4 (Nat.le_of_ble_eq_true rfl) (Nat.le_of_ble_eq_true rfl) (fun H6 hP6 hS6 => ?_)
  refine lv_dup hx hb (show decode cX1_init 49 = .ok (.dup, 1) by decide +kernel) rfl ?_
  refine ac_initN hC hN ⟨rfl, rfl⟩ (n := 758) (d' := 1) (by decide) (ix := 54) (q := (yX4_init, cX4_init, 1, none, 4, (151, 150, 9999, 98), 2)) rfl ⟨rfl, rfl⟩ (ab_tnm (List.mem_of_getElem? (i := 150) rfl) rfl) (show decode cX1_init 50 = .ok (.invokespecial 21, 3) by decide +kernel) (List.mem_of_getElem? (i := 149) rfl) (o := 757) (a := []) (rest := [.ref (E.1 + 757), .ref (E.1 + 395)]) (by decide +kernel) (mk_X4 E (o := 757) (by decide +kernel) ⟨by decide +kernel, by decide +kernel⟩ ⟨by decide +kernel, by decide +kernel⟩ _) hP6 hS6 hl.1 (Nat.le_of_ble_eq_true rfl) (Nat.le_of_ble_eq_true rfl) (Nat.le_of_ble_eq_true rfl) (fun M7 H7 locs7 hM7 hP7 hS7 => ?_)
  have hI7 := hI5.fr (M' := M7) (fun o' ho k => by rw [hM7]; exact fr_X4 _ (by decide) (by decide +kernel) o' ho k)
  have hq12 : (ab_up M7 395 2 ((757 : Nat) : Int)) 757 12 = ((758 : Nat) : Int) := by rw [hM7]; rfl
  have hq13 : (ab_up M7 395 2 ((757 : Nat) : Int)) 757 13 = ((759 : Nat) : Int) := by rw [hM7]; rfl
  refine ac_putF hC hin (n := 760) (r := (0, 0, 1, 2, 273)) (show decode cX1_init 53 = .ok (.putfield 22, 3) by decide +kernel) (by decide +kernel) rfl (by decide) (by decide +kernel) (o := 395) (o' := 757) hP7 hS7 (by decide +kernel) ⟨_, rfl, rfl⟩ (fun H8 locs8 hP8 hS8 => ?_)
  have hI8 := hI7.put (j := 2) (v := ((757 : Nat) : Int)) (fun _ => rfl)
  refine lv_aload_n hx hb (show decode cX1_init 56 = .ok (.aload_n 0, 1) by decide +kernel) rfl (lv_at hl 1 rfl) ?_
  refine ac_rdr hC (n := 760) (r := (0, 0, 1, 2, 273)) (show decode cX1_init 57 = .ok (.getfield 22, 3) by decide +kernel) (by decide +kernel) (o := 395) (o' := 757) (by decide) (by decide +kernel) (by decide +kernel) ((hI8.2.1 2).trans rfl) hP8 ?_
  refine lv_iconst (v := Int32.ofInt ((0 : Nat) : Int)) hx hb (show decode cX1_init 60 = .ok (.iconst 0, 1) by decide +kernel) (by decide) ?_
  refine ac_virt hC hN ⟨rfl, rfl⟩ (n := 760) (d' := 1) (by decide) (ix := 57) (ci := 4) (q := (yX4_reset, cX4_reset, 3, none, 4, (268, 266, 267, 98), 0)) rfl rfl rfl rfl (show decode cX1_init 61 = .ok (.invokevirtual 26, 3) by decide +kernel) (ab_tnm (List.mem_of_getElem? (i := 265) rfl) rfl) (o := 757) (n0 := 0) (by decide) (by decide +kernel) (a := [.inr (.inl ((0 : Nat) : Int))]) (rest := []) (by decide +kernel) (mk_reset757 E _ hq12 hq13) hP8 hS8 hl.1 (Nat.le_of_ble_eq_true rfl) (Nat.le_of_ble_eq_true rfl) (Nat.le_of_ble_eq_true rfl) (fun M9 H9 locs9 hM9 hP9 hS9 => ?_)
  have hI9 := (hI8.fr (M' := M9) (fun o' ho k => by rw [hM9]; exact fr_reset757 _ o' ho k)).ext (n' := 760) (by decide) (fun o' g1 g2 k hk => by rw [hM9, show M7 = ch_X4 757 (ac_nw _ 757) from hM7]; exact kf_N757 _ o' g1 g2 k hk)
  refine lv_aload_n hx hb (show decode cX1_init 64 = .ok (.aload_n 0, 1) by decide +kernel) rfl (lv_at hl 1 rfl) ?_
  refine lv_iconst (v := Int32.ofInt (-1)) hx hb (show decode cX1_init 65 = .ok (.iconst (-1), 1) by decide +kernel) (by decide) ?_
  refine W.eq (g2 := F0 m 66 ls (ab_fv E.1 (ab_ft 1 4).1 (-1 : Int) :: .ref (E.1 + 395) :: [])) rfl ?_
  refine ac_put hC (n := 760) (r := (0, 0, 1, 4, 280)) (show decode cX1_init 66 = .ok (.putfield 30, 3) by decide +kernel) (by decide +kernel) (by decide) (by decide +kernel) (z := (-1 : Int)) hP9 hS9 (by first | exact .inl (by decide +kernel) | exact .inr (.inl ⟨by decide +kernel, by decide⟩)) ⟨_, rfl, rfl⟩ (fun H10 locs10 hP10 hS10 => ?_)
  have hI10 := hI9.put (j := 4) (v := (-1 : Int)) (fun _ => rfl)
  refine lv_aload_n hx hb (show decode cX1_init 69 = .ok (.aload_n 0, 1) by decide +kernel) rfl (lv_at hl 1 rfl) ?_
  refine lv_bipush (v := Int32.ofInt ((16 : Nat) : Int)) hx hb (show decode cX1_init 70 = .ok (.bipush 16, 2) by decide +kernel) (by decide) ?_
  refine ac_newan hC (n := 760) (atype := .int) (c0 := 20) (N := 16) (ab_tnm (List.mem_of_getElem? (i := 264) rfl) rfl) (by decide +kernel) (by decide +kernel) (by left; exact ⟨rfl, rfl⟩) (Nat.le_of_ble_eq_true rfl) (show decode cX1_init 72 = .ok (.newarray .int, 2) by decide +kernel) hP10 hS10 (Nat.le_of_ble_eq_true rfl) (Nat.le_of_ble_eq_true rfl) (fun H11 hP11 hS11 => ?_)
  have hI11 : ac_I 395 761 395 0 M0 _ _ := hI10.con (kf_nw (by decide +kernel) (by decide +kernel) _) (by decide) (by decide)
  refine ac_putF hC hin (n := 761) (r := (0, 0, 1, 5, 283)) (show decode cX1_init 74 = .ok (.putfield 34, 3) by decide +kernel) (by decide +kernel) rfl (by decide) (by decide +kernel) (o := 395) (o' := 760) hP11 hS11 (by decide +kernel) ⟨_, rfl, rfl⟩ (fun H12 locs12 hP12 hS12 => ?_)
  have hI12 := hI11.put (j := 5) (v := ((760 : Nat) : Int)) (fun _ => rfl)
  refine lv_aload_n hx hb (show decode cX1_init 77 = .ok (.aload_n 0, 1) by decide +kernel) rfl (lv_at hl 1 rfl) ?_
  refine lv_iconst (v := Int32.ofInt ((4 : Nat) : Int)) hx hb (show decode cX1_init 78 = .ok (.iconst 4, 1) by decide +kernel) (by decide) ?_
  refine ac_newan hC (n := 761) (atype := .int) (c0 := 20) (N := 4) (ab_tnm (List.mem_of_getElem? (i := 264) rfl) rfl) (by decide +kernel) (by decide +kernel) (by left; exact ⟨rfl, rfl⟩) (Nat.le_of_ble_eq_true rfl) (show decode cX1_init 79 = .ok (.newarray .int, 2) by decide +kernel) hP12 hS12 (Nat.le_of_ble_eq_true rfl) (Nat.le_of_ble_eq_true rfl) (fun H13 hP13 hS13 => ?_)
  have hI13 : ac_I 395 762 395 0 M0 _ _ := hI12.con (kf_nw (by decide +kernel) (by decide +kernel) _) (by decide) (by decide)
  refine ac_putF hC hin (n := 762) (r := (0, 0, 1, 7, 288)) (show decode cX1_init 81 = .ok (.putfield 38, 3) by decide +kernel) (by decide +kernel) rfl (by decide) (by decide +kernel) (o := 395) (o' := 761) hP13 hS13 (by decide +kernel) ⟨_, rfl, rfl⟩ (fun H14 locs14 hP14 hS14 => ?_)
  have hI14 := hI13.put (j := 7) (v := ((761 : Nat) : Int)) (fun _ => rfl)
  refine lv_aload_n hx hb (show decode cX1_init 84 = .ok (.aload_n 0, 1) by decide +kernel) rfl (lv_at hl 1 rfl) ?_
  refine lv_bipush (v := Int32.ofInt ((64 : Nat) : Int)) hx hb (show decode cX1_init 85 = .ok (.bipush 64, 2) by decide +kernel) (by decide) ?_
  refine ac_newan hC (n := 762) (atype := .int) (c0 := 20) (N := 64) (ab_tnm (List.mem_of_getElem? (i := 264) rfl) rfl) (by decide +kernel) (by decide +kernel) (by left; exact ⟨rfl, rfl⟩) (Nat.le_of_ble_eq_true rfl) (show decode cX1_init 87 = .ok (.newarray .int, 2) by decide +kernel) hP14 hS14 (Nat.le_of_ble_eq_true rfl) (Nat.le_of_ble_eq_true rfl) (fun H15 hP15 hS15 => ?_)
  have hI15 : ac_I 395 763 395 0 M0 _ _ := hI14.con (kf_nw (by decide +kernel) (by decide +kernel) _) (by decide) (by decide)
  refine ac_putF hC hin (n := 763) (r := (0, 0, 1, 9, 293)) (show decode cX1_init 89 = .ok (.putfield 41, 3) by decide +kernel) (by decide +kernel) rfl (by decide) (by decide +kernel) (o := 395) (o' := 762) hP15 hS15 (by decide +kernel) ⟨_, rfl, rfl⟩ (fun H16 locs16 hP16 hS16 => ?_)
  have hI16 := hI15.put (j := 9) (v := ((762 : Nat) : Int)) (fun _ => rfl)
  refine lv_aload_n hx hb (show decode cX1_init 92 = .ok (.aload_n 0, 1) by decide +kernel) rfl (lv_at hl 1 rfl) ?_
  refine lv_bipush (v := Int32.ofInt ((64 : Nat) : Int)) hx hb (show decode cX1_init 93 = .ok (.bipush 64, 2) by decide +kernel) (by decide) ?_
  refine ac_newan hC (n := 763) (atype := .int) (c0 := 20) (N := 64) (ab_tnm (List.mem_of_getElem? (i := 264) rfl) rfl) (by decide +kernel) (by decide +kernel) (by left; exact ⟨rfl, rfl⟩) (Nat.le_of_ble_eq_true rfl) (show decode cX1_init 95 = .ok (.newarray .int, 2) by decide +kernel) hP16 hS16 (Nat.le_of_ble_eq_true rfl) (Nat.le_of_ble_eq_true rfl) (fun H17 hP17 hS17 => ?_)
  have hI17 : ac_I 395 764 395 0 M0 _ _ := hI16.con (kf_nw (by decide +kernel) (by decide +kernel) _) (by decide) (by decide)
  refine ac_putF hC hin (n := 764) (r := (0, 0, 1, 10, 294)) (show decode cX1_init 97 = .ok (.putfield 44, 3) by decide +kernel) (by decide +kernel) rfl (by decide) (by decide +kernel) (o := 395) (o' := 763) hP17 hS17 (by decide +kernel) ⟨_, rfl, rfl⟩ (fun H18 locs18 hP18 hS18 => ?_)
  have hI18 := hI17.put (j := 10) (v := ((763 : Nat) : Int)) (fun _ => rfl)
  exact ac_ret hC hr (show decode cX1_init 100 = .ok (.return_, 1) by decide +kernel) hP18 hS18 (hI18.kfc (N := 12) (by decide +kernel) (by decide +kernel) (by decide +kernel)) (Nat.le_of_ble_eq_true rfl) (Nat.le_of_ble_eq_true rfl)
