/-! the making: straight constructors (written by a program) -/
set_option maxRecDepth 20000 in
set_option maxHeartbeats 1000000 in
theorem mk_X7 (E : ab_E) {o g : Nat} (h0 : ab_kd o = 7) (h1 : ab_kd (o + 1) = 22 ∧ ab_ln (o + 1) = 16384) (h2 : ab_kd (o + 2) = 20 ∧ ab_ln (o + 2) = 120) (M : ab_M) : ac_Ok E 1 71 2 16504 [.inr (.inr (.inr (o, 7, 0))), .inr (.inr (.inr (g, 1, 0)))] (o + 1) (o + 3) M (fun M' => M' = ab_up (ac_nw (ab_up (ac_nw (ab_up (M) o 0 ((g : Nat) : Int)) (o + 1)) o 1 ((o + 1 : Nat) : Int)) (o + 2)) o 2 ((o + 2 : Nat) : Int)) := by
  refine ac_mk (q := (yX7_init, cX7_init, 2, none, 7, (369, 368, 9999, 101), 2)) rfl rfl rfl (Nat.le_of_ble_eq_true rfl) ?_
  intro p l e s m below meth c ls hC hN hin hr hP hl
  have hC : ab_Cx p s m _ meth c E cX7_init 7 2 := hC
  obtain ⟨hx, hb, hml, hown, hts, hK, hlk, hsz⟩ := id hC
  have hl : lv_has ls 2 [(0, .ref (E.1 + o)), (1, .ref (E.1 + g))] := hl
  have hS : va_S (fun q => E.1 ≤ q) s.heap s.heap [] := va_S.rf
  refine lv_aload_n hx hb (show decode cX7_init 0 = .ok (.aload_n 0, 1) by decide +kernel) rfl (lv_at hl 0 rfl) ?_
  refine W.objInit hx hb hown (hts _ (ab_tnm (List.mem_of_getElem? (i := 370) rfl) rfl)) (hts _ ac_obj.1) (hts _ ac_obj.2) rfl (by rw [hml]; exact hl.1) rfl (show decode cX7_init 1 = .ok (.invokespecial 3, 3) by decide +kernel) (Nat.le_of_ble_eq_true rfl) (Nat.le_of_ble_eq_true rfl) ?_
  refine W.eq (g2 := F0 m 4 ls []) rfl ?_
  refine lv_aload_n hx hb (show decode cX7_init 4 = .ok (.aload_n 0, 1) by decide +kernel) rfl (lv_at hl 0 rfl) ?_
  refine lv_aload_n hx hb (show decode cX7_init 5 = .ok (.aload_n 1, 1) by decide +kernel) rfl (lv_at hl 1 rfl) ?_
  refine ac_putF hC hin (r := (0, 0, 7, 0, 371)) (show decode cX7_init 6 = .ok (.putfield 9, 3) by decide +kernel) (by decide +kernel) rfl (by omega) h0 (o' := g) hP hS (by decide +kernel) ⟨_, rfl, rfl⟩ (fun H0 locs0 hP0 hS0 => ?_)
  refine lv_aload_n hx hb (show decode cX7_init 9 = .ok (.aload_n 0, 1) by decide +kernel) rfl (lv_at hl 0 rfl) ?_
  refine lv_sipush (v := 16384) hx hb (show decode cX7_init 10 = .ok (.sipush 16384, 3) by decide +kernel) (by decide) ?_
  refine W.eq (g2 := F0 m 13 ls [.int (Int32.ofInt ((ab_ln (o + 1) : Nat) : Int)), .ref (E.1 + o)]) (by rw [h1.2]; rfl) ?_
  refine ac_newa hC (n := o + 1) (atype := .byte) (c0 := 22) (ab_tnm (List.mem_of_getElem? (i := 384) rfl) rfl) h1.1 (by right; right; left; exact ⟨rfl, rfl⟩) (by omega) (show decode cX7_init 13 = .ok (.newarray .byte, 2) by decide +kernel) hP0 hS0 (Nat.le_of_ble_eq_true rfl) (by rw [h1.2]; exact Nat.le_of_ble_eq_true rfl) (fun H1 hP1 hS1 => ?_)
  refine ac_putF hC hin (r := (0, 0, 7, 1, 372)) (show decode cX7_init 15 = .ok (.putfield 15, 3) by decide +kernel) (by decide +kernel) rfl (by omega) h0 (o' := o + 1) hP1 hS1 (by decide +kernel) ⟨_, rfl, rfl⟩ (fun H2 locs2 hP2 hS2 => ?_)
  refine lv_aload_n hx hb (show decode cX7_init 18 = .ok (.aload_n 0, 1) by decide +kernel) rfl (lv_at hl 0 rfl) ?_
  refine lv_bipush (v := 120) hx hb (show decode cX7_init 19 = .ok (.bipush 120, 2) by decide +kernel) (by decide) ?_
  refine W.eq (g2 := F0 m 21 ls [.int (Int32.ofInt ((ab_ln (o + 2) : Nat) : Int)), .ref (E.1 + o)]) (by rw [h2.2]; rfl) ?_
  refine ac_newa hC (n := o + 2) (atype := .int) (c0 := 20) (ab_tnm (List.mem_of_getElem? (i := 264) rfl) rfl) h2.1 (by left; exact ⟨rfl, rfl⟩) (by omega) (show decode cX7_init 21 = .ok (.newarray .int, 2) by decide +kernel) hP2 hS2 (Nat.le_of_ble_eq_true rfl) (by rw [h1.2, h2.2]; exact Nat.le_of_ble_eq_true rfl) (fun H3 hP3 hS3 => ?_)
  refine ac_putF hC hin (r := (0, 0, 7, 2, 373)) (show decode cX7_init 23 = .ok (.putfield 19, 3) by decide +kernel) (by decide +kernel) rfl (by omega) h0 (o' := o + 2) hP3 hS3 (by decide +kernel) ⟨_, rfl, rfl⟩ (fun H4 locs4 hP4 hS4 => ?_)
  exact ac_ret hC hr (show decode cX7_init 26 = .ok (.return_, 1) by decide +kernel) hP4 hS4 rfl (Nat.le_refl _) (by rw [h1.2, h2.2]; exact Nat.le_of_ble_eq_true rfl)
set_option maxRecDepth 20000 in
set_option maxHeartbeats 1000000 in
theorem mk_X5 (E : ab_E) {o g v : Nat} (h0 : ab_kd o = 5) (h1 : ab_kd (o + 1) = 20 ∧ ab_ln (o + 1) = 256) (M : ab_M) : ac_Ok E 1 58 1 256 [.inr (.inr (.inr (o, 5, 0))), .inr (.inr (.inr (g, 1, 0))), .inr (.inr (.inr (v, 7, 0)))] (o + 1) (o + 2) M (fun M' => M' = ab_up (ac_nw (ab_up (ab_up (M) o 0 ((g : Nat) : Int)) o 1 ((v : Nat) : Int)) (o + 1)) o 2 ((o + 1 : Nat) : Int)) := by
  refine ac_mk (q := (yX5_init, cX5_init, 3, none, 5, (389, 388, 9999, 102), 2)) rfl rfl rfl (Nat.le_of_ble_eq_true rfl) ?_
  intro p l e s m below meth c ls hC hN hin hr hP hl
  have hC : ab_Cx p s m _ meth c E cX5_init 5 3 := hC
  obtain ⟨hx, hb, hml, hown, hts, hK, hlk, hsz⟩ := id hC
  have hl : lv_has ls 3 [(0, .ref (E.1 + o)), (1, .ref (E.1 + g)), (2, .ref (E.1 + v))] := hl
  have hS : va_S (fun q => E.1 ≤ q) s.heap s.heap [] := va_S.rf
  refine lv_aload_n hx hb (show decode cX5_init 0 = .ok (.aload_n 0, 1) by decide +kernel) rfl (lv_at hl 0 rfl) ?_
  refine W.objInit hx hb hown (hts _ (ab_tnm (List.mem_of_getElem? (i := 390) rfl) rfl)) (hts _ ac_obj.1) (hts _ ac_obj.2) rfl (by rw [hml]; exact hl.1) rfl (show decode cX5_init 1 = .ok (.invokespecial 3, 3) by decide +kernel) (Nat.le_of_ble_eq_true rfl) (Nat.le_of_ble_eq_true rfl) ?_
  refine W.eq (g2 := F0 m 4 ls []) rfl ?_
  refine lv_aload_n hx hb (show decode cX5_init 4 = .ok (.aload_n 0, 1) by decide +kernel) rfl (lv_at hl 0 rfl) ?_
  refine lv_aload_n hx hb (show decode cX5_init 5 = .ok (.aload_n 1, 1) by decide +kernel) rfl (lv_at hl 1 rfl) ?_
  refine ac_putF hC hin (r := (0, 0, 5, 0, 391)) (show decode cX5_init 6 = .ok (.putfield 9, 3) by decide +kernel) (by decide +kernel) rfl (by omega) h0 (o' := g) hP hS (by decide +kernel) ⟨_, rfl, rfl⟩ (fun H0 locs0 hP0 hS0 => ?_)
  refine lv_aload_n hx hb (show decode cX5_init 9 = .ok (.aload_n 0, 1) by decide +kernel) rfl (lv_at hl 0 rfl) ?_
  refine lv_aload_n hx hb (show decode cX5_init 10 = .ok (.aload_n 2, 1) by decide +kernel) rfl (lv_at hl 2 rfl) ?_
  refine ac_putF hC hin (r := (0, 0, 5, 1, 392)) (show decode cX5_init 11 = .ok (.putfield 15, 3) by decide +kernel) (by decide +kernel) rfl (by omega) h0 (o' := v) hP0 hS0 (by decide +kernel) ⟨_, rfl, rfl⟩ (fun H1 locs1 hP1 hS1 => ?_)
  refine lv_aload_n hx hb (show decode cX5_init 14 = .ok (.aload_n 0, 1) by decide +kernel) rfl (lv_at hl 0 rfl) ?_
  refine lv_sipush (v := 256) hx hb (show decode cX5_init 15 = .ok (.sipush 256, 3) by decide +kernel) (by decide) ?_
  refine W.eq (g2 := F0 m 18 ls [.int (Int32.ofInt ((ab_ln (o + 1) : Nat) : Int)), .ref (E.1 + o)]) (by rw [h1.2]; rfl) ?_
  refine ac_newa hC (n := o + 1) (atype := .int) (c0 := 20) (ab_tnm (List.mem_of_getElem? (i := 264) rfl) rfl) h1.1 (by left; exact ⟨rfl, rfl⟩) (by omega) (show decode cX5_init 18 = .ok (.newarray .int, 2) by decide +kernel) hP1 hS1 (Nat.le_of_ble_eq_true rfl) (by rw [h1.2]; exact Nat.le_of_ble_eq_true rfl) (fun H2 hP2 hS2 => ?_)
  refine ac_putF hC hin (r := (0, 0, 5, 2, 393)) (show decode cX5_init 20 = .ok (.putfield 19, 3) by decide +kernel) (by decide +kernel) rfl (by omega) h0 (o' := o + 1) hP2 hS2 (by decide +kernel) ⟨_, rfl, rfl⟩ (fun H3 locs3 hP3 hS3 => ?_)
  exact ac_ret hC hr (show decode cX5_init 23 = .ok (.return_, 1) by decide +kernel) hP3 hS3 rfl (Nat.le_refl _) (by rw [h1.2]; exact Nat.le_of_ble_eq_true rfl)
set_option maxRecDepth 20000 in
set_option maxHeartbeats 1000000 in
theorem mk_X0 (E : ab_E) {o g : Nat} (h0 : ab_kd o = 0) (h1 : ab_kd (o + 1) = 20 ∧ ab_ln (o + 1) = 4) (h2 : ab_kd (o + 2) = 20 ∧ ab_ln (o + 2) = 41) (h3 : ab_kd (o + 3) = 21 ∧ ab_ln (o + 3) = 41) (h4 : ab_kd (o + 4) = 20 ∧ ab_ln (o + 4) = 41) (M : ab_M) : ac_Ok E 1 0 4 127 [.inr (.inr (.inr (o, 0, 0))), .inr (.inr (.inr (g, 1, 0)))] (o + 1) (o + 5) M (fun M' => M' = ab_up (ac_nw (ab_up (ac_nw (ab_up (ac_nw (ab_up (ac_nw (ab_up (M) o 0 ((g : Nat) : Int)) (o + 1)) o 1 ((o + 1 : Nat) : Int)) (o + 2)) o 4 ((o + 2 : Nat) : Int)) (o + 3)) o 5 ((o + 3 : Nat) : Int)) (o + 4)) o 6 ((o + 4 : Nat) : Int)) := by
  refine ac_mk (q := (yX0_init, cX0_init, 2, none, 0, (530, 529, 9999, 106), 2)) rfl rfl rfl (Nat.le_of_ble_eq_true rfl) ?_
  intro p l e s m below meth c ls hC hN hin hr hP hl
  have hC : ab_Cx p s m _ meth c E cX0_init 0 2 := hC
  obtain ⟨hx, hb, hml, hown, hts, hK, hlk, hsz⟩ := id hC
  have hl : lv_has ls 2 [(0, .ref (E.1 + o)), (1, .ref (E.1 + g))] := hl
  have hS : va_S (fun q => E.1 ≤ q) s.heap s.heap [] := va_S.rf
  refine lv_aload_n hx hb (show decode cX0_init 0 = .ok (.aload_n 0, 1) by decide +kernel) rfl (lv_at hl 0 rfl) ?_
  refine W.objInit hx hb hown (hts _ (ab_tnm (List.mem_of_getElem? (i := 531) rfl) rfl)) (hts _ ac_obj.1) (hts _ ac_obj.2) rfl (by rw [hml]; exact hl.1) rfl (show decode cX0_init 1 = .ok (.invokespecial 5, 3) by decide +kernel) (Nat.le_of_ble_eq_true rfl) (Nat.le_of_ble_eq_true rfl) ?_
  refine W.eq (g2 := F0 m 4 ls []) rfl ?_
  refine lv_aload_n hx hb (show decode cX0_init 4 = .ok (.aload_n 0, 1) by decide +kernel) rfl (lv_at hl 0 rfl) ?_
  refine lv_aload_n hx hb (show decode cX0_init 5 = .ok (.aload_n 1, 1) by decide +kernel) rfl (lv_at hl 1 rfl) ?_
  refine ac_putF hC hin (r := (0, 0, 0, 0, 532)) (show decode cX0_init 6 = .ok (.putfield 11, 3) by decide +kernel) (by decide +kernel) rfl (by omega) h0 (o' := g) hP hS (by decide +kernel) ⟨_, rfl, rfl⟩ (fun H0 locs0 hP0 hS0 => ?_)
  refine lv_aload_n hx hb (show decode cX0_init 9 = .ok (.aload_n 0, 1) by decide +kernel) rfl (lv_at hl 0 rfl) ?_
  refine lv_iconst (v := 4) hx hb (show decode cX0_init 10 = .ok (.iconst 4, 1) by decide +kernel) (by decide) ?_
  refine W.eq (g2 := F0 m 11 ls [.int (Int32.ofInt ((ab_ln (o + 1) : Nat) : Int)), .ref (E.1 + o)]) (by rw [h1.2]; rfl) ?_
  refine ac_newa hC (n := o + 1) (atype := .int) (c0 := 20) (ab_tnm (List.mem_of_getElem? (i := 264) rfl) rfl) h1.1 (by left; exact ⟨rfl, rfl⟩) (by omega) (show decode cX0_init 11 = .ok (.newarray .int, 2) by decide +kernel) hP0 hS0 (Nat.le_of_ble_eq_true rfl) (by rw [h1.2]; exact Nat.le_of_ble_eq_true rfl) (fun H1 hP1 hS1 => ?_)
  refine ac_putF hC hin (r := (0, 0, 0, 1, 533)) (show decode cX0_init 13 = .ok (.putfield 15, 3) by decide +kernel) (by decide +kernel) rfl (by omega) h0 (o' := o + 1) hP1 hS1 (by decide +kernel) ⟨_, rfl, rfl⟩ (fun H2 locs2 hP2 hS2 => ?_)
  refine lv_aload_n hx hb (show decode cX0_init 16 = .ok (.aload_n 0, 1) by decide +kernel) rfl (lv_at hl 0 rfl) ?_
  refine lv_bipush (v := 41) hx hb (show decode cX0_init 17 = .ok (.bipush 41, 2) by decide +kernel) (by decide) ?_
  refine W.eq (g2 := F0 m 19 ls [.int (Int32.ofInt ((ab_ln (o + 2) : Nat) : Int)), .ref (E.1 + o)]) (by rw [h2.2]; rfl) ?_
  refine ac_newa hC (n := o + 2) (atype := .int) (c0 := 20) (ab_tnm (List.mem_of_getElem? (i := 264) rfl) rfl) h2.1 (by left; exact ⟨rfl, rfl⟩) (by omega) (show decode cX0_init 19 = .ok (.newarray .int, 2) by decide +kernel) hP2 hS2 (Nat.le_of_ble_eq_true rfl) (by rw [h1.2, h2.2]; exact Nat.le_of_ble_eq_true rfl) (fun H3 hP3 hS3 => ?_)
  refine ac_putF hC hin (r := (0, 0, 0, 4, 539)) (show decode cX0_init 21 = .ok (.putfield 19, 3) by decide +kernel) (by decide +kernel) rfl (by omega) h0 (o' := o + 2) hP3 hS3 (by decide +kernel) ⟨_, rfl, rfl⟩ (fun H4 locs4 hP4 hS4 => ?_)
  refine lv_aload_n hx hb (show decode cX0_init 24 = .ok (.aload_n 0, 1) by decide +kernel) rfl (lv_at hl 0 rfl) ?_
  refine lv_bipush (v := 41) hx hb (show decode cX0_init 25 = .ok (.bipush 41, 2) by decide +kernel) (by decide) ?_
  refine W.eq (g2 := F0 m 27 ls [.int (Int32.ofInt ((ab_ln (o + 3) : Nat) : Int)), .ref (E.1 + o)]) (by rw [h3.2]; rfl) ?_
  refine ac_newa hC (n := o + 3) (atype := .long) (c0 := 21) (ab_tnm (List.mem_of_getElem? (i := 447) rfl) rfl) h3.1 (by right; left; exact ⟨rfl, rfl⟩) (by omega) (show decode cX0_init 27 = .ok (.newarray .long, 2) by decide +kernel) hP4 hS4 (Nat.le_of_ble_eq_true rfl) (by rw [h1.2, h2.2, h3.2]; exact Nat.le_of_ble_eq_true rfl) (fun H5 hP5 hS5 => ?_)
  refine ac_putF hC hin (r := (0, 0, 0, 5, 540)) (show decode cX0_init 29 = .ok (.putfield 22, 3) by decide +kernel) (by decide +kernel) rfl (by omega) h0 (o' := o + 3) hP5 hS5 (by decide +kernel) ⟨_, rfl, rfl⟩ (fun H6 locs6 hP6 hS6 => ?_)
  refine lv_aload_n hx hb (show decode cX0_init 32 = .ok (.aload_n 0, 1) by decide +kernel) rfl (lv_at hl 0 rfl) ?_
  refine lv_bipush (v := 41) hx hb (show decode cX0_init 33 = .ok (.bipush 41, 2) by decide +kernel) (by decide) ?_
  refine W.eq (g2 := F0 m 35 ls [.int (Int32.ofInt ((ab_ln (o + 4) : Nat) : Int)), .ref (E.1 + o)]) (by rw [h4.2]; rfl) ?_
  refine ac_newa hC (n := o + 4) (atype := .int) (c0 := 20) (ab_tnm (List.mem_of_getElem? (i := 264) rfl) rfl) h4.1 (by left; exact ⟨rfl, rfl⟩) (by omega) (show decode cX0_init 35 = .ok (.newarray .int, 2) by decide +kernel) hP6 hS6 (Nat.le_of_ble_eq_true rfl) (by rw [h1.2, h2.2, h3.2, h4.2]; exact Nat.le_of_ble_eq_true rfl) (fun H7 hP7 hS7 => ?_)
  refine ac_putF hC hin (r := (0, 0, 0, 6, 541)) (show decode cX0_init 37 = .ok (.putfield 26, 3) by decide +kernel) (by decide +kernel) rfl (by omega) h0 (o' := o + 4) hP7 hS7 (by decide +kernel) ⟨_, rfl, rfl⟩ (fun H8 locs8 hP8 hS8 => ?_)
  exact ac_ret hC hr (show decode cX0_init 40 = .ok (.return_, 1) by decide +kernel) hP8 hS8 rfl (Nat.le_refl _) (by rw [h1.2, h2.2, h3.2, h4.2]; exact Nat.le_of_ble_eq_true rfl)
set_option maxRecDepth 20000 in
set_option maxHeartbeats 1000000 in
theorem mk_X12 (E : ab_E) {o g v z : Nat} (h0 : ab_kd o = 12) (h1 : ab_kd (o + 1) = 20 ∧ ab_ln (o + 1) = 33280) (h2 : ab_kd (o + 2) = 20 ∧ ab_ln (o + 2) = 33280) (h3 : ab_kd (o + 3) = 20 ∧ ab_ln (o + 3) = 33280) (h4 : ab_kd (o + 4) = 20 ∧ ab_ln (o + 4) = 33280) (M : ab_M) : ac_Ok E 1 205 4 133120 [.inr (.inr (.inr (o, 12, 0))), .inr (.inr (.inr (g, 1, 0))), .inr (.inr (.inr (v, 5, 0))), .inr (.inr (.inr (z, 21, 0)))] (o + 1) (o + 5) M (fun M' => M' = ab_up (ab_up (ab_up (ac_nw (ab_up (ac_nw (ab_up (ac_nw (ab_up (ac_nw (ab_up (ab_up (M) o 0 ((g : Nat) : Int)) o 1 ((v : Nat) : Int)) (o + 1)) o 2 ((o + 1 : Nat) : Int)) (o + 2)) o 3 ((o + 2 : Nat) : Int)) (o + 3)) o 4 ((o + 3 : Nat) : Int)) (o + 4)) o 5 ((o + 4 : Nat) : Int)) o 6 ((z : Nat) : Int)) o 9 (-1 : Int)) := by
  refine ac_mk (q := (yX12_init, cX12_init, 4, none, 12, (413, 412, 9999, 103), 2)) rfl rfl rfl (Nat.le_of_ble_eq_true rfl) ?_
  intro p l e s m below meth c ls hC hN hin hr hP hl
  have hC : ab_Cx p s m _ meth c E cX12_init 12 4 := hC
  obtain ⟨hx, hb, hml, hown, hts, hK, hlk, hsz⟩ := id hC
  have hl : lv_has ls 4 [(0, .ref (E.1 + o)), (1, .ref (E.1 + g)), (2, .ref (E.1 + v)), (3, .ref (E.1 + z))] := hl
  have hS : va_S (fun q => E.1 ≤ q) s.heap s.heap [] := va_S.rf
  refine lv_aload_n hx hb (show decode cX12_init 0 = .ok (.aload_n 0, 1) by decide +kernel) rfl (lv_at hl 0 rfl) ?_
  refine W.objInit hx hb hown (hts _ (ab_tnm (List.mem_of_getElem? (i := 414) rfl) rfl)) (hts _ ac_obj.1) (hts _ ac_obj.2) rfl (by rw [hml]; exact hl.1) rfl (show decode cX12_init 1 = .ok (.invokespecial 3, 3) by decide +kernel) (Nat.le_of_ble_eq_true rfl) (Nat.le_of_ble_eq_true rfl) ?_
  refine W.eq (g2 := F0 m 4 ls []) rfl ?_
  refine lv_aload_n hx hb (show decode cX12_init 4 = .ok (.aload_n 0, 1) by decide +kernel) rfl (lv_at hl 0 rfl) ?_
  refine lv_aload_n hx hb (show decode cX12_init 5 = .ok (.aload_n 1, 1) by decide +kernel) rfl (lv_at hl 1 rfl) ?_
  refine ac_putF hC hin (r := (0, 0, 12, 0, 416)) (show decode cX12_init 6 = .ok (.putfield 9, 3) by decide +kernel) (by decide +kernel) rfl (by omega) h0 (o' := g) hP hS (by decide +kernel) ⟨_, rfl, rfl⟩ (fun H0 locs0 hP0 hS0 => ?_)
  refine lv_aload_n hx hb (show decode cX12_init 9 = .ok (.aload_n 0, 1) by decide +kernel) rfl (lv_at hl 0 rfl) ?_
  refine lv_aload_n hx hb (show decode cX12_init 10 = .ok (.aload_n 2, 1) by decide +kernel) rfl (lv_at hl 2 rfl) ?_
  refine ac_putF hC hin (r := (0, 0, 12, 1, 417)) (show decode cX12_init 11 = .ok (.putfield 15, 3) by decide +kernel) (by decide +kernel) rfl (by omega) h0 (o' := v) hP0 hS0 (by decide +kernel) ⟨_, rfl, rfl⟩ (fun H1 locs1 hP1 hS1 => ?_)
  refine lv_aload_n hx hb (show decode cX12_init 14 = .ok (.aload_n 0, 1) by decide +kernel) rfl (lv_at hl 0 rfl) ?_
  refine lv_ldc hx hb hown (hts _ (ab_tnm (List.mem_of_getElem? (i := 415) rfl) rfl)) (show decode cX12_init 15 = .ok (.ldc 19, 2) by decide +kernel) ?_
  refine W.eq (g2 := F0 m 17 ls [.int (Int32.ofInt ((ab_ln (o + 1) : Nat) : Int)), .ref (E.1 + o)]) (by rw [h1.2]; rfl) ?_
  refine ac_newa hC (n := o + 1) (atype := .int) (c0 := 20) (ab_tnm (List.mem_of_getElem? (i := 264) rfl) rfl) h1.1 (by left; exact ⟨rfl, rfl⟩) (by omega) (show decode cX12_init 17 = .ok (.newarray .int, 2) by decide +kernel) hP1 hS1 (Nat.le_of_ble_eq_true rfl) (by rw [h1.2]; exact Nat.le_of_ble_eq_true rfl) (fun H2 hP2 hS2 => ?_)
  refine ac_putF hC hin (r := (0, 0, 12, 2, 418)) (show decode cX12_init 19 = .ok (.putfield 20, 3) by decide +kernel) (by decide +kernel) rfl (by omega) h0 (o' := o + 1) hP2 hS2 (by decide +kernel) ⟨_, rfl, rfl⟩ (fun H3 locs3 hP3 hS3 => ?_)
  refine lv_aload_n hx hb (show decode cX12_init 22 = .ok (.aload_n 0, 1) by decide +kernel) rfl (lv_at hl 0 rfl) ?_
  refine lv_ldc hx hb hown (hts _ (ab_tnm (List.mem_of_getElem? (i := 415) rfl) rfl)) (show decode cX12_init 23 = .ok (.ldc 19, 2) by decide +kernel) ?_
  refine W.eq (g2 := F0 m 25 ls [.int (Int32.ofInt ((ab_ln (o + 2) : Nat) : Int)), .ref (E.1 + o)]) (by rw [h2.2]; rfl) ?_
  refine ac_newa hC (n := o + 2) (atype := .int) (c0 := 20) (ab_tnm (List.mem_of_getElem? (i := 264) rfl) rfl) h2.1 (by left; exact ⟨rfl, rfl⟩) (by omega) (show decode cX12_init 25 = .ok (.newarray .int, 2) by decide +kernel) hP3 hS3 (Nat.le_of_ble_eq_true rfl) (by rw [h1.2, h2.2]; exact Nat.le_of_ble_eq_true rfl) (fun H4 hP4 hS4 => ?_)
  refine ac_putF hC hin (r := (0, 0, 12, 3, 419)) (show decode cX12_init 27 = .ok (.putfield 24, 3) by decide +kernel) (by decide +kernel) rfl (by omega) h0 (o' := o + 2) hP4 hS4 (by decide +kernel) ⟨_, rfl, rfl⟩ (fun H5 locs5 hP5 hS5 => ?_)
  refine lv_aload_n hx hb (show decode cX12_init 30 = .ok (.aload_n 0, 1) by decide +kernel) rfl (lv_at hl 0 rfl) ?_
  refine lv_ldc hx hb hown (hts _ (ab_tnm (List.mem_of_getElem? (i := 415) rfl) rfl)) (show decode cX12_init 31 = .ok (.ldc 19, 2) by decide +kernel) ?_
  refine W.eq (g2 := F0 m 33 ls [.int (Int32.ofInt ((ab_ln (o + 3) : Nat) : Int)), .ref (E.1 + o)]) (by rw [h3.2]; rfl) ?_
  refine ac_newa hC (n := o + 3) (atype := .int) (c0 := 20) (ab_tnm (List.mem_of_getElem? (i := 264) rfl) rfl) h3.1 (by left; exact ⟨rfl, rfl⟩) (by omega) (show decode cX12_init 33 = .ok (.newarray .int, 2) by decide +kernel) hP5 hS5 (Nat.le_of_ble_eq_true rfl) (by rw [h1.2, h2.2, h3.2]; exact Nat.le_of_ble_eq_true rfl) (fun H6 hP6 hS6 => ?_)
  refine ac_putF hC hin (r := (0, 0, 12, 4, 420)) (show decode cX12_init 35 = .ok (.putfield 27, 3) by decide +kernel) (by decide +kernel) rfl (by omega) h0 (o' := o + 3) hP6 hS6 (by decide +kernel) ⟨_, rfl, rfl⟩ (fun H7 locs7 hP7 hS7 => ?_)
  refine lv_aload_n hx hb (show decode cX12_init 38 = .ok (.aload_n 0, 1) by decide +kernel) rfl (lv_at hl 0 rfl) ?_
  refine lv_ldc hx hb hown (hts _ (ab_tnm (List.mem_of_getElem? (i := 415) rfl) rfl)) (show decode cX12_init 39 = .ok (.ldc 19, 2) by decide +kernel) ?_
  refine W.eq (g2 := F0 m 41 ls [.int (Int32.ofInt ((ab_ln (o + 4) : Nat) : Int)), .ref (E.1 + o)]) (by rw [h4.2]; rfl) ?_
  refine ac_newa hC (n := o + 4) (atype := .int) (c0 := 20) (ab_tnm (List.mem_of_getElem? (i := 264) rfl) rfl) h4.1 (by left; exact ⟨rfl, rfl⟩) (by omega) (show decode cX12_init 41 = .ok (.newarray .int, 2) by decide +kernel) hP7 hS7 (Nat.le_of_ble_eq_true rfl) (by rw [h1.2, h2.2, h3.2, h4.2]; exact Nat.le_of_ble_eq_true rfl) (fun H8 hP8 hS8 => ?_)
  refine ac_putF hC hin (r := (0, 0, 12, 5, 421)) (show decode cX12_init 43 = .ok (.putfield 30, 3) by decide +kernel) (by decide +kernel) rfl (by omega) h0 (o' := o + 4) hP8 hS8 (by decide +kernel) ⟨_, rfl, rfl⟩ (fun H9 locs9 hP9 hS9 => ?_)
  refine lv_aload_n hx hb (show decode cX12_init 46 = .ok (.aload_n 0, 1) by decide +kernel) rfl (lv_at hl 0 rfl) ?_
  refine lv_aload_n hx hb (show decode cX12_init 47 = .ok (.aload_n 3, 1) by decide +kernel) rfl (lv_at hl 3 rfl) ?_
  refine ac_putF hC hin (r := (0, 0, 12, 6, 422)) (show decode cX12_init 48 = .ok (.putfield 33, 3) by decide +kernel) (by decide +kernel) rfl (by omega) h0 (o' := z) hP9 hS9 (by decide +kernel) ⟨_, rfl, rfl⟩ (fun H10 locs10 hP10 hS10 => ?_)
  refine lv_aload_n hx hb (show decode cX12_init 51 = .ok (.aload_n 0, 1) by decide +kernel) rfl (lv_at hl 0 rfl) ?_
  refine lv_iconst (v := (-1)) hx hb (show decode cX12_init 52 = .ok (.iconst (-1), 1) by decide +kernel) (by decide) ?_
  refine W.eq (g2 := F0 m 53 ls [ab_fv E.1 (ab_ft 12 9).1 (-1 : Int), .ref (E.1 + o)]) rfl ?_
  refine ac_put hC (r := (0, 0, 12, 9, 425)) (show decode cX12_init 53 = .ok (.putfield 37, 3) by decide +kernel) (by decide +kernel) (by omega) h0 (z := (-1 : Int)) hP10 hS10 (by first | exact .inl (by decide +kernel) | exact .inr (.inl ⟨by decide +kernel, by decide⟩)) ⟨_, rfl, rfl⟩ (fun H11 locs11 hP11 hS11 => ?_)
  exact ac_ret hC hr (show decode cX12_init 56 = .ok (.return_, 1) by decide +kernel) hP11 hS11 rfl (Nat.le_refl _) (by rw [h1.2, h2.2, h3.2, h4.2]; exact Nat.le_of_ble_eq_true rfl)
set_option maxRecDepth 20000 in
set_option maxHeartbeats 1000000 in
theorem mk_X10 (E : ab_E) {o g v z w : Nat} (h0 : ab_kd o = 10)  (M : ab_M) : ac_Ok E 1 193 0 0 [.inr (.inr (.inr (o, 10, 0))), .inr (.inr (.inr (g, 1, 0))), .inr (.inr (.inr (v, 7, 0))), .inr (.inr (.inr (z, 5, 0))), .inr (.inr (.inr (w, 21, 0)))] (o + 1) (o + 1) M (fun M' => M' = ab_up (ab_up (ab_up (ab_up (M) o 0 ((g : Nat) : Int)) o 1 ((v : Nat) : Int)) o 2 ((z : Nat) : Int)) o 3 ((w : Nat) : Int)) := by
  refine ac_mk (q := (yX10_init, cX10_init, 5, none, 10, (452, 451, 9999, 104), 2)) rfl rfl rfl (Nat.le_of_ble_eq_true rfl) ?_
  intro p l e s m below meth c ls hC hN hin hr hP hl
  have hC : ab_Cx p s m _ meth c E cX10_init 10 5 := hC
  obtain ⟨hx, hb, hml, hown, hts, hK, hlk, hsz⟩ := id hC
  have hl : lv_has ls 5 [(0, .ref (E.1 + o)), (1, .ref (E.1 + g)), (2, .ref (E.1 + v)), (3, .ref (E.1 + z)), (4, .ref (E.1 + w))] := hl
  have hS : va_S (fun q => E.1 ≤ q) s.heap s.heap [] := va_S.rf
  refine lv_aload_n hx hb (show decode cX10_init 0 = .ok (.aload_n 0, 1) by decide +kernel) rfl (lv_at hl 0 rfl) ?_
  refine W.objInit hx hb hown (hts _ (ab_tnm (List.mem_of_getElem? (i := 453) rfl) rfl)) (hts _ ac_obj.1) (hts _ ac_obj.2) rfl (by rw [hml]; exact hl.1) rfl (show decode cX10_init 1 = .ok (.invokespecial 3, 3) by decide +kernel) (Nat.le_of_ble_eq_true rfl) (Nat.le_of_ble_eq_true rfl) ?_
  refine W.eq (g2 := F0 m 4 ls []) rfl ?_
  refine lv_aload_n hx hb (show decode cX10_init 4 = .ok (.aload_n 0, 1) by decide +kernel) rfl (lv_at hl 0 rfl) ?_
  refine lv_aload_n hx hb (show decode cX10_init 5 = .ok (.aload_n 1, 1) by decide +kernel) rfl (lv_at hl 1 rfl) ?_
  refine ac_putF hC hin (r := (0, 0, 10, 0, 454)) (show decode cX10_init 6 = .ok (.putfield 9, 3) by decide +kernel) (by decide +kernel) rfl (by omega) h0 (o' := g) hP hS (by decide +kernel) ⟨_, rfl, rfl⟩ (fun H0 locs0 hP0 hS0 => ?_)
  refine lv_aload_n hx hb (show decode cX10_init 9 = .ok (.aload_n 0, 1) by decide +kernel) rfl (lv_at hl 0 rfl) ?_
  refine lv_aload_n hx hb (show decode cX10_init 10 = .ok (.aload_n 2, 1) by decide +kernel) rfl (lv_at hl 2 rfl) ?_
  refine ac_putF hC hin (r := (0, 0, 10, 1, 455)) (show decode cX10_init 11 = .ok (.putfield 15, 3) by decide +kernel) (by decide +kernel) rfl (by omega) h0 (o' := v) hP0 hS0 (by decide +kernel) ⟨_, rfl, rfl⟩ (fun H1 locs1 hP1 hS1 => ?_)
  refine lv_aload_n hx hb (show decode cX10_init 14 = .ok (.aload_n 0, 1) by decide +kernel) rfl (lv_at hl 0 rfl) ?_
  refine lv_aload_n hx hb (show decode cX10_init 15 = .ok (.aload_n 3, 1) by decide +kernel) rfl (lv_at hl 3 rfl) ?_
  refine ac_putF hC hin (r := (0, 0, 10, 2, 456)) (show decode cX10_init 16 = .ok (.putfield 19, 3) by decide +kernel) (by decide +kernel) rfl (by omega) h0 (o' := z) hP1 hS1 (by decide +kernel) ⟨_, rfl, rfl⟩ (fun H2 locs2 hP2 hS2 => ?_)
  refine lv_aload_n hx hb (show decode cX10_init 19 = .ok (.aload_n 0, 1) by decide +kernel) rfl (lv_at hl 0 rfl) ?_
  refine lv_aload hx hb (show decode cX10_init 20 = .ok (.aload 4, 2) by decide +kernel) (lv_at hl 4 rfl) ?_
  refine ac_putF hC hin (r := (0, 0, 10, 3, 457)) (show decode cX10_init 22 = .ok (.putfield 23, 3) by decide +kernel) (by decide +kernel) rfl (by omega) h0 (o' := w) hP2 hS2 (by decide +kernel) ⟨_, rfl, rfl⟩ (fun H3 locs3 hP3 hS3 => ?_)
  exact ac_ret hC hr (show decode cX10_init 25 = .ok (.return_, 1) by decide +kernel) hP3 hS3 rfl (Nat.le_refl _) (Nat.le_refl _)
set_option maxRecDepth 20000 in
set_option maxHeartbeats 1000000 in
theorem mk_X11 (E : ab_E) {o v : Nat} (h0 : ab_kd o = 11) (h1 : ab_kd (o + 1) = 21 ∧ ab_ln (o + 1) = 1024) (h2 : ab_kd (o + 2) = 21 ∧ ab_ln (o + 2) = 4) (h3 : ab_kd (o + 3) = 21 ∧ ab_ln (o + 3) = 4) (M : ab_M) : ac_Ok E 1 199 3 1032 [.inr (.inr (.inr (o, 11, 0))), .inr (.inr (.inr (v, 7, 0)))] (o + 1) (o + 4) M (fun M' => M' = ab_up (ac_nw (ab_up (ac_nw (ab_up (ac_nw (ab_up (M) o 0 ((v : Nat) : Int)) (o + 1)) o 1 ((o + 1 : Nat) : Int)) (o + 2)) o 2 ((o + 2 : Nat) : Int)) (o + 3)) o 3 ((o + 3 : Nat) : Int)) := by
  refine ac_mk (q := (yX11_init, cX11_init, 2, none, 11, (471, 470, 9999, 105), 2)) rfl rfl rfl (Nat.le_of_ble_eq_true rfl) ?_
  intro p l e s m below meth c ls hC hN hin hr hP hl
  have hC : ab_Cx p s m _ meth c E cX11_init 11 2 := hC
  obtain ⟨hx, hb, hml, hown, hts, hK, hlk, hsz⟩ := id hC
  have hl : lv_has ls 2 [(0, .ref (E.1 + o)), (1, .ref (E.1 + v))] := hl
  have hS : va_S (fun q => E.1 ≤ q) s.heap s.heap [] := va_S.rf
  refine lv_aload_n hx hb (show decode cX11_init 0 = .ok (.aload_n 0, 1) by decide +kernel) rfl (lv_at hl 0 rfl) ?_
  refine W.objInit hx hb hown (hts _ (ab_tnm (List.mem_of_getElem? (i := 472) rfl) rfl)) (hts _ ac_obj.1) (hts _ ac_obj.2) rfl (by rw [hml]; exact hl.1) rfl (show decode cX11_init 1 = .ok (.invokespecial 3, 3) by decide +kernel) (Nat.le_of_ble_eq_true rfl) (Nat.le_of_ble_eq_true rfl) ?_
  refine W.eq (g2 := F0 m 4 ls []) rfl ?_
  refine lv_aload_n hx hb (show decode cX11_init 4 = .ok (.aload_n 0, 1) by decide +kernel) rfl (lv_at hl 0 rfl) ?_
  refine lv_aload_n hx hb (show decode cX11_init 5 = .ok (.aload_n 1, 1) by decide +kernel) rfl (lv_at hl 1 rfl) ?_
  refine ac_putF hC hin (r := (0, 0, 11, 0, 473)) (show decode cX11_init 6 = .ok (.putfield 9, 3) by decide +kernel) (by decide +kernel) rfl (by omega) h0 (o' := v) hP hS (by decide +kernel) ⟨_, rfl, rfl⟩ (fun H0 locs0 hP0 hS0 => ?_)
  refine lv_aload_n hx hb (show decode cX11_init 9 = .ok (.aload_n 0, 1) by decide +kernel) rfl (lv_at hl 0 rfl) ?_
  refine lv_sipush (v := 1024) hx hb (show decode cX11_init 10 = .ok (.sipush 1024, 3) by decide +kernel) (by decide) ?_
  refine W.eq (g2 := F0 m 13 ls [.int (Int32.ofInt ((ab_ln (o + 1) : Nat) : Int)), .ref (E.1 + o)]) (by rw [h1.2]; rfl) ?_
  refine ac_newa hC (n := o + 1) (atype := .long) (c0 := 21) (ab_tnm (List.mem_of_getElem? (i := 447) rfl) rfl) h1.1 (by right; left; exact ⟨rfl, rfl⟩) (by omega) (show decode cX11_init 13 = .ok (.newarray .long, 2) by decide +kernel) hP0 hS0 (Nat.le_of_ble_eq_true rfl) (by rw [h1.2]; exact Nat.le_of_ble_eq_true rfl) (fun H1 hP1 hS1 => ?_)
  refine ac_putF hC hin (r := (0, 0, 11, 1, 474)) (show decode cX11_init 15 = .ok (.putfield 15, 3) by decide +kernel) (by decide +kernel) rfl (by omega) h0 (o' := o + 1) hP1 hS1 (by decide +kernel) ⟨_, rfl, rfl⟩ (fun H2 locs2 hP2 hS2 => ?_)
  refine lv_aload_n hx hb (show decode cX11_init 18 = .ok (.aload_n 0, 1) by decide +kernel) rfl (lv_at hl 0 rfl) ?_
  refine lv_iconst (v := 4) hx hb (show decode cX11_init 19 = .ok (.iconst 4, 1) by decide +kernel) (by decide) ?_
  refine W.eq (g2 := F0 m 20 ls [.int (Int32.ofInt ((ab_ln (o + 2) : Nat) : Int)), .ref (E.1 + o)]) (by rw [h2.2]; rfl) ?_
  refine ac_newa hC (n := o + 2) (atype := .long) (c0 := 21) (ab_tnm (List.mem_of_getElem? (i := 447) rfl) rfl) h2.1 (by right; left; exact ⟨rfl, rfl⟩) (by omega) (show decode cX11_init 20 = .ok (.newarray .long, 2) by decide +kernel) hP2 hS2 (Nat.le_of_ble_eq_true rfl) (by rw [h1.2, h2.2]; exact Nat.le_of_ble_eq_true rfl) (fun H3 hP3 hS3 => ?_)
  refine ac_putF hC hin (r := (0, 0, 11, 2, 476)) (show decode cX11_init 22 = .ok (.putfield 19, 3) by decide +kernel) (by decide +kernel) rfl (by omega) h0 (o' := o + 2) hP3 hS3 (by decide +kernel) ⟨_, rfl, rfl⟩ (fun H4 locs4 hP4 hS4 => ?_)
  refine lv_aload_n hx hb (show decode cX11_init 25 = .ok (.aload_n 0, 1) by decide +kernel) rfl (lv_at hl 0 rfl) ?_
  refine lv_iconst (v := 4) hx hb (show decode cX11_init 26 = .ok (.iconst 4, 1) by decide +kernel) (by decide) ?_
  refine W.eq (g2 := F0 m 27 ls [.int (Int32.ofInt ((ab_ln (o + 3) : Nat) : Int)), .ref (E.1 + o)]) (by rw [h3.2]; rfl) ?_
  refine ac_newa hC (n := o + 3) (atype := .long) (c0 := 21) (ab_tnm (List.mem_of_getElem? (i := 447) rfl) rfl) h3.1 (by right; left; exact ⟨rfl, rfl⟩) (by omega) (show decode cX11_init 27 = .ok (.newarray .long, 2) by decide +kernel) hP4 hS4 (Nat.le_of_ble_eq_true rfl) (by rw [h1.2, h2.2, h3.2]; exact Nat.le_of_ble_eq_true rfl) (fun H5 hP5 hS5 => ?_)
  refine ac_putF hC hin (r := (0, 0, 11, 3, 477)) (show decode cX11_init 29 = .ok (.putfield 22, 3) by decide +kernel) (by decide +kernel) rfl (by omega) h0 (o' := o + 3) hP5 hS5 (by decide +kernel) ⟨_, rfl, rfl⟩ (fun H6 locs6 hP6 hS6 => ?_)
  exact ac_ret hC hr (show decode cX11_init 32 = .ok (.return_, 1) by decide +kernel) hP6 hS6 rfl (Nat.le_refl _) (by rw [h1.2, h2.2, h3.2]; exact Nat.le_of_ble_eq_true rfl)
