/-! the law: its loop, its start (written by a program) -/
section AC
variable {p : Program} {l : Launch} {e : Env} {s : State} {m : MethodId} {below : List Frame} {meth : Method} {c : Code} {E : ab_E} {b L : Nat} {xs : Nat → Int32}
theorem al_sw : decode code 32 = .ok (.tableswitch 685 0 23 #[112, 135, 148, 161, 184, 197, 220, 243, 276, 319, 342, 385, 438, 471, 494, 507, 520, 534, 567, 580, 603, 616, 639, 662], 112) := by decide +kernel
theorem al_gt {n L : Nat} (hn : 5 * n ≤ 2560) (hL : L ≤ 2560) : Int32.ofNat L - Int32.ofInt (5 : Int) < Int32.ofInt ((5 * n : Nat) : Int) ↔ L < 5 * n + 5 := by
  have e1 : Int32.ofNat L - Int32.ofInt (5 : Int) = Int32.ofInt ((L : Int) - 5) := by
    rw [Int32.ofInt_sub]; rfl
  rw [e1, Int32.lt_iff_toInt_lt, Int32.toInt_ofInt_of_le (by omega) (by omega), Int32.toInt_ofInt_of_le (by omega) (by omega)]
  omega
theorem al_end (hA : al_At p s m meth c E b L xs) (hr : meth.sig.returnType = ret) {H : Heap} {locs : List Loc} {ls : Array Slot} (hS : va_S (fun q => E.1 ≤ q) s.heap H locs) : W p l e room_1 s m #[Value.ref b] below meth c H locs 848 600000 (lw_Z below #[Value.ref b] s) (F0 m 723 ls []) := by
  obtain ⟨hC, hN, hX, hbl, hE, hL⟩ := id hA
  obtain ⟨hx, hb, hml, hown, hts, hK, hlk, hsz⟩ := id hC
  refine lv_iconst (v := 1) hx hb (show decode code 723 = .ok (.iconst 1, 1) by decide +kernel) (by decide) ?_
  refine va_forget (fun q hq => by have := hS.2.2 q hq; omega) ?_
  refine W.widen (k := 600000) (n := 7302250) (by omega) (by omega) ?_
  exact lw_ret hx hb hr hlk (show decode code 724 = .ok (.ireturn, 1) by decide +kernel)
set_option maxRecDepth 20000 in
theorem al_c0 (hA : al_At p s m meth c E b L xs) {Q : State → Prop} {M : ab_M} {n k0 : Nat} {H : Heap} {locs : List Loc} {ls : Array Slot} (hn : 5 * n + 5 ≤ L) (hk : k0 ≤ n) (hl : lv_has ls 4 (al_lv E b n)) (hI : INV k0 M) (hwd : ab_wd M) (hP : va_P E.2.1 ab_cl (ab_W E ab_n M) H) (hS : va_S (fun q => E.1 ≤ q) s.heap H locs)
    (kk : ∀ (M2 : ab_M) (H2 : Heap) (locs2 : List Loc), INV (k0 + 1) M2 → ab_wd M2 → va_P E.2.1 ab_cl (ab_W E ab_n M2) H2 → va_S (fun q => E.1 ≤ q) s.heap H2 locs2 → W p l e room_1 s m #[Value.ref b] below meth c H2 locs2 848 600000 Q (F0 m 717 ls [])) : W p l e room_1 s m #[Value.ref b] below meth c H locs 848 600000 Q (F0 m 144 ls []) := by
  have hL := hA.2.2.2.2.2
  exact al_way1 hA (Nat.le_of_ble_eq_true rfl) (Nat.le_of_ble_eq_true rfl) (pc := 144) (i8 := 13) (i9 := 17) (ix8 := 112) (ix9 := 187) (off := 555) rq_X8_type rq_X9_type rfl rfl rfl rfl (by decide +kernel) (by decide +kernel) (ab_tnm (List.mem_of_getElem? (i := 603) rfl) rfl) (ab_tnm (List.mem_of_getElem? (i := 1407) rfl) rfl) (ok_X8_type E) (ok_X9_type E) (by decide) (by decide) (by decide +kernel) (by decide) hn hl hwd hP hS (Nat.le_of_ble_eq_true rfl) (Nat.le_of_ble_eq_true rfl) (bo_type hI (al_ir _)) kk
set_option maxRecDepth 20000 in
theorem al_c1 (hA : al_At p s m meth c E b L xs) {Q : State → Prop} {M : ab_M} {n k0 : Nat} {H : Heap} {locs : List Loc} {ls : Array Slot} (hn : 5 * n + 5 ≤ L) (hk : k0 ≤ n) (hl : lv_has ls 4 (al_lv E b n)) (hI : INV k0 M) (hwd : ab_wd M) (hP : va_P E.2.1 ab_cl (ab_W E ab_n M) H) (hS : va_S (fun q => E.1 ≤ q) s.heap H locs)
    (kk : ∀ (M2 : ab_M) (H2 : Heap) (locs2 : List Loc), INV (k0 + 1) M2 → ab_wd M2 → va_P E.2.1 ab_cl (ab_W E ab_n M2) H2 → va_S (fun q => E.1 ≤ q) s.heap H2 locs2 → W p l e room_1 s m #[Value.ref b] below meth c H2 locs2 848 600000 Q (F0 m 717 ls [])) : W p l e room_1 s m #[Value.ref b] below meth c H locs 848 600000 Q (F0 m 167 ls []) := by
  have hL := hA.2.2.2.2.2
  exact al_way0 hA (Nat.le_of_ble_eq_true rfl) (Nat.le_of_ble_eq_true rfl) (pc := 167) (i8 := 18) (i9 := 22) (ix8 := 83) (ix9 := 126) (off := 542) rq_X8_clear rq_X9_clear rfl rfl rfl rfl (by decide +kernel) (by decide +kernel) (ab_tnm (List.mem_of_getElem? (i := 611) rfl) rfl) (ab_tnm (List.mem_of_getElem? (i := 1414) rfl) rfl) (ok_X8_clear E) (ok_X9_clear E) (by decide) (by decide) (by decide +kernel) (by decide) hn hl hwd hP hS (Nat.le_of_ble_eq_true rfl) (Nat.le_of_ble_eq_true rfl) (bo_clear hI) kk
set_option maxRecDepth 20000 in
theorem al_c2 (hA : al_At p s m meth c E b L xs) {Q : State → Prop} {M : ab_M} {n k0 : Nat} {H : Heap} {locs : List Loc} {ls : Array Slot} (hn : 5 * n + 5 ≤ L) (hk : k0 ≤ n) (hl : lv_has ls 4 (al_lv E b n)) (hI : INV k0 M) (hwd : ab_wd M) (hP : va_P E.2.1 ab_cl (ab_W E ab_n M) H) (hS : va_S (fun q => E.1 ≤ q) s.heap H locs)
    (kk : ∀ (M2 : ab_M) (H2 : Heap) (locs2 : List Loc), INV (k0 + 1) M2 → ab_wd M2 → va_P E.2.1 ab_cl (ab_W E ab_n M2) H2 → va_S (fun q => E.1 ≤ q) s.heap H2 locs2 → W p l e room_1 s m #[Value.ref b] below meth c H2 locs2 848 600000 Q (F0 m 717 ls [])) : W p l e room_1 s m #[Value.ref b] below meth c H locs 848 600000 Q (F0 m 180 ls []) := by
  have hL := hA.2.2.2.2.2
  exact al_way0 hA (Nat.le_of_ble_eq_true rfl) (Nat.le_of_ble_eq_true rfl) (pc := 180) (i8 := 23) (i9 := 26) (ix8 := 104) (ix9 := 169) (off := 529) rq_X8_program rq_X9_program rfl rfl rfl rfl (by decide +kernel) (by decide +kernel) (ab_tnm (List.mem_of_getElem? (i := 615) rfl) rfl) (ab_tnm (List.mem_of_getElem? (i := 1418) rfl) rfl) (ok_X8_program E) (ok_X9_program E) (by decide) (by decide) (by decide +kernel) (by decide) hn hl hwd hP hS (Nat.le_of_ble_eq_true rfl) (Nat.le_of_ble_eq_true rfl) (bo_program hI) kk
set_option maxRecDepth 20000 in
theorem al_c3 (hA : al_At p s m meth c E b L xs) {Q : State → Prop} {M : ab_M} {n k0 : Nat} {H : Heap} {locs : List Loc} {ls : Array Slot} (hn : 5 * n + 5 ≤ L) (hk : k0 ≤ n) (hl : lv_has ls 4 (al_lv E b n)) (hI : INV k0 M) (hwd : ab_wd M) (hP : va_P E.2.1 ab_cl (ab_W E ab_n M) H) (hS : va_S (fun q => E.1 ≤ q) s.heap H locs)
    (kk : ∀ (M2 : ab_M) (H2 : Heap) (locs2 : List Loc), INV (k0 + 1) M2 → ab_wd M2 → va_P E.2.1 ab_cl (ab_W E ab_n M2) H2 → va_S (fun q => E.1 ≤ q) s.heap H2 locs2 → W p l e room_1 s m #[Value.ref b] below meth c H2 locs2 848 600000 Q (F0 m 717 ls [])) : W p l e room_1 s m #[Value.ref b] below meth c H locs 848 600000 Q (F0 m 193 ls []) := by
  have hL := hA.2.2.2.2.2
  exact al_way1 hA (Nat.le_of_ble_eq_true rfl) (Nat.le_of_ble_eq_true rfl) (pc := 193) (i8 := 27) (i9 := 30) (ix8 := 91) (ix9 := 146) (off := 506) rq_X8_invariant rq_X9_invariant rfl rfl rfl rfl (by decide +kernel) (by decide +kernel) (ab_tnm (List.mem_of_getElem? (i := 778) rfl) rfl) (ab_tnm (List.mem_of_getElem? (i := 1486) rfl) rfl) (ok_X8_invariant E) (ok_X9_invariant E) (by decide) (by decide) (by decide +kernel) (by decide) hn hl hwd hP hS (Nat.le_of_ble_eq_true rfl) (Nat.le_of_ble_eq_true rfl) (bo_invariant hI (al_ir _)) kk
set_option maxRecDepth 20000 in
theorem al_c4 (hA : al_At p s m meth c E b L xs) {Q : State → Prop} {M : ab_M} {n k0 : Nat} {H : Heap} {locs : List Loc} {ls : Array Slot} (hn : 5 * n + 5 ≤ L) (hk : k0 ≤ n) (hl : lv_has ls 4 (al_lv E b n)) (hI : INV k0 M) (hwd : ab_wd M) (hP : va_P E.2.1 ab_cl (ab_W E ab_n M) H) (hS : va_S (fun q => E.1 ≤ q) s.heap H locs)
    (kk : ∀ (M2 : ab_M) (H2 : Heap) (locs2 : List Loc), INV (k0 + 1) M2 → ab_wd M2 → va_P E.2.1 ab_cl (ab_W E ab_n M2) H2 → va_S (fun q => E.1 ≤ q) s.heap H2 locs2 → W p l e room_1 s m #[Value.ref b] below meth c H2 locs2 848 600000 Q (F0 m 717 ls [])) : W p l e room_1 s m #[Value.ref b] below meth c H locs 848 600000 Q (F0 m 216 ls []) := by
  have hL := hA.2.2.2.2.2
  exact al_way0 hA (Nat.le_of_ble_eq_true rfl) (Nat.le_of_ble_eq_true rfl) (pc := 216) (i8 := 31) (i9 := 34) (ix8 := 113) (ix9 := 188) (off := 493) rq_X8_undo rq_X9_undo rfl rfl rfl rfl (by decide +kernel) (by decide +kernel) (ab_tnm (List.mem_of_getElem? (i := 806) rfl) rfl) (ab_tnm (List.mem_of_getElem? (i := 1498) rfl) rfl) (ok_X8_undo E) (ok_X9_undo E) (by decide) (by decide) (by decide +kernel) (by decide) hn hl hwd hP hS (Nat.le_of_ble_eq_true rfl) (Nat.le_of_ble_eq_true rfl) (bo_undo hI) kk
set_option maxRecDepth 20000 in
theorem al_c5 (hA : al_At p s m meth c E b L xs) {Q : State → Prop} {M : ab_M} {n k0 : Nat} {H : Heap} {locs : List Loc} {ls : Array Slot} (hn : 5 * n + 5 ≤ L) (hk : k0 ≤ n) (hl : lv_has ls 4 (al_lv E b n)) (hI : INV k0 M) (hwd : ab_wd M) (hP : va_P E.2.1 ab_cl (ab_W E ab_n M) H) (hS : va_S (fun q => E.1 ≤ q) s.heap H locs)
    (kk : ∀ (M2 : ab_M) (H2 : Heap) (locs2 : List Loc), INV (k0 + 1) M2 → ab_wd M2 → va_P E.2.1 ab_cl (ab_W E ab_n M2) H2 → va_S (fun q => E.1 ≤ q) s.heap H2 locs2 → W p l e room_1 s m #[Value.ref b] below meth c H2 locs2 848 600000 Q (F0 m 717 ls [])) : W p l e room_1 s m #[Value.ref b] below meth c H locs 848 600000 Q (F0 m 229 ls []) := by
  have hL := hA.2.2.2.2.2
  exact al_way1 hA (Nat.le_of_ble_eq_true rfl) (Nat.le_of_ble_eq_true rfl) (pc := 229) (i8 := 35) (i9 := 38) (ix8 := 111) (ix9 := 185) (off := 470) rq_X8_told rq_X9_told rfl rfl rfl rfl (by decide +kernel) (by decide +kernel) (ab_tnm (List.mem_of_getElem? (i := 810) rfl) rfl) (ab_tnm (List.mem_of_getElem? (i := 1502) rfl) rfl) (ok_X8_told E) (ok_X9_told E) (by decide) (by decide) (by decide +kernel) (by decide) hn hl hwd hP hS (Nat.le_of_ble_eq_true rfl) (Nat.le_of_ble_eq_true rfl) (bo_told hI (al_ir _)) kk
set_option maxRecDepth 20000 in
theorem al_c6 (hA : al_At p s m meth c E b L xs) {Q : State → Prop} {M : ab_M} {n k0 : Nat} {H : Heap} {locs : List Loc} {ls : Array Slot} (hn : 5 * n + 5 ≤ L) (hk : k0 ≤ n) (hl : lv_has ls 4 (al_lv E b n)) (hI : INV k0 M) (hwd : ab_wd M) (hP : va_P E.2.1 ab_cl (ab_W E ab_n M) H) (hS : va_S (fun q => E.1 ≤ q) s.heap H locs)
    (kk : ∀ (M2 : ab_M) (H2 : Heap) (locs2 : List Loc), INV (k0 + 1) M2 → ab_wd M2 → va_P E.2.1 ab_cl (ab_W E ab_n M2) H2 → va_S (fun q => E.1 ≤ q) s.heap H2 locs2 → W p l e room_1 s m #[Value.ref b] below meth c H2 locs2 848 600000 Q (F0 m 717 ls [])) : W p l e room_1 s m #[Value.ref b] below meth c H locs 848 600000 Q (F0 m 252 ls []) := by
  have hL := hA.2.2.2.2.2
  exact al_way1 hA (Nat.le_of_ble_eq_true rfl) (Nat.le_of_ble_eq_true rfl) (pc := 252) (i8 := 39) (i9 := 42) (ix8 := 99) (ix9 := 156) (off := 447) rq_X8_kind rq_X9_kind rfl rfl rfl rfl (by decide +kernel) (by decide +kernel) (ab_tnm (List.mem_of_getElem? (i := 815) rfl) rfl) (ab_tnm (List.mem_of_getElem? (i := 1506) rfl) rfl) (ok_X8_kind E) (ok_X9_kind E) (by decide) (by decide) (by decide +kernel) (by decide) hn hl hwd hP hS (Nat.le_of_ble_eq_true rfl) (Nat.le_of_ble_eq_true rfl) (bo_kind hI (al_ir _)) kk
set_option maxRecDepth 20000 in
theorem al_c7 (hA : al_At p s m meth c E b L xs) {Q : State → Prop} {M : ab_M} {n k0 : Nat} {H : Heap} {locs : List Loc} {ls : Array Slot} (hn : 5 * n + 5 ≤ L) (hk : k0 ≤ n) (hl : lv_has ls 4 (al_lv E b n)) (hI : INV k0 M) (hwd : ab_wd M) (hP : va_P E.2.1 ab_cl (ab_W E ab_n M) H) (hS : va_S (fun q => E.1 ≤ q) s.heap H locs)
    (kk : ∀ (M2 : ab_M) (H2 : Heap) (locs2 : List Loc), INV (k0 + 1) M2 → ab_wd M2 → va_P E.2.1 ab_cl (ab_W E ab_n M2) H2 → va_S (fun q => E.1 ≤ q) s.heap H2 locs2 → W p l e room_1 s m #[Value.ref b] below meth c H2 locs2 848 600000 Q (F0 m 717 ls [])) : W p l e room_1 s m #[Value.ref b] below meth c H locs 848 600000 Q (F0 m 275 ls []) := by
  have hL := hA.2.2.2.2.2
  exact al_way2 hA (Nat.le_of_ble_eq_true rfl) (Nat.le_of_ble_eq_true rfl) (pc := 275) (i8 := 43) (i9 := 47) (ix8 := 102) (ix9 := 161) (off := 414) rq_X8_loop rq_X9_loop rfl rfl rfl rfl (by decide +kernel) (by decide +kernel) (ab_tnm (List.mem_of_getElem? (i := 823) rfl) rfl) (ab_tnm (List.mem_of_getElem? (i := 1510) rfl) rfl) (ok_X8_loop E) (ok_X9_loop E) (by decide) (by decide) (by decide +kernel) (by decide) hn hl hwd hP hS (Nat.le_of_ble_eq_true rfl) (Nat.le_of_ble_eq_true rfl) (bo_loop hI (al_ir _) (al_ir _)) kk
set_option maxRecDepth 20000 in
theorem al_c8 (hA : al_At p s m meth c E b L xs) {Q : State → Prop} {M : ab_M} {n k0 : Nat} {H : Heap} {locs : List Loc} {ls : Array Slot} (hn : 5 * n + 5 ≤ L) (hk : k0 ≤ n) (hl : lv_has ls 4 (al_lv E b n)) (hI : INV k0 M) (hwd : ab_wd M) (hP : va_P E.2.1 ab_cl (ab_W E ab_n M) H) (hS : va_S (fun q => E.1 ≤ q) s.heap H locs)
    (kk : ∀ (M2 : ab_M) (H2 : Heap) (locs2 : List Loc), INV (k0 + 1) M2 → ab_wd M2 → va_P E.2.1 ab_cl (ab_W E ab_n M2) H2 → va_S (fun q => E.1 ≤ q) s.heap H2 locs2 → W p l e room_1 s m #[Value.ref b] below meth c H2 locs2 848 600000 Q (F0 m 717 ls [])) : W p l e room_1 s m #[Value.ref b] below meth c H locs 848 600000 Q (F0 m 308 ls []) := by
  have hL := hA.2.2.2.2.2
  exact al_way3 hA (Nat.le_of_ble_eq_true rfl) (Nat.le_of_ble_eq_true rfl) (pc := 308) (i8 := 48) (i9 := 52) (ix8 := 116) (ix9 := 192) (off := 371) rq_X8_wrong rq_X9_wrong rfl rfl rfl rfl (by decide +kernel) (by decide +kernel) (ab_tnm (List.mem_of_getElem? (i := 857) rfl) rfl) (ab_tnm (List.mem_of_getElem? (i := 1525) rfl) rfl) (ok_X8_wrong E) (ok_X9_wrong E) (by decide) (by decide) (by decide +kernel) (by decide) hn hl hwd hP hS (Nat.le_of_ble_eq_true rfl) (Nat.le_of_ble_eq_true rfl) (bo_wrong hI (al_ir _) (al_ir _) (al_ir _)) kk
set_option maxRecDepth 20000 in
theorem al_c9 (hA : al_At p s m meth c E b L xs) {Q : State → Prop} {M : ab_M} {n k0 : Nat} {H : Heap} {locs : List Loc} {ls : Array Slot} (hn : 5 * n + 5 ≤ L) (hk : k0 ≤ n) (hl : lv_has ls 4 (al_lv E b n)) (hI : INV k0 M) (hwd : ab_wd M) (hP : va_P E.2.1 ab_cl (ab_W E ab_n M) H) (hS : va_S (fun q => E.1 ≤ q) s.heap H locs)
    (kk : ∀ (M2 : ab_M) (H2 : Heap) (locs2 : List Loc), INV (k0 + 1) M2 → ab_wd M2 → va_P E.2.1 ab_cl (ab_W E ab_n M2) H2 → va_S (fun q => E.1 ≤ q) s.heap H2 locs2 → W p l e room_1 s m #[Value.ref b] below meth c H2 locs2 848 600000 Q (F0 m 717 ls [])) : W p l e room_1 s m #[Value.ref b] below meth c H locs 848 600000 Q (F0 m 351 ls []) := by
  have hL := hA.2.2.2.2.2
  exact al_way1 hA (Nat.le_of_ble_eq_true rfl) (Nat.le_of_ble_eq_true rfl) (pc := 351) (i8 := 53) (i9 := 56) (ix8 := 107) (ix9 := 181) (off := 348) rq_X8_spurious rq_X9_spurious rfl rfl rfl rfl (by decide +kernel) (by decide +kernel) (ab_tnm (List.mem_of_getElem? (i := 981) rfl) rfl) (ab_tnm (List.mem_of_getElem? (i := 1576) rfl) rfl) (ok_X8_spurious E) (ok_X9_spurious E) (by decide) (by decide) (by decide +kernel) (by decide) hn hl hwd hP hS (Nat.le_of_ble_eq_true rfl) (Nat.le_of_ble_eq_true rfl) (bo_spurious hI (al_ir _)) kk
set_option maxRecDepth 20000 in
theorem al_c10 (hA : al_At p s m meth c E b L xs) {Q : State → Prop} {M : ab_M} {n k0 : Nat} {H : Heap} {locs : List Loc} {ls : Array Slot} (hn : 5 * n + 5 ≤ L) (hk : k0 ≤ n) (hl : lv_has ls 4 (al_lv E b n)) (hI : INV k0 M) (hwd : ab_wd M) (hP : va_P E.2.1 ab_cl (ab_W E ab_n M) H) (hS : va_S (fun q => E.1 ≤ q) s.heap H locs)
    (kk : ∀ (M2 : ab_M) (H2 : Heap) (locs2 : List Loc), INV (k0 + 1) M2 → ab_wd M2 → va_P E.2.1 ab_cl (ab_W E ab_n M2) H2 → va_S (fun q => E.1 ≤ q) s.heap H2 locs2 → W p l e room_1 s m #[Value.ref b] below meth c H2 locs2 848 600000 Q (F0 m 717 ls [])) : W p l e room_1 s m #[Value.ref b] below meth c H locs 848 600000 Q (F0 m 374 ls []) := by
  have hL := hA.2.2.2.2.2
  exact al_way3 hA (Nat.le_of_ble_eq_true rfl) (Nat.le_of_ble_eq_true rfl) (pc := 374) (i8 := 57) (i9 := 60) (ix8 := 90) (ix9 := 140) (off := 305) rq_X8_from rq_X9_from rfl rfl rfl rfl (by decide +kernel) (by decide +kernel) (ab_tnm (List.mem_of_getElem? (i := 985) rfl) rfl) (ab_tnm (List.mem_of_getElem? (i := 1580) rfl) rfl) (ok_X8_from E) (ok_X9_from E) (by decide) (by decide) (by decide +kernel) (by decide) hn hl hwd hP hS (Nat.le_of_ble_eq_true rfl) (Nat.le_of_ble_eq_true rfl) (bo_from hI (al_ir _) (al_ir _) (al_ir _)) kk
set_option maxRecDepth 20000 in
theorem al_c11 (hA : al_At p s m meth c E b L xs) {Q : State → Prop} {M : ab_M} {n k0 : Nat} {H : Heap} {locs : List Loc} {ls : Array Slot} (hn : 5 * n + 5 ≤ L) (hk : k0 ≤ n) (hl : lv_has ls 4 (al_lv E b n)) (hI : INV k0 M) (hwd : ab_wd M) (hP : va_P E.2.1 ab_cl (ab_W E ab_n M) H) (hS : va_S (fun q => E.1 ≤ q) s.heap H locs)
    (kk : ∀ (M2 : ab_M) (H2 : Heap) (locs2 : List Loc), INV (k0 + 1) M2 → ab_wd M2 → va_P E.2.1 ab_cl (ab_W E ab_n M2) H2 → va_S (fun q => E.1 ≤ q) s.heap H2 locs2 → W p l e room_1 s m #[Value.ref b] below meth c H2 locs2 848 600000 Q (F0 m 717 ls [])) : W p l e room_1 s m #[Value.ref b] below meth c H locs 848 600000 Q (F0 m 417 ls []) := by
  have hL := hA.2.2.2.2.2
  exact al_way4 hA (Nat.le_of_ble_eq_true rfl) (Nat.le_of_ble_eq_true rfl) (pc := 417) (i8 := 61) (i9 := 65) (ix8 := 87) (ix9 := 135) (off := 252) rq_X8_ends rq_X9_ends rfl rfl rfl rfl (by decide +kernel) (by decide +kernel) (ab_tnm (List.mem_of_getElem? (i := 992) rfl) rfl) (ab_tnm (List.mem_of_getElem? (i := 1584) rfl) rfl) (ok_X8_ends E) (ok_X9_ends E) (by decide) (by decide) (by decide +kernel) (by decide) hn hl hwd hP hS (Nat.le_of_ble_eq_true rfl) (Nat.le_of_ble_eq_true rfl) (bo_ends (by omega) hI (al_ir _) (al_ir _) (al_ir _) (al_ir _)) kk
set_option maxRecDepth 20000 in
theorem al_c12 (hA : al_At p s m meth c E b L xs) {Q : State → Prop} {M : ab_M} {n k0 : Nat} {H : Heap} {locs : List Loc} {ls : Array Slot} (hn : 5 * n + 5 ≤ L) (hk : k0 ≤ n) (hl : lv_has ls 4 (al_lv E b n)) (hI : INV k0 M) (hwd : ab_wd M) (hP : va_P E.2.1 ab_cl (ab_W E ab_n M) H) (hS : va_S (fun q => E.1 ≤ q) s.heap H locs)
    (kk : ∀ (M2 : ab_M) (H2 : Heap) (locs2 : List Loc), INV (k0 + 1) M2 → ab_wd M2 → va_P E.2.1 ab_cl (ab_W E ab_n M2) H2 → va_S (fun q => E.1 ≤ q) s.heap H2 locs2 → W p l e room_1 s m #[Value.ref b] below meth c H2 locs2 848 600000 Q (F0 m 717 ls [])) : W p l e room_1 s m #[Value.ref b] below meth c H locs 848 600000 Q (F0 m 470 ls []) := by
  have hL := hA.2.2.2.2.2
  exact al_way2 hA (Nat.le_of_ble_eq_true rfl) (Nat.le_of_ble_eq_true rfl) (pc := 470) (i8 := 66) (i9 := 69) (ix8 := 98) (ix9 := 155) (off := 219) rq_X8_keeps rq_X9_keeps rfl rfl rfl rfl (by decide +kernel) (by decide +kernel) (ab_tnm (List.mem_of_getElem? (i := 1012) rfl) rfl) (ab_tnm (List.mem_of_getElem? (i := 1600) rfl) rfl) (ok_X8_keeps E) (ok_X9_keeps E) (by decide) (by decide) (by decide +kernel) (by decide) hn hl hwd hP hS (Nat.le_of_ble_eq_true rfl) (Nat.le_of_ble_eq_true rfl) (bo_keeps (by omega) hI (al_ir _) (al_ir _)) kk
set_option maxRecDepth 20000 in
theorem al_c13 (hA : al_At p s m meth c E b L xs) {Q : State → Prop} {M : ab_M} {n k0 : Nat} {H : Heap} {locs : List Loc} {ls : Array Slot} (hn : 5 * n + 5 ≤ L) (hk : k0 ≤ n) (hl : lv_has ls 4 (al_lv E b n)) (hI : INV k0 M) (hwd : ab_wd M) (hP : va_P E.2.1 ab_cl (ab_W E ab_n M) H) (hS : va_S (fun q => E.1 ≤ q) s.heap H locs)
    (kk : ∀ (M2 : ab_M) (H2 : Heap) (locs2 : List Loc), INV (k0 + 1) M2 → ab_wd M2 → va_P E.2.1 ab_cl (ab_W E ab_n M2) H2 → va_S (fun q => E.1 ≤ q) s.heap H2 locs2 → W p l e room_1 s m #[Value.ref b] below meth c H2 locs2 848 600000 Q (F0 m 717 ls [])) : W p l e room_1 s m #[Value.ref b] below meth c H locs 848 600000 Q (F0 m 503 ls []) := by
  have hL := hA.2.2.2.2.2
  exact al_way1 hA (Nat.le_of_ble_eq_true rfl) (Nat.le_of_ble_eq_true rfl) (pc := 503) (i8 := 70) (i9 := 73) (ix8 := 115) (ix9 := 190) (off := 196) rq_X8_versions rq_X9_versions rfl rfl rfl rfl (by decide +kernel) (by decide +kernel) (ab_tnm (List.mem_of_getElem? (i := 1059) rfl) rfl) (ab_tnm (List.mem_of_getElem? (i := 1608) rfl) rfl) (ok_X8_versions E) (ok_X9_versions E) (by decide) (by decide) (by decide +kernel) (by decide) hn hl hwd hP hS (Nat.le_of_ble_eq_true rfl) (Nat.le_of_ble_eq_true rfl) (bo_versions hI (al_ir _)) kk
set_option maxRecDepth 20000 in
theorem al_c14 (hA : al_At p s m meth c E b L xs) {Q : State → Prop} {M : ab_M} {n k0 : Nat} {H : Heap} {locs : List Loc} {ls : Array Slot} (hn : 5 * n + 5 ≤ L) (hk : k0 ≤ n) (hl : lv_has ls 4 (al_lv E b n)) (hI : INV k0 M) (hwd : ab_wd M) (hP : va_P E.2.1 ab_cl (ab_W E ab_n M) H) (hS : va_S (fun q => E.1 ≤ q) s.heap H locs)
    (kk : ∀ (M2 : ab_M) (H2 : Heap) (locs2 : List Loc), INV (k0 + 1) M2 → ab_wd M2 → va_P E.2.1 ab_cl (ab_W E ab_n M2) H2 → va_S (fun q => E.1 ≤ q) s.heap H2 locs2 → W p l e room_1 s m #[Value.ref b] below meth c H2 locs2 848 600000 Q (F0 m 717 ls [])) : W p l e room_1 s m #[Value.ref b] below meth c H locs 848 600000 Q (F0 m 526 ls []) := by
  have hL := hA.2.2.2.2.2
  exact al_way0 hA (Nat.le_of_ble_eq_true rfl) (Nat.le_of_ble_eq_true rfl) (pc := 526) (i8 := 74) (i9 := 77) (ix8 := 88) (ix9 := 136) (off := 183) rq_X8_equalities rq_X9_equalities rfl rfl rfl rfl (by decide +kernel) (by decide +kernel) (ab_tnm (List.mem_of_getElem? (i := 1105) rfl) rfl) (ab_tnm (List.mem_of_getElem? (i := 1648) rfl) rfl) (ok_X8_equalities E) (ok_X9_equalities E) (by decide) (by decide) (by decide +kernel) (by decide) hn hl hwd hP hS (Nat.le_of_ble_eq_true rfl) (Nat.le_of_ble_eq_true rfl) (bo_equalities hI) kk
set_option maxRecDepth 20000 in
theorem al_c15 (hA : al_At p s m meth c E b L xs) {Q : State → Prop} {M : ab_M} {n k0 : Nat} {H : Heap} {locs : List Loc} {ls : Array Slot} (hn : 5 * n + 5 ≤ L) (hk : k0 ≤ n) (hl : lv_has ls 4 (al_lv E b n)) (hI : INV k0 M) (hwd : ab_wd M) (hP : va_P E.2.1 ab_cl (ab_W E ab_n M) H) (hS : va_S (fun q => E.1 ≤ q) s.heap H locs)
    (kk : ∀ (M2 : ab_M) (H2 : Heap) (locs2 : List Loc), INV (k0 + 1) M2 → ab_wd M2 → va_P E.2.1 ab_cl (ab_W E ab_n M2) H2 → va_S (fun q => E.1 ≤ q) s.heap H2 locs2 → W p l e room_1 s m #[Value.ref b] below meth c H2 locs2 848 600000 Q (F0 m 717 ls [])) : W p l e room_1 s m #[Value.ref b] below meth c H locs 848 600000 Q (F0 m 539 ls []) := by
  have hL := hA.2.2.2.2.2
  exact al_way0 hA (Nat.le_of_ble_eq_true rfl) (Nat.le_of_ble_eq_true rfl) (pc := 539) (i8 := 78) (i9 := 81) (ix8 := 101) (ix9 := 160) (off := 170) rq_X8_linear rq_X9_linear rfl rfl rfl rfl (by decide +kernel) (by decide +kernel) (ab_tnm (List.mem_of_getElem? (i := 1109) rfl) rfl) (ab_tnm (List.mem_of_getElem? (i := 1652) rfl) rfl) (ok_X8_linear E) (ok_X9_linear E) (by decide) (by decide) (by decide +kernel) (by decide) hn hl hwd hP hS (Nat.le_of_ble_eq_true rfl) (Nat.le_of_ble_eq_true rfl) (bo_linear hI) kk
set_option maxRecDepth 20000 in
theorem al_c16 (hA : al_At p s m meth c E b L xs) {Q : State → Prop} {M : ab_M} {n k0 : Nat} {H : Heap} {locs : List Loc} {ls : Array Slot} (hn : 5 * n + 5 ≤ L) (hk : k0 ≤ n) (hl : lv_has ls 4 (al_lv E b n)) (hI : INV k0 M) (hwd : ab_wd M) (hP : va_P E.2.1 ab_cl (ab_W E ab_n M) H) (hS : va_S (fun q => E.1 ≤ q) s.heap H locs)
    (kk : ∀ (M2 : ab_M) (H2 : Heap) (locs2 : List Loc), INV (k0 + 1) M2 → ab_wd M2 → va_P E.2.1 ab_cl (ab_W E ab_n M2) H2 → va_S (fun q => E.1 ≤ q) s.heap H2 locs2 → W p l e room_1 s m #[Value.ref b] below meth c H2 locs2 848 600000 Q (F0 m 717 ls [])) : W p l e room_1 s m #[Value.ref b] below meth c H locs 848 600000 Q (F0 m 552 ls []) := by
  have hL := hA.2.2.2.2.2
  exact al_wayL hA (Nat.le_of_ble_eq_true rfl) (Nat.le_of_ble_eq_true rfl) (pc := 552) (i8 := 82) (i9 := 86) (ix8 := 84) (ix9 := 128) (off := 156) rq_X8_copied rq_X9_copied rfl rfl rfl rfl (by decide +kernel) (by decide +kernel) (ab_tnm (List.mem_of_getElem? (i := 1113) rfl) rfl) (ab_tnm (List.mem_of_getElem? (i := 1656) rfl) rfl) (ok_X8_copied E) (ok_X9_copied E) (by decide) (by decide) (by decide +kernel) (by decide) hn hl hwd hP hS (Nat.le_of_ble_eq_true rfl) (Nat.le_of_ble_eq_true rfl) (bo_copied hI) kk
set_option maxRecDepth 20000 in
theorem al_c17 (hA : al_At p s m meth c E b L xs) {Q : State → Prop} {M : ab_M} {n k0 : Nat} {H : Heap} {locs : List Loc} {ls : Array Slot} (hn : 5 * n + 5 ≤ L) (hk : k0 ≤ n) (hl : lv_has ls 4 (al_lv E b n)) (hI : INV k0 M) (hwd : ab_wd M) (hP : va_P E.2.1 ab_cl (ab_W E ab_n M) H) (hS : va_S (fun q => E.1 ≤ q) s.heap H locs)
    (kk : ∀ (M2 : ab_M) (H2 : Heap) (locs2 : List Loc), INV (k0 + 1) M2 → ab_wd M2 → va_P E.2.1 ab_cl (ab_W E ab_n M2) H2 → va_S (fun q => E.1 ≤ q) s.heap H2 locs2 → W p l e room_1 s m #[Value.ref b] below meth c H2 locs2 848 600000 Q (F0 m 717 ls [])) : W p l e room_1 s m #[Value.ref b] below meth c H locs 848 600000 Q (F0 m 566 ls []) := by
  have hL := hA.2.2.2.2.2
  exact al_way2 hA (Nat.le_of_ble_eq_true rfl) (Nat.le_of_ble_eq_true rfl) (pc := 566) (i8 := 87) (i9 := 90) (ix8 := 106) (ix9 := 179) (off := 123) rq_X8_sees rq_X9_sees rfl rfl rfl rfl (by decide +kernel) (by decide +kernel) (ab_tnm (List.mem_of_getElem? (i := 1131) rfl) rfl) (ab_tnm (List.mem_of_getElem? (i := 1666) rfl) rfl) (ok_X8_sees E) (ok_X9_sees E) (by decide) (by decide) (by decide +kernel) (by decide) hn hl hwd hP hS (Nat.le_of_ble_eq_true rfl) (Nat.le_of_ble_eq_true rfl) (bo_sees hI (al_ir _) (al_ir _)) kk
set_option maxRecDepth 20000 in
theorem al_c18 (hA : al_At p s m meth c E b L xs) {Q : State → Prop} {M : ab_M} {n k0 : Nat} {H : Heap} {locs : List Loc} {ls : Array Slot} (hn : 5 * n + 5 ≤ L) (hk : k0 ≤ n) (hl : lv_has ls 4 (al_lv E b n)) (hI : INV k0 M) (hwd : ab_wd M) (hP : va_P E.2.1 ab_cl (ab_W E ab_n M) H) (hS : va_S (fun q => E.1 ≤ q) s.heap H locs)
    (kk : ∀ (M2 : ab_M) (H2 : Heap) (locs2 : List Loc), INV (k0 + 1) M2 → ab_wd M2 → va_P E.2.1 ab_cl (ab_W E ab_n M2) H2 → va_S (fun q => E.1 ≤ q) s.heap H2 locs2 → W p l e room_1 s m #[Value.ref b] below meth c H2 locs2 848 600000 Q (F0 m 717 ls [])) : W p l e room_1 s m #[Value.ref b] below meth c H locs 848 600000 Q (F0 m 599 ls []) := by
  have hL := hA.2.2.2.2.2
  exact al_way0 hA (Nat.le_of_ble_eq_true rfl) (Nat.le_of_ble_eq_true rfl) (pc := 599) (i8 := 91) (i9 := 94) (ix8 := 89) (ix9 := 138) (off := 110) rq_X8_forget rq_X9_forget rfl rfl rfl rfl (by decide +kernel) (by decide +kernel) (ab_tnm (List.mem_of_getElem? (i := 1135) rfl) rfl) (ab_tnm (List.mem_of_getElem? (i := 1670) rfl) rfl) (ok_X8_forget E) (ok_X9_forget E) (by decide) (by decide) (by decide +kernel) (by decide) hn hl hwd hP hS (Nat.le_of_ble_eq_true rfl) (Nat.le_of_ble_eq_true rfl) (bo_forget hI) kk
set_option maxRecDepth 20000 in
theorem al_c19 (hA : al_At p s m meth c E b L xs) {Q : State → Prop} {M : ab_M} {n k0 : Nat} {H : Heap} {locs : List Loc} {ls : Array Slot} (hn : 5 * n + 5 ≤ L) (hk : k0 ≤ n) (hl : lv_has ls 4 (al_lv E b n)) (hI : INV k0 M) (hwd : ab_wd M) (hP : va_P E.2.1 ab_cl (ab_W E ab_n M) H) (hS : va_S (fun q => E.1 ≤ q) s.heap H locs)
    (kk : ∀ (M2 : ab_M) (H2 : Heap) (locs2 : List Loc), INV (k0 + 1) M2 → ab_wd M2 → va_P E.2.1 ab_cl (ab_W E ab_n M2) H2 → va_S (fun q => E.1 ≤ q) s.heap H2 locs2 → W p l e room_1 s m #[Value.ref b] below meth c H2 locs2 848 600000 Q (F0 m 717 ls [])) : W p l e room_1 s m #[Value.ref b] below meth c H locs 848 600000 Q (F0 m 612 ls []) := by
  have hL := hA.2.2.2.2.2
  exact al_way1 hA (Nat.le_of_ble_eq_true rfl) (Nat.le_of_ble_eq_true rfl) (pc := 612) (i8 := 95) (i9 := 98) (ix8 := 108) (ix9 := 182) (off := 87) rq_X8_starts rq_X9_starts rfl rfl rfl rfl (by decide +kernel) (by decide +kernel) (ab_tnm (List.mem_of_getElem? (i := 1139) rfl) rfl) (ab_tnm (List.mem_of_getElem? (i := 1674) rfl) rfl) (ok_X8_starts E) (ok_X9_starts E) (by decide) (by decide) (by decide +kernel) (by decide) hn hl hwd hP hS (Nat.le_of_ble_eq_true rfl) (Nat.le_of_ble_eq_true rfl) (bo_starts hI (al_ir _)) kk
set_option maxRecDepth 20000 in
theorem al_c20 (hA : al_At p s m meth c E b L xs) {Q : State → Prop} {M : ab_M} {n k0 : Nat} {H : Heap} {locs : List Loc} {ls : Array Slot} (hn : 5 * n + 5 ≤ L) (hk : k0 ≤ n) (hl : lv_has ls 4 (al_lv E b n)) (hI : INV k0 M) (hwd : ab_wd M) (hP : va_P E.2.1 ab_cl (ab_W E ab_n M) H) (hS : va_S (fun q => E.1 ≤ q) s.heap H locs)
    (kk : ∀ (M2 : ab_M) (H2 : Heap) (locs2 : List Loc), INV (k0 + 1) M2 → ab_wd M2 → va_P E.2.1 ab_cl (ab_W E ab_n M2) H2 → va_S (fun q => E.1 ≤ q) s.heap H2 locs2 → W p l e room_1 s m #[Value.ref b] below meth c H2 locs2 848 600000 Q (F0 m 717 ls [])) : W p l e room_1 s m #[Value.ref b] below meth c H locs 848 600000 Q (F0 m 635 ls []) := by
  have hL := hA.2.2.2.2.2
  exact al_way0 hA (Nat.le_of_ble_eq_true rfl) (Nat.le_of_ble_eq_true rfl) (pc := 635) (i8 := 99) (i9 := 102) (ix8 := 80) (ix9 := 120) (off := 74) rq_X8_ask rq_X9_ask rfl rfl rfl rfl (by decide +kernel) (by decide +kernel) (ab_tnm (List.mem_of_getElem? (i := 1155) rfl) rfl) (ab_tnm (List.mem_of_getElem? (i := 1682) rfl) rfl) (ok_X8_ask E) (ok_X9_ask E) (by decide) (by decide) (by decide +kernel) (by decide) hn hl hwd hP hS (Nat.le_of_ble_eq_true rfl) (Nat.le_of_ble_eq_true rfl) (bo_ask hI) kk
set_option maxRecDepth 20000 in
theorem al_c21 (hA : al_At p s m meth c E b L xs) {Q : State → Prop} {M : ab_M} {n k0 : Nat} {H : Heap} {locs : List Loc} {ls : Array Slot} (hn : 5 * n + 5 ≤ L) (hk : k0 ≤ n) (hl : lv_has ls 4 (al_lv E b n)) (hI : INV k0 M) (hwd : ab_wd M) (hP : va_P E.2.1 ab_cl (ab_W E ab_n M) H) (hS : va_S (fun q => E.1 ≤ q) s.heap H locs)
    (kk : ∀ (M2 : ab_M) (H2 : Heap) (locs2 : List Loc), INV (k0 + 1) M2 → ab_wd M2 → va_P E.2.1 ab_cl (ab_W E ab_n M2) H2 → va_S (fun q => E.1 ≤ q) s.heap H2 locs2 → W p l e room_1 s m #[Value.ref b] below meth c H2 locs2 848 600000 Q (F0 m 717 ls [])) : W p l e room_1 s m #[Value.ref b] below meth c H locs 848 600000 Q (F0 m 648 ls []) := by
  have hL := hA.2.2.2.2.2
  exact al_way1 hA (Nat.le_of_ble_eq_true rfl) (Nat.le_of_ble_eq_true rfl) (pc := 648) (i8 := 103) (i9 := 106) (ix8 := 97) (ix9 := 153) (off := 51) rq_X8_keep rq_X9_keep rfl rfl rfl rfl (by decide +kernel) (by decide +kernel) (ab_tnm (List.mem_of_getElem? (i := 1165) rfl) rfl) (ab_tnm (List.mem_of_getElem? (i := 1691) rfl) rfl) (ok_X8_keep E) (ok_X9_keep E) (by decide) (by decide) (by decide +kernel) (by decide) hn hl hwd hP hS (Nat.le_of_ble_eq_true rfl) (Nat.le_of_ble_eq_true rfl) (bo_keep hI (al_ir _)) kk
set_option maxRecDepth 20000 in
theorem al_c22 (hA : al_At p s m meth c E b L xs) {Q : State → Prop} {M : ab_M} {n k0 : Nat} {H : Heap} {locs : List Loc} {ls : Array Slot} (hn : 5 * n + 5 ≤ L) (hk : k0 ≤ n) (hl : lv_has ls 4 (al_lv E b n)) (hI : INV k0 M) (hwd : ab_wd M) (hP : va_P E.2.1 ab_cl (ab_W E ab_n M) H) (hS : va_S (fun q => E.1 ≤ q) s.heap H locs)
    (kk : ∀ (M2 : ab_M) (H2 : Heap) (locs2 : List Loc), INV (k0 + 1) M2 → ab_wd M2 → va_P E.2.1 ab_cl (ab_W E ab_n M2) H2 → va_S (fun q => E.1 ≤ q) s.heap H2 locs2 → W p l e room_1 s m #[Value.ref b] below meth c H2 locs2 848 600000 Q (F0 m 717 ls [])) : W p l e room_1 s m #[Value.ref b] below meth c H locs 848 600000 Q (F0 m 671 ls []) := by
  have hL := hA.2.2.2.2.2
  exact al_way1 hA (Nat.le_of_ble_eq_true rfl) (Nat.le_of_ble_eq_true rfl) (pc := 671) (i8 := 107) (i9 := 110) (ix8 := 81) (ix9 := 121) (off := 28) rq_X8_back rq_X9_back rfl rfl rfl rfl (by decide +kernel) (by decide +kernel) (ab_tnm (List.mem_of_getElem? (i := 1169) rfl) rfl) (ab_tnm (List.mem_of_getElem? (i := 1695) rfl) rfl) (ok_X8_back E) (ok_X9_back E) (by decide) (by decide) (by decide +kernel) (by decide) hn hl hwd hP hS (Nat.le_of_ble_eq_true rfl) (Nat.le_of_ble_eq_true rfl) (bo_back hI (al_ir _)) kk
set_option maxRecDepth 20000 in
theorem al_c23 (hA : al_At p s m meth c E b L xs) {Q : State → Prop} {M : ab_M} {n k0 : Nat} {H : Heap} {locs : List Loc} {ls : Array Slot} (hn : 5 * n + 5 ≤ L) (hk : k0 ≤ n) (hl : lv_has ls 4 (al_lv E b n)) (hI : INV k0 M) (hwd : ab_wd M) (hP : va_P E.2.1 ab_cl (ab_W E ab_n M) H) (hS : va_S (fun q => E.1 ≤ q) s.heap H locs)
    (kk : ∀ (M2 : ab_M) (H2 : Heap) (locs2 : List Loc), INV (k0 + 1) M2 → ab_wd M2 → va_P E.2.1 ab_cl (ab_W E ab_n M2) H2 → va_S (fun q => E.1 ≤ q) s.heap H2 locs2 → W p l e room_1 s m #[Value.ref b] below meth c H2 locs2 848 600000 Q (F0 m 717 ls [])) : W p l e room_1 s m #[Value.ref b] below meth c H locs 848 600000 Q (F0 m 694 ls []) := by
  have hL := hA.2.2.2.2.2
  exact al_way1 hA (Nat.le_of_ble_eq_true rfl) (Nat.le_of_ble_eq_true rfl) (pc := 694) (i8 := 111) (i9 := 114) (ix8 := 85) (ix9 := 130) (off := 5) rq_X8_count rq_X9_count rfl rfl rfl rfl (by decide +kernel) (by decide +kernel) (ab_tnm (List.mem_of_getElem? (i := 1173) rfl) rfl) (ab_tnm (List.mem_of_getElem? (i := 1699) rfl) rfl) (ok_X8_count E) (ok_X9_count E) (by decide) (by decide) (by decide +kernel) (by decide) hn hl hwd hP hS (Nat.le_of_ble_eq_true rfl) (Nat.le_of_ble_eq_true rfl) (bo_count hI (al_ir _)) kk
set_option maxRecDepth 20000 in
set_option maxHeartbeats 4000000 in
theorem al_loop (hA : al_At p s m meth c E b L xs) (hr : meth.sig.returnType = ret) : ∀ (f n k0 : Nat), L + 1 ≤ 5 * n + f → 5 * n ≤ 2560 → k0 ≤ n → ∀ (M : ab_M) (H : Heap) (locs : List Loc) (ls : Array Slot), lv_has ls 4 (al_lv E b n) → INV k0 M → ab_wd M → va_P E.2.1 ab_cl (ab_W E ab_n M) H → va_S (fun q => E.1 ≤ q) s.heap H locs → W p l e room_1 s m #[Value.ref b] below meth c H locs 848 600000 (lw_Z below #[Value.ref b] s) (F0 m 18 ls []) := by
  obtain ⟨hC, hN, hX, hbl, hE, hL⟩ := id hA
  obtain ⟨hx, hb, hml, hown, hts, hK, hlk, hsz⟩ := id hC
  intro f
  induction f with
  | zero =>
    intro n k0 h1 h2 h3 M H locs ls hl hI hwd hP hS
    refine lv_iload_n hx hb (show decode code 18 = .ok (.iload_n 3, 1) by decide +kernel) rfl (lv_at hl 0 rfl) ?_
    refine lv_aload_n hx hb (show decode code 19 = .ok (.aload_n 0, 1) by decide +kernel) rfl (lv_at hl 1 rfl) ?_
    refine va_slen hx hb hX hbl (by show ¬ E.1 ≤ b; omega) hS (show decode code 20 = .ok (.arraylength, 1) by decide +kernel) ?_
    refine lv_iconst (v := Int32.ofInt (5 : Int)) hx hb (show decode code 21 = .ok (.iconst 5, 1) by decide +kernel) rfl ?_
    refine lv_isub hx hb (show decode code 22 = .ok (.isub, 1) by decide +kernel) ?_
    refine lv_icmp_gt (tgt := 723) hx hb (show decode code 23 = .ok (.if_icmp .gt 700, 3) by decide +kernel) (by decide) (fun cq => ?_) (fun cq => ?_)
    · exact al_end hA hr hS
    · exact absurd ((al_gt h2 hL).mpr (by omega)) cq
  | succ f ih =>
    intro n k0 h1 h2 h3 M H locs ls hl hI hwd hP hS
    refine lv_iload_n hx hb (show decode code 18 = .ok (.iload_n 3, 1) by decide +kernel) rfl (lv_at hl 0 rfl) ?_
    refine lv_aload_n hx hb (show decode code 19 = .ok (.aload_n 0, 1) by decide +kernel) rfl (lv_at hl 1 rfl) ?_
    refine va_slen hx hb hX hbl (by show ¬ E.1 ≤ b; omega) hS (show decode code 20 = .ok (.arraylength, 1) by decide +kernel) ?_
    refine lv_iconst (v := Int32.ofInt (5 : Int)) hx hb (show decode code 21 = .ok (.iconst 5, 1) by decide +kernel) rfl ?_
    refine lv_isub hx hb (show decode code 22 = .ok (.isub, 1) by decide +kernel) ?_
    refine lv_icmp_gt (tgt := 723) hx hb (show decode code 23 = .ok (.if_icmp .gt 700, 3) by decide +kernel) (by decide) (fun cq => ?_) (fun cq => ?_)
    · exact al_end hA hr hS
    have hn : 5 * n + 5 ≤ L := by
      rcases Nat.lt_or_ge L (5 * n + 5) with q | q
      · exact absurd ((al_gt h2 hL).mpr q) cq
      · exact q
    have kk : ∀ k1 : Nat, k1 ≤ n + 1 → ∀ (M2 : ab_M) (H2 : Heap) (locs2 : List Loc), INV k1 M2 → ab_wd M2 → va_P E.2.1 ab_cl (ab_W E ab_n M2) H2 → va_S (fun q => E.1 ≤ q) s.heap H2 locs2 → W p l e room_1 s m #[Value.ref b] below meth c H2 locs2 848 600000 (lw_Z below #[Value.ref b] s) (F0 m 717 ls []) := by
      intro k1 hk1 M2 H2 locs2 hI2 wd2 hP2 hS2
      refine lv_iinc (v := Int32.ofInt ((5 * (n + 1) : Nat) : Int)) (lv' := al_lv E b (n + 1)) hx hb (show decode code 717 = .ok (.iinc 3 5, 3) by decide +kernel) hl (k := 0) rfl (by rw [← Int32.ofInt_add]; rfl) (by decide) rfl (fun ls hl => ?_)
      refine lv_goto (tgt := 18) hx hb (show decode code 720 = .ok (.goto (-702), 3) by decide +kernel) (by decide) ?_
      exact ih (n + 1) k1 (by omega) (by omega) hk1 M2 H2 locs2 ls hl hI2 wd2 hP2 hS2
    refine lv_aload_n hx hb (show decode code 26 = .ok (.aload_n 0, 1) by decide +kernel) rfl (lv_at hl 1 rfl) ?_
    refine lv_iload_n hx hb (show decode code 27 = .ok (.iload_n 3, 1) by decide +kernel) rfl (lv_at hl 0 rfl) ?_
    refine al_at hA (i := 5 * n) (by omega) (show decode code 28 = .ok (.iaload, 1) by decide +kernel) hS ?_
    refine lv_bipush (v := 31) hx hb (show decode code 29 = .ok (.bipush 31, 2) by decide +kernel) (by decide) ?_
    refine lv_iand hx hb (show decode code 31 = .ok (.iand, 1) by decide +kernel) ?_
    refine lv_topi (fun v ev => ?_)
    rcases (show v.toInt < 0 ∨ 23 < v.toInt ∨ v.toInt = 0 ∨ v.toInt = 1 ∨ v.toInt = 2 ∨ v.toInt = 3 ∨ v.toInt = 4 ∨ v.toInt = 5 ∨ v.toInt = 6 ∨ v.toInt = 7 ∨ v.toInt = 8 ∨ v.toInt = 9 ∨ v.toInt = 10 ∨ v.toInt = 11 ∨ v.toInt = 12 ∨ v.toInt = 13 ∨ v.toInt = 14 ∨ v.toInt = 15 ∨ v.toInt = 16 ∨ v.toInt = 17 ∨ v.toInt = 18 ∨ v.toInt = 19 ∨ v.toInt = 20 ∨ v.toInt = 21 ∨ v.toInt = 22 ∨ v.toInt = 23 by omega) with hv | hv | hv | hv | hv | hv | hv | hv | hv | hv | hv | hv | hv | hv | hv | hv | hv | hv | hv | hv | hv | hv | hv | hv | hv | hv
    · exact lv_tableOut (tgt := 717) hx hb al_sw (.inl hv) (by decide) (kk k0 (by omega) M H locs hI hwd hP hS)
    · exact lv_tableOut (tgt := 717) hx hb al_sw (.inr hv) (by decide) (kk k0 (by omega) M H locs hI hwd hP hS)
    · exact lv_tableIn (off := 112) (tgt := 144) hx hb al_sw (by omega) (by omega) (by rw [hv]; rfl) (by decide) (al_c0 hA hn h3 hl hI hwd hP hS (kk (k0 + 1) (by omega)))
    · exact lv_tableIn (off := 135) (tgt := 167) hx hb al_sw (by omega) (by omega) (by rw [hv]; rfl) (by decide) (al_c1 hA hn h3 hl hI hwd hP hS (kk (k0 + 1) (by omega)))
    · exact lv_tableIn (off := 148) (tgt := 180) hx hb al_sw (by omega) (by omega) (by rw [hv]; rfl) (by decide) (al_c2 hA hn h3 hl hI hwd hP hS (kk (k0 + 1) (by omega)))
    · exact lv_tableIn (off := 161) (tgt := 193) hx hb al_sw (by omega) (by omega) (by rw [hv]; rfl) (by decide) (al_c3 hA hn h3 hl hI hwd hP hS (kk (k0 + 1) (by omega)))
    · exact lv_tableIn (off := 184) (tgt := 216) hx hb al_sw (by omega) (by omega) (by rw [hv]; rfl) (by decide) (al_c4 hA hn h3 hl hI hwd hP hS (kk (k0 + 1) (by omega)))
    · exact lv_tableIn (off := 197) (tgt := 229) hx hb al_sw (by omega) (by omega) (by rw [hv]; rfl) (by decide) (al_c5 hA hn h3 hl hI hwd hP hS (kk (k0 + 1) (by omega)))
    · exact lv_tableIn (off := 220) (tgt := 252) hx hb al_sw (by omega) (by omega) (by rw [hv]; rfl) (by decide) (al_c6 hA hn h3 hl hI hwd hP hS (kk (k0 + 1) (by omega)))
    · exact lv_tableIn (off := 243) (tgt := 275) hx hb al_sw (by omega) (by omega) (by rw [hv]; rfl) (by decide) (al_c7 hA hn h3 hl hI hwd hP hS (kk (k0 + 1) (by omega)))
    · exact lv_tableIn (off := 276) (tgt := 308) hx hb al_sw (by omega) (by omega) (by rw [hv]; rfl) (by decide) (al_c8 hA hn h3 hl hI hwd hP hS (kk (k0 + 1) (by omega)))
    · exact lv_tableIn (off := 319) (tgt := 351) hx hb al_sw (by omega) (by omega) (by rw [hv]; rfl) (by decide) (al_c9 hA hn h3 hl hI hwd hP hS (kk (k0 + 1) (by omega)))
    · exact lv_tableIn (off := 342) (tgt := 374) hx hb al_sw (by omega) (by omega) (by rw [hv]; rfl) (by decide) (al_c10 hA hn h3 hl hI hwd hP hS (kk (k0 + 1) (by omega)))
    · exact lv_tableIn (off := 385) (tgt := 417) hx hb al_sw (by omega) (by omega) (by rw [hv]; rfl) (by decide) (al_c11 hA hn h3 hl hI hwd hP hS (kk (k0 + 1) (by omega)))
    · exact lv_tableIn (off := 438) (tgt := 470) hx hb al_sw (by omega) (by omega) (by rw [hv]; rfl) (by decide) (al_c12 hA hn h3 hl hI hwd hP hS (kk (k0 + 1) (by omega)))
    · exact lv_tableIn (off := 471) (tgt := 503) hx hb al_sw (by omega) (by omega) (by rw [hv]; rfl) (by decide) (al_c13 hA hn h3 hl hI hwd hP hS (kk (k0 + 1) (by omega)))
    · exact lv_tableIn (off := 494) (tgt := 526) hx hb al_sw (by omega) (by omega) (by rw [hv]; rfl) (by decide) (al_c14 hA hn h3 hl hI hwd hP hS (kk (k0 + 1) (by omega)))
    · exact lv_tableIn (off := 507) (tgt := 539) hx hb al_sw (by omega) (by omega) (by rw [hv]; rfl) (by decide) (al_c15 hA hn h3 hl hI hwd hP hS (kk (k0 + 1) (by omega)))
    · exact lv_tableIn (off := 520) (tgt := 552) hx hb al_sw (by omega) (by omega) (by rw [hv]; rfl) (by decide) (al_c16 hA hn h3 hl hI hwd hP hS (kk (k0 + 1) (by omega)))
    · exact lv_tableIn (off := 534) (tgt := 566) hx hb al_sw (by omega) (by omega) (by rw [hv]; rfl) (by decide) (al_c17 hA hn h3 hl hI hwd hP hS (kk (k0 + 1) (by omega)))
    · exact lv_tableIn (off := 567) (tgt := 599) hx hb al_sw (by omega) (by omega) (by rw [hv]; rfl) (by decide) (al_c18 hA hn h3 hl hI hwd hP hS (kk (k0 + 1) (by omega)))
    · exact lv_tableIn (off := 580) (tgt := 612) hx hb al_sw (by omega) (by omega) (by rw [hv]; rfl) (by decide) (al_c19 hA hn h3 hl hI hwd hP hS (kk (k0 + 1) (by omega)))
    · exact lv_tableIn (off := 603) (tgt := 635) hx hb al_sw (by omega) (by omega) (by rw [hv]; rfl) (by decide) (al_c20 hA hn h3 hl hI hwd hP hS (kk (k0 + 1) (by omega)))
    · exact lv_tableIn (off := 616) (tgt := 648) hx hb al_sw (by omega) (by omega) (by rw [hv]; rfl) (by decide) (al_c21 hA hn h3 hl hI hwd hP hS (kk (k0 + 1) (by omega)))
    · exact lv_tableIn (off := 639) (tgt := 671) hx hb al_sw (by omega) (by omega) (by rw [hv]; rfl) (by decide) (al_c22 hA hn h3 hl hI hwd hP hS (kk (k0 + 1) (by omega)))
    · exact lv_tableIn (off := 662) (tgt := 694) hx hb al_sw (by omega) (by omega) (by rw [hv]; rfl) (by decide) (al_c23 hA hn h3 hl hI hwd hP hS (kk (k0 + 1) (by omega)))
end AC
