/-! the law: rows in a bundle, a word of the script, one call on both sides (written by a program) -/
def al_rb (cc : ByteArray) : Nat → List (Instr × Nat) → Bool
  | _, [] => true
  | pc, q :: t => decide (decode cc pc = .ok q) && al_rb cc (pc + q.2) t
theorem al_rc {cc : ByteArray} {pc ln : Nat} {I : Instr} {t : List (Instr × Nat)} (h : al_rb cc pc ((I, ln) :: t) = true) : decode cc pc = .ok (I, ln) ∧ al_rb cc (pc + ln) t = true := by
  unfold al_rb at h
  rw [Bool.and_eq_true, decide_eq_true_eq] at h
  exact h
def al_x (xs : Nat → Int32) (i : Nat) : Int := (xs i).toInt
def al_lv (E : ab_E) (b n : Nat) : List (Nat × Value) := [(3, .int (Int32.ofInt ((5 * n : Nat) : Int))), (0, .ref b), (1, .ref (E.1 + 0)), (2, .ref (E.1 + 797))]
def al_At (p : Program) (s : State) (m : MethodId) (meth : Method) (c : Code) (E : ab_E) (b L : Nat) (xs : Nat → Int32) : Prop :=
  ab_Cx p s m #[Value.ref b] meth c E code 13 4 ∧ ab_NK s ∧ va_X b L xs s s.heap ∧ b < s.heap.size ∧ E.1 = s.heap.size ∧ L ≤ 2560
theorem al_ir (x : Int32) : ab_ir x.toInt := ⟨Int32.le_toInt x, Int32.toInt_lt x⟩
theorem al_wf8 : ab_wf xO := ⟨by decide, by decide +kernel, by decide +kernel⟩
theorem al_wf9 : ab_wf mO := ⟨by decide, by decide +kernel, by decide +kernel⟩
section AC
variable {p : Program} {l : Launch} {e : Env} {R : Room} {s : State} {m : MethodId} {below : List Frame} {meth : Method} {c : Code} {Q : State → Prop} {E : ab_E} {b L : Nat} {xs : Nat → Int32}
variable {pc : Nat} {M : ab_M} {n cells slots : Nat}
/-- a word of the script, read by its number -/
theorem al_at (hA : al_At p s m meth c E b L xs) {i : Nat} (hi : i < L) (hdg : decode code pc = .ok (.iaload, 1)) {H : Heap} {locs : List Loc} {ls : Array Slot} {rest : List Value} (hS : va_S (fun q => E.1 ≤ q) s.heap H locs)
    (k : W p l e R s m #[Value.ref b] below meth c H locs cells slots Q (F0 m (pc + 1) ls (.int (Int32.ofInt (al_x xs i)) :: rest))) : W p l e R s m #[Value.ref b] below meth c H locs cells slots Q (F0 m pc ls (.int (Int32.ofInt ((i : Nat) : Int)) :: .ref b :: rest)) := by
  obtain ⟨hC, hN, hX, hbl, hE, hL⟩ := hA
  obtain ⟨hx, hb, hml, hown, hts, hK, hlk, hsz⟩ := hC
  have e1 : (Int32.ofInt ((i : Nat) : Int)).toInt = (i : Int) := Int32.toInt_ofInt_of_le (by omega) (by omega)
  have hin : vp_in (Int32.ofInt ((i : Nat) : Int)) L := vp_in_iff.mpr (by rw [e1]; omega)
  refine va_sld hx hb hX hbl (by show ¬ E.1 ≤ b; omega) hS hin hdg ?_
  rw [(ac_len (N := i) (by omega)).2]
  unfold al_x at k
  rw [Int32.ofInt_toInt] at k
  exact k
theorem al_arg (hA : al_At p s m meth c E b L xs) {j : Nat} (h0 : decode code pc = .ok (.aload_n 0, 1)) (h1 : decode code (pc + 1) = .ok (.iload_n 3, 1)) (h2 : decode code (pc + 1 + 1) = .ok (.iconst ((j : Nat) : Int), 1)) (h3 : decode code (pc + 1 + 1 + 1) = .ok (.iadd, 1)) (h4 : decode code (pc + 1 + 1 + 1 + 1) = .ok (.iaload, 1)) (hj : j < 5) (hn : 5 * n + 5 ≤ L) {H : Heap} {locs : List Loc} {ls : Array Slot} {rest : List Value} (hS : va_S (fun q => E.1 ≤ q) s.heap H locs) (hl : lv_has ls 4 (al_lv E b n))
    (k : W p l e R s m #[Value.ref b] below meth c H locs cells slots Q (F0 m (pc + 1 + 1 + 1 + 1 + 1) ls (.int (Int32.ofInt (al_x xs (5 * n + j))) :: rest))) : W p l e R s m #[Value.ref b] below meth c H locs cells slots Q (F0 m pc ls rest) := by
  obtain ⟨hC, hN, hX, hbl, hE, hL⟩ := id hA
  obtain ⟨hx, hb, hml, hown, hts, hK, hlk, hsz⟩ := hC
  refine lv_aload_n hx hb h0 rfl (lv_at hl 1 rfl) ?_
  refine lv_iload_n hx hb h1 rfl (lv_at hl 0 rfl) ?_
  refine lv_iconst (v := Int32.ofInt ((j : Nat) : Int)) hx hb h2 rfl ?_
  refine lv_iadd hx hb h3 ?_
  have e : Int32.ofInt ((5 * n : Nat) : Int) + Int32.ofInt ((j : Nat) : Int) = Int32.ofInt ((5 * n + j : Nat) : Int) := by
    rw [← Int32.ofInt_add]; rfl
  rw [e]
  exact al_at hA (by omega) h4 hS k
theorem al_way0 (hA : al_At p s m meth c E b L xs) (hRf : 200 ≤ R.frames) (hRl : 64 * 200 ≤ R.locals) {i8 i9 ix8 ix9 d8 d9 k0 : Nat} {off : Int} {q8 q9 : ab_R} {S8 S9 : ab_PT} (hq8 : ab_reg[ix8]? = some q8) (hq9 : ab_reg[ix9]? = some q9) (hk8 : q8.2.2.2.2.2.2 = 0) (hk9 : q9.2.2.2.2.2.2 = 0) (hc8 : q8.2.2.2.2.1 = 8) (hc9 : q9.2.2.2.2.1 = 9) (hp8 : (parseMethodDescriptor q8.1.desc).map (fun d => d.parameters.length) = some 0) (hp9 : (parseMethodDescriptor q9.1.desc).map (fun d => d.parameters.length) = some 0) (hl8 : Cond.methodLink RL i8 q8.1 ∈ ab_tn) (hl9 : Cond.methodLink RL i9 q9.1 ∈ ab_tn) (ok8 : ab_Ok E d8 ix8 S8) (ok9 : ab_Ok E d9 ix9 S9) (hd8 : d8 ≤ 100) (hd9 : d9 ≤ 100) (hd : al_rb code pc [(.aload_n 1, 1), (.invokevirtual i8, 3), (.aload_n 2, 1), (.invokevirtual i9, 3), (.if_icmp .eq off, 3)] = true) (ht : ((pc + 1 + 3 + 1 + 3 : Nat) : Int) + off = ((717 : Nat) : Int)) {H : Heap} {locs : List Loc} {ls : Array Slot} (hn : 5 * n + 5 ≤ L) (hl : lv_has ls 4 (al_lv E b n)) (hwd : ab_wd M) (hP : va_P E.2.1 ab_cl (ab_W E ab_n M) H) (hS : va_S (fun q => E.1 ≤ q) s.heap H locs) (hcells : cells ≤ R.cells) (hslots : slots ≤ R.slots) (hbo : bo_P S8 S9 [] k0 M)
    (kk : ∀ (M2 : ab_M) (H2 : Heap) (locs2 : List Loc), INV (k0 + 1) M2 → ab_wd M2 → va_P E.2.1 ab_cl (ab_W E ab_n M2) H2 → va_S (fun q => E.1 ≤ q) s.heap H2 locs2 → W p l e R s m #[Value.ref b] below meth c H2 locs2 cells slots Q (F0 m 717 ls [])) : W p l e R s m #[Value.ref b] below meth c H locs cells slots Q (F0 m pc ls []) := by
  obtain ⟨hC, hN, hX, hbl, hE, hL⟩ := id hA
  obtain ⟨hx, hb, hml, hown, hts, hK, hlk, hsz⟩ := id hC
  obtain ⟨h0, hd⟩ := al_rc hd
  obtain ⟨h1, hd⟩ := al_rc hd
  obtain ⟨h2, hd⟩ := al_rc hd
  obtain ⟨h3, hd⟩ := al_rc hd
  obtain ⟨h4, hd⟩ := al_rc hd
  refine lv_aload_n hx hb h0 rfl (lv_at hl 2 rfl) ?_
  refine al_call hC hN (d' := d8) (by omega) (by omega) (ci := 8) hq8 hk8 hc8 h1 hl8 (o := 0) (n1 := 0) (as := []) (rest := []) hp8 ok8 hwd (fun v hv => by
      rcases List.mem_cons.mp hv with rfl | hv
      · exact al_wf8
      · exact absurd hv List.not_mem_nil) hbo hP hS hl.1 (Nat.zero_le _) hcells hslots (fun rv M1 H1 locs1 hK1 wd1 hP1 hS1 => ?_)
  obtain ⟨r, rfl, hbo2⟩ := hK1
  refine lv_aload_n hx hb h2 rfl (lv_at hl 3 rfl) ?_
  refine al_call hC hN (d' := d9) (by omega) (by omega) (ci := 9) hq9 hk9 hc9 h3 hl9 (o := 797) (n1 := 0) (as := []) (rest := [.int (Int32.ofInt r)]) hp9 ok9 wd1 (fun v hv => by
      rcases List.mem_cons.mp hv with rfl | hv
      · exact al_wf9
      · exact absurd hv List.not_mem_nil) hbo2 hP1 hS1 hl.1 (Nat.le_of_ble_eq_true rfl) hcells hslots (fun rv M2 H2 locs2 hK2 wd2 hP2 hS2 => ?_)
  obtain ⟨rfl, hI⟩ := hK2
  refine lv_icmp_eq (tgt := 717) hx hb h4 ht (fun _ => kk M2 H2 locs2 hI wd2 hP2 hS2) (fun cq => absurd rfl cq)
theorem al_way1 (hA : al_At p s m meth c E b L xs) (hRf : 200 ≤ R.frames) (hRl : 64 * 200 ≤ R.locals) {i8 i9 ix8 ix9 d8 d9 k0 : Nat} {off : Int} {q8 q9 : ab_R} {S8 S9 : ab_PT} (hq8 : ab_reg[ix8]? = some q8) (hq9 : ab_reg[ix9]? = some q9) (hk8 : q8.2.2.2.2.2.2 = 0) (hk9 : q9.2.2.2.2.2.2 = 0) (hc8 : q8.2.2.2.2.1 = 8) (hc9 : q9.2.2.2.2.1 = 9) (hp8 : (parseMethodDescriptor q8.1.desc).map (fun d => d.parameters.length) = some 1) (hp9 : (parseMethodDescriptor q9.1.desc).map (fun d => d.parameters.length) = some 1) (hl8 : Cond.methodLink RL i8 q8.1 ∈ ab_tn) (hl9 : Cond.methodLink RL i9 q9.1 ∈ ab_tn) (ok8 : ab_Ok E d8 ix8 S8) (ok9 : ab_Ok E d9 ix9 S9) (hd8 : d8 ≤ 100) (hd9 : d9 ≤ 100) (hd : al_rb code pc [(.aload_n 1, 1), (.aload_n 0, 1), (.iload_n 3, 1), (.iconst ((1 : Nat) : Int), 1), (.iadd, 1), (.iaload, 1), (.invokevirtual i8, 3), (.aload_n 2, 1), (.aload_n 0, 1), (.iload_n 3, 1), (.iconst ((1 : Nat) : Int), 1), (.iadd, 1), (.iaload, 1), (.invokevirtual i9, 3), (.if_icmp .eq off, 3)] = true) (ht : ((pc + 1 + 1 + 1 + 1 + 1 + 1 + 3 + 1 + 1 + 1 + 1 + 1 + 1 + 3 : Nat) : Int) + off = ((717 : Nat) : Int)) {H : Heap} {locs : List Loc} {ls : Array Slot} (hn : 5 * n + 5 ≤ L) (hl : lv_has ls 4 (al_lv E b n)) (hwd : ab_wd M) (hP : va_P E.2.1 ab_cl (ab_W E ab_n M) H) (hS : va_S (fun q => E.1 ≤ q) s.heap H locs) (hcells : cells ≤ R.cells) (hslots : slots ≤ R.slots) (hbo : bo_P S8 S9 [iV (al_x xs (5 * n + 1))] k0 M)
    (kk : ∀ (M2 : ab_M) (H2 : Heap) (locs2 : List Loc), INV (k0 + 1) M2 → ab_wd M2 → va_P E.2.1 ab_cl (ab_W E ab_n M2) H2 → va_S (fun q => E.1 ≤ q) s.heap H2 locs2 → W p l e R s m #[Value.ref b] below meth c H2 locs2 cells slots Q (F0 m 717 ls [])) : W p l e R s m #[Value.ref b] below meth c H locs cells slots Q (F0 m pc ls []) := by
  obtain ⟨hC, hN, hX, hbl, hE, hL⟩ := id hA
  obtain ⟨hx, hb, hml, hown, hts, hK, hlk, hsz⟩ := id hC
  obtain ⟨h0, hd⟩ := al_rc hd
  obtain ⟨h1, hd⟩ := al_rc hd
  obtain ⟨h2, hd⟩ := al_rc hd
  obtain ⟨h3, hd⟩ := al_rc hd
  obtain ⟨h4, hd⟩ := al_rc hd
  obtain ⟨h5, hd⟩ := al_rc hd
  obtain ⟨h6, hd⟩ := al_rc hd
  obtain ⟨h7, hd⟩ := al_rc hd
  obtain ⟨h8, hd⟩ := al_rc hd
  obtain ⟨h9, hd⟩ := al_rc hd
  obtain ⟨h10, hd⟩ := al_rc hd
  obtain ⟨h11, hd⟩ := al_rc hd
  obtain ⟨h12, hd⟩ := al_rc hd
  obtain ⟨h13, hd⟩ := al_rc hd
  obtain ⟨h14, hd⟩ := al_rc hd
  refine lv_aload_n hx hb h0 rfl (lv_at hl 2 rfl) ?_
  refine al_arg hA (j := 1) h1 h2 h3 h4 h5 (by decide) hn hS hl ?_
  refine al_call hC hN (d' := d8) (by omega) (by omega) (ci := 8) hq8 hk8 hc8 h6 hl8 (o := 0) (n1 := 0) (as := [iV (al_x xs (5 * n + 1))]) (rest := []) hp8 ok8 hwd (fun v hv => by
      rcases List.mem_cons.mp hv with rfl | hv
      · exact al_wf8
      · simp only [List.mem_cons, List.not_mem_nil, or_false] at hv
        first | exact hv.elim | (rcases hv with rfl <;> exact trivial)) hbo hP hS hl.1 (Nat.zero_le _) hcells hslots (fun rv M1 H1 locs1 hK1 wd1 hP1 hS1 => ?_)
  obtain ⟨r, rfl, hbo2⟩ := hK1
  refine lv_aload_n hx hb h7 rfl (lv_at hl 3 rfl) ?_
  refine al_arg hA (j := 1) h8 h9 h10 h11 h12 (by decide) hn hS1 hl ?_
  refine al_call hC hN (d' := d9) (by omega) (by omega) (ci := 9) hq9 hk9 hc9 h13 hl9 (o := 797) (n1 := 0) (as := [iV (al_x xs (5 * n + 1))]) (rest := [.int (Int32.ofInt r)]) hp9 ok9 wd1 (fun v hv => by
      rcases List.mem_cons.mp hv with rfl | hv
      · exact al_wf9
      · simp only [List.mem_cons, List.not_mem_nil, or_false] at hv
        first | exact hv.elim | (rcases hv with rfl <;> exact trivial)) hbo2 hP1 hS1 hl.1 (Nat.le_of_ble_eq_true rfl) hcells hslots (fun rv M2 H2 locs2 hK2 wd2 hP2 hS2 => ?_)
  obtain ⟨rfl, hI⟩ := hK2
  refine lv_icmp_eq (tgt := 717) hx hb h14 ht (fun _ => kk M2 H2 locs2 hI wd2 hP2 hS2) (fun cq => absurd rfl cq)
theorem al_way2 (hA : al_At p s m meth c E b L xs) (hRf : 200 ≤ R.frames) (hRl : 64 * 200 ≤ R.locals) {i8 i9 ix8 ix9 d8 d9 k0 : Nat} {off : Int} {q8 q9 : ab_R} {S8 S9 : ab_PT} (hq8 : ab_reg[ix8]? = some q8) (hq9 : ab_reg[ix9]? = some q9) (hk8 : q8.2.2.2.2.2.2 = 0) (hk9 : q9.2.2.2.2.2.2 = 0) (hc8 : q8.2.2.2.2.1 = 8) (hc9 : q9.2.2.2.2.1 = 9) (hp8 : (parseMethodDescriptor q8.1.desc).map (fun d => d.parameters.length) = some 2) (hp9 : (parseMethodDescriptor q9.1.desc).map (fun d => d.parameters.length) = some 2) (hl8 : Cond.methodLink RL i8 q8.1 ∈ ab_tn) (hl9 : Cond.methodLink RL i9 q9.1 ∈ ab_tn) (ok8 : ab_Ok E d8 ix8 S8) (ok9 : ab_Ok E d9 ix9 S9) (hd8 : d8 ≤ 100) (hd9 : d9 ≤ 100) (hd : al_rb code pc [(.aload_n 1, 1), (.aload_n 0, 1), (.iload_n 3, 1), (.iconst ((1 : Nat) : Int), 1), (.iadd, 1), (.iaload, 1), (.aload_n 0, 1), (.iload_n 3, 1), (.iconst ((2 : Nat) : Int), 1), (.iadd, 1), (.iaload, 1), (.invokevirtual i8, 3), (.aload_n 2, 1), (.aload_n 0, 1), (.iload_n 3, 1), (.iconst ((1 : Nat) : Int), 1), (.iadd, 1), (.iaload, 1), (.aload_n 0, 1), (.iload_n 3, 1), (.iconst ((2 : Nat) : Int), 1), (.iadd, 1), (.iaload, 1), (.invokevirtual i9, 3), (.if_icmp .eq off, 3)] = true) (ht : ((pc + 1 + 1 + 1 + 1 + 1 + 1 + 1 + 1 + 1 + 1 + 1 + 3 + 1 + 1 + 1 + 1 + 1 + 1 + 1 + 1 + 1 + 1 + 1 + 3 : Nat) : Int) + off = ((717 : Nat) : Int)) {H : Heap} {locs : List Loc} {ls : Array Slot} (hn : 5 * n + 5 ≤ L) (hl : lv_has ls 4 (al_lv E b n)) (hwd : ab_wd M) (hP : va_P E.2.1 ab_cl (ab_W E ab_n M) H) (hS : va_S (fun q => E.1 ≤ q) s.heap H locs) (hcells : cells ≤ R.cells) (hslots : slots ≤ R.slots) (hbo : bo_P S8 S9 [iV (al_x xs (5 * n + 1)), iV (al_x xs (5 * n + 2))] k0 M)
    (kk : ∀ (M2 : ab_M) (H2 : Heap) (locs2 : List Loc), INV (k0 + 1) M2 → ab_wd M2 → va_P E.2.1 ab_cl (ab_W E ab_n M2) H2 → va_S (fun q => E.1 ≤ q) s.heap H2 locs2 → W p l e R s m #[Value.ref b] below meth c H2 locs2 cells slots Q (F0 m 717 ls [])) : W p l e R s m #[Value.ref b] below meth c H locs cells slots Q (F0 m pc ls []) := by
  obtain ⟨hC, hN, hX, hbl, hE, hL⟩ := id hA
  obtain ⟨hx, hb, hml, hown, hts, hK, hlk, hsz⟩ := id hC
  obtain ⟨h0, hd⟩ := al_rc hd
  obtain ⟨h1, hd⟩ := al_rc hd
  obtain ⟨h2, hd⟩ := al_rc hd
  obtain ⟨h3, hd⟩ := al_rc hd
  obtain ⟨h4, hd⟩ := al_rc hd
  obtain ⟨h5, hd⟩ := al_rc hd
  obtain ⟨h6, hd⟩ := al_rc hd
  obtain ⟨h7, hd⟩ := al_rc hd
  obtain ⟨h8, hd⟩ := al_rc hd
  obtain ⟨h9, hd⟩ := al_rc hd
  obtain ⟨h10, hd⟩ := al_rc hd
  obtain ⟨h11, hd⟩ := al_rc hd
  obtain ⟨h12, hd⟩ := al_rc hd
  obtain ⟨h13, hd⟩ := al_rc hd
  obtain ⟨h14, hd⟩ := al_rc hd
  obtain ⟨h15, hd⟩ := al_rc hd
  obtain ⟨h16, hd⟩ := al_rc hd
  obtain ⟨h17, hd⟩ := al_rc hd
  obtain ⟨h18, hd⟩ := al_rc hd
  obtain ⟨h19, hd⟩ := al_rc hd
  obtain ⟨h20, hd⟩ := al_rc hd
  obtain ⟨h21, hd⟩ := al_rc hd
  obtain ⟨h22, hd⟩ := al_rc hd
  obtain ⟨h23, hd⟩ := al_rc hd
  obtain ⟨h24, hd⟩ := al_rc hd
  refine lv_aload_n hx hb h0 rfl (lv_at hl 2 rfl) ?_
  refine al_arg hA (j := 1) h1 h2 h3 h4 h5 (by decide) hn hS hl ?_
  refine al_arg hA (j := 2) h6 h7 h8 h9 h10 (by decide) hn hS hl ?_
  refine al_call hC hN (d' := d8) (by omega) (by omega) (ci := 8) hq8 hk8 hc8 h11 hl8 (o := 0) (n1 := 0) (as := [iV (al_x xs (5 * n + 1)), iV (al_x xs (5 * n + 2))]) (rest := []) hp8 ok8 hwd (fun v hv => by
      rcases List.mem_cons.mp hv with rfl | hv
      · exact al_wf8
      · simp only [List.mem_cons, List.not_mem_nil, or_false] at hv
        first | exact hv.elim | (rcases hv with rfl | rfl <;> exact trivial)) hbo hP hS hl.1 (Nat.zero_le _) hcells hslots (fun rv M1 H1 locs1 hK1 wd1 hP1 hS1 => ?_)
  obtain ⟨r, rfl, hbo2⟩ := hK1
  refine lv_aload_n hx hb h12 rfl (lv_at hl 3 rfl) ?_
  refine al_arg hA (j := 1) h13 h14 h15 h16 h17 (by decide) hn hS1 hl ?_
  refine al_arg hA (j := 2) h18 h19 h20 h21 h22 (by decide) hn hS1 hl ?_
  refine al_call hC hN (d' := d9) (by omega) (by omega) (ci := 9) hq9 hk9 hc9 h23 hl9 (o := 797) (n1 := 0) (as := [iV (al_x xs (5 * n + 1)), iV (al_x xs (5 * n + 2))]) (rest := [.int (Int32.ofInt r)]) hp9 ok9 wd1 (fun v hv => by
      rcases List.mem_cons.mp hv with rfl | hv
      · exact al_wf9
      · simp only [List.mem_cons, List.not_mem_nil, or_false] at hv
        first | exact hv.elim | (rcases hv with rfl | rfl <;> exact trivial)) hbo2 hP1 hS1 hl.1 (Nat.le_of_ble_eq_true rfl) hcells hslots (fun rv M2 H2 locs2 hK2 wd2 hP2 hS2 => ?_)
  obtain ⟨rfl, hI⟩ := hK2
  refine lv_icmp_eq (tgt := 717) hx hb h24 ht (fun _ => kk M2 H2 locs2 hI wd2 hP2 hS2) (fun cq => absurd rfl cq)
theorem al_way3 (hA : al_At p s m meth c E b L xs) (hRf : 200 ≤ R.frames) (hRl : 64 * 200 ≤ R.locals) {i8 i9 ix8 ix9 d8 d9 k0 : Nat} {off : Int} {q8 q9 : ab_R} {S8 S9 : ab_PT} (hq8 : ab_reg[ix8]? = some q8) (hq9 : ab_reg[ix9]? = some q9) (hk8 : q8.2.2.2.2.2.2 = 0) (hk9 : q9.2.2.2.2.2.2 = 0) (hc8 : q8.2.2.2.2.1 = 8) (hc9 : q9.2.2.2.2.1 = 9) (hp8 : (parseMethodDescriptor q8.1.desc).map (fun d => d.parameters.length) = some 3) (hp9 : (parseMethodDescriptor q9.1.desc).map (fun d => d.parameters.length) = some 3) (hl8 : Cond.methodLink RL i8 q8.1 ∈ ab_tn) (hl9 : Cond.methodLink RL i9 q9.1 ∈ ab_tn) (ok8 : ab_Ok E d8 ix8 S8) (ok9 : ab_Ok E d9 ix9 S9) (hd8 : d8 ≤ 100) (hd9 : d9 ≤ 100) (hd : al_rb code pc [(.aload_n 1, 1), (.aload_n 0, 1), (.iload_n 3, 1), (.iconst ((1 : Nat) : Int), 1), (.iadd, 1), (.iaload, 1), (.aload_n 0, 1), (.iload_n 3, 1), (.iconst ((2 : Nat) : Int), 1), (.iadd, 1), (.iaload, 1), (.aload_n 0, 1), (.iload_n 3, 1), (.iconst ((3 : Nat) : Int), 1), (.iadd, 1), (.iaload, 1), (.invokevirtual i8, 3), (.aload_n 2, 1), (.aload_n 0, 1), (.iload_n 3, 1), (.iconst ((1 : Nat) : Int), 1), (.iadd, 1), (.iaload, 1), (.aload_n 0, 1), (.iload_n 3, 1), (.iconst ((2 : Nat) : Int), 1), (.iadd, 1), (.iaload, 1), (.aload_n 0, 1), (.iload_n 3, 1), (.iconst ((3 : Nat) : Int), 1), (.iadd, 1), (.iaload, 1), (.invokevirtual i9, 3), (.if_icmp .eq off, 3)] = true) (ht : ((pc + 1 + 1 + 1 + 1 + 1 + 1 + 1 + 1 + 1 + 1 + 1 + 1 + 1 + 1 + 1 + 1 + 3 + 1 + 1 + 1 + 1 + 1 + 1 + 1 + 1 + 1 + 1 + 1 + 1 + 1 + 1 + 1 + 1 + 3 : Nat) : Int) + off = ((717 : Nat) : Int)) {H : Heap} {locs : List Loc} {ls : Array Slot} (hn : 5 * n + 5 ≤ L) (hl : lv_has ls 4 (al_lv E b n)) (hwd : ab_wd M) (hP : va_P E.2.1 ab_cl (ab_W E ab_n M) H) (hS : va_S (fun q => E.1 ≤ q) s.heap H locs) (hcells : cells ≤ R.cells) (hslots : slots ≤ R.slots) (hbo : bo_P S8 S9 [iV (al_x xs (5 * n + 1)), iV (al_x xs (5 * n + 2)), iV (al_x xs (5 * n + 3))] k0 M)
    (kk : ∀ (M2 : ab_M) (H2 : Heap) (locs2 : List Loc), INV (k0 + 1) M2 → ab_wd M2 → va_P E.2.1 ab_cl (ab_W E ab_n M2) H2 → va_S (fun q => E.1 ≤ q) s.heap H2 locs2 → W p l e R s m #[Value.ref b] below meth c H2 locs2 cells slots Q (F0 m 717 ls [])) : W p l e R s m #[Value.ref b] below meth c H locs cells slots Q (F0 m pc ls []) := by
  obtain ⟨hC, hN, hX, hbl, hE, hL⟩ := id hA
  obtain ⟨hx, hb, hml, hown, hts, hK, hlk, hsz⟩ := id hC
  obtain ⟨h0, hd⟩ := al_rc hd
  obtain ⟨h1, hd⟩ := al_rc hd
  obtain ⟨h2, hd⟩ := al_rc hd
  obtain ⟨h3, hd⟩ := al_rc hd
  obtain ⟨h4, hd⟩ := al_rc hd
  obtain ⟨h5, hd⟩ := al_rc hd
  obtain ⟨h6, hd⟩ := al_rc hd
  obtain ⟨h7, hd⟩ := al_rc hd
  obtain ⟨h8, hd⟩ := al_rc hd
  obtain ⟨h9, hd⟩ := al_rc hd
  obtain ⟨h10, hd⟩ := al_rc hd
  obtain ⟨h11, hd⟩ := al_rc hd
  obtain ⟨h12, hd⟩ := al_rc hd
  obtain ⟨h13, hd⟩ := al_rc hd
  obtain ⟨h14, hd⟩ := al_rc hd
  obtain ⟨h15, hd⟩ := al_rc hd
  obtain ⟨h16, hd⟩ := al_rc hd
  obtain ⟨h17, hd⟩ := al_rc hd
  obtain ⟨h18, hd⟩ := al_rc hd
  obtain ⟨h19, hd⟩ := al_rc hd
  obtain ⟨h20, hd⟩ := al_rc hd
  obtain ⟨h21, hd⟩ := al_rc hd
  obtain ⟨h22, hd⟩ := al_rc hd
  obtain ⟨h23, hd⟩ := al_rc hd
  obtain ⟨h24, hd⟩ := al_rc hd
  obtain ⟨h25, hd⟩ := al_rc hd
  obtain ⟨h26, hd⟩ := al_rc hd
  obtain ⟨h27, hd⟩ := al_rc hd
  obtain ⟨h28, hd⟩ := al_rc hd
  obtain ⟨h29, hd⟩ := al_rc hd
  obtain ⟨h30, hd⟩ := al_rc hd
  obtain ⟨h31, hd⟩ := al_rc hd
  obtain ⟨h32, hd⟩ := al_rc hd
  obtain ⟨h33, hd⟩ := al_rc hd
  obtain ⟨h34, hd⟩ := al_rc hd
  refine lv_aload_n hx hb h0 rfl (lv_at hl 2 rfl) ?_
  refine al_arg hA (j := 1) h1 h2 h3 h4 h5 (by decide) hn hS hl ?_
  refine al_arg hA (j := 2) h6 h7 h8 h9 h10 (by decide) hn hS hl ?_
  refine al_arg hA (j := 3) h11 h12 h13 h14 h15 (by decide) hn hS hl ?_
  refine al_call hC hN (d' := d8) (by omega) (by omega) (ci := 8) hq8 hk8 hc8 h16 hl8 (o := 0) (n1 := 0) (as := [iV (al_x xs (5 * n + 1)), iV (al_x xs (5 * n + 2)), iV (al_x xs (5 * n + 3))]) (rest := []) hp8 ok8 hwd (fun v hv => by
      rcases List.mem_cons.mp hv with rfl | hv
      · exact al_wf8
      · simp only [List.mem_cons, List.not_mem_nil, or_false] at hv
        first | exact hv.elim | (rcases hv with rfl | rfl | rfl <;> exact trivial)) hbo hP hS hl.1 (Nat.zero_le _) hcells hslots (fun rv M1 H1 locs1 hK1 wd1 hP1 hS1 => ?_)
  obtain ⟨r, rfl, hbo2⟩ := hK1
  refine lv_aload_n hx hb h17 rfl (lv_at hl 3 rfl) ?_
  refine al_arg hA (j := 1) h18 h19 h20 h21 h22 (by decide) hn hS1 hl ?_
  refine al_arg hA (j := 2) h23 h24 h25 h26 h27 (by decide) hn hS1 hl ?_
  refine al_arg hA (j := 3) h28 h29 h30 h31 h32 (by decide) hn hS1 hl ?_
  refine al_call hC hN (d' := d9) (by omega) (by omega) (ci := 9) hq9 hk9 hc9 h33 hl9 (o := 797) (n1 := 0) (as := [iV (al_x xs (5 * n + 1)), iV (al_x xs (5 * n + 2)), iV (al_x xs (5 * n + 3))]) (rest := [.int (Int32.ofInt r)]) hp9 ok9 wd1 (fun v hv => by
      rcases List.mem_cons.mp hv with rfl | hv
      · exact al_wf9
      · simp only [List.mem_cons, List.not_mem_nil, or_false] at hv
        first | exact hv.elim | (rcases hv with rfl | rfl | rfl <;> exact trivial)) hbo2 hP1 hS1 hl.1 (Nat.le_of_ble_eq_true rfl) hcells hslots (fun rv M2 H2 locs2 hK2 wd2 hP2 hS2 => ?_)
  obtain ⟨rfl, hI⟩ := hK2
  refine lv_icmp_eq (tgt := 717) hx hb h34 ht (fun _ => kk M2 H2 locs2 hI wd2 hP2 hS2) (fun cq => absurd rfl cq)
theorem al_way4 (hA : al_At p s m meth c E b L xs) (hRf : 200 ≤ R.frames) (hRl : 64 * 200 ≤ R.locals) {i8 i9 ix8 ix9 d8 d9 k0 : Nat} {off : Int} {q8 q9 : ab_R} {S8 S9 : ab_PT} (hq8 : ab_reg[ix8]? = some q8) (hq9 : ab_reg[ix9]? = some q9) (hk8 : q8.2.2.2.2.2.2 = 0) (hk9 : q9.2.2.2.2.2.2 = 0) (hc8 : q8.2.2.2.2.1 = 8) (hc9 : q9.2.2.2.2.1 = 9) (hp8 : (parseMethodDescriptor q8.1.desc).map (fun d => d.parameters.length) = some 4) (hp9 : (parseMethodDescriptor q9.1.desc).map (fun d => d.parameters.length) = some 4) (hl8 : Cond.methodLink RL i8 q8.1 ∈ ab_tn) (hl9 : Cond.methodLink RL i9 q9.1 ∈ ab_tn) (ok8 : ab_Ok E d8 ix8 S8) (ok9 : ab_Ok E d9 ix9 S9) (hd8 : d8 ≤ 100) (hd9 : d9 ≤ 100) (hd : al_rb code pc [(.aload_n 1, 1), (.aload_n 0, 1), (.iload_n 3, 1), (.iconst ((1 : Nat) : Int), 1), (.iadd, 1), (.iaload, 1), (.aload_n 0, 1), (.iload_n 3, 1), (.iconst ((2 : Nat) : Int), 1), (.iadd, 1), (.iaload, 1), (.aload_n 0, 1), (.iload_n 3, 1), (.iconst ((3 : Nat) : Int), 1), (.iadd, 1), (.iaload, 1), (.aload_n 0, 1), (.iload_n 3, 1), (.iconst ((4 : Nat) : Int), 1), (.iadd, 1), (.iaload, 1), (.invokevirtual i8, 3), (.aload_n 2, 1), (.aload_n 0, 1), (.iload_n 3, 1), (.iconst ((1 : Nat) : Int), 1), (.iadd, 1), (.iaload, 1), (.aload_n 0, 1), (.iload_n 3, 1), (.iconst ((2 : Nat) : Int), 1), (.iadd, 1), (.iaload, 1), (.aload_n 0, 1), (.iload_n 3, 1), (.iconst ((3 : Nat) : Int), 1), (.iadd, 1), (.iaload, 1), (.aload_n 0, 1), (.iload_n 3, 1), (.iconst ((4 : Nat) : Int), 1), (.iadd, 1), (.iaload, 1), (.invokevirtual i9, 3), (.if_icmp .eq off, 3)] = true) (ht : ((pc + 1 + 1 + 1 + 1 + 1 + 1 + 1 + 1 + 1 + 1 + 1 + 1 + 1 + 1 + 1 + 1 + 1 + 1 + 1 + 1 + 1 + 3 + 1 + 1 + 1 + 1 + 1 + 1 + 1 + 1 + 1 + 1 + 1 + 1 + 1 + 1 + 1 + 1 + 1 + 1 + 1 + 1 + 1 + 3 : Nat) : Int) + off = ((717 : Nat) : Int)) {H : Heap} {locs : List Loc} {ls : Array Slot} (hn : 5 * n + 5 ≤ L) (hl : lv_has ls 4 (al_lv E b n)) (hwd : ab_wd M) (hP : va_P E.2.1 ab_cl (ab_W E ab_n M) H) (hS : va_S (fun q => E.1 ≤ q) s.heap H locs) (hcells : cells ≤ R.cells) (hslots : slots ≤ R.slots) (hbo : bo_P S8 S9 [iV (al_x xs (5 * n + 1)), iV (al_x xs (5 * n + 2)), iV (al_x xs (5 * n + 3)), iV (al_x xs (5 * n + 4))] k0 M)
    (kk : ∀ (M2 : ab_M) (H2 : Heap) (locs2 : List Loc), INV (k0 + 1) M2 → ab_wd M2 → va_P E.2.1 ab_cl (ab_W E ab_n M2) H2 → va_S (fun q => E.1 ≤ q) s.heap H2 locs2 → W p l e R s m #[Value.ref b] below meth c H2 locs2 cells slots Q (F0 m 717 ls [])) : W p l e R s m #[Value.ref b] below meth c H locs cells slots Q (F0 m pc ls []) := by
  obtain ⟨hC, hN, hX, hbl, hE, hL⟩ := id hA
  obtain ⟨hx, hb, hml, hown, hts, hK, hlk, hsz⟩ := id hC
  obtain ⟨h0, hd⟩ := al_rc hd
  obtain ⟨h1, hd⟩ := al_rc hd
  obtain ⟨h2, hd⟩ := al_rc hd
  obtain ⟨h3, hd⟩ := al_rc hd
  obtain ⟨h4, hd⟩ := al_rc hd
  obtain ⟨h5, hd⟩ := al_rc hd
  obtain ⟨h6, hd⟩ := al_rc hd
  obtain ⟨h7, hd⟩ := al_rc hd
  obtain ⟨h8, hd⟩ := al_rc hd
  obtain ⟨h9, hd⟩ := al_rc hd
  obtain ⟨h10, hd⟩ := al_rc hd
  obtain ⟨h11, hd⟩ := al_rc hd
  obtain ⟨h12, hd⟩ := al_rc hd
  obtain ⟨h13, hd⟩ := al_rc hd
  obtain ⟨h14, hd⟩ := al_rc hd
  obtain ⟨h15, hd⟩ := al_rc hd
  obtain ⟨h16, hd⟩ := al_rc hd
  obtain ⟨h17, hd⟩ := al_rc hd
  obtain ⟨h18, hd⟩ := al_rc hd
  obtain ⟨h19, hd⟩ := al_rc hd
  obtain ⟨h20, hd⟩ := al_rc hd
  obtain ⟨h21, hd⟩ := al_rc hd
  obtain ⟨h22, hd⟩ := al_rc hd
  obtain ⟨h23, hd⟩ := al_rc hd
  obtain ⟨h24, hd⟩ := al_rc hd
  obtain ⟨h25, hd⟩ := al_rc hd
  obtain ⟨h26, hd⟩ := al_rc hd
  obtain ⟨h27, hd⟩ := al_rc hd
  obtain ⟨h28, hd⟩ := al_rc hd
  obtain ⟨h29, hd⟩ := al_rc hd
  obtain ⟨h30, hd⟩ := al_rc hd
  obtain ⟨h31, hd⟩ := al_rc hd
  obtain ⟨h32, hd⟩ := al_rc hd
  obtain ⟨h33, hd⟩ := al_rc hd
  obtain ⟨h34, hd⟩ := al_rc hd
  obtain ⟨h35, hd⟩ := al_rc hd
  obtain ⟨h36, hd⟩ := al_rc hd
  obtain ⟨h37, hd⟩ := al_rc hd
  obtain ⟨h38, hd⟩ := al_rc hd
  obtain ⟨h39, hd⟩ := al_rc hd
  obtain ⟨h40, hd⟩ := al_rc hd
  obtain ⟨h41, hd⟩ := al_rc hd
  obtain ⟨h42, hd⟩ := al_rc hd
  obtain ⟨h43, hd⟩ := al_rc hd
  obtain ⟨h44, hd⟩ := al_rc hd
  refine lv_aload_n hx hb h0 rfl (lv_at hl 2 rfl) ?_
  refine al_arg hA (j := 1) h1 h2 h3 h4 h5 (by decide) hn hS hl ?_
  refine al_arg hA (j := 2) h6 h7 h8 h9 h10 (by decide) hn hS hl ?_
  refine al_arg hA (j := 3) h11 h12 h13 h14 h15 (by decide) hn hS hl ?_
  refine al_arg hA (j := 4) h16 h17 h18 h19 h20 (by decide) hn hS hl ?_
  refine al_call hC hN (d' := d8) (by omega) (by omega) (ci := 8) hq8 hk8 hc8 h21 hl8 (o := 0) (n1 := 0) (as := [iV (al_x xs (5 * n + 1)), iV (al_x xs (5 * n + 2)), iV (al_x xs (5 * n + 3)), iV (al_x xs (5 * n + 4))]) (rest := []) hp8 ok8 hwd (fun v hv => by
      rcases List.mem_cons.mp hv with rfl | hv
      · exact al_wf8
      · simp only [List.mem_cons, List.not_mem_nil, or_false] at hv
        first | exact hv.elim | (rcases hv with rfl | rfl | rfl | rfl <;> exact trivial)) hbo hP hS hl.1 (Nat.zero_le _) hcells hslots (fun rv M1 H1 locs1 hK1 wd1 hP1 hS1 => ?_)
  obtain ⟨r, rfl, hbo2⟩ := hK1
  refine lv_aload_n hx hb h22 rfl (lv_at hl 3 rfl) ?_
  refine al_arg hA (j := 1) h23 h24 h25 h26 h27 (by decide) hn hS1 hl ?_
  refine al_arg hA (j := 2) h28 h29 h30 h31 h32 (by decide) hn hS1 hl ?_
  refine al_arg hA (j := 3) h33 h34 h35 h36 h37 (by decide) hn hS1 hl ?_
  refine al_arg hA (j := 4) h38 h39 h40 h41 h42 (by decide) hn hS1 hl ?_
  refine al_call hC hN (d' := d9) (by omega) (by omega) (ci := 9) hq9 hk9 hc9 h43 hl9 (o := 797) (n1 := 0) (as := [iV (al_x xs (5 * n + 1)), iV (al_x xs (5 * n + 2)), iV (al_x xs (5 * n + 3)), iV (al_x xs (5 * n + 4))]) (rest := [.int (Int32.ofInt r)]) hp9 ok9 wd1 (fun v hv => by
      rcases List.mem_cons.mp hv with rfl | hv
      · exact al_wf9
      · simp only [List.mem_cons, List.not_mem_nil, or_false] at hv
        first | exact hv.elim | (rcases hv with rfl | rfl | rfl | rfl <;> exact trivial)) hbo2 hP1 hS1 hl.1 (Nat.le_of_ble_eq_true rfl) hcells hslots (fun rv M2 H2 locs2 hK2 wd2 hP2 hS2 => ?_)
  obtain ⟨rfl, hI⟩ := hK2
  refine lv_icmp_eq (tgt := 717) hx hb h44 ht (fun _ => kk M2 H2 locs2 hI wd2 hP2 hS2) (fun cq => absurd rfl cq)
theorem al_wayL (hA : al_At p s m meth c E b L xs) (hRf : 200 ≤ R.frames) (hRl : 64 * 200 ≤ R.locals) {i8 i9 ix8 ix9 d8 d9 k0 : Nat} {off : Int} {q8 q9 : ab_R} {S8 S9 : ab_PT} (hq8 : ab_reg[ix8]? = some q8) (hq9 : ab_reg[ix9]? = some q9) (hk8 : q8.2.2.2.2.2.2 = 0) (hk9 : q9.2.2.2.2.2.2 = 0) (hc8 : q8.2.2.2.2.1 = 8) (hc9 : q9.2.2.2.2.1 = 9) (hp8 : (parseMethodDescriptor q8.1.desc).map (fun d => d.parameters.length) = some 0) (hp9 : (parseMethodDescriptor q9.1.desc).map (fun d => d.parameters.length) = some 0) (hl8 : Cond.methodLink RL i8 q8.1 ∈ ab_tn) (hl9 : Cond.methodLink RL i9 q9.1 ∈ ab_tn) (ok8 : ab_Ok E d8 ix8 S8) (ok9 : ab_Ok E d9 ix9 S9) (hd8 : d8 ≤ 100) (hd9 : d9 ≤ 100) (hd : al_rb code pc [(.aload_n 1, 1), (.invokevirtual i8, 3), (.aload_n 2, 1), (.invokevirtual i9, 3), (.lcmp, 1), (.ifCond .eq off, 3)] = true) (ht : ((pc + 1 + 3 + 1 + 3 + 1 : Nat) : Int) + off = ((717 : Nat) : Int)) {H : Heap} {locs : List Loc} {ls : Array Slot} (hn : 5 * n + 5 ≤ L) (hl : lv_has ls 4 (al_lv E b n)) (hwd : ab_wd M) (hP : va_P E.2.1 ab_cl (ab_W E ab_n M) H) (hS : va_S (fun q => E.1 ≤ q) s.heap H locs) (hcells : cells ≤ R.cells) (hslots : slots ≤ R.slots) (hbo : S8 [xO] M (fun v M1 => ∃ r : Int, v = [Xl r] ∧ S9 [mO] M1 (fun v' M2 => v' = [Xl r] ∧ INV (k0 + 1) M2)))
    (kk : ∀ (M2 : ab_M) (H2 : Heap) (locs2 : List Loc), INV (k0 + 1) M2 → ab_wd M2 → va_P E.2.1 ab_cl (ab_W E ab_n M2) H2 → va_S (fun q => E.1 ≤ q) s.heap H2 locs2 → W p l e R s m #[Value.ref b] below meth c H2 locs2 cells slots Q (F0 m 717 ls [])) : W p l e R s m #[Value.ref b] below meth c H locs cells slots Q (F0 m pc ls []) := by
  obtain ⟨hC, hN, hX, hbl, hE, hL⟩ := id hA
  obtain ⟨hx, hb, hml, hown, hts, hK, hlk, hsz⟩ := id hC
  obtain ⟨h0, hd⟩ := al_rc hd
  obtain ⟨h1, hd⟩ := al_rc hd
  obtain ⟨h2, hd⟩ := al_rc hd
  obtain ⟨h3, hd⟩ := al_rc hd
  obtain ⟨h4, hd⟩ := al_rc hd
  obtain ⟨h5, hd⟩ := al_rc hd
  refine lv_aload_n hx hb h0 rfl (lv_at hl 2 rfl) ?_
  refine al_call hC hN (d' := d8) (by omega) (by omega) (ci := 8) hq8 hk8 hc8 h1 hl8 (o := 0) (n1 := 0) (as := []) (rest := []) hp8 ok8 hwd (fun v hv => by
      rcases List.mem_cons.mp hv with rfl | hv
      · exact al_wf8
      · exact absurd hv List.not_mem_nil) hbo hP hS hl.1 (Nat.zero_le _) hcells hslots (fun rv M1 H1 locs1 hK1 wd1 hP1 hS1 => ?_)
  obtain ⟨r, rfl, hbo2⟩ := hK1
  refine lv_aload_n hx hb h2 rfl (lv_at hl 3 rfl) ?_
  refine al_call hC hN (d' := d9) (by omega) (by omega) (ci := 9) hq9 hk9 hc9 h3 hl9 (o := 797) (n1 := 0) (as := []) (rest := [.long (Int64.ofInt r)]) hp9 ok9 wd1 (fun v hv => by
      rcases List.mem_cons.mp hv with rfl | hv
      · exact al_wf9
      · exact absurd hv List.not_mem_nil) hbo2 hP1 hS1 hl.1 (Nat.le_of_ble_eq_true rfl) hcells hslots (fun rv M2 H2 locs2 hK2 wd2 hP2 hS2 => ?_)
  obtain ⟨rfl, hI⟩ := hK2
  refine W.lcmp hx hb h4 ?_
  refine lv_if_eq (tgt := 717) hx hb h5 ht (fun _ => kk M2 H2 locs2 hI wd2 hP2 hS2) (fun cq => absurd (by unfold lg_cmp; rw [if_neg (by show ¬ Int64.ofInt r < Int64.ofInt r; exact Int64.lt_irrefl), if_pos rfl]) cq)
end AC
