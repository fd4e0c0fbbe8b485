/-! what the tables say of the classes, fields, methods and rows of code, decided -/
set_option maxRecDepth 100000 in
theorem ab_lay0 : u_ws RX0 TX0 7 = [429, 431, 433, 435, 437, 439, 441].filterMap (fun i => lw_tbl[i]?) := by decide +kernel
theorem ab_layin0 : ∀ w ∈ u_ws RX0 TX0 7, w ∈ lw_tbl := fun w h => by rw [ab_lay0] at h; obtain ⟨i, -, hi⟩ := List.mem_filterMap.mp h; exact List.mem_of_getElem? hi
set_option maxRecDepth 100000 in
theorem ab_nfeq0 : ab_nf 0 = 7 := by decide +kernel
set_option maxRecDepth 100000 in
theorem ab_lay1 : u_ws RX1 TX1 12 = [284, 286, 288, 290, 292, 294, 296, 298, 300, 302, 304, 306].filterMap (fun i => lw_tbl[i]?) := by decide +kernel
theorem ab_layin1 : ∀ w ∈ u_ws RX1 TX1 12, w ∈ lw_tbl := fun w h => by rw [ab_lay1] at h; obtain ⟨i, -, hi⟩ := List.mem_filterMap.mp h; exact List.mem_of_getElem? hi
set_option maxRecDepth 100000 in
theorem ab_nfeq1 : ab_nf 1 = 12 := by decide +kernel
set_option maxRecDepth 100000 in
theorem ab_lay2 : u_ws RX2 TX2 10 = [325, 327, 329, 331, 333, 335, 337, 339, 341, 343].filterMap (fun i => lw_tbl[i]?) := by decide +kernel
theorem ab_layin2 : ∀ w ∈ u_ws RX2 TX2 10, w ∈ lw_tbl := fun w h => by rw [ab_lay2] at h; obtain ⟨i, -, hi⟩ := List.mem_filterMap.mp h; exact List.mem_of_getElem? hi
set_option maxRecDepth 100000 in
theorem ab_nfeq2 : ab_nf 2 = 10 := by decide +kernel
set_option maxRecDepth 100000 in
theorem ab_lay3 : u_ws RX3 TX3 6 = [400, 402, 404, 406, 408, 410].filterMap (fun i => lw_tbl[i]?) := by decide +kernel
theorem ab_layin3 : ∀ w ∈ u_ws RX3 TX3 6, w ∈ lw_tbl := fun w h => by rw [ab_lay3] at h; obtain ⟨i, -, hi⟩ := List.mem_filterMap.mp h; exact List.mem_of_getElem? hi
set_option maxRecDepth 100000 in
theorem ab_nfeq3 : ab_nf 3 = 6 := by decide +kernel
set_option maxRecDepth 100000 in
theorem ab_lay4 : u_ws RX4 TX4 19 = [212, 214, 216, 218, 220, 222, 224, 226, 228, 230, 232, 234, 236, 238, 240, 242, 244, 246, 248].filterMap (fun i => lw_tbl[i]?) := by decide +kernel
theorem ab_layin4 : ∀ w ∈ u_ws RX4 TX4 19, w ∈ lw_tbl := fun w h => by rw [ab_lay4] at h; obtain ⟨i, -, hi⟩ := List.mem_filterMap.mp h; exact List.mem_of_getElem? hi
set_option maxRecDepth 100000 in
theorem ab_nfeq4 : ab_nf 4 = 19 := by decide +kernel
set_option maxRecDepth 100000 in
theorem ab_lay5 : u_ws RX5 TX5 4 = [384, 386, 388, 390].filterMap (fun i => lw_tbl[i]?) := by decide +kernel
theorem ab_layin5 : ∀ w ∈ u_ws RX5 TX5 4, w ∈ lw_tbl := fun w h => by rw [ab_lay5] at h; obtain ⟨i, -, hi⟩ := List.mem_filterMap.mp h; exact List.mem_of_getElem? hi
set_option maxRecDepth 100000 in
theorem ab_nfeq5 : ab_nf 5 = 4 := by decide +kernel
set_option maxRecDepth 100000 in
theorem ab_lay6 : u_ws RX6 TX6 2 = [121, 123].filterMap (fun i => lw_tbl[i]?) := by decide +kernel
theorem ab_layin6 : ∀ w ∈ u_ws RX6 TX6 2, w ∈ lw_tbl := fun w h => by rw [ab_lay6] at h; obtain ⟨i, -, hi⟩ := List.mem_filterMap.mp h; exact List.mem_of_getElem? hi
set_option maxRecDepth 100000 in
theorem ab_nfeq6 : ab_nf 6 = 2 := by decide +kernel
set_option maxRecDepth 100000 in
theorem ab_lay7 : u_ws RX7 TX7 4 = [362, 364, 366, 368].filterMap (fun i => lw_tbl[i]?) := by decide +kernel
theorem ab_layin7 : ∀ w ∈ u_ws RX7 TX7 4, w ∈ lw_tbl := fun w h => by rw [ab_lay7] at h; obtain ⟨i, -, hi⟩ := List.mem_filterMap.mp h; exact List.mem_of_getElem? hi
set_option maxRecDepth 100000 in
theorem ab_nfeq7 : ab_nf 7 = 4 := by decide +kernel
set_option maxRecDepth 100000 in
theorem ab_lay8 : u_ws RX8 TX8 15 = [460, 462, 464, 466, 468, 470, 472, 474, 476, 478, 480, 482, 484, 486, 488].filterMap (fun i => lw_tbl[i]?) := by decide +kernel
theorem ab_layin8 : ∀ w ∈ u_ws RX8 TX8 15, w ∈ lw_tbl := fun w h => by rw [ab_lay8] at h; obtain ⟨i, -, hi⟩ := List.mem_filterMap.mp h; exact List.mem_of_getElem? hi
set_option maxRecDepth 100000 in
theorem ab_nfeq8 : ab_nf 8 = 15 := by decide +kernel
set_option maxRecDepth 100000 in
theorem ab_lay9 : u_ws RX9 TX9 74 = [1064, 1066, 1068, 1070, 1072, 1074, 1076, 1078, 1080, 1082, 1084, 1086, 1088, 1090, 1092, 1094, 1096, 1098, 1100, 1102, 1104, 1106, 1108, 1110, 1112, 1114, 1116, 1118, 1120, 1122, 1124, 1126, 1128, 1130, 1132, 1134, 1136, 1138, 1140, 1142, 1144, 1146, 1148, 1150, 1152, 1154, 1156, 1158, 1160, 1162, 1164, 1166, 1168, 1170, 1172, 1174, 1176, 1178, 1180, 1182, 1184, 1186, 1188, 1190, 1192, 1194, 1196, 1198, 1200, 1202, 1204, 1206, 1208, 1210].filterMap (fun i => lw_tbl[i]?) := by decide +kernel
theorem ab_layin9 : ∀ w ∈ u_ws RX9 TX9 74, w ∈ lw_tbl := fun w h => by rw [ab_lay9] at h; obtain ⟨i, -, hi⟩ := List.mem_filterMap.mp h; exact List.mem_of_getElem? hi
set_option maxRecDepth 100000 in
theorem ab_nfeq9 : ab_nf 9 = 74 := by decide +kernel

set_option maxRecDepth 100000 in
theorem ab_clok (ci : Nat) (q : vw_C) (h : ab_cl[ci]? = some q) : (∀ w ∈ u_ws q.1 q.2.1 q.2.2, w ∈ lw_tbl) ∧ (∃ ty0 : Nat → FieldType, (∀ k, k < q.2.2 → parseFieldDescriptor (q.2.1 k).2.2.1 = some (ty0 k)) ∧ ∀ a, a < q.2.2 → ∀ b, b < q.2.2 → a ≠ b → (q.2.1 a).2.1 ≠ (q.2.1 b).2.1) ∧ q.2.2 = ab_nf ci ∧ ci < 20 := by
  match ci, h with
  | 0, h => cases h; exact ⟨ab_layin0, ⟨tyX0, tyX0_ok, nmX0⟩, ab_nfeq0.symm, by decide⟩
  | 1, h => cases h; exact ⟨ab_layin1, ⟨tyX1, tyX1_ok, nmX1⟩, ab_nfeq1.symm, by decide⟩
  | 2, h => cases h; exact ⟨ab_layin2, ⟨tyX2, tyX2_ok, nmX2⟩, ab_nfeq2.symm, by decide⟩
  | 3, h => cases h; exact ⟨ab_layin3, ⟨tyX3, tyX3_ok, nmX3⟩, ab_nfeq3.symm, by decide⟩
  | 4, h => cases h; exact ⟨ab_layin4, ⟨tyX4, tyX4_ok, nmX4⟩, ab_nfeq4.symm, by decide⟩
  | 5, h => cases h; exact ⟨ab_layin5, ⟨tyX5, tyX5_ok, nmX5⟩, ab_nfeq5.symm, by decide⟩
  | 6, h => cases h; exact ⟨ab_layin6, ⟨tyX6, tyX6_ok, nmX6⟩, ab_nfeq6.symm, by decide⟩
  | 7, h => cases h; exact ⟨ab_layin7, ⟨tyX7, tyX7_ok, nmX7⟩, ab_nfeq7.symm, by decide⟩
  | 8, h => cases h; exact ⟨ab_layin8, ⟨tyX8, tyX8_ok, nmX8⟩, ab_nfeq8.symm, by decide⟩
  | 9, h => cases h; exact ⟨ab_layin9, ⟨tyX9, tyX9_ok, nmX9⟩, ab_nfeq9.symm, by decide⟩
  | n + 10, h => simp at h
def ab_fk (T : u_T) (ci k : Nat) : Bool := match (ab_ft ci k).1 with
  | 0 => decide (parseFieldDescriptor (T k).2.2.1 = some .int) && !(T k).2.2.2
  | 1 => decide (parseFieldDescriptor (T k).2.2.1 = some .boolean) && !(T k).2.2.2
  | 3 => (match parseFieldDescriptor (T k).2.2.1 with | some (.object _) => true | _ => false) && !(T k).2.2.2
  | _ => true
set_option maxRecDepth 100000 in
theorem ab_fk_all : ab_cl.zipIdx.all (fun q => (List.range q.1.2.2).all (fun k => ab_fk q.1.2.1 q.2 k)) = true := by decide +kernel
theorem ab_fk_ok {ci k : Nat} {q : vw_C} (h : ab_cl[ci]? = some q) (hk : k < q.2.2) : ab_fk q.2.1 ci k = true := by
  have h1 := List.all_eq_true.mp ab_fk_all (q, ci) (List.mem_zipIdx_iff_getElem?.mpr h)
  exact List.all_eq_true.mp h1 k (List.mem_range.mpr hk)
/-- the layout: what a reference that never changes leads to -/
def ab_lk (o k : Nat) : Bool := match ab_ft (ab_kd o) k with
  | (2, d, c, n) => Nat.ble (d + 1) ab_n && (Nat.beq (ab_kd d) c && Nat.beq (ab_ln d) n)
  | (4, d, c, _) => Nat.ble (o + d + 1) ab_n && Nat.beq (ab_kd (o + d)) c
  | (5, d, c, n) => Nat.ble (o + d + 1) ab_n && (Nat.beq (ab_kd (o + d)) c && Nat.beq (ab_ln (o + d)) n)
  | _ => true
set_option maxRecDepth 100000 in
theorem ab_lk_all : (List.range ab_n).all (fun o => (List.range 74).all (fun k => Nat.ble 20 (ab_kd o) || ab_lk o k)) = true := by decide +kernel
set_option maxRecDepth 100000 in
theorem ab_st_all : (List.range ab_n).all (fun o => bif Nat.beq (ab_kd o) 25 then (List.range (ab_ln o)).all (fun i => Nat.ble (o + 1 + 3 * i + 1) ab_n && (Nat.beq (ab_kd (o + 1 + 3 * i)) 4 && Nat.beq (ab_ln (o + 1 + 3 * i)) 0)) else true) = true := by decide +kernel
set_option maxRecDepth 100000 in
theorem ab_kd_all : (List.range ab_n).all (fun o => (Nat.ble (ab_kd o) 9 && Nat.beq (ab_ln o) 0) || (Nat.ble 20 (ab_kd o) && (Nat.ble (ab_kd o) 26 && Nat.ble (ab_ln o) 65536))) = true := by decide +kernel
/-- a row of code is what it says -/
def ab_len (I : Instr) : Nat := match I with
  | .bipush _ | .iload _ | .lload _ | .aload _ | .istore _ | .lstore _ | .astore _ | .ldc _ | .newarray _ => 2
  | .sipush _ | .ldc_w _ | .ldc2_w _ | .iinc _ _ | .getfield _ | .putfield _ | .goto _ | .ifCond _ _ | .if_icmp _ _ | .if_acmp _ _ | .invokevirtual _ | .invokestatic _ | .invokespecial _ | .new _ | .anewarray _ => 3
  | .tableswitch _ _ _ _ => 0
  | .lookupswitch _ _ => 0
  | _ => 1
def ab_cf (own i : Nat) (r : Int × Nat × Nat × Nat × Nat) : Bool := match lw_tbl[r.2.2.2.2]?, ab_cl[r.2.2.1]? with
  | some (.fieldLink o j f n d), some q => decide (r.2.2.2.1 < q.2.2) && decide (o = ab_cn own ∧ j = i ∧ f = (q.2.1 r.2.2.2.1).1 ∧ n = (q.2.1 r.2.2.2.1).2.1 ∧ d = (q.2.1 r.2.2.2.1).2.2.1)
  | some (.fieldLinkNest o j f n d _), some q => decide (r.2.2.2.1 < q.2.2) && decide (o = ab_cn own ∧ j = i ∧ f = (q.2.1 r.2.2.2.1).1 ∧ n = (q.2.1 r.2.2.2.1).2.1 ∧ d = (q.2.1 r.2.2.2.1).2.2.1)
  | _, _ => false
theorem ab_cf_ok {own i : Nat} {r : Int × Nat × Nat × Nat × Nat} (h : ab_cf own i r = true) : ∃ q : vw_C, ab_cl[r.2.2.1]? = some q ∧ r.2.2.2.1 < q.2.2 ∧ (Cond.fieldLink (ab_cn own) i (q.2.1 r.2.2.2.1).1 (q.2.1 r.2.2.2.1).2.1 (q.2.1 r.2.2.2.1).2.2.1 ∈ lw_tbl ∨ ∃ host : String, Cond.fieldLinkNest (ab_cn own) i (q.2.1 r.2.2.2.1).1 (q.2.1 r.2.2.2.1).2.1 (q.2.1 r.2.2.2.1).2.2.1 host ∈ lw_tbl) := by
  unfold ab_cf at h
  split at h
  · rename_i hw hq
    simp only [Bool.and_eq_true, decide_eq_true_eq] at h
    obtain ⟨h1, rfl, rfl, rfl, rfl, rfl⟩ := h
    exact ⟨_, hq, h1, Or.inl (List.mem_of_getElem? hw)⟩
  · rename_i hw hq
    simp only [Bool.and_eq_true, decide_eq_true_eq] at h
    obtain ⟨h1, rfl, rfl, rfl, rfl, rfl⟩ := h
    exact ⟨_, hq, h1, Or.inr ⟨_, List.mem_of_getElem? hw⟩⟩
  · cases h
/-- the link of a call, to the method of that number; k: 0 virtual, 1 static, 2 special -/
def ab_cm (own i k : Nat) (r : Int × Nat × Nat × Nat × Nat) : Bool := match lw_tbl[r.2.2.2.2]?, ab_reg[r.2.2.1]? with
  | some (.methodLink o j y), some q => decide (o = ab_cn own ∧ j = i ∧ y = q.1) && (Nat.beq r.2.1 (2 * k) && (Nat.beq q.2.2.2.2.2.2 k && decide ((parseMethodDescriptor q.1.desc).map (fun d => d.parameters.length) = some r.2.2.2.1)))
  | some (.methodLinkNest o j y _), some q => decide (o = ab_cn own ∧ j = i ∧ y = q.1) && (Nat.beq r.2.1 (2 * k + 1) && (Nat.beq q.2.2.2.2.2.2 k && decide ((parseMethodDescriptor q.1.desc).map (fun d => d.parameters.length) = some r.2.2.2.1)))
  | _, _ => false
def ab_cr (own : Nat) (e : ab_T) : Bool := match e.2.1 with
  | .getfield i => ab_cf own i e.2.2.2.1
  | .putfield i => ab_cf own i e.2.2.2.1
  | .invokevirtual i => ab_cm own i 0 e.2.2.2.1
  | .invokestatic i => bif Nat.beq e.2.2.2.1.2.1 9 then decide (lw_tbl[e.2.2.2.1.2.2.2.2]? = some (.methodLink (ab_cn own) i arraycopyName)) else ab_cm own i 1 e.2.2.2.1
  | .goto d => decide ((e.1 : Int) + d = (e.2.2.2.1.2.1 : Int))
  | .ifCond _ d => decide ((e.1 : Int) + d = (e.2.2.2.1.2.1 : Int))
  | .if_icmp _ d => decide ((e.1 : Int) + d = (e.2.2.2.1.2.1 : Int))
  | .if_acmp _ d => decide ((e.1 : Int) + d = (e.2.2.2.1.2.1 : Int))
  | .tableswitch d lo hi offs => decide ((e.1 : Int) + d = (e.2.2.2.1.2.1 : Int)) && (decide (hi = lo + (offs.size : Int) - 1) && decide ((offs.toList.zipIdx.filter (fun q => !decide (q.1 = d))).map (fun q => (lo + (q.2 : Int), (e.1 : Int) + q.1)) = e.2.2.2.2.map (fun q => (q.1, (q.2 : Int)))))
  | .lookupswitch d ps => decide ((e.1 : Int) + d = (e.2.2.2.1.2.1 : Int)) && ((ps.toList.zip (ps.toList.drop 1)).all (fun (a, next) => a.1 < next.1) && decide (ps.toList.map (fun q => (q.1, (e.1 : Int) + q.2)) = e.2.2.2.2.map (fun q => (q.1, (q.2 : Int)))))
  | .ldc i => decide (lw_tbl[e.2.2.2.1.2.2.2.2]? = some (.constant (ab_cn own) i (Int32.ofInt e.2.2.2.1.1)))
  | .ldc_w i => decide (lw_tbl[e.2.2.2.1.2.2.2.2]? = some (.constant (ab_cn own) i (Int32.ofInt e.2.2.2.1.1)))
  | .ldc2_w i => decide (lw_tbl[e.2.2.2.1.2.2.2.2]? = some (.constantLong (ab_cn own) i (Int64.ofInt e.2.2.2.1.1)))
  | _ => true
def ab_ck (own : Nat) (cc : ByteArray) (e : ab_T) : Bool := decide (decode cc e.1 = .ok (e.2.1, e.2.2.1)) && ((Nat.beq (ab_len e.2.1) 0 || Nat.beq e.2.2.1 (ab_len e.2.1)) && ab_cr own e)
/-- rows one behind another -/
def ab_tb (own : Nat) (cc : ByteArray) : List ab_T → Bool
  | [] => true
  | [e] => ab_ck own cc e
  | e :: f :: t => ab_ck own cc e && (Nat.beq (e.1 + e.2.2.1) f.1 && ab_tb own cc (f :: t))
set_option maxRecDepth 100000 in
theorem ab_tk_sign : ab_tb 6 cX6_sign tb_X6_sign = true := by decide +kernel
set_option maxRecDepth 100000 in
theorem ab_tk_traverseStatement : ab_tb 0 cX0_traverseStatement tb_X0_traverseStatement = true := by decide +kernel
