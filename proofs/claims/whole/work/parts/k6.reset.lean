/-! the making: programs (written by a program but for the loop) -/
theorem ac_I.fr {p n a i : Nat} {M0 M M' : ab_M} {g : Nat → Int} (h : ac_I p n a i M0 g M) (hf : ∀ o, o < n → ∀ k, M' o k = M o k) (hp : p < n := by decide) (ha : a < n := by decide) : ac_I p n a i M0 g M' := by
  obtain ⟨h1, h2, h3, h4⟩ := h
  exact ⟨fun o ho k => (hf o (by omega) k).trans (h1 o ho k), fun k => (hf p hp k).trans (h2 k), fun j hj => (hf a ha j).trans (h3 j hj), fun o g1 g2 g3 k hk => (hf o g2 k).trans (h4 o g1 g2 g3 k hk)⟩
theorem ac_I.ext {p n n' a i : Nat} {M0 M : ab_M} {g : Nat → Int} (h : ac_I p n a i M0 g M) (_ : n ≤ n') (hd : ∀ o, n ≤ o → o < n' → ∀ k, ac_r o k = true → M o k = ac_T o k) : ac_I p n' a i M0 g M := by
  obtain ⟨h1, h2, h3, h4⟩ := h
  refine ⟨h1, h2, h3, fun o g1 g2 g3 k hk => ?_⟩
  by_cases e : o < n
  · exact h4 o g1 e g3 k hk
  · exact hd o (by omega) g2 k hk
theorem ac_I.kfc {p n N : Nat} {M0 M : ab_M} {g : Nat → Int} (h : ac_I p n p 0 M0 g M) (hN : ab_kd p < 20) (hnf : ab_nf (ab_kd p) = N) (hg : (List.range N).all (fun k => decide (g k = ac_T p k)) = true) : ac_KF p n M0 M := by
  refine h.kf fun k hk => ?_
  unfold ac_r ac_rc at hk
  rw [if_pos hN, hnf] at hk
  have hk' : k < N := by simpa using hk
  exact of_decide_eq_true (List.all_eq_true.mp hg k (List.mem_range.mpr hk'))
theorem fr_X4 {o : Nat} (M : ab_M) (_ : 0 < o) (_ : ab_kd o = 4) : ac_F o M (ch_X4 o (ac_nw M o)) := ((ac_F.rf o M).nw (Nat.le_refl _)).nw (by omega) |>.up (Nat.le_refl _) |>.nw (by omega) |>.up (Nat.le_refl _)
def ch_R388 (M : ab_M) : ab_M := ab_up (ab_up (ab_up (ab_up (ab_up (ab_up (ab_up (ab_up (ab_up (ab_up (ab_up (ab_up (ab_up (ab_up (ab_up (ab_up (ab_up (ab_up (ab_up (ab_up (ab_up (M) 388 0 ((0 : Nat) : Int)) 388 1 (-1 : Int)) 388 2 (-1 : Int)) 388 3 (-1 : Int)) 388 4 (-1 : Int)) 388 5 (-1 : Int)) 388 6 ((0 : Nat) : Int)) 388 7 ((0 : Nat) : Int)) 388 8 (-1 : Int)) 388 9 ((0 : Nat) : Int)) 388 10 (-1 : Int)) 388 11 (-1 : Int)) 388 14 (-1 : Int)) 389 0 (-1 : Int)) 390 0 (-1 : Int)) 389 1 (-1 : Int)) 390 1 (-1 : Int)) 388 15 ((120 : Nat) : Int)) 388 16 ((121 : Nat) : Int)) 388 17 ((120 : Nat) : Int)) 388 18 ((120 : Nat) : Int)
set_option maxRecDepth 20000 in
set_option maxHeartbeats 4000000 in
theorem mk_reset388 (E : ab_E) (M : ab_M) (hm12 : M 388 12 = ((389 : Nat) : Int)) (hm13 : M 388 13 = ((390 : Nat) : Int)) : ac_Ok E 1 57 0 0 [.inr (.inr (.inr (388, 4, 0))), .inr (.inl ((0 : Nat) : Int))] 391 391 (M) (fun M' => M' = ch_R388 M) := by
  refine ac_mk2 (q := (yX4_reset, cX4_reset, 3, none, 4, (268, 266, 267, 98), 0)) rfl rfl (Nat.le_of_ble_eq_true rfl) ?_
  intro p l e s m below meth c ls hC hN hr hP hl
  have hC : ab_Cx p s m _ meth c E cX4_reset 4 3 := hC
  obtain ⟨hx, hb, hml, hown, hts, hK, hlk, hsz⟩ := id hC
  have hl : lv_has ls 3 [(0, .ref (E.1 + 388)), (1, .int (Int32.ofInt ((0 : Nat) : Int)))] := hl
  have hS : va_S (fun q => E.1 ≤ q) s.heap s.heap [] := va_S.rf
  refine lv_aload_n hx hb (show decode cX4_reset 0 = .ok (.aload_n 0, 1) by decide +kernel) rfl (lv_at hl 0 rfl) ?_
  refine lv_iload_n hx hb (show decode cX4_reset 1 = .ok (.iload_n 1, 1) by decide +kernel) rfl (lv_at hl 1 rfl) ?_
  refine W.eq (g2 := F0 m 2 ls (ab_fv E.1 (ab_ft 4 0).1 ((0 : Nat) : Int) :: .ref (E.1 + 388) :: [])) rfl ?_
  refine ac_put hC (n := 391) (r := (0, 0, 4, 0, 153)) (show decode cX4_reset 2 = .ok (.putfield 18, 3) by decide +kernel) (by decide +kernel) (by decide) (by decide +kernel) (z := ((0 : Nat) : Int)) hP hS (by first | exact .inl (by decide +kernel) | exact .inr (.inl ⟨by decide +kernel, by decide⟩)) ⟨_, rfl, rfl⟩ (fun H1 locs1 hP1 hS1 => ?_)
  refine lv_aload_n hx hb (show decode cX4_reset 5 = .ok (.aload_n 0, 1) by decide +kernel) rfl (lv_at hl 0 rfl) ?_
  refine lv_iconst (v := Int32.ofInt (-1)) hx hb (show decode cX4_reset 6 = .ok (.iconst (-1), 1) by decide +kernel) (by decide) ?_
  refine W.eq (g2 := F0 m 7 ls (ab_fv E.1 (ab_ft 4 1).1 (-1 : Int) :: .ref (E.1 + 388) :: [])) rfl ?_
  refine ac_put hC (n := 391) (r := (0, 0, 4, 1, 158)) (show decode cX4_reset 7 = .ok (.putfield 22, 3) by decide +kernel) (by decide +kernel) (by decide) (by decide +kernel) (z := (-1 : Int)) hP1 hS1 (by first | exact .inl (by decide +kernel) | exact .inr (.inl ⟨by decide +kernel, by decide⟩)) ⟨_, rfl, rfl⟩ (fun H2 locs2 hP2 hS2 => ?_)
  refine lv_aload_n hx hb (show decode cX4_reset 10 = .ok (.aload_n 0, 1) by decide +kernel) rfl (lv_at hl 0 rfl) ?_
  refine lv_iconst (v := Int32.ofInt (-1)) hx hb (show decode cX4_reset 11 = .ok (.iconst (-1), 1) by decide +kernel) (by decide) ?_
  refine W.eq (g2 := F0 m 12 ls (ab_fv E.1 (ab_ft 4 2).1 (-1 : Int) :: .ref (E.1 + 388) :: [])) rfl ?_
  refine ac_put hC (n := 391) (r := (0, 0, 4, 2, 163)) (show decode cX4_reset 12 = .ok (.putfield 25, 3) by decide +kernel) (by decide +kernel) (by decide) (by decide +kernel) (z := (-1 : Int)) hP2 hS2 (by first | exact .inl (by decide +kernel) | exact .inr (.inl ⟨by decide +kernel, by decide⟩)) ⟨_, rfl, rfl⟩ (fun H3 locs3 hP3 hS3 => ?_)
  refine lv_aload_n hx hb (show decode cX4_reset 15 = .ok (.aload_n 0, 1) by decide +kernel) rfl (lv_at hl 0 rfl) ?_
  refine lv_iconst (v := Int32.ofInt (-1)) hx hb (show decode cX4_reset 16 = .ok (.iconst (-1), 1) by decide +kernel) (by decide) ?_
  refine W.eq (g2 := F0 m 17 ls (ab_fv E.1 (ab_ft 4 3).1 (-1 : Int) :: .ref (E.1 + 388) :: [])) rfl ?_
  refine ac_put hC (n := 391) (r := (0, 0, 4, 3, 168)) (show decode cX4_reset 17 = .ok (.putfield 28, 3) by decide +kernel) (by decide +kernel) (by decide) (by decide +kernel) (z := (-1 : Int)) hP3 hS3 (by first | exact .inl (by decide +kernel) | exact .inr (.inl ⟨by decide +kernel, by decide⟩)) ⟨_, rfl, rfl⟩ (fun H4 locs4 hP4 hS4 => ?_)
  refine lv_aload_n hx hb (show decode cX4_reset 20 = .ok (.aload_n 0, 1) by decide +kernel) rfl (lv_at hl 0 rfl) ?_
  refine lv_iconst (v := Int32.ofInt (-1)) hx hb (show decode cX4_reset 21 = .ok (.iconst (-1), 1) by decide +kernel) (by decide) ?_
  refine W.eq (g2 := F0 m 22 ls (ab_fv E.1 (ab_ft 4 4).1 (-1 : Int) :: .ref (E.1 + 388) :: [])) rfl ?_
  refine ac_put hC (n := 391) (r := (0, 0, 4, 4, 174)) (show decode cX4_reset 22 = .ok (.putfield 31, 3) by decide +kernel) (by decide +kernel) (by decide) (by decide +kernel) (z := (-1 : Int)) hP4 hS4 (by first | exact .inl (by decide +kernel) | exact .inr (.inl ⟨by decide +kernel, by decide⟩)) ⟨_, rfl, rfl⟩ (fun H5 locs5 hP5 hS5 => ?_)
  refine lv_aload_n hx hb (show decode cX4_reset 25 = .ok (.aload_n 0, 1) by decide +kernel) rfl (lv_at hl 0 rfl) ?_
  refine lv_iconst (v := Int32.ofInt (-1)) hx hb (show decode cX4_reset 26 = .ok (.iconst (-1), 1) by decide +kernel) (by decide) ?_
  refine W.eq (g2 := F0 m 27 ls (ab_fv E.1 (ab_ft 4 5).1 (-1 : Int) :: .ref (E.1 + 388) :: [])) rfl ?_
  refine ac_put hC (n := 391) (r := (0, 0, 4, 5, 178)) (show decode cX4_reset 27 = .ok (.putfield 34, 3) by decide +kernel) (by decide +kernel) (by decide) (by decide +kernel) (z := (-1 : Int)) hP5 hS5 (by first | exact .inl (by decide +kernel) | exact .inr (.inl ⟨by decide +kernel, by decide⟩)) ⟨_, rfl, rfl⟩ (fun H6 locs6 hP6 hS6 => ?_)
  refine lv_aload_n hx hb (show decode cX4_reset 30 = .ok (.aload_n 0, 1) by decide +kernel) rfl (lv_at hl 0 rfl) ?_
  refine lv_iconst (v := Int32.ofInt ((0 : Nat) : Int)) hx hb (show decode cX4_reset 31 = .ok (.iconst 0, 1) by decide +kernel) (by decide) ?_
  refine W.eq (g2 := F0 m 32 ls (ab_fv E.1 (ab_ft 4 6).1 ((0 : Nat) : Int) :: .ref (E.1 + 388) :: [])) rfl ?_
  refine ac_put hC (n := 391) (r := (0, 0, 4, 6, 183)) (show decode cX4_reset 32 = .ok (.putfield 37, 3) by decide +kernel) (by decide +kernel) (by decide) (by decide +kernel) (z := ((0 : Nat) : Int)) hP6 hS6 (by first | exact .inl (by decide +kernel) | exact .inr (.inl ⟨by decide +kernel, by decide⟩)) ⟨_, rfl, rfl⟩ (fun H7 locs7 hP7 hS7 => ?_)
  refine lv_aload_n hx hb (show decode cX4_reset 35 = .ok (.aload_n 0, 1) by decide +kernel) rfl (lv_at hl 0 rfl) ?_
  refine lv_iconst (v := Int32.ofInt ((0 : Nat) : Int)) hx hb (show decode cX4_reset 36 = .ok (.iconst 0, 1) by decide +kernel) (by decide) ?_
  refine W.eq (g2 := F0 m 37 ls (ab_fv E.1 (ab_ft 4 7).1 ((0 : Nat) : Int) :: .ref (E.1 + 388) :: [])) rfl ?_
  refine ac_put hC (n := 391) (r := (0, 0, 4, 7, 187)) (show decode cX4_reset 37 = .ok (.putfield 40, 3) by decide +kernel) (by decide +kernel) (by decide) (by decide +kernel) (z := ((0 : Nat) : Int)) hP7 hS7 (by first | exact .inl (by decide +kernel) | exact .inr (.inl ⟨by decide +kernel, by decide⟩)) ⟨_, rfl, rfl⟩ (fun H8 locs8 hP8 hS8 => ?_)
  refine lv_aload_n hx hb (show decode cX4_reset 40 = .ok (.aload_n 0, 1) by decide +kernel) rfl (lv_at hl 0 rfl) ?_
  refine lv_iconst (v := Int32.ofInt (-1)) hx hb (show decode cX4_reset 41 = .ok (.iconst (-1), 1) by decide +kernel) (by decide) ?_
  refine W.eq (g2 := F0 m 42 ls (ab_fv E.1 (ab_ft 4 8).1 (-1 : Int) :: .ref (E.1 + 388) :: [])) rfl ?_
  refine ac_put hC (n := 391) (r := (0, 0, 4, 8, 190)) (show decode cX4_reset 42 = .ok (.putfield 43, 3) by decide +kernel) (by decide +kernel) (by decide) (by decide +kernel) (z := (-1 : Int)) hP8 hS8 (by first | exact .inl (by decide +kernel) | exact .inr (.inl ⟨by decide +kernel, by decide⟩)) ⟨_, rfl, rfl⟩ (fun H9 locs9 hP9 hS9 => ?_)
  refine lv_aload_n hx hb (show decode cX4_reset 45 = .ok (.aload_n 0, 1) by decide +kernel) rfl (lv_at hl 0 rfl) ?_
  refine lv_iconst (v := Int32.ofInt ((0 : Nat) : Int)) hx hb (show decode cX4_reset 46 = .ok (.iconst 0, 1) by decide +kernel) (by decide) ?_
  refine W.eq (g2 := F0 m 47 ls (ab_fv E.1 (ab_ft 4 9).1 ((0 : Nat) : Int) :: .ref (E.1 + 388) :: [])) rfl ?_
  refine ac_put hC (n := 391) (r := (0, 0, 4, 9, 193)) (show decode cX4_reset 47 = .ok (.putfield 46, 3) by decide +kernel) (by decide +kernel) (by decide) (by decide +kernel) (z := ((0 : Nat) : Int)) hP9 hS9 (by first | exact .inl (by decide +kernel) | exact .inr (.inl ⟨by decide +kernel, by decide⟩)) ⟨_, rfl, rfl⟩ (fun H10 locs10 hP10 hS10 => ?_)
  refine lv_aload_n hx hb (show decode cX4_reset 50 = .ok (.aload_n 0, 1) by decide +kernel) rfl (lv_at hl 0 rfl) ?_
  refine lv_iconst (v := Int32.ofInt (-1)) hx hb (show decode cX4_reset 51 = .ok (.iconst (-1), 1) by decide +kernel) (by decide) ?_
  refine W.eq (g2 := F0 m 52 ls (ab_fv E.1 (ab_ft 4 10).1 (-1 : Int) :: .ref (E.1 + 388) :: [])) rfl ?_
  refine ac_put hC (n := 391) (r := (0, 0, 4, 10, 196)) (show decode cX4_reset 52 = .ok (.putfield 49, 3) by decide +kernel) (by decide +kernel) (by decide) (by decide +kernel) (z := (-1 : Int)) hP10 hS10 (by first | exact .inl (by decide +kernel) | exact .inr (.inl ⟨by decide +kernel, by decide⟩)) ⟨_, rfl, rfl⟩ (fun H11 locs11 hP11 hS11 => ?_)
  refine lv_aload_n hx hb (show decode cX4_reset 55 = .ok (.aload_n 0, 1) by decide +kernel) rfl (lv_at hl 0 rfl) ?_
  refine lv_iconst (v := Int32.ofInt (-1)) hx hb (show decode cX4_reset 56 = .ok (.iconst (-1), 1) by decide +kernel) (by decide) ?_
  refine W.eq (g2 := F0 m 57 ls (ab_fv E.1 (ab_ft 4 11).1 (-1 : Int) :: .ref (E.1 + 388) :: [])) rfl ?_
  refine ac_put hC (n := 391) (r := (0, 0, 4, 11, 200)) (show decode cX4_reset 57 = .ok (.putfield 52, 3) by decide +kernel) (by decide +kernel) (by decide) (by decide +kernel) (z := (-1 : Int)) hP11 hS11 (by first | exact .inl (by decide +kernel) | exact .inr (.inl ⟨by decide +kernel, by decide⟩)) ⟨_, rfl, rfl⟩ (fun H12 locs12 hP12 hS12 => ?_)
  refine lv_aload_n hx hb (show decode cX4_reset 60 = .ok (.aload_n 0, 1) by decide +kernel) rfl (lv_at hl 0 rfl) ?_
  refine lv_iconst (v := Int32.ofInt (-1)) hx hb (show decode cX4_reset 61 = .ok (.iconst (-1), 1) by decide +kernel) (by decide) ?_
  refine W.eq (g2 := F0 m 62 ls (ab_fv E.1 (ab_ft 4 14).1 (-1 : Int) :: .ref (E.1 + 388) :: [])) rfl ?_
  refine ac_put hC (n := 391) (r := (0, 0, 4, 14, 210)) (show decode cX4_reset 62 = .ok (.putfield 55, 3) by decide +kernel) (by decide +kernel) (by decide) (by decide +kernel) (z := (-1 : Int)) hP12 hS12 (by first | exact .inl (by decide +kernel) | exact .inr (.inl ⟨by decide +kernel, by decide⟩)) ⟨_, rfl, rfl⟩ (fun H13 locs13 hP13 hS13 => ?_)
  refine lv_iconst (v := Int32.ofInt ((0 : Nat) : Int)) hx hb (show decode cX4_reset 65 = .ok (.iconst 0, 1) by decide +kernel) (by decide) ?_
  refine lv_istore_n (lv' := [(2, .int (Int32.ofInt ((0 : Nat) : Int))), (0, .ref (E.1 + 388)), (1, .int (Int32.ofInt ((0 : Nat) : Int)))]) hx hb (show decode cX4_reset 66 = .ok (.istore_n 2, 1) by decide +kernel) rfl hl (by decide) rfl (fun ls hl => ?_)
  refine lv_iload_n hx hb (show decode cX4_reset 67 = .ok (.iload_n 2, 1) by decide +kernel) rfl (lv_at hl 0 rfl) ?_
  refine lv_iconst (v := Int32.ofInt ((2 : Nat) : Int)) hx hb (show decode cX4_reset 68 = .ok (.iconst 2, 1) by decide +kernel) (by decide) ?_
  refine lv_icmp_ge (tgt := 92) hx hb (show decode cX4_reset 69 = .ok (.if_icmp .ge 23, 3) by decide +kernel) (by decide) (fun cq => ?_) (fun cq => ?_)
  · exact absurd cq (by decide)
  refine lv_aload_n hx hb (show decode cX4_reset 72 = .ok (.aload_n 0, 1) by decide +kernel) rfl (lv_at hl 1 rfl) ?_
  refine ac_rdr hC (n := 391) (r := (0, 0, 4, 12, 203)) (show decode cX4_reset 73 = .ok (.getfield 9, 3) by decide +kernel) (by decide +kernel) (o := 388) (o' := 389) (by decide) (by decide +kernel) (by decide +kernel) (by exact hm12) hP13 ?_
  refine lv_iload_n hx hb (show decode cX4_reset 76 = .ok (.iload_n 2, 1) by decide +kernel) rfl (lv_at hl 0 rfl) ?_
  refine lv_iconst (v := Int32.ofInt (-1)) hx hb (show decode cX4_reset 77 = .ok (.iconst (-1), 1) by decide +kernel) (by decide) ?_
  refine ac_iast hC (n := 391) (o := 389) (i := 0) (z := (-1 : Int)) (by decide +kernel) (by decide) (by decide) (by decide +kernel) (show decode cX4_reset 78 = .ok (.iastore, 1) by decide +kernel) hP13 hS13 (fun H14 locs14 hP14 hS14 => ?_)
  refine lv_aload_n hx hb (show decode cX4_reset 79 = .ok (.aload_n 0, 1) by decide +kernel) rfl (lv_at hl 1 rfl) ?_
  refine ac_rdr hC (n := 391) (r := (0, 0, 4, 13, 207)) (show decode cX4_reset 80 = .ok (.getfield 15, 3) by decide +kernel) (by decide +kernel) (o := 388) (o' := 390) (by decide) (by decide +kernel) (by decide +kernel) (by exact hm13) hP14 ?_
  refine lv_iload_n hx hb (show decode cX4_reset 83 = .ok (.iload_n 2, 1) by decide +kernel) rfl (lv_at hl 0 rfl) ?_
  refine lv_iconst (v := Int32.ofInt (-1)) hx hb (show decode cX4_reset 84 = .ok (.iconst (-1), 1) by decide +kernel) (by decide) ?_
  refine ac_iast hC (n := 391) (o := 390) (i := 0) (z := (-1 : Int)) (by decide +kernel) (by decide) (by decide) (by decide +kernel) (show decode cX4_reset 85 = .ok (.iastore, 1) by decide +kernel) hP14 hS14 (fun H15 locs15 hP15 hS15 => ?_)
  refine lv_iinc (v := Int32.ofInt ((1 : Nat) : Int)) (lv' := [(2, .int (Int32.ofInt ((1 : Nat) : Int))), (0, .ref (E.1 + 388)), (1, .int (Int32.ofInt ((0 : Nat) : Int)))]) hx hb (show decode cX4_reset 86 = .ok (.iinc 2 1, 3) by decide +kernel) hl (k := 0) rfl (by decide) (by decide) rfl (fun ls hl => ?_)
  refine lv_goto (tgt := 67) hx hb (show decode cX4_reset 89 = .ok (.goto (-22), 3) by decide +kernel) (by decide) ?_
  refine lv_iload_n hx hb (show decode cX4_reset 67 = .ok (.iload_n 2, 1) by decide +kernel) rfl (lv_at hl 0 rfl) ?_
  refine lv_iconst (v := Int32.ofInt ((2 : Nat) : Int)) hx hb (show decode cX4_reset 68 = .ok (.iconst 2, 1) by decide +kernel) (by decide) ?_
  refine lv_icmp_ge (tgt := 92) hx hb (show decode cX4_reset 69 = .ok (.if_icmp .ge 23, 3) by decide +kernel) (by decide) (fun cq => ?_) (fun cq => ?_)
  · exact absurd cq (by decide)
  refine lv_aload_n hx hb (show decode cX4_reset 72 = .ok (.aload_n 0, 1) by decide +kernel) rfl (lv_at hl 1 rfl) ?_
  refine ac_rdr hC (n := 391) (r := (0, 0, 4, 12, 203)) (show decode cX4_reset 73 = .ok (.getfield 9, 3) by decide +kernel) (by decide +kernel) (o := 388) (o' := 389) (by decide) (by decide +kernel) (by decide +kernel) (by exact hm12) hP15 ?_
  refine lv_iload_n hx hb (show decode cX4_reset 76 = .ok (.iload_n 2, 1) by decide +kernel) rfl (lv_at hl 0 rfl) ?_
  refine lv_iconst (v := Int32.ofInt (-1)) hx hb (show decode cX4_reset 77 = .ok (.iconst (-1), 1) by decide +kernel) (by decide) ?_
  refine ac_iast hC (n := 391) (o := 389) (i := 1) (z := (-1 : Int)) (by decide +kernel) (by decide) (by decide) (by decide +kernel) (show decode cX4_reset 78 = .ok (.iastore, 1) by decide +kernel) hP15 hS15 (fun H16 locs16 hP16 hS16 => ?_)
  refine lv_aload_n hx hb (show decode cX4_reset 79 = .ok (.aload_n 0, 1) by decide +kernel) rfl (lv_at hl 1 rfl) ?_
  refine ac_rdr hC (n := 391) (r := (0, 0, 4, 13, 207)) (show decode cX4_reset 80 = .ok (.getfield 15, 3) by decide +kernel) (by decide +kernel) (o := 388) (o' := 390) (by decide) (by decide +kernel) (by decide +kernel) (by exact hm13) hP16 ?_
  refine lv_iload_n hx hb (show decode cX4_reset 83 = .ok (.iload_n 2, 1) by decide +kernel) rfl (lv_at hl 0 rfl) ?_
  refine lv_iconst (v := Int32.ofInt (-1)) hx hb (show decode cX4_reset 84 = .ok (.iconst (-1), 1) by decide +kernel) (by decide) ?_
  refine ac_iast hC (n := 391) (o := 390) (i := 1) (z := (-1 : Int)) (by decide +kernel) (by decide) (by decide) (by decide +kernel) (show decode cX4_reset 85 = .ok (.iastore, 1) by decide +kernel) hP16 hS16 (fun H17 locs17 hP17 hS17 => ?_)
  refine lv_iinc (v := Int32.ofInt ((2 : Nat) : Int)) (lv' := [(2, .int (Int32.ofInt ((2 : Nat) : Int))), (0, .ref (E.1 + 388)), (1, .int (Int32.ofInt ((0 : Nat) : Int)))]) hx hb (show decode cX4_reset 86 = .ok (.iinc 2 1, 3) by decide +kernel) hl (k := 0) rfl (by decide) (by decide) rfl (fun ls hl => ?_)
  refine lv_goto (tgt := 67) hx hb (show decode cX4_reset 89 = .ok (.goto (-22), 3) by decide +kernel) (by decide) ?_
  refine lv_iload_n hx hb (show decode cX4_reset 67 = .ok (.iload_n 2, 1) by decide +kernel) rfl (lv_at hl 0 rfl) ?_
  refine lv_iconst (v := Int32.ofInt ((2 : Nat) : Int)) hx hb (show decode cX4_reset 68 = .ok (.iconst 2, 1) by decide +kernel) (by decide) ?_
  refine lv_icmp_ge (tgt := 92) hx hb (show decode cX4_reset 69 = .ok (.if_icmp .ge 23, 3) by decide +kernel) (by decide) (fun cq => ?_) (fun cq => ?_)
  rotate_left
  · exact absurd (by decide) cq
  refine lv_aload_n hx hb (show decode cX4_reset 92 = .ok (.aload_n 0, 1) by decide +kernel) rfl (lv_at hl 1 rfl) ?_
  refine lv_bipush (v := Int32.ofInt ((120 : Nat) : Int)) hx hb (show decode cX4_reset 93 = .ok (.bipush 120, 2) by decide +kernel) (by decide) ?_
  refine W.eq (g2 := F0 m 95 ls (ab_fv E.1 (ab_ft 4 15).1 ((120 : Nat) : Int) :: .ref (E.1 + 388) :: [])) rfl ?_
  refine ac_put hC (n := 391) (r := (0, 0, 4, 15, 213)) (show decode cX4_reset 95 = .ok (.putfield 58, 3) by decide +kernel) (by decide +kernel) (by decide) (by decide +kernel) (z := ((120 : Nat) : Int)) hP17 hS17 (by first | exact .inl (by decide +kernel) | exact .inr (.inl ⟨by decide +kernel, by decide⟩)) ⟨_, rfl, rfl⟩ (fun H18 locs18 hP18 hS18 => ?_)
  refine lv_aload_n hx hb (show decode cX4_reset 98 = .ok (.aload_n 0, 1) by decide +kernel) rfl (lv_at hl 1 rfl) ?_
  refine lv_bipush (v := Int32.ofInt ((121 : Nat) : Int)) hx hb (show decode cX4_reset 99 = .ok (.bipush 121, 2) by decide +kernel) (by decide) ?_
  refine W.eq (g2 := F0 m 101 ls (ab_fv E.1 (ab_ft 4 16).1 ((121 : Nat) : Int) :: .ref (E.1 + 388) :: [])) rfl ?_
  refine ac_put hC (n := 391) (r := (0, 0, 4, 16, 215)) (show decode cX4_reset 101 = .ok (.putfield 61, 3) by decide +kernel) (by decide +kernel) (by decide) (by decide +kernel) (z := ((121 : Nat) : Int)) hP18 hS18 (by first | exact .inl (by decide +kernel) | exact .inr (.inl ⟨by decide +kernel, by decide⟩)) ⟨_, rfl, rfl⟩ (fun H19 locs19 hP19 hS19 => ?_)
  refine lv_aload_n hx hb (show decode cX4_reset 104 = .ok (.aload_n 0, 1) by decide +kernel) rfl (lv_at hl 1 rfl) ?_
  refine lv_bipush (v := Int32.ofInt ((120 : Nat) : Int)) hx hb (show decode cX4_reset 105 = .ok (.bipush 120, 2) by decide +kernel) (by decide) ?_
  refine W.eq (g2 := F0 m 107 ls (ab_fv E.1 (ab_ft 4 17).1 ((120 : Nat) : Int) :: .ref (E.1 + 388) :: [])) rfl ?_
  refine ac_put hC (n := 391) (r := (0, 0, 4, 17, 217)) (show decode cX4_reset 107 = .ok (.putfield 64, 3) by decide +kernel) (by decide +kernel) (by decide) (by decide +kernel) (z := ((120 : Nat) : Int)) hP19 hS19 (by first | exact .inl (by decide +kernel) | exact .inr (.inl ⟨by decide +kernel, by decide⟩)) ⟨_, rfl, rfl⟩ (fun H20 locs20 hP20 hS20 => ?_)
  refine lv_aload_n hx hb (show decode cX4_reset 110 = .ok (.aload_n 0, 1) by decide +kernel) rfl (lv_at hl 1 rfl) ?_
  refine lv_bipush (v := Int32.ofInt ((120 : Nat) : Int)) hx hb (show decode cX4_reset 111 = .ok (.bipush 120, 2) by decide +kernel) (by decide) ?_
  refine W.eq (g2 := F0 m 113 ls (ab_fv E.1 (ab_ft 4 18).1 ((120 : Nat) : Int) :: .ref (E.1 + 388) :: [])) rfl ?_
  refine ac_put hC (n := 391) (r := (0, 0, 4, 18, 221)) (show decode cX4_reset 113 = .ok (.putfield 67, 3) by decide +kernel) (by decide +kernel) (by decide) (by decide +kernel) (z := ((120 : Nat) : Int)) hP20 hS20 (by first | exact .inl (by decide +kernel) | exact .inr (.inl ⟨by decide +kernel, by decide⟩)) ⟨_, rfl, rfl⟩ (fun H21 locs21 hP21 hS21 => ?_)
  exact ac_ret hC hr (show decode cX4_reset 116 = .ok (.return_, 1) by decide +kernel) hP21 hS21 rfl (Nat.le_of_ble_eq_true rfl) (Nat.le_of_ble_eq_true rfl)
theorem fr_reset388 (M : ab_M) : ac_F 388 M (ch_R388 M) := (ac_F.rf 388 M).up (by decide) |>.up (by decide) |>.up (by decide) |>.up (by decide) |>.up (by decide) |>.up (by decide) |>.up (by decide) |>.up (by decide) |>.up (by decide) |>.up (by decide) |>.up (by decide) |>.up (by decide) |>.up (by decide) |>.up (by decide) |>.up (by decide) |>.up (by decide) |>.up (by decide) |>.up (by decide) |>.up (by decide) |>.up (by decide) |>.up (by decide)
set_option maxRecDepth 20000 in
theorem kf_N388 (M : ab_M) : ∀ o', 388 ≤ o' → o' < 391 → ∀ k, ac_r o' k = true → (ch_R388 (ab_up (ch_X4 388 (ac_nw M 388)) 26 2 ((388 : Nat) : Int))) o' k = ac_T o' k := by
  intro o' g1 g2 k hk
  have hQ : ∀ M1 M2, ac_Q 388 391 ((fun M => ch_R388 (ab_up (ch_X4 388 (ac_nw M 388)) 26 2 ((388 : Nat) : Int))) M1) ((fun M => ch_R388 (ab_up (ch_X4 388 (ac_nw M 388)) 26 2 ((388 : Nat) : Int))) M2) := fun M1 M2 => (ac_Q.rf 388 M1 M2).nw |>.nw |>.up |>.nw |>.up |>.up |>.up |>.up |>.up |>.up |>.up |>.up |>.up |>.up |>.up |>.up |>.up |>.up |>.up |>.up |>.up |>.up |>.up |>.up |>.up |>.up |>.up
  rcases (show o' = 388 ∨ o' = 389 ∨ o' = 390 by omega) with rfl | rfl | rfl
  · have hk2 := (show ac_rc (ab_kd 388) 388 k = true from hk)
    rw [show ab_kd 388 = 4 by decide +kernel] at hk2
    have hk3 : k < 19 := by
      unfold ac_rc at hk2
      rw [if_pos (by decide)] at hk2
      have : k < ab_nf 4 := by simpa using hk2
      exact this
    refine (hQ M (fun _ _ => 0) 388 (by decide) (by decide) k).trans ?_
    exact of_decide_eq_true (List.all_eq_true.mp (show (List.range 19).all (fun k => decide ((fun M => ch_R388 (ab_up (ch_X4 388 (ac_nw M 388)) 26 2 ((388 : Nat) : Int))) (fun _ _ => 0) 388 k = ac_T 388 k)) = true by decide +kernel) k (List.mem_range.mpr hk3))
  · have hk2 := (show ac_rc (ab_kd 389) 389 k = true from hk)
    rw [show ab_kd 389 = 20 by decide +kernel] at hk2
    exact absurd hk2 (by unfold ac_rc; rw [if_neg (by decide), if_neg (by decide)]; decide)
  · have hk2 := (show ac_rc (ab_kd 390) 390 k = true from hk)
    rw [show ab_kd 390 = 20 by decide +kernel] at hk2
    exact absurd hk2 (by unfold ac_rc; rw [if_neg (by decide), if_neg (by decide)]; decide)
def ch_R757 (M : ab_M) : ab_M := ab_up (ab_up (ab_up (ab_up (ab_up (ab_up (ab_up (ab_up (ab_up (ab_up (ab_up (ab_up (ab_up (ab_up (ab_up (ab_up (ab_up (ab_up (ab_up (ab_up (ab_up (M) 757 0 ((0 : Nat) : Int)) 757 1 (-1 : Int)) 757 2 (-1 : Int)) 757 3 (-1 : Int)) 757 4 (-1 : Int)) 757 5 (-1 : Int)) 757 6 ((0 : Nat) : Int)) 757 7 ((0 : Nat) : Int)) 757 8 (-1 : Int)) 757 9 ((0 : Nat) : Int)) 757 10 (-1 : Int)) 757 11 (-1 : Int)) 757 14 (-1 : Int)) 758 0 (-1 : Int)) 759 0 (-1 : Int)) 758 1 (-1 : Int)) 759 1 (-1 : Int)) 757 15 ((120 : Nat) : Int)) 757 16 ((121 : Nat) : Int)) 757 17 ((120 : Nat) : Int)) 757 18 ((120 : Nat) : Int)
set_option maxRecDepth 20000 in
set_option maxHeartbeats 4000000 in
theorem mk_reset757 (E : ab_E) (M : ab_M) (hm12 : M 757 12 = ((758 : Nat) : Int)) (hm13 : M 757 13 = ((759 : Nat) : Int)) : ac_Ok E 1 57 0 0 [.inr (.inr (.inr (757, 4, 0))), .inr (.inl ((0 : Nat) : Int))] 760 760 (M) (fun M' => M' = ch_R757 M) := by
  refine ac_mk2 (q := (yX4_reset, cX4_reset, 3, none, 4, (268, 266, 267, 98), 0)) rfl rfl (Nat.le_of_ble_eq_true rfl) ?_
  intro p l e s m below meth c ls hC hN hr hP hl
  have hC : ab_Cx p s m _ meth c E cX4_reset 4 3 := hC
  obtain ⟨hx, hb, hml, hown, hts, hK, hlk, hsz⟩ := id hC
  have hl : lv_has ls 3 [(0, .ref (E.1 + 757)), (1, .int (Int32.ofInt ((0 : Nat) : Int)))] := hl
  have hS : va_S (fun q => E.1 ≤ q) s.heap s.heap [] := va_S.rf
  refine lv_aload_n hx hb (show decode cX4_reset 0 = .ok (.aload_n 0, 1) by decide +kernel) rfl (lv_at hl 0 rfl) ?_
  refine lv_iload_n hx hb (show decode cX4_reset 1 = .ok (.iload_n 1, 1) by decide +kernel) rfl (lv_at hl 1 rfl) ?_
  refine W.eq (g2 := F0 m 2 ls (ab_fv E.1 (ab_ft 4 0).1 ((0 : Nat) : Int) :: .ref (E.1 + 757) :: [])) rfl ?_
  refine ac_put hC (n := 760) (r := (0, 0, 4, 0, 153)) (show decode cX4_reset 2 = .ok (.putfield 18, 3) by decide +kernel) (by decide +kernel) (by decide) (by decide +kernel) (z := ((0 : Nat) : Int)) hP hS (by first | exact .inl (by decide +kernel) | exact .inr (.inl ⟨by decide +kernel, by decide⟩)) ⟨_, rfl, rfl⟩ (fun H1 locs1 hP1 hS1 => ?_)
  refine lv_aload_n hx hb (show decode cX4_reset 5 = .ok (.aload_n 0, 1) by decide +kernel) rfl (lv_at hl 0 rfl) ?_
  refine lv_iconst (v := Int32.ofInt (-1)) hx hb (show decode cX4_reset 6 = .ok (.iconst (-1), 1) by decide +kernel) (by decide) ?_
  refine W.eq (g2 := F0 m 7 ls (ab_fv E.1 (ab_ft 4 1).1 (-1 : Int) :: .ref (E.1 + 757) :: [])) rfl ?_
  refine ac_put hC (n := 760) (r := (0, 0, 4, 1, 158)) (show decode cX4_reset 7 = .ok (.putfield 22, 3) by decide +kernel) (by decide +kernel) (by decide) (by decide +kernel) (z := (-1 : Int)) hP1 hS1 (by first | exact .inl (by decide +kernel) | exact .inr (.inl ⟨by decide +kernel, by decide⟩)) ⟨_, rfl, rfl⟩ (fun H2 locs2 hP2 hS2 => ?_)
  refine lv_aload_n hx hb (show decode cX4_reset 10 = .ok (.aload_n 0, 1) by decide +kernel) rfl (lv_at hl 0 rfl) ?_
  refine lv_iconst (v := Int32.ofInt (-1)) hx hb (show decode cX4_reset 11 = .ok (.iconst (-1), 1) by decide +kernel) (by decide) ?_
  refine W.eq (g2 := F0 m 12 ls (ab_fv E.1 (ab_ft 4 2).1 (-1 : Int) :: .ref (E.1 + 757) :: [])) rfl ?_
  refine ac_put hC (n := 760) (r := (0, 0, 4, 2, 163)) (show decode cX4_reset 12 = .ok (.putfield 25, 3) by decide +kernel) (by decide +kernel) (by decide) (by decide +kernel) (z := (-1 : Int)) hP2 hS2 (by first | exact .inl (by decide +kernel) | exact .inr (.inl ⟨by decide +kernel, by decide⟩)) ⟨_, rfl, rfl⟩ (fun H3 locs3 hP3 hS3 => ?_)
  refine lv_aload_n hx hb (show decode cX4_reset 15 = .ok (.aload_n 0, 1) by decide +kernel) rfl (lv_at hl 0 rfl) ?_
  refine lv_iconst (v := Int32.ofInt (-1)) hx hb (show decode cX4_reset 16 = .ok (.iconst (-1), 1) by decide +kernel) (by decide) ?_
  refine W.eq (g2 := F0 m 17 ls (ab_fv E.1 (ab_ft 4 3).1 (-1 : Int) :: .ref (E.1 + 757) :: [])) rfl ?_
  refine ac_put hC (n := 760) (r := (0, 0, 4, 3, 168)) (show decode cX4_reset 17 = .ok (.putfield 28, 3) by decide +kernel) (by decide +kernel) (by decide) (by decide +kernel) (z := (-1 : Int)) hP3 hS3 (by first | exact .inl (by decide +kernel) | exact .inr (.inl ⟨by decide +kernel, by decide⟩)) ⟨_, rfl, rfl⟩ (fun H4 locs4 hP4 hS4 => ?_)
  refine lv_aload_n hx hb (show decode cX4_reset 20 = .ok (.aload_n 0, 1) by decide +kernel) rfl (lv_at hl 0 rfl) ?_
  refine lv_iconst (v := Int32.ofInt (-1)) hx hb (show decode cX4_reset 21 = .ok (.iconst (-1), 1) by decide +kernel) (by decide) ?_
  refine W.eq (g2 := F0 m 22 ls (ab_fv E.1 (ab_ft 4 4).1 (-1 : Int) :: .ref (E.1 + 757) :: [])) rfl ?_
  refine ac_put hC (n := 760) (r := (0, 0, 4, 4, 174)) (show decode cX4_reset 22 = .ok (.putfield 31, 3) by decide +kernel) (by decide +kernel) (by decide) (by decide +kernel) (z := (-1 : Int)) hP4 hS4 (by first | exact .inl (by decide +kernel) | exact .inr (.inl ⟨by decide +kernel, by decide⟩)) ⟨_, rfl, rfl⟩ (fun H5 locs5 hP5 hS5 => ?_)
  refine lv_aload_n hx hb (show decode cX4_reset 25 = .ok (.aload_n 0, 1) by decide +kernel) rfl (lv_at hl 0 rfl) ?_
  refine lv_iconst (v := Int32.ofInt (-1)) hx hb (show decode cX4_reset 26 = .ok (.iconst (-1), 1) by decide +kernel) (by decide) ?_
  refine W.eq (g2 := F0 m 27 ls (ab_fv E.1 (ab_ft 4 5).1 (-1 : Int) :: .ref (E.1 + 757) :: [])) rfl ?_
  refine ac_put hC (n := 760) (r := (0, 0, 4, 5, 178)) (show decode cX4_reset 27 = .ok (.putfield 34, 3) by decide +kernel) (by decide +kernel) (by decide) (by decide +kernel) (z := (-1 : Int)) hP5 hS5 (by first | exact .inl (by decide +kernel) | exact .inr (.inl ⟨by decide +kernel, by decide⟩)) ⟨_, rfl, rfl⟩ (fun H6 locs6 hP6 hS6 => ?_)
  refine lv_aload_n hx hb (show decode cX4_reset 30 = .ok (.aload_n 0, 1) by decide +kernel) rfl (lv_at hl 0 rfl) ?_
  refine lv_iconst (v := Int32.ofInt ((0 : Nat) : Int)) hx hb (show decode cX4_reset 31 = .ok (.iconst 0, 1) by decide +kernel) (by decide) ?_
  refine W.eq (g2 := F0 m 32 ls (ab_fv E.1 (ab_ft 4 6).1 ((0 : Nat) : Int) :: .ref (E.1 + 757) :: [])) rfl ?_
  refine ac_put hC (n := 760) (r := (0, 0, 4, 6, 183)) (show decode cX4_reset 32 = .ok (.putfield 37, 3) by decide +kernel) (by decide +kernel) (by decide) (by decide +kernel) (z := ((0 : Nat) : Int)) hP6 hS6 (by first | exact .inl (by decide +kernel) | exact .inr (.inl ⟨by decide +kernel, by decide⟩)) ⟨_, rfl, rfl⟩ (fun H7 locs7 hP7 hS7 => ?_)
  refine lv_aload_n hx hb (show decode cX4_reset 35 = .ok (.aload_n 0, 1) by decide +kernel) rfl (lv_at hl 0 rfl) ?_
  refine lv_iconst (v := Int32.ofInt ((0 : Nat) : Int)) hx hb (show decode cX4_reset 36 = .ok (.iconst 0, 1) by decide +kernel) (by decide) ?_
  refine W.eq (g2 := F0 m 37 ls (ab_fv E.1 (ab_ft 4 7).1 ((0 : Nat) : Int) :: .ref (E.1 + 757) :: [])) rfl ?_
  refine ac_put hC (n := 760) (r := (0, 0, 4, 7, 187)) (show decode cX4_reset 37 = .ok (.putfield 40, 3) by decide +kernel) (by decide +kernel) (by decide) (by decide +kernel) (z := ((0 : Nat) : Int)) hP7 hS7 (by first | exact .inl (by decide +kernel) | exact .inr (.inl ⟨by decide +kernel, by decide⟩)) ⟨_, rfl, rfl⟩ (fun H8 locs8 hP8 hS8 => ?_)
  refine lv_aload_n hx hb (show decode cX4_reset 40 = .ok (.aload_n 0, 1) by decide +kernel) rfl (lv_at hl 0 rfl) ?_
  refine lv_iconst (v := Int32.ofInt (-1)) hx hb (show decode cX4_reset 41 = .ok (.iconst (-1), 1) by decide +kernel) (by decide) ?_
  refine W.eq (g2 := F0 m 42 ls (ab_fv E.1 (ab_ft 4 8).1 (-1 : Int) :: .ref (E.1 + 757) :: [])) rfl ?_
  refine ac_put hC (n := 760) (r := (0, 0, 4, 8, 190)) (show decode cX4_reset 42 = .ok (.putfield 43, 3) by decide +kernel) (by decide +kernel) (by decide) (by decide +kernel) (z := (-1 : Int)) hP8 hS8 (by first | exact .inl (by decide +kernel) | exact .inr (.inl ⟨by decide +kernel, by decide⟩)) ⟨_, rfl, rfl⟩ (fun H9 locs9 hP9 hS9 => ?_)
  refine lv_aload_n hx hb (show decode cX4_reset 45 = .ok (.aload_n 0, 1) by decide +kernel) rfl (lv_at hl 0 rfl) ?_
  refine lv_iconst (v := Int32.ofInt ((0 : Nat) : Int)) hx hb (show decode cX4_reset 46 = .ok (.iconst 0, 1) by decide +kernel) (by decide) ?_
  refine W.eq (g2 := F0 m 47 ls (ab_fv E.1 (ab_ft 4 9).1 ((0 : Nat) : Int) :: .ref (E.1 + 757) :: [])) rfl ?_
  refine ac_put hC (n := 760) (r := (0, 0, 4, 9, 193)) (show decode cX4_reset 47 = .ok (.putfield 46, 3) by decide +kernel) (by decide +kernel) (by decide) (by decide +kernel) (z := ((0 : Nat) : Int)) hP9 hS9 (by first | exact .inl (by decide +kernel) | exact .inr (.inl ⟨by decide +kernel, by decide⟩)) ⟨_, rfl, rfl⟩ (fun H10 locs10 hP10 hS10 => ?_)
  refine lv_aload_n hx hb (show decode cX4_reset 50 = .ok (.aload_n 0, 1) by decide +kernel) rfl (lv_at hl 0 rfl) ?_
  refine lv_iconst (v := Int32.ofInt (-1)) hx hb (show decode cX4_reset 51 = .ok (.iconst (-1), 1) by decide +kernel) (by decide) ?_
  refine W.eq (g2 := F0 m 52 ls (ab_fv E.1 (ab_ft 4 10).1 (-1 : Int) :: .ref (E.1 + 757) :: [])) rfl ?_
  refine ac_put hC (n := 760) (r := (0, 0, 4, 10, 196)) (show decode cX4_reset 52 = .ok (.putfield 49, 3) by decide +kernel) (by decide +kernel) (by decide) (by decide +kernel) (z := (-1 : Int)) hP10 hS10 (by first | exact .inl (by decide +kernel) | exact .inr (.inl ⟨by decide +kernel, by decide⟩)) ⟨_, rfl, rfl⟩ (fun H11 locs11 hP11 hS11 => ?_)
  refine lv_aload_n hx hb (show decode cX4_reset 55 = .ok (.aload_n 0, 1) by decide +kernel) rfl (lv_at hl 0 rfl) ?_
  refine lv_iconst (v := Int32.ofInt (-1)) hx hb (show decode cX4_reset 56 = .ok (.iconst (-1), 1) by decide +kernel) (by decide) ?_
  refine W.eq (g2 := F0 m 57 ls (ab_fv E.1 (ab_ft 4 11).1 (-1 : Int) :: .ref (E.1 + 757) :: [])) rfl ?_
  refine ac_put hC (n := 760) (r := (0, 0, 4, 11, 200)) (show decode cX4_reset 57 = .ok (.putfield 52, 3) by decide +kernel) (by decide +kernel) (by decide) (by decide +kernel) (z := (-1 : Int)) hP11 hS11 (by first | exact .inl (by decide +kernel) | exact .inr (.inl ⟨by decide +kernel, by decide⟩)) ⟨_, rfl, rfl⟩ (fun H12 locs12 hP12 hS12 => ?_)
  refine lv_aload_n hx hb (show decode cX4_reset 60 = .ok (.aload_n 0, 1) by decide +kernel) rfl (lv_at hl 0 rfl) ?_
  refine lv_iconst (v := Int32.ofInt (-1)) hx hb (show decode cX4_reset 61 = .ok (.iconst (-1), 1) by decide +kernel) (by decide) ?_
  refine W.eq (g2 := F0 m 62 ls (ab_fv E.1 (ab_ft 4 14).1 (-1 : Int) :: .ref (E.1 + 757) :: [])) rfl ?_
  refine ac_put hC (n := 760) (r := (0, 0, 4, 14, 210)) (show decode cX4_reset 62 = .ok (.putfield 55, 3) by decide +kernel) (by decide +kernel) (by decide) (by decide +kernel) (z := (-1 : Int)) hP12 hS12 (by first | exact .inl (by decide +kernel) | exact .inr (.inl ⟨by decide +kernel, by decide⟩)) ⟨_, rfl, rfl⟩ (fun H13 locs13 hP13 hS13 => ?_)
  refine lv_iconst (v := Int32.ofInt ((0 : Nat) : Int)) hx hb (show decode cX4_reset 65 = .ok (.iconst 0, 1) by decide +kernel) (by decide) ?_
  refine lv_istore_n (lv' := [(2, .int (Int32.ofInt ((0 : Nat) : Int))), (0, .ref (E.1 + 757)), (1, .int (Int32.ofInt ((0 : Nat) : Int)))]) hx hb (show decode cX4_reset 66 = .ok (.istore_n 2, 1) by decide +kernel) rfl hl (by decide) rfl (fun ls hl => ?_)
  refine lv_iload_n hx hb (show decode cX4_reset 67 = .ok (.iload_n 2, 1) by decide +kernel) rfl (lv_at hl 0 rfl) ?_
  refine lv_iconst (v := Int32.ofInt ((2 : Nat) : Int)) hx hb (show decode cX4_reset 68 = .ok (.iconst 2, 1) by decide +kernel) (by decide) ?_
  refine lv_icmp_ge (tgt := 92) hx hb (show decode cX4_reset 69 = .ok (.if_icmp .ge 23, 3) by decide +kernel) (by decide) (fun cq => ?_) (fun cq => ?_)
  · exact absurd cq (by decide)
  refine lv_aload_n hx hb (show decode cX4_reset 72 = .ok (.aload_n 0, 1) by decide +kernel) rfl (lv_at hl 1 rfl) ?_
  refine ac_rdr hC (n := 760) (r := (0, 0, 4, 12, 203)) (show decode cX4_reset 73 = .ok (.getfield 9, 3) by decide +kernel) (by decide +kernel) (o := 757) (o' := 758) (by decide) (by decide +kernel) (by decide +kernel) (by exact hm12) hP13 ?_
  refine lv_iload_n hx hb (show decode cX4_reset 76 = .ok (.iload_n 2, 1) by decide +kernel) rfl (lv_at hl 0 rfl) ?_
  refine lv_iconst (v := Int32.ofInt (-1)) hx hb (show decode cX4_reset 77 = .ok (.iconst (-1), 1) by decide +kernel) (by decide) ?_
  refine ac_iast hC (n := 760) (o := 758) (i := 0) (z := (-1 : Int)) (by decide +kernel) (by decide) (by decide) (by decide +kernel) (show decode cX4_reset 78 = .ok (.iastore, 1) by decide +kernel) hP13 hS13 (fun H14 locs14 hP14 hS14 => ?_)
  refine lv_aload_n hx hb (show decode cX4_reset 79 = .ok (.aload_n 0, 1) by decide +kernel) rfl (lv_at hl 1 rfl) ?_
  refine ac_rdr hC (n := 760) (r := (0, 0, 4, 13, 207)) (show decode cX4_reset 80 = .ok (.getfield 15, 3) by decide +kernel) (by decide +kernel) (o := 757) (o' := 759) (by decide) (by decide +kernel) (by decide +kernel) (by exact hm13) hP14 ?_
  refine lv_iload_n hx hb (show decode cX4_reset 83 = .ok (.iload_n 2, 1) by decide +kernel) rfl (lv_at hl 0 rfl) ?_
  refine lv_iconst (v := Int32.ofInt (-1)) hx hb (show decode cX4_reset 84 = .ok (.iconst (-1), 1) by decide +kernel) (by decide) ?_
  refine ac_iast hC (n := 760) (o := 759) (i := 0) (z := (-1 : Int)) (by decide +kernel) (by decide) (by decide) (by decide +kernel) (show decode cX4_reset 85 = .ok (.iastore, 1) by decide +kernel) hP14 hS14 (fun H15 locs15 hP15 hS15 => ?_)
  refine lv_iinc (v := Int32.ofInt ((1 : Nat) : Int)) (lv' := [(2, .int (Int32.ofInt ((1 : Nat) : Int))), (0, .ref (E.1 + 757)), (1, .int (Int32.ofInt ((0 : Nat) : Int)))]) hx hb (show decode cX4_reset 86 = .ok (.iinc 2 1, 3) by decide +kernel) hl (k := 0) rfl (by decide) (by decide) rfl (fun ls hl => ?_)
  refine lv_goto (tgt := 67) hx hb (show decode cX4_reset 89 = .ok (.goto (-22), 3) by decide +kernel) (by decide) ?_
  refine lv_iload_n hx hb (show decode cX4_reset 67 = .ok (.iload_n 2, 1) by decide +kernel) rfl (lv_at hl 0 rfl) ?_
  refine lv_iconst (v := Int32.ofInt ((2 : Nat) : Int)) hx hb (show decode cX4_reset 68 = .ok (.iconst 2, 1) by decide +kernel) (by decide) ?_
  refine lv_icmp_ge (tgt := 92) hx hb (show decode cX4_reset 69 = .ok (.if_icmp .ge 23, 3) by decide +kernel) (by decide) (fun cq => ?_) (fun cq => ?_)
  · exact absurd cq (by decide)
  refine lv_aload_n hx hb (show decode cX4_reset 72 = .ok (.aload_n 0, 1) by decide +kernel) rfl (lv_at hl 1 rfl) ?_
  refine ac_rdr hC (n := 760) (r := (0, 0, 4, 12, 203)) (show decode cX4_reset 73 = .ok (.getfield 9, 3) by decide +kernel) (by decide +kernel) (o := 757) (o' := 758) (by decide) (by decide +kernel) (by decide +kernel) (by exact hm12) hP15 ?_
  refine lv_iload_n hx hb (show decode cX4_reset 76 = .ok (.iload_n 2, 1) by decide +kernel) rfl (lv_at hl 0 rfl) ?_
  refine lv_iconst (v := Int32.ofInt (-1)) hx hb (show decode cX4_reset 77 = .ok (.iconst (-1), 1) by decide +kernel) (by decide) ?_
  refine ac_iast hC (n := 760) (o := 758) (i := 1) (z := (-1 : Int)) (by decide +kernel) (by decide) (by decide) (by decide +kernel) (show decode cX4_reset 78 = .ok (.iastore, 1) by decide +kernel) hP15 hS15 (fun H16 locs16 hP16 hS16 => ?_)
  refine lv_aload_n hx hb (show decode cX4_reset 79 = .ok (.aload_n 0, 1) by decide +kernel) rfl (lv_at hl 1 rfl) ?_
  refine ac_rdr hC (n := 760) (r := (0, 0, 4, 13, 207)) (show decode cX4_reset 80 = .ok (.getfield 15, 3) by decide +kernel) (by decide +kernel) (o := 757) (o' := 759) (by decide) (by decide +kernel) (by decide +kernel) (by exact hm13) hP16 ?_
  refine lv_iload_n hx hb (show decode cX4_reset 83 = .ok (.iload_n 2, 1) by decide +kernel) rfl (lv_at hl 0 rfl) ?_
  refine lv_iconst (v := Int32.ofInt (-1)) hx hb (show decode cX4_reset 84 = .ok (.iconst (-1), 1) by decide +kernel) (by decide) ?_
  refine ac_iast hC (n := 760) (o := 759) (i := 1) (z := (-1 : Int)) (by decide +kernel) (by decide) (by decide) (by decide +kernel) (show decode cX4_reset 85 = .ok (.iastore, 1) by decide +kernel) hP16 hS16 (fun H17 locs17 hP17 hS17 => ?_)
  refine lv_iinc (v := Int32.ofInt ((2 : Nat) : Int)) (lv' := [(2, .int (Int32.ofInt ((2 : Nat) : Int))), (0, .ref (E.1 + 757)), (1, .int (Int32.ofInt ((0 : Nat) : Int)))]) hx hb (show decode cX4_reset 86 = .ok (.iinc 2 1, 3) by decide +kernel) hl (k := 0) rfl (by decide) (by decide) rfl (fun ls hl => ?_)
  refine lv_goto (tgt := 67) hx hb (show decode cX4_reset 89 = .ok (.goto (-22), 3) by decide +kernel) (by decide) ?_
  refine lv_iload_n hx hb (show decode cX4_reset 67 = .ok (.iload_n 2, 1) by decide +kernel) rfl (lv_at hl 0 rfl) ?_
  refine lv_iconst (v := Int32.ofInt ((2 : Nat) : Int)) hx hb (show decode cX4_reset 68 = .ok (.iconst 2, 1) by decide +kernel) (by decide) ?_
  refine lv_icmp_ge (tgt := 92) hx hb (show decode cX4_reset 69 = .ok (.if_icmp .ge 23, 3) by decide +kernel) (by decide) (fun cq => ?_) (fun cq => ?_)
  rotate_left
  · exact absurd (by decide) cq
  refine lv_aload_n hx hb (show decode cX4_reset 92 = .ok (.aload_n 0, 1) by decide +kernel) rfl (lv_at hl 1 rfl) ?_
  refine lv_bipush (v := Int32.ofInt ((120 : Nat) : Int)) hx hb (show decode cX4_reset 93 = .ok (.bipush 120, 2) by decide +kernel) (by decide) ?_
  refine W.eq (g2 := F0 m 95 ls (ab_fv E.1 (ab_ft 4 15).1 ((120 : Nat) : Int) :: .ref (E.1 + 757) :: [])) rfl ?_
  refine ac_put hC (n := 760) (r := (0, 0, 4, 15, 213)) (show decode cX4_reset 95 = .ok (.putfield 58, 3) by decide +kernel) (by decide +kernel) (by decide) (by decide +kernel) (z := ((120 : Nat) : Int)) hP17 hS17 (by first | exact .inl (by decide +kernel) | exact .inr (.inl ⟨by decide +kernel, by decide⟩)) ⟨_, rfl, rfl⟩ (fun H18 locs18 hP18 hS18 => ?_)
  refine lv_aload_n hx hb (show decode cX4_reset 98 = .ok (.aload_n 0, 1) by decide +kernel) rfl (lv_at hl 1 rfl) ?_
  refine lv_bipush (v := Int32.ofInt ((121 : Nat) : Int)) hx hb (show decode cX4_reset 99 = .ok (.bipush 121, 2) by decide +kernel) (by decide) ?_
  refine W.eq (g2 := F0 m 101 ls (ab_fv E.1 (ab_ft 4 16).1 ((121 : Nat) : Int) :: .ref (E.1 + 757) :: [])) rfl ?_
  refine ac_put hC (n := 760) (r := (0, 0, 4, 16, 215)) (show decode cX4_reset 101 = .ok (.putfield 61, 3) by decide +kernel) (by decide +kernel) (by decide) (by decide +kernel) (z := ((121 : Nat) : Int)) hP18 hS18 (by first | exact .inl (by decide +kernel) | exact .inr (.inl ⟨by decide +kernel, by decide⟩)) ⟨_, rfl, rfl⟩ (fun H19 locs19 hP19 hS19 => ?_)
  refine lv_aload_n hx hb (show decode cX4_reset 104 = .ok (.aload_n 0, 1) by decide +kernel) rfl (lv_at hl 1 rfl) ?_
  refine lv_bipush (v := Int32.ofInt ((120 : Nat) : Int)) hx hb (show decode cX4_reset 105 = .ok (.bipush 120, 2) by decide +kernel) (by decide) ?_
  refine W.eq (g2 := F0 m 107 ls (ab_fv E.1 (ab_ft 4 17).1 ((120 : Nat) : Int) :: .ref (E.1 + 757) :: [])) rfl ?_
  refine ac_put hC (n := 760) (r := (0, 0, 4, 17, 217)) (show decode cX4_reset 107 = .ok (.putfield 64, 3) by decide +kernel) (by decide +kernel) (by decide) (by decide +kernel) (z := ((120 : Nat) : Int)) hP19 hS19 (by first | exact .inl (by decide +kernel) | exact .inr (.inl ⟨by decide +kernel, by decide⟩)) ⟨_, rfl, rfl⟩ (fun H20 locs20 hP20 hS20 => ?_)
  refine lv_aload_n hx hb (show decode cX4_reset 110 = .ok (.aload_n 0, 1) by decide +kernel) rfl (lv_at hl 1 rfl) ?_
  refine lv_bipush (v := Int32.ofInt ((120 : Nat) : Int)) hx hb (show decode cX4_reset 111 = .ok (.bipush 120, 2) by decide +kernel) (by decide) ?_
  refine W.eq (g2 := F0 m 113 ls (ab_fv E.1 (ab_ft 4 18).1 ((120 : Nat) : Int) :: .ref (E.1 + 757) :: [])) rfl ?_
  refine ac_put hC (n := 760) (r := (0, 0, 4, 18, 221)) (show decode cX4_reset 113 = .ok (.putfield 67, 3) by decide +kernel) (by decide +kernel) (by decide) (by decide +kernel) (z := ((120 : Nat) : Int)) hP20 hS20 (by first | exact .inl (by decide +kernel) | exact .inr (.inl ⟨by decide +kernel, by decide⟩)) ⟨_, rfl, rfl⟩ (fun H21 locs21 hP21 hS21 => ?_)
  exact ac_ret hC hr (show decode cX4_reset 116 = .ok (.return_, 1) by decide +kernel) hP21 hS21 rfl (Nat.le_of_ble_eq_true rfl) (Nat.le_of_ble_eq_true rfl)
theorem fr_reset757 (M : ab_M) : ac_F 757 M (ch_R757 M) := (ac_F.rf 757 M).up (by decide) |>.up (by decide) |>.up (by decide) |>.up (by decide) |>.up (by decide) |>.up (by decide) |>.up (by decide) |>.up (by decide) |>.up (by decide) |>.up (by decide) |>.up (by decide) |>.up (by decide) |>.up (by decide) |>.up (by decide) |>.up (by decide) |>.up (by decide) |>.up (by decide) |>.up (by decide) |>.up (by decide) |>.up (by decide) |>.up (by decide)
set_option maxRecDepth 20000 in
theorem kf_N757 (M : ab_M) : ∀ o', 757 ≤ o' → o' < 760 → ∀ k, ac_r o' k = true → (ch_R757 (ab_up (ch_X4 757 (ac_nw M 757)) 395 2 ((757 : Nat) : Int))) o' k = ac_T o' k := by
  intro o' g1 g2 k hk
  have hQ : ∀ M1 M2, ac_Q 757 760 ((fun M => ch_R757 (ab_up (ch_X4 757 (ac_nw M 757)) 395 2 ((757 : Nat) : Int))) M1) ((fun M => ch_R757 (ab_up (ch_X4 757 (ac_nw M 757)) 395 2 ((757 : Nat) : Int))) M2) := fun M1 M2 => (ac_Q.rf 757 M1 M2).nw |>.nw |>.up |>.nw |>.up |>.up |>.up |>.up |>.up |>.up |>.up |>.up |>.up |>.up |>.up |>.up |>.up |>.up |>.up |>.up |>.up |>.up |>.up |>.up |>.up |>.up |>.up
  rcases (show o' = 757 ∨ o' = 758 ∨ o' = 759 by omega) with rfl | rfl | rfl
  · have hk2 := (show ac_rc (ab_kd 757) 757 k = true from hk)
    rw [show ab_kd 757 = 4 by decide +kernel] at hk2
    have hk3 : k < 19 := by
      unfold ac_rc at hk2
      rw [if_pos (by decide)] at hk2
      have : k < ab_nf 4 := by simpa using hk2
      exact this
    refine (hQ M (fun _ _ => 0) 757 (by decide) (by decide) k).trans ?_
    exact of_decide_eq_true (List.all_eq_true.mp (show (List.range 19).all (fun k => decide ((fun M => ch_R757 (ab_up (ch_X4 757 (ac_nw M 757)) 395 2 ((757 : Nat) : Int))) (fun _ _ => 0) 757 k = ac_T 757 k)) = true by decide +kernel) k (List.mem_range.mpr hk3))
  · have hk2 := (show ac_rc (ab_kd 758) 758 k = true from hk)
    rw [show ab_kd 758 = 20 by decide +kernel] at hk2
    exact absurd hk2 (by unfold ac_rc; rw [if_neg (by decide), if_neg (by decide)]; decide)
  · have hk2 := (show ac_rc (ab_kd 759) 759 k = true from hk)
    rw [show ab_kd 759 = 20 by decide +kernel] at hk2
    exact absurd hk2 (by unfold ac_rc; rw [if_neg (by decide), if_neg (by decide)]; decide)
