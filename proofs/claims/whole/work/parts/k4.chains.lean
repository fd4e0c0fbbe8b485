/-! the making: what straight constructors leave (written by a program) -/
def ch_X7 (o g : Nat) (M : ab_M) : ab_M := ab_up (ac_nw (ab_up (ac_nw (ab_up (M) o 0 ((g : Nat) : Int)) (o + 1)) o 1 ((o + 1 : Nat) : Int)) (o + 2)) o 2 ((o + 2 : Nat) : Int)
set_option maxRecDepth 20000 in
set_option maxHeartbeats 1000000 in
theorem kf_X7 (M : ab_M) : ac_KF 769 772 M (ch_X7 769 26 (ac_nw M 769)) := by
  have h0 : ab_kd 769 < 20 := by decide +kernel
  refine ac_KF_of (o := 769) (n := 772) (C := fun M => ch_X7 769 26 (ac_nw M 769)) ?_ ?_ ?_ (by decide +kernel) M
  · intro M
    exact (ac_F.rf 769 M).nw (Nat.le_refl _) |>.up (Nat.le_refl _) |>.nw (by decide) |>.up (Nat.le_refl _) |>.nw (by decide) |>.up (Nat.le_refl _)
  · intro M1 M2
    exact (ac_Q.rf 769 M1 M2).nw |>.up |>.nw |>.up |>.nw |>.up
  · exact (ac_Z.rf 769 _).nw |>.up h0 |>.nw |>.up h0 |>.nw |>.up h0
def ch_X5 (o g v : Nat) (M : ab_M) : ab_M := ab_up (ac_nw (ab_up (ab_up (M) o 0 ((g : Nat) : Int)) o 1 ((v : Nat) : Int)) (o + 1)) o 2 ((o + 1 : Nat) : Int)
set_option maxRecDepth 20000 in
set_option maxHeartbeats 1000000 in
theorem kf_X5 (M : ab_M) : ac_KF 772 774 M (ch_X5 772 26 769 (ac_nw M 772)) := by
  have h0 : ab_kd 772 < 20 := by decide +kernel
  refine ac_KF_of (o := 772) (n := 774) (C := fun M => ch_X5 772 26 769 (ac_nw M 772)) ?_ ?_ ?_ (by decide +kernel) M
  · intro M
    exact (ac_F.rf 772 M).nw (Nat.le_refl _) |>.up (Nat.le_refl _) |>.up (Nat.le_refl _) |>.nw (by decide) |>.up (Nat.le_refl _)
  · intro M1 M2
    exact (ac_Q.rf 772 M1 M2).nw |>.up |>.up |>.nw |>.up
  · exact (ac_Z.rf 772 _).nw |>.up h0 |>.up h0 |>.nw |>.up h0
def ch_X12 (o g v z : Nat) (M : ab_M) : ab_M := ab_up (ab_up (ab_up (ac_nw (ab_up (ac_nw (ab_up (ac_nw (ab_up (ac_nw (ab_up (ab_up (M) o 0 ((g : Nat) : Int)) o 1 ((v : Nat) : Int)) (o + 1)) o 2 ((o + 1 : Nat) : Int)) (o + 2)) o 3 ((o + 2 : Nat) : Int)) (o + 3)) o 4 ((o + 3 : Nat) : Int)) (o + 4)) o 5 ((o + 4 : Nat) : Int)) o 6 ((z : Nat) : Int)) o 9 (-1 : Int)
set_option maxRecDepth 20000 in
set_option maxHeartbeats 1000000 in
theorem kf_X12 (M : ab_M) : ac_KF 775 780 M (ch_X12 775 26 772 774 (ac_nw M 775)) := by
  have h0 : ab_kd 775 < 20 := by decide +kernel
  refine ac_KF_of (o := 775) (n := 780) (C := fun M => ch_X12 775 26 772 774 (ac_nw M 775)) ?_ ?_ ?_ (by decide +kernel) M
  · intro M
    exact (ac_F.rf 775 M).nw (Nat.le_refl _) |>.up (Nat.le_refl _) |>.up (Nat.le_refl _) |>.nw (by decide) |>.up (Nat.le_refl _) |>.nw (by decide) |>.up (Nat.le_refl _) |>.nw (by decide) |>.up (Nat.le_refl _) |>.nw (by decide) |>.up (Nat.le_refl _) |>.up (Nat.le_refl _) |>.up (Nat.le_refl _)
  · intro M1 M2
    exact (ac_Q.rf 775 M1 M2).nw |>.up |>.up |>.nw |>.up |>.nw |>.up |>.nw |>.up |>.nw |>.up |>.up |>.up
  · exact (ac_Z.rf 775 _).nw |>.up h0 |>.up h0 |>.nw |>.up h0 |>.nw |>.up h0 |>.nw |>.up h0 |>.nw |>.up h0 |>.up h0 |>.up h0
def ch_X10 (o g v z w : Nat) (M : ab_M) : ab_M := ab_up (ab_up (ab_up (ab_up (M) o 0 ((g : Nat) : Int)) o 1 ((v : Nat) : Int)) o 2 ((z : Nat) : Int)) o 3 ((w : Nat) : Int)
set_option maxRecDepth 20000 in
set_option maxHeartbeats 1000000 in
theorem kf_X10 (M : ab_M) : ac_KF 780 781 M (ch_X10 780 26 769 772 774 (ac_nw M 780)) := by
  have h0 : ab_kd 780 < 20 := by decide +kernel
  refine ac_KF_of (o := 780) (n := 781) (C := fun M => ch_X10 780 26 769 772 774 (ac_nw M 780)) ?_ ?_ ?_ (by decide +kernel) M
  · intro M
    exact (ac_F.rf 780 M).nw (Nat.le_refl _) |>.up (Nat.le_refl _) |>.up (Nat.le_refl _) |>.up (Nat.le_refl _) |>.up (Nat.le_refl _)
  · intro M1 M2
    exact (ac_Q.rf 780 M1 M2).nw |>.up |>.up |>.up |>.up
  · exact (ac_Z.rf 780 _).nw |>.up h0 |>.up h0 |>.up h0 |>.up h0
def ch_X11 (o v : Nat) (M : ab_M) : ab_M := ab_up (ac_nw (ab_up (ac_nw (ab_up (ac_nw (ab_up (M) o 0 ((v : Nat) : Int)) (o + 1)) o 1 ((o + 1 : Nat) : Int)) (o + 2)) o 2 ((o + 2 : Nat) : Int)) (o + 3)) o 3 ((o + 3 : Nat) : Int)
set_option maxRecDepth 20000 in
set_option maxHeartbeats 1000000 in
theorem kf_X11 (M : ab_M) : ac_KF 781 785 M (ch_X11 781 769 (ac_nw M 781)) := by
  have h0 : ab_kd 781 < 20 := by decide +kernel
  refine ac_KF_of (o := 781) (n := 785) (C := fun M => ch_X11 781 769 (ac_nw M 781)) ?_ ?_ ?_ (by decide +kernel) M
  · intro M
    exact (ac_F.rf 781 M).nw (Nat.le_refl _) |>.up (Nat.le_refl _) |>.nw (by decide) |>.up (Nat.le_refl _) |>.nw (by decide) |>.up (Nat.le_refl _) |>.nw (by decide) |>.up (Nat.le_refl _)
  · intro M1 M2
    exact (ac_Q.rf 781 M1 M2).nw |>.up |>.nw |>.up |>.nw |>.up |>.nw |>.up
  · exact (ac_Z.rf 781 _).nw |>.up h0 |>.nw |>.up h0 |>.nw |>.up h0 |>.nw |>.up h0
def ch_X0 (o g : Nat) (M : ab_M) : ab_M := ab_up (ac_nw (ab_up (ac_nw (ab_up (ac_nw (ab_up (ac_nw (ab_up (M) o 0 ((g : Nat) : Int)) (o + 1)) o 1 ((o + 1 : Nat) : Int)) (o + 2)) o 4 ((o + 2 : Nat) : Int)) (o + 3)) o 5 ((o + 3 : Nat) : Int)) (o + 4)) o 6 ((o + 4 : Nat) : Int)
set_option maxRecDepth 20000 in
set_option maxHeartbeats 1000000 in
theorem kf_X0 (M : ab_M) : ac_KF 790 795 M (ch_X0 790 26 (ac_nw M 790)) := by
  have h0 : ab_kd 790 < 20 := by decide +kernel
  refine ac_KF_of (o := 790) (n := 795) (C := fun M => ch_X0 790 26 (ac_nw M 790)) ?_ ?_ ?_ (by decide +kernel) M
  · intro M
    exact (ac_F.rf 790 M).nw (Nat.le_refl _) |>.up (Nat.le_refl _) |>.nw (by decide) |>.up (Nat.le_refl _) |>.nw (by decide) |>.up (Nat.le_refl _) |>.nw (by decide) |>.up (Nat.le_refl _) |>.nw (by decide) |>.up (Nat.le_refl _)
  · intro M1 M2
    exact (ac_Q.rf 790 M1 M2).nw |>.up |>.nw |>.up |>.nw |>.up |>.nw |>.up |>.nw |>.up
  · exact (ac_Z.rf 790 _).nw |>.up h0 |>.nw |>.up h0 |>.nw |>.up h0 |>.nw |>.up h0 |>.nw |>.up h0
def ch_X9 (o : Nat) (M : ab_M) : ab_M := ab_up (ab_up (ac_nw (ab_up (ac_nw (ab_up (ac_nw (ab_up (ac_nw (ab_up (ac_nw (ab_up (ac_nw (ab_up (ac_nw (ab_up (ac_nw (ab_up (ac_nw (ab_up (ac_nw (ab_up (ac_nw (ab_up (ac_nw (ab_up (ac_nw (ab_up (ac_nw (ab_up (ac_nw (ab_up (ac_nw (ab_up (ac_nw (ab_up (ac_nw (ab_up (ac_nw (ab_up (ac_nw (ab_up (ac_nw (ab_up (ac_nw (ab_up (ac_nw (ab_up (ac_nw (ab_up (ac_nw (ab_up (ac_nw (ab_up (ac_nw (ab_up (ac_nw (ab_up (ac_nw (ab_up (ac_nw (ab_up (ac_nw (ab_up (ac_nw (ab_up (ab_up (ab_up (ac_nw (ab_up (ac_nw (ab_up (ac_nw (ab_up (ac_nw (ab_up (ac_nw (ab_up (ac_nw (ab_up (ac_nw (ab_up (ac_nw (ab_up (ac_nw (ab_up (ac_nw (ab_up (ac_nw (ab_up (ac_nw (ab_up (ac_nw (ab_up (ac_nw (ab_up (ac_nw (ab_up (ac_nw (ab_up (ac_nw (ab_up (ac_nw (M) (o + 1)) o 0 ((o + 1 : Nat) : Int)) (o + 2)) o 1 ((o + 2 : Nat) : Int)) (o + 3)) o 3 ((o + 3 : Nat) : Int)) (o + 4)) o 4 ((o + 4 : Nat) : Int)) (o + 5)) o 5 ((o + 5 : Nat) : Int)) (o + 6)) o 7 ((o + 6 : Nat) : Int)) (o + 7)) o 8 ((o + 7 : Nat) : Int)) (o + 8)) o 11 ((o + 8 : Nat) : Int)) (o + 9)) o 12 ((o + 9 : Nat) : Int)) (o + 10)) o 13 ((o + 10 : Nat) : Int)) (o + 11)) o 14 ((o + 11 : Nat) : Int)) (o + 12)) o 15 ((o + 12 : Nat) : Int)) (o + 13)) o 16 ((o + 13 : Nat) : Int)) (o + 14)) o 17 ((o + 14 : Nat) : Int)) (o + 15)) o 18 ((o + 15 : Nat) : Int)) (o + 16)) o 22 ((o + 16 : Nat) : Int)) (o + 17)) o 23 ((o + 17 : Nat) : Int)) (o + 18)) o 26 ((o + 18 : Nat) : Int)) o 28 (1 : Int)) o 29 (-9 : Int)) (o + 19)) o 30 ((o + 19 : Nat) : Int)) (o + 20)) o 32 ((o + 20 : Nat) : Int)) (o + 21)) o 34 ((o + 21 : Nat) : Int)) (o + 22)) o 35 ((o + 22 : Nat) : Int)) (o + 23)) o 36 ((o + 23 : Nat) : Int)) (o + 24)) o 37 ((o + 24 : Nat) : Int)) (o + 25)) o 38 ((o + 25 : Nat) : Int)) (o + 26)) o 39 ((o + 26 : Nat) : Int)) (o + 27)) o 40 ((o + 27 : Nat) : Int)) (o + 28)) o 41 ((o + 28 : Nat) : Int)) (o + 29)) o 42 ((o + 29 : Nat) : Int)) (o + 30)) o 43 ((o + 30 : Nat) : Int)) (o + 31)) o 45 ((o + 31 : Nat) : Int)) (o + 32)) o 50 ((o + 32 : Nat) : Int)) (o + 33)) o 51 ((o + 33 : Nat) : Int)) (o + 34)) o 52 ((o + 34 : Nat) : Int)) (o + 35)) o 53 ((o + 35 : Nat) : Int)) (o + 36)) o 54 ((o + 36 : Nat) : Int)) (o + 37)) o 55 ((o + 37 : Nat) : Int)) (o + 38)) o 56 ((o + 38 : Nat) : Int)) (o + 39)) o 60 ((o + 39 : Nat) : Int)) (o + 40)) o 61 ((o + 40 : Nat) : Int)) (o + 41)) o 62 ((o + 41 : Nat) : Int)) (o + 42)) o 63 ((o + 42 : Nat) : Int)) (o + 43)) o 64 ((o + 43 : Nat) : Int)) (o + 44)) o 65 ((o + 44 : Nat) : Int)) (o + 45)) o 67 ((o + 45 : Nat) : Int)) (o + 46)) o 68 ((o + 46 : Nat) : Int)) (o + 47)) o 69 ((o + 47 : Nat) : Int)) (o + 48)) o 70 ((o + 48 : Nat) : Int)) (o + 49)) o 72 ((o + 49 : Nat) : Int)) (o + 50)) o 73 ((o + 50 : Nat) : Int)) o 2 (0 : Int)
set_option maxRecDepth 20000 in
set_option maxHeartbeats 1000000 in
theorem kf_X9 (M : ab_M) : ac_KF 797 848 M (ch_X9 797 (ac_nw M 797)) := by
  have h0 : ab_kd 797 < 20 := by decide +kernel
  refine ac_KF_of (o := 797) (n := 848) (C := fun M => ch_X9 797 (ac_nw M 797)) ?_ ?_ ?_ (by decide +kernel) M
  · intro M
    exact (ac_F.rf 797 M).nw (Nat.le_refl _) |>.nw (by decide) |>.up (Nat.le_refl _) |>.nw (by decide) |>.up (Nat.le_refl _) |>.nw (by decide) |>.up (Nat.le_refl _) |>.nw (by decide) |>.up (Nat.le_refl _) |>.nw (by decide) |>.up (Nat.le_refl _) |>.nw (by decide) |>.up (Nat.le_refl _) |>.nw (by decide) |>.up (Nat.le_refl _) |>.nw (by decide) |>.up (Nat.le_refl _) |>.nw (by decide) |>.up (Nat.le_refl _) |>.nw (by decide) |>.up (Nat.le_refl _) |>.nw (by decide) |>.up (Nat.le_refl _) |>.nw (by decide) |>.up (Nat.le_refl _) |>.nw (by decide) |>.up (Nat.le_refl _) |>.nw (by decide) |>.up (Nat.le_refl _) |>.nw (by decide) |>.up (Nat.le_refl _) |>.nw (by decide) |>.up (Nat.le_refl _) |>.nw (by decide) |>.up (Nat.le_refl _) |>.nw (by decide) |>.up (Nat.le_refl _) |>.up (Nat.le_refl _) |>.up (Nat.le_refl _) |>.nw (by decide) |>.up (Nat.le_refl _) |>.nw (by decide) |>.up (Nat.le_refl _) |>.nw (by decide) |>.up (Nat.le_refl _) |>.nw (by decide) |>.up (Nat.le_refl _) |>.nw (by decide) |>.up (Nat.le_refl _) |>.nw (by decide) |>.up (Nat.le_refl _) |>.nw (by decide) |>.up (Nat.le_refl _) |>.nw (by decide) |>.up (Nat.le_refl _) |>.nw (by decide) |>.up (Nat.le_refl _) |>.nw (by decide) |>.up (Nat.le_refl _) |>.nw (by decide) |>.up (Nat.le_refl _) |>.nw (by decide) |>.up (Nat.le_refl _) |>.nw (by decide) |>.up (Nat.le_refl _) |>.nw (by decide) |>.up (Nat.le_refl _) |>.nw (by decide) |>.up (Nat.le_refl _) |>.nw (by decide) |>.up (Nat.le_refl _) |>.nw (by decide) |>.up (Nat.le_refl _) |>.nw (by decide) |>.up (Nat.le_refl _) |>.nw (by decide) |>.up (Nat.le_refl _) |>.nw (by decide) |>.up (Nat.le_refl _) |>.nw (by decide) |>.up (Nat.le_refl _) |>.nw (by decide) |>.up (Nat.le_refl _) |>.nw (by decide) |>.up (Nat.le_refl _) |>.nw (by decide) |>.up (Nat.le_refl _) |>.nw (by decide) |>.up (Nat.le_refl _) |>.nw (by decide) |>.up (Nat.le_refl _) |>.nw (by decide) |>.up (Nat.le_refl _) |>.nw (by decide) |>.up (Nat.le_refl _) |>.nw (by decide) |>.up (Nat.le_refl _) |>.nw (by decide) |>.up (Nat.le_refl _) |>.nw (by decide) |>.up (Nat.le_refl _) |>.nw (by decide) |>.up (Nat.le_refl _) |>.up (Nat.le_refl _)
  · intro M1 M2
    exact (ac_Q.rf 797 M1 M2).nw |>.nw |>.up |>.nw |>.up |>.nw |>.up |>.nw |>.up |>.nw |>.up |>.nw |>.up |>.nw |>.up |>.nw |>.up |>.nw |>.up |>.nw |>.up |>.nw |>.up |>.nw |>.up |>.nw |>.up |>.nw |>.up |>.nw |>.up |>.nw |>.up |>.nw |>.up |>.nw |>.up |>.up |>.up |>.nw |>.up |>.nw |>.up |>.nw |>.up |>.nw |>.up |>.nw |>.up |>.nw |>.up |>.nw |>.up |>.nw |>.up |>.nw |>.up |>.nw |>.up |>.nw |>.up |>.nw |>.up |>.nw |>.up |>.nw |>.up |>.nw |>.up |>.nw |>.up |>.nw |>.up |>.nw |>.up |>.nw |>.up |>.nw |>.up |>.nw |>.up |>.nw |>.up |>.nw |>.up |>.nw |>.up |>.nw |>.up |>.nw |>.up |>.nw |>.up |>.nw |>.up |>.nw |>.up |>.nw |>.up |>.nw |>.up |>.nw |>.up |>.up
  · exact (ac_Z.rf 797 _).nw |>.nw |>.up h0 |>.nw |>.up h0 |>.nw |>.up h0 |>.nw |>.up h0 |>.nw |>.up h0 |>.nw |>.up h0 |>.nw |>.up h0 |>.nw |>.up h0 |>.nw |>.up h0 |>.nw |>.up h0 |>.nw |>.up h0 |>.nw |>.up h0 |>.nw |>.up h0 |>.nw |>.up h0 |>.nw |>.up h0 |>.nw |>.up h0 |>.nw |>.up h0 |>.nw |>.up h0 |>.up h0 |>.up h0 |>.nw |>.up h0 |>.nw |>.up h0 |>.nw |>.up h0 |>.nw |>.up h0 |>.nw |>.up h0 |>.nw |>.up h0 |>.nw |>.up h0 |>.nw |>.up h0 |>.nw |>.up h0 |>.nw |>.up h0 |>.nw |>.up h0 |>.nw |>.up h0 |>.nw |>.up h0 |>.nw |>.up h0 |>.nw |>.up h0 |>.nw |>.up h0 |>.nw |>.up h0 |>.nw |>.up h0 |>.nw |>.up h0 |>.nw |>.up h0 |>.nw |>.up h0 |>.nw |>.up h0 |>.nw |>.up h0 |>.nw |>.up h0 |>.nw |>.up h0 |>.nw |>.up h0 |>.nw |>.up h0 |>.nw |>.up h0 |>.nw |>.up h0 |>.nw |>.up h0 |>.nw |>.up h0 |>.nw |>.up h0 |>.up h0
def ch_X3 (M : ab_M) : ab_M := ab_up (ac_nw (ab_up (ac_nw (ab_up (ac_nw (ab_up (ac_nw (ab_up (ac_nw (ab_up (ab_up (ac_nw (ab_up (ac_nw (ab_up (ac_nw (ab_up (ac_nw (ab_up (ab_up (ab_up (ab_up (ab_up (ac_nw (ab_up (ab_up (ab_up (ab_up (ac_nw (ab_up (ac_nw (ab_up (ac_nw (ab_up (ac_nw (ab_up (ab_up (ac_nw (ac_nw (ab_up (ac_nw (ab_up (ab_up (ac_nw (ab_up (ab_up (ac_nw (ab_up (ac_nw (ab_up (ac_nw (ab_up (M) 768 0 ((26 : Nat) : Int)) 769) 769 0 ((26 : Nat) : Int)) (769 + 1)) 769 1 ((769 + 1 : Nat) : Int)) (769 + 2)) 769 2 ((769 + 2 : Nat) : Int)) 768 1 ((769 : Nat) : Int)) 772) 772 0 ((26 : Nat) : Int)) 772 1 ((769 : Nat) : Int)) (772 + 1)) 772 2 ((772 + 1 : Nat) : Int)) 774) 775) 775 0 ((26 : Nat) : Int)) 775 1 ((772 : Nat) : Int)) (775 + 1)) 775 2 ((775 + 1 : Nat) : Int)) (775 + 2)) 775 3 ((775 + 2 : Nat) : Int)) (775 + 3)) 775 4 ((775 + 3 : Nat) : Int)) (775 + 4)) 775 5 ((775 + 4 : Nat) : Int)) 775 6 ((774 : Nat) : Int)) 775 9 (-1 : Int)) 768 2 ((775 : Nat) : Int)) 780) 780 0 ((26 : Nat) : Int)) 780 1 ((769 : Nat) : Int)) 780 2 ((772 : Nat) : Int)) 780 3 ((774 : Nat) : Int)) 768 3 ((780 : Nat) : Int)) 781) 781 0 ((769 : Nat) : Int)) (781 + 1)) 781 1 ((781 + 1 : Nat) : Int)) (781 + 2)) 781 2 ((781 + 2 : Nat) : Int)) (781 + 3)) 781 3 ((781 + 3 : Nat) : Int)) 768 4 ((781 : Nat) : Int)) 785) 768 5 ((785 : Nat) : Int)) 786) 768 6 ((786 : Nat) : Int)) 787) 768 9 ((787 : Nat) : Int)) 788) 768 10 ((788 : Nat) : Int)) 789) 768 11 ((789 : Nat) : Int)
set_option maxRecDepth 20000 in
set_option maxHeartbeats 4000000 in
theorem mk_X3 (E : ab_E) (M : ab_M) : ac_Ok E 2 46 21 184742 [.inr (.inr (.inr (768, 3, 0))), .inr (.inr (.inr (26, 1, 0)))] 769 790 (M) (fun M' => M' = ch_X3 M) := by
  refine ac_mk (q := (yX3_init, cX3_init, 4, none, 3, (363, 362, 9999, 100), 2)) rfl rfl rfl (Nat.le_of_ble_eq_true rfl) ?_
  intro p l e s m below meth c ls hC hN hin hr hP hl
  have hC : ab_Cx p s m _ meth c E cX3_init 3 4 := hC
  obtain ⟨hx, hb, hml, hown, hts, hK, hlk, hsz⟩ := id hC
  have hl : lv_has ls 4 [(0, .ref (E.1 + 768)), (1, .ref (E.1 + 26))] := hl
  have hS : va_S (fun q => E.1 ≤ q) s.heap s.heap [] := va_S.rf
  refine lv_aload_n hx hb (show decode cX3_init 0 = .ok (.aload_n 0, 1) by decide +kernel) rfl (lv_at hl 0 rfl) ?_
  refine W.objInit hx hb hown (hts _ (ab_tnm (List.mem_of_getElem? (i := 364) rfl) rfl)) (hts _ ac_obj.1) (hts _ ac_obj.2) rfl (by rw [hml]; exact hl.1) rfl (show decode cX3_init 1 = .ok (.invokespecial 3, 3) by decide +kernel) (Nat.le_of_ble_eq_true rfl) (Nat.le_of_ble_eq_true rfl) ?_
  refine W.eq (g2 := F0 m 4 ls []) rfl ?_
  refine lv_aload_n hx hb (show decode cX3_init 4 = .ok (.aload_n 0, 1) by decide +kernel) rfl (lv_at hl 0 rfl) ?_
  refine lv_aload_n hx hb (show decode cX3_init 5 = .ok (.aload_n 1, 1) by decide +kernel) rfl (lv_at hl 1 rfl) ?_
  refine ac_putF hC hin (n := 769) (r := (0, 0, 3, 0, 487)) (show decode cX3_init 6 = .ok (.putfield 9, 3) by decide +kernel) (by decide +kernel) rfl (by decide) (by decide +kernel) (o := 768) (o' := 26) hP hS (by decide +kernel) ⟨_, rfl, rfl⟩ (fun H1 locs1 hP1 hS1 => ?_)
  refine lv_aload_n hx hb (show decode cX3_init 9 = .ok (.aload_n 0, 1) by decide +kernel) rfl (lv_at hl 0 rfl) ?_
  refine ac_new hC (n := 769) (i := 15) (ci := 7) (q := (RX7, TX7, 4)) rfl (by decide +kernel) (ab_tnm (List.mem_of_getElem? (i := 365) rfl) rfl) (ab_tnm (List.mem_of_getElem? (i := 366) rfl) rfl) (ab_tnm (List.mem_of_getElem? (i := 101) rfl) rfl) (show decode cX3_init 10 = .ok (.new 15, 3) by decide +kernel) hP1 hS1 (Nat.le_of_ble_eq_true rfl) (Nat.le_of_ble_eq_true rfl) (fun H2 hP2 hS2 => ?_)
  refine lv_dup hx hb (show decode cX3_init 13 = .ok (.dup, 1) by decide +kernel) rfl ?_
  refine lv_aload_n hx hb (show decode cX3_init 14 = .ok (.aload_n 1, 1) by decide +kernel) rfl (lv_at hl 1 rfl) ?_
  refine ac_init hC hN ⟨rfl, rfl⟩ (n := 770) (d' := 1) (by decide) (ix := 71) (q := (yX7_init, cX7_init, 2, none, 7, (369, 368, 9999, 101), 2)) rfl ⟨rfl, rfl⟩ (ab_tnm (List.mem_of_getElem? (i := 368) rfl) rfl) (show decode cX3_init 15 = .ok (.invokespecial 17, 3) by decide +kernel) (ab_tnm (List.mem_of_getElem? (i := 367) rfl) rfl) (o := 769) (a := [.inr (.inr (.inr (26, 1, 0)))]) (rest := [.ref (E.1 + 769), .ref (E.1 + 768)]) (by decide +kernel) (mk_X7 E (o := 769) (g := 26) (by decide +kernel) ⟨by decide +kernel, by decide +kernel⟩ ⟨by decide +kernel, by decide +kernel⟩ _) hP2 hS2 hl.1 (Nat.le_of_ble_eq_true rfl) (Nat.le_of_ble_eq_true rfl) (Nat.le_of_ble_eq_true rfl) (fun M3 H3 locs3 hM3 hP3 hS3 => ?_)
  subst hM3
  refine ac_putF hC hin (n := 772) (r := (0, 0, 3, 1, 488)) (show decode cX3_init 18 = .ok (.putfield 20, 3) by decide +kernel) (by decide +kernel) rfl (by decide) (by decide +kernel) (o := 768) (o' := 769) hP3 hS3 (by decide +kernel) ⟨_, rfl, rfl⟩ (fun H4 locs4 hP4 hS4 => ?_)
  refine ac_new hC (n := 772) (i := 24) (ci := 5) (q := (RX5, TX5, 4)) rfl (by decide +kernel) (ab_tnm (List.mem_of_getElem? (i := 385) rfl) rfl) (ab_tnm (List.mem_of_getElem? (i := 386) rfl) rfl) (ab_tnm (List.mem_of_getElem? (i := 102) rfl) rfl) (show decode cX3_init 21 = .ok (.new 24, 3) by decide +kernel) hP4 hS4 (Nat.le_of_ble_eq_true rfl) (Nat.le_of_ble_eq_true rfl) (fun H5 hP5 hS5 => ?_)
  refine lv_dup hx hb (show decode cX3_init 24 = .ok (.dup, 1) by decide +kernel) rfl ?_
  refine lv_aload_n hx hb (show decode cX3_init 25 = .ok (.aload_n 1, 1) by decide +kernel) rfl (lv_at hl 1 rfl) ?_
  refine lv_aload_n hx hb (show decode cX3_init 26 = .ok (.aload_n 0, 1) by decide +kernel) rfl (lv_at hl 0 rfl) ?_
  refine ac_rdr hC (n := 773) (r := (0, 0, 3, 1, 488)) (show decode cX3_init 27 = .ok (.getfield 20, 3) by decide +kernel) (by decide +kernel) (o := 768) (o' := 769) (by decide) (by decide +kernel) (by decide +kernel) rfl hP5 ?_
  refine ac_init hC hN ⟨rfl, rfl⟩ (n := 773) (d' := 1) (by decide) (ix := 58) (q := (yX5_init, cX5_init, 3, none, 5, (389, 388, 9999, 102), 2)) rfl ⟨rfl, rfl⟩ (ab_tnm (List.mem_of_getElem? (i := 388) rfl) rfl) (show decode cX3_init 30 = .ok (.invokespecial 26, 3) by decide +kernel) (ab_tnm (List.mem_of_getElem? (i := 387) rfl) rfl) (o := 772) (a := [.inr (.inr (.inr (26, 1, 0))), .inr (.inr (.inr (769, 7, 0)))]) (rest := [.ref (E.1 + 772)]) (by decide +kernel) (mk_X5 E (o := 772) (g := 26) (v := 769) (by decide +kernel) ⟨by decide +kernel, by decide +kernel⟩ _) hP5 hS5 hl.1 (Nat.le_of_ble_eq_true rfl) (Nat.le_of_ble_eq_true rfl) (Nat.le_of_ble_eq_true rfl) (fun M6 H6 locs6 hM6 hP6 hS6 => ?_)
  subst hM6
  refine lv_astore_n (lv' := [(2, .ref (E.1 + 772)), (0, .ref (E.1 + 768)), (1, .ref (E.1 + 26))]) hx hb (show decode cX3_init 33 = .ok (.astore_n 2, 1) by decide +kernel) rfl hl (by decide) rfl (fun ls hl => ?_)
  refine lv_ldc hx hb hown (hts _ (ab_tnm (List.mem_of_getElem? (i := 408) rfl) rfl)) (show decode cX3_init 34 = .ok (.ldc 29, 2) by decide +kernel) ?_
  refine W.eq (g2 := F0 m 36 ls [.int (Int32.ofInt ((33280 : Nat) : Int))]) rfl ?_
  refine ac_newan hC (n := 774) (atype := .long) (c0 := 21) (N := 33280) (ab_tnm (List.mem_of_getElem? (i := 447) rfl) rfl) (by decide +kernel) (by decide +kernel) (by right; left; exact ⟨rfl, rfl⟩) (Nat.le_of_ble_eq_true rfl) (show decode cX3_init 36 = .ok (.newarray .long, 2) by decide +kernel) hP6 hS6 (Nat.le_of_ble_eq_true rfl) (Nat.le_of_ble_eq_true rfl) (fun H7 hP7 hS7 => ?_)
  refine lv_astore_n (lv' := [(3, .ref (E.1 + 774)), (2, .ref (E.1 + 772)), (0, .ref (E.1 + 768)), (1, .ref (E.1 + 26))]) hx hb (show decode cX3_init 38 = .ok (.astore_n 3, 1) by decide +kernel) rfl hl (by decide) rfl (fun ls hl => ?_)
  refine lv_aload_n hx hb (show decode cX3_init 39 = .ok (.aload_n 0, 1) by decide +kernel) rfl (lv_at hl 2 rfl) ?_
  refine ac_new hC (n := 775) (i := 30) (ci := 12) (q := (RX12, TX12, 10)) rfl (by decide +kernel) (ab_tnm (List.mem_of_getElem? (i := 409) rfl) rfl) (ab_tnm (List.mem_of_getElem? (i := 410) rfl) rfl) (ab_tnm (List.mem_of_getElem? (i := 103) rfl) rfl) (show decode cX3_init 40 = .ok (.new 30, 3) by decide +kernel) hP7 hS7 (Nat.le_of_ble_eq_true rfl) (Nat.le_of_ble_eq_true rfl) (fun H8 hP8 hS8 => ?_)
  refine lv_dup hx hb (show decode cX3_init 43 = .ok (.dup, 1) by decide +kernel) rfl ?_
  refine lv_aload_n hx hb (show decode cX3_init 44 = .ok (.aload_n 1, 1) by decide +kernel) rfl (lv_at hl 3 rfl) ?_
  refine lv_aload_n hx hb (show decode cX3_init 45 = .ok (.aload_n 2, 1) by decide +kernel) rfl (lv_at hl 1 rfl) ?_
  refine lv_aload_n hx hb (show decode cX3_init 46 = .ok (.aload_n 3, 1) by decide +kernel) rfl (lv_at hl 0 rfl) ?_
  refine ac_init hC hN ⟨rfl, rfl⟩ (n := 776) (d' := 1) (by decide) (ix := 205) (q := (yX12_init, cX12_init, 4, none, 12, (413, 412, 9999, 103), 2)) rfl ⟨rfl, rfl⟩ (ab_tnm (List.mem_of_getElem? (i := 412) rfl) rfl) (show decode cX3_init 47 = .ok (.invokespecial 32, 3) by decide +kernel) (ab_tnm (List.mem_of_getElem? (i := 411) rfl) rfl) (o := 775) (a := [.inr (.inr (.inr (26, 1, 0))), .inr (.inr (.inr (772, 5, 0))), .inr (.inr (.inr (774, 21, 0)))]) (rest := [.ref (E.1 + 775), .ref (E.1 + 768)]) (by decide +kernel) (mk_X12 E (o := 775) (g := 26) (v := 772) (z := 774) (by decide +kernel) ⟨by decide +kernel, by decide +kernel⟩ ⟨by decide +kernel, by decide +kernel⟩ ⟨by decide +kernel, by decide +kernel⟩ ⟨by decide +kernel, by decide +kernel⟩ _) hP8 hS8 hl.1 (Nat.le_of_ble_eq_true rfl) (Nat.le_of_ble_eq_true rfl) (Nat.le_of_ble_eq_true rfl) (fun M9 H9 locs9 hM9 hP9 hS9 => ?_)
  subst hM9
  refine ac_putF hC hin (n := 780) (r := (0, 0, 3, 2, 489)) (show decode cX3_init 50 = .ok (.putfield 35, 3) by decide +kernel) (by decide +kernel) rfl (by decide) (by decide +kernel) (o := 768) (o' := 775) hP9 hS9 (by decide +kernel) ⟨_, rfl, rfl⟩ (fun H10 locs10 hP10 hS10 => ?_)
  refine lv_aload_n hx hb (show decode cX3_init 53 = .ok (.aload_n 0, 1) by decide +kernel) rfl (lv_at hl 2 rfl) ?_
  refine ac_new hC (n := 780) (i := 39) (ci := 10) (q := (RX10, TX10, 4)) rfl (by decide +kernel) (ab_tnm (List.mem_of_getElem? (i := 448) rfl) rfl) (ab_tnm (List.mem_of_getElem? (i := 449) rfl) rfl) (ab_tnm (List.mem_of_getElem? (i := 104) rfl) rfl) (show decode cX3_init 54 = .ok (.new 39, 3) by decide +kernel) hP10 hS10 (Nat.le_of_ble_eq_true rfl) (Nat.le_of_ble_eq_true rfl) (fun H11 hP11 hS11 => ?_)
  refine lv_dup hx hb (show decode cX3_init 57 = .ok (.dup, 1) by decide +kernel) rfl ?_
  refine lv_aload_n hx hb (show decode cX3_init 58 = .ok (.aload_n 1, 1) by decide +kernel) rfl (lv_at hl 3 rfl) ?_
  refine lv_aload_n hx hb (show decode cX3_init 59 = .ok (.aload_n 0, 1) by decide +kernel) rfl (lv_at hl 2 rfl) ?_
  refine ac_rdr hC (n := 781) (r := (0, 0, 3, 1, 488)) (show decode cX3_init 60 = .ok (.getfield 20, 3) by decide +kernel) (by decide +kernel) (o := 768) (o' := 769) (by decide) (by decide +kernel) (by decide +kernel) rfl hP11 ?_
  refine lv_aload_n hx hb (show decode cX3_init 63 = .ok (.aload_n 2, 1) by decide +kernel) rfl (lv_at hl 1 rfl) ?_
  refine lv_aload_n hx hb (show decode cX3_init 64 = .ok (.aload_n 3, 1) by decide +kernel) rfl (lv_at hl 0 rfl) ?_
  refine ac_init hC hN ⟨rfl, rfl⟩ (n := 781) (d' := 1) (by decide) (ix := 193) (q := (yX10_init, cX10_init, 5, none, 10, (452, 451, 9999, 104), 2)) rfl ⟨rfl, rfl⟩ (ab_tnm (List.mem_of_getElem? (i := 451) rfl) rfl) (show decode cX3_init 65 = .ok (.invokespecial 41, 3) by decide +kernel) (ab_tnm (List.mem_of_getElem? (i := 450) rfl) rfl) (o := 780) (a := [.inr (.inr (.inr (26, 1, 0))), .inr (.inr (.inr (769, 7, 0))), .inr (.inr (.inr (772, 5, 0))), .inr (.inr (.inr (774, 21, 0)))]) (rest := [.ref (E.1 + 780), .ref (E.1 + 768)]) (by decide +kernel) (mk_X10 E (o := 780) (g := 26) (v := 769) (z := 772) (w := 774) (by decide +kernel)  _) hP11 hS11 hl.1 (Nat.le_of_ble_eq_true rfl) (Nat.le_of_ble_eq_true rfl) (Nat.le_of_ble_eq_true rfl) (fun M12 H12 locs12 hM12 hP12 hS12 => ?_)
  subst hM12
  refine ac_putF hC hin (n := 781) (r := (0, 0, 3, 3, 490)) (show decode cX3_init 68 = .ok (.putfield 44, 3) by decide +kernel) (by decide +kernel) rfl (by decide) (by decide +kernel) (o := 768) (o' := 780) hP12 hS12 (by decide +kernel) ⟨_, rfl, rfl⟩ (fun H13 locs13 hP13 hS13 => ?_)
  refine lv_aload_n hx hb (show decode cX3_init 71 = .ok (.aload_n 0, 1) by decide +kernel) rfl (lv_at hl 2 rfl) ?_
  refine ac_new hC (n := 781) (i := 48) (ci := 11) (q := (RX11, TX11, 4)) rfl (by decide +kernel) (ab_tnm (List.mem_of_getElem? (i := 467) rfl) rfl) (ab_tnm (List.mem_of_getElem? (i := 468) rfl) rfl) (ab_tnm (List.mem_of_getElem? (i := 105) rfl) rfl) (show decode cX3_init 72 = .ok (.new 48, 3) by decide +kernel) hP13 hS13 (Nat.le_of_ble_eq_true rfl) (Nat.le_of_ble_eq_true rfl) (fun H14 hP14 hS14 => ?_)
  refine lv_dup hx hb (show decode cX3_init 75 = .ok (.dup, 1) by decide +kernel) rfl ?_
  refine lv_aload_n hx hb (show decode cX3_init 76 = .ok (.aload_n 0, 1) by decide +kernel) rfl (lv_at hl 2 rfl) ?_
  refine ac_rdr hC (n := 782) (r := (0, 0, 3, 1, 488)) (show decode cX3_init 77 = .ok (.getfield 20, 3) by decide +kernel) (by decide +kernel) (o := 768) (o' := 769) (by decide) (by decide +kernel) (by decide +kernel) rfl hP14 ?_
  refine ac_init hC hN ⟨rfl, rfl⟩ (n := 782) (d' := 1) (by decide) (ix := 199) (q := (yX11_init, cX11_init, 2, none, 11, (471, 470, 9999, 105), 2)) rfl ⟨rfl, rfl⟩ (ab_tnm (List.mem_of_getElem? (i := 470) rfl) rfl) (show decode cX3_init 80 = .ok (.invokespecial 50, 3) by decide +kernel) (ab_tnm (List.mem_of_getElem? (i := 469) rfl) rfl) (o := 781) (a := [.inr (.inr (.inr (769, 7, 0)))]) (rest := [.ref (E.1 + 781), .ref (E.1 + 768)]) (by decide +kernel) (mk_X11 E (o := 781) (v := 769) (by decide +kernel) ⟨by decide +kernel, by decide +kernel⟩ ⟨by decide +kernel, by decide +kernel⟩ ⟨by decide +kernel, by decide +kernel⟩ _) hP14 hS14 hl.1 (Nat.le_of_ble_eq_true rfl) (Nat.le_of_ble_eq_true rfl) (Nat.le_of_ble_eq_true rfl) (fun M15 H15 locs15 hM15 hP15 hS15 => ?_)
  subst hM15
  refine ac_putF hC hin (n := 785) (r := (0, 0, 3, 4, 491)) (show decode cX3_init 83 = .ok (.putfield 53, 3) by decide +kernel) (by decide +kernel) rfl (by decide) (by decide +kernel) (o := 768) (o' := 781) hP15 hS15 (by decide +kernel) ⟨_, rfl, rfl⟩ (fun H16 locs16 hP16 hS16 => ?_)
  refine lv_aload_n hx hb (show decode cX3_init 86 = .ok (.aload_n 0, 1) by decide +kernel) rfl (lv_at hl 2 rfl) ?_
  refine lv_sipush (v := Int32.ofInt ((256 : Nat) : Int)) hx hb (show decode cX3_init 87 = .ok (.sipush 256, 3) by decide +kernel) (by decide) ?_
  refine ac_newan hC (n := 785) (atype := .int) (c0 := 20) (N := 256) (ab_tnm (List.mem_of_getElem? (i := 264) rfl) rfl) (by decide +kernel) (by decide +kernel) (by left; exact ⟨rfl, rfl⟩) (Nat.le_of_ble_eq_true rfl) (show decode cX3_init 90 = .ok (.newarray .int, 2) by decide +kernel) hP16 hS16 (Nat.le_of_ble_eq_true rfl) (Nat.le_of_ble_eq_true rfl) (fun H17 hP17 hS17 => ?_)
  refine ac_putF hC hin (n := 786) (r := (0, 0, 3, 5, 492)) (show decode cX3_init 92 = .ok (.putfield 57, 3) by decide +kernel) (by decide +kernel) rfl (by decide) (by decide +kernel) (o := 768) (o' := 785) hP17 hS17 (by decide +kernel) ⟨_, rfl, rfl⟩ (fun H18 locs18 hP18 hS18 => ?_)
  refine lv_aload_n hx hb (show decode cX3_init 95 = .ok (.aload_n 0, 1) by decide +kernel) rfl (lv_at hl 2 rfl) ?_
  refine lv_sipush (v := Int32.ofInt ((256 : Nat) : Int)) hx hb (show decode cX3_init 96 = .ok (.sipush 256, 3) by decide +kernel) (by decide) ?_
  refine ac_newan hC (n := 786) (atype := .int) (c0 := 20) (N := 256) (ab_tnm (List.mem_of_getElem? (i := 264) rfl) rfl) (by decide +kernel) (by decide +kernel) (by left; exact ⟨rfl, rfl⟩) (Nat.le_of_ble_eq_true rfl) (show decode cX3_init 99 = .ok (.newarray .int, 2) by decide +kernel) hP18 hS18 (Nat.le_of_ble_eq_true rfl) (Nat.le_of_ble_eq_true rfl) (fun H19 hP19 hS19 => ?_)
  refine ac_putF hC hin (n := 787) (r := (0, 0, 3, 6, 493)) (show decode cX3_init 101 = .ok (.putfield 61, 3) by decide +kernel) (by decide +kernel) rfl (by decide) (by decide +kernel) (o := 768) (o' := 786) hP19 hS19 (by decide +kernel) ⟨_, rfl, rfl⟩ (fun H20 locs20 hP20 hS20 => ?_)
  refine lv_aload_n hx hb (show decode cX3_init 104 = .ok (.aload_n 0, 1) by decide +kernel) rfl (lv_at hl 2 rfl) ?_
  refine lv_iconst (v := Int32.ofInt ((4 : Nat) : Int)) hx hb (show decode cX3_init 105 = .ok (.iconst 4, 1) by decide +kernel) (by decide) ?_
  refine ac_newan hC (n := 787) (atype := .boolean) (c0 := 23) (N := 4) (ab_tnm (List.mem_of_getElem? (i := 263) rfl) rfl) (by decide +kernel) (by decide +kernel) (by right; right; right; left; exact ⟨rfl, rfl⟩) (Nat.le_of_ble_eq_true rfl) (show decode cX3_init 106 = .ok (.newarray .boolean, 2) by decide +kernel) hP20 hS20 (Nat.le_of_ble_eq_true rfl) (Nat.le_of_ble_eq_true rfl) (fun H21 hP21 hS21 => ?_)
  refine ac_putF hC hin (n := 788) (r := (0, 0, 3, 9, 496)) (show decode cX3_init 108 = .ok (.putfield 64, 3) by decide +kernel) (by decide +kernel) rfl (by decide) (by decide +kernel) (o := 768) (o' := 787) hP21 hS21 (by decide +kernel) ⟨_, rfl, rfl⟩ (fun H22 locs22 hP22 hS22 => ?_)
  refine lv_aload_n hx hb (show decode cX3_init 111 = .ok (.aload_n 0, 1) by decide +kernel) rfl (lv_at hl 2 rfl) ?_
  refine lv_iconst (v := Int32.ofInt ((4 : Nat) : Int)) hx hb (show decode cX3_init 112 = .ok (.iconst 4, 1) by decide +kernel) (by decide) ?_
  refine ac_newan hC (n := 788) (atype := .int) (c0 := 20) (N := 4) (ab_tnm (List.mem_of_getElem? (i := 264) rfl) rfl) (by decide +kernel) (by decide +kernel) (by left; exact ⟨rfl, rfl⟩) (Nat.le_of_ble_eq_true rfl) (show decode cX3_init 113 = .ok (.newarray .int, 2) by decide +kernel) hP22 hS22 (Nat.le_of_ble_eq_true rfl) (Nat.le_of_ble_eq_true rfl) (fun H23 hP23 hS23 => ?_)
  refine ac_putF hC hin (n := 789) (r := (0, 0, 3, 10, 497)) (show decode cX3_init 115 = .ok (.putfield 68, 3) by decide +kernel) (by decide +kernel) rfl (by decide) (by decide +kernel) (o := 768) (o' := 788) hP23 hS23 (by decide +kernel) ⟨_, rfl, rfl⟩ (fun H24 locs24 hP24 hS24 => ?_)
  refine lv_aload_n hx hb (show decode cX3_init 118 = .ok (.aload_n 0, 1) by decide +kernel) rfl (lv_at hl 2 rfl) ?_
  refine lv_iconst (v := Int32.ofInt ((4 : Nat) : Int)) hx hb (show decode cX3_init 119 = .ok (.iconst 4, 1) by decide +kernel) (by decide) ?_
  refine ac_newan hC (n := 789) (atype := .int) (c0 := 20) (N := 4) (ab_tnm (List.mem_of_getElem? (i := 264) rfl) rfl) (by decide +kernel) (by decide +kernel) (by left; exact ⟨rfl, rfl⟩) (Nat.le_of_ble_eq_true rfl) (show decode cX3_init 120 = .ok (.newarray .int, 2) by decide +kernel) hP24 hS24 (Nat.le_of_ble_eq_true rfl) (Nat.le_of_ble_eq_true rfl) (fun H25 hP25 hS25 => ?_)
  refine ac_putF hC hin (n := 790) (r := (0, 0, 3, 11, 499)) (show decode cX3_init 122 = .ok (.putfield 71, 3) by decide +kernel) (by decide +kernel) rfl (by decide) (by decide +kernel) (o := 768) (o' := 789) hP25 hS25 (by decide +kernel) ⟨_, rfl, rfl⟩ (fun H26 locs26 hP26 hS26 => ?_)
  exact ac_ret hC hr (show decode cX3_init 125 = .ok (.return_, 1) by decide +kernel) hP26 hS26 rfl (Nat.le_of_ble_eq_true rfl) (Nat.le_of_ble_eq_true rfl)
set_option maxRecDepth 20000 in
set_option maxHeartbeats 1000000 in
theorem kf_X3 (M : ab_M) : ac_KF 768 790 M (ch_X3 (ac_nw M 768)) := by
  have h0 : ab_kd 768 < 20 := by decide +kernel
  refine ac_KF_of (o := 768) (n := 790) (C := fun M => ch_X3 (ac_nw M 768)) ?_ ?_ ?_ (by decide +kernel) M
  · intro M
    exact (ac_F.rf 768 M).nw (Nat.le_refl _) |>.up (by decide) |>.nw (by decide) |>.up (by decide) |>.nw (by decide) |>.up (by decide) |>.nw (by decide) |>.up (by decide) |>.up (by decide) |>.nw (by decide) |>.up (by decide) |>.up (by decide) |>.nw (by decide) |>.up (by decide) |>.nw (by decide) |>.nw (by decide) |>.up (by decide) |>.up (by decide) |>.nw (by decide) |>.up (by decide) |>.nw (by decide) |>.up (by decide) |>.nw (by decide) |>.up (by decide) |>.nw (by decide) |>.up (by decide) |>.up (by decide) |>.up (by decide) |>.up (by decide) |>.nw (by decide) |>.up (by decide) |>.up (by decide) |>.up (by decide) |>.up (by decide) |>.up (by decide) |>.nw (by decide) |>.up (by decide) |>.nw (by decide) |>.up (by decide) |>.nw (by decide) |>.up (by decide) |>.nw (by decide) |>.up (by decide) |>.up (by decide) |>.nw (by decide) |>.up (by decide) |>.nw (by decide) |>.up (by decide) |>.nw (by decide) |>.up (by decide) |>.nw (by decide) |>.up (by decide) |>.nw (by decide) |>.up (by decide)
  · intro M1 M2
    exact (ac_Q.rf 768 M1 M2).nw |>.up |>.nw |>.up |>.nw |>.up |>.nw |>.up |>.up |>.nw |>.up |>.up |>.nw |>.up |>.nw |>.nw |>.up |>.up |>.nw |>.up |>.nw |>.up |>.nw |>.up |>.nw |>.up |>.up |>.up |>.up |>.nw |>.up |>.up |>.up |>.up |>.up |>.nw |>.up |>.nw |>.up |>.nw |>.up |>.nw |>.up |>.up |>.nw |>.up |>.nw |>.up |>.nw |>.up |>.nw |>.up |>.nw |>.up
  · exact (ac_Z.rf 768 _).nw |>.up (by decide +kernel) |>.nw |>.up (by decide +kernel) |>.nw |>.up (by decide +kernel) |>.nw |>.up (by decide +kernel) |>.up (by decide +kernel) |>.nw |>.up (by decide +kernel) |>.up (by decide +kernel) |>.nw |>.up (by decide +kernel) |>.nw |>.nw |>.up (by decide +kernel) |>.up (by decide +kernel) |>.nw |>.up (by decide +kernel) |>.nw |>.up (by decide +kernel) |>.nw |>.up (by decide +kernel) |>.nw |>.up (by decide +kernel) |>.up (by decide +kernel) |>.up (by decide +kernel) |>.up (by decide +kernel) |>.nw |>.up (by decide +kernel) |>.up (by decide +kernel) |>.up (by decide +kernel) |>.up (by decide +kernel) |>.up (by decide +kernel) |>.nw |>.up (by decide +kernel) |>.nw |>.up (by decide +kernel) |>.nw |>.up (by decide +kernel) |>.nw |>.up (by decide +kernel) |>.up (by decide +kernel) |>.nw |>.up (by decide +kernel) |>.nw |>.up (by decide +kernel) |>.nw |>.up (by decide +kernel) |>.nw |>.up (by decide +kernel) |>.nw |>.up (by decide +kernel)
def ch_X2 (M : ab_M) : ab_M := ab_up (ac_nw (ab_up (ac_nw (ab_up (ac_nw (ab_up (ab_up (ab_up (ab_up (M) 764 1 ((395 : Nat) : Int)) 764 0 ((1 : Nat) : Int)) 764 3 (-1 : Int)) 764 4 (-1 : Int)) 765) 764 5 ((765 : Nat) : Int)) 766) 764 6 ((766 : Nat) : Int)) 767) 764 7 ((767 : Nat) : Int)
set_option maxRecDepth 20000 in
set_option maxHeartbeats 4000000 in
theorem mk_X2 (E : ab_E) (M : ab_M) (hT : M 395 0 = 1) : ac_Ok E 2 31 3 363 [.inr (.inr (.inr (764, 2, 0))), .inr (.inr (.inr (395, 1, 0)))] 765 768 (M) (fun M' => M' = ch_X2 M) := by
  refine ac_mk (q := (yX2_init, cX2_init, 2, none, 2, (326, 325, 9999, 99), 2)) rfl rfl rfl (Nat.le_of_ble_eq_true rfl) ?_
  intro p l e s m below meth c ls hC hN hin hr hP hl
  have hC : ab_Cx p s m _ meth c E cX2_init 2 2 := hC
  obtain ⟨hx, hb, hml, hown, hts, hK, hlk, hsz⟩ := id hC
  have hl : lv_has ls 2 [(0, .ref (E.1 + 764)), (1, .ref (E.1 + 395))] := hl
  have hS : va_S (fun q => E.1 ≤ q) s.heap s.heap [] := va_S.rf
  refine lv_aload_n hx hb (show decode cX2_init 0 = .ok (.aload_n 0, 1) by decide +kernel) rfl (lv_at hl 0 rfl) ?_
  refine W.objInit hx hb hown (hts _ (ab_tnm (List.mem_of_getElem? (i := 327) rfl) rfl)) (hts _ ac_obj.1) (hts _ ac_obj.2) rfl (by rw [hml]; exact hl.1) rfl (show decode cX2_init 1 = .ok (.invokespecial 3, 3) by decide +kernel) (Nat.le_of_ble_eq_true rfl) (Nat.le_of_ble_eq_true rfl) ?_
  refine W.eq (g2 := F0 m 4 ls []) rfl ?_
  refine lv_aload_n hx hb (show decode cX2_init 4 = .ok (.aload_n 0, 1) by decide +kernel) rfl (lv_at hl 0 rfl) ?_
  refine lv_aload_n hx hb (show decode cX2_init 5 = .ok (.aload_n 1, 1) by decide +kernel) rfl (lv_at hl 1 rfl) ?_
  refine ac_putr hC (n := 765) (r := (0, 0, 2, 1, 329)) (show decode cX2_init 6 = .ok (.putfield 9, 3) by decide +kernel) (by decide +kernel) (o := 764) (o' := 395) (by decide) (by decide +kernel) hP hS (by decide +kernel) ⟨_, rfl, rfl⟩ (fun H1 locs1 hP1 hS1 => ?_)
  refine lv_aload_n hx hb (show decode cX2_init 9 = .ok (.aload_n 0, 1) by decide +kernel) rfl (lv_at hl 0 rfl) ?_
  refine lv_aload_n hx hb (show decode cX2_init 10 = .ok (.aload_n 1, 1) by decide +kernel) rfl (lv_at hl 1 rfl) ?_
  refine ac_rdr hC (n := 765) (r := (0, 1, 1, 0, 270)) (show decode cX2_init 11 = .ok (.getfield 15, 3) by decide +kernel) (by decide +kernel) (o := 395) (o' := 1) (by decide) (by decide +kernel) (by decide +kernel) ((ab_up_o (by decide) 0).trans hT) hP1 ?_
  refine ac_putr hC (n := 765) (r := (0, 0, 2, 0, 328)) (show decode cX2_init 14 = .ok (.putfield 21, 3) by decide +kernel) (by decide +kernel) (o := 764) (o' := 1) (by decide) (by decide +kernel) hP1 hS1 (by decide +kernel) ⟨_, rfl, rfl⟩ (fun H2 locs2 hP2 hS2 => ?_)
  refine lv_aload_n hx hb (show decode cX2_init 17 = .ok (.aload_n 0, 1) by decide +kernel) rfl (lv_at hl 0 rfl) ?_
  refine lv_iconst (v := Int32.ofInt (-1)) hx hb (show decode cX2_init 18 = .ok (.iconst (-1), 1) by decide +kernel) (by decide) ?_
  refine W.eq (g2 := F0 m 19 ls (ab_fv E.1 (ab_ft 2 3).1 (-1 : Int) :: .ref (E.1 + 764) :: [])) rfl ?_
  refine ac_put hC (n := 765) (r := (0, 0, 2, 3, 331)) (show decode cX2_init 19 = .ok (.putfield 22, 3) by decide +kernel) (by decide +kernel) (by decide) (by decide +kernel) (z := (-1 : Int)) hP2 hS2 (by first | exact .inl (by decide +kernel) | exact .inr (.inl ⟨by decide +kernel, by decide⟩)) ⟨_, rfl, rfl⟩ (fun H3 locs3 hP3 hS3 => ?_)
  refine lv_aload_n hx hb (show decode cX2_init 22 = .ok (.aload_n 0, 1) by decide +kernel) rfl (lv_at hl 0 rfl) ?_
  refine lv_iconst (v := Int32.ofInt (-1)) hx hb (show decode cX2_init 23 = .ok (.iconst (-1), 1) by decide +kernel) (by decide) ?_
  refine W.eq (g2 := F0 m 24 ls (ab_fv E.1 (ab_ft 2 4).1 (-1 : Int) :: .ref (E.1 + 764) :: [])) rfl ?_
  refine ac_put hC (n := 765) (r := (0, 0, 2, 4, 332)) (show decode cX2_init 24 = .ok (.putfield 26, 3) by decide +kernel) (by decide +kernel) (by decide) (by decide +kernel) (z := (-1 : Int)) hP3 hS3 (by first | exact .inl (by decide +kernel) | exact .inr (.inl ⟨by decide +kernel, by decide⟩)) ⟨_, rfl, rfl⟩ (fun H4 locs4 hP4 hS4 => ?_)
  refine lv_aload_n hx hb (show decode cX2_init 27 = .ok (.aload_n 0, 1) by decide +kernel) rfl (lv_at hl 0 rfl) ?_
  refine lv_bipush (v := Int32.ofInt ((121 : Nat) : Int)) hx hb (show decode cX2_init 28 = .ok (.bipush 121, 2) by decide +kernel) (by decide) ?_
  refine ac_newan hC (n := 765) (atype := .int) (c0 := 20) (N := 121) (ab_tnm (List.mem_of_getElem? (i := 264) rfl) rfl) (by decide +kernel) (by decide +kernel) (by left; exact ⟨rfl, rfl⟩) (Nat.le_of_ble_eq_true rfl) (show decode cX2_init 30 = .ok (.newarray .int, 2) by decide +kernel) hP4 hS4 (Nat.le_of_ble_eq_true rfl) (Nat.le_of_ble_eq_true rfl) (fun H5 hP5 hS5 => ?_)
  refine ac_putF hC hin (n := 766) (r := (0, 0, 2, 5, 333)) (show decode cX2_init 32 = .ok (.putfield 29, 3) by decide +kernel) (by decide +kernel) rfl (by decide) (by decide +kernel) (o := 764) (o' := 765) hP5 hS5 (by decide +kernel) ⟨_, rfl, rfl⟩ (fun H6 locs6 hP6 hS6 => ?_)
  refine lv_aload_n hx hb (show decode cX2_init 35 = .ok (.aload_n 0, 1) by decide +kernel) rfl (lv_at hl 0 rfl) ?_
  refine lv_bipush (v := Int32.ofInt ((121 : Nat) : Int)) hx hb (show decode cX2_init 36 = .ok (.bipush 121, 2) by decide +kernel) (by decide) ?_
  refine ac_newan hC (n := 766) (atype := .int) (c0 := 20) (N := 121) (ab_tnm (List.mem_of_getElem? (i := 264) rfl) rfl) (by decide +kernel) (by decide +kernel) (by left; exact ⟨rfl, rfl⟩) (Nat.le_of_ble_eq_true rfl) (show decode cX2_init 38 = .ok (.newarray .int, 2) by decide +kernel) hP6 hS6 (Nat.le_of_ble_eq_true rfl) (Nat.le_of_ble_eq_true rfl) (fun H7 hP7 hS7 => ?_)
  refine ac_putF hC hin (n := 767) (r := (0, 0, 2, 6, 334)) (show decode cX2_init 40 = .ok (.putfield 33, 3) by decide +kernel) (by decide +kernel) rfl (by decide) (by decide +kernel) (o := 764) (o' := 766) hP7 hS7 (by decide +kernel) ⟨_, rfl, rfl⟩ (fun H8 locs8 hP8 hS8 => ?_)
  refine lv_aload_n hx hb (show decode cX2_init 43 = .ok (.aload_n 0, 1) by decide +kernel) rfl (lv_at hl 0 rfl) ?_
  refine lv_bipush (v := Int32.ofInt ((121 : Nat) : Int)) hx hb (show decode cX2_init 44 = .ok (.bipush 121, 2) by decide +kernel) (by decide) ?_
  refine ac_newan hC (n := 767) (atype := .int) (c0 := 20) (N := 121) (ab_tnm (List.mem_of_getElem? (i := 264) rfl) rfl) (by decide +kernel) (by decide +kernel) (by left; exact ⟨rfl, rfl⟩) (Nat.le_of_ble_eq_true rfl) (show decode cX2_init 46 = .ok (.newarray .int, 2) by decide +kernel) hP8 hS8 (Nat.le_of_ble_eq_true rfl) (Nat.le_of_ble_eq_true rfl) (fun H9 hP9 hS9 => ?_)
  refine ac_putF hC hin (n := 768) (r := (0, 0, 2, 7, 335)) (show decode cX2_init 48 = .ok (.putfield 36, 3) by decide +kernel) (by decide +kernel) rfl (by decide) (by decide +kernel) (o := 764) (o' := 767) hP9 hS9 (by decide +kernel) ⟨_, rfl, rfl⟩ (fun H10 locs10 hP10 hS10 => ?_)
  exact ac_ret hC hr (show decode cX2_init 51 = .ok (.return_, 1) by decide +kernel) hP10 hS10 rfl (Nat.le_of_ble_eq_true rfl) (Nat.le_of_ble_eq_true rfl)
set_option maxRecDepth 20000 in
set_option maxHeartbeats 1000000 in
theorem kf_X2 (M : ab_M) : ac_KF 764 768 M (ch_X2 (ac_nw M 764)) := by
  have h0 : ab_kd 764 < 20 := by decide +kernel
  refine ac_KF_of (o := 764) (n := 768) (C := fun M => ch_X2 (ac_nw M 764)) ?_ ?_ ?_ (by decide +kernel) M
  · intro M
    exact (ac_F.rf 764 M).nw (Nat.le_refl _) |>.up (Nat.le_refl _) |>.up (Nat.le_refl _) |>.up (Nat.le_refl _) |>.up (Nat.le_refl _) |>.nw (by decide) |>.up (Nat.le_refl _) |>.nw (by decide) |>.up (Nat.le_refl _) |>.nw (by decide) |>.up (Nat.le_refl _)
  · intro M1 M2
    exact (ac_Q.rf 764 M1 M2).nw |>.up |>.up |>.up |>.up |>.nw |>.up |>.nw |>.up |>.nw |>.up
  · exact (ac_Z.rf 764 _).nw |>.up h0 |>.up h0 |>.up h0 |>.up h0 |>.nw |>.up h0 |>.nw |>.up h0 |>.nw |>.up h0
