/-! the places to which a run goes in a step -/
/-- the cells of a row's statement and of a loop's -/
def st_at (M : ab_M) (row : Int) : Nat := if 0 ≤ row ∧ row < M 26 3 then 26 + 1 + 1 + 3 * row.toNat else 388
def lp_at (M : ab_M) (l : Int) : Nat := if 0 ≤ l ∧ l < M 26 8 ∧ 0 ≤ M 392 l.toNat ∧ M 392 l.toNat < M 26 3 then 26 + 1 + 1 + 3 * (M 392 l.toNat).toNat else 388
/-- what a step asks of the program -/
def ts_p (M : ab_M) : Prop := (0 ≤ M 26 3 ∧ M 26 3 ≤ 120) ∧ (0 ≤ M 26 8 ∧ M 26 8 ≤ 4) ∧ (∀ l : Nat, (l : Int) < M 26 8 → 0 ≤ M 392 l ∧ M 392 l < M 26 3) ∧ (∀ r : Nat, (r : Int) < M 26 3 → ts_s M (26 + 1 + 1 + 3 * r)) ∧ ts_s M 388
theorem ts_p.st {M : ab_M} (h : ts_p M) (row : Int) : ts_s M (st_at M row) := by
  unfold st_at
  split
  · exact h.2.2.2.1 _ (by omega)
  · exact h.2.2.2.2
theorem ts_p.lp {M : ab_M} (h : ts_p M) (l : Int) : ts_s M (lp_at M l) := by
  unfold lp_at
  split
  · exact h.2.2.2.1 _ (by omega)
  · exact h.2.2.2.2
def pl_back (M : ab_M) (l zz cut : Int) (L : List Int) : Int × List Int := if cut = 0 then (-1, pl_ad (if 0 ≤ l ∧ l < M 26 8 then M 392 l.toNat else -1) zz L) else (if tv M (M (lp_at M l) 3) zz = 0 then M (lp_at M l) 4 + 1 else -1, L)
/-- what a run does in one step: the check at which it fails, the places to which it goes -/
def pl_fd (M : ab_M) (row zz cut : Int) : Int × List Int := if row < 120 then pl_st M (st_at M row) zz cut [] else if 126 ≤ row then (-1, pl_head M (lp_at M (row - 126)) zz []) else if 122 ≤ row then pl_back M (row - 122) zz cut [] else (-1, [])
theorem ts_s_fr {M M1 : ab_M} (h : ts_e M M1) {s : Nat} (hs : ts_s M s) : ts_s M1 s := by
  have e := h.s hs
  unfold ts_s at hs ⊢
  simp only [e]
  exact hs
theorem pl_h_fr {M M1 : ab_M} (h : ts_e M M1) {s : Nat} (hs : ts_s M s) (zz : Int) (L : List Int) : ∀ n, pl_h M1 s zz L n = pl_h M s zz L n
  | 0 => rfl
  | n + 1 => by
    show pl_hv M1 s zz _ _ = pl_hv M s zz _ _
    rw [pl_h_fr h hs zz L n]
    unfold pl_hv
    simp only [h.s hs, ts_e_tv h]
theorem pl_st_fr {M M1 : ab_M} (h : ts_e M M1) {s : Nat} (hs : ts_s M s) (zz cut : Int) (L : List Int) : pl_st M1 s zz cut L = pl_st M s zz cut L := by
  unfold pl_st pl_cut
  simp only [h.s hs, ts_e_tv h, pl_h_fr h hs]
theorem pl_hs_fr {M M1 : ab_M} (h : ts_e M M1) {s : Nat} (hs : ts_s M s) (zz : Int) : ∀ (n : Nat) (part : Int) (L : List Int), pl_hs M1 s zz n part L = pl_hs M s zz n part L
  | 0, _, _ => rfl
  | n + 1, part, L => by
    unfold pl_hs pl_h1
    simp only [h.s hs, ts_e_tv h, pl_hs_fr h hs zz n]
theorem pl_head_fr {M M1 : ab_M} (h : ts_e M M1) {s : Nat} (hs : ts_s M s) (zz : Int) (L : List Int) : pl_head M1 s zz L = pl_head M s zz L := by
  unfold pl_head
  simp only [h.s hs, pl_hs_fr h hs]
theorem st_at_fr {M M1 : ab_M} (h : ts_e M M1) (row : Int) : st_at M1 row = st_at M row := by
  unfold st_at
  rw [h.c 26 3 (by decide)]
theorem lp_at_fr {M M1 : ab_M} (h : ts_e M M1) (l : Int) : lp_at M1 l = lp_at M l := by
  unfold lp_at
  rw [h.c 26 3 (by decide), h.c 26 8 (by decide), h.c 392 _ (by decide)]
theorem ts_p_fr {M M1 : ab_M} (h : ts_e M M1) (hp : ts_p M) : ts_p M1 := by
  obtain ⟨a1, a2, a3, a4, a5⟩ := hp
  refine ⟨?_, ?_, fun l => ?_, fun r => ?_, ts_s_fr h a5⟩
  · rw [h.c 26 3 (by decide)]; exact a1
  · rw [h.c 26 8 (by decide)]; exact a2
  · rw [h.c 26 8 (by decide), h.c 392 _ (by decide), h.c 26 3 (by decide)]; exact a3 l
  · rw [h.c 26 3 (by decide)]; exact fun q => ts_s_fr h (a4 r q)
theorem pl_back_fr {M M1 : ab_M} (h : ts_e M M1) (hp : ts_p M) (l zz cut : Int) (L : List Int) : pl_back M1 l zz cut L = pl_back M l zz cut L := by
  unfold pl_back
  simp only [lp_at_fr h, h.s (hp.lp l), ts_e_tv h, h.c 26 8 (by decide), h.c 392 _ (by decide)]
theorem ts_up (M : ab_M) (z : Int) : ts_f M (ab_up M 772 3 z) := fun o' k' _ h => up_ne h
theorem ts_L_up (M : ab_M) : ts_L (ab_up M 772 3 0) [] := ⟨ab_up_s, Nat.zero_le _, fun i hi => absurd hi (Nat.not_lt_zero i)⟩
theorem pl_fd_fr {M M1 : ab_M} (h : ts_e M M1) (hp : ts_p M) (row zz cut : Int) : pl_fd M1 row zz cut = pl_fd M row zz cut := by
  unfold pl_fd
  simp only [st_at_fr h, lp_at_fr h, pl_st_fr h (hp.st row), pl_head_fr h (hp.lp (row - 126)), pl_back_fr h hp]

def S_X5_ofBack : ab_PT := fun a M K => match a with
  | [.inr (.inr (.inr (772, 5, 0))), .inr (.inl l), .inr (.inl zz), .inr (.inl cut)] => (∃ L : List Int, (((ts_L M L ∧ tv_ok M) ∧ ts_p M ∧ 0 ≤ zz ∧ zz ≤ 255) ∧ (ab_ir l ∧ ab_ir cut)) ∧ (∀ rx : Int, ∀ Mx : ab_M, (ts_L Mx (pl_back M l zz cut L).2 ∧ ts_f M Mx) → (rx = (pl_back M l zz cut L).1) → K [Xi rx] Mx))
  | _ => False
set_option maxRecDepth 20000 in
theorem vc_X5_ofBack_0 (l : Int) (zz : Int) (cut : Int) (M : ab_M) (K : List ab_V → ab_M → Prop) (hS : (∃ L : List Int, (((ts_L M L ∧ tv_ok M) ∧ ts_p M ∧ 0 ≤ zz ∧ zz ≤ 255) ∧ (ab_ir l ∧ ab_ir cut)) ∧ (∀ rx : Int, ∀ Mx : ab_M, (ts_L Mx (pl_back M l zz cut L).2 ∧ ts_f M Mx) → (rx = (pl_back M l zz cut L).1) → K [Xi rx] Mx))) : (ab_ir cut) ∧ ((¬ cut = 0 → (ab_ir l ∧ M 26 8 ≤ 4 ∧ 0 ≤ M 26 8 ∧ (0 ≤ l ∧ l < M 26 8 → ab_ir (M 392 l.toNat)) ∧ 0 ≤ M 26 3 ∧ M 26 3 ≤ 120) ∧ (∀ o24 : Nat, (o24 = if 0 ≤ l ∧ l < M 26 8 ∧ 0 ≤ M 392 l.toNat ∧ M 392 l.toNat < M 26 3 then 26 + 1 + 1 + 3 * (M 392 l.toNat).toNat else 26 + 362) → (ab_ir ((M o24 3) * 256 + zz) ∧ tv_ok M) ∧ (∀ r39 : Int, (r39 = if ¬ tv M (M o24 3) zz = 0 then 1 else 0) → (ab_ir r39) ∧ ((r39 = 0 → K [Xi ((M o24 4) + (1 : Int))] M) ∧ (¬ r39 = 0 → K [Xi (-1 : Int)] M))))) ∧ (cut = 0 → (ab_ir l ∧ M 26 8 ≤ 4 ∧ 0 ≤ M 26 8) ∧ (∀ r10 : Int, (r10 = if 0 ≤ l ∧ l < M 26 8 then M 392 l.toNat else -1) → (∃ L_14 : List Int, (ab_ir r10 ∧ ts_L M L_14) ∧ (∀ M14 : ab_M, (ts_L M14 (pl_ad r10 zz L_14) ∧ ts_f M M14) → K [Xi (-1 : Int)] M14))))) := by
  obtain ⟨L, ⟨⟨⟨gL, gv⟩, gp, gt1, gt2⟩, gl, gc⟩, gK⟩ := hS
  have gp2 := id gp
  obtain ⟨a1, a2, a3, a4, a5⟩ := gp2
  have hlp := gp.lp l
  have hq : 0 ≤ l → l < M 26 8 → 0 ≤ M 392 l.toNat ∧ M 392 l.toNat < M 26 3 := fun q1 q2 => a3 l.toNat (by omega)
  refine And.intro (by
    first
      | exact gv
      | exact gL
      | exact gl
      | exact gc
      | omega
      | exact ⟨by omega, by omega⟩
      | exact ⟨⟨by omega, by omega⟩, gv⟩
      | exact ⟨⟨by omega, by omega⟩, gL⟩
      | (split <;> exact ⟨by decide, by decide⟩)
      | exact ⟨⟨by omega, by omega⟩, by omega, by omega⟩) ?_
  refine ⟨?_, ?_⟩
  · intro c1
    refine And.intro (by
      first
        | exact gv
        | exact gL
        | exact gl
        | exact gc
        | omega
        | exact ⟨by omega, by omega⟩
        | exact ⟨⟨by omega, by omega⟩, gv⟩
        | exact ⟨⟨by omega, by omega⟩, gL⟩
        | (split <;> exact ⟨by decide, by decide⟩)
        | exact ⟨⟨by omega, by omega⟩, by omega, by omega⟩) ?_
    intro o24 hr24
    have ho : o24 = lp_at M l := hr24
    clear hr24
    subst ho
    have hlp2 := id hlp
    obtain ⟨s1, s2, s3, s4, s5, s6, s7, s8, s9, s10, s11⟩ := hlp2
    refine And.intro (by
      first
        | exact gv
        | exact gL
        | exact gl
        | exact gc
        | omega
        | exact ⟨by omega, by omega⟩
        | exact ⟨⟨by omega, by omega⟩, gv⟩
        | exact ⟨⟨by omega, by omega⟩, gL⟩
        | (split <;> exact ⟨by decide, by decide⟩)
        | exact ⟨⟨by omega, by omega⟩, by omega, by omega⟩) ?_
    intro r39 hr39
    refine And.intro (by
      first
        | exact gv
        | exact gL
        | exact gl
        | exact gc
        | omega
        | exact ⟨by omega, by omega⟩
        | exact ⟨⟨by omega, by omega⟩, gv⟩
        | exact ⟨⟨by omega, by omega⟩, gL⟩
        | (split <;> exact ⟨by decide, by decide⟩)
        | exact ⟨⟨by omega, by omega⟩, by omega, by omega⟩) ?_
    refine ⟨?_, ?_⟩
    · intro c42
      rw [hr39] at c42
      rw [ab_bf] at c42
      clear hr39 r39
      unfold pl_back at gK
      first
        | (rw [if_pos (by assumption)] at gK; exact gK _ _ hM14 rfl)
        | (rw [if_neg (by assumption)] at gK
           first
             | (rw [if_neg (by assumption)] at gK; exact gK _ _ ⟨gL, ts_f.rf M⟩ rfl)
             | (rw [if_pos (Decidable.not_not.1 (by assumption))] at gK; exact gK _ _ ⟨gL, ts_f.rf M⟩ rfl))
    · intro c42
      rw [hr39] at c42
      rw [ab_bt] at c42
      clear hr39 r39
      unfold pl_back at gK
      first
        | (rw [if_pos (by assumption)] at gK; exact gK _ _ hM14 rfl)
        | (rw [if_neg (by assumption)] at gK
           first
             | (rw [if_neg (by assumption)] at gK; exact gK _ _ ⟨gL, ts_f.rf M⟩ rfl)
             | (rw [if_pos (Decidable.not_not.1 (by assumption))] at gK; exact gK _ _ ⟨gL, ts_f.rf M⟩ rfl))
  · intro c1
    refine And.intro (by
      exact ⟨gl, a2.2, a2.1⟩) ?_
    intro r10 hr10
    refine Exists.intro (L) <| ?_
    refine And.intro (by
      refine ⟨?_, gL⟩
      rw [hr10]
      split <;> omega) ?_
    intro M14 hM14
    rw [hr10] at hM14
    unfold pl_back at gK
    first
      | (rw [if_pos (by assumption)] at gK; exact gK _ _ hM14 rfl)
      | (rw [if_neg (by assumption)] at gK
         first
           | (rw [if_neg (by assumption)] at gK; exact gK _ _ ⟨gL, ts_f.rf M⟩ rfl)
           | (rw [if_pos (Decidable.not_not.1 (by assumption))] at gK; exact gK _ _ ⟨gL, ts_f.rf M⟩ rfl))

set_option maxRecDepth 20000 in
set_option maxHeartbeats 1000000 in
theorem ok_X5_ofBack (E : ab_E) : ab_Ok E 3 62 S_X5_ofBack := by
  refine ab_mk rq_X5_ofBack tk_X5_ofBack (rt := 1) (rfl) (cuts := []) (G := [(23, S_X1_loopRow), (24, S_X1_loopStatement), (59, S_X5_add), (75, S_X7_isTrue)]) (List.forall_mem_cons.mpr ⟨⟨1, by decide, ok_X1_loopRow E⟩, List.forall_mem_cons.mpr ⟨⟨2, by decide, ok_X1_loopStatement E⟩, List.forall_mem_cons.mpr ⟨⟨1, by decide, ok_X5_add E⟩, List.forall_mem_cons.mpr ⟨⟨1, by decide, ok_X7_isTrue E⟩, fun _ h => absurd h List.not_mem_nil⟩⟩⟩⟩) (by decide) 80 rfl ?_
  intro a M K wd wa hS
  unfold S_X5_ofBack at hS
  split at hS
  ·
    rename_i l zz cut
    refine ⟨Nat.le_of_ble_eq_true rfl, fun _ _ _ _ _ => False, ?_, ?_⟩
    · exact vc_X5_ofBack_0 l zz cut M K  hS
    · exact fun _ _ _ _ _ h => h.elim
  · exact hS.elim
def S_X5_find : ab_PT := fun a M K => match a with
  | [.inr (.inr (.inr (772, 5, 0))), .inr (.inl row), .inr (.inl zz), .inr (.inl cut)] => ((tv_ok M ∧ ts_p M ∧ 0 ≤ zz ∧ zz ≤ 255) ∧ (0 ≤ row ∧ row < 130) ∧ ab_ir cut) ∧ (∀ rx : Int, ∀ Mx : ab_M, (ts_L Mx (pl_fd M row zz cut).2 ∧ ts_f M Mx) → (rx = (pl_fd M row zz cut).1) → K [Xi rx] Mx)
  | _ => False
set_option maxRecDepth 20000 in
theorem vc_X5_find_0 (row : Int) (zz : Int) (cut : Int) (M : ab_M) (K : List ab_V → ab_M → Prop) (hS : ((tv_ok M ∧ ts_p M ∧ 0 ≤ zz ∧ zz ≤ 255) ∧ (0 ≤ row ∧ row < 130) ∧ ab_ir cut) ∧ (∀ rx : Int, ∀ Mx : ab_M, (ts_L Mx (pl_fd M row zz cut).2 ∧ ts_f M Mx) → (rx = (pl_fd M row zz cut).1) → K [Xi rx] Mx)) : (-128 ≤ (120 : Int) ∧ (120 : Int) < 128) ∧ (ab_ir row ∧ ab_ir (120 : Int)) ∧ (((120 : Int) ≤ row → (-128 ≤ (126 : Int) ∧ (126 : Int) < 128) ∧ (ab_ir row ∧ ab_ir (126 : Int)) ∧ ((row < (126 : Int) → (-128 ≤ (122 : Int) ∧ (122 : Int) < 128) ∧ (ab_ir row ∧ ab_ir (122 : Int)) ∧ ((row < (122 : Int) → K [Xi (-1 : Int)] (ab_up M 772 3 (0 : Int))) ∧ ((122 : Int) ≤ row → (-128 ≤ (122 : Int) ∧ (122 : Int) < 128) ∧ (∃ L_63 : List Int, (((ts_L (ab_up M 772 3 (0 : Int)) L_63 ∧ tv_ok (ab_up M 772 3 (0 : Int))) ∧ ts_p (ab_up M 772 3 (0 : Int)) ∧ 0 ≤ zz ∧ zz ≤ 255) ∧ (ab_ir (row - (122 : Int)) ∧ ab_ir cut)) ∧ (∀ r63 : Int, ∀ M63 : ab_M, (ts_L M63 (pl_back (ab_up M 772 3 (0 : Int)) (row - (122 : Int)) zz cut L_63).2 ∧ ts_f (ab_up M 772 3 (0 : Int)) M63) → (r63 = (pl_back (ab_up M 772 3 (0 : Int)) (row - (122 : Int)) zz cut L_63).1) → K [Xi r63] M63))))) ∧ ((126 : Int) ≤ row → (-128 ≤ (126 : Int) ∧ (126 : Int) < 128) ∧ (ab_ir (row - (126 : Int)) ∧ (ab_up M 772 3 (0 : Int)) 26 8 ≤ 4 ∧ 0 ≤ (ab_up M 772 3 (0 : Int)) 26 8 ∧ (0 ≤ (row - (126 : Int)) ∧ (row - (126 : Int)) < (ab_up M 772 3 (0 : Int)) 26 8 → ab_ir ((ab_up M 772 3 (0 : Int)) 392 (row - (126 : Int)).toNat)) ∧ 0 ≤ (ab_up M 772 3 (0 : Int)) 26 3 ∧ (ab_up M 772 3 (0 : Int)) 26 3 ≤ 120) ∧ (∀ o41 : Nat, (o41 = if 0 ≤ (row - (126 : Int)) ∧ (row - (126 : Int)) < (ab_up M 772 3 (0 : Int)) 26 8 ∧ 0 ≤ (ab_up M 772 3 (0 : Int)) 392 (row - (126 : Int)).toNat ∧ (ab_up M 772 3 (0 : Int)) 392 (row - (126 : Int)).toNat < (ab_up M 772 3 (0 : Int)) 26 3 then 26 + 1 + 1 + 3 * ((ab_up M 772 3 (0 : Int)) 392 (row - (126 : Int)).toNat).toNat else 26 + 362) → (∃ L_45 : List Int, (((ts_L (ab_up M 772 3 (0 : Int)) L_45 ∧ tv_ok (ab_up M 772 3 (0 : Int))) ∧ ts_s (ab_up M 772 3 (0 : Int)) o41 ∧ 0 ≤ zz ∧ zz ≤ 255)) ∧ (∀ M45 : ab_M, (ts_L M45 (pl_head (ab_up M 772 3 (0 : Int)) o41 zz L_45) ∧ ts_f (ab_up M 772 3 (0 : Int)) M45) → K [Xi (-1 : Int)] M45)))))) ∧ (row < (120 : Int) → (ab_ir row ∧ 0 ≤ (ab_up M 772 3 (0 : Int)) 26 3 ∧ (ab_up M 772 3 (0 : Int)) 26 3 ≤ 120) ∧ (∀ o17 : Nat, (o17 = if 0 ≤ row ∧ row < (ab_up M 772 3 (0 : Int)) 26 3 then 26 + 1 + 1 + 3 * row.toNat else 26 + 362) → (∃ L_22 : List Int, (((ts_L (ab_up M 772 3 (0 : Int)) L_22 ∧ tv_ok (ab_up M 772 3 (0 : Int))) ∧ ts_s (ab_up M 772 3 (0 : Int)) o17 ∧ 0 ≤ zz ∧ zz ≤ 255) ∧ ab_ir cut) ∧ (∀ r22 : Int, ∀ M22 : ab_M, (ts_L M22 (pl_st (ab_up M 772 3 (0 : Int)) o17 zz cut L_22).2 ∧ ts_f (ab_up M 772 3 (0 : Int)) M22) → (r22 = (pl_st (ab_up M 772 3 (0 : Int)) o17 zz cut L_22).1) → K [Xi r22] M22))))) := by
  obtain ⟨⟨⟨gv, gp, gt1, gt2⟩, ⟨gr1, gr2⟩, gc⟩, gK⟩ := hS
  have h0 := ts_up M 0
  have gL0 := ts_L_up M
  generalize ab_up M 772 3 0 = M0 at *
  have gv0 := ts_f_ok h0 gv
  have gp0 := ts_p_fr h0.e gp
  have gr : ab_ir row := ⟨by omega, by omega⟩
  have gp2 := id gp0
  obtain ⟨a1, a2, a3, a4, a5⟩ := gp2
  have hq : 0 ≤ row - 126 → row - 126 < M0 26 8 → 0 ≤ M0 392 (row - 126).toNat ∧ M0 392 (row - 126).toNat < M0 26 3 := fun q1 q2 => a3 (row - 126).toNat (by omega)
  refine And.intro (by
    first
      | exact gr
      | exact gc
      | omega
      | exact ⟨by omega, by omega⟩
      | exact ⟨gr, a1⟩
      | exact ⟨⟨by omega, by omega⟩, a2.2, a2.1, fun q => ⟨by have := hq q.1 q.2; omega, by have := hq q.1 q.2; omega⟩, a1⟩
      | exact ⟨⟨⟨gL0, gv0⟩, gp0.st row, gt1, gt2⟩, gc⟩
      | exact ⟨⟨gL0, gv0⟩, gp0.lp (row - 126), gt1, gt2⟩
      | exact ⟨⟨⟨gL0, gv0⟩, gp0, gt1, gt2⟩, ⟨by omega, by omega⟩, gc⟩
      | exact ⟨⟨by omega, by omega⟩, by omega, by omega⟩) ?_
  refine And.intro (by
    first
      | exact gr
      | exact gc
      | omega
      | exact ⟨by omega, by omega⟩
      | exact ⟨gr, a1⟩
      | exact ⟨⟨by omega, by omega⟩, a2.2, a2.1, fun q => ⟨by have := hq q.1 q.2; omega, by have := hq q.1 q.2; omega⟩, a1⟩
      | exact ⟨⟨⟨gL0, gv0⟩, gp0.st row, gt1, gt2⟩, gc⟩
      | exact ⟨⟨gL0, gv0⟩, gp0.lp (row - 126), gt1, gt2⟩
      | exact ⟨⟨⟨gL0, gv0⟩, gp0, gt1, gt2⟩, ⟨by omega, by omega⟩, gc⟩
      | exact ⟨⟨by omega, by omega⟩, by omega, by omega⟩) ?_
  refine ⟨?_, ?_⟩
  · intro c8
    refine And.intro (by
      first
        | exact gr
        | exact gc
        | omega
        | exact ⟨by omega, by omega⟩
        | exact ⟨gr, a1⟩
        | exact ⟨⟨by omega, by omega⟩, a2.2, a2.1, fun q => ⟨by have := hq q.1 q.2; omega, by have := hq q.1 q.2; omega⟩, a1⟩
        | exact ⟨⟨⟨gL0, gv0⟩, gp0.st row, gt1, gt2⟩, gc⟩
        | exact ⟨⟨gL0, gv0⟩, gp0.lp (row - 126), gt1, gt2⟩
        | exact ⟨⟨⟨gL0, gv0⟩, gp0, gt1, gt2⟩, ⟨by omega, by omega⟩, gc⟩
        | exact ⟨⟨by omega, by omega⟩, by omega, by omega⟩) ?_
    refine And.intro (by
      first
        | exact gr
        | exact gc
        | omega
        | exact ⟨by omega, by omega⟩
        | exact ⟨gr, a1⟩
        | exact ⟨⟨by omega, by omega⟩, a2.2, a2.1, fun q => ⟨by have := hq q.1 q.2; omega, by have := hq q.1 q.2; omega⟩, a1⟩
        | exact ⟨⟨⟨gL0, gv0⟩, gp0.st row, gt1, gt2⟩, gc⟩
        | exact ⟨⟨gL0, gv0⟩, gp0.lp (row - 126), gt1, gt2⟩
        | exact ⟨⟨⟨gL0, gv0⟩, gp0, gt1, gt2⟩, ⟨by omega, by omega⟩, gc⟩
        | exact ⟨⟨by omega, by omega⟩, by omega, by omega⟩) ?_
    refine ⟨?_, ?_⟩
    · intro c29
      refine And.intro (by
        first
          | exact gr
          | exact gc
          | omega
          | exact ⟨by omega, by omega⟩
          | exact ⟨gr, a1⟩
          | exact ⟨⟨by omega, by omega⟩, a2.2, a2.1, fun q => ⟨by have := hq q.1 q.2; omega, by have := hq q.1 q.2; omega⟩, a1⟩
          | exact ⟨⟨⟨gL0, gv0⟩, gp0.st row, gt1, gt2⟩, gc⟩
          | exact ⟨⟨gL0, gv0⟩, gp0.lp (row - 126), gt1, gt2⟩
          | exact ⟨⟨⟨gL0, gv0⟩, gp0, gt1, gt2⟩, ⟨by omega, by omega⟩, gc⟩
          | exact ⟨⟨by omega, by omega⟩, by omega, by omega⟩) ?_
      refine And.intro (by
        first
          | exact gr
          | exact gc
          | omega
          | exact ⟨by omega, by omega⟩
          | exact ⟨gr, a1⟩
          | exact ⟨⟨by omega, by omega⟩, a2.2, a2.1, fun q => ⟨by have := hq q.1 q.2; omega, by have := hq q.1 q.2; omega⟩, a1⟩
          | exact ⟨⟨⟨gL0, gv0⟩, gp0.st row, gt1, gt2⟩, gc⟩
          | exact ⟨⟨gL0, gv0⟩, gp0.lp (row - 126), gt1, gt2⟩
          | exact ⟨⟨⟨gL0, gv0⟩, gp0, gt1, gt2⟩, ⟨by omega, by omega⟩, gc⟩
          | exact ⟨⟨by omega, by omega⟩, by omega, by omega⟩) ?_
      refine ⟨?_, ?_⟩
      · intro c53
        unfold pl_fd at gK
        first
          | (rw [if_pos (by omega)] at gK
             rw [st_at_fr h0.e, pl_st_fr h0.e (gp.st row)] at hM22 hr22
             exact gK _ _ ⟨hM22.1, h0.trans hM22.2⟩ hr22)
          | (rw [if_neg (by omega), if_pos (by omega)] at gK
             rw [lp_at_fr h0.e, pl_head_fr h0.e (gp.lp (row - 126))] at hM45
             exact gK _ _ ⟨hM45.1, h0.trans hM45.2⟩ rfl)
          | (rw [if_neg (by omega), if_neg (by omega), if_pos (by omega)] at gK
             rw [pl_back_fr h0.e gp] at hM63 hr63
             exact gK _ _ ⟨hM63.1, h0.trans hM63.2⟩ hr63)
          | (rw [if_neg (by omega), if_neg (by omega), if_neg (by omega)] at gK
             exact gK _ _ ⟨gL0, h0⟩ rfl)
      · intro c53
        refine And.intro (by
          first
            | exact gr
            | exact gc
            | omega
            | exact ⟨by omega, by omega⟩
            | exact ⟨gr, a1⟩
            | exact ⟨⟨by omega, by omega⟩, a2.2, a2.1, fun q => ⟨by have := hq q.1 q.2; omega, by have := hq q.1 q.2; omega⟩, a1⟩
            | exact ⟨⟨⟨gL0, gv0⟩, gp0.st row, gt1, gt2⟩, gc⟩
            | exact ⟨⟨gL0, gv0⟩, gp0.lp (row - 126), gt1, gt2⟩
            | exact ⟨⟨⟨gL0, gv0⟩, gp0, gt1, gt2⟩, ⟨by omega, by omega⟩, gc⟩
            | exact ⟨⟨by omega, by omega⟩, by omega, by omega⟩) ?_
        refine Exists.intro ([]) <| ?_
        refine And.intro (by
          first
            | exact gr
            | exact gc
            | omega
            | exact ⟨by omega, by omega⟩
            | exact ⟨gr, a1⟩
            | exact ⟨⟨by omega, by omega⟩, a2.2, a2.1, fun q => ⟨by have := hq q.1 q.2; omega, by have := hq q.1 q.2; omega⟩, a1⟩
            | exact ⟨⟨⟨gL0, gv0⟩, gp0.st row, gt1, gt2⟩, gc⟩
            | exact ⟨⟨gL0, gv0⟩, gp0.lp (row - 126), gt1, gt2⟩
            | exact ⟨⟨⟨gL0, gv0⟩, gp0, gt1, gt2⟩, ⟨by omega, by omega⟩, gc⟩
            | exact ⟨⟨by omega, by omega⟩, by omega, by omega⟩) ?_
        intro r63 M63 hM63 hr63
        unfold pl_fd at gK
        first
          | (rw [if_pos (by omega)] at gK
             rw [st_at_fr h0.e, pl_st_fr h0.e (gp.st row)] at hM22 hr22
             exact gK _ _ ⟨hM22.1, h0.trans hM22.2⟩ hr22)
          | (rw [if_neg (by omega), if_pos (by omega)] at gK
             rw [lp_at_fr h0.e, pl_head_fr h0.e (gp.lp (row - 126))] at hM45
             exact gK _ _ ⟨hM45.1, h0.trans hM45.2⟩ rfl)
          | (rw [if_neg (by omega), if_neg (by omega), if_pos (by omega)] at gK
             rw [pl_back_fr h0.e gp] at hM63 hr63
             exact gK _ _ ⟨hM63.1, h0.trans hM63.2⟩ hr63)
          | (rw [if_neg (by omega), if_neg (by omega), if_neg (by omega)] at gK
             exact gK _ _ ⟨gL0, h0⟩ rfl)
    · intro c29
      refine And.intro (by
        first
          | exact gr
          | exact gc
          | omega
          | exact ⟨by omega, by omega⟩
          | exact ⟨gr, a1⟩
          | exact ⟨⟨by omega, by omega⟩, a2.2, a2.1, fun q => ⟨by have := hq q.1 q.2; omega, by have := hq q.1 q.2; omega⟩, a1⟩
          | exact ⟨⟨⟨gL0, gv0⟩, gp0.st row, gt1, gt2⟩, gc⟩
          | exact ⟨⟨gL0, gv0⟩, gp0.lp (row - 126), gt1, gt2⟩
          | exact ⟨⟨⟨gL0, gv0⟩, gp0, gt1, gt2⟩, ⟨by omega, by omega⟩, gc⟩
          | exact ⟨⟨by omega, by omega⟩, by omega, by omega⟩) ?_
      refine And.intro (by
        first
          | exact gr
          | exact gc
          | omega
          | exact ⟨by omega, by omega⟩
          | exact ⟨gr, a1⟩
          | exact ⟨⟨by omega, by omega⟩, a2.2, a2.1, fun q => ⟨by have := hq q.1 q.2; omega, by have := hq q.1 q.2; omega⟩, a1⟩
          | exact ⟨⟨⟨gL0, gv0⟩, gp0.st row, gt1, gt2⟩, gc⟩
          | exact ⟨⟨gL0, gv0⟩, gp0.lp (row - 126), gt1, gt2⟩
          | exact ⟨⟨⟨gL0, gv0⟩, gp0, gt1, gt2⟩, ⟨by omega, by omega⟩, gc⟩
          | exact ⟨⟨by omega, by omega⟩, by omega, by omega⟩) ?_
      intro o41 hr41
      have ho : o41 = lp_at M0 (row - 126) := hr41
      clear hr41
      subst ho
      refine Exists.intro ([]) <| ?_
      refine And.intro (by
        first
          | exact gr
          | exact gc
          | omega
          | exact ⟨by omega, by omega⟩
          | exact ⟨gr, a1⟩
          | exact ⟨⟨by omega, by omega⟩, a2.2, a2.1, fun q => ⟨by have := hq q.1 q.2; omega, by have := hq q.1 q.2; omega⟩, a1⟩
          | exact ⟨⟨⟨gL0, gv0⟩, gp0.st row, gt1, gt2⟩, gc⟩
          | exact ⟨⟨gL0, gv0⟩, gp0.lp (row - 126), gt1, gt2⟩
          | exact ⟨⟨⟨gL0, gv0⟩, gp0, gt1, gt2⟩, ⟨by omega, by omega⟩, gc⟩
          | exact ⟨⟨by omega, by omega⟩, by omega, by omega⟩) ?_
      intro M45 hM45
      unfold pl_fd at gK
      first
        | (rw [if_pos (by omega)] at gK
           rw [st_at_fr h0.e, pl_st_fr h0.e (gp.st row)] at hM22 hr22
           exact gK _ _ ⟨hM22.1, h0.trans hM22.2⟩ hr22)
        | (rw [if_neg (by omega), if_pos (by omega)] at gK
           rw [lp_at_fr h0.e, pl_head_fr h0.e (gp.lp (row - 126))] at hM45
           exact gK _ _ ⟨hM45.1, h0.trans hM45.2⟩ rfl)
        | (rw [if_neg (by omega), if_neg (by omega), if_pos (by omega)] at gK
           rw [pl_back_fr h0.e gp] at hM63 hr63
           exact gK _ _ ⟨hM63.1, h0.trans hM63.2⟩ hr63)
        | (rw [if_neg (by omega), if_neg (by omega), if_neg (by omega)] at gK
           exact gK _ _ ⟨gL0, h0⟩ rfl)
  · intro c8
    refine And.intro (by
      first
        | exact gr
        | exact gc
        | omega
        | exact ⟨by omega, by omega⟩
        | exact ⟨gr, a1⟩
        | exact ⟨⟨by omega, by omega⟩, a2.2, a2.1, fun q => ⟨by have := hq q.1 q.2; omega, by have := hq q.1 q.2; omega⟩, a1⟩
        | exact ⟨⟨⟨gL0, gv0⟩, gp0.st row, gt1, gt2⟩, gc⟩
        | exact ⟨⟨gL0, gv0⟩, gp0.lp (row - 126), gt1, gt2⟩
        | exact ⟨⟨⟨gL0, gv0⟩, gp0, gt1, gt2⟩, ⟨by omega, by omega⟩, gc⟩
        | exact ⟨⟨by omega, by omega⟩, by omega, by omega⟩) ?_
    intro o17 hr17
    have ho : o17 = st_at M0 row := hr17
    clear hr17
    subst ho
    refine Exists.intro ([]) <| ?_
    refine And.intro (by
      first
        | exact gr
        | exact gc
        | omega
        | exact ⟨by omega, by omega⟩
        | exact ⟨gr, a1⟩
        | exact ⟨⟨by omega, by omega⟩, a2.2, a2.1, fun q => ⟨by have := hq q.1 q.2; omega, by have := hq q.1 q.2; omega⟩, a1⟩
        | exact ⟨⟨⟨gL0, gv0⟩, gp0.st row, gt1, gt2⟩, gc⟩
        | exact ⟨⟨gL0, gv0⟩, gp0.lp (row - 126), gt1, gt2⟩
        | exact ⟨⟨⟨gL0, gv0⟩, gp0, gt1, gt2⟩, ⟨by omega, by omega⟩, gc⟩
        | exact ⟨⟨by omega, by omega⟩, by omega, by omega⟩) ?_
    intro r22 M22 hM22 hr22
    unfold pl_fd at gK
    first
      | (rw [if_pos (by omega)] at gK
         rw [st_at_fr h0.e, pl_st_fr h0.e (gp.st row)] at hM22 hr22
         exact gK _ _ ⟨hM22.1, h0.trans hM22.2⟩ hr22)
      | (rw [if_neg (by omega), if_pos (by omega)] at gK
         rw [lp_at_fr h0.e, pl_head_fr h0.e (gp.lp (row - 126))] at hM45
         exact gK _ _ ⟨hM45.1, h0.trans hM45.2⟩ rfl)
      | (rw [if_neg (by omega), if_neg (by omega), if_pos (by omega)] at gK
         rw [pl_back_fr h0.e gp] at hM63 hr63
         exact gK _ _ ⟨hM63.1, h0.trans hM63.2⟩ hr63)
      | (rw [if_neg (by omega), if_neg (by omega), if_neg (by omega)] at gK
         exact gK _ _ ⟨gL0, h0⟩ rfl)

set_option maxRecDepth 20000 in
set_option maxHeartbeats 1000000 in
theorem ok_X5_find (E : ab_E) : ab_Ok E 4 61 S_X5_find := by
  refine ab_mk rq_X5_find tk_X5_find (rt := 1) (rfl) (cuts := []) (G := [(16, S_X1_at), (24, S_X1_loopStatement), (62, S_X5_ofBack), (64, S_X5_ofHead), (65, S_X5_ofStatement)]) (List.forall_mem_cons.mpr ⟨⟨1, by decide, ok_X1_at E⟩, List.forall_mem_cons.mpr ⟨⟨2, by decide, ok_X1_loopStatement E⟩, List.forall_mem_cons.mpr ⟨⟨3, by decide, ok_X5_ofBack E⟩, List.forall_mem_cons.mpr ⟨⟨2, by decide, ok_X5_ofHead E⟩, List.forall_mem_cons.mpr ⟨⟨3, by decide, ok_X5_ofStatement E⟩, fun _ h => absurd h List.not_mem_nil⟩⟩⟩⟩⟩) (by decide) 92 rfl ?_
  intro a M K wd wa hS
  unfold S_X5_find at hS
  split at hS
  ·
    rename_i row zz cut
    refine ⟨Nat.le_of_ble_eq_true rfl, fun _ _ _ _ _ => False, ?_, ?_⟩
    · exact vc_X5_find_0 row zz cut M K  hS
    · exact fun _ _ _ _ _ h => h.elim
  · exact hS.elim
