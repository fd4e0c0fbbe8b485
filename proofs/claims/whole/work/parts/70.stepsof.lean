/-! the places that a statement leads to -/
theorem ts_L.uq {M : ab_M} {L L' : List Int} (h : ts_L M L) (h' : ts_L M L') : L = L' := by
  have e : L.length = L'.length := by have := h.1; have := h'.1; omega
  refine List.ext_getElem e fun i h1 h2 => ?_
  have a := h.2.2 i h1
  have a' := h'.2.2 i h2
  rw [a] at a'
  simpa [h1, h2] using a'
/-- one value of a havoc -/
def pl_hv (M : ab_M) (s : Nat) (st v : Int) (L : List Int) : List Int := if M s 3 < 0 ∨ ¬ tv M (M s 3) (pz_sw st (M s 1) v) = 0 then pl_ad (M s 17) (pz_sw st (M s 1) v) L else L
def pl_h (M : ab_M) (s : Nat) (st : Int) (L : List Int) : Nat → List Int
  | 0 => L
  | n + 1 => pl_hv M s st ((n : Nat) : Int) (pl_h M s st L n)
/-- a loop whose runs are cut -/
def pl_cut (M : ab_M) (s : Nat) (st : Int) (L : List Int) : Int × List Int := if tv M (M s 3) st = 0 then (M s 4, L) else (-1, pl_ad (126 + M s 5) (ab_and st (ab_xor (M s 7) (-1))) L)
/-- what a step asks of a statement's row -/
def ts_s (M : ab_M) (s : Nat) : Prop := s ≠ 772 ∧ s ≠ 773 ∧ ab_ir (M s 0) ∧ (-1 ≤ M s 1 ∧ M s 1 ≤ 3) ∧ (-1 ≤ M s 2 ∧ M s 2 ≤ 63) ∧ (-1 ≤ M s 3 ∧ M s 3 ≤ 63) ∧ ab_ir (M s 17) ∧ ab_ir (M s 18) ∧ (-1 ≤ M s 5 ∧ M s 5 ≤ 3) ∧ (0 ≤ M s 7 ∧ M s 7 ≤ 255) ∧ (M s 0 = 104 ∨ M s 0 = 112 ∨ M s 0 = 118 → 0 ≤ M s 1) ∧ s < 700 ∧ -1 ≤ M s 4 ∧ M s 4 ≤ 15
theorem ts_f.s {M M1 : ab_M} (h : ts_f M M1) {s : Nat} (hs : ts_s M s) (k : Nat) : M1 s k = M s k := h s k hs.2.1 (fun q => hs.1 q.1)
theorem ts_f_ok {M M1 : ab_M} (h : ts_f M M1) (hv : tv_ok M) : tv_ok M1 := fun k => by rw [h 770 k (by decide) (fun q => absurd q.1 (by decide))]; exact hv k
theorem tv_r {M : ab_M} (h : tv_ok M) (t s : Int) : 0 ≤ tv M t s ∧ tv M t s ≤ 3 := by
  unfold tv
  split
  · exact h _
  · exact ⟨by decide, by decide⟩
/-- a step of a statement -/
def pl_st (M : ab_M) (s : Nat) (st cut : Int) (L : List Int) : Int × List Int :=
  if M s 0 = 118 then (-1, pl_ad (M s 17) (pz_sw st (M s 1) (tv M (M s 2) st)) L)
  else if M s 0 = 104 then (-1, pl_h M s st L 4)
  else if M s 0 = 107 then (if tv M (M s 2) st = 0 then (M s 4, L) else (-1, pl_ad (M s 17) st L))
  else if M s 0 = 115 then (-1, if tv M (M s 2) st = 0 then L else pl_ad (M s 17) st L)
  else if M s 0 = 112 then (if tv M (M s 2) st = 0 then (M s 4, L) else (-1, pl_h M s st L 4))
  else if M s 0 = 119 ∧ cut = 1 then pl_cut M s st L
  else if M s 0 = 119 ∨ M s 0 = 105 then (-1, pl_ad (if tv M (M s 2) st = 0 then M s 18 else M s 17) st L)
  else (-1, pl_ad (M s 17) st L)
/-- the cells that a step reads are the same -/
def ts_e (M M' : ab_M) : Prop := ∀ o' k' : Nat, o' < 771 → M' o' k' = M o' k'
theorem ts_f.e {M M1 : ab_M} (h : ts_f M M1) : ts_e M M1 := fun o' k' q => h o' k' (by omega) (by omega)
theorem ts_e.s {M M1 : ab_M} (h : ts_e M M1) {s : Nat} (hs : ts_s M s) (k : Nat) : M1 s k = M s k := h s k (by have := hs.2.2.2.2.2.2.2.2.2.2.2; omega)
theorem ts_e_tv {M M1 : ab_M} (h : ts_e M M1) (t s : Int) : tv M1 t s = tv M t s := by unfold tv; rw [h 770 _ (by decide)]
theorem ts_e.c {M M1 : ab_M} (h : ts_e M M1) (o k : Nat) (h1 : o < 771) : M1 o k = M o k := h o k h1
theorem ts_e_ok {M M1 : ab_M} (h : ts_e M M1) (hv : tv_ok M) : tv_ok M1 := fun k => by rw [h 770 k (by decide)]; exact hv k
theorem ts_e.rf (M : ab_M) : ts_e M M := fun _ _ _ => rfl
theorem ts_e.trans {M M1 M2 : ab_M} (h : ts_e M M1) (h' : ts_e M1 M2) : ts_e M M2 := fun o' k' a => (h' o' k' a).trans (h o' k' a)

def S_X5_addHavoc : ab_PT := fun a M K => match a with
  | [.inr (.inr (.inr (772, 5, 0))), .inr (.inr (.inr (s, 4, nn))), .inr (.inl zz)] => (∃ L : List Int, (((ts_L M L ∧ tv_ok M) ∧ ts_s M s ∧ 0 ≤ zz ∧ zz ≤ 255) ∧ 0 ≤ M s 1) ∧ (∀ Mx : ab_M, (ts_L Mx (pl_h M s zz L 4) ∧ ts_f M Mx) → K [] Mx))
  | _ => False
set_option maxRecDepth 20000 in
theorem vc_X5_addHavoc_0 (s : Nat) (nn : Nat) (zz : Int) (M : ab_M) (K : List ab_V → ab_M → Prop) (hS : (∃ L : List Int, (((ts_L M L ∧ tv_ok M) ∧ ts_s M s ∧ 0 ≤ zz ∧ zz ≤ 255) ∧ 0 ≤ M s 1) ∧ (∀ Mx : ab_M, (ts_L Mx (pl_h M s zz L 4) ∧ ts_f M Mx) → K [] Mx))) : (∃ n', (s = s ∧ nn = nn ∧ (n' = (4 - (0 : Int)).toNat ∧ zz = zz ∧ 0 ≤ (0 : Int) ∧ (0 : Int) ≤ 4 ∧ ts_f M M ∧ ∀ L : List Int, ts_L M L → ts_L M (pl_h M s zz L (0 : Int).toNat)))) := by
  obtain ⟨L, ⟨⟨⟨gL, gv⟩, gs, gt1, gt2⟩, gx⟩, gK⟩ := hS
  have gs2 := id gs
  obtain ⟨s1, s2, s3, s4, s5, s6, s7, s8, s9, s10, s11⟩ := gs2
  
  exact ⟨_, rfl, rfl, rfl, rfl, by decide, by decide, ts_f.rf M, fun L h => h⟩

set_option maxRecDepth 20000 in
theorem vc_X5_addHavoc_2 (s : Nat) (nn : Nat) (zz : Int) (M : ab_M) (K : List ab_V → ab_M → Prop) (hS : (∃ L : List Int, (((ts_L M L ∧ tv_ok M) ∧ ts_s M s ∧ 0 ≤ zz ∧ zz ≤ 255) ∧ 0 ≤ M s 1) ∧ (∀ Mx : ab_M, (ts_L Mx (pl_h M s zz L 4) ∧ ts_f M Mx) → K [] Mx))) (n : Nat) (t1 : Int) (k : Int) (M1 : ab_M) (hI : n = (4 - k).toNat ∧ zz = t1 ∧ 0 ≤ k ∧ k ≤ 4 ∧ ts_f M M1 ∧ ∀ L : List Int, ts_L M L → ts_L M1 (pl_h M s zz L k.toNat)) : (ab_ir k ∧ ab_ir (4 : Int)) ∧ (((4 : Int) ≤ k → K [] M1) ∧ (k < (4 : Int) → (True) ∧ (∀ r13 : Int, (r13 = ab_or (ab_and t1 (ab_xor (ab_shl (4 - 1) (6 - 2 * (M1 s 1))) (-1))) (ab_shl k (6 - 2 * (M1 s 1)))) → (ab_ir (M1 s 3)) ∧ (((M1 s 3) < 0 → (∃ L_48 : List Int, (ab_ir (M1 s 17) ∧ ts_L M1 L_48) ∧ (∀ M48 : ab_M, (ts_L M48 (pl_ad (M1 s 17) r13 L_48) ∧ ts_f M1 M48) → (∃ n', n' < n ∧ (s = s ∧ nn = nn ∧ (n' = (4 - (k + 1)).toNat ∧ zz = t1 ∧ 0 ≤ (k + 1) ∧ (k + 1) ≤ 4 ∧ ts_f M M48 ∧ ∀ L : List Int, ts_L M L → ts_L M48 (pl_h M s zz L (k + 1).toNat))))))) ∧ (0 ≤ (M1 s 3) → (ab_ir ((M1 s 3) * 256 + r13) ∧ tv_ok M1) ∧ (∀ r35 : Int, (r35 = if ¬ tv M1 (M1 s 3) r13 = 0 then 1 else 0) → (ab_ir r35) ∧ ((r35 = 0 → (∃ n', n' < n ∧ (s = s ∧ nn = nn ∧ (n' = (4 - (k + 1)).toNat ∧ zz = t1 ∧ 0 ≤ (k + 1) ∧ (k + 1) ≤ 4 ∧ ts_f M M1 ∧ ∀ L : List Int, ts_L M L → ts_L M1 (pl_h M s zz L (k + 1).toNat))))) ∧ (¬ r35 = 0 → (∃ L_48 : List Int, (ab_ir (M1 s 17) ∧ ts_L M1 L_48) ∧ (∀ M48 : ab_M, (ts_L M48 (pl_ad (M1 s 17) r13 L_48) ∧ ts_f M1 M48) → (∃ n', n' < n ∧ (s = s ∧ nn = nn ∧ (n' = (4 - (k + 1)).toNat ∧ zz = t1 ∧ 0 ≤ (k + 1) ∧ (k + 1) ≤ 4 ∧ ts_f M M48 ∧ ∀ L : List Int, ts_L M L → ts_L M48 (pl_h M s zz L (k + 1).toNat)))))))))))))) := by
  obtain ⟨hn, q1, hk0, hk4, hf, hI⟩ := hI
  subst q1
  obtain ⟨L, ⟨⟨⟨gL, gv⟩, gs, gt1, gt2⟩, gx⟩, gK⟩ := hS
  have gs2 := id gs
  obtain ⟨s1, s2, s3, s4, s5, s6, s7, s8, s9, s10, s11⟩ := gs2
  have hIL := hI L gL
  have hs : ∀ j, M1 s j = M s j := hf.s gs
  have hv1 := ts_f_ok hf gv
  simp only [hs]
  refine And.intro (by
    first
      | exact hv1
      | exact hIL
      | omega
      | exact s7
      | exact trivial
      | exact ⟨by omega, by omega⟩
      | exact ⟨⟨by omega, by omega⟩, hv1⟩
      | exact ⟨s7, hIL⟩
      | (split <;> exact ⟨by decide, by decide⟩)
      | exact ⟨⟨by omega, by omega⟩, by omega, by omega⟩) ?_
  refine ⟨?_, ?_⟩
  · intro c4
    rw [show k.toNat = 4 by omega] at hIL
    exact gK _ ⟨hIL, hf⟩
  · intro c4
    refine And.intro trivial ?_
    intro r13 hr13
    have hx : r13 = pz_sw zz (M s 1) k := hr13
    have hxr := pz_sw_r zz (M s 1) k gt1 gt2 gx (by omega) hk0 (by omega)
    rw [← hx] at hxr
    clear hr13
    refine And.intro (by
      first
        | exact hv1
        | exact hIL
        | omega
        | exact s7
        | exact trivial
        | exact ⟨by omega, by omega⟩
        | exact ⟨⟨by omega, by omega⟩, hv1⟩
        | exact ⟨s7, hIL⟩
        | (split <;> exact ⟨by decide, by decide⟩)
        | exact ⟨⟨by omega, by omega⟩, by omega, by omega⟩) ?_
    refine ⟨?_, ?_⟩
    · intro c22
      refine Exists.intro (pl_h M s zz L k.toNat) <| ?_
      refine And.intro (by
        first
          | exact hv1
          | exact hIL
          | omega
          | exact s7
          | exact trivial
          | exact ⟨by omega, by omega⟩
          | exact ⟨⟨by omega, by omega⟩, hv1⟩
          | exact ⟨s7, hIL⟩
          | (split <;> exact ⟨by decide, by decide⟩)
          | exact ⟨⟨by omega, by omega⟩, by omega, by omega⟩) ?_
      intro M48 hM48
      (try rw [ts_f_tv hf] at *)
      first
        | (refine ⟨_, ?_, by trivial, by trivial, rfl, by trivial, by omega, by omega, hf.trans hM48.2, fun L' h' => ?_⟩
           · omega
           · have eu := gL.uq h'
             subst eu
             rw [show (k + 1).toNat = k.toNat + 1 by omega]
             show ts_L _ (pl_hv M s zz ((k.toNat : Nat) : Int) (pl_h M s zz L k.toNat))
             unfold pl_hv
             rw [show ((k.toNat : Nat) : Int) = k by omega, ← hx]
             rw [if_pos (by first | exact Or.inl (by omega) | exact Or.inr (by assumption))]
             exact hM48.1)
        | (refine ⟨_, ?_, by trivial, by trivial, rfl, by trivial, by omega, by omega, hf, fun L' h' => ?_⟩
           · omega
           · have eu := gL.uq h'
             subst eu
             rw [show (k + 1).toNat = k.toNat + 1 by omega]
             show ts_L _ (pl_hv M s zz ((k.toNat : Nat) : Int) (pl_h M s zz L k.toNat))
             unfold pl_hv
             rw [show ((k.toNat : Nat) : Int) = k by omega, ← hx]
             rw [if_neg (by intro hq; rcases hq with hq | hq <;> first | omega | exact absurd (by assumption) hq | exact hq (by assumption))]
             exact hIL)
    · intro c22
      refine And.intro (by
        first
          | exact hv1
          | exact hIL
          | omega
          | exact s7
          | exact trivial
          | exact ⟨by omega, by omega⟩
          | exact ⟨⟨by omega, by omega⟩, hv1⟩
          | exact ⟨s7, hIL⟩
          | (split <;> exact ⟨by decide, by decide⟩)
          | exact ⟨⟨by omega, by omega⟩, by omega, by omega⟩) ?_
      intro r35 hr35
      refine And.intro (by
        first
          | exact hv1
          | exact hIL
          | omega
          | exact s7
          | exact trivial
          | exact ⟨by omega, by omega⟩
          | exact ⟨⟨by omega, by omega⟩, hv1⟩
          | exact ⟨s7, hIL⟩
          | (split <;> exact ⟨by decide, by decide⟩)
          | exact ⟨⟨by omega, by omega⟩, by omega, by omega⟩) ?_
      refine ⟨?_, ?_⟩
      · intro c38
        rw [hr35] at c38
        rw [ab_bf] at c38
        clear hr35 r35
        (try rw [ts_f_tv hf] at *)
        first
          | (refine ⟨_, ?_, by trivial, by trivial, rfl, by trivial, by omega, by omega, hf.trans hM48.2, fun L' h' => ?_⟩
             · omega
             · have eu := gL.uq h'
               subst eu
               rw [show (k + 1).toNat = k.toNat + 1 by omega]
               show ts_L _ (pl_hv M s zz ((k.toNat : Nat) : Int) (pl_h M s zz L k.toNat))
               unfold pl_hv
               rw [show ((k.toNat : Nat) : Int) = k by omega, ← hx]
               rw [if_pos (by first | exact Or.inl (by omega) | exact Or.inr (by assumption))]
               exact hM48.1)
          | (refine ⟨_, ?_, by trivial, by trivial, rfl, by trivial, by omega, by omega, hf, fun L' h' => ?_⟩
             · omega
             · have eu := gL.uq h'
               subst eu
               rw [show (k + 1).toNat = k.toNat + 1 by omega]
               show ts_L _ (pl_hv M s zz ((k.toNat : Nat) : Int) (pl_h M s zz L k.toNat))
               unfold pl_hv
               rw [show ((k.toNat : Nat) : Int) = k by omega, ← hx]
               rw [if_neg (by intro hq; rcases hq with hq | hq <;> first | omega | exact absurd (by assumption) hq | exact hq (by assumption))]
               exact hIL)
      · intro c38
        rw [hr35] at c38
        rw [ab_bt] at c38
        clear hr35 r35
        refine Exists.intro (pl_h M s zz L k.toNat) <| ?_
        refine And.intro (by
          first
            | exact hv1
            | exact hIL
            | omega
            | exact s7
            | exact trivial
            | exact ⟨by omega, by omega⟩
            | exact ⟨⟨by omega, by omega⟩, hv1⟩
            | exact ⟨s7, hIL⟩
            | (split <;> exact ⟨by decide, by decide⟩)
            | exact ⟨⟨by omega, by omega⟩, by omega, by omega⟩) ?_
        intro M48 hM48
        (try rw [ts_f_tv hf] at *)
        first
          | (refine ⟨_, ?_, by trivial, by trivial, rfl, by trivial, by omega, by omega, hf.trans hM48.2, fun L' h' => ?_⟩
             · omega
             · have eu := gL.uq h'
               subst eu
               rw [show (k + 1).toNat = k.toNat + 1 by omega]
               show ts_L _ (pl_hv M s zz ((k.toNat : Nat) : Int) (pl_h M s zz L k.toNat))
               unfold pl_hv
               rw [show ((k.toNat : Nat) : Int) = k by omega, ← hx]
               rw [if_pos (by first | exact Or.inl (by omega) | exact Or.inr (by assumption))]
               exact hM48.1)
          | (refine ⟨_, ?_, by trivial, by trivial, rfl, by trivial, by omega, by omega, hf, fun L' h' => ?_⟩
             · omega
             · have eu := gL.uq h'
               subst eu
               rw [show (k + 1).toNat = k.toNat + 1 by omega]
               show ts_L _ (pl_hv M s zz ((k.toNat : Nat) : Int) (pl_h M s zz L k.toNat))
               unfold pl_hv
               rw [show ((k.toNat : Nat) : Int) = k by omega, ← hx]
               rw [if_neg (by intro hq; rcases hq with hq | hq <;> first | omega | exact absurd (by assumption) hq | exact hq (by assumption))]
               exact hIL)

set_option maxRecDepth 20000 in
set_option maxHeartbeats 1000000 in
theorem ok_X5_addHavoc (E : ab_E) : ab_Ok E 2 60 S_X5_addHavoc := by
  refine ab_mk rq_X5_addHavoc tk_X5_addHavoc (rt := 0) (rfl) (cuts := [2]) (G := [(59, S_X5_add), (75, S_X7_isTrue), (110, S_X8_stateWith)]) (List.forall_mem_cons.mpr ⟨⟨1, by decide, ok_X5_add E⟩, List.forall_mem_cons.mpr ⟨⟨1, by decide, ok_X7_isTrue E⟩, List.forall_mem_cons.mpr ⟨⟨1, by decide, ok_X8_stateWith E⟩, fun _ h => absurd h List.not_mem_nil⟩⟩⟩) (by decide) 79 rfl ?_
  intro a M K wd wa hS
  unfold S_X5_addHavoc at hS
  split at hS
  ·
    rename_i s nn zz
    refine ⟨Nat.le_of_ble_eq_true rfl, fun pc n L st M1 => match pc, L, st with
      | 2, [.inr (.inr (.inr (772, 5, 0))), .inr (.inr (.inr (s_, 4, nn_))), .inr (.inl t1), .inr (.inl k), u5_], [] => s_ = s ∧ nn_ = nn ∧ (n = (4 - k).toNat ∧ zz = t1 ∧ 0 ≤ k ∧ k ≤ 4 ∧ ts_f M M1 ∧ ∀ L : List Int, ts_L M L → ts_L M1 (pl_h M s zz L k.toNat))
      | _, _, _ => False, ?_, ?_⟩
    · exact vc_X5_addHavoc_0 s nn zz M K  hS
    · intro pc n L st M1 hI wd1 wL wst
      (try dsimp only at hI)
      split at hI
      ·
        rename_i s_ nn_ t1 k u5_
        obtain ⟨e0_, e1_, hI⟩ := hI
        have e0_ := e0_.symm
        subst e0_
        have e1_ := e1_.symm
        subst e1_
        exact vc_X5_addHavoc_2 s nn zz M K  hS n t1 k _ hI
      · exact hI.elim
  · exact hS.elim
def S_X5_ofCutLoop : ab_PT := fun a M K => match a with
  | [.inr (.inr (.inr (772, 5, 0))), .inr (.inr (.inr (s, 4, nn))), .inr (.inl zz)] => (∃ L : List Int, (((ts_L M L ∧ tv_ok M) ∧ ts_s M s ∧ 0 ≤ zz ∧ zz ≤ 255)) ∧ (∀ rx : Int, ∀ Mx : ab_M, (ts_L Mx (pl_cut M s zz L).2 ∧ ts_f M Mx) → (rx = (pl_cut M s zz L).1) → K [Xi rx] Mx))
  | _ => False
set_option maxRecDepth 20000 in
theorem vc_X5_ofCutLoop_0 (s : Nat) (nn : Nat) (zz : Int) (M : ab_M) (K : List ab_V → ab_M → Prop) (hS : (∃ L : List Int, (((ts_L M L ∧ tv_ok M) ∧ ts_s M s ∧ 0 ≤ zz ∧ zz ≤ 255)) ∧ (∀ rx : Int, ∀ Mx : ab_M, (ts_L Mx (pl_cut M s zz L).2 ∧ ts_f M Mx) → (rx = (pl_cut M s zz L).1) → K [Xi rx] Mx))) : (ab_ir ((M s 3) * 256 + zz) ∧ tv_ok M) ∧ (∀ r9 : Int, (r9 = if ¬ tv M (M s 3) zz = 0 then 1 else 0) → (ab_ir r9) ∧ ((¬ r9 = 0 → (-128 ≤ (126 : Int) ∧ (126 : Int) < 128) ∧ (∃ L_36 : List Int, (ab_ir ((126 : Int) + (M s 5)) ∧ ts_L M L_36) ∧ (∀ M36 : ab_M, (ts_L M36 (pl_ad ((126 : Int) + (M s 5)) (ab_and zz (ab_xor (M s 7) (-1 : Int))) L_36) ∧ ts_f M M36) → K [Xi (-1 : Int)] M36))) ∧ (r9 = 0 → K [Xi (M s 4)] M))) := by
  obtain ⟨L, ⟨⟨gL, gv⟩, gs, gt1, gt2⟩, gK⟩ := hS
  have gs2 := id gs
  obtain ⟨s1, s2, s3, s4, s5, s6, s7, s8, s9, s10, s11⟩ := gs2
  
  refine And.intro (by
    first
      | exact gv
      | exact gL
      | omega
      | exact s3
      | exact s7
      | exact s8
      | exact trivial
      | exact ⟨by omega, by omega⟩
      | exact ⟨⟨by omega, by omega⟩, gv⟩
      | exact ⟨s7, gL⟩
      | exact ⟨s8, gL⟩
      | exact ⟨⟨by omega, by omega⟩, gL⟩
      | exact ⟨⟨⟨gL, gv⟩, gs, gt1, gt2⟩, by omega⟩
      | exact ⟨⟨gL, gv⟩, gs, gt1, gt2⟩
      | (split <;> exact ⟨by decide, by decide⟩)
      | exact ⟨⟨by omega, by omega⟩, by omega, by omega⟩) ?_
  intro r9 hr9
  refine And.intro (by
    first
      | exact gv
      | exact gL
      | omega
      | exact s3
      | exact s7
      | exact s8
      | exact trivial
      | exact ⟨by omega, by omega⟩
      | exact ⟨⟨by omega, by omega⟩, gv⟩
      | exact ⟨s7, gL⟩
      | exact ⟨s8, gL⟩
      | exact ⟨⟨by omega, by omega⟩, gL⟩
      | exact ⟨⟨⟨gL, gv⟩, gs, gt1, gt2⟩, by omega⟩
      | exact ⟨⟨gL, gv⟩, gs, gt1, gt2⟩
      | (split <;> exact ⟨by decide, by decide⟩)
      | exact ⟨⟨by omega, by omega⟩, by omega, by omega⟩) ?_
  refine ⟨?_, ?_⟩
  · intro c12
    rw [hr9] at c12
    rw [ab_bt] at c12
    clear hr9 r9
    refine And.intro (by
      first
        | exact gv
        | exact gL
        | omega
        | exact s3
        | exact s7
        | exact s8
        | exact trivial
        | exact ⟨by omega, by omega⟩
        | exact ⟨⟨by omega, by omega⟩, gv⟩
        | exact ⟨s7, gL⟩
        | exact ⟨s8, gL⟩
        | exact ⟨⟨by omega, by omega⟩, gL⟩
        | exact ⟨⟨⟨gL, gv⟩, gs, gt1, gt2⟩, by omega⟩
        | exact ⟨⟨gL, gv⟩, gs, gt1, gt2⟩
        | (split <;> exact ⟨by decide, by decide⟩)
        | exact ⟨⟨by omega, by omega⟩, by omega, by omega⟩) ?_
    refine Exists.intro (L) <| ?_
    refine And.intro (by
      first
        | exact gv
        | exact gL
        | omega
        | exact s3
        | exact s7
        | exact s8
        | exact trivial
        | exact ⟨by omega, by omega⟩
        | exact ⟨⟨by omega, by omega⟩, gv⟩
        | exact ⟨s7, gL⟩
        | exact ⟨s8, gL⟩
        | exact ⟨⟨by omega, by omega⟩, gL⟩
        | exact ⟨⟨⟨gL, gv⟩, gs, gt1, gt2⟩, by omega⟩
        | exact ⟨⟨gL, gv⟩, gs, gt1, gt2⟩
        | (split <;> exact ⟨by decide, by decide⟩)
        | exact ⟨⟨by omega, by omega⟩, by omega, by omega⟩) ?_
    intro M36 hM36
    unfold pl_cut at gK
    first
      | (rw [if_neg (by assumption)] at gK
         exact gK _ _ hM36 rfl)
      | (rw [if_pos (Decidable.not_not.1 (by assumption))] at gK
         exact gK _ _ ⟨gL, ts_f.rf M⟩ rfl)
  · intro c12
    rw [hr9] at c12
    rw [ab_bf] at c12
    clear hr9 r9
    unfold pl_cut at gK
    first
      | (rw [if_neg (by assumption)] at gK
         exact gK _ _ hM36 rfl)
      | (rw [if_pos (Decidable.not_not.1 (by assumption))] at gK
         exact gK _ _ ⟨gL, ts_f.rf M⟩ rfl)

set_option maxRecDepth 20000 in
set_option maxHeartbeats 1000000 in
theorem ok_X5_ofCutLoop (E : ab_E) : ab_Ok E 2 63 S_X5_ofCutLoop := by
  refine ab_mk rq_X5_ofCutLoop tk_X5_ofCutLoop (rt := 1) (rfl) (cuts := []) (G := [(59, S_X5_add), (75, S_X7_isTrue)]) (List.forall_mem_cons.mpr ⟨⟨1, by decide, ok_X5_add E⟩, List.forall_mem_cons.mpr ⟨⟨1, by decide, ok_X7_isTrue E⟩, fun _ h => absurd h List.not_mem_nil⟩⟩) (by decide) 74 rfl ?_
  intro a M K wd wa hS
  unfold S_X5_ofCutLoop at hS
  split at hS
  ·
    rename_i s nn zz
    refine ⟨Nat.le_of_ble_eq_true rfl, fun _ _ _ _ _ => False, ?_, ?_⟩
    · exact vc_X5_ofCutLoop_0 s nn zz M K  hS
    · exact fun _ _ _ _ _ h => h.elim
  · exact hS.elim
def S_X5_ofStatement : ab_PT := fun a M K => match a with
  | [.inr (.inr (.inr (772, 5, 0))), .inr (.inr (.inr (s, 4, nn))), .inr (.inl zz), .inr (.inl cut)] => (∃ L : List Int, (((ts_L M L ∧ tv_ok M) ∧ ts_s M s ∧ 0 ≤ zz ∧ zz ≤ 255) ∧ ab_ir cut) ∧ (∀ rx : Int, ∀ Mx : ab_M, (ts_L Mx (pl_st M s zz cut L).2 ∧ ts_f M Mx) → (rx = (pl_st M s zz cut L).1) → K [Xi rx] Mx))
  | _ => False
set_option maxRecDepth 20000 in
theorem vc_X5_ofStatement_0 (s : Nat) (nn : Nat) (zz : Int) (cut : Int) (M : ab_M) (K : List ab_V → ab_M → Prop) (hS : (∃ L : List Int, (((ts_L M L ∧ tv_ok M) ∧ ts_s M s ∧ 0 ≤ zz ∧ zz ≤ 255) ∧ ab_ir cut) ∧ (∀ rx : Int, ∀ Mx : ab_M, (ts_L Mx (pl_st M s zz cut L).2 ∧ ts_f M Mx) → (rx = (pl_st M s zz cut L).1) → K [Xi rx] Mx))) : (ab_ir (M s 0)) ∧ (((M s 0) = 104 → (∃ L_117 : List Int, (((ts_L M L_117 ∧ tv_ok M) ∧ ts_s M s ∧ 0 ≤ zz ∧ zz ≤ 255) ∧ 0 ≤ M s 1) ∧ (∀ M117 : ab_M, (ts_L M117 (pl_h M s zz L_117 4) ∧ ts_f M M117) → K [Xi (-1 : Int)] M117))) ∧ (¬ (M s 0) = 104 → (((M s 0) = 105 → (ab_ir ((M s 2) * 256 + zz) ∧ tv_ok M) ∧ (∀ r262 : Int, (r262 = if ¬ tv M (M s 2) zz = 0 then 1 else 0) → (ab_ir r262) ∧ ((r262 = 0 → (∃ L_280 : List Int, (ab_ir (M s 18) ∧ ts_L M L_280) ∧ (∀ M280 : ab_M, (ts_L M280 (pl_ad (M s 18) zz L_280) ∧ ts_f M M280) → K [Xi (-1 : Int)] M280))) ∧ (¬ r262 = 0 → (∃ L_280 : List Int, (ab_ir (M s 17) ∧ ts_L M L_280) ∧ (∀ M280 : ab_M, (ts_L M280 (pl_ad (M s 17) zz L_280) ∧ ts_f M M280) → K [Xi (-1 : Int)] M280)))))) ∧ (¬ (M s 0) = 105 → (((M s 0) = 107 → (ab_ir ((M s 2) * 256 + zz) ∧ tv_ok M) ∧ (∀ r131 : Int, (r131 = if ¬ tv M (M s 2) zz = 0 then 1 else 0) → (ab_ir r131) ∧ ((¬ r131 = 0 → (∃ L_148 : List Int, (ab_ir (M s 17) ∧ ts_L M L_148) ∧ (∀ M148 : ab_M, (ts_L M148 (pl_ad (M s 17) zz L_148) ∧ ts_f M M148) → K [Xi (-1 : Int)] M148))) ∧ (r131 = 0 → K [Xi (M s 4)] M)))) ∧ (¬ (M s 0) = 107 → (((M s 0) = 112 → (ab_ir ((M s 2) * 256 + zz) ∧ tv_ok M) ∧ (∀ r188 : Int, (r188 = if ¬ tv M (M s 2) zz = 0 then 1 else 0) → (ab_ir r188) ∧ ((¬ r188 = 0 → (∃ L_202 : List Int, (((ts_L M L_202 ∧ tv_ok M) ∧ ts_s M s ∧ 0 ≤ zz ∧ zz ≤ 255) ∧ 0 ≤ M s 1) ∧ (∀ M202 : ab_M, (ts_L M202 (pl_h M s zz L_202 4) ∧ ts_f M M202) → K [Xi (-1 : Int)] M202))) ∧ (r188 = 0 → K [Xi (M s 4)] M)))) ∧ (¬ (M s 0) = 112 → (((M s 0) = 115 → (ab_ir ((M s 2) * 256 + zz) ∧ tv_ok M) ∧ (∀ r162 : Int, (r162 = if ¬ tv M (M s 2) zz = 0 then 1 else 0) → (ab_ir r162) ∧ ((r162 = 0 → K [Xi (-1 : Int)] M) ∧ (¬ r162 = 0 → (∃ L_174 : List Int, (ab_ir (M s 17) ∧ ts_L M L_174) ∧ (∀ M174 : ab_M, (ts_L M174 (pl_ad (M s 17) zz L_174) ∧ ts_f M M174) → K [Xi (-1 : Int)] M174)))))) ∧ (¬ (M s 0) = 115 → (((M s 0) = 118 → (ab_ir ((M s 2) * 256 + zz)) ∧ (∀ r103 : Int, (r103 = tv M (M s 2) zz) → (True) ∧ (∀ r106 : Int, (r106 = ab_or (ab_and zz (ab_xor (ab_shl (4 - 1) (6 - 2 * (M s 1))) (-1))) (ab_shl r103 (6 - 2 * (M s 1)))) → (∃ L_109 : List Int, (ab_ir (M s 17) ∧ ts_L M L_109) ∧ (∀ M109 : ab_M, (ts_L M109 (pl_ad (M s 17) r106 L_109) ∧ ts_f M M109) → K [Xi (-1 : Int)] M109))))) ∧ (¬ (M s 0) = 118 → (((M s 0) = 119 → (ab_ir cut ∧ ab_ir (1 : Int)) ∧ ((¬ cut = (1 : Int) → (ab_ir ((M s 2) * 256 + zz) ∧ tv_ok M) ∧ (∀ r229 : Int, (r229 = if ¬ tv M (M s 2) zz = 0 then 1 else 0) → (ab_ir r229) ∧ ((r229 = 0 → (∃ L_247 : List Int, (ab_ir (M s 18) ∧ ts_L M L_247) ∧ (∀ M247 : ab_M, (ts_L M247 (pl_ad (M s 18) zz L_247) ∧ ts_f M M247) → K [Xi (-1 : Int)] M247))) ∧ (¬ r229 = 0 → (∃ L_247 : List Int, (ab_ir (M s 17) ∧ ts_L M L_247) ∧ (∀ M247 : ab_M, (ts_L M247 (pl_ad (M s 17) zz L_247) ∧ ts_f M M247) → K [Xi (-1 : Int)] M247)))))) ∧ (cut = (1 : Int) → (∃ L_215 : List Int, (((ts_L M L_215 ∧ tv_ok M) ∧ ts_s M s ∧ 0 ≤ zz ∧ zz ≤ 255)) ∧ (∀ r215 : Int, ∀ M215 : ab_M, (ts_L M215 (pl_cut M s zz L_215).2 ∧ ts_f M M215) → (r215 = (pl_cut M s zz L_215).1) → K [Xi r215] M215))))) ∧ (¬ (M s 0) = 119 → (∃ L_291 : List Int, (ab_ir (M s 17) ∧ ts_L M L_291) ∧ (∀ M291 : ab_M, (ts_L M291 (pl_ad (M s 17) zz L_291) ∧ ts_f M M291) → K [Xi (-1 : Int)] M291)))))))))))))))) := by
  obtain ⟨L, ⟨⟨⟨gL, gv⟩, gs, gt1, gt2⟩, gx⟩, gK⟩ := hS
  have gs2 := id gs
  obtain ⟨s1, s2, s3, s4, s5, s6, s7, s8, s9, s10, s11⟩ := gs2
  have tr := tv_r gv (M s 2) zz
  refine And.intro (by
    first
      | exact gv
      | exact gL
      | omega
      | exact s3
      | exact s7
      | exact s8
      | exact trivial
      | exact ⟨by omega, by omega⟩
      | exact ⟨⟨by omega, by omega⟩, gv⟩
      | exact ⟨s7, gL⟩
      | exact ⟨s8, gL⟩
      | exact ⟨⟨by omega, by omega⟩, gL⟩
      | exact ⟨⟨⟨gL, gv⟩, gs, gt1, gt2⟩, by omega⟩
      | exact ⟨⟨gL, gv⟩, gs, gt1, gt2⟩
      | (split <;> exact ⟨by decide, by decide⟩)
      | exact ⟨⟨by omega, by omega⟩, by omega, by omega⟩) ?_
  refine ⟨?_, ?_⟩
  · intro c4_104
    refine Exists.intro (L) <| ?_
    refine And.intro (by
      first
        | exact gv
        | exact gL
        | omega
        | exact s3
        | exact s7
        | exact s8
        | exact trivial
        | exact ⟨by omega, by omega⟩
        | exact ⟨⟨by omega, by omega⟩, gv⟩
        | exact ⟨s7, gL⟩
        | exact ⟨s8, gL⟩
        | exact ⟨⟨by omega, by omega⟩, gL⟩
        | exact ⟨⟨⟨gL, gv⟩, gs, gt1, gt2⟩, by omega⟩
        | exact ⟨⟨gL, gv⟩, gs, gt1, gt2⟩
        | (split <;> exact ⟨by decide, by decide⟩)
        | exact ⟨⟨by omega, by omega⟩, by omega, by omega⟩) ?_
    intro M117 hM117
    unfold pl_st at gK
    first
      | (rw [if_pos (by assumption)] at gK; exact gK _ _ hM109 rfl)
      | (rw [if_neg (by omega), if_pos (by assumption)] at gK; exact gK _ _ hM117 rfl)
      | (rw [if_neg (by omega), if_neg (by omega), if_pos (by assumption)] at gK
         first
           | (rw [if_neg (by assumption)] at gK; exact gK _ _ hM148 rfl)
           | (rw [if_pos (Decidable.not_not.1 (by assumption))] at gK; exact gK _ _ ⟨gL, ts_f.rf M⟩ rfl))
      | (rw [if_neg (by omega), if_neg (by omega), if_neg (by omega), if_pos (by assumption)] at gK
         first
           | (rw [if_neg (by assumption)] at gK; exact gK _ _ hM174 rfl)
           | (rw [if_pos (Decidable.not_not.1 (by assumption))] at gK; exact gK _ _ ⟨gL, ts_f.rf M⟩ rfl))
      | (rw [if_neg (by omega), if_neg (by omega), if_neg (by omega), if_neg (by omega), if_pos (by assumption)] at gK
         first
           | (rw [if_neg (by assumption)] at gK; exact gK _ _ hM202 rfl)
           | (rw [if_pos (Decidable.not_not.1 (by assumption))] at gK; exact gK _ _ ⟨gL, ts_f.rf M⟩ rfl))
      | (rw [if_neg (by omega), if_neg (by omega), if_neg (by omega), if_neg (by omega), if_neg (by omega), if_pos (by omega)] at gK
         exact gK _ _ hM215 hr215)
      | (rw [if_neg (by omega), if_neg (by omega), if_neg (by omega), if_neg (by omega), if_neg (by omega), if_neg (by omega), if_pos (by omega)] at gK
         first
           | (rw [if_neg (by assumption)] at gK; first | exact gK _ _ hM247 rfl | exact gK _ _ hM280 rfl)
           | (rw [if_pos (Decidable.not_not.1 (by assumption))] at gK; first | exact gK _ _ hM247 rfl | exact gK _ _ hM280 rfl))
      | (rw [if_neg (by omega), if_neg (by omega), if_neg (by omega), if_neg (by omega), if_neg (by omega), if_neg (by omega), if_neg (by omega)] at gK
         exact gK _ _ hM291 rfl)
  · intro c4_104
    refine ⟨?_, ?_⟩
    · intro c4_105
      refine And.intro (by
        first
          | exact gv
          | exact gL
          | omega
          | exact s3
          | exact s7
          | exact s8
          | exact trivial
          | exact ⟨by omega, by omega⟩
          | exact ⟨⟨by omega, by omega⟩, gv⟩
          | exact ⟨s7, gL⟩
          | exact ⟨s8, gL⟩
          | exact ⟨⟨by omega, by omega⟩, gL⟩
          | exact ⟨⟨⟨gL, gv⟩, gs, gt1, gt2⟩, by omega⟩
          | exact ⟨⟨gL, gv⟩, gs, gt1, gt2⟩
          | (split <;> exact ⟨by decide, by decide⟩)
          | exact ⟨⟨by omega, by omega⟩, by omega, by omega⟩) ?_
      intro r262 hr262
      refine And.intro (by
        first
          | exact gv
          | exact gL
          | omega
          | exact s3
          | exact s7
          | exact s8
          | exact trivial
          | exact ⟨by omega, by omega⟩
          | exact ⟨⟨by omega, by omega⟩, gv⟩
          | exact ⟨s7, gL⟩
          | exact ⟨s8, gL⟩
          | exact ⟨⟨by omega, by omega⟩, gL⟩
          | exact ⟨⟨⟨gL, gv⟩, gs, gt1, gt2⟩, by omega⟩
          | exact ⟨⟨gL, gv⟩, gs, gt1, gt2⟩
          | (split <;> exact ⟨by decide, by decide⟩)
          | exact ⟨⟨by omega, by omega⟩, by omega, by omega⟩) ?_
      refine ⟨?_, ?_⟩
      · intro c265
        rw [hr262] at c265
        rw [ab_bf] at c265
        clear hr262 r262
        refine Exists.intro (L) <| ?_
        refine And.intro (by
          first
            | exact gv
            | exact gL
            | omega
            | exact s3
            | exact s7
            | exact s8
            | exact trivial
            | exact ⟨by omega, by omega⟩
            | exact ⟨⟨by omega, by omega⟩, gv⟩
            | exact ⟨s7, gL⟩
            | exact ⟨s8, gL⟩
            | exact ⟨⟨by omega, by omega⟩, gL⟩
            | exact ⟨⟨⟨gL, gv⟩, gs, gt1, gt2⟩, by omega⟩
            | exact ⟨⟨gL, gv⟩, gs, gt1, gt2⟩
            | (split <;> exact ⟨by decide, by decide⟩)
            | exact ⟨⟨by omega, by omega⟩, by omega, by omega⟩) ?_
        intro M280 hM280
        unfold pl_st at gK
        first
          | (rw [if_pos (by assumption)] at gK; exact gK _ _ hM109 rfl)
          | (rw [if_neg (by omega), if_pos (by assumption)] at gK; exact gK _ _ hM117 rfl)
          | (rw [if_neg (by omega), if_neg (by omega), if_pos (by assumption)] at gK
             first
               | (rw [if_neg (by assumption)] at gK; exact gK _ _ hM148 rfl)
               | (rw [if_pos (Decidable.not_not.1 (by assumption))] at gK; exact gK _ _ ⟨gL, ts_f.rf M⟩ rfl))
          | (rw [if_neg (by omega), if_neg (by omega), if_neg (by omega), if_pos (by assumption)] at gK
             first
               | (rw [if_neg (by assumption)] at gK; exact gK _ _ hM174 rfl)
               | (rw [if_pos (Decidable.not_not.1 (by assumption))] at gK; exact gK _ _ ⟨gL, ts_f.rf M⟩ rfl))
          | (rw [if_neg (by omega), if_neg (by omega), if_neg (by omega), if_neg (by omega), if_pos (by assumption)] at gK
             first
               | (rw [if_neg (by assumption)] at gK; exact gK _ _ hM202 rfl)
               | (rw [if_pos (Decidable.not_not.1 (by assumption))] at gK; exact gK _ _ ⟨gL, ts_f.rf M⟩ rfl))
          | (rw [if_neg (by omega), if_neg (by omega), if_neg (by omega), if_neg (by omega), if_neg (by omega), if_pos (by omega)] at gK
             exact gK _ _ hM215 hr215)
          | (rw [if_neg (by omega), if_neg (by omega), if_neg (by omega), if_neg (by omega), if_neg (by omega), if_neg (by omega), if_pos (by omega)] at gK
             first
               | (rw [if_neg (by assumption)] at gK; first | exact gK _ _ hM247 rfl | exact gK _ _ hM280 rfl)
               | (rw [if_pos (Decidable.not_not.1 (by assumption))] at gK; first | exact gK _ _ hM247 rfl | exact gK _ _ hM280 rfl))
          | (rw [if_neg (by omega), if_neg (by omega), if_neg (by omega), if_neg (by omega), if_neg (by omega), if_neg (by omega), if_neg (by omega)] at gK
             exact gK _ _ hM291 rfl)
      · intro c265
        rw [hr262] at c265
        rw [ab_bt] at c265
        clear hr262 r262
        refine Exists.intro (L) <| ?_
        refine And.intro (by
          first
            | exact gv
            | exact gL
            | omega
            | exact s3
            | exact s7
            | exact s8
            | exact trivial
            | exact ⟨by omega, by omega⟩
            | exact ⟨⟨by omega, by omega⟩, gv⟩
            | exact ⟨s7, gL⟩
            | exact ⟨s8, gL⟩
            | exact ⟨⟨by omega, by omega⟩, gL⟩
            | exact ⟨⟨⟨gL, gv⟩, gs, gt1, gt2⟩, by omega⟩
            | exact ⟨⟨gL, gv⟩, gs, gt1, gt2⟩
            | (split <;> exact ⟨by decide, by decide⟩)
            | exact ⟨⟨by omega, by omega⟩, by omega, by omega⟩) ?_
        intro M280 hM280
        unfold pl_st at gK
        first
          | (rw [if_pos (by assumption)] at gK; exact gK _ _ hM109 rfl)
          | (rw [if_neg (by omega), if_pos (by assumption)] at gK; exact gK _ _ hM117 rfl)
          | (rw [if_neg (by omega), if_neg (by omega), if_pos (by assumption)] at gK
             first
               | (rw [if_neg (by assumption)] at gK; exact gK _ _ hM148 rfl)
               | (rw [if_pos (Decidable.not_not.1 (by assumption))] at gK; exact gK _ _ ⟨gL, ts_f.rf M⟩ rfl))
          | (rw [if_neg (by omega), if_neg (by omega), if_neg (by omega), if_pos (by assumption)] at gK
             first
               | (rw [if_neg (by assumption)] at gK; exact gK _ _ hM174 rfl)
               | (rw [if_pos (Decidable.not_not.1 (by assumption))] at gK; exact gK _ _ ⟨gL, ts_f.rf M⟩ rfl))
          | (rw [if_neg (by omega), if_neg (by omega), if_neg (by omega), if_neg (by omega), if_pos (by assumption)] at gK
             first
               | (rw [if_neg (by assumption)] at gK; exact gK _ _ hM202 rfl)
               | (rw [if_pos (Decidable.not_not.1 (by assumption))] at gK; exact gK _ _ ⟨gL, ts_f.rf M⟩ rfl))
          | (rw [if_neg (by omega), if_neg (by omega), if_neg (by omega), if_neg (by omega), if_neg (by omega), if_pos (by omega)] at gK
             exact gK _ _ hM215 hr215)
          | (rw [if_neg (by omega), if_neg (by omega), if_neg (by omega), if_neg (by omega), if_neg (by omega), if_neg (by omega), if_pos (by omega)] at gK
             first
               | (rw [if_neg (by assumption)] at gK; first | exact gK _ _ hM247 rfl | exact gK _ _ hM280 rfl)
               | (rw [if_pos (Decidable.not_not.1 (by assumption))] at gK; first | exact gK _ _ hM247 rfl | exact gK _ _ hM280 rfl))
          | (rw [if_neg (by omega), if_neg (by omega), if_neg (by omega), if_neg (by omega), if_neg (by omega), if_neg (by omega), if_neg (by omega)] at gK
             exact gK _ _ hM291 rfl)
    · intro c4_105
      refine ⟨?_, ?_⟩
      · intro c4_107
        refine And.intro (by
          first
            | exact gv
            | exact gL
            | omega
            | exact s3
            | exact s7
            | exact s8
            | exact trivial
            | exact ⟨by omega, by omega⟩
            | exact ⟨⟨by omega, by omega⟩, gv⟩
            | exact ⟨s7, gL⟩
            | exact ⟨s8, gL⟩
            | exact ⟨⟨by omega, by omega⟩, gL⟩
            | exact ⟨⟨⟨gL, gv⟩, gs, gt1, gt2⟩, by omega⟩
            | exact ⟨⟨gL, gv⟩, gs, gt1, gt2⟩
            | (split <;> exact ⟨by decide, by decide⟩)
            | exact ⟨⟨by omega, by omega⟩, by omega, by omega⟩) ?_
        intro r131 hr131
        refine And.intro (by
          first
            | exact gv
            | exact gL
            | omega
            | exact s3
            | exact s7
            | exact s8
            | exact trivial
            | exact ⟨by omega, by omega⟩
            | exact ⟨⟨by omega, by omega⟩, gv⟩
            | exact ⟨s7, gL⟩
            | exact ⟨s8, gL⟩
            | exact ⟨⟨by omega, by omega⟩, gL⟩
            | exact ⟨⟨⟨gL, gv⟩, gs, gt1, gt2⟩, by omega⟩
            | exact ⟨⟨gL, gv⟩, gs, gt1, gt2⟩
            | (split <;> exact ⟨by decide, by decide⟩)
            | exact ⟨⟨by omega, by omega⟩, by omega, by omega⟩) ?_
        refine ⟨?_, ?_⟩
        · intro c134
          rw [hr131] at c134
          rw [ab_bt] at c134
          clear hr131 r131
          refine Exists.intro (L) <| ?_
          refine And.intro (by
            first
              | exact gv
              | exact gL
              | omega
              | exact s3
              | exact s7
              | exact s8
              | exact trivial
              | exact ⟨by omega, by omega⟩
              | exact ⟨⟨by omega, by omega⟩, gv⟩
              | exact ⟨s7, gL⟩
              | exact ⟨s8, gL⟩
              | exact ⟨⟨by omega, by omega⟩, gL⟩
              | exact ⟨⟨⟨gL, gv⟩, gs, gt1, gt2⟩, by omega⟩
              | exact ⟨⟨gL, gv⟩, gs, gt1, gt2⟩
              | (split <;> exact ⟨by decide, by decide⟩)
              | exact ⟨⟨by omega, by omega⟩, by omega, by omega⟩) ?_
          intro M148 hM148
          unfold pl_st at gK
          first
            | (rw [if_pos (by assumption)] at gK; exact gK _ _ hM109 rfl)
            | (rw [if_neg (by omega), if_pos (by assumption)] at gK; exact gK _ _ hM117 rfl)
            | (rw [if_neg (by omega), if_neg (by omega), if_pos (by assumption)] at gK
               first
                 | (rw [if_neg (by assumption)] at gK; exact gK _ _ hM148 rfl)
                 | (rw [if_pos (Decidable.not_not.1 (by assumption))] at gK; exact gK _ _ ⟨gL, ts_f.rf M⟩ rfl))
            | (rw [if_neg (by omega), if_neg (by omega), if_neg (by omega), if_pos (by assumption)] at gK
               first
                 | (rw [if_neg (by assumption)] at gK; exact gK _ _ hM174 rfl)
                 | (rw [if_pos (Decidable.not_not.1 (by assumption))] at gK; exact gK _ _ ⟨gL, ts_f.rf M⟩ rfl))
            | (rw [if_neg (by omega), if_neg (by omega), if_neg (by omega), if_neg (by omega), if_pos (by assumption)] at gK
               first
                 | (rw [if_neg (by assumption)] at gK; exact gK _ _ hM202 rfl)
                 | (rw [if_pos (Decidable.not_not.1 (by assumption))] at gK; exact gK _ _ ⟨gL, ts_f.rf M⟩ rfl))
            | (rw [if_neg (by omega), if_neg (by omega), if_neg (by omega), if_neg (by omega), if_neg (by omega), if_pos (by omega)] at gK
               exact gK _ _ hM215 hr215)
            | (rw [if_neg (by omega), if_neg (by omega), if_neg (by omega), if_neg (by omega), if_neg (by omega), if_neg (by omega), if_pos (by omega)] at gK
               first
                 | (rw [if_neg (by assumption)] at gK; first | exact gK _ _ hM247 rfl | exact gK _ _ hM280 rfl)
                 | (rw [if_pos (Decidable.not_not.1 (by assumption))] at gK; first | exact gK _ _ hM247 rfl | exact gK _ _ hM280 rfl))
            | (rw [if_neg (by omega), if_neg (by omega), if_neg (by omega), if_neg (by omega), if_neg (by omega), if_neg (by omega), if_neg (by omega)] at gK
               exact gK _ _ hM291 rfl)
        · intro c134
          rw [hr131] at c134
          rw [ab_bf] at c134
          clear hr131 r131
          unfold pl_st at gK
          first
            | (rw [if_pos (by assumption)] at gK; exact gK _ _ hM109 rfl)
            | (rw [if_neg (by omega), if_pos (by assumption)] at gK; exact gK _ _ hM117 rfl)
            | (rw [if_neg (by omega), if_neg (by omega), if_pos (by assumption)] at gK
               first
                 | (rw [if_neg (by assumption)] at gK; exact gK _ _ hM148 rfl)
                 | (rw [if_pos (Decidable.not_not.1 (by assumption))] at gK; exact gK _ _ ⟨gL, ts_f.rf M⟩ rfl))
            | (rw [if_neg (by omega), if_neg (by omega), if_neg (by omega), if_pos (by assumption)] at gK
               first
                 | (rw [if_neg (by assumption)] at gK; exact gK _ _ hM174 rfl)
                 | (rw [if_pos (Decidable.not_not.1 (by assumption))] at gK; exact gK _ _ ⟨gL, ts_f.rf M⟩ rfl))
            | (rw [if_neg (by omega), if_neg (by omega), if_neg (by omega), if_neg (by omega), if_pos (by assumption)] at gK
               first
                 | (rw [if_neg (by assumption)] at gK; exact gK _ _ hM202 rfl)
                 | (rw [if_pos (Decidable.not_not.1 (by assumption))] at gK; exact gK _ _ ⟨gL, ts_f.rf M⟩ rfl))
            | (rw [if_neg (by omega), if_neg (by omega), if_neg (by omega), if_neg (by omega), if_neg (by omega), if_pos (by omega)] at gK
               exact gK _ _ hM215 hr215)
            | (rw [if_neg (by omega), if_neg (by omega), if_neg (by omega), if_neg (by omega), if_neg (by omega), if_neg (by omega), if_pos (by omega)] at gK
               first
                 | (rw [if_neg (by assumption)] at gK; first | exact gK _ _ hM247 rfl | exact gK _ _ hM280 rfl)
                 | (rw [if_pos (Decidable.not_not.1 (by assumption))] at gK; first | exact gK _ _ hM247 rfl | exact gK _ _ hM280 rfl))
            | (rw [if_neg (by omega), if_neg (by omega), if_neg (by omega), if_neg (by omega), if_neg (by omega), if_neg (by omega), if_neg (by omega)] at gK
               exact gK _ _ hM291 rfl)
      · intro c4_107
        refine ⟨?_, ?_⟩
        · intro c4_112
          refine And.intro (by
            first
              | exact gv
              | exact gL
              | omega
              | exact s3
              | exact s7
              | exact s8
              | exact trivial
              | exact ⟨by omega, by omega⟩
              | exact ⟨⟨by omega, by omega⟩, gv⟩
              | exact ⟨s7, gL⟩
              | exact ⟨s8, gL⟩
              | exact ⟨⟨by omega, by omega⟩, gL⟩
              | exact ⟨⟨⟨gL, gv⟩, gs, gt1, gt2⟩, by omega⟩
              | exact ⟨⟨gL, gv⟩, gs, gt1, gt2⟩
              | (split <;> exact ⟨by decide, by decide⟩)
              | exact ⟨⟨by omega, by omega⟩, by omega, by omega⟩) ?_
          intro r188 hr188
          refine And.intro (by
            first
              | exact gv
              | exact gL
              | omega
              | exact s3
              | exact s7
              | exact s8
              | exact trivial
              | exact ⟨by omega, by omega⟩
              | exact ⟨⟨by omega, by omega⟩, gv⟩
              | exact ⟨s7, gL⟩
              | exact ⟨s8, gL⟩
              | exact ⟨⟨by omega, by omega⟩, gL⟩
              | exact ⟨⟨⟨gL, gv⟩, gs, gt1, gt2⟩, by omega⟩
              | exact ⟨⟨gL, gv⟩, gs, gt1, gt2⟩
              | (split <;> exact ⟨by decide, by decide⟩)
              | exact ⟨⟨by omega, by omega⟩, by omega, by omega⟩) ?_
          refine ⟨?_, ?_⟩
          · intro c191
            rw [hr188] at c191
            rw [ab_bt] at c191
            clear hr188 r188
            refine Exists.intro (L) <| ?_
            refine And.intro (by
              first
                | exact gv
                | exact gL
                | omega
                | exact s3
                | exact s7
                | exact s8
                | exact trivial
                | exact ⟨by omega, by omega⟩
                | exact ⟨⟨by omega, by omega⟩, gv⟩
                | exact ⟨s7, gL⟩
                | exact ⟨s8, gL⟩
                | exact ⟨⟨by omega, by omega⟩, gL⟩
                | exact ⟨⟨⟨gL, gv⟩, gs, gt1, gt2⟩, by omega⟩
                | exact ⟨⟨gL, gv⟩, gs, gt1, gt2⟩
                | (split <;> exact ⟨by decide, by decide⟩)
                | exact ⟨⟨by omega, by omega⟩, by omega, by omega⟩) ?_
            intro M202 hM202
            unfold pl_st at gK
            first
              | (rw [if_pos (by assumption)] at gK; exact gK _ _ hM109 rfl)
              | (rw [if_neg (by omega), if_pos (by assumption)] at gK; exact gK _ _ hM117 rfl)
              | (rw [if_neg (by omega), if_neg (by omega), if_pos (by assumption)] at gK
                 first
                   | (rw [if_neg (by assumption)] at gK; exact gK _ _ hM148 rfl)
                   | (rw [if_pos (Decidable.not_not.1 (by assumption))] at gK; exact gK _ _ ⟨gL, ts_f.rf M⟩ rfl))
              | (rw [if_neg (by omega), if_neg (by omega), if_neg (by omega), if_pos (by assumption)] at gK
                 first
                   | (rw [if_neg (by assumption)] at gK; exact gK _ _ hM174 rfl)
                   | (rw [if_pos (Decidable.not_not.1 (by assumption))] at gK; exact gK _ _ ⟨gL, ts_f.rf M⟩ rfl))
              | (rw [if_neg (by omega), if_neg (by omega), if_neg (by omega), if_neg (by omega), if_pos (by assumption)] at gK
                 first
                   | (rw [if_neg (by assumption)] at gK; exact gK _ _ hM202 rfl)
                   | (rw [if_pos (Decidable.not_not.1 (by assumption))] at gK; exact gK _ _ ⟨gL, ts_f.rf M⟩ rfl))
              | (rw [if_neg (by omega), if_neg (by omega), if_neg (by omega), if_neg (by omega), if_neg (by omega), if_pos (by omega)] at gK
                 exact gK _ _ hM215 hr215)
              | (rw [if_neg (by omega), if_neg (by omega), if_neg (by omega), if_neg (by omega), if_neg (by omega), if_neg (by omega), if_pos (by omega)] at gK
                 first
                   | (rw [if_neg (by assumption)] at gK; first | exact gK _ _ hM247 rfl | exact gK _ _ hM280 rfl)
                   | (rw [if_pos (Decidable.not_not.1 (by assumption))] at gK; first | exact gK _ _ hM247 rfl | exact gK _ _ hM280 rfl))
              | (rw [if_neg (by omega), if_neg (by omega), if_neg (by omega), if_neg (by omega), if_neg (by omega), if_neg (by omega), if_neg (by omega)] at gK
                 exact gK _ _ hM291 rfl)
          · intro c191
            rw [hr188] at c191
            rw [ab_bf] at c191
            clear hr188 r188
            unfold pl_st at gK
            first
              | (rw [if_pos (by assumption)] at gK; exact gK _ _ hM109 rfl)
              | (rw [if_neg (by omega), if_pos (by assumption)] at gK; exact gK _ _ hM117 rfl)
              | (rw [if_neg (by omega), if_neg (by omega), if_pos (by assumption)] at gK
                 first
                   | (rw [if_neg (by assumption)] at gK; exact gK _ _ hM148 rfl)
                   | (rw [if_pos (Decidable.not_not.1 (by assumption))] at gK; exact gK _ _ ⟨gL, ts_f.rf M⟩ rfl))
              | (rw [if_neg (by omega), if_neg (by omega), if_neg (by omega), if_pos (by assumption)] at gK
                 first
                   | (rw [if_neg (by assumption)] at gK; exact gK _ _ hM174 rfl)
                   | (rw [if_pos (Decidable.not_not.1 (by assumption))] at gK; exact gK _ _ ⟨gL, ts_f.rf M⟩ rfl))
              | (rw [if_neg (by omega), if_neg (by omega), if_neg (by omega), if_neg (by omega), if_pos (by assumption)] at gK
                 first
                   | (rw [if_neg (by assumption)] at gK; exact gK _ _ hM202 rfl)
                   | (rw [if_pos (Decidable.not_not.1 (by assumption))] at gK; exact gK _ _ ⟨gL, ts_f.rf M⟩ rfl))
              | (rw [if_neg (by omega), if_neg (by omega), if_neg (by omega), if_neg (by omega), if_neg (by omega), if_pos (by omega)] at gK
                 exact gK _ _ hM215 hr215)
              | (rw [if_neg (by omega), if_neg (by omega), if_neg (by omega), if_neg (by omega), if_neg (by omega), if_neg (by omega), if_pos (by omega)] at gK
                 first
                   | (rw [if_neg (by assumption)] at gK; first | exact gK _ _ hM247 rfl | exact gK _ _ hM280 rfl)
                   | (rw [if_pos (Decidable.not_not.1 (by assumption))] at gK; first | exact gK _ _ hM247 rfl | exact gK _ _ hM280 rfl))
              | (rw [if_neg (by omega), if_neg (by omega), if_neg (by omega), if_neg (by omega), if_neg (by omega), if_neg (by omega), if_neg (by omega)] at gK
                 exact gK _ _ hM291 rfl)
        · intro c4_112
          refine ⟨?_, ?_⟩
          · intro c4_115
            refine And.intro (by
              first
                | exact gv
                | exact gL
                | omega
                | exact s3
                | exact s7
                | exact s8
                | exact trivial
                | exact ⟨by omega, by omega⟩
                | exact ⟨⟨by omega, by omega⟩, gv⟩
                | exact ⟨s7, gL⟩
                | exact ⟨s8, gL⟩
                | exact ⟨⟨by omega, by omega⟩, gL⟩
                | exact ⟨⟨⟨gL, gv⟩, gs, gt1, gt2⟩, by omega⟩
                | exact ⟨⟨gL, gv⟩, gs, gt1, gt2⟩
                | (split <;> exact ⟨by decide, by decide⟩)
                | exact ⟨⟨by omega, by omega⟩, by omega, by omega⟩) ?_
            intro r162 hr162
            refine And.intro (by
              first
                | exact gv
                | exact gL
                | omega
                | exact s3
                | exact s7
                | exact s8
                | exact trivial
                | exact ⟨by omega, by omega⟩
                | exact ⟨⟨by omega, by omega⟩, gv⟩
                | exact ⟨s7, gL⟩
                | exact ⟨s8, gL⟩
                | exact ⟨⟨by omega, by omega⟩, gL⟩
                | exact ⟨⟨⟨gL, gv⟩, gs, gt1, gt2⟩, by omega⟩
                | exact ⟨⟨gL, gv⟩, gs, gt1, gt2⟩
                | (split <;> exact ⟨by decide, by decide⟩)
                | exact ⟨⟨by omega, by omega⟩, by omega, by omega⟩) ?_
            refine ⟨?_, ?_⟩
            · intro c165
              rw [hr162] at c165
              rw [ab_bf] at c165
              clear hr162 r162
              unfold pl_st at gK
              first
                | (rw [if_pos (by assumption)] at gK; exact gK _ _ hM109 rfl)
                | (rw [if_neg (by omega), if_pos (by assumption)] at gK; exact gK _ _ hM117 rfl)
                | (rw [if_neg (by omega), if_neg (by omega), if_pos (by assumption)] at gK
                   first
                     | (rw [if_neg (by assumption)] at gK; exact gK _ _ hM148 rfl)
                     | (rw [if_pos (Decidable.not_not.1 (by assumption))] at gK; exact gK _ _ ⟨gL, ts_f.rf M⟩ rfl))
                | (rw [if_neg (by omega), if_neg (by omega), if_neg (by omega), if_pos (by assumption)] at gK
                   first
                     | (rw [if_neg (by assumption)] at gK; exact gK _ _ hM174 rfl)
                     | (rw [if_pos (Decidable.not_not.1 (by assumption))] at gK; exact gK _ _ ⟨gL, ts_f.rf M⟩ rfl))
                | (rw [if_neg (by omega), if_neg (by omega), if_neg (by omega), if_neg (by omega), if_pos (by assumption)] at gK
                   first
                     | (rw [if_neg (by assumption)] at gK; exact gK _ _ hM202 rfl)
                     | (rw [if_pos (Decidable.not_not.1 (by assumption))] at gK; exact gK _ _ ⟨gL, ts_f.rf M⟩ rfl))
                | (rw [if_neg (by omega), if_neg (by omega), if_neg (by omega), if_neg (by omega), if_neg (by omega), if_pos (by omega)] at gK
                   exact gK _ _ hM215 hr215)
                | (rw [if_neg (by omega), if_neg (by omega), if_neg (by omega), if_neg (by omega), if_neg (by omega), if_neg (by omega), if_pos (by omega)] at gK
                   first
                     | (rw [if_neg (by assumption)] at gK; first | exact gK _ _ hM247 rfl | exact gK _ _ hM280 rfl)
                     | (rw [if_pos (Decidable.not_not.1 (by assumption))] at gK; first | exact gK _ _ hM247 rfl | exact gK _ _ hM280 rfl))
                | (rw [if_neg (by omega), if_neg (by omega), if_neg (by omega), if_neg (by omega), if_neg (by omega), if_neg (by omega), if_neg (by omega)] at gK
                   exact gK _ _ hM291 rfl)
            · intro c165
              rw [hr162] at c165
              rw [ab_bt] at c165
              clear hr162 r162
              refine Exists.intro (L) <| ?_
              refine And.intro (by
                first
                  | exact gv
                  | exact gL
                  | omega
                  | exact s3
                  | exact s7
                  | exact s8
                  | exact trivial
                  | exact ⟨by omega, by omega⟩
                  | exact ⟨⟨by omega, by omega⟩, gv⟩
                  | exact ⟨s7, gL⟩
                  | exact ⟨s8, gL⟩
                  | exact ⟨⟨by omega, by omega⟩, gL⟩
                  | exact ⟨⟨⟨gL, gv⟩, gs, gt1, gt2⟩, by omega⟩
                  | exact ⟨⟨gL, gv⟩, gs, gt1, gt2⟩
                  | (split <;> exact ⟨by decide, by decide⟩)
                  | exact ⟨⟨by omega, by omega⟩, by omega, by omega⟩) ?_
              intro M174 hM174
              unfold pl_st at gK
              first
                | (rw [if_pos (by assumption)] at gK; exact gK _ _ hM109 rfl)
                | (rw [if_neg (by omega), if_pos (by assumption)] at gK; exact gK _ _ hM117 rfl)
                | (rw [if_neg (by omega), if_neg (by omega), if_pos (by assumption)] at gK
                   first
                     | (rw [if_neg (by assumption)] at gK; exact gK _ _ hM148 rfl)
                     | (rw [if_pos (Decidable.not_not.1 (by assumption))] at gK; exact gK _ _ ⟨gL, ts_f.rf M⟩ rfl))
                | (rw [if_neg (by omega), if_neg (by omega), if_neg (by omega), if_pos (by assumption)] at gK
                   first
                     | (rw [if_neg (by assumption)] at gK; exact gK _ _ hM174 rfl)
                     | (rw [if_pos (Decidable.not_not.1 (by assumption))] at gK; exact gK _ _ ⟨gL, ts_f.rf M⟩ rfl))
                | (rw [if_neg (by omega), if_neg (by omega), if_neg (by omega), if_neg (by omega), if_pos (by assumption)] at gK
                   first
                     | (rw [if_neg (by assumption)] at gK; exact gK _ _ hM202 rfl)
                     | (rw [if_pos (Decidable.not_not.1 (by assumption))] at gK; exact gK _ _ ⟨gL, ts_f.rf M⟩ rfl))
                | (rw [if_neg (by omega), if_neg (by omega), if_neg (by omega), if_neg (by omega), if_neg (by omega), if_pos (by omega)] at gK
                   exact gK _ _ hM215 hr215)
                | (rw [if_neg (by omega), if_neg (by omega), if_neg (by omega), if_neg (by omega), if_neg (by omega), if_neg (by omega), if_pos (by omega)] at gK
                   first
                     | (rw [if_neg (by assumption)] at gK; first | exact gK _ _ hM247 rfl | exact gK _ _ hM280 rfl)
                     | (rw [if_pos (Decidable.not_not.1 (by assumption))] at gK; first | exact gK _ _ hM247 rfl | exact gK _ _ hM280 rfl))
                | (rw [if_neg (by omega), if_neg (by omega), if_neg (by omega), if_neg (by omega), if_neg (by omega), if_neg (by omega), if_neg (by omega)] at gK
                   exact gK _ _ hM291 rfl)
          · intro c4_115
            refine ⟨?_, ?_⟩
            · intro c4_118
              refine And.intro (by
                first
                  | exact gv
                  | exact gL
                  | omega
                  | exact s3
                  | exact s7
                  | exact s8
                  | exact trivial
                  | exact ⟨by omega, by omega⟩
                  | exact ⟨⟨by omega, by omega⟩, gv⟩
                  | exact ⟨s7, gL⟩
                  | exact ⟨s8, gL⟩
                  | exact ⟨⟨by omega, by omega⟩, gL⟩
                  | exact ⟨⟨⟨gL, gv⟩, gs, gt1, gt2⟩, by omega⟩
                  | exact ⟨⟨gL, gv⟩, gs, gt1, gt2⟩
                  | (split <;> exact ⟨by decide, by decide⟩)
                  | exact ⟨⟨by omega, by omega⟩, by omega, by omega⟩) ?_
              intro r103 hr103
              refine And.intro trivial ?_
              intro r106 hr106
              have hsw : r106 = pz_sw zz (M s 1) (tv M (M s 2) zz) := by
                rw [← hr103]
                exact hr106
              refine Exists.intro (L) <| ?_
              refine And.intro (by
                first
                  | exact gv
                  | exact gL
                  | omega
                  | exact s3
                  | exact s7
                  | exact s8
                  | exact trivial
                  | exact ⟨by omega, by omega⟩
                  | exact ⟨⟨by omega, by omega⟩, gv⟩
                  | exact ⟨s7, gL⟩
                  | exact ⟨s8, gL⟩
                  | exact ⟨⟨by omega, by omega⟩, gL⟩
                  | exact ⟨⟨⟨gL, gv⟩, gs, gt1, gt2⟩, by omega⟩
                  | exact ⟨⟨gL, gv⟩, gs, gt1, gt2⟩
                  | (split <;> exact ⟨by decide, by decide⟩)
                  | exact ⟨⟨by omega, by omega⟩, by omega, by omega⟩) ?_
              intro M109 hM109
              rw [hsw] at hM109
              unfold pl_st at gK
              first
                | (rw [if_pos (by assumption)] at gK; exact gK _ _ hM109 rfl)
                | (rw [if_neg (by omega), if_pos (by assumption)] at gK; exact gK _ _ hM117 rfl)
                | (rw [if_neg (by omega), if_neg (by omega), if_pos (by assumption)] at gK
                   first
                     | (rw [if_neg (by assumption)] at gK; exact gK _ _ hM148 rfl)
                     | (rw [if_pos (Decidable.not_not.1 (by assumption))] at gK; exact gK _ _ ⟨gL, ts_f.rf M⟩ rfl))
                | (rw [if_neg (by omega), if_neg (by omega), if_neg (by omega), if_pos (by assumption)] at gK
                   first
                     | (rw [if_neg (by assumption)] at gK; exact gK _ _ hM174 rfl)
                     | (rw [if_pos (Decidable.not_not.1 (by assumption))] at gK; exact gK _ _ ⟨gL, ts_f.rf M⟩ rfl))
                | (rw [if_neg (by omega), if_neg (by omega), if_neg (by omega), if_neg (by omega), if_pos (by assumption)] at gK
                   first
                     | (rw [if_neg (by assumption)] at gK; exact gK _ _ hM202 rfl)
                     | (rw [if_pos (Decidable.not_not.1 (by assumption))] at gK; exact gK _ _ ⟨gL, ts_f.rf M⟩ rfl))
                | (rw [if_neg (by omega), if_neg (by omega), if_neg (by omega), if_neg (by omega), if_neg (by omega), if_pos (by omega)] at gK
                   exact gK _ _ hM215 hr215)
                | (rw [if_neg (by omega), if_neg (by omega), if_neg (by omega), if_neg (by omega), if_neg (by omega), if_neg (by omega), if_pos (by omega)] at gK
                   first
                     | (rw [if_neg (by assumption)] at gK; first | exact gK _ _ hM247 rfl | exact gK _ _ hM280 rfl)
                     | (rw [if_pos (Decidable.not_not.1 (by assumption))] at gK; first | exact gK _ _ hM247 rfl | exact gK _ _ hM280 rfl))
                | (rw [if_neg (by omega), if_neg (by omega), if_neg (by omega), if_neg (by omega), if_neg (by omega), if_neg (by omega), if_neg (by omega)] at gK
                   exact gK _ _ hM291 rfl)
            · intro c4_118
              refine ⟨?_, ?_⟩
              · intro c4_119
                refine And.intro (by
                  first
                    | exact gv
                    | exact gL
                    | omega
                    | exact s3
                    | exact s7
                    | exact s8
                    | exact trivial
                    | exact ⟨by omega, by omega⟩
                    | exact ⟨⟨by omega, by omega⟩, gv⟩
                    | exact ⟨s7, gL⟩
                    | exact ⟨s8, gL⟩
                    | exact ⟨⟨by omega, by omega⟩, gL⟩
                    | exact ⟨⟨⟨gL, gv⟩, gs, gt1, gt2⟩, by omega⟩
                    | exact ⟨⟨gL, gv⟩, gs, gt1, gt2⟩
                    | (split <;> exact ⟨by decide, by decide⟩)
                    | exact ⟨⟨by omega, by omega⟩, by omega, by omega⟩) ?_
                refine ⟨?_, ?_⟩
                · intro c209
                  refine And.intro (by
                    first
                      | exact gv
                      | exact gL
                      | omega
                      | exact s3
                      | exact s7
                      | exact s8
                      | exact trivial
                      | exact ⟨by omega, by omega⟩
                      | exact ⟨⟨by omega, by omega⟩, gv⟩
                      | exact ⟨s7, gL⟩
                      | exact ⟨s8, gL⟩
                      | exact ⟨⟨by omega, by omega⟩, gL⟩
                      | exact ⟨⟨⟨gL, gv⟩, gs, gt1, gt2⟩, by omega⟩
                      | exact ⟨⟨gL, gv⟩, gs, gt1, gt2⟩
                      | (split <;> exact ⟨by decide, by decide⟩)
                      | exact ⟨⟨by omega, by omega⟩, by omega, by omega⟩) ?_
                  intro r229 hr229
                  refine And.intro (by
                    first
                      | exact gv
                      | exact gL
                      | omega
                      | exact s3
                      | exact s7
                      | exact s8
                      | exact trivial
                      | exact ⟨by omega, by omega⟩
                      | exact ⟨⟨by omega, by omega⟩, gv⟩
                      | exact ⟨s7, gL⟩
                      | exact ⟨s8, gL⟩
                      | exact ⟨⟨by omega, by omega⟩, gL⟩
                      | exact ⟨⟨⟨gL, gv⟩, gs, gt1, gt2⟩, by omega⟩
                      | exact ⟨⟨gL, gv⟩, gs, gt1, gt2⟩
                      | (split <;> exact ⟨by decide, by decide⟩)
                      | exact ⟨⟨by omega, by omega⟩, by omega, by omega⟩) ?_
                  refine ⟨?_, ?_⟩
                  · intro c232
                    rw [hr229] at c232
                    rw [ab_bf] at c232
                    clear hr229 r229
                    refine Exists.intro (L) <| ?_
                    refine And.intro (by
                      first
                        | exact gv
                        | exact gL
                        | omega
                        | exact s3
                        | exact s7
                        | exact s8
                        | exact trivial
                        | exact ⟨by omega, by omega⟩
                        | exact ⟨⟨by omega, by omega⟩, gv⟩
                        | exact ⟨s7, gL⟩
                        | exact ⟨s8, gL⟩
                        | exact ⟨⟨by omega, by omega⟩, gL⟩
                        | exact ⟨⟨⟨gL, gv⟩, gs, gt1, gt2⟩, by omega⟩
                        | exact ⟨⟨gL, gv⟩, gs, gt1, gt2⟩
                        | (split <;> exact ⟨by decide, by decide⟩)
                        | exact ⟨⟨by omega, by omega⟩, by omega, by omega⟩) ?_
                    intro M247 hM247
                    unfold pl_st at gK
                    first
                      | (rw [if_pos (by assumption)] at gK; exact gK _ _ hM109 rfl)
                      | (rw [if_neg (by omega), if_pos (by assumption)] at gK; exact gK _ _ hM117 rfl)
                      | (rw [if_neg (by omega), if_neg (by omega), if_pos (by assumption)] at gK
                         first
                           | (rw [if_neg (by assumption)] at gK; exact gK _ _ hM148 rfl)
                           | (rw [if_pos (Decidable.not_not.1 (by assumption))] at gK; exact gK _ _ ⟨gL, ts_f.rf M⟩ rfl))
                      | (rw [if_neg (by omega), if_neg (by omega), if_neg (by omega), if_pos (by assumption)] at gK
                         first
                           | (rw [if_neg (by assumption)] at gK; exact gK _ _ hM174 rfl)
                           | (rw [if_pos (Decidable.not_not.1 (by assumption))] at gK; exact gK _ _ ⟨gL, ts_f.rf M⟩ rfl))
                      | (rw [if_neg (by omega), if_neg (by omega), if_neg (by omega), if_neg (by omega), if_pos (by assumption)] at gK
                         first
                           | (rw [if_neg (by assumption)] at gK; exact gK _ _ hM202 rfl)
                           | (rw [if_pos (Decidable.not_not.1 (by assumption))] at gK; exact gK _ _ ⟨gL, ts_f.rf M⟩ rfl))
                      | (rw [if_neg (by omega), if_neg (by omega), if_neg (by omega), if_neg (by omega), if_neg (by omega), if_pos (by omega)] at gK
                         exact gK _ _ hM215 hr215)
                      | (rw [if_neg (by omega), if_neg (by omega), if_neg (by omega), if_neg (by omega), if_neg (by omega), if_neg (by omega), if_pos (by omega)] at gK
                         first
                           | (rw [if_neg (by assumption)] at gK; first | exact gK _ _ hM247 rfl | exact gK _ _ hM280 rfl)
                           | (rw [if_pos (Decidable.not_not.1 (by assumption))] at gK; first | exact gK _ _ hM247 rfl | exact gK _ _ hM280 rfl))
                      | (rw [if_neg (by omega), if_neg (by omega), if_neg (by omega), if_neg (by omega), if_neg (by omega), if_neg (by omega), if_neg (by omega)] at gK
                         exact gK _ _ hM291 rfl)
                  · intro c232
                    rw [hr229] at c232
                    rw [ab_bt] at c232
                    clear hr229 r229
                    refine Exists.intro (L) <| ?_
                    refine And.intro (by
                      first
                        | exact gv
                        | exact gL
                        | omega
                        | exact s3
                        | exact s7
                        | exact s8
                        | exact trivial
                        | exact ⟨by omega, by omega⟩
                        | exact ⟨⟨by omega, by omega⟩, gv⟩
                        | exact ⟨s7, gL⟩
                        | exact ⟨s8, gL⟩
                        | exact ⟨⟨by omega, by omega⟩, gL⟩
                        | exact ⟨⟨⟨gL, gv⟩, gs, gt1, gt2⟩, by omega⟩
                        | exact ⟨⟨gL, gv⟩, gs, gt1, gt2⟩
                        | (split <;> exact ⟨by decide, by decide⟩)
                        | exact ⟨⟨by omega, by omega⟩, by omega, by omega⟩) ?_
                    intro M247 hM247
                    unfold pl_st at gK
                    first
                      | (rw [if_pos (by assumption)] at gK; exact gK _ _ hM109 rfl)
                      | (rw [if_neg (by omega), if_pos (by assumption)] at gK; exact gK _ _ hM117 rfl)
                      | (rw [if_neg (by omega), if_neg (by omega), if_pos (by assumption)] at gK
                         first
                           | (rw [if_neg (by assumption)] at gK; exact gK _ _ hM148 rfl)
                           | (rw [if_pos (Decidable.not_not.1 (by assumption))] at gK; exact gK _ _ ⟨gL, ts_f.rf M⟩ rfl))
                      | (rw [if_neg (by omega), if_neg (by omega), if_neg (by omega), if_pos (by assumption)] at gK
                         first
                           | (rw [if_neg (by assumption)] at gK; exact gK _ _ hM174 rfl)
                           | (rw [if_pos (Decidable.not_not.1 (by assumption))] at gK; exact gK _ _ ⟨gL, ts_f.rf M⟩ rfl))
                      | (rw [if_neg (by omega), if_neg (by omega), if_neg (by omega), if_neg (by omega), if_pos (by assumption)] at gK
                         first
                           | (rw [if_neg (by assumption)] at gK; exact gK _ _ hM202 rfl)
                           | (rw [if_pos (Decidable.not_not.1 (by assumption))] at gK; exact gK _ _ ⟨gL, ts_f.rf M⟩ rfl))
                      | (rw [if_neg (by omega), if_neg (by omega), if_neg (by omega), if_neg (by omega), if_neg (by omega), if_pos (by omega)] at gK
                         exact gK _ _ hM215 hr215)
                      | (rw [if_neg (by omega), if_neg (by omega), if_neg (by omega), if_neg (by omega), if_neg (by omega), if_neg (by omega), if_pos (by omega)] at gK
                         first
                           | (rw [if_neg (by assumption)] at gK; first | exact gK _ _ hM247 rfl | exact gK _ _ hM280 rfl)
                           | (rw [if_pos (Decidable.not_not.1 (by assumption))] at gK; first | exact gK _ _ hM247 rfl | exact gK _ _ hM280 rfl))
                      | (rw [if_neg (by omega), if_neg (by omega), if_neg (by omega), if_neg (by omega), if_neg (by omega), if_neg (by omega), if_neg (by omega)] at gK
                         exact gK _ _ hM291 rfl)
                · intro c209
                  refine Exists.intro (L) <| ?_
                  refine And.intro (by
                    first
                      | exact gv
                      | exact gL
                      | omega
                      | exact s3
                      | exact s7
                      | exact s8
                      | exact trivial
                      | exact ⟨by omega, by omega⟩
                      | exact ⟨⟨by omega, by omega⟩, gv⟩
                      | exact ⟨s7, gL⟩
                      | exact ⟨s8, gL⟩
                      | exact ⟨⟨by omega, by omega⟩, gL⟩
                      | exact ⟨⟨⟨gL, gv⟩, gs, gt1, gt2⟩, by omega⟩
                      | exact ⟨⟨gL, gv⟩, gs, gt1, gt2⟩
                      | (split <;> exact ⟨by decide, by decide⟩)
                      | exact ⟨⟨by omega, by omega⟩, by omega, by omega⟩) ?_
                  intro r215 M215 hM215 hr215
                  unfold pl_st at gK
                  first
                    | (rw [if_pos (by assumption)] at gK; exact gK _ _ hM109 rfl)
                    | (rw [if_neg (by omega), if_pos (by assumption)] at gK; exact gK _ _ hM117 rfl)
                    | (rw [if_neg (by omega), if_neg (by omega), if_pos (by assumption)] at gK
                       first
                         | (rw [if_neg (by assumption)] at gK; exact gK _ _ hM148 rfl)
                         | (rw [if_pos (Decidable.not_not.1 (by assumption))] at gK; exact gK _ _ ⟨gL, ts_f.rf M⟩ rfl))
                    | (rw [if_neg (by omega), if_neg (by omega), if_neg (by omega), if_pos (by assumption)] at gK
                       first
                         | (rw [if_neg (by assumption)] at gK; exact gK _ _ hM174 rfl)
                         | (rw [if_pos (Decidable.not_not.1 (by assumption))] at gK; exact gK _ _ ⟨gL, ts_f.rf M⟩ rfl))
                    | (rw [if_neg (by omega), if_neg (by omega), if_neg (by omega), if_neg (by omega), if_pos (by assumption)] at gK
                       first
                         | (rw [if_neg (by assumption)] at gK; exact gK _ _ hM202 rfl)
                         | (rw [if_pos (Decidable.not_not.1 (by assumption))] at gK; exact gK _ _ ⟨gL, ts_f.rf M⟩ rfl))
                    | (rw [if_neg (by omega), if_neg (by omega), if_neg (by omega), if_neg (by omega), if_neg (by omega), if_pos (by omega)] at gK
                       exact gK _ _ hM215 hr215)
                    | (rw [if_neg (by omega), if_neg (by omega), if_neg (by omega), if_neg (by omega), if_neg (by omega), if_neg (by omega), if_pos (by omega)] at gK
                       first
                         | (rw [if_neg (by assumption)] at gK; first | exact gK _ _ hM247 rfl | exact gK _ _ hM280 rfl)
                         | (rw [if_pos (Decidable.not_not.1 (by assumption))] at gK; first | exact gK _ _ hM247 rfl | exact gK _ _ hM280 rfl))
                    | (rw [if_neg (by omega), if_neg (by omega), if_neg (by omega), if_neg (by omega), if_neg (by omega), if_neg (by omega), if_neg (by omega)] at gK
                       exact gK _ _ hM291 rfl)
              · intro c4_119
                refine Exists.intro (L) <| ?_
                refine And.intro (by
                  first
                    | exact gv
                    | exact gL
                    | omega
                    | exact s3
                    | exact s7
                    | exact s8
                    | exact trivial
                    | exact ⟨by omega, by omega⟩
                    | exact ⟨⟨by omega, by omega⟩, gv⟩
                    | exact ⟨s7, gL⟩
                    | exact ⟨s8, gL⟩
                    | exact ⟨⟨by omega, by omega⟩, gL⟩
                    | exact ⟨⟨⟨gL, gv⟩, gs, gt1, gt2⟩, by omega⟩
                    | exact ⟨⟨gL, gv⟩, gs, gt1, gt2⟩
                    | (split <;> exact ⟨by decide, by decide⟩)
                    | exact ⟨⟨by omega, by omega⟩, by omega, by omega⟩) ?_
                intro M291 hM291
                unfold pl_st at gK
                first
                  | (rw [if_pos (by assumption)] at gK; exact gK _ _ hM109 rfl)
                  | (rw [if_neg (by omega), if_pos (by assumption)] at gK; exact gK _ _ hM117 rfl)
                  | (rw [if_neg (by omega), if_neg (by omega), if_pos (by assumption)] at gK
                     first
                       | (rw [if_neg (by assumption)] at gK; exact gK _ _ hM148 rfl)
                       | (rw [if_pos (Decidable.not_not.1 (by assumption))] at gK; exact gK _ _ ⟨gL, ts_f.rf M⟩ rfl))
                  | (rw [if_neg (by omega), if_neg (by omega), if_neg (by omega), if_pos (by assumption)] at gK
                     first
                       | (rw [if_neg (by assumption)] at gK; exact gK _ _ hM174 rfl)
                       | (rw [if_pos (Decidable.not_not.1 (by assumption))] at gK; exact gK _ _ ⟨gL, ts_f.rf M⟩ rfl))
                  | (rw [if_neg (by omega), if_neg (by omega), if_neg (by omega), if_neg (by omega), if_pos (by assumption)] at gK
                     first
                       | (rw [if_neg (by assumption)] at gK; exact gK _ _ hM202 rfl)
                       | (rw [if_pos (Decidable.not_not.1 (by assumption))] at gK; exact gK _ _ ⟨gL, ts_f.rf M⟩ rfl))
                  | (rw [if_neg (by omega), if_neg (by omega), if_neg (by omega), if_neg (by omega), if_neg (by omega), if_pos (by omega)] at gK
                     exact gK _ _ hM215 hr215)
                  | (rw [if_neg (by omega), if_neg (by omega), if_neg (by omega), if_neg (by omega), if_neg (by omega), if_neg (by omega), if_pos (by omega)] at gK
                     first
                       | (rw [if_neg (by assumption)] at gK; first | exact gK _ _ hM247 rfl | exact gK _ _ hM280 rfl)
                       | (rw [if_pos (Decidable.not_not.1 (by assumption))] at gK; first | exact gK _ _ hM247 rfl | exact gK _ _ hM280 rfl))
                  | (rw [if_neg (by omega), if_neg (by omega), if_neg (by omega), if_neg (by omega), if_neg (by omega), if_neg (by omega), if_neg (by omega)] at gK
                     exact gK _ _ hM291 rfl)

set_option maxRecDepth 20000 in
set_option maxHeartbeats 1000000 in
theorem ok_X5_ofStatement (E : ab_E) : ab_Ok E 3 65 S_X5_ofStatement := by
  refine ab_mk rq_X5_ofStatement tk_X5_ofStatement (rt := 1) (rfl) (cuts := []) (G := [(59, S_X5_add), (60, S_X5_addHavoc), (63, S_X5_ofCutLoop), (75, S_X7_isTrue), (76, S_X7_of), (110, S_X8_stateWith)]) (List.forall_mem_cons.mpr ⟨⟨1, by decide, ok_X5_add E⟩, List.forall_mem_cons.mpr ⟨⟨2, by decide, ok_X5_addHavoc E⟩, List.forall_mem_cons.mpr ⟨⟨2, by decide, ok_X5_ofCutLoop E⟩, List.forall_mem_cons.mpr ⟨⟨1, by decide, ok_X7_isTrue E⟩, List.forall_mem_cons.mpr ⟨⟨1, by decide, ok_X7_of E⟩, List.forall_mem_cons.mpr ⟨⟨1, by decide, ok_X8_stateWith E⟩, fun _ h => absurd h List.not_mem_nil⟩⟩⟩⟩⟩⟩) (by decide) 171 rfl ?_
  intro a M K wd wa hS
  unfold S_X5_ofStatement at hS
  split at hS
  ·
    rename_i s nn zz cut
    refine ⟨Nat.le_of_ble_eq_true rfl, fun _ _ _ _ _ => False, ?_, ?_⟩
    · exact vc_X5_ofStatement_0 s nn zz cut M K  hS
    · exact fun _ _ _ _ _ h => h.elim
  · exact hS.elim
