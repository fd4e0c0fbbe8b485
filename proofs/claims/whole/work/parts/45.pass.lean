/-! the class: a sign, a name -/
/-- the text of the class without its spaces; how many letters stand before a place -/
abbrev cr_L (o : Nat) (M : ab_M) : List Int := (pz_ls (M (o + 1)) (M o 1)).filter (fun c => decide (c ≠ 32))
abbrev cr_c (o : Nat) (M : ab_M) (k : Nat) : Nat := (pz_pos (M (o + 1)) k).length
def cr_at (o : Nat) (M : ab_M) (k : Nat) : Prop := M 764 2 = (k : Int) ∧ (k : Int) ≤ M o 1 ∧ ((k : Int) < M o 1 → M (o + 1) k ≠ 32) ∧ M 764 3 = if (k : Int) < M o 1 then M (o + 1) k else -1
def cr_st (o : Nat) (M : ab_M) (a f : Int) : Prop := (f = -9 ∧ M 764 4 = -1 ∧ ∃ k, cr_at o M k ∧ a = ((cr_c o M k : Nat) : Int)) ∨ (f ≠ -9 ∧ ∃ k e : Nat, cr_at o M k ∧ M 764 4 = (e : Int) ∧ (e : Int) ≤ M o 1 ∧ ((e : Int) < M o 1 → M (o + 1) e ≠ 32) ∧ f = ((cr_c o M e : Nat) : Int))
/-- all but the reader's place, sign and fault stays -/
def cr_fr (M M' : ab_M) : Prop := ∀ o k, ¬ (o = 764 ∧ (k = 2 ∨ k = 3 ∨ k = 4)) → M' o k = M o k
theorem cr_op_ne {o p : Nat} (h : cr_op o p) : o ≠ 764 ∧ o + 1 ≠ 764 ∧ (∀ j, j ≤ 368 → p + j ≠ 764) := by
  rcases h with ⟨rfl, rfl⟩ | ⟨rfl, rfl⟩
  · exact ⟨by decide, by decide, fun j hj => by omega⟩
  · exact ⟨by decide, by decide, fun j hj => by omega⟩
theorem pz_pos_f {f g : Nat → Int} {i : Nat} (h : ∀ j, j < i → f j = g j) : pz_pos f i = pz_pos g i := by
  unfold pz_pos
  apply List.filter_congr
  intro k hk
  rw [h k (List.mem_range.mp hk)]
theorem pz_pos_mono (f : Nat → Int) {i j : Nat} (h : i ≤ j) : ∃ t, pz_pos f j = pz_pos f i ++ t := by
  induction j with
  | zero => exact ⟨[], by rw [show i = 0 by omega]; simp⟩
  | succ j ih =>
    by_cases hij : i = j + 1
    · exact ⟨[], by rw [hij]; simp⟩
    · obtain ⟨t, ht⟩ := ih (by omega)
      rw [pz_pos_succ, ht, List.append_assoc]
      exact ⟨_, rfl⟩
theorem pz_pos_at (f : Nat → Int) {k n : Nat} (hk : k < n) (hf : f k ≠ 32) : (pz_pos f n)[(pz_pos f k).length]? = some k := by
  obtain ⟨t, ht⟩ := pz_pos_mono f (show k + 1 ≤ n by omega)
  rw [ht, pz_pos_succ, if_pos hf, List.append_assoc, List.getElem?_append_right (Nat.le_refl _), Nat.sub_self]
  rfl
theorem pz_pos_skip (f : Nat → Int) {i j : Nat} (hij : i ≤ j) (h : ∀ m, i ≤ m → m < j → f m = 32) : pz_pos f j = pz_pos f i := by
  induction j with
  | zero => rw [show i = 0 by omega]
  | succ j ih =>
    by_cases e : i = j + 1
    · rw [e]
    · rw [pz_pos_succ, if_neg (fun q => q (h j (by omega) (by omega))), List.append_nil]
      exact ih (by omega) fun m a b => h m a (by omega)
theorem cr_L_pos (o : Nat) (M : ab_M) : cr_L o M = (pz_pos (M (o + 1)) (M o 1).toNat).map (M (o + 1)) := by
  show (pz_ls (M (o + 1)) (M o 1)).filter (fun c => decide (c ≠ 32)) = _
  unfold pz_ls pz_pos
  rw [List.filter_map]
  rfl
theorem cr_L_len (o : Nat) (M : ab_M) : (cr_L o M).length = cr_c o M (M o 1).toNat := by rw [cr_L_pos, List.length_map]
/-- the letter there -/
theorem cr_pt {o : Nat} {M : ab_M} {k : Nat} (h1 : (k : Int) ≤ M o 1) (h2 : (k : Int) < M o 1 → M (o + 1) k ≠ 32) : pz_at (cr_L o M) (cr_c o M k) = (if (k : Int) < M o 1 then M (o + 1) k else -9) ∧ ((k : Int) < M o 1 ↔ cr_c o M k < (cr_L o M).length) := by
  unfold pz_at
  rw [cr_L_pos, List.getD_eq_getElem?_getD, List.getElem?_map, List.length_map]
  by_cases hk : (k : Int) < M o 1
  · rw [pz_pos_at _ (by omega) (h2 hk), if_pos hk]
    refine ⟨rfl, fun _ => ?_, fun _ => hk⟩
    have := pz_pos_at (M (o + 1)) (k := k) (n := (M o 1).toNat) (by omega) (h2 hk)
    exact (List.getElem?_eq_some_iff.mp this).1
  · rw [if_neg hk, show k = (M o 1).toNat by omega, List.getElem?_eq_none (Nat.le_refl _)]
    exact ⟨rfl, fun q => absurd q (by omega), fun q => absurd q (Nat.lt_irrefl _)⟩
/-- a place further -/
theorem cr_mv {o : Nat} {M M' : ab_M} {k j : Nat} (h0 : M 764 0 = (o : Int)) (ho : o ≠ 764 ∧ o + 1 ≠ 764) (hk : (k : Int) < M o 1) (hk2 : M (o + 1) k ≠ 32) (hj : cr_to M ((k : Int) + 1) j) (hM : M' = ab_up (ab_up M 764 2 (j : Int)) 764 3 (cr_sg M j)) : cr_at o M' j ∧ cr_c o M' j = cr_c o M k + 1 ∧ cr_fr M M' := by
  unfold cr_to at hj
  unfold cr_sg at hM
  rw [h0, Int.toNat_natCast] at hj hM
  obtain ⟨j1, j2, j3, j4⟩ := hj
  have e1 : M' o 1 = M o 1 := by rw [hM, ab_up_o ho.1, ab_up_o ho.1]
  have e2 : ∀ i, M' (o + 1) i = M (o + 1) i := fun i => by rw [hM, ab_up_o ho.2, ab_up_o ho.2]
  refine ⟨⟨?_, by rw [e1]; exact j2, fun q => by rw [e2]; rw [e1] at q; exact j3 q, ?_⟩, ?_, fun o' k' q => ?_⟩
  · rw [hM, ab_up_k (by decide), ab_up_s]
  · rw [e1, e2, hM, ab_up_s]
  · show (pz_pos (M' (o + 1)) j).length = _
    rw [pz_pos_f (g := M (o + 1)) fun i _ => e2 i, pz_pos_skip (M (o + 1)) (i := k + 1) (by omega) (fun m a b => j4 m (by omega) b), pz_pos_succ, if_pos hk2, List.length_append]
    rfl
  · rw [hM, ab_up_a, if_neg (by omega), ab_up_a, if_neg (by omega)]
theorem cr_fr.L {o p : Nat} {M M' : ab_M} (hop : cr_op o p) (h : cr_fr M M') : cr_L o M' = cr_L o M ∧ M' o 1 = M o 1 ∧ (∀ j, M' (o + 1) j = M (o + 1) j) ∧ ∀ k, cr_c o M' k = cr_c o M k := by
  obtain ⟨h1, h2, -⟩ := cr_op_ne hop
  have e1 : M' o 1 = M o 1 := h o 1 (by omega)
  have e2 : ∀ j, M' (o + 1) j = M (o + 1) j := fun j => h _ _ (by omega)
  refine ⟨?_, e1, e2, fun k => ?_⟩
  · show (pz_ls (M' (o + 1)) (M' o 1)).filter _ = _
    rw [e1, pz_ls_congr (g := M (o + 1)) fun j _ => e2 j]
  · show (pz_pos (M' (o + 1)) k).length = _
    rw [pz_pos_f (g := M (o + 1)) fun j _ => e2 j]
theorem cr_fr.ok {o p : Nat} {M M' : ab_M} (h : cr_fr M M') (hok : cr_ok o p M) : cr_ok o p M' := by
  obtain ⟨q1, q2, q3, q4, q5, q6⟩ := hok
  obtain ⟨-, e1, e2, -⟩ := h.L q3
  exact ⟨by rw [h _ _ (by omega)]; exact q1, by rw [h _ _ (by omega)]; exact q2, q3, by rw [e1]; exact q4, by rw [e1]; exact q5, fun j => by rw [e2]; exact q6 j⟩
theorem cr_fr.tr {M M1 M2 : ab_M} (h : cr_fr M M1) (h2 : cr_fr M1 M2) : cr_fr M M2 := fun o k q => by rw [h2 o k q, h o k q]
theorem cr_fr.rf (M : ab_M) : cr_fr M M := fun _ _ _ => rfl
theorem cr_at.fr {o p : Nat} {M M' : ab_M} (hop : cr_op o p) (h : cr_fr M M') (h2 : M' 764 2 = M 764 2) (h3 : M' 764 3 = M 764 3) {k : Nat} (ha : cr_at o M k) : cr_at o M' k := by
  obtain ⟨-, e1, e2, -⟩ := h.L hop
  obtain ⟨a1, a2, a3, a4⟩ := ha
  exact ⟨by rw [h2]; exact a1, by rw [e1]; exact a2, fun q => by rw [e2]; rw [e1] at q; exact a3 q, by rw [h3, e1, e2]; exact a4⟩
/-- what a sign that must stand there makes of place and fault -/
def pz_ps (ls : List Int) (w a f : Int) : Int × Int := if f = -9 then (if pz_at ls a.toNat = w then (a + 1, -9) else (a, a)) else (a, f)
/-- the bounds that a turn of the reader needs -/
def cr_rd (M : ab_M) : Prop := ∃ o p, cr_ok o p M ∧ ∃ a f, cr_st o M a f
theorem cr_st_b {o p : Nat} {M : ab_M} {a f : Int} (hok : cr_ok o p M) (h : cr_st o M a f) : ∃ k, cr_at o M k ∧ ab_ir (M 764 4) ∧ ab_ir (M 764 3) ∧ ab_ir (M 764 2) ∧ (f = -9 ↔ M 764 4 < 0) ∧ (f = -9 → a = ((cr_c o M k : Nat) : Int)) := by
  have hb := cr_bd hok
  have h6 := hok.2.2.2.2.2
  have key : ∀ k, cr_at o M k → ab_ir (M 764 3) ∧ ab_ir (M 764 2) := fun k hk => by
    obtain ⟨a1, a2, a3, a4⟩ := hk
    have := h6 k
    refine ⟨?_, by rw [a1]; exact ⟨by omega, by omega⟩⟩
    rw [a4]
    split
    · exact ⟨by omega, by omega⟩
    · exact ⟨by decide, by decide⟩
  rcases h with ⟨h1, h2, k, h3, h4⟩ | ⟨h1, k, e, h3, h4, h5, h6, h7⟩
  · exact ⟨k, h3, by rw [h2]; exact ⟨by decide, by decide⟩, (key k h3).1, (key k h3).2, ⟨fun _ => by omega, fun _ => h1⟩, fun _ => h4⟩
  · exact ⟨k, h3, by rw [h4]; exact ⟨by omega, by omega⟩, (key k h3).1, (key k h3).2, ⟨fun q => absurd q h1, fun q => by omega⟩, fun q => absurd q h1⟩
/-- a fault at the place -/
theorem cr_flt {o p : Nat} {M M' : ab_M} {a : Int} (hok : cr_ok o p M) (h : cr_st o M a (-9)) (hM : M' = ab_up M 764 4 (M 764 2)) : cr_st o M' a a ∧ cr_fr M M' := by
  have hfr : cr_fr M M' := fun o' k' q => by rw [hM, ab_up_a, if_neg (by omega)]
  obtain ⟨-, e1, e2, e3⟩ := hfr.L hok.2.2.1
  rcases h with ⟨h1, h2, k, h3, h4⟩ | ⟨h1, -⟩
  · refine ⟨Or.inr ⟨by omega, k, k, h3.fr hok.2.2.1 hfr (by rw [hM, ab_up_k (by decide)]) (by rw [hM, ab_up_k (by decide)]), ?_, ?_, ?_, ?_⟩, hfr⟩
    · rw [hM, ab_up_s]; exact h3.1
    · rw [e1]; exact h3.2.1
    · rw [e1, e2]; exact h3.2.2.1
    · rw [e3]; exact h4
  · exact absurd rfl h1
/-- a letter taken -/
theorem cr_tk {o p : Nat} {M M' : ab_M} {a : Int} {k j : Nat} (hok : cr_ok o p M) (he : M 764 4 = -1) (hk : cr_at o M k) (ha : a = ((cr_c o M k : Nat) : Int)) (hlt : (k : Int) < M o 1) (hj : cr_to M ((k : Int) + 1) j) (hM : M' = ab_up (ab_up M 764 2 (j : Int)) 764 3 (cr_sg M j)) : cr_st o M' (a + 1) (-9) ∧ cr_fr M M' := by
  obtain ⟨h1, h2, -⟩ := cr_op_ne hok.2.2.1
  obtain ⟨m1, m2, m3⟩ := cr_mv hok.1 ⟨h1, h2⟩ hlt (hk.2.2.1 hlt) hj hM
  refine ⟨Or.inl ⟨rfl, ?_, j, m1, ?_⟩, m3⟩
  · rw [hM, ab_up_k (by decide), ab_up_k (by decide)]; exact he
  · rw [m2, ha]; rfl
theorem cr_sgn {o p : Nat} {M : ab_M} {k : Nat} (hok : cr_ok o p M) (hk : cr_at o M k) (c : Int) (hc : 0 ≤ c) : (M 764 3 = c ↔ pz_at (cr_L o M) (cr_c o M k) = c) ∧ (M 764 3 = c → (k : Int) < M o 1) := by
  obtain ⟨p1, -⟩ := cr_pt hk.2.1 hk.2.2.1
  rw [p1, hk.2.2.2]
  by_cases h : (k : Int) < M o 1
  · rw [if_pos h, if_pos h]
    exact ⟨Iff.rfl, fun _ => h⟩
  · rw [if_neg h, if_neg h]
    exact ⟨⟨fun q => by omega, fun q => by omega⟩, fun q => by omega⟩

def S_X2_pass : ab_PT := fun a M K => match a with
  | [.inr (.inr (.inr (764, 2, 0))), .inr (.inl w)] => (cr_rd M ∧ ab_ir w ∧ 0 ≤ w) ∧ (∀ Mx : ab_M, (cr_fr M Mx ∧ ∀ o p a f, cr_ok o p M → cr_st o M a f → cr_st o Mx (pz_ps (cr_L o M) w a f).1 (pz_ps (cr_L o M) w a f).2) → K [] Mx)
  | _ => False
set_option maxRecDepth 20000 in
theorem vc_X2_pass_0 (w : Int) (M : ab_M) (K : List ab_V → ab_M → Prop) (hS : (cr_rd M ∧ ab_ir w ∧ 0 ≤ w) ∧ (∀ Mx : ab_M, (cr_fr M Mx ∧ ∀ o p a f, cr_ok o p M → cr_st o M a f → cr_st o Mx (pz_ps (cr_L o M) w a f).1 (pz_ps (cr_L o M) w a f).2) → K [] Mx)) : (ab_ir (M 764 4)) ∧ (((M 764 4) < 0 → (ab_ir (M 764 3) ∧ ab_ir w) ∧ ((¬ (M 764 3) = w → K [] (ab_up M 764 4 (M 764 2))) ∧ ((M 764 3) = w → ((∃ o p, cr_ok o p M) ∧ 0 ≤ ((M 764 2) + (1 : Int)) ∧ ((M 764 2) + (1 : Int)) ≤ M (M 764 0).toNat 1) ∧ (∀ M23 : ab_M, (∃ j : Nat, cr_to M ((M 764 2) + (1 : Int)) j ∧ M23 = ab_up (ab_up M 764 2 (j : Int)) 764 3 (cr_sg M j)) → K [] M23)))) ∧ (0 ≤ (M 764 4) → K [] M)) := by
  obtain ⟨⟨⟨o, p, hok, a, f, hst⟩, g2, g3⟩, gK⟩ := hS
  obtain ⟨k, b1, b2, b3, b4, b5, b6⟩ := cr_st_b hok hst
  obtain ⟨q1, q2, q3, q4, q5, q6⟩ := id hok
  have hsg := cr_sgn hok b1 w g3
  have hb := cr_bd hok
  refine And.intro (by
    first
      | omega
      | exact ⟨b3, g2⟩
      | exact ⟨b2, by decide, by decide⟩
      | exact b2) ?_
  refine ⟨?_, ?_⟩
  · intro c4
    refine And.intro (by
      first
        | omega
        | exact ⟨b3, g2⟩
        | exact ⟨b2, by decide, by decide⟩
        | exact b2) ?_
    refine ⟨?_, ?_⟩
    · intro c13
      refine gK _ ⟨fun o' k' q => by rw [ab_up_a, if_neg (by omega)], fun o' p' a' f' hok' hst' => ?_⟩
      obtain ⟨k', c1, -, -, -, c5, c6⟩ := cr_st_b hok' hst'
      have hf : f' = -9 := c5.2 c4
      subst hf
      have hoo : o' = o := by have := hok'.1; omega
      subst hoo
      have hkk : k' = k := by have := c1.1; have := b1.1; omega
      subst hkk
      have e : pz_ps (cr_L o' M) w a' (-9) = (a', a') := by
        unfold pz_ps
        rw [if_pos rfl, c6 rfl, Int.toNat_natCast, if_neg (fun q => c13 (hsg.1.2 q))]
      rw [e]
      exact (cr_flt hok' hst' rfl).1
    · intro c13
      refine And.intro (by
        have e1 := b1.1
        have hlt := hsg.2 c13
        exact ⟨⟨o, p, hok⟩, by omega, by rw [q1, Int.toNat_natCast]; omega⟩) ?_
      intro M23 hM23
      have e1 := b1.1
      obtain ⟨j, hj, hM⟩ := hM23
      have hlt := hsg.2 c13
      have hne := cr_op_ne q3
      have hall := cr_mv q1 ⟨hne.1, hne.2.1⟩ hlt (b1.2.2.1 hlt) (by rw [← e1]; exact hj) hM
      refine gK _ ⟨hall.2.2, fun o' p' a' f' hok' hst' => ?_⟩
      obtain ⟨k', c1, -, -, -, c5, c6⟩ := cr_st_b hok' hst'
      have hoo : o' = o := by have := hok'.1; omega
      subst hoo
      have hf : f' = -9 := c5.2 c4
      have hkk : k' = k := by have := c1.1; omega
      subst hkk
      subst hf
      have e : pz_ps (cr_L o' M) w a' (-9) = (a' + 1, -9) := by
        unfold pz_ps
        rw [if_pos rfl, c6 rfl, Int.toNat_natCast, if_pos (hsg.1.1 c13)]
      rw [e]
      have he : M 764 4 = -1 := by
        rcases hst' with ⟨-, z, -⟩ | ⟨z, -⟩
        · exact z
        · exact absurd rfl z
      exact (cr_tk hok' he c1 (c6 rfl) hlt (by rw [← e1]; exact hj) hM).1
  · intro c4
    refine gK _ ⟨cr_fr.rf M, fun o' p' a' f' hok' hst' => ?_⟩
    obtain ⟨k', -, -, -, -, b5', -⟩ := cr_st_b hok' hst'
    have e : pz_ps (cr_L o' M) w a' f' = (a', f') := by
      unfold pz_ps
      rw [if_neg (fun q => by have := b5'.1 q; omega)]
    rw [e]
    exact hst'

set_option maxRecDepth 20000 in
set_option maxHeartbeats 1000000 in
theorem ok_X2_pass (E : ab_E) : ab_Ok E 3 39 S_X2_pass := by
  refine ab_mk rq_X2_pass tk_X2_pass (rt := 0) (rfl) (cuts := []) (G := [(37, S_X2_moveTo)]) (List.forall_mem_cons.mpr ⟨⟨2, by decide, ok_X2_moveTo E⟩, fun _ h => absurd h List.not_mem_nil⟩) (by decide) 70 rfl ?_
  intro a M K wd wa hS
  unfold S_X2_pass at hS
  split at hS
  ·
    rename_i w
    refine ⟨Nat.le_of_ble_eq_true rfl, fun _ _ _ _ _ => False, ?_, ?_⟩
    · exact vc_X2_pass_0 w M K  hS
    · exact fun _ _ _ _ _ h => h.elim
  · exact hS.elim
def S_X2_variable : ab_PT := fun a M K => match a with
  | [.inr (.inr (.inr (764, 2, 0)))] => (cr_rd M) ∧ (∀ rx : Int, ∀ Mx : ab_M, (cr_fr M Mx) → (∀ o p a f, cr_ok o p M → cr_st o M a f → cr_st o Mx (pz_nm (cr_L o M) a f).2.1 (pz_nm (cr_L o M) a f).2.2 ∧ rx = if (pz_nm (cr_L o M) a f).2.2 = -9 then (pz_nm (cr_L o M) a f).1 else -1) → K [Xi rx] Mx)
  | _ => False
set_option maxRecDepth 20000 in
theorem vc_X2_variable_0  (M : ab_M) (K : List ab_V → ab_M → Prop) (hS : (cr_rd M) ∧ (∀ rx : Int, ∀ Mx : ab_M, (cr_fr M Mx) → (∀ o p a f, cr_ok o p M → cr_st o M a f → cr_st o Mx (pz_nm (cr_L o M) a f).2.1 (pz_nm (cr_L o M) a f).2.2 ∧ rx = if (pz_nm (cr_L o M) a f).2.2 = -9 then (pz_nm (cr_L o M) a f).1 else -1) → K [Xi rx] Mx)) : (ab_ir (M 764 4)) ∧ (((M 764 4) < 0 → (ab_ir (M 764 3)) ∧ (∀ r13 : Int, (r13 = if 97 ≤ (M 764 3) ∧ (M 764 3) ≤ 100 then 1 else 0) → (ab_ir r13) ∧ ((¬ r13 = 0 → (-128 ≤ (97 : Int) ∧ (97 : Int) < 128) ∧ ((∃ o p, cr_ok o p M) ∧ 0 ≤ ((M 764 2) + (1 : Int)) ∧ ((M 764 2) + (1 : Int)) ≤ M (M 764 0).toNat 1) ∧ (∀ M44 : ab_M, (∃ j : Nat, cr_to M ((M 764 2) + (1 : Int)) j ∧ M44 = ab_up (ab_up M 764 2 (j : Int)) 764 3 (cr_sg M j)) → K [Xi ((M 764 3) - (97 : Int))] M44)) ∧ (r13 = 0 → K [Xi (-1 : Int)] (ab_up M 764 4 (M 764 2)))))) ∧ (0 ≤ (M 764 4) → K [Xi (-1 : Int)] M)) := by
  obtain ⟨⟨o, p, hok, a, f, hst⟩, gK⟩ := hS
  obtain ⟨k, b1, b2, b3, b4, b5, b6⟩ := cr_st_b hok hst
  obtain ⟨q1, q2, q3, q4, q5, q6⟩ := id hok
  have hpt := cr_pt b1.2.1 b1.2.2.1
  have hb := cr_bd hok
  refine And.intro (by
    first
      | omega
      | exact b3
      | exact ⟨b2, by decide, by decide⟩
      | exact b2
      | (rw [hr13]; split <;> exact ⟨by decide, by decide⟩)) ?_
  refine ⟨?_, ?_⟩
  · intro c4
    refine And.intro (by
      first
        | omega
        | exact b3
        | exact ⟨b2, by decide, by decide⟩
        | exact b2
        | (rw [hr13]; split <;> exact ⟨by decide, by decide⟩)) ?_
    intro r13 hr13
    refine And.intro (by
      first
        | omega
        | exact b3
        | exact ⟨b2, by decide, by decide⟩
        | exact b2
        | (rw [hr13]; split <;> exact ⟨by decide, by decide⟩)) ?_
    refine ⟨?_, ?_⟩
    · intro c16
      rw [hr13] at c16
      rw [ab_bt] at c16
      clear hr13 r13
      refine And.intro (by
        first
          | omega
          | exact b3
          | exact ⟨b2, by decide, by decide⟩
          | exact b2
          | (rw [hr13]; split <;> exact ⟨by decide, by decide⟩)) ?_
      refine And.intro (by
        have e1 := b1.1
        have hlt : (k : Int) < M o 1 := by
          have e4 := b1.2.2.2
          by_cases q : (k : Int) < M o 1
          · exact q
          · rw [if_neg q] at e4
            omega
        exact ⟨⟨o, p, hok⟩, by omega, by rw [q1, Int.toNat_natCast]; omega⟩) ?_
      intro M44 hM44
      have e1 := b1.1
      have hc := (b1.2.2.2).symm.trans rfl
      have hlt : (k : Int) < M o 1 := by
        have e4 := b1.2.2.2
        by_cases q : (k : Int) < M o 1
        · exact q
        · rw [if_neg q] at e4
          omega
      obtain ⟨j, hj, hM⟩ := hM44
      have hne := cr_op_ne q3
      have hall := cr_mv q1 ⟨hne.1, hne.2.1⟩ hlt (b1.2.2.1 hlt) (by rw [← e1]; exact hj) hM
      refine gK _ _ hall.2.2 (fun o' p' a' f' hok' hst' => ?_)
      obtain ⟨k', c1, -, -, -, c5, c6⟩ := cr_st_b hok' hst'
      have hoo : o' = o := by have := hok'.1; omega
      subst hoo
      have hf : f' = -9 := c5.2 c4
      have hkk : k' = k := by have := c1.1; omega
      subst hkk
      subst hf
      have hat : pz_at (cr_L o' M) (cr_c o' M k') = M 764 3 := by rw [hpt.1, if_pos hlt, b1.2.2.2, if_pos hlt]
      have e : pz_nm (cr_L o' M) a' (-9) = (M 764 3 - 97, a' + 1, -9) := by
        unfold pz_nm
        rw [if_pos rfl, c6 rfl, Int.toNat_natCast, hat, if_pos c16]
      rw [e]
      have he : M 764 4 = -1 := by
        rcases hst' with ⟨-, z, -⟩ | ⟨z, -⟩
        · exact z
        · exact absurd rfl z
      exact ⟨(cr_tk hok' he c1 (c6 rfl) hlt (by rw [← e1]; exact hj) hM).1, rfl⟩
    · intro c16
      rw [hr13] at c16
      rw [ab_bf] at c16
      clear hr13 r13
      refine gK _ _ (fun o' k' q => by rw [ab_up_a, if_neg (by omega)]) (fun o' p' a' f' hok' hst' => ?_)
      obtain ⟨k', c1, -, -, -, c5, c6⟩ := cr_st_b hok' hst'
      have hf : f' = -9 := c5.2 c4
      subst hf
      have hoo : o' = o := by have := hok'.1; omega
      subst hoo
      have hkk : k' = k := by have := c1.1; have := b1.1; omega
      subst hkk
      have e : pz_nm (cr_L o' M) a' (-9) = (0, a', a') := by
        unfold pz_nm
        rw [if_pos rfl, c6 rfl, Int.toNat_natCast, if_neg]
        rw [hpt.1]
        have e4 := b1.2.2.2
        intro q
        split at q
        · rename_i hl
          rw [if_pos hl] at e4
          rw [← e4] at q
          exact c16 q
        · omega
      rw [e]
      have ha := c6 rfl
      exact ⟨(cr_flt hok' hst' rfl).1, by rw [if_neg (by show ¬ a' = -9; omega)]⟩
  · intro c4
    refine gK _ _ (cr_fr.rf M) (fun o' p' a' f' hok' hst' => ?_)
    obtain ⟨k', -, -, -, -, b5', -⟩ := cr_st_b hok' hst'
    have hf : f' ≠ -9 := fun q => by have := b5'.1 q; omega
    have e : pz_nm (cr_L o' M) a' f' = (0, a', f') := by
      unfold pz_nm
      rw [if_neg hf]
    rw [e]
    exact ⟨hst', by rw [if_neg hf]⟩

set_option maxRecDepth 20000 in
set_option maxHeartbeats 1000000 in
theorem ok_X2_variable (E : ab_E) : ab_Ok E 3 45 S_X2_variable := by
  refine ab_mk rq_X2_variable tk_X2_variable (rt := 1) (rfl) (cuts := []) (G := [(37, S_X2_moveTo), (96, S_X8_isVariable)]) (List.forall_mem_cons.mpr ⟨⟨2, by decide, ok_X2_moveTo E⟩, List.forall_mem_cons.mpr ⟨⟨1, by decide, ok_X8_isVariable E⟩, fun _ h => absurd h List.not_mem_nil⟩⟩) (by decide) 78 rfl ?_
  intro a M K wd wa hS
  unfold S_X2_variable at hS
  split at hS
  ·
    refine ⟨Nat.le_of_ble_eq_true rfl, fun _ _ _ _ _ => False, ?_, ?_⟩
    · exact vc_X2_variable_0  M K  hS
    · exact fun _ _ _ _ _ h => h.elim
  · exact hS.elim
