/-! the class: what was read of a statement -/
/-- of a new statement's row s: what has been read of it so far -/
def cr_X (o p s : Nat) (M N : ab_M) (T : Nat) (a f v fi se : Int) (tl : List (Nat × Int)) : Prop :=
  cr_st o N a f ∧
  (∀ o' k' : Nat, ¬ (o' = 764 ∧ (k' = 2 ∨ k' = 3 ∨ k' = 4)) → ¬ (o' = s ∧ (k' = 1 ∨ k' = 2 ∨ k' = 3)) → ¬ (o' = p ∧ k' = 11) → ¬ ((o' = p + 367 ∨ o' = p + 368) ∧ T ≤ k') → N o' k' = M o' k') ∧
  (0 ≤ N p 11 ∧ N p 11 ≤ ((T + tl.length : Nat) : Int)) ∧
  (f = -9 → N p 11 = ((T + tl.length : Nat) : Int) ∧ N s 1 = v ∧ N s 2 = fi ∧ N s 3 = se ∧ ∀ (i : Nat) (e : Nat × Int), tl[i]? = some e → cr_bp (M (o + 1)) e.1 (N (p + 367) (T + i)) ∧ N (p + 368) (T + i) = e.2)
def cr_set (o p s : Nat) (M : ab_M) : Prop := cr_ok o p M ∧ ∃ R, R < 120 ∧ s = p + 1 + 1 + 3 * R
theorem cr_set.ne {o p s : Nat} {M : ab_M} (h : cr_set o p s M) : (o < 25 ∧ o + 1 < 25 ∧ 26 ≤ p ∧ p < 396 ∧ p + 1 < s ∧ s < p + 362) := by
  obtain ⟨⟨-, -, q, -⟩, R, h1, h2⟩ := h
  rcases q with ⟨w, w'⟩ | ⟨w, w'⟩ <;> omega
theorem cr_X.nb {o p s : Nat} {M N : ab_M} {T : Nat} {a f v fi se : Int} {tl : List (Nat × Int)} (h : cr_X o p s M N T a f v fi se tl) (hs : cr_set o p s M) : cr_ok o p N ∧ cr_L o N = cr_L o M ∧ (∀ j, N (o + 1) j = M (o + 1) j) ∧ N o 1 = M o 1 := by
  obtain ⟨n1, n2, n3, n4, n5, n6⟩ := hs.ne
  have e1 : N o 1 = M o 1 := h.2.1 o 1 (by omega) (by omega) (by omega) (by omega)
  have e2 : ∀ j, N (o + 1) j = M (o + 1) j := fun j => h.2.1 _ j (by omega) (by omega) (by omega) (by omega)
  refine ⟨cr_ok_fr hs.1 ⟨h.2.1 764 0 (by omega) (by omega) (by omega) (by omega), h.2.1 764 1 (by omega) (by omega) (by omega) (by omega)⟩ e1 e2, ?_, e2, e1⟩
  show (pz_ls (N (o + 1)) (N o 1)).filter _ = _
  rw [e1, pz_ls_congr (g := M (o + 1)) fun j _ => e2 j]
theorem cr_X.base {o p s : Nat} {M N : ab_M} {a : Int} (hs : cr_set o p s M) (hf : cr_fr M N) (hst : cr_st o N a (-9)) (hT : 0 ≤ M p 11) : cr_X o p s M N (M p 11).toNat a (-9) (M s 1) (M s 2) (M s 3) [] := by
  obtain ⟨n1, n2, n3, n4, n5, n6⟩ := hs.ne
  have e11 : N p 11 = M p 11 := hf _ _ (by omega)
  exact ⟨hst, fun o' k' h1 _ _ _ => hf o' k' h1, ⟨by omega, by rw [List.length_nil]; omega⟩, fun _ => ⟨by rw [List.length_nil]; omega, hf _ _ (by omega), hf _ _ (by omega), hf _ _ (by omega), fun i e he => by cases he⟩⟩
theorem cr_X.term {o p s : Nat} {M N N' : ab_M} {T : Nat} {a f v fi se fi' se' r : Int} {tl : List (Nat × Int)} {j : Nat} (h : cr_X o p s M N T a f v fi se tl) (hs : cr_set o p s M) (hM : cr_TM N N' r) (hj : j = 2 ∧ fi' = ((T + tl.length : Nat) : Int) ∧ se' = se ∨ j = 3 ∧ fi' = fi ∧ se' = ((T + tl.length : Nat) : Int)) :
    cr_X o p s M (ab_up N' s j r) T (pz_te (cr_L o M) a f).2.1 (pz_te (cr_L o M) a f).2.2 v fi' se' (tl ++ [(a.toNat, (pz_te (cr_L o M) a f).1)]) := by
  obtain ⟨hokN, hL, hN2, hN1⟩ := h.nb hs
  obtain ⟨n1, n2, n3, n4, n5, n6⟩ := hs.ne
  obtain ⟨x1, x2, ⟨x3, x4⟩, x5⟩ := h
  obtain ⟨t1, t2⟩ := hM o p a f hokN x1
  rw [hL] at t1 t2
  have hj2 : j = 2 ∨ j = 3 := by rcases hj with ⟨q, -⟩ | ⟨q, -⟩ <;> omega
  have hlen : (tl ++ [(a.toNat, (pz_te (cr_L o M) a f).1)]).length = tl.length + 1 := by simp
  by_cases q : (pz_te (cr_L o M) a f).2.2 = -9
  · obtain ⟨u1, N2, u2, u3, u4⟩ := t1 q
    have hf : f = -9 := pz_te_f q
    obtain ⟨y1, y2, y3, y4, y5⟩ := x5 hf
    have eT : (N p 11).toNat = T + tl.length := by omega
    have hup : ∀ o' k', ¬ (o' = s ∧ k' = j) → ¬ (o' = p ∧ k' = 11) → ¬ ((o' = p + 367 ∨ o' = p + 368) ∧ k' = T + tl.length) → ab_up N' s j r o' k' = N2 o' k' := fun o' k' g1 g2 g3 => by
      rw [up_ne g1, u4, up_ne g2, up_ne (fun z => g3 ⟨Or.inr z.1, by omega⟩), up_ne (fun z => g3 ⟨Or.inl z.1, by omega⟩)]
    have h11 : ab_up N' s j r p 11 = ((T + tl.length + 1 : Nat) : Int) := by
      rw [up_ne (by omega), u4, ab_up_s, y1]
      rfl
    have h7 : ab_up N' s j r (p + 367) (T + tl.length) = N 764 2 := by
      rw [up_ne (by omega), u4, up_ne (by omega), up_ne (by omega), eT, ab_up_s]
    have h8 : ab_up N' s j r (p + 368) (T + tl.length) = (pz_te (cr_L o M) a f).1 := by
      rw [up_ne (by omega), u4, up_ne (by omega), eT, ab_up_s]
    refine ⟨?_, fun o' k' g1 g2 g3 g4 => ?_, ⟨by omega, by rw [hlen, h11]; omega⟩, fun _ => ⟨by rw [hlen, h11]; rfl, ?_, ?_, ?_, fun i e he => ?_⟩⟩
    · rw [q]
      refine cr_kp.st (p := p) ⟨?_, ?_, ?_, ?_, ?_, ?_, fun i => ?_⟩ u3
      all_goals exact hup _ _ (by omega) (by omega) (by omega)
    · rw [hup o' k' (fun z => g2 ⟨z.1, by omega⟩) g3 (fun z => g4 ⟨z.1, by omega⟩), u2 o' k' g1, x2 o' k' g1 g2 g3 g4]
    · rw [hup s 1 (by omega) (by omega) (by omega), u2 s 1 (by omega)]; exact y2
    · rcases hj with ⟨z1, z2, z3⟩ | ⟨z1, z2, z3⟩
      · rw [z1, ab_up_s, u1, z2]; exact y1
      · rw [hup s 2 (by omega) (by omega) (by omega), u2 s 2 (by omega), z2]; exact y3
    · rcases hj with ⟨z1, z2, z3⟩ | ⟨z1, z2, z3⟩
      · rw [hup s 3 (by omega) (by omega) (by omega), u2 s 3 (by omega), z3]; exact y4
      · rw [z1, ab_up_s, u1, z3]; exact y1
    · by_cases hi : i < tl.length
      · rw [List.getElem?_append_left hi] at he
        rw [hup _ _ (by omega) (by omega) (by omega), hup _ _ (by omega) (by omega) (by omega), u2 _ _ (by omega), u2 _ _ (by omega)]
        exact y5 i e he
      · have hil := (List.getElem?_eq_some_iff.mp he).1
        rw [hlen] at hil
        have hi2 : i = tl.length := by omega
        subst hi2
        rw [List.getElem?_append_right (Nat.le_refl _), Nat.sub_self] at he
        have he : (a.toNat, (pz_te (cr_L o M) a f).1) = e := Option.some.inj he
        subst he
        refine ⟨?_, h8⟩
        rw [h7]
        have hb := cr_bd hokN
        rcases x1 with ⟨-, -, k, z3, z4⟩ | ⟨z, -⟩
        · refine ⟨k, z3.1, by have := z3.2.1; omega, ?_⟩
          show (pz_pos (M (o + 1)) k).length = a.toNat
          rw [z4, Int.toNat_natCast]
          exact congrArg List.length (pz_pos_f fun i _ => (hN2 i).symm)
        · exact absurd hf z
  · obtain ⟨u1, u2, u3⟩ := t2 q
    have hup : ∀ o' k', ¬ (o' = s ∧ k' = j) → ab_up N' s j r o' k' = N' o' k' := fun o' k' g1 => up_ne g1
    have e11 : ab_up N' s j r p 11 = N p 11 := by rw [hup _ _ (by omega), u2 _ _ (by omega)]
    refine ⟨?_, fun o' k' g1 g2 g3 g4 => ?_, ⟨by omega, by rw [hlen, e11]; omega⟩, fun z => absurd z q⟩
    · refine cr_kp.st (p := p) ⟨?_, ?_, ?_, ?_, ?_, ?_, fun i => ?_⟩ u3
      all_goals exact hup _ _ (by omega)
    · rw [hup o' k' (fun z => g2 ⟨z.1, by omega⟩), u2 o' k' g1, x2 o' k' g1 g2 g3 g4]
theorem cr_X.var {o p s : Nat} {M N N' : ab_M} {T : Nat} {a f v fi se r : Int} {tl : List (Nat × Int)} (h : cr_X o p s M N T a f v fi se tl) (hs : cr_set o p s M) (hf' : cr_fr N N') (hM : ∀ o p a f, cr_ok o p N → cr_st o N a f → cr_st o N' (pz_nm (cr_L o N) a f).2.1 (pz_nm (cr_L o N) a f).2.2 ∧ r = if (pz_nm (cr_L o N) a f).2.2 = -9 then (pz_nm (cr_L o N) a f).1 else -1) :
    cr_X o p s M (ab_up N' s 1 r) T (pz_nm (cr_L o M) a f).2.1 (pz_nm (cr_L o M) a f).2.2 (pz_nm (cr_L o M) a f).1 fi se tl := by
  obtain ⟨hokN, hL, hN2, hN1⟩ := h.nb hs
  obtain ⟨n1, n2, n3, n4, n5, n6⟩ := hs.ne
  obtain ⟨x1, x2, ⟨x3, x4⟩, x5⟩ := h
  obtain ⟨t1, t2⟩ := hM o p a f hokN x1
  rw [hL] at t1 t2
  have hup : ∀ o' k', ¬ (o' = s ∧ k' = 1) → ab_up N' s 1 r o' k' = N' o' k' := fun o' k' g1 => up_ne g1
  have e11 : ab_up N' s 1 r p 11 = N p 11 := by rw [hup _ _ (by omega), hf' _ _ (by omega)]
  refine ⟨?_, fun o' k' g1 g2 g3 g4 => ?_, ⟨by omega, by omega⟩, fun q => ?_⟩
  · refine cr_kp.st (p := p) ⟨?_, ?_, ?_, ?_, ?_, ?_, fun i => ?_⟩ t1
    all_goals exact hup _ _ (by omega)
  · rw [hup o' k' (fun z => g2 ⟨z.1, by omega⟩), hf' o' k' g1, x2 o' k' g1 g2 g3 g4]
  · obtain ⟨y1, y2, y3, y4, y5⟩ := x5 (pz_nm_f q)
    refine ⟨by rw [e11]; exact y1, by rw [ab_up_s, t2, if_pos q], by rw [hup _ _ (by omega), hf' _ _ (by omega)]; exact y3, by rw [hup _ _ (by omega), hf' _ _ (by omega)]; exact y4, fun i e he => ?_⟩
    rw [hup _ _ (by omega), hup _ _ (by omega), hf' _ _ (by omega), hf' _ _ (by omega)]
    exact y5 i e he
/-- letters and sorts -/
theorem pz_srt_let {L s : Int} (h : pz_srt L = s) (hs : s ≠ -9) : (97 ≤ L ∧ L ≤ 100 ↔ s = 0) ∧ (L = 119 ↔ s = 7) ∧ (L = 107 ↔ s = 2) ∧ (L = 112 ↔ s = 5) ∧ (L = 104 ↔ s = 1) ∧ (L = 115 ↔ s = 3) ∧ (L = 116 ↔ s = 4) ∧ (L = 105 ↔ s = 6) ∧ (L = 121 ↔ s = 8) ∧ (if 97 ≤ L ∧ L ≤ 100 then (118 : Int) else L) = cr_lt s ∧ 0 ≤ s ∧ s ≤ 8 ∧ L ≠ 118 := by
  have hc : (97 ≤ L ∧ L ≤ 100 ∧ s = 0) ∨ (L = 104 ∧ s = 1) ∨ (L = 107 ∧ s = 2) ∨ (L = 115 ∧ s = 3) ∨ (L = 116 ∧ s = 4) ∨ (L = 112 ∧ s = 5) ∨ (L = 105 ∧ s = 6) ∨ (L = 119 ∧ s = 7) ∨ (L = 121 ∧ s = 8) := by
    unfold pz_srt at h
    repeat' split at h
    all_goals omega
  rcases hc with ⟨h1, h2, rfl⟩ | ⟨rfl, rfl⟩ | ⟨rfl, rfl⟩ | ⟨rfl, rfl⟩ | ⟨rfl, rfl⟩ | ⟨rfl, rfl⟩ | ⟨rfl, rfl⟩ | ⟨rfl, rfl⟩ | ⟨rfl, rfl⟩
  · refine ⟨by omega, by omega, by omega, by omega, by omega, by omega, by omega, by omega, by omega, ?_, by omega, by omega, by omega⟩
    rw [if_pos ⟨h1, h2⟩]
    rfl
  all_goals decide

