/-! the making: the state of an object while it is made; rows with numbers given -/
theorem ac_fv_ref {S t o' : Nat} (ht : 2 ≤ t) : ab_fv S t (o' : Int) = .ref (S + o') := by
  unfold ab_fv ab_rf
  rw [if_neg (by omega), if_neg (by omega)]
  rfl
theorem kf_nw {n : Nat} (h1 : 20 ≤ ab_kd n) (h2 : ab_kd n < 25) (M : ab_M) : ac_KF n (n + 1) M (ac_nw M n) :=
  ⟨fun o' ho k => if_neg (by omega), fun o' g1 g2 k _ => by
    have e : o' = n := by omega
    subst e
    rw [ac_nw_0 h1 h2, ac_T0 h1 h2]⟩
/-- an object p is being made, its array of references a has i elements, all cells behind it up to n are as they shall be -/
def ac_I (p n a i : Nat) (M0 : ab_M) (g : Nat → Int) (M : ab_M) : Prop :=
  (∀ o, o < p → ∀ k, M o k = M0 o k) ∧ (∀ k, M p k = g k) ∧ (∀ j, j < i → M a j = ac_T a j) ∧ ∀ o, p < o → o < n → o ≠ a → ∀ k, ac_r o k = true → M o k = ac_T o k
theorem ac_I.put {p n a i j : Nat} {v : Int} {M0 M : ab_M} {g : Nat → Int} (h : ac_I p n a i M0 g M) (ha : a = p → i = 0) : ac_I p n a i M0 (fun k => if k = j then v else g k) (ab_up M p j v) := by
  obtain ⟨h1, h2, h3, h4⟩ := h
  refine ⟨fun o ho k => (ab_up_o (by omega) k).trans (h1 o ho k), fun k => ?_, fun j' hj => ?_, fun o g1 g2 g3 k hk => (ab_up_o (by omega) k).trans (h4 o g1 g2 g3 k hk)⟩
  · show ab_up M p j v p k = if k = j then v else g k
    rw [ab_up_a]
    by_cases e : k = j
    · rw [if_pos ⟨rfl, e⟩, if_pos e]
    · rw [if_neg (fun q => e q.2), if_neg e]; exact h2 k
  · rw [ab_up_o (fun e => by have := ha e; omega)]
    exact h3 j' hj
theorem ac_I.con {p n n' a i : Nat} {M0 M M' : ab_M} {g : Nat → Int} (h : ac_I p n a i M0 g M) (hk : ac_KF n n' M M') (hp : p < n) (ha : a < n) : ac_I p n' a i M0 g M' := by
  obtain ⟨h1, h2, h3, h4⟩ := h
  obtain ⟨k1, k2⟩ := hk
  refine ⟨fun o ho k => (k1 o (by omega) k).trans (h1 o ho k), fun k => (k1 p hp k).trans (h2 k), fun j hj => (k1 a ha j).trans (h3 j hj), fun o g1 g2 g3 k hk => ?_⟩
  by_cases e : o < n
  · exact (k1 o e k).trans (h4 o g1 e g3 k hk)
  · exact k2 o (by omega) g2 k hk
theorem ac_I.ref {p n : Nat} {M0 M : ab_M} {g : Nat → Int} (h : ac_I p n p 0 M0 g M) (hp : p < n) : ac_I p (n + 1) n 0 M0 g (ac_nw M n) := by
  obtain ⟨h1, h2, h3, h4⟩ := h
  exact ⟨fun o ho k => (if_neg (by omega)).trans (h1 o ho k), fun k => (if_neg (by omega)).trans (h2 k), fun j hj => absurd hj (Nat.not_lt_zero j), fun o g1 g2 g3 k hk => (if_neg g3).trans (h4 o g1 (by omega) (by omega) k hk)⟩
theorem ac_I.ast {p n a i : Nat} {v : Int} {M0 M : ab_M} {g : Nat → Int} (h : ac_I p n a i M0 g M) (hp : p < a) (hv : v = ac_T a i) : ac_I p n a (i + 1) M0 g (ab_up M a i v) := by
  obtain ⟨h1, h2, h3, h4⟩ := h
  refine ⟨fun o ho k => (ab_up_o (by omega) k).trans (h1 o ho k), fun k => (ab_up_o (by omega) k).trans (h2 k), fun j hj => ?_, fun o g1 g2 g3 k hk => (ab_up_o g3 k).trans (h4 o g1 g2 g3 k hk)⟩
  rw [ab_up_a]
  by_cases e : j = i
  · rw [if_pos ⟨rfl, e⟩, hv, e]
  · rw [if_neg (fun q => e q.2)]; exact h3 j (by omega)
theorem ac_I.fin {p n a i : Nat} {M0 M : ab_M} {g : Nat → Int} (h : ac_I p n a i M0 g M) (ha : ∀ k, ac_r a k = true → k < i) : ac_I p n p 0 M0 g M := by
  obtain ⟨h1, h2, h3, h4⟩ := h
  refine ⟨h1, h2, fun j hj => absurd hj (Nat.not_lt_zero j), fun o g1 g2 g3 k hk => ?_⟩
  by_cases e : o = a
  · subst e; exact h3 k (ha k hk)
  · exact h4 o g1 g2 e k hk
/-- it is made -/
theorem ac_I.kf {p n : Nat} {M0 M : ab_M} {g : Nat → Int} (h : ac_I p n p 0 M0 g M) (hg : ∀ k, ac_r p k = true → g k = ac_T p k) : ac_KF p n M0 M := by
  obtain ⟨h1, h2, h3, h4⟩ := h
  refine ⟨h1, fun o g1 g2 k hk => ?_⟩
  by_cases e : o = p
  · subst e; rw [h2 k]; exact hg k hk
  · exact h4 o (by omega) g2 e k hk
theorem ac_I.st {p : Nat} (M0 : ab_M) : ac_I p (p + 1) p 0 M0 (fun k => ac_z (ab_kd p) k) (ac_nw M0 p) :=
  ⟨fun o ho k => if_neg (by omega), fun k => if_pos rfl, fun j hj => absurd hj (Nat.not_lt_zero j), fun o g1 g2 => absurd g1 (by omega)⟩
section AC
variable {p : Program} {l : Launch} {e : Env} {R : Room} {s : State} {m : MethodId} {args : Array Value} {below : List Frame} {meth : Method} {c : Code} {Q : State → Prop} {E : ab_E} {cc : ByteArray} {own nL : Nat}
variable {pc : Nat} {M : ab_M} {n cells slots : Nat}
/-- a reference is read -/
theorem ac_rdr (hC : ab_Cx p s m args meth c E cc own nL) {r : Int × Nat × Nat × Nat × Nat} {i : Nat} (hdg : decode cc pc = .ok (.getfield i, 3)) (hck : ab_cf own i r = true) {o o' : Nat} (ho : o < n) (hkd : ab_kd o = r.2.2.1) (ht : 2 ≤ (ab_ft r.2.2.1 r.2.2.2.1).1) (hv : M o r.2.2.2.1 = (o' : Int)) {H : Heap} {locs : List Loc} {ls : Array Slot} {rest : List Value} (hP : ac_H E n M H)
    (k : W p l e R s m args below meth c H locs cells slots Q (F0 m (pc + 3) ls (.ref (E.1 + o') :: rest))) : W p l e R s m args below meth c H locs cells slots Q (F0 m pc ls (.ref (E.1 + o) :: rest)) := by
  refine ac_rd hC hdg hck ⟨ho, hkd⟩ hP.1 ?_
  rw [hv, ac_fv_ref ht]
  exact k
/-- a reference that may change is written -/
theorem ac_putr (hC : ab_Cx p s m args meth c E cc own nL) {r : Int × Nat × Nat × Nat × Nat} {i : Nat} (hdg : decode cc pc = .ok (.putfield i, 3)) (hck : ab_cf own i r = true) {o o' : Nat} (ho : o < n) (hkd : ab_kd o = r.2.2.1) {H : Heap} {locs : List Loc} {ls : Array Slot} {rest : List Value} (hP : ac_H E n M H) (hS : va_S (fun q => E.1 ≤ q) s.heap H locs)
    (hz : (ab_ft r.2.2.1 r.2.2.2.1).1 = 3) (hpl : ∃ w : Cond, lw_tbl[r.2.2.2.2]? = some w ∧ ab_nest w = false)
    (k : ∀ (H1 : Heap) (locs1 : List Loc), ac_H E n (ab_up M o r.2.2.2.1 (o' : Int)) H1 → va_S (fun q => E.1 ≤ q) s.heap H1 locs1 → W p l e R s m args below meth c H1 locs1 cells slots Q (F0 m (pc + 3) ls rest)) : W p l e R s m args below meth c H locs cells slots Q (F0 m pc ls (.ref (E.1 + o') :: .ref (E.1 + o) :: rest)) := by
  have hq := ac_put hC hdg hck ho hkd (z := (o' : Int)) (ls := ls) (rest := rest) hP hS (.inr (.inr ⟨hz, Int.natCast_nonneg _⟩)) hpl k
  rw [ac_fv_ref (by omega)] at hq
  exact hq
theorem ac_newan (hC : ab_Cx p s m args meth c E cc own nL) {atype : ArrayType} {c0 N : Nat} (harr : Cond.arrayClass (newarray.typeOf atype) ∈ ab_tn) (hkd : ab_kd n = c0) (hlen : ab_ln n = N) (hc : (c0 = 20 ∧ newarray.typeOf atype = .int) ∨ (c0 = 21 ∧ newarray.typeOf atype = .long) ∨ (c0 = 22 ∧ newarray.typeOf atype = .byte) ∨ (c0 = 23 ∧ newarray.typeOf atype = .boolean) ∨ (c0 = 24 ∧ newarray.typeOf atype = .char)) (hln : N ≤ 100000) (hdg : decode cc pc = .ok (.newarray atype, 2)) {H : Heap} {locs : List Loc} {ls : Array Slot} {rest : List Value} (hP : ac_H E n M H) (hS : va_S (fun q => E.1 ≤ q) s.heap H locs) (hcells : cells + 1 ≤ R.cells) (hslots : slots + N ≤ R.slots)
    (k : ∀ H1 : Heap, ac_H E (n + 1) (ac_nw M n) H1 → va_S (fun q => E.1 ≤ q) s.heap H1 locs → W p l e R s m args below meth c H1 locs (cells + 1) (slots + N) Q (F0 m (pc + 2) ls (.ref (E.1 + n) :: rest))) : W p l e R s m args below meth c H locs cells slots Q (F0 m pc ls (.int (Int32.ofInt ((N : Nat) : Int)) :: rest)) := by
  subst hlen
  exact ac_newa hC harr hkd hc hln hdg hP hS hcells hslots k
theorem ac_newqn (hC : ab_Cx p s m args meth c E cc own nL) {i c0 N : Nat} {C : String} (hcl : Cond.classLink (ab_cn own) i C ∈ ab_tn) (hover : (Cond.arrayOver (.object C)).before args s = true) (hkd : ab_kd n = c0) (hlen : ab_ln n = N) (hc : (c0 = 25 ∧ C = RX4) ∨ (c0 = 26 ∧ C = RX6)) (hln : N ≤ 100000) (hdg : decode cc pc = .ok (.anewarray i, 3)) {H : Heap} {locs : List Loc} {ls : Array Slot} {rest : List Value} (hP : ac_H E n M H) (hS : va_S (fun q => E.1 ≤ q) s.heap H locs) (hcells : cells + 1 ≤ R.cells) (hslots : slots + N ≤ R.slots)
    (k : ∀ H1 : Heap, ac_H E (n + 1) (ac_nw M n) H1 → va_S (fun q => E.1 ≤ q) s.heap H1 locs → W p l e R s m args below meth c H1 locs (cells + 1) (slots + N) Q (F0 m (pc + 3) ls (.ref (E.1 + n) :: rest))) : W p l e R s m args below meth c H locs cells slots Q (F0 m pc ls (.int (Int32.ofInt ((N : Nat) : Int)) :: rest)) := by
  subst hlen
  exact ac_newq hC hcl hover hkd hc hln hdg hP hS hcells hslots k
end AC
theorem mk_X6n (E : ab_E) {o N : Nat} (h6 : ab_kd o = 6) (h24 : ab_kd (o + 1) = 24) (ho : o + 1 < ab_n) (hN : ab_ln (o + 1) = N) (hln : N ≤ 60000) (M : ab_M) : ac_Ok E 1 66 1 N [.inr (.inr (.inr (o, 6, 0))), .inr (.inl ((N : Nat) : Int))] (o + 1) (o + 2) M (fun M' => M' = ch_X6 o M) := by
  subst hN
  exact mk_X6 E h6 h24 ho hln M
