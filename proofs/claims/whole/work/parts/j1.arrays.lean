/-! the making: new arrays -/
section AC
variable {p : Program} {l : Launch} {e : Env} {R : Room} {s : State} {m : MethodId} {args : Array Value} {below : List Frame} {meth : Method} {c : Code} {Q : State → Prop} {E : ab_E} {cc : ByteArray} {own nL : Nat}
variable {pc : Nat} {M : ab_M} {n cells slots : Nat}
theorem ac_len {N : Nat} (h : N < 2 ^ 31) : ¬ Int32.ofInt ((N : Nat) : Int) < 0 ∧ (Int32.ofInt ((N : Nat) : Int)).toNatClampNeg = N := by
  have e : (Int32.ofInt ((N : Nat) : Int)).toInt = (N : Int) := Int32.toInt_ofInt_of_le (by omega) (by omega)
  refine ⟨?_, ?_⟩
  · rw [Int32.lt_iff_toInt_lt, e]
    show ¬ (N : Int) < 0
    omega
  · show (Int32.ofInt ((N : Nat) : Int)).toInt.toNat = N
    rw [e]; omega
/-- a cell is pushed -/
theorem ac_push {H H1 : Heap} {locs : List Loc} (hP : ac_H E n M H) (hS : va_S (fun q => E.1 ≤ q) s.heap H locs) (z1 : H1.size = E.1 + n + 1) (o1 : ∀ q, q < E.1 + n → H1[q]? = H[q]?) (ha : va_at E.2.1 ab_cl (E.1 + n, ab_ent E (ac_nw M n) n) H1) : ac_H E (n + 1) (ac_nw M n) H1 ∧ va_S (fun q => E.1 ≤ q) s.heap H1 locs := by
  obtain ⟨hP0, hP1⟩ := hP
  have hk : ∀ (k : Nat) (x : Nat × va_E), (ab_W E n M)[k]? = some x → H1[x.1]? = H[x.1]? := fun k x hx => o1 x.1 (by rw [← hP1]; exact (hP0 k x hx).lt)
  refine ⟨⟨?_, by omega⟩, by have := hS.1; omega, fun x h1 h2 => (o1 x (by have := hS.1; omega)).trans (hS.2.1 x h1 h2), hS.2.2⟩
  rw [ab_W_succ, ac_W_nw]
  refine (hP0.kept hk).app (fun k x hx => ?_)
  have hz : k < 1 := (List.getElem?_eq_some_iff.mp hx).1
  rw [show k = 0 by omega] at hx
  cases hx
  exact ha
/-- a new array of numbers -/
theorem ac_newa (hC : ab_Cx p s m args meth c E cc own nL) {atype : ArrayType} {c0 : Nat} (harr : Cond.arrayClass (newarray.typeOf atype) ∈ ab_tn) (hkd : ab_kd n = c0) (hc : (c0 = 20 ∧ newarray.typeOf atype = .int) ∨ (c0 = 21 ∧ newarray.typeOf atype = .long) ∨ (c0 = 22 ∧ newarray.typeOf atype = .byte) ∨ (c0 = 23 ∧ newarray.typeOf atype = .boolean) ∨ (c0 = 24 ∧ newarray.typeOf atype = .char)) (hln : ab_ln n ≤ 100000) (hdg : decode cc pc = .ok (.newarray atype, 2)) {H : Heap} {locs : List Loc} {ls : Array Slot} {rest : List Value} (hP : ac_H E n M H) (hS : va_S (fun q => E.1 ≤ q) s.heap H locs) (hcells : cells + 1 ≤ R.cells) (hslots : slots + ab_ln n ≤ R.slots)
    (k : ∀ H1 : Heap, ac_H E (n + 1) (ac_nw M n) H1 → va_S (fun q => E.1 ≤ q) s.heap H1 locs → W p l e R s m args below meth c H1 locs (cells + 1) (slots + ab_ln n) Q (F0 m (pc + 2) ls (.ref (E.1 + n) :: rest))) : W p l e R s m args below meth c H locs cells slots Q (F0 m pc ls (.int (Int32.ofInt ((ab_ln n : Nat) : Int)) :: rest)) := by
  obtain ⟨hx, hb, hml, hown, hts, hK, hlk, hsz⟩ := hC
  obtain ⟨l1, l2⟩ := ac_len (N := ab_ln n) (by omega)
  have hby : ab_ln n * componentBytes (newarray.typeOf atype) ≤ 536870912 := by
    have : componentBytes (newarray.typeOf atype) ≤ 8 := by rcases hc with ⟨-, y⟩ | ⟨-, y⟩ | ⟨-, y⟩ | ⟨-, y⟩ | ⟨-, y⟩ <;> (rw [y]; decide)
    exact Nat.le_trans (Nat.mul_le_mul hln this) (by decide)
  refine va_newaK hx hb (hts _ harr) rfl hdg rfl l1 l2 hby hcells hslots hP.2 fun H1 cA e1 z1 o1 hAr hNm => ?_
  have hat : va_at E.2.1 ab_cl (E.1 + n, ab_ent E (ac_nw M n) n) H1 := by
    have hz : ∀ j, ac_nw M n n j = 0 := fun j => by
      unfold ac_nw ac_z
      rw [if_pos rfl, hkd, if_neg (by omega), if_neg (by omega)]
    have hcA : ∀ (k : Nat) (t : FieldType), (ab_tys E.2.2)[k]? = some (E.2.2 c0, t) → newarray.typeOf atype = t → (∀ C, t ≠ .object C) → cA = E.2.2 c0 := fun k t h1 h2 h3 => by
      have := (hK.2 k _ h1).2
      rw [h2] at hNm
      cases t with
      | object C => exact absurd rfl (h3 C)
      | _ => exact Option.some.inj (hNm.symm.trans this)
    rcases hc with ⟨y, t⟩ | ⟨y, t⟩ | ⟨y, t⟩ | ⟨y, t⟩ | ⟨y, t⟩
    · have := hcA 0 .int (by rw [y]; rfl) t (fun C h => by cases h)
      rw [ab_ent_i E _ hkd (by omega)]
      show H1[E.1 + n]? = some (vp_cell _ _)
      rw [e1, this, t]
      simp only [hz]
      rfl
    · have := hcA 1 .long (by rw [y]; rfl) t (fun C h => by cases h)
      rw [ab_ent_l E _ (hkd.trans y)]
      show H1[E.1 + n]? = some (vp_cell _ _)
      rw [e1, this, t, y]
      simp only [hz]
      rfl
    · have := hcA 2 .byte (by rw [y]; rfl) t (fun C h => by cases h)
      rw [ab_ent_i E _ hkd (by omega)]
      show H1[E.1 + n]? = some (vp_cell _ _)
      rw [e1, this, t]
      simp only [hz]
      rfl
    · have := hcA 3 .boolean (by rw [y]; rfl) t (fun C h => by cases h)
      rw [ab_ent_i E _ hkd (by omega)]
      show H1[E.1 + n]? = some (vp_cell _ _)
      rw [e1, this, t]
      simp only [hz]
      rfl
    · have := hcA 4 .char (by rw [y]; rfl) t (fun C h => by cases h)
      rw [ab_ent_i E _ hkd (by omega)]
      show H1[E.1 + n]? = some (vp_cell _ _)
      rw [e1, this, t]
      simp only [hz]
      rfl
  obtain ⟨a1, a2⟩ := ac_push hP hS z1 o1 hat
  exact k H1 a1 a2
/-- a new array of references -/
theorem ac_newq (hC : ab_Cx p s m args meth c E cc own nL) {i c0 : Nat} {C : String} (hcl : Cond.classLink (ab_cn own) i C ∈ ab_tn) (hover : (Cond.arrayOver (.object C)).before args s = true) (hkd : ab_kd n = c0) (hc : (c0 = 25 ∧ C = RX4) ∨ (c0 = 26 ∧ C = RX6)) (hln : ab_ln n ≤ 100000) (hdg : decode cc pc = .ok (.anewarray i, 3)) {H : Heap} {locs : List Loc} {ls : Array Slot} {rest : List Value} (hP : ac_H E n M H) (hS : va_S (fun q => E.1 ≤ q) s.heap H locs) (hcells : cells + 1 ≤ R.cells) (hslots : slots + ab_ln n ≤ R.slots)
    (k : ∀ H1 : Heap, ac_H E (n + 1) (ac_nw M n) H1 → va_S (fun q => E.1 ≤ q) s.heap H1 locs → W p l e R s m args below meth c H1 locs (cells + 1) (slots + ab_ln n) Q (F0 m (pc + 3) ls (.ref (E.1 + n) :: rest))) : W p l e R s m args below meth c H locs cells slots Q (F0 m pc ls (.int (Int32.ofInt ((ab_ln n : Nat) : Int)) :: rest)) := by
  obtain ⟨hx, hb, hml, hown, hts, hK, hlk, hsz⟩ := hC
  obtain ⟨l1, l2⟩ := ac_len (N := ab_ln n) (by omega)
  have hsl : slots + (Int32.ofInt ((ab_ln n : Nat) : Int)).toNatClampNeg ≤ R.slots := by rw [l2]; exact hslots
  refine W.anew hx hb hown (hts _ hcl) hover rfl hdg rfl l1 (by rw [l2]; omega) hcells hsl fun cA kA comp f1 f2 f3 f4 => ?_
  rw [l2]
  generalize hH1 : H.push ({ cls := cA, slots := Array.replicate (ab_ln n) .null, vm := .none } : Cell) = H1
  have z1 : H1.size = H.size + 1 := by rw [← hH1, Array.size_push]
  have e1 : H1[H.size]? = some (arrV cA (ab_ln n) (fun _ => .null)) := by rw [← hH1, Array.getElem?_push_size, ← arrV_new]
  have o1 : ∀ q : Nat, q < H.size → H1[q]? = H[q]? := fun q hq => by rw [← hH1, Array.getElem?_push, if_neg (Nat.ne_of_lt hq)]
  have hat : va_at E.2.1 ab_cl (E.1 + n, ab_ent E (ac_nw M n) n) H1 := by
    have hz : ∀ j, ac_nw M n n j = -1 := fun j => by
      unfold ac_nw ac_z
      rw [if_pos rfl, hkd, if_neg (by omega), if_pos (by omega)]
    have hcA : ∀ (k : Nat), (ab_tys E.2.2)[k]? = some (E.2.2 c0, .object C) → cA = E.2.2 c0 := fun k h1 => by
      obtain ⟨kA', comp', x1, x2, x3, x4⟩ := (hK.2 k _ h1).2
      exact Option.some.inj (f1.symm.trans x4)
    rw [ab_ent_q E _ hkd (by omega)]
    show H1[E.1 + n]? = some (vp_cell _ _)
    rw [← hP.2, e1]
    simp only [hz]
    rcases hc with ⟨y, t⟩ | ⟨y, t⟩
    · rw [hcA 5 (by rw [y, t]; rfl)]; rfl
    · rw [hcA 6 (by rw [y, t]; rfl)]; rfl
  obtain ⟨a1, a2⟩ := ac_push hP hS (by rw [z1, hP.2]) (fun q hq => o1 q (by rw [hP.2]; exact hq)) hat
  rw [hP.2]
  exact k H1 a1 a2
end AC
