/-! THE MAKING: worlds of the first n cells; rows that make a cell -/
def ac_H (E : ab_E) (n : Nat) (M : ab_M) (H : Heap) : Prop := va_P E.2.1 ab_cl (ab_W E n M) H ∧ H.size = E.1 + n
theorem ab_W_succ (E : ab_E) (n : Nat) (M : ab_M) : ab_W E (n + 1) M = ab_W E n M ++ [(E.1 + n, ab_ent E M n)] := by
  unfold ab_W
  rw [List.range_succ, List.map_append, List.map_singleton]
/-- a fresh cell: numbers 0, references none -/
def ac_z (c k : Nat) : Int := if c < 20 then (if (ab_ft c k).1 < 2 then 0 else -1) else if c = 25 ∨ c = 26 then -1 else 0
def ac_nw (M : ab_M) (o : Nat) : ab_M := fun o' k => if o' = o then ac_z (ab_kd o) k else M o' k
theorem ac_W_nw (E : ab_E) (n : Nat) (M : ab_M) : ab_W E n (ac_nw M n) = ab_W E n M := by
  apply List.ext_getElem?
  intro i
  by_cases hi : i < n
  · rw [ab_W_get E _ hi, ab_W_get E _ hi, ab_ent_ext E (M := ac_nw M n) (M' := M) fun j => if_neg (by omega)]
  · rw [List.getElem?_eq_none (by simp [ab_W]; omega), List.getElem?_eq_none (by simp [ab_W]; omega)]
def ac_dk (T : u_T) (ci k : Nat) : Bool := match parseFieldDescriptor (T k).2.2.1 with
  | some ty => decide (defaultValue ty = if (ab_ft ci k).1 < 2 then .int 0 else .null)
  | none => false
theorem ac_dk_all : (List.range 13).all (fun ci => match ab_cl[ci]? with
  | some q => (List.range q.2.2).all (fun k => ac_dk q.2.1 ci k)
  | none => false) = true := by decide +kernel
theorem ac_dk_ok {ci k : Nat} {q : vw_C} (h : ab_cl[ci]? = some q) (hk : k < q.2.2) {ty : FieldType} (hp : parseFieldDescriptor (q.2.1 k).2.2.1 = some ty) : defaultValue ty = if (ab_ft ci k).1 < 2 then .int 0 else .null := by
  have hci : ci < 13 := (List.getElem?_eq_some_iff.mp h).1
  have h0 := List.all_eq_true.mp ac_dk_all ci (List.mem_range.mpr hci)
  rw [h] at h0
  have h1 := List.all_eq_true.mp h0 k (List.mem_range.mpr hk)
  unfold ac_dk at h1
  rw [hp] at h1
  exact of_decide_eq_true h1
section AC
variable {p : Program} {l : Launch} {e : Env} {R : Room} {s : State} {m : MethodId} {args : Array Value} {below : List Frame} {meth : Method} {c : Code} {Q : State → Prop} {E : ab_E} {cc : ByteArray} {own nL : Nat}
variable {pc : Nat} {M : ab_M} {n cells slots : Nat}
/-- a new object -/
theorem ac_new (hC : ab_Cx p s m args meth c E cc own nL) {i ci : Nat} {q : vw_C} (hq : ab_cl[ci]? = some q) (hkd : ab_kd n = ci) (hcl : Cond.classLink (ab_cn own) i q.1 ∈ ab_tn) (hinst : Cond.instantiable q.1 q.2.2 ∈ ab_tn) (hini : Cond.initialized q.1 ∈ ab_tn) (hdg : decode cc pc = .ok (.new i, 3)) {H : Heap} {locs : List Loc} {ls : Array Slot} {rest : List Value} (hP : ac_H E n M H) (hS : va_S (fun q => E.1 ≤ q) s.heap H locs) (hcells : cells + 1 ≤ R.cells) (hslots : slots + q.2.2 ≤ R.slots)
    (k : ∀ H1 : Heap, ac_H E (n + 1) (ac_nw M n) H1 → va_S (fun q => E.1 ≤ q) s.heap H1 locs → W p l e R s m args below meth c H1 locs (cells + 1) (slots + q.2.2) Q (F0 m (pc + 3) ls (.ref (E.1 + n) :: rest))) : W p l e R s m args below meth c H locs cells slots Q (F0 m pc ls rest) := by
  obtain ⟨hx, hb, hml, hown, hts, hK, hlk, hsz⟩ := hC
  obtain ⟨hin, ⟨ty0, hty, hnm⟩, hnf, hlt⟩ := ab_clok _ _ hq
  have hKn := hK.1 ci _ hq
  obtain ⟨hP0, hP1⟩ := hP
  refine W.newcK hx hb hown (hts _ hcl) (hts _ hinst) (hts _ hini) rfl hdg hcells hslots hKn.2.1 hP1 fun H1 kC hkC e1 z1 o1 => ?_
  have hk : ∀ (k : Nat) (x : Nat × va_E), (ab_W E n M)[k]? = some x → H1[x.1]? = H[x.1]? := fun k x hx => o1 x.1 (by rw [← hP1]; exact (hP0 k x hx).lt)
  refine k H1 ⟨?_, by omega⟩ ⟨by have := hS.1; omega, fun x h1 h2 => (o1 x (by have := hS.1; omega)).trans (hS.2.1 x h1 h2), hS.2.2⟩
  rw [ab_W_succ, ac_W_nw]
  refine (hP0.kept hk).app (fun k x hx => ?_)
  have hz : k < 1 := (List.getElem?_eq_some_iff.mp hx).1
  rw [show k = 0 by omega] at hx
  cases hx
  rw [ab_ent_c E _ hkd hlt]
  refine ⟨q, hq, (u_born ty0 hts hin hKn hkC e1 hty).to fun j hj => ?_⟩
  have hd := ac_dk_ok hq hj (hty j hj)
  rw [hd]
  have hj2 : j < ab_nf ci := by rw [← hnf]; exact hj
  have hv : vp_V ((List.range (ab_nf ci)).map fun k => ab_fv E.1 (ab_ft ci k).1 (ac_nw M n n k)) j = ab_fv E.1 (ab_ft ci j).1 (ac_nw M n n j) := by
    simp [vp_V, hj2]
  rw [hv]
  have hz : ac_nw M n n j = ac_z ci j := by unfold ac_nw; rw [if_pos rfl, hkd]
  rw [hz]
  unfold ac_z
  rw [if_pos hlt]
  unfold ab_fv
  by_cases y : (ab_ft ci j).1 < 2
  · rw [if_pos y, if_pos y, if_pos y]; rfl
  · rw [if_neg y, if_neg y, if_neg y]; rfl
end AC
