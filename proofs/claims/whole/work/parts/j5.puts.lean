/-! the making: fields written, the heap's size kept -/
section AC
variable {p : Program} {l : Launch} {e : Env} {R : Room} {s : State} {m : MethodId} {args : Array Value} {below : List Frame} {meth : Method} {c : Code} {Q : State → Prop} {E : ab_E} {cc : ByteArray} {own nL : Nat}
variable {pc : Nat} {M : ab_M} {n cells slots : Nat}
/-- the world with one field changed, out of the one cell that changed -/
theorem ac_set (hK : va_K E.2.1 ab_cl (ab_tys E.2.2) s) {own' : String} (hts : ∀ w ∈ ab_tn, w.before args s = true) {ci k o : Nat} {q : vw_C} (hq : ab_cl[ci]? = some q) (hk : k < q.2.2) (ho : o < n) (hkd : ab_kd o = ci) {z : Int} {H H1 : Heap} (hP : ac_H E n M H) {cell : Cell} (q1 : H[E.1 + o]? = some cell) (q2 : cell.cls = E.2.1.1 ci) (q3 : cell.vm = .none) (q4 : ∀ j, j < q.2.2 → cell.slots[E.2.1.2 ci j]? = some (vp_V ((List.range (ab_nf ci)).map fun j => ab_fv E.1 (ab_ft ci j).1 (M o j)) j))
    (e1 : H1[E.1 + o]? = some (cell.setSlot (E.2.1.2 ci k) (ab_fv E.1 (ab_ft ci k).1 z))) (e2 : H1.size = H.size) (e3 : ∀ x, x ≠ E.1 + o → H1[x]? = H[x]?) : ac_H E n (ab_up M o k z) H1 := by
  obtain ⟨hin, ⟨ty0, hty, hnm⟩, hnf, hlt⟩ := ab_clok _ _ hq
  have hap := va_apart (own := own') hts hin ty0 hty hnm hK hq
  have he : (ab_W E n M)[o]? = some (E.1 + o, .inr (ci, (List.range (ab_nf ci)).map fun j => ab_fv E.1 (ab_ft ci j).1 (M o j))) := by rw [ab_W_get E M ho, ab_ent_c E M hkd hlt]
  have hl : k < ((List.range (ab_nf ci)).map fun j => ab_fv E.1 (ab_ft ci j).1 (M o j)).length := by simp; rw [← hnf]; exact hk
  have hset : (ab_W E n M).set o (E.1 + o, .inr (ci, ((List.range (ab_nf ci)).map fun j => ab_fv E.1 (ab_ft ci j).1 (M o j)).set k (ab_fv E.1 (ab_ft ci k).1 z))) = ab_W E n (ab_up M o k z) :=
    ab_W_set E ho (by rw [ab_upd_f, ab_ent_c E _ hkd hlt]) (fun o' h j => (ab_up_o h j).symm)
  refine ⟨?_, by rw [e2]; exact hP.2⟩
  rw [← hset]
  exact hP.1.set (ab_D E n M) he ⟨q, hq, t_OB.to (V := updV (vp_V ((List.range (ab_nf ci)).map fun j => ab_fv E.1 (ab_ft ci j).1 (M o j))) k (ab_fv E.1 (ab_ft ci k).1 z)) ⟨_, e1, q2, q3, t_set q4 hap hk _⟩ (fun j _ => vp_updV_set hl _ j)⟩ e3
/-- a final reference, in its class's constructor -/
theorem ac_putF (hC : ab_Cx p s m args meth c E cc own nL) (hin2 : meth.name = "<init>") {r : Int × Nat × Nat × Nat × Nat} {i : Nat} (hdg : decode cc pc = .ok (.putfield i, 3)) (hck : ab_cf own i r = true) (how : r.2.2.1 = own) {o : Nat} (ho : o < n) (hkd : ab_kd o = r.2.2.1) {o' : Nat} {H : Heap} {locs : List Loc} {ls : Array Slot} {rest : List Value} (hP : ac_H E n M H) (hS : va_S (fun q => E.1 ≤ q) s.heap H locs)
    (hz : (ab_ft r.2.2.1 r.2.2.2.1).1 = 2 ∨ (ab_ft r.2.2.1 r.2.2.2.1).1 = 4 ∨ (ab_ft r.2.2.1 r.2.2.2.1).1 = 5) (hpl : ∃ w : Cond, lw_tbl[r.2.2.2.2]? = some w ∧ ab_nest w = false)
    (k : ∀ (H1 : Heap) (locs1 : List Loc), ac_H E n (ab_up M o r.2.2.2.1 (o' : Int)) H1 → va_S (fun q => E.1 ≤ q) s.heap H1 locs1 → W p l e R s m args below meth c H1 locs1 cells slots Q (F0 m (pc + 3) ls rest)) : W p l e R s m args below meth c H locs cells slots Q (F0 m pc ls (.ref (E.1 + o') :: .ref (E.1 + o) :: rest)) := by
  obtain ⟨hx, hb, hml, hown, hts, hK, hlk, hsz⟩ := hC
  have hlink : ∃ q : vw_C, ab_cl[r.2.2.1]? = some q ∧ r.2.2.2.1 < q.2.2 ∧ Cond.fieldLink (ab_cn own) i (q.2.1 r.2.2.2.1).1 (q.2.1 r.2.2.2.1).2.1 (q.2.1 r.2.2.2.1).2.2.1 ∈ ab_tn := by
    obtain ⟨w, w1, w2⟩ := hpl
    unfold ab_cf at hck
    rw [w1] at hck
    split at hck
    · rename_i o j f nn d q e1 e2
      cases e1
      rw [Bool.and_eq_true, decide_eq_true_eq, decide_eq_true_eq] at hck
      obtain ⟨h1, rfl, rfl, rfl, rfl, rfl⟩ := hck
      exact ⟨q, e2, h1, ab_tnm (List.mem_of_getElem? w1) rfl⟩
    · rename_i e1 e2
      cases e1
      cases w2
    · cases hck
  obtain ⟨⟨C, T, N⟩, hq, hk, hl⟩ := hlink
  obtain ⟨hin, ⟨ty0, hty, hnm⟩, hnf, hlt⟩ := ab_clok _ _ hq
  have hfk := ac_fk_ok hq hk
  have ev : ab_fv E.1 (ab_ft r.2.2.1 r.2.2.2.1).1 (o' : Int) = .ref (E.1 + o') := by
    unfold ab_fv ab_rf
    rw [if_neg (by omega), if_neg (by omega)]
    rfl
  have hf : (T r.2.2.2.1).2.2.2 = true ∧ (T r.2.2.2.1).1 = ab_cn r.2.2.1 ∧ (match parseFieldDescriptor (T r.2.2.2.1).2.2.1 with | some (.object _) => true | some (.array _) => true | _ => false) = true := by
    unfold ac_fk at hfk
    rcases hz with h | h | h <;> (rw [h] at hfk; simp only [Bool.and_eq_true, decide_eq_true_eq] at hfk; exact hfk)
  obtain ⟨hf1, hf2, hf3⟩ := hf
  obtain ⟨ty, hd, hn, hfit⟩ : ∃ ty : FieldType, parseFieldDescriptor (T r.2.2.2.1).2.2.1 = some ty ∧ narrow ty (Value.ref (E.1 + o')) = .ref (E.1 + o') ∧ fits ty (Value.ref (E.1 + o')) = true := by
    cases hp : parseFieldDescriptor (T r.2.2.2.1).2.2.1 with
    | none => rw [hp] at hf3; cases hf3
    | some ty =>
      rw [hp] at hf3
      cases ty with
      | object n => exact ⟨_, rfl, rfl, rfl⟩
      | array t => exact ⟨_, rfl, rfl, rfl⟩
      | _ => cases hf3
  have he : (ab_W E n M)[o]? = some (E.1 + o, .inr (r.2.2.1, (List.range (ab_nf r.2.2.1)).map fun j => ab_fv E.1 (ab_ft r.2.2.1 j).1 (M o j))) := by rw [ab_W_get E M ho, ab_ent_c E M hkd hlt]
  obtain ⟨r', h1, cell, q1, q2, q3, q4⟩ := hP.1 o _ he
  have hr : r' = (C, T, N) := Option.some.inj (h1.symm.trans hq)
  subst hr
  obtain ⟨hSl, hfc, kC, hkC, hkind⟩ := hK.1 _ _ hq
  obtain ⟨cf, kf, fi, f, hi, hsl⟩ := hSl _ hk
  have hlay := hts _ (hin _ (u_in_lay hk))
  unfold u_lay at hlay
  rw [if_pos hf1] at hlay
  have hst := (u_facts hfc hkC (u_lays hts hin hk) hi).1
  have hcf : m.cls = cf := by
    obtain ⟨_, _, c', _, _, _, -, -, hf', -, -, -, hown2, -⟩ := Cond.laysFinal_spec hlay
    have e1 : c' = cf := by have := hi.symm.trans hf'; simp at this; exact this.1.symm
    rw [hf2, how] at hown2
    rw [← e1]; exact Option.some.inj (hown.symm.trans hown2)
  have h6 := u_fits hfc hkC hkind (Or.inr hlay) hi hd hn hfit
  refine W.putFinK hx hb hown (hts _ hl) hi hst hcf hin2 (by rw [q2]; exact h6) q1 q3 (by rw [hsl]; exact k2_hasslot (q4 _ hk)) rfl rfl hdg fun H1 e1 e2 e3 => ?_
  rw [hsl] at e1 ⊢
  rw [← ev] at e1
  exact k H1 _ (ac_set hK (own' := ab_cn own) hts hq hk ho hkd hP q1 q2 q3 q4 e1 e2 e3) (hS.put e2 e3 (by show E.1 ≤ E.1 + o; omega))
end AC
