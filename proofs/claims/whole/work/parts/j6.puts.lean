/-! the making: fields that may change, elements; the heap's size kept -/
section AC
variable {p : Program} {l : Launch} {e : Env} {R : Room} {s : State} {m : MethodId} {args : Array Value} {below : List Frame} {meth : Method} {c : Code} {Q : State → Prop} {E : ab_E} {cc : ByteArray} {own nL : Nat}
variable {pc : Nat} {M : ab_M} {n cells slots : Nat}
/-- a number, a truth value, a reference that may change -/
theorem ac_put (hC : ab_Cx p s m args meth c E cc own nL) {r : Int × Nat × Nat × Nat × Nat} {i : Nat} (hdg : decode cc pc = .ok (.putfield i, 3)) (hck : ab_cf own i r = true) {o : Nat} (ho : o < n) (hkd : ab_kd o = r.2.2.1) {z : Int} {H : Heap} {locs : List Loc} {ls : Array Slot} {rest : List Value} (hP : ac_H E n M H) (hS : va_S (fun q => E.1 ≤ q) s.heap H locs)
    (hz : (ab_ft r.2.2.1 r.2.2.2.1).1 = 0 ∨ ((ab_ft r.2.2.1 r.2.2.2.1).1 = 1 ∧ (z = 0 ∨ z = 1)) ∨ ((ab_ft r.2.2.1 r.2.2.2.1).1 = 3 ∧ 0 ≤ z)) (hpl : ∃ w : Cond, lw_tbl[r.2.2.2.2]? = some w ∧ ab_nest w = false)
    (k : ∀ (H1 : Heap) (locs1 : List Loc), ac_H E n (ab_up M o r.2.2.2.1 z) H1 → va_S (fun q => E.1 ≤ q) s.heap H1 locs1 → W p l e R s m args below meth c H1 locs1 cells slots Q (F0 m (pc + 3) ls rest)) : W p l e R s m args below meth c H locs cells slots Q (F0 m pc ls (ab_fv E.1 (ab_ft r.2.2.1 r.2.2.2.1).1 z :: .ref (E.1 + o) :: rest)) := by
  obtain ⟨hx, hb, hml, hown, hts, hK, hlk, hsz⟩ := hC
  have hlink : ∃ q : vw_C, ab_cl[r.2.2.1]? = some q ∧ r.2.2.2.1 < q.2.2 ∧ Cond.fieldLink (ab_cn own) i (q.2.1 r.2.2.2.1).1 (q.2.1 r.2.2.2.1).2.1 (q.2.1 r.2.2.2.1).2.2.1 ∈ ab_tn := by
    obtain ⟨w, w1, w2⟩ := hpl
    unfold ab_cf at hck
    rw [w1] at hck
    split at hck
    · rename_i o j f nn d q e1 e2
      cases e1
      rw [Bool.and_eq_true, decide_eq_true_eq, decide_eq_true_eq] at hck
      obtain ⟨h1, rfl, rfl, rfl, rfl, rfl⟩ := hck
      exact ⟨q, e2, h1, ab_tnm (List.mem_of_getElem? w1) rfl⟩
    · rename_i e1 e2
      cases e1
      cases w2
    · cases hck
  obtain ⟨⟨C, T, N⟩, hq, hk, hl⟩ := hlink
  obtain ⟨hin, ⟨ty0, hty, hnm⟩, hnf, hlt⟩ := ab_clok _ _ hq
  have hfk := ab_fk_ok hq hk
  obtain ⟨ty, hd, hfin, hn, hfit⟩ : ∃ ty : FieldType, parseFieldDescriptor (T r.2.2.2.1).2.2.1 = some ty ∧ (T r.2.2.2.1).2.2.2 = false ∧ narrow ty (ab_fv E.1 (ab_ft r.2.2.1 r.2.2.2.1).1 z) = ab_fv E.1 (ab_ft r.2.2.1 r.2.2.2.1).1 z ∧ fits ty (ab_fv E.1 (ab_ft r.2.2.1 r.2.2.2.1).1 z) = true := by
    unfold ab_fk at hfk
    rcases hz with h | ⟨h, hz⟩ | ⟨h, hz⟩
    · rw [h] at hfk ⊢
      simp only [Bool.and_eq_true, decide_eq_true_eq, Bool.not_eq_true'] at hfk
      exact ⟨.int, hfk.1, hfk.2, rfl, rfl⟩
    · rw [h] at hfk ⊢
      simp only [Bool.and_eq_true, decide_eq_true_eq, Bool.not_eq_true'] at hfk
      exact ⟨.boolean, hfk.1, hfk.2, ab_narz hz, ab_fitz hz⟩
    · rw [h] at hfk ⊢
      simp only [Bool.and_eq_true, Bool.not_eq_true'] at hfk
      have e : ab_fv E.1 3 z = .ref (E.1 + z.toNat) := by
        unfold ab_fv ab_rf
        rw [if_neg (by decide), if_neg (by omega)]
        rfl
      rw [e]
      cases hp : parseFieldDescriptor (T r.2.2.2.1).2.2.1 with
      | none => rw [hp] at hfk; exact absurd hfk.1 (by decide)
      | some ty =>
        rw [hp] at hfk
        cases ty with
        | object n => exact ⟨_, rfl, hfk.2, rfl, rfl⟩
        | _ => exact absurd hfk.1 Bool.false_ne_true
  have he : (ab_W E n M)[o]? = some (E.1 + o, .inr (r.2.2.1, (List.range (ab_nf r.2.2.1)).map fun j => ab_fv E.1 (ab_ft r.2.2.1 j).1 (M o j))) := by rw [ab_W_get E M ho, ab_ent_c E M hkd hlt]
  obtain ⟨r', h1, cell, q1, q2, q3, q4⟩ := hP.1 o _ he
  have hr : r' = (C, T, N) := Option.some.inj (h1.symm.trans hq)
  subst hr
  obtain ⟨hSl, hfc, kC, hkC, hkind⟩ := hK.1 _ _ hq
  obtain ⟨cf, kf, fi, f, hi, hsl⟩ := hSl _ hk
  have hlay := hts _ (hin _ (u_in_lay hk))
  unfold u_lay at hlay
  rw [if_neg (by rw [hfin]; decide)] at hlay
  have hst := (u_facts hfc hkC (u_lays hts hin hk) hi).1
  have h6 := u_store hfc hkC hkind hlay hi hd hn hfit
  refine W.putK hx hb (f := f) ⟨hown, hts _ hl, ⟨_, _, _, hi⟩, hst⟩ (by rw [q2]; exact h6) q1 q3 (by rw [hsl]; exact k2_hasslot (q4 _ hk)) rfl rfl hdg fun H1 e1 e2 e3 => ?_
  rw [hsl] at e1 ⊢
  exact k H1 _ (ac_set hK (own' := ab_cn own) hts hq hk ho hkd hP q1 q2 q3 q4 e1 e2 e3) (hS.put e2 e3 (by show E.1 ≤ E.1 + o; omega))
end AC
