/-! the making: fields and elements in a world of the first cells -/
def ac_fk (T : u_T) (ci k : Nat) : Bool := match (ab_ft ci k).1 with
  | 2 => (T k).2.2.2 && (decide ((T k).1 = ab_cn ci) && (match parseFieldDescriptor (T k).2.2.1 with | some (.object _) => true | some (.array _) => true | _ => false))
  | 4 => (T k).2.2.2 && (decide ((T k).1 = ab_cn ci) && (match parseFieldDescriptor (T k).2.2.1 with | some (.object _) => true | some (.array _) => true | _ => false))
  | 5 => (T k).2.2.2 && (decide ((T k).1 = ab_cn ci) && (match parseFieldDescriptor (T k).2.2.1 with | some (.object _) => true | some (.array _) => true | _ => false))
  | _ => true
set_option maxRecDepth 100000 in
theorem ac_fk_all : ab_cl.zipIdx.all (fun q => (List.range q.1.2.2).all (fun k => ac_fk q.1.2.1 q.2 k)) = true := by decide +kernel
theorem ac_fk_ok {ci k : Nat} {q : vw_C} (h : ab_cl[ci]? = some q) (hk : k < q.2.2) : ac_fk q.2.1 ci k = true := by
  have h1 := List.all_eq_true.mp ac_fk_all (q, ci) (List.mem_zipIdx_iff_getElem?.mpr h)
  exact List.all_eq_true.mp h1 k (List.mem_range.mpr hk)
section AC
variable {p : Program} {l : Launch} {e : Env} {R : Room} {s : State} {m : MethodId} {args : Array Value} {below : List Frame} {meth : Method} {c : Code} {Q : State → Prop} {E : ab_E} {cc : ByteArray} {own nL : Nat}
variable {pc : Nat} {M : ab_M} {n cells slots : Nat}
/-- a field is read -/
theorem ac_rd (hC : ab_Cx p s m args meth c E cc own nL) {r : Int × Nat × Nat × Nat × Nat} {i : Nat} (hdg : decode cc pc = .ok (.getfield i, 3)) (hck : ab_cf own i r = true) {o : Nat} (hw : o < n ∧ ab_kd o = r.2.2.1) {H : Heap} {locs : List Loc} {ls : Array Slot} {rest : List Value} (hP : va_P E.2.1 ab_cl (ab_W E n M) H)
    (k : W p l e R s m args below meth c H locs cells slots Q (F0 m (pc + 3) ls (ab_fv E.1 (ab_ft r.2.2.1 r.2.2.2.1).1 (M o r.2.2.2.1) :: rest))) : W p l e R s m args below meth c H locs cells slots Q (F0 m pc ls (.ref (E.1 + o) :: rest)) := by
  obtain ⟨hx, hb, hml, hown, hts, hK, hlk, hsz⟩ := hC
  obtain ⟨ho, hkd⟩ := hw
  obtain ⟨⟨C, T, N⟩, hq, hk, hlink⟩ := ab_cf_ok hck
  obtain ⟨hin, -, hnf, hlt⟩ := ab_clok _ _ hq
  have he : (ab_W E n M)[o]? = some (E.1 + o, .inr (r.2.2.1, (List.range (ab_nf r.2.2.1)).map fun k => ab_fv E.1 (ab_ft r.2.2.1 k).1 (M o k))) := by rw [ab_W_get E M ho, ab_ent_c E M hkd hlt]
  have hv : ((List.range (ab_nf r.2.2.1)).map fun k => ab_fv E.1 (ab_ft r.2.2.1 k).1 (M o k))[r.2.2.2.1]? = some (ab_fv E.1 (ab_ft r.2.2.1 r.2.2.2.1).1 (M o r.2.2.2.1)) := by
    have h2 : r.2.2.2.1 < ab_nf r.2.2.1 := by rw [← hnf]; exact hk
    simp [h2]
  rcases hlink with hl | ⟨host, hl⟩
  · exact va_get hx hb hts hin hown hK hP o he hq r.2.2.2.1 hk (hts _ hl) (fun _ h => h) hv hdg k
  · exact va_getN hx hb hts hin hown hK hP o he hq r.2.2.2.1 hk (hts _ hl) (fun _ h => h) hv hdg k
/-- a field is written -/
theorem ac_wr (hC : ab_Cx p s m args meth c E cc own nL) {r : Int × Nat × Nat × Nat × Nat} {i : Nat} (hdg : decode cc pc = .ok (.putfield i, 3)) (hck : ab_cf own i r = true) {o : Nat} (hw : o < n ∧ ab_kd o = r.2.2.1) {z : Int} {H : Heap} {locs : List Loc} {ls : Array Slot} {rest : List Value} (hP : va_P E.2.1 ab_cl (ab_W E n M) H) (hS : va_S (fun q => E.1 ≤ q) s.heap H locs)
    (hz : (ab_ft r.2.2.1 r.2.2.2.1).1 = 0 ∨ ((ab_ft r.2.2.1 r.2.2.2.1).1 = 1 ∧ (z = 0 ∨ z = 1)) ∨ ((ab_ft r.2.2.1 r.2.2.2.1).1 = 3 ∧ 0 ≤ z))
    (k : ∀ (H1 : Heap) (locs1 : List Loc), va_P E.2.1 ab_cl (ab_W E n (ab_up M o r.2.2.2.1 z)) H1 → va_S (fun q => E.1 ≤ q) s.heap H1 locs1 → W p l e R s m args below meth c H1 locs1 cells slots Q (F0 m (pc + 3) ls rest)) : W p l e R s m args below meth c H locs cells slots Q (F0 m pc ls (ab_fv E.1 (ab_ft r.2.2.1 r.2.2.2.1).1 z :: .ref (E.1 + o) :: rest)) := by
  obtain ⟨hx, hb, hml, hown, hts, hK, hlk, hsz⟩ := hC
  obtain ⟨ho, hkd⟩ := hw
  obtain ⟨⟨C, T, N⟩, hq, hk, hlink⟩ := ab_cf_ok hck
  obtain ⟨hin, ⟨ty0, hty, hnm⟩, hnf, hlt⟩ := ab_clok _ _ hq
  have hfk := ab_fk_ok hq hk
  have he : (ab_W E n M)[o]? = some (E.1 + o, .inr (r.2.2.1, (List.range (ab_nf r.2.2.1)).map fun k => ab_fv E.1 (ab_ft r.2.2.1 k).1 (M o k))) := by rw [ab_W_get E M ho, ab_ent_c E M hkd hlt]
  have h2 : r.2.2.2.1 < ((List.range (ab_nf r.2.2.1)).map fun k => ab_fv E.1 (ab_ft r.2.2.1 k).1 (M o k)).length := by simp; rw [← hnf]; exact hk
  have hset : (ab_W E n M).set o (E.1 + o, .inr (r.2.2.1, ((List.range (ab_nf r.2.2.1)).map fun k => ab_fv E.1 (ab_ft r.2.2.1 k).1 (M o k)).set r.2.2.2.1 (ab_fv E.1 (ab_ft r.2.2.1 r.2.2.2.1).1 z))) = ab_W E n (ab_up M o r.2.2.2.1 z) :=
    ab_W_set E ho (by rw [ab_upd_f, ab_ent_c E _ hkd hlt]) (fun o' h j => (ab_up_o h j).symm)
  obtain ⟨ty, hd, hfin, hn, hfit⟩ : ∃ ty : FieldType, parseFieldDescriptor (T r.2.2.2.1).2.2.1 = some ty ∧ (T r.2.2.2.1).2.2.2 = false ∧ narrow ty (ab_fv E.1 (ab_ft r.2.2.1 r.2.2.2.1).1 z) = ab_fv E.1 (ab_ft r.2.2.1 r.2.2.2.1).1 z ∧ fits ty (ab_fv E.1 (ab_ft r.2.2.1 r.2.2.2.1).1 z) = true := by
    unfold ab_fk at hfk
    rcases hz with h | ⟨h, hz⟩ | ⟨h, hz⟩
    · rw [h] at hfk ⊢
      simp only [Bool.and_eq_true, decide_eq_true_eq, Bool.not_eq_true'] at hfk
      exact ⟨.int, hfk.1, hfk.2, rfl, rfl⟩
    · rw [h] at hfk ⊢
      simp only [Bool.and_eq_true, decide_eq_true_eq, Bool.not_eq_true'] at hfk
      exact ⟨.boolean, hfk.1, hfk.2, ab_narz hz, ab_fitz hz⟩
    · rw [h] at hfk ⊢
      simp only [Bool.and_eq_true, Bool.not_eq_true'] at hfk
      have e : ab_fv E.1 3 z = .ref (E.1 + z.toNat) := by
        unfold ab_fv ab_rf
        rw [if_neg (by decide), if_neg (by omega)]
        rfl
      rw [e]
      cases hp : parseFieldDescriptor (T r.2.2.2.1).2.2.1 with
      | none => rw [hp] at hfk; exact absurd hfk.1 (by decide)
      | some ty =>
        rw [hp] at hfk
        cases ty with
        | object n => exact ⟨_, rfl, hfk.2, rfl, rfl⟩
        | _ => exact absurd hfk.1 Bool.false_ne_true
  rcases hlink with hl | ⟨host, hl⟩
  · exact va_put hx hb hts hin ty0 hty hnm hown hK hP (ab_D E n M) hS o he hq r.2.2.2.1 hk (hts _ hl) (fun _ h => h) hfin hd hn hfit h2 hdg (fun H1 locs1 a1 a2 a3 => k H1 locs1 (by rw [← hset]; exact a1) a3)
  · exact va_putN hx hb hts hin ty0 hty hnm hown hK hP (ab_D E n M) hS o he hq r.2.2.2.1 hk (hts _ hl) (fun _ h => h) hfin hd hn hfit h2 hdg (fun H1 locs1 a1 a2 a3 => k H1 locs1 (by rw [← hset]; exact a1) a3)
/-- a reference that never changes is written, in its class's constructor -/
theorem ac_wrF (hC : ab_Cx p s m args meth c E cc own nL) (hin2 : meth.name = "<init>") {r : Int × Nat × Nat × Nat × Nat} {i : Nat} (hdg : decode cc pc = .ok (.putfield i, 3)) (hck : ab_cf own i r = true) (how : r.2.2.1 = own) {o : Nat} (hw : o < n ∧ ab_kd o = r.2.2.1) {o' : Nat} {H : Heap} {locs : List Loc} {ls : Array Slot} {rest : List Value} (hP : va_P E.2.1 ab_cl (ab_W E n M) H) (hS : va_S (fun q => E.1 ≤ q) s.heap H locs)
    (hz : (ab_ft r.2.2.1 r.2.2.2.1).1 = 2 ∨ (ab_ft r.2.2.1 r.2.2.2.1).1 = 4 ∨ (ab_ft r.2.2.1 r.2.2.2.1).1 = 5) (hpl : ∃ w : Cond, lw_tbl[r.2.2.2.2]? = some w ∧ ab_nest w = false)
    (k : ∀ (H1 : Heap) (locs1 : List Loc), va_P E.2.1 ab_cl (ab_W E n (ab_up M o r.2.2.2.1 (o' : Int))) H1 → va_S (fun q => E.1 ≤ q) s.heap H1 locs1 → W p l e R s m args below meth c H1 locs1 cells slots Q (F0 m (pc + 3) ls rest)) : W p l e R s m args below meth c H locs cells slots Q (F0 m pc ls (.ref (E.1 + o') :: .ref (E.1 + o) :: rest)) := by
  obtain ⟨hx, hb, hml, hown, hts, hK, hlk, hsz⟩ := hC
  obtain ⟨ho, hkd⟩ := hw
  have hlink : ∃ q : vw_C, ab_cl[r.2.2.1]? = some q ∧ r.2.2.2.1 < q.2.2 ∧ Cond.fieldLink (ab_cn own) i (q.2.1 r.2.2.2.1).1 (q.2.1 r.2.2.2.1).2.1 (q.2.1 r.2.2.2.1).2.2.1 ∈ ab_tn := by
    obtain ⟨w, w1, w2⟩ := hpl
    unfold ab_cf at hck
    rw [w1] at hck
    split at hck
    · rename_i o j f nn d q e1 e2
      cases e1
      rw [Bool.and_eq_true, decide_eq_true_eq, decide_eq_true_eq] at hck
      obtain ⟨h1, rfl, rfl, rfl, rfl, rfl⟩ := hck
      exact ⟨q, e2, h1, ab_tnm (List.mem_of_getElem? w1) rfl⟩
    · rename_i e1 e2
      cases e1
      cases w2
    · cases hck
  obtain ⟨⟨C, T, N⟩, hq, hk, hl⟩ := hlink
  obtain ⟨hin, ⟨ty0, hty, hnm⟩, hnf, hlt⟩ := ab_clok _ _ hq
  have hfk := ac_fk_ok hq hk
  have he : (ab_W E n M)[o]? = some (E.1 + o, .inr (r.2.2.1, (List.range (ab_nf r.2.2.1)).map fun k => ab_fv E.1 (ab_ft r.2.2.1 k).1 (M o k))) := by rw [ab_W_get E M ho, ab_ent_c E M hkd hlt]
  have h2 : r.2.2.2.1 < ((List.range (ab_nf r.2.2.1)).map fun k => ab_fv E.1 (ab_ft r.2.2.1 k).1 (M o k)).length := by simp; rw [← hnf]; exact hk
  have hset : (ab_W E n M).set o (E.1 + o, .inr (r.2.2.1, ((List.range (ab_nf r.2.2.1)).map fun k => ab_fv E.1 (ab_ft r.2.2.1 k).1 (M o k)).set r.2.2.2.1 (ab_fv E.1 (ab_ft r.2.2.1 r.2.2.2.1).1 (o' : Int)))) = ab_W E n (ab_up M o r.2.2.2.1 (o' : Int)) :=
    ab_W_set E ho (by rw [ab_upd_f, ab_ent_c E _ hkd hlt]) (fun o' h j => (ab_up_o h j).symm)
  have ev : ab_fv E.1 (ab_ft r.2.2.1 r.2.2.2.1).1 (o' : Int) = .ref (E.1 + o') := by
    unfold ab_fv ab_rf
    rw [if_neg (by omega), if_neg (by omega)]
    rfl
  have hf : (T r.2.2.2.1).2.2.2 = true ∧ (T r.2.2.2.1).1 = ab_cn r.2.2.1 ∧ (match parseFieldDescriptor (T r.2.2.2.1).2.2.1 with | some (.object _) => true | some (.array _) => true | _ => false) = true := by
    unfold ac_fk at hfk
    rcases hz with h | h | h <;> (rw [h] at hfk; simp only [Bool.and_eq_true, decide_eq_true_eq] at hfk; exact hfk)
  obtain ⟨hf1, hf2, hf3⟩ := hf
  obtain ⟨ty, hd, hn, hfit⟩ : ∃ ty : FieldType, parseFieldDescriptor (T r.2.2.2.1).2.2.1 = some ty ∧ narrow ty (Value.ref (E.1 + o')) = .ref (E.1 + o') ∧ fits ty (Value.ref (E.1 + o')) = true := by
    cases hp : parseFieldDescriptor (T r.2.2.2.1).2.2.1 with
    | none => rw [hp] at hf3; cases hf3
    | some ty =>
      rw [hp] at hf3
      cases ty with
      | object n => exact ⟨_, rfl, rfl, rfl⟩
      | array t => exact ⟨_, rfl, rfl, rfl⟩
      | _ => cases hf3
  rw [ev] at hset
  exact va_putF hx hb hts hin ty0 hty hnm hown hK hP (ab_D E n M) hS o he hq r.2.2.2.1 hk (hts _ hl) (fun _ h => h) hf1 hin2 (by rw [hf2, how]) hd hn hfit h2 hdg (fun H1 locs1 a1 a2 a3 => k H1 locs1 (by rw [← hset]; exact a1) a3)
end AC
