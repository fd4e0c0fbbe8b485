/-! THE WORLD as a list, for the kit's rows; what a change of one slot does to it -/
theorem ab_W_get (E : ab_E) {n o : Nat} (M : ab_M) (h : o < n) : (ab_W E n M)[o]? = some (E.1 + o, ab_ent E M o) := by simp [ab_W, h]
theorem ab_D (E : ab_E) (n : Nat) (M : ab_M) : va_D (fun q => E.1 ≤ q) (ab_W E n M) := by
  have key : ∀ (k : Nat) (q : Nat × va_E), (ab_W E n M)[k]? = some q → q.1 = E.1 + k := by
    intro k q hk
    have hl : k < n := by
      have := (List.getElem?_eq_some_iff.mp hk).1
      simpa [ab_W] using this
    rw [ab_W_get E M hl] at hk
    cases hk
    rfl
  refine ⟨fun i j p q hi hj hpq => ?_, fun k q hk => ?_⟩
  · have h1 := key i p hi
    have h2 := key j q hj
    omega
  · have h1 := key k q hk
    show E.1 ≤ q.1
    omega
theorem ab_ent_ext (E : ab_E) {M M' : ab_M} {o : Nat} (h : ∀ j, M o j = M' o j) : ab_ent E M o = ab_ent E M' o := by
  have e : M o = M' o := funext h
  unfold ab_ent
  rw [e]
theorem ab_W_set (E : ab_E) {n o : Nat} {M M' : ab_M} {x : va_E} (ho : o < n) (hx : x = ab_ent E M' o) (h : ∀ o', o' ≠ o → ∀ j, M o' j = M' o' j) : (ab_W E n M).set o (E.1 + o, x) = ab_W E n M' := by
  apply List.ext_getElem?
  intro i
  by_cases hi : i < n
  · rw [ab_W_get E M' hi]
    by_cases hio : i = o
    · subst hio
      rw [List.getElem?_set_self (by simpa [ab_W] using hi), hx]
    · rw [List.getElem?_set_ne (Ne.symm hio), ab_W_get E M hi, ab_ent_ext E (h i hio)]
  · rw [List.getElem?_eq_none (by simp [ab_W]; omega), List.getElem?_eq_none (by simp [ab_W]; omega)]
theorem ab_nbeq {a b : Nat} (h : a ≠ b) : Nat.beq a b = false := by
  cases hb : Nat.beq a b with
  | false => rfl
  | true => exact absurd (Nat.eq_of_beq_eq_true hb) h
theorem ab_up_o {M : ab_M} {o k : Nat} {v : Int} {o' : Nat} (h : o' ≠ o) (j : Nat) : ab_up M o k v o' j = M o' j := by
  unfold ab_up
  rw [ab_nbeq h]
  rfl
theorem ab_up_k {M : ab_M} {o k : Nat} {v : Int} {j : Nat} (h : j ≠ k) (o' : Nat) : ab_up M o k v o' j = M o' j := by
  unfold ab_up
  rw [ab_nbeq h, Bool.and_false]
  rfl
theorem ab_up_s {M : ab_M} {o k : Nat} {v : Int} : ab_up M o k v o k = v := by
  unfold ab_up
  rw [Nat.beq_refl, Nat.beq_refl]
  rfl
theorem ab_up_a (M : ab_M) (o k : Nat) (v : Int) (o' k' : Nat) : ab_up M o k v o' k' = if o' = o ∧ k' = k then v else M o' k' := by
  by_cases h1 : o' = o
  · by_cases h2 : k' = k
    · rw [if_pos ⟨h1, h2⟩, h1, h2, ab_up_s]
    · rw [if_neg (fun h => h2 h.2), ab_up_k h2]
  · rw [if_neg (fun h => h1 h.1), ab_up_o h1]
/-- a cell of a class, of an array -/
theorem ab_ent_c (E : ab_E) (M : ab_M) {o c : Nat} (h : ab_kd o = c) (hc : c < 20) : ab_ent E M o = .inr (c, (List.range (ab_nf c)).map fun k => ab_fv E.1 (ab_ft c k).1 (M o k)) := by
  subst h
  unfold ab_ent
  rw [if_pos hc]
theorem ab_ent_i (E : ab_E) (M : ab_M) {o c : Nat} (h : ab_kd o = c) (hc : c = 20 ∨ c = 22 ∨ c = 23 ∨ c = 24) : ab_ent E M o = .inl (E.2.2 c, ab_ln o, .inl fun j => Int32.ofInt (M o j)) := by
  subst h
  unfold ab_ent
  rw [if_neg (by omega), if_neg (by omega), if_neg (by omega)]
theorem ab_ent_l (E : ab_E) (M : ab_M) {o : Nat} (h : ab_kd o = 21) : ab_ent E M o = .inl (E.2.2 21, ab_ln o, .inr (.inl fun j => Int64.ofInt (M o j))) := by
  unfold ab_ent
  rw [h, if_neg (by omega), if_pos rfl]
theorem ab_ent_q (E : ab_E) (M : ab_M) {o c : Nat} (h : ab_kd o = c) (hc : c = 25 ∨ c = 26) : ab_ent E M o = .inl (E.2.2 c, ab_ln o, .inr (.inr (.inr (.inr fun j => ab_rf E.1 (M o j))))) := by
  subst h
  unfold ab_ent
  rw [if_neg (by omega), if_neg (by omega), if_pos hc]
theorem ab_ln_small {o : Nat} (h : o < ab_n) : ab_ln o < 2 ^ 31 := by
  have h1 := List.all_eq_true.mp ab_kd_all o (List.mem_range.mpr h)
  simp only [Bool.or_eq_true, Bool.and_eq_true, Nat.ble_eq, Nat.beq_eq] at h1
  omega
theorem ab_upd_i (M : ab_M) (o i : Nat) (z : Int) : upd (fun j => Int32.ofInt (M o j)) i (Int32.ofInt z) = fun j => Int32.ofInt (ab_up M o i z o j) := by
  funext j
  unfold upd
  by_cases h : j = i
  · rw [if_pos h, h, ab_up_s]
  · rw [if_neg h, ab_up_k h]
theorem ab_upd_l (M : ab_M) (o i : Nat) (z : Int) : vp_updL (fun j => Int64.ofInt (M o j)) i (Int64.ofInt z) = fun j => Int64.ofInt (ab_up M o i z o j) := by
  funext j
  unfold vp_updL
  by_cases h : j = i
  · rw [if_pos h, h, ab_up_s]
  · rw [if_neg h, ab_up_k h]
theorem ab_upd_q (S : Nat) (M : ab_M) (o i o' : Nat) : va_up (fun j => ab_rf S (M o j)) i (some (S + o')) = fun j => ab_rf S (ab_up M o i (o' : Int) o j) := by
  funext j
  unfold va_up
  by_cases h : j = i
  · rw [if_pos h, h, ab_up_s, ab_rf, if_neg (by omega), Int.toNat_natCast]
  · rw [if_neg h, ab_up_k h]
theorem ab_upd_f (S : Nat) (M : ab_M) (o c k : Nat) (z : Int) (n : Nat) : ((List.range n).map fun j => ab_fv S (ab_ft c j).1 (M o j)).set k (ab_fv S (ab_ft c k).1 z) = (List.range n).map fun j => ab_fv S (ab_ft c j).1 (ab_up M o k z o j) := by
  apply List.ext_getElem?
  intro i
  by_cases hi : i < n
  · by_cases h : i = k
    · subst h
      rw [List.getElem?_set_self (by simpa using hi)]
      simp [hi, ab_up_s]
    · rw [List.getElem?_set_ne (Ne.symm h)]
      simp [hi, ab_up_k h]
  · rw [List.getElem?_eq_none (by simp; omega), List.getElem?_eq_none (by simp; omega)]
/-- the fixed references stay -/
theorem ab_wd_up {M : ab_M} {o k : Nat} {z : Int} (h : ab_wd M) (h1 : (ab_ft (ab_kd o) k).1 ≠ 2 ∧ (ab_ft (ab_kd o) k).1 ≠ 4 ∧ (ab_ft (ab_kd o) k).1 ≠ 5) (h2 : ab_kd o ≠ 25) : ab_wd (ab_up M o k z) := by
  refine ⟨fun o' k' ho hf => ?_, fun o' k' ho hf => ?_, fun o' i ho hk hi => ?_⟩
  · rw [ab_up_a, if_neg]
    · exact h.1 o' k' ho hf
    · rintro ⟨rfl, rfl⟩; exact h1.1 hf
  · rw [ab_up_a, if_neg]
    · exact h.2.1 o' k' ho hf
    · rintro ⟨rfl, rfl⟩; rcases hf with h | h
      · exact h1.2.1 h
      · exact h1.2.2 h
  · rw [ab_up_a, if_neg]
    · exact h.2.2 o' i ho hk hi
    · rintro ⟨rfl, -⟩; exact h2 hk
theorem ab_wd_ext {M M' : ab_M} (h : ab_wd M) (he : ∀ o k, (ab_kd o < 20 ∨ ab_kd o = 25) → M' o k = M o k) (hk : ∀ c k, 20 ≤ c → (ab_ft c k).1 = 9) : ab_wd M' := by
  refine ⟨fun o' k' ho hf => ?_, fun o' k' ho hf => ?_, fun o' i ho hk hi => ?_⟩
  · rw [he o' k' (Or.inl (by
      rcases Nat.lt_or_ge (ab_kd o') 20 with h | h
      · exact h
      · rw [hk _ _ h] at hf; cases hf))]
    exact h.1 o' k' ho hf
  · rw [he o' k' (Or.inl (by
      rcases Nat.lt_or_ge (ab_kd o') 20 with h | h
      · exact h
      · rw [hk _ _ h] at hf; rcases hf with h | h <;> cases h))]
    exact h.2.1 o' k' ho hf
  · rw [he o' i (Or.inr hk)]
    exact h.2.2 o' i ho hk hi
theorem ab_ft9 (c k : Nat) (h : 20 ≤ c) : (ab_ft c k).1 = 9 := by
  unfold ab_ft
  have : ab_fts.getD c [] = [] := by
    rw [List.getD_eq_getElem?_getD, List.getElem?_eq_none]
    · rfl
    · exact Nat.le_trans (show ab_fts.length ≤ 20 by decide +kernel) h
  rw [this]
  rfl
theorem ab_wd_arr {M : ab_M} {o k : Nat} {z : Int} (h : ab_wd M) (h1 : 20 ≤ ab_kd o) (h2 : ab_kd o ≠ 25) : ab_wd (ab_up M o k z) := by
  refine ab_wd_up h ?_ h2
  rw [ab_ft9 _ _ h1]
  exact ⟨by decide, by decide, by decide⟩
/-- what holds all through a method's body -/
def ab_Cx (p : Program) (s : State) (m : MethodId) (args : Array Value) (meth : Method) (c : Code) (E : ab_E) (cc : ByteArray) (own nL : Nat) : Prop :=
  p.tables.exec = Jvm.exec ∧ c.code = cc ∧ c.maxLocals = nL ∧ s.vm.findClass (ab_cn own) = some m.cls ∧ (∀ w ∈ ab_tn, w.before args s = true) ∧ va_K E.2.1 ab_cl (ab_tys E.2.2) s ∧ meth.locks = false ∧ E.1 ≤ s.heap.size
section AB
variable {p : Program} {l : Launch} {e : Env} {R : Room} {s : State} {m : MethodId} {args : Array Value} {below : List Frame} {meth : Method} {c : Code} {Q : State → Prop} {E : ab_E} {cc : ByteArray} {own nL : Nat}
/-- the walk from here ends well, whatever the heap's other cells are -/
def ab_Go (p : Program) (l : Launch) (e : Env) (R : Room) (s : State) (m : MethodId) (args : Array Value) (below : List Frame) (meth : Method) (c : Code) (Q : State → Prop) (E : ab_E) (nL : Nat) (pc : Nat) (L st : List ab_V) (M : ab_M) : Prop :=
  ab_wd M → (∀ v ∈ L, ab_wf v) → (∀ v ∈ st, ab_wf v) → L.length = nL → ∀ (H : Heap) (locs : List Loc) (ls : Array Slot), va_P E.2.1 ab_cl (ab_W E ab_n M) H → va_S (fun q => E.1 ≤ q) s.heap H locs → lv_has ls nL (ab_lv E.1 L) → W p l e R s m args below meth c H locs 0 0 Q (F0 m pc ls (st.map (ab_cv E.1)))
variable {pc : Nat} {L st : List ab_V} {M : ab_M}
theorem ab_lval {S i : Nat} {ls : Array Slot} {v : ab_V} (h : lv_has ls nL (ab_lv S L)) (hv : ab_ld L i = v) (hn : v ≠ .inl ()) : ls[i]? = some (.val (ab_cv S v)) := by
  have hq : (i, ab_cv S v) ∈ ab_lv S L := ab_lv_mem.mpr ⟨ab_ld_lt (by rw [hv]; exact hn), by show ab_ld L i ≠ _; rw [hv]; exact hn, by show ab_cv S v = ab_cv S (ab_ld L i); rw [hv]⟩
  exact h.2.2 _ hq
theorem ab_lwf {i : Nat} {v : ab_V} (h : ∀ v ∈ L, ab_wf v) (hv : ab_ld L i = v) (hn : v ≠ .inl ()) : ab_wf v := by
  have := ab_ld_mem (L := L) (i := i) (by rw [hv]; exact hn)
  rw [hv] at this
  exact h _ this
theorem ab_lst1 {S i : Nat} {ls' : Array Slot} {v : ab_V} (hL : L.length = nL) (hi : i < nL) (h : lv_has ls' nL ((i, ab_cv S v) :: (ab_lv S L).filter (fun q => !(q.1 == i) && !(q.1 + 1 == i && q.2.category == 2)))) : lv_has ls' nL (ab_lv S (ab_s1 L i v)) :=
  ⟨h.1, h.2.1, fun q hq => h.2.2 q (ab_s1_mem (by omega) hq)⟩
theorem ab_lst2 {S i : Nat} {ls' : Array Slot} {v : ab_V} (hL : L.length = nL) (hi : i + 1 < nL) (h : lv_has ls' nL ((i, ab_cv S v) :: (ab_lv S L).filter (fun q => !(q.1 == i) && (!(q.1 == i + 1) && !(q.1 + 1 == i && q.2.category == 2))))) : lv_has ls' nL (ab_lv S (ab_s2 L i v)) :=
  ⟨h.1, h.2.1, fun q hq => h.2.2 q (ab_s2_mem (by omega) hq)⟩
theorem ab_cons {v : ab_V} {t : List ab_V} (hv : ab_wf v) (h : ∀ v ∈ t, ab_wf v) : ∀ w ∈ v :: t, ab_wf w := fun w hw => by
  rcases List.mem_cons.mp hw with rfl | hw
  · exact hv
  · exact h w hw
theorem ab_tail {v : ab_V} {t : List ab_V} (h : ∀ w ∈ v :: t, ab_wf w) : ∀ v ∈ t, ab_wf v := fun w hw => h w (List.mem_cons_of_mem _ hw)
theorem ab_head {v : ab_V} {t : List ab_V} (h : ∀ w ∈ v :: t, ab_wf w) : ab_wf v := h v List.mem_cons_self
/-- a field is read -/
theorem ab_rd (hC : ab_Cx p s m args meth c E cc own nL) {r : Int × Nat × Nat × Nat × Nat} {i : Nat} (hdg : decode cc pc = .ok (.getfield i, 3)) (hck : ab_cf own i r = true) {o n : Nat} (hw : ab_wf (.inr (.inr (.inr (o, r.2.2.1, n))))) {H : Heap} {locs : List Loc} {ls : Array Slot} {rest : List Value} (hP : va_P E.2.1 ab_cl (ab_W E ab_n M) H)
    (k : W p l e R s m args below meth c H locs 0 0 Q (F0 m (pc + 3) ls (ab_fv E.1 (ab_ft r.2.2.1 r.2.2.2.1).1 (M o r.2.2.2.1) :: rest))) : W p l e R s m args below meth c H locs 0 0 Q (F0 m pc ls (.ref (E.1 + o) :: rest)) := by
  obtain ⟨hx, hb, hml, hown, hts, hK, hlk, hsz⟩ := hC
  obtain ⟨ho, hkd, hln⟩ := hw
  obtain ⟨⟨C, T, N⟩, hq, hk, hlink⟩ := ab_cf_ok hck
  obtain ⟨hin, -, hnf, hlt⟩ := ab_clok _ _ hq
  have he : (ab_W E ab_n M)[o]? = some (E.1 + o, .inr (r.2.2.1, (List.range (ab_nf r.2.2.1)).map fun k => ab_fv E.1 (ab_ft r.2.2.1 k).1 (M o k))) := by rw [ab_W_get E M ho, ab_ent_c E M hkd hlt]
  have hv : ((List.range (ab_nf r.2.2.1)).map fun k => ab_fv E.1 (ab_ft r.2.2.1 k).1 (M o k))[r.2.2.2.1]? = some (ab_fv E.1 (ab_ft r.2.2.1 r.2.2.2.1).1 (M o r.2.2.2.1)) := by
    have h2 : r.2.2.2.1 < ab_nf r.2.2.1 := by rw [← hnf]; exact hk
    simp [h2]
  rcases hlink with hl | ⟨host, hl⟩
  · exact va_get hx hb hts hin hown hK hP o he hq r.2.2.2.1 hk (hts _ hl) (fun _ h => h) hv hdg k
  · exact va_getN hx hb hts hin hown hK hP o he hq r.2.2.2.1 hk (hts _ hl) (fun _ h => h) hv hdg k
/-- a field is written -/
theorem ab_wr (hC : ab_Cx p s m args meth c E cc own nL) {r : Int × Nat × Nat × Nat × Nat} {i : Nat} (hdg : decode cc pc = .ok (.putfield i, 3)) (hck : ab_cf own i r = true) {o n : Nat} (hw : ab_wf (.inr (.inr (.inr (o, r.2.2.1, n))))) {z : Int} {H : Heap} {locs : List Loc} {ls : Array Slot} {rest : List Value} (hP : va_P E.2.1 ab_cl (ab_W E ab_n M) H) (hS : va_S (fun q => E.1 ≤ q) s.heap H locs)
    (hz : (ab_ft r.2.2.1 r.2.2.2.1).1 = 0 ∨ ((ab_ft r.2.2.1 r.2.2.2.1).1 = 1 ∧ (z = 0 ∨ z = 1)) ∨ ((ab_ft r.2.2.1 r.2.2.2.1).1 = 3 ∧ 0 ≤ z))
    (k : ∀ (H1 : Heap) (locs1 : List Loc), va_P E.2.1 ab_cl (ab_W E ab_n (ab_up M o r.2.2.2.1 z)) H1 → va_S (fun q => E.1 ≤ q) s.heap H1 locs1 → W p l e R s m args below meth c H1 locs1 0 0 Q (F0 m (pc + 3) ls rest)) : W p l e R s m args below meth c H locs 0 0 Q (F0 m pc ls (ab_fv E.1 (ab_ft r.2.2.1 r.2.2.2.1).1 z :: .ref (E.1 + o) :: rest)) := by
  obtain ⟨hx, hb, hml, hown, hts, hK, hlk, hsz⟩ := hC
  obtain ⟨ho, hkd, hln⟩ := hw
  obtain ⟨⟨C, T, N⟩, hq, hk, hlink⟩ := ab_cf_ok hck
  obtain ⟨hin, ⟨ty0, hty, hnm⟩, hnf, hlt⟩ := ab_clok _ _ hq
  have hfk := ab_fk_ok hq hk
  have he : (ab_W E ab_n M)[o]? = some (E.1 + o, .inr (r.2.2.1, (List.range (ab_nf r.2.2.1)).map fun k => ab_fv E.1 (ab_ft r.2.2.1 k).1 (M o k))) := by rw [ab_W_get E M ho, ab_ent_c E M hkd hlt]
  have h2 : r.2.2.2.1 < ((List.range (ab_nf r.2.2.1)).map fun k => ab_fv E.1 (ab_ft r.2.2.1 k).1 (M o k)).length := by simp; rw [← hnf]; exact hk
  have hset : (ab_W E ab_n M).set o (E.1 + o, .inr (r.2.2.1, ((List.range (ab_nf r.2.2.1)).map fun k => ab_fv E.1 (ab_ft r.2.2.1 k).1 (M o k)).set r.2.2.2.1 (ab_fv E.1 (ab_ft r.2.2.1 r.2.2.2.1).1 z))) = ab_W E ab_n (ab_up M o r.2.2.2.1 z) :=
    ab_W_set E ho (by rw [ab_upd_f, ab_ent_c E _ hkd hlt]) (fun o' h j => (ab_up_o h j).symm)
  obtain ⟨ty, hd, hfin, hn, hfit⟩ : ∃ ty : FieldType, parseFieldDescriptor (T r.2.2.2.1).2.2.1 = some ty ∧ (T r.2.2.2.1).2.2.2 = false ∧ narrow ty (ab_fv E.1 (ab_ft r.2.2.1 r.2.2.2.1).1 z) = ab_fv E.1 (ab_ft r.2.2.1 r.2.2.2.1).1 z ∧ fits ty (ab_fv E.1 (ab_ft r.2.2.1 r.2.2.2.1).1 z) = true := by
    unfold ab_fk at hfk
    rcases hz with h | ⟨h, hz⟩ | ⟨h, hz⟩
    · rw [h] at hfk ⊢
      simp only [Bool.and_eq_true, decide_eq_true_eq, Bool.not_eq_true'] at hfk
      exact ⟨.int, hfk.1, hfk.2, rfl, rfl⟩
    · rw [h] at hfk ⊢
      simp only [Bool.and_eq_true, decide_eq_true_eq, Bool.not_eq_true'] at hfk
      exact ⟨.boolean, hfk.1, hfk.2, ab_narz hz, ab_fitz hz⟩
    · rw [h] at hfk ⊢
      simp only [Bool.and_eq_true, Bool.not_eq_true'] at hfk
      have e : ab_fv E.1 3 z = .ref (E.1 + z.toNat) := by
        unfold ab_fv ab_rf
        rw [if_neg (by decide), if_neg (by omega)]
        rfl
      rw [e]
      cases hp : parseFieldDescriptor (T r.2.2.2.1).2.2.1 with
      | none => rw [hp] at hfk; exact absurd hfk.1 (by decide)
      | some ty =>
        rw [hp] at hfk
        cases ty with
        | object n => exact ⟨_, rfl, hfk.2, rfl, rfl⟩
        | _ => exact absurd hfk.1 Bool.false_ne_true
  rcases hlink with hl | ⟨host, hl⟩
  · exact va_put hx hb hts hin ty0 hty hnm hown hK hP (ab_D E ab_n M) hS o he hq r.2.2.2.1 hk (hts _ hl) (fun _ h => h) hfin hd hn hfit h2 hdg (fun H1 locs1 a1 a2 a3 => k H1 locs1 (by rw [← hset]; exact a1) a3)
  · exact va_putN hx hb hts hin ty0 hty hnm hown hK hP (ab_D E ab_n M) hS o he hq r.2.2.2.1 hk (hts _ hl) (fun _ h => h) hfin hd hn hfit h2 hdg (fun H1 locs1 a1 a2 a3 => k H1 locs1 (by rw [← hset]; exact a1) a3)
end AB
