/-! the making: elements put, the heap's size kept -/
section AC
variable {p : Program} {l : Launch} {e : Env} {R : Room} {s : State} {m : MethodId} {args : Array Value} {below : List Frame} {meth : Method} {c : Code} {Q : State → Prop} {E : ab_E} {cc : ByteArray} {own nL : Nat}
variable {pc : Nat} {M : ab_M} {n cells slots : Nat}
/-- the world with one array changed, out of the one cell that changed -/
theorem ac_seta {M' : ab_M} {o : Nat} {x : va_E} (hx : x = ab_ent E M' o) (ho : o < n) (he : ab_ent E M o = x ∨ ∃ y, ab_ent E M o = y) (hoth : ∀ o', o' ≠ o → ∀ j, M o' j = M' o' j) {H H1 : Heap} (hP : ac_H E n M H) (h1 : va_at E.2.1 ab_cl (E.1 + o, x) H1) (e2 : H1.size = H.size) (e3 : ∀ q, q ≠ E.1 + o → H1[q]? = H[q]?) : ac_H E n M' H1 := by
  refine ⟨?_, by rw [e2]; exact hP.2⟩
  rw [← ab_W_set E (n := n) ho hx hoth]
  exact hP.1.set (ab_D E n M) (ab_W_get E M ho) h1 e3
/-- a number into an array of ints -/
theorem ac_iast (hC : ab_Cx p s m args meth c E cc own nL) {o i : Nat} (hkd : ab_kd o = 20) (ho : o < n) (hn : n ≤ ab_n) (hi : i < ab_ln o) {z : Int} (hdg : decode cc pc = .ok (.iastore, 1)) {H : Heap} {locs : List Loc} {ls : Array Slot} {rest : List Value} (hP : ac_H E n M H) (hS : va_S (fun q => E.1 ≤ q) s.heap H locs)
    (k : ∀ (H1 : Heap) (locs1 : List Loc), ac_H E n (ab_up M o i z) H1 → va_S (fun q => E.1 ≤ q) s.heap H1 locs1 → W p l e R s m args below meth c H1 locs1 cells slots Q (F0 m (pc + 1) ls rest)) : W p l e R s m args below meth c H locs cells slots Q (F0 m pc ls (.int (Int32.ofInt z) :: .int (Int32.ofInt (i : Int)) :: .ref (E.1 + o) :: rest)) := by
  obtain ⟨hx, hb, hml, hown, hts, hK, hlk, hsz⟩ := hC
  have hln : ab_ln o < 2 ^ 31 := ab_ln_small (by omega)
  have hidx : 0 ≤ (i : Int) ∧ (i : Int) < ((ab_ln o : Nat) : Int) := by omega
  have hin := ab_in hidx hln
  have he : (ab_W E n M)[o]? = some (E.1 + o, .inl (E.2.2 20, ab_ln o, .inl fun j => Int32.ofInt (M o j))) := by rw [ab_W_get E M ho, ab_ent_i E M hkd (by omega)]
  refine W.iast hx hb (hP.1 o _ he) ((hK.2 0 _ rfl).1 (ab_ln o) (fun j => .int (Int32.ofInt (M o j)))) (fun q => by cases q) (by show ¬ (_ < 0 ∨ (arrV _ _ _).slots.size ≤ _); rw [arrV_size]; exact hin) rfl rfl hdg fun H1 e1 e2 e3 => ?_
  refine k H1 _ (ac_seta (E := E) (o := o) (x := .inl (E.2.2 20, ab_ln o, .inl fun j => Int32.ofInt (ab_up M o i z o j))) (by rw [ab_ent_i E _ hkd (by omega)]) ho (.inr ⟨_, rfl⟩) (fun o' h j => (ab_up_o h j).symm) hP ?_ e2 e3) (hS.put e2 e3 (by show E.1 ≤ E.1 + o; omega))
  show H1[E.1 + o]? = some (vp_cell _ _)
  rw [e1, ← ab_upd_i]
  rw [vp_cell_i, vp_cell_i, arrV_store, ab_cl0 hidx hln, Int.toNat_natCast]
  congr 2
  funext q
  by_cases hq : q = i
  · subst hq
    simp [updV, upd]
  · simp [updV, upd, hq]
/-- a reference into an array of texts, of statements -/
theorem ac_aast (hC : ab_Cx p s m args meth c E cc own nL) {o o' i : Nat} (h26 : (ab_kd o = 26 ∧ ab_kd o' = 6) ∨ (ab_kd o = 25 ∧ ab_kd o' = 4)) (ho : o < n) (ho' : o' < n) (hn : n ≤ ab_n) (hi : i < ab_ln o) (hdg : decode cc pc = .ok (.aastore, 1)) {H : Heap} {locs : List Loc} {ls : Array Slot} {rest : List Value} (hP : ac_H E n M H) (hS : va_S (fun q => E.1 ≤ q) s.heap H locs)
    (k : ∀ (H1 : Heap) (locs1 : List Loc), ac_H E n (ab_up M o i (o' : Int)) H1 → va_S (fun q => E.1 ≤ q) s.heap H1 locs1 → W p l e R s m args below meth c H1 locs1 cells slots Q (F0 m (pc + 1) ls rest)) : W p l e R s m args below meth c H locs cells slots Q (F0 m pc ls (.ref (E.1 + o') :: .int (Int32.ofInt (i : Int)) :: .ref (E.1 + o) :: rest)) := by
  obtain ⟨hx, hb, hml, hown, hts, hK, hlk, hsz⟩ := hC
  have hln : ab_ln o < 2 ^ 31 := ab_ln_small (by omega)
  have hidx : 0 ≤ (i : Int) ∧ (i : Int) < ((ab_ln o : Nat) : Int) := by omega
  have hin := ab_in hidx hln
  have key : ∀ (ca cv t0 : Nat) (r : vw_C), ab_kd o = ca → (ca = 25 ∨ ca = 26) → ab_kd o' = cv → cv < 20 → ab_cl[cv]? = some r → (ab_tys E.2.2)[t0]? = some (E.2.2 ca, .object r.1) → W p l e R s m args below meth c H locs cells slots Q (F0 m pc ls (.ref (E.1 + o') :: .int (Int32.ofInt (i : Int)) :: .ref (E.1 + o) :: rest)) := by
    intro ca cv t0 r k1 hca k2 hcv hr ht
    have he : (ab_W E n M)[o]? = some (E.1 + o, .inl (E.2.2 ca, ab_ln o, .inr (.inr (.inr (.inr fun j => ab_rf E.1 (M o j)))))) := by rw [ab_W_get E M ho, ab_ent_q E M k1 (by omega)]
    have he' : (ab_W E n M)[o']? = some (E.1 + o', .inr (cv, (List.range (ab_nf cv)).map fun k => ab_fv E.1 (ab_ft cv k).1 (M o' k))) := by rw [ab_W_get E M ho', ab_ent_c E M k2 hcv]
    have hlt : (Int32.ofInt (i : Int)).toNatClampNeg < ab_ln o := Nat.not_le.mp fun q => hin (Or.inr q)
    have h0 : ¬ Int32.ofInt (i : Int) < 0 := fun q => hin (Or.inl q)
    obtain ⟨r', hr', cellV, g1, g2, g3, -⟩ := hP.1 o' _ he'
    have hcls := (hK.1 cv r hr).2
    obtain ⟨kA, comp, y1, y2, y3, -⟩ := (hK.2 t0 _ ht).2
    have hcomp : comp = E.2.1.1 cv := Option.some.inj (y3.symm.trans hcls.1)
    subst hcomp
    obtain ⟨kC, hkC, -⟩ := hcls.2
    refine W.aast hx hb (hP.1 o _ he) (fun q h => by cases h) (fun h => by cases h) y1 y2 rfl hkC ⟨h0, by show _ < (arrV _ _ _).slots.size; rw [arrV_size]; exact hlt⟩ g1 (fun q h => by rw [g3] at h; cases h) (by rw [g2]; exact hkC) (by rw [g2]; exact va_assign hcls) rfl rfl hdg fun H1 e1 e2 e3 => ?_
    refine k H1 _ (ac_seta (E := E) (o := o) (x := .inl (E.2.2 ca, ab_ln o, .inr (.inr (.inr (.inr fun j => ab_rf E.1 (ab_up M o i (o' : Int) o j)))))) (by rw [ab_ent_q E _ k1 (by omega)]) ho (.inr ⟨_, rfl⟩) (fun o' h j => (ab_up_o h j).symm) hP ?_ e2 e3) (hS.put e2 e3 (by show E.1 ≤ E.1 + o; omega))
    show H1[E.1 + o]? = some (vp_cell _ _)
    rw [e1, ← ab_upd_q]
    rw [vp_cell_q, vp_cell_q, arrV_store, ab_cl0 hidx hln, Int.toNat_natCast]
    congr 2
    funext q
    by_cases hq : q = i
    · subst hq
      simp [updV, va_up, va_rf]
    · simp [updV, va_up, hq]
  rcases h26 with ⟨k1, k2⟩ | ⟨k1, k2⟩
  · exact key 26 6 6 (RX6, TX6, 2) k1 (.inr rfl) k2 (by decide) rfl rfl
  · exact key 25 4 5 (RX4, TX4, 19) k1 (.inl rfl) k2 (by decide) rfl rfl
end AC
