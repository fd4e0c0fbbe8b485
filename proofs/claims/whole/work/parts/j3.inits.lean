/-! the making: elements, contracts of constructors, calls of them -/
def ac_rm (d mc ms : Nat) : Room := { frames := d, cells := mc, slots := ms, locals := 64 * d }
/-- what a constructor wants of the state besides -/
def ac_NK (U : State) : Prop := ab_NK U ∧ va_AO RX4 U ∧ va_AO RX6 U
theorem ac_NK.warm {s U : State} (hW : s.WarmedH U.vm) (h : ac_NK s) : ac_NK U := ⟨ab_NK.warm hW h.1, va_AO.moved hW.alike h.2.1, va_AO.moved hW.alike h.2.2⟩
theorem ac_NK.moved {u U : State} (hv : u.vm = U.vm) (h : ac_NK u) : ac_NK U := ⟨ab_NK.moved hv h.1, va_AO.moved (by rw [hv]; exact Vm.Alike.refl U.vm) h.2.1, va_AO.moved (by rw [hv]; exact Vm.Alike.refl U.vm) h.2.2⟩
def ac_Pre (E : ab_E) (a : List ab_V) (n : Nat) (M : ab_M) : Array Value → State → Prop := va_Pc (a.map (ab_cv E.1)) (fun U => ac_H E n M U.heap ∧ va_K E.2.1 ab_cl (ab_tys E.2.2) U ∧ ac_NK U ∧ E.1 ≤ U.heap.size)
theorem ac_Pre_blind (E : ab_E) (a : List ab_V) (n : Nat) (M : ab_M) : FrameBlind (ac_Pre E a n M) := fun x U g mk h => by
  obtain ⟨h1, h2, h3, h4, h5⟩ := h
  exact ⟨h1, h2, va_K.moved (u := U) (U := U.calling g mk x) (Vm.Alike.refl U.vm) h3, ac_NK.moved (u := U) (U := U.calling g mk x) rfl h4, h5⟩
/-- a constructor: called with n cells made, it makes more, to n' -/
def ac_Ok (E : ab_E) (d i mc ms : Nat) (a : List ab_V) (n n' : Nat) (M : ab_M) (K : ab_M → Prop) : Prop := ∀ q : ab_R, ab_reg[i]? = some q → ∀ l : Launch, Met l q.1 (ab_ws q) (ac_rm d mc ms) (ac_Pre E a n M) (va_Qv K (fun M' t => ac_H E n' M' t.heap) (fun q => E.1 ≤ q)) mc ms (fun q => E.1 ≤ q)
section AC
variable {p : Program} {l : Launch} {e : Env} {R : Room} {s : State} {m : MethodId} {args : Array Value} {below : List Frame} {meth : Method} {c : Code} {Q : State → Prop} {E : ab_E} {cc : ByteArray} {own nL : Nat}
variable {pc : Nat} {M : ab_M} {n cells slots : Nat}
theorem ac_preU (hC : ab_Cx p s m args meth c E cc own nL) (hN : ac_NK s) {H : Heap} (hP : ac_H E n M H) {a : List ab_V} : ∀ U : State, U.heap = H → s.WarmedH U.vm → ac_Pre E a n M (a.map (ab_cv E.1)).toArray U := fun U hU hW => by
  obtain ⟨hx, hb, hml, hown, hts, hK, hlk, hsz⟩ := hC
  exact ⟨rfl, by rw [hU]; exact hP, va_K.moved hW.alike hK, ac_NK.warm hW hN, by rw [hU, hP.2]; omega⟩
/-- a constructor is called -/
theorem ac_init (hC : ab_Cx p s m args meth c E cc own nL) (hN : ac_NK s) {d d' : Nat} (hR : R.frames = d ∧ R.locals = 64 * d) (hd : d' + 1 ≤ d) {i ix mc ms n' : Nat} {q : ab_R} (hq : ab_reg[ix]? = some q) (hy : q.1.name = "<init>" ∧ q.2.2.2.1 = none) (hin : Cond.instanceMethod q.1 ∈ ab_tn) (hdg : decode cc pc = .ok (.invokespecial i, 3)) (hlink : Cond.methodLink (ab_cn own) i q.1 ∈ ab_tn) {o : Nat} {a : List ab_V} (hpar : (parseMethodDescriptor q.1.desc).map (fun d => d.parameters.length) = some a.length) {K : ab_M → Prop} {c0 n0 : Nat} (hok : ac_Ok E d' ix mc ms (.inr (.inr (.inr (o, c0, n0))) :: a) n n' M K) {H : Heap} {locs : List Loc} {ls : Array Slot} {rest : List Value} (hP : ac_H E n M H) (hS : va_S (fun q => E.1 ≤ q) s.heap H locs) (hsl : ls.size = nL) (hroom : (rest.map fun v => v.category).sum ≤ 8) (hcells : cells + mc ≤ R.cells) (hslots : slots + ms ≤ R.slots)
    (k : ∀ (M' : ab_M) (H1 : Heap) (locs1 : List Loc), K M' → ac_H E n' M' H1 → va_S (fun q => E.1 ≤ q) s.heap H1 locs1 → W p l e R s m args below meth c H1 locs1 (cells + mc) (slots + ms) Q (F0 m (pc + 3) ls rest)) : W p l e R s m args below meth c H locs cells slots Q (F0 m pc ls ((a.map (ab_cv E.1)).reverse ++ .ref (E.1 + o) :: rest)) := by
  obtain ⟨hx, hb, hml, hown, hts, hK, hlk, hsz⟩ := id hC
  obtain ⟨g1, g2, g3, g4, g5, g6⟩ := ab_rg hq
  have hS0 : CallFix p m c cc nL s args ab_tn (ab_cn own) := ⟨hx, hb, hml, hown, hts⟩
  have hgi : GoodIn ab_tn (ab_ws q) := ab_goodIn (fun w h => ab_tn_tt h) g1
  have hw : ab_ws q = Cond.code q.1 q.2.1 q.2.2.1 none :: ab_tt := by unfold ab_ws; rw [hy.2]
  have hrm : (ac_rm d' mc ms).frames + 1 ≤ R.frames ∧ 8 + (q.2.2.1 + 11) + (ac_rm d' mc ms).locals ≤ R.locals := by
    show d' + 1 ≤ R.frames ∧ 8 + (q.2.2.1 + 11) + 64 * d' ≤ R.locals
    omega
  refine va_callv (va_runI (As := a.map (ab_cv E.1)) (rest := rest) hS0 (hok q hq l) (cwI a.length hts hgi hw rfl rfl (hts _ (ab_tn_tt g2)) (hts _ hlink) (hts _ hin) hy.1 ⟨g3.1, g3.2, hpar⟩ hrm) ⟨ac_Pre_blind E _ n M, fun U hU hW => ac_preU hC hN hP U hU hW⟩ rfl (by simp) hsl rfl (lv_room hroom) hdg ⟨hcells, hslots⟩) hS (fun q _ h => h) (fun q h => h) (fun u t H1 locs1 ht hvm hpost hB hz1 hk1 hS1 => ?_)
  exact k u H1 locs1 hpost (by rw [← ht]; exact hB) hS1
theorem ac_initN (hC : ab_Cx p s m args meth c E cc own nL) (hN : ac_NK s) {d d' : Nat} (hR : R.frames = d ∧ R.locals = 64 * d) (hd : d' + 1 ≤ d) {i ix mc ms n' : Nat} {q : ab_R} (hq : ab_reg[ix]? = some q) (hy : q.1.name = "<init>" ∧ q.2.2.2.1 = none) (hin : Cond.instanceMethod q.1 ∈ ab_tn) (hdg : decode cc pc = .ok (.invokespecial i, 3)) {host : String} (hlink : Cond.methodLinkNest (ab_cn own) i q.1 host ∈ lw_tbl) {o : Nat} {a : List ab_V} (hpar : (parseMethodDescriptor q.1.desc).map (fun d => d.parameters.length) = some a.length) {K : ab_M → Prop} {c0 n0 : Nat} (hok : ac_Ok E d' ix mc ms (.inr (.inr (.inr (o, c0, n0))) :: a) n n' M K) {H : Heap} {locs : List Loc} {ls : Array Slot} {rest : List Value} (hP : ac_H E n M H) (hS : va_S (fun q => E.1 ≤ q) s.heap H locs) (hsl : ls.size = nL) (hroom : (rest.map fun v => v.category).sum ≤ 8) (hcells : cells + mc ≤ R.cells) (hslots : slots + ms ≤ R.slots)
    (k : ∀ (M' : ab_M) (H1 : Heap) (locs1 : List Loc), K M' → ac_H E n' M' H1 → va_S (fun q => E.1 ≤ q) s.heap H1 locs1 → W p l e R s m args below meth c H1 locs1 (cells + mc) (slots + ms) Q (F0 m (pc + 3) ls rest)) : W p l e R s m args below meth c H locs cells slots Q (F0 m pc ls ((a.map (ab_cv E.1)).reverse ++ .ref (E.1 + o) :: rest)) := by
  obtain ⟨hx, hb, hml, hown, hts, hK, hlk, hsz⟩ := id hC
  obtain ⟨g1, g2, g3, g4, g5, g6⟩ := ab_rg hq
  have hS0 : CallFix p m c cc nL s args ab_tn (ab_cn own) := ⟨hx, hb, hml, hown, hts⟩
  have hgi : GoodIn ab_tn (ab_ws q) := ab_goodIn (fun w h => ab_tn_tt h) g1
  have hw : ab_ws q = Cond.code q.1 q.2.1 q.2.2.1 none :: ab_tt := by unfold ab_ws; rw [hy.2]
  have hrm : (ac_rm d' mc ms).frames + 1 ≤ R.frames ∧ 8 + (q.2.2.1 + 11) + (ac_rm d' mc ms).locals ≤ R.locals := by
    show d' + 1 ≤ R.frames ∧ 8 + (q.2.2.1 + 11) + 64 * d' ≤ R.locals
    omega
  refine va_callv (va_runIN (As := a.map (ab_cv E.1)) (rest := rest) hS0 (hok q hq l) ⟨va_cnB a.length hts hgi hw rfl rfl (hN.1 _ hlink rfl) (hts _ (ab_tn_tt g2)) ⟨g3.1, g3.2, hpar⟩ hrm, hy.1, hts _ hin⟩ ⟨ac_Pre_blind E _ n M, fun U hU hW => ac_preU hC hN hP U hU hW⟩ rfl (by simp) hsl rfl (lv_room hroom) hdg ⟨hcells, hslots⟩) hS (fun q _ h => h) (fun q h => h) (fun u t H1 locs1 ht hvm hpost hB hz1 hk1 hS1 => ?_)
  exact k u H1 locs1 hpost (by rw [← ht]; exact hB) hS1
/-- a reference is put into an array of texts, of statements -/
theorem ac_astq (hC : ab_Cx p s m args meth c E cc own nL) {o o' i : Nat} (h26 : (ab_kd o = 26 ∧ ab_kd o' = 6) ∨ (ab_kd o = 25 ∧ ab_kd o' = 4)) (ho : o < n) (ho' : o' < n) (hn : n ≤ ab_n) (hi : i < ab_ln o) (hdg : decode cc pc = .ok (.aastore, 1)) {H : Heap} {locs : List Loc} {ls : Array Slot} {rest : List Value} (hP : va_P E.2.1 ab_cl (ab_W E n M) H) (hS : va_S (fun q => E.1 ≤ q) s.heap H locs)
    (k : ∀ (H1 : Heap) (locs1 : List Loc), va_P E.2.1 ab_cl (ab_W E n (ab_up M o i (o' : Int))) H1 → va_S (fun q => E.1 ≤ q) s.heap H1 locs1 → W p l e R s m args below meth c H1 locs1 cells slots Q (F0 m (pc + 1) ls rest)) : W p l e R s m args below meth c H locs cells slots Q (F0 m pc ls (.ref (E.1 + o') :: .int (Int32.ofInt (i : Int)) :: .ref (E.1 + o) :: rest)) := by
  obtain ⟨hx, hb, hml, hown, hts, hK, hlk, hsz⟩ := hC
  have hln : ab_ln o < 2 ^ 31 := ab_ln_small (by omega)
  have hidx : 0 ≤ (i : Int) ∧ (i : Int) < ((ab_ln o : Nat) : Int) := by omega
  rcases h26 with ⟨k1, k2⟩ | ⟨k1, k2⟩
  · have he : (ab_W E n M)[o]? = some (E.1 + o, .inl (E.2.2 26, ab_ln o, .inr (.inr (.inr (.inr fun j => ab_rf E.1 (M o j)))))) := by rw [ab_W_get E M ho, ab_ent_q E M k1 (by omega)]
    have he' : (ab_W E n M)[o']? = some (E.1 + o', .inr (6, (List.range (ab_nf 6)).map fun k => ab_fv E.1 (ab_ft 6 k).1 (M o' k))) := by rw [ab_W_get E M ho', ab_ent_c E M k2 (by omega)]
    refine va_astq (r := (RX6, TX6, 2)) hx hb hK hP (ab_D E n M) hS o 6 o' 6 he rfl he' rfl (ab_in hidx hln) hdg (fun H1 locs1 a1 a2 a3 => ?_)
    rw [ab_cl0 hidx hln, Int.toNat_natCast, ab_upd_q, ab_W_set E (M' := ab_up M o i (o' : Int)) ho (by rw [ab_ent_q E _ k1 (by omega)]) (fun o' h j => (ab_up_o h j).symm)] at a1
    exact k H1 locs1 a1 a3
  · have he : (ab_W E n M)[o]? = some (E.1 + o, .inl (E.2.2 25, ab_ln o, .inr (.inr (.inr (.inr fun j => ab_rf E.1 (M o j)))))) := by rw [ab_W_get E M ho, ab_ent_q E M k1 (by omega)]
    have he' : (ab_W E n M)[o']? = some (E.1 + o', .inr (4, (List.range (ab_nf 4)).map fun k => ab_fv E.1 (ab_ft 4 k).1 (M o' k))) := by rw [ab_W_get E M ho', ab_ent_c E M k2 (by omega)]
    refine va_astq (r := (RX4, TX4, 19)) hx hb hK hP (ab_D E n M) hS o 5 o' 4 he rfl he' rfl (ab_in hidx hln) hdg (fun H1 locs1 a1 a2 a3 => ?_)
    rw [ab_cl0 hidx hln, Int.toNat_natCast, ab_upd_q, ab_W_set E (M' := ab_up M o i (o' : Int)) ho (by rw [ab_ent_q E _ k1 (by omega)]) (fun o' h j => (ab_up_o h j).symm)] at a1
    exact k H1 locs1 a1 a3
end AC
