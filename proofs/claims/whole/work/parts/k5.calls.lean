/-! the making: calls of methods, in a world of the first cells; the law's calls -/
theorem ac_mk2 {E : ab_E} {d i mc ms n n' : Nat} {a : List ab_V} {M : ab_M} {K : ab_M → Prop} {q : ab_R} (hq : ab_reg[i]? = some q) (hrt : q.2.2.2.1 = none) (hlen : (ab_ex a).length ≤ q.2.2.1)
    (body : ∀ (p : Program) (l : Launch) (e : Env) (s : State) (m : MethodId) (below : List Frame) (meth : Method) (c : Code) (ls : Array Slot), ab_Cx p s m (a.map (ab_cv E.1)).toArray meth c E q.2.1 q.2.2.2.2.1 q.2.2.1 → ac_NK s → meth.sig.returnType = none → ac_H E n M s.heap → lv_has ls q.2.2.1 (lv_args 0 (a.map (ab_cv E.1))) →
      W p l e (ac_rm d mc ms) s m (a.map (ab_cv E.1)).toArray below meth c s.heap [] 0 0 (MQ below (va_Qv K (fun M' t => ac_H E n' M' t.heap) (fun q => E.1 ≤ q)) (a.map (ab_cv E.1)).toArray s mc ms (fun q => E.1 ≤ q)) (F0 m 0 ls [])) : ac_Ok E d i mc ms a n n' M K := by
  intro q' hq' l
  have hqq : q' = q := Option.some.inj (hq'.symm.trans hq)
  subst hqq
  obtain ⟨g1, g2, g3, g4, g5, g6⟩ := ab_rg hq
  refine Met.ofW (cc := q'.2.1) (maxL := q'.2.2.1) (ret := q'.2.2.2.1) g4 rfl ?_
  intro p e s m args below meth c s₁ B hml hv
  obtain ⟨rfl, hP, hK, hN, hsz⟩ := hv
  have hts0 := atoms_spec (ws := ab_ws q') B.pre
  have hts : ∀ w ∈ ab_tn, w.before (a.map (ab_cv E.1)).toArray s = true := fun w hw => by
    obtain ⟨h1, h2⟩ := List.mem_filter.mp hw
    rw [Bool.or_eq_true] at h2
    rcases h2 with h2 | h2
    · exact hts0 w (List.mem_cons_of_mem _ (ab_ttm h1 h2))
    · have h3 := hN.1 w h1 h2
      exact va_Nw.use (by cases w <;> first | rfl | exact absurd h2 Bool.false_ne_true) h3
  have hC : ab_Cx p s m (a.map (ab_cv E.1)).toArray meth c E q'.2.1 q'.2.2.2.2.1 q'.2.2.1 := ⟨B.exec, B.bytes, hml, by rw [← g5]; exact findClass_of_methodNamed B.named, hts, hK, B.notSynchronized, hsz⟩
  have hl := lv_entry (a.map (ab_cv E.1)) (n := q'.2.2.1) (by rw [ab_ex_len]; exact hlen)
  rw [lg_entry_eq]
  exact body p l e s m below meth c _ hC hN (by rw [B.returns, hrt]) hP hl
theorem ac_cln {ci : Nat} (h : ci ≤ 12) : ∃ vc : vw_C, ab_cl[ci]? = some vc ∧ vc.1 = ab_cn ci := by
  match ci, h with
  | 0, _ => exact ⟨_, rfl, rfl⟩
  | 1, _ => exact ⟨_, rfl, rfl⟩
  | 2, _ => exact ⟨_, rfl, rfl⟩
  | 3, _ => exact ⟨_, rfl, rfl⟩
  | 4, _ => exact ⟨_, rfl, rfl⟩
  | 5, _ => exact ⟨_, rfl, rfl⟩
  | 6, _ => exact ⟨_, rfl, rfl⟩
  | 7, _ => exact ⟨_, rfl, rfl⟩
  | 8, _ => exact ⟨_, rfl, rfl⟩
  | 9, _ => exact ⟨_, rfl, rfl⟩
  | 10, _ => exact ⟨_, rfl, rfl⟩
  | 11, _ => exact ⟨_, rfl, rfl⟩
  | 12, _ => exact ⟨_, rfl, rfl⟩
section AC
variable {p : Program} {l : Launch} {e : Env} {R : Room} {s : State} {m : MethodId} {args : Array Value} {below : List Frame} {meth : Method} {c : Code} {Q : State → Prop} {E : ab_E} {cc : ByteArray} {own nL : Nat}
variable {pc : Nat} {M : ab_M} {n cells slots : Nat}
theorem ac_wsV {i : Nat} {q : ab_R} {nm : String} (g1 : Cond.code q.1 q.2.1 q.2.2.1 q.2.2.2.1 ∈ ab_tt) (g2 : Cond.initialized q.1.cls ∈ ab_tt) (g7 : Cond.instanceMethod q.1 ∈ ab_tt) (g8 : Cond.selects q.1.cls q.1 q.1 ∈ ab_tt) (hl0 : Cond.methodLink nm i q.1 ∈ ab_tn) : GoodIn ab_tn (wsV nm i q.1.cls q.1 (ab_ws q)) := fun w h => by
  unfold wsV at h
  rcases List.mem_append.mp h with h | h
  · simp only [List.mem_cons, List.not_mem_nil, or_false] at h
    rcases h with rfl | rfl | rfl | rfl
    · exact ⟨hl0, Or.inl rfl⟩
    · exact ⟨ab_tn_tt g7, Or.inl rfl⟩
    · exact ⟨ab_tn_tt g8, Or.inl rfl⟩
    · exact ⟨ab_tn_tt g2, Or.inl rfl⟩
  · exact ab_goodIn (fun w h => ab_tn_tt h) g1 w h
/-- a method without an answer is called in a world of the first cells -/
theorem ac_virt (hC : ab_Cx p s m args meth c E cc own nL) (hN : ac_NK s) {d d' : Nat} (hR : R.frames = d ∧ R.locals = 64 * d) (hd : d' + 1 ≤ d) {i ix ci mc ms n' : Nat} {q : ab_R} (hq : ab_reg[ix]? = some q) (hk0 : q.2.2.2.2.2.2 = 0) (hcls : q.2.2.2.2.1 = ci) (hrt : q.2.2.2.1 = none) (hdg : decode cc pc = .ok (.invokevirtual i, 3)) (hlink : Cond.methodLink (ab_cn own) i q.1 ∈ ab_tn) {o n0 : Nat} (ho : o < n) (hkd : ab_kd o = ci) {a : List ab_V} (hpar : (parseMethodDescriptor q.1.desc).map (fun d => d.parameters.length) = some a.length) {K : ab_M → Prop} (hok : ac_Ok E d' ix mc ms (.inr (.inr (.inr (o, ci, n0))) :: a) n n' M K) {H : Heap} {locs : List Loc} {ls : Array Slot} {rest : List Value} (hP : ac_H E n M H) (hS : va_S (fun q => E.1 ≤ q) s.heap H locs) (hsl : ls.size = nL) (hroom : (rest.map fun v => v.category).sum ≤ 8) (hcells : cells + mc ≤ R.cells) (hslots : slots + ms ≤ R.slots)
    (k : ∀ (M' : ab_M) (H1 : Heap) (locs1 : List Loc), K M' → ac_H E n' M' H1 → va_S (fun q => E.1 ≤ q) s.heap H1 locs1 → W p l e R s m args below meth c H1 locs1 (cells + mc) (slots + ms) Q (F0 m (pc + 3) ls rest)) : W p l e R s m args below meth c H locs cells slots Q (F0 m pc ls ((a.map (ab_cv E.1)).reverse ++ .ref (E.1 + o) :: rest)) := by
  obtain ⟨hx, hb, hml, hown, hts, hK, hlk, hsz⟩ := id hC
  obtain ⟨g1, g2, g3, g4, g5, g6⟩ := ab_rg hq
  obtain ⟨g7, g8, g9⟩ := ab_rg0 hq hk0
  have hS0 : CallFix p m c cc nL s args ab_tn (ab_cn own) := ⟨hx, hb, hml, hown, hts⟩
  obtain ⟨vc, hvc, hvn⟩ := ac_cln (ci := ci) (by omega)
  have hrecv := va_recv (s := s) hK hP.1 hvc (q0 := o) (a := E.1 + o) (by rw [ab_W_get E M ho, ab_ent_c E M hkd (by omega)])
  rw [show vc.1 = q.1.cls by rw [hvn, g5, hcls]] at hrecv
  have hrm : (ac_rm d' mc ms).frames + 1 ≤ R.frames ∧ 8 + (q.2.2.1 + 11) + (ac_rm d' mc ms).locals ≤ R.locals := by
    show d' + 1 ≤ R.frames ∧ 8 + (q.2.2.1 + 11) + 64 * d' ≤ R.locals
    omega
  refine va_callv (va_runV (As := a.map (ab_cv E.1)) (rest := rest) hS0 (hok q hq l) (cwV a.length hts (ac_wsV g1 g2 g7 g8 hlink) rfl rfl rfl ⟨rfl, g3.1, g3.2, hpar⟩ hrm) ⟨ac_Pre_blind E _ n M, hrecv, fun U hU hW => ac_preU hC hN hP U hU hW⟩ rfl (by simp) hsl rfl (lv_room hroom) hdg ⟨hcells, hslots⟩) hS (fun q _ h => h) (fun q h => h) (fun u t H1 locs1 ht hvm hpost hB hz1 hk1 hS1 => ?_)
  exact k u H1 locs1 hpost (by rw [← ht]; exact hB) hS1
/-- a method of the whole world is called, whatever else the caller holds -/
theorem al_call (hC : ab_Cx p s m args meth c E cc own nL) (hN : ab_NK s) {d' : Nat} (hRf : d' + 1 ≤ R.frames) (hRl : 64 * d' + 64 ≤ R.locals) {i ix ci : Nat} {q : ab_R} (hq : ab_reg[ix]? = some q) (hk0 : q.2.2.2.2.2.2 = 0) (hcls : q.2.2.2.2.1 = ci) (hdg : decode cc pc = .ok (.invokevirtual i, 3)) (hlink : Cond.methodLink (ab_cn own) i q.1 ∈ ab_tn) {o n1 : Nat} {as : List ab_V} (hpar : (parseMethodDescriptor q.1.desc).map (fun d => d.parameters.length) = some as.length) {Sp : ab_PT} (hok : ab_Ok E d' ix Sp) {K : List ab_V → ab_M → Prop} (wd : ab_wd M) (wa : ∀ v ∈ ((.inr (.inr (.inr (o, ci, n1))) : ab_V) :: as), ab_wf v) (hSp : Sp (.inr (.inr (.inr (o, ci, n1))) :: as) M K) {H : Heap} {locs : List Loc} {ls : Array Slot} {rest : List Value} (hP : va_P E.2.1 ab_cl (ab_W E ab_n M) H) (hS : va_S (fun q => E.1 ≤ q) s.heap H locs) (hsl : ls.size = nL) (hroom : (rest.map fun v => v.category).sum ≤ 8) (hcells : cells ≤ R.cells) (hslots : slots ≤ R.slots)
    (k : ∀ (rv : List ab_V) (M' : ab_M) (H1 : Heap) (locs1 : List Loc), K rv M' → ab_wd M' → va_P E.2.1 ab_cl (ab_W E ab_n M') H1 → va_S (fun q => E.1 ≤ q) s.heap H1 locs1 → W p l e R s m args below meth c H1 locs1 cells slots Q (F0 m (pc + 3) ls (rv.map (ab_cv E.1) ++ rest))) : W p l e R s m args below meth c H locs cells slots Q (F0 m pc ls ((as.map (ab_cv E.1)).reverse ++ .ref (E.1 + o) :: rest)) := by
  obtain ⟨hx, hb, hml, hown, hts, hK, hlk, hsz⟩ := id hC
  obtain ⟨g1, g2, g3, g4, g5, g6⟩ := ab_rg hq
  obtain ⟨g7, g8, g9⟩ := ab_rg0 hq hk0
  have hmet := hok q hq _ M _ wd wa hSp l
  obtain ⟨ho, hkd, hln⟩ := wa _ List.mem_cons_self
  have hS0 : CallFix p m c cc nL s args ab_tn (ab_cn own) := ⟨hx, hb, hml, hown, hts⟩
  obtain ⟨vc, hvc, hvn⟩ := ac_cln (ci := ci) (by omega)
  have hrecv := va_recv (s := s) hK hP hvc (q0 := o) (a := E.1 + o) (by rw [ab_W_get E M ho, ab_ent_c E M hkd (by omega)])
  rw [show vc.1 = q.1.cls by rw [hvn, g5, hcls]] at hrecv
  have hrm : (ab_rm d').frames + 1 ≤ R.frames ∧ 8 + (q.2.2.1 + 11) + (ab_rm d').locals ≤ R.locals := by
    show d' + 1 ≤ R.frames ∧ 8 + (q.2.2.1 + 11) + 64 * d' ≤ R.locals
    omega
  have hpre : PreV s H q.1.cls (E.1 + o) (ab_Pre E (.inr (.inr (.inr (o, ci, n1))) :: as) M) (as.map (ab_cv E.1)) := ⟨ab_Pre_blind E _ M, hrecv, ab_preU hC hN hP hS⟩
  have hrun := va_runV (e := e) (below := below) (meth := meth) (As := as.map (ab_cv E.1)) (rest := rest) (g := F0 m pc ls ((as.map (ab_cv E.1)).reverse ++ .ref (E.1 + o) :: rest)) (H := H) (locs := locs) (cells := cells) (slots := slots) hS0 hmet (cwV as.length hts (ac_wsV g1 g2 g7 g8 hlink) rfl rfl rfl ⟨rfl, g3.1, g3.2, hpar⟩ hrm) hpre rfl (by simp) hsl rfl (lv_room hroom) hdg ⟨hcells, hslots⟩
  intro T hT X
  obtain ⟨v, st₀, t, T', L', h0, X', hL, e1, e2, ⟨⟨rv, M', hK', wd', wf', hlen, hv, hP'⟩, hz, hkk⟩, stp⟩ := hrun T hT X
  rw [h0] at hz hkk
  have hv : v = rv.head?.map (ab_cv E.1) := by injection hv
  have hstk : v.toList ++ rest = rv.map (ab_cv E.1) ++ rest := by
    rw [hv]
    match rv, hlen with
    | [], _ => rfl
    | [w], _ => rfl
  have hS1 : va_S (fun q => E.1 ≤ q) s.heap T'.heap (locs ++ L') := ⟨Nat.le_trans hS.1 (by rw [e1]; exact hz), fun q h1 h2 => by rw [e1, hkk q (Nat.lt_of_lt_of_le h1 hS.1) h2]; exact hS.2.1 q h1 h2, fun q hq => by
    rcases List.mem_append.mp hq with h | h
    · exact hS.2.2 q h
    · exact hL q h⟩
  obtain ⟨t2, a1, b1⟩ := k rv M' T'.heap (locs ++ L') hK' wd' (by rw [e1]; exact hP') hS1 T' rfl X'
  refine ⟨t2, stp t2 ?_, b1⟩
  rw [← hstk] at a1
  exact a1
end AC
