/-! the making: the frame of a constructor, its end -/
theorem ac_mk {E : ab_E} {d i mc ms n n' : Nat} {a : List ab_V} {M : ab_M} {K : ab_M → Prop} {q : ab_R} (hq : ab_reg[i]? = some q) (hi : q.1.name = "<init>") (hrt : q.2.2.2.1 = none) (hlen : (ab_ex a).length ≤ q.2.2.1)
    (body : ∀ (p : Program) (l : Launch) (e : Env) (s : State) (m : MethodId) (below : List Frame) (meth : Method) (c : Code) (ls : Array Slot), ab_Cx p s m (a.map (ab_cv E.1)).toArray meth c E q.2.1 q.2.2.2.2.1 q.2.2.1 → ac_NK s → meth.name = "<init>" → meth.sig.returnType = none → ac_H E n M s.heap → lv_has ls q.2.2.1 (lv_args 0 (a.map (ab_cv E.1))) →
      W p l e (ac_rm d mc ms) s m (a.map (ab_cv E.1)).toArray below meth c s.heap [] 0 0 (MQ below (va_Qv K (fun M' t => ac_H E n' M' t.heap) (fun q => E.1 ≤ q)) (a.map (ab_cv E.1)).toArray s mc ms (fun q => E.1 ≤ q)) (F0 m 0 ls [])) : ac_Ok E d i mc ms a n n' M K := by
  intro q' hq' l
  have hqq : q' = q := Option.some.inj (hq'.symm.trans hq)
  subst hqq
  obtain ⟨g1, g2, g3, g4, g5, g6⟩ := ab_rg hq
  refine Met.ofW (cc := q'.2.1) (maxL := q'.2.2.1) (ret := q'.2.2.2.1) g4 rfl ?_
  intro p e s m args below meth c s₁ B hml hv
  obtain ⟨rfl, hP, hK, hN, hsz⟩ := hv
  have hts0 := atoms_spec (ws := ab_ws q') B.pre
  have hts : ∀ w ∈ ab_tn, w.before (a.map (ab_cv E.1)).toArray s = true := fun w hw => by
    obtain ⟨h1, h2⟩ := List.mem_filter.mp hw
    rw [Bool.or_eq_true] at h2
    rcases h2 with h2 | h2
    · exact hts0 w (List.mem_cons_of_mem _ (ab_ttm h1 h2))
    · have h3 := hN.1 w h1 h2
      exact va_Nw.use (by cases w <;> first | rfl | exact absurd h2 Bool.false_ne_true) h3
  have hC : ab_Cx p s m (a.map (ab_cv E.1)).toArray meth c E q'.2.1 q'.2.2.2.2.1 q'.2.2.1 := ⟨B.exec, B.bytes, hml, by rw [← g5]; exact findClass_of_methodNamed B.named, hts, hK, B.notSynchronized, hsz⟩
  have hin : meth.name = "<init>" := (name_of_methodNamed B.named B.method).1.trans hi
  have hl := lv_entry (a.map (ab_cv E.1)) (n := q'.2.2.1) (by rw [ab_ex_len]; exact hlen)
  rw [lg_entry_eq]
  exact body p l e s m below meth c _ hC hN hin (by rw [B.returns, hrt]) hP hl
section AC
variable {p : Program} {l : Launch} {e : Env} {R : Room} {s : State} {m : MethodId} {args : Array Value} {below : List Frame} {meth : Method} {c : Code} {E : ab_E} {cc : ByteArray} {own nL : Nat}
variable {pc : Nat} {M : ab_M} {n cells slots mc ms : Nat} {K : ab_M → Prop}
/-- a constructor's end -/
theorem ac_ret (hC : ab_Cx p s m args meth c E cc own nL) (hr : meth.sig.returnType = none) (hdg : decode cc pc = .ok (.return_, 1)) {H : Heap} {locs : List Loc} {ls : Array Slot} (hP : ac_H E n M H) (hS : va_S (fun q => E.1 ≤ q) s.heap H locs) (hK : K M) (h1 : cells ≤ mc) (h2 : slots ≤ ms) : W p l e R s m args below meth c H locs cells slots (MQ below (va_Qv K (fun M' t => ac_H E n M' t.heap) (fun q => E.1 ≤ q)) args s mc ms (fun q => E.1 ≤ q)) (F0 m pc ls []) := by
  obtain ⟨hx, hb, hml, hown, hts, -, hlk, hsz⟩ := hC
  refine W.widen (k := mc) (n := ms) h1 h2 ?_
  exact W.vret hx hb hr (fun t ht hW => ⟨⟨M, rfl, hK, by show ac_H E n M t.heap; rw [ht]; exact hP⟩, hS.F ht⟩) hS.2.2 hdg hlk
end AC
