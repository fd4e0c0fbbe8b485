/-! the law's entry: the classes' numbers, the first world -/
theorem al_ins : (List.range 13).all (fun ci => match ab_cl[ci]? with
  | some q => lw_tbl.any (fun w => match w with
    | .instantiable C _ => decide (C = q.1)
    | _ => false)
  | none => false) = true := by decide +kernel
theorem al_cl {s : State} {args : Array Value} (hts : ∀ w ∈ lw_tbl, w.before args s = true) (ci : Nat) : ∃ y : ClassId × (Nat → Nat), ∀ q : vw_C, ab_cl[ci]? = some q → u_Kn s q.1 q.2.1 q.2.2 y.1 y.2 := by
  by_cases hci : ci < 13
  · have h := List.all_eq_true.mp al_ins ci (List.mem_range.mpr hci)
    cases hq : ab_cl[ci]? with
    | none => rw [hq] at h; cases h
    | some q =>
      rw [hq] at h
      obtain ⟨w, hw, h2⟩ := List.any_eq_true.mp h
      cases w with
      | instantiable C n =>
        have hc : C = q.1 := of_decide_eq_true h2
        subst hc
        obtain ⟨cC, iS, hK⟩ := u_known (ws := ab_tn) (C := q.1) (T := q.2.1) (N := q.2.2) (n := n) (fun w hw => hts w (List.mem_filter.mp hw).1) (ab_clok _ _ hq).1 (hts _ hw)
        exact ⟨(cC, iS), fun q' hq' => by cases hq'; exact hK⟩
      | _ => cases h2
  · exact ⟨(0, fun _ => 0), fun q hq => absurd (List.getElem?_eq_some_iff.mp hq).1 hci⟩
def al_tys : List FieldType := [.int, .long, .byte, .boolean, .char, .object RX4, .object RX6]
theorem al_ar {s : State} {args : Array Value} (hts : ∀ w ∈ lw_tbl, w.before args s = true) (k : Nat) : ∃ cA : ClassId, ∀ ty : FieldType, al_tys[k]? = some ty → ArrOfT s cA ty ∧ va_RA s cA ty := by
  have hp : ∀ ty : FieldType, Cond.arrayClass ty ∈ lw_tbl → (∀ C, ty ≠ .object C) → ∃ cA : ClassId, ArrOfT s cA ty ∧ va_RA s cA ty := fun ty hw hne => by
    obtain ⟨cA, kA, comp, h1, h2, h3⟩ := Cond.arrayClass_spec (hts _ hw)
    refine ⟨cA, fun n z => ⟨fun k h => (by cases h), kA, h2, comp, h3⟩, ?_⟩
    cases ty with
    | object C => exact absurd rfl (hne C)
    | _ => exact h1
  have ho : ∀ C : String, Cond.arrayOver (.object C) ∈ lw_tbl → ∃ cA : ClassId, ArrOfT s cA (.object C) ∧ va_RA s cA (.object C) := fun C hw => by
    obtain ⟨comp, cA, kA, h1, -, h2, h3, h4⟩ := Cond.arrayOver_spec (hts _ hw)
    exact ⟨cA, fun n z => ⟨fun k h => (by cases h), kA, h2, comp, h3⟩, kA, comp, h2, h3, h1, h4⟩
  match k with
  | 0 =>
    obtain ⟨cA, h⟩ := hp .int (List.mem_of_getElem? (i := 264) rfl) (fun C h => by cases h)
    exact ⟨cA, fun ty e => by cases e; exact h⟩
  | 1 =>
    obtain ⟨cA, h⟩ := hp .long (List.mem_of_getElem? (i := 447) rfl) (fun C h => by cases h)
    exact ⟨cA, fun ty e => by cases e; exact h⟩
  | 2 =>
    obtain ⟨cA, h⟩ := hp .byte (List.mem_of_getElem? (i := 384) rfl) (fun C h => by cases h)
    exact ⟨cA, fun ty e => by cases e; exact h⟩
  | 3 =>
    obtain ⟨cA, h⟩ := hp .boolean (List.mem_of_getElem? (i := 263) rfl) (fun C h => by cases h)
    exact ⟨cA, fun ty e => by cases e; exact h⟩
  | 4 =>
    obtain ⟨cA, h⟩ := hp .char (List.mem_of_getElem? (i := 138) rfl) (fun C h => by cases h)
    exact ⟨cA, fun ty e => by cases e; exact h⟩
  | 5 =>
    obtain ⟨cA, h⟩ := ho RX4 (List.mem_of_getElem? (i := 147) rfl)
    exact ⟨cA, fun ty e => by cases e; exact h⟩
  | 6 =>
    obtain ⟨cA, h⟩ := ho RX6 (List.mem_of_getElem? (i := 139) rfl)
    exact ⟨cA, fun ty e => by cases e; exact h⟩
  | k + 7 => exact ⟨0, fun ty e => by cases e⟩
theorem al_K {s : State} {args : Array Value} (hts : ∀ w ∈ lw_tbl, w.before args s = true) : ∃ (D : va_G) (cy : Nat → ClassId), va_K D ab_cl (ab_tys cy) s := by
  obtain ⟨f, hf⟩ := Classical.axiomOfChoice (al_cl hts)
  obtain ⟨g, hg⟩ := Classical.axiomOfChoice (al_ar hts)
  refine ⟨(fun c => (f c).1, fun c => (f c).2), fun c => g (c - 20), fun c q hq => hf c q hq, fun k q hq => ?_⟩
  match k, hq with
  | 0, hq => cases hq; exact hg 0 _ rfl
  | 1, hq => cases hq; exact hg 1 _ rfl
  | 2, hq => cases hq; exact hg 2 _ rfl
  | 3, hq => cases hq; exact hg 3 _ rfl
  | 4, hq => cases hq; exact hg 4 _ rfl
  | 5, hq => cases hq; exact hg 5 _ rfl
  | 6, hq => cases hq; exact hg 6 _ rfl
  | k + 7, hq => cases hq
theorem al_NK {s : State} {args : Array Value} (hts : ∀ w ∈ lw_tbl, w.before args s = true) : ab_NK s := fun w hw hn => va_Nw.of (by cases w <;> first | rfl | exact absurd hn Bool.false_ne_true) (hts w hw)
theorem al_NK2 {s : State} {args : Array Value} (hts : ∀ w ∈ lw_tbl, w.before args s = true) : ac_NK s := ⟨al_NK hts, va_AO.of (hts _ (List.mem_of_getElem? (i := 147) rfl)), va_AO.of (hts _ (List.mem_of_getElem? (i := 139) rfl))⟩
section AC
variable {p : Program} {l : Launch} {e : Env} {R : Room} {s : State} {m : MethodId} {args : Array Value} {below : List Frame} {meth : Method} {c : Code} {Q : State → Prop} {E : ab_E} {cc : ByteArray} {own nL : Nat}
variable {pc : Nat} {M : ab_M} {n cells slots : Nat}
/-- a constructor is called, with other room -/
theorem al_init (hC : ab_Cx p s m args meth c E cc own nL) (hN : ac_NK s) {d' : Nat} (hRf : d' + 1 ≤ R.frames) (hRl : 64 * d' + 64 ≤ R.locals) {i ix mc ms n' : Nat} {q : ab_R} (hq : ab_reg[ix]? = some q) (hy : q.1.name = "<init>" ∧ q.2.2.2.1 = none) (hin : Cond.instanceMethod q.1 ∈ ab_tn) (hdg : decode cc pc = .ok (.invokespecial i, 3)) (hlink : Cond.methodLink (ab_cn own) i q.1 ∈ ab_tn) {o : Nat} {a : List ab_V} (hpar : (parseMethodDescriptor q.1.desc).map (fun d => d.parameters.length) = some a.length) {K : ab_M → Prop} {c0 n0 : Nat} (hok : ac_Ok E d' ix mc ms (.inr (.inr (.inr (o, c0, n0))) :: a) n n' M K) {H : Heap} {locs : List Loc} {ls : Array Slot} {rest : List Value} (hP : ac_H E n M H) (hS : va_S (fun q => E.1 ≤ q) s.heap H locs) (hsl : ls.size = nL) (hroom : (rest.map fun v => v.category).sum ≤ 8) (hcells : cells + mc ≤ R.cells) (hslots : slots + ms ≤ R.slots)
    (k : ∀ (M' : ab_M) (H1 : Heap) (locs1 : List Loc), K M' → ac_H E n' M' H1 → va_S (fun q => E.1 ≤ q) s.heap H1 locs1 → W p l e R s m args below meth c H1 locs1 (cells + mc) (slots + ms) Q (F0 m (pc + 3) ls rest)) : W p l e R s m args below meth c H locs cells slots Q (F0 m pc ls ((a.map (ab_cv E.1)).reverse ++ .ref (E.1 + o) :: rest)) := by
  obtain ⟨hx, hb, hml, hown, hts, hK, hlk, hsz⟩ := id hC
  obtain ⟨g1, g2, g3, g4, g5, g6⟩ := ab_rg hq
  have hS0 : CallFix p m c cc nL s args ab_tn (ab_cn own) := ⟨hx, hb, hml, hown, hts⟩
  have hgi : GoodIn ab_tn (ab_ws q) := ab_goodIn (fun w h => ab_tn_tt h) g1
  have hw : ab_ws q = Cond.code q.1 q.2.1 q.2.2.1 none :: ab_tt := by unfold ab_ws; rw [hy.2]
  have hrm : (ac_rm d' mc ms).frames + 1 ≤ R.frames ∧ 8 + (q.2.2.1 + 11) + (ac_rm d' mc ms).locals ≤ R.locals := by
    show d' + 1 ≤ R.frames ∧ 8 + (q.2.2.1 + 11) + 64 * d' ≤ R.locals
    omega
  refine va_callv (va_runI (As := a.map (ab_cv E.1)) (rest := rest) hS0 (hok q hq l) (cwI a.length hts hgi hw rfl rfl (hts _ (ab_tn_tt g2)) (hts _ hlink) (hts _ hin) hy.1 ⟨g3.1, g3.2, hpar⟩ hrm) ⟨ac_Pre_blind E _ n M, fun U hU hW => ac_preU hC hN hP U hU hW⟩ rfl (by simp) hsl rfl (lv_room hroom) hdg ⟨hcells, hslots⟩) hS (fun q _ h => h) (fun q h => h) (fun u t H1 locs1 ht hvm hpost hB hz1 hk1 hS1 => ?_)
  exact k u H1 locs1 hpost (by rw [← ht]; exact hB) hS1
end AC
/-- what is made, in full -/
def al_M (M : ab_M) : ab_M := fun o k => if o < 848 then M o k else 0
theorem al_W (E : ab_E) (M : ab_M) : ab_W E ab_n (al_M M) = ab_W E ab_n M := by
  apply List.ext_getElem?
  intro i
  by_cases hi : i < ab_n
  · rw [ab_W_get E _ hi, ab_W_get E _ hi, ab_ent_ext E (M := al_M M) (M' := M) fun j => if_pos hi]
  · rw [List.getElem?_eq_none (by simp [ab_W]; omega), List.getElem?_eq_none (by simp [ab_W]; omega)]
def al_full (M : ab_M) : Prop := ∀ o, o < 848 → ∀ k, ac_r o k = true → M o k = ac_T o k
theorem al_two {M0 M1 M2 : ab_M} (h1 : ac_KF 0 797 M0 M1) (h2 : ac_KF 797 848 M1 M2) : al_full M2 := fun o ho k hk => by
  by_cases e : o < 797
  · exact (h2.1 o e k).trans (h1.2 o (Nat.zero_le _) e k hk)
  · exact h2.2 o (by omega) ho k hk
theorem al_n0 : (List.range 848).all (fun o => !(decide (o = 2 ∨ o = 4 ∨ o = 6 ∨ (8 ≤ o ∧ o ≤ 19 ∧ o % 2 = 1) ∨ o = 22 ∨ o = 24 ∨ o = 25 ∨ o = 770 ∨ o = 787 ∨ o = 795 ∨ o = 796 ∨ 798 ≤ o)) || decide (20 ≤ ab_kd o ∧ ab_kd o < 25 ∧ ¬ (o = 389 ∨ o = 390 ∨ o = 758 ∨ o = 759))) = true := by decide +kernel
theorem al_r0 {o k : Nat} (h1 : 20 ≤ ab_kd o) (h2 : ab_kd o < 25) (h3 : ¬ (o = 389 ∨ o = 390 ∨ o = 758 ∨ o = 759)) : ac_r o k = true := by
  unfold ac_r ac_rc
  rw [if_neg (by omega), if_neg (by omega)]
  have e : ∀ j, o ≠ j → Nat.beq o j = false := fun j h => by
    cases hb : Nat.beq o j with
    | false => rfl
    | true => exact absurd (Nat.eq_of_beq_eq_true hb) h
  rw [e 389 (by omega), e 390 (by omega), e 758 (by omega), e 759 (by omega)]
  rfl
theorem al_ck {M : ab_M} (h : al_full M) {o k : Nat} {v : Int} (ho : o < 848) (hr : ac_r o k = true) (hv : ac_T o k = v) : al_M M o k = v := by
  unfold al_M
  rw [if_pos ho, h o ho k hr, hv]
theorem al_l6 : ([1, 3, 5, 8, 10, 12, 14, 16, 18, 21, 23] : List Nat).all (fun o => ac_r o 1 && decide (ac_T o 1 = 0)) = true := by decide +kernel
theorem al_h7 : (List.range 6).all (fun k => ac_r 7 k && decide (ac_T 7 k = ((8 + 2 * k : Nat) : Int))) = true := by decide +kernel
theorem al_INV {M : ab_M} (h : al_full M) : INV 0 (al_M M) := by
  refine INV_0 (fun o k ho => ?_) (fun o ho => ?_) (fun k hk => ?_) ⟨?_, ?_⟩ ⟨?_, ?_, ?_, ?_, ?_, ?_⟩ ?_ ⟨?_, ?_, ?_, ?_, ?_, ?_, ?_, ?_, ?_⟩ ⟨?_, ?_⟩ ?_ ?_ ⟨?_, ?_⟩ ⟨?_, ?_, ?_, ?_, ?_, ?_, ?_⟩ ⟨?_, ?_, ?_, ?_, ?_, ?_⟩
  · by_cases e : o < 848
    · have h1 := List.all_eq_true.mp al_n0 o (List.mem_range.mpr e)
      rw [decide_eq_true ho, Bool.not_true, Bool.false_or] at h1
      obtain ⟨h2, h3, h4⟩ := of_decide_eq_true h1
      exact al_ck h e (al_r0 h2 h3 h4) (ac_T0 h2 h3)
    · exact if_neg e
  · have h1 := List.all_eq_true.mp al_l6 o (by simp only [List.mem_cons, List.not_mem_nil, or_false]; omega)
    rw [Bool.and_eq_true, decide_eq_true_eq] at h1
    exact al_ck h (by omega) h1.1 h1.2
  · have h1 := List.all_eq_true.mp al_h7 k (List.mem_range.mpr hk)
    rw [Bool.and_eq_true, decide_eq_true_eq] at h1
    exact al_ck h (by decide) h1.1 h1.2
  all_goals exact al_ck h (by decide) (by decide +kernel) (by decide +kernel)
theorem al_ftn {c k : Nat} (h : (ab_ft c k).1 ≠ 9) : c < 20 ∧ k < ab_nf c := by
  unfold ab_ft at h
  unfold ab_nf
  by_cases hk : k < (ab_fts.getD c []).length
  · refine ⟨?_, hk⟩
    by_cases hc : c < 20
    · exact hc
    · rw [List.getD_eq_getElem?_getD, List.getElem?_eq_none (by show 13 ≤ c; omega)] at hk
      exact absurd hk (Nat.not_lt_zero _)
  · rw [List.getD_eq_getElem?_getD, List.getElem?_eq_none (by omega)] at h
    exact absurd rfl h
theorem al_wd {M : ab_M} (h : al_full M) : ab_wd (al_M M) := by
  have hr : ∀ o k, ab_kd o < 20 → k < ab_nf (ab_kd o) → ac_r o k = true := fun o k h1 h2 => by
    unfold ac_r ac_rc
    rw [if_pos h1]
    simpa using h2
  refine ⟨fun o k ho hf => ?_, fun o k ho hf => ?_, fun o i ho hk hi => ?_⟩
  · obtain ⟨h1, h2⟩ := al_ftn (c := ab_kd o) (k := k) (by omega)
    refine al_ck h ho (hr o k h1 h2) ?_
    unfold ac_T ac_Tc
    rw [if_pos h1, if_pos hf]
  · obtain ⟨h1, h2⟩ := al_ftn (c := ab_kd o) (k := k) (by omega)
    refine al_ck h ho (hr o k h1 h2) ?_
    unfold ac_T ac_Tc
    rw [if_pos h1, if_neg (by omega), if_pos hf]
  · refine al_ck h ho ?_ ?_
    · unfold ac_r ac_rc
      rw [if_neg (by omega), if_pos (by omega)]
      simpa using hi
    · unfold ac_T ac_Tc
      rw [if_neg (by omega), if_pos hk]
