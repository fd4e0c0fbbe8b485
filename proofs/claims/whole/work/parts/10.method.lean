/-! A METHOD out of its computed conditions: at its entry, and at each cut place with a number that falls -/
def ab_ex : List ab_V → List ab_V
  | [] => []
  | .inr (.inr (.inl z)) :: t => .inr (.inr (.inl z)) :: .inl () :: ab_ex t
  | v :: t => v :: ab_ex t
def ab_pad : Nat → List ab_V → List ab_V
  | 0, L => L
  | n + 1, [] => .inl () :: ab_pad n []
  | n + 1, v :: t => v :: ab_pad n t
def ab_l0 (nL : Nat) (a : List ab_V) : List ab_V := ab_pad nL (ab_ex a)
theorem ab_pad_len (n : Nat) (L : List ab_V) (h : L.length ≤ n) : (ab_pad n L).length = n := by
  induction n generalizing L with
  | zero => cases L with
    | nil => rfl
    | cons v t => simp at h
  | succ n ih => cases L with
    | nil => simp [ab_pad, ih]
    | cons v t => simp [ab_pad]; exact ih t (by simpa using h)
theorem ab_pad_ld (n : Nat) (L : List ab_V) (j : Nat) : ab_ld (ab_pad n L) j = ab_ld L j := by
  induction n generalizing L j with
  | zero => rfl
  | succ n ih => cases L with
    | nil => cases j with
      | zero => rfl
      | succ j => show ab_ld (ab_pad n []) j = _; rw [ih]; cases j <;> rfl
    | cons v t => cases j with
      | zero => rfl
      | succ j => exact ih t j
theorem ab_pad_wf (n : Nat) (L : List ab_V) (h : ∀ v ∈ L, ab_wf v) : ∀ v ∈ ab_pad n L, ab_wf v := by
  induction n generalizing L with
  | zero => exact h
  | succ n ih => cases L with
    | nil => exact ab_cons trivial (ih [] (fun v h => by cases h))
    | cons v t => exact ab_cons (ab_head h) (ih t (ab_tail h))
theorem ab_ex_wf (a : List ab_V) (h : ∀ v ∈ a, ab_wf v) : ∀ v ∈ ab_ex a, ab_wf v := by
  induction a with
  | nil => exact fun v h => by cases h
  | cons v t ih =>
    rcases v with u | z | z | r
    · exact ab_cons trivial (ih (ab_tail h))
    · exact ab_cons trivial (ih (ab_tail h))
    · exact ab_cons trivial (ab_cons trivial (ih (ab_tail h)))
    · exact ab_cons (ab_head h) (ih (ab_tail h))
theorem ab_ld_nil (j : Nat) : ab_ld [] j = .inl () := by cases j <;> rfl
theorem ab_ex_mem (S : Nat) (a : List ab_V) (i j : Nat) (hv : ab_ld (ab_ex a) j ≠ .inl ()) : (i + j, ab_cv S (ab_ld (ab_ex a) j)) ∈ lv_args i (a.map (ab_cv S)) := by
  induction a generalizing i j with
  | nil => exact absurd (ab_ld_nil j) hv
  | cons w t ih =>
    rcases w with u | z | z | r
    · cases j with
      | zero => exact absurd rfl hv
      | succ j =>
        have := ih (i + 1) j hv
        exact List.mem_cons_of_mem _ (by rw [show i + (j + 1) = i + 1 + j by omega]; exact this)
    · cases j with
      | zero => exact List.mem_cons_self
      | succ j =>
        have := ih (i + 1) j hv
        exact List.mem_cons_of_mem _ (by rw [show i + (j + 1) = i + 1 + j by omega]; exact this)
    · match j, hv with
      | 0, _ => exact List.mem_cons_self
      | 1, hv => exact absurd rfl hv
      | j + 2, hv =>
        have := ih (i + 2) j hv
        exact List.mem_cons_of_mem _ (by rw [show i + (j + 2) = i + 2 + j by omega]; exact this)
    · cases j with
      | zero => exact List.mem_cons_self
      | succ j =>
        have := ih (i + 1) j hv
        exact List.mem_cons_of_mem _ (by rw [show i + (j + 1) = i + 1 + j by omega]; exact this)
theorem ab_ex_len (S : Nat) (a : List ab_V) : (lg_sl (a.map (ab_cv S))).length = (ab_ex a).length := by
  induction a with
  | nil => rfl
  | cons w t ih =>
    have h1 : lg_sl ((w :: t).map (ab_cv S)) = (if (ab_cv S w).category = 2 then [.val (ab_cv S w), .second] else [.val (ab_cv S w)]) ++ lg_sl (t.map (ab_cv S)) := rfl
    rw [h1, List.length_append, ih]
    rcases w with u | z | z | r <;> simp [ab_cv, ab_ex, Value.category] <;> omega
set_option maxHeartbeats 1000000 in
theorem ab_mk {E : ab_E} {d i : Nat} {Sp : ab_PT} {q : ab_R} (hq : ab_reg[i]? = some q) {tb : List ab_T} (htb : ab_tb q.2.2.2.2.1 q.2.1 tb = true) {rt : Nat} (hrt : ab_rt rt q.2.2.2.1) {cuts : List Nat} {G : List (Nat × ab_PT)} (hG : ab_Oks E d G) (hd : 1 ≤ d) (fu : Nat)
    (h0 : (tb.head?.map fun e => e.1) = some 0)
    (body : ∀ (a : List ab_V) (M : ab_M) (K : List ab_V → ab_M → Prop), ab_wd M → (∀ v ∈ a, ab_wf v) → Sp a M K → (ab_ex a).length ≤ q.2.2.1 ∧ ∃ I : Nat → Nat → ab_K,
      ab_wp rt cuts G tb (fun pc L st M => ∃ n, I pc n L st M) K fu false tb (ab_l0 q.2.2.1 a) [] M ∧
      ∀ (pc n : Nat) (L st : List ab_V) (M : ab_M), I pc n L st M → ab_wd M → (∀ v ∈ L, ab_wf v) → (∀ v ∈ st, ab_wf v) → ab_wp rt cuts G tb (fun pc' L' st' M' => ∃ n', n' < n ∧ I pc' n' L' st' M') K fu false (ab_seek tb pc) L st M) : ab_Ok E d i Sp := by
  intro q' hq' a M K wd wa hSp l
  have hqq : q' = q := Option.some.inj (hq'.symm.trans hq)
  subst hqq
  obtain ⟨g1, g2, g3, g4, g5, g6⟩ := ab_rg hq
  obtain ⟨hlen, I, hent, hcut⟩ := body a M K wd wa hSp
  refine Met.ofW (cc := q'.2.1) (maxL := q'.2.2.1) (ret := q'.2.2.2.1) g4 rfl ?_
  intro p e s m args below meth c s₁ B hml hv
  obtain ⟨rfl, hP, hK, hN, hsz⟩ := hv
  have hts0 := atoms_spec (ws := ab_ws q') B.pre
  have hts : ∀ w ∈ ab_tn, w.before (a.map (ab_cv E.1)).toArray s = true := fun w hw => by
    obtain ⟨h1, h2⟩ := List.mem_filter.mp hw
    rw [Bool.or_eq_true] at h2
    rcases h2 with h2 | h2
    · exact hts0 w (List.mem_cons_of_mem _ (ab_ttm h1 h2))
    · have h3 := hN w h1 h2
      exact va_Nw.use (by cases w <;> first | rfl | exact absurd h2 Bool.false_ne_true) h3
  have hC : ab_Cx p s m (a.map (ab_cv E.1)).toArray meth c E q'.2.1 q'.2.2.2.2.1 q'.2.2.1 := ⟨B.exec, B.bytes, hml, by rw [← g5]; exact findClass_of_methodNamed B.named, hts, hK, B.notSynchronized, hsz⟩
  have hrt' : ab_rt rt meth.sig.returnType := by rw [B.returns]; exact hrt
  have key : ∀ (n pc : Nat) (L st : List ab_V) (M : ab_M), I pc n L st M → ab_Go p l e (ab_rm d) s m (a.map (ab_cv E.1)).toArray below meth c (MQ below (ab_Q E K) (a.map (ab_cv E.1)).toArray s 0 0 (fun q => E.1 ≤ q)) E q'.2.2.1 pc L st M := by
    intro n
    induction n using Nat.strongRecOn with
    | ind n ih =>
      intro pc L st M hI wdM wL wst hLn H locs ls hP hS hl
      have hw := hcut pc n L st M hI wdM wL wst
      have hne : ∃ f t, ab_seek tb pc = f :: t := by
        cases fu with
        | zero => exact hw.elim
        | succ k =>
          cases hs : ab_seek tb pc with
          | nil => rw [hs] at hw; exact hw.elim
          | cons f t => exact ⟨f, t, rfl⟩
      obtain ⟨f, t, hf⟩ := hne
      have hgo := ab_wp_go (R := ab_rm d) (below := below) (e := e) (l := l) (nL := q'.2.2.1) hC hN hG hd rfl hrt' htb (fun pc' L' st' M' h => by
        obtain ⟨n', h1, h2⟩ := h
        exact ih n' h1 pc' L' st' M' h2) fu false _ L st M (ab_tb_seek htb pc).1 hw f t hf
      rw [(ab_tb_seek htb pc).2 f t hf] at hgo
      exact hgo wdM wL wst hLn H locs ls hP hS hl
  obtain ⟨f, t, hf, hf0⟩ : ∃ f t, tb = f :: t ∧ f.1 = 0 := by
    cases tb with
    | nil => cases h0
    | cons f t => exact ⟨f, t, rfl, by simpa using h0⟩
  have hgo := ab_wp_go (R := ab_rm d) (below := below) (e := e) (l := l) (nL := q'.2.2.1) hC hN hG hd rfl hrt' htb (fun pc' L' st' M' h => by
    obtain ⟨n', h2⟩ := h
    exact key n' pc' L' st' M' h2) fu false _ _ _ _ htb hent f t hf
  rw [hf0] at hgo
  have hl := lv_entry (a.map (ab_cv E.1)) (n := q'.2.2.1) (by rw [ab_ex_len]; exact hlen)
  rw [lg_entry_eq]
  refine hgo wd (ab_pad_wf _ _ (ab_ex_wf a wa)) (fun v h => by cases h) (ab_pad_len _ _ hlen) s.heap [] _ hP va_S.rf ⟨hl.1, hl.2.1, fun q hq => ?_⟩
  obtain ⟨h1, h2, h3⟩ := ab_lv_mem.mp hq
  unfold ab_l0 at h2 h3
  rw [ab_pad_ld] at h2 h3
  have h4 := ab_ex_mem E.1 a 0 q.1 h2
  rw [← h3, Nat.zero_add] at h4
  exact hl.2.2 q h4
