/-! what the class's graph gives is what comes of the tree -/
theorem cl_sink {M : ab_M} {md G : Int} {O : Nat → Prop} {s : Nat} (hs : s < 256) (hG : G = 120 ∨ G = 121) : cl_Y M md O G s ↔ O (cl_j G s) := by
  have hno : gc_S M md (cl_j G s) = [] := by
    rw [cl_gc (by omega) hs]
    unfold pl_fd
    rw [if_neg (by omega), if_neg (by omega), if_neg (by omega)]
  constructor
  · rintro ⟨n, hn⟩
    cases n with
    | zero => exact hn
    | succ n =>
      rcases hn with y | ⟨q, hq, -⟩
      · exact y
      · rw [hno] at hq; exact absurd hq List.not_mem_nil
  · exact fun y => ⟨0, y⟩
theorem cl_entry {M : ab_M} {t : pz_T} (hw : pz_wf t) (h3 : M 26 3 = ((pz_sz t : Nat) : Int)) (s : Nat) : pr_s M * 256 + s = cl_j (cr_ent t 0 120) s := by
  cases t with
  | leaf =>
    have : pz_sz (.leaf : pz_T) = 0 := rfl
    unfold pr_s cl_j
    rw [h3, this, if_neg (by decide), show cr_ent (.leaf : pz_T) 0 120 = 120 from rfl]
    omega
  | inner a b c d e =>
    cases e with
    | leaf => exact hw.elim
    | inner a' b' c' d' e' =>
      unfold pr_s cl_j
      rw [h3, pz_sz_nd, if_pos (by omega), show cr_ent (.inner a b c d (.inner a' b' c' d' e') : pz_T) 0 120 = 0 from rfl]
      omega
theorem pd_P.iff {M : ab_M} {t : pz_T} {md : Int} {O : Nat → Prop} {Qf : mp_Q} (hmd : md = 0 ∨ md = 1) (h : pd_P M t) (hV : cl_V M t 0) (hO : ∀ row : Int, (0 ≤ row ∧ row < 130) → row ≠ 120 → row ≠ 121 → cl_O M md O Qf row) {s : Nat} (hs : s < 256) : (∃ n, gx_W (gc_S M md) O n (pr_s M * 256 + s)) ↔ mp_t md Qf t 0 (fun x => O (cl_j 120 x)) (fun x => O (cl_j 121 x)) s := by
  obtain ⟨⟨hw, hsz, hnt, hkn, hnl⟩, e3, e6, e8, e11, -⟩ := h.sz
  rw [cl_entry hw e3 s]
  have := cl_tree_iff (M := M) (O := O) (Qf := Qf) hmd hw h.2.1.1 h.K hV ⟨by decide, by decide⟩ ⟨by decide, by decide⟩ (by omega) (by omega) (fun row hr => hO row (by unfold cl_in at hr; omega) (by unfold cl_in at hr; omega) (by unfold cl_in at hr; omega)) hs
  refine this.trans (mp_t_eq (fun _ => Iff.rfl) hw (fun x hx => cl_sink hx (.inl rfl)) (fun x hx => cl_sink hx (.inr rfl)) hs)
theorem cl_j_q {row : Int} (h : 0 ≤ row) {s : Nat} (hs : s < 256) : cl_j row s / 256 = row.toNat ∧ cl_j row s % 256 = s ∧ ((cl_j row s / 256 : Nat) : Int) = row := by
  have := cl_j_d h hs
  exact ⟨by omega, this.2, this.1⟩
theorem pd_P.mask {M : ab_M} {t : pz_T} {md : Int} (hmd : md = 0 ∨ md = 1) (h : pd_P M t) (hts : ts_p M) (hV : cl_V M t 0) {s b : Nat} (hs : s < 256) : (∃ n, gx_W (gc_S M md) (fun j => gc_O M md j b) n (pr_s M * 256 + s)) ↔ mo_P md t s b := by
  have hw := h.1.1.1
  rw [h.iff (Qf := fun c => c = b) hmd hV ?_ hs]
  · refine mp_t_eq (fun _ => Iff.rfl) hw (fun x hx => ?_) (fun x hx => ?_) hs
    · obtain ⟨d1, d2, d3⟩ := cl_j_q (row := 120) (by decide) hx
      have d1 : cl_j 120 x / 256 = 120 := d1
      unfold gc_O
      rw [d1, d2]
      have hf : (pl_fd M ((120 : Nat) : Int) ((x : Nat) : Int) md).1 = -1 := by
        unfold pl_fd
        rw [if_neg (by decide), if_neg (by decide), if_neg (by decide)]
      rw [hf]
      constructor
      · rintro (y | y | y)
        · exact y.2
        · exact absurd y.1 (by decide)
        · omega
      · intro y; exact .inl ⟨rfl, y⟩
    · obtain ⟨d1, d2, d3⟩ := cl_j_q (row := 121) (by decide) hx
      have d1 : cl_j 121 x / 256 = 121 := d1
      unfold gc_O
      rw [d1, d2]
      have hf : (pl_fd M ((121 : Nat) : Int) ((x : Nat) : Int) md).1 = -1 := by
        unfold pl_fd
        rw [if_neg (by decide), if_neg (by decide), if_neg (by decide)]
      rw [hf]
      constructor
      · rintro (y | y | y)
        · exact absurd y.1 (by decide)
        · exact y.2
        · omega
      · intro y; exact .inr (.inl ⟨rfl, y⟩)
  · intro row hr h1 h2 x hx
    obtain ⟨d1, d2, d3⟩ := cl_j_q (row := row) hr.1 hx
    show gc_O M md (cl_j row x) b ↔ ∃ c : Nat, (pl_fd M row ((x : Nat) : Int) md).1 = (c : Int) ∧ c = b
    unfold gc_O
    rw [d1, d2, show ((row.toNat : Nat) : Int) = row by omega]
    constructor
    · rintro (y | y | y)
      · omega
      · omega
      · exact ⟨b, y, rfl⟩
    · rintro ⟨c, c1, rfl⟩
      exact .inr (.inr c1)
theorem pd_P.ends {M : ab_M} {t : pz_T} {md : Int} (hmd : md = 0 ∨ md = 1) (h : pd_P M t) (hV : cl_V M t 0) {s y : Nat} (hs : s < 256) (hy : y < 256) : ((∃ n, gx_W (gc_S M md) (fun i => i = 120 * 256 + y) n (pr_s M * 256 + s)) ↔ me_P md t s y) ∧ ((∃ n, gx_W (gc_S M md) (fun i => i = 121 * 256 + y) n (pr_s M * 256 + s)) ↔ mh_P md t s y) := by
  have hw := h.1.1.1
  refine ⟨?_, ?_⟩
  · rw [h.iff (Qf := fun _ => False) hmd hV ?_ hs]
    · refine mp_t_eq (fun _ => Iff.rfl) hw (fun x hx => ?_) (fun x hx => ?_) hs
      · show cl_j 120 x = 120 * 256 + y ↔ x = y
        unfold cl_j; omega
      · show cl_j 121 x = 120 * 256 + y ↔ False
        refine ⟨fun z => ?_, fun z => z.elim⟩
        unfold cl_j at z; omega
    · intro row hr h1 h2 x hx
      refine ⟨fun z => ?_, fun ⟨_, _, z⟩ => z.elim⟩
      have z : cl_j row x = 120 * 256 + y := z
      unfold cl_j at z; omega
  · rw [h.iff (Qf := fun _ => False) hmd hV ?_ hs]
    · refine mp_t_eq (fun _ => Iff.rfl) hw (fun x hx => ?_) (fun x hx => ?_) hs
      · show cl_j 120 x = 121 * 256 + y ↔ False
        refine ⟨fun z => ?_, fun z => z.elim⟩
        unfold cl_j at z; omega
      · show cl_j 121 x = 121 * 256 + y ↔ x = y
        unfold cl_j; omega
    · intro row hr h1 h2 x hx
      refine ⟨fun z => ?_, fun ⟨_, _, z⟩ => z.elim⟩
      have z : cl_j row x = 121 * 256 + y := z
      unfold cl_j at z; omega
/-- a place that is not within, nor at a block's end -/
def zc_P (n x : Int) (e l : Nat) : Prop := x = 120 ∨ x = 121 ∨ (∃ l' : Nat, l' < l ∧ x = ((122 + l' : Nat) : Int)) ∨ ((e : Int) ≤ x ∧ x < n)
theorem zc_P.wd {n x : Int} {e l e' l' : Nat} (h : zc_P n x e l) (he : e' ≤ e) (hl : l ≤ l') : zc_P n x e' l' := by
  rcases h with h | h | ⟨y, y1, y2⟩ | h
  · exact .inl h
  · exact .inr (.inl h)
  · exact .inr (.inr (.inl ⟨y, by omega, y2⟩))
  · exact .inr (.inr (.inr ⟨by omega, h.2⟩))
theorem lp_Z {f : Nat → Int} {M : ab_M} {n : Int} : ∀ (t : pz_T), pz_wf t → ∀ (l : Nat), l < pz_nl t → ∀ (r0 : Nat) (par side nx : Int) (c l0 k q : Nat) (A C : Int), cr_T f M 26 t r0 par side nx c l0 k q → cr_K M 26 t r0 A C l0 → zc_P n A (r0 + pz_sz t) l0 → zc_P n C (r0 + pz_sz t) l0 → ((r0 + pz_sz t : Nat) : Int) ≤ n →
    ∃ C' : Int, cr_K M 26 (lp_a t l) (r0 + lp_r t l + 1) ((122 + (l0 + l) : Nat) : Int) C' (l0 + l + 1) ∧ zc_P n C' (r0 + lp_r t l + 1 + pz_sz (lp_a t l)) (l0 + l) ∧ M (26 + 1 + 1 + 3 * (r0 + lp_r t l)) 14 = ((r0 + lp_r t l + pz_sz (lp_a t l) : Nat) : Int) := by
  refine lp_ind (C := fun t l => ∀ (r0 : Nat) (par side nx : Int) (c l0 k q : Nat) (A C : Int), cr_T f M 26 t r0 par side nx c l0 k q → cr_K M 26 t r0 A C l0 → zc_P n A (r0 + pz_sz t) l0 → zc_P n C (r0 + pz_sz t) l0 → ((r0 + pz_sz t : Nat) : Int) ≤ n →
    ∃ C' : Int, cr_K M 26 (lp_a t l) (r0 + lp_r t l + 1) ((122 + (l0 + l) : Nat) : Int) C' (l0 + l + 1) ∧ zc_P n C' (r0 + lp_r t l + 1 + pz_sz (lp_a t l)) (l0 + l) ∧ M (26 + 1 + 1 + 3 * (r0 + lp_r t l)) 14 = ((r0 + lp_r t l + pz_sz (lp_a t l) : Nat) : Int)) ?_ ?_ ?_ ?_
  · intro s P v t s' P' v' a b l hw hl ih r0 par side nx c l0 k q A C hT hK hA hC hn
    rw [(lp_t (z := fun _ t => pz_sz t) (u := fun _ t => pz_sz t) (w := fun _ t a => pz_sz t) hl).2.1, show lp_r (.inner s P v t (.inner s' P' v' a b)) l = lp_r t l from (lp_t hl).2.2.2]
    rw [pz_sz_nd] at hA hC hn
    exact ih _ _ _ _ _ _ _ _ _ _ hT.1 hK.1 (.inr (.inr (.inr ⟨Int.le_refl _, by omega⟩))) (hC.wd (by omega) (Nat.le_refl _)) (by omega)
  · intro s P v t s' P' v' a b hw h7 r0 par side nx c l0 k q A C hT hK hA hC hn
    rw [(lp_0 (z := fun _ t => pz_sz t) (u := fun _ t => pz_sz t) (w := fun _ t a => pz_sz t) h7).2.1, show lp_r (.inner s P v t (.inner s' P' v' a b)) (pz_nl t) = pz_sz t from (lp_0 h7).2.2.2]
    obtain ⟨g1, g2, g3, g4⟩ := hT
    obtain ⟨k1, -, k6, k3, k4⟩ := hK
    rw [pz_sz_nd] at hA hC hn
    rw [if_pos h7, if_neg (by omega), if_pos h7] at k3
    refine ⟨C, k3, hC.wd (by omega) (by omega), ?_⟩
    have e := g2.2.1.2.2.2.2
    rw [if_pos (by omega), hw.2.2.2.2.2 h7] at e
    exact e
  · intro s P v t s' P' v' a b l hw h6 hl ih r0 par side nx c l0 k q A C hT hK hA hC hn
    rw [(lp_in (z := fun _ t => pz_sz t) (u := fun _ t => pz_sz t) (w := fun _ t a => pz_sz t) hl).2.1, show lp_r (.inner s P v t (.inner s' P' v' a b)) (pz_nl t + (if P.1 = 7 then 1 else 0) + l) = pz_sz t + 1 + lp_r a l from (lp_in hl).2.2.2]
    obtain ⟨g1, g2, g3, g4⟩ := hT
    obtain ⟨k1, -, k6, k3, k4⟩ := hK
    rw [pz_sz_nd] at hA hC hn
    have hA' : zc_P n (if P.1 = 7 then ((122 + (l0 + pz_nl t) : Nat) : Int) else A) (r0 + pz_sz t + 1 + pz_sz a) (l0 + pz_nl t + (if P.1 = 7 then 1 else 0)) := by
      by_cases h7 : P.1 = 7
      · rw [if_pos h7, if_pos h7]; exact .inr (.inr (.inl ⟨l0 + pz_nl t, by omega, rfl⟩))
      · rw [if_neg h7]; exact hA.wd (by omega) (by omega)
    have hC' : zc_P n (if P.1 = 8 then cr_ent b (r0 + pz_sz t + 1 + pz_sz a) A else C) (r0 + pz_sz t + 1 + pz_sz a) (l0 + pz_nl t + (if P.1 = 7 then 1 else 0)) := by
      by_cases h8 : P.1 = 8
      · rw [if_pos h8]
        cases b with
        | leaf => exact hA.wd (by omega) (by omega)
        | inner x y z u w =>
          cases w with
          | leaf => exact hw.2.2.1.elim
          | inner x' y' z' u' w' =>
            rw [pz_sz_nd x y z u x' y' z' u' w'] at hn
            exact .inr (.inr (.inr ⟨Int.le_refl _, by show ((r0 + pz_sz t + 1 + pz_sz a : Nat) : Int) < n; omega⟩))
      · rw [if_neg h8]; exact hC.wd (by omega) (by omega)
    have := ih _ _ _ _ _ _ _ _ _ _ g3 k3 hA' hC' (by omega)
    simp only [← Nat.add_assoc] at this ⊢
    exact this
  · intro s P v t s' P' v' a b l hw h6 hn7 hl ih r0 par side nx c l0 k q A C hT hK hA hC hn
    rw [(lp_bl (z := fun _ t => pz_sz t) (u := fun _ t => pz_sz t) (w := fun _ t a => pz_sz t)).2.1, show lp_r (.inner s P v t (.inner s' P' v' a b)) (pz_nl t + (if P.1 = 7 then 1 else 0) + pz_nl a + l) = pz_sz t + 1 + pz_sz a + lp_r b l from lp_bl.2.2.2]
    obtain ⟨g1, g2, g3, g4⟩ := hT
    obtain ⟨k1, -, k6, k3, k4⟩ := hK
    rw [pz_sz_nd] at hA hC hn
    have := ih _ _ _ _ _ _ _ _ _ _ g4 k4 (hA.wd (by omega) (by omega)) (hC.wd (by omega) (by omega)) (by omega)
    simp only [← Nat.add_assoc] at this ⊢
    exact this
theorem pd_P.loop {M : ab_M} {t : pz_T} (h : pd_P M t) {l : Nat} (hl : l < pz_nl t) : lp_at M ((l : Nat) : Int) = 26 + 1 + 1 + 3 * lp_r t l ∧ M 392 l = ((lp_r t l : Nat) : Int) ∧ (lp_r t l : Nat) < pz_sz t := by
  obtain ⟨⟨hw, hsz, hnt, hkn, hnl⟩, e3, e6, e8, e11, -⟩ := h.sz
  obtain ⟨⟨w1, w2, -⟩, ⟨w3, -⟩, -⟩ := lp_wf t hw l hl
  obtain ⟨par', side', nx', pv', b1, l1, l2, en', A', C', hS, -⟩ := lp_row t hw l hl _ _ _ _ _ _ _ _ _ _ h.2.1.1 h.K
  have e := hS.2.2.2.1 w2
  rw [Nat.zero_add, Nat.zero_add] at e
  have e : M 392 l = ((lp_r t l : Nat) : Int) := e
  refine ⟨?_, e, w3⟩
  unfold lp_at
  rw [Int.toNat_natCast, e, if_pos (by omega), Int.toNat_natCast]
theorem kk_class {M : ab_M} {t : pz_T} (h : pd_P M t) (h0 : ts_s M 388) (hV : cl_V M t 0) {l : Nat} (hl : l < pz_nl t) : ∀ (i x : Nat), x < 256 → (sh_k M l i x ↔ kk_K t l i x) := by
  obtain ⟨⟨hw, hsz, hnt, hkn, hnl⟩, e3, e6, e8, e11, -⟩ := h.sz
  obtain ⟨a1, a2, a3⟩ := h.loop hl
  obtain ⟨⟨w1, w2, wa⟩, ⟨-, w4, w5, w6, w7, -⟩, -⟩ := lp_wf t hw l hl
  obtain ⟨par', side', nx', pv', b1, l1, l2, en', A', C0, hS, -, hT, -, ⟨h17, -⟩, -, h7b⟩ := lp_row t hw l hl _ _ _ _ _ _ _ _ _ _ h.2.1.1 h.K
  obtain ⟨C', hK, hZ, h14⟩ := lp_Z (n := M 26 3) t hw l hl _ _ _ _ _ _ _ _ _ _ h.2.1.1 h.K (.inl rfl) (.inr (.inl rfl)) (by omega)
  obtain ⟨v1, v2, v3⟩ := lp_V t hw l hl 0 hV
  have hn1 : pz_nt1 (lp_P t l).1 = 1 := by rw [w2]; rfl
  have hn2 : pz_nt2 (lp_P t l).1 = 1 := by rw [w2]; rfl
  obtain ⟨⟨s0, s1, s2, s3, s4, s5⟩, -⟩ := hS
  rw [if_pos hn1] at s2
  rw [if_pos hn2] at s3
  simp only [Nat.zero_add] at s0 s2 s3 s4 s5 h17 hT hK hZ h14 v1 v2 v3 h7b
  unfold sh_k
  rw [a1, s2, s3, h17]
  have hZC : ∀ y : Nat, y < 256 → kp_Z M l (M (26 + 1 + 1 + 3 * lp_r t l) 14) (cl_j C' y) := by
    intro y hy
    have hC0 : 0 ≤ C' := by rcases hZ with z | z | ⟨l', -, z⟩ | z <;> omega
    obtain ⟨d1, -, -⟩ := cl_j_q hC0 hy
    unfold kp_Z
    rw [d1, h14]
    rcases hZ with z | z | ⟨l', z1, z2⟩ | ⟨z1, z2⟩
    · exact .inl (by omega)
    · exact .inr (.inl (by omega))
    · exact .inr (.inr (.inl ⟨l', by omega, by omega, by omega⟩))
    · exact .inr (.inr (.inr ⟨C'.toNat, .inl ⟨d1, by omega⟩, by omega, by omega⟩))
  have hCr : 0 ≤ C' ∧ C' < 130 := by rcases hZ with z | z | ⟨l', z1, z2⟩ | z <;> omega
  intro i
  induction i with
  | zero =>
    intro x hx
    show (¬ tv M _ _ = 0) ↔ ¬ mp_v x _ = 0
    rw [v2 x hx]
  | succ i ih =>
    intro x hx
    show (kp_K M l _ _ _ i x ∧ ¬ (¬ tv M _ _ = 0 ∧ ∃ n, gx_W (gc_S M 1) (kp_t l _) n (cl_j (cr_ent (lp_a t l) (lp_r t l + 1) ((122 + l : Nat) : Int)) x))) ↔ (kk_K t l i x ∧ ¬ (¬ mp_v x _ = 0 ∧ _))
    rw [ih x hx, v1 x hx]
    generalize hKd : kp_K M l (cr_ent (lp_a t l) (lp_r t l + 1) ((122 + l : Nat) : Int)) ((lp_k t l : Nat) : Int) (((lp_k t l : Nat) : Int) + 1) i = K at ih
    have key := cl_tree_iff (M := M) (md := 1) (O := kp_t l K) (Qf := fun _ => False) (.inr rfl) wa hT hK v3 (by omega) hCr (by omega) (by omega) (fun row hr => by
      intro y hy
      refine ⟨fun z => ?_, fun ⟨_, _, z⟩ => z.elim⟩
      have hr0 : 0 ≤ row := by unfold cl_in at hr; omega
      obtain ⟨d1, -, -⟩ := cl_j_q hr0 hy
      have := z.1
      rw [d1] at this
      unfold cl_in at hr
      omega) hx
    rw [mp_t_c (lp_a t l) _ 0] at key
    refine and_congr_right fun _ => not_congr (and_congr_right fun _ => ?_)
    refine key.trans (mp_t_eq (fun _ => Iff.rfl) wa (fun y hy => ?_) (fun y hy => ?_) hx)
    · obtain ⟨d1, d2, -⟩ := cl_j_q (row := ((122 + l : Nat) : Int)) (by omega) hy
      have hO : kp_t l K (cl_j ((122 + l : Nat) : Int) y) ↔ ¬ kk_K t l i y := by
        unfold kp_t
        rw [d1, d2, ih y hy]
        exact ⟨fun z => z.2, fun z => ⟨rfl, z⟩⟩
      rw [← hO]
      have hno : gc_S M 1 (cl_j ((122 + l : Nat) : Int) y) = [] := by
        rw [cl_gc (by omega) hy]
        unfold pl_fd
        rw [if_neg (by omega), if_neg (by omega), if_pos (by omega)]
        unfold pl_back
        rw [if_neg (by decide)]
      constructor
      · rintro ⟨n, hn⟩
        cases n with
        | zero => exact hn
        | succ n =>
          rcases hn with z | ⟨q, hq, -⟩
          · exact z
          · rw [hno] at hq; exact absurd hq List.not_mem_nil
      · exact fun z => ⟨0, z⟩
    · refine ⟨fun ⟨n, hn⟩ => ?_, fun z => z.elim⟩
      exact kp_Z_no h.gL (h.ts h0) (by omega) a2 n _ (hZC y hy) hn
