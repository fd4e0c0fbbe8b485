/-! what comes of the laid code is what comes of the tree -/
/-- what may come of a start: checks that fail, the end (16), a throw (17) -/
def mo_P (md : Int) (t : pz_T) (s b : Nat) : Prop := mp_t md (fun c => c = b) t 0 (fun _ => b = 16) (fun _ => b = 17) s
/-- a start may end so, may throw so -/
def me_P (md : Int) (t : pz_T) (s y : Nat) : Prop := mp_t md (fun _ => False) t 0 (fun x => x = y) (fun _ => False) s
def mh_P (md : Int) (t : pz_T) (s y : Nat) : Prop := mp_t md (fun _ => False) t 0 (fun _ => False) (fun x => x = y) s
theorem gt_sink {M : ab_M} {lo hi p : Int} {O : Nat → Prop} {s : Nat} (hs : s < 256) (hp : -1 ≤ p) (h : ¬ (lo ≤ p ∧ p < hi)) : ck_Y (gt_S M lo hi) O p s ↔ O (ck_j p s) := by
  have hno : gt_S M lo hi (ck_j p s) = [] := by
    unfold gt_S
    rw [if_neg]
    rw [show ((ck_j p s / 256 : Nat) : Int) - 1 = p by unfold ck_j; omega]
    exact h
  constructor
  · rintro ⟨n, hn⟩
    cases n with
    | zero => exact hn
    | succ n =>
      rcases hn with y | ⟨q, hq, -⟩
      · exact y
      · rw [hno] at hq; exact absurd hq List.not_mem_nil
  · exact fun y => ⟨0, y⟩
theorem ld_P.g {M : ab_M} {t : pz_T} {md : Int} {O : Nat → Prop} {Qf : mp_Q} (h : ld_P M t md) (hw : pz_wf t) (hO : ∀ (i s : Nat) (I : co_I), (co_t md t 0 0)[i]? = some I → s < 256 → (O (ck_j ((i : Nat) : Int) s) ↔ I.1 = 2 ∧ mp_v s I.2.2.1 = 0 ∧ ∃ c : Nat, I.2.1 = (c : Int) ∧ Qf c)) : co_g (gt_S M 0 (M 797 33)) O Qf (-1) 0 (co_t md t 0 0) := by
  intro i I hi s hs
  rw [Nat.zero_add]
  have hlt := (List.getElem?_eq_some_iff.1 hi).1
  have := h.1
  exact ⟨hO i s I hi hs, gt_nx (h.row hw hi).1 ⟨by omega, by omega⟩ hs⟩
theorem ld_P.iff {M : ab_M} {t : pz_T} {md : Int} {O : Nat → Prop} {Qf : mp_Q} (hmd : md = 0 ∨ md = 1) (h : ld_P M t md) (hw : pz_wf t) (hO : ∀ (i s : Nat) (I : co_I), (co_t md t 0 0)[i]? = some I → s < 256 → (O (ck_j ((i : Nat) : Int) s) ↔ I.1 = 2 ∧ mp_v s I.2.2.1 = 0 ∧ ∃ c : Nat, I.2.1 = (c : Int) ∧ Qf c)) {s : Nat} (hs : s < 256) : ck_Y (gt_S M 0 (M 797 33)) O 0 s ↔ mp_t md Qf t 0 (fun x => O (ck_j (M 797 33) x)) (fun x => O (ck_j (-1) x)) s := by
  have h1 := ck_tree_iff hmd hw (h.g hw hO) hs
  rw [Nat.zero_add, ← h.1] at h1
  have h2 : ck_Y (gt_S M 0 (M 797 33)) O (((0 : Nat) : Nat) : Int) s ↔ ck_Y (gt_S M 0 (M 797 33)) O 0 s := Iff.rfl
  rw [← h2, h1]
  have h0 := h.1
  exact mp_t_eq (fun _ => Iff.rfl) hw (fun x hx => gt_sink hx (by omega) (by omega)) (fun x hx => gt_sink hx (by omega) (by omega)) hs
/-- the masks that were found -/
def mk_R (M : ab_M) (t : pz_T) (md : Nat) : Prop := ∀ s : Nat, s < 256 → ∀ b : Nat, b < 32 → (pz_b (M 826 (256 * md + s)) b = true ↔ mo_P ((md : Nat) : Int) t s b)
theorem ld_P.masks {M3 M' : ab_M} {t : pz_T} {md : Nat} (hmd : md = 0 ∨ md = 1) (h : ld_P M3 t ((md : Nat) : Int)) (hw : pz_wf t) (hk : pz_kn t ≤ 16) (hD : fm_D M3 M' md) : mk_R M' t md := by
  intro s hs b hb
  have hK := h.K hw hk
  obtain ⟨d1, d2, d3⟩ := hD
  have h33 : M' 797 33 = M3 797 33 := d1 797 33 (by decide) (by omega)
  have h0 := h.1
  have key : mo_P ((md : Nat) : Int) t s b ↔ ck_Y (gt_S M3 0 (M3 797 33)) (gt_O M3 (M3 797 33) b) 0 s := by
    have hm : ((md : Nat) : Int) = 0 ∨ ((md : Nat) : Int) = 1 := by omega
    rw [h.iff (Qf := fun c => c = b) hm hw ?_ hs]
    · refine mp_t_eq (fun _ => Iff.rfl) hw (fun x hx => ?_) (fun x hx => ?_) hs
      · have hd : ck_j (M3 797 33) x / 256 = (M3 797 33 + 1).toNat := by unfold ck_j; omega
        unfold gt_O
        rw [hd]
        constructor
        · intro y; exact .inr (.inl ⟨y, by omega⟩)
        · rintro (⟨-, y, -⟩ | ⟨y, -⟩ | ⟨-, y⟩)
          · omega
          · exact y
          · omega
      · have hd : ck_j (-1) x / 256 = 0 := by unfold ck_j; omega
        unfold gt_O
        rw [hd]
        constructor
        · intro y; exact .inr (.inr ⟨y, rfl⟩)
        · rintro (⟨y, -, -⟩ | ⟨-, y⟩ | ⟨y, -⟩)
          · omega
          · omega
          · exact y
    · intro i x I hi hx
      obtain ⟨⟨r1, r2, r3, -, -, -, r7, -⟩, -⟩ := h.row hw hi
      have hlt := (List.getElem?_eq_some_iff.1 hi).1
      obtain ⟨e1, e2, -⟩ := ck_j_d i hx
      unfold gt_O
      rw [e1, e2, show i + 1 - 1 = i by omega]
      constructor
      · rintro (⟨-, -, y1, y2, y3⟩ | ⟨-, y⟩ | ⟨-, y⟩)
        · have z : I.1 = 2 := by omega
          have hp := pz_ist_pos (r7 (by omega))
          have := r3 (fun e => by rw [e] at hp; exact absurd hp (by decide)) x hx
          exact ⟨z, by omega, b, by omega, rfl⟩
        · omega
        · omega
      · rintro ⟨z, y, c, e, rfl⟩
        have hp := pz_ist_pos (r7 (by omega))
        have := r3 (fun e => by rw [e] at hp; exact absurd hp (by decide)) x hx
        exact .inl ⟨by omega, by omega, by omega, by omega, by omega⟩
  rw [key, d2 s hs]
  unfold cf_v
  rw [h33]
  by_cases z : M3 797 33 = 0
  · rw [if_pos z.symm]
    rw [gt_sink hs (by decide) (by omega)]
    have k1 : ∀ b : Fin 32, pz_b 65536 b.val = decide (b.val = 16) := by decide +kernel
    have k1 := k1 ⟨b, hb⟩
    rw [show pz_b 65536 b = decide (b = 16) from k1]
    obtain ⟨e1, e2, -⟩ := ck_j_d 0 hs
    have e1 : ck_j 0 s / 256 = 0 + 1 := e1
    unfold gt_O
    rw [e1]
    constructor
    · intro y; exact .inr (.inl ⟨of_decide_eq_true y, by omega⟩)
    · rintro (⟨-, y, -⟩ | ⟨y, -⟩ | ⟨-, y⟩)
      · omega
      · exact decide_eq_true y
      · omega
  · rw [if_neg (fun e => z e.symm), if_neg (by decide), show (256 * (0 : Int) + ((s : Nat) : Int)).toNat = s by omega, d3 s b (by omega) hb]
    have hr := fun k => re_gt (b := b) hK k 0 s (by omega) hs
    rw [show 256 * 0 + s = s by omega] at hr
    exact ⟨fun ⟨n, hn⟩ => (hr n).1 hn, fun ⟨n, hn⟩ => (hr n).2 hn⟩
/-- how starts end, throw -/
theorem ld_P.ends {M2 : ab_M} {t : pz_T} {md : Int} (hmd : md = 0 ∨ md = 1) (h : ld_P M2 t md) (hw : pz_wf t) {s y : Nat} (hs : s < 256) (hy : y < 256) : (gt_r M2 0 (M2 797 33) ((s : Nat) : Int) (M2 797 33, ((y : Nat) : Int)) ↔ me_P md t s y) ∧ (gt_r M2 0 (M2 797 33) ((s : Nat) : Int) (-1, ((y : Nat) : Int)) ↔ mh_P md t s y) := by
  have h0 := h.1
  refine ⟨?_, ?_⟩
  · show ck_Y (gt_S M2 0 (M2 797 33)) (fun i => i = ck_j (M2 797 33) y) 0 s ↔ _
    rw [h.iff (Qf := fun _ => False) hmd hw ?_ hs]
    · refine mp_t_eq (fun _ => Iff.rfl) hw (fun x hx => ?_) (fun x hx => ?_) hs
      · show ck_j (M2 797 33) x = ck_j (M2 797 33) y ↔ x = y
        unfold ck_j; omega
      · show ck_j (-1) x = ck_j (M2 797 33) y ↔ False
        refine ⟨fun z => ?_, fun z => z.elim⟩
        unfold ck_j at z; omega
    · intro i x I hi hx
      have hlt := (List.getElem?_eq_some_iff.1 hi).1
      constructor
      · intro z
        have z : ck_j ((i : Nat) : Int) x = ck_j (M2 797 33) y := z
        unfold ck_j at z; omega
      · rintro ⟨-, -, c, -, z⟩; exact z.elim
  · show ck_Y (gt_S M2 0 (M2 797 33)) (fun i => i = ck_j (-1) y) 0 s ↔ _
    rw [h.iff (Qf := fun _ => False) hmd hw ?_ hs]
    · refine mp_t_eq (fun _ => Iff.rfl) hw (fun x hx => ?_) (fun x hx => ?_) hs
      · show ck_j (M2 797 33) x = ck_j (-1) y ↔ False
        refine ⟨fun z => ?_, fun z => z.elim⟩
        unfold ck_j at z; omega
      · show ck_j (-1) x = ck_j (-1) y ↔ x = y
        unfold ck_j; omega
    · intro i x I hi hx
      have hlt := (List.getElem?_eq_some_iff.1 hi).1
      constructor
      · intro z
        have z : ck_j ((i : Nat) : Int) x = ck_j (-1) y := z
        unfold ck_j at z; omega
      · rintro ⟨-, -, c, -, z⟩; exact z.elim
