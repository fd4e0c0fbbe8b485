/-! keeps of the reference, in the tree's terms -/
theorem mp_t_c {md : Int} : ∀ (t : pz_T) (c c' : Nat), mp_t md (fun _ => False) t c = mp_t md (fun _ => False) t c' := by
  intro t
  induction t using pz_ind with
  | h0 => intro c c'; rfl
  | h2 s P v t => intro c c'; rfl
  | h1 s P v t s' P' v' a b iht iha ihb =>
    intro c c'
    funext Qe Qt
    show mp_t md (fun _ => False) t c (fun s => mp_P md P (pz_md a) (c + pz_kn t) (fun Q1 Q2 => mp_t md (fun _ => False) a (c + pz_kn t + (pz_kd (P.1, 0, 0, 0, 0, 0, 0, 0)).length) Q1 Q2) (fun Q1 Q2 => mp_t md (fun _ => False) b (c + pz_kn t + (pz_kd (P.1, 0, 0, 0, 0, 0, 0, 0)).length + pz_kn a) Q1 Q2) (fun _ => False) Qe Qt s) Qt = mp_t md (fun _ => False) t c' (fun s => mp_P md P (pz_md a) (c' + pz_kn t) (fun Q1 Q2 => mp_t md (fun _ => False) a (c' + pz_kn t + (pz_kd (P.1, 0, 0, 0, 0, 0, 0, 0)).length) Q1 Q2) (fun Q1 Q2 => mp_t md (fun _ => False) b (c' + pz_kn t + (pz_kd (P.1, 0, 0, 0, 0, 0, 0, 0)).length + pz_kn a) Q1 Q2) (fun _ => False) Qe Qt s) Qt
    rw [iht c c', iha (c + pz_kn t + (pz_kd (P.1, 0, 0, 0, 0, 0, 0, 0)).length) (c' + pz_kn t + (pz_kd (P.1, 0, 0, 0, 0, 0, 0, 0)).length), ihb (c + pz_kn t + (pz_kd (P.1, 0, 0, 0, 0, 0, 0, 0)).length + pz_kn a) (c' + pz_kn t + (pz_kd (P.1, 0, 0, 0, 0, 0, 0, 0)).length + pz_kn a)]
    rfl
/-- where the blocks of loops lie -/
def kb_P (M : ab_M) (t : pz_T) : Prop := ∀ l : Nat, l < pz_nl t → ∃ β : Nat, (M 823 (lp_e t l) = ((β : Nat) : Int) ∧ M 824 (lp_e t l) = ((β + 1 + cn_t (lp_a t l) : Nat) : Int)) ∧ sl_P (co_t 1 t 0 0) (β + 1) (β + 1) (lp_a t l)
theorem ld_of {N M' : ab_M} {ls : List Int} {t : pz_T} {md : Int} (h : rk_P N ls t) (hG : em_G N) (hC : la_C (la_0 N md) (N 797 10).toNat md (wd1 ls t) (wd2 ls t) M') (hI : la_I N M' md (N 797 10).toNat) : ld_P M' t md ∧ (md = 1 → kb_P M' t) := by
  have hA := h.la hG md
  obtain ⟨h1, h2, h3⟩ := h.at'
  obtain ⟨hV, -⟩ := wd_w (ls := ls) h.1.1.1 h.1.1.2.2
  obtain ⟨r1, r2⟩ := la_C.top h.1.1.1 h1 h2 (tb_mono (by decide) t h.1.2.2.2.1) hA hV hC
  refine ⟨⟨r1, ?_, _, r2⟩, fun hm => ?_⟩
  · have := hI.2.2.2.1.2
    have := hA.2.1
    omega
  · subst hm
    rw [h2, Int.toNat_natCast] at hC
    obtain ⟨m, m0, m1, m2⟩ := hC
    have hI' : ∀ i : Nat, i ≤ pz_ne t → la_I N (m i) 1 i := by
      intro i
      induction i with
      | zero => intro _; rw [m0]; exact la_I.start hG
      | succ i ih => intro hi; exact (ih (by omega)).next hA (by omega) (m1 i (by omega))
    have e33 : m 0 797 33 = 0 := by rw [m0]; unfold la_0; rw [up_ne (by omega), ab_up_s]
    intro l hl
    obtain ⟨β, ⟨b1, b2⟩, b3⟩ := lb_tree (N := N) (m := m) (W1 := wd1 ls t) (W2 := wd2 ls t) t h.1.1.1 l hl h.1.2.2.2.1 0 0 0 h1 (by rw [Nat.zero_add]; exact fun i _ hi => m1 i hi) (fun i _ hi o k x y => (hI' i (by omega)).1 o k (by omega) (by omega) (by omega))
    simp only [Nat.zero_add] at b1 b2 b3
    rw [e33, m2] at b1 b2
    have b3 := b3 0 0
    rw [Nat.zero_add] at b3
    exact ⟨β, ⟨by omega, by omega⟩, b3⟩
/-- what a loop keeps, after so many rounds -/
def kk_K (t : pz_T) (l : Nat) : Nat → Nat → Prop
  | 0 => fun x => ¬ mp_v x (lp_P t l).2.2.2 = 0
  | i + 1 => fun x => kk_K t l i x ∧ ¬ (¬ mp_v x (lp_P t l).2.2.1 = 0 ∧ mp_t 1 (fun _ => False) (lp_a t l) 0 (fun y => ¬ kk_K t l i y) (fun _ => False) x)
theorem gx_any {S : Nat → List Int} {O : Nat → Prop} {O' : Nat → Nat → Prop} {D : Nat → Prop} (hO : ∀ i, O i ↔ ∃ t, D t ∧ O' t i) : ∀ n j, gx_W S O n j ↔ ∃ t, D t ∧ gx_W S (O' t) n j := by
  intro n
  induction n with
  | zero => intro j; exact hO j
  | succ n ih =>
    intro j
    constructor
    · rintro (h | ⟨q, hq, h⟩)
      · obtain ⟨t, t1, t2⟩ := (hO j).1 h
        exact ⟨t, t1, .inl t2⟩
      · obtain ⟨t, t1, t2⟩ := (ih q.toNat).1 h
        exact ⟨t, t1, .inr ⟨q, hq, t2⟩⟩
    · rintro ⟨t, t1, h | ⟨q, hq, h⟩⟩
      · exact .inl ((hO j).2 ⟨t, t1, h⟩)
      · exact .inr ⟨q, hq, (ih q.toNat).2 ⟨t, t1, h⟩⟩
theorem kb_iff {M : ab_M} {t : pz_T} (h : ld_P M t 1) (hw : pz_wf t) {l β : Nat} (hl : l < pz_nl t) (hs : sl_P (co_t 1 t 0 0) (β + 1) (β + 1) (lp_a t l)) {D : Nat → Prop} {x : Nat} (hx : x < 256) : (∃ y : Nat, (y < 256 ∧ D y) ∧ gt_r M ((β + 1 : Nat) : Int) ((β + 1 + cn_t (lp_a t l) : Nat) : Int) ((x : Nat) : Int) (((β + 1 + cn_t (lp_a t l) : Nat) : Int), ((y : Nat) : Int))) ↔ mp_t 1 (fun _ => False) (lp_a t l) 0 D (fun _ => False) x := by
  obtain ⟨c', κo, k1, k2, k3⟩ := hs
  have hwa := (lp_wf t hw l hl).1.2.2
  have hlen := cn_len (lp_a t l) hwa (β + 1) c'
  have h0 := h.1
  generalize hS : gt_S M ((β + 1 : Nat) : Int) ((β + 1 + cn_t (lp_a t l) : Nat) : Int) = S
  have hany := gx_any (S := S) (O := fun i => ∃ y : Nat, (y < 256 ∧ D y) ∧ i = ck_j ((β + 1 + cn_t (lp_a t l) : Nat) : Int) y) (O' := fun y i => i = ck_j ((β + 1 + cn_t (lp_a t l) : Nat) : Int) y) (D := fun y => y < 256 ∧ D y) (fun i => Iff.rfl)
  have e1 : (∃ y : Nat, (y < 256 ∧ D y) ∧ gt_r M ((β + 1 : Nat) : Int) ((β + 1 + cn_t (lp_a t l) : Nat) : Int) ((x : Nat) : Int) (((β + 1 + cn_t (lp_a t l) : Nat) : Int), ((y : Nat) : Int))) ↔ ck_Y S (fun i => ∃ y : Nat, (y < 256 ∧ D y) ∧ i = ck_j ((β + 1 + cn_t (lp_a t l) : Nat) : Int) y) ((β + 1 : Nat) : Int) x := by
    unfold gt_r
    rw [hS]
    constructor
    · rintro ⟨y, hy, n, hn⟩
      exact ⟨n, (hany n _).2 ⟨y, hy, hn⟩⟩
    · rintro ⟨n, hn⟩
      obtain ⟨y, hy, hn⟩ := (hany n _).1 hn
      exact ⟨y, hy, n, hn⟩
  rw [e1]
  have hκ : -1 ≤ κo.getD (-1) ∧ (κo.getD (-1) < 0 ∨ ((β + 1 + cn_t (lp_a t l) : Nat) : Int) < κo.getD (-1)) := by
    cases κo with
    | none => exact ⟨by decide, .inl (by decide)⟩
    | some κ =>
      have := k1 κ rfl
      have e : (some κ).getD (-1) = κ := rfl
      rw [e]
      exact ⟨by omega, .inr this⟩
  have hg : co_g S (fun i => ∃ y : Nat, (y < 256 ∧ D y) ∧ i = ck_j ((β + 1 + cn_t (lp_a t l) : Nat) : Int) y) (fun _ => False) (κo.getD (-1)) (β + 1) (co_t 1 (lp_a t l) (β + 1) c') := by
    intro i I hi s hs
    have hil := (List.getElem?_eq_some_iff.1 hi).1
    have hJ := k3 i I hi
    have hr := (h.row hw hJ).1
    refine ⟨⟨?_, fun ⟨_, _, _, _, z⟩ => z.elim⟩, ?_⟩
    · rintro ⟨y, -, z⟩
      unfold ck_j at z
      omega
    · rw [← hS]
      refine gt_nx ?_ ⟨by omega, by omega⟩ hs
      have hc := co_ok (lp_a t l) hwa (β + 1) c' I (List.mem_of_getElem? hi)
      obtain ⟨b1, b2, b3, b4, b5, b6⟩ := hc
      obtain ⟨r1, r2, r3, r4, -⟩ := hr
      have hpk : (pkc κo I).1 = I.1 ∧ (pkc κo I).2.1 = I.2.1 ∧ (pkc κo I).2.2.1 = I.2.2.1 ∧ (if (pkc κo I).2.2.2.2 = true then (-1 : Int) else (pkc κo I).2.2.2.1) = (if I.2.2.2.2 = true then κo.getD (-1) else I.2.2.2.1) := by
        cases κo with
        | none => exact ⟨rfl, rfl, rfl, rfl⟩
        | some κ =>
          by_cases z : I.2.2.2.2 = true
          · rw [show pkc (some κ) I = (I.1, I.2.1, I.2.2.1, κ, false) from if_pos z, if_pos z]
            exact ⟨rfl, rfl, rfl, rfl⟩
          · rw [show pkc (some κ) I = I from if_neg z, if_neg z, if_neg z]
            exact ⟨rfl, rfl, rfl, rfl⟩
      obtain ⟨p1, p2, p3, p4⟩ := hpk
      rw [p1] at r1
      rw [p2] at r2
      rw [p3] at r3
      rw [p4] at r4
      exact ⟨r1, r2, r3, r4, b1, b2, b3, fun z => (b6 z).1⟩
  rw [ck_tree_iff (.inr rfl) hwa hg hx, hlen, mp_t_c (lp_a t l) c' 0]
  refine mp_t_eq (fun _ => Iff.rfl) hwa (fun z hz => ?_) (fun z hz => ?_) hx
  · rw [← hS, gt_sink hz (by omega) (by omega)]
    constructor
    · rintro ⟨y, ⟨y1, y2⟩, y3⟩
      have : z = y := by unfold ck_j at y3; omega
      rw [this]; exact y2
    · intro y; exact ⟨z, ⟨hz, y⟩, rfl⟩
  · rw [← hS, gt_sink hz (by omega) (by omega)]
    refine ⟨?_, fun y => y.elim⟩
    rintro ⟨y, ⟨y1, y2⟩, y3⟩
    unfold ck_j at y3
    omega
theorem kk_ref {M : ab_M} {t : pz_T} (h : ld_P M t 1) (hw : pz_wf t) {l : Nat} (hl : l < pz_nl t) (hb : kb_P M t) : ∀ (i x : Nat), x < 256 → (ke_K (ke_i (lp_P t l).2.2.2) (ke_g M (lp_P t l).2.2.1 (M 823 (lp_e t l) + 1) (M 824 (lp_e t l))) i x ↔ kk_K t l i x) := by
  obtain ⟨β, ⟨b1, b2⟩, b3⟩ := hb l hl
  rw [b1, b2, show ((β : Nat) : Int) + 1 = ((β + 1 : Nat) : Int) by omega]
  have hwa := (lp_wf t hw l hl).1.2.2
  intro i
  induction i with
  | zero => intro x _; exact Iff.rfl
  | succ i ih =>
    intro x hx
    have key := kb_iff h hw hl b3 (D := fun y => ¬ kk_K t l i y) hx
    show (ke_K _ _ i x ∧ ¬ ∃ y : Nat, y < 256 ∧ (¬ mp_v x (lp_P t l).2.2.1 = 0 ∧ _) ∧ ¬ ke_K _ _ i y) ↔ kk_K t l i x ∧ ¬ (¬ mp_v x (lp_P t l).2.2.1 = 0 ∧ _)
    rw [ih x hx, ← key]
    refine and_congr_right fun _ => not_congr ⟨?_, ?_⟩
    · rintro ⟨y, y1, ⟨y2, y3⟩, y4⟩
      exact ⟨y2, y, ⟨y1, fun z => y4 ((ih y y1).2 z)⟩, y3⟩
    · rintro ⟨y2, y, ⟨y1, y4⟩, y3⟩
      exact ⟨y, y1, ⟨y2, y3⟩, fun z => y4 ((ih y y1).1 z)⟩
