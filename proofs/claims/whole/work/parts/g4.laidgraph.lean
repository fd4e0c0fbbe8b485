/-! the code that was laid, as a graph -/
/-- row i is this instruction; marked ones jump to κ -/
def ro_P (M : ab_M) (i : Nat) (I : co_I) (κ : Int) : Prop := M 818 i = I.1 ∧ M 819 i = I.2.1 ∧ (I.2.2.1 ≠ [] → ∀ s : Nat, s < 256 → M 822 (256 * i + s) = mp_v s I.2.2.1) ∧ M 820 i = (if I.2.2.2.2 = true then κ else I.2.2.2.1) ∧ (0 ≤ I.1 ∧ I.1 ≤ 6) ∧ (I.1 ≤ 1 → 0 ≤ I.2.1 ∧ I.2.1 ≤ 3) ∧ (I.1 = 0 ∨ I.1 = 2 ∨ I.1 = 3 ∨ I.1 = 4 → pz_ist I.2.2.1) ∧ (I.2.2.2.2 = true → I.1 = 5)
theorem ro_P.w {M : ab_M} {i : Nat} {I : co_I} {κ : Int} (h : ro_P M i I κ) (z : I.1 = 0 ∨ I.1 = 2 ∨ I.1 = 3 ∨ I.1 = 4) {s : Nat} (hs : s < 256) : M 822 (256 * i + s) = mp_v s I.2.2.1 ∧ 0 ≤ mp_v s I.2.2.1 ∧ mp_v s I.2.2.1 ≤ 3 := by
  obtain ⟨-, -, h3, -, -, -, h7, -⟩ := h
  have hi := h7 z
  have hp := pz_ist_pos hi
  exact ⟨h3 (fun e => by rw [e] at hp; exact absurd hp (by decide)) s hs, mp_val_r hi s⟩
theorem ck_j_d (i : Nat) {s : Nat} (hs : s < 256) : ck_j ((i : Nat) : Int) s / 256 = i + 1 ∧ ck_j ((i : Nat) : Int) s % 256 = s ∧ ck_j ((i : Nat) : Int) s = (i + 1) * 256 + s := by
  have e : ck_j ((i : Nat) : Int) s = (i + 1) * 256 + s := by unfold ck_j; omega
  rw [e]; omega
theorem gt_nx {M : ab_M} {lo hi κ : Int} {i : Nat} {I : co_I} (h : ro_P M i I κ) (hl : lo ≤ (i : Int) ∧ (i : Int) < hi) {s : Nat} (hs : s < 256) : gt_S M lo hi (ck_j ((i : Nat) : Int) s) = co_nx I κ (((i : Nat) : Int) + 1) s := by
  obtain ⟨d1, d2, -⟩ := ck_j_d i hs
  unfold gt_S
  rw [d1, d2, show ((i + 1 : Nat) : Int) - 1 = ((i : Nat) : Int) by omega, if_pos hl]
  have hw := fun z => h.w z hs
  obtain ⟨h1, h2, -, h4, h5, h6, -, h8⟩ := h
  unfold gt_p co_nx
  rw [Int.toNat_natCast, show (256 * ((i : Nat) : Int) + ((s : Nat) : Int)).toNat = 256 * i + s by omega, h1, h2, h4]
  by_cases z0 : I.1 = 0
  · obtain ⟨w1, w2⟩ := hw (by omega)
    rw [if_pos z0, if_pos z0, w1, mp_w_c hs (h6 (by omega)) w2]; rfl
  · rw [if_neg z0, if_neg z0]
    by_cases z1 : I.1 = 1
    · rw [if_pos z1, if_pos z1, mp_w_c hs (h6 (by omega)) ⟨by decide, by decide⟩, mp_w_c hs (h6 (by omega)) ⟨by decide, by decide⟩, mp_w_c hs (h6 (by omega)) ⟨by decide, by decide⟩, mp_w_c hs (h6 (by omega)) ⟨by decide, by decide⟩]; rfl
    · rw [if_neg z1, if_neg z1]
      by_cases z2 : I.1 = 2 ∨ I.1 = 3
      · obtain ⟨w1, w2⟩ := hw (by omega)
        rw [if_pos z2, if_pos z2, w1]
        by_cases y : mp_v s I.2.2.1 = 0
        · rw [if_pos y, if_pos y]; rfl
        · rw [if_neg y, if_neg y]; rfl
      · rw [if_neg z2, if_neg z2]
        by_cases z4 : I.1 = 4
        · obtain ⟨w1, w2⟩ := hw (by omega)
          rw [if_pos z4, if_pos z4, w1]; rfl
        · rw [if_neg z4, if_neg z4]
          by_cases z5 : I.1 = 5
          · rw [if_pos z5, if_pos z5]; rfl
          · rw [if_neg z5, if_neg z5]; rfl
/-- the code of a program lies in the rows -/
def ld_P (M : ab_M) (t : pz_T) (md : Int) : Prop := M 797 33 = (((co_t md t 0 0).length : Nat) : Int) ∧ (co_t md t 0 0).length ≤ 249 ∧ ∃ n, co_rows M 0 (co_t md t 0 0) (-9) 0 n
theorem ld_P.row {M : ab_M} {t : pz_T} {md : Int} (h : ld_P M t md) (hw : pz_wf t) {i : Nat} {I : co_I} (hi : (co_t md t 0 0)[i]? = some I) : ro_P M i I (-1) ∧ ci_ok I 0 (co_t md t 0 0).length 0 (pz_kn t) := by
  obtain ⟨h1, h2, n, h3⟩ := h
  have := h3 i I hi
  rw [Nat.zero_add] at this
  have hc := co_ok t hw 0 0 I (List.mem_of_getElem? hi)
  rw [Nat.zero_add, Nat.zero_add] at hc
  obtain ⟨a1, a2, a3, a4, -⟩ := this
  obtain ⟨b1, b2, b3, b4, b5, b6⟩ := hc
  refine ⟨⟨a1, a2, a3, ?_, b1, b2, b3, fun z => (b6 z).1⟩, b1, b2, b3, b4, b5, b6⟩
  by_cases z : I.2.2.2.2 = true
  · rw [if_pos z, a4, (b6 z).2]
  · rw [if_neg z, a4]
theorem ld_P.get {M : ab_M} {t : pz_T} {md : Int} (h : ld_P M t md) {i : Nat} (hi : (i : Int) < M 797 33) : ∃ I, (co_t md t 0 0)[i]? = some I := by
  have := h.1
  exact ⟨_, List.getElem?_eq_getElem (by omega)⟩
theorem ld_P.K {M : ab_M} {t : pz_T} {md : Int} (h : ld_P M t md) (hw : pz_wf t) (hk : pz_kn t ≤ 16) : re_K M := by
  have h1 := h.1
  have h2 := h.2.1
  refine ⟨⟨⟨by omega, by omega⟩, fun i hi => ?_⟩, fun i hi z => ?_⟩
  · obtain ⟨I, e⟩ := h.get hi
    obtain ⟨r, c1, c2, c3, c4, c5, c6⟩ := h.row hw e
    have hw := fun s hs z => r.w (s := s) z hs
    obtain ⟨r1, r2, r3, r4, -⟩ := r
    refine ⟨by omega, fun z => by have := c2 (by omega); omega, fun z => ?_, fun s hs z1 z5 z6 => ?_⟩
    · rw [r4]
      by_cases y : I.2.2.2.2 = true
      · rw [if_pos y]; exact .inl rfl
      · rw [if_neg y]
        have := c5 (by omega) (Bool.eq_false_iff.2 y)
        exact .inr ⟨by omega, by omega⟩
    · obtain ⟨x1, x2, x3⟩ := hw s hs (by omega)
      omega
  · obtain ⟨I, e⟩ := h.get hi
    obtain ⟨r, c1, c2, c3, c4, c5, c6⟩ := h.row hw e
    have := c4 (by have := r.1; omega)
    have := r.2.1
    omega
/-- what is to be come to, for one bit -/
def gt_O (M : ab_M) (n : Int) (b j : Nat) : Prop := (1 ≤ j / 256 ∧ ((j / 256 : Nat) : Int) ≤ n ∧ M 818 (j / 256 - 1) = 2 ∧ M 822 (256 * (j / 256 - 1) + j % 256) = 0 ∧ M 819 (j / 256 - 1) = ((b : Nat) : Int)) ∨ (b = 16 ∧ ((j / 256 : Nat) : Int) = n + 1) ∨ (b = 17 ∧ j / 256 = 0)
theorem gt_p_le {M : ab_M} {row s : Int} : ∀ p ∈ gt_p M row s, p.1 = row + 1 ∨ ((M 818 row.toNat = 4 ∨ M 818 row.toNat = 5) ∧ p.1 = M 820 row.toNat) := by
  intro p hp
  unfold gt_p at hp
  by_cases z0 : M 818 row.toNat = 0
  · rw [if_pos z0, List.mem_singleton] at hp; rw [hp]; exact .inl rfl
  · rw [if_neg z0] at hp
    by_cases z1 : M 818 row.toNat = 1
    · rw [if_pos z1] at hp
      simp only [List.mem_cons, List.not_mem_nil, or_false] at hp
      rcases hp with y | y | y | y <;> (rw [y]; exact .inl rfl)
    · rw [if_neg z1] at hp
      by_cases z2 : M 818 row.toNat = 2 ∨ M 818 row.toNat = 3
      · rw [if_pos z2] at hp
        split at hp
        · exact absurd hp List.not_mem_nil
        · rw [List.mem_singleton] at hp; rw [hp]; exact .inl rfl
      · rw [if_neg z2] at hp
        by_cases z4 : M 818 row.toNat = 4
        · rw [if_pos z4, List.mem_singleton] at hp
          rw [hp]
          by_cases y : M 822 (256 * row + s).toNat = 0
          · exact .inr ⟨.inl z4, if_pos y⟩
          · exact .inl (if_neg y)
        · rw [if_neg z4] at hp
          by_cases z5 : M 818 row.toNat = 5
          · rw [if_pos z5, List.mem_singleton] at hp; rw [hp]; exact .inr ⟨.inr z5, rfl⟩
          · rw [if_neg z5] at hp; exact absurd hp List.not_mem_nil
theorem re_gt_p (M : ab_M) (row : Nat) {s : Nat} (hs : s < 256) : re_p M (256 * row + s) = gt_p M ((row : Nat) : Int) ((s : Nat) : Int) := by
  unfold re_p gt_p
  rw [show (256 * row + s) / 256 = row by omega, show (256 * row + s) % 256 = s by omega, Int.toNat_natCast, show (256 * ((row : Nat) : Int) + ((s : Nat) : Int)).toNat = 256 * row + s by omega]
  rfl
theorem re_gt {M : ab_M} (hK : re_K M) {b : Nat} : ∀ (k row s : Nat), (row : Int) < M 797 33 → s < 256 → (gx_W (re_S M) (fun j => re_O M j b) k (256 * row + s) → ck_Y (gt_S M 0 (M 797 33)) (gt_O M (M 797 33) b) ((row : Nat) : Int) s) ∧ (gx_W (gt_S M 0 (M 797 33)) (gt_O M (M 797 33) b) k (ck_j ((row : Nat) : Int) s) → ∃ n, gx_W (re_S M) (fun j => re_O M j b) n (256 * row + s)) := by
  have hpr : ∀ row s : Nat, (row : Int) < M 797 33 → s < 256 → ∀ p ∈ gt_p M ((row : Nat) : Int) ((s : Nat) : Int), (p.1 = -1 ∨ (0 ≤ p.1 ∧ p.1 ≤ M 797 33)) ∧ 0 ≤ p.2 ∧ p.2 < 256 := by
    intro row s hr hs p hp
    have h1 := gt_p_v hK.1 ⟨by omega, hr⟩ ⟨by omega, by omega⟩ p hp
    refine ⟨?_, h1.2⟩
    rcases gt_p_le p hp with y | ⟨y1, y2⟩
    · exact .inr ⟨by omega, by omega⟩
    · rw [y2]
      exact (hK.1.2 row hr).2.2.1 y1
  have h33 := hK.1.1
  have hsk : ∀ p : Int × Int, 0 ≤ p.2 ∧ p.2 < 256 → 0 ≤ p.1 + 1 → (((p.1 + 1) * 256 + p.2).toNat / 256 : Nat) = (p.1 + 1).toNat ∧ ((p.1 + 1) * 256 + p.2).toNat % 256 = p.2.toNat := by
    intro p h1 h2
    omega
  have hO1 : ∀ row s : Nat, (row : Int) < M 797 33 → s < 256 → (gt_O M (M 797 33) b (ck_j ((row : Nat) : Int) s) ↔ M 818 row = 2 ∧ M 822 (256 * row + s) = 0 ∧ (b : Int) = M 819 row) := by
    intro row s hr hs
    obtain ⟨d1, d2, -⟩ := ck_j_d row hs
    unfold gt_O
    rw [d1, d2, show row + 1 - 1 = row by omega]
    constructor
    · rintro (⟨-, -, y1, y2, y3⟩ | ⟨-, y⟩ | ⟨-, y⟩)
      · exact ⟨y1, y2, y3.symm⟩
      · omega
      · omega
    · rintro ⟨y1, y2, y3⟩
      exact .inl ⟨by omega, by omega, y1, y2, y3.symm⟩
  have hS1 : ∀ row s : Nat, (row : Int) < M 797 33 → s < 256 → gt_S M 0 (M 797 33) (ck_j ((row : Nat) : Int) s) = (gt_p M ((row : Nat) : Int) ((s : Nat) : Int)).map fun p => (p.1 + 1) * 256 + p.2 := by
    intro row s hr hs
    obtain ⟨d1, d2, -⟩ := ck_j_d row hs
    unfold gt_S
    rw [d1, d2, show ((row + 1 : Nat) : Int) - 1 = ((row : Nat) : Int) by omega, if_pos ⟨by omega, hr⟩]
  have hin : ∀ p : Int × Int, 0 ≤ p.2 ∧ p.2 < 256 → 0 ≤ p.1 → ((p.1 + 1) * 256 + p.2).toNat = ck_j ((p.1.toNat : Nat) : Int) p.2.toNat ∧ (256 * p.1 + p.2).toNat = 256 * p.1.toNat + p.2.toNat := by
    intro p h1 h2
    unfold ck_j
    omega
  intro k
  induction k with
  | zero =>
    intro row s hr hs
    refine ⟨fun h => ?_, fun h => ?_⟩
    · rcases h with h | ⟨p, hp, e, hb⟩ | ⟨p, hp, e, hb⟩
      · rw [show (256 * row + s) / 256 = row by omega] at h
        exact ⟨0, (hO1 row s hr hs).2 h⟩
      · rw [re_gt_p M row hs] at hp
        obtain ⟨-, p3⟩ := hpr row s hr hs p hp
        refine ⟨1, .inr ⟨(p.1 + 1) * 256 + p.2, by rw [hS1 row s hr hs]; exact List.mem_map_of_mem hp, .inr (.inl ⟨hb, ?_⟩)⟩⟩
        rw [(hsk p p3 (by omega)).1]; omega
      · rw [re_gt_p M row hs] at hp
        obtain ⟨-, p3⟩ := hpr row s hr hs p hp
        refine ⟨1, .inr ⟨(p.1 + 1) * 256 + p.2, by rw [hS1 row s hr hs]; exact List.mem_map_of_mem hp, .inr (.inr ⟨hb, ?_⟩)⟩⟩
        rw [(hsk p p3 (by omega)).1]; omega
    · refine ⟨0, .inl ?_⟩
      rw [show (256 * row + s) / 256 = row by omega]
      exact (hO1 row s hr hs).1 h
  | succ k ih =>
    intro row s hr hs
    refine ⟨fun h => ?_, fun h => ?_⟩
    · rcases h with h | ⟨q, hq, h⟩
      · rcases h with h | ⟨p, hp, e, hb⟩ | ⟨p, hp, e, hb⟩
        · rw [show (256 * row + s) / 256 = row by omega] at h
          exact ⟨0, (hO1 row s hr hs).2 h⟩
        · rw [re_gt_p M row hs] at hp
          obtain ⟨-, p3⟩ := hpr row s hr hs p hp
          refine ⟨1, .inr ⟨(p.1 + 1) * 256 + p.2, by rw [hS1 row s hr hs]; exact List.mem_map_of_mem hp, .inr (.inl ⟨hb, ?_⟩)⟩⟩
          rw [(hsk p p3 (by omega)).1]; omega
        · rw [re_gt_p M row hs] at hp
          obtain ⟨-, p3⟩ := hpr row s hr hs p hp
          refine ⟨1, .inr ⟨(p.1 + 1) * 256 + p.2, by rw [hS1 row s hr hs]; exact List.mem_map_of_mem hp, .inr (.inr ⟨hb, ?_⟩)⟩⟩
          rw [(hsk p p3 (by omega)).1]; omega
      · unfold re_S at hq
        obtain ⟨p, hp, e⟩ := List.mem_filterMap.1 hq
        rw [re_gt_p M row hs] at hp
        obtain ⟨p2, p3⟩ := hpr row s hr hs p hp
        by_cases c : p.1 = M 797 33 ∨ p.1 = -1
        · rw [if_pos c] at e; cases e
        · rw [if_neg c] at e
          cases e
          have hp0 : 0 ≤ p.1 ∧ p.1 < M 797 33 := by omega
          obtain ⟨i1, i2⟩ := hin p p3 hp0.1
          rw [i2] at h
          obtain ⟨n, hn⟩ := (ih p.1.toNat p.2.toNat (by omega) (by omega)).1 h
          refine ⟨n + 1, .inr ⟨(p.1 + 1) * 256 + p.2, by rw [hS1 row s hr hs]; exact List.mem_map_of_mem hp, ?_⟩⟩
          rw [i1]; exact hn
    · rcases h with h | ⟨q, hq, h⟩
      · refine ⟨0, .inl ?_⟩
        rw [show (256 * row + s) / 256 = row by omega]
        exact (hO1 row s hr hs).1 h
      · rw [hS1 row s hr hs] at hq
        obtain ⟨p, hp, e⟩ := List.mem_map.1 hq
        obtain ⟨p2, p3⟩ := hpr row s hr hs p hp
        have hp' := hp
        rw [← re_gt_p M row hs] at hp'
        have hsink : ((p.1 = M 797 33 ∨ p.1 = -1) → gt_O M (M 797 33) b q.toNat) := by
          intro c
          have hd := hsk p p3 (by omega)
          rw [e] at hd
          have hno : gt_S M 0 (M 797 33) q.toNat = [] := by
            unfold gt_S
            rw [if_neg (by rw [hd.1]; omega)]
          cases k with
          | zero => exact h
          | succ k =>
            rcases h with h | ⟨q', hq', -⟩
            · exact h
            · rw [hno] at hq'; exact absurd hq' List.not_mem_nil
        by_cases c : p.1 = M 797 33
        · have hd := (hsk p p3 (by omega)).1
          rw [e] at hd
          rcases hsink (.inl c) with ⟨-, y, -⟩ | ⟨y, -⟩ | ⟨-, y⟩
          · rw [hd] at y; omega
          · exact ⟨0, .inr (.inl ⟨p, hp', c, y⟩)⟩
          · rw [hd] at y; omega
        · by_cases c1 : p.1 = -1
          · have hd := (hsk p p3 (by omega)).1
            rw [e] at hd
            rcases hsink (.inr c1) with ⟨y, -, -⟩ | ⟨-, y⟩ | ⟨y, -⟩
            · rw [hd] at y; omega
            · rw [hd] at y; omega
            · exact ⟨0, .inr (.inr ⟨p, hp', c1, y⟩)⟩
          · have hp0 : 0 ≤ p.1 ∧ p.1 < M 797 33 := by omega
            obtain ⟨i1, i2⟩ := hin p p3 hp0.1
            rw [← e, i1] at h
            obtain ⟨n, hn⟩ := (ih p.1.toNat p.2.toNat (by omega) (by omega)).2 h
            refine ⟨n + 1, .inr ⟨256 * p.1 + p.2, ?_, ?_⟩⟩
            · unfold re_S
              exact List.mem_filterMap.2 ⟨p, hp', if_neg (fun z => z.elim c c1)⟩
            · rw [i2]; exact hn
