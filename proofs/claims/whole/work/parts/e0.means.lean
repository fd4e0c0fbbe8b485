/-! what may come of a run: a tree's meaning, by what comes at its end, of a throw, of a failure -/
def mp_d (v s : Nat) : Nat := s / 4 ^ (3 - v) % 4
/-- two states agree but for some variables -/
def mp_ag (f : Nat → Bool) (s s' : Nat) : Prop := s' < 256 ∧ ∀ v, v < 4 → f v = false → mp_d v s' = mp_d v s
abbrev mp_Q : Type := Nat → Prop
abbrev mp_v (s : Nat) (w : List Int) : Int := pz_val ((s : Nat) : Int) w
abbrev mp_w (s : Nat) (v x : Int) : Nat := (pz_sw ((s : Nat) : Int) v x).toNat
def mp_P (md : Int) (P : pz_P) (f : Nat → Bool) (c : Nat) (A B : mp_Q → mp_Q → mp_Q) (Qf Qe Qt : mp_Q) (s : Nat) : Prop :=
  if P.1 = 0 then Qe (mp_w s P.2.1 (mp_v s P.2.2.1))
  else if P.1 = 1 then ∃ x : Nat, x < 4 ∧ Qe (mp_w s P.2.1 ((x : Nat) : Int))
  else if P.1 = 2 then (mp_v s P.2.2.1 = 0 ∧ Qf c) ∨ (¬ mp_v s P.2.2.1 = 0 ∧ Qe s)
  else if P.1 = 3 then ¬ mp_v s P.2.2.1 = 0 ∧ Qe s
  else if P.1 = 4 then Qt s
  else if P.1 = 5 then (mp_v s P.2.2.1 = 0 ∧ Qf c) ∨ (¬ mp_v s P.2.2.1 = 0 ∧ ∃ x : Nat, x < 4 ∧ ¬ mp_v (mp_w s P.2.1 ((x : Nat) : Int)) P.2.2.2 = 0 ∧ Qe (mp_w s P.2.1 ((x : Nat) : Int)))
  else if P.1 = 6 then (¬ mp_v s P.2.2.1 = 0 ∧ A Qe Qt s) ∨ (mp_v s P.2.2.1 = 0 ∧ B Qe Qt s)
  else if P.1 = 7 then (if md = 1 then (mp_v s P.2.2.2 = 0 ∧ Qf c) ∨ (¬ mp_v s P.2.2.2 = 0 ∧ ∃ s', mp_ag f s s' ∧ ¬ mp_v s' P.2.2.2 = 0 ∧ ((mp_v s' P.2.2.1 = 0 ∧ Qe s') ∨ (¬ mp_v s' P.2.2.1 = 0 ∧ A (fun s2 => mp_v s2 P.2.2.2 = 0 ∧ Qf (c + 1)) Qt s')))
    else ∀ I : mp_Q, (∀ s', s' < 256 → (mp_v s' P.2.2.1 = 0 ∧ Qe s') ∨ (¬ mp_v s' P.2.2.1 = 0 ∧ A I Qt s') → I s') → I s)
  else A Qe (fun s' => B Qe Qt s') s
/-- whether something comes of a run of a tree -/
def mp_t (md : Int) (Qf : mp_Q) : pz_T → Nat → mp_Q → mp_Q → mp_Q
  | .leaf, _, Qe, _ => Qe
  | .inner _ P _ t (.inner _ _ _ a b), c, Qe, Qt => mp_t md Qf t c (fun s => mp_P md P (pz_md a) (c + pz_kn t) (fun Q1 Q2 => mp_t md Qf a (c + pz_kn t + (pz_kd (P.1, 0, 0, 0, 0, 0, 0, 0)).length) Q1 Q2) (fun Q1 Q2 => mp_t md Qf b (c + pz_kn t + (pz_kd (P.1, 0, 0, 0, 0, 0, 0, 0)).length + pz_kn a) Q1 Q2) Qf Qe Qt s) Qt
  | .inner _ _ _ _ .leaf, _, _, _ => fun _ => False
/-- states alone count -/
def mp_le (Q Q' : mp_Q) : Prop := ∀ s, s < 256 → Q s → Q' s
theorem mp_le.rf (Q : mp_Q) : mp_le Q Q := fun _ _ h => h
theorem mp_w_lt {s : Nat} {v x : Int} (hs : s < 256) (hv : 0 ≤ v ∧ v ≤ 3) (hx : 0 ≤ x ∧ x ≤ 3) : mp_w s v x < 256 := by
  have := pz_sw_r ((s : Nat) : Int) v x (by omega) (by omega) hv.1 hv.2 hx.1 hx.2
  unfold mp_w
  omega
theorem mp_val_r {w : List Int} (h : pz_ist w) (s : Nat) : 0 ≤ mp_v s w ∧ mp_v s w ≤ 3 := by
  obtain ⟨g1, -, g3⟩ := pz_st_len ((s : Nat) : Int) w 1 (pz_gw_of w 1 h)
  show 0 ≤ (pz_st ((s : Nat) : Int) w).headD 0 ∧ (pz_st ((s : Nat) : Int) w).headD 0 ≤ 3
  cases hs : pz_st ((s : Nat) : Int) w with
  | nil => rw [hs] at g1; simp at g1
  | cons a u =>
    rw [hs] at g3
    exact g3 a (by simp)
theorem mp_P_mono {md : Int} {P : pz_P} (hP : pz_wfP P) {f : Nat → Bool} {c : Nat} {A B A' B' : mp_Q → mp_Q → mp_Q} {Qf Qf' Qe Qe' Qt Qt' : mp_Q}
    (hA : ∀ Q1 Q2 Q1' Q2', mp_le Q1 Q1' → mp_le Q2 Q2' → mp_le (A Q1 Q2) (A' Q1' Q2')) (hB : ∀ Q1 Q2 Q1' Q2', mp_le Q1 Q1' → mp_le Q2 Q2' → mp_le (B Q1 Q2) (B' Q1' Q2')) (hf : ∀ c, Qf c → Qf' c) (he : mp_le Qe Qe') (ht : mp_le Qt Qt') : mp_le (mp_P md P f c A B Qf Qe Qt) (mp_P md P f c A' B' Qf' Qe' Qt') := by
  intro s hs h
  obtain ⟨p1, p2, p3, p4⟩ := hP
  unfold mp_P at h ⊢
  by_cases z0 : P.1 = 0
  · rw [if_pos z0] at h ⊢
    rw [if_pos (Or.inl z0)] at p2
    rw [if_neg (by omega)] at p3
    exact he _ (mp_w_lt hs p2 (mp_val_r p3 s)) h
  rw [if_neg z0] at h ⊢
  by_cases z1 : P.1 = 1
  · rw [if_pos z1] at h ⊢
    rw [if_pos (Or.inr (Or.inl z1))] at p2
    obtain ⟨x, x1, x2⟩ := h
    exact ⟨x, x1, he _ (mp_w_lt hs p2 (by omega)) x2⟩
  rw [if_neg z1] at h ⊢
  by_cases z2 : P.1 = 2
  · rw [if_pos z2] at h ⊢
    exact h.imp (fun q => ⟨q.1, hf _ q.2⟩) (fun q => ⟨q.1, he _ hs q.2⟩)
  rw [if_neg z2] at h ⊢
  by_cases z3 : P.1 = 3
  · rw [if_pos z3] at h ⊢
    exact ⟨h.1, he _ hs h.2⟩
  rw [if_neg z3] at h ⊢
  by_cases z4 : P.1 = 4
  · rw [if_pos z4] at h ⊢
    exact ht _ hs h
  rw [if_neg z4] at h ⊢
  by_cases z5 : P.1 = 5
  · rw [if_pos z5] at h ⊢
    rw [if_pos (Or.inr (Or.inr z5))] at p2
    refine h.imp (fun q => ⟨q.1, hf _ q.2⟩) (fun q => ⟨q.1, ?_⟩)
    obtain ⟨x, x1, x2, x3⟩ := q.2
    exact ⟨x, x1, x2, he _ (mp_w_lt hs p2 (by omega)) x3⟩
  rw [if_neg z5] at h ⊢
  by_cases z6 : P.1 = 6
  · rw [if_pos z6] at h ⊢
    exact h.imp (fun q => ⟨q.1, hA _ _ _ _ he ht _ hs q.2⟩) (fun q => ⟨q.1, hB _ _ _ _ he ht _ hs q.2⟩)
  rw [if_neg z6] at h ⊢
  by_cases z7 : P.1 = 7
  · rw [if_pos z7] at h ⊢
    by_cases hm : md = 1
    · rw [if_pos hm] at h ⊢
      refine h.imp (fun q => ⟨q.1, hf _ q.2⟩) (fun q => ⟨q.1, ?_⟩)
      obtain ⟨s', x1, x2, x3⟩ := q.2
      exact ⟨s', x1, x2, x3.imp (fun q => ⟨q.1, he _ x1.1 q.2⟩) (fun q => ⟨q.1, hA _ _ _ _ (fun _ _ y => ⟨y.1, hf _ y.2⟩) ht _ x1.1 q.2⟩)⟩
    · rw [if_neg hm] at h ⊢
      exact fun I hI => h I fun s' hs' q => hI s' hs' (q.imp (fun q => ⟨q.1, he _ hs' q.2⟩) (fun q => ⟨q.1, hA _ _ _ _ (mp_le.rf I) ht _ hs' q.2⟩))
  rw [if_neg z7] at h ⊢
  exact hA _ _ _ _ he (hB _ _ _ _ he ht) _ hs h
theorem mp_t_mono {md : Int} {Qf Qf' : mp_Q} (hf : ∀ c, Qf c → Qf' c) : ∀ (t : pz_T), pz_wf t → ∀ (c : Nat) (Qe Qt Qe' Qt' : mp_Q), mp_le Qe Qe' → mp_le Qt Qt' → mp_le (mp_t md Qf t c Qe Qt) (mp_t md Qf' t c Qe' Qt') := by
  intro t
  induction t using pz_ind with
  | h0 => intro _ c Qe Qt Qe' Qt' he _; exact he
  | h2 s P v t => intro h; exact h.elim
  | h1 s P v t s' P' v' a b iht iha ihb =>
    intro hw c Qe Qt Qe' Qt' he ht
    obtain ⟨w1, w2, w3, w4, w5, w6⟩ := hw
    exact iht w1 c _ _ _ _ (mp_P_mono w4 (fun Q1 Q2 Q1' Q2' => iha w2 _ Q1 Q2 Q1' Q2') (fun Q1 Q2 Q1' Q2' => ihb w3 _ Q1 Q2 Q1' Q2') hf he ht) ht
theorem mp_t_eq {md : Int} {Qf Qf' : mp_Q} (hf : ∀ c, Qf c ↔ Qf' c) {t : pz_T} (hw : pz_wf t) {c : Nat} {Qe Qt Qe' Qt' : mp_Q} (he : ∀ s, s < 256 → (Qe s ↔ Qe' s)) (ht : ∀ s, s < 256 → (Qt s ↔ Qt' s)) {s : Nat} (hs : s < 256) : mp_t md Qf t c Qe Qt s ↔ mp_t md Qf' t c Qe' Qt' s :=
  ⟨mp_t_mono (fun c => (hf c).1) t hw c _ _ _ _ (fun s h => (he s h).1) (fun s h => (ht s h).1) s hs, mp_t_mono (fun c => (hf c).2) t hw c _ _ _ _ (fun s h => (he s h).2) (fun s h => (ht s h).2) s hs⟩
/-! digits of states -/
theorem mp_d_w {s v x u : Nat} (hs : s < 256) (hv : v < 4) (hx : x < 4) (hu : u < 4) : mp_d u (mp_w s ((v : Nat) : Int) ((x : Nat) : Int)) = if u = v then x else mp_d u s := by
  have key : ∀ s : Fin 256, ∀ v x u : Fin 4, mp_d u.val (mp_w s.val ((v.val : Nat) : Int) ((x.val : Nat) : Int)) = if u.val = v.val then x.val else mp_d u.val s.val := by decide +kernel
  exact key ⟨s, hs⟩ ⟨v, hv⟩ ⟨x, hx⟩ ⟨u, hu⟩
theorem mp_d_ext {s s' : Nat} (hs : s < 256) (hs' : s' < 256) (h : ∀ v, v < 4 → mp_d v s = mp_d v s') : s = s' := by
  have h0 := h 0 (by decide)
  have h1 := h 1 (by decide)
  have h2 := h 2 (by decide)
  have h3 := h 3 (by decide)
  unfold mp_d at h0 h1 h2 h3
  simp only [Nat.reduceSub, Nat.reducePow] at h0 h1 h2 h3
  omega
theorem mp_d_lt (v s : Nat) : mp_d v s < 4 := Nat.mod_lt _ (by decide)
/-- some variables get any values, one after the other -/
def mp_hv (f : Nat → Bool) : Nat → mp_Q → mp_Q
  | 0, Q => Q
  | k + 1, Q => mp_hv f k (fun s => if f k = true then ∃ x : Nat, x < 4 ∧ Q (mp_w s ((k : Nat) : Int) ((x : Nat) : Int)) else Q s)
theorem mp_hv_iff {f : Nat → Bool} : ∀ (k : Nat), k ≤ 4 → ∀ (Q : mp_Q) (s : Nat), s < 256 → (mp_hv f k Q s ↔ ∃ s', s' < 256 ∧ (∀ v, v < 4 → k ≤ v ∨ f v = false → mp_d v s' = mp_d v s) ∧ Q s')
  | 0, _, Q, s, hs => ⟨fun h => ⟨s, hs, fun _ _ _ => rfl, h⟩, fun ⟨s', h1, h2, h3⟩ => by
    have : s' = s := mp_d_ext h1 hs fun v hv => h2 v hv (Or.inl (Nat.zero_le _))
    rw [← this]; exact h3⟩
  | k + 1, hk, Q, s, hs => by
    show mp_hv f k _ s ↔ _
    rw [mp_hv_iff k (by omega) _ s hs]
    constructor
    · rintro ⟨s', h1, h2, h3⟩
      by_cases c : f k = true
      · rw [if_pos c] at h3
        obtain ⟨x, x1, x2⟩ := h3
        refine ⟨_, mp_w_lt h1 (by omega) (by omega), fun v hv q => ?_, x2⟩
        rw [mp_d_w h1 (by omega) x1 hv, if_neg (by
          rintro rfl
          rcases q with q | q
          · omega
          · rw [c] at q; cases q)]
        exact h2 v hv (q.imp (fun z => by omega) id)
      · rw [if_neg c] at h3
        refine ⟨s', h1, fun v hv q => h2 v hv ?_, h3⟩
        rcases q with q | q
        · exact Or.inl (by omega)
        · exact Or.inr q
    · rintro ⟨s', h1, h2, h3⟩
      by_cases c : f k = true
      · refine ⟨mp_w s' ((k : Nat) : Int) ((mp_d k s : Nat) : Int), mp_w_lt h1 (by omega) (by have := mp_d_lt k s; omega), fun v hv q => ?_, ?_⟩
        · rw [mp_d_w h1 (by omega) (mp_d_lt k s) hv]
          by_cases e : v = k
          · rw [if_pos e, e]
          · rw [if_neg e]
            exact h2 v hv (q.imp (fun z => by omega) id)
        · rw [if_pos c]
          refine ⟨mp_d k s', mp_d_lt k s', ?_⟩
          have : mp_w (mp_w s' ((k : Nat) : Int) ((mp_d k s : Nat) : Int)) ((k : Nat) : Int) ((mp_d k s' : Nat) : Int) = s' := by
            have hl := mp_w_lt (s := s') (v := ((k : Nat) : Int)) (x := ((mp_d k s : Nat) : Int)) h1 (by omega) (by have := mp_d_lt k s; omega)
            refine mp_d_ext (mp_w_lt hl (by omega) (by have := mp_d_lt k s'; omega)) h1 fun v hv => ?_
            rw [mp_d_w hl (by omega) (mp_d_lt k s') hv]
            by_cases e : v = k
            · rw [if_pos e, e]
            · rw [if_neg e, mp_d_w h1 (by omega) (mp_d_lt k s) hv, if_neg e]
          rw [this]; exact h3
      · refine ⟨s', h1, fun v hv q => h2 v hv ?_, ?_⟩
        · rcases q with q | q
          · by_cases e : v = k
            · exact Or.inr (by rw [e]; exact Bool.eq_false_iff.2 c)
            · exact Or.inl (by omega)
          · exact Or.inr q
        · rw [if_neg c]; exact h3
theorem mp_hv_ag {f : Nat → Bool} {Q : mp_Q} {s : Nat} (hs : s < 256) : mp_hv f 4 Q s ↔ ∃ s', mp_ag f s s' ∧ Q s' := by
  rw [mp_hv_iff 4 (Nat.le_refl _) Q s hs]
  constructor
  · rintro ⟨s', h1, h2, h3⟩
    exact ⟨s', ⟨h1, fun v hv q => h2 v hv (Or.inr q)⟩, h3⟩
  · rintro ⟨s', ⟨h1, h2⟩, h3⟩
    exact ⟨s', h1, fun v hv q => h2 v hv (q.resolve_left (by omega)), h3⟩
/-! masks of variables -/
def mp_z4 (a b c d : Bool) (s : Nat) : Nat := (if a then 0 else mp_d 0 s * 64) + (if b then 0 else mp_d 1 s * 16) + (if c then 0 else mp_d 2 s * 4) + (if d then 0 else mp_d 3 s)
theorem mp_z4_k : ∀ a b c d : Bool, ∀ s : Fin 256, ab_and ((s.val : Nat) : Int) (ab_xor (pz_mb4 a b c d) (-1)) = ((mp_z4 a b c d s.val : Nat) : Int) ∧ ab_and ((mp_z4 a b c d s.val : Nat) : Int) (pz_mb4 a b c d) = 0 ∧ ab_or ((mp_z4 a b c d s.val : Nat) : Int) ((mp_z4 (!a) (!b) (!c) (!d) s.val : Nat) : Int) = ((s.val : Nat) : Int) := by decide +kernel
/-- the parts that a loop's head goes through -/
def mp_pt (b : Int) : Nat → Int → List Int
  | 0, _ => []
  | n + 1, p => p :: (if ab_and (p - b) b = 0 then [] else mp_pt b n (ab_and (p - b) b))
theorem mp_pt_k : ∀ a b c d : Bool, ((mp_pt (pz_mb4 a b c d) 256 0).all fun p => decide (0 ≤ p ∧ p < 256 ∧ p = ((mp_z4 (!a) (!b) (!c) (!d) p.toNat : Nat) : Int))) = true ∧ ((List.range 256).all fun u => (mp_pt (pz_mb4 a b c d) 256 0).contains ((mp_z4 (!a) (!b) (!c) (!d) u : Nat) : Int)) = true := by decide +kernel
theorem mp_d_64 (x y z w : Nat) (hx : x < 4) (hy : y < 4) (hz : z < 4) (hw : w < 4) : mp_d 0 (x * 64 + y * 16 + z * 4 + w) = x ∧ mp_d 1 (x * 64 + y * 16 + z * 4 + w) = y ∧ mp_d 2 (x * 64 + y * 16 + z * 4 + w) = z ∧ mp_d 3 (x * 64 + y * 16 + z * 4 + w) = w := by
  unfold mp_d
  simp only [Nat.reduceSub, Nat.reducePow]
  omega
theorem mp_ag_pt {f : Nat → Bool} {s : Nat} (hs : s < 256) (s' : Nat) : mp_ag f s s' ↔ s' < 256 ∧ ∃ p ∈ mp_pt (pz_mb f) 256 0, ab_or (ab_and ((s : Nat) : Int) (ab_xor (pz_mb f) (-1))) p = ((s' : Nat) : Int) := by
  have hk := mp_pt_k (f 0) (f 1) (f 2) (f 3)
  unfold pz_mb
  rw [(mp_z4_k (f 0) (f 1) (f 2) (f 3) ⟨s, hs⟩).1]
  constructor
  · rintro ⟨h1, h2⟩
    refine ⟨h1, _, List.contains_iff_mem.1 (List.all_eq_true.1 hk.2 s' (List.mem_range.2 h1)), ?_⟩
    have e : mp_z4 (f 0) (f 1) (f 2) (f 3) s = mp_z4 (f 0) (f 1) (f 2) (f 3) s' := by
      have g0 := h2 0 (by decide)
      have g1 := h2 1 (by decide)
      have g2 := h2 2 (by decide)
      have g3 := h2 3 (by decide)
      unfold mp_z4
      clear h2 hk
      generalize f 0 = a at g0 ⊢
      generalize f 1 = b at g1 ⊢
      generalize f 2 = c at g2 ⊢
      generalize f 3 = d at g3 ⊢
      cases a <;> cases b <;> cases c <;> cases d <;> simp_all
    show ab_or ((mp_z4 (f 0) (f 1) (f 2) (f 3) s : Nat) : Int) _ = _
    rw [e]
    exact (mp_z4_k (f 0) (f 1) (f 2) (f 3) ⟨s', h1⟩).2.2
  · rintro ⟨h1, p, hp, h2⟩
    have hp2 := of_decide_eq_true (List.all_eq_true.1 hk.1 p hp)
    obtain ⟨p0, p1, p2⟩ := hp2
    obtain ⟨u, hu⟩ : ∃ u : Nat, u = p.toNat := ⟨_, rfl⟩
    rw [← hu] at p2
    obtain ⟨x0, e0⟩ : ∃ x, x = (if f 0 = true then mp_d 0 u else mp_d 0 s) := ⟨_, rfl⟩
    obtain ⟨x1, e1⟩ : ∃ x, x = (if f 1 = true then mp_d 1 u else mp_d 1 s) := ⟨_, rfl⟩
    obtain ⟨x2, e2⟩ : ∃ x, x = (if f 2 = true then mp_d 2 u else mp_d 2 s) := ⟨_, rfl⟩
    obtain ⟨x3, e3⟩ : ∃ x, x = (if f 3 = true then mp_d 3 u else mp_d 3 s) := ⟨_, rfl⟩
    have l0 : x0 < 4 := by rw [e0]; split <;> exact mp_d_lt _ _
    have l1 : x1 < 4 := by rw [e1]; split <;> exact mp_d_lt _ _
    have l2 : x2 < 4 := by rw [e2]; split <;> exact mp_d_lt _ _
    have l3 : x3 < 4 := by rw [e3]; split <;> exact mp_d_lt _ _
    obtain ⟨d0, d1, d2, d3⟩ := mp_d_64 x0 x1 x2 x3 l0 l1 l2 l3
    have ht : x0 * 64 + x1 * 16 + x2 * 4 + x3 < 256 := by omega
    generalize x0 * 64 + x1 * 16 + x2 * 4 + x3 = t at d0 d1 d2 d3 ht
    have k3 := (mp_z4_k (f 0) (f 1) (f 2) (f 3) ⟨t, ht⟩).2.2
    have ea : mp_z4 (f 0) (f 1) (f 2) (f 3) t = mp_z4 (f 0) (f 1) (f 2) (f 3) s := by
      unfold mp_z4
      rw [d0, d1, d2, d3, e0, e1, e2, e3]
      clear hk hp h2 p2 e0 e1 e2 e3 l0 l1 l2 l3 d0 d1 d2 d3 k3
      cases f 0 <;> cases f 1 <;> cases f 2 <;> cases f 3 <;> rfl
    have eb : mp_z4 (!f 0) (!f 1) (!f 2) (!f 3) t = mp_z4 (!f 0) (!f 1) (!f 2) (!f 3) u := by
      unfold mp_z4
      rw [d0, d1, d2, d3, e0, e1, e2, e3]
      clear hk hp h2 p2 e0 e1 e2 e3 l0 l1 l2 l3 d0 d1 d2 d3 k3 ea
      cases f 0 <;> cases f 1 <;> cases f 2 <;> cases f 3 <;> rfl
    have k3 : ab_or ((mp_z4 (f 0) (f 1) (f 2) (f 3) t : Nat) : Int) ((mp_z4 (!f 0) (!f 1) (!f 2) (!f 3) t : Nat) : Int) = ((t : Nat) : Int) := k3
    rw [ea, eb, ← p2] at k3
    have h2 : ab_or ((mp_z4 (f 0) (f 1) (f 2) (f 3) s : Nat) : Int) p = ((s' : Nat) : Int) := h2
    have et : t = s' := by omega
    subst et
    refine ⟨ht, fun v hv hf => ?_⟩
    have hc : v = 0 ∨ v = 1 ∨ v = 2 ∨ v = 3 := by omega
    rcases hc with rfl | rfl | rfl | rfl
    · rw [d0, e0, hf]; rfl
    · rw [d1, e1, hf]; rfl
    · rw [d2, e2, hf]; rfl
    · rw [d3, e3, hf]; rfl
