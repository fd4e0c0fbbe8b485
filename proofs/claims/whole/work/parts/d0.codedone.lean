/-! the code of a tree, laid by its events -/
theorem ev_at.nd2 {M : ab_M} {s : Nat} {P : pz_P} {v : Unit} {t : pz_T} {s' : Nat} {P' : pz_P} {v' : Unit} {a b : pz_T} {q e c : Nat} (h : ev_at M e (pz_fl (.inner s P v t (.inner s' P' v' a b)) q e c)) (h6 : 6 ≤ P.1) : (∃ q', ev_at M (e + pz_ne t + 2) (pz_fl a q' (e + pz_ne t + 2) (c + pz_kn t + (pz_kd (P.1, 0, 0, 0, 0, 0, 0, 0)).length))) ∧ (P.1 ≠ 7 → ∃ q', ev_at M (e + pz_ne t + 2 + pz_ne a + 2) (pz_fl b q' (e + pz_ne t + 2 + pz_ne a + 2) (c + pz_kn t + (pz_kd (P.1, 0, 0, 0, 0, 0, 0, 0)).length + pz_kn a))) := by
  have h : ev_at M e (pz_fl t q e c ++ (pz_evP P (q + (pz_pr t).length) (c + pz_kn t) :: (if 6 ≤ P.1 then
      pz_eo (pz_w1 P.1) (e + pz_ne t) :: (pz_fl a (q + (pz_pr t).length + (pz_hd P).length + 1) (e + pz_ne t + 2) (c + pz_kn t + (pz_kd (P.1, 0, 0, 0, 0, 0, 0, 0)).length) ++ pz_ec (pz_w1 P.1) (e + pz_ne t) :: (if P.1 = 7 then [] else
      pz_eo (pz_w2 P.1) (e + pz_ne t) :: (pz_fl b (q + (pz_pr t).length + (pz_hd P).length + 1 + (pz_pr a).length + 2) (e + pz_ne t + 2 + pz_ne a + 2) (c + pz_kn t + (pz_kd (P.1, 0, 0, 0, 0, 0, 0, 0)).length + pz_kn a) ++ [pz_ec (pz_w2 P.1) (e + pz_ne t)]))) else []))) := h
  obtain ⟨h1, h2⟩ := h.app
  rw [pz_fl_len] at h2
  obtain ⟨h3, h4⟩ := h2.cons
  rw [if_pos h6] at h4
  obtain ⟨h5, h7⟩ := h4.cons
  obtain ⟨h8, h9⟩ := h7.app
  rw [pz_fl_len] at h9
  obtain ⟨h10, h11⟩ := h9.cons
  refine ⟨⟨_, h8⟩, fun hn7 => ?_⟩
  rw [if_neg hn7] at h11
  obtain ⟨h12, h13⟩ := h11.cons
  obtain ⟨h14, h15⟩ := h13.app
  exact ⟨_, h14⟩
/-- the words of a tree's statements, by event -/
def ev_w (W1 W2 : Nat → List Int) : pz_T → Nat → Prop
  | .leaf, _ => True
  | .inner _ P _ t (.inner _ _ _ a b), e => ev_w W1 W2 t e ∧ (W1 (e + pz_ne t) = P.2.2.1 ∧ W2 (e + pz_ne t) = P.2.2.2) ∧ (6 ≤ P.1 → ev_w W1 W2 a (e + pz_ne t + 2) ∧ (P.1 ≠ 7 → ev_w W1 W2 b (e + pz_ne t + 2 + pz_ne a + 2)))
  | .inner _ _ _ _ .leaf, _ => False
theorem co_tree {N : ab_M} {m : Nat → ab_M} {top md : Int} {W1 W2 : Nat → List Int} : ∀ (t : pz_T), pz_wf t → pz_tb top t → ∀ (q e c : Nat), ev_at N e (pz_fl t q e c) → ev_w W1 W2 t e → co_ch m e (e + pz_ne t) md W1 W2 → (∀ i, e ≤ i → i ≤ e + pz_ne t → ∀ o k, 805 ≤ o → o ≤ 812 → m i o k = N o k) → co_R m e (e + pz_ne t) (fun r => co_t md t r c) := by
  intro t
  induction t using pz_ind with
  | h0 =>
    intro _ _ q e c _ _ _ _ τ r ht hτ hr h27 h8
    exact ⟨hr, hr, fun i I hi => (by cases hi), fun _ _ => ⟨fun _ _ _ => rfl, fun _ _ => rfl⟩, ⟨rfl, fun _ _ => rfl⟩, fun _ _ => ⟨rfl, rfl⟩⟩
  | h2 s P v t => intro h; exact h.elim
  | h1 s P v t s' P' v' a b iht iha ihb =>
    intro hw hb q e c h hV hch hE
    obtain ⟨w1, w2, w3, w4, w5, w6⟩ := hw
    obtain ⟨b1, b2, b3, b4, b5⟩ := hb
    obtain ⟨v1, v2, v3⟩ := hV
    obtain ⟨h1, h2⟩ := h.nd
    have h3 := fun h6 => h.nd2 h6
    have hne : e + pz_ne (.inner s P v t (.inner s' P' v' a b)) = e + pz_ne t + pq_len P a b := by rw [pz_ne_nd]; unfold pq_len; omega
    rw [hne] at hch hE ⊢
    have hl1 : 1 ≤ pq_len P a b := by unfold pq_len; omega
    have hT := iht w1 b1 q e c h1 v1 (fun i x y => hch i x (by omega)) (fun i x y => hE i x (by omega))
    have hS := co_stmt (m := m) (md := md) (W1 := W1) (W2 := W2) (A := fun r' => co_t md a r' (c + pz_kn t + (pz_kd (P.1, 0, 0, 0, 0, 0, 0, 0)).length)) (B := fun r' => co_t md b r' (c + pz_kn t + (pz_kd (P.1, 0, 0, 0, 0, 0, 0, 0)).length + pz_kn a)) w4 h2 v2 (fun i x y => hch i (by omega) y) (fun i x y => hE i (by omega) y) (fun h6 => by
      obtain ⟨⟨qa, g2⟩, -⟩ := h3 h6
      have : e + pz_ne t + 2 + pz_ne a ≤ e + pz_ne t + pq_len P a b := by unfold pq_len; rw [if_pos h6]; omega
      exact iha w2 b2 qa _ _ g2 (v3 h6).1 (fun i x y => hch i (by omega) (by omega)) (fun i x y => hE i (by omega) (by omega))) (fun h6 h7 => by
      obtain ⟨-, g4⟩ := h3 h6
      obtain ⟨qb, g6⟩ := g4 h7
      have : e + pz_ne t + 2 + pz_ne a + 2 + pz_ne b ≤ e + pz_ne t + pq_len P a b := by unfold pq_len; rw [if_pos h6, if_neg h7]; omega
      exact ihb w3 b3 qb _ _ g6 ((v3 h6).2 h7) (fun i x y => hch i (by omega) (by omega)) (fun i x y => hE i (by omega) (by omega))) (fun h7 => pq_md w2 b2 h2 h7)
    intro τ r ht hτ hr h27 h8
    have x1 := hT τ r ht hτ hr h27 h8
    have hE1 : ∀ o k : Nat, 805 ≤ o → o ≤ 812 → m (e + pz_ne t) o k = m e o k := fun o k x y => (hE (e + pz_ne t) (by omega) (by omega) o k x y).trans (hE e (Nat.le_refl _) (by omega) o k x y).symm
    have x2 := hS τ (r + (co_t md t r c).length) (co_tr x1 hE1 ht) (by omega) x1.2.1 (by rw [x1.2.2.2.2.1.1]; exact h27) (x1.lt (fun i hi => by have := h8 i hi; omega) (by omega) (Nat.le_refl _))
    exact x1.tr e (e + pz_ne t + pq_len P a b) x2 (Nat.le_refl _) (by omega) (by omega) (Nat.le_refl _)
/-- the laid code of a program -/
theorem la_C.top {N M' : ab_M} {t : pz_T} {md : Int} {W1 W2 : Nat → List Int} (hw : pz_wf t) (hat : ev_at N 0 (pz_fl t 0 0 0)) (h10 : N 797 10 = ((pz_ne t : Nat) : Int)) (hb : pz_tb 640 t) (hA : la_A N md W1 W2) (hV : ev_w W1 W2 t 0) (hC : la_C (la_0 N md) (N 797 10).toNat md W1 W2 M') : M' 797 33 = (((co_t md t 0 0).length : Nat) : Int) ∧ co_rows M' 0 (co_t md t 0 0) (-9) 0 (pz_ne t) := by
  rw [h10, show ((pz_ne t : Nat) : Int).toNat = pz_ne t from rfl] at hC
  obtain ⟨m, m0, m1, m2⟩ := hC
  have hI : ∀ i : Nat, i ≤ pz_ne t → la_I N (m i) md i := by
    intro i
    induction i with
    | zero => intro _; rw [m0]; exact la_I.start hA.2.2.1
    | succ i ih => intro hi; exact (ih (by omega)).next hA (by omega) (m1 i (by omega))
  have e27 : m 0 797 27 = 0 := by rw [m0]; unfold la_0; rw [ab_up_s]
  have e33 : m 0 797 33 = ((0 : Nat) : Int) := by rw [m0]; unfold la_0; rw [up_ne (by omega), ab_up_s]; rfl
  have hR := co_tree (N := N) (m := m) (md := md) t hw hb 0 0 0 hat hV (by rw [Nat.zero_add]; exact fun i _ hi => m1 i hi) (fun i _ hi o k x y => (hI i (by omega)).1 o k (by omega) (by omega) (by omega))
  rw [Nat.zero_add] at hR
  obtain ⟨-, r2, r3, -⟩ := hR (-9) 0 (by rw [e27]; rfl) (by omega) e33 (by omega) (fun i hi => absurd hi (Nat.not_lt_zero i))
  rw [m2, Nat.zero_add] at r2
  rw [m2] at r3
  exact ⟨r2, r3⟩
