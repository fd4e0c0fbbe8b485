/-! pure search -/
theorem gx_W_ext {S : Nat → List Int} {a : Nat} {q : Int} (hq : q ∈ S a) : ∀ {n s : Nat}, gx_W S (fun i => i = a) n s → gx_W S (fun i => i = q.toNat) (n + 1) s
  | 0, s, h => by
    have h : s = a := h
    subst h
    exact Or.inr ⟨q, hq, rfl⟩
  | n + 1, s, h => by
    rcases h with h | ⟨x, h1, h2⟩
    · have h : s = a := h
      subst h
      exact Or.inr ⟨q, hq, gx_W_own (O := fun i => i = q.toNat) rfl _⟩
    · exact Or.inr ⟨x, h1, gx_W_ext hq h2⟩
/-- the places that wait, one below another -/
def se_c (N : Nat → Int) : List Nat → Int → Prop
  | [], w => w = -1
  | a :: l, w => w = (a : Int) ∧ se_c N l (N a - 2)
/-- what is met, what waits -/
def se_J (S : Nat → List Int) (s0 : Nat) (N : Nat → Int) (L : List Nat) (X : Nat → Prop) : Prop := N s0 ≠ 0 ∧ (∀ j, N j ≠ 0 → ∃ n, gx_W S (fun i => i = j) n s0) ∧ (∀ j, N j ≠ 0 → j ∉ L → ¬ X j → ∀ q ∈ S j, N q.toNat ≠ 0) ∧ (L.Nodup ∧ ∀ a ∈ L, N a ≠ 0) ∧ (∀ j, N j ≠ 0 → j < 33280) ∧ ∀ j, 0 ≤ N j ∧ N j ≤ 33281
def se_n (N : Nat → Int) : Nat := gx_m (fun j => decide (N j ≠ 0)) 33280
def se_u (N : Nat → Int) (j : Nat) (x : Int) : Nat → Int := fun i => if i = j then x else N i
theorem se_c_u {N : Nat → Int} {j : Nat} {x : Int} : ∀ {L : List Nat} {w : Int}, j ∉ L → se_c N L w → se_c (se_u N j x) L w
  | [], _, _, h => h
  | a :: l, w, hj, h => by
    have hne : a ≠ j := fun q => hj (by rw [q]; exact List.mem_cons_self)
    refine ⟨h.1, ?_⟩
    unfold se_u
    rw [if_neg hne]
    exact se_c_u (fun q => hj (List.mem_cons_of_mem _ q)) h.2
theorem se_c_rng {N : Nat → Int} {L : List Nat} {w : Int} (h : se_c N L w) (hL : ∀ a ∈ L, a < 33280) : -1 ≤ w ∧ w < 33280 ∧ (w < 0 → L = []) := by
  cases L with
  | nil => have h : w = -1 := h; exact ⟨by omega, by omega, fun _ => rfl⟩
  | cons a l =>
    have h1 := h.1
    have := hL a List.mem_cons_self
    exact ⟨by omega, by omega, fun q => by omega⟩
theorem gx_m_up {N : Nat → Int} {j : Nat} {x : Int} (h0 : N j = 0) (hx : x ≠ 0) : ∀ k, gx_m (fun i => decide (se_u N j x i ≠ 0)) k = gx_m (fun i => decide (N i ≠ 0)) k + if j < k then 1 else 0
  | 0 => by rw [if_neg (Nat.not_lt_zero _)]; rfl
  | k + 1 => by
    show gx_m (fun i => decide (se_u N j x i ≠ 0)) k + (if decide (se_u N j x k ≠ 0) = true then 1 else 0) = gx_m (fun i => decide (N i ≠ 0)) k + (if decide (N k ≠ 0) = true then 1 else 0) + _
    rw [gx_m_up h0 hx k]
    by_cases e : j = k
    · subst e
      have e1 : se_u N j x j = x := if_pos rfl
      rw [e1, h0, if_neg (Nat.lt_irrefl _), if_pos (Nat.lt_succ_self _), if_pos (decide_eq_true hx), if_neg (by decide)]
    · have e1 : se_u N j x k = N k := if_neg (fun q => e q.symm)
      rw [e1]
      by_cases c : j < k
      · rw [if_pos c, if_pos (show j < k + 1 by omega)]; omega
      · rw [if_neg c, if_neg (show ¬ j < k + 1 by omega)]; omega
theorem se_n_bd (N : Nat → Int) : se_n N ≤ 33280 := gx_m_bd _ _
/-- a place that is met for the first time waits -/
theorem se_J.push {S : Nat → List Int} {s0 a : Nat} {N : Nat → Int} {L : List Nat} {X : Nat → Prop} {w q : Int} (h : se_J S s0 N L X) (hc : se_c N L w) (ha : N a ≠ 0) (hq : q ∈ S a) (hq0 : 0 ≤ q) (hq1 : q < 33280) (h0 : N q.toNat = 0) :
    se_J S s0 (se_u N q.toNat (w + 2)) (q.toNat :: L) X ∧ se_c (se_u N q.toNat (w + 2)) (q.toNat :: L) q ∧ se_n (se_u N q.toNat (w + 2)) = se_n N + 1 := by
  obtain ⟨h1, h2, h3, ⟨h4, h5⟩, h6, h7⟩ := h
  have hw := se_c_rng hc fun a ha => h6 a (h5 a ha)
  have hnot : q.toNat ∉ L := fun z => h5 _ z h0
  have hnz : ∀ i, N i ≠ 0 → se_u N q.toNat (w + 2) i ≠ 0 := fun i hi => by
    unfold se_u
    split
    · omega
    · exact hi
  have hcase : ∀ i, se_u N q.toNat (w + 2) i ≠ 0 → i = q.toNat ∨ N i ≠ 0 := fun i hi => by
    unfold se_u at hi
    split at hi
    · exact Or.inl (by assumption)
    · exact Or.inr hi
  refine ⟨⟨hnz _ h1, fun j hj => ?_, fun j hj hjL hX p hp => ?_, ⟨List.nodup_cons.2 ⟨hnot, h4⟩, fun b hb => ?_⟩, fun j hj => ?_, fun j => ?_⟩, ⟨by omega, ?_⟩, ?_⟩
  · rcases hcase j hj with rfl | hj
    · obtain ⟨n, hn⟩ := h2 a ha
      exact ⟨n + 1, gx_W_ext hq hn⟩
    · exact h2 j hj
  · have hj' : N j ≠ 0 := by
      rcases hcase j hj with rfl | hj
      · exact absurd List.mem_cons_self hjL
      · exact hj
    exact hnz _ (h3 j hj' (fun z => hjL (List.mem_cons_of_mem _ z)) hX p hp)
  · rcases List.mem_cons.1 hb with rfl | hb
    · unfold se_u
      rw [if_pos rfl]; omega
    · exact hnz _ (h5 b hb)
  · rcases hcase j hj with rfl | hj
    · omega
    · exact h6 j hj
  · unfold se_u
    split
    · omega
    · exact h7 j
  · have e : se_u N q.toNat (w + 2) q.toNat = w + 2 := if_pos rfl
    rw [e, show w + 2 - 2 = w by omega]
    exact se_c_u hnot hc
  · unfold se_n
    rw [gx_m_up h0 (by omega), if_pos (by omega)]
/-- when nothing waits, what is met is what can be reached -/
theorem se_J.done {S : Nat → List Int} {s0 : Nat} {N : Nat → Int} (h : se_J S s0 N [] (fun _ => False)) (j : Nat) : N j ≠ 0 ↔ ∃ n, gx_W S (fun i => i = j) n s0 := by
  obtain ⟨h1, h2, h3, -⟩ := h
  refine ⟨h2 j, ?_⟩
  have key : ∀ n s, N s ≠ 0 → gx_W S (fun i => i = j) n s → N j ≠ 0 := by
    intro n
    induction n with
    | zero => intro s hs hw; have hw : s = j := hw; rw [← hw]; exact hs
    | succ n ih =>
      intro s hs hw
      rcases hw with hw | ⟨q, q1, q2⟩
      · have hw : s = j := hw
        rw [← hw]; exact hs
      · exact ih _ (h3 s hs List.not_mem_nil id q q1) q2
  rintro ⟨n, hn⟩
  exact key n s0 h1 hn
theorem se_J.start {S : Nat → List Int} {s0 : Nat} (hs : s0 < 33280) : se_J S s0 (se_u (fun _ => 0) s0 1) [s0] (fun _ => False) ∧ se_c (se_u (fun _ => 0) s0 1) [s0] (s0 : Int) ∧ se_n (se_u (fun _ => 0) s0 1) = 1 := by
  have e : se_u (fun _ => 0) s0 1 s0 = 1 := if_pos rfl
  have hcase : ∀ i, se_u (fun _ => 0) s0 1 i ≠ 0 → i = s0 := fun i hi => by
    unfold se_u at hi
    split at hi
    · assumption
    · exact absurd rfl hi
  refine ⟨⟨by rw [e]; decide, fun j hj => ⟨0, (hcase j hj).symm⟩, fun j hj hL => absurd (by rw [hcase j hj]; exact List.mem_cons_self) hL, ⟨List.nodup_cons.2 ⟨List.not_mem_nil, List.nodup_nil⟩, fun b hb => by rw [List.mem_singleton.1 hb, e]; decide⟩, fun j hj => by rw [hcase j hj]; exact hs, fun j => ?_⟩, ⟨rfl, ?_⟩, ?_⟩
  · unfold se_u
    split
    · omega
    · show (0 : Int) ≤ 0 ∧ (0 : Int) ≤ 33281
      decide
  · rw [e]
    show (1 : Int) - 2 = -1
    decide
  · unfold se_n
    have hup := gx_m_up (N := fun _ => (0 : Int)) (j := s0) (x := 1) rfl (by decide) 33280
    rw [hup, if_pos hs]
    have : ∀ k, gx_m (fun i => decide ((fun _ : Nat => (0 : Int)) i ≠ 0)) k = 0 := by
      intro k
      induction k with
      | zero => rfl
      | succ k ih => show gx_m _ k + (if decide ((0 : Int) ≠ 0) = true then 1 else 0) = 0; rw [ih, if_neg (by decide)]
    rw [this]
/-- the one that waits longest comes out -/
theorem se_J.pop {S : Nat → List Int} {s0 a : Nat} {N : Nat → Int} {L : List Nat} (h : se_J S s0 N (a :: L) (fun _ => False)) : se_J S s0 N L (fun j => j = a) := by
  obtain ⟨h1, h2, h3, ⟨h4, h5⟩, h6⟩ := h
  refine ⟨h1, h2, fun j hj hL hX => h3 j hj (fun z => ?_) id, ⟨(List.nodup_cons.1 h4).2, fun b hb => h5 b (List.mem_cons_of_mem _ hb)⟩, h6⟩
  rcases List.mem_cons.1 z with e | e
  · exact hX e
  · exact hL e
theorem se_J.all {S : Nat → List Int} {s0 a : Nat} {N : Nat → Int} {L : List Nat} (h : se_J S s0 N L (fun j => j = a)) (hd : ∀ q ∈ S a, N q.toNat ≠ 0) : se_J S s0 N L (fun _ => False) := by
  obtain ⟨h1, h2, h3, h4⟩ := h
  refine ⟨h1, h2, fun j hj hL _ => ?_, h4⟩
  by_cases e : j = a
  · rw [e]; exact hd
  · exact h3 j hj hL e

