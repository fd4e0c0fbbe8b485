/-! the values of all terms -/
/-- the letters of a term of the program that is read -/
def vl_W (M : ab_M) (k : Nat) : List Int := (List.range (M 394 k).toNat).map fun j => M 4 ((M 393 k).toNat + j)
theorem vl_W_len (M : ab_M) (k : Nat) : (vl_W M k).length = (M 394 k).toNat := by simp [vl_W]
/-- the terms of the program that is read lie in its text -/
def vl_T (M : ab_M) : Prop := M 26 0 = 3 ∧ (0 ≤ M 3 1 ∧ M 3 1 ≤ 640) ∧ (0 ≤ M 26 11 ∧ M 26 11 ≤ 64) ∧ ∀ k : Nat, (k : Int) < M 26 11 → vl_P M 4 (M 393 k) (vl_W M k) ∧ (0 ≤ M 394 k ∧ M 394 k ≤ 120) ∧ M 393 k + M 394 k ≤ M 3 1
/-- the values of the first terms -/
def vl_V (M M1 : ab_M) (t : Int) : Prop := ∀ k s : Nat, (k : Int) < t → s < 256 → M1 770 (k * 256 + s) = pz_val ((s : Nat) : Int) (vl_W M k)
def vl_J (M M1 : ab_M) (t : Int) (st : Int) : Prop := vl_V M M1 t ∧ (∀ s : Nat, (s : Int) < st → M1 770 (t.toNat * 256 + s) = pz_val ((s : Nat) : Int) (vl_W M t.toNat)) ∧ ∀ o' k' : Nat, ¬ o' = 770 → ¬ o' = 771 → M1 o' k' = M o' k'
theorem vl_P.fr {M M1 : ab_M} {A : Nat} {b : Int} {w : List Int} (h : vl_P M A b w) (e : ∀ k, M1 A k = M A k) : vl_P M1 A b w := ⟨h.1, h.2.1, fun j hj => by rw [e]; exact h.2.2 j hj⟩
theorem vl_J.start (M : ab_M) : vl_J M M 0 0 := ⟨fun k s h => by omega, fun s h => by omega, fun _ _ _ _ => rfl⟩
theorem vl_J.next {M M1 : ab_M} {t st : Int} (ht : 0 ≤ t) (h : vl_J M M1 t st) (hs : 256 ≤ st) : vl_J M M1 (t + 1) 0 := by
  refine ⟨fun k s hk hs' => ?_, fun s h => by omega, h.2.2⟩
  by_cases hk2 : (k : Int) < t
  · exact h.1 k s hk2 hs'
  · have := h.2.1 s (by omega)
    rw [show t.toNat = k by omega] at this
    exact this
theorem vl_J.step {M M1 M2 : ab_M} {t st x : Int} (ht : 0 ≤ t) (h0 : 0 ≤ st) (h1 : st < 256) (h : vl_J M M1 t st) (hf : ∀ o' k' : Nat, o' ≠ 771 → M2 o' k' = M1 o' k') (hx : x = pz_val st (vl_W M t.toNat)) : vl_J M (ab_up M2 770 (t * 256 + st).toNat x) t (st + 1) := by
  refine ⟨fun k s hk hs' => ?_, fun s hs => ?_, fun o' k' q1 q2 => ?_⟩
  · rw [ab_up_k (by omega), hf _ _ (by decide)]
    exact h.1 k s hk hs'
  · by_cases e : (s : Int) = st
    · rw [show (t * 256 + st).toNat = t.toNat * 256 + s by omega, ab_up_s, e]
      exact hx
    · rw [ab_up_k (by omega), hf _ _ (by decide)]
      exact h.2.1 s (by omega)
  · rw [ab_up_o q1, hf _ _ q2]
    exact h.2.2 o' k' q1 q2
theorem vl_J.call {M M1 : ab_M} {t st : Int} (h : vl_J M M1 t st) (hT : vl_T M) (h0 : 0 ≤ t) (h1 : t < M 26 11) : (M1 26 0 = 3 ∧ 0 ≤ M1 3 1 ∧ M1 3 1 ≤ 640) ∧ vl_P M1 4 (M 393 t.toNat) (vl_W M t.toNat) ∧ (vl_W M t.toNat).length ≤ 120 ∧ M 393 t.toNat + M 394 t.toNat = M 393 t.toNat + (((vl_W M t.toNat).length : Nat) : Int) ∧ M 393 t.toNat + M 394 t.toNat ≤ M1 3 1 := by
  obtain ⟨a1, a2, a3, a4⟩ := hT
  have f := h.2.2
  obtain ⟨b1, b2, b3⟩ := a4 t.toNat (by omega)
  rw [vl_W_len, f 26 0 (by decide) (by decide), f 3 1 (by decide) (by decide)]
  exact ⟨⟨a1, a2⟩, b1.fr (fun k => f _ _ (by decide) (by decide)), by omega, by omega, b3⟩
/-- the values kept are values -/
def tv_ok (M : ab_M) : Prop := ∀ k : Nat, 0 ≤ M 770 k ∧ M 770 k ≤ 3
theorem tv_ok.up {M1 M2 : ab_M} {j : Nat} {x : Int} (h : tv_ok M1) (hf : ∀ o' k' : Nat, o' ≠ 771 → M2 o' k' = M1 o' k') (hx : 0 ≤ x ∧ x ≤ 3) : tv_ok (ab_up M2 770 j x) := by
  intro k
  by_cases e : k = j
  · rw [e, ab_up_s]; exact hx
  · rw [ab_up_k e, hf _ _ (by decide)]; exact h k

def S_X7_drop : ab_PT := fun a M K => match a with
  | [.inr (.inr (.inr (769, 7, 0)))] => (True) ∧ (∀ Mx : ab_M, (Mx = ab_up M 769 3 0) → K [] Mx)
  | _ => False
set_option maxRecDepth 20000 in
theorem vc_X7_drop_0  (M : ab_M) (K : List ab_V → ab_M → Prop) (hS : (True) ∧ (∀ Mx : ab_M, (Mx = ab_up M 769 3 0) → K [] Mx)) : ((0 : Int) = 0 ∨ (0 : Int) = 1) ∧ K [] (ab_up M 769 3 (0 : Int)) := by
  repeat' first
    | (refine And.intro ?_ ?_)
    | intro _
  all_goals first
    | omega
    | (simp [ab_up_a]; done)
    | (simp [ab_up_a]; omega)
    | (refine hS.2 _ ?_; first | done | (first | omega | ((repeat' split) <;> omega) | (subst_vars; (repeat' split) <;> omega)) | (first | rfl | (rw [if_pos (by omega)]; done) | (rw [if_neg (by omega)]; done) | (rw [if_pos (by omega)]; simp [ab_up_a]; done) | (rw [if_neg (by omega)]; simp [ab_up_a]; done) | (simp [ab_up_a]; done)))
    | (refine hS.2 _ _ ?_ ?_ <;> first | done | (first | omega | ((repeat' split) <;> omega) | (subst_vars; (repeat' split) <;> omega)) | (first | rfl | (rw [if_pos (by omega)]; done) | (rw [if_neg (by omega)]; done) | (rw [if_pos (by omega)]; simp [ab_up_a]; done) | (rw [if_neg (by omega)]; simp [ab_up_a]; done) | (simp [ab_up_a]; done)))
    | (refine hS.2 _ _ ?_; first | done | (first | omega | ((repeat' split) <;> omega) | (subst_vars; (repeat' split) <;> omega)) | (first | rfl | (rw [if_pos (by omega)]; done) | (rw [if_neg (by omega)]; done) | (rw [if_pos (by omega)]; simp [ab_up_a]; done) | (rw [if_neg (by omega)]; simp [ab_up_a]; done) | (simp [ab_up_a]; done)))
    | exact hS.2
    | (refine ⟨_, ?_, rfl, ?_⟩ <;> omega)
    | (refine ⟨_, rfl, ?_⟩ <;> omega)
set_option maxRecDepth 20000 in
set_option maxHeartbeats 1000000 in
theorem ok_X7_drop (E : ab_E) : ab_Ok E 1 73 S_X7_drop := by
  refine ab_mk rq_X7_drop tk_X7_drop (rt := 0) (rfl) (cuts := []) (G := []) (fun g hg => by cases hg) (by decide) 54 rfl ?_
  intro a M K wd wa hS
  unfold S_X7_drop at hS
  split at hS
  ·
    refine ⟨Nat.le_of_ble_eq_true rfl, fun _ _ _ _ _ => False, ?_, ?_⟩
    · exact vc_X7_drop_0  M K  hS
    · exact fun _ _ _ _ _ h => h.elim
  · exact hS.elim
def S_X7_prepare : ab_PT := fun a M K => match a with
  | [.inr (.inr (.inr (769, 7, 0)))] => ((vl_T M ∧ tv_ok M) ∧ (M 769 3 = 0 ∨ M 769 3 = 1 ∧ vl_V M M (M 26 11))) ∧ (∀ Mx : ab_M, (Mx 769 3 = 1 ∧ vl_V M Mx (M 26 11) ∧ tv_ok Mx ∧ (∀ o' k' : Nat, ¬ (o' = 770 ∨ o' = 771 ∨ o' = 769 ∧ k' = 3) → Mx o' k' = M o' k')) → K [] Mx)
  | _ => False
set_option maxRecDepth 20000 in
theorem vc_X7_prepare_0  (M : ab_M) (K : List ab_V → ab_M → Prop) (hS : ((vl_T M ∧ tv_ok M) ∧ (M 769 3 = 0 ∨ M 769 3 = 1 ∧ vl_V M M (M 26 11))) ∧ (∀ Mx : ab_M, (Mx 769 3 = 1 ∧ vl_V M Mx (M 26 11) ∧ tv_ok Mx ∧ (∀ o' k' : Nat, ¬ (o' = 770 ∨ o' = 771 ∨ o' = 769 ∧ k' = 3) → Mx o' k' = M o' k')) → K [] Mx)) : (ab_ir (M 769 3)) ∧ (((M 769 3) = 0 → (∃ n', ((n' = ((64 - (0 : Int)) * 300).toNat ∧ M 769 3 = 0 ∧ 0 ≤ (0 : Int) ∧ (0 : Int) ≤ M 26 11 ∧ vl_J M M (0 : Int) 0 ∧ tv_ok M)))) ∧ (¬ (M 769 3) = 0 → K [] M)) := by
  obtain ⟨⟨⟨hT, hv⟩, hk⟩, gK⟩ := hS
  have hT4 := id hT
  obtain ⟨a1, ⟨a2, a2b⟩, ⟨a3, a3b⟩, a4⟩ := hT4
  
  refine And.intro (by
    first
      | omega
      | exact ⟨by omega, by omega⟩
      | exact ⟨⟨by omega, by omega⟩, by omega, by omega⟩
      | (split <;> exact ⟨by decide, by decide⟩)
      | decide) ?_
  refine ⟨?_, ?_⟩
  · intro c4
    exact ⟨_, rfl, by assumption, Int.le_refl 0, by omega, vl_J.start M, hv⟩
  · intro c4
    rcases hk with hk | hk
    · exact absurd hk (by assumption)
    · exact gK _ ⟨hk.1, hk.2, hv, fun _ _ _ => rfl⟩

set_option maxRecDepth 20000 in
theorem vc_X7_prepare_10  (M : ab_M) (K : List ab_V → ab_M → Prop) (hS : ((vl_T M ∧ tv_ok M) ∧ (M 769 3 = 0 ∨ M 769 3 = 1 ∧ vl_V M M (M 26 11))) ∧ (∀ Mx : ab_M, (Mx 769 3 = 1 ∧ vl_V M Mx (M 26 11) ∧ tv_ok Mx ∧ (∀ o' k' : Nat, ¬ (o' = 770 ∨ o' = 771 ∨ o' = 769 ∧ k' = 3) → Mx o' k' = M o' k')) → K [] Mx)) (n : Nat) (te : Int) (M1 : ab_M) (hI : n = ((64 - te) * 300).toNat ∧ M 769 3 = 0 ∧ 0 ≤ te ∧ te ≤ M 26 11 ∧ vl_J M M1 te 0 ∧ tv_ok M1) : (ab_ir te ∧ ab_ir (M1 26 11)) ∧ (((M1 26 11) ≤ te → ((1 : Int) = 0 ∨ (1 : Int) = 1) ∧ K [] (ab_up M1 769 3 (1 : Int))) ∧ (te < (M1 26 11) → (-128 ≤ (64 : Int) ∧ (64 : Int) < 128) ∧ (ab_ir te ∧ ab_ir (64 : Int)) ∧ (((64 : Int) ≤ te → ((1 : Int) = 0 ∨ (1 : Int) = 1) ∧ K [] (ab_up M1 769 3 (1 : Int))) ∧ (te < (64 : Int) → (ab_ir te ∧ M1 26 11 ≤ 64 ∧ 0 ≤ M1 26 11) ∧ (∀ r32 : Int, (r32 = if 0 ≤ te ∧ te < M1 26 11 then M1 393 te.toNat else 0) → (ab_ir te ∧ M1 26 11 ≤ 64 ∧ 0 ≤ M1 26 11) ∧ (∀ r42 : Int, (r42 = if 0 ≤ te ∧ te < M1 26 11 then M1 394 te.toNat else 0) → (∃ n', n' < n ∧ ((n' = ((64 - te) * 300 - 1 - (0 : Int)).toNat ∧ M 769 3 = 0 ∧ r32 = M 393 te.toNat ∧ (r32 + r42) = M 393 te.toNat + M 394 te.toNat ∧ 0 ≤ te ∧ te < M 26 11 ∧ 0 ≤ (0 : Int) ∧ (0 : Int) ≤ 256 ∧ vl_J M M1 te (0 : Int) ∧ tv_ok M1))))))))) := by
  obtain ⟨hn, h0, ht0, ht1, hI, hw⟩ := hI
  obtain ⟨⟨⟨hT, hv⟩, hk⟩, gK⟩ := hS
  have hT4 := id hT
  obtain ⟨a1, ⟨a2, a2b⟩, ⟨a3, a3b⟩, a4⟩ := hT4
  have hf := hI.2.2
  have f1 : M1 26 11 = M 26 11 := hf _ _ (by decide) (by decide)
  have f2 : ∀ k, M1 393 k = M 393 k := fun k => hf _ _ (by decide) (by decide)
  have f3 : ∀ k, M1 394 k = M 394 k := fun k => hf _ _ (by decide) (by decide)
  simp only [f1, f2, f3]
  
  refine And.intro (by
    first
      | omega
      | exact ⟨by omega, by omega⟩
      | exact ⟨⟨by omega, by omega⟩, by omega, by omega⟩
      | (split <;> exact ⟨by decide, by decide⟩)
      | decide) ?_
  refine ⟨?_, ?_⟩
  · intro c18
    refine And.intro (by
      first
        | omega
        | exact ⟨by omega, by omega⟩
        | exact ⟨⟨by omega, by omega⟩, by omega, by omega⟩
        | (split <;> exact ⟨by decide, by decide⟩)
        | decide) ?_
    refine gK _ ⟨?_, ?_, ?_, ?_⟩
    · exact ab_up_s
    · intro k s hk' hs'
      rw [ab_up_o (by decide)]
      exact hI.1 k s (by omega) hs'
    · intro k
      rw [ab_up_o (by decide)]
      exact hw k
    · intro o' k' hq
      rw [up_ne (by omega)]
      exact hf o' k' (by omega) (by omega)
  · intro c18
    refine And.intro (by
      first
        | omega
        | exact ⟨by omega, by omega⟩
        | exact ⟨⟨by omega, by omega⟩, by omega, by omega⟩
        | (split <;> exact ⟨by decide, by decide⟩)
        | decide) ?_
    refine And.intro (by
      first
        | omega
        | exact ⟨by omega, by omega⟩
        | exact ⟨⟨by omega, by omega⟩, by omega, by omega⟩
        | (split <;> exact ⟨by decide, by decide⟩)
        | decide) ?_
    refine ⟨?_, ?_⟩
    · intro c24
      refine And.intro (by
        first
          | omega
          | exact ⟨by omega, by omega⟩
          | exact ⟨⟨by omega, by omega⟩, by omega, by omega⟩
          | (split <;> exact ⟨by decide, by decide⟩)
          | decide) ?_
      refine gK _ ⟨?_, ?_, ?_, ?_⟩
      · exact ab_up_s
      · intro k s hk' hs'
        rw [ab_up_o (by decide)]
        exact hI.1 k s (by omega) hs'
      · intro k
        rw [ab_up_o (by decide)]
        exact hw k
      · intro o' k' hq
        rw [up_ne (by omega)]
        exact hf o' k' (by omega) (by omega)
    · intro c24
      refine And.intro (by
        first
          | omega
          | exact ⟨by omega, by omega⟩
          | exact ⟨⟨by omega, by omega⟩, by omega, by omega⟩
          | (split <;> exact ⟨by decide, by decide⟩)
          | decide) ?_
      intro r32 hr32
      refine And.intro (by
        first
          | omega
          | exact ⟨by omega, by omega⟩
          | exact ⟨⟨by omega, by omega⟩, by omega, by omega⟩
          | (split <;> exact ⟨by decide, by decide⟩)
          | decide) ?_
      intro r42 hr42
      rw [if_pos (by omega)] at hr32 hr42
      exact ⟨_, by omega, rfl, h0, hr32, by rw [hr32, hr42], by omega, by omega, by decide, by decide, ⟨hI.1, hI.2.1, hI.2.2⟩, hw⟩

set_option maxRecDepth 20000 in
theorem vc_X7_prepare_50  (M : ab_M) (K : List ab_V → ab_M → Prop) (hS : ((vl_T M ∧ tv_ok M) ∧ (M 769 3 = 0 ∨ M 769 3 = 1 ∧ vl_V M M (M 26 11))) ∧ (∀ Mx : ab_M, (Mx 769 3 = 1 ∧ vl_V M Mx (M 26 11) ∧ tv_ok Mx ∧ (∀ o' k' : Nat, ¬ (o' = 770 ∨ o' = 771 ∨ o' = 769 ∧ k' = 3) → Mx o' k' = M o' k')) → K [] Mx)) (n : Nat) (te : Int) (be : Int) (en : Int) (st : Int) (M1 : ab_M) (hI : n = ((64 - te) * 300 - 1 - st).toNat ∧ M 769 3 = 0 ∧ be = M 393 te.toNat ∧ en = M 393 te.toNat + M 394 te.toNat ∧ 0 ≤ te ∧ te < M 26 11 ∧ 0 ≤ st ∧ st ≤ 256 ∧ vl_J M M1 te st ∧ tv_ok M1) : (-32768 ≤ (256 : Int) ∧ (256 : Int) < 32768) ∧ (ab_ir st ∧ ab_ir (256 : Int)) ∧ (((256 : Int) ≤ st → (∃ n', n' < n ∧ ((n' = ((64 - (te + 1)) * 300).toNat ∧ M 769 3 = 0 ∧ 0 ≤ (te + 1) ∧ (te + 1) ≤ M 26 11 ∧ vl_J M M1 (te + 1) 0 ∧ tv_ok M1)))) ∧ (st < (256 : Int) → (-32768 ≤ (256 : Int) ∧ (256 : Int) < 32768) ∧ (∃ w_75 : List Int, ((M1 26 0 = 3 ∧ 0 ≤ M1 3 1 ∧ M1 3 1 ≤ 640) ∧ vl_P M1 4 be w_75 ∧ w_75.length ≤ 120 ∧ en = be + ((w_75.length : Nat) : Int) ∧ en ≤ M1 3 1) ∧ (∀ r75 : Int, ∀ M75 : ab_M, (∀ o' k' : Nat, o' ≠ 771 → M75 o' k' = M1 o' k') → (r75 = pz_val st w_75 ∧ 0 ≤ r75 ∧ r75 ≤ 3) → (-128 ≤ r75 ∧ r75 < 128) ∧ ((0 ≤ ((te * (256 : Int)) + st) ∧ ((te * (256 : Int)) + st) < ((16384 : Nat) : Int)) ∧ -128 ≤ r75 ∧ r75 < 128) ∧ (∃ n', n' < n ∧ ((n' = ((64 - te) * 300 - 1 - (st + 1)).toNat ∧ M 769 3 = 0 ∧ be = M 393 te.toNat ∧ en = M 393 te.toNat + M 394 te.toNat ∧ 0 ≤ te ∧ te < M 26 11 ∧ 0 ≤ (st + 1) ∧ (st + 1) ≤ 256 ∧ vl_J M (ab_up M75 770 (((te * (256 : Int)) + st).toNat) r75) te (st + 1) ∧ tv_ok (ab_up M75 770 (((te * (256 : Int)) + st).toNat) r75)))))))) := by
  obtain ⟨hn, h0, hb, he, ht0, ht1, hs0, hs1, hI, hw⟩ := hI
  subst hb
  subst he
  obtain ⟨⟨⟨hT, hv⟩, hk⟩, gK⟩ := hS
  have hT4 := id hT
  obtain ⟨a1, ⟨a2, a2b⟩, ⟨a3, a3b⟩, a4⟩ := hT4
  have hf := hI.2.2
  have f1 : M1 26 11 = M 26 11 := hf _ _ (by decide) (by decide)
  have f2 : ∀ k, M1 393 k = M 393 k := fun k => hf _ _ (by decide) (by decide)
  have f3 : ∀ k, M1 394 k = M 394 k := fun k => hf _ _ (by decide) (by decide)
  simp only [f1, f2, f3]
  
  refine And.intro (by
    first
      | omega
      | exact ⟨by omega, by omega⟩
      | exact ⟨⟨by omega, by omega⟩, by omega, by omega⟩
      | (split <;> exact ⟨by decide, by decide⟩)
      | decide) ?_
  refine And.intro (by
    first
      | omega
      | exact ⟨by omega, by omega⟩
      | exact ⟨⟨by omega, by omega⟩, by omega, by omega⟩
      | (split <;> exact ⟨by decide, by decide⟩)
      | decide) ?_
  refine ⟨?_, ?_⟩
  · intro c55
    exact ⟨_, by omega, rfl, h0, by omega, by omega, hI.next ht0 (by omega), hw⟩
  · intro c55
    refine And.intro (by
      first
        | omega
        | exact ⟨by omega, by omega⟩
        | exact ⟨⟨by omega, by omega⟩, by omega, by omega⟩
        | (split <;> exact ⟨by decide, by decide⟩)
        | decide) ?_
    refine Exists.intro (vl_W M te.toNat) <| ?_
    refine And.intro (by
      exact hI.call hT ht0 (by omega)) ?_
    intro r75 M75 hM75 hr75
    refine And.intro (by
      first
        | omega
        | exact ⟨by omega, by omega⟩
        | exact ⟨⟨by omega, by omega⟩, by omega, by omega⟩
        | (split <;> exact ⟨by decide, by decide⟩)
        | decide) ?_
    refine And.intro (by
      first
        | omega
        | exact ⟨by omega, by omega⟩
        | exact ⟨⟨by omega, by omega⟩, by omega, by omega⟩
        | (split <;> exact ⟨by decide, by decide⟩)
        | decide) ?_
    refine ⟨_, by omega, rfl, h0, by trivial, by trivial, ht0, by omega, by omega, by omega, hI.step ht0 hs0 (by omega) hM75 hr75.1, hw.up hM75 hr75.2⟩

set_option maxRecDepth 20000 in
set_option maxHeartbeats 1000000 in
theorem ok_X7_prepare (E : ab_E) : ab_Ok E 4 78 S_X7_prepare := by
  refine ab_mk rq_X7_prepare tk_X7_prepare (rt := 0) (rfl) (cuts := [10, 50]) (G := [(29, S_X1_termBegin), (30, S_X1_termLength), (74, S_X7_evaluate)]) (List.forall_mem_cons.mpr ⟨⟨1, by decide, ok_X1_termBegin E⟩, List.forall_mem_cons.mpr ⟨⟨1, by decide, ok_X1_termLength E⟩, List.forall_mem_cons.mpr ⟨⟨3, by decide, ok_X7_evaluate E⟩, fun _ h => absurd h List.not_mem_nil⟩⟩⟩) (by decide) 103 rfl ?_
  intro a M K wd wa hS
  unfold S_X7_prepare at hS
  split at hS
  ·
    refine ⟨Nat.le_of_ble_eq_true rfl, fun pc n L st M1 => match pc, L, st with
      | 10, [.inr (.inr (.inr (769, 7, 0))), .inr (.inl te), u3_, u4_, u5_], [] => (n = ((64 - te) * 300).toNat ∧ M 769 3 = 0 ∧ 0 ≤ te ∧ te ≤ M 26 11 ∧ vl_J M M1 te 0 ∧ tv_ok M1)
      | 50, [.inr (.inr (.inr (769, 7, 0))), .inr (.inl te), .inr (.inl be), .inr (.inl en), .inr (.inl st)], [] => (n = ((64 - te) * 300 - 1 - st).toNat ∧ M 769 3 = 0 ∧ be = M 393 te.toNat ∧ en = M 393 te.toNat + M 394 te.toNat ∧ 0 ≤ te ∧ te < M 26 11 ∧ 0 ≤ st ∧ st ≤ 256 ∧ vl_J M M1 te st ∧ tv_ok M1)
      | _, _, _ => False, ?_, ?_⟩
    · exact vc_X7_prepare_0  M K  hS
    · intro pc n L st M1 hI wd1 wL wst
      (try dsimp only at hI)
      split at hI
      ·
        rename_i te u3_ u4_ u5_
        exact vc_X7_prepare_10  M K  hS n te _ hI
      ·
        rename_i te be en st
        exact vc_X7_prepare_50  M K  hS n te be en st _ hI
      · exact hI.elim
  · exact hS.elim
