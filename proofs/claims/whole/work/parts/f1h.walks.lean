/-! runs are walked: outcomes, what can be reached -/
theorem gc_D_fr {M M1 : ab_M} (h : ts_e M M1) (cut : Int) : gc_D M1 cut = gc_D M cut := by
  funext j
  unfold gc_D gc_w
  simp only [h.c 26 3 (by decide), h.c 26 8 (by decide), h.c 392 _ (by decide)]
theorem gx_m_one {f g : Nat → Bool} {q : Nat} (hf : f q = false) (hg : g q = true) (he : ∀ i, i ≠ q → g i = f i) : ∀ k, gx_m g k = gx_m f k + if q < k then 1 else 0
  | 0 => by rw [if_neg (Nat.not_lt_zero _)]; rfl
  | k + 1 => by
    show gx_m g k + (if g k = true then 1 else 0) = gx_m f k + (if f k = true then 1 else 0) + _
    rw [gx_m_one hf hg he k]
    by_cases e : q = k
    · subst e
      rw [hf, hg, if_neg (Nat.lt_irrefl _), if_pos (Nat.lt_succ_self _), if_pos rfl, if_neg (by decide)]
    · rw [he k (fun z => e z.symm)]
      by_cases c : q < k
      · rw [if_pos c, if_pos (show q < k + 1 by omega)]; omega
      · rw [if_neg c, if_neg (show ¬ q < k + 1 by omega)]; omega
theorem wk_m0 {f : Nat → Bool} : ∀ k, (∀ x, x < k → ¬ f x = true) → gx_m f k = 0
  | 0, _ => rfl
  | k + 1, h => by
    show gx_m f k + (if f k = true then 1 else 0) = 0
    rw [wk_m0 k fun x hx => h x (by omega), if_neg (h k (Nat.lt_succ_self k))]
/-- places whose notes are cleared; how many of them are met -/
def wk_dd (n : Int) (j : Nat) : Bool := decide (((j / 256 : Nat) : Int) < n ∨ 120 ≤ j / 256)
def wk_n (n : Int) (N : Nat → Int) : Nat := gx_m (fun j => decide (N j ≠ 0) && wk_dd n j) 33280
theorem wk_n_bd (n : Int) (N : Nat → Int) : wk_n n N ≤ 33280 := gx_m_bd _ _
theorem wk_n_up {n : Int} {N : Nat → Int} {q : Nat} {x : Int} (h0 : N q = 0) (hx : x ≠ 0) (hq : q < 33280) (hd : wk_dd n q = true) : wk_n n (wk_u N q x) = wk_n n N + 1 := by
  have h := gx_m_one (f := fun j => decide (N j ≠ 0) && wk_dd n j) (g := fun j => decide (wk_u N q x j ≠ 0) && wk_dd n j) (q := q) (by show (decide (N q ≠ 0) && wk_dd n q) = false; rw [h0]; rfl) (by show (decide (wk_u N q x q ≠ 0) && wk_dd n q) = true; rw [wk_u_s, decide_eq_true hx, hd]; rfl) (fun i hi => by show (decide (wk_u N q x i ≠ 0) && wk_dd n i) = (decide (N i ≠ 0) && wk_dd n i); rw [wk_u_n hi]) 33280
  rw [if_pos hq] at h
  exact h
theorem wk_n_0 {n : Int} {N : Nat → Int} (h : ∀ j, cu_C n j → N j = 0) : wk_n n N = 0 := wk_m0 33280 fun x hx z => by
  obtain ⟨z1, z2⟩ := Bool.and_eq_true_iff.1 z
  exact (of_decide_eq_true z1) (h x ⟨hx, of_decide_eq_true z2⟩)
theorem gc_D_C {M : ab_M} (hA : gc_A M) {cut : Int} {j : Nat} (h : gc_D M cut j) : cu_C (M 26 3) j ∧ wk_dd (M 26 3) j = true := by
  have h3 := hA.2.1.1
  have h8 := hA.1.2.1
  have hc : cu_C (M 26 3) j := by
    rcases h with z | z | ⟨q, ⟨z1, z2⟩ | ⟨l, z1, z2, -⟩ | ⟨-, l, z1, z2, -⟩⟩
    · exact ⟨by omega, Or.inr (by omega)⟩
    · exact ⟨by omega, Or.inr (by omega)⟩
    · exact ⟨by omega, Or.inl (by omega)⟩
    · exact ⟨by omega, Or.inr (by omega)⟩
    · exact ⟨by omega, Or.inr (by omega)⟩
  exact ⟨hc, decide_eq_true hc.2⟩
theorem wk_len {N : Nat → Int} : ∀ {T : List Nat} {B : Int}, T.Pairwise (fun a b => N b < N a) → (∀ a ∈ T, 1 ≤ N a ∧ N a ≤ B) → 0 ≤ B → ((T.length : Nat) : Int) ≤ B
  | [], _, _, _, hB => hB
  | a :: t, B, hp, h, _ => by
    obtain ⟨p1, p2⟩ := List.pairwise_cons.1 hp
    have ha := h a List.mem_cons_self
    have := wk_len (B := N a - 1) p2 (fun b hb => by have := p1 b hb; have := h b (List.mem_cons_of_mem _ hb); omega) (by omega)
    rw [List.length_cons]
    omega
/-- what holds in memory while a walk goes on -/
def wk_M (M : ab_M) (T A : List Nat) : Prop := wk_T (gc_S M 0) (gc_O M 0) (gc_D M 0) (M 776) (M 777) (M 774) (M 775 7) T A ∧ wk_ch (M 779) T (M 775 8) ∧ ((wk_n (M 26 3) (M 776) : Nat) : Int) = M 775 7
theorem wk_M.bd {M : ab_M} {T A : List Nat} (h : wk_M M T A) : 0 ≤ M 775 7 ∧ M 775 7 ≤ 33280 := by
  have := wk_n_bd (M 26 3) (M 776)
  have := h.2.2
  omega
theorem wk_M.of {M M1 : ab_M} {T A : List Nat} {N L X : Nat → Int} {m : Int} (hA : gc_A M) (hf : ts_e M M1) (h6 : M1 776 = N) (h7 : M1 777 = L) (h4 : M1 774 = X) (hm : M1 775 7 = m) (hT : wk_T (gc_S M 0) (gc_O M 0) (gc_D M 0) N L X m T A) (hc : wk_ch (M1 779) T (M1 775 8)) (hn : ((wk_n (M 26 3) N : Nat) : Int) = m) : wk_M M1 T A := by
  unfold wk_M
  rw [(gc_fr hf hA.1 0).1, (gc_fr hf hA.1 0).2, gc_D_fr hf, h6, h7, h4, hm, hf.c 26 3 (by decide)]
  exact ⟨hT, hc, hn⟩
theorem wk_M.f {M M1 : ab_M} {T A : List Nat} (hA : gc_A M) (h : wk_M M T A) (hf : ts_f M M1) : wk_M M1 T A := by
  have hr : ∀ o, o ≠ 772 → o ≠ 773 → M1 o = M o := fun o a b => funext fun k => hf o k b (fun z => a z.1)
  refine wk_M.of hA hf.e (hr 776 (by decide) (by decide)) (hr 777 (by decide) (by decide)) (hr 774 (by decide) (by decide)) (congrFun (hr 775 (by decide) (by decide)) 7) h.1 ?_ h.2.2
  rw [hr 779 (by decide) (by decide), hr 775 (by decide) (by decide)]
  exact h.2.1
theorem wk_DS {M : ab_M} (hA : gc_A M) (cut : Int) : ∀ j, gc_D M cut j → ∀ q ∈ gc_S M cut j, gc_D M cut q.toNat := fun _ hj => gc_D_S hA.2.1 hA.1 hj
theorem wk_M.meet {M : ab_M} {T A : List Nat} (hA : gc_A M) (h : wk_M M T A) {q fr : Int} (hq : 0 ≤ q) (hD : gc_D M 0 q.toNat) (h0 : M 776 q.toNat = 0) (hc : wk_nx (gc_S M 0) T A q.toNat) : wk_M (wk_op M q fr) (q.toNat :: T) (q.toNat :: A) := by
  obtain ⟨r6, r7, r4, r8, r9, rm, rt, rf⟩ := wk_op_rows M q fr
  have hb := h.bd
  have hnT : q.toNat ∉ T := fun z => (h.1.2.1.1 _ z).2.1 h0
  obtain ⟨d1, d2⟩ := gc_D_C hA hD
  refine wk_M.of hA rf.e r6 r7 r4 rm (h.1.meet (wk_DS hA 0) hb.1 hD h0 hc) ?_ ?_
  · rw [r9, rt]
    refine ⟨by omega, ?_⟩
    rw [wk_u_s]
    exact wk_ch_u hnT h.2.1
  · rw [wk_n_up h0 (by omega) d1.1 d2]
    have := h.2.2
    omega
theorem wk_T.ir {S : Nat → List Int} {O : Nat → Nat → Prop} {D : Nat → Prop} {N L X : Nat → Int} {m : Int} {T A : List Nat} (h : wk_T S O D N L X m T A) (hm : m ≤ 33280) {j : Nat} (hj : D j) : ab_ir (N j) ∧ (N j ≠ 0 → ab_ir (L j)) := by
  obtain ⟨⟨a1, -⟩, ⟨b1, -⟩, hc, -⟩ := h
  have hN := a1 j hj
  refine ⟨⟨by omega, by omega⟩, fun h0 => ?_⟩
  by_cases c : j ∈ T
  · have := b1 j c
    exact ⟨by omega, by omega⟩
  · have := (hc j hj h0 c).1
    exact ⟨by omega, by omega⟩
theorem wk_fm_rows (M : ab_M) (Ls : List Int) (pl c : Int) : (wk_fm M Ls pl c) 776 = M 776 ∧ (wk_fm M Ls pl c) 777 = wk_u (M 777) pl.toNat (wk_fl M Ls pl) ∧ (wk_fm M Ls pl c) 774 = wk_u (M 774) pl.toNat (wk_fx M Ls pl c) ∧ (wk_fm M Ls pl c) 778 = M 778 ∧ (wk_fm M Ls pl c) 779 = M 779 ∧ (wk_fm M Ls pl c) 775 = M 775 ∧ wk_fr M (wk_fm M Ls pl c) := by
  unfold wk_fm
  refine ⟨?_, ?_, ?_, ?_, ?_, ?_, fun o k a b c d => ?_⟩
  · rw [wk_ro (by decide), wk_ro (by decide)]
  · rw [wk_row, wk_ro (by decide)]
  · rw [wk_ro (by decide), wk_row]
  · rw [wk_ro (by decide), wk_ro (by decide)]
  · rw [wk_ro (by decide), wk_ro (by decide)]
  · rw [wk_ro (by decide), wk_ro (by decide)]
  · rw [ab_up_o (by omega), ab_up_o (by omega)]
/-- the chain below a place that closes -/
theorem wk_M.cA {M : ab_M} {A U T1 : List Nat} {a : Nat} (hA : gc_A M) (h : wk_M M (U ++ a :: T1) (a :: A)) : wk_cA M a U T1 := by
  have hb := h.bd
  obtain ⟨⟨⟨a1, a2⟩, ⟨b1, b2, -⟩, -⟩, hc, -⟩ := h
  have hr : ∀ t ∈ U ++ a :: T1, 1 ≤ M 776 t ∧ M 776 t ≤ M 775 7 := fun t ht => (a1 t (b1 t ht).1).resolve_left (b1 t ht).2.1
  have hlen := wk_len b2 hr hb.1
  rw [List.length_append, List.length_cons] at hlen
  have hlt : ∀ t ∈ U ++ a :: T1, t < 33280 := fun t ht => (gc_D_C hA (b1 t ht).1).1.1
  refine ⟨hc, hlt a (List.mem_append.2 (Or.inr List.mem_cons_self)), fun u hu => ⟨hlt u (List.mem_append.2 (Or.inl hu)), fun e => ?_⟩, by omega⟩
  have := (List.pairwise_append.1 b2).2.2 u hu a List.mem_cons_self
  rw [e] at this
  omega
/-- a place is finished -/
theorem wk_M.fin {M : ab_M} {A U T1 : List Nat} {a : Nat} (hA : gc_A M) (h : wk_M M (U ++ a :: T1) (a :: A)) (hmet : ∀ q ∈ gc_S M 0 a, M 776 q.toNat ≠ 0) {c : Int} (hc : c = (pl_fd M ((a / 256 : Nat) : Int) ((a % 256 : Nat) : Int) 0).1) : ∃ T', wk_M (wk_fi M (gc_S M 0 a) (a : Int) c U) T' A ∧ (A = [] → T' = []) ∧ (wk_fi M (gc_S M 0 a) (a : Int) c U) 778 = M 778 ∧ (wk_fi M (gc_S M 0 a) (a : Int) c U) 776 = M 776 ∧ (wk_fi M (gc_S M 0 a) (a : Int) c U) 775 7 = M 775 7 ∧ wk_fr M (wk_fi M (gc_S M 0 a) (a : Int) c U) := by
  have hb := h.bd
  obtain ⟨r6, r7, r4, r8, r9, r5, rf⟩ := wk_fm_rows M (gc_S M 0 a) (a : Int) c
  rw [Int.toNat_natCast] at r7 r4
  have hx : ∀ b, b < 64 → (pz_lb (wk_fx M (gc_S M 0 a) (a : Int) c) b = true ↔ gc_O M 0 a b ∨ ∃ q ∈ gc_S M 0 a, pz_lb (M 774 q.toNat) b = true) := fun b hb => by
    unfold wk_fx
    rw [lf_f_all, hc, show ((a : Int) / 256) = ((a / 256 : Nat) : Int) by omega, wk_oo_b hA.1 hb]
  obtain ⟨l1, l2, l3⟩ := ml_f_all (M 777) (gc_S M 0 a) (M 776 a)
  have hl : wk_fl M (gc_S M 0 a) (a : Int) = ml_f (M 777) (gc_S M 0 a) (M 776 a) (gc_S M 0 a).length := rfl
  rw [← hl] at l1 l2 l3
  have hc9 : wk_ch (M 779) (U ++ a :: T1) (M 775 8) := h.2.1
  by_cases e : wk_fl M (gc_S M 0 a) (a : Int) = M 776 a
  · have hfi : wk_fi M (gc_S M 0 a) (a : Int) c U = wk_cz (wk_fm M (gc_S M 0 a) (a : Int) c) U a := if_pos e
    rw [hfi]
    obtain ⟨z6, z7, z4, z8, z9, zm, zt, zf⟩ := wk_cz_rows (wk_fm M (gc_S M 0 a) (a : Int) c) U a
    obtain ⟨k1, k2⟩ := h.1.close (wk_DS hA 0) hmet hx fun q hq => by have := l2 q hq; omega
    have hff := rf.tr zf
    refine ⟨T1, wk_M.of hA hff.e (z6.trans r6) ?_ ?_ (by rw [zm, r5]) k1 ?_ h.2.2, k2, z8.trans r8, z6.trans r6, by rw [zm, r5], hff⟩
    · rw [z7, r7]
      funext j
      by_cases y : j = a ∨ j ∈ U
      · rw [if_pos y, if_pos y]
      · rw [if_neg y, if_neg y, wk_u_n fun z => y (Or.inl z)]
    · rw [z4, r4]
      funext j
      by_cases y : j = a ∨ j ∈ U
      · rw [if_pos y, if_pos y, wk_u_s]
      · rw [if_neg y, if_neg y, wk_u_n fun z => y (Or.inl z)]
    · rw [z9, zt, r9]
      exact wk_ch_at hc9
  · have hfi : wk_fi M (gc_S M 0 a) (a : Int) c U = wk_fm M (gc_S M 0 a) (a : Int) c := if_neg e
    rw [hfi]
    obtain ⟨k1, k2⟩ := h.1.keep (wk_DS hA 0) hmet hx l1 l2 l3 (by omega) e
    refine ⟨U ++ a :: T1, wk_M.of hA rf.e r6 r7 r4 (by rw [r5]) k2 ?_ h.2.2, fun z => absurd z k1, r8, r6, by rw [r5], rf⟩
    rw [r9, r5]
    exact hc9
theorem gc_S_at {M : ab_M} {cut h : Int} (h0 : 0 ≤ h) : gc_S M cut h.toNat = (pl_fd M (h / 256) (h % 256) cut).2 := by
  unfold gc_S
  rw [show ((h.toNat / 256 : Nat) : Int) = h / 256 by omega, show ((h.toNat % 256 : Nat) : Int) = h % 256 by omega]
def wk_I (M M1 : ab_M) (pl h k : Int) : Prop := wk_fr M M1 ∧ M1 776 pl.toNat ≠ 0 ∧ ∃ T A : List Nat, wk_M M1 T A ∧ wk_ch (M1 778) A h ∧ (A = [] → T = []) ∧ k = 2 * (M1 775 7 - M 775 7) - 1 - ((A.length : Nat) : Int)
/-! what can be reached -/
def wm_J (S : Nat → List Int) (D : Nat → Prop) (s0 : Nat) (N : Nat → Int) (L : List Nat) (X : Nat → Prop) : Prop := N s0 ≠ 0 ∧ (∀ j, D j → N j ≠ 0 → ∃ n, gx_W S (fun i => i = j) n s0) ∧ (∀ j, D j → N j ≠ 0 → j ∉ L → ¬ X j → ∀ q ∈ S j, N q.toNat ≠ 0) ∧ (L.Nodup ∧ ∀ a ∈ L, D a ∧ N a ≠ 0) ∧ ∀ j, D j → N j = 0 ∨ N j = 1
theorem wm_J.push {S : Nat → List Int} {D : Nat → Prop} {s0 a : Nat} {N B : Nat → Int} {L : List Nat} {X : Nat → Prop} {w q : Int} (h : wm_J S D s0 N L X) (hc : wk_ch B L w) (hDa : D a) (ha : N a ≠ 0) (hq : q ∈ S a) (hq0 : 0 ≤ q) (h0 : N q.toNat = 0) (hDq : D q.toNat) :
    wm_J S D s0 (wk_u N q.toNat 1) (q.toNat :: L) X ∧ wk_ch (wk_u B q.toNat w) (q.toNat :: L) q := by
  obtain ⟨h1, h2, h3, ⟨h4, h5⟩, h6⟩ := h
  have hnot : q.toNat ∉ L := fun z => (h5 _ z).2 h0
  have hnz : ∀ i, N i ≠ 0 → wk_u N q.toNat 1 i ≠ 0 := fun i hi => by
    rw [wk_u_n fun e => hi (by rw [e]; exact h0)]; exact hi
  have hcase : ∀ i, wk_u N q.toNat 1 i ≠ 0 → i = q.toNat ∨ N i ≠ 0 := fun i hi => by
    by_cases e : i = q.toNat
    · exact Or.inl e
    · rw [wk_u_n e] at hi; exact Or.inr hi
  refine ⟨⟨hnz _ h1, fun j hD hj => ?_, fun j hD hj hjL hX p hp => ?_, ⟨List.nodup_cons.2 ⟨hnot, h4⟩, fun b hb => ?_⟩, fun j hD => ?_⟩, ⟨by omega, ?_⟩⟩
  · rcases hcase j hj with rfl | hj
    · obtain ⟨n, hn⟩ := h2 a hDa ha
      exact ⟨n + 1, gx_W_ext hq hn⟩
    · exact h2 j hD hj
  · have hj' : N j ≠ 0 := by
      rcases hcase j hj with e | hj
      · exact absurd (by rw [e]; exact List.mem_cons_self) hjL
      · exact hj
    exact hnz _ (h3 j hD hj' (fun z => hjL (List.mem_cons_of_mem _ z)) hX p hp)
  · rcases List.mem_cons.1 hb with rfl | hb
    · exact ⟨hDq, by rw [wk_u_s]; decide⟩
    · exact ⟨(h5 b hb).1, hnz _ (h5 b hb).2⟩
  · by_cases e : j = q.toNat
    · rw [e, wk_u_s]; exact Or.inr rfl
    · rw [wk_u_n e]; exact h6 j hD
  · rw [wk_u_s]
    exact wk_ch_u hnot hc
theorem wm_J.done {S : Nat → List Int} {D : Nat → Prop} (hDS : ∀ j, D j → ∀ q ∈ S j, D q.toNat) {s0 : Nat} (hs : D s0) {N : Nat → Int} (h : wm_J S D s0 N [] (fun _ => False)) {j : Nat} (hj : D j) : N j ≠ 0 ↔ ∃ n, gx_W S (fun i => i = j) n s0 := by
  obtain ⟨h1, h2, h3, -⟩ := h
  refine ⟨h2 j hj, ?_⟩
  have key : ∀ n s, D s → N s ≠ 0 → gx_W S (fun i => i = j) n s → N j ≠ 0 := by
    intro n
    induction n with
    | zero => intro s _ hs hw; have hw : s = j := hw; rw [← hw]; exact hs
    | succ n ih =>
      intro s hD hs hw
      rcases hw with hw | ⟨q, q1, q2⟩
      · have hw : s = j := hw
        rw [← hw]; exact hs
      · exact ih _ (hDS s hD q q1) (h3 s hD hs List.not_mem_nil id q q1) q2
  rintro ⟨n, hn⟩
  exact key n s0 hs h1 hn
theorem wm_J.start {S : Nat → List Int} {D : Nat → Prop} {s0 : Nat} {N : Nat → Int} (hs : D s0) (h0 : ∀ j, D j → N j = 0) : wm_J S D s0 (wk_u N s0 1) [s0] (fun _ => False) := by
  have hcase : ∀ i, D i → wk_u N s0 1 i ≠ 0 → i = s0 := fun i hD hi => by
    by_cases e : i = s0
    · exact e
    · rw [wk_u_n e] at hi
      exact absurd (h0 i hD) hi
  refine ⟨by rw [wk_u_s]; decide, fun j hD hj => ⟨0, (hcase j hD hj).symm⟩, fun j hD hj hL => absurd (by rw [hcase j hD hj]; exact List.mem_cons_self) hL, ⟨List.nodup_cons.2 ⟨List.not_mem_nil, List.nodup_nil⟩, fun b hb => by rw [List.mem_singleton.1 hb, wk_u_s]; exact ⟨hs, by decide⟩⟩, fun j hD => ?_⟩
  by_cases e : j = s0
  · rw [e, wk_u_s]; exact Or.inr rfl
  · rw [wk_u_n e]; exact Or.inl (h0 j hD)
theorem wm_J.pop {S : Nat → List Int} {D : Nat → Prop} {s0 a : Nat} {N : Nat → Int} {L : List Nat} (h : wm_J S D s0 N (a :: L) (fun _ => False)) : wm_J S D s0 N L (fun j => j = a) := by
  obtain ⟨h1, h2, h3, ⟨h4, h5⟩, h6⟩ := h
  refine ⟨h1, h2, fun j hD hj hL hX => h3 j hD hj (fun z => ?_) id, ⟨(List.nodup_cons.1 h4).2, fun b hb => h5 b (List.mem_cons_of_mem _ hb)⟩, h6⟩
  rcases List.mem_cons.1 z with e | e
  · exact hX e
  · exact hL e
theorem wm_J.all {S : Nat → List Int} {D : Nat → Prop} {s0 a : Nat} {N : Nat → Int} {L : List Nat} (h : wm_J S D s0 N L (fun j => j = a)) (hd : ∀ q ∈ S a, N q.toNat ≠ 0) : wm_J S D s0 N L (fun _ => False) := by
  obtain ⟨h1, h2, h3, h4⟩ := h
  refine ⟨h1, h2, fun j hD hj hL _ => ?_, h4⟩
  by_cases e : j = a
  · rw [e]; exact hd
  · exact h3 j hD hj hL e
def wm_F (M M1 : ab_M) : Prop := ∀ o k : Nat, o ≠ 773 → o ≠ 776 → o ≠ 779 → ¬ (o = 772 ∧ k = 3) → ¬ (o = 775 ∧ 7 ≤ k ∧ k ≤ 9) → M1 o k = M o k
theorem wm_F.e {M M1 : ab_M} (h : wm_F M M1) : ts_e M M1 := fun o k q => h o k (by omega) (by omega) (by omega) (by omega) (by omega)
theorem wm_F.f {M M1 M2 : ab_M} (h : wm_F M M1) (h2 : ts_f M1 M2) : wm_F M M2 := fun o k a b c d e => (h2 o k a d).trans (h o k a b c d e)
def wm_P (M M' : ab_M) (cut zz : Int) : Prop := wm_F M M' ∧ M' 775 9 = cut * 256 + zz ∧ ∀ j, gc_D M cut j → (M' 776 j = 0 ∨ M' 776 j = 1) ∧ (M' 776 j ≠ 0 ↔ ∃ n, gx_W (gc_S M cut) (fun i => i = j) n (pr_s M * 256 + zz.toNat))
def wm_I (M M1 : ab_M) (cut zz w c : Int) (X : Nat → Prop) : Prop := wm_F M M1 ∧ ∃ L : List Nat, wm_J (gc_S M cut) (gc_D M cut) (pr_s M * 256 + zz.toNat) (M1 776) L X ∧ wk_ch (M1 779) L w ∧ c + ((L.length : Nat) : Int) = ((wk_n (M 26 3) (M1 776) : Nat) : Int)
theorem wm_I.w {M M1 : ab_M} (hA : gc_A M) {cut zz w c : Int} {X : Nat → Prop} (h : wm_I M M1 cut zz w c X) : -1 ≤ w ∧ w < 33280 := by
  obtain ⟨-, L, hJ, hc, -⟩ := h
  cases L with
  | nil => have hc : w = -1 := hc; omega
  | cons a l =>
    have h1 := hc.1
    have := (gc_D_C hA (hJ.2.2.2.1.2 a List.mem_cons_self).1).1.1
    omega
def wo_F (M M1 : ab_M) : Prop := ∀ o j : Nat, ¬ (773 ≤ o ∧ o ≤ 774) → ¬ (776 ≤ o ∧ o ≤ 779) → ¬ (o = 772 ∧ j = 3) → ¬ (o = 775 ∧ 7 ≤ j ∧ j ≤ 9) → o ≠ 785 → M1 o j = M o j

def S_X12_goFrom : ab_PT := fun a M K => match a with
  | [.inr (.inr (.inr (775, 12, 0))), .inr (.inl pl)] => ((gc_A M ∧ tv_ok M) ∧ (0 ≤ pl ∧ pl < 33280 ∧ gc_D M 0 pl.toNat) ∧ wk_M M [] []) ∧ (∀ Mx : ab_M, (wk_fr M Mx ∧ wk_M Mx [] [] ∧ Mx 776 pl.toNat ≠ 0) → K [] Mx)
  | _ => False
set_option maxRecDepth 20000 in
theorem vc_X12_goFrom_0 (pl : Int) (M : ab_M) (K : List ab_V → ab_M → Prop) (hS : ((gc_A M ∧ tv_ok M) ∧ (0 ≤ pl ∧ pl < 33280 ∧ gc_D M 0 pl.toNat) ∧ wk_M M [] []) ∧ (∀ Mx : ab_M, (wk_fr M Mx ∧ wk_M Mx [] [] ∧ Mx 776 pl.toNat ≠ 0) → K [] Mx)) : (0 ≤ pl ∧ pl < ((33280 : Nat) : Int)) ∧ (ab_ir (M 776 pl.toNat)) ∧ (((M 776 pl.toNat) = 0 → (0 ≤ pl ∧ pl < 33280) ∧ (∀ M13 : ab_M, (M13 = wk_op M pl (-1 : Int)) → (∃ n', ((n' = (66560 - (0 : Int)).toNat ∧ pl = pl ∧ 0 ≤ (0 : Int) ∧ wk_I M M13 pl pl (0 : Int)))))) ∧ (¬ (M 776 pl.toNat) = 0 → K [] M)) := by
  obtain ⟨⟨⟨gA, gv⟩, ⟨gp0, gp1, gD⟩, gM⟩, gK⟩ := hS
  have gb := gM.bd
  have gir := (gM.1.ir gb.2 gD).1
  
  refine And.intro (by
    first
      | omega
      | exact ⟨by omega, by omega⟩
      | exact ⟨⟨by omega, by omega⟩, by omega, by omega⟩
      | trivial
      | exact gir
      | exact ⟨gp0, by omega⟩
      | exact ⟨gp0, gp1⟩
      | exact ⟨⟨hv1, hA1.1, by omega, by omega⟩, ⟨by omega, by omega⟩, by decide, by decide⟩
      | exact ⟨hLL, fun q hq => (hqr q hq).1⟩
      | exact ⟨⟨by omega, by omega⟩, by omega, by omega⟩
      | exact ⟨⟨hLL, fun q hq => ⟨(hqr q hq).1.1, (hM2.1.ir hM2.bd.2 (hqr q hq).2).2 (hmet q hq)⟩⟩, ⟨by omega, by omega⟩, ⟨(hM2.1.ir hM2.bd.2 aD).1, hcr⟩, hcA⟩) ?_
  refine And.intro (by
    first
      | omega
      | exact ⟨by omega, by omega⟩
      | exact ⟨⟨by omega, by omega⟩, by omega, by omega⟩
      | trivial
      | exact gir
      | exact ⟨gp0, by omega⟩
      | exact ⟨gp0, gp1⟩
      | exact ⟨⟨hv1, hA1.1, by omega, by omega⟩, ⟨by omega, by omega⟩, by decide, by decide⟩
      | exact ⟨hLL, fun q hq => (hqr q hq).1⟩
      | exact ⟨⟨by omega, by omega⟩, by omega, by omega⟩
      | exact ⟨⟨hLL, fun q hq => ⟨(hqr q hq).1.1, (hM2.1.ir hM2.bd.2 (hqr q hq).2).2 (hmet q hq)⟩⟩, ⟨by omega, by omega⟩, ⟨(hM2.1.ir hM2.bd.2 aD).1, hcr⟩, hcA⟩) ?_
  refine ⟨?_, ?_⟩
  · intro c6
    refine And.intro (by
      first
        | omega
        | exact ⟨by omega, by omega⟩
        | exact ⟨⟨by omega, by omega⟩, by omega, by omega⟩
        | trivial
        | exact gir
        | exact ⟨gp0, by omega⟩
        | exact ⟨gp0, gp1⟩
        | exact ⟨⟨hv1, hA1.1, by omega, by omega⟩, ⟨by omega, by omega⟩, by decide, by decide⟩
        | exact ⟨hLL, fun q hq => (hqr q hq).1⟩
        | exact ⟨⟨by omega, by omega⟩, by omega, by omega⟩
        | exact ⟨⟨hLL, fun q hq => ⟨(hqr q hq).1.1, (hM2.1.ir hM2.bd.2 (hqr q hq).2).2 (hmet q hq)⟩⟩, ⟨by omega, by omega⟩, ⟨(hM2.1.ir hM2.bd.2 aD).1, hcr⟩, hcA⟩) ?_
    intro M13 hM13
    obtain ⟨r6, r7, r4, r8, r9, rm, rt, rf⟩ := wk_op_rows M pl (-1)
    have hM1 := gM.meet gA (q := pl) (fr := -1) gp0 gD (by first | assumption | exact Decidable.not_not.1 (by assumption)) rfl
    subst hM13
    refine ⟨_, rfl, rfl, by decide, rf, ?_, [pl.toNat], [pl.toNat], hM1, ⟨by omega, ?_⟩, fun z => (by cases z), ?_⟩
    · rw [r6, wk_u_s]; omega
    · rw [r8, wk_u_s]; rfl
    · rw [rm]
      simp only [List.length_cons, List.length_nil]
      omega
  · intro c6
    exact gK _ ⟨wk_fr.rf M, gM, by assumption⟩

set_option maxRecDepth 20000 in
theorem vc_X12_goFrom_20 (pl : Int) (M : ab_M) (K : List ab_V → ab_M → Prop) (hS : ((gc_A M ∧ tv_ok M) ∧ (0 ≤ pl ∧ pl < 33280 ∧ gc_D M 0 pl.toNat) ∧ wk_M M [] []) ∧ (∀ Mx : ab_M, (wk_fr M Mx ∧ wk_M Mx [] [] ∧ Mx 776 pl.toNat ≠ 0) → K [] Mx)) (n : Nat) (p1 : Int) (h : Int) (k : Int) (M1 : ab_M) (hI : n = (66560 - k).toNat ∧ pl = p1 ∧ 0 ≤ k ∧ wk_I M M1 pl h k) : (ab_ir k ∧ ab_ir (66560 : Int)) ∧ (((66560 : Int) ≤ k → K [] M1) ∧ (k < (66560 : Int) → (ab_ir h ∧ ab_ir (-1 : Int)) ∧ ((h = (-1 : Int) → K [] M1) ∧ (¬ h = (-1 : Int) → (-32768 ≤ (256 : Int) ∧ (256 : Int) < 32768) ∧ (0 ≤ h ∧ h < 2147483648 ∧ 0 < (256 : Int) ∧ (256 : Int) < 2147483648) ∧ (-32768 ≤ (256 : Int) ∧ (256 : Int) < 32768) ∧ (0 ≤ h ∧ h < 2147483648 ∧ 0 < (256 : Int) ∧ (256 : Int) < 2147483648) ∧ ((tv_ok M1 ∧ ts_p M1 ∧ 0 ≤ (h % (256 : Int)) ∧ (h % (256 : Int)) ≤ 255) ∧ (0 ≤ (h / (256 : Int)) ∧ (h / (256 : Int)) < 130) ∧ ab_ir (0 : Int)) ∧ (∀ r46 : Int, ∀ M46 : ab_M, (ts_L M46 (pl_fd M1 (h / (256 : Int)) (h % (256 : Int)) (0 : Int)).2 ∧ ts_f M1 M46) → (r46 = (pl_fd M1 (h / (256 : Int)) (h % (256 : Int)) (0 : Int)).1) → (∃ Ls_52 : List Int, (ts_L M46 Ls_52 ∧ ∀ q ∈ Ls_52, (0 ≤ q ∧ q < 33280) ∧ ab_ir (M46 776 q.toNat)) ∧ (∀ r52 : Int, ((r52 = -1 ∧ ∀ q ∈ Ls_52, M46 776 q.toNat ≠ 0) ∨ (r52 ∈ Ls_52 ∧ M46 776 r52.toNat = 0)) → (ab_ir r52 ∧ ab_ir (-1 : Int)) ∧ ((¬ r52 = (-1 : Int) → (0 ≤ r52 ∧ r52 < 33280) ∧ (∀ M84 : ab_M, (M84 = wk_op M46 r52 h) → (∃ n', n' < n ∧ ((n' = (66560 - (k + 1)).toNat ∧ pl = p1 ∧ 0 ≤ (k + 1) ∧ wk_I M M84 pl r52 (k + 1)))))) ∧ (r52 = (-1 : Int) → (∃ Ls_67 : List Int, ∃ U_67 : List Nat, ∃ T1_67 : List Nat, ((ts_L M46 Ls_67 ∧ ∀ q ∈ Ls_67, (0 ≤ q ∧ q < 33280) ∧ ab_ir (M46 777 q.toNat)) ∧ (0 ≤ h ∧ h < 33280) ∧ (ab_ir (M46 776 h.toNat) ∧ ab_ir r46) ∧ wk_cA M46 h.toNat U_67 T1_67) ∧ (∀ M67 : ab_M, (M67 = wk_fi M46 Ls_67 h r46 U_67) → (0 ≤ h ∧ h < ((33280 : Nat) : Int)) ∧ (∃ n', n' < n ∧ ((n' = (66560 - (k + 1)).toNat ∧ pl = p1 ∧ 0 ≤ (k + 1) ∧ wk_I M M67 pl (M67 778 h.toNat) (k + 1))))))))))))))) := by
  obtain ⟨hn, q1, hk0, hfr, hm0, T, A, hM, hch, hAT, hk⟩ := hI
  subst q1
  obtain ⟨⟨⟨gA, gv⟩, ⟨gp0, gp1, gD⟩, gM⟩, gK⟩ := hS
  have gb := gM.bd
  have gir := (gM.1.ir gb.2 gD).1
  have hb := hM.bd
  have hA1 := gc_A_e hfr.e gA
  have hv1 := ts_e_ok hfr.e gv
  have hpt : cr_wr (∀ t ∈ T, gc_D M1 0 t ∧ t < 33280) := fun t ht => ⟨(hM.1.2.1.1 t ht).1, (gc_D_C hA1 (hM.1.2.1.1 t ht).1).1.1⟩
  have hh : -1 ≤ h ∧ h < 33280 := by
    cases A with
    | nil => have z : h = -1 := hch; omega
    | cons a A =>
      have z : h = (a : Int) := hch.1
      have := (hpt a (hM.1.2.1.2.2.1 a List.mem_cons_self)).2
      omega
  refine And.intro (by
    first
      | omega
      | exact ⟨by omega, by omega⟩
      | exact ⟨⟨by omega, by omega⟩, by omega, by omega⟩
      | trivial
      | exact gir
      | exact ⟨gp0, by omega⟩
      | exact ⟨gp0, gp1⟩
      | exact ⟨⟨hv1, hA1.1, by omega, by omega⟩, ⟨by omega, by omega⟩, by decide, by decide⟩
      | exact ⟨hLL, fun q hq => (hqr q hq).1⟩
      | exact ⟨⟨by omega, by omega⟩, by omega, by omega⟩
      | exact ⟨⟨hLL, fun q hq => ⟨(hqr q hq).1.1, (hM2.1.ir hM2.bd.2 (hqr q hq).2).2 (hmet q hq)⟩⟩, ⟨by omega, by omega⟩, ⟨(hM2.1.ir hM2.bd.2 aD).1, hcr⟩, hcA⟩) ?_
  refine ⟨?_, ?_⟩
  · intro c23
    have hA0 : A = [] := by
      cases A with
      | nil => rfl
      | cons a A =>
        exfalso
        have z : h = (a : Int) := hch.1
        rw [List.length_cons] at hk
        omega
    subst hA0
    rw [hAT rfl] at hM
    exact gK _ ⟨hfr, hM, hm0⟩
  · intro c23
    refine And.intro (by
      first
        | omega
        | exact ⟨by omega, by omega⟩
        | exact ⟨⟨by omega, by omega⟩, by omega, by omega⟩
        | trivial
        | exact gir
        | exact ⟨gp0, by omega⟩
        | exact ⟨gp0, gp1⟩
        | exact ⟨⟨hv1, hA1.1, by omega, by omega⟩, ⟨by omega, by omega⟩, by decide, by decide⟩
        | exact ⟨hLL, fun q hq => (hqr q hq).1⟩
        | exact ⟨⟨by omega, by omega⟩, by omega, by omega⟩
        | exact ⟨⟨hLL, fun q hq => ⟨(hqr q hq).1.1, (hM2.1.ir hM2.bd.2 (hqr q hq).2).2 (hmet q hq)⟩⟩, ⟨by omega, by omega⟩, ⟨(hM2.1.ir hM2.bd.2 aD).1, hcr⟩, hcA⟩) ?_
    refine ⟨?_, ?_⟩
    · intro c28
      have hA0 : A = [] := by
        cases A with
        | nil => rfl
        | cons a A =>
          exfalso
          have z : h = (a : Int) := hch.1
          rw [List.length_cons] at hk
          omega
      subst hA0
      rw [hAT rfl] at hM
      exact gK _ ⟨hfr, hM, hm0⟩
    · intro c28
      refine And.intro (by
        first
          | omega
          | exact ⟨by omega, by omega⟩
          | exact ⟨⟨by omega, by omega⟩, by omega, by omega⟩
          | trivial
          | exact gir
          | exact ⟨gp0, by omega⟩
          | exact ⟨gp0, gp1⟩
          | exact ⟨⟨hv1, hA1.1, by omega, by omega⟩, ⟨by omega, by omega⟩, by decide, by decide⟩
          | exact ⟨hLL, fun q hq => (hqr q hq).1⟩
          | exact ⟨⟨by omega, by omega⟩, by omega, by omega⟩
          | exact ⟨⟨hLL, fun q hq => ⟨(hqr q hq).1.1, (hM2.1.ir hM2.bd.2 (hqr q hq).2).2 (hmet q hq)⟩⟩, ⟨by omega, by omega⟩, ⟨(hM2.1.ir hM2.bd.2 aD).1, hcr⟩, hcA⟩) ?_
      refine And.intro (by
        first
          | omega
          | exact ⟨by omega, by omega⟩
          | exact ⟨⟨by omega, by omega⟩, by omega, by omega⟩
          | trivial
          | exact gir
          | exact ⟨gp0, by omega⟩
          | exact ⟨gp0, gp1⟩
          | exact ⟨⟨hv1, hA1.1, by omega, by omega⟩, ⟨by omega, by omega⟩, by decide, by decide⟩
          | exact ⟨hLL, fun q hq => (hqr q hq).1⟩
          | exact ⟨⟨by omega, by omega⟩, by omega, by omega⟩
          | exact ⟨⟨hLL, fun q hq => ⟨(hqr q hq).1.1, (hM2.1.ir hM2.bd.2 (hqr q hq).2).2 (hmet q hq)⟩⟩, ⟨by omega, by omega⟩, ⟨(hM2.1.ir hM2.bd.2 aD).1, hcr⟩, hcA⟩) ?_
      refine And.intro (by
        first
          | omega
          | exact ⟨by omega, by omega⟩
          | exact ⟨⟨by omega, by omega⟩, by omega, by omega⟩
          | trivial
          | exact gir
          | exact ⟨gp0, by omega⟩
          | exact ⟨gp0, gp1⟩
          | exact ⟨⟨hv1, hA1.1, by omega, by omega⟩, ⟨by omega, by omega⟩, by decide, by decide⟩
          | exact ⟨hLL, fun q hq => (hqr q hq).1⟩
          | exact ⟨⟨by omega, by omega⟩, by omega, by omega⟩
          | exact ⟨⟨hLL, fun q hq => ⟨(hqr q hq).1.1, (hM2.1.ir hM2.bd.2 (hqr q hq).2).2 (hmet q hq)⟩⟩, ⟨by omega, by omega⟩, ⟨(hM2.1.ir hM2.bd.2 aD).1, hcr⟩, hcA⟩) ?_
      refine And.intro (by
        first
          | omega
          | exact ⟨by omega, by omega⟩
          | exact ⟨⟨by omega, by omega⟩, by omega, by omega⟩
          | trivial
          | exact gir
          | exact ⟨gp0, by omega⟩
          | exact ⟨gp0, gp1⟩
          | exact ⟨⟨hv1, hA1.1, by omega, by omega⟩, ⟨by omega, by omega⟩, by decide, by decide⟩
          | exact ⟨hLL, fun q hq => (hqr q hq).1⟩
          | exact ⟨⟨by omega, by omega⟩, by omega, by omega⟩
          | exact ⟨⟨hLL, fun q hq => ⟨(hqr q hq).1.1, (hM2.1.ir hM2.bd.2 (hqr q hq).2).2 (hmet q hq)⟩⟩, ⟨by omega, by omega⟩, ⟨(hM2.1.ir hM2.bd.2 aD).1, hcr⟩, hcA⟩) ?_
      refine And.intro (by
        first
          | omega
          | exact ⟨by omega, by omega⟩
          | exact ⟨⟨by omega, by omega⟩, by omega, by omega⟩
          | trivial
          | exact gir
          | exact ⟨gp0, by omega⟩
          | exact ⟨gp0, gp1⟩
          | exact ⟨⟨hv1, hA1.1, by omega, by omega⟩, ⟨by omega, by omega⟩, by decide, by decide⟩
          | exact ⟨hLL, fun q hq => (hqr q hq).1⟩
          | exact ⟨⟨by omega, by omega⟩, by omega, by omega⟩
          | exact ⟨⟨hLL, fun q hq => ⟨(hqr q hq).1.1, (hM2.1.ir hM2.bd.2 (hqr q hq).2).2 (hmet q hq)⟩⟩, ⟨by omega, by omega⟩, ⟨(hM2.1.ir hM2.bd.2 aD).1, hcr⟩, hcA⟩) ?_
      intro r46 M46 hM46 hr46
      cases A with
      | nil => exact absurd (show h = -1 from hch) (by assumption)
      | cons a A =>
      have ha : h = (a : Int) := hch.1
      subst ha
      have hM2 := hM.f hA1 hM46.2
      have hfr2 := hfr.tr hM46.2.w
      have hA2 := gc_A_e hfr2.e gA
      have hS2 : (pl_fd M1 ((a : Int) / 256) ((a : Int) % 256) 0).2 = gc_S M46 0 a := by
        have z := gc_S_at (M := M1) (cut := 0) (h := (a : Int)) (by omega)
        rw [Int.toNat_natCast] at z
        rw [← z, (gc_fr hM46.2.e hA1.1 0).1]
      have hc2 : r46 = (pl_fd M46 ((a / 256 : Nat) : Int) ((a % 256 : Nat) : Int) 0).1 := by
        rw [pl_fd_fr hM46.2.e hA1.1, hr46, show ((a : Int) / 256) = ((a / 256 : Nat) : Int) by omega, show ((a : Int) % 256) = ((a % 256 : Nat) : Int) by omega]
      have hcr : ab_ir r46 := by
        have z := pl_fd_c hA2.1 ((a / 256 : Nat) : Int) ((a % 256 : Nat) : Int) 0
        rw [← hc2] at z
        exact ⟨by omega, by omega⟩
      have hLL := hM46.1
      rw [hS2] at hLL
      have aD : gc_D M46 0 a := (hM2.1.2.1.1 a (hM2.1.2.1.2.2.1 a List.mem_cons_self)).1
      have e7 : M46 775 7 = M1 775 7 := hM46.2 775 7 (by decide) (by decide)
      have e78 : M46 778 = M1 778 := funext fun j => hM46.2 778 j (by decide) (fun z => absurd z.1 (by decide))
      have e76 : M46 776 = M1 776 := funext fun j => hM46.2 776 j (by decide) (fun z => absurd z.1 (by decide))
      have hqr : cr_wr (∀ q ∈ gc_S M46 0 a, ((0 ≤ q ∧ q < 33280) ∧ ab_ir (M46 776 q.toNat)) ∧ gc_D M46 0 q.toNat) := fun q hq => ⟨⟨gc_S_rng hq, (hM2.1.ir hM2.bd.2 (wk_DS hA2 0 a aD q hq)).1⟩, wk_DS hA2 0 a aD q hq⟩
      refine Exists.intro (gc_S M46 0 a) <| ?_
      refine And.intro (by
        first
          | omega
          | exact ⟨by omega, by omega⟩
          | exact ⟨⟨by omega, by omega⟩, by omega, by omega⟩
          | trivial
          | exact gir
          | exact ⟨gp0, by omega⟩
          | exact ⟨gp0, gp1⟩
          | exact ⟨⟨hv1, hA1.1, by omega, by omega⟩, ⟨by omega, by omega⟩, by decide, by decide⟩
          | exact ⟨hLL, fun q hq => (hqr q hq).1⟩
          | exact ⟨⟨by omega, by omega⟩, by omega, by omega⟩
          | exact ⟨⟨hLL, fun q hq => ⟨(hqr q hq).1.1, (hM2.1.ir hM2.bd.2 (hqr q hq).2).2 (hmet q hq)⟩⟩, ⟨by omega, by omega⟩, ⟨(hM2.1.ir hM2.bd.2 aD).1, hcr⟩, hcA⟩) ?_
      intro r52 hr52
      have hr52c : cr_wr _ := hr52
      clear hr52
      have hr52r : -1 ≤ r52 ∧ r52 < 33280 := by
        rcases hr52c with z | z
        · omega
        · have := (hqr _ z.1).1.1; omega
      refine And.intro (by
        first
          | omega
          | exact ⟨by omega, by omega⟩
          | exact ⟨⟨by omega, by omega⟩, by omega, by omega⟩
          | trivial
          | exact gir
          | exact ⟨gp0, by omega⟩
          | exact ⟨gp0, gp1⟩
          | exact ⟨⟨hv1, hA1.1, by omega, by omega⟩, ⟨by omega, by omega⟩, by decide, by decide⟩
          | exact ⟨hLL, fun q hq => (hqr q hq).1⟩
          | exact ⟨⟨by omega, by omega⟩, by omega, by omega⟩
          | exact ⟨⟨hLL, fun q hq => ⟨(hqr q hq).1.1, (hM2.1.ir hM2.bd.2 (hqr q hq).2).2 (hmet q hq)⟩⟩, ⟨by omega, by omega⟩, ⟨(hM2.1.ir hM2.bd.2 aD).1, hcr⟩, hcA⟩) ?_
      refine ⟨?_, ?_⟩
      · intro c60
        refine And.intro (by
          first
            | omega
            | exact ⟨by omega, by omega⟩
            | exact ⟨⟨by omega, by omega⟩, by omega, by omega⟩
            | trivial
            | exact gir
            | exact ⟨gp0, by omega⟩
            | exact ⟨gp0, gp1⟩
            | exact ⟨⟨hv1, hA1.1, by omega, by omega⟩, ⟨by omega, by omega⟩, by decide, by decide⟩
            | exact ⟨hLL, fun q hq => (hqr q hq).1⟩
            | exact ⟨⟨by omega, by omega⟩, by omega, by omega⟩
            | exact ⟨⟨hLL, fun q hq => ⟨(hqr q hq).1.1, (hM2.1.ir hM2.bd.2 (hqr q hq).2).2 (hmet q hq)⟩⟩, ⟨by omega, by omega⟩, ⟨(hM2.1.ir hM2.bd.2 aD).1, hcr⟩, hcA⟩) ?_
        intro M84 hM84
        obtain ⟨z1, z2⟩ := hr52c.resolve_left (fun z => absurd z.1 (by assumption))
        have hq := hqr _ z1
        obtain ⟨r6, r7, r4, r8, r9, rm, rt, rf⟩ := wk_op_rows M46 r52 (a : Int)
        have hM3 := hM2.meet hA2 (q := r52) (fr := (a : Int)) hq.1.1.1 hq.2 z2 ⟨r52, z1, rfl⟩
        have hm2 : M46 776 pl.toNat ≠ 0 := by rw [e76]; exact hm0
        have hnA : r52.toNat ∉ a :: A := fun z => (hM2.1.2.1.1 _ (hM2.1.2.1.2.2.1 _ z)).2.1 z2
        subst hM84
        refine ⟨_, ?_, rfl, rfl, by omega, hfr2.tr rf, ?_, r52.toNat :: T, r52.toNat :: a :: A, hM3, ⟨by omega, ?_⟩, fun z => (by cases z), ?_⟩
        · omega
        · rw [r6, wk_u_n fun z => hm2 (by rw [z]; exact z2)]; exact hm2
        · rw [r8, wk_u_s]
          refine wk_ch_u hnA ?_
          rw [e78]
          exact hch
        · rw [rm, e7, List.length_cons]
          omega
      · intro c60
        have hmet : ∀ q ∈ gc_S M46 0 a, M46 776 q.toNat ≠ 0 := by
          rcases hr52c with z | z
          · exact z.2
          · have := (hqr _ z.1).1.1; omega
        obtain ⟨U, T1, hT⟩ := List.append_of_mem (hM2.1.2.1.2.2.1 a List.mem_cons_self)
        subst hT
        have hcA := hM2.cA hA2
        obtain ⟨T', t1, t2, t3, t4, t5, t6⟩ := hM2.fin hA2 hmet hc2
        refine Exists.intro (gc_S M46 0 a) <| Exists.intro (U) <| Exists.intro (T1) <| ?_
        refine And.intro (by
          first
            | omega
            | exact ⟨by omega, by omega⟩
            | exact ⟨⟨by omega, by omega⟩, by omega, by omega⟩
            | trivial
            | exact gir
            | exact ⟨gp0, by omega⟩
            | exact ⟨gp0, gp1⟩
            | exact ⟨⟨hv1, hA1.1, by omega, by omega⟩, ⟨by omega, by omega⟩, by decide, by decide⟩
            | exact ⟨hLL, fun q hq => (hqr q hq).1⟩
            | exact ⟨⟨by omega, by omega⟩, by omega, by omega⟩
            | exact ⟨⟨hLL, fun q hq => ⟨(hqr q hq).1.1, (hM2.1.ir hM2.bd.2 (hqr q hq).2).2 (hmet q hq)⟩⟩, ⟨by omega, by omega⟩, ⟨(hM2.1.ir hM2.bd.2 aD).1, hcr⟩, hcA⟩) ?_
        intro M67 hM67
        refine And.intro (by
          first
            | omega
            | exact ⟨by omega, by omega⟩
            | exact ⟨⟨by omega, by omega⟩, by omega, by omega⟩
            | trivial
            | exact gir
            | exact ⟨gp0, by omega⟩
            | exact ⟨gp0, gp1⟩
            | exact ⟨⟨hv1, hA1.1, by omega, by omega⟩, ⟨by omega, by omega⟩, by decide, by decide⟩
            | exact ⟨hLL, fun q hq => (hqr q hq).1⟩
            | exact ⟨⟨by omega, by omega⟩, by omega, by omega⟩
            | exact ⟨⟨hLL, fun q hq => ⟨(hqr q hq).1.1, (hM2.1.ir hM2.bd.2 (hqr q hq).2).2 (hmet q hq)⟩⟩, ⟨by omega, by omega⟩, ⟨(hM2.1.ir hM2.bd.2 aD).1, hcr⟩, hcA⟩) ?_
        subst hM67
        have hm2 : M46 776 pl.toNat ≠ 0 := by rw [e76]; exact hm0
        refine ⟨_, ?_, rfl, rfl, by omega, hfr2.tr t6, ?_, T', A, t1, ?_, t2, ?_⟩
        · omega
        · rw [t4]; exact hm2
        · rw [t3, e78]; exact hch.2
        · rw [t5, e7]
          rw [List.length_cons] at hk
          omega

set_option maxRecDepth 20000 in
set_option maxHeartbeats 1000000 in
theorem ok_X12_goFrom (E : ab_E) : ab_Ok E 5 211 S_X12_goFrom := by
  refine ab_mk rq_X12_goFrom tk_X12_goFrom (rt := 0) (rfl) (cuts := [20]) (G := [(209, S_X12_finish), (210, S_X12_firstNotMet), (214, S_X12_open), (61, S_X5_find)]) (List.forall_mem_cons.mpr ⟨⟨2, by decide, ok_X12_finish E⟩, List.forall_mem_cons.mpr ⟨⟨1, by decide, ok_X12_firstNotMet E⟩, List.forall_mem_cons.mpr ⟨⟨1, by decide, ok_X12_open E⟩, List.forall_mem_cons.mpr ⟨⟨4, by decide, ok_X5_find E⟩, fun _ h => absurd h List.not_mem_nil⟩⟩⟩⟩) (by decide) 106 rfl ?_
  intro a M K wd wa hS
  unfold S_X12_goFrom at hS
  split at hS
  ·
    rename_i pl
    refine ⟨Nat.le_of_ble_eq_true rfl, fun pc n L st M1 => match pc, L, st with
      | 20, [.inr (.inr (.inr (775, 12, 0))), .inr (.inl p1), .inr (.inl h), .inr (.inl k), u5_, u6_], [] => (n = (66560 - k).toNat ∧ pl = p1 ∧ 0 ≤ k ∧ wk_I M M1 pl h k)
      | _, _, _ => False, ?_, ?_⟩
    · exact vc_X12_goFrom_0 pl M K  hS
    · intro pc n L st M1 hI wd1 wL wst
      (try dsimp only at hI)
      split at hI
      ·
        rename_i p1 h k u5_ u6_
        exact vc_X12_goFrom_20 pl M K  hS n p1 h k _ hI
      · exact hI.elim
  · exact hS.elim
def S_X12_findOutcomes : ab_PT := fun a M K => match a with
  | [.inr (.inr (.inr (775, 12, 0))), .inr (.inr (.inr (785, 20, 256)))] => (gc_A M ∧ tv_ok M) ∧ (∀ Mx : ab_M, (wo_F M Mx ∧ Mx 775 9 = -1 ∧ fo_O M Mx 785 0 256) → K [] Mx)
  | _ => False
set_option maxRecDepth 20000 in
theorem vc_X12_findOutcomes_0  (M : ab_M) (K : List ab_V → ab_M → Prop) (hS : (gc_A M ∧ tv_ok M) ∧ (∀ Mx : ab_M, (wo_F M Mx ∧ Mx 775 9 = -1 ∧ fo_O M Mx 785 0 256) → K [] Mx)) : (0 ≤ M 26 3 ∧ M 26 3 ≤ 120) ∧ (∀ M1 : ab_M, ((∀ j : Nat, cu_C (M 26 3) j → M1 776 j = 0) ∧ M1 775 7 = 0 ∧ M1 775 8 = -1 ∧ M1 775 9 = -1 ∧ ∀ o' k' : Nat, o' ≠ 776 → ¬ (o' = 775 ∧ 7 ≤ k' ∧ k' ≤ 9) → M1 o' k' = M o' k') → (∃ n', ((n' = (256 - (0 : Int)).toNat ∧ 0 ≤ (0 : Int) ∧ (0 : Int) ≤ 256 ∧ wo_F M M1 ∧ M1 775 9 = -1 ∧ wk_M M1 [] [] ∧ fo_O M M1 785 0 (0 : Int))))) := by
  obtain ⟨⟨gA, gv⟩, gK⟩ := hS
  have gL := gA.2.1
  have gp := gA.1
  have g3 := gL.1
  
  refine And.intro (by
    first
      | omega
      | exact ⟨by omega, by omega⟩
      | exact ⟨⟨by omega, by omega⟩, by omega, by omega⟩
      | trivial
      | exact ⟨⟨by omega, by omega⟩, by omega, by omega⟩
      | (rw [hr17, hst]; exact ⟨⟨hA1, hv1⟩, ⟨by omega, by omega, by rw [Int.toNat_natCast, ← es]; exact pr_s_D 0 (by omega)⟩, hM⟩)
      | (rw [hr17, hst]; exact ⟨by omega, by omega⟩)) ?_
  intro M1 hM1
  obtain ⟨s1, s2, s3, s4, s5⟩ := hM1
  have hf : wo_F M M1 := fun o k _ b _ d _ => s5 o k (by omega) d
  have hfe : ts_e M M1 := fun o k q => hf o k (by omega) (by omega) (by omega) (by omega) (by omega)
  refine ⟨_, rfl, by decide, by decide, hf, s4, ?_, fun s hs => by omega⟩
  refine wk_M.of gA hfe rfl rfl rfl s2 (wk_T.start fun j hj => s1 j (gc_D_C gA hj).1) s3 ?_
  rw [wk_n_0 s1]
  rfl

set_option maxRecDepth 20000 in
theorem vc_X12_findOutcomes_6  (M : ab_M) (K : List ab_V → ab_M → Prop) (hS : (gc_A M ∧ tv_ok M) ∧ (∀ Mx : ab_M, (wo_F M Mx ∧ Mx 775 9 = -1 ∧ fo_O M Mx 785 0 256) → K [] Mx)) (n : Nat) (k : Int) (M1 : ab_M) (hI : n = (256 - k).toNat ∧ 0 ≤ k ∧ k ≤ 256 ∧ wo_F M M1 ∧ M1 775 9 = -1 ∧ wk_M M1 [] [] ∧ fo_O M M1 785 0 k) : (-32768 ≤ (256 : Int) ∧ (256 : Int) < 32768) ∧ (ab_ir k ∧ ab_ir (256 : Int)) ∧ (((256 : Int) ≤ k → K [] M1) ∧ (k < (256 : Int) → (0 ≤ M1 26 3 ∧ M1 26 3 ≤ 120) ∧ (∀ r17 : Int, (r17 = if 0 < M1 26 3 then 0 else 120) → (-32768 ≤ (256 : Int) ∧ (256 : Int) < 32768) ∧ ((gc_A M1 ∧ tv_ok M1) ∧ (0 ≤ ((r17 * (256 : Int)) + k) ∧ ((r17 * (256 : Int)) + k) < 33280 ∧ gc_D M1 0 ((r17 * (256 : Int)) + k).toNat) ∧ wk_M M1 [] []) ∧ (∀ M29 : ab_M, (wk_fr M1 M29 ∧ wk_M M29 [] [] ∧ M29 776 ((r17 * (256 : Int)) + k).toNat ≠ 0) → (0 ≤ ((r17 * (256 : Int)) + k) ∧ ((r17 * (256 : Int)) + k) < ((33280 : Nat) : Int)) ∧ (0 ≤ k ∧ k < ((256 : Nat) : Int)) ∧ (∃ n', n' < n ∧ ((n' = (256 - (k + 1)).toNat ∧ 0 ≤ (k + 1) ∧ (k + 1) ≤ 256 ∧ wo_F M (ab_up M29 785 k.toNat (M29 774 (((r17 * (256 : Int)) + k).toNat))) ∧ (ab_up M29 785 k.toNat (M29 774 (((r17 * (256 : Int)) + k).toNat))) 775 9 = -1 ∧ wk_M (ab_up M29 785 k.toNat (M29 774 (((r17 * (256 : Int)) + k).toNat))) [] [] ∧ fo_O M (ab_up M29 785 k.toNat (M29 774 (((r17 * (256 : Int)) + k).toNat))) 785 0 (k + 1)))))))) := by
  obtain ⟨hn, hk0, hk1, hf, h9, hM, hO⟩ := hI
  obtain ⟨⟨gA, gv⟩, gK⟩ := hS
  have gL := gA.2.1
  have gp := gA.1
  have g3 := gL.1
  have hfe : ts_e M M1 := fun o k q => hf o k (by omega) (by omega) (by omega) (by omega) (by omega)
  have e3 : M1 26 3 = M 26 3 := hfe.c 26 3 (by decide)
  have hA1 := gc_A_e hfe gA
  have hv1 := ts_e_ok hfe gv
  have es : pr_s M1 = pr_s M := by unfold pr_s; rw [e3]
  have hps : pr_s M = 0 ∨ pr_s M = 120 := by unfold pr_s; split <;> first | exact Or.inl rfl | exact Or.inr rfl
  have hst : (if 0 < M1 26 3 then (0 : Int) else 120) * 256 + k = ((pr_s M * 256 + k.toNat : Nat) : Int) := by
    unfold pr_s
    rw [e3]
    split <;> omega
  refine And.intro (by
    first
      | omega
      | exact ⟨by omega, by omega⟩
      | exact ⟨⟨by omega, by omega⟩, by omega, by omega⟩
      | trivial
      | exact ⟨⟨by omega, by omega⟩, by omega, by omega⟩
      | (rw [hr17, hst]; exact ⟨⟨hA1, hv1⟩, ⟨by omega, by omega, by rw [Int.toNat_natCast, ← es]; exact pr_s_D 0 (by omega)⟩, hM⟩)
      | (rw [hr17, hst]; exact ⟨by omega, by omega⟩)) ?_
  refine And.intro (by
    first
      | omega
      | exact ⟨by omega, by omega⟩
      | exact ⟨⟨by omega, by omega⟩, by omega, by omega⟩
      | trivial
      | exact ⟨⟨by omega, by omega⟩, by omega, by omega⟩
      | (rw [hr17, hst]; exact ⟨⟨hA1, hv1⟩, ⟨by omega, by omega, by rw [Int.toNat_natCast, ← es]; exact pr_s_D 0 (by omega)⟩, hM⟩)
      | (rw [hr17, hst]; exact ⟨by omega, by omega⟩)) ?_
  refine ⟨?_, ?_⟩
  · intro c10
    rw [show k = 256 by omega] at hO
    exact gK _ ⟨hf, h9, hO⟩
  · intro c10
    refine And.intro (by
      first
        | omega
        | exact ⟨by omega, by omega⟩
        | exact ⟨⟨by omega, by omega⟩, by omega, by omega⟩
        | trivial
        | exact ⟨⟨by omega, by omega⟩, by omega, by omega⟩
        | (rw [hr17, hst]; exact ⟨⟨hA1, hv1⟩, ⟨by omega, by omega, by rw [Int.toNat_natCast, ← es]; exact pr_s_D 0 (by omega)⟩, hM⟩)
        | (rw [hr17, hst]; exact ⟨by omega, by omega⟩)) ?_
    intro r17 hr17
    refine And.intro (by
      first
        | omega
        | exact ⟨by omega, by omega⟩
        | exact ⟨⟨by omega, by omega⟩, by omega, by omega⟩
        | trivial
        | exact ⟨⟨by omega, by omega⟩, by omega, by omega⟩
        | (rw [hr17, hst]; exact ⟨⟨hA1, hv1⟩, ⟨by omega, by omega, by rw [Int.toNat_natCast, ← es]; exact pr_s_D 0 (by omega)⟩, hM⟩)
        | (rw [hr17, hst]; exact ⟨by omega, by omega⟩)) ?_
    refine And.intro (by
      first
        | omega
        | exact ⟨by omega, by omega⟩
        | exact ⟨⟨by omega, by omega⟩, by omega, by omega⟩
        | trivial
        | exact ⟨⟨by omega, by omega⟩, by omega, by omega⟩
        | (rw [hr17, hst]; exact ⟨⟨hA1, hv1⟩, ⟨by omega, by omega, by rw [Int.toNat_natCast, ← es]; exact pr_s_D 0 (by omega)⟩, hM⟩)
        | (rw [hr17, hst]; exact ⟨by omega, by omega⟩)) ?_
    intro M29 hM29
    refine And.intro (by
      first
        | omega
        | exact ⟨by omega, by omega⟩
        | exact ⟨⟨by omega, by omega⟩, by omega, by omega⟩
        | trivial
        | exact ⟨⟨by omega, by omega⟩, by omega, by omega⟩
        | (rw [hr17, hst]; exact ⟨⟨hA1, hv1⟩, ⟨by omega, by omega, by rw [Int.toNat_natCast, ← es]; exact pr_s_D 0 (by omega)⟩, hM⟩)
        | (rw [hr17, hst]; exact ⟨by omega, by omega⟩)) ?_
    refine And.intro (by
      first
        | omega
        | exact ⟨by omega, by omega⟩
        | exact ⟨⟨by omega, by omega⟩, by omega, by omega⟩
        | trivial
        | exact ⟨⟨by omega, by omega⟩, by omega, by omega⟩
        | (rw [hr17, hst]; exact ⟨⟨hA1, hv1⟩, ⟨by omega, by omega, by rw [Int.toNat_natCast, ← es]; exact pr_s_D 0 (by omega)⟩, hM⟩)
        | (rw [hr17, hst]; exact ⟨by omega, by omega⟩)) ?_
    rw [hr17, hst, Int.toNat_natCast] at hM29
    obtain ⟨t1, t2, t3⟩ := hM29
    have hf2 : ts_e M M29 := hfe.trans t1.e
    have hA2 := gc_A_e hf2 gA
    rw [hr17, hst, Int.toNat_natCast]
    have hdn := fun b hb => wk_T.done (wk_DS hA2 0) t2.1 (j := pr_s M * 256 + k.toNat) (b := b) (by rw [← es, ← show pr_s M29 = pr_s M1 from by unfold pr_s; rw [t1.e.c 26 3 (by decide)]]; exact pr_s_D 0 (by omega)) t3 hb
    rw [(gc_fr hf2 gp 0).1, (gc_fr hf2 gp 0).2] at hdn
    refine ⟨_, ?_, rfl, by omega, by omega, fun o k' a b c d e => ?_, ?_, ?_, fun s hs b hb => ?_⟩
    · omega
    · rw [ab_up_o e]; exact (t1 o k' a b c (by omega)).trans (hf o k' a b c d e)
    · rw [ab_up_o (by decide), t1 775 9 (by decide) (by decide) (by decide) (by decide)]; exact h9
    · refine wk_M.of hA2 (fun o k' q => ab_up_o (by omega) _) (wk_ro (by decide)) (wk_ro (by decide)) (wk_ro (by decide)) (ab_up_o (by decide) _) t2.1 ?_ t2.2.2
      rw [wk_ro (by decide), ab_up_o (by decide)]
      exact t2.2.1
    · by_cases e : (s : Int) = k
      · rw [show k.toNat = s by omega, ab_up_s, pz_b_lb _ hb]
        have z := hdn b (by omega)
        rw [show k.toNat = s by omega] at z
        exact z
      · rw [ab_up_k (by omega), t1 785 _ (by decide) (by decide) (by omega) (by omega)]
        exact hO s (by omega) b hb

set_option maxRecDepth 20000 in
set_option maxHeartbeats 1000000 in
theorem ok_X12_findOutcomes (E : ab_E) : ab_Ok E 6 208 S_X12_findOutcomes := by
  refine ab_mk rq_X12_findOutcomes tk_X12_findOutcomes (rt := 0) (rfl) (cuts := [6]) (G := [(211, S_X12_goFrom), (216, S_X12_startAgain), (28, S_X1_startRow)]) (List.forall_mem_cons.mpr ⟨⟨5, by decide, ok_X12_goFrom E⟩, List.forall_mem_cons.mpr ⟨⟨3, by decide, ok_X12_startAgain E⟩, List.forall_mem_cons.mpr ⟨⟨1, by decide, ok_X1_startRow E⟩, fun _ h => absurd h List.not_mem_nil⟩⟩⟩) (by decide) 79 rfl ?_
  intro a M K wd wa hS
  unfold S_X12_findOutcomes at hS
  split at hS
  ·
    refine ⟨Nat.le_of_ble_eq_true rfl, fun pc n L st M1 => match pc, L, st with
      | 6, [.inr (.inr (.inr (775, 12, 0))), .inr (.inr (.inr (785, 20, 256))), .inr (.inl k), u4_], [] => (n = (256 - k).toNat ∧ 0 ≤ k ∧ k ≤ 256 ∧ wo_F M M1 ∧ M1 775 9 = -1 ∧ wk_M M1 [] [] ∧ fo_O M M1 785 0 k)
      | _, _, _ => False, ?_, ?_⟩
    · exact vc_X12_findOutcomes_0  M K  hS
    · intro pc n L st M1 hI wd1 wL wst
      (try dsimp only at hI)
      split at hI
      ·
        rename_i k u4_
        exact vc_X12_findOutcomes_6  M K  hS n k _ hI
      · exact hI.elim
  · exact hS.elim
def S_X12_mark : ab_PT := fun a M K => match a with
  | [.inr (.inr (.inr (775, 12, 0))), .inr (.inl cut), .inr (.inl zz)] => ((gc_A M ∧ tv_ok M) ∧ (cut = 0 ∨ cut = 1) ∧ (0 ≤ zz ∧ zz ≤ 255) ∧ ab_ir (M 775 9)) ∧ (∀ Mx : ab_M, ((M 775 9 = cut * 256 + zz → Mx = M) ∧ (¬ M 775 9 = cut * 256 + zz → wm_P M Mx cut zz)) → K [] Mx)
  | _ => False
set_option maxRecDepth 20000 in
theorem vc_X12_mark_0 (cut : Int) (zz : Int) (M : ab_M) (K : List ab_V → ab_M → Prop) (hS : ((gc_A M ∧ tv_ok M) ∧ (cut = 0 ∨ cut = 1) ∧ (0 ≤ zz ∧ zz ≤ 255) ∧ ab_ir (M 775 9)) ∧ (∀ Mx : ab_M, ((M 775 9 = cut * 256 + zz → Mx = M) ∧ (¬ M 775 9 = cut * 256 + zz → wm_P M Mx cut zz)) → K [] Mx)) : (-32768 ≤ (256 : Int) ∧ (256 : Int) < 32768) ∧ (ab_ir (M 775 9) ∧ ab_ir ((cut * (256 : Int)) + zz)) ∧ ((¬ (M 775 9) = ((cut * (256 : Int)) + zz) → (0 ≤ M 26 3 ∧ M 26 3 ≤ 120) ∧ (∀ M18 : ab_M, ((∀ j : Nat, cu_C (M 26 3) j → M18 776 j = 0) ∧ M18 775 7 = 0 ∧ M18 775 8 = -1 ∧ M18 775 9 = -1 ∧ ∀ o' k' : Nat, o' ≠ 776 → ¬ (o' = 775 ∧ 7 ≤ k' ∧ k' ≤ 9) → M18 o' k' = M o' k') → (0 ≤ M18 26 3 ∧ M18 26 3 ≤ 120) ∧ (∀ r25 : Int, (r25 = if 0 < M18 26 3 then 0 else 120) → (-32768 ≤ (256 : Int) ∧ (256 : Int) < 32768) ∧ (-32768 ≤ (255 : Int) ∧ (255 : Int) < 32768) ∧ (0 ≤ ((r25 * (256 : Int)) + (ab_and zz (255 : Int))) ∧ ((r25 * (256 : Int)) + (ab_and zz (255 : Int))) < ((33280 : Nat) : Int)) ∧ (0 ≤ ((r25 * (256 : Int)) + (ab_and zz (255 : Int))) ∧ ((r25 * (256 : Int)) + (ab_and zz (255 : Int))) < ((33280 : Nat) : Int)) ∧ (∃ n', ((n' = ((33281 - (0 : Int)) * 1000).toNat ∧ cut = cut ∧ zz = zz ∧ ((cut * (256 : Int)) + zz) = cut * 256 + zz ∧ ¬ M 775 9 = cut * 256 + zz ∧ 0 ≤ (0 : Int) ∧ (0 : Int) ≤ 33280 ∧ wm_I M (ab_up (ab_up M18 776 (((r25 * (256 : Int)) + (ab_and zz (255 : Int))).toNat) (1 : Int)) 779 (((r25 * (256 : Int)) + (ab_and zz (255 : Int))).toNat) (-1 : Int)) cut zz ((r25 * (256 : Int)) + (ab_and zz (255 : Int))) (0 : Int) (fun _ => False))))))) ∧ ((M 775 9) = ((cut * (256 : Int)) + zz) → K [] M)) := by
  obtain ⟨⟨⟨gA, gv⟩, gc, gz, g9⟩, gK⟩ := hS
  have gL := gA.2.1
  have gp := gA.1
  have g3 := gL.1
  have hps : pr_s M = 0 ∨ pr_s M = 120 := by unfold pr_s; split <;> first | exact Or.inl rfl | exact Or.inr rfl
  have hsD := pr_s_D (M := M) cut (s := zz.toNat) (by omega)
  have hcr : ab_ir cut := by omega
  
  refine And.intro (by
    first
      | omega
      | exact ⟨by omega, by omega⟩
      | exact ⟨⟨by omega, by omega⟩, by omega, by omega⟩
      | trivial
      | exact ⟨g9, by omega, by omega⟩
      | (have e3 : M18 26 3 = M 26 3 := hM18.2.2.2.2 26 3 (by decide) (by decide); rw [e3]; exact g3)
      | (rw [hr25]; have hpr := pz_and_r zz (b := 255) (by decide) (by decide); split <;> exact ⟨by omega, by omega⟩)
      | exact ⟨⟨hv1, hp1, by omega, by omega⟩, ⟨by omega, by omega⟩, hcr⟩
      | exact ⟨⟨by omega, by omega⟩, by omega, by omega⟩
      | (have e := hel (by omega); have hqr := gc_S_rng e.2; rw [← e.1] at hqr; exact ⟨hqr.1, hqr.2⟩)
      | (have e := hel (by omega); have z := hN01 _ (wk_DS gA cut _ hhD _ e.2); rw [← e.1] at z; rcases z with z | z <;> (rw [z]; exact ⟨by decide, by decide⟩))) ?_
  refine And.intro (by
    first
      | omega
      | exact ⟨by omega, by omega⟩
      | exact ⟨⟨by omega, by omega⟩, by omega, by omega⟩
      | trivial
      | exact ⟨g9, by omega, by omega⟩
      | (have e3 : M18 26 3 = M 26 3 := hM18.2.2.2.2 26 3 (by decide) (by decide); rw [e3]; exact g3)
      | (rw [hr25]; have hpr := pz_and_r zz (b := 255) (by decide) (by decide); split <;> exact ⟨by omega, by omega⟩)
      | exact ⟨⟨hv1, hp1, by omega, by omega⟩, ⟨by omega, by omega⟩, hcr⟩
      | exact ⟨⟨by omega, by omega⟩, by omega, by omega⟩
      | (have e := hel (by omega); have hqr := gc_S_rng e.2; rw [← e.1] at hqr; exact ⟨hqr.1, hqr.2⟩)
      | (have e := hel (by omega); have z := hN01 _ (wk_DS gA cut _ hhD _ e.2); rw [← e.1] at z; rcases z with z | z <;> (rw [z]; exact ⟨by decide, by decide⟩))) ?_
  refine ⟨?_, ?_⟩
  · intro c13
    refine And.intro (by
      first
        | omega
        | exact ⟨by omega, by omega⟩
        | exact ⟨⟨by omega, by omega⟩, by omega, by omega⟩
        | trivial
        | exact ⟨g9, by omega, by omega⟩
        | (have e3 : M18 26 3 = M 26 3 := hM18.2.2.2.2 26 3 (by decide) (by decide); rw [e3]; exact g3)
        | (rw [hr25]; have hpr := pz_and_r zz (b := 255) (by decide) (by decide); split <;> exact ⟨by omega, by omega⟩)
        | exact ⟨⟨hv1, hp1, by omega, by omega⟩, ⟨by omega, by omega⟩, hcr⟩
        | exact ⟨⟨by omega, by omega⟩, by omega, by omega⟩
        | (have e := hel (by omega); have hqr := gc_S_rng e.2; rw [← e.1] at hqr; exact ⟨hqr.1, hqr.2⟩)
        | (have e := hel (by omega); have z := hN01 _ (wk_DS gA cut _ hhD _ e.2); rw [← e.1] at z; rcases z with z | z <;> (rw [z]; exact ⟨by decide, by decide⟩))) ?_
    intro M18 hM18
    refine And.intro (by
      first
        | omega
        | exact ⟨by omega, by omega⟩
        | exact ⟨⟨by omega, by omega⟩, by omega, by omega⟩
        | trivial
        | exact ⟨g9, by omega, by omega⟩
        | (have e3 : M18 26 3 = M 26 3 := hM18.2.2.2.2 26 3 (by decide) (by decide); rw [e3]; exact g3)
        | (rw [hr25]; have hpr := pz_and_r zz (b := 255) (by decide) (by decide); split <;> exact ⟨by omega, by omega⟩)
        | exact ⟨⟨hv1, hp1, by omega, by omega⟩, ⟨by omega, by omega⟩, hcr⟩
        | exact ⟨⟨by omega, by omega⟩, by omega, by omega⟩
        | (have e := hel (by omega); have hqr := gc_S_rng e.2; rw [← e.1] at hqr; exact ⟨hqr.1, hqr.2⟩)
        | (have e := hel (by omega); have z := hN01 _ (wk_DS gA cut _ hhD _ e.2); rw [← e.1] at z; rcases z with z | z <;> (rw [z]; exact ⟨by decide, by decide⟩))) ?_
    intro r25 hr25
    refine And.intro (by
      first
        | omega
        | exact ⟨by omega, by omega⟩
        | exact ⟨⟨by omega, by omega⟩, by omega, by omega⟩
        | trivial
        | exact ⟨g9, by omega, by omega⟩
        | (have e3 : M18 26 3 = M 26 3 := hM18.2.2.2.2 26 3 (by decide) (by decide); rw [e3]; exact g3)
        | (rw [hr25]; have hpr := pz_and_r zz (b := 255) (by decide) (by decide); split <;> exact ⟨by omega, by omega⟩)
        | exact ⟨⟨hv1, hp1, by omega, by omega⟩, ⟨by omega, by omega⟩, hcr⟩
        | exact ⟨⟨by omega, by omega⟩, by omega, by omega⟩
        | (have e := hel (by omega); have hqr := gc_S_rng e.2; rw [← e.1] at hqr; exact ⟨hqr.1, hqr.2⟩)
        | (have e := hel (by omega); have z := hN01 _ (wk_DS gA cut _ hhD _ e.2); rw [← e.1] at z; rcases z with z | z <;> (rw [z]; exact ⟨by decide, by decide⟩))) ?_
    refine And.intro (by
      first
        | omega
        | exact ⟨by omega, by omega⟩
        | exact ⟨⟨by omega, by omega⟩, by omega, by omega⟩
        | trivial
        | exact ⟨g9, by omega, by omega⟩
        | (have e3 : M18 26 3 = M 26 3 := hM18.2.2.2.2 26 3 (by decide) (by decide); rw [e3]; exact g3)
        | (rw [hr25]; have hpr := pz_and_r zz (b := 255) (by decide) (by decide); split <;> exact ⟨by omega, by omega⟩)
        | exact ⟨⟨hv1, hp1, by omega, by omega⟩, ⟨by omega, by omega⟩, hcr⟩
        | exact ⟨⟨by omega, by omega⟩, by omega, by omega⟩
        | (have e := hel (by omega); have hqr := gc_S_rng e.2; rw [← e.1] at hqr; exact ⟨hqr.1, hqr.2⟩)
        | (have e := hel (by omega); have z := hN01 _ (wk_DS gA cut _ hhD _ e.2); rw [← e.1] at z; rcases z with z | z <;> (rw [z]; exact ⟨by decide, by decide⟩))) ?_
    refine And.intro (by
      first
        | omega
        | exact ⟨by omega, by omega⟩
        | exact ⟨⟨by omega, by omega⟩, by omega, by omega⟩
        | trivial
        | exact ⟨g9, by omega, by omega⟩
        | (have e3 : M18 26 3 = M 26 3 := hM18.2.2.2.2 26 3 (by decide) (by decide); rw [e3]; exact g3)
        | (rw [hr25]; have hpr := pz_and_r zz (b := 255) (by decide) (by decide); split <;> exact ⟨by omega, by omega⟩)
        | exact ⟨⟨hv1, hp1, by omega, by omega⟩, ⟨by omega, by omega⟩, hcr⟩
        | exact ⟨⟨by omega, by omega⟩, by omega, by omega⟩
        | (have e := hel (by omega); have hqr := gc_S_rng e.2; rw [← e.1] at hqr; exact ⟨hqr.1, hqr.2⟩)
        | (have e := hel (by omega); have z := hN01 _ (wk_DS gA cut _ hhD _ e.2); rw [← e.1] at z; rcases z with z | z <;> (rw [z]; exact ⟨by decide, by decide⟩))) ?_
    refine And.intro (by
      first
        | omega
        | exact ⟨by omega, by omega⟩
        | exact ⟨⟨by omega, by omega⟩, by omega, by omega⟩
        | trivial
        | exact ⟨g9, by omega, by omega⟩
        | (have e3 : M18 26 3 = M 26 3 := hM18.2.2.2.2 26 3 (by decide) (by decide); rw [e3]; exact g3)
        | (rw [hr25]; have hpr := pz_and_r zz (b := 255) (by decide) (by decide); split <;> exact ⟨by omega, by omega⟩)
        | exact ⟨⟨hv1, hp1, by omega, by omega⟩, ⟨by omega, by omega⟩, hcr⟩
        | exact ⟨⟨by omega, by omega⟩, by omega, by omega⟩
        | (have e := hel (by omega); have hqr := gc_S_rng e.2; rw [← e.1] at hqr; exact ⟨hqr.1, hqr.2⟩)
        | (have e := hel (by omega); have z := hN01 _ (wk_DS gA cut _ hhD _ e.2); rw [← e.1] at z; rcases z with z | z <;> (rw [z]; exact ⟨by decide, by decide⟩))) ?_
    obtain ⟨s1, s2, s3, s4, s5⟩ := hM18
    have e3 : M18 26 3 = M 26 3 := s5 26 3 (by decide) (by decide)
    have hz255 : ab_and zz 255 = zz := by
      have key : ∀ z : Fin 256, ab_and ((z.val : Nat) : Int) 255 = ((z.val : Nat) : Int) := by decide +kernel
      have := key ⟨zz.toNat, by omega⟩
      rw [show (((⟨zz.toNat, by omega⟩ : Fin 256).val : Nat) : Int) = zz from Int.toNat_of_nonneg gz.1] at this
      exact this
    have hst : r25 * 256 + ab_and zz 255 = ((pr_s M * 256 + zz.toNat : Nat) : Int) := by
      rw [hr25, hz255, e3]
      unfold pr_s
      split <;> omega
    rw [hst, Int.toNat_natCast]
    have hfF : wm_F M (ab_up (ab_up M18 776 (pr_s M * 256 + zz.toNat) 1) 779 (pr_s M * 256 + zz.toNat) (-1)) := fun o k a b c d e => by
      rw [ab_up_o c, ab_up_o b]; exact s5 o k b e
    obtain ⟨d1, d2⟩ := gc_D_C gA hsD
    refine ⟨_, rfl, rfl, rfl, rfl, by assumption, by decide, by decide, hfF, [pr_s M * 256 + zz.toNat], ?_, ?_, ?_⟩
    · rw [wk_ro (by decide), wk_row]
      exact wm_J.start hsD fun j hj => s1 j (gc_D_C gA hj).1
    · refine ⟨rfl, ?_⟩
      rw [ab_up_s]
      rfl
    · rw [wk_ro (show 776 ≠ 779 by decide), wk_row, wk_n_up (s1 _ d1) (by decide) d1.1 d2, wk_n_0 s1]
      rfl
  · intro c13
    refine gK _ ⟨fun _ => rfl, fun z => absurd (by assumption) z⟩

set_option maxRecDepth 20000 in
theorem vc_X12_mark_59 (cut : Int) (zz : Int) (M : ab_M) (K : List ab_V → ab_M → Prop) (hS : ((gc_A M ∧ tv_ok M) ∧ (cut = 0 ∨ cut = 1) ∧ (0 ≤ zz ∧ zz ≤ 255) ∧ ab_ir (M 775 9)) ∧ (∀ Mx : ab_M, ((M 775 9 = cut * 256 + zz → Mx = M) ∧ (¬ M 775 9 = cut * 256 + zz → wm_P M Mx cut zz)) → K [] Mx)) (n : Nat) (c1 : Int) (z1 : Int) (wh : Int) (w : Int) (k : Int) (M1 : ab_M) (hI : n = ((33281 - k) * 1000).toNat ∧ cut = c1 ∧ zz = z1 ∧ wh = cut * 256 + zz ∧ ¬ M 775 9 = cut * 256 + zz ∧ 0 ≤ k ∧ k ≤ 33280 ∧ wm_I M M1 cut zz w k (fun _ => False)) : (ab_ir k ∧ ab_ir (33280 : Int)) ∧ (((33280 : Int) ≤ k → K [] (ab_up M1 775 9 wh)) ∧ (k < (33280 : Int) → (ab_ir w ∧ ab_ir (-1 : Int)) ∧ ((w = (-1 : Int) → K [] (ab_up M1 775 9 wh)) ∧ (¬ w = (-1 : Int) → (0 ≤ w ∧ w < ((33280 : Nat) : Int)) ∧ (-32768 ≤ (256 : Int) ∧ (256 : Int) < 32768) ∧ (0 ≤ w ∧ w < 2147483648 ∧ 0 < (256 : Int) ∧ (256 : Int) < 2147483648) ∧ (-32768 ≤ (256 : Int) ∧ (256 : Int) < 32768) ∧ (0 ≤ w ∧ w < 2147483648 ∧ 0 < (256 : Int) ∧ (256 : Int) < 2147483648) ∧ ((tv_ok M1 ∧ ts_p M1 ∧ 0 ≤ (w % (256 : Int)) ∧ (w % (256 : Int)) ≤ 255) ∧ (0 ≤ (w / (256 : Int)) ∧ (w / (256 : Int)) < 130) ∧ ab_ir c1) ∧ (∀ r102 : Int, ∀ M102 : ab_M, (ts_L M102 (pl_fd M1 (w / (256 : Int)) (w % (256 : Int)) c1).2 ∧ ts_f M1 M102) → (r102 = (pl_fd M1 (w / (256 : Int)) (w % (256 : Int)) c1).1) → (∃ n', n' < n ∧ ((n' = ((33281 - k) * 1000 - 1 - (0 : Int)).toNat ∧ cut = c1 ∧ zz = z1 ∧ wh = cut * 256 + zz ∧ ¬ M 775 9 = cut * 256 + zz ∧ 0 ≤ k ∧ k < 33280 ∧ (0 ≤ w ∧ w < 33280 ∧ gc_D M cut w.toNat ∧ M102 776 w.toNat ≠ 0) ∧ ts_L M102 (gc_S M cut w.toNat) ∧ 0 ≤ (0 : Int) ∧ (0 : Int) ≤ (((gc_S M cut w.toNat).length : Nat) : Int) ∧ (∀ x : Nat, (x : Int) < (0 : Int) → M102 776 ((gc_S M cut w.toNat).getD x 0).toNat ≠ 0) ∧ wm_I M M102 cut zz (M1 779 w.toNat) (k + 1) (fun j => j = w.toNat))))))))) := by
  obtain ⟨hn, q1, q2, hwh, hno, hk0, hk1, hI⟩ := hI
  subst q1
  subst q2
  obtain ⟨⟨⟨gA, gv⟩, gc, gz, g9⟩, gK⟩ := hS
  have gL := gA.2.1
  have gp := gA.1
  have g3 := gL.1
  have hps : pr_s M = 0 ∨ pr_s M = 120 := by unfold pr_s; split <;> first | exact Or.inl rfl | exact Or.inr rfl
  have hsD := pr_s_D (M := M) cut (s := zz.toNat) (by omega)
  have hcr : ab_ir cut := by omega
  have hw := hI.w gA
  have hf := hI.1
  have hv1 := ts_e_ok hf.e gv
  have hp1 := ts_p_fr hf.e gp
  have hcI : cr_wr _ := hI
  clear hI
  
  refine And.intro (by
    first
      | omega
      | exact ⟨by omega, by omega⟩
      | exact ⟨⟨by omega, by omega⟩, by omega, by omega⟩
      | trivial
      | exact ⟨g9, by omega, by omega⟩
      | (have e3 : M18 26 3 = M 26 3 := hM18.2.2.2.2 26 3 (by decide) (by decide); rw [e3]; exact g3)
      | (rw [hr25]; have hpr := pz_and_r zz (b := 255) (by decide) (by decide); split <;> exact ⟨by omega, by omega⟩)
      | exact ⟨⟨hv1, hp1, by omega, by omega⟩, ⟨by omega, by omega⟩, hcr⟩
      | exact ⟨⟨by omega, by omega⟩, by omega, by omega⟩
      | (have e := hel (by omega); have hqr := gc_S_rng e.2; rw [← e.1] at hqr; exact ⟨hqr.1, hqr.2⟩)
      | (have e := hel (by omega); have z := hN01 _ (wk_DS gA cut _ hhD _ e.2); rw [← e.1] at z; rcases z with z | z <;> (rw [z]; exact ⟨by decide, by decide⟩))) ?_
  refine ⟨?_, ?_⟩
  · intro c63
    obtain ⟨-, L, hJ, hc, hcnt⟩ := hcI
    have hL : L = [] := by
      cases L with
      | nil => rfl
      | cons a l =>
        exfalso
        have z : w = (a : Int) := hc.1
        have := wk_n_bd (M 26 3) (M1 776)
        rw [List.length_cons] at hcnt
        omega
    subst hL
    refine gK _ ⟨fun z => absurd z hno, fun _ => ⟨fun o k a b c d e => ?_, ?_, fun j hj => ?_⟩⟩
    · rw [up_ne (by omega)]; exact hf o k a b c d e
    · rw [ab_up_s, hwh]
    · rw [ab_up_o (by decide)]
      exact ⟨hJ.2.2.2.2 j hj, hJ.done (wk_DS gA cut) hsD hj⟩
  · intro c63
    refine And.intro (by
      first
        | omega
        | exact ⟨by omega, by omega⟩
        | exact ⟨⟨by omega, by omega⟩, by omega, by omega⟩
        | trivial
        | exact ⟨g9, by omega, by omega⟩
        | (have e3 : M18 26 3 = M 26 3 := hM18.2.2.2.2 26 3 (by decide) (by decide); rw [e3]; exact g3)
        | (rw [hr25]; have hpr := pz_and_r zz (b := 255) (by decide) (by decide); split <;> exact ⟨by omega, by omega⟩)
        | exact ⟨⟨hv1, hp1, by omega, by omega⟩, ⟨by omega, by omega⟩, hcr⟩
        | exact ⟨⟨by omega, by omega⟩, by omega, by omega⟩
        | (have e := hel (by omega); have hqr := gc_S_rng e.2; rw [← e.1] at hqr; exact ⟨hqr.1, hqr.2⟩)
        | (have e := hel (by omega); have z := hN01 _ (wk_DS gA cut _ hhD _ e.2); rw [← e.1] at z; rcases z with z | z <;> (rw [z]; exact ⟨by decide, by decide⟩))) ?_
    refine ⟨?_, ?_⟩
    · intro c69
      obtain ⟨-, L, hJ, hc, hcnt⟩ := hcI
      have hL : L = [] := by
        cases L with
        | nil => rfl
        | cons a l =>
          exfalso
          have z : w = (a : Int) := hc.1
          have := wk_n_bd (M 26 3) (M1 776)
          rw [List.length_cons] at hcnt
          omega
      subst hL
      refine gK _ ⟨fun z => absurd z hno, fun _ => ⟨fun o k a b c d e => ?_, ?_, fun j hj => ?_⟩⟩
      · rw [up_ne (by omega)]; exact hf o k a b c d e
      · rw [ab_up_s, hwh]
      · rw [ab_up_o (by decide)]
        exact ⟨hJ.2.2.2.2 j hj, hJ.done (wk_DS gA cut) hsD hj⟩
    · intro c69
      refine And.intro (by
        first
          | omega
          | exact ⟨by omega, by omega⟩
          | exact ⟨⟨by omega, by omega⟩, by omega, by omega⟩
          | trivial
          | exact ⟨g9, by omega, by omega⟩
          | (have e3 : M18 26 3 = M 26 3 := hM18.2.2.2.2 26 3 (by decide) (by decide); rw [e3]; exact g3)
          | (rw [hr25]; have hpr := pz_and_r zz (b := 255) (by decide) (by decide); split <;> exact ⟨by omega, by omega⟩)
          | exact ⟨⟨hv1, hp1, by omega, by omega⟩, ⟨by omega, by omega⟩, hcr⟩
          | exact ⟨⟨by omega, by omega⟩, by omega, by omega⟩
          | (have e := hel (by omega); have hqr := gc_S_rng e.2; rw [← e.1] at hqr; exact ⟨hqr.1, hqr.2⟩)
          | (have e := hel (by omega); have z := hN01 _ (wk_DS gA cut _ hhD _ e.2); rw [← e.1] at z; rcases z with z | z <;> (rw [z]; exact ⟨by decide, by decide⟩))) ?_
      refine And.intro (by
        first
          | omega
          | exact ⟨by omega, by omega⟩
          | exact ⟨⟨by omega, by omega⟩, by omega, by omega⟩
          | trivial
          | exact ⟨g9, by omega, by omega⟩
          | (have e3 : M18 26 3 = M 26 3 := hM18.2.2.2.2 26 3 (by decide) (by decide); rw [e3]; exact g3)
          | (rw [hr25]; have hpr := pz_and_r zz (b := 255) (by decide) (by decide); split <;> exact ⟨by omega, by omega⟩)
          | exact ⟨⟨hv1, hp1, by omega, by omega⟩, ⟨by omega, by omega⟩, hcr⟩
          | exact ⟨⟨by omega, by omega⟩, by omega, by omega⟩
          | (have e := hel (by omega); have hqr := gc_S_rng e.2; rw [← e.1] at hqr; exact ⟨hqr.1, hqr.2⟩)
          | (have e := hel (by omega); have z := hN01 _ (wk_DS gA cut _ hhD _ e.2); rw [← e.1] at z; rcases z with z | z <;> (rw [z]; exact ⟨by decide, by decide⟩))) ?_
      refine And.intro (by
        first
          | omega
          | exact ⟨by omega, by omega⟩
          | exact ⟨⟨by omega, by omega⟩, by omega, by omega⟩
          | trivial
          | exact ⟨g9, by omega, by omega⟩
          | (have e3 : M18 26 3 = M 26 3 := hM18.2.2.2.2 26 3 (by decide) (by decide); rw [e3]; exact g3)
          | (rw [hr25]; have hpr := pz_and_r zz (b := 255) (by decide) (by decide); split <;> exact ⟨by omega, by omega⟩)
          | exact ⟨⟨hv1, hp1, by omega, by omega⟩, ⟨by omega, by omega⟩, hcr⟩
          | exact ⟨⟨by omega, by omega⟩, by omega, by omega⟩
          | (have e := hel (by omega); have hqr := gc_S_rng e.2; rw [← e.1] at hqr; exact ⟨hqr.1, hqr.2⟩)
          | (have e := hel (by omega); have z := hN01 _ (wk_DS gA cut _ hhD _ e.2); rw [← e.1] at z; rcases z with z | z <;> (rw [z]; exact ⟨by decide, by decide⟩))) ?_
      refine And.intro (by
        first
          | omega
          | exact ⟨by omega, by omega⟩
          | exact ⟨⟨by omega, by omega⟩, by omega, by omega⟩
          | trivial
          | exact ⟨g9, by omega, by omega⟩
          | (have e3 : M18 26 3 = M 26 3 := hM18.2.2.2.2 26 3 (by decide) (by decide); rw [e3]; exact g3)
          | (rw [hr25]; have hpr := pz_and_r zz (b := 255) (by decide) (by decide); split <;> exact ⟨by omega, by omega⟩)
          | exact ⟨⟨hv1, hp1, by omega, by omega⟩, ⟨by omega, by omega⟩, hcr⟩
          | exact ⟨⟨by omega, by omega⟩, by omega, by omega⟩
          | (have e := hel (by omega); have hqr := gc_S_rng e.2; rw [← e.1] at hqr; exact ⟨hqr.1, hqr.2⟩)
          | (have e := hel (by omega); have z := hN01 _ (wk_DS gA cut _ hhD _ e.2); rw [← e.1] at z; rcases z with z | z <;> (rw [z]; exact ⟨by decide, by decide⟩))) ?_
      refine And.intro (by
        first
          | omega
          | exact ⟨by omega, by omega⟩
          | exact ⟨⟨by omega, by omega⟩, by omega, by omega⟩
          | trivial
          | exact ⟨g9, by omega, by omega⟩
          | (have e3 : M18 26 3 = M 26 3 := hM18.2.2.2.2 26 3 (by decide) (by decide); rw [e3]; exact g3)
          | (rw [hr25]; have hpr := pz_and_r zz (b := 255) (by decide) (by decide); split <;> exact ⟨by omega, by omega⟩)
          | exact ⟨⟨hv1, hp1, by omega, by omega⟩, ⟨by omega, by omega⟩, hcr⟩
          | exact ⟨⟨by omega, by omega⟩, by omega, by omega⟩
          | (have e := hel (by omega); have hqr := gc_S_rng e.2; rw [← e.1] at hqr; exact ⟨hqr.1, hqr.2⟩)
          | (have e := hel (by omega); have z := hN01 _ (wk_DS gA cut _ hhD _ e.2); rw [← e.1] at z; rcases z with z | z <;> (rw [z]; exact ⟨by decide, by decide⟩))) ?_
      refine And.intro (by
        first
          | omega
          | exact ⟨by omega, by omega⟩
          | exact ⟨⟨by omega, by omega⟩, by omega, by omega⟩
          | trivial
          | exact ⟨g9, by omega, by omega⟩
          | (have e3 : M18 26 3 = M 26 3 := hM18.2.2.2.2 26 3 (by decide) (by decide); rw [e3]; exact g3)
          | (rw [hr25]; have hpr := pz_and_r zz (b := 255) (by decide) (by decide); split <;> exact ⟨by omega, by omega⟩)
          | exact ⟨⟨hv1, hp1, by omega, by omega⟩, ⟨by omega, by omega⟩, hcr⟩
          | exact ⟨⟨by omega, by omega⟩, by omega, by omega⟩
          | (have e := hel (by omega); have hqr := gc_S_rng e.2; rw [← e.1] at hqr; exact ⟨hqr.1, hqr.2⟩)
          | (have e := hel (by omega); have z := hN01 _ (wk_DS gA cut _ hhD _ e.2); rw [← e.1] at z; rcases z with z | z <;> (rw [z]; exact ⟨by decide, by decide⟩))) ?_
      intro r102 M102 hM102 hr102
      obtain ⟨-, L, hJ, hc, hcnt⟩ := hcI
      cases L with
      | nil => have z : w = -1 := hc; omega
      | cons a l =>
        have ha : w = (a : Int) := hc.1
        subst ha
        have h776 : M102 776 = M1 776 := funext fun j => hM102.2 776 j (by decide) (fun z => absurd z.1 (by decide))
        have h779 : M102 779 = M1 779 := funext fun j => hM102.2 779 j (by decide) (fun z => absurd z.1 (by decide))
        have hSS : (pl_fd M1 ((a : Int) / 256) ((a : Int) % 256) cut).2 = gc_S M cut ((a : Int)).toNat := by rw [← gc_S_at (by omega), (gc_fr hf.e gp cut).1]
        have hLn : (((a :: l).length : Nat) : Int) = ((l.length : Nat) : Int) + 1 := by rw [List.length_cons]; omega
        have hDa := hJ.2.2.2.1.2 a List.mem_cons_self
        refine ⟨_, ?_, rfl, rfl, rfl, hwh, hno, hk0, by omega, ⟨by omega, by omega, hDa.1, ?_⟩, ?_, by decide, by omega, fun x hx => by omega, hf.f hM102.2, l, ?_, ?_, ?_⟩
        · omega
        · rw [h776]; exact hDa.2
        · rw [← hSS]; exact hM102.1
        · rw [h776]; exact hJ.pop
        · rw [h779]; exact hc.2
        · rw [h776]; omega

set_option maxRecDepth 20000 in
theorem vc_X12_mark_109 (cut : Int) (zz : Int) (M : ab_M) (K : List ab_V → ab_M → Prop) (hS : ((gc_A M ∧ tv_ok M) ∧ (cut = 0 ∨ cut = 1) ∧ (0 ≤ zz ∧ zz ≤ 255) ∧ ab_ir (M 775 9)) ∧ (∀ Mx : ab_M, ((M 775 9 = cut * 256 + zz → Mx = M) ∧ (¬ M 775 9 = cut * 256 + zz → wm_P M Mx cut zz)) → K [] Mx)) (n : Nat) (c1 : Int) (z1 : Int) (wh : Int) (w : Int) (k : Int) (h : Int) (ii : Int) (M1 : ab_M) (hI : n = ((33281 - k) * 1000 - 1 - ii).toNat ∧ cut = c1 ∧ zz = z1 ∧ wh = cut * 256 + zz ∧ ¬ M 775 9 = cut * 256 + zz ∧ 0 ≤ k ∧ k < 33280 ∧ (0 ≤ h ∧ h < 33280 ∧ gc_D M cut h.toNat ∧ M1 776 h.toNat ≠ 0) ∧ ts_L M1 (gc_S M cut h.toNat) ∧ 0 ≤ ii ∧ ii ≤ (((gc_S M cut h.toNat).length : Nat) : Int) ∧ (∀ x : Nat, (x : Int) < ii → M1 776 ((gc_S M cut h.toNat).getD x 0).toNat ≠ 0) ∧ wm_I M M1 cut zz w (k + 1) (fun j => j = h.toNat)) : (ab_ir ii ∧ ab_ir (M1 772 3)) ∧ (((M1 772 3) ≤ ii → (∃ n', n' < n ∧ ((n' = ((33281 - (k + 1)) * 1000).toNat ∧ cut = c1 ∧ zz = z1 ∧ wh = cut * 256 + zz ∧ ¬ M 775 9 = cut * 256 + zz ∧ 0 ≤ (k + 1) ∧ (k + 1) ≤ 33280 ∧ wm_I M M1 cut zz w (k + 1) (fun _ => False))))) ∧ (ii < (M1 772 3) → (0 ≤ ii ∧ ii < ((256 : Nat) : Int)) ∧ (0 ≤ (M1 773 ii.toNat) ∧ (M1 773 ii.toNat) < ((33280 : Nat) : Int)) ∧ (ab_ir (M1 776 ((M1 773 ii.toNat).toNat))) ∧ ((¬ (M1 776 ((M1 773 ii.toNat).toNat)) = 0 → (∃ n', n' < n ∧ ((n' = ((33281 - k) * 1000 - 1 - (ii + 1)).toNat ∧ cut = c1 ∧ zz = z1 ∧ wh = cut * 256 + zz ∧ ¬ M 775 9 = cut * 256 + zz ∧ 0 ≤ k ∧ k < 33280 ∧ (0 ≤ h ∧ h < 33280 ∧ gc_D M cut h.toNat ∧ M1 776 h.toNat ≠ 0) ∧ ts_L M1 (gc_S M cut h.toNat) ∧ 0 ≤ (ii + 1) ∧ (ii + 1) ≤ (((gc_S M cut h.toNat).length : Nat) : Int) ∧ (∀ x : Nat, (x : Int) < (ii + 1) → M1 776 ((gc_S M cut h.toNat).getD x 0).toNat ≠ 0) ∧ wm_I M M1 cut zz w (k + 1) (fun j => j = h.toNat))))) ∧ ((M1 776 ((M1 773 ii.toNat).toNat)) = 0 → (0 ≤ (M1 773 ii.toNat) ∧ (M1 773 ii.toNat) < ((33280 : Nat) : Int)) ∧ (0 ≤ (M1 773 ii.toNat) ∧ (M1 773 ii.toNat) < ((33280 : Nat) : Int)) ∧ (∃ n', n' < n ∧ ((n' = ((33281 - k) * 1000 - 1 - (ii + 1)).toNat ∧ cut = c1 ∧ zz = z1 ∧ wh = cut * 256 + zz ∧ ¬ M 775 9 = cut * 256 + zz ∧ 0 ≤ k ∧ k < 33280 ∧ (0 ≤ h ∧ h < 33280 ∧ gc_D M cut h.toNat ∧ (ab_up (ab_up M1 776 ((M1 773 ii.toNat).toNat) (1 : Int)) 779 ((M1 773 ii.toNat).toNat) w) 776 h.toNat ≠ 0) ∧ ts_L (ab_up (ab_up M1 776 ((M1 773 ii.toNat).toNat) (1 : Int)) 779 ((M1 773 ii.toNat).toNat) w) (gc_S M cut h.toNat) ∧ 0 ≤ (ii + 1) ∧ (ii + 1) ≤ (((gc_S M cut h.toNat).length : Nat) : Int) ∧ (∀ x : Nat, (x : Int) < (ii + 1) → (ab_up (ab_up M1 776 ((M1 773 ii.toNat).toNat) (1 : Int)) 779 ((M1 773 ii.toNat).toNat) w) 776 ((gc_S M cut h.toNat).getD x 0).toNat ≠ 0) ∧ wm_I M (ab_up (ab_up M1 776 ((M1 773 ii.toNat).toNat) (1 : Int)) 779 ((M1 773 ii.toNat).toNat) w) cut zz (M1 773 ii.toNat) (k + 1) (fun j => j = h.toNat)))))))) := by
  obtain ⟨hn, q1, q2, hwh, hno, hk0, hk1, ⟨hh0, hh1, hhD, hhn⟩, hLL, hi0, hi1, hdn, hI⟩ := hI
  subst q1
  subst q2
  obtain ⟨⟨⟨gA, gv⟩, gc, gz, g9⟩, gK⟩ := hS
  have gL := gA.2.1
  have gp := gA.1
  have g3 := gL.1
  have hps : pr_s M = 0 ∨ pr_s M = 120 := by unfold pr_s; split <;> first | exact Or.inl rfl | exact Or.inr rfl
  have hsD := pr_s_D (M := M) cut (s := zz.toNat) (by omega)
  have hcr : ab_ir cut := by omega
  have hw := hI.w gA
  have hf := hI.1
  have hv1 := ts_e_ok hf.e gv
  have hp1 := ts_p_fr hf.e gp
  have hcI : cr_wr _ := hI
  clear hI
  have l1 := hLL.1
  have l2 := hLL.2.1
  have hel : cr_wr (ii < (((gc_S M cut h.toNat).length : Nat) : Int) → M1 773 ii.toNat = (gc_S M cut h.toNat).getD ii.toNat 0 ∧ (gc_S M cut h.toNat).getD ii.toNat 0 ∈ gc_S M cut h.toNat) := fun q => ⟨hLL.2.2 ii.toNat (by omega), mem_getD (by omega)⟩
  have hN01 : cr_wr (∀ j, gc_D M cut j → M1 776 j = 0 ∨ M1 776 j = 1) := by
    obtain ⟨-, L, hJ, -⟩ := hcI
    exact hJ.2.2.2.2
  refine And.intro (by
    first
      | omega
      | exact ⟨by omega, by omega⟩
      | exact ⟨⟨by omega, by omega⟩, by omega, by omega⟩
      | trivial
      | exact ⟨g9, by omega, by omega⟩
      | (have e3 : M18 26 3 = M 26 3 := hM18.2.2.2.2 26 3 (by decide) (by decide); rw [e3]; exact g3)
      | (rw [hr25]; have hpr := pz_and_r zz (b := 255) (by decide) (by decide); split <;> exact ⟨by omega, by omega⟩)
      | exact ⟨⟨hv1, hp1, by omega, by omega⟩, ⟨by omega, by omega⟩, hcr⟩
      | exact ⟨⟨by omega, by omega⟩, by omega, by omega⟩
      | (have e := hel (by omega); have hqr := gc_S_rng e.2; rw [← e.1] at hqr; exact ⟨hqr.1, hqr.2⟩)
      | (have e := hel (by omega); have z := hN01 _ (wk_DS gA cut _ hhD _ e.2); rw [← e.1] at z; rcases z with z | z <;> (rw [z]; exact ⟨by decide, by decide⟩))) ?_
  refine ⟨?_, ?_⟩
  · intro c118
    obtain ⟨-, L, hJ, hc, hcnt⟩ := hcI
    refine ⟨_, ?_, rfl, rfl, rfl, hwh, hno, by omega, by omega, hf, L, hJ.all ?_, hc, by omega⟩
    · omega
    · intro q hq
      obtain ⟨x, x1, x2⟩ := of_mem_getD hq
      have := hdn x (by omega)
      rw [x2] at this
      exact this
  · intro c118
    refine And.intro (by
      first
        | omega
        | exact ⟨by omega, by omega⟩
        | exact ⟨⟨by omega, by omega⟩, by omega, by omega⟩
        | trivial
        | exact ⟨g9, by omega, by omega⟩
        | (have e3 : M18 26 3 = M 26 3 := hM18.2.2.2.2 26 3 (by decide) (by decide); rw [e3]; exact g3)
        | (rw [hr25]; have hpr := pz_and_r zz (b := 255) (by decide) (by decide); split <;> exact ⟨by omega, by omega⟩)
        | exact ⟨⟨hv1, hp1, by omega, by omega⟩, ⟨by omega, by omega⟩, hcr⟩
        | exact ⟨⟨by omega, by omega⟩, by omega, by omega⟩
        | (have e := hel (by omega); have hqr := gc_S_rng e.2; rw [← e.1] at hqr; exact ⟨hqr.1, hqr.2⟩)
        | (have e := hel (by omega); have z := hN01 _ (wk_DS gA cut _ hhD _ e.2); rw [← e.1] at z; rcases z with z | z <;> (rw [z]; exact ⟨by decide, by decide⟩))) ?_
    refine And.intro (by
      first
        | omega
        | exact ⟨by omega, by omega⟩
        | exact ⟨⟨by omega, by omega⟩, by omega, by omega⟩
        | trivial
        | exact ⟨g9, by omega, by omega⟩
        | (have e3 : M18 26 3 = M 26 3 := hM18.2.2.2.2 26 3 (by decide) (by decide); rw [e3]; exact g3)
        | (rw [hr25]; have hpr := pz_and_r zz (b := 255) (by decide) (by decide); split <;> exact ⟨by omega, by omega⟩)
        | exact ⟨⟨hv1, hp1, by omega, by omega⟩, ⟨by omega, by omega⟩, hcr⟩
        | exact ⟨⟨by omega, by omega⟩, by omega, by omega⟩
        | (have e := hel (by omega); have hqr := gc_S_rng e.2; rw [← e.1] at hqr; exact ⟨hqr.1, hqr.2⟩)
        | (have e := hel (by omega); have z := hN01 _ (wk_DS gA cut _ hhD _ e.2); rw [← e.1] at z; rcases z with z | z <;> (rw [z]; exact ⟨by decide, by decide⟩))) ?_
    refine And.intro (by
      first
        | omega
        | exact ⟨by omega, by omega⟩
        | exact ⟨⟨by omega, by omega⟩, by omega, by omega⟩
        | trivial
        | exact ⟨g9, by omega, by omega⟩
        | (have e3 : M18 26 3 = M 26 3 := hM18.2.2.2.2 26 3 (by decide) (by decide); rw [e3]; exact g3)
        | (rw [hr25]; have hpr := pz_and_r zz (b := 255) (by decide) (by decide); split <;> exact ⟨by omega, by omega⟩)
        | exact ⟨⟨hv1, hp1, by omega, by omega⟩, ⟨by omega, by omega⟩, hcr⟩
        | exact ⟨⟨by omega, by omega⟩, by omega, by omega⟩
        | (have e := hel (by omega); have hqr := gc_S_rng e.2; rw [← e.1] at hqr; exact ⟨hqr.1, hqr.2⟩)
        | (have e := hel (by omega); have z := hN01 _ (wk_DS gA cut _ hhD _ e.2); rw [← e.1] at z; rcases z with z | z <;> (rw [z]; exact ⟨by decide, by decide⟩))) ?_
    refine ⟨?_, ?_⟩
    · intro c140
      obtain ⟨e1, e2⟩ := hel (by omega)
      refine ⟨_, ?_, rfl, rfl, rfl, hwh, hno, hk0, hk1, ⟨hh0, hh1, hhD, hhn⟩, hLL, by omega, by omega, fun x hx => ?_, hcI⟩
      · omega
      · by_cases e : (x : Int) < ii
        · exact hdn x e
        · rw [show x = ii.toNat by omega, ← e1]
          assumption
    · intro c140
      refine And.intro (by
        first
          | omega
          | exact ⟨by omega, by omega⟩
          | exact ⟨⟨by omega, by omega⟩, by omega, by omega⟩
          | trivial
          | exact ⟨g9, by omega, by omega⟩
          | (have e3 : M18 26 3 = M 26 3 := hM18.2.2.2.2 26 3 (by decide) (by decide); rw [e3]; exact g3)
          | (rw [hr25]; have hpr := pz_and_r zz (b := 255) (by decide) (by decide); split <;> exact ⟨by omega, by omega⟩)
          | exact ⟨⟨hv1, hp1, by omega, by omega⟩, ⟨by omega, by omega⟩, hcr⟩
          | exact ⟨⟨by omega, by omega⟩, by omega, by omega⟩
          | (have e := hel (by omega); have hqr := gc_S_rng e.2; rw [← e.1] at hqr; exact ⟨hqr.1, hqr.2⟩)
          | (have e := hel (by omega); have z := hN01 _ (wk_DS gA cut _ hhD _ e.2); rw [← e.1] at z; rcases z with z | z <;> (rw [z]; exact ⟨by decide, by decide⟩))) ?_
      refine And.intro (by
        first
          | omega
          | exact ⟨by omega, by omega⟩
          | exact ⟨⟨by omega, by omega⟩, by omega, by omega⟩
          | trivial
          | exact ⟨g9, by omega, by omega⟩
          | (have e3 : M18 26 3 = M 26 3 := hM18.2.2.2.2 26 3 (by decide) (by decide); rw [e3]; exact g3)
          | (rw [hr25]; have hpr := pz_and_r zz (b := 255) (by decide) (by decide); split <;> exact ⟨by omega, by omega⟩)
          | exact ⟨⟨hv1, hp1, by omega, by omega⟩, ⟨by omega, by omega⟩, hcr⟩
          | exact ⟨⟨by omega, by omega⟩, by omega, by omega⟩
          | (have e := hel (by omega); have hqr := gc_S_rng e.2; rw [← e.1] at hqr; exact ⟨hqr.1, hqr.2⟩)
          | (have e := hel (by omega); have z := hN01 _ (wk_DS gA cut _ hhD _ e.2); rw [← e.1] at z; rcases z with z | z <;> (rw [z]; exact ⟨by decide, by decide⟩))) ?_
      obtain ⟨e1, e2⟩ := hel (by omega)
      have hqr := gc_S_rng e2
      obtain ⟨-, L, hJ, hc, hcnt⟩ := hcI
      have hz : M1 776 ((gc_S M cut h.toNat).getD ii.toNat 0).toNat = 0 := by
        rw [← e1]
        first
          | assumption
          | exact Decidable.not_not.1 (by assumption)
      have hDq := wk_DS gA cut _ hhD _ e2
      obtain ⟨s1, s2⟩ := hJ.push hc hhD hhn e2 hqr.1 hz hDq
      obtain ⟨d1, d2⟩ := gc_D_C gA hDq
      have hrow : (ab_up (ab_up M1 776 (M1 773 ii.toNat).toNat 1) 779 (M1 773 ii.toNat).toNat w) 776 = wk_u (M1 776) ((gc_S M cut h.toNat).getD ii.toNat 0).toNat 1 := by rw [wk_ro (by decide), wk_row, e1]
      have hrow9 : (ab_up (ab_up M1 776 (M1 773 ii.toNat).toNat 1) 779 (M1 773 ii.toNat).toNat w) 779 = wk_u (M1 779) ((gc_S M cut h.toNat).getD ii.toNat 0).toNat w := by rw [wk_row, wk_ro (by decide), e1]
      have hnz : ∀ x, M1 776 x ≠ 0 → wk_u (M1 776) ((gc_S M cut h.toNat).getD ii.toNat 0).toNat 1 x ≠ 0 := fun x hx => by
        rw [wk_u_n fun z => hx (by rw [z]; exact hz)]; exact hx
      refine ⟨_, ?_, rfl, rfl, rfl, hwh, hno, hk0, hk1, ⟨hh0, hh1, hhD, ?_⟩, ?_, by omega, by omega, fun x hx => ?_, ?_, ((gc_S M cut h.toNat).getD ii.toNat 0).toNat :: L, ?_, ?_, ?_⟩
      · omega
      · rw [hrow]; exact hnz _ hhn
      · exact hLL.fr (by rw [ab_up_o (by decide), ab_up_o (by decide)]) (fun k => by rw [ab_up_o (by decide), ab_up_o (by decide)])
      · rw [hrow]
        by_cases e : (x : Int) < ii
        · exact hnz _ (hdn x e)
        · rw [show x = ii.toNat by omega, wk_u_s]
          decide
      · intro o k' a b c d e
        rw [ab_up_o c, ab_up_o b]
        exact hf o k' a b c d e
      · rw [hrow]; exact s1
      · rw [hrow9, e1]; exact s2
      · rw [hrow, wk_n_up hz (by decide) d1.1 d2, List.length_cons]
        omega

set_option maxRecDepth 20000 in
set_option maxHeartbeats 1000000 in
theorem ok_X12_mark (E : ab_E) : ab_Ok E 5 213 S_X12_mark := by
  refine ab_mk rq_X12_mark tk_X12_mark (rt := 0) (rfl) (cuts := [59, 109]) (G := [(216, S_X12_startAgain), (28, S_X1_startRow), (61, S_X5_find)]) (List.forall_mem_cons.mpr ⟨⟨3, by decide, ok_X12_startAgain E⟩, List.forall_mem_cons.mpr ⟨⟨1, by decide, ok_X1_startRow E⟩, List.forall_mem_cons.mpr ⟨⟨4, by decide, ok_X5_find E⟩, fun _ h => absurd h List.not_mem_nil⟩⟩⟩) (by decide) 147 rfl ?_
  intro a M K wd wa hS
  unfold S_X12_mark at hS
  split at hS
  ·
    rename_i cut zz
    refine ⟨Nat.le_of_ble_eq_true rfl, fun pc n L st M1 => match pc, L, st with
      | 59, [.inr (.inr (.inr (775, 12, 0))), .inr (.inl c1), .inr (.inl z1), .inr (.inl wh), .inr (.inl w), .inr (.inl k), u7_, u8_, u9_], [] => (n = ((33281 - k) * 1000).toNat ∧ cut = c1 ∧ zz = z1 ∧ wh = cut * 256 + zz ∧ ¬ M 775 9 = cut * 256 + zz ∧ 0 ≤ k ∧ k ≤ 33280 ∧ wm_I M M1 cut zz w k (fun _ => False))
      | 109, [.inr (.inr (.inr (775, 12, 0))), .inr (.inl c1), .inr (.inl z1), .inr (.inl wh), .inr (.inl w), .inr (.inl k), .inr (.inl h), .inr (.inl ii), u9_], [] => (n = ((33281 - k) * 1000 - 1 - ii).toNat ∧ cut = c1 ∧ zz = z1 ∧ wh = cut * 256 + zz ∧ ¬ M 775 9 = cut * 256 + zz ∧ 0 ≤ k ∧ k < 33280 ∧ (0 ≤ h ∧ h < 33280 ∧ gc_D M cut h.toNat ∧ M1 776 h.toNat ≠ 0) ∧ ts_L M1 (gc_S M cut h.toNat) ∧ 0 ≤ ii ∧ ii ≤ (((gc_S M cut h.toNat).length : Nat) : Int) ∧ (∀ x : Nat, (x : Int) < ii → M1 776 ((gc_S M cut h.toNat).getD x 0).toNat ≠ 0) ∧ wm_I M M1 cut zz w (k + 1) (fun j => j = h.toNat))
      | _, _, _ => False, ?_, ?_⟩
    · exact vc_X12_mark_0 cut zz M K  hS
    · intro pc n L st M1 hI wd1 wL wst
      (try dsimp only at hI)
      split at hI
      ·
        rename_i c1 z1 wh w k u7_ u8_ u9_
        exact vc_X12_mark_59 cut zz M K  hS n c1 z1 wh w k _ hI
      ·
        rename_i c1 z1 wh w k h ii u9_
        exact vc_X12_mark_109 cut zz M K  hS n c1 z1 wh w k h ii _ hI
      · exact hI.elim
  · exact hS.elim
