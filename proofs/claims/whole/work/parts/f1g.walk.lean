/-! a walk: places met, finished, closed -/
/-- a list in memory: each leads to the next, the last to -1 -/
def wk_ch (B : Nat → Int) : List Nat → Int → Prop
  | [], w => w = -1
  | a :: l, w => w = (a : Int) ∧ wk_ch B l (B a)
theorem wk_ch_u {B : Nat → Int} {j : Nat} {x : Int} : ∀ {L : List Nat} {w : Int}, j ∉ L → wk_ch B L w → wk_ch (wk_u B j x) L w
  | [], _, _, h => h
  | a :: l, w, hj, h => by
    have hne : a ≠ j := fun q => hj (by rw [q]; exact List.mem_cons_self)
    refine ⟨h.1, ?_⟩
    rw [wk_u_n hne]
    exact wk_ch_u (fun q => hj (List.mem_cons_of_mem _ q)) h.2
theorem wk_ch_at {B : Nat → Int} {f : Nat} {T1 : List Nat} : ∀ {U : List Nat} {w : Int}, wk_ch B (U ++ f :: T1) w → wk_ch B T1 (B f)
  | [], _, h => h.2
  | _ :: _, _, h => wk_ch_at (U := _) h.2
theorem wk_row (M : ab_M) (o j : Nat) (x : Int) : (ab_up M o j x) o = wk_u (M o) j x := by
  funext i
  unfold wk_u
  split
  · rename_i e
    rw [e, ab_up_s]
  · rename_i e
    rw [ab_up_k e]
theorem wk_ro {M : ab_M} {o j : Nat} {x : Int} {o' : Nat} (h : o' ≠ o) : (ab_up M o j x) o' = M o' := funext fun i => ab_up_o h i
/-- nothing changes but what a walk writes -/
def wk_fr (M M' : ab_M) : Prop := ∀ o k : Nat, ¬ (773 ≤ o ∧ o ≤ 774) → ¬ (776 ≤ o ∧ o ≤ 779) → ¬ (o = 772 ∧ k = 3) → ¬ (o = 775 ∧ (k = 7 ∨ k = 8)) → M' o k = M o k
theorem wk_fr.rf (M : ab_M) : wk_fr M M := fun _ _ _ _ _ _ => rfl
theorem wk_fr.tr {A B C : ab_M} (h : wk_fr A B) (h' : wk_fr B C) : wk_fr A C := fun o k a b c d => (h' o k a b c d).trans (h o k a b c d)
theorem wk_fr.e {M M1 : ab_M} (h : wk_fr M M1) : ts_e M M1 := fun o k q => h o k (by omega) (by omega) (by omega) (by omega)
theorem ts_f.w {M M1 : ab_M} (h : ts_f M M1) : wk_fr M M1 := fun o k a _ c _ => h o k (by omega) c
/-- a place is met -/
def wk_op (M : ab_M) (pl fr : Int) : ab_M := ab_up (ab_up (ab_up (ab_up (ab_up (ab_up (ab_up M 775 7 (M 775 7 + 1)) 776 pl.toNat (M 775 7 + 1)) 777 pl.toNat (M 775 7 + 1)) 774 pl.toNat ((0 : Nat) : Int)) 778 pl.toNat fr) 779 pl.toNat (M 775 8)) 775 8 pl
theorem wk_op_rows (M : ab_M) (pl fr : Int) : (wk_op M pl fr) 776 = wk_u (M 776) pl.toNat (M 775 7 + 1) ∧ (wk_op M pl fr) 777 = wk_u (M 777) pl.toNat (M 775 7 + 1) ∧ (wk_op M pl fr) 774 = wk_u (M 774) pl.toNat 0 ∧ (wk_op M pl fr) 778 = wk_u (M 778) pl.toNat fr ∧ (wk_op M pl fr) 779 = wk_u (M 779) pl.toNat (M 775 8) ∧ (wk_op M pl fr) 775 7 = M 775 7 + 1 ∧ (wk_op M pl fr) 775 8 = pl ∧ wk_fr M (wk_op M pl fr) := by
  unfold wk_op
  refine ⟨?_, ?_, ?_, ?_, ?_, ?_, ab_up_s, fun o k a b c d => ?_⟩
  · rw [wk_ro (by decide), wk_ro (by decide), wk_ro (by decide), wk_ro (by decide), wk_ro (by decide), wk_row, wk_ro (by decide)]
  · rw [wk_ro (by decide), wk_ro (by decide), wk_ro (by decide), wk_ro (by decide), wk_row, wk_ro (by decide), wk_ro (by decide)]
  · rw [wk_ro (by decide), wk_ro (by decide), wk_ro (by decide), wk_row, wk_ro (by decide), wk_ro (by decide), wk_ro (by decide)]
    rfl
  · rw [wk_ro (by decide), wk_ro (by decide), wk_row, wk_ro (by decide), wk_ro (by decide), wk_ro (by decide), wk_ro (by decide)]
  · rw [wk_ro (by decide), wk_row, wk_ro (by decide), wk_ro (by decide), wk_ro (by decide), wk_ro (by decide), wk_ro (by decide)]
  · rw [ab_up_k (by decide), ab_up_o (by decide), ab_up_o (by decide), ab_up_o (by decide), ab_up_o (by decide), ab_up_o (by decide), ab_up_s]
  · rw [up_ne (by omega), ab_up_o (by omega), ab_up_o (by omega), ab_up_o (by omega), ab_up_o (by omega), ab_up_o (by omega), up_ne (by omega)]
/-- what a place has of its own -/
def wk_oo (row c : Int) : Int := if 0 ≤ c then ab_lshl ((1 : Nat) : Int) c else if row = 120 then 65536 else if row = 121 then 131072 else ((0 : Nat) : Int)
theorem wk_oo_b {M : ab_M} (hp : ts_p M) {cut : Int} {j b : Nat} (hb : b < 64) : pz_lb (wk_oo ((j / 256 : Nat) : Int) (pl_fd M ((j / 256 : Nat) : Int) ((j % 256 : Nat) : Int) cut).1) b = true ↔ gc_O M cut j b := by
  have hc := pl_fd_c hp ((j / 256 : Nat) : Int) ((j % 256 : Nat) : Int) cut
  have he : ∀ r : Int, (r = 120 ∨ r = 121) → ((j / 256 : Nat) : Int) = r → (pl_fd M ((j / 256 : Nat) : Int) ((j % 256 : Nat) : Int) cut).1 = -1 := fun r hr e => by rw [e, pl_fd_end hr]
  unfold wk_oo gc_O
  by_cases h0 : 0 ≤ (pl_fd M ((j / 256 : Nat) : Int) ((j % 256 : Nat) : Int) cut).1
  · rw [if_pos h0, pz_lb_one h0 (by omega) hb, decide_eq_true_iff]
    constructor
    · exact fun z => Or.inr (Or.inr z.symm)
    · rintro (z | z | z)
      · have := he 120 (Or.inl rfl) (by omega); omega
      · have := he 121 (Or.inr rfl) (by omega); omega
      · exact z.symm
  · rw [if_neg h0]
    by_cases h1 : ((j / 256 : Nat) : Int) = 120
    · rw [if_pos h1, pz_lb_16 hb]
      constructor
      · exact fun z => Or.inl ⟨by omega, z⟩
      · rintro (z | z | z)
        · exact z.2
        · omega
        · omega
    · rw [if_neg h1]
      by_cases h2 : ((j / 256 : Nat) : Int) = 121
      · rw [if_pos h2, pz_lb_17 hb]
        constructor
        · exact fun z => Or.inr (Or.inl ⟨by omega, z⟩)
        · rintro (z | z | z)
          · omega
          · exact z.2
          · omega
      · rw [if_neg h2, pz_lb_n0]
        constructor
        · intro z; cases z
        · rintro (z | z | z)
          · omega
          · omega
          · omega
/-- the lowest of the first numbers -/
def ml_f (N : Nat → Int) (L : List Int) (a : Int) : Nat → Int
  | 0 => a
  | i + 1 => if N (L.getD i 0).toNat < ml_f N L a i then N (L.getD i 0).toNat else ml_f N L a i
theorem ml_f_p (N : Nat → Int) (L : List Int) (a : Int) : ∀ i, i ≤ L.length → ml_f N L a i ≤ a ∧ (∀ k, k < i → ml_f N L a i ≤ N (L.getD k 0).toNat) ∧ (ml_f N L a i = a ∨ ∃ q ∈ L, ml_f N L a i = N q.toNat)
  | 0, _ => ⟨Int.le_refl _, fun k hk => absurd hk (Nat.not_lt_zero _), Or.inl rfl⟩
  | i + 1, hi => by
    obtain ⟨h1, h2, h3⟩ := ml_f_p N L a i (by omega)
    show (if N (L.getD i 0).toNat < ml_f N L a i then N (L.getD i 0).toNat else ml_f N L a i) ≤ a ∧ (∀ k, k < i + 1 → (if N (L.getD i 0).toNat < ml_f N L a i then N (L.getD i 0).toNat else ml_f N L a i) ≤ N (L.getD k 0).toNat) ∧ ((if N (L.getD i 0).toNat < ml_f N L a i then N (L.getD i 0).toNat else ml_f N L a i) = a ∨ ∃ q ∈ L, (if N (L.getD i 0).toNat < ml_f N L a i then N (L.getD i 0).toNat else ml_f N L a i) = N q.toNat)
    have hm : L.getD i 0 ∈ L := by
      rw [List.getD_eq_getElem?_getD, List.getElem?_eq_getElem (by omega)]
      exact List.getElem_mem _
    by_cases c : N (L.getD i 0).toNat < ml_f N L a i
    · rw [if_pos c]
      refine ⟨by omega, fun k hk => ?_, Or.inr ⟨_, hm, rfl⟩⟩
      by_cases e : k = i
      · rw [e]; exact Int.le_refl _
      · have := h2 k (by omega); omega
    · rw [if_neg c]
      refine ⟨h1, fun k hk => ?_, h3⟩
      by_cases e : k = i
      · rw [e]; omega
      · exact h2 k (by omega)
theorem ml_f_all (N : Nat → Int) (L : List Int) (a : Int) : ml_f N L a L.length ≤ a ∧ (∀ q ∈ L, ml_f N L a L.length ≤ N q.toNat) ∧ (ml_f N L a L.length = a ∨ ∃ q ∈ L, ml_f N L a L.length = N q.toNat) := by
  obtain ⟨h1, h2, h3⟩ := ml_f_p N L a L.length (Nat.le_refl _)
  refine ⟨h1, fun q hq => ?_, h3⟩
  obtain ⟨k, hk, e⟩ := List.getElem_of_mem hq
  have := h2 k hk
  rw [List.getD_eq_getElem?_getD, List.getElem?_eq_getElem hk, Option.getD_some, e] at this
  exact this
theorem ml_f_ir {N : Nat → Int} {L : List Int} {a : Int} (ha : ab_ir a) (hL : ∀ q ∈ L, ab_ir (N q.toNat)) {i : Nat} (hi : i ≤ L.length) : ab_ir (ml_f N L a i) := by
  rcases (ml_f_p N L a i hi).2.2 with z | ⟨q, q1, q2⟩
  · rw [z]; exact ha
  · rw [q2]; exact hL q q1
theorem mem_getD {L : List Int} {i : Nat} (h : i < L.length) : L.getD i 0 ∈ L := by
  rw [List.getD_eq_getElem?_getD, List.getElem?_eq_getElem h]
  exact List.getElem_mem h
theorem of_mem_getD {L : List Int} {q : Int} (h : q ∈ L) : ∃ i, i < L.length ∧ L.getD i 0 = q := by
  obtain ⟨k, hk, e⟩ := List.getElem_of_mem h
  exact ⟨k, hk, by rw [List.getD_eq_getElem?_getD, List.getElem?_eq_getElem hk, Option.getD_some, e]⟩
/-! places close -/
def wk_cp (M : ab_M) (U : List Nat) (f : Nat) (top : Int) : ab_M := fun o k => if o = 777 ∧ k ∈ U then 33281 else if o = 774 ∧ k ∈ U then M 774 f else if o = 775 ∧ k = 8 then top else M o k
def wk_cz (M : ab_M) (U : List Nat) (f : Nat) : ab_M := wk_cp M (f :: U) f (M 779 f)
def wk_cA (M : ab_M) (f : Nat) (U T1 : List Nat) : Prop := wk_ch (M 779) (U ++ f :: T1) (M 775 8) ∧ f < 33280 ∧ (∀ u ∈ U, u < 33280 ∧ u ≠ f) ∧ U.length < 33280
def wk_cI (M M1 : ab_M) (f : Nat) (U T1 : List Nat) (k : Int) : Prop := ∃ (U1 U2 : List Nat) (top : Int), U = U1 ++ U2 ∧ k = ((U1.length : Nat) : Int) ∧ wk_ch (M 779) (U2 ++ f :: T1) top ∧ M1 = wk_cp M U1 f top
theorem wk_cI.start {M : ab_M} {f : Nat} {U T1 : List Nat} (h : wk_cA M f U T1) : wk_cI M M f U T1 0 := by
  refine ⟨[], U, M 775 8, rfl, rfl, h.1, ?_⟩
  funext o k
  unfold wk_cp
  rw [if_neg (fun z => absurd z.2 List.not_mem_nil), if_neg (fun z => absurd z.2 List.not_mem_nil)]
  split
  · rename_i e
    rw [e.1, e.2]
  · rfl
theorem wk_cp_779 (M : ab_M) (U : List Nat) (f : Nat) (top : Int) (k : Nat) : wk_cp M U f top 779 k = M 779 k := by
  unfold wk_cp
  rw [if_neg (by omega), if_neg (by omega), if_neg (by omega)]
theorem wk_cp_8 (M : ab_M) (U : List Nat) (f : Nat) (top : Int) : wk_cp M U f top 775 8 = top := by
  unfold wk_cp
  rw [if_neg (by omega), if_neg (by omega), if_pos ⟨rfl, rfl⟩]
theorem wk_cp_f {M : ab_M} {U : List Nat} {f : Nat} {top : Int} (h : f ∉ U) : wk_cp M U f top 774 f = M 774 f := by
  unfold wk_cp
  rw [if_neg (by omega), if_neg (fun z => h z.2), if_neg (by omega)]
/-- one more closes -/
theorem wk_cp_up {M : ab_M} {U : List Nat} {f p : Nat} {top w : Int} (hf : f ∉ U) : ab_up (ab_up (ab_up (wk_cp M U f top) 775 8 w) 777 p 33281) 774 p (wk_cp M U f top 774 f) = wk_cp M (p :: U) f w := by
  rw [wk_cp_f hf]
  funext o k
  rw [ab_up_a, ab_up_a, ab_up_a]
  unfold wk_cp
  by_cases h1 : o = 774
  · subst h1
    rw [if_neg (c := 774 = 777 ∧ k = p) (by omega), if_neg (c := 774 = 775 ∧ k = 8) (by omega), if_neg (c := 774 = 777 ∧ k ∈ U) (by omega), if_neg (c := 774 = 777 ∧ k ∈ p :: U) (by omega)]
    by_cases h2 : k = p
    · rw [if_pos ⟨rfl, h2⟩, if_pos ⟨rfl, by rw [h2]; exact List.mem_cons_self⟩]
    · rw [if_neg (fun z => h2 z.2)]
      by_cases h3 : k ∈ U
      · rw [if_pos ⟨rfl, h3⟩, if_pos ⟨rfl, List.mem_cons_of_mem _ h3⟩]
      · rw [if_neg (fun z => h3 z.2), if_neg (c := 774 = 774 ∧ k ∈ p :: U) (fun z => (List.mem_cons.1 z.2).elim h2 h3), if_neg (by omega), if_neg (by omega)]
  · rw [if_neg (fun z => h1 z.1)]
    by_cases h4 : o = 777
    · subst h4
      by_cases h2 : k = p
      · rw [if_pos ⟨rfl, h2⟩, if_pos ⟨rfl, by rw [h2]; exact List.mem_cons_self⟩]
      · rw [if_neg (fun z => h2 z.2), if_neg (by omega)]
        by_cases h3 : k ∈ U
        · rw [if_pos ⟨rfl, h3⟩, if_pos ⟨rfl, List.mem_cons_of_mem _ h3⟩]
        · rw [if_neg (fun z => h3 z.2), if_neg (by omega), if_neg (by omega), if_neg (c := 777 = 777 ∧ k ∈ p :: U) (fun z => (List.mem_cons.1 z.2).elim h2 h3), if_neg (by omega), if_neg (by omega)]
    · rw [if_neg (fun z => h4 z.1), if_neg (c := o = 777 ∧ k ∈ U) (fun z => h4 z.1), if_neg (c := o = 777 ∧ k ∈ p :: U) (fun z => h4 z.1), if_neg (c := o = 774 ∧ k ∈ U) (fun z => h1 z.1), if_neg (c := o = 774 ∧ k ∈ p :: U) (fun z => h1 z.1)]
      by_cases h5 : o = 775 ∧ k = 8
      · rw [if_pos h5, if_pos h5]
      · rw [if_neg h5, if_neg h5, if_neg h5]
theorem wk_cp_mem {M : ab_M} {U V : List Nat} {f : Nat} {top : Int} (h : ∀ k, k ∈ U ↔ k ∈ V) : wk_cp M U f top = wk_cp M V f top := by
  funext o k
  unfold wk_cp
  simp only [h]
theorem wk_cz_rows (M : ab_M) (U : List Nat) (f : Nat) : (wk_cz M U f) 776 = M 776 ∧ (wk_cz M U f) 777 = (fun j => if j = f ∨ j ∈ U then 33281 else M 777 j) ∧ (wk_cz M U f) 774 = (fun j => if j = f ∨ j ∈ U then M 774 f else M 774 j) ∧ (wk_cz M U f) 778 = M 778 ∧ (wk_cz M U f) 779 = M 779 ∧ (wk_cz M U f) 775 7 = M 775 7 ∧ (wk_cz M U f) 775 8 = M 779 f ∧ wk_fr M (wk_cz M U f) := by
  unfold wk_cz
  refine ⟨?_, ?_, ?_, ?_, ?_, ?_, wk_cp_8 _ _ _ _, fun o k a b c d => ?_⟩
  · funext k
    unfold wk_cp
    rw [if_neg (by omega), if_neg (by omega), if_neg (by omega)]
  · funext k
    unfold wk_cp
    by_cases e : k = f ∨ k ∈ U
    · rw [if_pos ⟨rfl, List.mem_cons.2 e⟩, if_pos e]
    · rw [if_neg (fun z => e (List.mem_cons.1 z.2)), if_neg (by omega), if_neg (by omega), if_neg e]
  · funext k
    unfold wk_cp
    rw [if_neg (by omega)]
    by_cases e : k = f ∨ k ∈ U
    · rw [if_pos ⟨rfl, List.mem_cons.2 e⟩, if_pos e]
    · rw [if_neg (fun z => e (List.mem_cons.1 z.2)), if_neg (by omega), if_neg e]
  · funext k
    unfold wk_cp
    rw [if_neg (by omega), if_neg (by omega), if_neg (by omega)]
  · funext k
    exact wk_cp_779 _ _ _ _ _
  · unfold wk_cp
    rw [if_neg (by omega), if_neg (by omega), if_neg (by omega)]
  · unfold wk_cp
    rw [if_neg (by omega), if_neg (by omega), if_neg (by omega)]
/-- a place is finished -/
def wk_fx (M : ab_M) (Ls : List Int) (pl c : Int) : Int := lf_f (M 774) Ls (wk_oo (pl / 256) c) Ls.length
def wk_fl (M : ab_M) (Ls : List Int) (pl : Int) : Int := ml_f (M 777) Ls (M 776 pl.toNat) Ls.length
def wk_fm (M : ab_M) (Ls : List Int) (pl c : Int) : ab_M := ab_up (ab_up M 774 pl.toNat (wk_fx M Ls pl c)) 777 pl.toNat (wk_fl M Ls pl)
def wk_fi (M : ab_M) (Ls : List Int) (pl c : Int) (U : List Nat) : ab_M := if wk_fl M Ls pl = M 776 pl.toNat then wk_cz (wk_fm M Ls pl c) U pl.toNat else wk_fm M Ls pl c

def S_X12_drop : ab_PT := fun a M K => match a with
  | [.inr (.inr (.inr (775, 12, 0)))] => (True) ∧ (∀ Mx : ab_M, (Mx = ab_up M 775 9 (-1)) → K [] Mx)
  | _ => False
set_option maxRecDepth 20000 in
theorem vc_X12_drop_0  (M : ab_M) (K : List ab_V → ab_M → Prop) (hS : (True) ∧ (∀ Mx : ab_M, (Mx = ab_up M 775 9 (-1)) → K [] Mx)) : K [] (ab_up M 775 9 (-1 : Int)) := by
  obtain ⟨-, gK⟩ := hS
  exact gK _ rfl

set_option maxRecDepth 20000 in
set_option maxHeartbeats 1000000 in
theorem ok_X12_drop (E : ab_E) : ab_Ok E 1 207 S_X12_drop := by
  refine ab_mk rq_X12_drop tk_X12_drop (rt := 0) (rfl) (cuts := []) (G := []) (fun g hg => by cases hg) (by decide) 54 rfl ?_
  intro a M K wd wa hS
  unfold S_X12_drop at hS
  split at hS
  ·
    refine ⟨Nat.le_of_ble_eq_true rfl, fun _ _ _ _ _ => False, ?_, ?_⟩
    · exact vc_X12_drop_0  M K  hS
    · exact fun _ _ _ _ _ h => h.elim
  · exact hS.elim
def S_X12_isMarked : ab_PT := fun a M K => match a with
  | [.inr (.inr (.inr (775, 12, 0))), .inr (.inl row), .inr (.inl s)] => ((0 ≤ row * 256 + s ∧ row * 256 + s < 33280) ∧ ab_ir (M 776 (row * 256 + s).toNat)) ∧ (∀ rx : Int, (rx = if ¬ M 776 (row * 256 + s).toNat = 0 then 1 else 0) → K [Xi rx] M)
  | _ => False
set_option maxRecDepth 20000 in
theorem vc_X12_isMarked_0 (row : Int) (s : Int) (M : ab_M) (K : List ab_V → ab_M → Prop) (hS : ((0 ≤ row * 256 + s ∧ row * 256 + s < 33280) ∧ ab_ir (M 776 (row * 256 + s).toNat)) ∧ (∀ rx : Int, (rx = if ¬ M 776 (row * 256 + s).toNat = 0 then 1 else 0) → K [Xi rx] M)) : (-32768 ≤ (256 : Int) ∧ (256 : Int) < 32768) ∧ (0 ≤ ((row * (256 : Int)) + s) ∧ ((row * (256 : Int)) + s) < ((33280 : Nat) : Int)) ∧ (ab_ir (M 776 (((row * (256 : Int)) + s).toNat))) ∧ (((M 776 (((row * (256 : Int)) + s).toNat)) = 0 → ((0 : Int) = 0 ∨ (0 : Int) = 1) ∧ K [Xi (0 : Int)] M) ∧ (¬ (M 776 (((row * (256 : Int)) + s).toNat)) = 0 → ((1 : Int) = 0 ∨ (1 : Int) = 1) ∧ K [Xi (1 : Int)] M)) := by
  obtain ⟨⟨g1, g2⟩, gK⟩ := hS
  refine And.intro (by
    first
      | omega
      | exact ⟨by omega, by omega⟩
      | exact ⟨⟨by omega, by omega⟩, by omega, by omega⟩
      | trivial
      | exact g2
      | exact ⟨g1.1, by omega⟩) ?_
  refine And.intro (by
    first
      | omega
      | exact ⟨by omega, by omega⟩
      | exact ⟨⟨by omega, by omega⟩, by omega, by omega⟩
      | trivial
      | exact g2
      | exact ⟨g1.1, by omega⟩) ?_
  refine And.intro (by
    first
      | omega
      | exact ⟨by omega, by omega⟩
      | exact ⟨⟨by omega, by omega⟩, by omega, by omega⟩
      | trivial
      | exact g2
      | exact ⟨g1.1, by omega⟩) ?_
  refine ⟨?_, ?_⟩
  · intro c12
    refine And.intro (by
      first
        | omega
        | exact ⟨by omega, by omega⟩
        | exact ⟨⟨by omega, by omega⟩, by omega, by omega⟩
        | trivial
        | exact g2
        | exact ⟨g1.1, by omega⟩) ?_
    refine gK _ ?_
    first
      | (rw [if_pos (by assumption)]; done)
      | (rw [if_neg (fun z => z (by assumption))]; done)
  · intro c12
    refine And.intro (by
      first
        | omega
        | exact ⟨by omega, by omega⟩
        | exact ⟨⟨by omega, by omega⟩, by omega, by omega⟩
        | trivial
        | exact g2
        | exact ⟨g1.1, by omega⟩) ?_
    refine gK _ ?_
    first
      | (rw [if_pos (by assumption)]; done)
      | (rw [if_neg (fun z => z (by assumption))]; done)

set_option maxRecDepth 20000 in
set_option maxHeartbeats 1000000 in
theorem ok_X12_isMarked (E : ab_E) : ab_Ok E 1 212 S_X12_isMarked := by
  refine ab_mk rq_X12_isMarked tk_X12_isMarked (rt := 2) (rfl) (cuts := []) (G := []) (fun g hg => by cases hg) (by decide) 63 rfl ?_
  intro a M K wd wa hS
  unfold S_X12_isMarked at hS
  split at hS
  ·
    rename_i row s
    refine ⟨Nat.le_of_ble_eq_true rfl, fun _ _ _ _ _ => False, ?_, ?_⟩
    · exact vc_X12_isMarked_0 row s M K  hS
    · exact fun _ _ _ _ _ h => h.elim
  · exact hS.elim
def S_X12_startAgain : ab_PT := fun a M K => match a with
  | [.inr (.inr (.inr (775, 12, 0)))] => (0 ≤ M 26 3 ∧ M 26 3 ≤ 120) ∧ (∀ Mx : ab_M, ((∀ j : Nat, cu_C (M 26 3) j → Mx 776 j = 0) ∧ Mx 775 7 = 0 ∧ Mx 775 8 = -1 ∧ Mx 775 9 = -1 ∧ ∀ o' k' : Nat, o' ≠ 776 → ¬ (o' = 775 ∧ 7 ≤ k' ∧ k' ≤ 9) → Mx o' k' = M o' k') → K [] Mx)
  | _ => False
set_option maxRecDepth 20000 in
theorem vc_X12_startAgain_0  (M : ab_M) (K : List ab_V → ab_M → Prop) (hS : (0 ≤ M 26 3 ∧ M 26 3 ≤ 120) ∧ (∀ Mx : ab_M, ((∀ j : Nat, cu_C (M 26 3) j → Mx 776 j = 0) ∧ Mx 775 7 = 0 ∧ Mx 775 8 = -1 ∧ Mx 775 9 = -1 ∧ ∀ o' k' : Nat, o' ≠ 776 → ¬ (o' = 775 ∧ 7 ≤ k' ∧ k' ≤ 9) → Mx o' k' = M o' k') → K [] Mx)) : (-32768 ≤ (256 : Int) ∧ (256 : Int) < 32768) ∧ (0 ≤ (0 : Int) ∧ (0 : Int) ≤ ((M 26 3) * (256 : Int)) ∧ ((M 26 3) * (256 : Int)) ≤ (33280 : Int) ∧ 33280 ≤ 65536) ∧ (∀ M17 : ab_M, (∀ o' k' : Nat, M17 o' k' = if o' = 776 ∧ (0 : Int) ≤ (k' : Int) ∧ (k' : Int) < ((M 26 3) * (256 : Int)) then (0 : Int) else M o' k') → (-32768 ≤ (30720 : Int) ∧ (30720 : Int) < 32768) ∧ (0 ≤ (30720 : Int) ∧ (30720 : Int) ≤ (33280 : Int) ∧ (33280 : Int) ≤ (33280 : Int) ∧ 33280 ≤ 65536) ∧ (∀ M30 : ab_M, (∀ o' k' : Nat, M30 o' k' = if o' = 776 ∧ (30720 : Int) ≤ (k' : Int) ∧ (k' : Int) < (33280 : Int) then (0 : Int) else M17 o' k') → K [] (ab_up (ab_up (ab_up M30 775 7 (0 : Int)) 775 8 (-1 : Int)) 775 9 (-1 : Int)))) := by
  obtain ⟨g, gK⟩ := hS
  refine And.intro (by
    first
      | omega
      | exact ⟨by omega, by omega⟩
      | exact ⟨⟨by omega, by omega⟩, by omega, by omega⟩
      | trivial
      | exact ⟨by decide, by omega, by omega, by decide⟩
      | exact ⟨by decide, by decide, by decide, by decide⟩) ?_
  refine And.intro (by
    first
      | omega
      | exact ⟨by omega, by omega⟩
      | exact ⟨⟨by omega, by omega⟩, by omega, by omega⟩
      | trivial
      | exact ⟨by decide, by omega, by omega, by decide⟩
      | exact ⟨by decide, by decide, by decide, by decide⟩) ?_
  intro M17 hM17
  refine And.intro (by
    first
      | omega
      | exact ⟨by omega, by omega⟩
      | exact ⟨⟨by omega, by omega⟩, by omega, by omega⟩
      | trivial
      | exact ⟨by decide, by omega, by omega, by decide⟩
      | exact ⟨by decide, by decide, by decide, by decide⟩) ?_
  refine And.intro (by
    first
      | omega
      | exact ⟨by omega, by omega⟩
      | exact ⟨⟨by omega, by omega⟩, by omega, by omega⟩
      | trivial
      | exact ⟨by decide, by omega, by omega, by decide⟩
      | exact ⟨by decide, by decide, by decide, by decide⟩) ?_
  intro M30 hM30
  refine gK _ ⟨fun j hj => ?_, ?_, ?_, ab_up_s, fun o' k' q1 q2 => ?_⟩
  · rw [ab_up_o (by decide), ab_up_o (by decide), ab_up_o (by decide), hM30, hM17]
    obtain ⟨j1, j2⟩ := hj
    rcases j2 with j2 | j2
    · rw [if_pos (c := 776 = 776 ∧ (0 : Int) ≤ (j : Int) ∧ (j : Int) < M 26 3 * 256) ⟨rfl, by omega, by omega⟩]
      split <;> rfl
    · rw [if_pos ⟨rfl, by omega, by omega⟩]
  · rw [ab_up_k (by decide), ab_up_k (by decide), ab_up_s]
  · rw [ab_up_k (by decide), ab_up_s]
  · rw [up_ne (by omega), up_ne (by omega), up_ne (by omega), hM30, hM17, if_neg (fun z => q1 z.1), if_neg (fun z => q1 z.1)]

set_option maxRecDepth 20000 in
set_option maxHeartbeats 1000000 in
theorem ok_X12_startAgain (E : ab_E) : ab_Ok E 3 216 S_X12_startAgain := by
  refine ab_mk rq_X12_startAgain tk_X12_startAgain (rt := 0) (rfl) (cuts := []) (G := [(218, S_J7_fill_fda19)]) (List.forall_mem_cons.mpr ⟨⟨2, by decide, ok_J7_fill_fda19 E⟩, fun _ h => absurd h List.not_mem_nil⟩) (by decide) 76 rfl ?_
  intro a M K wd wa hS
  unfold S_X12_startAgain at hS
  split at hS
  ·
    refine ⟨Nat.le_of_ble_eq_true rfl, fun _ _ _ _ _ => False, ?_, ?_⟩
    · exact vc_X12_startAgain_0  M K  hS
    · exact fun _ _ _ _ _ h => h.elim
  · exact hS.elim
def S_X12_open : ab_PT := fun a M K => match a with
  | [.inr (.inr (.inr (775, 12, 0))), .inr (.inl pl), .inr (.inl fr)] => (0 ≤ pl ∧ pl < 33280) ∧ (∀ Mx : ab_M, (Mx = wk_op M pl fr) → K [] Mx)
  | _ => False
set_option maxRecDepth 20000 in
theorem vc_X12_open_0 (pl : Int) (fr : Int) (M : ab_M) (K : List ab_V → ab_M → Prop) (hS : (0 ≤ pl ∧ pl < 33280) ∧ (∀ Mx : ab_M, (Mx = wk_op M pl fr) → K [] Mx)) : (0 ≤ pl ∧ pl < ((33280 : Nat) : Int)) ∧ (0 ≤ pl ∧ pl < ((33280 : Nat) : Int)) ∧ (0 ≤ pl ∧ pl < ((33280 : Nat) : Int)) ∧ (0 ≤ pl ∧ pl < ((33280 : Nat) : Int)) ∧ (0 ≤ pl ∧ pl < ((33280 : Nat) : Int)) ∧ K [] (ab_up (ab_up (ab_up (ab_up (ab_up (ab_up (ab_up M 775 7 ((M 775 7) + (1 : Int))) 776 pl.toNat ((M 775 7) + (1 : Int))) 777 pl.toNat ((M 775 7) + (1 : Int))) 774 pl.toNat ((0 : Nat) : Int)) 778 pl.toNat fr) 779 pl.toNat (M 775 8)) 775 8 pl) := by
  obtain ⟨g, gK⟩ := hS
  refine And.intro (by
    first
      | omega
      | exact ⟨by omega, by omega⟩
      | exact ⟨⟨by omega, by omega⟩, by omega, by omega⟩
      | trivial) ?_
  refine And.intro (by
    first
      | omega
      | exact ⟨by omega, by omega⟩
      | exact ⟨⟨by omega, by omega⟩, by omega, by omega⟩
      | trivial) ?_
  refine And.intro (by
    first
      | omega
      | exact ⟨by omega, by omega⟩
      | exact ⟨⟨by omega, by omega⟩, by omega, by omega⟩
      | trivial) ?_
  refine And.intro (by
    first
      | omega
      | exact ⟨by omega, by omega⟩
      | exact ⟨⟨by omega, by omega⟩, by omega, by omega⟩
      | trivial) ?_
  refine And.intro (by
    first
      | omega
      | exact ⟨by omega, by omega⟩
      | exact ⟨⟨by omega, by omega⟩, by omega, by omega⟩
      | trivial) ?_
  exact gK _ rfl

set_option maxRecDepth 20000 in
set_option maxHeartbeats 1000000 in
theorem ok_X12_open (E : ab_E) : ab_Ok E 1 214 S_X12_open := by
  refine ab_mk rq_X12_open tk_X12_open (rt := 0) (rfl) (cuts := []) (G := []) (fun g hg => by cases hg) (by decide) 88 rfl ?_
  intro a M K wd wa hS
  unfold S_X12_open at hS
  split at hS
  ·
    rename_i pl fr
    refine ⟨Nat.le_of_ble_eq_true rfl, fun _ _ _ _ _ => False, ?_, ?_⟩
    · exact vc_X12_open_0 pl fr M K  hS
    · exact fun _ _ _ _ _ h => h.elim
  · exact hS.elim
def S_X12_firstNotMet : ab_PT := fun a M K => match a with
  | [.inr (.inr (.inr (775, 12, 0)))] => (∃ Ls : List Int, (ts_L M Ls ∧ ∀ q ∈ Ls, (0 ≤ q ∧ q < 33280) ∧ ab_ir (M 776 q.toNat)) ∧ (∀ rx : Int, ((rx = -1 ∧ ∀ q ∈ Ls, M 776 q.toNat ≠ 0) ∨ (rx ∈ Ls ∧ M 776 rx.toNat = 0)) → K [Xi rx] M))
  | _ => False
set_option maxRecDepth 20000 in
theorem vc_X12_firstNotMet_0  (M : ab_M) (K : List ab_V → ab_M → Prop) (hS : (∃ Ls : List Int, (ts_L M Ls ∧ ∀ q ∈ Ls, (0 ≤ q ∧ q < 33280) ∧ ab_ir (M 776 q.toNat)) ∧ (∀ rx : Int, ((rx = -1 ∧ ∀ q ∈ Ls, M 776 q.toNat ≠ 0) ∨ (rx ∈ Ls ∧ M 776 rx.toNat = 0)) → K [Xi rx] M))) : (∃ n', ((n' = (M 772 3 - (0 : Int)).toNat ∧ 0 ≤ (0 : Int) ∧ M = M ∧ ∀ Ls : List Int, ts_L M Ls → (0 : Int) ≤ ((Ls.length : Nat) : Int) ∧ ∀ x : Nat, (x : Int) < (0 : Int) → M 776 (Ls.getD x 0).toNat ≠ 0))) := by
  obtain ⟨Ls, ⟨gL, gq⟩, gK⟩ := hS
  have g1 := gL.1
  exact ⟨_, rfl, by decide, rfl, fun L hL => ⟨by omega, fun x hx => by omega⟩⟩

set_option maxRecDepth 20000 in
theorem vc_X12_firstNotMet_2  (M : ab_M) (K : List ab_V → ab_M → Prop) (hS : (∃ Ls : List Int, (ts_L M Ls ∧ ∀ q ∈ Ls, (0 ≤ q ∧ q < 33280) ∧ ab_ir (M 776 q.toNat)) ∧ (∀ rx : Int, ((rx = -1 ∧ ∀ q ∈ Ls, M 776 q.toNat ≠ 0) ∨ (rx ∈ Ls ∧ M 776 rx.toNat = 0)) → K [Xi rx] M))) (n : Nat) (k : Int) (M1 : ab_M) (hI : n = (M 772 3 - k).toNat ∧ 0 ≤ k ∧ M1 = M ∧ ∀ Ls : List Int, ts_L M Ls → k ≤ ((Ls.length : Nat) : Int) ∧ ∀ x : Nat, (x : Int) < k → M 776 (Ls.getD x 0).toNat ≠ 0) : (ab_ir k ∧ ab_ir (M1 772 3)) ∧ (((M1 772 3) ≤ k → K [Xi (-1 : Int)] M1) ∧ (k < (M1 772 3) → (0 ≤ k ∧ k < ((256 : Nat) : Int)) ∧ (0 ≤ (M1 773 k.toNat) ∧ (M1 773 k.toNat) < ((33280 : Nat) : Int)) ∧ (ab_ir (M1 776 ((M1 773 k.toNat).toNat))) ∧ ((¬ (M1 776 ((M1 773 k.toNat).toNat)) = 0 → (∃ n', n' < n ∧ ((n' = (M 772 3 - (k + 1)).toNat ∧ 0 ≤ (k + 1) ∧ M1 = M ∧ ∀ Ls : List Int, ts_L M Ls → (k + 1) ≤ ((Ls.length : Nat) : Int) ∧ ∀ x : Nat, (x : Int) < (k + 1) → M 776 (Ls.getD x 0).toNat ≠ 0)))) ∧ ((M1 776 ((M1 773 k.toNat).toNat)) = 0 → (0 ≤ k ∧ k < ((256 : Nat) : Int)) ∧ K [Xi (M1 773 k.toNat)] M1)))) := by
  obtain ⟨hn, hk0, q1, hI⟩ := hI
  subst q1
  obtain ⟨Ls, ⟨gL, gq⟩, gK⟩ := hS
  have g1 := gL.1
  have g2 := gL.2.1
  obtain ⟨hk1, hdn⟩ := hI Ls gL
  have hpl : cr_wr (k < M1 772 3 → ((0 ≤ M1 773 k.toNat ∧ M1 773 k.toNat < 33280) ∧ ab_ir (M1 776 (M1 773 k.toNat).toNat)) ∧ M1 773 k.toNat = Ls.getD k.toNat 0 ∧ M1 773 k.toNat ∈ Ls) := by
    intro q
    have e := gL.2.2 k.toNat (by omega)
    have hm := mem_getD (L := Ls) (i := k.toNat) (by omega)
    rw [e]
    exact ⟨gq _ hm, rfl, hm⟩
  refine And.intro (by
    first
      | omega
      | exact ⟨by omega, by omega⟩
      | exact ⟨⟨by omega, by omega⟩, by omega, by omega⟩
      | trivial
      | (have hz := (hpl (by omega)).1; exact ⟨hz.1.1, hz.1.2⟩)
      | (have hz := (hpl (by omega)).1; exact hz.2)) ?_
  refine ⟨?_, ?_⟩
  · intro c10
    refine gK _ (Or.inl ⟨rfl, fun q hq => ?_⟩)
    obtain ⟨i, hi, e⟩ := of_mem_getD hq
    rw [← e]
    exact hdn i (by omega)
  · intro c10
    refine And.intro (by
      first
        | omega
        | exact ⟨by omega, by omega⟩
        | exact ⟨⟨by omega, by omega⟩, by omega, by omega⟩
        | trivial
        | (have hz := (hpl (by omega)).1; exact ⟨hz.1.1, hz.1.2⟩)
        | (have hz := (hpl (by omega)).1; exact hz.2)) ?_
    refine And.intro (by
      first
        | omega
        | exact ⟨by omega, by omega⟩
        | exact ⟨⟨by omega, by omega⟩, by omega, by omega⟩
        | trivial
        | (have hz := (hpl (by omega)).1; exact ⟨hz.1.1, hz.1.2⟩)
        | (have hz := (hpl (by omega)).1; exact hz.2)) ?_
    refine And.intro (by
      first
        | omega
        | exact ⟨by omega, by omega⟩
        | exact ⟨⟨by omega, by omega⟩, by omega, by omega⟩
        | trivial
        | (have hz := (hpl (by omega)).1; exact ⟨hz.1.1, hz.1.2⟩)
        | (have hz := (hpl (by omega)).1; exact hz.2)) ?_
    refine ⟨?_, ?_⟩
    · intro c27
      refine ⟨_, ?_, rfl, by omega, rfl, fun L hL => ?_⟩
      · omega
      have eu := gL.uq hL
      subst eu
      refine ⟨by omega, fun x hx => ?_⟩
      by_cases e : (x : Int) = k
      · have hz := hpl (by omega)
        rw [show x = k.toNat by omega, ← hz.2.1]
        assumption
      · exact hdn x (by omega)
    · intro c27
      refine And.intro (by
        first
          | omega
          | exact ⟨by omega, by omega⟩
          | exact ⟨⟨by omega, by omega⟩, by omega, by omega⟩
          | trivial
          | (have hz := (hpl (by omega)).1; exact ⟨hz.1.1, hz.1.2⟩)
          | (have hz := (hpl (by omega)).1; exact hz.2)) ?_
      have hz := hpl (by omega)
      exact gK _ (Or.inr ⟨hz.2.2, by assumption⟩)

set_option maxRecDepth 20000 in
set_option maxHeartbeats 1000000 in
theorem ok_X12_firstNotMet (E : ab_E) : ab_Ok E 1 210 S_X12_firstNotMet := by
  refine ab_mk rq_X12_firstNotMet tk_X12_firstNotMet (rt := 1) (rfl) (cuts := [2]) (G := []) (fun g hg => by cases hg) (by decide) 76 rfl ?_
  intro a M K wd wa hS
  unfold S_X12_firstNotMet at hS
  split at hS
  ·
    refine ⟨Nat.le_of_ble_eq_true rfl, fun pc n L st M1 => match pc, L, st with
      | 2, [.inr (.inr (.inr (775, 12, 0))), .inr (.inl k)], [] => (n = (M 772 3 - k).toNat ∧ 0 ≤ k ∧ M1 = M ∧ ∀ Ls : List Int, ts_L M Ls → k ≤ ((Ls.length : Nat) : Int) ∧ ∀ x : Nat, (x : Int) < k → M 776 (Ls.getD x 0).toNat ≠ 0)
      | _, _, _ => False, ?_, ?_⟩
    · exact vc_X12_firstNotMet_0  M K  hS
    · intro pc n L st M1 hI wd1 wL wst
      (try dsimp only at hI)
      split at hI
      ·
        rename_i k
        exact vc_X12_firstNotMet_2  M K  hS n k _ hI
      · exact hI.elim
  · exact hS.elim
def S_X12_ownOutcome : ab_PT := fun a M K => match a with
  | [.inr (.inl row), .inr (.inl c)] => (ab_ir row ∧ ab_ir c) ∧ (∀ rx : Int, (rx = wk_oo row c) → K [Xl rx] M)
  | _ => False
set_option maxRecDepth 20000 in
theorem vc_X12_ownOutcome_0 (row : Int) (c : Int) (M : ab_M) (K : List ab_V → ab_M → Prop) (hS : (ab_ir row ∧ ab_ir c) ∧ (∀ rx : Int, (rx = wk_oo row c) → K [Xl rx] M)) : (ab_ir c) ∧ ((c < 0 → (-128 ≤ (120 : Int) ∧ (120 : Int) < 128) ∧ (ab_ir row ∧ ab_ir (120 : Int)) ∧ ((¬ row = (120 : Int) → (-128 ≤ (121 : Int) ∧ (121 : Int) < 128) ∧ (ab_ir row ∧ ab_ir (121 : Int)) ∧ ((¬ row = (121 : Int) → K [Xl ((0 : Nat) : Int)] M) ∧ (row = (121 : Int) → K [Xl (131072 : Int)] M))) ∧ (row = (120 : Int) → K [Xl (65536 : Int)] M))) ∧ (0 ≤ c → K [Xl (ab_lshl ((1 : Nat) : Int) c)] M)) := by
  obtain ⟨⟨g1, g2⟩, gK⟩ := hS
  refine And.intro (by
    first
      | omega
      | exact ⟨by omega, by omega⟩
      | exact ⟨⟨by omega, by omega⟩, by omega, by omega⟩
      | trivial
      | exact g1
      | exact g2
      | exact ⟨g1, by decide, by decide⟩) ?_
  refine ⟨?_, ?_⟩
  · intro c1
    refine And.intro (by
      first
        | omega
        | exact ⟨by omega, by omega⟩
        | exact ⟨⟨by omega, by omega⟩, by omega, by omega⟩
        | trivial
        | exact g1
        | exact g2
        | exact ⟨g1, by decide, by decide⟩) ?_
    refine And.intro (by
      first
        | omega
        | exact ⟨by omega, by omega⟩
        | exact ⟨⟨by omega, by omega⟩, by omega, by omega⟩
        | trivial
        | exact g1
        | exact g2
        | exact ⟨g1, by decide, by decide⟩) ?_
    refine ⟨?_, ?_⟩
    · intro c11
      refine And.intro (by
        first
          | omega
          | exact ⟨by omega, by omega⟩
          | exact ⟨⟨by omega, by omega⟩, by omega, by omega⟩
          | trivial
          | exact g1
          | exact g2
          | exact ⟨g1, by decide, by decide⟩) ?_
      refine And.intro (by
        first
          | omega
          | exact ⟨by omega, by omega⟩
          | exact ⟨⟨by omega, by omega⟩, by omega, by omega⟩
          | trivial
          | exact g1
          | exact g2
          | exact ⟨g1, by decide, by decide⟩) ?_
      refine ⟨?_, ?_⟩
      · intro c21
        refine gK _ ?_
        unfold wk_oo
        first
          | (rw [if_pos (by assumption)]; done)
          | (rw [if_neg (by omega), if_pos (by assumption)]; done)
          | (rw [if_neg (by omega), if_neg (by assumption), if_pos (by assumption)]; done)
          | (rw [if_neg (by omega), if_neg (by assumption), if_neg (by assumption)]; done)
      · intro c21
        refine gK _ ?_
        unfold wk_oo
        first
          | (rw [if_pos (by assumption)]; done)
          | (rw [if_neg (by omega), if_pos (by assumption)]; done)
          | (rw [if_neg (by omega), if_neg (by assumption), if_pos (by assumption)]; done)
          | (rw [if_neg (by omega), if_neg (by assumption), if_neg (by assumption)]; done)
    · intro c11
      refine gK _ ?_
      unfold wk_oo
      first
        | (rw [if_pos (by assumption)]; done)
        | (rw [if_neg (by omega), if_pos (by assumption)]; done)
        | (rw [if_neg (by omega), if_neg (by assumption), if_pos (by assumption)]; done)
        | (rw [if_neg (by omega), if_neg (by assumption), if_neg (by assumption)]; done)
  · intro c1
    refine gK _ ?_
    unfold wk_oo
    first
      | (rw [if_pos (by assumption)]; done)
      | (rw [if_neg (by omega), if_pos (by assumption)]; done)
      | (rw [if_neg (by omega), if_neg (by assumption), if_pos (by assumption)]; done)
      | (rw [if_neg (by omega), if_neg (by assumption), if_neg (by assumption)]; done)

set_option maxRecDepth 20000 in
set_option maxHeartbeats 1000000 in
theorem ok_X12_ownOutcome (E : ab_E) : ab_Ok E 1 215 S_X12_ownOutcome := by
  refine ab_mk rq_X12_ownOutcome tk_X12_ownOutcome (rt := 3) (rfl) (cuts := []) (G := []) (fun g hg => by cases hg) (by decide) 68 rfl ?_
  intro a M K wd wa hS
  unfold S_X12_ownOutcome at hS
  split at hS
  ·
    rename_i row c
    refine ⟨Nat.le_of_ble_eq_true rfl, fun _ _ _ _ _ => False, ?_, ?_⟩
    · exact vc_X12_ownOutcome_0 row c M K  hS
    · exact fun _ _ _ _ _ h => h.elim
  · exact hS.elim
def S_X12_close : ab_PT := fun a M K => match a with
  | [.inr (.inr (.inr (775, 12, 0))), .inr (.inl f)] => (∃ U : List Nat, ∃ T1 : List Nat, ((0 ≤ f ∧ f < 33280) ∧ wk_cA M f.toNat U T1) ∧ (∀ Mx : ab_M, (Mx = wk_cz M U f.toNat) → K [] Mx))
  | _ => False
set_option maxRecDepth 20000 in
theorem vc_X12_close_0 (f : Int) (M : ab_M) (K : List ab_V → ab_M → Prop) (hS : (∃ U : List Nat, ∃ T1 : List Nat, ((0 ≤ f ∧ f < 33280) ∧ wk_cA M f.toNat U T1) ∧ (∀ Mx : ab_M, (Mx = wk_cz M U f.toNat) → K [] Mx))) : (∃ n', ((n' = (33280 - (0 : Int)).toNat ∧ f = f ∧ 0 ≤ (0 : Int) ∧ ∀ U T1 : List Nat, wk_cA M f.toNat U T1 → wk_cI M M f.toNat U T1 (0 : Int)))) := by
  obtain ⟨U, T1, ⟨gf, gA⟩, gK⟩ := hS
  exact ⟨_, rfl, rfl, by decide, fun U' T1' h => wk_cI.start h⟩

set_option maxRecDepth 20000 in
theorem vc_X12_close_2 (f : Int) (M : ab_M) (K : List ab_V → ab_M → Prop) (hS : (∃ U : List Nat, ∃ T1 : List Nat, ((0 ≤ f ∧ f < 33280) ∧ wk_cA M f.toNat U T1) ∧ (∀ Mx : ab_M, (Mx = wk_cz M U f.toNat) → K [] Mx))) (n : Nat) (f1 : Int) (k : Int) (M1 : ab_M) (hI : n = (33280 - k).toNat ∧ f = f1 ∧ 0 ≤ k ∧ ∀ U T1 : List Nat, wk_cA M f.toNat U T1 → wk_cI M M1 f.toNat U T1 k) : (ab_ir k ∧ ab_ir (33280 : Int)) ∧ (((33280 : Int) ≤ k → K [] M1) ∧ (k < (33280 : Int) → (ab_ir (M1 775 8) ∧ ab_ir (-1 : Int)) ∧ (((M1 775 8) = (-1 : Int) → K [] M1) ∧ (¬ (M1 775 8) = (-1 : Int) → (0 ≤ (M1 775 8) ∧ (M1 775 8) < ((33280 : Nat) : Int)) ∧ (0 ≤ (M1 775 8) ∧ (M1 775 8) < ((33280 : Nat) : Int)) ∧ (0 ≤ f1 ∧ f1 < ((33280 : Nat) : Int)) ∧ (0 ≤ (M1 775 8) ∧ (M1 775 8) < ((33280 : Nat) : Int)) ∧ (ab_ir (M1 775 8) ∧ ab_ir f1) ∧ ((¬ (M1 775 8) = f1 → (∃ n', n' < n ∧ ((n' = (33280 - (k + 1)).toNat ∧ f = f1 ∧ 0 ≤ (k + 1) ∧ ∀ U T1 : List Nat, wk_cA M f.toNat U T1 → wk_cI M (ab_up (ab_up (ab_up M1 775 8 (M1 779 ((M1 775 8).toNat))) 777 ((M1 775 8).toNat) (33281 : Int)) 774 ((M1 775 8).toNat) (M1 774 f1.toNat)) f.toNat U T1 (k + 1))))) ∧ ((M1 775 8) = f1 → K [] (ab_up (ab_up (ab_up M1 775 8 (M1 779 ((M1 775 8).toNat))) 777 ((M1 775 8).toNat) (33281 : Int)) 774 ((M1 775 8).toNat) (M1 774 f1.toNat)))))))) := by
  obtain ⟨hn, q1, hk0, hI⟩ := hI
  subst q1
  obtain ⟨U, T1, ⟨gf, gA⟩, gK⟩ := hS
  obtain ⟨U1, U2, top, hU, hk, hch, hM⟩ := hI U T1 gA
  have hlen : U1.length + U2.length < 33280 := by
    have h := gA.2.2.2
    rw [hU, List.length_append] at h
    exact h
  have h8 : M1 775 8 = top := by rw [hM, wk_cp_8]
  have h79 : ∀ j, M1 779 j = M 779 j := fun j => by rw [hM, wk_cp_779]
  have htop : 0 ≤ top ∧ top < 33280 := by
    cases U2 with
    | nil =>
      have h : top = ((f.toNat : Nat) : Int) := hch.1
      omega
    | cons u U2 =>
      have h : top = ((u : Nat) : Int) := hch.1
      have := (gA.2.2.1 u (by rw [hU]; exact List.mem_append.2 (Or.inr List.mem_cons_self))).1
      omega
  rw [h8]
  refine And.intro (by
    first
      | omega
      | exact ⟨by omega, by omega⟩
      | exact ⟨⟨by omega, by omega⟩, by omega, by omega⟩
      | trivial
      | (rw [ab_up_k (by decide), h8]; exact ⟨by omega, by omega⟩)
      | exact ⟨⟨by omega, by omega⟩, gf.1, by omega⟩
      | exact ⟨⟨htop.1, by omega⟩, gf.1, by omega⟩) ?_
  refine ⟨?_, ?_⟩
  · intro c5
    omega
  · intro c5
    refine And.intro (by
      first
        | omega
        | exact ⟨by omega, by omega⟩
        | exact ⟨⟨by omega, by omega⟩, by omega, by omega⟩
        | trivial
        | (rw [ab_up_k (by decide), h8]; exact ⟨by omega, by omega⟩)
        | exact ⟨⟨by omega, by omega⟩, gf.1, by omega⟩
        | exact ⟨⟨htop.1, by omega⟩, gf.1, by omega⟩) ?_
    refine ⟨?_, ?_⟩
    · intro c13
      omega
    · intro c13
      refine And.intro (by
        first
          | omega
          | exact ⟨by omega, by omega⟩
          | exact ⟨⟨by omega, by omega⟩, by omega, by omega⟩
          | trivial
          | (rw [ab_up_k (by decide), h8]; exact ⟨by omega, by omega⟩)
          | exact ⟨⟨by omega, by omega⟩, gf.1, by omega⟩
          | exact ⟨⟨htop.1, by omega⟩, gf.1, by omega⟩) ?_
      refine And.intro (by
        first
          | omega
          | exact ⟨by omega, by omega⟩
          | exact ⟨⟨by omega, by omega⟩, by omega, by omega⟩
          | trivial
          | (rw [ab_up_k (by decide), h8]; exact ⟨by omega, by omega⟩)
          | exact ⟨⟨by omega, by omega⟩, gf.1, by omega⟩
          | exact ⟨⟨htop.1, by omega⟩, gf.1, by omega⟩) ?_
      refine And.intro (by
        first
          | omega
          | exact ⟨by omega, by omega⟩
          | exact ⟨⟨by omega, by omega⟩, by omega, by omega⟩
          | trivial
          | (rw [ab_up_k (by decide), h8]; exact ⟨by omega, by omega⟩)
          | exact ⟨⟨by omega, by omega⟩, gf.1, by omega⟩
          | exact ⟨⟨htop.1, by omega⟩, gf.1, by omega⟩) ?_
      refine And.intro (by
        first
          | omega
          | exact ⟨by omega, by omega⟩
          | exact ⟨⟨by omega, by omega⟩, by omega, by omega⟩
          | trivial
          | (rw [ab_up_k (by decide), h8]; exact ⟨by omega, by omega⟩)
          | exact ⟨⟨by omega, by omega⟩, gf.1, by omega⟩
          | exact ⟨⟨htop.1, by omega⟩, gf.1, by omega⟩) ?_
      refine And.intro (by
        first
          | omega
          | exact ⟨by omega, by omega⟩
          | exact ⟨⟨by omega, by omega⟩, by omega, by omega⟩
          | trivial
          | (rw [ab_up_k (by decide), h8]; exact ⟨by omega, by omega⟩)
          | exact ⟨⟨by omega, by omega⟩, gf.1, by omega⟩
          | exact ⟨⟨htop.1, by omega⟩, gf.1, by omega⟩) ?_
      refine ⟨?_, ?_⟩
      · intro c53
        refine ⟨_, ?_, rfl, rfl, by omega, fun U' T1' gA' => ?_⟩
        · omega
        obtain ⟨V1, V2, top', hV, hk', hch', hM'⟩ := hI U' T1' gA'
        have ht : top' = top := by rw [← h8, hM', wk_cp_8]
        subst ht
        have hfV : f.toNat ∉ V1 := fun z => (gA'.2.2.1 _ (by rw [hV]; exact List.mem_append.2 (Or.inl z))).2 rfl
        cases V2 with
        | nil =>
          have h : top' = ((f.toNat : Nat) : Int) := hch'.1
          omega
        | cons u V2 =>
          have h : top' = ((u : Nat) : Int) := hch'.1
          refine ⟨V1 ++ [u], V2, M 779 u, by rw [hV, List.append_assoc]; rfl, by rw [List.length_append]; simp only [List.length_cons, List.length_nil]; omega, hch'.2, ?_⟩
          have hmem : ∀ k', k' ∈ V1 ++ [u] ↔ k' ∈ u :: V1 := fun k' => by
            rw [List.mem_append, List.mem_singleton, List.mem_cons]
            exact Or.comm
          rw [wk_cp_mem hmem, ← wk_cp_up (top := top') hfV, ← hM', h79, show top'.toNat = u by omega]
      · intro c53
        have hfU : f.toNat ∉ U1 := fun z => (gA.2.2.1 _ (by rw [hU]; exact List.mem_append.2 (Or.inl z))).2 rfl
        refine gK _ ?_
        have hU2 : U2 = [] := by
          cases U2 with
          | nil => rfl
          | cons u U2 =>
            have h : top = ((u : Nat) : Int) := hch.1
            have := (gA.2.2.1 u (by rw [hU]; exact List.mem_append.2 (Or.inr List.mem_cons_self))).2
            omega
        subst hU2
        rw [List.append_nil] at hU
        subst hU
        have h : top = f := by assumption
        subst h
        unfold wk_cz
        rw [← wk_cp_up (top := top) hfU, ← hM, h79]

set_option maxRecDepth 20000 in
set_option maxHeartbeats 1000000 in
theorem ok_X12_close (E : ab_E) : ab_Ok E 1 206 S_X12_close := by
  refine ab_mk rq_X12_close tk_X12_close (rt := 0) (rfl) (cuts := [2]) (G := []) (fun g hg => by cases hg) (by decide) 88 rfl ?_
  intro a M K wd wa hS
  unfold S_X12_close at hS
  split at hS
  ·
    rename_i f
    refine ⟨Nat.le_of_ble_eq_true rfl, fun pc n L st M1 => match pc, L, st with
      | 2, [.inr (.inr (.inr (775, 12, 0))), .inr (.inl f1), .inr (.inl k), u4_], [] => (n = (33280 - k).toNat ∧ f = f1 ∧ 0 ≤ k ∧ ∀ U T1 : List Nat, wk_cA M f.toNat U T1 → wk_cI M M1 f.toNat U T1 k)
      | _, _, _ => False, ?_, ?_⟩
    · exact vc_X12_close_0 f M K  hS
    · intro pc n L st M1 hI wd1 wL wst
      (try dsimp only at hI)
      split at hI
      ·
        rename_i f1 k u4_
        exact vc_X12_close_2 f M K  hS n f1 k _ hI
      · exact hI.elim
  · exact hS.elim
def S_X12_finish : ab_PT := fun a M K => match a with
  | [.inr (.inr (.inr (775, 12, 0))), .inr (.inl pl), .inr (.inl c)] => (∃ Ls : List Int, ∃ U : List Nat, ∃ T1 : List Nat, ((ts_L M Ls ∧ ∀ q ∈ Ls, (0 ≤ q ∧ q < 33280) ∧ ab_ir (M 777 q.toNat)) ∧ (0 ≤ pl ∧ pl < 33280) ∧ (ab_ir (M 776 pl.toNat) ∧ ab_ir c) ∧ wk_cA M pl.toNat U T1) ∧ (∀ Mx : ab_M, (Mx = wk_fi M Ls pl c U) → K [] Mx))
  | _ => False
set_option maxRecDepth 20000 in
theorem vc_X12_finish_0 (pl : Int) (c : Int) (M : ab_M) (K : List ab_V → ab_M → Prop) (hS : (∃ Ls : List Int, ∃ U : List Nat, ∃ T1 : List Nat, ((ts_L M Ls ∧ ∀ q ∈ Ls, (0 ≤ q ∧ q < 33280) ∧ ab_ir (M 777 q.toNat)) ∧ (0 ≤ pl ∧ pl < 33280) ∧ (ab_ir (M 776 pl.toNat) ∧ ab_ir c) ∧ wk_cA M pl.toNat U T1) ∧ (∀ Mx : ab_M, (Mx = wk_fi M Ls pl c U) → K [] Mx))) : (-32768 ≤ (256 : Int) ∧ (256 : Int) < 32768) ∧ (0 ≤ pl ∧ pl < 2147483648 ∧ 0 < (256 : Int) ∧ (256 : Int) < 2147483648) ∧ (ab_ir (pl / (256 : Int)) ∧ ab_ir c) ∧ (∀ r6 : Int, (r6 = wk_oo (pl / (256 : Int)) c) → (0 ≤ pl ∧ pl < ((33280 : Nat) : Int)) ∧ (∃ n', ((n' = (M 772 3 - (0 : Int)).toNat ∧ pl = pl ∧ c = c ∧ 0 ≤ (0 : Int) ∧ M = M ∧ ∀ Ls : List Int, ts_L M Ls → (0 : Int) ≤ ((Ls.length : Nat) : Int) ∧ r6 = lf_f (M 774) Ls (wk_oo (pl / 256) c) (0 : Int).toNat ∧ (M 776 pl.toNat) = ml_f (M 777) Ls (M 776 pl.toNat) (0 : Int).toNat)))) := by
  obtain ⟨Ls, U, T1, ⟨⟨gL, gq⟩, gpl, ⟨gN, gc⟩, gA⟩, gK⟩ := hS
  have g1 := gL.1
  have g2 := gL.2.1
  
  refine And.intro (by
    first
      | omega
      | exact ⟨by omega, by omega⟩
      | exact ⟨⟨by omega, by omega⟩, by omega, by omega⟩
      | trivial
      | exact ⟨by omega, gc⟩
      | exact ⟨⟨by omega, by omega⟩, gc⟩
      | (have hz := (hpl (by omega)).1; exact ⟨hz.1.1, hz.1.2⟩)
      | (have hz := (hpl (by omega)).1; exact ⟨hloir, hz.2⟩)
      | (rw [ab_up_o (by decide), ab_up_o (by decide)]; exact ⟨hloir, gN⟩)
      | exact ⟨⟨by omega, by omega⟩, by omega, by omega⟩) ?_
  refine And.intro (by
    first
      | omega
      | exact ⟨by omega, by omega⟩
      | exact ⟨⟨by omega, by omega⟩, by omega, by omega⟩
      | trivial
      | exact ⟨by omega, gc⟩
      | exact ⟨⟨by omega, by omega⟩, gc⟩
      | (have hz := (hpl (by omega)).1; exact ⟨hz.1.1, hz.1.2⟩)
      | (have hz := (hpl (by omega)).1; exact ⟨hloir, hz.2⟩)
      | (rw [ab_up_o (by decide), ab_up_o (by decide)]; exact ⟨hloir, gN⟩)
      | exact ⟨⟨by omega, by omega⟩, by omega, by omega⟩) ?_
  refine And.intro (by
    first
      | omega
      | exact ⟨by omega, by omega⟩
      | exact ⟨⟨by omega, by omega⟩, by omega, by omega⟩
      | trivial
      | exact ⟨by omega, gc⟩
      | exact ⟨⟨by omega, by omega⟩, gc⟩
      | (have hz := (hpl (by omega)).1; exact ⟨hz.1.1, hz.1.2⟩)
      | (have hz := (hpl (by omega)).1; exact ⟨hloir, hz.2⟩)
      | (rw [ab_up_o (by decide), ab_up_o (by decide)]; exact ⟨hloir, gN⟩)
      | exact ⟨⟨by omega, by omega⟩, by omega, by omega⟩) ?_
  intro r6 hr6
  refine And.intro (by
    first
      | omega
      | exact ⟨by omega, by omega⟩
      | exact ⟨⟨by omega, by omega⟩, by omega, by omega⟩
      | trivial
      | exact ⟨by omega, gc⟩
      | exact ⟨⟨by omega, by omega⟩, gc⟩
      | (have hz := (hpl (by omega)).1; exact ⟨hz.1.1, hz.1.2⟩)
      | (have hz := (hpl (by omega)).1; exact ⟨hloir, hz.2⟩)
      | (rw [ab_up_o (by decide), ab_up_o (by decide)]; exact ⟨hloir, gN⟩)
      | exact ⟨⟨by omega, by omega⟩, by omega, by omega⟩) ?_
  exact ⟨_, rfl, rfl, rfl, by decide, rfl, fun L hL => ⟨by omega, hr6, rfl⟩⟩

set_option maxRecDepth 20000 in
theorem vc_X12_finish_21 (pl : Int) (c : Int) (M : ab_M) (K : List ab_V → ab_M → Prop) (hS : (∃ Ls : List Int, ∃ U : List Nat, ∃ T1 : List Nat, ((ts_L M Ls ∧ ∀ q ∈ Ls, (0 ≤ q ∧ q < 33280) ∧ ab_ir (M 777 q.toNat)) ∧ (0 ≤ pl ∧ pl < 33280) ∧ (ab_ir (M 776 pl.toNat) ∧ ab_ir c) ∧ wk_cA M pl.toNat U T1) ∧ (∀ Mx : ab_M, (Mx = wk_fi M Ls pl c U) → K [] Mx))) (n : Nat) (p1 : Int) (c1 : Int) (x : Int) (lo : Int) (k : Int) (M1 : ab_M) (hI : n = (M 772 3 - k).toNat ∧ pl = p1 ∧ c = c1 ∧ 0 ≤ k ∧ M1 = M ∧ ∀ Ls : List Int, ts_L M Ls → k ≤ ((Ls.length : Nat) : Int) ∧ x = lf_f (M 774) Ls (wk_oo (pl / 256) c) k.toNat ∧ lo = ml_f (M 777) Ls (M 776 pl.toNat) k.toNat) : (ab_ir k ∧ ab_ir (M1 772 3)) ∧ (((M1 772 3) ≤ k → (0 ≤ p1 ∧ p1 < ((33280 : Nat) : Int)) ∧ (0 ≤ p1 ∧ p1 < ((33280 : Nat) : Int)) ∧ (0 ≤ p1 ∧ p1 < ((33280 : Nat) : Int)) ∧ (ab_ir lo ∧ ab_ir (M1 776 p1.toNat)) ∧ ((¬ lo = (M1 776 p1.toNat) → K [] (ab_up (ab_up M1 774 p1.toNat x) 777 p1.toNat lo)) ∧ (lo = (M1 776 p1.toNat) → (∃ U_107 : List Nat, ∃ T1_107 : List Nat, ((0 ≤ p1 ∧ p1 < 33280) ∧ wk_cA (ab_up (ab_up M1 774 p1.toNat x) 777 p1.toNat lo) p1.toNat U_107 T1_107) ∧ (∀ M107 : ab_M, (M107 = wk_cz (ab_up (ab_up M1 774 p1.toNat x) 777 p1.toNat lo) U_107 p1.toNat) → K [] M107))))) ∧ (k < (M1 772 3) → (0 ≤ k ∧ k < ((256 : Nat) : Int)) ∧ (0 ≤ (M1 773 k.toNat) ∧ (M1 773 k.toNat) < ((33280 : Nat) : Int)) ∧ (0 ≤ k ∧ k < ((256 : Nat) : Int)) ∧ (0 ≤ (M1 773 k.toNat) ∧ (M1 773 k.toNat) < ((33280 : Nat) : Int)) ∧ (ab_ir lo ∧ ab_ir (M1 777 ((M1 773 k.toNat).toNat))) ∧ (∃ n', n' < n ∧ ((n' = (M 772 3 - (k + 1)).toNat ∧ pl = p1 ∧ c = c1 ∧ 0 ≤ (k + 1) ∧ M1 = M ∧ ∀ Ls : List Int, ts_L M Ls → (k + 1) ≤ ((Ls.length : Nat) : Int) ∧ (ab_lor x (M1 774 ((M1 773 k.toNat).toNat))) = lf_f (M 774) Ls (wk_oo (pl / 256) c) (k + 1).toNat ∧ (if (M1 777 ((M1 773 k.toNat).toNat)) < lo then (M1 777 ((M1 773 k.toNat).toNat)) else lo) = ml_f (M 777) Ls (M 776 pl.toNat) (k + 1).toNat))))) := by
  obtain ⟨hn, q1, q2, hk0, q3, hI⟩ := hI
  subst q1
  subst q2
  subst q3
  obtain ⟨Ls, U, T1, ⟨⟨gL, gq⟩, gpl, ⟨gN, gc⟩, gA⟩, gK⟩ := hS
  have g1 := gL.1
  have g2 := gL.2.1
  obtain ⟨hk1, hx, hlo⟩ := hI Ls gL
  have hpl : cr_wr (k < M1 772 3 → ((0 ≤ M1 773 k.toNat ∧ M1 773 k.toNat < 33280) ∧ ab_ir (M1 777 (M1 773 k.toNat).toNat)) ∧ M1 773 k.toNat = Ls.getD k.toNat 0) := by
    intro q
    have e := gL.2.2 k.toNat (by omega)
    have hm := mem_getD (L := Ls) (i := k.toNat) (by omega)
    rw [e]
    exact ⟨gq _ hm, rfl⟩
  have hloir : ab_ir lo := by
    rw [hlo]
    exact ml_f_ir gN (fun q hq => (gq q hq).2) (by omega)
  refine And.intro (by
    first
      | omega
      | exact ⟨by omega, by omega⟩
      | exact ⟨⟨by omega, by omega⟩, by omega, by omega⟩
      | trivial
      | exact ⟨by omega, gc⟩
      | exact ⟨⟨by omega, by omega⟩, gc⟩
      | (have hz := (hpl (by omega)).1; exact ⟨hz.1.1, hz.1.2⟩)
      | (have hz := (hpl (by omega)).1; exact ⟨hloir, hz.2⟩)
      | (rw [ab_up_o (by decide), ab_up_o (by decide)]; exact ⟨hloir, gN⟩)
      | exact ⟨⟨by omega, by omega⟩, by omega, by omega⟩) ?_
  refine ⟨?_, ?_⟩
  · intro c30
    refine And.intro (by
      first
        | omega
        | exact ⟨by omega, by omega⟩
        | exact ⟨⟨by omega, by omega⟩, by omega, by omega⟩
        | trivial
        | exact ⟨by omega, gc⟩
        | exact ⟨⟨by omega, by omega⟩, gc⟩
        | (have hz := (hpl (by omega)).1; exact ⟨hz.1.1, hz.1.2⟩)
        | (have hz := (hpl (by omega)).1; exact ⟨hloir, hz.2⟩)
        | (rw [ab_up_o (by decide), ab_up_o (by decide)]; exact ⟨hloir, gN⟩)
        | exact ⟨⟨by omega, by omega⟩, by omega, by omega⟩) ?_
    refine And.intro (by
      first
        | omega
        | exact ⟨by omega, by omega⟩
        | exact ⟨⟨by omega, by omega⟩, by omega, by omega⟩
        | trivial
        | exact ⟨by omega, gc⟩
        | exact ⟨⟨by omega, by omega⟩, gc⟩
        | (have hz := (hpl (by omega)).1; exact ⟨hz.1.1, hz.1.2⟩)
        | (have hz := (hpl (by omega)).1; exact ⟨hloir, hz.2⟩)
        | (rw [ab_up_o (by decide), ab_up_o (by decide)]; exact ⟨hloir, gN⟩)
        | exact ⟨⟨by omega, by omega⟩, by omega, by omega⟩) ?_
    refine And.intro (by
      first
        | omega
        | exact ⟨by omega, by omega⟩
        | exact ⟨⟨by omega, by omega⟩, by omega, by omega⟩
        | trivial
        | exact ⟨by omega, gc⟩
        | exact ⟨⟨by omega, by omega⟩, gc⟩
        | (have hz := (hpl (by omega)).1; exact ⟨hz.1.1, hz.1.2⟩)
        | (have hz := (hpl (by omega)).1; exact ⟨hloir, hz.2⟩)
        | (rw [ab_up_o (by decide), ab_up_o (by decide)]; exact ⟨hloir, gN⟩)
        | exact ⟨⟨by omega, by omega⟩, by omega, by omega⟩) ?_
    refine And.intro (by
      first
        | omega
        | exact ⟨by omega, by omega⟩
        | exact ⟨⟨by omega, by omega⟩, by omega, by omega⟩
        | trivial
        | exact ⟨by omega, gc⟩
        | exact ⟨⟨by omega, by omega⟩, gc⟩
        | (have hz := (hpl (by omega)).1; exact ⟨hz.1.1, hz.1.2⟩)
        | (have hz := (hpl (by omega)).1; exact ⟨hloir, hz.2⟩)
        | (rw [ab_up_o (by decide), ab_up_o (by decide)]; exact ⟨hloir, gN⟩)
        | exact ⟨⟨by omega, by omega⟩, by omega, by omega⟩) ?_
    refine ⟨?_, ?_⟩
    · intro c102
      have hxx : x = wk_fx M1 Ls pl c := by
        unfold wk_fx
        rw [hx, show k.toNat = Ls.length by omega]
      have hll : lo = wk_fl M1 Ls pl := by
        unfold wk_fl
        rw [hlo, show k.toNat = Ls.length by omega]
      refine gK _ ?_
      unfold wk_fi
      rw [← hll]
      first
        | (rw [if_pos (by assumption)]
           rw [hM107]
           unfold wk_fm
           rw [hxx, hll])
        | (rw [if_neg (by assumption)]
           unfold wk_fm
           rw [hxx, hll])
    · intro c102
      refine Exists.intro (U) <| Exists.intro (T1) <| ?_
      refine And.intro (by
        refine ⟨gpl, ?_, gA.2⟩
        rw [wk_ro (show 779 ≠ 777 by decide), wk_ro (show 779 ≠ 774 by decide), ab_up_o (show 775 ≠ 777 by decide), ab_up_o (show 775 ≠ 774 by decide)]
        exact gA.1) ?_
      intro M107 hM107
      have hxx : x = wk_fx M1 Ls pl c := by
        unfold wk_fx
        rw [hx, show k.toNat = Ls.length by omega]
      have hll : lo = wk_fl M1 Ls pl := by
        unfold wk_fl
        rw [hlo, show k.toNat = Ls.length by omega]
      refine gK _ ?_
      unfold wk_fi
      rw [← hll]
      first
        | (rw [if_pos (by assumption)]
           rw [hM107]
           unfold wk_fm
           rw [hxx, hll])
        | (rw [if_neg (by assumption)]
           unfold wk_fm
           rw [hxx, hll])
  · intro c30
    refine And.intro (by
      first
        | omega
        | exact ⟨by omega, by omega⟩
        | exact ⟨⟨by omega, by omega⟩, by omega, by omega⟩
        | trivial
        | exact ⟨by omega, gc⟩
        | exact ⟨⟨by omega, by omega⟩, gc⟩
        | (have hz := (hpl (by omega)).1; exact ⟨hz.1.1, hz.1.2⟩)
        | (have hz := (hpl (by omega)).1; exact ⟨hloir, hz.2⟩)
        | (rw [ab_up_o (by decide), ab_up_o (by decide)]; exact ⟨hloir, gN⟩)
        | exact ⟨⟨by omega, by omega⟩, by omega, by omega⟩) ?_
    refine And.intro (by
      first
        | omega
        | exact ⟨by omega, by omega⟩
        | exact ⟨⟨by omega, by omega⟩, by omega, by omega⟩
        | trivial
        | exact ⟨by omega, gc⟩
        | exact ⟨⟨by omega, by omega⟩, gc⟩
        | (have hz := (hpl (by omega)).1; exact ⟨hz.1.1, hz.1.2⟩)
        | (have hz := (hpl (by omega)).1; exact ⟨hloir, hz.2⟩)
        | (rw [ab_up_o (by decide), ab_up_o (by decide)]; exact ⟨hloir, gN⟩)
        | exact ⟨⟨by omega, by omega⟩, by omega, by omega⟩) ?_
    refine And.intro (by
      first
        | omega
        | exact ⟨by omega, by omega⟩
        | exact ⟨⟨by omega, by omega⟩, by omega, by omega⟩
        | trivial
        | exact ⟨by omega, gc⟩
        | exact ⟨⟨by omega, by omega⟩, gc⟩
        | (have hz := (hpl (by omega)).1; exact ⟨hz.1.1, hz.1.2⟩)
        | (have hz := (hpl (by omega)).1; exact ⟨hloir, hz.2⟩)
        | (rw [ab_up_o (by decide), ab_up_o (by decide)]; exact ⟨hloir, gN⟩)
        | exact ⟨⟨by omega, by omega⟩, by omega, by omega⟩) ?_
    refine And.intro (by
      first
        | omega
        | exact ⟨by omega, by omega⟩
        | exact ⟨⟨by omega, by omega⟩, by omega, by omega⟩
        | trivial
        | exact ⟨by omega, gc⟩
        | exact ⟨⟨by omega, by omega⟩, gc⟩
        | (have hz := (hpl (by omega)).1; exact ⟨hz.1.1, hz.1.2⟩)
        | (have hz := (hpl (by omega)).1; exact ⟨hloir, hz.2⟩)
        | (rw [ab_up_o (by decide), ab_up_o (by decide)]; exact ⟨hloir, gN⟩)
        | exact ⟨⟨by omega, by omega⟩, by omega, by omega⟩) ?_
    refine And.intro (by
      first
        | omega
        | exact ⟨by omega, by omega⟩
        | exact ⟨⟨by omega, by omega⟩, by omega, by omega⟩
        | trivial
        | exact ⟨by omega, gc⟩
        | exact ⟨⟨by omega, by omega⟩, gc⟩
        | (have hz := (hpl (by omega)).1; exact ⟨hz.1.1, hz.1.2⟩)
        | (have hz := (hpl (by omega)).1; exact ⟨hloir, hz.2⟩)
        | (rw [ab_up_o (by decide), ab_up_o (by decide)]; exact ⟨hloir, gN⟩)
        | exact ⟨⟨by omega, by omega⟩, by omega, by omega⟩) ?_
    refine ⟨_, ?_, rfl, rfl, rfl, by omega, rfl, fun L hL => ?_⟩
    · omega
    have eu := gL.uq hL
    subst eu
    have hz := (hpl (by omega)).2
    rw [show (k + 1).toNat = k.toNat + 1 by omega]
    refine ⟨by omega, ?_, ?_⟩
    · show _ = ab_lor (lf_f _ _ _ k.toNat) _
      rw [← hx, hz]
    · show _ = if _ then _ else _
      rw [← hlo, hz]

set_option maxRecDepth 20000 in
set_option maxHeartbeats 1000000 in
theorem ok_X12_finish (E : ab_E) : ab_Ok E 2 209 S_X12_finish := by
  refine ab_mk rq_X12_finish tk_X12_finish (rt := 0) (rfl) (cuts := [21]) (G := [(206, S_X12_close), (215, S_X12_ownOutcome)]) (List.forall_mem_cons.mpr ⟨⟨1, by decide, ok_X12_close E⟩, List.forall_mem_cons.mpr ⟨⟨1, by decide, ok_X12_ownOutcome E⟩, fun _ h => absurd h List.not_mem_nil⟩⟩) (by decide) 112 rfl ?_
  intro a M K wd wa hS
  unfold S_X12_finish at hS
  split at hS
  ·
    rename_i pl c
    refine ⟨Nat.le_of_ble_eq_true rfl, fun pc n L st M1 => match pc, L, st with
      | 21, [.inr (.inr (.inr (775, 12, 0))), .inr (.inl p1), .inr (.inl c1), .inr (.inr (.inl x)), .inl (), .inr (.inl lo), .inr (.inl k)], [] => (n = (M 772 3 - k).toNat ∧ pl = p1 ∧ c = c1 ∧ 0 ≤ k ∧ M1 = M ∧ ∀ Ls : List Int, ts_L M Ls → k ≤ ((Ls.length : Nat) : Int) ∧ x = lf_f (M 774) Ls (wk_oo (pl / 256) c) k.toNat ∧ lo = ml_f (M 777) Ls (M 776 pl.toNat) k.toNat)
      | _, _, _ => False, ?_, ?_⟩
    · exact vc_X12_finish_0 pl c M K  hS
    · intro pc n L st M1 hI wd1 wL wst
      (try dsimp only at hI)
      split at hI
      ·
        rename_i p1 c1 x lo k
        exact vc_X12_finish_21 pl c M K  hS n p1 c1 x lo k _ hI
      · exact hI.elim
  · exact hS.elim
