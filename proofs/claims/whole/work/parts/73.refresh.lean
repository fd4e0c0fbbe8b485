/-! the notes of a row -/
def pl_g (L : List Int) : Prop := ∀ p ∈ L, 0 ≤ p ∧ p < 33280
theorem pl_g.ad {L : List Int} (h : pl_g L) (row st : Int) : pl_g (pl_ad row st L) := by
  unfold pl_ad
  split
  · rename_i q
    intro p hp
    rcases List.mem_append.1 hp with e | e
    · exact h p e
    · rw [List.mem_singleton.1 e]
      have := pz_and_r st (b := 255) (by decide) (by decide)
      omega
  · exact h
theorem pl_g.h {M : ab_M} {s : Nat} {zz : Int} {L : List Int} (h : pl_g L) : ∀ n, pl_g (pl_h M s zz L n)
  | 0 => h
  | n + 1 => by
    show pl_g (pl_hv M s zz _ (pl_h M s zz L n))
    unfold pl_hv
    split
    · exact (pl_g.h h n).ad _ _
    · exact pl_g.h h n
theorem pl_g.st {M : ab_M} {s : Nat} {zz cut : Int} {L : List Int} (h : pl_g L) : pl_g (pl_st M s zz cut L).2 := by
  unfold pl_st pl_cut
  repeat' split
  all_goals first
    | exact h
    | exact h.ad _ _
    | exact h.h _
theorem pl_g.h1 {M : ab_M} {s : Nat} {th : Int} {L : List Int} (h : pl_g L) : pl_g (pl_h1 M s th L) := by
  unfold pl_h1
  split
  · exact h
  · exact h.ad _ _
theorem pl_g.hs {M : ab_M} {s : Nat} {zz : Int} : ∀ (n : Nat) (part : Int) (L : List Int), pl_g L → pl_g (pl_hs M s zz n part L)
  | 0, _, _, h => h
  | n + 1, part, L, h => by
    unfold pl_hs
    split
    · exact h.h1
    · exact pl_g.hs n _ _ h.h1
theorem pl_fd_g (M : ab_M) (row zz cut : Int) : pl_g (pl_fd M row zz cut).2 := by
  have h0 : pl_g [] := fun p hp => absurd hp List.not_mem_nil
  unfold pl_fd pl_head pl_back
  repeat' split
  all_goals first
    | exact h0
    | exact h0.st
    | exact h0.ad _ _
    | exact pl_g.hs _ _ _ h0
theorem pl_st_c {M : ab_M} {s : Nat} (hs : ts_s M s) (zz cut : Int) (L : List Int) : -1 ≤ (pl_st M s zz cut L).1 ∧ (pl_st M s zz cut L).1 ≤ 15 := by
  have h4 : -1 ≤ M s 4 ∧ M s 4 ≤ 15 := hs.2.2.2.2.2.2.2.2.2.2.2.2
  unfold pl_st pl_cut
  repeat' split
  all_goals first
    | exact h4
    | (show (-1 : Int) ≤ -1 ∧ (-1 : Int) ≤ 15; exact ⟨by decide, by decide⟩)
theorem pl_fd_c {M : ab_M} (hp : ts_p M) (row zz cut : Int) : -1 ≤ (pl_fd M row zz cut).1 ∧ (pl_fd M row zz cut).1 ≤ 16 := by
  have h1 := pl_st_c (hp.st row) zz cut []
  have h4 : -1 ≤ M (lp_at M (row - 122)) 4 ∧ M (lp_at M (row - 122)) 4 ≤ 15 := (hp.lp (row - 122)).2.2.2.2.2.2.2.2.2.2.2.2
  unfold pl_fd
  split
  · exact ⟨h1.1, by omega⟩
  · split
    · show (-1 : Int) ≤ -1 ∧ (-1 : Int) ≤ 16
      exact ⟨by decide, by decide⟩
    · split
      · unfold pl_back
        split
        · show (-1 : Int) ≤ -1 ∧ (-1 : Int) ≤ 16
          exact ⟨by decide, by decide⟩
        · show -1 ≤ (if _ then _ else _) ∧ (if _ then _ else _) ≤ _
          split
          · exact ⟨Int.le_trans h4.1 (Int.le_add_of_nonneg_right (by decide)), Int.add_le_add_right h4.2 1⟩
          · exact ⟨by decide, by decide⟩
      · show (-1 : Int) ≤ -1 ∧ (-1 : Int) ≤ 16
        exact ⟨by decide, by decide⟩
theorem ab_or_range (a b : Int) : ab_ir (ab_or a b) := ⟨Int32.le_toInt _, Int32.toInt_lt _⟩
theorem ab_shl_range (a b : Int) : ab_ir (ab_shl a b) := ⟨Int32.le_toInt _, Int32.toInt_lt _⟩
/-- the bits of the first places together -/
def rf_f (N : Nat → Int) (L : List Int) (a : Int) : Nat → Int
  | 0 => a
  | i + 1 => ab_or (rf_f N L a i) (N (L.getD i 0).toNat)
def rf_a (c : Int) : Int := if 0 ≤ c then ab_shl 1 c else 0
/-- the bits of a place, from the bits of the places to which it leads -/
def rf_v (M : ab_M) (N : Nat → Int) (row zz cut : Int) : Int := rf_f N (pl_fd M row zz cut).2 (rf_a (pl_fd M row zz cut).1) (pl_fd M row zz cut).2.length
/-- the notes after so many states of a row -/
def rf_n (M : ab_M) (row cut : Int) (N : Nat → Int) : Nat → Nat → Int
  | 0 => N
  | k + 1 => fun j => if j = (row * 256 + ((k : Nat) : Int)).toNat then rf_v M (rf_n M row cut N k) row ((k : Nat) : Int) cut else rf_n M row cut N k j
/-- nothing but the notes and the places changes -/
def rn_f (M M' : ab_M) : Prop := ∀ o' k' : Nat, ¬ o' = 774 → ¬ o' = 773 → ¬ (o' = 772 ∧ k' = 3) → M' o' k' = M o' k'
theorem rn_f.e {M M1 : ab_M} (h : rn_f M M1) : ts_e M M1 := fun o' k' q => h o' k' (by omega) (by omega) (by omega)
theorem rn_f.trans {M M1 M2 : ab_M} (h : rn_f M M1) (h' : rn_f M1 M2) : rn_f M M2 := fun o' k' a b c => (h' o' k' a b c).trans (h o' k' a b c)
theorem ts_f.n {M M1 : ab_M} (h : ts_f M M1) : rn_f M M1 := fun o' k' _ b c => h o' k' b c
theorem ts_f.m {M M1 : ab_M} (h : ts_f M M1) : M1 774 = M 774 := funext fun j => h 774 j (by decide) (fun q => absurd q.1 (by decide))
/-- whether a row's notes have changed -/
def rf_C (M M1 : ab_M) (row ch k : Int) : Prop := (∀ j : Nat, row * 256 + k ≤ (j : Int) → M1 774 j = M 774 j) ∧ (ch = 0 ∧ M1 774 = M 774 ∨ ch = 1 ∧ ∃ j : Nat, (j : Int) < row * 256 + k ∧ ¬ M1 774 j = M 774 j)
def rf_I (M M1 : ab_M) (row cut ch k : Int) : Prop := (0 ≤ k ∧ k ≤ 256) ∧ rn_f M M1 ∧ M1 774 = rf_n M row cut (M 774) k.toNat ∧ rf_C M M1 row ch k ∧ ∀ j, ab_ir (M1 774 j)
theorem rf_I.start {M : ab_M} {row cut : Int} (h : ∀ j, ab_ir (M 774 j)) : rf_I M M row cut 0 0 := ⟨⟨by decide, by decide⟩, fun _ _ _ _ _ => rfl, rfl, ⟨fun _ _ => rfl, Or.inl ⟨rfl, rfl⟩⟩, h⟩
theorem rf_I.f {M M1 M2 : ab_M} {row cut ch k : Int} (h : rf_I M M1 row cut ch k) (hf : ts_f M1 M2) : rf_I M M2 row cut ch k := by
  obtain ⟨h1, h2, h3, h4, h5⟩ := h
  have e := hf.m
  unfold rf_I rf_C
  rw [e]
  exact ⟨h1, h2.trans hf.n, h3, h4, h5⟩
theorem rf_I.same {M M1 : ab_M} {row cut ch k : Int} (h : rf_I M M1 row cut ch k) (hr : 0 ≤ row) (hk : k < 256) (hb : M1 774 (row * 256 + k).toNat = rf_v M (rf_n M row cut (M 774) k.toNat) row k cut) : rf_I M M1 row cut ch (k + 1) := by
  obtain ⟨h1, h2, h3, h4, h5⟩ := h
  refine ⟨⟨by omega, by omega⟩, h2, ?_, ⟨fun j hj => h4.1 j (by omega), h4.2.imp id (fun q => ⟨q.1, q.2.imp fun j g => ⟨by omega, g.2⟩⟩)⟩, h5⟩
  rw [show (k + 1).toNat = k.toNat + 1 by omega]
  funext j
  show _ = if j = (row * 256 + ((k.toNat : Nat) : Int)).toNat then _ else _
  rw [show ((k.toNat : Nat) : Int) = k by omega]
  split
  · rename_i e
    rw [e, hb]
  · rw [h3]
theorem rf_I.new {M M1 : ab_M} {row cut ch k b : Int} (h : rf_I M M1 row cut ch k) (hr : 0 ≤ row) (hk : k < 256) (hb : b = rf_v M (rf_n M row cut (M 774) k.toNat) row k cut) (hn : ¬ M1 774 (row * 256 + k).toNat = b) (hir : ab_ir b) : rf_I M (ab_up M1 774 (row * 256 + k).toNat b) row cut 1 (k + 1) := by
  obtain ⟨h1, h2, h3, h4, h5⟩ := h
  refine ⟨⟨by omega, by omega⟩, ?_, ?_, ⟨fun j hj => ?_, Or.inr ⟨rfl, (row * 256 + k).toNat, by omega, ?_⟩⟩, fun j => ?_⟩
  · intro o' k' q1 q2 q3
    rw [ab_up_o q1]
    exact h2 o' k' q1 q2 q3
  · rw [show (k + 1).toNat = k.toNat + 1 by omega]
    funext j
    show _ = if j = (row * 256 + ((k.toNat : Nat) : Int)).toNat then _ else _
    rw [show ((k.toNat : Nat) : Int) = k by omega]
    split
    · rename_i e
      rw [e, ab_up_s, hb]
    · rename_i e
      rw [ab_up_k e, h3]
  · rw [ab_up_k (by omega)]
    exact h4.1 j (by omega)
  · rw [ab_up_s, ← h4.1 (row * 256 + k).toNat (by omega)]
    exact fun q => hn q.symm
  · by_cases e : j = (row * 256 + k).toNat
    · rw [e, ab_up_s]; exact hir
    · rw [ab_up_k e]; exact h5 j

def S_X3_refresh : ab_PT := fun a M K => match a with
  | [.inr (.inr (.inr (768, 3, 0))), .inr (.inl row), .inr (.inl cut)] => ((tv_ok M ∧ ts_p M) ∧ (0 ≤ row ∧ row < 130) ∧ ab_ir cut ∧ ∀ j, ab_ir (M 774 j)) ∧ (∀ rx : Int, ∀ Mx : ab_M, (Mx 774 = rf_n M row cut (M 774) 256 ∧ rn_f M Mx ∧ ∀ j, ab_ir (Mx 774 j)) → ((rx = 0 ∧ Mx 774 = M 774 ∨ rx = 1 ∧ ∃ j : Nat, ¬ Mx 774 j = M 774 j)) → K [Xi rx] Mx)
  | _ => False
set_option maxRecDepth 20000 in
theorem vc_X3_refresh_0 (row : Int) (cut : Int) (M : ab_M) (K : List ab_V → ab_M → Prop) (hS : ((tv_ok M ∧ ts_p M) ∧ (0 ≤ row ∧ row < 130) ∧ ab_ir cut ∧ ∀ j, ab_ir (M 774 j)) ∧ (∀ rx : Int, ∀ Mx : ab_M, (Mx 774 = rf_n M row cut (M 774) 256 ∧ rn_f M Mx ∧ ∀ j, ab_ir (Mx 774 j)) → ((rx = 0 ∧ Mx 774 = M 774 ∨ rx = 1 ∧ ∃ j : Nat, ¬ Mx 774 j = M 774 j)) → K [Xi rx] Mx)) : (∃ n', ((n' = ((256 - (0 : Int)) * 600).toNat ∧ row = row ∧ cut = cut ∧ rf_I M M row cut (0 : Int) (0 : Int)))) := by
  obtain ⟨⟨⟨gv, gp⟩, ⟨gr1, gr2⟩, gc, gn⟩, gK⟩ := hS
  
  exact ⟨_, rfl, rfl, rfl, rf_I.start gn⟩

set_option maxRecDepth 20000 in
theorem vc_X3_refresh_5 (row : Int) (cut : Int) (M : ab_M) (K : List ab_V → ab_M → Prop) (hS : ((tv_ok M ∧ ts_p M) ∧ (0 ≤ row ∧ row < 130) ∧ ab_ir cut ∧ ∀ j, ab_ir (M 774 j)) ∧ (∀ rx : Int, ∀ Mx : ab_M, (Mx 774 = rf_n M row cut (M 774) 256 ∧ rn_f M Mx ∧ ∀ j, ab_ir (Mx 774 j)) → ((rx = 0 ∧ Mx 774 = M 774 ∨ rx = 1 ∧ ∃ j : Nat, ¬ Mx 774 j = M 774 j)) → K [Xi rx] Mx)) (n : Nat) (w1 : Int) (c1 : Int) (ch : Int) (k : Int) (M1 : ab_M) (hI : n = ((256 - k) * 600).toNat ∧ row = w1 ∧ cut = c1 ∧ rf_I M M1 row cut ch k) : (-32768 ≤ (256 : Int) ∧ (256 : Int) < 32768) ∧ (ab_ir k ∧ ab_ir (256 : Int)) ∧ (((256 : Int) ≤ k → (ch = 0 ∨ ch = 1) ∧ K [Xi ch] M1) ∧ (k < (256 : Int) → ((tv_ok M1 ∧ ts_p M1 ∧ 0 ≤ k ∧ k ≤ 255) ∧ (0 ≤ w1 ∧ w1 < 130) ∧ ab_ir c1) ∧ (∀ r21 : Int, ∀ M21 : ab_M, (ts_L M21 (pl_fd M1 w1 k c1).2 ∧ ts_f M1 M21) → (r21 = (pl_fd M1 w1 k c1).1) → (ab_ir r21) ∧ ((r21 < 0 → (∃ n', n' < n ∧ ((n' = ((256 - k) * 600 - 1 - (0 : Int)).toNat ∧ row = w1 ∧ cut = c1 ∧ k < 256 ∧ rf_I M M21 row cut ch k ∧ ts_L M21 (pl_fd M row k cut).2 ∧ 0 ≤ (0 : Int) ∧ (0 : Int) ≤ (((pl_fd M row k cut).2.length : Nat) : Int) ∧ (0 : Int) = rf_f (M21 774) (pl_fd M row k cut).2 (rf_a (pl_fd M row k cut).1) (0 : Int).toNat)))) ∧ (0 ≤ r21 → (∃ n', n' < n ∧ ((n' = ((256 - k) * 600 - 1 - (0 : Int)).toNat ∧ row = w1 ∧ cut = c1 ∧ k < 256 ∧ rf_I M M21 row cut ch k ∧ ts_L M21 (pl_fd M row k cut).2 ∧ 0 ≤ (0 : Int) ∧ (0 : Int) ≤ (((pl_fd M row k cut).2.length : Nat) : Int) ∧ (ab_shl (1 : Int) r21) = rf_f (M21 774) (pl_fd M row k cut).2 (rf_a (pl_fd M row k cut).1) (0 : Int).toNat)))))))) := by
  obtain ⟨hn, q1, q2, hI⟩ := hI
  subst q1
  subst q2
  obtain ⟨⟨⟨gv, gp⟩, ⟨gr1, gr2⟩, gc, gn⟩, gK⟩ := hS
  obtain ⟨⟨hk0, hk1⟩, hf, hN, hC, hir⟩ := id hI
  have hv1 := ts_e_ok hf.e gv
  have hp1 := ts_p_fr hf.e gp
  have hch : ch = 0 ∨ ch = 1 := hC.2.imp And.left And.left
  refine And.intro (by
    first
      | omega
      | exact hir _
      | exact hbi
      | exact ⟨hir _, hbi⟩
      | exact ⟨by omega, by omega⟩
      | (have hz := hpl (by omega); omega)
      | (have hz := hpl (by omega); exact ⟨by omega, by omega⟩)
      | exact ⟨⟨hv1, hp1, by omega, by omega⟩, ⟨gr1, gr2⟩, gc⟩
      | exact ⟨⟨by omega, by omega⟩, by omega, by omega⟩) ?_
  refine And.intro (by
    first
      | omega
      | exact hir _
      | exact hbi
      | exact ⟨hir _, hbi⟩
      | exact ⟨by omega, by omega⟩
      | (have hz := hpl (by omega); omega)
      | (have hz := hpl (by omega); exact ⟨by omega, by omega⟩)
      | exact ⟨⟨hv1, hp1, by omega, by omega⟩, ⟨gr1, gr2⟩, gc⟩
      | exact ⟨⟨by omega, by omega⟩, by omega, by omega⟩) ?_
  refine ⟨?_, ?_⟩
  · intro c10
    refine And.intro (by
      first
        | omega
        | exact hir _
        | exact hbi
        | exact ⟨hir _, hbi⟩
        | exact ⟨by omega, by omega⟩
        | (have hz := hpl (by omega); omega)
        | (have hz := hpl (by omega); exact ⟨by omega, by omega⟩)
        | exact ⟨⟨hv1, hp1, by omega, by omega⟩, ⟨gr1, gr2⟩, gc⟩
        | exact ⟨⟨by omega, by omega⟩, by omega, by omega⟩) ?_
    rw [show k.toNat = 256 by omega] at hN
    exact gK _ _ ⟨hN, hf, hir⟩ (hC.2.imp id (fun q => ⟨q.1, q.2.imp fun j g => g.2⟩))
  · intro c10
    refine And.intro (by
      first
        | omega
        | exact hir _
        | exact hbi
        | exact ⟨hir _, hbi⟩
        | exact ⟨by omega, by omega⟩
        | (have hz := hpl (by omega); omega)
        | (have hz := hpl (by omega); exact ⟨by omega, by omega⟩)
        | exact ⟨⟨hv1, hp1, by omega, by omega⟩, ⟨gr1, gr2⟩, gc⟩
        | exact ⟨⟨by omega, by omega⟩, by omega, by omega⟩) ?_
    intro r21 M21 hM21 hr21
    have hcc := pl_fd_c gp row k cut
    rw [pl_fd_fr hf.e gp] at hr21 hM21
    refine And.intro (by
      first
        | omega
        | exact hir _
        | exact hbi
        | exact ⟨hir _, hbi⟩
        | exact ⟨by omega, by omega⟩
        | (have hz := hpl (by omega); omega)
        | (have hz := hpl (by omega); exact ⟨by omega, by omega⟩)
        | exact ⟨⟨hv1, hp1, by omega, by omega⟩, ⟨gr1, gr2⟩, gc⟩
        | exact ⟨⟨by omega, by omega⟩, by omega, by omega⟩) ?_
    refine ⟨?_, ?_⟩
    · intro c28
      refine ⟨_, ?_, rfl, by trivial, by trivial, by omega, hI.f hM21.2, hM21.1, by decide, by omega, ?_⟩
      · omega
      show _ = rf_a _
      unfold rf_a
      rw [← hr21]
      first
        | (rw [if_pos (by omega)]; done)
        | (rw [if_neg (by omega)]; done)
    · intro c28
      refine ⟨_, ?_, rfl, by trivial, by trivial, by omega, hI.f hM21.2, hM21.1, by decide, by omega, ?_⟩
      · omega
      show _ = rf_a _
      unfold rf_a
      rw [← hr21]
      first
        | (rw [if_pos (by omega)]; done)
        | (rw [if_neg (by omega)]; done)

set_option maxRecDepth 20000 in
theorem vc_X3_refresh_44 (row : Int) (cut : Int) (M : ab_M) (K : List ab_V → ab_M → Prop) (hS : ((tv_ok M ∧ ts_p M) ∧ (0 ≤ row ∧ row < 130) ∧ ab_ir cut ∧ ∀ j, ab_ir (M 774 j)) ∧ (∀ rx : Int, ∀ Mx : ab_M, (Mx 774 = rf_n M row cut (M 774) 256 ∧ rn_f M Mx ∧ ∀ j, ab_ir (Mx 774 j)) → ((rx = 0 ∧ Mx 774 = M 774 ∨ rx = 1 ∧ ∃ j : Nat, ¬ Mx 774 j = M 774 j)) → K [Xi rx] Mx)) (n : Nat) (w1 : Int) (c1 : Int) (ch : Int) (k : Int) (fa : Int) (bits : Int) (ii : Int) (M1 : ab_M) (hI : n = ((256 - k) * 600 - 1 - ii).toNat ∧ row = w1 ∧ cut = c1 ∧ k < 256 ∧ rf_I M M1 row cut ch k ∧ ts_L M1 (pl_fd M row k cut).2 ∧ 0 ≤ ii ∧ ii ≤ (((pl_fd M row k cut).2.length : Nat) : Int) ∧ bits = rf_f (M1 774) (pl_fd M row k cut).2 (rf_a (pl_fd M row k cut).1) ii.toNat) : (ab_ir ii ∧ ab_ir (M1 772 3)) ∧ (((M1 772 3) ≤ ii → (-32768 ≤ (256 : Int) ∧ (256 : Int) < 32768) ∧ (0 ≤ ((w1 * (256 : Int)) + k) ∧ ((w1 * (256 : Int)) + k) < ((33280 : Nat) : Int)) ∧ (ab_ir (M1 774 (((w1 * (256 : Int)) + k).toNat)) ∧ ab_ir bits) ∧ (((M1 774 (((w1 * (256 : Int)) + k).toNat)) = bits → (∃ n', n' < n ∧ ((n' = ((256 - (k + 1)) * 600).toNat ∧ row = w1 ∧ cut = c1 ∧ rf_I M M1 row cut ch (k + 1))))) ∧ (¬ (M1 774 (((w1 * (256 : Int)) + k).toNat)) = bits → (0 ≤ ((w1 * (256 : Int)) + k) ∧ ((w1 * (256 : Int)) + k) < ((33280 : Nat) : Int)) ∧ (∃ n', n' < n ∧ ((n' = ((256 - (k + 1)) * 600).toNat ∧ row = w1 ∧ cut = c1 ∧ rf_I M (ab_up M1 774 (((w1 * (256 : Int)) + k).toNat) bits) row cut (1 : Int) (k + 1))))))) ∧ (ii < (M1 772 3) → (0 ≤ ii ∧ ii < ((256 : Nat) : Int)) ∧ (0 ≤ (M1 773 ii.toNat) ∧ (M1 773 ii.toNat) < ((33280 : Nat) : Int)) ∧ (∃ n', n' < n ∧ ((n' = ((256 - k) * 600 - 1 - (ii + 1)).toNat ∧ row = w1 ∧ cut = c1 ∧ k < 256 ∧ rf_I M M1 row cut ch k ∧ ts_L M1 (pl_fd M row k cut).2 ∧ 0 ≤ (ii + 1) ∧ (ii + 1) ≤ (((pl_fd M row k cut).2.length : Nat) : Int) ∧ (ab_or bits (M1 774 ((M1 773 ii.toNat).toNat))) = rf_f (M1 774) (pl_fd M row k cut).2 (rf_a (pl_fd M row k cut).1) (ii + 1).toNat))))) := by
  obtain ⟨hn, q1, q2, hk, hI, hL, hi0, hi1, hb⟩ := hI
  subst q1
  subst q2
  obtain ⟨⟨⟨gv, gp⟩, ⟨gr1, gr2⟩, gc, gn⟩, gK⟩ := hS
  obtain ⟨⟨hk0, hk1⟩, hf, hN, hC, hir⟩ := id hI
  have hL2 := id hL
  obtain ⟨l1, l2, l3⟩ := hL2
  have hg := pl_fd_g M row k cut
  have hch : ch = 0 ∨ ch = 1 := hC.2.imp And.left And.left
  have hbi : ab_ir bits := by
    rw [hb]
    cases ii.toNat with
    | zero =>
      show ab_ir (rf_a _)
      unfold rf_a
      split
      · exact ab_shl_range _ _
      · exact ⟨by decide, by decide⟩
    | succ m => exact ab_or_range _ _
  have hpl : cr_wr (ii < M1 772 3 → 0 ≤ M1 773 ii.toNat ∧ M1 773 ii.toNat < 33280 ∧ M1 773 ii.toNat = (pl_fd M row k cut).2.getD ii.toNat 0) := by
    intro q
    have e := l3 ii.toNat (by omega)
    have hm : (pl_fd M row k cut).2.getD ii.toNat 0 ∈ (pl_fd M row k cut).2 := by
      rw [List.getD_eq_getElem?_getD, List.getElem?_eq_getElem (by omega)]
      exact List.getElem_mem _
    have := hg _ hm
    rw [e]
    exact ⟨this.1, this.2, rfl⟩
  refine And.intro (by
    first
      | omega
      | exact hir _
      | exact hbi
      | exact ⟨hir _, hbi⟩
      | exact ⟨by omega, by omega⟩
      | (have hz := hpl (by omega); omega)
      | (have hz := hpl (by omega); exact ⟨by omega, by omega⟩)
      | exact ⟨⟨hv1, hp1, by omega, by omega⟩, ⟨gr1, gr2⟩, gc⟩
      | exact ⟨⟨by omega, by omega⟩, by omega, by omega⟩) ?_
  refine ⟨?_, ?_⟩
  · intro c53
    refine And.intro (by
      first
        | omega
        | exact hir _
        | exact hbi
        | exact ⟨hir _, hbi⟩
        | exact ⟨by omega, by omega⟩
        | (have hz := hpl (by omega); omega)
        | (have hz := hpl (by omega); exact ⟨by omega, by omega⟩)
        | exact ⟨⟨hv1, hp1, by omega, by omega⟩, ⟨gr1, gr2⟩, gc⟩
        | exact ⟨⟨by omega, by omega⟩, by omega, by omega⟩) ?_
    refine And.intro (by
      first
        | omega
        | exact hir _
        | exact hbi
        | exact ⟨hir _, hbi⟩
        | exact ⟨by omega, by omega⟩
        | (have hz := hpl (by omega); omega)
        | (have hz := hpl (by omega); exact ⟨by omega, by omega⟩)
        | exact ⟨⟨hv1, hp1, by omega, by omega⟩, ⟨gr1, gr2⟩, gc⟩
        | exact ⟨⟨by omega, by omega⟩, by omega, by omega⟩) ?_
    refine And.intro (by
      first
        | omega
        | exact hir _
        | exact hbi
        | exact ⟨hir _, hbi⟩
        | exact ⟨by omega, by omega⟩
        | (have hz := hpl (by omega); omega)
        | (have hz := hpl (by omega); exact ⟨by omega, by omega⟩)
        | exact ⟨⟨hv1, hp1, by omega, by omega⟩, ⟨gr1, gr2⟩, gc⟩
        | exact ⟨⟨by omega, by omega⟩, by omega, by omega⟩) ?_
    refine ⟨?_, ?_⟩
    · intro c101
      have hlast : bits = rf_v M (rf_n M row cut (M 774) k.toNat) row k cut := by
        rw [hb, ← hN]
        unfold rf_v
        rw [show ii.toNat = (pl_fd M row k cut).2.length by omega]
      first
        | (refine ⟨_, ?_, rfl, by trivial, by trivial, hI.same gr1 (by omega) ?_⟩
           · omega
           · rw [← hlast]; assumption)
        | (refine ⟨_, ?_, rfl, by trivial, by trivial, hI.new gr1 (by omega) hlast (by assumption) hbi⟩
           omega)
    · intro c101
      refine And.intro (by
        first
          | omega
          | exact hir _
          | exact hbi
          | exact ⟨hir _, hbi⟩
          | exact ⟨by omega, by omega⟩
          | (have hz := hpl (by omega); omega)
          | (have hz := hpl (by omega); exact ⟨by omega, by omega⟩)
          | exact ⟨⟨hv1, hp1, by omega, by omega⟩, ⟨gr1, gr2⟩, gc⟩
          | exact ⟨⟨by omega, by omega⟩, by omega, by omega⟩) ?_
      have hlast : bits = rf_v M (rf_n M row cut (M 774) k.toNat) row k cut := by
        rw [hb, ← hN]
        unfold rf_v
        rw [show ii.toNat = (pl_fd M row k cut).2.length by omega]
      first
        | (refine ⟨_, ?_, rfl, by trivial, by trivial, hI.same gr1 (by omega) ?_⟩
           · omega
           · rw [← hlast]; assumption)
        | (refine ⟨_, ?_, rfl, by trivial, by trivial, hI.new gr1 (by omega) hlast (by assumption) hbi⟩
           omega)
  · intro c53
    refine And.intro (by
      first
        | omega
        | exact hir _
        | exact hbi
        | exact ⟨hir _, hbi⟩
        | exact ⟨by omega, by omega⟩
        | (have hz := hpl (by omega); omega)
        | (have hz := hpl (by omega); exact ⟨by omega, by omega⟩)
        | exact ⟨⟨hv1, hp1, by omega, by omega⟩, ⟨gr1, gr2⟩, gc⟩
        | exact ⟨⟨by omega, by omega⟩, by omega, by omega⟩) ?_
    refine And.intro (by
      first
        | omega
        | exact hir _
        | exact hbi
        | exact ⟨hir _, hbi⟩
        | exact ⟨by omega, by omega⟩
        | (have hz := hpl (by omega); omega)
        | (have hz := hpl (by omega); exact ⟨by omega, by omega⟩)
        | exact ⟨⟨hv1, hp1, by omega, by omega⟩, ⟨gr1, gr2⟩, gc⟩
        | exact ⟨⟨by omega, by omega⟩, by omega, by omega⟩) ?_
    have hz := hpl (by omega)
    refine ⟨_, ?_, rfl, by trivial, by trivial, hk, hI, hL, by omega, by omega, ?_⟩
    · omega
    rw [show (ii + 1).toNat = ii.toNat + 1 by omega]
    show _ = ab_or (rf_f _ _ _ ii.toNat) _
    rw [hb, hz.2.2]

set_option maxRecDepth 20000 in
set_option maxHeartbeats 1000000 in
theorem ok_X3_refresh (E : ab_E) : ab_Ok E 5 53 S_X3_refresh := by
  refine ab_mk rq_X3_refresh tk_X3_refresh (rt := 2) (rfl) (cuts := [5, 44]) (G := [(67, S_X5_find)]) (List.forall_mem_cons.mpr ⟨⟨4, by decide, ok_X5_find E⟩, fun _ h => absurd h List.not_mem_nil⟩) (by decide) 115 rfl ?_
  intro a M K wd wa hS
  unfold S_X3_refresh at hS
  split at hS
  ·
    rename_i row cut
    refine ⟨Nat.le_of_ble_eq_true rfl, fun pc n L st M1 => match pc, L, st with
      | 5, [.inr (.inr (.inr (768, 3, 0))), .inr (.inl w1), .inr (.inl c1), .inr (.inl ch), .inr (.inl k), u6_, u7_, u8_], [] => (n = ((256 - k) * 600).toNat ∧ row = w1 ∧ cut = c1 ∧ rf_I M M1 row cut ch k)
      | 44, [.inr (.inr (.inr (768, 3, 0))), .inr (.inl w1), .inr (.inl c1), .inr (.inl ch), .inr (.inl k), .inr (.inl fa), .inr (.inl bits), .inr (.inl ii)], [] => (n = ((256 - k) * 600 - 1 - ii).toNat ∧ row = w1 ∧ cut = c1 ∧ k < 256 ∧ rf_I M M1 row cut ch k ∧ ts_L M1 (pl_fd M row k cut).2 ∧ 0 ≤ ii ∧ ii ≤ (((pl_fd M row k cut).2.length : Nat) : Int) ∧ bits = rf_f (M1 774) (pl_fd M row k cut).2 (rf_a (pl_fd M row k cut).1) ii.toNat)
      | _, _, _ => False, ?_, ?_⟩
    · exact vc_X3_refresh_0 row cut M K  hS
    · intro pc n L st M1 hI wd1 wL wst
      (try dsimp only at hI)
      split at hI
      ·
        rename_i w1 c1 ch k u6_ u7_ u8_
        exact vc_X3_refresh_5 row cut M K  hS n w1 c1 ch k _ hI
      ·
        rename_i w1 c1 ch k fa bits ii
        exact vc_X3_refresh_44 row cut M K  hS n w1 c1 ch k fa bits ii _ hI
      · exact hI.elim
  · exact hS.elim
