/-! the passive form -/
/-- terms are short -/
def ps_l (M : ab_M) : Prop := ∀ k : Nat, (k : Int) < M 26 11 → 0 ≤ M 394 k ∧ M 394 k ≤ 120
theorem tl_M_rng {M : ab_M} (h : ps_l M) (c : Int) : 0 ≤ tl_M M c ∧ tl_M M c ≤ 120 := by
  unfold tl_M
  split
  · exact h _ (by omega)
  · exact ⟨by decide, by decide⟩

def S_X0_traverse : ab_PT := fun a M K => match a with
  | [.inr (.inr (.inr (790, 0, 0)))] => (∃ t : pz_T, (ps_Q M t 0 (-1) ∧ M 26 3 = ((pz_sz t : Nat) : Int) ∧ pz_ht t ≤ 24 ∧ ps_pm M) ∧ (∀ Mx : ab_M, (ps_M Mx (ps_t t (fun _ => 0) (fun _ => 0, 0, 0)).1 ∧ ps_F M Mx 0 (-1)) → K [] Mx))
  | _ => False
set_option maxRecDepth 20000 in
theorem vc_X0_traverse_0  (M : ab_M) (K : List ab_V → ab_M → Prop) (hS : (∃ t : pz_T, (ps_Q M t 0 (-1) ∧ M 26 3 = ((pz_sz t : Nat) : Int) ∧ pz_ht t ≤ 24 ∧ ps_pm M) ∧ (∀ Mx : ab_M, (ps_M Mx (ps_t t (fun _ => 0) (fun _ => 0, 0, 0)).1 ∧ ps_F M Mx 0 (-1)) → K [] Mx))) : (∃ n', ((n' = (4 - (0 : Int)).toNat ∧ 0 ≤ (0 : Int) ∧ (0 : Int) ≤ 4 ∧ (∀ v : Nat, (v : Int) < (0 : Int) → M 791 v = 0) ∧ (∀ o' k' : Nat, ¬ (o' = 791 ∧ k' < 4) → M o' k' = M o' k')))) := by
  obtain ⟨t, ⟨hQ, h3, hh, hpm⟩, gK⟩ := hS
  exact ⟨_, rfl, by decide, by decide, fun v hv => by omega, fun _ _ _ => rfl⟩

set_option maxRecDepth 20000 in
theorem vc_X0_traverse_2  (M : ab_M) (K : List ab_V → ab_M → Prop) (hS : (∃ t : pz_T, (ps_Q M t 0 (-1) ∧ M 26 3 = ((pz_sz t : Nat) : Int) ∧ pz_ht t ≤ 24 ∧ ps_pm M) ∧ (∀ Mx : ab_M, (ps_M Mx (ps_t t (fun _ => 0) (fun _ => 0, 0, 0)).1 ∧ ps_F M Mx 0 (-1)) → K [] Mx))) (n : Nat) (k : Int) (M1 : ab_M) (hI : n = (4 - k).toNat ∧ 0 ≤ k ∧ k ≤ 4 ∧ (∀ v : Nat, (v : Int) < k → M1 791 v = 0) ∧ (∀ o' k' : Nat, ¬ (o' = 791 ∧ k' < 4) → M1 o' k' = M o' k')) : (ab_ir k ∧ ab_ir (4 : Int)) ∧ (((4 : Int) ≤ k → (ab_ir (M1 26 3)) ∧ (((M1 26 3) ≤ 0 → (∃ t_49 : pz_T, ∃ r0_49 : Nat, ∃ V_49 : ps_V, ∃ s0_49 : ps_S, ∃ th_49 : List ps_V, (ps_Q (ab_up (ab_up M1 790 2 (0 : Int)) 790 3 (0 : Int)) t_49 r0_49 (-1) ∧ (-1 : Int) = cr_fs t_49 r0_49 ∧ (0 ≤ (0 : Int) ∧ (0 : Int) + ((pz_ht t_49 : Nat) : Int) ≤ 40 ∧ pz_ht t_49 ≤ 24) ∧ (((0 : Nat) : Int) = pk V_49 ∧ ps_bd V_49 s0_49 ∧ ps_M (ab_up (ab_up M1 790 2 (0 : Int)) 790 3 (0 : Int)) s0_49 ∧ ps_x s0_49 (2 * pz_sz t_49)) ∧ ps_c (ab_up (ab_up M1 790 2 (0 : Int)) 790 3 (0 : Int)) (-1 : Int) (0 : Int) th_49 (pz_sz t_49) ∧ ps_pm (ab_up (ab_up M1 790 2 (0 : Int)) 790 3 (0 : Int))) ∧ (∀ r49 : Int, ∀ M49 : ab_M, (ps_M M49 (ps_t t_49 V_49 s0_49).1 ∧ ps_F (ab_up (ab_up M1 790 2 (0 : Int)) 790 3 (0 : Int)) M49 (0 : Int) (-1 : Int) ∧ (0 ≤ (-1 : Int) → th_R M49 (th_49 ++ (ps_t t_49 V_49 s0_49).2.2) (-1 : Int).toNat)) → (r49 = pe (ps_t t_49 V_49 s0_49).2.1) → K [] M49))) ∧ (0 < (M1 26 3) → (∃ t_49 : pz_T, ∃ r0_49 : Nat, ∃ V_49 : ps_V, ∃ s0_49 : ps_S, ∃ th_49 : List ps_V, (ps_Q (ab_up (ab_up M1 790 2 (0 : Int)) 790 3 (0 : Int)) t_49 r0_49 (-1) ∧ (0 : Int) = cr_fs t_49 r0_49 ∧ (0 ≤ (0 : Int) ∧ (0 : Int) + ((pz_ht t_49 : Nat) : Int) ≤ 40 ∧ pz_ht t_49 ≤ 24) ∧ (((0 : Nat) : Int) = pk V_49 ∧ ps_bd V_49 s0_49 ∧ ps_M (ab_up (ab_up M1 790 2 (0 : Int)) 790 3 (0 : Int)) s0_49 ∧ ps_x s0_49 (2 * pz_sz t_49)) ∧ ps_c (ab_up (ab_up M1 790 2 (0 : Int)) 790 3 (0 : Int)) (-1 : Int) (0 : Int) th_49 (pz_sz t_49) ∧ ps_pm (ab_up (ab_up M1 790 2 (0 : Int)) 790 3 (0 : Int))) ∧ (∀ r49 : Int, ∀ M49 : ab_M, (ps_M M49 (ps_t t_49 V_49 s0_49).1 ∧ ps_F (ab_up (ab_up M1 790 2 (0 : Int)) 790 3 (0 : Int)) M49 (0 : Int) (-1 : Int) ∧ (0 ≤ (-1 : Int) → th_R M49 (th_49 ++ (ps_t t_49 V_49 s0_49).2.2) (-1 : Int).toNat)) → (r49 = pe (ps_t t_49 V_49 s0_49).2.1) → K [] M49))))) ∧ (k < (4 : Int) → (0 ≤ k ∧ k < ((4 : Nat) : Int)) ∧ (∃ n', n' < n ∧ ((n' = (4 - (k + 1)).toNat ∧ 0 ≤ (k + 1) ∧ (k + 1) ≤ 4 ∧ (∀ v : Nat, (v : Int) < (k + 1) → (ab_up M1 791 k.toNat (0 : Int)) 791 v = 0) ∧ (∀ o' k' : Nat, ¬ (o' = 791 ∧ k' < 4) → (ab_up M1 791 k.toNat (0 : Int)) o' k' = M o' k')))))) := by
  obtain ⟨hn, hk0, hk1, hz, hN⟩ := hI
  obtain ⟨t, ⟨hQ, h3, hh, hpm⟩, gK⟩ := hS
  refine And.intro (by
    first
      | omega
      | exact ⟨by omega, by omega⟩
      | (have e3 : M1 26 3 = M 26 3 := hN 26 3 (by omega); (try simp only [ab_up_2, Nat.reduceEqDiff, if_false]); have := hpm.1; exact ⟨by omega, by omega⟩)) ?_
  refine ⟨?_, ?_⟩
  · intro c4
    refine And.intro (by
      first
        | omega
        | exact ⟨by omega, by omega⟩
        | (have e3 : M1 26 3 = M 26 3 := hN 26 3 (by omega); (try simp only [ab_up_2, Nat.reduceEqDiff, if_false]); have := hpm.1; exact ⟨by omega, by omega⟩)) ?_
    refine ⟨?_, ?_⟩
    · intro c38
      have c38 := c38
      generalize hM2 : ab_up (ab_up M1 790 2 (0 : Int)) 790 3 (0 : Int) = M2 at *
      have hF2 : ps_F M M2 0 (-1) := fun o k x y z => by
        rw [← hM2, up_ne (fun q => x ⟨q.1, Or.inr q.2⟩), up_ne (fun q => x ⟨q.1, Or.inl q.2⟩)]
        exact hN o k y
      have hs2 : ps_M M2 (fun _ => 0, 0, 0) := by
        rw [← hM2]
        refine ⟨fun v hv => ?_, ?_, ab_up_s⟩
        · rw [ab_up_o (by decide), ab_up_o (by decide)]; exact hz v (by omega)
        · rw [ab_up_k (by decide), ab_up_s]
      have hpm2 := hpm.lo hF2.lo
      refine Exists.intro (t) <| Exists.intro (0) <| Exists.intro ((fun _ => (0 : Int))) <| Exists.intro (((fun _ => (0 : Int)), (0 : Int), (0 : Int))) <| Exists.intro (([] : List ps_V)) <| ?_
      refine And.intro (by
        refine ⟨hQ.lo hF2.lo hpm.1.2, ?_, ⟨by decide, by omega, hh⟩, ⟨rfl, fun v _ => ⟨Int.le_refl _, Int.le_refl _⟩, hs2, fun v _ => ⟨Int.le_refl _, ?_⟩⟩, Or.inl rfl, hpm2⟩
        · cases t with
          | leaf =>
            have : M 26 3 = 0 := h3
            first
              | rfl
              | (exfalso; have e3 : M1 26 3 = M 26 3 := hN 26 3 (by omega); (try simp only [ab_up_2, Nat.reduceEqDiff, if_false] at c38); omega)
          | inner s P v p c =>
            cases c with
            | leaf => exact hQ.1.elim
            | inner s' P' v' a b =>
              rw [pz_sz_nd] at h3
              first
                | rfl
                | (exfalso; have e3 : M1 26 3 = M 26 3 := hN 26 3 (by omega); (try simp only [ab_up_2, Nat.reduceEqDiff, if_false] at c38); omega)
        · have := hQ.2.1
          have := hpm.1
          show (0 : Int) + ((2 * pz_sz t : Nat) : Int) ≤ 32000
          omega) ?_
      intro r49 M49 hM49 hr49
      exact gK _ ⟨hM49.1, fun o k x y z => (hM49.2.1 o k x y fun q => z ⟨q.1, by omega⟩).trans (hF2 o k x y z)⟩
    · intro c38
      have c38 := c38
      generalize hM2 : ab_up (ab_up M1 790 2 (0 : Int)) 790 3 (0 : Int) = M2 at *
      have hF2 : ps_F M M2 0 (-1) := fun o k x y z => by
        rw [← hM2, up_ne (fun q => x ⟨q.1, Or.inr q.2⟩), up_ne (fun q => x ⟨q.1, Or.inl q.2⟩)]
        exact hN o k y
      have hs2 : ps_M M2 (fun _ => 0, 0, 0) := by
        rw [← hM2]
        refine ⟨fun v hv => ?_, ?_, ab_up_s⟩
        · rw [ab_up_o (by decide), ab_up_o (by decide)]; exact hz v (by omega)
        · rw [ab_up_k (by decide), ab_up_s]
      have hpm2 := hpm.lo hF2.lo
      refine Exists.intro (t) <| Exists.intro (0) <| Exists.intro ((fun _ => (0 : Int))) <| Exists.intro (((fun _ => (0 : Int)), (0 : Int), (0 : Int))) <| Exists.intro (([] : List ps_V)) <| ?_
      refine And.intro (by
        refine ⟨hQ.lo hF2.lo hpm.1.2, ?_, ⟨by decide, by omega, hh⟩, ⟨rfl, fun v _ => ⟨Int.le_refl _, Int.le_refl _⟩, hs2, fun v _ => ⟨Int.le_refl _, ?_⟩⟩, Or.inl rfl, hpm2⟩
        · cases t with
          | leaf =>
            have : M 26 3 = 0 := h3
            first
              | rfl
              | (exfalso; have e3 : M1 26 3 = M 26 3 := hN 26 3 (by omega); (try simp only [ab_up_2, Nat.reduceEqDiff, if_false] at c38); omega)
          | inner s P v p c =>
            cases c with
            | leaf => exact hQ.1.elim
            | inner s' P' v' a b =>
              rw [pz_sz_nd] at h3
              first
                | rfl
                | (exfalso; have e3 : M1 26 3 = M 26 3 := hN 26 3 (by omega); (try simp only [ab_up_2, Nat.reduceEqDiff, if_false] at c38); omega)
        · have := hQ.2.1
          have := hpm.1
          show (0 : Int) + ((2 * pz_sz t : Nat) : Int) ≤ 32000
          omega) ?_
      intro r49 M49 hM49 hr49
      exact gK _ ⟨hM49.1, fun o k x y z => (hM49.2.1 o k x y fun q => z ⟨q.1, by omega⟩).trans (hF2 o k x y z)⟩
  · intro c4
    refine And.intro (by
      first
        | omega
        | exact ⟨by omega, by omega⟩
        | (have e3 : M1 26 3 = M 26 3 := hN 26 3 (by omega); (try simp only [ab_up_2, Nat.reduceEqDiff, if_false]); have := hpm.1; exact ⟨by omega, by omega⟩)) ?_
    refine ⟨_, ?_, rfl, by omega, by omega, fun v hv => ?_, fun o' k' q => ?_⟩
    · omega
    · by_cases e : v = k.toNat
      · rw [e, ab_up_s]
      · rw [ab_up_k e]; exact hz v (by omega)
    · rw [up_ne (fun z => q ⟨z.1, by have := z.2; omega⟩)]
      exact hN o' k' q

set_option maxRecDepth 20000 in
set_option maxHeartbeats 1000000 in
theorem ok_X0_traverse (E : ab_E) : ab_Ok E 85 8 S_X0_traverse := by
  refine ab_mk rq_X0_traverse tk_X0_traverse (rt := 0) (rfl) (cuts := [2]) (G := [(9, S_X0_traverseBlock 24)]) (List.forall_mem_cons.mpr ⟨⟨80, by decide, ok_X0_traverseBlock_all E 24⟩, fun _ h => absurd h List.not_mem_nil⟩) (by decide) 82 rfl ?_
  intro a M K wd wa hS
  unfold S_X0_traverse at hS
  split at hS
  ·
    refine ⟨Nat.le_of_ble_eq_true rfl, fun pc n L st M1 => match pc, L, st with
      | 2, [.inr (.inr (.inr (790, 0, 0))), .inr (.inl k)], [] => (n = (4 - k).toNat ∧ 0 ≤ k ∧ k ≤ 4 ∧ (∀ v : Nat, (v : Int) < k → M1 791 v = 0) ∧ (∀ o' k' : Nat, ¬ (o' = 791 ∧ k' < 4) → M1 o' k' = M o' k'))
      | _, _, _ => False, ?_, ?_⟩
    · exact vc_X0_traverse_0  M K  hS
    · intro pc n L st M1 hI wd1 wL wst
      (try dsimp only at hI)
      split at hI
      ·
        rename_i k
        exact vc_X0_traverse_2  M K  hS n k _ hI
      · exact hI.elim
  · exact hS.elim
