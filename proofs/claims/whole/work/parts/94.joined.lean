/-! joins, throws -/
theorem pe_ne {e : Option ps_V} (h : ∀ V, e = some V → pk_ok V) : pe e = -1 ↔ e = none := by
  cases e with
  | none => exact ⟨fun _ => rfl, fun _ => rfl⟩
  | some V =>
    have := pk_rng (h V rfl)
    exact ⟨fun q => by have q : pk V = -1 := q; omega, fun q => by cases q⟩
theorem pe_lr {e : Option ps_V} (h : ∀ V, e = some V → pk_ok V) : ab_lr (pe e) := by
  cases e with
  | none => exact ⟨by decide, by decide⟩
  | some V => exact pk_lr (h V rfl)
theorem ps_rn_cg {st : ps_S} {V : ps_V} {S S' : Nat → Bool} (h : ∀ v, v < 4 → S v = S' v) : (∀ M, ps_M M (ps_rn st V S).1 → ps_M M (ps_rn st V S').1) ∧ pk (ps_rn st V S).2 = pk (ps_rn st V S').2 := by
  refine ⟨fun M hM => ⟨fun v hv => ?_, hM.2.1, hM.2.2⟩, pk_cg fun v hv => ?_⟩
  · rw [hM.1 v hv]
    show st.1 v + (if S v = true then 1 else 0) = st.1 v + (if S' v = true then 1 else 0)
    rw [h v hv]
  · show (if S v = true then st.1 v + 1 else V v) = (if S' v = true then st.1 v + 1 else V v)
    rw [h v hv]
theorem ps_N.tr {A B C : ab_M} (h : ps_N A B) (h' : ps_N B C) : ps_N A C := fun o k a b => (h' o k a b).trans (h o k a b)
/-- of a try's throws nothing else changes -/
def th_F (M M' : ab_M) (c : Int) : Prop := ∀ o k : Nat, ¬ ((o = 792 ∨ o = 793 ∨ o = 794) ∧ (k : Int) = c) → M' o k = M o k
theorem lc_eq {x : Int} : (if (-1 : Int) < x then (1 : Int) else if x = -1 then 0 else -1) = 0 ↔ x = -1 := by
  by_cases h : (-1 : Int) < x
  · rw [if_pos h]
    exact ⟨fun q => absurd q (by decide), fun q => by omega⟩
  · rw [if_neg h]
    by_cases g : x = -1
    · rw [if_pos g]; exact ⟨fun _ => g, fun _ => rfl⟩
    · rw [if_neg g]; exact ⟨fun q => absurd q (by decide), fun q => absurd q g⟩

def S_X0_joined : ab_PT := fun a M K => match a with
  | [.inr (.inr (.inr (790, 0, 0))), .inr (.inr (.inl A)), .inr (.inr (.inl B))] => (∃ e1 : Option ps_V, ∃ e2 : Option ps_V, ∃ s0 : ps_S, (A = pe e1 ∧ B = pe e2 ∧ (∀ V, e1 = some V → pk_ok V) ∧ (∀ V, e2 = some V → pk_ok V) ∧ ps_M M s0 ∧ ps_g s0) ∧ (∀ rx : Int, ∀ Mx : ab_M, (ps_M Mx (ps_jn s0 e1 e2).1 ∧ ps_N M Mx) → (rx = pe (ps_jn s0 e1 e2).2) → K [Xl rx] Mx))
  | _ => False
set_option maxRecDepth 20000 in
theorem vc_X0_joined_0 (A : Int) (B : Int) (M : ab_M) (K : List ab_V → ab_M → Prop) (hS : (∃ e1 : Option ps_V, ∃ e2 : Option ps_V, ∃ s0 : ps_S, (A = pe e1 ∧ B = pe e2 ∧ (∀ V, e1 = some V → pk_ok V) ∧ (∀ V, e2 = some V → pk_ok V) ∧ ps_M M s0 ∧ ps_g s0) ∧ (∀ rx : Int, ∀ Mx : ab_M, (ps_M Mx (ps_jn s0 e1 e2).1 ∧ ps_N M Mx) → (rx = pe (ps_jn s0 e1 e2).2) → K [Xl rx] Mx))) : (A = (-1 : Int) ∨ (ab_lr A ∧ ab_lr (-1 : Int))) ∧ (ab_ir (if (-1 : Int) < A then 1 else if A = (-1 : Int) then 0 else -1 : Int)) ∧ ((¬ (if (-1 : Int) < A then 1 else if A = (-1 : Int) then 0 else -1 : Int) = 0 → (B = (-1 : Int) ∨ (ab_lr B ∧ ab_lr (-1 : Int))) ∧ (ab_ir (if (-1 : Int) < B then 1 else if B = (-1 : Int) then 0 else -1 : Int)) ∧ ((¬ (if (-1 : Int) < B then 1 else if B = (-1 : Int) then 0 else -1 : Int) = 0 → (∃ V_22 : ps_V, ∃ W_22 : ps_V, (A = pk V_22 ∧ B = pk W_22 ∧ pk_ok V_22 ∧ pk_ok W_22) ∧ (∀ r22 : Int, (r22 = pz_mk (ps_df V_22 W_22)) → (∃ S_35 : Nat → Bool, (r22 = pz_mk S_35) ∧ (∀ r35 : Int, (r35 = ps_cnt S_35) → (∃ V_47 : ps_V, ∃ st_47 : ps_S, (A = pk V_47 ∧ pk_ok V_47 ∧ ps_M (ab_up M 790 2 ((M 790 2) + ((2 : Int) * r35))) st_47 ∧ ps_g st_47) ∧ (∀ r47 : Int, ∀ M47 : ab_M, (ps_M M47 (ps_rn st_47 V_47 (fun v => pz_b r22 v)).1 ∧ ps_N (ab_up M 790 2 ((M 790 2) + ((2 : Int) * r35))) M47) → (r47 = pk (ps_rn st_47 V_47 (fun v => pz_b r22 v)).2) → K [Xl r47] M47))))))) ∧ ((if (-1 : Int) < B then 1 else if B = (-1 : Int) then 0 else -1 : Int) = 0 → K [Xl A] M))) ∧ ((if (-1 : Int) < A then 1 else if A = (-1 : Int) then 0 else -1 : Int) = 0 → K [Xl B] M)) := by
  obtain ⟨e1, e2, s0, ⟨hA, hB, h1, h2, hM, hg⟩, gK⟩ := hS
  have hAr : ab_lr A := by rw [hA]; exact pe_lr h1
  have hBr : ab_lr B := by rw [hB]; exact pe_lr h2
  have hA1 := pe_ne h1
  have hB1 := pe_ne h2
  rw [← hA] at hA1
  rw [← hB] at hB1
  refine And.intro (by
    first
      | exact Or.inr ⟨hAr, by decide, by decide⟩
      | exact Or.inr ⟨hBr, by decide, by decide⟩
      | (split <;> first | exact ⟨by decide, by decide⟩ | (split <;> exact ⟨by decide, by decide⟩))) ?_
  refine And.intro (by
    first
      | exact Or.inr ⟨hAr, by decide, by decide⟩
      | exact Or.inr ⟨hBr, by decide, by decide⟩
      | (split <;> first | exact ⟨by decide, by decide⟩ | (split <;> exact ⟨by decide, by decide⟩))) ?_
  refine ⟨?_, ?_⟩
  · intro c5
    refine And.intro (by
      first
        | exact Or.inr ⟨hAr, by decide, by decide⟩
        | exact Or.inr ⟨hBr, by decide, by decide⟩
        | (split <;> first | exact ⟨by decide, by decide⟩ | (split <;> exact ⟨by decide, by decide⟩))) ?_
    refine And.intro (by
      first
        | exact Or.inr ⟨hAr, by decide, by decide⟩
        | exact Or.inr ⟨hBr, by decide, by decide⟩
        | (split <;> first | exact ⟨by decide, by decide⟩ | (split <;> exact ⟨by decide, by decide⟩))) ?_
    refine ⟨?_, ?_⟩
    · intro c15
      have n1 : e1 ≠ none := fun q => absurd (hA1.2 q) (fun z => by rw [lc_eq] at c5; exact c5 z)
      have n2 : e2 ≠ none := fun q => absurd (hB1.2 q) (fun z => by rw [lc_eq] at c15; exact c15 z)
      obtain ⟨V, rfl⟩ := Option.ne_none_iff_exists'.1 n1
      obtain ⟨W, rfl⟩ := Option.ne_none_iff_exists'.1 n2
      have hV := h1 V rfl
      have hW := h2 W rfl
      refine Exists.intro (V) <| Exists.intro (W) <| ?_
      refine And.intro (by
        exact ⟨hA, hB, hV, hW⟩) ?_
      intro r22 hr22
      refine Exists.intro (ps_df V W) <| ?_
      refine And.intro (by
        exact hr22) ?_
      intro r35 hr35
      refine Exists.intro (V) <| Exists.intro ((s0.1, M 790 2 + 2 * r35, s0.2.2)) <| ?_
      refine And.intro (by
        exact ⟨hA, hV, ⟨fun v hv => by rw [ab_up_o (by decide)]; exact hM.1 v hv, ab_up_s, by rw [ab_up_k (by decide)]; exact hM.2.2⟩, hg⟩) ?_
      intro r47 M47 hM47 hr47
      obtain ⟨z1, z2⟩ := ps_rn_cg (st := (s0.1, M 790 2 + 2 * r35, s0.2.2)) (V := V) (S := fun v => pz_b r22 v) (S' := ps_df V W) fun v hv => by
        rw [hr22]; exact pz_mk_b _ hv
      refine gK _ _ ⟨?_, fun o k y1 y2 => ?_⟩ (hr47.trans z2)
      · have := z1 _ hM47.1
        refine ⟨this.1, ?_, this.2.2⟩
        rw [this.2.1]
        show M 790 2 + 2 * r35 = s0.2.1 + 2 * ps_cnt (ps_df V W)
        rw [hr35, hM.2.1]
      · rw [hM47.2 o k y1 y2, up_ne (fun q => y1 ⟨q.1, Or.inl q.2⟩)]
    · intro c15
      rw [lc_eq] at c5 c15
      have e := hB1.1 c15
      subst e
      cases e1 with
      | none => exact absurd (hA1.2 rfl) c5
      | some V => exact gK _ _ ⟨hM, fun _ _ _ _ => rfl⟩ hA
  · intro c5
    rw [lc_eq] at c5
    have e := hA1.1 c5
    subst e
    exact gK _ _ ⟨hM, fun _ _ _ _ => rfl⟩ hB

set_option maxRecDepth 20000 in
set_option maxHeartbeats 1000000 in
theorem ok_X0_joined (E : ab_E) : ab_Ok E 2 4 S_X0_joined := by
  refine ab_mk rq_X0_joined tk_X0_joined (rt := 3) (rfl) (cuts := []) (G := [(217, S_J6_bitCount_0f7a4), (3, S_X0_differing), (6, S_X0_renewed)]) (List.forall_mem_cons.mpr ⟨⟨1, by decide, ok_J6_bitCount_0f7a4 E⟩, List.forall_mem_cons.mpr ⟨⟨1, by decide, ok_X0_differing E⟩, List.forall_mem_cons.mpr ⟨⟨1, by decide, ok_X0_renewed E⟩, fun _ h => absurd h List.not_mem_nil⟩⟩⟩) (by decide) 80 rfl ?_
  intro a M K wd wa hS
  unfold S_X0_joined at hS
  split at hS
  ·
    rename_i A B
    refine ⟨Nat.le_of_ble_eq_true rfl, fun _ _ _ _ _ => False, ?_, ?_⟩
    · exact vc_X0_joined_0 A B M K  hS
    · exact fun _ _ _ _ _ h => h.elim
  · exact hS.elim
def S_X0_noteThrow : ab_PT := fun a M K => match a with
  | [.inr (.inr (.inr (790, 0, 0))), .inr (.inl c), .inr (.inr (.inl LL))] => (∃ V : ps_V, ∃ th : List ps_V, ((c = -1 ∨ (0 ≤ c ∧ c ≤ 40) ∧ th_R M th c.toNat ∧ (∀ V ∈ th, pk_ok V) ∧ th.length ≤ 1000) ∧ LL = pk V ∧ pk_ok V) ∧ (∀ Mx : ab_M, (th_F M Mx c ∧ (0 ≤ c → th_R Mx (th ++ [V]) c.toNat)) → K [] Mx))
  | _ => False
set_option maxRecDepth 20000 in
theorem vc_X0_noteThrow_0 (c : Int) (LL : Int) (M : ab_M) (K : List ab_V → ab_M → Prop) (hS : (∃ V : ps_V, ∃ th : List ps_V, ((c = -1 ∨ (0 ≤ c ∧ c ≤ 40) ∧ th_R M th c.toNat ∧ (∀ V ∈ th, pk_ok V) ∧ th.length ≤ 1000) ∧ LL = pk V ∧ pk_ok V) ∧ (∀ Mx : ab_M, (th_F M Mx c ∧ (0 ≤ c → th_R Mx (th ++ [V]) c.toNat)) → K [] Mx))) : (ab_ir c) ∧ ((c < 0 → K [] M) ∧ (0 ≤ c → (-128 ≤ (40 : Int) ∧ (40 : Int) < 128) ∧ (ab_ir c ∧ ab_ir (40 : Int)) ∧ ((c ≤ (40 : Int) → (0 ≤ c ∧ c < ((41 : Nat) : Int)) ∧ (ab_ir (M 792 c.toNat)) ∧ ((¬ (M 792 c.toNat) = 0 → (0 ≤ c ∧ c < ((41 : Nat) : Int)) ∧ (0 ≤ c ∧ c < ((41 : Nat) : Int)) ∧ (0 ≤ c ∧ c < ((41 : Nat) : Int)) ∧ (0 ≤ c ∧ c < ((41 : Nat) : Int)) ∧ (∃ V_51 : ps_V, ∃ W_51 : ps_V, ((M 793 c.toNat) = pk V_51 ∧ LL = pk W_51 ∧ pk_ok V_51 ∧ pk_ok W_51) ∧ (∀ r51 : Int, (r51 = pz_mk (ps_df V_51 W_51)) → (0 ≤ c ∧ c < ((41 : Nat) : Int)) ∧ K [] (ab_up (ab_up M 792 c.toNat ((M 792 c.toNat) + (1 : Int))) 794 c.toNat (ab_or (M 794 c.toNat) r51))))) ∧ ((M 792 c.toNat) = 0 → (0 ≤ c ∧ c < ((41 : Nat) : Int)) ∧ (0 ≤ c ∧ c < ((41 : Nat) : Int)) ∧ (0 ≤ c ∧ c < ((41 : Nat) : Int)) ∧ (0 ≤ c ∧ c < ((41 : Nat) : Int)) ∧ (0 ≤ c ∧ c < ((41 : Nat) : Int)) ∧ (∃ V_51 : ps_V, ∃ W_51 : ps_V, (((ab_up M 793 c.toNat LL) 793 c.toNat) = pk V_51 ∧ LL = pk W_51 ∧ pk_ok V_51 ∧ pk_ok W_51) ∧ (∀ r51 : Int, (r51 = pz_mk (ps_df V_51 W_51)) → (0 ≤ c ∧ c < ((41 : Nat) : Int)) ∧ K [] (ab_up (ab_up (ab_up M 793 c.toNat LL) 792 c.toNat ((M 792 c.toNat) + (1 : Int))) 794 c.toNat (ab_or (M 794 c.toNat) r51))))))) ∧ ((40 : Int) < c → K [] M)))) := by
  obtain ⟨V, th, ⟨hc, hL, hV⟩, gK⟩ := hS
  refine And.intro (by
    first
      | (rcases hc with hc | hc <;> exact ⟨by omega, by omega⟩)
      | (have hcc := hc.resolve_left (by omega); have hlen := hcc.2.1.1; have h1000 := hcc.2.2.2; (try simp only [ab_up_2, Nat.reduceEqDiff, if_true, if_false]); first | exact ⟨by omega, by omega⟩ | omega)) ?_
  refine ⟨?_, ?_⟩
  · intro c1
    refine gK _ ⟨fun _ _ _ => rfl, fun q => ?_⟩
    rcases hc with hc | hc
    · omega
    · omega
  · intro c1
    refine And.intro (by
      first
        | (rcases hc with hc | hc <;> exact ⟨by omega, by omega⟩)
        | (have hcc := hc.resolve_left (by omega); have hlen := hcc.2.1.1; have h1000 := hcc.2.2.2; (try simp only [ab_up_2, Nat.reduceEqDiff, if_true, if_false]); first | exact ⟨by omega, by omega⟩ | omega)) ?_
    refine And.intro (by
      first
        | (rcases hc with hc | hc <;> exact ⟨by omega, by omega⟩)
        | (have hcc := hc.resolve_left (by omega); have hlen := hcc.2.1.1; have h1000 := hcc.2.2.2; (try simp only [ab_up_2, Nat.reduceEqDiff, if_true, if_false]); first | exact ⟨by omega, by omega⟩ | omega)) ?_
    refine ⟨?_, ?_⟩
    · intro c7
      refine And.intro (by
        first
          | (rcases hc with hc | hc <;> exact ⟨by omega, by omega⟩)
          | (have hcc := hc.resolve_left (by omega); have hlen := hcc.2.1.1; have h1000 := hcc.2.2.2; (try simp only [ab_up_2, Nat.reduceEqDiff, if_true, if_false]); first | exact ⟨by omega, by omega⟩ | omega)) ?_
      refine And.intro (by
        first
          | (rcases hc with hc | hc <;> exact ⟨by omega, by omega⟩)
          | (have hcc := hc.resolve_left (by omega); have hlen := hcc.2.1.1; have h1000 := hcc.2.2.2; (try simp only [ab_up_2, Nat.reduceEqDiff, if_true, if_false]); first | exact ⟨by omega, by omega⟩ | omega)) ?_
      refine ⟨?_, ?_⟩
      · intro c17
        refine And.intro (by
          first
            | (rcases hc with hc | hc <;> exact ⟨by omega, by omega⟩)
            | (have hcc := hc.resolve_left (by omega); have hlen := hcc.2.1.1; have h1000 := hcc.2.2.2; (try simp only [ab_up_2, Nat.reduceEqDiff, if_true, if_false]); first | exact ⟨by omega, by omega⟩ | omega)) ?_
        refine And.intro (by
          first
            | (rcases hc with hc | hc <;> exact ⟨by omega, by omega⟩)
            | (have hcc := hc.resolve_left (by omega); have hlen := hcc.2.1.1; have h1000 := hcc.2.2.2; (try simp only [ab_up_2, Nat.reduceEqDiff, if_true, if_false]); first | exact ⟨by omega, by omega⟩ | omega)) ?_
        refine And.intro (by
          first
            | (rcases hc with hc | hc <;> exact ⟨by omega, by omega⟩)
            | (have hcc := hc.resolve_left (by omega); have hlen := hcc.2.1.1; have h1000 := hcc.2.2.2; (try simp only [ab_up_2, Nat.reduceEqDiff, if_true, if_false]); first | exact ⟨by omega, by omega⟩ | omega)) ?_
        refine And.intro (by
          first
            | (rcases hc with hc | hc <;> exact ⟨by omega, by omega⟩)
            | (have hcc := hc.resolve_left (by omega); have hlen := hcc.2.1.1; have h1000 := hcc.2.2.2; (try simp only [ab_up_2, Nat.reduceEqDiff, if_true, if_false]); first | exact ⟨by omega, by omega⟩ | omega)) ?_
        refine Exists.intro (th.headD V) <| Exists.intro (V) <| ?_
        refine And.intro (by
          have hcc := hc.resolve_left (by omega)
          obtain ⟨y1, y2, y3⟩ := hcc.2.1
          refine ⟨?_, hL, ?_, hV⟩
          · cases th with
            | nil => first | exact absurd y1 c17 | (rw [ab_up_s]; exact hL)
            | cons V0 rest =>
              rw [List.length_cons] at y1
              first
                | omega
                | exact (y3 V0 rest rfl).1
          · cases th with
            | nil => exact hV
            | cons V0 rest => exact hcc.2.2.1 V0 List.mem_cons_self) ?_
        intro r51 hr51
        refine And.intro (by
          first
            | (rcases hc with hc | hc <;> exact ⟨by omega, by omega⟩)
            | (have hcc := hc.resolve_left (by omega); have hlen := hcc.2.1.1; have h1000 := hcc.2.2.2; (try simp only [ab_up_2, Nat.reduceEqDiff, if_true, if_false]); first | exact ⟨by omega, by omega⟩ | omega)) ?_
        have hcc := hc.resolve_left (by omega)
        have hck : ((c.toNat : Nat) : Int) = c := by omega
        refine gK _ ⟨fun o k q => ?_, fun _ => hcc.2.1.add ?_⟩
        · rw [up_ne (fun z => q ⟨by omega, by omega⟩)]
          first
            | (rw [up_ne (fun z => q ⟨by omega, by omega⟩), up_ne (fun z => q ⟨by omega, by omega⟩)]; done)
            | (rw [up_ne (fun z => q ⟨by omega, by omega⟩)]; done)
        · rw [if_neg c17, hr51]
      · intro c17
        refine And.intro (by
          first
            | (rcases hc with hc | hc <;> exact ⟨by omega, by omega⟩)
            | (have hcc := hc.resolve_left (by omega); have hlen := hcc.2.1.1; have h1000 := hcc.2.2.2; (try simp only [ab_up_2, Nat.reduceEqDiff, if_true, if_false]); first | exact ⟨by omega, by omega⟩ | omega)) ?_
        refine And.intro (by
          first
            | (rcases hc with hc | hc <;> exact ⟨by omega, by omega⟩)
            | (have hcc := hc.resolve_left (by omega); have hlen := hcc.2.1.1; have h1000 := hcc.2.2.2; (try simp only [ab_up_2, Nat.reduceEqDiff, if_true, if_false]); first | exact ⟨by omega, by omega⟩ | omega)) ?_
        refine And.intro (by
          first
            | (rcases hc with hc | hc <;> exact ⟨by omega, by omega⟩)
            | (have hcc := hc.resolve_left (by omega); have hlen := hcc.2.1.1; have h1000 := hcc.2.2.2; (try simp only [ab_up_2, Nat.reduceEqDiff, if_true, if_false]); first | exact ⟨by omega, by omega⟩ | omega)) ?_
        refine And.intro (by
          first
            | (rcases hc with hc | hc <;> exact ⟨by omega, by omega⟩)
            | (have hcc := hc.resolve_left (by omega); have hlen := hcc.2.1.1; have h1000 := hcc.2.2.2; (try simp only [ab_up_2, Nat.reduceEqDiff, if_true, if_false]); first | exact ⟨by omega, by omega⟩ | omega)) ?_
        refine And.intro (by
          first
            | (rcases hc with hc | hc <;> exact ⟨by omega, by omega⟩)
            | (have hcc := hc.resolve_left (by omega); have hlen := hcc.2.1.1; have h1000 := hcc.2.2.2; (try simp only [ab_up_2, Nat.reduceEqDiff, if_true, if_false]); first | exact ⟨by omega, by omega⟩ | omega)) ?_
        refine Exists.intro (th.headD V) <| Exists.intro (V) <| ?_
        refine And.intro (by
          have hcc := hc.resolve_left (by omega)
          obtain ⟨y1, y2, y3⟩ := hcc.2.1
          refine ⟨?_, hL, ?_, hV⟩
          · cases th with
            | nil => first | exact absurd y1 c17 | (rw [ab_up_s]; exact hL)
            | cons V0 rest =>
              rw [List.length_cons] at y1
              first
                | omega
                | exact (y3 V0 rest rfl).1
          · cases th with
            | nil => exact hV
            | cons V0 rest => exact hcc.2.2.1 V0 List.mem_cons_self) ?_
        intro r51 hr51
        refine And.intro (by
          first
            | (rcases hc with hc | hc <;> exact ⟨by omega, by omega⟩)
            | (have hcc := hc.resolve_left (by omega); have hlen := hcc.2.1.1; have h1000 := hcc.2.2.2; (try simp only [ab_up_2, Nat.reduceEqDiff, if_true, if_false]); first | exact ⟨by omega, by omega⟩ | omega)) ?_
        have hcc := hc.resolve_left (by omega)
        have hck : ((c.toNat : Nat) : Int) = c := by omega
        refine gK _ ⟨fun o k q => ?_, fun _ => hcc.2.1.add ?_⟩
        · rw [up_ne (fun z => q ⟨by omega, by omega⟩)]
          first
            | (rw [up_ne (fun z => q ⟨by omega, by omega⟩), up_ne (fun z => q ⟨by omega, by omega⟩)]; done)
            | (rw [up_ne (fun z => q ⟨by omega, by omega⟩)]; done)
        · rw [if_pos c17, hr51]
          cases th with
          | nil => rw [hL]; rfl
          | cons V0 rest =>
            have := hcc.2.1.1
            rw [List.length_cons] at this
            omega
    · intro c7
      refine gK _ ⟨fun _ _ _ => rfl, fun q => ?_⟩
      rcases hc with hc | hc
      · omega
      · omega

set_option maxRecDepth 20000 in
set_option maxHeartbeats 1000000 in
theorem ok_X0_noteThrow (E : ab_E) : ab_Ok E 2 5 S_X0_noteThrow := by
  refine ab_mk rq_X0_noteThrow tk_X0_noteThrow (rt := 0) (rfl) (cuts := []) (G := [(3, S_X0_differing)]) (List.forall_mem_cons.mpr ⟨⟨1, by decide, ok_X0_differing E⟩, fun _ h => absurd h List.not_mem_nil⟩) (by decide) 88 rfl ?_
  intro a M K wd wa hS
  unfold S_X0_noteThrow at hS
  split at hS
  ·
    rename_i c LL
    refine ⟨Nat.le_of_ble_eq_true rfl, fun _ _ _ _ _ => False, ?_, ?_⟩
    · exact vc_X0_noteThrow_0 c LL M K  hS
    · exact fun _ _ _ _ _ h => h.elim
  · exact hS.elim
