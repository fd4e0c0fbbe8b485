/-! what a run of the class does in a step -/
/-- the value of a term in a state as the class keeps it -/
def tv (M : ab_M) (t s : Int) : Int := if 0 ≤ t * 256 + s ∧ t * 256 + s < 16384 then M 770 (t * 256 + s).toNat else 0
/-- the places found in a step -/
def ts_L (M : ab_M) (L : List Int) : Prop := M 772 3 = ((L.length : Nat) : Int) ∧ L.length ≤ 256 ∧ ∀ i : Nat, i < L.length → M 773 i = L.getD i 0
def pl_ad (row st : Int) (L : List Int) : List Int := if 0 ≤ row ∧ row < 130 ∧ L.length < 256 then L ++ [row * 256 + ab_and st 255] else L
/-- a state in which a variable is another -/
def pz_sw (s v x : Int) : Int := ab_or (ab_and s (ab_xor (ab_shl 3 (6 - 2 * v)) (-1))) (ab_shl x (6 - 2 * v))
theorem ts_L.add {M : ab_M} {L : List Int} {row st : Int} (h : ts_L M L) (h1 : 0 ≤ row ∧ row < 130 ∧ M 772 3 < 256) : ts_L (ab_up (ab_up M 773 (M 772 3).toNat (row * 256 + ab_and st 255)) 772 3 (M 772 3 + 1)) (pl_ad row st L) := by
  obtain ⟨a1, a2, a3⟩ := h
  unfold pl_ad
  rw [if_pos ⟨h1.1, h1.2.1, by omega⟩]
  refine ⟨?_, by rw [List.length_append]; simp only [List.length_cons, List.length_nil]; omega, fun i hi => ?_⟩
  · rw [ab_up_s, List.length_append]
    simp only [List.length_cons, List.length_nil]
    omega
  · rw [List.length_append] at hi
    simp only [List.length_cons, List.length_nil] at hi
    rw [ab_up_o (by decide)]
    by_cases e : i = L.length
    · rw [show (M 772 3).toNat = i by omega, ab_up_s, e]
      simp
    · rw [ab_up_k (by omega), a3 i (by omega)]
      simp [List.getD, List.getElem?_append, show i < L.length by omega]
theorem ts_L.no {M : ab_M} {L : List Int} {row st : Int} (h : ts_L M L) (h1 : ¬ (0 ≤ row ∧ row < 130 ∧ M 772 3 < 256)) : pl_ad row st L = L := by
  unfold pl_ad
  rw [if_neg (by have := h.1; omega)]
theorem ts_L.fr {M M1 : ab_M} {L : List Int} (h : ts_L M L) (e : M1 772 3 = M 772 3) (e2 : ∀ k, M1 773 k = M 773 k) : ts_L M1 L := by
  obtain ⟨a1, a2, a3⟩ := h
  exact ⟨by rw [e]; exact a1, a2, fun i hi => by rw [e2]; exact a3 i hi⟩
theorem pz_sw_r : ∀ s v x : Int, 0 ≤ s → s ≤ 255 → 0 ≤ v → v ≤ 3 → 0 ≤ x → x ≤ 3 → 0 ≤ pz_sw s v x ∧ pz_sw s v x ≤ 255 := by
  have key : ∀ s : Fin 256, ∀ v x : Fin 4, 0 ≤ pz_sw ((s.val : Nat) : Int) ((v.val : Nat) : Int) ((x.val : Nat) : Int) ∧ pz_sw ((s.val : Nat) : Int) ((v.val : Nat) : Int) ((x.val : Nat) : Int) ≤ 255 := by decide +kernel
  intro s v x h1 h2 h3 h4 h5 h6
  have := key ⟨s.toNat, by omega⟩ ⟨v.toNat, by omega⟩ ⟨x.toNat, by omega⟩
  simp only [Int.toNat_of_nonneg h1, Int.toNat_of_nonneg h3, Int.toNat_of_nonneg h5] at this
  exact this
/-- between two calls that find places nothing else changes -/
def ts_f (M M' : ab_M) : Prop := ∀ o' k' : Nat, ¬ o' = 773 → ¬ (o' = 772 ∧ k' = 3) → M' o' k' = M o' k'
theorem ts_f.trans {M M1 M2 : ab_M} (h : ts_f M M1) (h' : ts_f M1 M2) : ts_f M M2 := fun o' k' a b => (h' o' k' a b).trans (h o' k' a b)
theorem ts_f.rf (M : ab_M) : ts_f M M := fun _ _ _ _ => rfl
theorem ts_f_tv {M M1 : ab_M} (h : ts_f M M1) (t s : Int) : tv M1 t s = tv M t s := by unfold tv; rw [h 770 _ (by decide) (fun q => absurd q.1 (by decide))]

def S_X7_of : ab_PT := fun a M K => match a with
  | [.inr (.inr (.inr (769, 7, 0))), .inr (.inl t), .inr (.inl st)] => (ab_ir (t * 256 + st)) ∧ (∀ rx : Int, (rx = tv M t st) → K [Xi rx] M)
  | _ => False
set_option maxRecDepth 20000 in
theorem vc_X7_of_0 (t : Int) (st : Int) (M : ab_M) (K : List ab_V → ab_M → Prop) (hS : (ab_ir (t * 256 + st)) ∧ (∀ rx : Int, (rx = tv M t st) → K [Xi rx] M)) : (-32768 ≤ (256 : Int) ∧ (256 : Int) < 32768) ∧ (ab_ir ((t * (256 : Int)) + st)) ∧ ((((t * (256 : Int)) + st) < 0 → K [Xi (0 : Int)] M) ∧ (0 ≤ ((t * (256 : Int)) + st) → (ab_ir ((t * (256 : Int)) + st) ∧ ab_ir ((16384 : Nat) : Int)) ∧ ((((16384 : Nat) : Int) ≤ ((t * (256 : Int)) + st) → K [Xi (0 : Int)] M) ∧ (((t * (256 : Int)) + st) < ((16384 : Nat) : Int) → (0 ≤ ((t * (256 : Int)) + st) ∧ ((t * (256 : Int)) + st) < ((16384 : Nat) : Int)) ∧ K [Xi (M 770 (((t * (256 : Int)) + st).toNat))] M)))) := by
  obtain ⟨g1, gK⟩ := hS
  refine And.intro (by
    first
      | exact g1
      | omega
      | exact ⟨by omega, by omega⟩
      | exact ⟨g1, by decide, by decide⟩
      | exact ⟨⟨by omega, by omega⟩, by omega, by omega⟩) ?_
  refine And.intro (by
    first
      | exact g1
      | omega
      | exact ⟨by omega, by omega⟩
      | exact ⟨g1, by decide, by decide⟩
      | exact ⟨⟨by omega, by omega⟩, by omega, by omega⟩) ?_
  refine ⟨?_, ?_⟩
  · intro c9
    refine gK _ ?_
    unfold tv
    first
      | (rw [if_pos ⟨by omega, by omega⟩]; done)
      | (rw [if_neg (by omega)]; done)
  · intro c9
    refine And.intro (by
      first
        | exact g1
        | omega
        | exact ⟨by omega, by omega⟩
        | exact ⟨g1, by decide, by decide⟩
        | exact ⟨⟨by omega, by omega⟩, by omega, by omega⟩) ?_
    refine ⟨?_, ?_⟩
    · intro c18
      refine gK _ ?_
      unfold tv
      first
        | (rw [if_pos ⟨by omega, by omega⟩]; done)
        | (rw [if_neg (by omega)]; done)
    · intro c18
      refine And.intro (by
        first
          | exact g1
          | omega
          | exact ⟨by omega, by omega⟩
          | exact ⟨g1, by decide, by decide⟩
          | exact ⟨⟨by omega, by omega⟩, by omega, by omega⟩) ?_
      refine gK _ ?_
      unfold tv
      first
        | (rw [if_pos ⟨by omega, by omega⟩]; done)
        | (rw [if_neg (by omega)]; done)

set_option maxRecDepth 20000 in
set_option maxHeartbeats 1000000 in
theorem ok_X7_of (E : ab_E) : ab_Ok E 1 76 S_X7_of := by
  refine ab_mk rq_X7_of tk_X7_of (rt := 1) (rfl) (cuts := []) (G := []) (fun g hg => by cases hg) (by decide) 70 rfl ?_
  intro a M K wd wa hS
  unfold S_X7_of at hS
  split at hS
  ·
    rename_i t st
    refine ⟨Nat.le_of_ble_eq_true rfl, fun _ _ _ _ _ => False, ?_, ?_⟩
    · exact vc_X7_of_0 t st M K  hS
    · exact fun _ _ _ _ _ h => h.elim
  · exact hS.elim
def S_X7_isTrue : ab_PT := fun a M K => match a with
  | [.inr (.inr (.inr (769, 7, 0))), .inr (.inl t), .inr (.inl st)] => (ab_ir (t * 256 + st) ∧ tv_ok M) ∧ (∀ rx : Int, (rx = if ¬ tv M t st = 0 then 1 else 0) → K [Xi rx] M)
  | _ => False
set_option maxRecDepth 20000 in
theorem vc_X7_isTrue_0 (t : Int) (st : Int) (M : ab_M) (K : List ab_V → ab_M → Prop) (hS : (ab_ir (t * 256 + st) ∧ tv_ok M) ∧ (∀ rx : Int, (rx = if ¬ tv M t st = 0 then 1 else 0) → K [Xi rx] M)) : (-32768 ≤ (256 : Int) ∧ (256 : Int) < 32768) ∧ (ab_ir ((t * (256 : Int)) + st)) ∧ ((((t * (256 : Int)) + st) < 0 → ((0 : Int) = 0 ∨ (0 : Int) = 1) ∧ K [Xi (0 : Int)] M) ∧ (0 ≤ ((t * (256 : Int)) + st) → (ab_ir ((t * (256 : Int)) + st) ∧ ab_ir ((16384 : Nat) : Int)) ∧ ((((16384 : Nat) : Int) ≤ ((t * (256 : Int)) + st) → ((0 : Int) = 0 ∨ (0 : Int) = 1) ∧ K [Xi (0 : Int)] M) ∧ (((t * (256 : Int)) + st) < ((16384 : Nat) : Int) → (0 ≤ ((t * (256 : Int)) + st) ∧ ((t * (256 : Int)) + st) < ((16384 : Nat) : Int)) ∧ (ab_ir (M 770 (((t * (256 : Int)) + st).toNat))) ∧ (((M 770 (((t * (256 : Int)) + st).toNat)) = 0 → ((0 : Int) = 0 ∨ (0 : Int) = 1) ∧ K [Xi (0 : Int)] M) ∧ (¬ (M 770 (((t * (256 : Int)) + st).toNat)) = 0 → ((1 : Int) = 0 ∨ (1 : Int) = 1) ∧ K [Xi (1 : Int)] M)))))) := by
  obtain ⟨⟨g1, g2⟩, gK⟩ := hS
  have g3 := g2 (t * 256 + st).toNat
  refine And.intro (by
    first
      | exact g1
      | omega
      | exact ⟨by omega, by omega⟩
      | exact ⟨g1, by decide, by decide⟩
      | exact ⟨⟨by omega, by omega⟩, by omega, by omega⟩) ?_
  refine And.intro (by
    first
      | exact g1
      | omega
      | exact ⟨by omega, by omega⟩
      | exact ⟨g1, by decide, by decide⟩
      | exact ⟨⟨by omega, by omega⟩, by omega, by omega⟩) ?_
  refine ⟨?_, ?_⟩
  · intro c9
    refine And.intro (by
      first
        | exact g1
        | omega
        | exact ⟨by omega, by omega⟩
        | exact ⟨g1, by decide, by decide⟩
        | exact ⟨⟨by omega, by omega⟩, by omega, by omega⟩) ?_
    refine gK _ ?_
    unfold tv
    first
      | (rw [if_pos (show 0 ≤ t * 256 + st ∧ t * 256 + st < 16384 from ⟨by omega, by omega⟩)]
         first
           | (rw [if_pos (by omega)]; done)
           | (rw [if_neg (by omega)]; done))
      | (rw [if_neg (show ¬ (0 ≤ t * 256 + st ∧ t * 256 + st < 16384) by omega)]
         rw [if_neg (by decide)])
  · intro c9
    refine And.intro (by
      first
        | exact g1
        | omega
        | exact ⟨by omega, by omega⟩
        | exact ⟨g1, by decide, by decide⟩
        | exact ⟨⟨by omega, by omega⟩, by omega, by omega⟩) ?_
    refine ⟨?_, ?_⟩
    · intro c18
      refine And.intro (by
        first
          | exact g1
          | omega
          | exact ⟨by omega, by omega⟩
          | exact ⟨g1, by decide, by decide⟩
          | exact ⟨⟨by omega, by omega⟩, by omega, by omega⟩) ?_
      refine gK _ ?_
      unfold tv
      first
        | (rw [if_pos (show 0 ≤ t * 256 + st ∧ t * 256 + st < 16384 from ⟨by omega, by omega⟩)]
           first
             | (rw [if_pos (by omega)]; done)
             | (rw [if_neg (by omega)]; done))
        | (rw [if_neg (show ¬ (0 ≤ t * 256 + st ∧ t * 256 + st < 16384) by omega)]
           rw [if_neg (by decide)])
    · intro c18
      refine And.intro (by
        first
          | exact g1
          | omega
          | exact ⟨by omega, by omega⟩
          | exact ⟨g1, by decide, by decide⟩
          | exact ⟨⟨by omega, by omega⟩, by omega, by omega⟩) ?_
      refine And.intro (by
        first
          | exact g1
          | omega
          | exact ⟨by omega, by omega⟩
          | exact ⟨g1, by decide, by decide⟩
          | exact ⟨⟨by omega, by omega⟩, by omega, by omega⟩) ?_
      refine ⟨?_, ?_⟩
      · intro c27
        refine And.intro (by
          first
            | exact g1
            | omega
            | exact ⟨by omega, by omega⟩
            | exact ⟨g1, by decide, by decide⟩
            | exact ⟨⟨by omega, by omega⟩, by omega, by omega⟩) ?_
        refine gK _ ?_
        unfold tv
        first
          | (rw [if_pos (show 0 ≤ t * 256 + st ∧ t * 256 + st < 16384 from ⟨by omega, by omega⟩)]
             first
               | (rw [if_pos (by omega)]; done)
               | (rw [if_neg (by omega)]; done))
          | (rw [if_neg (show ¬ (0 ≤ t * 256 + st ∧ t * 256 + st < 16384) by omega)]
             rw [if_neg (by decide)])
      · intro c27
        refine And.intro (by
          first
            | exact g1
            | omega
            | exact ⟨by omega, by omega⟩
            | exact ⟨g1, by decide, by decide⟩
            | exact ⟨⟨by omega, by omega⟩, by omega, by omega⟩) ?_
        refine gK _ ?_
        unfold tv
        first
          | (rw [if_pos (show 0 ≤ t * 256 + st ∧ t * 256 + st < 16384 from ⟨by omega, by omega⟩)]
             first
               | (rw [if_pos (by omega)]; done)
               | (rw [if_neg (by omega)]; done))
          | (rw [if_neg (show ¬ (0 ≤ t * 256 + st ∧ t * 256 + st < 16384) by omega)]
             rw [if_neg (by decide)])

set_option maxRecDepth 20000 in
set_option maxHeartbeats 1000000 in
theorem ok_X7_isTrue (E : ab_E) : ab_Ok E 1 75 S_X7_isTrue := by
  refine ab_mk rq_X7_isTrue tk_X7_isTrue (rt := 2) (rfl) (cuts := []) (G := []) (fun g hg => by cases hg) (by decide) 72 rfl ?_
  intro a M K wd wa hS
  unfold S_X7_isTrue at hS
  split at hS
  ·
    rename_i t st
    refine ⟨Nat.le_of_ble_eq_true rfl, fun _ _ _ _ _ => False, ?_, ?_⟩
    · exact vc_X7_isTrue_0 t st M K  hS
    · exact fun _ _ _ _ _ h => h.elim
  · exact hS.elim
def S_X5_add : ab_PT := fun a M K => match a with
  | [.inr (.inr (.inr (772, 5, 0))), .inr (.inl row), .inr (.inl st)] => (∃ L : List Int, (ab_ir row ∧ ts_L M L) ∧ (∀ Mx : ab_M, (ts_L Mx (pl_ad row st L) ∧ ts_f M Mx) → K [] Mx))
  | _ => False
set_option maxRecDepth 20000 in
theorem vc_X5_add_0 (row : Int) (st : Int) (M : ab_M) (K : List ab_V → ab_M → Prop) (hS : (∃ L : List Int, (ab_ir row ∧ ts_L M L) ∧ (∀ Mx : ab_M, (ts_L Mx (pl_ad row st L) ∧ ts_f M Mx) → K [] Mx))) : (ab_ir row) ∧ ((row < 0 → K [] M) ∧ (0 ≤ row → (-32768 ≤ (130 : Int) ∧ (130 : Int) < 32768) ∧ (ab_ir row ∧ ab_ir (130 : Int)) ∧ (((130 : Int) ≤ row → K [] M) ∧ (row < (130 : Int) → (-32768 ≤ (256 : Int) ∧ (256 : Int) < 32768) ∧ (ab_ir (M 772 3) ∧ ab_ir (256 : Int)) ∧ (((256 : Int) ≤ (M 772 3) → K [] M) ∧ ((M 772 3) < (256 : Int) → (-32768 ≤ (256 : Int) ∧ (256 : Int) < 32768) ∧ (-32768 ≤ (255 : Int) ∧ (255 : Int) < 32768) ∧ (0 ≤ (M 772 3) ∧ (M 772 3) < ((256 : Nat) : Int)) ∧ K [] (ab_up (ab_up M 773 ((M 772 3).toNat) ((row * (256 : Int)) + (ab_and st (255 : Int)))) 772 3 ((M 772 3) + (1 : Int))))))))) := by
  obtain ⟨L, ⟨g1, g2⟩, gK⟩ := hS
  have g3 := g2.1
  have g4 := g2.2.1
  try simp only [ab_up_a, Nat.reduceEqDiff, false_and, if_false]
  refine And.intro (by
    first
      | exact g1
      | omega
      | exact ⟨by omega, by omega⟩
      | exact ⟨g1, by decide, by decide⟩
      | exact ⟨⟨by omega, by omega⟩, by omega, by omega⟩) ?_
  refine ⟨?_, ?_⟩
  · intro c1
    first
      | (refine gK _ ⟨?_, ts_f.rf M⟩
         rw [g2.no (by omega)]
         exact g2)
      | (refine gK _ ⟨g2.add ⟨by omega, by omega, by omega⟩, fun o' k' q1 q2 => ?_⟩
         rw [up_ne q2, ab_up_o q1])
  · intro c1
    refine And.intro (by
      first
        | exact g1
        | omega
        | exact ⟨by omega, by omega⟩
        | exact ⟨g1, by decide, by decide⟩
        | exact ⟨⟨by omega, by omega⟩, by omega, by omega⟩) ?_
    refine And.intro (by
      first
        | exact g1
        | omega
        | exact ⟨by omega, by omega⟩
        | exact ⟨g1, by decide, by decide⟩
        | exact ⟨⟨by omega, by omega⟩, by omega, by omega⟩) ?_
    refine ⟨?_, ?_⟩
    · intro c8
      first
        | (refine gK _ ⟨?_, ts_f.rf M⟩
           rw [g2.no (by omega)]
           exact g2)
        | (refine gK _ ⟨g2.add ⟨by omega, by omega, by omega⟩, fun o' k' q1 q2 => ?_⟩
           rw [up_ne q2, ab_up_o q1])
    · intro c8
      refine And.intro (by
        first
          | exact g1
          | omega
          | exact ⟨by omega, by omega⟩
          | exact ⟨g1, by decide, by decide⟩
          | exact ⟨⟨by omega, by omega⟩, by omega, by omega⟩) ?_
      refine And.intro (by
        first
          | exact g1
          | omega
          | exact ⟨by omega, by omega⟩
          | exact ⟨g1, by decide, by decide⟩
          | exact ⟨⟨by omega, by omega⟩, by omega, by omega⟩) ?_
      refine ⟨?_, ?_⟩
      · intro c18
        first
          | (refine gK _ ⟨?_, ts_f.rf M⟩
             rw [g2.no (by omega)]
             exact g2)
          | (refine gK _ ⟨g2.add ⟨by omega, by omega, by omega⟩, fun o' k' q1 q2 => ?_⟩
             rw [up_ne q2, ab_up_o q1])
      · intro c18
        refine And.intro (by
          first
            | exact g1
            | omega
            | exact ⟨by omega, by omega⟩
            | exact ⟨g1, by decide, by decide⟩
            | exact ⟨⟨by omega, by omega⟩, by omega, by omega⟩) ?_
        refine And.intro (by
          first
            | exact g1
            | omega
            | exact ⟨by omega, by omega⟩
            | exact ⟨g1, by decide, by decide⟩
            | exact ⟨⟨by omega, by omega⟩, by omega, by omega⟩) ?_
        refine And.intro (by
          first
            | exact g1
            | omega
            | exact ⟨by omega, by omega⟩
            | exact ⟨g1, by decide, by decide⟩
            | exact ⟨⟨by omega, by omega⟩, by omega, by omega⟩) ?_
        first
          | (refine gK _ ⟨?_, ts_f.rf M⟩
             rw [g2.no (by omega)]
             exact g2)
          | (refine gK _ ⟨g2.add ⟨by omega, by omega, by omega⟩, fun o' k' q1 q2 => ?_⟩
             rw [up_ne q2, ab_up_o q1])

set_option maxRecDepth 20000 in
set_option maxHeartbeats 1000000 in
theorem ok_X5_add (E : ab_E) : ab_Ok E 1 59 S_X5_add := by
  refine ab_mk rq_X5_add tk_X5_add (rt := 0) (rfl) (cuts := []) (G := []) (fun g hg => by cases hg) (by decide) 78 rfl ?_
  intro a M K wd wa hS
  unfold S_X5_add at hS
  split at hS
  ·
    rename_i row st
    refine ⟨Nat.le_of_ble_eq_true rfl, fun _ _ _ _ _ => False, ?_, ?_⟩
    · exact vc_X5_add_0 row st M K  hS
    · exact fun _ _ _ _ _ h => h.elim
  · exact hS.elim
