/-! depth first: what holds while places are met and closed -/
/-- from one place another can be reached -/
def wk_r (S : Nat → List Int) (u w : Nat) : Prop := ∃ n, gx_W S (fun i => i = w) n u
theorem wk_tr {S : Nat → List Int} {P : Nat → Prop} {w : Nat} (h : ∃ m, gx_W S P m w) : ∀ (n u : Nat), gx_W S (fun i => i = w) n u → ∃ m, gx_W S P m u
  | 0, u, hu => by
    have hu : u = w := hu
    rw [hu]; exact h
  | n + 1, u, hu => by
    rcases hu with hu | ⟨q, q1, q2⟩
    · have hu : u = w := hu
      rw [hu]; exact h
    · obtain ⟨m, hm⟩ := wk_tr h n _ q2
      exact ⟨m + 1, Or.inr ⟨q, q1, hm⟩⟩
theorem wk_r.to {S : Nat → List Int} {P : Nat → Prop} {u w : Nat} (h : wk_r S u w) (hw : ∃ m, gx_W S P m w) : ∃ m, gx_W S P m u := h.elim fun n hn => wk_tr hw n u hn
theorem wk_r.rf (S : Nat → List Int) (u : Nat) : wk_r S u u := ⟨0, rfl⟩
theorem wk_r.ed {S : Nat → List Int} {u w : Nat} {q : Int} (hq : q ∈ S u) (h : wk_r S q.toNat w) : wk_r S u w := h.elim fun n hn => ⟨n + 1, Or.inr ⟨q, hq, hn⟩⟩
/-- numbers -/
def wk_a (D : Nat → Prop) (N : Nat → Int) (m : Int) : Prop := (∀ j, D j → N j = 0 ∨ (1 ≤ N j ∧ N j ≤ m)) ∧ ∀ i j, D i → D j → N i ≠ 0 → N i = N j → i = j
/-- the stack, those that are being worked on -/
def wk_b (D : Nat → Prop) (N L : Nat → Int) (T A : List Nat) : Prop := (∀ a ∈ T, D a ∧ N a ≠ 0 ∧ 1 ≤ L a ∧ L a ≤ N a) ∧ T.Pairwise (fun a b => N b < N a) ∧ (∀ a ∈ A, a ∈ T) ∧ A.Pairwise (fun a b => N b < N a)
/-- what is closed has all that its own and its successors have -/
def wk_c (S : Nat → List Int) (O : Nat → Nat → Prop) (D : Nat → Prop) (N L X : Nat → Int) (T : List Nat) : Prop := ∀ j, D j → N j ≠ 0 → j ∉ T → L j = 33281 ∧ (∀ b, b < 64 → O j b → pz_lb (X j) b = true) ∧ ∀ q ∈ S j, N q.toNat ≠ 0 ∧ q.toNat ∉ T ∧ ∀ b, b < 64 → pz_lb (X q.toNat) b = true → pz_lb (X j) b = true
/-- what is finished and not closed -/
def wk_d (S : Nat → List Int) (O : Nat → Nat → Prop) (N L X : Nat → Int) (T A : List Nat) : Prop := ∀ u ∈ T, u ∉ A → (∀ b, b < 64 → O u b → pz_lb (X u) b = true) ∧ (∀ q ∈ S u, N q.toNat ≠ 0 ∧ (q.toNat ∉ T → ∀ b, b < 64 → pz_lb (X q.toNat) b = true → pz_lb (X u) b = true) ∧ (q.toNat ∈ T → L u ≤ N q.toNat) ∧ ∀ a ∈ A, N u < N a → N q.toNat < N a) ∧ L u < N u ∧ ∃ w ∈ T, N w = L u ∧ wk_r S u w
def wk_e (N L X : Nat → Int) (A : List Nat) : Prop := ∀ a ∈ A, L a = N a ∧ ∀ b, b < 64 → ¬ pz_lb (X a) b = true
/-- each bit comes from somewhere -/
def wk_f (S : Nat → List Int) (O : Nat → Nat → Prop) (D : Nat → Prop) (N X : Nat → Int) : Prop := ∀ j, D j → N j ≠ 0 → ∀ b, b < 64 → pz_lb (X j) b = true → ∃ n, gx_W S (fun i => O i b) n j
/-- what is finished is stood for by a successor of the last that is worked on -/
def wk_g (S : Nat → List Int) (N L X : Nat → Int) (T A : List Nat) : Prop := ∀ u ∈ T, u ∉ A → ∃ a ∈ A, N a < N u ∧ (∀ a' ∈ A, N a' < N u → N a' ≤ N a) ∧ ∃ q ∈ S a, q.toNat ∈ T ∧ q.toNat ∉ A ∧ N a < N q.toNat ∧ N q.toNat ≤ N u ∧ (∀ b, b < 64 → pz_lb (X u) b = true → pz_lb (X q.toNat) b = true) ∧ L q.toNat ≤ L u
/-- each that is worked on is a successor of the one before it -/
def wk_h (S : Nat → List Int) : List Nat → Prop
  | a :: b :: l => (∃ q ∈ S b, q.toNat = a) ∧ wk_h S (b :: l)
  | _ => True
def wk_T (S : Nat → List Int) (O : Nat → Nat → Prop) (D : Nat → Prop) (N L X : Nat → Int) (m : Int) (T A : List Nat) : Prop :=
  wk_a D N m ∧ wk_b D N L T A ∧ wk_c S O D N L X T ∧ wk_d S O N L X T A ∧ wk_e N L X A ∧ wk_f S O D N X ∧ wk_g S N L X T A ∧ wk_h S A
def wk_u (N : Nat → Int) (j : Nat) (x : Int) : Nat → Int := fun i => if i = j then x else N i
theorem wk_u_s (N : Nat → Int) (j : Nat) (x : Int) : wk_u N j x j = x := if_pos rfl
theorem wk_u_n {N : Nat → Int} {j i : Nat} {x : Int} (h : i ≠ j) : wk_u N j x i = N i := if_neg h
/-- the place comes behind the last that is worked on -/
def wk_nx (S : Nat → List Int) (T A : List Nat) (p : Nat) : Prop := match A with
  | [] => T = []
  | a :: _ => ∃ q ∈ S a, q.toNat = p
section WK
variable {S : Nat → List Int} {O : Nat → Nat → Prop} {D : Nat → Prop} {N L X : Nat → Int} {m : Int} {T A : List Nat}
/-- a place is met for the first time -/
theorem wk_T.meet (hDS : ∀ j, D j → ∀ q ∈ S j, D q.toNat) (h : wk_T S O D N L X m T A) (hm : 0 ≤ m) {p : Nat} (hD : D p) (h0 : N p = 0) (hA : wk_nx S T A p) : wk_T S O D (wk_u N p (m + 1)) (wk_u L p (m + 1)) (wk_u X p 0) (m + 1) (p :: T) (p :: A) := by
  obtain ⟨⟨a1, a2⟩, ⟨b1, b2, b3, b4⟩, hc, hd, he, hf, hg, hh⟩ := h
  have nT : p ∉ T := fun z => (b1 p z).2.1 h0
  have nA : p ∉ A := fun z => nT (b3 p z)
  have neq : ∀ i, N i ≠ 0 → i ≠ p := fun i hi e => hi (by rw [e]; exact h0)
  have nT1 : ∀ a ∈ T, a ≠ p := fun a ha e => nT (by rw [← e]; exact ha)
  have nA1 : ∀ a ∈ A, a ≠ p := fun a ha e => nA (by rw [← e]; exact ha)
  have le : ∀ a ∈ T, N a ≤ m := fun a ha => by
    rcases a1 a (b1 a ha).1 with z | z
    · exact absurd z (b1 a ha).2.1
    · exact z.2
  have hmem : ∀ i, N i ≠ 0 → (i ∈ p :: T ↔ i ∈ T) := fun i hi => ⟨fun z => (List.mem_cons.1 z).resolve_left (neq i hi), fun z => List.mem_cons_of_mem _ z⟩
  have hmemA : ∀ i, N i ≠ 0 → (i ∈ p :: A ↔ i ∈ A) := fun i hi => ⟨fun z => (List.mem_cons.1 z).resolve_left (neq i hi), fun z => List.mem_cons_of_mem _ z⟩
  refine ⟨⟨fun j hj => ?_, fun i j hi hj hi0 hij => ?_⟩, ⟨fun a ha => ?_, List.pairwise_cons.2 ⟨fun b hb => ?_, ?_⟩, fun a ha => ?_, List.pairwise_cons.2 ⟨fun b hb => ?_, ?_⟩⟩, fun j hj hj0 hjT => ?_, fun u hu huA => ?_, fun a ha => ?_, fun j hj hj0 b hb hX => ?_, fun u hu huA => ?_, ?_⟩
  · by_cases e : j = p
    · rw [e, wk_u_s]; exact Or.inr ⟨by omega, by omega⟩
    · rw [wk_u_n e]; exact (a1 j hj).imp id fun z => ⟨z.1, by omega⟩
  · by_cases e : i = p
    · by_cases e2 : j = p
      · rw [e, e2]
      · rw [e, wk_u_s, wk_u_n e2] at hij
        rcases a1 j hj with z | z <;> omega
    · by_cases e2 : j = p
      · rw [e2, wk_u_s, wk_u_n e] at hij
        rcases a1 i hi with z | z <;> omega
      · rw [wk_u_n e] at hi0
        rw [wk_u_n e, wk_u_n e2] at hij
        exact a2 i j hi hj hi0 hij
  · rcases List.mem_cons.1 ha with e | ha
    · rw [e, wk_u_s, wk_u_s]; exact ⟨hD, by omega, by omega, Int.le_refl _⟩
    · have hne := nT1 a ha
      rw [wk_u_n hne, wk_u_n hne]; exact b1 a ha
  · rw [wk_u_s, wk_u_n (nT1 b hb)]
    have := le b hb
    omega
  · exact b2.imp_of_mem fun {a b} ha hb z => by rw [wk_u_n (nT1 a ha), wk_u_n (nT1 b hb)]; exact z
  · rcases List.mem_cons.1 ha with e | ha
    · rw [e]; exact List.mem_cons_self
    · exact List.mem_cons_of_mem _ (b3 a ha)
  · rw [wk_u_s, wk_u_n (nA1 b hb)]
    have := le b (b3 b hb)
    omega
  · exact b4.imp_of_mem fun {a b} ha hb z => by rw [wk_u_n (nA1 a ha), wk_u_n (nA1 b hb)]; exact z
  · have hne : j ≠ p := fun e => hjT (by rw [e]; exact List.mem_cons_self)
    rw [wk_u_n hne] at hj0 ⊢
    obtain ⟨c1, c2, c3⟩ := hc j hj hj0 fun z => hjT (List.mem_cons_of_mem _ z)
    rw [wk_u_n hne]
    refine ⟨c1, c2, fun q hq => ?_⟩
    obtain ⟨d1, d2, d3⟩ := c3 q hq
    have hq := neq _ d1
    rw [wk_u_n hq, wk_u_n hq]
    exact ⟨d1, fun z => d2 ((hmem _ d1).1 z), d3⟩
  · have hne : u ≠ p := fun e => huA (by rw [e]; exact List.mem_cons_self)
    have hu := (List.mem_cons.1 hu).resolve_left hne
    obtain ⟨d1, d2, d3, w, w1, w2, w3⟩ := hd u hu fun z => huA (List.mem_cons_of_mem _ z)
    rw [wk_u_n hne, wk_u_n hne, wk_u_n hne]
    refine ⟨d1, fun q hq => ?_, d3, w, List.mem_cons_of_mem _ w1, by rw [wk_u_n (nT1 w w1)]; exact w2, w3⟩
    obtain ⟨e1, e2, e3, e4⟩ := d2 q hq
    have hqn := neq _ e1
    rw [wk_u_n hqn, wk_u_n hqn]
    refine ⟨e1, fun z => e2 fun y => z (List.mem_cons_of_mem _ y), fun z => e3 ((hmem _ e1).1 z), fun a ha hlt => ?_⟩
    rcases List.mem_cons.1 ha with e | ha
    · rw [e, wk_u_s]
      rcases a1 q.toNat (hDS u (b1 u hu).1 q hq) with z | z
      · exact absurd z e1
      · omega
    · rw [wk_u_n (nA1 a ha)] at hlt ⊢
      exact e4 a ha hlt
  · rcases List.mem_cons.1 ha with e | ha
    · rw [e, wk_u_s, wk_u_s, wk_u_s]
      exact ⟨rfl, fun b _ z => by rw [pz_lb_0] at z; cases z⟩
    · have hne := nA1 a ha
      rw [wk_u_n hne, wk_u_n hne, wk_u_n hne]; exact he a ha
  · by_cases e : j = p
    · rw [e, wk_u_s, pz_lb_0] at hX; cases hX
    · rw [wk_u_n e] at hX hj0
      exact hf j hj hj0 b hb hX
  · have hne : u ≠ p := fun e => huA (by rw [e]; exact List.mem_cons_self)
    have hu := (List.mem_cons.1 hu).resolve_left hne
    obtain ⟨a, c1, c2, c3, q, q1, q2, q3, q4, q5, q6, q7⟩ := hg u hu fun z => huA (List.mem_cons_of_mem _ z)
    have hna := nA1 a c1
    have hnq := nT1 _ q2
    refine ⟨a, List.mem_cons_of_mem _ c1, ?_, fun a' ha' hlt => ?_, q, q1, List.mem_cons_of_mem _ q2, fun z => ?_, ?_, ?_, ?_, ?_⟩
    · rw [wk_u_n hna, wk_u_n hne]; exact c2
    · rcases List.mem_cons.1 ha' with e | ha'
      · rw [e, wk_u_s, wk_u_n hne] at hlt
        have := le u hu
        omega
      · rw [wk_u_n (nA1 a' ha'), wk_u_n hne] at hlt
        rw [wk_u_n (nA1 a' ha'), wk_u_n hna]
        exact c3 a' ha' hlt
    · rcases List.mem_cons.1 z with e | z
      · exact hnq e
      · exact q3 z
    · rw [wk_u_n hna, wk_u_n hnq]; exact q4
    · rw [wk_u_n hnq, wk_u_n hne]; exact q5
    · rw [wk_u_n hnq, wk_u_n hne]; exact q6
    · rw [wk_u_n hnq, wk_u_n hne]; exact q7
  · cases A with
    | nil => trivial
    | cons a l => exact ⟨hA, hh⟩
/-- what a place has when all its successors are met -/
theorem wk_src (hDS : ∀ j, D j → ∀ q ∈ S j, D q.toNat) (hf : wk_f S O D N X) {a : Nat} {x : Int} (ha : D a) (hmet : ∀ q ∈ S a, N q.toNat ≠ 0) (hx : ∀ b, b < 64 → (pz_lb x b = true ↔ O a b ∨ ∃ q ∈ S a, pz_lb (X q.toNat) b = true)) {b : Nat} (hb : b < 64) (h : pz_lb x b = true) : ∃ n, gx_W S (fun i => O i b) n a := by
  rcases (hx b hb).1 h with z | ⟨q, q1, q2⟩
  · exact ⟨0, z⟩
  · obtain ⟨n, hn⟩ := hf q.toNat (hDS a ha q q1) (hmet q q1) b hb q2
    exact ⟨n + 1, Or.inr ⟨q, q1, hn⟩⟩
/-- a place is finished, not closed -/
theorem wk_T.keep {a : Nat} (hDS : ∀ j, D j → ∀ q ∈ S j, D q.toNat) (h : wk_T S O D N L X m T (a :: A)) (hmet : ∀ q ∈ S a, N q.toNat ≠ 0) {x l : Int} (hx : ∀ b, b < 64 → (pz_lb x b = true ↔ O a b ∨ ∃ q ∈ S a, pz_lb (X q.toNat) b = true)) (hl1 : l ≤ N a) (hl2 : ∀ q ∈ S a, l ≤ L q.toNat) (hl3 : l = N a ∨ ∃ q ∈ S a, l = L q.toNat) (hm : m < 33281) (hne : l ≠ N a) : A ≠ [] ∧ wk_T S O D N (wk_u L a l) (wk_u X a x) m T A := by
  obtain ⟨⟨a1, a2⟩, ⟨b1, b2, b3, b4⟩, hc, hd, he, hf, hg, hh⟩ := h
  obtain ⟨b5, b6⟩ := List.pairwise_cons.1 b4
  have aT : a ∈ T := b3 a List.mem_cons_self
  obtain ⟨aD, aN, -, -⟩ := b1 a aT
  have aA : a ∉ A := fun z => by have := b5 a z; omega
  have le : ∀ t ∈ T, N t ≤ m := fun t ht => by
    rcases a1 t (b1 t ht).1 with z | z
    · exact absurd z (b1 t ht).2.1
    · exact z.2
  obtain ⟨q, hq, hlq⟩ := hl3.resolve_left hne
  have qT : q.toNat ∈ T := Classical.byContradiction fun z => by
    have := (hc q.toNat (hDS a aD q hq) (hmet q hq) z).1
    have := le a aT
    omega
  have l1 : 1 ≤ l := by have := (b1 _ qT).2.2.1; omega
  obtain ⟨w, w1, w2, w3⟩ : ∃ w ∈ T, N w = l ∧ wk_r S a w := by
    by_cases c : q.toNat ∈ a :: A
    · exact ⟨q.toNat, qT, by have := (he _ c).1; omega, (wk_r.rf S _).ed hq⟩
    · obtain ⟨-, -, -, w, w1, w2, w3⟩ := hd _ qT c
      exact ⟨w, w1, by omega, w3.ed hq⟩
  cases A with
  | nil =>
    exfalso
    by_cases c : w = a
    · rw [c] at w2; omega
    · obtain ⟨a', c1, c2, -⟩ := hg w w1 fun z => c (List.mem_singleton.1 z)
      rw [List.mem_singleton.1 c1] at c2
      omega
  | cons p A =>
    obtain ⟨c5, c6⟩ := List.pairwise_cons.1 b6
    obtain ⟨⟨y, y1, y2⟩, hh⟩ := hh
    have pmax : ∀ a' ∈ p :: A, N a' ≤ N p := fun a' ha' => by
      rcases List.mem_cons.1 ha' with e | e
      · rw [e]; exact Int.le_refl _
      · have := c5 a' e; omega
    have pa : N p < N a := b5 p List.mem_cons_self
    refine ⟨fun e => (by cases e), ⟨a1, a2⟩, ⟨fun t ht => ?_, b2, fun t ht => b3 t (List.mem_cons_of_mem _ ht), b6⟩, fun j hj hj0 hjT => ?_, fun u hu huA => ?_, fun t ht => ?_, fun j hj hj0 b hb hX => ?_, fun u hu huA => ?_, hh⟩
    · by_cases e : t = a
      · rw [e, wk_u_s]; exact ⟨aD, aN, l1, hl1⟩
      · rw [wk_u_n e]; exact b1 t ht
    · have hja : j ≠ a := fun e => hjT (by rw [e]; exact aT)
      obtain ⟨c1, c2, c3⟩ := hc j hj hj0 hjT
      rw [wk_u_n hja, wk_u_n hja]
      refine ⟨c1, c2, fun q' hq' => ?_⟩
      obtain ⟨d1, d2, d3⟩ := c3 q' hq'
      rw [wk_u_n fun e => d2 (by rw [e]; exact aT)]
      exact ⟨d1, d2, d3⟩
    · by_cases e : u = a
      · subst e
        rw [wk_u_s, wk_u_s]
        refine ⟨fun b hb z => (hx b hb).2 (Or.inl z), fun q' hq' => ⟨hmet q' hq', fun z b hb y => ?_, fun z => ?_, fun a' ha' hlt => ?_⟩, by omega, w, w1, w2, w3⟩
        · rw [wk_u_n fun e => z (by rw [e]; exact aT)] at y
          exact (hx b hb).2 (Or.inr ⟨q', hq', y⟩)
        · have := hl2 q' hq'
          have := (b1 _ z).2.2.2
          omega
        · have := b5 a' ha'
          omega
      · have huA' : u ∉ a :: p :: A := fun z => (List.mem_cons.1 z).elim e huA
        obtain ⟨d1, d2, d3, w', w1', w2', w3'⟩ := hd u hu huA'
        rw [wk_u_n e, wk_u_n e]
        refine ⟨d1, fun q' hq' => ?_, d3, w', w1', w2', w3'⟩
        obtain ⟨e1, e2, e3, e4⟩ := d2 q' hq'
        refine ⟨e1, fun z => ?_, e3, fun a' ha' => e4 a' (List.mem_cons_of_mem _ ha')⟩
        rw [wk_u_n fun e => z (by rw [e]; exact aT)]
        exact e2 z
    · have hta : t ≠ a := fun e => aA (by rw [← e]; exact ht)
      rw [wk_u_n hta, wk_u_n hta]
      exact he t (List.mem_cons_of_mem _ ht)
    · by_cases e : j = a
      · subst e
        rw [wk_u_s] at hX
        exact wk_src hDS hf aD hmet hx hb hX
      · rw [wk_u_n e] at hX
        exact hf j hj hj0 b hb hX
    · by_cases e : u = a
      · subst e
        refine ⟨p, List.mem_cons_self, pa, fun a' ha' _ => pmax a' ha', y, y1, ?_⟩
        rw [y2]
        exact ⟨aT, aA, pa, Int.le_refl _, fun _ _ z => z, Int.le_refl _⟩
      · have huA' : u ∉ a :: p :: A := fun z => (List.mem_cons.1 z).elim e huA
        obtain ⟨a', c1, c2, c3, q', d1, d2, d3, d4, d5, d6, d7⟩ := hg u hu huA'
        have hqa : q'.toNat ≠ a := fun z => d3 (by rw [z]; exact List.mem_cons_self)
        rcases List.mem_cons.1 c1 with e2 | c1
        · rw [e2] at c2 d1 d4
          refine ⟨p, List.mem_cons_self, by omega, fun a' ha' _ => pmax a' ha', y, y1, ?_⟩
          rw [y2, wk_u_s, wk_u_s, wk_u_n e, wk_u_n e]
          refine ⟨aT, aA, pa, by omega, fun b hb z => (hx b hb).2 (Or.inr ⟨q', d1, d6 b hb z⟩), ?_⟩
          have := hl2 q' d1
          omega
        · refine ⟨a', c1, c2, fun a'' ha'' => c3 a'' (List.mem_cons_of_mem _ ha''), q', d1, d2, fun z => d3 (List.mem_cons_of_mem _ z), d4, d5, ?_, ?_⟩
          · rw [wk_u_n e, wk_u_n hqa]; exact d6
          · rw [wk_u_n e, wk_u_n hqa]; exact d7
/-- a place closes, and those above it -/
theorem wk_T.close {a : Nat} {U T1 : List Nat} (hDS : ∀ j, D j → ∀ q ∈ S j, D q.toNat) (h : wk_T S O D N L X m (U ++ a :: T1) (a :: A)) (hmet : ∀ q ∈ S a, N q.toNat ≠ 0) {x : Int} (hx : ∀ b, b < 64 → (pz_lb x b = true ↔ O a b ∨ ∃ q ∈ S a, pz_lb (X q.toNat) b = true)) (hl2 : ∀ q ∈ S a, N a ≤ L q.toNat) : wk_T S O D N (fun j => if j = a ∨ j ∈ U then 33281 else L j) (fun j => if j = a ∨ j ∈ U then x else X j) m T1 A ∧ (A = [] → T1 = []) := by
  obtain ⟨ha, ⟨b1, b2, b3, b4⟩, hc, hd, he, hf, hg, hh⟩ := h
  obtain ⟨b5, b6⟩ := List.pairwise_cons.1 b4
  obtain ⟨-, t2, t3⟩ := List.pairwise_append.1 b2
  obtain ⟨t4, t5⟩ := List.pairwise_cons.1 t2
  have inT : ∀ j, j ∈ U ++ a :: T1 ↔ (j = a ∨ j ∈ U) ∨ j ∈ T1 := fun j => by
    rw [List.mem_append, List.mem_cons]
    constructor
    · rintro (z | z | z)
      · exact Or.inl (Or.inr z)
      · exact Or.inl (Or.inl z)
      · exact Or.inr z
    · rintro ((z | z) | z)
      · exact Or.inr (Or.inl z)
      · exact Or.inl z
      · exact Or.inr (Or.inr z)
  have Ugt : ∀ u ∈ U, N a < N u := fun u hu => t3 u hu a List.mem_cons_self
  have Tlt : ∀ t ∈ T1, N t < N a := fun t ht => t4 t ht
  have Pge : ∀ j, (j = a ∨ j ∈ U) → N a ≤ N j := fun j hj => by
    rcases hj with e | e
    · rw [e]; exact Int.le_refl _
    · have := Ugt j e; omega
  have Pin : ∀ j, j ∈ U ++ a :: T1 → N a ≤ N j → (j = a ∨ j ∈ U) := fun j hj hN => ((inT j).1 hj).resolve_right fun z => by have := Tlt j z; omega
  have PnT : ∀ j, (j = a ∨ j ∈ U) → j ∉ T1 := fun j hj z => by have := Pge j hj; have := Tlt j z; omega
  have Plow : ∀ j, N j < N a → ¬ (j = a ∨ j ∈ U) := fun j hj z => by have := Pge j z; omega
  have aT : a ∈ U ++ a :: T1 := (inT a).2 (Or.inl (Or.inl rfl))
  obtain ⟨aD, aN, -, -⟩ := b1 a aT
  have hU : ∀ u ∈ U, u ∉ a :: A := fun u hu z => by
    have := Ugt u hu
    rcases List.mem_cons.1 z with e | e
    · rw [e] at this; omega
    · have := b5 u e; omega
  have hUT : ∀ u ∈ U, u ∈ U ++ a :: T1 := fun u hu => (inT u).2 (Or.inl (Or.inr hu))
  have hrep : ∀ u ∈ U, (∀ b, b < 64 → pz_lb (X u) b = true → pz_lb x b = true) ∧ N a ≤ L u := fun u hu => by
    obtain ⟨a', c1, c2, c3, q, d1, d2, d3, d4, d5, d6, d7⟩ := hg u (hUT u hu) (hU u hu)
    have e : a' = a := by
      have h1 := c3 a List.mem_cons_self (Ugt u hu)
      rcases List.mem_cons.1 c1 with e | e
      · exact e
      · have := b5 a' e; omega
    subst e
    refine ⟨fun b hb z => (hx b hb).2 (Or.inr ⟨q, d1, d6 b hb z⟩), ?_⟩
    have := hl2 q d1
    omega
  have reach : ∀ (k : Nat) (u : Nat), u ∈ U → (N u).toNat ≤ k → wk_r S u a := by
    intro k
    induction k with
    | zero => intro u hu hk; have := (b1 u (hUT u hu)).2.2; have := Ugt u hu; have := (b1 a aT).2.2; omega
    | succ k ih =>
      intro u hu hk
      obtain ⟨-, -, d3, w, w1, w2, w3⟩ := hd u (hUT u hu) (hU u hu)
      have hN := (hrep u hu).2
      rcases Pin w w1 (by omega) with e | e
      · rw [← e]; exact w3
      · have hw := ih w e (by have := (b1 a aT).2.2; omega)
        exact w3.to hw
  have nX : ∀ j, ¬ (j = a ∨ j ∈ U) → (if j = a ∨ j ∈ U then x else X j) = X j := fun j hj => if_neg hj
  have pX : ∀ j, (j = a ∨ j ∈ U) → (if j = a ∨ j ∈ U then x else X j) = x := fun j hj => if_pos hj
  have nL : ∀ j, ¬ (j = a ∨ j ∈ U) → (if j = a ∨ j ∈ U then (33281 : Int) else L j) = L j := fun j hj => if_neg hj
  refine ⟨⟨ha, ⟨fun t ht => ?_, t5, fun t ht => ?_, b6⟩, fun j hj hj0 hjT => ?_, fun u hu huA => ?_, fun t ht => ?_, fun j hj hj0 b hb hX => ?_, fun u hu huA => ?_, ?_⟩, fun hA => ?_⟩
  · show D t ∧ N t ≠ 0 ∧ 1 ≤ (if t = a ∨ t ∈ U then _ else L t) ∧ (if t = a ∨ t ∈ U then _ else L t) ≤ N t
    rw [nL t (Plow t (Tlt t ht))]
    exact b1 t ((inT t).2 (Or.inr ht))
  · have := b5 t ht
    exact ((inT t).1 (b3 t (List.mem_cons_of_mem _ ht))).resolve_left (Plow t this)
  · show (if j = a ∨ j ∈ U then _ else L j) = _ ∧ (∀ b, b < 64 → O j b → pz_lb (if j = a ∨ j ∈ U then x else X j) b = true) ∧ ∀ q ∈ S j, N q.toNat ≠ 0 ∧ q.toNat ∉ T1 ∧ ∀ b, b < 64 → pz_lb (if q.toNat = a ∨ q.toNat ∈ U then x else X q.toNat) b = true → pz_lb (if j = a ∨ j ∈ U then x else X j) b = true
    by_cases hP : j = a ∨ j ∈ U
    · rw [if_pos hP, pX j hP]
      have hsucc : ∀ q ∈ S j, N q.toNat ≠ 0 ∧ (q.toNat ∈ U ++ a :: T1 → N a ≤ N q.toNat) ∧ (q.toNat ∉ U ++ a :: T1 → ∀ b, b < 64 → pz_lb (X q.toNat) b = true → pz_lb x b = true) := fun q hq => by
        rcases hP with e | e
        · rw [e] at hq
          exact ⟨hmet q hq, fun z => by have := hl2 q hq; have := (b1 _ z).2.2.2; omega, fun _ b hb y => (hx b hb).2 (Or.inr ⟨q, hq, y⟩)⟩
        · obtain ⟨-, d2, -⟩ := hd j (hUT j e) (hU j e)
          obtain ⟨e1, e2, e3, -⟩ := d2 q hq
          exact ⟨e1, fun z => by have := e3 z; have := (hrep j e).2; omega, fun z b hb y => (hrep j e).1 b hb (e2 z b hb y)⟩
      refine ⟨rfl, fun b hb z => ?_, fun q hq => ?_⟩
      · rcases hP with e | e
        · rw [e] at z
          exact (hx b hb).2 (Or.inl z)
        · exact (hrep j e).1 b hb ((hd j (hUT j e) (hU j e)).1 b hb z)
      · obtain ⟨s1, s2, s3⟩ := hsucc q hq
        by_cases hq2 : q.toNat ∈ U ++ a :: T1
        · have hPq := Pin _ hq2 (s2 hq2)
          refine ⟨s1, PnT _ hPq, fun b hb y => ?_⟩
          rw [pX _ hPq] at y
          exact y
        · refine ⟨s1, fun z => hq2 ((inT _).2 (Or.inr z)), fun b hb y => ?_⟩
          rw [nX _ fun z => hq2 ((inT _).2 (Or.inl z))] at y
          exact s3 hq2 b hb y
    · have hjT' : j ∉ U ++ a :: T1 := fun z => ((inT j).1 z).elim hP hjT
      obtain ⟨c1, c2, c3⟩ := hc j hj hj0 hjT'
      rw [nL j hP, nX j hP]
      refine ⟨c1, c2, fun q hq => ?_⟩
      obtain ⟨d1, d2, d3⟩ := c3 q hq
      rw [nX _ fun z => d2 ((inT _).2 (Or.inl z))]
      exact ⟨d1, fun z => d2 ((inT _).2 (Or.inr z)), d3⟩
  · have hlt := Tlt u hu
    have hua : u ∉ a :: A := fun z => by
      rcases List.mem_cons.1 z with e | e
      · rw [e] at hlt; omega
      · exact huA e
    obtain ⟨d1, d2, d3, w, w1, w2, w3⟩ := hd u ((inT u).2 (Or.inr hu)) hua
    have hun := Plow u hlt
    show (∀ b, b < 64 → O u b → pz_lb (if u = a ∨ u ∈ U then x else X u) b = true) ∧ (∀ q ∈ S u, N q.toNat ≠ 0 ∧ (q.toNat ∉ T1 → ∀ b, b < 64 → pz_lb (if q.toNat = a ∨ q.toNat ∈ U then x else X q.toNat) b = true → pz_lb (if u = a ∨ u ∈ U then x else X u) b = true) ∧ (q.toNat ∈ T1 → (if u = a ∨ u ∈ U then _ else L u) ≤ N q.toNat) ∧ ∀ a' ∈ A, N u < N a' → N q.toNat < N a') ∧ (if u = a ∨ u ∈ U then _ else L u) < N u ∧ ∃ w ∈ T1, N w = (if u = a ∨ u ∈ U then _ else L u) ∧ wk_r S u w
    rw [nX u hun, nL u hun]
    refine ⟨d1, fun q hq => ?_, d3, w, ((inT w).1 w1).resolve_left (Plow w (by omega)), w2, w3⟩
    obtain ⟨e1, e2, e3, e4⟩ := d2 q hq
    have hqn := Plow _ (e4 a List.mem_cons_self hlt)
    rw [nX _ hqn]
    exact ⟨e1, fun z => e2 fun y => ((inT _).1 y).elim hqn z, fun z => e3 ((inT _).2 (Or.inr z)), fun a' ha' => e4 a' (List.mem_cons_of_mem _ ha')⟩
  · have hn := Plow t (b5 t ht)
    show (if t = a ∨ t ∈ U then _ else L t) = N t ∧ ∀ b, b < 64 → ¬ pz_lb (if t = a ∨ t ∈ U then x else X t) b = true
    rw [nL t hn, nX t hn]
    exact he t (List.mem_cons_of_mem _ ht)
  · have hX : pz_lb (if j = a ∨ j ∈ U then x else X j) b = true := hX
    by_cases hP : j = a ∨ j ∈ U
    · rw [pX j hP] at hX
      have hRa := wk_src hDS hf aD hmet hx hb hX
      rcases hP with e | e
      · rw [e]; exact hRa
      · exact (reach _ j e (Nat.le_refl _)).to hRa
    · rw [nX j hP] at hX
      exact hf j hj hj0 b hb hX
  · have hlt := Tlt u hu
    have hua : u ∉ a :: A := fun z => by
      rcases List.mem_cons.1 z with e | e
      · rw [e] at hlt; omega
      · exact huA e
    obtain ⟨a', c1, c2, c3, q, d1, d2, d3, d4, d5, d6, d7⟩ := hg u ((inT u).2 (Or.inr hu)) hua
    have c1 := (List.mem_cons.1 c1).resolve_left fun e => by rw [e] at c2; omega
    have hun := Plow u hlt
    have hqn := Plow q.toNat (by omega)
    refine ⟨a', c1, c2, fun a'' ha'' => c3 a'' (List.mem_cons_of_mem _ ha''), q, d1, ((inT _).1 d2).resolve_left hqn, fun z => d3 (List.mem_cons_of_mem _ z), d4, d5, ?_⟩
    show (∀ b, b < 64 → pz_lb (if u = a ∨ u ∈ U then x else X u) b = true → pz_lb (if q.toNat = a ∨ q.toNat ∈ U then x else X q.toNat) b = true) ∧ (if q.toNat = a ∨ q.toNat ∈ U then _ else L q.toNat) ≤ (if u = a ∨ u ∈ U then _ else L u)
    rw [nX u hun, nX _ hqn, nL u hun, nL _ hqn]
    exact ⟨d6, d7⟩
  · cases A with
    | nil => trivial
    | cons p l => exact hh.2
  · subst hA
    cases T1 with
    | nil => rfl
    | cons t T1 =>
      exfalso
      have hlt := Tlt t List.mem_cons_self
      obtain ⟨a', c1, c2, -⟩ := hg t ((inT t).2 (Or.inr List.mem_cons_self)) fun z => by
        rw [List.mem_singleton.1 z] at hlt; omega
      rw [List.mem_singleton.1 c1] at c2
      omega
/-- when all is closed: a bit says what can come -/
theorem wk_T.done (hDS : ∀ j, D j → ∀ q ∈ S j, D q.toNat) (h : wk_T S O D N L X m [] []) {j : Nat} (hj : D j) (h0 : N j ≠ 0) {b : Nat} (hb : b < 64) : pz_lb (X j) b = true ↔ ∃ n, gx_W S (fun i => O i b) n j := by
  obtain ⟨-, -, hc, -, -, hf, -⟩ := h
  refine ⟨hf j hj h0 b hb, ?_⟩
  rintro ⟨n, hn⟩
  induction n generalizing j with
  | zero => exact (hc j hj h0 List.not_mem_nil).2.1 b hb hn
  | succ n ih =>
    obtain ⟨-, c2, c3⟩ := hc j hj h0 List.not_mem_nil
    rcases hn with z | ⟨q, q1, q2⟩
    · exact c2 b hb z
    · obtain ⟨d1, -, d3⟩ := c3 q q1
      exact d3 b hb (ih (hDS j hj q q1) d1 q2)
theorem wk_T.start (h0 : ∀ j, D j → N j = 0) : wk_T S O D N L X 0 [] [] :=
  ⟨⟨fun j hj => Or.inl (h0 j hj), fun i j hi _ hn => absurd (h0 i hi) hn⟩, ⟨fun a ha => absurd ha List.not_mem_nil, List.Pairwise.nil, fun a ha => ha, List.Pairwise.nil⟩, fun j hj hn => absurd (h0 j hj) hn, fun u hu => absurd hu List.not_mem_nil, fun a ha => absurd ha List.not_mem_nil, fun j hj hn => absurd (h0 j hj) hn, fun u hu => absurd hu List.not_mem_nil, trivial⟩
end WK
