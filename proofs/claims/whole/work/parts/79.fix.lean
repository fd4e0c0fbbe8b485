/-! bits of words; the least notes of a graph -/
/-- a bit of a word -/
def pz_b (x : Int) (b : Nat) : Bool := (Int32.ofInt x).toBitVec.getLsbD b
theorem pz_b_or (x y : Int) (b : Nat) : pz_b (ab_or x y) b = (pz_b x b || pz_b y b) := by
  unfold pz_b ab_or
  rw [Int32.ofInt_toInt, Int32.toBitVec_or, BitVec.getLsbD_or]
theorem pz_b_and (x y : Int) (b : Nat) : pz_b (ab_and x y) b = (pz_b x b && pz_b y b) := by
  unfold pz_b ab_and
  rw [Int32.ofInt_toInt, Int32.toBitVec_and, BitVec.getLsbD_and]
theorem pz_b_0 (b : Nat) : pz_b 0 b = false := by
  unfold pz_b
  rw [show (Int32.ofInt 0).toBitVec = 0#32 from rfl, BitVec.getLsbD_zero]
theorem pz_b_1 {b : Nat} (h : b < 32) : pz_b 1 b = decide (b = 0) := by
  have key : ∀ b : Fin 32, pz_b 1 b.val = decide (b.val = 0) := by decide +kernel
  exact key ⟨b, h⟩
theorem pz_b_shl {c : Int} {b : Nat} (h0 : 0 ≤ c) (h1 : c < 32) (hb : b < 32) : pz_b (ab_shl 1 c) b = decide ((b : Int) = c) := by
  have key : ∀ c b : Fin 32, pz_b (ab_shl 1 ((c.val : Nat) : Int)) b.val = decide (b.val = c.val) := by decide +kernel
  have := key ⟨c.toNat, by omega⟩ ⟨b, hb⟩
  rw [show (((⟨c.toNat, by omega⟩ : Fin 32).val : Nat) : Int) = c from Int.toNat_of_nonneg h0] at this
  rw [this]
  exact decide_eq_decide.2 ⟨fun q => by have : b = c.toNat := q; omega, fun q => by show b = c.toNat; omega⟩
theorem pz_b_ext {x y : Int} (hx : ab_ir x) (hy : ab_ir y) (h : ∀ b, b < 32 → pz_b x b = pz_b y b) : x = y := by
  have e : Int32.ofInt x = Int32.ofInt y := Int32.toBitVec_inj.1 (BitVec.eq_of_getLsbD_eq fun i hi => h i hi)
  exact (ab_ieq hx hy).1 e
theorem ab_and_ir (x y : Int) : ab_ir (ab_and x y) := ⟨Int32.le_toInt _, Int32.toInt_lt _⟩
/-- what the class asks of a bit -/
theorem pz_b_can {x b : Int} (h0 : 0 ≤ b) (h1 : b < 32) : (¬ ab_and x (ab_shl 1 b) = 0) ↔ pz_b x b.toNat = true := by
  refine ⟨fun h => ?_, fun h e => ?_⟩
  · cases e : pz_b x b.toNat with
    | true => rfl
    | false =>
      refine absurd (pz_b_ext (ab_and_ir _ _) ⟨by decide, by decide⟩ fun i hi => ?_) h
      rw [pz_b_and, pz_b_0, pz_b_shl h0 h1 hi]
      by_cases q : (i : Int) = b
      · rw [show i = b.toNat by omega, e]; rfl
      · rw [decide_eq_false q, Bool.and_false]
  · have : pz_b (ab_and x (ab_shl 1 b)) b.toNat = false := by rw [e, pz_b_0]
    rw [pz_b_and, h, pz_b_shl h0 h1 (by omega), decide_eq_true (by omega)] at this
    exact absurd this (by decide)
theorem pz_b_shr {x k : Int} (h0 : 0 ≤ k) (h1 : k < 32) : pz_b (ab_shr x k) 0 = pz_b x k.toNat := by
  have key : ∀ k : Fin 32, ((Int32.ofInt ((k.val : Nat) : Int) &&& 31).toBitVec.smod 32).toNat = k.val := by decide +kernel
  have hk := key ⟨k.toNat, by omega⟩
  rw [show (((⟨k.toNat, by omega⟩ : Fin 32).val : Nat) : Int) = k from Int.toNat_of_nonneg h0] at hk
  unfold pz_b ab_shr
  rw [Int32.ofInt_toInt, Int32.toBitVec_shiftRight, BitVec.sshiftRight_eq', hk, BitVec.getLsbD_sshiftRight]
  show (!decide (32 ≤ 0) && if k.toNat + 0 < 32 then _ else _) = _
  rw [if_pos (by omega)]
  rfl
/-- what the reference asks of a bit -/
theorem pz_b_has {x k : Int} (h0 : 0 ≤ k) (h1 : k < 32) : ab_and (ab_shr x k) 1 = if pz_b x k.toNat = true then 1 else 0 := by
  refine pz_b_ext (ab_and_ir _ _) (by split <;> exact ⟨by decide, by decide⟩) fun i hi => ?_
  rw [pz_b_and, pz_b_1 hi]
  by_cases q : i = 0
  · rw [q, pz_b_shr h0 h1]
    cases pz_b x k.toNat <;> decide
  · rw [decide_eq_false q, Bool.and_false]
    split
    · rw [pz_b_1 hi, decide_eq_false q]
    · rw [pz_b_0]
/-! notes -/
def gx_F (S : Nat → List Int) (O : Nat → Nat → Prop) (N : Nat → Int) (j b : Nat) : Prop := O j b ∨ ∃ q ∈ S j, pz_b (N q.toNat) b = true
/-- whether a place leads to one of its own in so many steps -/
def gx_W (S : Nat → List Int) (O : Nat → Prop) : Nat → Nat → Prop
  | 0, j => O j
  | n + 1, j => O j ∨ ∃ q ∈ S j, gx_W S O n q.toNat
def gx_u (v : (Nat → Int) → Nat → Int) (N : Nat → Int) (j : Nat) : Nat → Int := fun i => if i = j then v N j else N i
def gx_p (v : (Nat → Int) → Nat → Int) (N : Nat → Int) (P : List Nat) : Nat → Int := P.foldl (gx_u v) N
/-- each bit comes from somewhere, and is there again after a turn -/
def gx_ok (S : Nat → List Int) (O : Nat → Nat → Prop) (N : Nat → Int) : Prop := (∀ j b, b < 32 → pz_b (N j) b = true → ∃ n, gx_W S (fun j => O j b) n j) ∧ (∀ j b, b < 32 → pz_b (N j) b = true → gx_F S O N j b) ∧ ∀ j, ab_ir (N j)
/-- a row of a turn says what it must -/
def gx_v (S : Nat → List Int) (O : Nat → Nat → Prop) (v : (Nat → Int) → Nat → Int) (j : Nat) : Prop := ∀ N : Nat → Int, ab_ir (v N j) ∧ ∀ b, b < 32 → (pz_b (v N j) b = true ↔ gx_F S O N j b)
theorem gx_W_le {S : Nat → List Int} {O : Nat → Prop} {n m : Nat} (h : n ≤ m) : ∀ {j : Nat}, gx_W S O n j → gx_W S O m j := by
  induction m generalizing n with
  | zero => intro j hj; rw [show n = 0 by omega] at hj; exact hj
  | succ m ih =>
    intro j hj
    cases n with
    | zero => exact Or.inl hj
    | succ n =>
      rcases hj with q | ⟨q, q1, q2⟩
      · exact Or.inl q
      · exact Or.inr ⟨q, q1, ih (by omega) q2⟩
theorem gx_W_own {S : Nat → List Int} {O : Nat → Prop} {j : Nat} (h : O j) (n : Nat) : gx_W S O n j := gx_W_le (Nat.zero_le n) h
theorem gx_F_le {S : Nat → List Int} {O : Nat → Nat → Prop} {N N' : Nat → Int} {j b : Nat} (h : ∀ i, pz_b (N i) b = true → pz_b (N' i) b = true) (hF : gx_F S O N j b) : gx_F S O N' j b := by
  rcases hF with q | ⟨q, q1, q2⟩
  · exact Or.inl q
  · exact Or.inr ⟨q, q1, h _ q2⟩
theorem gx_u_up {S : Nat → List Int} {O : Nat → Nat → Prop} {v : (Nat → Int) → Nat → Int} {N : Nat → Int} {j : Nat} (h : gx_ok S O N) (hv : gx_v S O v j) (i b : Nat) (hb : b < 32) (hi : pz_b (N i) b = true) : pz_b (gx_u v N j i) b = true := by
  unfold gx_u
  split
  · rename_i e
    subst e
    exact ((hv N).2 b hb).2 (h.2.1 i b hb hi)
  · exact hi
theorem gx_u_ok {S : Nat → List Int} {O : Nat → Nat → Prop} {v : (Nat → Int) → Nat → Int} {N : Nat → Int} {j : Nat} (h : gx_ok S O N) (hv : gx_v S O v j) : gx_ok S O (gx_u v N j) := by
  have hup := fun b hb i => gx_u_up h hv i b hb
  refine ⟨fun i b hb hi => ?_, fun i b hb hi => gx_F_le (hup b hb) ?_, fun i => ?_⟩
  · unfold gx_u at hi
    split at hi
    · rename_i e
      subst e
      rcases ((hv N).2 b hb).1 hi with q | ⟨q, q1, q2⟩
      · exact ⟨0, q⟩
      · obtain ⟨n, hn⟩ := h.1 _ b hb q2
        exact ⟨n + 1, Or.inr ⟨q, q1, hn⟩⟩
    · exact h.1 i b hb hi
  · unfold gx_u at hi
    split at hi
    · rename_i e
      subst e
      exact ((hv N).2 b hb).1 hi
    · exact h.2.1 i b hb hi
  · unfold gx_u
    split
    · exact (hv N).1
    · exact h.2.2 i
theorem gx_p_ok {S : Nat → List Int} {O : Nat → Nat → Prop} {v : (Nat → Int) → Nat → Int} : ∀ (P : List Nat) (N : Nat → Int), gx_ok S O N → (∀ j ∈ P, gx_v S O v j) → gx_ok S O (gx_p v N P) ∧ ∀ i b, b < 32 → pz_b (N i) b = true → pz_b (gx_p v N P i) b = true
  | [], _, h, _ => ⟨h, fun _ _ _ q => q⟩
  | j :: P, N, h, hv => by
    obtain ⟨g1, g2⟩ := gx_p_ok P (gx_u v N j) (gx_u_ok h (hv j List.mem_cons_self)) (fun i hi => hv i (List.mem_cons_of_mem _ hi))
    exact ⟨g1, fun i b hb q => g2 i b hb (gx_u_up h (hv j List.mem_cons_self) i b hb q)⟩
theorem gx_p_app (v : (Nat → Int) → Nat → Int) (N : Nat → Int) (P Q : List Nat) : gx_p v N (P ++ Q) = gx_p v (gx_p v N P) Q := List.foldl_append
theorem gx_p_no {v : (Nat → Int) → Nat → Int} : ∀ (P : List Nat) (N : Nat → Int) (i : Nat), i ∉ P → gx_p v N P i = N i
  | [], _, _, _ => rfl
  | j :: P, N, i, h => by
    have h1 : i ≠ j := fun e => h (by rw [e]; exact List.mem_cons_self)
    show gx_p v (gx_u v N j) P i = _
    rw [gx_p_no P _ i (fun q => h (List.mem_cons_of_mem _ q))]
    exact if_neg h1
/-- all that must be there is there -/
def gx_cl (S : Nat → List Int) (O : Nat → Nat → Prop) (N : Nat → Int) (j : Nat) : Prop := ∀ b, b < 32 → gx_F S O N j b → pz_b (N j) b = true
theorem gx_cl_pass {S : Nat → List Int} {O : Nat → Nat → Prop} {v : (Nat → Int) → Nat → Int} {N : Nat → Int} {A B : List Nat} {j : Nat} (hv : gx_v S O v j) (hj : j ∉ B) (hq : ∀ q ∈ S j, q.toNat ≠ j ∧ q.toNat ∉ B) : gx_cl S O (gx_p v N (A ++ j :: B)) j := by
  intro b hb hF
  rw [gx_p_app] at hF ⊢
  have e : ∀ i, i ∉ B → gx_p v (gx_p v N A) (j :: B) i = gx_u v (gx_p v N A) j i := fun i hi => gx_p_no B _ i hi
  rw [e j hj]
  unfold gx_u
  rw [if_pos rfl]
  refine ((hv _).2 b hb).2 ?_
  rcases hF with q | ⟨q, q1, q2⟩
  · exact Or.inl q
  · rw [e _ (hq q q1).2, gx_u, if_neg (hq q q1).1] at q2
    exact Or.inr ⟨q, q1, q2⟩
theorem gx_cl_same {S : Nat → List Int} {O : Nat → Nat → Prop} {v : (Nat → Int) → Nat → Int} {N : Nat → Int} {j : Nat} (hv : gx_v S O v j) (h : v N j = N j) : gx_cl S O N j := fun b hb hF => by
  rw [← h]
  exact ((hv N).2 b hb).2 hF
theorem gx_cl_fr {S : Nat → List Int} {O : Nat → Nat → Prop} {N N' : Nat → Int} {j : Nat} (h : gx_cl S O N j) (h1 : N' j = N j) (h2 : ∀ q ∈ S j, N' q.toNat = N q.toNat) : gx_cl S O N' j := by
  intro b hb hF
  rw [h1]
  refine h b hb ?_
  rcases hF with q | ⟨q, q1, q2⟩
  · exact Or.inl q
  · rw [h2 q q1] at q2
    exact Or.inr ⟨q, q1, q2⟩
/-- where all is there, a bit says whether the place leads to its own -/
theorem gx_iff {S : Nat → List Int} {O : Nat → Nat → Prop} {N : Nat → Int} {D : Nat → Prop} (h : gx_ok S O N) (hD : ∀ j, D j → gx_cl S O N j ∧ ∀ q ∈ S j, D q.toNat) {j b : Nat} (hb : b < 32) (hj : D j) : pz_b (N j) b = true ↔ ∃ n, gx_W S (fun j => O j b) n j := by
  refine ⟨h.1 j b hb, ?_⟩
  rintro ⟨n, hn⟩
  induction n generalizing j with
  | zero => exact (hD j hj).1 b hb (Or.inl hn)
  | succ n ih =>
    rcases hn with q | ⟨q, q1, q2⟩
    · exact (hD j hj).1 b hb (Or.inl q)
    · exact (hD j hj).1 b hb (Or.inr ⟨q, q1, ih ((hD j hj).2 q q1) q2⟩)
/-! how many bits there are -/
def gx_m (f : Nat → Bool) : Nat → Nat
  | 0 => 0
  | k + 1 => gx_m f k + if f k = true then 1 else 0
theorem gx_m_bd (f : Nat → Bool) : ∀ k, gx_m f k ≤ k
  | 0 => Nat.le_refl _
  | k + 1 => by
    have := gx_m_bd f k
    show gx_m f k + (if f k = true then 1 else 0) ≤ k + 1
    split <;> omega
theorem gx_m_le {f g : Nat → Bool} : ∀ k, (∀ x, x < k → f x = true → g x = true) → gx_m f k ≤ gx_m g k
  | 0, _ => Nat.le_refl _
  | k + 1, h => by
    have := gx_m_le k (fun x hx => h x (by omega))
    show gx_m f k + (if f k = true then 1 else 0) ≤ gx_m g k + (if g k = true then 1 else 0)
    by_cases q : f k = true
    · rw [if_pos q, if_pos (h k (by omega) q)]; omega
    · rw [if_neg q]; omega
theorem gx_m_lt {f g : Nat → Bool} : ∀ k, (∀ x, x < k → f x = true → g x = true) → (∃ x, x < k ∧ g x = true ∧ ¬ f x = true) → gx_m f k < gx_m g k
  | 0, _, h => absurd h.choose_spec.1 (Nat.not_lt_zero _)
  | k + 1, h, ⟨x, h1, h2, h3⟩ => by
    have h4 := gx_m_le k (fun x hx => h x (by omega))
    show gx_m f k + (if f k = true then 1 else 0) < gx_m g k + (if g k = true then 1 else 0)
    by_cases e : x = k
    · subst e
      rw [if_neg h3, if_pos h2]; omega
    · have := gx_m_lt k (fun x hx => h x (by omega)) ⟨x, by omega, h2, h3⟩
      by_cases q : f k = true
      · rw [if_pos q, if_pos (h k (by omega) q)]; omega
      · rw [if_neg q]; omega
/-- the bits of the first notes -/
def gx_c (K : Nat) (N : Nat → Int) : Nat := gx_m (fun x => pz_b (N (x / 18)) (x % 18)) (18 * K)
theorem gx_c_le {K : Nat} {N N' : Nat → Int} (h : ∀ i b, b < 32 → pz_b (N i) b = true → pz_b (N' i) b = true) : gx_c K N ≤ gx_c K N' := gx_m_le _ fun x _ q => h _ _ (by have := Nat.mod_lt x (show 0 < 18 by decide); omega) q
theorem gx_c_lt {K : Nat} {N N' : Nat → Int} (h : ∀ i b, b < 32 → pz_b (N i) b = true → pz_b (N' i) b = true) {j : Nat} (hj : j < K) (h18 : ∀ i b, b < 32 → pz_b (N' i) b = true → b < 18) (h1 : ab_ir (N j)) (h2 : ab_ir (N' j)) (hne : ¬ N' j = N j) : gx_c K N < gx_c K N' := by
  have hex : ∃ b, b < 32 ∧ pz_b (N' j) b = true ∧ ¬ pz_b (N j) b = true := by
    refine Classical.byContradiction fun q => hne (pz_b_ext h2 h1 fun b hb => ?_)
    cases e : pz_b (N j) b with
    | true => exact h j b hb e
    | false =>
      cases e' : pz_b (N' j) b with
      | false => rfl
      | true => exact absurd ⟨b, hb, e', by rw [e]; decide⟩ q
  obtain ⟨b, hb, g1, g2⟩ := hex
  have hb18 := h18 j b hb g1
  refine gx_m_lt _ (fun x _ q => h _ _ (by have := Nat.mod_lt x (show 0 < 18 by decide); omega) q) ⟨18 * j + b, by omega, ?_, ?_⟩
  · show pz_b (N' ((18 * j + b) / 18)) ((18 * j + b) % 18) = true
    rw [show (18 * j + b) / 18 = j by omega, show (18 * j + b) % 18 = b by omega]
    exact g1
  · show ¬ pz_b (N ((18 * j + b) / 18)) ((18 * j + b) % 18) = true
    rw [show (18 * j + b) / 18 = j by omega, show (18 * j + b) % 18 = b by omega]
    exact g2
