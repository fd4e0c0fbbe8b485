/-! the states that are kept, pure -/
theorem gx_W_mono {S : Nat → List Int} {O O' : Nat → Prop} (h : ∀ i, O i → O' i) : ∀ {n j : Nat}, gx_W S O n j → gx_W S O' n j
  | 0, _, hw => h _ hw
  | n + 1, _, hw => by
    rcases hw with hw | ⟨q, q1, q2⟩
    · exact Or.inl (h _ hw)
    · exact Or.inr ⟨q, q1, gx_W_mono h q2⟩
theorem gx_p_snd {S : Nat → List Int} {O : Nat → Nat → Prop} {v : (Nat → Int) → Nat → Int} {b : Nat} (hb : b < 32) : ∀ (P : List Nat) (N : Nat → Int), (∀ j, pz_b (N j) b = true → ∃ n, gx_W S (fun j => O j b) n j) → (∀ j ∈ P, gx_v S O v j) → ∀ j, pz_b (gx_p v N P j) b = true → ∃ n, gx_W S (fun j => O j b) n j
  | [], _, h, _ => h
  | i :: P, N, h, hv => gx_p_snd hb P (gx_u v N i) (fun j hj => by
      unfold gx_u at hj
      split at hj
      · rename_i e
        subst e
        rcases ((hv j List.mem_cons_self N).2 b hb).1 hj with q | ⟨q, q1, q2⟩
        · exact ⟨0, q⟩
        · obtain ⟨n, hn⟩ := h _ q2
          exact ⟨n + 1, Or.inr ⟨q, q1, hn⟩⟩
      · exact h j hj) (fun j hj => hv j (List.mem_cons_of_mem _ hj))
/-- a place at the end of a loop's block that is not kept -/
def kp_t (l : Nat) (K : Nat → Prop) (p : Nat) : Prop := p / 256 = 122 + l ∧ ¬ K (p % 256)
def kp_O (M : ab_M) (l : Nat) (K : Nat → Prop) (j b : Nat) : Prop := ((j / 256 = 120 ∨ j / 256 = 121) ∧ False) ∨ (b = 18 ∧ kp_t l K j) ∨ (pl_fd M ((j / 256 : Nat) : Int) ((j % 256 : Nat) : Int) 1).1 = (b : Int)
theorem kp_O_18 {M : ab_M} (hp : ts_p M) (l : Nat) (K : Nat → Prop) : (fun j => kp_O M l K j 18) = kp_t l K := by
  funext j
  refine propext ⟨fun h => ?_, fun h => Or.inr (Or.inl ⟨rfl, h⟩)⟩
  have hc := pl_fd_c hp ((j / 256 : Nat) : Int) ((j % 256 : Nat) : Int) 1
  rcases h with h | h | h
  · exact h.2.elim
  · exact h.2
  · omega
theorem kp_vs {M : ab_M} (hp : ts_p M) (l : Nat) (K : Nat → Prop) {j : Nat} (h1 : j / 256 ≠ 120) (h2 : j / 256 ≠ 121) (h3 : j / 256 ≠ 122 + l) : gx_v (gc_S M 1) (kp_O M l K) (gc_v M 1) j := by
  intro N
  obtain ⟨g1, g2⟩ := gc_vs hp 1 h1 h2 N
  refine ⟨g1, fun b hb => (g2 b hb).trans ?_⟩
  unfold gx_F
  constructor
  · rintro (h | h)
    · rcases h with h | h | h
      · exact absurd h.1 h1
      · exact absurd h.1 h2
      · exact Or.inl (Or.inr (Or.inr h))
    · exact Or.inr h
  · rintro (h | h)
    · rcases h with h | h | h
      · exact h.2.elim
      · exact absurd h.2.1 h3
      · exact Or.inl (Or.inr (Or.inr h))
    · exact Or.inr h
/-- from behind the block nothing leads to its end -/
def kp_Z (M : ab_M) (l : Nat) (e : Int) (j : Nat) : Prop := j / 256 = 120 ∨ j / 256 = 121 ∨ (∃ l' : Nat, (l' : Int) < M 26 8 ∧ l' ≠ l ∧ j / 256 = 122 + l') ∨ ∃ q : Nat, gc_w M 1 j q ∧ e < (q : Int) ∧ j / 256 ≠ 122 + l
theorem kp_Z_no {M : ab_M} (hL : gc_L M) (hp : ts_p M) {l lr : Nat} (hl : (l : Int) < M 26 8) (hlr : M 392 l = (lr : Int)) {K : Nat → Prop} : ∀ (n j : Nat), kp_Z M l (M (26 + 1 + 1 + 3 * lr) 14) j → ¬ gx_W (gc_S M 1) (kp_t l K) n j := by
  have h8 := hp.2.1
  have h3 := hL.1
  have hnt : ∀ j, kp_Z M l (M (26 + 1 + 1 + 3 * lr) 14) j → ¬ kp_t l K j := fun j hj ht => by
    rcases hj with h | h | ⟨l', h1, h2, h3⟩ | ⟨q, -, -, h⟩
    · have := ht.1; omega
    · have := ht.1; omega
    · have := ht.1; omega
    · exact h ht.1
  have hsucc : ∀ j, kp_Z M l (M (26 + 1 + 1 + 3 * lr) 14) j → ∀ p ∈ gc_S M 1 j, kp_Z M l (M (26 + 1 + 1 + 3 * lr) 14) p.toNat := fun j hj p hm => by
    rcases hj with h | h | ⟨l', h1, h2, h3⟩ | ⟨q, hw, hq, h⟩
    · rw [gc_S_end (Or.inl h)] at hm; exact absurd hm List.not_mem_nil
    · rw [gc_S_end (Or.inr h)] at hm; exact absurd hm List.not_mem_nil
    · rw [gc_back_S hL hp h1 (by omega)] at hm; exact absurd hm List.not_mem_nil
    · rcases gc_succ hL hp hw hm with z | z | ⟨z1, z2, -⟩ | ⟨l', x, z1, z2, z3, z4, z5⟩ | ⟨z0, z1, l', z2, z3, z4⟩ | ⟨z0, -⟩
      · exact Or.inl z
      · exact Or.inr (Or.inl z)
      · exact Or.inr (Or.inr (Or.inr ⟨p.toNat / 256, Or.inl ⟨rfl, z2⟩, by omega, by omega⟩))
      · refine Or.inr (Or.inr (Or.inl ⟨l', z1, fun e => ?_, z2⟩))
        subst e
        have : x = lr := by omega
        subst this
        omega
      · exact Or.inr (Or.inr (Or.inr ⟨q, Or.inr (Or.inr ⟨z0, l', z2, z4, z3⟩), hq, by omega⟩))
      · exact absurd z0 (by decide)
  intro n
  induction n with
  | zero => intro j hj; exact hnt j hj
  | succ n ih =>
    intro j hj hw
    rcases hw with hw | ⟨q, q1, q2⟩
    · exact hnt j hj hw
    · exact ih _ (hsucc j hj q q1) q2
/-- the places behind a loop's row -/
def kp_D (M : ab_M) (lr j : Nat) : Prop := j / 256 = 120 ∨ j / 256 = 121 ∨ (∃ l' : Nat, (l' : Int) < M 26 8 ∧ j / 256 = 122 + l') ∨ ∃ q : Nat, lr < q ∧ gc_w M 1 j q
/-- what holds of the notes while a loop's states are kept -/
def kp_N (M : ab_M) (l : Nat) (N : Nat → Int) (K : Nat → Prop) : Prop := (∀ x : Nat, x < 256 → N ((122 + l) * 256 + x) = 0 ∧ K x ∨ N ((122 + l) * 256 + x) = 262144 ∧ ¬ K x) ∧ ∀ j, j / 256 ≠ 122 + l → pz_b (N j) 18 = true → ∃ n, gx_W (gc_S M 1) (kp_t l K) n j
theorem pz_b_18 : pz_b 262144 18 = true := by decide +kernel
theorem kp_N.snd {M : ab_M} {l : Nat} {N : Nat → Int} {K : Nat → Prop} (h : kp_N M l N K) : ∀ j, pz_b (N j) 18 = true → ∃ n, gx_W (gc_S M 1) (kp_t l K) n j := fun j hj => by
  by_cases e : j / 256 = 122 + l
  · have hx : j % 256 < 256 := Nat.mod_lt _ (by decide)
    have ej : (122 + l) * 256 + j % 256 = j := by omega
    rcases h.1 (j % 256) hx with ⟨h1, h2⟩ | ⟨h1, h2⟩
    · rw [ej] at h1
      rw [h1, pz_b_0] at hj
      exact absurd hj (by decide)
    · exact ⟨0, e, h2⟩
  · exact h.2 j e hj
/-- after a sweep over the block: bit 18 says from where a run leaves -/
theorem kp_sweep {M : ab_M} (hL : gc_L M) (hp : ts_p M) {l lr e : Nat} (hl : (l : Int) < M 26 8) (hlr : M 392 l = (lr : Int)) (he : M (26 + 1 + 1 + 3 * lr) 14 = (e : Int)) (hlre : lr ≤ e) (hen : (e : Int) < M 26 3) {N : Nat → Int} {K : Nat → Prop} (h : kp_N M l N K) :
    kp_N M l (sw_N M 1 (sw_R M ((lr + 1 : Nat) : Int) (e : Int) 1) N) K ∧ (∀ x : Nat, x < 256 → sw_N M 1 (sw_R M ((lr + 1 : Nat) : Int) (e : Int) 1) N ((122 + l) * 256 + x) = N ((122 + l) * 256 + x)) ∧ (∀ j, 33280 ≤ j → sw_N M 1 (sw_R M ((lr + 1 : Nat) : Int) (e : Int) 1) N j = N j) ∧ ∀ j, kp_D M lr j → (pz_b (sw_N M 1 (sw_R M ((lr + 1 : Nat) : Int) (e : Int) 1) N j) 18 = true ↔ ∃ n, gx_W (gc_S M 1) (kp_t l K) n j) := by
  have h8 := hp.2.1
  have h3 := hL.1
  have hk : lr + 1 ≤ e + 1 := by omega
  have hrng : ∀ r ∈ sw_R M ((lr + 1 : Nat) : Int) (e : Int) 1, 0 ≤ r ∧ r < 130 ∧ r ≠ 120 ∧ r ≠ 121 := fun r hr => sw_R_rng hL hp hen hk hr
  have hpos : ∀ r ∈ sw_R M ((lr + 1 : Nat) : Int) (e : Int) 1, 0 ≤ r := fun r hr => (hrng r hr).1
  have hback : ∀ r ∈ sw_R M ((lr + 1 : Nat) : Int) (e : Int) 1, r ≠ ((122 + l : Nat) : Int) := fun r hr q => by
    rcases (sw_R_in hen hk).1 hr with ⟨l', z1, z2, z3, z4⟩ | ⟨x, z1, z2, z3⟩
    · have : l' = l := by omega
      subst this
      omega
    · have := gc_h_rng hL hp (by omega) z3
      omega
  have hno : ∀ j : Nat, ¬ ((j / 256 : Nat) : Int) ∈ sw_R M ((lr + 1 : Nat) : Int) (e : Int) 1 → sw_N M 1 (sw_R M ((lr + 1 : Nat) : Int) (e : Int) 1) N j = N j := fun j hj => by
    rw [sw_N_p M 1 _ N hpos]
    exact gx_p_no _ _ _ fun hm => hj ((gc_P_mem hpos).1 hm)
  have hb : ∀ x : Nat, x < 256 → sw_N M 1 (sw_R M ((lr + 1 : Nat) : Int) (e : Int) 1) N ((122 + l) * 256 + x) = N ((122 + l) * 256 + x) := fun x hx => hno _ fun hm => hback _ hm (by omega)
  have hsnd : ∀ j, pz_b (sw_N M 1 (sw_R M ((lr + 1 : Nat) : Int) (e : Int) 1) N j) 18 = true → ∃ n, gx_W (gc_S M 1) (kp_t l K) n j := by
    rw [sw_N_p M 1 _ N hpos, ← kp_O_18 hp l K]
    refine gx_p_snd (O := kp_O M l K) (by decide) _ N ?_ fun j hj => ?_
    · rw [kp_O_18 hp l K]
      exact h.snd
    · have hj := (gc_P_mem hpos).1 hj
      have h1 := hrng _ hj
      have h2 := hback _ hj
      exact kp_vs hp l K (by omega) (by omega) (by omega)
  have hcl := sw_done (cut := 1) hL hp hen hk (N := N) (Or.inl rfl)
  refine ⟨⟨fun x hx => by rw [hb x hx]; exact h.1 x hx, fun j _ hj => hsnd j hj⟩, hb, fun j hj => hno j fun hm => by have := hrng _ hm; omega, fun j hj => ⟨hsnd j, ?_⟩⟩
  rintro ⟨n, hn⟩
  induction n generalizing j with
  | zero =>
    obtain ⟨h1, h2⟩ : kp_t l K j := hn
    have hx : j % 256 < 256 := Nat.mod_lt _ (by decide)
    have ej : (122 + l) * 256 + j % 256 = j := by omega
    have := hb _ hx
    rcases h.1 (j % 256) hx with ⟨-, z⟩ | ⟨z, -⟩
    · exact absurd z h2
    · rw [ej] at this z
      rw [this, z]; exact pz_b_18
  | succ n ih =>
    rcases hn with hn | ⟨q, q1, q2⟩
    · obtain ⟨h1, h2⟩ : kp_t l K j := hn
      have hx : j % 256 < 256 := Nat.mod_lt _ (by decide)
      have ej : (122 + l) * 256 + j % 256 = j := by omega
      have := hb _ hx
      rcases h.1 (j % 256) hx with ⟨-, z⟩ | ⟨z, -⟩
      · exact absurd z h2
      · rw [ej] at this z
        rw [this, z]; exact pz_b_18
    · rcases hj with z | z | ⟨l', z1, z2⟩ | ⟨x, z1, z2⟩
      · rw [gc_S_end (Or.inl z)] at q1; exact absurd q1 List.not_mem_nil
      · rw [gc_S_end (Or.inr z)] at q1; exact absurd q1 List.not_mem_nil
      · rw [gc_back_S hL hp z1 (by omega)] at q1; exact absurd q1 List.not_mem_nil
      · have hxn := gc_w_lt hL z2
        have hto := gc_succ hL hp z2 q1
        have hDq : kp_D M lr q.toNat := by
          rcases hto with y | y | ⟨y1, y2, -⟩ | ⟨l', x', y1, y2, y3, y4, y5⟩ | ⟨y0, y1, l', y2, y3, y4⟩ | ⟨y0, -⟩
          · exact Or.inl y
          · exact Or.inr (Or.inl y)
          · exact Or.inr (Or.inr (Or.inr ⟨q.toNat / 256, by omega, Or.inl ⟨rfl, y2⟩⟩))
          · exact Or.inr (Or.inr (Or.inl ⟨l', y1, y2⟩))
          · exact Or.inr (Or.inr (Or.inr ⟨x, z1, Or.inr (Or.inr ⟨y0, l', y2, y4, y3⟩)⟩))
          · exact absurd y0 (by decide)
        have hbit := ih q.toNat hDq q2
        by_cases hxe : x ≤ e
        · refine hcl j ?_ 18 (by decide) (Or.inr ⟨q, q1, hbit⟩)
          refine (sw_R_in hen hk).2 ?_
          rcases z2 with ⟨y1, y2⟩ | ⟨l', y1, y2, y3⟩ | ⟨y0, l', y1, y2, y3⟩
          · exact Or.inr ⟨x, by omega, hxe, Or.inl (by omega)⟩
          · exact Or.inl ⟨l', y1, by omega, by omega, by omega⟩
          · obtain ⟨w, u1, u2, u3, u4⟩ := hL.2.2.2.1 l' y1
            have : x = w := by omega
            subst this
            exact Or.inr ⟨x, by omega, hxe, Or.inr ⟨rfl, u3, by omega⟩⟩
        · by_cases hb2 : j / 256 = 122 + l
          · rw [gc_back_S hL hp hl (by omega)] at q1; exact absurd q1 List.not_mem_nil
          · exact absurd (Or.inr ⟨q, q1, q2⟩ : gx_W (gc_S M 1) (kp_t l K) (n + 1) j) (kp_Z_no hL hp hl hlr (n + 1) j (Or.inr (Or.inr (Or.inr ⟨x, z2, by omega, hb2⟩))))
/-- the states that are kept after so many rounds -/
def kp_K (M : ab_M) (l : Nat) (g t1 t2 : Int) : Nat → Nat → Prop
  | 0 => fun x => ¬ tv M t2 (x : Int) = 0
  | i + 1 => fun x => kp_K M l g t1 t2 i x ∧ ¬ (¬ tv M t1 (x : Int) = 0 ∧ ∃ n, gx_W (gc_S M 1) (kp_t l (kp_K M l g t1 t2 i)) n (g * 256 + (x : Int)).toNat)
theorem kp_K_fr {M M1 : ab_M} (h : ts_e M M1) (hp : ts_p M) (l : Nat) (g t1 t2 : Int) : ∀ i, kp_K M1 l g t1 t2 i = kp_K M l g t1 t2 i
  | 0 => by
    funext x
    show (¬ tv M1 t2 (x : Int) = 0) = (¬ tv M t2 (x : Int) = 0)
    rw [ts_e_tv h]
  | i + 1 => by
    funext x
    show (kp_K M1 l g t1 t2 i x ∧ ¬ (¬ tv M1 t1 (x : Int) = 0 ∧ ∃ n, gx_W (gc_S M1 1) (kp_t l (kp_K M1 l g t1 t2 i)) n (g * 256 + (x : Int)).toNat)) = _
    rw [kp_K_fr h hp l g t1 t2 i, ts_e_tv h, (gc_fr h hp 1).1]
    rfl
/-- a round: a sweep, then those that leave go -/
theorem kp_round {M M2 : ab_M} (hL : gc_L M) (hp : ts_p M) {l lr : Nat} {r : Int} {i : Nat} (hl : (l : Int) < M 26 8) (hlr : M 392 l = (lr : Int)) (hlrn : (lr : Int) < M 26 3)
    (hN : kp_N M l (M 774) (kp_K M l (M (26 + 1 + 1 + 3 * lr) 17) (M (26 + 1 + 1 + 3 * lr) 2) (M (26 + 1 + 1 + 3 * lr) 3) i)) (hD : ∀ j, kp_D M lr j → (pz_b (M 774 j) 18 = true ↔ ∃ n, gx_W (gc_S M 1) (kp_t l (kp_K M l (M (26 + 1 + 1 + 3 * lr) 17) (M (26 + 1 + 1 + 3 * lr) 2) (M (26 + 1 + 1 + 3 * lr) 3) i)) n j))
    (hR : rl_I M M2 (26 + 1 + 1 + 3 * lr) (((122 + l : Nat) : Int) * 256) r 256) :
    kp_N M l (M2 774) (kp_K M l (M (26 + 1 + 1 + 3 * lr) 17) (M (26 + 1 + 1 + 3 * lr) 2) (M (26 + 1 + 1 + 3 * lr) 3) (i + 1)) ∧ (r = 0 ∧ M2 774 = M 774 ∧ (∀ x : Nat, x < 256 → kp_K M l (M (26 + 1 + 1 + 3 * lr) 17) (M (26 + 1 + 1 + 3 * lr) 2) (M (26 + 1 + 1 + 3 * lr) 3) i x → kp_K M l (M (26 + 1 + 1 + 3 * lr) 17) (M (26 + 1 + 1 + 3 * lr) 2) (M (26 + 1 + 1 + 3 * lr) 3) (i + 1) x) ∨ r = 1 ∧ ∃ x : Nat, x < 256 ∧ kp_K M l (M (26 + 1 + 1 + 3 * lr) 17) (M (26 + 1 + 1 + 3 * lr) 2) (M (26 + 1 + 1 + 3 * lr) 3) i x ∧ ¬ kp_K M l (M (26 + 1 + 1 + 3 * lr) 17) (M (26 + 1 + 1 + 3 * lr) 2) (M (26 + 1 + 1 + 3 * lr) 3) (i + 1) x) := by
  have h8 := hp.2.1
  have h3 := hL.1
  have hgo : ∀ x : Nat, x < 256 → kp_D M lr (M (26 + 1 + 1 + 3 * lr) 17 * 256 + (x : Int)).toNat := fun x hx => by
    rcases (hL.2.1 lr hlrn).1 with z | z | z | ⟨l', q, z1, z2, z3, z4, z5⟩
    · exact Or.inr (Or.inr (Or.inr ⟨(M (26 + 1 + 1 + 3 * lr) 17).toNat, by omega, Or.inl ⟨by omega, by omega⟩⟩))
    · exact Or.inl (by omega)
    · exact Or.inr (Or.inl (by omega))
    · exact Or.inr (Or.inr (Or.inl ⟨l', z2, by omega⟩))
  obtain ⟨r1, r2, r3⟩ := hR
  have hc : ∀ x : Nat, x < 256 → (rl_c M (26 + 1 + 1 + 3 * lr) (((122 + l : Nat) : Int) * 256) x ↔ kp_K M l (M (26 + 1 + 1 + 3 * lr) 17) (M (26 + 1 + 1 + 3 * lr) 2) (M (26 + 1 + 1 + 3 * lr) 3) i x ∧ ¬ kp_K M l (M (26 + 1 + 1 + 3 * lr) 17) (M (26 + 1 + 1 + 3 * lr) 2) (M (26 + 1 + 1 + 3 * lr) 3) (i + 1) x) := fun x hx => by
    have hiff := hD _ (hgo x hx)
    have e : (((122 + l : Nat) : Int) * 256 + (x : Int)).toNat = (122 + l) * 256 + x := by omega
    constructor
    · rintro ⟨y1, y2, y3⟩
      rw [e] at y2
      have hK : kp_K M l (M (26 + 1 + 1 + 3 * lr) 17) (M (26 + 1 + 1 + 3 * lr) 2) (M (26 + 1 + 1 + 3 * lr) 3) i x := by
        rcases hN.1 x hx with z | z
        · exact z.2
        · rw [z.1] at y2
          exact absurd y2 (by decide)
      exact ⟨hK, fun z => z.2 ⟨y3, hiff.1 y1⟩⟩
    · rintro ⟨y1, y2⟩
      have y3 : (¬ tv M (M (26 + 1 + 1 + 3 * lr) 2) (x : Int) = 0 ∧ ∃ n, gx_W (gc_S M 1) (kp_t l (kp_K M l (M (26 + 1 + 1 + 3 * lr) 17) (M (26 + 1 + 1 + 3 * lr) 2) (M (26 + 1 + 1 + 3 * lr) 3) i)) n (M (26 + 1 + 1 + 3 * lr) 17 * 256 + (x : Int)).toNat) := Classical.byContradiction fun z => y2 ⟨y1, z⟩
      refine ⟨hiff.2 y3.2, ?_, y3.1⟩
      rw [e]
      rcases hN.1 x hx with z | z
      · exact z.1
      · exact absurd y1 z.2
  have hrow : ∀ j, j / 256 ≠ 122 + l → M2 774 j = M 774 j := fun j hj => r1 774 j fun ⟨_, x, x1, x2, _⟩ => hj (by omega)
  refine ⟨⟨fun x hx => ?_, fun j hj hb => ?_⟩, ?_⟩
  · have e : (((122 + l : Nat) : Int) * 256 + (x : Int)).toNat = (122 + l) * 256 + x := by omega
    by_cases q : rl_c M (26 + 1 + 1 + 3 * lr) (((122 + l : Nat) : Int) * 256) x
    · have := r2 x hx q
      rw [e] at this
      exact Or.inr ⟨this, ((hc x hx).1 q).2⟩
    · have hM : M2 774 ((122 + l) * 256 + x) = M 774 ((122 + l) * 256 + x) := r1 774 _ fun ⟨_, y, y1, y2, y3⟩ => by
        have : y = x := by omega
        subst this
        exact q y3
      rw [hM]
      rcases hN.1 x hx with z | z
      · refine Or.inl ⟨z.1, Classical.byContradiction fun w => q ((hc x hx).2 ⟨z.2, w⟩)⟩
      · exact Or.inr ⟨z.1, fun w => z.2 w.1⟩
  · rw [hrow j hj] at hb
    obtain ⟨n, hn⟩ := hN.2 j hj hb
    exact ⟨n, gx_W_mono (fun p hp => ⟨hp.1, fun w => hp.2 w.1⟩) hn⟩
  · rcases r3 with ⟨r3, r4⟩ | ⟨r3, x, x1, x2⟩
    · refine Or.inl ⟨r3, funext fun j => r1 774 j fun ⟨_, x, x1, _, x3⟩ => r4 x x1 x3, fun x hx hK => ?_⟩
      exact Classical.byContradiction fun w => r4 x hx ((hc x hx).2 ⟨hK, w⟩)
    · exact Or.inr ⟨r3, x, x1, (hc x x1).1 x2⟩
/-- how many are kept -/
def kp_m (N : Nat → Int) (l : Nat) : Nat := gx_m (fun x => decide (N ((122 + l) * 256 + x) = 0)) 256
theorem kp_m_lt {M : ab_M} {l : Nat} {N N' : Nat → Int} {K K' : Nat → Prop} (h : kp_N M l N K) (h' : kp_N M l N' K') (hs : ∀ x, K' x → K x) (hx : ∃ x : Nat, x < 256 ∧ K x ∧ ¬ K' x) : kp_m N' l < kp_m N l := by
  have e : ∀ {N : Nat → Int} {K : Nat → Prop}, kp_N M l N K → ∀ x : Nat, x < 256 → (decide (N ((122 + l) * 256 + x) = 0) = true ↔ K x) := fun h x hx => by
    rw [decide_eq_true_iff]
    rcases h.1 x hx with z | z
    · exact ⟨fun _ => z.2, fun _ => z.1⟩
    · exact ⟨fun q => by rw [z.1] at q; exact absurd q (by decide), fun q => absurd q z.2⟩
  obtain ⟨x, x1, x2, x3⟩ := hx
  exact gx_m_lt 256 (fun y hy q => (e h y hy).2 (hs y ((e h' y hy).1 q))) ⟨x, x1, (e h x x1).2 x2, fun q => x3 ((e h' x x1).1 q)⟩

