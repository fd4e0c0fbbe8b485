/-! a statement of the passive form -/
set_option maxRecDepth 20000 in
theorem vc_X0_traverseStatement_0 (hs : Nat) (hb : Nat) (he : hs = hb + 1) (s : Nat) (nn : Nat) (LL : Int) (cat : Int) (dep : Int) (M : ab_M) (K : List ab_V → ab_M → Prop) (hS : (∃ P : pz_P, ∃ a : pz_T, ∃ b : pz_T, ∃ R : Nat, ∃ nx : Int, ∃ pv : Int, ∃ V : ps_V, ∃ s0 : ps_S, ∃ th : List ps_V, (s = 26 + 1 + 1 + 3 * R ∧ ps_row M P R a b nx pv ∧ (ps_Q M a (R + 1) (-1) ∧ ps_Q M b (R + 1 + pz_sz a) (-1)) ∧ (0 ≤ dep ∧ dep + ((Nat.max (pz_ht a) (pz_ht b) : Nat) : Int) + 1 ≤ 40 ∧ Nat.max (pz_ht a) (pz_ht b) + 1 ≤ hs) ∧ (LL = pk V ∧ ps_bd V s0 ∧ ps_M M s0 ∧ ps_x s0 (2 * (1 + (pz_sz a + pz_sz b)))) ∧ ps_c M cat dep th (1 + (pz_sz a + pz_sz b)) ∧ ps_pm M) ∧ (∀ rx : Int, ∀ Mx : ab_M, (ps_M Mx (ps_P P (pz_md a) (ps_t a) (ps_t b) V s0).1 ∧ ps_F M Mx dep cat ∧ (0 ≤ cat → th_R Mx (th ++ (ps_P P (pz_md a) (ps_t a) (ps_t b) V s0).2.2) cat.toNat)) → (rx = pe (ps_P P (pz_md a) (ps_t a) (ps_t b) V s0).2.1) → K [Xl rx] Mx))) : (ab_ir (M s 3) ∧ M 26 11 ≤ 64 ∧ 0 ≤ M 26 11) ∧ (∀ r8 : Int, (r8 = if 0 ≤ (M s 3) ∧ (M s 3) < M 26 11 then M 394 (M s 3).toNat else 0) → (ab_ir (M s 2) ∧ M 26 11 ≤ 64 ∧ 0 ≤ M 26 11) ∧ (∀ r27 : Int, (r27 = if 0 ≤ (M s 2) ∧ (M s 2) < M 26 11 then M 394 (M s 2).toNat else 0) → (ab_ir (M s 0)) ∧ (∀ r32 : Int, (r32 = if M s 0 = 119 then 1 else 0) → (ab_ir r32) ∧ ((r32 = 0 → (ab_ir ((ab_up M 790 3 ((M 790 3) + (((1 : Int) + r27) + r8))) s 0)) ∧ ((((ab_up M 790 3 ((M 790 3) + (((1 : Int) + r27) + r8))) s 0) = 104 → (∃ V_152 : ps_V, ∃ st_152 : ps_S, (LL = pk V_152 ∧ pk_ok V_152 ∧ ps_M (ab_up M 790 3 ((M 790 3) + (((1 : Int) + r27) + r8))) st_152 ∧ ps_g st_152) ∧ (∀ r152 : Int, ∀ M152 : ab_M, (ps_M M152 (ps_rn st_152 V_152 (fun v => pz_b (ab_shl (1 : Int) ((ab_up M 790 3 ((M 790 3) + (((1 : Int) + r27) + r8))) s 1)) v)).1 ∧ ps_N (ab_up M 790 3 ((M 790 3) + (((1 : Int) + r27) + r8))) M152) → (r152 = pk (ps_rn st_152 V_152 (fun v => pz_b (ab_shl (1 : Int) ((ab_up M 790 3 ((M 790 3) + (((1 : Int) + r27) + r8))) s 1)) v)).2) → K [Xl r152] M152))) ∧ (¬ ((ab_up M 790 3 ((M 790 3) + (((1 : Int) + r27) + r8))) s 0) = 104 → ((((ab_up M 790 3 ((M 790 3) + (((1 : Int) + r27) + r8))) s 0) = 105 → (0 ≤ (0 : Int) ∧ (0 : Int) < ((2 : Nat) : Int)) ∧ (∃ t_181 : pz_T, ∃ r0_181 : Nat, ∃ V_181 : ps_V, ∃ s0_181 : ps_S, ∃ th_181 : List ps_V, (ps_Q (ab_up M 790 3 ((M 790 3) + (((1 : Int) + r27) + r8))) t_181 r0_181 (-1) ∧ ((ab_up M 790 3 ((M 790 3) + (((1 : Int) + r27) + r8))) (s + 1) 0) = cr_fs t_181 r0_181 ∧ (0 ≤ (dep + (1 : Int)) ∧ (dep + (1 : Int)) + ((pz_ht t_181 : Nat) : Int) ≤ 40 ∧ pz_ht t_181 ≤ hb) ∧ (LL = pk V_181 ∧ ps_bd V_181 s0_181 ∧ ps_M (ab_up M 790 3 ((M 790 3) + (((1 : Int) + r27) + r8))) s0_181 ∧ ps_x s0_181 (2 * pz_sz t_181)) ∧ ps_c (ab_up M 790 3 ((M 790 3) + (((1 : Int) + r27) + r8))) cat (dep + (1 : Int)) th_181 (pz_sz t_181) ∧ ps_pm (ab_up M 790 3 ((M 790 3) + (((1 : Int) + r27) + r8)))) ∧ (∀ r181 : Int, ∀ M181 : ab_M, (ps_M M181 (ps_t t_181 V_181 s0_181).1 ∧ ps_F (ab_up M 790 3 ((M 790 3) + (((1 : Int) + r27) + r8))) M181 (dep + (1 : Int)) cat ∧ (0 ≤ cat → th_R M181 (th_181 ++ (ps_t t_181 V_181 s0_181).2.2) cat.toNat)) → (r181 = pe (ps_t t_181 V_181 s0_181).2.1) → (0 ≤ (1 : Int) ∧ (1 : Int) < ((2 : Nat) : Int)) ∧ (∃ t_203 : pz_T, ∃ r0_203 : Nat, ∃ V_203 : ps_V, ∃ s0_203 : ps_S, ∃ th_203 : List ps_V, (ps_Q M181 t_203 r0_203 (-1) ∧ (M181 (s + 1) 1) = cr_fs t_203 r0_203 ∧ (0 ≤ (dep + (1 : Int)) ∧ (dep + (1 : Int)) + ((pz_ht t_203 : Nat) : Int) ≤ 40 ∧ pz_ht t_203 ≤ hb) ∧ (LL = pk V_203 ∧ ps_bd V_203 s0_203 ∧ ps_M M181 s0_203 ∧ ps_x s0_203 (2 * pz_sz t_203)) ∧ ps_c M181 cat (dep + (1 : Int)) th_203 (pz_sz t_203) ∧ ps_pm M181) ∧ (∀ r203 : Int, ∀ M203 : ab_M, (ps_M M203 (ps_t t_203 V_203 s0_203).1 ∧ ps_F M181 M203 (dep + (1 : Int)) cat ∧ (0 ≤ cat → th_R M203 (th_203 ++ (ps_t t_203 V_203 s0_203).2.2) cat.toNat)) → (r203 = pe (ps_t t_203 V_203 s0_203).2.1) → (∃ e1_206 : Option ps_V, ∃ e2_206 : Option ps_V, ∃ s0_206 : ps_S, (r181 = pe e1_206 ∧ r203 = pe e2_206 ∧ (∀ V, e1_206 = some V → pk_ok V) ∧ (∀ V, e2_206 = some V → pk_ok V) ∧ ps_M M203 s0_206 ∧ ps_g s0_206) ∧ (∀ r206 : Int, ∀ M206 : ab_M, (ps_M M206 (ps_jn s0_206 e1_206 e2_206).1 ∧ ps_N M203 M206) → (r206 = pe (ps_jn s0_206 e1_206 e2_206).2) → K [Xl r206] M206))))))) ∧ (¬ ((ab_up M 790 3 ((M 790 3) + (((1 : Int) + r27) + r8))) s 0) = 105 → ((((ab_up M 790 3 ((M 790 3) + (((1 : Int) + r27) + r8))) s 0) = 112 → (∃ V_152 : ps_V, ∃ st_152 : ps_S, (LL = pk V_152 ∧ pk_ok V_152 ∧ ps_M (ab_up M 790 3 ((M 790 3) + (((1 : Int) + r27) + r8))) st_152 ∧ ps_g st_152) ∧ (∀ r152 : Int, ∀ M152 : ab_M, (ps_M M152 (ps_rn st_152 V_152 (fun v => pz_b (ab_shl (1 : Int) ((ab_up M 790 3 ((M 790 3) + (((1 : Int) + r27) + r8))) s 1)) v)).1 ∧ ps_N (ab_up M 790 3 ((M 790 3) + (((1 : Int) + r27) + r8))) M152) → (r152 = pk (ps_rn st_152 V_152 (fun v => pz_b (ab_shl (1 : Int) ((ab_up M 790 3 ((M 790 3) + (((1 : Int) + r27) + r8))) s 1)) v)).2) → K [Xl r152] M152))) ∧ (¬ ((ab_up M 790 3 ((M 790 3) + (((1 : Int) + r27) + r8))) s 0) = 112 → ((((ab_up M 790 3 ((M 790 3) + (((1 : Int) + r27) + r8))) s 0) = 116 → (∃ V_160 : ps_V, ∃ th_160 : List ps_V, ((cat = -1 ∨ (0 ≤ cat ∧ cat ≤ 40) ∧ th_R (ab_up M 790 3 ((M 790 3) + (((1 : Int) + r27) + r8))) th_160 cat.toNat ∧ (∀ V_160 ∈ th_160, pk_ok V_160) ∧ th_160.length ≤ 1000) ∧ LL = pk V_160 ∧ pk_ok V_160) ∧ (∀ M160 : ab_M, (th_F (ab_up M 790 3 ((M 790 3) + (((1 : Int) + r27) + r8))) M160 cat ∧ (0 ≤ cat → th_R M160 (th_160 ++ [V_160]) cat.toNat)) → K [Xl (-1 : Int)] M160))) ∧ (¬ ((ab_up M 790 3 ((M 790 3) + (((1 : Int) + r27) + r8))) s 0) = 116 → ((((ab_up M 790 3 ((M 790 3) + (((1 : Int) + r27) + r8))) s 0) = 118 → (∃ V_152 : ps_V, ∃ st_152 : ps_S, (LL = pk V_152 ∧ pk_ok V_152 ∧ ps_M (ab_up M 790 3 ((M 790 3) + (((1 : Int) + r27) + r8))) st_152 ∧ ps_g st_152) ∧ (∀ r152 : Int, ∀ M152 : ab_M, (ps_M M152 (ps_rn st_152 V_152 (fun v => pz_b (ab_shl (1 : Int) ((ab_up M 790 3 ((M 790 3) + (((1 : Int) + r27) + r8))) s 1)) v)).1 ∧ ps_N (ab_up M 790 3 ((M 790 3) + (((1 : Int) + r27) + r8))) M152) → (r152 = pk (ps_rn st_152 V_152 (fun v => pz_b (ab_shl (1 : Int) ((ab_up M 790 3 ((M 790 3) + (((1 : Int) + r27) + r8))) s 1)) v)).2) → K [Xl r152] M152))) ∧ (¬ ((ab_up M 790 3 ((M 790 3) + (((1 : Int) + r27) + r8))) s 0) = 118 → ((((ab_up M 790 3 ((M 790 3) + (((1 : Int) + r27) + r8))) s 0) = 119 → (∃ V_216 : ps_V, ∃ st_216 : ps_S, (LL = pk V_216 ∧ pk_ok V_216 ∧ ps_M (ab_up M 790 3 ((M 790 3) + (((1 : Int) + r27) + r8))) st_216 ∧ ps_g st_216) ∧ (∀ r216 : Int, ∀ M216 : ab_M, (ps_M M216 (ps_rn st_216 V_216 (fun v => pz_b ((ab_up M 790 3 ((M 790 3) + (((1 : Int) + r27) + r8))) s 6) v)).1 ∧ ps_N (ab_up M 790 3 ((M 790 3) + (((1 : Int) + r27) + r8))) M216) → (r216 = pk (ps_rn st_216 V_216 (fun v => pz_b ((ab_up M 790 3 ((M 790 3) + (((1 : Int) + r27) + r8))) s 6) v)).2) → (0 ≤ (0 : Int) ∧ (0 : Int) < ((2 : Nat) : Int)) ∧ (∃ t_236 : pz_T, ∃ r0_236 : Nat, ∃ V_236 : ps_V, ∃ s0_236 : ps_S, ∃ th_236 : List ps_V, (ps_Q M216 t_236 r0_236 (-1) ∧ (M216 (s + 1) 0) = cr_fs t_236 r0_236 ∧ (0 ≤ (dep + (1 : Int)) ∧ (dep + (1 : Int)) + ((pz_ht t_236 : Nat) : Int) ≤ 40 ∧ pz_ht t_236 ≤ hb) ∧ (r216 = pk V_236 ∧ ps_bd V_236 s0_236 ∧ ps_M M216 s0_236 ∧ ps_x s0_236 (2 * pz_sz t_236)) ∧ ps_c M216 cat (dep + (1 : Int)) th_236 (pz_sz t_236) ∧ ps_pm M216) ∧ (∀ r236 : Int, ∀ M236 : ab_M, (ps_M M236 (ps_t t_236 V_236 s0_236).1 ∧ ps_F M216 M236 (dep + (1 : Int)) cat ∧ (0 ≤ cat → th_R M236 (th_236 ++ (ps_t t_236 V_236 s0_236).2.2) cat.toNat)) → (r236 = pe (ps_t t_236 V_236 s0_236).2.1) → K [Xl r216] M236))))) ∧ (¬ ((ab_up M 790 3 ((M 790 3) + (((1 : Int) + r27) + r8))) s 0) = 119 → ((((ab_up M 790 3 ((M 790 3) + (((1 : Int) + r27) + r8))) s 0) = 121 → (∃ P_250 : pz_P, ∃ a_250 : pz_T, ∃ b_250 : pz_T, ∃ R_250 : Nat, ∃ nx_250 : Int, ∃ pv_250 : Int, ∃ V_250 : ps_V, ∃ s0_250 : ps_S, ∃ th_250 : List ps_V, (s = 26 + 1 + 1 + 3 * R_250 ∧ ps_row (ab_up M 790 3 ((M 790 3) + (((1 : Int) + r27) + r8))) P_250 R_250 a_250 b_250 nx_250 pv_250 ∧ (ps_Q (ab_up M 790 3 ((M 790 3) + (((1 : Int) + r27) + r8))) a_250 (R_250 + 1) (-1) ∧ ps_Q (ab_up M 790 3 ((M 790 3) + (((1 : Int) + r27) + r8))) b_250 (R_250 + 1 + pz_sz a_250) (-1)) ∧ (0 ≤ dep ∧ dep + ((Nat.max (pz_ht a_250) (pz_ht b_250) : Nat) : Int) + 1 ≤ 40 ∧ Nat.max (pz_ht a_250) (pz_ht b_250) ≤ hb) ∧ (LL = pk V_250 ∧ ps_bd V_250 s0_250 ∧ ps_M (ab_up M 790 3 ((M 790 3) + (((1 : Int) + r27) + r8))) s0_250 ∧ ps_x s0_250 (2 * (pz_sz a_250 + pz_sz b_250) + 2)) ∧ ps_c (ab_up M 790 3 ((M 790 3) + (((1 : Int) + r27) + r8))) cat dep th_250 (1 + (pz_sz a_250 + pz_sz b_250)) ∧ ps_pm (ab_up M 790 3 ((M 790 3) + (((1 : Int) + r27) + r8)))) ∧ (∀ r250 : Int, ∀ M250 : ab_M, (ps_M M250 (ps_y (ps_t a_250) (ps_t b_250) V_250 s0_250).1 ∧ ps_F (ab_up M 790 3 ((M 790 3) + (((1 : Int) + r27) + r8))) M250 dep cat ∧ (0 ≤ cat → th_R M250 (th_250 ++ (ps_y (ps_t a_250) (ps_t b_250) V_250 s0_250).2.2) cat.toNat)) → (r250 = pe (ps_y (ps_t a_250) (ps_t b_250) V_250 s0_250).2.1) → K [Xl r250] M250))) ∧ (¬ ((ab_up M 790 3 ((M 790 3) + (((1 : Int) + r27) + r8))) s 0) = 121 → K [Xl LL] (ab_up M 790 3 ((M 790 3) + (((1 : Int) + r27) + r8)))))))))))))))))) ∧ (¬ r32 = 0 → (ab_ir ((ab_up M 790 3 ((M 790 3) + (((1 : Int) + r27) + ((3 : Int) * r8)))) s 0)) ∧ ((((ab_up M 790 3 ((M 790 3) + (((1 : Int) + r27) + ((3 : Int) * r8)))) s 0) = 104 → (∃ V_152 : ps_V, ∃ st_152 : ps_S, (LL = pk V_152 ∧ pk_ok V_152 ∧ ps_M (ab_up M 790 3 ((M 790 3) + (((1 : Int) + r27) + ((3 : Int) * r8)))) st_152 ∧ ps_g st_152) ∧ (∀ r152 : Int, ∀ M152 : ab_M, (ps_M M152 (ps_rn st_152 V_152 (fun v => pz_b (ab_shl (1 : Int) ((ab_up M 790 3 ((M 790 3) + (((1 : Int) + r27) + ((3 : Int) * r8)))) s 1)) v)).1 ∧ ps_N (ab_up M 790 3 ((M 790 3) + (((1 : Int) + r27) + ((3 : Int) * r8)))) M152) → (r152 = pk (ps_rn st_152 V_152 (fun v => pz_b (ab_shl (1 : Int) ((ab_up M 790 3 ((M 790 3) + (((1 : Int) + r27) + ((3 : Int) * r8)))) s 1)) v)).2) → K [Xl r152] M152))) ∧ (¬ ((ab_up M 790 3 ((M 790 3) + (((1 : Int) + r27) + ((3 : Int) * r8)))) s 0) = 104 → ((((ab_up M 790 3 ((M 790 3) + (((1 : Int) + r27) + ((3 : Int) * r8)))) s 0) = 105 → (0 ≤ (0 : Int) ∧ (0 : Int) < ((2 : Nat) : Int)) ∧ (∃ t_181 : pz_T, ∃ r0_181 : Nat, ∃ V_181 : ps_V, ∃ s0_181 : ps_S, ∃ th_181 : List ps_V, (ps_Q (ab_up M 790 3 ((M 790 3) + (((1 : Int) + r27) + ((3 : Int) * r8)))) t_181 r0_181 (-1) ∧ ((ab_up M 790 3 ((M 790 3) + (((1 : Int) + r27) + ((3 : Int) * r8)))) (s + 1) 0) = cr_fs t_181 r0_181 ∧ (0 ≤ (dep + (1 : Int)) ∧ (dep + (1 : Int)) + ((pz_ht t_181 : Nat) : Int) ≤ 40 ∧ pz_ht t_181 ≤ hb) ∧ (LL = pk V_181 ∧ ps_bd V_181 s0_181 ∧ ps_M (ab_up M 790 3 ((M 790 3) + (((1 : Int) + r27) + ((3 : Int) * r8)))) s0_181 ∧ ps_x s0_181 (2 * pz_sz t_181)) ∧ ps_c (ab_up M 790 3 ((M 790 3) + (((1 : Int) + r27) + ((3 : Int) * r8)))) cat (dep + (1 : Int)) th_181 (pz_sz t_181) ∧ ps_pm (ab_up M 790 3 ((M 790 3) + (((1 : Int) + r27) + ((3 : Int) * r8))))) ∧ (∀ r181 : Int, ∀ M181 : ab_M, (ps_M M181 (ps_t t_181 V_181 s0_181).1 ∧ ps_F (ab_up M 790 3 ((M 790 3) + (((1 : Int) + r27) + ((3 : Int) * r8)))) M181 (dep + (1 : Int)) cat ∧ (0 ≤ cat → th_R M181 (th_181 ++ (ps_t t_181 V_181 s0_181).2.2) cat.toNat)) → (r181 = pe (ps_t t_181 V_181 s0_181).2.1) → (0 ≤ (1 : Int) ∧ (1 : Int) < ((2 : Nat) : Int)) ∧ (∃ t_203 : pz_T, ∃ r0_203 : Nat, ∃ V_203 : ps_V, ∃ s0_203 : ps_S, ∃ th_203 : List ps_V, (ps_Q M181 t_203 r0_203 (-1) ∧ (M181 (s + 1) 1) = cr_fs t_203 r0_203 ∧ (0 ≤ (dep + (1 : Int)) ∧ (dep + (1 : Int)) + ((pz_ht t_203 : Nat) : Int) ≤ 40 ∧ pz_ht t_203 ≤ hb) ∧ (LL = pk V_203 ∧ ps_bd V_203 s0_203 ∧ ps_M M181 s0_203 ∧ ps_x s0_203 (2 * pz_sz t_203)) ∧ ps_c M181 cat (dep + (1 : Int)) th_203 (pz_sz t_203) ∧ ps_pm M181) ∧ (∀ r203 : Int, ∀ M203 : ab_M, (ps_M M203 (ps_t t_203 V_203 s0_203).1 ∧ ps_F M181 M203 (dep + (1 : Int)) cat ∧ (0 ≤ cat → th_R M203 (th_203 ++ (ps_t t_203 V_203 s0_203).2.2) cat.toNat)) → (r203 = pe (ps_t t_203 V_203 s0_203).2.1) → (∃ e1_206 : Option ps_V, ∃ e2_206 : Option ps_V, ∃ s0_206 : ps_S, (r181 = pe e1_206 ∧ r203 = pe e2_206 ∧ (∀ V, e1_206 = some V → pk_ok V) ∧ (∀ V, e2_206 = some V → pk_ok V) ∧ ps_M M203 s0_206 ∧ ps_g s0_206) ∧ (∀ r206 : Int, ∀ M206 : ab_M, (ps_M M206 (ps_jn s0_206 e1_206 e2_206).1 ∧ ps_N M203 M206) → (r206 = pe (ps_jn s0_206 e1_206 e2_206).2) → K [Xl r206] M206))))))) ∧ (¬ ((ab_up M 790 3 ((M 790 3) + (((1 : Int) + r27) + ((3 : Int) * r8)))) s 0) = 105 → ((((ab_up M 790 3 ((M 790 3) + (((1 : Int) + r27) + ((3 : Int) * r8)))) s 0) = 112 → (∃ V_152 : ps_V, ∃ st_152 : ps_S, (LL = pk V_152 ∧ pk_ok V_152 ∧ ps_M (ab_up M 790 3 ((M 790 3) + (((1 : Int) + r27) + ((3 : Int) * r8)))) st_152 ∧ ps_g st_152) ∧ (∀ r152 : Int, ∀ M152 : ab_M, (ps_M M152 (ps_rn st_152 V_152 (fun v => pz_b (ab_shl (1 : Int) ((ab_up M 790 3 ((M 790 3) + (((1 : Int) + r27) + ((3 : Int) * r8)))) s 1)) v)).1 ∧ ps_N (ab_up M 790 3 ((M 790 3) + (((1 : Int) + r27) + ((3 : Int) * r8)))) M152) → (r152 = pk (ps_rn st_152 V_152 (fun v => pz_b (ab_shl (1 : Int) ((ab_up M 790 3 ((M 790 3) + (((1 : Int) + r27) + ((3 : Int) * r8)))) s 1)) v)).2) → K [Xl r152] M152))) ∧ (¬ ((ab_up M 790 3 ((M 790 3) + (((1 : Int) + r27) + ((3 : Int) * r8)))) s 0) = 112 → ((((ab_up M 790 3 ((M 790 3) + (((1 : Int) + r27) + ((3 : Int) * r8)))) s 0) = 116 → (∃ V_160 : ps_V, ∃ th_160 : List ps_V, ((cat = -1 ∨ (0 ≤ cat ∧ cat ≤ 40) ∧ th_R (ab_up M 790 3 ((M 790 3) + (((1 : Int) + r27) + ((3 : Int) * r8)))) th_160 cat.toNat ∧ (∀ V_160 ∈ th_160, pk_ok V_160) ∧ th_160.length ≤ 1000) ∧ LL = pk V_160 ∧ pk_ok V_160) ∧ (∀ M160 : ab_M, (th_F (ab_up M 790 3 ((M 790 3) + (((1 : Int) + r27) + ((3 : Int) * r8)))) M160 cat ∧ (0 ≤ cat → th_R M160 (th_160 ++ [V_160]) cat.toNat)) → K [Xl (-1 : Int)] M160))) ∧ (¬ ((ab_up M 790 3 ((M 790 3) + (((1 : Int) + r27) + ((3 : Int) * r8)))) s 0) = 116 → ((((ab_up M 790 3 ((M 790 3) + (((1 : Int) + r27) + ((3 : Int) * r8)))) s 0) = 118 → (∃ V_152 : ps_V, ∃ st_152 : ps_S, (LL = pk V_152 ∧ pk_ok V_152 ∧ ps_M (ab_up M 790 3 ((M 790 3) + (((1 : Int) + r27) + ((3 : Int) * r8)))) st_152 ∧ ps_g st_152) ∧ (∀ r152 : Int, ∀ M152 : ab_M, (ps_M M152 (ps_rn st_152 V_152 (fun v => pz_b (ab_shl (1 : Int) ((ab_up M 790 3 ((M 790 3) + (((1 : Int) + r27) + ((3 : Int) * r8)))) s 1)) v)).1 ∧ ps_N (ab_up M 790 3 ((M 790 3) + (((1 : Int) + r27) + ((3 : Int) * r8)))) M152) → (r152 = pk (ps_rn st_152 V_152 (fun v => pz_b (ab_shl (1 : Int) ((ab_up M 790 3 ((M 790 3) + (((1 : Int) + r27) + ((3 : Int) * r8)))) s 1)) v)).2) → K [Xl r152] M152))) ∧ (¬ ((ab_up M 790 3 ((M 790 3) + (((1 : Int) + r27) + ((3 : Int) * r8)))) s 0) = 118 → ((((ab_up M 790 3 ((M 790 3) + (((1 : Int) + r27) + ((3 : Int) * r8)))) s 0) = 119 → (∃ V_216 : ps_V, ∃ st_216 : ps_S, (LL = pk V_216 ∧ pk_ok V_216 ∧ ps_M (ab_up M 790 3 ((M 790 3) + (((1 : Int) + r27) + ((3 : Int) * r8)))) st_216 ∧ ps_g st_216) ∧ (∀ r216 : Int, ∀ M216 : ab_M, (ps_M M216 (ps_rn st_216 V_216 (fun v => pz_b ((ab_up M 790 3 ((M 790 3) + (((1 : Int) + r27) + ((3 : Int) * r8)))) s 6) v)).1 ∧ ps_N (ab_up M 790 3 ((M 790 3) + (((1 : Int) + r27) + ((3 : Int) * r8)))) M216) → (r216 = pk (ps_rn st_216 V_216 (fun v => pz_b ((ab_up M 790 3 ((M 790 3) + (((1 : Int) + r27) + ((3 : Int) * r8)))) s 6) v)).2) → (0 ≤ (0 : Int) ∧ (0 : Int) < ((2 : Nat) : Int)) ∧ (∃ t_236 : pz_T, ∃ r0_236 : Nat, ∃ V_236 : ps_V, ∃ s0_236 : ps_S, ∃ th_236 : List ps_V, (ps_Q M216 t_236 r0_236 (-1) ∧ (M216 (s + 1) 0) = cr_fs t_236 r0_236 ∧ (0 ≤ (dep + (1 : Int)) ∧ (dep + (1 : Int)) + ((pz_ht t_236 : Nat) : Int) ≤ 40 ∧ pz_ht t_236 ≤ hb) ∧ (r216 = pk V_236 ∧ ps_bd V_236 s0_236 ∧ ps_M M216 s0_236 ∧ ps_x s0_236 (2 * pz_sz t_236)) ∧ ps_c M216 cat (dep + (1 : Int)) th_236 (pz_sz t_236) ∧ ps_pm M216) ∧ (∀ r236 : Int, ∀ M236 : ab_M, (ps_M M236 (ps_t t_236 V_236 s0_236).1 ∧ ps_F M216 M236 (dep + (1 : Int)) cat ∧ (0 ≤ cat → th_R M236 (th_236 ++ (ps_t t_236 V_236 s0_236).2.2) cat.toNat)) → (r236 = pe (ps_t t_236 V_236 s0_236).2.1) → K [Xl r216] M236))))) ∧ (¬ ((ab_up M 790 3 ((M 790 3) + (((1 : Int) + r27) + ((3 : Int) * r8)))) s 0) = 119 → ((((ab_up M 790 3 ((M 790 3) + (((1 : Int) + r27) + ((3 : Int) * r8)))) s 0) = 121 → (∃ P_250 : pz_P, ∃ a_250 : pz_T, ∃ b_250 : pz_T, ∃ R_250 : Nat, ∃ nx_250 : Int, ∃ pv_250 : Int, ∃ V_250 : ps_V, ∃ s0_250 : ps_S, ∃ th_250 : List ps_V, (s = 26 + 1 + 1 + 3 * R_250 ∧ ps_row (ab_up M 790 3 ((M 790 3) + (((1 : Int) + r27) + ((3 : Int) * r8)))) P_250 R_250 a_250 b_250 nx_250 pv_250 ∧ (ps_Q (ab_up M 790 3 ((M 790 3) + (((1 : Int) + r27) + ((3 : Int) * r8)))) a_250 (R_250 + 1) (-1) ∧ ps_Q (ab_up M 790 3 ((M 790 3) + (((1 : Int) + r27) + ((3 : Int) * r8)))) b_250 (R_250 + 1 + pz_sz a_250) (-1)) ∧ (0 ≤ dep ∧ dep + ((Nat.max (pz_ht a_250) (pz_ht b_250) : Nat) : Int) + 1 ≤ 40 ∧ Nat.max (pz_ht a_250) (pz_ht b_250) ≤ hb) ∧ (LL = pk V_250 ∧ ps_bd V_250 s0_250 ∧ ps_M (ab_up M 790 3 ((M 790 3) + (((1 : Int) + r27) + ((3 : Int) * r8)))) s0_250 ∧ ps_x s0_250 (2 * (pz_sz a_250 + pz_sz b_250) + 2)) ∧ ps_c (ab_up M 790 3 ((M 790 3) + (((1 : Int) + r27) + ((3 : Int) * r8)))) cat dep th_250 (1 + (pz_sz a_250 + pz_sz b_250)) ∧ ps_pm (ab_up M 790 3 ((M 790 3) + (((1 : Int) + r27) + ((3 : Int) * r8))))) ∧ (∀ r250 : Int, ∀ M250 : ab_M, (ps_M M250 (ps_y (ps_t a_250) (ps_t b_250) V_250 s0_250).1 ∧ ps_F (ab_up M 790 3 ((M 790 3) + (((1 : Int) + r27) + ((3 : Int) * r8)))) M250 dep cat ∧ (0 ≤ cat → th_R M250 (th_250 ++ (ps_y (ps_t a_250) (ps_t b_250) V_250 s0_250).2.2) cat.toNat)) → (r250 = pe (ps_y (ps_t a_250) (ps_t b_250) V_250 s0_250).2.1) → K [Xl r250] M250))) ∧ (¬ ((ab_up M 790 3 ((M 790 3) + (((1 : Int) + r27) + ((3 : Int) * r8)))) s 0) = 121 → K [Xl LL] (ab_up M 790 3 ((M 790 3) + (((1 : Int) + r27) + ((3 : Int) * r8))))))))))))))))))))))) := by
  obtain ⟨P, a, b, R, nx, pv, V, s0, th, ⟨hs0, hR, ⟨hQa, hQb⟩, ⟨hd0, hd1, hh⟩, ⟨hL, hbd, hM, hx⟩, hc, hpm⟩, gK⟩ := hS
  subst hs0
  obtain ⟨⟨rl, rv⟩, ⟨rt1, rt2⟩, ⟨rn, rp⟩, ⟨rb0, rb1, rl0, rl1⟩, rm, rw, ra, rb, ⟨rR, rf0, rf1, rg0, rg1⟩⟩ := id hR
  have hP := cr_lt_all rw rl
  have h120 := hpm.1.2
  have h64 := hpm.2
  have hR7 : (26 + 1 + 1 + 3 * R) ≠ 790 := by omega
  have hR71 : (26 + 1 + 1 + 3 * R) + 1 ≠ 790 := by omega
  have hlr : ab_ir (M (26 + 1 + 1 + 3 * R) 0) := by rcases hP with z | z | z | z | z | z | z | z | z <;> exact ⟨by omega, by omega⟩
  have hpkV : pk_ok V := hx.pk hbd
  have hma : pz_ht a ≤ Nat.max (pz_ht a) (pz_ht b) := Nat.le_max_left _ _
  have hmb : pz_ht b ≤ Nat.max (pz_ht a) (pz_ht b) := Nat.le_max_right _ _
  have hcat : ab_ir cat := by
    rcases hc with z | z
    · rw [z]; exact ⟨by decide, by decide⟩
    · have := z.1; exact ⟨by omega, by omega⟩
  refine And.intro (by
    first
      | exact hlr
      | exact ⟨⟨by omega, by omega⟩, h64.2, h64.1⟩
      | omega
      | (simp only [ab_up_o hR7]; exact hlr)
      | exact hcat
      | exact ⟨by omega, by omega⟩
      | exact ⟨⟨by omega, by omega⟩, by omega, by omega⟩
      | (split <;> exact ⟨by decide, by decide⟩)
      | exact ⟨by decide, by decide⟩) ?_
  intro r8 hr8
  replace hr8 := hr8.trans rt2
  refine And.intro (by
    first
      | exact hlr
      | exact ⟨⟨by omega, by omega⟩, h64.2, h64.1⟩
      | omega
      | (simp only [ab_up_o hR7]; exact hlr)
      | exact hcat
      | exact ⟨by omega, by omega⟩
      | exact ⟨⟨by omega, by omega⟩, by omega, by omega⟩
      | (split <;> exact ⟨by decide, by decide⟩)
      | exact ⟨by decide, by decide⟩) ?_
  intro r27 hr27
  replace hr27 := hr27.trans rt1
  refine And.intro (by
    first
      | exact hlr
      | exact ⟨⟨by omega, by omega⟩, h64.2, h64.1⟩
      | omega
      | (simp only [ab_up_o hR7]; exact hlr)
      | exact hcat
      | exact ⟨by omega, by omega⟩
      | exact ⟨⟨by omega, by omega⟩, by omega, by omega⟩
      | (split <;> exact ⟨by decide, by decide⟩)
      | exact ⟨by decide, by decide⟩) ?_
  intro r32 hr32
  refine And.intro (by
    first
      | exact hlr
      | exact ⟨⟨by omega, by omega⟩, h64.2, h64.1⟩
      | omega
      | (simp only [ab_up_o hR7]; exact hlr)
      | exact hcat
      | exact ⟨by omega, by omega⟩
      | exact ⟨⟨by omega, by omega⟩, by omega, by omega⟩
      | (split <;> exact ⟨by decide, by decide⟩)
      | exact ⟨by decide, by decide⟩) ?_
  refine ⟨?_, ?_⟩
  · intro c35
    rw [hr32] at c35
    rw [ab_bf] at c35
    clear hr32 r32
    refine And.intro (by
      first
        | exact hlr
        | exact ⟨⟨by omega, by omega⟩, h64.2, h64.1⟩
        | omega
        | (simp only [ab_up_o hR7]; exact hlr)
        | exact hcat
        | exact ⟨by omega, by omega⟩
        | exact ⟨⟨by omega, by omega⟩, by omega, by omega⟩
        | (split <;> exact ⟨by decide, by decide⟩)
        | exact ⟨by decide, by decide⟩) ?_
    refine ⟨?_, ?_⟩
    · intro c56_104
      simp only [ab_up_o hR7, ab_up_o hR71] at *
      have hP1 : P.1 = 0 ∨ P.1 = 1 ∨ P.1 = 5 := by
        rcases hP with z | z | z | z | z | z | z | z | z <;> omega
      have hsz : ps_M (ab_up M 790 3 ((M 790 3) + (((1 : Int) + r27) + r8))) (s0.1, s0.2.1, s0.2.2 + ps_sz P) := hM.sz (by
        unfold ps_sz
        rw [hr8, hr27, if_neg (by omega)]
        try omega)
      have hN2 := ps_N.sz M ((M 790 3) + (((1 : Int) + r27) + r8))
      generalize ab_up M 790 3 ((M 790 3) + (((1 : Int) + r27) + r8)) = M2 at hsz hN2 ⊢
      have hc2 := hc.N hN2
      have hpm2 := hpm.lo hN2.lo
      have h7 : (P.1 = 7 → 2 = 2) := fun _ => rfl
      refine Exists.intro (V) <| Exists.intro ((s0.1, s0.2.1, s0.2.2 + ps_sz P)) <| ?_
      refine And.intro (by
        exact ⟨hL, hpkV, hsz, hx.g⟩) ?_
      intro r152 M152 hM152 hr152
      have hvr : 0 ≤ P.2.1 ∧ P.2.1 ≤ 3 := by
        have := rw.2.1
        rw [if_pos hP1] at this
        exact this
      rw [if_pos hP1] at rv
      obtain ⟨z1, z2⟩ := ps_rn_cg (st := (s0.1, s0.2.1, s0.2.2 + ps_sz P)) (V := V) (S := fun v => pz_b (ab_shl 1 (M (26 + 1 + 1 + 3 * R) 1)) v) (S' := fun v => decide ((v : Int) = P.2.1)) fun v hv => by
        show pz_b (ab_shl 1 (M (26 + 1 + 1 + 3 * R) 1)) v = _
        rw [rv, pz_b_shl hvr.1 (by omega) (by omega)]
      rw [ps_P_0 hP1] at gK
      refine gK _ _ ⟨z1 _ hM152.1, (hN2.F _ _).tr (hM152.2.F _ _), fun q => ?_⟩ (hr152.trans z2)
      show th_R M152 (th ++ []) cat.toNat
      rw [List.append_nil]
      exact (hc2.th q).N hM152.2
    · intro c56_104
      refine ⟨?_, ?_⟩
      · intro c56_105
        refine And.intro (by
          first
            | exact hlr
            | exact ⟨⟨by omega, by omega⟩, h64.2, h64.1⟩
            | omega
            | (simp only [ab_up_o hR7]; exact hlr)
            | exact hcat
            | exact ⟨by omega, by omega⟩
            | exact ⟨⟨by omega, by omega⟩, by omega, by omega⟩
            | (split <;> exact ⟨by decide, by decide⟩)
            | exact ⟨by decide, by decide⟩) ?_
        simp only [ab_up_o hR7, ab_up_o hR71] at *
        have hP1 : P.1 = 6 := by
          rcases hP with z | z | z | z | z | z | z | z | z <;> omega
        have hsz : ps_M (ab_up M 790 3 ((M 790 3) + (((1 : Int) + r27) + r8))) (s0.1, s0.2.1, s0.2.2 + ps_sz P) := hM.sz (by
          unfold ps_sz
          rw [hr8, hr27, if_neg (by omega)]
          try omega)
        have hN2 := ps_N.sz M ((M 790 3) + (((1 : Int) + r27) + r8))
        generalize ab_up M 790 3 ((M 790 3) + (((1 : Int) + r27) + r8)) = M2 at hsz hN2 ⊢
        have hc2 := hc.N hN2
        have hpm2 := hpm.lo hN2.lo
        have h7 : (P.1 = 7 → 2 = 2) := fun _ => rfl
        have hbd1 : ps_bd V (s0.1, s0.2.1, s0.2.2 + ps_sz P) := hbd
        have hx1 : ps_x (s0.1, s0.2.1, s0.2.2 + ps_sz P) (2 * (1 + (pz_sz a + pz_sz b))) := hx
        obtain ⟨a1, a2, a3⟩ := ps_t_ok a V (s0.1, s0.2.1, s0.2.2 + ps_sz P) hbd1
        have aln := ps_t_len a V (s0.1, s0.2.1, s0.2.2 + ps_sz P)
        refine Exists.intro (a) <| Exists.intro ((R + 1)) <| Exists.intro (V) <| Exists.intro ((s0.1, s0.2.1, s0.2.2 + ps_sz P)) <| Exists.intro (th) <| ?_
        refine And.intro (by
          exact ⟨hQa.lo hN2.lo h120, rb0, ⟨by omega, by omega, by omega⟩, ⟨hL, hbd1, hsz, hx1.le (ps_le.rf _ 0) (by omega)⟩, hc2.le (by omega) (by omega), hpm2⟩) ?_
        intro r181 M181 hM181 hr181
        refine And.intro (by
          first
            | exact hlr
            | exact ⟨⟨by omega, by omega⟩, h64.2, h64.1⟩
            | omega
            | (simp only [ab_up_o hR7]; exact hlr)
            | exact hcat
            | exact ⟨by omega, by omega⟩
            | exact ⟨⟨by omega, by omega⟩, by omega, by omega⟩
            | (split <;> exact ⟨by decide, by decide⟩)
            | exact ⟨by decide, by decide⟩) ?_
        have hx2 : ps_x (ps_t a V (s0.1, s0.2.1, s0.2.2 + ps_sz P)).1 (2 * pz_sz b + 2) := hx1.le a1 (by omega)
        have hbd2 := a1.bd hbd1
        obtain ⟨b1, b2, b3⟩ := ps_t_ok b V (ps_t a V (s0.1, s0.2.1, s0.2.2 + ps_sz P)).1 hbd2
        have bln := ps_t_len b V (ps_t a V (s0.1, s0.2.1, s0.2.2 + ps_sz P)).1
        have hc3 := hc2.go (m := pz_sz b) hM181.2.2 (fun U hU => hx2.pk (a3 U hU)) (by omega)
        have hpm3 := hpm2.lo hM181.2.1.lo
        have hlo3 : ∀ o k : Nat, o < 790 → M181 o k = M o k := fun o k ho => (hM181.2.1.lo o k ho).trans (hN2.lo o k ho)
        refine Exists.intro (b) <| Exists.intro ((R + 1 + pz_sz a)) <| Exists.intro (V) <| Exists.intro ((ps_t a V (s0.1, s0.2.1, s0.2.2 + ps_sz P)).1) <| Exists.intro ((th ++ (ps_t a V (s0.1, s0.2.1, s0.2.2 + ps_sz P)).2.2)) <| ?_
        refine And.intro (by
          refine ⟨hQb.lo hlo3 h120, ?_, ⟨by omega, by omega, by omega⟩, ⟨hL, hbd2, hM181.1, hx2.le (ps_le.rf _ 0) (by omega)⟩, hc3.le (by omega) (by omega), hpm3⟩
          rw [hlo3 _ _ (by omega)]; exact rb1) ?_
        intro r203 M203 hM203 hr203
        have hx3 : ps_x (ps_t b V (ps_t a V (s0.1, s0.2.1, s0.2.2 + ps_sz P)).1).1 2 := hx2.le b1 (by omega)
        refine Exists.intro ((ps_t a V (s0.1, s0.2.1, s0.2.2 + ps_sz P)).2.1) <| Exists.intro ((ps_t b V (ps_t a V (s0.1, s0.2.1, s0.2.2 + ps_sz P)).1).2.1) <| Exists.intro ((ps_t b V (ps_t a V (s0.1, s0.2.1, s0.2.2 + ps_sz P)).1).1) <| ?_
        refine And.intro (by
          exact ⟨hr181, hr203, fun U hU => hx2.pk (a2 U hU), fun U hU => hx3.pk (b2 U hU), hM203.1, hx3.g⟩) ?_
        intro r206 M206 hM206 hr206
        rw [ps_P_6 hP1] at gK
        refine gK _ _ ⟨hM206.1, (((hN2.F _ _).tr (hM181.2.1.up (by omega))).tr (hM203.2.1.up (by omega))).tr (hM206.2.F _ _), fun q => ?_⟩ hr206
        have := (hM203.2.2 q).N hM206.2
        rw [List.append_assoc] at this
        exact this
      · intro c56_105
        refine ⟨?_, ?_⟩
        · intro c56_112
          simp only [ab_up_o hR7, ab_up_o hR71] at *
          have hP1 : P.1 = 0 ∨ P.1 = 1 ∨ P.1 = 5 := by
            rcases hP with z | z | z | z | z | z | z | z | z <;> omega
          have hsz : ps_M (ab_up M 790 3 ((M 790 3) + (((1 : Int) + r27) + r8))) (s0.1, s0.2.1, s0.2.2 + ps_sz P) := hM.sz (by
            unfold ps_sz
            rw [hr8, hr27, if_neg (by omega)]
            try omega)
          have hN2 := ps_N.sz M ((M 790 3) + (((1 : Int) + r27) + r8))
          generalize ab_up M 790 3 ((M 790 3) + (((1 : Int) + r27) + r8)) = M2 at hsz hN2 ⊢
          have hc2 := hc.N hN2
          have hpm2 := hpm.lo hN2.lo
          have h7 : (P.1 = 7 → 2 = 2) := fun _ => rfl
          refine Exists.intro (V) <| Exists.intro ((s0.1, s0.2.1, s0.2.2 + ps_sz P)) <| ?_
          refine And.intro (by
            exact ⟨hL, hpkV, hsz, hx.g⟩) ?_
          intro r152 M152 hM152 hr152
          have hvr : 0 ≤ P.2.1 ∧ P.2.1 ≤ 3 := by
            have := rw.2.1
            rw [if_pos hP1] at this
            exact this
          rw [if_pos hP1] at rv
          obtain ⟨z1, z2⟩ := ps_rn_cg (st := (s0.1, s0.2.1, s0.2.2 + ps_sz P)) (V := V) (S := fun v => pz_b (ab_shl 1 (M (26 + 1 + 1 + 3 * R) 1)) v) (S' := fun v => decide ((v : Int) = P.2.1)) fun v hv => by
            show pz_b (ab_shl 1 (M (26 + 1 + 1 + 3 * R) 1)) v = _
            rw [rv, pz_b_shl hvr.1 (by omega) (by omega)]
          rw [ps_P_0 hP1] at gK
          refine gK _ _ ⟨z1 _ hM152.1, (hN2.F _ _).tr (hM152.2.F _ _), fun q => ?_⟩ (hr152.trans z2)
          show th_R M152 (th ++ []) cat.toNat
          rw [List.append_nil]
          exact (hc2.th q).N hM152.2
        · intro c56_112
          refine ⟨?_, ?_⟩
          · intro c56_116
            simp only [ab_up_o hR7, ab_up_o hR71] at *
            have hP1 : P.1 = 4 := by
              rcases hP with z | z | z | z | z | z | z | z | z <;> omega
            have hsz : ps_M (ab_up M 790 3 ((M 790 3) + (((1 : Int) + r27) + r8))) (s0.1, s0.2.1, s0.2.2 + ps_sz P) := hM.sz (by
              unfold ps_sz
              rw [hr8, hr27, if_neg (by omega)]
              try omega)
            have hN2 := ps_N.sz M ((M 790 3) + (((1 : Int) + r27) + r8))
            generalize ab_up M 790 3 ((M 790 3) + (((1 : Int) + r27) + r8)) = M2 at hsz hN2 ⊢
            have hc2 := hc.N hN2
            have hpm2 := hpm.lo hN2.lo
            have h7 : (P.1 = 7 → 2 = 2) := fun _ => rfl
            refine Exists.intro (V) <| Exists.intro (th) <| ?_
            refine And.intro (by
              refine ⟨hc2.imp id fun z => ⟨⟨z.1.1, by omega⟩, z.2.1, z.2.2.1, by omega⟩, hL, hpkV⟩) ?_
            intro M160 hM160
            rw [ps_P_4 hP1] at gK
            refine gK _ _ ⟨⟨fun v hv => ?_, ?_, ?_⟩, (hN2.F _ _).tr (hM160.1.F _), hM160.2⟩ rfl
            · rw [hM160.1 _ _ (by omega)]; exact hsz.1 v hv
            · rw [hM160.1 _ _ (by omega)]; exact hsz.2.1
            · rw [hM160.1 _ _ (by omega)]; exact hsz.2.2
          · intro c56_116
            refine ⟨?_, ?_⟩
            · intro c56_118
              simp only [ab_up_o hR7, ab_up_o hR71] at *
              have hP1 : P.1 = 0 ∨ P.1 = 1 ∨ P.1 = 5 := by
                rcases hP with z | z | z | z | z | z | z | z | z <;> omega
              have hsz : ps_M (ab_up M 790 3 ((M 790 3) + (((1 : Int) + r27) + r8))) (s0.1, s0.2.1, s0.2.2 + ps_sz P) := hM.sz (by
                unfold ps_sz
                rw [hr8, hr27, if_neg (by omega)]
                try omega)
              have hN2 := ps_N.sz M ((M 790 3) + (((1 : Int) + r27) + r8))
              generalize ab_up M 790 3 ((M 790 3) + (((1 : Int) + r27) + r8)) = M2 at hsz hN2 ⊢
              have hc2 := hc.N hN2
              have hpm2 := hpm.lo hN2.lo
              have h7 : (P.1 = 7 → 2 = 2) := fun _ => rfl
              refine Exists.intro (V) <| Exists.intro ((s0.1, s0.2.1, s0.2.2 + ps_sz P)) <| ?_
              refine And.intro (by
                exact ⟨hL, hpkV, hsz, hx.g⟩) ?_
              intro r152 M152 hM152 hr152
              have hvr : 0 ≤ P.2.1 ∧ P.2.1 ≤ 3 := by
                have := rw.2.1
                rw [if_pos hP1] at this
                exact this
              rw [if_pos hP1] at rv
              obtain ⟨z1, z2⟩ := ps_rn_cg (st := (s0.1, s0.2.1, s0.2.2 + ps_sz P)) (V := V) (S := fun v => pz_b (ab_shl 1 (M (26 + 1 + 1 + 3 * R) 1)) v) (S' := fun v => decide ((v : Int) = P.2.1)) fun v hv => by
                show pz_b (ab_shl 1 (M (26 + 1 + 1 + 3 * R) 1)) v = _
                rw [rv, pz_b_shl hvr.1 (by omega) (by omega)]
              rw [ps_P_0 hP1] at gK
              refine gK _ _ ⟨z1 _ hM152.1, (hN2.F _ _).tr (hM152.2.F _ _), fun q => ?_⟩ (hr152.trans z2)
              show th_R M152 (th ++ []) cat.toNat
              rw [List.append_nil]
              exact (hc2.th q).N hM152.2
            · intro c56_118
              refine ⟨?_, ?_⟩
              · intro c56_119
                simp only [ab_up_o hR7, ab_up_o hR71] at *
                exfalso
                rcases hP with z | z | z | z | z | z | z | z | z <;> omega
              · intro c56_119
                refine ⟨?_, ?_⟩
                · intro c56_121
                  simp only [ab_up_o hR7, ab_up_o hR71] at *
                  have hP1 : P.1 = 8 := by
                    rcases hP with z | z | z | z | z | z | z | z | z <;> omega
                  have hsz : ps_M (ab_up M 790 3 ((M 790 3) + (((1 : Int) + r27) + r8))) (s0.1, s0.2.1, s0.2.2 + ps_sz P) := hM.sz (by
                    unfold ps_sz
                    rw [hr8, hr27, if_neg (by omega)]
                    try omega)
                  have hN2 := ps_N.sz M ((M 790 3) + (((1 : Int) + r27) + r8))
                  generalize ab_up M 790 3 ((M 790 3) + (((1 : Int) + r27) + r8)) = M2 at hsz hN2 ⊢
                  have hc2 := hc.N hN2
                  have hpm2 := hpm.lo hN2.lo
                  have h7 : (P.1 = 7 → 2 = 2) := fun _ => rfl
                  refine Exists.intro (P) <| Exists.intro (a) <| Exists.intro (b) <| Exists.intro (R) <| Exists.intro (nx) <| Exists.intro (pv) <| Exists.intro (V) <| Exists.intro ((s0.1, s0.2.1, s0.2.2 + ps_sz P)) <| Exists.intro (th) <| ?_
                  refine And.intro (by
                    exact ⟨rfl, hR.lo hN2.lo h120, ⟨hQa.lo hN2.lo h120, hQb.lo hN2.lo h120⟩, ⟨hd0, by omega, by omega⟩, ⟨hL, hbd, hsz, hx.le (ps_le.rf _ 0) (by omega)⟩, hc2.le (by omega) (Int.le_refl _), hpm2⟩) ?_
                  intro r250 M250 hM250 hr250
                  rw [ps_P_8 hP1] at gK
                  exact gK _ _ ⟨hM250.1, (hN2.F _ _).tr hM250.2.1, hM250.2.2⟩ hr250
                · intro c56_121
                  simp only [ab_up_o hR7, ab_up_o hR71] at *
                  have hP1 : P.1 = 2 ∨ P.1 = 3 := by
                    rcases hP with z | z | z | z | z | z | z | z | z <;> omega
                  have hsz : ps_M (ab_up M 790 3 ((M 790 3) + (((1 : Int) + r27) + r8))) (s0.1, s0.2.1, s0.2.2 + ps_sz P) := hM.sz (by
                    unfold ps_sz
                    rw [hr8, hr27, if_neg (by omega)]
                    try omega)
                  have hN2 := ps_N.sz M ((M 790 3) + (((1 : Int) + r27) + r8))
                  generalize ab_up M 790 3 ((M 790 3) + (((1 : Int) + r27) + r8)) = M2 at hsz hN2 ⊢
                  have hc2 := hc.N hN2
                  have hpm2 := hpm.lo hN2.lo
                  have h7 : (P.1 = 7 → 2 = 2) := fun _ => rfl
                  rw [ps_P_2 hP1] at gK
                  refine gK _ _ ⟨hsz, hN2.F _ _, fun q => ?_⟩ hL
                  show th_R M2 (th ++ []) cat.toNat
                  rw [List.append_nil]
                  exact hc2.th q
  · intro c35
    rw [hr32] at c35
    rw [ab_bt] at c35
    clear hr32 r32
    refine And.intro (by
      first
        | exact hlr
        | exact ⟨⟨by omega, by omega⟩, h64.2, h64.1⟩
        | omega
        | (simp only [ab_up_o hR7]; exact hlr)
        | exact hcat
        | exact ⟨by omega, by omega⟩
        | exact ⟨⟨by omega, by omega⟩, by omega, by omega⟩
        | (split <;> exact ⟨by decide, by decide⟩)
        | exact ⟨by decide, by decide⟩) ?_
    refine ⟨?_, ?_⟩
    · intro c56_104
      simp only [ab_up_o hR7, ab_up_o hR71] at *
      exfalso
      rcases hP with z | z | z | z | z | z | z | z | z <;> omega
    · intro c56_104
      refine ⟨?_, ?_⟩
      · intro c56_105
        simp only [ab_up_o hR7, ab_up_o hR71] at *
        exfalso
        rcases hP with z | z | z | z | z | z | z | z | z <;> omega
      · intro c56_105
        refine ⟨?_, ?_⟩
        · intro c56_112
          simp only [ab_up_o hR7, ab_up_o hR71] at *
          exfalso
          rcases hP with z | z | z | z | z | z | z | z | z <;> omega
        · intro c56_112
          refine ⟨?_, ?_⟩
          · intro c56_116
            simp only [ab_up_o hR7, ab_up_o hR71] at *
            exfalso
            rcases hP with z | z | z | z | z | z | z | z | z <;> omega
          · intro c56_116
            refine ⟨?_, ?_⟩
            · intro c56_118
              simp only [ab_up_o hR7, ab_up_o hR71] at *
              exfalso
              rcases hP with z | z | z | z | z | z | z | z | z <;> omega
            · intro c56_118
              refine ⟨?_, ?_⟩
              · intro c56_119
                simp only [ab_up_o hR7, ab_up_o hR71] at *
                have hP1 : P.1 = 7 := by
                  rcases hP with z | z | z | z | z | z | z | z | z <;> omega
                have hsz : ps_M (ab_up M 790 3 ((M 790 3) + (((1 : Int) + r27) + ((3 : Int) * r8)))) (s0.1, s0.2.1, s0.2.2 + ps_sz P) := hM.sz (by
                  unfold ps_sz
                  rw [hr8, hr27, if_pos (by omega)]
                  try omega)
                have hN2 := ps_N.sz M ((M 790 3) + (((1 : Int) + r27) + ((3 : Int) * r8)))
                generalize ab_up M 790 3 ((M 790 3) + (((1 : Int) + r27) + ((3 : Int) * r8))) = M2 at hsz hN2 ⊢
                have hc2 := hc.N hN2
                have hpm2 := hpm.lo hN2.lo
                have h7 : (P.1 = 7 → 2 = 2) := fun _ => rfl
                have hbd1 : ps_bd V (s0.1, s0.2.1, s0.2.2 + ps_sz P) := hbd
                have hx1 : ps_x (s0.1, s0.2.1, s0.2.2 + ps_sz P) (2 * (1 + (pz_sz a + pz_sz b))) := hx
                have hmd : M (26 + 1 + 1 + 3 * R) 6 = pz_mk (pz_md a) := rm hP1
                refine Exists.intro (V) <| Exists.intro ((s0.1, s0.2.1, s0.2.2 + ps_sz P)) <| ?_
                refine And.intro (by
                  exact ⟨hL, hpkV, hsz, hx.g⟩) ?_
                intro r216 M216 hM216 hr216
                refine And.intro (by
                  first
                    | exact hlr
                    | exact ⟨⟨by omega, by omega⟩, h64.2, h64.1⟩
                    | omega
                    | (simp only [ab_up_o hR7]; exact hlr)
                    | exact hcat
                    | exact ⟨by omega, by omega⟩
                    | exact ⟨⟨by omega, by omega⟩, by omega, by omega⟩
                    | (split <;> exact ⟨by decide, by decide⟩)
                    | exact ⟨by decide, by decide⟩) ?_
                obtain ⟨z1, z2⟩ := ps_rn_cg (st := (s0.1, s0.2.1, s0.2.2 + ps_sz P)) (V := V) (S := fun v => pz_b (M (26 + 1 + 1 + 3 * R) 6) v) (S' := fun v => decide (v < 4) && pz_md a v) fun v hv => by
                  show pz_b (M (26 + 1 + 1 + 3 * R) 6) v = (decide (v < 4) && pz_md a v)
                  rw [hmd, pz_mk_b _ hv, decide_eq_true hv, Bool.true_and]
                obtain ⟨n1, n2⟩ := ps_rn_ok hbd1 (fun v => decide (v < 4) && pz_md a v)
                have hx2 : ps_x (ps_rn (s0.1, s0.2.1, s0.2.2 + ps_sz P) V (fun v => decide (v < 4) && pz_md a v)).1 (2 * pz_sz a) := hx1.le n1 (by omega)
                have hc3 := hc2.N hM216.2
                have hpm3 := hpm2.lo hM216.2.lo
                have hlo3 : ∀ o k : Nat, o < 790 → M216 o k = M o k := fun o k ho => (hM216.2.lo o k ho).trans (hN2.lo o k ho)
                refine Exists.intro (a) <| Exists.intro ((R + 1)) <| Exists.intro ((ps_rn (s0.1, s0.2.1, s0.2.2 + ps_sz P) V (fun v => decide (v < 4) && pz_md a v)).2) <| Exists.intro ((ps_rn (s0.1, s0.2.1, s0.2.2 + ps_sz P) V (fun v => decide (v < 4) && pz_md a v)).1) <| Exists.intro (th) <| ?_
                refine And.intro (by
                  refine ⟨hQa.lo hlo3 h120, ?_, ⟨by omega, by omega, by omega⟩, ⟨hr216.trans z2, n2, z1 _ hM216.1, hx2⟩, hc3.le (by omega) (by omega), hpm3⟩
                  rw [hlo3 _ _ (by omega)]; exact rb0) ?_
                intro r236 M236 hM236 hr236
                rw [ps_P_7 hP1] at gK
                exact gK _ _ ⟨hM236.1, ((hN2.F _ _).tr (hM216.2.F _ _)).tr (hM236.2.1.up (by omega)), hM236.2.2⟩ (hr216.trans z2)
              · intro c56_119
                refine ⟨?_, ?_⟩
                · intro c56_121
                  simp only [ab_up_o hR7, ab_up_o hR71] at *
                  exfalso
                  rcases hP with z | z | z | z | z | z | z | z | z <;> omega
                · intro c56_121
                  simp only [ab_up_o hR7, ab_up_o hR71] at *
                  exfalso
                  rcases hP with z | z | z | z | z | z | z | z | z <;> omega

set_option maxRecDepth 20000 in
set_option maxHeartbeats 1000000 in
theorem ok_X0_traverseStatement (E : ab_E) (hb d d1 : Nat) (hd : 7 ≤ d) (hd1 : d1 ≤ d) (h1 : ab_Ok E d1 9 (S_X0_traverseBlock hb)) (h2 : ab_Ok E d 11 (S_X0_traverseTry hb)) : ab_Ok E (d + 1) 10 (S_X0_traverseStatement (hb + 1)) := by
  refine ab_mk rq_X0_traverseStatement tk_X0_traverseStatement (rt := 3) (rfl) (cuts := []) (G := [(4, S_X0_joined), (5, S_X0_noteThrow), (6, S_X0_renewed), (9, S_X0_traverseBlock hb), (11, S_X0_traverseTry hb), (30, S_X1_termLength), (56, S_X4_isLoop)]) (List.forall_mem_cons.mpr ⟨⟨2, by omega, ok_X0_joined E⟩, List.forall_mem_cons.mpr ⟨⟨2, by omega, ok_X0_noteThrow E⟩, List.forall_mem_cons.mpr ⟨⟨1, by omega, ok_X0_renewed E⟩, List.forall_mem_cons.mpr ⟨⟨d1, by omega, h1⟩, List.forall_mem_cons.mpr ⟨⟨d, by omega, h2⟩, List.forall_mem_cons.mpr ⟨⟨1, by omega, ok_X1_termLength E⟩, List.forall_mem_cons.mpr ⟨⟨1, by omega, ok_X4_isLoop E⟩, fun _ h => absurd h List.not_mem_nil⟩⟩⟩⟩⟩⟩⟩) (by omega) 150 rfl ?_
  intro a M K wd wa hS
  unfold S_X0_traverseStatement at hS
  split at hS
  ·
    rename_i s nn LL cat dep
    refine ⟨Nat.le_of_ble_eq_true rfl, fun _ _ _ _ _ => False, ?_, ?_⟩
    · exact vc_X0_traverseStatement_0 (hb + 1) hb rfl s nn LL cat dep M K  hS
    · exact fun _ _ _ _ _ h => h.elim
  · exact hS.elim
