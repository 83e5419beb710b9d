/-! THE MODEL: damp days. -/
/-- the page behind k days, damp by the bits of m; what is staked on them -/
def dp (N : LD) (m : Nat) : Nat → LD
  | 0 => N
  | k + 1 => sp_liveD (dp N m k) (if m / 2 ^ k % 2 = 1 then 9 else dp N m k 0 8)
def od (v m : Nat) : Nat → Nat
  | 0 => 1
  | k + 1 => od v m k * (if m / 2 ^ k % 2 = 1 then v else 10 - v)
theorem half_bit {m b k : Nat} (hb : b < 2) : (2 * m + b) / 2 ^ (k + 1) % 2 = m / 2 ^ k % 2 := by
  rw [Nat.pow_succ, Nat.mul_comm (2 ^ k) 2, ← Nat.div_div_eq_div_mul, show (2 * m + b) / 2 = m by omega]
theorem dp_shift (N : LD) {m b : Nat} (hb : b < 2) : ∀ k, dp N (2 * m + b) (k + 1) = dp (sp_liveD N (if b = 1 then 9 else N 0 8)) m k
  | 0 => by
    show sp_liveD N (if (2 * m + b) / 2 ^ 0 % 2 = 1 then 9 else N 0 8) = _
    rw [Nat.pow_zero, Nat.div_one, show (2 * m + b) % 2 = b by omega]
    rfl
  | k + 1 => by
    rw [dp, dp_shift N hb k, half_bit hb]
    rfl
theorem od_shift {v m b : Nat} (hb : b < 2) : ∀ k, od v (2 * m + b) (k + 1) = (if b = 1 then v else 10 - v) * od v m k
  | 0 => by
    show 1 * (if (2 * m + b) / 2 ^ 0 % 2 = 1 then v else 10 - v) = _ * 1
    rw [Nat.pow_zero, Nat.div_one, show (2 * m + b) % 2 = b by omega, Nat.one_mul, Nat.mul_one]
  | k + 1 => by
    rw [od, od_shift hb k, half_bit hb, od, Nat.mul_assoc]
theorem sp_sum_two (F : Nat → Nat) : ∀ n, sp_sum F (2 * n) = sp_sum (fun m => F (2 * m + 1)) n + sp_sum (fun m => F (2 * m + 0)) n
  | 0 => rfl
  | n + 1 => by
    rw [show 2 * (n + 1) = 2 * n + 1 + 1 by omega, sp_sum, sp_sum, sp_sum_two F n, sp_sum, sp_sum]
    have e : F (2 * n + 0) = F (2 * n) := rfl
    omega
theorem sp_sum_mul (c : Nat) (F : Nat → Nat) : ∀ n, sp_sum (fun m => c * F m) n = c * sp_sum F n
  | 0 => rfl
  | n + 1 => by rw [sp_sum, sp_sum, sp_sum_mul c F n, Nat.mul_add]
theorem sp_sum_mono (F : Nat → Nat) {a : Nat} : ∀ {b : Nat}, a ≤ b → sp_sum F a ≤ sp_sum F b
  | 0, h => by rw [show a = 0 by omega]; exact Nat.le_refl _
  | b + 1, h => by
    by_cases hq : a = b + 1
    · rw [hq]; exact Nat.le_refl _
    · have := sp_sum_mono F (a := a) (b := b) (by omega)
      rw [sp_sum]; omega
theorem sm_self (X : LD) : sm X X := fun _ _ _ _ => rfl
theorem sm_symm {X Y : LD} (h : sm X Y) : sm Y X := fun s j a b => (h s j a b).symm
theorem sm_liveD (X : LD) (e : Nat) : sm (sp_liveD X e) (sp_live (lu X 0 8 e)) := by
  have h1 : sm (sp_rotD X e (X 0 3)) (sp_rot (lu X 0 8 e) (X 0 3)) := by
    rw [sp_rotD_eq]
    intro s j h2 h0
    rw [lu_ne (by omega)]
  have h2 := sm_feasts h1 (X 0 0)
  intro s j q2 q0
  unfold sp_liveD sp_live
  rw [lu_ne (by omega), lu_ne (by omega), lu_ne (s' := 0) (j' := 3) (by omega), lu_ne (s' := 0) (j' := 0) (by omega)]
  exact h2 s j q2 q0
theorem dp_sum {o : Bool} {f s v d : Nat} : ∀ (n : Nat) (X : LD), X 0 8 = d → sp_sum (fun m => od v m n * sp_out o f s (dp X m n)) (2 ^ n) = sp_w o f s v d n X
  | 0, X, _ => by
    show 0 + 1 * sp_out o f s X = sp_out o f s X
    omega
  | n + 1, X, hX => by
    have e9 : sp_liveD X 9 0 8 = d := by rw [sp_liveD_s (by decide) (by decide) (by decide), hX]
    have ed : sp_liveD X d 0 8 = d := by rw [sp_liveD_s (by decide) (by decide) (by decide), hX]
    have h9 := dp_sum (o := o) (f := f) (s := s) (v := v) n (sp_liveD X 9) e9
    have hd := dp_sum (o := o) (f := f) (s := s) (v := v) n (sp_liveD X d) ed
    rw [Nat.pow_succ, Nat.mul_comm, sp_sum_two, sp_w, ← sm_w (sm_liveD X 9), ← sm_w (sm_liveD X d), ← h9, ← hd, ← sp_sum_mul, ← sp_sum_mul]
    congr 1
    · refine sp_sum_congr (fun m _ => ?_)
      rw [dp_shift X (by decide), od_shift (by decide), if_pos rfl, if_pos rfl, Nat.mul_assoc]
    · refine sp_sum_congr (fun m _ => ?_)
      rw [dp_shift X (by decide), od_shift (by decide), if_neg (by decide), if_neg (by decide), Nat.mul_assoc, hX]
theorem od_le {v m : Nat} (hv : v ≤ 10) : ∀ k, od v m k ≤ 10 ^ k
  | 0 => Nat.le_refl _
  | k + 1 => by
    rw [od, Nat.pow_succ]
    refine Nat.mul_le_mul (od_le hv k) ?_
    by_cases h : m / 2 ^ k % 2 = 1
    · rw [if_pos h]; omega
    · rw [if_neg h]; omega
theorem dp_s {N : LD} {m s j : Nat} (h5 : s ≠ 5) (h2 : s ≠ 2) (hd : ¬ (s = 0 ∧ j = 10)) : ∀ k, dp N m k s j = N s j
  | 0 => rfl
  | k + 1 => by rw [dp, sp_liveD_s h5 h2 hd, dp_s h5 h2 hd k]
theorem dp_day {N : LD} {m : Nat} : ∀ k, dp N m k 0 10 = N 0 10 + k
  | 0 => rfl
  | k + 1 => by rw [dp, sp_liveD_day, dp_day k]; omega
theorem dp_ok {N : LD} (wN : la_ok N) {m : Nat} : ∀ k, N 0 10 + k ≤ 5000 → la_ok (dp N m k)
  | 0, _ => wN
  | k + 1, h => by
    have w := dp_ok wN (m := m) k (by omega)
    rw [dp]
    refine la_ok_liveD w ?_ (by rw [dp_day]; omega)
    by_cases q : m / 2 ^ k % 2 = 1
    · rw [if_pos q]; omega
    · rw [if_neg q]; exact w.2.2.1
theorem sp_out_t {X : LD} {f s : Nat} : sp_out true f s X = sp_sub true f X / 2 ^ s % 2 := by
  unfold sp_out
  rw [if_pos rfl]
  have h := @lore_bt X f s
  by_cases q : sp_kn X f s
  · rw [sp_c_t q, h.mpr q]
  · rw [sp_c_f q]
    have : ¬ sp_sub true f X / 2 ^ s % 2 = 1 := fun r => q (h.mp r)
    omega
theorem sp_out_f {X : LD} {f s g : Nat} : sp_out false f s X = sp_crm false g X := by
  rw [sp_crm_f]
  rfl
theorem lg_cmpN {a : Nat} (h : a < 2 ^ 63) : (lg_cmp (lN a) (lN 0) = 0) ↔ a = 0 := lg_cmp0 h
def P_X5_lowest : Nat × Nat × Int32 × pm_H → List pm_V → pm_H → Prop := fun g av h => match g with
  | (a, b, w, h0) => av = [vJ (lN a), vJ (lN b), vI w] ∧ h = h0 ∧ 0 < b ∧ b < 2 ^ 40 ∧ a < 2 ^ 40
def Q_X5_lowest : Nat × Nat × Int32 × pm_H → Int64 → pm_H → Prop := fun g r h => match g with
  | (a, b, w, h0) => h = h0 ∧ r = frac a b w
def T_X5_lowest : List (Nat × pm_T) := [
  (0, i_ll 0 1),
  (1, i_ls 5 3),
  (3, i_ll 2 4),
  (4, i_ls 7 6),
  (6, i_ll 7 8),
  (8, i_cl (lN 0) 9),
  (9, i_lcmp 10),
  (10, i_ifeq 31 13),
  (13, i_ll 5 15),
  (15, i_ll 7 17),
  (17, i_lrem 18),
  (18, i_ls 9 20),
  (20, i_ll 7 22),
  (22, i_ls 5 24),
  (24, i_ll 9 26),
  (26, i_ls 7 28),
  (28, i_go 6),
  (31, i_il 4 33),
  (33, i_ifne 40 36),
  (36, i_ll 0 37),
  (37, i_go 41),
  (40, i_ll 2 41),
  (41, i_ll 5 43),
  (43, i_ldiv 44),
  (44, i_lr)]
theorem k_X5_lowest : ∀ q ∈ T_X5_lowest, pm_sd RX5 cX5_lowest 11 1 2 q.1 q.2 := by
  unfold T_X5_lowest
  refine pm_cn (sd_lln (k := 0) (by decide +kernel) rfl rfl) ?_
  refine pm_cn (sd_ls (by decide +kernel) rfl (by decide)) ?_
  refine pm_cn (sd_lln (k := 2) (by decide +kernel) rfl rfl) ?_
  refine pm_cn (sd_ls (by decide +kernel) rfl (by decide)) ?_
  refine pm_cn (sd_ll (by decide +kernel) rfl) ?_
  refine pm_cn (sd_lconst (z := 0) (by decide +kernel) (by decide +kernel) rfl) ?_
  refine pm_cn (sd_lcmp (by decide +kernel) rfl) ?_
  refine pm_cn (sd_ifeq (off := 21) (by decide +kernel) (by decide) rfl) ?_
  refine pm_cn (sd_ll (by decide +kernel) rfl) ?_
  refine pm_cn (sd_ll (by decide +kernel) rfl) ?_
  refine pm_cn (sd_lrem (by decide +kernel) rfl) ?_
  refine pm_cn (sd_ls (by decide +kernel) rfl (by decide)) ?_
  refine pm_cn (sd_ll (by decide +kernel) rfl) ?_
  refine pm_cn (sd_ls (by decide +kernel) rfl (by decide)) ?_
  refine pm_cn (sd_ll (by decide +kernel) rfl) ?_
  refine pm_cn (sd_ls (by decide +kernel) rfl (by decide)) ?_
  refine pm_cn (sd_go (off := -22) (by decide +kernel) (by decide)) ?_
  refine pm_cn (sd_il (by decide +kernel) rfl) ?_
  refine pm_cn (sd_ifne (off := 7) (by decide +kernel) (by decide) rfl) ?_
  refine pm_cn (sd_lln (k := 0) (by decide +kernel) rfl rfl) ?_
  refine pm_cn (sd_go (off := 4) (by decide +kernel) (by decide)) ?_
  refine pm_cn (sd_lln (k := 2) (by decide +kernel) rfl rfl) ?_
  refine pm_cn (sd_ll (by decide +kernel) rfl) ?_
  refine pm_cn (sd_ldiv (by decide +kernel) rfl) ?_
  refine pm_cn (sd_lr (by decide +kernel)) ?_
  exact fun _ h => absurd h List.not_mem_nil
set_option maxHeartbeats 800000 in
set_option maxRecDepth 100000 in
theorem pf_X5_lowest : pm_pf T_X5_lowest P_X5_lowest (pm_pl2 Q_X5_lowest) := by
  rintro ⟨a, b, w, h0⟩ av h K hK ⟨rfl, rfl, hb, hb2, ha⟩ hret
  show K (some 0) ([(0, vJ (lN a)), (2, vJ (lN b)), (4, vI w)], [], h)
  have hg : 0 < Nat.gcd a b := Nat.gcd_pos_of_pos_right a hb
  have hgb : Nat.gcd a b ≤ b := Nat.gcd_le_right a hb
  have hne : ¬ lN (Nat.gcd a b) = 0 := by
    rw [show (0 : Int64) = lN 0 from rfl, pk_lEQ (by omega) (by decide)]
    omega
  have loop : ∀ n x y, y ≤ n → x < 2 ^ 40 → y < 2 ^ 40 → Nat.gcd x y = Nat.gcd a b → K (some 6) ([(0, vJ (lN a)), (2, vJ (lN b)), (4, vI w), (5, vJ (lN x)), (7, vJ (lN y))], [], h) := by
    intro n
    induction n with
    | zero =>
      intro x y hy hx hy2 hgc
      have hy0 : y = 0 := Nat.le_zero.mp hy
      subst hy0
      rw [Nat.gcd_zero_right] at hgc
      subst hgc
      refine hK [(6, [0, 2, 4, 5, 7])] 40 _ _ ?_
      conv => whnf
      refine ⟨fun c1 => ?_, fun c1 => absurd ((lg_cmpN (by omega)).mpr rfl) c1⟩
      conv => whnf
      refine ⟨fun c2 => ?_, fun c2 => ?_⟩
      · conv => whnf
        refine ⟨hne, ?_⟩
        conv => whnf
        rw [pk_lDiv (by omega) (by omega) (by omega)]
        refine hret _ _ ⟨rfl, ?_⟩
        rw [frac, if_neg (show ¬ w = nI 0 from c2)]
      · conv => whnf
        refine ⟨hne, ?_⟩
        conv => whnf
        rw [pk_lDiv (by omega) (by omega) (by omega)]
        refine hret _ _ ⟨rfl, ?_⟩
        rw [frac, if_pos (show w = nI 0 from c2)]
    | succ n ih =>
      intro x y hy hx hy2 hgc
      by_cases hy0 : y = 0
      · subst hy0
        exact ih x 0 (by omega) hx hy2 hgc
      · have hml : x % y < y := Nat.mod_lt _ (by omega)
        refine hK [(6, [0, 2, 4, 5, 7])] 40 _ _ ?_
        conv => whnf
        refine ⟨fun c1 => absurd ((lg_cmpN (by omega)).mp c1) hy0, fun c1 => ?_⟩
        conv => whnf
        refine ⟨?_, ?_⟩
        · rw [show (0 : Int64) = lN 0 from rfl, pk_lEQ (by omega) (by decide)]
          exact hy0
        conv => whnf
        rw [pk_lRem (by omega) (by omega) (by omega)]
        refine ih y (x % y) (by omega) hy2 (by omega) ?_
        rw [← hgc, Nat.gcd_comm y, ← Nat.gcd_rec, Nat.gcd_comm]
  refine hK [(6, [0, 2, 4, 5, 7])] 40 _ _ ?_
  conv => whnf
  exact loop b a b (Nat.le_refl _) ha hb2 rfl
theorem M_X5_lowest : pm_MT yX5_lowest cX5_lowest 11 2 1 P_X5_lowest (pm_pl2 Q_X5_lowest) := pm_met k_X5_lowest (by decide) rfl (by
  rintro ⟨g0, g1, g2, g3⟩ av h hp
  rw [hp.1]
  exact Nat.le_of_ble_eq_true rfl) pf_X5_lowest
def P_X5_byDamp : Nat × Bool × Nat × Nat × Nat × Int32 × LD × pm_H → List pm_V → pm_H → Prop := fun g av h => match g with
  | (v, o, f, s, n, w, Y, h0) => av = [vR 5 0 0, vI (nI v), vI (sp_fo o f), vI (nI s), vI (nI n), vI w] ∧ h = h0 ∧ md h0 Y ∧ Y 0 10 ≤ 999 ∧ v ≤ 10 ∧ f ≤ 9 ∧ s ≤ 9 ∧ n ≤ 8
def Q_X5_byDamp : Nat × Bool × Nat × Nat × Nat × Int32 × LD × pm_H → Int64 → pm_H → Prop := fun g r h => match g with
  | (v, o, f, s, n, w, N, h0) => mf h0 h ∧ r = frac (sp_w o f s v (N 0 8) n N) (10 ^ n) w
def T_X5_byDamp : List (Nat × pm_T) := [
  (0, i_cl (lN 0) 1),
  (1, i_ls 6 3),
  (3, i_cl (lN 1) 4),
  (4, i_ls 8 6),
  (6, i_c (nI 0) 7),
  (7, i_is 10 9),
  (9, i_il 10 11),
  (11, i_il 4 13),
  (13, i_icge 30 16),
  (16, i_ll 8 18),
  (18, i_cl (lN 10) 21),
  (21, i_lmul 22),
  (22, i_ls 8 24),
  (24, i_inc 10 (nI 1) 27),
  (27, i_go 9),
  (30, i_c (nI 0) 31),
  (31, i_is 10 33),
  (33, i_il 10 35),
  (35, i_c (nI 1) 36),
  (36, i_il 4 38),
  (38, i_ishl 39),
  (39, i_icge 177 42),
  (42, i_cl (lN 1) 43),
  (43, i_ls 11 45),
  (45, i_al 0 46),
  (46, i_c (nI 0) 47),
  (47, i_c (nI 196) 50),
  (50, i_cv 3 P_X5_copies Q_X5_copies 53),
  (53, i_c (nI 0) 54),
  (54, i_is 13 56),
  (56, i_il 13 58),
  (58, i_il 4 60),
  (60, i_icge 132 63),
  (63, i_il 10 65),
  (65, i_il 13 67),
  (67, i_ishr 68),
  (68, i_c (nI 1) 69),
  (69, i_iand 70),
  (70, i_c (nI 1) 71),
  (71, i_icne 78 74),
  (74, i_c (nI 1) 75),
  (75, i_go 79),
  (78, i_c (nI 0) 79),
  (79, i_is 14 81),
  (81, i_ll 11 83),
  (83, i_il 14 85),
  (85, i_ifeq 93 88),
  (88, i_il 1 89),
  (89, i_i2l 90),
  (90, i_go 98),
  (93, i_c (nI 10) 95),
  (95, i_il 1 96),
  (96, i_isub 97),
  (97, i_i2l 98),
  (98, i_lmul 99),
  (99, i_ls 11 101),
  (101, i_al 0 102),
  (102, i_c (nI 196) 105),
  (105, i_il 14 107),
  (107, i_ifeq 115 110),
  (110, i_c (nI 9) 112),
  (112, i_go 122),
  (115, i_al 0 116),
  (116, i_c (nI 196) 119),
  (119, i_ci 2 P_X5_dampOn Q_X5_dampOn 122),
  (122, i_ci 3 P_X5_dayOn Q_X5_dayOn 125),
  (125, i_pop 126),
  (126, i_inc 13 (nI 1) 129),
  (129, i_go 56),
  (132, i_ll 6 134),
  (134, i_ll 11 136),
  (136, i_il 2 137),
  (137, i_c (-4) 139),
  (139, i_icne 154 142),
  (142, i_al 0 143),
  (143, i_c (nI 196) 146),
  (146, i_c (-4) 148),
  (148, i_ci 3 P_X5_crumbsOn Q_X5_crumbsOn 151),
  (151, i_go 166),
  (154, i_al 0 155),
  (155, i_c (nI 196) 158),
  (158, i_il 2 159),
  (159, i_ci 3 P_X5_subjectsOn Q_X5_subjectsOn 162),
  (162, i_il 3 163),
  (163, i_ishr 164),
  (164, i_c (nI 1) 165),
  (165, i_iand 166),
  (166, i_i2l 167),
  (167, i_lmul 168),
  (168, i_ladd 169),
  (169, i_ls 6 171),
  (171, i_inc 10 (nI 1) 174),
  (174, i_go 33),
  (177, i_ll 6 179),
  (179, i_ll 8 181),
  (181, i_il 5 183),
  (183, i_cL 3 P_X5_lowest Q_X5_lowest 186),
  (186, i_lr)]
theorem k_X5_byDamp : ∀ q ∈ T_X5_byDamp, pm_sd RX5 cX5_byDamp 15 6 2 q.1 q.2 := by
  unfold T_X5_byDamp
  refine pm_cn (sd_lconst (z := 0) (by decide +kernel) (by decide +kernel) rfl) ?_
  refine pm_cn (sd_ls (by decide +kernel) rfl (by decide)) ?_
  refine pm_cn (sd_lconst (z := 1) (by decide +kernel) (by decide +kernel) rfl) ?_
  refine pm_cn (sd_ls (by decide +kernel) rfl (by decide)) ?_
  refine pm_cn (sd_iconst (z := 0) (by decide +kernel) (by decide +kernel) rfl) ?_
  refine pm_cn (sd_is (by decide +kernel) rfl (by decide)) ?_
  refine pm_cn (sd_il (by decide +kernel) rfl) ?_
  refine pm_cn (sd_il (by decide +kernel) rfl) ?_
  refine pm_cn (sd_icge (off := 17) (by decide +kernel) (by decide) rfl) ?_
  refine pm_cn (sd_ll (by decide +kernel) rfl) ?_
  refine pm_cn (sd_ldc2 (k := 208) (by decide +kernel) (pm_tin (by decide +kernel) rfl) rfl) ?_
  refine pm_cn (sd_lmul (by decide +kernel) rfl) ?_
  refine pm_cn (sd_ls (by decide +kernel) rfl (by decide)) ?_
  refine pm_cn (sd_inc (z := 1) (by decide +kernel) (by decide +kernel) rfl (by decide)) ?_
  refine pm_cn (sd_go (off := -18) (by decide +kernel) (by decide)) ?_
  refine pm_cn (sd_iconst (z := 0) (by decide +kernel) (by decide +kernel) rfl) ?_
  refine pm_cn (sd_is (by decide +kernel) rfl (by decide)) ?_
  refine pm_cn (sd_il (by decide +kernel) rfl) ?_
  refine pm_cn (sd_iconst (z := 1) (by decide +kernel) (by decide +kernel) rfl) ?_
  refine pm_cn (sd_il (by decide +kernel) rfl) ?_
  refine pm_cn (sd_ishl (by decide +kernel) rfl) ?_
  refine pm_cn (sd_icge (off := 138) (by decide +kernel) (by decide) rfl) ?_
  refine pm_cn (sd_lconst (z := 1) (by decide +kernel) (by decide +kernel) rfl) ?_
  refine pm_cn (sd_ls (by decide +kernel) rfl (by decide)) ?_
  refine pm_cn (sd_aln (k := 0) (by decide +kernel) rfl rfl) ?_
  refine pm_cn (sd_iconst (z := 0) (by decide +kernel) (by decide +kernel) rfl) ?_
  refine pm_cn (sd_sipush (z := 196) (by decide +kernel) (by decide +kernel) rfl) ?_
  refine pm_cn (sd_cvv M_X5_copies cd_X5_copies rc_X5_copies cl5_ ml_X5_190 im_X5_copies se_X5_copies nt_X5 (by decide +kernel) (by omega) (by decide) (by decide +kernel) rfl) ?_
  refine pm_cn (sd_iconst (z := 0) (by decide +kernel) (by decide +kernel) rfl) ?_
  refine pm_cn (sd_is (by decide +kernel) rfl (by decide)) ?_
  refine pm_cn (sd_il (by decide +kernel) rfl) ?_
  refine pm_cn (sd_il (by decide +kernel) rfl) ?_
  refine pm_cn (sd_icge (off := 72) (by decide +kernel) (by decide) rfl) ?_
  refine pm_cn (sd_il (by decide +kernel) rfl) ?_
  refine pm_cn (sd_il (by decide +kernel) rfl) ?_
  refine pm_cn (sd_ishr (by decide +kernel) rfl) ?_
  refine pm_cn (sd_iconst (z := 1) (by decide +kernel) (by decide +kernel) rfl) ?_
  refine pm_cn (sd_iand (by decide +kernel) rfl) ?_
  refine pm_cn (sd_iconst (z := 1) (by decide +kernel) (by decide +kernel) rfl) ?_
  refine pm_cn (sd_icne (off := 7) (by decide +kernel) (by decide) rfl) ?_
  refine pm_cn (sd_iconst (z := 1) (by decide +kernel) (by decide +kernel) rfl) ?_
  refine pm_cn (sd_go (off := 4) (by decide +kernel) (by decide)) ?_
  refine pm_cn (sd_iconst (z := 0) (by decide +kernel) (by decide +kernel) rfl) ?_
  refine pm_cn (sd_is (by decide +kernel) rfl (by decide)) ?_
  refine pm_cn (sd_ll (by decide +kernel) rfl) ?_
  refine pm_cn (sd_il (by decide +kernel) rfl) ?_
  refine pm_cn (sd_ifeq (off := 8) (by decide +kernel) (by decide) rfl) ?_
  refine pm_cn (sd_iln (k := 1) (by decide +kernel) rfl rfl) ?_
  refine pm_cn (sd_i2l (by decide +kernel) rfl) ?_
  refine pm_cn (sd_go (off := 8) (by decide +kernel) (by decide)) ?_
  refine pm_cn (sd_bipush (z := 10) (by decide +kernel) (by decide +kernel) rfl) ?_
  refine pm_cn (sd_iln (k := 1) (by decide +kernel) rfl rfl) ?_
  refine pm_cn (sd_isub (by decide +kernel) rfl) ?_
  refine pm_cn (sd_i2l (by decide +kernel) rfl) ?_
  refine pm_cn (sd_lmul (by decide +kernel) rfl) ?_
  refine pm_cn (sd_ls (by decide +kernel) rfl (by decide)) ?_
  refine pm_cn (sd_aln (k := 0) (by decide +kernel) rfl rfl) ?_
  refine pm_cn (sd_sipush (z := 196) (by decide +kernel) (by decide +kernel) rfl) ?_
  refine pm_cn (sd_il (by decide +kernel) rfl) ?_
  refine pm_cn (sd_ifeq (off := 8) (by decide +kernel) (by decide) rfl) ?_
  refine pm_cn (sd_bipush (z := 9) (by decide +kernel) (by decide +kernel) rfl) ?_
  refine pm_cn (sd_go (off := 10) (by decide +kernel) (by decide)) ?_
  refine pm_cn (sd_aln (k := 0) (by decide +kernel) rfl rfl) ?_
  refine pm_cn (sd_sipush (z := 196) (by decide +kernel) (by decide +kernel) rfl) ?_
  refine pm_cn (sd_civ M_X5_dampOn (by decide) cd_X5_dampOn rc_X5_dampOn cl5_ ml_X5_150 im_X5_dampOn se_X5_dampOn nt_X5 (by decide +kernel) (by omega) (by decide) (by decide +kernel) rfl) ?_
  refine pm_cn (sd_civ M_X5_dayOn (by decide) cd_X5_dayOn rc_X5_dayOn cl5_ ml_X5_187 im_X5_dayOn se_X5_dayOn nt_X5 (by decide +kernel) (by omega) (by decide) (by decide +kernel) rfl) ?_
  refine pm_cn (sd_pop (by decide +kernel) rfl) ?_
  refine pm_cn (sd_inc (z := 1) (by decide +kernel) (by decide +kernel) rfl (by decide)) ?_
  refine pm_cn (sd_go (off := -73) (by decide +kernel) (by decide)) ?_
  refine pm_cn (sd_ll (by decide +kernel) rfl) ?_
  refine pm_cn (sd_ll (by decide +kernel) rfl) ?_
  refine pm_cn (sd_iln (k := 2) (by decide +kernel) rfl rfl) ?_
  refine pm_cn (sd_bipush (z := -4) (by decide +kernel) (by decide +kernel) rfl) ?_
  refine pm_cn (sd_icne (off := 15) (by decide +kernel) (by decide) rfl) ?_
  refine pm_cn (sd_aln (k := 0) (by decide +kernel) rfl rfl) ?_
  refine pm_cn (sd_sipush (z := 196) (by decide +kernel) (by decide +kernel) rfl) ?_
  refine pm_cn (sd_bipush (z := -4) (by decide +kernel) (by decide +kernel) rfl) ?_
  refine pm_cn (sd_civ M_X5_crumbsOn (by decide) cd_X5_crumbsOn rc_X5_crumbsOn cl5_ ml_X5_153 im_X5_crumbsOn se_X5_crumbsOn nt_X5 (by decide +kernel) (by omega) (by decide) (by decide +kernel) rfl) ?_
  refine pm_cn (sd_go (off := 15) (by decide +kernel) (by decide)) ?_
  refine pm_cn (sd_aln (k := 0) (by decide +kernel) rfl rfl) ?_
  refine pm_cn (sd_sipush (z := 196) (by decide +kernel) (by decide +kernel) rfl) ?_
  refine pm_cn (sd_iln (k := 2) (by decide +kernel) rfl rfl) ?_
  refine pm_cn (sd_civ M_X5_subjectsOn (by decide) cd_X5_subjectsOn rc_X5_subjectsOn cl5_ ml_X5_134 im_X5_subjectsOn se_X5_subjectsOn nt_X5 (by decide +kernel) (by omega) (by decide) (by decide +kernel) rfl) ?_
  refine pm_cn (sd_iln (k := 3) (by decide +kernel) rfl rfl) ?_
  refine pm_cn (sd_ishr (by decide +kernel) rfl) ?_
  refine pm_cn (sd_iconst (z := 1) (by decide +kernel) (by decide +kernel) rfl) ?_
  refine pm_cn (sd_iand (by decide +kernel) rfl) ?_
  refine pm_cn (sd_i2l (by decide +kernel) rfl) ?_
  refine pm_cn (sd_lmul (by decide +kernel) rfl) ?_
  refine pm_cn (sd_ladd (by decide +kernel) rfl) ?_
  refine pm_cn (sd_ls (by decide +kernel) rfl (by decide)) ?_
  refine pm_cn (sd_inc (z := 1) (by decide +kernel) (by decide +kernel) rfl (by decide)) ?_
  refine pm_cn (sd_go (off := -141) (by decide +kernel) (by decide)) ?_
  refine pm_cn (sd_ll (by decide +kernel) rfl) ?_
  refine pm_cn (sd_ll (by decide +kernel) rfl) ?_
  refine pm_cn (sd_il (by decide +kernel) rfl) ?_
  refine pm_cn (sd_cLs M_X5_lowest cd_X5_lowest ml_X5_210 st_X5_lowest nt_X5 (by decide +kernel) (by omega) (by decide) (by decide +kernel) rfl) ?_
  refine pm_cn (sd_lr (by decide +kernel)) ?_
  exact fun _ h => absurd h List.not_mem_nil
set_option maxHeartbeats 800000 in
set_option maxRecDepth 100000 in
theorem pf_X5_byDamp : pm_pf T_X5_byDamp P_X5_byDamp (pm_pl2 Q_X5_byDamp) := by
  rintro ⟨v, o, f, s, n, w, N, h0⟩ av h K hK ⟨rfl, rfl, ⟨hP, wN, hF⟩, hd, hv, hf, hs, hn⟩ hret
  show K (some 0) ([(0, vR 5 0 0), (1, vI (nI v)), (2, vI (sp_fo o f)), (3, vI (nI s)), (4, vI (nI n)), (5, vI w)], [], h)
  have hp10 := p10 hn
  have hp2 : 2 ^ n ≤ 256 := Nat.pow_le_pow_right (by decide) hn
  have hW := sp_w_le (o := o) (f := f) (s := s) (v := v) (d := N 0 8) hv wN.2.2.1 n N wN (by omega)
  have hW2 : 594 * 10 ^ n ≤ 594 * 100000000 := Nat.mul_le_mul_left 594 hp10.1
  have hsum := dp_sum (o := o) (f := f) (s := s) (v := v) (d := N 0 8) n N rfl
  have outer : ∀ k m u H, m + k = 2 ^ n → u = sp_sum (fun m => od v m n * sp_out o f s (dp N m n)) m → mf h H → K (some 33) ([(0, vR 5 0 0), (1, vI (nI v)), (2, vI (sp_fo o f)), (3, vI (nI s)), (4, vI (nI n)), (5, vI w), (6, vJ (lN u)), (8, vJ (lN (10 ^ n))), (10, vI (nI m))], [], H) := by
    intro k
    induction k with
    | zero =>
      intro m u H hm hu hH
      have hm2 : m = 2 ^ n := by omega
      rw [hm2, hsum] at hu
      refine hK [(33, [0, 1, 2, 3, 4, 5, 6, 8, 10]), (56, [0, 1, 2, 3, 4, 5, 6, 8, 10, 11, 13])] 60 _ _ ?_
      conv => whnf
      repeat' (first
        | (refine ⟨fun c9 => ?_, fun c9 => ?_⟩ <;> (try simp (disch := omega) only [nI_leI, nI_ltI, nI_eq, nz_eq, nz_lt, nz_gt, nz_le, nz_ge, nz_00, nz_n1, nI_add, pk_mul, pk_sub, nI_shl1, nI_or, nI_half2, nI_min2, la_put_eq, la_up, lr_same, lr_ne, lu_same, lu_ne, not_true_eq_false, not_false_eq_true] at c9) <;> first | (exfalso; omega) | conv => whnf)
        | (refine ⟨_, rfl, by omega, ?_⟩; conv => whnf)
        | (refine ⟨_, rfl, rfl, rfl, by decide, by decide, ?_⟩; conv => whnf)
        | (refine ⟨_, by (simp (disch := omega) only [nI_leI, nI_ltI, nI_eq, nz_eq, nz_lt, nz_gt, nz_le, nz_ge, nz_00, nz_n1, nI_add, pk_mul, pk_sub, nI_shl1, nI_or, nI_half2, nI_min2, la_put_eq, la_up, lr_same, lr_ne, lu_same, lu_ne, not_true_eq_false, not_false_eq_true]; rfl), by omega, ?_⟩; conv => whnf)
        | (apply And.intro; (first | assumption | decide | (simp (disch := omega) only [nI_leI, nI_ltI, nI_eq, nz_eq, nz_lt, nz_gt, nz_le, nz_ge, nz_00, nz_n1, nI_add, pk_mul, pk_sub, nI_shl1, nI_or, nI_half2, nI_min2, la_put_eq, la_up, lr_same, lr_ne, lu_same, lu_ne, not_true_eq_false, not_false_eq_true]; omega)); conv => whnf))
      all_goals (try simp (disch := omega) only [nI_leI, nI_ltI, nI_eq, nz_eq, nz_lt, nz_gt, nz_le, nz_ge, nz_00, nz_n1, nI_add, pk_mul, pk_sub, nI_shl1, nI_or, nI_half2, nI_min2, la_put_eq, la_up, lr_same, lr_ne, lu_same, lu_ne, not_true_eq_false, not_false_eq_true])
      refine ⟨(u, 10 ^ n, w, H), ⟨rfl, rfl, hp10.2, by omega, by omega⟩, fun r h' hq => ?_⟩
      obtain ⟨rfl, rfl⟩ := hq
      conv => whnf
      repeat' (first
        | (refine ⟨fun c9 => ?_, fun c9 => ?_⟩ <;> (try simp (disch := omega) only [nI_leI, nI_ltI, nI_eq, nz_eq, nz_lt, nz_gt, nz_le, nz_ge, nz_00, nz_n1, nI_add, pk_mul, pk_sub, nI_shl1, nI_or, nI_half2, nI_min2, la_put_eq, la_up, lr_same, lr_ne, lu_same, lu_ne, not_true_eq_false, not_false_eq_true] at c9) <;> first | (exfalso; omega) | conv => whnf)
        | (refine ⟨_, rfl, by omega, ?_⟩; conv => whnf)
        | (refine ⟨_, rfl, rfl, rfl, by decide, by decide, ?_⟩; conv => whnf)
        | (refine ⟨_, by (simp (disch := omega) only [nI_leI, nI_ltI, nI_eq, nz_eq, nz_lt, nz_gt, nz_le, nz_ge, nz_00, nz_n1, nI_add, pk_mul, pk_sub, nI_shl1, nI_or, nI_half2, nI_min2, la_put_eq, la_up, lr_same, lr_ne, lu_same, lu_ne, not_true_eq_false, not_false_eq_true]; rfl), by omega, ?_⟩; conv => whnf)
        | (apply And.intro; (first | assumption | decide | (simp (disch := omega) only [nI_leI, nI_ltI, nI_eq, nz_eq, nz_lt, nz_gt, nz_le, nz_ge, nz_00, nz_n1, nI_add, pk_mul, pk_sub, nI_shl1, nI_or, nI_half2, nI_min2, la_put_eq, la_up, lr_same, lr_ne, lu_same, lu_ne, not_true_eq_false, not_false_eq_true]; omega)); conv => whnf))
      all_goals (try simp (disch := omega) only [nI_leI, nI_ltI, nI_eq, nz_eq, nz_lt, nz_gt, nz_le, nz_ge, nz_00, nz_n1, nI_add, pk_mul, pk_sub, nI_shl1, nI_or, nI_half2, nI_min2, la_put_eq, la_up, lr_same, lr_ne, lu_same, lu_ne, not_true_eq_false, not_false_eq_true])
      exact hret _ _ ⟨hH, by rw [hu]⟩
    | succ k ih =>
      intro m u H hm hu hH
      have inner : ∀ k2 j c H, j + k2 = n → c = od v m j → mf h H → pg_at H 196 (dp N m j) → K (some 56) ([(0, vR 5 0 0), (1, vI (nI v)), (2, vI (sp_fo o f)), (3, vI (nI s)), (4, vI (nI n)), (5, vI w), (6, vJ (lN u)), (8, vJ (lN (10 ^ n))), (10, vI (nI m)), (11, vJ (lN c)), (13, vI (nI j))], [], H) := by
        intro k2
        induction k2 with
        | zero =>
          intro j c H hj hc hH hp
          have hjn : j = n := by omega
          subst hjn
          have wX := dp_ok wN (m := m) j (by omega)
          have hlt := sp_sub_lt wX true f
          have nx : ∀ z, z = sp_out o f s (dp N m j) → K (some 33) ([(0, vR 5 0 0), (1, vI (nI v)), (2, vI (sp_fo o f)), (3, vI (nI s)), (4, vI (nI j)), (5, vI w), (6, vJ (lN (u + c * z))), (8, vJ (lN (10 ^ j))), (10, vI (nI (m + 1)))], [], H) := by
            intro z hz
            refine ih (m + 1) _ H (by omega) ?_ hH
            rw [sp_sum, ← hu, ← hc, ← hz]
          cases o with
          | true =>
            refine hK [(33, [0, 1, 2, 3, 4, 5, 6, 8, 10]), (56, [0, 1, 2, 3, 4, 5, 6, 8, 10, 11, 13])] 60 _ _ ?_
            conv => whnf
            repeat' (first
              | (refine ⟨fun c9 => ?_, fun c9 => ?_⟩ <;> (try simp (disch := omega) only [nI_leI, nI_ltI, nI_eq, nz_eq, nz_lt, nz_gt, nz_le, nz_ge, nz_00, nz_n1, nI_add, pk_mul, pk_sub, nI_shl1, nI_or, nI_half2, nI_min2, la_put_eq, la_up, lr_same, lr_ne, lu_same, lu_ne, not_true_eq_false, not_false_eq_true, sp_fo, if_true, nI_n4] at c9) <;> first | (exfalso; omega) | conv => whnf)
              | (refine ⟨_, rfl, by omega, ?_⟩; conv => whnf)
              | (refine ⟨_, rfl, rfl, rfl, by decide, by decide, ?_⟩; conv => whnf)
              | (refine ⟨_, by (simp (disch := omega) only [nI_leI, nI_ltI, nI_eq, nz_eq, nz_lt, nz_gt, nz_le, nz_ge, nz_00, nz_n1, nI_add, pk_mul, pk_sub, nI_shl1, nI_or, nI_half2, nI_min2, la_put_eq, la_up, lr_same, lr_ne, lu_same, lu_ne, not_true_eq_false, not_false_eq_true, sp_fo, if_true, nI_n4]; rfl), by omega, ?_⟩; conv => whnf)
              | (apply And.intro; (first | assumption | decide | (simp (disch := omega) only [nI_leI, nI_ltI, nI_eq, nz_eq, nz_lt, nz_gt, nz_le, nz_ge, nz_00, nz_n1, nI_add, pk_mul, pk_sub, nI_shl1, nI_or, nI_half2, nI_min2, la_put_eq, la_up, lr_same, lr_ne, lu_same, lu_ne, not_true_eq_false, not_false_eq_true, sp_fo, if_true, nI_n4]; omega)); conv => whnf))
            all_goals (try simp (disch := omega) only [nI_leI, nI_ltI, nI_eq, nz_eq, nz_lt, nz_gt, nz_le, nz_ge, nz_00, nz_n1, nI_add, pk_mul, pk_sub, nI_shl1, nI_or, nI_half2, nI_min2, la_put_eq, la_up, lr_same, lr_ne, lu_same, lu_ne, not_true_eq_false, not_false_eq_true, sp_fo, if_true, nI_n4])
            refine ⟨(196, true, f, dp N m j, _), ⟨rfl, rfl, hp, by decide, wX, hf⟩, fun r h' hq => ?_⟩
            obtain ⟨rfl, rfl⟩ := hq
            conv => whnf
            repeat' (first
              | (refine ⟨fun c9 => ?_, fun c9 => ?_⟩ <;> (try simp (disch := omega) only [nI_leI, nI_ltI, nI_eq, nz_eq, nz_lt, nz_gt, nz_le, nz_ge, nz_00, nz_n1, nI_add, pk_mul, pk_sub, nI_shl1, nI_or, nI_half2, nI_min2, la_put_eq, la_up, lr_same, lr_ne, lu_same, lu_ne, not_true_eq_false, not_false_eq_true, nI_bit, nI_64, lN_mul, lN_add] at c9) <;> first | (exfalso; omega) | conv => whnf)
              | (refine ⟨_, rfl, by omega, ?_⟩; conv => whnf)
              | (refine ⟨_, rfl, rfl, rfl, by decide, by decide, ?_⟩; conv => whnf)
              | (refine ⟨_, by (simp (disch := omega) only [nI_leI, nI_ltI, nI_eq, nz_eq, nz_lt, nz_gt, nz_le, nz_ge, nz_00, nz_n1, nI_add, pk_mul, pk_sub, nI_shl1, nI_or, nI_half2, nI_min2, la_put_eq, la_up, lr_same, lr_ne, lu_same, lu_ne, not_true_eq_false, not_false_eq_true, nI_bit, nI_64, lN_mul, lN_add]; rfl), by omega, ?_⟩; conv => whnf)
              | (apply And.intro; (first | assumption | decide | (simp (disch := omega) only [nI_leI, nI_ltI, nI_eq, nz_eq, nz_lt, nz_gt, nz_le, nz_ge, nz_00, nz_n1, nI_add, pk_mul, pk_sub, nI_shl1, nI_or, nI_half2, nI_min2, la_put_eq, la_up, lr_same, lr_ne, lu_same, lu_ne, not_true_eq_false, not_false_eq_true, nI_bit, nI_64, lN_mul, lN_add]; omega)); conv => whnf))
            all_goals (try simp (disch := omega) only [nI_leI, nI_ltI, nI_eq, nz_eq, nz_lt, nz_gt, nz_le, nz_ge, nz_00, nz_n1, nI_add, pk_mul, pk_sub, nI_shl1, nI_or, nI_half2, nI_min2, la_put_eq, la_up, lr_same, lr_ne, lu_same, lu_ne, not_true_eq_false, not_false_eq_true, nI_bit, nI_64, lN_mul, lN_add])
            exact nx _ sp_out_t.symm
          | false =>
            have hle : sp_crm false 0 (dp N m j) ≤ 594 := by rw [← sp_out_f (f := f) (s := s)]; exact sp_out_le wX false f s
            refine hK [(33, [0, 1, 2, 3, 4, 5, 6, 8, 10]), (56, [0, 1, 2, 3, 4, 5, 6, 8, 10, 11, 13])] 60 _ _ ?_
            conv => whnf
            repeat' (first
              | (refine ⟨fun c9 => ?_, fun c9 => ?_⟩ <;> (try simp (disch := omega) only [nI_leI, nI_ltI, nI_eq, nz_eq, nz_lt, nz_gt, nz_le, nz_ge, nz_00, nz_n1, nI_add, pk_mul, pk_sub, nI_shl1, nI_or, nI_half2, nI_min2, la_put_eq, la_up, lr_same, lr_ne, lu_same, lu_ne, not_true_eq_false, not_false_eq_true] at c9) <;> first | (exfalso; omega) | conv => whnf)
              | (refine ⟨_, rfl, by omega, ?_⟩; conv => whnf)
              | (refine ⟨_, rfl, rfl, rfl, by decide, by decide, ?_⟩; conv => whnf)
              | (refine ⟨_, by (simp (disch := omega) only [nI_leI, nI_ltI, nI_eq, nz_eq, nz_lt, nz_gt, nz_le, nz_ge, nz_00, nz_n1, nI_add, pk_mul, pk_sub, nI_shl1, nI_or, nI_half2, nI_min2, la_put_eq, la_up, lr_same, lr_ne, lu_same, lu_ne, not_true_eq_false, not_false_eq_true]; rfl), by omega, ?_⟩; conv => whnf)
              | (apply And.intro; (first | assumption | decide | (simp (disch := omega) only [nI_leI, nI_ltI, nI_eq, nz_eq, nz_lt, nz_gt, nz_le, nz_ge, nz_00, nz_n1, nI_add, pk_mul, pk_sub, nI_shl1, nI_or, nI_half2, nI_min2, la_put_eq, la_up, lr_same, lr_ne, lu_same, lu_ne, not_true_eq_false, not_false_eq_true]; omega)); conv => whnf))
            all_goals (try simp (disch := omega) only [nI_leI, nI_ltI, nI_eq, nz_eq, nz_lt, nz_gt, nz_le, nz_ge, nz_00, nz_n1, nI_add, pk_mul, pk_sub, nI_shl1, nI_or, nI_half2, nI_min2, la_put_eq, la_up, lr_same, lr_ne, lu_same, lu_ne, not_true_eq_false, not_false_eq_true])
            · exact absurd rfl (by assumption)
            · refine ⟨(196, false, 0, dp N m j, _), ⟨rfl, rfl, hp, by decide, wX, by decide⟩, fun r h' hq => ?_⟩
              obtain ⟨rfl, rfl⟩ := hq
              conv => whnf
              repeat' (first
                | (refine ⟨fun c9 => ?_, fun c9 => ?_⟩ <;> (try simp (disch := omega) only [nI_leI, nI_ltI, nI_eq, nz_eq, nz_lt, nz_gt, nz_le, nz_ge, nz_00, nz_n1, nI_add, pk_mul, pk_sub, nI_shl1, nI_or, nI_half2, nI_min2, la_put_eq, la_up, lr_same, lr_ne, lu_same, lu_ne, not_true_eq_false, not_false_eq_true, nI_64, lN_mul, lN_add] at c9) <;> first | (exfalso; omega) | conv => whnf)
                | (refine ⟨_, rfl, by omega, ?_⟩; conv => whnf)
                | (refine ⟨_, rfl, rfl, rfl, by decide, by decide, ?_⟩; conv => whnf)
                | (refine ⟨_, by (simp (disch := omega) only [nI_leI, nI_ltI, nI_eq, nz_eq, nz_lt, nz_gt, nz_le, nz_ge, nz_00, nz_n1, nI_add, pk_mul, pk_sub, nI_shl1, nI_or, nI_half2, nI_min2, la_put_eq, la_up, lr_same, lr_ne, lu_same, lu_ne, not_true_eq_false, not_false_eq_true, nI_64, lN_mul, lN_add]; rfl), by omega, ?_⟩; conv => whnf)
                | (apply And.intro; (first | assumption | decide | (simp (disch := omega) only [nI_leI, nI_ltI, nI_eq, nz_eq, nz_lt, nz_gt, nz_le, nz_ge, nz_00, nz_n1, nI_add, pk_mul, pk_sub, nI_shl1, nI_or, nI_half2, nI_min2, la_put_eq, la_up, lr_same, lr_ne, lu_same, lu_ne, not_true_eq_false, not_false_eq_true, nI_64, lN_mul, lN_add]; omega)); conv => whnf))
              all_goals (try simp (disch := omega) only [nI_leI, nI_ltI, nI_eq, nz_eq, nz_lt, nz_gt, nz_le, nz_ge, nz_00, nz_n1, nI_add, pk_mul, pk_sub, nI_shl1, nI_or, nI_half2, nI_min2, la_put_eq, la_up, lr_same, lr_ne, lu_same, lu_ne, not_true_eq_false, not_false_eq_true, nI_64, lN_mul, lN_add])
              exact nx _ sp_out_f.symm
        | succ k2 ih2 =>
          intro j c H hj hc hH hp
          have wX := dp_ok wN (m := m) j (by omega)
          have hdd := dp_day (N := N) (m := m) j
          obtain ⟨a, ha⟩ := ex_nI (H 5 0 0 17)
          have e00 : dp N m j 0 0 = N 0 0 := dp_s (by decide) (by decide) (by decide) j
          refine hK [(33, [0, 1, 2, 3, 4, 5, 6, 8, 10]), (56, [0, 1, 2, 3, 4, 5, 6, 8, 10, 11, 13])] 60 _ _ ?_
          conv => whnf
          repeat' (first
            | (refine ⟨fun c9 => ?_, fun c9 => ?_⟩ <;> (try simp (disch := omega) only [nI_leI, nI_ltI, nI_eq, nz_eq, nz_lt, nz_gt, nz_le, nz_ge, nz_00, nz_n1, nI_add, pk_mul, pk_sub, nI_shl1, nI_or, nI_half2, nI_min2, la_put_eq, la_up, lr_same, lr_ne, lu_same, lu_ne, not_true_eq_false, not_false_eq_true, nI_bit, nI_64, lN_mul] at c9) <;> first | (exfalso; omega) | conv => whnf)
            | (refine ⟨_, rfl, by omega, ?_⟩; conv => whnf)
            | (refine ⟨_, rfl, rfl, rfl, by decide, by decide, ?_⟩; conv => whnf)
            | (refine ⟨_, by (simp (disch := omega) only [nI_leI, nI_ltI, nI_eq, nz_eq, nz_lt, nz_gt, nz_le, nz_ge, nz_00, nz_n1, nI_add, pk_mul, pk_sub, nI_shl1, nI_or, nI_half2, nI_min2, la_put_eq, la_up, lr_same, lr_ne, lu_same, lu_ne, not_true_eq_false, not_false_eq_true, nI_bit, nI_64, lN_mul]; rfl), by omega, ?_⟩; conv => whnf)
            | (apply And.intro; (first | assumption | decide | (simp (disch := omega) only [nI_leI, nI_ltI, nI_eq, nz_eq, nz_lt, nz_gt, nz_le, nz_ge, nz_00, nz_n1, nI_add, pk_mul, pk_sub, nI_shl1, nI_or, nI_half2, nI_min2, la_put_eq, la_up, lr_same, lr_ne, lu_same, lu_ne, not_true_eq_false, not_false_eq_true, nI_bit, nI_64, lN_mul]; omega)); conv => whnf))
          all_goals (try simp (disch := omega) only [nI_leI, nI_ltI, nI_eq, nz_eq, nz_lt, nz_gt, nz_le, nz_ge, nz_00, nz_n1, nI_add, pk_mul, pk_sub, nI_shl1, nI_or, nI_half2, nI_min2, la_put_eq, la_up, lr_same, lr_ne, lu_same, lu_ne, not_true_eq_false, not_false_eq_true, nI_bit, nI_64, lN_mul])
          · refine ⟨(196, dp N m j, _), ⟨rfl, rfl, hp, by decide⟩, fun r h' hq => ?_⟩
            obtain ⟨rfl, rfl⟩ := hq
            conv => whnf
            repeat' (first
              | (refine ⟨fun c9 => ?_, fun c9 => ?_⟩ <;> (try simp (disch := omega) only [nI_leI, nI_ltI, nI_eq, nz_eq, nz_lt, nz_gt, nz_le, nz_ge, nz_00, nz_n1, nI_add, pk_mul, pk_sub, nI_shl1, nI_or, nI_half2, nI_min2, la_put_eq, la_up, lr_same, lr_ne, lu_same, lu_ne, not_true_eq_false, not_false_eq_true] at c9) <;> first | (exfalso; omega) | conv => whnf)
              | (refine ⟨_, rfl, by omega, ?_⟩; conv => whnf)
              | (refine ⟨_, rfl, rfl, rfl, by decide, by decide, ?_⟩; conv => whnf)
              | (refine ⟨_, by (simp (disch := omega) only [nI_leI, nI_ltI, nI_eq, nz_eq, nz_lt, nz_gt, nz_le, nz_ge, nz_00, nz_n1, nI_add, pk_mul, pk_sub, nI_shl1, nI_or, nI_half2, nI_min2, la_put_eq, la_up, lr_same, lr_ne, lu_same, lu_ne, not_true_eq_false, not_false_eq_true]; rfl), by omega, ?_⟩; conv => whnf)
              | (apply And.intro; (first | assumption | decide | (simp (disch := omega) only [nI_leI, nI_ltI, nI_eq, nz_eq, nz_lt, nz_gt, nz_le, nz_ge, nz_00, nz_n1, nI_add, pk_mul, pk_sub, nI_shl1, nI_or, nI_half2, nI_min2, la_put_eq, la_up, lr_same, lr_ne, lu_same, lu_ne, not_true_eq_false, not_false_eq_true]; omega)); conv => whnf))
            all_goals (try simp (disch := omega) only [nI_leI, nI_ltI, nI_eq, nz_eq, nz_lt, nz_gt, nz_le, nz_ge, nz_00, nz_n1, nI_add, pk_mul, pk_sub, nI_shl1, nI_or, nI_half2, nI_min2, la_put_eq, la_up, lr_same, lr_ne, lu_same, lu_ne, not_true_eq_false, not_false_eq_true])
            refine ⟨(196, dp N m j 0 8, a, dp N m j, _), ⟨rfl, rfl, hp, by decide, wX, wX.2.2.1, by omega, ha, by rw [mf_F hH hF, e00]⟩, fun v h' hq => ?_⟩
            obtain ⟨rfl, rfl⟩ := hq
            conv => whnf
            repeat' (first
              | (refine ⟨fun c9 => ?_, fun c9 => ?_⟩ <;> (try simp (disch := omega) only [nI_leI, nI_ltI, nI_eq, nz_eq, nz_lt, nz_gt, nz_le, nz_ge, nz_00, nz_n1, nI_add, pk_mul, pk_sub, nI_shl1, nI_or, nI_half2, nI_min2, la_put_eq, la_up, lr_same, lr_ne, lu_same, lu_ne, not_true_eq_false, not_false_eq_true] at c9) <;> first | (exfalso; omega) | conv => whnf)
              | (refine ⟨_, rfl, by omega, ?_⟩; conv => whnf)
              | (refine ⟨_, rfl, rfl, rfl, by decide, by decide, ?_⟩; conv => whnf)
              | (refine ⟨_, by (simp (disch := omega) only [nI_leI, nI_ltI, nI_eq, nz_eq, nz_lt, nz_gt, nz_le, nz_ge, nz_00, nz_n1, nI_add, pk_mul, pk_sub, nI_shl1, nI_or, nI_half2, nI_min2, la_put_eq, la_up, lr_same, lr_ne, lu_same, lu_ne, not_true_eq_false, not_false_eq_true]; rfl), by omega, ?_⟩; conv => whnf)
              | (apply And.intro; (first | assumption | decide | (simp (disch := omega) only [nI_leI, nI_ltI, nI_eq, nz_eq, nz_lt, nz_gt, nz_le, nz_ge, nz_00, nz_n1, nI_add, pk_mul, pk_sub, nI_shl1, nI_or, nI_half2, nI_min2, la_put_eq, la_up, lr_same, lr_ne, lu_same, lu_ne, not_true_eq_false, not_false_eq_true]; omega)); conv => whnf))
            all_goals (try simp (disch := omega) only [nI_leI, nI_ltI, nI_eq, nz_eq, nz_lt, nz_gt, nz_le, nz_ge, nz_00, nz_n1, nI_add, pk_mul, pk_sub, nI_shl1, nI_or, nI_half2, nI_min2, la_put_eq, la_up, lr_same, lr_ne, lu_same, lu_ne, not_true_eq_false, not_false_eq_true])
            refine ih2 (j + 1) _ _ (by omega) ?_ (mf_go hH) ?_
            · rw [od, ← hc, if_neg (by omega)]
            · rw [dp, if_neg (by omega)]; exact pg_put_at _ _ _
          · refine ⟨(196, 9, a, dp N m j, _), ⟨rfl, rfl, hp, by decide, wX, by decide, by omega, ha, by rw [mf_F hH hF, e00]⟩, fun v h' hq => ?_⟩
            obtain ⟨rfl, rfl⟩ := hq
            conv => whnf
            repeat' (first
              | (refine ⟨fun c9 => ?_, fun c9 => ?_⟩ <;> (try simp (disch := omega) only [nI_leI, nI_ltI, nI_eq, nz_eq, nz_lt, nz_gt, nz_le, nz_ge, nz_00, nz_n1, nI_add, pk_mul, pk_sub, nI_shl1, nI_or, nI_half2, nI_min2, la_put_eq, la_up, lr_same, lr_ne, lu_same, lu_ne, not_true_eq_false, not_false_eq_true] at c9) <;> first | (exfalso; omega) | conv => whnf)
              | (refine ⟨_, rfl, by omega, ?_⟩; conv => whnf)
              | (refine ⟨_, rfl, rfl, rfl, by decide, by decide, ?_⟩; conv => whnf)
              | (refine ⟨_, by (simp (disch := omega) only [nI_leI, nI_ltI, nI_eq, nz_eq, nz_lt, nz_gt, nz_le, nz_ge, nz_00, nz_n1, nI_add, pk_mul, pk_sub, nI_shl1, nI_or, nI_half2, nI_min2, la_put_eq, la_up, lr_same, lr_ne, lu_same, lu_ne, not_true_eq_false, not_false_eq_true]; rfl), by omega, ?_⟩; conv => whnf)
              | (apply And.intro; (first | assumption | decide | (simp (disch := omega) only [nI_leI, nI_ltI, nI_eq, nz_eq, nz_lt, nz_gt, nz_le, nz_ge, nz_00, nz_n1, nI_add, pk_mul, pk_sub, nI_shl1, nI_or, nI_half2, nI_min2, la_put_eq, la_up, lr_same, lr_ne, lu_same, lu_ne, not_true_eq_false, not_false_eq_true]; omega)); conv => whnf))
            all_goals (try simp (disch := omega) only [nI_leI, nI_ltI, nI_eq, nz_eq, nz_lt, nz_gt, nz_le, nz_ge, nz_00, nz_n1, nI_add, pk_mul, pk_sub, nI_shl1, nI_or, nI_half2, nI_min2, la_put_eq, la_up, lr_same, lr_ne, lu_same, lu_ne, not_true_eq_false, not_false_eq_true])
            refine ih2 (j + 1) _ _ (by omega) ?_ (mf_go hH) ?_
            · rw [od, ← hc, if_pos (by omega)]
            · rw [dp, if_pos (by omega)]; exact pg_put_at _ _ _
      refine hK [(33, [0, 1, 2, 3, 4, 5, 6, 8, 10]), (56, [0, 1, 2, 3, 4, 5, 6, 8, 10, 11, 13])] 60 _ _ ?_
      conv => whnf
      repeat' (first
        | (refine ⟨fun c9 => ?_, fun c9 => ?_⟩ <;> (try simp (disch := omega) only [nI_leI, nI_ltI, nI_eq, nz_eq, nz_lt, nz_gt, nz_le, nz_ge, nz_00, nz_n1, nI_add, pk_mul, pk_sub, nI_shl1, nI_or, nI_half2, nI_min2, la_put_eq, la_up, lr_same, lr_ne, lu_same, lu_ne, not_true_eq_false, not_false_eq_true] at c9) <;> first | (exfalso; omega) | conv => whnf)
        | (refine ⟨_, rfl, by omega, ?_⟩; conv => whnf)
        | (refine ⟨_, rfl, rfl, rfl, by decide, by decide, ?_⟩; conv => whnf)
        | (refine ⟨_, by (simp (disch := omega) only [nI_leI, nI_ltI, nI_eq, nz_eq, nz_lt, nz_gt, nz_le, nz_ge, nz_00, nz_n1, nI_add, pk_mul, pk_sub, nI_shl1, nI_or, nI_half2, nI_min2, la_put_eq, la_up, lr_same, lr_ne, lu_same, lu_ne, not_true_eq_false, not_false_eq_true]; rfl), by omega, ?_⟩; conv => whnf)
        | (apply And.intro; (first | assumption | decide | (simp (disch := omega) only [nI_leI, nI_ltI, nI_eq, nz_eq, nz_lt, nz_gt, nz_le, nz_ge, nz_00, nz_n1, nI_add, pk_mul, pk_sub, nI_shl1, nI_or, nI_half2, nI_min2, la_put_eq, la_up, lr_same, lr_ne, lu_same, lu_ne, not_true_eq_false, not_false_eq_true]; omega)); conv => whnf))
      all_goals (try simp (disch := omega) only [nI_leI, nI_ltI, nI_eq, nz_eq, nz_lt, nz_gt, nz_le, nz_ge, nz_00, nz_n1, nI_add, pk_mul, pk_sub, nI_shl1, nI_or, nI_half2, nI_min2, la_put_eq, la_up, lr_same, lr_ne, lu_same, lu_ne, not_true_eq_false, not_false_eq_true])
      refine ⟨(0, 196, N, _), ⟨rfl, rfl, mf_P hH hP, by decide, by decide, by omega⟩, fun h'' hq => ?_⟩
      have hq' : h'' = _ := hq
      subst hq'
      conv => whnf
      repeat' (first
        | (refine ⟨fun c9 => ?_, fun c9 => ?_⟩ <;> (try simp (disch := omega) only [nI_leI, nI_ltI, nI_eq, nz_eq, nz_lt, nz_gt, nz_le, nz_ge, nz_00, nz_n1, nI_add, pk_mul, pk_sub, nI_shl1, nI_or, nI_half2, nI_min2, la_put_eq, la_up, lr_same, lr_ne, lu_same, lu_ne, not_true_eq_false, not_false_eq_true] at c9) <;> first | (exfalso; omega) | conv => whnf)
        | (refine ⟨_, rfl, by omega, ?_⟩; conv => whnf)
        | (refine ⟨_, rfl, rfl, rfl, by decide, by decide, ?_⟩; conv => whnf)
        | (refine ⟨_, by (simp (disch := omega) only [nI_leI, nI_ltI, nI_eq, nz_eq, nz_lt, nz_gt, nz_le, nz_ge, nz_00, nz_n1, nI_add, pk_mul, pk_sub, nI_shl1, nI_or, nI_half2, nI_min2, la_put_eq, la_up, lr_same, lr_ne, lu_same, lu_ne, not_true_eq_false, not_false_eq_true]; rfl), by omega, ?_⟩; conv => whnf)
        | (apply And.intro; (first | assumption | decide | (simp (disch := omega) only [nI_leI, nI_ltI, nI_eq, nz_eq, nz_lt, nz_gt, nz_le, nz_ge, nz_00, nz_n1, nI_add, pk_mul, pk_sub, nI_shl1, nI_or, nI_half2, nI_min2, la_put_eq, la_up, lr_same, lr_ne, lu_same, lu_ne, not_true_eq_false, not_false_eq_true]; omega)); conv => whnf))
      all_goals (try simp (disch := omega) only [nI_leI, nI_ltI, nI_eq, nz_eq, nz_lt, nz_gt, nz_le, nz_ge, nz_00, nz_n1, nI_add, pk_mul, pk_sub, nI_shl1, nI_or, nI_half2, nI_min2, la_put_eq, la_up, lr_same, lr_ne, lu_same, lu_ne, not_true_eq_false, not_false_eq_true])
      exact inner n 0 1 _ (by omega) rfl (mf_pg hH (by decide)) (pg_put_at _ _ _)
  have pw : ∀ k j c, j + k = n → c = 10 ^ j → K (some 9) ([(0, vR 5 0 0), (1, vI (nI v)), (2, vI (sp_fo o f)), (3, vI (nI s)), (4, vI (nI n)), (5, vI w), (6, vJ (lN 0)), (8, vJ (lN c)), (10, vI (nI j))], [], h) := by
    intro k
    induction k with
    | zero =>
      intro j c hj hc
      have hjn : j = n := by omega
      subst hjn
      refine hK [(9, [0, 1, 2, 3, 4, 5, 6, 8, 10]), (33, [0, 1, 2, 3, 4, 5, 6, 8, 10]), (56, [0, 1, 2, 3, 4, 5, 6, 8, 10, 11, 13])] 60 _ _ ?_
      conv => whnf
      repeat' (first
        | (refine ⟨fun c9 => ?_, fun c9 => ?_⟩ <;> (try simp (disch := omega) only [nI_leI, nI_ltI, nI_eq, nz_eq, nz_lt, nz_gt, nz_le, nz_ge, nz_00, nz_n1, nI_add, pk_mul, pk_sub, nI_shl1, nI_or, nI_half2, nI_min2, la_put_eq, la_up, lr_same, lr_ne, lu_same, lu_ne, not_true_eq_false, not_false_eq_true] at c9) <;> first | (exfalso; omega) | conv => whnf)
        | (refine ⟨_, rfl, by omega, ?_⟩; conv => whnf)
        | (refine ⟨_, rfl, rfl, rfl, by decide, by decide, ?_⟩; conv => whnf)
        | (refine ⟨_, by (simp (disch := omega) only [nI_leI, nI_ltI, nI_eq, nz_eq, nz_lt, nz_gt, nz_le, nz_ge, nz_00, nz_n1, nI_add, pk_mul, pk_sub, nI_shl1, nI_or, nI_half2, nI_min2, la_put_eq, la_up, lr_same, lr_ne, lu_same, lu_ne, not_true_eq_false, not_false_eq_true]; rfl), by omega, ?_⟩; conv => whnf)
        | (apply And.intro; (first | assumption | decide | (simp (disch := omega) only [nI_leI, nI_ltI, nI_eq, nz_eq, nz_lt, nz_gt, nz_le, nz_ge, nz_00, nz_n1, nI_add, pk_mul, pk_sub, nI_shl1, nI_or, nI_half2, nI_min2, la_put_eq, la_up, lr_same, lr_ne, lu_same, lu_ne, not_true_eq_false, not_false_eq_true]; omega)); conv => whnf))
      all_goals (try simp (disch := omega) only [nI_leI, nI_ltI, nI_eq, nz_eq, nz_lt, nz_gt, nz_le, nz_ge, nz_00, nz_n1, nI_add, pk_mul, pk_sub, nI_shl1, nI_or, nI_half2, nI_min2, la_put_eq, la_up, lr_same, lr_ne, lu_same, lu_ne, not_true_eq_false, not_false_eq_true])
      rw [hc]
      exact outer (2 ^ j) 0 0 h (by omega) rfl (mf_self _)
    | succ k ih =>
      intro j c hj hc
      refine hK [(9, [0, 1, 2, 3, 4, 5, 6, 8, 10]), (33, [0, 1, 2, 3, 4, 5, 6, 8, 10]), (56, [0, 1, 2, 3, 4, 5, 6, 8, 10, 11, 13])] 60 _ _ ?_
      conv => whnf
      repeat' (first
        | (refine ⟨fun c9 => ?_, fun c9 => ?_⟩ <;> (try simp (disch := omega) only [nI_leI, nI_ltI, nI_eq, nz_eq, nz_lt, nz_gt, nz_le, nz_ge, nz_00, nz_n1, nI_add, pk_mul, pk_sub, nI_shl1, nI_or, nI_half2, nI_min2, la_put_eq, la_up, lr_same, lr_ne, lu_same, lu_ne, not_true_eq_false, not_false_eq_true, lN_mul] at c9) <;> first | (exfalso; omega) | conv => whnf)
        | (refine ⟨_, rfl, by omega, ?_⟩; conv => whnf)
        | (refine ⟨_, rfl, rfl, rfl, by decide, by decide, ?_⟩; conv => whnf)
        | (refine ⟨_, by (simp (disch := omega) only [nI_leI, nI_ltI, nI_eq, nz_eq, nz_lt, nz_gt, nz_le, nz_ge, nz_00, nz_n1, nI_add, pk_mul, pk_sub, nI_shl1, nI_or, nI_half2, nI_min2, la_put_eq, la_up, lr_same, lr_ne, lu_same, lu_ne, not_true_eq_false, not_false_eq_true, lN_mul]; rfl), by omega, ?_⟩; conv => whnf)
        | (apply And.intro; (first | assumption | decide | (simp (disch := omega) only [nI_leI, nI_ltI, nI_eq, nz_eq, nz_lt, nz_gt, nz_le, nz_ge, nz_00, nz_n1, nI_add, pk_mul, pk_sub, nI_shl1, nI_or, nI_half2, nI_min2, la_put_eq, la_up, lr_same, lr_ne, lu_same, lu_ne, not_true_eq_false, not_false_eq_true, lN_mul]; omega)); conv => whnf))
      all_goals (try simp (disch := omega) only [nI_leI, nI_ltI, nI_eq, nz_eq, nz_lt, nz_gt, nz_le, nz_ge, nz_00, nz_n1, nI_add, pk_mul, pk_sub, nI_shl1, nI_or, nI_half2, nI_min2, la_put_eq, la_up, lr_same, lr_ne, lu_same, lu_ne, not_true_eq_false, not_false_eq_true, lN_mul])
      exact ih (j + 1) _ (by omega) (by rw [hc, Nat.pow_succ])
  refine hK [(9, [0, 1, 2, 3, 4, 5, 6, 8, 10])] 60 _ _ ?_
  conv => whnf
  repeat' (first
    | (refine ⟨fun c9 => ?_, fun c9 => ?_⟩ <;> (try simp (disch := omega) only [nI_leI, nI_ltI, nI_eq, nz_eq, nz_lt, nz_gt, nz_le, nz_ge, nz_00, nz_n1, nI_add, pk_mul, pk_sub, nI_shl1, nI_or, nI_half2, nI_min2, la_put_eq, la_up, lr_same, lr_ne, lu_same, lu_ne, not_true_eq_false, not_false_eq_true] at c9) <;> first | (exfalso; omega) | conv => whnf)
    | (refine ⟨_, rfl, by omega, ?_⟩; conv => whnf)
    | (refine ⟨_, rfl, rfl, rfl, by decide, by decide, ?_⟩; conv => whnf)
    | (refine ⟨_, by (simp (disch := omega) only [nI_leI, nI_ltI, nI_eq, nz_eq, nz_lt, nz_gt, nz_le, nz_ge, nz_00, nz_n1, nI_add, pk_mul, pk_sub, nI_shl1, nI_or, nI_half2, nI_min2, la_put_eq, la_up, lr_same, lr_ne, lu_same, lu_ne, not_true_eq_false, not_false_eq_true]; rfl), by omega, ?_⟩; conv => whnf)
    | (apply And.intro; (first | assumption | decide | (simp (disch := omega) only [nI_leI, nI_ltI, nI_eq, nz_eq, nz_lt, nz_gt, nz_le, nz_ge, nz_00, nz_n1, nI_add, pk_mul, pk_sub, nI_shl1, nI_or, nI_half2, nI_min2, la_put_eq, la_up, lr_same, lr_ne, lu_same, lu_ne, not_true_eq_false, not_false_eq_true]; omega)); conv => whnf))
  all_goals (try simp (disch := omega) only [nI_leI, nI_ltI, nI_eq, nz_eq, nz_lt, nz_gt, nz_le, nz_ge, nz_00, nz_n1, nI_add, pk_mul, pk_sub, nI_shl1, nI_or, nI_half2, nI_min2, la_put_eq, la_up, lr_same, lr_ne, lu_same, lu_ne, not_true_eq_false, not_false_eq_true])
  exact pw n 0 1 (by omega) rfl
theorem M_X5_byDamp : pm_MT yX5_byDamp cX5_byDamp 15 2 6 P_X5_byDamp (pm_pl2 Q_X5_byDamp) := pm_met k_X5_byDamp (by decide) rfl (by
  rintro ⟨g0, g1, g2, g3, g4, g5, g6, g7⟩ av h hp
  rw [hp.1]
  exact Nat.le_of_ble_eq_true rfl) pf_X5_byDamp
theorem rc_X5_byDamp : ∀ g av h, P_X5_byDamp g av h → ∃ i t, av = .inr (.inr (5, i, 0)) :: t := by
  rintro ⟨g0, g1, g2, g3, g4, g5, g6, g7⟩ av h hp
  exact ⟨_, _, hp.1⟩
def P_X5_luck : Int32 × Int32 × Int32 × Int32 × Int32 × LD × pm_H → List pm_V → pm_H → Prop := fun g av h => match g with
  | (v, f, s, n, w, Y, h0) => av = [vR 5 0 0, vI v, vI f, vI s, vI n, vI w] ∧ h = h0 ∧ md h0 Y ∧ Y 0 10 ≤ 999
def Q_X5_luck : Int32 × Int32 × Int32 × Int32 × Int32 × LD × pm_H → Int64 → pm_H → Prop := fun g r h => match g with
  | (v, f, s, n, w, N, h0) => mf h0 h ∧ r = a_luck N v f s n w
def T_X5_luck : List (Nat × pm_T) := [
  (0, i_il 1 1),
  (1, i_i2l 2),
  (2, i_cl (lN 0) 3),
  (3, i_cl (lN 10) 6),
  (6, i_ci 3 P_X5_in Q_X5_in 9),
  (9, i_ifeq 65 12),
  (12, i_al 0 13),
  (13, i_il 2 14),
  (14, i_ci 2 P_X5_isFellow Q_X5_isFellow 17),
  (17, i_ifeq 65 20),
  (20, i_il 3 21),
  (21, i_ci 1 P_X5_isSubject Q_X5_isSubject 24),
  (24, i_ifeq 65 27),
  (27, i_il 4 29),
  (29, i_i2l 30),
  (30, i_cl (lN 0) 31),
  (31, i_cl (lN 8) 34),
  (34, i_ci 3 P_X5_in Q_X5_in 37),
  (37, i_ifeq 65 40),
  (40, i_il 5 42),
  (42, i_i2l 43),
  (43, i_cl (lN 0) 44),
  (44, i_cl (lN 1) 45),
  (45, i_ci 3 P_X5_in Q_X5_in 48),
  (48, i_ifeq 65 51),
  (51, i_al 0 52),
  (52, i_il 1 53),
  (53, i_il 2 54),
  (54, i_il 3 55),
  (55, i_il 4 57),
  (57, i_il 5 59),
  (59, i_cL 6 P_X5_byDamp Q_X5_byDamp 62),
  (62, i_go 68),
  (65, i_cl (-1) 68),
  (68, i_lr)]
theorem k_X5_luck : ∀ q ∈ T_X5_luck, pm_sd RX5 cX5_luck 6 7 2 q.1 q.2 := by
  unfold T_X5_luck
  refine pm_cn (sd_iln (k := 1) (by decide +kernel) rfl rfl) ?_
  refine pm_cn (sd_i2l (by decide +kernel) rfl) ?_
  refine pm_cn (sd_lconst (z := 0) (by decide +kernel) (by decide +kernel) rfl) ?_
  refine pm_cn (sd_ldc2 (k := 208) (by decide +kernel) (pm_tin (by decide +kernel) rfl) rfl) ?_
  refine pm_cn (sd_cis M_X5_in (by decide) cd_X5_in ml_X5_46 st_X5_in nt_X5 (by decide +kernel) (by omega) (by decide) (by decide +kernel) rfl) ?_
  refine pm_cn (sd_ifeq (off := 56) (by decide +kernel) (by decide) rfl) ?_
  refine pm_cn (sd_aln (k := 0) (by decide +kernel) rfl rfl) ?_
  refine pm_cn (sd_iln (k := 2) (by decide +kernel) rfl rfl) ?_
  refine pm_cn (sd_civ M_X5_isFellow (by decide) cd_X5_isFellow rc_X5_isFellow cl5_ ml_X5_156 im_X5_isFellow se_X5_isFellow nt_X5 (by decide +kernel) (by omega) (by decide) (by decide +kernel) rfl) ?_
  refine pm_cn (sd_ifeq (off := 48) (by decide +kernel) (by decide) rfl) ?_
  refine pm_cn (sd_iln (k := 3) (by decide +kernel) rfl rfl) ?_
  refine pm_cn (sd_cis M_X5_isSubject (by decide) cd_X5_isSubject ml_X5_164 st_X5_isSubject nt_X5 (by decide +kernel) (by omega) (by decide) (by decide +kernel) rfl) ?_
  refine pm_cn (sd_ifeq (off := 41) (by decide +kernel) (by decide) rfl) ?_
  refine pm_cn (sd_il (by decide +kernel) rfl) ?_
  refine pm_cn (sd_i2l (by decide +kernel) rfl) ?_
  refine pm_cn (sd_lconst (z := 0) (by decide +kernel) (by decide +kernel) rfl) ?_
  refine pm_cn (sd_ldc2 (k := 214) (by decide +kernel) (pm_tin (by decide +kernel) rfl) rfl) ?_
  refine pm_cn (sd_cis M_X5_in (by decide) cd_X5_in ml_X5_46 st_X5_in nt_X5 (by decide +kernel) (by omega) (by decide) (by decide +kernel) rfl) ?_
  refine pm_cn (sd_ifeq (off := 28) (by decide +kernel) (by decide) rfl) ?_
  refine pm_cn (sd_il (by decide +kernel) rfl) ?_
  refine pm_cn (sd_i2l (by decide +kernel) rfl) ?_
  refine pm_cn (sd_lconst (z := 0) (by decide +kernel) (by decide +kernel) rfl) ?_
  refine pm_cn (sd_lconst (z := 1) (by decide +kernel) (by decide +kernel) rfl) ?_
  refine pm_cn (sd_cis M_X5_in (by decide) cd_X5_in ml_X5_46 st_X5_in nt_X5 (by decide +kernel) (by omega) (by decide) (by decide +kernel) rfl) ?_
  refine pm_cn (sd_ifeq (off := 17) (by decide +kernel) (by decide) rfl) ?_
  refine pm_cn (sd_aln (k := 0) (by decide +kernel) rfl rfl) ?_
  refine pm_cn (sd_iln (k := 1) (by decide +kernel) rfl rfl) ?_
  refine pm_cn (sd_iln (k := 2) (by decide +kernel) rfl rfl) ?_
  refine pm_cn (sd_iln (k := 3) (by decide +kernel) rfl rfl) ?_
  refine pm_cn (sd_il (by decide +kernel) rfl) ?_
  refine pm_cn (sd_il (by decide +kernel) rfl) ?_
  refine pm_cn (sd_cLv M_X5_byDamp cd_X5_byDamp rc_X5_byDamp cl5_ ml_X5_216 im_X5_byDamp se_X5_byDamp nt_X5 (by decide +kernel) (by omega) (by decide) (by decide +kernel) rfl) ?_
  refine pm_cn (sd_go (off := 6) (by decide +kernel) (by decide)) ?_
  refine pm_cn (sd_ldc2 (k := 220) (by decide +kernel) (pm_tin (by decide +kernel) rfl) rfl) ?_
  refine pm_cn (sd_lr (by decide +kernel)) ?_
  exact fun _ h => absurd h List.not_mem_nil
set_option maxHeartbeats 800000 in
set_option maxRecDepth 100000 in
theorem pf_X5_luck : pm_pf T_X5_luck P_X5_luck (pm_pl2 Q_X5_luck) := by
  rintro ⟨v, f, s, n, w, N, h0⟩ av h K hK ⟨rfl, rfl, hmd, hd⟩ hret
  obtain ⟨hP, wN, hF⟩ := id hmd
  have w1 := wN.1
  show K (some 0) ([(0, vR 5 0 0), (1, vI v), (2, vI f), (3, vI s), (4, vI n), (5, vI w)], [], h)
  refine hK [] 80 _ _ ?_
  conv => whnf
  repeat' (first
    | (refine ⟨fun c9 => ?_, fun c9 => ?_⟩ <;> (try simp (disch := omega) only [nI_leI, nI_ltI, nI_eq, nz_eq, nz_lt, nz_gt, nz_le, nz_ge, nz_00, nz_n1, nI_add, pk_mul, pk_sub, nI_shl1, nI_or, nI_half2, nI_min2, la_put_eq, la_up, lr_same, lr_ne, lu_same, lu_ne, not_true_eq_false, not_false_eq_true] at c9) <;> first | (exfalso; omega) | conv => whnf)
    | (refine ⟨_, rfl, by omega, ?_⟩; conv => whnf)
    | (refine ⟨_, rfl, rfl, rfl, by decide, by decide, ?_⟩; conv => whnf)
    | (refine ⟨_, by (simp (disch := omega) only [nI_leI, nI_ltI, nI_eq, nz_eq, nz_lt, nz_gt, nz_le, nz_ge, nz_00, nz_n1, nI_add, pk_mul, pk_sub, nI_shl1, nI_or, nI_half2, nI_min2, la_put_eq, la_up, lr_same, lr_ne, lu_same, lu_ne, not_true_eq_false, not_false_eq_true]; rfl), by omega, ?_⟩; conv => whnf)
    | (apply And.intro; (first | assumption | decide | (simp (disch := omega) only [nI_leI, nI_ltI, nI_eq, nz_eq, nz_lt, nz_gt, nz_le, nz_ge, nz_00, nz_n1, nI_add, pk_mul, pk_sub, nI_shl1, nI_or, nI_half2, nI_min2, la_put_eq, la_up, lr_same, lr_ne, lu_same, lu_ne, not_true_eq_false, not_false_eq_true]; omega)); conv => whnf))
  all_goals (try simp (disch := omega) only [nI_leI, nI_ltI, nI_eq, nz_eq, nz_lt, nz_gt, nz_le, nz_ge, nz_00, nz_n1, nI_add, pk_mul, pk_sub, nI_shl1, nI_or, nI_half2, nI_min2, la_put_eq, la_up, lr_same, lr_ne, lu_same, lu_ne, not_true_eq_false, not_false_eq_true])
  refine ⟨(v.toInt64, lN 0, lN 10, h), ⟨rfl, rfl⟩, fun r h' hq => ?_⟩
  obtain ⟨rfl, ⟨hv, rfl⟩ | ⟨hc, rfl⟩⟩ := Q_in (by decide) (by decide) hq
  · conv => whnf
    repeat' (first
      | (refine ⟨fun c9 => ?_, fun c9 => ?_⟩ <;> (try simp (disch := omega) only [nI_leI, nI_ltI, nI_eq, nz_eq, nz_lt, nz_gt, nz_le, nz_ge, nz_00, nz_n1, nI_add, pk_mul, pk_sub, nI_shl1, nI_or, nI_half2, nI_min2, la_put_eq, la_up, lr_same, lr_ne, lu_same, lu_ne, not_true_eq_false, not_false_eq_true] at c9) <;> first | (exfalso; omega) | conv => whnf)
      | (refine ⟨_, rfl, by omega, ?_⟩; conv => whnf)
      | (refine ⟨_, rfl, rfl, rfl, by decide, by decide, ?_⟩; conv => whnf)
      | (refine ⟨_, by (simp (disch := omega) only [nI_leI, nI_ltI, nI_eq, nz_eq, nz_lt, nz_gt, nz_le, nz_ge, nz_00, nz_n1, nI_add, pk_mul, pk_sub, nI_shl1, nI_or, nI_half2, nI_min2, la_put_eq, la_up, lr_same, lr_ne, lu_same, lu_ne, not_true_eq_false, not_false_eq_true]; rfl), by omega, ?_⟩; conv => whnf)
      | (apply And.intro; (first | assumption | decide | (simp (disch := omega) only [nI_leI, nI_ltI, nI_eq, nz_eq, nz_lt, nz_gt, nz_le, nz_ge, nz_00, nz_n1, nI_add, pk_mul, pk_sub, nI_shl1, nI_or, nI_half2, nI_min2, la_put_eq, la_up, lr_same, lr_ne, lu_same, lu_ne, not_true_eq_false, not_false_eq_true]; omega)); conv => whnf))
    all_goals (try simp (disch := omega) only [nI_leI, nI_ltI, nI_eq, nz_eq, nz_lt, nz_gt, nz_le, nz_ge, nz_00, nz_n1, nI_add, pk_mul, pk_sub, nI_shl1, nI_or, nI_half2, nI_min2, la_put_eq, la_up, lr_same, lr_ne, lu_same, lu_ne, not_true_eq_false, not_false_eq_true])
    refine ⟨(f, N 0 0, _), ⟨rfl, rfl, hF, w1⟩, fun r h' hq => ?_⟩
    obtain ⟨rfl, ⟨hf1, rfl⟩ | ⟨hc, rfl⟩⟩ := hq
    · conv => whnf
      repeat' (first
        | (refine ⟨fun c9 => ?_, fun c9 => ?_⟩ <;> (try simp (disch := omega) only [nI_leI, nI_ltI, nI_eq, nz_eq, nz_lt, nz_gt, nz_le, nz_ge, nz_00, nz_n1, nI_add, pk_mul, pk_sub, nI_shl1, nI_or, nI_half2, nI_min2, la_put_eq, la_up, lr_same, lr_ne, lu_same, lu_ne, not_true_eq_false, not_false_eq_true] at c9) <;> first | (exfalso; omega) | conv => whnf)
        | (refine ⟨_, rfl, by omega, ?_⟩; conv => whnf)
        | (refine ⟨_, rfl, rfl, rfl, by decide, by decide, ?_⟩; conv => whnf)
        | (refine ⟨_, by (simp (disch := omega) only [nI_leI, nI_ltI, nI_eq, nz_eq, nz_lt, nz_gt, nz_le, nz_ge, nz_00, nz_n1, nI_add, pk_mul, pk_sub, nI_shl1, nI_or, nI_half2, nI_min2, la_put_eq, la_up, lr_same, lr_ne, lu_same, lu_ne, not_true_eq_false, not_false_eq_true]; rfl), by omega, ?_⟩; conv => whnf)
        | (apply And.intro; (first | assumption | decide | (simp (disch := omega) only [nI_leI, nI_ltI, nI_eq, nz_eq, nz_lt, nz_gt, nz_le, nz_ge, nz_00, nz_n1, nI_add, pk_mul, pk_sub, nI_shl1, nI_or, nI_half2, nI_min2, la_put_eq, la_up, lr_same, lr_ne, lu_same, lu_ne, not_true_eq_false, not_false_eq_true]; omega)); conv => whnf))
      all_goals (try simp (disch := omega) only [nI_leI, nI_ltI, nI_eq, nz_eq, nz_lt, nz_gt, nz_le, nz_ge, nz_00, nz_n1, nI_add, pk_mul, pk_sub, nI_shl1, nI_or, nI_half2, nI_min2, la_put_eq, la_up, lr_same, lr_ne, lu_same, lu_ne, not_true_eq_false, not_false_eq_true])
      refine ⟨(s, _), ⟨rfl, rfl⟩, fun r h' hq => ?_⟩
      obtain ⟨rfl, ⟨hs, rfl⟩ | ⟨hc, rfl⟩⟩ := hq
      · conv => whnf
        repeat' (first
          | (refine ⟨fun c9 => ?_, fun c9 => ?_⟩ <;> (try simp (disch := omega) only [nI_leI, nI_ltI, nI_eq, nz_eq, nz_lt, nz_gt, nz_le, nz_ge, nz_00, nz_n1, nI_add, pk_mul, pk_sub, nI_shl1, nI_or, nI_half2, nI_min2, la_put_eq, la_up, lr_same, lr_ne, lu_same, lu_ne, not_true_eq_false, not_false_eq_true] at c9) <;> first | (exfalso; omega) | conv => whnf)
          | (refine ⟨_, rfl, by omega, ?_⟩; conv => whnf)
          | (refine ⟨_, rfl, rfl, rfl, by decide, by decide, ?_⟩; conv => whnf)
          | (refine ⟨_, by (simp (disch := omega) only [nI_leI, nI_ltI, nI_eq, nz_eq, nz_lt, nz_gt, nz_le, nz_ge, nz_00, nz_n1, nI_add, pk_mul, pk_sub, nI_shl1, nI_or, nI_half2, nI_min2, la_put_eq, la_up, lr_same, lr_ne, lu_same, lu_ne, not_true_eq_false, not_false_eq_true]; rfl), by omega, ?_⟩; conv => whnf)
          | (apply And.intro; (first | assumption | decide | (simp (disch := omega) only [nI_leI, nI_ltI, nI_eq, nz_eq, nz_lt, nz_gt, nz_le, nz_ge, nz_00, nz_n1, nI_add, pk_mul, pk_sub, nI_shl1, nI_or, nI_half2, nI_min2, la_put_eq, la_up, lr_same, lr_ne, lu_same, lu_ne, not_true_eq_false, not_false_eq_true]; omega)); conv => whnf))
        all_goals (try simp (disch := omega) only [nI_leI, nI_ltI, nI_eq, nz_eq, nz_lt, nz_gt, nz_le, nz_ge, nz_00, nz_n1, nI_add, pk_mul, pk_sub, nI_shl1, nI_or, nI_half2, nI_min2, la_put_eq, la_up, lr_same, lr_ne, lu_same, lu_ne, not_true_eq_false, not_false_eq_true])
        refine ⟨(n.toInt64, lN 0, lN 8, _), ⟨rfl, rfl⟩, fun r h' hq => ?_⟩
        obtain ⟨rfl, ⟨hn, rfl⟩ | ⟨hc, rfl⟩⟩ := Q_in (by decide) (by decide) hq
        · conv => whnf
          repeat' (first
            | (refine ⟨fun c9 => ?_, fun c9 => ?_⟩ <;> (try simp (disch := omega) only [nI_leI, nI_ltI, nI_eq, nz_eq, nz_lt, nz_gt, nz_le, nz_ge, nz_00, nz_n1, nI_add, pk_mul, pk_sub, nI_shl1, nI_or, nI_half2, nI_min2, la_put_eq, la_up, lr_same, lr_ne, lu_same, lu_ne, not_true_eq_false, not_false_eq_true] at c9) <;> first | (exfalso; omega) | conv => whnf)
            | (refine ⟨_, rfl, by omega, ?_⟩; conv => whnf)
            | (refine ⟨_, rfl, rfl, rfl, by decide, by decide, ?_⟩; conv => whnf)
            | (refine ⟨_, by (simp (disch := omega) only [nI_leI, nI_ltI, nI_eq, nz_eq, nz_lt, nz_gt, nz_le, nz_ge, nz_00, nz_n1, nI_add, pk_mul, pk_sub, nI_shl1, nI_or, nI_half2, nI_min2, la_put_eq, la_up, lr_same, lr_ne, lu_same, lu_ne, not_true_eq_false, not_false_eq_true]; rfl), by omega, ?_⟩; conv => whnf)
            | (apply And.intro; (first | assumption | decide | (simp (disch := omega) only [nI_leI, nI_ltI, nI_eq, nz_eq, nz_lt, nz_gt, nz_le, nz_ge, nz_00, nz_n1, nI_add, pk_mul, pk_sub, nI_shl1, nI_or, nI_half2, nI_min2, la_put_eq, la_up, lr_same, lr_ne, lu_same, lu_ne, not_true_eq_false, not_false_eq_true]; omega)); conv => whnf))
          all_goals (try simp (disch := omega) only [nI_leI, nI_ltI, nI_eq, nz_eq, nz_lt, nz_gt, nz_le, nz_ge, nz_00, nz_n1, nI_add, pk_mul, pk_sub, nI_shl1, nI_or, nI_half2, nI_min2, la_put_eq, la_up, lr_same, lr_ne, lu_same, lu_ne, not_true_eq_false, not_false_eq_true])
          refine ⟨(w.toInt64, lN 0, lN 1, _), ⟨rfl, rfl⟩, fun r h' hq => ?_⟩
          obtain ⟨rfl, ⟨hw, rfl⟩ | ⟨hc, rfl⟩⟩ := Q_hf hq
          · obtain ⟨v', v1, v2, rfl⟩ := id hv
            obtain ⟨n', n1, n2, rfl⟩ := id hn
            obtain ⟨f', f1, rfl⟩ := id hf1
            obtain ⟨s', s1, s2, rfl⟩ := id hs
            conv => whnf
            repeat' (first
              | (refine ⟨fun c9 => ?_, fun c9 => ?_⟩ <;> (try simp (disch := omega) only [nI_leI, nI_ltI, nI_eq, nz_eq, nz_lt, nz_gt, nz_le, nz_ge, nz_00, nz_n1, nI_add, pk_mul, pk_sub, nI_shl1, nI_or, nI_half2, nI_min2, la_put_eq, la_up, lr_same, lr_ne, lu_same, lu_ne, not_true_eq_false, not_false_eq_true] at c9) <;> first | (exfalso; omega) | conv => whnf)
              | (refine ⟨_, rfl, by omega, ?_⟩; conv => whnf)
              | (refine ⟨_, rfl, rfl, rfl, by decide, by decide, ?_⟩; conv => whnf)
              | (refine ⟨_, by (simp (disch := omega) only [nI_leI, nI_ltI, nI_eq, nz_eq, nz_lt, nz_gt, nz_le, nz_ge, nz_00, nz_n1, nI_add, pk_mul, pk_sub, nI_shl1, nI_or, nI_half2, nI_min2, la_put_eq, la_up, lr_same, lr_ne, lu_same, lu_ne, not_true_eq_false, not_false_eq_true]; rfl), by omega, ?_⟩; conv => whnf)
              | (apply And.intro; (first | assumption | decide | (simp (disch := omega) only [nI_leI, nI_ltI, nI_eq, nz_eq, nz_lt, nz_gt, nz_le, nz_ge, nz_00, nz_n1, nI_add, pk_mul, pk_sub, nI_shl1, nI_or, nI_half2, nI_min2, la_put_eq, la_up, lr_same, lr_ne, lu_same, lu_ne, not_true_eq_false, not_false_eq_true]; omega)); conv => whnf))
            all_goals (try simp (disch := omega) only [nI_leI, nI_ltI, nI_eq, nz_eq, nz_lt, nz_gt, nz_le, nz_ge, nz_00, nz_n1, nI_add, pk_mul, pk_sub, nI_shl1, nI_or, nI_half2, nI_min2, la_put_eq, la_up, lr_same, lr_ne, lu_same, lu_ne, not_true_eq_false, not_false_eq_true])
            refine ⟨(v', true, f', s', n', w, N, _), ⟨rfl, rfl, hmd, hd, v2, by omega, s2, n2⟩, fun r h' hq => ?_⟩
            obtain ⟨hm, rfl⟩ := hq
            conv => whnf
            repeat' (first
              | (refine ⟨fun c9 => ?_, fun c9 => ?_⟩ <;> (try simp (disch := omega) only [nI_leI, nI_ltI, nI_eq, nz_eq, nz_lt, nz_gt, nz_le, nz_ge, nz_00, nz_n1, nI_add, pk_mul, pk_sub, nI_shl1, nI_or, nI_half2, nI_min2, la_put_eq, la_up, lr_same, lr_ne, lu_same, lu_ne, not_true_eq_false, not_false_eq_true] at c9) <;> first | (exfalso; omega) | conv => whnf)
              | (refine ⟨_, rfl, by omega, ?_⟩; conv => whnf)
              | (refine ⟨_, rfl, rfl, rfl, by decide, by decide, ?_⟩; conv => whnf)
              | (refine ⟨_, by (simp (disch := omega) only [nI_leI, nI_ltI, nI_eq, nz_eq, nz_lt, nz_gt, nz_le, nz_ge, nz_00, nz_n1, nI_add, pk_mul, pk_sub, nI_shl1, nI_or, nI_half2, nI_min2, la_put_eq, la_up, lr_same, lr_ne, lu_same, lu_ne, not_true_eq_false, not_false_eq_true]; rfl), by omega, ?_⟩; conv => whnf)
              | (apply And.intro; (first | assumption | decide | (simp (disch := omega) only [nI_leI, nI_ltI, nI_eq, nz_eq, nz_lt, nz_gt, nz_le, nz_ge, nz_00, nz_n1, nI_add, pk_mul, pk_sub, nI_shl1, nI_or, nI_half2, nI_min2, la_put_eq, la_up, lr_same, lr_ne, lu_same, lu_ne, not_true_eq_false, not_false_eq_true]; omega)); conv => whnf))
            all_goals (try simp (disch := omega) only [nI_leI, nI_ltI, nI_eq, nz_eq, nz_lt, nz_gt, nz_le, nz_ge, nz_00, nz_n1, nI_add, pk_mul, pk_sub, nI_shl1, nI_or, nI_half2, nI_min2, la_put_eq, la_up, lr_same, lr_ne, lu_same, lu_ne, not_true_eq_false, not_false_eq_true])
            refine hret _ _ ⟨hm, ?_⟩
            rw [a_luck, cl_t ⟨⟨hv, hn, hw⟩, hf1, hs⟩, ixv_nI (by omega), ixv_nI (by omega), ixv_nI (by omega), ixv_nI (by omega)]
          · conv => whnf
            repeat' (first
              | (refine ⟨fun c9 => ?_, fun c9 => ?_⟩ <;> (try simp (disch := omega) only [nI_leI, nI_ltI, nI_eq, nz_eq, nz_lt, nz_gt, nz_le, nz_ge, nz_00, nz_n1, nI_add, pk_mul, pk_sub, nI_shl1, nI_or, nI_half2, nI_min2, la_put_eq, la_up, lr_same, lr_ne, lu_same, lu_ne, not_true_eq_false, not_false_eq_true] at c9) <;> first | (exfalso; omega) | conv => whnf)
              | (refine ⟨_, rfl, by omega, ?_⟩; conv => whnf)
              | (refine ⟨_, rfl, rfl, rfl, by decide, by decide, ?_⟩; conv => whnf)
              | (refine ⟨_, by (simp (disch := omega) only [nI_leI, nI_ltI, nI_eq, nz_eq, nz_lt, nz_gt, nz_le, nz_ge, nz_00, nz_n1, nI_add, pk_mul, pk_sub, nI_shl1, nI_or, nI_half2, nI_min2, la_put_eq, la_up, lr_same, lr_ne, lu_same, lu_ne, not_true_eq_false, not_false_eq_true]; rfl), by omega, ?_⟩; conv => whnf)
              | (apply And.intro; (first | assumption | decide | (simp (disch := omega) only [nI_leI, nI_ltI, nI_eq, nz_eq, nz_lt, nz_gt, nz_le, nz_ge, nz_00, nz_n1, nI_add, pk_mul, pk_sub, nI_shl1, nI_or, nI_half2, nI_min2, la_put_eq, la_up, lr_same, lr_ne, lu_same, lu_ne, not_true_eq_false, not_false_eq_true]; omega)); conv => whnf))
            all_goals (try simp (disch := omega) only [nI_leI, nI_ltI, nI_eq, nz_eq, nz_lt, nz_gt, nz_le, nz_ge, nz_00, nz_n1, nI_add, pk_mul, pk_sub, nI_shl1, nI_or, nI_half2, nI_min2, la_put_eq, la_up, lr_same, lr_ne, lu_same, lu_ne, not_true_eq_false, not_false_eq_true])
            refine hret _ _ ⟨mf_self _, ?_⟩
            rw [a_luck, cl_f (fun q => hc q.1.2.2)]
        · conv => whnf
          repeat' (first
            | (refine ⟨fun c9 => ?_, fun c9 => ?_⟩ <;> (try simp (disch := omega) only [nI_leI, nI_ltI, nI_eq, nz_eq, nz_lt, nz_gt, nz_le, nz_ge, nz_00, nz_n1, nI_add, pk_mul, pk_sub, nI_shl1, nI_or, nI_half2, nI_min2, la_put_eq, la_up, lr_same, lr_ne, lu_same, lu_ne, not_true_eq_false, not_false_eq_true] at c9) <;> first | (exfalso; omega) | conv => whnf)
            | (refine ⟨_, rfl, by omega, ?_⟩; conv => whnf)
            | (refine ⟨_, rfl, rfl, rfl, by decide, by decide, ?_⟩; conv => whnf)
            | (refine ⟨_, by (simp (disch := omega) only [nI_leI, nI_ltI, nI_eq, nz_eq, nz_lt, nz_gt, nz_le, nz_ge, nz_00, nz_n1, nI_add, pk_mul, pk_sub, nI_shl1, nI_or, nI_half2, nI_min2, la_put_eq, la_up, lr_same, lr_ne, lu_same, lu_ne, not_true_eq_false, not_false_eq_true]; rfl), by omega, ?_⟩; conv => whnf)
            | (apply And.intro; (first | assumption | decide | (simp (disch := omega) only [nI_leI, nI_ltI, nI_eq, nz_eq, nz_lt, nz_gt, nz_le, nz_ge, nz_00, nz_n1, nI_add, pk_mul, pk_sub, nI_shl1, nI_or, nI_half2, nI_min2, la_put_eq, la_up, lr_same, lr_ne, lu_same, lu_ne, not_true_eq_false, not_false_eq_true]; omega)); conv => whnf))
          all_goals (try simp (disch := omega) only [nI_leI, nI_ltI, nI_eq, nz_eq, nz_lt, nz_gt, nz_le, nz_ge, nz_00, nz_n1, nI_add, pk_mul, pk_sub, nI_shl1, nI_or, nI_half2, nI_min2, la_put_eq, la_up, lr_same, lr_ne, lu_same, lu_ne, not_true_eq_false, not_false_eq_true])
          refine hret _ _ ⟨mf_self _, ?_⟩
          rw [a_luck, cl_f (fun q => hc q.1.2.1)]
      · conv => whnf
        repeat' (first
          | (refine ⟨fun c9 => ?_, fun c9 => ?_⟩ <;> (try simp (disch := omega) only [nI_leI, nI_ltI, nI_eq, nz_eq, nz_lt, nz_gt, nz_le, nz_ge, nz_00, nz_n1, nI_add, pk_mul, pk_sub, nI_shl1, nI_or, nI_half2, nI_min2, la_put_eq, la_up, lr_same, lr_ne, lu_same, lu_ne, not_true_eq_false, not_false_eq_true] at c9) <;> first | (exfalso; omega) | conv => whnf)
          | (refine ⟨_, rfl, by omega, ?_⟩; conv => whnf)
          | (refine ⟨_, rfl, rfl, rfl, by decide, by decide, ?_⟩; conv => whnf)
          | (refine ⟨_, by (simp (disch := omega) only [nI_leI, nI_ltI, nI_eq, nz_eq, nz_lt, nz_gt, nz_le, nz_ge, nz_00, nz_n1, nI_add, pk_mul, pk_sub, nI_shl1, nI_or, nI_half2, nI_min2, la_put_eq, la_up, lr_same, lr_ne, lu_same, lu_ne, not_true_eq_false, not_false_eq_true]; rfl), by omega, ?_⟩; conv => whnf)
          | (apply And.intro; (first | assumption | decide | (simp (disch := omega) only [nI_leI, nI_ltI, nI_eq, nz_eq, nz_lt, nz_gt, nz_le, nz_ge, nz_00, nz_n1, nI_add, pk_mul, pk_sub, nI_shl1, nI_or, nI_half2, nI_min2, la_put_eq, la_up, lr_same, lr_ne, lu_same, lu_ne, not_true_eq_false, not_false_eq_true]; omega)); conv => whnf))
        all_goals (try simp (disch := omega) only [nI_leI, nI_ltI, nI_eq, nz_eq, nz_lt, nz_gt, nz_le, nz_ge, nz_00, nz_n1, nI_add, pk_mul, pk_sub, nI_shl1, nI_or, nI_half2, nI_min2, la_put_eq, la_up, lr_same, lr_ne, lu_same, lu_ne, not_true_eq_false, not_false_eq_true])
        refine hret _ _ ⟨mf_self _, ?_⟩
        rw [a_luck, cl_f (fun q => hc q.2.2)]
    · conv => whnf
      repeat' (first
        | (refine ⟨fun c9 => ?_, fun c9 => ?_⟩ <;> (try simp (disch := omega) only [nI_leI, nI_ltI, nI_eq, nz_eq, nz_lt, nz_gt, nz_le, nz_ge, nz_00, nz_n1, nI_add, pk_mul, pk_sub, nI_shl1, nI_or, nI_half2, nI_min2, la_put_eq, la_up, lr_same, lr_ne, lu_same, lu_ne, not_true_eq_false, not_false_eq_true] at c9) <;> first | (exfalso; omega) | conv => whnf)
        | (refine ⟨_, rfl, by omega, ?_⟩; conv => whnf)
        | (refine ⟨_, rfl, rfl, rfl, by decide, by decide, ?_⟩; conv => whnf)
        | (refine ⟨_, by (simp (disch := omega) only [nI_leI, nI_ltI, nI_eq, nz_eq, nz_lt, nz_gt, nz_le, nz_ge, nz_00, nz_n1, nI_add, pk_mul, pk_sub, nI_shl1, nI_or, nI_half2, nI_min2, la_put_eq, la_up, lr_same, lr_ne, lu_same, lu_ne, not_true_eq_false, not_false_eq_true]; rfl), by omega, ?_⟩; conv => whnf)
        | (apply And.intro; (first | assumption | decide | (simp (disch := omega) only [nI_leI, nI_ltI, nI_eq, nz_eq, nz_lt, nz_gt, nz_le, nz_ge, nz_00, nz_n1, nI_add, pk_mul, pk_sub, nI_shl1, nI_or, nI_half2, nI_min2, la_put_eq, la_up, lr_same, lr_ne, lu_same, lu_ne, not_true_eq_false, not_false_eq_true]; omega)); conv => whnf))
      all_goals (try simp (disch := omega) only [nI_leI, nI_ltI, nI_eq, nz_eq, nz_lt, nz_gt, nz_le, nz_ge, nz_00, nz_n1, nI_add, pk_mul, pk_sub, nI_shl1, nI_or, nI_half2, nI_min2, la_put_eq, la_up, lr_same, lr_ne, lu_same, lu_ne, not_true_eq_false, not_false_eq_true])
      refine hret _ _ ⟨mf_self _, ?_⟩
      rw [a_luck, cl_f (fun q => hc q.2.1)]
  · conv => whnf
    repeat' (first
      | (refine ⟨fun c9 => ?_, fun c9 => ?_⟩ <;> (try simp (disch := omega) only [nI_leI, nI_ltI, nI_eq, nz_eq, nz_lt, nz_gt, nz_le, nz_ge, nz_00, nz_n1, nI_add, pk_mul, pk_sub, nI_shl1, nI_or, nI_half2, nI_min2, la_put_eq, la_up, lr_same, lr_ne, lu_same, lu_ne, not_true_eq_false, not_false_eq_true] at c9) <;> first | (exfalso; omega) | conv => whnf)
      | (refine ⟨_, rfl, by omega, ?_⟩; conv => whnf)
      | (refine ⟨_, rfl, rfl, rfl, by decide, by decide, ?_⟩; conv => whnf)
      | (refine ⟨_, by (simp (disch := omega) only [nI_leI, nI_ltI, nI_eq, nz_eq, nz_lt, nz_gt, nz_le, nz_ge, nz_00, nz_n1, nI_add, pk_mul, pk_sub, nI_shl1, nI_or, nI_half2, nI_min2, la_put_eq, la_up, lr_same, lr_ne, lu_same, lu_ne, not_true_eq_false, not_false_eq_true]; rfl), by omega, ?_⟩; conv => whnf)
      | (apply And.intro; (first | assumption | decide | (simp (disch := omega) only [nI_leI, nI_ltI, nI_eq, nz_eq, nz_lt, nz_gt, nz_le, nz_ge, nz_00, nz_n1, nI_add, pk_mul, pk_sub, nI_shl1, nI_or, nI_half2, nI_min2, la_put_eq, la_up, lr_same, lr_ne, lu_same, lu_ne, not_true_eq_false, not_false_eq_true]; omega)); conv => whnf))
    all_goals (try simp (disch := omega) only [nI_leI, nI_ltI, nI_eq, nz_eq, nz_lt, nz_gt, nz_le, nz_ge, nz_00, nz_n1, nI_add, pk_mul, pk_sub, nI_shl1, nI_or, nI_half2, nI_min2, la_put_eq, la_up, lr_same, lr_ne, lu_same, lu_ne, not_true_eq_false, not_false_eq_true])
    refine hret _ _ ⟨mf_self _, ?_⟩
    rw [a_luck, cl_f (fun q => hc q.1.1)]
theorem M_X5_luck : pm_MT yX5_luck cX5_luck 6 2 7 P_X5_luck (pm_pl2 Q_X5_luck) := pm_met k_X5_luck (by decide) rfl (by
  rintro ⟨g0, g1, g2, g3, g4, g5, g6⟩ av h hp
  rw [hp.1]
  exact Nat.le_of_ble_eq_true rfl) pf_X5_luck
theorem rc_X5_luck : ∀ g av h, P_X5_luck g av h → ∃ i t, av = .inr (.inr (5, i, 0)) :: t := by
  rintro ⟨g0, g1, g2, g3, g4, g5, g6⟩ av h hp
  exact ⟨_, _, hp.1⟩
def P_X5_mean : Int32 × Int32 × Int32 × LD × pm_H → List pm_V → pm_H → Prop := fun g av h => match g with
  | (v, n, w, Y, h0) => av = [vR 5 0 0, vI v, vI n, vI w] ∧ h = h0 ∧ md h0 Y ∧ Y 0 10 ≤ 999
def Q_X5_mean : Int32 × Int32 × Int32 × LD × pm_H → Int64 → pm_H → Prop := fun g r h => match g with
  | (v, n, w, N, h0) => mf h0 h ∧ r = a_mean N v n w
def T_X5_mean : List (Nat × pm_T) := [
  (0, i_il 1 1),
  (1, i_i2l 2),
  (2, i_cl (lN 0) 3),
  (3, i_cl (lN 10) 6),
  (6, i_ci 3 P_X5_in Q_X5_in 9),
  (9, i_ifeq 47 12),
  (12, i_il 2 13),
  (13, i_i2l 14),
  (14, i_cl (lN 0) 15),
  (15, i_cl (lN 8) 18),
  (18, i_ci 3 P_X5_in Q_X5_in 21),
  (21, i_ifeq 47 24),
  (24, i_il 3 25),
  (25, i_i2l 26),
  (26, i_cl (lN 0) 27),
  (27, i_cl (lN 1) 28),
  (28, i_ci 3 P_X5_in Q_X5_in 31),
  (31, i_ifeq 47 34),
  (34, i_al 0 35),
  (35, i_il 1 36),
  (36, i_c (-4) 38),
  (38, i_c (nI 0) 39),
  (39, i_il 2 40),
  (40, i_il 3 41),
  (41, i_cL 6 P_X5_byDamp Q_X5_byDamp 44),
  (44, i_go 50),
  (47, i_cl (-1) 50),
  (50, i_lr)]
theorem k_X5_mean : ∀ q ∈ T_X5_mean, pm_sd RX5 cX5_mean 4 7 2 q.1 q.2 := by
  unfold T_X5_mean
  refine pm_cn (sd_iln (k := 1) (by decide +kernel) rfl rfl) ?_
  refine pm_cn (sd_i2l (by decide +kernel) rfl) ?_
  refine pm_cn (sd_lconst (z := 0) (by decide +kernel) (by decide +kernel) rfl) ?_
  refine pm_cn (sd_ldc2 (k := 208) (by decide +kernel) (pm_tin (by decide +kernel) rfl) rfl) ?_
  refine pm_cn (sd_cis M_X5_in (by decide) cd_X5_in ml_X5_46 st_X5_in nt_X5 (by decide +kernel) (by omega) (by decide) (by decide +kernel) rfl) ?_
  refine pm_cn (sd_ifeq (off := 38) (by decide +kernel) (by decide) rfl) ?_
  refine pm_cn (sd_iln (k := 2) (by decide +kernel) rfl rfl) ?_
  refine pm_cn (sd_i2l (by decide +kernel) rfl) ?_
  refine pm_cn (sd_lconst (z := 0) (by decide +kernel) (by decide +kernel) rfl) ?_
  refine pm_cn (sd_ldc2 (k := 214) (by decide +kernel) (pm_tin (by decide +kernel) rfl) rfl) ?_
  refine pm_cn (sd_cis M_X5_in (by decide) cd_X5_in ml_X5_46 st_X5_in nt_X5 (by decide +kernel) (by omega) (by decide) (by decide +kernel) rfl) ?_
  refine pm_cn (sd_ifeq (off := 26) (by decide +kernel) (by decide) rfl) ?_
  refine pm_cn (sd_iln (k := 3) (by decide +kernel) rfl rfl) ?_
  refine pm_cn (sd_i2l (by decide +kernel) rfl) ?_
  refine pm_cn (sd_lconst (z := 0) (by decide +kernel) (by decide +kernel) rfl) ?_
  refine pm_cn (sd_lconst (z := 1) (by decide +kernel) (by decide +kernel) rfl) ?_
  refine pm_cn (sd_cis M_X5_in (by decide) cd_X5_in ml_X5_46 st_X5_in nt_X5 (by decide +kernel) (by omega) (by decide) (by decide +kernel) rfl) ?_
  refine pm_cn (sd_ifeq (off := 16) (by decide +kernel) (by decide) rfl) ?_
  refine pm_cn (sd_aln (k := 0) (by decide +kernel) rfl rfl) ?_
  refine pm_cn (sd_iln (k := 1) (by decide +kernel) rfl rfl) ?_
  refine pm_cn (sd_bipush (z := -4) (by decide +kernel) (by decide +kernel) rfl) ?_
  refine pm_cn (sd_iconst (z := 0) (by decide +kernel) (by decide +kernel) rfl) ?_
  refine pm_cn (sd_iln (k := 2) (by decide +kernel) rfl rfl) ?_
  refine pm_cn (sd_iln (k := 3) (by decide +kernel) rfl rfl) ?_
  refine pm_cn (sd_cLv M_X5_byDamp cd_X5_byDamp rc_X5_byDamp cl5_ ml_X5_216 im_X5_byDamp se_X5_byDamp nt_X5 (by decide +kernel) (by omega) (by decide) (by decide +kernel) rfl) ?_
  refine pm_cn (sd_go (off := 6) (by decide +kernel) (by decide)) ?_
  refine pm_cn (sd_ldc2 (k := 220) (by decide +kernel) (pm_tin (by decide +kernel) rfl) rfl) ?_
  refine pm_cn (sd_lr (by decide +kernel)) ?_
  exact fun _ h => absurd h List.not_mem_nil
set_option maxHeartbeats 800000 in
set_option maxRecDepth 100000 in
theorem pf_X5_mean : pm_pf T_X5_mean P_X5_mean (pm_pl2 Q_X5_mean) := by
  rintro ⟨v, n, w, N, h0⟩ av h K hK ⟨rfl, rfl, hmd, hd⟩ hret
  show K (some 0) ([(0, vR 5 0 0), (1, vI v), (2, vI n), (3, vI w)], [], h)
  refine hK [] 80 _ _ ?_
  conv => whnf
  repeat' (first
    | (refine ⟨fun c9 => ?_, fun c9 => ?_⟩ <;> (try simp (disch := omega) only [nI_leI, nI_ltI, nI_eq, nz_eq, nz_lt, nz_gt, nz_le, nz_ge, nz_00, nz_n1, nI_add, pk_mul, pk_sub, nI_shl1, nI_or, nI_half2, nI_min2, la_put_eq, la_up, lr_same, lr_ne, lu_same, lu_ne, not_true_eq_false, not_false_eq_true] at c9) <;> first | (exfalso; omega) | conv => whnf)
    | (refine ⟨_, rfl, by omega, ?_⟩; conv => whnf)
    | (refine ⟨_, rfl, rfl, rfl, by decide, by decide, ?_⟩; conv => whnf)
    | (refine ⟨_, by (simp (disch := omega) only [nI_leI, nI_ltI, nI_eq, nz_eq, nz_lt, nz_gt, nz_le, nz_ge, nz_00, nz_n1, nI_add, pk_mul, pk_sub, nI_shl1, nI_or, nI_half2, nI_min2, la_put_eq, la_up, lr_same, lr_ne, lu_same, lu_ne, not_true_eq_false, not_false_eq_true]; rfl), by omega, ?_⟩; conv => whnf)
    | (apply And.intro; (first | assumption | decide | (simp (disch := omega) only [nI_leI, nI_ltI, nI_eq, nz_eq, nz_lt, nz_gt, nz_le, nz_ge, nz_00, nz_n1, nI_add, pk_mul, pk_sub, nI_shl1, nI_or, nI_half2, nI_min2, la_put_eq, la_up, lr_same, lr_ne, lu_same, lu_ne, not_true_eq_false, not_false_eq_true]; omega)); conv => whnf))
  all_goals (try simp (disch := omega) only [nI_leI, nI_ltI, nI_eq, nz_eq, nz_lt, nz_gt, nz_le, nz_ge, nz_00, nz_n1, nI_add, pk_mul, pk_sub, nI_shl1, nI_or, nI_half2, nI_min2, la_put_eq, la_up, lr_same, lr_ne, lu_same, lu_ne, not_true_eq_false, not_false_eq_true])
  refine ⟨(v.toInt64, lN 0, lN 10, h), ⟨rfl, rfl⟩, fun r h' hq => ?_⟩
  obtain ⟨rfl, ⟨hv, rfl⟩ | ⟨hc, rfl⟩⟩ := Q_in (by decide) (by decide) hq
  · conv => whnf
    repeat' (first
      | (refine ⟨fun c9 => ?_, fun c9 => ?_⟩ <;> (try simp (disch := omega) only [nI_leI, nI_ltI, nI_eq, nz_eq, nz_lt, nz_gt, nz_le, nz_ge, nz_00, nz_n1, nI_add, pk_mul, pk_sub, nI_shl1, nI_or, nI_half2, nI_min2, la_put_eq, la_up, lr_same, lr_ne, lu_same, lu_ne, not_true_eq_false, not_false_eq_true] at c9) <;> first | (exfalso; omega) | conv => whnf)
      | (refine ⟨_, rfl, by omega, ?_⟩; conv => whnf)
      | (refine ⟨_, rfl, rfl, rfl, by decide, by decide, ?_⟩; conv => whnf)
      | (refine ⟨_, by (simp (disch := omega) only [nI_leI, nI_ltI, nI_eq, nz_eq, nz_lt, nz_gt, nz_le, nz_ge, nz_00, nz_n1, nI_add, pk_mul, pk_sub, nI_shl1, nI_or, nI_half2, nI_min2, la_put_eq, la_up, lr_same, lr_ne, lu_same, lu_ne, not_true_eq_false, not_false_eq_true]; rfl), by omega, ?_⟩; conv => whnf)
      | (apply And.intro; (first | assumption | decide | (simp (disch := omega) only [nI_leI, nI_ltI, nI_eq, nz_eq, nz_lt, nz_gt, nz_le, nz_ge, nz_00, nz_n1, nI_add, pk_mul, pk_sub, nI_shl1, nI_or, nI_half2, nI_min2, la_put_eq, la_up, lr_same, lr_ne, lu_same, lu_ne, not_true_eq_false, not_false_eq_true]; omega)); conv => whnf))
    all_goals (try simp (disch := omega) only [nI_leI, nI_ltI, nI_eq, nz_eq, nz_lt, nz_gt, nz_le, nz_ge, nz_00, nz_n1, nI_add, pk_mul, pk_sub, nI_shl1, nI_or, nI_half2, nI_min2, la_put_eq, la_up, lr_same, lr_ne, lu_same, lu_ne, not_true_eq_false, not_false_eq_true])
    refine ⟨(n.toInt64, lN 0, lN 8, _), ⟨rfl, rfl⟩, fun r h' hq => ?_⟩
    obtain ⟨rfl, ⟨hn, rfl⟩ | ⟨hc, rfl⟩⟩ := Q_in (by decide) (by decide) hq
    · conv => whnf
      repeat' (first
        | (refine ⟨fun c9 => ?_, fun c9 => ?_⟩ <;> (try simp (disch := omega) only [nI_leI, nI_ltI, nI_eq, nz_eq, nz_lt, nz_gt, nz_le, nz_ge, nz_00, nz_n1, nI_add, pk_mul, pk_sub, nI_shl1, nI_or, nI_half2, nI_min2, la_put_eq, la_up, lr_same, lr_ne, lu_same, lu_ne, not_true_eq_false, not_false_eq_true] at c9) <;> first | (exfalso; omega) | conv => whnf)
        | (refine ⟨_, rfl, by omega, ?_⟩; conv => whnf)
        | (refine ⟨_, rfl, rfl, rfl, by decide, by decide, ?_⟩; conv => whnf)
        | (refine ⟨_, by (simp (disch := omega) only [nI_leI, nI_ltI, nI_eq, nz_eq, nz_lt, nz_gt, nz_le, nz_ge, nz_00, nz_n1, nI_add, pk_mul, pk_sub, nI_shl1, nI_or, nI_half2, nI_min2, la_put_eq, la_up, lr_same, lr_ne, lu_same, lu_ne, not_true_eq_false, not_false_eq_true]; rfl), by omega, ?_⟩; conv => whnf)
        | (apply And.intro; (first | assumption | decide | (simp (disch := omega) only [nI_leI, nI_ltI, nI_eq, nz_eq, nz_lt, nz_gt, nz_le, nz_ge, nz_00, nz_n1, nI_add, pk_mul, pk_sub, nI_shl1, nI_or, nI_half2, nI_min2, la_put_eq, la_up, lr_same, lr_ne, lu_same, lu_ne, not_true_eq_false, not_false_eq_true]; omega)); conv => whnf))
      all_goals (try simp (disch := omega) only [nI_leI, nI_ltI, nI_eq, nz_eq, nz_lt, nz_gt, nz_le, nz_ge, nz_00, nz_n1, nI_add, pk_mul, pk_sub, nI_shl1, nI_or, nI_half2, nI_min2, la_put_eq, la_up, lr_same, lr_ne, lu_same, lu_ne, not_true_eq_false, not_false_eq_true])
      refine ⟨(w.toInt64, lN 0, lN 1, _), ⟨rfl, rfl⟩, fun r h' hq => ?_⟩
      obtain ⟨rfl, ⟨hw, rfl⟩ | ⟨hc, rfl⟩⟩ := Q_hf hq
      · obtain ⟨v', v1, v2, rfl⟩ := id hv
        obtain ⟨n', n1, n2, rfl⟩ := id hn
        conv => whnf
        repeat' (first
          | (refine ⟨fun c9 => ?_, fun c9 => ?_⟩ <;> (try simp (disch := omega) only [nI_leI, nI_ltI, nI_eq, nz_eq, nz_lt, nz_gt, nz_le, nz_ge, nz_00, nz_n1, nI_add, pk_mul, pk_sub, nI_shl1, nI_or, nI_half2, nI_min2, la_put_eq, la_up, lr_same, lr_ne, lu_same, lu_ne, not_true_eq_false, not_false_eq_true] at c9) <;> first | (exfalso; omega) | conv => whnf)
          | (refine ⟨_, rfl, by omega, ?_⟩; conv => whnf)
          | (refine ⟨_, rfl, rfl, rfl, by decide, by decide, ?_⟩; conv => whnf)
          | (refine ⟨_, by (simp (disch := omega) only [nI_leI, nI_ltI, nI_eq, nz_eq, nz_lt, nz_gt, nz_le, nz_ge, nz_00, nz_n1, nI_add, pk_mul, pk_sub, nI_shl1, nI_or, nI_half2, nI_min2, la_put_eq, la_up, lr_same, lr_ne, lu_same, lu_ne, not_true_eq_false, not_false_eq_true]; rfl), by omega, ?_⟩; conv => whnf)
          | (apply And.intro; (first | assumption | decide | (simp (disch := omega) only [nI_leI, nI_ltI, nI_eq, nz_eq, nz_lt, nz_gt, nz_le, nz_ge, nz_00, nz_n1, nI_add, pk_mul, pk_sub, nI_shl1, nI_or, nI_half2, nI_min2, la_put_eq, la_up, lr_same, lr_ne, lu_same, lu_ne, not_true_eq_false, not_false_eq_true]; omega)); conv => whnf))
        all_goals (try simp (disch := omega) only [nI_leI, nI_ltI, nI_eq, nz_eq, nz_lt, nz_gt, nz_le, nz_ge, nz_00, nz_n1, nI_add, pk_mul, pk_sub, nI_shl1, nI_or, nI_half2, nI_min2, la_put_eq, la_up, lr_same, lr_ne, lu_same, lu_ne, not_true_eq_false, not_false_eq_true])
        refine ⟨(v', false, 0, 0, n', w, N, _), ⟨rfl, rfl, hmd, hd, v2, by omega, by omega, n2⟩, fun r h' hq => ?_⟩
        obtain ⟨hm, rfl⟩ := hq
        conv => whnf
        repeat' (first
          | (refine ⟨fun c9 => ?_, fun c9 => ?_⟩ <;> (try simp (disch := omega) only [nI_leI, nI_ltI, nI_eq, nz_eq, nz_lt, nz_gt, nz_le, nz_ge, nz_00, nz_n1, nI_add, pk_mul, pk_sub, nI_shl1, nI_or, nI_half2, nI_min2, la_put_eq, la_up, lr_same, lr_ne, lu_same, lu_ne, not_true_eq_false, not_false_eq_true] at c9) <;> first | (exfalso; omega) | conv => whnf)
          | (refine ⟨_, rfl, by omega, ?_⟩; conv => whnf)
          | (refine ⟨_, rfl, rfl, rfl, by decide, by decide, ?_⟩; conv => whnf)
          | (refine ⟨_, by (simp (disch := omega) only [nI_leI, nI_ltI, nI_eq, nz_eq, nz_lt, nz_gt, nz_le, nz_ge, nz_00, nz_n1, nI_add, pk_mul, pk_sub, nI_shl1, nI_or, nI_half2, nI_min2, la_put_eq, la_up, lr_same, lr_ne, lu_same, lu_ne, not_true_eq_false, not_false_eq_true]; rfl), by omega, ?_⟩; conv => whnf)
          | (apply And.intro; (first | assumption | decide | (simp (disch := omega) only [nI_leI, nI_ltI, nI_eq, nz_eq, nz_lt, nz_gt, nz_le, nz_ge, nz_00, nz_n1, nI_add, pk_mul, pk_sub, nI_shl1, nI_or, nI_half2, nI_min2, la_put_eq, la_up, lr_same, lr_ne, lu_same, lu_ne, not_true_eq_false, not_false_eq_true]; omega)); conv => whnf))
        all_goals (try simp (disch := omega) only [nI_leI, nI_ltI, nI_eq, nz_eq, nz_lt, nz_gt, nz_le, nz_ge, nz_00, nz_n1, nI_add, pk_mul, pk_sub, nI_shl1, nI_or, nI_half2, nI_min2, la_put_eq, la_up, lr_same, lr_ne, lu_same, lu_ne, not_true_eq_false, not_false_eq_true])
        refine hret _ _ ⟨hm, ?_⟩
        rw [a_mean, cl_t ⟨hv, hn, hw⟩, ixv_nI (by omega), ixv_nI (by omega)]
      · conv => whnf
        repeat' (first
          | (refine ⟨fun c9 => ?_, fun c9 => ?_⟩ <;> (try simp (disch := omega) only [nI_leI, nI_ltI, nI_eq, nz_eq, nz_lt, nz_gt, nz_le, nz_ge, nz_00, nz_n1, nI_add, pk_mul, pk_sub, nI_shl1, nI_or, nI_half2, nI_min2, la_put_eq, la_up, lr_same, lr_ne, lu_same, lu_ne, not_true_eq_false, not_false_eq_true] at c9) <;> first | (exfalso; omega) | conv => whnf)
          | (refine ⟨_, rfl, by omega, ?_⟩; conv => whnf)
          | (refine ⟨_, rfl, rfl, rfl, by decide, by decide, ?_⟩; conv => whnf)
          | (refine ⟨_, by (simp (disch := omega) only [nI_leI, nI_ltI, nI_eq, nz_eq, nz_lt, nz_gt, nz_le, nz_ge, nz_00, nz_n1, nI_add, pk_mul, pk_sub, nI_shl1, nI_or, nI_half2, nI_min2, la_put_eq, la_up, lr_same, lr_ne, lu_same, lu_ne, not_true_eq_false, not_false_eq_true]; rfl), by omega, ?_⟩; conv => whnf)
          | (apply And.intro; (first | assumption | decide | (simp (disch := omega) only [nI_leI, nI_ltI, nI_eq, nz_eq, nz_lt, nz_gt, nz_le, nz_ge, nz_00, nz_n1, nI_add, pk_mul, pk_sub, nI_shl1, nI_or, nI_half2, nI_min2, la_put_eq, la_up, lr_same, lr_ne, lu_same, lu_ne, not_true_eq_false, not_false_eq_true]; omega)); conv => whnf))
        all_goals (try simp (disch := omega) only [nI_leI, nI_ltI, nI_eq, nz_eq, nz_lt, nz_gt, nz_le, nz_ge, nz_00, nz_n1, nI_add, pk_mul, pk_sub, nI_shl1, nI_or, nI_half2, nI_min2, la_put_eq, la_up, lr_same, lr_ne, lu_same, lu_ne, not_true_eq_false, not_false_eq_true])
        refine hret _ _ ⟨mf_self _, ?_⟩
        rw [a_mean, cl_f (fun q => hc q.2.2)]
    · conv => whnf
      repeat' (first
        | (refine ⟨fun c9 => ?_, fun c9 => ?_⟩ <;> (try simp (disch := omega) only [nI_leI, nI_ltI, nI_eq, nz_eq, nz_lt, nz_gt, nz_le, nz_ge, nz_00, nz_n1, nI_add, pk_mul, pk_sub, nI_shl1, nI_or, nI_half2, nI_min2, la_put_eq, la_up, lr_same, lr_ne, lu_same, lu_ne, not_true_eq_false, not_false_eq_true] at c9) <;> first | (exfalso; omega) | conv => whnf)
        | (refine ⟨_, rfl, by omega, ?_⟩; conv => whnf)
        | (refine ⟨_, rfl, rfl, rfl, by decide, by decide, ?_⟩; conv => whnf)
        | (refine ⟨_, by (simp (disch := omega) only [nI_leI, nI_ltI, nI_eq, nz_eq, nz_lt, nz_gt, nz_le, nz_ge, nz_00, nz_n1, nI_add, pk_mul, pk_sub, nI_shl1, nI_or, nI_half2, nI_min2, la_put_eq, la_up, lr_same, lr_ne, lu_same, lu_ne, not_true_eq_false, not_false_eq_true]; rfl), by omega, ?_⟩; conv => whnf)
        | (apply And.intro; (first | assumption | decide | (simp (disch := omega) only [nI_leI, nI_ltI, nI_eq, nz_eq, nz_lt, nz_gt, nz_le, nz_ge, nz_00, nz_n1, nI_add, pk_mul, pk_sub, nI_shl1, nI_or, nI_half2, nI_min2, la_put_eq, la_up, lr_same, lr_ne, lu_same, lu_ne, not_true_eq_false, not_false_eq_true]; omega)); conv => whnf))
      all_goals (try simp (disch := omega) only [nI_leI, nI_ltI, nI_eq, nz_eq, nz_lt, nz_gt, nz_le, nz_ge, nz_00, nz_n1, nI_add, pk_mul, pk_sub, nI_shl1, nI_or, nI_half2, nI_min2, la_put_eq, la_up, lr_same, lr_ne, lu_same, lu_ne, not_true_eq_false, not_false_eq_true])
      refine hret _ _ ⟨mf_self _, ?_⟩
      rw [a_mean, cl_f (fun q => hc q.2.1)]
  · conv => whnf
    repeat' (first
      | (refine ⟨fun c9 => ?_, fun c9 => ?_⟩ <;> (try simp (disch := omega) only [nI_leI, nI_ltI, nI_eq, nz_eq, nz_lt, nz_gt, nz_le, nz_ge, nz_00, nz_n1, nI_add, pk_mul, pk_sub, nI_shl1, nI_or, nI_half2, nI_min2, la_put_eq, la_up, lr_same, lr_ne, lu_same, lu_ne, not_true_eq_false, not_false_eq_true] at c9) <;> first | (exfalso; omega) | conv => whnf)
      | (refine ⟨_, rfl, by omega, ?_⟩; conv => whnf)
      | (refine ⟨_, rfl, rfl, rfl, by decide, by decide, ?_⟩; conv => whnf)
      | (refine ⟨_, by (simp (disch := omega) only [nI_leI, nI_ltI, nI_eq, nz_eq, nz_lt, nz_gt, nz_le, nz_ge, nz_00, nz_n1, nI_add, pk_mul, pk_sub, nI_shl1, nI_or, nI_half2, nI_min2, la_put_eq, la_up, lr_same, lr_ne, lu_same, lu_ne, not_true_eq_false, not_false_eq_true]; rfl), by omega, ?_⟩; conv => whnf)
      | (apply And.intro; (first | assumption | decide | (simp (disch := omega) only [nI_leI, nI_ltI, nI_eq, nz_eq, nz_lt, nz_gt, nz_le, nz_ge, nz_00, nz_n1, nI_add, pk_mul, pk_sub, nI_shl1, nI_or, nI_half2, nI_min2, la_put_eq, la_up, lr_same, lr_ne, lu_same, lu_ne, not_true_eq_false, not_false_eq_true]; omega)); conv => whnf))
    all_goals (try simp (disch := omega) only [nI_leI, nI_ltI, nI_eq, nz_eq, nz_lt, nz_gt, nz_le, nz_ge, nz_00, nz_n1, nI_add, pk_mul, pk_sub, nI_shl1, nI_or, nI_half2, nI_min2, la_put_eq, la_up, lr_same, lr_ne, lu_same, lu_ne, not_true_eq_false, not_false_eq_true])
    refine hret _ _ ⟨mf_self _, ?_⟩
    rw [a_mean, cl_f (fun q => hc q.1)]
theorem M_X5_mean : pm_MT yX5_mean cX5_mean 4 2 7 P_X5_mean (pm_pl2 Q_X5_mean) := pm_met k_X5_mean (by decide) rfl (by
  rintro ⟨g0, g1, g2, g3, g4⟩ av h hp
  rw [hp.1]
  exact Nat.le_of_ble_eq_true rfl) pf_X5_mean
theorem rc_X5_mean : ∀ g av h, P_X5_mean g av h → ∃ i t, av = .inr (.inr (5, i, 0)) :: t := by
  rintro ⟨g0, g1, g2, g3, g4⟩ av h hp
  exact ⟨_, _, hp.1⟩
