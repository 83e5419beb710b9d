/-! Larder: days, and what changes it. -/
theorem sp_knowers_lt {L : LD} (hw : la_ok L) (s : Nat) : sp_knowers L s < 16 := by
  obtain ⟨w1, w2, w3, w4, w5, w6, w7, w8, w9⟩ := hw
  refine sp_or_lt (m := 4) (fun k hk => ?_)
  have := w8 k (by omega)
  by_cases h : L 4 k = s ∧ L 0 9 ≤ L 5 k
  · rw [if_pos h]
    exact Nat.pow_lt_pow_right (by decide) (by omega)
  · rw [if_neg h]; decide
def P_X0_answers : Nat × LD × pm_H → List pm_V → pm_H → Prop := fun g av h => match g with
  | (i, L, h0) => av = [vR 0 i 0] ∧ h = h0 ∧ la_at h0 i L ∧ la_ok L
def Q_X0_answers : Nat × LD × pm_H → Int32 → pm_H → Prop := fun g v h => match g with
  | (i, L, h0) => h = h0 ∧ v = nI (sp_ans L)
def T_X0_answers : List (Nat × pm_T) := [
  (0, i_c (nI 0) 1),
  (1, i_is 1 2),
  (2, i_c (nI 0) 3),
  (3, i_is 2 4),
  (4, i_il 2 5),
  (5, i_al 0 6),
  (6, i_gi 0 11 9),
  (9, i_icge 50 12),
  (12, i_al 0 13),
  (13, i_gr 0 (fun i => (0, i, 7)) 16),
  (16, i_il 2 17),
  (17, i_ia 18),
  (18, i_al 0 19),
  (19, i_gi 0 10 22),
  (22, i_icne 44 25),
  (25, i_al 0 26),
  (26, i_al 0 27),
  (27, i_gr 0 (fun i => (0, i, 8)) 30),
  (30, i_il 2 31),
  (31, i_ia 32),
  (32, i_ci 2 P_X0_knowersOf Q_X0_knowersOf 35),
  (35, i_ifeq 44 38),
  (38, i_il 1 39),
  (39, i_c (nI 1) 40),
  (40, i_il 2 41),
  (41, i_ishl 42),
  (42, i_ior 43),
  (43, i_is 1 44),
  (44, i_inc 2 (nI 1) 47),
  (47, i_go 4),
  (50, i_il 1 51),
  (51, i_ir)]
theorem k_X0_answers : ∀ q ∈ T_X0_answers, pm_sd RX0 cX0_answers 3 2 1 q.1 q.2 := by
  unfold T_X0_answers
  refine pm_cn (sd_iconst (z := 0) (by decide +kernel) (by decide +kernel) rfl) ?_
  refine pm_cn (sd_isn (k := 1) (by decide +kernel) rfl rfl (by decide)) ?_
  refine pm_cn (sd_iconst (z := 0) (by decide +kernel) (by decide +kernel) rfl) ?_
  refine pm_cn (sd_isn (k := 2) (by decide +kernel) rfl rfl (by decide)) ?_
  refine pm_cn (sd_iln (k := 2) (by decide +kernel) rfl rfl) ?_
  refine pm_cn (sd_aln (k := 0) (by decide +kernel) rfl rfl) ?_
  refine pm_cn (sd_gi cl0_ in0_ (by decide) (fun _ => rfl) fl_X0_49 (by decide +kernel) rfl) ?_
  refine pm_cn (sd_icge (off := 41) (by decide +kernel) (by decide) rfl) ?_
  refine pm_cn (sd_aln (k := 0) (by decide +kernel) rfl rfl) ?_
  refine pm_cn (sd_gr cl0_ in0_ (j := 12) (by decide) (fun _ => rfl) fl_X0_37 (by decide +kernel) rfl) ?_
  refine pm_cn (sd_iln (k := 2) (by decide +kernel) rfl rfl) ?_
  refine pm_cn (sd_ia (by decide +kernel) rfl) ?_
  refine pm_cn (sd_aln (k := 0) (by decide +kernel) rfl rfl) ?_
  refine pm_cn (sd_gi cl0_ in0_ (by decide) (fun _ => rfl) fl_X0_52 (by decide +kernel) rfl) ?_
  refine pm_cn (sd_icne (off := 22) (by decide +kernel) (by decide) rfl) ?_
  refine pm_cn (sd_aln (k := 0) (by decide +kernel) rfl rfl) ?_
  refine pm_cn (sd_aln (k := 0) (by decide +kernel) rfl rfl) ?_
  refine pm_cn (sd_gr cl0_ in0_ (j := 13) (by decide) (fun _ => rfl) fl_X0_40 (by decide +kernel) rfl) ?_
  refine pm_cn (sd_iln (k := 2) (by decide +kernel) rfl rfl) ?_
  refine pm_cn (sd_ia (by decide +kernel) rfl) ?_
  refine pm_cn (sd_civ M_X0_knowersOf (by decide) cd_X0_knowersOf rc_X0_knowersOf cl0_ ml_X0_75 im_X0_knowersOf se_X0_knowersOf nt_X0 (by decide +kernel) (by decide) (by decide) (by decide +kernel) rfl) ?_
  refine pm_cn (sd_ifeq (off := 9) (by decide +kernel) (by decide) rfl) ?_
  refine pm_cn (sd_iln (k := 1) (by decide +kernel) rfl rfl) ?_
  refine pm_cn (sd_iconst (z := 1) (by decide +kernel) (by decide +kernel) rfl) ?_
  refine pm_cn (sd_iln (k := 2) (by decide +kernel) rfl rfl) ?_
  refine pm_cn (sd_ishl (by decide +kernel) rfl) ?_
  refine pm_cn (sd_ior (by decide +kernel) rfl) ?_
  refine pm_cn (sd_isn (k := 1) (by decide +kernel) rfl rfl (by decide)) ?_
  refine pm_cn (sd_inc (z := 1) (by decide +kernel) (by decide +kernel) rfl (by decide)) ?_
  refine pm_cn (sd_go (off := -43) (by decide +kernel) (by decide)) ?_
  refine pm_cn (sd_iln (k := 1) (by decide +kernel) rfl rfl) ?_
  refine pm_cn (sd_ir (by decide +kernel)) ?_
  exact fun _ h => absurd h List.not_mem_nil
set_option maxHeartbeats 4000000 in
set_option maxRecDepth 100000 in
theorem pf_X0_answers : pm_pf T_X0_answers P_X0_answers (pm_pi Q_X0_answers) := by
  rintro ⟨i, L, h0⟩ av h K hK ⟨rfl, rfl, hL, hw⟩ hret
  obtain ⟨w1, w2, w3, w4, w5, w6, w7, w8, w9, w10⟩ := id hw
  show K (some 0) ([(0, vR 0 i 0)], [], h)
  have loop : ∀ n k a, k + n = L 0 11 → a = sp_or (fun q => if L 7 q = L 0 10 ∧ sp_knowers L (L 8 q) ≠ 0 then 2 ^ q else 0) k → K (some 4) ([(0, vR 0 i 0), (1, vI (nI a)), (2, vI (nI k))], [], h) := by
    intro n
    induction n with
    | zero =>
      intro k a hk ha
      refine hK [(4, [0, 1, 2])] 40 _ _ ?_
      conv => whnf
      repeat' (first
        | (refine ⟨fun c => ?_, fun c => ?_⟩ <;> (try simp (disch := omega) only [nI_leI, nI_ltI, nI_eq, nz_eq, nz_lt, nz_gt, nz_le, nz_ge, nz_00, nz_10, nz_n1, nI_add, pk_mul, pk_sub, nI_shl1, nI_or, nI_half2, nI_min2, la_put_eq, la_up, lr_same, lr_ne, lu_same, lu_ne, hL] at c) <;> first | (exfalso; omega) | conv => whnf)
        | (refine ⟨_, rfl, by omega, ?_⟩; conv => whnf)
        | (refine And.intro (by decide) ?_; conv => whnf))
      all_goals (try simp (disch := omega) only [nI_leI, nI_ltI, nI_eq, nz_eq, nz_lt, nz_gt, nz_le, nz_ge, nz_00, nz_10, nz_n1, nI_add, pk_mul, pk_sub, nI_shl1, nI_or, nI_half2, nI_min2, la_put_eq, la_up, lr_same, lr_ne, lu_same, lu_ne, hL])
      have : k = L 0 11 := by omega
      subst this
      exact hret _ _ ⟨rfl, by rw [ha]; rfl⟩
    | succ n ih =>
      intro k a hk ha
      have hB := w9 k (by omega)
      have hkn := sp_knowers_lt hw (L 8 k)
      refine hK [(4, [0, 1, 2])] 40 _ _ ?_
      conv => whnf
      repeat' (first
        | (refine ⟨fun c => ?_, fun c => ?_⟩ <;> (try simp (disch := omega) only [nI_leI, nI_ltI, nI_eq, nz_eq, nz_lt, nz_gt, nz_le, nz_ge, nz_00, nz_10, nz_n1, nI_add, pk_mul, pk_sub, nI_shl1, nI_or, nI_half2, nI_min2, la_put_eq, la_up, lr_same, lr_ne, lu_same, lu_ne, hL] at c) <;> first | (exfalso; omega) | conv => whnf)
        | (refine ⟨_, rfl, by omega, ?_⟩; conv => whnf)
        | (refine And.intro (by decide) ?_; conv => whnf))
      all_goals (try simp (disch := omega) only [nI_leI, nI_ltI, nI_eq, nz_eq, nz_lt, nz_gt, nz_le, nz_ge, nz_00, nz_10, nz_n1, nI_add, pk_mul, pk_sub, nI_shl1, nI_or, nI_half2, nI_min2, la_put_eq, la_up, lr_same, lr_ne, lu_same, lu_ne, hL])
      · refine ih (k + 1) _ (by omega) ?_
        rw [sp_or, ← ha, if_neg (by omega), Nat.or_zero]
      · refine ⟨(i, L 8 k, L, h), ⟨rfl, rfl, hL, hw, by omega⟩, fun v h' hq => ?_⟩
        obtain ⟨rfl, rfl⟩ := hq
        conv => whnf
        repeat' (first
          | (refine ⟨fun c => ?_, fun c => ?_⟩ <;> (try simp (disch := omega) only [nI_leI, nI_ltI, nI_eq, nz_eq, nz_lt, nz_gt, nz_le, nz_ge, nz_00, nz_10, nz_n1, nI_add, pk_mul, pk_sub, nI_shl1, nI_or, nI_half2, nI_min2, la_put_eq, la_up, lr_same, lr_ne, lu_same, lu_ne, hL] at c) <;> first | (exfalso; omega) | conv => whnf)
          | (refine ⟨_, rfl, by omega, ?_⟩; conv => whnf)
          | (refine And.intro (by decide) ?_; conv => whnf))
        all_goals (try simp (disch := omega) only [nI_leI, nI_ltI, nI_eq, nz_eq, nz_lt, nz_gt, nz_le, nz_ge, nz_00, nz_10, nz_n1, nI_add, pk_mul, pk_sub, nI_shl1, nI_or, nI_half2, nI_min2, la_put_eq, la_up, lr_same, lr_ne, lu_same, lu_ne, hL])
        · refine ih (k + 1) _ (by omega) ?_
          rw [sp_or, ← ha, if_neg (by omega), Nat.or_zero]
        · refine ih (k + 1) _ (by omega) ?_
          rw [sp_or, ← ha, if_pos (by omega)]
  refine hK [(4, [0, 1, 2])] 10 _ _ ?_
  conv => whnf
  repeat' (first
    | (refine ⟨fun c => ?_, fun c => ?_⟩ <;> (try simp (disch := omega) only [nI_leI, nI_ltI, nI_eq, nz_eq, nz_lt, nz_gt, nz_le, nz_ge, nz_00, nz_10, nz_n1, nI_add, pk_mul, pk_sub, nI_shl1, nI_or, nI_half2, nI_min2, la_put_eq, la_up, lr_same, lr_ne, lu_same, lu_ne, hL] at c) <;> first | (exfalso; omega) | conv => whnf)
    | (refine ⟨_, rfl, by omega, ?_⟩; conv => whnf)
    | (refine And.intro (by decide) ?_; conv => whnf))
  all_goals (try simp (disch := omega) only [nI_leI, nI_ltI, nI_eq, nz_eq, nz_lt, nz_gt, nz_le, nz_ge, nz_00, nz_10, nz_n1, nI_add, pk_mul, pk_sub, nI_shl1, nI_or, nI_half2, nI_min2, la_put_eq, la_up, lr_same, lr_ne, lu_same, lu_ne, hL])
  exact loop (L 0 11) 0 0 (by omega) rfl
theorem M_X0_answers : pm_MT yX0_answers cX0_answers 3 1 2 P_X0_answers (pm_pi Q_X0_answers) := pm_met k_X0_answers (by decide) rfl (by
  rintro ⟨g0, g1, g2⟩ av h hp
  rw [hp.1]
  exact Nat.le_of_ble_eq_true rfl) pf_X0_answers
theorem rc_X0_answers : ∀ g av h, P_X0_answers g av h → ∃ i t, av = .inr (.inr (0, i, 0)) :: t := by
  rintro ⟨g0, g1, g2⟩ av h hp
  exact ⟨_, _, hp.1⟩
/-! feast -/
theorem sp_left_le (L : LD) (f : Nat) : ∀ n, sp_left L f n ≤ L 1 f
  | 0 => Nat.le_refl _
  | n + 1 => by
    have := sp_left_le L f n
    rw [sp_left]
    by_cases h : L 6 n = f
    · rw [if_pos h]; omega
    · rw [if_neg h]; exact this
theorem sp_left_zero {L : LD} {f k : Nat} (h : sp_left L f k = 0) : ∀ m, sp_left L f (k + m) = 0
  | 0 => h
  | m + 1 => by
    have := sp_left_zero h m
    rw [← Nat.add_assoc, sp_left, this]
    by_cases hh : L 6 (k + m) = f <;> simp [hh]
theorem sp_ate_ge {L : LD} {f n b : Nat} (h : n ≤ b) : sp_ate L f n b = L 5 b := by
  unfold sp_ate
  rw [if_neg (by omega)]
theorem sp_ate_0 (L : LD) (f : Nat) : sp_ate L f 0 = L 5 := by
  funext b
  exact sp_ate_ge (Nat.zero_le b)
theorem sp_ate_stop {L : LD} {f k n : Nat} (h : sp_left L f k = 0) (hk : k ≤ n) : sp_ate L f k = sp_ate L f n := by
  funext b
  unfold sp_ate
  by_cases h1 : b < k ∧ L 6 b = f
  · rw [if_pos h1, if_pos ⟨by omega, h1.2⟩]
  · rw [if_neg h1]
    by_cases h2 : b < n ∧ L 6 b = f
    · rw [if_pos h2]
      obtain ⟨m, rfl⟩ : ∃ m, b = k + m := ⟨b - k, by omega⟩
      rw [sp_left_zero h m]
      rfl
    · rw [if_neg h2]
theorem sp_ate_skip {L : LD} {f k : Nat} (h : ¬ L 6 k = f) : sp_ate L f k = sp_ate L f (k + 1) := by
  funext b
  unfold sp_ate
  by_cases h1 : b < k ∧ L 6 b = f
  · rw [if_pos h1, if_pos ⟨by omega, h1.2⟩]
  · rw [if_neg h1, if_neg]
    rintro ⟨h2, h3⟩
    have : b = k := by omega
    subst this
    exact h h3
theorem sp_ate_step {L : LD} {f k v : Nat} (h : L 6 k = f) (hv : v = L 5 k - sp_left L f k) : lu (lr L 5 (sp_ate L f k)) 5 k v = lr L 5 (sp_ate L f (k + 1)) := by
  refine lu_lr (fun b => ?_)
  unfold sp_ate
  by_cases hb : b = k
  · subst hb
    rw [if_pos ⟨by omega, h⟩, if_pos rfl, hv]
  · rw [if_neg hb]
    by_cases h1 : b < k ∧ L 6 b = f
    · rw [if_pos h1, if_pos ⟨by omega, h1.2⟩]
    · rw [if_neg h1, if_neg (by omega)]
def P_X0_feast : Nat × Nat × LD × pm_H → List pm_V → pm_H → Prop := fun g av h => match g with
  | (i, f, L, h0) => av = [vR 0 i 0, vI (nI f)] ∧ h = h0 ∧ la_at h0 i L ∧ la_ok L ∧ f < 4
def Q_X0_feast : Nat × Nat × LD × pm_H → Int32 → pm_H → Prop := fun g v h => match g with
  | (i, f, L, h0) => h = la_put h0 i (sp_feast L f) ∧ v = nI (sp_eaten L f)
def T_X0_feast : List (Nat × pm_T) := [
  (0, i_al 0 1),
  (1, i_gr 0 (fun i => (0, i, 1)) 4),
  (4, i_il 1 5),
  (5, i_ia 6),
  (6, i_is 2 7),
  (7, i_c (nI 0) 8),
  (8, i_is 3 9),
  (9, i_il 3 10),
  (10, i_al 0 11),
  (11, i_gi 0 3 14),
  (14, i_icge 65 17),
  (17, i_il 2 18),
  (18, i_ifle 65 21),
  (21, i_al 0 22),
  (22, i_gr 0 (fun i => (0, i, 6)) 25),
  (25, i_il 3 26),
  (26, i_ia 27),
  (27, i_il 1 28),
  (28, i_icne 59 31),
  (31, i_il 2 32),
  (32, i_al 0 33),
  (33, i_gr 0 (fun i => (0, i, 5)) 36),
  (36, i_il 3 37),
  (37, i_ia 38),
  (38, i_mmin 41),
  (41, i_is 4 43),
  (43, i_al 0 44),
  (44, i_gr 0 (fun i => (0, i, 5)) 47),
  (47, i_il 3 48),
  (48, i_dup2 49),
  (49, i_ia 50),
  (50, i_il 4 52),
  (52, i_isub 53),
  (53, i_ias 54),
  (54, i_il 2 55),
  (55, i_il 4 57),
  (57, i_isub 58),
  (58, i_is 2 59),
  (59, i_inc 3 (nI 1) 62),
  (62, i_go 9),
  (65, i_il 2 66),
  (66, i_ifle 91 69),
  (69, i_al 0 70),
  (70, i_gr 0 (fun i => (0, i, 2)) 73),
  (73, i_il 1 74),
  (74, i_ia 75),
  (75, i_c (nI 999) 78),
  (78, i_icge 91 81),
  (81, i_al 0 82),
  (82, i_gr 0 (fun i => (0, i, 2)) 85),
  (85, i_il 1 86),
  (86, i_dup2 87),
  (87, i_ia 88),
  (88, i_c (nI 1) 89),
  (89, i_iadd 90),
  (90, i_ias 91),
  (91, i_al 0 92),
  (92, i_gr 0 (fun i => (0, i, 1)) 95),
  (95, i_il 1 96),
  (96, i_ia 97),
  (97, i_il 2 98),
  (98, i_isub 99),
  (99, i_ir)]
theorem k_X0_feast : ∀ q ∈ T_X0_feast, pm_sd RX0 cX0_feast 5 1 1 q.1 q.2 := by
  unfold T_X0_feast
  refine pm_cn (sd_aln (k := 0) (by decide +kernel) rfl rfl) ?_
  refine pm_cn (sd_gr cl0_ in0_ (j := 1) (by decide) (fun _ => rfl) fl_X0_9 (by decide +kernel) rfl) ?_
  refine pm_cn (sd_iln (k := 1) (by decide +kernel) rfl rfl) ?_
  refine pm_cn (sd_ia (by decide +kernel) rfl) ?_
  refine pm_cn (sd_isn (k := 2) (by decide +kernel) rfl rfl (by decide)) ?_
  refine pm_cn (sd_iconst (z := 0) (by decide +kernel) (by decide +kernel) rfl) ?_
  refine pm_cn (sd_isn (k := 3) (by decide +kernel) rfl rfl (by decide)) ?_
  refine pm_cn (sd_iln (k := 3) (by decide +kernel) rfl rfl) ?_
  refine pm_cn (sd_aln (k := 0) (by decide +kernel) rfl rfl) ?_
  refine pm_cn (sd_gi cl0_ in0_ (by decide) (fun _ => rfl) fl_X0_46 (by decide +kernel) rfl) ?_
  refine pm_cn (sd_icge (off := 51) (by decide +kernel) (by decide) rfl) ?_
  refine pm_cn (sd_iln (k := 2) (by decide +kernel) rfl rfl) ?_
  refine pm_cn (sd_ifle (off := 47) (by decide +kernel) (by decide) rfl) ?_
  refine pm_cn (sd_aln (k := 0) (by decide +kernel) rfl rfl) ?_
  refine pm_cn (sd_gr cl0_ in0_ (j := 7) (by decide) (fun _ => rfl) fl_X0_27 (by decide +kernel) rfl) ?_
  refine pm_cn (sd_iln (k := 3) (by decide +kernel) rfl rfl) ?_
  refine pm_cn (sd_ia (by decide +kernel) rfl) ?_
  refine pm_cn (sd_iln (k := 1) (by decide +kernel) rfl rfl) ?_
  refine pm_cn (sd_icne (off := 31) (by decide +kernel) (by decide) rfl) ?_
  refine pm_cn (sd_iln (k := 2) (by decide +kernel) rfl rfl) ?_
  refine pm_cn (sd_aln (k := 0) (by decide +kernel) rfl rfl) ?_
  refine pm_cn (sd_gr cl0_ in0_ (j := 6) (by decide) (fun _ => rfl) fl_X0_24 (by decide +kernel) rfl) ?_
  refine pm_cn (sd_iln (k := 3) (by decide +kernel) rfl rfl) ?_
  refine pm_cn (sd_ia (by decide +kernel) rfl) ?_
  refine pm_cn (sd_mmin ml_X0_65 st_min nt_Math cd_min (by decide) (by decide +kernel) rfl) ?_
  refine pm_cn (sd_is (by decide +kernel) rfl (by decide)) ?_
  refine pm_cn (sd_aln (k := 0) (by decide +kernel) rfl rfl) ?_
  refine pm_cn (sd_gr cl0_ in0_ (j := 6) (by decide) (fun _ => rfl) fl_X0_24 (by decide +kernel) rfl) ?_
  refine pm_cn (sd_iln (k := 3) (by decide +kernel) rfl rfl) ?_
  refine pm_cn (sd_dup2 (by decide +kernel) rfl) ?_
  refine pm_cn (sd_ia (by decide +kernel) rfl) ?_
  refine pm_cn (sd_il (by decide +kernel) rfl) ?_
  refine pm_cn (sd_isub (by decide +kernel) rfl) ?_
  refine pm_cn (sd_ias (by decide +kernel) rfl) ?_
  refine pm_cn (sd_iln (k := 2) (by decide +kernel) rfl rfl) ?_
  refine pm_cn (sd_il (by decide +kernel) rfl) ?_
  refine pm_cn (sd_isub (by decide +kernel) rfl) ?_
  refine pm_cn (sd_isn (k := 2) (by decide +kernel) rfl rfl (by decide)) ?_
  refine pm_cn (sd_inc (z := 1) (by decide +kernel) (by decide +kernel) rfl (by decide)) ?_
  refine pm_cn (sd_go (off := -53) (by decide +kernel) (by decide)) ?_
  refine pm_cn (sd_iln (k := 2) (by decide +kernel) rfl rfl) ?_
  refine pm_cn (sd_ifle (off := 25) (by decide +kernel) (by decide) rfl) ?_
  refine pm_cn (sd_aln (k := 0) (by decide +kernel) rfl rfl) ?_
  refine pm_cn (sd_gr cl0_ in0_ (j := 2) (by decide) (fun _ => rfl) fl_X0_15 (by decide +kernel) rfl) ?_
  refine pm_cn (sd_iln (k := 1) (by decide +kernel) rfl rfl) ?_
  refine pm_cn (sd_ia (by decide +kernel) rfl) ?_
  refine pm_cn (sd_sipush (z := 999) (by decide +kernel) (by decide +kernel) rfl) ?_
  refine pm_cn (sd_icge (off := 13) (by decide +kernel) (by decide) rfl) ?_
  refine pm_cn (sd_aln (k := 0) (by decide +kernel) rfl rfl) ?_
  refine pm_cn (sd_gr cl0_ in0_ (j := 2) (by decide) (fun _ => rfl) fl_X0_15 (by decide +kernel) rfl) ?_
  refine pm_cn (sd_iln (k := 1) (by decide +kernel) rfl rfl) ?_
  refine pm_cn (sd_dup2 (by decide +kernel) rfl) ?_
  refine pm_cn (sd_ia (by decide +kernel) rfl) ?_
  refine pm_cn (sd_iconst (z := 1) (by decide +kernel) (by decide +kernel) rfl) ?_
  refine pm_cn (sd_iadd (by decide +kernel) rfl) ?_
  refine pm_cn (sd_ias (by decide +kernel) rfl) ?_
  refine pm_cn (sd_aln (k := 0) (by decide +kernel) rfl rfl) ?_
  refine pm_cn (sd_gr cl0_ in0_ (j := 1) (by decide) (fun _ => rfl) fl_X0_9 (by decide +kernel) rfl) ?_
  refine pm_cn (sd_iln (k := 1) (by decide +kernel) rfl rfl) ?_
  refine pm_cn (sd_ia (by decide +kernel) rfl) ?_
  refine pm_cn (sd_iln (k := 2) (by decide +kernel) rfl rfl) ?_
  refine pm_cn (sd_isub (by decide +kernel) rfl) ?_
  refine pm_cn (sd_ir (by decide +kernel)) ?_
  exact fun _ h => absurd h List.not_mem_nil
set_option maxHeartbeats 4000000 in
set_option maxRecDepth 100000 in
theorem pf_X0_feast : pm_pf T_X0_feast P_X0_feast (pm_pi Q_X0_feast) := by
  rintro ⟨i, f, L, h0⟩ av h K hK ⟨rfl, rfl, hL, hw, hf⟩ hret
  obtain ⟨w1, w2, w3, w4, w5, w6, w7, w8, w9, w10⟩ := id hw
  show K (some 0) ([(0, vR 0 i 0), (1, vI (nI f))], [], h)
  have hF := w7 f hf
  have fin2 : ∀ M a, M = sp_feast L f → a = sp_left L f (L 0 3) → K (some 91) ([(0, vR 0 i 0), (1, vI (nI f)), (2, vI (nI a))], [], la_put h i M) := by
    intro M a hM ha
    have hle := sp_left_le L f (L 0 3)
    have e1 : M 1 f = L 1 f := by rw [hM]; unfold sp_feast; rw [lu_ne (by omega), lr_ne (by omega)]
    refine hK [] 20 _ _ ?_
    conv => whnf
    repeat' (first
      | (refine ⟨fun c => ?_, fun c => ?_⟩ <;> (try simp (disch := omega) only [nI_leI, nI_ltI, nI_eq, nz_eq, nz_lt, nz_gt, nz_le, nz_ge, nz_00, nz_10, nz_n1, nI_add, pk_mul, pk_sub, nI_shl1, nI_or, nI_half2, nI_min2, la_put_eq, la_up, lr_same, lr_ne, lu_same, lu_ne, e1] at c) <;> first | (exfalso; omega) | conv => whnf)
      | (refine ⟨_, rfl, by omega, ?_⟩; conv => whnf)
      | (refine And.intro (by decide) ?_; conv => whnf))
    all_goals (try simp (disch := omega) only [nI_leI, nI_ltI, nI_eq, nz_eq, nz_lt, nz_gt, nz_le, nz_ge, nz_00, nz_10, nz_n1, nI_add, pk_mul, pk_sub, nI_shl1, nI_or, nI_half2, nI_min2, la_put_eq, la_up, lr_same, lr_ne, lu_same, lu_ne, e1])
    subst hM ha
    exact hret _ _ ⟨rfl, rfl⟩
  have fin : ∀ M a, M = lr L 5 (sp_ate L f (L 0 3)) → a = sp_left L f (L 0 3) → K (some 65) ([(0, vR 0 i 0), (1, vI (nI f)), (2, vI (nI a))], [], la_put h i M) := by
    intro M a hM ha
    have hle := sp_left_le L f (L 0 3)
    have e1 : M 2 f = L 2 f := by rw [hM, lr_ne (by omega)]
    refine hK [(91, [0, 1, 2])] 30 _ _ ?_
    conv => whnf
    repeat' (first
      | (refine ⟨fun c => ?_, fun c => ?_⟩ <;> (try simp (disch := omega) only [nI_leI, nI_ltI, nI_eq, nz_eq, nz_lt, nz_gt, nz_le, nz_ge, nz_00, nz_10, nz_n1, nI_add, pk_mul, pk_sub, nI_shl1, nI_or, nI_half2, nI_min2, la_put_eq, la_up, lr_same, lr_ne, lu_same, lu_ne, e1] at c) <;> first | (exfalso; omega) | conv => whnf)
      | (refine ⟨_, rfl, by omega, ?_⟩; conv => whnf)
      | (refine And.intro (by decide) ?_; conv => whnf))
    all_goals (try simp (disch := omega) only [nI_leI, nI_ltI, nI_eq, nz_eq, nz_lt, nz_gt, nz_le, nz_ge, nz_00, nz_10, nz_n1, nI_add, pk_mul, pk_sub, nI_shl1, nI_or, nI_half2, nI_min2, la_put_eq, la_up, lr_same, lr_ne, lu_same, lu_ne, e1])
    · refine fin2 _ _ ?_ ha
      rw [sp_feast, sp_hun, if_neg (by omega), ← hM, ← e1, lu_self]
    · refine fin2 _ _ ?_ ha
      rw [sp_feast, sp_hun, if_neg (by omega), ← hM, ← e1, lu_self]
    · refine fin2 _ _ ?_ ha
      rw [sp_feast, sp_hun, if_pos (by omega), ← hM]
  have loop : ∀ n k a M, k + n = L 0 3 → a = sp_left L f k → M = lr L 5 (sp_ate L f k) → K (some 9) ([(0, vR 0 i 0), (1, vI (nI f)), (2, vI (nI a)), (3, vI (nI k))], [], la_put h i M) := by
    intro n
    induction n with
    | zero =>
      intro k a M hk ha hM
      subst hM
      refine hK [(9, [0, 1, 2, 3]), (65, [0, 1, 2])] 40 _ _ ?_
      conv => whnf
      repeat' (first
        | (refine ⟨fun c => ?_, fun c => ?_⟩ <;> (try simp (disch := omega) only [nI_leI, nI_ltI, nI_eq, nz_eq, nz_lt, nz_gt, nz_le, nz_ge, nz_00, nz_10, nz_n1, nI_add, pk_mul, pk_sub, nI_shl1, nI_or, nI_half2, nI_min2, la_put_eq, la_up, lr_same, lr_ne, lu_same, lu_ne, hL] at c) <;> first | (exfalso; omega) | conv => whnf)
        | (refine ⟨_, rfl, by omega, ?_⟩; conv => whnf)
        | (refine And.intro (by decide) ?_; conv => whnf))
      all_goals (try simp (disch := omega) only [nI_leI, nI_ltI, nI_eq, nz_eq, nz_lt, nz_gt, nz_le, nz_ge, nz_00, nz_10, nz_n1, nI_add, pk_mul, pk_sub, nI_shl1, nI_or, nI_half2, nI_min2, la_put_eq, la_up, lr_same, lr_ne, lu_same, lu_ne, hL])
      have : k = L 0 3 := by omega
      subst this
      exact fin _ _ rfl ha
    | succ n ih =>
      intro k a M hk ha hM
      have hB := w8 k (by omega)
      have hle := sp_left_le L f k
      subst hM
      refine hK [(9, [0, 1, 2, 3]), (65, [0, 1, 2])] 60 _ _ ?_
      conv => whnf
      repeat' (first
        | (refine ⟨fun c => ?_, fun c => ?_⟩ <;> (try simp (disch := omega) only [nI_leI, nI_ltI, nI_eq, nz_eq, nz_lt, nz_gt, nz_le, nz_ge, nz_00, nz_10, nz_n1, nI_add, pk_mul, pk_sub, nI_shl1, nI_or, nI_half2, nI_min2, la_put_eq, la_up, lr_same, lr_ne, lu_same, lu_ne, hL, sp_ate_ge] at c) <;> first | (exfalso; omega) | conv => whnf)
        | (refine ⟨_, rfl, by omega, ?_⟩; conv => whnf)
        | (refine And.intro (by decide) ?_; conv => whnf))
      all_goals (try simp (disch := omega) only [nI_leI, nI_ltI, nI_eq, nz_eq, nz_lt, nz_gt, nz_le, nz_ge, nz_00, nz_10, nz_n1, nI_add, pk_mul, pk_sub, nI_shl1, nI_or, nI_half2, nI_min2, la_put_eq, la_up, lr_same, lr_ne, lu_same, lu_ne, hL, sp_ate_ge])
      · have h0 : sp_left L f k = 0 := by omega
        refine fin _ _ (by rw [sp_ate_stop h0 (n := L 0 3) (by omega)]) ?_
        obtain ⟨m, hm⟩ : ∃ m, L 0 3 = k + m := ⟨n + 1, by omega⟩
        rw [hm, sp_left_zero h0]
        omega
      · refine ih (k + 1) _ _ (by omega) ?_ (by rw [sp_ate_skip (by omega)])
        rw [sp_left, if_neg (by omega)]
        exact ha
      · refine ih (k + 1) _ _ (by omega) ?_ (sp_ate_step (by omega) (by omega))
        rw [sp_left, if_pos (by omega)]
        omega
  refine hK [(9, [0, 1, 2, 3])] 20 _ _ ?_
  conv => whnf
  repeat' (first
    | (refine ⟨fun c => ?_, fun c => ?_⟩ <;> (try simp (disch := omega) only [nI_leI, nI_ltI, nI_eq, nz_eq, nz_lt, nz_gt, nz_le, nz_ge, nz_00, nz_10, nz_n1, nI_add, pk_mul, pk_sub, nI_shl1, nI_or, nI_half2, nI_min2, la_put_eq, la_up, lr_same, lr_ne, lu_same, lu_ne, hL] at c) <;> first | (exfalso; omega) | conv => whnf)
    | (refine ⟨_, rfl, by omega, ?_⟩; conv => whnf)
    | (refine And.intro (by decide) ?_; conv => whnf))
  all_goals (try simp (disch := omega) only [nI_leI, nI_ltI, nI_eq, nz_eq, nz_lt, nz_gt, nz_le, nz_ge, nz_00, nz_10, nz_n1, nI_add, pk_mul, pk_sub, nI_shl1, nI_or, nI_half2, nI_min2, la_put_eq, la_up, lr_same, lr_ne, lu_same, lu_ne, hL])
  have := loop (L 0 3) 0 (L 1 f) L (by omega) rfl (by rw [sp_ate_0, lr_self])
  rw [la_self hL] at this
  exact this
theorem M_X0_feast : pm_MT yX0_feast cX0_feast 5 1 1 P_X0_feast (pm_pi Q_X0_feast) := pm_met k_X0_feast (by decide) rfl (by
  rintro ⟨g0, g1, g2, g3⟩ av h hp
  rw [hp.1]
  exact Nat.le_of_ble_eq_true rfl) pf_X0_feast
theorem rc_X0_feast : ∀ g av h, P_X0_feast g av h → ∃ i t, av = .inr (.inr (0, i, 0)) :: t := by
  rintro ⟨g0, g1, g2, g3⟩ av h hp
  exact ⟨_, _, hp.1⟩
/-! what a day keeps -/
theorem sp_feast_s {L : LD} {f s j : Nat} (h5 : s ≠ 5) (h2 : s ≠ 2) : sp_feast L f s j = L s j := by
  unfold sp_feast
  rw [lu_ne (by omega), lr_ne h5]
theorem sp_feast_5 {L : LD} {f j : Nat} : sp_feast L f 5 j = sp_ate L f (L 0 3) j := by
  unfold sp_feast
  rw [lu_ne (by omega), lr_same]
theorem sp_feast_2 {L : LD} {f j : Nat} : sp_feast L f 2 j = if j = f then sp_hun L f else L 2 j := by
  unfold sp_feast
  by_cases h : j = f
  · subst h; rw [lu_same, if_pos rfl]
  · rw [lu_ne (by omega), lr_ne (by omega), if_neg h]
theorem sp_rot_s {L : LD} {n s j : Nat} (h5 : s ≠ 5) : sp_rot L n s j = L s j := by
  unfold sp_rot
  rw [lr_ne h5]
theorem sp_rot_5 {L : LD} {n j : Nat} : sp_rot L n 5 j = if j < n then L 5 j - sp_spoil L j else L 5 j := by
  unfold sp_rot
  rw [lr_same]
theorem sp_ate_le (L : LD) (f n b : Nat) : sp_ate L f n b ≤ L 5 b := by
  unfold sp_ate
  by_cases h : b < n ∧ L 6 b = f
  · rw [if_pos h]; omega
  · rw [if_neg h]; exact Nat.le_refl _
theorem la_ok_feast {L : LD} (hw : la_ok L) {f : Nat} (hf : f < 4) : la_ok (sp_feast L f) := by
  obtain ⟨w1, w2, w3, w4, w5, w6, w7, w8, w9, w10⟩ := hw
  have e0 : ∀ j, sp_feast L f 0 j = L 0 j := fun j => sp_feast_s (by decide) (by decide)
  refine ⟨by rw [e0]; exact w1, by rw [e0]; exact w2, by rw [e0]; exact w3, by rw [e0]; exact w4, by rw [e0]; exact w5, by rw [e0]; exact w6, fun k hk => ?_, fun b hb => ?_, fun q hq => ?_, fun s j hr => ?_⟩
  · rw [sp_feast_s (by decide) (by decide), sp_feast_2]
    refine ⟨(w7 k hk).1, ?_⟩
    by_cases h : k = f
    · rw [if_pos h]
      unfold sp_hun
      have := (w7 f hf).2
      by_cases h2 : 0 < sp_left L f (L 0 3) ∧ L 2 f < 999
      · rw [if_pos h2]; omega
      · rw [if_neg h2]; exact this
    · rw [if_neg h]; exact (w7 k hk).2
  · rw [sp_feast_s (s := 3) (by decide) (by decide), sp_feast_s (s := 4) (by decide) (by decide), sp_feast_s (s := 6) (by decide) (by decide), sp_feast_5]
    have := w8 b hb
    have := sp_ate_le L f (L 0 3) b
    omega
  · rw [sp_feast_s (by decide) (by decide), sp_feast_s (by decide) (by decide)]
    exact w9 q hq
  · by_cases h5 : s = 5
    · subst h5
      rw [sp_feast_5]
      have := sp_ate_le L f (L 0 3) j
      have := w10 5 j hr
      omega
    · by_cases h2 : s = 2
      · subst h2
        rw [sp_feast_2, if_neg]
        · exact w10 2 j hr
        · rintro rfl
          exact hr (by unfold la_rel; omega)
      · rw [sp_feast_s h5 h2]
        exact w10 s j hr
theorem la_ok_rot {L : LD} (hw : la_ok L) (n : Nat) : la_ok (sp_rot L n) := by
  obtain ⟨w1, w2, w3, w4, w5, w6, w7, w8, w9, w10⟩ := hw
  have e0 : ∀ s j, s ≠ 5 → sp_rot L n s j = L s j := fun s j h => sp_rot_s h
  have e5 : ∀ j, sp_rot L n 5 j ≤ L 5 j := fun j => by
    rw [sp_rot_5]
    by_cases h : j < n
    · rw [if_pos h]; omega
    · rw [if_neg h]; exact Nat.le_refl _
  refine ⟨by rw [e0 _ _ (by decide)]; exact w1, by rw [e0 _ _ (by decide)]; exact w2, by rw [e0 _ _ (by decide)]; exact w3, by rw [e0 _ _ (by decide)]; exact w4, by rw [e0 _ _ (by decide)]; exact w5, by rw [e0 _ _ (by decide)]; exact w6, fun k hk => ?_, fun b hb => ?_, fun q hq => ?_, fun s j hr => ?_⟩
  · rw [e0 _ _ (by decide), e0 _ _ (by decide)]; exact w7 k hk
  · rw [e0 3 _ (by decide), e0 4 _ (by decide), e0 6 _ (by decide)]
    have := w8 b hb
    have := e5 b
    omega
  · rw [e0 _ _ (by decide), e0 _ _ (by decide)]; exact w9 q hq
  · by_cases h5 : s = 5
    · subst h5
      have := e5 j
      have := w10 5 j hr
      omega
    · rw [e0 _ _ h5]; exact w10 s j hr
theorem la_ok_feasts {L : LD} (hw : la_ok L) : ∀ n, n ≤ 4 → la_ok (sp_feasts L n)
  | 0, _ => hw
  | n + 1, h => la_ok_feast (la_ok_feasts hw n (by omega)) (by omega)
theorem sp_feasts_s {L : LD} {s j : Nat} (h5 : s ≠ 5) (h2 : s ≠ 2) : ∀ n, sp_feasts L n s j = L s j
  | 0 => rfl
  | n + 1 => by rw [sp_feasts, sp_feast_s h5 h2, sp_feasts_s h5 h2 n]
theorem la_ok_day {L : LD} (hw : la_ok L) {v : Nat} (hv : v ≤ 5000) : la_ok (lu L 0 10 v) := by
  obtain ⟨w1, w2, w3, w4, w5, w6, w7, w8, w9, w10⟩ := hw
  have e : ∀ s j, ¬ (s = 0 ∧ j = 10) → lu L 0 10 v s j = L s j := fun s j h => lu_ne h
  refine ⟨by rw [e _ _ (by decide)]; exact w1, by rw [e _ _ (by decide)]; exact w2, by rw [e _ _ (by decide)]; exact w3, by rw [e _ _ (by decide)]; exact w4, by rw [lu_same]; exact hv, by rw [e _ _ (by decide)]; exact w6, fun k hk => ?_, fun b hb => ?_, fun q hq => ?_, fun s j hr => ?_⟩
  · rw [e _ _ (by omega), e _ _ (by omega)]; exact w7 k hk
  · rw [e _ _ (by omega), e _ _ (by omega), e _ _ (by omega), e _ _ (by omega)]; exact w8 b hb
  · rw [e _ _ (by omega), e _ _ (by omega)]; exact w9 q hq
  · rw [e]
    · exact w10 s j hr
    · rintro ⟨rfl, rfl⟩
      exact hr (by unfold la_rel; omega)
theorem la_ok_live {L : LD} (hw : la_ok L) (hd : L 0 10 < 5000) : la_ok (sp_live L) := by
  unfold sp_live
  exact la_ok_day (la_ok_feasts (la_ok_rot hw _) _ hw.1) (by omega)
theorem sp_live_s {L : LD} {s j : Nat} (h5 : s ≠ 5) (h2 : s ≠ 2) (hd : ¬ (s = 0 ∧ j = 10)) : sp_live L s j = L s j := by
  unfold sp_live
  rw [lu_ne hd, sp_feasts_s h5 h2, sp_rot_s h5]
theorem sp_live_day (L : LD) : sp_live L 0 10 = L 0 10 + 1 := by
  unfold sp_live
  rw [lu_same]
/-! live -/
def P_X0_live : Nat × LD × pm_H → List pm_V → pm_H → Prop := fun g av h => match g with
  | (i, L, h0) => av = [vR 0 i 0] ∧ h = h0 ∧ la_at h0 i L ∧ la_ok L ∧ L 0 10 < 5000
def Q_X0_live : Nat × LD × pm_H → Int32 → pm_H → Prop := fun g v h => match g with
  | (i, L, h0) => h = la_put h0 i (sp_live L) ∧ v = nI (sp_day L)
theorem sp_spoil_rot {L : LD} {k : Nat} : sp_spoil (sp_rot L k) k = sp_spoil L k := by
  unfold sp_spoil
  rw [sp_rot_5, if_neg (by omega), sp_rot_s (by decide), sp_rot_s (by decide)]
theorem sp_rot_step {L : LD} {k v : Nat} (hv : v = L 5 k - sp_spoil L k) : lu (sp_rot L k) 5 k v = sp_rot L (k + 1) := by
  unfold sp_rot
  refine lu_lr (fun b => ?_)
  by_cases hb : b = k
  · subst hb
    rw [if_pos (by omega), if_pos rfl, hv]
  · rw [if_neg hb]
    by_cases h1 : b < k
    · rw [if_pos h1, if_pos (by omega)]
    · rw [if_neg h1, if_neg (by omega)]
theorem sp_rot_0 (L : LD) : sp_rot L 0 = L := by
  unfold sp_rot
  have : (fun b => if b < 0 then L 5 b - sp_spoil L b else L 5 b) = L 5 := by
    funext b
    rw [if_neg (by omega)]
  rw [this, lr_self]
def T_X0_live : List (Nat × pm_T) := [
  (0, i_c (nI 0) 1),
  (1, i_is 1 2),
  (2, i_il 1 3),
  (3, i_al 0 4),
  (4, i_gi 0 3 7),
  (7, i_icge 30 10),
  (10, i_al 0 11),
  (11, i_gr 0 (fun i => (0, i, 5)) 14),
  (14, i_il 1 15),
  (15, i_dup2 16),
  (16, i_ia 17),
  (17, i_al 0 18),
  (18, i_il 1 19),
  (19, i_ci 2 P_X0_spoilOf Q_X0_spoilOf 22),
  (22, i_isub 23),
  (23, i_ias 24),
  (24, i_inc 1 (nI 1) 27),
  (27, i_go 2),
  (30, i_c (nI 0) 31),
  (31, i_is 1 32),
  (32, i_c (nI 0) 33),
  (33, i_is 2 34),
  (34, i_il 2 35),
  (35, i_al 0 36),
  (36, i_gi 0 0 39),
  (39, i_icge 56 42),
  (42, i_il 1 43),
  (43, i_al 0 44),
  (44, i_il 2 45),
  (45, i_ci 2 P_X0_feast Q_X0_feast 48),
  (48, i_iadd 49),
  (49, i_is 1 50),
  (50, i_inc 2 (nI 1) 53),
  (53, i_go 34),
  (56, i_al 0 57),
  (57, i_dup 58),
  (58, i_gi 0 10 61),
  (61, i_c (nI 1) 62),
  (62, i_iadd 63),
  (63, i_pi 0 10 66),
  (66, i_il 1 67),
  (67, i_ir)]
theorem k_X0_live : ∀ q ∈ T_X0_live, pm_sd RX0 cX0_live 3 2 1 q.1 q.2 := by
  unfold T_X0_live
  refine pm_cn (sd_iconst (z := 0) (by decide +kernel) (by decide +kernel) rfl) ?_
  refine pm_cn (sd_isn (k := 1) (by decide +kernel) rfl rfl (by decide)) ?_
  refine pm_cn (sd_iln (k := 1) (by decide +kernel) rfl rfl) ?_
  refine pm_cn (sd_aln (k := 0) (by decide +kernel) rfl rfl) ?_
  refine pm_cn (sd_gi cl0_ in0_ (by decide) (fun _ => rfl) fl_X0_46 (by decide +kernel) rfl) ?_
  refine pm_cn (sd_icge (off := 23) (by decide +kernel) (by decide) rfl) ?_
  refine pm_cn (sd_aln (k := 0) (by decide +kernel) rfl rfl) ?_
  refine pm_cn (sd_gr cl0_ in0_ (j := 6) (by decide) (fun _ => rfl) fl_X0_24 (by decide +kernel) rfl) ?_
  refine pm_cn (sd_iln (k := 1) (by decide +kernel) rfl rfl) ?_
  refine pm_cn (sd_dup2 (by decide +kernel) rfl) ?_
  refine pm_cn (sd_ia (by decide +kernel) rfl) ?_
  refine pm_cn (sd_aln (k := 0) (by decide +kernel) rfl rfl) ?_
  refine pm_cn (sd_iln (k := 1) (by decide +kernel) rfl rfl) ?_
  refine pm_cn (sd_civ M_X0_spoilOf (by decide) cd_X0_spoilOf rc_X0_spoilOf cl0_ ml_X0_79 im_X0_spoilOf se_X0_spoilOf nt_X0 (by decide +kernel) (by decide) (by decide) (by decide +kernel) rfl) ?_
  refine pm_cn (sd_isub (by decide +kernel) rfl) ?_
  refine pm_cn (sd_ias (by decide +kernel) rfl) ?_
  refine pm_cn (sd_inc (z := 1) (by decide +kernel) (by decide +kernel) rfl (by decide)) ?_
  refine pm_cn (sd_go (off := -25) (by decide +kernel) (by decide)) ?_
  refine pm_cn (sd_iconst (z := 0) (by decide +kernel) (by decide +kernel) rfl) ?_
  refine pm_cn (sd_isn (k := 1) (by decide +kernel) rfl rfl (by decide)) ?_
  refine pm_cn (sd_iconst (z := 0) (by decide +kernel) (by decide +kernel) rfl) ?_
  refine pm_cn (sd_isn (k := 2) (by decide +kernel) rfl rfl (by decide)) ?_
  refine pm_cn (sd_iln (k := 2) (by decide +kernel) rfl rfl) ?_
  refine pm_cn (sd_aln (k := 0) (by decide +kernel) rfl rfl) ?_
  refine pm_cn (sd_gi cl0_ in0_ (by decide) (fun _ => rfl) fl_X0_43 (by decide +kernel) rfl) ?_
  refine pm_cn (sd_icge (off := 17) (by decide +kernel) (by decide) rfl) ?_
  refine pm_cn (sd_iln (k := 1) (by decide +kernel) rfl rfl) ?_
  refine pm_cn (sd_aln (k := 0) (by decide +kernel) rfl rfl) ?_
  refine pm_cn (sd_iln (k := 2) (by decide +kernel) rfl rfl) ?_
  refine pm_cn (sd_civ M_X0_feast (by decide) cd_X0_feast rc_X0_feast cl0_ ml_X0_82 im_X0_feast se_X0_feast nt_X0 (by decide +kernel) (by decide) (by decide) (by decide +kernel) rfl) ?_
  refine pm_cn (sd_iadd (by decide +kernel) rfl) ?_
  refine pm_cn (sd_isn (k := 1) (by decide +kernel) rfl rfl (by decide)) ?_
  refine pm_cn (sd_inc (z := 1) (by decide +kernel) (by decide +kernel) rfl (by decide)) ?_
  refine pm_cn (sd_go (off := -19) (by decide +kernel) (by decide)) ?_
  refine pm_cn (sd_aln (k := 0) (by decide +kernel) rfl rfl) ?_
  refine pm_cn (sd_dup (by decide +kernel) rfl) ?_
  refine pm_cn (sd_gi cl0_ in0_ (by decide) (fun _ => rfl) fl_X0_52 (by decide +kernel) rfl) ?_
  refine pm_cn (sd_iconst (z := 1) (by decide +kernel) (by decide +kernel) rfl) ?_
  refine pm_cn (sd_iadd (by decide +kernel) rfl) ?_
  refine pm_cn (sd_pi cl0_ in0_ tyX0 tyX0_ok nmX0 (by decide) (fun _ => rfl) rfl rfl fl_X0_52 (by decide +kernel) rfl) ?_
  refine pm_cn (sd_iln (k := 1) (by decide +kernel) rfl rfl) ?_
  refine pm_cn (sd_ir (by decide +kernel)) ?_
  exact fun _ h => absurd h List.not_mem_nil
set_option maxHeartbeats 4000000 in
set_option maxRecDepth 100000 in
theorem pf_X0_live : pm_pf T_X0_live P_X0_live (pm_pi Q_X0_live) := by
  rintro ⟨i, L, h0⟩ av h K hK ⟨rfl, rfl, hL, hw, hd⟩ hret
  obtain ⟨w1, w2, w3, w4, w5, w6, w7, w8, w9, w10⟩ := id hw
  show K (some 0) ([(0, vR 0 i 0)], [], h)
  have hwr := la_ok_rot hw (L 0 3)
  have loop2 : ∀ n k a M, k + n = L 0 0 → a = sp_meals (sp_rot L (L 0 3)) k → M = sp_feasts (sp_rot L (L 0 3)) k → K (some 34) ([(0, vR 0 i 0), (1, vI (nI a)), (2, vI (nI k))], [], la_put h i M) := by
    intro n
    induction n with
    | zero =>
      intro k a M hk ha hM
      have e1 : M 0 0 = L 0 0 := by rw [hM, sp_feasts_s (by decide) (by decide), sp_rot_s (by decide)]
      have e2 : M 0 10 = L 0 10 := by rw [hM, sp_feasts_s (by decide) (by decide), sp_rot_s (by decide)]
      refine hK [(34, [0, 1, 2])] 40 _ _ ?_
      conv => whnf
      repeat' (first
        | (refine ⟨fun c => ?_, fun c => ?_⟩ <;> (try simp (disch := omega) only [nI_leI, nI_ltI, nI_eq, nz_eq, nz_lt, nz_gt, nz_le, nz_ge, nz_00, nz_10, nz_n1, nI_add, pk_mul, pk_sub, nI_shl1, nI_or, nI_half2, nI_min2, la_put_eq, la_up, lr_same, lr_ne, lu_same, lu_ne, e1, e2] at c) <;> first | (exfalso; omega) | conv => whnf)
        | (refine ⟨_, rfl, by omega, ?_⟩; conv => whnf)
        | (refine And.intro (by decide) ?_; conv => whnf))
      all_goals (try simp (disch := omega) only [nI_leI, nI_ltI, nI_eq, nz_eq, nz_lt, nz_gt, nz_le, nz_ge, nz_00, nz_10, nz_n1, nI_add, pk_mul, pk_sub, nI_shl1, nI_or, nI_half2, nI_min2, la_put_eq, la_up, lr_same, lr_ne, lu_same, lu_ne, e1, e2])
      have : k = L 0 0 := by omega
      subst this
      subst ha hM
      exact hret _ _ ⟨rfl, rfl⟩
    | succ n ih =>
      intro k a M hk ha hM
      have e1 : M 0 0 = L 0 0 := by rw [hM, sp_feasts_s (by decide) (by decide), sp_rot_s (by decide)]
      refine hK [(34, [0, 1, 2])] 40 _ _ ?_
      conv => whnf
      repeat' (first
        | (refine ⟨fun c => ?_, fun c => ?_⟩ <;> (try simp (disch := omega) only [nI_leI, nI_ltI, nI_eq, nz_eq, nz_lt, nz_gt, nz_le, nz_ge, nz_00, nz_10, nz_n1, nI_add, pk_mul, pk_sub, nI_shl1, nI_or, nI_half2, nI_min2, la_put_eq, la_up, lr_same, lr_ne, lu_same, lu_ne, e1] at c) <;> first | (exfalso; omega) | conv => whnf)
        | (refine ⟨_, rfl, by omega, ?_⟩; conv => whnf)
        | (refine And.intro (by decide) ?_; conv => whnf))
      all_goals (try simp (disch := omega) only [nI_leI, nI_ltI, nI_eq, nz_eq, nz_lt, nz_gt, nz_le, nz_ge, nz_00, nz_10, nz_n1, nI_add, pk_mul, pk_sub, nI_shl1, nI_or, nI_half2, nI_min2, la_put_eq, la_up, lr_same, lr_ne, lu_same, lu_ne, e1])
      refine ⟨(i, k, M, la_put h i M), ⟨rfl, rfl, la_put_at h i M, by rw [hM]; exact la_ok_feasts hwr k (by omega), by omega⟩, fun v h' hq => ?_⟩
      obtain ⟨rfl, rfl⟩ := hq
      conv => whnf
      repeat' (first
        | (refine ⟨fun c => ?_, fun c => ?_⟩ <;> (try simp (disch := omega) only [nI_leI, nI_ltI, nI_eq, nz_eq, nz_lt, nz_gt, nz_le, nz_ge, nz_00, nz_10, nz_n1, nI_add, pk_mul, pk_sub, nI_shl1, nI_or, nI_half2, nI_min2, la_put_eq, la_up, lr_same, lr_ne, lu_same, lu_ne, la_put2] at c) <;> first | (exfalso; omega) | conv => whnf)
        | (refine ⟨_, rfl, by omega, ?_⟩; conv => whnf)
        | (refine And.intro (by decide) ?_; conv => whnf))
      all_goals (try simp (disch := omega) only [nI_leI, nI_ltI, nI_eq, nz_eq, nz_lt, nz_gt, nz_le, nz_ge, nz_00, nz_10, nz_n1, nI_add, pk_mul, pk_sub, nI_shl1, nI_or, nI_half2, nI_min2, la_put_eq, la_up, lr_same, lr_ne, lu_same, lu_ne, la_put2])
      refine ih (k + 1) _ _ (by omega) ?_ ?_
      · rw [sp_meals, ← ha, ← hM]
      · rw [sp_feasts, ← hM]
  have loop1 : ∀ n k M, k + n = L 0 3 → M = sp_rot L k → K (some 2) ([(0, vR 0 i 0), (1, vI (nI k))], [], la_put h i M) := by
    intro n
    induction n with
    | zero =>
      intro k M hk hM
      have e1 : M 0 3 = L 0 3 := by rw [hM, sp_rot_s (by decide)]
      refine hK [(2, [0, 1]), (34, [0, 1, 2])] 40 _ _ ?_
      conv => whnf
      repeat' (first
        | (refine ⟨fun c => ?_, fun c => ?_⟩ <;> (try simp (disch := omega) only [nI_leI, nI_ltI, nI_eq, nz_eq, nz_lt, nz_gt, nz_le, nz_ge, nz_00, nz_10, nz_n1, nI_add, pk_mul, pk_sub, nI_shl1, nI_or, nI_half2, nI_min2, la_put_eq, la_up, lr_same, lr_ne, lu_same, lu_ne, e1] at c) <;> first | (exfalso; omega) | conv => whnf)
        | (refine ⟨_, rfl, by omega, ?_⟩; conv => whnf)
        | (refine And.intro (by decide) ?_; conv => whnf))
      all_goals (try simp (disch := omega) only [nI_leI, nI_ltI, nI_eq, nz_eq, nz_lt, nz_gt, nz_le, nz_ge, nz_00, nz_10, nz_n1, nI_add, pk_mul, pk_sub, nI_shl1, nI_or, nI_half2, nI_min2, la_put_eq, la_up, lr_same, lr_ne, lu_same, lu_ne, e1])
      have : k = L 0 3 := by omega
      subst this
      exact loop2 (L 0 0) 0 0 M (by omega) rfl hM
    | succ n ih =>
      intro k M hk hM
      have hB := w8 k (by omega)
      have e1 : M 0 3 = L 0 3 := by rw [hM, sp_rot_s (by decide)]
      have e2 : M 5 k = L 5 k := by rw [hM, sp_rot_5, if_neg (by omega)]
      have e3 : sp_spoil M k = sp_spoil L k := by rw [hM, sp_spoil_rot]
      have e4 : sp_spoil L k ≤ L 5 k := Nat.min_le_right _ _
      refine hK [(2, [0, 1]), (34, [0, 1, 2])] 40 _ _ ?_
      conv => whnf
      repeat' (first
        | (refine ⟨fun c => ?_, fun c => ?_⟩ <;> (try simp (disch := omega) only [nI_leI, nI_ltI, nI_eq, nz_eq, nz_lt, nz_gt, nz_le, nz_ge, nz_00, nz_10, nz_n1, nI_add, pk_mul, pk_sub, nI_shl1, nI_or, nI_half2, nI_min2, la_put_eq, la_up, lr_same, lr_ne, lu_same, lu_ne, e1, e2] at c) <;> first | (exfalso; omega) | conv => whnf)
        | (refine ⟨_, rfl, by omega, ?_⟩; conv => whnf)
        | (refine And.intro (by decide) ?_; conv => whnf))
      all_goals (try simp (disch := omega) only [nI_leI, nI_ltI, nI_eq, nz_eq, nz_lt, nz_gt, nz_le, nz_ge, nz_00, nz_10, nz_n1, nI_add, pk_mul, pk_sub, nI_shl1, nI_or, nI_half2, nI_min2, la_put_eq, la_up, lr_same, lr_ne, lu_same, lu_ne, e1, e2])
      refine ⟨(i, k, M, la_put h i M), ⟨rfl, rfl, la_put_at h i M, by omega, by rw [hM, sp_rot_s (by decide)]; exact w3, by rw [hM, sp_rot_s (by decide)]; exact hB.1, by rw [e2]; exact hB.2.2.1⟩, fun v h' hq => ?_⟩
      obtain ⟨rfl, rfl⟩ := hq
      conv => whnf
      repeat' (first
        | (refine ⟨fun c => ?_, fun c => ?_⟩ <;> (try simp (disch := omega) only [nI_leI, nI_ltI, nI_eq, nz_eq, nz_lt, nz_gt, nz_le, nz_ge, nz_00, nz_10, nz_n1, nI_add, pk_mul, pk_sub, nI_shl1, nI_or, nI_half2, nI_min2, la_put_eq, la_up, lr_same, lr_ne, lu_same, lu_ne, e3] at c) <;> first | (exfalso; omega) | conv => whnf)
        | (refine ⟨_, rfl, by omega, ?_⟩; conv => whnf)
        | (refine And.intro (by decide) ?_; conv => whnf))
      all_goals (try simp (disch := omega) only [nI_leI, nI_ltI, nI_eq, nz_eq, nz_lt, nz_gt, nz_le, nz_ge, nz_00, nz_10, nz_n1, nI_add, pk_mul, pk_sub, nI_shl1, nI_or, nI_half2, nI_min2, la_put_eq, la_up, lr_same, lr_ne, lu_same, lu_ne, e3])
      refine ih (k + 1) _ (by omega) ?_
      rw [hM]
      exact sp_rot_step rfl
  refine hK [(2, [0, 1])] 20 _ _ ?_
  conv => whnf
  repeat' (first
    | (refine ⟨fun c => ?_, fun c => ?_⟩ <;> (try simp (disch := omega) only [nI_leI, nI_ltI, nI_eq, nz_eq, nz_lt, nz_gt, nz_le, nz_ge, nz_00, nz_10, nz_n1, nI_add, pk_mul, pk_sub, nI_shl1, nI_or, nI_half2, nI_min2, la_put_eq, la_up, lr_same, lr_ne, lu_same, lu_ne, hL] at c) <;> first | (exfalso; omega) | conv => whnf)
    | (refine ⟨_, rfl, by omega, ?_⟩; conv => whnf)
    | (refine And.intro (by decide) ?_; conv => whnf))
  all_goals (try simp (disch := omega) only [nI_leI, nI_ltI, nI_eq, nz_eq, nz_lt, nz_gt, nz_le, nz_ge, nz_00, nz_10, nz_n1, nI_add, pk_mul, pk_sub, nI_shl1, nI_or, nI_half2, nI_min2, la_put_eq, la_up, lr_same, lr_ne, lu_same, lu_ne, hL])
  have := loop1 (L 0 3) 0 L (by omega) (sp_rot_0 L).symm
  rw [la_self hL] at this
  exact this
theorem M_X0_live : pm_MT yX0_live cX0_live 3 1 2 P_X0_live (pm_pi Q_X0_live) := pm_met k_X0_live (by decide) rfl (by
  rintro ⟨g0, g1, g2⟩ av h hp
  rw [hp.1]
  exact Nat.le_of_ble_eq_true rfl) pf_X0_live
theorem rc_X0_live : ∀ g av h, P_X0_live g av h → ∃ i t, av = .inr (.inr (0, i, 0)) :: t := by
  rintro ⟨g0, g1, g2⟩ av h hp
  exact ⟨_, _, hp.1⟩
