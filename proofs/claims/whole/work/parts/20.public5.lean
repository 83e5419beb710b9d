/-! BiscuitLore: what it was, damp days, drift, reading. -/
def tf2 (h0 h : pm_H) : Prop := ∃ T, la_ok T ∧ la_at h 1 T ∧ ∀ c i s j, ¬ (c = 0 ∧ i = 1) → c ≠ 6 → ¬ (c = 4 ∧ s = 5) → h c i s j = h0 c i s j
theorem tf2_of {h0 h : pm_H} (q : tf h0 h) : tf2 h0 h := by
  obtain ⟨T, wT, rfl⟩ := q
  exact ⟨T, wT, la_put_at _ _ _, fun c i s j h1 _ _ => la_put_ne h1⟩
theorem sp_kinds_lt (N : LD) (m : Nat) (S : LD) (b : Nat) : sp_kinds N m S b < 16 := by
  refine sp_or_lt (m := 4) (fun k hk => ?_)
  by_cases h : sp_fits (lu N 3 b k) m S
  · rw [sp_c_t h]
    exact Nat.pow_lt_pow_right (by decide) (by omega)
  · rw [sp_c_f h]; decide
noncomputable def a_kinds (N : LD) (m : Nat) (S : LD) (b : Int32) : Int32 := ci (ixI b (N 0 3)) (nI (sp_kinds N m S (ixv b))) (-1)
def P_X4_kinds : Int32 × LD × LD × Nat × LD × pm_H → List pm_V → pm_H → Prop := fun g av h => match g with
  | (b, N, T, m, S, h0) => av = [vR 4 0 0, vI b] ∧ h = h0 ∧ la_at h0 0 N ∧ la_at h0 1 T ∧ la_ok N ∧ la_ok T ∧ N 0 10 ≤ 999 ∧ se_at h0 m S ∧ se_ok m S
def Q_X4_kinds : Int32 × LD × LD × Nat × LD × pm_H → Int32 → pm_H → Prop := fun g r h => match g with
  | (b, N, T, m, S, h0) => tf h0 h ∧ r = a_kinds N m S b
def T_X4_kinds : List (Nat × pm_T) := [
  (0, i_al 0 1),
  (1, i_gr 4 (fun _ => (0, 0, 0)) 4),
  (4, i_il 1 5),
  (5, i_ci 2 P_X0_hasBiscuit Q_X0_hasBiscuit 8),
  (8, i_ifne 13 11),
  (11, i_c (-1) 12),
  (12, i_ir),
  (13, i_al 0 14),
  (14, i_il 1 15),
  (15, i_ci 2 P_X4_kindsLeft Q_X4_kindsLeft 18),
  (18, i_ir)]
theorem k_X4_kinds : ∀ q ∈ T_X4_kinds, pm_sd RX4 cX4_kinds 2 5 1 q.1 q.2 := by
  unfold T_X4_kinds
  refine pm_cn (sd_aln (k := 0) (by decide +kernel) rfl rfl) ?_
  refine pm_cn (sd_gr cl4_ in4_ (j := 1) (by decide) (fun _ => rfl) fl_X4_19 (by decide +kernel) rfl) ?_
  refine pm_cn (sd_iln (k := 1) (by decide +kernel) rfl rfl) ?_
  refine pm_cn (sd_civ M_X0_hasBiscuit (by decide) cd_X0_hasBiscuit rc_X0_hasBiscuit cl0_ ml_X4_131 im_X0_hasBiscuit se_X0_hasBiscuit nt_X0 (by decide +kernel) (by omega) (by decide) (by decide +kernel) rfl) ?_
  refine pm_cn (sd_ifne (off := 5) (by decide +kernel) (by decide) rfl) ?_
  refine pm_cn (sd_iconst (z := -1) (by decide +kernel) (by decide +kernel) rfl) ?_
  refine pm_cn (sd_ir (by decide +kernel)) ?_
  refine pm_cn (sd_aln (k := 0) (by decide +kernel) rfl rfl) ?_
  refine pm_cn (sd_iln (k := 1) (by decide +kernel) rfl rfl) ?_
  refine pm_cn (sd_civ M_X4_kindsLeft (by decide) cd_X4_kindsLeft rc_X4_kindsLeft cl4_ ml_X4_221 im_X4_kindsLeft se_X4_kindsLeft nt_X4 (by decide +kernel) (by omega) (by decide) (by decide +kernel) rfl) ?_
  refine pm_cn (sd_ir (by decide +kernel)) ?_
  exact fun _ h => absurd h List.not_mem_nil
set_option maxHeartbeats 800000 in
set_option maxRecDepth 100000 in
theorem pf_X4_kinds : pm_pf T_X4_kinds P_X4_kinds (pm_pi Q_X4_kinds) := by
  rintro ⟨b, N, T, m, S, h0⟩ av h K hK ⟨rfl, rfl, hN, hT, wN, wT, hd, hS, hSo⟩ hret
  have w2 := wN.2.1
  show K (some 0) ([(0, vR 4 0 0), (1, vI b)], [], h)
  refine hK [] 60 _ _ ?_
  conv => whnf
  repeat' (first
    | (refine ⟨fun c9 => ?_, fun c9 => ?_⟩ <;> (try simp (disch := omega) only [nI_leI, nI_ltI, nI_eq, nz_eq, nz_lt, nz_gt, nz_le, nz_ge, nz_00, nz_n1, nI_add, pk_mul, pk_sub, nI_shl1, nI_or, nI_half2, nI_min2, la_put_eq, la_up, lr_same, lr_ne, lu_same, lu_ne, not_true_eq_false, not_false_eq_true] at c9) <;> first | (exfalso; omega) | conv => whnf)
    | (refine ⟨_, rfl, by omega, ?_⟩; conv => whnf)
    | (refine ⟨_, rfl, rfl, rfl, by decide, by decide, ?_⟩; conv => whnf)
    | (refine ⟨_, by (simp (disch := omega) only [nI_leI, nI_ltI, nI_eq, nz_eq, nz_lt, nz_gt, nz_le, nz_ge, nz_00, nz_n1, nI_add, pk_mul, pk_sub, nI_shl1, nI_or, nI_half2, nI_min2, la_put_eq, la_up, lr_same, lr_ne, lu_same, lu_ne, not_true_eq_false, not_false_eq_true]; rfl), by omega, ?_⟩; conv => whnf)
    | (refine And.intro (by first | assumption | decide) ?_; conv => whnf))
  all_goals (try simp (disch := omega) only [nI_leI, nI_ltI, nI_eq, nz_eq, nz_lt, nz_gt, nz_le, nz_ge, nz_00, nz_n1, nI_add, pk_mul, pk_sub, nI_shl1, nI_or, nI_half2, nI_min2, la_put_eq, la_up, lr_same, lr_ne, lu_same, lu_ne, not_true_eq_false, not_false_eq_true])
  refine ⟨(0, b, N, _), ⟨rfl, rfl, hN, wN⟩, fun v h' hq => ?_⟩
  obtain ⟨rfl, ⟨hb, rfl⟩ | ⟨hc, rfl⟩⟩ := hq
  · obtain ⟨k, hk, rfl⟩ := id hb
    conv => whnf
    repeat' (first
      | (refine ⟨fun c9 => ?_, fun c9 => ?_⟩ <;> (try simp (disch := omega) only [nI_leI, nI_ltI, nI_eq, nz_eq, nz_lt, nz_gt, nz_le, nz_ge, nz_00, nz_n1, nI_add, pk_mul, pk_sub, nI_shl1, nI_or, nI_half2, nI_min2, la_put_eq, la_up, lr_same, lr_ne, lu_same, lu_ne, not_true_eq_false, not_false_eq_true] at c9) <;> first | (exfalso; omega) | conv => whnf)
      | (refine ⟨_, rfl, by omega, ?_⟩; conv => whnf)
      | (refine ⟨_, rfl, rfl, rfl, by decide, by decide, ?_⟩; conv => whnf)
      | (refine ⟨_, by (simp (disch := omega) only [nI_leI, nI_ltI, nI_eq, nz_eq, nz_lt, nz_gt, nz_le, nz_ge, nz_00, nz_n1, nI_add, pk_mul, pk_sub, nI_shl1, nI_or, nI_half2, nI_min2, la_put_eq, la_up, lr_same, lr_ne, lu_same, lu_ne, not_true_eq_false, not_false_eq_true]; rfl), by omega, ?_⟩; conv => whnf)
      | (refine And.intro (by first | assumption | decide) ?_; conv => whnf))
    all_goals (try simp (disch := omega) only [nI_leI, nI_ltI, nI_eq, nz_eq, nz_lt, nz_gt, nz_le, nz_ge, nz_00, nz_n1, nI_add, pk_mul, pk_sub, nI_shl1, nI_or, nI_half2, nI_min2, la_put_eq, la_up, lr_same, lr_ne, lu_same, lu_ne, not_true_eq_false, not_false_eq_true])
    refine ⟨(k, N, T, m, S, _), ⟨rfl, rfl, hN, hT, wN, wT, hS, hSo, by omega, by omega⟩, fun v h' hq => ?_⟩
    obtain ⟨ht, rfl⟩ := hq
    conv => whnf
    repeat' (first
      | (refine ⟨fun c9 => ?_, fun c9 => ?_⟩ <;> (try simp (disch := omega) only [nI_leI, nI_ltI, nI_eq, nz_eq, nz_lt, nz_gt, nz_le, nz_ge, nz_00, nz_n1, nI_add, pk_mul, pk_sub, nI_shl1, nI_or, nI_half2, nI_min2, la_put_eq, la_up, lr_same, lr_ne, lu_same, lu_ne, not_true_eq_false, not_false_eq_true] at c9) <;> first | (exfalso; omega) | conv => whnf)
      | (refine ⟨_, rfl, by omega, ?_⟩; conv => whnf)
      | (refine ⟨_, rfl, rfl, rfl, by decide, by decide, ?_⟩; conv => whnf)
      | (refine ⟨_, by (simp (disch := omega) only [nI_leI, nI_ltI, nI_eq, nz_eq, nz_lt, nz_gt, nz_le, nz_ge, nz_00, nz_n1, nI_add, pk_mul, pk_sub, nI_shl1, nI_or, nI_half2, nI_min2, la_put_eq, la_up, lr_same, lr_ne, lu_same, lu_ne, not_true_eq_false, not_false_eq_true]; rfl), by omega, ?_⟩; conv => whnf)
      | (refine And.intro (by first | assumption | decide) ?_; conv => whnf))
    all_goals (try simp (disch := omega) only [nI_leI, nI_ltI, nI_eq, nz_eq, nz_lt, nz_gt, nz_le, nz_ge, nz_00, nz_n1, nI_add, pk_mul, pk_sub, nI_shl1, nI_or, nI_half2, nI_min2, la_put_eq, la_up, lr_same, lr_ne, lu_same, lu_ne, not_true_eq_false, not_false_eq_true])
    refine hret _ _ ⟨ht, ?_⟩
    rw [a_kinds, ci_t hb, ixv_nI (by omega)]
  · conv => whnf
    repeat' (first
      | (refine ⟨fun c9 => ?_, fun c9 => ?_⟩ <;> (try simp (disch := omega) only [nI_leI, nI_ltI, nI_eq, nz_eq, nz_lt, nz_gt, nz_le, nz_ge, nz_00, nz_n1, nI_add, pk_mul, pk_sub, nI_shl1, nI_or, nI_half2, nI_min2, la_put_eq, la_up, lr_same, lr_ne, lu_same, lu_ne, not_true_eq_false, not_false_eq_true] at c9) <;> first | (exfalso; omega) | conv => whnf)
      | (refine ⟨_, rfl, by omega, ?_⟩; conv => whnf)
      | (refine ⟨_, rfl, rfl, rfl, by decide, by decide, ?_⟩; conv => whnf)
      | (refine ⟨_, by (simp (disch := omega) only [nI_leI, nI_ltI, nI_eq, nz_eq, nz_lt, nz_gt, nz_le, nz_ge, nz_00, nz_n1, nI_add, pk_mul, pk_sub, nI_shl1, nI_or, nI_half2, nI_min2, la_put_eq, la_up, lr_same, lr_ne, lu_same, lu_ne, not_true_eq_false, not_false_eq_true]; rfl), by omega, ?_⟩; conv => whnf)
      | (refine And.intro (by first | assumption | decide) ?_; conv => whnf))
    all_goals (try simp (disch := omega) only [nI_leI, nI_ltI, nI_eq, nz_eq, nz_lt, nz_gt, nz_le, nz_ge, nz_00, nz_n1, nI_add, pk_mul, pk_sub, nI_shl1, nI_or, nI_half2, nI_min2, la_put_eq, la_up, lr_same, lr_ne, lu_same, lu_ne, not_true_eq_false, not_false_eq_true])
    refine hret _ _ ⟨tf_self hT wT, ?_⟩
    rw [a_kinds, ci_f hc]
theorem M_X4_kinds : pm_MT yX4_kinds cX4_kinds 2 1 5 P_X4_kinds (pm_pi Q_X4_kinds) := pm_met k_X4_kinds (by decide) rfl (by
  rintro ⟨g0, g1, g2, g3, g4, g5⟩ av h hp
  rw [hp.1]
  exact Nat.le_of_ble_eq_true rfl) pf_X4_kinds
theorem rc_X4_kinds : ∀ g av h, P_X4_kinds g av h → ∃ i t, av = .inr (.inr (4, i, 0)) :: t := by
  rintro ⟨g0, g1, g2, g3, g4, g5⟩ av h hp
  exact ⟨_, _, hp.1⟩
noncomputable def sp_subs (N : LD) (m : Nat) (S : LD) (b : Nat) : Nat := sp_or (fun k => sp_c (sp_fits (lu N 4 b k) m S) (2 ^ k)) 10
noncomputable def a_subjects (N : LD) (m : Nat) (S : LD) (b : Int32) : Int32 := ci (ixI b (N 0 3)) (nI (sp_subs N m S (ixv b))) (-1)
def P_X4_subjects : Int32 × LD × LD × Nat × LD × pm_H → List pm_V → pm_H → Prop := fun g av h => match g with
  | (b, N, T, m, S, h0) => av = [vR 4 0 0, vI b] ∧ h = h0 ∧ la_at h0 0 N ∧ la_at h0 1 T ∧ la_ok N ∧ la_ok T ∧ N 0 10 ≤ 999 ∧ se_at h0 m S ∧ se_ok m S
def Q_X4_subjects : Int32 × LD × LD × Nat × LD × pm_H → Int32 → pm_H → Prop := fun g r h => match g with
  | (b, N, T, m, S, h0) => tf h0 h ∧ r = a_subjects N m S b
def T_X4_subjects : List (Nat × pm_T) := [
  (0, i_al 0 1),
  (1, i_gr 4 (fun _ => (0, 0, 0)) 4),
  (4, i_il 1 5),
  (5, i_ci 2 P_X0_hasBiscuit Q_X0_hasBiscuit 8),
  (8, i_ifne 13 11),
  (11, i_c (-1) 12),
  (12, i_ir),
  (13, i_c (nI 0) 14),
  (14, i_is 2 15),
  (15, i_c (nI 0) 16),
  (16, i_is 3 17),
  (17, i_il 3 18),
  (18, i_c (nI 9) 20),
  (20, i_icgt 70 23),
  (23, i_al 0 24),
  (24, i_gr 4 (fun _ => (0, 1, 0)) 27),
  (27, i_al 0 28),
  (28, i_gr 4 (fun _ => (0, 0, 0)) 31),
  (31, i_cv 2 P_X0_take Q_X0_take 34),
  (34, i_al 0 35),
  (35, i_gr 4 (fun _ => (0, 1, 0)) 38),
  (38, i_gr 0 (fun i => (0, i, 4)) 41),
  (41, i_il 1 42),
  (42, i_il 3 43),
  (43, i_ias 44),
  (44, i_al 0 45),
  (45, i_gr 4 (fun _ => (2, 0, 0)) 48),
  (48, i_al 0 49),
  (49, i_gr 4 (fun _ => (0, 1, 0)) 52),
  (52, i_ci 2 P_X2_fits Q_X2_fits 55),
  (55, i_ifeq 64 58),
  (58, i_il 2 59),
  (59, i_c (nI 1) 60),
  (60, i_il 3 61),
  (61, i_ishl 62),
  (62, i_ior 63),
  (63, i_is 2 64),
  (64, i_inc 3 (nI 1) 67),
  (67, i_go 17),
  (70, i_il 2 71),
  (71, i_ir)]
theorem k_X4_subjects : ∀ q ∈ T_X4_subjects, pm_sd RX4 cX4_subjects 4 5 1 q.1 q.2 := by
  unfold T_X4_subjects
  refine pm_cn (sd_aln (k := 0) (by decide +kernel) rfl rfl) ?_
  refine pm_cn (sd_gr cl4_ in4_ (j := 1) (by decide) (fun _ => rfl) fl_X4_19 (by decide +kernel) rfl) ?_
  refine pm_cn (sd_iln (k := 1) (by decide +kernel) rfl rfl) ?_
  refine pm_cn (sd_civ M_X0_hasBiscuit (by decide) cd_X0_hasBiscuit rc_X0_hasBiscuit cl0_ ml_X4_131 im_X0_hasBiscuit se_X0_hasBiscuit nt_X0 (by decide +kernel) (by omega) (by decide) (by decide +kernel) rfl) ?_
  refine pm_cn (sd_ifne (off := 5) (by decide +kernel) (by decide) rfl) ?_
  refine pm_cn (sd_iconst (z := -1) (by decide +kernel) (by decide +kernel) rfl) ?_
  refine pm_cn (sd_ir (by decide +kernel)) ?_
  refine pm_cn (sd_iconst (z := 0) (by decide +kernel) (by decide +kernel) rfl) ?_
  refine pm_cn (sd_isn (k := 2) (by decide +kernel) rfl rfl (by decide)) ?_
  refine pm_cn (sd_iconst (z := 0) (by decide +kernel) (by decide +kernel) rfl) ?_
  refine pm_cn (sd_isn (k := 3) (by decide +kernel) rfl rfl (by decide)) ?_
  refine pm_cn (sd_iln (k := 3) (by decide +kernel) rfl rfl) ?_
  refine pm_cn (sd_bipush (z := 9) (by decide +kernel) (by decide +kernel) rfl) ?_
  refine pm_cn (sd_icgt (off := 50) (by decide +kernel) (by decide) rfl) ?_
  refine pm_cn (sd_aln (k := 0) (by decide +kernel) rfl rfl) ?_
  refine pm_cn (sd_gr cl4_ in4_ (j := 2) (by decide) (fun _ => rfl) fl_X4_23 (by decide +kernel) rfl) ?_
  refine pm_cn (sd_aln (k := 0) (by decide +kernel) rfl rfl) ?_
  refine pm_cn (sd_gr cl4_ in4_ (j := 1) (by decide) (fun _ => rfl) fl_X4_19 (by decide +kernel) rfl) ?_
  refine pm_cn (sd_cvv M_X0_take cd_X0_take rc_X0_take cl0_ ml_X4_76 im_X0_take se_X0_take nt_X0 (by decide +kernel) (by omega) (by decide) (by decide +kernel) rfl) ?_
  refine pm_cn (sd_aln (k := 0) (by decide +kernel) rfl rfl) ?_
  refine pm_cn (sd_gr cl4_ in4_ (j := 2) (by decide) (fun _ => rfl) fl_X4_23 (by decide +kernel) rfl) ?_
  refine pm_cn (sd_gr cl0_ in0_ (j := 5) (by decide) (fun _ => rfl) fl_X4_137 (by decide +kernel) rfl) ?_
  refine pm_cn (sd_iln (k := 1) (by decide +kernel) rfl rfl) ?_
  refine pm_cn (sd_iln (k := 3) (by decide +kernel) rfl rfl) ?_
  refine pm_cn (sd_ias (by decide +kernel) rfl) ?_
  refine pm_cn (sd_aln (k := 0) (by decide +kernel) rfl rfl) ?_
  refine pm_cn (sd_gr cl4_ in4_ (j := 5) (by decide) (fun _ => rfl) fl_X4_37 (by decide +kernel) rfl) ?_
  refine pm_cn (sd_aln (k := 0) (by decide +kernel) rfl rfl) ?_
  refine pm_cn (sd_gr cl4_ in4_ (j := 2) (by decide) (fun _ => rfl) fl_X4_23 (by decide +kernel) rfl) ?_
  refine pm_cn (sd_civ M_X2_fits (by decide) cd_X2_fits rc_X2_fits cl2_ ml_X4_224 im_X2_fits se_X2_fits nt_X2 (by decide +kernel) (by omega) (by decide) (by decide +kernel) rfl) ?_
  refine pm_cn (sd_ifeq (off := 9) (by decide +kernel) (by decide) rfl) ?_
  refine pm_cn (sd_iln (k := 2) (by decide +kernel) rfl rfl) ?_
  refine pm_cn (sd_iconst (z := 1) (by decide +kernel) (by decide +kernel) rfl) ?_
  refine pm_cn (sd_iln (k := 3) (by decide +kernel) rfl rfl) ?_
  refine pm_cn (sd_ishl (by decide +kernel) rfl) ?_
  refine pm_cn (sd_ior (by decide +kernel) rfl) ?_
  refine pm_cn (sd_isn (k := 2) (by decide +kernel) rfl rfl (by decide)) ?_
  refine pm_cn (sd_inc (z := 1) (by decide +kernel) (by decide +kernel) rfl (by decide)) ?_
  refine pm_cn (sd_go (off := -50) (by decide +kernel) (by decide)) ?_
  refine pm_cn (sd_iln (k := 2) (by decide +kernel) rfl rfl) ?_
  refine pm_cn (sd_ir (by decide +kernel)) ?_
  exact fun _ h => absurd h List.not_mem_nil
set_option maxHeartbeats 800000 in
set_option maxRecDepth 100000 in
theorem pf_X4_subjects : pm_pf T_X4_subjects P_X4_subjects (pm_pi Q_X4_subjects) := by
  rintro ⟨b, N, T, m, S, h0⟩ av h K hK ⟨rfl, rfl, hN, hT, wN, wT, hd, hS, hSo⟩ hret
  have w2 := wN.2.1
  show K (some 0) ([(0, vR 4 0 0), (1, vI b)], [], h)
  refine hK [(17, [0, 1, 2, 3])] 60 _ _ ?_
  conv => whnf
  repeat' (first
    | (refine ⟨fun c9 => ?_, fun c9 => ?_⟩ <;> (try simp (disch := omega) only [nI_leI, nI_ltI, nI_eq, nz_eq, nz_lt, nz_gt, nz_le, nz_ge, nz_00, nz_n1, nI_add, pk_mul, pk_sub, nI_shl1, nI_or, nI_half2, nI_min2, la_put_eq, la_up, lr_same, lr_ne, lu_same, lu_ne, not_true_eq_false, not_false_eq_true] at c9) <;> first | (exfalso; omega) | conv => whnf)
    | (refine ⟨_, rfl, by omega, ?_⟩; conv => whnf)
    | (refine ⟨_, rfl, rfl, rfl, by decide, by decide, ?_⟩; conv => whnf)
    | (refine ⟨_, by (simp (disch := omega) only [nI_leI, nI_ltI, nI_eq, nz_eq, nz_lt, nz_gt, nz_le, nz_ge, nz_00, nz_n1, nI_add, pk_mul, pk_sub, nI_shl1, nI_or, nI_half2, nI_min2, la_put_eq, la_up, lr_same, lr_ne, lu_same, lu_ne, not_true_eq_false, not_false_eq_true]; rfl), by omega, ?_⟩; conv => whnf)
    | (refine And.intro (by first | assumption | decide) ?_; conv => whnf))
  all_goals (try simp (disch := omega) only [nI_leI, nI_ltI, nI_eq, nz_eq, nz_lt, nz_gt, nz_le, nz_ge, nz_00, nz_n1, nI_add, pk_mul, pk_sub, nI_shl1, nI_or, nI_half2, nI_min2, la_put_eq, la_up, lr_same, lr_ne, lu_same, lu_ne, not_true_eq_false, not_false_eq_true])
  refine ⟨(0, b, N, _), ⟨rfl, rfl, hN, wN⟩, fun v h' hq => ?_⟩
  obtain ⟨rfl, ⟨hb, rfl⟩ | ⟨hc, rfl⟩⟩ := hq
  · obtain ⟨x, hx, rfl⟩ := id hb
    have loop : ∀ n k a X, k + n = 10 → a = sp_or (fun k => sp_c (sp_fits (lu N 4 x k) m S) (2 ^ k)) k → la_ok X → K (some 17) ([(0, vR 4 0 0), (1, vI (nI x)), (2, vI (nI a)), (3, vI (nI k))], [], la_put h' 1 X) := by
      intro n
      induction n with
      | zero =>
        intro k a X hk ha wX
        refine hK [(17, [0, 1, 2, 3])] 40 _ _ ?_
        conv => whnf
        repeat' (first
          | (refine ⟨fun c9 => ?_, fun c9 => ?_⟩ <;> (try simp (disch := omega) only [nI_leI, nI_ltI, nI_eq, nz_eq, nz_lt, nz_gt, nz_le, nz_ge, nz_00, nz_n1, nI_add, pk_mul, pk_sub, nI_shl1, nI_or, nI_half2, nI_min2, la_put_eq, la_up, lr_same, lr_ne, lu_same, lu_ne, not_true_eq_false, not_false_eq_true] at c9) <;> first | (exfalso; omega) | conv => whnf)
          | (refine ⟨_, rfl, by omega, ?_⟩; conv => whnf)
          | (refine ⟨_, rfl, rfl, rfl, by decide, by decide, ?_⟩; conv => whnf)
          | (refine ⟨_, by (simp (disch := omega) only [nI_leI, nI_ltI, nI_eq, nz_eq, nz_lt, nz_gt, nz_le, nz_ge, nz_00, nz_n1, nI_add, pk_mul, pk_sub, nI_shl1, nI_or, nI_half2, nI_min2, la_put_eq, la_up, lr_same, lr_ne, lu_same, lu_ne, not_true_eq_false, not_false_eq_true]; rfl), by omega, ?_⟩; conv => whnf)
          | (refine And.intro (by first | assumption | decide) ?_; conv => whnf))
        all_goals (try simp (disch := omega) only [nI_leI, nI_ltI, nI_eq, nz_eq, nz_lt, nz_gt, nz_le, nz_ge, nz_00, nz_n1, nI_add, pk_mul, pk_sub, nI_shl1, nI_or, nI_half2, nI_min2, la_put_eq, la_up, lr_same, lr_ne, lu_same, lu_ne, not_true_eq_false, not_false_eq_true])
        have : k = 10 := by omega
        subst this
        refine hret _ _ ⟨⟨X, wX, rfl⟩, ?_⟩
        rw [a_subjects, ci_t hb, ixv_nI (by omega), ha]
        rfl
      | succ n ih =>
        intro k a X hk ha wX
        have wK : la_ok (lu N 4 x k) := la_ok_lu wN (by unfold la_rel; omega) (by unfold la_bd; omega)
        have e10 : lu N 4 x k 0 10 = N 0 10 := lu_ne (by omega)
        refine hK [(17, [0, 1, 2, 3])] 40 _ _ ?_
        conv => whnf
        repeat' (first
          | (refine ⟨fun c9 => ?_, fun c9 => ?_⟩ <;> (try simp (disch := omega) only [nI_leI, nI_ltI, nI_eq, nz_eq, nz_lt, nz_gt, nz_le, nz_ge, nz_00, nz_n1, nI_add, pk_mul, pk_sub, nI_shl1, nI_or, nI_half2, nI_min2, la_put_eq, la_up, lr_same, lr_ne, lu_same, lu_ne, not_true_eq_false, not_false_eq_true] at c9) <;> first | (exfalso; omega) | conv => whnf)
          | (refine ⟨_, rfl, by omega, ?_⟩; conv => whnf)
          | (refine ⟨_, rfl, rfl, rfl, by decide, by decide, ?_⟩; conv => whnf)
          | (refine ⟨_, by (simp (disch := omega) only [nI_leI, nI_ltI, nI_eq, nz_eq, nz_lt, nz_gt, nz_le, nz_ge, nz_00, nz_n1, nI_add, pk_mul, pk_sub, nI_shl1, nI_or, nI_half2, nI_min2, la_put_eq, la_up, lr_same, lr_ne, lu_same, lu_ne, not_true_eq_false, not_false_eq_true]; rfl), by omega, ?_⟩; conv => whnf)
          | (refine And.intro (by first | assumption | decide) ?_; conv => whnf))
        all_goals (try simp (disch := omega) only [nI_leI, nI_ltI, nI_eq, nz_eq, nz_lt, nz_gt, nz_le, nz_ge, nz_00, nz_n1, nI_add, pk_mul, pk_sub, nI_shl1, nI_or, nI_half2, nI_min2, la_put_eq, la_up, lr_same, lr_ne, lu_same, lu_ne, not_true_eq_false, not_false_eq_true])
        refine ⟨(1, 0, X, N, _), ⟨rfl, rfl, la_put_at _ _ _, la_at_ne hN (by decide), wX, wN, by decide⟩, fun h'' hq => ?_⟩
        have hq : h'' = la_put (la_put h' 1 X) 1 N := hq
        rw [la_put2] at hq
        subst hq
        conv => whnf
        repeat' (first
          | (refine ⟨fun c9 => ?_, fun c9 => ?_⟩ <;> (try simp (disch := omega) only [nI_leI, nI_ltI, nI_eq, nz_eq, nz_lt, nz_gt, nz_le, nz_ge, nz_00, nz_n1, nI_add, pk_mul, pk_sub, nI_shl1, nI_or, nI_half2, nI_min2, la_put_eq, la_up, lr_same, lr_ne, lu_same, lu_ne, not_true_eq_false, not_false_eq_true] at c9) <;> first | (exfalso; omega) | conv => whnf)
          | (refine ⟨_, rfl, by omega, ?_⟩; conv => whnf)
          | (refine ⟨_, rfl, rfl, rfl, by decide, by decide, ?_⟩; conv => whnf)
          | (refine ⟨_, by (simp (disch := omega) only [nI_leI, nI_ltI, nI_eq, nz_eq, nz_lt, nz_gt, nz_le, nz_ge, nz_00, nz_n1, nI_add, pk_mul, pk_sub, nI_shl1, nI_or, nI_half2, nI_min2, la_put_eq, la_up, lr_same, lr_ne, lu_same, lu_ne, not_true_eq_false, not_false_eq_true]; rfl), by omega, ?_⟩; conv => whnf)
          | (refine And.intro (by first | assumption | decide) ?_; conv => whnf))
        all_goals (try simp (disch := omega) only [nI_leI, nI_ltI, nI_eq, nz_eq, nz_lt, nz_gt, nz_le, nz_ge, nz_00, nz_n1, nI_add, pk_mul, pk_sub, nI_shl1, nI_or, nI_half2, nI_min2, la_put_eq, la_up, lr_same, lr_ne, lu_same, lu_ne, not_true_eq_false, not_false_eq_true])
        refine ⟨(1, lu N 4 x k, m, S, _), ⟨rfl, rfl, la_put_at _ _ _, wK, se_at_put hS, hSo, by omega⟩, fun v h'' hq => ?_⟩
        obtain ⟨⟨T', wT', rfl⟩, ⟨hft, rfl⟩ | ⟨hft, rfl⟩⟩ := hq
        · conv => whnf
          repeat' (first
            | (refine ⟨fun c9 => ?_, fun c9 => ?_⟩ <;> (try simp (disch := omega) only [nI_leI, nI_ltI, nI_eq, nz_eq, nz_lt, nz_gt, nz_le, nz_ge, nz_00, nz_n1, nI_add, pk_mul, pk_sub, nI_shl1, nI_or, nI_half2, nI_min2, la_put_eq, la_up, lr_same, lr_ne, lu_same, lu_ne, not_true_eq_false, not_false_eq_true, la_put2] at c9) <;> first | (exfalso; omega) | conv => whnf)
            | (refine ⟨_, rfl, by omega, ?_⟩; conv => whnf)
            | (refine ⟨_, rfl, rfl, rfl, by decide, by decide, ?_⟩; conv => whnf)
            | (refine ⟨_, by (simp (disch := omega) only [nI_leI, nI_ltI, nI_eq, nz_eq, nz_lt, nz_gt, nz_le, nz_ge, nz_00, nz_n1, nI_add, pk_mul, pk_sub, nI_shl1, nI_or, nI_half2, nI_min2, la_put_eq, la_up, lr_same, lr_ne, lu_same, lu_ne, not_true_eq_false, not_false_eq_true, la_put2]; rfl), by omega, ?_⟩; conv => whnf)
            | (refine And.intro (by first | assumption | decide) ?_; conv => whnf))
          all_goals (try simp (disch := omega) only [nI_leI, nI_ltI, nI_eq, nz_eq, nz_lt, nz_gt, nz_le, nz_ge, nz_00, nz_n1, nI_add, pk_mul, pk_sub, nI_shl1, nI_or, nI_half2, nI_min2, la_put_eq, la_up, lr_same, lr_ne, lu_same, lu_ne, not_true_eq_false, not_false_eq_true, la_put2])
          refine ih (k + 1) _ _ (by omega) ?_ wT'
          rw [sp_or, ← ha, sp_c_t hft]
        · conv => whnf
          repeat' (first
            | (refine ⟨fun c9 => ?_, fun c9 => ?_⟩ <;> (try simp (disch := omega) only [nI_leI, nI_ltI, nI_eq, nz_eq, nz_lt, nz_gt, nz_le, nz_ge, nz_00, nz_n1, nI_add, pk_mul, pk_sub, nI_shl1, nI_or, nI_half2, nI_min2, la_put_eq, la_up, lr_same, lr_ne, lu_same, lu_ne, not_true_eq_false, not_false_eq_true, la_put2] at c9) <;> first | (exfalso; omega) | conv => whnf)
            | (refine ⟨_, rfl, by omega, ?_⟩; conv => whnf)
            | (refine ⟨_, rfl, rfl, rfl, by decide, by decide, ?_⟩; conv => whnf)
            | (refine ⟨_, by (simp (disch := omega) only [nI_leI, nI_ltI, nI_eq, nz_eq, nz_lt, nz_gt, nz_le, nz_ge, nz_00, nz_n1, nI_add, pk_mul, pk_sub, nI_shl1, nI_or, nI_half2, nI_min2, la_put_eq, la_up, lr_same, lr_ne, lu_same, lu_ne, not_true_eq_false, not_false_eq_true, la_put2]; rfl), by omega, ?_⟩; conv => whnf)
            | (refine And.intro (by first | assumption | decide) ?_; conv => whnf))
          all_goals (try simp (disch := omega) only [nI_leI, nI_ltI, nI_eq, nz_eq, nz_lt, nz_gt, nz_le, nz_ge, nz_00, nz_n1, nI_add, pk_mul, pk_sub, nI_shl1, nI_or, nI_half2, nI_min2, la_put_eq, la_up, lr_same, lr_ne, lu_same, lu_ne, not_true_eq_false, not_false_eq_true, la_put2])
          refine ih (k + 1) _ _ (by omega) ?_ wT'
          rw [sp_or, ← ha, sp_c_f hft, Nat.or_zero]
    conv => whnf
    repeat' (first
      | (refine ⟨fun c9 => ?_, fun c9 => ?_⟩ <;> (try simp (disch := omega) only [nI_leI, nI_ltI, nI_eq, nz_eq, nz_lt, nz_gt, nz_le, nz_ge, nz_00, nz_n1, nI_add, pk_mul, pk_sub, nI_shl1, nI_or, nI_half2, nI_min2, la_put_eq, la_up, lr_same, lr_ne, lu_same, lu_ne, not_true_eq_false, not_false_eq_true] at c9) <;> first | (exfalso; omega) | conv => whnf)
      | (refine ⟨_, rfl, by omega, ?_⟩; conv => whnf)
      | (refine ⟨_, rfl, rfl, rfl, by decide, by decide, ?_⟩; conv => whnf)
      | (refine ⟨_, by (simp (disch := omega) only [nI_leI, nI_ltI, nI_eq, nz_eq, nz_lt, nz_gt, nz_le, nz_ge, nz_00, nz_n1, nI_add, pk_mul, pk_sub, nI_shl1, nI_or, nI_half2, nI_min2, la_put_eq, la_up, lr_same, lr_ne, lu_same, lu_ne, not_true_eq_false, not_false_eq_true]; rfl), by omega, ?_⟩; conv => whnf)
      | (refine And.intro (by first | assumption | decide) ?_; conv => whnf))
    all_goals (try simp (disch := omega) only [nI_leI, nI_ltI, nI_eq, nz_eq, nz_lt, nz_gt, nz_le, nz_ge, nz_00, nz_n1, nI_add, pk_mul, pk_sub, nI_shl1, nI_or, nI_half2, nI_min2, la_put_eq, la_up, lr_same, lr_ne, lu_same, lu_ne, not_true_eq_false, not_false_eq_true])
    have := loop 10 0 0 T (by omega) rfl wT
    rw [la_self hT] at this
    exact this
  · conv => whnf
    repeat' (first
      | (refine ⟨fun c9 => ?_, fun c9 => ?_⟩ <;> (try simp (disch := omega) only [nI_leI, nI_ltI, nI_eq, nz_eq, nz_lt, nz_gt, nz_le, nz_ge, nz_00, nz_n1, nI_add, pk_mul, pk_sub, nI_shl1, nI_or, nI_half2, nI_min2, la_put_eq, la_up, lr_same, lr_ne, lu_same, lu_ne, not_true_eq_false, not_false_eq_true] at c9) <;> first | (exfalso; omega) | conv => whnf)
      | (refine ⟨_, rfl, by omega, ?_⟩; conv => whnf)
      | (refine ⟨_, rfl, rfl, rfl, by decide, by decide, ?_⟩; conv => whnf)
      | (refine ⟨_, by (simp (disch := omega) only [nI_leI, nI_ltI, nI_eq, nz_eq, nz_lt, nz_gt, nz_le, nz_ge, nz_00, nz_n1, nI_add, pk_mul, pk_sub, nI_shl1, nI_or, nI_half2, nI_min2, la_put_eq, la_up, lr_same, lr_ne, lu_same, lu_ne, not_true_eq_false, not_false_eq_true]; rfl), by omega, ?_⟩; conv => whnf)
      | (refine And.intro (by first | assumption | decide) ?_; conv => whnf))
    all_goals (try simp (disch := omega) only [nI_leI, nI_ltI, nI_eq, nz_eq, nz_lt, nz_gt, nz_le, nz_ge, nz_00, nz_n1, nI_add, pk_mul, pk_sub, nI_shl1, nI_or, nI_half2, nI_min2, la_put_eq, la_up, lr_same, lr_ne, lu_same, lu_ne, not_true_eq_false, not_false_eq_true])
    refine hret _ _ ⟨tf_self hT wT, ?_⟩
    rw [a_subjects, ci_f hc]
theorem M_X4_subjects : pm_MT yX4_subjects cX4_subjects 4 1 5 P_X4_subjects (pm_pi Q_X4_subjects) := pm_met k_X4_subjects (by decide) rfl (by
  rintro ⟨g0, g1, g2, g3, g4, g5⟩ av h hp
  rw [hp.1]
  exact Nat.le_of_ble_eq_true rfl) pf_X4_subjects
theorem rc_X4_subjects : ∀ g av h, P_X4_subjects g av h → ∃ i t, av = .inr (.inr (4, i, 0)) :: t := by
  rintro ⟨g0, g1, g2, g3, g4, g5⟩ av h hp
  exact ⟨_, _, hp.1⟩
/-! ask -/
def sp_dn (c : Nat) (e : Int32) (p : Int32 × Nat) : Int32 × Nat := if c < p.2 then (e, c) else p
theorem sp_dn_t {c : Nat} {e : Int32} {p : Int32 × Nat} (h : c < p.2) : sp_dn c e p = (e, c) := if_pos h
theorem sp_dn_f {c : Nat} {e : Int32} {p : Int32 × Nat} (h : ¬ c < p.2) : sp_dn c e p = p := if_neg h
def sp_akI (W : Nat → Nat) (d : Nat) (p : Int32 × Nat) : Nat → Int32 × Nat
  | 0 => p
  | f + 1 => sp_dn (W (4 * d + f)) (nI (10 * d + f)) (sp_akI W d p f)
def sp_akO (W : Nat → Nat) (all nf : Nat) : Nat → Int32 × Nat
  | 0 => (-4, all)
  | d + 1 => sp_akI W d (sp_akO W all nf d) nf
theorem sp_akI_le {W : Nat → Nat} {d : Nat} {p : Int32 × Nat} {m : Nat} (hp : p.2 ≤ m) : ∀ f, (sp_akI W d p f).2 ≤ m
  | 0 => hp
  | f + 1 => by
    have h1 := sp_akI_le (W := W) (d := d) hp f
    rw [sp_akI]
    by_cases h : W (4 * d + f) < (sp_akI W d p f).2
    · rw [sp_dn_t h]
      show W (4 * d + f) ≤ m
      omega
    · rw [sp_dn_f h]; exact h1
theorem sp_akO_le {W : Nat → Nat} {all nf : Nat} : ∀ d, (sp_akO W all nf d).2 ≤ all
  | 0 => Nat.le_refl _
  | d + 1 => sp_akI_le (sp_akO_le d) _
def sp_wst (G : Nat → Nat) (all j : Nat) : Nat := max (G j) (all - G j)
def hlf2 (w : Int32) (p : Int32 × Nat) : Int32 := if w = nI 0 then p.1 else if p.1 = -4 then p.1 else nI p.2
noncomputable def a_ask (N : LD) (m : Nat) (S : LD) (b w : Int32) : Int32 := ci (ixI b (N 0 3) ∧ hf w) (hlf2 w (sp_akO (sp_wst (sp_tally N (ixv b) (sp_kinds N m S (ixv b)) 4) (sp_pop (sp_kinds N m S (ixv b)))) (sp_pop (sp_kinds N m S (ixv b))) (N 0 0) 31)) (-1)
theorem sp_tally_le {N : LD} {b lf j : Nat} (h : lf < 16) : sp_tally N b lf 4 j ≤ sp_pop lf := by
  have key : ∀ lf : Fin 16, (sp_sum (fun q => if lf.val / 2 ^ q % 2 = 1 then 1 else 0) 4) = sp_pop lf.val := by decide +kernel
  rw [← key ⟨lf, h⟩]
  unfold sp_tally
  have : ∀ n, sp_sum (fun q => if lf / 2 ^ q % 2 = 1 then sp_kb (lu N 3 b q) (N 4 b) j else 0) n ≤ sp_sum (fun q => if lf / 2 ^ q % 2 = 1 then 1 else 0) n := by
    intro n
    induction n with
    | zero => exact Nat.le_refl _
    | succ n ih =>
      rw [sp_sum, sp_sum]
      have h1 : sp_kb (lu N 3 b n) (N 4 b) j < 2 := Nat.mod_lt _ (by decide)
      by_cases hc : lf / 2 ^ n % 2 = 1
      · rw [if_pos hc, if_pos hc]; omega
      · rw [if_neg hc, if_neg hc]; omega
  exact this 4
def P_X4_ask : Int32 × Int32 × LD × LD × Nat × LD × pm_H → List pm_V → pm_H → Prop := fun g av h => match g with
  | (b, w, N, T, m, S, h0) => av = [vR 4 0 0, vI b, vI w] ∧ h = h0 ∧ la_at h0 0 N ∧ la_at h0 1 T ∧ la_ok N ∧ la_ok T ∧ N 0 10 ≤ 999 ∧ se_at h0 m S ∧ se_ok m S
def Q_X4_ask : Int32 × Int32 × LD × LD × Nat × LD × pm_H → Int32 → pm_H → Prop := fun g r h => match g with
  | (b, w, N, T, m, S, h0) => tf2 h0 h ∧ r = a_ask N m S b w
def T_X4_ask : List (Nat × pm_T) := [
  (0, i_al 0 1),
  (1, i_gr 4 (fun _ => (0, 0, 0)) 4),
  (4, i_il 1 5),
  (5, i_ci 2 P_X0_hasBiscuit Q_X0_hasBiscuit 8),
  (8, i_ifeq 18 11),
  (11, i_il 2 12),
  (12, i_ci 1 P_X4_isHalf Q_X4_isHalf 15),
  (15, i_ifne 20 18),
  (18, i_c (-1) 19),
  (19, i_ir),
  (20, i_al 0 21),
  (21, i_il 1 22),
  (22, i_ci 2 P_X4_kindsLeft Q_X4_kindsLeft 25),
  (25, i_is 3 26),
  (26, i_il 3 27),
  (27, i_ci 1 P_J6_bitCount_0f7a4 Q_J6_bitCount_0f7a4 30),
  (30, i_is 4 32),
  (32, i_al 0 33),
  (33, i_il 1 34),
  (34, i_il 3 35),
  (35, i_cv 3 P_X4_tallyKnowers Q_X4_tallyKnowers 38),
  (38, i_c (-4) 40),
  (40, i_is 5 42),
  (42, i_il 4 44),
  (44, i_is 6 46),
  (46, i_c (nI 0) 47),
  (47, i_is 7 49),
  (49, i_il 7 51),
  (51, i_c (nI 30) 53),
  (53, i_icgt 130 56),
  (56, i_c (nI 0) 57),
  (57, i_is 8 59),
  (59, i_il 8 61),
  (61, i_al 0 62),
  (62, i_gr 4 (fun _ => (0, 0, 0)) 65),
  (65, i_gi 0 0 68),
  (68, i_icge 124 71),
  (71, i_al 0 72),
  (72, i_gr 4 (fun _ => (4, 0, 5)) 75),
  (75, i_il 7 77),
  (77, i_c (nI 4) 78),
  (78, i_imul 79),
  (79, i_il 8 81),
  (81, i_iadd 82),
  (82, i_ia 83),
  (83, i_is 9 85),
  (85, i_il 9 87),
  (87, i_il 4 89),
  (89, i_il 9 91),
  (91, i_isub 92),
  (92, i_mmax 95),
  (95, i_is 10 97),
  (97, i_il 10 99),
  (99, i_il 6 101),
  (101, i_icge 118 104),
  (104, i_il 10 106),
  (106, i_is 6 108),
  (108, i_c (nI 10) 110),
  (110, i_il 7 112),
  (112, i_imul 113),
  (113, i_il 8 115),
  (115, i_iadd 116),
  (116, i_is 5 118),
  (118, i_inc 8 (nI 1) 121),
  (121, i_go 59),
  (124, i_inc 7 (nI 1) 127),
  (127, i_go 49),
  (130, i_il 2 131),
  (131, i_ifeq 141 134),
  (134, i_il 5 136),
  (136, i_c (-4) 138),
  (138, i_icne 146 141),
  (141, i_il 5 143),
  (143, i_go 148),
  (146, i_il 6 148),
  (148, i_ir)]
theorem k_X4_ask : ∀ q ∈ T_X4_ask, pm_sd RX4 cX4_ask 11 5 1 q.1 q.2 := by
  unfold T_X4_ask
  refine pm_cn (sd_aln (k := 0) (by decide +kernel) rfl rfl) ?_
  refine pm_cn (sd_gr cl4_ in4_ (j := 1) (by decide) (fun _ => rfl) fl_X4_19 (by decide +kernel) rfl) ?_
  refine pm_cn (sd_iln (k := 1) (by decide +kernel) rfl rfl) ?_
  refine pm_cn (sd_civ M_X0_hasBiscuit (by decide) cd_X0_hasBiscuit rc_X0_hasBiscuit cl0_ ml_X4_131 im_X0_hasBiscuit se_X0_hasBiscuit nt_X0 (by decide +kernel) (by omega) (by decide) (by decide +kernel) rfl) ?_
  refine pm_cn (sd_ifeq (off := 10) (by decide +kernel) (by decide) rfl) ?_
  refine pm_cn (sd_iln (k := 2) (by decide +kernel) rfl rfl) ?_
  refine pm_cn (sd_cis M_X4_isHalf (by decide) cd_X4_isHalf ml_X4_152 st_X4_isHalf nt_X4 (by decide +kernel) (by omega) (by decide) (by decide +kernel) rfl) ?_
  refine pm_cn (sd_ifne (off := 5) (by decide +kernel) (by decide) rfl) ?_
  refine pm_cn (sd_iconst (z := -1) (by decide +kernel) (by decide +kernel) rfl) ?_
  refine pm_cn (sd_ir (by decide +kernel)) ?_
  refine pm_cn (sd_aln (k := 0) (by decide +kernel) rfl rfl) ?_
  refine pm_cn (sd_iln (k := 1) (by decide +kernel) rfl rfl) ?_
  refine pm_cn (sd_civ M_X4_kindsLeft (by decide) cd_X4_kindsLeft rc_X4_kindsLeft cl4_ ml_X4_221 im_X4_kindsLeft se_X4_kindsLeft nt_X4 (by decide +kernel) (by omega) (by decide) (by decide +kernel) rfl) ?_
  refine pm_cn (sd_isn (k := 3) (by decide +kernel) rfl rfl (by decide)) ?_
  refine pm_cn (sd_iln (k := 3) (by decide +kernel) rfl rfl) ?_
  refine pm_cn (sd_cis M_J6_bitCount_0f7a4 (by decide) cd_J6_bitCount_0f7a4 ml_X4_195 st_J6_bitCount_0f7a4 nt_J6 (by decide +kernel) (by omega) (by decide) (by decide +kernel) rfl) ?_
  refine pm_cn (sd_is (by decide +kernel) rfl (by decide)) ?_
  refine pm_cn (sd_aln (k := 0) (by decide +kernel) rfl rfl) ?_
  refine pm_cn (sd_iln (k := 1) (by decide +kernel) rfl rfl) ?_
  refine pm_cn (sd_iln (k := 3) (by decide +kernel) rfl rfl) ?_
  refine pm_cn (sd_cvv M_X4_tallyKnowers cd_X4_tallyKnowers rc_X4_tallyKnowers cl4_ ml_X4_227 im_X4_tallyKnowers se_X4_tallyKnowers nt_X4 (by decide +kernel) (by omega) (by decide) (by decide +kernel) rfl) ?_
  refine pm_cn (sd_bipush (z := -4) (by decide +kernel) (by decide +kernel) rfl) ?_
  refine pm_cn (sd_is (by decide +kernel) rfl (by decide)) ?_
  refine pm_cn (sd_il (by decide +kernel) rfl) ?_
  refine pm_cn (sd_is (by decide +kernel) rfl (by decide)) ?_
  refine pm_cn (sd_iconst (z := 0) (by decide +kernel) (by decide +kernel) rfl) ?_
  refine pm_cn (sd_is (by decide +kernel) rfl (by decide)) ?_
  refine pm_cn (sd_il (by decide +kernel) rfl) ?_
  refine pm_cn (sd_bipush (z := 30) (by decide +kernel) (by decide +kernel) rfl) ?_
  refine pm_cn (sd_icgt (off := 77) (by decide +kernel) (by decide) rfl) ?_
  refine pm_cn (sd_iconst (z := 0) (by decide +kernel) (by decide +kernel) rfl) ?_
  refine pm_cn (sd_is (by decide +kernel) rfl (by decide)) ?_
  refine pm_cn (sd_il (by decide +kernel) rfl) ?_
  refine pm_cn (sd_aln (k := 0) (by decide +kernel) rfl rfl) ?_
  refine pm_cn (sd_gr cl4_ in4_ (j := 1) (by decide) (fun _ => rfl) fl_X4_19 (by decide +kernel) rfl) ?_
  refine pm_cn (sd_gi cl0_ in0_ (by decide) (fun _ => rfl) fl_X4_89 (by decide +kernel) rfl) ?_
  refine pm_cn (sd_icge (off := 56) (by decide +kernel) (by decide) rfl) ?_
  refine pm_cn (sd_aln (k := 0) (by decide +kernel) rfl rfl) ?_
  refine pm_cn (sd_gr cl4_ in4_ (j := 8) (by decide) (fun _ => rfl) fl_X4_52 (by decide +kernel) rfl) ?_
  refine pm_cn (sd_il (by decide +kernel) rfl) ?_
  refine pm_cn (sd_iconst (z := 4) (by decide +kernel) (by decide +kernel) rfl) ?_
  refine pm_cn (sd_imul (by decide +kernel) rfl) ?_
  refine pm_cn (sd_il (by decide +kernel) rfl) ?_
  refine pm_cn (sd_iadd (by decide +kernel) rfl) ?_
  refine pm_cn (sd_ia (by decide +kernel) rfl) ?_
  refine pm_cn (sd_is (by decide +kernel) rfl (by decide)) ?_
  refine pm_cn (sd_il (by decide +kernel) rfl) ?_
  refine pm_cn (sd_il (by decide +kernel) rfl) ?_
  refine pm_cn (sd_il (by decide +kernel) rfl) ?_
  refine pm_cn (sd_isub (by decide +kernel) rfl) ?_
  refine pm_cn (sd_mmax ml_X4_230 st_max nt_Math cd_max (by omega) (by decide +kernel) rfl) ?_
  refine pm_cn (sd_is (by decide +kernel) rfl (by decide)) ?_
  refine pm_cn (sd_il (by decide +kernel) rfl) ?_
  refine pm_cn (sd_il (by decide +kernel) rfl) ?_
  refine pm_cn (sd_icge (off := 17) (by decide +kernel) (by decide) rfl) ?_
  refine pm_cn (sd_il (by decide +kernel) rfl) ?_
  refine pm_cn (sd_is (by decide +kernel) rfl (by decide)) ?_
  refine pm_cn (sd_bipush (z := 10) (by decide +kernel) (by decide +kernel) rfl) ?_
  refine pm_cn (sd_il (by decide +kernel) rfl) ?_
  refine pm_cn (sd_imul (by decide +kernel) rfl) ?_
  refine pm_cn (sd_il (by decide +kernel) rfl) ?_
  refine pm_cn (sd_iadd (by decide +kernel) rfl) ?_
  refine pm_cn (sd_is (by decide +kernel) rfl (by decide)) ?_
  refine pm_cn (sd_inc (z := 1) (by decide +kernel) (by decide +kernel) rfl (by decide)) ?_
  refine pm_cn (sd_go (off := -62) (by decide +kernel) (by decide)) ?_
  refine pm_cn (sd_inc (z := 1) (by decide +kernel) (by decide +kernel) rfl (by decide)) ?_
  refine pm_cn (sd_go (off := -78) (by decide +kernel) (by decide)) ?_
  refine pm_cn (sd_iln (k := 2) (by decide +kernel) rfl rfl) ?_
  refine pm_cn (sd_ifeq (off := 10) (by decide +kernel) (by decide) rfl) ?_
  refine pm_cn (sd_il (by decide +kernel) rfl) ?_
  refine pm_cn (sd_bipush (z := -4) (by decide +kernel) (by decide +kernel) rfl) ?_
  refine pm_cn (sd_icne (off := 8) (by decide +kernel) (by decide) rfl) ?_
  refine pm_cn (sd_il (by decide +kernel) rfl) ?_
  refine pm_cn (sd_go (off := 5) (by decide +kernel) (by decide)) ?_
  refine pm_cn (sd_il (by decide +kernel) rfl) ?_
  refine pm_cn (sd_ir (by decide +kernel)) ?_
  exact fun _ h => absurd h List.not_mem_nil
set_option maxHeartbeats 800000 in
set_option maxRecDepth 100000 in
theorem pf_X4_ask : pm_pf T_X4_ask P_X4_ask (pm_pi Q_X4_ask) := by
  rintro ⟨b, w, N, T, m, S, h0⟩ av h K hK ⟨rfl, rfl, hN, hT, wN, wT, hd, hS, hSo⟩ hret
  have w1 := wN.1
  have w2 := wN.2.1
  show K (some 0) ([(0, vR 4 0 0), (1, vI b), (2, vI w)], [], h)
  refine hK [(49, [0, 2, 4, 5, 6, 7]), (59, [0, 2, 4, 5, 6, 7, 8])] 80 _ _ ?_
  conv => whnf
  repeat' (first
    | (refine ⟨fun c9 => ?_, fun c9 => ?_⟩ <;> (try simp (disch := omega) only [nI_leI, nI_ltI, nI_eq, nz_eq, nz_lt, nz_gt, nz_le, nz_ge, nz_00, nz_n1, nI_add, pk_mul, pk_sub, nI_shl1, nI_or, nI_half2, nI_min2, la_put_eq, la_up, lr_same, lr_ne, lu_same, lu_ne, not_true_eq_false, not_false_eq_true] at c9) <;> first | (exfalso; omega) | conv => whnf)
    | (refine ⟨_, rfl, by omega, ?_⟩; conv => whnf)
    | (refine ⟨_, rfl, rfl, rfl, by decide, by decide, ?_⟩; conv => whnf)
    | (refine ⟨_, by (simp (disch := omega) only [nI_leI, nI_ltI, nI_eq, nz_eq, nz_lt, nz_gt, nz_le, nz_ge, nz_00, nz_n1, nI_add, pk_mul, pk_sub, nI_shl1, nI_or, nI_half2, nI_min2, la_put_eq, la_up, lr_same, lr_ne, lu_same, lu_ne, not_true_eq_false, not_false_eq_true]; rfl), by omega, ?_⟩; conv => whnf)
    | (refine And.intro (by first | assumption | decide) ?_; conv => whnf))
  all_goals (try simp (disch := omega) only [nI_leI, nI_ltI, nI_eq, nz_eq, nz_lt, nz_gt, nz_le, nz_ge, nz_00, nz_n1, nI_add, pk_mul, pk_sub, nI_shl1, nI_or, nI_half2, nI_min2, la_put_eq, la_up, lr_same, lr_ne, lu_same, lu_ne, not_true_eq_false, not_false_eq_true])
  refine ⟨(0, b, N, _), ⟨rfl, rfl, hN, wN⟩, fun v h' hq => ?_⟩
  obtain ⟨rfl, ⟨hb, rfl⟩ | ⟨hc, rfl⟩⟩ := hq
  · conv => whnf
    repeat' (first
      | (refine ⟨fun c9 => ?_, fun c9 => ?_⟩ <;> (try simp (disch := omega) only [nI_leI, nI_ltI, nI_eq, nz_eq, nz_lt, nz_gt, nz_le, nz_ge, nz_00, nz_n1, nI_add, pk_mul, pk_sub, nI_shl1, nI_or, nI_half2, nI_min2, la_put_eq, la_up, lr_same, lr_ne, lu_same, lu_ne, not_true_eq_false, not_false_eq_true] at c9) <;> first | (exfalso; omega) | conv => whnf)
      | (refine ⟨_, rfl, by omega, ?_⟩; conv => whnf)
      | (refine ⟨_, rfl, rfl, rfl, by decide, by decide, ?_⟩; conv => whnf)
      | (refine ⟨_, by (simp (disch := omega) only [nI_leI, nI_ltI, nI_eq, nz_eq, nz_lt, nz_gt, nz_le, nz_ge, nz_00, nz_n1, nI_add, pk_mul, pk_sub, nI_shl1, nI_or, nI_half2, nI_min2, la_put_eq, la_up, lr_same, lr_ne, lu_same, lu_ne, not_true_eq_false, not_false_eq_true]; rfl), by omega, ?_⟩; conv => whnf)
      | (refine And.intro (by first | assumption | decide) ?_; conv => whnf))
    all_goals (try simp (disch := omega) only [nI_leI, nI_ltI, nI_eq, nz_eq, nz_lt, nz_gt, nz_le, nz_ge, nz_00, nz_n1, nI_add, pk_mul, pk_sub, nI_shl1, nI_or, nI_half2, nI_min2, la_put_eq, la_up, lr_same, lr_ne, lu_same, lu_ne, not_true_eq_false, not_false_eq_true])
    refine ⟨(w, _), ⟨rfl, rfl⟩, fun v h' hq => ?_⟩
    obtain ⟨rfl, ⟨hw, rfl⟩ | ⟨hc, rfl⟩⟩ := hq
    · obtain ⟨x, hx, rfl⟩ := id hb
      have hv : ixv (nI x) = x := ixv_nI (by omega)
      have ha : a_ask N m S (nI x) w = hlf2 w (sp_akO (sp_wst (sp_tally N x (sp_kinds N m S x) 4) (sp_pop (sp_kinds N m S x))) (sp_pop (sp_kinds N m S x)) (N 0 0) 31) := by
        rw [a_ask, ci_t ⟨hb, hw⟩, hv]
      have hlt := sp_kinds_lt N m S x
      have htl : ∀ j, sp_tally N x (sp_kinds N m S x) 4 j ≤ sp_pop (sp_kinds N m S x) := fun j => sp_tally_le hlt
      have hpl : sp_pop (sp_kinds N m S x) ≤ 31 := sp_popF_le 31 _
      conv => whnf
      repeat' (first
        | (refine ⟨fun c9 => ?_, fun c9 => ?_⟩ <;> (try simp (disch := omega) only [nI_leI, nI_ltI, nI_eq, nz_eq, nz_lt, nz_gt, nz_le, nz_ge, nz_00, nz_n1, nI_add, pk_mul, pk_sub, nI_shl1, nI_or, nI_half2, nI_min2, la_put_eq, la_up, lr_same, lr_ne, lu_same, lu_ne, not_true_eq_false, not_false_eq_true] at c9) <;> first | (exfalso; omega) | conv => whnf)
        | (refine ⟨_, rfl, by omega, ?_⟩; conv => whnf)
        | (refine ⟨_, rfl, rfl, rfl, by decide, by decide, ?_⟩; conv => whnf)
        | (refine ⟨_, by (simp (disch := omega) only [nI_leI, nI_ltI, nI_eq, nz_eq, nz_lt, nz_gt, nz_le, nz_ge, nz_00, nz_n1, nI_add, pk_mul, pk_sub, nI_shl1, nI_or, nI_half2, nI_min2, la_put_eq, la_up, lr_same, lr_ne, lu_same, lu_ne, not_true_eq_false, not_false_eq_true]; rfl), by omega, ?_⟩; conv => whnf)
        | (refine And.intro (by first | assumption | decide) ?_; conv => whnf))
      all_goals (try simp (disch := omega) only [nI_leI, nI_ltI, nI_eq, nz_eq, nz_lt, nz_gt, nz_le, nz_ge, nz_00, nz_n1, nI_add, pk_mul, pk_sub, nI_shl1, nI_or, nI_half2, nI_min2, la_put_eq, la_up, lr_same, lr_ne, lu_same, lu_ne, not_true_eq_false, not_false_eq_true])
      refine ⟨(x, N, T, m, S, _), ⟨rfl, rfl, hN, hT, wN, wT, hS, hSo, by omega, by omega⟩, fun v h' hq => ?_⟩
      obtain ⟨⟨T1, wT1, rfl⟩, rfl⟩ := hq
      generalize sp_kinds N m S x = lf at *
      conv => whnf
      repeat' (first
        | (refine ⟨fun c9 => ?_, fun c9 => ?_⟩ <;> (try simp (disch := omega) only [nI_leI, nI_ltI, nI_eq, nz_eq, nz_lt, nz_gt, nz_le, nz_ge, nz_00, nz_n1, nI_add, pk_mul, pk_sub, nI_shl1, nI_or, nI_half2, nI_min2, la_put_eq, la_up, lr_same, lr_ne, lu_same, lu_ne, not_true_eq_false, not_false_eq_true] at c9) <;> first | (exfalso; omega) | conv => whnf)
        | (refine ⟨_, rfl, by omega, ?_⟩; conv => whnf)
        | (refine ⟨_, rfl, rfl, rfl, by decide, by decide, ?_⟩; conv => whnf)
        | (refine ⟨_, by (simp (disch := omega) only [nI_leI, nI_ltI, nI_eq, nz_eq, nz_lt, nz_gt, nz_le, nz_ge, nz_00, nz_n1, nI_add, pk_mul, pk_sub, nI_shl1, nI_or, nI_half2, nI_min2, la_put_eq, la_up, lr_same, lr_ne, lu_same, lu_ne, not_true_eq_false, not_false_eq_true]; rfl), by omega, ?_⟩; conv => whnf)
        | (refine And.intro (by first | assumption | decide) ?_; conv => whnf))
      all_goals (try simp (disch := omega) only [nI_leI, nI_ltI, nI_eq, nz_eq, nz_lt, nz_gt, nz_le, nz_ge, nz_00, nz_n1, nI_add, pk_mul, pk_sub, nI_shl1, nI_or, nI_half2, nI_min2, la_put_eq, la_up, lr_same, lr_ne, lu_same, lu_ne, not_true_eq_false, not_false_eq_true])
      refine ⟨(lf, _), ⟨rfl, rfl, by omega⟩, fun v h'' hq => ?_⟩
      obtain ⟨rfl, rfl⟩ := hq
      conv => whnf
      repeat' (first
        | (refine ⟨fun c9 => ?_, fun c9 => ?_⟩ <;> (try simp (disch := omega) only [nI_leI, nI_ltI, nI_eq, nz_eq, nz_lt, nz_gt, nz_le, nz_ge, nz_00, nz_n1, nI_add, pk_mul, pk_sub, nI_shl1, nI_or, nI_half2, nI_min2, la_put_eq, la_up, lr_same, lr_ne, lu_same, lu_ne, not_true_eq_false, not_false_eq_true] at c9) <;> first | (exfalso; omega) | conv => whnf)
        | (refine ⟨_, rfl, by omega, ?_⟩; conv => whnf)
        | (refine ⟨_, rfl, rfl, rfl, by decide, by decide, ?_⟩; conv => whnf)
        | (refine ⟨_, by (simp (disch := omega) only [nI_leI, nI_ltI, nI_eq, nz_eq, nz_lt, nz_gt, nz_le, nz_ge, nz_00, nz_n1, nI_add, pk_mul, pk_sub, nI_shl1, nI_or, nI_half2, nI_min2, la_put_eq, la_up, lr_same, lr_ne, lu_same, lu_ne, not_true_eq_false, not_false_eq_true]; rfl), by omega, ?_⟩; conv => whnf)
        | (refine And.intro (by first | assumption | decide) ?_; conv => whnf))
      all_goals (try simp (disch := omega) only [nI_leI, nI_ltI, nI_eq, nz_eq, nz_lt, nz_gt, nz_le, nz_ge, nz_00, nz_n1, nI_add, pk_mul, pk_sub, nI_shl1, nI_or, nI_half2, nI_min2, la_put_eq, la_up, lr_same, lr_ne, lu_same, lu_ne, not_true_eq_false, not_false_eq_true])
      refine ⟨(x, lf, N, T1, _), ⟨rfl, rfl, la_at_ne hN (by decide), la_put_at _ _ _, wN, wT1, by omega, hlt, by omega⟩, fun h'' hq => ?_⟩
      obtain ⟨X, F, wX, rfl, hF⟩ := hq
      generalize sp_tally N x lf 4 = G at *
      generalize sp_pop lf = all at *
      rw [la_put2]
      have hN0 : pm_ua (la_put h' 1 X) 4 0 5 F 0 0 0 0 = nI (N 0 0) := by rw [ua_ne (by omega), la_put_ne (by omega), hN]
      have hfr : tf2 h' (pm_ua (la_put h' 1 X) 4 0 5 F) := ⟨X, wX, la_at_ua (la_put_at _ _ _) (by decide), fun c i s j q1 q2 q3 => by rw [ua_ne (by omega), la_put_ne q1]⟩
      have outer : ∀ n d p, d + n = 31 → p = sp_akO (sp_wst G all) all (N 0 0) d → K (some 49) ([(0, vR 4 0 0), (2, vI w), (4, vI (nI all)), (5, vI p.1), (6, vI (nI p.2)), (7, vI (nI d))], [], pm_ua (la_put h' 1 X) 4 0 5 F) := by
        intro n
        induction n with
        | zero =>
          intro d p hk hp
          have : d = 31 := by omega
          subst this
          refine hK [(49, [0, 2, 4, 5, 6, 7]), (59, [0, 2, 4, 5, 6, 7, 8])] 60 _ _ ?_
          conv => whnf
          repeat' (first
            | (refine ⟨fun c9 => ?_, fun c9 => ?_⟩ <;> (try simp (disch := omega) only [nI_leI, nI_ltI, nI_eq, nz_eq, nz_lt, nz_gt, nz_le, nz_ge, nz_00, nz_n1, nI_add, pk_mul, pk_sub, nI_shl1, nI_or, nI_half2, nI_min2, la_put_eq, la_up, lr_same, lr_ne, lu_same, lu_ne, not_true_eq_false, not_false_eq_true] at c9) <;> first | (exfalso; omega) | conv => whnf)
            | (refine ⟨_, rfl, by omega, ?_⟩; conv => whnf)
            | (refine ⟨_, rfl, rfl, rfl, by decide, by decide, ?_⟩; conv => whnf)
            | (refine ⟨_, by (simp (disch := omega) only [nI_leI, nI_ltI, nI_eq, nz_eq, nz_lt, nz_gt, nz_le, nz_ge, nz_00, nz_n1, nI_add, pk_mul, pk_sub, nI_shl1, nI_or, nI_half2, nI_min2, la_put_eq, la_up, lr_same, lr_ne, lu_same, lu_ne, not_true_eq_false, not_false_eq_true]; rfl), by omega, ?_⟩; conv => whnf)
            | (refine And.intro (by first | assumption | decide) ?_; conv => whnf))
          all_goals (try simp (disch := omega) only [nI_leI, nI_ltI, nI_eq, nz_eq, nz_lt, nz_gt, nz_le, nz_ge, nz_00, nz_n1, nI_add, pk_mul, pk_sub, nI_shl1, nI_or, nI_half2, nI_min2, la_put_eq, la_up, lr_same, lr_ne, lu_same, lu_ne, not_true_eq_false, not_false_eq_true])
          all_goals (refine hret _ _ ⟨hfr, ?_⟩; rw [ha, ← hp, hlf2])
          · rw [if_pos (by assumption)]
          · rw [if_neg (by assumption), if_neg (by assumption)]
          · rw [if_neg (by assumption), if_pos (by assumption)]
        | succ n ih =>
          intro d p hk hp
          have hp2 : p.2 ≤ all := by rw [hp]; exact sp_akO_le d
          have inner : ∀ k f q, f + k = N 0 0 → q = sp_akI (sp_wst G all) d p f → K (some 59) ([(0, vR 4 0 0), (2, vI w), (4, vI (nI all)), (5, vI q.1), (6, vI (nI q.2)), (7, vI (nI d)), (8, vI (nI f))], [], pm_ua (la_put h' 1 X) 4 0 5 F) := by
            intro k
            induction k with
            | zero =>
              intro f q hk hq
              have : f = N 0 0 := by omega
              subst this
              refine hK [(49, [0, 2, 4, 5, 6, 7]), (59, [0, 2, 4, 5, 6, 7, 8])] 60 _ _ ?_
              conv => whnf
              repeat' (first
                | (refine ⟨fun c9 => ?_, fun c9 => ?_⟩ <;> (try simp (disch := omega) only [nI_leI, nI_ltI, nI_eq, nz_eq, nz_lt, nz_gt, nz_le, nz_ge, nz_00, nz_n1, nI_add, pk_mul, pk_sub, nI_shl1, nI_or, nI_half2, nI_min2, la_put_eq, la_up, lr_same, lr_ne, lu_same, lu_ne, not_true_eq_false, not_false_eq_true, hN0] at c9) <;> first | (exfalso; omega) | conv => whnf)
                | (refine ⟨_, rfl, by omega, ?_⟩; conv => whnf)
                | (refine ⟨_, rfl, rfl, rfl, by decide, by decide, ?_⟩; conv => whnf)
                | (refine ⟨_, by (simp (disch := omega) only [nI_leI, nI_ltI, nI_eq, nz_eq, nz_lt, nz_gt, nz_le, nz_ge, nz_00, nz_n1, nI_add, pk_mul, pk_sub, nI_shl1, nI_or, nI_half2, nI_min2, la_put_eq, la_up, lr_same, lr_ne, lu_same, lu_ne, not_true_eq_false, not_false_eq_true, hN0]; rfl), by omega, ?_⟩; conv => whnf)
                | (refine And.intro (by first | assumption | decide) ?_; conv => whnf))
              all_goals (try simp (disch := omega) only [nI_leI, nI_ltI, nI_eq, nz_eq, nz_lt, nz_gt, nz_le, nz_ge, nz_00, nz_n1, nI_add, pk_mul, pk_sub, nI_shl1, nI_or, nI_half2, nI_min2, la_put_eq, la_up, lr_same, lr_ne, lu_same, lu_ne, not_true_eq_false, not_false_eq_true, hN0])
              refine ih (d + 1) q (by omega) ?_
              rw [sp_akO, ← hp]
              exact hq
            | succ k ih2 =>
              intro f q hk2 hq
              have hFj := hF (d * 4 + f) (by omega)
              have htj := htl (d * 4 + f)
              have hq2 : q.2 ≤ all := by rw [hq]; exact sp_akI_le hp2 f
              have hst : sp_akI (sp_wst G all) d p (f + 1) = sp_dn (max (G (d * 4 + f)) (all - G (d * 4 + f))) (nI (10 * d + f)) q := by
                rw [sp_akI, ← hq, sp_wst, show 4 * d + f = d * 4 + f by omega]
              refine hK [(49, [0, 2, 4, 5, 6, 7]), (59, [0, 2, 4, 5, 6, 7, 8])] 60 _ _ ?_
              conv => whnf
              repeat' (first
                | (refine ⟨fun c9 => ?_, fun c9 => ?_⟩ <;> (try simp (disch := omega) only [nI_leI, nI_ltI, nI_eq, nz_eq, nz_lt, nz_gt, nz_le, nz_ge, nz_00, nz_n1, nI_add, pk_mul, pk_sub, nI_shl1, nI_or, nI_half2, nI_min2, la_put_eq, la_up, lr_same, lr_ne, lu_same, lu_ne, not_true_eq_false, not_false_eq_true, hN0, ua_eq, hFj, nI_max2] at c9) <;> first | (exfalso; omega) | conv => whnf)
                | (refine ⟨_, rfl, by omega, ?_⟩; conv => whnf)
                | (refine ⟨_, rfl, rfl, rfl, by decide, by decide, ?_⟩; conv => whnf)
                | (refine ⟨_, by (simp (disch := omega) only [nI_leI, nI_ltI, nI_eq, nz_eq, nz_lt, nz_gt, nz_le, nz_ge, nz_00, nz_n1, nI_add, pk_mul, pk_sub, nI_shl1, nI_or, nI_half2, nI_min2, la_put_eq, la_up, lr_same, lr_ne, lu_same, lu_ne, not_true_eq_false, not_false_eq_true, hN0, ua_eq, hFj, nI_max2]; rfl), by omega, ?_⟩; conv => whnf)
                | (refine And.intro (by first | assumption | decide) ?_; conv => whnf))
              all_goals (try simp (disch := omega) only [nI_leI, nI_ltI, nI_eq, nz_eq, nz_lt, nz_gt, nz_le, nz_ge, nz_00, nz_n1, nI_add, pk_mul, pk_sub, nI_shl1, nI_or, nI_half2, nI_min2, la_put_eq, la_up, lr_same, lr_ne, lu_same, lu_ne, not_true_eq_false, not_false_eq_true, hN0, ua_eq, hFj, nI_max2])
              · refine ih2 (f + 1) q (by omega) ?_
                rw [hst, sp_dn_f (by omega)]
              · exact ih2 (f + 1) (nI (10 * d + f), max (G (d * 4 + f)) (all - G (d * 4 + f))) (by omega) (by rw [hst, sp_dn_t (by omega)])
          refine hK [(49, [0, 2, 4, 5, 6, 7]), (59, [0, 2, 4, 5, 6, 7, 8])] 60 _ _ ?_
          conv => whnf
          repeat' (first
            | (refine ⟨fun c9 => ?_, fun c9 => ?_⟩ <;> (try simp (disch := omega) only [nI_leI, nI_ltI, nI_eq, nz_eq, nz_lt, nz_gt, nz_le, nz_ge, nz_00, nz_n1, nI_add, pk_mul, pk_sub, nI_shl1, nI_or, nI_half2, nI_min2, la_put_eq, la_up, lr_same, lr_ne, lu_same, lu_ne, not_true_eq_false, not_false_eq_true] at c9) <;> first | (exfalso; omega) | conv => whnf)
            | (refine ⟨_, rfl, by omega, ?_⟩; conv => whnf)
            | (refine ⟨_, rfl, rfl, rfl, by decide, by decide, ?_⟩; conv => whnf)
            | (refine ⟨_, by (simp (disch := omega) only [nI_leI, nI_ltI, nI_eq, nz_eq, nz_lt, nz_gt, nz_le, nz_ge, nz_00, nz_n1, nI_add, pk_mul, pk_sub, nI_shl1, nI_or, nI_half2, nI_min2, la_put_eq, la_up, lr_same, lr_ne, lu_same, lu_ne, not_true_eq_false, not_false_eq_true]; rfl), by omega, ?_⟩; conv => whnf)
            | (refine And.intro (by first | assumption | decide) ?_; conv => whnf))
          all_goals (try simp (disch := omega) only [nI_leI, nI_ltI, nI_eq, nz_eq, nz_lt, nz_gt, nz_le, nz_ge, nz_00, nz_n1, nI_add, pk_mul, pk_sub, nI_shl1, nI_or, nI_half2, nI_min2, la_put_eq, la_up, lr_same, lr_ne, lu_same, lu_ne, not_true_eq_false, not_false_eq_true])
          exact inner (N 0 0) 0 p (by omega) rfl
      conv => whnf
      repeat' (first
        | (refine ⟨fun c9 => ?_, fun c9 => ?_⟩ <;> (try simp (disch := omega) only [nI_leI, nI_ltI, nI_eq, nz_eq, nz_lt, nz_gt, nz_le, nz_ge, nz_00, nz_n1, nI_add, pk_mul, pk_sub, nI_shl1, nI_or, nI_half2, nI_min2, la_put_eq, la_up, lr_same, lr_ne, lu_same, lu_ne, not_true_eq_false, not_false_eq_true] at c9) <;> first | (exfalso; omega) | conv => whnf)
        | (refine ⟨_, rfl, by omega, ?_⟩; conv => whnf)
        | (refine ⟨_, rfl, rfl, rfl, by decide, by decide, ?_⟩; conv => whnf)
        | (refine ⟨_, by (simp (disch := omega) only [nI_leI, nI_ltI, nI_eq, nz_eq, nz_lt, nz_gt, nz_le, nz_ge, nz_00, nz_n1, nI_add, pk_mul, pk_sub, nI_shl1, nI_or, nI_half2, nI_min2, la_put_eq, la_up, lr_same, lr_ne, lu_same, lu_ne, not_true_eq_false, not_false_eq_true]; rfl), by omega, ?_⟩; conv => whnf)
        | (refine And.intro (by first | assumption | decide) ?_; conv => whnf))
      all_goals (try simp (disch := omega) only [nI_leI, nI_ltI, nI_eq, nz_eq, nz_lt, nz_gt, nz_le, nz_ge, nz_00, nz_n1, nI_add, pk_mul, pk_sub, nI_shl1, nI_or, nI_half2, nI_min2, la_put_eq, la_up, lr_same, lr_ne, lu_same, lu_ne, not_true_eq_false, not_false_eq_true])
      exact outer 31 0 (-4, all) (by omega) rfl
    · conv => whnf
      repeat' (first
        | (refine ⟨fun c9 => ?_, fun c9 => ?_⟩ <;> (try simp (disch := omega) only [nI_leI, nI_ltI, nI_eq, nz_eq, nz_lt, nz_gt, nz_le, nz_ge, nz_00, nz_n1, nI_add, pk_mul, pk_sub, nI_shl1, nI_or, nI_half2, nI_min2, la_put_eq, la_up, lr_same, lr_ne, lu_same, lu_ne, not_true_eq_false, not_false_eq_true] at c9) <;> first | (exfalso; omega) | conv => whnf)
        | (refine ⟨_, rfl, by omega, ?_⟩; conv => whnf)
        | (refine ⟨_, rfl, rfl, rfl, by decide, by decide, ?_⟩; conv => whnf)
        | (refine ⟨_, by (simp (disch := omega) only [nI_leI, nI_ltI, nI_eq, nz_eq, nz_lt, nz_gt, nz_le, nz_ge, nz_00, nz_n1, nI_add, pk_mul, pk_sub, nI_shl1, nI_or, nI_half2, nI_min2, la_put_eq, la_up, lr_same, lr_ne, lu_same, lu_ne, not_true_eq_false, not_false_eq_true]; rfl), by omega, ?_⟩; conv => whnf)
        | (refine And.intro (by first | assumption | decide) ?_; conv => whnf))
      all_goals (try simp (disch := omega) only [nI_leI, nI_ltI, nI_eq, nz_eq, nz_lt, nz_gt, nz_le, nz_ge, nz_00, nz_n1, nI_add, pk_mul, pk_sub, nI_shl1, nI_or, nI_half2, nI_min2, la_put_eq, la_up, lr_same, lr_ne, lu_same, lu_ne, not_true_eq_false, not_false_eq_true])
      refine hret _ _ ⟨tf2_of (tf_self hT wT), ?_⟩
      rw [a_ask, ci_f (fun q => hc q.2)]
  · conv => whnf
    repeat' (first
      | (refine ⟨fun c9 => ?_, fun c9 => ?_⟩ <;> (try simp (disch := omega) only [nI_leI, nI_ltI, nI_eq, nz_eq, nz_lt, nz_gt, nz_le, nz_ge, nz_00, nz_n1, nI_add, pk_mul, pk_sub, nI_shl1, nI_or, nI_half2, nI_min2, la_put_eq, la_up, lr_same, lr_ne, lu_same, lu_ne, not_true_eq_false, not_false_eq_true] at c9) <;> first | (exfalso; omega) | conv => whnf)
      | (refine ⟨_, rfl, by omega, ?_⟩; conv => whnf)
      | (refine ⟨_, rfl, rfl, rfl, by decide, by decide, ?_⟩; conv => whnf)
      | (refine ⟨_, by (simp (disch := omega) only [nI_leI, nI_ltI, nI_eq, nz_eq, nz_lt, nz_gt, nz_le, nz_ge, nz_00, nz_n1, nI_add, pk_mul, pk_sub, nI_shl1, nI_or, nI_half2, nI_min2, la_put_eq, la_up, lr_same, lr_ne, lu_same, lu_ne, not_true_eq_false, not_false_eq_true]; rfl), by omega, ?_⟩; conv => whnf)
      | (refine And.intro (by first | assumption | decide) ?_; conv => whnf))
    all_goals (try simp (disch := omega) only [nI_leI, nI_ltI, nI_eq, nz_eq, nz_lt, nz_gt, nz_le, nz_ge, nz_00, nz_n1, nI_add, pk_mul, pk_sub, nI_shl1, nI_or, nI_half2, nI_min2, la_put_eq, la_up, lr_same, lr_ne, lu_same, lu_ne, not_true_eq_false, not_false_eq_true])
    refine hret _ _ ⟨tf2_of (tf_self hT wT), ?_⟩
    rw [a_ask, ci_f (fun q => hc q.1)]
theorem M_X4_ask : pm_MT yX4_ask cX4_ask 11 1 5 P_X4_ask (pm_pi Q_X4_ask) := pm_met k_X4_ask (by decide) rfl (by
  rintro ⟨g0, g1, g2, g3, g4, g5, g6⟩ av h hp
  rw [hp.1]
  exact Nat.le_of_ble_eq_true rfl) pf_X4_ask
theorem rc_X4_ask : ∀ g av h, P_X4_ask g av h → ∃ i t, av = .inr (.inr (4, i, 0)) :: t := by
  rintro ⟨g0, g1, g2, g3, g4, g5, g6⟩ av h hp
  exact ⟨_, _, hp.1⟩
/-! luck, mean -/
noncomputable def cl (p : Prop) (a b : Int64) : Int64 := @ite Int64 p (Classical.propDecidable p) a b
theorem cl_t {p : Prop} {a b : Int64} (h : p) : cl p a b = a := by unfold cl; rw [if_pos h]
theorem cl_f {p : Prop} {a b : Int64} (h : ¬ p) : cl p a b = b := by unfold cl; rw [if_neg h]
def frac (a b : Nat) (w : Int32) : Int64 := if w = nI 0 then lN (a / Nat.gcd a b) else lN (b / Nat.gcd a b)
theorem sp_w_le {o : Bool} {f s v d : Nat} (hv : v ≤ 10) (hd : d ≤ 9) : ∀ (k : Nat) (X : LD), la_ok X → X 0 10 + k ≤ 4000 → sp_w o f s v d k X ≤ 594 * 10 ^ k
  | 0, X, hw, _ => by rw [sp_w]; exact sp_out_le hw o f s
  | k + 1, X, hw, hk => by
    have w9 : la_ok (lu X 0 8 9) := la_ok_lu hw (by unfold la_rel; omega) (by unfold la_bd; omega)
    have wd : la_ok (lu X 0 8 d) := la_ok_lu hw (by unfold la_rel; omega) (by unfold la_bd; omega)
    have e9 : lu X 0 8 9 0 10 = X 0 10 := lu_ne (by omega)
    have ed : lu X 0 8 d 0 10 = X 0 10 := lu_ne (by omega)
    have h1 := sp_w_le (o := o) (f := f) (s := s) hv hd k (sp_live (lu X 0 8 9)) (la_ok_live w9 (by omega)) (by rw [sp_live_day]; omega)
    have h2 := sp_w_le (o := o) (f := f) (s := s) hv hd k (sp_live (lu X 0 8 d)) (la_ok_live wd (by omega)) (by rw [sp_live_day]; omega)
    rw [sp_w]
    have h3 : v * sp_w o f s v d k (sp_live (lu X 0 8 9)) ≤ v * (594 * 10 ^ k) := Nat.mul_le_mul_left v h1
    have h4 : (10 - v) * sp_w o f s v d k (sp_live (lu X 0 8 d)) ≤ (10 - v) * (594 * 10 ^ k) := Nat.mul_le_mul_left (10 - v) h2
    have h5 : v * (594 * 10 ^ k) + (10 - v) * (594 * 10 ^ k) = 10 * (594 * 10 ^ k) := by
      rw [← Nat.add_mul, show v + (10 - v) = 10 by omega]
    have h6 : 594 * 10 ^ (k + 1) = 10 * (594 * 10 ^ k) := by rw [Nat.pow_succ]; omega
    omega
noncomputable def a_luck (N : LD) (v f s n w : Int32) : Int64 := cl ((wi v 0 10 ∧ wi n 0 8 ∧ hf w) ∧ ixI f (N 0 0) ∧ wi s 0 9) (frac (sp_w true (ixv f) (ixv s) (ixv v) (N 0 8) (ixv n) N) (10 ^ ixv n) w) (-1)
noncomputable def a_mean (N : LD) (v n w : Int32) : Int64 := cl (wi v 0 10 ∧ wi n 0 8 ∧ hf w) (frac (sp_w false 0 0 (ixv v) (N 0 8) (ixv n) N) (10 ^ ixv n) w) (-1)
theorem p10 {n : Nat} (h : n ≤ 8) : 10 ^ n ≤ 100000000 ∧ 0 < 10 ^ n := ⟨Nat.pow_le_pow_right (by decide) h, Nat.pow_pos (by decide)⟩
theorem p2 {n : Nat} (h : n ≤ 8) : 2 ^ (n + 1) ≤ 512 := by
  have h1 : 2 ^ (n + 1) ≤ 2 ^ 9 := Nat.pow_le_pow_right (by decide) (by omega)
  exact h1
def P_X4_luck : Int32 × Int32 × Int32 × Int32 × Int32 × LD × LD × pm_H → List pm_V → pm_H → Prop := fun g av h => match g with
  | (v, f, s, n, w, N, T, h0) => av = [vR 4 0 0, vI v, vI f, vI s, vI n, vI w] ∧ h = h0 ∧ la_at h0 0 N ∧ la_at h0 1 T ∧ la_ok N ∧ la_ok T ∧ N 0 10 ≤ 999
def Q_X4_luck : Int32 × Int32 × Int32 × Int32 × Int32 × LD × LD × pm_H → Int64 → pm_H → Prop := fun g r h => match g with
  | (v, f, s, n, w, N, T, h0) => tf2 h0 h ∧ r = a_luck N v f s n w
abbrev P_X4_weigh9 : Nat × Nat × Nat × Nat × Bool × Nat × Nat × LD × LD × pm_H → List pm_V → pm_H → Prop := P_X4_weigh 9
abbrev Q_X4_weigh9 : Nat × Nat × Nat × Nat × Bool × Nat × Nat × LD × LD × pm_H → Int64 → pm_H → Prop := Q_X4_weigh 9
theorem M_X4_weigh9 : pm_MT yX4_weigh cX4_weigh 9 2 13 P_X4_weigh9 (pm_pl2 Q_X4_weigh9) := M_X4_weigh 9
theorem rc_X4_weigh9 : ∀ g av h, P_X4_weigh9 g av h → ∃ i t, av = .inr (.inr (4, i, 0)) :: t := rc_X4_weigh 9
def T_X4_luck : List (Nat × pm_T) := [
  (0, i_il 1 1),
  (1, i_il 4 3),
  (3, i_il 5 5),
  (5, i_ci 3 P_X4_areOdds Q_X4_areOdds 8),
  (8, i_ifeq 32 11),
  (11, i_al 0 12),
  (12, i_gr 4 (fun _ => (0, 0, 0)) 15),
  (15, i_il 2 16),
  (16, i_ci 2 P_X0_hasFellow Q_X0_hasFellow 19),
  (19, i_ifeq 32 22),
  (22, i_il 3 23),
  (23, i_c (nI 0) 24),
  (24, i_c (nI 9) 26),
  (26, i_ci 3 P_X4_within Q_X4_within 29),
  (29, i_ifne 36 32),
  (32, i_cl (-1) 35),
  (35, i_lr),
  (36, i_al 0 37),
  (37, i_gr 4 (fun _ => (0, 1, 0)) 40),
  (40, i_al 0 41),
  (41, i_gr 4 (fun _ => (0, 0, 0)) 44),
  (44, i_cv 2 P_X0_take Q_X0_take 47),
  (47, i_al 0 48),
  (48, i_c (nI 0) 49),
  (49, i_il 4 51),
  (51, i_il 1 52),
  (52, i_il 2 53),
  (53, i_il 3 54),
  (54, i_cL 6 P_X4_weigh9 Q_X4_weigh9 57),
  (57, i_il 4 59),
  (59, i_cL 1 P_X4_powerOfTen Q_X4_powerOfTen 62),
  (62, i_il 5 64),
  (64, i_cL 3 P_X4_partOf Q_X4_partOf 67),
  (67, i_lr)]
theorem k_X4_luck : ∀ q ∈ T_X4_luck, pm_sd RX4 cX4_luck 6 14 2 q.1 q.2 := by
  unfold T_X4_luck
  refine pm_cn (sd_iln (k := 1) (by decide +kernel) rfl rfl) ?_
  refine pm_cn (sd_il (by decide +kernel) rfl) ?_
  refine pm_cn (sd_il (by decide +kernel) rfl) ?_
  refine pm_cn (sd_cis M_X4_areOdds (by decide) cd_X4_areOdds ml_X4_200 st_X4_areOdds nt_X4 (by decide +kernel) (by omega) (by decide) (by decide +kernel) rfl) ?_
  refine pm_cn (sd_ifeq (off := 24) (by decide +kernel) (by decide) rfl) ?_
  refine pm_cn (sd_aln (k := 0) (by decide +kernel) rfl rfl) ?_
  refine pm_cn (sd_gr cl4_ in4_ (j := 1) (by decide) (fun _ => rfl) fl_X4_19 (by decide +kernel) rfl) ?_
  refine pm_cn (sd_iln (k := 2) (by decide +kernel) rfl rfl) ?_
  refine pm_cn (sd_civ M_X0_hasFellow (by decide) cd_X0_hasFellow rc_X0_hasFellow cl0_ ml_X4_111 im_X0_hasFellow se_X0_hasFellow nt_X0 (by decide +kernel) (by omega) (by decide) (by decide +kernel) rfl) ?_
  refine pm_cn (sd_ifeq (off := 13) (by decide +kernel) (by decide) rfl) ?_
  refine pm_cn (sd_iln (k := 3) (by decide +kernel) rfl rfl) ?_
  refine pm_cn (sd_iconst (z := 0) (by decide +kernel) (by decide +kernel) rfl) ?_
  refine pm_cn (sd_bipush (z := 9) (by decide +kernel) (by decide +kernel) rfl) ?_
  refine pm_cn (sd_cis M_X4_within (by decide) cd_X4_within ml_X4_57 st_X4_within nt_X4 (by decide +kernel) (by omega) (by decide) (by decide +kernel) rfl) ?_
  refine pm_cn (sd_ifne (off := 7) (by decide +kernel) (by decide) rfl) ?_
  refine pm_cn (sd_ldc2 (k := 203) (by decide +kernel) (pm_tin (by decide +kernel) rfl) rfl) ?_
  refine pm_cn (sd_lr (by decide +kernel)) ?_
  refine pm_cn (sd_aln (k := 0) (by decide +kernel) rfl rfl) ?_
  refine pm_cn (sd_gr cl4_ in4_ (j := 2) (by decide) (fun _ => rfl) fl_X4_23 (by decide +kernel) rfl) ?_
  refine pm_cn (sd_aln (k := 0) (by decide +kernel) rfl rfl) ?_
  refine pm_cn (sd_gr cl4_ in4_ (j := 1) (by decide) (fun _ => rfl) fl_X4_19 (by decide +kernel) rfl) ?_
  refine pm_cn (sd_cvv M_X0_take cd_X0_take rc_X0_take cl0_ ml_X4_76 im_X0_take se_X0_take nt_X0 (by decide +kernel) (by omega) (by decide) (by decide +kernel) rfl) ?_
  refine pm_cn (sd_aln (k := 0) (by decide +kernel) rfl rfl) ?_
  refine pm_cn (sd_iconst (z := 0) (by decide +kernel) (by decide +kernel) rfl) ?_
  refine pm_cn (sd_il (by decide +kernel) rfl) ?_
  refine pm_cn (sd_iln (k := 1) (by decide +kernel) rfl rfl) ?_
  refine pm_cn (sd_iln (k := 2) (by decide +kernel) rfl rfl) ?_
  refine pm_cn (sd_iln (k := 3) (by decide +kernel) rfl rfl) ?_
  refine pm_cn (sd_cLv M_X4_weigh9 cd_X4_weigh rc_X4_weigh9 cl4_ ml_X4_205 im_X4_weigh se_X4_weigh nt_X4 (by decide +kernel) (by omega) (by decide) (by decide +kernel) rfl) ?_
  refine pm_cn (sd_il (by decide +kernel) rfl) ?_
  refine pm_cn (sd_cLs M_X4_powerOfTen cd_X4_powerOfTen ml_X4_209 st_X4_powerOfTen nt_X4 (by decide +kernel) (by omega) (by decide) (by decide +kernel) rfl) ?_
  refine pm_cn (sd_il (by decide +kernel) rfl) ?_
  refine pm_cn (sd_cLs M_X4_partOf cd_X4_partOf ml_X4_213 st_X4_partOf nt_X4 (by decide +kernel) (by omega) (by decide) (by decide +kernel) rfl) ?_
  refine pm_cn (sd_lr (by decide +kernel)) ?_
  exact fun _ h => absurd h List.not_mem_nil
set_option maxHeartbeats 800000 in
set_option maxRecDepth 100000 in
theorem pf_X4_luck : pm_pf T_X4_luck P_X4_luck (pm_pl2 Q_X4_luck) := by
  rintro ⟨v, f, s, n, w, N, T, h0⟩ av h K hK ⟨rfl, rfl, hN, hT, wN, wT, hd⟩ hret
  have w1 := wN.1
  have w3 := wN.2.2.1
  show K (some 0) ([(0, vR 4 0 0), (1, vI v), (2, vI f), (3, vI s), (4, vI n), (5, vI w)], [], h)
  refine hK [] 80 _ _ ?_
  conv => whnf
  repeat' (first
    | (refine ⟨fun c9 => ?_, fun c9 => ?_⟩ <;> (try simp (disch := omega) only [nI_leI, nI_ltI, nI_eq, nz_eq, nz_lt, nz_gt, nz_le, nz_ge, nz_00, nz_n1, nI_add, pk_mul, pk_sub, nI_shl1, nI_or, nI_half2, nI_min2, la_put_eq, la_up, lr_same, lr_ne, lu_same, lu_ne, not_true_eq_false, not_false_eq_true] at c9) <;> first | (exfalso; omega) | conv => whnf)
    | (refine ⟨_, rfl, by omega, ?_⟩; conv => whnf)
    | (refine ⟨_, rfl, rfl, rfl, by decide, by decide, ?_⟩; conv => whnf)
    | (refine ⟨_, by (simp (disch := omega) only [nI_leI, nI_ltI, nI_eq, nz_eq, nz_lt, nz_gt, nz_le, nz_ge, nz_00, nz_n1, nI_add, pk_mul, pk_sub, nI_shl1, nI_or, nI_half2, nI_min2, la_put_eq, la_up, lr_same, lr_ne, lu_same, lu_ne, not_true_eq_false, not_false_eq_true]; rfl), by omega, ?_⟩; conv => whnf)
    | (refine And.intro (by first | assumption | decide) ?_; conv => whnf))
  all_goals (try simp (disch := omega) only [nI_leI, nI_ltI, nI_eq, nz_eq, nz_lt, nz_gt, nz_le, nz_ge, nz_00, nz_n1, nI_add, pk_mul, pk_sub, nI_shl1, nI_or, nI_half2, nI_min2, la_put_eq, la_up, lr_same, lr_ne, lu_same, lu_ne, not_true_eq_false, not_false_eq_true])
  refine ⟨(v, n, w, _), ⟨rfl, rfl⟩, fun r h' hq => ?_⟩
  obtain ⟨rfl, ⟨ho, rfl⟩ | ⟨hc, rfl⟩⟩ := hq
  · conv => whnf
    repeat' (first
      | (refine ⟨fun c9 => ?_, fun c9 => ?_⟩ <;> (try simp (disch := omega) only [nI_leI, nI_ltI, nI_eq, nz_eq, nz_lt, nz_gt, nz_le, nz_ge, nz_00, nz_n1, nI_add, pk_mul, pk_sub, nI_shl1, nI_or, nI_half2, nI_min2, la_put_eq, la_up, lr_same, lr_ne, lu_same, lu_ne, not_true_eq_false, not_false_eq_true] at c9) <;> first | (exfalso; omega) | conv => whnf)
      | (refine ⟨_, rfl, by omega, ?_⟩; conv => whnf)
      | (refine ⟨_, rfl, rfl, rfl, by decide, by decide, ?_⟩; conv => whnf)
      | (refine ⟨_, by (simp (disch := omega) only [nI_leI, nI_ltI, nI_eq, nz_eq, nz_lt, nz_gt, nz_le, nz_ge, nz_00, nz_n1, nI_add, pk_mul, pk_sub, nI_shl1, nI_or, nI_half2, nI_min2, la_put_eq, la_up, lr_same, lr_ne, lu_same, lu_ne, not_true_eq_false, not_false_eq_true]; rfl), by omega, ?_⟩; conv => whnf)
      | (refine And.intro (by first | assumption | decide) ?_; conv => whnf))
    all_goals (try simp (disch := omega) only [nI_leI, nI_ltI, nI_eq, nz_eq, nz_lt, nz_gt, nz_le, nz_ge, nz_00, nz_n1, nI_add, pk_mul, pk_sub, nI_shl1, nI_or, nI_half2, nI_min2, la_put_eq, la_up, lr_same, lr_ne, lu_same, lu_ne, not_true_eq_false, not_false_eq_true])
    refine ⟨(0, f, N, _), ⟨rfl, rfl, hN, wN⟩, fun r h' hq => ?_⟩
    obtain ⟨rfl, ⟨hf1, rfl⟩ | ⟨hc, rfl⟩⟩ := hq
    · conv => whnf
      repeat' (first
        | (refine ⟨fun c9 => ?_, fun c9 => ?_⟩ <;> (try simp (disch := omega) only [nI_leI, nI_ltI, nI_eq, nz_eq, nz_lt, nz_gt, nz_le, nz_ge, nz_00, nz_n1, nI_add, pk_mul, pk_sub, nI_shl1, nI_or, nI_half2, nI_min2, la_put_eq, la_up, lr_same, lr_ne, lu_same, lu_ne, not_true_eq_false, not_false_eq_true] at c9) <;> first | (exfalso; omega) | conv => whnf)
        | (refine ⟨_, rfl, by omega, ?_⟩; conv => whnf)
        | (refine ⟨_, rfl, rfl, rfl, by decide, by decide, ?_⟩; conv => whnf)
        | (refine ⟨_, by (simp (disch := omega) only [nI_leI, nI_ltI, nI_eq, nz_eq, nz_lt, nz_gt, nz_le, nz_ge, nz_00, nz_n1, nI_add, pk_mul, pk_sub, nI_shl1, nI_or, nI_half2, nI_min2, la_put_eq, la_up, lr_same, lr_ne, lu_same, lu_ne, not_true_eq_false, not_false_eq_true]; rfl), by omega, ?_⟩; conv => whnf)
        | (refine And.intro (by first | assumption | decide) ?_; conv => whnf))
      all_goals (try simp (disch := omega) only [nI_leI, nI_ltI, nI_eq, nz_eq, nz_lt, nz_gt, nz_le, nz_ge, nz_00, nz_n1, nI_add, pk_mul, pk_sub, nI_shl1, nI_or, nI_half2, nI_min2, la_put_eq, la_up, lr_same, lr_ne, lu_same, lu_ne, not_true_eq_false, not_false_eq_true])
      refine ⟨(s, nI 0, nI 9, _), ⟨rfl, rfl⟩, fun r h' hq => ?_⟩
      obtain ⟨rfl, ⟨hs, rfl⟩ | ⟨hc, rfl⟩⟩ := Q_within (by decide) (by decide) hq
      · obtain ⟨v', v1, v2, rfl⟩ := id ho.1
        obtain ⟨n', n1, n2, rfl⟩ := id ho.2.1
        obtain ⟨f', f1, rfl⟩ := id hf1
        obtain ⟨s', s1, s2, rfl⟩ := id hs
        have hp10 := p10 n2
        have hp2 := p2 n2
        have hW := sp_w_le (o := true) (f := f') (s := s') (v := v') (d := N 0 8) v2 w3 n' N wN (by omega)
        have hW2 : 594 * 10 ^ n' ≤ 594 * 100000000 := Nat.mul_le_mul_left 594 hp10.1
        conv => whnf
        repeat' (first
          | (refine ⟨fun c9 => ?_, fun c9 => ?_⟩ <;> (try simp (disch := omega) only [nI_leI, nI_ltI, nI_eq, nz_eq, nz_lt, nz_gt, nz_le, nz_ge, nz_00, nz_n1, nI_add, pk_mul, pk_sub, nI_shl1, nI_or, nI_half2, nI_min2, la_put_eq, la_up, lr_same, lr_ne, lu_same, lu_ne, not_true_eq_false, not_false_eq_true] at c9) <;> first | (exfalso; omega) | conv => whnf)
          | (refine ⟨_, rfl, by omega, ?_⟩; conv => whnf)
          | (refine ⟨_, rfl, rfl, rfl, by decide, by decide, ?_⟩; conv => whnf)
          | (refine ⟨_, by (simp (disch := omega) only [nI_leI, nI_ltI, nI_eq, nz_eq, nz_lt, nz_gt, nz_le, nz_ge, nz_00, nz_n1, nI_add, pk_mul, pk_sub, nI_shl1, nI_or, nI_half2, nI_min2, la_put_eq, la_up, lr_same, lr_ne, lu_same, lu_ne, not_true_eq_false, not_false_eq_true]; rfl), by omega, ?_⟩; conv => whnf)
          | (refine And.intro (by first | assumption | decide) ?_; conv => whnf))
        all_goals (try simp (disch := omega) only [nI_leI, nI_ltI, nI_eq, nz_eq, nz_lt, nz_gt, nz_le, nz_ge, nz_00, nz_n1, nI_add, pk_mul, pk_sub, nI_shl1, nI_or, nI_half2, nI_min2, la_put_eq, la_up, lr_same, lr_ne, lu_same, lu_ne, not_true_eq_false, not_false_eq_true])
        refine ⟨(1, 0, T, N, _), ⟨rfl, rfl, hT, hN, wT, wN, by decide⟩, fun h'' hq => ?_⟩
        have hq : h'' = la_put h' 1 N := hq
        subst hq
        conv => whnf
        repeat' (first
          | (refine ⟨fun c9 => ?_, fun c9 => ?_⟩ <;> (try simp (disch := omega) only [nI_leI, nI_ltI, nI_eq, nz_eq, nz_lt, nz_gt, nz_le, nz_ge, nz_00, nz_n1, nI_add, pk_mul, pk_sub, nI_shl1, nI_or, nI_half2, nI_min2, la_put_eq, la_up, lr_same, lr_ne, lu_same, lu_ne, not_true_eq_false, not_false_eq_true] at c9) <;> first | (exfalso; omega) | conv => whnf)
          | (refine ⟨_, rfl, by omega, ?_⟩; conv => whnf)
          | (refine ⟨_, rfl, rfl, rfl, by decide, by decide, ?_⟩; conv => whnf)
          | (refine ⟨_, by (simp (disch := omega) only [nI_leI, nI_ltI, nI_eq, nz_eq, nz_lt, nz_gt, nz_le, nz_ge, nz_00, nz_n1, nI_add, pk_mul, pk_sub, nI_shl1, nI_or, nI_half2, nI_min2, la_put_eq, la_up, lr_same, lr_ne, lu_same, lu_ne, not_true_eq_false, not_false_eq_true]; rfl), by omega, ?_⟩; conv => whnf)
          | (refine And.intro (by first | assumption | decide) ?_; conv => whnf))
        all_goals (try simp (disch := omega) only [nI_leI, nI_ltI, nI_eq, nz_eq, nz_lt, nz_gt, nz_le, nz_ge, nz_00, nz_n1, nI_add, pk_mul, pk_sub, nI_shl1, nI_or, nI_half2, nI_min2, la_put_eq, la_up, lr_same, lr_ne, lu_same, lu_ne, not_true_eq_false, not_false_eq_true])
        refine ⟨(n', 0, n', v', true, f', s', N, N, _), ⟨rfl, rfl, n2, by omega, n2, v2, by omega, s2, la_at_ne hN (by decide), la_put_at _ _ _, wN, wN, by omega⟩, fun r h'' hq => ?_⟩
        obtain ⟨rfl, Y, wY, hY5, hYd, hYa, hYf⟩ := hq
        conv => whnf
        repeat' (first
          | (refine ⟨fun c9 => ?_, fun c9 => ?_⟩ <;> (try simp (disch := omega) only [nI_leI, nI_ltI, nI_eq, nz_eq, nz_lt, nz_gt, nz_le, nz_ge, nz_00, nz_n1, nI_add, pk_mul, pk_sub, nI_shl1, nI_or, nI_half2, nI_min2, la_put_eq, la_up, lr_same, lr_ne, lu_same, lu_ne, not_true_eq_false, not_false_eq_true] at c9) <;> first | (exfalso; omega) | conv => whnf)
          | (refine ⟨_, rfl, by omega, ?_⟩; conv => whnf)
          | (refine ⟨_, rfl, rfl, rfl, by decide, by decide, ?_⟩; conv => whnf)
          | (refine ⟨_, by (simp (disch := omega) only [nI_leI, nI_ltI, nI_eq, nz_eq, nz_lt, nz_gt, nz_le, nz_ge, nz_00, nz_n1, nI_add, pk_mul, pk_sub, nI_shl1, nI_or, nI_half2, nI_min2, la_put_eq, la_up, lr_same, lr_ne, lu_same, lu_ne, not_true_eq_false, not_false_eq_true]; rfl), by omega, ?_⟩; conv => whnf)
          | (refine And.intro (by first | assumption | decide) ?_; conv => whnf))
        all_goals (try simp (disch := omega) only [nI_leI, nI_ltI, nI_eq, nz_eq, nz_lt, nz_gt, nz_le, nz_ge, nz_00, nz_n1, nI_add, pk_mul, pk_sub, nI_shl1, nI_or, nI_half2, nI_min2, la_put_eq, la_up, lr_same, lr_ne, lu_same, lu_ne, not_true_eq_false, not_false_eq_true])
        refine ⟨(n', _), ⟨rfl, rfl, n2⟩, fun r h3 hq => ?_⟩
        obtain ⟨rfl, rfl⟩ := hq
        conv => whnf
        repeat' (first
          | (refine ⟨fun c9 => ?_, fun c9 => ?_⟩ <;> (try simp (disch := omega) only [nI_leI, nI_ltI, nI_eq, nz_eq, nz_lt, nz_gt, nz_le, nz_ge, nz_00, nz_n1, nI_add, pk_mul, pk_sub, nI_shl1, nI_or, nI_half2, nI_min2, la_put_eq, la_up, lr_same, lr_ne, lu_same, lu_ne, not_true_eq_false, not_false_eq_true] at c9) <;> first | (exfalso; omega) | conv => whnf)
          | (refine ⟨_, rfl, by omega, ?_⟩; conv => whnf)
          | (refine ⟨_, rfl, rfl, rfl, by decide, by decide, ?_⟩; conv => whnf)
          | (refine ⟨_, by (simp (disch := omega) only [nI_leI, nI_ltI, nI_eq, nz_eq, nz_lt, nz_gt, nz_le, nz_ge, nz_00, nz_n1, nI_add, pk_mul, pk_sub, nI_shl1, nI_or, nI_half2, nI_min2, la_put_eq, la_up, lr_same, lr_ne, lu_same, lu_ne, not_true_eq_false, not_false_eq_true]; rfl), by omega, ?_⟩; conv => whnf)
          | (refine And.intro (by first | assumption | decide) ?_; conv => whnf))
        all_goals (try simp (disch := omega) only [nI_leI, nI_ltI, nI_eq, nz_eq, nz_lt, nz_gt, nz_le, nz_ge, nz_00, nz_n1, nI_add, pk_mul, pk_sub, nI_shl1, nI_or, nI_half2, nI_min2, la_put_eq, la_up, lr_same, lr_ne, lu_same, lu_ne, not_true_eq_false, not_false_eq_true])
        refine ⟨(sp_w true f' s' v' (N 0 8) n' N, 10 ^ n', w, _), ⟨rfl, rfl, hp10.2, by omega, by omega, ho.2.2⟩, fun r h4 hq => ?_⟩
        obtain ⟨rfl, hr⟩ := hq
        conv => whnf
        repeat' (first
          | (refine ⟨fun c9 => ?_, fun c9 => ?_⟩ <;> (try simp (disch := omega) only [nI_leI, nI_ltI, nI_eq, nz_eq, nz_lt, nz_gt, nz_le, nz_ge, nz_00, nz_n1, nI_add, pk_mul, pk_sub, nI_shl1, nI_or, nI_half2, nI_min2, la_put_eq, la_up, lr_same, lr_ne, lu_same, lu_ne, not_true_eq_false, not_false_eq_true] at c9) <;> first | (exfalso; omega) | conv => whnf)
          | (refine ⟨_, rfl, by omega, ?_⟩; conv => whnf)
          | (refine ⟨_, rfl, rfl, rfl, by decide, by decide, ?_⟩; conv => whnf)
          | (refine ⟨_, by (simp (disch := omega) only [nI_leI, nI_ltI, nI_eq, nz_eq, nz_lt, nz_gt, nz_le, nz_ge, nz_00, nz_n1, nI_add, pk_mul, pk_sub, nI_shl1, nI_or, nI_half2, nI_min2, la_put_eq, la_up, lr_same, lr_ne, lu_same, lu_ne, not_true_eq_false, not_false_eq_true]; rfl), by omega, ?_⟩; conv => whnf)
          | (refine And.intro (by first | assumption | decide) ?_; conv => whnf))
        all_goals (try simp (disch := omega) only [nI_leI, nI_ltI, nI_eq, nz_eq, nz_lt, nz_gt, nz_le, nz_ge, nz_00, nz_n1, nI_add, pk_mul, pk_sub, nI_shl1, nI_or, nI_half2, nI_min2, la_put_eq, la_up, lr_same, lr_ne, lu_same, lu_ne, not_true_eq_false, not_false_eq_true])
        refine hret _ _ ⟨⟨Y, wY, hYa, fun c i s j q1 q2 q3 => by rw [hYf c i s j q1 (by omega), la_put_ne q1]⟩, ?_⟩
        rw [a_luck, cl_t ⟨ho, hf1, hs⟩, ixv_nI (by omega), ixv_nI (by omega), ixv_nI (by omega), ixv_nI (by omega), frac]
        rcases hr with ⟨rfl, rfl⟩ | ⟨rfl, rfl⟩
        · rw [if_pos rfl]
        · rw [if_neg (by decide +kernel)]
      · conv => whnf
        repeat' (first
          | (refine ⟨fun c9 => ?_, fun c9 => ?_⟩ <;> (try simp (disch := omega) only [nI_leI, nI_ltI, nI_eq, nz_eq, nz_lt, nz_gt, nz_le, nz_ge, nz_00, nz_n1, nI_add, pk_mul, pk_sub, nI_shl1, nI_or, nI_half2, nI_min2, la_put_eq, la_up, lr_same, lr_ne, lu_same, lu_ne, not_true_eq_false, not_false_eq_true] at c9) <;> first | (exfalso; omega) | conv => whnf)
          | (refine ⟨_, rfl, by omega, ?_⟩; conv => whnf)
          | (refine ⟨_, rfl, rfl, rfl, by decide, by decide, ?_⟩; conv => whnf)
          | (refine ⟨_, by (simp (disch := omega) only [nI_leI, nI_ltI, nI_eq, nz_eq, nz_lt, nz_gt, nz_le, nz_ge, nz_00, nz_n1, nI_add, pk_mul, pk_sub, nI_shl1, nI_or, nI_half2, nI_min2, la_put_eq, la_up, lr_same, lr_ne, lu_same, lu_ne, not_true_eq_false, not_false_eq_true]; rfl), by omega, ?_⟩; conv => whnf)
          | (refine And.intro (by first | assumption | decide) ?_; conv => whnf))
        all_goals (try simp (disch := omega) only [nI_leI, nI_ltI, nI_eq, nz_eq, nz_lt, nz_gt, nz_le, nz_ge, nz_00, nz_n1, nI_add, pk_mul, pk_sub, nI_shl1, nI_or, nI_half2, nI_min2, la_put_eq, la_up, lr_same, lr_ne, lu_same, lu_ne, not_true_eq_false, not_false_eq_true])
        refine hret _ _ ⟨tf2_of (tf_self hT wT), ?_⟩
        rw [a_luck, cl_f (fun q => hc q.2.2)]
    · conv => whnf
      repeat' (first
        | (refine ⟨fun c9 => ?_, fun c9 => ?_⟩ <;> (try simp (disch := omega) only [nI_leI, nI_ltI, nI_eq, nz_eq, nz_lt, nz_gt, nz_le, nz_ge, nz_00, nz_n1, nI_add, pk_mul, pk_sub, nI_shl1, nI_or, nI_half2, nI_min2, la_put_eq, la_up, lr_same, lr_ne, lu_same, lu_ne, not_true_eq_false, not_false_eq_true] at c9) <;> first | (exfalso; omega) | conv => whnf)
        | (refine ⟨_, rfl, by omega, ?_⟩; conv => whnf)
        | (refine ⟨_, rfl, rfl, rfl, by decide, by decide, ?_⟩; conv => whnf)
        | (refine ⟨_, by (simp (disch := omega) only [nI_leI, nI_ltI, nI_eq, nz_eq, nz_lt, nz_gt, nz_le, nz_ge, nz_00, nz_n1, nI_add, pk_mul, pk_sub, nI_shl1, nI_or, nI_half2, nI_min2, la_put_eq, la_up, lr_same, lr_ne, lu_same, lu_ne, not_true_eq_false, not_false_eq_true]; rfl), by omega, ?_⟩; conv => whnf)
        | (refine And.intro (by first | assumption | decide) ?_; conv => whnf))
      all_goals (try simp (disch := omega) only [nI_leI, nI_ltI, nI_eq, nz_eq, nz_lt, nz_gt, nz_le, nz_ge, nz_00, nz_n1, nI_add, pk_mul, pk_sub, nI_shl1, nI_or, nI_half2, nI_min2, la_put_eq, la_up, lr_same, lr_ne, lu_same, lu_ne, not_true_eq_false, not_false_eq_true])
      refine hret _ _ ⟨tf2_of (tf_self hT wT), ?_⟩
      rw [a_luck, cl_f (fun q => hc q.2.1)]
  · conv => whnf
    repeat' (first
      | (refine ⟨fun c9 => ?_, fun c9 => ?_⟩ <;> (try simp (disch := omega) only [nI_leI, nI_ltI, nI_eq, nz_eq, nz_lt, nz_gt, nz_le, nz_ge, nz_00, nz_n1, nI_add, pk_mul, pk_sub, nI_shl1, nI_or, nI_half2, nI_min2, la_put_eq, la_up, lr_same, lr_ne, lu_same, lu_ne, not_true_eq_false, not_false_eq_true] at c9) <;> first | (exfalso; omega) | conv => whnf)
      | (refine ⟨_, rfl, by omega, ?_⟩; conv => whnf)
      | (refine ⟨_, rfl, rfl, rfl, by decide, by decide, ?_⟩; conv => whnf)
      | (refine ⟨_, by (simp (disch := omega) only [nI_leI, nI_ltI, nI_eq, nz_eq, nz_lt, nz_gt, nz_le, nz_ge, nz_00, nz_n1, nI_add, pk_mul, pk_sub, nI_shl1, nI_or, nI_half2, nI_min2, la_put_eq, la_up, lr_same, lr_ne, lu_same, lu_ne, not_true_eq_false, not_false_eq_true]; rfl), by omega, ?_⟩; conv => whnf)
      | (refine And.intro (by first | assumption | decide) ?_; conv => whnf))
    all_goals (try simp (disch := omega) only [nI_leI, nI_ltI, nI_eq, nz_eq, nz_lt, nz_gt, nz_le, nz_ge, nz_00, nz_n1, nI_add, pk_mul, pk_sub, nI_shl1, nI_or, nI_half2, nI_min2, la_put_eq, la_up, lr_same, lr_ne, lu_same, lu_ne, not_true_eq_false, not_false_eq_true])
    refine hret _ _ ⟨tf2_of (tf_self hT wT), ?_⟩
    rw [a_luck, cl_f (fun q => hc q.1)]
theorem M_X4_luck : pm_MT yX4_luck cX4_luck 6 2 14 P_X4_luck (pm_pl2 Q_X4_luck) := pm_met k_X4_luck (by decide) rfl (by
  rintro ⟨g0, g1, g2, g3, g4, g5, g6, g7⟩ av h hp
  rw [hp.1]
  exact Nat.le_of_ble_eq_true rfl) pf_X4_luck
theorem rc_X4_luck : ∀ g av h, P_X4_luck g av h → ∃ i t, av = .inr (.inr (4, i, 0)) :: t := by
  rintro ⟨g0, g1, g2, g3, g4, g5, g6, g7⟩ av h hp
  exact ⟨_, _, hp.1⟩
def P_X4_mean : Int32 × Int32 × Int32 × LD × LD × pm_H → List pm_V → pm_H → Prop := fun g av h => match g with
  | (v, n, w, N, T, h0) => av = [vR 4 0 0, vI v, vI n, vI w] ∧ h = h0 ∧ la_at h0 0 N ∧ la_at h0 1 T ∧ la_ok N ∧ la_ok T ∧ N 0 10 ≤ 999
def Q_X4_mean : Int32 × Int32 × Int32 × LD × LD × pm_H → Int64 → pm_H → Prop := fun g r h => match g with
  | (v, n, w, N, T, h0) => tf2 h0 h ∧ r = a_mean N v n w
def T_X4_mean : List (Nat × pm_T) := [
  (0, i_il 1 1),
  (1, i_il 2 2),
  (2, i_il 3 3),
  (3, i_ci 3 P_X4_areOdds Q_X4_areOdds 6),
  (6, i_ifne 13 9),
  (9, i_cl (-1) 12),
  (12, i_lr),
  (13, i_al 0 14),
  (14, i_gr 4 (fun _ => (0, 1, 0)) 17),
  (17, i_al 0 18),
  (18, i_gr 4 (fun _ => (0, 0, 0)) 21),
  (21, i_cv 2 P_X0_take Q_X0_take 24),
  (24, i_al 0 25),
  (25, i_c (nI 0) 26),
  (26, i_il 2 27),
  (27, i_il 1 28),
  (28, i_c (-4) 30),
  (30, i_c (-4) 32),
  (32, i_cL 6 P_X4_weigh9 Q_X4_weigh9 35),
  (35, i_il 2 36),
  (36, i_cL 1 P_X4_powerOfTen Q_X4_powerOfTen 39),
  (39, i_il 3 40),
  (40, i_cL 3 P_X4_partOf Q_X4_partOf 43),
  (43, i_lr)]
theorem k_X4_mean : ∀ q ∈ T_X4_mean, pm_sd RX4 cX4_mean 4 14 2 q.1 q.2 := by
  unfold T_X4_mean
  refine pm_cn (sd_iln (k := 1) (by decide +kernel) rfl rfl) ?_
  refine pm_cn (sd_iln (k := 2) (by decide +kernel) rfl rfl) ?_
  refine pm_cn (sd_iln (k := 3) (by decide +kernel) rfl rfl) ?_
  refine pm_cn (sd_cis M_X4_areOdds (by decide) cd_X4_areOdds ml_X4_200 st_X4_areOdds nt_X4 (by decide +kernel) (by omega) (by decide) (by decide +kernel) rfl) ?_
  refine pm_cn (sd_ifne (off := 7) (by decide +kernel) (by decide) rfl) ?_
  refine pm_cn (sd_ldc2 (k := 203) (by decide +kernel) (pm_tin (by decide +kernel) rfl) rfl) ?_
  refine pm_cn (sd_lr (by decide +kernel)) ?_
  refine pm_cn (sd_aln (k := 0) (by decide +kernel) rfl rfl) ?_
  refine pm_cn (sd_gr cl4_ in4_ (j := 2) (by decide) (fun _ => rfl) fl_X4_23 (by decide +kernel) rfl) ?_
  refine pm_cn (sd_aln (k := 0) (by decide +kernel) rfl rfl) ?_
  refine pm_cn (sd_gr cl4_ in4_ (j := 1) (by decide) (fun _ => rfl) fl_X4_19 (by decide +kernel) rfl) ?_
  refine pm_cn (sd_cvv M_X0_take cd_X0_take rc_X0_take cl0_ ml_X4_76 im_X0_take se_X0_take nt_X0 (by decide +kernel) (by omega) (by decide) (by decide +kernel) rfl) ?_
  refine pm_cn (sd_aln (k := 0) (by decide +kernel) rfl rfl) ?_
  refine pm_cn (sd_iconst (z := 0) (by decide +kernel) (by decide +kernel) rfl) ?_
  refine pm_cn (sd_iln (k := 2) (by decide +kernel) rfl rfl) ?_
  refine pm_cn (sd_iln (k := 1) (by decide +kernel) rfl rfl) ?_
  refine pm_cn (sd_bipush (z := -4) (by decide +kernel) (by decide +kernel) rfl) ?_
  refine pm_cn (sd_bipush (z := -4) (by decide +kernel) (by decide +kernel) rfl) ?_
  refine pm_cn (sd_cLv M_X4_weigh9 cd_X4_weigh rc_X4_weigh9 cl4_ ml_X4_205 im_X4_weigh se_X4_weigh nt_X4 (by decide +kernel) (by omega) (by decide) (by decide +kernel) rfl) ?_
  refine pm_cn (sd_iln (k := 2) (by decide +kernel) rfl rfl) ?_
  refine pm_cn (sd_cLs M_X4_powerOfTen cd_X4_powerOfTen ml_X4_209 st_X4_powerOfTen nt_X4 (by decide +kernel) (by omega) (by decide) (by decide +kernel) rfl) ?_
  refine pm_cn (sd_iln (k := 3) (by decide +kernel) rfl rfl) ?_
  refine pm_cn (sd_cLs M_X4_partOf cd_X4_partOf ml_X4_213 st_X4_partOf nt_X4 (by decide +kernel) (by omega) (by decide) (by decide +kernel) rfl) ?_
  refine pm_cn (sd_lr (by decide +kernel)) ?_
  exact fun _ h => absurd h List.not_mem_nil
set_option maxHeartbeats 800000 in
set_option maxRecDepth 100000 in
theorem pf_X4_mean : pm_pf T_X4_mean P_X4_mean (pm_pl2 Q_X4_mean) := by
  rintro ⟨v, n, w, N, T, h0⟩ av h K hK ⟨rfl, rfl, hN, hT, wN, wT, hd⟩ hret
  have w3 := wN.2.2.1
  show K (some 0) ([(0, vR 4 0 0), (1, vI v), (2, vI n), (3, vI w)], [], h)
  refine hK [] 80 _ _ ?_
  conv => whnf
  repeat' (first
    | (refine ⟨fun c9 => ?_, fun c9 => ?_⟩ <;> (try simp (disch := omega) only [nI_leI, nI_ltI, nI_eq, nz_eq, nz_lt, nz_gt, nz_le, nz_ge, nz_00, nz_n1, nI_add, pk_mul, pk_sub, nI_shl1, nI_or, nI_half2, nI_min2, la_put_eq, la_up, lr_same, lr_ne, lu_same, lu_ne, not_true_eq_false, not_false_eq_true] at c9) <;> first | (exfalso; omega) | conv => whnf)
    | (refine ⟨_, rfl, by omega, ?_⟩; conv => whnf)
    | (refine ⟨_, rfl, rfl, rfl, by decide, by decide, ?_⟩; conv => whnf)
    | (refine ⟨_, by (simp (disch := omega) only [nI_leI, nI_ltI, nI_eq, nz_eq, nz_lt, nz_gt, nz_le, nz_ge, nz_00, nz_n1, nI_add, pk_mul, pk_sub, nI_shl1, nI_or, nI_half2, nI_min2, la_put_eq, la_up, lr_same, lr_ne, lu_same, lu_ne, not_true_eq_false, not_false_eq_true]; rfl), by omega, ?_⟩; conv => whnf)
    | (refine And.intro (by first | assumption | decide) ?_; conv => whnf))
  all_goals (try simp (disch := omega) only [nI_leI, nI_ltI, nI_eq, nz_eq, nz_lt, nz_gt, nz_le, nz_ge, nz_00, nz_n1, nI_add, pk_mul, pk_sub, nI_shl1, nI_or, nI_half2, nI_min2, la_put_eq, la_up, lr_same, lr_ne, lu_same, lu_ne, not_true_eq_false, not_false_eq_true])
  refine ⟨(v, n, w, _), ⟨rfl, rfl⟩, fun r h' hq => ?_⟩
  obtain ⟨rfl, ⟨ho, rfl⟩ | ⟨hc, rfl⟩⟩ := hq
  · obtain ⟨v', v1, v2, rfl⟩ := id ho.1
    obtain ⟨n', n1, n2, rfl⟩ := id ho.2.1
    have hp10 := p10 n2
    have hp2 := p2 n2
    have hW := sp_w_le (o := false) (f := 0) (s := 0) (v := v') (d := N 0 8) v2 w3 n' N wN (by omega)
    have hW2 : 594 * 10 ^ n' ≤ 594 * 100000000 := Nat.mul_le_mul_left 594 hp10.1
    conv => whnf
    repeat' (first
      | (refine ⟨fun c9 => ?_, fun c9 => ?_⟩ <;> (try simp (disch := omega) only [nI_leI, nI_ltI, nI_eq, nz_eq, nz_lt, nz_gt, nz_le, nz_ge, nz_00, nz_n1, nI_add, pk_mul, pk_sub, nI_shl1, nI_or, nI_half2, nI_min2, la_put_eq, la_up, lr_same, lr_ne, lu_same, lu_ne, not_true_eq_false, not_false_eq_true] at c9) <;> first | (exfalso; omega) | conv => whnf)
      | (refine ⟨_, rfl, by omega, ?_⟩; conv => whnf)
      | (refine ⟨_, rfl, rfl, rfl, by decide, by decide, ?_⟩; conv => whnf)
      | (refine ⟨_, by (simp (disch := omega) only [nI_leI, nI_ltI, nI_eq, nz_eq, nz_lt, nz_gt, nz_le, nz_ge, nz_00, nz_n1, nI_add, pk_mul, pk_sub, nI_shl1, nI_or, nI_half2, nI_min2, la_put_eq, la_up, lr_same, lr_ne, lu_same, lu_ne, not_true_eq_false, not_false_eq_true]; rfl), by omega, ?_⟩; conv => whnf)
      | (refine And.intro (by first | assumption | decide) ?_; conv => whnf))
    all_goals (try simp (disch := omega) only [nI_leI, nI_ltI, nI_eq, nz_eq, nz_lt, nz_gt, nz_le, nz_ge, nz_00, nz_n1, nI_add, pk_mul, pk_sub, nI_shl1, nI_or, nI_half2, nI_min2, la_put_eq, la_up, lr_same, lr_ne, lu_same, lu_ne, not_true_eq_false, not_false_eq_true])
    refine ⟨(1, 0, T, N, _), ⟨rfl, rfl, hT, hN, wT, wN, by decide⟩, fun h'' hq => ?_⟩
    have hq : h'' = la_put h' 1 N := hq
    subst hq
    conv => whnf
    repeat' (first
      | (refine ⟨fun c9 => ?_, fun c9 => ?_⟩ <;> (try simp (disch := omega) only [nI_leI, nI_ltI, nI_eq, nz_eq, nz_lt, nz_gt, nz_le, nz_ge, nz_00, nz_n1, nI_add, pk_mul, pk_sub, nI_shl1, nI_or, nI_half2, nI_min2, la_put_eq, la_up, lr_same, lr_ne, lu_same, lu_ne, not_true_eq_false, not_false_eq_true] at c9) <;> first | (exfalso; omega) | conv => whnf)
      | (refine ⟨_, rfl, by omega, ?_⟩; conv => whnf)
      | (refine ⟨_, rfl, rfl, rfl, by decide, by decide, ?_⟩; conv => whnf)
      | (refine ⟨_, by (simp (disch := omega) only [nI_leI, nI_ltI, nI_eq, nz_eq, nz_lt, nz_gt, nz_le, nz_ge, nz_00, nz_n1, nI_add, pk_mul, pk_sub, nI_shl1, nI_or, nI_half2, nI_min2, la_put_eq, la_up, lr_same, lr_ne, lu_same, lu_ne, not_true_eq_false, not_false_eq_true]; rfl), by omega, ?_⟩; conv => whnf)
      | (refine And.intro (by first | assumption | decide) ?_; conv => whnf))
    all_goals (try simp (disch := omega) only [nI_leI, nI_ltI, nI_eq, nz_eq, nz_lt, nz_gt, nz_le, nz_ge, nz_00, nz_n1, nI_add, pk_mul, pk_sub, nI_shl1, nI_or, nI_half2, nI_min2, la_put_eq, la_up, lr_same, lr_ne, lu_same, lu_ne, not_true_eq_false, not_false_eq_true])
    refine ⟨(n', 0, n', v', false, 0, 0, N, N, _), ⟨rfl, rfl, n2, by omega, n2, v2, by omega, by omega, la_at_ne hN (by decide), la_put_at _ _ _, wN, wN, by omega⟩, fun r h'' hq => ?_⟩
    obtain ⟨rfl, Y, wY, hY5, hYd, hYa, hYf⟩ := hq
    conv => whnf
    repeat' (first
      | (refine ⟨fun c9 => ?_, fun c9 => ?_⟩ <;> (try simp (disch := omega) only [nI_leI, nI_ltI, nI_eq, nz_eq, nz_lt, nz_gt, nz_le, nz_ge, nz_00, nz_n1, nI_add, pk_mul, pk_sub, nI_shl1, nI_or, nI_half2, nI_min2, la_put_eq, la_up, lr_same, lr_ne, lu_same, lu_ne, not_true_eq_false, not_false_eq_true] at c9) <;> first | (exfalso; omega) | conv => whnf)
      | (refine ⟨_, rfl, by omega, ?_⟩; conv => whnf)
      | (refine ⟨_, rfl, rfl, rfl, by decide, by decide, ?_⟩; conv => whnf)
      | (refine ⟨_, by (simp (disch := omega) only [nI_leI, nI_ltI, nI_eq, nz_eq, nz_lt, nz_gt, nz_le, nz_ge, nz_00, nz_n1, nI_add, pk_mul, pk_sub, nI_shl1, nI_or, nI_half2, nI_min2, la_put_eq, la_up, lr_same, lr_ne, lu_same, lu_ne, not_true_eq_false, not_false_eq_true]; rfl), by omega, ?_⟩; conv => whnf)
      | (refine And.intro (by first | assumption | decide) ?_; conv => whnf))
    all_goals (try simp (disch := omega) only [nI_leI, nI_ltI, nI_eq, nz_eq, nz_lt, nz_gt, nz_le, nz_ge, nz_00, nz_n1, nI_add, pk_mul, pk_sub, nI_shl1, nI_or, nI_half2, nI_min2, la_put_eq, la_up, lr_same, lr_ne, lu_same, lu_ne, not_true_eq_false, not_false_eq_true])
    refine ⟨(n', _), ⟨rfl, rfl, n2⟩, fun r h3 hq => ?_⟩
    obtain ⟨rfl, rfl⟩ := hq
    conv => whnf
    repeat' (first
      | (refine ⟨fun c9 => ?_, fun c9 => ?_⟩ <;> (try simp (disch := omega) only [nI_leI, nI_ltI, nI_eq, nz_eq, nz_lt, nz_gt, nz_le, nz_ge, nz_00, nz_n1, nI_add, pk_mul, pk_sub, nI_shl1, nI_or, nI_half2, nI_min2, la_put_eq, la_up, lr_same, lr_ne, lu_same, lu_ne, not_true_eq_false, not_false_eq_true] at c9) <;> first | (exfalso; omega) | conv => whnf)
      | (refine ⟨_, rfl, by omega, ?_⟩; conv => whnf)
      | (refine ⟨_, rfl, rfl, rfl, by decide, by decide, ?_⟩; conv => whnf)
      | (refine ⟨_, by (simp (disch := omega) only [nI_leI, nI_ltI, nI_eq, nz_eq, nz_lt, nz_gt, nz_le, nz_ge, nz_00, nz_n1, nI_add, pk_mul, pk_sub, nI_shl1, nI_or, nI_half2, nI_min2, la_put_eq, la_up, lr_same, lr_ne, lu_same, lu_ne, not_true_eq_false, not_false_eq_true]; rfl), by omega, ?_⟩; conv => whnf)
      | (refine And.intro (by first | assumption | decide) ?_; conv => whnf))
    all_goals (try simp (disch := omega) only [nI_leI, nI_ltI, nI_eq, nz_eq, nz_lt, nz_gt, nz_le, nz_ge, nz_00, nz_n1, nI_add, pk_mul, pk_sub, nI_shl1, nI_or, nI_half2, nI_min2, la_put_eq, la_up, lr_same, lr_ne, lu_same, lu_ne, not_true_eq_false, not_false_eq_true])
    refine ⟨(sp_w false 0 0 v' (N 0 8) n' N, 10 ^ n', w, _), ⟨rfl, rfl, hp10.2, by omega, by omega, ho.2.2⟩, fun r h4 hq => ?_⟩
    obtain ⟨rfl, hr⟩ := hq
    conv => whnf
    repeat' (first
      | (refine ⟨fun c9 => ?_, fun c9 => ?_⟩ <;> (try simp (disch := omega) only [nI_leI, nI_ltI, nI_eq, nz_eq, nz_lt, nz_gt, nz_le, nz_ge, nz_00, nz_n1, nI_add, pk_mul, pk_sub, nI_shl1, nI_or, nI_half2, nI_min2, la_put_eq, la_up, lr_same, lr_ne, lu_same, lu_ne, not_true_eq_false, not_false_eq_true] at c9) <;> first | (exfalso; omega) | conv => whnf)
      | (refine ⟨_, rfl, by omega, ?_⟩; conv => whnf)
      | (refine ⟨_, rfl, rfl, rfl, by decide, by decide, ?_⟩; conv => whnf)
      | (refine ⟨_, by (simp (disch := omega) only [nI_leI, nI_ltI, nI_eq, nz_eq, nz_lt, nz_gt, nz_le, nz_ge, nz_00, nz_n1, nI_add, pk_mul, pk_sub, nI_shl1, nI_or, nI_half2, nI_min2, la_put_eq, la_up, lr_same, lr_ne, lu_same, lu_ne, not_true_eq_false, not_false_eq_true]; rfl), by omega, ?_⟩; conv => whnf)
      | (refine And.intro (by first | assumption | decide) ?_; conv => whnf))
    all_goals (try simp (disch := omega) only [nI_leI, nI_ltI, nI_eq, nz_eq, nz_lt, nz_gt, nz_le, nz_ge, nz_00, nz_n1, nI_add, pk_mul, pk_sub, nI_shl1, nI_or, nI_half2, nI_min2, la_put_eq, la_up, lr_same, lr_ne, lu_same, lu_ne, not_true_eq_false, not_false_eq_true])
    refine hret _ _ ⟨⟨Y, wY, hYa, fun c i s j q1 q2 q3 => by rw [hYf c i s j q1 (by omega), la_put_ne q1]⟩, ?_⟩
    rw [a_mean, cl_t ho, ixv_nI (by omega), ixv_nI (by omega), frac]
    rcases hr with ⟨rfl, rfl⟩ | ⟨rfl, rfl⟩
    · rw [if_pos rfl]
    · rw [if_neg (by decide +kernel)]
  · conv => whnf
    repeat' (first
      | (refine ⟨fun c9 => ?_, fun c9 => ?_⟩ <;> (try simp (disch := omega) only [nI_leI, nI_ltI, nI_eq, nz_eq, nz_lt, nz_gt, nz_le, nz_ge, nz_00, nz_n1, nI_add, pk_mul, pk_sub, nI_shl1, nI_or, nI_half2, nI_min2, la_put_eq, la_up, lr_same, lr_ne, lu_same, lu_ne, not_true_eq_false, not_false_eq_true] at c9) <;> first | (exfalso; omega) | conv => whnf)
      | (refine ⟨_, rfl, by omega, ?_⟩; conv => whnf)
      | (refine ⟨_, rfl, rfl, rfl, by decide, by decide, ?_⟩; conv => whnf)
      | (refine ⟨_, by (simp (disch := omega) only [nI_leI, nI_ltI, nI_eq, nz_eq, nz_lt, nz_gt, nz_le, nz_ge, nz_00, nz_n1, nI_add, pk_mul, pk_sub, nI_shl1, nI_or, nI_half2, nI_min2, la_put_eq, la_up, lr_same, lr_ne, lu_same, lu_ne, not_true_eq_false, not_false_eq_true]; rfl), by omega, ?_⟩; conv => whnf)
      | (refine And.intro (by first | assumption | decide) ?_; conv => whnf))
    all_goals (try simp (disch := omega) only [nI_leI, nI_ltI, nI_eq, nz_eq, nz_lt, nz_gt, nz_le, nz_ge, nz_00, nz_n1, nI_add, pk_mul, pk_sub, nI_shl1, nI_or, nI_half2, nI_min2, la_put_eq, la_up, lr_same, lr_ne, lu_same, lu_ne, not_true_eq_false, not_false_eq_true])
    refine hret _ _ ⟨tf2_of (tf_self hT wT), ?_⟩
    rw [a_mean, cl_f hc]
theorem M_X4_mean : pm_MT yX4_mean cX4_mean 4 2 14 P_X4_mean (pm_pl2 Q_X4_mean) := pm_met k_X4_mean (by decide) rfl (by
  rintro ⟨g0, g1, g2, g3, g4, g5⟩ av h hp
  rw [hp.1]
  exact Nat.le_of_ble_eq_true rfl) pf_X4_mean
theorem rc_X4_mean : ∀ g av h, P_X4_mean g av h → ∃ i t, av = .inr (.inr (4, i, 0)) :: t := by
  rintro ⟨g0, g1, g2, g3, g4, g5⟩ av h hp
  exact ⟨_, _, hp.1⟩
