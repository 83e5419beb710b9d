/-! BiscuitLore: tape, numbers, days, seen, images, sheets. -/
theorem nI_b {k : Nat} (h : k ≤ 127) : (nI k).toInt8.toInt32 = nI k := by
  have key : ∀ k : Fin 128, (nI k.val).toInt8.toInt32 = nI k.val := by decide +kernel
  exact key ⟨k, by omega⟩
def P_X4_feed : Int32 × Nat × pm_H → List pm_V → pm_H → Prop := fun g av h => match g with
  | (c, n, h0) => av = [vR 4 0 0, vI c] ∧ h = h0 ∧ h0 3 0 0 1 = nI n ∧ n ≤ 160
def Q_X4_feed : Int32 × Nat × pm_H → Int32 → pm_H → Prop := fun g r h => match g with
  | (c, n, h0) => (∃ k, k ≤ 127 ∧ c = nI k ∧ ((n < 160 ∧ r = nI (n + 1) ∧ h = pm_up (pm_up h0 3 0 1 n (nI k)) 3 0 0 1 (nI (n + 1))) ∨ (160 ≤ n ∧ r = -3 ∧ h = h0))) ∨ (¬ wi c 0 127 ∧ r = -1 ∧ h = h0)
def T_X4_feed : List (Nat × pm_T) := [
  (0, i_il 1 1),
  (1, i_c (nI 0) 2),
  (2, i_c (nI 127) 4),
  (4, i_ci 3 P_X4_within Q_X4_within 7),
  (7, i_ifne 12 10),
  (10, i_c (-1) 11),
  (11, i_ir),
  (12, i_al 0 13),
  (13, i_gr 4 (fun _ => (3, 0, 0)) 16),
  (16, i_gi 3 1 19),
  (19, i_c (nI 160) 22),
  (22, i_iclt 28 25),
  (25, i_c (-3) 27),
  (27, i_ir),
  (28, i_al 0 29),
  (29, i_gr 4 (fun _ => (3, 0, 0)) 32),
  (32, i_gr 3 (fun i => (3, i, 1)) 35),
  (35, i_al 0 36),
  (36, i_gr 4 (fun _ => (3, 0, 0)) 39),
  (39, i_gi 3 1 42),
  (42, i_il 1 43),
  (43, i_i2b 44),
  (44, i_bas 45),
  (45, i_al 0 46),
  (46, i_gr 4 (fun _ => (3, 0, 0)) 49),
  (49, i_dup 50),
  (50, i_gi 3 1 53),
  (53, i_c (nI 1) 54),
  (54, i_iadd 55),
  (55, i_pi 3 1 58),
  (58, i_al 0 59),
  (59, i_gr 4 (fun _ => (3, 0, 0)) 62),
  (62, i_gi 3 1 65),
  (65, i_ir)]
theorem k_X4_feed : ∀ q ∈ T_X4_feed, pm_sd RX4 cX4_feed 2 3 1 q.1 q.2 := by
  unfold T_X4_feed
  refine pm_cn (sd_iln (k := 1) (by decide +kernel) rfl rfl) ?_
  refine pm_cn (sd_iconst (z := 0) (by decide +kernel) (by decide +kernel) rfl) ?_
  refine pm_cn (sd_bipush (z := 127) (by decide +kernel) (by decide +kernel) rfl) ?_
  refine pm_cn (sd_cis M_X4_within (by decide) cd_X4_within ml_X4_57 st_X4_within nt_X4 (by decide +kernel) (by omega) (by decide) (by decide +kernel) rfl) ?_
  refine pm_cn (sd_ifne (off := 5) (by decide +kernel) (by decide) rfl) ?_
  refine pm_cn (sd_iconst (z := -1) (by decide +kernel) (by decide +kernel) rfl) ?_
  refine pm_cn (sd_ir (by decide +kernel)) ?_
  refine pm_cn (sd_aln (k := 0) (by decide +kernel) rfl rfl) ?_
  refine pm_cn (sd_gr cl4_ in4_ (j := 0) (by decide) (fun _ => rfl) fl_X4_10 (by decide +kernel) rfl) ?_
  refine pm_cn (sd_gi cl3_ in3_ (by decide) (fun _ => rfl) fl_X4_61 (by decide +kernel) rfl) ?_
  refine pm_cn (sd_sipush (z := 160) (by decide +kernel) (by decide +kernel) rfl) ?_
  refine pm_cn (sd_iclt (off := 6) (by decide +kernel) (by decide) rfl) ?_
  refine pm_cn (sd_bipush (z := -3) (by decide +kernel) (by decide +kernel) rfl) ?_
  refine pm_cn (sd_ir (by decide +kernel)) ?_
  refine pm_cn (sd_aln (k := 0) (by decide +kernel) rfl rfl) ?_
  refine pm_cn (sd_gr cl4_ in4_ (j := 0) (by decide) (fun _ => rfl) fl_X4_10 (by decide +kernel) rfl) ?_
  refine pm_cn (sd_gr cl3_ in3_ (j := 0) (by decide) (fun _ => rfl) fl_X4_65 (by decide +kernel) rfl) ?_
  refine pm_cn (sd_aln (k := 0) (by decide +kernel) rfl rfl) ?_
  refine pm_cn (sd_gr cl4_ in4_ (j := 0) (by decide) (fun _ => rfl) fl_X4_10 (by decide +kernel) rfl) ?_
  refine pm_cn (sd_gi cl3_ in3_ (by decide) (fun _ => rfl) fl_X4_61 (by decide +kernel) rfl) ?_
  refine pm_cn (sd_iln (k := 1) (by decide +kernel) rfl rfl) ?_
  refine pm_cn (sd_i2b (by decide +kernel) rfl) ?_
  refine pm_cn (sd_bas (by decide +kernel) rfl) ?_
  refine pm_cn (sd_aln (k := 0) (by decide +kernel) rfl rfl) ?_
  refine pm_cn (sd_gr cl4_ in4_ (j := 0) (by decide) (fun _ => rfl) fl_X4_10 (by decide +kernel) rfl) ?_
  refine pm_cn (sd_dup (by decide +kernel) rfl) ?_
  refine pm_cn (sd_gi cl3_ in3_ (by decide) (fun _ => rfl) fl_X4_61 (by decide +kernel) rfl) ?_
  refine pm_cn (sd_iconst (z := 1) (by decide +kernel) (by decide +kernel) rfl) ?_
  refine pm_cn (sd_iadd (by decide +kernel) rfl) ?_
  refine pm_cn (sd_pi cl3_ in3_ tyX3 tyX3_ok nmX3 (by decide) (fun _ => rfl) rfl rfl fl_X4_61 (by decide +kernel) rfl) ?_
  refine pm_cn (sd_aln (k := 0) (by decide +kernel) rfl rfl) ?_
  refine pm_cn (sd_gr cl4_ in4_ (j := 0) (by decide) (fun _ => rfl) fl_X4_10 (by decide +kernel) rfl) ?_
  refine pm_cn (sd_gi cl3_ in3_ (by decide) (fun _ => rfl) fl_X4_61 (by decide +kernel) rfl) ?_
  refine pm_cn (sd_ir (by decide +kernel)) ?_
  exact fun _ h => absurd h List.not_mem_nil
set_option maxHeartbeats 4000000 in
set_option maxRecDepth 100000 in
theorem pf_X4_feed : pm_pf T_X4_feed P_X4_feed (pm_pi Q_X4_feed) := by
  rintro ⟨c, n, h0⟩ av h K hK ⟨rfl, rfl, hn, hb⟩ hret
  show K (some 0) ([(0, vR 4 0 0), (1, vI c)], [], h)
  refine hK [] 60 _ _ ?_
  conv => whnf
  repeat' (first
    | (refine ⟨fun c9 => ?_, fun c9 => ?_⟩ <;> (try simp (disch := omega) only [nI_leI, nI_ltI, nI_eq, nz_eq, nz_lt, nz_gt, nz_le, nz_ge, nz_00, nz_n1, nI_add, pk_mul, pk_sub, nI_shl1, nI_or, nI_half2, nI_min2, la_put_eq, la_up, lr_same, lr_ne, lu_same, lu_ne, not_true_eq_false, not_false_eq_true] at c9) <;> first | (exfalso; omega) | conv => whnf)
    | (refine ⟨_, rfl, by omega, ?_⟩; conv => whnf)
    | (refine ⟨_, rfl, rfl, rfl, by decide, by decide, ?_⟩; conv => whnf)
    | (refine ⟨_, by (simp (disch := omega) only [nI_leI, nI_ltI, nI_eq, nz_eq, nz_lt, nz_gt, nz_le, nz_ge, nz_00, nz_n1, nI_add, pk_mul, pk_sub, nI_shl1, nI_or, nI_half2, nI_min2, la_put_eq, la_up, lr_same, lr_ne, lu_same, lu_ne, not_true_eq_false, not_false_eq_true]; rfl), by omega, ?_⟩; conv => whnf)
    | (refine And.intro (by first | assumption | decide) ?_; conv => whnf))
  all_goals (try simp (disch := omega) only [nI_leI, nI_ltI, nI_eq, nz_eq, nz_lt, nz_gt, nz_le, nz_ge, nz_00, nz_n1, nI_add, pk_mul, pk_sub, nI_shl1, nI_or, nI_half2, nI_min2, la_put_eq, la_up, lr_same, lr_ne, lu_same, lu_ne, not_true_eq_false, not_false_eq_true])
  refine ⟨(c, nI 0, nI 127, h), ⟨rfl, rfl⟩, fun v h' hq => ?_⟩
  obtain ⟨rfl, ⟨⟨k, h1, h2, rfl⟩, rfl⟩ | ⟨hc, rfl⟩⟩ := Q_within (by decide) (by decide) hq
  · conv => whnf
    repeat' (first
      | (refine ⟨fun c9 => ?_, fun c9 => ?_⟩ <;> (try simp (disch := omega) only [nI_leI, nI_ltI, nI_eq, nz_eq, nz_lt, nz_gt, nz_le, nz_ge, nz_00, nz_n1, nI_add, pk_mul, pk_sub, nI_shl1, nI_or, nI_half2, nI_min2, la_put_eq, la_up, lr_same, lr_ne, lu_same, lu_ne, not_true_eq_false, not_false_eq_true, hn, pm_up_ne, pm_up_eq, nI_b] at c9) <;> first | (exfalso; omega) | conv => whnf)
      | (refine ⟨_, rfl, by omega, ?_⟩; conv => whnf)
      | (refine ⟨_, rfl, rfl, rfl, by decide, by decide, ?_⟩; conv => whnf)
      | (refine ⟨_, by (simp (disch := omega) only [nI_leI, nI_ltI, nI_eq, nz_eq, nz_lt, nz_gt, nz_le, nz_ge, nz_00, nz_n1, nI_add, pk_mul, pk_sub, nI_shl1, nI_or, nI_half2, nI_min2, la_put_eq, la_up, lr_same, lr_ne, lu_same, lu_ne, not_true_eq_false, not_false_eq_true, hn, pm_up_ne, pm_up_eq, nI_b]; rfl), by omega, ?_⟩; conv => whnf)
      | (refine And.intro (by first | assumption | decide) ?_; conv => whnf))
    all_goals (try simp (disch := omega) only [nI_leI, nI_ltI, nI_eq, nz_eq, nz_lt, nz_gt, nz_le, nz_ge, nz_00, nz_n1, nI_add, pk_mul, pk_sub, nI_shl1, nI_or, nI_half2, nI_min2, la_put_eq, la_up, lr_same, lr_ne, lu_same, lu_ne, not_true_eq_false, not_false_eq_true, hn, pm_up_ne, pm_up_eq, nI_b])
    · refine hret _ _ ?_
      exact Or.inl ⟨k, h2, rfl, Or.inl ⟨by omega, rfl, rfl⟩⟩
    · refine hret _ _ ?_
      exact Or.inl ⟨k, h2, rfl, Or.inr ⟨by omega, rfl, rfl⟩⟩
  · conv => whnf
    repeat' (first
      | (refine ⟨fun c9 => ?_, fun c9 => ?_⟩ <;> (try simp (disch := omega) only [nI_leI, nI_ltI, nI_eq, nz_eq, nz_lt, nz_gt, nz_le, nz_ge, nz_00, nz_n1, nI_add, pk_mul, pk_sub, nI_shl1, nI_or, nI_half2, nI_min2, la_put_eq, la_up, lr_same, lr_ne, lu_same, lu_ne, not_true_eq_false, not_false_eq_true] at c9) <;> first | (exfalso; omega) | conv => whnf)
      | (refine ⟨_, rfl, by omega, ?_⟩; conv => whnf)
      | (refine ⟨_, rfl, rfl, rfl, by decide, by decide, ?_⟩; conv => whnf)
      | (refine ⟨_, by (simp (disch := omega) only [nI_leI, nI_ltI, nI_eq, nz_eq, nz_lt, nz_gt, nz_le, nz_ge, nz_00, nz_n1, nI_add, pk_mul, pk_sub, nI_shl1, nI_or, nI_half2, nI_min2, la_put_eq, la_up, lr_same, lr_ne, lu_same, lu_ne, not_true_eq_false, not_false_eq_true]; rfl), by omega, ?_⟩; conv => whnf)
      | (refine And.intro (by first | assumption | decide) ?_; conv => whnf))
    all_goals (try simp (disch := omega) only [nI_leI, nI_ltI, nI_eq, nz_eq, nz_lt, nz_gt, nz_le, nz_ge, nz_00, nz_n1, nI_add, pk_mul, pk_sub, nI_shl1, nI_or, nI_half2, nI_min2, la_put_eq, la_up, lr_same, lr_ne, lu_same, lu_ne, not_true_eq_false, not_false_eq_true])
    refine hret _ _ ?_
    exact Or.inr ⟨hc, rfl, rfl⟩
theorem M_X4_feed : pm_MT yX4_feed cX4_feed 2 1 3 P_X4_feed (pm_pi Q_X4_feed) := pm_met k_X4_feed (by decide) rfl (by
  rintro ⟨g0, g1, g2⟩ av h hp
  rw [hp.1]
  exact Nat.le_of_ble_eq_true rfl) pf_X4_feed
theorem rc_X4_feed : ∀ g av h, P_X4_feed g av h → ∃ i t, av = .inr (.inr (4, i, 0)) :: t := by
  rintro ⟨g0, g1, g2⟩ av h hp
  exact ⟨_, _, hp.1⟩
def P_X4_end : Int32 × Nat × pm_H → List pm_V → pm_H → Prop := fun g av h => match g with
  | (c, n, h0) => av = [vR 4 0 0, vI c] ∧ h = h0 ∧ h0 3 0 0 1 = nI n ∧ n ≤ 160
def Q_X4_end : Int32 × Nat × pm_H → Int32 → pm_H → Prop := fun g r h => match g with
  | (c, n, h0) => (∃ k, k ≤ n ∧ c = nI k ∧ r = nI n ∧ h = pm_up h0 3 0 0 1 (nI k)) ∨ (¬ wi c 0 n ∧ r = -1 ∧ h = h0)
def T_X4_end : List (Nat × pm_T) := [
  (0, i_il 1 1),
  (1, i_c (nI 0) 2),
  (2, i_al 0 3),
  (3, i_gr 4 (fun _ => (3, 0, 0)) 6),
  (6, i_gi 3 1 9),
  (9, i_ci 3 P_X4_within Q_X4_within 12),
  (12, i_ifne 17 15),
  (15, i_c (-1) 16),
  (16, i_ir),
  (17, i_al 0 18),
  (18, i_gr 4 (fun _ => (3, 0, 0)) 21),
  (21, i_gi 3 1 24),
  (24, i_is 2 25),
  (25, i_al 0 26),
  (26, i_gr 4 (fun _ => (3, 0, 0)) 29),
  (29, i_il 1 30),
  (30, i_pi 3 1 33),
  (33, i_il 2 34),
  (34, i_ir)]
theorem k_X4_end : ∀ q ∈ T_X4_end, pm_sd RX4 cX4_end 3 3 1 q.1 q.2 := by
  unfold T_X4_end
  refine pm_cn (sd_iln (k := 1) (by decide +kernel) rfl rfl) ?_
  refine pm_cn (sd_iconst (z := 0) (by decide +kernel) (by decide +kernel) rfl) ?_
  refine pm_cn (sd_aln (k := 0) (by decide +kernel) rfl rfl) ?_
  refine pm_cn (sd_gr cl4_ in4_ (j := 0) (by decide) (fun _ => rfl) fl_X4_10 (by decide +kernel) rfl) ?_
  refine pm_cn (sd_gi cl3_ in3_ (by decide) (fun _ => rfl) fl_X4_61 (by decide +kernel) rfl) ?_
  refine pm_cn (sd_cis M_X4_within (by decide) cd_X4_within ml_X4_57 st_X4_within nt_X4 (by decide +kernel) (by omega) (by decide) (by decide +kernel) rfl) ?_
  refine pm_cn (sd_ifne (off := 5) (by decide +kernel) (by decide) rfl) ?_
  refine pm_cn (sd_iconst (z := -1) (by decide +kernel) (by decide +kernel) rfl) ?_
  refine pm_cn (sd_ir (by decide +kernel)) ?_
  refine pm_cn (sd_aln (k := 0) (by decide +kernel) rfl rfl) ?_
  refine pm_cn (sd_gr cl4_ in4_ (j := 0) (by decide) (fun _ => rfl) fl_X4_10 (by decide +kernel) rfl) ?_
  refine pm_cn (sd_gi cl3_ in3_ (by decide) (fun _ => rfl) fl_X4_61 (by decide +kernel) rfl) ?_
  refine pm_cn (sd_isn (k := 2) (by decide +kernel) rfl rfl (by decide)) ?_
  refine pm_cn (sd_aln (k := 0) (by decide +kernel) rfl rfl) ?_
  refine pm_cn (sd_gr cl4_ in4_ (j := 0) (by decide) (fun _ => rfl) fl_X4_10 (by decide +kernel) rfl) ?_
  refine pm_cn (sd_iln (k := 1) (by decide +kernel) rfl rfl) ?_
  refine pm_cn (sd_pi cl3_ in3_ tyX3 tyX3_ok nmX3 (by decide) (fun _ => rfl) rfl rfl fl_X4_61 (by decide +kernel) rfl) ?_
  refine pm_cn (sd_iln (k := 2) (by decide +kernel) rfl rfl) ?_
  refine pm_cn (sd_ir (by decide +kernel)) ?_
  exact fun _ h => absurd h List.not_mem_nil
set_option maxHeartbeats 4000000 in
set_option maxRecDepth 100000 in
theorem pf_X4_end : pm_pf T_X4_end P_X4_end (pm_pi Q_X4_end) := by
  rintro ⟨c, n, h0⟩ av h K hK ⟨rfl, rfl, hn, hb⟩ hret
  show K (some 0) ([(0, vR 4 0 0), (1, vI c)], [], h)
  refine hK [] 60 _ _ ?_
  conv => whnf
  repeat' (first
    | (refine ⟨fun c9 => ?_, fun c9 => ?_⟩ <;> (try simp (disch := omega) only [nI_leI, nI_ltI, nI_eq, nz_eq, nz_lt, nz_gt, nz_le, nz_ge, nz_00, nz_n1, nI_add, pk_mul, pk_sub, nI_shl1, nI_or, nI_half2, nI_min2, la_put_eq, la_up, lr_same, lr_ne, lu_same, lu_ne, not_true_eq_false, not_false_eq_true, hn] at c9) <;> first | (exfalso; omega) | conv => whnf)
    | (refine ⟨_, rfl, by omega, ?_⟩; conv => whnf)
    | (refine ⟨_, rfl, rfl, rfl, by decide, by decide, ?_⟩; conv => whnf)
    | (refine ⟨_, by (simp (disch := omega) only [nI_leI, nI_ltI, nI_eq, nz_eq, nz_lt, nz_gt, nz_le, nz_ge, nz_00, nz_n1, nI_add, pk_mul, pk_sub, nI_shl1, nI_or, nI_half2, nI_min2, la_put_eq, la_up, lr_same, lr_ne, lu_same, lu_ne, not_true_eq_false, not_false_eq_true, hn]; rfl), by omega, ?_⟩; conv => whnf)
    | (refine And.intro (by first | assumption | decide) ?_; conv => whnf))
  all_goals (try simp (disch := omega) only [nI_leI, nI_ltI, nI_eq, nz_eq, nz_lt, nz_gt, nz_le, nz_ge, nz_00, nz_n1, nI_add, pk_mul, pk_sub, nI_shl1, nI_or, nI_half2, nI_min2, la_put_eq, la_up, lr_same, lr_ne, lu_same, lu_ne, not_true_eq_false, not_false_eq_true, hn])
  refine ⟨(c, nI 0, nI n, h), ⟨rfl, rfl⟩, fun v h' hq => ?_⟩
  obtain ⟨rfl, ⟨⟨k, h1, h2, rfl⟩, rfl⟩ | ⟨hc, rfl⟩⟩ := Q_within (by decide) (by omega) hq
  · conv => whnf
    repeat' (first
      | (refine ⟨fun c9 => ?_, fun c9 => ?_⟩ <;> (try simp (disch := omega) only [nI_leI, nI_ltI, nI_eq, nz_eq, nz_lt, nz_gt, nz_le, nz_ge, nz_00, nz_n1, nI_add, pk_mul, pk_sub, nI_shl1, nI_or, nI_half2, nI_min2, la_put_eq, la_up, lr_same, lr_ne, lu_same, lu_ne, not_true_eq_false, not_false_eq_true, hn] at c9) <;> first | (exfalso; omega) | conv => whnf)
      | (refine ⟨_, rfl, by omega, ?_⟩; conv => whnf)
      | (refine ⟨_, rfl, rfl, rfl, by decide, by decide, ?_⟩; conv => whnf)
      | (refine ⟨_, by (simp (disch := omega) only [nI_leI, nI_ltI, nI_eq, nz_eq, nz_lt, nz_gt, nz_le, nz_ge, nz_00, nz_n1, nI_add, pk_mul, pk_sub, nI_shl1, nI_or, nI_half2, nI_min2, la_put_eq, la_up, lr_same, lr_ne, lu_same, lu_ne, not_true_eq_false, not_false_eq_true, hn]; rfl), by omega, ?_⟩; conv => whnf)
      | (refine And.intro (by first | assumption | decide) ?_; conv => whnf))
    all_goals (try simp (disch := omega) only [nI_leI, nI_ltI, nI_eq, nz_eq, nz_lt, nz_gt, nz_le, nz_ge, nz_00, nz_n1, nI_add, pk_mul, pk_sub, nI_shl1, nI_or, nI_half2, nI_min2, la_put_eq, la_up, lr_same, lr_ne, lu_same, lu_ne, not_true_eq_false, not_false_eq_true, hn])
    refine hret _ _ ?_
    exact Or.inl ⟨k, h2, rfl, rfl, rfl⟩
  · conv => whnf
    repeat' (first
      | (refine ⟨fun c9 => ?_, fun c9 => ?_⟩ <;> (try simp (disch := omega) only [nI_leI, nI_ltI, nI_eq, nz_eq, nz_lt, nz_gt, nz_le, nz_ge, nz_00, nz_n1, nI_add, pk_mul, pk_sub, nI_shl1, nI_or, nI_half2, nI_min2, la_put_eq, la_up, lr_same, lr_ne, lu_same, lu_ne, not_true_eq_false, not_false_eq_true] at c9) <;> first | (exfalso; omega) | conv => whnf)
      | (refine ⟨_, rfl, by omega, ?_⟩; conv => whnf)
      | (refine ⟨_, rfl, rfl, rfl, by decide, by decide, ?_⟩; conv => whnf)
      | (refine ⟨_, by (simp (disch := omega) only [nI_leI, nI_ltI, nI_eq, nz_eq, nz_lt, nz_gt, nz_le, nz_ge, nz_00, nz_n1, nI_add, pk_mul, pk_sub, nI_shl1, nI_or, nI_half2, nI_min2, la_put_eq, la_up, lr_same, lr_ne, lu_same, lu_ne, not_true_eq_false, not_false_eq_true]; rfl), by omega, ?_⟩; conv => whnf)
      | (refine And.intro (by first | assumption | decide) ?_; conv => whnf))
    all_goals (try simp (disch := omega) only [nI_leI, nI_ltI, nI_eq, nz_eq, nz_lt, nz_gt, nz_le, nz_ge, nz_00, nz_n1, nI_add, pk_mul, pk_sub, nI_shl1, nI_or, nI_half2, nI_min2, la_put_eq, la_up, lr_same, lr_ne, lu_same, lu_ne, not_true_eq_false, not_false_eq_true])
    refine hret _ _ ?_
    exact Or.inr ⟨hc, rfl, rfl⟩
theorem M_X4_end : pm_MT yX4_end cX4_end 3 1 3 P_X4_end (pm_pi Q_X4_end) := pm_met k_X4_end (by decide) rfl (by
  rintro ⟨g0, g1, g2⟩ av h hp
  rw [hp.1]
  exact Nat.le_of_ble_eq_true rfl) pf_X4_end
theorem rc_X4_end : ∀ g av h, P_X4_end g av h → ∃ i t, av = .inr (.inr (4, i, 0)) :: t := by
  rintro ⟨g0, g1, g2⟩ av h hp
  exact ⟨_, _, hp.1⟩
def P_X4_fault : pm_H → List pm_V → pm_H → Prop := fun h0 av h => av = [vR 4 0 0] ∧ h = h0
def Q_X4_fault : pm_H → Int32 → pm_H → Prop := fun h0 r h => h = h0 ∧ r = h0 3 0 0 2
def T_X4_fault : List (Nat × pm_T) := [
  (0, i_al 0 1),
  (1, i_gr 4 (fun _ => (3, 0, 0)) 4),
  (4, i_gi 3 2 7),
  (7, i_ir)]
theorem k_X4_fault : ∀ q ∈ T_X4_fault, pm_sd RX4 cX4_fault 1 3 1 q.1 q.2 := by
  unfold T_X4_fault
  refine pm_cn (sd_aln (k := 0) (by decide +kernel) rfl rfl) ?_
  refine pm_cn (sd_gr cl4_ in4_ (j := 0) (by decide) (fun _ => rfl) fl_X4_10 (by decide +kernel) rfl) ?_
  refine pm_cn (sd_gi cl3_ in3_ (by decide) (fun _ => rfl) fl_X4_86 (by decide +kernel) rfl) ?_
  refine pm_cn (sd_ir (by decide +kernel)) ?_
  exact fun _ h => absurd h List.not_mem_nil
set_option maxHeartbeats 4000000 in
set_option maxRecDepth 100000 in
theorem pf_X4_fault : pm_pf T_X4_fault P_X4_fault (pm_pi Q_X4_fault) := by
  rintro h0 av h K hK ⟨rfl, rfl⟩ hret
  show K (some 0) ([(0, vR 4 0 0)], [], h)
  refine hK [] 60 _ _ ?_
  conv => whnf
  repeat' (first
    | (refine ⟨fun c9 => ?_, fun c9 => ?_⟩ <;> (try simp (disch := omega) only [nI_leI, nI_ltI, nI_eq, nz_eq, nz_lt, nz_gt, nz_le, nz_ge, nz_00, nz_n1, nI_add, pk_mul, pk_sub, nI_shl1, nI_or, nI_half2, nI_min2, la_put_eq, la_up, lr_same, lr_ne, lu_same, lu_ne, not_true_eq_false, not_false_eq_true] at c9) <;> first | (exfalso; omega) | conv => whnf)
    | (refine ⟨_, rfl, by omega, ?_⟩; conv => whnf)
    | (refine ⟨_, rfl, rfl, rfl, by decide, by decide, ?_⟩; conv => whnf)
    | (refine ⟨_, by (simp (disch := omega) only [nI_leI, nI_ltI, nI_eq, nz_eq, nz_lt, nz_gt, nz_le, nz_ge, nz_00, nz_n1, nI_add, pk_mul, pk_sub, nI_shl1, nI_or, nI_half2, nI_min2, la_put_eq, la_up, lr_same, lr_ne, lu_same, lu_ne, not_true_eq_false, not_false_eq_true]; rfl), by omega, ?_⟩; conv => whnf)
    | (refine And.intro (by first | assumption | decide) ?_; conv => whnf))
  all_goals (try simp (disch := omega) only [nI_leI, nI_ltI, nI_eq, nz_eq, nz_lt, nz_gt, nz_le, nz_ge, nz_00, nz_n1, nI_add, pk_mul, pk_sub, nI_shl1, nI_or, nI_half2, nI_min2, la_put_eq, la_up, lr_same, lr_ne, lu_same, lu_ne, not_true_eq_false, not_false_eq_true])
  exact hret _ _ ⟨rfl, rfl⟩
theorem M_X4_fault : pm_MT yX4_fault cX4_fault 1 1 3 P_X4_fault (pm_pi Q_X4_fault) := pm_met k_X4_fault (by decide) rfl (by
  rintro g0 av h hp
  rw [hp.1]
  exact Nat.le_of_ble_eq_true rfl) pf_X4_fault
theorem rc_X4_fault : ∀ g av h, P_X4_fault g av h → ∃ i t, av = .inr (.inr (4, i, 0)) :: t := by
  rintro g0 av h hp
  exact ⟨_, _, hp.1⟩
def P_X4_torn : pm_H → List pm_V → pm_H → Prop := fun h0 av h => av = [vR 4 0 0] ∧ h = h0
def Q_X4_torn : pm_H → Int32 → pm_H → Prop := fun h0 r h => h = h0 ∧ r = h0 4 0 0 9
def T_X4_torn : List (Nat × pm_T) := [
  (0, i_al 0 1),
  (1, i_gi 4 9 4),
  (4, i_ir)]
theorem k_X4_torn : ∀ q ∈ T_X4_torn, pm_sd RX4 cX4_torn 1 3 1 q.1 q.2 := by
  unfold T_X4_torn
  refine pm_cn (sd_aln (k := 0) (by decide +kernel) rfl rfl) ?_
  refine pm_cn (sd_gi cl4_ in4_ (by decide) (fun _ => rfl) fl_X4_257 (by decide +kernel) rfl) ?_
  refine pm_cn (sd_ir (by decide +kernel)) ?_
  exact fun _ h => absurd h List.not_mem_nil
set_option maxHeartbeats 4000000 in
set_option maxRecDepth 100000 in
theorem pf_X4_torn : pm_pf T_X4_torn P_X4_torn (pm_pi Q_X4_torn) := by
  rintro h0 av h K hK ⟨rfl, rfl⟩ hret
  show K (some 0) ([(0, vR 4 0 0)], [], h)
  refine hK [] 60 _ _ ?_
  conv => whnf
  repeat' (first
    | (refine ⟨fun c9 => ?_, fun c9 => ?_⟩ <;> (try simp (disch := omega) only [nI_leI, nI_ltI, nI_eq, nz_eq, nz_lt, nz_gt, nz_le, nz_ge, nz_00, nz_n1, nI_add, pk_mul, pk_sub, nI_shl1, nI_or, nI_half2, nI_min2, la_put_eq, la_up, lr_same, lr_ne, lu_same, lu_ne, not_true_eq_false, not_false_eq_true] at c9) <;> first | (exfalso; omega) | conv => whnf)
    | (refine ⟨_, rfl, by omega, ?_⟩; conv => whnf)
    | (refine ⟨_, rfl, rfl, rfl, by decide, by decide, ?_⟩; conv => whnf)
    | (refine ⟨_, by (simp (disch := omega) only [nI_leI, nI_ltI, nI_eq, nz_eq, nz_lt, nz_gt, nz_le, nz_ge, nz_00, nz_n1, nI_add, pk_mul, pk_sub, nI_shl1, nI_or, nI_half2, nI_min2, la_put_eq, la_up, lr_same, lr_ne, lu_same, lu_ne, not_true_eq_false, not_false_eq_true]; rfl), by omega, ?_⟩; conv => whnf)
    | (refine And.intro (by first | assumption | decide) ?_; conv => whnf))
  all_goals (try simp (disch := omega) only [nI_leI, nI_ltI, nI_eq, nz_eq, nz_lt, nz_gt, nz_le, nz_ge, nz_00, nz_n1, nI_add, pk_mul, pk_sub, nI_shl1, nI_or, nI_half2, nI_min2, la_put_eq, la_up, lr_same, lr_ne, lu_same, lu_ne, not_true_eq_false, not_false_eq_true])
  exact hret _ _ ⟨rfl, rfl⟩
theorem M_X4_torn : pm_MT yX4_torn cX4_torn 1 1 3 P_X4_torn (pm_pi Q_X4_torn) := pm_met k_X4_torn (by decide) rfl (by
  rintro g0 av h hp
  rw [hp.1]
  exact Nat.le_of_ble_eq_true rfl) pf_X4_torn
theorem rc_X4_torn : ∀ g av h, P_X4_torn g av h → ∃ i t, av = .inr (.inr (4, i, 0)) :: t := by
  rintro g0 av h hp
  exact ⟨_, _, hp.1⟩
def P_X4_damp : Int32 × LD × pm_H → List pm_V → pm_H → Prop := fun g av h => match g with
  | (v, N, h0) => av = [vR 4 0 0, vI v] ∧ h = h0 ∧ la_at h0 0 N
def Q_X4_damp : Int32 × LD × pm_H → Int32 → pm_H → Prop := fun g r h => match g with
  | (v, N, h0) => (∃ k, 0 ≤ k ∧ k ≤ 9 ∧ v = nI k ∧ r = nI (N 0 8) ∧ h = la_put h0 0 (lu N 0 8 k)) ∨ (¬ wi v 0 9 ∧ r = -1 ∧ h = h0)
def T_X4_damp : List (Nat × pm_T) := [
  (0, i_il 1 1),
  (1, i_c (nI 0) 2),
  (2, i_c (nI 9) 4),
  (4, i_ci 3 P_X4_within Q_X4_within 7),
  (7, i_ifne 12 10),
  (10, i_c (-1) 11),
  (11, i_ir),
  (12, i_al 0 13),
  (13, i_gr 4 (fun _ => (0, 0, 0)) 16),
  (16, i_gi 0 8 19),
  (19, i_is 2 20),
  (20, i_al 0 21),
  (21, i_gr 4 (fun _ => (0, 0, 0)) 24),
  (24, i_il 1 25),
  (25, i_pi 0 8 28),
  (28, i_il 2 29),
  (29, i_ir)]
theorem k_X4_damp : ∀ q ∈ T_X4_damp, pm_sd RX4 cX4_damp 3 3 1 q.1 q.2 := by
  unfold T_X4_damp
  refine pm_cn (sd_iln (k := 1) (by decide +kernel) rfl rfl) ?_
  refine pm_cn (sd_iconst (z := 0) (by decide +kernel) (by decide +kernel) rfl) ?_
  refine pm_cn (sd_bipush (z := 9) (by decide +kernel) (by decide +kernel) rfl) ?_
  refine pm_cn (sd_cis M_X4_within (by decide) cd_X4_within ml_X4_57 st_X4_within nt_X4 (by decide +kernel) (by omega) (by decide) (by decide +kernel) rfl) ?_
  refine pm_cn (sd_ifne (off := 5) (by decide +kernel) (by decide) rfl) ?_
  refine pm_cn (sd_iconst (z := -1) (by decide +kernel) (by decide +kernel) rfl) ?_
  refine pm_cn (sd_ir (by decide +kernel)) ?_
  refine pm_cn (sd_aln (k := 0) (by decide +kernel) rfl rfl) ?_
  refine pm_cn (sd_gr cl4_ in4_ (j := 1) (by decide) (fun _ => rfl) fl_X4_19 (by decide +kernel) rfl) ?_
  refine pm_cn (sd_gi cl0_ in0_ (by decide) (fun _ => rfl) fl_X4_95 (by decide +kernel) rfl) ?_
  refine pm_cn (sd_isn (k := 2) (by decide +kernel) rfl rfl (by decide)) ?_
  refine pm_cn (sd_aln (k := 0) (by decide +kernel) rfl rfl) ?_
  refine pm_cn (sd_gr cl4_ in4_ (j := 1) (by decide) (fun _ => rfl) fl_X4_19 (by decide +kernel) rfl) ?_
  refine pm_cn (sd_iln (k := 1) (by decide +kernel) rfl rfl) ?_
  refine pm_cn (sd_pi cl0_ in0_ tyX0 tyX0_ok nmX0 (by decide) (fun _ => rfl) rfl rfl fl_X4_95 (by decide +kernel) rfl) ?_
  refine pm_cn (sd_iln (k := 2) (by decide +kernel) rfl rfl) ?_
  refine pm_cn (sd_ir (by decide +kernel)) ?_
  exact fun _ h => absurd h List.not_mem_nil
set_option maxHeartbeats 4000000 in
set_option maxRecDepth 100000 in
theorem pf_X4_damp : pm_pf T_X4_damp P_X4_damp (pm_pi Q_X4_damp) := by
  rintro ⟨c, N, h0⟩ av h K hK ⟨rfl, rfl, hN⟩ hret
  have e := la_self hN
  show K (some 0) ([(0, vR 4 0 0), (1, vI c)], [], h)
  refine hK [] 60 _ _ ?_
  conv => whnf
  repeat' (first
    | (refine ⟨fun c9 => ?_, fun c9 => ?_⟩ <;> (try simp (disch := omega) only [nI_leI, nI_ltI, nI_eq, nz_eq, nz_lt, nz_gt, nz_le, nz_ge, nz_00, nz_n1, nI_add, pk_mul, pk_sub, nI_shl1, nI_or, nI_half2, nI_min2, la_put_eq, la_up, lr_same, lr_ne, lu_same, lu_ne, not_true_eq_false, not_false_eq_true] at c9) <;> first | (exfalso; omega) | conv => whnf)
    | (refine ⟨_, rfl, by omega, ?_⟩; conv => whnf)
    | (refine ⟨_, rfl, rfl, rfl, by decide, by decide, ?_⟩; conv => whnf)
    | (refine ⟨_, by (simp (disch := omega) only [nI_leI, nI_ltI, nI_eq, nz_eq, nz_lt, nz_gt, nz_le, nz_ge, nz_00, nz_n1, nI_add, pk_mul, pk_sub, nI_shl1, nI_or, nI_half2, nI_min2, la_put_eq, la_up, lr_same, lr_ne, lu_same, lu_ne, not_true_eq_false, not_false_eq_true]; rfl), by omega, ?_⟩; conv => whnf)
    | (refine And.intro (by first | assumption | decide) ?_; conv => whnf))
  all_goals (try simp (disch := omega) only [nI_leI, nI_ltI, nI_eq, nz_eq, nz_lt, nz_gt, nz_le, nz_ge, nz_00, nz_n1, nI_add, pk_mul, pk_sub, nI_shl1, nI_or, nI_half2, nI_min2, la_put_eq, la_up, lr_same, lr_ne, lu_same, lu_ne, not_true_eq_false, not_false_eq_true])
  refine ⟨(c, nI 0, nI 9, h), ⟨rfl, rfl⟩, fun v h' hq => ?_⟩
  obtain ⟨rfl, ⟨⟨k, h1, h2, rfl⟩, rfl⟩ | ⟨hc, rfl⟩⟩ := Q_within (by decide) (by decide) hq
  · rw [← e]
    conv => whnf
    repeat' (first
      | (refine ⟨fun c9 => ?_, fun c9 => ?_⟩ <;> (try simp (disch := omega) only [nI_leI, nI_ltI, nI_eq, nz_eq, nz_lt, nz_gt, nz_le, nz_ge, nz_00, nz_n1, nI_add, pk_mul, pk_sub, nI_shl1, nI_or, nI_half2, nI_min2, la_put_eq, la_up, lr_same, lr_ne, lu_same, lu_ne, not_true_eq_false, not_false_eq_true] at c9) <;> first | (exfalso; omega) | conv => whnf)
      | (refine ⟨_, rfl, by omega, ?_⟩; conv => whnf)
      | (refine ⟨_, rfl, rfl, rfl, by decide, by decide, ?_⟩; conv => whnf)
      | (refine ⟨_, by (simp (disch := omega) only [nI_leI, nI_ltI, nI_eq, nz_eq, nz_lt, nz_gt, nz_le, nz_ge, nz_00, nz_n1, nI_add, pk_mul, pk_sub, nI_shl1, nI_or, nI_half2, nI_min2, la_put_eq, la_up, lr_same, lr_ne, lu_same, lu_ne, not_true_eq_false, not_false_eq_true]; rfl), by omega, ?_⟩; conv => whnf)
      | (refine And.intro (by first | assumption | decide) ?_; conv => whnf))
    all_goals (try simp (disch := omega) only [nI_leI, nI_ltI, nI_eq, nz_eq, nz_lt, nz_gt, nz_le, nz_ge, nz_00, nz_n1, nI_add, pk_mul, pk_sub, nI_shl1, nI_or, nI_half2, nI_min2, la_put_eq, la_up, lr_same, lr_ne, lu_same, lu_ne, not_true_eq_false, not_false_eq_true])
    refine hret _ _ ?_
    exact Or.inl ⟨k, h1, h2, rfl, rfl, rfl⟩
  · conv => whnf
    repeat' (first
      | (refine ⟨fun c9 => ?_, fun c9 => ?_⟩ <;> (try simp (disch := omega) only [nI_leI, nI_ltI, nI_eq, nz_eq, nz_lt, nz_gt, nz_le, nz_ge, nz_00, nz_n1, nI_add, pk_mul, pk_sub, nI_shl1, nI_or, nI_half2, nI_min2, la_put_eq, la_up, lr_same, lr_ne, lu_same, lu_ne, not_true_eq_false, not_false_eq_true] at c9) <;> first | (exfalso; omega) | conv => whnf)
      | (refine ⟨_, rfl, by omega, ?_⟩; conv => whnf)
      | (refine ⟨_, rfl, rfl, rfl, by decide, by decide, ?_⟩; conv => whnf)
      | (refine ⟨_, by (simp (disch := omega) only [nI_leI, nI_ltI, nI_eq, nz_eq, nz_lt, nz_gt, nz_le, nz_ge, nz_00, nz_n1, nI_add, pk_mul, pk_sub, nI_shl1, nI_or, nI_half2, nI_min2, la_put_eq, la_up, lr_same, lr_ne, lu_same, lu_ne, not_true_eq_false, not_false_eq_true]; rfl), by omega, ?_⟩; conv => whnf)
      | (refine And.intro (by first | assumption | decide) ?_; conv => whnf))
    all_goals (try simp (disch := omega) only [nI_leI, nI_ltI, nI_eq, nz_eq, nz_lt, nz_gt, nz_le, nz_ge, nz_00, nz_n1, nI_add, pk_mul, pk_sub, nI_shl1, nI_or, nI_half2, nI_min2, la_put_eq, la_up, lr_same, lr_ne, lu_same, lu_ne, not_true_eq_false, not_false_eq_true])
    refine hret _ _ ?_
    exact Or.inr ⟨hc, rfl, rfl⟩
theorem M_X4_damp : pm_MT yX4_damp cX4_damp 3 1 3 P_X4_damp (pm_pi Q_X4_damp) := pm_met k_X4_damp (by decide) rfl (by
  rintro ⟨g0, g1, g2⟩ av h hp
  rw [hp.1]
  exact Nat.le_of_ble_eq_true rfl) pf_X4_damp
theorem rc_X4_damp : ∀ g av h, P_X4_damp g av h → ∃ i t, av = .inr (.inr (4, i, 0)) :: t := by
  rintro ⟨g0, g1, g2⟩ av h hp
  exact ⟨_, _, hp.1⟩
def P_X4_bite : Int32 × LD × pm_H → List pm_V → pm_H → Prop := fun g av h => match g with
  | (v, N, h0) => av = [vR 4 0 0, vI v] ∧ h = h0 ∧ la_at h0 0 N
def Q_X4_bite : Int32 × LD × pm_H → Int32 → pm_H → Prop := fun g r h => match g with
  | (v, N, h0) => (∃ k, 1 ≤ k ∧ k ≤ 20 ∧ v = nI k ∧ r = nI (N 0 9) ∧ h = la_put h0 0 (lu N 0 9 k)) ∨ (¬ wi v 1 20 ∧ r = -1 ∧ h = h0)
def T_X4_bite : List (Nat × pm_T) := [
  (0, i_il 1 1),
  (1, i_c (nI 1) 2),
  (2, i_c (nI 20) 4),
  (4, i_ci 3 P_X4_within Q_X4_within 7),
  (7, i_ifne 12 10),
  (10, i_c (-1) 11),
  (11, i_ir),
  (12, i_al 0 13),
  (13, i_gr 4 (fun _ => (0, 0, 0)) 16),
  (16, i_gi 0 9 19),
  (19, i_is 2 20),
  (20, i_al 0 21),
  (21, i_gr 4 (fun _ => (0, 0, 0)) 24),
  (24, i_il 1 25),
  (25, i_pi 0 9 28),
  (28, i_il 2 29),
  (29, i_ir)]
theorem k_X4_bite : ∀ q ∈ T_X4_bite, pm_sd RX4 cX4_bite 3 3 1 q.1 q.2 := by
  unfold T_X4_bite
  refine pm_cn (sd_iln (k := 1) (by decide +kernel) rfl rfl) ?_
  refine pm_cn (sd_iconst (z := 1) (by decide +kernel) (by decide +kernel) rfl) ?_
  refine pm_cn (sd_bipush (z := 20) (by decide +kernel) (by decide +kernel) rfl) ?_
  refine pm_cn (sd_cis M_X4_within (by decide) cd_X4_within ml_X4_57 st_X4_within nt_X4 (by decide +kernel) (by omega) (by decide) (by decide +kernel) rfl) ?_
  refine pm_cn (sd_ifne (off := 5) (by decide +kernel) (by decide) rfl) ?_
  refine pm_cn (sd_iconst (z := -1) (by decide +kernel) (by decide +kernel) rfl) ?_
  refine pm_cn (sd_ir (by decide +kernel)) ?_
  refine pm_cn (sd_aln (k := 0) (by decide +kernel) rfl rfl) ?_
  refine pm_cn (sd_gr cl4_ in4_ (j := 1) (by decide) (fun _ => rfl) fl_X4_19 (by decide +kernel) rfl) ?_
  refine pm_cn (sd_gi cl0_ in0_ (by decide) (fun _ => rfl) fl_X4_98 (by decide +kernel) rfl) ?_
  refine pm_cn (sd_isn (k := 2) (by decide +kernel) rfl rfl (by decide)) ?_
  refine pm_cn (sd_aln (k := 0) (by decide +kernel) rfl rfl) ?_
  refine pm_cn (sd_gr cl4_ in4_ (j := 1) (by decide) (fun _ => rfl) fl_X4_19 (by decide +kernel) rfl) ?_
  refine pm_cn (sd_iln (k := 1) (by decide +kernel) rfl rfl) ?_
  refine pm_cn (sd_pi cl0_ in0_ tyX0 tyX0_ok nmX0 (by decide) (fun _ => rfl) rfl rfl fl_X4_98 (by decide +kernel) rfl) ?_
  refine pm_cn (sd_iln (k := 2) (by decide +kernel) rfl rfl) ?_
  refine pm_cn (sd_ir (by decide +kernel)) ?_
  exact fun _ h => absurd h List.not_mem_nil
set_option maxHeartbeats 4000000 in
set_option maxRecDepth 100000 in
theorem pf_X4_bite : pm_pf T_X4_bite P_X4_bite (pm_pi Q_X4_bite) := by
  rintro ⟨c, N, h0⟩ av h K hK ⟨rfl, rfl, hN⟩ hret
  have e := la_self hN
  show K (some 0) ([(0, vR 4 0 0), (1, vI c)], [], h)
  refine hK [] 60 _ _ ?_
  conv => whnf
  repeat' (first
    | (refine ⟨fun c9 => ?_, fun c9 => ?_⟩ <;> (try simp (disch := omega) only [nI_leI, nI_ltI, nI_eq, nz_eq, nz_lt, nz_gt, nz_le, nz_ge, nz_00, nz_n1, nI_add, pk_mul, pk_sub, nI_shl1, nI_or, nI_half2, nI_min2, la_put_eq, la_up, lr_same, lr_ne, lu_same, lu_ne, not_true_eq_false, not_false_eq_true] at c9) <;> first | (exfalso; omega) | conv => whnf)
    | (refine ⟨_, rfl, by omega, ?_⟩; conv => whnf)
    | (refine ⟨_, rfl, rfl, rfl, by decide, by decide, ?_⟩; conv => whnf)
    | (refine ⟨_, by (simp (disch := omega) only [nI_leI, nI_ltI, nI_eq, nz_eq, nz_lt, nz_gt, nz_le, nz_ge, nz_00, nz_n1, nI_add, pk_mul, pk_sub, nI_shl1, nI_or, nI_half2, nI_min2, la_put_eq, la_up, lr_same, lr_ne, lu_same, lu_ne, not_true_eq_false, not_false_eq_true]; rfl), by omega, ?_⟩; conv => whnf)
    | (refine And.intro (by first | assumption | decide) ?_; conv => whnf))
  all_goals (try simp (disch := omega) only [nI_leI, nI_ltI, nI_eq, nz_eq, nz_lt, nz_gt, nz_le, nz_ge, nz_00, nz_n1, nI_add, pk_mul, pk_sub, nI_shl1, nI_or, nI_half2, nI_min2, la_put_eq, la_up, lr_same, lr_ne, lu_same, lu_ne, not_true_eq_false, not_false_eq_true])
  refine ⟨(c, nI 1, nI 20, h), ⟨rfl, rfl⟩, fun v h' hq => ?_⟩
  obtain ⟨rfl, ⟨⟨k, h1, h2, rfl⟩, rfl⟩ | ⟨hc, rfl⟩⟩ := Q_within (by decide) (by decide) hq
  · rw [← e]
    conv => whnf
    repeat' (first
      | (refine ⟨fun c9 => ?_, fun c9 => ?_⟩ <;> (try simp (disch := omega) only [nI_leI, nI_ltI, nI_eq, nz_eq, nz_lt, nz_gt, nz_le, nz_ge, nz_00, nz_n1, nI_add, pk_mul, pk_sub, nI_shl1, nI_or, nI_half2, nI_min2, la_put_eq, la_up, lr_same, lr_ne, lu_same, lu_ne, not_true_eq_false, not_false_eq_true] at c9) <;> first | (exfalso; omega) | conv => whnf)
      | (refine ⟨_, rfl, by omega, ?_⟩; conv => whnf)
      | (refine ⟨_, rfl, rfl, rfl, by decide, by decide, ?_⟩; conv => whnf)
      | (refine ⟨_, by (simp (disch := omega) only [nI_leI, nI_ltI, nI_eq, nz_eq, nz_lt, nz_gt, nz_le, nz_ge, nz_00, nz_n1, nI_add, pk_mul, pk_sub, nI_shl1, nI_or, nI_half2, nI_min2, la_put_eq, la_up, lr_same, lr_ne, lu_same, lu_ne, not_true_eq_false, not_false_eq_true]; rfl), by omega, ?_⟩; conv => whnf)
      | (refine And.intro (by first | assumption | decide) ?_; conv => whnf))
    all_goals (try simp (disch := omega) only [nI_leI, nI_ltI, nI_eq, nz_eq, nz_lt, nz_gt, nz_le, nz_ge, nz_00, nz_n1, nI_add, pk_mul, pk_sub, nI_shl1, nI_or, nI_half2, nI_min2, la_put_eq, la_up, lr_same, lr_ne, lu_same, lu_ne, not_true_eq_false, not_false_eq_true])
    refine hret _ _ ?_
    exact Or.inl ⟨k, h1, h2, rfl, rfl, rfl⟩
  · conv => whnf
    repeat' (first
      | (refine ⟨fun c9 => ?_, fun c9 => ?_⟩ <;> (try simp (disch := omega) only [nI_leI, nI_ltI, nI_eq, nz_eq, nz_lt, nz_gt, nz_le, nz_ge, nz_00, nz_n1, nI_add, pk_mul, pk_sub, nI_shl1, nI_or, nI_half2, nI_min2, la_put_eq, la_up, lr_same, lr_ne, lu_same, lu_ne, not_true_eq_false, not_false_eq_true] at c9) <;> first | (exfalso; omega) | conv => whnf)
      | (refine ⟨_, rfl, by omega, ?_⟩; conv => whnf)
      | (refine ⟨_, rfl, rfl, rfl, by decide, by decide, ?_⟩; conv => whnf)
      | (refine ⟨_, by (simp (disch := omega) only [nI_leI, nI_ltI, nI_eq, nz_eq, nz_lt, nz_gt, nz_le, nz_ge, nz_00, nz_n1, nI_add, pk_mul, pk_sub, nI_shl1, nI_or, nI_half2, nI_min2, la_put_eq, la_up, lr_same, lr_ne, lu_same, lu_ne, not_true_eq_false, not_false_eq_true]; rfl), by omega, ?_⟩; conv => whnf)
      | (refine And.intro (by first | assumption | decide) ?_; conv => whnf))
    all_goals (try simp (disch := omega) only [nI_leI, nI_ltI, nI_eq, nz_eq, nz_lt, nz_gt, nz_le, nz_ge, nz_00, nz_n1, nI_add, pk_mul, pk_sub, nI_shl1, nI_or, nI_half2, nI_min2, la_put_eq, la_up, lr_same, lr_ne, lu_same, lu_ne, not_true_eq_false, not_false_eq_true])
    refine hret _ _ ?_
    exact Or.inr ⟨hc, rfl, rfl⟩
theorem M_X4_bite : pm_MT yX4_bite cX4_bite 3 1 3 P_X4_bite (pm_pi Q_X4_bite) := pm_met k_X4_bite (by decide) rfl (by
  rintro ⟨g0, g1, g2⟩ av h hp
  rw [hp.1]
  exact Nat.le_of_ble_eq_true rfl) pf_X4_bite
theorem rc_X4_bite : ∀ g av h, P_X4_bite g av h → ∃ i t, av = .inr (.inr (4, i, 0)) :: t := by
  rintro ⟨g0, g1, g2⟩ av h hp
  exact ⟨_, _, hp.1⟩
def P_X4_drop : Int32 × LD × pm_H → List pm_V → pm_H → Prop := fun g av h => match g with
  | (v, N, h0) => av = [vR 4 0 0, vI v] ∧ h = h0 ∧ la_at h0 0 N ∧ la_ok N
def Q_X4_drop : Int32 × LD × pm_H → Int32 → pm_H → Prop := fun g r h => match g with
  | (v, N, h0) => (∃ k, k ≤ N 0 11 ∧ v = nI k ∧ r = nI (N 0 11) ∧ h = la_put h0 0 (lu N 0 11 k)) ∨ (¬ wi v 0 (N 0 11) ∧ r = -1 ∧ h = h0)
def T_X4_drop : List (Nat × pm_T) := [
  (0, i_il 1 1),
  (1, i_c (nI 0) 2),
  (2, i_al 0 3),
  (3, i_gr 4 (fun _ => (0, 0, 0)) 6),
  (6, i_gi 0 11 9),
  (9, i_ci 3 P_X4_within Q_X4_within 12),
  (12, i_ifne 17 15),
  (15, i_c (-1) 16),
  (16, i_ir),
  (17, i_al 0 18),
  (18, i_gr 4 (fun _ => (0, 0, 0)) 21),
  (21, i_gi 0 11 24),
  (24, i_is 2 25),
  (25, i_al 0 26),
  (26, i_gr 4 (fun _ => (0, 0, 0)) 29),
  (29, i_il 1 30),
  (30, i_pi 0 11 33),
  (33, i_il 2 34),
  (34, i_ir)]
theorem k_X4_drop : ∀ q ∈ T_X4_drop, pm_sd RX4 cX4_drop 3 3 1 q.1 q.2 := by
  unfold T_X4_drop
  refine pm_cn (sd_iln (k := 1) (by decide +kernel) rfl rfl) ?_
  refine pm_cn (sd_iconst (z := 0) (by decide +kernel) (by decide +kernel) rfl) ?_
  refine pm_cn (sd_aln (k := 0) (by decide +kernel) rfl rfl) ?_
  refine pm_cn (sd_gr cl4_ in4_ (j := 1) (by decide) (fun _ => rfl) fl_X4_19 (by decide +kernel) rfl) ?_
  refine pm_cn (sd_gi cl0_ in0_ (by decide) (fun _ => rfl) fl_X4_149 (by decide +kernel) rfl) ?_
  refine pm_cn (sd_cis M_X4_within (by decide) cd_X4_within ml_X4_57 st_X4_within nt_X4 (by decide +kernel) (by omega) (by decide) (by decide +kernel) rfl) ?_
  refine pm_cn (sd_ifne (off := 5) (by decide +kernel) (by decide) rfl) ?_
  refine pm_cn (sd_iconst (z := -1) (by decide +kernel) (by decide +kernel) rfl) ?_
  refine pm_cn (sd_ir (by decide +kernel)) ?_
  refine pm_cn (sd_aln (k := 0) (by decide +kernel) rfl rfl) ?_
  refine pm_cn (sd_gr cl4_ in4_ (j := 1) (by decide) (fun _ => rfl) fl_X4_19 (by decide +kernel) rfl) ?_
  refine pm_cn (sd_gi cl0_ in0_ (by decide) (fun _ => rfl) fl_X4_149 (by decide +kernel) rfl) ?_
  refine pm_cn (sd_isn (k := 2) (by decide +kernel) rfl rfl (by decide)) ?_
  refine pm_cn (sd_aln (k := 0) (by decide +kernel) rfl rfl) ?_
  refine pm_cn (sd_gr cl4_ in4_ (j := 1) (by decide) (fun _ => rfl) fl_X4_19 (by decide +kernel) rfl) ?_
  refine pm_cn (sd_iln (k := 1) (by decide +kernel) rfl rfl) ?_
  refine pm_cn (sd_pi cl0_ in0_ tyX0 tyX0_ok nmX0 (by decide) (fun _ => rfl) rfl rfl fl_X4_149 (by decide +kernel) rfl) ?_
  refine pm_cn (sd_iln (k := 2) (by decide +kernel) rfl rfl) ?_
  refine pm_cn (sd_ir (by decide +kernel)) ?_
  exact fun _ h => absurd h List.not_mem_nil
set_option maxHeartbeats 4000000 in
set_option maxRecDepth 100000 in
theorem pf_X4_drop : pm_pf T_X4_drop P_X4_drop (pm_pi Q_X4_drop) := by
  rintro ⟨c, N, h0⟩ av h K hK ⟨rfl, rfl, hN, wN⟩ hret
  have w6 := wN.2.2.2.2.2.1
  have e := la_self hN
  show K (some 0) ([(0, vR 4 0 0), (1, vI c)], [], h)
  refine hK [] 60 _ _ ?_
  conv => whnf
  repeat' (first
    | (refine ⟨fun c9 => ?_, fun c9 => ?_⟩ <;> (try simp (disch := omega) only [nI_leI, nI_ltI, nI_eq, nz_eq, nz_lt, nz_gt, nz_le, nz_ge, nz_00, nz_n1, nI_add, pk_mul, pk_sub, nI_shl1, nI_or, nI_half2, nI_min2, la_put_eq, la_up, lr_same, lr_ne, lu_same, lu_ne, not_true_eq_false, not_false_eq_true, hN] at c9) <;> first | (exfalso; omega) | conv => whnf)
    | (refine ⟨_, rfl, by omega, ?_⟩; conv => whnf)
    | (refine ⟨_, rfl, rfl, rfl, by decide, by decide, ?_⟩; conv => whnf)
    | (refine ⟨_, by (simp (disch := omega) only [nI_leI, nI_ltI, nI_eq, nz_eq, nz_lt, nz_gt, nz_le, nz_ge, nz_00, nz_n1, nI_add, pk_mul, pk_sub, nI_shl1, nI_or, nI_half2, nI_min2, la_put_eq, la_up, lr_same, lr_ne, lu_same, lu_ne, not_true_eq_false, not_false_eq_true, hN]; rfl), by omega, ?_⟩; conv => whnf)
    | (refine And.intro (by first | assumption | decide) ?_; conv => whnf))
  all_goals (try simp (disch := omega) only [nI_leI, nI_ltI, nI_eq, nz_eq, nz_lt, nz_gt, nz_le, nz_ge, nz_00, nz_n1, nI_add, pk_mul, pk_sub, nI_shl1, nI_or, nI_half2, nI_min2, la_put_eq, la_up, lr_same, lr_ne, lu_same, lu_ne, not_true_eq_false, not_false_eq_true, hN])
  refine ⟨(c, nI 0, nI (N 0 11), h), ⟨rfl, rfl⟩, fun v h' hq => ?_⟩
  obtain ⟨rfl, ⟨⟨k, h1, h2, rfl⟩, rfl⟩ | ⟨hc, rfl⟩⟩ := Q_within (by decide) (by omega) hq
  · rw [← e]
    conv => whnf
    repeat' (first
      | (refine ⟨fun c9 => ?_, fun c9 => ?_⟩ <;> (try simp (disch := omega) only [nI_leI, nI_ltI, nI_eq, nz_eq, nz_lt, nz_gt, nz_le, nz_ge, nz_00, nz_n1, nI_add, pk_mul, pk_sub, nI_shl1, nI_or, nI_half2, nI_min2, la_put_eq, la_up, lr_same, lr_ne, lu_same, lu_ne, not_true_eq_false, not_false_eq_true] at c9) <;> first | (exfalso; omega) | conv => whnf)
      | (refine ⟨_, rfl, by omega, ?_⟩; conv => whnf)
      | (refine ⟨_, rfl, rfl, rfl, by decide, by decide, ?_⟩; conv => whnf)
      | (refine ⟨_, by (simp (disch := omega) only [nI_leI, nI_ltI, nI_eq, nz_eq, nz_lt, nz_gt, nz_le, nz_ge, nz_00, nz_n1, nI_add, pk_mul, pk_sub, nI_shl1, nI_or, nI_half2, nI_min2, la_put_eq, la_up, lr_same, lr_ne, lu_same, lu_ne, not_true_eq_false, not_false_eq_true]; rfl), by omega, ?_⟩; conv => whnf)
      | (refine And.intro (by first | assumption | decide) ?_; conv => whnf))
    all_goals (try simp (disch := omega) only [nI_leI, nI_ltI, nI_eq, nz_eq, nz_lt, nz_gt, nz_le, nz_ge, nz_00, nz_n1, nI_add, pk_mul, pk_sub, nI_shl1, nI_or, nI_half2, nI_min2, la_put_eq, la_up, lr_same, lr_ne, lu_same, lu_ne, not_true_eq_false, not_false_eq_true])
    refine hret _ _ ?_
    exact Or.inl ⟨k, h2, rfl, rfl, rfl⟩
  · conv => whnf
    repeat' (first
      | (refine ⟨fun c9 => ?_, fun c9 => ?_⟩ <;> (try simp (disch := omega) only [nI_leI, nI_ltI, nI_eq, nz_eq, nz_lt, nz_gt, nz_le, nz_ge, nz_00, nz_n1, nI_add, pk_mul, pk_sub, nI_shl1, nI_or, nI_half2, nI_min2, la_put_eq, la_up, lr_same, lr_ne, lu_same, lu_ne, not_true_eq_false, not_false_eq_true] at c9) <;> first | (exfalso; omega) | conv => whnf)
      | (refine ⟨_, rfl, by omega, ?_⟩; conv => whnf)
      | (refine ⟨_, rfl, rfl, rfl, by decide, by decide, ?_⟩; conv => whnf)
      | (refine ⟨_, by (simp (disch := omega) only [nI_leI, nI_ltI, nI_eq, nz_eq, nz_lt, nz_gt, nz_le, nz_ge, nz_00, nz_n1, nI_add, pk_mul, pk_sub, nI_shl1, nI_or, nI_half2, nI_min2, la_put_eq, la_up, lr_same, lr_ne, lu_same, lu_ne, not_true_eq_false, not_false_eq_true]; rfl), by omega, ?_⟩; conv => whnf)
      | (refine And.intro (by first | assumption | decide) ?_; conv => whnf))
    all_goals (try simp (disch := omega) only [nI_leI, nI_ltI, nI_eq, nz_eq, nz_lt, nz_gt, nz_le, nz_ge, nz_00, nz_n1, nI_add, pk_mul, pk_sub, nI_shl1, nI_or, nI_half2, nI_min2, la_put_eq, la_up, lr_same, lr_ne, lu_same, lu_ne, not_true_eq_false, not_false_eq_true])
    refine hret _ _ ?_
    exact Or.inr ⟨hc, rfl, rfl⟩
theorem M_X4_drop : pm_MT yX4_drop cX4_drop 3 1 3 P_X4_drop (pm_pi Q_X4_drop) := pm_met k_X4_drop (by decide) rfl (by
  rintro ⟨g0, g1, g2⟩ av h hp
  rw [hp.1]
  exact Nat.le_of_ble_eq_true rfl) pf_X4_drop
theorem rc_X4_drop : ∀ g av h, P_X4_drop g av h → ∃ i t, av = .inr (.inr (4, i, 0)) :: t := by
  rintro ⟨g0, g1, g2⟩ av h hp
  exact ⟨_, _, hp.1⟩
def P_X4_pose : Int32 × Int32 × LD × pm_H → List pm_V → pm_H → Prop := fun g av h => match g with
  | (d, s, N, h0) => av = [vR 4 0 0, vI d, vI s] ∧ h = h0 ∧ la_at h0 0 N ∧ la_ok N
def Q_X4_pose : Int32 × Int32 × LD × pm_H → Int32 → pm_H → Prop := fun g r h => match g with
  | (d, s, N, h0) => (∃ x y, x ≤ 99 ∧ y ≤ 9 ∧ d = nI x ∧ s = nI y ∧ ((N 0 11 < 6 ∧ r = nI (N 0 11 + 1) ∧ h = la_put h0 0 (sp_addQ N x y)) ∨ (6 ≤ N 0 11 ∧ r = -3 ∧ h = h0))) ∨ (¬ (wi d 0 99 ∧ wi s 0 9) ∧ r = -1 ∧ h = h0)
theorem sp_addQ_11 (N : LD) (x y : Nat) : sp_addQ N x y 0 11 = N 0 11 + 1 := by unfold sp_addQ; rw [lu_same]
theorem sp_addB_3 (N : LD) (k s c f : Nat) : sp_addB N k s c f 0 3 = N 0 3 + 1 := by unfold sp_addB; rw [lu_same]
def T_X4_pose : List (Nat × pm_T) := [
  (0, i_il 1 1),
  (1, i_c (nI 0) 2),
  (2, i_c (nI 99) 4),
  (4, i_ci 3 P_X4_within Q_X4_within 7),
  (7, i_ifeq 20 10),
  (10, i_il 2 11),
  (11, i_c (nI 0) 12),
  (12, i_c (nI 9) 14),
  (14, i_ci 3 P_X4_within Q_X4_within 17),
  (17, i_ifne 22 20),
  (20, i_c (-1) 21),
  (21, i_ir),
  (22, i_al 0 23),
  (23, i_gr 4 (fun _ => (0, 0, 0)) 26),
  (26, i_il 1 27),
  (27, i_il 2 28),
  (28, i_ci 3 P_X0_addQuestion Q_X0_addQuestion 31),
  (31, i_ifeq 44 34),
  (34, i_al 0 35),
  (35, i_gr 4 (fun _ => (0, 0, 0)) 38),
  (38, i_gi 0 11 41),
  (41, i_go 46),
  (44, i_c (-3) 46),
  (46, i_ir)]
theorem k_X4_pose : ∀ q ∈ T_X4_pose, pm_sd RX4 cX4_pose 3 3 1 q.1 q.2 := by
  unfold T_X4_pose
  refine pm_cn (sd_iln (k := 1) (by decide +kernel) rfl rfl) ?_
  refine pm_cn (sd_iconst (z := 0) (by decide +kernel) (by decide +kernel) rfl) ?_
  refine pm_cn (sd_bipush (z := 99) (by decide +kernel) (by decide +kernel) rfl) ?_
  refine pm_cn (sd_cis M_X4_within (by decide) cd_X4_within ml_X4_57 st_X4_within nt_X4 (by decide +kernel) (by omega) (by decide) (by decide +kernel) rfl) ?_
  refine pm_cn (sd_ifeq (off := 13) (by decide +kernel) (by decide) rfl) ?_
  refine pm_cn (sd_iln (k := 2) (by decide +kernel) rfl rfl) ?_
  refine pm_cn (sd_iconst (z := 0) (by decide +kernel) (by decide +kernel) rfl) ?_
  refine pm_cn (sd_bipush (z := 9) (by decide +kernel) (by decide +kernel) rfl) ?_
  refine pm_cn (sd_cis M_X4_within (by decide) cd_X4_within ml_X4_57 st_X4_within nt_X4 (by decide +kernel) (by omega) (by decide) (by decide +kernel) rfl) ?_
  refine pm_cn (sd_ifne (off := 5) (by decide +kernel) (by decide) rfl) ?_
  refine pm_cn (sd_iconst (z := -1) (by decide +kernel) (by decide +kernel) rfl) ?_
  refine pm_cn (sd_ir (by decide +kernel)) ?_
  refine pm_cn (sd_aln (k := 0) (by decide +kernel) rfl rfl) ?_
  refine pm_cn (sd_gr cl4_ in4_ (j := 1) (by decide) (fun _ => rfl) fl_X4_19 (by decide +kernel) rfl) ?_
  refine pm_cn (sd_iln (k := 1) (by decide +kernel) rfl rfl) ?_
  refine pm_cn (sd_iln (k := 2) (by decide +kernel) rfl rfl) ?_
  refine pm_cn (sd_civ M_X0_addQuestion (by decide) cd_X0_addQuestion rc_X0_addQuestion cl0_ ml_X4_168 im_X0_addQuestion se_X0_addQuestion nt_X0 (by decide +kernel) (by omega) (by decide) (by decide +kernel) rfl) ?_
  refine pm_cn (sd_ifeq (off := 13) (by decide +kernel) (by decide) rfl) ?_
  refine pm_cn (sd_aln (k := 0) (by decide +kernel) rfl rfl) ?_
  refine pm_cn (sd_gr cl4_ in4_ (j := 1) (by decide) (fun _ => rfl) fl_X4_19 (by decide +kernel) rfl) ?_
  refine pm_cn (sd_gi cl0_ in0_ (by decide) (fun _ => rfl) fl_X4_149 (by decide +kernel) rfl) ?_
  refine pm_cn (sd_go (off := 5) (by decide +kernel) (by decide)) ?_
  refine pm_cn (sd_bipush (z := -3) (by decide +kernel) (by decide +kernel) rfl) ?_
  refine pm_cn (sd_ir (by decide +kernel)) ?_
  exact fun _ h => absurd h List.not_mem_nil
set_option maxHeartbeats 4000000 in
set_option maxRecDepth 100000 in
theorem pf_X4_pose : pm_pf T_X4_pose P_X4_pose (pm_pi Q_X4_pose) := by
  rintro ⟨d, s, N, h0⟩ av h K hK ⟨rfl, rfl, hN, wN⟩ hret
  show K (some 0) ([(0, vR 4 0 0), (1, vI d), (2, vI s)], [], h)
  refine hK [] 60 _ _ ?_
  conv => whnf
  repeat' (first
    | (refine ⟨fun c9 => ?_, fun c9 => ?_⟩ <;> (try simp (disch := omega) only [nI_leI, nI_ltI, nI_eq, nz_eq, nz_lt, nz_gt, nz_le, nz_ge, nz_00, nz_n1, nI_add, pk_mul, pk_sub, nI_shl1, nI_or, nI_half2, nI_min2, la_put_eq, la_up, lr_same, lr_ne, lu_same, lu_ne, not_true_eq_false, not_false_eq_true] at c9) <;> first | (exfalso; omega) | conv => whnf)
    | (refine ⟨_, rfl, by omega, ?_⟩; conv => whnf)
    | (refine ⟨_, rfl, rfl, rfl, by decide, by decide, ?_⟩; conv => whnf)
    | (refine ⟨_, by (simp (disch := omega) only [nI_leI, nI_ltI, nI_eq, nz_eq, nz_lt, nz_gt, nz_le, nz_ge, nz_00, nz_n1, nI_add, pk_mul, pk_sub, nI_shl1, nI_or, nI_half2, nI_min2, la_put_eq, la_up, lr_same, lr_ne, lu_same, lu_ne, not_true_eq_false, not_false_eq_true]; rfl), by omega, ?_⟩; conv => whnf)
    | (refine And.intro (by first | assumption | decide) ?_; conv => whnf))
  all_goals (try simp (disch := omega) only [nI_leI, nI_ltI, nI_eq, nz_eq, nz_lt, nz_gt, nz_le, nz_ge, nz_00, nz_n1, nI_add, pk_mul, pk_sub, nI_shl1, nI_or, nI_half2, nI_min2, la_put_eq, la_up, lr_same, lr_ne, lu_same, lu_ne, not_true_eq_false, not_false_eq_true])
  refine ⟨(d, nI 0, nI 99, h), ⟨rfl, rfl⟩, fun v h' hq => ?_⟩
  obtain ⟨rfl, ⟨⟨x, h1, hx, rfl⟩, rfl⟩ | ⟨hc, rfl⟩⟩ := Q_within (by decide) (by decide) hq
  · conv => whnf
    repeat' (first
      | (refine ⟨fun c9 => ?_, fun c9 => ?_⟩ <;> (try simp (disch := omega) only [nI_leI, nI_ltI, nI_eq, nz_eq, nz_lt, nz_gt, nz_le, nz_ge, nz_00, nz_n1, nI_add, pk_mul, pk_sub, nI_shl1, nI_or, nI_half2, nI_min2, la_put_eq, la_up, lr_same, lr_ne, lu_same, lu_ne, not_true_eq_false, not_false_eq_true] at c9) <;> first | (exfalso; omega) | conv => whnf)
      | (refine ⟨_, rfl, by omega, ?_⟩; conv => whnf)
      | (refine ⟨_, rfl, rfl, rfl, by decide, by decide, ?_⟩; conv => whnf)
      | (refine ⟨_, by (simp (disch := omega) only [nI_leI, nI_ltI, nI_eq, nz_eq, nz_lt, nz_gt, nz_le, nz_ge, nz_00, nz_n1, nI_add, pk_mul, pk_sub, nI_shl1, nI_or, nI_half2, nI_min2, la_put_eq, la_up, lr_same, lr_ne, lu_same, lu_ne, not_true_eq_false, not_false_eq_true]; rfl), by omega, ?_⟩; conv => whnf)
      | (refine And.intro (by first | assumption | decide) ?_; conv => whnf))
    all_goals (try simp (disch := omega) only [nI_leI, nI_ltI, nI_eq, nz_eq, nz_lt, nz_gt, nz_le, nz_ge, nz_00, nz_n1, nI_add, pk_mul, pk_sub, nI_shl1, nI_or, nI_half2, nI_min2, la_put_eq, la_up, lr_same, lr_ne, lu_same, lu_ne, not_true_eq_false, not_false_eq_true])
    refine ⟨(s, nI 0, nI 9, _), ⟨rfl, rfl⟩, fun v h' hq => ?_⟩
    obtain ⟨rfl, ⟨⟨y, h1, hy, rfl⟩, rfl⟩ | ⟨hc, rfl⟩⟩ := Q_within (by decide) (by decide) hq
    · conv => whnf
      repeat' (first
        | (refine ⟨fun c9 => ?_, fun c9 => ?_⟩ <;> (try simp (disch := omega) only [nI_leI, nI_ltI, nI_eq, nz_eq, nz_lt, nz_gt, nz_le, nz_ge, nz_00, nz_n1, nI_add, pk_mul, pk_sub, nI_shl1, nI_or, nI_half2, nI_min2, la_put_eq, la_up, lr_same, lr_ne, lu_same, lu_ne, not_true_eq_false, not_false_eq_true] at c9) <;> first | (exfalso; omega) | conv => whnf)
        | (refine ⟨_, rfl, by omega, ?_⟩; conv => whnf)
        | (refine ⟨_, rfl, rfl, rfl, by decide, by decide, ?_⟩; conv => whnf)
        | (refine ⟨_, by (simp (disch := omega) only [nI_leI, nI_ltI, nI_eq, nz_eq, nz_lt, nz_gt, nz_le, nz_ge, nz_00, nz_n1, nI_add, pk_mul, pk_sub, nI_shl1, nI_or, nI_half2, nI_min2, la_put_eq, la_up, lr_same, lr_ne, lu_same, lu_ne, not_true_eq_false, not_false_eq_true]; rfl), by omega, ?_⟩; conv => whnf)
        | (refine And.intro (by first | assumption | decide) ?_; conv => whnf))
      all_goals (try simp (disch := omega) only [nI_leI, nI_ltI, nI_eq, nz_eq, nz_lt, nz_gt, nz_le, nz_ge, nz_00, nz_n1, nI_add, pk_mul, pk_sub, nI_shl1, nI_or, nI_half2, nI_min2, la_put_eq, la_up, lr_same, lr_ne, lu_same, lu_ne, not_true_eq_false, not_false_eq_true])
      refine ⟨(0, x, y, N, _), ⟨rfl, rfl, hN, wN⟩, fun v h' hq => ?_⟩
      rcases hq with ⟨hlt, rfl, rfl⟩ | ⟨hge, rfl, rfl⟩
      · conv => whnf
        repeat' (first
          | (refine ⟨fun c9 => ?_, fun c9 => ?_⟩ <;> (try simp (disch := omega) only [nI_leI, nI_ltI, nI_eq, nz_eq, nz_lt, nz_gt, nz_le, nz_ge, nz_00, nz_n1, nI_add, pk_mul, pk_sub, nI_shl1, nI_or, nI_half2, nI_min2, la_put_eq, la_up, lr_same, lr_ne, lu_same, lu_ne, not_true_eq_false, not_false_eq_true, sp_addQ_11] at c9) <;> first | (exfalso; omega) | conv => whnf)
          | (refine ⟨_, rfl, by omega, ?_⟩; conv => whnf)
          | (refine ⟨_, rfl, rfl, rfl, by decide, by decide, ?_⟩; conv => whnf)
          | (refine ⟨_, by (simp (disch := omega) only [nI_leI, nI_ltI, nI_eq, nz_eq, nz_lt, nz_gt, nz_le, nz_ge, nz_00, nz_n1, nI_add, pk_mul, pk_sub, nI_shl1, nI_or, nI_half2, nI_min2, la_put_eq, la_up, lr_same, lr_ne, lu_same, lu_ne, not_true_eq_false, not_false_eq_true, sp_addQ_11]; rfl), by omega, ?_⟩; conv => whnf)
          | (refine And.intro (by first | assumption | decide) ?_; conv => whnf))
        all_goals (try simp (disch := omega) only [nI_leI, nI_ltI, nI_eq, nz_eq, nz_lt, nz_gt, nz_le, nz_ge, nz_00, nz_n1, nI_add, pk_mul, pk_sub, nI_shl1, nI_or, nI_half2, nI_min2, la_put_eq, la_up, lr_same, lr_ne, lu_same, lu_ne, not_true_eq_false, not_false_eq_true, sp_addQ_11])
        refine hret _ _ ?_
        exact Or.inl ⟨x, y, hx, hy, rfl, rfl, Or.inl ⟨hlt, rfl, rfl⟩⟩
      · conv => whnf
        repeat' (first
          | (refine ⟨fun c9 => ?_, fun c9 => ?_⟩ <;> (try simp (disch := omega) only [nI_leI, nI_ltI, nI_eq, nz_eq, nz_lt, nz_gt, nz_le, nz_ge, nz_00, nz_n1, nI_add, pk_mul, pk_sub, nI_shl1, nI_or, nI_half2, nI_min2, la_put_eq, la_up, lr_same, lr_ne, lu_same, lu_ne, not_true_eq_false, not_false_eq_true] at c9) <;> first | (exfalso; omega) | conv => whnf)
          | (refine ⟨_, rfl, by omega, ?_⟩; conv => whnf)
          | (refine ⟨_, rfl, rfl, rfl, by decide, by decide, ?_⟩; conv => whnf)
          | (refine ⟨_, by (simp (disch := omega) only [nI_leI, nI_ltI, nI_eq, nz_eq, nz_lt, nz_gt, nz_le, nz_ge, nz_00, nz_n1, nI_add, pk_mul, pk_sub, nI_shl1, nI_or, nI_half2, nI_min2, la_put_eq, la_up, lr_same, lr_ne, lu_same, lu_ne, not_true_eq_false, not_false_eq_true]; rfl), by omega, ?_⟩; conv => whnf)
          | (refine And.intro (by first | assumption | decide) ?_; conv => whnf))
        all_goals (try simp (disch := omega) only [nI_leI, nI_ltI, nI_eq, nz_eq, nz_lt, nz_gt, nz_le, nz_ge, nz_00, nz_n1, nI_add, pk_mul, pk_sub, nI_shl1, nI_or, nI_half2, nI_min2, la_put_eq, la_up, lr_same, lr_ne, lu_same, lu_ne, not_true_eq_false, not_false_eq_true])
        refine hret _ _ ?_
        exact Or.inl ⟨x, y, hx, hy, rfl, rfl, Or.inr ⟨hge, rfl, rfl⟩⟩
    · conv => whnf
      repeat' (first
        | (refine ⟨fun c9 => ?_, fun c9 => ?_⟩ <;> (try simp (disch := omega) only [nI_leI, nI_ltI, nI_eq, nz_eq, nz_lt, nz_gt, nz_le, nz_ge, nz_00, nz_n1, nI_add, pk_mul, pk_sub, nI_shl1, nI_or, nI_half2, nI_min2, la_put_eq, la_up, lr_same, lr_ne, lu_same, lu_ne, not_true_eq_false, not_false_eq_true] at c9) <;> first | (exfalso; omega) | conv => whnf)
        | (refine ⟨_, rfl, by omega, ?_⟩; conv => whnf)
        | (refine ⟨_, rfl, rfl, rfl, by decide, by decide, ?_⟩; conv => whnf)
        | (refine ⟨_, by (simp (disch := omega) only [nI_leI, nI_ltI, nI_eq, nz_eq, nz_lt, nz_gt, nz_le, nz_ge, nz_00, nz_n1, nI_add, pk_mul, pk_sub, nI_shl1, nI_or, nI_half2, nI_min2, la_put_eq, la_up, lr_same, lr_ne, lu_same, lu_ne, not_true_eq_false, not_false_eq_true]; rfl), by omega, ?_⟩; conv => whnf)
        | (refine And.intro (by first | assumption | decide) ?_; conv => whnf))
      all_goals (try simp (disch := omega) only [nI_leI, nI_ltI, nI_eq, nz_eq, nz_lt, nz_gt, nz_le, nz_ge, nz_00, nz_n1, nI_add, pk_mul, pk_sub, nI_shl1, nI_or, nI_half2, nI_min2, la_put_eq, la_up, lr_same, lr_ne, lu_same, lu_ne, not_true_eq_false, not_false_eq_true])
      refine hret _ _ ?_
      exact Or.inr ⟨fun q => hc q.2, rfl, rfl⟩
  · conv => whnf
    repeat' (first
      | (refine ⟨fun c9 => ?_, fun c9 => ?_⟩ <;> (try simp (disch := omega) only [nI_leI, nI_ltI, nI_eq, nz_eq, nz_lt, nz_gt, nz_le, nz_ge, nz_00, nz_n1, nI_add, pk_mul, pk_sub, nI_shl1, nI_or, nI_half2, nI_min2, la_put_eq, la_up, lr_same, lr_ne, lu_same, lu_ne, not_true_eq_false, not_false_eq_true] at c9) <;> first | (exfalso; omega) | conv => whnf)
      | (refine ⟨_, rfl, by omega, ?_⟩; conv => whnf)
      | (refine ⟨_, rfl, rfl, rfl, by decide, by decide, ?_⟩; conv => whnf)
      | (refine ⟨_, by (simp (disch := omega) only [nI_leI, nI_ltI, nI_eq, nz_eq, nz_lt, nz_gt, nz_le, nz_ge, nz_00, nz_n1, nI_add, pk_mul, pk_sub, nI_shl1, nI_or, nI_half2, nI_min2, la_put_eq, la_up, lr_same, lr_ne, lu_same, lu_ne, not_true_eq_false, not_false_eq_true]; rfl), by omega, ?_⟩; conv => whnf)
      | (refine And.intro (by first | assumption | decide) ?_; conv => whnf))
    all_goals (try simp (disch := omega) only [nI_leI, nI_ltI, nI_eq, nz_eq, nz_lt, nz_gt, nz_le, nz_ge, nz_00, nz_n1, nI_add, pk_mul, pk_sub, nI_shl1, nI_or, nI_half2, nI_min2, la_put_eq, la_up, lr_same, lr_ne, lu_same, lu_ne, not_true_eq_false, not_false_eq_true])
    refine hret _ _ ?_
    exact Or.inr ⟨fun q => hc q.1, rfl, rfl⟩
theorem M_X4_pose : pm_MT yX4_pose cX4_pose 3 1 3 P_X4_pose (pm_pi Q_X4_pose) := pm_met k_X4_pose (by decide) rfl (by
  rintro ⟨g0, g1, g2, g3⟩ av h hp
  rw [hp.1]
  exact Nat.le_of_ble_eq_true rfl) pf_X4_pose
theorem rc_X4_pose : ∀ g av h, P_X4_pose g av h → ∃ i t, av = .inr (.inr (4, i, 0)) :: t := by
  rintro ⟨g0, g1, g2, g3⟩ av h hp
  exact ⟨_, _, hp.1⟩
/-- what bake() does -/
def bk (N : LD) (kd s c f : Int32) (r : Int32) (N' : LD) : Prop := (∃ x y z w, x ≤ 3 ∧ y ≤ 9 ∧ z ≤ 99 ∧ w < N 0 0 ∧ kd = nI x ∧ s = nI y ∧ c = nI z ∧ f = nI w ∧ ((N 0 3 < 6 ∧ r = nI (N 0 3 + 1) ∧ N' = sp_addB N x y z w) ∨ (6 ≤ N 0 3 ∧ r = -3 ∧ N' = N))) ∨ (¬ (wi kd 0 3 ∧ wi s 0 9 ∧ wi c 0 99 ∧ ixI f (N 0 0)) ∧ r = -1 ∧ N' = N)
def P_X4_bake : Int32 × Int32 × Int32 × Int32 × LD × pm_H → List pm_V → pm_H → Prop := fun g av h => match g with
  | (kd, s, cr, f, N, h0) => av = [vR 4 0 0, vI kd, vI s, vI cr, vI f] ∧ h = h0 ∧ la_at h0 0 N ∧ la_ok N
def Q_X4_bake : Int32 × Int32 × Int32 × Int32 × LD × pm_H → Int32 → pm_H → Prop := fun g r h => match g with
  | (kd, s, c, f, N, h0) => ∃ N', bk N kd s c f r N' ∧ h = la_put h0 0 N'
def T_X4_bake : List (Nat × pm_T) := [
  (0, i_il 1 1),
  (1, i_c (nI 0) 2),
  (2, i_c (nI 3) 3),
  (3, i_ci 3 P_X4_within Q_X4_within 6),
  (6, i_ifeq 41 9),
  (9, i_il 2 10),
  (10, i_c (nI 0) 11),
  (11, i_c (nI 9) 13),
  (13, i_ci 3 P_X4_within Q_X4_within 16),
  (16, i_ifeq 41 19),
  (19, i_il 3 20),
  (20, i_c (nI 0) 21),
  (21, i_c (nI 99) 23),
  (23, i_ci 3 P_X4_within Q_X4_within 26),
  (26, i_ifeq 41 29),
  (29, i_al 0 30),
  (30, i_gr 4 (fun _ => (0, 0, 0)) 33),
  (33, i_il 4 35),
  (35, i_ci 2 P_X0_hasFellow Q_X0_hasFellow 38),
  (38, i_ifne 43 41),
  (41, i_c (-1) 42),
  (42, i_ir),
  (43, i_al 0 44),
  (44, i_gr 4 (fun _ => (0, 0, 0)) 47),
  (47, i_il 1 48),
  (48, i_il 2 49),
  (49, i_il 3 50),
  (50, i_il 4 52),
  (52, i_ci 5 P_X0_addBiscuit Q_X0_addBiscuit 55),
  (55, i_ifeq 68 58),
  (58, i_al 0 59),
  (59, i_gr 4 (fun _ => (0, 0, 0)) 62),
  (62, i_gi 0 3 65),
  (65, i_go 70),
  (68, i_c (-3) 70),
  (70, i_ir)]
theorem k_X4_bake : ∀ q ∈ T_X4_bake, pm_sd RX4 cX4_bake 5 3 1 q.1 q.2 := by
  unfold T_X4_bake
  refine pm_cn (sd_iln (k := 1) (by decide +kernel) rfl rfl) ?_
  refine pm_cn (sd_iconst (z := 0) (by decide +kernel) (by decide +kernel) rfl) ?_
  refine pm_cn (sd_iconst (z := 3) (by decide +kernel) (by decide +kernel) rfl) ?_
  refine pm_cn (sd_cis M_X4_within (by decide) cd_X4_within ml_X4_57 st_X4_within nt_X4 (by decide +kernel) (by omega) (by decide) (by decide +kernel) rfl) ?_
  refine pm_cn (sd_ifeq (off := 35) (by decide +kernel) (by decide) rfl) ?_
  refine pm_cn (sd_iln (k := 2) (by decide +kernel) rfl rfl) ?_
  refine pm_cn (sd_iconst (z := 0) (by decide +kernel) (by decide +kernel) rfl) ?_
  refine pm_cn (sd_bipush (z := 9) (by decide +kernel) (by decide +kernel) rfl) ?_
  refine pm_cn (sd_cis M_X4_within (by decide) cd_X4_within ml_X4_57 st_X4_within nt_X4 (by decide +kernel) (by omega) (by decide) (by decide +kernel) rfl) ?_
  refine pm_cn (sd_ifeq (off := 25) (by decide +kernel) (by decide) rfl) ?_
  refine pm_cn (sd_iln (k := 3) (by decide +kernel) rfl rfl) ?_
  refine pm_cn (sd_iconst (z := 0) (by decide +kernel) (by decide +kernel) rfl) ?_
  refine pm_cn (sd_bipush (z := 99) (by decide +kernel) (by decide +kernel) rfl) ?_
  refine pm_cn (sd_cis M_X4_within (by decide) cd_X4_within ml_X4_57 st_X4_within nt_X4 (by decide +kernel) (by omega) (by decide) (by decide +kernel) rfl) ?_
  refine pm_cn (sd_ifeq (off := 15) (by decide +kernel) (by decide) rfl) ?_
  refine pm_cn (sd_aln (k := 0) (by decide +kernel) rfl rfl) ?_
  refine pm_cn (sd_gr cl4_ in4_ (j := 1) (by decide) (fun _ => rfl) fl_X4_19 (by decide +kernel) rfl) ?_
  refine pm_cn (sd_il (by decide +kernel) rfl) ?_
  refine pm_cn (sd_civ M_X0_hasFellow (by decide) cd_X0_hasFellow rc_X0_hasFellow cl0_ ml_X4_111 im_X0_hasFellow se_X0_hasFellow nt_X0 (by decide +kernel) (by omega) (by decide) (by decide +kernel) rfl) ?_
  refine pm_cn (sd_ifne (off := 5) (by decide +kernel) (by decide) rfl) ?_
  refine pm_cn (sd_iconst (z := -1) (by decide +kernel) (by decide +kernel) rfl) ?_
  refine pm_cn (sd_ir (by decide +kernel)) ?_
  refine pm_cn (sd_aln (k := 0) (by decide +kernel) rfl rfl) ?_
  refine pm_cn (sd_gr cl4_ in4_ (j := 1) (by decide) (fun _ => rfl) fl_X4_19 (by decide +kernel) rfl) ?_
  refine pm_cn (sd_iln (k := 1) (by decide +kernel) rfl rfl) ?_
  refine pm_cn (sd_iln (k := 2) (by decide +kernel) rfl rfl) ?_
  refine pm_cn (sd_iln (k := 3) (by decide +kernel) rfl rfl) ?_
  refine pm_cn (sd_il (by decide +kernel) rfl) ?_
  refine pm_cn (sd_civ M_X0_addBiscuit (by decide) cd_X0_addBiscuit rc_X0_addBiscuit cl0_ ml_X4_172 im_X0_addBiscuit se_X0_addBiscuit nt_X0 (by decide +kernel) (by omega) (by decide) (by decide +kernel) rfl) ?_
  refine pm_cn (sd_ifeq (off := 13) (by decide +kernel) (by decide) rfl) ?_
  refine pm_cn (sd_aln (k := 0) (by decide +kernel) rfl rfl) ?_
  refine pm_cn (sd_gr cl4_ in4_ (j := 1) (by decide) (fun _ => rfl) fl_X4_19 (by decide +kernel) rfl) ?_
  refine pm_cn (sd_gi cl0_ in0_ (by decide) (fun _ => rfl) fl_X4_92 (by decide +kernel) rfl) ?_
  refine pm_cn (sd_go (off := 5) (by decide +kernel) (by decide)) ?_
  refine pm_cn (sd_bipush (z := -3) (by decide +kernel) (by decide +kernel) rfl) ?_
  refine pm_cn (sd_ir (by decide +kernel)) ?_
  exact fun _ h => absurd h List.not_mem_nil
set_option maxHeartbeats 4000000 in
set_option maxRecDepth 100000 in
theorem pf_X4_bake : pm_pf T_X4_bake P_X4_bake (pm_pi Q_X4_bake) := by
  rintro ⟨kd, s, cr, f, N, h0⟩ av h K hK ⟨rfl, rfl, hN, wN⟩ hret
  have e := la_self hN
  have w1 := wN.1
  show K (some 0) ([(0, vR 4 0 0), (1, vI kd), (2, vI s), (3, vI cr), (4, vI f)], [], h)
  refine hK [] 80 _ _ ?_
  conv => whnf
  repeat' (first
    | (refine ⟨fun c9 => ?_, fun c9 => ?_⟩ <;> (try simp (disch := omega) only [nI_leI, nI_ltI, nI_eq, nz_eq, nz_lt, nz_gt, nz_le, nz_ge, nz_00, nz_n1, nI_add, pk_mul, pk_sub, nI_shl1, nI_or, nI_half2, nI_min2, la_put_eq, la_up, lr_same, lr_ne, lu_same, lu_ne, not_true_eq_false, not_false_eq_true] at c9) <;> first | (exfalso; omega) | conv => whnf)
    | (refine ⟨_, rfl, by omega, ?_⟩; conv => whnf)
    | (refine ⟨_, rfl, rfl, rfl, by decide, by decide, ?_⟩; conv => whnf)
    | (refine ⟨_, by (simp (disch := omega) only [nI_leI, nI_ltI, nI_eq, nz_eq, nz_lt, nz_gt, nz_le, nz_ge, nz_00, nz_n1, nI_add, pk_mul, pk_sub, nI_shl1, nI_or, nI_half2, nI_min2, la_put_eq, la_up, lr_same, lr_ne, lu_same, lu_ne, not_true_eq_false, not_false_eq_true]; rfl), by omega, ?_⟩; conv => whnf)
    | (refine And.intro (by first | assumption | decide) ?_; conv => whnf))
  all_goals (try simp (disch := omega) only [nI_leI, nI_ltI, nI_eq, nz_eq, nz_lt, nz_gt, nz_le, nz_ge, nz_00, nz_n1, nI_add, pk_mul, pk_sub, nI_shl1, nI_or, nI_half2, nI_min2, la_put_eq, la_up, lr_same, lr_ne, lu_same, lu_ne, not_true_eq_false, not_false_eq_true])
  refine ⟨(kd, nI 0, nI 3, h), ⟨rfl, rfl⟩, fun v h' hq => ?_⟩
  obtain ⟨rfl, ⟨⟨x, h1, hx, rfl⟩, rfl⟩ | ⟨hc, rfl⟩⟩ := Q_within (by decide) (by decide) hq
  · conv => whnf
    repeat' (first
      | (refine ⟨fun c9 => ?_, fun c9 => ?_⟩ <;> (try simp (disch := omega) only [nI_leI, nI_ltI, nI_eq, nz_eq, nz_lt, nz_gt, nz_le, nz_ge, nz_00, nz_n1, nI_add, pk_mul, pk_sub, nI_shl1, nI_or, nI_half2, nI_min2, la_put_eq, la_up, lr_same, lr_ne, lu_same, lu_ne, not_true_eq_false, not_false_eq_true] at c9) <;> first | (exfalso; omega) | conv => whnf)
      | (refine ⟨_, rfl, by omega, ?_⟩; conv => whnf)
      | (refine ⟨_, rfl, rfl, rfl, by decide, by decide, ?_⟩; conv => whnf)
      | (refine ⟨_, by (simp (disch := omega) only [nI_leI, nI_ltI, nI_eq, nz_eq, nz_lt, nz_gt, nz_le, nz_ge, nz_00, nz_n1, nI_add, pk_mul, pk_sub, nI_shl1, nI_or, nI_half2, nI_min2, la_put_eq, la_up, lr_same, lr_ne, lu_same, lu_ne, not_true_eq_false, not_false_eq_true]; rfl), by omega, ?_⟩; conv => whnf)
      | (refine And.intro (by first | assumption | decide) ?_; conv => whnf))
    all_goals (try simp (disch := omega) only [nI_leI, nI_ltI, nI_eq, nz_eq, nz_lt, nz_gt, nz_le, nz_ge, nz_00, nz_n1, nI_add, pk_mul, pk_sub, nI_shl1, nI_or, nI_half2, nI_min2, la_put_eq, la_up, lr_same, lr_ne, lu_same, lu_ne, not_true_eq_false, not_false_eq_true])
    refine ⟨(s, nI 0, nI 9, _), ⟨rfl, rfl⟩, fun v h' hq => ?_⟩
    obtain ⟨rfl, ⟨⟨y, h1, hy, rfl⟩, rfl⟩ | ⟨hc, rfl⟩⟩ := Q_within (by decide) (by decide) hq
    · conv => whnf
      repeat' (first
        | (refine ⟨fun c9 => ?_, fun c9 => ?_⟩ <;> (try simp (disch := omega) only [nI_leI, nI_ltI, nI_eq, nz_eq, nz_lt, nz_gt, nz_le, nz_ge, nz_00, nz_n1, nI_add, pk_mul, pk_sub, nI_shl1, nI_or, nI_half2, nI_min2, la_put_eq, la_up, lr_same, lr_ne, lu_same, lu_ne, not_true_eq_false, not_false_eq_true] at c9) <;> first | (exfalso; omega) | conv => whnf)
        | (refine ⟨_, rfl, by omega, ?_⟩; conv => whnf)
        | (refine ⟨_, rfl, rfl, rfl, by decide, by decide, ?_⟩; conv => whnf)
        | (refine ⟨_, by (simp (disch := omega) only [nI_leI, nI_ltI, nI_eq, nz_eq, nz_lt, nz_gt, nz_le, nz_ge, nz_00, nz_n1, nI_add, pk_mul, pk_sub, nI_shl1, nI_or, nI_half2, nI_min2, la_put_eq, la_up, lr_same, lr_ne, lu_same, lu_ne, not_true_eq_false, not_false_eq_true]; rfl), by omega, ?_⟩; conv => whnf)
        | (refine And.intro (by first | assumption | decide) ?_; conv => whnf))
      all_goals (try simp (disch := omega) only [nI_leI, nI_ltI, nI_eq, nz_eq, nz_lt, nz_gt, nz_le, nz_ge, nz_00, nz_n1, nI_add, pk_mul, pk_sub, nI_shl1, nI_or, nI_half2, nI_min2, la_put_eq, la_up, lr_same, lr_ne, lu_same, lu_ne, not_true_eq_false, not_false_eq_true])
      refine ⟨(cr, nI 0, nI 99, _), ⟨rfl, rfl⟩, fun v h' hq => ?_⟩
      obtain ⟨rfl, ⟨⟨z, h1, hz, rfl⟩, rfl⟩ | ⟨hc, rfl⟩⟩ := Q_within (by decide) (by decide) hq
      · conv => whnf
        repeat' (first
          | (refine ⟨fun c9 => ?_, fun c9 => ?_⟩ <;> (try simp (disch := omega) only [nI_leI, nI_ltI, nI_eq, nz_eq, nz_lt, nz_gt, nz_le, nz_ge, nz_00, nz_n1, nI_add, pk_mul, pk_sub, nI_shl1, nI_or, nI_half2, nI_min2, la_put_eq, la_up, lr_same, lr_ne, lu_same, lu_ne, not_true_eq_false, not_false_eq_true] at c9) <;> first | (exfalso; omega) | conv => whnf)
          | (refine ⟨_, rfl, by omega, ?_⟩; conv => whnf)
          | (refine ⟨_, rfl, rfl, rfl, by decide, by decide, ?_⟩; conv => whnf)
          | (refine ⟨_, by (simp (disch := omega) only [nI_leI, nI_ltI, nI_eq, nz_eq, nz_lt, nz_gt, nz_le, nz_ge, nz_00, nz_n1, nI_add, pk_mul, pk_sub, nI_shl1, nI_or, nI_half2, nI_min2, la_put_eq, la_up, lr_same, lr_ne, lu_same, lu_ne, not_true_eq_false, not_false_eq_true]; rfl), by omega, ?_⟩; conv => whnf)
          | (refine And.intro (by first | assumption | decide) ?_; conv => whnf))
        all_goals (try simp (disch := omega) only [nI_leI, nI_ltI, nI_eq, nz_eq, nz_lt, nz_gt, nz_le, nz_ge, nz_00, nz_n1, nI_add, pk_mul, pk_sub, nI_shl1, nI_or, nI_half2, nI_min2, la_put_eq, la_up, lr_same, lr_ne, lu_same, lu_ne, not_true_eq_false, not_false_eq_true])
        refine ⟨(0, f, N, _), ⟨rfl, rfl, hN, wN⟩, fun v h' hq => ?_⟩
        obtain ⟨rfl, ⟨⟨w, hw, rfl⟩, rfl⟩ | ⟨hc, rfl⟩⟩ := hq
        · conv => whnf
          repeat' (first
            | (refine ⟨fun c9 => ?_, fun c9 => ?_⟩ <;> (try simp (disch := omega) only [nI_leI, nI_ltI, nI_eq, nz_eq, nz_lt, nz_gt, nz_le, nz_ge, nz_00, nz_n1, nI_add, pk_mul, pk_sub, nI_shl1, nI_or, nI_half2, nI_min2, la_put_eq, la_up, lr_same, lr_ne, lu_same, lu_ne, not_true_eq_false, not_false_eq_true] at c9) <;> first | (exfalso; omega) | conv => whnf)
            | (refine ⟨_, rfl, by omega, ?_⟩; conv => whnf)
            | (refine ⟨_, rfl, rfl, rfl, by decide, by decide, ?_⟩; conv => whnf)
            | (refine ⟨_, by (simp (disch := omega) only [nI_leI, nI_ltI, nI_eq, nz_eq, nz_lt, nz_gt, nz_le, nz_ge, nz_00, nz_n1, nI_add, pk_mul, pk_sub, nI_shl1, nI_or, nI_half2, nI_min2, la_put_eq, la_up, lr_same, lr_ne, lu_same, lu_ne, not_true_eq_false, not_false_eq_true]; rfl), by omega, ?_⟩; conv => whnf)
            | (refine And.intro (by first | assumption | decide) ?_; conv => whnf))
          all_goals (try simp (disch := omega) only [nI_leI, nI_ltI, nI_eq, nz_eq, nz_lt, nz_gt, nz_le, nz_ge, nz_00, nz_n1, nI_add, pk_mul, pk_sub, nI_shl1, nI_or, nI_half2, nI_min2, la_put_eq, la_up, lr_same, lr_ne, lu_same, lu_ne, not_true_eq_false, not_false_eq_true])
          refine ⟨(0, x, y, z, w, N, _), ⟨rfl, rfl, hN, wN⟩, fun v h' hq => ?_⟩
          rcases hq with ⟨hlt, rfl, rfl⟩ | ⟨hge, rfl, rfl⟩
          · conv => whnf
            repeat' (first
              | (refine ⟨fun c9 => ?_, fun c9 => ?_⟩ <;> (try simp (disch := omega) only [nI_leI, nI_ltI, nI_eq, nz_eq, nz_lt, nz_gt, nz_le, nz_ge, nz_00, nz_n1, nI_add, pk_mul, pk_sub, nI_shl1, nI_or, nI_half2, nI_min2, la_put_eq, la_up, lr_same, lr_ne, lu_same, lu_ne, not_true_eq_false, not_false_eq_true, sp_addB_3] at c9) <;> first | (exfalso; omega) | conv => whnf)
              | (refine ⟨_, rfl, by omega, ?_⟩; conv => whnf)
              | (refine ⟨_, rfl, rfl, rfl, by decide, by decide, ?_⟩; conv => whnf)
              | (refine ⟨_, by (simp (disch := omega) only [nI_leI, nI_ltI, nI_eq, nz_eq, nz_lt, nz_gt, nz_le, nz_ge, nz_00, nz_n1, nI_add, pk_mul, pk_sub, nI_shl1, nI_or, nI_half2, nI_min2, la_put_eq, la_up, lr_same, lr_ne, lu_same, lu_ne, not_true_eq_false, not_false_eq_true, sp_addB_3]; rfl), by omega, ?_⟩; conv => whnf)
              | (refine And.intro (by first | assumption | decide) ?_; conv => whnf))
            all_goals (try simp (disch := omega) only [nI_leI, nI_ltI, nI_eq, nz_eq, nz_lt, nz_gt, nz_le, nz_ge, nz_00, nz_n1, nI_add, pk_mul, pk_sub, nI_shl1, nI_or, nI_half2, nI_min2, la_put_eq, la_up, lr_same, lr_ne, lu_same, lu_ne, not_true_eq_false, not_false_eq_true, sp_addB_3])
            refine hret _ _ ?_
            exact ⟨_, Or.inl ⟨x, y, z, w, hx, hy, hz, hw, rfl, rfl, rfl, rfl, Or.inl ⟨hlt, rfl, rfl⟩⟩, rfl⟩
          · conv => whnf
            repeat' (first
              | (refine ⟨fun c9 => ?_, fun c9 => ?_⟩ <;> (try simp (disch := omega) only [nI_leI, nI_ltI, nI_eq, nz_eq, nz_lt, nz_gt, nz_le, nz_ge, nz_00, nz_n1, nI_add, pk_mul, pk_sub, nI_shl1, nI_or, nI_half2, nI_min2, la_put_eq, la_up, lr_same, lr_ne, lu_same, lu_ne, not_true_eq_false, not_false_eq_true] at c9) <;> first | (exfalso; omega) | conv => whnf)
              | (refine ⟨_, rfl, by omega, ?_⟩; conv => whnf)
              | (refine ⟨_, rfl, rfl, rfl, by decide, by decide, ?_⟩; conv => whnf)
              | (refine ⟨_, by (simp (disch := omega) only [nI_leI, nI_ltI, nI_eq, nz_eq, nz_lt, nz_gt, nz_le, nz_ge, nz_00, nz_n1, nI_add, pk_mul, pk_sub, nI_shl1, nI_or, nI_half2, nI_min2, la_put_eq, la_up, lr_same, lr_ne, lu_same, lu_ne, not_true_eq_false, not_false_eq_true]; rfl), by omega, ?_⟩; conv => whnf)
              | (refine And.intro (by first | assumption | decide) ?_; conv => whnf))
            all_goals (try simp (disch := omega) only [nI_leI, nI_ltI, nI_eq, nz_eq, nz_lt, nz_gt, nz_le, nz_ge, nz_00, nz_n1, nI_add, pk_mul, pk_sub, nI_shl1, nI_or, nI_half2, nI_min2, la_put_eq, la_up, lr_same, lr_ne, lu_same, lu_ne, not_true_eq_false, not_false_eq_true])
            refine hret _ _ ?_
            exact ⟨N, Or.inl ⟨x, y, z, w, hx, hy, hz, hw, rfl, rfl, rfl, rfl, Or.inr ⟨hge, rfl, rfl⟩⟩, e.symm⟩
        · conv => whnf
          repeat' (first
            | (refine ⟨fun c9 => ?_, fun c9 => ?_⟩ <;> (try simp (disch := omega) only [nI_leI, nI_ltI, nI_eq, nz_eq, nz_lt, nz_gt, nz_le, nz_ge, nz_00, nz_n1, nI_add, pk_mul, pk_sub, nI_shl1, nI_or, nI_half2, nI_min2, la_put_eq, la_up, lr_same, lr_ne, lu_same, lu_ne, not_true_eq_false, not_false_eq_true] at c9) <;> first | (exfalso; omega) | conv => whnf)
            | (refine ⟨_, rfl, by omega, ?_⟩; conv => whnf)
            | (refine ⟨_, rfl, rfl, rfl, by decide, by decide, ?_⟩; conv => whnf)
            | (refine ⟨_, by (simp (disch := omega) only [nI_leI, nI_ltI, nI_eq, nz_eq, nz_lt, nz_gt, nz_le, nz_ge, nz_00, nz_n1, nI_add, pk_mul, pk_sub, nI_shl1, nI_or, nI_half2, nI_min2, la_put_eq, la_up, lr_same, lr_ne, lu_same, lu_ne, not_true_eq_false, not_false_eq_true]; rfl), by omega, ?_⟩; conv => whnf)
            | (refine And.intro (by first | assumption | decide) ?_; conv => whnf))
          all_goals (try simp (disch := omega) only [nI_leI, nI_ltI, nI_eq, nz_eq, nz_lt, nz_gt, nz_le, nz_ge, nz_00, nz_n1, nI_add, pk_mul, pk_sub, nI_shl1, nI_or, nI_half2, nI_min2, la_put_eq, la_up, lr_same, lr_ne, lu_same, lu_ne, not_true_eq_false, not_false_eq_true])
          refine hret _ _ ?_
          exact ⟨N, Or.inr ⟨fun q => hc q.2.2.2, rfl, rfl⟩, e.symm⟩
      · conv => whnf
        repeat' (first
          | (refine ⟨fun c9 => ?_, fun c9 => ?_⟩ <;> (try simp (disch := omega) only [nI_leI, nI_ltI, nI_eq, nz_eq, nz_lt, nz_gt, nz_le, nz_ge, nz_00, nz_n1, nI_add, pk_mul, pk_sub, nI_shl1, nI_or, nI_half2, nI_min2, la_put_eq, la_up, lr_same, lr_ne, lu_same, lu_ne, not_true_eq_false, not_false_eq_true] at c9) <;> first | (exfalso; omega) | conv => whnf)
          | (refine ⟨_, rfl, by omega, ?_⟩; conv => whnf)
          | (refine ⟨_, rfl, rfl, rfl, by decide, by decide, ?_⟩; conv => whnf)
          | (refine ⟨_, by (simp (disch := omega) only [nI_leI, nI_ltI, nI_eq, nz_eq, nz_lt, nz_gt, nz_le, nz_ge, nz_00, nz_n1, nI_add, pk_mul, pk_sub, nI_shl1, nI_or, nI_half2, nI_min2, la_put_eq, la_up, lr_same, lr_ne, lu_same, lu_ne, not_true_eq_false, not_false_eq_true]; rfl), by omega, ?_⟩; conv => whnf)
          | (refine And.intro (by first | assumption | decide) ?_; conv => whnf))
        all_goals (try simp (disch := omega) only [nI_leI, nI_ltI, nI_eq, nz_eq, nz_lt, nz_gt, nz_le, nz_ge, nz_00, nz_n1, nI_add, pk_mul, pk_sub, nI_shl1, nI_or, nI_half2, nI_min2, la_put_eq, la_up, lr_same, lr_ne, lu_same, lu_ne, not_true_eq_false, not_false_eq_true])
        refine hret _ _ ?_
        exact ⟨N, Or.inr ⟨fun q => hc q.2.2.1, rfl, rfl⟩, e.symm⟩
    · conv => whnf
      repeat' (first
        | (refine ⟨fun c9 => ?_, fun c9 => ?_⟩ <;> (try simp (disch := omega) only [nI_leI, nI_ltI, nI_eq, nz_eq, nz_lt, nz_gt, nz_le, nz_ge, nz_00, nz_n1, nI_add, pk_mul, pk_sub, nI_shl1, nI_or, nI_half2, nI_min2, la_put_eq, la_up, lr_same, lr_ne, lu_same, lu_ne, not_true_eq_false, not_false_eq_true] at c9) <;> first | (exfalso; omega) | conv => whnf)
        | (refine ⟨_, rfl, by omega, ?_⟩; conv => whnf)
        | (refine ⟨_, rfl, rfl, rfl, by decide, by decide, ?_⟩; conv => whnf)
        | (refine ⟨_, by (simp (disch := omega) only [nI_leI, nI_ltI, nI_eq, nz_eq, nz_lt, nz_gt, nz_le, nz_ge, nz_00, nz_n1, nI_add, pk_mul, pk_sub, nI_shl1, nI_or, nI_half2, nI_min2, la_put_eq, la_up, lr_same, lr_ne, lu_same, lu_ne, not_true_eq_false, not_false_eq_true]; rfl), by omega, ?_⟩; conv => whnf)
        | (refine And.intro (by first | assumption | decide) ?_; conv => whnf))
      all_goals (try simp (disch := omega) only [nI_leI, nI_ltI, nI_eq, nz_eq, nz_lt, nz_gt, nz_le, nz_ge, nz_00, nz_n1, nI_add, pk_mul, pk_sub, nI_shl1, nI_or, nI_half2, nI_min2, la_put_eq, la_up, lr_same, lr_ne, lu_same, lu_ne, not_true_eq_false, not_false_eq_true])
      refine hret _ _ ?_
      exact ⟨N, Or.inr ⟨fun q => hc q.2.1, rfl, rfl⟩, e.symm⟩
  · conv => whnf
    repeat' (first
      | (refine ⟨fun c9 => ?_, fun c9 => ?_⟩ <;> (try simp (disch := omega) only [nI_leI, nI_ltI, nI_eq, nz_eq, nz_lt, nz_gt, nz_le, nz_ge, nz_00, nz_n1, nI_add, pk_mul, pk_sub, nI_shl1, nI_or, nI_half2, nI_min2, la_put_eq, la_up, lr_same, lr_ne, lu_same, lu_ne, not_true_eq_false, not_false_eq_true] at c9) <;> first | (exfalso; omega) | conv => whnf)
      | (refine ⟨_, rfl, by omega, ?_⟩; conv => whnf)
      | (refine ⟨_, rfl, rfl, rfl, by decide, by decide, ?_⟩; conv => whnf)
      | (refine ⟨_, by (simp (disch := omega) only [nI_leI, nI_ltI, nI_eq, nz_eq, nz_lt, nz_gt, nz_le, nz_ge, nz_00, nz_n1, nI_add, pk_mul, pk_sub, nI_shl1, nI_or, nI_half2, nI_min2, la_put_eq, la_up, lr_same, lr_ne, lu_same, lu_ne, not_true_eq_false, not_false_eq_true]; rfl), by omega, ?_⟩; conv => whnf)
      | (refine And.intro (by first | assumption | decide) ?_; conv => whnf))
    all_goals (try simp (disch := omega) only [nI_leI, nI_ltI, nI_eq, nz_eq, nz_lt, nz_gt, nz_le, nz_ge, nz_00, nz_n1, nI_add, pk_mul, pk_sub, nI_shl1, nI_or, nI_half2, nI_min2, la_put_eq, la_up, lr_same, lr_ne, lu_same, lu_ne, not_true_eq_false, not_false_eq_true])
    refine hret _ _ ?_
    exact ⟨N, Or.inr ⟨fun q => hc q.1, rfl, rfl⟩, e.symm⟩
theorem M_X4_bake : pm_MT yX4_bake cX4_bake 5 1 3 P_X4_bake (pm_pi Q_X4_bake) := pm_met k_X4_bake (by decide) rfl (by
  rintro ⟨g0, g1, g2, g3, g4, g5⟩ av h hp
  rw [hp.1]
  exact Nat.le_of_ble_eq_true rfl) pf_X4_bake
theorem rc_X4_bake : ∀ g av h, P_X4_bake g av h → ∃ i t, av = .inr (.inr (4, i, 0)) :: t := by
  rintro ⟨g0, g1, g2, g3, g4, g5⟩ av h hp
  exact ⟨_, _, hp.1⟩
def sp_eats (N : LD) : Nat → Nat
  | 0 => 0
  | n + 1 => sp_eats N n + sp_day (sp_lives N n)
def P_X4_days : Int32 × LD × pm_H → List pm_V → pm_H → Prop := fun g av h => match g with
  | (v, N, h0) => av = [vR 4 0 0, vI v] ∧ h = h0 ∧ la_at h0 0 N ∧ la_ok N ∧ N 0 10 ≤ 999
def Q_X4_days : Int32 × LD × pm_H → Int32 → pm_H → Prop := fun g r h => match g with
  | (v, N, h0) => (∃ k, k ≤ 30 ∧ v = nI k ∧ ((N 0 10 + k < 1000 ∧ r = nI (sp_eats N k) ∧ h = la_put h0 0 (sp_lives N k)) ∨ (1000 ≤ N 0 10 + k ∧ r = -3 ∧ h = h0))) ∨ (¬ wi v 0 30 ∧ r = -1 ∧ h = h0)
def T_X4_days : List (Nat × pm_T) := [
  (0, i_il 1 1),
  (1, i_c (nI 0) 2),
  (2, i_c (nI 30) 4),
  (4, i_ci 3 P_X4_within Q_X4_within 7),
  (7, i_ifne 12 10),
  (10, i_c (-1) 11),
  (11, i_ir),
  (12, i_al 0 13),
  (13, i_gr 4 (fun _ => (0, 0, 0)) 16),
  (16, i_gi 0 10 19),
  (19, i_il 1 20),
  (20, i_iadd 21),
  (21, i_c (nI 1000) 24),
  (24, i_iclt 30 27),
  (27, i_c (-3) 29),
  (29, i_ir),
  (30, i_c (nI 0) 31),
  (31, i_is 2 32),
  (32, i_c (nI 0) 33),
  (33, i_is 3 34),
  (34, i_il 3 35),
  (35, i_il 1 36),
  (36, i_icge 55 39),
  (39, i_il 2 40),
  (40, i_al 0 41),
  (41, i_gr 4 (fun _ => (0, 0, 0)) 44),
  (44, i_ci 1 P_X0_live Q_X0_live 47),
  (47, i_iadd 48),
  (48, i_is 2 49),
  (49, i_inc 3 (nI 1) 52),
  (52, i_go 34),
  (55, i_il 2 56),
  (56, i_ir)]
theorem k_X4_days : ∀ q ∈ T_X4_days, pm_sd RX4 cX4_days 4 4 1 q.1 q.2 := by
  unfold T_X4_days
  refine pm_cn (sd_iln (k := 1) (by decide +kernel) rfl rfl) ?_
  refine pm_cn (sd_iconst (z := 0) (by decide +kernel) (by decide +kernel) rfl) ?_
  refine pm_cn (sd_bipush (z := 30) (by decide +kernel) (by decide +kernel) rfl) ?_
  refine pm_cn (sd_cis M_X4_within (by decide) cd_X4_within ml_X4_57 st_X4_within nt_X4 (by decide +kernel) (by omega) (by decide) (by decide +kernel) rfl) ?_
  refine pm_cn (sd_ifne (off := 5) (by decide +kernel) (by decide) rfl) ?_
  refine pm_cn (sd_iconst (z := -1) (by decide +kernel) (by decide +kernel) rfl) ?_
  refine pm_cn (sd_ir (by decide +kernel)) ?_
  refine pm_cn (sd_aln (k := 0) (by decide +kernel) rfl rfl) ?_
  refine pm_cn (sd_gr cl4_ in4_ (j := 1) (by decide) (fun _ => rfl) fl_X4_19 (by decide +kernel) rfl) ?_
  refine pm_cn (sd_gi cl0_ in0_ (by decide) (fun _ => rfl) fl_X4_101 (by decide +kernel) rfl) ?_
  refine pm_cn (sd_iln (k := 1) (by decide +kernel) rfl rfl) ?_
  refine pm_cn (sd_iadd (by decide +kernel) rfl) ?_
  refine pm_cn (sd_sipush (z := 1000) (by decide +kernel) (by decide +kernel) rfl) ?_
  refine pm_cn (sd_iclt (off := 6) (by decide +kernel) (by decide) rfl) ?_
  refine pm_cn (sd_bipush (z := -3) (by decide +kernel) (by decide +kernel) rfl) ?_
  refine pm_cn (sd_ir (by decide +kernel)) ?_
  refine pm_cn (sd_iconst (z := 0) (by decide +kernel) (by decide +kernel) rfl) ?_
  refine pm_cn (sd_isn (k := 2) (by decide +kernel) rfl rfl (by decide)) ?_
  refine pm_cn (sd_iconst (z := 0) (by decide +kernel) (by decide +kernel) rfl) ?_
  refine pm_cn (sd_isn (k := 3) (by decide +kernel) rfl rfl (by decide)) ?_
  refine pm_cn (sd_iln (k := 3) (by decide +kernel) rfl rfl) ?_
  refine pm_cn (sd_iln (k := 1) (by decide +kernel) rfl rfl) ?_
  refine pm_cn (sd_icge (off := 19) (by decide +kernel) (by decide) rfl) ?_
  refine pm_cn (sd_iln (k := 2) (by decide +kernel) rfl rfl) ?_
  refine pm_cn (sd_aln (k := 0) (by decide +kernel) rfl rfl) ?_
  refine pm_cn (sd_gr cl4_ in4_ (j := 1) (by decide) (fun _ => rfl) fl_X4_19 (by decide +kernel) rfl) ?_
  refine pm_cn (sd_civ M_X0_live (by decide) cd_X0_live rc_X0_live cl0_ ml_X4_176 im_X0_live se_X0_live nt_X0 (by decide +kernel) (by omega) (by decide) (by decide +kernel) rfl) ?_
  refine pm_cn (sd_iadd (by decide +kernel) rfl) ?_
  refine pm_cn (sd_isn (k := 2) (by decide +kernel) rfl rfl (by decide)) ?_
  refine pm_cn (sd_inc (z := 1) (by decide +kernel) (by decide +kernel) rfl (by decide)) ?_
  refine pm_cn (sd_go (off := -18) (by decide +kernel) (by decide)) ?_
  refine pm_cn (sd_iln (k := 2) (by decide +kernel) rfl rfl) ?_
  refine pm_cn (sd_ir (by decide +kernel)) ?_
  exact fun _ h => absurd h List.not_mem_nil
set_option maxHeartbeats 4000000 in
set_option maxRecDepth 100000 in
theorem pf_X4_days : pm_pf T_X4_days P_X4_days (pm_pi Q_X4_days) := by
  rintro ⟨c, N, h0⟩ av h K hK ⟨rfl, rfl, hN, wN, hd⟩ hret
  have e := la_self hN
  show K (some 0) ([(0, vR 4 0 0), (1, vI c)], [], h)
  refine hK [(34, [0, 1, 2, 3])] 60 _ _ ?_
  conv => whnf
  repeat' (first
    | (refine ⟨fun c9 => ?_, fun c9 => ?_⟩ <;> (try simp (disch := omega) only [nI_leI, nI_ltI, nI_eq, nz_eq, nz_lt, nz_gt, nz_le, nz_ge, nz_00, nz_n1, nI_add, pk_mul, pk_sub, nI_shl1, nI_or, nI_half2, nI_min2, la_put_eq, la_up, lr_same, lr_ne, lu_same, lu_ne, not_true_eq_false, not_false_eq_true] at c9) <;> first | (exfalso; omega) | conv => whnf)
    | (refine ⟨_, rfl, by omega, ?_⟩; conv => whnf)
    | (refine ⟨_, rfl, rfl, rfl, by decide, by decide, ?_⟩; conv => whnf)
    | (refine ⟨_, by (simp (disch := omega) only [nI_leI, nI_ltI, nI_eq, nz_eq, nz_lt, nz_gt, nz_le, nz_ge, nz_00, nz_n1, nI_add, pk_mul, pk_sub, nI_shl1, nI_or, nI_half2, nI_min2, la_put_eq, la_up, lr_same, lr_ne, lu_same, lu_ne, not_true_eq_false, not_false_eq_true]; rfl), by omega, ?_⟩; conv => whnf)
    | (refine And.intro (by first | assumption | decide) ?_; conv => whnf))
  all_goals (try simp (disch := omega) only [nI_leI, nI_ltI, nI_eq, nz_eq, nz_lt, nz_gt, nz_le, nz_ge, nz_00, nz_n1, nI_add, pk_mul, pk_sub, nI_shl1, nI_or, nI_half2, nI_min2, la_put_eq, la_up, lr_same, lr_ne, lu_same, lu_ne, not_true_eq_false, not_false_eq_true])
  refine ⟨(c, nI 0, nI 30, h), ⟨rfl, rfl⟩, fun v h' hq => ?_⟩
  obtain ⟨rfl, ⟨⟨M, h1, h2, rfl⟩, rfl⟩ | ⟨hc, rfl⟩⟩ := Q_within (by decide) (by decide) hq
  · have loop : N 0 10 + M < 1000 → ∀ n k a H, k + n = M → a = sp_eats N k → H = la_put h' 0 (sp_lives N k) → K (some 34) ([(0, vR 4 0 0), (1, vI (nI M)), (2, vI (nI a)), (3, vI (nI k))], [], H) := by
      intro hM n
      induction n with
      | zero =>
        intro k a H hk ha hH
        refine hK [(34, [0, 1, 2, 3])] 40 _ _ ?_
        conv => whnf
        repeat' (first
          | (refine ⟨fun c9 => ?_, fun c9 => ?_⟩ <;> (try simp (disch := omega) only [nI_leI, nI_ltI, nI_eq, nz_eq, nz_lt, nz_gt, nz_le, nz_ge, nz_00, nz_n1, nI_add, pk_mul, pk_sub, nI_shl1, nI_or, nI_half2, nI_min2, la_put_eq, la_up, lr_same, lr_ne, lu_same, lu_ne, not_true_eq_false, not_false_eq_true] at c9) <;> first | (exfalso; omega) | conv => whnf)
          | (refine ⟨_, rfl, by omega, ?_⟩; conv => whnf)
          | (refine ⟨_, rfl, rfl, rfl, by decide, by decide, ?_⟩; conv => whnf)
          | (refine ⟨_, by (simp (disch := omega) only [nI_leI, nI_ltI, nI_eq, nz_eq, nz_lt, nz_gt, nz_le, nz_ge, nz_00, nz_n1, nI_add, pk_mul, pk_sub, nI_shl1, nI_or, nI_half2, nI_min2, la_put_eq, la_up, lr_same, lr_ne, lu_same, lu_ne, not_true_eq_false, not_false_eq_true]; rfl), by omega, ?_⟩; conv => whnf)
          | (refine And.intro (by first | assumption | decide) ?_; conv => whnf))
        all_goals (try simp (disch := omega) only [nI_leI, nI_ltI, nI_eq, nz_eq, nz_lt, nz_gt, nz_le, nz_ge, nz_00, nz_n1, nI_add, pk_mul, pk_sub, nI_shl1, nI_or, nI_half2, nI_min2, la_put_eq, la_up, lr_same, lr_ne, lu_same, lu_ne, not_true_eq_false, not_false_eq_true])
        have : k = M := by omega
        subst this
        subst ha hH
        refine hret _ _ ?_
        exact Or.inl ⟨k, h2, rfl, Or.inl ⟨hM, rfl, rfl⟩⟩
      | succ n ih =>
        intro k a H hk ha hH
        have hwk := la_ok_lives wN k (by omega)
        have hdk := sp_lives_day N k
        subst hH
        refine hK [(34, [0, 1, 2, 3])] 40 _ _ ?_
        conv => whnf
        repeat' (first
          | (refine ⟨fun c9 => ?_, fun c9 => ?_⟩ <;> (try simp (disch := omega) only [nI_leI, nI_ltI, nI_eq, nz_eq, nz_lt, nz_gt, nz_le, nz_ge, nz_00, nz_n1, nI_add, pk_mul, pk_sub, nI_shl1, nI_or, nI_half2, nI_min2, la_put_eq, la_up, lr_same, lr_ne, lu_same, lu_ne, not_true_eq_false, not_false_eq_true] at c9) <;> first | (exfalso; omega) | conv => whnf)
          | (refine ⟨_, rfl, by omega, ?_⟩; conv => whnf)
          | (refine ⟨_, rfl, rfl, rfl, by decide, by decide, ?_⟩; conv => whnf)
          | (refine ⟨_, by (simp (disch := omega) only [nI_leI, nI_ltI, nI_eq, nz_eq, nz_lt, nz_gt, nz_le, nz_ge, nz_00, nz_n1, nI_add, pk_mul, pk_sub, nI_shl1, nI_or, nI_half2, nI_min2, la_put_eq, la_up, lr_same, lr_ne, lu_same, lu_ne, not_true_eq_false, not_false_eq_true]; rfl), by omega, ?_⟩; conv => whnf)
          | (refine And.intro (by first | assumption | decide) ?_; conv => whnf))
        all_goals (try simp (disch := omega) only [nI_leI, nI_ltI, nI_eq, nz_eq, nz_lt, nz_gt, nz_le, nz_ge, nz_00, nz_n1, nI_add, pk_mul, pk_sub, nI_shl1, nI_or, nI_half2, nI_min2, la_put_eq, la_up, lr_same, lr_ne, lu_same, lu_ne, not_true_eq_false, not_false_eq_true])
        refine ⟨(0, sp_lives N k, _), ⟨rfl, rfl, la_put_at _ _ _, hwk, by omega⟩, fun v h' hq => ?_⟩
        obtain ⟨rfl, rfl⟩ := hq
        conv => whnf
        repeat' (first
          | (refine ⟨fun c9 => ?_, fun c9 => ?_⟩ <;> (try simp (disch := omega) only [nI_leI, nI_ltI, nI_eq, nz_eq, nz_lt, nz_gt, nz_le, nz_ge, nz_00, nz_n1, nI_add, pk_mul, pk_sub, nI_shl1, nI_or, nI_half2, nI_min2, la_put_eq, la_up, lr_same, lr_ne, lu_same, lu_ne, not_true_eq_false, not_false_eq_true, la_put2] at c9) <;> first | (exfalso; omega) | conv => whnf)
          | (refine ⟨_, rfl, by omega, ?_⟩; conv => whnf)
          | (refine ⟨_, rfl, rfl, rfl, by decide, by decide, ?_⟩; conv => whnf)
          | (refine ⟨_, by (simp (disch := omega) only [nI_leI, nI_ltI, nI_eq, nz_eq, nz_lt, nz_gt, nz_le, nz_ge, nz_00, nz_n1, nI_add, pk_mul, pk_sub, nI_shl1, nI_or, nI_half2, nI_min2, la_put_eq, la_up, lr_same, lr_ne, lu_same, lu_ne, not_true_eq_false, not_false_eq_true, la_put2]; rfl), by omega, ?_⟩; conv => whnf)
          | (refine And.intro (by first | assumption | decide) ?_; conv => whnf))
        all_goals (try simp (disch := omega) only [nI_leI, nI_ltI, nI_eq, nz_eq, nz_lt, nz_gt, nz_le, nz_ge, nz_00, nz_n1, nI_add, pk_mul, pk_sub, nI_shl1, nI_or, nI_half2, nI_min2, la_put_eq, la_up, lr_same, lr_ne, lu_same, lu_ne, not_true_eq_false, not_false_eq_true, la_put2])
        exact ih (k + 1) _ _ (by omega) (by rw [sp_eats, ← ha]) rfl
    conv => whnf
    repeat' (first
      | (refine ⟨fun c9 => ?_, fun c9 => ?_⟩ <;> (try simp (disch := omega) only [nI_leI, nI_ltI, nI_eq, nz_eq, nz_lt, nz_gt, nz_le, nz_ge, nz_00, nz_n1, nI_add, pk_mul, pk_sub, nI_shl1, nI_or, nI_half2, nI_min2, la_put_eq, la_up, lr_same, lr_ne, lu_same, lu_ne, not_true_eq_false, not_false_eq_true, hN] at c9) <;> first | (exfalso; omega) | conv => whnf)
      | (refine ⟨_, rfl, by omega, ?_⟩; conv => whnf)
      | (refine ⟨_, rfl, rfl, rfl, by decide, by decide, ?_⟩; conv => whnf)
      | (refine ⟨_, by (simp (disch := omega) only [nI_leI, nI_ltI, nI_eq, nz_eq, nz_lt, nz_gt, nz_le, nz_ge, nz_00, nz_n1, nI_add, pk_mul, pk_sub, nI_shl1, nI_or, nI_half2, nI_min2, la_put_eq, la_up, lr_same, lr_ne, lu_same, lu_ne, not_true_eq_false, not_false_eq_true, hN]; rfl), by omega, ?_⟩; conv => whnf)
      | (refine And.intro (by first | assumption | decide) ?_; conv => whnf))
    all_goals (try simp (disch := omega) only [nI_leI, nI_ltI, nI_eq, nz_eq, nz_lt, nz_gt, nz_le, nz_ge, nz_00, nz_n1, nI_add, pk_mul, pk_sub, nI_shl1, nI_or, nI_half2, nI_min2, la_put_eq, la_up, lr_same, lr_ne, lu_same, lu_ne, not_true_eq_false, not_false_eq_true, hN])
    · exact loop (by omega) M 0 0 _ (by omega) rfl e.symm
    · refine hret _ _ ?_
      exact Or.inl ⟨M, h2, rfl, Or.inr ⟨by omega, rfl, rfl⟩⟩
  · conv => whnf
    repeat' (first
      | (refine ⟨fun c9 => ?_, fun c9 => ?_⟩ <;> (try simp (disch := omega) only [nI_leI, nI_ltI, nI_eq, nz_eq, nz_lt, nz_gt, nz_le, nz_ge, nz_00, nz_n1, nI_add, pk_mul, pk_sub, nI_shl1, nI_or, nI_half2, nI_min2, la_put_eq, la_up, lr_same, lr_ne, lu_same, lu_ne, not_true_eq_false, not_false_eq_true] at c9) <;> first | (exfalso; omega) | conv => whnf)
      | (refine ⟨_, rfl, by omega, ?_⟩; conv => whnf)
      | (refine ⟨_, rfl, rfl, rfl, by decide, by decide, ?_⟩; conv => whnf)
      | (refine ⟨_, by (simp (disch := omega) only [nI_leI, nI_ltI, nI_eq, nz_eq, nz_lt, nz_gt, nz_le, nz_ge, nz_00, nz_n1, nI_add, pk_mul, pk_sub, nI_shl1, nI_or, nI_half2, nI_min2, la_put_eq, la_up, lr_same, lr_ne, lu_same, lu_ne, not_true_eq_false, not_false_eq_true]; rfl), by omega, ?_⟩; conv => whnf)
      | (refine And.intro (by first | assumption | decide) ?_; conv => whnf))
    all_goals (try simp (disch := omega) only [nI_leI, nI_ltI, nI_eq, nz_eq, nz_lt, nz_gt, nz_le, nz_ge, nz_00, nz_n1, nI_add, pk_mul, pk_sub, nI_shl1, nI_or, nI_half2, nI_min2, la_put_eq, la_up, lr_same, lr_ne, lu_same, lu_ne, not_true_eq_false, not_false_eq_true])
    refine hret _ _ ?_
    exact Or.inr ⟨hc, rfl, rfl⟩
theorem M_X4_days : pm_MT yX4_days cX4_days 4 1 4 P_X4_days (pm_pi Q_X4_days) := pm_met k_X4_days (by decide) rfl (by
  rintro ⟨g0, g1, g2⟩ av h hp
  rw [hp.1]
  exact Nat.le_of_ble_eq_true rfl) pf_X4_days
theorem rc_X4_days : ∀ g av h, P_X4_days g av h → ∃ i t, av = .inr (.inr (4, i, 0)) :: t := by
  rintro ⟨g0, g1, g2⟩ av h hp
  exact ⟨_, _, hp.1⟩
/-! what is seen -/
def P_X4_see : Int32 × Int32 × Int32 × Int32 × LD × Nat × pm_H → List pm_V → pm_H → Prop := fun g av h => match g with
  | (n, f, s, b, N, m, h0) => av = [vR 4 0 0, vI n, vI f, vI s, vI b] ∧ h = h0 ∧ la_at h0 0 N ∧ la_ok N ∧ h0 2 0 0 0 = nI m ∧ m ≤ 6 ∧ (b = 0 ∨ b = 1)
def Q_X4_see : Int32 × Int32 × Int32 × Int32 × LD × Nat × pm_H → Int32 → pm_H → Prop := fun g r h => match g with
  | (n, f, s, b, N, m, h0) => ((wi n 0 30 ∧ ixI f (N 0 0) ∧ wi s 0 9) ∧ ((m < 6 ∧ r = nI (m + 1) ∧ h = se_put h0 m n f s b) ∨ (6 ≤ m ∧ r = -3 ∧ h = h0))) ∨ (¬ (wi n 0 30 ∧ ixI f (N 0 0) ∧ wi s 0 9) ∧ r = -1 ∧ h = h0)
def T_X4_see : List (Nat × pm_T) := [
  (0, i_il 1 1),
  (1, i_c (nI 0) 2),
  (2, i_c (nI 30) 4),
  (4, i_ci 3 P_X4_within Q_X4_within 7),
  (7, i_ifeq 31 10),
  (10, i_al 0 11),
  (11, i_gr 4 (fun _ => (0, 0, 0)) 14),
  (14, i_il 2 15),
  (15, i_ci 2 P_X0_hasFellow Q_X0_hasFellow 18),
  (18, i_ifeq 31 21),
  (21, i_il 3 22),
  (22, i_c (nI 0) 23),
  (23, i_c (nI 9) 25),
  (25, i_ci 3 P_X4_within Q_X4_within 28),
  (28, i_ifne 33 31),
  (31, i_c (-1) 32),
  (32, i_ir),
  (33, i_al 0 34),
  (34, i_gr 4 (fun _ => (2, 0, 0)) 37),
  (37, i_il 1 38),
  (38, i_il 2 39),
  (39, i_il 3 40),
  (40, i_il 4 42),
  (42, i_ci 5 P_X2_add Q_X2_add 45),
  (45, i_ifeq 58 48),
  (48, i_al 0 49),
  (49, i_gr 4 (fun _ => (2, 0, 0)) 52),
  (52, i_gi 2 0 55),
  (55, i_go 60),
  (58, i_c (-3) 60),
  (60, i_ir)]
theorem k_X4_see : ∀ q ∈ T_X4_see, pm_sd RX4 cX4_see 5 3 1 q.1 q.2 := by
  unfold T_X4_see
  refine pm_cn (sd_iln (k := 1) (by decide +kernel) rfl rfl) ?_
  refine pm_cn (sd_iconst (z := 0) (by decide +kernel) (by decide +kernel) rfl) ?_
  refine pm_cn (sd_bipush (z := 30) (by decide +kernel) (by decide +kernel) rfl) ?_
  refine pm_cn (sd_cis M_X4_within (by decide) cd_X4_within ml_X4_57 st_X4_within nt_X4 (by decide +kernel) (by omega) (by decide) (by decide +kernel) rfl) ?_
  refine pm_cn (sd_ifeq (off := 24) (by decide +kernel) (by decide) rfl) ?_
  refine pm_cn (sd_aln (k := 0) (by decide +kernel) rfl rfl) ?_
  refine pm_cn (sd_gr cl4_ in4_ (j := 1) (by decide) (fun _ => rfl) fl_X4_19 (by decide +kernel) rfl) ?_
  refine pm_cn (sd_iln (k := 2) (by decide +kernel) rfl rfl) ?_
  refine pm_cn (sd_civ M_X0_hasFellow (by decide) cd_X0_hasFellow rc_X0_hasFellow cl0_ ml_X4_111 im_X0_hasFellow se_X0_hasFellow nt_X0 (by decide +kernel) (by omega) (by decide) (by decide +kernel) rfl) ?_
  refine pm_cn (sd_ifeq (off := 13) (by decide +kernel) (by decide) rfl) ?_
  refine pm_cn (sd_iln (k := 3) (by decide +kernel) rfl rfl) ?_
  refine pm_cn (sd_iconst (z := 0) (by decide +kernel) (by decide +kernel) rfl) ?_
  refine pm_cn (sd_bipush (z := 9) (by decide +kernel) (by decide +kernel) rfl) ?_
  refine pm_cn (sd_cis M_X4_within (by decide) cd_X4_within ml_X4_57 st_X4_within nt_X4 (by decide +kernel) (by omega) (by decide) (by decide +kernel) rfl) ?_
  refine pm_cn (sd_ifne (off := 5) (by decide +kernel) (by decide) rfl) ?_
  refine pm_cn (sd_iconst (z := -1) (by decide +kernel) (by decide +kernel) rfl) ?_
  refine pm_cn (sd_ir (by decide +kernel)) ?_
  refine pm_cn (sd_aln (k := 0) (by decide +kernel) rfl rfl) ?_
  refine pm_cn (sd_gr cl4_ in4_ (j := 5) (by decide) (fun _ => rfl) fl_X4_37 (by decide +kernel) rfl) ?_
  refine pm_cn (sd_iln (k := 1) (by decide +kernel) rfl rfl) ?_
  refine pm_cn (sd_iln (k := 2) (by decide +kernel) rfl rfl) ?_
  refine pm_cn (sd_iln (k := 3) (by decide +kernel) rfl rfl) ?_
  refine pm_cn (sd_il (by decide +kernel) rfl) ?_
  refine pm_cn (sd_civ M_X2_add (by decide) cd_X2_add rc_X2_add cl2_ ml_X4_217 im_X2_add se_X2_add nt_X2 (by decide +kernel) (by omega) (by decide) (by decide +kernel) rfl) ?_
  refine pm_cn (sd_ifeq (off := 13) (by decide +kernel) (by decide) rfl) ?_
  refine pm_cn (sd_aln (k := 0) (by decide +kernel) rfl rfl) ?_
  refine pm_cn (sd_gr cl4_ in4_ (j := 5) (by decide) (fun _ => rfl) fl_X4_37 (by decide +kernel) rfl) ?_
  refine pm_cn (sd_gi cl2_ in2_ (by decide) (fun _ => rfl) fl_X4_80 (by decide +kernel) rfl) ?_
  refine pm_cn (sd_go (off := 5) (by decide +kernel) (by decide)) ?_
  refine pm_cn (sd_bipush (z := -3) (by decide +kernel) (by decide +kernel) rfl) ?_
  refine pm_cn (sd_ir (by decide +kernel)) ?_
  exact fun _ h => absurd h List.not_mem_nil
theorem se_put_0 (h : pm_H) (m : Nat) (n f s b : Int32) : se_put h m n f s b 2 0 0 0 = nI (m + 1) := by unfold se_put; rw [pm_up_eq]
set_option maxHeartbeats 4000000 in
set_option maxRecDepth 100000 in
theorem pf_X4_see : pm_pf T_X4_see P_X4_see (pm_pi Q_X4_see) := by
  rintro ⟨n, f, s, b, N, m, h0⟩ av h K hK ⟨rfl, rfl, hN, wN, hm, hm6, hb⟩ hret
  show K (some 0) ([(0, vR 4 0 0), (1, vI n), (2, vI f), (3, vI s), (4, vI b)], [], h)
  refine hK [] 60 _ _ ?_
  conv => whnf
  repeat' (first
    | (refine ⟨fun c9 => ?_, fun c9 => ?_⟩ <;> (try simp (disch := omega) only [nI_leI, nI_ltI, nI_eq, nz_eq, nz_lt, nz_gt, nz_le, nz_ge, nz_00, nz_n1, nI_add, pk_mul, pk_sub, nI_shl1, nI_or, nI_half2, nI_min2, la_put_eq, la_up, lr_same, lr_ne, lu_same, lu_ne, not_true_eq_false, not_false_eq_true] at c9) <;> first | (exfalso; omega) | conv => whnf)
    | (refine ⟨_, rfl, by omega, ?_⟩; conv => whnf)
    | (refine ⟨_, rfl, rfl, rfl, by decide, by decide, ?_⟩; conv => whnf)
    | (refine ⟨_, by (simp (disch := omega) only [nI_leI, nI_ltI, nI_eq, nz_eq, nz_lt, nz_gt, nz_le, nz_ge, nz_00, nz_n1, nI_add, pk_mul, pk_sub, nI_shl1, nI_or, nI_half2, nI_min2, la_put_eq, la_up, lr_same, lr_ne, lu_same, lu_ne, not_true_eq_false, not_false_eq_true]; rfl), by omega, ?_⟩; conv => whnf)
    | (refine And.intro (by first | assumption | decide) ?_; conv => whnf))
  all_goals (try simp (disch := omega) only [nI_leI, nI_ltI, nI_eq, nz_eq, nz_lt, nz_gt, nz_le, nz_ge, nz_00, nz_n1, nI_add, pk_mul, pk_sub, nI_shl1, nI_or, nI_half2, nI_min2, la_put_eq, la_up, lr_same, lr_ne, lu_same, lu_ne, not_true_eq_false, not_false_eq_true])
  refine ⟨(n, nI 0, nI 30, h), ⟨rfl, rfl⟩, fun v h' hq => ?_⟩
  obtain ⟨rfl, ⟨hn, rfl⟩ | ⟨hc, rfl⟩⟩ := Q_within (by decide) (by decide) hq
  · conv => whnf
    repeat' (first
      | (refine ⟨fun c9 => ?_, fun c9 => ?_⟩ <;> (try simp (disch := omega) only [nI_leI, nI_ltI, nI_eq, nz_eq, nz_lt, nz_gt, nz_le, nz_ge, nz_00, nz_n1, nI_add, pk_mul, pk_sub, nI_shl1, nI_or, nI_half2, nI_min2, la_put_eq, la_up, lr_same, lr_ne, lu_same, lu_ne, not_true_eq_false, not_false_eq_true] at c9) <;> first | (exfalso; omega) | conv => whnf)
      | (refine ⟨_, rfl, by omega, ?_⟩; conv => whnf)
      | (refine ⟨_, rfl, rfl, rfl, by decide, by decide, ?_⟩; conv => whnf)
      | (refine ⟨_, by (simp (disch := omega) only [nI_leI, nI_ltI, nI_eq, nz_eq, nz_lt, nz_gt, nz_le, nz_ge, nz_00, nz_n1, nI_add, pk_mul, pk_sub, nI_shl1, nI_or, nI_half2, nI_min2, la_put_eq, la_up, lr_same, lr_ne, lu_same, lu_ne, not_true_eq_false, not_false_eq_true]; rfl), by omega, ?_⟩; conv => whnf)
      | (refine And.intro (by first | assumption | decide) ?_; conv => whnf))
    all_goals (try simp (disch := omega) only [nI_leI, nI_ltI, nI_eq, nz_eq, nz_lt, nz_gt, nz_le, nz_ge, nz_00, nz_n1, nI_add, pk_mul, pk_sub, nI_shl1, nI_or, nI_half2, nI_min2, la_put_eq, la_up, lr_same, lr_ne, lu_same, lu_ne, not_true_eq_false, not_false_eq_true])
    refine ⟨(0, f, N, _), ⟨rfl, rfl, hN, wN⟩, fun v h' hq => ?_⟩
    obtain ⟨rfl, ⟨hf, rfl⟩ | ⟨hc, rfl⟩⟩ := hq
    · conv => whnf
      repeat' (first
        | (refine ⟨fun c9 => ?_, fun c9 => ?_⟩ <;> (try simp (disch := omega) only [nI_leI, nI_ltI, nI_eq, nz_eq, nz_lt, nz_gt, nz_le, nz_ge, nz_00, nz_n1, nI_add, pk_mul, pk_sub, nI_shl1, nI_or, nI_half2, nI_min2, la_put_eq, la_up, lr_same, lr_ne, lu_same, lu_ne, not_true_eq_false, not_false_eq_true] at c9) <;> first | (exfalso; omega) | conv => whnf)
        | (refine ⟨_, rfl, by omega, ?_⟩; conv => whnf)
        | (refine ⟨_, rfl, rfl, rfl, by decide, by decide, ?_⟩; conv => whnf)
        | (refine ⟨_, by (simp (disch := omega) only [nI_leI, nI_ltI, nI_eq, nz_eq, nz_lt, nz_gt, nz_le, nz_ge, nz_00, nz_n1, nI_add, pk_mul, pk_sub, nI_shl1, nI_or, nI_half2, nI_min2, la_put_eq, la_up, lr_same, lr_ne, lu_same, lu_ne, not_true_eq_false, not_false_eq_true]; rfl), by omega, ?_⟩; conv => whnf)
        | (refine And.intro (by first | assumption | decide) ?_; conv => whnf))
      all_goals (try simp (disch := omega) only [nI_leI, nI_ltI, nI_eq, nz_eq, nz_lt, nz_gt, nz_le, nz_ge, nz_00, nz_n1, nI_add, pk_mul, pk_sub, nI_shl1, nI_or, nI_half2, nI_min2, la_put_eq, la_up, lr_same, lr_ne, lu_same, lu_ne, not_true_eq_false, not_false_eq_true])
      refine ⟨(s, nI 0, nI 9, _), ⟨rfl, rfl⟩, fun v h' hq => ?_⟩
      obtain ⟨rfl, ⟨hs, rfl⟩ | ⟨hc, rfl⟩⟩ := Q_within (by decide) (by decide) hq
      · conv => whnf
        repeat' (first
          | (refine ⟨fun c9 => ?_, fun c9 => ?_⟩ <;> (try simp (disch := omega) only [nI_leI, nI_ltI, nI_eq, nz_eq, nz_lt, nz_gt, nz_le, nz_ge, nz_00, nz_n1, nI_add, pk_mul, pk_sub, nI_shl1, nI_or, nI_half2, nI_min2, la_put_eq, la_up, lr_same, lr_ne, lu_same, lu_ne, not_true_eq_false, not_false_eq_true] at c9) <;> first | (exfalso; omega) | conv => whnf)
          | (refine ⟨_, rfl, by omega, ?_⟩; conv => whnf)
          | (refine ⟨_, rfl, rfl, rfl, by decide, by decide, ?_⟩; conv => whnf)
          | (refine ⟨_, by (simp (disch := omega) only [nI_leI, nI_ltI, nI_eq, nz_eq, nz_lt, nz_gt, nz_le, nz_ge, nz_00, nz_n1, nI_add, pk_mul, pk_sub, nI_shl1, nI_or, nI_half2, nI_min2, la_put_eq, la_up, lr_same, lr_ne, lu_same, lu_ne, not_true_eq_false, not_false_eq_true]; rfl), by omega, ?_⟩; conv => whnf)
          | (refine And.intro (by first | assumption | decide) ?_; conv => whnf))
        all_goals (try simp (disch := omega) only [nI_leI, nI_ltI, nI_eq, nz_eq, nz_lt, nz_gt, nz_le, nz_ge, nz_00, nz_n1, nI_add, pk_mul, pk_sub, nI_shl1, nI_or, nI_half2, nI_min2, la_put_eq, la_up, lr_same, lr_ne, lu_same, lu_ne, not_true_eq_false, not_false_eq_true])
        refine ⟨(n, f, s, b, m, _), ⟨rfl, rfl, hm, hm6, hb⟩, fun v h' hq => ?_⟩
        rcases hq with ⟨hlt, rfl, rfl⟩ | ⟨hge, rfl, rfl⟩
        · conv => whnf
          repeat' (first
            | (refine ⟨fun c9 => ?_, fun c9 => ?_⟩ <;> (try simp (disch := omega) only [nI_leI, nI_ltI, nI_eq, nz_eq, nz_lt, nz_gt, nz_le, nz_ge, nz_00, nz_n1, nI_add, pk_mul, pk_sub, nI_shl1, nI_or, nI_half2, nI_min2, la_put_eq, la_up, lr_same, lr_ne, lu_same, lu_ne, not_true_eq_false, not_false_eq_true, se_put_0] at c9) <;> first | (exfalso; omega) | conv => whnf)
            | (refine ⟨_, rfl, by omega, ?_⟩; conv => whnf)
            | (refine ⟨_, rfl, rfl, rfl, by decide, by decide, ?_⟩; conv => whnf)
            | (refine ⟨_, by (simp (disch := omega) only [nI_leI, nI_ltI, nI_eq, nz_eq, nz_lt, nz_gt, nz_le, nz_ge, nz_00, nz_n1, nI_add, pk_mul, pk_sub, nI_shl1, nI_or, nI_half2, nI_min2, la_put_eq, la_up, lr_same, lr_ne, lu_same, lu_ne, not_true_eq_false, not_false_eq_true, se_put_0]; rfl), by omega, ?_⟩; conv => whnf)
            | (refine And.intro (by first | assumption | decide) ?_; conv => whnf))
          all_goals (try simp (disch := omega) only [nI_leI, nI_ltI, nI_eq, nz_eq, nz_lt, nz_gt, nz_le, nz_ge, nz_00, nz_n1, nI_add, pk_mul, pk_sub, nI_shl1, nI_or, nI_half2, nI_min2, la_put_eq, la_up, lr_same, lr_ne, lu_same, lu_ne, not_true_eq_false, not_false_eq_true, se_put_0])
          refine hret _ _ ?_
          exact Or.inl ⟨⟨hn, hf, hs⟩, Or.inl ⟨hlt, rfl, rfl⟩⟩
        · conv => whnf
          repeat' (first
            | (refine ⟨fun c9 => ?_, fun c9 => ?_⟩ <;> (try simp (disch := omega) only [nI_leI, nI_ltI, nI_eq, nz_eq, nz_lt, nz_gt, nz_le, nz_ge, nz_00, nz_n1, nI_add, pk_mul, pk_sub, nI_shl1, nI_or, nI_half2, nI_min2, la_put_eq, la_up, lr_same, lr_ne, lu_same, lu_ne, not_true_eq_false, not_false_eq_true] at c9) <;> first | (exfalso; omega) | conv => whnf)
            | (refine ⟨_, rfl, by omega, ?_⟩; conv => whnf)
            | (refine ⟨_, rfl, rfl, rfl, by decide, by decide, ?_⟩; conv => whnf)
            | (refine ⟨_, by (simp (disch := omega) only [nI_leI, nI_ltI, nI_eq, nz_eq, nz_lt, nz_gt, nz_le, nz_ge, nz_00, nz_n1, nI_add, pk_mul, pk_sub, nI_shl1, nI_or, nI_half2, nI_min2, la_put_eq, la_up, lr_same, lr_ne, lu_same, lu_ne, not_true_eq_false, not_false_eq_true]; rfl), by omega, ?_⟩; conv => whnf)
            | (refine And.intro (by first | assumption | decide) ?_; conv => whnf))
          all_goals (try simp (disch := omega) only [nI_leI, nI_ltI, nI_eq, nz_eq, nz_lt, nz_gt, nz_le, nz_ge, nz_00, nz_n1, nI_add, pk_mul, pk_sub, nI_shl1, nI_or, nI_half2, nI_min2, la_put_eq, la_up, lr_same, lr_ne, lu_same, lu_ne, not_true_eq_false, not_false_eq_true])
          refine hret _ _ ?_
          exact Or.inl ⟨⟨hn, hf, hs⟩, Or.inr ⟨hge, rfl, rfl⟩⟩
      · conv => whnf
        repeat' (first
          | (refine ⟨fun c9 => ?_, fun c9 => ?_⟩ <;> (try simp (disch := omega) only [nI_leI, nI_ltI, nI_eq, nz_eq, nz_lt, nz_gt, nz_le, nz_ge, nz_00, nz_n1, nI_add, pk_mul, pk_sub, nI_shl1, nI_or, nI_half2, nI_min2, la_put_eq, la_up, lr_same, lr_ne, lu_same, lu_ne, not_true_eq_false, not_false_eq_true] at c9) <;> first | (exfalso; omega) | conv => whnf)
          | (refine ⟨_, rfl, by omega, ?_⟩; conv => whnf)
          | (refine ⟨_, rfl, rfl, rfl, by decide, by decide, ?_⟩; conv => whnf)
          | (refine ⟨_, by (simp (disch := omega) only [nI_leI, nI_ltI, nI_eq, nz_eq, nz_lt, nz_gt, nz_le, nz_ge, nz_00, nz_n1, nI_add, pk_mul, pk_sub, nI_shl1, nI_or, nI_half2, nI_min2, la_put_eq, la_up, lr_same, lr_ne, lu_same, lu_ne, not_true_eq_false, not_false_eq_true]; rfl), by omega, ?_⟩; conv => whnf)
          | (refine And.intro (by first | assumption | decide) ?_; conv => whnf))
        all_goals (try simp (disch := omega) only [nI_leI, nI_ltI, nI_eq, nz_eq, nz_lt, nz_gt, nz_le, nz_ge, nz_00, nz_n1, nI_add, pk_mul, pk_sub, nI_shl1, nI_or, nI_half2, nI_min2, la_put_eq, la_up, lr_same, lr_ne, lu_same, lu_ne, not_true_eq_false, not_false_eq_true])
        refine hret _ _ ?_
        exact Or.inr ⟨fun q => hc q.2.2, rfl, rfl⟩
    · conv => whnf
      repeat' (first
        | (refine ⟨fun c9 => ?_, fun c9 => ?_⟩ <;> (try simp (disch := omega) only [nI_leI, nI_ltI, nI_eq, nz_eq, nz_lt, nz_gt, nz_le, nz_ge, nz_00, nz_n1, nI_add, pk_mul, pk_sub, nI_shl1, nI_or, nI_half2, nI_min2, la_put_eq, la_up, lr_same, lr_ne, lu_same, lu_ne, not_true_eq_false, not_false_eq_true] at c9) <;> first | (exfalso; omega) | conv => whnf)
        | (refine ⟨_, rfl, by omega, ?_⟩; conv => whnf)
        | (refine ⟨_, rfl, rfl, rfl, by decide, by decide, ?_⟩; conv => whnf)
        | (refine ⟨_, by (simp (disch := omega) only [nI_leI, nI_ltI, nI_eq, nz_eq, nz_lt, nz_gt, nz_le, nz_ge, nz_00, nz_n1, nI_add, pk_mul, pk_sub, nI_shl1, nI_or, nI_half2, nI_min2, la_put_eq, la_up, lr_same, lr_ne, lu_same, lu_ne, not_true_eq_false, not_false_eq_true]; rfl), by omega, ?_⟩; conv => whnf)
        | (refine And.intro (by first | assumption | decide) ?_; conv => whnf))
      all_goals (try simp (disch := omega) only [nI_leI, nI_ltI, nI_eq, nz_eq, nz_lt, nz_gt, nz_le, nz_ge, nz_00, nz_n1, nI_add, pk_mul, pk_sub, nI_shl1, nI_or, nI_half2, nI_min2, la_put_eq, la_up, lr_same, lr_ne, lu_same, lu_ne, not_true_eq_false, not_false_eq_true])
      refine hret _ _ ?_
      exact Or.inr ⟨fun q => hc q.2.1, rfl, rfl⟩
  · conv => whnf
    repeat' (first
      | (refine ⟨fun c9 => ?_, fun c9 => ?_⟩ <;> (try simp (disch := omega) only [nI_leI, nI_ltI, nI_eq, nz_eq, nz_lt, nz_gt, nz_le, nz_ge, nz_00, nz_n1, nI_add, pk_mul, pk_sub, nI_shl1, nI_or, nI_half2, nI_min2, la_put_eq, la_up, lr_same, lr_ne, lu_same, lu_ne, not_true_eq_false, not_false_eq_true] at c9) <;> first | (exfalso; omega) | conv => whnf)
      | (refine ⟨_, rfl, by omega, ?_⟩; conv => whnf)
      | (refine ⟨_, rfl, rfl, rfl, by decide, by decide, ?_⟩; conv => whnf)
      | (refine ⟨_, by (simp (disch := omega) only [nI_leI, nI_ltI, nI_eq, nz_eq, nz_lt, nz_gt, nz_le, nz_ge, nz_00, nz_n1, nI_add, pk_mul, pk_sub, nI_shl1, nI_or, nI_half2, nI_min2, la_put_eq, la_up, lr_same, lr_ne, lu_same, lu_ne, not_true_eq_false, not_false_eq_true]; rfl), by omega, ?_⟩; conv => whnf)
      | (refine And.intro (by first | assumption | decide) ?_; conv => whnf))
    all_goals (try simp (disch := omega) only [nI_leI, nI_ltI, nI_eq, nz_eq, nz_lt, nz_gt, nz_le, nz_ge, nz_00, nz_n1, nI_add, pk_mul, pk_sub, nI_shl1, nI_or, nI_half2, nI_min2, la_put_eq, la_up, lr_same, lr_ne, lu_same, lu_ne, not_true_eq_false, not_false_eq_true])
    refine hret _ _ ?_
    exact Or.inr ⟨fun q => hc q.1, rfl, rfl⟩
theorem M_X4_see : pm_MT yX4_see cX4_see 5 1 3 P_X4_see (pm_pi Q_X4_see) := pm_met k_X4_see (by decide) rfl (by
  rintro ⟨g0, g1, g2, g3, g4, g5, g6⟩ av h hp
  rw [hp.1]
  exact Nat.le_of_ble_eq_true rfl) pf_X4_see
theorem rc_X4_see : ∀ g av h, P_X4_see g av h → ∃ i t, av = .inr (.inr (4, i, 0)) :: t := by
  rintro ⟨g0, g1, g2, g3, g4, g5, g6⟩ av h hp
  exact ⟨_, _, hp.1⟩
def P_X4_forget : Int32 × Nat × pm_H → List pm_V → pm_H → Prop := fun g av h => match g with
  | (v, m, h0) => av = [vR 4 0 0, vI v] ∧ h = h0 ∧ h0 2 0 0 0 = nI m ∧ m ≤ 6
def Q_X4_forget : Int32 × Nat × pm_H → Int32 → pm_H → Prop := fun g r h => match g with
  | (v, m, h0) => (∃ k, k ≤ m ∧ v = nI k ∧ r = nI m ∧ h = pm_up h0 2 0 0 0 (nI k)) ∨ (¬ wi v 0 m ∧ r = -1 ∧ h = h0)
def T_X4_forget : List (Nat × pm_T) := [
  (0, i_il 1 1),
  (1, i_c (nI 0) 2),
  (2, i_al 0 3),
  (3, i_gr 4 (fun _ => (2, 0, 0)) 6),
  (6, i_gi 2 0 9),
  (9, i_ci 3 P_X4_within Q_X4_within 12),
  (12, i_ifne 17 15),
  (15, i_c (-1) 16),
  (16, i_ir),
  (17, i_al 0 18),
  (18, i_gr 4 (fun _ => (2, 0, 0)) 21),
  (21, i_gi 2 0 24),
  (24, i_is 2 25),
  (25, i_al 0 26),
  (26, i_gr 4 (fun _ => (2, 0, 0)) 29),
  (29, i_il 1 30),
  (30, i_pi 2 0 33),
  (33, i_il 2 34),
  (34, i_ir)]
theorem k_X4_forget : ∀ q ∈ T_X4_forget, pm_sd RX4 cX4_forget 3 3 1 q.1 q.2 := by
  unfold T_X4_forget
  refine pm_cn (sd_iln (k := 1) (by decide +kernel) rfl rfl) ?_
  refine pm_cn (sd_iconst (z := 0) (by decide +kernel) (by decide +kernel) rfl) ?_
  refine pm_cn (sd_aln (k := 0) (by decide +kernel) rfl rfl) ?_
  refine pm_cn (sd_gr cl4_ in4_ (j := 5) (by decide) (fun _ => rfl) fl_X4_37 (by decide +kernel) rfl) ?_
  refine pm_cn (sd_gi cl2_ in2_ (by decide) (fun _ => rfl) fl_X4_80 (by decide +kernel) rfl) ?_
  refine pm_cn (sd_cis M_X4_within (by decide) cd_X4_within ml_X4_57 st_X4_within nt_X4 (by decide +kernel) (by omega) (by decide) (by decide +kernel) rfl) ?_
  refine pm_cn (sd_ifne (off := 5) (by decide +kernel) (by decide) rfl) ?_
  refine pm_cn (sd_iconst (z := -1) (by decide +kernel) (by decide +kernel) rfl) ?_
  refine pm_cn (sd_ir (by decide +kernel)) ?_
  refine pm_cn (sd_aln (k := 0) (by decide +kernel) rfl rfl) ?_
  refine pm_cn (sd_gr cl4_ in4_ (j := 5) (by decide) (fun _ => rfl) fl_X4_37 (by decide +kernel) rfl) ?_
  refine pm_cn (sd_gi cl2_ in2_ (by decide) (fun _ => rfl) fl_X4_80 (by decide +kernel) rfl) ?_
  refine pm_cn (sd_isn (k := 2) (by decide +kernel) rfl rfl (by decide)) ?_
  refine pm_cn (sd_aln (k := 0) (by decide +kernel) rfl rfl) ?_
  refine pm_cn (sd_gr cl4_ in4_ (j := 5) (by decide) (fun _ => rfl) fl_X4_37 (by decide +kernel) rfl) ?_
  refine pm_cn (sd_iln (k := 1) (by decide +kernel) rfl rfl) ?_
  refine pm_cn (sd_pi cl2_ in2_ tyX2 tyX2_ok nmX2 (by decide) (fun _ => rfl) rfl rfl fl_X4_80 (by decide +kernel) rfl) ?_
  refine pm_cn (sd_iln (k := 2) (by decide +kernel) rfl rfl) ?_
  refine pm_cn (sd_ir (by decide +kernel)) ?_
  exact fun _ h => absurd h List.not_mem_nil
set_option maxHeartbeats 4000000 in
set_option maxRecDepth 100000 in
theorem pf_X4_forget : pm_pf T_X4_forget P_X4_forget (pm_pi Q_X4_forget) := by
  rintro ⟨c, m, h0⟩ av h K hK ⟨rfl, rfl, hm, hm6⟩ hret
  show K (some 0) ([(0, vR 4 0 0), (1, vI c)], [], h)
  refine hK [] 60 _ _ ?_
  conv => whnf
  repeat' (first
    | (refine ⟨fun c9 => ?_, fun c9 => ?_⟩ <;> (try simp (disch := omega) only [nI_leI, nI_ltI, nI_eq, nz_eq, nz_lt, nz_gt, nz_le, nz_ge, nz_00, nz_n1, nI_add, pk_mul, pk_sub, nI_shl1, nI_or, nI_half2, nI_min2, la_put_eq, la_up, lr_same, lr_ne, lu_same, lu_ne, not_true_eq_false, not_false_eq_true, hm] at c9) <;> first | (exfalso; omega) | conv => whnf)
    | (refine ⟨_, rfl, by omega, ?_⟩; conv => whnf)
    | (refine ⟨_, rfl, rfl, rfl, by decide, by decide, ?_⟩; conv => whnf)
    | (refine ⟨_, by (simp (disch := omega) only [nI_leI, nI_ltI, nI_eq, nz_eq, nz_lt, nz_gt, nz_le, nz_ge, nz_00, nz_n1, nI_add, pk_mul, pk_sub, nI_shl1, nI_or, nI_half2, nI_min2, la_put_eq, la_up, lr_same, lr_ne, lu_same, lu_ne, not_true_eq_false, not_false_eq_true, hm]; rfl), by omega, ?_⟩; conv => whnf)
    | (refine And.intro (by first | assumption | decide) ?_; conv => whnf))
  all_goals (try simp (disch := omega) only [nI_leI, nI_ltI, nI_eq, nz_eq, nz_lt, nz_gt, nz_le, nz_ge, nz_00, nz_n1, nI_add, pk_mul, pk_sub, nI_shl1, nI_or, nI_half2, nI_min2, la_put_eq, la_up, lr_same, lr_ne, lu_same, lu_ne, not_true_eq_false, not_false_eq_true, hm])
  refine ⟨(c, nI 0, nI m, h), ⟨rfl, rfl⟩, fun v h' hq => ?_⟩
  obtain ⟨rfl, ⟨⟨k, h1, h2, rfl⟩, rfl⟩ | ⟨hc, rfl⟩⟩ := Q_within (by decide) (by omega) hq
  · conv => whnf
    repeat' (first
      | (refine ⟨fun c9 => ?_, fun c9 => ?_⟩ <;> (try simp (disch := omega) only [nI_leI, nI_ltI, nI_eq, nz_eq, nz_lt, nz_gt, nz_le, nz_ge, nz_00, nz_n1, nI_add, pk_mul, pk_sub, nI_shl1, nI_or, nI_half2, nI_min2, la_put_eq, la_up, lr_same, lr_ne, lu_same, lu_ne, not_true_eq_false, not_false_eq_true, hm] at c9) <;> first | (exfalso; omega) | conv => whnf)
      | (refine ⟨_, rfl, by omega, ?_⟩; conv => whnf)
      | (refine ⟨_, rfl, rfl, rfl, by decide, by decide, ?_⟩; conv => whnf)
      | (refine ⟨_, by (simp (disch := omega) only [nI_leI, nI_ltI, nI_eq, nz_eq, nz_lt, nz_gt, nz_le, nz_ge, nz_00, nz_n1, nI_add, pk_mul, pk_sub, nI_shl1, nI_or, nI_half2, nI_min2, la_put_eq, la_up, lr_same, lr_ne, lu_same, lu_ne, not_true_eq_false, not_false_eq_true, hm]; rfl), by omega, ?_⟩; conv => whnf)
      | (refine And.intro (by first | assumption | decide) ?_; conv => whnf))
    all_goals (try simp (disch := omega) only [nI_leI, nI_ltI, nI_eq, nz_eq, nz_lt, nz_gt, nz_le, nz_ge, nz_00, nz_n1, nI_add, pk_mul, pk_sub, nI_shl1, nI_or, nI_half2, nI_min2, la_put_eq, la_up, lr_same, lr_ne, lu_same, lu_ne, not_true_eq_false, not_false_eq_true, hm])
    refine hret _ _ ?_
    exact Or.inl ⟨k, h2, rfl, rfl, rfl⟩
  · conv => whnf
    repeat' (first
      | (refine ⟨fun c9 => ?_, fun c9 => ?_⟩ <;> (try simp (disch := omega) only [nI_leI, nI_ltI, nI_eq, nz_eq, nz_lt, nz_gt, nz_le, nz_ge, nz_00, nz_n1, nI_add, pk_mul, pk_sub, nI_shl1, nI_or, nI_half2, nI_min2, la_put_eq, la_up, lr_same, lr_ne, lu_same, lu_ne, not_true_eq_false, not_false_eq_true] at c9) <;> first | (exfalso; omega) | conv => whnf)
      | (refine ⟨_, rfl, by omega, ?_⟩; conv => whnf)
      | (refine ⟨_, rfl, rfl, rfl, by decide, by decide, ?_⟩; conv => whnf)
      | (refine ⟨_, by (simp (disch := omega) only [nI_leI, nI_ltI, nI_eq, nz_eq, nz_lt, nz_gt, nz_le, nz_ge, nz_00, nz_n1, nI_add, pk_mul, pk_sub, nI_shl1, nI_or, nI_half2, nI_min2, la_put_eq, la_up, lr_same, lr_ne, lu_same, lu_ne, not_true_eq_false, not_false_eq_true]; rfl), by omega, ?_⟩; conv => whnf)
      | (refine And.intro (by first | assumption | decide) ?_; conv => whnf))
    all_goals (try simp (disch := omega) only [nI_leI, nI_ltI, nI_eq, nz_eq, nz_lt, nz_gt, nz_le, nz_ge, nz_00, nz_n1, nI_add, pk_mul, pk_sub, nI_shl1, nI_or, nI_half2, nI_min2, la_put_eq, la_up, lr_same, lr_ne, lu_same, lu_ne, not_true_eq_false, not_false_eq_true])
    refine hret _ _ ?_
    exact Or.inr ⟨hc, rfl, rfl⟩
theorem M_X4_forget : pm_MT yX4_forget cX4_forget 3 1 3 P_X4_forget (pm_pi Q_X4_forget) := pm_met k_X4_forget (by decide) rfl (by
  rintro ⟨g0, g1, g2⟩ av h hp
  rw [hp.1]
  exact Nat.le_of_ble_eq_true rfl) pf_X4_forget
theorem rc_X4_forget : ∀ g av h, P_X4_forget g av h → ∃ i t, av = .inr (.inr (4, i, 0)) :: t := by
  rintro ⟨g0, g1, g2⟩ av h hp
  exact ⟨_, _, hp.1⟩
/-! images -/
def im_at (h : pm_H) (I : Nat → LD) (kp : Nat → Nat) : Prop := ∀ q, q < 2 → la_at h (2 + q) (I q) ∧ la_ok (I q) ∧ h 4 0 2 q = nI (kp q) ∧ kp q ≤ 1
def P_X4_keep : Int32 × LD × (Nat → LD) × (Nat → Nat) × pm_H → List pm_V → pm_H → Prop := fun g av h => match g with
  | (k, N, I, kp, h0) => av = [vR 4 0 0, vI k] ∧ h = h0 ∧ la_at h0 0 N ∧ la_ok N ∧ im_at h0 I kp
def Q_X4_keep : Int32 × LD × (Nat → LD) × (Nat → Nat) × pm_H → Int32 → pm_H → Prop := fun g r h => match g with
  | (k, N, I, kp, h0) => (∃ q, q < 2 ∧ k = nI q ∧ r = nI (kp q) ∧ h = pm_up (la_put h0 (2 + q) N) 4 0 2 q (nI 1)) ∨ (¬ wi k 0 1 ∧ r = -1 ∧ h = h0)
def T_X4_keep : List (Nat × pm_T) := [
  (0, i_il 1 1),
  (1, i_c (nI 0) 2),
  (2, i_c (nI 1) 3),
  (3, i_ci 3 P_X4_within Q_X4_within 6),
  (6, i_ifne 11 9),
  (9, i_c (-1) 10),
  (10, i_ir),
  (11, i_al 0 12),
  (12, i_gr 4 (fun _ => (4, 0, 2)) 15),
  (15, i_il 1 16),
  (16, i_za 17),
  (17, i_ifeq 24 20),
  (20, i_c (nI 1) 21),
  (21, i_go 25),
  (24, i_c (nI 0) 25),
  (25, i_is 2 26),
  (26, i_al 0 27),
  (27, i_gr 4 (fun _ => (4, 0, 1)) 30),
  (30, i_il 1 31),
  (31, i_aa 3 (fun k => (0, 2 + k, 0)) 32),
  (32, i_al 0 33),
  (33, i_gr 4 (fun _ => (0, 0, 0)) 36),
  (36, i_cv 2 P_X0_take Q_X0_take 39),
  (39, i_al 0 40),
  (40, i_gr 4 (fun _ => (4, 0, 2)) 43),
  (43, i_il 1 44),
  (44, i_c (nI 1) 45),
  (45, i_zas 46),
  (46, i_il 2 47),
  (47, i_ir)]
theorem k_X4_keep : ∀ q ∈ T_X4_keep, pm_sd RX4 cX4_keep 3 3 1 q.1 q.2 := by
  unfold T_X4_keep
  refine pm_cn (sd_iln (k := 1) (by decide +kernel) rfl rfl) ?_
  refine pm_cn (sd_iconst (z := 0) (by decide +kernel) (by decide +kernel) rfl) ?_
  refine pm_cn (sd_iconst (z := 1) (by decide +kernel) (by decide +kernel) rfl) ?_
  refine pm_cn (sd_cis M_X4_within (by decide) cd_X4_within ml_X4_57 st_X4_within nt_X4 (by decide +kernel) (by omega) (by decide) (by decide +kernel) rfl) ?_
  refine pm_cn (sd_ifne (off := 5) (by decide +kernel) (by decide) rfl) ?_
  refine pm_cn (sd_iconst (z := -1) (by decide +kernel) (by decide +kernel) rfl) ?_
  refine pm_cn (sd_ir (by decide +kernel)) ?_
  refine pm_cn (sd_aln (k := 0) (by decide +kernel) rfl rfl) ?_
  refine pm_cn (sd_gr cl4_ in4_ (j := 4) (by decide) (fun _ => rfl) fl_X4_30 (by decide +kernel) rfl) ?_
  refine pm_cn (sd_iln (k := 1) (by decide +kernel) rfl rfl) ?_
  refine pm_cn (sd_za (by decide +kernel) rfl) ?_
  refine pm_cn (sd_ifeq (off := 7) (by decide +kernel) (by decide) rfl) ?_
  refine pm_cn (sd_iconst (z := 1) (by decide +kernel) (by decide +kernel) rfl) ?_
  refine pm_cn (sd_go (off := 4) (by decide +kernel) (by decide)) ?_
  refine pm_cn (sd_iconst (z := 0) (by decide +kernel) (by decide +kernel) rfl) ?_
  refine pm_cn (sd_isn (k := 2) (by decide +kernel) rfl rfl (by decide)) ?_
  refine pm_cn (sd_aln (k := 0) (by decide +kernel) rfl rfl) ?_
  refine pm_cn (sd_gr cl4_ in4_ (j := 3) (by decide) (fun _ => rfl) fl_X4_26 (by decide +kernel) rfl) ?_
  refine pm_cn (sd_iln (k := 1) (by decide +kernel) rfl rfl) ?_
  refine pm_cn (sd_aa (by decide) (fun _ => rfl) (by decide +kernel) rfl) ?_
  refine pm_cn (sd_aln (k := 0) (by decide +kernel) rfl rfl) ?_
  refine pm_cn (sd_gr cl4_ in4_ (j := 1) (by decide) (fun _ => rfl) fl_X4_19 (by decide +kernel) rfl) ?_
  refine pm_cn (sd_cvv M_X0_take cd_X0_take rc_X0_take cl0_ ml_X4_76 im_X0_take se_X0_take nt_X0 (by decide +kernel) (by omega) (by decide) (by decide +kernel) rfl) ?_
  refine pm_cn (sd_aln (k := 0) (by decide +kernel) rfl rfl) ?_
  refine pm_cn (sd_gr cl4_ in4_ (j := 4) (by decide) (fun _ => rfl) fl_X4_30 (by decide +kernel) rfl) ?_
  refine pm_cn (sd_iln (k := 1) (by decide +kernel) rfl rfl) ?_
  refine pm_cn (sd_iconst (z := 1) (by decide +kernel) (by decide +kernel) rfl) ?_
  refine pm_cn (sd_zas (by decide +kernel) rfl) ?_
  refine pm_cn (sd_iln (k := 2) (by decide +kernel) rfl rfl) ?_
  refine pm_cn (sd_ir (by decide +kernel)) ?_
  exact fun _ h => absurd h List.not_mem_nil
set_option maxHeartbeats 4000000 in
set_option maxRecDepth 100000 in
theorem pf_X4_keep : pm_pf T_X4_keep P_X4_keep (pm_pi Q_X4_keep) := by
  rintro ⟨x, N, I, kp, h0⟩ av h K hK ⟨rfl, rfl, hN, wN, hI⟩ hret
  show K (some 0) ([(0, vR 4 0 0), (1, vI x)], [], h)
  refine hK [(25, [0, 1])] 60 _ _ ?_
  conv => whnf
  repeat' (first
    | (refine ⟨fun c9 => ?_, fun c9 => ?_⟩ <;> (try simp (disch := omega) only [nI_leI, nI_ltI, nI_eq, nz_eq, nz_lt, nz_gt, nz_le, nz_ge, nz_00, nz_n1, nI_add, pk_mul, pk_sub, nI_shl1, nI_or, nI_half2, nI_min2, la_put_eq, la_up, lr_same, lr_ne, lu_same, lu_ne, not_true_eq_false, not_false_eq_true] at c9) <;> first | (exfalso; omega) | conv => whnf)
    | (refine ⟨_, rfl, by omega, ?_⟩; conv => whnf)
    | (refine ⟨_, rfl, rfl, rfl, by decide, by decide, ?_⟩; conv => whnf)
    | (refine ⟨_, by (simp (disch := omega) only [nI_leI, nI_ltI, nI_eq, nz_eq, nz_lt, nz_gt, nz_le, nz_ge, nz_00, nz_n1, nI_add, pk_mul, pk_sub, nI_shl1, nI_or, nI_half2, nI_min2, la_put_eq, la_up, lr_same, lr_ne, lu_same, lu_ne, not_true_eq_false, not_false_eq_true]; rfl), by omega, ?_⟩; conv => whnf)
    | (refine And.intro (by first | assumption | decide) ?_; conv => whnf))
  all_goals (try simp (disch := omega) only [nI_leI, nI_ltI, nI_eq, nz_eq, nz_lt, nz_gt, nz_le, nz_ge, nz_00, nz_n1, nI_add, pk_mul, pk_sub, nI_shl1, nI_or, nI_half2, nI_min2, la_put_eq, la_up, lr_same, lr_ne, lu_same, lu_ne, not_true_eq_false, not_false_eq_true])
  refine ⟨(x, nI 0, nI 1, h), ⟨rfl, rfl⟩, fun v h' hq => ?_⟩
  obtain ⟨rfl, ⟨⟨q, h1, h2, rfl⟩, rfl⟩ | ⟨hc, rfl⟩⟩ := Q_within (by decide) (by omega) hq
  · obtain ⟨a1, a2, a3, a4⟩ := hI q (by omega)
    have fin : K (some 25) ([(0, vR 4 0 0), (1, vI (nI q))], [vI (nI (kp q))], h') := by
      refine hK [] 60 _ _ ?_
      conv => whnf
      repeat' (first
        | (refine ⟨fun c9 => ?_, fun c9 => ?_⟩ <;> (try simp (disch := omega) only [nI_leI, nI_ltI, nI_eq, nz_eq, nz_lt, nz_gt, nz_le, nz_ge, nz_00, nz_n1, nI_add, pk_mul, pk_sub, nI_shl1, nI_or, nI_half2, nI_min2, la_put_eq, la_up, lr_same, lr_ne, lu_same, lu_ne, not_true_eq_false, not_false_eq_true] at c9) <;> first | (exfalso; omega) | conv => whnf)
        | (refine ⟨_, rfl, by omega, ?_⟩; conv => whnf)
        | (refine ⟨_, rfl, rfl, rfl, by decide, by decide, ?_⟩; conv => whnf)
        | (refine ⟨_, by (simp (disch := omega) only [nI_leI, nI_ltI, nI_eq, nz_eq, nz_lt, nz_gt, nz_le, nz_ge, nz_00, nz_n1, nI_add, pk_mul, pk_sub, nI_shl1, nI_or, nI_half2, nI_min2, la_put_eq, la_up, lr_same, lr_ne, lu_same, lu_ne, not_true_eq_false, not_false_eq_true]; rfl), by omega, ?_⟩; conv => whnf)
        | (refine And.intro (by first | assumption | decide) ?_; conv => whnf))
      all_goals (try simp (disch := omega) only [nI_leI, nI_ltI, nI_eq, nz_eq, nz_lt, nz_gt, nz_le, nz_ge, nz_00, nz_n1, nI_add, pk_mul, pk_sub, nI_shl1, nI_or, nI_half2, nI_min2, la_put_eq, la_up, lr_same, lr_ne, lu_same, lu_ne, not_true_eq_false, not_false_eq_true])
      refine ⟨(2 + q, 0, I q, N, _), ⟨rfl, rfl, a1, hN, a2, wN, by omega⟩, fun h'' hq => ?_⟩
      have hq : h'' = la_put h' (2 + q) N := hq
      subst hq
      conv => whnf
      repeat' (first
        | (refine ⟨fun c9 => ?_, fun c9 => ?_⟩ <;> (try simp (disch := omega) only [nI_leI, nI_ltI, nI_eq, nz_eq, nz_lt, nz_gt, nz_le, nz_ge, nz_00, nz_n1, nI_add, pk_mul, pk_sub, nI_shl1, nI_or, nI_half2, nI_min2, la_put_eq, la_up, lr_same, lr_ne, lu_same, lu_ne, not_true_eq_false, not_false_eq_true] at c9) <;> first | (exfalso; omega) | conv => whnf)
        | (refine ⟨_, rfl, by omega, ?_⟩; conv => whnf)
        | (refine ⟨_, rfl, rfl, rfl, by decide, by decide, ?_⟩; conv => whnf)
        | (refine ⟨_, by (simp (disch := omega) only [nI_leI, nI_ltI, nI_eq, nz_eq, nz_lt, nz_gt, nz_le, nz_ge, nz_00, nz_n1, nI_add, pk_mul, pk_sub, nI_shl1, nI_or, nI_half2, nI_min2, la_put_eq, la_up, lr_same, lr_ne, lu_same, lu_ne, not_true_eq_false, not_false_eq_true]; rfl), by omega, ?_⟩; conv => whnf)
        | (refine And.intro (by first | assumption | decide) ?_; conv => whnf))
      all_goals (try simp (disch := omega) only [nI_leI, nI_ltI, nI_eq, nz_eq, nz_lt, nz_gt, nz_le, nz_ge, nz_00, nz_n1, nI_add, pk_mul, pk_sub, nI_shl1, nI_or, nI_half2, nI_min2, la_put_eq, la_up, lr_same, lr_ne, lu_same, lu_ne, not_true_eq_false, not_false_eq_true])
      refine hret _ _ ?_
      exact Or.inl ⟨q, by omega, rfl, rfl, rfl⟩
    conv => whnf
    repeat' (first
      | (refine ⟨fun c9 => ?_, fun c9 => ?_⟩ <;> (try simp (disch := omega) only [nI_leI, nI_ltI, nI_eq, nz_eq, nz_lt, nz_gt, nz_le, nz_ge, nz_00, nz_n1, nI_add, pk_mul, pk_sub, nI_shl1, nI_or, nI_half2, nI_min2, la_put_eq, la_up, lr_same, lr_ne, lu_same, lu_ne, not_true_eq_false, not_false_eq_true, a3] at c9) <;> first | (exfalso; omega) | conv => whnf)
      | (refine ⟨_, rfl, by omega, ?_⟩; conv => whnf)
      | (refine ⟨_, rfl, rfl, rfl, by decide, by decide, ?_⟩; conv => whnf)
      | (refine ⟨_, by (simp (disch := omega) only [nI_leI, nI_ltI, nI_eq, nz_eq, nz_lt, nz_gt, nz_le, nz_ge, nz_00, nz_n1, nI_add, pk_mul, pk_sub, nI_shl1, nI_or, nI_half2, nI_min2, la_put_eq, la_up, lr_same, lr_ne, lu_same, lu_ne, not_true_eq_false, not_false_eq_true, a3]; rfl), by omega, ?_⟩; conv => whnf)
      | (refine And.intro (by first | assumption | decide) ?_; conv => whnf))
    all_goals (try simp (disch := omega) only [nI_leI, nI_ltI, nI_eq, nz_eq, nz_lt, nz_gt, nz_le, nz_ge, nz_00, nz_n1, nI_add, pk_mul, pk_sub, nI_shl1, nI_or, nI_half2, nI_min2, la_put_eq, la_up, lr_same, lr_ne, lu_same, lu_ne, not_true_eq_false, not_false_eq_true, a3])
    · rw [show kp q = 0 by omega] at fin
      exact fin
    · rw [show kp q = 1 by omega] at fin
      exact fin
  · conv => whnf
    repeat' (first
      | (refine ⟨fun c9 => ?_, fun c9 => ?_⟩ <;> (try simp (disch := omega) only [nI_leI, nI_ltI, nI_eq, nz_eq, nz_lt, nz_gt, nz_le, nz_ge, nz_00, nz_n1, nI_add, pk_mul, pk_sub, nI_shl1, nI_or, nI_half2, nI_min2, la_put_eq, la_up, lr_same, lr_ne, lu_same, lu_ne, not_true_eq_false, not_false_eq_true] at c9) <;> first | (exfalso; omega) | conv => whnf)
      | (refine ⟨_, rfl, by omega, ?_⟩; conv => whnf)
      | (refine ⟨_, rfl, rfl, rfl, by decide, by decide, ?_⟩; conv => whnf)
      | (refine ⟨_, by (simp (disch := omega) only [nI_leI, nI_ltI, nI_eq, nz_eq, nz_lt, nz_gt, nz_le, nz_ge, nz_00, nz_n1, nI_add, pk_mul, pk_sub, nI_shl1, nI_or, nI_half2, nI_min2, la_put_eq, la_up, lr_same, lr_ne, lu_same, lu_ne, not_true_eq_false, not_false_eq_true]; rfl), by omega, ?_⟩; conv => whnf)
      | (refine And.intro (by first | assumption | decide) ?_; conv => whnf))
    all_goals (try simp (disch := omega) only [nI_leI, nI_ltI, nI_eq, nz_eq, nz_lt, nz_gt, nz_le, nz_ge, nz_00, nz_n1, nI_add, pk_mul, pk_sub, nI_shl1, nI_or, nI_half2, nI_min2, la_put_eq, la_up, lr_same, lr_ne, lu_same, lu_ne, not_true_eq_false, not_false_eq_true])
    refine hret _ _ ?_
    exact Or.inr ⟨hc, rfl, rfl⟩
theorem M_X4_keep : pm_MT yX4_keep cX4_keep 3 1 3 P_X4_keep (pm_pi Q_X4_keep) := pm_met k_X4_keep (by decide) rfl (by
  rintro ⟨g0, g1, g2, g3, g4⟩ av h hp
  rw [hp.1]
  exact Nat.le_of_ble_eq_true rfl) pf_X4_keep
theorem rc_X4_keep : ∀ g av h, P_X4_keep g av h → ∃ i t, av = .inr (.inr (4, i, 0)) :: t := by
  rintro ⟨g0, g1, g2, g3, g4⟩ av h hp
  exact ⟨_, _, hp.1⟩
def P_X4_back : Int32 × LD × (Nat → LD) × (Nat → Nat) × pm_H → List pm_V → pm_H → Prop := fun g av h => match g with
  | (k, N, I, kp, h0) => av = [vR 4 0 0, vI k] ∧ h = h0 ∧ la_at h0 0 N ∧ la_ok N ∧ im_at h0 I kp
def Q_X4_back : Int32 × LD × (Nat → LD) × (Nat → Nat) × pm_H → Int32 → pm_H → Prop := fun g r h => match g with
  | (k, N, I, kp, h0) => (∃ q, q < 2 ∧ k = nI q ∧ ((kp q = 1 ∧ r = nI (I q 0 10) ∧ h = la_put h0 0 (I q)) ∨ (kp q = 0 ∧ r = -2 ∧ h = h0))) ∨ (¬ wi k 0 1 ∧ r = -1 ∧ h = h0)
def T_X4_back : List (Nat × pm_T) := [
  (0, i_il 1 1),
  (1, i_c (nI 0) 2),
  (2, i_c (nI 1) 3),
  (3, i_ci 3 P_X4_within Q_X4_within 6),
  (6, i_ifne 11 9),
  (9, i_c (-1) 10),
  (10, i_ir),
  (11, i_al 0 12),
  (12, i_gr 4 (fun _ => (4, 0, 2)) 15),
  (15, i_il 1 16),
  (16, i_za 17),
  (17, i_ifne 23 20),
  (20, i_c (-2) 22),
  (22, i_ir),
  (23, i_al 0 24),
  (24, i_gr 4 (fun _ => (0, 0, 0)) 27),
  (27, i_al 0 28),
  (28, i_gr 4 (fun _ => (4, 0, 1)) 31),
  (31, i_il 1 32),
  (32, i_aa 3 (fun k => (0, 2 + k, 0)) 33),
  (33, i_cv 2 P_X0_take Q_X0_take 36),
  (36, i_al 0 37),
  (37, i_gr 4 (fun _ => (0, 0, 0)) 40),
  (40, i_gi 0 10 43),
  (43, i_ir)]
theorem k_X4_back : ∀ q ∈ T_X4_back, pm_sd RX4 cX4_back 2 3 1 q.1 q.2 := by
  unfold T_X4_back
  refine pm_cn (sd_iln (k := 1) (by decide +kernel) rfl rfl) ?_
  refine pm_cn (sd_iconst (z := 0) (by decide +kernel) (by decide +kernel) rfl) ?_
  refine pm_cn (sd_iconst (z := 1) (by decide +kernel) (by decide +kernel) rfl) ?_
  refine pm_cn (sd_cis M_X4_within (by decide) cd_X4_within ml_X4_57 st_X4_within nt_X4 (by decide +kernel) (by omega) (by decide) (by decide +kernel) rfl) ?_
  refine pm_cn (sd_ifne (off := 5) (by decide +kernel) (by decide) rfl) ?_
  refine pm_cn (sd_iconst (z := -1) (by decide +kernel) (by decide +kernel) rfl) ?_
  refine pm_cn (sd_ir (by decide +kernel)) ?_
  refine pm_cn (sd_aln (k := 0) (by decide +kernel) rfl rfl) ?_
  refine pm_cn (sd_gr cl4_ in4_ (j := 4) (by decide) (fun _ => rfl) fl_X4_30 (by decide +kernel) rfl) ?_
  refine pm_cn (sd_iln (k := 1) (by decide +kernel) rfl rfl) ?_
  refine pm_cn (sd_za (by decide +kernel) rfl) ?_
  refine pm_cn (sd_ifne (off := 6) (by decide +kernel) (by decide) rfl) ?_
  refine pm_cn (sd_bipush (z := -2) (by decide +kernel) (by decide +kernel) rfl) ?_
  refine pm_cn (sd_ir (by decide +kernel)) ?_
  refine pm_cn (sd_aln (k := 0) (by decide +kernel) rfl rfl) ?_
  refine pm_cn (sd_gr cl4_ in4_ (j := 1) (by decide) (fun _ => rfl) fl_X4_19 (by decide +kernel) rfl) ?_
  refine pm_cn (sd_aln (k := 0) (by decide +kernel) rfl rfl) ?_
  refine pm_cn (sd_gr cl4_ in4_ (j := 3) (by decide) (fun _ => rfl) fl_X4_26 (by decide +kernel) rfl) ?_
  refine pm_cn (sd_iln (k := 1) (by decide +kernel) rfl rfl) ?_
  refine pm_cn (sd_aa (by decide) (fun _ => rfl) (by decide +kernel) rfl) ?_
  refine pm_cn (sd_cvv M_X0_take cd_X0_take rc_X0_take cl0_ ml_X4_76 im_X0_take se_X0_take nt_X0 (by decide +kernel) (by omega) (by decide) (by decide +kernel) rfl) ?_
  refine pm_cn (sd_aln (k := 0) (by decide +kernel) rfl rfl) ?_
  refine pm_cn (sd_gr cl4_ in4_ (j := 1) (by decide) (fun _ => rfl) fl_X4_19 (by decide +kernel) rfl) ?_
  refine pm_cn (sd_gi cl0_ in0_ (by decide) (fun _ => rfl) fl_X4_101 (by decide +kernel) rfl) ?_
  refine pm_cn (sd_ir (by decide +kernel)) ?_
  exact fun _ h => absurd h List.not_mem_nil
set_option maxHeartbeats 4000000 in
set_option maxRecDepth 100000 in
theorem pf_X4_back : pm_pf T_X4_back P_X4_back (pm_pi Q_X4_back) := by
  rintro ⟨x, N, I, kp, h0⟩ av h K hK ⟨rfl, rfl, hN, wN, hI⟩ hret
  show K (some 0) ([(0, vR 4 0 0), (1, vI x)], [], h)
  refine hK [] 60 _ _ ?_
  conv => whnf
  repeat' (first
    | (refine ⟨fun c9 => ?_, fun c9 => ?_⟩ <;> (try simp (disch := omega) only [nI_leI, nI_ltI, nI_eq, nz_eq, nz_lt, nz_gt, nz_le, nz_ge, nz_00, nz_n1, nI_add, pk_mul, pk_sub, nI_shl1, nI_or, nI_half2, nI_min2, la_put_eq, la_up, lr_same, lr_ne, lu_same, lu_ne, not_true_eq_false, not_false_eq_true] at c9) <;> first | (exfalso; omega) | conv => whnf)
    | (refine ⟨_, rfl, by omega, ?_⟩; conv => whnf)
    | (refine ⟨_, rfl, rfl, rfl, by decide, by decide, ?_⟩; conv => whnf)
    | (refine ⟨_, by (simp (disch := omega) only [nI_leI, nI_ltI, nI_eq, nz_eq, nz_lt, nz_gt, nz_le, nz_ge, nz_00, nz_n1, nI_add, pk_mul, pk_sub, nI_shl1, nI_or, nI_half2, nI_min2, la_put_eq, la_up, lr_same, lr_ne, lu_same, lu_ne, not_true_eq_false, not_false_eq_true]; rfl), by omega, ?_⟩; conv => whnf)
    | (refine And.intro (by first | assumption | decide) ?_; conv => whnf))
  all_goals (try simp (disch := omega) only [nI_leI, nI_ltI, nI_eq, nz_eq, nz_lt, nz_gt, nz_le, nz_ge, nz_00, nz_n1, nI_add, pk_mul, pk_sub, nI_shl1, nI_or, nI_half2, nI_min2, la_put_eq, la_up, lr_same, lr_ne, lu_same, lu_ne, not_true_eq_false, not_false_eq_true])
  refine ⟨(x, nI 0, nI 1, h), ⟨rfl, rfl⟩, fun v h' hq => ?_⟩
  obtain ⟨rfl, ⟨⟨q, h1, h2, rfl⟩, rfl⟩ | ⟨hc, rfl⟩⟩ := Q_within (by decide) (by omega) hq
  · obtain ⟨a1, a2, a3, a4⟩ := hI q (by omega)
    conv => whnf
    repeat' (first
      | (refine ⟨fun c9 => ?_, fun c9 => ?_⟩ <;> (try simp (disch := omega) only [nI_leI, nI_ltI, nI_eq, nz_eq, nz_lt, nz_gt, nz_le, nz_ge, nz_00, nz_n1, nI_add, pk_mul, pk_sub, nI_shl1, nI_or, nI_half2, nI_min2, la_put_eq, la_up, lr_same, lr_ne, lu_same, lu_ne, not_true_eq_false, not_false_eq_true, a3] at c9) <;> first | (exfalso; omega) | conv => whnf)
      | (refine ⟨_, rfl, by omega, ?_⟩; conv => whnf)
      | (refine ⟨_, rfl, rfl, rfl, by decide, by decide, ?_⟩; conv => whnf)
      | (refine ⟨_, by (simp (disch := omega) only [nI_leI, nI_ltI, nI_eq, nz_eq, nz_lt, nz_gt, nz_le, nz_ge, nz_00, nz_n1, nI_add, pk_mul, pk_sub, nI_shl1, nI_or, nI_half2, nI_min2, la_put_eq, la_up, lr_same, lr_ne, lu_same, lu_ne, not_true_eq_false, not_false_eq_true, a3]; rfl), by omega, ?_⟩; conv => whnf)
      | (refine And.intro (by first | assumption | decide) ?_; conv => whnf))
    all_goals (try simp (disch := omega) only [nI_leI, nI_ltI, nI_eq, nz_eq, nz_lt, nz_gt, nz_le, nz_ge, nz_00, nz_n1, nI_add, pk_mul, pk_sub, nI_shl1, nI_or, nI_half2, nI_min2, la_put_eq, la_up, lr_same, lr_ne, lu_same, lu_ne, not_true_eq_false, not_false_eq_true, a3])
    · refine ⟨(0, 2 + q, N, I q, _), ⟨rfl, rfl, hN, a1, wN, a2, by omega⟩, fun h'' hq => ?_⟩
      have hq : h'' = la_put h' 0 (I q) := hq
      subst hq
      conv => whnf
      repeat' (first
        | (refine ⟨fun c9 => ?_, fun c9 => ?_⟩ <;> (try simp (disch := omega) only [nI_leI, nI_ltI, nI_eq, nz_eq, nz_lt, nz_gt, nz_le, nz_ge, nz_00, nz_n1, nI_add, pk_mul, pk_sub, nI_shl1, nI_or, nI_half2, nI_min2, la_put_eq, la_up, lr_same, lr_ne, lu_same, lu_ne, not_true_eq_false, not_false_eq_true] at c9) <;> first | (exfalso; omega) | conv => whnf)
        | (refine ⟨_, rfl, by omega, ?_⟩; conv => whnf)
        | (refine ⟨_, rfl, rfl, rfl, by decide, by decide, ?_⟩; conv => whnf)
        | (refine ⟨_, by (simp (disch := omega) only [nI_leI, nI_ltI, nI_eq, nz_eq, nz_lt, nz_gt, nz_le, nz_ge, nz_00, nz_n1, nI_add, pk_mul, pk_sub, nI_shl1, nI_or, nI_half2, nI_min2, la_put_eq, la_up, lr_same, lr_ne, lu_same, lu_ne, not_true_eq_false, not_false_eq_true]; rfl), by omega, ?_⟩; conv => whnf)
        | (refine And.intro (by first | assumption | decide) ?_; conv => whnf))
      all_goals (try simp (disch := omega) only [nI_leI, nI_ltI, nI_eq, nz_eq, nz_lt, nz_gt, nz_le, nz_ge, nz_00, nz_n1, nI_add, pk_mul, pk_sub, nI_shl1, nI_or, nI_half2, nI_min2, la_put_eq, la_up, lr_same, lr_ne, lu_same, lu_ne, not_true_eq_false, not_false_eq_true])
      refine hret _ _ ?_
      exact Or.inl ⟨q, by omega, rfl, Or.inl ⟨by omega, rfl, rfl⟩⟩
    · refine hret _ _ ?_
      exact Or.inl ⟨q, by omega, rfl, Or.inr ⟨by omega, rfl, rfl⟩⟩
  · conv => whnf
    repeat' (first
      | (refine ⟨fun c9 => ?_, fun c9 => ?_⟩ <;> (try simp (disch := omega) only [nI_leI, nI_ltI, nI_eq, nz_eq, nz_lt, nz_gt, nz_le, nz_ge, nz_00, nz_n1, nI_add, pk_mul, pk_sub, nI_shl1, nI_or, nI_half2, nI_min2, la_put_eq, la_up, lr_same, lr_ne, lu_same, lu_ne, not_true_eq_false, not_false_eq_true] at c9) <;> first | (exfalso; omega) | conv => whnf)
      | (refine ⟨_, rfl, by omega, ?_⟩; conv => whnf)
      | (refine ⟨_, rfl, rfl, rfl, by decide, by decide, ?_⟩; conv => whnf)
      | (refine ⟨_, by (simp (disch := omega) only [nI_leI, nI_ltI, nI_eq, nz_eq, nz_lt, nz_gt, nz_le, nz_ge, nz_00, nz_n1, nI_add, pk_mul, pk_sub, nI_shl1, nI_or, nI_half2, nI_min2, la_put_eq, la_up, lr_same, lr_ne, lu_same, lu_ne, not_true_eq_false, not_false_eq_true]; rfl), by omega, ?_⟩; conv => whnf)
      | (refine And.intro (by first | assumption | decide) ?_; conv => whnf))
    all_goals (try simp (disch := omega) only [nI_leI, nI_ltI, nI_eq, nz_eq, nz_lt, nz_gt, nz_le, nz_ge, nz_00, nz_n1, nI_add, pk_mul, pk_sub, nI_shl1, nI_or, nI_half2, nI_min2, la_put_eq, la_up, lr_same, lr_ne, lu_same, lu_ne, not_true_eq_false, not_false_eq_true])
    refine hret _ _ ?_
    exact Or.inr ⟨hc, rfl, rfl⟩
theorem M_X4_back : pm_MT yX4_back cX4_back 2 1 3 P_X4_back (pm_pi Q_X4_back) := pm_met k_X4_back (by decide) rfl (by
  rintro ⟨g0, g1, g2, g3, g4⟩ av h hp
  rw [hp.1]
  exact Nat.le_of_ble_eq_true rfl) pf_X4_back
theorem rc_X4_back : ∀ g av h, P_X4_back g av h → ∃ i t, av = .inr (.inr (4, i, 0)) :: t := by
  rintro ⟨g0, g1, g2, g3, g4⟩ av h hp
  exact ⟨_, _, hp.1⟩
/-! sheets -/
def P_X4_sheet : Int32 × Int32 × Int32 × pm_H → List pm_V → pm_H → Prop := fun g av h => match g with
  | (k, l, n, h0) => av = [vR 4 0 0, vI k, vI l, vI n] ∧ h = h0
def Q_X4_sheet : Int32 × Int32 × Int32 × pm_H → Int32 → pm_H → Prop := fun g r h => match g with
  | (k, l, n, h0) => (∃ q x z, q < 4 ∧ x ≤ 2 ∧ z ≤ 40 ∧ k = nI q ∧ l = nI x ∧ n = nI z ∧ r = nI 1 ∧ h = sh_put h0 q 1 x z (fun j => if j < 40 then nI 0 else h0 1 q 1 j)) ∨ ((wi k 0 3 ∧ wi l 0 2 ∧ n ≤ nI 40) ∧ n < 0 ∧ r = -14 ∧ h = h0) ∨ (¬ (wi k 0 3 ∧ wi l 0 2 ∧ n ≤ nI 40) ∧ r = -1 ∧ h = h0)
def T_X4_sheet : List (Nat × pm_T) := [
  (0, i_il 1 1),
  (1, i_c (nI 0) 2),
  (2, i_c (nI 3) 3),
  (3, i_ci 3 P_X4_within Q_X4_within 6),
  (6, i_ifeq 24 9),
  (9, i_il 2 10),
  (10, i_c (nI 0) 11),
  (11, i_c (nI 2) 12),
  (12, i_ci 3 P_X4_within Q_X4_within 15),
  (15, i_ifeq 24 18),
  (18, i_il 3 19),
  (19, i_c (nI 40) 21),
  (21, i_icle 26 24),
  (24, i_c (-1) 25),
  (25, i_ir),
  (26, i_il 3 27),
  (27, i_ifge 33 30),
  (30, i_c (-14) 32),
  (32, i_ir),
  (33, i_al 0 34),
  (34, i_gr 4 (fun _ => (4, 0, 3)) 37),
  (37, i_il 1 38),
  (38, i_aa 4 (fun k => (1, k, 0)) 39),
  (39, i_il 2 40),
  (40, i_il 3 41),
  (41, i_cv 3 P_X1_renew Q_X1_renew 44),
  (44, i_c (nI 1) 45),
  (45, i_ir)]
theorem k_X4_sheet : ∀ q ∈ T_X4_sheet, pm_sd RX4 cX4_sheet 4 3 1 q.1 q.2 := by
  unfold T_X4_sheet
  refine pm_cn (sd_iln (k := 1) (by decide +kernel) rfl rfl) ?_
  refine pm_cn (sd_iconst (z := 0) (by decide +kernel) (by decide +kernel) rfl) ?_
  refine pm_cn (sd_iconst (z := 3) (by decide +kernel) (by decide +kernel) rfl) ?_
  refine pm_cn (sd_cis M_X4_within (by decide) cd_X4_within ml_X4_57 st_X4_within nt_X4 (by decide +kernel) (by omega) (by decide) (by decide +kernel) rfl) ?_
  refine pm_cn (sd_ifeq (off := 18) (by decide +kernel) (by decide) rfl) ?_
  refine pm_cn (sd_iln (k := 2) (by decide +kernel) rfl rfl) ?_
  refine pm_cn (sd_iconst (z := 0) (by decide +kernel) (by decide +kernel) rfl) ?_
  refine pm_cn (sd_iconst (z := 2) (by decide +kernel) (by decide +kernel) rfl) ?_
  refine pm_cn (sd_cis M_X4_within (by decide) cd_X4_within ml_X4_57 st_X4_within nt_X4 (by decide +kernel) (by omega) (by decide) (by decide +kernel) rfl) ?_
  refine pm_cn (sd_ifeq (off := 9) (by decide +kernel) (by decide) rfl) ?_
  refine pm_cn (sd_iln (k := 3) (by decide +kernel) rfl rfl) ?_
  refine pm_cn (sd_bipush (z := 40) (by decide +kernel) (by decide +kernel) rfl) ?_
  refine pm_cn (sd_icle (off := 5) (by decide +kernel) (by decide) rfl) ?_
  refine pm_cn (sd_iconst (z := -1) (by decide +kernel) (by decide +kernel) rfl) ?_
  refine pm_cn (sd_ir (by decide +kernel)) ?_
  refine pm_cn (sd_iln (k := 3) (by decide +kernel) rfl rfl) ?_
  refine pm_cn (sd_ifge (off := 6) (by decide +kernel) (by decide) rfl) ?_
  refine pm_cn (sd_bipush (z := -14) (by decide +kernel) (by decide +kernel) rfl) ?_
  refine pm_cn (sd_ir (by decide +kernel)) ?_
  refine pm_cn (sd_aln (k := 0) (by decide +kernel) rfl rfl) ?_
  refine pm_cn (sd_gr cl4_ in4_ (j := 6) (by decide) (fun _ => rfl) fl_X4_43 (by decide +kernel) rfl) ?_
  refine pm_cn (sd_iln (k := 1) (by decide +kernel) rfl rfl) ?_
  refine pm_cn (sd_aa (by decide) (fun _ => rfl) (by decide +kernel) rfl) ?_
  refine pm_cn (sd_iln (k := 2) (by decide +kernel) rfl rfl) ?_
  refine pm_cn (sd_iln (k := 3) (by decide +kernel) rfl rfl) ?_
  refine pm_cn (sd_cvv M_X1_renew cd_X1_renew rc_X1_renew cl1_ ml_X4_237 im_X1_renew se_X1_renew nt_X1 (by decide +kernel) (by omega) (by decide) (by decide +kernel) rfl) ?_
  refine pm_cn (sd_iconst (z := 1) (by decide +kernel) (by decide +kernel) rfl) ?_
  refine pm_cn (sd_ir (by decide +kernel)) ?_
  exact fun _ h => absurd h List.not_mem_nil
set_option maxHeartbeats 4000000 in
set_option maxRecDepth 100000 in
theorem pf_X4_sheet : pm_pf T_X4_sheet P_X4_sheet (pm_pi Q_X4_sheet) := by
  rintro ⟨k, l, n, h0⟩ av h K hK ⟨rfl, rfl⟩ hret
  show K (some 0) ([(0, vR 4 0 0), (1, vI k), (2, vI l), (3, vI n)], [], h)
  refine hK [] 60 _ _ ?_
  conv => whnf
  repeat' (first
    | (refine ⟨fun c9 => ?_, fun c9 => ?_⟩ <;> (try simp (disch := omega) only [nI_leI, nI_ltI, nI_eq, nz_eq, nz_lt, nz_gt, nz_le, nz_ge, nz_00, nz_n1, nI_add, pk_mul, pk_sub, nI_shl1, nI_or, nI_half2, nI_min2, la_put_eq, la_up, lr_same, lr_ne, lu_same, lu_ne, not_true_eq_false, not_false_eq_true] at c9) <;> first | (exfalso; omega) | conv => whnf)
    | (refine ⟨_, rfl, by omega, ?_⟩; conv => whnf)
    | (refine ⟨_, rfl, rfl, rfl, by decide, by decide, ?_⟩; conv => whnf)
    | (refine ⟨_, by (simp (disch := omega) only [nI_leI, nI_ltI, nI_eq, nz_eq, nz_lt, nz_gt, nz_le, nz_ge, nz_00, nz_n1, nI_add, pk_mul, pk_sub, nI_shl1, nI_or, nI_half2, nI_min2, la_put_eq, la_up, lr_same, lr_ne, lu_same, lu_ne, not_true_eq_false, not_false_eq_true]; rfl), by omega, ?_⟩; conv => whnf)
    | (refine And.intro (by first | assumption | decide) ?_; conv => whnf))
  all_goals (try simp (disch := omega) only [nI_leI, nI_ltI, nI_eq, nz_eq, nz_lt, nz_gt, nz_le, nz_ge, nz_00, nz_n1, nI_add, pk_mul, pk_sub, nI_shl1, nI_or, nI_half2, nI_min2, la_put_eq, la_up, lr_same, lr_ne, lu_same, lu_ne, not_true_eq_false, not_false_eq_true])
  refine ⟨(k, nI 0, nI 3, h), ⟨rfl, rfl⟩, fun v h' hq => ?_⟩
  obtain ⟨rfl, ⟨hk, rfl⟩ | ⟨hc, rfl⟩⟩ := Q_within (by decide) (by decide) hq
  · conv => whnf
    repeat' (first
      | (refine ⟨fun c9 => ?_, fun c9 => ?_⟩ <;> (try simp (disch := omega) only [nI_leI, nI_ltI, nI_eq, nz_eq, nz_lt, nz_gt, nz_le, nz_ge, nz_00, nz_n1, nI_add, pk_mul, pk_sub, nI_shl1, nI_or, nI_half2, nI_min2, la_put_eq, la_up, lr_same, lr_ne, lu_same, lu_ne, not_true_eq_false, not_false_eq_true] at c9) <;> first | (exfalso; omega) | conv => whnf)
      | (refine ⟨_, rfl, by omega, ?_⟩; conv => whnf)
      | (refine ⟨_, rfl, rfl, rfl, by decide, by decide, ?_⟩; conv => whnf)
      | (refine ⟨_, by (simp (disch := omega) only [nI_leI, nI_ltI, nI_eq, nz_eq, nz_lt, nz_gt, nz_le, nz_ge, nz_00, nz_n1, nI_add, pk_mul, pk_sub, nI_shl1, nI_or, nI_half2, nI_min2, la_put_eq, la_up, lr_same, lr_ne, lu_same, lu_ne, not_true_eq_false, not_false_eq_true]; rfl), by omega, ?_⟩; conv => whnf)
      | (refine And.intro (by first | assumption | decide) ?_; conv => whnf))
    all_goals (try simp (disch := omega) only [nI_leI, nI_ltI, nI_eq, nz_eq, nz_lt, nz_gt, nz_le, nz_ge, nz_00, nz_n1, nI_add, pk_mul, pk_sub, nI_shl1, nI_or, nI_half2, nI_min2, la_put_eq, la_up, lr_same, lr_ne, lu_same, lu_ne, not_true_eq_false, not_false_eq_true])
    refine ⟨(l, nI 0, nI 2, _), ⟨rfl, rfl⟩, fun v h' hq => ?_⟩
    obtain ⟨rfl, ⟨hl, rfl⟩ | ⟨hc, rfl⟩⟩ := Q_within (by decide) (by decide) hq
    · obtain ⟨q, q1, q2, rfl⟩ := id hk
      obtain ⟨x, x1, x2, rfl⟩ := id hl
      refine And.intro (fun c9 => by simp (disch := omega) only [nz_eq] at c9; omega) (fun _ => ?_)
      conv => whnf
      refine And.intro (fun c1 => ?_) (fun c1 => ?_)
      · conv => whnf
        refine And.intro (fun c2 => ?_) (fun c2 => ?_)
        · have c2 : ¬ n < 0 := by
            intro q9
            rw [Int32.lt_iff_toInt_lt] at q9
            rw [Int32.le_iff_toInt_le] at c2
            omega
          obtain ⟨z, hz, rfl⟩ := nI_of c2
          rw [nI_leI hz (by decide)] at c1
          conv => whnf
          refine ⟨q, rfl, by omega, ?_⟩
          conv => whnf
          refine ⟨(q, x, z, _), ⟨rfl, rfl⟩, fun h'' hq => ?_⟩
          have hq : h'' = sh_put h' q 1 x z (fun j => if j < 40 then nI 0 else h' 1 q 1 j) := hq
          subst hq
          conv => whnf
          repeat' (first
            | (refine ⟨fun c9 => ?_, fun c9 => ?_⟩ <;> (try simp (disch := omega) only [nI_leI, nI_ltI, nI_eq, nz_eq, nz_lt, nz_gt, nz_le, nz_ge, nz_00, nz_n1, nI_add, pk_mul, pk_sub, nI_shl1, nI_or, nI_half2, nI_min2, la_put_eq, la_up, lr_same, lr_ne, lu_same, lu_ne, not_true_eq_false, not_false_eq_true] at c9) <;> first | (exfalso; omega) | conv => whnf)
            | (refine ⟨_, rfl, by omega, ?_⟩; conv => whnf)
            | (refine ⟨_, rfl, rfl, rfl, by decide, by decide, ?_⟩; conv => whnf)
            | (refine ⟨_, by (simp (disch := omega) only [nI_leI, nI_ltI, nI_eq, nz_eq, nz_lt, nz_gt, nz_le, nz_ge, nz_00, nz_n1, nI_add, pk_mul, pk_sub, nI_shl1, nI_or, nI_half2, nI_min2, la_put_eq, la_up, lr_same, lr_ne, lu_same, lu_ne, not_true_eq_false, not_false_eq_true]; rfl), by omega, ?_⟩; conv => whnf)
            | (refine And.intro (by first | assumption | decide) ?_; conv => whnf))
          all_goals (try simp (disch := omega) only [nI_leI, nI_ltI, nI_eq, nz_eq, nz_lt, nz_gt, nz_le, nz_ge, nz_00, nz_n1, nI_add, pk_mul, pk_sub, nI_shl1, nI_or, nI_half2, nI_min2, la_put_eq, la_up, lr_same, lr_ne, lu_same, lu_ne, not_true_eq_false, not_false_eq_true])
          refine hret _ _ ?_
          exact Or.inl ⟨q, x, z, by omega, by omega, by omega, rfl, rfl, rfl, rfl, rfl⟩
        · have c2 : n < 0 := by
            rw [Int32.le_iff_toInt_le] at c2
            rw [Int32.lt_iff_toInt_lt]
            omega
          conv => whnf
          refine hret _ _ ?_
          exact Or.inr (Or.inl ⟨⟨hk, hl, c1⟩, c2, rfl, rfl⟩)
      · conv => whnf
        refine hret _ _ ?_
        exact Or.inr (Or.inr ⟨fun q9 => c1 q9.2.2, rfl, rfl⟩)
    · conv => whnf
      repeat' (first
        | (refine ⟨fun c9 => ?_, fun c9 => ?_⟩ <;> (try simp (disch := omega) only [nI_leI, nI_ltI, nI_eq, nz_eq, nz_lt, nz_gt, nz_le, nz_ge, nz_00, nz_n1, nI_add, pk_mul, pk_sub, nI_shl1, nI_or, nI_half2, nI_min2, la_put_eq, la_up, lr_same, lr_ne, lu_same, lu_ne, not_true_eq_false, not_false_eq_true] at c9) <;> first | (exfalso; omega) | conv => whnf)
        | (refine ⟨_, rfl, by omega, ?_⟩; conv => whnf)
        | (refine ⟨_, rfl, rfl, rfl, by decide, by decide, ?_⟩; conv => whnf)
        | (refine ⟨_, by (simp (disch := omega) only [nI_leI, nI_ltI, nI_eq, nz_eq, nz_lt, nz_gt, nz_le, nz_ge, nz_00, nz_n1, nI_add, pk_mul, pk_sub, nI_shl1, nI_or, nI_half2, nI_min2, la_put_eq, la_up, lr_same, lr_ne, lu_same, lu_ne, not_true_eq_false, not_false_eq_true]; rfl), by omega, ?_⟩; conv => whnf)
        | (refine And.intro (by first | assumption | decide) ?_; conv => whnf))
      all_goals (try simp (disch := omega) only [nI_leI, nI_ltI, nI_eq, nz_eq, nz_lt, nz_gt, nz_le, nz_ge, nz_00, nz_n1, nI_add, pk_mul, pk_sub, nI_shl1, nI_or, nI_half2, nI_min2, la_put_eq, la_up, lr_same, lr_ne, lu_same, lu_ne, not_true_eq_false, not_false_eq_true])
      refine hret _ _ ?_
      exact Or.inr (Or.inr ⟨fun q9 => hc q9.2.1, rfl, rfl⟩)
  · conv => whnf
    repeat' (first
      | (refine ⟨fun c9 => ?_, fun c9 => ?_⟩ <;> (try simp (disch := omega) only [nI_leI, nI_ltI, nI_eq, nz_eq, nz_lt, nz_gt, nz_le, nz_ge, nz_00, nz_n1, nI_add, pk_mul, pk_sub, nI_shl1, nI_or, nI_half2, nI_min2, la_put_eq, la_up, lr_same, lr_ne, lu_same, lu_ne, not_true_eq_false, not_false_eq_true] at c9) <;> first | (exfalso; omega) | conv => whnf)
      | (refine ⟨_, rfl, by omega, ?_⟩; conv => whnf)
      | (refine ⟨_, rfl, rfl, rfl, by decide, by decide, ?_⟩; conv => whnf)
      | (refine ⟨_, by (simp (disch := omega) only [nI_leI, nI_ltI, nI_eq, nz_eq, nz_lt, nz_gt, nz_le, nz_ge, nz_00, nz_n1, nI_add, pk_mul, pk_sub, nI_shl1, nI_or, nI_half2, nI_min2, la_put_eq, la_up, lr_same, lr_ne, lu_same, lu_ne, not_true_eq_false, not_false_eq_true]; rfl), by omega, ?_⟩; conv => whnf)
      | (refine And.intro (by first | assumption | decide) ?_; conv => whnf))
    all_goals (try simp (disch := omega) only [nI_leI, nI_ltI, nI_eq, nz_eq, nz_lt, nz_gt, nz_le, nz_ge, nz_00, nz_n1, nI_add, pk_mul, pk_sub, nI_shl1, nI_or, nI_half2, nI_min2, la_put_eq, la_up, lr_same, lr_ne, lu_same, lu_ne, not_true_eq_false, not_false_eq_true])
    refine hret _ _ ?_
    exact Or.inr (Or.inr ⟨fun q9 => hc q9.1, rfl, rfl⟩)
theorem M_X4_sheet : pm_MT yX4_sheet cX4_sheet 4 1 3 P_X4_sheet (pm_pi Q_X4_sheet) := pm_met k_X4_sheet (by decide) rfl (by
  rintro ⟨g0, g1, g2, g3⟩ av h hp
  rw [hp.1]
  exact Nat.le_of_ble_eq_true rfl) pf_X4_sheet
theorem rc_X4_sheet : ∀ g av h, P_X4_sheet g av h → ∃ i t, av = .inr (.inr (4, i, 0)) :: t := by
  rintro ⟨g0, g1, g2, g3⟩ av h hp
  exact ⟨_, _, hp.1⟩
def shs (h : pm_H) (t l z : Nat → Nat) : Prop := ∀ q, q < 4 → sh_at h q (t q) (l q) (z q) ∧ t q ≤ 1 ∧ l q ≤ 2 ∧ z q ≤ 40
def P_X4_lay : Int32 × Int32 × Int32 × (Nat → Nat) × (Nat → Nat) × (Nat → Nat) × pm_H → List pm_V → pm_H → Prop := fun g av h => match g with
  | (k, i, v, t, l, z, h0) => av = [vR 4 0 0, vI k, vI i, vI v] ∧ h = h0 ∧ shs h0 t l z
def Q_X4_lay : Int32 × Int32 × Int32 × (Nat → Nat) × (Nat → Nat) × (Nat → Nat) × pm_H → Int32 → pm_H → Prop := fun g r h => match g with
  | (k, i, v, t, l, z, h0) => (∃ q, q < 4 ∧ k = nI q ∧ ((t q = 0 ∧ r = -11 ∧ h = h0) ∨ (t q ≠ 0 ∧ ¬ sp_ix i (z q) 1 ∧ r = -12 ∧ h = h0) ∨ (t q ≠ 0 ∧ ∃ j, j < z q ∧ i = nI j ∧ r = nI 1 ∧ h = pm_up h0 1 q 1 j (sp_nar (l q) v)))) ∨ (¬ wi k 0 3 ∧ r = -1 ∧ h = h0)
def T_X4_lay : List (Nat × pm_T) := [
  (0, i_il 1 1),
  (1, i_c (nI 0) 2),
  (2, i_c (nI 3) 3),
  (3, i_ci 3 P_X4_within Q_X4_within 6),
  (6, i_ifne 11 9),
  (9, i_c (-1) 10),
  (10, i_ir),
  (11, i_al 0 12),
  (12, i_gr 4 (fun _ => (4, 0, 3)) 15),
  (15, i_il 1 16),
  (16, i_aa 4 (fun k => (1, k, 0)) 17),
  (17, i_as 4 19),
  (19, i_al 4 21),
  (21, i_al 4 23),
  (23, i_gi 1 1 26),
  (26, i_il 2 27),
  (27, i_c (nI 1) 28),
  (28, i_ci 4 P_X1_faultAt Q_X1_faultAt 31),
  (31, i_is 5 33),
  (33, i_il 5 35),
  (35, i_ifeq 44 38),
  (38, i_c (-10) 40),
  (40, i_il 5 42),
  (42, i_isub 43),
  (43, i_ir),
  (44, i_al 4 46),
  (46, i_gr 1 (fun i => (1, i, 1)) 49),
  (49, i_il 2 50),
  (50, i_al 4 52),
  (52, i_il 3 53),
  (53, i_ci 2 P_X1_narrow Q_X1_narrow 56),
  (56, i_ias 57),
  (57, i_c (nI 1) 58),
  (58, i_ir)]
theorem k_X4_lay : ∀ q ∈ T_X4_lay, pm_sd RX4 cX4_lay 6 3 1 q.1 q.2 := by
  unfold T_X4_lay
  refine pm_cn (sd_iln (k := 1) (by decide +kernel) rfl rfl) ?_
  refine pm_cn (sd_iconst (z := 0) (by decide +kernel) (by decide +kernel) rfl) ?_
  refine pm_cn (sd_iconst (z := 3) (by decide +kernel) (by decide +kernel) rfl) ?_
  refine pm_cn (sd_cis M_X4_within (by decide) cd_X4_within ml_X4_57 st_X4_within nt_X4 (by decide +kernel) (by omega) (by decide) (by decide +kernel) rfl) ?_
  refine pm_cn (sd_ifne (off := 5) (by decide +kernel) (by decide) rfl) ?_
  refine pm_cn (sd_iconst (z := -1) (by decide +kernel) (by decide +kernel) rfl) ?_
  refine pm_cn (sd_ir (by decide +kernel)) ?_
  refine pm_cn (sd_aln (k := 0) (by decide +kernel) rfl rfl) ?_
  refine pm_cn (sd_gr cl4_ in4_ (j := 6) (by decide) (fun _ => rfl) fl_X4_43 (by decide +kernel) rfl) ?_
  refine pm_cn (sd_iln (k := 1) (by decide +kernel) rfl rfl) ?_
  refine pm_cn (sd_aa (by decide) (fun _ => rfl) (by decide +kernel) rfl) ?_
  refine pm_cn (sd_as (by decide +kernel) rfl (by decide)) ?_
  refine pm_cn (sd_al (by decide +kernel) rfl) ?_
  refine pm_cn (sd_al (by decide +kernel) rfl) ?_
  refine pm_cn (sd_gi cl1_ in1_ (by decide) (fun _ => rfl) fl_X4_240 (by decide +kernel) rfl) ?_
  refine pm_cn (sd_iln (k := 2) (by decide +kernel) rfl rfl) ?_
  refine pm_cn (sd_iconst (z := 1) (by decide +kernel) (by decide +kernel) rfl) ?_
  refine pm_cn (sd_civ M_X1_faultAt (by decide) cd_X1_faultAt rc_X1_faultAt cl1_ ml_X4_243 im_X1_faultAt se_X1_faultAt nt_X1 (by decide +kernel) (by omega) (by decide) (by decide +kernel) rfl) ?_
  refine pm_cn (sd_is (by decide +kernel) rfl (by decide)) ?_
  refine pm_cn (sd_il (by decide +kernel) rfl) ?_
  refine pm_cn (sd_ifeq (off := 9) (by decide +kernel) (by decide) rfl) ?_
  refine pm_cn (sd_bipush (z := -10) (by decide +kernel) (by decide +kernel) rfl) ?_
  refine pm_cn (sd_il (by decide +kernel) rfl) ?_
  refine pm_cn (sd_isub (by decide +kernel) rfl) ?_
  refine pm_cn (sd_ir (by decide +kernel)) ?_
  refine pm_cn (sd_al (by decide +kernel) rfl) ?_
  refine pm_cn (sd_gr cl1_ in1_ (j := 3) (by decide) (fun _ => rfl) fl_X4_247 (by decide +kernel) rfl) ?_
  refine pm_cn (sd_iln (k := 2) (by decide +kernel) rfl rfl) ?_
  refine pm_cn (sd_al (by decide +kernel) rfl) ?_
  refine pm_cn (sd_iln (k := 3) (by decide +kernel) rfl rfl) ?_
  refine pm_cn (sd_civ M_X1_narrow (by decide) cd_X1_narrow rc_X1_narrow cl1_ ml_X4_250 im_X1_narrow se_X1_narrow nt_X1 (by decide +kernel) (by omega) (by decide) (by decide +kernel) rfl) ?_
  refine pm_cn (sd_ias (by decide +kernel) rfl) ?_
  refine pm_cn (sd_iconst (z := 1) (by decide +kernel) (by decide +kernel) rfl) ?_
  refine pm_cn (sd_ir (by decide +kernel)) ?_
  exact fun _ h => absurd h List.not_mem_nil
set_option maxHeartbeats 4000000 in
set_option maxRecDepth 100000 in
theorem pf_X4_lay : pm_pf T_X4_lay P_X4_lay (pm_pi Q_X4_lay) := by
  rintro ⟨k, i, v, t, l, z, h0⟩ av h K hK ⟨rfl, rfl, hsh⟩ hret
  show K (some 0) ([(0, vR 4 0 0), (1, vI k), (2, vI i), (3, vI v)], [], h)
  refine hK [] 60 _ _ ?_
  conv => whnf
  repeat' (first
    | (refine ⟨fun c9 => ?_, fun c9 => ?_⟩ <;> (try simp (disch := omega) only [nI_leI, nI_ltI, nI_eq, nz_eq, nz_lt, nz_gt, nz_le, nz_ge, nz_00, nz_n1, nI_add, pk_mul, pk_sub, nI_shl1, nI_or, nI_half2, nI_min2, la_put_eq, la_up, lr_same, lr_ne, lu_same, lu_ne, not_true_eq_false, not_false_eq_true] at c9) <;> first | (exfalso; omega) | conv => whnf)
    | (refine ⟨_, rfl, by omega, ?_⟩; conv => whnf)
    | (refine ⟨_, rfl, rfl, rfl, by decide, by decide, ?_⟩; conv => whnf)
    | (refine ⟨_, by (simp (disch := omega) only [nI_leI, nI_ltI, nI_eq, nz_eq, nz_lt, nz_gt, nz_le, nz_ge, nz_00, nz_n1, nI_add, pk_mul, pk_sub, nI_shl1, nI_or, nI_half2, nI_min2, la_put_eq, la_up, lr_same, lr_ne, lu_same, lu_ne, not_true_eq_false, not_false_eq_true]; rfl), by omega, ?_⟩; conv => whnf)
    | (refine And.intro (by first | assumption | decide) ?_; conv => whnf))
  all_goals (try simp (disch := omega) only [nI_leI, nI_ltI, nI_eq, nz_eq, nz_lt, nz_gt, nz_le, nz_ge, nz_00, nz_n1, nI_add, pk_mul, pk_sub, nI_shl1, nI_or, nI_half2, nI_min2, la_put_eq, la_up, lr_same, lr_ne, lu_same, lu_ne, not_true_eq_false, not_false_eq_true])
  refine ⟨(k, nI 0, nI 3, h), ⟨rfl, rfl⟩, fun r h' hq => ?_⟩
  obtain ⟨rfl, ⟨⟨q, q1, q2, rfl⟩, rfl⟩ | ⟨hc, rfl⟩⟩ := Q_within (by decide) (by decide) hq
  · obtain ⟨⟨s0, s1, s2⟩, b1, b2, b3⟩ := hsh q (by omega)
    conv => whnf
    repeat' (first
      | (refine ⟨fun c9 => ?_, fun c9 => ?_⟩ <;> (try simp (disch := omega) only [nI_leI, nI_ltI, nI_eq, nz_eq, nz_lt, nz_gt, nz_le, nz_ge, nz_00, nz_n1, nI_add, pk_mul, pk_sub, nI_shl1, nI_or, nI_half2, nI_min2, la_put_eq, la_up, lr_same, lr_ne, lu_same, lu_ne, not_true_eq_false, not_false_eq_true, s1] at c9) <;> first | (exfalso; omega) | conv => whnf)
      | (refine ⟨_, rfl, by omega, ?_⟩; conv => whnf)
      | (refine ⟨_, rfl, rfl, rfl, by decide, by decide, ?_⟩; conv => whnf)
      | (refine ⟨_, by (simp (disch := omega) only [nI_leI, nI_ltI, nI_eq, nz_eq, nz_lt, nz_gt, nz_le, nz_ge, nz_00, nz_n1, nI_add, pk_mul, pk_sub, nI_shl1, nI_or, nI_half2, nI_min2, la_put_eq, la_up, lr_same, lr_ne, lu_same, lu_ne, not_true_eq_false, not_false_eq_true, s1]; rfl), by omega, ?_⟩; conv => whnf)
      | (refine And.intro (by first | assumption | decide) ?_; conv => whnf))
    all_goals (try simp (disch := omega) only [nI_leI, nI_ltI, nI_eq, nz_eq, nz_lt, nz_gt, nz_le, nz_ge, nz_00, nz_n1, nI_add, pk_mul, pk_sub, nI_shl1, nI_or, nI_half2, nI_min2, la_put_eq, la_up, lr_same, lr_ne, lu_same, lu_ne, not_true_eq_false, not_false_eq_true, s1])
    refine ⟨(q, l q, i, 1, t q, l q, z q, _), ⟨rfl, rfl, ⟨s0, s1, s2⟩, b1, b2, b3, b2, by decide⟩, fun r h' hq => ?_⟩
    obtain ⟨rfl, ⟨ht, rfl⟩ | ⟨ht, hl, rfl⟩ | ⟨ht, hl, hx, rfl⟩ | ⟨ht, hl, hx, rfl⟩⟩ := hq
    · conv => whnf
      repeat' (first
        | (refine ⟨fun c9 => ?_, fun c9 => ?_⟩ <;> (try simp (disch := omega) only [nI_leI, nI_ltI, nI_eq, nz_eq, nz_lt, nz_gt, nz_le, nz_ge, nz_00, nz_n1, nI_add, pk_mul, pk_sub, nI_shl1, nI_or, nI_half2, nI_min2, la_put_eq, la_up, lr_same, lr_ne, lu_same, lu_ne, not_true_eq_false, not_false_eq_true] at c9) <;> first | (exfalso; omega) | conv => whnf)
        | (refine ⟨_, rfl, by omega, ?_⟩; conv => whnf)
        | (refine ⟨_, rfl, rfl, rfl, by decide, by decide, ?_⟩; conv => whnf)
        | (refine ⟨_, by (simp (disch := omega) only [nI_leI, nI_ltI, nI_eq, nz_eq, nz_lt, nz_gt, nz_le, nz_ge, nz_00, nz_n1, nI_add, pk_mul, pk_sub, nI_shl1, nI_or, nI_half2, nI_min2, la_put_eq, la_up, lr_same, lr_ne, lu_same, lu_ne, not_true_eq_false, not_false_eq_true]; rfl), by omega, ?_⟩; conv => whnf)
        | (refine And.intro (by first | assumption | decide) ?_; conv => whnf))
      all_goals (try simp (disch := omega) only [nI_leI, nI_ltI, nI_eq, nz_eq, nz_lt, nz_gt, nz_le, nz_ge, nz_00, nz_n1, nI_add, pk_mul, pk_sub, nI_shl1, nI_or, nI_half2, nI_min2, la_put_eq, la_up, lr_same, lr_ne, lu_same, lu_ne, not_true_eq_false, not_false_eq_true])
      refine hret _ _ ?_
      exact Or.inl ⟨q, by omega, rfl, Or.inl ⟨ht, rfl, rfl⟩⟩
    · exact absurd rfl hl
    · conv => whnf
      repeat' (first
        | (refine ⟨fun c9 => ?_, fun c9 => ?_⟩ <;> (try simp (disch := omega) only [nI_leI, nI_ltI, nI_eq, nz_eq, nz_lt, nz_gt, nz_le, nz_ge, nz_00, nz_n1, nI_add, pk_mul, pk_sub, nI_shl1, nI_or, nI_half2, nI_min2, la_put_eq, la_up, lr_same, lr_ne, lu_same, lu_ne, not_true_eq_false, not_false_eq_true] at c9) <;> first | (exfalso; omega) | conv => whnf)
        | (refine ⟨_, rfl, by omega, ?_⟩; conv => whnf)
        | (refine ⟨_, rfl, rfl, rfl, by decide, by decide, ?_⟩; conv => whnf)
        | (refine ⟨_, by (simp (disch := omega) only [nI_leI, nI_ltI, nI_eq, nz_eq, nz_lt, nz_gt, nz_le, nz_ge, nz_00, nz_n1, nI_add, pk_mul, pk_sub, nI_shl1, nI_or, nI_half2, nI_min2, la_put_eq, la_up, lr_same, lr_ne, lu_same, lu_ne, not_true_eq_false, not_false_eq_true]; rfl), by omega, ?_⟩; conv => whnf)
        | (refine And.intro (by first | assumption | decide) ?_; conv => whnf))
      all_goals (try simp (disch := omega) only [nI_leI, nI_ltI, nI_eq, nz_eq, nz_lt, nz_gt, nz_le, nz_ge, nz_00, nz_n1, nI_add, pk_mul, pk_sub, nI_shl1, nI_or, nI_half2, nI_min2, la_put_eq, la_up, lr_same, lr_ne, lu_same, lu_ne, not_true_eq_false, not_false_eq_true])
      refine hret _ _ ?_
      exact Or.inl ⟨q, by omega, rfl, Or.inr (Or.inl ⟨ht, hx, rfl, rfl⟩)⟩
    · obtain ⟨j, hj, rfl⟩ := hx
      conv => whnf
      repeat' (first
        | (refine ⟨fun c9 => ?_, fun c9 => ?_⟩ <;> (try simp (disch := omega) only [nI_leI, nI_ltI, nI_eq, nz_eq, nz_lt, nz_gt, nz_le, nz_ge, nz_00, nz_n1, nI_add, pk_mul, pk_sub, nI_shl1, nI_or, nI_half2, nI_min2, la_put_eq, la_up, lr_same, lr_ne, lu_same, lu_ne, not_true_eq_false, not_false_eq_true] at c9) <;> first | (exfalso; omega) | conv => whnf)
        | (refine ⟨_, rfl, by omega, ?_⟩; conv => whnf)
        | (refine ⟨_, rfl, rfl, rfl, by decide, by decide, ?_⟩; conv => whnf)
        | (refine ⟨_, by (simp (disch := omega) only [nI_leI, nI_ltI, nI_eq, nz_eq, nz_lt, nz_gt, nz_le, nz_ge, nz_00, nz_n1, nI_add, pk_mul, pk_sub, nI_shl1, nI_or, nI_half2, nI_min2, la_put_eq, la_up, lr_same, lr_ne, lu_same, lu_ne, not_true_eq_false, not_false_eq_true]; rfl), by omega, ?_⟩; conv => whnf)
        | (refine And.intro (by first | assumption | decide) ?_; conv => whnf))
      all_goals (try simp (disch := omega) only [nI_leI, nI_ltI, nI_eq, nz_eq, nz_lt, nz_gt, nz_le, nz_ge, nz_00, nz_n1, nI_add, pk_mul, pk_sub, nI_shl1, nI_or, nI_half2, nI_min2, la_put_eq, la_up, lr_same, lr_ne, lu_same, lu_ne, not_true_eq_false, not_false_eq_true])
      refine ⟨(q, v, l q, _), ⟨rfl, rfl, s1, b2⟩, fun r h' hq => ?_⟩
      obtain ⟨rfl, rfl⟩ := hq
      conv => whnf
      repeat' (first
        | (refine ⟨fun c9 => ?_, fun c9 => ?_⟩ <;> (try simp (disch := omega) only [nI_leI, nI_ltI, nI_eq, nz_eq, nz_lt, nz_gt, nz_le, nz_ge, nz_00, nz_n1, nI_add, pk_mul, pk_sub, nI_shl1, nI_or, nI_half2, nI_min2, la_put_eq, la_up, lr_same, lr_ne, lu_same, lu_ne, not_true_eq_false, not_false_eq_true] at c9) <;> first | (exfalso; omega) | conv => whnf)
        | (refine ⟨_, rfl, by omega, ?_⟩; conv => whnf)
        | (refine ⟨_, rfl, rfl, rfl, by decide, by decide, ?_⟩; conv => whnf)
        | (refine ⟨_, by (simp (disch := omega) only [nI_leI, nI_ltI, nI_eq, nz_eq, nz_lt, nz_gt, nz_le, nz_ge, nz_00, nz_n1, nI_add, pk_mul, pk_sub, nI_shl1, nI_or, nI_half2, nI_min2, la_put_eq, la_up, lr_same, lr_ne, lu_same, lu_ne, not_true_eq_false, not_false_eq_true]; rfl), by omega, ?_⟩; conv => whnf)
        | (refine And.intro (by first | assumption | decide) ?_; conv => whnf))
      all_goals (try simp (disch := omega) only [nI_leI, nI_ltI, nI_eq, nz_eq, nz_lt, nz_gt, nz_le, nz_ge, nz_00, nz_n1, nI_add, pk_mul, pk_sub, nI_shl1, nI_or, nI_half2, nI_min2, la_put_eq, la_up, lr_same, lr_ne, lu_same, lu_ne, not_true_eq_false, not_false_eq_true])
      refine hret _ _ ?_
      exact Or.inl ⟨q, by omega, rfl, Or.inr (Or.inr ⟨ht, j, by omega, rfl, rfl, rfl⟩)⟩
  · conv => whnf
    repeat' (first
      | (refine ⟨fun c9 => ?_, fun c9 => ?_⟩ <;> (try simp (disch := omega) only [nI_leI, nI_ltI, nI_eq, nz_eq, nz_lt, nz_gt, nz_le, nz_ge, nz_00, nz_n1, nI_add, pk_mul, pk_sub, nI_shl1, nI_or, nI_half2, nI_min2, la_put_eq, la_up, lr_same, lr_ne, lu_same, lu_ne, not_true_eq_false, not_false_eq_true] at c9) <;> first | (exfalso; omega) | conv => whnf)
      | (refine ⟨_, rfl, by omega, ?_⟩; conv => whnf)
      | (refine ⟨_, rfl, rfl, rfl, by decide, by decide, ?_⟩; conv => whnf)
      | (refine ⟨_, by (simp (disch := omega) only [nI_leI, nI_ltI, nI_eq, nz_eq, nz_lt, nz_gt, nz_le, nz_ge, nz_00, nz_n1, nI_add, pk_mul, pk_sub, nI_shl1, nI_or, nI_half2, nI_min2, la_put_eq, la_up, lr_same, lr_ne, lu_same, lu_ne, not_true_eq_false, not_false_eq_true]; rfl), by omega, ?_⟩; conv => whnf)
      | (refine And.intro (by first | assumption | decide) ?_; conv => whnf))
    all_goals (try simp (disch := omega) only [nI_leI, nI_ltI, nI_eq, nz_eq, nz_lt, nz_gt, nz_le, nz_ge, nz_00, nz_n1, nI_add, pk_mul, pk_sub, nI_shl1, nI_or, nI_half2, nI_min2, la_put_eq, la_up, lr_same, lr_ne, lu_same, lu_ne, not_true_eq_false, not_false_eq_true])
    refine hret _ _ ?_
    exact Or.inr ⟨hc, rfl, rfl⟩
theorem M_X4_lay : pm_MT yX4_lay cX4_lay 6 1 3 P_X4_lay (pm_pi Q_X4_lay) := pm_met k_X4_lay (by decide) rfl (by
  rintro ⟨g0, g1, g2, g3, g4, g5, g6⟩ av h hp
  rw [hp.1]
  exact Nat.le_of_ble_eq_true rfl) pf_X4_lay
theorem rc_X4_lay : ∀ g av h, P_X4_lay g av h → ∃ i t, av = .inr (.inr (4, i, 0)) :: t := by
  rintro ⟨g0, g1, g2, g3, g4, g5, g6⟩ av h hp
  exact ⟨_, _, hp.1⟩
def a_count (N : LD) (m k0 k1 n t z : Nat) (w : Int32) : Int32 := if w = nI 0 then nI m else if w = nI 1 then nI (k0 + k1) else if w = nI 2 then nI n else if w = nI 3 then (if t = 0 then -4 else nI z) else if w = nI 4 then nI (sp_sum (N 1) (N 0 0)) else if w = nI 5 then nI (N 0 11) else -1
def P_X4_count : Int32 × LD × Nat × Nat × Nat × Nat × Nat × Nat × pm_H → List pm_V → pm_H → Prop := fun g av h => match g with
  | (w, N, m, k0, k1, n, t, z, h0) => av = [vR 4 0 0, vI w] ∧ h = h0 ∧ la_at h0 0 N ∧ la_ok N ∧ h0 2 0 0 0 = nI m ∧ h0 4 0 2 0 = nI k0 ∧ h0 4 0 2 1 = nI k1 ∧ k0 ≤ 1 ∧ k1 ≤ 1 ∧ h0 3 0 0 1 = nI n ∧ h0 1 0 0 0 = nI t ∧ h0 1 0 0 2 = nI z ∧ t ≤ 1
def Q_X4_count : Int32 × LD × Nat × Nat × Nat × Nat × Nat × Nat × pm_H → Int32 → pm_H → Prop := fun g r h => match g with
  | (w, N, m, k0, k1, n, t, z, h0) => h = h0 ∧ r = a_count N m k0 k1 n t z w
def T_X4_count : List (Nat × pm_T) := [
  (0, i_il 1 1),
  (1, i_sw 0 [40, 48, 78, 86, 113, 121] 129),
  (40, i_al 0 41),
  (41, i_gr 4 (fun _ => (2, 0, 0)) 44),
  (44, i_gi 2 0 47),
  (47, i_ir),
  (48, i_al 0 49),
  (49, i_gr 4 (fun _ => (4, 0, 2)) 52),
  (52, i_c (nI 0) 53),
  (53, i_za 54),
  (54, i_ifeq 61 57),
  (57, i_c (nI 1) 58),
  (58, i_go 62),
  (61, i_c (nI 0) 62),
  (62, i_al 0 63),
  (63, i_gr 4 (fun _ => (4, 0, 2)) 66),
  (66, i_c (nI 1) 67),
  (67, i_za 68),
  (68, i_ifeq 75 71),
  (71, i_c (nI 1) 72),
  (72, i_go 76),
  (75, i_c (nI 0) 76),
  (76, i_iadd 77),
  (77, i_ir),
  (78, i_al 0 79),
  (79, i_gr 4 (fun _ => (3, 0, 0)) 82),
  (82, i_gi 3 1 85),
  (85, i_ir),
  (86, i_al 0 87),
  (87, i_gr 4 (fun _ => (4, 0, 3)) 90),
  (90, i_c (nI 0) 91),
  (91, i_aa 4 (fun k => (1, k, 0)) 92),
  (92, i_gi 1 0 95),
  (95, i_ifeq 110 98),
  (98, i_al 0 99),
  (99, i_gr 4 (fun _ => (4, 0, 3)) 102),
  (102, i_c (nI 0) 103),
  (103, i_aa 4 (fun k => (1, k, 0)) 104),
  (104, i_gi 1 2 107),
  (107, i_go 112),
  (110, i_c (-4) 112),
  (112, i_ir),
  (113, i_al 0 114),
  (114, i_gr 4 (fun _ => (0, 0, 0)) 117),
  (117, i_ci 1 P_X0_allAppetites Q_X0_allAppetites 120),
  (120, i_ir),
  (121, i_al 0 122),
  (122, i_gr 4 (fun _ => (0, 0, 0)) 125),
  (125, i_gi 0 11 128),
  (128, i_ir),
  (129, i_c (-1) 130),
  (130, i_ir)]
theorem k_X4_count : ∀ q ∈ T_X4_count, pm_sd RX4 cX4_count 2 3 1 q.1 q.2 := by
  unfold T_X4_count
  refine pm_cn (sd_iln (k := 1) (by decide +kernel) rfl rfl) ?_
  refine pm_cn (sd_sw (dflt := 128) (lo' := 0) (hi := 5) (offs := #[39, 47, 77, 85, 112, 120]) (len := 39) (by decide +kernel) rfl rfl (by decide) (by decide) (by decide)) ?_
  refine pm_cn (sd_aln (k := 0) (by decide +kernel) rfl rfl) ?_
  refine pm_cn (sd_gr cl4_ in4_ (j := 5) (by decide) (fun _ => rfl) fl_X4_37 (by decide +kernel) rfl) ?_
  refine pm_cn (sd_gi cl2_ in2_ (by decide) (fun _ => rfl) fl_X4_80 (by decide +kernel) rfl) ?_
  refine pm_cn (sd_ir (by decide +kernel)) ?_
  refine pm_cn (sd_aln (k := 0) (by decide +kernel) rfl rfl) ?_
  refine pm_cn (sd_gr cl4_ in4_ (j := 4) (by decide) (fun _ => rfl) fl_X4_30 (by decide +kernel) rfl) ?_
  refine pm_cn (sd_iconst (z := 0) (by decide +kernel) (by decide +kernel) rfl) ?_
  refine pm_cn (sd_za (by decide +kernel) rfl) ?_
  refine pm_cn (sd_ifeq (off := 7) (by decide +kernel) (by decide) rfl) ?_
  refine pm_cn (sd_iconst (z := 1) (by decide +kernel) (by decide +kernel) rfl) ?_
  refine pm_cn (sd_go (off := 4) (by decide +kernel) (by decide)) ?_
  refine pm_cn (sd_iconst (z := 0) (by decide +kernel) (by decide +kernel) rfl) ?_
  refine pm_cn (sd_aln (k := 0) (by decide +kernel) rfl rfl) ?_
  refine pm_cn (sd_gr cl4_ in4_ (j := 4) (by decide) (fun _ => rfl) fl_X4_30 (by decide +kernel) rfl) ?_
  refine pm_cn (sd_iconst (z := 1) (by decide +kernel) (by decide +kernel) rfl) ?_
  refine pm_cn (sd_za (by decide +kernel) rfl) ?_
  refine pm_cn (sd_ifeq (off := 7) (by decide +kernel) (by decide) rfl) ?_
  refine pm_cn (sd_iconst (z := 1) (by decide +kernel) (by decide +kernel) rfl) ?_
  refine pm_cn (sd_go (off := 4) (by decide +kernel) (by decide)) ?_
  refine pm_cn (sd_iconst (z := 0) (by decide +kernel) (by decide +kernel) rfl) ?_
  refine pm_cn (sd_iadd (by decide +kernel) rfl) ?_
  refine pm_cn (sd_ir (by decide +kernel)) ?_
  refine pm_cn (sd_aln (k := 0) (by decide +kernel) rfl rfl) ?_
  refine pm_cn (sd_gr cl4_ in4_ (j := 0) (by decide) (fun _ => rfl) fl_X4_10 (by decide +kernel) rfl) ?_
  refine pm_cn (sd_gi cl3_ in3_ (by decide) (fun _ => rfl) fl_X4_61 (by decide +kernel) rfl) ?_
  refine pm_cn (sd_ir (by decide +kernel)) ?_
  refine pm_cn (sd_aln (k := 0) (by decide +kernel) rfl rfl) ?_
  refine pm_cn (sd_gr cl4_ in4_ (j := 6) (by decide) (fun _ => rfl) fl_X4_43 (by decide +kernel) rfl) ?_
  refine pm_cn (sd_iconst (z := 0) (by decide +kernel) (by decide +kernel) rfl) ?_
  refine pm_cn (sd_aa (by decide) (fun _ => rfl) (by decide +kernel) rfl) ?_
  refine pm_cn (sd_gi cl1_ in1_ (by decide) (fun _ => rfl) fl_X4_260 (by decide +kernel) rfl) ?_
  refine pm_cn (sd_ifeq (off := 15) (by decide +kernel) (by decide) rfl) ?_
  refine pm_cn (sd_aln (k := 0) (by decide +kernel) rfl rfl) ?_
  refine pm_cn (sd_gr cl4_ in4_ (j := 6) (by decide) (fun _ => rfl) fl_X4_43 (by decide +kernel) rfl) ?_
  refine pm_cn (sd_iconst (z := 0) (by decide +kernel) (by decide +kernel) rfl) ?_
  refine pm_cn (sd_aa (by decide) (fun _ => rfl) (by decide +kernel) rfl) ?_
  refine pm_cn (sd_gi cl1_ in1_ (by decide) (fun _ => rfl) fl_X4_264 (by decide +kernel) rfl) ?_
  refine pm_cn (sd_go (off := 5) (by decide +kernel) (by decide)) ?_
  refine pm_cn (sd_bipush (z := -4) (by decide +kernel) (by decide +kernel) rfl) ?_
  refine pm_cn (sd_ir (by decide +kernel)) ?_
  refine pm_cn (sd_aln (k := 0) (by decide +kernel) rfl rfl) ?_
  refine pm_cn (sd_gr cl4_ in4_ (j := 1) (by decide) (fun _ => rfl) fl_X4_19 (by decide +kernel) rfl) ?_
  refine pm_cn (sd_civ M_X0_allAppetites (by decide) cd_X0_allAppetites rc_X0_allAppetites cl0_ ml_X4_267 im_X0_allAppetites se_X0_allAppetites nt_X0 (by decide +kernel) (by omega) (by decide) (by decide +kernel) rfl) ?_
  refine pm_cn (sd_ir (by decide +kernel)) ?_
  refine pm_cn (sd_aln (k := 0) (by decide +kernel) rfl rfl) ?_
  refine pm_cn (sd_gr cl4_ in4_ (j := 1) (by decide) (fun _ => rfl) fl_X4_19 (by decide +kernel) rfl) ?_
  refine pm_cn (sd_gi cl0_ in0_ (by decide) (fun _ => rfl) fl_X4_149 (by decide +kernel) rfl) ?_
  refine pm_cn (sd_ir (by decide +kernel)) ?_
  refine pm_cn (sd_iconst (z := -1) (by decide +kernel) (by decide +kernel) rfl) ?_
  refine pm_cn (sd_ir (by decide +kernel)) ?_
  exact fun _ h => absurd h List.not_mem_nil
set_option maxHeartbeats 4000000 in
set_option maxRecDepth 100000 in
theorem pf_X4_count : pm_pf T_X4_count P_X4_count (pm_pi Q_X4_count) := by
  rintro ⟨w, N, m, k0, k1, n, t, z, h0⟩ av h K hK ⟨rfl, rfl, hN, wN, e1, e2, e3, b1, b2, e4, e5, e6, b3⟩ hret
  show K (some 0) ([(0, vR 4 0 0), (1, vI w)], [], h)
  refine hK [] 40 _ _ ?_
  conv => whnf
  repeat' (first
    | (refine ⟨fun c9 => ?_, fun c9 => ?_⟩ <;> (try simp (disch := omega) only [nI_leI, nI_ltI, nI_eq, nz_eq, nz_lt, nz_gt, nz_le, nz_ge, nz_00, nz_n1, nI_add, pk_mul, pk_sub, nI_shl1, nI_or, nI_half2, nI_min2, la_put_eq, la_up, lr_same, lr_ne, lu_same, lu_ne, not_true_eq_false, not_false_eq_true, hN, e1, e2, e3, e4, e5, e6] at c9) <;> first | (exfalso; omega) | conv => whnf)
    | (refine ⟨_, rfl, by omega, ?_⟩; conv => whnf)
    | (refine ⟨_, rfl, rfl, rfl, by decide, by decide, ?_⟩; conv => whnf)
    | (refine ⟨_, by (simp (disch := omega) only [nI_leI, nI_ltI, nI_eq, nz_eq, nz_lt, nz_gt, nz_le, nz_ge, nz_00, nz_n1, nI_add, pk_mul, pk_sub, nI_shl1, nI_or, nI_half2, nI_min2, la_put_eq, la_up, lr_same, lr_ne, lu_same, lu_ne, not_true_eq_false, not_false_eq_true, hN, e1, e2, e3, e4, e5, e6]; rfl), by omega, ?_⟩; conv => whnf)
    | (refine And.intro (by first | assumption | decide) ?_; conv => whnf))
  all_goals (try simp (disch := omega) only [nI_leI, nI_ltI, nI_eq, nz_eq, nz_lt, nz_gt, nz_le, nz_ge, nz_00, nz_n1, nI_add, pk_mul, pk_sub, nI_shl1, nI_or, nI_half2, nI_min2, la_put_eq, la_up, lr_same, lr_ne, lu_same, lu_ne, not_true_eq_false, not_false_eq_true, hN, e1, e2, e3, e4, e5, e6])
  all_goals first
    | (refine hret _ _ ⟨rfl, ?_⟩; unfold a_count; simp (disch := omega) [*, nI_eq]; done)
    | (refine hret _ _ ⟨rfl, ?_⟩
       have h0 : k0 = 0 ∨ k0 = 1 := by omega
       have h1 : k1 = 0 ∨ k1 = 1 := by omega
       unfold a_count
       rcases h0 with rfl | rfl <;> rcases h1 with rfl | rfl <;> first | omega | (simp (disch := omega) [*, nI_eq]; done))
    | skip
  refine ⟨(0, N, h), ⟨rfl, rfl, hN, wN⟩, fun v h' hq => ?_⟩
  obtain ⟨rfl, rfl⟩ := hq
  conv => whnf
  repeat' (first
    | (refine ⟨fun c9 => ?_, fun c9 => ?_⟩ <;> (try simp (disch := omega) only [nI_leI, nI_ltI, nI_eq, nz_eq, nz_lt, nz_gt, nz_le, nz_ge, nz_00, nz_n1, nI_add, pk_mul, pk_sub, nI_shl1, nI_or, nI_half2, nI_min2, la_put_eq, la_up, lr_same, lr_ne, lu_same, lu_ne, not_true_eq_false, not_false_eq_true] at c9) <;> first | (exfalso; omega) | conv => whnf)
    | (refine ⟨_, rfl, by omega, ?_⟩; conv => whnf)
    | (refine ⟨_, rfl, rfl, rfl, by decide, by decide, ?_⟩; conv => whnf)
    | (refine ⟨_, by (simp (disch := omega) only [nI_leI, nI_ltI, nI_eq, nz_eq, nz_lt, nz_gt, nz_le, nz_ge, nz_00, nz_n1, nI_add, pk_mul, pk_sub, nI_shl1, nI_or, nI_half2, nI_min2, la_put_eq, la_up, lr_same, lr_ne, lu_same, lu_ne, not_true_eq_false, not_false_eq_true]; rfl), by omega, ?_⟩; conv => whnf)
    | (refine And.intro (by first | assumption | decide) ?_; conv => whnf))
  all_goals (try simp (disch := omega) only [nI_leI, nI_ltI, nI_eq, nz_eq, nz_lt, nz_gt, nz_le, nz_ge, nz_00, nz_n1, nI_add, pk_mul, pk_sub, nI_shl1, nI_or, nI_half2, nI_min2, la_put_eq, la_up, lr_same, lr_ne, lu_same, lu_ne, not_true_eq_false, not_false_eq_true])
  refine hret _ _ ⟨rfl, ?_⟩
  unfold a_count
  simp (disch := omega) [*, nI_eq]
theorem M_X4_count : pm_MT yX4_count cX4_count 2 1 3 P_X4_count (pm_pi Q_X4_count) := pm_met k_X4_count (by decide) rfl (by
  rintro ⟨g0, g1, g2, g3, g4, g5, g6, g7, g8⟩ av h hp
  rw [hp.1]
  exact Nat.le_of_ble_eq_true rfl) pf_X4_count
theorem rc_X4_count : ∀ g av h, P_X4_count g av h → ∃ i t, av = .inr (.inr (4, i, 0)) :: t := by
  rintro ⟨g0, g1, g2, g3, g4, g5, g6, g7, g8⟩ av h hp
  exact ⟨_, _, hp.1⟩
