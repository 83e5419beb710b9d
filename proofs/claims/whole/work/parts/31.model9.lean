/-! THE MODEL: what is best. -/
def P_X5_need : Int32 × Int32 × LD × pm_H → List pm_V → pm_H → Prop := fun g av h => match g with
  | (b, n, Y, h0) => av = [vR 5 0 0, vI b, vI n] ∧ h = h0 ∧ md h0 Y ∧ Y 0 10 ≤ 999
def Q_X5_need : Int32 × Int32 × LD × pm_H → Int32 → pm_H → Prop := fun g r h => match g with
  | (b, n, N, h0) => mf h0 h ∧ q_need N b n r
theorem lore_bt {L : LD} {f s : Nat} : sp_sub true f L / 2 ^ s % 2 = 1 ↔ sp_kn L f s := by rw [bt_iff, sp_sub_t, lore_bit]
def T_X5_need : List (Nat × pm_T) := [
  (0, i_al 0 1),
  (1, i_il 1 2),
  (2, i_ci 2 P_X5_isBiscuit Q_X5_isBiscuit 5),
  (5, i_ifeq 20 8),
  (8, i_il 2 9),
  (9, i_i2l 10),
  (10, i_cl (lN 0) 11),
  (11, i_cl (lN 60) 14),
  (14, i_ci 3 P_X5_in Q_X5_in 17),
  (17, i_ifne 22 20),
  (20, i_c (-1) 21),
  (21, i_ir),
  (22, i_c (nI 0) 23),
  (23, i_is 3 24),
  (24, i_il 3 25),
  (25, i_c (nI 99) 27),
  (27, i_icgt 97 30),
  (30, i_al 0 31),
  (31, i_c (nI 0) 32),
  (32, i_c (nI 245) 35),
  (35, i_cv 3 P_X5_copies Q_X5_copies 38),
  (38, i_al 0 39),
  (39, i_gr 5 (fun i => (5, i, 1)) 42),
  (42, i_c (nI 265) 45),
  (45, i_il 1 46),
  (46, i_iadd 47),
  (47, i_il 3 48),
  (48, i_ias 49),
  (49, i_al 0 50),
  (50, i_c (nI 245) 53),
  (53, i_il 2 54),
  (54, i_cv 3 P_X5_daysGo Q_X5_daysGo 57),
  (57, i_al 0 58),
  (58, i_c (nI 196) 61),
  (61, i_al 0 62),
  (62, i_gr 5 (fun i => (5, i, 1)) 65),
  (65, i_c (nI 26) 67),
  (67, i_il 1 68),
  (68, i_iadd 69),
  (69, i_ia 70),
  (70, i_ci 3 P_X5_subjectsOn Q_X5_subjectsOn 73),
  (73, i_al 0 74),
  (74, i_gr 5 (fun i => (5, i, 1)) 77),
  (77, i_c (nI 14) 79),
  (79, i_il 1 80),
  (80, i_iadd 81),
  (81, i_ia 82),
  (82, i_ishr 83),
  (83, i_c (nI 1) 84),
  (84, i_iand 85),
  (85, i_c (nI 1) 86),
  (86, i_icne 91 89),
  (89, i_il 3 90),
  (90, i_ir),
  (91, i_inc 3 (nI 1) 94),
  (94, i_go 24),
  (97, i_c (-4) 99),
  (99, i_ir)]
theorem k_X5_need : ∀ q ∈ T_X5_need, pm_sd RX5 cX5_need 4 6 1 q.1 q.2 := by
  unfold T_X5_need
  refine pm_cn (sd_aln (k := 0) (by decide +kernel) rfl rfl) ?_
  refine pm_cn (sd_iln (k := 1) (by decide +kernel) rfl rfl) ?_
  refine pm_cn (sd_civ M_X5_isBiscuit (by decide) cd_X5_isBiscuit rc_X5_isBiscuit cl5_ ml_X5_159 im_X5_isBiscuit se_X5_isBiscuit nt_X5 (by decide +kernel) (by omega) (by decide) (by decide +kernel) rfl) ?_
  refine pm_cn (sd_ifeq (off := 15) (by decide +kernel) (by decide) rfl) ?_
  refine pm_cn (sd_iln (k := 2) (by decide +kernel) rfl rfl) ?_
  refine pm_cn (sd_i2l (by decide +kernel) rfl) ?_
  refine pm_cn (sd_lconst (z := 0) (by decide +kernel) (by decide +kernel) rfl) ?_
  refine pm_cn (sd_ldc2 (k := 194) (by decide +kernel) (pm_tin (by decide +kernel) rfl) rfl) ?_
  refine pm_cn (sd_cis M_X5_in (by decide) cd_X5_in ml_X5_46 st_X5_in nt_X5 (by decide +kernel) (by omega) (by decide) (by decide +kernel) rfl) ?_
  refine pm_cn (sd_ifne (off := 5) (by decide +kernel) (by decide) rfl) ?_
  refine pm_cn (sd_iconst (z := -1) (by decide +kernel) (by decide +kernel) rfl) ?_
  refine pm_cn (sd_ir (by decide +kernel)) ?_
  refine pm_cn (sd_iconst (z := 0) (by decide +kernel) (by decide +kernel) rfl) ?_
  refine pm_cn (sd_isn (k := 3) (by decide +kernel) rfl rfl (by decide)) ?_
  refine pm_cn (sd_iln (k := 3) (by decide +kernel) rfl rfl) ?_
  refine pm_cn (sd_bipush (z := 99) (by decide +kernel) (by decide +kernel) rfl) ?_
  refine pm_cn (sd_icgt (off := 70) (by decide +kernel) (by decide) rfl) ?_
  refine pm_cn (sd_aln (k := 0) (by decide +kernel) rfl rfl) ?_
  refine pm_cn (sd_iconst (z := 0) (by decide +kernel) (by decide +kernel) rfl) ?_
  refine pm_cn (sd_sipush (z := 245) (by decide +kernel) (by decide +kernel) rfl) ?_
  refine pm_cn (sd_cvv M_X5_copies cd_X5_copies rc_X5_copies cl5_ ml_X5_190 im_X5_copies se_X5_copies nt_X5 (by decide +kernel) (by omega) (by decide) (by decide +kernel) rfl) ?_
  refine pm_cn (sd_aln (k := 0) (by decide +kernel) rfl rfl) ?_
  refine pm_cn (sd_gr cl5_ in5_ (j := 0) (by decide) (fun _ => rfl) fl_X5_7 (by decide +kernel) rfl) ?_
  refine pm_cn (sd_sipush (z := 265) (by decide +kernel) (by decide +kernel) rfl) ?_
  refine pm_cn (sd_iln (k := 1) (by decide +kernel) rfl rfl) ?_
  refine pm_cn (sd_iadd (by decide +kernel) rfl) ?_
  refine pm_cn (sd_iln (k := 3) (by decide +kernel) rfl rfl) ?_
  refine pm_cn (sd_ias (by decide +kernel) rfl) ?_
  refine pm_cn (sd_aln (k := 0) (by decide +kernel) rfl rfl) ?_
  refine pm_cn (sd_sipush (z := 245) (by decide +kernel) (by decide +kernel) rfl) ?_
  refine pm_cn (sd_iln (k := 2) (by decide +kernel) rfl rfl) ?_
  refine pm_cn (sd_cvv M_X5_daysGo cd_X5_daysGo rc_X5_daysGo cl5_ ml_X5_196 im_X5_daysGo se_X5_daysGo nt_X5 (by decide +kernel) (by omega) (by decide) (by decide +kernel) rfl) ?_
  refine pm_cn (sd_aln (k := 0) (by decide +kernel) rfl rfl) ?_
  refine pm_cn (sd_sipush (z := 196) (by decide +kernel) (by decide +kernel) rfl) ?_
  refine pm_cn (sd_aln (k := 0) (by decide +kernel) rfl rfl) ?_
  refine pm_cn (sd_gr cl5_ in5_ (j := 0) (by decide) (fun _ => rfl) fl_X5_7 (by decide +kernel) rfl) ?_
  refine pm_cn (sd_bipush (z := 26) (by decide +kernel) (by decide +kernel) rfl) ?_
  refine pm_cn (sd_iln (k := 1) (by decide +kernel) rfl rfl) ?_
  refine pm_cn (sd_iadd (by decide +kernel) rfl) ?_
  refine pm_cn (sd_ia (by decide +kernel) rfl) ?_
  refine pm_cn (sd_civ M_X5_subjectsOn (by decide) cd_X5_subjectsOn rc_X5_subjectsOn cl5_ ml_X5_134 im_X5_subjectsOn se_X5_subjectsOn nt_X5 (by decide +kernel) (by omega) (by decide) (by decide +kernel) rfl) ?_
  refine pm_cn (sd_aln (k := 0) (by decide +kernel) rfl rfl) ?_
  refine pm_cn (sd_gr cl5_ in5_ (j := 0) (by decide) (fun _ => rfl) fl_X5_7 (by decide +kernel) rfl) ?_
  refine pm_cn (sd_bipush (z := 14) (by decide +kernel) (by decide +kernel) rfl) ?_
  refine pm_cn (sd_iln (k := 1) (by decide +kernel) rfl rfl) ?_
  refine pm_cn (sd_iadd (by decide +kernel) rfl) ?_
  refine pm_cn (sd_ia (by decide +kernel) rfl) ?_
  refine pm_cn (sd_ishr (by decide +kernel) rfl) ?_
  refine pm_cn (sd_iconst (z := 1) (by decide +kernel) (by decide +kernel) rfl) ?_
  refine pm_cn (sd_iand (by decide +kernel) rfl) ?_
  refine pm_cn (sd_iconst (z := 1) (by decide +kernel) (by decide +kernel) rfl) ?_
  refine pm_cn (sd_icne (off := 5) (by decide +kernel) (by decide) rfl) ?_
  refine pm_cn (sd_iln (k := 3) (by decide +kernel) rfl rfl) ?_
  refine pm_cn (sd_ir (by decide +kernel)) ?_
  refine pm_cn (sd_inc (z := 1) (by decide +kernel) (by decide +kernel) rfl (by decide)) ?_
  refine pm_cn (sd_go (off := -70) (by decide +kernel) (by decide)) ?_
  refine pm_cn (sd_bipush (z := -4) (by decide +kernel) (by decide +kernel) rfl) ?_
  refine pm_cn (sd_ir (by decide +kernel)) ?_
  exact fun _ h => absurd h List.not_mem_nil
set_option maxHeartbeats 800000 in
set_option maxRecDepth 100000 in
theorem pf_X5_need : pm_pf T_X5_need P_X5_need (pm_pi Q_X5_need) := by
  rintro ⟨b, n, N, h0⟩ av h K hK ⟨rfl, rfl, ⟨hP, wN, hF⟩, hd⟩ hret
  have w2 := wN.2.1
  show K (some 0) ([(0, vR 5 0 0), (1, vI b), (2, vI n)], [], h)
  refine hK [(24, [0, 1, 2, 3])] 80 _ _ ?_
  conv => whnf
  repeat' (first
    | (refine ⟨fun c9 => ?_, fun c9 => ?_⟩ <;> (try simp (disch := omega) only [nI_leI, nI_ltI, nI_eq, nz_eq, nz_lt, nz_gt, nz_le, nz_ge, nz_00, nz_n1, nI_add, pk_mul, pk_sub, nI_shl1, nI_or, nI_half2, nI_min2, la_put_eq, la_up, lr_same, lr_ne, lu_same, lu_ne, not_true_eq_false, not_false_eq_true] at c9) <;> first | (exfalso; omega) | conv => whnf)
    | (refine ⟨_, rfl, by omega, ?_⟩; conv => whnf)
    | (refine ⟨_, rfl, rfl, rfl, by decide, by decide, ?_⟩; conv => whnf)
    | (refine ⟨_, by (simp (disch := omega) only [nI_leI, nI_ltI, nI_eq, nz_eq, nz_lt, nz_gt, nz_le, nz_ge, nz_00, nz_n1, nI_add, pk_mul, pk_sub, nI_shl1, nI_or, nI_half2, nI_min2, la_put_eq, la_up, lr_same, lr_ne, lu_same, lu_ne, not_true_eq_false, not_false_eq_true]; rfl), by omega, ?_⟩; conv => whnf)
    | (apply And.intro; (first | assumption | decide | (simp (disch := omega) only [nI_leI, nI_ltI, nI_eq, nz_eq, nz_lt, nz_gt, nz_le, nz_ge, nz_00, nz_n1, nI_add, pk_mul, pk_sub, nI_shl1, nI_or, nI_half2, nI_min2, la_put_eq, la_up, lr_same, lr_ne, lu_same, lu_ne, not_true_eq_false, not_false_eq_true]; omega)); conv => whnf))
  all_goals (try simp (disch := omega) only [nI_leI, nI_ltI, nI_eq, nz_eq, nz_lt, nz_gt, nz_le, nz_ge, nz_00, nz_n1, nI_add, pk_mul, pk_sub, nI_shl1, nI_or, nI_half2, nI_min2, la_put_eq, la_up, lr_same, lr_ne, lu_same, lu_ne, not_true_eq_false, not_false_eq_true])
  refine ⟨(b, N 0 3, h), ⟨rfl, rfl, zrN hP, w2⟩, fun v h' hq => ?_⟩
  obtain ⟨rfl, ⟨hb, rfl⟩ | ⟨hc, rfl⟩⟩ := hq
  · conv => whnf
    repeat' (first
      | (refine ⟨fun c9 => ?_, fun c9 => ?_⟩ <;> (try simp (disch := omega) only [nI_leI, nI_ltI, nI_eq, nz_eq, nz_lt, nz_gt, nz_le, nz_ge, nz_00, nz_n1, nI_add, pk_mul, pk_sub, nI_shl1, nI_or, nI_half2, nI_min2, la_put_eq, la_up, lr_same, lr_ne, lu_same, lu_ne, not_true_eq_false, not_false_eq_true] at c9) <;> first | (exfalso; omega) | conv => whnf)
      | (refine ⟨_, rfl, by omega, ?_⟩; conv => whnf)
      | (refine ⟨_, rfl, rfl, rfl, by decide, by decide, ?_⟩; conv => whnf)
      | (refine ⟨_, by (simp (disch := omega) only [nI_leI, nI_ltI, nI_eq, nz_eq, nz_lt, nz_gt, nz_le, nz_ge, nz_00, nz_n1, nI_add, pk_mul, pk_sub, nI_shl1, nI_or, nI_half2, nI_min2, la_put_eq, la_up, lr_same, lr_ne, lu_same, lu_ne, not_true_eq_false, not_false_eq_true]; rfl), by omega, ?_⟩; conv => whnf)
      | (apply And.intro; (first | assumption | decide | (simp (disch := omega) only [nI_leI, nI_ltI, nI_eq, nz_eq, nz_lt, nz_gt, nz_le, nz_ge, nz_00, nz_n1, nI_add, pk_mul, pk_sub, nI_shl1, nI_or, nI_half2, nI_min2, la_put_eq, la_up, lr_same, lr_ne, lu_same, lu_ne, not_true_eq_false, not_false_eq_true]; omega)); conv => whnf))
    all_goals (try simp (disch := omega) only [nI_leI, nI_ltI, nI_eq, nz_eq, nz_lt, nz_gt, nz_le, nz_ge, nz_00, nz_n1, nI_add, pk_mul, pk_sub, nI_shl1, nI_or, nI_half2, nI_min2, la_put_eq, la_up, lr_same, lr_ne, lu_same, lu_ne, not_true_eq_false, not_false_eq_true])
    refine ⟨(n.toInt64, lN 0, lN 60, _), ⟨rfl, rfl⟩, fun v h' hq => ?_⟩
    obtain ⟨rfl, ⟨hn, rfl⟩ | ⟨hc, rfl⟩⟩ := Q_in (by decide) (by decide) hq
    · obtain ⟨k, hk, rfl⟩ := id hb
      obtain ⟨m, _, hm, rfl⟩ := id hn
      have hB := wN.2.2.2.2.2.2.2.1 k (by omega)
      have loop : ∀ n x H, x + n = 100 → mf h' H → (∀ y, y < x → ¬ sp_nd N k m y) → K (some 24) ([(0, vR 5 0 0), (1, vI (nI k)), (2, vI (nI m)), (3, vI (nI x))], [], H) := by
        intro n
        induction n with
        | zero =>
          intro x H hx hH hl
          refine hK [(24, [0, 1, 2, 3])] 60 _ _ ?_
          conv => whnf
          repeat' (first
            | (refine ⟨fun c9 => ?_, fun c9 => ?_⟩ <;> (try simp (disch := omega) only [nI_leI, nI_ltI, nI_eq, nz_eq, nz_lt, nz_gt, nz_le, nz_ge, nz_00, nz_n1, nI_add, pk_mul, pk_sub, nI_shl1, nI_or, nI_half2, nI_min2, la_put_eq, la_up, lr_same, lr_ne, lu_same, lu_ne, not_true_eq_false, not_false_eq_true] at c9) <;> first | (exfalso; omega) | conv => whnf)
            | (refine ⟨_, rfl, by omega, ?_⟩; conv => whnf)
            | (refine ⟨_, rfl, rfl, rfl, by decide, by decide, ?_⟩; conv => whnf)
            | (refine ⟨_, by (simp (disch := omega) only [nI_leI, nI_ltI, nI_eq, nz_eq, nz_lt, nz_gt, nz_le, nz_ge, nz_00, nz_n1, nI_add, pk_mul, pk_sub, nI_shl1, nI_or, nI_half2, nI_min2, la_put_eq, la_up, lr_same, lr_ne, lu_same, lu_ne, not_true_eq_false, not_false_eq_true]; rfl), by omega, ?_⟩; conv => whnf)
            | (apply And.intro; (first | assumption | decide | (simp (disch := omega) only [nI_leI, nI_ltI, nI_eq, nz_eq, nz_lt, nz_gt, nz_le, nz_ge, nz_00, nz_n1, nI_add, pk_mul, pk_sub, nI_shl1, nI_or, nI_half2, nI_min2, la_put_eq, la_up, lr_same, lr_ne, lu_same, lu_ne, not_true_eq_false, not_false_eq_true]; omega)); conv => whnf))
          all_goals (try simp (disch := omega) only [nI_leI, nI_ltI, nI_eq, nz_eq, nz_lt, nz_gt, nz_le, nz_ge, nz_00, nz_n1, nI_add, pk_mul, pk_sub, nI_shl1, nI_or, nI_half2, nI_min2, la_put_eq, la_up, lr_same, lr_ne, lu_same, lu_ne, not_true_eq_false, not_false_eq_true])
          exact hret _ _ ⟨hH, Or.inl ⟨k, m, hk, hm, rfl, rfl, Or.inr ⟨fun y hy => hl y (by omega), rfl⟩⟩⟩
        | succ n ih =>
          intro x H hx hH hl
          have wV : la_ok (lu N 5 k x) := la_ok_lu wN (by unfold la_rel; omega) (by unfold la_bd; omega)
          have e10 : lu N 5 k x 0 10 = N 0 10 := lu_ne (by omega)
          have e00 : lu N 5 k x 0 0 = N 0 0 := lu_ne (by omega)
          have wX := la_ok_lives wV m (by omega)
          have hlt := sp_sub_lt wX true (N 6 k)
          have hbt := @lore_bt (sp_lives (lu N 5 k x) m) (N 6 k) (N 4 k)
          refine hK [(24, [0, 1, 2, 3])] 60 _ _ ?_
          conv => whnf
          repeat' (first
            | (refine ⟨fun c9 => ?_, fun c9 => ?_⟩ <;> (try simp (disch := omega) only [nI_leI, nI_ltI, nI_eq, nz_eq, nz_lt, nz_gt, nz_le, nz_ge, nz_00, nz_n1, nI_add, pk_mul, pk_sub, nI_shl1, nI_or, nI_half2, nI_min2, la_put_eq, la_up, lr_same, lr_ne, lu_same, lu_ne, not_true_eq_false, not_false_eq_true] at c9) <;> first | (exfalso; omega) | conv => whnf)
            | (refine ⟨_, rfl, by omega, ?_⟩; conv => whnf)
            | (refine ⟨_, rfl, rfl, rfl, by decide, by decide, ?_⟩; conv => whnf)
            | (refine ⟨_, by (simp (disch := omega) only [nI_leI, nI_ltI, nI_eq, nz_eq, nz_lt, nz_gt, nz_le, nz_ge, nz_00, nz_n1, nI_add, pk_mul, pk_sub, nI_shl1, nI_or, nI_half2, nI_min2, la_put_eq, la_up, lr_same, lr_ne, lu_same, lu_ne, not_true_eq_false, not_false_eq_true]; rfl), by omega, ?_⟩; conv => whnf)
            | (apply And.intro; (first | assumption | decide | (simp (disch := omega) only [nI_leI, nI_ltI, nI_eq, nz_eq, nz_lt, nz_gt, nz_le, nz_ge, nz_00, nz_n1, nI_add, pk_mul, pk_sub, nI_shl1, nI_or, nI_half2, nI_min2, la_put_eq, la_up, lr_same, lr_ne, lu_same, lu_ne, not_true_eq_false, not_false_eq_true]; omega)); conv => whnf))
          all_goals (try simp (disch := omega) only [nI_leI, nI_ltI, nI_eq, nz_eq, nz_lt, nz_gt, nz_le, nz_ge, nz_00, nz_n1, nI_add, pk_mul, pk_sub, nI_shl1, nI_or, nI_half2, nI_min2, la_put_eq, la_up, lr_same, lr_ne, lu_same, lu_ne, not_true_eq_false, not_false_eq_true])
          refine ⟨(0, 245, N, _), ⟨rfl, rfl, mf_P hH hP, by decide, by decide, by omega⟩, fun h'' hq => ?_⟩
          have hq' : h'' = _ := hq
          subst hq'
          conv => whnf
          repeat' (first
            | (refine ⟨fun c9 => ?_, fun c9 => ?_⟩ <;> (try simp (disch := omega) only [nI_leI, nI_ltI, nI_eq, nz_eq, nz_lt, nz_gt, nz_le, nz_ge, nz_00, nz_n1, nI_add, pk_mul, pk_sub, nI_shl1, nI_or, nI_half2, nI_min2, la_put_eq, la_up, lr_same, lr_ne, lu_same, lu_ne, not_true_eq_false, not_false_eq_true, ou2, ou3, ou4, ou5, ou6, ou7, ou8, ouN, ouD, ouB, ouY, ouQ] at c9) <;> first | (exfalso; omega) | conv => whnf)
            | (refine ⟨_, rfl, by omega, ?_⟩; conv => whnf)
            | (refine ⟨_, rfl, rfl, rfl, by decide, by decide, ?_⟩; conv => whnf)
            | (refine ⟨_, by (simp (disch := omega) only [nI_leI, nI_ltI, nI_eq, nz_eq, nz_lt, nz_gt, nz_le, nz_ge, nz_00, nz_n1, nI_add, pk_mul, pk_sub, nI_shl1, nI_or, nI_half2, nI_min2, la_put_eq, la_up, lr_same, lr_ne, lu_same, lu_ne, not_true_eq_false, not_false_eq_true, ou2, ou3, ou4, ou5, ou6, ou7, ou8, ouN, ouD, ouB, ouY, ouQ]; rfl), by omega, ?_⟩; conv => whnf)
            | (apply And.intro; (first | assumption | decide | (simp (disch := omega) only [nI_leI, nI_ltI, nI_eq, nz_eq, nz_lt, nz_gt, nz_le, nz_ge, nz_00, nz_n1, nI_add, pk_mul, pk_sub, nI_shl1, nI_or, nI_half2, nI_min2, la_put_eq, la_up, lr_same, lr_ne, lu_same, lu_ne, not_true_eq_false, not_false_eq_true, ou2, ou3, ou4, ou5, ou6, ou7, ou8, ouN, ouD, ouB, ouY, ouQ]; omega)); conv => whnf))
          all_goals (try simp (disch := omega) only [nI_leI, nI_ltI, nI_eq, nz_eq, nz_lt, nz_gt, nz_le, nz_ge, nz_00, nz_n1, nI_add, pk_mul, pk_sub, nI_shl1, nI_or, nI_half2, nI_min2, la_put_eq, la_up, lr_same, lr_ne, lu_same, lu_ne, not_true_eq_false, not_false_eq_true, ou2, ou3, ou4, ou5, ou6, ou7, ou8, ouN, ouD, ouB, ouY, ouQ])
          refine ⟨(245, m, lu N 5 k x, _), ⟨rfl, rfl, pg_put_at _ _ _, Or.inr rfl, hm, wV, by omega, by rw [prO, mf_F hH hF, e00]⟩, fun H2 hq => ?_⟩
          have hq' : H2 = _ := hq
          have hm2 : mf h' H2 := by rw [hq']; exact mf_go (mf_pg hH (by decide))
          have hp2 : pg_at H2 196 (sp_lives (lu N 5 k x) m) := by rw [hq']; exact pg_put_at _ _ _
          clear hq hq'
          conv => whnf
          repeat' (first
            | (refine ⟨fun c9 => ?_, fun c9 => ?_⟩ <;> (try simp (disch := omega) only [nI_leI, nI_ltI, nI_eq, nz_eq, nz_lt, nz_gt, nz_le, nz_ge, nz_00, nz_n1, nI_add, pk_mul, pk_sub, nI_shl1, nI_or, nI_half2, nI_min2, la_put_eq, la_up, lr_same, lr_ne, lu_same, lu_ne, not_true_eq_false, not_false_eq_true, zr2 (mf_P hm2 hP), zr3 (mf_P hm2 hP), zr4 (mf_P hm2 hP), zr5 (mf_P hm2 hP), zr6 (mf_P hm2 hP), zr7 (mf_P hm2 hP), zr8 (mf_P hm2 hP), zrN (mf_P hm2 hP), zrD (mf_P hm2 hP), zrB (mf_P hm2 hP), zrY (mf_P hm2 hP), zrQ (mf_P hm2 hP), zr1 (mf_P hm2 hP), subadd] at c9) <;> first | (exfalso; omega) | conv => whnf)
            | (refine ⟨_, rfl, by omega, ?_⟩; conv => whnf)
            | (refine ⟨_, rfl, rfl, rfl, by decide, by decide, ?_⟩; conv => whnf)
            | (refine ⟨_, by (simp (disch := omega) only [nI_leI, nI_ltI, nI_eq, nz_eq, nz_lt, nz_gt, nz_le, nz_ge, nz_00, nz_n1, nI_add, pk_mul, pk_sub, nI_shl1, nI_or, nI_half2, nI_min2, la_put_eq, la_up, lr_same, lr_ne, lu_same, lu_ne, not_true_eq_false, not_false_eq_true, zr2 (mf_P hm2 hP), zr3 (mf_P hm2 hP), zr4 (mf_P hm2 hP), zr5 (mf_P hm2 hP), zr6 (mf_P hm2 hP), zr7 (mf_P hm2 hP), zr8 (mf_P hm2 hP), zrN (mf_P hm2 hP), zrD (mf_P hm2 hP), zrB (mf_P hm2 hP), zrY (mf_P hm2 hP), zrQ (mf_P hm2 hP), zr1 (mf_P hm2 hP), subadd]; rfl), by omega, ?_⟩; conv => whnf)
            | (apply And.intro; (first | assumption | decide | (simp (disch := omega) only [nI_leI, nI_ltI, nI_eq, nz_eq, nz_lt, nz_gt, nz_le, nz_ge, nz_00, nz_n1, nI_add, pk_mul, pk_sub, nI_shl1, nI_or, nI_half2, nI_min2, la_put_eq, la_up, lr_same, lr_ne, lu_same, lu_ne, not_true_eq_false, not_false_eq_true, zr2 (mf_P hm2 hP), zr3 (mf_P hm2 hP), zr4 (mf_P hm2 hP), zr5 (mf_P hm2 hP), zr6 (mf_P hm2 hP), zr7 (mf_P hm2 hP), zr8 (mf_P hm2 hP), zrN (mf_P hm2 hP), zrD (mf_P hm2 hP), zrB (mf_P hm2 hP), zrY (mf_P hm2 hP), zrQ (mf_P hm2 hP), zr1 (mf_P hm2 hP), subadd]; omega)); conv => whnf))
          all_goals (try simp (disch := omega) only [nI_leI, nI_ltI, nI_eq, nz_eq, nz_lt, nz_gt, nz_le, nz_ge, nz_00, nz_n1, nI_add, pk_mul, pk_sub, nI_shl1, nI_or, nI_half2, nI_min2, la_put_eq, la_up, lr_same, lr_ne, lu_same, lu_ne, not_true_eq_false, not_false_eq_true, zr2 (mf_P hm2 hP), zr3 (mf_P hm2 hP), zr4 (mf_P hm2 hP), zr5 (mf_P hm2 hP), zr6 (mf_P hm2 hP), zr7 (mf_P hm2 hP), zr8 (mf_P hm2 hP), zrN (mf_P hm2 hP), zrD (mf_P hm2 hP), zrB (mf_P hm2 hP), zrY (mf_P hm2 hP), zrQ (mf_P hm2 hP), zr1 (mf_P hm2 hP), subadd])
          refine ⟨(196, true, N 6 k, sp_lives (lu N 5 k x) m, H2), ⟨rfl, rfl, hp2, by decide, wX, by omega⟩, fun v h' hq => ?_⟩
          obtain ⟨rfl, rfl⟩ := hq
          conv => whnf
          repeat' (first
            | (refine ⟨fun c9 => ?_, fun c9 => ?_⟩ <;> (try simp (disch := omega) only [nI_leI, nI_ltI, nI_eq, nz_eq, nz_lt, nz_gt, nz_le, nz_ge, nz_00, nz_n1, nI_add, pk_mul, pk_sub, nI_shl1, nI_or, nI_half2, nI_min2, la_put_eq, la_up, lr_same, lr_ne, lu_same, lu_ne, not_true_eq_false, not_false_eq_true, zr2 (mf_P hm2 hP), zr3 (mf_P hm2 hP), zr4 (mf_P hm2 hP), zr5 (mf_P hm2 hP), zr6 (mf_P hm2 hP), zr7 (mf_P hm2 hP), zr8 (mf_P hm2 hP), zrN (mf_P hm2 hP), zrD (mf_P hm2 hP), zrB (mf_P hm2 hP), zrY (mf_P hm2 hP), zrQ (mf_P hm2 hP), zr1 (mf_P hm2 hP), subadd, nI_bit] at c9) <;> first | (exfalso; omega) | conv => whnf)
            | (refine ⟨_, rfl, by omega, ?_⟩; conv => whnf)
            | (refine ⟨_, rfl, rfl, rfl, by decide, by decide, ?_⟩; conv => whnf)
            | (refine ⟨_, by (simp (disch := omega) only [nI_leI, nI_ltI, nI_eq, nz_eq, nz_lt, nz_gt, nz_le, nz_ge, nz_00, nz_n1, nI_add, pk_mul, pk_sub, nI_shl1, nI_or, nI_half2, nI_min2, la_put_eq, la_up, lr_same, lr_ne, lu_same, lu_ne, not_true_eq_false, not_false_eq_true, zr2 (mf_P hm2 hP), zr3 (mf_P hm2 hP), zr4 (mf_P hm2 hP), zr5 (mf_P hm2 hP), zr6 (mf_P hm2 hP), zr7 (mf_P hm2 hP), zr8 (mf_P hm2 hP), zrN (mf_P hm2 hP), zrD (mf_P hm2 hP), zrB (mf_P hm2 hP), zrY (mf_P hm2 hP), zrQ (mf_P hm2 hP), zr1 (mf_P hm2 hP), subadd, nI_bit]; rfl), by omega, ?_⟩; conv => whnf)
            | (apply And.intro; (first | assumption | decide | (simp (disch := omega) only [nI_leI, nI_ltI, nI_eq, nz_eq, nz_lt, nz_gt, nz_le, nz_ge, nz_00, nz_n1, nI_add, pk_mul, pk_sub, nI_shl1, nI_or, nI_half2, nI_min2, la_put_eq, la_up, lr_same, lr_ne, lu_same, lu_ne, not_true_eq_false, not_false_eq_true, zr2 (mf_P hm2 hP), zr3 (mf_P hm2 hP), zr4 (mf_P hm2 hP), zr5 (mf_P hm2 hP), zr6 (mf_P hm2 hP), zr7 (mf_P hm2 hP), zr8 (mf_P hm2 hP), zrN (mf_P hm2 hP), zrD (mf_P hm2 hP), zrB (mf_P hm2 hP), zrY (mf_P hm2 hP), zrQ (mf_P hm2 hP), zr1 (mf_P hm2 hP), subadd, nI_bit]; omega)); conv => whnf))
          all_goals (try simp (disch := omega) only [nI_leI, nI_ltI, nI_eq, nz_eq, nz_lt, nz_gt, nz_le, nz_ge, nz_00, nz_n1, nI_add, pk_mul, pk_sub, nI_shl1, nI_or, nI_half2, nI_min2, la_put_eq, la_up, lr_same, lr_ne, lu_same, lu_ne, not_true_eq_false, not_false_eq_true, zr2 (mf_P hm2 hP), zr3 (mf_P hm2 hP), zr4 (mf_P hm2 hP), zr5 (mf_P hm2 hP), zr6 (mf_P hm2 hP), zr7 (mf_P hm2 hP), zr8 (mf_P hm2 hP), zrN (mf_P hm2 hP), zrD (mf_P hm2 hP), zrB (mf_P hm2 hP), zrY (mf_P hm2 hP), zrQ (mf_P hm2 hP), zr1 (mf_P hm2 hP), subadd, nI_bit])
          · refine ih (x + 1) _ (by omega) hm2 (fun y hy => ?_)
            rcases Nat.lt_or_ge y x with q | q
            · exact hl y q
            · have : y = x := by omega
              subst this
              exact fun q => absurd (hbt.mpr q) (by omega)
          · exact hret _ _ ⟨hm2, Or.inl ⟨k, m, hk, hm, rfl, rfl, Or.inl ⟨x, by omega, hbt.mp (by omega), hl, rfl⟩⟩⟩
      conv => whnf
      repeat' (first
        | (refine ⟨fun c9 => ?_, fun c9 => ?_⟩ <;> (try simp (disch := omega) only [nI_leI, nI_ltI, nI_eq, nz_eq, nz_lt, nz_gt, nz_le, nz_ge, nz_00, nz_n1, nI_add, pk_mul, pk_sub, nI_shl1, nI_or, nI_half2, nI_min2, la_put_eq, la_up, lr_same, lr_ne, lu_same, lu_ne, not_true_eq_false, not_false_eq_true] at c9) <;> first | (exfalso; omega) | conv => whnf)
        | (refine ⟨_, rfl, by omega, ?_⟩; conv => whnf)
        | (refine ⟨_, rfl, rfl, rfl, by decide, by decide, ?_⟩; conv => whnf)
        | (refine ⟨_, by (simp (disch := omega) only [nI_leI, nI_ltI, nI_eq, nz_eq, nz_lt, nz_gt, nz_le, nz_ge, nz_00, nz_n1, nI_add, pk_mul, pk_sub, nI_shl1, nI_or, nI_half2, nI_min2, la_put_eq, la_up, lr_same, lr_ne, lu_same, lu_ne, not_true_eq_false, not_false_eq_true]; rfl), by omega, ?_⟩; conv => whnf)
        | (apply And.intro; (first | assumption | decide | (simp (disch := omega) only [nI_leI, nI_ltI, nI_eq, nz_eq, nz_lt, nz_gt, nz_le, nz_ge, nz_00, nz_n1, nI_add, pk_mul, pk_sub, nI_shl1, nI_or, nI_half2, nI_min2, la_put_eq, la_up, lr_same, lr_ne, lu_same, lu_ne, not_true_eq_false, not_false_eq_true]; omega)); conv => whnf))
      all_goals (try simp (disch := omega) only [nI_leI, nI_ltI, nI_eq, nz_eq, nz_lt, nz_gt, nz_le, nz_ge, nz_00, nz_n1, nI_add, pk_mul, pk_sub, nI_shl1, nI_or, nI_half2, nI_min2, la_put_eq, la_up, lr_same, lr_ne, lu_same, lu_ne, not_true_eq_false, not_false_eq_true])
      exact loop 100 0 h' rfl (mf_self _) (fun y hy => absurd hy (by omega))
    · conv => whnf
      repeat' (first
        | (refine ⟨fun c9 => ?_, fun c9 => ?_⟩ <;> (try simp (disch := omega) only [nI_leI, nI_ltI, nI_eq, nz_eq, nz_lt, nz_gt, nz_le, nz_ge, nz_00, nz_n1, nI_add, pk_mul, pk_sub, nI_shl1, nI_or, nI_half2, nI_min2, la_put_eq, la_up, lr_same, lr_ne, lu_same, lu_ne, not_true_eq_false, not_false_eq_true] at c9) <;> first | (exfalso; omega) | conv => whnf)
        | (refine ⟨_, rfl, by omega, ?_⟩; conv => whnf)
        | (refine ⟨_, rfl, rfl, rfl, by decide, by decide, ?_⟩; conv => whnf)
        | (refine ⟨_, by (simp (disch := omega) only [nI_leI, nI_ltI, nI_eq, nz_eq, nz_lt, nz_gt, nz_le, nz_ge, nz_00, nz_n1, nI_add, pk_mul, pk_sub, nI_shl1, nI_or, nI_half2, nI_min2, la_put_eq, la_up, lr_same, lr_ne, lu_same, lu_ne, not_true_eq_false, not_false_eq_true]; rfl), by omega, ?_⟩; conv => whnf)
        | (apply And.intro; (first | assumption | decide | (simp (disch := omega) only [nI_leI, nI_ltI, nI_eq, nz_eq, nz_lt, nz_gt, nz_le, nz_ge, nz_00, nz_n1, nI_add, pk_mul, pk_sub, nI_shl1, nI_or, nI_half2, nI_min2, la_put_eq, la_up, lr_same, lr_ne, lu_same, lu_ne, not_true_eq_false, not_false_eq_true]; omega)); conv => whnf))
      all_goals (try simp (disch := omega) only [nI_leI, nI_ltI, nI_eq, nz_eq, nz_lt, nz_gt, nz_le, nz_ge, nz_00, nz_n1, nI_add, pk_mul, pk_sub, nI_shl1, nI_or, nI_half2, nI_min2, la_put_eq, la_up, lr_same, lr_ne, lu_same, lu_ne, not_true_eq_false, not_false_eq_true])
      exact hret _ _ ⟨mf_self _, Or.inr ⟨fun q => hc q.2, rfl⟩⟩
  · conv => whnf
    repeat' (first
      | (refine ⟨fun c9 => ?_, fun c9 => ?_⟩ <;> (try simp (disch := omega) only [nI_leI, nI_ltI, nI_eq, nz_eq, nz_lt, nz_gt, nz_le, nz_ge, nz_00, nz_n1, nI_add, pk_mul, pk_sub, nI_shl1, nI_or, nI_half2, nI_min2, la_put_eq, la_up, lr_same, lr_ne, lu_same, lu_ne, not_true_eq_false, not_false_eq_true] at c9) <;> first | (exfalso; omega) | conv => whnf)
      | (refine ⟨_, rfl, by omega, ?_⟩; conv => whnf)
      | (refine ⟨_, rfl, rfl, rfl, by decide, by decide, ?_⟩; conv => whnf)
      | (refine ⟨_, by (simp (disch := omega) only [nI_leI, nI_ltI, nI_eq, nz_eq, nz_lt, nz_gt, nz_le, nz_ge, nz_00, nz_n1, nI_add, pk_mul, pk_sub, nI_shl1, nI_or, nI_half2, nI_min2, la_put_eq, la_up, lr_same, lr_ne, lu_same, lu_ne, not_true_eq_false, not_false_eq_true]; rfl), by omega, ?_⟩; conv => whnf)
      | (apply And.intro; (first | assumption | decide | (simp (disch := omega) only [nI_leI, nI_ltI, nI_eq, nz_eq, nz_lt, nz_gt, nz_le, nz_ge, nz_00, nz_n1, nI_add, pk_mul, pk_sub, nI_shl1, nI_or, nI_half2, nI_min2, la_put_eq, la_up, lr_same, lr_ne, lu_same, lu_ne, not_true_eq_false, not_false_eq_true]; omega)); conv => whnf))
    all_goals (try simp (disch := omega) only [nI_leI, nI_ltI, nI_eq, nz_eq, nz_lt, nz_gt, nz_le, nz_ge, nz_00, nz_n1, nI_add, pk_mul, pk_sub, nI_shl1, nI_or, nI_half2, nI_min2, la_put_eq, la_up, lr_same, lr_ne, lu_same, lu_ne, not_true_eq_false, not_false_eq_true])
    exact hret _ _ ⟨mf_self _, Or.inr ⟨fun q => hc q.1, rfl⟩⟩
theorem M_X5_need : pm_MT yX5_need cX5_need 4 1 6 P_X5_need (pm_pi Q_X5_need) := pm_met k_X5_need (by decide) rfl (by
  rintro ⟨g0, g1, g2, g3⟩ av h hp
  rw [hp.1]
  exact Nat.le_of_ble_eq_true rfl) pf_X5_need
theorem rc_X5_need : ∀ g av h, P_X5_need g av h → ∃ i t, av = .inr (.inr (5, i, 0)) :: t := by
  rintro ⟨g0, g1, g2, g3⟩ av h hp
  exact ⟨_, _, hp.1⟩
def P_X5_thrift : Int32 × Int32 × LD × pm_H → List pm_V → pm_H → Prop := fun g av h => match g with
  | (f, w, Y, h0) => av = [vR 5 0 0, vI f, vI w] ∧ h = h0 ∧ md h0 Y ∧ Y 0 10 ≤ 999
def Q_X5_thrift : Int32 × Int32 × LD × pm_H → Int32 → pm_H → Prop := fun g r h => match g with
  | (f, w, N, h0) => mf h0 h ∧ r = a_thrift N f w
def T_X5_thrift : List (Nat × pm_T) := [
  (0, i_al 0 1),
  (1, i_il 1 2),
  (2, i_ci 2 P_X5_isFellow Q_X5_isFellow 5),
  (5, i_ifeq 18 8),
  (8, i_il 2 9),
  (9, i_i2l 10),
  (10, i_cl (lN 0) 11),
  (11, i_cl (lN 1) 12),
  (12, i_ci 3 P_X5_in Q_X5_in 15),
  (15, i_ifne 20 18),
  (18, i_c (-1) 19),
  (19, i_ir),
  (20, i_c (-1) 21),
  (21, i_is 3 22),
  (22, i_c (nI 0) 23),
  (23, i_is 4 25),
  (25, i_c (nI 9) 27),
  (27, i_is 5 29),
  (29, i_il 5 31),
  (31, i_iflt 97 34),
  (34, i_al 0 35),
  (35, i_c (nI 0) 36),
  (36, i_c (nI 245) 39),
  (39, i_cv 3 P_X5_copies Q_X5_copies 42),
  (42, i_al 0 43),
  (43, i_gr 5 (fun i => (5, i, 1)) 46),
  (46, i_c (nI 245) 49),
  (49, i_il 1 50),
  (50, i_iadd 51),
  (51, i_il 5 53),
  (53, i_ias 54),
  (54, i_al 0 55),
  (55, i_c (nI 245) 58),
  (58, i_ci 2 P_X5_answersOf Q_X5_answersOf 61),
  (61, i_is 6 63),
  (63, i_il 6 65),
  (65, i_il 3 66),
  (66, i_icle 74 69),
  (69, i_il 5 71),
  (71, i_go 76),
  (74, i_il 4 76),
  (76, i_is 4 78),
  (78, i_il 6 80),
  (80, i_il 3 81),
  (81, i_icle 89 84),
  (84, i_il 6 86),
  (86, i_go 90),
  (89, i_il 3 90),
  (90, i_is 3 91),
  (91, i_inc 5 (-1) 94),
  (94, i_go 29),
  (97, i_il 2 98),
  (98, i_ifne 106 101),
  (101, i_il 4 103),
  (103, i_go 107),
  (106, i_il 3 107),
  (107, i_ir)]
theorem k_X5_thrift : ∀ q ∈ T_X5_thrift, pm_sd RX5 cX5_thrift 7 7 1 q.1 q.2 := by
  unfold T_X5_thrift
  refine pm_cn (sd_aln (k := 0) (by decide +kernel) rfl rfl) ?_
  refine pm_cn (sd_iln (k := 1) (by decide +kernel) rfl rfl) ?_
  refine pm_cn (sd_civ M_X5_isFellow (by decide) cd_X5_isFellow rc_X5_isFellow cl5_ ml_X5_156 im_X5_isFellow se_X5_isFellow nt_X5 (by decide +kernel) (by omega) (by decide) (by decide +kernel) rfl) ?_
  refine pm_cn (sd_ifeq (off := 13) (by decide +kernel) (by decide) rfl) ?_
  refine pm_cn (sd_iln (k := 2) (by decide +kernel) rfl rfl) ?_
  refine pm_cn (sd_i2l (by decide +kernel) rfl) ?_
  refine pm_cn (sd_lconst (z := 0) (by decide +kernel) (by decide +kernel) rfl) ?_
  refine pm_cn (sd_lconst (z := 1) (by decide +kernel) (by decide +kernel) rfl) ?_
  refine pm_cn (sd_cis M_X5_in (by decide) cd_X5_in ml_X5_46 st_X5_in nt_X5 (by decide +kernel) (by omega) (by decide) (by decide +kernel) rfl) ?_
  refine pm_cn (sd_ifne (off := 5) (by decide +kernel) (by decide) rfl) ?_
  refine pm_cn (sd_iconst (z := -1) (by decide +kernel) (by decide +kernel) rfl) ?_
  refine pm_cn (sd_ir (by decide +kernel)) ?_
  refine pm_cn (sd_iconst (z := -1) (by decide +kernel) (by decide +kernel) rfl) ?_
  refine pm_cn (sd_isn (k := 3) (by decide +kernel) rfl rfl (by decide)) ?_
  refine pm_cn (sd_iconst (z := 0) (by decide +kernel) (by decide +kernel) rfl) ?_
  refine pm_cn (sd_is (by decide +kernel) rfl (by decide)) ?_
  refine pm_cn (sd_bipush (z := 9) (by decide +kernel) (by decide +kernel) rfl) ?_
  refine pm_cn (sd_is (by decide +kernel) rfl (by decide)) ?_
  refine pm_cn (sd_il (by decide +kernel) rfl) ?_
  refine pm_cn (sd_iflt (off := 66) (by decide +kernel) (by decide) rfl) ?_
  refine pm_cn (sd_aln (k := 0) (by decide +kernel) rfl rfl) ?_
  refine pm_cn (sd_iconst (z := 0) (by decide +kernel) (by decide +kernel) rfl) ?_
  refine pm_cn (sd_sipush (z := 245) (by decide +kernel) (by decide +kernel) rfl) ?_
  refine pm_cn (sd_cvv M_X5_copies cd_X5_copies rc_X5_copies cl5_ ml_X5_190 im_X5_copies se_X5_copies nt_X5 (by decide +kernel) (by omega) (by decide) (by decide +kernel) rfl) ?_
  refine pm_cn (sd_aln (k := 0) (by decide +kernel) rfl rfl) ?_
  refine pm_cn (sd_gr cl5_ in5_ (j := 0) (by decide) (fun _ => rfl) fl_X5_7 (by decide +kernel) rfl) ?_
  refine pm_cn (sd_sipush (z := 245) (by decide +kernel) (by decide +kernel) rfl) ?_
  refine pm_cn (sd_iln (k := 1) (by decide +kernel) rfl rfl) ?_
  refine pm_cn (sd_iadd (by decide +kernel) rfl) ?_
  refine pm_cn (sd_il (by decide +kernel) rfl) ?_
  refine pm_cn (sd_ias (by decide +kernel) rfl) ?_
  refine pm_cn (sd_aln (k := 0) (by decide +kernel) rfl rfl) ?_
  refine pm_cn (sd_sipush (z := 245) (by decide +kernel) (by decide +kernel) rfl) ?_
  refine pm_cn (sd_civ M_X5_answersOf (by decide) cd_X5_answersOf rc_X5_answersOf cl5_ ml_X5_205 im_X5_answersOf se_X5_answersOf nt_X5 (by decide +kernel) (by omega) (by decide) (by decide +kernel) rfl) ?_
  refine pm_cn (sd_is (by decide +kernel) rfl (by decide)) ?_
  refine pm_cn (sd_il (by decide +kernel) rfl) ?_
  refine pm_cn (sd_iln (k := 3) (by decide +kernel) rfl rfl) ?_
  refine pm_cn (sd_icle (off := 8) (by decide +kernel) (by decide) rfl) ?_
  refine pm_cn (sd_il (by decide +kernel) rfl) ?_
  refine pm_cn (sd_go (off := 5) (by decide +kernel) (by decide)) ?_
  refine pm_cn (sd_il (by decide +kernel) rfl) ?_
  refine pm_cn (sd_is (by decide +kernel) rfl (by decide)) ?_
  refine pm_cn (sd_il (by decide +kernel) rfl) ?_
  refine pm_cn (sd_iln (k := 3) (by decide +kernel) rfl rfl) ?_
  refine pm_cn (sd_icle (off := 8) (by decide +kernel) (by decide) rfl) ?_
  refine pm_cn (sd_il (by decide +kernel) rfl) ?_
  refine pm_cn (sd_go (off := 4) (by decide +kernel) (by decide)) ?_
  refine pm_cn (sd_iln (k := 3) (by decide +kernel) rfl rfl) ?_
  refine pm_cn (sd_isn (k := 3) (by decide +kernel) rfl rfl (by decide)) ?_
  refine pm_cn (sd_inc (z := -1) (by decide +kernel) (by decide +kernel) rfl (by decide)) ?_
  refine pm_cn (sd_go (off := -65) (by decide +kernel) (by decide)) ?_
  refine pm_cn (sd_iln (k := 2) (by decide +kernel) rfl rfl) ?_
  refine pm_cn (sd_ifne (off := 8) (by decide +kernel) (by decide) rfl) ?_
  refine pm_cn (sd_il (by decide +kernel) rfl) ?_
  refine pm_cn (sd_go (off := 4) (by decide +kernel) (by decide)) ?_
  refine pm_cn (sd_iln (k := 3) (by decide +kernel) rfl rfl) ?_
  refine pm_cn (sd_ir (by decide +kernel)) ?_
  exact fun _ h => absurd h List.not_mem_nil
set_option maxHeartbeats 800000 in
set_option maxRecDepth 100000 in
theorem pf_X5_thrift : pm_pf T_X5_thrift P_X5_thrift (pm_pi Q_X5_thrift) := by
  rintro ⟨f, w, N, h0⟩ av h K hK ⟨rfl, rfl, ⟨hP, wN, hF⟩, hd⟩ hret
  have w1 := wN.1
  show K (some 0) ([(0, vR 5 0 0), (1, vI f), (2, vI w)], [], h)
  refine hK [(29, [0, 1, 2, 3, 4, 5])] 80 _ _ ?_
  conv => whnf
  repeat' (first
    | (refine ⟨fun c9 => ?_, fun c9 => ?_⟩ <;> (try simp (disch := omega) only [nI_leI, nI_ltI, nI_eq, nz_eq, nz_lt, nz_gt, nz_le, nz_ge, nz_00, nz_n1, nI_add, pk_mul, pk_sub, nI_shl1, nI_or, nI_half2, nI_min2, la_put_eq, la_up, lr_same, lr_ne, lu_same, lu_ne, not_true_eq_false, not_false_eq_true] at c9) <;> first | (exfalso; omega) | conv => whnf)
    | (refine ⟨_, rfl, by omega, ?_⟩; conv => whnf)
    | (refine ⟨_, rfl, rfl, rfl, by decide, by decide, ?_⟩; conv => whnf)
    | (refine ⟨_, by (simp (disch := omega) only [nI_leI, nI_ltI, nI_eq, nz_eq, nz_lt, nz_gt, nz_le, nz_ge, nz_00, nz_n1, nI_add, pk_mul, pk_sub, nI_shl1, nI_or, nI_half2, nI_min2, la_put_eq, la_up, lr_same, lr_ne, lu_same, lu_ne, not_true_eq_false, not_false_eq_true]; rfl), by omega, ?_⟩; conv => whnf)
    | (apply And.intro; (first | assumption | decide | (simp (disch := omega) only [nI_leI, nI_ltI, nI_eq, nz_eq, nz_lt, nz_gt, nz_le, nz_ge, nz_00, nz_n1, nI_add, pk_mul, pk_sub, nI_shl1, nI_or, nI_half2, nI_min2, la_put_eq, la_up, lr_same, lr_ne, lu_same, lu_ne, not_true_eq_false, not_false_eq_true]; omega)); conv => whnf))
  all_goals (try simp (disch := omega) only [nI_leI, nI_ltI, nI_eq, nz_eq, nz_lt, nz_gt, nz_le, nz_ge, nz_00, nz_n1, nI_add, pk_mul, pk_sub, nI_shl1, nI_or, nI_half2, nI_min2, la_put_eq, la_up, lr_same, lr_ne, lu_same, lu_ne, not_true_eq_false, not_false_eq_true])
  refine ⟨(f, N 0 0, _), ⟨rfl, rfl, hF, w1⟩, fun v h' hq => ?_⟩
  obtain ⟨rfl, ⟨hf1, rfl⟩ | ⟨hc, rfl⟩⟩ := hq
  · conv => whnf
    repeat' (first
      | (refine ⟨fun c9 => ?_, fun c9 => ?_⟩ <;> (try simp (disch := omega) only [nI_leI, nI_ltI, nI_eq, nz_eq, nz_lt, nz_gt, nz_le, nz_ge, nz_00, nz_n1, nI_add, pk_mul, pk_sub, nI_shl1, nI_or, nI_half2, nI_min2, la_put_eq, la_up, lr_same, lr_ne, lu_same, lu_ne, not_true_eq_false, not_false_eq_true] at c9) <;> first | (exfalso; omega) | conv => whnf)
      | (refine ⟨_, rfl, by omega, ?_⟩; conv => whnf)
      | (refine ⟨_, rfl, rfl, rfl, by decide, by decide, ?_⟩; conv => whnf)
      | (refine ⟨_, by (simp (disch := omega) only [nI_leI, nI_ltI, nI_eq, nz_eq, nz_lt, nz_gt, nz_le, nz_ge, nz_00, nz_n1, nI_add, pk_mul, pk_sub, nI_shl1, nI_or, nI_half2, nI_min2, la_put_eq, la_up, lr_same, lr_ne, lu_same, lu_ne, not_true_eq_false, not_false_eq_true]; rfl), by omega, ?_⟩; conv => whnf)
      | (apply And.intro; (first | assumption | decide | (simp (disch := omega) only [nI_leI, nI_ltI, nI_eq, nz_eq, nz_lt, nz_gt, nz_le, nz_ge, nz_00, nz_n1, nI_add, pk_mul, pk_sub, nI_shl1, nI_or, nI_half2, nI_min2, la_put_eq, la_up, lr_same, lr_ne, lu_same, lu_ne, not_true_eq_false, not_false_eq_true]; omega)); conv => whnf))
    all_goals (try simp (disch := omega) only [nI_leI, nI_ltI, nI_eq, nz_eq, nz_lt, nz_gt, nz_le, nz_ge, nz_00, nz_n1, nI_add, pk_mul, pk_sub, nI_shl1, nI_or, nI_half2, nI_min2, la_put_eq, la_up, lr_same, lr_ne, lu_same, lu_ne, not_true_eq_false, not_false_eq_true])
    refine ⟨(w.toInt64, lN 0, lN 1, _), ⟨rfl, rfl⟩, fun v h' hq => ?_⟩
    obtain ⟨rfl, ⟨hw, rfl⟩ | ⟨hc, rfl⟩⟩ := Q_hf hq
    · obtain ⟨x, hx, rfl⟩ := id hf1
      have hv : ixv (nI x) = x := ixv_nI (by omega)
      have loop : ∀ e H p, e ≤ 10 → mf h' H → p = sp_bs (fun k => sp_cnt (lu N 1 x (9 - k))) (fun k => nI (9 - k)) (nI 0) (10 - e) → K (some 29) ([(0, vR 5 0 0), (1, vI (nI x)), (2, vI w), (3, vI (sp_m1 p.2)), (4, vI p.1), (5, vI (sp_m1 e))], [], H) := by
        intro e
        induction e with
        | zero =>
          intro H p he hH hp
          show K (some 29) ([(0, vR 5 0 0), (1, vI (nI x)), (2, vI w), (3, vI (sp_m1 p.2)), (4, vI p.1), (5, vI (-1))], [], H)
          have hp : p = sp_bs (fun k => sp_cnt (lu N 1 x (9 - k))) (fun k => nI (9 - k)) (nI 0) 10 := hp
          refine hK [(29, [0, 1, 2, 3, 4, 5])] 60 _ _ ?_
          conv => whnf
          repeat' (first
            | (refine ⟨fun c9 => ?_, fun c9 => ?_⟩ <;> (try simp (disch := omega) only [nI_leI, nI_ltI, nI_eq, nz_eq, nz_lt, nz_gt, nz_le, nz_ge, nz_00, nz_n1, nI_add, pk_mul, pk_sub, nI_shl1, nI_or, nI_half2, nI_min2, la_put_eq, la_up, lr_same, lr_ne, lu_same, lu_ne, not_true_eq_false, not_false_eq_true, n1_lt, n1_lt2] at c9) <;> first | (exfalso; omega) | conv => whnf)
            | (refine ⟨_, rfl, by omega, ?_⟩; conv => whnf)
            | (refine ⟨_, rfl, rfl, rfl, by decide, by decide, ?_⟩; conv => whnf)
            | (refine ⟨_, by (simp (disch := omega) only [nI_leI, nI_ltI, nI_eq, nz_eq, nz_lt, nz_gt, nz_le, nz_ge, nz_00, nz_n1, nI_add, pk_mul, pk_sub, nI_shl1, nI_or, nI_half2, nI_min2, la_put_eq, la_up, lr_same, lr_ne, lu_same, lu_ne, not_true_eq_false, not_false_eq_true, n1_lt, n1_lt2]; rfl), by omega, ?_⟩; conv => whnf)
            | (apply And.intro; (first | assumption | decide | (simp (disch := omega) only [nI_leI, nI_ltI, nI_eq, nz_eq, nz_lt, nz_gt, nz_le, nz_ge, nz_00, nz_n1, nI_add, pk_mul, pk_sub, nI_shl1, nI_or, nI_half2, nI_min2, la_put_eq, la_up, lr_same, lr_ne, lu_same, lu_ne, not_true_eq_false, not_false_eq_true, n1_lt, n1_lt2]; omega)); conv => whnf))
          all_goals (try simp (disch := omega) only [nI_leI, nI_ltI, nI_eq, nz_eq, nz_lt, nz_gt, nz_le, nz_ge, nz_00, nz_n1, nI_add, pk_mul, pk_sub, nI_shl1, nI_or, nI_half2, nI_min2, la_put_eq, la_up, lr_same, lr_ne, lu_same, lu_ne, not_true_eq_false, not_false_eq_true, n1_lt, n1_lt2])
          all_goals (refine hret _ _ ⟨hH, ?_⟩; rw [a_thrift, ci_t ⟨hf1, hw⟩, hv, ← hp])
          · rw [if_neg (by assumption)]
          · rw [if_pos (by assumption)]
        | succ e ih =>
          intro H p he hH hp
          rw [m1_s]
          have wV : la_ok (lu N 1 x e) := la_ok_lu wN (by unfold la_rel; omega) (by unfold la_bd; omega)
          have e10 : lu N 1 x e 0 10 = N 0 10 := lu_ne (by omega)
          have e00 : lu N 1 x e 0 0 = N 0 0 := lu_ne (by omega)
          have hcl := sp_cnt_le (lu N 1 x e)
          have hpl : p.2 ≤ 32 := by rw [hp]; exact sp_bs_le (fun k => sp_cnt_le _) _
          have hst : sp_bs (fun k => sp_cnt (lu N 1 x (9 - k))) (fun k => nI (9 - k)) (nI 0) (10 - e) = sp_up1 (sp_cnt (lu N 1 x e)) (nI e) p := by
            rw [show 10 - e = (10 - (e + 1)) + 1 by omega, sp_bs, ← hp, show 9 - (10 - (e + 1)) = e by omega]
          refine hK [(29, [0, 1, 2, 3, 4, 5])] 60 _ _ ?_
          conv => whnf
          repeat' (first
            | (refine ⟨fun c9 => ?_, fun c9 => ?_⟩ <;> (try simp (disch := omega) only [nI_leI, nI_ltI, nI_eq, nz_eq, nz_lt, nz_gt, nz_le, nz_ge, nz_00, nz_n1, nI_add, pk_mul, pk_sub, nI_shl1, nI_or, nI_half2, nI_min2, la_put_eq, la_up, lr_same, lr_ne, lu_same, lu_ne, not_true_eq_false, not_false_eq_true] at c9) <;> first | (exfalso; omega) | conv => whnf)
            | (refine ⟨_, rfl, by omega, ?_⟩; conv => whnf)
            | (refine ⟨_, rfl, rfl, rfl, by decide, by decide, ?_⟩; conv => whnf)
            | (refine ⟨_, by (simp (disch := omega) only [nI_leI, nI_ltI, nI_eq, nz_eq, nz_lt, nz_gt, nz_le, nz_ge, nz_00, nz_n1, nI_add, pk_mul, pk_sub, nI_shl1, nI_or, nI_half2, nI_min2, la_put_eq, la_up, lr_same, lr_ne, lu_same, lu_ne, not_true_eq_false, not_false_eq_true]; rfl), by omega, ?_⟩; conv => whnf)
            | (apply And.intro; (first | assumption | decide | (simp (disch := omega) only [nI_leI, nI_ltI, nI_eq, nz_eq, nz_lt, nz_gt, nz_le, nz_ge, nz_00, nz_n1, nI_add, pk_mul, pk_sub, nI_shl1, nI_or, nI_half2, nI_min2, la_put_eq, la_up, lr_same, lr_ne, lu_same, lu_ne, not_true_eq_false, not_false_eq_true]; omega)); conv => whnf))
          all_goals (try simp (disch := omega) only [nI_leI, nI_ltI, nI_eq, nz_eq, nz_lt, nz_gt, nz_le, nz_ge, nz_00, nz_n1, nI_add, pk_mul, pk_sub, nI_shl1, nI_or, nI_half2, nI_min2, la_put_eq, la_up, lr_same, lr_ne, lu_same, lu_ne, not_true_eq_false, not_false_eq_true])
          refine ⟨(0, 245, N, _), ⟨rfl, rfl, mf_P hH hP, by decide, by decide, by omega⟩, fun h'' hq => ?_⟩
          have hq' : h'' = _ := hq
          subst hq'
          conv => whnf
          repeat' (first
            | (refine ⟨fun c9 => ?_, fun c9 => ?_⟩ <;> (try simp (disch := omega) only [nI_leI, nI_ltI, nI_eq, nz_eq, nz_lt, nz_gt, nz_le, nz_ge, nz_00, nz_n1, nI_add, pk_mul, pk_sub, nI_shl1, nI_or, nI_half2, nI_min2, la_put_eq, la_up, lr_same, lr_ne, lu_same, lu_ne, not_true_eq_false, not_false_eq_true, pu1] at c9) <;> first | (exfalso; omega) | conv => whnf)
            | (refine ⟨_, rfl, by omega, ?_⟩; conv => whnf)
            | (refine ⟨_, rfl, rfl, rfl, by decide, by decide, ?_⟩; conv => whnf)
            | (refine ⟨_, by (simp (disch := omega) only [nI_leI, nI_ltI, nI_eq, nz_eq, nz_lt, nz_gt, nz_le, nz_ge, nz_00, nz_n1, nI_add, pk_mul, pk_sub, nI_shl1, nI_or, nI_half2, nI_min2, la_put_eq, la_up, lr_same, lr_ne, lu_same, lu_ne, not_true_eq_false, not_false_eq_true, pu1]; rfl), by omega, ?_⟩; conv => whnf)
            | (apply And.intro; (first | assumption | decide | (simp (disch := omega) only [nI_leI, nI_ltI, nI_eq, nz_eq, nz_lt, nz_gt, nz_le, nz_ge, nz_00, nz_n1, nI_add, pk_mul, pk_sub, nI_shl1, nI_or, nI_half2, nI_min2, la_put_eq, la_up, lr_same, lr_ne, lu_same, lu_ne, not_true_eq_false, not_false_eq_true, pu1]; omega)); conv => whnf))
          all_goals (try simp (disch := omega) only [nI_leI, nI_ltI, nI_eq, nz_eq, nz_lt, nz_gt, nz_le, nz_ge, nz_00, nz_n1, nI_add, pk_mul, pk_sub, nI_shl1, nI_or, nI_half2, nI_min2, la_put_eq, la_up, lr_same, lr_ne, lu_same, lu_ne, not_true_eq_false, not_false_eq_true, pu1])
          refine ⟨(245, lu N 1 x e, _), ⟨rfl, rfl, pg_put_at _ _ _, Or.inr rfl, wV, by omega, by rw [prO, mf_F hH hF, e00]⟩, fun v H2 hq => ?_⟩
          obtain ⟨hq', rfl⟩ := hq
          have hm2 : mf h' H2 := by rw [hq']; exact mf_go (mf_pg hH (by decide))
          clear hq'
          conv => whnf
          repeat' (first
            | (refine ⟨fun c9 => ?_, fun c9 => ?_⟩ <;> (try simp (disch := omega) only [nI_leI, nI_ltI, nI_eq, nz_eq, nz_lt, nz_gt, nz_le, nz_ge, nz_00, nz_n1, nI_add, pk_mul, pk_sub, nI_shl1, nI_or, nI_half2, nI_min2, la_put_eq, la_up, lr_same, lr_ne, lu_same, lu_ne, not_true_eq_false, not_false_eq_true, m1_le, m1_dec] at c9) <;> first | (exfalso; omega) | conv => whnf)
            | (refine ⟨_, rfl, by omega, ?_⟩; conv => whnf)
            | (refine ⟨_, rfl, rfl, rfl, by decide, by decide, ?_⟩; conv => whnf)
            | (refine ⟨_, by (simp (disch := omega) only [nI_leI, nI_ltI, nI_eq, nz_eq, nz_lt, nz_gt, nz_le, nz_ge, nz_00, nz_n1, nI_add, pk_mul, pk_sub, nI_shl1, nI_or, nI_half2, nI_min2, la_put_eq, la_up, lr_same, lr_ne, lu_same, lu_ne, not_true_eq_false, not_false_eq_true, m1_le, m1_dec]; rfl), by omega, ?_⟩; conv => whnf)
            | (apply And.intro; (first | assumption | decide | (simp (disch := omega) only [nI_leI, nI_ltI, nI_eq, nz_eq, nz_lt, nz_gt, nz_le, nz_ge, nz_00, nz_n1, nI_add, pk_mul, pk_sub, nI_shl1, nI_or, nI_half2, nI_min2, la_put_eq, la_up, lr_same, lr_ne, lu_same, lu_ne, not_true_eq_false, not_false_eq_true, m1_le, m1_dec]; omega)); conv => whnf))
          all_goals (try simp (disch := omega) only [nI_leI, nI_ltI, nI_eq, nz_eq, nz_lt, nz_gt, nz_le, nz_ge, nz_00, nz_n1, nI_add, pk_mul, pk_sub, nI_shl1, nI_or, nI_half2, nI_min2, la_put_eq, la_up, lr_same, lr_ne, lu_same, lu_ne, not_true_eq_false, not_false_eq_true, m1_le, m1_dec])
          · refine ih H2 p (by omega) hm2 ?_
            rw [hst, sp_up1_f (by omega)]
          · have := ih H2 (nI e, sp_cnt (lu N 1 x e) + 1) (by omega) hm2 (by rw [hst, sp_up1_t (by omega)])
            rw [m1_s] at this
            exact this
      conv => whnf
      repeat' (first
        | (refine ⟨fun c9 => ?_, fun c9 => ?_⟩ <;> (try simp (disch := omega) only [nI_leI, nI_ltI, nI_eq, nz_eq, nz_lt, nz_gt, nz_le, nz_ge, nz_00, nz_n1, nI_add, pk_mul, pk_sub, nI_shl1, nI_or, nI_half2, nI_min2, la_put_eq, la_up, lr_same, lr_ne, lu_same, lu_ne, not_true_eq_false, not_false_eq_true] at c9) <;> first | (exfalso; omega) | conv => whnf)
        | (refine ⟨_, rfl, by omega, ?_⟩; conv => whnf)
        | (refine ⟨_, rfl, rfl, rfl, by decide, by decide, ?_⟩; conv => whnf)
        | (refine ⟨_, by (simp (disch := omega) only [nI_leI, nI_ltI, nI_eq, nz_eq, nz_lt, nz_gt, nz_le, nz_ge, nz_00, nz_n1, nI_add, pk_mul, pk_sub, nI_shl1, nI_or, nI_half2, nI_min2, la_put_eq, la_up, lr_same, lr_ne, lu_same, lu_ne, not_true_eq_false, not_false_eq_true]; rfl), by omega, ?_⟩; conv => whnf)
        | (apply And.intro; (first | assumption | decide | (simp (disch := omega) only [nI_leI, nI_ltI, nI_eq, nz_eq, nz_lt, nz_gt, nz_le, nz_ge, nz_00, nz_n1, nI_add, pk_mul, pk_sub, nI_shl1, nI_or, nI_half2, nI_min2, la_put_eq, la_up, lr_same, lr_ne, lu_same, lu_ne, not_true_eq_false, not_false_eq_true]; omega)); conv => whnf))
      all_goals (try simp (disch := omega) only [nI_leI, nI_ltI, nI_eq, nz_eq, nz_lt, nz_gt, nz_le, nz_ge, nz_00, nz_n1, nI_add, pk_mul, pk_sub, nI_shl1, nI_or, nI_half2, nI_min2, la_put_eq, la_up, lr_same, lr_ne, lu_same, lu_ne, not_true_eq_false, not_false_eq_true])
      exact loop 10 h' (nI 0, 0) (by omega) (mf_self _) rfl
    · conv => whnf
      repeat' (first
        | (refine ⟨fun c9 => ?_, fun c9 => ?_⟩ <;> (try simp (disch := omega) only [nI_leI, nI_ltI, nI_eq, nz_eq, nz_lt, nz_gt, nz_le, nz_ge, nz_00, nz_n1, nI_add, pk_mul, pk_sub, nI_shl1, nI_or, nI_half2, nI_min2, la_put_eq, la_up, lr_same, lr_ne, lu_same, lu_ne, not_true_eq_false, not_false_eq_true] at c9) <;> first | (exfalso; omega) | conv => whnf)
        | (refine ⟨_, rfl, by omega, ?_⟩; conv => whnf)
        | (refine ⟨_, rfl, rfl, rfl, by decide, by decide, ?_⟩; conv => whnf)
        | (refine ⟨_, by (simp (disch := omega) only [nI_leI, nI_ltI, nI_eq, nz_eq, nz_lt, nz_gt, nz_le, nz_ge, nz_00, nz_n1, nI_add, pk_mul, pk_sub, nI_shl1, nI_or, nI_half2, nI_min2, la_put_eq, la_up, lr_same, lr_ne, lu_same, lu_ne, not_true_eq_false, not_false_eq_true]; rfl), by omega, ?_⟩; conv => whnf)
        | (apply And.intro; (first | assumption | decide | (simp (disch := omega) only [nI_leI, nI_ltI, nI_eq, nz_eq, nz_lt, nz_gt, nz_le, nz_ge, nz_00, nz_n1, nI_add, pk_mul, pk_sub, nI_shl1, nI_or, nI_half2, nI_min2, la_put_eq, la_up, lr_same, lr_ne, lu_same, lu_ne, not_true_eq_false, not_false_eq_true]; omega)); conv => whnf))
      all_goals (try simp (disch := omega) only [nI_leI, nI_ltI, nI_eq, nz_eq, nz_lt, nz_gt, nz_le, nz_ge, nz_00, nz_n1, nI_add, pk_mul, pk_sub, nI_shl1, nI_or, nI_half2, nI_min2, la_put_eq, la_up, lr_same, lr_ne, lu_same, lu_ne, not_true_eq_false, not_false_eq_true])
      refine hret _ _ ⟨mf_self _, ?_⟩
      rw [a_thrift, ci_f (fun q => hc q.2)]
  · conv => whnf
    repeat' (first
      | (refine ⟨fun c9 => ?_, fun c9 => ?_⟩ <;> (try simp (disch := omega) only [nI_leI, nI_ltI, nI_eq, nz_eq, nz_lt, nz_gt, nz_le, nz_ge, nz_00, nz_n1, nI_add, pk_mul, pk_sub, nI_shl1, nI_or, nI_half2, nI_min2, la_put_eq, la_up, lr_same, lr_ne, lu_same, lu_ne, not_true_eq_false, not_false_eq_true] at c9) <;> first | (exfalso; omega) | conv => whnf)
      | (refine ⟨_, rfl, by omega, ?_⟩; conv => whnf)
      | (refine ⟨_, rfl, rfl, rfl, by decide, by decide, ?_⟩; conv => whnf)
      | (refine ⟨_, by (simp (disch := omega) only [nI_leI, nI_ltI, nI_eq, nz_eq, nz_lt, nz_gt, nz_le, nz_ge, nz_00, nz_n1, nI_add, pk_mul, pk_sub, nI_shl1, nI_or, nI_half2, nI_min2, la_put_eq, la_up, lr_same, lr_ne, lu_same, lu_ne, not_true_eq_false, not_false_eq_true]; rfl), by omega, ?_⟩; conv => whnf)
      | (apply And.intro; (first | assumption | decide | (simp (disch := omega) only [nI_leI, nI_ltI, nI_eq, nz_eq, nz_lt, nz_gt, nz_le, nz_ge, nz_00, nz_n1, nI_add, pk_mul, pk_sub, nI_shl1, nI_or, nI_half2, nI_min2, la_put_eq, la_up, lr_same, lr_ne, lu_same, lu_ne, not_true_eq_false, not_false_eq_true]; omega)); conv => whnf))
    all_goals (try simp (disch := omega) only [nI_leI, nI_ltI, nI_eq, nz_eq, nz_lt, nz_gt, nz_le, nz_ge, nz_00, nz_n1, nI_add, pk_mul, pk_sub, nI_shl1, nI_or, nI_half2, nI_min2, la_put_eq, la_up, lr_same, lr_ne, lu_same, lu_ne, not_true_eq_false, not_false_eq_true])
    refine hret _ _ ⟨mf_self _, ?_⟩
    rw [a_thrift, ci_f (fun q => hc q.1)]
theorem M_X5_thrift : pm_MT yX5_thrift cX5_thrift 7 1 7 P_X5_thrift (pm_pi Q_X5_thrift) := pm_met k_X5_thrift (by decide) rfl (by
  rintro ⟨g0, g1, g2, g3⟩ av h hp
  rw [hp.1]
  exact Nat.le_of_ble_eq_true rfl) pf_X5_thrift
theorem rc_X5_thrift : ∀ g av h, P_X5_thrift g av h → ∃ i t, av = .inr (.inr (5, i, 0)) :: t := by
  rintro ⟨g0, g1, g2, g3⟩ av h hp
  exact ⟨_, _, hp.1⟩
def P_X5_heir : Int32 × Int32 × LD × pm_H → List pm_V → pm_H → Prop := fun g av h => match g with
  | (b, w, Y, h0) => av = [vR 5 0 0, vI b, vI w] ∧ h = h0 ∧ md h0 Y ∧ Y 0 10 ≤ 999
def Q_X5_heir : Int32 × Int32 × LD × pm_H → Int32 → pm_H → Prop := fun g r h => match g with
  | (b, w, N, h0) => mf h0 h ∧ r = a_heir N b w
def T_X5_heir : List (Nat × pm_T) := [
  (0, i_al 0 1),
  (1, i_il 1 2),
  (2, i_ci 2 P_X5_isBiscuit Q_X5_isBiscuit 5),
  (5, i_ifeq 18 8),
  (8, i_il 2 9),
  (9, i_i2l 10),
  (10, i_cl (lN 0) 11),
  (11, i_cl (lN 1) 12),
  (12, i_ci 3 P_X5_in Q_X5_in 15),
  (15, i_ifne 20 18),
  (18, i_c (-1) 19),
  (19, i_ir),
  (20, i_c (-1) 21),
  (21, i_is 3 22),
  (22, i_c (nI 0) 23),
  (23, i_is 4 25),
  (25, i_c (nI 0) 26),
  (26, i_is 5 28),
  (28, i_il 5 30),
  (30, i_al 0 31),
  (31, i_gi 5 1 34),
  (34, i_icge 100 37),
  (37, i_al 0 38),
  (38, i_c (nI 0) 39),
  (39, i_c (nI 245) 42),
  (42, i_cv 3 P_X5_copies Q_X5_copies 45),
  (45, i_al 0 46),
  (46, i_gr 5 (fun i => (5, i, 1)) 49),
  (49, i_c (nI 271) 52),
  (52, i_il 1 53),
  (53, i_iadd 54),
  (54, i_il 5 56),
  (56, i_ias 57),
  (57, i_al 0 58),
  (58, i_c (nI 245) 61),
  (61, i_ci 2 P_X5_answersOf Q_X5_answersOf 64),
  (64, i_is 6 66),
  (66, i_il 6 68),
  (68, i_il 3 69),
  (69, i_icle 77 72),
  (72, i_il 5 74),
  (74, i_go 79),
  (77, i_il 4 79),
  (79, i_is 4 81),
  (81, i_il 6 83),
  (83, i_il 3 84),
  (84, i_icle 92 87),
  (87, i_il 6 89),
  (89, i_go 93),
  (92, i_il 3 93),
  (93, i_is 3 94),
  (94, i_inc 5 (nI 1) 97),
  (97, i_go 28),
  (100, i_il 2 101),
  (101, i_ifne 109 104),
  (104, i_il 4 106),
  (106, i_go 110),
  (109, i_il 3 110),
  (110, i_ir)]
theorem k_X5_heir : ∀ q ∈ T_X5_heir, pm_sd RX5 cX5_heir 7 7 1 q.1 q.2 := by
  unfold T_X5_heir
  refine pm_cn (sd_aln (k := 0) (by decide +kernel) rfl rfl) ?_
  refine pm_cn (sd_iln (k := 1) (by decide +kernel) rfl rfl) ?_
  refine pm_cn (sd_civ M_X5_isBiscuit (by decide) cd_X5_isBiscuit rc_X5_isBiscuit cl5_ ml_X5_159 im_X5_isBiscuit se_X5_isBiscuit nt_X5 (by decide +kernel) (by omega) (by decide) (by decide +kernel) rfl) ?_
  refine pm_cn (sd_ifeq (off := 13) (by decide +kernel) (by decide) rfl) ?_
  refine pm_cn (sd_iln (k := 2) (by decide +kernel) rfl rfl) ?_
  refine pm_cn (sd_i2l (by decide +kernel) rfl) ?_
  refine pm_cn (sd_lconst (z := 0) (by decide +kernel) (by decide +kernel) rfl) ?_
  refine pm_cn (sd_lconst (z := 1) (by decide +kernel) (by decide +kernel) rfl) ?_
  refine pm_cn (sd_cis M_X5_in (by decide) cd_X5_in ml_X5_46 st_X5_in nt_X5 (by decide +kernel) (by omega) (by decide) (by decide +kernel) rfl) ?_
  refine pm_cn (sd_ifne (off := 5) (by decide +kernel) (by decide) rfl) ?_
  refine pm_cn (sd_iconst (z := -1) (by decide +kernel) (by decide +kernel) rfl) ?_
  refine pm_cn (sd_ir (by decide +kernel)) ?_
  refine pm_cn (sd_iconst (z := -1) (by decide +kernel) (by decide +kernel) rfl) ?_
  refine pm_cn (sd_isn (k := 3) (by decide +kernel) rfl rfl (by decide)) ?_
  refine pm_cn (sd_iconst (z := 0) (by decide +kernel) (by decide +kernel) rfl) ?_
  refine pm_cn (sd_is (by decide +kernel) rfl (by decide)) ?_
  refine pm_cn (sd_iconst (z := 0) (by decide +kernel) (by decide +kernel) rfl) ?_
  refine pm_cn (sd_is (by decide +kernel) rfl (by decide)) ?_
  refine pm_cn (sd_il (by decide +kernel) rfl) ?_
  refine pm_cn (sd_aln (k := 0) (by decide +kernel) rfl rfl) ?_
  refine pm_cn (sd_gi cl5_ in5_ (by decide) (fun _ => rfl) fl_X5_126 (by decide +kernel) rfl) ?_
  refine pm_cn (sd_icge (off := 66) (by decide +kernel) (by decide) rfl) ?_
  refine pm_cn (sd_aln (k := 0) (by decide +kernel) rfl rfl) ?_
  refine pm_cn (sd_iconst (z := 0) (by decide +kernel) (by decide +kernel) rfl) ?_
  refine pm_cn (sd_sipush (z := 245) (by decide +kernel) (by decide +kernel) rfl) ?_
  refine pm_cn (sd_cvv M_X5_copies cd_X5_copies rc_X5_copies cl5_ ml_X5_190 im_X5_copies se_X5_copies nt_X5 (by decide +kernel) (by omega) (by decide) (by decide +kernel) rfl) ?_
  refine pm_cn (sd_aln (k := 0) (by decide +kernel) rfl rfl) ?_
  refine pm_cn (sd_gr cl5_ in5_ (j := 0) (by decide) (fun _ => rfl) fl_X5_7 (by decide +kernel) rfl) ?_
  refine pm_cn (sd_sipush (z := 271) (by decide +kernel) (by decide +kernel) rfl) ?_
  refine pm_cn (sd_iln (k := 1) (by decide +kernel) rfl rfl) ?_
  refine pm_cn (sd_iadd (by decide +kernel) rfl) ?_
  refine pm_cn (sd_il (by decide +kernel) rfl) ?_
  refine pm_cn (sd_ias (by decide +kernel) rfl) ?_
  refine pm_cn (sd_aln (k := 0) (by decide +kernel) rfl rfl) ?_
  refine pm_cn (sd_sipush (z := 245) (by decide +kernel) (by decide +kernel) rfl) ?_
  refine pm_cn (sd_civ M_X5_answersOf (by decide) cd_X5_answersOf rc_X5_answersOf cl5_ ml_X5_205 im_X5_answersOf se_X5_answersOf nt_X5 (by decide +kernel) (by omega) (by decide) (by decide +kernel) rfl) ?_
  refine pm_cn (sd_is (by decide +kernel) rfl (by decide)) ?_
  refine pm_cn (sd_il (by decide +kernel) rfl) ?_
  refine pm_cn (sd_iln (k := 3) (by decide +kernel) rfl rfl) ?_
  refine pm_cn (sd_icle (off := 8) (by decide +kernel) (by decide) rfl) ?_
  refine pm_cn (sd_il (by decide +kernel) rfl) ?_
  refine pm_cn (sd_go (off := 5) (by decide +kernel) (by decide)) ?_
  refine pm_cn (sd_il (by decide +kernel) rfl) ?_
  refine pm_cn (sd_is (by decide +kernel) rfl (by decide)) ?_
  refine pm_cn (sd_il (by decide +kernel) rfl) ?_
  refine pm_cn (sd_iln (k := 3) (by decide +kernel) rfl rfl) ?_
  refine pm_cn (sd_icle (off := 8) (by decide +kernel) (by decide) rfl) ?_
  refine pm_cn (sd_il (by decide +kernel) rfl) ?_
  refine pm_cn (sd_go (off := 4) (by decide +kernel) (by decide)) ?_
  refine pm_cn (sd_iln (k := 3) (by decide +kernel) rfl rfl) ?_
  refine pm_cn (sd_isn (k := 3) (by decide +kernel) rfl rfl (by decide)) ?_
  refine pm_cn (sd_inc (z := 1) (by decide +kernel) (by decide +kernel) rfl (by decide)) ?_
  refine pm_cn (sd_go (off := -69) (by decide +kernel) (by decide)) ?_
  refine pm_cn (sd_iln (k := 2) (by decide +kernel) rfl rfl) ?_
  refine pm_cn (sd_ifne (off := 8) (by decide +kernel) (by decide) rfl) ?_
  refine pm_cn (sd_il (by decide +kernel) rfl) ?_
  refine pm_cn (sd_go (off := 4) (by decide +kernel) (by decide)) ?_
  refine pm_cn (sd_iln (k := 3) (by decide +kernel) rfl rfl) ?_
  refine pm_cn (sd_ir (by decide +kernel)) ?_
  exact fun _ h => absurd h List.not_mem_nil
set_option maxHeartbeats 800000 in
set_option maxRecDepth 100000 in
theorem pf_X5_heir : pm_pf T_X5_heir P_X5_heir (pm_pi Q_X5_heir) := by
  rintro ⟨f, w, N, h0⟩ av h K hK ⟨rfl, rfl, ⟨hP, wN, hF⟩, hd⟩ hret
  have w1 := wN.1
  have w2 := wN.2.1
  show K (some 0) ([(0, vR 5 0 0), (1, vI f), (2, vI w)], [], h)
  refine hK [(28, [0, 1, 2, 3, 4, 5])] 80 _ _ ?_
  conv => whnf
  repeat' (first
    | (refine ⟨fun c9 => ?_, fun c9 => ?_⟩ <;> (try simp (disch := omega) only [nI_leI, nI_ltI, nI_eq, nz_eq, nz_lt, nz_gt, nz_le, nz_ge, nz_00, nz_n1, nI_add, pk_mul, pk_sub, nI_shl1, nI_or, nI_half2, nI_min2, la_put_eq, la_up, lr_same, lr_ne, lu_same, lu_ne, not_true_eq_false, not_false_eq_true] at c9) <;> first | (exfalso; omega) | conv => whnf)
    | (refine ⟨_, rfl, by omega, ?_⟩; conv => whnf)
    | (refine ⟨_, rfl, rfl, rfl, by decide, by decide, ?_⟩; conv => whnf)
    | (refine ⟨_, by (simp (disch := omega) only [nI_leI, nI_ltI, nI_eq, nz_eq, nz_lt, nz_gt, nz_le, nz_ge, nz_00, nz_n1, nI_add, pk_mul, pk_sub, nI_shl1, nI_or, nI_half2, nI_min2, la_put_eq, la_up, lr_same, lr_ne, lu_same, lu_ne, not_true_eq_false, not_false_eq_true]; rfl), by omega, ?_⟩; conv => whnf)
    | (apply And.intro; (first | assumption | decide | (simp (disch := omega) only [nI_leI, nI_ltI, nI_eq, nz_eq, nz_lt, nz_gt, nz_le, nz_ge, nz_00, nz_n1, nI_add, pk_mul, pk_sub, nI_shl1, nI_or, nI_half2, nI_min2, la_put_eq, la_up, lr_same, lr_ne, lu_same, lu_ne, not_true_eq_false, not_false_eq_true]; omega)); conv => whnf))
  all_goals (try simp (disch := omega) only [nI_leI, nI_ltI, nI_eq, nz_eq, nz_lt, nz_gt, nz_le, nz_ge, nz_00, nz_n1, nI_add, pk_mul, pk_sub, nI_shl1, nI_or, nI_half2, nI_min2, la_put_eq, la_up, lr_same, lr_ne, lu_same, lu_ne, not_true_eq_false, not_false_eq_true])
  refine ⟨(f, N 0 3, _), ⟨rfl, rfl, zrN hP, w2⟩, fun v h' hq => ?_⟩
  obtain ⟨rfl, ⟨hf1, rfl⟩ | ⟨hc, rfl⟩⟩ := hq
  · conv => whnf
    repeat' (first
      | (refine ⟨fun c9 => ?_, fun c9 => ?_⟩ <;> (try simp (disch := omega) only [nI_leI, nI_ltI, nI_eq, nz_eq, nz_lt, nz_gt, nz_le, nz_ge, nz_00, nz_n1, nI_add, pk_mul, pk_sub, nI_shl1, nI_or, nI_half2, nI_min2, la_put_eq, la_up, lr_same, lr_ne, lu_same, lu_ne, not_true_eq_false, not_false_eq_true] at c9) <;> first | (exfalso; omega) | conv => whnf)
      | (refine ⟨_, rfl, by omega, ?_⟩; conv => whnf)
      | (refine ⟨_, rfl, rfl, rfl, by decide, by decide, ?_⟩; conv => whnf)
      | (refine ⟨_, by (simp (disch := omega) only [nI_leI, nI_ltI, nI_eq, nz_eq, nz_lt, nz_gt, nz_le, nz_ge, nz_00, nz_n1, nI_add, pk_mul, pk_sub, nI_shl1, nI_or, nI_half2, nI_min2, la_put_eq, la_up, lr_same, lr_ne, lu_same, lu_ne, not_true_eq_false, not_false_eq_true]; rfl), by omega, ?_⟩; conv => whnf)
      | (apply And.intro; (first | assumption | decide | (simp (disch := omega) only [nI_leI, nI_ltI, nI_eq, nz_eq, nz_lt, nz_gt, nz_le, nz_ge, nz_00, nz_n1, nI_add, pk_mul, pk_sub, nI_shl1, nI_or, nI_half2, nI_min2, la_put_eq, la_up, lr_same, lr_ne, lu_same, lu_ne, not_true_eq_false, not_false_eq_true]; omega)); conv => whnf))
    all_goals (try simp (disch := omega) only [nI_leI, nI_ltI, nI_eq, nz_eq, nz_lt, nz_gt, nz_le, nz_ge, nz_00, nz_n1, nI_add, pk_mul, pk_sub, nI_shl1, nI_or, nI_half2, nI_min2, la_put_eq, la_up, lr_same, lr_ne, lu_same, lu_ne, not_true_eq_false, not_false_eq_true])
    refine ⟨(w.toInt64, lN 0, lN 1, _), ⟨rfl, rfl⟩, fun v h' hq => ?_⟩
    obtain ⟨rfl, ⟨hw, rfl⟩ | ⟨hc, rfl⟩⟩ := Q_hf hq
    · obtain ⟨x, hx, rfl⟩ := id hf1
      have hv : ixv (nI x) = x := ixv_nI (by omega)
      have loop : ∀ n k H p, k + n = N 0 0 → mf h' H → p = sp_bs (fun k => sp_cnt (lu N 6 x k)) nI (nI 0) k → K (some 28) ([(0, vR 5 0 0), (1, vI (nI x)), (2, vI w), (3, vI (sp_m1 p.2)), (4, vI p.1), (5, vI (nI k))], [], H) := by
        intro n
        induction n with
        | zero =>
          intro k H p he hH hp
          have : k = N 0 0 := by omega
          subst this
          subst hp
          have eF := mf_F hH hF
          refine hK [(28, [0, 1, 2, 3, 4, 5])] 60 _ _ ?_
          conv => whnf
          repeat' (first
            | (refine ⟨fun c9 => ?_, fun c9 => ?_⟩ <;> (try simp (disch := omega) only [nI_leI, nI_ltI, nI_eq, nz_eq, nz_lt, nz_gt, nz_le, nz_ge, nz_00, nz_n1, nI_add, pk_mul, pk_sub, nI_shl1, nI_or, nI_half2, nI_min2, la_put_eq, la_up, lr_same, lr_ne, lu_same, lu_ne, not_true_eq_false, not_false_eq_true, eF] at c9) <;> first | (exfalso; omega) | conv => whnf)
            | (refine ⟨_, rfl, by omega, ?_⟩; conv => whnf)
            | (refine ⟨_, rfl, rfl, rfl, by decide, by decide, ?_⟩; conv => whnf)
            | (refine ⟨_, by (simp (disch := omega) only [nI_leI, nI_ltI, nI_eq, nz_eq, nz_lt, nz_gt, nz_le, nz_ge, nz_00, nz_n1, nI_add, pk_mul, pk_sub, nI_shl1, nI_or, nI_half2, nI_min2, la_put_eq, la_up, lr_same, lr_ne, lu_same, lu_ne, not_true_eq_false, not_false_eq_true, eF]; rfl), by omega, ?_⟩; conv => whnf)
            | (apply And.intro; (first | assumption | decide | (simp (disch := omega) only [nI_leI, nI_ltI, nI_eq, nz_eq, nz_lt, nz_gt, nz_le, nz_ge, nz_00, nz_n1, nI_add, pk_mul, pk_sub, nI_shl1, nI_or, nI_half2, nI_min2, la_put_eq, la_up, lr_same, lr_ne, lu_same, lu_ne, not_true_eq_false, not_false_eq_true, eF]; omega)); conv => whnf))
          all_goals (try simp (disch := omega) only [nI_leI, nI_ltI, nI_eq, nz_eq, nz_lt, nz_gt, nz_le, nz_ge, nz_00, nz_n1, nI_add, pk_mul, pk_sub, nI_shl1, nI_or, nI_half2, nI_min2, la_put_eq, la_up, lr_same, lr_ne, lu_same, lu_ne, not_true_eq_false, not_false_eq_true, eF])
          all_goals (refine hret _ _ ⟨hH, ?_⟩; rw [a_heir, ci_t ⟨hf1, hw⟩, hv])
          · rw [if_neg (by assumption)]
          · rw [if_pos (by assumption)]
        | succ n ih =>
          intro k H p he hH hp
          have wV : la_ok (lu N 6 x k) := la_ok_lu wN (by unfold la_rel; omega) (by unfold la_bd; omega)
          have e10 : lu N 6 x k 0 10 = N 0 10 := lu_ne (by omega)
          have e00 : lu N 6 x k 0 0 = N 0 0 := lu_ne (by omega)
          have hcl := sp_cnt_le (lu N 6 x k)
          have hpl : p.2 ≤ 32 := by rw [hp]; exact sp_bs_le (fun k => sp_cnt_le _) _
          have hst : sp_bs (fun k => sp_cnt (lu N 6 x k)) nI (nI 0) (k + 1) = sp_up1 (sp_cnt (lu N 6 x k)) (nI k) p := by
            rw [sp_bs, ← hp]
          have eF := mf_F hH hF
          refine hK [(28, [0, 1, 2, 3, 4, 5])] 60 _ _ ?_
          conv => whnf
          repeat' (first
            | (refine ⟨fun c9 => ?_, fun c9 => ?_⟩ <;> (try simp (disch := omega) only [nI_leI, nI_ltI, nI_eq, nz_eq, nz_lt, nz_gt, nz_le, nz_ge, nz_00, nz_n1, nI_add, pk_mul, pk_sub, nI_shl1, nI_or, nI_half2, nI_min2, la_put_eq, la_up, lr_same, lr_ne, lu_same, lu_ne, not_true_eq_false, not_false_eq_true, eF] at c9) <;> first | (exfalso; omega) | conv => whnf)
            | (refine ⟨_, rfl, by omega, ?_⟩; conv => whnf)
            | (refine ⟨_, rfl, rfl, rfl, by decide, by decide, ?_⟩; conv => whnf)
            | (refine ⟨_, by (simp (disch := omega) only [nI_leI, nI_ltI, nI_eq, nz_eq, nz_lt, nz_gt, nz_le, nz_ge, nz_00, nz_n1, nI_add, pk_mul, pk_sub, nI_shl1, nI_or, nI_half2, nI_min2, la_put_eq, la_up, lr_same, lr_ne, lu_same, lu_ne, not_true_eq_false, not_false_eq_true, eF]; rfl), by omega, ?_⟩; conv => whnf)
            | (apply And.intro; (first | assumption | decide | (simp (disch := omega) only [nI_leI, nI_ltI, nI_eq, nz_eq, nz_lt, nz_gt, nz_le, nz_ge, nz_00, nz_n1, nI_add, pk_mul, pk_sub, nI_shl1, nI_or, nI_half2, nI_min2, la_put_eq, la_up, lr_same, lr_ne, lu_same, lu_ne, not_true_eq_false, not_false_eq_true, eF]; omega)); conv => whnf))
          all_goals (try simp (disch := omega) only [nI_leI, nI_ltI, nI_eq, nz_eq, nz_lt, nz_gt, nz_le, nz_ge, nz_00, nz_n1, nI_add, pk_mul, pk_sub, nI_shl1, nI_or, nI_half2, nI_min2, la_put_eq, la_up, lr_same, lr_ne, lu_same, lu_ne, not_true_eq_false, not_false_eq_true, eF])
          refine ⟨(0, 245, N, _), ⟨rfl, rfl, mf_P hH hP, by decide, by decide, by omega⟩, fun h'' hq => ?_⟩
          have hq' : h'' = _ := hq
          subst hq'
          conv => whnf
          repeat' (first
            | (refine ⟨fun c9 => ?_, fun c9 => ?_⟩ <;> (try simp (disch := omega) only [nI_leI, nI_ltI, nI_eq, nz_eq, nz_lt, nz_gt, nz_le, nz_ge, nz_00, nz_n1, nI_add, pk_mul, pk_sub, nI_shl1, nI_or, nI_half2, nI_min2, la_put_eq, la_up, lr_same, lr_ne, lu_same, lu_ne, not_true_eq_false, not_false_eq_true, ou2, ou3, ou4, ou5, ou6, ou7, ou8, ouN, ouD, ouB, ouY, ouQ] at c9) <;> first | (exfalso; omega) | conv => whnf)
            | (refine ⟨_, rfl, by omega, ?_⟩; conv => whnf)
            | (refine ⟨_, rfl, rfl, rfl, by decide, by decide, ?_⟩; conv => whnf)
            | (refine ⟨_, by (simp (disch := omega) only [nI_leI, nI_ltI, nI_eq, nz_eq, nz_lt, nz_gt, nz_le, nz_ge, nz_00, nz_n1, nI_add, pk_mul, pk_sub, nI_shl1, nI_or, nI_half2, nI_min2, la_put_eq, la_up, lr_same, lr_ne, lu_same, lu_ne, not_true_eq_false, not_false_eq_true, ou2, ou3, ou4, ou5, ou6, ou7, ou8, ouN, ouD, ouB, ouY, ouQ]; rfl), by omega, ?_⟩; conv => whnf)
            | (apply And.intro; (first | assumption | decide | (simp (disch := omega) only [nI_leI, nI_ltI, nI_eq, nz_eq, nz_lt, nz_gt, nz_le, nz_ge, nz_00, nz_n1, nI_add, pk_mul, pk_sub, nI_shl1, nI_or, nI_half2, nI_min2, la_put_eq, la_up, lr_same, lr_ne, lu_same, lu_ne, not_true_eq_false, not_false_eq_true, ou2, ou3, ou4, ou5, ou6, ou7, ou8, ouN, ouD, ouB, ouY, ouQ]; omega)); conv => whnf))
          all_goals (try simp (disch := omega) only [nI_leI, nI_ltI, nI_eq, nz_eq, nz_lt, nz_gt, nz_le, nz_ge, nz_00, nz_n1, nI_add, pk_mul, pk_sub, nI_shl1, nI_or, nI_half2, nI_min2, la_put_eq, la_up, lr_same, lr_ne, lu_same, lu_ne, not_true_eq_false, not_false_eq_true, ou2, ou3, ou4, ou5, ou6, ou7, ou8, ouN, ouD, ouB, ouY, ouQ])
          refine ⟨(245, lu N 6 x k, _), ⟨rfl, rfl, pg_put_at _ _ _, Or.inr rfl, wV, by omega, by rw [prO, mf_F hH hF, e00]⟩, fun v H2 hq => ?_⟩
          obtain ⟨hq', rfl⟩ := hq
          have hm2 : mf h' H2 := by rw [hq']; exact mf_go (mf_pg hH (by decide))
          clear hq'
          conv => whnf
          repeat' (first
            | (refine ⟨fun c9 => ?_, fun c9 => ?_⟩ <;> (try simp (disch := omega) only [nI_leI, nI_ltI, nI_eq, nz_eq, nz_lt, nz_gt, nz_le, nz_ge, nz_00, nz_n1, nI_add, pk_mul, pk_sub, nI_shl1, nI_or, nI_half2, nI_min2, la_put_eq, la_up, lr_same, lr_ne, lu_same, lu_ne, not_true_eq_false, not_false_eq_true, m1_le] at c9) <;> first | (exfalso; omega) | conv => whnf)
            | (refine ⟨_, rfl, by omega, ?_⟩; conv => whnf)
            | (refine ⟨_, rfl, rfl, rfl, by decide, by decide, ?_⟩; conv => whnf)
            | (refine ⟨_, by (simp (disch := omega) only [nI_leI, nI_ltI, nI_eq, nz_eq, nz_lt, nz_gt, nz_le, nz_ge, nz_00, nz_n1, nI_add, pk_mul, pk_sub, nI_shl1, nI_or, nI_half2, nI_min2, la_put_eq, la_up, lr_same, lr_ne, lu_same, lu_ne, not_true_eq_false, not_false_eq_true, m1_le]; rfl), by omega, ?_⟩; conv => whnf)
            | (apply And.intro; (first | assumption | decide | (simp (disch := omega) only [nI_leI, nI_ltI, nI_eq, nz_eq, nz_lt, nz_gt, nz_le, nz_ge, nz_00, nz_n1, nI_add, pk_mul, pk_sub, nI_shl1, nI_or, nI_half2, nI_min2, la_put_eq, la_up, lr_same, lr_ne, lu_same, lu_ne, not_true_eq_false, not_false_eq_true, m1_le]; omega)); conv => whnf))
          all_goals (try simp (disch := omega) only [nI_leI, nI_ltI, nI_eq, nz_eq, nz_lt, nz_gt, nz_le, nz_ge, nz_00, nz_n1, nI_add, pk_mul, pk_sub, nI_shl1, nI_or, nI_half2, nI_min2, la_put_eq, la_up, lr_same, lr_ne, lu_same, lu_ne, not_true_eq_false, not_false_eq_true, m1_le])
          · refine ih (k + 1) H2 p (by omega) hm2 ?_
            rw [hst, sp_up1_f (by omega)]
          · have := ih (k + 1) H2 (nI k, sp_cnt (lu N 6 x k) + 1) (by omega) hm2 (by rw [hst, sp_up1_t (by omega)])
            rw [m1_s] at this
            exact this
      conv => whnf
      repeat' (first
        | (refine ⟨fun c9 => ?_, fun c9 => ?_⟩ <;> (try simp (disch := omega) only [nI_leI, nI_ltI, nI_eq, nz_eq, nz_lt, nz_gt, nz_le, nz_ge, nz_00, nz_n1, nI_add, pk_mul, pk_sub, nI_shl1, nI_or, nI_half2, nI_min2, la_put_eq, la_up, lr_same, lr_ne, lu_same, lu_ne, not_true_eq_false, not_false_eq_true] at c9) <;> first | (exfalso; omega) | conv => whnf)
        | (refine ⟨_, rfl, by omega, ?_⟩; conv => whnf)
        | (refine ⟨_, rfl, rfl, rfl, by decide, by decide, ?_⟩; conv => whnf)
        | (refine ⟨_, by (simp (disch := omega) only [nI_leI, nI_ltI, nI_eq, nz_eq, nz_lt, nz_gt, nz_le, nz_ge, nz_00, nz_n1, nI_add, pk_mul, pk_sub, nI_shl1, nI_or, nI_half2, nI_min2, la_put_eq, la_up, lr_same, lr_ne, lu_same, lu_ne, not_true_eq_false, not_false_eq_true]; rfl), by omega, ?_⟩; conv => whnf)
        | (apply And.intro; (first | assumption | decide | (simp (disch := omega) only [nI_leI, nI_ltI, nI_eq, nz_eq, nz_lt, nz_gt, nz_le, nz_ge, nz_00, nz_n1, nI_add, pk_mul, pk_sub, nI_shl1, nI_or, nI_half2, nI_min2, la_put_eq, la_up, lr_same, lr_ne, lu_same, lu_ne, not_true_eq_false, not_false_eq_true]; omega)); conv => whnf))
      all_goals (try simp (disch := omega) only [nI_leI, nI_ltI, nI_eq, nz_eq, nz_lt, nz_gt, nz_le, nz_ge, nz_00, nz_n1, nI_add, pk_mul, pk_sub, nI_shl1, nI_or, nI_half2, nI_min2, la_put_eq, la_up, lr_same, lr_ne, lu_same, lu_ne, not_true_eq_false, not_false_eq_true])
      exact loop (N 0 0) 0 h' (nI 0, 0) (by omega) (mf_self _) rfl
    · conv => whnf
      repeat' (first
        | (refine ⟨fun c9 => ?_, fun c9 => ?_⟩ <;> (try simp (disch := omega) only [nI_leI, nI_ltI, nI_eq, nz_eq, nz_lt, nz_gt, nz_le, nz_ge, nz_00, nz_n1, nI_add, pk_mul, pk_sub, nI_shl1, nI_or, nI_half2, nI_min2, la_put_eq, la_up, lr_same, lr_ne, lu_same, lu_ne, not_true_eq_false, not_false_eq_true] at c9) <;> first | (exfalso; omega) | conv => whnf)
        | (refine ⟨_, rfl, by omega, ?_⟩; conv => whnf)
        | (refine ⟨_, rfl, rfl, rfl, by decide, by decide, ?_⟩; conv => whnf)
        | (refine ⟨_, by (simp (disch := omega) only [nI_leI, nI_ltI, nI_eq, nz_eq, nz_lt, nz_gt, nz_le, nz_ge, nz_00, nz_n1, nI_add, pk_mul, pk_sub, nI_shl1, nI_or, nI_half2, nI_min2, la_put_eq, la_up, lr_same, lr_ne, lu_same, lu_ne, not_true_eq_false, not_false_eq_true]; rfl), by omega, ?_⟩; conv => whnf)
        | (apply And.intro; (first | assumption | decide | (simp (disch := omega) only [nI_leI, nI_ltI, nI_eq, nz_eq, nz_lt, nz_gt, nz_le, nz_ge, nz_00, nz_n1, nI_add, pk_mul, pk_sub, nI_shl1, nI_or, nI_half2, nI_min2, la_put_eq, la_up, lr_same, lr_ne, lu_same, lu_ne, not_true_eq_false, not_false_eq_true]; omega)); conv => whnf))
      all_goals (try simp (disch := omega) only [nI_leI, nI_ltI, nI_eq, nz_eq, nz_lt, nz_gt, nz_le, nz_ge, nz_00, nz_n1, nI_add, pk_mul, pk_sub, nI_shl1, nI_or, nI_half2, nI_min2, la_put_eq, la_up, lr_same, lr_ne, lu_same, lu_ne, not_true_eq_false, not_false_eq_true])
      refine hret _ _ ⟨mf_self _, ?_⟩
      rw [a_heir, ci_f (fun q => hc q.2)]
  · conv => whnf
    repeat' (first
      | (refine ⟨fun c9 => ?_, fun c9 => ?_⟩ <;> (try simp (disch := omega) only [nI_leI, nI_ltI, nI_eq, nz_eq, nz_lt, nz_gt, nz_le, nz_ge, nz_00, nz_n1, nI_add, pk_mul, pk_sub, nI_shl1, nI_or, nI_half2, nI_min2, la_put_eq, la_up, lr_same, lr_ne, lu_same, lu_ne, not_true_eq_false, not_false_eq_true] at c9) <;> first | (exfalso; omega) | conv => whnf)
      | (refine ⟨_, rfl, by omega, ?_⟩; conv => whnf)
      | (refine ⟨_, rfl, rfl, rfl, by decide, by decide, ?_⟩; conv => whnf)
      | (refine ⟨_, by (simp (disch := omega) only [nI_leI, nI_ltI, nI_eq, nz_eq, nz_lt, nz_gt, nz_le, nz_ge, nz_00, nz_n1, nI_add, pk_mul, pk_sub, nI_shl1, nI_or, nI_half2, nI_min2, la_put_eq, la_up, lr_same, lr_ne, lu_same, lu_ne, not_true_eq_false, not_false_eq_true]; rfl), by omega, ?_⟩; conv => whnf)
      | (apply And.intro; (first | assumption | decide | (simp (disch := omega) only [nI_leI, nI_ltI, nI_eq, nz_eq, nz_lt, nz_gt, nz_le, nz_ge, nz_00, nz_n1, nI_add, pk_mul, pk_sub, nI_shl1, nI_or, nI_half2, nI_min2, la_put_eq, la_up, lr_same, lr_ne, lu_same, lu_ne, not_true_eq_false, not_false_eq_true]; omega)); conv => whnf))
    all_goals (try simp (disch := omega) only [nI_leI, nI_ltI, nI_eq, nz_eq, nz_lt, nz_gt, nz_le, nz_ge, nz_00, nz_n1, nI_add, pk_mul, pk_sub, nI_shl1, nI_or, nI_half2, nI_min2, la_put_eq, la_up, lr_same, lr_ne, lu_same, lu_ne, not_true_eq_false, not_false_eq_true])
    refine hret _ _ ⟨mf_self _, ?_⟩
    rw [a_heir, ci_f (fun q => hc q.1)]
theorem M_X5_heir : pm_MT yX5_heir cX5_heir 7 1 7 P_X5_heir (pm_pi Q_X5_heir) := pm_met k_X5_heir (by decide) rfl (by
  rintro ⟨g0, g1, g2, g3⟩ av h hp
  rw [hp.1]
  exact Nat.le_of_ble_eq_true rfl) pf_X5_heir
theorem rc_X5_heir : ∀ g av h, P_X5_heir g av h → ∃ i t, av = .inr (.inr (5, i, 0)) :: t := by
  rintro ⟨g0, g1, g2, g3⟩ av h hp
  exact ⟨_, _, hp.1⟩
def P_X5_chew : Int32 × LD × pm_H → List pm_V → pm_H → Prop := fun g av h => match g with
  | (w, Y, h0) => av = [vR 5 0 0, vI w] ∧ h = h0 ∧ md h0 Y ∧ Y 0 10 ≤ 999
def Q_X5_chew : Int32 × LD × pm_H → Int32 → pm_H → Prop := fun g r h => match g with
  | (w, N, h0) => mf h0 h ∧ r = a_chew N w
def T_X5_chew : List (Nat × pm_T) := [
  (0, i_il 1 1),
  (1, i_i2l 2),
  (2, i_cl (lN 0) 3),
  (3, i_cl (lN 1) 4),
  (4, i_ci 3 P_X5_in Q_X5_in 7),
  (7, i_ifne 12 10),
  (10, i_c (-1) 11),
  (11, i_ir),
  (12, i_c (-1) 13),
  (13, i_is 2 14),
  (14, i_c (nI 0) 15),
  (15, i_is 3 16),
  (16, i_c (nI 20) 18),
  (18, i_is 4 20),
  (20, i_il 4 22),
  (22, i_c (nI 1) 23),
  (23, i_iclt 87 26),
  (26, i_al 0 27),
  (27, i_c (nI 0) 28),
  (28, i_c (nI 245) 31),
  (31, i_cv 3 P_X5_copies Q_X5_copies 34),
  (34, i_al 0 35),
  (35, i_gr 5 (fun i => (5, i, 1)) 38),
  (38, i_c (nI 279) 41),
  (41, i_il 4 43),
  (43, i_c (nI 5) 44),
  (44, i_isub 45),
  (45, i_ias 46),
  (46, i_al 0 47),
  (47, i_c (nI 245) 50),
  (50, i_ci 2 P_X5_answersOf Q_X5_answersOf 53),
  (53, i_is 5 55),
  (55, i_il 5 57),
  (57, i_il 2 58),
  (58, i_icle 66 61),
  (61, i_il 4 63),
  (63, i_go 67),
  (66, i_il 3 67),
  (67, i_is 3 68),
  (68, i_il 5 70),
  (70, i_il 2 71),
  (71, i_icle 79 74),
  (74, i_il 5 76),
  (76, i_go 80),
  (79, i_il 2 80),
  (80, i_is 2 81),
  (81, i_inc 4 (-1) 84),
  (84, i_go 20),
  (87, i_il 1 88),
  (88, i_ifne 95 91),
  (91, i_il 3 92),
  (92, i_go 96),
  (95, i_il 2 96),
  (96, i_ir)]
theorem k_X5_chew : ∀ q ∈ T_X5_chew, pm_sd RX5 cX5_chew 6 7 1 q.1 q.2 := by
  unfold T_X5_chew
  refine pm_cn (sd_iln (k := 1) (by decide +kernel) rfl rfl) ?_
  refine pm_cn (sd_i2l (by decide +kernel) rfl) ?_
  refine pm_cn (sd_lconst (z := 0) (by decide +kernel) (by decide +kernel) rfl) ?_
  refine pm_cn (sd_lconst (z := 1) (by decide +kernel) (by decide +kernel) rfl) ?_
  refine pm_cn (sd_cis M_X5_in (by decide) cd_X5_in ml_X5_46 st_X5_in nt_X5 (by decide +kernel) (by omega) (by decide) (by decide +kernel) rfl) ?_
  refine pm_cn (sd_ifne (off := 5) (by decide +kernel) (by decide) rfl) ?_
  refine pm_cn (sd_iconst (z := -1) (by decide +kernel) (by decide +kernel) rfl) ?_
  refine pm_cn (sd_ir (by decide +kernel)) ?_
  refine pm_cn (sd_iconst (z := -1) (by decide +kernel) (by decide +kernel) rfl) ?_
  refine pm_cn (sd_isn (k := 2) (by decide +kernel) rfl rfl (by decide)) ?_
  refine pm_cn (sd_iconst (z := 0) (by decide +kernel) (by decide +kernel) rfl) ?_
  refine pm_cn (sd_isn (k := 3) (by decide +kernel) rfl rfl (by decide)) ?_
  refine pm_cn (sd_bipush (z := 20) (by decide +kernel) (by decide +kernel) rfl) ?_
  refine pm_cn (sd_is (by decide +kernel) rfl (by decide)) ?_
  refine pm_cn (sd_il (by decide +kernel) rfl) ?_
  refine pm_cn (sd_iconst (z := 1) (by decide +kernel) (by decide +kernel) rfl) ?_
  refine pm_cn (sd_iclt (off := 64) (by decide +kernel) (by decide) rfl) ?_
  refine pm_cn (sd_aln (k := 0) (by decide +kernel) rfl rfl) ?_
  refine pm_cn (sd_iconst (z := 0) (by decide +kernel) (by decide +kernel) rfl) ?_
  refine pm_cn (sd_sipush (z := 245) (by decide +kernel) (by decide +kernel) rfl) ?_
  refine pm_cn (sd_cvv M_X5_copies cd_X5_copies rc_X5_copies cl5_ ml_X5_190 im_X5_copies se_X5_copies nt_X5 (by decide +kernel) (by omega) (by decide) (by decide +kernel) rfl) ?_
  refine pm_cn (sd_aln (k := 0) (by decide +kernel) rfl rfl) ?_
  refine pm_cn (sd_gr cl5_ in5_ (j := 0) (by decide) (fun _ => rfl) fl_X5_7 (by decide +kernel) rfl) ?_
  refine pm_cn (sd_sipush (z := 279) (by decide +kernel) (by decide +kernel) rfl) ?_
  refine pm_cn (sd_il (by decide +kernel) rfl) ?_
  refine pm_cn (sd_iconst (z := 5) (by decide +kernel) (by decide +kernel) rfl) ?_
  refine pm_cn (sd_isub (by decide +kernel) rfl) ?_
  refine pm_cn (sd_ias (by decide +kernel) rfl) ?_
  refine pm_cn (sd_aln (k := 0) (by decide +kernel) rfl rfl) ?_
  refine pm_cn (sd_sipush (z := 245) (by decide +kernel) (by decide +kernel) rfl) ?_
  refine pm_cn (sd_civ M_X5_answersOf (by decide) cd_X5_answersOf rc_X5_answersOf cl5_ ml_X5_205 im_X5_answersOf se_X5_answersOf nt_X5 (by decide +kernel) (by omega) (by decide) (by decide +kernel) rfl) ?_
  refine pm_cn (sd_is (by decide +kernel) rfl (by decide)) ?_
  refine pm_cn (sd_il (by decide +kernel) rfl) ?_
  refine pm_cn (sd_iln (k := 2) (by decide +kernel) rfl rfl) ?_
  refine pm_cn (sd_icle (off := 8) (by decide +kernel) (by decide) rfl) ?_
  refine pm_cn (sd_il (by decide +kernel) rfl) ?_
  refine pm_cn (sd_go (off := 4) (by decide +kernel) (by decide)) ?_
  refine pm_cn (sd_iln (k := 3) (by decide +kernel) rfl rfl) ?_
  refine pm_cn (sd_isn (k := 3) (by decide +kernel) rfl rfl (by decide)) ?_
  refine pm_cn (sd_il (by decide +kernel) rfl) ?_
  refine pm_cn (sd_iln (k := 2) (by decide +kernel) rfl rfl) ?_
  refine pm_cn (sd_icle (off := 8) (by decide +kernel) (by decide) rfl) ?_
  refine pm_cn (sd_il (by decide +kernel) rfl) ?_
  refine pm_cn (sd_go (off := 4) (by decide +kernel) (by decide)) ?_
  refine pm_cn (sd_iln (k := 2) (by decide +kernel) rfl rfl) ?_
  refine pm_cn (sd_isn (k := 2) (by decide +kernel) rfl rfl (by decide)) ?_
  refine pm_cn (sd_inc (z := -1) (by decide +kernel) (by decide +kernel) rfl (by decide)) ?_
  refine pm_cn (sd_go (off := -64) (by decide +kernel) (by decide)) ?_
  refine pm_cn (sd_iln (k := 1) (by decide +kernel) rfl rfl) ?_
  refine pm_cn (sd_ifne (off := 7) (by decide +kernel) (by decide) rfl) ?_
  refine pm_cn (sd_iln (k := 3) (by decide +kernel) rfl rfl) ?_
  refine pm_cn (sd_go (off := 4) (by decide +kernel) (by decide)) ?_
  refine pm_cn (sd_iln (k := 2) (by decide +kernel) rfl rfl) ?_
  refine pm_cn (sd_ir (by decide +kernel)) ?_
  exact fun _ h => absurd h List.not_mem_nil
set_option maxHeartbeats 800000 in
set_option maxRecDepth 100000 in
theorem pf_X5_chew : pm_pf T_X5_chew P_X5_chew (pm_pi Q_X5_chew) := by
  rintro ⟨w, N, h0⟩ av h K hK ⟨rfl, rfl, ⟨hP, wN, hF⟩, hd⟩ hret
  show K (some 0) ([(0, vR 5 0 0), (1, vI w)], [], h)
  refine hK [(20, [0, 1, 2, 3, 4])] 80 _ _ ?_
  conv => whnf
  repeat' (first
    | (refine ⟨fun c9 => ?_, fun c9 => ?_⟩ <;> (try simp (disch := omega) only [nI_leI, nI_ltI, nI_eq, nz_eq, nz_lt, nz_gt, nz_le, nz_ge, nz_00, nz_n1, nI_add, pk_mul, pk_sub, nI_shl1, nI_or, nI_half2, nI_min2, la_put_eq, la_up, lr_same, lr_ne, lu_same, lu_ne, not_true_eq_false, not_false_eq_true] at c9) <;> first | (exfalso; omega) | conv => whnf)
    | (refine ⟨_, rfl, by omega, ?_⟩; conv => whnf)
    | (refine ⟨_, rfl, rfl, rfl, by decide, by decide, ?_⟩; conv => whnf)
    | (refine ⟨_, by (simp (disch := omega) only [nI_leI, nI_ltI, nI_eq, nz_eq, nz_lt, nz_gt, nz_le, nz_ge, nz_00, nz_n1, nI_add, pk_mul, pk_sub, nI_shl1, nI_or, nI_half2, nI_min2, la_put_eq, la_up, lr_same, lr_ne, lu_same, lu_ne, not_true_eq_false, not_false_eq_true]; rfl), by omega, ?_⟩; conv => whnf)
    | (apply And.intro; (first | assumption | decide | (simp (disch := omega) only [nI_leI, nI_ltI, nI_eq, nz_eq, nz_lt, nz_gt, nz_le, nz_ge, nz_00, nz_n1, nI_add, pk_mul, pk_sub, nI_shl1, nI_or, nI_half2, nI_min2, la_put_eq, la_up, lr_same, lr_ne, lu_same, lu_ne, not_true_eq_false, not_false_eq_true]; omega)); conv => whnf))
  all_goals (try simp (disch := omega) only [nI_leI, nI_ltI, nI_eq, nz_eq, nz_lt, nz_gt, nz_le, nz_ge, nz_00, nz_n1, nI_add, pk_mul, pk_sub, nI_shl1, nI_or, nI_half2, nI_min2, la_put_eq, la_up, lr_same, lr_ne, lu_same, lu_ne, not_true_eq_false, not_false_eq_true])
  refine ⟨(w.toInt64, lN 0, lN 1, _), ⟨rfl, rfl⟩, fun v h' hq => ?_⟩
  obtain ⟨rfl, ⟨hw, rfl⟩ | ⟨hc, rfl⟩⟩ := Q_hf hq
  · have loop : ∀ e H p, e ≤ 20 → mf h' H → p = sp_bs (fun k => sp_cnt (lu N 0 9 (20 - k))) (fun k => nI (20 - k)) (nI 0) (20 - e) → K (some 20) ([(0, vR 5 0 0), (1, vI w), (2, vI (sp_m1 p.2)), (3, vI p.1), (4, vI (nI e))], [], H) := by
      intro e
      induction e with
      | zero =>
        intro H p he hH hp
        refine hK [(20, [0, 1, 2, 3, 4])] 60 _ _ ?_
        conv => whnf
        repeat' (first
          | (refine ⟨fun c9 => ?_, fun c9 => ?_⟩ <;> (try simp (disch := omega) only [nI_leI, nI_ltI, nI_eq, nz_eq, nz_lt, nz_gt, nz_le, nz_ge, nz_00, nz_n1, nI_add, pk_mul, pk_sub, nI_shl1, nI_or, nI_half2, nI_min2, la_put_eq, la_up, lr_same, lr_ne, lu_same, lu_ne, not_true_eq_false, not_false_eq_true] at c9) <;> first | (exfalso; omega) | conv => whnf)
          | (refine ⟨_, rfl, by omega, ?_⟩; conv => whnf)
          | (refine ⟨_, rfl, rfl, rfl, by decide, by decide, ?_⟩; conv => whnf)
          | (refine ⟨_, by (simp (disch := omega) only [nI_leI, nI_ltI, nI_eq, nz_eq, nz_lt, nz_gt, nz_le, nz_ge, nz_00, nz_n1, nI_add, pk_mul, pk_sub, nI_shl1, nI_or, nI_half2, nI_min2, la_put_eq, la_up, lr_same, lr_ne, lu_same, lu_ne, not_true_eq_false, not_false_eq_true]; rfl), by omega, ?_⟩; conv => whnf)
          | (apply And.intro; (first | assumption | decide | (simp (disch := omega) only [nI_leI, nI_ltI, nI_eq, nz_eq, nz_lt, nz_gt, nz_le, nz_ge, nz_00, nz_n1, nI_add, pk_mul, pk_sub, nI_shl1, nI_or, nI_half2, nI_min2, la_put_eq, la_up, lr_same, lr_ne, lu_same, lu_ne, not_true_eq_false, not_false_eq_true]; omega)); conv => whnf))
        all_goals (try simp (disch := omega) only [nI_leI, nI_ltI, nI_eq, nz_eq, nz_lt, nz_gt, nz_le, nz_ge, nz_00, nz_n1, nI_add, pk_mul, pk_sub, nI_shl1, nI_or, nI_half2, nI_min2, la_put_eq, la_up, lr_same, lr_ne, lu_same, lu_ne, not_true_eq_false, not_false_eq_true])
        all_goals (refine hret _ _ ⟨hH, ?_⟩; rw [a_chew, ci_t hw, ← hp])
        · rw [if_neg (by assumption)]
        · rw [if_pos (by assumption)]
      | succ e ih =>
        intro H p he hH hp
        have wV : la_ok (lu N 0 9 (e + 1)) := la_ok_lu wN (by unfold la_rel; omega) (by unfold la_bd; omega)
        have e10 : lu N 0 9 (e + 1) 0 10 = N 0 10 := lu_ne (by omega)
        have e00 : lu N 0 9 (e + 1) 0 0 = N 0 0 := lu_ne (by omega)
        have hcl := sp_cnt_le (lu N 0 9 (e + 1))
        have hpl : p.2 ≤ 32 := by rw [hp]; exact sp_bs_le (fun k => sp_cnt_le _) _
        have hst : sp_bs (fun k => sp_cnt (lu N 0 9 (20 - k))) (fun k => nI (20 - k)) (nI 0) (20 - e) = sp_up1 (sp_cnt (lu N 0 9 (e + 1))) (nI (e + 1)) p := by
          rw [show 20 - e = (20 - (e + 1)) + 1 by omega, sp_bs, ← hp, show 20 - (20 - (e + 1)) = e + 1 by omega]
        have hdec : nI (e + 1) + (-1) = nI e := pk_m1 e
        refine hK [(20, [0, 1, 2, 3, 4])] 60 _ _ ?_
        conv => whnf
        repeat' (first
          | (refine ⟨fun c9 => ?_, fun c9 => ?_⟩ <;> (try simp (disch := omega) only [nI_leI, nI_ltI, nI_eq, nz_eq, nz_lt, nz_gt, nz_le, nz_ge, nz_00, nz_n1, nI_add, pk_mul, pk_sub, nI_shl1, nI_or, nI_half2, nI_min2, la_put_eq, la_up, lr_same, lr_ne, lu_same, lu_ne, not_true_eq_false, not_false_eq_true] at c9) <;> first | (exfalso; omega) | conv => whnf)
          | (refine ⟨_, rfl, by omega, ?_⟩; conv => whnf)
          | (refine ⟨_, rfl, rfl, rfl, by decide, by decide, ?_⟩; conv => whnf)
          | (refine ⟨_, by (simp (disch := omega) only [nI_leI, nI_ltI, nI_eq, nz_eq, nz_lt, nz_gt, nz_le, nz_ge, nz_00, nz_n1, nI_add, pk_mul, pk_sub, nI_shl1, nI_or, nI_half2, nI_min2, la_put_eq, la_up, lr_same, lr_ne, lu_same, lu_ne, not_true_eq_false, not_false_eq_true]; rfl), by omega, ?_⟩; conv => whnf)
          | (apply And.intro; (first | assumption | decide | (simp (disch := omega) only [nI_leI, nI_ltI, nI_eq, nz_eq, nz_lt, nz_gt, nz_le, nz_ge, nz_00, nz_n1, nI_add, pk_mul, pk_sub, nI_shl1, nI_or, nI_half2, nI_min2, la_put_eq, la_up, lr_same, lr_ne, lu_same, lu_ne, not_true_eq_false, not_false_eq_true]; omega)); conv => whnf))
        all_goals (try simp (disch := omega) only [nI_leI, nI_ltI, nI_eq, nz_eq, nz_lt, nz_gt, nz_le, nz_ge, nz_00, nz_n1, nI_add, pk_mul, pk_sub, nI_shl1, nI_or, nI_half2, nI_min2, la_put_eq, la_up, lr_same, lr_ne, lu_same, lu_ne, not_true_eq_false, not_false_eq_true])
        refine ⟨(0, 245, N, _), ⟨rfl, rfl, mf_P hH hP, by decide, by decide, by omega⟩, fun h'' hq => ?_⟩
        have hq' : h'' = _ := hq
        subst hq'
        conv => whnf
        repeat' (first
          | (refine ⟨fun c9 => ?_, fun c9 => ?_⟩ <;> (try simp (disch := omega) only [nI_leI, nI_ltI, nI_eq, nz_eq, nz_lt, nz_gt, nz_le, nz_ge, nz_00, nz_n1, nI_add, pk_mul, pk_sub, nI_shl1, nI_or, nI_half2, nI_min2, la_put_eq, la_up, lr_same, lr_ne, lu_same, lu_ne, not_true_eq_false, not_false_eq_true, ou2, ou3, ou4, ou5, ou6, ou7, ou8, ouN, ouD, ouB, ouY, ouQ] at c9) <;> first | (exfalso; omega) | conv => whnf)
          | (refine ⟨_, rfl, by omega, ?_⟩; conv => whnf)
          | (refine ⟨_, rfl, rfl, rfl, by decide, by decide, ?_⟩; conv => whnf)
          | (refine ⟨_, by (simp (disch := omega) only [nI_leI, nI_ltI, nI_eq, nz_eq, nz_lt, nz_gt, nz_le, nz_ge, nz_00, nz_n1, nI_add, pk_mul, pk_sub, nI_shl1, nI_or, nI_half2, nI_min2, la_put_eq, la_up, lr_same, lr_ne, lu_same, lu_ne, not_true_eq_false, not_false_eq_true, ou2, ou3, ou4, ou5, ou6, ou7, ou8, ouN, ouD, ouB, ouY, ouQ]; rfl), by omega, ?_⟩; conv => whnf)
          | (apply And.intro; (first | assumption | decide | (simp (disch := omega) only [nI_leI, nI_ltI, nI_eq, nz_eq, nz_lt, nz_gt, nz_le, nz_ge, nz_00, nz_n1, nI_add, pk_mul, pk_sub, nI_shl1, nI_or, nI_half2, nI_min2, la_put_eq, la_up, lr_same, lr_ne, lu_same, lu_ne, not_true_eq_false, not_false_eq_true, ou2, ou3, ou4, ou5, ou6, ou7, ou8, ouN, ouD, ouB, ouY, ouQ]; omega)); conv => whnf))
        all_goals (try simp (disch := omega) only [nI_leI, nI_ltI, nI_eq, nz_eq, nz_lt, nz_gt, nz_le, nz_ge, nz_00, nz_n1, nI_add, pk_mul, pk_sub, nI_shl1, nI_or, nI_half2, nI_min2, la_put_eq, la_up, lr_same, lr_ne, lu_same, lu_ne, not_true_eq_false, not_false_eq_true, ou2, ou3, ou4, ou5, ou6, ou7, ou8, ouN, ouD, ouB, ouY, ouQ])
        refine ⟨(245, lu N 0 9 (e + 1), _), ⟨rfl, rfl, pg_put_at _ _ _, Or.inr rfl, wV, by omega, by rw [prO, mf_F hH hF, e00]⟩, fun v H2 hq => ?_⟩
        obtain ⟨hq', rfl⟩ := hq
        have hm2 : mf h' H2 := by rw [hq']; exact mf_go (mf_pg hH (by decide))
        clear hq'
        conv => whnf
        repeat' (first
          | (refine ⟨fun c9 => ?_, fun c9 => ?_⟩ <;> (try simp (disch := omega) only [nI_leI, nI_ltI, nI_eq, nz_eq, nz_lt, nz_gt, nz_le, nz_ge, nz_00, nz_n1, nI_add, pk_mul, pk_sub, nI_shl1, nI_or, nI_half2, nI_min2, la_put_eq, la_up, lr_same, lr_ne, lu_same, lu_ne, not_true_eq_false, not_false_eq_true, m1_le, hdec] at c9) <;> first | (exfalso; omega) | conv => whnf)
          | (refine ⟨_, rfl, by omega, ?_⟩; conv => whnf)
          | (refine ⟨_, rfl, rfl, rfl, by decide, by decide, ?_⟩; conv => whnf)
          | (refine ⟨_, by (simp (disch := omega) only [nI_leI, nI_ltI, nI_eq, nz_eq, nz_lt, nz_gt, nz_le, nz_ge, nz_00, nz_n1, nI_add, pk_mul, pk_sub, nI_shl1, nI_or, nI_half2, nI_min2, la_put_eq, la_up, lr_same, lr_ne, lu_same, lu_ne, not_true_eq_false, not_false_eq_true, m1_le, hdec]; rfl), by omega, ?_⟩; conv => whnf)
          | (apply And.intro; (first | assumption | decide | (simp (disch := omega) only [nI_leI, nI_ltI, nI_eq, nz_eq, nz_lt, nz_gt, nz_le, nz_ge, nz_00, nz_n1, nI_add, pk_mul, pk_sub, nI_shl1, nI_or, nI_half2, nI_min2, la_put_eq, la_up, lr_same, lr_ne, lu_same, lu_ne, not_true_eq_false, not_false_eq_true, m1_le, hdec]; omega)); conv => whnf))
        all_goals (try simp (disch := omega) only [nI_leI, nI_ltI, nI_eq, nz_eq, nz_lt, nz_gt, nz_le, nz_ge, nz_00, nz_n1, nI_add, pk_mul, pk_sub, nI_shl1, nI_or, nI_half2, nI_min2, la_put_eq, la_up, lr_same, lr_ne, lu_same, lu_ne, not_true_eq_false, not_false_eq_true, m1_le, hdec])
        · refine ih H2 p (by omega) hm2 ?_
          rw [hst, sp_up1_f (by omega)]
        · have := ih H2 (nI (e + 1), sp_cnt (lu N 0 9 (e + 1)) + 1) (by omega) hm2 (by rw [hst, sp_up1_t (by omega)])
          rw [m1_s] at this
          exact this
    conv => whnf
    repeat' (first
      | (refine ⟨fun c9 => ?_, fun c9 => ?_⟩ <;> (try simp (disch := omega) only [nI_leI, nI_ltI, nI_eq, nz_eq, nz_lt, nz_gt, nz_le, nz_ge, nz_00, nz_n1, nI_add, pk_mul, pk_sub, nI_shl1, nI_or, nI_half2, nI_min2, la_put_eq, la_up, lr_same, lr_ne, lu_same, lu_ne, not_true_eq_false, not_false_eq_true] at c9) <;> first | (exfalso; omega) | conv => whnf)
      | (refine ⟨_, rfl, by omega, ?_⟩; conv => whnf)
      | (refine ⟨_, rfl, rfl, rfl, by decide, by decide, ?_⟩; conv => whnf)
      | (refine ⟨_, by (simp (disch := omega) only [nI_leI, nI_ltI, nI_eq, nz_eq, nz_lt, nz_gt, nz_le, nz_ge, nz_00, nz_n1, nI_add, pk_mul, pk_sub, nI_shl1, nI_or, nI_half2, nI_min2, la_put_eq, la_up, lr_same, lr_ne, lu_same, lu_ne, not_true_eq_false, not_false_eq_true]; rfl), by omega, ?_⟩; conv => whnf)
      | (apply And.intro; (first | assumption | decide | (simp (disch := omega) only [nI_leI, nI_ltI, nI_eq, nz_eq, nz_lt, nz_gt, nz_le, nz_ge, nz_00, nz_n1, nI_add, pk_mul, pk_sub, nI_shl1, nI_or, nI_half2, nI_min2, la_put_eq, la_up, lr_same, lr_ne, lu_same, lu_ne, not_true_eq_false, not_false_eq_true]; omega)); conv => whnf))
    all_goals (try simp (disch := omega) only [nI_leI, nI_ltI, nI_eq, nz_eq, nz_lt, nz_gt, nz_le, nz_ge, nz_00, nz_n1, nI_add, pk_mul, pk_sub, nI_shl1, nI_or, nI_half2, nI_min2, la_put_eq, la_up, lr_same, lr_ne, lu_same, lu_ne, not_true_eq_false, not_false_eq_true])
    exact loop 20 h' (nI 0, 0) (by omega) (mf_self _) rfl
  · conv => whnf
    repeat' (first
      | (refine ⟨fun c9 => ?_, fun c9 => ?_⟩ <;> (try simp (disch := omega) only [nI_leI, nI_ltI, nI_eq, nz_eq, nz_lt, nz_gt, nz_le, nz_ge, nz_00, nz_n1, nI_add, pk_mul, pk_sub, nI_shl1, nI_or, nI_half2, nI_min2, la_put_eq, la_up, lr_same, lr_ne, lu_same, lu_ne, not_true_eq_false, not_false_eq_true] at c9) <;> first | (exfalso; omega) | conv => whnf)
      | (refine ⟨_, rfl, by omega, ?_⟩; conv => whnf)
      | (refine ⟨_, rfl, rfl, rfl, by decide, by decide, ?_⟩; conv => whnf)
      | (refine ⟨_, by (simp (disch := omega) only [nI_leI, nI_ltI, nI_eq, nz_eq, nz_lt, nz_gt, nz_le, nz_ge, nz_00, nz_n1, nI_add, pk_mul, pk_sub, nI_shl1, nI_or, nI_half2, nI_min2, la_put_eq, la_up, lr_same, lr_ne, lu_same, lu_ne, not_true_eq_false, not_false_eq_true]; rfl), by omega, ?_⟩; conv => whnf)
      | (apply And.intro; (first | assumption | decide | (simp (disch := omega) only [nI_leI, nI_ltI, nI_eq, nz_eq, nz_lt, nz_gt, nz_le, nz_ge, nz_00, nz_n1, nI_add, pk_mul, pk_sub, nI_shl1, nI_or, nI_half2, nI_min2, la_put_eq, la_up, lr_same, lr_ne, lu_same, lu_ne, not_true_eq_false, not_false_eq_true]; omega)); conv => whnf))
    all_goals (try simp (disch := omega) only [nI_leI, nI_ltI, nI_eq, nz_eq, nz_lt, nz_gt, nz_le, nz_ge, nz_00, nz_n1, nI_add, pk_mul, pk_sub, nI_shl1, nI_or, nI_half2, nI_min2, la_put_eq, la_up, lr_same, lr_ne, lu_same, lu_ne, not_true_eq_false, not_false_eq_true])
    refine hret _ _ ⟨mf_self _, ?_⟩
    rw [a_chew, ci_f hc]
theorem M_X5_chew : pm_MT yX5_chew cX5_chew 6 1 7 P_X5_chew (pm_pi Q_X5_chew) := pm_met k_X5_chew (by decide) rfl (by
  rintro ⟨g0, g1, g2⟩ av h hp
  rw [hp.1]
  exact Nat.le_of_ble_eq_true rfl) pf_X5_chew
theorem rc_X5_chew : ∀ g av h, P_X5_chew g av h → ∃ i t, av = .inr (.inr (5, i, 0)) :: t := by
  rintro ⟨g0, g1, g2⟩ av h hp
  exact ⟨_, _, hp.1⟩
def P_X5_wise : Int32 × Int32 × LD × pm_H → List pm_V → pm_H → Prop := fun g av h => match g with
  | (n, w, Y, h0) => av = [vR 5 0 0, vI n, vI w] ∧ h = h0 ∧ md h0 Y ∧ Y 0 10 ≤ 999
def Q_X5_wise : Int32 × Int32 × LD × pm_H → Int32 → pm_H → Prop := fun g r h => match g with
  | (n, w, N, h0) => mf h0 h ∧ r = a_wise N n w
def T_X5_wise : List (Nat × pm_T) := [
  (0, i_il 1 1),
  (1, i_i2l 2),
  (2, i_cl (lN 0) 3),
  (3, i_cl (lN 60) 6),
  (6, i_ci 3 P_X5_in Q_X5_in 9),
  (9, i_ifeq 22 12),
  (12, i_il 2 13),
  (13, i_i2l 14),
  (14, i_cl (lN 0) 15),
  (15, i_cl (lN 1) 16),
  (16, i_ci 3 P_X5_in Q_X5_in 19),
  (19, i_ifne 24 22),
  (22, i_c (-1) 23),
  (23, i_ir),
  (24, i_al 0 25),
  (25, i_c (nI 0) 26),
  (26, i_il 1 27),
  (27, i_cv 3 P_X5_daysGo Q_X5_daysGo 30),
  (30, i_c (-1) 31),
  (31, i_is 3 32),
  (32, i_c (-4) 34),
  (34, i_is 4 36),
  (36, i_c (nI 0) 37),
  (37, i_is 5 39),
  (39, i_il 5 41),
  (41, i_al 0 42),
  (42, i_gi 5 1 45),
  (45, i_icge 96 48),
  (48, i_al 0 49),
  (49, i_c (nI 196) 52),
  (52, i_il 5 54),
  (54, i_ci 3 P_X5_subjectsOn Q_X5_subjectsOn 57),
  (57, i_ci 1 P_X5_bitsOf Q_X5_bitsOf 60),
  (60, i_is 6 62),
  (62, i_il 6 64),
  (64, i_il 3 65),
  (65, i_icle 73 68),
  (68, i_il 5 70),
  (70, i_go 75),
  (73, i_il 4 75),
  (75, i_is 4 77),
  (77, i_il 6 79),
  (79, i_il 3 80),
  (80, i_icle 88 83),
  (83, i_il 6 85),
  (85, i_go 89),
  (88, i_il 3 89),
  (89, i_is 3 90),
  (90, i_inc 5 (nI 1) 93),
  (93, i_go 39),
  (96, i_il 4 98),
  (98, i_c (-4) 100),
  (100, i_iceq 107 103),
  (103, i_il 2 104),
  (104, i_ifne 112 107),
  (107, i_il 4 109),
  (109, i_go 113),
  (112, i_il 3 113),
  (113, i_ir)]
theorem k_X5_wise : ∀ q ∈ T_X5_wise, pm_sd RX5 cX5_wise 7 6 1 q.1 q.2 := by
  unfold T_X5_wise
  refine pm_cn (sd_iln (k := 1) (by decide +kernel) rfl rfl) ?_
  refine pm_cn (sd_i2l (by decide +kernel) rfl) ?_
  refine pm_cn (sd_lconst (z := 0) (by decide +kernel) (by decide +kernel) rfl) ?_
  refine pm_cn (sd_ldc2 (k := 194) (by decide +kernel) (pm_tin (by decide +kernel) rfl) rfl) ?_
  refine pm_cn (sd_cis M_X5_in (by decide) cd_X5_in ml_X5_46 st_X5_in nt_X5 (by decide +kernel) (by omega) (by decide) (by decide +kernel) rfl) ?_
  refine pm_cn (sd_ifeq (off := 13) (by decide +kernel) (by decide) rfl) ?_
  refine pm_cn (sd_iln (k := 2) (by decide +kernel) rfl rfl) ?_
  refine pm_cn (sd_i2l (by decide +kernel) rfl) ?_
  refine pm_cn (sd_lconst (z := 0) (by decide +kernel) (by decide +kernel) rfl) ?_
  refine pm_cn (sd_lconst (z := 1) (by decide +kernel) (by decide +kernel) rfl) ?_
  refine pm_cn (sd_cis M_X5_in (by decide) cd_X5_in ml_X5_46 st_X5_in nt_X5 (by decide +kernel) (by omega) (by decide) (by decide +kernel) rfl) ?_
  refine pm_cn (sd_ifne (off := 5) (by decide +kernel) (by decide) rfl) ?_
  refine pm_cn (sd_iconst (z := -1) (by decide +kernel) (by decide +kernel) rfl) ?_
  refine pm_cn (sd_ir (by decide +kernel)) ?_
  refine pm_cn (sd_aln (k := 0) (by decide +kernel) rfl rfl) ?_
  refine pm_cn (sd_iconst (z := 0) (by decide +kernel) (by decide +kernel) rfl) ?_
  refine pm_cn (sd_iln (k := 1) (by decide +kernel) rfl rfl) ?_
  refine pm_cn (sd_cvv M_X5_daysGo cd_X5_daysGo rc_X5_daysGo cl5_ ml_X5_196 im_X5_daysGo se_X5_daysGo nt_X5 (by decide +kernel) (by omega) (by decide) (by decide +kernel) rfl) ?_
  refine pm_cn (sd_iconst (z := -1) (by decide +kernel) (by decide +kernel) rfl) ?_
  refine pm_cn (sd_isn (k := 3) (by decide +kernel) rfl rfl (by decide)) ?_
  refine pm_cn (sd_bipush (z := -4) (by decide +kernel) (by decide +kernel) rfl) ?_
  refine pm_cn (sd_is (by decide +kernel) rfl (by decide)) ?_
  refine pm_cn (sd_iconst (z := 0) (by decide +kernel) (by decide +kernel) rfl) ?_
  refine pm_cn (sd_is (by decide +kernel) rfl (by decide)) ?_
  refine pm_cn (sd_il (by decide +kernel) rfl) ?_
  refine pm_cn (sd_aln (k := 0) (by decide +kernel) rfl rfl) ?_
  refine pm_cn (sd_gi cl5_ in5_ (by decide) (fun _ => rfl) fl_X5_126 (by decide +kernel) rfl) ?_
  refine pm_cn (sd_icge (off := 51) (by decide +kernel) (by decide) rfl) ?_
  refine pm_cn (sd_aln (k := 0) (by decide +kernel) rfl rfl) ?_
  refine pm_cn (sd_sipush (z := 196) (by decide +kernel) (by decide +kernel) rfl) ?_
  refine pm_cn (sd_il (by decide +kernel) rfl) ?_
  refine pm_cn (sd_civ M_X5_subjectsOn (by decide) cd_X5_subjectsOn rc_X5_subjectsOn cl5_ ml_X5_134 im_X5_subjectsOn se_X5_subjectsOn nt_X5 (by decide +kernel) (by omega) (by decide) (by decide +kernel) rfl) ?_
  refine pm_cn (sd_cis M_X5_bitsOf (by decide) cd_X5_bitsOf ml_X5_202 st_X5_bitsOf nt_X5 (by decide +kernel) (by omega) (by decide) (by decide +kernel) rfl) ?_
  refine pm_cn (sd_is (by decide +kernel) rfl (by decide)) ?_
  refine pm_cn (sd_il (by decide +kernel) rfl) ?_
  refine pm_cn (sd_iln (k := 3) (by decide +kernel) rfl rfl) ?_
  refine pm_cn (sd_icle (off := 8) (by decide +kernel) (by decide) rfl) ?_
  refine pm_cn (sd_il (by decide +kernel) rfl) ?_
  refine pm_cn (sd_go (off := 5) (by decide +kernel) (by decide)) ?_
  refine pm_cn (sd_il (by decide +kernel) rfl) ?_
  refine pm_cn (sd_is (by decide +kernel) rfl (by decide)) ?_
  refine pm_cn (sd_il (by decide +kernel) rfl) ?_
  refine pm_cn (sd_iln (k := 3) (by decide +kernel) rfl rfl) ?_
  refine pm_cn (sd_icle (off := 8) (by decide +kernel) (by decide) rfl) ?_
  refine pm_cn (sd_il (by decide +kernel) rfl) ?_
  refine pm_cn (sd_go (off := 4) (by decide +kernel) (by decide)) ?_
  refine pm_cn (sd_iln (k := 3) (by decide +kernel) rfl rfl) ?_
  refine pm_cn (sd_isn (k := 3) (by decide +kernel) rfl rfl (by decide)) ?_
  refine pm_cn (sd_inc (z := 1) (by decide +kernel) (by decide +kernel) rfl (by decide)) ?_
  refine pm_cn (sd_go (off := -54) (by decide +kernel) (by decide)) ?_
  refine pm_cn (sd_il (by decide +kernel) rfl) ?_
  refine pm_cn (sd_bipush (z := -4) (by decide +kernel) (by decide +kernel) rfl) ?_
  refine pm_cn (sd_iceq (off := 7) (by decide +kernel) (by decide) rfl) ?_
  refine pm_cn (sd_iln (k := 2) (by decide +kernel) rfl rfl) ?_
  refine pm_cn (sd_ifne (off := 8) (by decide +kernel) (by decide) rfl) ?_
  refine pm_cn (sd_il (by decide +kernel) rfl) ?_
  refine pm_cn (sd_go (off := 4) (by decide +kernel) (by decide)) ?_
  refine pm_cn (sd_iln (k := 3) (by decide +kernel) rfl rfl) ?_
  refine pm_cn (sd_ir (by decide +kernel)) ?_
  exact fun _ h => absurd h List.not_mem_nil
set_option maxHeartbeats 800000 in
set_option maxRecDepth 100000 in
theorem pf_X5_wise : pm_pf T_X5_wise P_X5_wise (pm_pi Q_X5_wise) := by
  rintro ⟨n, w, N, h0⟩ av h K hK ⟨rfl, rfl, ⟨hP, wN, hF⟩, hd⟩ hret
  have w1 := wN.1
  show K (some 0) ([(0, vR 5 0 0), (1, vI n), (2, vI w)], [], h)
  refine hK [(39, [0, 2, 3, 4, 5])] 80 _ _ ?_
  conv => whnf
  repeat' (first
    | (refine ⟨fun c9 => ?_, fun c9 => ?_⟩ <;> (try simp (disch := omega) only [nI_leI, nI_ltI, nI_eq, nz_eq, nz_lt, nz_gt, nz_le, nz_ge, nz_00, nz_n1, nI_add, pk_mul, pk_sub, nI_shl1, nI_or, nI_half2, nI_min2, la_put_eq, la_up, lr_same, lr_ne, lu_same, lu_ne, not_true_eq_false, not_false_eq_true] at c9) <;> first | (exfalso; omega) | conv => whnf)
    | (refine ⟨_, rfl, by omega, ?_⟩; conv => whnf)
    | (refine ⟨_, rfl, rfl, rfl, by decide, by decide, ?_⟩; conv => whnf)
    | (refine ⟨_, by (simp (disch := omega) only [nI_leI, nI_ltI, nI_eq, nz_eq, nz_lt, nz_gt, nz_le, nz_ge, nz_00, nz_n1, nI_add, pk_mul, pk_sub, nI_shl1, nI_or, nI_half2, nI_min2, la_put_eq, la_up, lr_same, lr_ne, lu_same, lu_ne, not_true_eq_false, not_false_eq_true]; rfl), by omega, ?_⟩; conv => whnf)
    | (apply And.intro; (first | assumption | decide | (simp (disch := omega) only [nI_leI, nI_ltI, nI_eq, nz_eq, nz_lt, nz_gt, nz_le, nz_ge, nz_00, nz_n1, nI_add, pk_mul, pk_sub, nI_shl1, nI_or, nI_half2, nI_min2, la_put_eq, la_up, lr_same, lr_ne, lu_same, lu_ne, not_true_eq_false, not_false_eq_true]; omega)); conv => whnf))
  all_goals (try simp (disch := omega) only [nI_leI, nI_ltI, nI_eq, nz_eq, nz_lt, nz_gt, nz_le, nz_ge, nz_00, nz_n1, nI_add, pk_mul, pk_sub, nI_shl1, nI_or, nI_half2, nI_min2, la_put_eq, la_up, lr_same, lr_ne, lu_same, lu_ne, not_true_eq_false, not_false_eq_true])
  refine ⟨(n.toInt64, lN 0, lN 60, _), ⟨rfl, rfl⟩, fun v h' hq => ?_⟩
  obtain ⟨rfl, ⟨hn, rfl⟩ | ⟨hc, rfl⟩⟩ := Q_in (by decide) (by decide) hq
  · conv => whnf
    repeat' (first
      | (refine ⟨fun c9 => ?_, fun c9 => ?_⟩ <;> (try simp (disch := omega) only [nI_leI, nI_ltI, nI_eq, nz_eq, nz_lt, nz_gt, nz_le, nz_ge, nz_00, nz_n1, nI_add, pk_mul, pk_sub, nI_shl1, nI_or, nI_half2, nI_min2, la_put_eq, la_up, lr_same, lr_ne, lu_same, lu_ne, not_true_eq_false, not_false_eq_true] at c9) <;> first | (exfalso; omega) | conv => whnf)
      | (refine ⟨_, rfl, by omega, ?_⟩; conv => whnf)
      | (refine ⟨_, rfl, rfl, rfl, by decide, by decide, ?_⟩; conv => whnf)
      | (refine ⟨_, by (simp (disch := omega) only [nI_leI, nI_ltI, nI_eq, nz_eq, nz_lt, nz_gt, nz_le, nz_ge, nz_00, nz_n1, nI_add, pk_mul, pk_sub, nI_shl1, nI_or, nI_half2, nI_min2, la_put_eq, la_up, lr_same, lr_ne, lu_same, lu_ne, not_true_eq_false, not_false_eq_true]; rfl), by omega, ?_⟩; conv => whnf)
      | (apply And.intro; (first | assumption | decide | (simp (disch := omega) only [nI_leI, nI_ltI, nI_eq, nz_eq, nz_lt, nz_gt, nz_le, nz_ge, nz_00, nz_n1, nI_add, pk_mul, pk_sub, nI_shl1, nI_or, nI_half2, nI_min2, la_put_eq, la_up, lr_same, lr_ne, lu_same, lu_ne, not_true_eq_false, not_false_eq_true]; omega)); conv => whnf))
    all_goals (try simp (disch := omega) only [nI_leI, nI_ltI, nI_eq, nz_eq, nz_lt, nz_gt, nz_le, nz_ge, nz_00, nz_n1, nI_add, pk_mul, pk_sub, nI_shl1, nI_or, nI_half2, nI_min2, la_put_eq, la_up, lr_same, lr_ne, lu_same, lu_ne, not_true_eq_false, not_false_eq_true])
    refine ⟨(w.toInt64, lN 0, lN 1, _), ⟨rfl, rfl⟩, fun v h' hq => ?_⟩
    obtain ⟨rfl, ⟨hw, rfl⟩ | ⟨hc, rfl⟩⟩ := Q_hf hq
    · obtain ⟨m, m1, m2, rfl⟩ := id hn
      have hv : ixv (nI m) = m := ixv_nI (by omega)
      have wX := la_ok_lives wN m (by omega)
      have loop : ∀ n k p H, k + n = N 0 0 → mf h' H → pg_at H 196 (sp_lives N m) → p = sp_bs (fun k => sp_pop (sp_lore (sp_lives N m) k)) nI (-4) k → K (some 39) ([(0, vR 5 0 0), (2, vI w), (3, vI (sp_m1 p.2)), (4, vI p.1), (5, vI (nI k))], [], H) := by
        intro n
        induction n with
        | zero =>
          intro k p H he hH hT hp
          have : k = N 0 0 := by omega
          subst this
          subst hp
          have eF := mf_F hH hF
          refine hK [(39, [0, 2, 3, 4, 5])] 60 _ _ ?_
          conv => whnf
          repeat' (first
            | (refine ⟨fun c9 => ?_, fun c9 => ?_⟩ <;> (try simp (disch := omega) only [nI_leI, nI_ltI, nI_eq, nz_eq, nz_lt, nz_gt, nz_le, nz_ge, nz_00, nz_n1, nI_add, pk_mul, pk_sub, nI_shl1, nI_or, nI_half2, nI_min2, la_put_eq, la_up, lr_same, lr_ne, lu_same, lu_ne, not_true_eq_false, not_false_eq_true, eF] at c9) <;> first | (exfalso; omega) | conv => whnf)
            | (refine ⟨_, rfl, by omega, ?_⟩; conv => whnf)
            | (refine ⟨_, rfl, rfl, rfl, by decide, by decide, ?_⟩; conv => whnf)
            | (refine ⟨_, by (simp (disch := omega) only [nI_leI, nI_ltI, nI_eq, nz_eq, nz_lt, nz_gt, nz_le, nz_ge, nz_00, nz_n1, nI_add, pk_mul, pk_sub, nI_shl1, nI_or, nI_half2, nI_min2, la_put_eq, la_up, lr_same, lr_ne, lu_same, lu_ne, not_true_eq_false, not_false_eq_true, eF]; rfl), by omega, ?_⟩; conv => whnf)
            | (apply And.intro; (first | assumption | decide | (simp (disch := omega) only [nI_leI, nI_ltI, nI_eq, nz_eq, nz_lt, nz_gt, nz_le, nz_ge, nz_00, nz_n1, nI_add, pk_mul, pk_sub, nI_shl1, nI_or, nI_half2, nI_min2, la_put_eq, la_up, lr_same, lr_ne, lu_same, lu_ne, not_true_eq_false, not_false_eq_true, eF]; omega)); conv => whnf))
          all_goals (try simp (disch := omega) only [nI_leI, nI_ltI, nI_eq, nz_eq, nz_lt, nz_gt, nz_le, nz_ge, nz_00, nz_n1, nI_add, pk_mul, pk_sub, nI_shl1, nI_or, nI_half2, nI_min2, la_put_eq, la_up, lr_same, lr_ne, lu_same, lu_ne, not_true_eq_false, not_false_eq_true, eF])
          all_goals (refine hret _ _ ⟨hH, ?_⟩; rw [a_wise, ci_t ⟨hn, hw⟩, hv, hlf])
          · by_cases q : w = nI 0
            · rw [if_pos q]
            · rw [if_neg q, if_pos (by assumption)]
          · rw [if_neg (by assumption), if_neg (by assumption)]
          · rw [if_pos (by assumption)]
        | succ n ih =>
          intro k p H he hH hT hp
          have hll := sp_lore_lt wX k
          have hcl : sp_pop (sp_lore (sp_lives N m) k) ≤ 31 := sp_popF_le 31 _
          have hpl : p.2 ≤ 32 := by rw [hp]; exact sp_bs_le (fun k => sp_popF_le 31 _) _
          have hst : sp_bs (fun k => sp_pop (sp_lore (sp_lives N m) k)) nI (-4) (k + 1) = sp_up1 (sp_pop (sp_lore (sp_lives N m) k)) (nI k) p := by
            rw [sp_bs, ← hp]
          have eF := mf_F hH hF
          refine hK [(39, [0, 2, 3, 4, 5])] 60 _ _ ?_
          conv => whnf
          repeat' (first
            | (refine ⟨fun c9 => ?_, fun c9 => ?_⟩ <;> (try simp (disch := omega) only [nI_leI, nI_ltI, nI_eq, nz_eq, nz_lt, nz_gt, nz_le, nz_ge, nz_00, nz_n1, nI_add, pk_mul, pk_sub, nI_shl1, nI_or, nI_half2, nI_min2, la_put_eq, la_up, lr_same, lr_ne, lu_same, lu_ne, not_true_eq_false, not_false_eq_true, eF] at c9) <;> first | (exfalso; omega) | conv => whnf)
            | (refine ⟨_, rfl, by omega, ?_⟩; conv => whnf)
            | (refine ⟨_, rfl, rfl, rfl, by decide, by decide, ?_⟩; conv => whnf)
            | (refine ⟨_, by (simp (disch := omega) only [nI_leI, nI_ltI, nI_eq, nz_eq, nz_lt, nz_gt, nz_le, nz_ge, nz_00, nz_n1, nI_add, pk_mul, pk_sub, nI_shl1, nI_or, nI_half2, nI_min2, la_put_eq, la_up, lr_same, lr_ne, lu_same, lu_ne, not_true_eq_false, not_false_eq_true, eF]; rfl), by omega, ?_⟩; conv => whnf)
            | (apply And.intro; (first | assumption | decide | (simp (disch := omega) only [nI_leI, nI_ltI, nI_eq, nz_eq, nz_lt, nz_gt, nz_le, nz_ge, nz_00, nz_n1, nI_add, pk_mul, pk_sub, nI_shl1, nI_or, nI_half2, nI_min2, la_put_eq, la_up, lr_same, lr_ne, lu_same, lu_ne, not_true_eq_false, not_false_eq_true, eF]; omega)); conv => whnf))
          all_goals (try simp (disch := omega) only [nI_leI, nI_ltI, nI_eq, nz_eq, nz_lt, nz_gt, nz_le, nz_ge, nz_00, nz_n1, nI_add, pk_mul, pk_sub, nI_shl1, nI_or, nI_half2, nI_min2, la_put_eq, la_up, lr_same, lr_ne, lu_same, lu_ne, not_true_eq_false, not_false_eq_true, eF])
          refine ⟨(196, true, k, sp_lives N m, _), ⟨rfl, rfl, hT, by decide, wX, by omega⟩, fun v h'' hq => ?_⟩
          obtain ⟨rfl, rfl⟩ := hq
          rw [sp_sub_t]
          conv => whnf
          repeat' (first
            | (refine ⟨fun c9 => ?_, fun c9 => ?_⟩ <;> (try simp (disch := omega) only [nI_leI, nI_ltI, nI_eq, nz_eq, nz_lt, nz_gt, nz_le, nz_ge, nz_00, nz_n1, nI_add, pk_mul, pk_sub, nI_shl1, nI_or, nI_half2, nI_min2, la_put_eq, la_up, lr_same, lr_ne, lu_same, lu_ne, not_true_eq_false, not_false_eq_true] at c9) <;> first | (exfalso; omega) | conv => whnf)
            | (refine ⟨_, rfl, by omega, ?_⟩; conv => whnf)
            | (refine ⟨_, rfl, rfl, rfl, by decide, by decide, ?_⟩; conv => whnf)
            | (refine ⟨_, by (simp (disch := omega) only [nI_leI, nI_ltI, nI_eq, nz_eq, nz_lt, nz_gt, nz_le, nz_ge, nz_00, nz_n1, nI_add, pk_mul, pk_sub, nI_shl1, nI_or, nI_half2, nI_min2, la_put_eq, la_up, lr_same, lr_ne, lu_same, lu_ne, not_true_eq_false, not_false_eq_true]; rfl), by omega, ?_⟩; conv => whnf)
            | (apply And.intro; (first | assumption | decide | (simp (disch := omega) only [nI_leI, nI_ltI, nI_eq, nz_eq, nz_lt, nz_gt, nz_le, nz_ge, nz_00, nz_n1, nI_add, pk_mul, pk_sub, nI_shl1, nI_or, nI_half2, nI_min2, la_put_eq, la_up, lr_same, lr_ne, lu_same, lu_ne, not_true_eq_false, not_false_eq_true]; omega)); conv => whnf))
          all_goals (try simp (disch := omega) only [nI_leI, nI_ltI, nI_eq, nz_eq, nz_lt, nz_gt, nz_le, nz_ge, nz_00, nz_n1, nI_add, pk_mul, pk_sub, nI_shl1, nI_or, nI_half2, nI_min2, la_put_eq, la_up, lr_same, lr_ne, lu_same, lu_ne, not_true_eq_false, not_false_eq_true])
          refine ⟨(sp_lore (sp_lives N m) k, _), ⟨rfl, rfl, hll⟩, fun v h'' hq => ?_⟩
          obtain ⟨rfl, rfl⟩ := hq
          conv => whnf
          repeat' (first
            | (refine ⟨fun c9 => ?_, fun c9 => ?_⟩ <;> (try simp (disch := omega) only [nI_leI, nI_ltI, nI_eq, nz_eq, nz_lt, nz_gt, nz_le, nz_ge, nz_00, nz_n1, nI_add, pk_mul, pk_sub, nI_shl1, nI_or, nI_half2, nI_min2, la_put_eq, la_up, lr_same, lr_ne, lu_same, lu_ne, not_true_eq_false, not_false_eq_true, m1_le] at c9) <;> first | (exfalso; omega) | conv => whnf)
            | (refine ⟨_, rfl, by omega, ?_⟩; conv => whnf)
            | (refine ⟨_, rfl, rfl, rfl, by decide, by decide, ?_⟩; conv => whnf)
            | (refine ⟨_, by (simp (disch := omega) only [nI_leI, nI_ltI, nI_eq, nz_eq, nz_lt, nz_gt, nz_le, nz_ge, nz_00, nz_n1, nI_add, pk_mul, pk_sub, nI_shl1, nI_or, nI_half2, nI_min2, la_put_eq, la_up, lr_same, lr_ne, lu_same, lu_ne, not_true_eq_false, not_false_eq_true, m1_le]; rfl), by omega, ?_⟩; conv => whnf)
            | (apply And.intro; (first | assumption | decide | (simp (disch := omega) only [nI_leI, nI_ltI, nI_eq, nz_eq, nz_lt, nz_gt, nz_le, nz_ge, nz_00, nz_n1, nI_add, pk_mul, pk_sub, nI_shl1, nI_or, nI_half2, nI_min2, la_put_eq, la_up, lr_same, lr_ne, lu_same, lu_ne, not_true_eq_false, not_false_eq_true, m1_le]; omega)); conv => whnf))
          all_goals (try simp (disch := omega) only [nI_leI, nI_ltI, nI_eq, nz_eq, nz_lt, nz_gt, nz_le, nz_ge, nz_00, nz_n1, nI_add, pk_mul, pk_sub, nI_shl1, nI_or, nI_half2, nI_min2, la_put_eq, la_up, lr_same, lr_ne, lu_same, lu_ne, not_true_eq_false, not_false_eq_true, m1_le])
          · refine ih (k + 1) p _ (by omega) hH hT ?_
            rw [hst, sp_up1_f (by omega)]
          · have := ih (k + 1) (nI k, sp_pop (sp_lore (sp_lives N m) k) + 1) _ (by omega) hH hT (by rw [hst, sp_up1_t (by omega)])
            rw [m1_s] at this
            exact this
      conv => whnf
      repeat' (first
        | (refine ⟨fun c9 => ?_, fun c9 => ?_⟩ <;> (try simp (disch := omega) only [nI_leI, nI_ltI, nI_eq, nz_eq, nz_lt, nz_gt, nz_le, nz_ge, nz_00, nz_n1, nI_add, pk_mul, pk_sub, nI_shl1, nI_or, nI_half2, nI_min2, la_put_eq, la_up, lr_same, lr_ne, lu_same, lu_ne, not_true_eq_false, not_false_eq_true] at c9) <;> first | (exfalso; omega) | conv => whnf)
        | (refine ⟨_, rfl, by omega, ?_⟩; conv => whnf)
        | (refine ⟨_, rfl, rfl, rfl, by decide, by decide, ?_⟩; conv => whnf)
        | (refine ⟨_, by (simp (disch := omega) only [nI_leI, nI_ltI, nI_eq, nz_eq, nz_lt, nz_gt, nz_le, nz_ge, nz_00, nz_n1, nI_add, pk_mul, pk_sub, nI_shl1, nI_or, nI_half2, nI_min2, la_put_eq, la_up, lr_same, lr_ne, lu_same, lu_ne, not_true_eq_false, not_false_eq_true]; rfl), by omega, ?_⟩; conv => whnf)
        | (apply And.intro; (first | assumption | decide | (simp (disch := omega) only [nI_leI, nI_ltI, nI_eq, nz_eq, nz_lt, nz_gt, nz_le, nz_ge, nz_00, nz_n1, nI_add, pk_mul, pk_sub, nI_shl1, nI_or, nI_half2, nI_min2, la_put_eq, la_up, lr_same, lr_ne, lu_same, lu_ne, not_true_eq_false, not_false_eq_true]; omega)); conv => whnf))
      all_goals (try simp (disch := omega) only [nI_leI, nI_ltI, nI_eq, nz_eq, nz_lt, nz_gt, nz_le, nz_ge, nz_00, nz_n1, nI_add, pk_mul, pk_sub, nI_shl1, nI_or, nI_half2, nI_min2, la_put_eq, la_up, lr_same, lr_ne, lu_same, lu_ne, not_true_eq_false, not_false_eq_true])
      refine ⟨(0, m, N, _), ⟨rfl, rfl, hP, Or.inl rfl, m2, wN, by omega, hF⟩, fun H2 hq => ?_⟩
      have hq' : H2 = _ := hq
      have hm2 : mf h' H2 := by rw [hq']; exact mf_go (mf_self _)
      have hp2 : pg_at H2 196 (sp_lives N m) := by rw [hq']; exact pg_put_at _ _ _
      clear hq hq'
      conv => whnf
      repeat' (first
        | (refine ⟨fun c9 => ?_, fun c9 => ?_⟩ <;> (try simp (disch := omega) only [nI_leI, nI_ltI, nI_eq, nz_eq, nz_lt, nz_gt, nz_le, nz_ge, nz_00, nz_n1, nI_add, pk_mul, pk_sub, nI_shl1, nI_or, nI_half2, nI_min2, la_put_eq, la_up, lr_same, lr_ne, lu_same, lu_ne, not_true_eq_false, not_false_eq_true] at c9) <;> first | (exfalso; omega) | conv => whnf)
        | (refine ⟨_, rfl, by omega, ?_⟩; conv => whnf)
        | (refine ⟨_, rfl, rfl, rfl, by decide, by decide, ?_⟩; conv => whnf)
        | (refine ⟨_, by (simp (disch := omega) only [nI_leI, nI_ltI, nI_eq, nz_eq, nz_lt, nz_gt, nz_le, nz_ge, nz_00, nz_n1, nI_add, pk_mul, pk_sub, nI_shl1, nI_or, nI_half2, nI_min2, la_put_eq, la_up, lr_same, lr_ne, lu_same, lu_ne, not_true_eq_false, not_false_eq_true]; rfl), by omega, ?_⟩; conv => whnf)
        | (apply And.intro; (first | assumption | decide | (simp (disch := omega) only [nI_leI, nI_ltI, nI_eq, nz_eq, nz_lt, nz_gt, nz_le, nz_ge, nz_00, nz_n1, nI_add, pk_mul, pk_sub, nI_shl1, nI_or, nI_half2, nI_min2, la_put_eq, la_up, lr_same, lr_ne, lu_same, lu_ne, not_true_eq_false, not_false_eq_true]; omega)); conv => whnf))
      all_goals (try simp (disch := omega) only [nI_leI, nI_ltI, nI_eq, nz_eq, nz_lt, nz_gt, nz_le, nz_ge, nz_00, nz_n1, nI_add, pk_mul, pk_sub, nI_shl1, nI_or, nI_half2, nI_min2, la_put_eq, la_up, lr_same, lr_ne, lu_same, lu_ne, not_true_eq_false, not_false_eq_true])
      exact loop (N 0 0) 0 (-4, 0) H2 (by omega) hm2 hp2 rfl
    · conv => whnf
      repeat' (first
        | (refine ⟨fun c9 => ?_, fun c9 => ?_⟩ <;> (try simp (disch := omega) only [nI_leI, nI_ltI, nI_eq, nz_eq, nz_lt, nz_gt, nz_le, nz_ge, nz_00, nz_n1, nI_add, pk_mul, pk_sub, nI_shl1, nI_or, nI_half2, nI_min2, la_put_eq, la_up, lr_same, lr_ne, lu_same, lu_ne, not_true_eq_false, not_false_eq_true] at c9) <;> first | (exfalso; omega) | conv => whnf)
        | (refine ⟨_, rfl, by omega, ?_⟩; conv => whnf)
        | (refine ⟨_, rfl, rfl, rfl, by decide, by decide, ?_⟩; conv => whnf)
        | (refine ⟨_, by (simp (disch := omega) only [nI_leI, nI_ltI, nI_eq, nz_eq, nz_lt, nz_gt, nz_le, nz_ge, nz_00, nz_n1, nI_add, pk_mul, pk_sub, nI_shl1, nI_or, nI_half2, nI_min2, la_put_eq, la_up, lr_same, lr_ne, lu_same, lu_ne, not_true_eq_false, not_false_eq_true]; rfl), by omega, ?_⟩; conv => whnf)
        | (apply And.intro; (first | assumption | decide | (simp (disch := omega) only [nI_leI, nI_ltI, nI_eq, nz_eq, nz_lt, nz_gt, nz_le, nz_ge, nz_00, nz_n1, nI_add, pk_mul, pk_sub, nI_shl1, nI_or, nI_half2, nI_min2, la_put_eq, la_up, lr_same, lr_ne, lu_same, lu_ne, not_true_eq_false, not_false_eq_true]; omega)); conv => whnf))
      all_goals (try simp (disch := omega) only [nI_leI, nI_ltI, nI_eq, nz_eq, nz_lt, nz_gt, nz_le, nz_ge, nz_00, nz_n1, nI_add, pk_mul, pk_sub, nI_shl1, nI_or, nI_half2, nI_min2, la_put_eq, la_up, lr_same, lr_ne, lu_same, lu_ne, not_true_eq_false, not_false_eq_true])
      refine hret _ _ ⟨mf_self _, ?_⟩
      rw [a_wise, ci_f (fun q => hc q.2)]
  · conv => whnf
    repeat' (first
      | (refine ⟨fun c9 => ?_, fun c9 => ?_⟩ <;> (try simp (disch := omega) only [nI_leI, nI_ltI, nI_eq, nz_eq, nz_lt, nz_gt, nz_le, nz_ge, nz_00, nz_n1, nI_add, pk_mul, pk_sub, nI_shl1, nI_or, nI_half2, nI_min2, la_put_eq, la_up, lr_same, lr_ne, lu_same, lu_ne, not_true_eq_false, not_false_eq_true] at c9) <;> first | (exfalso; omega) | conv => whnf)
      | (refine ⟨_, rfl, by omega, ?_⟩; conv => whnf)
      | (refine ⟨_, rfl, rfl, rfl, by decide, by decide, ?_⟩; conv => whnf)
      | (refine ⟨_, by (simp (disch := omega) only [nI_leI, nI_ltI, nI_eq, nz_eq, nz_lt, nz_gt, nz_le, nz_ge, nz_00, nz_n1, nI_add, pk_mul, pk_sub, nI_shl1, nI_or, nI_half2, nI_min2, la_put_eq, la_up, lr_same, lr_ne, lu_same, lu_ne, not_true_eq_false, not_false_eq_true]; rfl), by omega, ?_⟩; conv => whnf)
      | (apply And.intro; (first | assumption | decide | (simp (disch := omega) only [nI_leI, nI_ltI, nI_eq, nz_eq, nz_lt, nz_gt, nz_le, nz_ge, nz_00, nz_n1, nI_add, pk_mul, pk_sub, nI_shl1, nI_or, nI_half2, nI_min2, la_put_eq, la_up, lr_same, lr_ne, lu_same, lu_ne, not_true_eq_false, not_false_eq_true]; omega)); conv => whnf))
    all_goals (try simp (disch := omega) only [nI_leI, nI_ltI, nI_eq, nz_eq, nz_lt, nz_gt, nz_le, nz_ge, nz_00, nz_n1, nI_add, pk_mul, pk_sub, nI_shl1, nI_or, nI_half2, nI_min2, la_put_eq, la_up, lr_same, lr_ne, lu_same, lu_ne, not_true_eq_false, not_false_eq_true])
    refine hret _ _ ⟨mf_self _, ?_⟩
    rw [a_wise, ci_f (fun q => hc q.1)]
theorem M_X5_wise : pm_MT yX5_wise cX5_wise 7 1 6 P_X5_wise (pm_pi Q_X5_wise) := pm_met k_X5_wise (by decide) rfl (by
  rintro ⟨g0, g1, g2, g3⟩ av h hp
  rw [hp.1]
  exact Nat.le_of_ble_eq_true rfl) pf_X5_wise
theorem rc_X5_wise : ∀ g av h, P_X5_wise g av h → ∃ i t, av = .inr (.inr (5, i, 0)) :: t := by
  rintro ⟨g0, g1, g2, g3⟩ av h hp
  exact ⟨_, _, hp.1⟩
