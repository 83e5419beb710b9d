/-! THE MODEL: meals, days, copies. -/
def P_X5_eatsOn : Nat × Nat × LD × pm_H → List pm_V → pm_H → Prop := fun g av h => match g with
  | (pg, f, Y, h0) => av = [vR 5 0 0, vI (nI pg), vI (nI f)] ∧ h = h0 ∧ pg_at h0 pg Y ∧ pg ≤ 245 ∧ la_ok Y ∧ f < 4
def Q_X5_eatsOn : Nat × Nat × LD × pm_H → Int32 → pm_H → Prop := fun g v h => match g with
  | (pg, f, Y, h0) => h = pg_put h0 pg (sp_feast Y f) ∧ v = nI (sp_eaten Y f)
def T_X5_eatsOn : List (Nat × pm_T) := [
  (0, i_al 0 1),
  (1, i_gr 5 (fun i => (5, i, 1)) 4),
  (4, i_il 1 5),
  (5, i_il 2 6),
  (6, i_iadd 7),
  (7, i_ia 8),
  (8, i_is 3 9),
  (9, i_c (nI 0) 10),
  (10, i_is 4 12),
  (12, i_il 4 14),
  (14, i_al 0 15),
  (15, i_gr 5 (fun i => (5, i, 1)) 18),
  (18, i_il 1 19),
  (19, i_c (nI 32) 21),
  (21, i_iadd 22),
  (22, i_ia 23),
  (23, i_icge 104 26),
  (26, i_al 0 27),
  (27, i_gr 5 (fun i => (5, i, 1)) 30),
  (30, i_il 1 31),
  (31, i_c (nI 26) 33),
  (33, i_iadd 34),
  (34, i_il 4 36),
  (36, i_iadd 37),
  (37, i_ia 38),
  (38, i_il 2 39),
  (39, i_icne 98 42),
  (42, i_al 0 43),
  (43, i_gr 5 (fun i => (5, i, 1)) 46),
  (46, i_il 1 47),
  (47, i_c (nI 20) 49),
  (49, i_iadd 50),
  (50, i_il 4 52),
  (52, i_iadd 53),
  (53, i_ia 54),
  (54, i_il 3 55),
  (55, i_icge 73 58),
  (58, i_al 0 59),
  (59, i_gr 5 (fun i => (5, i, 1)) 62),
  (62, i_il 1 63),
  (63, i_c (nI 20) 65),
  (65, i_iadd 66),
  (66, i_il 4 68),
  (68, i_iadd 69),
  (69, i_ia 70),
  (70, i_go 74),
  (73, i_il 3 74),
  (74, i_is 5 76),
  (76, i_al 0 77),
  (77, i_gr 5 (fun i => (5, i, 1)) 80),
  (80, i_il 1 81),
  (81, i_c (nI 20) 83),
  (83, i_iadd 84),
  (84, i_il 4 86),
  (86, i_iadd 87),
  (87, i_dup2 88),
  (88, i_ia 89),
  (89, i_il 5 91),
  (91, i_isub 92),
  (92, i_ias 93),
  (93, i_il 3 94),
  (94, i_il 5 96),
  (96, i_isub 97),
  (97, i_is 3 98),
  (98, i_inc 4 (nI 1) 101),
  (101, i_go 12),
  (104, i_al 0 105),
  (105, i_gr 5 (fun i => (5, i, 1)) 108),
  (108, i_il 1 109),
  (109, i_c (nI 4) 110),
  (110, i_iadd 111),
  (111, i_il 2 112),
  (112, i_iadd 113),
  (113, i_dup2 114),
  (114, i_ia 115),
  (115, i_il 3 116),
  (116, i_ifle 139 119),
  (119, i_al 0 120),
  (120, i_gr 5 (fun i => (5, i, 1)) 123),
  (123, i_il 1 124),
  (124, i_c (nI 4) 125),
  (125, i_iadd 126),
  (126, i_il 2 127),
  (127, i_iadd 128),
  (128, i_ia 129),
  (129, i_c (nI 999) 132),
  (132, i_icge 139 135),
  (135, i_c (nI 1) 136),
  (136, i_go 140),
  (139, i_c (nI 0) 140),
  (140, i_iadd 141),
  (141, i_ias 142),
  (142, i_al 0 143),
  (143, i_gr 5 (fun i => (5, i, 1)) 146),
  (146, i_il 1 147),
  (147, i_il 2 148),
  (148, i_iadd 149),
  (149, i_ia 150),
  (150, i_il 3 151),
  (151, i_isub 152),
  (152, i_ir)]
theorem k_X5_eatsOn : ∀ q ∈ T_X5_eatsOn, pm_sd RX5 cX5_eatsOn 6 2 1 q.1 q.2 := by
  unfold T_X5_eatsOn
  refine pm_cn (sd_aln (k := 0) (by decide +kernel) rfl rfl) ?_
  refine pm_cn (sd_gr cl5_ in5_ (j := 0) (by decide) (fun _ => rfl) fl_X5_7 (by decide +kernel) rfl) ?_
  refine pm_cn (sd_iln (k := 1) (by decide +kernel) rfl rfl) ?_
  refine pm_cn (sd_iln (k := 2) (by decide +kernel) rfl rfl) ?_
  refine pm_cn (sd_iadd (by decide +kernel) rfl) ?_
  refine pm_cn (sd_ia (by decide +kernel) rfl) ?_
  refine pm_cn (sd_isn (k := 3) (by decide +kernel) rfl rfl (by decide)) ?_
  refine pm_cn (sd_iconst (z := 0) (by decide +kernel) (by decide +kernel) rfl) ?_
  refine pm_cn (sd_is (by decide +kernel) rfl (by decide)) ?_
  refine pm_cn (sd_il (by decide +kernel) rfl) ?_
  refine pm_cn (sd_aln (k := 0) (by decide +kernel) rfl rfl) ?_
  refine pm_cn (sd_gr cl5_ in5_ (j := 0) (by decide) (fun _ => rfl) fl_X5_7 (by decide +kernel) rfl) ?_
  refine pm_cn (sd_iln (k := 1) (by decide +kernel) rfl rfl) ?_
  refine pm_cn (sd_bipush (z := 32) (by decide +kernel) (by decide +kernel) rfl) ?_
  refine pm_cn (sd_iadd (by decide +kernel) rfl) ?_
  refine pm_cn (sd_ia (by decide +kernel) rfl) ?_
  refine pm_cn (sd_icge (off := 81) (by decide +kernel) (by decide) rfl) ?_
  refine pm_cn (sd_aln (k := 0) (by decide +kernel) rfl rfl) ?_
  refine pm_cn (sd_gr cl5_ in5_ (j := 0) (by decide) (fun _ => rfl) fl_X5_7 (by decide +kernel) rfl) ?_
  refine pm_cn (sd_iln (k := 1) (by decide +kernel) rfl rfl) ?_
  refine pm_cn (sd_bipush (z := 26) (by decide +kernel) (by decide +kernel) rfl) ?_
  refine pm_cn (sd_iadd (by decide +kernel) rfl) ?_
  refine pm_cn (sd_il (by decide +kernel) rfl) ?_
  refine pm_cn (sd_iadd (by decide +kernel) rfl) ?_
  refine pm_cn (sd_ia (by decide +kernel) rfl) ?_
  refine pm_cn (sd_iln (k := 2) (by decide +kernel) rfl rfl) ?_
  refine pm_cn (sd_icne (off := 59) (by decide +kernel) (by decide) rfl) ?_
  refine pm_cn (sd_aln (k := 0) (by decide +kernel) rfl rfl) ?_
  refine pm_cn (sd_gr cl5_ in5_ (j := 0) (by decide) (fun _ => rfl) fl_X5_7 (by decide +kernel) rfl) ?_
  refine pm_cn (sd_iln (k := 1) (by decide +kernel) rfl rfl) ?_
  refine pm_cn (sd_bipush (z := 20) (by decide +kernel) (by decide +kernel) rfl) ?_
  refine pm_cn (sd_iadd (by decide +kernel) rfl) ?_
  refine pm_cn (sd_il (by decide +kernel) rfl) ?_
  refine pm_cn (sd_iadd (by decide +kernel) rfl) ?_
  refine pm_cn (sd_ia (by decide +kernel) rfl) ?_
  refine pm_cn (sd_iln (k := 3) (by decide +kernel) rfl rfl) ?_
  refine pm_cn (sd_icge (off := 18) (by decide +kernel) (by decide) rfl) ?_
  refine pm_cn (sd_aln (k := 0) (by decide +kernel) rfl rfl) ?_
  refine pm_cn (sd_gr cl5_ in5_ (j := 0) (by decide) (fun _ => rfl) fl_X5_7 (by decide +kernel) rfl) ?_
  refine pm_cn (sd_iln (k := 1) (by decide +kernel) rfl rfl) ?_
  refine pm_cn (sd_bipush (z := 20) (by decide +kernel) (by decide +kernel) rfl) ?_
  refine pm_cn (sd_iadd (by decide +kernel) rfl) ?_
  refine pm_cn (sd_il (by decide +kernel) rfl) ?_
  refine pm_cn (sd_iadd (by decide +kernel) rfl) ?_
  refine pm_cn (sd_ia (by decide +kernel) rfl) ?_
  refine pm_cn (sd_go (off := 4) (by decide +kernel) (by decide)) ?_
  refine pm_cn (sd_iln (k := 3) (by decide +kernel) rfl rfl) ?_
  refine pm_cn (sd_is (by decide +kernel) rfl (by decide)) ?_
  refine pm_cn (sd_aln (k := 0) (by decide +kernel) rfl rfl) ?_
  refine pm_cn (sd_gr cl5_ in5_ (j := 0) (by decide) (fun _ => rfl) fl_X5_7 (by decide +kernel) rfl) ?_
  refine pm_cn (sd_iln (k := 1) (by decide +kernel) rfl rfl) ?_
  refine pm_cn (sd_bipush (z := 20) (by decide +kernel) (by decide +kernel) rfl) ?_
  refine pm_cn (sd_iadd (by decide +kernel) rfl) ?_
  refine pm_cn (sd_il (by decide +kernel) rfl) ?_
  refine pm_cn (sd_iadd (by decide +kernel) rfl) ?_
  refine pm_cn (sd_dup2 (by decide +kernel) rfl) ?_
  refine pm_cn (sd_ia (by decide +kernel) rfl) ?_
  refine pm_cn (sd_il (by decide +kernel) rfl) ?_
  refine pm_cn (sd_isub (by decide +kernel) rfl) ?_
  refine pm_cn (sd_ias (by decide +kernel) rfl) ?_
  refine pm_cn (sd_iln (k := 3) (by decide +kernel) rfl rfl) ?_
  refine pm_cn (sd_il (by decide +kernel) rfl) ?_
  refine pm_cn (sd_isub (by decide +kernel) rfl) ?_
  refine pm_cn (sd_isn (k := 3) (by decide +kernel) rfl rfl (by decide)) ?_
  refine pm_cn (sd_inc (z := 1) (by decide +kernel) (by decide +kernel) rfl (by decide)) ?_
  refine pm_cn (sd_go (off := -89) (by decide +kernel) (by decide)) ?_
  refine pm_cn (sd_aln (k := 0) (by decide +kernel) rfl rfl) ?_
  refine pm_cn (sd_gr cl5_ in5_ (j := 0) (by decide) (fun _ => rfl) fl_X5_7 (by decide +kernel) rfl) ?_
  refine pm_cn (sd_iln (k := 1) (by decide +kernel) rfl rfl) ?_
  refine pm_cn (sd_iconst (z := 4) (by decide +kernel) (by decide +kernel) rfl) ?_
  refine pm_cn (sd_iadd (by decide +kernel) rfl) ?_
  refine pm_cn (sd_iln (k := 2) (by decide +kernel) rfl rfl) ?_
  refine pm_cn (sd_iadd (by decide +kernel) rfl) ?_
  refine pm_cn (sd_dup2 (by decide +kernel) rfl) ?_
  refine pm_cn (sd_ia (by decide +kernel) rfl) ?_
  refine pm_cn (sd_iln (k := 3) (by decide +kernel) rfl rfl) ?_
  refine pm_cn (sd_ifle (off := 23) (by decide +kernel) (by decide) rfl) ?_
  refine pm_cn (sd_aln (k := 0) (by decide +kernel) rfl rfl) ?_
  refine pm_cn (sd_gr cl5_ in5_ (j := 0) (by decide) (fun _ => rfl) fl_X5_7 (by decide +kernel) rfl) ?_
  refine pm_cn (sd_iln (k := 1) (by decide +kernel) rfl rfl) ?_
  refine pm_cn (sd_iconst (z := 4) (by decide +kernel) (by decide +kernel) rfl) ?_
  refine pm_cn (sd_iadd (by decide +kernel) rfl) ?_
  refine pm_cn (sd_iln (k := 2) (by decide +kernel) rfl rfl) ?_
  refine pm_cn (sd_iadd (by decide +kernel) rfl) ?_
  refine pm_cn (sd_ia (by decide +kernel) rfl) ?_
  refine pm_cn (sd_sipush (z := 999) (by decide +kernel) (by decide +kernel) rfl) ?_
  refine pm_cn (sd_icge (off := 7) (by decide +kernel) (by decide) rfl) ?_
  refine pm_cn (sd_iconst (z := 1) (by decide +kernel) (by decide +kernel) rfl) ?_
  refine pm_cn (sd_go (off := 4) (by decide +kernel) (by decide)) ?_
  refine pm_cn (sd_iconst (z := 0) (by decide +kernel) (by decide +kernel) rfl) ?_
  refine pm_cn (sd_iadd (by decide +kernel) rfl) ?_
  refine pm_cn (sd_ias (by decide +kernel) rfl) ?_
  refine pm_cn (sd_aln (k := 0) (by decide +kernel) rfl rfl) ?_
  refine pm_cn (sd_gr cl5_ in5_ (j := 0) (by decide) (fun _ => rfl) fl_X5_7 (by decide +kernel) rfl) ?_
  refine pm_cn (sd_iln (k := 1) (by decide +kernel) rfl rfl) ?_
  refine pm_cn (sd_iln (k := 2) (by decide +kernel) rfl rfl) ?_
  refine pm_cn (sd_iadd (by decide +kernel) rfl) ?_
  refine pm_cn (sd_ia (by decide +kernel) rfl) ?_
  refine pm_cn (sd_iln (k := 3) (by decide +kernel) rfl rfl) ?_
  refine pm_cn (sd_isub (by decide +kernel) rfl) ?_
  refine pm_cn (sd_ir (by decide +kernel)) ?_
  exact fun _ h => absurd h List.not_mem_nil
set_option maxHeartbeats 800000 in
set_option maxRecDepth 100000 in
theorem pf_X5_eatsOn : pm_pf T_X5_eatsOn P_X5_eatsOn (pm_pi Q_X5_eatsOn) := by
  rintro ⟨pg, f, L, h0⟩ av h K hK ⟨rfl, rfl, hP, hpg, hw, hf⟩ hret
  obtain ⟨w1, w2, w3, w4, w5, w6, w7, w8, w9, w10⟩ := id hw
  show K (some 0) ([(0, vR 5 0 0), (1, vI (nI pg)), (2, vI (nI f))], [], h)
  have hF := w7 f hf
  have fin2 : ∀ M a, M = sp_feast L f → a = sp_left L f (L 0 3) → K (some 142) ([(0, vR 5 0 0), (1, vI (nI pg)), (2, vI (nI f)), (3, vI (nI a))], [], pg_put h pg M) := by
    intro M a hM ha
    have hle := sp_left_le L f (L 0 3)
    have e1 : M 1 f = L 1 f := by rw [hM]; unfold sp_feast; rw [lu_ne (by omega), lr_ne (by omega)]
    refine hK [] 20 _ _ ?_
    conv => whnf
    repeat' (first
      | (refine ⟨fun c9 => ?_, fun c9 => ?_⟩ <;> (try simp (disch := omega) only [nI_leI, nI_ltI, nI_eq, nz_eq, nz_lt, nz_gt, nz_le, nz_ge, nz_00, nz_n1, nI_add, pk_mul, pk_sub, nI_shl1, nI_or, nI_half2, nI_min2, la_put_eq, la_up, lr_same, lr_ne, lu_same, lu_ne, not_true_eq_false, not_false_eq_true, pr2, pr3, pr4, pr5, pr6, pr7, pr8, prN, prD, prB, prY, prQ, pr1, prO, subadd, e1] at c9) <;> first | (exfalso; omega) | conv => whnf)
      | (refine ⟨_, rfl, by omega, ?_⟩; conv => whnf)
      | (refine ⟨_, rfl, rfl, rfl, by decide, by decide, ?_⟩; conv => whnf)
      | (refine ⟨_, by (simp (disch := omega) only [nI_leI, nI_ltI, nI_eq, nz_eq, nz_lt, nz_gt, nz_le, nz_ge, nz_00, nz_n1, nI_add, pk_mul, pk_sub, nI_shl1, nI_or, nI_half2, nI_min2, la_put_eq, la_up, lr_same, lr_ne, lu_same, lu_ne, not_true_eq_false, not_false_eq_true, pr2, pr3, pr4, pr5, pr6, pr7, pr8, prN, prD, prB, prY, prQ, pr1, prO, subadd, e1]; rfl), by omega, ?_⟩; conv => whnf)
      | (apply And.intro; (first | assumption | decide | (simp (disch := omega) only [nI_leI, nI_ltI, nI_eq, nz_eq, nz_lt, nz_gt, nz_le, nz_ge, nz_00, nz_n1, nI_add, pk_mul, pk_sub, nI_shl1, nI_or, nI_half2, nI_min2, la_put_eq, la_up, lr_same, lr_ne, lu_same, lu_ne, not_true_eq_false, not_false_eq_true, pr2, pr3, pr4, pr5, pr6, pr7, pr8, prN, prD, prB, prY, prQ, pr1, prO, subadd, e1]; omega)); conv => whnf))
    all_goals (try simp (disch := omega) only [nI_leI, nI_ltI, nI_eq, nz_eq, nz_lt, nz_gt, nz_le, nz_ge, nz_00, nz_n1, nI_add, pk_mul, pk_sub, nI_shl1, nI_or, nI_half2, nI_min2, la_put_eq, la_up, lr_same, lr_ne, lu_same, lu_ne, not_true_eq_false, not_false_eq_true, pr2, pr3, pr4, pr5, pr6, pr7, pr8, prN, prD, prB, prY, prQ, pr1, prO, subadd, e1])
    subst hM ha
    exact hret _ _ ⟨rfl, rfl⟩
  have fin : ∀ M a, M = lr L 5 (sp_ate L f (L 0 3)) → a = sp_left L f (L 0 3) → K (some 104) ([(0, vR 5 0 0), (1, vI (nI pg)), (2, vI (nI f)), (3, vI (nI a))], [], pg_put h pg M) := by
    intro M a hM ha
    have hle := sp_left_le L f (L 0 3)
    have e1 : M 2 f = L 2 f := by rw [hM, lr_ne (by omega)]
    refine hK [(142, [0, 1, 2, 3])] 60 _ _ ?_
    conv => whnf
    repeat' (first
      | (refine ⟨fun c9 => ?_, fun c9 => ?_⟩ <;> (try simp (disch := omega) only [nI_leI, nI_ltI, nI_eq, nz_eq, nz_lt, nz_gt, nz_le, nz_ge, nz_00, nz_n1, nI_add, pk_mul, pk_sub, nI_shl1, nI_or, nI_half2, nI_min2, la_put_eq, la_up, lr_same, lr_ne, lu_same, lu_ne, not_true_eq_false, not_false_eq_true, pr2, pr3, pr4, pr5, pr6, pr7, pr8, prN, prD, prB, prY, prQ, pr1, prO, subadd, pu2, e1] at c9) <;> first | (exfalso; omega) | conv => whnf)
      | (refine ⟨_, rfl, by omega, ?_⟩; conv => whnf)
      | (refine ⟨_, rfl, rfl, rfl, by decide, by decide, ?_⟩; conv => whnf)
      | (refine ⟨_, by (simp (disch := omega) only [nI_leI, nI_ltI, nI_eq, nz_eq, nz_lt, nz_gt, nz_le, nz_ge, nz_00, nz_n1, nI_add, pk_mul, pk_sub, nI_shl1, nI_or, nI_half2, nI_min2, la_put_eq, la_up, lr_same, lr_ne, lu_same, lu_ne, not_true_eq_false, not_false_eq_true, pr2, pr3, pr4, pr5, pr6, pr7, pr8, prN, prD, prB, prY, prQ, pr1, prO, subadd, pu2, e1]; rfl), by omega, ?_⟩; conv => whnf)
      | (apply And.intro; (first | assumption | decide | (simp (disch := omega) only [nI_leI, nI_ltI, nI_eq, nz_eq, nz_lt, nz_gt, nz_le, nz_ge, nz_00, nz_n1, nI_add, pk_mul, pk_sub, nI_shl1, nI_or, nI_half2, nI_min2, la_put_eq, la_up, lr_same, lr_ne, lu_same, lu_ne, not_true_eq_false, not_false_eq_true, pr2, pr3, pr4, pr5, pr6, pr7, pr8, prN, prD, prB, prY, prQ, pr1, prO, subadd, pu2, e1]; omega)); conv => whnf))
    all_goals (try simp (disch := omega) only [nI_leI, nI_ltI, nI_eq, nz_eq, nz_lt, nz_gt, nz_le, nz_ge, nz_00, nz_n1, nI_add, pk_mul, pk_sub, nI_shl1, nI_or, nI_half2, nI_min2, la_put_eq, la_up, lr_same, lr_ne, lu_same, lu_ne, not_true_eq_false, not_false_eq_true, pr2, pr3, pr4, pr5, pr6, pr7, pr8, prN, prD, prB, prY, prQ, pr1, prO, subadd, pu2, e1])
    · refine fin2 _ _ ?_ ha
      rw [sp_feast, sp_hun, if_neg (by omega), ← hM, Nat.add_zero]
    · refine fin2 _ _ ?_ ha
      rw [sp_feast, sp_hun, if_neg (by omega), ← hM, Nat.add_zero]
    · refine fin2 _ _ ?_ ha
      rw [sp_feast, sp_hun, if_pos (by omega), ← hM]
  have loop : ∀ n k a M, k + n = L 0 3 → a = sp_left L f k → M = lr L 5 (sp_ate L f k) → K (some 12) ([(0, vR 5 0 0), (1, vI (nI pg)), (2, vI (nI f)), (3, vI (nI a)), (4, vI (nI k))], [], pg_put h pg M) := by
    intro n
    induction n with
    | zero =>
      intro k a M hk ha hM
      subst hM
      refine hK [(12, [0, 1, 2, 3, 4]), (104, [0, 1, 2, 3])] 40 _ _ ?_
      conv => whnf
      repeat' (first
        | (refine ⟨fun c9 => ?_, fun c9 => ?_⟩ <;> (try simp (disch := omega) only [nI_leI, nI_ltI, nI_eq, nz_eq, nz_lt, nz_gt, nz_le, nz_ge, nz_00, nz_n1, nI_add, pk_mul, pk_sub, nI_shl1, nI_or, nI_half2, nI_min2, la_put_eq, la_up, lr_same, lr_ne, lu_same, lu_ne, not_true_eq_false, not_false_eq_true, pr2, pr3, pr4, pr5, pr6, pr7, pr8, prN, prD, prB, prY, prQ, pr1, prO, subadd] at c9) <;> first | (exfalso; omega) | conv => whnf)
        | (refine ⟨_, rfl, by omega, ?_⟩; conv => whnf)
        | (refine ⟨_, rfl, rfl, rfl, by decide, by decide, ?_⟩; conv => whnf)
        | (refine ⟨_, by (simp (disch := omega) only [nI_leI, nI_ltI, nI_eq, nz_eq, nz_lt, nz_gt, nz_le, nz_ge, nz_00, nz_n1, nI_add, pk_mul, pk_sub, nI_shl1, nI_or, nI_half2, nI_min2, la_put_eq, la_up, lr_same, lr_ne, lu_same, lu_ne, not_true_eq_false, not_false_eq_true, pr2, pr3, pr4, pr5, pr6, pr7, pr8, prN, prD, prB, prY, prQ, pr1, prO, subadd]; rfl), by omega, ?_⟩; conv => whnf)
        | (apply And.intro; (first | assumption | decide | (simp (disch := omega) only [nI_leI, nI_ltI, nI_eq, nz_eq, nz_lt, nz_gt, nz_le, nz_ge, nz_00, nz_n1, nI_add, pk_mul, pk_sub, nI_shl1, nI_or, nI_half2, nI_min2, la_put_eq, la_up, lr_same, lr_ne, lu_same, lu_ne, not_true_eq_false, not_false_eq_true, pr2, pr3, pr4, pr5, pr6, pr7, pr8, prN, prD, prB, prY, prQ, pr1, prO, subadd]; omega)); conv => whnf))
      all_goals (try simp (disch := omega) only [nI_leI, nI_ltI, nI_eq, nz_eq, nz_lt, nz_gt, nz_le, nz_ge, nz_00, nz_n1, nI_add, pk_mul, pk_sub, nI_shl1, nI_or, nI_half2, nI_min2, la_put_eq, la_up, lr_same, lr_ne, lu_same, lu_ne, not_true_eq_false, not_false_eq_true, pr2, pr3, pr4, pr5, pr6, pr7, pr8, prN, prD, prB, prY, prQ, pr1, prO, subadd])
      have : k = L 0 3 := by omega
      subst this
      exact fin _ _ rfl ha
    | succ n ih =>
      intro k a M hk ha hM
      have hB := w8 k (by omega)
      have hle := sp_left_le L f k
      subst hM
      refine hK [(12, [0, 1, 2, 3, 4]), (104, [0, 1, 2, 3])] 80 _ _ ?_
      conv => whnf
      repeat' (first
        | (refine ⟨fun c9 => ?_, fun c9 => ?_⟩ <;> (try simp (disch := omega) only [nI_leI, nI_ltI, nI_eq, nz_eq, nz_lt, nz_gt, nz_le, nz_ge, nz_00, nz_n1, nI_add, pk_mul, pk_sub, nI_shl1, nI_or, nI_half2, nI_min2, la_put_eq, la_up, lr_same, lr_ne, lu_same, lu_ne, not_true_eq_false, not_false_eq_true, pr2, pr3, pr4, pr5, pr6, pr7, pr8, prN, prD, prB, prY, prQ, pr1, prO, subadd, pu5, sp_ate_ge] at c9) <;> first | (exfalso; omega) | conv => whnf)
        | (refine ⟨_, rfl, by omega, ?_⟩; conv => whnf)
        | (refine ⟨_, rfl, rfl, rfl, by decide, by decide, ?_⟩; conv => whnf)
        | (refine ⟨_, by (simp (disch := omega) only [nI_leI, nI_ltI, nI_eq, nz_eq, nz_lt, nz_gt, nz_le, nz_ge, nz_00, nz_n1, nI_add, pk_mul, pk_sub, nI_shl1, nI_or, nI_half2, nI_min2, la_put_eq, la_up, lr_same, lr_ne, lu_same, lu_ne, not_true_eq_false, not_false_eq_true, pr2, pr3, pr4, pr5, pr6, pr7, pr8, prN, prD, prB, prY, prQ, pr1, prO, subadd, pu5, sp_ate_ge]; rfl), by omega, ?_⟩; conv => whnf)
        | (apply And.intro; (first | assumption | decide | (simp (disch := omega) only [nI_leI, nI_ltI, nI_eq, nz_eq, nz_lt, nz_gt, nz_le, nz_ge, nz_00, nz_n1, nI_add, pk_mul, pk_sub, nI_shl1, nI_or, nI_half2, nI_min2, la_put_eq, la_up, lr_same, lr_ne, lu_same, lu_ne, not_true_eq_false, not_false_eq_true, pr2, pr3, pr4, pr5, pr6, pr7, pr8, prN, prD, prB, prY, prQ, pr1, prO, subadd, pu5, sp_ate_ge]; omega)); conv => whnf))
      all_goals (try simp (disch := omega) only [nI_leI, nI_ltI, nI_eq, nz_eq, nz_lt, nz_gt, nz_le, nz_ge, nz_00, nz_n1, nI_add, pk_mul, pk_sub, nI_shl1, nI_or, nI_half2, nI_min2, la_put_eq, la_up, lr_same, lr_ne, lu_same, lu_ne, not_true_eq_false, not_false_eq_true, pr2, pr3, pr4, pr5, pr6, pr7, pr8, prN, prD, prB, prY, prQ, pr1, prO, subadd, pu5, sp_ate_ge])
      · refine ih (k + 1) _ _ (by omega) ?_ (by rw [sp_ate_skip (by omega)])
        rw [sp_left, if_neg (by omega)]
        exact ha
      · refine ih (k + 1) _ _ (by omega) ?_ (sp_ate_step (by omega) (by omega))
        rw [sp_left, if_pos (by omega)]
        omega
      · refine ih (k + 1) _ _ (by omega) ?_ (sp_ate_step (by omega) (by omega))
        rw [sp_left, if_pos (by omega)]
        omega
  refine hK [(12, [0, 1, 2, 3, 4])] 20 _ _ ?_
  conv => whnf
  repeat' (first
    | (refine ⟨fun c9 => ?_, fun c9 => ?_⟩ <;> (try simp (disch := omega) only [nI_leI, nI_ltI, nI_eq, nz_eq, nz_lt, nz_gt, nz_le, nz_ge, nz_00, nz_n1, nI_add, pk_mul, pk_sub, nI_shl1, nI_or, nI_half2, nI_min2, la_put_eq, la_up, lr_same, lr_ne, lu_same, lu_ne, not_true_eq_false, not_false_eq_true, qr2 hP, qr3 hP, qr4 hP, qr5 hP, qr6 hP, qr7 hP, qr8 hP, qrN hP, qrD hP, qrB hP, qrY hP, qrQ hP, qr1 hP, subadd] at c9) <;> first | (exfalso; omega) | conv => whnf)
    | (refine ⟨_, rfl, by omega, ?_⟩; conv => whnf)
    | (refine ⟨_, rfl, rfl, rfl, by decide, by decide, ?_⟩; conv => whnf)
    | (refine ⟨_, by (simp (disch := omega) only [nI_leI, nI_ltI, nI_eq, nz_eq, nz_lt, nz_gt, nz_le, nz_ge, nz_00, nz_n1, nI_add, pk_mul, pk_sub, nI_shl1, nI_or, nI_half2, nI_min2, la_put_eq, la_up, lr_same, lr_ne, lu_same, lu_ne, not_true_eq_false, not_false_eq_true, qr2 hP, qr3 hP, qr4 hP, qr5 hP, qr6 hP, qr7 hP, qr8 hP, qrN hP, qrD hP, qrB hP, qrY hP, qrQ hP, qr1 hP, subadd]; rfl), by omega, ?_⟩; conv => whnf)
    | (apply And.intro; (first | assumption | decide | (simp (disch := omega) only [nI_leI, nI_ltI, nI_eq, nz_eq, nz_lt, nz_gt, nz_le, nz_ge, nz_00, nz_n1, nI_add, pk_mul, pk_sub, nI_shl1, nI_or, nI_half2, nI_min2, la_put_eq, la_up, lr_same, lr_ne, lu_same, lu_ne, not_true_eq_false, not_false_eq_true, qr2 hP, qr3 hP, qr4 hP, qr5 hP, qr6 hP, qr7 hP, qr8 hP, qrN hP, qrD hP, qrB hP, qrY hP, qrQ hP, qr1 hP, subadd]; omega)); conv => whnf))
  all_goals (try simp (disch := omega) only [nI_leI, nI_ltI, nI_eq, nz_eq, nz_lt, nz_gt, nz_le, nz_ge, nz_00, nz_n1, nI_add, pk_mul, pk_sub, nI_shl1, nI_or, nI_half2, nI_min2, la_put_eq, la_up, lr_same, lr_ne, lu_same, lu_ne, not_true_eq_false, not_false_eq_true, qr2 hP, qr3 hP, qr4 hP, qr5 hP, qr6 hP, qr7 hP, qr8 hP, qrN hP, qrD hP, qrB hP, qrY hP, qrQ hP, qr1 hP, subadd])
  have := loop (L 0 3) 0 (L 1 f) L (by omega) rfl (by rw [sp_ate_0, lr_self])
  rw [pg_self hP] at this
  exact this
theorem M_X5_eatsOn : pm_MT yX5_eatsOn cX5_eatsOn 6 1 2 P_X5_eatsOn (pm_pi Q_X5_eatsOn) := pm_met k_X5_eatsOn (by decide) rfl (by
  rintro ⟨g0, g1, g2, g3⟩ av h hp
  rw [hp.1]
  exact Nat.le_of_ble_eq_true rfl) pf_X5_eatsOn
theorem rc_X5_eatsOn : ∀ g av h, P_X5_eatsOn g av h → ∃ i t, av = .inr (.inr (5, i, 0)) :: t := by
  rintro ⟨g0, g1, g2, g3⟩ av h hp
  exact ⟨_, _, hp.1⟩
/-! a day at a damp of its own -/
def sp_rotD (L : LD) (d n : Nat) : LD := lr L 5 (fun b => if b < n then L 5 b - min (sp_loss d (L 3 b)) (L 5 b) else L 5 b)
def sp_liveD (L : LD) (d : Nat) : LD := lu (sp_feasts (sp_rotD L d (L 0 3)) (L 0 0)) 0 10 (L 0 10 + 1)
def sp_dayD (L : LD) (d : Nat) : Nat := sp_meals (sp_rotD L d (L 0 3)) (L 0 0)
theorem sp_liveD_own (L : LD) : sp_liveD L (L 0 8) = sp_live L := rfl
theorem sp_dayD_own (L : LD) : sp_dayD L (L 0 8) = sp_day L := rfl
theorem sp_rotD_s {L : LD} {d n s j : Nat} (h5 : s ≠ 5) : sp_rotD L d n s j = L s j := by
  unfold sp_rotD
  rw [lr_ne h5]
theorem sp_rotD_5 {L : LD} {d n j : Nat} : sp_rotD L d n 5 j = if j < n then L 5 j - min (sp_loss d (L 3 j)) (L 5 j) else L 5 j := by
  unfold sp_rotD
  rw [lr_same]
theorem sp_rotD_eq (L : LD) (d n : Nat) : sp_rotD L d n = lu (sp_rot (lu L 0 8 d) n) 0 8 (L 0 8) := by
  funext s j
  by_cases h8 : s = 0 ∧ j = 8
  · obtain ⟨rfl, rfl⟩ := h8
    rw [lu_same, sp_rotD_s (by decide)]
  · rw [lu_ne h8]
    by_cases h5 : s = 5
    · subst h5
      rw [sp_rotD_5, sp_rot_5]
      unfold sp_spoil
      rw [lu_ne (by omega), lu_same, lu_ne (by omega)]
    · rw [sp_rotD_s h5, sp_rot_s h5, lu_ne h8]
theorem sp_rotD_step {L : LD} {d k v : Nat} (hv : v = L 5 k - min (sp_loss d (L 3 k)) (L 5 k)) : lu (sp_rotD L d k) 5 k v = sp_rotD L d (k + 1) := by
  unfold sp_rotD
  refine lu_lr (fun b => ?_)
  by_cases hb : b = k
  · subst hb
    rw [if_pos (by omega), if_pos rfl, hv]
  · rw [if_neg hb]
    by_cases h1 : b < k
    · rw [if_pos h1, if_pos (by omega)]
    · rw [if_neg h1, if_neg (by omega)]
theorem sp_rotD_0 (L : LD) (d : Nat) : sp_rotD L d 0 = L := by
  unfold sp_rotD
  have : (fun b => if b < 0 then L 5 b - min (sp_loss d (L 3 b)) (L 5 b) else L 5 b) = L 5 := by
    funext b
    rw [if_neg (by omega)]
  rw [this, lr_self]
theorem la_ok_damp {L : LD} (hw : la_ok L) {d : Nat} (hd : d ≤ 9) : la_ok (lu L 0 8 d) := la_ok_lu hw (by unfold la_rel; omega) (by unfold la_bd; omega)
theorem la_ok_rotD {L : LD} (hw : la_ok L) {d : Nat} (hd : d ≤ 9) (n : Nat) : la_ok (sp_rotD L d n) := by
  rw [sp_rotD_eq]
  exact la_ok_damp (la_ok_rot (la_ok_damp hw hd) n) hw.2.2.1
theorem la_ok_liveD {L : LD} (hw : la_ok L) {d : Nat} (h9 : d ≤ 9) (hd : L 0 10 < 5000) : la_ok (sp_liveD L d) := by
  unfold sp_liveD
  exact la_ok_day (la_ok_feasts (la_ok_rotD hw h9 _) _ hw.1) (by omega)
theorem sp_liveD_s {L : LD} {d s j : Nat} (h5 : s ≠ 5) (h2 : s ≠ 2) (hd : ¬ (s = 0 ∧ j = 10)) : sp_liveD L d s j = L s j := by
  unfold sp_liveD
  rw [lu_ne hd, sp_feasts_s h5 h2, sp_rotD_s h5]
theorem sp_liveD_day (L : LD) (d : Nat) : sp_liveD L d 0 10 = L 0 10 + 1 := by
  unfold sp_liveD
  rw [lu_same]
def P_X5_dayOn : Nat × Nat × Nat × LD × pm_H → List pm_V → pm_H → Prop := fun g av h => match g with
  | (pg, d, a, Y, h0) => av = [vR 5 0 0, vI (nI pg), vI (nI d)] ∧ h = h0 ∧ pg_at h0 pg Y ∧ pg ≤ 245 ∧ la_ok Y ∧ d ≤ 9 ∧ Y 0 10 < 5000 ∧ h0 5 0 0 17 = nI a ∧ h0 5 0 0 1 = nI (Y 0 0)
def Q_X5_dayOn : Nat × Nat × Nat × LD × pm_H → Int32 → pm_H → Prop := fun g v h => match g with
  | (pg, d, a, Y, h0) => h = pg_put (pm_up h0 5 0 0 17 (nI (a ||| sp_ans Y))) pg (sp_liveD Y d) ∧ v = nI (sp_dayD Y d)
def T_X5_dayOn : List (Nat × pm_T) := [
  (0, i_c (nI 0) 1),
  (1, i_is 3 2),
  (2, i_al 0 3),
  (3, i_il 1 4),
  (4, i_cv 2 P_X5_asksOn Q_X5_asksOn 7),
  (7, i_c (nI 0) 8),
  (8, i_is 4 10),
  (10, i_il 4 12),
  (12, i_al 0 13),
  (13, i_gr 5 (fun i => (5, i, 1)) 16),
  (16, i_il 1 17),
  (17, i_c (nI 32) 19),
  (19, i_iadd 20),
  (20, i_ia 21),
  (21, i_icge 53 24),
  (24, i_al 0 25),
  (25, i_gr 5 (fun i => (5, i, 1)) 28),
  (28, i_il 1 29),
  (29, i_c (nI 20) 31),
  (31, i_iadd 32),
  (32, i_il 4 34),
  (34, i_iadd 35),
  (35, i_dup2 36),
  (36, i_ia 37),
  (37, i_al 0 38),
  (38, i_il 1 39),
  (39, i_il 4 41),
  (41, i_il 2 42),
  (42, i_ci 4 P_X5_spoilsOn Q_X5_spoilsOn 45),
  (45, i_isub 46),
  (46, i_ias 47),
  (47, i_inc 4 (nI 1) 50),
  (50, i_go 10),
  (53, i_c (nI 0) 54),
  (54, i_is 4 56),
  (56, i_il 4 58),
  (58, i_al 0 59),
  (59, i_gi 5 1 62),
  (62, i_icge 81 65),
  (65, i_il 3 66),
  (66, i_al 0 67),
  (67, i_il 1 68),
  (68, i_il 4 70),
  (70, i_ci 3 P_X5_eatsOn Q_X5_eatsOn 73),
  (73, i_iadd 74),
  (74, i_is 3 75),
  (75, i_inc 4 (nI 1) 78),
  (78, i_go 56),
  (81, i_al 0 82),
  (82, i_gr 5 (fun i => (5, i, 1)) 85),
  (85, i_il 1 86),
  (86, i_c (nI 35) 88),
  (88, i_iadd 89),
  (89, i_dup2 90),
  (90, i_ia 91),
  (91, i_c (nI 1) 92),
  (92, i_iadd 93),
  (93, i_ias 94),
  (94, i_il 3 95),
  (95, i_ir)]
theorem k_X5_dayOn : ∀ q ∈ T_X5_dayOn, pm_sd RX5 cX5_dayOn 5 4 1 q.1 q.2 := by
  unfold T_X5_dayOn
  refine pm_cn (sd_iconst (z := 0) (by decide +kernel) (by decide +kernel) rfl) ?_
  refine pm_cn (sd_isn (k := 3) (by decide +kernel) rfl rfl (by decide)) ?_
  refine pm_cn (sd_aln (k := 0) (by decide +kernel) rfl rfl) ?_
  refine pm_cn (sd_iln (k := 1) (by decide +kernel) rfl rfl) ?_
  refine pm_cn (sd_cvv M_X5_asksOn cd_X5_asksOn rc_X5_asksOn cl5_ ml_X5_140 im_X5_asksOn se_X5_asksOn nt_X5 (by decide +kernel) (by omega) (by decide) (by decide +kernel) rfl) ?_
  refine pm_cn (sd_iconst (z := 0) (by decide +kernel) (by decide +kernel) rfl) ?_
  refine pm_cn (sd_is (by decide +kernel) rfl (by decide)) ?_
  refine pm_cn (sd_il (by decide +kernel) rfl) ?_
  refine pm_cn (sd_aln (k := 0) (by decide +kernel) rfl rfl) ?_
  refine pm_cn (sd_gr cl5_ in5_ (j := 0) (by decide) (fun _ => rfl) fl_X5_7 (by decide +kernel) rfl) ?_
  refine pm_cn (sd_iln (k := 1) (by decide +kernel) rfl rfl) ?_
  refine pm_cn (sd_bipush (z := 32) (by decide +kernel) (by decide +kernel) rfl) ?_
  refine pm_cn (sd_iadd (by decide +kernel) rfl) ?_
  refine pm_cn (sd_ia (by decide +kernel) rfl) ?_
  refine pm_cn (sd_icge (off := 32) (by decide +kernel) (by decide) rfl) ?_
  refine pm_cn (sd_aln (k := 0) (by decide +kernel) rfl rfl) ?_
  refine pm_cn (sd_gr cl5_ in5_ (j := 0) (by decide) (fun _ => rfl) fl_X5_7 (by decide +kernel) rfl) ?_
  refine pm_cn (sd_iln (k := 1) (by decide +kernel) rfl rfl) ?_
  refine pm_cn (sd_bipush (z := 20) (by decide +kernel) (by decide +kernel) rfl) ?_
  refine pm_cn (sd_iadd (by decide +kernel) rfl) ?_
  refine pm_cn (sd_il (by decide +kernel) rfl) ?_
  refine pm_cn (sd_iadd (by decide +kernel) rfl) ?_
  refine pm_cn (sd_dup2 (by decide +kernel) rfl) ?_
  refine pm_cn (sd_ia (by decide +kernel) rfl) ?_
  refine pm_cn (sd_aln (k := 0) (by decide +kernel) rfl rfl) ?_
  refine pm_cn (sd_iln (k := 1) (by decide +kernel) rfl rfl) ?_
  refine pm_cn (sd_il (by decide +kernel) rfl) ?_
  refine pm_cn (sd_iln (k := 2) (by decide +kernel) rfl rfl) ?_
  refine pm_cn (sd_civ M_X5_spoilsOn (by decide) cd_X5_spoilsOn rc_X5_spoilsOn cl5_ ml_X5_143 im_X5_spoilsOn se_X5_spoilsOn nt_X5 (by decide +kernel) (by omega) (by decide) (by decide +kernel) rfl) ?_
  refine pm_cn (sd_isub (by decide +kernel) rfl) ?_
  refine pm_cn (sd_ias (by decide +kernel) rfl) ?_
  refine pm_cn (sd_inc (z := 1) (by decide +kernel) (by decide +kernel) rfl (by decide)) ?_
  refine pm_cn (sd_go (off := -40) (by decide +kernel) (by decide)) ?_
  refine pm_cn (sd_iconst (z := 0) (by decide +kernel) (by decide +kernel) rfl) ?_
  refine pm_cn (sd_is (by decide +kernel) rfl (by decide)) ?_
  refine pm_cn (sd_il (by decide +kernel) rfl) ?_
  refine pm_cn (sd_aln (k := 0) (by decide +kernel) rfl rfl) ?_
  refine pm_cn (sd_gi cl5_ in5_ (by decide) (fun _ => rfl) fl_X5_126 (by decide +kernel) rfl) ?_
  refine pm_cn (sd_icge (off := 19) (by decide +kernel) (by decide) rfl) ?_
  refine pm_cn (sd_iln (k := 3) (by decide +kernel) rfl rfl) ?_
  refine pm_cn (sd_aln (k := 0) (by decide +kernel) rfl rfl) ?_
  refine pm_cn (sd_iln (k := 1) (by decide +kernel) rfl rfl) ?_
  refine pm_cn (sd_il (by decide +kernel) rfl) ?_
  refine pm_cn (sd_civ M_X5_eatsOn (by decide) cd_X5_eatsOn rc_X5_eatsOn cl5_ ml_X5_147 im_X5_eatsOn se_X5_eatsOn nt_X5 (by decide +kernel) (by omega) (by decide) (by decide +kernel) rfl) ?_
  refine pm_cn (sd_iadd (by decide +kernel) rfl) ?_
  refine pm_cn (sd_isn (k := 3) (by decide +kernel) rfl rfl (by decide)) ?_
  refine pm_cn (sd_inc (z := 1) (by decide +kernel) (by decide +kernel) rfl (by decide)) ?_
  refine pm_cn (sd_go (off := -22) (by decide +kernel) (by decide)) ?_
  refine pm_cn (sd_aln (k := 0) (by decide +kernel) rfl rfl) ?_
  refine pm_cn (sd_gr cl5_ in5_ (j := 0) (by decide) (fun _ => rfl) fl_X5_7 (by decide +kernel) rfl) ?_
  refine pm_cn (sd_iln (k := 1) (by decide +kernel) rfl rfl) ?_
  refine pm_cn (sd_bipush (z := 35) (by decide +kernel) (by decide +kernel) rfl) ?_
  refine pm_cn (sd_iadd (by decide +kernel) rfl) ?_
  refine pm_cn (sd_dup2 (by decide +kernel) rfl) ?_
  refine pm_cn (sd_ia (by decide +kernel) rfl) ?_
  refine pm_cn (sd_iconst (z := 1) (by decide +kernel) (by decide +kernel) rfl) ?_
  refine pm_cn (sd_iadd (by decide +kernel) rfl) ?_
  refine pm_cn (sd_ias (by decide +kernel) rfl) ?_
  refine pm_cn (sd_iln (k := 3) (by decide +kernel) rfl rfl) ?_
  refine pm_cn (sd_ir (by decide +kernel)) ?_
  exact fun _ h => absurd h List.not_mem_nil
set_option maxHeartbeats 800000 in
set_option maxRecDepth 100000 in
theorem pf_X5_dayOn : pm_pf T_X5_dayOn P_X5_dayOn (pm_pi Q_X5_dayOn) := by
  rintro ⟨pg, d, a, L, h0⟩ av h K hK ⟨rfl, rfl, hP, hpg, hw, hd, hday, hA, hF⟩ hret
  obtain ⟨w1, w2, w3, w4, w5, w6, w7, w8, w9, w10⟩ := id hw
  show K (some 0) ([(0, vR 5 0 0), (1, vI (nI pg)), (2, vI (nI d))], [], h)
  have hwr := la_ok_rotD hw hd (L 0 3)
  have loop2 : ∀ n k c M, k + n = L 0 0 → c = sp_meals (sp_rotD L d (L 0 3)) k → M = sp_feasts (sp_rotD L d (L 0 3)) k → K (some 56) ([(0, vR 5 0 0), (1, vI (nI pg)), (2, vI (nI d)), (3, vI (nI c)), (4, vI (nI k))], [], pg_put (pm_up h 5 0 0 17 (nI (a ||| sp_ans L))) pg M) := by
    intro n
    induction n with
    | zero =>
      intro k c M hk hc hM
      have e2 : M 0 10 = L 0 10 := by rw [hM, sp_feasts_s (by decide) (by decide), sp_rotD_s (by decide)]
      refine hK [(56, [0, 1, 2, 3, 4])] 40 _ _ ?_
      conv => whnf
      repeat' (first
        | (refine ⟨fun c9 => ?_, fun c9 => ?_⟩ <;> (try simp (disch := omega) only [nI_leI, nI_ltI, nI_eq, nz_eq, nz_lt, nz_gt, nz_le, nz_ge, nz_00, nz_n1, nI_add, pk_mul, pk_sub, nI_shl1, nI_or, nI_half2, nI_min2, la_put_eq, la_up, lr_same, lr_ne, lu_same, lu_ne, not_true_eq_false, not_false_eq_true, pr2, pr3, pr4, pr5, pr6, pr7, pr8, prN, prD, prB, prY, prQ, pr1, prO, subadd, anF, hF, puY, e2] at c9) <;> first | (exfalso; omega) | conv => whnf)
        | (refine ⟨_, rfl, by omega, ?_⟩; conv => whnf)
        | (refine ⟨_, rfl, rfl, rfl, by decide, by decide, ?_⟩; conv => whnf)
        | (refine ⟨_, by (simp (disch := omega) only [nI_leI, nI_ltI, nI_eq, nz_eq, nz_lt, nz_gt, nz_le, nz_ge, nz_00, nz_n1, nI_add, pk_mul, pk_sub, nI_shl1, nI_or, nI_half2, nI_min2, la_put_eq, la_up, lr_same, lr_ne, lu_same, lu_ne, not_true_eq_false, not_false_eq_true, pr2, pr3, pr4, pr5, pr6, pr7, pr8, prN, prD, prB, prY, prQ, pr1, prO, subadd, anF, hF, puY, e2]; rfl), by omega, ?_⟩; conv => whnf)
        | (apply And.intro; (first | assumption | decide | (simp (disch := omega) only [nI_leI, nI_ltI, nI_eq, nz_eq, nz_lt, nz_gt, nz_le, nz_ge, nz_00, nz_n1, nI_add, pk_mul, pk_sub, nI_shl1, nI_or, nI_half2, nI_min2, la_put_eq, la_up, lr_same, lr_ne, lu_same, lu_ne, not_true_eq_false, not_false_eq_true, pr2, pr3, pr4, pr5, pr6, pr7, pr8, prN, prD, prB, prY, prQ, pr1, prO, subadd, anF, hF, puY, e2]; omega)); conv => whnf))
      all_goals (try simp (disch := omega) only [nI_leI, nI_ltI, nI_eq, nz_eq, nz_lt, nz_gt, nz_le, nz_ge, nz_00, nz_n1, nI_add, pk_mul, pk_sub, nI_shl1, nI_or, nI_half2, nI_min2, la_put_eq, la_up, lr_same, lr_ne, lu_same, lu_ne, not_true_eq_false, not_false_eq_true, pr2, pr3, pr4, pr5, pr6, pr7, pr8, prN, prD, prB, prY, prQ, pr1, prO, subadd, anF, hF, puY, e2])
      have : k = L 0 0 := by omega
      subst this
      subst hc hM
      exact hret _ _ ⟨rfl, rfl⟩
    | succ n ih =>
      intro k c M hk hc hM
      refine hK [(56, [0, 1, 2, 3, 4])] 40 _ _ ?_
      conv => whnf
      repeat' (first
        | (refine ⟨fun c9 => ?_, fun c9 => ?_⟩ <;> (try simp (disch := omega) only [nI_leI, nI_ltI, nI_eq, nz_eq, nz_lt, nz_gt, nz_le, nz_ge, nz_00, nz_n1, nI_add, pk_mul, pk_sub, nI_shl1, nI_or, nI_half2, nI_min2, la_put_eq, la_up, lr_same, lr_ne, lu_same, lu_ne, not_true_eq_false, not_false_eq_true, pr2, pr3, pr4, pr5, pr6, pr7, pr8, prN, prD, prB, prY, prQ, pr1, prO, subadd, anF, hF] at c9) <;> first | (exfalso; omega) | conv => whnf)
        | (refine ⟨_, rfl, by omega, ?_⟩; conv => whnf)
        | (refine ⟨_, rfl, rfl, rfl, by decide, by decide, ?_⟩; conv => whnf)
        | (refine ⟨_, by (simp (disch := omega) only [nI_leI, nI_ltI, nI_eq, nz_eq, nz_lt, nz_gt, nz_le, nz_ge, nz_00, nz_n1, nI_add, pk_mul, pk_sub, nI_shl1, nI_or, nI_half2, nI_min2, la_put_eq, la_up, lr_same, lr_ne, lu_same, lu_ne, not_true_eq_false, not_false_eq_true, pr2, pr3, pr4, pr5, pr6, pr7, pr8, prN, prD, prB, prY, prQ, pr1, prO, subadd, anF, hF]; rfl), by omega, ?_⟩; conv => whnf)
        | (apply And.intro; (first | assumption | decide | (simp (disch := omega) only [nI_leI, nI_ltI, nI_eq, nz_eq, nz_lt, nz_gt, nz_le, nz_ge, nz_00, nz_n1, nI_add, pk_mul, pk_sub, nI_shl1, nI_or, nI_half2, nI_min2, la_put_eq, la_up, lr_same, lr_ne, lu_same, lu_ne, not_true_eq_false, not_false_eq_true, pr2, pr3, pr4, pr5, pr6, pr7, pr8, prN, prD, prB, prY, prQ, pr1, prO, subadd, anF, hF]; omega)); conv => whnf))
      all_goals (try simp (disch := omega) only [nI_leI, nI_ltI, nI_eq, nz_eq, nz_lt, nz_gt, nz_le, nz_ge, nz_00, nz_n1, nI_add, pk_mul, pk_sub, nI_shl1, nI_or, nI_half2, nI_min2, la_put_eq, la_up, lr_same, lr_ne, lu_same, lu_ne, not_true_eq_false, not_false_eq_true, pr2, pr3, pr4, pr5, pr6, pr7, pr8, prN, prD, prB, prY, prQ, pr1, prO, subadd, anF, hF])
      refine ⟨(pg, k, M, pg_put (pm_up h 5 0 0 17 (nI (a ||| sp_ans L))) pg M), ⟨rfl, rfl, pg_put_at _ pg M, hpg, by rw [hM]; exact la_ok_feasts hwr k (by omega), by omega⟩, fun v h' hq => ?_⟩
      obtain ⟨rfl, rfl⟩ := hq
      conv => whnf
      repeat' (first
        | (refine ⟨fun c9 => ?_, fun c9 => ?_⟩ <;> (try simp (disch := omega) only [nI_leI, nI_ltI, nI_eq, nz_eq, nz_lt, nz_gt, nz_le, nz_ge, nz_00, nz_n1, nI_add, pk_mul, pk_sub, nI_shl1, nI_or, nI_half2, nI_min2, la_put_eq, la_up, lr_same, lr_ne, lu_same, lu_ne, not_true_eq_false, not_false_eq_true, pg_put2] at c9) <;> first | (exfalso; omega) | conv => whnf)
        | (refine ⟨_, rfl, by omega, ?_⟩; conv => whnf)
        | (refine ⟨_, rfl, rfl, rfl, by decide, by decide, ?_⟩; conv => whnf)
        | (refine ⟨_, by (simp (disch := omega) only [nI_leI, nI_ltI, nI_eq, nz_eq, nz_lt, nz_gt, nz_le, nz_ge, nz_00, nz_n1, nI_add, pk_mul, pk_sub, nI_shl1, nI_or, nI_half2, nI_min2, la_put_eq, la_up, lr_same, lr_ne, lu_same, lu_ne, not_true_eq_false, not_false_eq_true, pg_put2]; rfl), by omega, ?_⟩; conv => whnf)
        | (apply And.intro; (first | assumption | decide | (simp (disch := omega) only [nI_leI, nI_ltI, nI_eq, nz_eq, nz_lt, nz_gt, nz_le, nz_ge, nz_00, nz_n1, nI_add, pk_mul, pk_sub, nI_shl1, nI_or, nI_half2, nI_min2, la_put_eq, la_up, lr_same, lr_ne, lu_same, lu_ne, not_true_eq_false, not_false_eq_true, pg_put2]; omega)); conv => whnf))
      all_goals (try simp (disch := omega) only [nI_leI, nI_ltI, nI_eq, nz_eq, nz_lt, nz_gt, nz_le, nz_ge, nz_00, nz_n1, nI_add, pk_mul, pk_sub, nI_shl1, nI_or, nI_half2, nI_min2, la_put_eq, la_up, lr_same, lr_ne, lu_same, lu_ne, not_true_eq_false, not_false_eq_true, pg_put2])
      refine ih (k + 1) _ _ (by omega) ?_ ?_
      · rw [sp_meals, ← hc, ← hM]
      · rw [sp_feasts, ← hM]
  have loop1 : ∀ n k M, k + n = L 0 3 → M = sp_rotD L d k → K (some 10) ([(0, vR 5 0 0), (1, vI (nI pg)), (2, vI (nI d)), (3, vI (nI 0)), (4, vI (nI k))], [], pg_put (pm_up h 5 0 0 17 (nI (a ||| sp_ans L))) pg M) := by
    intro n
    induction n with
    | zero =>
      intro k M hk hM
      have e1 : M 0 3 = L 0 3 := by rw [hM, sp_rotD_s (by decide)]
      refine hK [(10, [0, 1, 2, 3, 4]), (56, [0, 1, 2, 3, 4])] 40 _ _ ?_
      conv => whnf
      repeat' (first
        | (refine ⟨fun c9 => ?_, fun c9 => ?_⟩ <;> (try simp (disch := omega) only [nI_leI, nI_ltI, nI_eq, nz_eq, nz_lt, nz_gt, nz_le, nz_ge, nz_00, nz_n1, nI_add, pk_mul, pk_sub, nI_shl1, nI_or, nI_half2, nI_min2, la_put_eq, la_up, lr_same, lr_ne, lu_same, lu_ne, not_true_eq_false, not_false_eq_true, pr2, pr3, pr4, pr5, pr6, pr7, pr8, prN, prD, prB, prY, prQ, pr1, prO, subadd, e1] at c9) <;> first | (exfalso; omega) | conv => whnf)
        | (refine ⟨_, rfl, by omega, ?_⟩; conv => whnf)
        | (refine ⟨_, rfl, rfl, rfl, by decide, by decide, ?_⟩; conv => whnf)
        | (refine ⟨_, by (simp (disch := omega) only [nI_leI, nI_ltI, nI_eq, nz_eq, nz_lt, nz_gt, nz_le, nz_ge, nz_00, nz_n1, nI_add, pk_mul, pk_sub, nI_shl1, nI_or, nI_half2, nI_min2, la_put_eq, la_up, lr_same, lr_ne, lu_same, lu_ne, not_true_eq_false, not_false_eq_true, pr2, pr3, pr4, pr5, pr6, pr7, pr8, prN, prD, prB, prY, prQ, pr1, prO, subadd, e1]; rfl), by omega, ?_⟩; conv => whnf)
        | (apply And.intro; (first | assumption | decide | (simp (disch := omega) only [nI_leI, nI_ltI, nI_eq, nz_eq, nz_lt, nz_gt, nz_le, nz_ge, nz_00, nz_n1, nI_add, pk_mul, pk_sub, nI_shl1, nI_or, nI_half2, nI_min2, la_put_eq, la_up, lr_same, lr_ne, lu_same, lu_ne, not_true_eq_false, not_false_eq_true, pr2, pr3, pr4, pr5, pr6, pr7, pr8, prN, prD, prB, prY, prQ, pr1, prO, subadd, e1]; omega)); conv => whnf))
      all_goals (try simp (disch := omega) only [nI_leI, nI_ltI, nI_eq, nz_eq, nz_lt, nz_gt, nz_le, nz_ge, nz_00, nz_n1, nI_add, pk_mul, pk_sub, nI_shl1, nI_or, nI_half2, nI_min2, la_put_eq, la_up, lr_same, lr_ne, lu_same, lu_ne, not_true_eq_false, not_false_eq_true, pr2, pr3, pr4, pr5, pr6, pr7, pr8, prN, prD, prB, prY, prQ, pr1, prO, subadd, e1])
      have : k = L 0 3 := by omega
      subst this
      exact loop2 (L 0 0) 0 0 M (by omega) rfl hM
    | succ n ih =>
      intro k M hk hM
      have hB := w8 k (by omega)
      have e1 : M 0 3 = L 0 3 := by rw [hM, sp_rotD_s (by decide)]
      have e2 : M 5 k = L 5 k := by rw [hM, sp_rotD_5, if_neg (by omega)]
      have e3 : M 3 k = L 3 k := by rw [hM, sp_rotD_s (by decide)]
      have e4 : min (sp_loss d (L 3 k)) (L 5 k) ≤ L 5 k := Nat.min_le_right _ _
      refine hK [(10, [0, 1, 2, 3, 4]), (56, [0, 1, 2, 3, 4])] 40 _ _ ?_
      conv => whnf
      repeat' (first
        | (refine ⟨fun c9 => ?_, fun c9 => ?_⟩ <;> (try simp (disch := omega) only [nI_leI, nI_ltI, nI_eq, nz_eq, nz_lt, nz_gt, nz_le, nz_ge, nz_00, nz_n1, nI_add, pk_mul, pk_sub, nI_shl1, nI_or, nI_half2, nI_min2, la_put_eq, la_up, lr_same, lr_ne, lu_same, lu_ne, not_true_eq_false, not_false_eq_true, pr2, pr3, pr4, pr5, pr6, pr7, pr8, prN, prD, prB, prY, prQ, pr1, prO, subadd, e1, e2] at c9) <;> first | (exfalso; omega) | conv => whnf)
        | (refine ⟨_, rfl, by omega, ?_⟩; conv => whnf)
        | (refine ⟨_, rfl, rfl, rfl, by decide, by decide, ?_⟩; conv => whnf)
        | (refine ⟨_, by (simp (disch := omega) only [nI_leI, nI_ltI, nI_eq, nz_eq, nz_lt, nz_gt, nz_le, nz_ge, nz_00, nz_n1, nI_add, pk_mul, pk_sub, nI_shl1, nI_or, nI_half2, nI_min2, la_put_eq, la_up, lr_same, lr_ne, lu_same, lu_ne, not_true_eq_false, not_false_eq_true, pr2, pr3, pr4, pr5, pr6, pr7, pr8, prN, prD, prB, prY, prQ, pr1, prO, subadd, e1, e2]; rfl), by omega, ?_⟩; conv => whnf)
        | (apply And.intro; (first | assumption | decide | (simp (disch := omega) only [nI_leI, nI_ltI, nI_eq, nz_eq, nz_lt, nz_gt, nz_le, nz_ge, nz_00, nz_n1, nI_add, pk_mul, pk_sub, nI_shl1, nI_or, nI_half2, nI_min2, la_put_eq, la_up, lr_same, lr_ne, lu_same, lu_ne, not_true_eq_false, not_false_eq_true, pr2, pr3, pr4, pr5, pr6, pr7, pr8, prN, prD, prB, prY, prQ, pr1, prO, subadd, e1, e2]; omega)); conv => whnf))
      all_goals (try simp (disch := omega) only [nI_leI, nI_ltI, nI_eq, nz_eq, nz_lt, nz_gt, nz_le, nz_ge, nz_00, nz_n1, nI_add, pk_mul, pk_sub, nI_shl1, nI_or, nI_half2, nI_min2, la_put_eq, la_up, lr_same, lr_ne, lu_same, lu_ne, not_true_eq_false, not_false_eq_true, pr2, pr3, pr4, pr5, pr6, pr7, pr8, prN, prD, prB, prY, prQ, pr1, prO, subadd, e1, e2])
      refine ⟨(pg, k, d, M, pg_put (pm_up h 5 0 0 17 (nI (a ||| sp_ans L))) pg M), ⟨rfl, rfl, pg_put_at _ pg M, hpg, by omega, hd, by rw [e3]; exact hB.1, by rw [e2]; exact hB.2.2.1⟩, fun v h' hq => ?_⟩
      obtain ⟨rfl, rfl⟩ := hq
      rw [e2, e3]
      conv => whnf
      repeat' (first
        | (refine ⟨fun c9 => ?_, fun c9 => ?_⟩ <;> (try simp (disch := omega) only [nI_leI, nI_ltI, nI_eq, nz_eq, nz_lt, nz_gt, nz_le, nz_ge, nz_00, nz_n1, nI_add, pk_mul, pk_sub, nI_shl1, nI_or, nI_half2, nI_min2, la_put_eq, la_up, lr_same, lr_ne, lu_same, lu_ne, not_true_eq_false, not_false_eq_true, pr2, pr3, pr4, pr5, pr6, pr7, pr8, prN, prD, prB, prY, prQ, pr1, prO, subadd, pu5] at c9) <;> first | (exfalso; omega) | conv => whnf)
        | (refine ⟨_, rfl, by omega, ?_⟩; conv => whnf)
        | (refine ⟨_, rfl, rfl, rfl, by decide, by decide, ?_⟩; conv => whnf)
        | (refine ⟨_, by (simp (disch := omega) only [nI_leI, nI_ltI, nI_eq, nz_eq, nz_lt, nz_gt, nz_le, nz_ge, nz_00, nz_n1, nI_add, pk_mul, pk_sub, nI_shl1, nI_or, nI_half2, nI_min2, la_put_eq, la_up, lr_same, lr_ne, lu_same, lu_ne, not_true_eq_false, not_false_eq_true, pr2, pr3, pr4, pr5, pr6, pr7, pr8, prN, prD, prB, prY, prQ, pr1, prO, subadd, pu5]; rfl), by omega, ?_⟩; conv => whnf)
        | (apply And.intro; (first | assumption | decide | (simp (disch := omega) only [nI_leI, nI_ltI, nI_eq, nz_eq, nz_lt, nz_gt, nz_le, nz_ge, nz_00, nz_n1, nI_add, pk_mul, pk_sub, nI_shl1, nI_or, nI_half2, nI_min2, la_put_eq, la_up, lr_same, lr_ne, lu_same, lu_ne, not_true_eq_false, not_false_eq_true, pr2, pr3, pr4, pr5, pr6, pr7, pr8, prN, prD, prB, prY, prQ, pr1, prO, subadd, pu5]; omega)); conv => whnf))
      all_goals (try simp (disch := omega) only [nI_leI, nI_ltI, nI_eq, nz_eq, nz_lt, nz_gt, nz_le, nz_ge, nz_00, nz_n1, nI_add, pk_mul, pk_sub, nI_shl1, nI_or, nI_half2, nI_min2, la_put_eq, la_up, lr_same, lr_ne, lu_same, lu_ne, not_true_eq_false, not_false_eq_true, pr2, pr3, pr4, pr5, pr6, pr7, pr8, prN, prD, prB, prY, prQ, pr1, prO, subadd, pu5])
      refine ih (k + 1) _ (by omega) ?_
      rw [hM]
      exact sp_rotD_step rfl
  refine hK [(10, [0, 1, 2, 3, 4])] 20 _ _ ?_
  conv => whnf
  repeat' (first
    | (refine ⟨fun c9 => ?_, fun c9 => ?_⟩ <;> (try simp (disch := omega) only [nI_leI, nI_ltI, nI_eq, nz_eq, nz_lt, nz_gt, nz_le, nz_ge, nz_00, nz_n1, nI_add, pk_mul, pk_sub, nI_shl1, nI_or, nI_half2, nI_min2, la_put_eq, la_up, lr_same, lr_ne, lu_same, lu_ne, not_true_eq_false, not_false_eq_true, qr2 hP, qr3 hP, qr4 hP, qr5 hP, qr6 hP, qr7 hP, qr8 hP, qrN hP, qrD hP, qrB hP, qrY hP, qrQ hP, qr1 hP, subadd] at c9) <;> first | (exfalso; omega) | conv => whnf)
    | (refine ⟨_, rfl, by omega, ?_⟩; conv => whnf)
    | (refine ⟨_, rfl, rfl, rfl, by decide, by decide, ?_⟩; conv => whnf)
    | (refine ⟨_, by (simp (disch := omega) only [nI_leI, nI_ltI, nI_eq, nz_eq, nz_lt, nz_gt, nz_le, nz_ge, nz_00, nz_n1, nI_add, pk_mul, pk_sub, nI_shl1, nI_or, nI_half2, nI_min2, la_put_eq, la_up, lr_same, lr_ne, lu_same, lu_ne, not_true_eq_false, not_false_eq_true, qr2 hP, qr3 hP, qr4 hP, qr5 hP, qr6 hP, qr7 hP, qr8 hP, qrN hP, qrD hP, qrB hP, qrY hP, qrQ hP, qr1 hP, subadd]; rfl), by omega, ?_⟩; conv => whnf)
    | (apply And.intro; (first | assumption | decide | (simp (disch := omega) only [nI_leI, nI_ltI, nI_eq, nz_eq, nz_lt, nz_gt, nz_le, nz_ge, nz_00, nz_n1, nI_add, pk_mul, pk_sub, nI_shl1, nI_or, nI_half2, nI_min2, la_put_eq, la_up, lr_same, lr_ne, lu_same, lu_ne, not_true_eq_false, not_false_eq_true, qr2 hP, qr3 hP, qr4 hP, qr5 hP, qr6 hP, qr7 hP, qr8 hP, qrN hP, qrD hP, qrB hP, qrY hP, qrQ hP, qr1 hP, subadd]; omega)); conv => whnf))
  all_goals (try simp (disch := omega) only [nI_leI, nI_ltI, nI_eq, nz_eq, nz_lt, nz_gt, nz_le, nz_ge, nz_00, nz_n1, nI_add, pk_mul, pk_sub, nI_shl1, nI_or, nI_half2, nI_min2, la_put_eq, la_up, lr_same, lr_ne, lu_same, lu_ne, not_true_eq_false, not_false_eq_true, qr2 hP, qr3 hP, qr4 hP, qr5 hP, qr6 hP, qr7 hP, qr8 hP, qrN hP, qrD hP, qrB hP, qrY hP, qrQ hP, qr1 hP, subadd])
  refine ⟨(pg, a, L, h), ⟨rfl, rfl, hP, hpg, hw, hA⟩, fun h' hq => ?_⟩
  have hq' : h' = _ := hq
  subst hq'
  conv => whnf
  repeat' (first
    | (refine ⟨fun c9 => ?_, fun c9 => ?_⟩ <;> (try simp (disch := omega) only [nI_leI, nI_ltI, nI_eq, nz_eq, nz_lt, nz_gt, nz_le, nz_ge, nz_00, nz_n1, nI_add, pk_mul, pk_sub, nI_shl1, nI_or, nI_half2, nI_min2, la_put_eq, la_up, lr_same, lr_ne, lu_same, lu_ne, not_true_eq_false, not_false_eq_true, qr2 hP, qr3 hP, qr4 hP, qr5 hP, qr6 hP, qr7 hP, qr8 hP, qrN hP, qrD hP, qrB hP, qrY hP, qrQ hP, qr1 hP, subadd] at c9) <;> first | (exfalso; omega) | conv => whnf)
    | (refine ⟨_, rfl, by omega, ?_⟩; conv => whnf)
    | (refine ⟨_, rfl, rfl, rfl, by decide, by decide, ?_⟩; conv => whnf)
    | (refine ⟨_, by (simp (disch := omega) only [nI_leI, nI_ltI, nI_eq, nz_eq, nz_lt, nz_gt, nz_le, nz_ge, nz_00, nz_n1, nI_add, pk_mul, pk_sub, nI_shl1, nI_or, nI_half2, nI_min2, la_put_eq, la_up, lr_same, lr_ne, lu_same, lu_ne, not_true_eq_false, not_false_eq_true, qr2 hP, qr3 hP, qr4 hP, qr5 hP, qr6 hP, qr7 hP, qr8 hP, qrN hP, qrD hP, qrB hP, qrY hP, qrQ hP, qr1 hP, subadd]; rfl), by omega, ?_⟩; conv => whnf)
    | (apply And.intro; (first | assumption | decide | (simp (disch := omega) only [nI_leI, nI_ltI, nI_eq, nz_eq, nz_lt, nz_gt, nz_le, nz_ge, nz_00, nz_n1, nI_add, pk_mul, pk_sub, nI_shl1, nI_or, nI_half2, nI_min2, la_put_eq, la_up, lr_same, lr_ne, lu_same, lu_ne, not_true_eq_false, not_false_eq_true, qr2 hP, qr3 hP, qr4 hP, qr5 hP, qr6 hP, qr7 hP, qr8 hP, qrN hP, qrD hP, qrB hP, qrY hP, qrQ hP, qr1 hP, subadd]; omega)); conv => whnf))
  all_goals (try simp (disch := omega) only [nI_leI, nI_ltI, nI_eq, nz_eq, nz_lt, nz_gt, nz_le, nz_ge, nz_00, nz_n1, nI_add, pk_mul, pk_sub, nI_shl1, nI_or, nI_half2, nI_min2, la_put_eq, la_up, lr_same, lr_ne, lu_same, lu_ne, not_true_eq_false, not_false_eq_true, qr2 hP, qr3 hP, qr4 hP, qr5 hP, qr6 hP, qr7 hP, qr8 hP, qrN hP, qrD hP, qrB hP, qrY hP, qrQ hP, qr1 hP, subadd])
  have := loop1 (L 0 3) 0 L (by omega) (sp_rotD_0 L d).symm
  rw [pg_self (pg_at_field hP)] at this
  exact this
theorem M_X5_dayOn : pm_MT yX5_dayOn cX5_dayOn 5 1 4 P_X5_dayOn (pm_pi Q_X5_dayOn) := pm_met k_X5_dayOn (by decide) rfl (by
  rintro ⟨g0, g1, g2, g3, g4⟩ av h hp
  rw [hp.1]
  exact Nat.le_of_ble_eq_true rfl) pf_X5_dayOn
theorem rc_X5_dayOn : ∀ g av h, P_X5_dayOn g av h → ∃ i t, av = .inr (.inr (5, i, 0)) :: t := by
  rintro ⟨g0, g1, g2, g3, g4⟩ av h hp
  exact ⟨_, _, hp.1⟩
