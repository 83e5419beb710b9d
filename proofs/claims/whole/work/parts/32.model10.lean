/-! THE MODEL: swap. -/
def P_X5_swap : Int32 × LD × pm_H → List pm_V → pm_H → Prop := fun g av h => match g with
  | (w, Y, h0) => av = [vR 5 0 0, vI w] ∧ h = h0 ∧ md h0 Y ∧ Y 0 10 ≤ 999
def Q_X5_swap : Int32 × LD × pm_H → Int32 → pm_H → Prop := fun g r h => match g with
  | (w, N, h0) => mf h0 h ∧ r = a_swap N w
theorem tr_at (L N : LD) (s a b : Nat) (h1 : L s a = N s a) (h2 : L s b = N s b) : lu (lu L s a (N s b)) s b (N s a) = sp_tr L s a b := by
  unfold sp_tr
  rw [h1, h2]
theorem tr_ne {L : LD} {s s' a b j : Nat} (h : s' ≠ s) : sp_tr L s a b s' j = L s' j := by
  unfold sp_tr
  rw [lu_ne (by omega), lu_ne (by omega)]
def T_X5_swap : List (Nat × pm_T) := [
  (0, i_il 1 1),
  (1, i_i2l 2),
  (2, i_cl (lN 0) 3),
  (3, i_cl (lN 1) 4),
  (4, i_ci 3 P_X5_in Q_X5_in 7),
  (7, i_ifne 12 10),
  (10, i_c (-1) 11),
  (11, i_ir),
  (12, i_al 0 13),
  (13, i_c (nI 0) 14),
  (14, i_ci 2 P_X5_answersOf Q_X5_answersOf 17),
  (17, i_is 2 18),
  (18, i_c (-4) 20),
  (20, i_is 3 21),
  (21, i_c (nI 0) 22),
  (22, i_is 4 24),
  (24, i_il 4 26),
  (26, i_al 0 27),
  (27, i_gr 5 (fun i => (5, i, 1)) 30),
  (30, i_c (nI 32) 32),
  (32, i_ia 33),
  (33, i_icge 180 36),
  (36, i_il 4 38),
  (38, i_c (nI 1) 39),
  (39, i_iadd 40),
  (40, i_is 5 42),
  (42, i_il 5 44),
  (44, i_al 0 45),
  (45, i_gr 5 (fun i => (5, i, 1)) 48),
  (48, i_c (nI 32) 50),
  (50, i_ia 51),
  (51, i_icge 174 54),
  (54, i_al 0 55),
  (55, i_c (nI 0) 56),
  (56, i_c (nI 245) 59),
  (59, i_cv 3 P_X5_copies Q_X5_copies 62),
  (62, i_c (nI 8) 64),
  (64, i_is 6 66),
  (66, i_il 6 68),
  (68, i_c (nI 32) 70),
  (70, i_icge 127 73),
  (73, i_al 0 74),
  (74, i_gr 5 (fun i => (5, i, 1)) 77),
  (77, i_c (nI 245) 80),
  (80, i_il 6 82),
  (82, i_iadd 83),
  (83, i_il 4 85),
  (85, i_iadd 86),
  (86, i_al 0 87),
  (87, i_gr 5 (fun i => (5, i, 1)) 90),
  (90, i_il 6 92),
  (92, i_il 5 94),
  (94, i_iadd 95),
  (95, i_ia 96),
  (96, i_ias 97),
  (97, i_al 0 98),
  (98, i_gr 5 (fun i => (5, i, 1)) 101),
  (101, i_c (nI 245) 104),
  (104, i_il 6 106),
  (106, i_iadd 107),
  (107, i_il 5 109),
  (109, i_iadd 110),
  (110, i_al 0 111),
  (111, i_gr 5 (fun i => (5, i, 1)) 114),
  (114, i_il 6 116),
  (116, i_il 4 118),
  (118, i_iadd 119),
  (119, i_ia 120),
  (120, i_ias 121),
  (121, i_inc 6 (nI 6) 124),
  (124, i_go 66),
  (127, i_al 0 128),
  (128, i_c (nI 245) 131),
  (131, i_ci 2 P_X5_answersOf Q_X5_answersOf 134),
  (134, i_is 6 136),
  (136, i_il 6 138),
  (138, i_il 2 139),
  (139, i_icle 153 142),
  (142, i_c (nI 10) 144),
  (144, i_il 4 146),
  (146, i_imul 147),
  (147, i_il 5 149),
  (149, i_iadd 150),
  (150, i_go 154),
  (153, i_il 3 154),
  (154, i_is 3 155),
  (155, i_il 6 157),
  (157, i_il 2 158),
  (158, i_icle 166 161),
  (161, i_il 6 163),
  (163, i_go 167),
  (166, i_il 2 167),
  (167, i_is 2 168),
  (168, i_inc 5 (nI 1) 171),
  (171, i_go 42),
  (174, i_inc 4 (nI 1) 177),
  (177, i_go 24),
  (180, i_il 3 181),
  (181, i_c (-4) 183),
  (183, i_iceq 190 186),
  (186, i_il 1 187),
  (187, i_ifne 194 190),
  (190, i_il 3 191),
  (191, i_go 195),
  (194, i_il 2 195),
  (195, i_ir)]
theorem k_X5_swap : ∀ q ∈ T_X5_swap, pm_sd RX5 cX5_swap 7 7 1 q.1 q.2 := by
  unfold T_X5_swap
  refine pm_cn (sd_iln (k := 1) (by decide +kernel) rfl rfl) ?_
  refine pm_cn (sd_i2l (by decide +kernel) rfl) ?_
  refine pm_cn (sd_lconst (z := 0) (by decide +kernel) (by decide +kernel) rfl) ?_
  refine pm_cn (sd_lconst (z := 1) (by decide +kernel) (by decide +kernel) rfl) ?_
  refine pm_cn (sd_cis M_X5_in (by decide) cd_X5_in ml_X5_46 st_X5_in nt_X5 (by decide +kernel) (by omega) (by decide) (by decide +kernel) rfl) ?_
  refine pm_cn (sd_ifne (off := 5) (by decide +kernel) (by decide) rfl) ?_
  refine pm_cn (sd_iconst (z := -1) (by decide +kernel) (by decide +kernel) rfl) ?_
  refine pm_cn (sd_ir (by decide +kernel)) ?_
  refine pm_cn (sd_aln (k := 0) (by decide +kernel) rfl rfl) ?_
  refine pm_cn (sd_iconst (z := 0) (by decide +kernel) (by decide +kernel) rfl) ?_
  refine pm_cn (sd_civ M_X5_answersOf (by decide) cd_X5_answersOf rc_X5_answersOf cl5_ ml_X5_205 im_X5_answersOf se_X5_answersOf nt_X5 (by decide +kernel) (by omega) (by decide) (by decide +kernel) rfl) ?_
  refine pm_cn (sd_isn (k := 2) (by decide +kernel) rfl rfl (by decide)) ?_
  refine pm_cn (sd_bipush (z := -4) (by decide +kernel) (by decide +kernel) rfl) ?_
  refine pm_cn (sd_isn (k := 3) (by decide +kernel) rfl rfl (by decide)) ?_
  refine pm_cn (sd_iconst (z := 0) (by decide +kernel) (by decide +kernel) rfl) ?_
  refine pm_cn (sd_is (by decide +kernel) rfl (by decide)) ?_
  refine pm_cn (sd_il (by decide +kernel) rfl) ?_
  refine pm_cn (sd_aln (k := 0) (by decide +kernel) rfl rfl) ?_
  refine pm_cn (sd_gr cl5_ in5_ (j := 0) (by decide) (fun _ => rfl) fl_X5_7 (by decide +kernel) rfl) ?_
  refine pm_cn (sd_bipush (z := 32) (by decide +kernel) (by decide +kernel) rfl) ?_
  refine pm_cn (sd_ia (by decide +kernel) rfl) ?_
  refine pm_cn (sd_icge (off := 147) (by decide +kernel) (by decide) rfl) ?_
  refine pm_cn (sd_il (by decide +kernel) rfl) ?_
  refine pm_cn (sd_iconst (z := 1) (by decide +kernel) (by decide +kernel) rfl) ?_
  refine pm_cn (sd_iadd (by decide +kernel) rfl) ?_
  refine pm_cn (sd_is (by decide +kernel) rfl (by decide)) ?_
  refine pm_cn (sd_il (by decide +kernel) rfl) ?_
  refine pm_cn (sd_aln (k := 0) (by decide +kernel) rfl rfl) ?_
  refine pm_cn (sd_gr cl5_ in5_ (j := 0) (by decide) (fun _ => rfl) fl_X5_7 (by decide +kernel) rfl) ?_
  refine pm_cn (sd_bipush (z := 32) (by decide +kernel) (by decide +kernel) rfl) ?_
  refine pm_cn (sd_ia (by decide +kernel) rfl) ?_
  refine pm_cn (sd_icge (off := 123) (by decide +kernel) (by decide) rfl) ?_
  refine pm_cn (sd_aln (k := 0) (by decide +kernel) rfl rfl) ?_
  refine pm_cn (sd_iconst (z := 0) (by decide +kernel) (by decide +kernel) rfl) ?_
  refine pm_cn (sd_sipush (z := 245) (by decide +kernel) (by decide +kernel) rfl) ?_
  refine pm_cn (sd_cvv M_X5_copies cd_X5_copies rc_X5_copies cl5_ ml_X5_190 im_X5_copies se_X5_copies nt_X5 (by decide +kernel) (by omega) (by decide) (by decide +kernel) rfl) ?_
  refine pm_cn (sd_bipush (z := 8) (by decide +kernel) (by decide +kernel) rfl) ?_
  refine pm_cn (sd_is (by decide +kernel) rfl (by decide)) ?_
  refine pm_cn (sd_il (by decide +kernel) rfl) ?_
  refine pm_cn (sd_bipush (z := 32) (by decide +kernel) (by decide +kernel) rfl) ?_
  refine pm_cn (sd_icge (off := 57) (by decide +kernel) (by decide) rfl) ?_
  refine pm_cn (sd_aln (k := 0) (by decide +kernel) rfl rfl) ?_
  refine pm_cn (sd_gr cl5_ in5_ (j := 0) (by decide) (fun _ => rfl) fl_X5_7 (by decide +kernel) rfl) ?_
  refine pm_cn (sd_sipush (z := 245) (by decide +kernel) (by decide +kernel) rfl) ?_
  refine pm_cn (sd_il (by decide +kernel) rfl) ?_
  refine pm_cn (sd_iadd (by decide +kernel) rfl) ?_
  refine pm_cn (sd_il (by decide +kernel) rfl) ?_
  refine pm_cn (sd_iadd (by decide +kernel) rfl) ?_
  refine pm_cn (sd_aln (k := 0) (by decide +kernel) rfl rfl) ?_
  refine pm_cn (sd_gr cl5_ in5_ (j := 0) (by decide) (fun _ => rfl) fl_X5_7 (by decide +kernel) rfl) ?_
  refine pm_cn (sd_il (by decide +kernel) rfl) ?_
  refine pm_cn (sd_il (by decide +kernel) rfl) ?_
  refine pm_cn (sd_iadd (by decide +kernel) rfl) ?_
  refine pm_cn (sd_ia (by decide +kernel) rfl) ?_
  refine pm_cn (sd_ias (by decide +kernel) rfl) ?_
  refine pm_cn (sd_aln (k := 0) (by decide +kernel) rfl rfl) ?_
  refine pm_cn (sd_gr cl5_ in5_ (j := 0) (by decide) (fun _ => rfl) fl_X5_7 (by decide +kernel) rfl) ?_
  refine pm_cn (sd_sipush (z := 245) (by decide +kernel) (by decide +kernel) rfl) ?_
  refine pm_cn (sd_il (by decide +kernel) rfl) ?_
  refine pm_cn (sd_iadd (by decide +kernel) rfl) ?_
  refine pm_cn (sd_il (by decide +kernel) rfl) ?_
  refine pm_cn (sd_iadd (by decide +kernel) rfl) ?_
  refine pm_cn (sd_aln (k := 0) (by decide +kernel) rfl rfl) ?_
  refine pm_cn (sd_gr cl5_ in5_ (j := 0) (by decide) (fun _ => rfl) fl_X5_7 (by decide +kernel) rfl) ?_
  refine pm_cn (sd_il (by decide +kernel) rfl) ?_
  refine pm_cn (sd_il (by decide +kernel) rfl) ?_
  refine pm_cn (sd_iadd (by decide +kernel) rfl) ?_
  refine pm_cn (sd_ia (by decide +kernel) rfl) ?_
  refine pm_cn (sd_ias (by decide +kernel) rfl) ?_
  refine pm_cn (sd_inc (z := 6) (by decide +kernel) (by decide +kernel) rfl (by decide)) ?_
  refine pm_cn (sd_go (off := -58) (by decide +kernel) (by decide)) ?_
  refine pm_cn (sd_aln (k := 0) (by decide +kernel) rfl rfl) ?_
  refine pm_cn (sd_sipush (z := 245) (by decide +kernel) (by decide +kernel) rfl) ?_
  refine pm_cn (sd_civ M_X5_answersOf (by decide) cd_X5_answersOf rc_X5_answersOf cl5_ ml_X5_205 im_X5_answersOf se_X5_answersOf nt_X5 (by decide +kernel) (by omega) (by decide) (by decide +kernel) rfl) ?_
  refine pm_cn (sd_is (by decide +kernel) rfl (by decide)) ?_
  refine pm_cn (sd_il (by decide +kernel) rfl) ?_
  refine pm_cn (sd_iln (k := 2) (by decide +kernel) rfl rfl) ?_
  refine pm_cn (sd_icle (off := 14) (by decide +kernel) (by decide) rfl) ?_
  refine pm_cn (sd_bipush (z := 10) (by decide +kernel) (by decide +kernel) rfl) ?_
  refine pm_cn (sd_il (by decide +kernel) rfl) ?_
  refine pm_cn (sd_imul (by decide +kernel) rfl) ?_
  refine pm_cn (sd_il (by decide +kernel) rfl) ?_
  refine pm_cn (sd_iadd (by decide +kernel) rfl) ?_
  refine pm_cn (sd_go (off := 4) (by decide +kernel) (by decide)) ?_
  refine pm_cn (sd_iln (k := 3) (by decide +kernel) rfl rfl) ?_
  refine pm_cn (sd_isn (k := 3) (by decide +kernel) rfl rfl (by decide)) ?_
  refine pm_cn (sd_il (by decide +kernel) rfl) ?_
  refine pm_cn (sd_iln (k := 2) (by decide +kernel) rfl rfl) ?_
  refine pm_cn (sd_icle (off := 8) (by decide +kernel) (by decide) rfl) ?_
  refine pm_cn (sd_il (by decide +kernel) rfl) ?_
  refine pm_cn (sd_go (off := 4) (by decide +kernel) (by decide)) ?_
  refine pm_cn (sd_iln (k := 2) (by decide +kernel) rfl rfl) ?_
  refine pm_cn (sd_isn (k := 2) (by decide +kernel) rfl rfl (by decide)) ?_
  refine pm_cn (sd_inc (z := 1) (by decide +kernel) (by decide +kernel) rfl (by decide)) ?_
  refine pm_cn (sd_go (off := -129) (by decide +kernel) (by decide)) ?_
  refine pm_cn (sd_inc (z := 1) (by decide +kernel) (by decide +kernel) rfl (by decide)) ?_
  refine pm_cn (sd_go (off := -153) (by decide +kernel) (by decide)) ?_
  refine pm_cn (sd_iln (k := 3) (by decide +kernel) rfl rfl) ?_
  refine pm_cn (sd_bipush (z := -4) (by decide +kernel) (by decide +kernel) rfl) ?_
  refine pm_cn (sd_iceq (off := 7) (by decide +kernel) (by decide) rfl) ?_
  refine pm_cn (sd_iln (k := 1) (by decide +kernel) rfl rfl) ?_
  refine pm_cn (sd_ifne (off := 7) (by decide +kernel) (by decide) rfl) ?_
  refine pm_cn (sd_iln (k := 3) (by decide +kernel) rfl rfl) ?_
  refine pm_cn (sd_go (off := 4) (by decide +kernel) (by decide)) ?_
  refine pm_cn (sd_iln (k := 2) (by decide +kernel) rfl rfl) ?_
  refine pm_cn (sd_ir (by decide +kernel)) ?_
  exact fun _ h => absurd h List.not_mem_nil
set_option maxHeartbeats 800000 in
set_option maxRecDepth 100000 in
theorem pf_X5_swap : pm_pf T_X5_swap P_X5_swap (pm_pi Q_X5_swap) := by
  rintro ⟨w, N, h0⟩ av h K hK ⟨rfl, rfl, ⟨hP, wN, hF⟩, hd⟩ hret
  have w2 := wN.2.1
  show K (some 0) ([(0, vR 5 0 0), (1, vI w)], [], h)
  refine hK [(24, [0, 1, 2, 3, 4]), (42, [0, 1, 2, 3, 4, 5]), (66, [0, 1, 2, 3, 4, 5, 6])] 80 _ _ ?_
  conv => whnf
  repeat' (first
    | (refine ⟨fun c9 => ?_, fun c9 => ?_⟩ <;> (try simp (disch := omega) only [nI_leI, nI_ltI, nI_eq, nz_eq, nz_lt, nz_gt, nz_le, nz_ge, nz_00, nz_n1, nI_add, pk_mul, pk_sub, nI_shl1, nI_or, nI_half2, nI_min2, la_put_eq, la_up, lr_same, lr_ne, lu_same, lu_ne, not_true_eq_false, not_false_eq_true] at c9) <;> first | (exfalso; omega) | conv => whnf)
    | (refine ⟨_, rfl, by omega, ?_⟩; conv => whnf)
    | (refine ⟨_, rfl, rfl, rfl, by decide, by decide, ?_⟩; conv => whnf)
    | (refine ⟨_, by (simp (disch := omega) only [nI_leI, nI_ltI, nI_eq, nz_eq, nz_lt, nz_gt, nz_le, nz_ge, nz_00, nz_n1, nI_add, pk_mul, pk_sub, nI_shl1, nI_or, nI_half2, nI_min2, la_put_eq, la_up, lr_same, lr_ne, lu_same, lu_ne, not_true_eq_false, not_false_eq_true]; rfl), by omega, ?_⟩; conv => whnf)
    | (apply And.intro; (first | assumption | decide | (simp (disch := omega) only [nI_leI, nI_ltI, nI_eq, nz_eq, nz_lt, nz_gt, nz_le, nz_ge, nz_00, nz_n1, nI_add, pk_mul, pk_sub, nI_shl1, nI_or, nI_half2, nI_min2, la_put_eq, la_up, lr_same, lr_ne, lu_same, lu_ne, not_true_eq_false, not_false_eq_true]; omega)); conv => whnf))
  all_goals (try simp (disch := omega) only [nI_leI, nI_ltI, nI_eq, nz_eq, nz_lt, nz_gt, nz_le, nz_ge, nz_00, nz_n1, nI_add, pk_mul, pk_sub, nI_shl1, nI_or, nI_half2, nI_min2, la_put_eq, la_up, lr_same, lr_ne, lu_same, lu_ne, not_true_eq_false, not_false_eq_true])
  refine ⟨(w.toInt64, lN 0, lN 1, _), ⟨rfl, rfl⟩, fun v h' hq => ?_⟩
  obtain ⟨rfl, ⟨hw, rfl⟩ | ⟨hc, rfl⟩⟩ := Q_hf hq
  · have outer : ∀ n a H p, a + n = N 0 3 → mf h' H → p = sp_swO N a → K (some 24) ([(0, vR 5 0 0), (1, vI w), (2, vI (sp_m1 p.2)), (3, vI p.1), (4, vI (nI a))], [], H) := by
      intro n
      induction n with
      | zero =>
        intro a H p he hH hp
        have : a = N 0 3 := by omega
        subst this
        subst hp
        have eN := zrN (mf_P hH hP)
        refine hK [(24, [0, 1, 2, 3, 4]), (42, [0, 1, 2, 3, 4, 5]), (66, [0, 1, 2, 3, 4, 5, 6])] 60 _ _ ?_
        conv => whnf
        repeat' (first
          | (refine ⟨fun c9 => ?_, fun c9 => ?_⟩ <;> (try simp (disch := omega) only [nI_leI, nI_ltI, nI_eq, nz_eq, nz_lt, nz_gt, nz_le, nz_ge, nz_00, nz_n1, nI_add, pk_mul, pk_sub, nI_shl1, nI_or, nI_half2, nI_min2, la_put_eq, la_up, lr_same, lr_ne, lu_same, lu_ne, not_true_eq_false, not_false_eq_true, eN] at c9) <;> first | (exfalso; omega) | conv => whnf)
          | (refine ⟨_, rfl, by omega, ?_⟩; conv => whnf)
          | (refine ⟨_, rfl, rfl, rfl, by decide, by decide, ?_⟩; conv => whnf)
          | (refine ⟨_, by (simp (disch := omega) only [nI_leI, nI_ltI, nI_eq, nz_eq, nz_lt, nz_gt, nz_le, nz_ge, nz_00, nz_n1, nI_add, pk_mul, pk_sub, nI_shl1, nI_or, nI_half2, nI_min2, la_put_eq, la_up, lr_same, lr_ne, lu_same, lu_ne, not_true_eq_false, not_false_eq_true, eN]; rfl), by omega, ?_⟩; conv => whnf)
          | (apply And.intro; (first | assumption | decide | (simp (disch := omega) only [nI_leI, nI_ltI, nI_eq, nz_eq, nz_lt, nz_gt, nz_le, nz_ge, nz_00, nz_n1, nI_add, pk_mul, pk_sub, nI_shl1, nI_or, nI_half2, nI_min2, la_put_eq, la_up, lr_same, lr_ne, lu_same, lu_ne, not_true_eq_false, not_false_eq_true, eN]; omega)); conv => whnf))
        all_goals (try simp (disch := omega) only [nI_leI, nI_ltI, nI_eq, nz_eq, nz_lt, nz_gt, nz_le, nz_ge, nz_00, nz_n1, nI_add, pk_mul, pk_sub, nI_shl1, nI_or, nI_half2, nI_min2, la_put_eq, la_up, lr_same, lr_ne, lu_same, lu_ne, not_true_eq_false, not_false_eq_true, eN])
        all_goals (refine hret _ _ ⟨hH, ?_⟩; rw [a_swap, ci_t hw, hlf])
        · by_cases q : w = nI 0
          · rw [if_pos q]
          · rw [if_neg q, if_pos (by assumption)]
        · rw [if_neg (by assumption), if_neg (by assumption)]
        · rw [if_pos (by assumption)]
      | succ n ih =>
        intro a H p he hH hp
        have hpl : p.2 ≤ 32 := by rw [hp]; exact sp_swO_le N a
        have inner : ∀ m j H q, a + 1 + j + m = N 0 3 → mf h' H → q = sp_swI N a p j → K (some 42) ([(0, vR 5 0 0), (1, vI w), (2, vI (sp_m1 q.2)), (3, vI q.1), (4, vI (nI a)), (5, vI (nI (a + 1 + j)))], [], H) := by
          intro m
          induction m with
          | zero =>
            intro j H q hj hH hq
            have eN := zrN (mf_P hH hP)
            refine hK [(24, [0, 1, 2, 3, 4]), (42, [0, 1, 2, 3, 4, 5]), (66, [0, 1, 2, 3, 4, 5, 6])] 60 _ _ ?_
            conv => whnf
            repeat' (first
              | (refine ⟨fun c9 => ?_, fun c9 => ?_⟩ <;> (try simp (disch := omega) only [nI_leI, nI_ltI, nI_eq, nz_eq, nz_lt, nz_gt, nz_le, nz_ge, nz_00, nz_n1, nI_add, pk_mul, pk_sub, nI_shl1, nI_or, nI_half2, nI_min2, la_put_eq, la_up, lr_same, lr_ne, lu_same, lu_ne, not_true_eq_false, not_false_eq_true, eN] at c9) <;> first | (exfalso; omega) | conv => whnf)
              | (refine ⟨_, rfl, by omega, ?_⟩; conv => whnf)
              | (refine ⟨_, rfl, rfl, rfl, by decide, by decide, ?_⟩; conv => whnf)
              | (refine ⟨_, by (simp (disch := omega) only [nI_leI, nI_ltI, nI_eq, nz_eq, nz_lt, nz_gt, nz_le, nz_ge, nz_00, nz_n1, nI_add, pk_mul, pk_sub, nI_shl1, nI_or, nI_half2, nI_min2, la_put_eq, la_up, lr_same, lr_ne, lu_same, lu_ne, not_true_eq_false, not_false_eq_true, eN]; rfl), by omega, ?_⟩; conv => whnf)
              | (apply And.intro; (first | assumption | decide | (simp (disch := omega) only [nI_leI, nI_ltI, nI_eq, nz_eq, nz_lt, nz_gt, nz_le, nz_ge, nz_00, nz_n1, nI_add, pk_mul, pk_sub, nI_shl1, nI_or, nI_half2, nI_min2, la_put_eq, la_up, lr_same, lr_ne, lu_same, lu_ne, not_true_eq_false, not_false_eq_true, eN]; omega)); conv => whnf))
            all_goals (try simp (disch := omega) only [nI_leI, nI_ltI, nI_eq, nz_eq, nz_lt, nz_gt, nz_le, nz_ge, nz_00, nz_n1, nI_add, pk_mul, pk_sub, nI_shl1, nI_or, nI_half2, nI_min2, la_put_eq, la_up, lr_same, lr_ne, lu_same, lu_ne, not_true_eq_false, not_false_eq_true, eN])
            refine ih (a + 1) H q (by omega) hH ?_
            rw [sp_swO, ← hp, hq, show N 0 3 - (a + 1) = j by omega]
          | succ m ih2 =>
            intro j H q hj hH hq
            obtain ⟨b, hb⟩ : ∃ b, b = a + 1 + j := ⟨_, rfl⟩
            rw [← hb]
            have wV : la_ok (sp_xch N a b) := la_ok_xch wN (by omega) (by omega)
            have e10 := sp_xch_0 N a b 10
            have e00 := sp_xch_0 N a b 0
            have hcl := sp_cnt_le (sp_xch N a b)
            have hql : q.2 ≤ 32 := by rw [hq]; exact sp_swI_le hpl j
            have hst : sp_swI N a p (j + 1) = sp_up1 (sp_cnt (sp_xch N a b)) (nI (10 * a + b)) q := by
              rw [sp_swI, ← hq, ← hb]
            have eN := zrN (mf_P hH hP)
            have hPq := mf_P hH hP
            have f5 : K (some 66) ([(0, vR 5 0 0), (1, vI w), (2, vI (sp_m1 q.2)), (3, vI q.1), (4, vI (nI a)), (5, vI (nI b)), (6, vI (nI 32))], [], pg_put H 245 (sp_xch N a b)) := by
              refine hK [(24, [0, 1, 2, 3, 4]), (42, [0, 1, 2, 3, 4, 5]), (66, [0, 1, 2, 3, 4, 5, 6])] 60 _ _ ?_
              conv => whnf
              repeat' (first
                | (refine ⟨fun c9 => ?_, fun c9 => ?_⟩ <;> (try simp (disch := omega) only [nI_leI, nI_ltI, nI_eq, nz_eq, nz_lt, nz_gt, nz_le, nz_ge, nz_00, nz_n1, nI_add, pk_mul, pk_sub, nI_shl1, nI_or, nI_half2, nI_min2, la_put_eq, la_up, lr_same, lr_ne, lu_same, lu_ne, not_true_eq_false, not_false_eq_true] at c9) <;> first | (exfalso; omega) | conv => whnf)
                | (refine ⟨_, rfl, by omega, ?_⟩; conv => whnf)
                | (refine ⟨_, rfl, rfl, rfl, by decide, by decide, ?_⟩; conv => whnf)
                | (refine ⟨_, by (simp (disch := omega) only [nI_leI, nI_ltI, nI_eq, nz_eq, nz_lt, nz_gt, nz_le, nz_ge, nz_00, nz_n1, nI_add, pk_mul, pk_sub, nI_shl1, nI_or, nI_half2, nI_min2, la_put_eq, la_up, lr_same, lr_ne, lu_same, lu_ne, not_true_eq_false, not_false_eq_true]; rfl), by omega, ?_⟩; conv => whnf)
                | (apply And.intro; (first | assumption | decide | (simp (disch := omega) only [nI_leI, nI_ltI, nI_eq, nz_eq, nz_lt, nz_gt, nz_le, nz_ge, nz_00, nz_n1, nI_add, pk_mul, pk_sub, nI_shl1, nI_or, nI_half2, nI_min2, la_put_eq, la_up, lr_same, lr_ne, lu_same, lu_ne, not_true_eq_false, not_false_eq_true]; omega)); conv => whnf))
              all_goals (try simp (disch := omega) only [nI_leI, nI_ltI, nI_eq, nz_eq, nz_lt, nz_gt, nz_le, nz_ge, nz_00, nz_n1, nI_add, pk_mul, pk_sub, nI_shl1, nI_or, nI_half2, nI_min2, la_put_eq, la_up, lr_same, lr_ne, lu_same, lu_ne, not_true_eq_false, not_false_eq_true])
              refine ⟨(245, sp_xch N a b, _), ⟨rfl, rfl, pg_put_at _ _ _, Or.inr rfl, wV, by omega, by rw [prO, mf_F hH hF, e00]⟩, fun v H2 hq => ?_⟩
              obtain ⟨hq', rfl⟩ := hq
              have hm2 : mf h' H2 := by rw [hq']; exact mf_go (mf_pg hH (by decide))
              clear hq'
              conv => whnf
              repeat' (first
                | (refine ⟨fun c9 => ?_, fun c9 => ?_⟩ <;> (try simp (disch := omega) only [nI_leI, nI_ltI, nI_eq, nz_eq, nz_lt, nz_gt, nz_le, nz_ge, nz_00, nz_n1, nI_add, pk_mul, pk_sub, nI_shl1, nI_or, nI_half2, nI_min2, la_put_eq, la_up, lr_same, lr_ne, lu_same, lu_ne, not_true_eq_false, not_false_eq_true, m1_le] at c9) <;> first | (exfalso; omega) | conv => whnf)
                | (refine ⟨_, rfl, by omega, ?_⟩; conv => whnf)
                | (refine ⟨_, rfl, rfl, rfl, by decide, by decide, ?_⟩; conv => whnf)
                | (refine ⟨_, by (simp (disch := omega) only [nI_leI, nI_ltI, nI_eq, nz_eq, nz_lt, nz_gt, nz_le, nz_ge, nz_00, nz_n1, nI_add, pk_mul, pk_sub, nI_shl1, nI_or, nI_half2, nI_min2, la_put_eq, la_up, lr_same, lr_ne, lu_same, lu_ne, not_true_eq_false, not_false_eq_true, m1_le]; rfl), by omega, ?_⟩; conv => whnf)
                | (apply And.intro; (first | assumption | decide | (simp (disch := omega) only [nI_leI, nI_ltI, nI_eq, nz_eq, nz_lt, nz_gt, nz_le, nz_ge, nz_00, nz_n1, nI_add, pk_mul, pk_sub, nI_shl1, nI_or, nI_half2, nI_min2, la_put_eq, la_up, lr_same, lr_ne, lu_same, lu_ne, not_true_eq_false, not_false_eq_true, m1_le]; omega)); conv => whnf))
              all_goals (try simp (disch := omega) only [nI_leI, nI_ltI, nI_eq, nz_eq, nz_lt, nz_gt, nz_le, nz_ge, nz_00, nz_n1, nI_add, pk_mul, pk_sub, nI_shl1, nI_or, nI_half2, nI_min2, la_put_eq, la_up, lr_same, lr_ne, lu_same, lu_ne, not_true_eq_false, not_false_eq_true, m1_le])
              · have := ih2 (j + 1) H2 q (by omega) hm2 (by rw [hst, sp_up1_f (by omega)])
                rw [show a + 1 + (j + 1) = b + 1 by omega] at this
                exact this
              · have := ih2 (j + 1) H2 (nI (10 * a + b), sp_cnt (sp_xch N a b) + 1) (by omega) hm2 (by rw [hst, sp_up1_t (by omega)])
                rw [m1_s, show a + 1 + (j + 1) = b + 1 by omega] at this
                exact this
            have f4 : K (some 66) ([(0, vR 5 0 0), (1, vI w), (2, vI (sp_m1 q.2)), (3, vI q.1), (4, vI (nI a)), (5, vI (nI b)), (6, vI (nI 26))], [], pg_put H 245 (sp_tr (sp_tr (sp_tr N 3 a b) 4 a b) 5 a b)) := by
              refine hK [(24, [0, 1, 2, 3, 4]), (42, [0, 1, 2, 3, 4, 5]), (66, [0, 1, 2, 3, 4, 5, 6])] 60 _ _ ?_
              conv => whnf
              repeat' (first
                | (refine ⟨fun c9 => ?_, fun c9 => ?_⟩ <;> (try simp (disch := omega) only [nI_leI, nI_ltI, nI_eq, nz_eq, nz_lt, nz_gt, nz_le, nz_ge, nz_00, nz_n1, nI_add, pk_mul, pk_sub, nI_shl1, nI_or, nI_half2, nI_min2, la_put_eq, la_up, lr_same, lr_ne, lu_same, lu_ne, not_true_eq_false, not_false_eq_true, pu3, pu4, pu5, pu6, pgl, zr2 hPq, zr3 hPq, zr4 hPq, zr5 hPq, zr6 hPq, zr7 hPq, zr8 hPq, zrN hPq, zrD hPq, zrB hPq, zrY hPq, zrQ hPq, zr1 hPq, subadd] at c9) <;> first | (exfalso; omega) | conv => whnf)
                | (refine ⟨_, rfl, by omega, ?_⟩; conv => whnf)
                | (refine ⟨_, rfl, rfl, rfl, by decide, by decide, ?_⟩; conv => whnf)
                | (refine ⟨_, by (simp (disch := omega) only [nI_leI, nI_ltI, nI_eq, nz_eq, nz_lt, nz_gt, nz_le, nz_ge, nz_00, nz_n1, nI_add, pk_mul, pk_sub, nI_shl1, nI_or, nI_half2, nI_min2, la_put_eq, la_up, lr_same, lr_ne, lu_same, lu_ne, not_true_eq_false, not_false_eq_true, pu3, pu4, pu5, pu6, pgl, zr2 hPq, zr3 hPq, zr4 hPq, zr5 hPq, zr6 hPq, zr7 hPq, zr8 hPq, zrN hPq, zrD hPq, zrB hPq, zrY hPq, zrQ hPq, zr1 hPq, subadd]; rfl), by omega, ?_⟩; conv => whnf)
                | (apply And.intro; (first | assumption | decide | (simp (disch := omega) only [nI_leI, nI_ltI, nI_eq, nz_eq, nz_lt, nz_gt, nz_le, nz_ge, nz_00, nz_n1, nI_add, pk_mul, pk_sub, nI_shl1, nI_or, nI_half2, nI_min2, la_put_eq, la_up, lr_same, lr_ne, lu_same, lu_ne, not_true_eq_false, not_false_eq_true, pu3, pu4, pu5, pu6, pgl, zr2 hPq, zr3 hPq, zr4 hPq, zr5 hPq, zr6 hPq, zr7 hPq, zr8 hPq, zrN hPq, zrD hPq, zrB hPq, zrY hPq, zrQ hPq, zr1 hPq, subadd]; omega)); conv => whnf))
              all_goals (try simp (disch := omega) only [nI_leI, nI_ltI, nI_eq, nz_eq, nz_lt, nz_gt, nz_le, nz_ge, nz_00, nz_n1, nI_add, pk_mul, pk_sub, nI_shl1, nI_or, nI_half2, nI_min2, la_put_eq, la_up, lr_same, lr_ne, lu_same, lu_ne, not_true_eq_false, not_false_eq_true, pu3, pu4, pu5, pu6, pgl, zr2 hPq, zr3 hPq, zr4 hPq, zr5 hPq, zr6 hPq, zr7 hPq, zr8 hPq, zrN hPq, zrD hPq, zrB hPq, zrY hPq, zrQ hPq, zr1 hPq, subadd])
              rw [tr_at (sp_tr (sp_tr (sp_tr N 3 a b) 4 a b) 5 a b) N 6 a b (by rw [tr_ne (by decide), tr_ne (by decide), tr_ne (by decide)]) (by rw [tr_ne (by decide), tr_ne (by decide), tr_ne (by decide)])]
              exact f5
            have f3 : K (some 66) ([(0, vR 5 0 0), (1, vI w), (2, vI (sp_m1 q.2)), (3, vI q.1), (4, vI (nI a)), (5, vI (nI b)), (6, vI (nI 20))], [], pg_put H 245 (sp_tr (sp_tr N 3 a b) 4 a b)) := by
              refine hK [(24, [0, 1, 2, 3, 4]), (42, [0, 1, 2, 3, 4, 5]), (66, [0, 1, 2, 3, 4, 5, 6])] 60 _ _ ?_
              conv => whnf
              repeat' (first
                | (refine ⟨fun c9 => ?_, fun c9 => ?_⟩ <;> (try simp (disch := omega) only [nI_leI, nI_ltI, nI_eq, nz_eq, nz_lt, nz_gt, nz_le, nz_ge, nz_00, nz_n1, nI_add, pk_mul, pk_sub, nI_shl1, nI_or, nI_half2, nI_min2, la_put_eq, la_up, lr_same, lr_ne, lu_same, lu_ne, not_true_eq_false, not_false_eq_true, pu3, pu4, pu5, pu6, pgl, zr2 hPq, zr3 hPq, zr4 hPq, zr5 hPq, zr6 hPq, zr7 hPq, zr8 hPq, zrN hPq, zrD hPq, zrB hPq, zrY hPq, zrQ hPq, zr1 hPq, subadd] at c9) <;> first | (exfalso; omega) | conv => whnf)
                | (refine ⟨_, rfl, by omega, ?_⟩; conv => whnf)
                | (refine ⟨_, rfl, rfl, rfl, by decide, by decide, ?_⟩; conv => whnf)
                | (refine ⟨_, by (simp (disch := omega) only [nI_leI, nI_ltI, nI_eq, nz_eq, nz_lt, nz_gt, nz_le, nz_ge, nz_00, nz_n1, nI_add, pk_mul, pk_sub, nI_shl1, nI_or, nI_half2, nI_min2, la_put_eq, la_up, lr_same, lr_ne, lu_same, lu_ne, not_true_eq_false, not_false_eq_true, pu3, pu4, pu5, pu6, pgl, zr2 hPq, zr3 hPq, zr4 hPq, zr5 hPq, zr6 hPq, zr7 hPq, zr8 hPq, zrN hPq, zrD hPq, zrB hPq, zrY hPq, zrQ hPq, zr1 hPq, subadd]; rfl), by omega, ?_⟩; conv => whnf)
                | (apply And.intro; (first | assumption | decide | (simp (disch := omega) only [nI_leI, nI_ltI, nI_eq, nz_eq, nz_lt, nz_gt, nz_le, nz_ge, nz_00, nz_n1, nI_add, pk_mul, pk_sub, nI_shl1, nI_or, nI_half2, nI_min2, la_put_eq, la_up, lr_same, lr_ne, lu_same, lu_ne, not_true_eq_false, not_false_eq_true, pu3, pu4, pu5, pu6, pgl, zr2 hPq, zr3 hPq, zr4 hPq, zr5 hPq, zr6 hPq, zr7 hPq, zr8 hPq, zrN hPq, zrD hPq, zrB hPq, zrY hPq, zrQ hPq, zr1 hPq, subadd]; omega)); conv => whnf))
              all_goals (try simp (disch := omega) only [nI_leI, nI_ltI, nI_eq, nz_eq, nz_lt, nz_gt, nz_le, nz_ge, nz_00, nz_n1, nI_add, pk_mul, pk_sub, nI_shl1, nI_or, nI_half2, nI_min2, la_put_eq, la_up, lr_same, lr_ne, lu_same, lu_ne, not_true_eq_false, not_false_eq_true, pu3, pu4, pu5, pu6, pgl, zr2 hPq, zr3 hPq, zr4 hPq, zr5 hPq, zr6 hPq, zr7 hPq, zr8 hPq, zrN hPq, zrD hPq, zrB hPq, zrY hPq, zrQ hPq, zr1 hPq, subadd])
              rw [tr_at (sp_tr (sp_tr N 3 a b) 4 a b) N 5 a b (by rw [tr_ne (by decide), tr_ne (by decide)]) (by rw [tr_ne (by decide), tr_ne (by decide)])]
              exact f4
            have f2 : K (some 66) ([(0, vR 5 0 0), (1, vI w), (2, vI (sp_m1 q.2)), (3, vI q.1), (4, vI (nI a)), (5, vI (nI b)), (6, vI (nI 14))], [], pg_put H 245 (sp_tr N 3 a b)) := by
              refine hK [(24, [0, 1, 2, 3, 4]), (42, [0, 1, 2, 3, 4, 5]), (66, [0, 1, 2, 3, 4, 5, 6])] 60 _ _ ?_
              conv => whnf
              repeat' (first
                | (refine ⟨fun c9 => ?_, fun c9 => ?_⟩ <;> (try simp (disch := omega) only [nI_leI, nI_ltI, nI_eq, nz_eq, nz_lt, nz_gt, nz_le, nz_ge, nz_00, nz_n1, nI_add, pk_mul, pk_sub, nI_shl1, nI_or, nI_half2, nI_min2, la_put_eq, la_up, lr_same, lr_ne, lu_same, lu_ne, not_true_eq_false, not_false_eq_true, pu3, pu4, pu5, pu6, pgl, zr2 hPq, zr3 hPq, zr4 hPq, zr5 hPq, zr6 hPq, zr7 hPq, zr8 hPq, zrN hPq, zrD hPq, zrB hPq, zrY hPq, zrQ hPq, zr1 hPq, subadd] at c9) <;> first | (exfalso; omega) | conv => whnf)
                | (refine ⟨_, rfl, by omega, ?_⟩; conv => whnf)
                | (refine ⟨_, rfl, rfl, rfl, by decide, by decide, ?_⟩; conv => whnf)
                | (refine ⟨_, by (simp (disch := omega) only [nI_leI, nI_ltI, nI_eq, nz_eq, nz_lt, nz_gt, nz_le, nz_ge, nz_00, nz_n1, nI_add, pk_mul, pk_sub, nI_shl1, nI_or, nI_half2, nI_min2, la_put_eq, la_up, lr_same, lr_ne, lu_same, lu_ne, not_true_eq_false, not_false_eq_true, pu3, pu4, pu5, pu6, pgl, zr2 hPq, zr3 hPq, zr4 hPq, zr5 hPq, zr6 hPq, zr7 hPq, zr8 hPq, zrN hPq, zrD hPq, zrB hPq, zrY hPq, zrQ hPq, zr1 hPq, subadd]; rfl), by omega, ?_⟩; conv => whnf)
                | (apply And.intro; (first | assumption | decide | (simp (disch := omega) only [nI_leI, nI_ltI, nI_eq, nz_eq, nz_lt, nz_gt, nz_le, nz_ge, nz_00, nz_n1, nI_add, pk_mul, pk_sub, nI_shl1, nI_or, nI_half2, nI_min2, la_put_eq, la_up, lr_same, lr_ne, lu_same, lu_ne, not_true_eq_false, not_false_eq_true, pu3, pu4, pu5, pu6, pgl, zr2 hPq, zr3 hPq, zr4 hPq, zr5 hPq, zr6 hPq, zr7 hPq, zr8 hPq, zrN hPq, zrD hPq, zrB hPq, zrY hPq, zrQ hPq, zr1 hPq, subadd]; omega)); conv => whnf))
              all_goals (try simp (disch := omega) only [nI_leI, nI_ltI, nI_eq, nz_eq, nz_lt, nz_gt, nz_le, nz_ge, nz_00, nz_n1, nI_add, pk_mul, pk_sub, nI_shl1, nI_or, nI_half2, nI_min2, la_put_eq, la_up, lr_same, lr_ne, lu_same, lu_ne, not_true_eq_false, not_false_eq_true, pu3, pu4, pu5, pu6, pgl, zr2 hPq, zr3 hPq, zr4 hPq, zr5 hPq, zr6 hPq, zr7 hPq, zr8 hPq, zrN hPq, zrD hPq, zrB hPq, zrY hPq, zrQ hPq, zr1 hPq, subadd])
              rw [tr_at (sp_tr N 3 a b) N 4 a b (by rw [tr_ne (by decide)]) (by rw [tr_ne (by decide)])]
              exact f3
            have f1 : K (some 66) ([(0, vR 5 0 0), (1, vI w), (2, vI (sp_m1 q.2)), (3, vI q.1), (4, vI (nI a)), (5, vI (nI b)), (6, vI (nI 8))], [], pg_put H 245 N) := by
              refine hK [(24, [0, 1, 2, 3, 4]), (42, [0, 1, 2, 3, 4, 5]), (66, [0, 1, 2, 3, 4, 5, 6])] 60 _ _ ?_
              conv => whnf
              repeat' (first
                | (refine ⟨fun c9 => ?_, fun c9 => ?_⟩ <;> (try simp (disch := omega) only [nI_leI, nI_ltI, nI_eq, nz_eq, nz_lt, nz_gt, nz_le, nz_ge, nz_00, nz_n1, nI_add, pk_mul, pk_sub, nI_shl1, nI_or, nI_half2, nI_min2, la_put_eq, la_up, lr_same, lr_ne, lu_same, lu_ne, not_true_eq_false, not_false_eq_true, pu3, pu4, pu5, pu6, pgl, zr2 hPq, zr3 hPq, zr4 hPq, zr5 hPq, zr6 hPq, zr7 hPq, zr8 hPq, zrN hPq, zrD hPq, zrB hPq, zrY hPq, zrQ hPq, zr1 hPq, subadd] at c9) <;> first | (exfalso; omega) | conv => whnf)
                | (refine ⟨_, rfl, by omega, ?_⟩; conv => whnf)
                | (refine ⟨_, rfl, rfl, rfl, by decide, by decide, ?_⟩; conv => whnf)
                | (refine ⟨_, by (simp (disch := omega) only [nI_leI, nI_ltI, nI_eq, nz_eq, nz_lt, nz_gt, nz_le, nz_ge, nz_00, nz_n1, nI_add, pk_mul, pk_sub, nI_shl1, nI_or, nI_half2, nI_min2, la_put_eq, la_up, lr_same, lr_ne, lu_same, lu_ne, not_true_eq_false, not_false_eq_true, pu3, pu4, pu5, pu6, pgl, zr2 hPq, zr3 hPq, zr4 hPq, zr5 hPq, zr6 hPq, zr7 hPq, zr8 hPq, zrN hPq, zrD hPq, zrB hPq, zrY hPq, zrQ hPq, zr1 hPq, subadd]; rfl), by omega, ?_⟩; conv => whnf)
                | (apply And.intro; (first | assumption | decide | (simp (disch := omega) only [nI_leI, nI_ltI, nI_eq, nz_eq, nz_lt, nz_gt, nz_le, nz_ge, nz_00, nz_n1, nI_add, pk_mul, pk_sub, nI_shl1, nI_or, nI_half2, nI_min2, la_put_eq, la_up, lr_same, lr_ne, lu_same, lu_ne, not_true_eq_false, not_false_eq_true, pu3, pu4, pu5, pu6, pgl, zr2 hPq, zr3 hPq, zr4 hPq, zr5 hPq, zr6 hPq, zr7 hPq, zr8 hPq, zrN hPq, zrD hPq, zrB hPq, zrY hPq, zrQ hPq, zr1 hPq, subadd]; omega)); conv => whnf))
              all_goals (try simp (disch := omega) only [nI_leI, nI_ltI, nI_eq, nz_eq, nz_lt, nz_gt, nz_le, nz_ge, nz_00, nz_n1, nI_add, pk_mul, pk_sub, nI_shl1, nI_or, nI_half2, nI_min2, la_put_eq, la_up, lr_same, lr_ne, lu_same, lu_ne, not_true_eq_false, not_false_eq_true, pu3, pu4, pu5, pu6, pgl, zr2 hPq, zr3 hPq, zr4 hPq, zr5 hPq, zr6 hPq, zr7 hPq, zr8 hPq, zrN hPq, zrD hPq, zrB hPq, zrY hPq, zrQ hPq, zr1 hPq, subadd])
              rw [tr_at N N 3 a b rfl rfl]
              exact f2
            refine hK [(24, [0, 1, 2, 3, 4]), (42, [0, 1, 2, 3, 4, 5]), (66, [0, 1, 2, 3, 4, 5, 6])] 60 _ _ ?_
            conv => whnf
            repeat' (first
              | (refine ⟨fun c9 => ?_, fun c9 => ?_⟩ <;> (try simp (disch := omega) only [nI_leI, nI_ltI, nI_eq, nz_eq, nz_lt, nz_gt, nz_le, nz_ge, nz_00, nz_n1, nI_add, pk_mul, pk_sub, nI_shl1, nI_or, nI_half2, nI_min2, la_put_eq, la_up, lr_same, lr_ne, lu_same, lu_ne, not_true_eq_false, not_false_eq_true, eN] at c9) <;> first | (exfalso; omega) | conv => whnf)
              | (refine ⟨_, rfl, by omega, ?_⟩; conv => whnf)
              | (refine ⟨_, rfl, rfl, rfl, by decide, by decide, ?_⟩; conv => whnf)
              | (refine ⟨_, by (simp (disch := omega) only [nI_leI, nI_ltI, nI_eq, nz_eq, nz_lt, nz_gt, nz_le, nz_ge, nz_00, nz_n1, nI_add, pk_mul, pk_sub, nI_shl1, nI_or, nI_half2, nI_min2, la_put_eq, la_up, lr_same, lr_ne, lu_same, lu_ne, not_true_eq_false, not_false_eq_true, eN]; rfl), by omega, ?_⟩; conv => whnf)
              | (apply And.intro; (first | assumption | decide | (simp (disch := omega) only [nI_leI, nI_ltI, nI_eq, nz_eq, nz_lt, nz_gt, nz_le, nz_ge, nz_00, nz_n1, nI_add, pk_mul, pk_sub, nI_shl1, nI_or, nI_half2, nI_min2, la_put_eq, la_up, lr_same, lr_ne, lu_same, lu_ne, not_true_eq_false, not_false_eq_true, eN]; omega)); conv => whnf))
            all_goals (try simp (disch := omega) only [nI_leI, nI_ltI, nI_eq, nz_eq, nz_lt, nz_gt, nz_le, nz_ge, nz_00, nz_n1, nI_add, pk_mul, pk_sub, nI_shl1, nI_or, nI_half2, nI_min2, la_put_eq, la_up, lr_same, lr_ne, lu_same, lu_ne, not_true_eq_false, not_false_eq_true, eN])
            refine ⟨(0, 245, N, _), ⟨rfl, rfl, hPq, by decide, by decide, by omega⟩, fun h'' hq => ?_⟩
            have hq' : h'' = _ := hq
            subst hq'
            conv => whnf
            repeat' (first
              | (refine ⟨fun c9 => ?_, fun c9 => ?_⟩ <;> (try simp (disch := omega) only [nI_leI, nI_ltI, nI_eq, nz_eq, nz_lt, nz_gt, nz_le, nz_ge, nz_00, nz_n1, nI_add, pk_mul, pk_sub, nI_shl1, nI_or, nI_half2, nI_min2, la_put_eq, la_up, lr_same, lr_ne, lu_same, lu_ne, not_true_eq_false, not_false_eq_true] at c9) <;> first | (exfalso; omega) | conv => whnf)
              | (refine ⟨_, rfl, by omega, ?_⟩; conv => whnf)
              | (refine ⟨_, rfl, rfl, rfl, by decide, by decide, ?_⟩; conv => whnf)
              | (refine ⟨_, by (simp (disch := omega) only [nI_leI, nI_ltI, nI_eq, nz_eq, nz_lt, nz_gt, nz_le, nz_ge, nz_00, nz_n1, nI_add, pk_mul, pk_sub, nI_shl1, nI_or, nI_half2, nI_min2, la_put_eq, la_up, lr_same, lr_ne, lu_same, lu_ne, not_true_eq_false, not_false_eq_true]; rfl), by omega, ?_⟩; conv => whnf)
              | (apply And.intro; (first | assumption | decide | (simp (disch := omega) only [nI_leI, nI_ltI, nI_eq, nz_eq, nz_lt, nz_gt, nz_le, nz_ge, nz_00, nz_n1, nI_add, pk_mul, pk_sub, nI_shl1, nI_or, nI_half2, nI_min2, la_put_eq, la_up, lr_same, lr_ne, lu_same, lu_ne, not_true_eq_false, not_false_eq_true]; omega)); conv => whnf))
            all_goals (try simp (disch := omega) only [nI_leI, nI_ltI, nI_eq, nz_eq, nz_lt, nz_gt, nz_le, nz_ge, nz_00, nz_n1, nI_add, pk_mul, pk_sub, nI_shl1, nI_or, nI_half2, nI_min2, la_put_eq, la_up, lr_same, lr_ne, lu_same, lu_ne, not_true_eq_false, not_false_eq_true])
            exact f1
        have eN := zrN (mf_P hH hP)
        refine hK [(24, [0, 1, 2, 3, 4]), (42, [0, 1, 2, 3, 4, 5]), (66, [0, 1, 2, 3, 4, 5, 6])] 60 _ _ ?_
        conv => whnf
        repeat' (first
          | (refine ⟨fun c9 => ?_, fun c9 => ?_⟩ <;> (try simp (disch := omega) only [nI_leI, nI_ltI, nI_eq, nz_eq, nz_lt, nz_gt, nz_le, nz_ge, nz_00, nz_n1, nI_add, pk_mul, pk_sub, nI_shl1, nI_or, nI_half2, nI_min2, la_put_eq, la_up, lr_same, lr_ne, lu_same, lu_ne, not_true_eq_false, not_false_eq_true, eN] at c9) <;> first | (exfalso; omega) | conv => whnf)
          | (refine ⟨_, rfl, by omega, ?_⟩; conv => whnf)
          | (refine ⟨_, rfl, rfl, rfl, by decide, by decide, ?_⟩; conv => whnf)
          | (refine ⟨_, by (simp (disch := omega) only [nI_leI, nI_ltI, nI_eq, nz_eq, nz_lt, nz_gt, nz_le, nz_ge, nz_00, nz_n1, nI_add, pk_mul, pk_sub, nI_shl1, nI_or, nI_half2, nI_min2, la_put_eq, la_up, lr_same, lr_ne, lu_same, lu_ne, not_true_eq_false, not_false_eq_true, eN]; rfl), by omega, ?_⟩; conv => whnf)
          | (apply And.intro; (first | assumption | decide | (simp (disch := omega) only [nI_leI, nI_ltI, nI_eq, nz_eq, nz_lt, nz_gt, nz_le, nz_ge, nz_00, nz_n1, nI_add, pk_mul, pk_sub, nI_shl1, nI_or, nI_half2, nI_min2, la_put_eq, la_up, lr_same, lr_ne, lu_same, lu_ne, not_true_eq_false, not_false_eq_true, eN]; omega)); conv => whnf))
        all_goals (try simp (disch := omega) only [nI_leI, nI_ltI, nI_eq, nz_eq, nz_lt, nz_gt, nz_le, nz_ge, nz_00, nz_n1, nI_add, pk_mul, pk_sub, nI_shl1, nI_or, nI_half2, nI_min2, la_put_eq, la_up, lr_same, lr_ne, lu_same, lu_ne, not_true_eq_false, not_false_eq_true, eN])
        exact inner (N 0 3 - (a + 1)) 0 H p (by omega) hH rfl
    conv => whnf
    repeat' (first
      | (refine ⟨fun c9 => ?_, fun c9 => ?_⟩ <;> (try simp (disch := omega) only [nI_leI, nI_ltI, nI_eq, nz_eq, nz_lt, nz_gt, nz_le, nz_ge, nz_00, nz_n1, nI_add, pk_mul, pk_sub, nI_shl1, nI_or, nI_half2, nI_min2, la_put_eq, la_up, lr_same, lr_ne, lu_same, lu_ne, not_true_eq_false, not_false_eq_true] at c9) <;> first | (exfalso; omega) | conv => whnf)
      | (refine ⟨_, rfl, by omega, ?_⟩; conv => whnf)
      | (refine ⟨_, rfl, rfl, rfl, by decide, by decide, ?_⟩; conv => whnf)
      | (refine ⟨_, by (simp (disch := omega) only [nI_leI, nI_ltI, nI_eq, nz_eq, nz_lt, nz_gt, nz_le, nz_ge, nz_00, nz_n1, nI_add, pk_mul, pk_sub, nI_shl1, nI_or, nI_half2, nI_min2, la_put_eq, la_up, lr_same, lr_ne, lu_same, lu_ne, not_true_eq_false, not_false_eq_true]; rfl), by omega, ?_⟩; conv => whnf)
      | (apply And.intro; (first | assumption | decide | (simp (disch := omega) only [nI_leI, nI_ltI, nI_eq, nz_eq, nz_lt, nz_gt, nz_le, nz_ge, nz_00, nz_n1, nI_add, pk_mul, pk_sub, nI_shl1, nI_or, nI_half2, nI_min2, la_put_eq, la_up, lr_same, lr_ne, lu_same, lu_ne, not_true_eq_false, not_false_eq_true]; omega)); conv => whnf))
    all_goals (try simp (disch := omega) only [nI_leI, nI_ltI, nI_eq, nz_eq, nz_lt, nz_gt, nz_le, nz_ge, nz_00, nz_n1, nI_add, pk_mul, pk_sub, nI_shl1, nI_or, nI_half2, nI_min2, la_put_eq, la_up, lr_same, lr_ne, lu_same, lu_ne, not_true_eq_false, not_false_eq_true])
    refine ⟨(0, N, _), ⟨rfl, rfl, hP, Or.inl rfl, wN, by omega, hF⟩, fun v H2 hq => ?_⟩
    obtain ⟨hq', rfl⟩ := hq
    have hm2 : mf h' H2 := by rw [hq']; exact mf_go (mf_self _)
    clear hq'
    conv => whnf
    repeat' (first
      | (refine ⟨fun c9 => ?_, fun c9 => ?_⟩ <;> (try simp (disch := omega) only [nI_leI, nI_ltI, nI_eq, nz_eq, nz_lt, nz_gt, nz_le, nz_ge, nz_00, nz_n1, nI_add, pk_mul, pk_sub, nI_shl1, nI_or, nI_half2, nI_min2, la_put_eq, la_up, lr_same, lr_ne, lu_same, lu_ne, not_true_eq_false, not_false_eq_true] at c9) <;> first | (exfalso; omega) | conv => whnf)
      | (refine ⟨_, rfl, by omega, ?_⟩; conv => whnf)
      | (refine ⟨_, rfl, rfl, rfl, by decide, by decide, ?_⟩; conv => whnf)
      | (refine ⟨_, by (simp (disch := omega) only [nI_leI, nI_ltI, nI_eq, nz_eq, nz_lt, nz_gt, nz_le, nz_ge, nz_00, nz_n1, nI_add, pk_mul, pk_sub, nI_shl1, nI_or, nI_half2, nI_min2, la_put_eq, la_up, lr_same, lr_ne, lu_same, lu_ne, not_true_eq_false, not_false_eq_true]; rfl), by omega, ?_⟩; conv => whnf)
      | (apply And.intro; (first | assumption | decide | (simp (disch := omega) only [nI_leI, nI_ltI, nI_eq, nz_eq, nz_lt, nz_gt, nz_le, nz_ge, nz_00, nz_n1, nI_add, pk_mul, pk_sub, nI_shl1, nI_or, nI_half2, nI_min2, la_put_eq, la_up, lr_same, lr_ne, lu_same, lu_ne, not_true_eq_false, not_false_eq_true]; omega)); conv => whnf))
    all_goals (try simp (disch := omega) only [nI_leI, nI_ltI, nI_eq, nz_eq, nz_lt, nz_gt, nz_le, nz_ge, nz_00, nz_n1, nI_add, pk_mul, pk_sub, nI_shl1, nI_or, nI_half2, nI_min2, la_put_eq, la_up, lr_same, lr_ne, lu_same, lu_ne, not_true_eq_false, not_false_eq_true])
    have := outer (N 0 3) 0 H2 (sp_swO N 0) (by omega) hm2 rfl
    rw [show (sp_swO N 0).2 = sp_cnt N + 1 from rfl, m1_s] at this
    exact this
  · conv => whnf
    repeat' (first
      | (refine ⟨fun c9 => ?_, fun c9 => ?_⟩ <;> (try simp (disch := omega) only [nI_leI, nI_ltI, nI_eq, nz_eq, nz_lt, nz_gt, nz_le, nz_ge, nz_00, nz_n1, nI_add, pk_mul, pk_sub, nI_shl1, nI_or, nI_half2, nI_min2, la_put_eq, la_up, lr_same, lr_ne, lu_same, lu_ne, not_true_eq_false, not_false_eq_true] at c9) <;> first | (exfalso; omega) | conv => whnf)
      | (refine ⟨_, rfl, by omega, ?_⟩; conv => whnf)
      | (refine ⟨_, rfl, rfl, rfl, by decide, by decide, ?_⟩; conv => whnf)
      | (refine ⟨_, by (simp (disch := omega) only [nI_leI, nI_ltI, nI_eq, nz_eq, nz_lt, nz_gt, nz_le, nz_ge, nz_00, nz_n1, nI_add, pk_mul, pk_sub, nI_shl1, nI_or, nI_half2, nI_min2, la_put_eq, la_up, lr_same, lr_ne, lu_same, lu_ne, not_true_eq_false, not_false_eq_true]; rfl), by omega, ?_⟩; conv => whnf)
      | (apply And.intro; (first | assumption | decide | (simp (disch := omega) only [nI_leI, nI_ltI, nI_eq, nz_eq, nz_lt, nz_gt, nz_le, nz_ge, nz_00, nz_n1, nI_add, pk_mul, pk_sub, nI_shl1, nI_or, nI_half2, nI_min2, la_put_eq, la_up, lr_same, lr_ne, lu_same, lu_ne, not_true_eq_false, not_false_eq_true]; omega)); conv => whnf))
    all_goals (try simp (disch := omega) only [nI_leI, nI_ltI, nI_eq, nz_eq, nz_lt, nz_gt, nz_le, nz_ge, nz_00, nz_n1, nI_add, pk_mul, pk_sub, nI_shl1, nI_or, nI_half2, nI_min2, la_put_eq, la_up, lr_same, lr_ne, lu_same, lu_ne, not_true_eq_false, not_false_eq_true])
    refine hret _ _ ⟨mf_self _, ?_⟩
    rw [a_swap, ci_f hc]
theorem M_X5_swap : pm_MT yX5_swap cX5_swap 7 1 7 P_X5_swap (pm_pi Q_X5_swap) := pm_met k_X5_swap (by decide) rfl (by
  rintro ⟨g0, g1, g2⟩ av h hp
  rw [hp.1]
  exact Nat.le_of_ble_eq_true rfl) pf_X5_swap
theorem rc_X5_swap : ∀ g av h, P_X5_swap g av h → ∃ i t, av = .inr (.inr (5, i, 0)) :: t := by
  rintro ⟨g0, g1, g2⟩ av h hp
  exact ⟨_, _, hp.1⟩
