/-! THE MODEL: drift. -/
theorem got_eq2 (x : Int32) : (x >>> (nI 16 &&& 31)) &&& nI 32767 = nI (sp_got x) := by
  rw [pk_and _ (m := nI 32767) 15 (by decide +kernel)]
  congr 1
  unfold sp_got
  have h1 := pk_shr x (nI 16 &&& 31) 16 (by decide +kernel)
  rw [Int.shiftRight_eq_div_pow] at h1
  have h2 : x.toInt = x.toBitVec.toInt := rfl
  have h3 : (x >>> (nI 16 &&& 31)).toInt = (x >>> (nI 16 &&& 31)).toBitVec.toInt := rfl
  rw [h2, h3] at h1
  generalize (x >>> (nI 16 &&& 31)).toBitVec = r at h1
  generalize x.toBitVec = n at h1
  have hr := r.isLt
  have hn := n.isLt
  rw [BitVec.toInt_eq_toNat_cond, BitVec.toInt_eq_toNat_cond] at h1
  by_cases c1 : 2 * r.toNat < 2 ^ 32 <;> by_cases c2 : 2 * n.toNat < 2 ^ 32 <;> simp only [c1, c2, if_true, if_false] at h1 <;> omega
theorem feast_damp (L : LD) (x f : Nat) : sp_feast (lu L 0 8 x) f = lu (sp_feast L f) 0 8 x := by
  have hs : sm (lu L 0 8 x) L := fun s j h2 h0 => lu_ne (by omega)
  have hl := fun n => sm_left hs f n
  have e3 : lu L 0 8 x 0 3 = L 0 3 := lu_ne (by omega)
  have e5 : ∀ j, lu L 0 8 x 5 j = L 5 j := fun j => lu_ne (by omega)
  have e6 : ∀ j, lu L 0 8 x 6 j = L 6 j := fun j => lu_ne (by omega)
  have e2 : ∀ j, lu L 0 8 x 2 j = L 2 j := fun j => lu_ne (by omega)
  funext s j
  by_cases h8 : s = 0 ∧ j = 8
  · obtain ⟨rfl, rfl⟩ := h8
    rw [lu_same, sp_feast_s (by decide) (by decide), lu_same]
  · rw [lu_ne h8]
    by_cases h5 : s = 5
    · subst h5
      rw [sp_feast_5, sp_feast_5]
      unfold sp_ate
      rw [hl, e3, e5, e6]
    · by_cases h2 : s = 2
      · subst h2
        rw [sp_feast_2, sp_feast_2]
        unfold sp_hun
        rw [hl, e3, e2, e2]
      · rw [sp_feast_s h5 h2, sp_feast_s h5 h2, lu_ne h8]
theorem feasts_damp (L : LD) (x : Nat) : ∀ n, sp_feasts (lu L 0 8 x) n = lu (sp_feasts L n) 0 8 x
  | 0 => rfl
  | n + 1 => by rw [sp_feasts, feasts_damp L x n, feast_damp, sp_feasts]
theorem lu_comm {L : LD} {s j v s' j' v' : Nat} (h : ¬ (s = s' ∧ j = j')) : lu (lu L s j v) s' j' v' = lu (lu L s' j' v') s j v := by
  funext a b
  unfold lu
  by_cases h1 : a = s ∧ b = j
  · obtain ⟨rfl, rfl⟩ := h1
    simp [h]
  · by_cases h2 : a = s' ∧ b = j'
    · obtain ⟨rfl, rfl⟩ := h2
      simp [h1]
    · simp [h1, h2]
theorem liveD_eq (L : LD) (d : Nat) : sp_liveD L d = lu (sp_live (lu L 0 8 d)) 0 8 (L 0 8) := by
  unfold sp_liveD sp_live
  rw [sp_rotD_eq, feasts_damp, lu_ne (s' := 0) (j' := 3) (by omega), lu_ne (s' := 0) (j' := 0) (by omega), lu_ne (s' := 0) (j' := 10) (by omega), lu_comm (by omega)]
theorem drift_step (N X : LD) (g : Nat) : sp_liveD (lu (lu X 0 8 (N 0 8)) 6 (g % N 0 3) (g / 8 % N 0 0)) (g / 64 % 10) = lu (sp_dst N g X) 0 8 (N 0 8) := by
  rw [liveD_eq, lu_comm (s := 0) (j := 8) (by omega), lu_lu, lu_same]
  rfl
def P_X5_drift : Int32 × Int32 × Int32 × LD × pm_H → List pm_V → pm_H → Prop := fun g av h => match g with
  | (sd, n, w, Y, h0) => av = [vR 5 0 0, vI sd, vI n, vI w] ∧ h = h0 ∧ md h0 Y ∧ no_ok Y
def Q_X5_drift : Int32 × Int32 × Int32 × LD × pm_H → Int32 → pm_H → Prop := fun g r h => match g with
  | (sd, n, w, N, h0) => mf h0 h ∧ r = a_drift N sd n w
def T_X5_drift : List (Nat × pm_T) := [
  (0, i_il 2 1),
  (1, i_i2l 2),
  (2, i_cl (lN 1) 3),
  (3, i_cl (lN 60) 6),
  (6, i_ci 3 P_X5_in Q_X5_in 9),
  (9, i_ifeq 22 12),
  (12, i_il 3 13),
  (13, i_i2l 14),
  (14, i_cl (lN 0) 15),
  (15, i_cl (lN 1) 16),
  (16, i_ci 3 P_X5_in Q_X5_in 19),
  (19, i_ifne 24 22),
  (22, i_c (-1) 23),
  (23, i_ir),
  (24, i_al 0 25),
  (25, i_gr 5 (fun i => (5, i, 1)) 28),
  (28, i_c (nI 32) 30),
  (30, i_ia 31),
  (31, i_ifne 37 34),
  (34, i_c (-2) 36),
  (36, i_ir),
  (37, i_al 0 38),
  (38, i_c (nI 0) 39),
  (39, i_c (nI 196) 42),
  (42, i_cv 3 P_X5_copies Q_X5_copies 45),
  (45, i_il 1 46),
  (46, i_is 4 48),
  (48, i_c (nI 0) 49),
  (49, i_is 5 51),
  (51, i_il 5 53),
  (53, i_il 2 54),
  (54, i_icge 130 57),
  (57, i_il 4 59),
  (59, i_c (nI 1103515245) 61),
  (61, i_imul 62),
  (62, i_c (nI 12345) 65),
  (65, i_iadd 66),
  (66, i_is 4 68),
  (68, i_il 4 70),
  (70, i_c (nI 16) 72),
  (72, i_ishr 73),
  (73, i_c (nI 32767) 76),
  (76, i_iand 77),
  (77, i_is 6 79),
  (79, i_al 0 80),
  (80, i_gr 5 (fun i => (5, i, 1)) 83),
  (83, i_c (nI 222) 86),
  (86, i_il 6 88),
  (88, i_al 0 89),
  (89, i_gr 5 (fun i => (5, i, 1)) 92),
  (92, i_c (nI 32) 94),
  (94, i_ia 95),
  (95, i_irem 96),
  (96, i_iadd 97),
  (97, i_il 6 99),
  (99, i_c (nI 8) 101),
  (101, i_idiv 102),
  (102, i_al 0 103),
  (103, i_gi 5 1 106),
  (106, i_irem 107),
  (107, i_ias 108),
  (108, i_al 0 109),
  (109, i_c (nI 196) 112),
  (112, i_il 6 114),
  (114, i_c (nI 64) 116),
  (116, i_idiv 117),
  (117, i_c (nI 10) 119),
  (119, i_irem 120),
  (120, i_ci 3 P_X5_dayOn Q_X5_dayOn 123),
  (123, i_pop 124),
  (124, i_inc 5 (nI 1) 127),
  (127, i_go 51),
  (130, i_il 3 131),
  (131, i_ifne 146 134),
  (134, i_al 0 135),
  (135, i_c (nI 196) 138),
  (138, i_c (-4) 140),
  (140, i_ci 3 P_X5_crumbsOn Q_X5_crumbsOn 143),
  (143, i_go 159),
  (146, i_al 0 147),
  (147, i_c (nI 196) 150),
  (150, i_ci 2 P_X5_hungerOn Q_X5_hungerOn 153),
  (153, i_al 0 154),
  (154, i_c (nI 0) 155),
  (155, i_ci 2 P_X5_hungerOn Q_X5_hungerOn 158),
  (158, i_isub 159),
  (159, i_ir)]
theorem k_X5_drift : ∀ q ∈ T_X5_drift, pm_sd RX5 cX5_drift 7 6 1 q.1 q.2 := by
  unfold T_X5_drift
  refine pm_cn (sd_iln (k := 2) (by decide +kernel) rfl rfl) ?_
  refine pm_cn (sd_i2l (by decide +kernel) rfl) ?_
  refine pm_cn (sd_lconst (z := 1) (by decide +kernel) (by decide +kernel) rfl) ?_
  refine pm_cn (sd_ldc2 (k := 194) (by decide +kernel) (pm_tin (by decide +kernel) rfl) rfl) ?_
  refine pm_cn (sd_cis M_X5_in (by decide) cd_X5_in ml_X5_46 st_X5_in nt_X5 (by decide +kernel) (by omega) (by decide) (by decide +kernel) rfl) ?_
  refine pm_cn (sd_ifeq (off := 13) (by decide +kernel) (by decide) rfl) ?_
  refine pm_cn (sd_iln (k := 3) (by decide +kernel) rfl rfl) ?_
  refine pm_cn (sd_i2l (by decide +kernel) rfl) ?_
  refine pm_cn (sd_lconst (z := 0) (by decide +kernel) (by decide +kernel) rfl) ?_
  refine pm_cn (sd_lconst (z := 1) (by decide +kernel) (by decide +kernel) rfl) ?_
  refine pm_cn (sd_cis M_X5_in (by decide) cd_X5_in ml_X5_46 st_X5_in nt_X5 (by decide +kernel) (by omega) (by decide) (by decide +kernel) rfl) ?_
  refine pm_cn (sd_ifne (off := 5) (by decide +kernel) (by decide) rfl) ?_
  refine pm_cn (sd_iconst (z := -1) (by decide +kernel) (by decide +kernel) rfl) ?_
  refine pm_cn (sd_ir (by decide +kernel)) ?_
  refine pm_cn (sd_aln (k := 0) (by decide +kernel) rfl rfl) ?_
  refine pm_cn (sd_gr cl5_ in5_ (j := 0) (by decide) (fun _ => rfl) fl_X5_7 (by decide +kernel) rfl) ?_
  refine pm_cn (sd_bipush (z := 32) (by decide +kernel) (by decide +kernel) rfl) ?_
  refine pm_cn (sd_ia (by decide +kernel) rfl) ?_
  refine pm_cn (sd_ifne (off := 6) (by decide +kernel) (by decide) rfl) ?_
  refine pm_cn (sd_bipush (z := -2) (by decide +kernel) (by decide +kernel) rfl) ?_
  refine pm_cn (sd_ir (by decide +kernel)) ?_
  refine pm_cn (sd_aln (k := 0) (by decide +kernel) rfl rfl) ?_
  refine pm_cn (sd_iconst (z := 0) (by decide +kernel) (by decide +kernel) rfl) ?_
  refine pm_cn (sd_sipush (z := 196) (by decide +kernel) (by decide +kernel) rfl) ?_
  refine pm_cn (sd_cvv M_X5_copies cd_X5_copies rc_X5_copies cl5_ ml_X5_190 im_X5_copies se_X5_copies nt_X5 (by decide +kernel) (by omega) (by decide) (by decide +kernel) rfl) ?_
  refine pm_cn (sd_iln (k := 1) (by decide +kernel) rfl rfl) ?_
  refine pm_cn (sd_is (by decide +kernel) rfl (by decide)) ?_
  refine pm_cn (sd_iconst (z := 0) (by decide +kernel) (by decide +kernel) rfl) ?_
  refine pm_cn (sd_is (by decide +kernel) rfl (by decide)) ?_
  refine pm_cn (sd_il (by decide +kernel) rfl) ?_
  refine pm_cn (sd_iln (k := 2) (by decide +kernel) rfl rfl) ?_
  refine pm_cn (sd_icge (off := 76) (by decide +kernel) (by decide) rfl) ?_
  refine pm_cn (sd_il (by decide +kernel) rfl) ?_
  refine pm_cn (sd_ldc (k := 228) (by decide +kernel) (pm_tin (by decide +kernel) rfl) rfl) ?_
  refine pm_cn (sd_imul (by decide +kernel) rfl) ?_
  refine pm_cn (sd_sipush (z := 12345) (by decide +kernel) (by decide +kernel) rfl) ?_
  refine pm_cn (sd_iadd (by decide +kernel) rfl) ?_
  refine pm_cn (sd_is (by decide +kernel) rfl (by decide)) ?_
  refine pm_cn (sd_il (by decide +kernel) rfl) ?_
  refine pm_cn (sd_bipush (z := 16) (by decide +kernel) (by decide +kernel) rfl) ?_
  refine pm_cn (sd_ishr (by decide +kernel) rfl) ?_
  refine pm_cn (sd_sipush (z := 32767) (by decide +kernel) (by decide +kernel) rfl) ?_
  refine pm_cn (sd_iand (by decide +kernel) rfl) ?_
  refine pm_cn (sd_is (by decide +kernel) rfl (by decide)) ?_
  refine pm_cn (sd_aln (k := 0) (by decide +kernel) rfl rfl) ?_
  refine pm_cn (sd_gr cl5_ in5_ (j := 0) (by decide) (fun _ => rfl) fl_X5_7 (by decide +kernel) rfl) ?_
  refine pm_cn (sd_sipush (z := 222) (by decide +kernel) (by decide +kernel) rfl) ?_
  refine pm_cn (sd_il (by decide +kernel) rfl) ?_
  refine pm_cn (sd_aln (k := 0) (by decide +kernel) rfl rfl) ?_
  refine pm_cn (sd_gr cl5_ in5_ (j := 0) (by decide) (fun _ => rfl) fl_X5_7 (by decide +kernel) rfl) ?_
  refine pm_cn (sd_bipush (z := 32) (by decide +kernel) (by decide +kernel) rfl) ?_
  refine pm_cn (sd_ia (by decide +kernel) rfl) ?_
  refine pm_cn (sd_irem (by decide +kernel) rfl) ?_
  refine pm_cn (sd_iadd (by decide +kernel) rfl) ?_
  refine pm_cn (sd_il (by decide +kernel) rfl) ?_
  refine pm_cn (sd_bipush (z := 8) (by decide +kernel) (by decide +kernel) rfl) ?_
  refine pm_cn (sd_idiv (by decide +kernel) rfl) ?_
  refine pm_cn (sd_aln (k := 0) (by decide +kernel) rfl rfl) ?_
  refine pm_cn (sd_gi cl5_ in5_ (by decide) (fun _ => rfl) fl_X5_126 (by decide +kernel) rfl) ?_
  refine pm_cn (sd_irem (by decide +kernel) rfl) ?_
  refine pm_cn (sd_ias (by decide +kernel) rfl) ?_
  refine pm_cn (sd_aln (k := 0) (by decide +kernel) rfl rfl) ?_
  refine pm_cn (sd_sipush (z := 196) (by decide +kernel) (by decide +kernel) rfl) ?_
  refine pm_cn (sd_il (by decide +kernel) rfl) ?_
  refine pm_cn (sd_bipush (z := 64) (by decide +kernel) (by decide +kernel) rfl) ?_
  refine pm_cn (sd_idiv (by decide +kernel) rfl) ?_
  refine pm_cn (sd_bipush (z := 10) (by decide +kernel) (by decide +kernel) rfl) ?_
  refine pm_cn (sd_irem (by decide +kernel) rfl) ?_
  refine pm_cn (sd_civ M_X5_dayOn (by decide) cd_X5_dayOn rc_X5_dayOn cl5_ ml_X5_187 im_X5_dayOn se_X5_dayOn nt_X5 (by decide +kernel) (by omega) (by decide) (by decide +kernel) rfl) ?_
  refine pm_cn (sd_pop (by decide +kernel) rfl) ?_
  refine pm_cn (sd_inc (z := 1) (by decide +kernel) (by decide +kernel) rfl (by decide)) ?_
  refine pm_cn (sd_go (off := -76) (by decide +kernel) (by decide)) ?_
  refine pm_cn (sd_iln (k := 3) (by decide +kernel) rfl rfl) ?_
  refine pm_cn (sd_ifne (off := 15) (by decide +kernel) (by decide) rfl) ?_
  refine pm_cn (sd_aln (k := 0) (by decide +kernel) rfl rfl) ?_
  refine pm_cn (sd_sipush (z := 196) (by decide +kernel) (by decide +kernel) rfl) ?_
  refine pm_cn (sd_bipush (z := -4) (by decide +kernel) (by decide +kernel) rfl) ?_
  refine pm_cn (sd_civ M_X5_crumbsOn (by decide) cd_X5_crumbsOn rc_X5_crumbsOn cl5_ ml_X5_153 im_X5_crumbsOn se_X5_crumbsOn nt_X5 (by decide +kernel) (by omega) (by decide) (by decide +kernel) rfl) ?_
  refine pm_cn (sd_go (off := 16) (by decide +kernel) (by decide)) ?_
  refine pm_cn (sd_aln (k := 0) (by decide +kernel) rfl rfl) ?_
  refine pm_cn (sd_sipush (z := 196) (by decide +kernel) (by decide +kernel) rfl) ?_
  refine pm_cn (sd_civ M_X5_hungerOn (by decide) cd_X5_hungerOn rc_X5_hungerOn cl5_ ml_X5_199 im_X5_hungerOn se_X5_hungerOn nt_X5 (by decide +kernel) (by omega) (by decide) (by decide +kernel) rfl) ?_
  refine pm_cn (sd_aln (k := 0) (by decide +kernel) rfl rfl) ?_
  refine pm_cn (sd_iconst (z := 0) (by decide +kernel) (by decide +kernel) rfl) ?_
  refine pm_cn (sd_civ M_X5_hungerOn (by decide) cd_X5_hungerOn rc_X5_hungerOn cl5_ ml_X5_199 im_X5_hungerOn se_X5_hungerOn nt_X5 (by decide +kernel) (by omega) (by decide) (by decide +kernel) rfl) ?_
  refine pm_cn (sd_isub (by decide +kernel) rfl) ?_
  refine pm_cn (sd_ir (by decide +kernel)) ?_
  exact fun _ h => absurd h List.not_mem_nil
set_option maxHeartbeats 800000 in
set_option maxRecDepth 100000 in
theorem pf_X5_drift : pm_pf T_X5_drift P_X5_drift (pm_pi Q_X5_drift) := by
  rintro ⟨sd, n, w, N, h0⟩ av h K hK ⟨rfl, rfl, ⟨hP, wN, hF⟩, ⟨_, hd, hwh⟩⟩ hret
  have w1 := wN.1
  have w2 := wN.2.1
  show K (some 0) ([(0, vR 5 0 0), (1, vI sd), (2, vI n), (3, vI w)], [], h)
  refine hK [(51, [0, 2, 3, 4, 5])] 80 _ _ ?_
  conv => whnf
  repeat' (first
    | (refine ⟨fun c9 => ?_, fun c9 => ?_⟩ <;> (try simp (disch := omega) only [nI_leI, nI_ltI, nI_eq, nz_eq, nz_lt, nz_gt, nz_le, nz_ge, nz_00, nz_n1, nI_add, pk_mul, pk_sub, nI_shl1, nI_or, nI_half2, nI_min2, la_put_eq, la_up, lr_same, lr_ne, lu_same, lu_ne, not_true_eq_false, not_false_eq_true] at c9) <;> first | (exfalso; omega) | conv => whnf)
    | (refine ⟨_, rfl, by omega, ?_⟩; conv => whnf)
    | (refine ⟨_, rfl, rfl, rfl, by decide, by decide, ?_⟩; conv => whnf)
    | (refine ⟨_, by (simp (disch := omega) only [nI_leI, nI_ltI, nI_eq, nz_eq, nz_lt, nz_gt, nz_le, nz_ge, nz_00, nz_n1, nI_add, pk_mul, pk_sub, nI_shl1, nI_or, nI_half2, nI_min2, la_put_eq, la_up, lr_same, lr_ne, lu_same, lu_ne, not_true_eq_false, not_false_eq_true]; rfl), by omega, ?_⟩; conv => whnf)
    | (apply And.intro; (first | assumption | decide | (simp (disch := omega) only [nI_leI, nI_ltI, nI_eq, nz_eq, nz_lt, nz_gt, nz_le, nz_ge, nz_00, nz_n1, nI_add, pk_mul, pk_sub, nI_shl1, nI_or, nI_half2, nI_min2, la_put_eq, la_up, lr_same, lr_ne, lu_same, lu_ne, not_true_eq_false, not_false_eq_true]; omega)); conv => whnf))
  all_goals (try simp (disch := omega) only [nI_leI, nI_ltI, nI_eq, nz_eq, nz_lt, nz_gt, nz_le, nz_ge, nz_00, nz_n1, nI_add, pk_mul, pk_sub, nI_shl1, nI_or, nI_half2, nI_min2, la_put_eq, la_up, lr_same, lr_ne, lu_same, lu_ne, not_true_eq_false, not_false_eq_true])
  refine ⟨(n.toInt64, lN 1, lN 60, h), ⟨rfl, rfl⟩, fun r h' hq => ?_⟩
  obtain ⟨rfl, ⟨hn, rfl⟩ | ⟨hc, rfl⟩⟩ := Q_in (by decide) (by decide) hq
  · conv => whnf
    repeat' (first
      | (refine ⟨fun c9 => ?_, fun c9 => ?_⟩ <;> (try simp (disch := omega) only [nI_leI, nI_ltI, nI_eq, nz_eq, nz_lt, nz_gt, nz_le, nz_ge, nz_00, nz_n1, nI_add, pk_mul, pk_sub, nI_shl1, nI_or, nI_half2, nI_min2, la_put_eq, la_up, lr_same, lr_ne, lu_same, lu_ne, not_true_eq_false, not_false_eq_true] at c9) <;> first | (exfalso; omega) | conv => whnf)
      | (refine ⟨_, rfl, by omega, ?_⟩; conv => whnf)
      | (refine ⟨_, rfl, rfl, rfl, by decide, by decide, ?_⟩; conv => whnf)
      | (refine ⟨_, by (simp (disch := omega) only [nI_leI, nI_ltI, nI_eq, nz_eq, nz_lt, nz_gt, nz_le, nz_ge, nz_00, nz_n1, nI_add, pk_mul, pk_sub, nI_shl1, nI_or, nI_half2, nI_min2, la_put_eq, la_up, lr_same, lr_ne, lu_same, lu_ne, not_true_eq_false, not_false_eq_true]; rfl), by omega, ?_⟩; conv => whnf)
      | (apply And.intro; (first | assumption | decide | (simp (disch := omega) only [nI_leI, nI_ltI, nI_eq, nz_eq, nz_lt, nz_gt, nz_le, nz_ge, nz_00, nz_n1, nI_add, pk_mul, pk_sub, nI_shl1, nI_or, nI_half2, nI_min2, la_put_eq, la_up, lr_same, lr_ne, lu_same, lu_ne, not_true_eq_false, not_false_eq_true]; omega)); conv => whnf))
    all_goals (try simp (disch := omega) only [nI_leI, nI_ltI, nI_eq, nz_eq, nz_lt, nz_gt, nz_le, nz_ge, nz_00, nz_n1, nI_add, pk_mul, pk_sub, nI_shl1, nI_or, nI_half2, nI_min2, la_put_eq, la_up, lr_same, lr_ne, lu_same, lu_ne, not_true_eq_false, not_false_eq_true])
    refine ⟨(w.toInt64, lN 0, lN 1, _), ⟨rfl, rfl⟩, fun r h' hq => ?_⟩
    obtain ⟨rfl, ⟨hw, rfl⟩ | ⟨hc, rfl⟩⟩ := Q_hf hq
    · obtain ⟨M, m1, m2, rfl⟩ := id hn
      have hv : ixv (nI M) = M := ixv_nI (by omega)
      conv => whnf
      repeat' (first
        | (refine ⟨fun c9 => ?_, fun c9 => ?_⟩ <;> (try simp (disch := omega) only [nI_leI, nI_ltI, nI_eq, nz_eq, nz_lt, nz_gt, nz_le, nz_ge, nz_00, nz_n1, nI_add, pk_mul, pk_sub, nI_shl1, nI_or, nI_half2, nI_min2, la_put_eq, la_up, lr_same, lr_ne, lu_same, lu_ne, not_true_eq_false, not_false_eq_true, zr2 hP, zr3 hP, zr4 hP, zr5 hP, zr6 hP, zr7 hP, zr8 hP, zrN hP, zrD hP, zrB hP, zrY hP, zrQ hP, zr1 hP, subadd] at c9) <;> first | (exfalso; omega) | conv => whnf)
        | (refine ⟨_, rfl, by omega, ?_⟩; conv => whnf)
        | (refine ⟨_, rfl, rfl, rfl, by decide, by decide, ?_⟩; conv => whnf)
        | (refine ⟨_, by (simp (disch := omega) only [nI_leI, nI_ltI, nI_eq, nz_eq, nz_lt, nz_gt, nz_le, nz_ge, nz_00, nz_n1, nI_add, pk_mul, pk_sub, nI_shl1, nI_or, nI_half2, nI_min2, la_put_eq, la_up, lr_same, lr_ne, lu_same, lu_ne, not_true_eq_false, not_false_eq_true, zr2 hP, zr3 hP, zr4 hP, zr5 hP, zr6 hP, zr7 hP, zr8 hP, zrN hP, zrD hP, zrB hP, zrY hP, zrQ hP, zr1 hP, subadd]; rfl), by omega, ?_⟩; conv => whnf)
        | (apply And.intro; (first | assumption | decide | (simp (disch := omega) only [nI_leI, nI_ltI, nI_eq, nz_eq, nz_lt, nz_gt, nz_le, nz_ge, nz_00, nz_n1, nI_add, pk_mul, pk_sub, nI_shl1, nI_or, nI_half2, nI_min2, la_put_eq, la_up, lr_same, lr_ne, lu_same, lu_ne, not_true_eq_false, not_false_eq_true, zr2 hP, zr3 hP, zr4 hP, zr5 hP, zr6 hP, zr7 hP, zr8 hP, zrN hP, zrD hP, zrB hP, zrY hP, zrQ hP, zr1 hP, subadd]; omega)); conv => whnf))
      all_goals (try simp (disch := omega) only [nI_leI, nI_ltI, nI_eq, nz_eq, nz_lt, nz_gt, nz_le, nz_ge, nz_00, nz_n1, nI_add, pk_mul, pk_sub, nI_shl1, nI_or, nI_half2, nI_min2, la_put_eq, la_up, lr_same, lr_ne, lu_same, lu_ne, not_true_eq_false, not_false_eq_true, zr2 hP, zr3 hP, zr4 hP, zr5 hP, zr6 hP, zr7 hP, zr8 hP, zrN hP, zrD hP, zrB hP, zrY hP, zrQ hP, zr1 hP, subadd])
      · have h30 : 0 < N 0 3 := by omega
        have h00 : 0 < N 0 0 := by
          have := hwh 0 h30
          omega
        refine ⟨(0, 196, N, _), ⟨rfl, rfl, hP, by decide, by decide, by omega⟩, fun h'' hq => ?_⟩
        have hq' : h'' = _ := hq
        subst hq'
        have loop : ∀ n k p H, k + n = M → p = sp_dr N sd k → mf h' H → pg_at H 196 (lu p.2 0 8 (N 0 8)) → K (some 51) ([(0, vR 5 0 0), (2, vI (nI M)), (3, vI w), (4, vI p.1), (5, vI (nI k))], [], H) := by
          intro n
          induction n with
          | zero =>
            intro k p H hk hp hH hp2
            have hkM : k = M := by omega
            subst hkM
            obtain ⟨a1, a2, a3, a4⟩ := sp_dr_ok wN h00 h30 sd k (by omega)
            rw [← hp] at a1 a2 a3 a4
            have wX : la_ok (lu p.2 0 8 (N 0 8)) := la_ok_damp a1 wN.2.2.1
            have b3 : lu p.2 0 8 (N 0 8) 0 3 = N 0 3 := by rw [lu_ne (by omega)]; exact a3
            have b0 : lu p.2 0 8 (N 0 8) 0 0 = N 0 0 := by rw [lu_ne (by omega)]; exact a4
            have b5 : lu p.2 0 8 (N 0 8) 5 = p.2 5 := by funext j; exact lu_ne (by omega)
            have b2 : lu p.2 0 8 (N 0 8) 2 = p.2 2 := by funext j; exact lu_ne (by omega)
            refine hK [(51, [0, 2, 3, 4, 5])] 60 _ _ ?_
            conv => whnf
            repeat' (first
              | (refine ⟨fun c9 => ?_, fun c9 => ?_⟩ <;> (try simp (disch := omega) only [nI_leI, nI_ltI, nI_eq, nz_eq, nz_lt, nz_gt, nz_le, nz_ge, nz_00, nz_n1, nI_add, pk_mul, pk_sub, nI_shl1, nI_or, nI_half2, nI_min2, la_put_eq, la_up, lr_same, lr_ne, lu_same, lu_ne, not_true_eq_false, not_false_eq_true] at c9) <;> first | (exfalso; omega) | conv => whnf)
              | (refine ⟨_, rfl, by omega, ?_⟩; conv => whnf)
              | (refine ⟨_, rfl, rfl, rfl, by decide, by decide, ?_⟩; conv => whnf)
              | (refine ⟨_, by (simp (disch := omega) only [nI_leI, nI_ltI, nI_eq, nz_eq, nz_lt, nz_gt, nz_le, nz_ge, nz_00, nz_n1, nI_add, pk_mul, pk_sub, nI_shl1, nI_or, nI_half2, nI_min2, la_put_eq, la_up, lr_same, lr_ne, lu_same, lu_ne, not_true_eq_false, not_false_eq_true]; rfl), by omega, ?_⟩; conv => whnf)
              | (apply And.intro; (first | assumption | decide | (simp (disch := omega) only [nI_leI, nI_ltI, nI_eq, nz_eq, nz_lt, nz_gt, nz_le, nz_ge, nz_00, nz_n1, nI_add, pk_mul, pk_sub, nI_shl1, nI_or, nI_half2, nI_min2, la_put_eq, la_up, lr_same, lr_ne, lu_same, lu_ne, not_true_eq_false, not_false_eq_true]; omega)); conv => whnf))
            all_goals (try simp (disch := omega) only [nI_leI, nI_ltI, nI_eq, nz_eq, nz_lt, nz_gt, nz_le, nz_ge, nz_00, nz_n1, nI_add, pk_mul, pk_sub, nI_shl1, nI_or, nI_half2, nI_min2, la_put_eq, la_up, lr_same, lr_ne, lu_same, lu_ne, not_true_eq_false, not_false_eq_true])
            · refine ⟨(196, lu p.2 0 8 (N 0 8), _), ⟨rfl, rfl, hp2, by decide, wX, by rw [b0]; exact mf_F hH hF⟩, fun r h'' hq => ?_⟩
              obtain ⟨rfl, rfl⟩ := hq
              conv => whnf
              refine ⟨(0, N, _), ⟨rfl, rfl, mf_P hH hP, by decide, wN, mf_F hH hF⟩, fun r h'' hq => ?_⟩
              obtain ⟨rfl, rfl⟩ := hq
              conv => whnf
              refine hret _ _ ⟨hH, ?_⟩
              rw [a_drift, ci_t ⟨hn, hw⟩, if_neg (by omega), hv, ← hp, if_neg (by assumption), b0, b2]
            · refine ⟨(196, false, 0, lu p.2 0 8 (N 0 8), _), ⟨rfl, rfl, hp2, by decide, wX, by decide⟩, fun r h'' hq => ?_⟩
              obtain ⟨rfl, rfl⟩ := hq
              conv => whnf
              refine hret _ _ ⟨hH, ?_⟩
              rw [a_drift, ci_t ⟨hn, hw⟩, if_neg (by omega), hv, ← hp, if_pos (by assumption), sp_crm_f, b3, b5]
          | succ n ih =>
            intro k p H hk hp hH hp2
            obtain ⟨a1, a2, a3, a4⟩ := sp_dr_ok wN h00 h30 sd k (by omega)
            rw [← hp] at a1 a2 a3 a4
            have hst : sp_dr N sd (k + 1) = (sp_roll p.1, sp_dst N (sp_got (sp_roll p.1)) p.2) := by rw [sp_dr, ← hp]
            have gq := got_eq2 (sp_roll p.1)
            have gl : sp_got (sp_roll p.1) < 32768 := Nat.mod_lt _ (by decide)
            have rl : p.1 * nI 1103515245 + nI 12345 = sp_roll p.1 := rfl
            generalize sp_got (sp_roll p.1) = g at hst gq gl
            have m1 : g % N 0 3 < N 0 3 := Nat.mod_lt _ h30
            have m2 : g / 8 % N 0 0 < N 0 0 := Nat.mod_lt _ h00
            have e1 : nI g / nI 8 = nI (g / 8) := pk_div (by omega) (by decide) (by decide)
            have e2 : nI g / nI 64 = nI (g / 64) := pk_div (by omega) (by decide) (by decide)
            have e3 : nI g - nI g / nI (N 0 3) * nI (N 0 3) = nI (g % N 0 3) := pk_rem (by omega) h30 (by omega)
            have e4 : nI (g / 8) - nI (g / 8) / nI (N 0 0) * nI (N 0 0) = nI (g / 8 % N 0 0) := pk_rem (by omega) h00 (by omega)
            have e5 : nI (g / 64) - nI (g / 64) / nI 10 * nI 10 = nI (g / 64 % 10) := pk_rem (by omega) (by decide) (by decide)
            have eN := zrN (mf_P hH hP)
            have eF := mf_F hH hF
            have wX : la_ok (lu p.2 0 8 (N 0 8)) := la_ok_damp a1 wN.2.2.1
            have wU : la_ok (lu (lu p.2 0 8 (N 0 8)) 6 (g % N 0 3) (g / 8 % N 0 0)) := la_ok_lu wX (by unfold la_rel; omega) (by unfold la_bd; omega)
            have u10 : lu (lu p.2 0 8 (N 0 8)) 6 (g % N 0 3) (g / 8 % N 0 0) 0 10 = p.2 0 10 := by rw [lu_ne (by omega), lu_ne (by omega)]
            have u00 : lu (lu p.2 0 8 (N 0 8)) 6 (g % N 0 3) (g / 8 % N 0 0) 0 0 = N 0 0 := by rw [lu_ne (by omega), lu_ne (by omega)]; exact a4
            have hwr : pm_up H 5 0 1 (222 + g % N 0 3) (nI (g / 8 % N 0 0)) = pg_put H 196 (lu (lu p.2 0 8 (N 0 8)) 6 (g % N 0 3) (g / 8 % N 0 0)) := by
              conv => lhs; rw [← pg_self hp2]
              exact tu6 (by omega)
            obtain ⟨a, ha⟩ := ex_nI (H 5 0 0 17)
            refine hK [(51, [0, 2, 3, 4, 5])] 100 _ _ ?_
            conv => whnf
            repeat' (first
              | (refine ⟨fun c9 => ?_, fun c9 => ?_⟩ <;> (try simp (disch := omega) only [nI_leI, nI_ltI, nI_eq, nz_eq, nz_lt, nz_gt, nz_le, nz_ge, nz_00, nz_n1, nI_add, pk_mul, pk_sub, nI_shl1, nI_or, nI_half2, nI_min2, la_put_eq, la_up, lr_same, lr_ne, lu_same, lu_ne, not_true_eq_false, not_false_eq_true, rl, gq, e1, e2, e3, e4, e5, eN, eF, hwr] at c9) <;> first | (exfalso; omega) | conv => whnf)
              | (refine ⟨_, rfl, by omega, ?_⟩; conv => whnf)
              | (refine ⟨_, rfl, rfl, rfl, by decide, by decide, ?_⟩; conv => whnf)
              | (refine ⟨_, by (simp (disch := omega) only [nI_leI, nI_ltI, nI_eq, nz_eq, nz_lt, nz_gt, nz_le, nz_ge, nz_00, nz_n1, nI_add, pk_mul, pk_sub, nI_shl1, nI_or, nI_half2, nI_min2, la_put_eq, la_up, lr_same, lr_ne, lu_same, lu_ne, not_true_eq_false, not_false_eq_true, rl, gq, e1, e2, e3, e4, e5, eN, eF, hwr]; rfl), by omega, ?_⟩; conv => whnf)
              | (apply And.intro; (first | assumption | decide | (simp (disch := omega) only [nI_leI, nI_ltI, nI_eq, nz_eq, nz_lt, nz_gt, nz_le, nz_ge, nz_00, nz_n1, nI_add, pk_mul, pk_sub, nI_shl1, nI_or, nI_half2, nI_min2, la_put_eq, la_up, lr_same, lr_ne, lu_same, lu_ne, not_true_eq_false, not_false_eq_true, rl, gq, e1, e2, e3, e4, e5, eN, eF, hwr]; omega)); conv => whnf))
            all_goals (try simp (disch := omega) only [nI_leI, nI_ltI, nI_eq, nz_eq, nz_lt, nz_gt, nz_le, nz_ge, nz_00, nz_n1, nI_add, pk_mul, pk_sub, nI_shl1, nI_or, nI_half2, nI_min2, la_put_eq, la_up, lr_same, lr_ne, lu_same, lu_ne, not_true_eq_false, not_false_eq_true, rl, gq, e1, e2, e3, e4, e5, eN, eF, hwr])
            refine ⟨(196, g / 64 % 10, a, lu (lu p.2 0 8 (N 0 8)) 6 (g % N 0 3) (g / 8 % N 0 0), _), ⟨rfl, rfl, pg_put_at _ _ _, by decide, wU, by omega, by omega, by rw [prO]; exact ha, by rw [prO, u00]; exact eF⟩, fun r h'' hq => ?_⟩
            obtain ⟨rfl, rfl⟩ := hq
            conv => whnf
            repeat' (first
              | (refine ⟨fun c9 => ?_, fun c9 => ?_⟩ <;> (try simp (disch := omega) only [nI_leI, nI_ltI, nI_eq, nz_eq, nz_lt, nz_gt, nz_le, nz_ge, nz_00, nz_n1, nI_add, pk_mul, pk_sub, nI_shl1, nI_or, nI_half2, nI_min2, la_put_eq, la_up, lr_same, lr_ne, lu_same, lu_ne, not_true_eq_false, not_false_eq_true] at c9) <;> first | (exfalso; omega) | conv => whnf)
              | (refine ⟨_, rfl, by omega, ?_⟩; conv => whnf)
              | (refine ⟨_, rfl, rfl, rfl, by decide, by decide, ?_⟩; conv => whnf)
              | (refine ⟨_, by (simp (disch := omega) only [nI_leI, nI_ltI, nI_eq, nz_eq, nz_lt, nz_gt, nz_le, nz_ge, nz_00, nz_n1, nI_add, pk_mul, pk_sub, nI_shl1, nI_or, nI_half2, nI_min2, la_put_eq, la_up, lr_same, lr_ne, lu_same, lu_ne, not_true_eq_false, not_false_eq_true]; rfl), by omega, ?_⟩; conv => whnf)
              | (apply And.intro; (first | assumption | decide | (simp (disch := omega) only [nI_leI, nI_ltI, nI_eq, nz_eq, nz_lt, nz_gt, nz_le, nz_ge, nz_00, nz_n1, nI_add, pk_mul, pk_sub, nI_shl1, nI_or, nI_half2, nI_min2, la_put_eq, la_up, lr_same, lr_ne, lu_same, lu_ne, not_true_eq_false, not_false_eq_true]; omega)); conv => whnf))
            all_goals (try simp (disch := omega) only [nI_leI, nI_ltI, nI_eq, nz_eq, nz_lt, nz_gt, nz_le, nz_ge, nz_00, nz_n1, nI_add, pk_mul, pk_sub, nI_shl1, nI_or, nI_half2, nI_min2, la_put_eq, la_up, lr_same, lr_ne, lu_same, lu_ne, not_true_eq_false, not_false_eq_true])
            refine ih (k + 1) (sp_roll p.1, sp_dst N g p.2) _ (by omega) hst.symm (mf_go (mf_pg hH (by decide))) ?_
            rw [drift_step]
            exact pg_put_at _ _ _
        conv => whnf
        repeat' (first
          | (refine ⟨fun c9 => ?_, fun c9 => ?_⟩ <;> (try simp (disch := omega) only [nI_leI, nI_ltI, nI_eq, nz_eq, nz_lt, nz_gt, nz_le, nz_ge, nz_00, nz_n1, nI_add, pk_mul, pk_sub, nI_shl1, nI_or, nI_half2, nI_min2, la_put_eq, la_up, lr_same, lr_ne, lu_same, lu_ne, not_true_eq_false, not_false_eq_true] at c9) <;> first | (exfalso; omega) | conv => whnf)
          | (refine ⟨_, rfl, by omega, ?_⟩; conv => whnf)
          | (refine ⟨_, rfl, rfl, rfl, by decide, by decide, ?_⟩; conv => whnf)
          | (refine ⟨_, by (simp (disch := omega) only [nI_leI, nI_ltI, nI_eq, nz_eq, nz_lt, nz_gt, nz_le, nz_ge, nz_00, nz_n1, nI_add, pk_mul, pk_sub, nI_shl1, nI_or, nI_half2, nI_min2, la_put_eq, la_up, lr_same, lr_ne, lu_same, lu_ne, not_true_eq_false, not_false_eq_true]; rfl), by omega, ?_⟩; conv => whnf)
          | (apply And.intro; (first | assumption | decide | (simp (disch := omega) only [nI_leI, nI_ltI, nI_eq, nz_eq, nz_lt, nz_gt, nz_le, nz_ge, nz_00, nz_n1, nI_add, pk_mul, pk_sub, nI_shl1, nI_or, nI_half2, nI_min2, la_put_eq, la_up, lr_same, lr_ne, lu_same, lu_ne, not_true_eq_false, not_false_eq_true]; omega)); conv => whnf))
        all_goals (try simp (disch := omega) only [nI_leI, nI_ltI, nI_eq, nz_eq, nz_lt, nz_gt, nz_le, nz_ge, nz_00, nz_n1, nI_add, pk_mul, pk_sub, nI_shl1, nI_or, nI_half2, nI_min2, la_put_eq, la_up, lr_same, lr_ne, lu_same, lu_ne, not_true_eq_false, not_false_eq_true])
        refine loop M 0 (sd, N) _ (by omega) rfl (mf_pg (mf_self _) (by decide)) ?_
        show pg_at _ 196 (lu N 0 8 (N 0 8))
        rw [lu_self]
        exact pg_put_at _ _ _
      · refine hret _ _ ⟨mf_self _, ?_⟩
        rw [a_drift, ci_t ⟨hn, hw⟩, if_pos (by omega)]
    · conv => whnf
      repeat' (first
        | (refine ⟨fun c9 => ?_, fun c9 => ?_⟩ <;> (try simp (disch := omega) only [nI_leI, nI_ltI, nI_eq, nz_eq, nz_lt, nz_gt, nz_le, nz_ge, nz_00, nz_n1, nI_add, pk_mul, pk_sub, nI_shl1, nI_or, nI_half2, nI_min2, la_put_eq, la_up, lr_same, lr_ne, lu_same, lu_ne, not_true_eq_false, not_false_eq_true] at c9) <;> first | (exfalso; omega) | conv => whnf)
        | (refine ⟨_, rfl, by omega, ?_⟩; conv => whnf)
        | (refine ⟨_, rfl, rfl, rfl, by decide, by decide, ?_⟩; conv => whnf)
        | (refine ⟨_, by (simp (disch := omega) only [nI_leI, nI_ltI, nI_eq, nz_eq, nz_lt, nz_gt, nz_le, nz_ge, nz_00, nz_n1, nI_add, pk_mul, pk_sub, nI_shl1, nI_or, nI_half2, nI_min2, la_put_eq, la_up, lr_same, lr_ne, lu_same, lu_ne, not_true_eq_false, not_false_eq_true]; rfl), by omega, ?_⟩; conv => whnf)
        | (apply And.intro; (first | assumption | decide | (simp (disch := omega) only [nI_leI, nI_ltI, nI_eq, nz_eq, nz_lt, nz_gt, nz_le, nz_ge, nz_00, nz_n1, nI_add, pk_mul, pk_sub, nI_shl1, nI_or, nI_half2, nI_min2, la_put_eq, la_up, lr_same, lr_ne, lu_same, lu_ne, not_true_eq_false, not_false_eq_true]; omega)); conv => whnf))
      all_goals (try simp (disch := omega) only [nI_leI, nI_ltI, nI_eq, nz_eq, nz_lt, nz_gt, nz_le, nz_ge, nz_00, nz_n1, nI_add, pk_mul, pk_sub, nI_shl1, nI_or, nI_half2, nI_min2, la_put_eq, la_up, lr_same, lr_ne, lu_same, lu_ne, not_true_eq_false, not_false_eq_true])
      refine hret _ _ ⟨mf_self _, ?_⟩
      rw [a_drift, ci_f (fun q => hc q.2)]
  · conv => whnf
    repeat' (first
      | (refine ⟨fun c9 => ?_, fun c9 => ?_⟩ <;> (try simp (disch := omega) only [nI_leI, nI_ltI, nI_eq, nz_eq, nz_lt, nz_gt, nz_le, nz_ge, nz_00, nz_n1, nI_add, pk_mul, pk_sub, nI_shl1, nI_or, nI_half2, nI_min2, la_put_eq, la_up, lr_same, lr_ne, lu_same, lu_ne, not_true_eq_false, not_false_eq_true] at c9) <;> first | (exfalso; omega) | conv => whnf)
      | (refine ⟨_, rfl, by omega, ?_⟩; conv => whnf)
      | (refine ⟨_, rfl, rfl, rfl, by decide, by decide, ?_⟩; conv => whnf)
      | (refine ⟨_, by (simp (disch := omega) only [nI_leI, nI_ltI, nI_eq, nz_eq, nz_lt, nz_gt, nz_le, nz_ge, nz_00, nz_n1, nI_add, pk_mul, pk_sub, nI_shl1, nI_or, nI_half2, nI_min2, la_put_eq, la_up, lr_same, lr_ne, lu_same, lu_ne, not_true_eq_false, not_false_eq_true]; rfl), by omega, ?_⟩; conv => whnf)
      | (apply And.intro; (first | assumption | decide | (simp (disch := omega) only [nI_leI, nI_ltI, nI_eq, nz_eq, nz_lt, nz_gt, nz_le, nz_ge, nz_00, nz_n1, nI_add, pk_mul, pk_sub, nI_shl1, nI_or, nI_half2, nI_min2, la_put_eq, la_up, lr_same, lr_ne, lu_same, lu_ne, not_true_eq_false, not_false_eq_true]; omega)); conv => whnf))
    all_goals (try simp (disch := omega) only [nI_leI, nI_ltI, nI_eq, nz_eq, nz_lt, nz_gt, nz_le, nz_ge, nz_00, nz_n1, nI_add, pk_mul, pk_sub, nI_shl1, nI_or, nI_half2, nI_min2, la_put_eq, la_up, lr_same, lr_ne, lu_same, lu_ne, not_true_eq_false, not_false_eq_true])
    refine hret _ _ ⟨mf_self _, ?_⟩
    rw [a_drift, ci_f (fun q => hc q.1)]
theorem M_X5_drift : pm_MT yX5_drift cX5_drift 7 1 6 P_X5_drift (pm_pi Q_X5_drift) := pm_met k_X5_drift (by decide) rfl (by
  rintro ⟨g0, g1, g2, g3, g4⟩ av h hp
  rw [hp.1]
  exact Nat.le_of_ble_eq_true rfl) pf_X5_drift
theorem rc_X5_drift : ∀ g av h, P_X5_drift g av h → ∃ i t, av = .inr (.inr (5, i, 0)) :: t := by
  rintro ⟨g0, g1, g2, g3, g4⟩ av h hp
  exact ⟨_, _, hp.1⟩
