/-! BiscuitLore: drift, read. -/
def sp_got (x : Int32) : Nat := x.toBitVec.toNat / 65536 % 32768
theorem got_eq (x : Int32) : (x.toUInt32 >>> ((nI 16).toUInt32 &&& Int32.toUInt32 31)).toInt32 &&& nI 32767 = nI (sp_got x) := by
  rw [pk_and _ (m := nI 32767) 15 (by decide +kernel), pk_ushr x (nI 16) 16 (by decide +kernel)]
  rfl
def sp_roll (x : Int32) : Int32 := x * nI 1103515245 + nI 12345
def sp_dst (N : LD) (g : Nat) (X : LD) : LD := sp_live (lu (lu X 6 (g % N 0 3) (g / 8 % N 0 0)) 0 8 (g / 64 % 10))
def sp_dr (N : LD) (seed : Int32) : Nat → Int32 × LD
  | 0 => (seed, N)
  | n + 1 => (sp_roll (sp_dr N seed n).1, sp_dst N (sp_got (sp_roll (sp_dr N seed n).1)) (sp_dr N seed n).2)
noncomputable def a_drift (N : LD) (seed n w : Int32) : Int32 := ci (wi n 1 60 ∧ hf w) (if N 0 3 = 0 then -2 else if w = nI 0 then nI (sp_sum ((sp_dr N seed (ixv n)).2 5) (N 0 3)) else nI (sp_sum ((sp_dr N seed (ixv n)).2 2) (N 0 0)) - nI (sp_sum (N 2) (N 0 0))) (-1)
theorem sp_dr_ok {N : LD} (wN : la_ok N) (h0 : 0 < N 0 0) (h3 : 0 < N 0 3) (seed : Int32) : ∀ n, N 0 10 + n ≤ 4000 → la_ok (sp_dr N seed n).2 ∧ (sp_dr N seed n).2 0 10 = N 0 10 + n ∧ (sp_dr N seed n).2 0 3 = N 0 3 ∧ (sp_dr N seed n).2 0 0 = N 0 0
  | 0, _ => ⟨wN, rfl, rfl, rfl⟩
  | n + 1, h => by
    obtain ⟨a1, a2, a3, a4⟩ := sp_dr_ok wN h0 h3 seed n (by omega)
    rw [sp_dr]
    simp only
    generalize sp_got (sp_roll (sp_dr N seed n).1) = g
    generalize (sp_dr N seed n).2 = X at a1 a2 a3 a4
    have w1 := wN.1
    have w2 := wN.2.1
    have m1 : g % N 0 3 < N 0 3 := Nat.mod_lt _ h3
    have m2 : g / 8 % N 0 0 < N 0 0 := Nat.mod_lt _ h0
    have wU : la_ok (lu (lu X 6 (g % N 0 3) (g / 8 % N 0 0)) 0 8 (g / 64 % 10)) := by
      refine la_ok_lu (la_ok_lu a1 ?_ ?_) ?_ ?_
      · unfold la_rel; omega
      · unfold la_bd; omega
      · unfold la_rel; omega
      · unfold la_bd; omega
    have eU : ∀ j, j ≠ 8 → lu (lu X 6 (g % N 0 3) (g / 8 % N 0 0)) 0 8 (g / 64 % 10) 0 j = X 0 j := fun j hj => by rw [lu_ne (by omega), lu_ne (by omega)]
    unfold sp_dst
    refine ⟨la_ok_live wU (by rw [eU 10 (by decide)]; omega), ?_, ?_, ?_⟩
    · rw [sp_live_day, eU 10 (by decide)]; omega
    · rw [sp_live_s (by decide) (by decide) (by decide), eU 3 (by decide)]; exact a3
    · rw [sp_live_s (by decide) (by decide) (by decide), eU 0 (by decide)]; exact a4
def P_X4_drift : Int32 × Int32 × Int32 × LD × LD × pm_H → List pm_V → pm_H → Prop := fun g av h => match g with
  | (sd, n, w, N, T, h0) => av = [vR 4 0 0, vI sd, vI n, vI w] ∧ h = h0 ∧ la_at h0 0 N ∧ la_at h0 1 T ∧ no_ok N ∧ la_ok T
def Q_X4_drift : Int32 × Int32 × Int32 × LD × LD × pm_H → Int32 → pm_H → Prop := fun g r h => match g with
  | (sd, n, w, N, T, h0) => tf h0 h ∧ r = a_drift N sd n w
def T_X4_drift : List (Nat × pm_T) := [
  (0, i_il 2 1),
  (1, i_c (nI 1) 2),
  (2, i_c (nI 60) 4),
  (4, i_ci 3 P_X4_within Q_X4_within 7),
  (7, i_ifeq 17 10),
  (10, i_il 3 11),
  (11, i_ci 1 P_X4_isHalf Q_X4_isHalf 14),
  (14, i_ifne 19 17),
  (17, i_c (-1) 18),
  (18, i_ir),
  (19, i_al 0 20),
  (20, i_gr 4 (fun _ => (0, 0, 0)) 23),
  (23, i_gi 0 3 26),
  (26, i_ifle 39 29),
  (29, i_al 0 30),
  (30, i_gr 4 (fun _ => (0, 0, 0)) 33),
  (33, i_gi 0 0 36),
  (36, i_ifgt 42 39),
  (39, i_c (-2) 41),
  (41, i_ir),
  (42, i_al 0 43),
  (43, i_gr 4 (fun _ => (0, 1, 0)) 46),
  (46, i_al 0 47),
  (47, i_gr 4 (fun _ => (0, 0, 0)) 50),
  (50, i_cv 2 P_X0_take Q_X0_take 53),
  (53, i_il 1 54),
  (54, i_is 4 56),
  (56, i_c (nI 0) 57),
  (57, i_is 5 59),
  (59, i_il 5 61),
  (61, i_il 2 62),
  (62, i_icge 147 65),
  (65, i_il 4 67),
  (67, i_c (nI 1103515245) 69),
  (69, i_imul 70),
  (70, i_c (nI 12345) 73),
  (73, i_iadd 74),
  (74, i_is 4 76),
  (76, i_il 4 78),
  (78, i_c (nI 16) 80),
  (80, i_iushr 81),
  (81, i_c (nI 32767) 84),
  (84, i_iand 85),
  (85, i_is 6 87),
  (87, i_al 0 88),
  (88, i_gr 4 (fun _ => (0, 1, 0)) 91),
  (91, i_gr 0 (fun i => (0, i, 6)) 94),
  (94, i_il 6 96),
  (96, i_al 0 97),
  (97, i_gr 4 (fun _ => (0, 0, 0)) 100),
  (100, i_gi 0 3 103),
  (103, i_irem 104),
  (104, i_il 6 106),
  (106, i_c (nI 8) 108),
  (108, i_idiv 109),
  (109, i_al 0 110),
  (110, i_gr 4 (fun _ => (0, 0, 0)) 113),
  (113, i_gi 0 0 116),
  (116, i_irem 117),
  (117, i_ias 118),
  (118, i_al 0 119),
  (119, i_gr 4 (fun _ => (0, 1, 0)) 122),
  (122, i_il 6 124),
  (124, i_c (nI 64) 126),
  (126, i_idiv 127),
  (127, i_c (nI 10) 129),
  (129, i_irem 130),
  (130, i_pi 0 8 133),
  (133, i_al 0 134),
  (134, i_gr 4 (fun _ => (0, 1, 0)) 137),
  (137, i_ci 1 P_X0_live Q_X0_live 140),
  (140, i_pop 141),
  (141, i_inc 5 (nI 1) 144),
  (144, i_go 59),
  (147, i_il 3 148),
  (148, i_ifne 161 151),
  (151, i_al 0 152),
  (152, i_gr 4 (fun _ => (0, 1, 0)) 155),
  (155, i_ci 1 P_X0_allCrumbs Q_X0_allCrumbs 158),
  (158, i_go 176),
  (161, i_al 0 162),
  (162, i_gr 4 (fun _ => (0, 1, 0)) 165),
  (165, i_ci 1 P_X0_allHunger Q_X0_allHunger 168),
  (168, i_al 0 169),
  (169, i_gr 4 (fun _ => (0, 0, 0)) 172),
  (172, i_ci 1 P_X0_allHunger Q_X0_allHunger 175),
  (175, i_isub 176),
  (176, i_ir)]
theorem k_X4_drift : ∀ q ∈ T_X4_drift, pm_sd RX4 cX4_drift 7 4 1 q.1 q.2 := by
  unfold T_X4_drift
  refine pm_cn (sd_iln (k := 2) (by decide +kernel) rfl rfl) ?_
  refine pm_cn (sd_iconst (z := 1) (by decide +kernel) (by decide +kernel) rfl) ?_
  refine pm_cn (sd_bipush (z := 60) (by decide +kernel) (by decide +kernel) rfl) ?_
  refine pm_cn (sd_cis M_X4_within (by decide) cd_X4_within ml_X4_57 st_X4_within nt_X4 (by decide +kernel) (by omega) (by decide) (by decide +kernel) rfl) ?_
  refine pm_cn (sd_ifeq (off := 10) (by decide +kernel) (by decide) rfl) ?_
  refine pm_cn (sd_iln (k := 3) (by decide +kernel) rfl rfl) ?_
  refine pm_cn (sd_cis M_X4_isHalf (by decide) cd_X4_isHalf ml_X4_152 st_X4_isHalf nt_X4 (by decide +kernel) (by omega) (by decide) (by decide +kernel) rfl) ?_
  refine pm_cn (sd_ifne (off := 5) (by decide +kernel) (by decide) rfl) ?_
  refine pm_cn (sd_iconst (z := -1) (by decide +kernel) (by decide +kernel) rfl) ?_
  refine pm_cn (sd_ir (by decide +kernel)) ?_
  refine pm_cn (sd_aln (k := 0) (by decide +kernel) rfl rfl) ?_
  refine pm_cn (sd_gr cl4_ in4_ (j := 1) (by decide) (fun _ => rfl) fl_X4_19 (by decide +kernel) rfl) ?_
  refine pm_cn (sd_gi cl0_ in0_ (by decide) (fun _ => rfl) fl_X4_92 (by decide +kernel) rfl) ?_
  refine pm_cn (sd_ifle (off := 13) (by decide +kernel) (by decide) rfl) ?_
  refine pm_cn (sd_aln (k := 0) (by decide +kernel) rfl rfl) ?_
  refine pm_cn (sd_gr cl4_ in4_ (j := 1) (by decide) (fun _ => rfl) fl_X4_19 (by decide +kernel) rfl) ?_
  refine pm_cn (sd_gi cl0_ in0_ (by decide) (fun _ => rfl) fl_X4_89 (by decide +kernel) rfl) ?_
  refine pm_cn (sd_ifgt (off := 6) (by decide +kernel) (by decide) rfl) ?_
  refine pm_cn (sd_bipush (z := -2) (by decide +kernel) (by decide +kernel) rfl) ?_
  refine pm_cn (sd_ir (by decide +kernel)) ?_
  refine pm_cn (sd_aln (k := 0) (by decide +kernel) rfl rfl) ?_
  refine pm_cn (sd_gr cl4_ in4_ (j := 2) (by decide) (fun _ => rfl) fl_X4_23 (by decide +kernel) rfl) ?_
  refine pm_cn (sd_aln (k := 0) (by decide +kernel) rfl rfl) ?_
  refine pm_cn (sd_gr cl4_ in4_ (j := 1) (by decide) (fun _ => rfl) fl_X4_19 (by decide +kernel) rfl) ?_
  refine pm_cn (sd_cvv M_X0_take cd_X0_take rc_X0_take cl0_ ml_X4_76 im_X0_take se_X0_take nt_X0 (by decide +kernel) (by omega) (by decide) (by decide +kernel) rfl) ?_
  refine pm_cn (sd_iln (k := 1) (by decide +kernel) rfl rfl) ?_
  refine pm_cn (sd_is (by decide +kernel) rfl (by decide)) ?_
  refine pm_cn (sd_iconst (z := 0) (by decide +kernel) (by decide +kernel) rfl) ?_
  refine pm_cn (sd_is (by decide +kernel) rfl (by decide)) ?_
  refine pm_cn (sd_il (by decide +kernel) rfl) ?_
  refine pm_cn (sd_iln (k := 2) (by decide +kernel) rfl rfl) ?_
  refine pm_cn (sd_icge (off := 85) (by decide +kernel) (by decide) rfl) ?_
  refine pm_cn (sd_il (by decide +kernel) rfl) ?_
  refine pm_cn (sd_ldc (k := 236) (by decide +kernel) (pm_tin (by decide +kernel) rfl) rfl) ?_
  refine pm_cn (sd_imul (by decide +kernel) rfl) ?_
  refine pm_cn (sd_sipush (z := 12345) (by decide +kernel) (by decide +kernel) rfl) ?_
  refine pm_cn (sd_iadd (by decide +kernel) rfl) ?_
  refine pm_cn (sd_is (by decide +kernel) rfl (by decide)) ?_
  refine pm_cn (sd_il (by decide +kernel) rfl) ?_
  refine pm_cn (sd_bipush (z := 16) (by decide +kernel) (by decide +kernel) rfl) ?_
  refine pm_cn (sd_iushr (by decide +kernel) rfl) ?_
  refine pm_cn (sd_sipush (z := 32767) (by decide +kernel) (by decide +kernel) rfl) ?_
  refine pm_cn (sd_iand (by decide +kernel) rfl) ?_
  refine pm_cn (sd_is (by decide +kernel) rfl (by decide)) ?_
  refine pm_cn (sd_aln (k := 0) (by decide +kernel) rfl rfl) ?_
  refine pm_cn (sd_gr cl4_ in4_ (j := 2) (by decide) (fun _ => rfl) fl_X4_23 (by decide +kernel) rfl) ?_
  refine pm_cn (sd_gr cl0_ in0_ (j := 7) (by decide) (fun _ => rfl) fl_X4_143 (by decide +kernel) rfl) ?_
  refine pm_cn (sd_il (by decide +kernel) rfl) ?_
  refine pm_cn (sd_aln (k := 0) (by decide +kernel) rfl rfl) ?_
  refine pm_cn (sd_gr cl4_ in4_ (j := 1) (by decide) (fun _ => rfl) fl_X4_19 (by decide +kernel) rfl) ?_
  refine pm_cn (sd_gi cl0_ in0_ (by decide) (fun _ => rfl) fl_X4_92 (by decide +kernel) rfl) ?_
  refine pm_cn (sd_irem (by decide +kernel) rfl) ?_
  refine pm_cn (sd_il (by decide +kernel) rfl) ?_
  refine pm_cn (sd_bipush (z := 8) (by decide +kernel) (by decide +kernel) rfl) ?_
  refine pm_cn (sd_idiv (by decide +kernel) rfl) ?_
  refine pm_cn (sd_aln (k := 0) (by decide +kernel) rfl rfl) ?_
  refine pm_cn (sd_gr cl4_ in4_ (j := 1) (by decide) (fun _ => rfl) fl_X4_19 (by decide +kernel) rfl) ?_
  refine pm_cn (sd_gi cl0_ in0_ (by decide) (fun _ => rfl) fl_X4_89 (by decide +kernel) rfl) ?_
  refine pm_cn (sd_irem (by decide +kernel) rfl) ?_
  refine pm_cn (sd_ias (by decide +kernel) rfl) ?_
  refine pm_cn (sd_aln (k := 0) (by decide +kernel) rfl rfl) ?_
  refine pm_cn (sd_gr cl4_ in4_ (j := 2) (by decide) (fun _ => rfl) fl_X4_23 (by decide +kernel) rfl) ?_
  refine pm_cn (sd_il (by decide +kernel) rfl) ?_
  refine pm_cn (sd_bipush (z := 64) (by decide +kernel) (by decide +kernel) rfl) ?_
  refine pm_cn (sd_idiv (by decide +kernel) rfl) ?_
  refine pm_cn (sd_bipush (z := 10) (by decide +kernel) (by decide +kernel) rfl) ?_
  refine pm_cn (sd_irem (by decide +kernel) rfl) ?_
  refine pm_cn (sd_pi cl0_ in0_ tyX0 tyX0_ok nmX0 (by decide) (fun _ => rfl) rfl rfl fl_X4_95 (by decide +kernel) rfl) ?_
  refine pm_cn (sd_aln (k := 0) (by decide +kernel) rfl rfl) ?_
  refine pm_cn (sd_gr cl4_ in4_ (j := 2) (by decide) (fun _ => rfl) fl_X4_23 (by decide +kernel) rfl) ?_
  refine pm_cn (sd_civ M_X0_live (by decide) cd_X0_live rc_X0_live cl0_ ml_X4_176 im_X0_live se_X0_live nt_X0 (by decide +kernel) (by omega) (by decide) (by decide +kernel) rfl) ?_
  refine pm_cn (sd_pop (by decide +kernel) rfl) ?_
  refine pm_cn (sd_inc (z := 1) (by decide +kernel) (by decide +kernel) rfl (by decide)) ?_
  refine pm_cn (sd_go (off := -85) (by decide +kernel) (by decide)) ?_
  refine pm_cn (sd_iln (k := 3) (by decide +kernel) rfl rfl) ?_
  refine pm_cn (sd_ifne (off := 13) (by decide +kernel) (by decide) rfl) ?_
  refine pm_cn (sd_aln (k := 0) (by decide +kernel) rfl rfl) ?_
  refine pm_cn (sd_gr cl4_ in4_ (j := 2) (by decide) (fun _ => rfl) fl_X4_23 (by decide +kernel) rfl) ?_
  refine pm_cn (sd_civ M_X0_allCrumbs (by decide) cd_X0_allCrumbs rc_X0_allCrumbs cl0_ ml_X4_104 im_X0_allCrumbs se_X0_allCrumbs nt_X0 (by decide +kernel) (by omega) (by decide) (by decide +kernel) rfl) ?_
  refine pm_cn (sd_go (off := 18) (by decide +kernel) (by decide)) ?_
  refine pm_cn (sd_aln (k := 0) (by decide +kernel) rfl rfl) ?_
  refine pm_cn (sd_gr cl4_ in4_ (j := 2) (by decide) (fun _ => rfl) fl_X4_23 (by decide +kernel) rfl) ?_
  refine pm_cn (sd_civ M_X0_allHunger (by decide) cd_X0_allHunger rc_X0_allHunger cl0_ ml_X4_182 im_X0_allHunger se_X0_allHunger nt_X0 (by decide +kernel) (by omega) (by decide) (by decide +kernel) rfl) ?_
  refine pm_cn (sd_aln (k := 0) (by decide +kernel) rfl rfl) ?_
  refine pm_cn (sd_gr cl4_ in4_ (j := 1) (by decide) (fun _ => rfl) fl_X4_19 (by decide +kernel) rfl) ?_
  refine pm_cn (sd_civ M_X0_allHunger (by decide) cd_X0_allHunger rc_X0_allHunger cl0_ ml_X4_182 im_X0_allHunger se_X0_allHunger nt_X0 (by decide +kernel) (by omega) (by decide) (by decide +kernel) rfl) ?_
  refine pm_cn (sd_isub (by decide +kernel) rfl) ?_
  refine pm_cn (sd_ir (by decide +kernel)) ?_
  exact fun _ h => absurd h List.not_mem_nil
set_option maxHeartbeats 800000 in
set_option maxRecDepth 100000 in
theorem pf_X4_drift : pm_pf T_X4_drift P_X4_drift (pm_pi Q_X4_drift) := by
  rintro ⟨sd, n, w, N, T, h0⟩ av h K hK ⟨rfl, rfl, hN, hT, ⟨wN, hd, hwh⟩, wT⟩ hret
  have w1 := wN.1
  have w2 := wN.2.1
  show K (some 0) ([(0, vR 4 0 0), (1, vI sd), (2, vI n), (3, vI w)], [], h)
  refine hK [(59, [0, 2, 3, 4, 5])] 80 _ _ ?_
  conv => whnf
  repeat' (first
    | (refine ⟨fun c9 => ?_, fun c9 => ?_⟩ <;> (try simp (disch := omega) only [nI_leI, nI_ltI, nI_eq, nz_eq, nz_lt, nz_gt, nz_le, nz_ge, nz_00, nz_n1, nI_add, pk_mul, pk_sub, nI_shl1, nI_or, nI_half2, nI_min2, la_put_eq, la_up, lr_same, lr_ne, lu_same, lu_ne, not_true_eq_false, not_false_eq_true] at c9) <;> first | (exfalso; omega) | conv => whnf)
    | (refine ⟨_, rfl, by omega, ?_⟩; conv => whnf)
    | (refine ⟨_, rfl, rfl, rfl, by decide, by decide, ?_⟩; conv => whnf)
    | (refine ⟨_, by (simp (disch := omega) only [nI_leI, nI_ltI, nI_eq, nz_eq, nz_lt, nz_gt, nz_le, nz_ge, nz_00, nz_n1, nI_add, pk_mul, pk_sub, nI_shl1, nI_or, nI_half2, nI_min2, la_put_eq, la_up, lr_same, lr_ne, lu_same, lu_ne, not_true_eq_false, not_false_eq_true]; rfl), by omega, ?_⟩; conv => whnf)
    | (apply And.intro; (first | assumption | decide | (simp (disch := omega) only [nI_leI, nI_ltI, nI_eq, nz_eq, nz_lt, nz_gt, nz_le, nz_ge, nz_00, nz_n1, nI_add, pk_mul, pk_sub, nI_shl1, nI_or, nI_half2, nI_min2, la_put_eq, la_up, lr_same, lr_ne, lu_same, lu_ne, not_true_eq_false, not_false_eq_true]; omega)); conv => whnf))
  all_goals (try simp (disch := omega) only [nI_leI, nI_ltI, nI_eq, nz_eq, nz_lt, nz_gt, nz_le, nz_ge, nz_00, nz_n1, nI_add, pk_mul, pk_sub, nI_shl1, nI_or, nI_half2, nI_min2, la_put_eq, la_up, lr_same, lr_ne, lu_same, lu_ne, not_true_eq_false, not_false_eq_true])
  refine ⟨(n, nI 1, nI 60, _), ⟨rfl, rfl⟩, fun r h' hq => ?_⟩
  obtain ⟨rfl, ⟨hn, rfl⟩ | ⟨hc, rfl⟩⟩ := Q_within (by decide) (by decide) hq
  · conv => whnf
    repeat' (first
      | (refine ⟨fun c9 => ?_, fun c9 => ?_⟩ <;> (try simp (disch := omega) only [nI_leI, nI_ltI, nI_eq, nz_eq, nz_lt, nz_gt, nz_le, nz_ge, nz_00, nz_n1, nI_add, pk_mul, pk_sub, nI_shl1, nI_or, nI_half2, nI_min2, la_put_eq, la_up, lr_same, lr_ne, lu_same, lu_ne, not_true_eq_false, not_false_eq_true] at c9) <;> first | (exfalso; omega) | conv => whnf)
      | (refine ⟨_, rfl, by omega, ?_⟩; conv => whnf)
      | (refine ⟨_, rfl, rfl, rfl, by decide, by decide, ?_⟩; conv => whnf)
      | (refine ⟨_, by (simp (disch := omega) only [nI_leI, nI_ltI, nI_eq, nz_eq, nz_lt, nz_gt, nz_le, nz_ge, nz_00, nz_n1, nI_add, pk_mul, pk_sub, nI_shl1, nI_or, nI_half2, nI_min2, la_put_eq, la_up, lr_same, lr_ne, lu_same, lu_ne, not_true_eq_false, not_false_eq_true]; rfl), by omega, ?_⟩; conv => whnf)
      | (apply And.intro; (first | assumption | decide | (simp (disch := omega) only [nI_leI, nI_ltI, nI_eq, nz_eq, nz_lt, nz_gt, nz_le, nz_ge, nz_00, nz_n1, nI_add, pk_mul, pk_sub, nI_shl1, nI_or, nI_half2, nI_min2, la_put_eq, la_up, lr_same, lr_ne, lu_same, lu_ne, not_true_eq_false, not_false_eq_true]; omega)); conv => whnf))
    all_goals (try simp (disch := omega) only [nI_leI, nI_ltI, nI_eq, nz_eq, nz_lt, nz_gt, nz_le, nz_ge, nz_00, nz_n1, nI_add, pk_mul, pk_sub, nI_shl1, nI_or, nI_half2, nI_min2, la_put_eq, la_up, lr_same, lr_ne, lu_same, lu_ne, not_true_eq_false, not_false_eq_true])
    refine ⟨(w, _), ⟨rfl, rfl⟩, fun r h' hq => ?_⟩
    obtain ⟨rfl, ⟨hw, rfl⟩ | ⟨hc, rfl⟩⟩ := hq
    · obtain ⟨M, m1, m2, rfl⟩ := id hn
      have hv : ixv (nI M) = M := ixv_nI (by omega)
      conv => whnf
      repeat' (first
        | (refine ⟨fun c9 => ?_, fun c9 => ?_⟩ <;> (try simp (disch := omega) only [nI_leI, nI_ltI, nI_eq, nz_eq, nz_lt, nz_gt, nz_le, nz_ge, nz_00, nz_n1, nI_add, pk_mul, pk_sub, nI_shl1, nI_or, nI_half2, nI_min2, la_put_eq, la_up, lr_same, lr_ne, lu_same, lu_ne, not_true_eq_false, not_false_eq_true, hN] at c9) <;> first | (exfalso; omega) | conv => whnf)
        | (refine ⟨_, rfl, by omega, ?_⟩; conv => whnf)
        | (refine ⟨_, rfl, rfl, rfl, by decide, by decide, ?_⟩; conv => whnf)
        | (refine ⟨_, by (simp (disch := omega) only [nI_leI, nI_ltI, nI_eq, nz_eq, nz_lt, nz_gt, nz_le, nz_ge, nz_00, nz_n1, nI_add, pk_mul, pk_sub, nI_shl1, nI_or, nI_half2, nI_min2, la_put_eq, la_up, lr_same, lr_ne, lu_same, lu_ne, not_true_eq_false, not_false_eq_true, hN]; rfl), by omega, ?_⟩; conv => whnf)
        | (apply And.intro; (first | assumption | decide | (simp (disch := omega) only [nI_leI, nI_ltI, nI_eq, nz_eq, nz_lt, nz_gt, nz_le, nz_ge, nz_00, nz_n1, nI_add, pk_mul, pk_sub, nI_shl1, nI_or, nI_half2, nI_min2, la_put_eq, la_up, lr_same, lr_ne, lu_same, lu_ne, not_true_eq_false, not_false_eq_true, hN]; omega)); conv => whnf))
      all_goals (try simp (disch := omega) only [nI_leI, nI_ltI, nI_eq, nz_eq, nz_lt, nz_gt, nz_le, nz_ge, nz_00, nz_n1, nI_add, pk_mul, pk_sub, nI_shl1, nI_or, nI_half2, nI_min2, la_put_eq, la_up, lr_same, lr_ne, lu_same, lu_ne, not_true_eq_false, not_false_eq_true, hN])
      · refine hret _ _ ⟨tf_self hT wT, ?_⟩
        rw [a_drift, ci_t ⟨hn, hw⟩, if_pos (by omega)]
      · have h30 : 0 < N 0 3 := by omega
        have h00 : 0 < N 0 0 := by assumption
        refine ⟨(1, 0, T, N, _), ⟨rfl, rfl, hT, hN, wT, wN, by decide⟩, fun h'' hq => ?_⟩
        have hq : h'' = la_put h' 1 N := hq
        subst hq
        have hN0 : ∀ (X : LD) (j : Nat), la_put h' 1 X 0 0 0 j = nI (N 0 j) := fun X j => by rw [la_put_ne (by omega), hN]
        have fin : ∀ X, la_ok X → X = (sp_dr N sd M).2 → K (some 147) ([(0, vR 4 0 0), (3, vI w)], [], la_put h' 1 X) := by
          intro X wX hX
          obtain ⟨-, -, a3, a4⟩ := sp_dr_ok wN h00 h30 sd M (by omega)
          rw [← hX] at a3 a4
          refine hK [] 60 _ _ ?_
          conv => whnf
          repeat' (first
            | (refine ⟨fun c9 => ?_, fun c9 => ?_⟩ <;> (try simp (disch := omega) only [nI_leI, nI_ltI, nI_eq, nz_eq, nz_lt, nz_gt, nz_le, nz_ge, nz_00, nz_n1, nI_add, pk_mul, pk_sub, nI_shl1, nI_or, nI_half2, nI_min2, la_put_eq, la_up, lr_same, lr_ne, lu_same, lu_ne, not_true_eq_false, not_false_eq_true] at c9) <;> first | (exfalso; omega) | conv => whnf)
            | (refine ⟨_, rfl, by omega, ?_⟩; conv => whnf)
            | (refine ⟨_, rfl, rfl, rfl, by decide, by decide, ?_⟩; conv => whnf)
            | (refine ⟨_, by (simp (disch := omega) only [nI_leI, nI_ltI, nI_eq, nz_eq, nz_lt, nz_gt, nz_le, nz_ge, nz_00, nz_n1, nI_add, pk_mul, pk_sub, nI_shl1, nI_or, nI_half2, nI_min2, la_put_eq, la_up, lr_same, lr_ne, lu_same, lu_ne, not_true_eq_false, not_false_eq_true]; rfl), by omega, ?_⟩; conv => whnf)
            | (apply And.intro; (first | assumption | decide | (simp (disch := omega) only [nI_leI, nI_ltI, nI_eq, nz_eq, nz_lt, nz_gt, nz_le, nz_ge, nz_00, nz_n1, nI_add, pk_mul, pk_sub, nI_shl1, nI_or, nI_half2, nI_min2, la_put_eq, la_up, lr_same, lr_ne, lu_same, lu_ne, not_true_eq_false, not_false_eq_true]; omega)); conv => whnf))
          all_goals (try simp (disch := omega) only [nI_leI, nI_ltI, nI_eq, nz_eq, nz_lt, nz_gt, nz_le, nz_ge, nz_00, nz_n1, nI_add, pk_mul, pk_sub, nI_shl1, nI_or, nI_half2, nI_min2, la_put_eq, la_up, lr_same, lr_ne, lu_same, lu_ne, not_true_eq_false, not_false_eq_true])
          · refine ⟨(1, X, _), ⟨rfl, rfl, la_put_at _ _ _, wX⟩, fun r h'' hq => ?_⟩
            obtain ⟨rfl, rfl⟩ := hq
            conv => whnf
            repeat' (first
              | (refine ⟨fun c9 => ?_, fun c9 => ?_⟩ <;> (try simp (disch := omega) only [nI_leI, nI_ltI, nI_eq, nz_eq, nz_lt, nz_gt, nz_le, nz_ge, nz_00, nz_n1, nI_add, pk_mul, pk_sub, nI_shl1, nI_or, nI_half2, nI_min2, la_put_eq, la_up, lr_same, lr_ne, lu_same, lu_ne, not_true_eq_false, not_false_eq_true] at c9) <;> first | (exfalso; omega) | conv => whnf)
              | (refine ⟨_, rfl, by omega, ?_⟩; conv => whnf)
              | (refine ⟨_, rfl, rfl, rfl, by decide, by decide, ?_⟩; conv => whnf)
              | (refine ⟨_, by (simp (disch := omega) only [nI_leI, nI_ltI, nI_eq, nz_eq, nz_lt, nz_gt, nz_le, nz_ge, nz_00, nz_n1, nI_add, pk_mul, pk_sub, nI_shl1, nI_or, nI_half2, nI_min2, la_put_eq, la_up, lr_same, lr_ne, lu_same, lu_ne, not_true_eq_false, not_false_eq_true]; rfl), by omega, ?_⟩; conv => whnf)
              | (apply And.intro; (first | assumption | decide | (simp (disch := omega) only [nI_leI, nI_ltI, nI_eq, nz_eq, nz_lt, nz_gt, nz_le, nz_ge, nz_00, nz_n1, nI_add, pk_mul, pk_sub, nI_shl1, nI_or, nI_half2, nI_min2, la_put_eq, la_up, lr_same, lr_ne, lu_same, lu_ne, not_true_eq_false, not_false_eq_true]; omega)); conv => whnf))
            all_goals (try simp (disch := omega) only [nI_leI, nI_ltI, nI_eq, nz_eq, nz_lt, nz_gt, nz_le, nz_ge, nz_00, nz_n1, nI_add, pk_mul, pk_sub, nI_shl1, nI_or, nI_half2, nI_min2, la_put_eq, la_up, lr_same, lr_ne, lu_same, lu_ne, not_true_eq_false, not_false_eq_true])
            refine ⟨(0, N, _), ⟨rfl, rfl, la_at_ne hN (by decide), wN⟩, fun r h'' hq => ?_⟩
            obtain ⟨rfl, rfl⟩ := hq
            conv => whnf
            refine hret _ _ ⟨⟨X, wX, rfl⟩, ?_⟩
            rw [a_drift, ci_t ⟨hn, hw⟩, if_neg (by omega), hv, ← hX, if_neg (by assumption), a4]
          · refine ⟨(1, X, _), ⟨rfl, rfl, la_put_at _ _ _, wX⟩, fun r h'' hq => ?_⟩
            obtain ⟨rfl, rfl⟩ := hq
            conv => whnf
            repeat' (first
              | (refine ⟨fun c9 => ?_, fun c9 => ?_⟩ <;> (try simp (disch := omega) only [nI_leI, nI_ltI, nI_eq, nz_eq, nz_lt, nz_gt, nz_le, nz_ge, nz_00, nz_n1, nI_add, pk_mul, pk_sub, nI_shl1, nI_or, nI_half2, nI_min2, la_put_eq, la_up, lr_same, lr_ne, lu_same, lu_ne, not_true_eq_false, not_false_eq_true] at c9) <;> first | (exfalso; omega) | conv => whnf)
              | (refine ⟨_, rfl, by omega, ?_⟩; conv => whnf)
              | (refine ⟨_, rfl, rfl, rfl, by decide, by decide, ?_⟩; conv => whnf)
              | (refine ⟨_, by (simp (disch := omega) only [nI_leI, nI_ltI, nI_eq, nz_eq, nz_lt, nz_gt, nz_le, nz_ge, nz_00, nz_n1, nI_add, pk_mul, pk_sub, nI_shl1, nI_or, nI_half2, nI_min2, la_put_eq, la_up, lr_same, lr_ne, lu_same, lu_ne, not_true_eq_false, not_false_eq_true]; rfl), by omega, ?_⟩; conv => whnf)
              | (apply And.intro; (first | assumption | decide | (simp (disch := omega) only [nI_leI, nI_ltI, nI_eq, nz_eq, nz_lt, nz_gt, nz_le, nz_ge, nz_00, nz_n1, nI_add, pk_mul, pk_sub, nI_shl1, nI_or, nI_half2, nI_min2, la_put_eq, la_up, lr_same, lr_ne, lu_same, lu_ne, not_true_eq_false, not_false_eq_true]; omega)); conv => whnf))
            all_goals (try simp (disch := omega) only [nI_leI, nI_ltI, nI_eq, nz_eq, nz_lt, nz_gt, nz_le, nz_ge, nz_00, nz_n1, nI_add, pk_mul, pk_sub, nI_shl1, nI_or, nI_half2, nI_min2, la_put_eq, la_up, lr_same, lr_ne, lu_same, lu_ne, not_true_eq_false, not_false_eq_true])
            refine hret _ _ ⟨⟨X, wX, rfl⟩, ?_⟩
            rw [a_drift, ci_t ⟨hn, hw⟩, if_neg (by omega), hv, ← hX, if_pos (by assumption), a3]
        have loop : ∀ n k p, k + n = M → p = sp_dr N sd k → K (some 59) ([(0, vR 4 0 0), (2, vI (nI M)), (3, vI w), (4, vI p.1), (5, vI (nI k))], [], la_put h' 1 p.2) := by
          intro n
          induction n with
          | zero =>
            intro k p hk hp
            have : k = M := by omega
            subst this
            obtain ⟨a1, a2, a3, a4⟩ := sp_dr_ok wN h00 h30 sd k (by omega)
            rw [← hp] at a1
            refine hK [(59, [0, 2, 3, 4, 5]), (147, [0, 3])] 60 _ _ ?_
            conv => whnf
            repeat' (first
              | (refine ⟨fun c9 => ?_, fun c9 => ?_⟩ <;> (try simp (disch := omega) only [nI_leI, nI_ltI, nI_eq, nz_eq, nz_lt, nz_gt, nz_le, nz_ge, nz_00, nz_n1, nI_add, pk_mul, pk_sub, nI_shl1, nI_or, nI_half2, nI_min2, la_put_eq, la_up, lr_same, lr_ne, lu_same, lu_ne, not_true_eq_false, not_false_eq_true] at c9) <;> first | (exfalso; omega) | conv => whnf)
              | (refine ⟨_, rfl, by omega, ?_⟩; conv => whnf)
              | (refine ⟨_, rfl, rfl, rfl, by decide, by decide, ?_⟩; conv => whnf)
              | (refine ⟨_, by (simp (disch := omega) only [nI_leI, nI_ltI, nI_eq, nz_eq, nz_lt, nz_gt, nz_le, nz_ge, nz_00, nz_n1, nI_add, pk_mul, pk_sub, nI_shl1, nI_or, nI_half2, nI_min2, la_put_eq, la_up, lr_same, lr_ne, lu_same, lu_ne, not_true_eq_false, not_false_eq_true]; rfl), by omega, ?_⟩; conv => whnf)
              | (apply And.intro; (first | assumption | decide | (simp (disch := omega) only [nI_leI, nI_ltI, nI_eq, nz_eq, nz_lt, nz_gt, nz_le, nz_ge, nz_00, nz_n1, nI_add, pk_mul, pk_sub, nI_shl1, nI_or, nI_half2, nI_min2, la_put_eq, la_up, lr_same, lr_ne, lu_same, lu_ne, not_true_eq_false, not_false_eq_true]; omega)); conv => whnf))
            all_goals (try simp (disch := omega) only [nI_leI, nI_ltI, nI_eq, nz_eq, nz_lt, nz_gt, nz_le, nz_ge, nz_00, nz_n1, nI_add, pk_mul, pk_sub, nI_shl1, nI_or, nI_half2, nI_min2, la_put_eq, la_up, lr_same, lr_ne, lu_same, lu_ne, not_true_eq_false, not_false_eq_true])
            exact fin p.2 a1 (by rw [hp])
          | succ n ih =>
            intro k p hk hp
            obtain ⟨a1, a2, a3, a4⟩ := sp_dr_ok wN h00 h30 sd k (by omega)
            rw [← hp] at a1 a2 a3 a4
            obtain ⟨b1, b2, b3, b4⟩ := sp_dr_ok wN h00 h30 sd (k + 1) (by omega)
            have hst : sp_dr N sd (k + 1) = (sp_roll p.1, sp_dst N (sp_got (sp_roll p.1)) p.2) := by rw [sp_dr, ← hp]
            have ge : (sp_roll p.1).toUInt32 >>> ((nI 16).toUInt32 &&& Int32.toUInt32 31) = (sp_roll p.1).toUInt32 >>> ((nI 16).toUInt32 &&& Int32.toUInt32 31) := rfl
            have gq := got_eq (sp_roll p.1)
            have gl : sp_got (sp_roll p.1) < 32768 := Nat.mod_lt _ (by decide)
            have rl : p.1 * nI 1103515245 + nI 12345 = sp_roll p.1 := rfl
            generalize sp_got (sp_roll p.1) = g at hst gq gl
            have m1 : g % N 0 3 < N 0 3 := Nat.mod_lt _ h30
            have m2 : g / 8 % N 0 0 < N 0 0 := Nat.mod_lt _ h00
            have e1 : nI g / nI 8 = nI (g / 8) := pk_div (by omega) (by decide) (by decide)
            have e2 : nI g / nI 64 = nI (g / 64) := pk_div (by omega) (by decide) (by decide)
            have e3 : nI g - nI g / nI (N 0 3) * nI (N 0 3) = nI (g % N 0 3) := pk_rem (by omega) h30 (by omega)
            have e4 : nI (g / 8) - nI (g / 8) / nI (N 0 0) * nI (N 0 0) = nI (g / 8 % N 0 0) := pk_rem (by omega) h00 (by omega)
            have e5 : nI (g / 64) - nI (g / 64) / nI 10 * nI 10 = nI (g / 64 % 10) := pk_rem (by omega) (by decide) (by decide)
            refine hK [(59, [0, 2, 3, 4, 5]), (147, [0, 3])] 100 _ _ ?_
            conv => whnf
            repeat' (first
              | (refine ⟨fun c9 => ?_, fun c9 => ?_⟩ <;> (try simp (disch := omega) only [nI_leI, nI_ltI, nI_eq, nz_eq, nz_lt, nz_gt, nz_le, nz_ge, nz_00, nz_n1, nI_add, pk_mul, pk_sub, nI_shl1, nI_or, nI_half2, nI_min2, la_put_eq, la_up, lr_same, lr_ne, lu_same, lu_ne, not_true_eq_false, not_false_eq_true, hN0, rl, gq, e1, e2, e3, e4, e5] at c9) <;> first | (exfalso; omega) | conv => whnf)
              | (refine ⟨_, rfl, by omega, ?_⟩; conv => whnf)
              | (refine ⟨_, rfl, rfl, rfl, by decide, by decide, ?_⟩; conv => whnf)
              | (refine ⟨_, by (simp (disch := omega) only [nI_leI, nI_ltI, nI_eq, nz_eq, nz_lt, nz_gt, nz_le, nz_ge, nz_00, nz_n1, nI_add, pk_mul, pk_sub, nI_shl1, nI_or, nI_half2, nI_min2, la_put_eq, la_up, lr_same, lr_ne, lu_same, lu_ne, not_true_eq_false, not_false_eq_true, hN0, rl, gq, e1, e2, e3, e4, e5]; rfl), by omega, ?_⟩; conv => whnf)
              | (apply And.intro; (first | assumption | decide | (simp (disch := omega) only [nI_leI, nI_ltI, nI_eq, nz_eq, nz_lt, nz_gt, nz_le, nz_ge, nz_00, nz_n1, nI_add, pk_mul, pk_sub, nI_shl1, nI_or, nI_half2, nI_min2, la_put_eq, la_up, lr_same, lr_ne, lu_same, lu_ne, not_true_eq_false, not_false_eq_true, hN0, rl, gq, e1, e2, e3, e4, e5]; omega)); conv => whnf))
            all_goals (try simp (disch := omega) only [nI_leI, nI_ltI, nI_eq, nz_eq, nz_lt, nz_gt, nz_le, nz_ge, nz_00, nz_n1, nI_add, pk_mul, pk_sub, nI_shl1, nI_or, nI_half2, nI_min2, la_put_eq, la_up, lr_same, lr_ne, lu_same, lu_ne, not_true_eq_false, not_false_eq_true, hN0, rl, gq, e1, e2, e3, e4, e5])
            have wU : la_ok (lu (lu p.2 6 (g % N 0 3) (g / 8 % N 0 0)) 0 8 (g / 64 % 10)) := by
              refine la_ok_lu (la_ok_lu a1 ?_ ?_) ?_ ?_
              · unfold la_rel; omega
              · unfold la_bd; omega
              · unfold la_rel; omega
              · unfold la_bd; omega
            have eU : lu (lu p.2 6 (g % N 0 3) (g / 8 % N 0 0)) 0 8 (g / 64 % 10) 0 10 = p.2 0 10 := by rw [lu_ne (by omega), lu_ne (by omega)]
            refine ⟨(1, lu (lu p.2 6 (g % N 0 3) (g / 8 % N 0 0)) 0 8 (g / 64 % 10), _), ⟨rfl, rfl, la_put_at _ _ _, wU, by omega⟩, fun r h'' hq => ?_⟩
            obtain ⟨rfl, rfl⟩ := hq
            conv => whnf
            repeat' (first
              | (refine ⟨fun c9 => ?_, fun c9 => ?_⟩ <;> (try simp (disch := omega) only [nI_leI, nI_ltI, nI_eq, nz_eq, nz_lt, nz_gt, nz_le, nz_ge, nz_00, nz_n1, nI_add, pk_mul, pk_sub, nI_shl1, nI_or, nI_half2, nI_min2, la_put_eq, la_up, lr_same, lr_ne, lu_same, lu_ne, not_true_eq_false, not_false_eq_true, la_put2] at c9) <;> first | (exfalso; omega) | conv => whnf)
              | (refine ⟨_, rfl, by omega, ?_⟩; conv => whnf)
              | (refine ⟨_, rfl, rfl, rfl, by decide, by decide, ?_⟩; conv => whnf)
              | (refine ⟨_, by (simp (disch := omega) only [nI_leI, nI_ltI, nI_eq, nz_eq, nz_lt, nz_gt, nz_le, nz_ge, nz_00, nz_n1, nI_add, pk_mul, pk_sub, nI_shl1, nI_or, nI_half2, nI_min2, la_put_eq, la_up, lr_same, lr_ne, lu_same, lu_ne, not_true_eq_false, not_false_eq_true, la_put2]; rfl), by omega, ?_⟩; conv => whnf)
              | (apply And.intro; (first | assumption | decide | (simp (disch := omega) only [nI_leI, nI_ltI, nI_eq, nz_eq, nz_lt, nz_gt, nz_le, nz_ge, nz_00, nz_n1, nI_add, pk_mul, pk_sub, nI_shl1, nI_or, nI_half2, nI_min2, la_put_eq, la_up, lr_same, lr_ne, lu_same, lu_ne, not_true_eq_false, not_false_eq_true, la_put2]; omega)); conv => whnf))
            all_goals (try simp (disch := omega) only [nI_leI, nI_ltI, nI_eq, nz_eq, nz_lt, nz_gt, nz_le, nz_ge, nz_00, nz_n1, nI_add, pk_mul, pk_sub, nI_shl1, nI_or, nI_half2, nI_min2, la_put_eq, la_up, lr_same, lr_ne, lu_same, lu_ne, not_true_eq_false, not_false_eq_true, la_put2])
            exact ih (k + 1) (sp_roll p.1, sp_dst N g p.2) (by omega) hst.symm
        conv => whnf
        repeat' (first
          | (refine ⟨fun c9 => ?_, fun c9 => ?_⟩ <;> (try simp (disch := omega) only [nI_leI, nI_ltI, nI_eq, nz_eq, nz_lt, nz_gt, nz_le, nz_ge, nz_00, nz_n1, nI_add, pk_mul, pk_sub, nI_shl1, nI_or, nI_half2, nI_min2, la_put_eq, la_up, lr_same, lr_ne, lu_same, lu_ne, not_true_eq_false, not_false_eq_true] at c9) <;> first | (exfalso; omega) | conv => whnf)
          | (refine ⟨_, rfl, by omega, ?_⟩; conv => whnf)
          | (refine ⟨_, rfl, rfl, rfl, by decide, by decide, ?_⟩; conv => whnf)
          | (refine ⟨_, by (simp (disch := omega) only [nI_leI, nI_ltI, nI_eq, nz_eq, nz_lt, nz_gt, nz_le, nz_ge, nz_00, nz_n1, nI_add, pk_mul, pk_sub, nI_shl1, nI_or, nI_half2, nI_min2, la_put_eq, la_up, lr_same, lr_ne, lu_same, lu_ne, not_true_eq_false, not_false_eq_true]; rfl), by omega, ?_⟩; conv => whnf)
          | (apply And.intro; (first | assumption | decide | (simp (disch := omega) only [nI_leI, nI_ltI, nI_eq, nz_eq, nz_lt, nz_gt, nz_le, nz_ge, nz_00, nz_n1, nI_add, pk_mul, pk_sub, nI_shl1, nI_or, nI_half2, nI_min2, la_put_eq, la_up, lr_same, lr_ne, lu_same, lu_ne, not_true_eq_false, not_false_eq_true]; omega)); conv => whnf))
        all_goals (try simp (disch := omega) only [nI_leI, nI_ltI, nI_eq, nz_eq, nz_lt, nz_gt, nz_le, nz_ge, nz_00, nz_n1, nI_add, pk_mul, pk_sub, nI_shl1, nI_or, nI_half2, nI_min2, la_put_eq, la_up, lr_same, lr_ne, lu_same, lu_ne, not_true_eq_false, not_false_eq_true])
        exact loop M 0 (sd, N) (by omega) rfl
      · exfalso
        have := hwh 0 (by omega)
        omega
    · conv => whnf
      repeat' (first
        | (refine ⟨fun c9 => ?_, fun c9 => ?_⟩ <;> (try simp (disch := omega) only [nI_leI, nI_ltI, nI_eq, nz_eq, nz_lt, nz_gt, nz_le, nz_ge, nz_00, nz_n1, nI_add, pk_mul, pk_sub, nI_shl1, nI_or, nI_half2, nI_min2, la_put_eq, la_up, lr_same, lr_ne, lu_same, lu_ne, not_true_eq_false, not_false_eq_true] at c9) <;> first | (exfalso; omega) | conv => whnf)
        | (refine ⟨_, rfl, by omega, ?_⟩; conv => whnf)
        | (refine ⟨_, rfl, rfl, rfl, by decide, by decide, ?_⟩; conv => whnf)
        | (refine ⟨_, by (simp (disch := omega) only [nI_leI, nI_ltI, nI_eq, nz_eq, nz_lt, nz_gt, nz_le, nz_ge, nz_00, nz_n1, nI_add, pk_mul, pk_sub, nI_shl1, nI_or, nI_half2, nI_min2, la_put_eq, la_up, lr_same, lr_ne, lu_same, lu_ne, not_true_eq_false, not_false_eq_true]; rfl), by omega, ?_⟩; conv => whnf)
        | (apply And.intro; (first | assumption | decide | (simp (disch := omega) only [nI_leI, nI_ltI, nI_eq, nz_eq, nz_lt, nz_gt, nz_le, nz_ge, nz_00, nz_n1, nI_add, pk_mul, pk_sub, nI_shl1, nI_or, nI_half2, nI_min2, la_put_eq, la_up, lr_same, lr_ne, lu_same, lu_ne, not_true_eq_false, not_false_eq_true]; omega)); conv => whnf))
      all_goals (try simp (disch := omega) only [nI_leI, nI_ltI, nI_eq, nz_eq, nz_lt, nz_gt, nz_le, nz_ge, nz_00, nz_n1, nI_add, pk_mul, pk_sub, nI_shl1, nI_or, nI_half2, nI_min2, la_put_eq, la_up, lr_same, lr_ne, lu_same, lu_ne, not_true_eq_false, not_false_eq_true])
      refine hret _ _ ⟨tf_self hT wT, ?_⟩
      rw [a_drift, ci_f (fun q => hc q.2)]
  · conv => whnf
    repeat' (first
      | (refine ⟨fun c9 => ?_, fun c9 => ?_⟩ <;> (try simp (disch := omega) only [nI_leI, nI_ltI, nI_eq, nz_eq, nz_lt, nz_gt, nz_le, nz_ge, nz_00, nz_n1, nI_add, pk_mul, pk_sub, nI_shl1, nI_or, nI_half2, nI_min2, la_put_eq, la_up, lr_same, lr_ne, lu_same, lu_ne, not_true_eq_false, not_false_eq_true] at c9) <;> first | (exfalso; omega) | conv => whnf)
      | (refine ⟨_, rfl, by omega, ?_⟩; conv => whnf)
      | (refine ⟨_, rfl, rfl, rfl, by decide, by decide, ?_⟩; conv => whnf)
      | (refine ⟨_, by (simp (disch := omega) only [nI_leI, nI_ltI, nI_eq, nz_eq, nz_lt, nz_gt, nz_le, nz_ge, nz_00, nz_n1, nI_add, pk_mul, pk_sub, nI_shl1, nI_or, nI_half2, nI_min2, la_put_eq, la_up, lr_same, lr_ne, lu_same, lu_ne, not_true_eq_false, not_false_eq_true]; rfl), by omega, ?_⟩; conv => whnf)
      | (apply And.intro; (first | assumption | decide | (simp (disch := omega) only [nI_leI, nI_ltI, nI_eq, nz_eq, nz_lt, nz_gt, nz_le, nz_ge, nz_00, nz_n1, nI_add, pk_mul, pk_sub, nI_shl1, nI_or, nI_half2, nI_min2, la_put_eq, la_up, lr_same, lr_ne, lu_same, lu_ne, not_true_eq_false, not_false_eq_true]; omega)); conv => whnf))
    all_goals (try simp (disch := omega) only [nI_leI, nI_ltI, nI_eq, nz_eq, nz_lt, nz_gt, nz_le, nz_ge, nz_00, nz_n1, nI_add, pk_mul, pk_sub, nI_shl1, nI_or, nI_half2, nI_min2, la_put_eq, la_up, lr_same, lr_ne, lu_same, lu_ne, not_true_eq_false, not_false_eq_true])
    refine hret _ _ ⟨tf_self hT wT, ?_⟩
    rw [a_drift, ci_f (fun q => hc q.1)]
theorem M_X4_drift : pm_MT yX4_drift cX4_drift 7 1 4 P_X4_drift (pm_pi Q_X4_drift) := pm_met k_X4_drift (by decide) rfl (by
  rintro ⟨g0, g1, g2, g3, g4, g5⟩ av h hp
  rw [hp.1]
  exact Nat.le_of_ble_eq_true rfl) pf_X4_drift
theorem rc_X4_drift : ∀ g av h, P_X4_drift g av h → ∃ i t, av = .inr (.inr (4, i, 0)) :: t := by
  rintro ⟨g0, g1, g2, g3, g4, g5⟩ av h hp
  exact ⟨_, _, hp.1⟩
/-! read -/
def bkok (X : LD) (a b c d : Int32) : Prop := wi a 0 3 ∧ wi b 0 9 ∧ wi c 0 99 ∧ ixI d (X 0 0) ∧ X 0 3 < 6
def sp_rd (C : Nat → Int32) (k : Nat) (N : LD) : Nat → LD
  | 0 => N
  | i + 1 => sp_addB (sp_rd C k N i) (ixv (C (k + 4 * i))) (ixv (C (k + 4 * i + 1))) (ixv (C (k + 4 * i + 2))) (ixv (C (k + 4 * i + 3)))
def rd_nf (t l z lane : Nat) (f : Int32) (c : Nat) : Prop := t ≠ 0 ∧ l = lane ∧ f = nI (ixv f) ∧ ixv f + 4 * c + 4 ≤ z
def rd_bk (C : Nat → Int32) (N : LD) (f : Int32) (c : Nat) : Prop := bkok (sp_rd C (ixv f) N c) (C (ixv f + 4 * c)) (C (ixv f + 4 * c + 1)) (C (ixv f + 4 * c + 2)) (C (ixv f + 4 * c + 3))
def rd_flt (t l lane : Nat) : Int32 := if t = 0 then nI 1 else if l = lane then nI 2 else nI 3
/-- what a read of m biscuits comes to: how many came, the answer, the fault, the larder -/
def q_rd (t l z lane : Nat) (C : Nat → Int32) (N : LD) (f : Int32) (m c : Nat) (r : Int32) (e : Option Int32) (N' : LD) : Prop := c ≤ m ∧ (∀ i, i < c → rd_nf t l z lane f i ∧ rd_bk C N f i) ∧ ((c = m ∧ r = nI m ∧ e = some (nI 0) ∧ N' = sp_rd C (ixv f) N c) ∨ (c < m ∧ ¬ rd_nf t l z lane f c ∧ r = nI c ∧ e = some (rd_flt t l lane) ∧ N' = sp_rd C (ixv f) N c) ∨ (c < m ∧ rd_nf t l z lane f c ∧ ¬ rd_bk C N f c ∧ r = (-20) - nI c ∧ e = none ∧ N' = lu (sp_rd C (ixv f) N c) 0 3 (N 0 3)))
def rd_h (h0 : pm_H) (N' : LD) (e : Option Int32) : pm_H := match e with
  | some x => pm_up (la_put h0 0 N') 4 0 0 9 x
  | none => la_put h0 0 N'
def P_X4_read : Int32 × Int32 × Int32 × Int32 × LD × (Nat → Nat) × (Nat → Nat) × (Nat → Nat) × pm_H → List pm_V → pm_H → Prop := fun g av h => match g with
  | (k, ln, f, n, N, t, l, z, h0) => av = [vR 4 0 0, vI k, vI ln, vI f, vI n] ∧ h = h0 ∧ la_at h0 0 N ∧ la_ok N ∧ shs h0 t l z
def Q_X4_read : Int32 × Int32 × Int32 × Int32 × LD × (Nat → Nat) × (Nat → Nat) × (Nat → Nat) × pm_H → Int32 → pm_H → Prop := fun g r h => match g with
  | (k, ln, f, n, N, t, l, z, h0) => (∃ q x m c e N', q < 4 ∧ x ≤ 2 ∧ m ≤ 10 ∧ k = nI q ∧ ln = nI x ∧ n = nI m ∧ q_rd (t q) (l q) (z q) x (h0 1 q 1) N f m c r e N' ∧ la_ok N' ∧ h = rd_h h0 N' e) ∨ (¬ (wi k 0 3 ∧ wi ln 0 2 ∧ wi n 0 10) ∧ r = -1 ∧ h = h0)
theorem sp_addB_s {X : LD} {a b c d j : Nat} (hj : j ≠ 3) : sp_addB X a b c d 0 j = X 0 j := by
  unfold sp_addB
  rw [lu_ne (by omega), lu_ne (by omega), lu_ne (by omega), lu_ne (by omega), lu_ne (by omega)]
theorem sp_rd_0 {C : Nat → Int32} {k : Nat} {N : LD} {j : Nat} (hj : j ≠ 3) : ∀ i, sp_rd C k N i 0 j = N 0 j
  | 0 => rfl
  | i + 1 => by rw [sp_rd, sp_addB_s hj, sp_rd_0 hj i]
theorem nI_a0 (x : Int32) : x + nI 0 = x := by
  show x + 0 = x
  exact Int32.add_zero x
def T_X4_read : List (Nat × pm_T) := [
  (0, i_il 1 1),
  (1, i_c (nI 0) 2),
  (2, i_c (nI 3) 3),
  (3, i_ci 3 P_X4_within Q_X4_within 6),
  (6, i_ifeq 29 9),
  (9, i_il 2 10),
  (10, i_c (nI 0) 11),
  (11, i_c (nI 2) 12),
  (12, i_ci 3 P_X4_within Q_X4_within 15),
  (15, i_ifeq 29 18),
  (18, i_il 4 20),
  (20, i_c (nI 0) 21),
  (21, i_c (nI 10) 23),
  (23, i_ci 3 P_X4_within Q_X4_within 26),
  (26, i_ifne 31 29),
  (29, i_c (-1) 30),
  (30, i_ir),
  (31, i_al 0 32),
  (32, i_gr 4 (fun _ => (4, 0, 3)) 35),
  (35, i_il 1 36),
  (36, i_aa 4 (fun k => (1, k, 0)) 37),
  (37, i_as 5 39),
  (39, i_al 0 40),
  (40, i_gr 4 (fun _ => (0, 0, 0)) 43),
  (43, i_gi 0 3 46),
  (46, i_is 6 48),
  (48, i_c (nI 0) 49),
  (49, i_is 7 51),
  (51, i_c (nI 0) 52),
  (52, i_is 8 54),
  (54, i_il 8 56),
  (56, i_il 4 58),
  (58, i_icge 156 61),
  (61, i_il 7 63),
  (63, i_ifne 156 66),
  (66, i_il 3 67),
  (67, i_c (nI 4) 68),
  (68, i_il 8 70),
  (70, i_imul 71),
  (71, i_iadd 72),
  (72, i_is 9 74),
  (74, i_al 5 76),
  (76, i_il 2 77),
  (77, i_il 9 79),
  (79, i_c (nI 4) 80),
  (80, i_ci 4 P_X1_faultAt Q_X1_faultAt 83),
  (83, i_is 7 85),
  (85, i_il 7 87),
  (87, i_ifne 153 90),
  (90, i_al 0 91),
  (91, i_al 5 93),
  (93, i_gr 1 (fun i => (1, i, 1)) 96),
  (96, i_il 9 98),
  (98, i_ia 99),
  (99, i_al 5 101),
  (101, i_gr 1 (fun i => (1, i, 1)) 104),
  (104, i_il 9 106),
  (106, i_c (nI 1) 107),
  (107, i_iadd 108),
  (108, i_ia 109),
  (109, i_al 5 111),
  (111, i_gr 1 (fun i => (1, i, 1)) 114),
  (114, i_il 9 116),
  (116, i_c (nI 2) 117),
  (117, i_iadd 118),
  (118, i_ia 119),
  (119, i_al 5 121),
  (121, i_gr 1 (fun i => (1, i, 1)) 124),
  (124, i_il 9 126),
  (126, i_c (nI 3) 127),
  (127, i_iadd 128),
  (128, i_ia 129),
  (129, i_ci 5 P_X4_bake Q_X4_bake 132),
  (132, i_ifge 150 135),
  (135, i_al 0 136),
  (136, i_gr 4 (fun _ => (0, 0, 0)) 139),
  (139, i_il 6 141),
  (141, i_pi 0 3 144),
  (144, i_c (-20) 146),
  (146, i_il 8 148),
  (148, i_isub 149),
  (149, i_ir),
  (150, i_inc 8 (nI 1) 153),
  (153, i_go 54),
  (156, i_al 0 157),
  (157, i_il 7 159),
  (159, i_pi 4 9 162),
  (162, i_il 8 164),
  (164, i_ir)]
theorem k_X4_read : ∀ q ∈ T_X4_read, pm_sd RX4 cX4_read 10 4 1 q.1 q.2 := by
  unfold T_X4_read
  refine pm_cn (sd_iln (k := 1) (by decide +kernel) rfl rfl) ?_
  refine pm_cn (sd_iconst (z := 0) (by decide +kernel) (by decide +kernel) rfl) ?_
  refine pm_cn (sd_iconst (z := 3) (by decide +kernel) (by decide +kernel) rfl) ?_
  refine pm_cn (sd_cis M_X4_within (by decide) cd_X4_within ml_X4_57 st_X4_within nt_X4 (by decide +kernel) (by omega) (by decide) (by decide +kernel) rfl) ?_
  refine pm_cn (sd_ifeq (off := 23) (by decide +kernel) (by decide) rfl) ?_
  refine pm_cn (sd_iln (k := 2) (by decide +kernel) rfl rfl) ?_
  refine pm_cn (sd_iconst (z := 0) (by decide +kernel) (by decide +kernel) rfl) ?_
  refine pm_cn (sd_iconst (z := 2) (by decide +kernel) (by decide +kernel) rfl) ?_
  refine pm_cn (sd_cis M_X4_within (by decide) cd_X4_within ml_X4_57 st_X4_within nt_X4 (by decide +kernel) (by omega) (by decide) (by decide +kernel) rfl) ?_
  refine pm_cn (sd_ifeq (off := 14) (by decide +kernel) (by decide) rfl) ?_
  refine pm_cn (sd_il (by decide +kernel) rfl) ?_
  refine pm_cn (sd_iconst (z := 0) (by decide +kernel) (by decide +kernel) rfl) ?_
  refine pm_cn (sd_bipush (z := 10) (by decide +kernel) (by decide +kernel) rfl) ?_
  refine pm_cn (sd_cis M_X4_within (by decide) cd_X4_within ml_X4_57 st_X4_within nt_X4 (by decide +kernel) (by omega) (by decide) (by decide +kernel) rfl) ?_
  refine pm_cn (sd_ifne (off := 5) (by decide +kernel) (by decide) rfl) ?_
  refine pm_cn (sd_iconst (z := -1) (by decide +kernel) (by decide +kernel) rfl) ?_
  refine pm_cn (sd_ir (by decide +kernel)) ?_
  refine pm_cn (sd_aln (k := 0) (by decide +kernel) rfl rfl) ?_
  refine pm_cn (sd_gr cl4_ in4_ (j := 6) (by decide) (fun _ => rfl) fl_X4_43 (by decide +kernel) rfl) ?_
  refine pm_cn (sd_iln (k := 1) (by decide +kernel) rfl rfl) ?_
  refine pm_cn (sd_aa (by decide) (fun _ => rfl) (by decide +kernel) rfl) ?_
  refine pm_cn (sd_as (by decide +kernel) rfl (by decide)) ?_
  refine pm_cn (sd_aln (k := 0) (by decide +kernel) rfl rfl) ?_
  refine pm_cn (sd_gr cl4_ in4_ (j := 1) (by decide) (fun _ => rfl) fl_X4_19 (by decide +kernel) rfl) ?_
  refine pm_cn (sd_gi cl0_ in0_ (by decide) (fun _ => rfl) fl_X4_92 (by decide +kernel) rfl) ?_
  refine pm_cn (sd_is (by decide +kernel) rfl (by decide)) ?_
  refine pm_cn (sd_iconst (z := 0) (by decide +kernel) (by decide +kernel) rfl) ?_
  refine pm_cn (sd_is (by decide +kernel) rfl (by decide)) ?_
  refine pm_cn (sd_iconst (z := 0) (by decide +kernel) (by decide +kernel) rfl) ?_
  refine pm_cn (sd_is (by decide +kernel) rfl (by decide)) ?_
  refine pm_cn (sd_il (by decide +kernel) rfl) ?_
  refine pm_cn (sd_il (by decide +kernel) rfl) ?_
  refine pm_cn (sd_icge (off := 98) (by decide +kernel) (by decide) rfl) ?_
  refine pm_cn (sd_il (by decide +kernel) rfl) ?_
  refine pm_cn (sd_ifne (off := 93) (by decide +kernel) (by decide) rfl) ?_
  refine pm_cn (sd_iln (k := 3) (by decide +kernel) rfl rfl) ?_
  refine pm_cn (sd_iconst (z := 4) (by decide +kernel) (by decide +kernel) rfl) ?_
  refine pm_cn (sd_il (by decide +kernel) rfl) ?_
  refine pm_cn (sd_imul (by decide +kernel) rfl) ?_
  refine pm_cn (sd_iadd (by decide +kernel) rfl) ?_
  refine pm_cn (sd_is (by decide +kernel) rfl (by decide)) ?_
  refine pm_cn (sd_al (by decide +kernel) rfl) ?_
  refine pm_cn (sd_iln (k := 2) (by decide +kernel) rfl rfl) ?_
  refine pm_cn (sd_il (by decide +kernel) rfl) ?_
  refine pm_cn (sd_iconst (z := 4) (by decide +kernel) (by decide +kernel) rfl) ?_
  refine pm_cn (sd_civ M_X1_faultAt (by decide) cd_X1_faultAt rc_X1_faultAt cl1_ ml_X4_243 im_X1_faultAt se_X1_faultAt nt_X1 (by decide +kernel) (by omega) (by decide) (by decide +kernel) rfl) ?_
  refine pm_cn (sd_is (by decide +kernel) rfl (by decide)) ?_
  refine pm_cn (sd_il (by decide +kernel) rfl) ?_
  refine pm_cn (sd_ifne (off := 66) (by decide +kernel) (by decide) rfl) ?_
  refine pm_cn (sd_aln (k := 0) (by decide +kernel) rfl rfl) ?_
  refine pm_cn (sd_al (by decide +kernel) rfl) ?_
  refine pm_cn (sd_gr cl1_ in1_ (j := 3) (by decide) (fun _ => rfl) fl_X4_247 (by decide +kernel) rfl) ?_
  refine pm_cn (sd_il (by decide +kernel) rfl) ?_
  refine pm_cn (sd_ia (by decide +kernel) rfl) ?_
  refine pm_cn (sd_al (by decide +kernel) rfl) ?_
  refine pm_cn (sd_gr cl1_ in1_ (j := 3) (by decide) (fun _ => rfl) fl_X4_247 (by decide +kernel) rfl) ?_
  refine pm_cn (sd_il (by decide +kernel) rfl) ?_
  refine pm_cn (sd_iconst (z := 1) (by decide +kernel) (by decide +kernel) rfl) ?_
  refine pm_cn (sd_iadd (by decide +kernel) rfl) ?_
  refine pm_cn (sd_ia (by decide +kernel) rfl) ?_
  refine pm_cn (sd_al (by decide +kernel) rfl) ?_
  refine pm_cn (sd_gr cl1_ in1_ (j := 3) (by decide) (fun _ => rfl) fl_X4_247 (by decide +kernel) rfl) ?_
  refine pm_cn (sd_il (by decide +kernel) rfl) ?_
  refine pm_cn (sd_iconst (z := 2) (by decide +kernel) (by decide +kernel) rfl) ?_
  refine pm_cn (sd_iadd (by decide +kernel) rfl) ?_
  refine pm_cn (sd_ia (by decide +kernel) rfl) ?_
  refine pm_cn (sd_al (by decide +kernel) rfl) ?_
  refine pm_cn (sd_gr cl1_ in1_ (j := 3) (by decide) (fun _ => rfl) fl_X4_247 (by decide +kernel) rfl) ?_
  refine pm_cn (sd_il (by decide +kernel) rfl) ?_
  refine pm_cn (sd_iconst (z := 3) (by decide +kernel) (by decide +kernel) rfl) ?_
  refine pm_cn (sd_iadd (by decide +kernel) rfl) ?_
  refine pm_cn (sd_ia (by decide +kernel) rfl) ?_
  refine pm_cn (sd_civ M_X4_bake (by decide) cd_X4_bake rc_X4_bake cl4_ ml_X4_253 im_X4_bake se_X4_bake nt_X4 (by decide +kernel) (by omega) (by decide) (by decide +kernel) rfl) ?_
  refine pm_cn (sd_ifge (off := 18) (by decide +kernel) (by decide) rfl) ?_
  refine pm_cn (sd_aln (k := 0) (by decide +kernel) rfl rfl) ?_
  refine pm_cn (sd_gr cl4_ in4_ (j := 1) (by decide) (fun _ => rfl) fl_X4_19 (by decide +kernel) rfl) ?_
  refine pm_cn (sd_il (by decide +kernel) rfl) ?_
  refine pm_cn (sd_pi cl0_ in0_ tyX0 tyX0_ok nmX0 (by decide) (fun _ => rfl) rfl rfl fl_X4_92 (by decide +kernel) rfl) ?_
  refine pm_cn (sd_bipush (z := -20) (by decide +kernel) (by decide +kernel) rfl) ?_
  refine pm_cn (sd_il (by decide +kernel) rfl) ?_
  refine pm_cn (sd_isub (by decide +kernel) rfl) ?_
  refine pm_cn (sd_ir (by decide +kernel)) ?_
  refine pm_cn (sd_inc (z := 1) (by decide +kernel) (by decide +kernel) rfl (by decide)) ?_
  refine pm_cn (sd_go (off := -99) (by decide +kernel) (by decide)) ?_
  refine pm_cn (sd_aln (k := 0) (by decide +kernel) rfl rfl) ?_
  refine pm_cn (sd_il (by decide +kernel) rfl) ?_
  refine pm_cn (sd_pi cl4_ in4_ tyX4 tyX4_ok nmX4 (by decide) (fun _ => rfl) rfl rfl fl_X4_257 (by decide +kernel) rfl) ?_
  refine pm_cn (sd_il (by decide +kernel) rfl) ?_
  refine pm_cn (sd_ir (by decide +kernel)) ?_
  exact fun _ h => absurd h List.not_mem_nil
set_option maxHeartbeats 800000 in
set_option maxRecDepth 100000 in
theorem pf_X4_read : pm_pf T_X4_read P_X4_read (pm_pi Q_X4_read) := by
  rintro ⟨k, ln, f, n, N, t, l, z, h0⟩ av h K hK ⟨rfl, rfl, hN, wN, hsh⟩ hret
  have w1 := wN.1
  have w2 := wN.2.1
  show K (some 0) ([(0, vR 4 0 0), (1, vI k), (2, vI ln), (3, vI f), (4, vI n)], [], h)
  refine hK [(54, [0, 2, 3, 4, 5, 6, 7, 8])] 80 _ _ ?_
  conv => whnf
  repeat' (first
    | (refine ⟨fun c9 => ?_, fun c9 => ?_⟩ <;> (try simp (disch := omega) only [nI_leI, nI_ltI, nI_eq, nz_eq, nz_lt, nz_gt, nz_le, nz_ge, nz_00, nz_n1, nI_add, pk_mul, pk_sub, nI_shl1, nI_or, nI_half2, nI_min2, la_put_eq, la_up, lr_same, lr_ne, lu_same, lu_ne, not_true_eq_false, not_false_eq_true] at c9) <;> first | (exfalso; omega) | conv => whnf)
    | (refine ⟨_, rfl, by omega, ?_⟩; conv => whnf)
    | (refine ⟨_, rfl, rfl, rfl, by decide, by decide, ?_⟩; conv => whnf)
    | (refine ⟨_, by (simp (disch := omega) only [nI_leI, nI_ltI, nI_eq, nz_eq, nz_lt, nz_gt, nz_le, nz_ge, nz_00, nz_n1, nI_add, pk_mul, pk_sub, nI_shl1, nI_or, nI_half2, nI_min2, la_put_eq, la_up, lr_same, lr_ne, lu_same, lu_ne, not_true_eq_false, not_false_eq_true]; rfl), by omega, ?_⟩; conv => whnf)
    | (apply And.intro; (first | assumption | decide | (simp (disch := omega) only [nI_leI, nI_ltI, nI_eq, nz_eq, nz_lt, nz_gt, nz_le, nz_ge, nz_00, nz_n1, nI_add, pk_mul, pk_sub, nI_shl1, nI_or, nI_half2, nI_min2, la_put_eq, la_up, lr_same, lr_ne, lu_same, lu_ne, not_true_eq_false, not_false_eq_true]; omega)); conv => whnf))
  all_goals (try simp (disch := omega) only [nI_leI, nI_ltI, nI_eq, nz_eq, nz_lt, nz_gt, nz_le, nz_ge, nz_00, nz_n1, nI_add, pk_mul, pk_sub, nI_shl1, nI_or, nI_half2, nI_min2, la_put_eq, la_up, lr_same, lr_ne, lu_same, lu_ne, not_true_eq_false, not_false_eq_true])
  refine ⟨(k, nI 0, nI 3, _), ⟨rfl, rfl⟩, fun r h' hq => ?_⟩
  obtain ⟨rfl, ⟨hk, rfl⟩ | ⟨hc, rfl⟩⟩ := Q_within (by decide) (by decide) hq
  · conv => whnf
    repeat' (first
      | (refine ⟨fun c9 => ?_, fun c9 => ?_⟩ <;> (try simp (disch := omega) only [nI_leI, nI_ltI, nI_eq, nz_eq, nz_lt, nz_gt, nz_le, nz_ge, nz_00, nz_n1, nI_add, pk_mul, pk_sub, nI_shl1, nI_or, nI_half2, nI_min2, la_put_eq, la_up, lr_same, lr_ne, lu_same, lu_ne, not_true_eq_false, not_false_eq_true] at c9) <;> first | (exfalso; omega) | conv => whnf)
      | (refine ⟨_, rfl, by omega, ?_⟩; conv => whnf)
      | (refine ⟨_, rfl, rfl, rfl, by decide, by decide, ?_⟩; conv => whnf)
      | (refine ⟨_, by (simp (disch := omega) only [nI_leI, nI_ltI, nI_eq, nz_eq, nz_lt, nz_gt, nz_le, nz_ge, nz_00, nz_n1, nI_add, pk_mul, pk_sub, nI_shl1, nI_or, nI_half2, nI_min2, la_put_eq, la_up, lr_same, lr_ne, lu_same, lu_ne, not_true_eq_false, not_false_eq_true]; rfl), by omega, ?_⟩; conv => whnf)
      | (apply And.intro; (first | assumption | decide | (simp (disch := omega) only [nI_leI, nI_ltI, nI_eq, nz_eq, nz_lt, nz_gt, nz_le, nz_ge, nz_00, nz_n1, nI_add, pk_mul, pk_sub, nI_shl1, nI_or, nI_half2, nI_min2, la_put_eq, la_up, lr_same, lr_ne, lu_same, lu_ne, not_true_eq_false, not_false_eq_true]; omega)); conv => whnf))
    all_goals (try simp (disch := omega) only [nI_leI, nI_ltI, nI_eq, nz_eq, nz_lt, nz_gt, nz_le, nz_ge, nz_00, nz_n1, nI_add, pk_mul, pk_sub, nI_shl1, nI_or, nI_half2, nI_min2, la_put_eq, la_up, lr_same, lr_ne, lu_same, lu_ne, not_true_eq_false, not_false_eq_true])
    refine ⟨(ln, nI 0, nI 2, _), ⟨rfl, rfl⟩, fun r h' hq => ?_⟩
    obtain ⟨rfl, ⟨hl, rfl⟩ | ⟨hc, rfl⟩⟩ := Q_within (by decide) (by decide) hq
    · conv => whnf
      repeat' (first
        | (refine ⟨fun c9 => ?_, fun c9 => ?_⟩ <;> (try simp (disch := omega) only [nI_leI, nI_ltI, nI_eq, nz_eq, nz_lt, nz_gt, nz_le, nz_ge, nz_00, nz_n1, nI_add, pk_mul, pk_sub, nI_shl1, nI_or, nI_half2, nI_min2, la_put_eq, la_up, lr_same, lr_ne, lu_same, lu_ne, not_true_eq_false, not_false_eq_true] at c9) <;> first | (exfalso; omega) | conv => whnf)
        | (refine ⟨_, rfl, by omega, ?_⟩; conv => whnf)
        | (refine ⟨_, rfl, rfl, rfl, by decide, by decide, ?_⟩; conv => whnf)
        | (refine ⟨_, by (simp (disch := omega) only [nI_leI, nI_ltI, nI_eq, nz_eq, nz_lt, nz_gt, nz_le, nz_ge, nz_00, nz_n1, nI_add, pk_mul, pk_sub, nI_shl1, nI_or, nI_half2, nI_min2, la_put_eq, la_up, lr_same, lr_ne, lu_same, lu_ne, not_true_eq_false, not_false_eq_true]; rfl), by omega, ?_⟩; conv => whnf)
        | (apply And.intro; (first | assumption | decide | (simp (disch := omega) only [nI_leI, nI_ltI, nI_eq, nz_eq, nz_lt, nz_gt, nz_le, nz_ge, nz_00, nz_n1, nI_add, pk_mul, pk_sub, nI_shl1, nI_or, nI_half2, nI_min2, la_put_eq, la_up, lr_same, lr_ne, lu_same, lu_ne, not_true_eq_false, not_false_eq_true]; omega)); conv => whnf))
      all_goals (try simp (disch := omega) only [nI_leI, nI_ltI, nI_eq, nz_eq, nz_lt, nz_gt, nz_le, nz_ge, nz_00, nz_n1, nI_add, pk_mul, pk_sub, nI_shl1, nI_or, nI_half2, nI_min2, la_put_eq, la_up, lr_same, lr_ne, lu_same, lu_ne, not_true_eq_false, not_false_eq_true])
      refine ⟨(n, nI 0, nI 10, _), ⟨rfl, rfl⟩, fun r h' hq => ?_⟩
      obtain ⟨rfl, ⟨hn, rfl⟩ | ⟨hc, rfl⟩⟩ := Q_within (by decide) (by decide) hq
      · obtain ⟨q, q1, q2, rfl⟩ := id hk
        obtain ⟨x, x1, x2, rfl⟩ := id hl
        obtain ⟨m, m1, m2, rfl⟩ := id hn
        obtain ⟨⟨s0, s1, s2⟩, b1, b2, b3⟩ := hsh q (by omega)
        have done : ∀ c r e N', q_rd (t q) (l q) (z q) x (h' 1 q 1) N f m c r e N' → la_ok N' → K none ([], [vI r], rd_h h' N' e) := by
          intro c r e N' hq wN'
          refine hret _ _ ?_
          exact Or.inl ⟨q, x, m, c, e, N', by omega, x2, m2, rfl, rfl, rfl, hq, wN', rfl⟩
        have stop : ∀ c φ e X, φ ≠ 0 → la_ok X → q_rd (t q) (l q) (z q) x (h' 1 q 1) N f m c (nI c) (some (nI φ)) X → φ < 10 → c ≤ 10 → K (some 54) ([(0, vR 4 0 0), (2, vI (nI x)), (3, vI f), (4, vI (nI m)), (5, vR 1 q 0), (6, vI e), (7, vI (nI φ)), (8, vI (nI c))], [], la_put h' 0 X) := by
          intro c φ e X hφ wX hq hφ2 hc
          refine hK [] 60 _ _ ?_
          conv => whnf
          repeat' (first
            | (refine ⟨fun c9 => ?_, fun c9 => ?_⟩ <;> (try simp (disch := omega) only [nI_leI, nI_ltI, nI_eq, nz_eq, nz_lt, nz_gt, nz_le, nz_ge, nz_00, nz_n1, nI_add, pk_mul, pk_sub, nI_shl1, nI_or, nI_half2, nI_min2, la_put_eq, la_up, lr_same, lr_ne, lu_same, lu_ne, not_true_eq_false, not_false_eq_true] at c9) <;> first | (exfalso; omega) | conv => whnf)
            | (refine ⟨_, rfl, by omega, ?_⟩; conv => whnf)
            | (refine ⟨_, rfl, rfl, rfl, by decide, by decide, ?_⟩; conv => whnf)
            | (refine ⟨_, by (simp (disch := omega) only [nI_leI, nI_ltI, nI_eq, nz_eq, nz_lt, nz_gt, nz_le, nz_ge, nz_00, nz_n1, nI_add, pk_mul, pk_sub, nI_shl1, nI_or, nI_half2, nI_min2, la_put_eq, la_up, lr_same, lr_ne, lu_same, lu_ne, not_true_eq_false, not_false_eq_true]; rfl), by omega, ?_⟩; conv => whnf)
            | (apply And.intro; (first | assumption | decide | (simp (disch := omega) only [nI_leI, nI_ltI, nI_eq, nz_eq, nz_lt, nz_gt, nz_le, nz_ge, nz_00, nz_n1, nI_add, pk_mul, pk_sub, nI_shl1, nI_or, nI_half2, nI_min2, la_put_eq, la_up, lr_same, lr_ne, lu_same, lu_ne, not_true_eq_false, not_false_eq_true]; omega)); conv => whnf))
          all_goals (try simp (disch := omega) only [nI_leI, nI_ltI, nI_eq, nz_eq, nz_lt, nz_gt, nz_le, nz_ge, nz_00, nz_n1, nI_add, pk_mul, pk_sub, nI_shl1, nI_or, nI_half2, nI_min2, la_put_eq, la_up, lr_same, lr_ne, lu_same, lu_ne, not_true_eq_false, not_false_eq_true])
          all_goals exact done c (nI c) (some (nI φ)) X hq wX
        have loop : ∀ j c X, c + j = m → (∀ i, i < c → rd_nf (t q) (l q) (z q) x f i ∧ rd_bk (h' 1 q 1) N f i) → X = sp_rd (h' 1 q 1) (ixv f) N c → la_ok X → K (some 54) ([(0, vR 4 0 0), (2, vI (nI x)), (3, vI f), (4, vI (nI m)), (5, vR 1 q 0), (6, vI (nI (N 0 3))), (7, vI (nI 0)), (8, vI (nI c))], [], la_put h' 0 X) := by
          intro j
          induction j with
          | zero =>
            intro c X hcm hall hX wX
            refine hK [] 60 _ _ ?_
            conv => whnf
            repeat' (first
              | (refine ⟨fun c9 => ?_, fun c9 => ?_⟩ <;> (try simp (disch := omega) only [nI_leI, nI_ltI, nI_eq, nz_eq, nz_lt, nz_gt, nz_le, nz_ge, nz_00, nz_n1, nI_add, pk_mul, pk_sub, nI_shl1, nI_or, nI_half2, nI_min2, la_put_eq, la_up, lr_same, lr_ne, lu_same, lu_ne, not_true_eq_false, not_false_eq_true] at c9) <;> first | (exfalso; omega) | conv => whnf)
              | (refine ⟨_, rfl, by omega, ?_⟩; conv => whnf)
              | (refine ⟨_, rfl, rfl, rfl, by decide, by decide, ?_⟩; conv => whnf)
              | (refine ⟨_, by (simp (disch := omega) only [nI_leI, nI_ltI, nI_eq, nz_eq, nz_lt, nz_gt, nz_le, nz_ge, nz_00, nz_n1, nI_add, pk_mul, pk_sub, nI_shl1, nI_or, nI_half2, nI_min2, la_put_eq, la_up, lr_same, lr_ne, lu_same, lu_ne, not_true_eq_false, not_false_eq_true]; rfl), by omega, ?_⟩; conv => whnf)
              | (apply And.intro; (first | assumption | decide | (simp (disch := omega) only [nI_leI, nI_ltI, nI_eq, nz_eq, nz_lt, nz_gt, nz_le, nz_ge, nz_00, nz_n1, nI_add, pk_mul, pk_sub, nI_shl1, nI_or, nI_half2, nI_min2, la_put_eq, la_up, lr_same, lr_ne, lu_same, lu_ne, not_true_eq_false, not_false_eq_true]; omega)); conv => whnf))
            all_goals (try simp (disch := omega) only [nI_leI, nI_ltI, nI_eq, nz_eq, nz_lt, nz_gt, nz_le, nz_ge, nz_00, nz_n1, nI_add, pk_mul, pk_sub, nI_shl1, nI_or, nI_half2, nI_min2, la_put_eq, la_up, lr_same, lr_ne, lu_same, lu_ne, not_true_eq_false, not_false_eq_true])
            have : c = m := by omega
            subst this
            exact done c (nI c) (some (nI 0)) X ⟨Nat.le_refl _, hall, Or.inl ⟨rfl, rfl, rfl, hX⟩⟩ wX
          | succ j ih =>
            intro c X hcm hall hX wX
            have hX3 : X 0 3 ≤ 6 := wX.2.1
            have hX0 : X 0 0 = N 0 0 := by rw [hX, sp_rd_0 (by decide)]
            have hpos : sp_ix (f + nI (4 * c)) (z q) 4 ↔ (f = nI (ixv f) ∧ ixv f + 4 * c + 4 ≤ z q) := by
              by_cases h0 : c = 0
              · subst h0
                rw [show 4 * 0 = 0 from rfl, nI_a0]
                constructor
                · rintro ⟨y, y1, rfl⟩
                  rw [ixv_nI (by omega)]
                  exact ⟨rfl, by omega⟩
                · rintro ⟨h1, h2⟩
                  exact ⟨ixv f, by omega, h1⟩
              · have hf := (hall 0 (by omega)).1.2.2
                have hfe : f + nI (4 * c) = nI (ixv f + 4 * c) := by
                  conv => lhs; rw [hf.1]
                  rw [nI_add]
                rw [hfe]
                constructor
                · rintro ⟨y, y1, y2⟩
                  rw [nI_eq (by omega) (by omega)] at y2
                  exact ⟨hf.1, by omega⟩
                · rintro ⟨h1, h2⟩
                  exact ⟨ixv f + 4 * c, by omega, rfl⟩
            have ss : sh_at (la_put h' 0 X) q (t q) (l q) (z q) := ⟨by rw [la_put_ne (by omega)]; exact s0, by rw [la_put_ne (by omega)]; exact s1, by rw [la_put_ne (by omega)]; exact s2⟩
            refine hK [(54, [0, 2, 3, 4, 5, 6, 7, 8])] 80 _ _ ?_
            conv => whnf
            repeat' (first
              | (refine ⟨fun c9 => ?_, fun c9 => ?_⟩ <;> (try simp (disch := omega) only [nI_leI, nI_ltI, nI_eq, nz_eq, nz_lt, nz_gt, nz_le, nz_ge, nz_00, nz_n1, nI_add, pk_mul, pk_sub, nI_shl1, nI_or, nI_half2, nI_min2, la_put_eq, la_up, lr_same, lr_ne, lu_same, lu_ne, not_true_eq_false, not_false_eq_true] at c9) <;> first | (exfalso; omega) | conv => whnf)
              | (refine ⟨_, rfl, by omega, ?_⟩; conv => whnf)
              | (refine ⟨_, rfl, rfl, rfl, by decide, by decide, ?_⟩; conv => whnf)
              | (refine ⟨_, by (simp (disch := omega) only [nI_leI, nI_ltI, nI_eq, nz_eq, nz_lt, nz_gt, nz_le, nz_ge, nz_00, nz_n1, nI_add, pk_mul, pk_sub, nI_shl1, nI_or, nI_half2, nI_min2, la_put_eq, la_up, lr_same, lr_ne, lu_same, lu_ne, not_true_eq_false, not_false_eq_true]; rfl), by omega, ?_⟩; conv => whnf)
              | (apply And.intro; (first | assumption | decide | (simp (disch := omega) only [nI_leI, nI_ltI, nI_eq, nz_eq, nz_lt, nz_gt, nz_le, nz_ge, nz_00, nz_n1, nI_add, pk_mul, pk_sub, nI_shl1, nI_or, nI_half2, nI_min2, la_put_eq, la_up, lr_same, lr_ne, lu_same, lu_ne, not_true_eq_false, not_false_eq_true]; omega)); conv => whnf))
            all_goals (try simp (disch := omega) only [nI_leI, nI_ltI, nI_eq, nz_eq, nz_lt, nz_gt, nz_le, nz_ge, nz_00, nz_n1, nI_add, pk_mul, pk_sub, nI_shl1, nI_or, nI_half2, nI_min2, la_put_eq, la_up, lr_same, lr_ne, lu_same, lu_ne, not_true_eq_false, not_false_eq_true])
            refine ⟨(q, x, f + nI (4 * c), 4, t q, l q, z q, _), ⟨rfl, rfl, ss, b1, b2, b3, x2, by decide⟩, fun r h'' hq => ?_⟩
            obtain ⟨rfl, ⟨ht, rfl⟩ | ⟨ht, hl9, rfl⟩ | ⟨ht, hl9, hx, rfl⟩ | ⟨ht, hl9, hx, rfl⟩⟩ := hq
            · conv => whnf
              repeat' (first
                | (refine ⟨fun c9 => ?_, fun c9 => ?_⟩ <;> (try simp (disch := omega) only [nI_leI, nI_ltI, nI_eq, nz_eq, nz_lt, nz_gt, nz_le, nz_ge, nz_00, nz_n1, nI_add, pk_mul, pk_sub, nI_shl1, nI_or, nI_half2, nI_min2, la_put_eq, la_up, lr_same, lr_ne, lu_same, lu_ne, not_true_eq_false, not_false_eq_true] at c9) <;> first | (exfalso; omega) | conv => whnf)
                | (refine ⟨_, rfl, by omega, ?_⟩; conv => whnf)
                | (refine ⟨_, rfl, rfl, rfl, by decide, by decide, ?_⟩; conv => whnf)
                | (refine ⟨_, by (simp (disch := omega) only [nI_leI, nI_ltI, nI_eq, nz_eq, nz_lt, nz_gt, nz_le, nz_ge, nz_00, nz_n1, nI_add, pk_mul, pk_sub, nI_shl1, nI_or, nI_half2, nI_min2, la_put_eq, la_up, lr_same, lr_ne, lu_same, lu_ne, not_true_eq_false, not_false_eq_true]; rfl), by omega, ?_⟩; conv => whnf)
                | (apply And.intro; (first | assumption | decide | (simp (disch := omega) only [nI_leI, nI_ltI, nI_eq, nz_eq, nz_lt, nz_gt, nz_le, nz_ge, nz_00, nz_n1, nI_add, pk_mul, pk_sub, nI_shl1, nI_or, nI_half2, nI_min2, la_put_eq, la_up, lr_same, lr_ne, lu_same, lu_ne, not_true_eq_false, not_false_eq_true]; omega)); conv => whnf))
              all_goals (try simp (disch := omega) only [nI_leI, nI_ltI, nI_eq, nz_eq, nz_lt, nz_gt, nz_le, nz_ge, nz_00, nz_n1, nI_add, pk_mul, pk_sub, nI_shl1, nI_or, nI_half2, nI_min2, la_put_eq, la_up, lr_same, lr_ne, lu_same, lu_ne, not_true_eq_false, not_false_eq_true])
              refine stop c 1 _ X (by decide) wX ⟨by omega, hall, Or.inr (Or.inl ⟨by omega, fun q9 => q9.1 ht, rfl, ?_, hX⟩)⟩ (by decide) (by omega)
              rw [rd_flt, if_pos ht]
            · conv => whnf
              repeat' (first
                | (refine ⟨fun c9 => ?_, fun c9 => ?_⟩ <;> (try simp (disch := omega) only [nI_leI, nI_ltI, nI_eq, nz_eq, nz_lt, nz_gt, nz_le, nz_ge, nz_00, nz_n1, nI_add, pk_mul, pk_sub, nI_shl1, nI_or, nI_half2, nI_min2, la_put_eq, la_up, lr_same, lr_ne, lu_same, lu_ne, not_true_eq_false, not_false_eq_true] at c9) <;> first | (exfalso; omega) | conv => whnf)
                | (refine ⟨_, rfl, by omega, ?_⟩; conv => whnf)
                | (refine ⟨_, rfl, rfl, rfl, by decide, by decide, ?_⟩; conv => whnf)
                | (refine ⟨_, by (simp (disch := omega) only [nI_leI, nI_ltI, nI_eq, nz_eq, nz_lt, nz_gt, nz_le, nz_ge, nz_00, nz_n1, nI_add, pk_mul, pk_sub, nI_shl1, nI_or, nI_half2, nI_min2, la_put_eq, la_up, lr_same, lr_ne, lu_same, lu_ne, not_true_eq_false, not_false_eq_true]; rfl), by omega, ?_⟩; conv => whnf)
                | (apply And.intro; (first | assumption | decide | (simp (disch := omega) only [nI_leI, nI_ltI, nI_eq, nz_eq, nz_lt, nz_gt, nz_le, nz_ge, nz_00, nz_n1, nI_add, pk_mul, pk_sub, nI_shl1, nI_or, nI_half2, nI_min2, la_put_eq, la_up, lr_same, lr_ne, lu_same, lu_ne, not_true_eq_false, not_false_eq_true]; omega)); conv => whnf))
              all_goals (try simp (disch := omega) only [nI_leI, nI_ltI, nI_eq, nz_eq, nz_lt, nz_gt, nz_le, nz_ge, nz_00, nz_n1, nI_add, pk_mul, pk_sub, nI_shl1, nI_or, nI_half2, nI_min2, la_put_eq, la_up, lr_same, lr_ne, lu_same, lu_ne, not_true_eq_false, not_false_eq_true])
              refine stop c 3 _ X (by decide) wX ⟨by omega, hall, Or.inr (Or.inl ⟨by omega, fun q9 => hl9 q9.2.1, rfl, ?_, hX⟩)⟩ (by decide) (by omega)
              rw [rd_flt, if_neg ht, if_neg hl9]
            · conv => whnf
              repeat' (first
                | (refine ⟨fun c9 => ?_, fun c9 => ?_⟩ <;> (try simp (disch := omega) only [nI_leI, nI_ltI, nI_eq, nz_eq, nz_lt, nz_gt, nz_le, nz_ge, nz_00, nz_n1, nI_add, pk_mul, pk_sub, nI_shl1, nI_or, nI_half2, nI_min2, la_put_eq, la_up, lr_same, lr_ne, lu_same, lu_ne, not_true_eq_false, not_false_eq_true] at c9) <;> first | (exfalso; omega) | conv => whnf)
                | (refine ⟨_, rfl, by omega, ?_⟩; conv => whnf)
                | (refine ⟨_, rfl, rfl, rfl, by decide, by decide, ?_⟩; conv => whnf)
                | (refine ⟨_, by (simp (disch := omega) only [nI_leI, nI_ltI, nI_eq, nz_eq, nz_lt, nz_gt, nz_le, nz_ge, nz_00, nz_n1, nI_add, pk_mul, pk_sub, nI_shl1, nI_or, nI_half2, nI_min2, la_put_eq, la_up, lr_same, lr_ne, lu_same, lu_ne, not_true_eq_false, not_false_eq_true]; rfl), by omega, ?_⟩; conv => whnf)
                | (apply And.intro; (first | assumption | decide | (simp (disch := omega) only [nI_leI, nI_ltI, nI_eq, nz_eq, nz_lt, nz_gt, nz_le, nz_ge, nz_00, nz_n1, nI_add, pk_mul, pk_sub, nI_shl1, nI_or, nI_half2, nI_min2, la_put_eq, la_up, lr_same, lr_ne, lu_same, lu_ne, not_true_eq_false, not_false_eq_true]; omega)); conv => whnf))
              all_goals (try simp (disch := omega) only [nI_leI, nI_ltI, nI_eq, nz_eq, nz_lt, nz_gt, nz_le, nz_ge, nz_00, nz_n1, nI_add, pk_mul, pk_sub, nI_shl1, nI_or, nI_half2, nI_min2, la_put_eq, la_up, lr_same, lr_ne, lu_same, lu_ne, not_true_eq_false, not_false_eq_true])
              refine stop c 2 _ X (by decide) wX ⟨by omega, hall, Or.inr (Or.inl ⟨by omega, fun q9 => hx (hpos.mpr q9.2.2), rfl, ?_, hX⟩)⟩ (by decide) (by omega)
              rw [rd_flt, if_neg ht, if_pos hl9]
            · have hnf : rd_nf (t q) (l q) (z q) x f c := ⟨ht, hl9, hpos.mp hx⟩
              obtain ⟨hf1, hf2⟩ := hpos.mp hx
              have hfe : f + nI (4 * c) = nI (ixv f + 4 * c) := by
                conv => lhs; rw [hf1]
                rw [nI_add]
              generalize hy : ixv f + 4 * c = y at hfe hf2
              have hrd : ∀ (M : LD) (j : Nat), la_put h' 0 M 1 q 1 j = h' 1 q 1 j := fun M j => by rw [la_put_ne (by omega)]
              rw [hfe]
              conv => whnf
              repeat' (first
                | (refine ⟨fun c9 => ?_, fun c9 => ?_⟩ <;> (try simp (disch := omega) only [nI_leI, nI_ltI, nI_eq, nz_eq, nz_lt, nz_gt, nz_le, nz_ge, nz_00, nz_n1, nI_add, pk_mul, pk_sub, nI_shl1, nI_or, nI_half2, nI_min2, la_put_eq, la_up, lr_same, lr_ne, lu_same, lu_ne, not_true_eq_false, not_false_eq_true, hrd] at c9) <;> first | (exfalso; omega) | conv => whnf)
                | (refine ⟨_, rfl, by omega, ?_⟩; conv => whnf)
                | (refine ⟨_, rfl, rfl, rfl, by decide, by decide, ?_⟩; conv => whnf)
                | (refine ⟨_, by (simp (disch := omega) only [nI_leI, nI_ltI, nI_eq, nz_eq, nz_lt, nz_gt, nz_le, nz_ge, nz_00, nz_n1, nI_add, pk_mul, pk_sub, nI_shl1, nI_or, nI_half2, nI_min2, la_put_eq, la_up, lr_same, lr_ne, lu_same, lu_ne, not_true_eq_false, not_false_eq_true, hrd]; rfl), by omega, ?_⟩; conv => whnf)
                | (apply And.intro; (first | assumption | decide | (simp (disch := omega) only [nI_leI, nI_ltI, nI_eq, nz_eq, nz_lt, nz_gt, nz_le, nz_ge, nz_00, nz_n1, nI_add, pk_mul, pk_sub, nI_shl1, nI_or, nI_half2, nI_min2, la_put_eq, la_up, lr_same, lr_ne, lu_same, lu_ne, not_true_eq_false, not_false_eq_true, hrd]; omega)); conv => whnf))
              all_goals (try simp (disch := omega) only [nI_leI, nI_ltI, nI_eq, nz_eq, nz_lt, nz_gt, nz_le, nz_ge, nz_00, nz_n1, nI_add, pk_mul, pk_sub, nI_shl1, nI_or, nI_half2, nI_min2, la_put_eq, la_up, lr_same, lr_ne, lu_same, lu_ne, not_true_eq_false, not_false_eq_true, hrd])
              refine ⟨(h' 1 q 1 y, h' 1 q 1 (y + 1), h' 1 q 1 (y + 2), h' 1 q 1 (y + 3), X, _), ⟨rfl, rfl, la_put_at _ _ _, wX⟩, fun r h'' hq => ?_⟩
              obtain ⟨N'', hbk, rfl⟩ := hq
              have bad : ¬ rd_bk (h' 1 q 1) N f c → ∀ X', la_ok X' → X' = lu X 0 3 (N 0 3) → K none ([], [vI ((-20) - nI c)], la_put h' 0 X') := by
                intro hnb X' wX' hX'
                refine done c _ none X' ⟨by omega, hall, Or.inr (Or.inr ⟨by omega, hnf, hnb, rfl, rfl, ?_⟩)⟩ wX'
                rw [hX', hX]
              have wL : la_ok (lu X 0 3 (N 0 3)) := la_ok_lu wX (by unfold la_rel; omega) (by unfold la_bd; omega)
              have hrb : rd_bk (h' 1 q 1) N f c ↔ bkok X (h' 1 q 1 y) (h' 1 q 1 (y + 1)) (h' 1 q 1 (y + 2)) (h' 1 q 1 (y + 3)) := by
                rw [rd_bk, ← hX, hy]
              rcases hbk with ⟨a, b, cc, d, ha, hb, hc9, hd, e1, e2, e3, e4, hor⟩ | ⟨hno, rfl, rfl⟩
              · rcases hor with ⟨hlt, rfl, rfl⟩ | ⟨hge, rfl, rfl⟩
                · conv => whnf
                  repeat' (first
                    | (refine ⟨fun c9 => ?_, fun c9 => ?_⟩ <;> (try simp (disch := omega) only [nI_leI, nI_ltI, nI_eq, nz_eq, nz_lt, nz_gt, nz_le, nz_ge, nz_00, nz_n1, nI_add, pk_mul, pk_sub, nI_shl1, nI_or, nI_half2, nI_min2, la_put_eq, la_up, lr_same, lr_ne, lu_same, lu_ne, not_true_eq_false, not_false_eq_true, la_put2] at c9) <;> first | (exfalso; omega) | conv => whnf)
                    | (refine ⟨_, rfl, by omega, ?_⟩; conv => whnf)
                    | (refine ⟨_, rfl, rfl, rfl, by decide, by decide, ?_⟩; conv => whnf)
                    | (refine ⟨_, by (simp (disch := omega) only [nI_leI, nI_ltI, nI_eq, nz_eq, nz_lt, nz_gt, nz_le, nz_ge, nz_00, nz_n1, nI_add, pk_mul, pk_sub, nI_shl1, nI_or, nI_half2, nI_min2, la_put_eq, la_up, lr_same, lr_ne, lu_same, lu_ne, not_true_eq_false, not_false_eq_true, la_put2]; rfl), by omega, ?_⟩; conv => whnf)
                    | (apply And.intro; (first | assumption | decide | (simp (disch := omega) only [nI_leI, nI_ltI, nI_eq, nz_eq, nz_lt, nz_gt, nz_le, nz_ge, nz_00, nz_n1, nI_add, pk_mul, pk_sub, nI_shl1, nI_or, nI_half2, nI_min2, la_put_eq, la_up, lr_same, lr_ne, lu_same, lu_ne, not_true_eq_false, not_false_eq_true, la_put2]; omega)); conv => whnf))
                  all_goals (try simp (disch := omega) only [nI_leI, nI_ltI, nI_eq, nz_eq, nz_lt, nz_gt, nz_le, nz_ge, nz_00, nz_n1, nI_add, pk_mul, pk_sub, nI_shl1, nI_or, nI_half2, nI_min2, la_put_eq, la_up, lr_same, lr_ne, lu_same, lu_ne, not_true_eq_false, not_false_eq_true, la_put2])
                  refine ih (c + 1) _ (by omega) (fun i hi => ?_) ?_ (la_ok_addB wX ha hb hc9 (by omega) hlt)
                  · rcases Nat.lt_or_ge i c with q9 | q9
                    · exact hall i q9
                    · have : i = c := by omega
                      subst this
                      exact ⟨hnf, hrb.mpr ⟨⟨a, by omega, ha, e1⟩, ⟨b, by omega, hb, e2⟩, ⟨cc, by omega, hc9, e3⟩, ⟨d, hd, e4⟩, hlt⟩⟩
                  · rw [sp_rd, ← hX, hy, e1, e2, e3, e4, ixv_nI (by omega), ixv_nI (by omega), ixv_nI (by omega), ixv_nI (by omega)]
                · have n3 : ¬ (0 : Int32) ≤ -3 := by decide +kernel
                  refine And.intro (fun q9 => absurd q9 n3) (fun _ => ?_)
                  conv => whnf
                  repeat' (first
                    | (refine ⟨fun c9 => ?_, fun c9 => ?_⟩ <;> (try simp (disch := omega) only [nI_leI, nI_ltI, nI_eq, nz_eq, nz_lt, nz_gt, nz_le, nz_ge, nz_00, nz_n1, nI_add, pk_mul, pk_sub, nI_shl1, nI_or, nI_half2, nI_min2, la_put_eq, la_up, lr_same, lr_ne, lu_same, lu_ne, not_true_eq_false, not_false_eq_true, la_put2] at c9) <;> first | (exfalso; omega) | conv => whnf)
                    | (refine ⟨_, rfl, by omega, ?_⟩; conv => whnf)
                    | (refine ⟨_, rfl, rfl, rfl, by decide, by decide, ?_⟩; conv => whnf)
                    | (refine ⟨_, by (simp (disch := omega) only [nI_leI, nI_ltI, nI_eq, nz_eq, nz_lt, nz_gt, nz_le, nz_ge, nz_00, nz_n1, nI_add, pk_mul, pk_sub, nI_shl1, nI_or, nI_half2, nI_min2, la_put_eq, la_up, lr_same, lr_ne, lu_same, lu_ne, not_true_eq_false, not_false_eq_true, la_put2]; rfl), by omega, ?_⟩; conv => whnf)
                    | (apply And.intro; (first | assumption | decide | (simp (disch := omega) only [nI_leI, nI_ltI, nI_eq, nz_eq, nz_lt, nz_gt, nz_le, nz_ge, nz_00, nz_n1, nI_add, pk_mul, pk_sub, nI_shl1, nI_or, nI_half2, nI_min2, la_put_eq, la_up, lr_same, lr_ne, lu_same, lu_ne, not_true_eq_false, not_false_eq_true, la_put2]; omega)); conv => whnf))
                  all_goals (try simp (disch := omega) only [nI_leI, nI_ltI, nI_eq, nz_eq, nz_lt, nz_gt, nz_le, nz_ge, nz_00, nz_n1, nI_add, pk_mul, pk_sub, nI_shl1, nI_or, nI_half2, nI_min2, la_put_eq, la_up, lr_same, lr_ne, lu_same, lu_ne, not_true_eq_false, not_false_eq_true, la_put2])
                  exact bad (fun q9 => by have := (hrb.mp q9).2.2.2.2; omega) _ wL rfl
              · have n1 : ¬ (0 : Int32) ≤ -1 := by decide +kernel
                refine And.intro (fun q9 => absurd q9 n1) (fun _ => ?_)
                conv => whnf
                repeat' (first
                  | (refine ⟨fun c9 => ?_, fun c9 => ?_⟩ <;> (try simp (disch := omega) only [nI_leI, nI_ltI, nI_eq, nz_eq, nz_lt, nz_gt, nz_le, nz_ge, nz_00, nz_n1, nI_add, pk_mul, pk_sub, nI_shl1, nI_or, nI_half2, nI_min2, la_put_eq, la_up, lr_same, lr_ne, lu_same, lu_ne, not_true_eq_false, not_false_eq_true, la_put2] at c9) <;> first | (exfalso; omega) | conv => whnf)
                  | (refine ⟨_, rfl, by omega, ?_⟩; conv => whnf)
                  | (refine ⟨_, rfl, rfl, rfl, by decide, by decide, ?_⟩; conv => whnf)
                  | (refine ⟨_, by (simp (disch := omega) only [nI_leI, nI_ltI, nI_eq, nz_eq, nz_lt, nz_gt, nz_le, nz_ge, nz_00, nz_n1, nI_add, pk_mul, pk_sub, nI_shl1, nI_or, nI_half2, nI_min2, la_put_eq, la_up, lr_same, lr_ne, lu_same, lu_ne, not_true_eq_false, not_false_eq_true, la_put2]; rfl), by omega, ?_⟩; conv => whnf)
                  | (apply And.intro; (first | assumption | decide | (simp (disch := omega) only [nI_leI, nI_ltI, nI_eq, nz_eq, nz_lt, nz_gt, nz_le, nz_ge, nz_00, nz_n1, nI_add, pk_mul, pk_sub, nI_shl1, nI_or, nI_half2, nI_min2, la_put_eq, la_up, lr_same, lr_ne, lu_same, lu_ne, not_true_eq_false, not_false_eq_true, la_put2]; omega)); conv => whnf))
                all_goals (try simp (disch := omega) only [nI_leI, nI_ltI, nI_eq, nz_eq, nz_lt, nz_gt, nz_le, nz_ge, nz_00, nz_n1, nI_add, pk_mul, pk_sub, nI_shl1, nI_or, nI_half2, nI_min2, la_put_eq, la_up, lr_same, lr_ne, lu_same, lu_ne, not_true_eq_false, not_false_eq_true, la_put2])
                refine bad (fun q9 => hno ?_) _ wL rfl
                have := hrb.mp q9
                exact ⟨this.1, this.2.1, this.2.2.1, this.2.2.2.1⟩
        conv => whnf
        repeat' (first
          | (refine ⟨fun c9 => ?_, fun c9 => ?_⟩ <;> (try simp (disch := omega) only [nI_leI, nI_ltI, nI_eq, nz_eq, nz_lt, nz_gt, nz_le, nz_ge, nz_00, nz_n1, nI_add, pk_mul, pk_sub, nI_shl1, nI_or, nI_half2, nI_min2, la_put_eq, la_up, lr_same, lr_ne, lu_same, lu_ne, not_true_eq_false, not_false_eq_true, hN] at c9) <;> first | (exfalso; omega) | conv => whnf)
          | (refine ⟨_, rfl, by omega, ?_⟩; conv => whnf)
          | (refine ⟨_, rfl, rfl, rfl, by decide, by decide, ?_⟩; conv => whnf)
          | (refine ⟨_, by (simp (disch := omega) only [nI_leI, nI_ltI, nI_eq, nz_eq, nz_lt, nz_gt, nz_le, nz_ge, nz_00, nz_n1, nI_add, pk_mul, pk_sub, nI_shl1, nI_or, nI_half2, nI_min2, la_put_eq, la_up, lr_same, lr_ne, lu_same, lu_ne, not_true_eq_false, not_false_eq_true, hN]; rfl), by omega, ?_⟩; conv => whnf)
          | (apply And.intro; (first | assumption | decide | (simp (disch := omega) only [nI_leI, nI_ltI, nI_eq, nz_eq, nz_lt, nz_gt, nz_le, nz_ge, nz_00, nz_n1, nI_add, pk_mul, pk_sub, nI_shl1, nI_or, nI_half2, nI_min2, la_put_eq, la_up, lr_same, lr_ne, lu_same, lu_ne, not_true_eq_false, not_false_eq_true, hN]; omega)); conv => whnf))
        all_goals (try simp (disch := omega) only [nI_leI, nI_ltI, nI_eq, nz_eq, nz_lt, nz_gt, nz_le, nz_ge, nz_00, nz_n1, nI_add, pk_mul, pk_sub, nI_shl1, nI_or, nI_half2, nI_min2, la_put_eq, la_up, lr_same, lr_ne, lu_same, lu_ne, not_true_eq_false, not_false_eq_true, hN])
        have := loop m 0 N (by omega) (fun i hi => by omega) rfl wN
        rw [la_self hN] at this
        exact this
      · conv => whnf
        repeat' (first
          | (refine ⟨fun c9 => ?_, fun c9 => ?_⟩ <;> (try simp (disch := omega) only [nI_leI, nI_ltI, nI_eq, nz_eq, nz_lt, nz_gt, nz_le, nz_ge, nz_00, nz_n1, nI_add, pk_mul, pk_sub, nI_shl1, nI_or, nI_half2, nI_min2, la_put_eq, la_up, lr_same, lr_ne, lu_same, lu_ne, not_true_eq_false, not_false_eq_true] at c9) <;> first | (exfalso; omega) | conv => whnf)
          | (refine ⟨_, rfl, by omega, ?_⟩; conv => whnf)
          | (refine ⟨_, rfl, rfl, rfl, by decide, by decide, ?_⟩; conv => whnf)
          | (refine ⟨_, by (simp (disch := omega) only [nI_leI, nI_ltI, nI_eq, nz_eq, nz_lt, nz_gt, nz_le, nz_ge, nz_00, nz_n1, nI_add, pk_mul, pk_sub, nI_shl1, nI_or, nI_half2, nI_min2, la_put_eq, la_up, lr_same, lr_ne, lu_same, lu_ne, not_true_eq_false, not_false_eq_true]; rfl), by omega, ?_⟩; conv => whnf)
          | (apply And.intro; (first | assumption | decide | (simp (disch := omega) only [nI_leI, nI_ltI, nI_eq, nz_eq, nz_lt, nz_gt, nz_le, nz_ge, nz_00, nz_n1, nI_add, pk_mul, pk_sub, nI_shl1, nI_or, nI_half2, nI_min2, la_put_eq, la_up, lr_same, lr_ne, lu_same, lu_ne, not_true_eq_false, not_false_eq_true]; omega)); conv => whnf))
        all_goals (try simp (disch := omega) only [nI_leI, nI_ltI, nI_eq, nz_eq, nz_lt, nz_gt, nz_le, nz_ge, nz_00, nz_n1, nI_add, pk_mul, pk_sub, nI_shl1, nI_or, nI_half2, nI_min2, la_put_eq, la_up, lr_same, lr_ne, lu_same, lu_ne, not_true_eq_false, not_false_eq_true])
        refine hret _ _ ?_
        exact Or.inr ⟨fun q9 => hc q9.2.2, rfl, rfl⟩
    · conv => whnf
      repeat' (first
        | (refine ⟨fun c9 => ?_, fun c9 => ?_⟩ <;> (try simp (disch := omega) only [nI_leI, nI_ltI, nI_eq, nz_eq, nz_lt, nz_gt, nz_le, nz_ge, nz_00, nz_n1, nI_add, pk_mul, pk_sub, nI_shl1, nI_or, nI_half2, nI_min2, la_put_eq, la_up, lr_same, lr_ne, lu_same, lu_ne, not_true_eq_false, not_false_eq_true] at c9) <;> first | (exfalso; omega) | conv => whnf)
        | (refine ⟨_, rfl, by omega, ?_⟩; conv => whnf)
        | (refine ⟨_, rfl, rfl, rfl, by decide, by decide, ?_⟩; conv => whnf)
        | (refine ⟨_, by (simp (disch := omega) only [nI_leI, nI_ltI, nI_eq, nz_eq, nz_lt, nz_gt, nz_le, nz_ge, nz_00, nz_n1, nI_add, pk_mul, pk_sub, nI_shl1, nI_or, nI_half2, nI_min2, la_put_eq, la_up, lr_same, lr_ne, lu_same, lu_ne, not_true_eq_false, not_false_eq_true]; rfl), by omega, ?_⟩; conv => whnf)
        | (apply And.intro; (first | assumption | decide | (simp (disch := omega) only [nI_leI, nI_ltI, nI_eq, nz_eq, nz_lt, nz_gt, nz_le, nz_ge, nz_00, nz_n1, nI_add, pk_mul, pk_sub, nI_shl1, nI_or, nI_half2, nI_min2, la_put_eq, la_up, lr_same, lr_ne, lu_same, lu_ne, not_true_eq_false, not_false_eq_true]; omega)); conv => whnf))
      all_goals (try simp (disch := omega) only [nI_leI, nI_ltI, nI_eq, nz_eq, nz_lt, nz_gt, nz_le, nz_ge, nz_00, nz_n1, nI_add, pk_mul, pk_sub, nI_shl1, nI_or, nI_half2, nI_min2, la_put_eq, la_up, lr_same, lr_ne, lu_same, lu_ne, not_true_eq_false, not_false_eq_true])
      refine hret _ _ ?_
      exact Or.inr ⟨fun q9 => hc q9.2.1, rfl, rfl⟩
  · conv => whnf
    repeat' (first
      | (refine ⟨fun c9 => ?_, fun c9 => ?_⟩ <;> (try simp (disch := omega) only [nI_leI, nI_ltI, nI_eq, nz_eq, nz_lt, nz_gt, nz_le, nz_ge, nz_00, nz_n1, nI_add, pk_mul, pk_sub, nI_shl1, nI_or, nI_half2, nI_min2, la_put_eq, la_up, lr_same, lr_ne, lu_same, lu_ne, not_true_eq_false, not_false_eq_true] at c9) <;> first | (exfalso; omega) | conv => whnf)
      | (refine ⟨_, rfl, by omega, ?_⟩; conv => whnf)
      | (refine ⟨_, rfl, rfl, rfl, by decide, by decide, ?_⟩; conv => whnf)
      | (refine ⟨_, by (simp (disch := omega) only [nI_leI, nI_ltI, nI_eq, nz_eq, nz_lt, nz_gt, nz_le, nz_ge, nz_00, nz_n1, nI_add, pk_mul, pk_sub, nI_shl1, nI_or, nI_half2, nI_min2, la_put_eq, la_up, lr_same, lr_ne, lu_same, lu_ne, not_true_eq_false, not_false_eq_true]; rfl), by omega, ?_⟩; conv => whnf)
      | (apply And.intro; (first | assumption | decide | (simp (disch := omega) only [nI_leI, nI_ltI, nI_eq, nz_eq, nz_lt, nz_gt, nz_le, nz_ge, nz_00, nz_n1, nI_add, pk_mul, pk_sub, nI_shl1, nI_or, nI_half2, nI_min2, la_put_eq, la_up, lr_same, lr_ne, lu_same, lu_ne, not_true_eq_false, not_false_eq_true]; omega)); conv => whnf))
    all_goals (try simp (disch := omega) only [nI_leI, nI_ltI, nI_eq, nz_eq, nz_lt, nz_gt, nz_le, nz_ge, nz_00, nz_n1, nI_add, pk_mul, pk_sub, nI_shl1, nI_or, nI_half2, nI_min2, la_put_eq, la_up, lr_same, lr_ne, lu_same, lu_ne, not_true_eq_false, not_false_eq_true])
    refine hret _ _ ?_
    exact Or.inr ⟨fun q9 => hc q9.1, rfl, rfl⟩
theorem M_X4_read : pm_MT yX4_read cX4_read 10 1 4 P_X4_read (pm_pi Q_X4_read) := pm_met k_X4_read (by decide) rfl (by
  rintro ⟨g0, g1, g2, g3, g4, g5, g6, g7, g8⟩ av h hp
  rw [hp.1]
  exact Nat.le_of_ble_eq_true rfl) pf_X4_read
theorem rc_X4_read : ∀ g av h, P_X4_read g av h → ∃ i t, av = .inr (.inr (4, i, 0)) :: t := by
  rintro ⟨g0, g1, g2, g3, g4, g5, g6, g7, g8⟩ av h hp
  exact ⟨_, _, hp.1⟩
