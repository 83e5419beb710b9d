/-! BiscuitLore: its public methods that look, and those that change a thing. -/
noncomputable def ci (p : Prop) (a b : Int32) : Int32 := @ite Int32 p (Classical.propDecidable p) a b
theorem ci_t {p : Prop} {a b : Int32} (h : p) : ci p a b = a := by unfold ci; rw [if_pos h]
theorem ci_f {p : Prop} {a b : Int32} (h : ¬ p) : ci p a b = b := by unfold ci; rw [if_neg h]
def ixv (x : Int32) : Nat := x.toNatClampNeg
theorem ixv_nI {k : Nat} (h : k < 2 ^ 31) : ixv (nI k) = k := nI_clamp h
/-- the larder in use: its bounds, its day, and every biscuit's fellow is there -/
def no_ok (N : LD) : Prop := la_ok N ∧ N 0 10 ≤ 999 ∧ ∀ b, b < N 0 3 → N 6 b < N 0 0
def a_rule (N : LD) (w : Int32) : Int32 := if w = nI 0 then nI (N 0 0) else if w = nI 1 then nI (N 0 3) else if w = nI 2 then nI (N 0 8) else if w = nI 3 then nI (N 0 9) else if w = nI 4 then nI (N 0 10) else if w = nI 5 then nI (sp_sum (N 5) (N 0 3)) else if w = nI 6 then nI (sp_allLore N) else -1
def P_X4_rule : Int32 × LD × pm_H → List pm_V → pm_H → Prop := fun g av h => match g with
  | (w, N, h0) => av = [vR 4 0 0, vI w] ∧ h = h0 ∧ la_at h0 0 N ∧ la_ok N
def Q_X4_rule : Int32 × LD × pm_H → Int32 → pm_H → Prop := fun g r h => match g with
  | (w, N, h0) => h = h0 ∧ r = a_rule N w
def T_X4_rule : List (Nat × pm_T) := [
  (0, i_il 1 1),
  (1, i_sw 0 [44, 52, 60, 68, 76, 84, 92] 100),
  (44, i_al 0 45),
  (45, i_gr 4 (fun _ => (0, 0, 0)) 48),
  (48, i_gi 0 0 51),
  (51, i_ir),
  (52, i_al 0 53),
  (53, i_gr 4 (fun _ => (0, 0, 0)) 56),
  (56, i_gi 0 3 59),
  (59, i_ir),
  (60, i_al 0 61),
  (61, i_gr 4 (fun _ => (0, 0, 0)) 64),
  (64, i_gi 0 8 67),
  (67, i_ir),
  (68, i_al 0 69),
  (69, i_gr 4 (fun _ => (0, 0, 0)) 72),
  (72, i_gi 0 9 75),
  (75, i_ir),
  (76, i_al 0 77),
  (77, i_gr 4 (fun _ => (0, 0, 0)) 80),
  (80, i_gi 0 10 83),
  (83, i_ir),
  (84, i_al 0 85),
  (85, i_gr 4 (fun _ => (0, 0, 0)) 88),
  (88, i_ci 1 P_X0_allCrumbs Q_X0_allCrumbs 91),
  (91, i_ir),
  (92, i_al 0 93),
  (93, i_gr 4 (fun _ => (0, 0, 0)) 96),
  (96, i_ci 1 P_X0_allLore Q_X0_allLore 99),
  (99, i_ir),
  (100, i_c (-1) 101),
  (101, i_ir)]
theorem k_X4_rule : ∀ q ∈ T_X4_rule, pm_sd RX4 cX4_rule 2 3 1 q.1 q.2 := by
  unfold T_X4_rule
  refine pm_cn (sd_iln (k := 1) (by decide +kernel) rfl rfl) ?_
  refine pm_cn (sd_sw (dflt := 99) (lo' := 0) (hi := 6) (offs := #[43, 51, 59, 67, 75, 83, 91]) (len := 43) (by decide +kernel) rfl rfl (by decide) (by decide) (by decide)) ?_
  refine pm_cn (sd_aln (k := 0) (by decide +kernel) rfl rfl) ?_
  refine pm_cn (sd_gr cl4_ in4_ (j := 1) (by decide) (fun _ => rfl) fl_X4_19 (by decide +kernel) rfl) ?_
  refine pm_cn (sd_gi cl0_ in0_ (by decide) (fun _ => rfl) fl_X4_89 (by decide +kernel) rfl) ?_
  refine pm_cn (sd_ir (by decide +kernel)) ?_
  refine pm_cn (sd_aln (k := 0) (by decide +kernel) rfl rfl) ?_
  refine pm_cn (sd_gr cl4_ in4_ (j := 1) (by decide) (fun _ => rfl) fl_X4_19 (by decide +kernel) rfl) ?_
  refine pm_cn (sd_gi cl0_ in0_ (by decide) (fun _ => rfl) fl_X4_92 (by decide +kernel) rfl) ?_
  refine pm_cn (sd_ir (by decide +kernel)) ?_
  refine pm_cn (sd_aln (k := 0) (by decide +kernel) rfl rfl) ?_
  refine pm_cn (sd_gr cl4_ in4_ (j := 1) (by decide) (fun _ => rfl) fl_X4_19 (by decide +kernel) rfl) ?_
  refine pm_cn (sd_gi cl0_ in0_ (by decide) (fun _ => rfl) fl_X4_95 (by decide +kernel) rfl) ?_
  refine pm_cn (sd_ir (by decide +kernel)) ?_
  refine pm_cn (sd_aln (k := 0) (by decide +kernel) rfl rfl) ?_
  refine pm_cn (sd_gr cl4_ in4_ (j := 1) (by decide) (fun _ => rfl) fl_X4_19 (by decide +kernel) rfl) ?_
  refine pm_cn (sd_gi cl0_ in0_ (by decide) (fun _ => rfl) fl_X4_98 (by decide +kernel) rfl) ?_
  refine pm_cn (sd_ir (by decide +kernel)) ?_
  refine pm_cn (sd_aln (k := 0) (by decide +kernel) rfl rfl) ?_
  refine pm_cn (sd_gr cl4_ in4_ (j := 1) (by decide) (fun _ => rfl) fl_X4_19 (by decide +kernel) rfl) ?_
  refine pm_cn (sd_gi cl0_ in0_ (by decide) (fun _ => rfl) fl_X4_101 (by decide +kernel) rfl) ?_
  refine pm_cn (sd_ir (by decide +kernel)) ?_
  refine pm_cn (sd_aln (k := 0) (by decide +kernel) rfl rfl) ?_
  refine pm_cn (sd_gr cl4_ in4_ (j := 1) (by decide) (fun _ => rfl) fl_X4_19 (by decide +kernel) rfl) ?_
  refine pm_cn (sd_civ M_X0_allCrumbs (by decide) cd_X0_allCrumbs rc_X0_allCrumbs cl0_ ml_X4_104 im_X0_allCrumbs se_X0_allCrumbs nt_X0 (by decide +kernel) (by omega) (by decide) (by decide +kernel) rfl) ?_
  refine pm_cn (sd_ir (by decide +kernel)) ?_
  refine pm_cn (sd_aln (k := 0) (by decide +kernel) rfl rfl) ?_
  refine pm_cn (sd_gr cl4_ in4_ (j := 1) (by decide) (fun _ => rfl) fl_X4_19 (by decide +kernel) rfl) ?_
  refine pm_cn (sd_civ M_X0_allLore (by decide) cd_X0_allLore rc_X0_allLore cl0_ ml_X4_108 im_X0_allLore se_X0_allLore nt_X0 (by decide +kernel) (by omega) (by decide) (by decide +kernel) rfl) ?_
  refine pm_cn (sd_ir (by decide +kernel)) ?_
  refine pm_cn (sd_iconst (z := -1) (by decide +kernel) (by decide +kernel) rfl) ?_
  refine pm_cn (sd_ir (by decide +kernel)) ?_
  exact fun _ h => absurd h List.not_mem_nil
set_option maxHeartbeats 4000000 in
set_option maxRecDepth 100000 in
theorem pf_X4_rule : pm_pf T_X4_rule P_X4_rule (pm_pi Q_X4_rule) := by
  rintro ⟨w, N, h0⟩ av h K hK ⟨rfl, rfl, hN, wN⟩ hret
  show K (some 0) ([(0, vR 4 0 0), (1, vI w)], [], h)
  refine hK [] 30 _ _ ?_
  conv => whnf
  repeat' (first
    | (refine ⟨fun c => ?_, fun c => ?_⟩ <;> (try simp (disch := omega) only [nI_leI, nI_ltI, nI_eq, nz_eq, nz_lt, nz_gt, nz_le, nz_ge, nz_00, nz_n1, nI_add, pk_mul, pk_sub, nI_shl1, nI_or, nI_half2, nI_min2, la_put_eq, la_up, lr_same, lr_ne, lu_same, lu_ne, not_true_eq_false, not_false_eq_true, hN] at c) <;> first | (exfalso; omega) | conv => whnf)
    | (refine ⟨_, rfl, by omega, ?_⟩; conv => whnf)
    | (refine ⟨_, rfl, rfl, rfl, by decide, by decide, ?_⟩; conv => whnf)
    | (refine ⟨_, by (simp (disch := omega) only [nI_leI, nI_ltI, nI_eq, nz_eq, nz_lt, nz_gt, nz_le, nz_ge, nz_00, nz_n1, nI_add, pk_mul, pk_sub, nI_shl1, nI_or, nI_half2, nI_min2, la_put_eq, la_up, lr_same, lr_ne, lu_same, lu_ne, not_true_eq_false, not_false_eq_true, hN]; rfl), by omega, ?_⟩; conv => whnf)
    | (refine And.intro (by first | assumption | decide) ?_; conv => whnf))
  all_goals (try simp (disch := omega) only [nI_leI, nI_ltI, nI_eq, nz_eq, nz_lt, nz_gt, nz_le, nz_ge, nz_00, nz_n1, nI_add, pk_mul, pk_sub, nI_shl1, nI_or, nI_half2, nI_min2, la_put_eq, la_up, lr_same, lr_ne, lu_same, lu_ne, not_true_eq_false, not_false_eq_true, hN])
  · refine hret _ _ ⟨rfl, ?_⟩; unfold a_rule; simp (disch := omega) [*, nI_eq]
  · refine hret _ _ ⟨rfl, ?_⟩; unfold a_rule; simp (disch := omega) [*, nI_eq]
  · refine hret _ _ ⟨rfl, ?_⟩; unfold a_rule; simp (disch := omega) [*, nI_eq]
  · refine hret _ _ ⟨rfl, ?_⟩; unfold a_rule; simp (disch := omega) [*, nI_eq]
  · refine hret _ _ ⟨rfl, ?_⟩; unfold a_rule; simp (disch := omega) [*, nI_eq]
  · refine ⟨(0, N, h), ⟨rfl, rfl, hN, wN⟩, fun v h' hq => ?_⟩
    obtain ⟨rfl, rfl⟩ := hq
    conv => whnf
    repeat' (first
      | (refine ⟨fun c => ?_, fun c => ?_⟩ <;> (try simp (disch := omega) only [nI_leI, nI_ltI, nI_eq, nz_eq, nz_lt, nz_gt, nz_le, nz_ge, nz_00, nz_n1, nI_add, pk_mul, pk_sub, nI_shl1, nI_or, nI_half2, nI_min2, la_put_eq, la_up, lr_same, lr_ne, lu_same, lu_ne, not_true_eq_false, not_false_eq_true] at c) <;> first | (exfalso; omega) | conv => whnf)
      | (refine ⟨_, rfl, by omega, ?_⟩; conv => whnf)
      | (refine ⟨_, rfl, rfl, rfl, by decide, by decide, ?_⟩; conv => whnf)
      | (refine ⟨_, by (simp (disch := omega) only [nI_leI, nI_ltI, nI_eq, nz_eq, nz_lt, nz_gt, nz_le, nz_ge, nz_00, nz_n1, nI_add, pk_mul, pk_sub, nI_shl1, nI_or, nI_half2, nI_min2, la_put_eq, la_up, lr_same, lr_ne, lu_same, lu_ne, not_true_eq_false, not_false_eq_true]; rfl), by omega, ?_⟩; conv => whnf)
      | (refine And.intro (by first | assumption | decide) ?_; conv => whnf))
    all_goals (try simp (disch := omega) only [nI_leI, nI_ltI, nI_eq, nz_eq, nz_lt, nz_gt, nz_le, nz_ge, nz_00, nz_n1, nI_add, pk_mul, pk_sub, nI_shl1, nI_or, nI_half2, nI_min2, la_put_eq, la_up, lr_same, lr_ne, lu_same, lu_ne, not_true_eq_false, not_false_eq_true])
    refine hret _ _ ⟨rfl, ?_⟩; unfold a_rule; simp (disch := omega) [*, nI_eq]
  · refine ⟨(0, N, h), ⟨rfl, rfl, hN, wN⟩, fun v h' hq => ?_⟩
    obtain ⟨rfl, rfl⟩ := hq
    conv => whnf
    repeat' (first
      | (refine ⟨fun c => ?_, fun c => ?_⟩ <;> (try simp (disch := omega) only [nI_leI, nI_ltI, nI_eq, nz_eq, nz_lt, nz_gt, nz_le, nz_ge, nz_00, nz_n1, nI_add, pk_mul, pk_sub, nI_shl1, nI_or, nI_half2, nI_min2, la_put_eq, la_up, lr_same, lr_ne, lu_same, lu_ne, not_true_eq_false, not_false_eq_true] at c) <;> first | (exfalso; omega) | conv => whnf)
      | (refine ⟨_, rfl, by omega, ?_⟩; conv => whnf)
      | (refine ⟨_, rfl, rfl, rfl, by decide, by decide, ?_⟩; conv => whnf)
      | (refine ⟨_, by (simp (disch := omega) only [nI_leI, nI_ltI, nI_eq, nz_eq, nz_lt, nz_gt, nz_le, nz_ge, nz_00, nz_n1, nI_add, pk_mul, pk_sub, nI_shl1, nI_or, nI_half2, nI_min2, la_put_eq, la_up, lr_same, lr_ne, lu_same, lu_ne, not_true_eq_false, not_false_eq_true]; rfl), by omega, ?_⟩; conv => whnf)
      | (refine And.intro (by first | assumption | decide) ?_; conv => whnf))
    all_goals (try simp (disch := omega) only [nI_leI, nI_ltI, nI_eq, nz_eq, nz_lt, nz_gt, nz_le, nz_ge, nz_00, nz_n1, nI_add, pk_mul, pk_sub, nI_shl1, nI_or, nI_half2, nI_min2, la_put_eq, la_up, lr_same, lr_ne, lu_same, lu_ne, not_true_eq_false, not_false_eq_true])
    refine hret _ _ ⟨rfl, ?_⟩; unfold a_rule; simp (disch := omega) [*, nI_eq]
  · refine hret _ _ ⟨rfl, ?_⟩; unfold a_rule; simp (disch := omega) [*, nI_eq]
theorem M_X4_rule : pm_MT yX4_rule cX4_rule 2 1 3 P_X4_rule (pm_pi Q_X4_rule) := pm_met k_X4_rule (by decide) rfl (by
  rintro ⟨g0, g1, g2⟩ av h hp
  rw [hp.1]
  exact Nat.le_of_ble_eq_true rfl) pf_X4_rule
theorem rc_X4_rule : ∀ g av h, P_X4_rule g av h → ∃ i t, av = .inr (.inr (4, i, 0)) :: t := by
  rintro ⟨g0, g1, g2⟩ av h hp
  exact ⟨_, _, hp.1⟩
noncomputable def a_fellow (N : LD) (f w : Int32) : Int32 := ci (ixI f (N 0 0)) (if w = nI 0 then nI (N 1 (ixv f)) else if w = nI 1 then nI (sp_lore N (ixv f)) else if w = nI 2 then nI (sp_crumbsOf N (ixv f)) else if w = nI 3 then nI (N 2 (ixv f)) else if w = nI 4 then nI (sp_owned N (ixv f)) else -1) (-1)
def P_X4_fellow : Int32 × Int32 × LD × pm_H → List pm_V → pm_H → Prop := fun g av h => match g with
  | (f, w, N, h0) => av = [vR 4 0 0, vI f, vI w] ∧ h = h0 ∧ la_at h0 0 N ∧ la_ok N
def Q_X4_fellow : Int32 × Int32 × LD × pm_H → Int32 → pm_H → Prop := fun g r h => match g with
  | (f, w, N, h0) => h = h0 ∧ r = a_fellow N f w
def T_X4_fellow : List (Nat × pm_T) := [
  (0, i_al 0 1),
  (1, i_gr 4 (fun _ => (0, 0, 0)) 4),
  (4, i_il 1 5),
  (5, i_ci 2 P_X0_hasFellow Q_X0_hasFellow 8),
  (8, i_ifne 13 11),
  (11, i_c (-1) 12),
  (12, i_ir),
  (13, i_il 2 14),
  (14, i_sw 0 [48, 58, 67, 76, 86] 95),
  (48, i_al 0 49),
  (49, i_gr 4 (fun _ => (0, 0, 0)) 52),
  (52, i_gr 0 (fun i => (0, i, 1)) 55),
  (55, i_il 1 56),
  (56, i_ia 57),
  (57, i_ir),
  (58, i_al 0 59),
  (59, i_gr 4 (fun _ => (0, 0, 0)) 62),
  (62, i_il 1 63),
  (63, i_ci 2 P_X0_loreOf Q_X0_loreOf 66),
  (66, i_ir),
  (67, i_al 0 68),
  (68, i_gr 4 (fun _ => (0, 0, 0)) 71),
  (71, i_il 1 72),
  (72, i_ci 2 P_X0_crumbsOf Q_X0_crumbsOf 75),
  (75, i_ir),
  (76, i_al 0 77),
  (77, i_gr 4 (fun _ => (0, 0, 0)) 80),
  (80, i_gr 0 (fun i => (0, i, 2)) 83),
  (83, i_il 1 84),
  (84, i_ia 85),
  (85, i_ir),
  (86, i_al 0 87),
  (87, i_gr 4 (fun _ => (0, 0, 0)) 90),
  (90, i_il 1 91),
  (91, i_ci 2 P_X0_ownedBy Q_X0_ownedBy 94),
  (94, i_ir),
  (95, i_c (-1) 96),
  (96, i_ir)]
theorem k_X4_fellow : ∀ q ∈ T_X4_fellow, pm_sd RX4 cX4_fellow 3 3 1 q.1 q.2 := by
  unfold T_X4_fellow
  refine pm_cn (sd_aln (k := 0) (by decide +kernel) rfl rfl) ?_
  refine pm_cn (sd_gr cl4_ in4_ (j := 1) (by decide) (fun _ => rfl) fl_X4_19 (by decide +kernel) rfl) ?_
  refine pm_cn (sd_iln (k := 1) (by decide +kernel) rfl rfl) ?_
  refine pm_cn (sd_civ M_X0_hasFellow (by decide) cd_X0_hasFellow rc_X0_hasFellow cl0_ ml_X4_111 im_X0_hasFellow se_X0_hasFellow nt_X0 (by decide +kernel) (by omega) (by decide) (by decide +kernel) rfl) ?_
  refine pm_cn (sd_ifne (off := 5) (by decide +kernel) (by decide) rfl) ?_
  refine pm_cn (sd_iconst (z := -1) (by decide +kernel) (by decide +kernel) rfl) ?_
  refine pm_cn (sd_ir (by decide +kernel)) ?_
  refine pm_cn (sd_iln (k := 2) (by decide +kernel) rfl rfl) ?_
  refine pm_cn (sd_sw (dflt := 81) (lo' := 0) (hi := 4) (offs := #[34, 44, 53, 62, 72]) (len := 34) (by decide +kernel) rfl rfl (by decide) (by decide) (by decide)) ?_
  refine pm_cn (sd_aln (k := 0) (by decide +kernel) rfl rfl) ?_
  refine pm_cn (sd_gr cl4_ in4_ (j := 1) (by decide) (fun _ => rfl) fl_X4_19 (by decide +kernel) rfl) ?_
  refine pm_cn (sd_gr cl0_ in0_ (j := 1) (by decide) (fun _ => rfl) fl_X4_115 (by decide +kernel) rfl) ?_
  refine pm_cn (sd_iln (k := 1) (by decide +kernel) rfl rfl) ?_
  refine pm_cn (sd_ia (by decide +kernel) rfl) ?_
  refine pm_cn (sd_ir (by decide +kernel)) ?_
  refine pm_cn (sd_aln (k := 0) (by decide +kernel) rfl rfl) ?_
  refine pm_cn (sd_gr cl4_ in4_ (j := 1) (by decide) (fun _ => rfl) fl_X4_19 (by decide +kernel) rfl) ?_
  refine pm_cn (sd_iln (k := 1) (by decide +kernel) rfl rfl) ?_
  refine pm_cn (sd_civ M_X0_loreOf (by decide) cd_X0_loreOf rc_X0_loreOf cl0_ ml_X4_118 im_X0_loreOf se_X0_loreOf nt_X0 (by decide +kernel) (by omega) (by decide) (by decide +kernel) rfl) ?_
  refine pm_cn (sd_ir (by decide +kernel)) ?_
  refine pm_cn (sd_aln (k := 0) (by decide +kernel) rfl rfl) ?_
  refine pm_cn (sd_gr cl4_ in4_ (j := 1) (by decide) (fun _ => rfl) fl_X4_19 (by decide +kernel) rfl) ?_
  refine pm_cn (sd_iln (k := 1) (by decide +kernel) rfl rfl) ?_
  refine pm_cn (sd_civ M_X0_crumbsOf (by decide) cd_X0_crumbsOf rc_X0_crumbsOf cl0_ ml_X4_122 im_X0_crumbsOf se_X0_crumbsOf nt_X0 (by decide +kernel) (by omega) (by decide) (by decide +kernel) rfl) ?_
  refine pm_cn (sd_ir (by decide +kernel)) ?_
  refine pm_cn (sd_aln (k := 0) (by decide +kernel) rfl rfl) ?_
  refine pm_cn (sd_gr cl4_ in4_ (j := 1) (by decide) (fun _ => rfl) fl_X4_19 (by decide +kernel) rfl) ?_
  refine pm_cn (sd_gr cl0_ in0_ (j := 2) (by decide) (fun _ => rfl) fl_X4_125 (by decide +kernel) rfl) ?_
  refine pm_cn (sd_iln (k := 1) (by decide +kernel) rfl rfl) ?_
  refine pm_cn (sd_ia (by decide +kernel) rfl) ?_
  refine pm_cn (sd_ir (by decide +kernel)) ?_
  refine pm_cn (sd_aln (k := 0) (by decide +kernel) rfl rfl) ?_
  refine pm_cn (sd_gr cl4_ in4_ (j := 1) (by decide) (fun _ => rfl) fl_X4_19 (by decide +kernel) rfl) ?_
  refine pm_cn (sd_iln (k := 1) (by decide +kernel) rfl rfl) ?_
  refine pm_cn (sd_civ M_X0_ownedBy (by decide) cd_X0_ownedBy rc_X0_ownedBy cl0_ ml_X4_128 im_X0_ownedBy se_X0_ownedBy nt_X0 (by decide +kernel) (by omega) (by decide) (by decide +kernel) rfl) ?_
  refine pm_cn (sd_ir (by decide +kernel)) ?_
  refine pm_cn (sd_iconst (z := -1) (by decide +kernel) (by decide +kernel) rfl) ?_
  refine pm_cn (sd_ir (by decide +kernel)) ?_
  exact fun _ h => absurd h List.not_mem_nil
set_option maxHeartbeats 4000000 in
set_option maxRecDepth 100000 in
theorem pf_X4_fellow : pm_pf T_X4_fellow P_X4_fellow (pm_pi Q_X4_fellow) := by
  rintro ⟨f, w, N, h0⟩ av h K hK ⟨rfl, rfl, hN, wN⟩ hret
  have w1 := wN.1
  show K (some 0) ([(0, vR 4 0 0), (1, vI f), (2, vI w)], [], h)
  refine hK [] 60 _ _ ?_
  conv => whnf
  repeat' (first
    | (refine ⟨fun c => ?_, fun c => ?_⟩ <;> (try simp (disch := omega) only [nI_leI, nI_ltI, nI_eq, nz_eq, nz_lt, nz_gt, nz_le, nz_ge, nz_00, nz_n1, nI_add, pk_mul, pk_sub, nI_shl1, nI_or, nI_half2, nI_min2, la_put_eq, la_up, lr_same, lr_ne, lu_same, lu_ne, not_true_eq_false, not_false_eq_true, hN] at c) <;> first | (exfalso; omega) | conv => whnf)
    | (refine ⟨_, rfl, by omega, ?_⟩; conv => whnf)
    | (refine ⟨_, rfl, rfl, rfl, by decide, by decide, ?_⟩; conv => whnf)
    | (refine ⟨_, by (simp (disch := omega) only [nI_leI, nI_ltI, nI_eq, nz_eq, nz_lt, nz_gt, nz_le, nz_ge, nz_00, nz_n1, nI_add, pk_mul, pk_sub, nI_shl1, nI_or, nI_half2, nI_min2, la_put_eq, la_up, lr_same, lr_ne, lu_same, lu_ne, not_true_eq_false, not_false_eq_true, hN]; rfl), by omega, ?_⟩; conv => whnf)
    | (refine And.intro (by first | assumption | decide) ?_; conv => whnf))
  all_goals (try simp (disch := omega) only [nI_leI, nI_ltI, nI_eq, nz_eq, nz_lt, nz_gt, nz_le, nz_ge, nz_00, nz_n1, nI_add, pk_mul, pk_sub, nI_shl1, nI_or, nI_half2, nI_min2, la_put_eq, la_up, lr_same, lr_ne, lu_same, lu_ne, not_true_eq_false, not_false_eq_true, hN])
  refine ⟨(0, f, N, h), ⟨rfl, rfl, hN, wN⟩, fun v h' hq => ?_⟩
  obtain ⟨rfl, ⟨hf, rfl⟩ | ⟨hf, rfl⟩⟩ := hq
  · obtain ⟨k, hk, rfl⟩ := hf
    have hix : ixI (nI k) (N 0 0) := ⟨k, hk, rfl⟩
    have hv : ixv (nI k) = k := ixv_nI (by omega)
    conv => whnf
    repeat' (first
      | (refine ⟨fun c => ?_, fun c => ?_⟩ <;> (try simp (disch := omega) only [nI_leI, nI_ltI, nI_eq, nz_eq, nz_lt, nz_gt, nz_le, nz_ge, nz_00, nz_n1, nI_add, pk_mul, pk_sub, nI_shl1, nI_or, nI_half2, nI_min2, la_put_eq, la_up, lr_same, lr_ne, lu_same, lu_ne, not_true_eq_false, not_false_eq_true, hN] at c) <;> first | (exfalso; omega) | conv => whnf)
      | (refine ⟨_, rfl, by omega, ?_⟩; conv => whnf)
      | (refine ⟨_, rfl, rfl, rfl, by decide, by decide, ?_⟩; conv => whnf)
      | (refine ⟨_, by (simp (disch := omega) only [nI_leI, nI_ltI, nI_eq, nz_eq, nz_lt, nz_gt, nz_le, nz_ge, nz_00, nz_n1, nI_add, pk_mul, pk_sub, nI_shl1, nI_or, nI_half2, nI_min2, la_put_eq, la_up, lr_same, lr_ne, lu_same, lu_ne, not_true_eq_false, not_false_eq_true, hN]; rfl), by omega, ?_⟩; conv => whnf)
      | (refine And.intro (by first | assumption | decide) ?_; conv => whnf))
    all_goals (try simp (disch := omega) only [nI_leI, nI_ltI, nI_eq, nz_eq, nz_lt, nz_gt, nz_le, nz_ge, nz_00, nz_n1, nI_add, pk_mul, pk_sub, nI_shl1, nI_or, nI_half2, nI_min2, la_put_eq, la_up, lr_same, lr_ne, lu_same, lu_ne, not_true_eq_false, not_false_eq_true, hN])
    · refine hret _ _ ⟨rfl, ?_⟩; rw [a_fellow, ci_t hix, hv]; simp (disch := omega) [*, nI_eq]
    · refine ⟨(0, k, N, _), ⟨rfl, rfl, hN, wN, by omega⟩, fun v h' hq => ?_⟩
      obtain ⟨rfl, rfl⟩ := hq
      conv => whnf
      repeat' (first
        | (refine ⟨fun c => ?_, fun c => ?_⟩ <;> (try simp (disch := omega) only [nI_leI, nI_ltI, nI_eq, nz_eq, nz_lt, nz_gt, nz_le, nz_ge, nz_00, nz_n1, nI_add, pk_mul, pk_sub, nI_shl1, nI_or, nI_half2, nI_min2, la_put_eq, la_up, lr_same, lr_ne, lu_same, lu_ne, not_true_eq_false, not_false_eq_true] at c) <;> first | (exfalso; omega) | conv => whnf)
        | (refine ⟨_, rfl, by omega, ?_⟩; conv => whnf)
        | (refine ⟨_, rfl, rfl, rfl, by decide, by decide, ?_⟩; conv => whnf)
        | (refine ⟨_, by (simp (disch := omega) only [nI_leI, nI_ltI, nI_eq, nz_eq, nz_lt, nz_gt, nz_le, nz_ge, nz_00, nz_n1, nI_add, pk_mul, pk_sub, nI_shl1, nI_or, nI_half2, nI_min2, la_put_eq, la_up, lr_same, lr_ne, lu_same, lu_ne, not_true_eq_false, not_false_eq_true]; rfl), by omega, ?_⟩; conv => whnf)
        | (refine And.intro (by first | assumption | decide) ?_; conv => whnf))
      all_goals (try simp (disch := omega) only [nI_leI, nI_ltI, nI_eq, nz_eq, nz_lt, nz_gt, nz_le, nz_ge, nz_00, nz_n1, nI_add, pk_mul, pk_sub, nI_shl1, nI_or, nI_half2, nI_min2, la_put_eq, la_up, lr_same, lr_ne, lu_same, lu_ne, not_true_eq_false, not_false_eq_true])
      refine hret _ _ ⟨rfl, ?_⟩; rw [a_fellow, ci_t hix, hv]; simp (disch := omega) [*, nI_eq]
    · refine ⟨(0, k, N, _), ⟨rfl, rfl, hN, wN, by omega⟩, fun v h' hq => ?_⟩
      obtain ⟨rfl, rfl⟩ := hq
      conv => whnf
      repeat' (first
        | (refine ⟨fun c => ?_, fun c => ?_⟩ <;> (try simp (disch := omega) only [nI_leI, nI_ltI, nI_eq, nz_eq, nz_lt, nz_gt, nz_le, nz_ge, nz_00, nz_n1, nI_add, pk_mul, pk_sub, nI_shl1, nI_or, nI_half2, nI_min2, la_put_eq, la_up, lr_same, lr_ne, lu_same, lu_ne, not_true_eq_false, not_false_eq_true] at c) <;> first | (exfalso; omega) | conv => whnf)
        | (refine ⟨_, rfl, by omega, ?_⟩; conv => whnf)
        | (refine ⟨_, rfl, rfl, rfl, by decide, by decide, ?_⟩; conv => whnf)
        | (refine ⟨_, by (simp (disch := omega) only [nI_leI, nI_ltI, nI_eq, nz_eq, nz_lt, nz_gt, nz_le, nz_ge, nz_00, nz_n1, nI_add, pk_mul, pk_sub, nI_shl1, nI_or, nI_half2, nI_min2, la_put_eq, la_up, lr_same, lr_ne, lu_same, lu_ne, not_true_eq_false, not_false_eq_true]; rfl), by omega, ?_⟩; conv => whnf)
        | (refine And.intro (by first | assumption | decide) ?_; conv => whnf))
      all_goals (try simp (disch := omega) only [nI_leI, nI_ltI, nI_eq, nz_eq, nz_lt, nz_gt, nz_le, nz_ge, nz_00, nz_n1, nI_add, pk_mul, pk_sub, nI_shl1, nI_or, nI_half2, nI_min2, la_put_eq, la_up, lr_same, lr_ne, lu_same, lu_ne, not_true_eq_false, not_false_eq_true])
      refine hret _ _ ⟨rfl, ?_⟩; rw [a_fellow, ci_t hix, hv]; simp (disch := omega) [*, nI_eq]
    · refine hret _ _ ⟨rfl, ?_⟩; rw [a_fellow, ci_t hix, hv]; simp (disch := omega) [*, nI_eq]
    · refine ⟨(0, k, N, _), ⟨rfl, rfl, hN, wN, by omega⟩, fun v h' hq => ?_⟩
      obtain ⟨rfl, rfl⟩ := hq
      conv => whnf
      repeat' (first
        | (refine ⟨fun c => ?_, fun c => ?_⟩ <;> (try simp (disch := omega) only [nI_leI, nI_ltI, nI_eq, nz_eq, nz_lt, nz_gt, nz_le, nz_ge, nz_00, nz_n1, nI_add, pk_mul, pk_sub, nI_shl1, nI_or, nI_half2, nI_min2, la_put_eq, la_up, lr_same, lr_ne, lu_same, lu_ne, not_true_eq_false, not_false_eq_true] at c) <;> first | (exfalso; omega) | conv => whnf)
        | (refine ⟨_, rfl, by omega, ?_⟩; conv => whnf)
        | (refine ⟨_, rfl, rfl, rfl, by decide, by decide, ?_⟩; conv => whnf)
        | (refine ⟨_, by (simp (disch := omega) only [nI_leI, nI_ltI, nI_eq, nz_eq, nz_lt, nz_gt, nz_le, nz_ge, nz_00, nz_n1, nI_add, pk_mul, pk_sub, nI_shl1, nI_or, nI_half2, nI_min2, la_put_eq, la_up, lr_same, lr_ne, lu_same, lu_ne, not_true_eq_false, not_false_eq_true]; rfl), by omega, ?_⟩; conv => whnf)
        | (refine And.intro (by first | assumption | decide) ?_; conv => whnf))
      all_goals (try simp (disch := omega) only [nI_leI, nI_ltI, nI_eq, nz_eq, nz_lt, nz_gt, nz_le, nz_ge, nz_00, nz_n1, nI_add, pk_mul, pk_sub, nI_shl1, nI_or, nI_half2, nI_min2, la_put_eq, la_up, lr_same, lr_ne, lu_same, lu_ne, not_true_eq_false, not_false_eq_true])
      refine hret _ _ ⟨rfl, ?_⟩; rw [a_fellow, ci_t hix, hv]; simp (disch := omega) [*, nI_eq]
    · refine hret _ _ ⟨rfl, ?_⟩; rw [a_fellow, ci_t hix, hv]; simp (disch := omega) [*, nI_eq]
  · conv => whnf
    repeat' (first
      | (refine ⟨fun c => ?_, fun c => ?_⟩ <;> (try simp (disch := omega) only [nI_leI, nI_ltI, nI_eq, nz_eq, nz_lt, nz_gt, nz_le, nz_ge, nz_00, nz_n1, nI_add, pk_mul, pk_sub, nI_shl1, nI_or, nI_half2, nI_min2, la_put_eq, la_up, lr_same, lr_ne, lu_same, lu_ne, not_true_eq_false, not_false_eq_true, hN] at c) <;> first | (exfalso; omega) | conv => whnf)
      | (refine ⟨_, rfl, by omega, ?_⟩; conv => whnf)
      | (refine ⟨_, rfl, rfl, rfl, by decide, by decide, ?_⟩; conv => whnf)
      | (refine ⟨_, by (simp (disch := omega) only [nI_leI, nI_ltI, nI_eq, nz_eq, nz_lt, nz_gt, nz_le, nz_ge, nz_00, nz_n1, nI_add, pk_mul, pk_sub, nI_shl1, nI_or, nI_half2, nI_min2, la_put_eq, la_up, lr_same, lr_ne, lu_same, lu_ne, not_true_eq_false, not_false_eq_true, hN]; rfl), by omega, ?_⟩; conv => whnf)
      | (refine And.intro (by first | assumption | decide) ?_; conv => whnf))
    all_goals (try simp (disch := omega) only [nI_leI, nI_ltI, nI_eq, nz_eq, nz_lt, nz_gt, nz_le, nz_ge, nz_00, nz_n1, nI_add, pk_mul, pk_sub, nI_shl1, nI_or, nI_half2, nI_min2, la_put_eq, la_up, lr_same, lr_ne, lu_same, lu_ne, not_true_eq_false, not_false_eq_true, hN])
    refine hret _ _ ⟨rfl, ?_⟩
    rw [a_fellow, ci_f hf]
theorem M_X4_fellow : pm_MT yX4_fellow cX4_fellow 3 1 3 P_X4_fellow (pm_pi Q_X4_fellow) := pm_met k_X4_fellow (by decide) rfl (by
  rintro ⟨g0, g1, g2, g3⟩ av h hp
  rw [hp.1]
  exact Nat.le_of_ble_eq_true rfl) pf_X4_fellow
theorem rc_X4_fellow : ∀ g av h, P_X4_fellow g av h → ∃ i t, av = .inr (.inr (4, i, 0)) :: t := by
  rintro ⟨g0, g1, g2, g3⟩ av h hp
  exact ⟨_, _, hp.1⟩
noncomputable def a_biscuit (N : LD) (b w : Int32) : Int32 := ci (ixI b (N 0 3)) (if w = nI 0 then nI (N 3 (ixv b)) else if w = nI 1 then nI (N 4 (ixv b)) else if w = nI 2 then nI (N 5 (ixv b)) else if w = nI 3 then nI (N 6 (ixv b)) else if w = nI 4 then nI (sp_spoil N (ixv b)) else -1) (-1)
def P_X4_biscuit : Int32 × Int32 × LD × pm_H → List pm_V → pm_H → Prop := fun g av h => match g with
  | (b, w, N, h0) => av = [vR 4 0 0, vI b, vI w] ∧ h = h0 ∧ la_at h0 0 N ∧ la_ok N
def Q_X4_biscuit : Int32 × Int32 × LD × pm_H → Int32 → pm_H → Prop := fun g r h => match g with
  | (b, w, N, h0) => h = h0 ∧ r = a_biscuit N b w
def T_X4_biscuit : List (Nat × pm_T) := [
  (0, i_al 0 1),
  (1, i_gr 4 (fun _ => (0, 0, 0)) 4),
  (4, i_il 1 5),
  (5, i_ci 2 P_X0_hasBiscuit Q_X0_hasBiscuit 8),
  (8, i_ifne 13 11),
  (11, i_c (-1) 12),
  (12, i_ir),
  (13, i_il 2 14),
  (14, i_sw 0 [48, 58, 68, 78, 88] 97),
  (48, i_al 0 49),
  (49, i_gr 4 (fun _ => (0, 0, 0)) 52),
  (52, i_gr 0 (fun i => (0, i, 3)) 55),
  (55, i_il 1 56),
  (56, i_ia 57),
  (57, i_ir),
  (58, i_al 0 59),
  (59, i_gr 4 (fun _ => (0, 0, 0)) 62),
  (62, i_gr 0 (fun i => (0, i, 4)) 65),
  (65, i_il 1 66),
  (66, i_ia 67),
  (67, i_ir),
  (68, i_al 0 69),
  (69, i_gr 4 (fun _ => (0, 0, 0)) 72),
  (72, i_gr 0 (fun i => (0, i, 5)) 75),
  (75, i_il 1 76),
  (76, i_ia 77),
  (77, i_ir),
  (78, i_al 0 79),
  (79, i_gr 4 (fun _ => (0, 0, 0)) 82),
  (82, i_gr 0 (fun i => (0, i, 6)) 85),
  (85, i_il 1 86),
  (86, i_ia 87),
  (87, i_ir),
  (88, i_al 0 89),
  (89, i_gr 4 (fun _ => (0, 0, 0)) 92),
  (92, i_il 1 93),
  (93, i_ci 2 P_X0_spoilOf Q_X0_spoilOf 96),
  (96, i_ir),
  (97, i_c (-1) 98),
  (98, i_ir)]
theorem k_X4_biscuit : ∀ q ∈ T_X4_biscuit, pm_sd RX4 cX4_biscuit 3 3 1 q.1 q.2 := by
  unfold T_X4_biscuit
  refine pm_cn (sd_aln (k := 0) (by decide +kernel) rfl rfl) ?_
  refine pm_cn (sd_gr cl4_ in4_ (j := 1) (by decide) (fun _ => rfl) fl_X4_19 (by decide +kernel) rfl) ?_
  refine pm_cn (sd_iln (k := 1) (by decide +kernel) rfl rfl) ?_
  refine pm_cn (sd_civ M_X0_hasBiscuit (by decide) cd_X0_hasBiscuit rc_X0_hasBiscuit cl0_ ml_X4_131 im_X0_hasBiscuit se_X0_hasBiscuit nt_X0 (by decide +kernel) (by omega) (by decide) (by decide +kernel) rfl) ?_
  refine pm_cn (sd_ifne (off := 5) (by decide +kernel) (by decide) rfl) ?_
  refine pm_cn (sd_iconst (z := -1) (by decide +kernel) (by decide +kernel) rfl) ?_
  refine pm_cn (sd_ir (by decide +kernel)) ?_
  refine pm_cn (sd_iln (k := 2) (by decide +kernel) rfl rfl) ?_
  refine pm_cn (sd_sw (dflt := 83) (lo' := 0) (hi := 4) (offs := #[34, 44, 54, 64, 74]) (len := 34) (by decide +kernel) rfl rfl (by decide) (by decide) (by decide)) ?_
  refine pm_cn (sd_aln (k := 0) (by decide +kernel) rfl rfl) ?_
  refine pm_cn (sd_gr cl4_ in4_ (j := 1) (by decide) (fun _ => rfl) fl_X4_19 (by decide +kernel) rfl) ?_
  refine pm_cn (sd_gr cl0_ in0_ (j := 4) (by decide) (fun _ => rfl) fl_X4_134 (by decide +kernel) rfl) ?_
  refine pm_cn (sd_iln (k := 1) (by decide +kernel) rfl rfl) ?_
  refine pm_cn (sd_ia (by decide +kernel) rfl) ?_
  refine pm_cn (sd_ir (by decide +kernel)) ?_
  refine pm_cn (sd_aln (k := 0) (by decide +kernel) rfl rfl) ?_
  refine pm_cn (sd_gr cl4_ in4_ (j := 1) (by decide) (fun _ => rfl) fl_X4_19 (by decide +kernel) rfl) ?_
  refine pm_cn (sd_gr cl0_ in0_ (j := 5) (by decide) (fun _ => rfl) fl_X4_137 (by decide +kernel) rfl) ?_
  refine pm_cn (sd_iln (k := 1) (by decide +kernel) rfl rfl) ?_
  refine pm_cn (sd_ia (by decide +kernel) rfl) ?_
  refine pm_cn (sd_ir (by decide +kernel)) ?_
  refine pm_cn (sd_aln (k := 0) (by decide +kernel) rfl rfl) ?_
  refine pm_cn (sd_gr cl4_ in4_ (j := 1) (by decide) (fun _ => rfl) fl_X4_19 (by decide +kernel) rfl) ?_
  refine pm_cn (sd_gr cl0_ in0_ (j := 6) (by decide) (fun _ => rfl) fl_X4_140 (by decide +kernel) rfl) ?_
  refine pm_cn (sd_iln (k := 1) (by decide +kernel) rfl rfl) ?_
  refine pm_cn (sd_ia (by decide +kernel) rfl) ?_
  refine pm_cn (sd_ir (by decide +kernel)) ?_
  refine pm_cn (sd_aln (k := 0) (by decide +kernel) rfl rfl) ?_
  refine pm_cn (sd_gr cl4_ in4_ (j := 1) (by decide) (fun _ => rfl) fl_X4_19 (by decide +kernel) rfl) ?_
  refine pm_cn (sd_gr cl0_ in0_ (j := 7) (by decide) (fun _ => rfl) fl_X4_143 (by decide +kernel) rfl) ?_
  refine pm_cn (sd_iln (k := 1) (by decide +kernel) rfl rfl) ?_
  refine pm_cn (sd_ia (by decide +kernel) rfl) ?_
  refine pm_cn (sd_ir (by decide +kernel)) ?_
  refine pm_cn (sd_aln (k := 0) (by decide +kernel) rfl rfl) ?_
  refine pm_cn (sd_gr cl4_ in4_ (j := 1) (by decide) (fun _ => rfl) fl_X4_19 (by decide +kernel) rfl) ?_
  refine pm_cn (sd_iln (k := 1) (by decide +kernel) rfl rfl) ?_
  refine pm_cn (sd_civ M_X0_spoilOf (by decide) cd_X0_spoilOf rc_X0_spoilOf cl0_ ml_X4_146 im_X0_spoilOf se_X0_spoilOf nt_X0 (by decide +kernel) (by omega) (by decide) (by decide +kernel) rfl) ?_
  refine pm_cn (sd_ir (by decide +kernel)) ?_
  refine pm_cn (sd_iconst (z := -1) (by decide +kernel) (by decide +kernel) rfl) ?_
  refine pm_cn (sd_ir (by decide +kernel)) ?_
  exact fun _ h => absurd h List.not_mem_nil
set_option maxHeartbeats 4000000 in
set_option maxRecDepth 100000 in
theorem pf_X4_biscuit : pm_pf T_X4_biscuit P_X4_biscuit (pm_pi Q_X4_biscuit) := by
  rintro ⟨f, w, N, h0⟩ av h K hK ⟨rfl, rfl, hN, wN⟩ hret
  have w2 := wN.2.1
  show K (some 0) ([(0, vR 4 0 0), (1, vI f), (2, vI w)], [], h)
  refine hK [] 60 _ _ ?_
  conv => whnf
  repeat' (first
    | (refine ⟨fun c => ?_, fun c => ?_⟩ <;> (try simp (disch := omega) only [nI_leI, nI_ltI, nI_eq, nz_eq, nz_lt, nz_gt, nz_le, nz_ge, nz_00, nz_n1, nI_add, pk_mul, pk_sub, nI_shl1, nI_or, nI_half2, nI_min2, la_put_eq, la_up, lr_same, lr_ne, lu_same, lu_ne, not_true_eq_false, not_false_eq_true, hN] at c) <;> first | (exfalso; omega) | conv => whnf)
    | (refine ⟨_, rfl, by omega, ?_⟩; conv => whnf)
    | (refine ⟨_, rfl, rfl, rfl, by decide, by decide, ?_⟩; conv => whnf)
    | (refine ⟨_, by (simp (disch := omega) only [nI_leI, nI_ltI, nI_eq, nz_eq, nz_lt, nz_gt, nz_le, nz_ge, nz_00, nz_n1, nI_add, pk_mul, pk_sub, nI_shl1, nI_or, nI_half2, nI_min2, la_put_eq, la_up, lr_same, lr_ne, lu_same, lu_ne, not_true_eq_false, not_false_eq_true, hN]; rfl), by omega, ?_⟩; conv => whnf)
    | (refine And.intro (by first | assumption | decide) ?_; conv => whnf))
  all_goals (try simp (disch := omega) only [nI_leI, nI_ltI, nI_eq, nz_eq, nz_lt, nz_gt, nz_le, nz_ge, nz_00, nz_n1, nI_add, pk_mul, pk_sub, nI_shl1, nI_or, nI_half2, nI_min2, la_put_eq, la_up, lr_same, lr_ne, lu_same, lu_ne, not_true_eq_false, not_false_eq_true, hN])
  refine ⟨(0, f, N, h), ⟨rfl, rfl, hN, wN⟩, fun v h' hq => ?_⟩
  obtain ⟨rfl, ⟨hf, rfl⟩ | ⟨hf, rfl⟩⟩ := hq
  · obtain ⟨k, hk, rfl⟩ := hf
    have hix : ixI (nI k) (N 0 3) := ⟨k, hk, rfl⟩
    have hv : ixv (nI k) = k := ixv_nI (by omega)
    have hB := (id wN).2.2.2.2.2.2.2.1 k (by omega)
    conv => whnf
    repeat' (first
      | (refine ⟨fun c => ?_, fun c => ?_⟩ <;> (try simp (disch := omega) only [nI_leI, nI_ltI, nI_eq, nz_eq, nz_lt, nz_gt, nz_le, nz_ge, nz_00, nz_n1, nI_add, pk_mul, pk_sub, nI_shl1, nI_or, nI_half2, nI_min2, la_put_eq, la_up, lr_same, lr_ne, lu_same, lu_ne, not_true_eq_false, not_false_eq_true, hN] at c) <;> first | (exfalso; omega) | conv => whnf)
      | (refine ⟨_, rfl, by omega, ?_⟩; conv => whnf)
      | (refine ⟨_, rfl, rfl, rfl, by decide, by decide, ?_⟩; conv => whnf)
      | (refine ⟨_, by (simp (disch := omega) only [nI_leI, nI_ltI, nI_eq, nz_eq, nz_lt, nz_gt, nz_le, nz_ge, nz_00, nz_n1, nI_add, pk_mul, pk_sub, nI_shl1, nI_or, nI_half2, nI_min2, la_put_eq, la_up, lr_same, lr_ne, lu_same, lu_ne, not_true_eq_false, not_false_eq_true, hN]; rfl), by omega, ?_⟩; conv => whnf)
      | (refine And.intro (by first | assumption | decide) ?_; conv => whnf))
    all_goals (try simp (disch := omega) only [nI_leI, nI_ltI, nI_eq, nz_eq, nz_lt, nz_gt, nz_le, nz_ge, nz_00, nz_n1, nI_add, pk_mul, pk_sub, nI_shl1, nI_or, nI_half2, nI_min2, la_put_eq, la_up, lr_same, lr_ne, lu_same, lu_ne, not_true_eq_false, not_false_eq_true, hN])
    · refine hret _ _ ⟨rfl, ?_⟩; rw [a_biscuit, ci_t hix, hv]; simp (disch := omega) [*, nI_eq]
    · refine hret _ _ ⟨rfl, ?_⟩; rw [a_biscuit, ci_t hix, hv]; simp (disch := omega) [*, nI_eq]
    · refine hret _ _ ⟨rfl, ?_⟩; rw [a_biscuit, ci_t hix, hv]; simp (disch := omega) [*, nI_eq]
    · refine hret _ _ ⟨rfl, ?_⟩; rw [a_biscuit, ci_t hix, hv]; simp (disch := omega) [*, nI_eq]
    · refine ⟨(0, k, N, _), ⟨rfl, rfl, hN, by omega, wN.2.2.1, by omega, by omega⟩, fun v h' hq => ?_⟩
      obtain ⟨rfl, rfl⟩ := hq
      conv => whnf
      repeat' (first
        | (refine ⟨fun c => ?_, fun c => ?_⟩ <;> (try simp (disch := omega) only [nI_leI, nI_ltI, nI_eq, nz_eq, nz_lt, nz_gt, nz_le, nz_ge, nz_00, nz_n1, nI_add, pk_mul, pk_sub, nI_shl1, nI_or, nI_half2, nI_min2, la_put_eq, la_up, lr_same, lr_ne, lu_same, lu_ne, not_true_eq_false, not_false_eq_true] at c) <;> first | (exfalso; omega) | conv => whnf)
        | (refine ⟨_, rfl, by omega, ?_⟩; conv => whnf)
        | (refine ⟨_, rfl, rfl, rfl, by decide, by decide, ?_⟩; conv => whnf)
        | (refine ⟨_, by (simp (disch := omega) only [nI_leI, nI_ltI, nI_eq, nz_eq, nz_lt, nz_gt, nz_le, nz_ge, nz_00, nz_n1, nI_add, pk_mul, pk_sub, nI_shl1, nI_or, nI_half2, nI_min2, la_put_eq, la_up, lr_same, lr_ne, lu_same, lu_ne, not_true_eq_false, not_false_eq_true]; rfl), by omega, ?_⟩; conv => whnf)
        | (refine And.intro (by first | assumption | decide) ?_; conv => whnf))
      all_goals (try simp (disch := omega) only [nI_leI, nI_ltI, nI_eq, nz_eq, nz_lt, nz_gt, nz_le, nz_ge, nz_00, nz_n1, nI_add, pk_mul, pk_sub, nI_shl1, nI_or, nI_half2, nI_min2, la_put_eq, la_up, lr_same, lr_ne, lu_same, lu_ne, not_true_eq_false, not_false_eq_true])
      refine hret _ _ ⟨rfl, ?_⟩; rw [a_biscuit, ci_t hix, hv]; simp (disch := omega) [*, nI_eq]
    · refine hret _ _ ⟨rfl, ?_⟩; rw [a_biscuit, ci_t hix, hv]; simp (disch := omega) [*, nI_eq]
  · conv => whnf
    repeat' (first
      | (refine ⟨fun c => ?_, fun c => ?_⟩ <;> (try simp (disch := omega) only [nI_leI, nI_ltI, nI_eq, nz_eq, nz_lt, nz_gt, nz_le, nz_ge, nz_00, nz_n1, nI_add, pk_mul, pk_sub, nI_shl1, nI_or, nI_half2, nI_min2, la_put_eq, la_up, lr_same, lr_ne, lu_same, lu_ne, not_true_eq_false, not_false_eq_true, hN] at c) <;> first | (exfalso; omega) | conv => whnf)
      | (refine ⟨_, rfl, by omega, ?_⟩; conv => whnf)
      | (refine ⟨_, rfl, rfl, rfl, by decide, by decide, ?_⟩; conv => whnf)
      | (refine ⟨_, by (simp (disch := omega) only [nI_leI, nI_ltI, nI_eq, nz_eq, nz_lt, nz_gt, nz_le, nz_ge, nz_00, nz_n1, nI_add, pk_mul, pk_sub, nI_shl1, nI_or, nI_half2, nI_min2, la_put_eq, la_up, lr_same, lr_ne, lu_same, lu_ne, not_true_eq_false, not_false_eq_true, hN]; rfl), by omega, ?_⟩; conv => whnf)
      | (refine And.intro (by first | assumption | decide) ?_; conv => whnf))
    all_goals (try simp (disch := omega) only [nI_leI, nI_ltI, nI_eq, nz_eq, nz_lt, nz_gt, nz_le, nz_ge, nz_00, nz_n1, nI_add, pk_mul, pk_sub, nI_shl1, nI_or, nI_half2, nI_min2, la_put_eq, la_up, lr_same, lr_ne, lu_same, lu_ne, not_true_eq_false, not_false_eq_true, hN])
    refine hret _ _ ⟨rfl, ?_⟩
    rw [a_biscuit, ci_f hf]
theorem M_X4_biscuit : pm_MT yX4_biscuit cX4_biscuit 3 1 3 P_X4_biscuit (pm_pi Q_X4_biscuit) := pm_met k_X4_biscuit (by decide) rfl (by
  rintro ⟨g0, g1, g2, g3⟩ av h hp
  rw [hp.1]
  exact Nat.le_of_ble_eq_true rfl) pf_X4_biscuit
theorem rc_X4_biscuit : ∀ g av h, P_X4_biscuit g av h → ∃ i t, av = .inr (.inr (4, i, 0)) :: t := by
  rintro ⟨g0, g1, g2, g3⟩ av h hp
  exact ⟨_, _, hp.1⟩
noncomputable def a_question (N : LD) (i w : Int32) : Int32 := ci (ixI i (N 0 11) ∧ hf w) (if w = nI 0 then nI (N 7 (ixv i)) else nI (N 8 (ixv i))) (-1)
def P_X4_question : Int32 × Int32 × LD × pm_H → List pm_V → pm_H → Prop := fun g av h => match g with
  | (i, w, N, h0) => av = [vR 4 0 0, vI i, vI w] ∧ h = h0 ∧ la_at h0 0 N ∧ la_ok N
def Q_X4_question : Int32 × Int32 × LD × pm_H → Int32 → pm_H → Prop := fun g r h => match g with
  | (i, w, N, h0) => h = h0 ∧ r = a_question N i w
/-- between 0 and one less than n -/
theorem ix_less {x : Int32} {n : Nat} (hn : n < 2 ^ 30) : (¬ x < nI 0 ∧ ¬ nI n - nI 1 < x) ↔ ixI x n := by
  constructor
  · rintro ⟨h1, h2⟩
    obtain ⟨k, hk, rfl⟩ := nI_of h1
    rw [Int32.lt_iff_toInt_lt, pk_sub_toInt (by omega) (by omega), nI_toInt hk] at h2
    exact ⟨k, by omega, rfl⟩
  · rintro ⟨k, hk, rfl⟩
    refine ⟨nI_pos (by omega), ?_⟩
    rw [Int32.lt_iff_toInt_lt, pk_sub_toInt (by omega) (by omega), nI_toInt (by omega)]
    omega
def T_X4_question : List (Nat × pm_T) := [
  (0, i_il 1 1),
  (1, i_c (nI 0) 2),
  (2, i_al 0 3),
  (3, i_gr 4 (fun _ => (0, 0, 0)) 6),
  (6, i_gi 0 11 9),
  (9, i_c (nI 1) 10),
  (10, i_isub 11),
  (11, i_ci 3 P_X4_within Q_X4_within 14),
  (14, i_ifeq 24 17),
  (17, i_il 2 18),
  (18, i_ci 1 P_X4_isHalf Q_X4_isHalf 21),
  (21, i_ifne 26 24),
  (24, i_c (-1) 25),
  (25, i_ir),
  (26, i_il 2 27),
  (27, i_ifne 42 30),
  (30, i_al 0 31),
  (31, i_gr 4 (fun _ => (0, 0, 0)) 34),
  (34, i_gr 0 (fun i => (0, i, 7)) 37),
  (37, i_il 1 38),
  (38, i_ia 39),
  (39, i_go 51),
  (42, i_al 0 43),
  (43, i_gr 4 (fun _ => (0, 0, 0)) 46),
  (46, i_gr 0 (fun i => (0, i, 8)) 49),
  (49, i_il 1 50),
  (50, i_ia 51),
  (51, i_ir)]
theorem k_X4_question : ∀ q ∈ T_X4_question, pm_sd RX4 cX4_question 3 3 1 q.1 q.2 := by
  unfold T_X4_question
  refine pm_cn (sd_iln (k := 1) (by decide +kernel) rfl rfl) ?_
  refine pm_cn (sd_iconst (z := 0) (by decide +kernel) (by decide +kernel) rfl) ?_
  refine pm_cn (sd_aln (k := 0) (by decide +kernel) rfl rfl) ?_
  refine pm_cn (sd_gr cl4_ in4_ (j := 1) (by decide) (fun _ => rfl) fl_X4_19 (by decide +kernel) rfl) ?_
  refine pm_cn (sd_gi cl0_ in0_ (by decide) (fun _ => rfl) fl_X4_149 (by decide +kernel) rfl) ?_
  refine pm_cn (sd_iconst (z := 1) (by decide +kernel) (by decide +kernel) rfl) ?_
  refine pm_cn (sd_isub (by decide +kernel) rfl) ?_
  refine pm_cn (sd_cis M_X4_within (by decide) cd_X4_within ml_X4_57 st_X4_within nt_X4 (by decide +kernel) (by omega) (by decide) (by decide +kernel) rfl) ?_
  refine pm_cn (sd_ifeq (off := 10) (by decide +kernel) (by decide) rfl) ?_
  refine pm_cn (sd_iln (k := 2) (by decide +kernel) rfl rfl) ?_
  refine pm_cn (sd_cis M_X4_isHalf (by decide) cd_X4_isHalf ml_X4_152 st_X4_isHalf nt_X4 (by decide +kernel) (by omega) (by decide) (by decide +kernel) rfl) ?_
  refine pm_cn (sd_ifne (off := 5) (by decide +kernel) (by decide) rfl) ?_
  refine pm_cn (sd_iconst (z := -1) (by decide +kernel) (by decide +kernel) rfl) ?_
  refine pm_cn (sd_ir (by decide +kernel)) ?_
  refine pm_cn (sd_iln (k := 2) (by decide +kernel) rfl rfl) ?_
  refine pm_cn (sd_ifne (off := 15) (by decide +kernel) (by decide) rfl) ?_
  refine pm_cn (sd_aln (k := 0) (by decide +kernel) rfl rfl) ?_
  refine pm_cn (sd_gr cl4_ in4_ (j := 1) (by decide) (fun _ => rfl) fl_X4_19 (by decide +kernel) rfl) ?_
  refine pm_cn (sd_gr cl0_ in0_ (j := 12) (by decide) (fun _ => rfl) fl_X4_155 (by decide +kernel) rfl) ?_
  refine pm_cn (sd_iln (k := 1) (by decide +kernel) rfl rfl) ?_
  refine pm_cn (sd_ia (by decide +kernel) rfl) ?_
  refine pm_cn (sd_go (off := 12) (by decide +kernel) (by decide)) ?_
  refine pm_cn (sd_aln (k := 0) (by decide +kernel) rfl rfl) ?_
  refine pm_cn (sd_gr cl4_ in4_ (j := 1) (by decide) (fun _ => rfl) fl_X4_19 (by decide +kernel) rfl) ?_
  refine pm_cn (sd_gr cl0_ in0_ (j := 13) (by decide) (fun _ => rfl) fl_X4_158 (by decide +kernel) rfl) ?_
  refine pm_cn (sd_iln (k := 1) (by decide +kernel) rfl rfl) ?_
  refine pm_cn (sd_ia (by decide +kernel) rfl) ?_
  refine pm_cn (sd_ir (by decide +kernel)) ?_
  exact fun _ h => absurd h List.not_mem_nil
set_option maxHeartbeats 4000000 in
set_option maxRecDepth 100000 in
theorem pf_X4_question : pm_pf T_X4_question P_X4_question (pm_pi Q_X4_question) := by
  rintro ⟨x, w, N, h0⟩ av h K hK ⟨rfl, rfl, hN, wN⟩ hret
  have w6 := wN.2.2.2.2.2.1
  show K (some 0) ([(0, vR 4 0 0), (1, vI x), (2, vI w)], [], h)
  refine hK [] 60 _ _ ?_
  conv => whnf
  rw [hN]
  refine ⟨(x, nI 0, nI (N 0 11) - nI 1, h), ⟨rfl, rfl⟩, fun v h' hq => ?_⟩
  obtain ⟨rfl, hq⟩ := hq
  rw [ix_less (by omega)] at hq
  rcases hq with ⟨hx, rfl⟩ | ⟨hx, rfl⟩
  · conv => whnf
    repeat' (first
      | (refine ⟨fun c => ?_, fun c => ?_⟩ <;> (try simp (disch := omega) only [nI_leI, nI_ltI, nI_eq, nz_eq, nz_lt, nz_gt, nz_le, nz_ge, nz_00, nz_n1, nI_add, pk_mul, pk_sub, nI_shl1, nI_or, nI_half2, nI_min2, la_put_eq, la_up, lr_same, lr_ne, lu_same, lu_ne, not_true_eq_false, not_false_eq_true] at c) <;> first | (exfalso; omega) | conv => whnf)
      | (refine ⟨_, rfl, by omega, ?_⟩; conv => whnf)
      | (refine ⟨_, rfl, rfl, rfl, by decide, by decide, ?_⟩; conv => whnf)
      | (refine ⟨_, by (simp (disch := omega) only [nI_leI, nI_ltI, nI_eq, nz_eq, nz_lt, nz_gt, nz_le, nz_ge, nz_00, nz_n1, nI_add, pk_mul, pk_sub, nI_shl1, nI_or, nI_half2, nI_min2, la_put_eq, la_up, lr_same, lr_ne, lu_same, lu_ne, not_true_eq_false, not_false_eq_true]; rfl), by omega, ?_⟩; conv => whnf)
      | (refine And.intro (by first | assumption | decide) ?_; conv => whnf))
    all_goals (try simp (disch := omega) only [nI_leI, nI_ltI, nI_eq, nz_eq, nz_lt, nz_gt, nz_le, nz_ge, nz_00, nz_n1, nI_add, pk_mul, pk_sub, nI_shl1, nI_or, nI_half2, nI_min2, la_put_eq, la_up, lr_same, lr_ne, lu_same, lu_ne, not_true_eq_false, not_false_eq_true])
    refine ⟨(w, _), ⟨rfl, rfl⟩, fun v h' hq => ?_⟩
    obtain ⟨rfl, ⟨hw, rfl⟩ | ⟨hw, rfl⟩⟩ := hq
    · obtain ⟨k, hk, rfl⟩ := id hx
      have hv : ixv (nI k) = k := ixv_nI (by omega)
      rcases hw with rfl | rfl
      · conv => whnf
        repeat' (first
          | (refine ⟨fun c => ?_, fun c => ?_⟩ <;> (try simp (disch := omega) only [nI_leI, nI_ltI, nI_eq, nz_eq, nz_lt, nz_gt, nz_le, nz_ge, nz_00, nz_n1, nI_add, pk_mul, pk_sub, nI_shl1, nI_or, nI_half2, nI_min2, la_put_eq, la_up, lr_same, lr_ne, lu_same, lu_ne, not_true_eq_false, not_false_eq_true, hN] at c) <;> first | (exfalso; omega) | conv => whnf)
          | (refine ⟨_, rfl, by omega, ?_⟩; conv => whnf)
          | (refine ⟨_, rfl, rfl, rfl, by decide, by decide, ?_⟩; conv => whnf)
          | (refine ⟨_, by (simp (disch := omega) only [nI_leI, nI_ltI, nI_eq, nz_eq, nz_lt, nz_gt, nz_le, nz_ge, nz_00, nz_n1, nI_add, pk_mul, pk_sub, nI_shl1, nI_or, nI_half2, nI_min2, la_put_eq, la_up, lr_same, lr_ne, lu_same, lu_ne, not_true_eq_false, not_false_eq_true, hN]; rfl), by omega, ?_⟩; conv => whnf)
          | (refine And.intro (by first | assumption | decide) ?_; conv => whnf))
        all_goals (try simp (disch := omega) only [nI_leI, nI_ltI, nI_eq, nz_eq, nz_lt, nz_gt, nz_le, nz_ge, nz_00, nz_n1, nI_add, pk_mul, pk_sub, nI_shl1, nI_or, nI_half2, nI_min2, la_put_eq, la_up, lr_same, lr_ne, lu_same, lu_ne, not_true_eq_false, not_false_eq_true, hN])
        refine hret _ _ ⟨rfl, ?_⟩
        rw [a_question, ci_t ⟨hx, Or.inl rfl⟩, hv, if_pos rfl]
      · conv => whnf
        repeat' (first
          | (refine ⟨fun c => ?_, fun c => ?_⟩ <;> (try simp (disch := omega) only [nI_leI, nI_ltI, nI_eq, nz_eq, nz_lt, nz_gt, nz_le, nz_ge, nz_00, nz_n1, nI_add, pk_mul, pk_sub, nI_shl1, nI_or, nI_half2, nI_min2, la_put_eq, la_up, lr_same, lr_ne, lu_same, lu_ne, not_true_eq_false, not_false_eq_true, hN] at c) <;> first | (exfalso; omega) | conv => whnf)
          | (refine ⟨_, rfl, by omega, ?_⟩; conv => whnf)
          | (refine ⟨_, rfl, rfl, rfl, by decide, by decide, ?_⟩; conv => whnf)
          | (refine ⟨_, by (simp (disch := omega) only [nI_leI, nI_ltI, nI_eq, nz_eq, nz_lt, nz_gt, nz_le, nz_ge, nz_00, nz_n1, nI_add, pk_mul, pk_sub, nI_shl1, nI_or, nI_half2, nI_min2, la_put_eq, la_up, lr_same, lr_ne, lu_same, lu_ne, not_true_eq_false, not_false_eq_true, hN]; rfl), by omega, ?_⟩; conv => whnf)
          | (refine And.intro (by first | assumption | decide) ?_; conv => whnf))
        all_goals (try simp (disch := omega) only [nI_leI, nI_ltI, nI_eq, nz_eq, nz_lt, nz_gt, nz_le, nz_ge, nz_00, nz_n1, nI_add, pk_mul, pk_sub, nI_shl1, nI_or, nI_half2, nI_min2, la_put_eq, la_up, lr_same, lr_ne, lu_same, lu_ne, not_true_eq_false, not_false_eq_true, hN])
        refine hret _ _ ⟨rfl, ?_⟩
        rw [a_question, ci_t ⟨hx, Or.inr rfl⟩, hv, if_neg (by decide +kernel)]
    · conv => whnf
      repeat' (first
        | (refine ⟨fun c => ?_, fun c => ?_⟩ <;> (try simp (disch := omega) only [nI_leI, nI_ltI, nI_eq, nz_eq, nz_lt, nz_gt, nz_le, nz_ge, nz_00, nz_n1, nI_add, pk_mul, pk_sub, nI_shl1, nI_or, nI_half2, nI_min2, la_put_eq, la_up, lr_same, lr_ne, lu_same, lu_ne, not_true_eq_false, not_false_eq_true, hN] at c) <;> first | (exfalso; omega) | conv => whnf)
        | (refine ⟨_, rfl, by omega, ?_⟩; conv => whnf)
        | (refine ⟨_, rfl, rfl, rfl, by decide, by decide, ?_⟩; conv => whnf)
        | (refine ⟨_, by (simp (disch := omega) only [nI_leI, nI_ltI, nI_eq, nz_eq, nz_lt, nz_gt, nz_le, nz_ge, nz_00, nz_n1, nI_add, pk_mul, pk_sub, nI_shl1, nI_or, nI_half2, nI_min2, la_put_eq, la_up, lr_same, lr_ne, lu_same, lu_ne, not_true_eq_false, not_false_eq_true, hN]; rfl), by omega, ?_⟩; conv => whnf)
        | (refine And.intro (by first | assumption | decide) ?_; conv => whnf))
      all_goals (try simp (disch := omega) only [nI_leI, nI_ltI, nI_eq, nz_eq, nz_lt, nz_gt, nz_le, nz_ge, nz_00, nz_n1, nI_add, pk_mul, pk_sub, nI_shl1, nI_or, nI_half2, nI_min2, la_put_eq, la_up, lr_same, lr_ne, lu_same, lu_ne, not_true_eq_false, not_false_eq_true, hN])
      refine hret _ _ ⟨rfl, ?_⟩
      rw [a_question, ci_f (fun q => hw q.2)]
  · conv => whnf
    repeat' (first
      | (refine ⟨fun c => ?_, fun c => ?_⟩ <;> (try simp (disch := omega) only [nI_leI, nI_ltI, nI_eq, nz_eq, nz_lt, nz_gt, nz_le, nz_ge, nz_00, nz_n1, nI_add, pk_mul, pk_sub, nI_shl1, nI_or, nI_half2, nI_min2, la_put_eq, la_up, lr_same, lr_ne, lu_same, lu_ne, not_true_eq_false, not_false_eq_true, hN] at c) <;> first | (exfalso; omega) | conv => whnf)
      | (refine ⟨_, rfl, by omega, ?_⟩; conv => whnf)
      | (refine ⟨_, rfl, rfl, rfl, by decide, by decide, ?_⟩; conv => whnf)
      | (refine ⟨_, by (simp (disch := omega) only [nI_leI, nI_ltI, nI_eq, nz_eq, nz_lt, nz_gt, nz_le, nz_ge, nz_00, nz_n1, nI_add, pk_mul, pk_sub, nI_shl1, nI_or, nI_half2, nI_min2, la_put_eq, la_up, lr_same, lr_ne, lu_same, lu_ne, not_true_eq_false, not_false_eq_true, hN]; rfl), by omega, ?_⟩; conv => whnf)
      | (refine And.intro (by first | assumption | decide) ?_; conv => whnf))
    all_goals (try simp (disch := omega) only [nI_leI, nI_ltI, nI_eq, nz_eq, nz_lt, nz_gt, nz_le, nz_ge, nz_00, nz_n1, nI_add, pk_mul, pk_sub, nI_shl1, nI_or, nI_half2, nI_min2, la_put_eq, la_up, lr_same, lr_ne, lu_same, lu_ne, not_true_eq_false, not_false_eq_true, hN])
    refine hret _ _ ⟨rfl, ?_⟩
    rw [a_question, ci_f (fun q => hx q.1)]
theorem M_X4_question : pm_MT yX4_question cX4_question 3 1 3 P_X4_question (pm_pi Q_X4_question) := pm_met k_X4_question (by decide) rfl (by
  rintro ⟨g0, g1, g2, g3⟩ av h hp
  rw [hp.1]
  exact Nat.le_of_ble_eq_true rfl) pf_X4_question
theorem rc_X4_question : ∀ g av h, P_X4_question g av h → ∃ i t, av = .inr (.inr (4, i, 0)) :: t := by
  rintro ⟨g0, g1, g2, g3⟩ av h hp
  exact ⟨_, _, hp.1⟩
noncomputable def a_knows (N : LD) (s : Int32) : Int32 := ci (wi s 0 9) (nI (sp_knowers N (ixv s))) (-1)
def P_X4_knows : Int32 × LD × pm_H → List pm_V → pm_H → Prop := fun g av h => match g with
  | (s, N, h0) => av = [vR 4 0 0, vI s] ∧ h = h0 ∧ la_at h0 0 N ∧ la_ok N
def Q_X4_knows : Int32 × LD × pm_H → Int32 → pm_H → Prop := fun g r h => match g with
  | (s, N, h0) => h = h0 ∧ r = a_knows N s
def T_X4_knows : List (Nat × pm_T) := [
  (0, i_il 1 1),
  (1, i_c (nI 0) 2),
  (2, i_c (nI 9) 4),
  (4, i_ci 3 P_X4_within Q_X4_within 7),
  (7, i_ifne 12 10),
  (10, i_c (-1) 11),
  (11, i_ir),
  (12, i_al 0 13),
  (13, i_gr 4 (fun _ => (0, 0, 0)) 16),
  (16, i_il 1 17),
  (17, i_ci 2 P_X0_knowersOf Q_X0_knowersOf 20),
  (20, i_ir)]
theorem k_X4_knows : ∀ q ∈ T_X4_knows, pm_sd RX4 cX4_knows 2 3 1 q.1 q.2 := by
  unfold T_X4_knows
  refine pm_cn (sd_iln (k := 1) (by decide +kernel) rfl rfl) ?_
  refine pm_cn (sd_iconst (z := 0) (by decide +kernel) (by decide +kernel) rfl) ?_
  refine pm_cn (sd_bipush (z := 9) (by decide +kernel) (by decide +kernel) rfl) ?_
  refine pm_cn (sd_cis M_X4_within (by decide) cd_X4_within ml_X4_57 st_X4_within nt_X4 (by decide +kernel) (by omega) (by decide) (by decide +kernel) rfl) ?_
  refine pm_cn (sd_ifne (off := 5) (by decide +kernel) (by decide) rfl) ?_
  refine pm_cn (sd_iconst (z := -1) (by decide +kernel) (by decide +kernel) rfl) ?_
  refine pm_cn (sd_ir (by decide +kernel)) ?_
  refine pm_cn (sd_aln (k := 0) (by decide +kernel) rfl rfl) ?_
  refine pm_cn (sd_gr cl4_ in4_ (j := 1) (by decide) (fun _ => rfl) fl_X4_19 (by decide +kernel) rfl) ?_
  refine pm_cn (sd_iln (k := 1) (by decide +kernel) rfl rfl) ?_
  refine pm_cn (sd_civ M_X0_knowersOf (by decide) cd_X0_knowersOf rc_X0_knowersOf cl0_ ml_X4_161 im_X0_knowersOf se_X0_knowersOf nt_X0 (by decide +kernel) (by omega) (by decide) (by decide +kernel) rfl) ?_
  refine pm_cn (sd_ir (by decide +kernel)) ?_
  exact fun _ h => absurd h List.not_mem_nil
set_option maxHeartbeats 4000000 in
set_option maxRecDepth 100000 in
theorem pf_X4_knows : pm_pf T_X4_knows P_X4_knows (pm_pi Q_X4_knows) := by
  rintro ⟨s, N, h0⟩ av h K hK ⟨rfl, rfl, hN, wN⟩ hret
  show K (some 0) ([(0, vR 4 0 0), (1, vI s)], [], h)
  refine hK [] 60 _ _ ?_
  conv => whnf
  repeat' (first
    | (refine ⟨fun c => ?_, fun c => ?_⟩ <;> (try simp (disch := omega) only [nI_leI, nI_ltI, nI_eq, nz_eq, nz_lt, nz_gt, nz_le, nz_ge, nz_00, nz_n1, nI_add, pk_mul, pk_sub, nI_shl1, nI_or, nI_half2, nI_min2, la_put_eq, la_up, lr_same, lr_ne, lu_same, lu_ne, not_true_eq_false, not_false_eq_true] at c) <;> first | (exfalso; omega) | conv => whnf)
    | (refine ⟨_, rfl, by omega, ?_⟩; conv => whnf)
    | (refine ⟨_, rfl, rfl, rfl, by decide, by decide, ?_⟩; conv => whnf)
    | (refine ⟨_, by (simp (disch := omega) only [nI_leI, nI_ltI, nI_eq, nz_eq, nz_lt, nz_gt, nz_le, nz_ge, nz_00, nz_n1, nI_add, pk_mul, pk_sub, nI_shl1, nI_or, nI_half2, nI_min2, la_put_eq, la_up, lr_same, lr_ne, lu_same, lu_ne, not_true_eq_false, not_false_eq_true]; rfl), by omega, ?_⟩; conv => whnf)
    | (refine And.intro (by first | assumption | decide) ?_; conv => whnf))
  all_goals (try simp (disch := omega) only [nI_leI, nI_ltI, nI_eq, nz_eq, nz_lt, nz_gt, nz_le, nz_ge, nz_00, nz_n1, nI_add, pk_mul, pk_sub, nI_shl1, nI_or, nI_half2, nI_min2, la_put_eq, la_up, lr_same, lr_ne, lu_same, lu_ne, not_true_eq_false, not_false_eq_true])
  refine ⟨(s, nI 0, nI 9, h), ⟨rfl, rfl⟩, fun v h' hq => ?_⟩
  obtain ⟨rfl, ⟨hs, rfl⟩ | ⟨hs, rfl⟩⟩ := Q_within (by decide) (by decide) hq
  · obtain ⟨k, h1, h2, rfl⟩ := id hs
    conv => whnf
    repeat' (first
      | (refine ⟨fun c => ?_, fun c => ?_⟩ <;> (try simp (disch := omega) only [nI_leI, nI_ltI, nI_eq, nz_eq, nz_lt, nz_gt, nz_le, nz_ge, nz_00, nz_n1, nI_add, pk_mul, pk_sub, nI_shl1, nI_or, nI_half2, nI_min2, la_put_eq, la_up, lr_same, lr_ne, lu_same, lu_ne, not_true_eq_false, not_false_eq_true] at c) <;> first | (exfalso; omega) | conv => whnf)
      | (refine ⟨_, rfl, by omega, ?_⟩; conv => whnf)
      | (refine ⟨_, rfl, rfl, rfl, by decide, by decide, ?_⟩; conv => whnf)
      | (refine ⟨_, by (simp (disch := omega) only [nI_leI, nI_ltI, nI_eq, nz_eq, nz_lt, nz_gt, nz_le, nz_ge, nz_00, nz_n1, nI_add, pk_mul, pk_sub, nI_shl1, nI_or, nI_half2, nI_min2, la_put_eq, la_up, lr_same, lr_ne, lu_same, lu_ne, not_true_eq_false, not_false_eq_true]; rfl), by omega, ?_⟩; conv => whnf)
      | (refine And.intro (by first | assumption | decide) ?_; conv => whnf))
    all_goals (try simp (disch := omega) only [nI_leI, nI_ltI, nI_eq, nz_eq, nz_lt, nz_gt, nz_le, nz_ge, nz_00, nz_n1, nI_add, pk_mul, pk_sub, nI_shl1, nI_or, nI_half2, nI_min2, la_put_eq, la_up, lr_same, lr_ne, lu_same, lu_ne, not_true_eq_false, not_false_eq_true])
    refine ⟨(0, k, N, _), ⟨rfl, rfl, hN, wN, by omega⟩, fun v h' hq => ?_⟩
    obtain ⟨rfl, rfl⟩ := hq
    conv => whnf
    repeat' (first
      | (refine ⟨fun c => ?_, fun c => ?_⟩ <;> (try simp (disch := omega) only [nI_leI, nI_ltI, nI_eq, nz_eq, nz_lt, nz_gt, nz_le, nz_ge, nz_00, nz_n1, nI_add, pk_mul, pk_sub, nI_shl1, nI_or, nI_half2, nI_min2, la_put_eq, la_up, lr_same, lr_ne, lu_same, lu_ne, not_true_eq_false, not_false_eq_true] at c) <;> first | (exfalso; omega) | conv => whnf)
      | (refine ⟨_, rfl, by omega, ?_⟩; conv => whnf)
      | (refine ⟨_, rfl, rfl, rfl, by decide, by decide, ?_⟩; conv => whnf)
      | (refine ⟨_, by (simp (disch := omega) only [nI_leI, nI_ltI, nI_eq, nz_eq, nz_lt, nz_gt, nz_le, nz_ge, nz_00, nz_n1, nI_add, pk_mul, pk_sub, nI_shl1, nI_or, nI_half2, nI_min2, la_put_eq, la_up, lr_same, lr_ne, lu_same, lu_ne, not_true_eq_false, not_false_eq_true]; rfl), by omega, ?_⟩; conv => whnf)
      | (refine And.intro (by first | assumption | decide) ?_; conv => whnf))
    all_goals (try simp (disch := omega) only [nI_leI, nI_ltI, nI_eq, nz_eq, nz_lt, nz_gt, nz_le, nz_ge, nz_00, nz_n1, nI_add, pk_mul, pk_sub, nI_shl1, nI_or, nI_half2, nI_min2, la_put_eq, la_up, lr_same, lr_ne, lu_same, lu_ne, not_true_eq_false, not_false_eq_true])
    refine hret _ _ ⟨rfl, ?_⟩
    rw [a_knows, ci_t hs, ixv_nI (by omega)]
  · conv => whnf
    repeat' (first
      | (refine ⟨fun c => ?_, fun c => ?_⟩ <;> (try simp (disch := omega) only [nI_leI, nI_ltI, nI_eq, nz_eq, nz_lt, nz_gt, nz_le, nz_ge, nz_00, nz_n1, nI_add, pk_mul, pk_sub, nI_shl1, nI_or, nI_half2, nI_min2, la_put_eq, la_up, lr_same, lr_ne, lu_same, lu_ne, not_true_eq_false, not_false_eq_true] at c) <;> first | (exfalso; omega) | conv => whnf)
      | (refine ⟨_, rfl, by omega, ?_⟩; conv => whnf)
      | (refine ⟨_, rfl, rfl, rfl, by decide, by decide, ?_⟩; conv => whnf)
      | (refine ⟨_, by (simp (disch := omega) only [nI_leI, nI_ltI, nI_eq, nz_eq, nz_lt, nz_gt, nz_le, nz_ge, nz_00, nz_n1, nI_add, pk_mul, pk_sub, nI_shl1, nI_or, nI_half2, nI_min2, la_put_eq, la_up, lr_same, lr_ne, lu_same, lu_ne, not_true_eq_false, not_false_eq_true]; rfl), by omega, ?_⟩; conv => whnf)
      | (refine And.intro (by first | assumption | decide) ?_; conv => whnf))
    all_goals (try simp (disch := omega) only [nI_leI, nI_ltI, nI_eq, nz_eq, nz_lt, nz_gt, nz_le, nz_ge, nz_00, nz_n1, nI_add, pk_mul, pk_sub, nI_shl1, nI_or, nI_half2, nI_min2, la_put_eq, la_up, lr_same, lr_ne, lu_same, lu_ne, not_true_eq_false, not_false_eq_true])
    refine hret _ _ ⟨rfl, ?_⟩
    rw [a_knows, ci_f hs]
theorem M_X4_knows : pm_MT yX4_knows cX4_knows 2 1 3 P_X4_knows (pm_pi Q_X4_knows) := pm_met k_X4_knows (by decide) rfl (by
  rintro ⟨g0, g1, g2⟩ av h hp
  rw [hp.1]
  exact Nat.le_of_ble_eq_true rfl) pf_X4_knows
theorem rc_X4_knows : ∀ g av h, P_X4_knows g av h → ∃ i t, av = .inr (.inr (4, i, 0)) :: t := by
  rintro ⟨g0, g1, g2⟩ av h hp
  exact ⟨_, _, hp.1⟩
/-! the simple changes: what comes out, and the larder then -/
def P_X4_alter : Int32 × Int32 × Int32 × LD × pm_H → List pm_V → pm_H → Prop := fun g av h => match g with
  | (b, w, v, N, h0) => av = [vR 4 0 0, vI b, vI w, vI v] ∧ h = h0 ∧ la_at h0 0 N ∧ no_ok N
/-- (b, w, v) names a biscuit k, a row s of it, and a number x that it may have -/
def al_is (N : LD) (b w v : Int32) (s k x : Nat) : Prop := k < N 0 3 ∧ b = nI k ∧ v = nI x ∧ ((s = 3 ∧ w = nI 0 ∧ x ≤ 3) ∨ (s = 4 ∧ w = nI 1 ∧ x ≤ 9) ∨ (s = 5 ∧ w = nI 2 ∧ x ≤ 99) ∨ (s = 6 ∧ w = nI 3 ∧ x < N 0 0))
def Q_X4_alter : Int32 × Int32 × Int32 × LD × pm_H → Int32 → pm_H → Prop := fun g r h => match g with
  | (b, w, v, N, h0) => (∃ s k x, al_is N b w v s k x ∧ r = nI (N s k) ∧ h = la_put h0 0 (lu N s k x)) ∨ ((¬ ∃ s k x, al_is N b w v s k x) ∧ r = -1 ∧ h = h0)
theorem ni_lit {a b : Nat} (ha : a < 1000) (hb : b < 1000) (h : nI a = nI b) : a = b := (nI_eq (by omega) (by omega)).mp h
def T_X4_alter : List (Nat × pm_T) := [
  (0, i_al 0 1),
  (1, i_gr 4 (fun _ => (0, 0, 0)) 4),
  (4, i_il 1 5),
  (5, i_ci 2 P_X0_hasBiscuit Q_X0_hasBiscuit 8),
  (8, i_ifne 13 11),
  (11, i_c (-1) 12),
  (12, i_ir),
  (13, i_il 2 14),
  (14, i_sw 0 [44, 58, 73, 88] 110),
  (44, i_al 0 45),
  (45, i_gr 4 (fun _ => (0, 0, 0)) 48),
  (48, i_gr 0 (fun i => (0, i, 3)) 51),
  (51, i_il 1 52),
  (52, i_il 3 53),
  (53, i_c (nI 3) 54),
  (54, i_ci 4 P_X4_put Q_X4_put 57),
  (57, i_ir),
  (58, i_al 0 59),
  (59, i_gr 4 (fun _ => (0, 0, 0)) 62),
  (62, i_gr 0 (fun i => (0, i, 4)) 65),
  (65, i_il 1 66),
  (66, i_il 3 67),
  (67, i_c (nI 9) 69),
  (69, i_ci 4 P_X4_put Q_X4_put 72),
  (72, i_ir),
  (73, i_al 0 74),
  (74, i_gr 4 (fun _ => (0, 0, 0)) 77),
  (77, i_gr 0 (fun i => (0, i, 5)) 80),
  (80, i_il 1 81),
  (81, i_il 3 82),
  (82, i_c (nI 99) 84),
  (84, i_ci 4 P_X4_put Q_X4_put 87),
  (87, i_ir),
  (88, i_al 0 89),
  (89, i_gr 4 (fun _ => (0, 0, 0)) 92),
  (92, i_gr 0 (fun i => (0, i, 6)) 95),
  (95, i_il 1 96),
  (96, i_il 3 97),
  (97, i_al 0 98),
  (98, i_gr 4 (fun _ => (0, 0, 0)) 101),
  (101, i_gi 0 0 104),
  (104, i_c (nI 1) 105),
  (105, i_isub 106),
  (106, i_ci 4 P_X4_put Q_X4_put 109),
  (109, i_ir),
  (110, i_c (-1) 111),
  (111, i_ir)]
theorem k_X4_alter : ∀ q ∈ T_X4_alter, pm_sd RX4 cX4_alter 4 3 1 q.1 q.2 := by
  unfold T_X4_alter
  refine pm_cn (sd_aln (k := 0) (by decide +kernel) rfl rfl) ?_
  refine pm_cn (sd_gr cl4_ in4_ (j := 1) (by decide) (fun _ => rfl) fl_X4_19 (by decide +kernel) rfl) ?_
  refine pm_cn (sd_iln (k := 1) (by decide +kernel) rfl rfl) ?_
  refine pm_cn (sd_civ M_X0_hasBiscuit (by decide) cd_X0_hasBiscuit rc_X0_hasBiscuit cl0_ ml_X4_131 im_X0_hasBiscuit se_X0_hasBiscuit nt_X0 (by decide +kernel) (by omega) (by decide) (by decide +kernel) rfl) ?_
  refine pm_cn (sd_ifne (off := 5) (by decide +kernel) (by decide) rfl) ?_
  refine pm_cn (sd_iconst (z := -1) (by decide +kernel) (by decide +kernel) rfl) ?_
  refine pm_cn (sd_ir (by decide +kernel)) ?_
  refine pm_cn (sd_iln (k := 2) (by decide +kernel) rfl rfl) ?_
  refine pm_cn (sd_sw (dflt := 96) (lo' := 0) (hi := 3) (offs := #[30, 44, 59, 74]) (len := 30) (by decide +kernel) rfl rfl (by decide) (by decide) (by decide)) ?_
  refine pm_cn (sd_aln (k := 0) (by decide +kernel) rfl rfl) ?_
  refine pm_cn (sd_gr cl4_ in4_ (j := 1) (by decide) (fun _ => rfl) fl_X4_19 (by decide +kernel) rfl) ?_
  refine pm_cn (sd_gr cl0_ in0_ (j := 4) (by decide) (fun _ => rfl) fl_X4_134 (by decide +kernel) rfl) ?_
  refine pm_cn (sd_iln (k := 1) (by decide +kernel) rfl rfl) ?_
  refine pm_cn (sd_iln (k := 3) (by decide +kernel) rfl rfl) ?_
  refine pm_cn (sd_iconst (z := 3) (by decide +kernel) (by decide +kernel) rfl) ?_
  refine pm_cn (sd_cis M_X4_put (by decide) cd_X4_put ml_X4_164 st_X4_put nt_X4 (by decide +kernel) (by omega) (by decide) (by decide +kernel) rfl) ?_
  refine pm_cn (sd_ir (by decide +kernel)) ?_
  refine pm_cn (sd_aln (k := 0) (by decide +kernel) rfl rfl) ?_
  refine pm_cn (sd_gr cl4_ in4_ (j := 1) (by decide) (fun _ => rfl) fl_X4_19 (by decide +kernel) rfl) ?_
  refine pm_cn (sd_gr cl0_ in0_ (j := 5) (by decide) (fun _ => rfl) fl_X4_137 (by decide +kernel) rfl) ?_
  refine pm_cn (sd_iln (k := 1) (by decide +kernel) rfl rfl) ?_
  refine pm_cn (sd_iln (k := 3) (by decide +kernel) rfl rfl) ?_
  refine pm_cn (sd_bipush (z := 9) (by decide +kernel) (by decide +kernel) rfl) ?_
  refine pm_cn (sd_cis M_X4_put (by decide) cd_X4_put ml_X4_164 st_X4_put nt_X4 (by decide +kernel) (by omega) (by decide) (by decide +kernel) rfl) ?_
  refine pm_cn (sd_ir (by decide +kernel)) ?_
  refine pm_cn (sd_aln (k := 0) (by decide +kernel) rfl rfl) ?_
  refine pm_cn (sd_gr cl4_ in4_ (j := 1) (by decide) (fun _ => rfl) fl_X4_19 (by decide +kernel) rfl) ?_
  refine pm_cn (sd_gr cl0_ in0_ (j := 6) (by decide) (fun _ => rfl) fl_X4_140 (by decide +kernel) rfl) ?_
  refine pm_cn (sd_iln (k := 1) (by decide +kernel) rfl rfl) ?_
  refine pm_cn (sd_iln (k := 3) (by decide +kernel) rfl rfl) ?_
  refine pm_cn (sd_bipush (z := 99) (by decide +kernel) (by decide +kernel) rfl) ?_
  refine pm_cn (sd_cis M_X4_put (by decide) cd_X4_put ml_X4_164 st_X4_put nt_X4 (by decide +kernel) (by omega) (by decide) (by decide +kernel) rfl) ?_
  refine pm_cn (sd_ir (by decide +kernel)) ?_
  refine pm_cn (sd_aln (k := 0) (by decide +kernel) rfl rfl) ?_
  refine pm_cn (sd_gr cl4_ in4_ (j := 1) (by decide) (fun _ => rfl) fl_X4_19 (by decide +kernel) rfl) ?_
  refine pm_cn (sd_gr cl0_ in0_ (j := 7) (by decide) (fun _ => rfl) fl_X4_143 (by decide +kernel) rfl) ?_
  refine pm_cn (sd_iln (k := 1) (by decide +kernel) rfl rfl) ?_
  refine pm_cn (sd_iln (k := 3) (by decide +kernel) rfl rfl) ?_
  refine pm_cn (sd_aln (k := 0) (by decide +kernel) rfl rfl) ?_
  refine pm_cn (sd_gr cl4_ in4_ (j := 1) (by decide) (fun _ => rfl) fl_X4_19 (by decide +kernel) rfl) ?_
  refine pm_cn (sd_gi cl0_ in0_ (by decide) (fun _ => rfl) fl_X4_89 (by decide +kernel) rfl) ?_
  refine pm_cn (sd_iconst (z := 1) (by decide +kernel) (by decide +kernel) rfl) ?_
  refine pm_cn (sd_isub (by decide +kernel) rfl) ?_
  refine pm_cn (sd_cis M_X4_put (by decide) cd_X4_put ml_X4_164 st_X4_put nt_X4 (by decide +kernel) (by omega) (by decide) (by decide +kernel) rfl) ?_
  refine pm_cn (sd_ir (by decide +kernel)) ?_
  refine pm_cn (sd_iconst (z := -1) (by decide +kernel) (by decide +kernel) rfl) ?_
  refine pm_cn (sd_ir (by decide +kernel)) ?_
  exact fun _ h => absurd h List.not_mem_nil
set_option maxHeartbeats 4000000 in
set_option maxRecDepth 100000 in
theorem pf_X4_alter : pm_pf T_X4_alter P_X4_alter (pm_pi Q_X4_alter) := by
  rintro ⟨b, w, v, N, h0⟩ av h K hK ⟨rfl, rfl, hN, wN, hday, hwh⟩ hret
  have w1 := wN.1
  have w2 := wN.2.1
  show K (some 0) ([(0, vR 4 0 0), (1, vI b), (2, vI w), (3, vI v)], [], h)
  have no : ∀ s m w0, (∀ s' k x, al_is N b w v s' k x → s' = s) → (∀ k x, al_is N b w v s k x → x ≤ m) → ¬ wi v 0 m → w = w0 → ¬ ∃ s k x, al_is N b w v s k x := by
    rintro s m w0 h1 h2 h3 _ ⟨s', k, x, hal⟩
    have := h1 s' k x hal
    subst this
    exact h3 ⟨x, Nat.zero_le _, h2 k x hal, hal.2.2.1⟩
  refine hK [] 60 _ _ ?_
  conv => whnf
  repeat' (first
    | (refine ⟨fun c => ?_, fun c => ?_⟩ <;> (try simp (disch := omega) only [nI_leI, nI_ltI, nI_eq, nz_eq, nz_lt, nz_gt, nz_le, nz_ge, nz_00, nz_n1, nI_add, pk_mul, pk_sub, nI_shl1, nI_or, nI_half2, nI_min2, la_put_eq, la_up, lr_same, lr_ne, lu_same, lu_ne, not_true_eq_false, not_false_eq_true, hN] at c) <;> first | (exfalso; omega) | conv => whnf)
    | (refine ⟨_, rfl, by omega, ?_⟩; conv => whnf)
    | (refine ⟨_, rfl, rfl, rfl, by decide, by decide, ?_⟩; conv => whnf)
    | (refine ⟨_, by (simp (disch := omega) only [nI_leI, nI_ltI, nI_eq, nz_eq, nz_lt, nz_gt, nz_le, nz_ge, nz_00, nz_n1, nI_add, pk_mul, pk_sub, nI_shl1, nI_or, nI_half2, nI_min2, la_put_eq, la_up, lr_same, lr_ne, lu_same, lu_ne, not_true_eq_false, not_false_eq_true, hN]; rfl), by omega, ?_⟩; conv => whnf)
    | (refine And.intro (by first | assumption | decide) ?_; conv => whnf))
  all_goals (try simp (disch := omega) only [nI_leI, nI_ltI, nI_eq, nz_eq, nz_lt, nz_gt, nz_le, nz_ge, nz_00, nz_n1, nI_add, pk_mul, pk_sub, nI_shl1, nI_or, nI_half2, nI_min2, la_put_eq, la_up, lr_same, lr_ne, lu_same, lu_ne, not_true_eq_false, not_false_eq_true, hN])
  refine ⟨(0, b, N, h), ⟨rfl, rfl, hN, wN⟩, fun v h' hq => ?_⟩
  obtain ⟨rfl, ⟨hb, rfl⟩ | ⟨hb, rfl⟩⟩ := hq
  · obtain ⟨k, hk, rfl⟩ := hb
    have hwk := hwh k hk
    conv => whnf
    repeat' (first
      | (refine ⟨fun c => ?_, fun c => ?_⟩ <;> (try simp (disch := omega) only [nI_leI, nI_ltI, nI_eq, nz_eq, nz_lt, nz_gt, nz_le, nz_ge, nz_00, nz_n1, nI_add, pk_mul, pk_sub, nI_shl1, nI_or, nI_half2, nI_min2, la_put_eq, la_up, lr_same, lr_ne, lu_same, lu_ne, not_true_eq_false, not_false_eq_true, hN] at c) <;> first | (exfalso; omega) | conv => whnf)
      | (refine ⟨_, rfl, by omega, ?_⟩; conv => whnf)
      | (refine ⟨_, rfl, rfl, rfl, by decide, by decide, ?_⟩; conv => whnf)
      | (refine ⟨_, by (simp (disch := omega) only [nI_leI, nI_ltI, nI_eq, nz_eq, nz_lt, nz_gt, nz_le, nz_ge, nz_00, nz_n1, nI_add, pk_mul, pk_sub, nI_shl1, nI_or, nI_half2, nI_min2, la_put_eq, la_up, lr_same, lr_ne, lu_same, lu_ne, not_true_eq_false, not_false_eq_true, hN]; rfl), by omega, ?_⟩; conv => whnf)
      | (refine And.intro (by first | assumption | decide) ?_; conv => whnf))
    all_goals (try simp (disch := omega) only [nI_leI, nI_ltI, nI_eq, nz_eq, nz_lt, nz_gt, nz_le, nz_ge, nz_00, nz_n1, nI_add, pk_mul, pk_sub, nI_shl1, nI_or, nI_half2, nI_min2, la_put_eq, la_up, lr_same, lr_ne, lu_same, lu_ne, not_true_eq_false, not_false_eq_true, hN])
    · refine ⟨(0, 3, k, v, 3, N, _), ⟨rfl, rfl, hN, by omega, by omega⟩, fun r h' hq => ?_⟩
      rcases hq with ⟨x, hx, rfl, rfl, rfl⟩ | ⟨hv, rfl, rfl⟩
      · conv => whnf
        repeat' (first
          | (refine ⟨fun c => ?_, fun c => ?_⟩ <;> (try simp (disch := omega) only [nI_leI, nI_ltI, nI_eq, nz_eq, nz_lt, nz_gt, nz_le, nz_ge, nz_00, nz_n1, nI_add, pk_mul, pk_sub, nI_shl1, nI_or, nI_half2, nI_min2, la_put_eq, la_up, lr_same, lr_ne, lu_same, lu_ne, not_true_eq_false, not_false_eq_true] at c) <;> first | (exfalso; omega) | conv => whnf)
          | (refine ⟨_, rfl, by omega, ?_⟩; conv => whnf)
          | (refine ⟨_, rfl, rfl, rfl, by decide, by decide, ?_⟩; conv => whnf)
          | (refine ⟨_, by (simp (disch := omega) only [nI_leI, nI_ltI, nI_eq, nz_eq, nz_lt, nz_gt, nz_le, nz_ge, nz_00, nz_n1, nI_add, pk_mul, pk_sub, nI_shl1, nI_or, nI_half2, nI_min2, la_put_eq, la_up, lr_same, lr_ne, lu_same, lu_ne, not_true_eq_false, not_false_eq_true]; rfl), by omega, ?_⟩; conv => whnf)
          | (refine And.intro (by first | assumption | decide) ?_; conv => whnf))
        all_goals (try simp (disch := omega) only [nI_leI, nI_ltI, nI_eq, nz_eq, nz_lt, nz_gt, nz_le, nz_ge, nz_00, nz_n1, nI_add, pk_mul, pk_sub, nI_shl1, nI_or, nI_half2, nI_min2, la_put_eq, la_up, lr_same, lr_ne, lu_same, lu_ne, not_true_eq_false, not_false_eq_true])
        refine hret _ _ ?_
        refine Or.inl ⟨3, k, x, ⟨hk, rfl, rfl, ?_⟩, rfl, rfl⟩
        first | exact Or.inl ⟨rfl, by assumption, by omega⟩ | exact Or.inr (Or.inl ⟨rfl, by assumption, by omega⟩) | exact Or.inr (Or.inr (Or.inl ⟨rfl, by assumption, by omega⟩)) | exact Or.inr (Or.inr (Or.inr ⟨rfl, by assumption, by omega⟩))
      · conv => whnf
        repeat' (first
          | (refine ⟨fun c => ?_, fun c => ?_⟩ <;> (try simp (disch := omega) only [nI_leI, nI_ltI, nI_eq, nz_eq, nz_lt, nz_gt, nz_le, nz_ge, nz_00, nz_n1, nI_add, pk_mul, pk_sub, nI_shl1, nI_or, nI_half2, nI_min2, la_put_eq, la_up, lr_same, lr_ne, lu_same, lu_ne, not_true_eq_false, not_false_eq_true] at c) <;> first | (exfalso; omega) | conv => whnf)
          | (refine ⟨_, rfl, by omega, ?_⟩; conv => whnf)
          | (refine ⟨_, rfl, rfl, rfl, by decide, by decide, ?_⟩; conv => whnf)
          | (refine ⟨_, by (simp (disch := omega) only [nI_leI, nI_ltI, nI_eq, nz_eq, nz_lt, nz_gt, nz_le, nz_ge, nz_00, nz_n1, nI_add, pk_mul, pk_sub, nI_shl1, nI_or, nI_half2, nI_min2, la_put_eq, la_up, lr_same, lr_ne, lu_same, lu_ne, not_true_eq_false, not_false_eq_true]; rfl), by omega, ?_⟩; conv => whnf)
          | (refine And.intro (by first | assumption | decide) ?_; conv => whnf))
        all_goals (try simp (disch := omega) only [nI_leI, nI_ltI, nI_eq, nz_eq, nz_lt, nz_gt, nz_le, nz_ge, nz_00, nz_n1, nI_add, pk_mul, pk_sub, nI_shl1, nI_or, nI_half2, nI_min2, la_put_eq, la_up, lr_same, lr_ne, lu_same, lu_ne, not_true_eq_false, not_false_eq_true])
        refine hret _ _ ?_
        refine Or.inr ⟨?_, rfl, rfl⟩
        rintro ⟨s', k', x, h1, h2, h3, h4⟩
        refine hv ⟨x, Nat.zero_le _, ?_, h3⟩
        have hwv : w = nI 0 := by assumption
        rcases h4 with ⟨_, q, hx⟩ | ⟨_, q, hx⟩ | ⟨_, q, hx⟩ | ⟨_, q, hx⟩ <;> (have q2 := ni_lit (by decide) (by decide) (hwv.symm.trans q); omega)
    · refine ⟨(0, 4, k, v, 9, N, _), ⟨rfl, rfl, hN, by omega, by omega⟩, fun r h' hq => ?_⟩
      rcases hq with ⟨x, hx, rfl, rfl, rfl⟩ | ⟨hv, rfl, rfl⟩
      · conv => whnf
        repeat' (first
          | (refine ⟨fun c => ?_, fun c => ?_⟩ <;> (try simp (disch := omega) only [nI_leI, nI_ltI, nI_eq, nz_eq, nz_lt, nz_gt, nz_le, nz_ge, nz_00, nz_n1, nI_add, pk_mul, pk_sub, nI_shl1, nI_or, nI_half2, nI_min2, la_put_eq, la_up, lr_same, lr_ne, lu_same, lu_ne, not_true_eq_false, not_false_eq_true] at c) <;> first | (exfalso; omega) | conv => whnf)
          | (refine ⟨_, rfl, by omega, ?_⟩; conv => whnf)
          | (refine ⟨_, rfl, rfl, rfl, by decide, by decide, ?_⟩; conv => whnf)
          | (refine ⟨_, by (simp (disch := omega) only [nI_leI, nI_ltI, nI_eq, nz_eq, nz_lt, nz_gt, nz_le, nz_ge, nz_00, nz_n1, nI_add, pk_mul, pk_sub, nI_shl1, nI_or, nI_half2, nI_min2, la_put_eq, la_up, lr_same, lr_ne, lu_same, lu_ne, not_true_eq_false, not_false_eq_true]; rfl), by omega, ?_⟩; conv => whnf)
          | (refine And.intro (by first | assumption | decide) ?_; conv => whnf))
        all_goals (try simp (disch := omega) only [nI_leI, nI_ltI, nI_eq, nz_eq, nz_lt, nz_gt, nz_le, nz_ge, nz_00, nz_n1, nI_add, pk_mul, pk_sub, nI_shl1, nI_or, nI_half2, nI_min2, la_put_eq, la_up, lr_same, lr_ne, lu_same, lu_ne, not_true_eq_false, not_false_eq_true])
        refine hret _ _ ?_
        refine Or.inl ⟨4, k, x, ⟨hk, rfl, rfl, ?_⟩, rfl, rfl⟩
        first | exact Or.inl ⟨rfl, by assumption, by omega⟩ | exact Or.inr (Or.inl ⟨rfl, by assumption, by omega⟩) | exact Or.inr (Or.inr (Or.inl ⟨rfl, by assumption, by omega⟩)) | exact Or.inr (Or.inr (Or.inr ⟨rfl, by assumption, by omega⟩))
      · conv => whnf
        repeat' (first
          | (refine ⟨fun c => ?_, fun c => ?_⟩ <;> (try simp (disch := omega) only [nI_leI, nI_ltI, nI_eq, nz_eq, nz_lt, nz_gt, nz_le, nz_ge, nz_00, nz_n1, nI_add, pk_mul, pk_sub, nI_shl1, nI_or, nI_half2, nI_min2, la_put_eq, la_up, lr_same, lr_ne, lu_same, lu_ne, not_true_eq_false, not_false_eq_true] at c) <;> first | (exfalso; omega) | conv => whnf)
          | (refine ⟨_, rfl, by omega, ?_⟩; conv => whnf)
          | (refine ⟨_, rfl, rfl, rfl, by decide, by decide, ?_⟩; conv => whnf)
          | (refine ⟨_, by (simp (disch := omega) only [nI_leI, nI_ltI, nI_eq, nz_eq, nz_lt, nz_gt, nz_le, nz_ge, nz_00, nz_n1, nI_add, pk_mul, pk_sub, nI_shl1, nI_or, nI_half2, nI_min2, la_put_eq, la_up, lr_same, lr_ne, lu_same, lu_ne, not_true_eq_false, not_false_eq_true]; rfl), by omega, ?_⟩; conv => whnf)
          | (refine And.intro (by first | assumption | decide) ?_; conv => whnf))
        all_goals (try simp (disch := omega) only [nI_leI, nI_ltI, nI_eq, nz_eq, nz_lt, nz_gt, nz_le, nz_ge, nz_00, nz_n1, nI_add, pk_mul, pk_sub, nI_shl1, nI_or, nI_half2, nI_min2, la_put_eq, la_up, lr_same, lr_ne, lu_same, lu_ne, not_true_eq_false, not_false_eq_true])
        refine hret _ _ ?_
        refine Or.inr ⟨?_, rfl, rfl⟩
        rintro ⟨s', k', x, h1, h2, h3, h4⟩
        refine hv ⟨x, Nat.zero_le _, ?_, h3⟩
        have hwv : w = nI 1 := by assumption
        rcases h4 with ⟨_, q, hx⟩ | ⟨_, q, hx⟩ | ⟨_, q, hx⟩ | ⟨_, q, hx⟩ <;> (have q2 := ni_lit (by decide) (by decide) (hwv.symm.trans q); omega)
    · refine ⟨(0, 5, k, v, 99, N, _), ⟨rfl, rfl, hN, by omega, by omega⟩, fun r h' hq => ?_⟩
      rcases hq with ⟨x, hx, rfl, rfl, rfl⟩ | ⟨hv, rfl, rfl⟩
      · conv => whnf
        repeat' (first
          | (refine ⟨fun c => ?_, fun c => ?_⟩ <;> (try simp (disch := omega) only [nI_leI, nI_ltI, nI_eq, nz_eq, nz_lt, nz_gt, nz_le, nz_ge, nz_00, nz_n1, nI_add, pk_mul, pk_sub, nI_shl1, nI_or, nI_half2, nI_min2, la_put_eq, la_up, lr_same, lr_ne, lu_same, lu_ne, not_true_eq_false, not_false_eq_true] at c) <;> first | (exfalso; omega) | conv => whnf)
          | (refine ⟨_, rfl, by omega, ?_⟩; conv => whnf)
          | (refine ⟨_, rfl, rfl, rfl, by decide, by decide, ?_⟩; conv => whnf)
          | (refine ⟨_, by (simp (disch := omega) only [nI_leI, nI_ltI, nI_eq, nz_eq, nz_lt, nz_gt, nz_le, nz_ge, nz_00, nz_n1, nI_add, pk_mul, pk_sub, nI_shl1, nI_or, nI_half2, nI_min2, la_put_eq, la_up, lr_same, lr_ne, lu_same, lu_ne, not_true_eq_false, not_false_eq_true]; rfl), by omega, ?_⟩; conv => whnf)
          | (refine And.intro (by first | assumption | decide) ?_; conv => whnf))
        all_goals (try simp (disch := omega) only [nI_leI, nI_ltI, nI_eq, nz_eq, nz_lt, nz_gt, nz_le, nz_ge, nz_00, nz_n1, nI_add, pk_mul, pk_sub, nI_shl1, nI_or, nI_half2, nI_min2, la_put_eq, la_up, lr_same, lr_ne, lu_same, lu_ne, not_true_eq_false, not_false_eq_true])
        refine hret _ _ ?_
        refine Or.inl ⟨5, k, x, ⟨hk, rfl, rfl, ?_⟩, rfl, rfl⟩
        first | exact Or.inl ⟨rfl, by assumption, by omega⟩ | exact Or.inr (Or.inl ⟨rfl, by assumption, by omega⟩) | exact Or.inr (Or.inr (Or.inl ⟨rfl, by assumption, by omega⟩)) | exact Or.inr (Or.inr (Or.inr ⟨rfl, by assumption, by omega⟩))
      · conv => whnf
        repeat' (first
          | (refine ⟨fun c => ?_, fun c => ?_⟩ <;> (try simp (disch := omega) only [nI_leI, nI_ltI, nI_eq, nz_eq, nz_lt, nz_gt, nz_le, nz_ge, nz_00, nz_n1, nI_add, pk_mul, pk_sub, nI_shl1, nI_or, nI_half2, nI_min2, la_put_eq, la_up, lr_same, lr_ne, lu_same, lu_ne, not_true_eq_false, not_false_eq_true] at c) <;> first | (exfalso; omega) | conv => whnf)
          | (refine ⟨_, rfl, by omega, ?_⟩; conv => whnf)
          | (refine ⟨_, rfl, rfl, rfl, by decide, by decide, ?_⟩; conv => whnf)
          | (refine ⟨_, by (simp (disch := omega) only [nI_leI, nI_ltI, nI_eq, nz_eq, nz_lt, nz_gt, nz_le, nz_ge, nz_00, nz_n1, nI_add, pk_mul, pk_sub, nI_shl1, nI_or, nI_half2, nI_min2, la_put_eq, la_up, lr_same, lr_ne, lu_same, lu_ne, not_true_eq_false, not_false_eq_true]; rfl), by omega, ?_⟩; conv => whnf)
          | (refine And.intro (by first | assumption | decide) ?_; conv => whnf))
        all_goals (try simp (disch := omega) only [nI_leI, nI_ltI, nI_eq, nz_eq, nz_lt, nz_gt, nz_le, nz_ge, nz_00, nz_n1, nI_add, pk_mul, pk_sub, nI_shl1, nI_or, nI_half2, nI_min2, la_put_eq, la_up, lr_same, lr_ne, lu_same, lu_ne, not_true_eq_false, not_false_eq_true])
        refine hret _ _ ?_
        refine Or.inr ⟨?_, rfl, rfl⟩
        rintro ⟨s', k', x, h1, h2, h3, h4⟩
        refine hv ⟨x, Nat.zero_le _, ?_, h3⟩
        have hwv : w = nI 2 := by assumption
        rcases h4 with ⟨_, q, hx⟩ | ⟨_, q, hx⟩ | ⟨_, q, hx⟩ | ⟨_, q, hx⟩ <;> (have q2 := ni_lit (by decide) (by decide) (hwv.symm.trans q); omega)
    · refine ⟨(0, 6, k, v, (N 0 0 - 1), N, _), ⟨rfl, rfl, hN, by omega, by omega⟩, fun r h' hq => ?_⟩
      rcases hq with ⟨x, hx, rfl, rfl, rfl⟩ | ⟨hv, rfl, rfl⟩
      · conv => whnf
        repeat' (first
          | (refine ⟨fun c => ?_, fun c => ?_⟩ <;> (try simp (disch := omega) only [nI_leI, nI_ltI, nI_eq, nz_eq, nz_lt, nz_gt, nz_le, nz_ge, nz_00, nz_n1, nI_add, pk_mul, pk_sub, nI_shl1, nI_or, nI_half2, nI_min2, la_put_eq, la_up, lr_same, lr_ne, lu_same, lu_ne, not_true_eq_false, not_false_eq_true] at c) <;> first | (exfalso; omega) | conv => whnf)
          | (refine ⟨_, rfl, by omega, ?_⟩; conv => whnf)
          | (refine ⟨_, rfl, rfl, rfl, by decide, by decide, ?_⟩; conv => whnf)
          | (refine ⟨_, by (simp (disch := omega) only [nI_leI, nI_ltI, nI_eq, nz_eq, nz_lt, nz_gt, nz_le, nz_ge, nz_00, nz_n1, nI_add, pk_mul, pk_sub, nI_shl1, nI_or, nI_half2, nI_min2, la_put_eq, la_up, lr_same, lr_ne, lu_same, lu_ne, not_true_eq_false, not_false_eq_true]; rfl), by omega, ?_⟩; conv => whnf)
          | (refine And.intro (by first | assumption | decide) ?_; conv => whnf))
        all_goals (try simp (disch := omega) only [nI_leI, nI_ltI, nI_eq, nz_eq, nz_lt, nz_gt, nz_le, nz_ge, nz_00, nz_n1, nI_add, pk_mul, pk_sub, nI_shl1, nI_or, nI_half2, nI_min2, la_put_eq, la_up, lr_same, lr_ne, lu_same, lu_ne, not_true_eq_false, not_false_eq_true])
        refine hret _ _ ?_
        refine Or.inl ⟨6, k, x, ⟨hk, rfl, rfl, ?_⟩, rfl, rfl⟩
        first | exact Or.inl ⟨rfl, by assumption, by omega⟩ | exact Or.inr (Or.inl ⟨rfl, by assumption, by omega⟩) | exact Or.inr (Or.inr (Or.inl ⟨rfl, by assumption, by omega⟩)) | exact Or.inr (Or.inr (Or.inr ⟨rfl, by assumption, by omega⟩))
      · conv => whnf
        repeat' (first
          | (refine ⟨fun c => ?_, fun c => ?_⟩ <;> (try simp (disch := omega) only [nI_leI, nI_ltI, nI_eq, nz_eq, nz_lt, nz_gt, nz_le, nz_ge, nz_00, nz_n1, nI_add, pk_mul, pk_sub, nI_shl1, nI_or, nI_half2, nI_min2, la_put_eq, la_up, lr_same, lr_ne, lu_same, lu_ne, not_true_eq_false, not_false_eq_true] at c) <;> first | (exfalso; omega) | conv => whnf)
          | (refine ⟨_, rfl, by omega, ?_⟩; conv => whnf)
          | (refine ⟨_, rfl, rfl, rfl, by decide, by decide, ?_⟩; conv => whnf)
          | (refine ⟨_, by (simp (disch := omega) only [nI_leI, nI_ltI, nI_eq, nz_eq, nz_lt, nz_gt, nz_le, nz_ge, nz_00, nz_n1, nI_add, pk_mul, pk_sub, nI_shl1, nI_or, nI_half2, nI_min2, la_put_eq, la_up, lr_same, lr_ne, lu_same, lu_ne, not_true_eq_false, not_false_eq_true]; rfl), by omega, ?_⟩; conv => whnf)
          | (refine And.intro (by first | assumption | decide) ?_; conv => whnf))
        all_goals (try simp (disch := omega) only [nI_leI, nI_ltI, nI_eq, nz_eq, nz_lt, nz_gt, nz_le, nz_ge, nz_00, nz_n1, nI_add, pk_mul, pk_sub, nI_shl1, nI_or, nI_half2, nI_min2, la_put_eq, la_up, lr_same, lr_ne, lu_same, lu_ne, not_true_eq_false, not_false_eq_true])
        refine hret _ _ ?_
        refine Or.inr ⟨?_, rfl, rfl⟩
        rintro ⟨s', k', x, h1, h2, h3, h4⟩
        refine hv ⟨x, Nat.zero_le _, ?_, h3⟩
        have hwv : w = nI 3 := by assumption
        rcases h4 with ⟨_, q, hx⟩ | ⟨_, q, hx⟩ | ⟨_, q, hx⟩ | ⟨_, q, hx⟩ <;> (have q2 := ni_lit (by decide) (by decide) (hwv.symm.trans q); omega)
    · refine hret _ _ ?_
      refine Or.inr ⟨?_, rfl, rfl⟩
      rintro ⟨s, k', x, h1, h2, h3, h4⟩
      rcases h4 with ⟨_, q, _⟩ | ⟨_, q, _⟩ | ⟨_, q, _⟩ | ⟨_, q, _⟩ <;> contradiction
  · conv => whnf
    repeat' (first
      | (refine ⟨fun c => ?_, fun c => ?_⟩ <;> (try simp (disch := omega) only [nI_leI, nI_ltI, nI_eq, nz_eq, nz_lt, nz_gt, nz_le, nz_ge, nz_00, nz_n1, nI_add, pk_mul, pk_sub, nI_shl1, nI_or, nI_half2, nI_min2, la_put_eq, la_up, lr_same, lr_ne, lu_same, lu_ne, not_true_eq_false, not_false_eq_true, hN] at c) <;> first | (exfalso; omega) | conv => whnf)
      | (refine ⟨_, rfl, by omega, ?_⟩; conv => whnf)
      | (refine ⟨_, rfl, rfl, rfl, by decide, by decide, ?_⟩; conv => whnf)
      | (refine ⟨_, by (simp (disch := omega) only [nI_leI, nI_ltI, nI_eq, nz_eq, nz_lt, nz_gt, nz_le, nz_ge, nz_00, nz_n1, nI_add, pk_mul, pk_sub, nI_shl1, nI_or, nI_half2, nI_min2, la_put_eq, la_up, lr_same, lr_ne, lu_same, lu_ne, not_true_eq_false, not_false_eq_true, hN]; rfl), by omega, ?_⟩; conv => whnf)
      | (refine And.intro (by first | assumption | decide) ?_; conv => whnf))
    all_goals (try simp (disch := omega) only [nI_leI, nI_ltI, nI_eq, nz_eq, nz_lt, nz_gt, nz_le, nz_ge, nz_00, nz_n1, nI_add, pk_mul, pk_sub, nI_shl1, nI_or, nI_half2, nI_min2, la_put_eq, la_up, lr_same, lr_ne, lu_same, lu_ne, not_true_eq_false, not_false_eq_true, hN])
    refine hret _ _ ?_
    exact Or.inr ⟨fun ⟨s, k, x, h1, h2, _⟩ => hb ⟨k, h1, h2⟩, rfl, rfl⟩
theorem M_X4_alter : pm_MT yX4_alter cX4_alter 4 1 3 P_X4_alter (pm_pi Q_X4_alter) := pm_met k_X4_alter (by decide) rfl (by
  rintro ⟨g0, g1, g2, g3, g4⟩ av h hp
  rw [hp.1]
  exact Nat.le_of_ble_eq_true rfl) pf_X4_alter
theorem rc_X4_alter : ∀ g av h, P_X4_alter g av h → ∃ i t, av = .inr (.inr (4, i, 0)) :: t := by
  rintro ⟨g0, g1, g2, g3, g4⟩ av h hp
  exact ⟨_, _, hp.1⟩
def P_X4_diet : Int32 × Int32 × LD × pm_H → List pm_V → pm_H → Prop := fun g av h => match g with
  | (f, v, N, h0) => av = [vR 4 0 0, vI f, vI v] ∧ h = h0 ∧ la_at h0 0 N ∧ la_ok N
def Q_X4_diet : Int32 × Int32 × LD × pm_H → Int32 → pm_H → Prop := fun g r h => match g with
  | (f, v, N, h0) => (∃ k x, k < N 0 0 ∧ x ≤ 9 ∧ f = nI k ∧ v = nI x ∧ r = nI (N 1 k) ∧ h = la_put h0 0 (lu N 1 k x)) ∨ (¬ (ixI f (N 0 0) ∧ wi v 0 9) ∧ r = -1 ∧ h = h0)
def T_X4_diet : List (Nat × pm_T) := [
  (0, i_al 0 1),
  (1, i_gr 4 (fun _ => (0, 0, 0)) 4),
  (4, i_il 1 5),
  (5, i_ci 2 P_X0_hasFellow Q_X0_hasFellow 8),
  (8, i_ifne 13 11),
  (11, i_c (-1) 12),
  (12, i_ir),
  (13, i_al 0 14),
  (14, i_gr 4 (fun _ => (0, 0, 0)) 17),
  (17, i_gr 0 (fun i => (0, i, 1)) 20),
  (20, i_il 1 21),
  (21, i_il 2 22),
  (22, i_c (nI 9) 24),
  (24, i_ci 4 P_X4_put Q_X4_put 27),
  (27, i_ir)]
theorem k_X4_diet : ∀ q ∈ T_X4_diet, pm_sd RX4 cX4_diet 3 3 1 q.1 q.2 := by
  unfold T_X4_diet
  refine pm_cn (sd_aln (k := 0) (by decide +kernel) rfl rfl) ?_
  refine pm_cn (sd_gr cl4_ in4_ (j := 1) (by decide) (fun _ => rfl) fl_X4_19 (by decide +kernel) rfl) ?_
  refine pm_cn (sd_iln (k := 1) (by decide +kernel) rfl rfl) ?_
  refine pm_cn (sd_civ M_X0_hasFellow (by decide) cd_X0_hasFellow rc_X0_hasFellow cl0_ ml_X4_111 im_X0_hasFellow se_X0_hasFellow nt_X0 (by decide +kernel) (by omega) (by decide) (by decide +kernel) rfl) ?_
  refine pm_cn (sd_ifne (off := 5) (by decide +kernel) (by decide) rfl) ?_
  refine pm_cn (sd_iconst (z := -1) (by decide +kernel) (by decide +kernel) rfl) ?_
  refine pm_cn (sd_ir (by decide +kernel)) ?_
  refine pm_cn (sd_aln (k := 0) (by decide +kernel) rfl rfl) ?_
  refine pm_cn (sd_gr cl4_ in4_ (j := 1) (by decide) (fun _ => rfl) fl_X4_19 (by decide +kernel) rfl) ?_
  refine pm_cn (sd_gr cl0_ in0_ (j := 1) (by decide) (fun _ => rfl) fl_X4_115 (by decide +kernel) rfl) ?_
  refine pm_cn (sd_iln (k := 1) (by decide +kernel) rfl rfl) ?_
  refine pm_cn (sd_iln (k := 2) (by decide +kernel) rfl rfl) ?_
  refine pm_cn (sd_bipush (z := 9) (by decide +kernel) (by decide +kernel) rfl) ?_
  refine pm_cn (sd_cis M_X4_put (by decide) cd_X4_put ml_X4_164 st_X4_put nt_X4 (by decide +kernel) (by omega) (by decide) (by decide +kernel) rfl) ?_
  refine pm_cn (sd_ir (by decide +kernel)) ?_
  exact fun _ h => absurd h List.not_mem_nil
set_option maxHeartbeats 4000000 in
set_option maxRecDepth 100000 in
theorem pf_X4_diet : pm_pf T_X4_diet P_X4_diet (pm_pi Q_X4_diet) := by
  rintro ⟨f, v, N, h0⟩ av h K hK ⟨rfl, rfl, hN, wN⟩ hret
  have w1 := wN.1
  show K (some 0) ([(0, vR 4 0 0), (1, vI f), (2, vI v)], [], h)
  refine hK [] 60 _ _ ?_
  conv => whnf
  repeat' (first
    | (refine ⟨fun c => ?_, fun c => ?_⟩ <;> (try simp (disch := omega) only [nI_leI, nI_ltI, nI_eq, nz_eq, nz_lt, nz_gt, nz_le, nz_ge, nz_00, nz_n1, nI_add, pk_mul, pk_sub, nI_shl1, nI_or, nI_half2, nI_min2, la_put_eq, la_up, lr_same, lr_ne, lu_same, lu_ne, not_true_eq_false, not_false_eq_true, hN] at c) <;> first | (exfalso; omega) | conv => whnf)
    | (refine ⟨_, rfl, by omega, ?_⟩; conv => whnf)
    | (refine ⟨_, rfl, rfl, rfl, by decide, by decide, ?_⟩; conv => whnf)
    | (refine ⟨_, by (simp (disch := omega) only [nI_leI, nI_ltI, nI_eq, nz_eq, nz_lt, nz_gt, nz_le, nz_ge, nz_00, nz_n1, nI_add, pk_mul, pk_sub, nI_shl1, nI_or, nI_half2, nI_min2, la_put_eq, la_up, lr_same, lr_ne, lu_same, lu_ne, not_true_eq_false, not_false_eq_true, hN]; rfl), by omega, ?_⟩; conv => whnf)
    | (refine And.intro (by first | assumption | decide) ?_; conv => whnf))
  all_goals (try simp (disch := omega) only [nI_leI, nI_ltI, nI_eq, nz_eq, nz_lt, nz_gt, nz_le, nz_ge, nz_00, nz_n1, nI_add, pk_mul, pk_sub, nI_shl1, nI_or, nI_half2, nI_min2, la_put_eq, la_up, lr_same, lr_ne, lu_same, lu_ne, not_true_eq_false, not_false_eq_true, hN])
  refine ⟨(0, f, N, h), ⟨rfl, rfl, hN, wN⟩, fun v h' hq => ?_⟩
  obtain ⟨rfl, ⟨hb, rfl⟩ | ⟨hb, rfl⟩⟩ := hq
  · obtain ⟨k, hk, rfl⟩ := hb
    conv => whnf
    repeat' (first
      | (refine ⟨fun c => ?_, fun c => ?_⟩ <;> (try simp (disch := omega) only [nI_leI, nI_ltI, nI_eq, nz_eq, nz_lt, nz_gt, nz_le, nz_ge, nz_00, nz_n1, nI_add, pk_mul, pk_sub, nI_shl1, nI_or, nI_half2, nI_min2, la_put_eq, la_up, lr_same, lr_ne, lu_same, lu_ne, not_true_eq_false, not_false_eq_true, hN] at c) <;> first | (exfalso; omega) | conv => whnf)
      | (refine ⟨_, rfl, by omega, ?_⟩; conv => whnf)
      | (refine ⟨_, rfl, rfl, rfl, by decide, by decide, ?_⟩; conv => whnf)
      | (refine ⟨_, by (simp (disch := omega) only [nI_leI, nI_ltI, nI_eq, nz_eq, nz_lt, nz_gt, nz_le, nz_ge, nz_00, nz_n1, nI_add, pk_mul, pk_sub, nI_shl1, nI_or, nI_half2, nI_min2, la_put_eq, la_up, lr_same, lr_ne, lu_same, lu_ne, not_true_eq_false, not_false_eq_true, hN]; rfl), by omega, ?_⟩; conv => whnf)
      | (refine And.intro (by first | assumption | decide) ?_; conv => whnf))
    all_goals (try simp (disch := omega) only [nI_leI, nI_ltI, nI_eq, nz_eq, nz_lt, nz_gt, nz_le, nz_ge, nz_00, nz_n1, nI_add, pk_mul, pk_sub, nI_shl1, nI_or, nI_half2, nI_min2, la_put_eq, la_up, lr_same, lr_ne, lu_same, lu_ne, not_true_eq_false, not_false_eq_true, hN])
    refine ⟨(0, 1, k, v, 9, N, _), ⟨rfl, rfl, hN, by decide, by omega⟩, fun r h' hq => ?_⟩
    rcases hq with ⟨x, hx, rfl, rfl, rfl⟩ | ⟨hv, rfl, rfl⟩
    · conv => whnf
      repeat' (first
        | (refine ⟨fun c => ?_, fun c => ?_⟩ <;> (try simp (disch := omega) only [nI_leI, nI_ltI, nI_eq, nz_eq, nz_lt, nz_gt, nz_le, nz_ge, nz_00, nz_n1, nI_add, pk_mul, pk_sub, nI_shl1, nI_or, nI_half2, nI_min2, la_put_eq, la_up, lr_same, lr_ne, lu_same, lu_ne, not_true_eq_false, not_false_eq_true] at c) <;> first | (exfalso; omega) | conv => whnf)
        | (refine ⟨_, rfl, by omega, ?_⟩; conv => whnf)
        | (refine ⟨_, rfl, rfl, rfl, by decide, by decide, ?_⟩; conv => whnf)
        | (refine ⟨_, by (simp (disch := omega) only [nI_leI, nI_ltI, nI_eq, nz_eq, nz_lt, nz_gt, nz_le, nz_ge, nz_00, nz_n1, nI_add, pk_mul, pk_sub, nI_shl1, nI_or, nI_half2, nI_min2, la_put_eq, la_up, lr_same, lr_ne, lu_same, lu_ne, not_true_eq_false, not_false_eq_true]; rfl), by omega, ?_⟩; conv => whnf)
        | (refine And.intro (by first | assumption | decide) ?_; conv => whnf))
      all_goals (try simp (disch := omega) only [nI_leI, nI_ltI, nI_eq, nz_eq, nz_lt, nz_gt, nz_le, nz_ge, nz_00, nz_n1, nI_add, pk_mul, pk_sub, nI_shl1, nI_or, nI_half2, nI_min2, la_put_eq, la_up, lr_same, lr_ne, lu_same, lu_ne, not_true_eq_false, not_false_eq_true])
      refine hret _ _ ?_
      exact Or.inl ⟨k, x, hk, hx, rfl, rfl, rfl, rfl⟩
    · conv => whnf
      repeat' (first
        | (refine ⟨fun c => ?_, fun c => ?_⟩ <;> (try simp (disch := omega) only [nI_leI, nI_ltI, nI_eq, nz_eq, nz_lt, nz_gt, nz_le, nz_ge, nz_00, nz_n1, nI_add, pk_mul, pk_sub, nI_shl1, nI_or, nI_half2, nI_min2, la_put_eq, la_up, lr_same, lr_ne, lu_same, lu_ne, not_true_eq_false, not_false_eq_true] at c) <;> first | (exfalso; omega) | conv => whnf)
        | (refine ⟨_, rfl, by omega, ?_⟩; conv => whnf)
        | (refine ⟨_, rfl, rfl, rfl, by decide, by decide, ?_⟩; conv => whnf)
        | (refine ⟨_, by (simp (disch := omega) only [nI_leI, nI_ltI, nI_eq, nz_eq, nz_lt, nz_gt, nz_le, nz_ge, nz_00, nz_n1, nI_add, pk_mul, pk_sub, nI_shl1, nI_or, nI_half2, nI_min2, la_put_eq, la_up, lr_same, lr_ne, lu_same, lu_ne, not_true_eq_false, not_false_eq_true]; rfl), by omega, ?_⟩; conv => whnf)
        | (refine And.intro (by first | assumption | decide) ?_; conv => whnf))
      all_goals (try simp (disch := omega) only [nI_leI, nI_ltI, nI_eq, nz_eq, nz_lt, nz_gt, nz_le, nz_ge, nz_00, nz_n1, nI_add, pk_mul, pk_sub, nI_shl1, nI_or, nI_half2, nI_min2, la_put_eq, la_up, lr_same, lr_ne, lu_same, lu_ne, not_true_eq_false, not_false_eq_true])
      refine hret _ _ ?_
      exact Or.inr ⟨fun q => hv q.2, rfl, rfl⟩
  · conv => whnf
    repeat' (first
      | (refine ⟨fun c => ?_, fun c => ?_⟩ <;> (try simp (disch := omega) only [nI_leI, nI_ltI, nI_eq, nz_eq, nz_lt, nz_gt, nz_le, nz_ge, nz_00, nz_n1, nI_add, pk_mul, pk_sub, nI_shl1, nI_or, nI_half2, nI_min2, la_put_eq, la_up, lr_same, lr_ne, lu_same, lu_ne, not_true_eq_false, not_false_eq_true, hN] at c) <;> first | (exfalso; omega) | conv => whnf)
      | (refine ⟨_, rfl, by omega, ?_⟩; conv => whnf)
      | (refine ⟨_, rfl, rfl, rfl, by decide, by decide, ?_⟩; conv => whnf)
      | (refine ⟨_, by (simp (disch := omega) only [nI_leI, nI_ltI, nI_eq, nz_eq, nz_lt, nz_gt, nz_le, nz_ge, nz_00, nz_n1, nI_add, pk_mul, pk_sub, nI_shl1, nI_or, nI_half2, nI_min2, la_put_eq, la_up, lr_same, lr_ne, lu_same, lu_ne, not_true_eq_false, not_false_eq_true, hN]; rfl), by omega, ?_⟩; conv => whnf)
      | (refine And.intro (by first | assumption | decide) ?_; conv => whnf))
    all_goals (try simp (disch := omega) only [nI_leI, nI_ltI, nI_eq, nz_eq, nz_lt, nz_gt, nz_le, nz_ge, nz_00, nz_n1, nI_add, pk_mul, pk_sub, nI_shl1, nI_or, nI_half2, nI_min2, la_put_eq, la_up, lr_same, lr_ne, lu_same, lu_ne, not_true_eq_false, not_false_eq_true, hN])
    refine hret _ _ ?_
    exact Or.inr ⟨fun q => hb q.1, rfl, rfl⟩
theorem M_X4_diet : pm_MT yX4_diet cX4_diet 3 1 3 P_X4_diet (pm_pi Q_X4_diet) := pm_met k_X4_diet (by decide) rfl (by
  rintro ⟨g0, g1, g2, g3⟩ av h hp
  rw [hp.1]
  exact Nat.le_of_ble_eq_true rfl) pf_X4_diet
theorem rc_X4_diet : ∀ g av h, P_X4_diet g av h → ∃ i t, av = .inr (.inr (4, i, 0)) :: t := by
  rintro ⟨g0, g1, g2, g3⟩ av h hp
  exact ⟨_, _, hp.1⟩
