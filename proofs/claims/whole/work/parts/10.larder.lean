/-! Larder: its methods that only look. -/
def P_X0_hasFellow : Nat × Int32 × LD × pm_H → List pm_V → pm_H → Prop := fun g av h => match g with
  | (i, f, L, h0) => av = [vR 0 i 0, vI f] ∧ h = h0 ∧ la_at h0 i L ∧ la_ok L
def Q_X0_hasFellow : Nat × Int32 × LD × pm_H → Int32 → pm_H → Prop := fun g v h => match g with
  | (i, f, L, h0) => h = h0 ∧ ((ixI f (L 0 0) ∧ v = nI 1) ∨ (¬ ixI f (L 0 0) ∧ v = nI 0))
def T_X0_hasFellow : List (Nat × pm_T) := [
  (0, i_il 1 1),
  (1, i_iflt 16 4),
  (4, i_il 1 5),
  (5, i_al 0 6),
  (6, i_gi 0 0 9),
  (9, i_icge 16 12),
  (12, i_c (nI 1) 13),
  (13, i_go 17),
  (16, i_c (nI 0) 17),
  (17, i_zr)]
theorem k_X0_hasFellow : ∀ q ∈ T_X0_hasFellow, pm_sd RX0 cX0_hasFellow 2 1 3 q.1 q.2 := by
  unfold T_X0_hasFellow
  refine pm_cn (sd_iln (k := 1) (by decide +kernel) rfl rfl) ?_
  refine pm_cn (sd_iflt (off := 15) (by decide +kernel) (by decide) rfl) ?_
  refine pm_cn (sd_iln (k := 1) (by decide +kernel) rfl rfl) ?_
  refine pm_cn (sd_aln (k := 0) (by decide +kernel) rfl rfl) ?_
  refine pm_cn (sd_gi cl0_ in0_ (by decide) (fun _ => rfl) fl_X0_43 (by decide +kernel) rfl) ?_
  refine pm_cn (sd_icge (off := 7) (by decide +kernel) (by decide) rfl) ?_
  refine pm_cn (sd_iconst (z := 1) (by decide +kernel) (by decide +kernel) rfl) ?_
  refine pm_cn (sd_go (off := 4) (by decide +kernel) (by decide)) ?_
  refine pm_cn (sd_iconst (z := 0) (by decide +kernel) (by decide +kernel) rfl) ?_
  refine pm_cn (sd_zr (by decide +kernel)) ?_
  exact fun _ h => absurd h List.not_mem_nil
set_option maxHeartbeats 4000000 in
set_option maxRecDepth 100000 in
theorem pf_X0_hasFellow : pm_pf T_X0_hasFellow P_X0_hasFellow (pm_pi Q_X0_hasFellow) := by
  rintro ⟨i, f, L, h0⟩ av h K hK ⟨rfl, rfl, hL, hw⟩ hret
  show K (some 0) ([(0, vR 0 i 0), (1, vI f)], [], h)
  have hb : L 0 0 < 2 ^ 31 := by have := hw.1; omega
  refine hK [] 20 _ _ ?_
  conv => whnf
  repeat' (first
    | (refine ⟨fun c => ?_, fun c => ?_⟩ <;> (try simp (disch := omega) only [nI_leI, nI_ltI, nI_eq, nz_eq, nz_lt, nz_gt, nz_le, nz_ge, nz_00, nz_10, nz_n1, nI_add, pk_mul, pk_sub, nI_shl1, nI_or, nI_half2, nI_min2, la_put_eq, la_up, lr_same, lr_ne, lu_same, lu_ne, hL] at c) <;> first | (exfalso; omega) | conv => whnf)
    | (refine ⟨_, rfl, by omega, ?_⟩; conv => whnf)
    | (refine And.intro (by decide) ?_; conv => whnf))
  all_goals (try simp (disch := omega) only [nI_leI, nI_ltI, nI_eq, nz_eq, nz_lt, nz_gt, nz_le, nz_ge, nz_00, nz_10, nz_n1, nI_add, pk_mul, pk_sub, nI_shl1, nI_or, nI_half2, nI_min2, la_put_eq, la_up, lr_same, lr_ne, lu_same, lu_ne, hL])
  · exact hret _ _ ⟨rfl, Or.inr ⟨ixI_no0 hb (by assumption), rfl⟩⟩
  · exact hret _ _ ⟨rfl, Or.inr ⟨ixI_no1 hb (by assumption), rfl⟩⟩
  · exact hret _ _ ⟨rfl, Or.inl ⟨ixI_of hb (by assumption) (by assumption), rfl⟩⟩
theorem M_X0_hasFellow : pm_MT yX0_hasFellow cX0_hasFellow 2 3 1 P_X0_hasFellow (pm_pi Q_X0_hasFellow) := pm_met k_X0_hasFellow (by decide) rfl (by
  rintro ⟨g0, g1, g2, g3⟩ av h hp
  rw [hp.1]
  exact Nat.le_of_ble_eq_true rfl) pf_X0_hasFellow
theorem rc_X0_hasFellow : ∀ g av h, P_X0_hasFellow g av h → ∃ i t, av = .inr (.inr (0, i, 0)) :: t := by
  rintro ⟨g0, g1, g2, g3⟩ av h hp
  exact ⟨_, _, hp.1⟩
def P_X0_hasBiscuit : Nat × Int32 × LD × pm_H → List pm_V → pm_H → Prop := fun g av h => match g with
  | (i, f, L, h0) => av = [vR 0 i 0, vI f] ∧ h = h0 ∧ la_at h0 i L ∧ la_ok L
def Q_X0_hasBiscuit : Nat × Int32 × LD × pm_H → Int32 → pm_H → Prop := fun g v h => match g with
  | (i, f, L, h0) => h = h0 ∧ ((ixI f (L 0 3) ∧ v = nI 1) ∨ (¬ ixI f (L 0 3) ∧ v = nI 0))
def T_X0_hasBiscuit : List (Nat × pm_T) := [
  (0, i_il 1 1),
  (1, i_iflt 16 4),
  (4, i_il 1 5),
  (5, i_al 0 6),
  (6, i_gi 0 3 9),
  (9, i_icge 16 12),
  (12, i_c (nI 1) 13),
  (13, i_go 17),
  (16, i_c (nI 0) 17),
  (17, i_zr)]
theorem k_X0_hasBiscuit : ∀ q ∈ T_X0_hasBiscuit, pm_sd RX0 cX0_hasBiscuit 2 1 3 q.1 q.2 := by
  unfold T_X0_hasBiscuit
  refine pm_cn (sd_iln (k := 1) (by decide +kernel) rfl rfl) ?_
  refine pm_cn (sd_iflt (off := 15) (by decide +kernel) (by decide) rfl) ?_
  refine pm_cn (sd_iln (k := 1) (by decide +kernel) rfl rfl) ?_
  refine pm_cn (sd_aln (k := 0) (by decide +kernel) rfl rfl) ?_
  refine pm_cn (sd_gi cl0_ in0_ (by decide) (fun _ => rfl) fl_X0_46 (by decide +kernel) rfl) ?_
  refine pm_cn (sd_icge (off := 7) (by decide +kernel) (by decide) rfl) ?_
  refine pm_cn (sd_iconst (z := 1) (by decide +kernel) (by decide +kernel) rfl) ?_
  refine pm_cn (sd_go (off := 4) (by decide +kernel) (by decide)) ?_
  refine pm_cn (sd_iconst (z := 0) (by decide +kernel) (by decide +kernel) rfl) ?_
  refine pm_cn (sd_zr (by decide +kernel)) ?_
  exact fun _ h => absurd h List.not_mem_nil
set_option maxHeartbeats 4000000 in
set_option maxRecDepth 100000 in
theorem pf_X0_hasBiscuit : pm_pf T_X0_hasBiscuit P_X0_hasBiscuit (pm_pi Q_X0_hasBiscuit) := by
  rintro ⟨i, f, L, h0⟩ av h K hK ⟨rfl, rfl, hL, hw⟩ hret
  show K (some 0) ([(0, vR 0 i 0), (1, vI f)], [], h)
  have hb : L 0 3 < 2 ^ 31 := by have := hw.2.1; omega
  refine hK [] 20 _ _ ?_
  conv => whnf
  repeat' (first
    | (refine ⟨fun c => ?_, fun c => ?_⟩ <;> (try simp (disch := omega) only [nI_leI, nI_ltI, nI_eq, nz_eq, nz_lt, nz_gt, nz_le, nz_ge, nz_00, nz_10, nz_n1, nI_add, pk_mul, pk_sub, nI_shl1, nI_or, nI_half2, nI_min2, la_put_eq, la_up, lr_same, lr_ne, lu_same, lu_ne, hL] at c) <;> first | (exfalso; omega) | conv => whnf)
    | (refine ⟨_, rfl, by omega, ?_⟩; conv => whnf)
    | (refine And.intro (by decide) ?_; conv => whnf))
  all_goals (try simp (disch := omega) only [nI_leI, nI_ltI, nI_eq, nz_eq, nz_lt, nz_gt, nz_le, nz_ge, nz_00, nz_10, nz_n1, nI_add, pk_mul, pk_sub, nI_shl1, nI_or, nI_half2, nI_min2, la_put_eq, la_up, lr_same, lr_ne, lu_same, lu_ne, hL])
  · exact hret _ _ ⟨rfl, Or.inr ⟨ixI_no0 hb (by assumption), rfl⟩⟩
  · exact hret _ _ ⟨rfl, Or.inr ⟨ixI_no1 hb (by assumption), rfl⟩⟩
  · exact hret _ _ ⟨rfl, Or.inl ⟨ixI_of hb (by assumption) (by assumption), rfl⟩⟩
theorem M_X0_hasBiscuit : pm_MT yX0_hasBiscuit cX0_hasBiscuit 2 3 1 P_X0_hasBiscuit (pm_pi Q_X0_hasBiscuit) := pm_met k_X0_hasBiscuit (by decide) rfl (by
  rintro ⟨g0, g1, g2, g3⟩ av h hp
  rw [hp.1]
  exact Nat.le_of_ble_eq_true rfl) pf_X0_hasBiscuit
theorem rc_X0_hasBiscuit : ∀ g av h, P_X0_hasBiscuit g av h → ∃ i t, av = .inr (.inr (0, i, 0)) :: t := by
  rintro ⟨g0, g1, g2, g3⟩ av h hp
  exact ⟨_, _, hp.1⟩
/-- spoilOf(b) -/
def P_X0_spoilOf : Nat × Nat × LD × pm_H → List pm_V → pm_H → Prop := fun g av h => match g with
  | (i, b, L, h0) => av = [vR 0 i 0, vI (nI b)] ∧ h = h0 ∧ la_at h0 i L ∧ b < 6 ∧ L 0 8 ≤ 9 ∧ L 3 b ≤ 3 ∧ L 5 b ≤ 99
def Q_X0_spoilOf : Nat × Nat × LD × pm_H → Int32 → pm_H → Prop := fun g v h => match g with
  | (i, b, L, h0) => h = h0 ∧ v = nI (sp_spoil L b)
def T_X0_spoilOf : List (Nat × pm_T) := [
  (0, i_al 0 1),
  (1, i_gi 0 8 4),
  (4, i_c (nI 2) 5),
  (5, i_idiv 6),
  (6, i_is 2 7),
  (7, i_il 2 8),
  (8, i_is 3 9),
  (9, i_al 0 10),
  (10, i_gr 0 (fun i => (0, i, 3)) 13),
  (13, i_il 1 14),
  (14, i_ia 15),
  (15, i_c (nI 1) 16),
  (16, i_icne 26 19),
  (19, i_il 2 20),
  (20, i_c (nI 2) 21),
  (21, i_idiv 22),
  (22, i_is 3 23),
  (23, i_go 59),
  (26, i_al 0 27),
  (27, i_gr 0 (fun i => (0, i, 3)) 30),
  (30, i_il 1 31),
  (31, i_ia 32),
  (32, i_c (nI 2) 33),
  (33, i_icne 43 36),
  (36, i_il 2 37),
  (37, i_c (nI 1) 38),
  (38, i_iadd 39),
  (39, i_is 3 40),
  (40, i_go 59),
  (43, i_al 0 44),
  (44, i_gr 0 (fun i => (0, i, 3)) 47),
  (47, i_il 1 48),
  (48, i_ia 49),
  (49, i_c (nI 3) 50),
  (50, i_icne 59 53),
  (53, i_c (nI 2) 54),
  (54, i_il 2 55),
  (55, i_c (nI 1) 56),
  (56, i_iadd 57),
  (57, i_imul 58),
  (58, i_is 3 59),
  (59, i_il 3 60),
  (60, i_al 0 61),
  (61, i_gr 0 (fun i => (0, i, 5)) 64),
  (64, i_il 1 65),
  (65, i_ia 66),
  (66, i_mmin 69),
  (69, i_ir)]
theorem k_X0_spoilOf : ∀ q ∈ T_X0_spoilOf, pm_sd RX0 cX0_spoilOf 4 1 1 q.1 q.2 := by
  unfold T_X0_spoilOf
  refine pm_cn (sd_aln (k := 0) (by decide +kernel) rfl rfl) ?_
  refine pm_cn (sd_gi cl0_ in0_ (by decide) (fun _ => rfl) fl_X0_30 (by decide +kernel) rfl) ?_
  refine pm_cn (sd_iconst (z := 2) (by decide +kernel) (by decide +kernel) rfl) ?_
  refine pm_cn (sd_idiv (by decide +kernel) rfl) ?_
  refine pm_cn (sd_isn (k := 2) (by decide +kernel) rfl rfl (by decide)) ?_
  refine pm_cn (sd_iln (k := 2) (by decide +kernel) rfl rfl) ?_
  refine pm_cn (sd_isn (k := 3) (by decide +kernel) rfl rfl (by decide)) ?_
  refine pm_cn (sd_aln (k := 0) (by decide +kernel) rfl rfl) ?_
  refine pm_cn (sd_gr cl0_ in0_ (j := 4) (by decide) (fun _ => rfl) fl_X0_18 (by decide +kernel) rfl) ?_
  refine pm_cn (sd_iln (k := 1) (by decide +kernel) rfl rfl) ?_
  refine pm_cn (sd_ia (by decide +kernel) rfl) ?_
  refine pm_cn (sd_iconst (z := 1) (by decide +kernel) (by decide +kernel) rfl) ?_
  refine pm_cn (sd_icne (off := 10) (by decide +kernel) (by decide) rfl) ?_
  refine pm_cn (sd_iln (k := 2) (by decide +kernel) rfl rfl) ?_
  refine pm_cn (sd_iconst (z := 2) (by decide +kernel) (by decide +kernel) rfl) ?_
  refine pm_cn (sd_idiv (by decide +kernel) rfl) ?_
  refine pm_cn (sd_isn (k := 3) (by decide +kernel) rfl rfl (by decide)) ?_
  refine pm_cn (sd_go (off := 36) (by decide +kernel) (by decide)) ?_
  refine pm_cn (sd_aln (k := 0) (by decide +kernel) rfl rfl) ?_
  refine pm_cn (sd_gr cl0_ in0_ (j := 4) (by decide) (fun _ => rfl) fl_X0_18 (by decide +kernel) rfl) ?_
  refine pm_cn (sd_iln (k := 1) (by decide +kernel) rfl rfl) ?_
  refine pm_cn (sd_ia (by decide +kernel) rfl) ?_
  refine pm_cn (sd_iconst (z := 2) (by decide +kernel) (by decide +kernel) rfl) ?_
  refine pm_cn (sd_icne (off := 10) (by decide +kernel) (by decide) rfl) ?_
  refine pm_cn (sd_iln (k := 2) (by decide +kernel) rfl rfl) ?_
  refine pm_cn (sd_iconst (z := 1) (by decide +kernel) (by decide +kernel) rfl) ?_
  refine pm_cn (sd_iadd (by decide +kernel) rfl) ?_
  refine pm_cn (sd_isn (k := 3) (by decide +kernel) rfl rfl (by decide)) ?_
  refine pm_cn (sd_go (off := 19) (by decide +kernel) (by decide)) ?_
  refine pm_cn (sd_aln (k := 0) (by decide +kernel) rfl rfl) ?_
  refine pm_cn (sd_gr cl0_ in0_ (j := 4) (by decide) (fun _ => rfl) fl_X0_18 (by decide +kernel) rfl) ?_
  refine pm_cn (sd_iln (k := 1) (by decide +kernel) rfl rfl) ?_
  refine pm_cn (sd_ia (by decide +kernel) rfl) ?_
  refine pm_cn (sd_iconst (z := 3) (by decide +kernel) (by decide +kernel) rfl) ?_
  refine pm_cn (sd_icne (off := 9) (by decide +kernel) (by decide) rfl) ?_
  refine pm_cn (sd_iconst (z := 2) (by decide +kernel) (by decide +kernel) rfl) ?_
  refine pm_cn (sd_iln (k := 2) (by decide +kernel) rfl rfl) ?_
  refine pm_cn (sd_iconst (z := 1) (by decide +kernel) (by decide +kernel) rfl) ?_
  refine pm_cn (sd_iadd (by decide +kernel) rfl) ?_
  refine pm_cn (sd_imul (by decide +kernel) rfl) ?_
  refine pm_cn (sd_isn (k := 3) (by decide +kernel) rfl rfl (by decide)) ?_
  refine pm_cn (sd_iln (k := 3) (by decide +kernel) rfl rfl) ?_
  refine pm_cn (sd_aln (k := 0) (by decide +kernel) rfl rfl) ?_
  refine pm_cn (sd_gr cl0_ in0_ (j := 6) (by decide) (fun _ => rfl) fl_X0_24 (by decide +kernel) rfl) ?_
  refine pm_cn (sd_iln (k := 1) (by decide +kernel) rfl rfl) ?_
  refine pm_cn (sd_ia (by decide +kernel) rfl) ?_
  refine pm_cn (sd_mmin ml_X0_65 st_min nt_Math cd_min (by decide) (by decide +kernel) rfl) ?_
  refine pm_cn (sd_ir (by decide +kernel)) ?_
  exact fun _ h => absurd h List.not_mem_nil
theorem sp_loss_le {d k : Nat} (h : d ≤ 9) : sp_loss d k ≤ 10 := by
  unfold sp_loss
  by_cases h1 : k = 1
  · rw [if_pos h1]; omega
  · by_cases h2 : k = 2
    · rw [if_neg h1, if_pos h2]; omega
    · by_cases h3 : k = 3
      · rw [if_neg h1, if_neg h2, if_pos h3]; omega
      · rw [if_neg h1, if_neg h2, if_neg h3]; omega
set_option maxHeartbeats 4000000 in
set_option maxRecDepth 100000 in
theorem pf_X0_spoilOf : pm_pf T_X0_spoilOf P_X0_spoilOf (pm_pi Q_X0_spoilOf) := by
  rintro ⟨i, b, L, h0⟩ av h K hK ⟨rfl, rfl, hL, hb, h8, h3, h5⟩ hret
  show K (some 0) ([(0, vR 0 i 0), (1, vI (nI b))], [], h)
  have fin : ∀ y : Nat, y = sp_loss (L 0 8) (L 3 b) → K (some 59) ([(0, vR 0 i 0), (1, vI (nI b)), (3, vI (nI y))], [], h) := by
    intro y hy
    have hyb : y ≤ 10 := by rw [hy]; exact sp_loss_le h8
    refine hK [] 20 _ _ ?_
    conv => whnf
    repeat' (first
      | (refine ⟨fun c => ?_, fun c => ?_⟩ <;> (try simp (disch := omega) only [nI_leI, nI_ltI, nI_eq, nz_eq, nz_lt, nz_gt, nz_le, nz_ge, nz_00, nz_10, nz_n1, nI_add, pk_mul, pk_sub, nI_shl1, nI_or, nI_half2, nI_min2, la_put_eq, la_up, lr_same, lr_ne, lu_same, lu_ne, hL] at c) <;> first | (exfalso; omega) | conv => whnf)
      | (refine ⟨_, rfl, by omega, ?_⟩; conv => whnf)
      | (refine And.intro (by decide) ?_; conv => whnf))
    all_goals (try simp (disch := omega) only [nI_leI, nI_ltI, nI_eq, nz_eq, nz_lt, nz_gt, nz_le, nz_ge, nz_00, nz_10, nz_n1, nI_add, pk_mul, pk_sub, nI_shl1, nI_or, nI_half2, nI_min2, la_put_eq, la_up, lr_same, lr_ne, lu_same, lu_ne, hL])
    subst hy
    exact hret _ _ ⟨rfl, rfl⟩
  refine hK [(59, [0, 1, 3])] 40 _ _ ?_
  conv => whnf
  repeat' (first
    | (refine ⟨fun c => ?_, fun c => ?_⟩ <;> (try simp (disch := omega) only [nI_leI, nI_ltI, nI_eq, nz_eq, nz_lt, nz_gt, nz_le, nz_ge, nz_00, nz_10, nz_n1, nI_add, pk_mul, pk_sub, nI_shl1, nI_or, nI_half2, nI_min2, la_put_eq, la_up, lr_same, lr_ne, lu_same, lu_ne, hL] at c) <;> first | (exfalso; omega) | conv => whnf)
    | (refine ⟨_, rfl, by omega, ?_⟩; conv => whnf)
    | (refine And.intro (by decide) ?_; conv => whnf))
  all_goals (try simp (disch := omega) only [nI_leI, nI_ltI, nI_eq, nz_eq, nz_lt, nz_gt, nz_le, nz_ge, nz_00, nz_10, nz_n1, nI_add, pk_mul, pk_sub, nI_shl1, nI_or, nI_half2, nI_min2, la_put_eq, la_up, lr_same, lr_ne, lu_same, lu_ne, hL])
  all_goals (apply fin; unfold sp_loss; simp [*])
theorem M_X0_spoilOf : pm_MT yX0_spoilOf cX0_spoilOf 4 1 1 P_X0_spoilOf (pm_pi Q_X0_spoilOf) := pm_met k_X0_spoilOf (by decide) rfl (by
  rintro ⟨g0, g1, g2, g3⟩ av h hp
  rw [hp.1]
  exact Nat.le_of_ble_eq_true rfl) pf_X0_spoilOf
theorem rc_X0_spoilOf : ∀ g av h, P_X0_spoilOf g av h → ∃ i t, av = .inr (.inr (0, i, 0)) :: t := by
  rintro ⟨g0, g1, g2, g3⟩ av h hp
  exact ⟨_, _, hp.1⟩
/-- isKnower(f, s) -/
def P_X0_isKnower : Nat × Nat × Nat × LD × pm_H → List pm_V → pm_H → Prop := fun g av h => match g with
  | (i, f, s, L, h0) => av = [vR 0 i 0, vI (nI f), vI (nI s)] ∧ h = h0 ∧ la_at h0 i L ∧ la_ok L ∧ f < 2 ^ 31 ∧ s < 2 ^ 31
def Q_X0_isKnower : Nat × Nat × Nat × LD × pm_H → Int32 → pm_H → Prop := fun g v h => match g with
  | (i, f, s, L, h0) => h = h0 ∧ ((sp_kn L f s ∧ v = nI 1) ∨ (¬ sp_kn L f s ∧ v = nI 0))
def T_X0_isKnower : List (Nat × pm_T) := [
  (0, i_c (nI 0) 1),
  (1, i_is 3 2),
  (2, i_il 3 3),
  (3, i_al 0 4),
  (4, i_gi 0 3 7),
  (7, i_icge 51 10),
  (10, i_al 0 11),
  (11, i_gr 0 (fun i => (0, i, 6)) 14),
  (14, i_il 3 15),
  (15, i_ia 16),
  (16, i_il 1 17),
  (17, i_icne 45 20),
  (20, i_al 0 21),
  (21, i_gr 0 (fun i => (0, i, 4)) 24),
  (24, i_il 3 25),
  (25, i_ia 26),
  (26, i_il 2 27),
  (27, i_icne 45 30),
  (30, i_al 0 31),
  (31, i_gr 0 (fun i => (0, i, 5)) 34),
  (34, i_il 3 35),
  (35, i_ia 36),
  (36, i_al 0 37),
  (37, i_gi 0 9 40),
  (40, i_iclt 45 43),
  (43, i_c (nI 1) 44),
  (44, i_zr),
  (45, i_inc 3 (nI 1) 48),
  (48, i_go 2),
  (51, i_c (nI 0) 52),
  (52, i_zr)]
theorem k_X0_isKnower : ∀ q ∈ T_X0_isKnower, pm_sd RX0 cX0_isKnower 4 1 3 q.1 q.2 := by
  unfold T_X0_isKnower
  refine pm_cn (sd_iconst (z := 0) (by decide +kernel) (by decide +kernel) rfl) ?_
  refine pm_cn (sd_isn (k := 3) (by decide +kernel) rfl rfl (by decide)) ?_
  refine pm_cn (sd_iln (k := 3) (by decide +kernel) rfl rfl) ?_
  refine pm_cn (sd_aln (k := 0) (by decide +kernel) rfl rfl) ?_
  refine pm_cn (sd_gi cl0_ in0_ (by decide) (fun _ => rfl) fl_X0_46 (by decide +kernel) rfl) ?_
  refine pm_cn (sd_icge (off := 44) (by decide +kernel) (by decide) rfl) ?_
  refine pm_cn (sd_aln (k := 0) (by decide +kernel) rfl rfl) ?_
  refine pm_cn (sd_gr cl0_ in0_ (j := 7) (by decide) (fun _ => rfl) fl_X0_27 (by decide +kernel) rfl) ?_
  refine pm_cn (sd_iln (k := 3) (by decide +kernel) rfl rfl) ?_
  refine pm_cn (sd_ia (by decide +kernel) rfl) ?_
  refine pm_cn (sd_iln (k := 1) (by decide +kernel) rfl rfl) ?_
  refine pm_cn (sd_icne (off := 28) (by decide +kernel) (by decide) rfl) ?_
  refine pm_cn (sd_aln (k := 0) (by decide +kernel) rfl rfl) ?_
  refine pm_cn (sd_gr cl0_ in0_ (j := 5) (by decide) (fun _ => rfl) fl_X0_21 (by decide +kernel) rfl) ?_
  refine pm_cn (sd_iln (k := 3) (by decide +kernel) rfl rfl) ?_
  refine pm_cn (sd_ia (by decide +kernel) rfl) ?_
  refine pm_cn (sd_iln (k := 2) (by decide +kernel) rfl rfl) ?_
  refine pm_cn (sd_icne (off := 18) (by decide +kernel) (by decide) rfl) ?_
  refine pm_cn (sd_aln (k := 0) (by decide +kernel) rfl rfl) ?_
  refine pm_cn (sd_gr cl0_ in0_ (j := 6) (by decide) (fun _ => rfl) fl_X0_24 (by decide +kernel) rfl) ?_
  refine pm_cn (sd_iln (k := 3) (by decide +kernel) rfl rfl) ?_
  refine pm_cn (sd_ia (by decide +kernel) rfl) ?_
  refine pm_cn (sd_aln (k := 0) (by decide +kernel) rfl rfl) ?_
  refine pm_cn (sd_gi cl0_ in0_ (by decide) (fun _ => rfl) fl_X0_34 (by decide +kernel) rfl) ?_
  refine pm_cn (sd_iclt (off := 5) (by decide +kernel) (by decide) rfl) ?_
  refine pm_cn (sd_iconst (z := 1) (by decide +kernel) (by decide +kernel) rfl) ?_
  refine pm_cn (sd_zr (by decide +kernel)) ?_
  refine pm_cn (sd_inc (z := 1) (by decide +kernel) (by decide +kernel) rfl (by decide)) ?_
  refine pm_cn (sd_go (off := -46) (by decide +kernel) (by decide)) ?_
  refine pm_cn (sd_iconst (z := 0) (by decide +kernel) (by decide +kernel) rfl) ?_
  refine pm_cn (sd_zr (by decide +kernel)) ?_
  exact fun _ h => absurd h List.not_mem_nil
set_option maxHeartbeats 4000000 in
set_option maxRecDepth 100000 in
theorem pf_X0_isKnower : pm_pf T_X0_isKnower P_X0_isKnower (pm_pi Q_X0_isKnower) := by
  rintro ⟨i, f, s, L, h0⟩ av h K hK ⟨rfl, rfl, hL, ⟨w1, w2, w3, w4, w5, w6, w7, w8, w9⟩, hf, hs⟩ hret
  show K (some 0) ([(0, vR 0 i 0), (1, vI (nI f)), (2, vI (nI s))], [], h)
  have loop : ∀ n k, k + n = L 0 3 → (∀ b, b < k → ¬ (L 6 b = f ∧ L 4 b = s ∧ L 0 9 ≤ L 5 b)) → K (some 2) ([(0, vR 0 i 0), (1, vI (nI f)), (2, vI (nI s)), (3, vI (nI k))], [], h) := by
    intro n
    induction n with
    | zero =>
      intro k hk ha
      refine hK [(2, [0, 1, 2, 3])] 40 _ _ ?_
      conv => whnf
      repeat' (first
        | (refine ⟨fun c => ?_, fun c => ?_⟩ <;> (try simp (disch := omega) only [nI_leI, nI_ltI, nI_eq, nz_eq, nz_lt, nz_gt, nz_le, nz_ge, nz_00, nz_10, nz_n1, nI_add, pk_mul, pk_sub, nI_shl1, nI_or, nI_half2, nI_min2, la_put_eq, la_up, lr_same, lr_ne, lu_same, lu_ne, hL] at c) <;> first | (exfalso; omega) | conv => whnf)
        | (refine ⟨_, rfl, by omega, ?_⟩; conv => whnf)
        | (refine And.intro (by decide) ?_; conv => whnf))
      all_goals (try simp (disch := omega) only [nI_leI, nI_ltI, nI_eq, nz_eq, nz_lt, nz_gt, nz_le, nz_ge, nz_00, nz_10, nz_n1, nI_add, pk_mul, pk_sub, nI_shl1, nI_or, nI_half2, nI_min2, la_put_eq, la_up, lr_same, lr_ne, lu_same, lu_ne, hL])
      refine hret _ _ ⟨rfl, Or.inr ⟨?_, rfl⟩⟩
      rintro ⟨b, h1, h2⟩
      exact ha b (by omega) h2
    | succ n ih =>
      intro k hk ha
      have hB := w8 k (by omega)
      refine hK [(2, [0, 1, 2, 3])] 40 _ _ ?_
      conv => whnf
      repeat' (first
        | (refine ⟨fun c => ?_, fun c => ?_⟩ <;> (try simp (disch := omega) only [nI_leI, nI_ltI, nI_eq, nz_eq, nz_lt, nz_gt, nz_le, nz_ge, nz_00, nz_10, nz_n1, nI_add, pk_mul, pk_sub, nI_shl1, nI_or, nI_half2, nI_min2, la_put_eq, la_up, lr_same, lr_ne, lu_same, lu_ne, hL] at c) <;> first | (exfalso; omega) | conv => whnf)
        | (refine ⟨_, rfl, by omega, ?_⟩; conv => whnf)
        | (refine And.intro (by decide) ?_; conv => whnf))
      all_goals (try simp (disch := omega) only [nI_leI, nI_ltI, nI_eq, nz_eq, nz_lt, nz_gt, nz_le, nz_ge, nz_00, nz_10, nz_n1, nI_add, pk_mul, pk_sub, nI_shl1, nI_or, nI_half2, nI_min2, la_put_eq, la_up, lr_same, lr_ne, lu_same, lu_ne, hL])
      · refine ih (k + 1) (by omega) (fun b hb => ?_)
        rcases Nat.lt_or_ge b k with q | q
        · exact ha b q
        · have : b = k := by omega
          subst this; omega
      · refine ih (k + 1) (by omega) (fun b hb => ?_)
        rcases Nat.lt_or_ge b k with q | q
        · exact ha b q
        · have : b = k := by omega
          subst this; omega
      · refine ih (k + 1) (by omega) (fun b hb => ?_)
        rcases Nat.lt_or_ge b k with q | q
        · exact ha b q
        · have : b = k := by omega
          subst this; omega
      · exact hret _ _ ⟨rfl, Or.inl ⟨⟨k, by omega, by omega, by omega, by omega⟩, rfl⟩⟩
  refine hK [(2, [0, 1, 2, 3])] 10 _ _ ?_
  conv => whnf
  repeat' (first
    | (refine ⟨fun c => ?_, fun c => ?_⟩ <;> (try simp (disch := omega) only [nI_leI, nI_ltI, nI_eq, nz_eq, nz_lt, nz_gt, nz_le, nz_ge, nz_00, nz_10, nz_n1, nI_add, pk_mul, pk_sub, nI_shl1, nI_or, nI_half2, nI_min2, la_put_eq, la_up, lr_same, lr_ne, lu_same, lu_ne, hL] at c) <;> first | (exfalso; omega) | conv => whnf)
    | (refine ⟨_, rfl, by omega, ?_⟩; conv => whnf)
    | (refine And.intro (by decide) ?_; conv => whnf))
  all_goals (try simp (disch := omega) only [nI_leI, nI_ltI, nI_eq, nz_eq, nz_lt, nz_gt, nz_le, nz_ge, nz_00, nz_10, nz_n1, nI_add, pk_mul, pk_sub, nI_shl1, nI_or, nI_half2, nI_min2, la_put_eq, la_up, lr_same, lr_ne, lu_same, lu_ne, hL])
  exact loop (L 0 3) 0 (by omega) (fun b hb => by omega)
theorem M_X0_isKnower : pm_MT yX0_isKnower cX0_isKnower 4 3 1 P_X0_isKnower (pm_pi Q_X0_isKnower) := pm_met k_X0_isKnower (by decide) rfl (by
  rintro ⟨g0, g1, g2, g3, g4⟩ av h hp
  rw [hp.1]
  exact Nat.le_of_ble_eq_true rfl) pf_X0_isKnower
theorem rc_X0_isKnower : ∀ g av h, P_X0_isKnower g av h → ∃ i t, av = .inr (.inr (0, i, 0)) :: t := by
  rintro ⟨g0, g1, g2, g3, g4⟩ av h hp
  exact ⟨_, _, hp.1⟩
/-- knowersOf(s) -/
def P_X0_knowersOf : Nat × Nat × LD × pm_H → List pm_V → pm_H → Prop := fun g av h => match g with
  | (i, s, L, h0) => av = [vR 0 i 0, vI (nI s)] ∧ h = h0 ∧ la_at h0 i L ∧ la_ok L ∧ s < 2 ^ 31
def Q_X0_knowersOf : Nat × Nat × LD × pm_H → Int32 → pm_H → Prop := fun g v h => match g with
  | (i, s, L, h0) => h = h0 ∧ v = nI (sp_knowers L s)
def T_X0_knowersOf : List (Nat × pm_T) := [
  (0, i_c (nI 0) 1),
  (1, i_is 2 2),
  (2, i_c (nI 0) 3),
  (3, i_is 3 4),
  (4, i_il 3 5),
  (5, i_al 0 6),
  (6, i_gi 0 3 9),
  (9, i_icge 52 12),
  (12, i_al 0 13),
  (13, i_gr 0 (fun i => (0, i, 4)) 16),
  (16, i_il 3 17),
  (17, i_ia 18),
  (18, i_il 1 19),
  (19, i_icne 46 22),
  (22, i_al 0 23),
  (23, i_gr 0 (fun i => (0, i, 5)) 26),
  (26, i_il 3 27),
  (27, i_ia 28),
  (28, i_al 0 29),
  (29, i_gi 0 9 32),
  (32, i_iclt 46 35),
  (35, i_il 2 36),
  (36, i_c (nI 1) 37),
  (37, i_al 0 38),
  (38, i_gr 0 (fun i => (0, i, 6)) 41),
  (41, i_il 3 42),
  (42, i_ia 43),
  (43, i_ishl 44),
  (44, i_ior 45),
  (45, i_is 2 46),
  (46, i_inc 3 (nI 1) 49),
  (49, i_go 4),
  (52, i_il 2 53),
  (53, i_ir)]
theorem k_X0_knowersOf : ∀ q ∈ T_X0_knowersOf, pm_sd RX0 cX0_knowersOf 4 1 1 q.1 q.2 := by
  unfold T_X0_knowersOf
  refine pm_cn (sd_iconst (z := 0) (by decide +kernel) (by decide +kernel) rfl) ?_
  refine pm_cn (sd_isn (k := 2) (by decide +kernel) rfl rfl (by decide)) ?_
  refine pm_cn (sd_iconst (z := 0) (by decide +kernel) (by decide +kernel) rfl) ?_
  refine pm_cn (sd_isn (k := 3) (by decide +kernel) rfl rfl (by decide)) ?_
  refine pm_cn (sd_iln (k := 3) (by decide +kernel) rfl rfl) ?_
  refine pm_cn (sd_aln (k := 0) (by decide +kernel) rfl rfl) ?_
  refine pm_cn (sd_gi cl0_ in0_ (by decide) (fun _ => rfl) fl_X0_46 (by decide +kernel) rfl) ?_
  refine pm_cn (sd_icge (off := 43) (by decide +kernel) (by decide) rfl) ?_
  refine pm_cn (sd_aln (k := 0) (by decide +kernel) rfl rfl) ?_
  refine pm_cn (sd_gr cl0_ in0_ (j := 5) (by decide) (fun _ => rfl) fl_X0_21 (by decide +kernel) rfl) ?_
  refine pm_cn (sd_iln (k := 3) (by decide +kernel) rfl rfl) ?_
  refine pm_cn (sd_ia (by decide +kernel) rfl) ?_
  refine pm_cn (sd_iln (k := 1) (by decide +kernel) rfl rfl) ?_
  refine pm_cn (sd_icne (off := 27) (by decide +kernel) (by decide) rfl) ?_
  refine pm_cn (sd_aln (k := 0) (by decide +kernel) rfl rfl) ?_
  refine pm_cn (sd_gr cl0_ in0_ (j := 6) (by decide) (fun _ => rfl) fl_X0_24 (by decide +kernel) rfl) ?_
  refine pm_cn (sd_iln (k := 3) (by decide +kernel) rfl rfl) ?_
  refine pm_cn (sd_ia (by decide +kernel) rfl) ?_
  refine pm_cn (sd_aln (k := 0) (by decide +kernel) rfl rfl) ?_
  refine pm_cn (sd_gi cl0_ in0_ (by decide) (fun _ => rfl) fl_X0_34 (by decide +kernel) rfl) ?_
  refine pm_cn (sd_iclt (off := 14) (by decide +kernel) (by decide) rfl) ?_
  refine pm_cn (sd_iln (k := 2) (by decide +kernel) rfl rfl) ?_
  refine pm_cn (sd_iconst (z := 1) (by decide +kernel) (by decide +kernel) rfl) ?_
  refine pm_cn (sd_aln (k := 0) (by decide +kernel) rfl rfl) ?_
  refine pm_cn (sd_gr cl0_ in0_ (j := 7) (by decide) (fun _ => rfl) fl_X0_27 (by decide +kernel) rfl) ?_
  refine pm_cn (sd_iln (k := 3) (by decide +kernel) rfl rfl) ?_
  refine pm_cn (sd_ia (by decide +kernel) rfl) ?_
  refine pm_cn (sd_ishl (by decide +kernel) rfl) ?_
  refine pm_cn (sd_ior (by decide +kernel) rfl) ?_
  refine pm_cn (sd_isn (k := 2) (by decide +kernel) rfl rfl (by decide)) ?_
  refine pm_cn (sd_inc (z := 1) (by decide +kernel) (by decide +kernel) rfl (by decide)) ?_
  refine pm_cn (sd_go (off := -45) (by decide +kernel) (by decide)) ?_
  refine pm_cn (sd_iln (k := 2) (by decide +kernel) rfl rfl) ?_
  refine pm_cn (sd_ir (by decide +kernel)) ?_
  exact fun _ h => absurd h List.not_mem_nil
set_option maxHeartbeats 4000000 in
set_option maxRecDepth 100000 in
theorem pf_X0_knowersOf : pm_pf T_X0_knowersOf P_X0_knowersOf (pm_pi Q_X0_knowersOf) := by
  rintro ⟨i, s, L, h0⟩ av h K hK ⟨rfl, rfl, hL, ⟨w1, w2, w3, w4, w5, w6, w7, w8, w9⟩, hs⟩ hret
  show K (some 0) ([(0, vR 0 i 0), (1, vI (nI s))], [], h)
  have loop : ∀ n k a, k + n = L 0 3 → a = sp_or (fun b => if L 4 b = s ∧ L 0 9 ≤ L 5 b then 2 ^ L 6 b else 0) k → K (some 4) ([(0, vR 0 i 0), (1, vI (nI s)), (2, vI (nI a)), (3, vI (nI k))], [], h) := by
    intro n
    induction n with
    | zero =>
      intro k a hk ha
      refine hK [(4, [0, 1, 2, 3])] 40 _ _ ?_
      conv => whnf
      repeat' (first
        | (refine ⟨fun c => ?_, fun c => ?_⟩ <;> (try simp (disch := omega) only [nI_leI, nI_ltI, nI_eq, nz_eq, nz_lt, nz_gt, nz_le, nz_ge, nz_00, nz_10, nz_n1, nI_add, pk_mul, pk_sub, nI_shl1, nI_or, nI_half2, nI_min2, la_put_eq, la_up, lr_same, lr_ne, lu_same, lu_ne, hL] at c) <;> first | (exfalso; omega) | conv => whnf)
        | (refine ⟨_, rfl, by omega, ?_⟩; conv => whnf)
        | (refine And.intro (by decide) ?_; conv => whnf))
      all_goals (try simp (disch := omega) only [nI_leI, nI_ltI, nI_eq, nz_eq, nz_lt, nz_gt, nz_le, nz_ge, nz_00, nz_10, nz_n1, nI_add, pk_mul, pk_sub, nI_shl1, nI_or, nI_half2, nI_min2, la_put_eq, la_up, lr_same, lr_ne, lu_same, lu_ne, hL])
      have : k = L 0 3 := by omega
      subst this
      exact hret _ _ ⟨rfl, by rw [ha]; rfl⟩
    | succ n ih =>
      intro k a hk ha
      have hB := w8 k (by omega)
      refine hK [(4, [0, 1, 2, 3])] 40 _ _ ?_
      conv => whnf
      repeat' (first
        | (refine ⟨fun c => ?_, fun c => ?_⟩ <;> (try simp (disch := omega) only [nI_leI, nI_ltI, nI_eq, nz_eq, nz_lt, nz_gt, nz_le, nz_ge, nz_00, nz_10, nz_n1, nI_add, pk_mul, pk_sub, nI_shl1, nI_or, nI_half2, nI_min2, la_put_eq, la_up, lr_same, lr_ne, lu_same, lu_ne, hL] at c) <;> first | (exfalso; omega) | conv => whnf)
        | (refine ⟨_, rfl, by omega, ?_⟩; conv => whnf)
        | (refine And.intro (by decide) ?_; conv => whnf))
      all_goals (try simp (disch := omega) only [nI_leI, nI_ltI, nI_eq, nz_eq, nz_lt, nz_gt, nz_le, nz_ge, nz_00, nz_10, nz_n1, nI_add, pk_mul, pk_sub, nI_shl1, nI_or, nI_half2, nI_min2, la_put_eq, la_up, lr_same, lr_ne, lu_same, lu_ne, hL])
      all_goals (refine ih (k + 1) _ (by omega) ?_; rw [sp_or, ← ha]; first | rw [if_pos (by omega)] | rw [if_neg (by omega), Nat.or_zero])
  refine hK [(4, [0, 1, 2, 3])] 10 _ _ ?_
  conv => whnf
  repeat' (first
    | (refine ⟨fun c => ?_, fun c => ?_⟩ <;> (try simp (disch := omega) only [nI_leI, nI_ltI, nI_eq, nz_eq, nz_lt, nz_gt, nz_le, nz_ge, nz_00, nz_10, nz_n1, nI_add, pk_mul, pk_sub, nI_shl1, nI_or, nI_half2, nI_min2, la_put_eq, la_up, lr_same, lr_ne, lu_same, lu_ne, hL] at c) <;> first | (exfalso; omega) | conv => whnf)
    | (refine ⟨_, rfl, by omega, ?_⟩; conv => whnf)
    | (refine And.intro (by decide) ?_; conv => whnf))
  all_goals (try simp (disch := omega) only [nI_leI, nI_ltI, nI_eq, nz_eq, nz_lt, nz_gt, nz_le, nz_ge, nz_00, nz_10, nz_n1, nI_add, pk_mul, pk_sub, nI_shl1, nI_or, nI_half2, nI_min2, la_put_eq, la_up, lr_same, lr_ne, lu_same, lu_ne, hL])
  exact loop (L 0 3) 0 0 (by omega) rfl
theorem M_X0_knowersOf : pm_MT yX0_knowersOf cX0_knowersOf 4 1 1 P_X0_knowersOf (pm_pi Q_X0_knowersOf) := pm_met k_X0_knowersOf (by decide) rfl (by
  rintro ⟨g0, g1, g2, g3⟩ av h hp
  rw [hp.1]
  exact Nat.le_of_ble_eq_true rfl) pf_X0_knowersOf
theorem rc_X0_knowersOf : ∀ g av h, P_X0_knowersOf g av h → ∃ i t, av = .inr (.inr (0, i, 0)) :: t := by
  rintro ⟨g0, g1, g2, g3⟩ av h hp
  exact ⟨_, _, hp.1⟩
/-- loreOf(f) -/
def P_X0_loreOf : Nat × Nat × LD × pm_H → List pm_V → pm_H → Prop := fun g av h => match g with
  | (i, s, L, h0) => av = [vR 0 i 0, vI (nI s)] ∧ h = h0 ∧ la_at h0 i L ∧ la_ok L ∧ s < 2 ^ 31
def Q_X0_loreOf : Nat × Nat × LD × pm_H → Int32 → pm_H → Prop := fun g v h => match g with
  | (i, s, L, h0) => h = h0 ∧ v = nI (sp_lore L s)
def T_X0_loreOf : List (Nat × pm_T) := [
  (0, i_c (nI 0) 1),
  (1, i_is 2 2),
  (2, i_c (nI 0) 3),
  (3, i_is 3 4),
  (4, i_il 3 5),
  (5, i_al 0 6),
  (6, i_gi 0 3 9),
  (9, i_icge 52 12),
  (12, i_al 0 13),
  (13, i_gr 0 (fun i => (0, i, 6)) 16),
  (16, i_il 3 17),
  (17, i_ia 18),
  (18, i_il 1 19),
  (19, i_icne 46 22),
  (22, i_al 0 23),
  (23, i_gr 0 (fun i => (0, i, 5)) 26),
  (26, i_il 3 27),
  (27, i_ia 28),
  (28, i_al 0 29),
  (29, i_gi 0 9 32),
  (32, i_iclt 46 35),
  (35, i_il 2 36),
  (36, i_c (nI 1) 37),
  (37, i_al 0 38),
  (38, i_gr 0 (fun i => (0, i, 4)) 41),
  (41, i_il 3 42),
  (42, i_ia 43),
  (43, i_ishl 44),
  (44, i_ior 45),
  (45, i_is 2 46),
  (46, i_inc 3 (nI 1) 49),
  (49, i_go 4),
  (52, i_il 2 53),
  (53, i_ir)]
theorem k_X0_loreOf : ∀ q ∈ T_X0_loreOf, pm_sd RX0 cX0_loreOf 4 1 1 q.1 q.2 := by
  unfold T_X0_loreOf
  refine pm_cn (sd_iconst (z := 0) (by decide +kernel) (by decide +kernel) rfl) ?_
  refine pm_cn (sd_isn (k := 2) (by decide +kernel) rfl rfl (by decide)) ?_
  refine pm_cn (sd_iconst (z := 0) (by decide +kernel) (by decide +kernel) rfl) ?_
  refine pm_cn (sd_isn (k := 3) (by decide +kernel) rfl rfl (by decide)) ?_
  refine pm_cn (sd_iln (k := 3) (by decide +kernel) rfl rfl) ?_
  refine pm_cn (sd_aln (k := 0) (by decide +kernel) rfl rfl) ?_
  refine pm_cn (sd_gi cl0_ in0_ (by decide) (fun _ => rfl) fl_X0_46 (by decide +kernel) rfl) ?_
  refine pm_cn (sd_icge (off := 43) (by decide +kernel) (by decide) rfl) ?_
  refine pm_cn (sd_aln (k := 0) (by decide +kernel) rfl rfl) ?_
  refine pm_cn (sd_gr cl0_ in0_ (j := 7) (by decide) (fun _ => rfl) fl_X0_27 (by decide +kernel) rfl) ?_
  refine pm_cn (sd_iln (k := 3) (by decide +kernel) rfl rfl) ?_
  refine pm_cn (sd_ia (by decide +kernel) rfl) ?_
  refine pm_cn (sd_iln (k := 1) (by decide +kernel) rfl rfl) ?_
  refine pm_cn (sd_icne (off := 27) (by decide +kernel) (by decide) rfl) ?_
  refine pm_cn (sd_aln (k := 0) (by decide +kernel) rfl rfl) ?_
  refine pm_cn (sd_gr cl0_ in0_ (j := 6) (by decide) (fun _ => rfl) fl_X0_24 (by decide +kernel) rfl) ?_
  refine pm_cn (sd_iln (k := 3) (by decide +kernel) rfl rfl) ?_
  refine pm_cn (sd_ia (by decide +kernel) rfl) ?_
  refine pm_cn (sd_aln (k := 0) (by decide +kernel) rfl rfl) ?_
  refine pm_cn (sd_gi cl0_ in0_ (by decide) (fun _ => rfl) fl_X0_34 (by decide +kernel) rfl) ?_
  refine pm_cn (sd_iclt (off := 14) (by decide +kernel) (by decide) rfl) ?_
  refine pm_cn (sd_iln (k := 2) (by decide +kernel) rfl rfl) ?_
  refine pm_cn (sd_iconst (z := 1) (by decide +kernel) (by decide +kernel) rfl) ?_
  refine pm_cn (sd_aln (k := 0) (by decide +kernel) rfl rfl) ?_
  refine pm_cn (sd_gr cl0_ in0_ (j := 5) (by decide) (fun _ => rfl) fl_X0_21 (by decide +kernel) rfl) ?_
  refine pm_cn (sd_iln (k := 3) (by decide +kernel) rfl rfl) ?_
  refine pm_cn (sd_ia (by decide +kernel) rfl) ?_
  refine pm_cn (sd_ishl (by decide +kernel) rfl) ?_
  refine pm_cn (sd_ior (by decide +kernel) rfl) ?_
  refine pm_cn (sd_isn (k := 2) (by decide +kernel) rfl rfl (by decide)) ?_
  refine pm_cn (sd_inc (z := 1) (by decide +kernel) (by decide +kernel) rfl (by decide)) ?_
  refine pm_cn (sd_go (off := -45) (by decide +kernel) (by decide)) ?_
  refine pm_cn (sd_iln (k := 2) (by decide +kernel) rfl rfl) ?_
  refine pm_cn (sd_ir (by decide +kernel)) ?_
  exact fun _ h => absurd h List.not_mem_nil
set_option maxHeartbeats 4000000 in
set_option maxRecDepth 100000 in
theorem pf_X0_loreOf : pm_pf T_X0_loreOf P_X0_loreOf (pm_pi Q_X0_loreOf) := by
  rintro ⟨i, s, L, h0⟩ av h K hK ⟨rfl, rfl, hL, ⟨w1, w2, w3, w4, w5, w6, w7, w8, w9⟩, hs⟩ hret
  show K (some 0) ([(0, vR 0 i 0), (1, vI (nI s))], [], h)
  have loop : ∀ n k a, k + n = L 0 3 → a = sp_or (fun b => if L 6 b = s ∧ L 0 9 ≤ L 5 b then 2 ^ L 4 b else 0) k → K (some 4) ([(0, vR 0 i 0), (1, vI (nI s)), (2, vI (nI a)), (3, vI (nI k))], [], h) := by
    intro n
    induction n with
    | zero =>
      intro k a hk ha
      refine hK [(4, [0, 1, 2, 3])] 40 _ _ ?_
      conv => whnf
      repeat' (first
        | (refine ⟨fun c => ?_, fun c => ?_⟩ <;> (try simp (disch := omega) only [nI_leI, nI_ltI, nI_eq, nz_eq, nz_lt, nz_gt, nz_le, nz_ge, nz_00, nz_10, nz_n1, nI_add, pk_mul, pk_sub, nI_shl1, nI_or, nI_half2, nI_min2, la_put_eq, la_up, lr_same, lr_ne, lu_same, lu_ne, hL] at c) <;> first | (exfalso; omega) | conv => whnf)
        | (refine ⟨_, rfl, by omega, ?_⟩; conv => whnf)
        | (refine And.intro (by decide) ?_; conv => whnf))
      all_goals (try simp (disch := omega) only [nI_leI, nI_ltI, nI_eq, nz_eq, nz_lt, nz_gt, nz_le, nz_ge, nz_00, nz_10, nz_n1, nI_add, pk_mul, pk_sub, nI_shl1, nI_or, nI_half2, nI_min2, la_put_eq, la_up, lr_same, lr_ne, lu_same, lu_ne, hL])
      have : k = L 0 3 := by omega
      subst this
      exact hret _ _ ⟨rfl, by rw [ha]; rfl⟩
    | succ n ih =>
      intro k a hk ha
      have hB := w8 k (by omega)
      refine hK [(4, [0, 1, 2, 3])] 40 _ _ ?_
      conv => whnf
      repeat' (first
        | (refine ⟨fun c => ?_, fun c => ?_⟩ <;> (try simp (disch := omega) only [nI_leI, nI_ltI, nI_eq, nz_eq, nz_lt, nz_gt, nz_le, nz_ge, nz_00, nz_10, nz_n1, nI_add, pk_mul, pk_sub, nI_shl1, nI_or, nI_half2, nI_min2, la_put_eq, la_up, lr_same, lr_ne, lu_same, lu_ne, hL] at c) <;> first | (exfalso; omega) | conv => whnf)
        | (refine ⟨_, rfl, by omega, ?_⟩; conv => whnf)
        | (refine And.intro (by decide) ?_; conv => whnf))
      all_goals (try simp (disch := omega) only [nI_leI, nI_ltI, nI_eq, nz_eq, nz_lt, nz_gt, nz_le, nz_ge, nz_00, nz_10, nz_n1, nI_add, pk_mul, pk_sub, nI_shl1, nI_or, nI_half2, nI_min2, la_put_eq, la_up, lr_same, lr_ne, lu_same, lu_ne, hL])
      all_goals (refine ih (k + 1) _ (by omega) ?_; rw [sp_or, ← ha]; first | rw [if_pos (by omega)] | rw [if_neg (by omega), Nat.or_zero])
  refine hK [(4, [0, 1, 2, 3])] 10 _ _ ?_
  conv => whnf
  repeat' (first
    | (refine ⟨fun c => ?_, fun c => ?_⟩ <;> (try simp (disch := omega) only [nI_leI, nI_ltI, nI_eq, nz_eq, nz_lt, nz_gt, nz_le, nz_ge, nz_00, nz_10, nz_n1, nI_add, pk_mul, pk_sub, nI_shl1, nI_or, nI_half2, nI_min2, la_put_eq, la_up, lr_same, lr_ne, lu_same, lu_ne, hL] at c) <;> first | (exfalso; omega) | conv => whnf)
    | (refine ⟨_, rfl, by omega, ?_⟩; conv => whnf)
    | (refine And.intro (by decide) ?_; conv => whnf))
  all_goals (try simp (disch := omega) only [nI_leI, nI_ltI, nI_eq, nz_eq, nz_lt, nz_gt, nz_le, nz_ge, nz_00, nz_10, nz_n1, nI_add, pk_mul, pk_sub, nI_shl1, nI_or, nI_half2, nI_min2, la_put_eq, la_up, lr_same, lr_ne, lu_same, lu_ne, hL])
  exact loop (L 0 3) 0 0 (by omega) rfl
theorem M_X0_loreOf : pm_MT yX0_loreOf cX0_loreOf 4 1 1 P_X0_loreOf (pm_pi Q_X0_loreOf) := pm_met k_X0_loreOf (by decide) rfl (by
  rintro ⟨g0, g1, g2, g3⟩ av h hp
  rw [hp.1]
  exact Nat.le_of_ble_eq_true rfl) pf_X0_loreOf
theorem rc_X0_loreOf : ∀ g av h, P_X0_loreOf g av h → ∃ i t, av = .inr (.inr (0, i, 0)) :: t := by
  rintro ⟨g0, g1, g2, g3⟩ av h hp
  exact ⟨_, _, hp.1⟩
/-- allLore() -/
def P_X0_allLore : Nat × LD × pm_H → List pm_V → pm_H → Prop := fun g av h => match g with
  | (i, L, h0) => av = [vR 0 i 0] ∧ h = h0 ∧ la_at h0 i L ∧ la_ok L
def Q_X0_allLore : Nat × LD × pm_H → Int32 → pm_H → Prop := fun g v h => match g with
  | (i, L, h0) => h = h0 ∧ v = nI (sp_allLore L)
def T_X0_allLore : List (Nat × pm_T) := [
  (0, i_c (nI 0) 1),
  (1, i_is 1 2),
  (2, i_c (nI 0) 3),
  (3, i_is 2 4),
  (4, i_il 2 5),
  (5, i_al 0 6),
  (6, i_gi 0 3 9),
  (9, i_icge 42 12),
  (12, i_al 0 13),
  (13, i_gr 0 (fun i => (0, i, 5)) 16),
  (16, i_il 2 17),
  (17, i_ia 18),
  (18, i_al 0 19),
  (19, i_gi 0 9 22),
  (22, i_iclt 36 25),
  (25, i_il 1 26),
  (26, i_c (nI 1) 27),
  (27, i_al 0 28),
  (28, i_gr 0 (fun i => (0, i, 4)) 31),
  (31, i_il 2 32),
  (32, i_ia 33),
  (33, i_ishl 34),
  (34, i_ior 35),
  (35, i_is 1 36),
  (36, i_inc 2 (nI 1) 39),
  (39, i_go 4),
  (42, i_il 1 43),
  (43, i_ir)]
theorem k_X0_allLore : ∀ q ∈ T_X0_allLore, pm_sd RX0 cX0_allLore 3 1 1 q.1 q.2 := by
  unfold T_X0_allLore
  refine pm_cn (sd_iconst (z := 0) (by decide +kernel) (by decide +kernel) rfl) ?_
  refine pm_cn (sd_isn (k := 1) (by decide +kernel) rfl rfl (by decide)) ?_
  refine pm_cn (sd_iconst (z := 0) (by decide +kernel) (by decide +kernel) rfl) ?_
  refine pm_cn (sd_isn (k := 2) (by decide +kernel) rfl rfl (by decide)) ?_
  refine pm_cn (sd_iln (k := 2) (by decide +kernel) rfl rfl) ?_
  refine pm_cn (sd_aln (k := 0) (by decide +kernel) rfl rfl) ?_
  refine pm_cn (sd_gi cl0_ in0_ (by decide) (fun _ => rfl) fl_X0_46 (by decide +kernel) rfl) ?_
  refine pm_cn (sd_icge (off := 33) (by decide +kernel) (by decide) rfl) ?_
  refine pm_cn (sd_aln (k := 0) (by decide +kernel) rfl rfl) ?_
  refine pm_cn (sd_gr cl0_ in0_ (j := 6) (by decide) (fun _ => rfl) fl_X0_24 (by decide +kernel) rfl) ?_
  refine pm_cn (sd_iln (k := 2) (by decide +kernel) rfl rfl) ?_
  refine pm_cn (sd_ia (by decide +kernel) rfl) ?_
  refine pm_cn (sd_aln (k := 0) (by decide +kernel) rfl rfl) ?_
  refine pm_cn (sd_gi cl0_ in0_ (by decide) (fun _ => rfl) fl_X0_34 (by decide +kernel) rfl) ?_
  refine pm_cn (sd_iclt (off := 14) (by decide +kernel) (by decide) rfl) ?_
  refine pm_cn (sd_iln (k := 1) (by decide +kernel) rfl rfl) ?_
  refine pm_cn (sd_iconst (z := 1) (by decide +kernel) (by decide +kernel) rfl) ?_
  refine pm_cn (sd_aln (k := 0) (by decide +kernel) rfl rfl) ?_
  refine pm_cn (sd_gr cl0_ in0_ (j := 5) (by decide) (fun _ => rfl) fl_X0_21 (by decide +kernel) rfl) ?_
  refine pm_cn (sd_iln (k := 2) (by decide +kernel) rfl rfl) ?_
  refine pm_cn (sd_ia (by decide +kernel) rfl) ?_
  refine pm_cn (sd_ishl (by decide +kernel) rfl) ?_
  refine pm_cn (sd_ior (by decide +kernel) rfl) ?_
  refine pm_cn (sd_isn (k := 1) (by decide +kernel) rfl rfl (by decide)) ?_
  refine pm_cn (sd_inc (z := 1) (by decide +kernel) (by decide +kernel) rfl (by decide)) ?_
  refine pm_cn (sd_go (off := -35) (by decide +kernel) (by decide)) ?_
  refine pm_cn (sd_iln (k := 1) (by decide +kernel) rfl rfl) ?_
  refine pm_cn (sd_ir (by decide +kernel)) ?_
  exact fun _ h => absurd h List.not_mem_nil
set_option maxHeartbeats 4000000 in
set_option maxRecDepth 100000 in
theorem pf_X0_allLore : pm_pf T_X0_allLore P_X0_allLore (pm_pi Q_X0_allLore) := by
  rintro ⟨i, L, h0⟩ av h K hK ⟨rfl, rfl, hL, ⟨w1, w2, w3, w4, w5, w6, w7, w8, w9⟩⟩ hret
  show K (some 0) ([(0, vR 0 i 0)], [], h)
  have loop : ∀ n k a, k + n = L 0 3 → a = sp_or (fun b => if L 0 9 ≤ L 5 b then 2 ^ L 4 b else 0) k → K (some 4) ([(0, vR 0 i 0), (1, vI (nI a)), (2, vI (nI k))], [], h) := by
    intro n
    induction n with
    | zero =>
      intro k a hk ha
      refine hK [(4, [0, 1, 2])] 40 _ _ ?_
      conv => whnf
      repeat' (first
        | (refine ⟨fun c => ?_, fun c => ?_⟩ <;> (try simp (disch := omega) only [nI_leI, nI_ltI, nI_eq, nz_eq, nz_lt, nz_gt, nz_le, nz_ge, nz_00, nz_10, nz_n1, nI_add, pk_mul, pk_sub, nI_shl1, nI_or, nI_half2, nI_min2, la_put_eq, la_up, lr_same, lr_ne, lu_same, lu_ne, hL] at c) <;> first | (exfalso; omega) | conv => whnf)
        | (refine ⟨_, rfl, by omega, ?_⟩; conv => whnf)
        | (refine And.intro (by decide) ?_; conv => whnf))
      all_goals (try simp (disch := omega) only [nI_leI, nI_ltI, nI_eq, nz_eq, nz_lt, nz_gt, nz_le, nz_ge, nz_00, nz_10, nz_n1, nI_add, pk_mul, pk_sub, nI_shl1, nI_or, nI_half2, nI_min2, la_put_eq, la_up, lr_same, lr_ne, lu_same, lu_ne, hL])
      have : k = L 0 3 := by omega
      subst this
      exact hret _ _ ⟨rfl, by rw [ha]; rfl⟩
    | succ n ih =>
      intro k a hk ha
      have hB := w8 k (by omega)
      refine hK [(4, [0, 1, 2])] 40 _ _ ?_
      conv => whnf
      repeat' (first
        | (refine ⟨fun c => ?_, fun c => ?_⟩ <;> (try simp (disch := omega) only [nI_leI, nI_ltI, nI_eq, nz_eq, nz_lt, nz_gt, nz_le, nz_ge, nz_00, nz_10, nz_n1, nI_add, pk_mul, pk_sub, nI_shl1, nI_or, nI_half2, nI_min2, la_put_eq, la_up, lr_same, lr_ne, lu_same, lu_ne, hL] at c) <;> first | (exfalso; omega) | conv => whnf)
        | (refine ⟨_, rfl, by omega, ?_⟩; conv => whnf)
        | (refine And.intro (by decide) ?_; conv => whnf))
      all_goals (try simp (disch := omega) only [nI_leI, nI_ltI, nI_eq, nz_eq, nz_lt, nz_gt, nz_le, nz_ge, nz_00, nz_10, nz_n1, nI_add, pk_mul, pk_sub, nI_shl1, nI_or, nI_half2, nI_min2, la_put_eq, la_up, lr_same, lr_ne, lu_same, lu_ne, hL])
      · refine ih (k + 1) _ (by omega) ?_
        rw [sp_or, ← ha, if_neg (by omega), Nat.or_zero]
      · refine ih (k + 1) _ (by omega) ?_
        rw [sp_or, ← ha, if_pos (by omega)]
  refine hK [(4, [0, 1, 2])] 10 _ _ ?_
  conv => whnf
  repeat' (first
    | (refine ⟨fun c => ?_, fun c => ?_⟩ <;> (try simp (disch := omega) only [nI_leI, nI_ltI, nI_eq, nz_eq, nz_lt, nz_gt, nz_le, nz_ge, nz_00, nz_10, nz_n1, nI_add, pk_mul, pk_sub, nI_shl1, nI_or, nI_half2, nI_min2, la_put_eq, la_up, lr_same, lr_ne, lu_same, lu_ne, hL] at c) <;> first | (exfalso; omega) | conv => whnf)
    | (refine ⟨_, rfl, by omega, ?_⟩; conv => whnf)
    | (refine And.intro (by decide) ?_; conv => whnf))
  all_goals (try simp (disch := omega) only [nI_leI, nI_ltI, nI_eq, nz_eq, nz_lt, nz_gt, nz_le, nz_ge, nz_00, nz_10, nz_n1, nI_add, pk_mul, pk_sub, nI_shl1, nI_or, nI_half2, nI_min2, la_put_eq, la_up, lr_same, lr_ne, lu_same, lu_ne, hL])
  exact loop (L 0 3) 0 0 (by omega) rfl
theorem M_X0_allLore : pm_MT yX0_allLore cX0_allLore 3 1 1 P_X0_allLore (pm_pi Q_X0_allLore) := pm_met k_X0_allLore (by decide) rfl (by
  rintro ⟨g0, g1, g2⟩ av h hp
  rw [hp.1]
  exact Nat.le_of_ble_eq_true rfl) pf_X0_allLore
theorem rc_X0_allLore : ∀ g av h, P_X0_allLore g av h → ∃ i t, av = .inr (.inr (0, i, 0)) :: t := by
  rintro ⟨g0, g1, g2⟩ av h hp
  exact ⟨_, _, hp.1⟩
/-- ownedBy(f) -/
def P_X0_ownedBy : Nat × Nat × LD × pm_H → List pm_V → pm_H → Prop := fun g av h => match g with
  | (i, s, L, h0) => av = [vR 0 i 0, vI (nI s)] ∧ h = h0 ∧ la_at h0 i L ∧ la_ok L ∧ s < 2 ^ 31
def Q_X0_ownedBy : Nat × Nat × LD × pm_H → Int32 → pm_H → Prop := fun g v h => match g with
  | (i, s, L, h0) => h = h0 ∧ v = nI (sp_owned L s)
def T_X0_ownedBy : List (Nat × pm_T) := [
  (0, i_c (nI 0) 1),
  (1, i_is 2 2),
  (2, i_c (nI 0) 3),
  (3, i_is 3 4),
  (4, i_il 3 5),
  (5, i_al 0 6),
  (6, i_gi 0 3 9),
  (9, i_icge 34 12),
  (12, i_al 0 13),
  (13, i_gr 0 (fun i => (0, i, 6)) 16),
  (16, i_il 3 17),
  (17, i_ia 18),
  (18, i_il 1 19),
  (19, i_icne 28 22),
  (22, i_il 2 23),
  (23, i_c (nI 1) 24),
  (24, i_il 3 25),
  (25, i_ishl 26),
  (26, i_ior 27),
  (27, i_is 2 28),
  (28, i_inc 3 (nI 1) 31),
  (31, i_go 4),
  (34, i_il 2 35),
  (35, i_ir)]
theorem k_X0_ownedBy : ∀ q ∈ T_X0_ownedBy, pm_sd RX0 cX0_ownedBy 4 1 1 q.1 q.2 := by
  unfold T_X0_ownedBy
  refine pm_cn (sd_iconst (z := 0) (by decide +kernel) (by decide +kernel) rfl) ?_
  refine pm_cn (sd_isn (k := 2) (by decide +kernel) rfl rfl (by decide)) ?_
  refine pm_cn (sd_iconst (z := 0) (by decide +kernel) (by decide +kernel) rfl) ?_
  refine pm_cn (sd_isn (k := 3) (by decide +kernel) rfl rfl (by decide)) ?_
  refine pm_cn (sd_iln (k := 3) (by decide +kernel) rfl rfl) ?_
  refine pm_cn (sd_aln (k := 0) (by decide +kernel) rfl rfl) ?_
  refine pm_cn (sd_gi cl0_ in0_ (by decide) (fun _ => rfl) fl_X0_46 (by decide +kernel) rfl) ?_
  refine pm_cn (sd_icge (off := 25) (by decide +kernel) (by decide) rfl) ?_
  refine pm_cn (sd_aln (k := 0) (by decide +kernel) rfl rfl) ?_
  refine pm_cn (sd_gr cl0_ in0_ (j := 7) (by decide) (fun _ => rfl) fl_X0_27 (by decide +kernel) rfl) ?_
  refine pm_cn (sd_iln (k := 3) (by decide +kernel) rfl rfl) ?_
  refine pm_cn (sd_ia (by decide +kernel) rfl) ?_
  refine pm_cn (sd_iln (k := 1) (by decide +kernel) rfl rfl) ?_
  refine pm_cn (sd_icne (off := 9) (by decide +kernel) (by decide) rfl) ?_
  refine pm_cn (sd_iln (k := 2) (by decide +kernel) rfl rfl) ?_
  refine pm_cn (sd_iconst (z := 1) (by decide +kernel) (by decide +kernel) rfl) ?_
  refine pm_cn (sd_iln (k := 3) (by decide +kernel) rfl rfl) ?_
  refine pm_cn (sd_ishl (by decide +kernel) rfl) ?_
  refine pm_cn (sd_ior (by decide +kernel) rfl) ?_
  refine pm_cn (sd_isn (k := 2) (by decide +kernel) rfl rfl (by decide)) ?_
  refine pm_cn (sd_inc (z := 1) (by decide +kernel) (by decide +kernel) rfl (by decide)) ?_
  refine pm_cn (sd_go (off := -27) (by decide +kernel) (by decide)) ?_
  refine pm_cn (sd_iln (k := 2) (by decide +kernel) rfl rfl) ?_
  refine pm_cn (sd_ir (by decide +kernel)) ?_
  exact fun _ h => absurd h List.not_mem_nil
set_option maxHeartbeats 4000000 in
set_option maxRecDepth 100000 in
theorem pf_X0_ownedBy : pm_pf T_X0_ownedBy P_X0_ownedBy (pm_pi Q_X0_ownedBy) := by
  rintro ⟨i, s, L, h0⟩ av h K hK ⟨rfl, rfl, hL, ⟨w1, w2, w3, w4, w5, w6, w7, w8, w9⟩, hs⟩ hret
  show K (some 0) ([(0, vR 0 i 0), (1, vI (nI s))], [], h)
  have loop : ∀ n k a, k + n = L 0 3 → a = sp_or (fun b => if L 6 b = s then 2 ^ b else 0) k → K (some 4) ([(0, vR 0 i 0), (1, vI (nI s)), (2, vI (nI a)), (3, vI (nI k))], [], h) := by
    intro n
    induction n with
    | zero =>
      intro k a hk ha
      refine hK [(4, [0, 1, 2, 3])] 40 _ _ ?_
      conv => whnf
      repeat' (first
        | (refine ⟨fun c => ?_, fun c => ?_⟩ <;> (try simp (disch := omega) only [nI_leI, nI_ltI, nI_eq, nz_eq, nz_lt, nz_gt, nz_le, nz_ge, nz_00, nz_10, nz_n1, nI_add, pk_mul, pk_sub, nI_shl1, nI_or, nI_half2, nI_min2, la_put_eq, la_up, lr_same, lr_ne, lu_same, lu_ne, hL] at c) <;> first | (exfalso; omega) | conv => whnf)
        | (refine ⟨_, rfl, by omega, ?_⟩; conv => whnf)
        | (refine And.intro (by decide) ?_; conv => whnf))
      all_goals (try simp (disch := omega) only [nI_leI, nI_ltI, nI_eq, nz_eq, nz_lt, nz_gt, nz_le, nz_ge, nz_00, nz_10, nz_n1, nI_add, pk_mul, pk_sub, nI_shl1, nI_or, nI_half2, nI_min2, la_put_eq, la_up, lr_same, lr_ne, lu_same, lu_ne, hL])
      have : k = L 0 3 := by omega
      subst this
      exact hret _ _ ⟨rfl, by rw [ha]; rfl⟩
    | succ n ih =>
      intro k a hk ha
      have hB := w8 k (by omega)
      refine hK [(4, [0, 1, 2, 3])] 40 _ _ ?_
      conv => whnf
      repeat' (first
        | (refine ⟨fun c => ?_, fun c => ?_⟩ <;> (try simp (disch := omega) only [nI_leI, nI_ltI, nI_eq, nz_eq, nz_lt, nz_gt, nz_le, nz_ge, nz_00, nz_10, nz_n1, nI_add, pk_mul, pk_sub, nI_shl1, nI_or, nI_half2, nI_min2, la_put_eq, la_up, lr_same, lr_ne, lu_same, lu_ne, hL] at c) <;> first | (exfalso; omega) | conv => whnf)
        | (refine ⟨_, rfl, by omega, ?_⟩; conv => whnf)
        | (refine And.intro (by decide) ?_; conv => whnf))
      all_goals (try simp (disch := omega) only [nI_leI, nI_ltI, nI_eq, nz_eq, nz_lt, nz_gt, nz_le, nz_ge, nz_00, nz_10, nz_n1, nI_add, pk_mul, pk_sub, nI_shl1, nI_or, nI_half2, nI_min2, la_put_eq, la_up, lr_same, lr_ne, lu_same, lu_ne, hL])
      all_goals (refine ih (k + 1) _ (by omega) ?_; rw [sp_or, ← ha]; first | rw [if_pos (by omega)] | rw [if_neg (by omega), Nat.or_zero])
  refine hK [(4, [0, 1, 2, 3])] 10 _ _ ?_
  conv => whnf
  repeat' (first
    | (refine ⟨fun c => ?_, fun c => ?_⟩ <;> (try simp (disch := omega) only [nI_leI, nI_ltI, nI_eq, nz_eq, nz_lt, nz_gt, nz_le, nz_ge, nz_00, nz_10, nz_n1, nI_add, pk_mul, pk_sub, nI_shl1, nI_or, nI_half2, nI_min2, la_put_eq, la_up, lr_same, lr_ne, lu_same, lu_ne, hL] at c) <;> first | (exfalso; omega) | conv => whnf)
    | (refine ⟨_, rfl, by omega, ?_⟩; conv => whnf)
    | (refine And.intro (by decide) ?_; conv => whnf))
  all_goals (try simp (disch := omega) only [nI_leI, nI_ltI, nI_eq, nz_eq, nz_lt, nz_gt, nz_le, nz_ge, nz_00, nz_10, nz_n1, nI_add, pk_mul, pk_sub, nI_shl1, nI_or, nI_half2, nI_min2, la_put_eq, la_up, lr_same, lr_ne, lu_same, lu_ne, hL])
  exact loop (L 0 3) 0 0 (by omega) rfl
theorem M_X0_ownedBy : pm_MT yX0_ownedBy cX0_ownedBy 4 1 1 P_X0_ownedBy (pm_pi Q_X0_ownedBy) := pm_met k_X0_ownedBy (by decide) rfl (by
  rintro ⟨g0, g1, g2, g3⟩ av h hp
  rw [hp.1]
  exact Nat.le_of_ble_eq_true rfl) pf_X0_ownedBy
theorem rc_X0_ownedBy : ∀ g av h, P_X0_ownedBy g av h → ∃ i t, av = .inr (.inr (0, i, 0)) :: t := by
  rintro ⟨g0, g1, g2, g3⟩ av h hp
  exact ⟨_, _, hp.1⟩
/-- crumbsOf(f) -/
def P_X0_crumbsOf : Nat × Nat × LD × pm_H → List pm_V → pm_H → Prop := fun g av h => match g with
  | (i, s, L, h0) => av = [vR 0 i 0, vI (nI s)] ∧ h = h0 ∧ la_at h0 i L ∧ la_ok L ∧ s < 2 ^ 31
def Q_X0_crumbsOf : Nat × Nat × LD × pm_H → Int32 → pm_H → Prop := fun g v h => match g with
  | (i, s, L, h0) => h = h0 ∧ v = nI (sp_crumbsOf L s)
def T_X0_crumbsOf : List (Nat × pm_T) := [
  (0, i_c (nI 0) 1),
  (1, i_is 2 2),
  (2, i_c (nI 0) 3),
  (3, i_is 3 4),
  (4, i_il 3 5),
  (5, i_al 0 6),
  (6, i_gi 0 3 9),
  (9, i_icge 37 12),
  (12, i_al 0 13),
  (13, i_gr 0 (fun i => (0, i, 6)) 16),
  (16, i_il 3 17),
  (17, i_ia 18),
  (18, i_il 1 19),
  (19, i_icne 31 22),
  (22, i_il 2 23),
  (23, i_al 0 24),
  (24, i_gr 0 (fun i => (0, i, 5)) 27),
  (27, i_il 3 28),
  (28, i_ia 29),
  (29, i_iadd 30),
  (30, i_is 2 31),
  (31, i_inc 3 (nI 1) 34),
  (34, i_go 4),
  (37, i_il 2 38),
  (38, i_ir)]
theorem k_X0_crumbsOf : ∀ q ∈ T_X0_crumbsOf, pm_sd RX0 cX0_crumbsOf 4 1 1 q.1 q.2 := by
  unfold T_X0_crumbsOf
  refine pm_cn (sd_iconst (z := 0) (by decide +kernel) (by decide +kernel) rfl) ?_
  refine pm_cn (sd_isn (k := 2) (by decide +kernel) rfl rfl (by decide)) ?_
  refine pm_cn (sd_iconst (z := 0) (by decide +kernel) (by decide +kernel) rfl) ?_
  refine pm_cn (sd_isn (k := 3) (by decide +kernel) rfl rfl (by decide)) ?_
  refine pm_cn (sd_iln (k := 3) (by decide +kernel) rfl rfl) ?_
  refine pm_cn (sd_aln (k := 0) (by decide +kernel) rfl rfl) ?_
  refine pm_cn (sd_gi cl0_ in0_ (by decide) (fun _ => rfl) fl_X0_46 (by decide +kernel) rfl) ?_
  refine pm_cn (sd_icge (off := 28) (by decide +kernel) (by decide) rfl) ?_
  refine pm_cn (sd_aln (k := 0) (by decide +kernel) rfl rfl) ?_
  refine pm_cn (sd_gr cl0_ in0_ (j := 7) (by decide) (fun _ => rfl) fl_X0_27 (by decide +kernel) rfl) ?_
  refine pm_cn (sd_iln (k := 3) (by decide +kernel) rfl rfl) ?_
  refine pm_cn (sd_ia (by decide +kernel) rfl) ?_
  refine pm_cn (sd_iln (k := 1) (by decide +kernel) rfl rfl) ?_
  refine pm_cn (sd_icne (off := 12) (by decide +kernel) (by decide) rfl) ?_
  refine pm_cn (sd_iln (k := 2) (by decide +kernel) rfl rfl) ?_
  refine pm_cn (sd_aln (k := 0) (by decide +kernel) rfl rfl) ?_
  refine pm_cn (sd_gr cl0_ in0_ (j := 6) (by decide) (fun _ => rfl) fl_X0_24 (by decide +kernel) rfl) ?_
  refine pm_cn (sd_iln (k := 3) (by decide +kernel) rfl rfl) ?_
  refine pm_cn (sd_ia (by decide +kernel) rfl) ?_
  refine pm_cn (sd_iadd (by decide +kernel) rfl) ?_
  refine pm_cn (sd_isn (k := 2) (by decide +kernel) rfl rfl (by decide)) ?_
  refine pm_cn (sd_inc (z := 1) (by decide +kernel) (by decide +kernel) rfl (by decide)) ?_
  refine pm_cn (sd_go (off := -30) (by decide +kernel) (by decide)) ?_
  refine pm_cn (sd_iln (k := 2) (by decide +kernel) rfl rfl) ?_
  refine pm_cn (sd_ir (by decide +kernel)) ?_
  exact fun _ h => absurd h List.not_mem_nil
set_option maxHeartbeats 4000000 in
set_option maxRecDepth 100000 in
theorem pf_X0_crumbsOf : pm_pf T_X0_crumbsOf P_X0_crumbsOf (pm_pi Q_X0_crumbsOf) := by
  rintro ⟨i, s, L, h0⟩ av h K hK ⟨rfl, rfl, hL, ⟨w1, w2, w3, w4, w5, w6, w7, w8, w9⟩, hs⟩ hret
  show K (some 0) ([(0, vR 0 i 0), (1, vI (nI s))], [], h)
  have loop : ∀ n k a, k + n = L 0 3 → a = sp_sum (fun b => if L 6 b = s then L 5 b else 0) k → K (some 4) ([(0, vR 0 i 0), (1, vI (nI s)), (2, vI (nI a)), (3, vI (nI k))], [], h) := by
    intro n
    induction n with
    | zero =>
      intro k a hk ha
      refine hK [(4, [0, 1, 2, 3])] 40 _ _ ?_
      conv => whnf
      repeat' (first
        | (refine ⟨fun c => ?_, fun c => ?_⟩ <;> (try simp (disch := omega) only [nI_leI, nI_ltI, nI_eq, nz_eq, nz_lt, nz_gt, nz_le, nz_ge, nz_00, nz_10, nz_n1, nI_add, pk_mul, pk_sub, nI_shl1, nI_or, nI_half2, nI_min2, la_put_eq, la_up, lr_same, lr_ne, lu_same, lu_ne, hL] at c) <;> first | (exfalso; omega) | conv => whnf)
        | (refine ⟨_, rfl, by omega, ?_⟩; conv => whnf)
        | (refine And.intro (by decide) ?_; conv => whnf))
      all_goals (try simp (disch := omega) only [nI_leI, nI_ltI, nI_eq, nz_eq, nz_lt, nz_gt, nz_le, nz_ge, nz_00, nz_10, nz_n1, nI_add, pk_mul, pk_sub, nI_shl1, nI_or, nI_half2, nI_min2, la_put_eq, la_up, lr_same, lr_ne, lu_same, lu_ne, hL])
      have : k = L 0 3 := by omega
      subst this
      exact hret _ _ ⟨rfl, by rw [ha]; rfl⟩
    | succ n ih =>
      intro k a hk ha
      have hB := w8 k (by omega)
      refine hK [(4, [0, 1, 2, 3])] 40 _ _ ?_
      conv => whnf
      repeat' (first
        | (refine ⟨fun c => ?_, fun c => ?_⟩ <;> (try simp (disch := omega) only [nI_leI, nI_ltI, nI_eq, nz_eq, nz_lt, nz_gt, nz_le, nz_ge, nz_00, nz_10, nz_n1, nI_add, pk_mul, pk_sub, nI_shl1, nI_or, nI_half2, nI_min2, la_put_eq, la_up, lr_same, lr_ne, lu_same, lu_ne, hL] at c) <;> first | (exfalso; omega) | conv => whnf)
        | (refine ⟨_, rfl, by omega, ?_⟩; conv => whnf)
        | (refine And.intro (by decide) ?_; conv => whnf))
      all_goals (try simp (disch := omega) only [nI_leI, nI_ltI, nI_eq, nz_eq, nz_lt, nz_gt, nz_le, nz_ge, nz_00, nz_10, nz_n1, nI_add, pk_mul, pk_sub, nI_shl1, nI_or, nI_half2, nI_min2, la_put_eq, la_up, lr_same, lr_ne, lu_same, lu_ne, hL])
      all_goals (refine ih (k + 1) _ (by omega) ?_; rw [sp_sum, ← ha]; simp [*])
  refine hK [(4, [0, 1, 2, 3])] 10 _ _ ?_
  conv => whnf
  repeat' (first
    | (refine ⟨fun c => ?_, fun c => ?_⟩ <;> (try simp (disch := omega) only [nI_leI, nI_ltI, nI_eq, nz_eq, nz_lt, nz_gt, nz_le, nz_ge, nz_00, nz_10, nz_n1, nI_add, pk_mul, pk_sub, nI_shl1, nI_or, nI_half2, nI_min2, la_put_eq, la_up, lr_same, lr_ne, lu_same, lu_ne, hL] at c) <;> first | (exfalso; omega) | conv => whnf)
    | (refine ⟨_, rfl, by omega, ?_⟩; conv => whnf)
    | (refine And.intro (by decide) ?_; conv => whnf))
  all_goals (try simp (disch := omega) only [nI_leI, nI_ltI, nI_eq, nz_eq, nz_lt, nz_gt, nz_le, nz_ge, nz_00, nz_10, nz_n1, nI_add, pk_mul, pk_sub, nI_shl1, nI_or, nI_half2, nI_min2, la_put_eq, la_up, lr_same, lr_ne, lu_same, lu_ne, hL])
  exact loop (L 0 3) 0 0 (by omega) rfl
theorem M_X0_crumbsOf : pm_MT yX0_crumbsOf cX0_crumbsOf 4 1 1 P_X0_crumbsOf (pm_pi Q_X0_crumbsOf) := pm_met k_X0_crumbsOf (by decide) rfl (by
  rintro ⟨g0, g1, g2, g3⟩ av h hp
  rw [hp.1]
  exact Nat.le_of_ble_eq_true rfl) pf_X0_crumbsOf
theorem rc_X0_crumbsOf : ∀ g av h, P_X0_crumbsOf g av h → ∃ i t, av = .inr (.inr (0, i, 0)) :: t := by
  rintro ⟨g0, g1, g2, g3⟩ av h hp
  exact ⟨_, _, hp.1⟩
/-- sumOf(row, n) -/
def P_X0_sumOf : Nat × Nat × Nat × LD × pm_H → List pm_V → pm_H → Prop := fun g av h => match g with
  | (i, s, n, L, h0) => av = [vR 0 i s, vI (nI n)] ∧ h = h0 ∧ la_at h0 i L ∧ ((s = 1 ∧ n ≤ 4) ∨ (s = 2 ∧ n ≤ 4) ∨ (s = 5 ∧ n ≤ 6))
def Q_X0_sumOf : Nat × Nat × Nat × LD × pm_H → Int32 → pm_H → Prop := fun g v h => match g with
  | (i, s, n, L, h0) => h = h0 ∧ v = nI (sp_sum (L s) n)
def T_X0_sumOf : List (Nat × pm_T) := [
  (0, i_c (nI 0) 1),
  (1, i_is 2 2),
  (2, i_c (nI 0) 3),
  (3, i_is 3 4),
  (4, i_il 3 5),
  (5, i_il 1 6),
  (6, i_icge 27 9),
  (9, i_il 3 10),
  (10, i_al 0 11),
  (11, i_len 12),
  (12, i_icge 27 15),
  (15, i_il 2 16),
  (16, i_al 0 17),
  (17, i_il 3 18),
  (18, i_ia 19),
  (19, i_iadd 20),
  (20, i_is 2 21),
  (21, i_inc 3 (nI 1) 24),
  (24, i_go 4),
  (27, i_il 2 28),
  (28, i_ir)]
theorem k_X0_sumOf : ∀ q ∈ T_X0_sumOf, pm_sd RX0 cX0_sumOf 4 1 1 q.1 q.2 := by
  unfold T_X0_sumOf
  refine pm_cn (sd_iconst (z := 0) (by decide +kernel) (by decide +kernel) rfl) ?_
  refine pm_cn (sd_isn (k := 2) (by decide +kernel) rfl rfl (by decide)) ?_
  refine pm_cn (sd_iconst (z := 0) (by decide +kernel) (by decide +kernel) rfl) ?_
  refine pm_cn (sd_isn (k := 3) (by decide +kernel) rfl rfl (by decide)) ?_
  refine pm_cn (sd_iln (k := 3) (by decide +kernel) rfl rfl) ?_
  refine pm_cn (sd_iln (k := 1) (by decide +kernel) rfl rfl) ?_
  refine pm_cn (sd_icge (off := 21) (by decide +kernel) (by decide) rfl) ?_
  refine pm_cn (sd_iln (k := 3) (by decide +kernel) rfl rfl) ?_
  refine pm_cn (sd_aln (k := 0) (by decide +kernel) rfl rfl) ?_
  refine pm_cn (sd_len (by decide +kernel) rfl) ?_
  refine pm_cn (sd_icge (off := 15) (by decide +kernel) (by decide) rfl) ?_
  refine pm_cn (sd_iln (k := 2) (by decide +kernel) rfl rfl) ?_
  refine pm_cn (sd_aln (k := 0) (by decide +kernel) rfl rfl) ?_
  refine pm_cn (sd_iln (k := 3) (by decide +kernel) rfl rfl) ?_
  refine pm_cn (sd_ia (by decide +kernel) rfl) ?_
  refine pm_cn (sd_iadd (by decide +kernel) rfl) ?_
  refine pm_cn (sd_isn (k := 2) (by decide +kernel) rfl rfl (by decide)) ?_
  refine pm_cn (sd_inc (z := 1) (by decide +kernel) (by decide +kernel) rfl (by decide)) ?_
  refine pm_cn (sd_go (off := -20) (by decide +kernel) (by decide)) ?_
  refine pm_cn (sd_iln (k := 2) (by decide +kernel) rfl rfl) ?_
  refine pm_cn (sd_ir (by decide +kernel)) ?_
  exact fun _ h => absurd h List.not_mem_nil
set_option maxHeartbeats 4000000 in
set_option maxRecDepth 100000 in
theorem pf_X0_sumOf : pm_pf T_X0_sumOf P_X0_sumOf (pm_pi Q_X0_sumOf) := by
  rintro ⟨i, s, N, L, h0⟩ av h K hK ⟨rfl, rfl, hL, hc⟩ hret
  show K (some 0) ([(0, vR 0 i s), (1, vI (nI N))], [], h)
  have hN : N ≤ 6 := by omega
  have loop : ∀ n k a, k + n = N → a = sp_sum (L s) k → K (some 4) ([(0, vR 0 i s), (1, vI (nI N)), (2, vI (nI a)), (3, vI (nI k))], [], h) := by
    intro n
    induction n with
    | zero =>
      intro k a hk ha
      have : k = N := by omega
      subst this
      rcases hc with ⟨rfl, hc⟩ | ⟨rfl, hc⟩ | ⟨rfl, hc⟩
      · refine hK [(4, [0, 1, 2, 3])] 40 _ _ ?_
        conv => whnf
        repeat' (first
          | (refine ⟨fun c => ?_, fun c => ?_⟩ <;> (try simp (disch := omega) only [nI_leI, nI_ltI, nI_eq, nz_eq, nz_lt, nz_gt, nz_le, nz_ge, nz_00, nz_10, nz_n1, nI_add, pk_mul, pk_sub, nI_shl1, nI_or, nI_half2, nI_min2, la_put_eq, la_up, lr_same, lr_ne, lu_same, lu_ne, hL] at c) <;> first | (exfalso; omega) | conv => whnf)
          | (refine ⟨_, rfl, by omega, ?_⟩; conv => whnf)
          | (refine And.intro (by decide) ?_; conv => whnf))
        all_goals (try simp (disch := omega) only [nI_leI, nI_ltI, nI_eq, nz_eq, nz_lt, nz_gt, nz_le, nz_ge, nz_00, nz_10, nz_n1, nI_add, pk_mul, pk_sub, nI_shl1, nI_or, nI_half2, nI_min2, la_put_eq, la_up, lr_same, lr_ne, lu_same, lu_ne, hL])
        all_goals exact hret _ _ ⟨rfl, by rw [ha]⟩
      · refine hK [(4, [0, 1, 2, 3])] 40 _ _ ?_
        conv => whnf
        repeat' (first
          | (refine ⟨fun c => ?_, fun c => ?_⟩ <;> (try simp (disch := omega) only [nI_leI, nI_ltI, nI_eq, nz_eq, nz_lt, nz_gt, nz_le, nz_ge, nz_00, nz_10, nz_n1, nI_add, pk_mul, pk_sub, nI_shl1, nI_or, nI_half2, nI_min2, la_put_eq, la_up, lr_same, lr_ne, lu_same, lu_ne, hL] at c) <;> first | (exfalso; omega) | conv => whnf)
          | (refine ⟨_, rfl, by omega, ?_⟩; conv => whnf)
          | (refine And.intro (by decide) ?_; conv => whnf))
        all_goals (try simp (disch := omega) only [nI_leI, nI_ltI, nI_eq, nz_eq, nz_lt, nz_gt, nz_le, nz_ge, nz_00, nz_10, nz_n1, nI_add, pk_mul, pk_sub, nI_shl1, nI_or, nI_half2, nI_min2, la_put_eq, la_up, lr_same, lr_ne, lu_same, lu_ne, hL])
        all_goals exact hret _ _ ⟨rfl, by rw [ha]⟩
      · refine hK [(4, [0, 1, 2, 3])] 40 _ _ ?_
        conv => whnf
        repeat' (first
          | (refine ⟨fun c => ?_, fun c => ?_⟩ <;> (try simp (disch := omega) only [nI_leI, nI_ltI, nI_eq, nz_eq, nz_lt, nz_gt, nz_le, nz_ge, nz_00, nz_10, nz_n1, nI_add, pk_mul, pk_sub, nI_shl1, nI_or, nI_half2, nI_min2, la_put_eq, la_up, lr_same, lr_ne, lu_same, lu_ne, hL] at c) <;> first | (exfalso; omega) | conv => whnf)
          | (refine ⟨_, rfl, by omega, ?_⟩; conv => whnf)
          | (refine And.intro (by decide) ?_; conv => whnf))
        all_goals (try simp (disch := omega) only [nI_leI, nI_ltI, nI_eq, nz_eq, nz_lt, nz_gt, nz_le, nz_ge, nz_00, nz_10, nz_n1, nI_add, pk_mul, pk_sub, nI_shl1, nI_or, nI_half2, nI_min2, la_put_eq, la_up, lr_same, lr_ne, lu_same, lu_ne, hL])
        all_goals exact hret _ _ ⟨rfl, by rw [ha]⟩
    | succ n ih =>
      intro k a hk ha
      rcases hc with ⟨rfl, hc⟩ | ⟨rfl, hc⟩ | ⟨rfl, hc⟩
      · refine hK [(4, [0, 1, 2, 3])] 40 _ _ ?_
        conv => whnf
        repeat' (first
          | (refine ⟨fun c => ?_, fun c => ?_⟩ <;> (try simp (disch := omega) only [nI_leI, nI_ltI, nI_eq, nz_eq, nz_lt, nz_gt, nz_le, nz_ge, nz_00, nz_10, nz_n1, nI_add, pk_mul, pk_sub, nI_shl1, nI_or, nI_half2, nI_min2, la_put_eq, la_up, lr_same, lr_ne, lu_same, lu_ne, hL] at c) <;> first | (exfalso; omega) | conv => whnf)
          | (refine ⟨_, rfl, by omega, ?_⟩; conv => whnf)
          | (refine And.intro (by decide) ?_; conv => whnf))
        all_goals (try simp (disch := omega) only [nI_leI, nI_ltI, nI_eq, nz_eq, nz_lt, nz_gt, nz_le, nz_ge, nz_00, nz_10, nz_n1, nI_add, pk_mul, pk_sub, nI_shl1, nI_or, nI_half2, nI_min2, la_put_eq, la_up, lr_same, lr_ne, lu_same, lu_ne, hL])
        exact ih (k + 1) _ (by omega) (by rw [sp_sum, ← ha])
      · refine hK [(4, [0, 1, 2, 3])] 40 _ _ ?_
        conv => whnf
        repeat' (first
          | (refine ⟨fun c => ?_, fun c => ?_⟩ <;> (try simp (disch := omega) only [nI_leI, nI_ltI, nI_eq, nz_eq, nz_lt, nz_gt, nz_le, nz_ge, nz_00, nz_10, nz_n1, nI_add, pk_mul, pk_sub, nI_shl1, nI_or, nI_half2, nI_min2, la_put_eq, la_up, lr_same, lr_ne, lu_same, lu_ne, hL] at c) <;> first | (exfalso; omega) | conv => whnf)
          | (refine ⟨_, rfl, by omega, ?_⟩; conv => whnf)
          | (refine And.intro (by decide) ?_; conv => whnf))
        all_goals (try simp (disch := omega) only [nI_leI, nI_ltI, nI_eq, nz_eq, nz_lt, nz_gt, nz_le, nz_ge, nz_00, nz_10, nz_n1, nI_add, pk_mul, pk_sub, nI_shl1, nI_or, nI_half2, nI_min2, la_put_eq, la_up, lr_same, lr_ne, lu_same, lu_ne, hL])
        exact ih (k + 1) _ (by omega) (by rw [sp_sum, ← ha])
      · refine hK [(4, [0, 1, 2, 3])] 40 _ _ ?_
        conv => whnf
        repeat' (first
          | (refine ⟨fun c => ?_, fun c => ?_⟩ <;> (try simp (disch := omega) only [nI_leI, nI_ltI, nI_eq, nz_eq, nz_lt, nz_gt, nz_le, nz_ge, nz_00, nz_10, nz_n1, nI_add, pk_mul, pk_sub, nI_shl1, nI_or, nI_half2, nI_min2, la_put_eq, la_up, lr_same, lr_ne, lu_same, lu_ne, hL] at c) <;> first | (exfalso; omega) | conv => whnf)
          | (refine ⟨_, rfl, by omega, ?_⟩; conv => whnf)
          | (refine And.intro (by decide) ?_; conv => whnf))
        all_goals (try simp (disch := omega) only [nI_leI, nI_ltI, nI_eq, nz_eq, nz_lt, nz_gt, nz_le, nz_ge, nz_00, nz_10, nz_n1, nI_add, pk_mul, pk_sub, nI_shl1, nI_or, nI_half2, nI_min2, la_put_eq, la_up, lr_same, lr_ne, lu_same, lu_ne, hL])
        exact ih (k + 1) _ (by omega) (by rw [sp_sum, ← ha])
  refine hK [(4, [0, 1, 2, 3])] 10 _ _ ?_
  conv => whnf
  repeat' (first
    | (refine ⟨fun c => ?_, fun c => ?_⟩ <;> (try simp (disch := omega) only [nI_leI, nI_ltI, nI_eq, nz_eq, nz_lt, nz_gt, nz_le, nz_ge, nz_00, nz_10, nz_n1, nI_add, pk_mul, pk_sub, nI_shl1, nI_or, nI_half2, nI_min2, la_put_eq, la_up, lr_same, lr_ne, lu_same, lu_ne, hL] at c) <;> first | (exfalso; omega) | conv => whnf)
    | (refine ⟨_, rfl, by omega, ?_⟩; conv => whnf)
    | (refine And.intro (by decide) ?_; conv => whnf))
  all_goals (try simp (disch := omega) only [nI_leI, nI_ltI, nI_eq, nz_eq, nz_lt, nz_gt, nz_le, nz_ge, nz_00, nz_10, nz_n1, nI_add, pk_mul, pk_sub, nI_shl1, nI_or, nI_half2, nI_min2, la_put_eq, la_up, lr_same, lr_ne, lu_same, lu_ne, hL])
  exact loop N 0 0 (by omega) rfl
theorem M_X0_sumOf : pm_MT yX0_sumOf cX0_sumOf 4 1 1 P_X0_sumOf (pm_pi Q_X0_sumOf) := pm_met k_X0_sumOf (by decide) rfl (by
  rintro ⟨g0, g1, g2, g3, g4⟩ av h hp
  rw [hp.1]
  exact Nat.le_of_ble_eq_true rfl) pf_X0_sumOf
def P_X0_allCrumbs : Nat × LD × pm_H → List pm_V → pm_H → Prop := fun g av h => match g with
  | (i, L, h0) => av = [vR 0 i 0] ∧ h = h0 ∧ la_at h0 i L ∧ la_ok L
def Q_X0_allCrumbs : Nat × LD × pm_H → Int32 → pm_H → Prop := fun g v h => match g with
  | (i, L, h0) => h = h0 ∧ v = nI (sp_sum (L 5) (L 0 3))
def T_X0_allCrumbs : List (Nat × pm_T) := [
  (0, i_al 0 1),
  (1, i_gr 0 (fun i => (0, i, 5)) 4),
  (4, i_al 0 5),
  (5, i_gi 0 3 8),
  (8, i_ci 2 P_X0_sumOf Q_X0_sumOf 11),
  (11, i_ir)]
theorem k_X0_allCrumbs : ∀ q ∈ T_X0_allCrumbs, pm_sd RX0 cX0_allCrumbs 1 2 1 q.1 q.2 := by
  unfold T_X0_allCrumbs
  refine pm_cn (sd_aln (k := 0) (by decide +kernel) rfl rfl) ?_
  refine pm_cn (sd_gr cl0_ in0_ (j := 6) (by decide) (fun _ => rfl) fl_X0_24 (by decide +kernel) rfl) ?_
  refine pm_cn (sd_aln (k := 0) (by decide +kernel) rfl rfl) ?_
  refine pm_cn (sd_gi cl0_ in0_ (by decide) (fun _ => rfl) fl_X0_46 (by decide +kernel) rfl) ?_
  refine pm_cn (sd_cis M_X0_sumOf (by decide) cd_X0_sumOf ml_X0_71 st_X0_sumOf nt_X0 (by decide +kernel) (by decide) (by decide) (by decide +kernel) rfl) ?_
  refine pm_cn (sd_ir (by decide +kernel)) ?_
  exact fun _ h => absurd h List.not_mem_nil
set_option maxHeartbeats 4000000 in
set_option maxRecDepth 100000 in
theorem pf_X0_allCrumbs : pm_pf T_X0_allCrumbs P_X0_allCrumbs (pm_pi Q_X0_allCrumbs) := by
  rintro ⟨i, L, h0⟩ av h K hK ⟨rfl, rfl, hL, hw⟩ hret
  show K (some 0) ([(0, vR 0 i 0)], [], h)
  have w1 := hw.1
  have w2 := hw.2.1
  refine hK [] 20 _ _ ?_
  conv => whnf
  repeat' (first
    | (refine ⟨fun c => ?_, fun c => ?_⟩ <;> (try simp (disch := omega) only [nI_leI, nI_ltI, nI_eq, nz_eq, nz_lt, nz_gt, nz_le, nz_ge, nz_00, nz_10, nz_n1, nI_add, pk_mul, pk_sub, nI_shl1, nI_or, nI_half2, nI_min2, la_put_eq, la_up, lr_same, lr_ne, lu_same, lu_ne, hL] at c) <;> first | (exfalso; omega) | conv => whnf)
    | (refine ⟨_, rfl, by omega, ?_⟩; conv => whnf)
    | (refine And.intro (by decide) ?_; conv => whnf))
  all_goals (try simp (disch := omega) only [nI_leI, nI_ltI, nI_eq, nz_eq, nz_lt, nz_gt, nz_le, nz_ge, nz_00, nz_10, nz_n1, nI_add, pk_mul, pk_sub, nI_shl1, nI_or, nI_half2, nI_min2, la_put_eq, la_up, lr_same, lr_ne, lu_same, lu_ne, hL])
  refine ⟨(i, 5, L 0 3, L, h), ⟨rfl, rfl, hL, by omega⟩, fun v h' hq => ?_⟩
  obtain ⟨rfl, rfl⟩ := hq
  conv => whnf
  repeat' (first
    | (refine ⟨fun c => ?_, fun c => ?_⟩ <;> (try simp (disch := omega) only [nI_leI, nI_ltI, nI_eq, nz_eq, nz_lt, nz_gt, nz_le, nz_ge, nz_00, nz_10, nz_n1, nI_add, pk_mul, pk_sub, nI_shl1, nI_or, nI_half2, nI_min2, la_put_eq, la_up, lr_same, lr_ne, lu_same, lu_ne, hL] at c) <;> first | (exfalso; omega) | conv => whnf)
    | (refine ⟨_, rfl, by omega, ?_⟩; conv => whnf)
    | (refine And.intro (by decide) ?_; conv => whnf))
  all_goals (try simp (disch := omega) only [nI_leI, nI_ltI, nI_eq, nz_eq, nz_lt, nz_gt, nz_le, nz_ge, nz_00, nz_10, nz_n1, nI_add, pk_mul, pk_sub, nI_shl1, nI_or, nI_half2, nI_min2, la_put_eq, la_up, lr_same, lr_ne, lu_same, lu_ne, hL])
  exact hret _ _ ⟨rfl, rfl⟩
theorem M_X0_allCrumbs : pm_MT yX0_allCrumbs cX0_allCrumbs 1 1 2 P_X0_allCrumbs (pm_pi Q_X0_allCrumbs) := pm_met k_X0_allCrumbs (by decide) rfl (by
  rintro ⟨g0, g1, g2⟩ av h hp
  rw [hp.1]
  exact Nat.le_of_ble_eq_true rfl) pf_X0_allCrumbs
theorem rc_X0_allCrumbs : ∀ g av h, P_X0_allCrumbs g av h → ∃ i t, av = .inr (.inr (0, i, 0)) :: t := by
  rintro ⟨g0, g1, g2⟩ av h hp
  exact ⟨_, _, hp.1⟩
def P_X0_allHunger : Nat × LD × pm_H → List pm_V → pm_H → Prop := fun g av h => match g with
  | (i, L, h0) => av = [vR 0 i 0] ∧ h = h0 ∧ la_at h0 i L ∧ la_ok L
def Q_X0_allHunger : Nat × LD × pm_H → Int32 → pm_H → Prop := fun g v h => match g with
  | (i, L, h0) => h = h0 ∧ v = nI (sp_sum (L 2) (L 0 0))
def T_X0_allHunger : List (Nat × pm_T) := [
  (0, i_al 0 1),
  (1, i_gr 0 (fun i => (0, i, 2)) 4),
  (4, i_al 0 5),
  (5, i_gi 0 0 8),
  (8, i_ci 2 P_X0_sumOf Q_X0_sumOf 11),
  (11, i_ir)]
theorem k_X0_allHunger : ∀ q ∈ T_X0_allHunger, pm_sd RX0 cX0_allHunger 1 2 1 q.1 q.2 := by
  unfold T_X0_allHunger
  refine pm_cn (sd_aln (k := 0) (by decide +kernel) rfl rfl) ?_
  refine pm_cn (sd_gr cl0_ in0_ (j := 2) (by decide) (fun _ => rfl) fl_X0_15 (by decide +kernel) rfl) ?_
  refine pm_cn (sd_aln (k := 0) (by decide +kernel) rfl rfl) ?_
  refine pm_cn (sd_gi cl0_ in0_ (by decide) (fun _ => rfl) fl_X0_43 (by decide +kernel) rfl) ?_
  refine pm_cn (sd_cis M_X0_sumOf (by decide) cd_X0_sumOf ml_X0_71 st_X0_sumOf nt_X0 (by decide +kernel) (by decide) (by decide) (by decide +kernel) rfl) ?_
  refine pm_cn (sd_ir (by decide +kernel)) ?_
  exact fun _ h => absurd h List.not_mem_nil
set_option maxHeartbeats 4000000 in
set_option maxRecDepth 100000 in
theorem pf_X0_allHunger : pm_pf T_X0_allHunger P_X0_allHunger (pm_pi Q_X0_allHunger) := by
  rintro ⟨i, L, h0⟩ av h K hK ⟨rfl, rfl, hL, hw⟩ hret
  show K (some 0) ([(0, vR 0 i 0)], [], h)
  have w1 := hw.1
  have w2 := hw.2.1
  refine hK [] 20 _ _ ?_
  conv => whnf
  repeat' (first
    | (refine ⟨fun c => ?_, fun c => ?_⟩ <;> (try simp (disch := omega) only [nI_leI, nI_ltI, nI_eq, nz_eq, nz_lt, nz_gt, nz_le, nz_ge, nz_00, nz_10, nz_n1, nI_add, pk_mul, pk_sub, nI_shl1, nI_or, nI_half2, nI_min2, la_put_eq, la_up, lr_same, lr_ne, lu_same, lu_ne, hL] at c) <;> first | (exfalso; omega) | conv => whnf)
    | (refine ⟨_, rfl, by omega, ?_⟩; conv => whnf)
    | (refine And.intro (by decide) ?_; conv => whnf))
  all_goals (try simp (disch := omega) only [nI_leI, nI_ltI, nI_eq, nz_eq, nz_lt, nz_gt, nz_le, nz_ge, nz_00, nz_10, nz_n1, nI_add, pk_mul, pk_sub, nI_shl1, nI_or, nI_half2, nI_min2, la_put_eq, la_up, lr_same, lr_ne, lu_same, lu_ne, hL])
  refine ⟨(i, 2, L 0 0, L, h), ⟨rfl, rfl, hL, by omega⟩, fun v h' hq => ?_⟩
  obtain ⟨rfl, rfl⟩ := hq
  conv => whnf
  repeat' (first
    | (refine ⟨fun c => ?_, fun c => ?_⟩ <;> (try simp (disch := omega) only [nI_leI, nI_ltI, nI_eq, nz_eq, nz_lt, nz_gt, nz_le, nz_ge, nz_00, nz_10, nz_n1, nI_add, pk_mul, pk_sub, nI_shl1, nI_or, nI_half2, nI_min2, la_put_eq, la_up, lr_same, lr_ne, lu_same, lu_ne, hL] at c) <;> first | (exfalso; omega) | conv => whnf)
    | (refine ⟨_, rfl, by omega, ?_⟩; conv => whnf)
    | (refine And.intro (by decide) ?_; conv => whnf))
  all_goals (try simp (disch := omega) only [nI_leI, nI_ltI, nI_eq, nz_eq, nz_lt, nz_gt, nz_le, nz_ge, nz_00, nz_10, nz_n1, nI_add, pk_mul, pk_sub, nI_shl1, nI_or, nI_half2, nI_min2, la_put_eq, la_up, lr_same, lr_ne, lu_same, lu_ne, hL])
  exact hret _ _ ⟨rfl, rfl⟩
theorem M_X0_allHunger : pm_MT yX0_allHunger cX0_allHunger 1 1 2 P_X0_allHunger (pm_pi Q_X0_allHunger) := pm_met k_X0_allHunger (by decide) rfl (by
  rintro ⟨g0, g1, g2⟩ av h hp
  rw [hp.1]
  exact Nat.le_of_ble_eq_true rfl) pf_X0_allHunger
theorem rc_X0_allHunger : ∀ g av h, P_X0_allHunger g av h → ∃ i t, av = .inr (.inr (0, i, 0)) :: t := by
  rintro ⟨g0, g1, g2⟩ av h hp
  exact ⟨_, _, hp.1⟩
def P_X0_allAppetites : Nat × LD × pm_H → List pm_V → pm_H → Prop := fun g av h => match g with
  | (i, L, h0) => av = [vR 0 i 0] ∧ h = h0 ∧ la_at h0 i L ∧ la_ok L
def Q_X0_allAppetites : Nat × LD × pm_H → Int32 → pm_H → Prop := fun g v h => match g with
  | (i, L, h0) => h = h0 ∧ v = nI (sp_sum (L 1) (L 0 0))
def T_X0_allAppetites : List (Nat × pm_T) := [
  (0, i_al 0 1),
  (1, i_gr 0 (fun i => (0, i, 1)) 4),
  (4, i_al 0 5),
  (5, i_gi 0 0 8),
  (8, i_ci 2 P_X0_sumOf Q_X0_sumOf 11),
  (11, i_ir)]
theorem k_X0_allAppetites : ∀ q ∈ T_X0_allAppetites, pm_sd RX0 cX0_allAppetites 1 2 1 q.1 q.2 := by
  unfold T_X0_allAppetites
  refine pm_cn (sd_aln (k := 0) (by decide +kernel) rfl rfl) ?_
  refine pm_cn (sd_gr cl0_ in0_ (j := 1) (by decide) (fun _ => rfl) fl_X0_9 (by decide +kernel) rfl) ?_
  refine pm_cn (sd_aln (k := 0) (by decide +kernel) rfl rfl) ?_
  refine pm_cn (sd_gi cl0_ in0_ (by decide) (fun _ => rfl) fl_X0_43 (by decide +kernel) rfl) ?_
  refine pm_cn (sd_cis M_X0_sumOf (by decide) cd_X0_sumOf ml_X0_71 st_X0_sumOf nt_X0 (by decide +kernel) (by decide) (by decide) (by decide +kernel) rfl) ?_
  refine pm_cn (sd_ir (by decide +kernel)) ?_
  exact fun _ h => absurd h List.not_mem_nil
set_option maxHeartbeats 4000000 in
set_option maxRecDepth 100000 in
theorem pf_X0_allAppetites : pm_pf T_X0_allAppetites P_X0_allAppetites (pm_pi Q_X0_allAppetites) := by
  rintro ⟨i, L, h0⟩ av h K hK ⟨rfl, rfl, hL, hw⟩ hret
  show K (some 0) ([(0, vR 0 i 0)], [], h)
  have w1 := hw.1
  have w2 := hw.2.1
  refine hK [] 20 _ _ ?_
  conv => whnf
  repeat' (first
    | (refine ⟨fun c => ?_, fun c => ?_⟩ <;> (try simp (disch := omega) only [nI_leI, nI_ltI, nI_eq, nz_eq, nz_lt, nz_gt, nz_le, nz_ge, nz_00, nz_10, nz_n1, nI_add, pk_mul, pk_sub, nI_shl1, nI_or, nI_half2, nI_min2, la_put_eq, la_up, lr_same, lr_ne, lu_same, lu_ne, hL] at c) <;> first | (exfalso; omega) | conv => whnf)
    | (refine ⟨_, rfl, by omega, ?_⟩; conv => whnf)
    | (refine And.intro (by decide) ?_; conv => whnf))
  all_goals (try simp (disch := omega) only [nI_leI, nI_ltI, nI_eq, nz_eq, nz_lt, nz_gt, nz_le, nz_ge, nz_00, nz_10, nz_n1, nI_add, pk_mul, pk_sub, nI_shl1, nI_or, nI_half2, nI_min2, la_put_eq, la_up, lr_same, lr_ne, lu_same, lu_ne, hL])
  refine ⟨(i, 1, L 0 0, L, h), ⟨rfl, rfl, hL, by omega⟩, fun v h' hq => ?_⟩
  obtain ⟨rfl, rfl⟩ := hq
  conv => whnf
  repeat' (first
    | (refine ⟨fun c => ?_, fun c => ?_⟩ <;> (try simp (disch := omega) only [nI_leI, nI_ltI, nI_eq, nz_eq, nz_lt, nz_gt, nz_le, nz_ge, nz_00, nz_10, nz_n1, nI_add, pk_mul, pk_sub, nI_shl1, nI_or, nI_half2, nI_min2, la_put_eq, la_up, lr_same, lr_ne, lu_same, lu_ne, hL] at c) <;> first | (exfalso; omega) | conv => whnf)
    | (refine ⟨_, rfl, by omega, ?_⟩; conv => whnf)
    | (refine And.intro (by decide) ?_; conv => whnf))
  all_goals (try simp (disch := omega) only [nI_leI, nI_ltI, nI_eq, nz_eq, nz_lt, nz_gt, nz_le, nz_ge, nz_00, nz_10, nz_n1, nI_add, pk_mul, pk_sub, nI_shl1, nI_or, nI_half2, nI_min2, la_put_eq, la_up, lr_same, lr_ne, lu_same, lu_ne, hL])
  exact hret _ _ ⟨rfl, rfl⟩
theorem M_X0_allAppetites : pm_MT yX0_allAppetites cX0_allAppetites 1 1 2 P_X0_allAppetites (pm_pi Q_X0_allAppetites) := pm_met k_X0_allAppetites (by decide) rfl (by
  rintro ⟨g0, g1, g2⟩ av h hp
  rw [hp.1]
  exact Nat.le_of_ble_eq_true rfl) pf_X0_allAppetites
theorem rc_X0_allAppetites : ∀ g av h, P_X0_allAppetites g av h → ∃ i t, av = .inr (.inr (0, i, 0)) :: t := by
  rintro ⟨g0, g1, g2⟩ av h hp
  exact ⟨_, _, hp.1⟩
