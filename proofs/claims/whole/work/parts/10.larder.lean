/-! Larder: its methods that only look. -/
def P_X0_hasFellow : Nat × Int32 × LD × pm_H → List pm_V → pm_H → Prop := fun g av h => match g with
  | (i, f, L, h0) => av = [vR 0 i 0, vI f] ∧ h = h0 ∧ la_at h0 i L ∧ la_ok L
def Q_X0_hasFellow : Nat × Int32 × LD × pm_H → Int32 → pm_H → Prop := fun g v h => match g with
  | (i, f, L, h0) => h = h0 ∧ ((ixI f (L 0 0) ∧ v = nI 1) ∨ (¬ ixI f (L 0 0) ∧ v = nI 0))
def T_X0_hasFellow : List (Nat × pm_T) := [
  (0, i_il 1 1),
  (1, i_iflt 16 4),
  (4, i_il 1 5),
  (5, i_al 0 6),
  (6, i_gi 0 0 9),
  (9, i_icge 16 12),
  (12, i_c (nI 1) 13),
  (13, i_go 17),
  (16, i_c (nI 0) 17),
  (17, i_zr)]
theorem k_X0_hasFellow : ∀ q ∈ T_X0_hasFellow, pm_sd RX0 cX0_hasFellow 2 1 3 q.1 q.2 := by
  unfold T_X0_hasFellow
  refine pm_cn (sd_iln (k := 1) (by decide +kernel) rfl rfl) ?_
  refine pm_cn (sd_iflt (off := 15) (by decide +kernel) (by decide) rfl) ?_
  refine pm_cn (sd_iln (k := 1) (by decide +kernel) rfl rfl) ?_
  refine pm_cn (sd_aln (k := 0) (by decide +kernel) rfl rfl) ?_
  refine pm_cn (sd_gi cl0_ in0_ (by decide) (fun _ => rfl) fl_X0_43 (by decide +kernel) rfl) ?_
  refine pm_cn (sd_icge (off := 7) (by decide +kernel) (by decide) rfl) ?_
  refine pm_cn (sd_iconst (z := 1) (by decide +kernel) (by decide +kernel) rfl) ?_
  refine pm_cn (sd_go (off := 4) (by decide +kernel) (by decide)) ?_
  refine pm_cn (sd_iconst (z := 0) (by decide +kernel) (by decide +kernel) rfl) ?_
  refine pm_cn (sd_zr (by decide +kernel)) ?_
  exact fun _ h => absurd h List.not_mem_nil
set_option maxHeartbeats 4000000 in
set_option maxRecDepth 100000 in
theorem pf_X0_hasFellow : pm_pf T_X0_hasFellow P_X0_hasFellow (pm_pi Q_X0_hasFellow) := by
  rintro ⟨i, f, L, h0⟩ av h K hK ⟨rfl, rfl, hL, hw⟩ hret
  show K (some 0) ([(0, vR 0 i 0), (1, vI f)], [], h)
  have hb : L 0 0 < 2 ^ 31 := by have := hw.1; omega
  refine hK [] 20 _ _ ?_
  conv => whnf
  repeat' (first
    | (refine ⟨fun c => ?_, fun c => ?_⟩ <;> (try simp (disch := omega) only [nI_leI, nI_ltI, nI_eq, nz_eq, nz_lt, nz_gt, nz_le, nz_ge, nz_00, nz_10, nz_n1, nI_add, pk_mul, pk_sub, nI_shl1, nI_or, nI_half2, nI_min2, hL] at c) <;> first | (exfalso; omega) | conv => whnf)
    | (refine ⟨_, rfl, by omega, ?_⟩; conv => whnf)
    | (refine ⟨by decide, ?_⟩; conv => whnf))
  all_goals (try simp (disch := omega) only [nI_leI, nI_ltI, nI_eq, nz_eq, nz_lt, nz_gt, nz_le, nz_ge, nz_00, nz_10, nz_n1, nI_add, pk_mul, pk_sub, nI_shl1, nI_or, nI_half2, nI_min2, hL])
  · exact hret _ _ ⟨rfl, Or.inr ⟨ixI_no0 hb (by assumption), rfl⟩⟩
  · exact hret _ _ ⟨rfl, Or.inr ⟨ixI_no1 hb (by assumption), rfl⟩⟩
  · exact hret _ _ ⟨rfl, Or.inl ⟨ixI_of hb (by assumption) (by assumption), rfl⟩⟩
theorem M_X0_hasFellow : pm_MT yX0_hasFellow cX0_hasFellow 2 3 1 P_X0_hasFellow (pm_pi Q_X0_hasFellow) := pm_met k_X0_hasFellow (by decide) rfl (by
  rintro ⟨g0, g1, g2, g3⟩ av h hp
  rw [hp.1]
  exact Nat.le_of_ble_eq_true rfl) pf_X0_hasFellow
theorem rc_X0_hasFellow : ∀ g av h, P_X0_hasFellow g av h → ∃ i t, av = .inr (.inr (0, i, 0)) :: t := by
  rintro ⟨g0, g1, g2, g3⟩ av h hp
  exact ⟨_, _, hp.1⟩
def P_X0_hasBiscuit : Nat × Int32 × LD × pm_H → List pm_V → pm_H → Prop := fun g av h => match g with
  | (i, f, L, h0) => av = [vR 0 i 0, vI f] ∧ h = h0 ∧ la_at h0 i L ∧ la_ok L
def Q_X0_hasBiscuit : Nat × Int32 × LD × pm_H → Int32 → pm_H → Prop := fun g v h => match g with
  | (i, f, L, h0) => h = h0 ∧ ((ixI f (L 0 3) ∧ v = nI 1) ∨ (¬ ixI f (L 0 3) ∧ v = nI 0))
def T_X0_hasBiscuit : List (Nat × pm_T) := [
  (0, i_il 1 1),
  (1, i_iflt 16 4),
  (4, i_il 1 5),
  (5, i_al 0 6),
  (6, i_gi 0 3 9),
  (9, i_icge 16 12),
  (12, i_c (nI 1) 13),
  (13, i_go 17),
  (16, i_c (nI 0) 17),
  (17, i_zr)]
theorem k_X0_hasBiscuit : ∀ q ∈ T_X0_hasBiscuit, pm_sd RX0 cX0_hasBiscuit 2 1 3 q.1 q.2 := by
  unfold T_X0_hasBiscuit
  refine pm_cn (sd_iln (k := 1) (by decide +kernel) rfl rfl) ?_
  refine pm_cn (sd_iflt (off := 15) (by decide +kernel) (by decide) rfl) ?_
  refine pm_cn (sd_iln (k := 1) (by decide +kernel) rfl rfl) ?_
  refine pm_cn (sd_aln (k := 0) (by decide +kernel) rfl rfl) ?_
  refine pm_cn (sd_gi cl0_ in0_ (by decide) (fun _ => rfl) fl_X0_46 (by decide +kernel) rfl) ?_
  refine pm_cn (sd_icge (off := 7) (by decide +kernel) (by decide) rfl) ?_
  refine pm_cn (sd_iconst (z := 1) (by decide +kernel) (by decide +kernel) rfl) ?_
  refine pm_cn (sd_go (off := 4) (by decide +kernel) (by decide)) ?_
  refine pm_cn (sd_iconst (z := 0) (by decide +kernel) (by decide +kernel) rfl) ?_
  refine pm_cn (sd_zr (by decide +kernel)) ?_
  exact fun _ h => absurd h List.not_mem_nil
set_option maxHeartbeats 4000000 in
set_option maxRecDepth 100000 in
theorem pf_X0_hasBiscuit : pm_pf T_X0_hasBiscuit P_X0_hasBiscuit (pm_pi Q_X0_hasBiscuit) := by
  rintro ⟨i, f, L, h0⟩ av h K hK ⟨rfl, rfl, hL, hw⟩ hret
  show K (some 0) ([(0, vR 0 i 0), (1, vI f)], [], h)
  have hb : L 0 3 < 2 ^ 31 := by have := hw.2.1; omega
  refine hK [] 20 _ _ ?_
  conv => whnf
  repeat' (first
    | (refine ⟨fun c => ?_, fun c => ?_⟩ <;> (try simp (disch := omega) only [nI_leI, nI_ltI, nI_eq, nz_eq, nz_lt, nz_gt, nz_le, nz_ge, nz_00, nz_10, nz_n1, nI_add, pk_mul, pk_sub, nI_shl1, nI_or, nI_half2, nI_min2, hL] at c) <;> first | (exfalso; omega) | conv => whnf)
    | (refine ⟨_, rfl, by omega, ?_⟩; conv => whnf)
    | (refine ⟨by decide, ?_⟩; conv => whnf))
  all_goals (try simp (disch := omega) only [nI_leI, nI_ltI, nI_eq, nz_eq, nz_lt, nz_gt, nz_le, nz_ge, nz_00, nz_10, nz_n1, nI_add, pk_mul, pk_sub, nI_shl1, nI_or, nI_half2, nI_min2, hL])
  · exact hret _ _ ⟨rfl, Or.inr ⟨ixI_no0 hb (by assumption), rfl⟩⟩
  · exact hret _ _ ⟨rfl, Or.inr ⟨ixI_no1 hb (by assumption), rfl⟩⟩
  · exact hret _ _ ⟨rfl, Or.inl ⟨ixI_of hb (by assumption) (by assumption), rfl⟩⟩
theorem M_X0_hasBiscuit : pm_MT yX0_hasBiscuit cX0_hasBiscuit 2 3 1 P_X0_hasBiscuit (pm_pi Q_X0_hasBiscuit) := pm_met k_X0_hasBiscuit (by decide) rfl (by
  rintro ⟨g0, g1, g2, g3⟩ av h hp
  rw [hp.1]
  exact Nat.le_of_ble_eq_true rfl) pf_X0_hasBiscuit
theorem rc_X0_hasBiscuit : ∀ g av h, P_X0_hasBiscuit g av h → ∃ i t, av = .inr (.inr (0, i, 0)) :: t := by
  rintro ⟨g0, g1, g2, g3⟩ av h hp
  exact ⟨_, _, hp.1⟩
/-- spoilOf(b) -/
def P_X0_spoilOf : Nat × Nat × LD × pm_H → List pm_V → pm_H → Prop := fun g av h => match g with
  | (i, b, L, h0) => av = [vR 0 i 0, vI (nI b)] ∧ h = h0 ∧ la_at h0 i L ∧ b < 6 ∧ L 0 8 ≤ 9 ∧ L 3 b ≤ 3 ∧ L 5 b ≤ 99
def Q_X0_spoilOf : Nat × Nat × LD × pm_H → Int32 → pm_H → Prop := fun g v h => match g with
  | (i, b, L, h0) => h = h0 ∧ v = nI (sp_spoil L b)
def T_X0_spoilOf : List (Nat × pm_T) := [
  (0, i_al 0 1),
  (1, i_gi 0 8 4),
  (4, i_c (nI 2) 5),
  (5, i_idiv 6),
  (6, i_is 2 7),
  (7, i_il 2 8),
  (8, i_is 3 9),
  (9, i_al 0 10),
  (10, i_gr 0 (fun i => (0, i, 3)) 13),
  (13, i_il 1 14),
  (14, i_ia 15),
  (15, i_c (nI 1) 16),
  (16, i_icne 26 19),
  (19, i_il 2 20),
  (20, i_c (nI 2) 21),
  (21, i_idiv 22),
  (22, i_is 3 23),
  (23, i_go 59),
  (26, i_al 0 27),
  (27, i_gr 0 (fun i => (0, i, 3)) 30),
  (30, i_il 1 31),
  (31, i_ia 32),
  (32, i_c (nI 2) 33),
  (33, i_icne 43 36),
  (36, i_il 2 37),
  (37, i_c (nI 1) 38),
  (38, i_iadd 39),
  (39, i_is 3 40),
  (40, i_go 59),
  (43, i_al 0 44),
  (44, i_gr 0 (fun i => (0, i, 3)) 47),
  (47, i_il 1 48),
  (48, i_ia 49),
  (49, i_c (nI 3) 50),
  (50, i_icne 59 53),
  (53, i_c (nI 2) 54),
  (54, i_il 2 55),
  (55, i_c (nI 1) 56),
  (56, i_iadd 57),
  (57, i_imul 58),
  (58, i_is 3 59),
  (59, i_il 3 60),
  (60, i_al 0 61),
  (61, i_gr 0 (fun i => (0, i, 5)) 64),
  (64, i_il 1 65),
  (65, i_ia 66),
  (66, i_mmin 69),
  (69, i_ir)]
theorem k_X0_spoilOf : ∀ q ∈ T_X0_spoilOf, pm_sd RX0 cX0_spoilOf 4 1 1 q.1 q.2 := by
  unfold T_X0_spoilOf
  refine pm_cn (sd_aln (k := 0) (by decide +kernel) rfl rfl) ?_
  refine pm_cn (sd_gi cl0_ in0_ (by decide) (fun _ => rfl) fl_X0_30 (by decide +kernel) rfl) ?_
  refine pm_cn (sd_iconst (z := 2) (by decide +kernel) (by decide +kernel) rfl) ?_
  refine pm_cn (sd_idiv (by decide +kernel) rfl) ?_
  refine pm_cn (sd_isn (k := 2) (by decide +kernel) rfl rfl (by decide)) ?_
  refine pm_cn (sd_iln (k := 2) (by decide +kernel) rfl rfl) ?_
  refine pm_cn (sd_isn (k := 3) (by decide +kernel) rfl rfl (by decide)) ?_
  refine pm_cn (sd_aln (k := 0) (by decide +kernel) rfl rfl) ?_
  refine pm_cn (sd_gr cl0_ in0_ (j := 4) (by decide) (fun _ => rfl) fl_X0_18 (by decide +kernel) rfl) ?_
  refine pm_cn (sd_iln (k := 1) (by decide +kernel) rfl rfl) ?_
  refine pm_cn (sd_ia (by decide +kernel) rfl) ?_
  refine pm_cn (sd_iconst (z := 1) (by decide +kernel) (by decide +kernel) rfl) ?_
  refine pm_cn (sd_icne (off := 10) (by decide +kernel) (by decide) rfl) ?_
  refine pm_cn (sd_iln (k := 2) (by decide +kernel) rfl rfl) ?_
  refine pm_cn (sd_iconst (z := 2) (by decide +kernel) (by decide +kernel) rfl) ?_
  refine pm_cn (sd_idiv (by decide +kernel) rfl) ?_
  refine pm_cn (sd_isn (k := 3) (by decide +kernel) rfl rfl (by decide)) ?_
  refine pm_cn (sd_go (off := 36) (by decide +kernel) (by decide)) ?_
  refine pm_cn (sd_aln (k := 0) (by decide +kernel) rfl rfl) ?_
  refine pm_cn (sd_gr cl0_ in0_ (j := 4) (by decide) (fun _ => rfl) fl_X0_18 (by decide +kernel) rfl) ?_
  refine pm_cn (sd_iln (k := 1) (by decide +kernel) rfl rfl) ?_
  refine pm_cn (sd_ia (by decide +kernel) rfl) ?_
  refine pm_cn (sd_iconst (z := 2) (by decide +kernel) (by decide +kernel) rfl) ?_
  refine pm_cn (sd_icne (off := 10) (by decide +kernel) (by decide) rfl) ?_
  refine pm_cn (sd_iln (k := 2) (by decide +kernel) rfl rfl) ?_
  refine pm_cn (sd_iconst (z := 1) (by decide +kernel) (by decide +kernel) rfl) ?_
  refine pm_cn (sd_iadd (by decide +kernel) rfl) ?_
  refine pm_cn (sd_isn (k := 3) (by decide +kernel) rfl rfl (by decide)) ?_
  refine pm_cn (sd_go (off := 19) (by decide +kernel) (by decide)) ?_
  refine pm_cn (sd_aln (k := 0) (by decide +kernel) rfl rfl) ?_
  refine pm_cn (sd_gr cl0_ in0_ (j := 4) (by decide) (fun _ => rfl) fl_X0_18 (by decide +kernel) rfl) ?_
  refine pm_cn (sd_iln (k := 1) (by decide +kernel) rfl rfl) ?_
  refine pm_cn (sd_ia (by decide +kernel) rfl) ?_
  refine pm_cn (sd_iconst (z := 3) (by decide +kernel) (by decide +kernel) rfl) ?_
  refine pm_cn (sd_icne (off := 9) (by decide +kernel) (by decide) rfl) ?_
  refine pm_cn (sd_iconst (z := 2) (by decide +kernel) (by decide +kernel) rfl) ?_
  refine pm_cn (sd_iln (k := 2) (by decide +kernel) rfl rfl) ?_
  refine pm_cn (sd_iconst (z := 1) (by decide +kernel) (by decide +kernel) rfl) ?_
  refine pm_cn (sd_iadd (by decide +kernel) rfl) ?_
  refine pm_cn (sd_imul (by decide +kernel) rfl) ?_
  refine pm_cn (sd_isn (k := 3) (by decide +kernel) rfl rfl (by decide)) ?_
  refine pm_cn (sd_iln (k := 3) (by decide +kernel) rfl rfl) ?_
  refine pm_cn (sd_aln (k := 0) (by decide +kernel) rfl rfl) ?_
  refine pm_cn (sd_gr cl0_ in0_ (j := 6) (by decide) (fun _ => rfl) fl_X0_24 (by decide +kernel) rfl) ?_
  refine pm_cn (sd_iln (k := 1) (by decide +kernel) rfl rfl) ?_
  refine pm_cn (sd_ia (by decide +kernel) rfl) ?_
  refine pm_cn (sd_mmin ml_X0_65 st_min nt_Math cd_min (by decide) (by decide +kernel) rfl) ?_
  refine pm_cn (sd_ir (by decide +kernel)) ?_
  exact fun _ h => absurd h List.not_mem_nil
theorem sp_loss_le {d k : Nat} (h : d ≤ 9) : sp_loss d k ≤ 10 := by
  unfold sp_loss
  by_cases h1 : k = 1
  · rw [if_pos h1]; omega
  · by_cases h2 : k = 2
    · rw [if_neg h1, if_pos h2]; omega
    · by_cases h3 : k = 3
      · rw [if_neg h1, if_neg h2, if_pos h3]; omega
      · rw [if_neg h1, if_neg h2, if_neg h3]; omega
set_option maxHeartbeats 4000000 in
set_option maxRecDepth 100000 in
theorem pf_X0_spoilOf : pm_pf T_X0_spoilOf P_X0_spoilOf (pm_pi Q_X0_spoilOf) := by
  rintro ⟨i, b, L, h0⟩ av h K hK ⟨rfl, rfl, hL, hb, h8, h3, h5⟩ hret
  show K (some 0) ([(0, vR 0 i 0), (1, vI (nI b))], [], h)
  have fin : ∀ y : Nat, y = sp_loss (L 0 8) (L 3 b) → K (some 59) ([(0, vR 0 i 0), (1, vI (nI b)), (3, vI (nI y))], [], h) := by
    intro y hy
    have hyb : y ≤ 10 := by rw [hy]; exact sp_loss_le h8
    refine hK [] 20 _ _ ?_
    conv => whnf
    repeat' (first
      | (refine ⟨fun c => ?_, fun c => ?_⟩ <;> (try simp (disch := omega) only [nI_leI, nI_ltI, nI_eq, nz_eq, nz_lt, nz_gt, nz_le, nz_ge, nz_00, nz_10, nz_n1, nI_add, pk_mul, pk_sub, nI_shl1, nI_or, nI_half2, nI_min2, hL] at c) <;> first | (exfalso; omega) | conv => whnf)
      | (refine ⟨_, rfl, by omega, ?_⟩; conv => whnf)
      | (refine ⟨by decide, ?_⟩; conv => whnf))
    all_goals (try simp (disch := omega) only [nI_leI, nI_ltI, nI_eq, nz_eq, nz_lt, nz_gt, nz_le, nz_ge, nz_00, nz_10, nz_n1, nI_add, pk_mul, pk_sub, nI_shl1, nI_or, nI_half2, nI_min2, hL])
    subst hy
    exact hret _ _ ⟨rfl, rfl⟩
  refine hK [(59, [0, 1, 3])] 40 _ _ ?_
  conv => whnf
  repeat' (first
    | (refine ⟨fun c => ?_, fun c => ?_⟩ <;> (try simp (disch := omega) only [nI_leI, nI_ltI, nI_eq, nz_eq, nz_lt, nz_gt, nz_le, nz_ge, nz_00, nz_10, nz_n1, nI_add, pk_mul, pk_sub, nI_shl1, nI_or, nI_half2, nI_min2, hL] at c) <;> first | (exfalso; omega) | conv => whnf)
    | (refine ⟨_, rfl, by omega, ?_⟩; conv => whnf)
    | (refine ⟨by decide, ?_⟩; conv => whnf))
  all_goals (try simp (disch := omega) only [nI_leI, nI_ltI, nI_eq, nz_eq, nz_lt, nz_gt, nz_le, nz_ge, nz_00, nz_10, nz_n1, nI_add, pk_mul, pk_sub, nI_shl1, nI_or, nI_half2, nI_min2, hL])
  all_goals (apply fin; unfold sp_loss; simp [*])
theorem M_X0_spoilOf : pm_MT yX0_spoilOf cX0_spoilOf 4 1 1 P_X0_spoilOf (pm_pi Q_X0_spoilOf) := pm_met k_X0_spoilOf (by decide) rfl (by
  rintro ⟨g0, g1, g2, g3⟩ av h hp
  rw [hp.1]
  exact Nat.le_of_ble_eq_true rfl) pf_X0_spoilOf
theorem rc_X0_spoilOf : ∀ g av h, P_X0_spoilOf g av h → ∃ i t, av = .inr (.inr (0, i, 0)) :: t := by
  rintro ⟨g0, g1, g2, g3⟩ av h hp
  exact ⟨_, _, hp.1⟩
