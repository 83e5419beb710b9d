/-! THE MODEL: sums, days. -/
def sp_crm (o : Bool) (f : Nat) (Y : LD) : Nat := sp_sum (fun b => if o = false ∨ Y 6 b = f then Y 5 b else 0) (Y 0 3)
theorem sp_crm_t (f : Nat) (Y : LD) : sp_crm true f Y = sp_crumbsOf Y f := by
  unfold sp_crm sp_crumbsOf
  exact sp_sum_congr (fun k _ => by simp)
theorem sp_crm_f (f : Nat) (Y : LD) : sp_crm false f Y = sp_sum (Y 5) (Y 0 3) := by
  unfold sp_crm
  exact sp_sum_congr (fun k _ => by simp)
def P_X5_crumbsOn : Nat × Bool × Nat × LD × pm_H → List pm_V → pm_H → Prop := fun g av h => match g with
  | (pg, o, f, Y, h0) => av = [vR 5 0 0, vI (nI pg), vI (sp_fo o f)] ∧ h = h0 ∧ pg_at h0 pg Y ∧ pg ≤ 245 ∧ la_ok Y ∧ f ≤ 9
def Q_X5_crumbsOn : Nat × Bool × Nat × LD × pm_H → Int32 → pm_H → Prop := fun g v h => match g with
  | (pg, o, f, Y, h0) => h = h0 ∧ v = nI (sp_crm o f Y)
def T_X5_crumbsOn : List (Nat × pm_T) := [
  (0, i_c (nI 0) 1),
  (1, i_is 3 2),
  (2, i_c (nI 0) 3),
  (3, i_is 4 5),
  (5, i_il 4 7),
  (7, i_al 0 8),
  (8, i_gr 5 (fun i => (5, i, 1)) 11),
  (11, i_il 1 12),
  (12, i_c (nI 32) 14),
  (14, i_iadd 15),
  (15, i_ia 16),
  (16, i_icge 66 19),
  (19, i_il 3 20),
  (20, i_il 2 21),
  (21, i_c (-4) 23),
  (23, i_iceq 42 26),
  (26, i_al 0 27),
  (27, i_gr 5 (fun i => (5, i, 1)) 30),
  (30, i_il 1 31),
  (31, i_c (nI 26) 33),
  (33, i_iadd 34),
  (34, i_il 4 36),
  (36, i_iadd 37),
  (37, i_ia 38),
  (38, i_il 2 39),
  (39, i_icne 57 42),
  (42, i_al 0 43),
  (43, i_gr 5 (fun i => (5, i, 1)) 46),
  (46, i_il 1 47),
  (47, i_c (nI 20) 49),
  (49, i_iadd 50),
  (50, i_il 4 52),
  (52, i_iadd 53),
  (53, i_ia 54),
  (54, i_go 58),
  (57, i_c (nI 0) 58),
  (58, i_iadd 59),
  (59, i_is 3 60),
  (60, i_inc 4 (nI 1) 63),
  (63, i_go 5),
  (66, i_il 3 67),
  (67, i_ir)]
theorem k_X5_crumbsOn : ∀ q ∈ T_X5_crumbsOn, pm_sd RX5 cX5_crumbsOn 5 2 1 q.1 q.2 := by
  unfold T_X5_crumbsOn
  refine pm_cn (sd_iconst (z := 0) (by decide +kernel) (by decide +kernel) rfl) ?_
  refine pm_cn (sd_isn (k := 3) (by decide +kernel) rfl rfl (by decide)) ?_
  refine pm_cn (sd_iconst (z := 0) (by decide +kernel) (by decide +kernel) rfl) ?_
  refine pm_cn (sd_is (by decide +kernel) rfl (by decide)) ?_
  refine pm_cn (sd_il (by decide +kernel) rfl) ?_
  refine pm_cn (sd_aln (k := 0) (by decide +kernel) rfl rfl) ?_
  refine pm_cn (sd_gr cl5_ in5_ (j := 0) (by decide) (fun _ => rfl) fl_X5_7 (by decide +kernel) rfl) ?_
  refine pm_cn (sd_iln (k := 1) (by decide +kernel) rfl rfl) ?_
  refine pm_cn (sd_bipush (z := 32) (by decide +kernel) (by decide +kernel) rfl) ?_
  refine pm_cn (sd_iadd (by decide +kernel) rfl) ?_
  refine pm_cn (sd_ia (by decide +kernel) rfl) ?_
  refine pm_cn (sd_icge (off := 50) (by decide +kernel) (by decide) rfl) ?_
  refine pm_cn (sd_iln (k := 3) (by decide +kernel) rfl rfl) ?_
  refine pm_cn (sd_iln (k := 2) (by decide +kernel) rfl rfl) ?_
  refine pm_cn (sd_bipush (z := -4) (by decide +kernel) (by decide +kernel) rfl) ?_
  refine pm_cn (sd_iceq (off := 19) (by decide +kernel) (by decide) rfl) ?_
  refine pm_cn (sd_aln (k := 0) (by decide +kernel) rfl rfl) ?_
  refine pm_cn (sd_gr cl5_ in5_ (j := 0) (by decide) (fun _ => rfl) fl_X5_7 (by decide +kernel) rfl) ?_
  refine pm_cn (sd_iln (k := 1) (by decide +kernel) rfl rfl) ?_
  refine pm_cn (sd_bipush (z := 26) (by decide +kernel) (by decide +kernel) rfl) ?_
  refine pm_cn (sd_iadd (by decide +kernel) rfl) ?_
  refine pm_cn (sd_il (by decide +kernel) rfl) ?_
  refine pm_cn (sd_iadd (by decide +kernel) rfl) ?_
  refine pm_cn (sd_ia (by decide +kernel) rfl) ?_
  refine pm_cn (sd_iln (k := 2) (by decide +kernel) rfl rfl) ?_
  refine pm_cn (sd_icne (off := 18) (by decide +kernel) (by decide) rfl) ?_
  refine pm_cn (sd_aln (k := 0) (by decide +kernel) rfl rfl) ?_
  refine pm_cn (sd_gr cl5_ in5_ (j := 0) (by decide) (fun _ => rfl) fl_X5_7 (by decide +kernel) rfl) ?_
  refine pm_cn (sd_iln (k := 1) (by decide +kernel) rfl rfl) ?_
  refine pm_cn (sd_bipush (z := 20) (by decide +kernel) (by decide +kernel) rfl) ?_
  refine pm_cn (sd_iadd (by decide +kernel) rfl) ?_
  refine pm_cn (sd_il (by decide +kernel) rfl) ?_
  refine pm_cn (sd_iadd (by decide +kernel) rfl) ?_
  refine pm_cn (sd_ia (by decide +kernel) rfl) ?_
  refine pm_cn (sd_go (off := 4) (by decide +kernel) (by decide)) ?_
  refine pm_cn (sd_iconst (z := 0) (by decide +kernel) (by decide +kernel) rfl) ?_
  refine pm_cn (sd_iadd (by decide +kernel) rfl) ?_
  refine pm_cn (sd_isn (k := 3) (by decide +kernel) rfl rfl (by decide)) ?_
  refine pm_cn (sd_inc (z := 1) (by decide +kernel) (by decide +kernel) rfl (by decide)) ?_
  refine pm_cn (sd_go (off := -58) (by decide +kernel) (by decide)) ?_
  refine pm_cn (sd_iln (k := 3) (by decide +kernel) rfl rfl) ?_
  refine pm_cn (sd_ir (by decide +kernel)) ?_
  exact fun _ h => absurd h List.not_mem_nil
set_option maxHeartbeats 800000 in
set_option maxRecDepth 100000 in
theorem pf_X5_crumbsOn : pm_pf T_X5_crumbsOn P_X5_crumbsOn (pm_pi Q_X5_crumbsOn) := by
  rintro ⟨pg, o, f, Y, h0⟩ av h K hK ⟨rfl, rfl, hP, hpg, hw, hf⟩ hret
  obtain ⟨w1, w2, w3, w4, w5, w6, w7, w8, w9, w10⟩ := id hw
  show K (some 0) ([(0, vR 5 0 0), (1, vI (nI pg)), (2, vI (sp_fo o f))], [], h)
  have loop : ∀ n k a, k + n = Y 0 3 → a = sp_sum (fun b => if o = false ∨ Y 6 b = f then Y 5 b else 0) k → K (some 5) ([(0, vR 5 0 0), (1, vI (nI pg)), (2, vI (sp_fo o f)), (3, vI (nI a)), (4, vI (nI k))], [], h) := by
    intro n
    induction n with
    | zero =>
      intro k a hk ha
      refine hK [(5, [0, 1, 2, 3, 4])] 80 _ _ ?_
      conv => whnf
      repeat' (first
        | (refine ⟨fun c9 => ?_, fun c9 => ?_⟩ <;> (try simp (disch := omega) only [nI_leI, nI_ltI, nI_eq, nz_eq, nz_lt, nz_gt, nz_le, nz_ge, nz_00, nz_n1, nI_add, pk_mul, pk_sub, nI_shl1, nI_or, nI_half2, nI_min2, la_put_eq, la_up, lr_same, lr_ne, lu_same, lu_ne, not_true_eq_false, not_false_eq_true, qr2 hP, qr3 hP, qr4 hP, qr5 hP, qr6 hP, qr7 hP, qr8 hP, qrN hP, qrD hP, qrB hP, qrY hP, qrQ hP, qr1 hP, subadd] at c9) <;> first | (exfalso; omega) | conv => whnf)
        | (refine ⟨_, rfl, by omega, ?_⟩; conv => whnf)
        | (refine ⟨_, rfl, rfl, rfl, by decide, by decide, ?_⟩; conv => whnf)
        | (refine ⟨_, by (simp (disch := omega) only [nI_leI, nI_ltI, nI_eq, nz_eq, nz_lt, nz_gt, nz_le, nz_ge, nz_00, nz_n1, nI_add, pk_mul, pk_sub, nI_shl1, nI_or, nI_half2, nI_min2, la_put_eq, la_up, lr_same, lr_ne, lu_same, lu_ne, not_true_eq_false, not_false_eq_true, qr2 hP, qr3 hP, qr4 hP, qr5 hP, qr6 hP, qr7 hP, qr8 hP, qrN hP, qrD hP, qrB hP, qrY hP, qrQ hP, qr1 hP, subadd]; rfl), by omega, ?_⟩; conv => whnf)
        | (apply And.intro; (first | assumption | decide | (simp (disch := omega) only [nI_leI, nI_ltI, nI_eq, nz_eq, nz_lt, nz_gt, nz_le, nz_ge, nz_00, nz_n1, nI_add, pk_mul, pk_sub, nI_shl1, nI_or, nI_half2, nI_min2, la_put_eq, la_up, lr_same, lr_ne, lu_same, lu_ne, not_true_eq_false, not_false_eq_true, qr2 hP, qr3 hP, qr4 hP, qr5 hP, qr6 hP, qr7 hP, qr8 hP, qrN hP, qrD hP, qrB hP, qrY hP, qrQ hP, qr1 hP, subadd]; omega)); conv => whnf))
      all_goals (try simp (disch := omega) only [nI_leI, nI_ltI, nI_eq, nz_eq, nz_lt, nz_gt, nz_le, nz_ge, nz_00, nz_n1, nI_add, pk_mul, pk_sub, nI_shl1, nI_or, nI_half2, nI_min2, la_put_eq, la_up, lr_same, lr_ne, lu_same, lu_ne, not_true_eq_false, not_false_eq_true, qr2 hP, qr3 hP, qr4 hP, qr5 hP, qr6 hP, qr7 hP, qr8 hP, qrN hP, qrD hP, qrB hP, qrY hP, qrQ hP, qr1 hP, subadd])
      have : k = Y 0 3 := by omega
      subst this
      exact hret _ _ ⟨rfl, by rw [ha]; rfl⟩
    | succ n ih =>
      intro k a hk ha
      have hB := w8 k (by omega)
      have mid : ∀ t, t = (if o = false ∨ Y 6 k = f then Y 5 k else 0) → K (some 5) ([(0, vR 5 0 0), (1, vI (nI pg)), (2, vI (sp_fo o f)), (3, vI (nI (a + t))), (4, vI (nI (k + 1)))], [], h) := by
        intro t ht
        refine ih (k + 1) _ (by omega) ?_
        rw [sp_sum, ← ha, ht]
      cases o with
      | false =>
        refine hK [(5, [0, 1, 2, 3, 4])] 80 _ _ ?_
        conv => whnf
        repeat' (first
          | (refine ⟨fun c9 => ?_, fun c9 => ?_⟩ <;> (try simp (disch := omega) only [nI_leI, nI_ltI, nI_eq, nz_eq, nz_lt, nz_gt, nz_le, nz_ge, nz_00, nz_n1, nI_add, pk_mul, pk_sub, nI_shl1, nI_or, nI_half2, nI_min2, la_put_eq, la_up, lr_same, lr_ne, lu_same, lu_ne, not_true_eq_false, not_false_eq_true, qr2 hP, qr3 hP, qr4 hP, qr5 hP, qr6 hP, qr7 hP, qr8 hP, qrN hP, qrD hP, qrB hP, qrY hP, qrQ hP, qr1 hP, subadd] at c9) <;> first | (exfalso; omega) | conv => whnf)
          | (refine ⟨_, rfl, by omega, ?_⟩; conv => whnf)
          | (refine ⟨_, rfl, rfl, rfl, by decide, by decide, ?_⟩; conv => whnf)
          | (refine ⟨_, by (simp (disch := omega) only [nI_leI, nI_ltI, nI_eq, nz_eq, nz_lt, nz_gt, nz_le, nz_ge, nz_00, nz_n1, nI_add, pk_mul, pk_sub, nI_shl1, nI_or, nI_half2, nI_min2, la_put_eq, la_up, lr_same, lr_ne, lu_same, lu_ne, not_true_eq_false, not_false_eq_true, qr2 hP, qr3 hP, qr4 hP, qr5 hP, qr6 hP, qr7 hP, qr8 hP, qrN hP, qrD hP, qrB hP, qrY hP, qrQ hP, qr1 hP, subadd]; rfl), by omega, ?_⟩; conv => whnf)
          | (apply And.intro; (first | assumption | decide | (simp (disch := omega) only [nI_leI, nI_ltI, nI_eq, nz_eq, nz_lt, nz_gt, nz_le, nz_ge, nz_00, nz_n1, nI_add, pk_mul, pk_sub, nI_shl1, nI_or, nI_half2, nI_min2, la_put_eq, la_up, lr_same, lr_ne, lu_same, lu_ne, not_true_eq_false, not_false_eq_true, qr2 hP, qr3 hP, qr4 hP, qr5 hP, qr6 hP, qr7 hP, qr8 hP, qrN hP, qrD hP, qrB hP, qrY hP, qrQ hP, qr1 hP, subadd]; omega)); conv => whnf))
        all_goals (try simp (disch := omega) only [nI_leI, nI_ltI, nI_eq, nz_eq, nz_lt, nz_gt, nz_le, nz_ge, nz_00, nz_n1, nI_add, pk_mul, pk_sub, nI_shl1, nI_or, nI_half2, nI_min2, la_put_eq, la_up, lr_same, lr_ne, lu_same, lu_ne, not_true_eq_false, not_false_eq_true, qr2 hP, qr3 hP, qr4 hP, qr5 hP, qr6 hP, qr7 hP, qr8 hP, qrN hP, qrD hP, qrB hP, qrY hP, qrQ hP, qr1 hP, subadd])
        all_goals first | exact absurd rfl (by assumption) | exact mid _ (by simp)
      | true =>
        refine hK [(5, [0, 1, 2, 3, 4])] 80 _ _ ?_
        conv => whnf
        repeat' (first
          | (refine ⟨fun c9 => ?_, fun c9 => ?_⟩ <;> (try simp (disch := omega) only [nI_leI, nI_ltI, nI_eq, nz_eq, nz_lt, nz_gt, nz_le, nz_ge, nz_00, nz_n1, nI_add, pk_mul, pk_sub, nI_shl1, nI_or, nI_half2, nI_min2, la_put_eq, la_up, lr_same, lr_ne, lu_same, lu_ne, not_true_eq_false, not_false_eq_true, qr2 hP, qr3 hP, qr4 hP, qr5 hP, qr6 hP, qr7 hP, qr8 hP, qrN hP, qrD hP, qrB hP, qrY hP, qrQ hP, qr1 hP, subadd, sp_fo, if_true, nI_n4] at c9) <;> first | (exfalso; omega) | conv => whnf)
          | (refine ⟨_, rfl, by omega, ?_⟩; conv => whnf)
          | (refine ⟨_, rfl, rfl, rfl, by decide, by decide, ?_⟩; conv => whnf)
          | (refine ⟨_, by (simp (disch := omega) only [nI_leI, nI_ltI, nI_eq, nz_eq, nz_lt, nz_gt, nz_le, nz_ge, nz_00, nz_n1, nI_add, pk_mul, pk_sub, nI_shl1, nI_or, nI_half2, nI_min2, la_put_eq, la_up, lr_same, lr_ne, lu_same, lu_ne, not_true_eq_false, not_false_eq_true, qr2 hP, qr3 hP, qr4 hP, qr5 hP, qr6 hP, qr7 hP, qr8 hP, qrN hP, qrD hP, qrB hP, qrY hP, qrQ hP, qr1 hP, subadd, sp_fo, if_true, nI_n4]; rfl), by omega, ?_⟩; conv => whnf)
          | (apply And.intro; (first | assumption | decide | (simp (disch := omega) only [nI_leI, nI_ltI, nI_eq, nz_eq, nz_lt, nz_gt, nz_le, nz_ge, nz_00, nz_n1, nI_add, pk_mul, pk_sub, nI_shl1, nI_or, nI_half2, nI_min2, la_put_eq, la_up, lr_same, lr_ne, lu_same, lu_ne, not_true_eq_false, not_false_eq_true, qr2 hP, qr3 hP, qr4 hP, qr5 hP, qr6 hP, qr7 hP, qr8 hP, qrN hP, qrD hP, qrB hP, qrY hP, qrQ hP, qr1 hP, subadd, sp_fo, if_true, nI_n4]; omega)); conv => whnf))
        all_goals (try simp (disch := omega) only [nI_leI, nI_ltI, nI_eq, nz_eq, nz_lt, nz_gt, nz_le, nz_ge, nz_00, nz_n1, nI_add, pk_mul, pk_sub, nI_shl1, nI_or, nI_half2, nI_min2, la_put_eq, la_up, lr_same, lr_ne, lu_same, lu_ne, not_true_eq_false, not_false_eq_true, qr2 hP, qr3 hP, qr4 hP, qr5 hP, qr6 hP, qr7 hP, qr8 hP, qrN hP, qrD hP, qrB hP, qrY hP, qrQ hP, qr1 hP, subadd, sp_fo, if_true, nI_n4])
        · exact mid 0 (by rw [if_neg (by simp; omega)])
        · exact mid (Y 5 k) (by rw [if_pos (by simp; omega)])
  refine hK [(5, [0, 1, 2, 3, 4])] 80 _ _ ?_
  conv => whnf
  repeat' (first
    | (refine ⟨fun c9 => ?_, fun c9 => ?_⟩ <;> (try simp (disch := omega) only [nI_leI, nI_ltI, nI_eq, nz_eq, nz_lt, nz_gt, nz_le, nz_ge, nz_00, nz_n1, nI_add, pk_mul, pk_sub, nI_shl1, nI_or, nI_half2, nI_min2, la_put_eq, la_up, lr_same, lr_ne, lu_same, lu_ne, not_true_eq_false, not_false_eq_true, qr2 hP, qr3 hP, qr4 hP, qr5 hP, qr6 hP, qr7 hP, qr8 hP, qrN hP, qrD hP, qrB hP, qrY hP, qrQ hP, qr1 hP, subadd] at c9) <;> first | (exfalso; omega) | conv => whnf)
    | (refine ⟨_, rfl, by omega, ?_⟩; conv => whnf)
    | (refine ⟨_, rfl, rfl, rfl, by decide, by decide, ?_⟩; conv => whnf)
    | (refine ⟨_, by (simp (disch := omega) only [nI_leI, nI_ltI, nI_eq, nz_eq, nz_lt, nz_gt, nz_le, nz_ge, nz_00, nz_n1, nI_add, pk_mul, pk_sub, nI_shl1, nI_or, nI_half2, nI_min2, la_put_eq, la_up, lr_same, lr_ne, lu_same, lu_ne, not_true_eq_false, not_false_eq_true, qr2 hP, qr3 hP, qr4 hP, qr5 hP, qr6 hP, qr7 hP, qr8 hP, qrN hP, qrD hP, qrB hP, qrY hP, qrQ hP, qr1 hP, subadd]; rfl), by omega, ?_⟩; conv => whnf)
    | (apply And.intro; (first | assumption | decide | (simp (disch := omega) only [nI_leI, nI_ltI, nI_eq, nz_eq, nz_lt, nz_gt, nz_le, nz_ge, nz_00, nz_n1, nI_add, pk_mul, pk_sub, nI_shl1, nI_or, nI_half2, nI_min2, la_put_eq, la_up, lr_same, lr_ne, lu_same, lu_ne, not_true_eq_false, not_false_eq_true, qr2 hP, qr3 hP, qr4 hP, qr5 hP, qr6 hP, qr7 hP, qr8 hP, qrN hP, qrD hP, qrB hP, qrY hP, qrQ hP, qr1 hP, subadd]; omega)); conv => whnf))
  all_goals (try simp (disch := omega) only [nI_leI, nI_ltI, nI_eq, nz_eq, nz_lt, nz_gt, nz_le, nz_ge, nz_00, nz_n1, nI_add, pk_mul, pk_sub, nI_shl1, nI_or, nI_half2, nI_min2, la_put_eq, la_up, lr_same, lr_ne, lu_same, lu_ne, not_true_eq_false, not_false_eq_true, qr2 hP, qr3 hP, qr4 hP, qr5 hP, qr6 hP, qr7 hP, qr8 hP, qrN hP, qrD hP, qrB hP, qrY hP, qrQ hP, qr1 hP, subadd])
  exact loop (Y 0 3) 0 0 (by omega) rfl
theorem M_X5_crumbsOn : pm_MT yX5_crumbsOn cX5_crumbsOn 5 1 2 P_X5_crumbsOn (pm_pi Q_X5_crumbsOn) := pm_met k_X5_crumbsOn (by decide) rfl (by
  rintro ⟨g0, g1, g2, g3, g4⟩ av h hp
  rw [hp.1]
  exact Nat.le_of_ble_eq_true rfl) pf_X5_crumbsOn
theorem rc_X5_crumbsOn : ∀ g av h, P_X5_crumbsOn g av h → ∃ i t, av = .inr (.inr (5, i, 0)) :: t := by
  rintro ⟨g0, g1, g2, g3, g4⟩ av h hp
  exact ⟨_, _, hp.1⟩
def P_X5_hungerOn : Nat × LD × pm_H → List pm_V → pm_H → Prop := fun g av h => match g with
  | (pg, Y, h0) => av = [vR 5 0 0, vI (nI pg)] ∧ h = h0 ∧ pg_at h0 pg Y ∧ pg ≤ 245 ∧ la_ok Y ∧ h0 5 0 0 1 = nI (Y 0 0)
def Q_X5_hungerOn : Nat × LD × pm_H → Int32 → pm_H → Prop := fun g v h => match g with
  | (pg, Y, h0) => h = h0 ∧ v = nI (sp_sum (Y 2) (Y 0 0))
def T_X5_hungerOn : List (Nat × pm_T) := [
  (0, i_c (nI 0) 1),
  (1, i_is 2 2),
  (2, i_c (nI 0) 3),
  (3, i_is 3 4),
  (4, i_il 3 5),
  (5, i_al 0 6),
  (6, i_gi 5 1 9),
  (9, i_icge 31 12),
  (12, i_il 2 13),
  (13, i_al 0 14),
  (14, i_gr 5 (fun i => (5, i, 1)) 17),
  (17, i_il 1 18),
  (18, i_c (nI 4) 19),
  (19, i_iadd 20),
  (20, i_il 3 21),
  (21, i_iadd 22),
  (22, i_ia 23),
  (23, i_iadd 24),
  (24, i_is 2 25),
  (25, i_inc 3 (nI 1) 28),
  (28, i_go 4),
  (31, i_il 2 32),
  (32, i_ir)]
theorem k_X5_hungerOn : ∀ q ∈ T_X5_hungerOn, pm_sd RX5 cX5_hungerOn 4 2 1 q.1 q.2 := by
  unfold T_X5_hungerOn
  refine pm_cn (sd_iconst (z := 0) (by decide +kernel) (by decide +kernel) rfl) ?_
  refine pm_cn (sd_isn (k := 2) (by decide +kernel) rfl rfl (by decide)) ?_
  refine pm_cn (sd_iconst (z := 0) (by decide +kernel) (by decide +kernel) rfl) ?_
  refine pm_cn (sd_isn (k := 3) (by decide +kernel) rfl rfl (by decide)) ?_
  refine pm_cn (sd_iln (k := 3) (by decide +kernel) rfl rfl) ?_
  refine pm_cn (sd_aln (k := 0) (by decide +kernel) rfl rfl) ?_
  refine pm_cn (sd_gi cl5_ in5_ (by decide) (fun _ => rfl) fl_X5_126 (by decide +kernel) rfl) ?_
  refine pm_cn (sd_icge (off := 22) (by decide +kernel) (by decide) rfl) ?_
  refine pm_cn (sd_iln (k := 2) (by decide +kernel) rfl rfl) ?_
  refine pm_cn (sd_aln (k := 0) (by decide +kernel) rfl rfl) ?_
  refine pm_cn (sd_gr cl5_ in5_ (j := 0) (by decide) (fun _ => rfl) fl_X5_7 (by decide +kernel) rfl) ?_
  refine pm_cn (sd_iln (k := 1) (by decide +kernel) rfl rfl) ?_
  refine pm_cn (sd_iconst (z := 4) (by decide +kernel) (by decide +kernel) rfl) ?_
  refine pm_cn (sd_iadd (by decide +kernel) rfl) ?_
  refine pm_cn (sd_iln (k := 3) (by decide +kernel) rfl rfl) ?_
  refine pm_cn (sd_iadd (by decide +kernel) rfl) ?_
  refine pm_cn (sd_ia (by decide +kernel) rfl) ?_
  refine pm_cn (sd_iadd (by decide +kernel) rfl) ?_
  refine pm_cn (sd_isn (k := 2) (by decide +kernel) rfl rfl (by decide)) ?_
  refine pm_cn (sd_inc (z := 1) (by decide +kernel) (by decide +kernel) rfl (by decide)) ?_
  refine pm_cn (sd_go (off := -24) (by decide +kernel) (by decide)) ?_
  refine pm_cn (sd_iln (k := 2) (by decide +kernel) rfl rfl) ?_
  refine pm_cn (sd_ir (by decide +kernel)) ?_
  exact fun _ h => absurd h List.not_mem_nil
set_option maxHeartbeats 800000 in
set_option maxRecDepth 100000 in
theorem pf_X5_hungerOn : pm_pf T_X5_hungerOn P_X5_hungerOn (pm_pi Q_X5_hungerOn) := by
  rintro ⟨pg, Y, h0⟩ av h K hK ⟨rfl, rfl, hP, hpg, hw, hF⟩ hret
  obtain ⟨w1, w2, w3, w4, w5, w6, w7, w8, w9, w10⟩ := id hw
  show K (some 0) ([(0, vR 5 0 0), (1, vI (nI pg))], [], h)
  have loop : ∀ n k a, k + n = Y 0 0 → a = sp_sum (Y 2) k → K (some 4) ([(0, vR 5 0 0), (1, vI (nI pg)), (2, vI (nI a)), (3, vI (nI k))], [], h) := by
    intro n
    induction n with
    | zero =>
      intro k a hk ha
      refine hK [(4, [0, 1, 2, 3])] 80 _ _ ?_
      conv => whnf
      repeat' (first
        | (refine ⟨fun c9 => ?_, fun c9 => ?_⟩ <;> (try simp (disch := omega) only [nI_leI, nI_ltI, nI_eq, nz_eq, nz_lt, nz_gt, nz_le, nz_ge, nz_00, nz_n1, nI_add, pk_mul, pk_sub, nI_shl1, nI_or, nI_half2, nI_min2, la_put_eq, la_up, lr_same, lr_ne, lu_same, lu_ne, not_true_eq_false, not_false_eq_true, hF, qr2 hP, qr3 hP, qr4 hP, qr5 hP, qr6 hP, qr7 hP, qr8 hP, qrN hP, qrD hP, qrB hP, qrY hP, qrQ hP, qr1 hP, subadd] at c9) <;> first | (exfalso; omega) | conv => whnf)
        | (refine ⟨_, rfl, by omega, ?_⟩; conv => whnf)
        | (refine ⟨_, rfl, rfl, rfl, by decide, by decide, ?_⟩; conv => whnf)
        | (refine ⟨_, by (simp (disch := omega) only [nI_leI, nI_ltI, nI_eq, nz_eq, nz_lt, nz_gt, nz_le, nz_ge, nz_00, nz_n1, nI_add, pk_mul, pk_sub, nI_shl1, nI_or, nI_half2, nI_min2, la_put_eq, la_up, lr_same, lr_ne, lu_same, lu_ne, not_true_eq_false, not_false_eq_true, hF, qr2 hP, qr3 hP, qr4 hP, qr5 hP, qr6 hP, qr7 hP, qr8 hP, qrN hP, qrD hP, qrB hP, qrY hP, qrQ hP, qr1 hP, subadd]; rfl), by omega, ?_⟩; conv => whnf)
        | (apply And.intro; (first | assumption | decide | (simp (disch := omega) only [nI_leI, nI_ltI, nI_eq, nz_eq, nz_lt, nz_gt, nz_le, nz_ge, nz_00, nz_n1, nI_add, pk_mul, pk_sub, nI_shl1, nI_or, nI_half2, nI_min2, la_put_eq, la_up, lr_same, lr_ne, lu_same, lu_ne, not_true_eq_false, not_false_eq_true, hF, qr2 hP, qr3 hP, qr4 hP, qr5 hP, qr6 hP, qr7 hP, qr8 hP, qrN hP, qrD hP, qrB hP, qrY hP, qrQ hP, qr1 hP, subadd]; omega)); conv => whnf))
      all_goals (try simp (disch := omega) only [nI_leI, nI_ltI, nI_eq, nz_eq, nz_lt, nz_gt, nz_le, nz_ge, nz_00, nz_n1, nI_add, pk_mul, pk_sub, nI_shl1, nI_or, nI_half2, nI_min2, la_put_eq, la_up, lr_same, lr_ne, lu_same, lu_ne, not_true_eq_false, not_false_eq_true, hF, qr2 hP, qr3 hP, qr4 hP, qr5 hP, qr6 hP, qr7 hP, qr8 hP, qrN hP, qrD hP, qrB hP, qrY hP, qrQ hP, qr1 hP, subadd])
      have : k = Y 0 0 := by omega
      subst this
      exact hret _ _ ⟨rfl, by rw [ha]⟩
    | succ n ih =>
      intro k a hk ha
      refine hK [(4, [0, 1, 2, 3])] 80 _ _ ?_
      conv => whnf
      repeat' (first
        | (refine ⟨fun c9 => ?_, fun c9 => ?_⟩ <;> (try simp (disch := omega) only [nI_leI, nI_ltI, nI_eq, nz_eq, nz_lt, nz_gt, nz_le, nz_ge, nz_00, nz_n1, nI_add, pk_mul, pk_sub, nI_shl1, nI_or, nI_half2, nI_min2, la_put_eq, la_up, lr_same, lr_ne, lu_same, lu_ne, not_true_eq_false, not_false_eq_true, hF, qr2 hP, qr3 hP, qr4 hP, qr5 hP, qr6 hP, qr7 hP, qr8 hP, qrN hP, qrD hP, qrB hP, qrY hP, qrQ hP, qr1 hP, subadd] at c9) <;> first | (exfalso; omega) | conv => whnf)
        | (refine ⟨_, rfl, by omega, ?_⟩; conv => whnf)
        | (refine ⟨_, rfl, rfl, rfl, by decide, by decide, ?_⟩; conv => whnf)
        | (refine ⟨_, by (simp (disch := omega) only [nI_leI, nI_ltI, nI_eq, nz_eq, nz_lt, nz_gt, nz_le, nz_ge, nz_00, nz_n1, nI_add, pk_mul, pk_sub, nI_shl1, nI_or, nI_half2, nI_min2, la_put_eq, la_up, lr_same, lr_ne, lu_same, lu_ne, not_true_eq_false, not_false_eq_true, hF, qr2 hP, qr3 hP, qr4 hP, qr5 hP, qr6 hP, qr7 hP, qr8 hP, qrN hP, qrD hP, qrB hP, qrY hP, qrQ hP, qr1 hP, subadd]; rfl), by omega, ?_⟩; conv => whnf)
        | (apply And.intro; (first | assumption | decide | (simp (disch := omega) only [nI_leI, nI_ltI, nI_eq, nz_eq, nz_lt, nz_gt, nz_le, nz_ge, nz_00, nz_n1, nI_add, pk_mul, pk_sub, nI_shl1, nI_or, nI_half2, nI_min2, la_put_eq, la_up, lr_same, lr_ne, lu_same, lu_ne, not_true_eq_false, not_false_eq_true, hF, qr2 hP, qr3 hP, qr4 hP, qr5 hP, qr6 hP, qr7 hP, qr8 hP, qrN hP, qrD hP, qrB hP, qrY hP, qrQ hP, qr1 hP, subadd]; omega)); conv => whnf))
      all_goals (try simp (disch := omega) only [nI_leI, nI_ltI, nI_eq, nz_eq, nz_lt, nz_gt, nz_le, nz_ge, nz_00, nz_n1, nI_add, pk_mul, pk_sub, nI_shl1, nI_or, nI_half2, nI_min2, la_put_eq, la_up, lr_same, lr_ne, lu_same, lu_ne, not_true_eq_false, not_false_eq_true, hF, qr2 hP, qr3 hP, qr4 hP, qr5 hP, qr6 hP, qr7 hP, qr8 hP, qrN hP, qrD hP, qrB hP, qrY hP, qrQ hP, qr1 hP, subadd])
      refine ih (k + 1) _ (by omega) ?_
      rw [sp_sum, ← ha]
  refine hK [(4, [0, 1, 2, 3])] 80 _ _ ?_
  conv => whnf
  repeat' (first
    | (refine ⟨fun c9 => ?_, fun c9 => ?_⟩ <;> (try simp (disch := omega) only [nI_leI, nI_ltI, nI_eq, nz_eq, nz_lt, nz_gt, nz_le, nz_ge, nz_00, nz_n1, nI_add, pk_mul, pk_sub, nI_shl1, nI_or, nI_half2, nI_min2, la_put_eq, la_up, lr_same, lr_ne, lu_same, lu_ne, not_true_eq_false, not_false_eq_true, hF, qr2 hP, qr3 hP, qr4 hP, qr5 hP, qr6 hP, qr7 hP, qr8 hP, qrN hP, qrD hP, qrB hP, qrY hP, qrQ hP, qr1 hP, subadd] at c9) <;> first | (exfalso; omega) | conv => whnf)
    | (refine ⟨_, rfl, by omega, ?_⟩; conv => whnf)
    | (refine ⟨_, rfl, rfl, rfl, by decide, by decide, ?_⟩; conv => whnf)
    | (refine ⟨_, by (simp (disch := omega) only [nI_leI, nI_ltI, nI_eq, nz_eq, nz_lt, nz_gt, nz_le, nz_ge, nz_00, nz_n1, nI_add, pk_mul, pk_sub, nI_shl1, nI_or, nI_half2, nI_min2, la_put_eq, la_up, lr_same, lr_ne, lu_same, lu_ne, not_true_eq_false, not_false_eq_true, hF, qr2 hP, qr3 hP, qr4 hP, qr5 hP, qr6 hP, qr7 hP, qr8 hP, qrN hP, qrD hP, qrB hP, qrY hP, qrQ hP, qr1 hP, subadd]; rfl), by omega, ?_⟩; conv => whnf)
    | (apply And.intro; (first | assumption | decide | (simp (disch := omega) only [nI_leI, nI_ltI, nI_eq, nz_eq, nz_lt, nz_gt, nz_le, nz_ge, nz_00, nz_n1, nI_add, pk_mul, pk_sub, nI_shl1, nI_or, nI_half2, nI_min2, la_put_eq, la_up, lr_same, lr_ne, lu_same, lu_ne, not_true_eq_false, not_false_eq_true, hF, qr2 hP, qr3 hP, qr4 hP, qr5 hP, qr6 hP, qr7 hP, qr8 hP, qrN hP, qrD hP, qrB hP, qrY hP, qrQ hP, qr1 hP, subadd]; omega)); conv => whnf))
  all_goals (try simp (disch := omega) only [nI_leI, nI_ltI, nI_eq, nz_eq, nz_lt, nz_gt, nz_le, nz_ge, nz_00, nz_n1, nI_add, pk_mul, pk_sub, nI_shl1, nI_or, nI_half2, nI_min2, la_put_eq, la_up, lr_same, lr_ne, lu_same, lu_ne, not_true_eq_false, not_false_eq_true, hF, qr2 hP, qr3 hP, qr4 hP, qr5 hP, qr6 hP, qr7 hP, qr8 hP, qrN hP, qrD hP, qrB hP, qrY hP, qrQ hP, qr1 hP, subadd])
  exact loop (Y 0 0) 0 0 (by omega) rfl
theorem M_X5_hungerOn : pm_MT yX5_hungerOn cX5_hungerOn 4 1 2 P_X5_hungerOn (pm_pi Q_X5_hungerOn) := pm_met k_X5_hungerOn (by decide) rfl (by
  rintro ⟨g0, g1, g2⟩ av h hp
  rw [hp.1]
  exact Nat.le_of_ble_eq_true rfl) pf_X5_hungerOn
theorem rc_X5_hungerOn : ∀ g av h, P_X5_hungerOn g av h → ∃ i t, av = .inr (.inr (5, i, 0)) :: t := by
  rintro ⟨g0, g1, g2⟩ av h hp
  exact ⟨_, _, hp.1⟩
/-! asksOn -/
theorem up_self {h : pm_H} {c i s j : Nat} : pm_up h c i s j (h c i s j) = h := by
  funext c' i' s' j'
  unfold pm_up
  by_cases hc : c' = c ∧ i' = i ∧ s' = s ∧ j' = j
  · obtain ⟨rfl, rfl, rfl, rfl⟩ := hc; simp
  · simp [hc]
theorem ne0_bit {a : Nat} : a ≠ 0 ↔ ∃ j, a.testBit j = true := by
  constructor
  · intro h
    apply Classical.byContradiction
    intro hn
    apply h
    apply Nat.eq_of_testBit_eq
    intro i
    rw [Nat.zero_testBit]
    exact Bool.eq_false_iff.mpr (fun q => hn ⟨i, q⟩)
  · rintro ⟨j, hj⟩ rfl
    rw [Nat.zero_testBit] at hj
    exact absurd hj (by decide)
theorem knowers_all {L : LD} {s : Nat} : sp_knowers L s ≠ 0 ↔ (sp_allLore L).testBit s = true := by
  rw [ne0_bit]
  unfold sp_knowers sp_allLore
  rw [sp_or_bit]
  constructor
  · rintro ⟨j, hj⟩
    obtain ⟨k, hk, hb⟩ := sp_or_bit.mp hj
    obtain ⟨⟨h1, h2⟩, _⟩ := sp_bit1.mp hb
    exact ⟨k, hk, sp_bit1.mpr ⟨h2, h1⟩⟩
  · rintro ⟨k, hk, hb⟩
    obtain ⟨h1, h2⟩ := sp_bit1.mp hb
    exact ⟨L 6 k, sp_or_bit.mpr ⟨k, hk, sp_bit1.mpr ⟨⟨h2, h1⟩, rfl⟩⟩⟩
theorem knowers_bt {L : LD} {s : Nat} : sp_knowers L s ≠ 0 ↔ sp_sub false 0 L / 2 ^ s % 2 = 1 := by rw [knowers_all, bt_iff, sp_sub_f]
def P_X5_asksOn : Nat × Nat × LD × pm_H → List pm_V → pm_H → Prop := fun g av h => match g with
  | (pg, a, Y, h0) => av = [vR 5 0 0, vI (nI pg)] ∧ h = h0 ∧ pg_at h0 pg Y ∧ pg ≤ 245 ∧ la_ok Y ∧ h0 5 0 0 17 = nI a
def Q_X5_asksOn : Nat × Nat × LD × pm_H → pm_H → Prop := fun g h => match g with
  | (pg, a, Y, h0) => h = pm_up h0 5 0 0 17 (nI (a ||| sp_ans Y))
def T_X5_asksOn : List (Nat × pm_T) := [
  (0, i_al 0 1),
  (1, i_il 1 2),
  (2, i_c (-4) 4),
  (4, i_ci 3 P_X5_subjectsOn Q_X5_subjectsOn 7),
  (7, i_is 2 8),
  (8, i_c (nI 0) 9),
  (9, i_is 3 10),
  (10, i_il 3 11),
  (11, i_al 0 12),
  (12, i_gr 5 (fun i => (5, i, 1)) 15),
  (15, i_il 1 16),
  (16, i_c (nI 48) 18),
  (18, i_iadd 19),
  (19, i_ia 20),
  (20, i_icge 87 23),
  (23, i_al 0 24),
  (24, i_dup 25),
  (25, i_gi 5 17 28),
  (28, i_al 0 29),
  (29, i_gr 5 (fun i => (5, i, 1)) 32),
  (32, i_il 1 33),
  (33, i_c (nI 36) 35),
  (35, i_iadd 36),
  (36, i_il 3 37),
  (37, i_iadd 38),
  (38, i_ia 39),
  (39, i_al 0 40),
  (40, i_gr 5 (fun i => (5, i, 1)) 43),
  (43, i_il 1 44),
  (44, i_c (nI 35) 46),
  (46, i_iadd 47),
  (47, i_ia 48),
  (48, i_icne 76 51),
  (51, i_il 2 52),
  (52, i_al 0 53),
  (53, i_gr 5 (fun i => (5, i, 1)) 56),
  (56, i_il 1 57),
  (57, i_c (nI 42) 59),
  (59, i_iadd 60),
  (60, i_il 3 61),
  (61, i_iadd 62),
  (62, i_ia 63),
  (63, i_ishr 64),
  (64, i_c (nI 1) 65),
  (65, i_iand 66),
  (66, i_c (nI 1) 67),
  (67, i_icne 76 70),
  (70, i_c (nI 1) 71),
  (71, i_il 3 72),
  (72, i_ishl 73),
  (73, i_go 77),
  (76, i_c (nI 0) 77),
  (77, i_ior 78),
  (78, i_pi 5 17 81),
  (81, i_inc 3 (nI 1) 84),
  (84, i_go 10),
  (87, i_vr)]
theorem k_X5_asksOn : ∀ q ∈ T_X5_asksOn, pm_sd RX5 cX5_asksOn 4 3 0 q.1 q.2 := by
  unfold T_X5_asksOn
  refine pm_cn (sd_aln (k := 0) (by decide +kernel) rfl rfl) ?_
  refine pm_cn (sd_iln (k := 1) (by decide +kernel) rfl rfl) ?_
  refine pm_cn (sd_bipush (z := -4) (by decide +kernel) (by decide +kernel) rfl) ?_
  refine pm_cn (sd_civ M_X5_subjectsOn (by decide) cd_X5_subjectsOn rc_X5_subjectsOn cl5_ ml_X5_134 im_X5_subjectsOn se_X5_subjectsOn nt_X5 (by decide +kernel) (by omega) (by decide) (by decide +kernel) rfl) ?_
  refine pm_cn (sd_isn (k := 2) (by decide +kernel) rfl rfl (by decide)) ?_
  refine pm_cn (sd_iconst (z := 0) (by decide +kernel) (by decide +kernel) rfl) ?_
  refine pm_cn (sd_isn (k := 3) (by decide +kernel) rfl rfl (by decide)) ?_
  refine pm_cn (sd_iln (k := 3) (by decide +kernel) rfl rfl) ?_
  refine pm_cn (sd_aln (k := 0) (by decide +kernel) rfl rfl) ?_
  refine pm_cn (sd_gr cl5_ in5_ (j := 0) (by decide) (fun _ => rfl) fl_X5_7 (by decide +kernel) rfl) ?_
  refine pm_cn (sd_iln (k := 1) (by decide +kernel) rfl rfl) ?_
  refine pm_cn (sd_bipush (z := 48) (by decide +kernel) (by decide +kernel) rfl) ?_
  refine pm_cn (sd_iadd (by decide +kernel) rfl) ?_
  refine pm_cn (sd_ia (by decide +kernel) rfl) ?_
  refine pm_cn (sd_icge (off := 67) (by decide +kernel) (by decide) rfl) ?_
  refine pm_cn (sd_aln (k := 0) (by decide +kernel) rfl rfl) ?_
  refine pm_cn (sd_dup (by decide +kernel) rfl) ?_
  refine pm_cn (sd_gi cl5_ in5_ (by decide) (fun _ => rfl) fl_X5_137 (by decide +kernel) rfl) ?_
  refine pm_cn (sd_aln (k := 0) (by decide +kernel) rfl rfl) ?_
  refine pm_cn (sd_gr cl5_ in5_ (j := 0) (by decide) (fun _ => rfl) fl_X5_7 (by decide +kernel) rfl) ?_
  refine pm_cn (sd_iln (k := 1) (by decide +kernel) rfl rfl) ?_
  refine pm_cn (sd_bipush (z := 36) (by decide +kernel) (by decide +kernel) rfl) ?_
  refine pm_cn (sd_iadd (by decide +kernel) rfl) ?_
  refine pm_cn (sd_iln (k := 3) (by decide +kernel) rfl rfl) ?_
  refine pm_cn (sd_iadd (by decide +kernel) rfl) ?_
  refine pm_cn (sd_ia (by decide +kernel) rfl) ?_
  refine pm_cn (sd_aln (k := 0) (by decide +kernel) rfl rfl) ?_
  refine pm_cn (sd_gr cl5_ in5_ (j := 0) (by decide) (fun _ => rfl) fl_X5_7 (by decide +kernel) rfl) ?_
  refine pm_cn (sd_iln (k := 1) (by decide +kernel) rfl rfl) ?_
  refine pm_cn (sd_bipush (z := 35) (by decide +kernel) (by decide +kernel) rfl) ?_
  refine pm_cn (sd_iadd (by decide +kernel) rfl) ?_
  refine pm_cn (sd_ia (by decide +kernel) rfl) ?_
  refine pm_cn (sd_icne (off := 28) (by decide +kernel) (by decide) rfl) ?_
  refine pm_cn (sd_iln (k := 2) (by decide +kernel) rfl rfl) ?_
  refine pm_cn (sd_aln (k := 0) (by decide +kernel) rfl rfl) ?_
  refine pm_cn (sd_gr cl5_ in5_ (j := 0) (by decide) (fun _ => rfl) fl_X5_7 (by decide +kernel) rfl) ?_
  refine pm_cn (sd_iln (k := 1) (by decide +kernel) rfl rfl) ?_
  refine pm_cn (sd_bipush (z := 42) (by decide +kernel) (by decide +kernel) rfl) ?_
  refine pm_cn (sd_iadd (by decide +kernel) rfl) ?_
  refine pm_cn (sd_iln (k := 3) (by decide +kernel) rfl rfl) ?_
  refine pm_cn (sd_iadd (by decide +kernel) rfl) ?_
  refine pm_cn (sd_ia (by decide +kernel) rfl) ?_
  refine pm_cn (sd_ishr (by decide +kernel) rfl) ?_
  refine pm_cn (sd_iconst (z := 1) (by decide +kernel) (by decide +kernel) rfl) ?_
  refine pm_cn (sd_iand (by decide +kernel) rfl) ?_
  refine pm_cn (sd_iconst (z := 1) (by decide +kernel) (by decide +kernel) rfl) ?_
  refine pm_cn (sd_icne (off := 9) (by decide +kernel) (by decide) rfl) ?_
  refine pm_cn (sd_iconst (z := 1) (by decide +kernel) (by decide +kernel) rfl) ?_
  refine pm_cn (sd_iln (k := 3) (by decide +kernel) rfl rfl) ?_
  refine pm_cn (sd_ishl (by decide +kernel) rfl) ?_
  refine pm_cn (sd_go (off := 4) (by decide +kernel) (by decide)) ?_
  refine pm_cn (sd_iconst (z := 0) (by decide +kernel) (by decide +kernel) rfl) ?_
  refine pm_cn (sd_ior (by decide +kernel) rfl) ?_
  refine pm_cn (sd_pi cl5_ in5_ tyX5 tyX5_ok nmX5 (by decide) (fun _ => rfl) rfl rfl fl_X5_137 (by decide +kernel) rfl) ?_
  refine pm_cn (sd_inc (z := 1) (by decide +kernel) (by decide +kernel) rfl (by decide)) ?_
  refine pm_cn (sd_go (off := -74) (by decide +kernel) (by decide)) ?_
  refine pm_cn (sd_vr (by decide +kernel)) ?_
  exact fun _ h => absurd h List.not_mem_nil
set_option maxHeartbeats 800000 in
set_option maxRecDepth 100000 in
theorem pf_X5_asksOn : pm_pf T_X5_asksOn P_X5_asksOn (pm_pv Q_X5_asksOn) := by
  rintro ⟨pg, a, Y, h0⟩ av h K hK ⟨rfl, rfl, hP, hpg, hw, hA⟩ hret
  obtain ⟨w1, w2, w3, w4, w5, w6, w7, w8, w9, w10⟩ := id hw
  show K (some 0) ([(0, vR 5 0 0), (1, vI (nI pg))], [], h)
  have hs := sp_sub_lt hw false 0
  have loop : ∀ n k c, k + n = Y 0 11 → c = a ||| sp_or (fun q => if Y 7 q = Y 0 10 ∧ sp_knowers Y (Y 8 q) ≠ 0 then 2 ^ q else 0) k → K (some 10) ([(0, vR 5 0 0), (1, vI (nI pg)), (2, vI (nI (sp_sub false 0 Y))), (3, vI (nI k))], [], pm_up h 5 0 0 17 (nI c)) := by
    intro n
    induction n with
    | zero =>
      intro k c hk hc
      refine hK [(10, [0, 1, 2, 3])] 80 _ _ ?_
      conv => whnf
      repeat' (first
        | (refine ⟨fun c9 => ?_, fun c9 => ?_⟩ <;> (try simp (disch := omega) only [nI_leI, nI_ltI, nI_eq, nz_eq, nz_lt, nz_gt, nz_le, nz_ge, nz_00, nz_n1, nI_add, pk_mul, pk_sub, nI_shl1, nI_or, nI_half2, nI_min2, la_put_eq, la_up, lr_same, lr_ne, lu_same, lu_ne, not_true_eq_false, not_false_eq_true, an1, an0, qr2 hP, qr3 hP, qr4 hP, qr5 hP, qr6 hP, qr7 hP, qr8 hP, qrN hP, qrD hP, qrB hP, qrY hP, qrQ hP, qr1 hP, subadd] at c9) <;> first | (exfalso; omega) | conv => whnf)
        | (refine ⟨_, rfl, by omega, ?_⟩; conv => whnf)
        | (refine ⟨_, rfl, rfl, rfl, by decide, by decide, ?_⟩; conv => whnf)
        | (refine ⟨_, by (simp (disch := omega) only [nI_leI, nI_ltI, nI_eq, nz_eq, nz_lt, nz_gt, nz_le, nz_ge, nz_00, nz_n1, nI_add, pk_mul, pk_sub, nI_shl1, nI_or, nI_half2, nI_min2, la_put_eq, la_up, lr_same, lr_ne, lu_same, lu_ne, not_true_eq_false, not_false_eq_true, an1, an0, qr2 hP, qr3 hP, qr4 hP, qr5 hP, qr6 hP, qr7 hP, qr8 hP, qrN hP, qrD hP, qrB hP, qrY hP, qrQ hP, qr1 hP, subadd]; rfl), by omega, ?_⟩; conv => whnf)
        | (apply And.intro; (first | assumption | decide | (simp (disch := omega) only [nI_leI, nI_ltI, nI_eq, nz_eq, nz_lt, nz_gt, nz_le, nz_ge, nz_00, nz_n1, nI_add, pk_mul, pk_sub, nI_shl1, nI_or, nI_half2, nI_min2, la_put_eq, la_up, lr_same, lr_ne, lu_same, lu_ne, not_true_eq_false, not_false_eq_true, an1, an0, qr2 hP, qr3 hP, qr4 hP, qr5 hP, qr6 hP, qr7 hP, qr8 hP, qrN hP, qrD hP, qrB hP, qrY hP, qrQ hP, qr1 hP, subadd]; omega)); conv => whnf))
      all_goals (try simp (disch := omega) only [nI_leI, nI_ltI, nI_eq, nz_eq, nz_lt, nz_gt, nz_le, nz_ge, nz_00, nz_n1, nI_add, pk_mul, pk_sub, nI_shl1, nI_or, nI_half2, nI_min2, la_put_eq, la_up, lr_same, lr_ne, lu_same, lu_ne, not_true_eq_false, not_false_eq_true, an1, an0, qr2 hP, qr3 hP, qr4 hP, qr5 hP, qr6 hP, qr7 hP, qr8 hP, qrN hP, qrD hP, qrB hP, qrY hP, qrQ hP, qr1 hP, subadd])
      have : k = Y 0 11 := by omega
      subst this
      exact hret _ _ (by show _ = _; rw [hc]; rfl)
    | succ n ih =>
      intro k c hk hc
      have hB := w9 k (by omega)
      refine hK [(10, [0, 1, 2, 3])] 80 _ _ ?_
      conv => whnf
      repeat' (first
        | (refine ⟨fun c9 => ?_, fun c9 => ?_⟩ <;> (try simp (disch := omega) only [nI_leI, nI_ltI, nI_eq, nz_eq, nz_lt, nz_gt, nz_le, nz_ge, nz_00, nz_n1, nI_add, pk_mul, pk_sub, nI_shl1, nI_or, nI_half2, nI_min2, la_put_eq, la_up, lr_same, lr_ne, lu_same, lu_ne, not_true_eq_false, not_false_eq_true, an1, an0, an2, nI_bit, qr2 hP, qr3 hP, qr4 hP, qr5 hP, qr6 hP, qr7 hP, qr8 hP, qrN hP, qrD hP, qrB hP, qrY hP, qrQ hP, qr1 hP, subadd] at c9) <;> first | (exfalso; omega) | conv => whnf)
        | (refine ⟨_, rfl, by omega, ?_⟩; conv => whnf)
        | (refine ⟨_, rfl, rfl, rfl, by decide, by decide, ?_⟩; conv => whnf)
        | (refine ⟨_, by (simp (disch := omega) only [nI_leI, nI_ltI, nI_eq, nz_eq, nz_lt, nz_gt, nz_le, nz_ge, nz_00, nz_n1, nI_add, pk_mul, pk_sub, nI_shl1, nI_or, nI_half2, nI_min2, la_put_eq, la_up, lr_same, lr_ne, lu_same, lu_ne, not_true_eq_false, not_false_eq_true, an1, an0, an2, nI_bit, qr2 hP, qr3 hP, qr4 hP, qr5 hP, qr6 hP, qr7 hP, qr8 hP, qrN hP, qrD hP, qrB hP, qrY hP, qrQ hP, qr1 hP, subadd]; rfl), by omega, ?_⟩; conv => whnf)
        | (apply And.intro; (first | assumption | decide | (simp (disch := omega) only [nI_leI, nI_ltI, nI_eq, nz_eq, nz_lt, nz_gt, nz_le, nz_ge, nz_00, nz_n1, nI_add, pk_mul, pk_sub, nI_shl1, nI_or, nI_half2, nI_min2, la_put_eq, la_up, lr_same, lr_ne, lu_same, lu_ne, not_true_eq_false, not_false_eq_true, an1, an0, an2, nI_bit, qr2 hP, qr3 hP, qr4 hP, qr5 hP, qr6 hP, qr7 hP, qr8 hP, qrN hP, qrD hP, qrB hP, qrY hP, qrQ hP, qr1 hP, subadd]; omega)); conv => whnf))
      all_goals (try simp (disch := omega) only [nI_leI, nI_ltI, nI_eq, nz_eq, nz_lt, nz_gt, nz_le, nz_ge, nz_00, nz_n1, nI_add, pk_mul, pk_sub, nI_shl1, nI_or, nI_half2, nI_min2, la_put_eq, la_up, lr_same, lr_ne, lu_same, lu_ne, not_true_eq_false, not_false_eq_true, an1, an0, an2, nI_bit, qr2 hP, qr3 hP, qr4 hP, qr5 hP, qr6 hP, qr7 hP, qr8 hP, qrN hP, qrD hP, qrB hP, qrY hP, qrQ hP, qr1 hP, subadd])
      · refine ih (k + 1) _ (by omega) ?_
        rw [sp_or, ← Nat.or_assoc, ← hc, if_neg (by omega)]
      · refine ih (k + 1) _ (by omega) ?_
        rw [sp_or, ← Nat.or_assoc, ← hc, if_neg (by rw [knowers_bt]; omega)]
      · refine ih (k + 1) _ (by omega) ?_
        rw [sp_or, ← Nat.or_assoc, ← hc, if_pos ⟨by omega, by rw [knowers_bt]; omega⟩]
  refine hK [(10, [0, 1, 2, 3])] 80 _ _ ?_
  conv => whnf
  repeat' (first
    | (refine ⟨fun c9 => ?_, fun c9 => ?_⟩ <;> (try simp (disch := omega) only [nI_leI, nI_ltI, nI_eq, nz_eq, nz_lt, nz_gt, nz_le, nz_ge, nz_00, nz_n1, nI_add, pk_mul, pk_sub, nI_shl1, nI_or, nI_half2, nI_min2, la_put_eq, la_up, lr_same, lr_ne, lu_same, lu_ne, not_true_eq_false, not_false_eq_true, qr2 hP, qr3 hP, qr4 hP, qr5 hP, qr6 hP, qr7 hP, qr8 hP, qrN hP, qrD hP, qrB hP, qrY hP, qrQ hP, qr1 hP, subadd] at c9) <;> first | (exfalso; omega) | conv => whnf)
    | (refine ⟨_, rfl, by omega, ?_⟩; conv => whnf)
    | (refine ⟨_, rfl, rfl, rfl, by decide, by decide, ?_⟩; conv => whnf)
    | (refine ⟨_, by (simp (disch := omega) only [nI_leI, nI_ltI, nI_eq, nz_eq, nz_lt, nz_gt, nz_le, nz_ge, nz_00, nz_n1, nI_add, pk_mul, pk_sub, nI_shl1, nI_or, nI_half2, nI_min2, la_put_eq, la_up, lr_same, lr_ne, lu_same, lu_ne, not_true_eq_false, not_false_eq_true, qr2 hP, qr3 hP, qr4 hP, qr5 hP, qr6 hP, qr7 hP, qr8 hP, qrN hP, qrD hP, qrB hP, qrY hP, qrQ hP, qr1 hP, subadd]; rfl), by omega, ?_⟩; conv => whnf)
    | (apply And.intro; (first | assumption | decide | (simp (disch := omega) only [nI_leI, nI_ltI, nI_eq, nz_eq, nz_lt, nz_gt, nz_le, nz_ge, nz_00, nz_n1, nI_add, pk_mul, pk_sub, nI_shl1, nI_or, nI_half2, nI_min2, la_put_eq, la_up, lr_same, lr_ne, lu_same, lu_ne, not_true_eq_false, not_false_eq_true, qr2 hP, qr3 hP, qr4 hP, qr5 hP, qr6 hP, qr7 hP, qr8 hP, qrN hP, qrD hP, qrB hP, qrY hP, qrQ hP, qr1 hP, subadd]; omega)); conv => whnf))
  all_goals (try simp (disch := omega) only [nI_leI, nI_ltI, nI_eq, nz_eq, nz_lt, nz_gt, nz_le, nz_ge, nz_00, nz_n1, nI_add, pk_mul, pk_sub, nI_shl1, nI_or, nI_half2, nI_min2, la_put_eq, la_up, lr_same, lr_ne, lu_same, lu_ne, not_true_eq_false, not_false_eq_true, qr2 hP, qr3 hP, qr4 hP, qr5 hP, qr6 hP, qr7 hP, qr8 hP, qrN hP, qrD hP, qrB hP, qrY hP, qrQ hP, qr1 hP, subadd])
  refine ⟨(pg, false, 0, Y, h), ⟨rfl, rfl, hP, hpg, hw, by omega⟩, fun v h' hq => ?_⟩
  obtain ⟨rfl, rfl⟩ := hq
  conv => whnf
  repeat' (first
    | (refine ⟨fun c9 => ?_, fun c9 => ?_⟩ <;> (try simp (disch := omega) only [nI_leI, nI_ltI, nI_eq, nz_eq, nz_lt, nz_gt, nz_le, nz_ge, nz_00, nz_n1, nI_add, pk_mul, pk_sub, nI_shl1, nI_or, nI_half2, nI_min2, la_put_eq, la_up, lr_same, lr_ne, lu_same, lu_ne, not_true_eq_false, not_false_eq_true, qr2 hP, qr3 hP, qr4 hP, qr5 hP, qr6 hP, qr7 hP, qr8 hP, qrN hP, qrD hP, qrB hP, qrY hP, qrQ hP, qr1 hP, subadd] at c9) <;> first | (exfalso; omega) | conv => whnf)
    | (refine ⟨_, rfl, by omega, ?_⟩; conv => whnf)
    | (refine ⟨_, rfl, rfl, rfl, by decide, by decide, ?_⟩; conv => whnf)
    | (refine ⟨_, by (simp (disch := omega) only [nI_leI, nI_ltI, nI_eq, nz_eq, nz_lt, nz_gt, nz_le, nz_ge, nz_00, nz_n1, nI_add, pk_mul, pk_sub, nI_shl1, nI_or, nI_half2, nI_min2, la_put_eq, la_up, lr_same, lr_ne, lu_same, lu_ne, not_true_eq_false, not_false_eq_true, qr2 hP, qr3 hP, qr4 hP, qr5 hP, qr6 hP, qr7 hP, qr8 hP, qrN hP, qrD hP, qrB hP, qrY hP, qrQ hP, qr1 hP, subadd]; rfl), by omega, ?_⟩; conv => whnf)
    | (apply And.intro; (first | assumption | decide | (simp (disch := omega) only [nI_leI, nI_ltI, nI_eq, nz_eq, nz_lt, nz_gt, nz_le, nz_ge, nz_00, nz_n1, nI_add, pk_mul, pk_sub, nI_shl1, nI_or, nI_half2, nI_min2, la_put_eq, la_up, lr_same, lr_ne, lu_same, lu_ne, not_true_eq_false, not_false_eq_true, qr2 hP, qr3 hP, qr4 hP, qr5 hP, qr6 hP, qr7 hP, qr8 hP, qrN hP, qrD hP, qrB hP, qrY hP, qrQ hP, qr1 hP, subadd]; omega)); conv => whnf))
  all_goals (try simp (disch := omega) only [nI_leI, nI_ltI, nI_eq, nz_eq, nz_lt, nz_gt, nz_le, nz_ge, nz_00, nz_n1, nI_add, pk_mul, pk_sub, nI_shl1, nI_or, nI_half2, nI_min2, la_put_eq, la_up, lr_same, lr_ne, lu_same, lu_ne, not_true_eq_false, not_false_eq_true, qr2 hP, qr3 hP, qr4 hP, qr5 hP, qr6 hP, qr7 hP, qr8 hP, qrN hP, qrD hP, qrB hP, qrY hP, qrQ hP, qr1 hP, subadd])
  have := loop (Y 0 11) 0 a (by omega) (by simp [sp_or])
  rw [← hA, up_self] at this
  exact this
theorem M_X5_asksOn : pm_MT yX5_asksOn cX5_asksOn 4 0 3 P_X5_asksOn (pm_pv Q_X5_asksOn) := pm_met k_X5_asksOn (by decide) rfl (by
  rintro ⟨g0, g1, g2, g3⟩ av h hp
  rw [hp.1]
  exact Nat.le_of_ble_eq_true rfl) pf_X5_asksOn
theorem rc_X5_asksOn : ∀ g av h, P_X5_asksOn g av h → ∃ i t, av = .inr (.inr (5, i, 0)) :: t := by
  rintro ⟨g0, g1, g2, g3⟩ av h hp
  exact ⟨_, _, hp.1⟩
