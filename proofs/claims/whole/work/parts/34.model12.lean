/-! THE MODEL: kinds, subjects, ask. -/
theorem mf_up {h0 h : pm_H} {c i s j : Nat} {v : Int32} (a : mf h0 h) : mf (pm_up h0 c i s j v) (pm_up h c i s j v) := fun c' i' s' j' hn => by
  unfold pm_up
  by_cases q : c' = c ∧ i' = i ∧ s' = s ∧ j' = j
  · rw [if_pos q, if_pos q]
  · rw [if_neg q, if_neg q]; exact a c' i' s' j' hn
theorem lu_lu (L : LD) (s j v w : Nat) : lu (lu L s j v) s j w = lu L s j w := by
  funext s' j'
  by_cases q : s' = s ∧ j' = j
  · obtain ⟨rfl, rfl⟩ := q; rw [lu_same, lu_same]
  · rw [lu_ne q, lu_ne q, lu_ne q]
def P_X5_kindsOf : Nat × LD × Nat × LD × pm_H → List pm_V → pm_H → Prop := fun g av h => match g with
  | (b, Y, m, S, h0) => av = [vR 5 0 0, vI (nI b)] ∧ h = h0 ∧ md h0 Y ∧ Y 0 10 ≤ 999 ∧ ms_at h0 m S ∧ se_ok m S ∧ b < 6
def Q_X5_kindsOf : Nat × LD × Nat × LD × pm_H → Int32 → pm_H → Prop := fun g v h => match g with
  | (b, N, m, S, h0) => mf h0 h ∧ v = nI (sp_kinds N m S b) ∧ ∀ q, q < 4 → kr h q (N 0 0) (lu N 3 b q) (N 4 b) 124
def T_X5_kindsOf : List (Nat × pm_T) := [
  (0, i_al 0 1),
  (1, i_gr 5 (fun i => (5, i, 1)) 4),
  (4, i_c (nI 8) 6),
  (6, i_il 1 7),
  (7, i_iadd 8),
  (8, i_ia 9),
  (9, i_is 2 10),
  (10, i_c (nI 0) 11),
  (11, i_is 3 12),
  (12, i_c (nI 0) 13),
  (13, i_is 4 15),
  (15, i_il 4 17),
  (17, i_c (nI 4) 18),
  (18, i_icge 67 21),
  (21, i_al 0 22),
  (22, i_gr 5 (fun i => (5, i, 1)) 25),
  (25, i_c (nI 8) 27),
  (27, i_il 1 28),
  (28, i_iadd 29),
  (29, i_il 4 31),
  (31, i_ias 32),
  (32, i_il 3 33),
  (33, i_al 0 34),
  (34, i_il 4 36),
  (36, i_al 0 37),
  (37, i_gr 5 (fun i => (5, i, 1)) 40),
  (40, i_c (nI 14) 42),
  (42, i_il 1 43),
  (43, i_iadd 44),
  (44, i_ia 45),
  (45, i_ci 3 P_X5_isAsSeen Q_X5_isAsSeen 48),
  (48, i_ifeq 58 51),
  (51, i_c (nI 1) 52),
  (52, i_il 4 54),
  (54, i_ishl 55),
  (55, i_go 59),
  (58, i_c (nI 0) 59),
  (59, i_ior 60),
  (60, i_is 3 61),
  (61, i_inc 4 (nI 1) 64),
  (64, i_go 15),
  (67, i_al 0 68),
  (68, i_gr 5 (fun i => (5, i, 1)) 71),
  (71, i_c (nI 8) 73),
  (73, i_il 1 74),
  (74, i_iadd 75),
  (75, i_il 2 76),
  (76, i_ias 77),
  (77, i_il 3 78),
  (78, i_ir)]
theorem k_X5_kindsOf : ∀ q ∈ T_X5_kindsOf, pm_sd RX5 cX5_kindsOf 5 7 1 q.1 q.2 := by
  unfold T_X5_kindsOf
  refine pm_cn (sd_aln (k := 0) (by decide +kernel) rfl rfl) ?_
  refine pm_cn (sd_gr cl5_ in5_ (j := 0) (by decide) (fun _ => rfl) fl_X5_7 (by decide +kernel) rfl) ?_
  refine pm_cn (sd_bipush (z := 8) (by decide +kernel) (by decide +kernel) rfl) ?_
  refine pm_cn (sd_iln (k := 1) (by decide +kernel) rfl rfl) ?_
  refine pm_cn (sd_iadd (by decide +kernel) rfl) ?_
  refine pm_cn (sd_ia (by decide +kernel) rfl) ?_
  refine pm_cn (sd_isn (k := 2) (by decide +kernel) rfl rfl (by decide)) ?_
  refine pm_cn (sd_iconst (z := 0) (by decide +kernel) (by decide +kernel) rfl) ?_
  refine pm_cn (sd_isn (k := 3) (by decide +kernel) rfl rfl (by decide)) ?_
  refine pm_cn (sd_iconst (z := 0) (by decide +kernel) (by decide +kernel) rfl) ?_
  refine pm_cn (sd_is (by decide +kernel) rfl (by decide)) ?_
  refine pm_cn (sd_il (by decide +kernel) rfl) ?_
  refine pm_cn (sd_iconst (z := 4) (by decide +kernel) (by decide +kernel) rfl) ?_
  refine pm_cn (sd_icge (off := 49) (by decide +kernel) (by decide) rfl) ?_
  refine pm_cn (sd_aln (k := 0) (by decide +kernel) rfl rfl) ?_
  refine pm_cn (sd_gr cl5_ in5_ (j := 0) (by decide) (fun _ => rfl) fl_X5_7 (by decide +kernel) rfl) ?_
  refine pm_cn (sd_bipush (z := 8) (by decide +kernel) (by decide +kernel) rfl) ?_
  refine pm_cn (sd_iln (k := 1) (by decide +kernel) rfl rfl) ?_
  refine pm_cn (sd_iadd (by decide +kernel) rfl) ?_
  refine pm_cn (sd_il (by decide +kernel) rfl) ?_
  refine pm_cn (sd_ias (by decide +kernel) rfl) ?_
  refine pm_cn (sd_iln (k := 3) (by decide +kernel) rfl rfl) ?_
  refine pm_cn (sd_aln (k := 0) (by decide +kernel) rfl rfl) ?_
  refine pm_cn (sd_il (by decide +kernel) rfl) ?_
  refine pm_cn (sd_aln (k := 0) (by decide +kernel) rfl rfl) ?_
  refine pm_cn (sd_gr cl5_ in5_ (j := 0) (by decide) (fun _ => rfl) fl_X5_7 (by decide +kernel) rfl) ?_
  refine pm_cn (sd_bipush (z := 14) (by decide +kernel) (by decide +kernel) rfl) ?_
  refine pm_cn (sd_iln (k := 1) (by decide +kernel) rfl rfl) ?_
  refine pm_cn (sd_iadd (by decide +kernel) rfl) ?_
  refine pm_cn (sd_ia (by decide +kernel) rfl) ?_
  refine pm_cn (sd_civ M_X5_isAsSeen (by decide) cd_X5_isAsSeen rc_X5_isAsSeen cl5_ ml_X5_222 im_X5_isAsSeen se_X5_isAsSeen nt_X5 (by decide +kernel) (by omega) (by decide) (by decide +kernel) rfl) ?_
  refine pm_cn (sd_ifeq (off := 10) (by decide +kernel) (by decide) rfl) ?_
  refine pm_cn (sd_iconst (z := 1) (by decide +kernel) (by decide +kernel) rfl) ?_
  refine pm_cn (sd_il (by decide +kernel) rfl) ?_
  refine pm_cn (sd_ishl (by decide +kernel) rfl) ?_
  refine pm_cn (sd_go (off := 4) (by decide +kernel) (by decide)) ?_
  refine pm_cn (sd_iconst (z := 0) (by decide +kernel) (by decide +kernel) rfl) ?_
  refine pm_cn (sd_ior (by decide +kernel) rfl) ?_
  refine pm_cn (sd_isn (k := 3) (by decide +kernel) rfl rfl (by decide)) ?_
  refine pm_cn (sd_inc (z := 1) (by decide +kernel) (by decide +kernel) rfl (by decide)) ?_
  refine pm_cn (sd_go (off := -49) (by decide +kernel) (by decide)) ?_
  refine pm_cn (sd_aln (k := 0) (by decide +kernel) rfl rfl) ?_
  refine pm_cn (sd_gr cl5_ in5_ (j := 0) (by decide) (fun _ => rfl) fl_X5_7 (by decide +kernel) rfl) ?_
  refine pm_cn (sd_bipush (z := 8) (by decide +kernel) (by decide +kernel) rfl) ?_
  refine pm_cn (sd_iln (k := 1) (by decide +kernel) rfl rfl) ?_
  refine pm_cn (sd_iadd (by decide +kernel) rfl) ?_
  refine pm_cn (sd_iln (k := 2) (by decide +kernel) rfl rfl) ?_
  refine pm_cn (sd_ias (by decide +kernel) rfl) ?_
  refine pm_cn (sd_iln (k := 3) (by decide +kernel) rfl rfl) ?_
  refine pm_cn (sd_ir (by decide +kernel)) ?_
  exact fun _ h => absurd h List.not_mem_nil
set_option maxHeartbeats 800000 in
set_option maxRecDepth 100000 in
theorem pf_X5_kindsOf : pm_pf T_X5_kindsOf P_X5_kindsOf (pm_pi Q_X5_kindsOf) := by
  rintro ⟨b, N, m, S, h0⟩ av h K hK ⟨rfl, rfl, ⟨hP, wN, hF⟩, hd, hS, hSo, hb⟩ hret
  have hB := wN.2.2.2.2.2.2.2.1 b hb
  show K (some 0) ([(0, vR 5 0 0), (1, vI (nI b))], [], h)
  have loop : ∀ n q a x H, q + n = 4 → a = sp_or (fun k => sp_c (sp_fits (lu N 3 b k) m S) (2 ^ k)) q → mf (pg_put h 0 (lu N 3 b x)) H → (∀ q', q' < q → kr H q' (N 0 0) (lu N 3 b q') (N 4 b) 124) → K (some 15) ([(0, vR 5 0 0), (1, vI (nI b)), (2, vI (nI (N 3 b))), (3, vI (nI a)), (4, vI (nI q))], [], H) := by
    intro n
    induction n with
    | zero =>
      intro q a x H hq ha hH hk
      have hm2 : mf h (pm_up H 5 0 1 (8 + b) (nI (N 3 b))) := by
        have := mf_up (c := 5) (i := 0) (s := 1) (j := 8 + b) (v := nI (N 3 b)) hH
        rw [zu3 hb, lu_lu, lu_self, pg_self hP] at this
        exact this
      have hq4 : q = 4 := by omega
      subst hq4
      refine hK [(15, [0, 1, 2, 3, 4])] 40 _ _ ?_
      conv => whnf
      repeat' (first
        | (refine ⟨fun c9 => ?_, fun c9 => ?_⟩ <;> (try simp (disch := omega) only [nI_leI, nI_ltI, nI_eq, nz_eq, nz_lt, nz_gt, nz_le, nz_ge, nz_00, nz_n1, nI_add, pk_mul, pk_sub, nI_shl1, nI_or, nI_half2, nI_min2, la_put_eq, la_up, lr_same, lr_ne, lu_same, lu_ne, not_true_eq_false, not_false_eq_true] at c9) <;> first | (exfalso; omega) | conv => whnf)
        | (refine ⟨_, rfl, by omega, ?_⟩; conv => whnf)
        | (refine ⟨_, rfl, rfl, rfl, by decide, by decide, ?_⟩; conv => whnf)
        | (refine ⟨_, by (simp (disch := omega) only [nI_leI, nI_ltI, nI_eq, nz_eq, nz_lt, nz_gt, nz_le, nz_ge, nz_00, nz_n1, nI_add, pk_mul, pk_sub, nI_shl1, nI_or, nI_half2, nI_min2, la_put_eq, la_up, lr_same, lr_ne, lu_same, lu_ne, not_true_eq_false, not_false_eq_true]; rfl), by omega, ?_⟩; conv => whnf)
        | (apply And.intro; (first | assumption | decide | (simp (disch := omega) only [nI_leI, nI_ltI, nI_eq, nz_eq, nz_lt, nz_gt, nz_le, nz_ge, nz_00, nz_n1, nI_add, pk_mul, pk_sub, nI_shl1, nI_or, nI_half2, nI_min2, la_put_eq, la_up, lr_same, lr_ne, lu_same, lu_ne, not_true_eq_false, not_false_eq_true]; omega)); conv => whnf))
      all_goals (try simp (disch := omega) only [nI_leI, nI_ltI, nI_eq, nz_eq, nz_lt, nz_gt, nz_le, nz_ge, nz_00, nz_n1, nI_add, pk_mul, pk_sub, nI_shl1, nI_or, nI_half2, nI_min2, la_put_eq, la_up, lr_same, lr_ne, lu_same, lu_ne, not_true_eq_false, not_false_eq_true])
      refine hret _ _ ⟨hm2, by rw [ha]; rfl, fun q' hq' => ?_⟩
      intro j hj hj4
      rw [pm_up_ne (by omega)]
      exact hk q' hq' j hj hj4
    | succ n ih =>
      intro q a x H hq ha hH hk
      have hm1 : mf (pg_put h 0 (lu N 3 b q)) (pm_up H 5 0 1 (8 + b) (nI q)) := by
        have := mf_up (c := 5) (i := 0) (s := 1) (j := 8 + b) (v := nI q) hH
        rw [zu3 hb, lu_lu] at this
        exact this
      have hk1 : ∀ q', q' < q → kr (pm_up H 5 0 1 (8 + b) (nI q)) q' (N 0 0) (lu N 3 b q') (N 4 b) 124 := by
        intro q' hq' j hj hj4
        rw [pm_up_ne (by omega)]
        exact hk q' hq' j hj hj4
      have wV : la_ok (lu N 3 b q) := la_ok_lu wN (by unfold la_rel; omega) (by unfold la_bd; omega)
      have e10 : lu N 3 b q 0 10 = N 0 10 := lu_ne (by omega)
      have e00 : lu N 3 b q 0 0 = N 0 0 := lu_ne (by omega)
      have e4 : lu N 3 b q 4 b = N 4 b := lu_ne (by omega)
      have hP1 : pg_at (pm_up H 5 0 1 (8 + b) (nI q)) 0 (lu N 3 b q) := mf_P hm1 (pg_put_at _ _ _)
      have hF1 : pm_up H 5 0 1 (8 + b) (nI q) 5 0 0 1 = nI (lu N 3 b q 0 0) := by rw [e00]; exact mf_F hm1 (by rw [prO]; exact hF)
      have hS1 := ms_mf hm1 (ms_pg hS)
      have e41 := zr4 hP1 hb
      rw [e4] at e41
      refine hK [(15, [0, 1, 2, 3, 4])] 40 _ _ ?_
      conv => whnf
      repeat' (first
        | (refine ⟨fun c9 => ?_, fun c9 => ?_⟩ <;> (try simp (disch := omega) only [nI_leI, nI_ltI, nI_eq, nz_eq, nz_lt, nz_gt, nz_le, nz_ge, nz_00, nz_n1, nI_add, pk_mul, pk_sub, nI_shl1, nI_or, nI_half2, nI_min2, la_put_eq, la_up, lr_same, lr_ne, lu_same, lu_ne, not_true_eq_false, not_false_eq_true, e41] at c9) <;> first | (exfalso; omega) | conv => whnf)
        | (refine ⟨_, rfl, by omega, ?_⟩; conv => whnf)
        | (refine ⟨_, rfl, rfl, rfl, by decide, by decide, ?_⟩; conv => whnf)
        | (refine ⟨_, by (simp (disch := omega) only [nI_leI, nI_ltI, nI_eq, nz_eq, nz_lt, nz_gt, nz_le, nz_ge, nz_00, nz_n1, nI_add, pk_mul, pk_sub, nI_shl1, nI_or, nI_half2, nI_min2, la_put_eq, la_up, lr_same, lr_ne, lu_same, lu_ne, not_true_eq_false, not_false_eq_true, e41]; rfl), by omega, ?_⟩; conv => whnf)
        | (apply And.intro; (first | assumption | decide | (simp (disch := omega) only [nI_leI, nI_ltI, nI_eq, nz_eq, nz_lt, nz_gt, nz_le, nz_ge, nz_00, nz_n1, nI_add, pk_mul, pk_sub, nI_shl1, nI_or, nI_half2, nI_min2, la_put_eq, la_up, lr_same, lr_ne, lu_same, lu_ne, not_true_eq_false, not_false_eq_true, e41]; omega)); conv => whnf))
      all_goals (try simp (disch := omega) only [nI_leI, nI_ltI, nI_eq, nz_eq, nz_lt, nz_gt, nz_le, nz_ge, nz_00, nz_n1, nI_add, pk_mul, pk_sub, nI_shl1, nI_or, nI_half2, nI_min2, la_put_eq, la_up, lr_same, lr_ne, lu_same, lu_ne, not_true_eq_false, not_false_eq_true, e41])
      refine ⟨(q, N 4 b, lu N 3 b q, m, S, _), ⟨rfl, rfl, ⟨hP1, wV, hF1⟩, by omega, hS1, hSo, by omega, by omega⟩, fun v H2 hq9 => ?_⟩
      obtain ⟨⟨g1, g2, g3⟩, g4⟩ := hq9
      rw [e00] at g2
      have hk2 : ∀ q', q' < q + 1 → kr H2 q' (N 0 0) (lu N 3 b q') (N 4 b) 124 := by
        intro q' hq'
        by_cases hqq : q' = q
        · subst hqq; exact g2
        · intro j hj hj4
          rw [g3 _ (by omega)]
          exact hk1 q' (by omega) j hj hj4
      rcases g4 with ⟨hf, rfl⟩ | ⟨hf, rfl⟩
      · conv => whnf
        repeat' (first
          | (refine ⟨fun c9 => ?_, fun c9 => ?_⟩ <;> (try simp (disch := omega) only [nI_leI, nI_ltI, nI_eq, nz_eq, nz_lt, nz_gt, nz_le, nz_ge, nz_00, nz_n1, nI_add, pk_mul, pk_sub, nI_shl1, nI_or, nI_half2, nI_min2, la_put_eq, la_up, lr_same, lr_ne, lu_same, lu_ne, not_true_eq_false, not_false_eq_true] at c9) <;> first | (exfalso; omega) | conv => whnf)
          | (refine ⟨_, rfl, by omega, ?_⟩; conv => whnf)
          | (refine ⟨_, rfl, rfl, rfl, by decide, by decide, ?_⟩; conv => whnf)
          | (refine ⟨_, by (simp (disch := omega) only [nI_leI, nI_ltI, nI_eq, nz_eq, nz_lt, nz_gt, nz_le, nz_ge, nz_00, nz_n1, nI_add, pk_mul, pk_sub, nI_shl1, nI_or, nI_half2, nI_min2, la_put_eq, la_up, lr_same, lr_ne, lu_same, lu_ne, not_true_eq_false, not_false_eq_true]; rfl), by omega, ?_⟩; conv => whnf)
          | (apply And.intro; (first | assumption | decide | (simp (disch := omega) only [nI_leI, nI_ltI, nI_eq, nz_eq, nz_lt, nz_gt, nz_le, nz_ge, nz_00, nz_n1, nI_add, pk_mul, pk_sub, nI_shl1, nI_or, nI_half2, nI_min2, la_put_eq, la_up, lr_same, lr_ne, lu_same, lu_ne, not_true_eq_false, not_false_eq_true]; omega)); conv => whnf))
        all_goals (try simp (disch := omega) only [nI_leI, nI_ltI, nI_eq, nz_eq, nz_lt, nz_gt, nz_le, nz_ge, nz_00, nz_n1, nI_add, pk_mul, pk_sub, nI_shl1, nI_or, nI_half2, nI_min2, la_put_eq, la_up, lr_same, lr_ne, lu_same, lu_ne, not_true_eq_false, not_false_eq_true])
        refine ih (q + 1) _ q _ (by omega) ?_ (mf_trans hm1 g1) hk2
        rw [sp_or, ← ha, sp_c_t hf]
      · conv => whnf
        repeat' (first
          | (refine ⟨fun c9 => ?_, fun c9 => ?_⟩ <;> (try simp (disch := omega) only [nI_leI, nI_ltI, nI_eq, nz_eq, nz_lt, nz_gt, nz_le, nz_ge, nz_00, nz_n1, nI_add, pk_mul, pk_sub, nI_shl1, nI_or, nI_half2, nI_min2, la_put_eq, la_up, lr_same, lr_ne, lu_same, lu_ne, not_true_eq_false, not_false_eq_true] at c9) <;> first | (exfalso; omega) | conv => whnf)
          | (refine ⟨_, rfl, by omega, ?_⟩; conv => whnf)
          | (refine ⟨_, rfl, rfl, rfl, by decide, by decide, ?_⟩; conv => whnf)
          | (refine ⟨_, by (simp (disch := omega) only [nI_leI, nI_ltI, nI_eq, nz_eq, nz_lt, nz_gt, nz_le, nz_ge, nz_00, nz_n1, nI_add, pk_mul, pk_sub, nI_shl1, nI_or, nI_half2, nI_min2, la_put_eq, la_up, lr_same, lr_ne, lu_same, lu_ne, not_true_eq_false, not_false_eq_true]; rfl), by omega, ?_⟩; conv => whnf)
          | (apply And.intro; (first | assumption | decide | (simp (disch := omega) only [nI_leI, nI_ltI, nI_eq, nz_eq, nz_lt, nz_gt, nz_le, nz_ge, nz_00, nz_n1, nI_add, pk_mul, pk_sub, nI_shl1, nI_or, nI_half2, nI_min2, la_put_eq, la_up, lr_same, lr_ne, lu_same, lu_ne, not_true_eq_false, not_false_eq_true]; omega)); conv => whnf))
        all_goals (try simp (disch := omega) only [nI_leI, nI_ltI, nI_eq, nz_eq, nz_lt, nz_gt, nz_le, nz_ge, nz_00, nz_n1, nI_add, pk_mul, pk_sub, nI_shl1, nI_or, nI_half2, nI_min2, la_put_eq, la_up, lr_same, lr_ne, lu_same, lu_ne, not_true_eq_false, not_false_eq_true])
        refine ih (q + 1) _ q _ (by omega) ?_ (mf_trans hm1 g1) hk2
        rw [sp_or, ← ha, sp_c_f hf]
  refine hK [(15, [0, 1, 2, 3, 4])] 40 _ _ ?_
  conv => whnf
  repeat' (first
    | (refine ⟨fun c9 => ?_, fun c9 => ?_⟩ <;> (try simp (disch := omega) only [nI_leI, nI_ltI, nI_eq, nz_eq, nz_lt, nz_gt, nz_le, nz_ge, nz_00, nz_n1, nI_add, pk_mul, pk_sub, nI_shl1, nI_or, nI_half2, nI_min2, la_put_eq, la_up, lr_same, lr_ne, lu_same, lu_ne, not_true_eq_false, not_false_eq_true, zr2 hP, zr3 hP, zr4 hP, zr5 hP, zr6 hP, zr7 hP, zr8 hP, zrN hP, zrD hP, zrB hP, zrY hP, zrQ hP, zr1 hP, subadd] at c9) <;> first | (exfalso; omega) | conv => whnf)
    | (refine ⟨_, rfl, by omega, ?_⟩; conv => whnf)
    | (refine ⟨_, rfl, rfl, rfl, by decide, by decide, ?_⟩; conv => whnf)
    | (refine ⟨_, by (simp (disch := omega) only [nI_leI, nI_ltI, nI_eq, nz_eq, nz_lt, nz_gt, nz_le, nz_ge, nz_00, nz_n1, nI_add, pk_mul, pk_sub, nI_shl1, nI_or, nI_half2, nI_min2, la_put_eq, la_up, lr_same, lr_ne, lu_same, lu_ne, not_true_eq_false, not_false_eq_true, zr2 hP, zr3 hP, zr4 hP, zr5 hP, zr6 hP, zr7 hP, zr8 hP, zrN hP, zrD hP, zrB hP, zrY hP, zrQ hP, zr1 hP, subadd]; rfl), by omega, ?_⟩; conv => whnf)
    | (apply And.intro; (first | assumption | decide | (simp (disch := omega) only [nI_leI, nI_ltI, nI_eq, nz_eq, nz_lt, nz_gt, nz_le, nz_ge, nz_00, nz_n1, nI_add, pk_mul, pk_sub, nI_shl1, nI_or, nI_half2, nI_min2, la_put_eq, la_up, lr_same, lr_ne, lu_same, lu_ne, not_true_eq_false, not_false_eq_true, zr2 hP, zr3 hP, zr4 hP, zr5 hP, zr6 hP, zr7 hP, zr8 hP, zrN hP, zrD hP, zrB hP, zrY hP, zrQ hP, zr1 hP, subadd]; omega)); conv => whnf))
  all_goals (try simp (disch := omega) only [nI_leI, nI_ltI, nI_eq, nz_eq, nz_lt, nz_gt, nz_le, nz_ge, nz_00, nz_n1, nI_add, pk_mul, pk_sub, nI_shl1, nI_or, nI_half2, nI_min2, la_put_eq, la_up, lr_same, lr_ne, lu_same, lu_ne, not_true_eq_false, not_false_eq_true, zr2 hP, zr3 hP, zr4 hP, zr5 hP, zr6 hP, zr7 hP, zr8 hP, zrN hP, zrD hP, zrB hP, zrY hP, zrQ hP, zr1 hP, subadd])
  refine loop 4 0 0 (N 3 b) h (by omega) rfl ?_ (fun q' hq' => absurd hq' (by omega))
  rw [lu_self, pg_self hP]
  exact mf_self _
theorem M_X5_kindsOf : pm_MT yX5_kindsOf cX5_kindsOf 5 1 7 P_X5_kindsOf (pm_pi Q_X5_kindsOf) := pm_met k_X5_kindsOf (by decide) rfl (by
  rintro ⟨g0, g1, g2, g3, g4⟩ av h hp
  rw [hp.1]
  exact Nat.le_of_ble_eq_true rfl) pf_X5_kindsOf
theorem rc_X5_kindsOf : ∀ g av h, P_X5_kindsOf g av h → ∃ i t, av = .inr (.inr (5, i, 0)) :: t := by
  rintro ⟨g0, g1, g2, g3, g4⟩ av h hp
  exact ⟨_, _, hp.1⟩
def P_X5_kinds : Int32 × LD × Nat × LD × pm_H → List pm_V → pm_H → Prop := fun g av h => match g with
  | (b, Y, m, S, h0) => av = [vR 5 0 0, vI b] ∧ h = h0 ∧ md h0 Y ∧ Y 0 10 ≤ 999 ∧ ms_at h0 m S ∧ se_ok m S
def Q_X5_kinds : Int32 × LD × Nat × LD × pm_H → Int32 → pm_H → Prop := fun g r h => match g with
  | (b, N, m, S, h0) => mf h0 h ∧ r = a_kinds N m S b
def T_X5_kinds : List (Nat × pm_T) := [
  (0, i_al 0 1),
  (1, i_il 1 2),
  (2, i_ci 2 P_X5_isBiscuit Q_X5_isBiscuit 5),
  (5, i_ifeq 16 8),
  (8, i_al 0 9),
  (9, i_il 1 10),
  (10, i_ci 2 P_X5_kindsOf Q_X5_kindsOf 13),
  (13, i_go 17),
  (16, i_c (-1) 17),
  (17, i_ir)]
theorem k_X5_kinds : ∀ q ∈ T_X5_kinds, pm_sd RX5 cX5_kinds 2 8 1 q.1 q.2 := by
  unfold T_X5_kinds
  refine pm_cn (sd_aln (k := 0) (by decide +kernel) rfl rfl) ?_
  refine pm_cn (sd_iln (k := 1) (by decide +kernel) rfl rfl) ?_
  refine pm_cn (sd_civ M_X5_isBiscuit (by decide) cd_X5_isBiscuit rc_X5_isBiscuit cl5_ ml_X5_159 im_X5_isBiscuit se_X5_isBiscuit nt_X5 (by decide +kernel) (by omega) (by decide) (by decide +kernel) rfl) ?_
  refine pm_cn (sd_ifeq (off := 11) (by decide +kernel) (by decide) rfl) ?_
  refine pm_cn (sd_aln (k := 0) (by decide +kernel) rfl rfl) ?_
  refine pm_cn (sd_iln (k := 1) (by decide +kernel) rfl rfl) ?_
  refine pm_cn (sd_civ M_X5_kindsOf (by decide) cd_X5_kindsOf rc_X5_kindsOf cl5_ ml_X5_225 im_X5_kindsOf se_X5_kindsOf nt_X5 (by decide +kernel) (by omega) (by decide) (by decide +kernel) rfl) ?_
  refine pm_cn (sd_go (off := 4) (by decide +kernel) (by decide)) ?_
  refine pm_cn (sd_iconst (z := -1) (by decide +kernel) (by decide +kernel) rfl) ?_
  refine pm_cn (sd_ir (by decide +kernel)) ?_
  exact fun _ h => absurd h List.not_mem_nil
set_option maxHeartbeats 800000 in
set_option maxRecDepth 100000 in
theorem pf_X5_kinds : pm_pf T_X5_kinds P_X5_kinds (pm_pi Q_X5_kinds) := by
  rintro ⟨b, N, m, S, h0⟩ av h K hK ⟨rfl, rfl, hmd, hd, hS, hSo⟩ hret
  obtain ⟨hP, wN, hF⟩ := id hmd
  have w2 := wN.2.1
  show K (some 0) ([(0, vR 5 0 0), (1, vI b)], [], h)
  refine hK [] 60 _ _ ?_
  conv => whnf
  repeat' (first
    | (refine ⟨fun c9 => ?_, fun c9 => ?_⟩ <;> (try simp (disch := omega) only [nI_leI, nI_ltI, nI_eq, nz_eq, nz_lt, nz_gt, nz_le, nz_ge, nz_00, nz_n1, nI_add, pk_mul, pk_sub, nI_shl1, nI_or, nI_half2, nI_min2, la_put_eq, la_up, lr_same, lr_ne, lu_same, lu_ne, not_true_eq_false, not_false_eq_true] at c9) <;> first | (exfalso; omega) | conv => whnf)
    | (refine ⟨_, rfl, by omega, ?_⟩; conv => whnf)
    | (refine ⟨_, rfl, rfl, rfl, by decide, by decide, ?_⟩; conv => whnf)
    | (refine ⟨_, by (simp (disch := omega) only [nI_leI, nI_ltI, nI_eq, nz_eq, nz_lt, nz_gt, nz_le, nz_ge, nz_00, nz_n1, nI_add, pk_mul, pk_sub, nI_shl1, nI_or, nI_half2, nI_min2, la_put_eq, la_up, lr_same, lr_ne, lu_same, lu_ne, not_true_eq_false, not_false_eq_true]; rfl), by omega, ?_⟩; conv => whnf)
    | (apply And.intro; (first | assumption | decide | (simp (disch := omega) only [nI_leI, nI_ltI, nI_eq, nz_eq, nz_lt, nz_gt, nz_le, nz_ge, nz_00, nz_n1, nI_add, pk_mul, pk_sub, nI_shl1, nI_or, nI_half2, nI_min2, la_put_eq, la_up, lr_same, lr_ne, lu_same, lu_ne, not_true_eq_false, not_false_eq_true]; omega)); conv => whnf))
  all_goals (try simp (disch := omega) only [nI_leI, nI_ltI, nI_eq, nz_eq, nz_lt, nz_gt, nz_le, nz_ge, nz_00, nz_n1, nI_add, pk_mul, pk_sub, nI_shl1, nI_or, nI_half2, nI_min2, la_put_eq, la_up, lr_same, lr_ne, lu_same, lu_ne, not_true_eq_false, not_false_eq_true])
  refine ⟨(b, N 0 3, _), ⟨rfl, rfl, zrN hP, w2⟩, fun v h' hq => ?_⟩
  obtain ⟨rfl, ⟨hb, rfl⟩ | ⟨hc, rfl⟩⟩ := hq
  · obtain ⟨k, hk, rfl⟩ := id hb
    conv => whnf
    repeat' (first
      | (refine ⟨fun c9 => ?_, fun c9 => ?_⟩ <;> (try simp (disch := omega) only [nI_leI, nI_ltI, nI_eq, nz_eq, nz_lt, nz_gt, nz_le, nz_ge, nz_00, nz_n1, nI_add, pk_mul, pk_sub, nI_shl1, nI_or, nI_half2, nI_min2, la_put_eq, la_up, lr_same, lr_ne, lu_same, lu_ne, not_true_eq_false, not_false_eq_true] at c9) <;> first | (exfalso; omega) | conv => whnf)
      | (refine ⟨_, rfl, by omega, ?_⟩; conv => whnf)
      | (refine ⟨_, rfl, rfl, rfl, by decide, by decide, ?_⟩; conv => whnf)
      | (refine ⟨_, by (simp (disch := omega) only [nI_leI, nI_ltI, nI_eq, nz_eq, nz_lt, nz_gt, nz_le, nz_ge, nz_00, nz_n1, nI_add, pk_mul, pk_sub, nI_shl1, nI_or, nI_half2, nI_min2, la_put_eq, la_up, lr_same, lr_ne, lu_same, lu_ne, not_true_eq_false, not_false_eq_true]; rfl), by omega, ?_⟩; conv => whnf)
      | (apply And.intro; (first | assumption | decide | (simp (disch := omega) only [nI_leI, nI_ltI, nI_eq, nz_eq, nz_lt, nz_gt, nz_le, nz_ge, nz_00, nz_n1, nI_add, pk_mul, pk_sub, nI_shl1, nI_or, nI_half2, nI_min2, la_put_eq, la_up, lr_same, lr_ne, lu_same, lu_ne, not_true_eq_false, not_false_eq_true]; omega)); conv => whnf))
    all_goals (try simp (disch := omega) only [nI_leI, nI_ltI, nI_eq, nz_eq, nz_lt, nz_gt, nz_le, nz_ge, nz_00, nz_n1, nI_add, pk_mul, pk_sub, nI_shl1, nI_or, nI_half2, nI_min2, la_put_eq, la_up, lr_same, lr_ne, lu_same, lu_ne, not_true_eq_false, not_false_eq_true])
    refine ⟨(k, N, m, S, _), ⟨rfl, rfl, hmd, hd, hS, hSo, by omega⟩, fun v h' hq => ?_⟩
    obtain ⟨ht, rfl, _⟩ := hq
    conv => whnf
    repeat' (first
      | (refine ⟨fun c9 => ?_, fun c9 => ?_⟩ <;> (try simp (disch := omega) only [nI_leI, nI_ltI, nI_eq, nz_eq, nz_lt, nz_gt, nz_le, nz_ge, nz_00, nz_n1, nI_add, pk_mul, pk_sub, nI_shl1, nI_or, nI_half2, nI_min2, la_put_eq, la_up, lr_same, lr_ne, lu_same, lu_ne, not_true_eq_false, not_false_eq_true] at c9) <;> first | (exfalso; omega) | conv => whnf)
      | (refine ⟨_, rfl, by omega, ?_⟩; conv => whnf)
      | (refine ⟨_, rfl, rfl, rfl, by decide, by decide, ?_⟩; conv => whnf)
      | (refine ⟨_, by (simp (disch := omega) only [nI_leI, nI_ltI, nI_eq, nz_eq, nz_lt, nz_gt, nz_le, nz_ge, nz_00, nz_n1, nI_add, pk_mul, pk_sub, nI_shl1, nI_or, nI_half2, nI_min2, la_put_eq, la_up, lr_same, lr_ne, lu_same, lu_ne, not_true_eq_false, not_false_eq_true]; rfl), by omega, ?_⟩; conv => whnf)
      | (apply And.intro; (first | assumption | decide | (simp (disch := omega) only [nI_leI, nI_ltI, nI_eq, nz_eq, nz_lt, nz_gt, nz_le, nz_ge, nz_00, nz_n1, nI_add, pk_mul, pk_sub, nI_shl1, nI_or, nI_half2, nI_min2, la_put_eq, la_up, lr_same, lr_ne, lu_same, lu_ne, not_true_eq_false, not_false_eq_true]; omega)); conv => whnf))
    all_goals (try simp (disch := omega) only [nI_leI, nI_ltI, nI_eq, nz_eq, nz_lt, nz_gt, nz_le, nz_ge, nz_00, nz_n1, nI_add, pk_mul, pk_sub, nI_shl1, nI_or, nI_half2, nI_min2, la_put_eq, la_up, lr_same, lr_ne, lu_same, lu_ne, not_true_eq_false, not_false_eq_true])
    refine hret _ _ ⟨ht, ?_⟩
    rw [a_kinds, ci_t hb, ixv_nI (by omega)]
  · conv => whnf
    repeat' (first
      | (refine ⟨fun c9 => ?_, fun c9 => ?_⟩ <;> (try simp (disch := omega) only [nI_leI, nI_ltI, nI_eq, nz_eq, nz_lt, nz_gt, nz_le, nz_ge, nz_00, nz_n1, nI_add, pk_mul, pk_sub, nI_shl1, nI_or, nI_half2, nI_min2, la_put_eq, la_up, lr_same, lr_ne, lu_same, lu_ne, not_true_eq_false, not_false_eq_true] at c9) <;> first | (exfalso; omega) | conv => whnf)
      | (refine ⟨_, rfl, by omega, ?_⟩; conv => whnf)
      | (refine ⟨_, rfl, rfl, rfl, by decide, by decide, ?_⟩; conv => whnf)
      | (refine ⟨_, by (simp (disch := omega) only [nI_leI, nI_ltI, nI_eq, nz_eq, nz_lt, nz_gt, nz_le, nz_ge, nz_00, nz_n1, nI_add, pk_mul, pk_sub, nI_shl1, nI_or, nI_half2, nI_min2, la_put_eq, la_up, lr_same, lr_ne, lu_same, lu_ne, not_true_eq_false, not_false_eq_true]; rfl), by omega, ?_⟩; conv => whnf)
      | (apply And.intro; (first | assumption | decide | (simp (disch := omega) only [nI_leI, nI_ltI, nI_eq, nz_eq, nz_lt, nz_gt, nz_le, nz_ge, nz_00, nz_n1, nI_add, pk_mul, pk_sub, nI_shl1, nI_or, nI_half2, nI_min2, la_put_eq, la_up, lr_same, lr_ne, lu_same, lu_ne, not_true_eq_false, not_false_eq_true]; omega)); conv => whnf))
    all_goals (try simp (disch := omega) only [nI_leI, nI_ltI, nI_eq, nz_eq, nz_lt, nz_gt, nz_le, nz_ge, nz_00, nz_n1, nI_add, pk_mul, pk_sub, nI_shl1, nI_or, nI_half2, nI_min2, la_put_eq, la_up, lr_same, lr_ne, lu_same, lu_ne, not_true_eq_false, not_false_eq_true])
    refine hret _ _ ⟨mf_self _, ?_⟩
    rw [a_kinds, ci_f hc]
theorem M_X5_kinds : pm_MT yX5_kinds cX5_kinds 2 1 8 P_X5_kinds (pm_pi Q_X5_kinds) := pm_met k_X5_kinds (by decide) rfl (by
  rintro ⟨g0, g1, g2, g3, g4⟩ av h hp
  rw [hp.1]
  exact Nat.le_of_ble_eq_true rfl) pf_X5_kinds
theorem rc_X5_kinds : ∀ g av h, P_X5_kinds g av h → ∃ i t, av = .inr (.inr (5, i, 0)) :: t := by
  rintro ⟨g0, g1, g2, g3, g4⟩ av h hp
  exact ⟨_, _, hp.1⟩
def P_X5_subjects : Int32 × LD × Nat × LD × pm_H → List pm_V → pm_H → Prop := fun g av h => match g with
  | (b, Y, m, S, h0) => av = [vR 5 0 0, vI b] ∧ h = h0 ∧ md h0 Y ∧ Y 0 10 ≤ 999 ∧ ms_at h0 m S ∧ se_ok m S
def Q_X5_subjects : Int32 × LD × Nat × LD × pm_H → Int32 → pm_H → Prop := fun g r h => match g with
  | (b, N, m, S, h0) => mf h0 h ∧ r = a_subjects N m S b
def T_X5_subjects : List (Nat × pm_T) := [
  (0, i_al 0 1),
  (1, i_il 1 2),
  (2, i_ci 2 P_X5_isBiscuit Q_X5_isBiscuit 5),
  (5, i_ifne 10 8),
  (8, i_c (-1) 9),
  (9, i_ir),
  (10, i_al 0 11),
  (11, i_gr 5 (fun i => (5, i, 1)) 14),
  (14, i_c (nI 14) 16),
  (16, i_il 1 17),
  (17, i_iadd 18),
  (18, i_ia 19),
  (19, i_is 2 20),
  (20, i_c (nI 0) 21),
  (21, i_is 3 22),
  (22, i_c (nI 0) 23),
  (23, i_is 4 25),
  (25, i_il 4 27),
  (27, i_c (nI 10) 29),
  (29, i_icge 70 32),
  (32, i_al 0 33),
  (33, i_gr 5 (fun i => (5, i, 1)) 36),
  (36, i_c (nI 14) 38),
  (38, i_il 1 39),
  (39, i_iadd 40),
  (40, i_il 4 42),
  (42, i_ias 43),
  (43, i_il 3 44),
  (44, i_al 0 45),
  (45, i_c (nI 0) 46),
  (46, i_il 4 48),
  (48, i_ci 3 P_X5_isAsSeen Q_X5_isAsSeen 51),
  (51, i_ifeq 61 54),
  (54, i_c (nI 1) 55),
  (55, i_il 4 57),
  (57, i_ishl 58),
  (58, i_go 62),
  (61, i_c (nI 0) 62),
  (62, i_ior 63),
  (63, i_is 3 64),
  (64, i_inc 4 (nI 1) 67),
  (67, i_go 25),
  (70, i_al 0 71),
  (71, i_gr 5 (fun i => (5, i, 1)) 74),
  (74, i_c (nI 14) 76),
  (76, i_il 1 77),
  (77, i_iadd 78),
  (78, i_il 2 79),
  (79, i_ias 80),
  (80, i_il 3 81),
  (81, i_ir)]
theorem k_X5_subjects : ∀ q ∈ T_X5_subjects, pm_sd RX5 cX5_subjects 5 7 1 q.1 q.2 := by
  unfold T_X5_subjects
  refine pm_cn (sd_aln (k := 0) (by decide +kernel) rfl rfl) ?_
  refine pm_cn (sd_iln (k := 1) (by decide +kernel) rfl rfl) ?_
  refine pm_cn (sd_civ M_X5_isBiscuit (by decide) cd_X5_isBiscuit rc_X5_isBiscuit cl5_ ml_X5_159 im_X5_isBiscuit se_X5_isBiscuit nt_X5 (by decide +kernel) (by omega) (by decide) (by decide +kernel) rfl) ?_
  refine pm_cn (sd_ifne (off := 5) (by decide +kernel) (by decide) rfl) ?_
  refine pm_cn (sd_iconst (z := -1) (by decide +kernel) (by decide +kernel) rfl) ?_
  refine pm_cn (sd_ir (by decide +kernel)) ?_
  refine pm_cn (sd_aln (k := 0) (by decide +kernel) rfl rfl) ?_
  refine pm_cn (sd_gr cl5_ in5_ (j := 0) (by decide) (fun _ => rfl) fl_X5_7 (by decide +kernel) rfl) ?_
  refine pm_cn (sd_bipush (z := 14) (by decide +kernel) (by decide +kernel) rfl) ?_
  refine pm_cn (sd_iln (k := 1) (by decide +kernel) rfl rfl) ?_
  refine pm_cn (sd_iadd (by decide +kernel) rfl) ?_
  refine pm_cn (sd_ia (by decide +kernel) rfl) ?_
  refine pm_cn (sd_isn (k := 2) (by decide +kernel) rfl rfl (by decide)) ?_
  refine pm_cn (sd_iconst (z := 0) (by decide +kernel) (by decide +kernel) rfl) ?_
  refine pm_cn (sd_isn (k := 3) (by decide +kernel) rfl rfl (by decide)) ?_
  refine pm_cn (sd_iconst (z := 0) (by decide +kernel) (by decide +kernel) rfl) ?_
  refine pm_cn (sd_is (by decide +kernel) rfl (by decide)) ?_
  refine pm_cn (sd_il (by decide +kernel) rfl) ?_
  refine pm_cn (sd_bipush (z := 10) (by decide +kernel) (by decide +kernel) rfl) ?_
  refine pm_cn (sd_icge (off := 41) (by decide +kernel) (by decide) rfl) ?_
  refine pm_cn (sd_aln (k := 0) (by decide +kernel) rfl rfl) ?_
  refine pm_cn (sd_gr cl5_ in5_ (j := 0) (by decide) (fun _ => rfl) fl_X5_7 (by decide +kernel) rfl) ?_
  refine pm_cn (sd_bipush (z := 14) (by decide +kernel) (by decide +kernel) rfl) ?_
  refine pm_cn (sd_iln (k := 1) (by decide +kernel) rfl rfl) ?_
  refine pm_cn (sd_iadd (by decide +kernel) rfl) ?_
  refine pm_cn (sd_il (by decide +kernel) rfl) ?_
  refine pm_cn (sd_ias (by decide +kernel) rfl) ?_
  refine pm_cn (sd_iln (k := 3) (by decide +kernel) rfl rfl) ?_
  refine pm_cn (sd_aln (k := 0) (by decide +kernel) rfl rfl) ?_
  refine pm_cn (sd_iconst (z := 0) (by decide +kernel) (by decide +kernel) rfl) ?_
  refine pm_cn (sd_il (by decide +kernel) rfl) ?_
  refine pm_cn (sd_civ M_X5_isAsSeen (by decide) cd_X5_isAsSeen rc_X5_isAsSeen cl5_ ml_X5_222 im_X5_isAsSeen se_X5_isAsSeen nt_X5 (by decide +kernel) (by omega) (by decide) (by decide +kernel) rfl) ?_
  refine pm_cn (sd_ifeq (off := 10) (by decide +kernel) (by decide) rfl) ?_
  refine pm_cn (sd_iconst (z := 1) (by decide +kernel) (by decide +kernel) rfl) ?_
  refine pm_cn (sd_il (by decide +kernel) rfl) ?_
  refine pm_cn (sd_ishl (by decide +kernel) rfl) ?_
  refine pm_cn (sd_go (off := 4) (by decide +kernel) (by decide)) ?_
  refine pm_cn (sd_iconst (z := 0) (by decide +kernel) (by decide +kernel) rfl) ?_
  refine pm_cn (sd_ior (by decide +kernel) rfl) ?_
  refine pm_cn (sd_isn (k := 3) (by decide +kernel) rfl rfl (by decide)) ?_
  refine pm_cn (sd_inc (z := 1) (by decide +kernel) (by decide +kernel) rfl (by decide)) ?_
  refine pm_cn (sd_go (off := -42) (by decide +kernel) (by decide)) ?_
  refine pm_cn (sd_aln (k := 0) (by decide +kernel) rfl rfl) ?_
  refine pm_cn (sd_gr cl5_ in5_ (j := 0) (by decide) (fun _ => rfl) fl_X5_7 (by decide +kernel) rfl) ?_
  refine pm_cn (sd_bipush (z := 14) (by decide +kernel) (by decide +kernel) rfl) ?_
  refine pm_cn (sd_iln (k := 1) (by decide +kernel) rfl rfl) ?_
  refine pm_cn (sd_iadd (by decide +kernel) rfl) ?_
  refine pm_cn (sd_iln (k := 2) (by decide +kernel) rfl rfl) ?_
  refine pm_cn (sd_ias (by decide +kernel) rfl) ?_
  refine pm_cn (sd_iln (k := 3) (by decide +kernel) rfl rfl) ?_
  refine pm_cn (sd_ir (by decide +kernel)) ?_
  exact fun _ h => absurd h List.not_mem_nil
set_option maxHeartbeats 800000 in
set_option maxRecDepth 100000 in
theorem pf_X5_subjects : pm_pf T_X5_subjects P_X5_subjects (pm_pi Q_X5_subjects) := by
  rintro ⟨b, N, m, S, h0⟩ av h K hK ⟨rfl, rfl, ⟨hP, wN, hF⟩, hd, hS, hSo⟩ hret
  have w2 := wN.2.1
  show K (some 0) ([(0, vR 5 0 0), (1, vI b)], [], h)
  refine hK [(25, [0, 1, 2, 3, 4])] 60 _ _ ?_
  conv => whnf
  repeat' (first
    | (refine ⟨fun c9 => ?_, fun c9 => ?_⟩ <;> (try simp (disch := omega) only [nI_leI, nI_ltI, nI_eq, nz_eq, nz_lt, nz_gt, nz_le, nz_ge, nz_00, nz_n1, nI_add, pk_mul, pk_sub, nI_shl1, nI_or, nI_half2, nI_min2, la_put_eq, la_up, lr_same, lr_ne, lu_same, lu_ne, not_true_eq_false, not_false_eq_true] at c9) <;> first | (exfalso; omega) | conv => whnf)
    | (refine ⟨_, rfl, by omega, ?_⟩; conv => whnf)
    | (refine ⟨_, rfl, rfl, rfl, by decide, by decide, ?_⟩; conv => whnf)
    | (refine ⟨_, by (simp (disch := omega) only [nI_leI, nI_ltI, nI_eq, nz_eq, nz_lt, nz_gt, nz_le, nz_ge, nz_00, nz_n1, nI_add, pk_mul, pk_sub, nI_shl1, nI_or, nI_half2, nI_min2, la_put_eq, la_up, lr_same, lr_ne, lu_same, lu_ne, not_true_eq_false, not_false_eq_true]; rfl), by omega, ?_⟩; conv => whnf)
    | (apply And.intro; (first | assumption | decide | (simp (disch := omega) only [nI_leI, nI_ltI, nI_eq, nz_eq, nz_lt, nz_gt, nz_le, nz_ge, nz_00, nz_n1, nI_add, pk_mul, pk_sub, nI_shl1, nI_or, nI_half2, nI_min2, la_put_eq, la_up, lr_same, lr_ne, lu_same, lu_ne, not_true_eq_false, not_false_eq_true]; omega)); conv => whnf))
  all_goals (try simp (disch := omega) only [nI_leI, nI_ltI, nI_eq, nz_eq, nz_lt, nz_gt, nz_le, nz_ge, nz_00, nz_n1, nI_add, pk_mul, pk_sub, nI_shl1, nI_or, nI_half2, nI_min2, la_put_eq, la_up, lr_same, lr_ne, lu_same, lu_ne, not_true_eq_false, not_false_eq_true])
  refine ⟨(b, N 0 3, _), ⟨rfl, rfl, zrN hP, w2⟩, fun v h' hq => ?_⟩
  obtain ⟨rfl, ⟨hb, rfl⟩ | ⟨hc, rfl⟩⟩ := hq
  · obtain ⟨b, hb6, rfl⟩ := id hb
    have hB := wN.2.2.2.2.2.2.2.1 b (by omega)
    have loop : ∀ n q a x H, q + n = 10 → a = sp_or (fun k => sp_c (sp_fits (lu N 4 b k) m S) (2 ^ k)) q → mf (pg_put h' 0 (lu N 4 b x)) H → K (some 25) ([(0, vR 5 0 0), (1, vI (nI b)), (2, vI (nI (N 4 b))), (3, vI (nI a)), (4, vI (nI q))], [], H) := by
      intro n
      induction n with
      | zero =>
        intro q a x H hq ha hH
        have hm2 : mf h' (pm_up H 5 0 1 (14 + b) (nI (N 4 b))) := by
          have := mf_up (c := 5) (i := 0) (s := 1) (j := 14 + b) (v := nI (N 4 b)) hH
          rw [zu4 (by omega), lu_lu, lu_self, pg_self hP] at this
          exact this
        have hq4 : q = 10 := by omega
        subst hq4
        refine hK [(25, [0, 1, 2, 3, 4])] 40 _ _ ?_
        conv => whnf
        repeat' (first
          | (refine ⟨fun c9 => ?_, fun c9 => ?_⟩ <;> (try simp (disch := omega) only [nI_leI, nI_ltI, nI_eq, nz_eq, nz_lt, nz_gt, nz_le, nz_ge, nz_00, nz_n1, nI_add, pk_mul, pk_sub, nI_shl1, nI_or, nI_half2, nI_min2, la_put_eq, la_up, lr_same, lr_ne, lu_same, lu_ne, not_true_eq_false, not_false_eq_true] at c9) <;> first | (exfalso; omega) | conv => whnf)
          | (refine ⟨_, rfl, by omega, ?_⟩; conv => whnf)
          | (refine ⟨_, rfl, rfl, rfl, by decide, by decide, ?_⟩; conv => whnf)
          | (refine ⟨_, by (simp (disch := omega) only [nI_leI, nI_ltI, nI_eq, nz_eq, nz_lt, nz_gt, nz_le, nz_ge, nz_00, nz_n1, nI_add, pk_mul, pk_sub, nI_shl1, nI_or, nI_half2, nI_min2, la_put_eq, la_up, lr_same, lr_ne, lu_same, lu_ne, not_true_eq_false, not_false_eq_true]; rfl), by omega, ?_⟩; conv => whnf)
          | (apply And.intro; (first | assumption | decide | (simp (disch := omega) only [nI_leI, nI_ltI, nI_eq, nz_eq, nz_lt, nz_gt, nz_le, nz_ge, nz_00, nz_n1, nI_add, pk_mul, pk_sub, nI_shl1, nI_or, nI_half2, nI_min2, la_put_eq, la_up, lr_same, lr_ne, lu_same, lu_ne, not_true_eq_false, not_false_eq_true]; omega)); conv => whnf))
        all_goals (try simp (disch := omega) only [nI_leI, nI_ltI, nI_eq, nz_eq, nz_lt, nz_gt, nz_le, nz_ge, nz_00, nz_n1, nI_add, pk_mul, pk_sub, nI_shl1, nI_or, nI_half2, nI_min2, la_put_eq, la_up, lr_same, lr_ne, lu_same, lu_ne, not_true_eq_false, not_false_eq_true])
        refine hret _ _ ⟨hm2, ?_⟩
        rw [a_subjects, ci_t hb, ixv_nI (by omega), ha]
        rfl
      | succ n ih =>
        intro q a x H hq ha hH
        have hm1 : mf (pg_put h' 0 (lu N 4 b q)) (pm_up H 5 0 1 (14 + b) (nI q)) := by
          have := mf_up (c := 5) (i := 0) (s := 1) (j := 14 + b) (v := nI q) hH
          rw [zu4 (by omega), lu_lu] at this
          exact this
        have wV : la_ok (lu N 4 b q) := la_ok_lu wN (by unfold la_rel; omega) (by unfold la_bd; omega)
        have e10 : lu N 4 b q 0 10 = N 0 10 := lu_ne (by omega)
        have e00 : lu N 4 b q 0 0 = N 0 0 := lu_ne (by omega)
        have hP1 : pg_at (pm_up H 5 0 1 (14 + b) (nI q)) 0 (lu N 4 b q) := mf_P hm1 (pg_put_at _ _ _)
        have hF1 : pm_up H 5 0 1 (14 + b) (nI q) 5 0 0 1 = nI (lu N 4 b q 0 0) := by rw [e00]; exact mf_F hm1 (by rw [prO]; exact hF)
        have hS1 := ms_mf hm1 (ms_pg hS)
        refine hK [(25, [0, 1, 2, 3, 4])] 40 _ _ ?_
        conv => whnf
        repeat' (first
          | (refine ⟨fun c9 => ?_, fun c9 => ?_⟩ <;> (try simp (disch := omega) only [nI_leI, nI_ltI, nI_eq, nz_eq, nz_lt, nz_gt, nz_le, nz_ge, nz_00, nz_n1, nI_add, pk_mul, pk_sub, nI_shl1, nI_or, nI_half2, nI_min2, la_put_eq, la_up, lr_same, lr_ne, lu_same, lu_ne, not_true_eq_false, not_false_eq_true] at c9) <;> first | (exfalso; omega) | conv => whnf)
          | (refine ⟨_, rfl, by omega, ?_⟩; conv => whnf)
          | (refine ⟨_, rfl, rfl, rfl, by decide, by decide, ?_⟩; conv => whnf)
          | (refine ⟨_, by (simp (disch := omega) only [nI_leI, nI_ltI, nI_eq, nz_eq, nz_lt, nz_gt, nz_le, nz_ge, nz_00, nz_n1, nI_add, pk_mul, pk_sub, nI_shl1, nI_or, nI_half2, nI_min2, la_put_eq, la_up, lr_same, lr_ne, lu_same, lu_ne, not_true_eq_false, not_false_eq_true]; rfl), by omega, ?_⟩; conv => whnf)
          | (apply And.intro; (first | assumption | decide | (simp (disch := omega) only [nI_leI, nI_ltI, nI_eq, nz_eq, nz_lt, nz_gt, nz_le, nz_ge, nz_00, nz_n1, nI_add, pk_mul, pk_sub, nI_shl1, nI_or, nI_half2, nI_min2, la_put_eq, la_up, lr_same, lr_ne, lu_same, lu_ne, not_true_eq_false, not_false_eq_true]; omega)); conv => whnf))
        all_goals (try simp (disch := omega) only [nI_leI, nI_ltI, nI_eq, nz_eq, nz_lt, nz_gt, nz_le, nz_ge, nz_00, nz_n1, nI_add, pk_mul, pk_sub, nI_shl1, nI_or, nI_half2, nI_min2, la_put_eq, la_up, lr_same, lr_ne, lu_same, lu_ne, not_true_eq_false, not_false_eq_true])
        refine ⟨(0, q, lu N 4 b q, m, S, _), ⟨rfl, rfl, ⟨hP1, wV, hF1⟩, by omega, hS1, hSo, by omega, by omega⟩, fun v H2 hq9 => ?_⟩
        obtain ⟨⟨g1, g2, g3⟩, g4⟩ := hq9
        rcases g4 with ⟨hf, rfl⟩ | ⟨hf, rfl⟩
        · conv => whnf
          repeat' (first
            | (refine ⟨fun c9 => ?_, fun c9 => ?_⟩ <;> (try simp (disch := omega) only [nI_leI, nI_ltI, nI_eq, nz_eq, nz_lt, nz_gt, nz_le, nz_ge, nz_00, nz_n1, nI_add, pk_mul, pk_sub, nI_shl1, nI_or, nI_half2, nI_min2, la_put_eq, la_up, lr_same, lr_ne, lu_same, lu_ne, not_true_eq_false, not_false_eq_true] at c9) <;> first | (exfalso; omega) | conv => whnf)
            | (refine ⟨_, rfl, by omega, ?_⟩; conv => whnf)
            | (refine ⟨_, rfl, rfl, rfl, by decide, by decide, ?_⟩; conv => whnf)
            | (refine ⟨_, by (simp (disch := omega) only [nI_leI, nI_ltI, nI_eq, nz_eq, nz_lt, nz_gt, nz_le, nz_ge, nz_00, nz_n1, nI_add, pk_mul, pk_sub, nI_shl1, nI_or, nI_half2, nI_min2, la_put_eq, la_up, lr_same, lr_ne, lu_same, lu_ne, not_true_eq_false, not_false_eq_true]; rfl), by omega, ?_⟩; conv => whnf)
            | (apply And.intro; (first | assumption | decide | (simp (disch := omega) only [nI_leI, nI_ltI, nI_eq, nz_eq, nz_lt, nz_gt, nz_le, nz_ge, nz_00, nz_n1, nI_add, pk_mul, pk_sub, nI_shl1, nI_or, nI_half2, nI_min2, la_put_eq, la_up, lr_same, lr_ne, lu_same, lu_ne, not_true_eq_false, not_false_eq_true]; omega)); conv => whnf))
          all_goals (try simp (disch := omega) only [nI_leI, nI_ltI, nI_eq, nz_eq, nz_lt, nz_gt, nz_le, nz_ge, nz_00, nz_n1, nI_add, pk_mul, pk_sub, nI_shl1, nI_or, nI_half2, nI_min2, la_put_eq, la_up, lr_same, lr_ne, lu_same, lu_ne, not_true_eq_false, not_false_eq_true])
          refine ih (q + 1) _ q _ (by omega) ?_ (mf_trans hm1 g1)
          rw [sp_or, ← ha, sp_c_t hf]
        · conv => whnf
          repeat' (first
            | (refine ⟨fun c9 => ?_, fun c9 => ?_⟩ <;> (try simp (disch := omega) only [nI_leI, nI_ltI, nI_eq, nz_eq, nz_lt, nz_gt, nz_le, nz_ge, nz_00, nz_n1, nI_add, pk_mul, pk_sub, nI_shl1, nI_or, nI_half2, nI_min2, la_put_eq, la_up, lr_same, lr_ne, lu_same, lu_ne, not_true_eq_false, not_false_eq_true] at c9) <;> first | (exfalso; omega) | conv => whnf)
            | (refine ⟨_, rfl, by omega, ?_⟩; conv => whnf)
            | (refine ⟨_, rfl, rfl, rfl, by decide, by decide, ?_⟩; conv => whnf)
            | (refine ⟨_, by (simp (disch := omega) only [nI_leI, nI_ltI, nI_eq, nz_eq, nz_lt, nz_gt, nz_le, nz_ge, nz_00, nz_n1, nI_add, pk_mul, pk_sub, nI_shl1, nI_or, nI_half2, nI_min2, la_put_eq, la_up, lr_same, lr_ne, lu_same, lu_ne, not_true_eq_false, not_false_eq_true]; rfl), by omega, ?_⟩; conv => whnf)
            | (apply And.intro; (first | assumption | decide | (simp (disch := omega) only [nI_leI, nI_ltI, nI_eq, nz_eq, nz_lt, nz_gt, nz_le, nz_ge, nz_00, nz_n1, nI_add, pk_mul, pk_sub, nI_shl1, nI_or, nI_half2, nI_min2, la_put_eq, la_up, lr_same, lr_ne, lu_same, lu_ne, not_true_eq_false, not_false_eq_true]; omega)); conv => whnf))
          all_goals (try simp (disch := omega) only [nI_leI, nI_ltI, nI_eq, nz_eq, nz_lt, nz_gt, nz_le, nz_ge, nz_00, nz_n1, nI_add, pk_mul, pk_sub, nI_shl1, nI_or, nI_half2, nI_min2, la_put_eq, la_up, lr_same, lr_ne, lu_same, lu_ne, not_true_eq_false, not_false_eq_true])
          refine ih (q + 1) _ q _ (by omega) ?_ (mf_trans hm1 g1)
          rw [sp_or, ← ha, sp_c_f hf]
    conv => whnf
    repeat' (first
      | (refine ⟨fun c9 => ?_, fun c9 => ?_⟩ <;> (try simp (disch := omega) only [nI_leI, nI_ltI, nI_eq, nz_eq, nz_lt, nz_gt, nz_le, nz_ge, nz_00, nz_n1, nI_add, pk_mul, pk_sub, nI_shl1, nI_or, nI_half2, nI_min2, la_put_eq, la_up, lr_same, lr_ne, lu_same, lu_ne, not_true_eq_false, not_false_eq_true, zr2 hP, zr3 hP, zr4 hP, zr5 hP, zr6 hP, zr7 hP, zr8 hP, zrN hP, zrD hP, zrB hP, zrY hP, zrQ hP, zr1 hP, subadd] at c9) <;> first | (exfalso; omega) | conv => whnf)
      | (refine ⟨_, rfl, by omega, ?_⟩; conv => whnf)
      | (refine ⟨_, rfl, rfl, rfl, by decide, by decide, ?_⟩; conv => whnf)
      | (refine ⟨_, by (simp (disch := omega) only [nI_leI, nI_ltI, nI_eq, nz_eq, nz_lt, nz_gt, nz_le, nz_ge, nz_00, nz_n1, nI_add, pk_mul, pk_sub, nI_shl1, nI_or, nI_half2, nI_min2, la_put_eq, la_up, lr_same, lr_ne, lu_same, lu_ne, not_true_eq_false, not_false_eq_true, zr2 hP, zr3 hP, zr4 hP, zr5 hP, zr6 hP, zr7 hP, zr8 hP, zrN hP, zrD hP, zrB hP, zrY hP, zrQ hP, zr1 hP, subadd]; rfl), by omega, ?_⟩; conv => whnf)
      | (apply And.intro; (first | assumption | decide | (simp (disch := omega) only [nI_leI, nI_ltI, nI_eq, nz_eq, nz_lt, nz_gt, nz_le, nz_ge, nz_00, nz_n1, nI_add, pk_mul, pk_sub, nI_shl1, nI_or, nI_half2, nI_min2, la_put_eq, la_up, lr_same, lr_ne, lu_same, lu_ne, not_true_eq_false, not_false_eq_true, zr2 hP, zr3 hP, zr4 hP, zr5 hP, zr6 hP, zr7 hP, zr8 hP, zrN hP, zrD hP, zrB hP, zrY hP, zrQ hP, zr1 hP, subadd]; omega)); conv => whnf))
    all_goals (try simp (disch := omega) only [nI_leI, nI_ltI, nI_eq, nz_eq, nz_lt, nz_gt, nz_le, nz_ge, nz_00, nz_n1, nI_add, pk_mul, pk_sub, nI_shl1, nI_or, nI_half2, nI_min2, la_put_eq, la_up, lr_same, lr_ne, lu_same, lu_ne, not_true_eq_false, not_false_eq_true, zr2 hP, zr3 hP, zr4 hP, zr5 hP, zr6 hP, zr7 hP, zr8 hP, zrN hP, zrD hP, zrB hP, zrY hP, zrQ hP, zr1 hP, subadd])
    refine loop 10 0 0 (N 4 b) h' (by omega) rfl ?_
    rw [lu_self, pg_self hP]
    exact mf_self _
  · conv => whnf
    repeat' (first
      | (refine ⟨fun c9 => ?_, fun c9 => ?_⟩ <;> (try simp (disch := omega) only [nI_leI, nI_ltI, nI_eq, nz_eq, nz_lt, nz_gt, nz_le, nz_ge, nz_00, nz_n1, nI_add, pk_mul, pk_sub, nI_shl1, nI_or, nI_half2, nI_min2, la_put_eq, la_up, lr_same, lr_ne, lu_same, lu_ne, not_true_eq_false, not_false_eq_true] at c9) <;> first | (exfalso; omega) | conv => whnf)
      | (refine ⟨_, rfl, by omega, ?_⟩; conv => whnf)
      | (refine ⟨_, rfl, rfl, rfl, by decide, by decide, ?_⟩; conv => whnf)
      | (refine ⟨_, by (simp (disch := omega) only [nI_leI, nI_ltI, nI_eq, nz_eq, nz_lt, nz_gt, nz_le, nz_ge, nz_00, nz_n1, nI_add, pk_mul, pk_sub, nI_shl1, nI_or, nI_half2, nI_min2, la_put_eq, la_up, lr_same, lr_ne, lu_same, lu_ne, not_true_eq_false, not_false_eq_true]; rfl), by omega, ?_⟩; conv => whnf)
      | (apply And.intro; (first | assumption | decide | (simp (disch := omega) only [nI_leI, nI_ltI, nI_eq, nz_eq, nz_lt, nz_gt, nz_le, nz_ge, nz_00, nz_n1, nI_add, pk_mul, pk_sub, nI_shl1, nI_or, nI_half2, nI_min2, la_put_eq, la_up, lr_same, lr_ne, lu_same, lu_ne, not_true_eq_false, not_false_eq_true]; omega)); conv => whnf))
    all_goals (try simp (disch := omega) only [nI_leI, nI_ltI, nI_eq, nz_eq, nz_lt, nz_gt, nz_le, nz_ge, nz_00, nz_n1, nI_add, pk_mul, pk_sub, nI_shl1, nI_or, nI_half2, nI_min2, la_put_eq, la_up, lr_same, lr_ne, lu_same, lu_ne, not_true_eq_false, not_false_eq_true])
    refine hret _ _ ⟨mf_self _, ?_⟩
    rw [a_subjects, ci_f hc]
theorem M_X5_subjects : pm_MT yX5_subjects cX5_subjects 5 1 7 P_X5_subjects (pm_pi Q_X5_subjects) := pm_met k_X5_subjects (by decide) rfl (by
  rintro ⟨g0, g1, g2, g3, g4⟩ av h hp
  rw [hp.1]
  exact Nat.le_of_ble_eq_true rfl) pf_X5_subjects
theorem rc_X5_subjects : ∀ g av h, P_X5_subjects g av h → ∃ i t, av = .inr (.inr (5, i, 0)) :: t := by
  rintro ⟨g0, g1, g2, g3, g4⟩ av h hp
  exact ⟨_, _, hp.1⟩
def P_X5_ask : Int32 × Int32 × LD × Nat × LD × pm_H → List pm_V → pm_H → Prop := fun g av h => match g with
  | (b, w, Y, m, S, h0) => av = [vR 5 0 0, vI b, vI w] ∧ h = h0 ∧ md h0 Y ∧ Y 0 10 ≤ 999 ∧ ms_at h0 m S ∧ se_ok m S
def Q_X5_ask : Int32 × Int32 × LD × Nat × LD × pm_H → Int32 → pm_H → Prop := fun g r h => match g with
  | (b, w, N, m, S, h0) => mf h0 h ∧ r = a_ask N m S b w
def T_X5_ask : List (Nat × pm_T) := [
  (0, i_al 0 1),
  (1, i_il 1 2),
  (2, i_ci 2 P_X5_isBiscuit Q_X5_isBiscuit 5),
  (5, i_ifeq 18 8),
  (8, i_il 2 9),
  (9, i_i2l 10),
  (10, i_cl (lN 0) 11),
  (11, i_cl (lN 1) 12),
  (12, i_ci 3 P_X5_in Q_X5_in 15),
  (15, i_ifne 20 18),
  (18, i_c (-1) 19),
  (19, i_ir),
  (20, i_al 0 21),
  (21, i_il 1 22),
  (22, i_ci 2 P_X5_kindsOf Q_X5_kindsOf 25),
  (25, i_is 3 26),
  (26, i_il 3 27),
  (27, i_ci 1 P_X5_bitsOf Q_X5_bitsOf 30),
  (30, i_is 4 32),
  (32, i_il 4 34),
  (34, i_is 5 36),
  (36, i_c (-4) 38),
  (38, i_is 6 40),
  (40, i_c (nI 0) 41),
  (41, i_is 7 43),
  (43, i_il 7 45),
  (45, i_c (nI 30) 47),
  (47, i_icgt 189 50),
  (50, i_c (nI 0) 51),
  (51, i_is 8 53),
  (53, i_il 8 55),
  (55, i_al 0 56),
  (56, i_gi 5 1 59),
  (59, i_icge 183 62),
  (62, i_c (nI 0) 63),
  (63, i_is 9 65),
  (65, i_c (nI 0) 66),
  (66, i_is 10 68),
  (68, i_il 10 70),
  (70, i_c (nI 4) 71),
  (71, i_icge 117 74),
  (74, i_il 9 76),
  (76, i_il 3 77),
  (77, i_il 10 79),
  (79, i_ishr 80),
  (80, i_c (nI 1) 81),
  (81, i_iand 82),
  (82, i_c (nI 1) 83),
  (83, i_icne 107 86),
  (86, i_al 0 87),
  (87, i_gr 5 (fun i => (5, i, 7)) 90),
  (90, i_c (nI 124) 92),
  (92, i_il 10 94),
  (94, i_imul 95),
  (95, i_c (nI 4) 96),
  (96, i_il 7 98),
  (98, i_imul 99),
  (99, i_iadd 100),
  (100, i_il 8 102),
  (102, i_iadd 103),
  (103, i_ia 104),
  (104, i_go 108),
  (107, i_c (nI 0) 108),
  (108, i_iadd 109),
  (109, i_is 9 111),
  (111, i_inc 10 (nI 1) 114),
  (114, i_go 68),
  (117, i_il 9 119),
  (119, i_il 4 121),
  (121, i_il 9 123),
  (123, i_isub 124),
  (124, i_icle 132 127),
  (127, i_il 9 129),
  (129, i_go 137),
  (132, i_il 4 134),
  (134, i_il 9 136),
  (136, i_isub 137),
  (137, i_is 10 139),
  (139, i_il 10 141),
  (141, i_il 5 143),
  (143, i_icge 157 146),
  (146, i_c (nI 10) 148),
  (148, i_il 7 150),
  (150, i_imul 151),
  (151, i_il 8 153),
  (153, i_iadd 154),
  (154, i_go 159),
  (157, i_il 6 159),
  (159, i_is 6 161),
  (161, i_il 10 163),
  (163, i_il 5 165),
  (165, i_icge 173 168),
  (168, i_il 10 170),
  (170, i_go 175),
  (173, i_il 5 175),
  (175, i_is 5 177),
  (177, i_inc 8 (nI 1) 180),
  (180, i_go 53),
  (183, i_inc 7 (nI 1) 186),
  (186, i_go 43),
  (189, i_il 6 191),
  (191, i_c (-4) 193),
  (193, i_iceq 200 196),
  (196, i_il 2 197),
  (197, i_ifne 205 200),
  (200, i_il 6 202),
  (202, i_go 207),
  (205, i_il 5 207),
  (207, i_ir)]
theorem k_X5_ask : ∀ q ∈ T_X5_ask, pm_sd RX5 cX5_ask 11 8 1 q.1 q.2 := by
  unfold T_X5_ask
  refine pm_cn (sd_aln (k := 0) (by decide +kernel) rfl rfl) ?_
  refine pm_cn (sd_iln (k := 1) (by decide +kernel) rfl rfl) ?_
  refine pm_cn (sd_civ M_X5_isBiscuit (by decide) cd_X5_isBiscuit rc_X5_isBiscuit cl5_ ml_X5_159 im_X5_isBiscuit se_X5_isBiscuit nt_X5 (by decide +kernel) (by omega) (by decide) (by decide +kernel) rfl) ?_
  refine pm_cn (sd_ifeq (off := 13) (by decide +kernel) (by decide) rfl) ?_
  refine pm_cn (sd_iln (k := 2) (by decide +kernel) rfl rfl) ?_
  refine pm_cn (sd_i2l (by decide +kernel) rfl) ?_
  refine pm_cn (sd_lconst (z := 0) (by decide +kernel) (by decide +kernel) rfl) ?_
  refine pm_cn (sd_lconst (z := 1) (by decide +kernel) (by decide +kernel) rfl) ?_
  refine pm_cn (sd_cis M_X5_in (by decide) cd_X5_in ml_X5_46 st_X5_in nt_X5 (by decide +kernel) (by omega) (by decide) (by decide +kernel) rfl) ?_
  refine pm_cn (sd_ifne (off := 5) (by decide +kernel) (by decide) rfl) ?_
  refine pm_cn (sd_iconst (z := -1) (by decide +kernel) (by decide +kernel) rfl) ?_
  refine pm_cn (sd_ir (by decide +kernel)) ?_
  refine pm_cn (sd_aln (k := 0) (by decide +kernel) rfl rfl) ?_
  refine pm_cn (sd_iln (k := 1) (by decide +kernel) rfl rfl) ?_
  refine pm_cn (sd_civ M_X5_kindsOf (by decide) cd_X5_kindsOf rc_X5_kindsOf cl5_ ml_X5_225 im_X5_kindsOf se_X5_kindsOf nt_X5 (by decide +kernel) (by omega) (by decide) (by decide +kernel) rfl) ?_
  refine pm_cn (sd_isn (k := 3) (by decide +kernel) rfl rfl (by decide)) ?_
  refine pm_cn (sd_iln (k := 3) (by decide +kernel) rfl rfl) ?_
  refine pm_cn (sd_cis M_X5_bitsOf (by decide) cd_X5_bitsOf ml_X5_202 st_X5_bitsOf nt_X5 (by decide +kernel) (by omega) (by decide) (by decide +kernel) rfl) ?_
  refine pm_cn (sd_is (by decide +kernel) rfl (by decide)) ?_
  refine pm_cn (sd_il (by decide +kernel) rfl) ?_
  refine pm_cn (sd_is (by decide +kernel) rfl (by decide)) ?_
  refine pm_cn (sd_bipush (z := -4) (by decide +kernel) (by decide +kernel) rfl) ?_
  refine pm_cn (sd_is (by decide +kernel) rfl (by decide)) ?_
  refine pm_cn (sd_iconst (z := 0) (by decide +kernel) (by decide +kernel) rfl) ?_
  refine pm_cn (sd_is (by decide +kernel) rfl (by decide)) ?_
  refine pm_cn (sd_il (by decide +kernel) rfl) ?_
  refine pm_cn (sd_bipush (z := 30) (by decide +kernel) (by decide +kernel) rfl) ?_
  refine pm_cn (sd_icgt (off := 142) (by decide +kernel) (by decide) rfl) ?_
  refine pm_cn (sd_iconst (z := 0) (by decide +kernel) (by decide +kernel) rfl) ?_
  refine pm_cn (sd_is (by decide +kernel) rfl (by decide)) ?_
  refine pm_cn (sd_il (by decide +kernel) rfl) ?_
  refine pm_cn (sd_aln (k := 0) (by decide +kernel) rfl rfl) ?_
  refine pm_cn (sd_gi cl5_ in5_ (by decide) (fun _ => rfl) fl_X5_126 (by decide +kernel) rfl) ?_
  refine pm_cn (sd_icge (off := 124) (by decide +kernel) (by decide) rfl) ?_
  refine pm_cn (sd_iconst (z := 0) (by decide +kernel) (by decide +kernel) rfl) ?_
  refine pm_cn (sd_is (by decide +kernel) rfl (by decide)) ?_
  refine pm_cn (sd_iconst (z := 0) (by decide +kernel) (by decide +kernel) rfl) ?_
  refine pm_cn (sd_is (by decide +kernel) rfl (by decide)) ?_
  refine pm_cn (sd_il (by decide +kernel) rfl) ?_
  refine pm_cn (sd_iconst (z := 4) (by decide +kernel) (by decide +kernel) rfl) ?_
  refine pm_cn (sd_icge (off := 46) (by decide +kernel) (by decide) rfl) ?_
  refine pm_cn (sd_il (by decide +kernel) rfl) ?_
  refine pm_cn (sd_iln (k := 3) (by decide +kernel) rfl rfl) ?_
  refine pm_cn (sd_il (by decide +kernel) rfl) ?_
  refine pm_cn (sd_ishr (by decide +kernel) rfl) ?_
  refine pm_cn (sd_iconst (z := 1) (by decide +kernel) (by decide +kernel) rfl) ?_
  refine pm_cn (sd_iand (by decide +kernel) rfl) ?_
  refine pm_cn (sd_iconst (z := 1) (by decide +kernel) (by decide +kernel) rfl) ?_
  refine pm_cn (sd_icne (off := 24) (by decide +kernel) (by decide) rfl) ?_
  refine pm_cn (sd_aln (k := 0) (by decide +kernel) rfl rfl) ?_
  refine pm_cn (sd_gr cl5_ in5_ (j := 20) (by decide) (fun _ => rfl) fl_X5_28 (by decide +kernel) rfl) ?_
  refine pm_cn (sd_bipush (z := 124) (by decide +kernel) (by decide +kernel) rfl) ?_
  refine pm_cn (sd_il (by decide +kernel) rfl) ?_
  refine pm_cn (sd_imul (by decide +kernel) rfl) ?_
  refine pm_cn (sd_iconst (z := 4) (by decide +kernel) (by decide +kernel) rfl) ?_
  refine pm_cn (sd_il (by decide +kernel) rfl) ?_
  refine pm_cn (sd_imul (by decide +kernel) rfl) ?_
  refine pm_cn (sd_iadd (by decide +kernel) rfl) ?_
  refine pm_cn (sd_il (by decide +kernel) rfl) ?_
  refine pm_cn (sd_iadd (by decide +kernel) rfl) ?_
  refine pm_cn (sd_ia (by decide +kernel) rfl) ?_
  refine pm_cn (sd_go (off := 4) (by decide +kernel) (by decide)) ?_
  refine pm_cn (sd_iconst (z := 0) (by decide +kernel) (by decide +kernel) rfl) ?_
  refine pm_cn (sd_iadd (by decide +kernel) rfl) ?_
  refine pm_cn (sd_is (by decide +kernel) rfl (by decide)) ?_
  refine pm_cn (sd_inc (z := 1) (by decide +kernel) (by decide +kernel) rfl (by decide)) ?_
  refine pm_cn (sd_go (off := -46) (by decide +kernel) (by decide)) ?_
  refine pm_cn (sd_il (by decide +kernel) rfl) ?_
  refine pm_cn (sd_il (by decide +kernel) rfl) ?_
  refine pm_cn (sd_il (by decide +kernel) rfl) ?_
  refine pm_cn (sd_isub (by decide +kernel) rfl) ?_
  refine pm_cn (sd_icle (off := 8) (by decide +kernel) (by decide) rfl) ?_
  refine pm_cn (sd_il (by decide +kernel) rfl) ?_
  refine pm_cn (sd_go (off := 8) (by decide +kernel) (by decide)) ?_
  refine pm_cn (sd_il (by decide +kernel) rfl) ?_
  refine pm_cn (sd_il (by decide +kernel) rfl) ?_
  refine pm_cn (sd_isub (by decide +kernel) rfl) ?_
  refine pm_cn (sd_is (by decide +kernel) rfl (by decide)) ?_
  refine pm_cn (sd_il (by decide +kernel) rfl) ?_
  refine pm_cn (sd_il (by decide +kernel) rfl) ?_
  refine pm_cn (sd_icge (off := 14) (by decide +kernel) (by decide) rfl) ?_
  refine pm_cn (sd_bipush (z := 10) (by decide +kernel) (by decide +kernel) rfl) ?_
  refine pm_cn (sd_il (by decide +kernel) rfl) ?_
  refine pm_cn (sd_imul (by decide +kernel) rfl) ?_
  refine pm_cn (sd_il (by decide +kernel) rfl) ?_
  refine pm_cn (sd_iadd (by decide +kernel) rfl) ?_
  refine pm_cn (sd_go (off := 5) (by decide +kernel) (by decide)) ?_
  refine pm_cn (sd_il (by decide +kernel) rfl) ?_
  refine pm_cn (sd_is (by decide +kernel) rfl (by decide)) ?_
  refine pm_cn (sd_il (by decide +kernel) rfl) ?_
  refine pm_cn (sd_il (by decide +kernel) rfl) ?_
  refine pm_cn (sd_icge (off := 8) (by decide +kernel) (by decide) rfl) ?_
  refine pm_cn (sd_il (by decide +kernel) rfl) ?_
  refine pm_cn (sd_go (off := 5) (by decide +kernel) (by decide)) ?_
  refine pm_cn (sd_il (by decide +kernel) rfl) ?_
  refine pm_cn (sd_is (by decide +kernel) rfl (by decide)) ?_
  refine pm_cn (sd_inc (z := 1) (by decide +kernel) (by decide +kernel) rfl (by decide)) ?_
  refine pm_cn (sd_go (off := -127) (by decide +kernel) (by decide)) ?_
  refine pm_cn (sd_inc (z := 1) (by decide +kernel) (by decide +kernel) rfl (by decide)) ?_
  refine pm_cn (sd_go (off := -143) (by decide +kernel) (by decide)) ?_
  refine pm_cn (sd_il (by decide +kernel) rfl) ?_
  refine pm_cn (sd_bipush (z := -4) (by decide +kernel) (by decide +kernel) rfl) ?_
  refine pm_cn (sd_iceq (off := 7) (by decide +kernel) (by decide) rfl) ?_
  refine pm_cn (sd_iln (k := 2) (by decide +kernel) rfl rfl) ?_
  refine pm_cn (sd_ifne (off := 8) (by decide +kernel) (by decide) rfl) ?_
  refine pm_cn (sd_il (by decide +kernel) rfl) ?_
  refine pm_cn (sd_go (off := 5) (by decide +kernel) (by decide)) ?_
  refine pm_cn (sd_il (by decide +kernel) rfl) ?_
  refine pm_cn (sd_ir (by decide +kernel)) ?_
  exact fun _ h => absurd h List.not_mem_nil
set_option maxHeartbeats 800000 in
set_option maxRecDepth 100000 in
theorem pf_X5_ask : pm_pf T_X5_ask P_X5_ask (pm_pi Q_X5_ask) := by
  rintro ⟨b, w, N, m, S, h0⟩ av h K hK ⟨rfl, rfl, hmd, hd, hS, hSo⟩ hret
  obtain ⟨hP, wN, hF⟩ := id hmd
  have w1 := wN.1
  have w2 := wN.2.1
  show K (some 0) ([(0, vR 5 0 0), (1, vI b), (2, vI w)], [], h)
  refine hK [(43, [0, 2, 3, 4, 5, 6, 7]), (53, [0, 2, 3, 4, 5, 6, 7, 8]), (68, [0, 2, 3, 4, 5, 6, 7, 8, 9, 10])] 80 _ _ ?_
  conv => whnf
  repeat' (first
    | (refine ⟨fun c9 => ?_, fun c9 => ?_⟩ <;> (try simp (disch := omega) only [nI_leI, nI_ltI, nI_eq, nz_eq, nz_lt, nz_gt, nz_le, nz_ge, nz_00, nz_n1, nI_add, pk_mul, pk_sub, nI_shl1, nI_or, nI_half2, nI_min2, la_put_eq, la_up, lr_same, lr_ne, lu_same, lu_ne, not_true_eq_false, not_false_eq_true] at c9) <;> first | (exfalso; omega) | conv => whnf)
    | (refine ⟨_, rfl, by omega, ?_⟩; conv => whnf)
    | (refine ⟨_, rfl, rfl, rfl, by decide, by decide, ?_⟩; conv => whnf)
    | (refine ⟨_, by (simp (disch := omega) only [nI_leI, nI_ltI, nI_eq, nz_eq, nz_lt, nz_gt, nz_le, nz_ge, nz_00, nz_n1, nI_add, pk_mul, pk_sub, nI_shl1, nI_or, nI_half2, nI_min2, la_put_eq, la_up, lr_same, lr_ne, lu_same, lu_ne, not_true_eq_false, not_false_eq_true]; rfl), by omega, ?_⟩; conv => whnf)
    | (apply And.intro; (first | assumption | decide | (simp (disch := omega) only [nI_leI, nI_ltI, nI_eq, nz_eq, nz_lt, nz_gt, nz_le, nz_ge, nz_00, nz_n1, nI_add, pk_mul, pk_sub, nI_shl1, nI_or, nI_half2, nI_min2, la_put_eq, la_up, lr_same, lr_ne, lu_same, lu_ne, not_true_eq_false, not_false_eq_true]; omega)); conv => whnf))
  all_goals (try simp (disch := omega) only [nI_leI, nI_ltI, nI_eq, nz_eq, nz_lt, nz_gt, nz_le, nz_ge, nz_00, nz_n1, nI_add, pk_mul, pk_sub, nI_shl1, nI_or, nI_half2, nI_min2, la_put_eq, la_up, lr_same, lr_ne, lu_same, lu_ne, not_true_eq_false, not_false_eq_true])
  refine ⟨(b, N 0 3, _), ⟨rfl, rfl, zrN hP, w2⟩, fun v h' hq => ?_⟩
  obtain ⟨rfl, ⟨hb, rfl⟩ | ⟨hc, rfl⟩⟩ := hq
  · conv => whnf
    repeat' (first
      | (refine ⟨fun c9 => ?_, fun c9 => ?_⟩ <;> (try simp (disch := omega) only [nI_leI, nI_ltI, nI_eq, nz_eq, nz_lt, nz_gt, nz_le, nz_ge, nz_00, nz_n1, nI_add, pk_mul, pk_sub, nI_shl1, nI_or, nI_half2, nI_min2, la_put_eq, la_up, lr_same, lr_ne, lu_same, lu_ne, not_true_eq_false, not_false_eq_true] at c9) <;> first | (exfalso; omega) | conv => whnf)
      | (refine ⟨_, rfl, by omega, ?_⟩; conv => whnf)
      | (refine ⟨_, rfl, rfl, rfl, by decide, by decide, ?_⟩; conv => whnf)
      | (refine ⟨_, by (simp (disch := omega) only [nI_leI, nI_ltI, nI_eq, nz_eq, nz_lt, nz_gt, nz_le, nz_ge, nz_00, nz_n1, nI_add, pk_mul, pk_sub, nI_shl1, nI_or, nI_half2, nI_min2, la_put_eq, la_up, lr_same, lr_ne, lu_same, lu_ne, not_true_eq_false, not_false_eq_true]; rfl), by omega, ?_⟩; conv => whnf)
      | (apply And.intro; (first | assumption | decide | (simp (disch := omega) only [nI_leI, nI_ltI, nI_eq, nz_eq, nz_lt, nz_gt, nz_le, nz_ge, nz_00, nz_n1, nI_add, pk_mul, pk_sub, nI_shl1, nI_or, nI_half2, nI_min2, la_put_eq, la_up, lr_same, lr_ne, lu_same, lu_ne, not_true_eq_false, not_false_eq_true]; omega)); conv => whnf))
    all_goals (try simp (disch := omega) only [nI_leI, nI_ltI, nI_eq, nz_eq, nz_lt, nz_gt, nz_le, nz_ge, nz_00, nz_n1, nI_add, pk_mul, pk_sub, nI_shl1, nI_or, nI_half2, nI_min2, la_put_eq, la_up, lr_same, lr_ne, lu_same, lu_ne, not_true_eq_false, not_false_eq_true])
    refine ⟨(w.toInt64, lN 0, lN 1, _), ⟨rfl, rfl⟩, fun v h' hq => ?_⟩
    obtain ⟨rfl, ⟨hw, rfl⟩ | ⟨hc, rfl⟩⟩ := Q_hf hq
    · obtain ⟨x, hx, rfl⟩ := id hb
      have hv : ixv (nI x) = x := ixv_nI (by omega)
      have ha : a_ask N m S (nI x) w = hlf2 w (sp_akO (sp_wst (sp_tally N x (sp_kinds N m S x) 4) (sp_pop (sp_kinds N m S x))) (sp_pop (sp_kinds N m S x)) (N 0 0) 31) := by
        rw [a_ask, ci_t ⟨hb, hw⟩, hv]
      have hlt := sp_kinds_lt N m S x
      have htl : ∀ j, sp_tally N x (sp_kinds N m S x) 4 j ≤ sp_pop (sp_kinds N m S x) := fun j => sp_tally_le hlt
      have hpl : sp_pop (sp_kinds N m S x) ≤ 31 := sp_popF_le 31 _
      conv => whnf
      repeat' (first
        | (refine ⟨fun c9 => ?_, fun c9 => ?_⟩ <;> (try simp (disch := omega) only [nI_leI, nI_ltI, nI_eq, nz_eq, nz_lt, nz_gt, nz_le, nz_ge, nz_00, nz_n1, nI_add, pk_mul, pk_sub, nI_shl1, nI_or, nI_half2, nI_min2, la_put_eq, la_up, lr_same, lr_ne, lu_same, lu_ne, not_true_eq_false, not_false_eq_true] at c9) <;> first | (exfalso; omega) | conv => whnf)
        | (refine ⟨_, rfl, by omega, ?_⟩; conv => whnf)
        | (refine ⟨_, rfl, rfl, rfl, by decide, by decide, ?_⟩; conv => whnf)
        | (refine ⟨_, by (simp (disch := omega) only [nI_leI, nI_ltI, nI_eq, nz_eq, nz_lt, nz_gt, nz_le, nz_ge, nz_00, nz_n1, nI_add, pk_mul, pk_sub, nI_shl1, nI_or, nI_half2, nI_min2, la_put_eq, la_up, lr_same, lr_ne, lu_same, lu_ne, not_true_eq_false, not_false_eq_true]; rfl), by omega, ?_⟩; conv => whnf)
        | (apply And.intro; (first | assumption | decide | (simp (disch := omega) only [nI_leI, nI_ltI, nI_eq, nz_eq, nz_lt, nz_gt, nz_le, nz_ge, nz_00, nz_n1, nI_add, pk_mul, pk_sub, nI_shl1, nI_or, nI_half2, nI_min2, la_put_eq, la_up, lr_same, lr_ne, lu_same, lu_ne, not_true_eq_false, not_false_eq_true]; omega)); conv => whnf))
      all_goals (try simp (disch := omega) only [nI_leI, nI_ltI, nI_eq, nz_eq, nz_lt, nz_gt, nz_le, nz_ge, nz_00, nz_n1, nI_add, pk_mul, pk_sub, nI_shl1, nI_or, nI_half2, nI_min2, la_put_eq, la_up, lr_same, lr_ne, lu_same, lu_ne, not_true_eq_false, not_false_eq_true])
      refine ⟨(x, N, m, S, _), ⟨rfl, rfl, hmd, hd, hS, hSo, by omega⟩, fun v H hq => ?_⟩
      obtain ⟨hH, rfl, hkr⟩ := hq
      generalize sp_kinds N m S x = lf at *
      conv => whnf
      repeat' (first
        | (refine ⟨fun c9 => ?_, fun c9 => ?_⟩ <;> (try simp (disch := omega) only [nI_leI, nI_ltI, nI_eq, nz_eq, nz_lt, nz_gt, nz_le, nz_ge, nz_00, nz_n1, nI_add, pk_mul, pk_sub, nI_shl1, nI_or, nI_half2, nI_min2, la_put_eq, la_up, lr_same, lr_ne, lu_same, lu_ne, not_true_eq_false, not_false_eq_true] at c9) <;> first | (exfalso; omega) | conv => whnf)
        | (refine ⟨_, rfl, by omega, ?_⟩; conv => whnf)
        | (refine ⟨_, rfl, rfl, rfl, by decide, by decide, ?_⟩; conv => whnf)
        | (refine ⟨_, by (simp (disch := omega) only [nI_leI, nI_ltI, nI_eq, nz_eq, nz_lt, nz_gt, nz_le, nz_ge, nz_00, nz_n1, nI_add, pk_mul, pk_sub, nI_shl1, nI_or, nI_half2, nI_min2, la_put_eq, la_up, lr_same, lr_ne, lu_same, lu_ne, not_true_eq_false, not_false_eq_true]; rfl), by omega, ?_⟩; conv => whnf)
        | (apply And.intro; (first | assumption | decide | (simp (disch := omega) only [nI_leI, nI_ltI, nI_eq, nz_eq, nz_lt, nz_gt, nz_le, nz_ge, nz_00, nz_n1, nI_add, pk_mul, pk_sub, nI_shl1, nI_or, nI_half2, nI_min2, la_put_eq, la_up, lr_same, lr_ne, lu_same, lu_ne, not_true_eq_false, not_false_eq_true]; omega)); conv => whnf))
      all_goals (try simp (disch := omega) only [nI_leI, nI_ltI, nI_eq, nz_eq, nz_lt, nz_gt, nz_le, nz_ge, nz_00, nz_n1, nI_add, pk_mul, pk_sub, nI_shl1, nI_or, nI_half2, nI_min2, la_put_eq, la_up, lr_same, lr_ne, lu_same, lu_ne, not_true_eq_false, not_false_eq_true])
      refine ⟨(lf, _), ⟨rfl, rfl, by omega⟩, fun v h'' hq => ?_⟩
      obtain ⟨rfl, rfl⟩ := hq
      generalize sp_pop lf = all at *
      have hN0 := mf_F hH hF
      have outer : ∀ n d p, d + n = 31 → p = sp_akO (sp_wst (sp_tally N x lf 4) all) all (N 0 0) d → K (some 43) ([(0, vR 5 0 0), (2, vI w), (3, vI (nI lf)), (4, vI (nI all)), (5, vI (nI p.2)), (6, vI p.1), (7, vI (nI d))], [], h'') := by
        intro n
        induction n with
        | zero =>
          intro d p hk hp
          have : d = 31 := by omega
          subst this
          refine hK [(43, [0, 2, 3, 4, 5, 6, 7]), (53, [0, 2, 3, 4, 5, 6, 7, 8]), (68, [0, 2, 3, 4, 5, 6, 7, 8, 9, 10])] 60 _ _ ?_
          conv => whnf
          repeat' (first
            | (refine ⟨fun c9 => ?_, fun c9 => ?_⟩ <;> (try simp (disch := omega) only [nI_leI, nI_ltI, nI_eq, nz_eq, nz_lt, nz_gt, nz_le, nz_ge, nz_00, nz_n1, nI_add, pk_mul, pk_sub, nI_shl1, nI_or, nI_half2, nI_min2, la_put_eq, la_up, lr_same, lr_ne, lu_same, lu_ne, not_true_eq_false, not_false_eq_true] at c9) <;> first | (exfalso; omega) | conv => whnf)
            | (refine ⟨_, rfl, by omega, ?_⟩; conv => whnf)
            | (refine ⟨_, rfl, rfl, rfl, by decide, by decide, ?_⟩; conv => whnf)
            | (refine ⟨_, by (simp (disch := omega) only [nI_leI, nI_ltI, nI_eq, nz_eq, nz_lt, nz_gt, nz_le, nz_ge, nz_00, nz_n1, nI_add, pk_mul, pk_sub, nI_shl1, nI_or, nI_half2, nI_min2, la_put_eq, la_up, lr_same, lr_ne, lu_same, lu_ne, not_true_eq_false, not_false_eq_true]; rfl), by omega, ?_⟩; conv => whnf)
            | (apply And.intro; (first | assumption | decide | (simp (disch := omega) only [nI_leI, nI_ltI, nI_eq, nz_eq, nz_lt, nz_gt, nz_le, nz_ge, nz_00, nz_n1, nI_add, pk_mul, pk_sub, nI_shl1, nI_or, nI_half2, nI_min2, la_put_eq, la_up, lr_same, lr_ne, lu_same, lu_ne, not_true_eq_false, not_false_eq_true]; omega)); conv => whnf))
          all_goals (try simp (disch := omega) only [nI_leI, nI_ltI, nI_eq, nz_eq, nz_lt, nz_gt, nz_le, nz_ge, nz_00, nz_n1, nI_add, pk_mul, pk_sub, nI_shl1, nI_or, nI_half2, nI_min2, la_put_eq, la_up, lr_same, lr_ne, lu_same, lu_ne, not_true_eq_false, not_false_eq_true])
          all_goals (refine hret _ _ ⟨hH, ?_⟩; rw [ha, ← hp, hlf2])
          · by_cases q : w = nI 0
            · rw [if_pos q]
            · rw [if_neg q, if_pos (by assumption)]
          · rw [if_neg (by assumption), if_neg (by assumption)]
          · rw [if_pos (by assumption)]
        | succ n ih =>
          intro d p hk hp
          have hp2 : p.2 ≤ all := by rw [hp]; exact sp_akO_le d
          have inner : ∀ k f q, f + k = N 0 0 → q = sp_akI (sp_wst (sp_tally N x lf 4) all) d p f → K (some 53) ([(0, vR 5 0 0), (2, vI w), (3, vI (nI lf)), (4, vI (nI all)), (5, vI (nI q.2)), (6, vI q.1), (7, vI (nI d)), (8, vI (nI f))], [], h'') := by
            intro k
            induction k with
            | zero =>
              intro f q hk hq
              have : f = N 0 0 := by omega
              subst this
              refine hK [(43, [0, 2, 3, 4, 5, 6, 7]), (53, [0, 2, 3, 4, 5, 6, 7, 8]), (68, [0, 2, 3, 4, 5, 6, 7, 8, 9, 10])] 60 _ _ ?_
              conv => whnf
              repeat' (first
                | (refine ⟨fun c9 => ?_, fun c9 => ?_⟩ <;> (try simp (disch := omega) only [nI_leI, nI_ltI, nI_eq, nz_eq, nz_lt, nz_gt, nz_le, nz_ge, nz_00, nz_n1, nI_add, pk_mul, pk_sub, nI_shl1, nI_or, nI_half2, nI_min2, la_put_eq, la_up, lr_same, lr_ne, lu_same, lu_ne, not_true_eq_false, not_false_eq_true, hN0] at c9) <;> first | (exfalso; omega) | conv => whnf)
                | (refine ⟨_, rfl, by omega, ?_⟩; conv => whnf)
                | (refine ⟨_, rfl, rfl, rfl, by decide, by decide, ?_⟩; conv => whnf)
                | (refine ⟨_, by (simp (disch := omega) only [nI_leI, nI_ltI, nI_eq, nz_eq, nz_lt, nz_gt, nz_le, nz_ge, nz_00, nz_n1, nI_add, pk_mul, pk_sub, nI_shl1, nI_or, nI_half2, nI_min2, la_put_eq, la_up, lr_same, lr_ne, lu_same, lu_ne, not_true_eq_false, not_false_eq_true, hN0]; rfl), by omega, ?_⟩; conv => whnf)
                | (apply And.intro; (first | assumption | decide | (simp (disch := omega) only [nI_leI, nI_ltI, nI_eq, nz_eq, nz_lt, nz_gt, nz_le, nz_ge, nz_00, nz_n1, nI_add, pk_mul, pk_sub, nI_shl1, nI_or, nI_half2, nI_min2, la_put_eq, la_up, lr_same, lr_ne, lu_same, lu_ne, not_true_eq_false, not_false_eq_true, hN0]; omega)); conv => whnf))
              all_goals (try simp (disch := omega) only [nI_leI, nI_ltI, nI_eq, nz_eq, nz_lt, nz_gt, nz_le, nz_ge, nz_00, nz_n1, nI_add, pk_mul, pk_sub, nI_shl1, nI_or, nI_half2, nI_min2, la_put_eq, la_up, lr_same, lr_ne, lu_same, lu_ne, not_true_eq_false, not_false_eq_true, hN0])
              refine ih (d + 1) q (by omega) ?_
              rw [sp_akO, ← hp]
              exact hq
            | succ k ih2 =>
              intro f q hk2 hq
              have htj := htl (4 * d + f)
              have hq2 : q.2 ≤ all := by rw [hq]; exact sp_akI_le hp2 f
              have hst : sp_akI (sp_wst (sp_tally N x lf 4) all) d p (f + 1) = sp_dn (max (sp_tally N x lf 4 (4 * d + f)) (all - sp_tally N x lf 4 (4 * d + f))) (nI (10 * d + f)) q := by
                rw [sp_akI, ← hq, sp_wst]
              have in3 : ∀ k3 y c, y + k3 = 4 → c = sp_tally N x lf y (4 * d + f) → K (some 68) ([(0, vR 5 0 0), (2, vI w), (3, vI (nI lf)), (4, vI (nI all)), (5, vI (nI q.2)), (6, vI q.1), (7, vI (nI d)), (8, vI (nI f)), (9, vI (nI c)), (10, vI (nI y))], [], h'') := by
                intro k3
                induction k3 with
                | zero =>
                  intro y c hy hc
                  have hy4 : y = 4 := by omega
                  subst hy4
                  rw [← hc] at htj hst
                  refine hK [(43, [0, 2, 3, 4, 5, 6, 7]), (53, [0, 2, 3, 4, 5, 6, 7, 8]), (68, [0, 2, 3, 4, 5, 6, 7, 8, 9, 10])] 60 _ _ ?_
                  conv => whnf
                  repeat' (first
                    | (refine ⟨fun c9 => ?_, fun c9 => ?_⟩ <;> (try simp (disch := omega) only [nI_leI, nI_ltI, nI_eq, nz_eq, nz_lt, nz_gt, nz_le, nz_ge, nz_00, nz_n1, nI_add, pk_mul, pk_sub, nI_shl1, nI_or, nI_half2, nI_min2, la_put_eq, la_up, lr_same, lr_ne, lu_same, lu_ne, not_true_eq_false, not_false_eq_true] at c9) <;> first | (exfalso; omega) | conv => whnf)
                    | (refine ⟨_, rfl, by omega, ?_⟩; conv => whnf)
                    | (refine ⟨_, rfl, rfl, rfl, by decide, by decide, ?_⟩; conv => whnf)
                    | (refine ⟨_, by (simp (disch := omega) only [nI_leI, nI_ltI, nI_eq, nz_eq, nz_lt, nz_gt, nz_le, nz_ge, nz_00, nz_n1, nI_add, pk_mul, pk_sub, nI_shl1, nI_or, nI_half2, nI_min2, la_put_eq, la_up, lr_same, lr_ne, lu_same, lu_ne, not_true_eq_false, not_false_eq_true]; rfl), by omega, ?_⟩; conv => whnf)
                    | (apply And.intro; (first | assumption | decide | (simp (disch := omega) only [nI_leI, nI_ltI, nI_eq, nz_eq, nz_lt, nz_gt, nz_le, nz_ge, nz_00, nz_n1, nI_add, pk_mul, pk_sub, nI_shl1, nI_or, nI_half2, nI_min2, la_put_eq, la_up, lr_same, lr_ne, lu_same, lu_ne, not_true_eq_false, not_false_eq_true]; omega)); conv => whnf))
                  all_goals (try simp (disch := omega) only [nI_leI, nI_ltI, nI_eq, nz_eq, nz_lt, nz_gt, nz_le, nz_ge, nz_00, nz_n1, nI_add, pk_mul, pk_sub, nI_shl1, nI_or, nI_half2, nI_min2, la_put_eq, la_up, lr_same, lr_ne, lu_same, lu_ne, not_true_eq_false, not_false_eq_true])
                  · refine ih2 (f + 1) q (by omega) ?_
                    rw [hst, sp_dn_f (by omega)]
                  · exact ih2 (f + 1) (nI (10 * d + f), all - c) (by omega) (by rw [hst, show max c (all - c) = all - c by omega, sp_dn_t (by omega)])
                  · refine ih2 (f + 1) q (by omega) ?_
                    rw [hst, sp_dn_f (by omega)]
                  · exact ih2 (f + 1) (nI (10 * d + f), c) (by omega) (by rw [hst, show max c (all - c) = c by omega, sp_dn_t (by omega)])
                | succ k3 ih3 =>
                  intro y c hy hc
                  have ekr := hkr y (by omega) (4 * d + f) (by omega) (by omega)
                  rw [← Nat.add_assoc] at ekr
                  have hkb2 : sp_kb (lu N 3 x y) (N 4 x) (4 * d + f) < 2 := Nat.mod_lt _ (by decide)
                  have hst3 : sp_tally N x lf (y + 1) (4 * d + f) = c + (if lf / 2 ^ y % 2 = 1 then sp_kb (lu N 3 x y) (N 4 x) (4 * d + f) else 0) := by
                    rw [hc]; rfl
                  refine hK [(43, [0, 2, 3, 4, 5, 6, 7]), (53, [0, 2, 3, 4, 5, 6, 7, 8]), (68, [0, 2, 3, 4, 5, 6, 7, 8, 9, 10])] 60 _ _ ?_
                  conv => whnf
                  repeat' (first
                    | (refine ⟨fun c9 => ?_, fun c9 => ?_⟩ <;> (try simp (disch := omega) only [nI_leI, nI_ltI, nI_eq, nz_eq, nz_lt, nz_gt, nz_le, nz_ge, nz_00, nz_n1, nI_add, pk_mul, pk_sub, nI_shl1, nI_or, nI_half2, nI_min2, la_put_eq, la_up, lr_same, lr_ne, lu_same, lu_ne, not_true_eq_false, not_false_eq_true, nI_bit, ekr] at c9) <;> first | (exfalso; omega) | conv => whnf)
                    | (refine ⟨_, rfl, by omega, ?_⟩; conv => whnf)
                    | (refine ⟨_, rfl, rfl, rfl, by decide, by decide, ?_⟩; conv => whnf)
                    | (refine ⟨_, by (simp (disch := omega) only [nI_leI, nI_ltI, nI_eq, nz_eq, nz_lt, nz_gt, nz_le, nz_ge, nz_00, nz_n1, nI_add, pk_mul, pk_sub, nI_shl1, nI_or, nI_half2, nI_min2, la_put_eq, la_up, lr_same, lr_ne, lu_same, lu_ne, not_true_eq_false, not_false_eq_true, nI_bit, ekr]; rfl), by omega, ?_⟩; conv => whnf)
                    | (apply And.intro; (first | assumption | decide | (simp (disch := omega) only [nI_leI, nI_ltI, nI_eq, nz_eq, nz_lt, nz_gt, nz_le, nz_ge, nz_00, nz_n1, nI_add, pk_mul, pk_sub, nI_shl1, nI_or, nI_half2, nI_min2, la_put_eq, la_up, lr_same, lr_ne, lu_same, lu_ne, not_true_eq_false, not_false_eq_true, nI_bit, ekr]; omega)); conv => whnf))
                  all_goals (try simp (disch := omega) only [nI_leI, nI_ltI, nI_eq, nz_eq, nz_lt, nz_gt, nz_le, nz_ge, nz_00, nz_n1, nI_add, pk_mul, pk_sub, nI_shl1, nI_or, nI_half2, nI_min2, la_put_eq, la_up, lr_same, lr_ne, lu_same, lu_ne, not_true_eq_false, not_false_eq_true, nI_bit, ekr])
                  · refine ih3 (y + 1) _ (by omega) ?_
                    rw [hst3, if_neg (by omega)]
                  · refine ih3 (y + 1) _ (by omega) ?_
                    rw [hst3, if_pos (by omega)]
              refine hK [(43, [0, 2, 3, 4, 5, 6, 7]), (53, [0, 2, 3, 4, 5, 6, 7, 8]), (68, [0, 2, 3, 4, 5, 6, 7, 8, 9, 10])] 60 _ _ ?_
              conv => whnf
              repeat' (first
                | (refine ⟨fun c9 => ?_, fun c9 => ?_⟩ <;> (try simp (disch := omega) only [nI_leI, nI_ltI, nI_eq, nz_eq, nz_lt, nz_gt, nz_le, nz_ge, nz_00, nz_n1, nI_add, pk_mul, pk_sub, nI_shl1, nI_or, nI_half2, nI_min2, la_put_eq, la_up, lr_same, lr_ne, lu_same, lu_ne, not_true_eq_false, not_false_eq_true, hN0] at c9) <;> first | (exfalso; omega) | conv => whnf)
                | (refine ⟨_, rfl, by omega, ?_⟩; conv => whnf)
                | (refine ⟨_, rfl, rfl, rfl, by decide, by decide, ?_⟩; conv => whnf)
                | (refine ⟨_, by (simp (disch := omega) only [nI_leI, nI_ltI, nI_eq, nz_eq, nz_lt, nz_gt, nz_le, nz_ge, nz_00, nz_n1, nI_add, pk_mul, pk_sub, nI_shl1, nI_or, nI_half2, nI_min2, la_put_eq, la_up, lr_same, lr_ne, lu_same, lu_ne, not_true_eq_false, not_false_eq_true, hN0]; rfl), by omega, ?_⟩; conv => whnf)
                | (apply And.intro; (first | assumption | decide | (simp (disch := omega) only [nI_leI, nI_ltI, nI_eq, nz_eq, nz_lt, nz_gt, nz_le, nz_ge, nz_00, nz_n1, nI_add, pk_mul, pk_sub, nI_shl1, nI_or, nI_half2, nI_min2, la_put_eq, la_up, lr_same, lr_ne, lu_same, lu_ne, not_true_eq_false, not_false_eq_true, hN0]; omega)); conv => whnf))
              all_goals (try simp (disch := omega) only [nI_leI, nI_ltI, nI_eq, nz_eq, nz_lt, nz_gt, nz_le, nz_ge, nz_00, nz_n1, nI_add, pk_mul, pk_sub, nI_shl1, nI_or, nI_half2, nI_min2, la_put_eq, la_up, lr_same, lr_ne, lu_same, lu_ne, not_true_eq_false, not_false_eq_true, hN0])
              exact in3 4 0 0 (by omega) rfl
          refine hK [(43, [0, 2, 3, 4, 5, 6, 7]), (53, [0, 2, 3, 4, 5, 6, 7, 8]), (68, [0, 2, 3, 4, 5, 6, 7, 8, 9, 10])] 60 _ _ ?_
          conv => whnf
          repeat' (first
            | (refine ⟨fun c9 => ?_, fun c9 => ?_⟩ <;> (try simp (disch := omega) only [nI_leI, nI_ltI, nI_eq, nz_eq, nz_lt, nz_gt, nz_le, nz_ge, nz_00, nz_n1, nI_add, pk_mul, pk_sub, nI_shl1, nI_or, nI_half2, nI_min2, la_put_eq, la_up, lr_same, lr_ne, lu_same, lu_ne, not_true_eq_false, not_false_eq_true] at c9) <;> first | (exfalso; omega) | conv => whnf)
            | (refine ⟨_, rfl, by omega, ?_⟩; conv => whnf)
            | (refine ⟨_, rfl, rfl, rfl, by decide, by decide, ?_⟩; conv => whnf)
            | (refine ⟨_, by (simp (disch := omega) only [nI_leI, nI_ltI, nI_eq, nz_eq, nz_lt, nz_gt, nz_le, nz_ge, nz_00, nz_n1, nI_add, pk_mul, pk_sub, nI_shl1, nI_or, nI_half2, nI_min2, la_put_eq, la_up, lr_same, lr_ne, lu_same, lu_ne, not_true_eq_false, not_false_eq_true]; rfl), by omega, ?_⟩; conv => whnf)
            | (apply And.intro; (first | assumption | decide | (simp (disch := omega) only [nI_leI, nI_ltI, nI_eq, nz_eq, nz_lt, nz_gt, nz_le, nz_ge, nz_00, nz_n1, nI_add, pk_mul, pk_sub, nI_shl1, nI_or, nI_half2, nI_min2, la_put_eq, la_up, lr_same, lr_ne, lu_same, lu_ne, not_true_eq_false, not_false_eq_true]; omega)); conv => whnf))
          all_goals (try simp (disch := omega) only [nI_leI, nI_ltI, nI_eq, nz_eq, nz_lt, nz_gt, nz_le, nz_ge, nz_00, nz_n1, nI_add, pk_mul, pk_sub, nI_shl1, nI_or, nI_half2, nI_min2, la_put_eq, la_up, lr_same, lr_ne, lu_same, lu_ne, not_true_eq_false, not_false_eq_true])
          exact inner (N 0 0) 0 p (by omega) rfl
      conv => whnf
      repeat' (first
        | (refine ⟨fun c9 => ?_, fun c9 => ?_⟩ <;> (try simp (disch := omega) only [nI_leI, nI_ltI, nI_eq, nz_eq, nz_lt, nz_gt, nz_le, nz_ge, nz_00, nz_n1, nI_add, pk_mul, pk_sub, nI_shl1, nI_or, nI_half2, nI_min2, la_put_eq, la_up, lr_same, lr_ne, lu_same, lu_ne, not_true_eq_false, not_false_eq_true] at c9) <;> first | (exfalso; omega) | conv => whnf)
        | (refine ⟨_, rfl, by omega, ?_⟩; conv => whnf)
        | (refine ⟨_, rfl, rfl, rfl, by decide, by decide, ?_⟩; conv => whnf)
        | (refine ⟨_, by (simp (disch := omega) only [nI_leI, nI_ltI, nI_eq, nz_eq, nz_lt, nz_gt, nz_le, nz_ge, nz_00, nz_n1, nI_add, pk_mul, pk_sub, nI_shl1, nI_or, nI_half2, nI_min2, la_put_eq, la_up, lr_same, lr_ne, lu_same, lu_ne, not_true_eq_false, not_false_eq_true]; rfl), by omega, ?_⟩; conv => whnf)
        | (apply And.intro; (first | assumption | decide | (simp (disch := omega) only [nI_leI, nI_ltI, nI_eq, nz_eq, nz_lt, nz_gt, nz_le, nz_ge, nz_00, nz_n1, nI_add, pk_mul, pk_sub, nI_shl1, nI_or, nI_half2, nI_min2, la_put_eq, la_up, lr_same, lr_ne, lu_same, lu_ne, not_true_eq_false, not_false_eq_true]; omega)); conv => whnf))
      all_goals (try simp (disch := omega) only [nI_leI, nI_ltI, nI_eq, nz_eq, nz_lt, nz_gt, nz_le, nz_ge, nz_00, nz_n1, nI_add, pk_mul, pk_sub, nI_shl1, nI_or, nI_half2, nI_min2, la_put_eq, la_up, lr_same, lr_ne, lu_same, lu_ne, not_true_eq_false, not_false_eq_true])
      exact outer 31 0 (-4, all) (by omega) rfl
    · conv => whnf
      repeat' (first
        | (refine ⟨fun c9 => ?_, fun c9 => ?_⟩ <;> (try simp (disch := omega) only [nI_leI, nI_ltI, nI_eq, nz_eq, nz_lt, nz_gt, nz_le, nz_ge, nz_00, nz_n1, nI_add, pk_mul, pk_sub, nI_shl1, nI_or, nI_half2, nI_min2, la_put_eq, la_up, lr_same, lr_ne, lu_same, lu_ne, not_true_eq_false, not_false_eq_true] at c9) <;> first | (exfalso; omega) | conv => whnf)
        | (refine ⟨_, rfl, by omega, ?_⟩; conv => whnf)
        | (refine ⟨_, rfl, rfl, rfl, by decide, by decide, ?_⟩; conv => whnf)
        | (refine ⟨_, by (simp (disch := omega) only [nI_leI, nI_ltI, nI_eq, nz_eq, nz_lt, nz_gt, nz_le, nz_ge, nz_00, nz_n1, nI_add, pk_mul, pk_sub, nI_shl1, nI_or, nI_half2, nI_min2, la_put_eq, la_up, lr_same, lr_ne, lu_same, lu_ne, not_true_eq_false, not_false_eq_true]; rfl), by omega, ?_⟩; conv => whnf)
        | (apply And.intro; (first | assumption | decide | (simp (disch := omega) only [nI_leI, nI_ltI, nI_eq, nz_eq, nz_lt, nz_gt, nz_le, nz_ge, nz_00, nz_n1, nI_add, pk_mul, pk_sub, nI_shl1, nI_or, nI_half2, nI_min2, la_put_eq, la_up, lr_same, lr_ne, lu_same, lu_ne, not_true_eq_false, not_false_eq_true]; omega)); conv => whnf))
      all_goals (try simp (disch := omega) only [nI_leI, nI_ltI, nI_eq, nz_eq, nz_lt, nz_gt, nz_le, nz_ge, nz_00, nz_n1, nI_add, pk_mul, pk_sub, nI_shl1, nI_or, nI_half2, nI_min2, la_put_eq, la_up, lr_same, lr_ne, lu_same, lu_ne, not_true_eq_false, not_false_eq_true])
      refine hret _ _ ⟨mf_self _, ?_⟩
      rw [a_ask, ci_f (fun q => hc q.2)]
  · conv => whnf
    repeat' (first
      | (refine ⟨fun c9 => ?_, fun c9 => ?_⟩ <;> (try simp (disch := omega) only [nI_leI, nI_ltI, nI_eq, nz_eq, nz_lt, nz_gt, nz_le, nz_ge, nz_00, nz_n1, nI_add, pk_mul, pk_sub, nI_shl1, nI_or, nI_half2, nI_min2, la_put_eq, la_up, lr_same, lr_ne, lu_same, lu_ne, not_true_eq_false, not_false_eq_true] at c9) <;> first | (exfalso; omega) | conv => whnf)
      | (refine ⟨_, rfl, by omega, ?_⟩; conv => whnf)
      | (refine ⟨_, rfl, rfl, rfl, by decide, by decide, ?_⟩; conv => whnf)
      | (refine ⟨_, by (simp (disch := omega) only [nI_leI, nI_ltI, nI_eq, nz_eq, nz_lt, nz_gt, nz_le, nz_ge, nz_00, nz_n1, nI_add, pk_mul, pk_sub, nI_shl1, nI_or, nI_half2, nI_min2, la_put_eq, la_up, lr_same, lr_ne, lu_same, lu_ne, not_true_eq_false, not_false_eq_true]; rfl), by omega, ?_⟩; conv => whnf)
      | (apply And.intro; (first | assumption | decide | (simp (disch := omega) only [nI_leI, nI_ltI, nI_eq, nz_eq, nz_lt, nz_gt, nz_le, nz_ge, nz_00, nz_n1, nI_add, pk_mul, pk_sub, nI_shl1, nI_or, nI_half2, nI_min2, la_put_eq, la_up, lr_same, lr_ne, lu_same, lu_ne, not_true_eq_false, not_false_eq_true]; omega)); conv => whnf))
    all_goals (try simp (disch := omega) only [nI_leI, nI_ltI, nI_eq, nz_eq, nz_lt, nz_gt, nz_le, nz_ge, nz_00, nz_n1, nI_add, pk_mul, pk_sub, nI_shl1, nI_or, nI_half2, nI_min2, la_put_eq, la_up, lr_same, lr_ne, lu_same, lu_ne, not_true_eq_false, not_false_eq_true])
    refine hret _ _ ⟨mf_self _, ?_⟩
    rw [a_ask, ci_f (fun q => hc q.1)]
theorem M_X5_ask : pm_MT yX5_ask cX5_ask 11 1 8 P_X5_ask (pm_pi Q_X5_ask) := pm_met k_X5_ask (by decide) rfl (by
  rintro ⟨g0, g1, g2, g3, g4, g5⟩ av h hp
  rw [hp.1]
  exact Nat.le_of_ble_eq_true rfl) pf_X5_ask
theorem rc_X5_ask : ∀ g av h, P_X5_ask g av h → ∃ i t, av = .inr (.inr (5, i, 0)) :: t := by
  rintro ⟨g0, g1, g2, g3, g4, g5⟩ av h hp
  exact ⟨_, _, hp.1⟩
