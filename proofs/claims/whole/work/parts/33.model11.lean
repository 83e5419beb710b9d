/-! THE MODEL: what it was. -/
def ms_at (h : pm_H) (m : Nat) (S : LD) : Prop := h 5 0 0 19 = nI m ∧ ∀ e, e < m → h 5 0 6 (4 * e) = nI (S 0 e) ∧ h 5 0 6 (4 * e + 1) = nI (S 1 e) ∧ h 5 0 6 (4 * e + 2) = nI (S 2 e) ∧ h 5 0 6 (4 * e + 3) = nI (S 3 e)
theorem ms_mf {h0 h : pm_H} {m : Nat} {S : LD} (a : mf h0 h) (b : ms_at h0 m S) : ms_at h m S := by
  refine ⟨by rw [a _ _ _ _ (by omega)]; exact b.1, fun e he => ?_⟩
  obtain ⟨h1, h2, h3, h4⟩ := b.2 e he
  exact ⟨by rw [a _ _ _ _ (by omega)]; exact h1, by rw [a _ _ _ _ (by omega)]; exact h2, by rw [a _ _ _ _ (by omega)]; exact h3, by rw [a _ _ _ _ (by omega)]; exact h4⟩
theorem ms_pg {h : pm_H} {pg m : Nat} {Y S : LD} (b : ms_at h m S) : ms_at (pg_put h pg Y) m S := by
  refine ⟨by rw [pg_ne (by omega)]; exact b.1, fun e he => ?_⟩
  obtain ⟨h1, h2, h3, h4⟩ := b.2 e he
  exact ⟨by rw [pg_ne (by omega)]; exact h1, by rw [pg_ne (by omega)]; exact h2, by rw [pg_ne (by omega)]; exact h3, by rw [pg_ne (by omega)]; exact h4⟩
theorem mf_kb {h0 h : pm_H} {j : Nat} {v : Int32} (a : mf h0 h) : mf h0 (pm_up h 5 0 7 j v) := fun c i s k hn => by
  rw [pm_up_ne (by omega)]
  exact a c i s k hn
theorem kb_eq {L : LD} {f s : Nat} : sp_sub true f L / 2 ^ s % 2 = sp_knowers L s / 2 ^ f % 2 := by
  have h1 := @lore_bt L f s
  have h2 : sp_knowers L s / 2 ^ f % 2 = 1 ↔ sp_kn L f s := by rw [bt_iff, knowers_bit]
  by_cases h : sp_kn L f s
  · rw [h1.mpr h, h2.mpr h]
  · have a1 : ¬ sp_sub true f L / 2 ^ s % 2 = 1 := fun q => h (h1.mp q)
    have a2 : ¬ sp_knowers L s / 2 ^ f % 2 = 1 := fun q => h (h2.mp q)
    omega
theorem sp_kb_at {N : LD} {s k f : Nat} (hf : f < 4) : sp_kb N s (4 * k + f) = sp_sub true f (sp_lives N k) / 2 ^ s % 2 := by
  rw [kb_eq]
  unfold sp_kb
  rw [show (4 * k + f) / 4 = k by omega, show (4 * k + f) % 4 = f by omega]
/-- who knows, in row r, up to j -/
def kr (h : pm_H) (r n : Nat) (N : LD) (s c : Nat) : Prop := ∀ j, j < c → j % 4 < n → h 5 0 7 (124 * r + j) = nI (sp_kb N s j)
def ko (h0 h : pm_H) (r : Nat) : Prop := ∀ j, ¬ (124 * r ≤ j ∧ j < 124 * r + 124) → h 5 0 7 j = h0 5 0 7 j
def P_X5_isAsSeen : Nat × Nat × LD × Nat × LD × pm_H → List pm_V → pm_H → Prop := fun g av h => match g with
  | (r, s, Y, m, S, h0) => av = [vR 5 0 0, vI (nI r), vI (nI s)] ∧ h = h0 ∧ md h0 Y ∧ Y 0 10 ≤ 999 ∧ ms_at h0 m S ∧ se_ok m S ∧ r ≤ 3 ∧ s ≤ 9
def Q_X5_isAsSeen : Nat × Nat × LD × Nat × LD × pm_H → Int32 → pm_H → Prop := fun g v h => match g with
  | (r, s, N, m, S, h0) => (mf h0 h ∧ kr h r (N 0 0) N s 124 ∧ ko h0 h r) ∧ ((sp_fits N m S ∧ v = nI 1) ∨ (¬ sp_fits N m S ∧ v = nI 0))
def T_X5_isAsSeen : List (Nat × pm_T) := [
  (0, i_al 0 1),
  (1, i_c (nI 0) 2),
  (2, i_c (nI 196) 5),
  (5, i_cv 3 P_X5_copies Q_X5_copies 8),
  (8, i_c (nI 1) 9),
  (9, i_is 3 10),
  (10, i_c (nI 0) 11),
  (11, i_is 4 13),
  (13, i_il 4 15),
  (15, i_c (nI 30) 17),
  (17, i_icgt 177 20),
  (20, i_c (nI 0) 21),
  (21, i_is 5 23),
  (23, i_il 5 25),
  (25, i_al 0 26),
  (26, i_gi 5 1 29),
  (29, i_icge 68 32),
  (32, i_al 0 33),
  (33, i_gr 5 (fun i => (5, i, 7)) 36),
  (36, i_c (nI 124) 38),
  (38, i_il 1 39),
  (39, i_imul 40),
  (40, i_c (nI 4) 41),
  (41, i_il 4 43),
  (43, i_imul 44),
  (44, i_iadd 45),
  (45, i_il 5 47),
  (47, i_iadd 48),
  (48, i_al 0 49),
  (49, i_c (nI 196) 52),
  (52, i_il 5 54),
  (54, i_ci 3 P_X5_subjectsOn Q_X5_subjectsOn 57),
  (57, i_il 2 58),
  (58, i_ishr 59),
  (59, i_c (nI 1) 60),
  (60, i_iand 61),
  (61, i_ias 62),
  (62, i_inc 5 (nI 1) 65),
  (65, i_go 23),
  (68, i_c (nI 0) 69),
  (69, i_is 5 71),
  (71, i_il 5 73),
  (73, i_al 0 74),
  (74, i_gi 5 19 77),
  (77, i_icge 156 80),
  (80, i_il 3 81),
  (81, i_ifeq 148 84),
  (84, i_al 0 85),
  (85, i_gr 5 (fun i => (5, i, 6)) 88),
  (88, i_c (nI 4) 89),
  (89, i_il 5 91),
  (91, i_imul 92),
  (92, i_ia 93),
  (93, i_il 4 95),
  (95, i_icne 144 98),
  (98, i_al 0 99),
  (99, i_c (nI 196) 102),
  (102, i_al 0 103),
  (103, i_gr 5 (fun i => (5, i, 6)) 106),
  (106, i_c (nI 4) 107),
  (107, i_il 5 109),
  (109, i_imul 110),
  (110, i_c (nI 1) 111),
  (111, i_iadd 112),
  (112, i_ia 113),
  (113, i_ci 3 P_X5_subjectsOn Q_X5_subjectsOn 116),
  (116, i_al 0 117),
  (117, i_gr 5 (fun i => (5, i, 6)) 120),
  (120, i_c (nI 4) 121),
  (121, i_il 5 123),
  (123, i_imul 124),
  (124, i_c (nI 2) 125),
  (125, i_iadd 126),
  (126, i_ia 127),
  (127, i_ishr 128),
  (128, i_c (nI 1) 129),
  (129, i_iand 130),
  (130, i_al 0 131),
  (131, i_gr 5 (fun i => (5, i, 6)) 134),
  (134, i_c (nI 4) 135),
  (135, i_il 5 137),
  (137, i_imul 138),
  (138, i_c (nI 3) 139),
  (139, i_iadd 140),
  (140, i_ia 141),
  (141, i_icne 148 144),
  (144, i_c (nI 1) 145),
  (145, i_go 149),
  (148, i_c (nI 0) 149),
  (149, i_is 3 150),
  (150, i_inc 5 (nI 1) 153),
  (153, i_go 71),
  (156, i_al 0 157),
  (157, i_c (nI 196) 160),
  (160, i_al 0 161),
  (161, i_c (nI 196) 164),
  (164, i_ci 2 P_X5_dampOn Q_X5_dampOn 167),
  (167, i_ci 3 P_X5_dayOn Q_X5_dayOn 170),
  (170, i_pop 171),
  (171, i_inc 4 (nI 1) 174),
  (174, i_go 13),
  (177, i_il 3 178),
  (178, i_zr)]
theorem k_X5_isAsSeen : ∀ q ∈ T_X5_isAsSeen, pm_sd RX5 cX5_isAsSeen 6 6 3 q.1 q.2 := by
  unfold T_X5_isAsSeen
  refine pm_cn (sd_aln (k := 0) (by decide +kernel) rfl rfl) ?_
  refine pm_cn (sd_iconst (z := 0) (by decide +kernel) (by decide +kernel) rfl) ?_
  refine pm_cn (sd_sipush (z := 196) (by decide +kernel) (by decide +kernel) rfl) ?_
  refine pm_cn (sd_cvv M_X5_copies cd_X5_copies rc_X5_copies cl5_ ml_X5_190 im_X5_copies se_X5_copies nt_X5 (by decide +kernel) (by omega) (by decide) (by decide +kernel) rfl) ?_
  refine pm_cn (sd_iconst (z := 1) (by decide +kernel) (by decide +kernel) rfl) ?_
  refine pm_cn (sd_isn (k := 3) (by decide +kernel) rfl rfl (by decide)) ?_
  refine pm_cn (sd_iconst (z := 0) (by decide +kernel) (by decide +kernel) rfl) ?_
  refine pm_cn (sd_is (by decide +kernel) rfl (by decide)) ?_
  refine pm_cn (sd_il (by decide +kernel) rfl) ?_
  refine pm_cn (sd_bipush (z := 30) (by decide +kernel) (by decide +kernel) rfl) ?_
  refine pm_cn (sd_icgt (off := 160) (by decide +kernel) (by decide) rfl) ?_
  refine pm_cn (sd_iconst (z := 0) (by decide +kernel) (by decide +kernel) rfl) ?_
  refine pm_cn (sd_is (by decide +kernel) rfl (by decide)) ?_
  refine pm_cn (sd_il (by decide +kernel) rfl) ?_
  refine pm_cn (sd_aln (k := 0) (by decide +kernel) rfl rfl) ?_
  refine pm_cn (sd_gi cl5_ in5_ (by decide) (fun _ => rfl) fl_X5_126 (by decide +kernel) rfl) ?_
  refine pm_cn (sd_icge (off := 39) (by decide +kernel) (by decide) rfl) ?_
  refine pm_cn (sd_aln (k := 0) (by decide +kernel) rfl rfl) ?_
  refine pm_cn (sd_gr cl5_ in5_ (j := 20) (by decide) (fun _ => rfl) fl_X5_28 (by decide +kernel) rfl) ?_
  refine pm_cn (sd_bipush (z := 124) (by decide +kernel) (by decide +kernel) rfl) ?_
  refine pm_cn (sd_iln (k := 1) (by decide +kernel) rfl rfl) ?_
  refine pm_cn (sd_imul (by decide +kernel) rfl) ?_
  refine pm_cn (sd_iconst (z := 4) (by decide +kernel) (by decide +kernel) rfl) ?_
  refine pm_cn (sd_il (by decide +kernel) rfl) ?_
  refine pm_cn (sd_imul (by decide +kernel) rfl) ?_
  refine pm_cn (sd_iadd (by decide +kernel) rfl) ?_
  refine pm_cn (sd_il (by decide +kernel) rfl) ?_
  refine pm_cn (sd_iadd (by decide +kernel) rfl) ?_
  refine pm_cn (sd_aln (k := 0) (by decide +kernel) rfl rfl) ?_
  refine pm_cn (sd_sipush (z := 196) (by decide +kernel) (by decide +kernel) rfl) ?_
  refine pm_cn (sd_il (by decide +kernel) rfl) ?_
  refine pm_cn (sd_civ M_X5_subjectsOn (by decide) cd_X5_subjectsOn rc_X5_subjectsOn cl5_ ml_X5_134 im_X5_subjectsOn se_X5_subjectsOn nt_X5 (by decide +kernel) (by omega) (by decide) (by decide +kernel) rfl) ?_
  refine pm_cn (sd_iln (k := 2) (by decide +kernel) rfl rfl) ?_
  refine pm_cn (sd_ishr (by decide +kernel) rfl) ?_
  refine pm_cn (sd_iconst (z := 1) (by decide +kernel) (by decide +kernel) rfl) ?_
  refine pm_cn (sd_iand (by decide +kernel) rfl) ?_
  refine pm_cn (sd_ias (by decide +kernel) rfl) ?_
  refine pm_cn (sd_inc (z := 1) (by decide +kernel) (by decide +kernel) rfl (by decide)) ?_
  refine pm_cn (sd_go (off := -42) (by decide +kernel) (by decide)) ?_
  refine pm_cn (sd_iconst (z := 0) (by decide +kernel) (by decide +kernel) rfl) ?_
  refine pm_cn (sd_is (by decide +kernel) rfl (by decide)) ?_
  refine pm_cn (sd_il (by decide +kernel) rfl) ?_
  refine pm_cn (sd_aln (k := 0) (by decide +kernel) rfl rfl) ?_
  refine pm_cn (sd_gi cl5_ in5_ (by decide) (fun _ => rfl) fl_X5_129 (by decide +kernel) rfl) ?_
  refine pm_cn (sd_icge (off := 79) (by decide +kernel) (by decide) rfl) ?_
  refine pm_cn (sd_iln (k := 3) (by decide +kernel) rfl rfl) ?_
  refine pm_cn (sd_ifeq (off := 67) (by decide +kernel) (by decide) rfl) ?_
  refine pm_cn (sd_aln (k := 0) (by decide +kernel) rfl rfl) ?_
  refine pm_cn (sd_gr cl5_ in5_ (j := 18) (by decide) (fun _ => rfl) fl_X5_25 (by decide +kernel) rfl) ?_
  refine pm_cn (sd_iconst (z := 4) (by decide +kernel) (by decide +kernel) rfl) ?_
  refine pm_cn (sd_il (by decide +kernel) rfl) ?_
  refine pm_cn (sd_imul (by decide +kernel) rfl) ?_
  refine pm_cn (sd_ia (by decide +kernel) rfl) ?_
  refine pm_cn (sd_il (by decide +kernel) rfl) ?_
  refine pm_cn (sd_icne (off := 49) (by decide +kernel) (by decide) rfl) ?_
  refine pm_cn (sd_aln (k := 0) (by decide +kernel) rfl rfl) ?_
  refine pm_cn (sd_sipush (z := 196) (by decide +kernel) (by decide +kernel) rfl) ?_
  refine pm_cn (sd_aln (k := 0) (by decide +kernel) rfl rfl) ?_
  refine pm_cn (sd_gr cl5_ in5_ (j := 18) (by decide) (fun _ => rfl) fl_X5_25 (by decide +kernel) rfl) ?_
  refine pm_cn (sd_iconst (z := 4) (by decide +kernel) (by decide +kernel) rfl) ?_
  refine pm_cn (sd_il (by decide +kernel) rfl) ?_
  refine pm_cn (sd_imul (by decide +kernel) rfl) ?_
  refine pm_cn (sd_iconst (z := 1) (by decide +kernel) (by decide +kernel) rfl) ?_
  refine pm_cn (sd_iadd (by decide +kernel) rfl) ?_
  refine pm_cn (sd_ia (by decide +kernel) rfl) ?_
  refine pm_cn (sd_civ M_X5_subjectsOn (by decide) cd_X5_subjectsOn rc_X5_subjectsOn cl5_ ml_X5_134 im_X5_subjectsOn se_X5_subjectsOn nt_X5 (by decide +kernel) (by omega) (by decide) (by decide +kernel) rfl) ?_
  refine pm_cn (sd_aln (k := 0) (by decide +kernel) rfl rfl) ?_
  refine pm_cn (sd_gr cl5_ in5_ (j := 18) (by decide) (fun _ => rfl) fl_X5_25 (by decide +kernel) rfl) ?_
  refine pm_cn (sd_iconst (z := 4) (by decide +kernel) (by decide +kernel) rfl) ?_
  refine pm_cn (sd_il (by decide +kernel) rfl) ?_
  refine pm_cn (sd_imul (by decide +kernel) rfl) ?_
  refine pm_cn (sd_iconst (z := 2) (by decide +kernel) (by decide +kernel) rfl) ?_
  refine pm_cn (sd_iadd (by decide +kernel) rfl) ?_
  refine pm_cn (sd_ia (by decide +kernel) rfl) ?_
  refine pm_cn (sd_ishr (by decide +kernel) rfl) ?_
  refine pm_cn (sd_iconst (z := 1) (by decide +kernel) (by decide +kernel) rfl) ?_
  refine pm_cn (sd_iand (by decide +kernel) rfl) ?_
  refine pm_cn (sd_aln (k := 0) (by decide +kernel) rfl rfl) ?_
  refine pm_cn (sd_gr cl5_ in5_ (j := 18) (by decide) (fun _ => rfl) fl_X5_25 (by decide +kernel) rfl) ?_
  refine pm_cn (sd_iconst (z := 4) (by decide +kernel) (by decide +kernel) rfl) ?_
  refine pm_cn (sd_il (by decide +kernel) rfl) ?_
  refine pm_cn (sd_imul (by decide +kernel) rfl) ?_
  refine pm_cn (sd_iconst (z := 3) (by decide +kernel) (by decide +kernel) rfl) ?_
  refine pm_cn (sd_iadd (by decide +kernel) rfl) ?_
  refine pm_cn (sd_ia (by decide +kernel) rfl) ?_
  refine pm_cn (sd_icne (off := 7) (by decide +kernel) (by decide) rfl) ?_
  refine pm_cn (sd_iconst (z := 1) (by decide +kernel) (by decide +kernel) rfl) ?_
  refine pm_cn (sd_go (off := 4) (by decide +kernel) (by decide)) ?_
  refine pm_cn (sd_iconst (z := 0) (by decide +kernel) (by decide +kernel) rfl) ?_
  refine pm_cn (sd_isn (k := 3) (by decide +kernel) rfl rfl (by decide)) ?_
  refine pm_cn (sd_inc (z := 1) (by decide +kernel) (by decide +kernel) rfl (by decide)) ?_
  refine pm_cn (sd_go (off := -82) (by decide +kernel) (by decide)) ?_
  refine pm_cn (sd_aln (k := 0) (by decide +kernel) rfl rfl) ?_
  refine pm_cn (sd_sipush (z := 196) (by decide +kernel) (by decide +kernel) rfl) ?_
  refine pm_cn (sd_aln (k := 0) (by decide +kernel) rfl rfl) ?_
  refine pm_cn (sd_sipush (z := 196) (by decide +kernel) (by decide +kernel) rfl) ?_
  refine pm_cn (sd_civ M_X5_dampOn (by decide) cd_X5_dampOn rc_X5_dampOn cl5_ ml_X5_150 im_X5_dampOn se_X5_dampOn nt_X5 (by decide +kernel) (by omega) (by decide) (by decide +kernel) rfl) ?_
  refine pm_cn (sd_civ M_X5_dayOn (by decide) cd_X5_dayOn rc_X5_dayOn cl5_ ml_X5_187 im_X5_dayOn se_X5_dayOn nt_X5 (by decide +kernel) (by omega) (by decide) (by decide +kernel) rfl) ?_
  refine pm_cn (sd_pop (by decide +kernel) rfl) ?_
  refine pm_cn (sd_inc (z := 1) (by decide +kernel) (by decide +kernel) rfl (by decide)) ?_
  refine pm_cn (sd_go (off := -161) (by decide +kernel) (by decide)) ?_
  refine pm_cn (sd_iln (k := 3) (by decide +kernel) rfl rfl) ?_
  refine pm_cn (sd_zr (by decide +kernel)) ?_
  exact fun _ h => absurd h List.not_mem_nil
set_option maxHeartbeats 800000 in
set_option maxRecDepth 100000 in
theorem pf_X5_isAsSeen : pm_pf T_X5_isAsSeen P_X5_isAsSeen (pm_pi Q_X5_isAsSeen) := by
  rintro ⟨r, s, N, m, S, h0⟩ av h K hK ⟨rfl, rfl, ⟨hP, wN, hF⟩, hd, hS, hSo, hr, hs⟩ hret
  have w1 := wN.1
  have hm6 := hSo.1
  show K (some 0) ([(0, vR 5 0 0), (1, vI (nI r)), (2, vI (nI s))], [], h)
  have loop1 : ∀ n k t H, k + n = 31 → t ≤ 1 → (t = 1 ↔ ∀ d, d < k → sp_fb (sp_lives N d) m S d) → mf h H → pg_at H 196 (sp_lives N k) → kr H r (N 0 0) N s (4 * k) → ko h H r → K (some 13) ([(0, vR 5 0 0), (1, vI (nI r)), (2, vI (nI s)), (3, vI (nI t)), (4, vI (nI k))], [], H) := by
    intro n
    induction n with
    | zero =>
      intro k t H hk ht hti hH hp hkr hko
      refine hK [(13, [0, 1, 2, 3, 4]), (23, [0, 1, 2, 3, 4, 5]), (71, [0, 1, 2, 3, 4, 5])] 40 _ _ ?_
      conv => whnf
      repeat' (first
        | (refine ⟨fun c9 => ?_, fun c9 => ?_⟩ <;> (try simp (disch := omega) only [nI_leI, nI_ltI, nI_eq, nz_eq, nz_lt, nz_gt, nz_le, nz_ge, nz_00, nz_n1, nI_add, pk_mul, pk_sub, nI_shl1, nI_or, nI_half2, nI_min2, la_put_eq, la_up, lr_same, lr_ne, lu_same, lu_ne, not_true_eq_false, not_false_eq_true] at c9) <;> first | (exfalso; omega) | conv => whnf)
        | (refine ⟨_, rfl, by omega, ?_⟩; conv => whnf)
        | (refine ⟨_, rfl, rfl, rfl, by decide, by decide, ?_⟩; conv => whnf)
        | (refine ⟨_, by (simp (disch := omega) only [nI_leI, nI_ltI, nI_eq, nz_eq, nz_lt, nz_gt, nz_le, nz_ge, nz_00, nz_n1, nI_add, pk_mul, pk_sub, nI_shl1, nI_or, nI_half2, nI_min2, la_put_eq, la_up, lr_same, lr_ne, lu_same, lu_ne, not_true_eq_false, not_false_eq_true]; rfl), by omega, ?_⟩; conv => whnf)
        | (apply And.intro; (first | assumption | decide | (simp (disch := omega) only [nI_leI, nI_ltI, nI_eq, nz_eq, nz_lt, nz_gt, nz_le, nz_ge, nz_00, nz_n1, nI_add, pk_mul, pk_sub, nI_shl1, nI_or, nI_half2, nI_min2, la_put_eq, la_up, lr_same, lr_ne, lu_same, lu_ne, not_true_eq_false, not_false_eq_true]; omega)); conv => whnf))
      all_goals (try simp (disch := omega) only [nI_leI, nI_ltI, nI_eq, nz_eq, nz_lt, nz_gt, nz_le, nz_ge, nz_00, nz_n1, nI_add, pk_mul, pk_sub, nI_shl1, nI_or, nI_half2, nI_min2, la_put_eq, la_up, lr_same, lr_ne, lu_same, lu_ne, not_true_eq_false, not_false_eq_true])
      have hk31 : k = 31 := by omega
      subst hk31
      have hfi : t = 1 ↔ sp_fits N m S := by
        rw [hti]
        exact ⟨fun q d hd => q d (by omega), fun q d hd => q d (by omega)⟩
      by_cases hf : sp_fits N m S
      · have : t = 1 := hfi.mpr hf
        subst this
        exact ⟨Or.inr rfl, hret _ _ ⟨⟨hH, hkr, hko⟩, Or.inl ⟨hf, rfl⟩⟩⟩
      · have : t = 0 := by
          have : ¬ t = 1 := fun q => hf (hfi.mp q)
          omega
        subst this
        exact ⟨Or.inl rfl, hret _ _ ⟨⟨hH, hkr, hko⟩, Or.inr ⟨hf, rfl⟩⟩⟩
    | succ n ih =>
      intro k t H hk ht hti hH hp hkr hko
      have wX := la_ok_lives wN k (by omega)
      have hdd := sp_lives_day N k
      have loop3 : ∀ n3 e t3 H, e + n3 = m → t3 ≤ 1 → (t3 = 1 ↔ ((∀ d, d < k → sp_fb (sp_lives N d) m S d) ∧ ∀ e', e' < e → S 0 e' = k → (sp_kn (sp_lives N k) (S 1 e') (S 2 e') ↔ S 3 e' = 1))) → mf h H → pg_at H 196 (sp_lives N k) → kr H r (N 0 0) N s (4 * (k + 1)) → ko h H r → K (some 71) ([(0, vR 5 0 0), (1, vI (nI r)), (2, vI (nI s)), (3, vI (nI t3)), (4, vI (nI k)), (5, vI (nI e))], [], H) := by
        intro n3
        induction n3 with
        | zero =>
          intro e t3 H he ht3 hti3 hH hp hkr hko
          have eM := (ms_mf hH hS).1
          obtain ⟨a, ha⟩ := ex_nI (H 5 0 0 17)
          refine hK [(13, [0, 1, 2, 3, 4]), (23, [0, 1, 2, 3, 4, 5]), (71, [0, 1, 2, 3, 4, 5])] 40 _ _ ?_
          conv => whnf
          repeat' (first
            | (refine ⟨fun c9 => ?_, fun c9 => ?_⟩ <;> (try simp (disch := omega) only [nI_leI, nI_ltI, nI_eq, nz_eq, nz_lt, nz_gt, nz_le, nz_ge, nz_00, nz_n1, nI_add, pk_mul, pk_sub, nI_shl1, nI_or, nI_half2, nI_min2, la_put_eq, la_up, lr_same, lr_ne, lu_same, lu_ne, not_true_eq_false, not_false_eq_true, eM] at c9) <;> first | (exfalso; omega) | conv => whnf)
            | (refine ⟨_, rfl, by omega, ?_⟩; conv => whnf)
            | (refine ⟨_, rfl, rfl, rfl, by decide, by decide, ?_⟩; conv => whnf)
            | (refine ⟨_, by (simp (disch := omega) only [nI_leI, nI_ltI, nI_eq, nz_eq, nz_lt, nz_gt, nz_le, nz_ge, nz_00, nz_n1, nI_add, pk_mul, pk_sub, nI_shl1, nI_or, nI_half2, nI_min2, la_put_eq, la_up, lr_same, lr_ne, lu_same, lu_ne, not_true_eq_false, not_false_eq_true, eM]; rfl), by omega, ?_⟩; conv => whnf)
            | (apply And.intro; (first | assumption | decide | (simp (disch := omega) only [nI_leI, nI_ltI, nI_eq, nz_eq, nz_lt, nz_gt, nz_le, nz_ge, nz_00, nz_n1, nI_add, pk_mul, pk_sub, nI_shl1, nI_or, nI_half2, nI_min2, la_put_eq, la_up, lr_same, lr_ne, lu_same, lu_ne, not_true_eq_false, not_false_eq_true, eM]; omega)); conv => whnf))
          all_goals (try simp (disch := omega) only [nI_leI, nI_ltI, nI_eq, nz_eq, nz_lt, nz_gt, nz_le, nz_ge, nz_00, nz_n1, nI_add, pk_mul, pk_sub, nI_shl1, nI_or, nI_half2, nI_min2, la_put_eq, la_up, lr_same, lr_ne, lu_same, lu_ne, not_true_eq_false, not_false_eq_true, eM])
          refine ⟨(196, sp_lives N k, _), ⟨rfl, rfl, hp, by decide⟩, fun v h' hq => ?_⟩
          obtain ⟨rfl, rfl⟩ := hq
          conv => whnf
          repeat' (first
            | (refine ⟨fun c9 => ?_, fun c9 => ?_⟩ <;> (try simp (disch := omega) only [nI_leI, nI_ltI, nI_eq, nz_eq, nz_lt, nz_gt, nz_le, nz_ge, nz_00, nz_n1, nI_add, pk_mul, pk_sub, nI_shl1, nI_or, nI_half2, nI_min2, la_put_eq, la_up, lr_same, lr_ne, lu_same, lu_ne, not_true_eq_false, not_false_eq_true] at c9) <;> first | (exfalso; omega) | conv => whnf)
            | (refine ⟨_, rfl, by omega, ?_⟩; conv => whnf)
            | (refine ⟨_, rfl, rfl, rfl, by decide, by decide, ?_⟩; conv => whnf)
            | (refine ⟨_, by (simp (disch := omega) only [nI_leI, nI_ltI, nI_eq, nz_eq, nz_lt, nz_gt, nz_le, nz_ge, nz_00, nz_n1, nI_add, pk_mul, pk_sub, nI_shl1, nI_or, nI_half2, nI_min2, la_put_eq, la_up, lr_same, lr_ne, lu_same, lu_ne, not_true_eq_false, not_false_eq_true]; rfl), by omega, ?_⟩; conv => whnf)
            | (apply And.intro; (first | assumption | decide | (simp (disch := omega) only [nI_leI, nI_ltI, nI_eq, nz_eq, nz_lt, nz_gt, nz_le, nz_ge, nz_00, nz_n1, nI_add, pk_mul, pk_sub, nI_shl1, nI_or, nI_half2, nI_min2, la_put_eq, la_up, lr_same, lr_ne, lu_same, lu_ne, not_true_eq_false, not_false_eq_true]; omega)); conv => whnf))
          all_goals (try simp (disch := omega) only [nI_leI, nI_ltI, nI_eq, nz_eq, nz_lt, nz_gt, nz_le, nz_ge, nz_00, nz_n1, nI_add, pk_mul, pk_sub, nI_shl1, nI_or, nI_half2, nI_min2, la_put_eq, la_up, lr_same, lr_ne, lu_same, lu_ne, not_true_eq_false, not_false_eq_true])
          refine ⟨(196, sp_lives N k 0 8, a, sp_lives N k, _), ⟨rfl, rfl, hp, by decide, wX, wX.2.2.1, by omega, ha, by rw [mf_F hH hF, sp_lives_00]⟩, fun v h' hq => ?_⟩
          obtain ⟨rfl, rfl⟩ := hq
          conv => whnf
          repeat' (first
            | (refine ⟨fun c9 => ?_, fun c9 => ?_⟩ <;> (try simp (disch := omega) only [nI_leI, nI_ltI, nI_eq, nz_eq, nz_lt, nz_gt, nz_le, nz_ge, nz_00, nz_n1, nI_add, pk_mul, pk_sub, nI_shl1, nI_or, nI_half2, nI_min2, la_put_eq, la_up, lr_same, lr_ne, lu_same, lu_ne, not_true_eq_false, not_false_eq_true] at c9) <;> first | (exfalso; omega) | conv => whnf)
            | (refine ⟨_, rfl, by omega, ?_⟩; conv => whnf)
            | (refine ⟨_, rfl, rfl, rfl, by decide, by decide, ?_⟩; conv => whnf)
            | (refine ⟨_, by (simp (disch := omega) only [nI_leI, nI_ltI, nI_eq, nz_eq, nz_lt, nz_gt, nz_le, nz_ge, nz_00, nz_n1, nI_add, pk_mul, pk_sub, nI_shl1, nI_or, nI_half2, nI_min2, la_put_eq, la_up, lr_same, lr_ne, lu_same, lu_ne, not_true_eq_false, not_false_eq_true]; rfl), by omega, ?_⟩; conv => whnf)
            | (apply And.intro; (first | assumption | decide | (simp (disch := omega) only [nI_leI, nI_ltI, nI_eq, nz_eq, nz_lt, nz_gt, nz_le, nz_ge, nz_00, nz_n1, nI_add, pk_mul, pk_sub, nI_shl1, nI_or, nI_half2, nI_min2, la_put_eq, la_up, lr_same, lr_ne, lu_same, lu_ne, not_true_eq_false, not_false_eq_true]; omega)); conv => whnf))
          all_goals (try simp (disch := omega) only [nI_leI, nI_ltI, nI_eq, nz_eq, nz_lt, nz_gt, nz_le, nz_ge, nz_00, nz_n1, nI_add, pk_mul, pk_sub, nI_shl1, nI_or, nI_half2, nI_min2, la_put_eq, la_up, lr_same, lr_ne, lu_same, lu_ne, not_true_eq_false, not_false_eq_true])
          refine ih (k + 1) t3 _ (by omega) ht3 ?_ (mf_go hH) (pg_put_at _ _ _) ?_ ?_
          · rw [hti3]
            constructor
            · rintro ⟨q1, q2⟩ d hd
              rcases Nat.lt_or_ge d k with q | q
              · exact q1 d q
              · have : d = k := by omega
                subst this
                exact fun e' he' => q2 e' (by omega)
            · intro q
              exact ⟨fun d hd => q d (by omega), fun e' he' => q k (by omega) e' (by omega)⟩
          · intro j hj hj4
            rw [pg_ne (by omega), pm_up_ne (by omega)]
            exact hkr j hj hj4
          · intro j hj
            rw [pg_ne (by omega), pm_up_ne (by omega)]
            exact hko j hj
        | succ n3 ih3 =>
          intro e t3 H he ht3 hti3 hH hp hkr hko
          obtain ⟨eM, eS⟩ := ms_mf hH hS
          obtain ⟨s0, s1, s2, s3⟩ := eS e (by omega)
          obtain ⟨o0, o1, o2, o3⟩ := hSo.2 e (by omega)
          have hlt := sp_sub_lt wX true (S 1 e)
          have hbt := @lore_bt (sp_lives N k) (S 1 e) (S 2 e)
          have nx : ∀ t4, t4 ≤ 1 → (t4 = 1 ↔ (t3 = 1 ∧ (S 0 e = k → (sp_kn (sp_lives N k) (S 1 e) (S 2 e) ↔ S 3 e = 1)))) → K (some 71) ([(0, vR 5 0 0), (1, vI (nI r)), (2, vI (nI s)), (3, vI (nI t4)), (4, vI (nI k)), (5, vI (nI (e + 1)))], [], H) := by
            intro t4 ht4 hti4
            refine ih3 (e + 1) t4 H (by omega) ht4 ?_ hH hp hkr hko
            rw [hti4, hti3]
            constructor
            · rintro ⟨⟨q1, q2⟩, q3⟩
              refine ⟨q1, fun e' he' => ?_⟩
              rcases Nat.lt_or_ge e' e with q | q
              · exact q2 e' q
              · have : e' = e := by omega
                subst this
                exact q3
            · rintro ⟨q1, q2⟩
              exact ⟨⟨q1, fun e' he' => q2 e' (by omega)⟩, q2 e (by omega)⟩
          refine hK [(13, [0, 1, 2, 3, 4]), (23, [0, 1, 2, 3, 4, 5]), (71, [0, 1, 2, 3, 4, 5])] 60 _ _ ?_
          conv => whnf
          repeat' (first
            | (refine ⟨fun c9 => ?_, fun c9 => ?_⟩ <;> (try simp (disch := omega) only [nI_leI, nI_ltI, nI_eq, nz_eq, nz_lt, nz_gt, nz_le, nz_ge, nz_00, nz_n1, nI_add, pk_mul, pk_sub, nI_shl1, nI_or, nI_half2, nI_min2, la_put_eq, la_up, lr_same, lr_ne, lu_same, lu_ne, not_true_eq_false, not_false_eq_true, eM, s0, s1, s2, s3] at c9) <;> first | (exfalso; omega) | conv => whnf)
            | (refine ⟨_, rfl, by omega, ?_⟩; conv => whnf)
            | (refine ⟨_, rfl, rfl, rfl, by decide, by decide, ?_⟩; conv => whnf)
            | (refine ⟨_, by (simp (disch := omega) only [nI_leI, nI_ltI, nI_eq, nz_eq, nz_lt, nz_gt, nz_le, nz_ge, nz_00, nz_n1, nI_add, pk_mul, pk_sub, nI_shl1, nI_or, nI_half2, nI_min2, la_put_eq, la_up, lr_same, lr_ne, lu_same, lu_ne, not_true_eq_false, not_false_eq_true, eM, s0, s1, s2, s3]; rfl), by omega, ?_⟩; conv => whnf)
            | (apply And.intro; (first | assumption | decide | (simp (disch := omega) only [nI_leI, nI_ltI, nI_eq, nz_eq, nz_lt, nz_gt, nz_le, nz_ge, nz_00, nz_n1, nI_add, pk_mul, pk_sub, nI_shl1, nI_or, nI_half2, nI_min2, la_put_eq, la_up, lr_same, lr_ne, lu_same, lu_ne, not_true_eq_false, not_false_eq_true, eM, s0, s1, s2, s3]; omega)); conv => whnf))
          all_goals (try simp (disch := omega) only [nI_leI, nI_ltI, nI_eq, nz_eq, nz_lt, nz_gt, nz_le, nz_ge, nz_00, nz_n1, nI_add, pk_mul, pk_sub, nI_shl1, nI_or, nI_half2, nI_min2, la_put_eq, la_up, lr_same, lr_ne, lu_same, lu_ne, not_true_eq_false, not_false_eq_true, eM, s0, s1, s2, s3])
          · refine nx 0 (by omega) ?_
            constructor
            · intro q; omega
            · intro q; omega
          · refine nx 1 (by omega) ?_
            constructor
            · intro q; exact ⟨by omega, fun q2 => by omega⟩
            · intro q; rfl
          · refine ⟨(196, true, S 1 e, sp_lives N k, _), ⟨rfl, rfl, hp, by decide, wX, by omega⟩, fun v h' hq => ?_⟩
            obtain ⟨rfl, rfl⟩ := hq
            conv => whnf
            repeat' (first
              | (refine ⟨fun c9 => ?_, fun c9 => ?_⟩ <;> (try simp (disch := omega) only [nI_leI, nI_ltI, nI_eq, nz_eq, nz_lt, nz_gt, nz_le, nz_ge, nz_00, nz_n1, nI_add, pk_mul, pk_sub, nI_shl1, nI_or, nI_half2, nI_min2, la_put_eq, la_up, lr_same, lr_ne, lu_same, lu_ne, not_true_eq_false, not_false_eq_true, nI_bit, s2, s3] at c9) <;> first | (exfalso; omega) | conv => whnf)
              | (refine ⟨_, rfl, by omega, ?_⟩; conv => whnf)
              | (refine ⟨_, rfl, rfl, rfl, by decide, by decide, ?_⟩; conv => whnf)
              | (refine ⟨_, by (simp (disch := omega) only [nI_leI, nI_ltI, nI_eq, nz_eq, nz_lt, nz_gt, nz_le, nz_ge, nz_00, nz_n1, nI_add, pk_mul, pk_sub, nI_shl1, nI_or, nI_half2, nI_min2, la_put_eq, la_up, lr_same, lr_ne, lu_same, lu_ne, not_true_eq_false, not_false_eq_true, nI_bit, s2, s3]; rfl), by omega, ?_⟩; conv => whnf)
              | (apply And.intro; (first | assumption | decide | (simp (disch := omega) only [nI_leI, nI_ltI, nI_eq, nz_eq, nz_lt, nz_gt, nz_le, nz_ge, nz_00, nz_n1, nI_add, pk_mul, pk_sub, nI_shl1, nI_or, nI_half2, nI_min2, la_put_eq, la_up, lr_same, lr_ne, lu_same, lu_ne, not_true_eq_false, not_false_eq_true, nI_bit, s2, s3]; omega)); conv => whnf))
            all_goals (try simp (disch := omega) only [nI_leI, nI_ltI, nI_eq, nz_eq, nz_lt, nz_gt, nz_le, nz_ge, nz_00, nz_n1, nI_add, pk_mul, pk_sub, nI_shl1, nI_or, nI_half2, nI_min2, la_put_eq, la_up, lr_same, lr_ne, lu_same, lu_ne, not_true_eq_false, not_false_eq_true, nI_bit, s2, s3])
            · refine nx 0 (by omega) ?_
              constructor
              · intro q; omega
              · rintro ⟨_, q⟩
                have q2 := q (by omega)
                rw [← hbt] at q2
                omega
            · refine nx 1 (by omega) ?_
              constructor
              · intro _
                refine ⟨by omega, fun _ => ?_⟩
                rw [← hbt]
                omega
              · intro q; rfl
      have loop2 : ∀ n2 f H, f + n2 = N 0 0 → mf h H → pg_at H 196 (sp_lives N k) → kr H r (N 0 0) N s (4 * k + f) → ko h H r → K (some 23) ([(0, vR 5 0 0), (1, vI (nI r)), (2, vI (nI s)), (3, vI (nI t)), (4, vI (nI k)), (5, vI (nI f))], [], H) := by
        intro n2
        induction n2 with
        | zero =>
          intro f H hf hH hp hkr hko
          have eF := mf_F hH hF
          refine hK [(13, [0, 1, 2, 3, 4]), (23, [0, 1, 2, 3, 4, 5]), (71, [0, 1, 2, 3, 4, 5])] 40 _ _ ?_
          conv => whnf
          repeat' (first
            | (refine ⟨fun c9 => ?_, fun c9 => ?_⟩ <;> (try simp (disch := omega) only [nI_leI, nI_ltI, nI_eq, nz_eq, nz_lt, nz_gt, nz_le, nz_ge, nz_00, nz_n1, nI_add, pk_mul, pk_sub, nI_shl1, nI_or, nI_half2, nI_min2, la_put_eq, la_up, lr_same, lr_ne, lu_same, lu_ne, not_true_eq_false, not_false_eq_true, eF] at c9) <;> first | (exfalso; omega) | conv => whnf)
            | (refine ⟨_, rfl, by omega, ?_⟩; conv => whnf)
            | (refine ⟨_, rfl, rfl, rfl, by decide, by decide, ?_⟩; conv => whnf)
            | (refine ⟨_, by (simp (disch := omega) only [nI_leI, nI_ltI, nI_eq, nz_eq, nz_lt, nz_gt, nz_le, nz_ge, nz_00, nz_n1, nI_add, pk_mul, pk_sub, nI_shl1, nI_or, nI_half2, nI_min2, la_put_eq, la_up, lr_same, lr_ne, lu_same, lu_ne, not_true_eq_false, not_false_eq_true, eF]; rfl), by omega, ?_⟩; conv => whnf)
            | (apply And.intro; (first | assumption | decide | (simp (disch := omega) only [nI_leI, nI_ltI, nI_eq, nz_eq, nz_lt, nz_gt, nz_le, nz_ge, nz_00, nz_n1, nI_add, pk_mul, pk_sub, nI_shl1, nI_or, nI_half2, nI_min2, la_put_eq, la_up, lr_same, lr_ne, lu_same, lu_ne, not_true_eq_false, not_false_eq_true, eF]; omega)); conv => whnf))
          all_goals (try simp (disch := omega) only [nI_leI, nI_ltI, nI_eq, nz_eq, nz_lt, nz_gt, nz_le, nz_ge, nz_00, nz_n1, nI_add, pk_mul, pk_sub, nI_shl1, nI_or, nI_half2, nI_min2, la_put_eq, la_up, lr_same, lr_ne, lu_same, lu_ne, not_true_eq_false, not_false_eq_true, eF])
          refine loop3 m 0 t H (by omega) ht ?_ hH hp ?_ hko
          · rw [hti]
            exact ⟨fun q => ⟨q, fun e' he' => absurd he' (by omega)⟩, fun q => q.1⟩
          · intro j hj hj4
            exact hkr j (by omega) hj4
        | succ n2 ih2 =>
          intro f H hf hH hp hkr hko
          have eF := mf_F hH hF
          have hlt := sp_sub_lt wX true f
          refine hK [(13, [0, 1, 2, 3, 4]), (23, [0, 1, 2, 3, 4, 5]), (71, [0, 1, 2, 3, 4, 5])] 60 _ _ ?_
          conv => whnf
          repeat' (first
            | (refine ⟨fun c9 => ?_, fun c9 => ?_⟩ <;> (try simp (disch := omega) only [nI_leI, nI_ltI, nI_eq, nz_eq, nz_lt, nz_gt, nz_le, nz_ge, nz_00, nz_n1, nI_add, pk_mul, pk_sub, nI_shl1, nI_or, nI_half2, nI_min2, la_put_eq, la_up, lr_same, lr_ne, lu_same, lu_ne, not_true_eq_false, not_false_eq_true, eF] at c9) <;> first | (exfalso; omega) | conv => whnf)
            | (refine ⟨_, rfl, by omega, ?_⟩; conv => whnf)
            | (refine ⟨_, rfl, rfl, rfl, by decide, by decide, ?_⟩; conv => whnf)
            | (refine ⟨_, by (simp (disch := omega) only [nI_leI, nI_ltI, nI_eq, nz_eq, nz_lt, nz_gt, nz_le, nz_ge, nz_00, nz_n1, nI_add, pk_mul, pk_sub, nI_shl1, nI_or, nI_half2, nI_min2, la_put_eq, la_up, lr_same, lr_ne, lu_same, lu_ne, not_true_eq_false, not_false_eq_true, eF]; rfl), by omega, ?_⟩; conv => whnf)
            | (apply And.intro; (first | assumption | decide | (simp (disch := omega) only [nI_leI, nI_ltI, nI_eq, nz_eq, nz_lt, nz_gt, nz_le, nz_ge, nz_00, nz_n1, nI_add, pk_mul, pk_sub, nI_shl1, nI_or, nI_half2, nI_min2, la_put_eq, la_up, lr_same, lr_ne, lu_same, lu_ne, not_true_eq_false, not_false_eq_true, eF]; omega)); conv => whnf))
          all_goals (try simp (disch := omega) only [nI_leI, nI_ltI, nI_eq, nz_eq, nz_lt, nz_gt, nz_le, nz_ge, nz_00, nz_n1, nI_add, pk_mul, pk_sub, nI_shl1, nI_or, nI_half2, nI_min2, la_put_eq, la_up, lr_same, lr_ne, lu_same, lu_ne, not_true_eq_false, not_false_eq_true, eF])
          refine ⟨(196, true, f, sp_lives N k, _), ⟨rfl, rfl, hp, by decide, wX, by omega⟩, fun v h' hq => ?_⟩
          obtain ⟨rfl, rfl⟩ := hq
          conv => whnf
          repeat' (first
            | (refine ⟨fun c9 => ?_, fun c9 => ?_⟩ <;> (try simp (disch := omega) only [nI_leI, nI_ltI, nI_eq, nz_eq, nz_lt, nz_gt, nz_le, nz_ge, nz_00, nz_n1, nI_add, pk_mul, pk_sub, nI_shl1, nI_or, nI_half2, nI_min2, la_put_eq, la_up, lr_same, lr_ne, lu_same, lu_ne, not_true_eq_false, not_false_eq_true, nI_bit] at c9) <;> first | (exfalso; omega) | conv => whnf)
            | (refine ⟨_, rfl, by omega, ?_⟩; conv => whnf)
            | (refine ⟨_, rfl, rfl, rfl, by decide, by decide, ?_⟩; conv => whnf)
            | (refine ⟨_, by (simp (disch := omega) only [nI_leI, nI_ltI, nI_eq, nz_eq, nz_lt, nz_gt, nz_le, nz_ge, nz_00, nz_n1, nI_add, pk_mul, pk_sub, nI_shl1, nI_or, nI_half2, nI_min2, la_put_eq, la_up, lr_same, lr_ne, lu_same, lu_ne, not_true_eq_false, not_false_eq_true, nI_bit]; rfl), by omega, ?_⟩; conv => whnf)
            | (apply And.intro; (first | assumption | decide | (simp (disch := omega) only [nI_leI, nI_ltI, nI_eq, nz_eq, nz_lt, nz_gt, nz_le, nz_ge, nz_00, nz_n1, nI_add, pk_mul, pk_sub, nI_shl1, nI_or, nI_half2, nI_min2, la_put_eq, la_up, lr_same, lr_ne, lu_same, lu_ne, not_true_eq_false, not_false_eq_true, nI_bit]; omega)); conv => whnf))
          all_goals (try simp (disch := omega) only [nI_leI, nI_ltI, nI_eq, nz_eq, nz_lt, nz_gt, nz_le, nz_ge, nz_00, nz_n1, nI_add, pk_mul, pk_sub, nI_shl1, nI_or, nI_half2, nI_min2, la_put_eq, la_up, lr_same, lr_ne, lu_same, lu_ne, not_true_eq_false, not_false_eq_true, nI_bit])
          refine ih2 (f + 1) _ (by omega) (mf_kb hH) (fun j hj => by rw [pm_up_ne (by omega)]; exact hp j hj) ?_ ?_
          · intro j hj hj4
            by_cases hjf : j = 4 * k + f
            · subst hjf
              rw [← Nat.add_assoc, pm_up_eq, sp_kb_at (by omega)]
            · rw [pm_up_ne (by omega)]
              exact hkr j (by omega) hj4
          · intro j hj
            rw [pm_up_ne (by omega)]
            exact hko j hj
      refine hK [(13, [0, 1, 2, 3, 4]), (23, [0, 1, 2, 3, 4, 5]), (71, [0, 1, 2, 3, 4, 5])] 60 _ _ ?_
      conv => whnf
      repeat' (first
        | (refine ⟨fun c9 => ?_, fun c9 => ?_⟩ <;> (try simp (disch := omega) only [nI_leI, nI_ltI, nI_eq, nz_eq, nz_lt, nz_gt, nz_le, nz_ge, nz_00, nz_n1, nI_add, pk_mul, pk_sub, nI_shl1, nI_or, nI_half2, nI_min2, la_put_eq, la_up, lr_same, lr_ne, lu_same, lu_ne, not_true_eq_false, not_false_eq_true] at c9) <;> first | (exfalso; omega) | conv => whnf)
        | (refine ⟨_, rfl, by omega, ?_⟩; conv => whnf)
        | (refine ⟨_, rfl, rfl, rfl, by decide, by decide, ?_⟩; conv => whnf)
        | (refine ⟨_, by (simp (disch := omega) only [nI_leI, nI_ltI, nI_eq, nz_eq, nz_lt, nz_gt, nz_le, nz_ge, nz_00, nz_n1, nI_add, pk_mul, pk_sub, nI_shl1, nI_or, nI_half2, nI_min2, la_put_eq, la_up, lr_same, lr_ne, lu_same, lu_ne, not_true_eq_false, not_false_eq_true]; rfl), by omega, ?_⟩; conv => whnf)
        | (apply And.intro; (first | assumption | decide | (simp (disch := omega) only [nI_leI, nI_ltI, nI_eq, nz_eq, nz_lt, nz_gt, nz_le, nz_ge, nz_00, nz_n1, nI_add, pk_mul, pk_sub, nI_shl1, nI_or, nI_half2, nI_min2, la_put_eq, la_up, lr_same, lr_ne, lu_same, lu_ne, not_true_eq_false, not_false_eq_true]; omega)); conv => whnf))
      all_goals (try simp (disch := omega) only [nI_leI, nI_ltI, nI_eq, nz_eq, nz_lt, nz_gt, nz_le, nz_ge, nz_00, nz_n1, nI_add, pk_mul, pk_sub, nI_shl1, nI_or, nI_half2, nI_min2, la_put_eq, la_up, lr_same, lr_ne, lu_same, lu_ne, not_true_eq_false, not_false_eq_true])
      exact loop2 (N 0 0) 0 H (by omega) hH hp hkr hko
  refine hK [(13, [0, 1, 2, 3, 4]), (23, [0, 1, 2, 3, 4, 5]), (71, [0, 1, 2, 3, 4, 5])] 60 _ _ ?_
  conv => whnf
  repeat' (first
    | (refine ⟨fun c9 => ?_, fun c9 => ?_⟩ <;> (try simp (disch := omega) only [nI_leI, nI_ltI, nI_eq, nz_eq, nz_lt, nz_gt, nz_le, nz_ge, nz_00, nz_n1, nI_add, pk_mul, pk_sub, nI_shl1, nI_or, nI_half2, nI_min2, la_put_eq, la_up, lr_same, lr_ne, lu_same, lu_ne, not_true_eq_false, not_false_eq_true] at c9) <;> first | (exfalso; omega) | conv => whnf)
    | (refine ⟨_, rfl, by omega, ?_⟩; conv => whnf)
    | (refine ⟨_, rfl, rfl, rfl, by decide, by decide, ?_⟩; conv => whnf)
    | (refine ⟨_, by (simp (disch := omega) only [nI_leI, nI_ltI, nI_eq, nz_eq, nz_lt, nz_gt, nz_le, nz_ge, nz_00, nz_n1, nI_add, pk_mul, pk_sub, nI_shl1, nI_or, nI_half2, nI_min2, la_put_eq, la_up, lr_same, lr_ne, lu_same, lu_ne, not_true_eq_false, not_false_eq_true]; rfl), by omega, ?_⟩; conv => whnf)
    | (apply And.intro; (first | assumption | decide | (simp (disch := omega) only [nI_leI, nI_ltI, nI_eq, nz_eq, nz_lt, nz_gt, nz_le, nz_ge, nz_00, nz_n1, nI_add, pk_mul, pk_sub, nI_shl1, nI_or, nI_half2, nI_min2, la_put_eq, la_up, lr_same, lr_ne, lu_same, lu_ne, not_true_eq_false, not_false_eq_true]; omega)); conv => whnf))
  all_goals (try simp (disch := omega) only [nI_leI, nI_ltI, nI_eq, nz_eq, nz_lt, nz_gt, nz_le, nz_ge, nz_00, nz_n1, nI_add, pk_mul, pk_sub, nI_shl1, nI_or, nI_half2, nI_min2, la_put_eq, la_up, lr_same, lr_ne, lu_same, lu_ne, not_true_eq_false, not_false_eq_true])
  refine ⟨(0, 196, N, _), ⟨rfl, rfl, hP, by decide, by decide, by omega⟩, fun h'' hq => ?_⟩
  have hq' : h'' = _ := hq
  subst hq'
  conv => whnf
  repeat' (first
    | (refine ⟨fun c9 => ?_, fun c9 => ?_⟩ <;> (try simp (disch := omega) only [nI_leI, nI_ltI, nI_eq, nz_eq, nz_lt, nz_gt, nz_le, nz_ge, nz_00, nz_n1, nI_add, pk_mul, pk_sub, nI_shl1, nI_or, nI_half2, nI_min2, la_put_eq, la_up, lr_same, lr_ne, lu_same, lu_ne, not_true_eq_false, not_false_eq_true] at c9) <;> first | (exfalso; omega) | conv => whnf)
    | (refine ⟨_, rfl, by omega, ?_⟩; conv => whnf)
    | (refine ⟨_, rfl, rfl, rfl, by decide, by decide, ?_⟩; conv => whnf)
    | (refine ⟨_, by (simp (disch := omega) only [nI_leI, nI_ltI, nI_eq, nz_eq, nz_lt, nz_gt, nz_le, nz_ge, nz_00, nz_n1, nI_add, pk_mul, pk_sub, nI_shl1, nI_or, nI_half2, nI_min2, la_put_eq, la_up, lr_same, lr_ne, lu_same, lu_ne, not_true_eq_false, not_false_eq_true]; rfl), by omega, ?_⟩; conv => whnf)
    | (apply And.intro; (first | assumption | decide | (simp (disch := omega) only [nI_leI, nI_ltI, nI_eq, nz_eq, nz_lt, nz_gt, nz_le, nz_ge, nz_00, nz_n1, nI_add, pk_mul, pk_sub, nI_shl1, nI_or, nI_half2, nI_min2, la_put_eq, la_up, lr_same, lr_ne, lu_same, lu_ne, not_true_eq_false, not_false_eq_true]; omega)); conv => whnf))
  all_goals (try simp (disch := omega) only [nI_leI, nI_ltI, nI_eq, nz_eq, nz_lt, nz_gt, nz_le, nz_ge, nz_00, nz_n1, nI_add, pk_mul, pk_sub, nI_shl1, nI_or, nI_half2, nI_min2, la_put_eq, la_up, lr_same, lr_ne, lu_same, lu_ne, not_true_eq_false, not_false_eq_true])
  refine loop1 31 0 1 _ (by omega) (by omega) ?_ (mf_pg (mf_self _) (by decide)) (pg_put_at _ _ _) ?_ ?_
  · exact ⟨fun _ d hd => absurd hd (by omega), fun _ => rfl⟩
  · intro j hj; omega
  · intro j hj
    rw [pg_ne (by omega)]
theorem M_X5_isAsSeen : pm_MT yX5_isAsSeen cX5_isAsSeen 6 3 6 P_X5_isAsSeen (pm_pi Q_X5_isAsSeen) := pm_met k_X5_isAsSeen (by decide) rfl (by
  rintro ⟨g0, g1, g2, g3, g4, g5⟩ av h hp
  rw [hp.1]
  exact Nat.le_of_ble_eq_true rfl) pf_X5_isAsSeen
theorem rc_X5_isAsSeen : ∀ g av h, P_X5_isAsSeen g av h → ∃ i t, av = .inr (.inr (5, i, 0)) :: t := by
  rintro ⟨g0, g1, g2, g3, g4, g5⟩ av h hp
  exact ⟨_, _, hp.1⟩
