/-! Larder: what is put in. -/
def la_bd (s j v : Nat) : Prop := (s = 0 → (j = 0 → v ≤ 4) ∧ (j = 3 → v ≤ 6) ∧ (j = 8 → v ≤ 9) ∧ (j = 9 → 1 ≤ v ∧ v ≤ 20) ∧ (j = 10 → v ≤ 5000) ∧ (j = 11 → v ≤ 6)) ∧ (s = 1 → v ≤ 9) ∧ (s = 2 → v ≤ 999) ∧ (s = 3 → v ≤ 3) ∧ (s = 4 → v ≤ 9) ∧ (s = 5 → v ≤ 99) ∧ (s = 6 → v ≤ 3) ∧ (s = 7 → v ≤ 99) ∧ (s = 8 → v ≤ 9)
theorem la_ok_iff {L : LD} : la_ok L ↔ ∀ s j, (la_rel s j → la_bd s j (L s j)) ∧ (¬ la_rel s j → L s j = 0) := by
  constructor
  · rintro ⟨w1, w2, w3, w4, w5, w6, w7, w8, w9, w10⟩ s j
    refine ⟨fun hr => ?_, w10 s j⟩
    have h7 := w7 j
    have h8 := w8 j
    have h9 := w9 j
    unfold la_rel at hr
    unfold la_bd
    refine ⟨?_, ?_, ?_, ?_, ?_, ?_, ?_, ?_, ?_⟩
    · rintro rfl
      refine ⟨?_, ?_, ?_, ?_, ?_, ?_⟩ <;> rintro rfl <;> assumption
    all_goals (rintro rfl; omega)
  · intro h
    have hb : ∀ s j, la_rel s j → la_bd s j (L s j) := fun s j => (h s j).1
    have r0 : ∀ j, (j = 0 ∨ j = 3 ∨ j = 8 ∨ j = 9 ∨ j = 10 ∨ j = 11) → la_rel 0 j := fun j hj => Or.inl ⟨rfl, hj⟩
    refine ⟨((hb 0 0 (r0 _ (by omega))).1 rfl).1 rfl, ((hb 0 3 (r0 _ (by omega))).1 rfl).2.1 rfl, ((hb 0 8 (r0 _ (by omega))).1 rfl).2.2.1 rfl, ((hb 0 9 (r0 _ (by omega))).1 rfl).2.2.2.1 rfl, ((hb 0 10 (r0 _ (by omega))).1 rfl).2.2.2.2.1 rfl, ((hb 0 11 (r0 _ (by omega))).1 rfl).2.2.2.2.2 rfl, fun f hf => ?_, fun b hb9 => ?_, fun q hq => ?_, fun s j => (h s j).2⟩
    · exact ⟨(hb 1 f (by unfold la_rel; omega)).2.1 rfl, (hb 2 f (by unfold la_rel; omega)).2.2.1 rfl⟩
    · exact ⟨(hb 3 b (by unfold la_rel; omega)).2.2.2.1 rfl, (hb 4 b (by unfold la_rel; omega)).2.2.2.2.1 rfl, (hb 5 b (by unfold la_rel; omega)).2.2.2.2.2.1 rfl, (hb 6 b (by unfold la_rel; omega)).2.2.2.2.2.2.1 rfl⟩
    · exact ⟨(hb 7 q (by unfold la_rel; omega)).2.2.2.2.2.2.2.1 rfl, (hb 8 q (by unfold la_rel; omega)).2.2.2.2.2.2.2.2 rfl⟩
theorem la_ok_lu {L : LD} (hw : la_ok L) {s j v : Nat} (hr : la_rel s j) (hb : la_bd s j v) : la_ok (lu L s j v) := by
  rw [la_ok_iff] at hw ⊢
  intro s' j'
  by_cases h : s' = s ∧ j' = j
  · obtain ⟨rfl, rfl⟩ := h
    rw [lu_same]
    exact ⟨fun _ => hb, fun h => absurd hr h⟩
  · rw [lu_ne h]
    exact hw s' j'
/-! empty -/
def sp_empty (L : LD) : LD := lu (lu (lu (lu (lu (lu L 0 0 0) 0 3 0) 0 11 0) 0 8 2) 0 9 5) 0 10 0
theorem la_ok_empty {L : LD} (hw : la_ok L) : la_ok (sp_empty L) := by
  unfold sp_empty
  refine la_ok_lu (la_ok_lu (la_ok_lu (la_ok_lu (la_ok_lu (la_ok_lu hw ?_ ?_) ?_ ?_) ?_ ?_) ?_ ?_) ?_ ?_) ?_ ?_ <;> first | (unfold la_rel; omega) | (unfold la_bd; omega)
def P_X0_empty : Nat × LD × pm_H → List pm_V → pm_H → Prop := fun g av h => match g with
  | (i, L, h0) => av = [vR 0 i 0] ∧ h = h0 ∧ la_at h0 i L
def Q_X0_empty : Nat × LD × pm_H → pm_H → Prop := fun g h => match g with
  | (i, L, h0) => h = la_put h0 i (sp_empty L)
def T_X0_empty : List (Nat × pm_T) := [
  (0, i_al 0 1),
  (1, i_c (nI 0) 2),
  (2, i_pi 0 0 5),
  (5, i_al 0 6),
  (6, i_c (nI 0) 7),
  (7, i_pi 0 3 10),
  (10, i_al 0 11),
  (11, i_c (nI 0) 12),
  (12, i_pi 0 11 15),
  (15, i_al 0 16),
  (16, i_c (nI 2) 17),
  (17, i_pi 0 8 20),
  (20, i_al 0 21),
  (21, i_c (nI 5) 22),
  (22, i_pi 0 9 25),
  (25, i_al 0 26),
  (26, i_c (nI 0) 27),
  (27, i_pi 0 10 30),
  (30, i_vr)]
theorem k_X0_empty : ∀ q ∈ T_X0_empty, pm_sd RX0 cX0_empty 1 1 0 q.1 q.2 := by
  unfold T_X0_empty
  refine pm_cn (sd_aln (k := 0) (by decide +kernel) rfl rfl) ?_
  refine pm_cn (sd_iconst (z := 0) (by decide +kernel) (by decide +kernel) rfl) ?_
  refine pm_cn (sd_pi cl0_ in0_ tyX0 tyX0_ok nmX0 (by decide) (fun _ => rfl) rfl rfl fl_X0_43 (by decide +kernel) rfl) ?_
  refine pm_cn (sd_aln (k := 0) (by decide +kernel) rfl rfl) ?_
  refine pm_cn (sd_iconst (z := 0) (by decide +kernel) (by decide +kernel) rfl) ?_
  refine pm_cn (sd_pi cl0_ in0_ tyX0 tyX0_ok nmX0 (by decide) (fun _ => rfl) rfl rfl fl_X0_46 (by decide +kernel) rfl) ?_
  refine pm_cn (sd_aln (k := 0) (by decide +kernel) rfl rfl) ?_
  refine pm_cn (sd_iconst (z := 0) (by decide +kernel) (by decide +kernel) rfl) ?_
  refine pm_cn (sd_pi cl0_ in0_ tyX0 tyX0_ok nmX0 (by decide) (fun _ => rfl) rfl rfl fl_X0_49 (by decide +kernel) rfl) ?_
  refine pm_cn (sd_aln (k := 0) (by decide +kernel) rfl rfl) ?_
  refine pm_cn (sd_iconst (z := 2) (by decide +kernel) (by decide +kernel) rfl) ?_
  refine pm_cn (sd_pi cl0_ in0_ tyX0 tyX0_ok nmX0 (by decide) (fun _ => rfl) rfl rfl fl_X0_30 (by decide +kernel) rfl) ?_
  refine pm_cn (sd_aln (k := 0) (by decide +kernel) rfl rfl) ?_
  refine pm_cn (sd_iconst (z := 5) (by decide +kernel) (by decide +kernel) rfl) ?_
  refine pm_cn (sd_pi cl0_ in0_ tyX0 tyX0_ok nmX0 (by decide) (fun _ => rfl) rfl rfl fl_X0_34 (by decide +kernel) rfl) ?_
  refine pm_cn (sd_aln (k := 0) (by decide +kernel) rfl rfl) ?_
  refine pm_cn (sd_iconst (z := 0) (by decide +kernel) (by decide +kernel) rfl) ?_
  refine pm_cn (sd_pi cl0_ in0_ tyX0 tyX0_ok nmX0 (by decide) (fun _ => rfl) rfl rfl fl_X0_52 (by decide +kernel) rfl) ?_
  refine pm_cn (sd_vr (by decide +kernel)) ?_
  exact fun _ h => absurd h List.not_mem_nil
set_option maxHeartbeats 4000000 in
set_option maxRecDepth 100000 in
theorem pf_X0_empty : pm_pf T_X0_empty P_X0_empty (pm_pv Q_X0_empty) := by
  rintro ⟨i, L, h0⟩ av h K hK ⟨rfl, rfl, hL⟩ hret
  have e := la_self hL
  show K (some 0) ([(0, vR 0 i 0)], [], h)
  rw [← e]
  refine hK [] 40 _ _ ?_
  conv => whnf
  repeat' (first
    | (refine ⟨fun c => ?_, fun c => ?_⟩ <;> (try simp (disch := omega) only [nI_leI, nI_ltI, nI_eq, nz_eq, nz_lt, nz_gt, nz_le, nz_ge, nz_00, nz_10, nz_n1, nI_add, pk_mul, pk_sub, nI_shl1, nI_or, nI_half2, nI_min2, la_put_eq, la_up, lr_same, lr_ne, lu_same, lu_ne] at c) <;> first | (exfalso; omega) | conv => whnf)
    | (refine ⟨_, rfl, by omega, ?_⟩; conv => whnf)
    | (refine ⟨_, rfl, rfl, rfl, by decide, by decide, ?_⟩; conv => whnf)
    | (refine ⟨_, by (simp (disch := omega) only [nI_leI, nI_ltI, nI_eq, nz_eq, nz_lt, nz_gt, nz_le, nz_ge, nz_00, nz_10, nz_n1, nI_add, pk_mul, pk_sub, nI_shl1, nI_or, nI_half2, nI_min2, la_put_eq, la_up, lr_same, lr_ne, lu_same, lu_ne]; rfl), by omega, ?_⟩; conv => whnf)
    | (refine And.intro (by decide) ?_; conv => whnf))
  all_goals (try simp (disch := omega) only [nI_leI, nI_ltI, nI_eq, nz_eq, nz_lt, nz_gt, nz_le, nz_ge, nz_00, nz_10, nz_n1, nI_add, pk_mul, pk_sub, nI_shl1, nI_or, nI_half2, nI_min2, la_put_eq, la_up, lr_same, lr_ne, lu_same, lu_ne])
  exact hret _ _ rfl
theorem M_X0_empty : pm_MT yX0_empty cX0_empty 1 0 1 P_X0_empty (pm_pv Q_X0_empty) := pm_met k_X0_empty (by decide) rfl (by
  rintro ⟨g0, g1, g2⟩ av h hp
  rw [hp.1]
  exact Nat.le_of_ble_eq_true rfl) pf_X0_empty
theorem rc_X0_empty : ∀ g av h, P_X0_empty g av h → ∃ i t, av = .inr (.inr (0, i, 0)) :: t := by
  rintro ⟨g0, g1, g2⟩ av h hp
  exact ⟨_, _, hp.1⟩
/-! take -/
def P_X0_take : Nat × Nat × LD × LD × pm_H → List pm_V → pm_H → Prop := fun g av h => match g with
  | (i, k, L, M, h0) => av = [vR 0 i 0, vR 0 k 0] ∧ h = h0 ∧ la_at h0 i L ∧ la_at h0 k M ∧ la_ok L ∧ la_ok M ∧ k ≠ i
def Q_X0_take : Nat × Nat × LD × LD × pm_H → pm_H → Prop := fun g h => match g with
  | (i, k, L, M, h0) => h = la_put h0 i M
def lc (L : LD) (s : Nat) (f : Nat → Nat) (n : Nat) : LD := lr L s (fun j => if j < n then f j else L s j)
theorem la_cp {h : pm_H} {i k : Nat} {M : LD} (hM : la_at h k M) (hk : k ≠ i) (L : LD) (s n : Nat) : pm_ua (la_put h i L) 0 i s (pm_cp (la_put h i L 0 k s) (la_put h i L 0 i s) n) = la_put h i (lc L s (M s) n) := by
  funext c i' s' j'
  by_cases hc : c = 0 ∧ i' = i
  · obtain ⟨rfl, rfl⟩ := hc
    rw [la_put_eq]
    by_cases hs : s' = s
    · subst hs
      rw [lc, lr_same]
      simp only [pm_ua, and_self, if_true, pm_cp]
      by_cases hj : j' < n
      · rw [if_pos hj, if_pos hj, la_put_ne (by omega), hM]
      · rw [if_neg hj, if_neg hj, la_put_eq]
    · rw [lc, lr_ne hs]
      simp only [pm_ua, hs, and_false, if_false]
      rw [la_put_eq]
  · rw [la_put_ne hc]
    have : ¬ (c = 0 ∧ i' = i ∧ s' = s) := fun q => hc ⟨q.1, q.2.1⟩
    simp only [pm_ua, this, if_false]
    rw [la_put_ne hc]
theorem lc_eq {L : LD} {s n : Nat} {f : Nat → Nat} {s' j' : Nat} : lc L s f n s' j' = if s' = s ∧ j' < n then f j' else L s' j' := by
  unfold lc
  by_cases hs : s' = s
  · subst hs
    rw [lr_same]
    by_cases hj : j' < n <;> simp [hj]
  · rw [lr_ne hs, if_neg (by omega)]
theorem lu_eq {L : LD} {s j v s' j' : Nat} : lu L s j v s' j' = if s' = s ∧ j' = j then v else L s' j' := rfl
theorem sp_take_eq {L M : LD} (hL : la_ok L) (hM : la_ok M) : lc (lc (lu (lu (lu (lu (lc (lc (lc (lc (lu (lc (lc (lu L 0 0 (M 0 0)) 1 (M 1) 4) 2 (M 2) 4) 0 3 (M 0 3)) 3 (M 3) 6) 4 (M 4) 6) 5 (M 5) 6) 6 (M 6) 6) 0 8 (M 0 8)) 0 9 (M 0 9)) 0 10 (M 0 10)) 0 11 (M 0 11)) 7 (M 7) 6) 8 (M 8) 6 = M := by
  funext s j
  simp only [lc_eq, lu_eq]
  by_cases hr : la_rel s j
  · unfold la_rel at hr
    rcases hr with ⟨rfl, hj⟩ | ⟨hs, hj⟩ | ⟨h3, h8, hj⟩
    · rcases hj with rfl | rfl | rfl | rfl | rfl | rfl <;> simp
    · rcases hs with rfl | rfl <;> simp [hj]
    · have : s = 3 ∨ s = 4 ∨ s = 5 ∨ s = 6 ∨ s = 7 ∨ s = 8 := by omega
      rcases this with rfl | rfl | rfl | rfl | rfl | rfl <;> simp [hj]
  · rw [(la_ok_iff.mp hM s j).2 hr]
    have := (la_ok_iff.mp hL s j).2 hr
    unfold la_rel at hr
    rw [if_neg (by omega), if_neg (by omega), if_neg (by omega), if_neg (by omega), if_neg (by omega), if_neg (by omega), if_neg (by omega), if_neg (by omega), if_neg (by omega), if_neg (by omega), if_neg (by omega), if_neg (by omega), if_neg (by omega), if_neg (by omega)]
    exact this
def T_X0_take : List (Nat × pm_T) := [
  (0, i_al 0 1),
  (1, i_al 1 2),
  (2, i_gi 0 0 5),
  (5, i_pi 0 0 8),
  (8, i_al 1 9),
  (9, i_gr 0 (fun i => (0, i, 1)) 12),
  (12, i_c (nI 0) 13),
  (13, i_al 0 14),
  (14, i_gr 0 (fun i => (0, i, 1)) 17),
  (17, i_c (nI 0) 18),
  (18, i_c (nI 4) 19),
  (19, i_cp 22),
  (22, i_al 1 23),
  (23, i_gr 0 (fun i => (0, i, 2)) 26),
  (26, i_c (nI 0) 27),
  (27, i_al 0 28),
  (28, i_gr 0 (fun i => (0, i, 2)) 31),
  (31, i_c (nI 0) 32),
  (32, i_c (nI 4) 33),
  (33, i_cp 36),
  (36, i_al 0 37),
  (37, i_al 1 38),
  (38, i_gi 0 3 41),
  (41, i_pi 0 3 44),
  (44, i_al 1 45),
  (45, i_gr 0 (fun i => (0, i, 3)) 48),
  (48, i_c (nI 0) 49),
  (49, i_al 0 50),
  (50, i_gr 0 (fun i => (0, i, 3)) 53),
  (53, i_c (nI 0) 54),
  (54, i_c (nI 6) 56),
  (56, i_cp 59),
  (59, i_al 1 60),
  (60, i_gr 0 (fun i => (0, i, 4)) 63),
  (63, i_c (nI 0) 64),
  (64, i_al 0 65),
  (65, i_gr 0 (fun i => (0, i, 4)) 68),
  (68, i_c (nI 0) 69),
  (69, i_c (nI 6) 71),
  (71, i_cp 74),
  (74, i_al 1 75),
  (75, i_gr 0 (fun i => (0, i, 5)) 78),
  (78, i_c (nI 0) 79),
  (79, i_al 0 80),
  (80, i_gr 0 (fun i => (0, i, 5)) 83),
  (83, i_c (nI 0) 84),
  (84, i_c (nI 6) 86),
  (86, i_cp 89),
  (89, i_al 1 90),
  (90, i_gr 0 (fun i => (0, i, 6)) 93),
  (93, i_c (nI 0) 94),
  (94, i_al 0 95),
  (95, i_gr 0 (fun i => (0, i, 6)) 98),
  (98, i_c (nI 0) 99),
  (99, i_c (nI 6) 101),
  (101, i_cp 104),
  (104, i_al 0 105),
  (105, i_al 1 106),
  (106, i_gi 0 8 109),
  (109, i_pi 0 8 112),
  (112, i_al 0 113),
  (113, i_al 1 114),
  (114, i_gi 0 9 117),
  (117, i_pi 0 9 120),
  (120, i_al 0 121),
  (121, i_al 1 122),
  (122, i_gi 0 10 125),
  (125, i_pi 0 10 128),
  (128, i_al 0 129),
  (129, i_al 1 130),
  (130, i_gi 0 11 133),
  (133, i_pi 0 11 136),
  (136, i_al 1 137),
  (137, i_gr 0 (fun i => (0, i, 7)) 140),
  (140, i_c (nI 0) 141),
  (141, i_al 0 142),
  (142, i_gr 0 (fun i => (0, i, 7)) 145),
  (145, i_c (nI 0) 146),
  (146, i_c (nI 6) 148),
  (148, i_cp 151),
  (151, i_al 1 152),
  (152, i_gr 0 (fun i => (0, i, 8)) 155),
  (155, i_c (nI 0) 156),
  (156, i_al 0 157),
  (157, i_gr 0 (fun i => (0, i, 8)) 160),
  (160, i_c (nI 0) 161),
  (161, i_c (nI 6) 163),
  (163, i_cp 166),
  (166, i_vr)]
theorem k_X0_take : ∀ q ∈ T_X0_take, pm_sd RX0 cX0_take 2 1 0 q.1 q.2 := by
  unfold T_X0_take
  refine pm_cn (sd_aln (k := 0) (by decide +kernel) rfl rfl) ?_
  refine pm_cn (sd_aln (k := 1) (by decide +kernel) rfl rfl) ?_
  refine pm_cn (sd_gi cl0_ in0_ (by decide) (fun _ => rfl) fl_X0_43 (by decide +kernel) rfl) ?_
  refine pm_cn (sd_pi cl0_ in0_ tyX0 tyX0_ok nmX0 (by decide) (fun _ => rfl) rfl rfl fl_X0_43 (by decide +kernel) rfl) ?_
  refine pm_cn (sd_aln (k := 1) (by decide +kernel) rfl rfl) ?_
  refine pm_cn (sd_gr cl0_ in0_ (j := 1) (by decide) (fun _ => rfl) fl_X0_9 (by decide +kernel) rfl) ?_
  refine pm_cn (sd_iconst (z := 0) (by decide +kernel) (by decide +kernel) rfl) ?_
  refine pm_cn (sd_aln (k := 0) (by decide +kernel) rfl rfl) ?_
  refine pm_cn (sd_gr cl0_ in0_ (j := 1) (by decide) (fun _ => rfl) fl_X0_9 (by decide +kernel) rfl) ?_
  refine pm_cn (sd_iconst (z := 0) (by decide +kernel) (by decide +kernel) rfl) ?_
  refine pm_cn (sd_iconst (z := 4) (by decide +kernel) (by decide +kernel) rfl) ?_
  refine pm_cn (sd_cp ml_X0_55 nt_arraycopy st_arraycopy nt_System (by decide) (by decide +kernel) rfl) ?_
  refine pm_cn (sd_aln (k := 1) (by decide +kernel) rfl rfl) ?_
  refine pm_cn (sd_gr cl0_ in0_ (j := 2) (by decide) (fun _ => rfl) fl_X0_15 (by decide +kernel) rfl) ?_
  refine pm_cn (sd_iconst (z := 0) (by decide +kernel) (by decide +kernel) rfl) ?_
  refine pm_cn (sd_aln (k := 0) (by decide +kernel) rfl rfl) ?_
  refine pm_cn (sd_gr cl0_ in0_ (j := 2) (by decide) (fun _ => rfl) fl_X0_15 (by decide +kernel) rfl) ?_
  refine pm_cn (sd_iconst (z := 0) (by decide +kernel) (by decide +kernel) rfl) ?_
  refine pm_cn (sd_iconst (z := 4) (by decide +kernel) (by decide +kernel) rfl) ?_
  refine pm_cn (sd_cp ml_X0_55 nt_arraycopy st_arraycopy nt_System (by decide) (by decide +kernel) rfl) ?_
  refine pm_cn (sd_aln (k := 0) (by decide +kernel) rfl rfl) ?_
  refine pm_cn (sd_aln (k := 1) (by decide +kernel) rfl rfl) ?_
  refine pm_cn (sd_gi cl0_ in0_ (by decide) (fun _ => rfl) fl_X0_46 (by decide +kernel) rfl) ?_
  refine pm_cn (sd_pi cl0_ in0_ tyX0 tyX0_ok nmX0 (by decide) (fun _ => rfl) rfl rfl fl_X0_46 (by decide +kernel) rfl) ?_
  refine pm_cn (sd_aln (k := 1) (by decide +kernel) rfl rfl) ?_
  refine pm_cn (sd_gr cl0_ in0_ (j := 4) (by decide) (fun _ => rfl) fl_X0_18 (by decide +kernel) rfl) ?_
  refine pm_cn (sd_iconst (z := 0) (by decide +kernel) (by decide +kernel) rfl) ?_
  refine pm_cn (sd_aln (k := 0) (by decide +kernel) rfl rfl) ?_
  refine pm_cn (sd_gr cl0_ in0_ (j := 4) (by decide) (fun _ => rfl) fl_X0_18 (by decide +kernel) rfl) ?_
  refine pm_cn (sd_iconst (z := 0) (by decide +kernel) (by decide +kernel) rfl) ?_
  refine pm_cn (sd_bipush (z := 6) (by decide +kernel) (by decide +kernel) rfl) ?_
  refine pm_cn (sd_cp ml_X0_55 nt_arraycopy st_arraycopy nt_System (by decide) (by decide +kernel) rfl) ?_
  refine pm_cn (sd_aln (k := 1) (by decide +kernel) rfl rfl) ?_
  refine pm_cn (sd_gr cl0_ in0_ (j := 5) (by decide) (fun _ => rfl) fl_X0_21 (by decide +kernel) rfl) ?_
  refine pm_cn (sd_iconst (z := 0) (by decide +kernel) (by decide +kernel) rfl) ?_
  refine pm_cn (sd_aln (k := 0) (by decide +kernel) rfl rfl) ?_
  refine pm_cn (sd_gr cl0_ in0_ (j := 5) (by decide) (fun _ => rfl) fl_X0_21 (by decide +kernel) rfl) ?_
  refine pm_cn (sd_iconst (z := 0) (by decide +kernel) (by decide +kernel) rfl) ?_
  refine pm_cn (sd_bipush (z := 6) (by decide +kernel) (by decide +kernel) rfl) ?_
  refine pm_cn (sd_cp ml_X0_55 nt_arraycopy st_arraycopy nt_System (by decide) (by decide +kernel) rfl) ?_
  refine pm_cn (sd_aln (k := 1) (by decide +kernel) rfl rfl) ?_
  refine pm_cn (sd_gr cl0_ in0_ (j := 6) (by decide) (fun _ => rfl) fl_X0_24 (by decide +kernel) rfl) ?_
  refine pm_cn (sd_iconst (z := 0) (by decide +kernel) (by decide +kernel) rfl) ?_
  refine pm_cn (sd_aln (k := 0) (by decide +kernel) rfl rfl) ?_
  refine pm_cn (sd_gr cl0_ in0_ (j := 6) (by decide) (fun _ => rfl) fl_X0_24 (by decide +kernel) rfl) ?_
  refine pm_cn (sd_iconst (z := 0) (by decide +kernel) (by decide +kernel) rfl) ?_
  refine pm_cn (sd_bipush (z := 6) (by decide +kernel) (by decide +kernel) rfl) ?_
  refine pm_cn (sd_cp ml_X0_55 nt_arraycopy st_arraycopy nt_System (by decide) (by decide +kernel) rfl) ?_
  refine pm_cn (sd_aln (k := 1) (by decide +kernel) rfl rfl) ?_
  refine pm_cn (sd_gr cl0_ in0_ (j := 7) (by decide) (fun _ => rfl) fl_X0_27 (by decide +kernel) rfl) ?_
  refine pm_cn (sd_iconst (z := 0) (by decide +kernel) (by decide +kernel) rfl) ?_
  refine pm_cn (sd_aln (k := 0) (by decide +kernel) rfl rfl) ?_
  refine pm_cn (sd_gr cl0_ in0_ (j := 7) (by decide) (fun _ => rfl) fl_X0_27 (by decide +kernel) rfl) ?_
  refine pm_cn (sd_iconst (z := 0) (by decide +kernel) (by decide +kernel) rfl) ?_
  refine pm_cn (sd_bipush (z := 6) (by decide +kernel) (by decide +kernel) rfl) ?_
  refine pm_cn (sd_cp ml_X0_55 nt_arraycopy st_arraycopy nt_System (by decide) (by decide +kernel) rfl) ?_
  refine pm_cn (sd_aln (k := 0) (by decide +kernel) rfl rfl) ?_
  refine pm_cn (sd_aln (k := 1) (by decide +kernel) rfl rfl) ?_
  refine pm_cn (sd_gi cl0_ in0_ (by decide) (fun _ => rfl) fl_X0_30 (by decide +kernel) rfl) ?_
  refine pm_cn (sd_pi cl0_ in0_ tyX0 tyX0_ok nmX0 (by decide) (fun _ => rfl) rfl rfl fl_X0_30 (by decide +kernel) rfl) ?_
  refine pm_cn (sd_aln (k := 0) (by decide +kernel) rfl rfl) ?_
  refine pm_cn (sd_aln (k := 1) (by decide +kernel) rfl rfl) ?_
  refine pm_cn (sd_gi cl0_ in0_ (by decide) (fun _ => rfl) fl_X0_34 (by decide +kernel) rfl) ?_
  refine pm_cn (sd_pi cl0_ in0_ tyX0 tyX0_ok nmX0 (by decide) (fun _ => rfl) rfl rfl fl_X0_34 (by decide +kernel) rfl) ?_
  refine pm_cn (sd_aln (k := 0) (by decide +kernel) rfl rfl) ?_
  refine pm_cn (sd_aln (k := 1) (by decide +kernel) rfl rfl) ?_
  refine pm_cn (sd_gi cl0_ in0_ (by decide) (fun _ => rfl) fl_X0_52 (by decide +kernel) rfl) ?_
  refine pm_cn (sd_pi cl0_ in0_ tyX0 tyX0_ok nmX0 (by decide) (fun _ => rfl) rfl rfl fl_X0_52 (by decide +kernel) rfl) ?_
  refine pm_cn (sd_aln (k := 0) (by decide +kernel) rfl rfl) ?_
  refine pm_cn (sd_aln (k := 1) (by decide +kernel) rfl rfl) ?_
  refine pm_cn (sd_gi cl0_ in0_ (by decide) (fun _ => rfl) fl_X0_49 (by decide +kernel) rfl) ?_
  refine pm_cn (sd_pi cl0_ in0_ tyX0 tyX0_ok nmX0 (by decide) (fun _ => rfl) rfl rfl fl_X0_49 (by decide +kernel) rfl) ?_
  refine pm_cn (sd_aln (k := 1) (by decide +kernel) rfl rfl) ?_
  refine pm_cn (sd_gr cl0_ in0_ (j := 12) (by decide) (fun _ => rfl) fl_X0_37 (by decide +kernel) rfl) ?_
  refine pm_cn (sd_iconst (z := 0) (by decide +kernel) (by decide +kernel) rfl) ?_
  refine pm_cn (sd_aln (k := 0) (by decide +kernel) rfl rfl) ?_
  refine pm_cn (sd_gr cl0_ in0_ (j := 12) (by decide) (fun _ => rfl) fl_X0_37 (by decide +kernel) rfl) ?_
  refine pm_cn (sd_iconst (z := 0) (by decide +kernel) (by decide +kernel) rfl) ?_
  refine pm_cn (sd_bipush (z := 6) (by decide +kernel) (by decide +kernel) rfl) ?_
  refine pm_cn (sd_cp ml_X0_55 nt_arraycopy st_arraycopy nt_System (by decide) (by decide +kernel) rfl) ?_
  refine pm_cn (sd_aln (k := 1) (by decide +kernel) rfl rfl) ?_
  refine pm_cn (sd_gr cl0_ in0_ (j := 13) (by decide) (fun _ => rfl) fl_X0_40 (by decide +kernel) rfl) ?_
  refine pm_cn (sd_iconst (z := 0) (by decide +kernel) (by decide +kernel) rfl) ?_
  refine pm_cn (sd_aln (k := 0) (by decide +kernel) rfl rfl) ?_
  refine pm_cn (sd_gr cl0_ in0_ (j := 13) (by decide) (fun _ => rfl) fl_X0_40 (by decide +kernel) rfl) ?_
  refine pm_cn (sd_iconst (z := 0) (by decide +kernel) (by decide +kernel) rfl) ?_
  refine pm_cn (sd_bipush (z := 6) (by decide +kernel) (by decide +kernel) rfl) ?_
  refine pm_cn (sd_cp ml_X0_55 nt_arraycopy st_arraycopy nt_System (by decide) (by decide +kernel) rfl) ?_
  refine pm_cn (sd_vr (by decide +kernel)) ?_
  exact fun _ h => absurd h List.not_mem_nil
set_option maxHeartbeats 4000000 in
set_option maxRecDepth 100000 in
theorem pf_X0_take : pm_pf T_X0_take P_X0_take (pm_pv Q_X0_take) := by
  rintro ⟨i, k, L, M, h0⟩ av h K hK ⟨rfl, rfl, hL, hM, wL, wM, hk⟩ hret
  have e := la_self hL
  have hcp := la_cp hM hk
  have hrd : ∀ (N : LD) (s j : Nat), la_put h i N 0 k s j = nI (M s j) := fun N s j => by rw [la_put_ne (by omega), hM]
  show K (some 0) ([(0, vR 0 i 0), (1, vR 0 k 0)], [], h)
  rw [← e]
  refine hK [] 120 _ _ ?_
  conv => whnf
  repeat' (first
    | (refine ⟨fun c => ?_, fun c => ?_⟩ <;> (try simp (disch := omega) only [nI_leI, nI_ltI, nI_eq, nz_eq, nz_lt, nz_gt, nz_le, nz_ge, nz_00, nz_10, nz_n1, nI_add, pk_mul, pk_sub, nI_shl1, nI_or, nI_half2, nI_min2, la_put_eq, la_up, lr_same, lr_ne, lu_same, lu_ne, hcp, hrd] at c) <;> first | (exfalso; omega) | conv => whnf)
    | (refine ⟨_, rfl, by omega, ?_⟩; conv => whnf)
    | (refine ⟨_, rfl, rfl, rfl, by decide, by decide, ?_⟩; conv => whnf)
    | (refine ⟨_, by (simp (disch := omega) only [nI_leI, nI_ltI, nI_eq, nz_eq, nz_lt, nz_gt, nz_le, nz_ge, nz_00, nz_10, nz_n1, nI_add, pk_mul, pk_sub, nI_shl1, nI_or, nI_half2, nI_min2, la_put_eq, la_up, lr_same, lr_ne, lu_same, lu_ne, hcp, hrd]; rfl), by omega, ?_⟩; conv => whnf)
    | (refine And.intro (by decide) ?_; conv => whnf))
  all_goals (try simp (disch := omega) only [nI_leI, nI_ltI, nI_eq, nz_eq, nz_lt, nz_gt, nz_le, nz_ge, nz_00, nz_10, nz_n1, nI_add, pk_mul, pk_sub, nI_shl1, nI_or, nI_half2, nI_min2, la_put_eq, la_up, lr_same, lr_ne, lu_same, lu_ne, hcp, hrd])
  refine hret _ _ ?_
  show _ = _
  rw [sp_take_eq wL wM]
theorem M_X0_take : pm_MT yX0_take cX0_take 2 0 1 P_X0_take (pm_pv Q_X0_take) := pm_met k_X0_take (by decide) rfl (by
  rintro ⟨g0, g1, g2, g3, g4⟩ av h hp
  rw [hp.1]
  exact Nat.le_of_ble_eq_true rfl) pf_X0_take
theorem rc_X0_take : ∀ g av h, P_X0_take g av h → ∃ i t, av = .inr (.inr (0, i, 0)) :: t := by
  rintro ⟨g0, g1, g2, g3, g4⟩ av h hp
  exact ⟨_, _, hp.1⟩
/-! additions -/
def sp_addF (L : LD) (e : Nat) : LD := lu (lu (lu L 1 (L 0 0) e) 2 (L 0 0) 0) 0 0 (L 0 0 + 1)
def P_X0_addFellow : Nat × Nat × LD × pm_H → List pm_V → pm_H → Prop := fun g av h => match g with
  | (i, e, L, h0) => av = [vR 0 i 0, vI (nI e)] ∧ h = h0 ∧ la_at h0 i L ∧ la_ok L
def Q_X0_addFellow : Nat × Nat × LD × pm_H → Int32 → pm_H → Prop := fun g v h => match g with
  | (i, e, L, h0) => (L 0 0 < 4 ∧ v = nI 1 ∧ h = la_put h0 i (sp_addF L e)) ∨ (4 ≤ L 0 0 ∧ v = nI 0 ∧ h = h0)
def T_X0_addFellow : List (Nat × pm_T) := [
  (0, i_al 0 1),
  (1, i_gi 0 0 4),
  (4, i_c (nI 4) 5),
  (5, i_iclt 10 8),
  (8, i_c (nI 0) 9),
  (9, i_zr),
  (10, i_al 0 11),
  (11, i_gr 0 (fun i => (0, i, 1)) 14),
  (14, i_al 0 15),
  (15, i_gi 0 0 18),
  (18, i_il 1 19),
  (19, i_ias 20),
  (20, i_al 0 21),
  (21, i_gr 0 (fun i => (0, i, 2)) 24),
  (24, i_al 0 25),
  (25, i_gi 0 0 28),
  (28, i_c (nI 0) 29),
  (29, i_ias 30),
  (30, i_al 0 31),
  (31, i_dup 32),
  (32, i_gi 0 0 35),
  (35, i_c (nI 1) 36),
  (36, i_iadd 37),
  (37, i_pi 0 0 40),
  (40, i_c (nI 1) 41),
  (41, i_zr)]
theorem k_X0_addFellow : ∀ q ∈ T_X0_addFellow, pm_sd RX0 cX0_addFellow 2 1 3 q.1 q.2 := by
  unfold T_X0_addFellow
  refine pm_cn (sd_aln (k := 0) (by decide +kernel) rfl rfl) ?_
  refine pm_cn (sd_gi cl0_ in0_ (by decide) (fun _ => rfl) fl_X0_43 (by decide +kernel) rfl) ?_
  refine pm_cn (sd_iconst (z := 4) (by decide +kernel) (by decide +kernel) rfl) ?_
  refine pm_cn (sd_iclt (off := 5) (by decide +kernel) (by decide) rfl) ?_
  refine pm_cn (sd_iconst (z := 0) (by decide +kernel) (by decide +kernel) rfl) ?_
  refine pm_cn (sd_zr (by decide +kernel)) ?_
  refine pm_cn (sd_aln (k := 0) (by decide +kernel) rfl rfl) ?_
  refine pm_cn (sd_gr cl0_ in0_ (j := 1) (by decide) (fun _ => rfl) fl_X0_9 (by decide +kernel) rfl) ?_
  refine pm_cn (sd_aln (k := 0) (by decide +kernel) rfl rfl) ?_
  refine pm_cn (sd_gi cl0_ in0_ (by decide) (fun _ => rfl) fl_X0_43 (by decide +kernel) rfl) ?_
  refine pm_cn (sd_iln (k := 1) (by decide +kernel) rfl rfl) ?_
  refine pm_cn (sd_ias (by decide +kernel) rfl) ?_
  refine pm_cn (sd_aln (k := 0) (by decide +kernel) rfl rfl) ?_
  refine pm_cn (sd_gr cl0_ in0_ (j := 2) (by decide) (fun _ => rfl) fl_X0_15 (by decide +kernel) rfl) ?_
  refine pm_cn (sd_aln (k := 0) (by decide +kernel) rfl rfl) ?_
  refine pm_cn (sd_gi cl0_ in0_ (by decide) (fun _ => rfl) fl_X0_43 (by decide +kernel) rfl) ?_
  refine pm_cn (sd_iconst (z := 0) (by decide +kernel) (by decide +kernel) rfl) ?_
  refine pm_cn (sd_ias (by decide +kernel) rfl) ?_
  refine pm_cn (sd_aln (k := 0) (by decide +kernel) rfl rfl) ?_
  refine pm_cn (sd_dup (by decide +kernel) rfl) ?_
  refine pm_cn (sd_gi cl0_ in0_ (by decide) (fun _ => rfl) fl_X0_43 (by decide +kernel) rfl) ?_
  refine pm_cn (sd_iconst (z := 1) (by decide +kernel) (by decide +kernel) rfl) ?_
  refine pm_cn (sd_iadd (by decide +kernel) rfl) ?_
  refine pm_cn (sd_pi cl0_ in0_ tyX0 tyX0_ok nmX0 (by decide) (fun _ => rfl) rfl rfl fl_X0_43 (by decide +kernel) rfl) ?_
  refine pm_cn (sd_iconst (z := 1) (by decide +kernel) (by decide +kernel) rfl) ?_
  refine pm_cn (sd_zr (by decide +kernel)) ?_
  exact fun _ h => absurd h List.not_mem_nil
set_option maxHeartbeats 4000000 in
set_option maxRecDepth 100000 in
theorem pf_X0_addFellow : pm_pf T_X0_addFellow P_X0_addFellow (pm_pi Q_X0_addFellow) := by
  rintro ⟨i, x, L, h0⟩ av h K hK ⟨rfl, rfl, hL, hw⟩ hret
  have w1 := hw.1
  have e := la_self hL
  show K (some 0) ([(0, vR 0 i 0), (1, vI (nI x))], [], h)
  rw [← e]
  refine hK [] 60 _ _ ?_
  conv => whnf
  repeat' (first
    | (refine ⟨fun c => ?_, fun c => ?_⟩ <;> (try simp (disch := omega) only [nI_leI, nI_ltI, nI_eq, nz_eq, nz_lt, nz_gt, nz_le, nz_ge, nz_00, nz_10, nz_n1, nI_add, pk_mul, pk_sub, nI_shl1, nI_or, nI_half2, nI_min2, la_put_eq, la_up, lr_same, lr_ne, lu_same, lu_ne] at c) <;> first | (exfalso; omega) | conv => whnf)
    | (refine ⟨_, rfl, by omega, ?_⟩; conv => whnf)
    | (refine ⟨_, rfl, rfl, rfl, by decide, by decide, ?_⟩; conv => whnf)
    | (refine ⟨_, by (simp (disch := omega) only [nI_leI, nI_ltI, nI_eq, nz_eq, nz_lt, nz_gt, nz_le, nz_ge, nz_00, nz_10, nz_n1, nI_add, pk_mul, pk_sub, nI_shl1, nI_or, nI_half2, nI_min2, la_put_eq, la_up, lr_same, lr_ne, lu_same, lu_ne]; rfl), by omega, ?_⟩; conv => whnf)
    | (refine And.intro (by decide) ?_; conv => whnf))
  all_goals (try simp (disch := omega) only [nI_leI, nI_ltI, nI_eq, nz_eq, nz_lt, nz_gt, nz_le, nz_ge, nz_00, nz_10, nz_n1, nI_add, pk_mul, pk_sub, nI_shl1, nI_or, nI_half2, nI_min2, la_put_eq, la_up, lr_same, lr_ne, lu_same, lu_ne])
  · refine hret _ _ ?_
    exact Or.inl ⟨by omega, rfl, rfl⟩
  · refine hret _ _ ?_
    exact Or.inr ⟨by omega, rfl, e⟩
theorem M_X0_addFellow : pm_MT yX0_addFellow cX0_addFellow 2 3 1 P_X0_addFellow (pm_pi Q_X0_addFellow) := pm_met k_X0_addFellow (by decide) rfl (by
  rintro ⟨g0, g1, g2, g3⟩ av h hp
  rw [hp.1]
  exact Nat.le_of_ble_eq_true rfl) pf_X0_addFellow
theorem rc_X0_addFellow : ∀ g av h, P_X0_addFellow g av h → ∃ i t, av = .inr (.inr (0, i, 0)) :: t := by
  rintro ⟨g0, g1, g2, g3⟩ av h hp
  exact ⟨_, _, hp.1⟩
def sp_addB (L : LD) (k s c f : Nat) : LD := lu (lu (lu (lu (lu L 3 (L 0 3) k) 4 (L 0 3) s) 5 (L 0 3) c) 6 (L 0 3) f) 0 3 (L 0 3 + 1)
def P_X0_addBiscuit : Nat × Nat × Nat × Nat × Nat × LD × pm_H → List pm_V → pm_H → Prop := fun g av h => match g with
  | (i, k, s, c, f, L, h0) => av = [vR 0 i 0, vI (nI k), vI (nI s), vI (nI c), vI (nI f)] ∧ h = h0 ∧ la_at h0 i L ∧ la_ok L
def Q_X0_addBiscuit : Nat × Nat × Nat × Nat × Nat × LD × pm_H → Int32 → pm_H → Prop := fun g v h => match g with
  | (i, k, s, c, f, L, h0) => (L 0 3 < 6 ∧ v = nI 1 ∧ h = la_put h0 i (sp_addB L k s c f)) ∨ (6 ≤ L 0 3 ∧ v = nI 0 ∧ h = h0)
def T_X0_addBiscuit : List (Nat × pm_T) := [
  (0, i_al 0 1),
  (1, i_gi 0 3 4),
  (4, i_c (nI 6) 6),
  (6, i_iclt 11 9),
  (9, i_c (nI 0) 10),
  (10, i_zr),
  (11, i_al 0 12),
  (12, i_gr 0 (fun i => (0, i, 3)) 15),
  (15, i_al 0 16),
  (16, i_gi 0 3 19),
  (19, i_il 1 20),
  (20, i_ias 21),
  (21, i_al 0 22),
  (22, i_gr 0 (fun i => (0, i, 4)) 25),
  (25, i_al 0 26),
  (26, i_gi 0 3 29),
  (29, i_il 2 30),
  (30, i_ias 31),
  (31, i_al 0 32),
  (32, i_gr 0 (fun i => (0, i, 5)) 35),
  (35, i_al 0 36),
  (36, i_gi 0 3 39),
  (39, i_il 3 40),
  (40, i_ias 41),
  (41, i_al 0 42),
  (42, i_gr 0 (fun i => (0, i, 6)) 45),
  (45, i_al 0 46),
  (46, i_gi 0 3 49),
  (49, i_il 4 51),
  (51, i_ias 52),
  (52, i_al 0 53),
  (53, i_dup 54),
  (54, i_gi 0 3 57),
  (57, i_c (nI 1) 58),
  (58, i_iadd 59),
  (59, i_pi 0 3 62),
  (62, i_c (nI 1) 63),
  (63, i_zr)]
theorem k_X0_addBiscuit : ∀ q ∈ T_X0_addBiscuit, pm_sd RX0 cX0_addBiscuit 5 1 3 q.1 q.2 := by
  unfold T_X0_addBiscuit
  refine pm_cn (sd_aln (k := 0) (by decide +kernel) rfl rfl) ?_
  refine pm_cn (sd_gi cl0_ in0_ (by decide) (fun _ => rfl) fl_X0_46 (by decide +kernel) rfl) ?_
  refine pm_cn (sd_bipush (z := 6) (by decide +kernel) (by decide +kernel) rfl) ?_
  refine pm_cn (sd_iclt (off := 5) (by decide +kernel) (by decide) rfl) ?_
  refine pm_cn (sd_iconst (z := 0) (by decide +kernel) (by decide +kernel) rfl) ?_
  refine pm_cn (sd_zr (by decide +kernel)) ?_
  refine pm_cn (sd_aln (k := 0) (by decide +kernel) rfl rfl) ?_
  refine pm_cn (sd_gr cl0_ in0_ (j := 4) (by decide) (fun _ => rfl) fl_X0_18 (by decide +kernel) rfl) ?_
  refine pm_cn (sd_aln (k := 0) (by decide +kernel) rfl rfl) ?_
  refine pm_cn (sd_gi cl0_ in0_ (by decide) (fun _ => rfl) fl_X0_46 (by decide +kernel) rfl) ?_
  refine pm_cn (sd_iln (k := 1) (by decide +kernel) rfl rfl) ?_
  refine pm_cn (sd_ias (by decide +kernel) rfl) ?_
  refine pm_cn (sd_aln (k := 0) (by decide +kernel) rfl rfl) ?_
  refine pm_cn (sd_gr cl0_ in0_ (j := 5) (by decide) (fun _ => rfl) fl_X0_21 (by decide +kernel) rfl) ?_
  refine pm_cn (sd_aln (k := 0) (by decide +kernel) rfl rfl) ?_
  refine pm_cn (sd_gi cl0_ in0_ (by decide) (fun _ => rfl) fl_X0_46 (by decide +kernel) rfl) ?_
  refine pm_cn (sd_iln (k := 2) (by decide +kernel) rfl rfl) ?_
  refine pm_cn (sd_ias (by decide +kernel) rfl) ?_
  refine pm_cn (sd_aln (k := 0) (by decide +kernel) rfl rfl) ?_
  refine pm_cn (sd_gr cl0_ in0_ (j := 6) (by decide) (fun _ => rfl) fl_X0_24 (by decide +kernel) rfl) ?_
  refine pm_cn (sd_aln (k := 0) (by decide +kernel) rfl rfl) ?_
  refine pm_cn (sd_gi cl0_ in0_ (by decide) (fun _ => rfl) fl_X0_46 (by decide +kernel) rfl) ?_
  refine pm_cn (sd_iln (k := 3) (by decide +kernel) rfl rfl) ?_
  refine pm_cn (sd_ias (by decide +kernel) rfl) ?_
  refine pm_cn (sd_aln (k := 0) (by decide +kernel) rfl rfl) ?_
  refine pm_cn (sd_gr cl0_ in0_ (j := 7) (by decide) (fun _ => rfl) fl_X0_27 (by decide +kernel) rfl) ?_
  refine pm_cn (sd_aln (k := 0) (by decide +kernel) rfl rfl) ?_
  refine pm_cn (sd_gi cl0_ in0_ (by decide) (fun _ => rfl) fl_X0_46 (by decide +kernel) rfl) ?_
  refine pm_cn (sd_il (by decide +kernel) rfl) ?_
  refine pm_cn (sd_ias (by decide +kernel) rfl) ?_
  refine pm_cn (sd_aln (k := 0) (by decide +kernel) rfl rfl) ?_
  refine pm_cn (sd_dup (by decide +kernel) rfl) ?_
  refine pm_cn (sd_gi cl0_ in0_ (by decide) (fun _ => rfl) fl_X0_46 (by decide +kernel) rfl) ?_
  refine pm_cn (sd_iconst (z := 1) (by decide +kernel) (by decide +kernel) rfl) ?_
  refine pm_cn (sd_iadd (by decide +kernel) rfl) ?_
  refine pm_cn (sd_pi cl0_ in0_ tyX0 tyX0_ok nmX0 (by decide) (fun _ => rfl) rfl rfl fl_X0_46 (by decide +kernel) rfl) ?_
  refine pm_cn (sd_iconst (z := 1) (by decide +kernel) (by decide +kernel) rfl) ?_
  refine pm_cn (sd_zr (by decide +kernel)) ?_
  exact fun _ h => absurd h List.not_mem_nil
set_option maxHeartbeats 4000000 in
set_option maxRecDepth 100000 in
theorem pf_X0_addBiscuit : pm_pf T_X0_addBiscuit P_X0_addBiscuit (pm_pi Q_X0_addBiscuit) := by
  rintro ⟨i, k, s, x, f, L, h0⟩ av h K hK ⟨rfl, rfl, hL, hw⟩ hret
  have w1 := hw.2.1
  have e := la_self hL
  show K (some 0) ([(0, vR 0 i 0), (1, vI (nI k)), (2, vI (nI s)), (3, vI (nI x)), (4, vI (nI f))], [], h)
  rw [← e]
  refine hK [] 60 _ _ ?_
  conv => whnf
  repeat' (first
    | (refine ⟨fun c => ?_, fun c => ?_⟩ <;> (try simp (disch := omega) only [nI_leI, nI_ltI, nI_eq, nz_eq, nz_lt, nz_gt, nz_le, nz_ge, nz_00, nz_10, nz_n1, nI_add, pk_mul, pk_sub, nI_shl1, nI_or, nI_half2, nI_min2, la_put_eq, la_up, lr_same, lr_ne, lu_same, lu_ne] at c) <;> first | (exfalso; omega) | conv => whnf)
    | (refine ⟨_, rfl, by omega, ?_⟩; conv => whnf)
    | (refine ⟨_, rfl, rfl, rfl, by decide, by decide, ?_⟩; conv => whnf)
    | (refine ⟨_, by (simp (disch := omega) only [nI_leI, nI_ltI, nI_eq, nz_eq, nz_lt, nz_gt, nz_le, nz_ge, nz_00, nz_10, nz_n1, nI_add, pk_mul, pk_sub, nI_shl1, nI_or, nI_half2, nI_min2, la_put_eq, la_up, lr_same, lr_ne, lu_same, lu_ne]; rfl), by omega, ?_⟩; conv => whnf)
    | (refine And.intro (by decide) ?_; conv => whnf))
  all_goals (try simp (disch := omega) only [nI_leI, nI_ltI, nI_eq, nz_eq, nz_lt, nz_gt, nz_le, nz_ge, nz_00, nz_10, nz_n1, nI_add, pk_mul, pk_sub, nI_shl1, nI_or, nI_half2, nI_min2, la_put_eq, la_up, lr_same, lr_ne, lu_same, lu_ne])
  · refine hret _ _ ?_
    exact Or.inl ⟨by omega, rfl, rfl⟩
  · refine hret _ _ ?_
    exact Or.inr ⟨by omega, rfl, e⟩
theorem M_X0_addBiscuit : pm_MT yX0_addBiscuit cX0_addBiscuit 5 3 1 P_X0_addBiscuit (pm_pi Q_X0_addBiscuit) := pm_met k_X0_addBiscuit (by decide) rfl (by
  rintro ⟨g0, g1, g2, g3, g4, g5, g6⟩ av h hp
  rw [hp.1]
  exact Nat.le_of_ble_eq_true rfl) pf_X0_addBiscuit
theorem rc_X0_addBiscuit : ∀ g av h, P_X0_addBiscuit g av h → ∃ i t, av = .inr (.inr (0, i, 0)) :: t := by
  rintro ⟨g0, g1, g2, g3, g4, g5, g6⟩ av h hp
  exact ⟨_, _, hp.1⟩
def sp_addQ (L : LD) (d s : Nat) : LD := lu (lu (lu L 7 (L 0 11) d) 8 (L 0 11) s) 0 11 (L 0 11 + 1)
def P_X0_addQuestion : Nat × Nat × Nat × LD × pm_H → List pm_V → pm_H → Prop := fun g av h => match g with
  | (i, d, s, L, h0) => av = [vR 0 i 0, vI (nI d), vI (nI s)] ∧ h = h0 ∧ la_at h0 i L ∧ la_ok L
def Q_X0_addQuestion : Nat × Nat × Nat × LD × pm_H → Int32 → pm_H → Prop := fun g v h => match g with
  | (i, d, s, L, h0) => (L 0 11 < 6 ∧ v = nI 1 ∧ h = la_put h0 i (sp_addQ L d s)) ∨ (6 ≤ L 0 11 ∧ v = nI 0 ∧ h = h0)
def T_X0_addQuestion : List (Nat × pm_T) := [
  (0, i_al 0 1),
  (1, i_gi 0 11 4),
  (4, i_c (nI 6) 6),
  (6, i_iclt 11 9),
  (9, i_c (nI 0) 10),
  (10, i_zr),
  (11, i_al 0 12),
  (12, i_gr 0 (fun i => (0, i, 7)) 15),
  (15, i_al 0 16),
  (16, i_gi 0 11 19),
  (19, i_il 1 20),
  (20, i_ias 21),
  (21, i_al 0 22),
  (22, i_gr 0 (fun i => (0, i, 8)) 25),
  (25, i_al 0 26),
  (26, i_gi 0 11 29),
  (29, i_il 2 30),
  (30, i_ias 31),
  (31, i_al 0 32),
  (32, i_dup 33),
  (33, i_gi 0 11 36),
  (36, i_c (nI 1) 37),
  (37, i_iadd 38),
  (38, i_pi 0 11 41),
  (41, i_c (nI 1) 42),
  (42, i_zr)]
theorem k_X0_addQuestion : ∀ q ∈ T_X0_addQuestion, pm_sd RX0 cX0_addQuestion 3 1 3 q.1 q.2 := by
  unfold T_X0_addQuestion
  refine pm_cn (sd_aln (k := 0) (by decide +kernel) rfl rfl) ?_
  refine pm_cn (sd_gi cl0_ in0_ (by decide) (fun _ => rfl) fl_X0_49 (by decide +kernel) rfl) ?_
  refine pm_cn (sd_bipush (z := 6) (by decide +kernel) (by decide +kernel) rfl) ?_
  refine pm_cn (sd_iclt (off := 5) (by decide +kernel) (by decide) rfl) ?_
  refine pm_cn (sd_iconst (z := 0) (by decide +kernel) (by decide +kernel) rfl) ?_
  refine pm_cn (sd_zr (by decide +kernel)) ?_
  refine pm_cn (sd_aln (k := 0) (by decide +kernel) rfl rfl) ?_
  refine pm_cn (sd_gr cl0_ in0_ (j := 12) (by decide) (fun _ => rfl) fl_X0_37 (by decide +kernel) rfl) ?_
  refine pm_cn (sd_aln (k := 0) (by decide +kernel) rfl rfl) ?_
  refine pm_cn (sd_gi cl0_ in0_ (by decide) (fun _ => rfl) fl_X0_49 (by decide +kernel) rfl) ?_
  refine pm_cn (sd_iln (k := 1) (by decide +kernel) rfl rfl) ?_
  refine pm_cn (sd_ias (by decide +kernel) rfl) ?_
  refine pm_cn (sd_aln (k := 0) (by decide +kernel) rfl rfl) ?_
  refine pm_cn (sd_gr cl0_ in0_ (j := 13) (by decide) (fun _ => rfl) fl_X0_40 (by decide +kernel) rfl) ?_
  refine pm_cn (sd_aln (k := 0) (by decide +kernel) rfl rfl) ?_
  refine pm_cn (sd_gi cl0_ in0_ (by decide) (fun _ => rfl) fl_X0_49 (by decide +kernel) rfl) ?_
  refine pm_cn (sd_iln (k := 2) (by decide +kernel) rfl rfl) ?_
  refine pm_cn (sd_ias (by decide +kernel) rfl) ?_
  refine pm_cn (sd_aln (k := 0) (by decide +kernel) rfl rfl) ?_
  refine pm_cn (sd_dup (by decide +kernel) rfl) ?_
  refine pm_cn (sd_gi cl0_ in0_ (by decide) (fun _ => rfl) fl_X0_49 (by decide +kernel) rfl) ?_
  refine pm_cn (sd_iconst (z := 1) (by decide +kernel) (by decide +kernel) rfl) ?_
  refine pm_cn (sd_iadd (by decide +kernel) rfl) ?_
  refine pm_cn (sd_pi cl0_ in0_ tyX0 tyX0_ok nmX0 (by decide) (fun _ => rfl) rfl rfl fl_X0_49 (by decide +kernel) rfl) ?_
  refine pm_cn (sd_iconst (z := 1) (by decide +kernel) (by decide +kernel) rfl) ?_
  refine pm_cn (sd_zr (by decide +kernel)) ?_
  exact fun _ h => absurd h List.not_mem_nil
set_option maxHeartbeats 4000000 in
set_option maxRecDepth 100000 in
theorem pf_X0_addQuestion : pm_pf T_X0_addQuestion P_X0_addQuestion (pm_pi Q_X0_addQuestion) := by
  rintro ⟨i, x, s, L, h0⟩ av h K hK ⟨rfl, rfl, hL, hw⟩ hret
  have w1 := hw.2.2.2.2.2.1
  have e := la_self hL
  show K (some 0) ([(0, vR 0 i 0), (1, vI (nI x)), (2, vI (nI s))], [], h)
  rw [← e]
  refine hK [] 60 _ _ ?_
  conv => whnf
  repeat' (first
    | (refine ⟨fun c => ?_, fun c => ?_⟩ <;> (try simp (disch := omega) only [nI_leI, nI_ltI, nI_eq, nz_eq, nz_lt, nz_gt, nz_le, nz_ge, nz_00, nz_10, nz_n1, nI_add, pk_mul, pk_sub, nI_shl1, nI_or, nI_half2, nI_min2, la_put_eq, la_up, lr_same, lr_ne, lu_same, lu_ne] at c) <;> first | (exfalso; omega) | conv => whnf)
    | (refine ⟨_, rfl, by omega, ?_⟩; conv => whnf)
    | (refine ⟨_, rfl, rfl, rfl, by decide, by decide, ?_⟩; conv => whnf)
    | (refine ⟨_, by (simp (disch := omega) only [nI_leI, nI_ltI, nI_eq, nz_eq, nz_lt, nz_gt, nz_le, nz_ge, nz_00, nz_10, nz_n1, nI_add, pk_mul, pk_sub, nI_shl1, nI_or, nI_half2, nI_min2, la_put_eq, la_up, lr_same, lr_ne, lu_same, lu_ne]; rfl), by omega, ?_⟩; conv => whnf)
    | (refine And.intro (by decide) ?_; conv => whnf))
  all_goals (try simp (disch := omega) only [nI_leI, nI_ltI, nI_eq, nz_eq, nz_lt, nz_gt, nz_le, nz_ge, nz_00, nz_10, nz_n1, nI_add, pk_mul, pk_sub, nI_shl1, nI_or, nI_half2, nI_min2, la_put_eq, la_up, lr_same, lr_ne, lu_same, lu_ne])
  · refine hret _ _ ?_
    exact Or.inl ⟨by omega, rfl, rfl⟩
  · refine hret _ _ ?_
    exact Or.inr ⟨by omega, rfl, e⟩
theorem M_X0_addQuestion : pm_MT yX0_addQuestion cX0_addQuestion 3 3 1 P_X0_addQuestion (pm_pi Q_X0_addQuestion) := pm_met k_X0_addQuestion (by decide) rfl (by
  rintro ⟨g0, g1, g2, g3, g4⟩ av h hp
  rw [hp.1]
  exact Nat.le_of_ble_eq_true rfl) pf_X0_addQuestion
theorem rc_X0_addQuestion : ∀ g av h, P_X0_addQuestion g av h → ∃ i t, av = .inr (.inr (0, i, 0)) :: t := by
  rintro ⟨g0, g1, g2, g3, g4⟩ av h hp
  exact ⟨_, _, hp.1⟩
theorem la_ok_addF {L : LD} (hw : la_ok L) {e : Nat} (he : e ≤ 9) (h : L 0 0 < 4) : la_ok (sp_addF L e) := by
  unfold sp_addF
  refine la_ok_lu (la_ok_lu (la_ok_lu hw ?_ ?_) ?_ ?_) ?_ ?_ <;> first | (unfold la_rel; omega) | (unfold la_bd; omega)
theorem la_ok_addB {L : LD} (hw : la_ok L) {k s c f : Nat} (hk : k ≤ 3) (hs : s ≤ 9) (hc : c ≤ 99) (hf : f ≤ 3) (h : L 0 3 < 6) : la_ok (sp_addB L k s c f) := by
  unfold sp_addB
  refine la_ok_lu (la_ok_lu (la_ok_lu (la_ok_lu (la_ok_lu hw ?_ ?_) ?_ ?_) ?_ ?_) ?_ ?_) ?_ ?_ <;> first | (unfold la_rel; omega) | (unfold la_bd; omega)
theorem la_ok_addQ {L : LD} (hw : la_ok L) {d s : Nat} (hd : d ≤ 99) (hs : s ≤ 9) (h : L 0 11 < 6) : la_ok (sp_addQ L d s) := by
  unfold sp_addQ
  refine la_ok_lu (la_ok_lu (la_ok_lu hw ?_ ?_) ?_ ?_) ?_ ?_ <;> first | (unfold la_rel; omega) | (unfold la_bd; omega)
/-! exchange -/
def sp_tr (L : LD) (s a b : Nat) : LD := lu (lu L s a (L s b)) s b (L s a)
def P_X0_trade : Nat × Nat × Nat × Nat × LD × pm_H → List pm_V → pm_H → Prop := fun g av h => match g with
  | (i, s, a, b, L, h0) => av = [vR 0 i s, vI (nI a), vI (nI b)] ∧ h = h0 ∧ la_at h0 i L ∧ (s = 3 ∨ s = 4 ∨ s = 5 ∨ s = 6) ∧ a < 6 ∧ b < 6
def Q_X0_trade : Nat × Nat × Nat × Nat × LD × pm_H → pm_H → Prop := fun g h => match g with
  | (i, s, a, b, L, h0) => h = la_put h0 i (sp_tr L s a b)
def T_X0_trade : List (Nat × pm_T) := [
  (0, i_al 0 1),
  (1, i_il 1 2),
  (2, i_ia 3),
  (3, i_is 3 4),
  (4, i_al 0 5),
  (5, i_il 1 6),
  (6, i_al 0 7),
  (7, i_il 2 8),
  (8, i_ia 9),
  (9, i_ias 10),
  (10, i_al 0 11),
  (11, i_il 2 12),
  (12, i_il 3 13),
  (13, i_ias 14),
  (14, i_vr)]
theorem k_X0_trade : ∀ q ∈ T_X0_trade, pm_sd RX0 cX0_trade 4 1 0 q.1 q.2 := by
  unfold T_X0_trade
  refine pm_cn (sd_aln (k := 0) (by decide +kernel) rfl rfl) ?_
  refine pm_cn (sd_iln (k := 1) (by decide +kernel) rfl rfl) ?_
  refine pm_cn (sd_ia (by decide +kernel) rfl) ?_
  refine pm_cn (sd_isn (k := 3) (by decide +kernel) rfl rfl (by decide)) ?_
  refine pm_cn (sd_aln (k := 0) (by decide +kernel) rfl rfl) ?_
  refine pm_cn (sd_iln (k := 1) (by decide +kernel) rfl rfl) ?_
  refine pm_cn (sd_aln (k := 0) (by decide +kernel) rfl rfl) ?_
  refine pm_cn (sd_iln (k := 2) (by decide +kernel) rfl rfl) ?_
  refine pm_cn (sd_ia (by decide +kernel) rfl) ?_
  refine pm_cn (sd_ias (by decide +kernel) rfl) ?_
  refine pm_cn (sd_aln (k := 0) (by decide +kernel) rfl rfl) ?_
  refine pm_cn (sd_iln (k := 2) (by decide +kernel) rfl rfl) ?_
  refine pm_cn (sd_iln (k := 3) (by decide +kernel) rfl rfl) ?_
  refine pm_cn (sd_ias (by decide +kernel) rfl) ?_
  refine pm_cn (sd_vr (by decide +kernel)) ?_
  exact fun _ h => absurd h List.not_mem_nil
set_option maxHeartbeats 4000000 in
set_option maxRecDepth 100000 in
theorem pf_X0_trade : pm_pf T_X0_trade P_X0_trade (pm_pv Q_X0_trade) := by
  rintro ⟨i, s, a, b, L, h0⟩ av h K hK ⟨rfl, rfl, hL, hs, ha, hb⟩ hret
  have e := la_self hL
  show K (some 0) ([(0, vR 0 i s), (1, vI (nI a)), (2, vI (nI b))], [], h)
  rw [← e]
  rcases hs with rfl | rfl | rfl | rfl
  · refine hK [] 60 _ _ ?_
    conv => whnf
    repeat' (first
      | (refine ⟨fun c => ?_, fun c => ?_⟩ <;> (try simp (disch := omega) only [nI_leI, nI_ltI, nI_eq, nz_eq, nz_lt, nz_gt, nz_le, nz_ge, nz_00, nz_10, nz_n1, nI_add, pk_mul, pk_sub, nI_shl1, nI_or, nI_half2, nI_min2, la_put_eq, la_up, lr_same, lr_ne, lu_same, lu_ne] at c) <;> first | (exfalso; omega) | conv => whnf)
      | (refine ⟨_, rfl, by omega, ?_⟩; conv => whnf)
      | (refine ⟨_, rfl, rfl, rfl, by decide, by decide, ?_⟩; conv => whnf)
      | (refine ⟨_, by (simp (disch := omega) only [nI_leI, nI_ltI, nI_eq, nz_eq, nz_lt, nz_gt, nz_le, nz_ge, nz_00, nz_10, nz_n1, nI_add, pk_mul, pk_sub, nI_shl1, nI_or, nI_half2, nI_min2, la_put_eq, la_up, lr_same, lr_ne, lu_same, lu_ne]; rfl), by omega, ?_⟩; conv => whnf)
      | (refine And.intro (by decide) ?_; conv => whnf))
    all_goals (try simp (disch := omega) only [nI_leI, nI_ltI, nI_eq, nz_eq, nz_lt, nz_gt, nz_le, nz_ge, nz_00, nz_10, nz_n1, nI_add, pk_mul, pk_sub, nI_shl1, nI_or, nI_half2, nI_min2, la_put_eq, la_up, lr_same, lr_ne, lu_same, lu_ne])
    exact hret _ _ rfl
  · refine hK [] 60 _ _ ?_
    conv => whnf
    repeat' (first
      | (refine ⟨fun c => ?_, fun c => ?_⟩ <;> (try simp (disch := omega) only [nI_leI, nI_ltI, nI_eq, nz_eq, nz_lt, nz_gt, nz_le, nz_ge, nz_00, nz_10, nz_n1, nI_add, pk_mul, pk_sub, nI_shl1, nI_or, nI_half2, nI_min2, la_put_eq, la_up, lr_same, lr_ne, lu_same, lu_ne] at c) <;> first | (exfalso; omega) | conv => whnf)
      | (refine ⟨_, rfl, by omega, ?_⟩; conv => whnf)
      | (refine ⟨_, rfl, rfl, rfl, by decide, by decide, ?_⟩; conv => whnf)
      | (refine ⟨_, by (simp (disch := omega) only [nI_leI, nI_ltI, nI_eq, nz_eq, nz_lt, nz_gt, nz_le, nz_ge, nz_00, nz_10, nz_n1, nI_add, pk_mul, pk_sub, nI_shl1, nI_or, nI_half2, nI_min2, la_put_eq, la_up, lr_same, lr_ne, lu_same, lu_ne]; rfl), by omega, ?_⟩; conv => whnf)
      | (refine And.intro (by decide) ?_; conv => whnf))
    all_goals (try simp (disch := omega) only [nI_leI, nI_ltI, nI_eq, nz_eq, nz_lt, nz_gt, nz_le, nz_ge, nz_00, nz_10, nz_n1, nI_add, pk_mul, pk_sub, nI_shl1, nI_or, nI_half2, nI_min2, la_put_eq, la_up, lr_same, lr_ne, lu_same, lu_ne])
    exact hret _ _ rfl
  · refine hK [] 60 _ _ ?_
    conv => whnf
    repeat' (first
      | (refine ⟨fun c => ?_, fun c => ?_⟩ <;> (try simp (disch := omega) only [nI_leI, nI_ltI, nI_eq, nz_eq, nz_lt, nz_gt, nz_le, nz_ge, nz_00, nz_10, nz_n1, nI_add, pk_mul, pk_sub, nI_shl1, nI_or, nI_half2, nI_min2, la_put_eq, la_up, lr_same, lr_ne, lu_same, lu_ne] at c) <;> first | (exfalso; omega) | conv => whnf)
      | (refine ⟨_, rfl, by omega, ?_⟩; conv => whnf)
      | (refine ⟨_, rfl, rfl, rfl, by decide, by decide, ?_⟩; conv => whnf)
      | (refine ⟨_, by (simp (disch := omega) only [nI_leI, nI_ltI, nI_eq, nz_eq, nz_lt, nz_gt, nz_le, nz_ge, nz_00, nz_10, nz_n1, nI_add, pk_mul, pk_sub, nI_shl1, nI_or, nI_half2, nI_min2, la_put_eq, la_up, lr_same, lr_ne, lu_same, lu_ne]; rfl), by omega, ?_⟩; conv => whnf)
      | (refine And.intro (by decide) ?_; conv => whnf))
    all_goals (try simp (disch := omega) only [nI_leI, nI_ltI, nI_eq, nz_eq, nz_lt, nz_gt, nz_le, nz_ge, nz_00, nz_10, nz_n1, nI_add, pk_mul, pk_sub, nI_shl1, nI_or, nI_half2, nI_min2, la_put_eq, la_up, lr_same, lr_ne, lu_same, lu_ne])
    exact hret _ _ rfl
  · refine hK [] 60 _ _ ?_
    conv => whnf
    repeat' (first
      | (refine ⟨fun c => ?_, fun c => ?_⟩ <;> (try simp (disch := omega) only [nI_leI, nI_ltI, nI_eq, nz_eq, nz_lt, nz_gt, nz_le, nz_ge, nz_00, nz_10, nz_n1, nI_add, pk_mul, pk_sub, nI_shl1, nI_or, nI_half2, nI_min2, la_put_eq, la_up, lr_same, lr_ne, lu_same, lu_ne] at c) <;> first | (exfalso; omega) | conv => whnf)
      | (refine ⟨_, rfl, by omega, ?_⟩; conv => whnf)
      | (refine ⟨_, rfl, rfl, rfl, by decide, by decide, ?_⟩; conv => whnf)
      | (refine ⟨_, by (simp (disch := omega) only [nI_leI, nI_ltI, nI_eq, nz_eq, nz_lt, nz_gt, nz_le, nz_ge, nz_00, nz_10, nz_n1, nI_add, pk_mul, pk_sub, nI_shl1, nI_or, nI_half2, nI_min2, la_put_eq, la_up, lr_same, lr_ne, lu_same, lu_ne]; rfl), by omega, ?_⟩; conv => whnf)
      | (refine And.intro (by decide) ?_; conv => whnf))
    all_goals (try simp (disch := omega) only [nI_leI, nI_ltI, nI_eq, nz_eq, nz_lt, nz_gt, nz_le, nz_ge, nz_00, nz_10, nz_n1, nI_add, pk_mul, pk_sub, nI_shl1, nI_or, nI_half2, nI_min2, la_put_eq, la_up, lr_same, lr_ne, lu_same, lu_ne])
    exact hret _ _ rfl
theorem M_X0_trade : pm_MT yX0_trade cX0_trade 4 0 1 P_X0_trade (pm_pv Q_X0_trade) := pm_met k_X0_trade (by decide) rfl (by
  rintro ⟨g0, g1, g2, g3, g4, g5⟩ av h hp
  rw [hp.1]
  exact Nat.le_of_ble_eq_true rfl) pf_X0_trade
def sp_xch (L : LD) (a b : Nat) : LD := sp_tr (sp_tr (sp_tr (sp_tr L 3 a b) 4 a b) 5 a b) 6 a b
def P_X0_exchange : Nat × Nat × Nat × LD × pm_H → List pm_V → pm_H → Prop := fun g av h => match g with
  | (i, a, b, L, h0) => av = [vR 0 i 0, vI (nI a), vI (nI b)] ∧ h = h0 ∧ la_at h0 i L ∧ a < 6 ∧ b < 6
def Q_X0_exchange : Nat × Nat × Nat × LD × pm_H → pm_H → Prop := fun g h => match g with
  | (i, a, b, L, h0) => h = la_put h0 i (sp_xch L a b)
def T_X0_exchange : List (Nat × pm_T) := [
  (0, i_al 0 1),
  (1, i_gr 0 (fun i => (0, i, 3)) 4),
  (4, i_il 1 5),
  (5, i_il 2 6),
  (6, i_cv 3 P_X0_trade Q_X0_trade 9),
  (9, i_al 0 10),
  (10, i_gr 0 (fun i => (0, i, 4)) 13),
  (13, i_il 1 14),
  (14, i_il 2 15),
  (15, i_cv 3 P_X0_trade Q_X0_trade 18),
  (18, i_al 0 19),
  (19, i_gr 0 (fun i => (0, i, 5)) 22),
  (22, i_il 1 23),
  (23, i_il 2 24),
  (24, i_cv 3 P_X0_trade Q_X0_trade 27),
  (27, i_al 0 28),
  (28, i_gr 0 (fun i => (0, i, 6)) 31),
  (31, i_il 1 32),
  (32, i_il 2 33),
  (33, i_cv 3 P_X0_trade Q_X0_trade 36),
  (36, i_vr)]
theorem k_X0_exchange : ∀ q ∈ T_X0_exchange, pm_sd RX0 cX0_exchange 3 2 0 q.1 q.2 := by
  unfold T_X0_exchange
  refine pm_cn (sd_aln (k := 0) (by decide +kernel) rfl rfl) ?_
  refine pm_cn (sd_gr cl0_ in0_ (j := 4) (by decide) (fun _ => rfl) fl_X0_18 (by decide +kernel) rfl) ?_
  refine pm_cn (sd_iln (k := 1) (by decide +kernel) rfl rfl) ?_
  refine pm_cn (sd_iln (k := 2) (by decide +kernel) rfl rfl) ?_
  refine pm_cn (sd_cvs M_X0_trade cd_X0_trade ml_X0_61 st_X0_trade nt_X0 (by decide +kernel) (by decide) (by decide) (by decide +kernel) rfl) ?_
  refine pm_cn (sd_aln (k := 0) (by decide +kernel) rfl rfl) ?_
  refine pm_cn (sd_gr cl0_ in0_ (j := 5) (by decide) (fun _ => rfl) fl_X0_21 (by decide +kernel) rfl) ?_
  refine pm_cn (sd_iln (k := 1) (by decide +kernel) rfl rfl) ?_
  refine pm_cn (sd_iln (k := 2) (by decide +kernel) rfl rfl) ?_
  refine pm_cn (sd_cvs M_X0_trade cd_X0_trade ml_X0_61 st_X0_trade nt_X0 (by decide +kernel) (by decide) (by decide) (by decide +kernel) rfl) ?_
  refine pm_cn (sd_aln (k := 0) (by decide +kernel) rfl rfl) ?_
  refine pm_cn (sd_gr cl0_ in0_ (j := 6) (by decide) (fun _ => rfl) fl_X0_24 (by decide +kernel) rfl) ?_
  refine pm_cn (sd_iln (k := 1) (by decide +kernel) rfl rfl) ?_
  refine pm_cn (sd_iln (k := 2) (by decide +kernel) rfl rfl) ?_
  refine pm_cn (sd_cvs M_X0_trade cd_X0_trade ml_X0_61 st_X0_trade nt_X0 (by decide +kernel) (by decide) (by decide) (by decide +kernel) rfl) ?_
  refine pm_cn (sd_aln (k := 0) (by decide +kernel) rfl rfl) ?_
  refine pm_cn (sd_gr cl0_ in0_ (j := 7) (by decide) (fun _ => rfl) fl_X0_27 (by decide +kernel) rfl) ?_
  refine pm_cn (sd_iln (k := 1) (by decide +kernel) rfl rfl) ?_
  refine pm_cn (sd_iln (k := 2) (by decide +kernel) rfl rfl) ?_
  refine pm_cn (sd_cvs M_X0_trade cd_X0_trade ml_X0_61 st_X0_trade nt_X0 (by decide +kernel) (by decide) (by decide) (by decide +kernel) rfl) ?_
  refine pm_cn (sd_vr (by decide +kernel)) ?_
  exact fun _ h => absurd h List.not_mem_nil
set_option maxHeartbeats 4000000 in
set_option maxRecDepth 100000 in
theorem pf_X0_exchange : pm_pf T_X0_exchange P_X0_exchange (pm_pv Q_X0_exchange) := by
  rintro ⟨i, a, b, L, h0⟩ av h K hK ⟨rfl, rfl, hL, ha, hb⟩ hret
  show K (some 0) ([(0, vR 0 i 0), (1, vI (nI a)), (2, vI (nI b))], [], h)
  refine hK [] 60 _ _ ?_
  conv => whnf
  repeat' (first
    | (refine ⟨fun c => ?_, fun c => ?_⟩ <;> (try simp (disch := omega) only [nI_leI, nI_ltI, nI_eq, nz_eq, nz_lt, nz_gt, nz_le, nz_ge, nz_00, nz_10, nz_n1, nI_add, pk_mul, pk_sub, nI_shl1, nI_or, nI_half2, nI_min2, la_put_eq, la_up, lr_same, lr_ne, lu_same, lu_ne] at c) <;> first | (exfalso; omega) | conv => whnf)
    | (refine ⟨_, rfl, by omega, ?_⟩; conv => whnf)
    | (refine ⟨_, rfl, rfl, rfl, by decide, by decide, ?_⟩; conv => whnf)
    | (refine ⟨_, by (simp (disch := omega) only [nI_leI, nI_ltI, nI_eq, nz_eq, nz_lt, nz_gt, nz_le, nz_ge, nz_00, nz_10, nz_n1, nI_add, pk_mul, pk_sub, nI_shl1, nI_or, nI_half2, nI_min2, la_put_eq, la_up, lr_same, lr_ne, lu_same, lu_ne]; rfl), by omega, ?_⟩; conv => whnf)
    | (refine And.intro (by decide) ?_; conv => whnf))
  all_goals (try simp (disch := omega) only [nI_leI, nI_ltI, nI_eq, nz_eq, nz_lt, nz_gt, nz_le, nz_ge, nz_00, nz_10, nz_n1, nI_add, pk_mul, pk_sub, nI_shl1, nI_or, nI_half2, nI_min2, la_put_eq, la_up, lr_same, lr_ne, lu_same, lu_ne])
  refine ⟨(i, 3, a, b, L, h), ⟨rfl, rfl, hL, by omega, ha, hb⟩, fun h' hq => ?_⟩
  subst hq
  conv => whnf
  repeat' (first
    | (refine ⟨fun c => ?_, fun c => ?_⟩ <;> (try simp (disch := omega) only [nI_leI, nI_ltI, nI_eq, nz_eq, nz_lt, nz_gt, nz_le, nz_ge, nz_00, nz_10, nz_n1, nI_add, pk_mul, pk_sub, nI_shl1, nI_or, nI_half2, nI_min2, la_put_eq, la_up, lr_same, lr_ne, lu_same, lu_ne] at c) <;> first | (exfalso; omega) | conv => whnf)
    | (refine ⟨_, rfl, by omega, ?_⟩; conv => whnf)
    | (refine ⟨_, rfl, rfl, rfl, by decide, by decide, ?_⟩; conv => whnf)
    | (refine ⟨_, by (simp (disch := omega) only [nI_leI, nI_ltI, nI_eq, nz_eq, nz_lt, nz_gt, nz_le, nz_ge, nz_00, nz_10, nz_n1, nI_add, pk_mul, pk_sub, nI_shl1, nI_or, nI_half2, nI_min2, la_put_eq, la_up, lr_same, lr_ne, lu_same, lu_ne]; rfl), by omega, ?_⟩; conv => whnf)
    | (refine And.intro (by decide) ?_; conv => whnf))
  all_goals (try simp (disch := omega) only [nI_leI, nI_ltI, nI_eq, nz_eq, nz_lt, nz_gt, nz_le, nz_ge, nz_00, nz_10, nz_n1, nI_add, pk_mul, pk_sub, nI_shl1, nI_or, nI_half2, nI_min2, la_put_eq, la_up, lr_same, lr_ne, lu_same, lu_ne])
  refine ⟨(i, 4, a, b, sp_tr L 3 a b, _), ⟨rfl, rfl, la_put_at _ _ _, by omega, ha, hb⟩, fun h' hq => ?_⟩
  subst hq
  conv => whnf
  repeat' (first
    | (refine ⟨fun c => ?_, fun c => ?_⟩ <;> (try simp (disch := omega) only [nI_leI, nI_ltI, nI_eq, nz_eq, nz_lt, nz_gt, nz_le, nz_ge, nz_00, nz_10, nz_n1, nI_add, pk_mul, pk_sub, nI_shl1, nI_or, nI_half2, nI_min2, la_put_eq, la_up, lr_same, lr_ne, lu_same, lu_ne] at c) <;> first | (exfalso; omega) | conv => whnf)
    | (refine ⟨_, rfl, by omega, ?_⟩; conv => whnf)
    | (refine ⟨_, rfl, rfl, rfl, by decide, by decide, ?_⟩; conv => whnf)
    | (refine ⟨_, by (simp (disch := omega) only [nI_leI, nI_ltI, nI_eq, nz_eq, nz_lt, nz_gt, nz_le, nz_ge, nz_00, nz_10, nz_n1, nI_add, pk_mul, pk_sub, nI_shl1, nI_or, nI_half2, nI_min2, la_put_eq, la_up, lr_same, lr_ne, lu_same, lu_ne]; rfl), by omega, ?_⟩; conv => whnf)
    | (refine And.intro (by decide) ?_; conv => whnf))
  all_goals (try simp (disch := omega) only [nI_leI, nI_ltI, nI_eq, nz_eq, nz_lt, nz_gt, nz_le, nz_ge, nz_00, nz_10, nz_n1, nI_add, pk_mul, pk_sub, nI_shl1, nI_or, nI_half2, nI_min2, la_put_eq, la_up, lr_same, lr_ne, lu_same, lu_ne])
  refine ⟨(i, 5, a, b, sp_tr (sp_tr L 3 a b) 4 a b, _), ⟨rfl, rfl, la_put_at _ _ _, by omega, ha, hb⟩, fun h' hq => ?_⟩
  subst hq
  conv => whnf
  repeat' (first
    | (refine ⟨fun c => ?_, fun c => ?_⟩ <;> (try simp (disch := omega) only [nI_leI, nI_ltI, nI_eq, nz_eq, nz_lt, nz_gt, nz_le, nz_ge, nz_00, nz_10, nz_n1, nI_add, pk_mul, pk_sub, nI_shl1, nI_or, nI_half2, nI_min2, la_put_eq, la_up, lr_same, lr_ne, lu_same, lu_ne] at c) <;> first | (exfalso; omega) | conv => whnf)
    | (refine ⟨_, rfl, by omega, ?_⟩; conv => whnf)
    | (refine ⟨_, rfl, rfl, rfl, by decide, by decide, ?_⟩; conv => whnf)
    | (refine ⟨_, by (simp (disch := omega) only [nI_leI, nI_ltI, nI_eq, nz_eq, nz_lt, nz_gt, nz_le, nz_ge, nz_00, nz_10, nz_n1, nI_add, pk_mul, pk_sub, nI_shl1, nI_or, nI_half2, nI_min2, la_put_eq, la_up, lr_same, lr_ne, lu_same, lu_ne]; rfl), by omega, ?_⟩; conv => whnf)
    | (refine And.intro (by decide) ?_; conv => whnf))
  all_goals (try simp (disch := omega) only [nI_leI, nI_ltI, nI_eq, nz_eq, nz_lt, nz_gt, nz_le, nz_ge, nz_00, nz_10, nz_n1, nI_add, pk_mul, pk_sub, nI_shl1, nI_or, nI_half2, nI_min2, la_put_eq, la_up, lr_same, lr_ne, lu_same, lu_ne])
  refine ⟨(i, 6, a, b, sp_tr (sp_tr (sp_tr L 3 a b) 4 a b) 5 a b, _), ⟨rfl, rfl, la_put_at _ _ _, by omega, ha, hb⟩, fun h' hq => ?_⟩
  subst hq
  conv => whnf
  repeat' (first
    | (refine ⟨fun c => ?_, fun c => ?_⟩ <;> (try simp (disch := omega) only [nI_leI, nI_ltI, nI_eq, nz_eq, nz_lt, nz_gt, nz_le, nz_ge, nz_00, nz_10, nz_n1, nI_add, pk_mul, pk_sub, nI_shl1, nI_or, nI_half2, nI_min2, la_put_eq, la_up, lr_same, lr_ne, lu_same, lu_ne, la_put2] at c) <;> first | (exfalso; omega) | conv => whnf)
    | (refine ⟨_, rfl, by omega, ?_⟩; conv => whnf)
    | (refine ⟨_, rfl, rfl, rfl, by decide, by decide, ?_⟩; conv => whnf)
    | (refine ⟨_, by (simp (disch := omega) only [nI_leI, nI_ltI, nI_eq, nz_eq, nz_lt, nz_gt, nz_le, nz_ge, nz_00, nz_10, nz_n1, nI_add, pk_mul, pk_sub, nI_shl1, nI_or, nI_half2, nI_min2, la_put_eq, la_up, lr_same, lr_ne, lu_same, lu_ne, la_put2]; rfl), by omega, ?_⟩; conv => whnf)
    | (refine And.intro (by decide) ?_; conv => whnf))
  all_goals (try simp (disch := omega) only [nI_leI, nI_ltI, nI_eq, nz_eq, nz_lt, nz_gt, nz_le, nz_ge, nz_00, nz_10, nz_n1, nI_add, pk_mul, pk_sub, nI_shl1, nI_or, nI_half2, nI_min2, la_put_eq, la_up, lr_same, lr_ne, lu_same, lu_ne, la_put2])
  exact hret _ _ rfl
theorem M_X0_exchange : pm_MT yX0_exchange cX0_exchange 3 0 2 P_X0_exchange (pm_pv Q_X0_exchange) := pm_met k_X0_exchange (by decide) rfl (by
  rintro ⟨g0, g1, g2, g3, g4⟩ av h hp
  rw [hp.1]
  exact Nat.le_of_ble_eq_true rfl) pf_X0_exchange
theorem rc_X0_exchange : ∀ g av h, P_X0_exchange g av h → ∃ i t, av = .inr (.inr (0, i, 0)) :: t := by
  rintro ⟨g0, g1, g2, g3, g4⟩ av h hp
  exact ⟨_, _, hp.1⟩
theorem la_ok_tr {L : LD} (hw : la_ok L) {s a b : Nat} (hs : 3 ≤ s ∧ s ≤ 6) (ha : a < 6) (hb : b < 6) : la_ok (sp_tr L s a b) := by
  have h1 := (la_ok_iff.mp hw s a).1 (by unfold la_rel; omega)
  have h2 := (la_ok_iff.mp hw s b).1 (by unfold la_rel; omega)
  unfold sp_tr
  refine la_ok_lu (la_ok_lu hw ?_ ?_) ?_ ?_
  · unfold la_rel; omega
  · unfold la_bd at h2 ⊢; omega
  · unfold la_rel; omega
  · unfold la_bd at h1 ⊢; omega
theorem la_ok_xch {L : LD} (hw : la_ok L) {a b : Nat} (ha : a < 6) (hb : b < 6) : la_ok (sp_xch L a b) :=
  la_ok_tr (la_ok_tr (la_ok_tr (la_ok_tr hw (by omega) ha hb) (by omega) ha hb) (by omega) ha hb) (by omega) ha hb
