/-! BiscuitLore: what is tried out. -/
theorem la_at_ne {h : pm_H} {i k : Nat} {L M : LD} (hL : la_at h i L) (hk : i ≠ k) : la_at (la_put h k M) i L := fun s j => by rw [la_put_ne (by omega), hL]
def sp_asks (L : LD) : Nat → Nat
  | 0 => 0
  | n + 1 => sp_asks L n ||| sp_ans (sp_lives L n)
theorem sp_ans_lt {L : LD} (h : L 0 11 ≤ 6) : sp_ans L < 64 := by
  refine sp_or_lt (m := 6) (fun k hk => ?_)
  by_cases hc : L 7 k = L 0 10 ∧ sp_knowers L (L 8 k) ≠ 0
  · rw [if_pos hc]
    exact Nat.pow_lt_pow_right (by decide) (by omega)
  · rw [if_neg hc]; decide
theorem sp_asks_lt {L : LD} (h : L 0 11 ≤ 6) : ∀ n, sp_asks L n < 64
  | 0 => by show 0 < 64; decide
  | n + 1 => Nat.or_lt_two_pow (n := 6) (sp_asks_lt h n) (sp_ans_lt (by rw [sp_lives_s (by decide) (by decide) (by decide)]; exact h))
def P_X4_tryDays : Nat × LD × pm_H → List pm_V → pm_H → Prop := fun g av h => match g with
  | (n, L, h0) => av = [vR 4 0 0, vI (nI n)] ∧ h = h0 ∧ la_at h0 1 L ∧ la_ok L ∧ n ≤ 60 ∧ L 0 10 ≤ 4000
def Q_X4_tryDays : Nat × LD × pm_H → Int32 → pm_H → Prop := fun g r h => match g with
  | (n, L, h0) => h = la_put h0 1 (sp_lives L n) ∧ r = nI (sp_asks L n)
def T_X4_tryDays : List (Nat × pm_T) := [
  (0, i_c (nI 0) 1),
  (1, i_is 2 2),
  (2, i_c (nI 0) 3),
  (3, i_is 3 4),
  (4, i_il 3 5),
  (5, i_il 1 6),
  (6, i_icge 33 9),
  (9, i_il 2 10),
  (10, i_al 0 11),
  (11, i_gr 4 (fun _ => (0, 1, 0)) 14),
  (14, i_ci 1 P_X0_answers Q_X0_answers 17),
  (17, i_ior 18),
  (18, i_is 2 19),
  (19, i_al 0 20),
  (20, i_gr 4 (fun _ => (0, 1, 0)) 23),
  (23, i_ci 1 P_X0_live Q_X0_live 26),
  (26, i_pop 27),
  (27, i_inc 3 (nI 1) 30),
  (30, i_go 4),
  (33, i_il 2 34),
  (34, i_ir)]
theorem k_X4_tryDays : ∀ q ∈ T_X4_tryDays, pm_sd RX4 cX4_tryDays 4 3 1 q.1 q.2 := by
  unfold T_X4_tryDays
  refine pm_cn (sd_iconst (z := 0) (by decide +kernel) (by decide +kernel) rfl) ?_
  refine pm_cn (sd_isn (k := 2) (by decide +kernel) rfl rfl (by decide)) ?_
  refine pm_cn (sd_iconst (z := 0) (by decide +kernel) (by decide +kernel) rfl) ?_
  refine pm_cn (sd_isn (k := 3) (by decide +kernel) rfl rfl (by decide)) ?_
  refine pm_cn (sd_iln (k := 3) (by decide +kernel) rfl rfl) ?_
  refine pm_cn (sd_iln (k := 1) (by decide +kernel) rfl rfl) ?_
  refine pm_cn (sd_icge (off := 27) (by decide +kernel) (by decide) rfl) ?_
  refine pm_cn (sd_iln (k := 2) (by decide +kernel) rfl rfl) ?_
  refine pm_cn (sd_aln (k := 0) (by decide +kernel) rfl rfl) ?_
  refine pm_cn (sd_gr cl4_ in4_ (j := 2) (by decide) (fun _ => rfl) fl_X4_23 (by decide +kernel) rfl) ?_
  refine pm_cn (sd_civ M_X0_answers (by decide) cd_X0_answers rc_X0_answers cl0_ ml_X4_270 im_X0_answers se_X0_answers nt_X0 (by decide +kernel) (by decide) (by decide) (by decide +kernel) rfl) ?_
  refine pm_cn (sd_ior (by decide +kernel) rfl) ?_
  refine pm_cn (sd_isn (k := 2) (by decide +kernel) rfl rfl (by decide)) ?_
  refine pm_cn (sd_aln (k := 0) (by decide +kernel) rfl rfl) ?_
  refine pm_cn (sd_gr cl4_ in4_ (j := 2) (by decide) (fun _ => rfl) fl_X4_23 (by decide +kernel) rfl) ?_
  refine pm_cn (sd_civ M_X0_live (by decide) cd_X0_live rc_X0_live cl0_ ml_X4_176 im_X0_live se_X0_live nt_X0 (by decide +kernel) (by decide) (by decide) (by decide +kernel) rfl) ?_
  refine pm_cn (sd_pop (by decide +kernel) rfl) ?_
  refine pm_cn (sd_inc (z := 1) (by decide +kernel) (by decide +kernel) rfl (by decide)) ?_
  refine pm_cn (sd_go (off := -26) (by decide +kernel) (by decide)) ?_
  refine pm_cn (sd_iln (k := 2) (by decide +kernel) rfl rfl) ?_
  refine pm_cn (sd_ir (by decide +kernel)) ?_
  exact fun _ h => absurd h List.not_mem_nil
set_option maxHeartbeats 4000000 in
set_option maxRecDepth 100000 in
theorem pf_X4_tryDays : pm_pf T_X4_tryDays P_X4_tryDays (pm_pi Q_X4_tryDays) := by
  rintro ⟨N, L, h0⟩ av h K hK ⟨rfl, rfl, hL, hw, hN, hd⟩ hret
  show K (some 0) ([(0, vR 4 0 0), (1, vI (nI N))], [], h)
  have loop : ∀ n k a H, k + n = N → a = sp_asks L k → H = la_put h 1 (sp_lives L k) → K (some 4) ([(0, vR 4 0 0), (1, vI (nI N)), (2, vI (nI a)), (3, vI (nI k))], [], H) := by
    intro n
    induction n with
    | zero =>
      intro k a H hk ha hH
      refine hK [(4, [0, 1, 2, 3])] 40 _ _ ?_
      conv => whnf
      repeat' (first
        | (refine ⟨fun c => ?_, fun c => ?_⟩ <;> (try simp (disch := omega) only [nI_leI, nI_ltI, nI_eq, nz_eq, nz_lt, nz_gt, nz_le, nz_ge, nz_00, nz_10, nz_n1, nI_add, pk_mul, pk_sub, nI_shl1, nI_or, nI_half2, nI_min2, la_put_eq, la_up, lr_same, lr_ne, lu_same, lu_ne, not_true_eq_false, not_false_eq_true] at c) <;> first | (exfalso; omega) | conv => whnf)
        | (refine ⟨_, rfl, by omega, ?_⟩; conv => whnf)
        | (refine ⟨_, rfl, rfl, rfl, by decide, by decide, ?_⟩; conv => whnf)
        | (refine ⟨_, by (simp (disch := omega) only [nI_leI, nI_ltI, nI_eq, nz_eq, nz_lt, nz_gt, nz_le, nz_ge, nz_00, nz_10, nz_n1, nI_add, pk_mul, pk_sub, nI_shl1, nI_or, nI_half2, nI_min2, la_put_eq, la_up, lr_same, lr_ne, lu_same, lu_ne, not_true_eq_false, not_false_eq_true]; rfl), by omega, ?_⟩; conv => whnf)
        | (refine And.intro (by first | assumption | decide) ?_; conv => whnf))
      all_goals (try simp (disch := omega) only [nI_leI, nI_ltI, nI_eq, nz_eq, nz_lt, nz_gt, nz_le, nz_ge, nz_00, nz_10, nz_n1, nI_add, pk_mul, pk_sub, nI_shl1, nI_or, nI_half2, nI_min2, la_put_eq, la_up, lr_same, lr_ne, lu_same, lu_ne, not_true_eq_false, not_false_eq_true])
      have : k = N := by omega
      subst this
      subst hH ha
      exact hret _ _ ⟨rfl, rfl⟩
    | succ n ih =>
      intro k a H hk ha hH
      have hwk := la_ok_lives hw k (by omega)
      have hdk := sp_lives_day L k
      subst hH
      refine hK [(4, [0, 1, 2, 3])] 40 _ _ ?_
      conv => whnf
      repeat' (first
        | (refine ⟨fun c => ?_, fun c => ?_⟩ <;> (try simp (disch := omega) only [nI_leI, nI_ltI, nI_eq, nz_eq, nz_lt, nz_gt, nz_le, nz_ge, nz_00, nz_10, nz_n1, nI_add, pk_mul, pk_sub, nI_shl1, nI_or, nI_half2, nI_min2, la_put_eq, la_up, lr_same, lr_ne, lu_same, lu_ne, not_true_eq_false, not_false_eq_true] at c) <;> first | (exfalso; omega) | conv => whnf)
        | (refine ⟨_, rfl, by omega, ?_⟩; conv => whnf)
        | (refine ⟨_, rfl, rfl, rfl, by decide, by decide, ?_⟩; conv => whnf)
        | (refine ⟨_, by (simp (disch := omega) only [nI_leI, nI_ltI, nI_eq, nz_eq, nz_lt, nz_gt, nz_le, nz_ge, nz_00, nz_10, nz_n1, nI_add, pk_mul, pk_sub, nI_shl1, nI_or, nI_half2, nI_min2, la_put_eq, la_up, lr_same, lr_ne, lu_same, lu_ne, not_true_eq_false, not_false_eq_true]; rfl), by omega, ?_⟩; conv => whnf)
        | (refine And.intro (by first | assumption | decide) ?_; conv => whnf))
      all_goals (try simp (disch := omega) only [nI_leI, nI_ltI, nI_eq, nz_eq, nz_lt, nz_gt, nz_le, nz_ge, nz_00, nz_10, nz_n1, nI_add, pk_mul, pk_sub, nI_shl1, nI_or, nI_half2, nI_min2, la_put_eq, la_up, lr_same, lr_ne, lu_same, lu_ne, not_true_eq_false, not_false_eq_true])
      refine ⟨(1, sp_lives L k, _), ⟨rfl, rfl, la_put_at _ _ _, hwk⟩, fun v h' hq => ?_⟩
      obtain ⟨rfl, rfl⟩ := hq
      conv => whnf
      repeat' (first
        | (refine ⟨fun c => ?_, fun c => ?_⟩ <;> (try simp (disch := omega) only [nI_leI, nI_ltI, nI_eq, nz_eq, nz_lt, nz_gt, nz_le, nz_ge, nz_00, nz_10, nz_n1, nI_add, pk_mul, pk_sub, nI_shl1, nI_or, nI_half2, nI_min2, la_put_eq, la_up, lr_same, lr_ne, lu_same, lu_ne, not_true_eq_false, not_false_eq_true] at c) <;> first | (exfalso; omega) | conv => whnf)
        | (refine ⟨_, rfl, by omega, ?_⟩; conv => whnf)
        | (refine ⟨_, rfl, rfl, rfl, by decide, by decide, ?_⟩; conv => whnf)
        | (refine ⟨_, by (simp (disch := omega) only [nI_leI, nI_ltI, nI_eq, nz_eq, nz_lt, nz_gt, nz_le, nz_ge, nz_00, nz_10, nz_n1, nI_add, pk_mul, pk_sub, nI_shl1, nI_or, nI_half2, nI_min2, la_put_eq, la_up, lr_same, lr_ne, lu_same, lu_ne, not_true_eq_false, not_false_eq_true]; rfl), by omega, ?_⟩; conv => whnf)
        | (refine And.intro (by first | assumption | decide) ?_; conv => whnf))
      all_goals (try simp (disch := omega) only [nI_leI, nI_ltI, nI_eq, nz_eq, nz_lt, nz_gt, nz_le, nz_ge, nz_00, nz_10, nz_n1, nI_add, pk_mul, pk_sub, nI_shl1, nI_or, nI_half2, nI_min2, la_put_eq, la_up, lr_same, lr_ne, lu_same, lu_ne, not_true_eq_false, not_false_eq_true])
      refine ⟨(1, sp_lives L k, _), ⟨rfl, rfl, la_put_at _ _ _, hwk, by omega⟩, fun v h' hq => ?_⟩
      obtain ⟨rfl, rfl⟩ := hq
      conv => whnf
      repeat' (first
        | (refine ⟨fun c => ?_, fun c => ?_⟩ <;> (try simp (disch := omega) only [nI_leI, nI_ltI, nI_eq, nz_eq, nz_lt, nz_gt, nz_le, nz_ge, nz_00, nz_10, nz_n1, nI_add, pk_mul, pk_sub, nI_shl1, nI_or, nI_half2, nI_min2, la_put_eq, la_up, lr_same, lr_ne, lu_same, lu_ne, not_true_eq_false, not_false_eq_true, la_put2] at c) <;> first | (exfalso; omega) | conv => whnf)
        | (refine ⟨_, rfl, by omega, ?_⟩; conv => whnf)
        | (refine ⟨_, rfl, rfl, rfl, by decide, by decide, ?_⟩; conv => whnf)
        | (refine ⟨_, by (simp (disch := omega) only [nI_leI, nI_ltI, nI_eq, nz_eq, nz_lt, nz_gt, nz_le, nz_ge, nz_00, nz_10, nz_n1, nI_add, pk_mul, pk_sub, nI_shl1, nI_or, nI_half2, nI_min2, la_put_eq, la_up, lr_same, lr_ne, lu_same, lu_ne, not_true_eq_false, not_false_eq_true, la_put2]; rfl), by omega, ?_⟩; conv => whnf)
        | (refine And.intro (by first | assumption | decide) ?_; conv => whnf))
      all_goals (try simp (disch := omega) only [nI_leI, nI_ltI, nI_eq, nz_eq, nz_lt, nz_gt, nz_le, nz_ge, nz_00, nz_10, nz_n1, nI_add, pk_mul, pk_sub, nI_shl1, nI_or, nI_half2, nI_min2, la_put_eq, la_up, lr_same, lr_ne, lu_same, lu_ne, not_true_eq_false, not_false_eq_true, la_put2])
      exact ih (k + 1) _ _ (by omega) (by rw [sp_asks, ← ha]) rfl
  refine hK [(4, [0, 1, 2, 3])] 20 _ _ ?_
  conv => whnf
  repeat' (first
    | (refine ⟨fun c => ?_, fun c => ?_⟩ <;> (try simp (disch := omega) only [nI_leI, nI_ltI, nI_eq, nz_eq, nz_lt, nz_gt, nz_le, nz_ge, nz_00, nz_10, nz_n1, nI_add, pk_mul, pk_sub, nI_shl1, nI_or, nI_half2, nI_min2, la_put_eq, la_up, lr_same, lr_ne, lu_same, lu_ne, not_true_eq_false, not_false_eq_true] at c) <;> first | (exfalso; omega) | conv => whnf)
    | (refine ⟨_, rfl, by omega, ?_⟩; conv => whnf)
    | (refine ⟨_, rfl, rfl, rfl, by decide, by decide, ?_⟩; conv => whnf)
    | (refine ⟨_, by (simp (disch := omega) only [nI_leI, nI_ltI, nI_eq, nz_eq, nz_lt, nz_gt, nz_le, nz_ge, nz_00, nz_10, nz_n1, nI_add, pk_mul, pk_sub, nI_shl1, nI_or, nI_half2, nI_min2, la_put_eq, la_up, lr_same, lr_ne, lu_same, lu_ne, not_true_eq_false, not_false_eq_true]; rfl), by omega, ?_⟩; conv => whnf)
    | (refine And.intro (by first | assumption | decide) ?_; conv => whnf))
  all_goals (try simp (disch := omega) only [nI_leI, nI_ltI, nI_eq, nz_eq, nz_lt, nz_gt, nz_le, nz_ge, nz_00, nz_10, nz_n1, nI_add, pk_mul, pk_sub, nI_shl1, nI_or, nI_half2, nI_min2, la_put_eq, la_up, lr_same, lr_ne, lu_same, lu_ne, not_true_eq_false, not_false_eq_true])
  exact loop N 0 0 h (by omega) rfl (la_self hL).symm
theorem M_X4_tryDays : pm_MT yX4_tryDays cX4_tryDays 4 1 3 P_X4_tryDays (pm_pi Q_X4_tryDays) := pm_met k_X4_tryDays (by decide) rfl (by
  rintro ⟨g0, g1, g2⟩ av h hp
  rw [hp.1]
  exact Nat.le_of_ble_eq_true rfl) pf_X4_tryDays
theorem rc_X4_tryDays : ∀ g av h, P_X4_tryDays g av h → ∃ i t, av = .inr (.inr (4, i, 0)) :: t := by
  rintro ⟨g0, g1, g2⟩ av h hp
  exact ⟨_, _, hp.1⟩
def sp_cnt (L : LD) : Nat := sp_pop (sp_asks L 60)
def P_X4_countAnswered : LD × pm_H → List pm_V → pm_H → Prop := fun g av h => match g with
  | (L, h0) => av = [vR 4 0 0] ∧ h = h0 ∧ la_at h0 1 L ∧ la_ok L ∧ L 0 10 ≤ 4000
def Q_X4_countAnswered : LD × pm_H → Int32 → pm_H → Prop := fun g r h => match g with
  | (L, h0) => (∃ T, la_ok T ∧ h = la_put h0 1 T) ∧ r = nI (sp_cnt L)
def T_X4_countAnswered : List (Nat × pm_T) := [
  (0, i_al 0 1),
  (1, i_c (nI 60) 3),
  (3, i_ci 2 P_X4_tryDays Q_X4_tryDays 6),
  (6, i_ci 1 P_J6_bitCount_0f7a4 Q_J6_bitCount_0f7a4 9),
  (9, i_ir)]
theorem k_X4_countAnswered : ∀ q ∈ T_X4_countAnswered, pm_sd RX4 cX4_countAnswered 1 4 1 q.1 q.2 := by
  unfold T_X4_countAnswered
  refine pm_cn (sd_aln (k := 0) (by decide +kernel) rfl rfl) ?_
  refine pm_cn (sd_bipush (z := 60) (by decide +kernel) (by decide +kernel) rfl) ?_
  refine pm_cn (sd_civ M_X4_tryDays (by decide) cd_X4_tryDays rc_X4_tryDays cl4_ ml_X4_179 im_X4_tryDays se_X4_tryDays nt_X4 (by decide +kernel) (by decide) (by decide) (by decide +kernel) rfl) ?_
  refine pm_cn (sd_cis M_J6_bitCount_0f7a4 (by decide) cd_J6_bitCount_0f7a4 ml_X4_195 st_J6_bitCount_0f7a4 nt_J6 (by decide +kernel) (by decide) (by decide) (by decide +kernel) rfl) ?_
  refine pm_cn (sd_ir (by decide +kernel)) ?_
  exact fun _ h => absurd h List.not_mem_nil
set_option maxHeartbeats 4000000 in
set_option maxRecDepth 100000 in
theorem pf_X4_countAnswered : pm_pf T_X4_countAnswered P_X4_countAnswered (pm_pi Q_X4_countAnswered) := by
  rintro ⟨L, h0⟩ av h K hK ⟨rfl, rfl, hL, hw, hd⟩ hret
  show K (some 0) ([(0, vR 4 0 0)], [], h)
  refine hK [] 20 _ _ ?_
  conv => whnf
  repeat' (first
    | (refine ⟨fun c => ?_, fun c => ?_⟩ <;> (try simp (disch := omega) only [nI_leI, nI_ltI, nI_eq, nz_eq, nz_lt, nz_gt, nz_le, nz_ge, nz_00, nz_10, nz_n1, nI_add, pk_mul, pk_sub, nI_shl1, nI_or, nI_half2, nI_min2, la_put_eq, la_up, lr_same, lr_ne, lu_same, lu_ne, not_true_eq_false, not_false_eq_true] at c) <;> first | (exfalso; omega) | conv => whnf)
    | (refine ⟨_, rfl, by omega, ?_⟩; conv => whnf)
    | (refine ⟨_, rfl, rfl, rfl, by decide, by decide, ?_⟩; conv => whnf)
    | (refine ⟨_, by (simp (disch := omega) only [nI_leI, nI_ltI, nI_eq, nz_eq, nz_lt, nz_gt, nz_le, nz_ge, nz_00, nz_10, nz_n1, nI_add, pk_mul, pk_sub, nI_shl1, nI_or, nI_half2, nI_min2, la_put_eq, la_up, lr_same, lr_ne, lu_same, lu_ne, not_true_eq_false, not_false_eq_true]; rfl), by omega, ?_⟩; conv => whnf)
    | (refine And.intro (by first | assumption | decide) ?_; conv => whnf))
  all_goals (try simp (disch := omega) only [nI_leI, nI_ltI, nI_eq, nz_eq, nz_lt, nz_gt, nz_le, nz_ge, nz_00, nz_10, nz_n1, nI_add, pk_mul, pk_sub, nI_shl1, nI_or, nI_half2, nI_min2, la_put_eq, la_up, lr_same, lr_ne, lu_same, lu_ne, not_true_eq_false, not_false_eq_true])
  refine ⟨(60, L, h), ⟨rfl, rfl, hL, hw, by omega, hd⟩, fun v h' hq => ?_⟩
  obtain ⟨rfl, rfl⟩ := hq
  conv => whnf
  repeat' (first
    | (refine ⟨fun c => ?_, fun c => ?_⟩ <;> (try simp (disch := omega) only [nI_leI, nI_ltI, nI_eq, nz_eq, nz_lt, nz_gt, nz_le, nz_ge, nz_00, nz_10, nz_n1, nI_add, pk_mul, pk_sub, nI_shl1, nI_or, nI_half2, nI_min2, la_put_eq, la_up, lr_same, lr_ne, lu_same, lu_ne, not_true_eq_false, not_false_eq_true] at c) <;> first | (exfalso; omega) | conv => whnf)
    | (refine ⟨_, rfl, by omega, ?_⟩; conv => whnf)
    | (refine ⟨_, rfl, rfl, rfl, by decide, by decide, ?_⟩; conv => whnf)
    | (refine ⟨_, by (simp (disch := omega) only [nI_leI, nI_ltI, nI_eq, nz_eq, nz_lt, nz_gt, nz_le, nz_ge, nz_00, nz_10, nz_n1, nI_add, pk_mul, pk_sub, nI_shl1, nI_or, nI_half2, nI_min2, la_put_eq, la_up, lr_same, lr_ne, lu_same, lu_ne, not_true_eq_false, not_false_eq_true]; rfl), by omega, ?_⟩; conv => whnf)
    | (refine And.intro (by first | assumption | decide) ?_; conv => whnf))
  all_goals (try simp (disch := omega) only [nI_leI, nI_ltI, nI_eq, nz_eq, nz_lt, nz_gt, nz_le, nz_ge, nz_00, nz_10, nz_n1, nI_add, pk_mul, pk_sub, nI_shl1, nI_or, nI_half2, nI_min2, la_put_eq, la_up, lr_same, lr_ne, lu_same, lu_ne, not_true_eq_false, not_false_eq_true])
  have := sp_asks_lt hw.2.2.2.2.2.1 60
  refine ⟨(sp_asks L 60, _), ⟨rfl, rfl, by omega⟩, fun v h' hq => ?_⟩
  obtain ⟨rfl, rfl⟩ := hq
  conv => whnf
  repeat' (first
    | (refine ⟨fun c => ?_, fun c => ?_⟩ <;> (try simp (disch := omega) only [nI_leI, nI_ltI, nI_eq, nz_eq, nz_lt, nz_gt, nz_le, nz_ge, nz_00, nz_10, nz_n1, nI_add, pk_mul, pk_sub, nI_shl1, nI_or, nI_half2, nI_min2, la_put_eq, la_up, lr_same, lr_ne, lu_same, lu_ne, not_true_eq_false, not_false_eq_true] at c) <;> first | (exfalso; omega) | conv => whnf)
    | (refine ⟨_, rfl, by omega, ?_⟩; conv => whnf)
    | (refine ⟨_, rfl, rfl, rfl, by decide, by decide, ?_⟩; conv => whnf)
    | (refine ⟨_, by (simp (disch := omega) only [nI_leI, nI_ltI, nI_eq, nz_eq, nz_lt, nz_gt, nz_le, nz_ge, nz_00, nz_10, nz_n1, nI_add, pk_mul, pk_sub, nI_shl1, nI_or, nI_half2, nI_min2, la_put_eq, la_up, lr_same, lr_ne, lu_same, lu_ne, not_true_eq_false, not_false_eq_true]; rfl), by omega, ?_⟩; conv => whnf)
    | (refine And.intro (by first | assumption | decide) ?_; conv => whnf))
  all_goals (try simp (disch := omega) only [nI_leI, nI_ltI, nI_eq, nz_eq, nz_lt, nz_gt, nz_le, nz_ge, nz_00, nz_10, nz_n1, nI_add, pk_mul, pk_sub, nI_shl1, nI_or, nI_half2, nI_min2, la_put_eq, la_up, lr_same, lr_ne, lu_same, lu_ne, not_true_eq_false, not_false_eq_true])
  exact hret _ _ ⟨⟨_, la_ok_lives hw 60 (by omega), rfl⟩, rfl⟩
theorem M_X4_countAnswered : pm_MT yX4_countAnswered cX4_countAnswered 1 1 4 P_X4_countAnswered (pm_pi Q_X4_countAnswered) := pm_met k_X4_countAnswered (by decide) rfl (by
  rintro ⟨g0, g1⟩ av h hp
  rw [hp.1]
  exact Nat.le_of_ble_eq_true rfl) pf_X4_countAnswered
theorem rc_X4_countAnswered : ∀ g av h, P_X4_countAnswered g av h → ∃ i t, av = .inr (.inr (4, i, 0)) :: t := by
  rintro ⟨g0, g1⟩ av h hp
  exact ⟨_, _, hp.1⟩
def P_X4_isKnownBy : Nat × Nat × Nat × LD × LD × pm_H → List pm_V → pm_H → Prop := fun g av h => match g with
  | (b, x, n, N, T, h0) => av = [vR 4 0 0, vI (nI b), vI (nI x), vI (nI n)] ∧ h = h0 ∧ la_at h0 0 N ∧ la_at h0 1 T ∧ la_ok N ∧ la_ok T ∧ b < 6 ∧ x ≤ 99 ∧ n ≤ 60 ∧ N 0 10 ≤ 4000
def Q_X4_isKnownBy : Nat × Nat × Nat × LD × LD × pm_H → Int32 → pm_H → Prop := fun g r h => match g with
  | (b, x, n, N, T, h0) => (∃ T', la_ok T' ∧ h = la_put h0 1 T') ∧ ((sp_kn (sp_lives (lu N 5 b x) n) (N 6 b) (N 4 b) ∧ r = nI 1) ∨ (¬ sp_kn (sp_lives (lu N 5 b x) n) (N 6 b) (N 4 b) ∧ r = nI 0))
def T_X4_isKnownBy : List (Nat × pm_T) := [
  (0, i_al 0 1),
  (1, i_gr 4 (fun _ => (0, 1, 0)) 4),
  (4, i_al 0 5),
  (5, i_gr 4 (fun _ => (0, 0, 0)) 8),
  (8, i_cv 2 P_X0_take Q_X0_take 11),
  (11, i_al 0 12),
  (12, i_gr 4 (fun _ => (0, 1, 0)) 15),
  (15, i_gr 0 (fun i => (0, i, 5)) 18),
  (18, i_il 1 19),
  (19, i_il 2 20),
  (20, i_ias 21),
  (21, i_al 0 22),
  (22, i_il 3 23),
  (23, i_ci 2 P_X4_tryDays Q_X4_tryDays 26),
  (26, i_pop 27),
  (27, i_al 0 28),
  (28, i_gr 4 (fun _ => (0, 1, 0)) 31),
  (31, i_al 0 32),
  (32, i_gr 4 (fun _ => (0, 1, 0)) 35),
  (35, i_gr 0 (fun i => (0, i, 6)) 38),
  (38, i_il 1 39),
  (39, i_ia 40),
  (40, i_al 0 41),
  (41, i_gr 4 (fun _ => (0, 1, 0)) 44),
  (44, i_gr 0 (fun i => (0, i, 4)) 47),
  (47, i_il 1 48),
  (48, i_ia 49),
  (49, i_ci 3 P_X0_isKnower Q_X0_isKnower 52),
  (52, i_zr)]
theorem k_X4_isKnownBy : ∀ q ∈ T_X4_isKnownBy, pm_sd RX4 cX4_isKnownBy 4 4 3 q.1 q.2 := by
  unfold T_X4_isKnownBy
  refine pm_cn (sd_aln (k := 0) (by decide +kernel) rfl rfl) ?_
  refine pm_cn (sd_gr cl4_ in4_ (j := 2) (by decide) (fun _ => rfl) fl_X4_23 (by decide +kernel) rfl) ?_
  refine pm_cn (sd_aln (k := 0) (by decide +kernel) rfl rfl) ?_
  refine pm_cn (sd_gr cl4_ in4_ (j := 1) (by decide) (fun _ => rfl) fl_X4_19 (by decide +kernel) rfl) ?_
  refine pm_cn (sd_cvv M_X0_take cd_X0_take rc_X0_take cl0_ ml_X4_76 im_X0_take se_X0_take nt_X0 (by decide +kernel) (by decide) (by decide) (by decide +kernel) rfl) ?_
  refine pm_cn (sd_aln (k := 0) (by decide +kernel) rfl rfl) ?_
  refine pm_cn (sd_gr cl4_ in4_ (j := 2) (by decide) (fun _ => rfl) fl_X4_23 (by decide +kernel) rfl) ?_
  refine pm_cn (sd_gr cl0_ in0_ (j := 6) (by decide) (fun _ => rfl) fl_X4_140 (by decide +kernel) rfl) ?_
  refine pm_cn (sd_iln (k := 1) (by decide +kernel) rfl rfl) ?_
  refine pm_cn (sd_iln (k := 2) (by decide +kernel) rfl rfl) ?_
  refine pm_cn (sd_ias (by decide +kernel) rfl) ?_
  refine pm_cn (sd_aln (k := 0) (by decide +kernel) rfl rfl) ?_
  refine pm_cn (sd_iln (k := 3) (by decide +kernel) rfl rfl) ?_
  refine pm_cn (sd_civ M_X4_tryDays (by decide) cd_X4_tryDays rc_X4_tryDays cl4_ ml_X4_179 im_X4_tryDays se_X4_tryDays nt_X4 (by decide +kernel) (by decide) (by decide) (by decide +kernel) rfl) ?_
  refine pm_cn (sd_pop (by decide +kernel) rfl) ?_
  refine pm_cn (sd_aln (k := 0) (by decide +kernel) rfl rfl) ?_
  refine pm_cn (sd_gr cl4_ in4_ (j := 2) (by decide) (fun _ => rfl) fl_X4_23 (by decide +kernel) rfl) ?_
  refine pm_cn (sd_aln (k := 0) (by decide +kernel) rfl rfl) ?_
  refine pm_cn (sd_gr cl4_ in4_ (j := 2) (by decide) (fun _ => rfl) fl_X4_23 (by decide +kernel) rfl) ?_
  refine pm_cn (sd_gr cl0_ in0_ (j := 7) (by decide) (fun _ => rfl) fl_X4_143 (by decide +kernel) rfl) ?_
  refine pm_cn (sd_iln (k := 1) (by decide +kernel) rfl rfl) ?_
  refine pm_cn (sd_ia (by decide +kernel) rfl) ?_
  refine pm_cn (sd_aln (k := 0) (by decide +kernel) rfl rfl) ?_
  refine pm_cn (sd_gr cl4_ in4_ (j := 2) (by decide) (fun _ => rfl) fl_X4_23 (by decide +kernel) rfl) ?_
  refine pm_cn (sd_gr cl0_ in0_ (j := 5) (by decide) (fun _ => rfl) fl_X4_137 (by decide +kernel) rfl) ?_
  refine pm_cn (sd_iln (k := 1) (by decide +kernel) rfl rfl) ?_
  refine pm_cn (sd_ia (by decide +kernel) rfl) ?_
  refine pm_cn (sd_civ M_X0_isKnower (by decide) cd_X0_isKnower rc_X0_isKnower cl0_ ml_X4_273 im_X0_isKnower se_X0_isKnower nt_X0 (by decide +kernel) (by decide) (by decide) (by decide +kernel) rfl) ?_
  refine pm_cn (sd_zr (by decide +kernel)) ?_
  exact fun _ h => absurd h List.not_mem_nil
set_option maxHeartbeats 4000000 in
set_option maxRecDepth 100000 in
theorem pf_X4_isKnownBy : pm_pf T_X4_isKnownBy P_X4_isKnownBy (pm_pi Q_X4_isKnownBy) := by
  rintro ⟨b, x, n, N, T, h0⟩ av h K hK ⟨rfl, rfl, hN, hT, wN, wT, hb, hx, hn, hd⟩ hret
  show K (some 0) ([(0, vR 4 0 0), (1, vI (nI b)), (2, vI (nI x)), (3, vI (nI n))], [], h)
  have wX : la_ok (lu N 5 b x) := la_ok_lu wN (by unfold la_rel; omega) (by unfold la_bd; omega)
  have e10 : lu N 5 b x 0 10 = N 0 10 := lu_ne (by omega)
  have hB := (id wN).2.2.2.2.2.2.2.1 b hb
  refine hK [] 60 _ _ ?_
  conv => whnf
  repeat' (first
    | (refine ⟨fun c => ?_, fun c => ?_⟩ <;> (try simp (disch := omega) only [nI_leI, nI_ltI, nI_eq, nz_eq, nz_lt, nz_gt, nz_le, nz_ge, nz_00, nz_10, nz_n1, nI_add, pk_mul, pk_sub, nI_shl1, nI_or, nI_half2, nI_min2, la_put_eq, la_up, lr_same, lr_ne, lu_same, lu_ne, not_true_eq_false, not_false_eq_true] at c) <;> first | (exfalso; omega) | conv => whnf)
    | (refine ⟨_, rfl, by omega, ?_⟩; conv => whnf)
    | (refine ⟨_, rfl, rfl, rfl, by decide, by decide, ?_⟩; conv => whnf)
    | (refine ⟨_, by (simp (disch := omega) only [nI_leI, nI_ltI, nI_eq, nz_eq, nz_lt, nz_gt, nz_le, nz_ge, nz_00, nz_10, nz_n1, nI_add, pk_mul, pk_sub, nI_shl1, nI_or, nI_half2, nI_min2, la_put_eq, la_up, lr_same, lr_ne, lu_same, lu_ne, not_true_eq_false, not_false_eq_true]; rfl), by omega, ?_⟩; conv => whnf)
    | (refine And.intro (by first | assumption | decide) ?_; conv => whnf))
  all_goals (try simp (disch := omega) only [nI_leI, nI_ltI, nI_eq, nz_eq, nz_lt, nz_gt, nz_le, nz_ge, nz_00, nz_10, nz_n1, nI_add, pk_mul, pk_sub, nI_shl1, nI_or, nI_half2, nI_min2, la_put_eq, la_up, lr_same, lr_ne, lu_same, lu_ne, not_true_eq_false, not_false_eq_true])
  refine ⟨(1, 0, T, N, h), ⟨rfl, rfl, hT, hN, wT, wN, by decide⟩, fun h' hq => ?_⟩
  have hq : h' = la_put h 1 N := hq
  subst hq
  conv => whnf
  repeat' (first
    | (refine ⟨fun c => ?_, fun c => ?_⟩ <;> (try simp (disch := omega) only [nI_leI, nI_ltI, nI_eq, nz_eq, nz_lt, nz_gt, nz_le, nz_ge, nz_00, nz_10, nz_n1, nI_add, pk_mul, pk_sub, nI_shl1, nI_or, nI_half2, nI_min2, la_put_eq, la_up, lr_same, lr_ne, lu_same, lu_ne, not_true_eq_false, not_false_eq_true] at c) <;> first | (exfalso; omega) | conv => whnf)
    | (refine ⟨_, rfl, by omega, ?_⟩; conv => whnf)
    | (refine ⟨_, rfl, rfl, rfl, by decide, by decide, ?_⟩; conv => whnf)
    | (refine ⟨_, by (simp (disch := omega) only [nI_leI, nI_ltI, nI_eq, nz_eq, nz_lt, nz_gt, nz_le, nz_ge, nz_00, nz_10, nz_n1, nI_add, pk_mul, pk_sub, nI_shl1, nI_or, nI_half2, nI_min2, la_put_eq, la_up, lr_same, lr_ne, lu_same, lu_ne, not_true_eq_false, not_false_eq_true]; rfl), by omega, ?_⟩; conv => whnf)
    | (refine And.intro (by first | assumption | decide) ?_; conv => whnf))
  all_goals (try simp (disch := omega) only [nI_leI, nI_ltI, nI_eq, nz_eq, nz_lt, nz_gt, nz_le, nz_ge, nz_00, nz_10, nz_n1, nI_add, pk_mul, pk_sub, nI_shl1, nI_or, nI_half2, nI_min2, la_put_eq, la_up, lr_same, lr_ne, lu_same, lu_ne, not_true_eq_false, not_false_eq_true])
  refine ⟨(n, lu N 5 b x, _), ⟨rfl, rfl, ?_, wX, hn, by omega⟩, fun v h' hq => ?_⟩
  · exact la_put_at _ _ _
  obtain ⟨rfl, rfl⟩ := hq
  have e6 : sp_lives (lu N 5 b x) n 6 b = N 6 b := by rw [sp_lives_s (by decide) (by decide) (by omega), lu_ne (by omega)]
  have e4 : sp_lives (lu N 5 b x) n 4 b = N 4 b := by rw [sp_lives_s (by decide) (by decide) (by omega), lu_ne (by omega)]
  have wl := la_ok_lives wX n (by omega)
  conv => whnf
  repeat' (first
    | (refine ⟨fun c => ?_, fun c => ?_⟩ <;> (try simp (disch := omega) only [nI_leI, nI_ltI, nI_eq, nz_eq, nz_lt, nz_gt, nz_le, nz_ge, nz_00, nz_10, nz_n1, nI_add, pk_mul, pk_sub, nI_shl1, nI_or, nI_half2, nI_min2, la_put_eq, la_up, lr_same, lr_ne, lu_same, lu_ne, not_true_eq_false, not_false_eq_true, e6, e4] at c) <;> first | (exfalso; omega) | conv => whnf)
    | (refine ⟨_, rfl, by omega, ?_⟩; conv => whnf)
    | (refine ⟨_, rfl, rfl, rfl, by decide, by decide, ?_⟩; conv => whnf)
    | (refine ⟨_, by (simp (disch := omega) only [nI_leI, nI_ltI, nI_eq, nz_eq, nz_lt, nz_gt, nz_le, nz_ge, nz_00, nz_10, nz_n1, nI_add, pk_mul, pk_sub, nI_shl1, nI_or, nI_half2, nI_min2, la_put_eq, la_up, lr_same, lr_ne, lu_same, lu_ne, not_true_eq_false, not_false_eq_true, e6, e4]; rfl), by omega, ?_⟩; conv => whnf)
    | (refine And.intro (by first | assumption | decide) ?_; conv => whnf))
  all_goals (try simp (disch := omega) only [nI_leI, nI_ltI, nI_eq, nz_eq, nz_lt, nz_gt, nz_le, nz_ge, nz_00, nz_10, nz_n1, nI_add, pk_mul, pk_sub, nI_shl1, nI_or, nI_half2, nI_min2, la_put_eq, la_up, lr_same, lr_ne, lu_same, lu_ne, not_true_eq_false, not_false_eq_true, e6, e4])
  refine ⟨(1, N 6 b, N 4 b, sp_lives (lu N 5 b x) n, _), ⟨rfl, rfl, la_put_at _ _ _, wl, by omega, by omega⟩, fun v h' hq => ?_⟩
  obtain ⟨rfl, hq⟩ := hq
  rcases hq with ⟨hk, rfl⟩ | ⟨hk, rfl⟩
  · conv => whnf
    repeat' (first
      | (refine ⟨fun c => ?_, fun c => ?_⟩ <;> (try simp (disch := omega) only [nI_leI, nI_ltI, nI_eq, nz_eq, nz_lt, nz_gt, nz_le, nz_ge, nz_00, nz_10, nz_n1, nI_add, pk_mul, pk_sub, nI_shl1, nI_or, nI_half2, nI_min2, la_put_eq, la_up, lr_same, lr_ne, lu_same, lu_ne, not_true_eq_false, not_false_eq_true, la_put2] at c) <;> first | (exfalso; omega) | conv => whnf)
      | (refine ⟨_, rfl, by omega, ?_⟩; conv => whnf)
      | (refine ⟨_, rfl, rfl, rfl, by decide, by decide, ?_⟩; conv => whnf)
      | (refine ⟨_, by (simp (disch := omega) only [nI_leI, nI_ltI, nI_eq, nz_eq, nz_lt, nz_gt, nz_le, nz_ge, nz_00, nz_10, nz_n1, nI_add, pk_mul, pk_sub, nI_shl1, nI_or, nI_half2, nI_min2, la_put_eq, la_up, lr_same, lr_ne, lu_same, lu_ne, not_true_eq_false, not_false_eq_true, la_put2]; rfl), by omega, ?_⟩; conv => whnf)
      | (refine And.intro (by first | assumption | decide) ?_; conv => whnf))
    all_goals (try simp (disch := omega) only [nI_leI, nI_ltI, nI_eq, nz_eq, nz_lt, nz_gt, nz_le, nz_ge, nz_00, nz_10, nz_n1, nI_add, pk_mul, pk_sub, nI_shl1, nI_or, nI_half2, nI_min2, la_put_eq, la_up, lr_same, lr_ne, lu_same, lu_ne, not_true_eq_false, not_false_eq_true, la_put2])
    exact hret _ _ ⟨⟨_, wl, rfl⟩, Or.inl ⟨hk, rfl⟩⟩
  · conv => whnf
    repeat' (first
      | (refine ⟨fun c => ?_, fun c => ?_⟩ <;> (try simp (disch := omega) only [nI_leI, nI_ltI, nI_eq, nz_eq, nz_lt, nz_gt, nz_le, nz_ge, nz_00, nz_10, nz_n1, nI_add, pk_mul, pk_sub, nI_shl1, nI_or, nI_half2, nI_min2, la_put_eq, la_up, lr_same, lr_ne, lu_same, lu_ne, not_true_eq_false, not_false_eq_true, la_put2] at c) <;> first | (exfalso; omega) | conv => whnf)
      | (refine ⟨_, rfl, by omega, ?_⟩; conv => whnf)
      | (refine ⟨_, rfl, rfl, rfl, by decide, by decide, ?_⟩; conv => whnf)
      | (refine ⟨_, by (simp (disch := omega) only [nI_leI, nI_ltI, nI_eq, nz_eq, nz_lt, nz_gt, nz_le, nz_ge, nz_00, nz_10, nz_n1, nI_add, pk_mul, pk_sub, nI_shl1, nI_or, nI_half2, nI_min2, la_put_eq, la_up, lr_same, lr_ne, lu_same, lu_ne, not_true_eq_false, not_false_eq_true, la_put2]; rfl), by omega, ?_⟩; conv => whnf)
      | (refine And.intro (by first | assumption | decide) ?_; conv => whnf))
    all_goals (try simp (disch := omega) only [nI_leI, nI_ltI, nI_eq, nz_eq, nz_lt, nz_gt, nz_le, nz_ge, nz_00, nz_10, nz_n1, nI_add, pk_mul, pk_sub, nI_shl1, nI_or, nI_half2, nI_min2, la_put_eq, la_up, lr_same, lr_ne, lu_same, lu_ne, not_true_eq_false, not_false_eq_true, la_put2])
    exact hret _ _ ⟨⟨_, wl, rfl⟩, Or.inr ⟨hk, rfl⟩⟩
theorem M_X4_isKnownBy : pm_MT yX4_isKnownBy cX4_isKnownBy 4 3 4 P_X4_isKnownBy (pm_pi Q_X4_isKnownBy) := pm_met k_X4_isKnownBy (by decide) rfl (by
  rintro ⟨g0, g1, g2, g3, g4, g5⟩ av h hp
  rw [hp.1]
  exact Nat.le_of_ble_eq_true rfl) pf_X4_isKnownBy
theorem rc_X4_isKnownBy : ∀ g av h, P_X4_isKnownBy g av h → ∃ i t, av = .inr (.inr (4, i, 0)) :: t := by
  rintro ⟨g0, g1, g2, g3, g4, g5⟩ av h hp
  exact ⟨_, _, hp.1⟩
noncomputable def sp_c (p : Prop) (v : Nat) : Nat := @ite Nat p (Classical.propDecidable p) v 0
theorem sp_c_t {p : Prop} {v : Nat} (h : p) : sp_c p v = v := by unfold sp_c; rw [if_pos h]
theorem sp_c_f {p : Prop} {v : Nat} (h : ¬ p) : sp_c p v = 0 := by unfold sp_c; rw [if_neg h]
noncomputable def sp_kinds (N : LD) (m : Nat) (S : LD) (b : Nat) : Nat := sp_or (fun k => sp_c (sp_fits (lu N 3 b k) m S) (2 ^ k)) 4
def P_X4_kindsLeft : Nat × LD × LD × Nat × LD × pm_H → List pm_V → pm_H → Prop := fun g av h => match g with
  | (b, N, T, m, S, h0) => av = [vR 4 0 0, vI (nI b)] ∧ h = h0 ∧ la_at h0 0 N ∧ la_at h0 1 T ∧ la_ok N ∧ la_ok T ∧ se_at h0 m S ∧ se_ok m S ∧ b < 6 ∧ N 0 10 ≤ 4000
def Q_X4_kindsLeft : Nat × LD × LD × Nat × LD × pm_H → Int32 → pm_H → Prop := fun g r h => match g with
  | (b, N, T, m, S, h0) => (∃ T', la_ok T' ∧ h = la_put h0 1 T') ∧ r = nI (sp_kinds N m S b)
def T_X4_kindsLeft : List (Nat × pm_T) := [
  (0, i_c (nI 0) 1),
  (1, i_is 2 2),
  (2, i_c (nI 0) 3),
  (3, i_is 3 4),
  (4, i_il 3 5),
  (5, i_c (nI 3) 6),
  (6, i_icgt 56 9),
  (9, i_al 0 10),
  (10, i_gr 4 (fun _ => (0, 1, 0)) 13),
  (13, i_al 0 14),
  (14, i_gr 4 (fun _ => (0, 0, 0)) 17),
  (17, i_cv 2 P_X0_take Q_X0_take 20),
  (20, i_al 0 21),
  (21, i_gr 4 (fun _ => (0, 1, 0)) 24),
  (24, i_gr 0 (fun i => (0, i, 3)) 27),
  (27, i_il 1 28),
  (28, i_il 3 29),
  (29, i_ias 30),
  (30, i_al 0 31),
  (31, i_gr 4 (fun _ => (2, 0, 0)) 34),
  (34, i_al 0 35),
  (35, i_gr 4 (fun _ => (0, 1, 0)) 38),
  (38, i_ci 2 P_X2_fits Q_X2_fits 41),
  (41, i_ifeq 50 44),
  (44, i_il 2 45),
  (45, i_c (nI 1) 46),
  (46, i_il 3 47),
  (47, i_ishl 48),
  (48, i_ior 49),
  (49, i_is 2 50),
  (50, i_inc 3 (nI 1) 53),
  (53, i_go 4),
  (56, i_il 2 57),
  (57, i_ir)]
theorem k_X4_kindsLeft : ∀ q ∈ T_X4_kindsLeft, pm_sd RX4 cX4_kindsLeft 4 4 1 q.1 q.2 := by
  unfold T_X4_kindsLeft
  refine pm_cn (sd_iconst (z := 0) (by decide +kernel) (by decide +kernel) rfl) ?_
  refine pm_cn (sd_isn (k := 2) (by decide +kernel) rfl rfl (by decide)) ?_
  refine pm_cn (sd_iconst (z := 0) (by decide +kernel) (by decide +kernel) rfl) ?_
  refine pm_cn (sd_isn (k := 3) (by decide +kernel) rfl rfl (by decide)) ?_
  refine pm_cn (sd_iln (k := 3) (by decide +kernel) rfl rfl) ?_
  refine pm_cn (sd_iconst (z := 3) (by decide +kernel) (by decide +kernel) rfl) ?_
  refine pm_cn (sd_icgt (off := 50) (by decide +kernel) (by decide) rfl) ?_
  refine pm_cn (sd_aln (k := 0) (by decide +kernel) rfl rfl) ?_
  refine pm_cn (sd_gr cl4_ in4_ (j := 2) (by decide) (fun _ => rfl) fl_X4_23 (by decide +kernel) rfl) ?_
  refine pm_cn (sd_aln (k := 0) (by decide +kernel) rfl rfl) ?_
  refine pm_cn (sd_gr cl4_ in4_ (j := 1) (by decide) (fun _ => rfl) fl_X4_19 (by decide +kernel) rfl) ?_
  refine pm_cn (sd_cvv M_X0_take cd_X0_take rc_X0_take cl0_ ml_X4_76 im_X0_take se_X0_take nt_X0 (by decide +kernel) (by decide) (by decide) (by decide +kernel) rfl) ?_
  refine pm_cn (sd_aln (k := 0) (by decide +kernel) rfl rfl) ?_
  refine pm_cn (sd_gr cl4_ in4_ (j := 2) (by decide) (fun _ => rfl) fl_X4_23 (by decide +kernel) rfl) ?_
  refine pm_cn (sd_gr cl0_ in0_ (j := 4) (by decide) (fun _ => rfl) fl_X4_134 (by decide +kernel) rfl) ?_
  refine pm_cn (sd_iln (k := 1) (by decide +kernel) rfl rfl) ?_
  refine pm_cn (sd_iln (k := 3) (by decide +kernel) rfl rfl) ?_
  refine pm_cn (sd_ias (by decide +kernel) rfl) ?_
  refine pm_cn (sd_aln (k := 0) (by decide +kernel) rfl rfl) ?_
  refine pm_cn (sd_gr cl4_ in4_ (j := 5) (by decide) (fun _ => rfl) fl_X4_37 (by decide +kernel) rfl) ?_
  refine pm_cn (sd_aln (k := 0) (by decide +kernel) rfl rfl) ?_
  refine pm_cn (sd_gr cl4_ in4_ (j := 2) (by decide) (fun _ => rfl) fl_X4_23 (by decide +kernel) rfl) ?_
  refine pm_cn (sd_civ M_X2_fits (by decide) cd_X2_fits rc_X2_fits cl2_ ml_X4_224 im_X2_fits se_X2_fits nt_X2 (by decide +kernel) (by decide) (by decide) (by decide +kernel) rfl) ?_
  refine pm_cn (sd_ifeq (off := 9) (by decide +kernel) (by decide) rfl) ?_
  refine pm_cn (sd_iln (k := 2) (by decide +kernel) rfl rfl) ?_
  refine pm_cn (sd_iconst (z := 1) (by decide +kernel) (by decide +kernel) rfl) ?_
  refine pm_cn (sd_iln (k := 3) (by decide +kernel) rfl rfl) ?_
  refine pm_cn (sd_ishl (by decide +kernel) rfl) ?_
  refine pm_cn (sd_ior (by decide +kernel) rfl) ?_
  refine pm_cn (sd_isn (k := 2) (by decide +kernel) rfl rfl (by decide)) ?_
  refine pm_cn (sd_inc (z := 1) (by decide +kernel) (by decide +kernel) rfl (by decide)) ?_
  refine pm_cn (sd_go (off := -49) (by decide +kernel) (by decide)) ?_
  refine pm_cn (sd_iln (k := 2) (by decide +kernel) rfl rfl) ?_
  refine pm_cn (sd_ir (by decide +kernel)) ?_
  exact fun _ h => absurd h List.not_mem_nil
set_option maxHeartbeats 4000000 in
set_option maxRecDepth 100000 in
theorem pf_X4_kindsLeft : pm_pf T_X4_kindsLeft P_X4_kindsLeft (pm_pi Q_X4_kindsLeft) := by
  rintro ⟨b, N, T, m, S, h0⟩ av h K hK ⟨rfl, rfl, hN, hT, wN, wT, hS, hSo, hb, hd⟩ hret
  show K (some 0) ([(0, vR 4 0 0), (1, vI (nI b))], [], h)
  have loop : ∀ n k a X, k + n = 4 → a = sp_or (fun k => sp_c (sp_fits (lu N 3 b k) m S) (2 ^ k)) k → la_ok X → K (some 4) ([(0, vR 4 0 0), (1, vI (nI b)), (2, vI (nI a)), (3, vI (nI k))], [], la_put h 1 X) := by
    intro n
    induction n with
    | zero =>
      intro k a X hk ha wX
      refine hK [(4, [0, 1, 2, 3])] 40 _ _ ?_
      conv => whnf
      repeat' (first
        | (refine ⟨fun c => ?_, fun c => ?_⟩ <;> (try simp (disch := omega) only [nI_leI, nI_ltI, nI_eq, nz_eq, nz_lt, nz_gt, nz_le, nz_ge, nz_00, nz_10, nz_n1, nI_add, pk_mul, pk_sub, nI_shl1, nI_or, nI_half2, nI_min2, la_put_eq, la_up, lr_same, lr_ne, lu_same, lu_ne, not_true_eq_false, not_false_eq_true] at c) <;> first | (exfalso; omega) | conv => whnf)
        | (refine ⟨_, rfl, by omega, ?_⟩; conv => whnf)
        | (refine ⟨_, rfl, rfl, rfl, by decide, by decide, ?_⟩; conv => whnf)
        | (refine ⟨_, by (simp (disch := omega) only [nI_leI, nI_ltI, nI_eq, nz_eq, nz_lt, nz_gt, nz_le, nz_ge, nz_00, nz_10, nz_n1, nI_add, pk_mul, pk_sub, nI_shl1, nI_or, nI_half2, nI_min2, la_put_eq, la_up, lr_same, lr_ne, lu_same, lu_ne, not_true_eq_false, not_false_eq_true]; rfl), by omega, ?_⟩; conv => whnf)
        | (refine And.intro (by first | assumption | decide) ?_; conv => whnf))
      all_goals (try simp (disch := omega) only [nI_leI, nI_ltI, nI_eq, nz_eq, nz_lt, nz_gt, nz_le, nz_ge, nz_00, nz_10, nz_n1, nI_add, pk_mul, pk_sub, nI_shl1, nI_or, nI_half2, nI_min2, la_put_eq, la_up, lr_same, lr_ne, lu_same, lu_ne, not_true_eq_false, not_false_eq_true])
      have : k = 4 := by omega
      subst this
      exact hret _ _ ⟨⟨X, wX, rfl⟩, by rw [ha]; rfl⟩
    | succ n ih =>
      intro k a X hk ha wX
      have wK : la_ok (lu N 3 b k) := la_ok_lu wN (by unfold la_rel; omega) (by unfold la_bd; omega)
      have e10 : lu N 3 b k 0 10 = N 0 10 := lu_ne (by omega)
      refine hK [(4, [0, 1, 2, 3])] 40 _ _ ?_
      conv => whnf
      repeat' (first
        | (refine ⟨fun c => ?_, fun c => ?_⟩ <;> (try simp (disch := omega) only [nI_leI, nI_ltI, nI_eq, nz_eq, nz_lt, nz_gt, nz_le, nz_ge, nz_00, nz_10, nz_n1, nI_add, pk_mul, pk_sub, nI_shl1, nI_or, nI_half2, nI_min2, la_put_eq, la_up, lr_same, lr_ne, lu_same, lu_ne, not_true_eq_false, not_false_eq_true] at c) <;> first | (exfalso; omega) | conv => whnf)
        | (refine ⟨_, rfl, by omega, ?_⟩; conv => whnf)
        | (refine ⟨_, rfl, rfl, rfl, by decide, by decide, ?_⟩; conv => whnf)
        | (refine ⟨_, by (simp (disch := omega) only [nI_leI, nI_ltI, nI_eq, nz_eq, nz_lt, nz_gt, nz_le, nz_ge, nz_00, nz_10, nz_n1, nI_add, pk_mul, pk_sub, nI_shl1, nI_or, nI_half2, nI_min2, la_put_eq, la_up, lr_same, lr_ne, lu_same, lu_ne, not_true_eq_false, not_false_eq_true]; rfl), by omega, ?_⟩; conv => whnf)
        | (refine And.intro (by first | assumption | decide) ?_; conv => whnf))
      all_goals (try simp (disch := omega) only [nI_leI, nI_ltI, nI_eq, nz_eq, nz_lt, nz_gt, nz_le, nz_ge, nz_00, nz_10, nz_n1, nI_add, pk_mul, pk_sub, nI_shl1, nI_or, nI_half2, nI_min2, la_put_eq, la_up, lr_same, lr_ne, lu_same, lu_ne, not_true_eq_false, not_false_eq_true])
      refine ⟨(1, 0, X, N, _), ⟨rfl, rfl, la_put_at _ _ _, la_at_ne hN (by decide), wX, wN, by decide⟩, fun h' hq => ?_⟩
      have hq : h' = la_put (la_put h 1 X) 1 N := hq
      rw [la_put2] at hq
      subst hq
      conv => whnf
      repeat' (first
        | (refine ⟨fun c => ?_, fun c => ?_⟩ <;> (try simp (disch := omega) only [nI_leI, nI_ltI, nI_eq, nz_eq, nz_lt, nz_gt, nz_le, nz_ge, nz_00, nz_10, nz_n1, nI_add, pk_mul, pk_sub, nI_shl1, nI_or, nI_half2, nI_min2, la_put_eq, la_up, lr_same, lr_ne, lu_same, lu_ne, not_true_eq_false, not_false_eq_true] at c) <;> first | (exfalso; omega) | conv => whnf)
        | (refine ⟨_, rfl, by omega, ?_⟩; conv => whnf)
        | (refine ⟨_, rfl, rfl, rfl, by decide, by decide, ?_⟩; conv => whnf)
        | (refine ⟨_, by (simp (disch := omega) only [nI_leI, nI_ltI, nI_eq, nz_eq, nz_lt, nz_gt, nz_le, nz_ge, nz_00, nz_10, nz_n1, nI_add, pk_mul, pk_sub, nI_shl1, nI_or, nI_half2, nI_min2, la_put_eq, la_up, lr_same, lr_ne, lu_same, lu_ne, not_true_eq_false, not_false_eq_true]; rfl), by omega, ?_⟩; conv => whnf)
        | (refine And.intro (by first | assumption | decide) ?_; conv => whnf))
      all_goals (try simp (disch := omega) only [nI_leI, nI_ltI, nI_eq, nz_eq, nz_lt, nz_gt, nz_le, nz_ge, nz_00, nz_10, nz_n1, nI_add, pk_mul, pk_sub, nI_shl1, nI_or, nI_half2, nI_min2, la_put_eq, la_up, lr_same, lr_ne, lu_same, lu_ne, not_true_eq_false, not_false_eq_true])
      refine ⟨(1, lu N 3 b k, m, S, _), ⟨rfl, rfl, ?_, wK, ?_, hSo, by omega⟩, fun v h' hq => ?_⟩
      · exact la_put_at _ _ _
      · exact se_at_put hS
      obtain ⟨⟨T', wT', rfl⟩, ⟨hf, rfl⟩ | ⟨hf, rfl⟩⟩ := hq
      · conv => whnf
        repeat' (first
          | (refine ⟨fun c => ?_, fun c => ?_⟩ <;> (try simp (disch := omega) only [nI_leI, nI_ltI, nI_eq, nz_eq, nz_lt, nz_gt, nz_le, nz_ge, nz_00, nz_10, nz_n1, nI_add, pk_mul, pk_sub, nI_shl1, nI_or, nI_half2, nI_min2, la_put_eq, la_up, lr_same, lr_ne, lu_same, lu_ne, not_true_eq_false, not_false_eq_true, la_put2] at c) <;> first | (exfalso; omega) | conv => whnf)
          | (refine ⟨_, rfl, by omega, ?_⟩; conv => whnf)
          | (refine ⟨_, rfl, rfl, rfl, by decide, by decide, ?_⟩; conv => whnf)
          | (refine ⟨_, by (simp (disch := omega) only [nI_leI, nI_ltI, nI_eq, nz_eq, nz_lt, nz_gt, nz_le, nz_ge, nz_00, nz_10, nz_n1, nI_add, pk_mul, pk_sub, nI_shl1, nI_or, nI_half2, nI_min2, la_put_eq, la_up, lr_same, lr_ne, lu_same, lu_ne, not_true_eq_false, not_false_eq_true, la_put2]; rfl), by omega, ?_⟩; conv => whnf)
          | (refine And.intro (by first | assumption | decide) ?_; conv => whnf))
        all_goals (try simp (disch := omega) only [nI_leI, nI_ltI, nI_eq, nz_eq, nz_lt, nz_gt, nz_le, nz_ge, nz_00, nz_10, nz_n1, nI_add, pk_mul, pk_sub, nI_shl1, nI_or, nI_half2, nI_min2, la_put_eq, la_up, lr_same, lr_ne, lu_same, lu_ne, not_true_eq_false, not_false_eq_true, la_put2])
        refine ih (k + 1) _ _ (by omega) ?_ wT'
        rw [sp_or, ← ha, sp_c_t hf]
      · conv => whnf
        repeat' (first
          | (refine ⟨fun c => ?_, fun c => ?_⟩ <;> (try simp (disch := omega) only [nI_leI, nI_ltI, nI_eq, nz_eq, nz_lt, nz_gt, nz_le, nz_ge, nz_00, nz_10, nz_n1, nI_add, pk_mul, pk_sub, nI_shl1, nI_or, nI_half2, nI_min2, la_put_eq, la_up, lr_same, lr_ne, lu_same, lu_ne, not_true_eq_false, not_false_eq_true, la_put2] at c) <;> first | (exfalso; omega) | conv => whnf)
          | (refine ⟨_, rfl, by omega, ?_⟩; conv => whnf)
          | (refine ⟨_, rfl, rfl, rfl, by decide, by decide, ?_⟩; conv => whnf)
          | (refine ⟨_, by (simp (disch := omega) only [nI_leI, nI_ltI, nI_eq, nz_eq, nz_lt, nz_gt, nz_le, nz_ge, nz_00, nz_10, nz_n1, nI_add, pk_mul, pk_sub, nI_shl1, nI_or, nI_half2, nI_min2, la_put_eq, la_up, lr_same, lr_ne, lu_same, lu_ne, not_true_eq_false, not_false_eq_true, la_put2]; rfl), by omega, ?_⟩; conv => whnf)
          | (refine And.intro (by first | assumption | decide) ?_; conv => whnf))
        all_goals (try simp (disch := omega) only [nI_leI, nI_ltI, nI_eq, nz_eq, nz_lt, nz_gt, nz_le, nz_ge, nz_00, nz_10, nz_n1, nI_add, pk_mul, pk_sub, nI_shl1, nI_or, nI_half2, nI_min2, la_put_eq, la_up, lr_same, lr_ne, lu_same, lu_ne, not_true_eq_false, not_false_eq_true, la_put2])
        refine ih (k + 1) _ _ (by omega) ?_ wT'
        rw [sp_or, ← ha, sp_c_f hf, Nat.or_zero]
  refine hK [(4, [0, 1, 2, 3])] 20 _ _ ?_
  conv => whnf
  repeat' (first
    | (refine ⟨fun c => ?_, fun c => ?_⟩ <;> (try simp (disch := omega) only [nI_leI, nI_ltI, nI_eq, nz_eq, nz_lt, nz_gt, nz_le, nz_ge, nz_00, nz_10, nz_n1, nI_add, pk_mul, pk_sub, nI_shl1, nI_or, nI_half2, nI_min2, la_put_eq, la_up, lr_same, lr_ne, lu_same, lu_ne, not_true_eq_false, not_false_eq_true] at c) <;> first | (exfalso; omega) | conv => whnf)
    | (refine ⟨_, rfl, by omega, ?_⟩; conv => whnf)
    | (refine ⟨_, rfl, rfl, rfl, by decide, by decide, ?_⟩; conv => whnf)
    | (refine ⟨_, by (simp (disch := omega) only [nI_leI, nI_ltI, nI_eq, nz_eq, nz_lt, nz_gt, nz_le, nz_ge, nz_00, nz_10, nz_n1, nI_add, pk_mul, pk_sub, nI_shl1, nI_or, nI_half2, nI_min2, la_put_eq, la_up, lr_same, lr_ne, lu_same, lu_ne, not_true_eq_false, not_false_eq_true]; rfl), by omega, ?_⟩; conv => whnf)
    | (refine And.intro (by first | assumption | decide) ?_; conv => whnf))
  all_goals (try simp (disch := omega) only [nI_leI, nI_ltI, nI_eq, nz_eq, nz_lt, nz_gt, nz_le, nz_ge, nz_00, nz_10, nz_n1, nI_add, pk_mul, pk_sub, nI_shl1, nI_or, nI_half2, nI_min2, la_put_eq, la_up, lr_same, lr_ne, lu_same, lu_ne, not_true_eq_false, not_false_eq_true])
  have := loop 4 0 0 T (by omega) rfl wT
  rw [la_self hT] at this
  exact this
theorem M_X4_kindsLeft : pm_MT yX4_kindsLeft cX4_kindsLeft 4 1 4 P_X4_kindsLeft (pm_pi Q_X4_kindsLeft) := pm_met k_X4_kindsLeft (by decide) rfl (by
  rintro ⟨g0, g1, g2, g3, g4, g5⟩ av h hp
  rw [hp.1]
  exact Nat.le_of_ble_eq_true rfl) pf_X4_kindsLeft
theorem rc_X4_kindsLeft : ∀ g av h, P_X4_kindsLeft g av h → ∃ i t, av = .inr (.inr (4, i, 0)) :: t := by
  rintro ⟨g0, g1, g2, g3, g4, g5⟩ av h hp
  exact ⟨_, _, hp.1⟩
/-! outcome, powerOfTen, partOf -/
noncomputable def sp_out (o : Bool) (f s : Nat) (X : LD) : Nat := if o then sp_c (sp_kn X f s) 1 else sp_sum (X 5) (X 0 3)
def sp_fo (o : Bool) (f : Nat) : Int32 := if o then nI f else (-4)
def P_X4_outcome : Bool × Nat × Nat × LD × pm_H → List pm_V → pm_H → Prop := fun g av h => match g with
  | (o, f, s, X, h0) => av = [vR 4 0 0, vI (sp_fo o f), vI (sp_fo o s)] ∧ h = h0 ∧ la_at h0 1 X ∧ la_ok X ∧ f ≤ 9 ∧ s ≤ 9
def Q_X4_outcome : Bool × Nat × Nat × LD × pm_H → Int64 → pm_H → Prop := fun g r h => match g with
  | (o, f, s, X, h0) => h = h0 ∧ r = lN (sp_out o f s X)
def T_X4_outcome : List (Nat × pm_T) := [
  (0, i_il 1 1),
  (1, i_c (-4) 3),
  (3, i_icne 15 6),
  (6, i_al 0 7),
  (7, i_gr 4 (fun _ => (0, 1, 0)) 10),
  (10, i_ci 1 P_X0_allCrumbs Q_X0_allCrumbs 13),
  (13, i_i2l 14),
  (14, i_lr),
  (15, i_al 0 16),
  (16, i_gr 4 (fun _ => (0, 1, 0)) 19),
  (19, i_il 1 20),
  (20, i_il 2 21),
  (21, i_ci 3 P_X0_isKnower Q_X0_isKnower 24),
  (24, i_ifeq 31 27),
  (27, i_cl 1 28),
  (28, i_go 32),
  (31, i_cl 0 32),
  (32, i_lr)]
theorem k_X4_outcome : ∀ q ∈ T_X4_outcome, pm_sd RX4 cX4_outcome 3 3 2 q.1 q.2 := by
  unfold T_X4_outcome
  refine pm_cn (sd_iln (k := 1) (by decide +kernel) rfl rfl) ?_
  refine pm_cn (sd_bipush (z := -4) (by decide +kernel) (by decide +kernel) rfl) ?_
  refine pm_cn (sd_icne (off := 12) (by decide +kernel) (by decide) rfl) ?_
  refine pm_cn (sd_aln (k := 0) (by decide +kernel) rfl rfl) ?_
  refine pm_cn (sd_gr cl4_ in4_ (j := 2) (by decide) (fun _ => rfl) fl_X4_23 (by decide +kernel) rfl) ?_
  refine pm_cn (sd_civ M_X0_allCrumbs (by decide) cd_X0_allCrumbs rc_X0_allCrumbs cl0_ ml_X4_104 im_X0_allCrumbs se_X0_allCrumbs nt_X0 (by decide +kernel) (by decide) (by decide) (by decide +kernel) rfl) ?_
  refine pm_cn (sd_i2l (by decide +kernel) rfl) ?_
  refine pm_cn (sd_lr (by decide +kernel)) ?_
  refine pm_cn (sd_aln (k := 0) (by decide +kernel) rfl rfl) ?_
  refine pm_cn (sd_gr cl4_ in4_ (j := 2) (by decide) (fun _ => rfl) fl_X4_23 (by decide +kernel) rfl) ?_
  refine pm_cn (sd_iln (k := 1) (by decide +kernel) rfl rfl) ?_
  refine pm_cn (sd_iln (k := 2) (by decide +kernel) rfl rfl) ?_
  refine pm_cn (sd_civ M_X0_isKnower (by decide) cd_X0_isKnower rc_X0_isKnower cl0_ ml_X4_273 im_X0_isKnower se_X0_isKnower nt_X0 (by decide +kernel) (by decide) (by decide) (by decide +kernel) rfl) ?_
  refine pm_cn (sd_ifeq (off := 7) (by decide +kernel) (by decide) rfl) ?_
  refine pm_cn (sd_lconst (z := 1) (by decide +kernel) (by decide +kernel) rfl) ?_
  refine pm_cn (sd_go (off := 4) (by decide +kernel) (by decide)) ?_
  refine pm_cn (sd_lconst (z := 0) (by decide +kernel) (by decide +kernel) rfl) ?_
  refine pm_cn (sd_lr (by decide +kernel)) ?_
  exact fun _ h => absurd h List.not_mem_nil
theorem ni4 : ∀ f, f ≤ 9 → ¬ nI f = (-4) := by
  have h : ∀ f : Fin 10, ¬ nI f.val = (-4) := by decide +kernel
  exact fun f hf => h ⟨f, by omega⟩
set_option maxHeartbeats 4000000 in
set_option maxRecDepth 100000 in
theorem pf_X4_outcome : pm_pf T_X4_outcome P_X4_outcome (pm_pl2 Q_X4_outcome) := by
  rintro ⟨o, f, s, X, h0⟩ av h K hK ⟨rfl, rfl, hX, hw, hf, hs⟩ hret
  obtain ⟨w1, w2, w3, w4, w5, w6, w7, w8, w9, w10⟩ := id hw
  cases o with
  | true =>
    show K (some 0) ([(0, vR 4 0 0), (1, vI (nI f)), (2, vI (nI s))], [], h)
    have := ni4 f hf
    refine hK [] 40 _ _ ?_
    conv => whnf
    refine ⟨fun c1 => ?_, fun c1 => absurd c1 this⟩
    conv => whnf
    refine ⟨(1, f, s, X, h), ⟨rfl, rfl, hX, hw, by omega, by omega⟩, fun v h' hq => ?_⟩
    obtain ⟨rfl, ⟨hk, rfl⟩ | ⟨hk, rfl⟩⟩ := hq
    · conv => whnf
      repeat' (first
        | (refine ⟨fun c => ?_, fun c => ?_⟩ <;> (try simp (disch := omega) only [nI_leI, nI_ltI, nI_eq, nz_eq, nz_lt, nz_gt, nz_le, nz_ge, nz_00, nz_10, nz_n1, nI_add, pk_mul, pk_sub, nI_shl1, nI_or, nI_half2, nI_min2, la_put_eq, la_up, lr_same, lr_ne, lu_same, lu_ne, not_true_eq_false, not_false_eq_true] at c) <;> first | (exfalso; omega) | conv => whnf)
        | (refine ⟨_, rfl, by omega, ?_⟩; conv => whnf)
        | (refine ⟨_, rfl, rfl, rfl, by decide, by decide, ?_⟩; conv => whnf)
        | (refine ⟨_, by (simp (disch := omega) only [nI_leI, nI_ltI, nI_eq, nz_eq, nz_lt, nz_gt, nz_le, nz_ge, nz_00, nz_10, nz_n1, nI_add, pk_mul, pk_sub, nI_shl1, nI_or, nI_half2, nI_min2, la_put_eq, la_up, lr_same, lr_ne, lu_same, lu_ne, not_true_eq_false, not_false_eq_true]; rfl), by omega, ?_⟩; conv => whnf)
        | (refine And.intro (by first | assumption | decide) ?_; conv => whnf))
      all_goals (try simp (disch := omega) only [nI_leI, nI_ltI, nI_eq, nz_eq, nz_lt, nz_gt, nz_le, nz_ge, nz_00, nz_10, nz_n1, nI_add, pk_mul, pk_sub, nI_shl1, nI_or, nI_half2, nI_min2, la_put_eq, la_up, lr_same, lr_ne, lu_same, lu_ne, not_true_eq_false, not_false_eq_true])
      exact hret _ _ ⟨rfl, by unfold sp_out; rw [if_pos rfl, sp_c_t hk]; rfl⟩
    · conv => whnf
      repeat' (first
        | (refine ⟨fun c => ?_, fun c => ?_⟩ <;> (try simp (disch := omega) only [nI_leI, nI_ltI, nI_eq, nz_eq, nz_lt, nz_gt, nz_le, nz_ge, nz_00, nz_10, nz_n1, nI_add, pk_mul, pk_sub, nI_shl1, nI_or, nI_half2, nI_min2, la_put_eq, la_up, lr_same, lr_ne, lu_same, lu_ne, not_true_eq_false, not_false_eq_true] at c) <;> first | (exfalso; omega) | conv => whnf)
        | (refine ⟨_, rfl, by omega, ?_⟩; conv => whnf)
        | (refine ⟨_, rfl, rfl, rfl, by decide, by decide, ?_⟩; conv => whnf)
        | (refine ⟨_, by (simp (disch := omega) only [nI_leI, nI_ltI, nI_eq, nz_eq, nz_lt, nz_gt, nz_le, nz_ge, nz_00, nz_10, nz_n1, nI_add, pk_mul, pk_sub, nI_shl1, nI_or, nI_half2, nI_min2, la_put_eq, la_up, lr_same, lr_ne, lu_same, lu_ne, not_true_eq_false, not_false_eq_true]; rfl), by omega, ?_⟩; conv => whnf)
        | (refine And.intro (by first | assumption | decide) ?_; conv => whnf))
      all_goals (try simp (disch := omega) only [nI_leI, nI_ltI, nI_eq, nz_eq, nz_lt, nz_gt, nz_le, nz_ge, nz_00, nz_10, nz_n1, nI_add, pk_mul, pk_sub, nI_shl1, nI_or, nI_half2, nI_min2, la_put_eq, la_up, lr_same, lr_ne, lu_same, lu_ne, not_true_eq_false, not_false_eq_true])
      exact hret _ _ ⟨rfl, by unfold sp_out; rw [if_pos rfl, sp_c_f hk]; rfl⟩
  | false =>
    show K (some 0) ([(0, vR 4 0 0), (1, vI (-4)), (2, vI (-4))], [], h)
    refine hK [] 40 _ _ ?_
    conv => whnf
    refine ⟨fun c1 => absurd rfl c1, fun c1 => ?_⟩
    conv => whnf
    refine ⟨(1, X, h), ⟨rfl, rfl, hX, hw⟩, fun v h' hq => ?_⟩
    obtain ⟨rfl, rfl⟩ := hq
    have hle : sp_sum (X 5) (X 0 3) ≤ X 0 3 * 99 := sp_sum_le (fun k hk => (w8 k (by omega)).2.2.1)
    have : X 0 3 * 99 ≤ 6 * 99 := Nat.mul_le_mul_right 99 w2
    conv => whnf
    repeat' (first
      | (refine ⟨fun c => ?_, fun c => ?_⟩ <;> (try simp (disch := omega) only [nI_leI, nI_ltI, nI_eq, nz_eq, nz_lt, nz_gt, nz_le, nz_ge, nz_00, nz_10, nz_n1, nI_add, pk_mul, pk_sub, nI_shl1, nI_or, nI_half2, nI_min2, la_put_eq, la_up, lr_same, lr_ne, lu_same, lu_ne, not_true_eq_false, not_false_eq_true] at c) <;> first | (exfalso; omega) | conv => whnf)
      | (refine ⟨_, rfl, by omega, ?_⟩; conv => whnf)
      | (refine ⟨_, rfl, rfl, rfl, by decide, by decide, ?_⟩; conv => whnf)
      | (refine ⟨_, by (simp (disch := omega) only [nI_leI, nI_ltI, nI_eq, nz_eq, nz_lt, nz_gt, nz_le, nz_ge, nz_00, nz_10, nz_n1, nI_add, pk_mul, pk_sub, nI_shl1, nI_or, nI_half2, nI_min2, la_put_eq, la_up, lr_same, lr_ne, lu_same, lu_ne, not_true_eq_false, not_false_eq_true]; rfl), by omega, ?_⟩; conv => whnf)
      | (refine And.intro (by first | assumption | decide) ?_; conv => whnf))
    all_goals (try simp (disch := omega) only [nI_leI, nI_ltI, nI_eq, nz_eq, nz_lt, nz_gt, nz_le, nz_ge, nz_00, nz_10, nz_n1, nI_add, pk_mul, pk_sub, nI_shl1, nI_or, nI_half2, nI_min2, la_put_eq, la_up, lr_same, lr_ne, lu_same, lu_ne, not_true_eq_false, not_false_eq_true])
    rw [nI_l (by omega)]
    exact hret _ _ ⟨rfl, rfl⟩
theorem M_X4_outcome : pm_MT yX4_outcome cX4_outcome 3 2 3 P_X4_outcome (pm_pl2 Q_X4_outcome) := pm_met k_X4_outcome (by decide) rfl (by
  rintro ⟨g0, g1, g2, g3, g4⟩ av h hp
  rw [hp.1]
  exact Nat.le_of_ble_eq_true rfl) pf_X4_outcome
theorem rc_X4_outcome : ∀ g av h, P_X4_outcome g av h → ∃ i t, av = .inr (.inr (4, i, 0)) :: t := by
  rintro ⟨g0, g1, g2, g3, g4⟩ av h hp
  exact ⟨_, _, hp.1⟩
def P_X4_powerOfTen : Nat × pm_H → List pm_V → pm_H → Prop := fun g av h => match g with
  | (n, h0) => av = [vI (nI n)] ∧ h = h0 ∧ n ≤ 8
def Q_X4_powerOfTen : Nat × pm_H → Int64 → pm_H → Prop := fun g r h => match g with
  | (n, h0) => h = h0 ∧ r = lN (10 ^ n)
def T_X4_powerOfTen : List (Nat × pm_T) := [
  (0, i_cl 1 1),
  (1, i_ls 1 2),
  (2, i_c (nI 0) 3),
  (3, i_is 3 4),
  (4, i_il 3 5),
  (5, i_il 0 6),
  (6, i_icge 21 9),
  (9, i_ll 1 10),
  (10, i_cl (10) 13),
  (13, i_lmul 14),
  (14, i_ls 1 15),
  (15, i_inc 3 (nI 1) 18),
  (18, i_go 4),
  (21, i_ll 1 22),
  (22, i_lr)]
theorem k_X4_powerOfTen : ∀ q ∈ T_X4_powerOfTen, pm_sd RX4 cX4_powerOfTen 4 1 2 q.1 q.2 := by
  unfold T_X4_powerOfTen
  refine pm_cn (sd_lconst (z := 1) (by decide +kernel) (by decide +kernel) rfl) ?_
  refine pm_cn (sd_lsn (k := 1) (by decide +kernel) rfl rfl (by decide)) ?_
  refine pm_cn (sd_iconst (z := 0) (by decide +kernel) (by decide +kernel) rfl) ?_
  refine pm_cn (sd_isn (k := 3) (by decide +kernel) rfl rfl (by decide)) ?_
  refine pm_cn (sd_iln (k := 3) (by decide +kernel) rfl rfl) ?_
  refine pm_cn (sd_iln (k := 0) (by decide +kernel) rfl rfl) ?_
  refine pm_cn (sd_icge (off := 15) (by decide +kernel) (by decide) rfl) ?_
  refine pm_cn (sd_lln (k := 1) (by decide +kernel) rfl rfl) ?_
  refine pm_cn (sd_ldc2 (k := 290) (by decide +kernel) (pm_tin (by decide +kernel) rfl) rfl) ?_
  refine pm_cn (sd_lmul (by decide +kernel) rfl) ?_
  refine pm_cn (sd_lsn (k := 1) (by decide +kernel) rfl rfl (by decide)) ?_
  refine pm_cn (sd_inc (z := 1) (by decide +kernel) (by decide +kernel) rfl (by decide)) ?_
  refine pm_cn (sd_go (off := -14) (by decide +kernel) (by decide)) ?_
  refine pm_cn (sd_lln (k := 1) (by decide +kernel) rfl rfl) ?_
  refine pm_cn (sd_lr (by decide +kernel)) ?_
  exact fun _ h => absurd h List.not_mem_nil
theorem lN_10 : (10 : Int64) = lN 10 := rfl
set_option maxHeartbeats 4000000 in
set_option maxRecDepth 100000 in
theorem pf_X4_powerOfTen : pm_pf T_X4_powerOfTen P_X4_powerOfTen (pm_pl2 Q_X4_powerOfTen) := by
  rintro ⟨N, h0⟩ av h K hK ⟨rfl, rfl, hN⟩ hret
  show K (some 0) ([(0, vI (nI N))], [], h)
  have loop : ∀ n k a, k + n = N → a = 10 ^ k → K (some 4) ([(0, vI (nI N)), (1, vJ (lN a)), (3, vI (nI k))], [], h) := by
    intro n
    induction n with
    | zero =>
      intro k a hk ha
      refine hK [(4, [0, 1, 3])] 40 _ _ ?_
      conv => whnf
      repeat' (first
        | (refine ⟨fun c => ?_, fun c => ?_⟩ <;> (try simp (disch := omega) only [nI_leI, nI_ltI, nI_eq, nz_eq, nz_lt, nz_gt, nz_le, nz_ge, nz_00, nz_10, nz_n1, nI_add, pk_mul, pk_sub, nI_shl1, nI_or, nI_half2, nI_min2, la_put_eq, la_up, lr_same, lr_ne, lu_same, lu_ne, not_true_eq_false, not_false_eq_true] at c) <;> first | (exfalso; omega) | conv => whnf)
        | (refine ⟨_, rfl, by omega, ?_⟩; conv => whnf)
        | (refine ⟨_, rfl, rfl, rfl, by decide, by decide, ?_⟩; conv => whnf)
        | (refine ⟨_, by (simp (disch := omega) only [nI_leI, nI_ltI, nI_eq, nz_eq, nz_lt, nz_gt, nz_le, nz_ge, nz_00, nz_10, nz_n1, nI_add, pk_mul, pk_sub, nI_shl1, nI_or, nI_half2, nI_min2, la_put_eq, la_up, lr_same, lr_ne, lu_same, lu_ne, not_true_eq_false, not_false_eq_true]; rfl), by omega, ?_⟩; conv => whnf)
        | (refine And.intro (by first | assumption | decide) ?_; conv => whnf))
      all_goals (try simp (disch := omega) only [nI_leI, nI_ltI, nI_eq, nz_eq, nz_lt, nz_gt, nz_le, nz_ge, nz_00, nz_10, nz_n1, nI_add, pk_mul, pk_sub, nI_shl1, nI_or, nI_half2, nI_min2, la_put_eq, la_up, lr_same, lr_ne, lu_same, lu_ne, not_true_eq_false, not_false_eq_true])
      have : k = N := by omega
      subst this
      exact hret _ _ ⟨rfl, by rw [ha]⟩
    | succ n ih =>
      intro k a hk ha
      refine hK [(4, [0, 1, 3])] 40 _ _ ?_
      conv => whnf
      repeat' (first
        | (refine ⟨fun c => ?_, fun c => ?_⟩ <;> (try simp (disch := omega) only [nI_leI, nI_ltI, nI_eq, nz_eq, nz_lt, nz_gt, nz_le, nz_ge, nz_00, nz_10, nz_n1, nI_add, pk_mul, pk_sub, nI_shl1, nI_or, nI_half2, nI_min2, la_put_eq, la_up, lr_same, lr_ne, lu_same, lu_ne, not_true_eq_false, not_false_eq_true, lN_10, lN_mul] at c) <;> first | (exfalso; omega) | conv => whnf)
        | (refine ⟨_, rfl, by omega, ?_⟩; conv => whnf)
        | (refine ⟨_, rfl, rfl, rfl, by decide, by decide, ?_⟩; conv => whnf)
        | (refine ⟨_, by (simp (disch := omega) only [nI_leI, nI_ltI, nI_eq, nz_eq, nz_lt, nz_gt, nz_le, nz_ge, nz_00, nz_10, nz_n1, nI_add, pk_mul, pk_sub, nI_shl1, nI_or, nI_half2, nI_min2, la_put_eq, la_up, lr_same, lr_ne, lu_same, lu_ne, not_true_eq_false, not_false_eq_true, lN_10, lN_mul]; rfl), by omega, ?_⟩; conv => whnf)
        | (refine And.intro (by first | assumption | decide) ?_; conv => whnf))
      all_goals (try simp (disch := omega) only [nI_leI, nI_ltI, nI_eq, nz_eq, nz_lt, nz_gt, nz_le, nz_ge, nz_00, nz_10, nz_n1, nI_add, pk_mul, pk_sub, nI_shl1, nI_or, nI_half2, nI_min2, la_put_eq, la_up, lr_same, lr_ne, lu_same, lu_ne, not_true_eq_false, not_false_eq_true, lN_10, lN_mul])
      exact ih (k + 1) _ (by omega) (by rw [ha, Nat.pow_succ])
  refine hK [(4, [0, 1, 3])] 20 _ _ ?_
  conv => whnf
  repeat' (first
    | (refine ⟨fun c => ?_, fun c => ?_⟩ <;> (try simp (disch := omega) only [nI_leI, nI_ltI, nI_eq, nz_eq, nz_lt, nz_gt, nz_le, nz_ge, nz_00, nz_10, nz_n1, nI_add, pk_mul, pk_sub, nI_shl1, nI_or, nI_half2, nI_min2, la_put_eq, la_up, lr_same, lr_ne, lu_same, lu_ne, not_true_eq_false, not_false_eq_true] at c) <;> first | (exfalso; omega) | conv => whnf)
    | (refine ⟨_, rfl, by omega, ?_⟩; conv => whnf)
    | (refine ⟨_, rfl, rfl, rfl, by decide, by decide, ?_⟩; conv => whnf)
    | (refine ⟨_, by (simp (disch := omega) only [nI_leI, nI_ltI, nI_eq, nz_eq, nz_lt, nz_gt, nz_le, nz_ge, nz_00, nz_10, nz_n1, nI_add, pk_mul, pk_sub, nI_shl1, nI_or, nI_half2, nI_min2, la_put_eq, la_up, lr_same, lr_ne, lu_same, lu_ne, not_true_eq_false, not_false_eq_true]; rfl), by omega, ?_⟩; conv => whnf)
    | (refine And.intro (by first | assumption | decide) ?_; conv => whnf))
  all_goals (try simp (disch := omega) only [nI_leI, nI_ltI, nI_eq, nz_eq, nz_lt, nz_gt, nz_le, nz_ge, nz_00, nz_10, nz_n1, nI_add, pk_mul, pk_sub, nI_shl1, nI_or, nI_half2, nI_min2, la_put_eq, la_up, lr_same, lr_ne, lu_same, lu_ne, not_true_eq_false, not_false_eq_true])
  exact loop N 0 1 (by omega) rfl
theorem M_X4_powerOfTen : pm_MT yX4_powerOfTen cX4_powerOfTen 4 2 1 P_X4_powerOfTen (pm_pl2 Q_X4_powerOfTen) := pm_met k_X4_powerOfTen (by decide) rfl (by
  rintro ⟨g0, g1⟩ av h hp
  rw [hp.1]
  exact Nat.le_of_ble_eq_true rfl) pf_X4_powerOfTen
def P_X4_partOf : Nat × Nat × Int32 × pm_H → List pm_V → pm_H → Prop := fun g av h => match g with
  | (a, b, w, h0) => av = [vJ (lN a), vJ (lN b), vI w] ∧ h = h0 ∧ 0 < b ∧ b ≤ 2 ^ 27 ∧ a < 2 ^ 37 ∧ hf w
def Q_X4_partOf : Nat × Nat × Int32 × pm_H → Int64 → pm_H → Prop := fun g r h => match g with
  | (a, b, w, h0) => h = h0 ∧ ((w = nI 0 ∧ r = lN (a / Nat.gcd a b)) ∨ (w = nI 1 ∧ r = lN (b / Nat.gcd a b)))
def T_X4_partOf : List (Nat × pm_T) := [
  (0, i_ll 2 1),
  (1, i_ls 5 3),
  (3, i_ll 0 4),
  (4, i_ls 7 6),
  (6, i_c (nI 0) 7),
  (7, i_is 9 9),
  (9, i_il 9 11),
  (11, i_c (nI 200) 14),
  (14, i_icge 45 17),
  (17, i_ll 7 19),
  (19, i_cl 0 20),
  (20, i_lcmp 21),
  (21, i_ifeq 45 24),
  (24, i_ll 5 26),
  (26, i_ll 7 28),
  (28, i_lrem 29),
  (29, i_ls 10 31),
  (31, i_ll 7 33),
  (33, i_ls 5 35),
  (35, i_ll 10 37),
  (37, i_ls 7 39),
  (39, i_inc 9 (nI 1) 42),
  (42, i_go 9),
  (45, i_ll 5 47),
  (47, i_cl 0 48),
  (48, i_lcmp 49),
  (49, i_ifne 54 52),
  (52, i_cl 0 53),
  (53, i_lr),
  (54, i_il 4 56),
  (56, i_ifne 63 59),
  (59, i_ll 0 60),
  (60, i_go 64),
  (63, i_ll 2 64),
  (64, i_ll 5 66),
  (66, i_ldiv 67),
  (67, i_lr)]
theorem k_X4_partOf : ∀ q ∈ T_X4_partOf, pm_sd RX4 cX4_partOf 12 1 2 q.1 q.2 := by
  unfold T_X4_partOf
  refine pm_cn (sd_lln (k := 2) (by decide +kernel) rfl rfl) ?_
  refine pm_cn (sd_ls (by decide +kernel) rfl (by decide)) ?_
  refine pm_cn (sd_lln (k := 0) (by decide +kernel) rfl rfl) ?_
  refine pm_cn (sd_ls (by decide +kernel) rfl (by decide)) ?_
  refine pm_cn (sd_iconst (z := 0) (by decide +kernel) (by decide +kernel) rfl) ?_
  refine pm_cn (sd_is (by decide +kernel) rfl (by decide)) ?_
  refine pm_cn (sd_il (by decide +kernel) rfl) ?_
  refine pm_cn (sd_sipush (z := 200) (by decide +kernel) (by decide +kernel) rfl) ?_
  refine pm_cn (sd_icge (off := 31) (by decide +kernel) (by decide) rfl) ?_
  refine pm_cn (sd_ll (by decide +kernel) rfl) ?_
  refine pm_cn (sd_lconst (z := 0) (by decide +kernel) (by decide +kernel) rfl) ?_
  refine pm_cn (sd_lcmp (by decide +kernel) rfl) ?_
  refine pm_cn (sd_ifeq (off := 24) (by decide +kernel) (by decide) rfl) ?_
  refine pm_cn (sd_ll (by decide +kernel) rfl) ?_
  refine pm_cn (sd_ll (by decide +kernel) rfl) ?_
  refine pm_cn (sd_lrem (by decide +kernel) rfl) ?_
  refine pm_cn (sd_ls (by decide +kernel) rfl (by decide)) ?_
  refine pm_cn (sd_ll (by decide +kernel) rfl) ?_
  refine pm_cn (sd_ls (by decide +kernel) rfl (by decide)) ?_
  refine pm_cn (sd_ll (by decide +kernel) rfl) ?_
  refine pm_cn (sd_ls (by decide +kernel) rfl (by decide)) ?_
  refine pm_cn (sd_inc (z := 1) (by decide +kernel) (by decide +kernel) rfl (by decide)) ?_
  refine pm_cn (sd_go (off := -33) (by decide +kernel) (by decide)) ?_
  refine pm_cn (sd_ll (by decide +kernel) rfl) ?_
  refine pm_cn (sd_lconst (z := 0) (by decide +kernel) (by decide +kernel) rfl) ?_
  refine pm_cn (sd_lcmp (by decide +kernel) rfl) ?_
  refine pm_cn (sd_ifne (off := 5) (by decide +kernel) (by decide) rfl) ?_
  refine pm_cn (sd_lconst (z := 0) (by decide +kernel) (by decide +kernel) rfl) ?_
  refine pm_cn (sd_lr (by decide +kernel)) ?_
  refine pm_cn (sd_il (by decide +kernel) rfl) ?_
  refine pm_cn (sd_ifne (off := 7) (by decide +kernel) (by decide) rfl) ?_
  refine pm_cn (sd_lln (k := 0) (by decide +kernel) rfl rfl) ?_
  refine pm_cn (sd_go (off := 4) (by decide +kernel) (by decide)) ?_
  refine pm_cn (sd_lln (k := 2) (by decide +kernel) rfl rfl) ?_
  refine pm_cn (sd_ll (by decide +kernel) rfl) ?_
  refine pm_cn (sd_ldiv (by decide +kernel) rfl) ?_
  refine pm_cn (sd_lr (by decide +kernel)) ?_
  exact fun _ h => absurd h List.not_mem_nil
theorem lg_cmp0 {a : Nat} (h : a < 2 ^ 63) : (lg_cmp (lN a) 0 = 0) ↔ a = 0 := by
  unfold lg_cmp
  have e : (0 : Int64) = lN 0 := rfl
  rw [e]
  by_cases ha : a = 0
  · subst ha
    have h1 : ¬ (lN 0 > lN 0) := by
      show ¬ (lN 0 < lN 0)
      rw [pk_lLT (by decide) (by decide)]; omega
    rw [if_neg h1, if_pos rfl]
    simp
  · have h1 : lN a > lN 0 := by
      show lN 0 < lN a
      rw [pk_lLT (by decide) h]; omega
    rw [if_pos h1]
    simp [ha]
set_option maxHeartbeats 4000000 in
set_option maxRecDepth 100000 in
theorem pf_X4_partOf : pm_pf T_X4_partOf P_X4_partOf (pm_pl2 Q_X4_partOf) := by
  rintro ⟨a, b, w, h0⟩ av h K hK ⟨rfl, rfl, hb, hb2, ha, hw⟩ hret
  show K (some 0) ([(0, vJ (lN a)), (2, vJ (lN b)), (4, vI w)], [], h)
  have hg : 0 < Nat.gcd a b := Nat.gcd_pos_of_pos_right a hb
  have hgb : Nat.gcd a b ≤ b := Nat.gcd_le_right a hb
  have fin : ∀ x, x = Nat.gcd a b → K (some 45) ([(0, vJ (lN a)), (2, vJ (lN b)), (4, vI w), (5, vJ (lN x))], [], h) := by
    intro x hx
    have hx0 : ¬ x = 0 := by omega
    have hne : ¬ lN x = 0 := by
      rw [show (0 : Int64) = lN 0 from rfl, pk_lEQ (by omega) (by decide)]
      exact hx0
    refine hK [] 40 _ _ ?_
    conv => whnf
    refine ⟨fun c1 => ?_, fun c1 => absurd ((lg_cmp0 (by omega)).mp c1) hx0⟩
    conv => whnf
    refine ⟨fun c2 => ?_, fun c2 => ?_⟩
    · conv => whnf
      refine ⟨hne, ?_⟩
      conv => whnf
      rw [pk_lDiv (by omega) (by omega) (by omega), hx]
      refine hret _ _ ⟨rfl, Or.inr ⟨?_, rfl⟩⟩
      rcases hw with q | q
      · exact absurd q c2
      · exact q
    · conv => whnf
      refine ⟨hne, ?_⟩
      conv => whnf
      rw [pk_lDiv (by omega) (by omega) (by omega), hx]
      exact hret _ _ ⟨rfl, Or.inl ⟨c2, rfl⟩⟩
  have loop : ∀ n x y i, y ≤ x → x * y < 2 ^ n → x < 2 ^ 38 → Nat.gcd y x = Nat.gcd a b → i + n < 150 → K (some 9) ([(0, vJ (lN a)), (2, vJ (lN b)), (4, vI w), (5, vJ (lN x)), (7, vJ (lN y)), (9, vI (nI i))], [], h) := by
    intro n
    induction n with
    | zero =>
      intro x y i hyx hxy hx hgc hi
      have hy0 : y = 0 := by
        rcases Nat.eq_zero_or_pos y with q | q
        · exact q
        · have : 1 * 1 ≤ x * y := Nat.mul_le_mul (by omega) q
          omega
      subst hy0
      refine hK [(9, [0, 2, 4, 5, 7, 9]), (45, [0, 2, 4, 5])] 40 _ _ ?_
      conv => whnf
      refine ⟨fun c1 => absurd c1 (nI_ge (by omega) (by omega)), fun c1 => ?_⟩
      conv => whnf
      refine ⟨fun c2 => ?_, fun c2 => absurd ((lg_cmp0 (by omega)).mpr rfl) c2⟩
      conv => whnf
      exact fin _ (by rw [← hgc, Nat.gcd_zero_left])
    | succ n ih =>
      intro x y i hyx hxy hx hgc hi
      refine hK [(9, [0, 2, 4, 5, 7, 9]), (45, [0, 2, 4, 5])] 40 _ _ ?_
      conv => whnf
      refine ⟨fun c1 => absurd c1 (nI_ge (by omega) (by omega)), fun c1 => ?_⟩
      conv => whnf
      refine ⟨fun c2 => ?_, fun c2 => ?_⟩
      · have hy0 := (lg_cmp0 (by omega)).mp c2
        subst hy0
        conv => whnf
        exact fin _ (by rw [← hgc, Nat.gcd_zero_left])
      · have hy0 : ¬ y = 0 := fun q => c2 ((lg_cmp0 (by omega)).mpr q)
        conv => whnf
        refine ⟨?_, ?_⟩
        · rw [show (0 : Int64) = lN 0 from rfl, pk_lEQ (by omega) (by decide)]
          exact hy0
        conv => whnf
        rw [pk_lRem (by omega) (by omega) (by omega), nI_add]
        refine ih y (x % y) (i + 1) (Nat.le_of_lt (Nat.mod_lt _ (by omega))) ?_ (by omega) ?_ (by omega)
        · have h1 : x % y + y ≤ x := by
            have := Nat.mod_add_div x y
            have h2 : 1 ≤ x / y := Nat.div_pos hyx (by omega)
            have h3 : y * 1 ≤ y * (x / y) := Nat.mul_le_mul_left y h2
            omega
          have h4 : x % y < y := Nat.mod_lt _ (by omega)
          have h5 : 2 * (x % y) ≤ x := by omega
          have h6 : y * (2 * (x % y)) ≤ y * x := Nat.mul_le_mul_left y h5
          have h7 : y * (2 * (x % y)) = 2 * (y * (x % y)) := by rw [Nat.mul_left_comm]
          have h8 : y * x = x * y := Nat.mul_comm _ _
          rw [Nat.pow_succ] at hxy
          omega
        · rw [← hgc, ← Nat.gcd_rec]
  refine hK [(9, [0, 2, 4, 5, 7, 9])] 20 _ _ ?_
  conv => whnf
  rcases Nat.lt_or_ge b a with q | q
  · refine hK [(9, [0, 2, 4, 5, 7, 9]), (45, [0, 2, 4, 5])] 40 _ _ ?_
    conv => whnf
    refine ⟨fun c1 => absurd c1 (by decide +kernel), fun c1 => ?_⟩
    conv => whnf
    refine ⟨fun c2 => absurd ((lg_cmp0 (by omega)).mp c2) (by omega), fun c2 => ?_⟩
    conv => whnf
    refine ⟨?_, ?_⟩
    · rw [show (0 : Int64) = lN 0 from rfl, pk_lEQ (by omega) (by decide)]
      omega
    conv => whnf
    rw [pk_lRem (by omega) (by omega) (by omega), Nat.mod_eq_of_lt q, nI_add]
    refine loop 64 a b 1 (by omega) ?_ (by omega) (Nat.gcd_comm b a) (by omega)
    have h1 : a * b ≤ 2 ^ 37 * 2 ^ 27 := Nat.mul_le_mul (by omega) hb2
    have h2 : a * b < 2 ^ 37 * b := Nat.mul_lt_mul_of_pos_right ha hb
    have h3 : 2 ^ 37 * b ≤ 2 ^ 37 * 2 ^ 27 := Nat.mul_le_mul_left _ hb2
    have h4 : (2 : Nat) ^ 37 * 2 ^ 27 = 2 ^ 64 := by decide
    omega
  · refine loop 64 b a 0 (by omega) ?_ (by omega) rfl (by omega)
    have h1 : b * a ≤ 2 ^ 27 * 2 ^ 27 := Nat.mul_le_mul hb2 (by omega)
    have h4 : (2 : Nat) ^ 27 * 2 ^ 27 = 2 ^ 54 := by decide
    have h5 : (2 : Nat) ^ 54 < 2 ^ 64 := by decide
    omega
theorem M_X4_partOf : pm_MT yX4_partOf cX4_partOf 12 2 1 P_X4_partOf (pm_pl2 Q_X4_partOf) := pm_met k_X4_partOf (by decide) rfl (by
  rintro ⟨g0, g1, g2, g3⟩ av h hp
  rw [hp.1]
  exact Nat.le_of_ble_eq_true rfl) pf_X4_partOf
