/-! The class's small helpers; Sheet, Sight. -/
def wi (v : Int32) (a b : Nat) : Prop := ∃ k, a ≤ k ∧ k ≤ b ∧ v = nI k
theorem wi_iff {v : Int32} {a b : Nat} (ha : a < 2 ^ 31) (hb : b < 2 ^ 31) : (¬ v < nI a ∧ ¬ nI b < v) ↔ wi v a b := by
  constructor
  · rintro ⟨h1, h2⟩
    have h0 : ¬ v < 0 := fun h => h1 (by
      rw [Int32.lt_iff_toInt_lt, nI_toInt ha]
      rw [Int32.lt_iff_toInt_lt] at h
      have : (0 : Int32).toInt = 0 := rfl
      omega)
    obtain ⟨k, hk, rfl⟩ := nI_of h0
    rw [nI_ltI hk ha] at h1
    rw [nI_ltI hb hk] at h2
    exact ⟨k, by omega, by omega, rfl⟩
  · rintro ⟨k, h1, h2, rfl⟩
    rw [nI_ltI (by omega) ha, nI_ltI hb (by omega)]
    omega
def P_X4_within : Int32 × Int32 × Int32 × pm_H → List pm_V → pm_H → Prop := fun g av h => match g with
  | (v, a, b, h0) => av = [vI v, vI a, vI b] ∧ h = h0
def Q_X4_within : Int32 × Int32 × Int32 × pm_H → Int32 → pm_H → Prop := fun g r h => match g with
  | (v, a, b, h0) => h = h0 ∧ (((¬ v < a ∧ ¬ b < v) ∧ r = nI 1) ∨ (¬ (¬ v < a ∧ ¬ b < v) ∧ r = nI 0))
def T_X4_within : List (Nat × pm_T) := [
  (0, i_il 0 1),
  (1, i_il 1 2),
  (2, i_iclt 14 5),
  (5, i_il 0 6),
  (6, i_il 2 7),
  (7, i_icgt 14 10),
  (10, i_c (nI 1) 11),
  (11, i_go 15),
  (14, i_c (nI 0) 15),
  (15, i_zr)]
theorem k_X4_within : ∀ q ∈ T_X4_within, pm_sd RX4 cX4_within 3 1 3 q.1 q.2 := by
  unfold T_X4_within
  refine pm_cn (sd_iln (k := 0) (by decide +kernel) rfl rfl) ?_
  refine pm_cn (sd_iln (k := 1) (by decide +kernel) rfl rfl) ?_
  refine pm_cn (sd_iclt (off := 12) (by decide +kernel) (by decide) rfl) ?_
  refine pm_cn (sd_iln (k := 0) (by decide +kernel) rfl rfl) ?_
  refine pm_cn (sd_iln (k := 2) (by decide +kernel) rfl rfl) ?_
  refine pm_cn (sd_icgt (off := 7) (by decide +kernel) (by decide) rfl) ?_
  refine pm_cn (sd_iconst (z := 1) (by decide +kernel) (by decide +kernel) rfl) ?_
  refine pm_cn (sd_go (off := 4) (by decide +kernel) (by decide)) ?_
  refine pm_cn (sd_iconst (z := 0) (by decide +kernel) (by decide +kernel) rfl) ?_
  refine pm_cn (sd_zr (by decide +kernel)) ?_
  exact fun _ h => absurd h List.not_mem_nil
set_option maxHeartbeats 4000000 in
set_option maxRecDepth 100000 in
theorem pf_X4_within : pm_pf T_X4_within P_X4_within (pm_pi Q_X4_within) := by
  rintro ⟨v, a, b, h0⟩ av h K hK ⟨rfl, rfl⟩ hret
  show K (some 0) ([(0, vI v), (1, vI a), (2, vI b)], [], h)
  refine hK [] 20 _ _ ?_
  conv => whnf
  refine ⟨fun c1 => ?_, fun c1 => ?_⟩
  · conv => whnf
    exact ⟨Or.inl rfl, hret _ _ ⟨rfl, Or.inr ⟨fun q => q.1 c1, rfl⟩⟩⟩
  · conv => whnf
    refine ⟨fun c2 => ?_, fun c2 => ?_⟩
    · conv => whnf
      exact ⟨Or.inl rfl, hret _ _ ⟨rfl, Or.inr ⟨fun q => q.2 c2, rfl⟩⟩⟩
    · conv => whnf
      exact ⟨Or.inr rfl, hret _ _ ⟨rfl, Or.inl ⟨⟨c1, c2⟩, rfl⟩⟩⟩
theorem M_X4_within : pm_MT yX4_within cX4_within 3 3 1 P_X4_within (pm_pi Q_X4_within) := pm_met k_X4_within (by decide) rfl (by
  rintro ⟨g0, g1, g2, g3⟩ av h hp
  rw [hp.1]
  exact Nat.le_of_ble_eq_true rfl) pf_X4_within
theorem Q_within {v : Int32} {a b : Nat} {h0 h : pm_H} {r : Int32} (ha : a < 2 ^ 31) (hb : b < 2 ^ 31) (hq : Q_X4_within (v, nI a, nI b, h0) r h) : h = h0 ∧ ((wi v a b ∧ r = nI 1) ∨ (¬ wi v a b ∧ r = nI 0)) := by
  obtain ⟨h1, h2⟩ := hq
  rw [wi_iff ha hb] at h2
  exact ⟨h1, h2⟩
def hf (v : Int32) : Prop := v = nI 0 ∨ v = nI 1
def P_X4_isHalf : Int32 × pm_H → List pm_V → pm_H → Prop := fun g av h => match g with
  | (v, h0) => av = [vI v] ∧ h = h0
def Q_X4_isHalf : Int32 × pm_H → Int32 → pm_H → Prop := fun g r h => match g with
  | (v, h0) => h = h0 ∧ ((hf v ∧ r = nI 1) ∨ (¬ hf v ∧ r = nI 0))
def T_X4_isHalf : List (Nat × pm_T) := [
  (0, i_il 0 1),
  (1, i_ifeq 9 4),
  (4, i_il 0 5),
  (5, i_c (nI 1) 6),
  (6, i_icne 13 9),
  (9, i_c (nI 1) 10),
  (10, i_go 14),
  (13, i_c (nI 0) 14),
  (14, i_zr)]
theorem k_X4_isHalf : ∀ q ∈ T_X4_isHalf, pm_sd RX4 cX4_isHalf 1 1 3 q.1 q.2 := by
  unfold T_X4_isHalf
  refine pm_cn (sd_iln (k := 0) (by decide +kernel) rfl rfl) ?_
  refine pm_cn (sd_ifeq (off := 8) (by decide +kernel) (by decide) rfl) ?_
  refine pm_cn (sd_iln (k := 0) (by decide +kernel) rfl rfl) ?_
  refine pm_cn (sd_iconst (z := 1) (by decide +kernel) (by decide +kernel) rfl) ?_
  refine pm_cn (sd_icne (off := 7) (by decide +kernel) (by decide) rfl) ?_
  refine pm_cn (sd_iconst (z := 1) (by decide +kernel) (by decide +kernel) rfl) ?_
  refine pm_cn (sd_go (off := 4) (by decide +kernel) (by decide)) ?_
  refine pm_cn (sd_iconst (z := 0) (by decide +kernel) (by decide +kernel) rfl) ?_
  refine pm_cn (sd_zr (by decide +kernel)) ?_
  exact fun _ h => absurd h List.not_mem_nil
set_option maxHeartbeats 4000000 in
set_option maxRecDepth 100000 in
theorem pf_X4_isHalf : pm_pf T_X4_isHalf P_X4_isHalf (pm_pi Q_X4_isHalf) := by
  rintro ⟨v, h0⟩ av h K hK ⟨rfl, rfl⟩ hret
  show K (some 0) ([(0, vI v)], [], h)
  refine hK [] 20 _ _ ?_
  conv => whnf
  refine ⟨fun c1 => ?_, fun c1 => ?_⟩
  · conv => whnf
    exact ⟨Or.inr rfl, hret _ _ ⟨rfl, Or.inl ⟨Or.inl c1, rfl⟩⟩⟩
  · conv => whnf
    refine ⟨fun c2 => ?_, fun c2 => ?_⟩
    · conv => whnf
      exact ⟨Or.inl rfl, hret _ _ ⟨rfl, Or.inr ⟨fun q => q.elim c1 c2, rfl⟩⟩⟩
    · conv => whnf
      exact ⟨Or.inr rfl, hret _ _ ⟨rfl, Or.inl ⟨Or.inr c2, rfl⟩⟩⟩
theorem M_X4_isHalf : pm_MT yX4_isHalf cX4_isHalf 1 3 1 P_X4_isHalf (pm_pi Q_X4_isHalf) := pm_met k_X4_isHalf (by decide) rfl (by
  rintro ⟨g0, g1⟩ av h hp
  rw [hp.1]
  exact Nat.le_of_ble_eq_true rfl) pf_X4_isHalf
def P_X4_areOdds : Int32 × Int32 × Int32 × pm_H → List pm_V → pm_H → Prop := fun g av h => match g with
  | (v, n, w, h0) => av = [vI v, vI n, vI w] ∧ h = h0
def Q_X4_areOdds : Int32 × Int32 × Int32 × pm_H → Int32 → pm_H → Prop := fun g r h => match g with
  | (v, n, w, h0) => h = h0 ∧ (((wi v 0 10 ∧ wi n 0 8 ∧ hf w) ∧ r = nI 1) ∨ (¬ (wi v 0 10 ∧ wi n 0 8 ∧ hf w) ∧ r = nI 0))
def T_X4_areOdds : List (Nat × pm_T) := [
  (0, i_il 0 1),
  (1, i_c (nI 0) 2),
  (2, i_c (nI 10) 4),
  (4, i_ci 3 P_X4_within Q_X4_within 7),
  (7, i_ifeq 31 10),
  (10, i_il 1 11),
  (11, i_c (nI 0) 12),
  (12, i_c (nI 8) 14),
  (14, i_ci 3 P_X4_within Q_X4_within 17),
  (17, i_ifeq 31 20),
  (20, i_il 2 21),
  (21, i_ci 1 P_X4_isHalf Q_X4_isHalf 24),
  (24, i_ifeq 31 27),
  (27, i_c (nI 1) 28),
  (28, i_go 32),
  (31, i_c (nI 0) 32),
  (32, i_zr)]
theorem k_X4_areOdds : ∀ q ∈ T_X4_areOdds, pm_sd RX4 cX4_areOdds 3 2 3 q.1 q.2 := by
  unfold T_X4_areOdds
  refine pm_cn (sd_iln (k := 0) (by decide +kernel) rfl rfl) ?_
  refine pm_cn (sd_iconst (z := 0) (by decide +kernel) (by decide +kernel) rfl) ?_
  refine pm_cn (sd_bipush (z := 10) (by decide +kernel) (by decide +kernel) rfl) ?_
  refine pm_cn (sd_cis M_X4_within (by decide) cd_X4_within ml_X4_57 st_X4_within nt_X4 (by decide +kernel) (by decide) (by decide) (by decide +kernel) rfl) ?_
  refine pm_cn (sd_ifeq (off := 24) (by decide +kernel) (by decide) rfl) ?_
  refine pm_cn (sd_iln (k := 1) (by decide +kernel) rfl rfl) ?_
  refine pm_cn (sd_iconst (z := 0) (by decide +kernel) (by decide +kernel) rfl) ?_
  refine pm_cn (sd_bipush (z := 8) (by decide +kernel) (by decide +kernel) rfl) ?_
  refine pm_cn (sd_cis M_X4_within (by decide) cd_X4_within ml_X4_57 st_X4_within nt_X4 (by decide +kernel) (by decide) (by decide) (by decide +kernel) rfl) ?_
  refine pm_cn (sd_ifeq (off := 14) (by decide +kernel) (by decide) rfl) ?_
  refine pm_cn (sd_iln (k := 2) (by decide +kernel) rfl rfl) ?_
  refine pm_cn (sd_cis M_X4_isHalf (by decide) cd_X4_isHalf ml_X4_152 st_X4_isHalf nt_X4 (by decide +kernel) (by decide) (by decide) (by decide +kernel) rfl) ?_
  refine pm_cn (sd_ifeq (off := 7) (by decide +kernel) (by decide) rfl) ?_
  refine pm_cn (sd_iconst (z := 1) (by decide +kernel) (by decide +kernel) rfl) ?_
  refine pm_cn (sd_go (off := 4) (by decide +kernel) (by decide)) ?_
  refine pm_cn (sd_iconst (z := 0) (by decide +kernel) (by decide +kernel) rfl) ?_
  refine pm_cn (sd_zr (by decide +kernel)) ?_
  exact fun _ h => absurd h List.not_mem_nil
set_option maxHeartbeats 4000000 in
set_option maxRecDepth 100000 in
theorem pf_X4_areOdds : pm_pf T_X4_areOdds P_X4_areOdds (pm_pi Q_X4_areOdds) := by
  rintro ⟨v, n, w, h0⟩ av h K hK ⟨rfl, rfl⟩ hret
  show K (some 0) ([(0, vI v), (1, vI n), (2, vI w)], [], h)
  refine hK [] 40 _ _ ?_
  conv => whnf
  repeat' (first
    | (refine ⟨fun c => ?_, fun c => ?_⟩ <;> (try simp (disch := omega) only [nI_leI, nI_ltI, nI_eq, nz_eq, nz_lt, nz_gt, nz_le, nz_ge, nz_00, nz_10, nz_n1, nI_add, pk_mul, pk_sub, nI_shl1, nI_or, nI_half2, nI_min2, la_put_eq, la_up, lr_same, lr_ne, lu_same, lu_ne, not_true_eq_false, not_false_eq_true] at c) <;> first | (exfalso; omega) | conv => whnf)
    | (refine ⟨_, rfl, by omega, ?_⟩; conv => whnf)
    | (refine ⟨_, rfl, rfl, rfl, by decide, by decide, ?_⟩; conv => whnf)
    | (refine ⟨_, by (simp (disch := omega) only [nI_leI, nI_ltI, nI_eq, nz_eq, nz_lt, nz_gt, nz_le, nz_ge, nz_00, nz_10, nz_n1, nI_add, pk_mul, pk_sub, nI_shl1, nI_or, nI_half2, nI_min2, la_put_eq, la_up, lr_same, lr_ne, lu_same, lu_ne, not_true_eq_false, not_false_eq_true]; rfl), by omega, ?_⟩; conv => whnf)
    | (refine And.intro (by first | assumption | decide) ?_; conv => whnf))
  all_goals (try simp (disch := omega) only [nI_leI, nI_ltI, nI_eq, nz_eq, nz_lt, nz_gt, nz_le, nz_ge, nz_00, nz_10, nz_n1, nI_add, pk_mul, pk_sub, nI_shl1, nI_or, nI_half2, nI_min2, la_put_eq, la_up, lr_same, lr_ne, lu_same, lu_ne, not_true_eq_false, not_false_eq_true])
  refine ⟨(v, nI 0, nI 10, h), ⟨rfl, rfl⟩, fun r h' hq => ?_⟩
  obtain ⟨rfl, ⟨hv, rfl⟩ | ⟨hv, rfl⟩⟩ := Q_within (by decide) (by decide) hq
  · conv => whnf
    repeat' (first
      | (refine ⟨fun c => ?_, fun c => ?_⟩ <;> (try simp (disch := omega) only [nI_leI, nI_ltI, nI_eq, nz_eq, nz_lt, nz_gt, nz_le, nz_ge, nz_00, nz_10, nz_n1, nI_add, pk_mul, pk_sub, nI_shl1, nI_or, nI_half2, nI_min2, la_put_eq, la_up, lr_same, lr_ne, lu_same, lu_ne, not_true_eq_false, not_false_eq_true] at c) <;> first | (exfalso; omega) | conv => whnf)
      | (refine ⟨_, rfl, by omega, ?_⟩; conv => whnf)
      | (refine ⟨_, rfl, rfl, rfl, by decide, by decide, ?_⟩; conv => whnf)
      | (refine ⟨_, by (simp (disch := omega) only [nI_leI, nI_ltI, nI_eq, nz_eq, nz_lt, nz_gt, nz_le, nz_ge, nz_00, nz_10, nz_n1, nI_add, pk_mul, pk_sub, nI_shl1, nI_or, nI_half2, nI_min2, la_put_eq, la_up, lr_same, lr_ne, lu_same, lu_ne, not_true_eq_false, not_false_eq_true]; rfl), by omega, ?_⟩; conv => whnf)
      | (refine And.intro (by first | assumption | decide) ?_; conv => whnf))
    all_goals (try simp (disch := omega) only [nI_leI, nI_ltI, nI_eq, nz_eq, nz_lt, nz_gt, nz_le, nz_ge, nz_00, nz_10, nz_n1, nI_add, pk_mul, pk_sub, nI_shl1, nI_or, nI_half2, nI_min2, la_put_eq, la_up, lr_same, lr_ne, lu_same, lu_ne, not_true_eq_false, not_false_eq_true])
    refine ⟨(n, nI 0, nI 8, _), ⟨rfl, rfl⟩, fun r h' hq => ?_⟩
    obtain ⟨rfl, ⟨hn, rfl⟩ | ⟨hn, rfl⟩⟩ := Q_within (by decide) (by decide) hq
    · conv => whnf
      repeat' (first
        | (refine ⟨fun c => ?_, fun c => ?_⟩ <;> (try simp (disch := omega) only [nI_leI, nI_ltI, nI_eq, nz_eq, nz_lt, nz_gt, nz_le, nz_ge, nz_00, nz_10, nz_n1, nI_add, pk_mul, pk_sub, nI_shl1, nI_or, nI_half2, nI_min2, la_put_eq, la_up, lr_same, lr_ne, lu_same, lu_ne, not_true_eq_false, not_false_eq_true] at c) <;> first | (exfalso; omega) | conv => whnf)
        | (refine ⟨_, rfl, by omega, ?_⟩; conv => whnf)
        | (refine ⟨_, rfl, rfl, rfl, by decide, by decide, ?_⟩; conv => whnf)
        | (refine ⟨_, by (simp (disch := omega) only [nI_leI, nI_ltI, nI_eq, nz_eq, nz_lt, nz_gt, nz_le, nz_ge, nz_00, nz_10, nz_n1, nI_add, pk_mul, pk_sub, nI_shl1, nI_or, nI_half2, nI_min2, la_put_eq, la_up, lr_same, lr_ne, lu_same, lu_ne, not_true_eq_false, not_false_eq_true]; rfl), by omega, ?_⟩; conv => whnf)
        | (refine And.intro (by first | assumption | decide) ?_; conv => whnf))
      all_goals (try simp (disch := omega) only [nI_leI, nI_ltI, nI_eq, nz_eq, nz_lt, nz_gt, nz_le, nz_ge, nz_00, nz_10, nz_n1, nI_add, pk_mul, pk_sub, nI_shl1, nI_or, nI_half2, nI_min2, la_put_eq, la_up, lr_same, lr_ne, lu_same, lu_ne, not_true_eq_false, not_false_eq_true])
      refine ⟨(w, _), ⟨rfl, rfl⟩, fun r h' hq => ?_⟩
      obtain ⟨rfl, ⟨hw, rfl⟩ | ⟨hw, rfl⟩⟩ := hq
      · conv => whnf
        repeat' (first
          | (refine ⟨fun c => ?_, fun c => ?_⟩ <;> (try simp (disch := omega) only [nI_leI, nI_ltI, nI_eq, nz_eq, nz_lt, nz_gt, nz_le, nz_ge, nz_00, nz_10, nz_n1, nI_add, pk_mul, pk_sub, nI_shl1, nI_or, nI_half2, nI_min2, la_put_eq, la_up, lr_same, lr_ne, lu_same, lu_ne, not_true_eq_false, not_false_eq_true] at c) <;> first | (exfalso; omega) | conv => whnf)
          | (refine ⟨_, rfl, by omega, ?_⟩; conv => whnf)
          | (refine ⟨_, rfl, rfl, rfl, by decide, by decide, ?_⟩; conv => whnf)
          | (refine ⟨_, by (simp (disch := omega) only [nI_leI, nI_ltI, nI_eq, nz_eq, nz_lt, nz_gt, nz_le, nz_ge, nz_00, nz_10, nz_n1, nI_add, pk_mul, pk_sub, nI_shl1, nI_or, nI_half2, nI_min2, la_put_eq, la_up, lr_same, lr_ne, lu_same, lu_ne, not_true_eq_false, not_false_eq_true]; rfl), by omega, ?_⟩; conv => whnf)
          | (refine And.intro (by first | assumption | decide) ?_; conv => whnf))
        all_goals (try simp (disch := omega) only [nI_leI, nI_ltI, nI_eq, nz_eq, nz_lt, nz_gt, nz_le, nz_ge, nz_00, nz_10, nz_n1, nI_add, pk_mul, pk_sub, nI_shl1, nI_or, nI_half2, nI_min2, la_put_eq, la_up, lr_same, lr_ne, lu_same, lu_ne, not_true_eq_false, not_false_eq_true])
        exact hret _ _ ⟨rfl, Or.inl ⟨⟨hv, hn, hw⟩, rfl⟩⟩
      · conv => whnf
        repeat' (first
          | (refine ⟨fun c => ?_, fun c => ?_⟩ <;> (try simp (disch := omega) only [nI_leI, nI_ltI, nI_eq, nz_eq, nz_lt, nz_gt, nz_le, nz_ge, nz_00, nz_10, nz_n1, nI_add, pk_mul, pk_sub, nI_shl1, nI_or, nI_half2, nI_min2, la_put_eq, la_up, lr_same, lr_ne, lu_same, lu_ne, not_true_eq_false, not_false_eq_true] at c) <;> first | (exfalso; omega) | conv => whnf)
          | (refine ⟨_, rfl, by omega, ?_⟩; conv => whnf)
          | (refine ⟨_, rfl, rfl, rfl, by decide, by decide, ?_⟩; conv => whnf)
          | (refine ⟨_, by (simp (disch := omega) only [nI_leI, nI_ltI, nI_eq, nz_eq, nz_lt, nz_gt, nz_le, nz_ge, nz_00, nz_10, nz_n1, nI_add, pk_mul, pk_sub, nI_shl1, nI_or, nI_half2, nI_min2, la_put_eq, la_up, lr_same, lr_ne, lu_same, lu_ne, not_true_eq_false, not_false_eq_true]; rfl), by omega, ?_⟩; conv => whnf)
          | (refine And.intro (by first | assumption | decide) ?_; conv => whnf))
        all_goals (try simp (disch := omega) only [nI_leI, nI_ltI, nI_eq, nz_eq, nz_lt, nz_gt, nz_le, nz_ge, nz_00, nz_10, nz_n1, nI_add, pk_mul, pk_sub, nI_shl1, nI_or, nI_half2, nI_min2, la_put_eq, la_up, lr_same, lr_ne, lu_same, lu_ne, not_true_eq_false, not_false_eq_true])
        exact hret _ _ ⟨rfl, Or.inr ⟨fun q => hw q.2.2, rfl⟩⟩
    · conv => whnf
      repeat' (first
        | (refine ⟨fun c => ?_, fun c => ?_⟩ <;> (try simp (disch := omega) only [nI_leI, nI_ltI, nI_eq, nz_eq, nz_lt, nz_gt, nz_le, nz_ge, nz_00, nz_10, nz_n1, nI_add, pk_mul, pk_sub, nI_shl1, nI_or, nI_half2, nI_min2, la_put_eq, la_up, lr_same, lr_ne, lu_same, lu_ne, not_true_eq_false, not_false_eq_true] at c) <;> first | (exfalso; omega) | conv => whnf)
        | (refine ⟨_, rfl, by omega, ?_⟩; conv => whnf)
        | (refine ⟨_, rfl, rfl, rfl, by decide, by decide, ?_⟩; conv => whnf)
        | (refine ⟨_, by (simp (disch := omega) only [nI_leI, nI_ltI, nI_eq, nz_eq, nz_lt, nz_gt, nz_le, nz_ge, nz_00, nz_10, nz_n1, nI_add, pk_mul, pk_sub, nI_shl1, nI_or, nI_half2, nI_min2, la_put_eq, la_up, lr_same, lr_ne, lu_same, lu_ne, not_true_eq_false, not_false_eq_true]; rfl), by omega, ?_⟩; conv => whnf)
        | (refine And.intro (by first | assumption | decide) ?_; conv => whnf))
      all_goals (try simp (disch := omega) only [nI_leI, nI_ltI, nI_eq, nz_eq, nz_lt, nz_gt, nz_le, nz_ge, nz_00, nz_10, nz_n1, nI_add, pk_mul, pk_sub, nI_shl1, nI_or, nI_half2, nI_min2, la_put_eq, la_up, lr_same, lr_ne, lu_same, lu_ne, not_true_eq_false, not_false_eq_true])
      exact hret _ _ ⟨rfl, Or.inr ⟨fun q => hn q.2.1, rfl⟩⟩
  · conv => whnf
    repeat' (first
      | (refine ⟨fun c => ?_, fun c => ?_⟩ <;> (try simp (disch := omega) only [nI_leI, nI_ltI, nI_eq, nz_eq, nz_lt, nz_gt, nz_le, nz_ge, nz_00, nz_10, nz_n1, nI_add, pk_mul, pk_sub, nI_shl1, nI_or, nI_half2, nI_min2, la_put_eq, la_up, lr_same, lr_ne, lu_same, lu_ne, not_true_eq_false, not_false_eq_true] at c) <;> first | (exfalso; omega) | conv => whnf)
      | (refine ⟨_, rfl, by omega, ?_⟩; conv => whnf)
      | (refine ⟨_, rfl, rfl, rfl, by decide, by decide, ?_⟩; conv => whnf)
      | (refine ⟨_, by (simp (disch := omega) only [nI_leI, nI_ltI, nI_eq, nz_eq, nz_lt, nz_gt, nz_le, nz_ge, nz_00, nz_10, nz_n1, nI_add, pk_mul, pk_sub, nI_shl1, nI_or, nI_half2, nI_min2, la_put_eq, la_up, lr_same, lr_ne, lu_same, lu_ne, not_true_eq_false, not_false_eq_true]; rfl), by omega, ?_⟩; conv => whnf)
      | (refine And.intro (by first | assumption | decide) ?_; conv => whnf))
    all_goals (try simp (disch := omega) only [nI_leI, nI_ltI, nI_eq, nz_eq, nz_lt, nz_gt, nz_le, nz_ge, nz_00, nz_10, nz_n1, nI_add, pk_mul, pk_sub, nI_shl1, nI_or, nI_half2, nI_min2, la_put_eq, la_up, lr_same, lr_ne, lu_same, lu_ne, not_true_eq_false, not_false_eq_true])
    exact hret _ _ ⟨rfl, Or.inr ⟨fun q => hv q.1, rfl⟩⟩
theorem M_X4_areOdds : pm_MT yX4_areOdds cX4_areOdds 3 3 2 P_X4_areOdds (pm_pi Q_X4_areOdds) := pm_met k_X4_areOdds (by decide) rfl (by
  rintro ⟨g0, g1, g2, g3⟩ av h hp
  rw [hp.1]
  exact Nat.le_of_ble_eq_true rfl) pf_X4_areOdds
/-! put -/
def P_X4_put : Nat × Nat × Nat × Int32 × Nat × LD × pm_H → List pm_V → pm_H → Prop := fun g av h => match g with
  | (i, s, j, v, m, L, h0) => av = [vR 0 i s, vI (nI j), vI v, vI (nI m)] ∧ h = h0 ∧ la_at h0 i L ∧ m < 2 ^ 31 ∧ ((s = 1 ∧ j < 4) ∨ (s = 3 ∧ j < 6) ∨ (s = 4 ∧ j < 6) ∨ (s = 5 ∧ j < 6) ∨ (s = 6 ∧ j < 6))
def Q_X4_put : Nat × Nat × Nat × Int32 × Nat × LD × pm_H → Int32 → pm_H → Prop := fun g r h => match g with
  | (i, s, j, v, m, L, h0) => (∃ k, k ≤ m ∧ v = nI k ∧ r = nI (L s j) ∧ h = la_put h0 i (lu L s j k)) ∨ (¬ wi v 0 m ∧ r = (-1) ∧ h = h0)
def T_X4_put : List (Nat × pm_T) := [
  (0, i_il 1 1),
  (1, i_iflt 19 4),
  (4, i_il 1 5),
  (5, i_al 0 6),
  (6, i_len 7),
  (7, i_icge 19 10),
  (10, i_il 2 11),
  (11, i_c (nI 0) 12),
  (12, i_il 3 13),
  (13, i_ci 3 P_X4_within Q_X4_within 16),
  (16, i_ifne 21 19),
  (19, i_c (-1) 20),
  (20, i_ir),
  (21, i_al 0 22),
  (22, i_il 1 23),
  (23, i_ia 24),
  (24, i_is 4 26),
  (26, i_al 0 27),
  (27, i_il 1 28),
  (28, i_il 2 29),
  (29, i_ias 30),
  (30, i_il 4 32),
  (32, i_ir)]
theorem k_X4_put : ∀ q ∈ T_X4_put, pm_sd RX4 cX4_put 5 2 1 q.1 q.2 := by
  unfold T_X4_put
  refine pm_cn (sd_iln (k := 1) (by decide +kernel) rfl rfl) ?_
  refine pm_cn (sd_iflt (off := 18) (by decide +kernel) (by decide) rfl) ?_
  refine pm_cn (sd_iln (k := 1) (by decide +kernel) rfl rfl) ?_
  refine pm_cn (sd_aln (k := 0) (by decide +kernel) rfl rfl) ?_
  refine pm_cn (sd_len (by decide +kernel) rfl) ?_
  refine pm_cn (sd_icge (off := 12) (by decide +kernel) (by decide) rfl) ?_
  refine pm_cn (sd_iln (k := 2) (by decide +kernel) rfl rfl) ?_
  refine pm_cn (sd_iconst (z := 0) (by decide +kernel) (by decide +kernel) rfl) ?_
  refine pm_cn (sd_iln (k := 3) (by decide +kernel) rfl rfl) ?_
  refine pm_cn (sd_cis M_X4_within (by decide) cd_X4_within ml_X4_57 st_X4_within nt_X4 (by decide +kernel) (by decide) (by decide) (by decide +kernel) rfl) ?_
  refine pm_cn (sd_ifne (off := 5) (by decide +kernel) (by decide) rfl) ?_
  refine pm_cn (sd_iconst (z := -1) (by decide +kernel) (by decide +kernel) rfl) ?_
  refine pm_cn (sd_ir (by decide +kernel)) ?_
  refine pm_cn (sd_aln (k := 0) (by decide +kernel) rfl rfl) ?_
  refine pm_cn (sd_iln (k := 1) (by decide +kernel) rfl rfl) ?_
  refine pm_cn (sd_ia (by decide +kernel) rfl) ?_
  refine pm_cn (sd_is (by decide +kernel) rfl (by decide)) ?_
  refine pm_cn (sd_aln (k := 0) (by decide +kernel) rfl rfl) ?_
  refine pm_cn (sd_iln (k := 1) (by decide +kernel) rfl rfl) ?_
  refine pm_cn (sd_iln (k := 2) (by decide +kernel) rfl rfl) ?_
  refine pm_cn (sd_ias (by decide +kernel) rfl) ?_
  refine pm_cn (sd_il (by decide +kernel) rfl) ?_
  refine pm_cn (sd_ir (by decide +kernel)) ?_
  exact fun _ h => absurd h List.not_mem_nil
set_option maxHeartbeats 4000000 in
set_option maxRecDepth 100000 in
theorem pf_X4_put : pm_pf T_X4_put P_X4_put (pm_pi Q_X4_put) := by
  rintro ⟨i, s, j, v, m, L, h0⟩ av h K hK ⟨rfl, rfl, hL, hm, hs⟩ hret
  have e := la_self hL
  show K (some 0) ([(0, vR 0 i s), (1, vI (nI j)), (2, vI v), (3, vI (nI m))], [], h)
  rw [← e]
  rcases hs with ⟨rfl, hj⟩ | ⟨rfl, hj⟩ | ⟨rfl, hj⟩ | ⟨rfl, hj⟩ | ⟨rfl, hj⟩
  · refine hK [] 60 _ _ ?_
    conv => whnf
    repeat' (first
      | (refine ⟨fun c => ?_, fun c => ?_⟩ <;> (try simp (disch := omega) only [nI_leI, nI_ltI, nI_eq, nz_eq, nz_lt, nz_gt, nz_le, nz_ge, nz_00, nz_10, nz_n1, nI_add, pk_mul, pk_sub, nI_shl1, nI_or, nI_half2, nI_min2, la_put_eq, la_up, lr_same, lr_ne, lu_same, lu_ne, not_true_eq_false, not_false_eq_true] at c) <;> first | (exfalso; omega) | conv => whnf)
      | (refine ⟨_, rfl, by omega, ?_⟩; conv => whnf)
      | (refine ⟨_, rfl, rfl, rfl, by decide, by decide, ?_⟩; conv => whnf)
      | (refine ⟨_, by (simp (disch := omega) only [nI_leI, nI_ltI, nI_eq, nz_eq, nz_lt, nz_gt, nz_le, nz_ge, nz_00, nz_10, nz_n1, nI_add, pk_mul, pk_sub, nI_shl1, nI_or, nI_half2, nI_min2, la_put_eq, la_up, lr_same, lr_ne, lu_same, lu_ne, not_true_eq_false, not_false_eq_true]; rfl), by omega, ?_⟩; conv => whnf)
      | (refine And.intro (by first | assumption | decide) ?_; conv => whnf))
    all_goals (try simp (disch := omega) only [nI_leI, nI_ltI, nI_eq, nz_eq, nz_lt, nz_gt, nz_le, nz_ge, nz_00, nz_10, nz_n1, nI_add, pk_mul, pk_sub, nI_shl1, nI_or, nI_half2, nI_min2, la_put_eq, la_up, lr_same, lr_ne, lu_same, lu_ne, not_true_eq_false, not_false_eq_true])
    refine ⟨(v, nI 0, nI m, _), ⟨rfl, rfl⟩, fun r h' hq => ?_⟩
    obtain ⟨rfl, ⟨⟨k, h1, h2, rfl⟩, rfl⟩ | ⟨hv, rfl⟩⟩ := Q_within (by decide) hm hq
    · conv => whnf
      repeat' (first
        | (refine ⟨fun c => ?_, fun c => ?_⟩ <;> (try simp (disch := omega) only [nI_leI, nI_ltI, nI_eq, nz_eq, nz_lt, nz_gt, nz_le, nz_ge, nz_00, nz_10, nz_n1, nI_add, pk_mul, pk_sub, nI_shl1, nI_or, nI_half2, nI_min2, la_put_eq, la_up, lr_same, lr_ne, lu_same, lu_ne, not_true_eq_false, not_false_eq_true] at c) <;> first | (exfalso; omega) | conv => whnf)
        | (refine ⟨_, rfl, by omega, ?_⟩; conv => whnf)
        | (refine ⟨_, rfl, rfl, rfl, by decide, by decide, ?_⟩; conv => whnf)
        | (refine ⟨_, by (simp (disch := omega) only [nI_leI, nI_ltI, nI_eq, nz_eq, nz_lt, nz_gt, nz_le, nz_ge, nz_00, nz_10, nz_n1, nI_add, pk_mul, pk_sub, nI_shl1, nI_or, nI_half2, nI_min2, la_put_eq, la_up, lr_same, lr_ne, lu_same, lu_ne, not_true_eq_false, not_false_eq_true]; rfl), by omega, ?_⟩; conv => whnf)
        | (refine And.intro (by first | assumption | decide) ?_; conv => whnf))
      all_goals (try simp (disch := omega) only [nI_leI, nI_ltI, nI_eq, nz_eq, nz_lt, nz_gt, nz_le, nz_ge, nz_00, nz_10, nz_n1, nI_add, pk_mul, pk_sub, nI_shl1, nI_or, nI_half2, nI_min2, la_put_eq, la_up, lr_same, lr_ne, lu_same, lu_ne, not_true_eq_false, not_false_eq_true])
      refine hret _ _ ?_
      exact Or.inl ⟨k, h2, rfl, rfl, rfl⟩
    · conv => whnf
      repeat' (first
        | (refine ⟨fun c => ?_, fun c => ?_⟩ <;> (try simp (disch := omega) only [nI_leI, nI_ltI, nI_eq, nz_eq, nz_lt, nz_gt, nz_le, nz_ge, nz_00, nz_10, nz_n1, nI_add, pk_mul, pk_sub, nI_shl1, nI_or, nI_half2, nI_min2, la_put_eq, la_up, lr_same, lr_ne, lu_same, lu_ne, not_true_eq_false, not_false_eq_true] at c) <;> first | (exfalso; omega) | conv => whnf)
        | (refine ⟨_, rfl, by omega, ?_⟩; conv => whnf)
        | (refine ⟨_, rfl, rfl, rfl, by decide, by decide, ?_⟩; conv => whnf)
        | (refine ⟨_, by (simp (disch := omega) only [nI_leI, nI_ltI, nI_eq, nz_eq, nz_lt, nz_gt, nz_le, nz_ge, nz_00, nz_10, nz_n1, nI_add, pk_mul, pk_sub, nI_shl1, nI_or, nI_half2, nI_min2, la_put_eq, la_up, lr_same, lr_ne, lu_same, lu_ne, not_true_eq_false, not_false_eq_true]; rfl), by omega, ?_⟩; conv => whnf)
        | (refine And.intro (by first | assumption | decide) ?_; conv => whnf))
      all_goals (try simp (disch := omega) only [nI_leI, nI_ltI, nI_eq, nz_eq, nz_lt, nz_gt, nz_le, nz_ge, nz_00, nz_10, nz_n1, nI_add, pk_mul, pk_sub, nI_shl1, nI_or, nI_half2, nI_min2, la_put_eq, la_up, lr_same, lr_ne, lu_same, lu_ne, not_true_eq_false, not_false_eq_true])
      refine hret _ _ ?_
      exact Or.inr ⟨hv, rfl, e⟩
  · refine hK [] 60 _ _ ?_
    conv => whnf
    repeat' (first
      | (refine ⟨fun c => ?_, fun c => ?_⟩ <;> (try simp (disch := omega) only [nI_leI, nI_ltI, nI_eq, nz_eq, nz_lt, nz_gt, nz_le, nz_ge, nz_00, nz_10, nz_n1, nI_add, pk_mul, pk_sub, nI_shl1, nI_or, nI_half2, nI_min2, la_put_eq, la_up, lr_same, lr_ne, lu_same, lu_ne, not_true_eq_false, not_false_eq_true] at c) <;> first | (exfalso; omega) | conv => whnf)
      | (refine ⟨_, rfl, by omega, ?_⟩; conv => whnf)
      | (refine ⟨_, rfl, rfl, rfl, by decide, by decide, ?_⟩; conv => whnf)
      | (refine ⟨_, by (simp (disch := omega) only [nI_leI, nI_ltI, nI_eq, nz_eq, nz_lt, nz_gt, nz_le, nz_ge, nz_00, nz_10, nz_n1, nI_add, pk_mul, pk_sub, nI_shl1, nI_or, nI_half2, nI_min2, la_put_eq, la_up, lr_same, lr_ne, lu_same, lu_ne, not_true_eq_false, not_false_eq_true]; rfl), by omega, ?_⟩; conv => whnf)
      | (refine And.intro (by first | assumption | decide) ?_; conv => whnf))
    all_goals (try simp (disch := omega) only [nI_leI, nI_ltI, nI_eq, nz_eq, nz_lt, nz_gt, nz_le, nz_ge, nz_00, nz_10, nz_n1, nI_add, pk_mul, pk_sub, nI_shl1, nI_or, nI_half2, nI_min2, la_put_eq, la_up, lr_same, lr_ne, lu_same, lu_ne, not_true_eq_false, not_false_eq_true])
    refine ⟨(v, nI 0, nI m, _), ⟨rfl, rfl⟩, fun r h' hq => ?_⟩
    obtain ⟨rfl, ⟨⟨k, h1, h2, rfl⟩, rfl⟩ | ⟨hv, rfl⟩⟩ := Q_within (by decide) hm hq
    · conv => whnf
      repeat' (first
        | (refine ⟨fun c => ?_, fun c => ?_⟩ <;> (try simp (disch := omega) only [nI_leI, nI_ltI, nI_eq, nz_eq, nz_lt, nz_gt, nz_le, nz_ge, nz_00, nz_10, nz_n1, nI_add, pk_mul, pk_sub, nI_shl1, nI_or, nI_half2, nI_min2, la_put_eq, la_up, lr_same, lr_ne, lu_same, lu_ne, not_true_eq_false, not_false_eq_true] at c) <;> first | (exfalso; omega) | conv => whnf)
        | (refine ⟨_, rfl, by omega, ?_⟩; conv => whnf)
        | (refine ⟨_, rfl, rfl, rfl, by decide, by decide, ?_⟩; conv => whnf)
        | (refine ⟨_, by (simp (disch := omega) only [nI_leI, nI_ltI, nI_eq, nz_eq, nz_lt, nz_gt, nz_le, nz_ge, nz_00, nz_10, nz_n1, nI_add, pk_mul, pk_sub, nI_shl1, nI_or, nI_half2, nI_min2, la_put_eq, la_up, lr_same, lr_ne, lu_same, lu_ne, not_true_eq_false, not_false_eq_true]; rfl), by omega, ?_⟩; conv => whnf)
        | (refine And.intro (by first | assumption | decide) ?_; conv => whnf))
      all_goals (try simp (disch := omega) only [nI_leI, nI_ltI, nI_eq, nz_eq, nz_lt, nz_gt, nz_le, nz_ge, nz_00, nz_10, nz_n1, nI_add, pk_mul, pk_sub, nI_shl1, nI_or, nI_half2, nI_min2, la_put_eq, la_up, lr_same, lr_ne, lu_same, lu_ne, not_true_eq_false, not_false_eq_true])
      refine hret _ _ ?_
      exact Or.inl ⟨k, h2, rfl, rfl, rfl⟩
    · conv => whnf
      repeat' (first
        | (refine ⟨fun c => ?_, fun c => ?_⟩ <;> (try simp (disch := omega) only [nI_leI, nI_ltI, nI_eq, nz_eq, nz_lt, nz_gt, nz_le, nz_ge, nz_00, nz_10, nz_n1, nI_add, pk_mul, pk_sub, nI_shl1, nI_or, nI_half2, nI_min2, la_put_eq, la_up, lr_same, lr_ne, lu_same, lu_ne, not_true_eq_false, not_false_eq_true] at c) <;> first | (exfalso; omega) | conv => whnf)
        | (refine ⟨_, rfl, by omega, ?_⟩; conv => whnf)
        | (refine ⟨_, rfl, rfl, rfl, by decide, by decide, ?_⟩; conv => whnf)
        | (refine ⟨_, by (simp (disch := omega) only [nI_leI, nI_ltI, nI_eq, nz_eq, nz_lt, nz_gt, nz_le, nz_ge, nz_00, nz_10, nz_n1, nI_add, pk_mul, pk_sub, nI_shl1, nI_or, nI_half2, nI_min2, la_put_eq, la_up, lr_same, lr_ne, lu_same, lu_ne, not_true_eq_false, not_false_eq_true]; rfl), by omega, ?_⟩; conv => whnf)
        | (refine And.intro (by first | assumption | decide) ?_; conv => whnf))
      all_goals (try simp (disch := omega) only [nI_leI, nI_ltI, nI_eq, nz_eq, nz_lt, nz_gt, nz_le, nz_ge, nz_00, nz_10, nz_n1, nI_add, pk_mul, pk_sub, nI_shl1, nI_or, nI_half2, nI_min2, la_put_eq, la_up, lr_same, lr_ne, lu_same, lu_ne, not_true_eq_false, not_false_eq_true])
      refine hret _ _ ?_
      exact Or.inr ⟨hv, rfl, e⟩
  · refine hK [] 60 _ _ ?_
    conv => whnf
    repeat' (first
      | (refine ⟨fun c => ?_, fun c => ?_⟩ <;> (try simp (disch := omega) only [nI_leI, nI_ltI, nI_eq, nz_eq, nz_lt, nz_gt, nz_le, nz_ge, nz_00, nz_10, nz_n1, nI_add, pk_mul, pk_sub, nI_shl1, nI_or, nI_half2, nI_min2, la_put_eq, la_up, lr_same, lr_ne, lu_same, lu_ne, not_true_eq_false, not_false_eq_true] at c) <;> first | (exfalso; omega) | conv => whnf)
      | (refine ⟨_, rfl, by omega, ?_⟩; conv => whnf)
      | (refine ⟨_, rfl, rfl, rfl, by decide, by decide, ?_⟩; conv => whnf)
      | (refine ⟨_, by (simp (disch := omega) only [nI_leI, nI_ltI, nI_eq, nz_eq, nz_lt, nz_gt, nz_le, nz_ge, nz_00, nz_10, nz_n1, nI_add, pk_mul, pk_sub, nI_shl1, nI_or, nI_half2, nI_min2, la_put_eq, la_up, lr_same, lr_ne, lu_same, lu_ne, not_true_eq_false, not_false_eq_true]; rfl), by omega, ?_⟩; conv => whnf)
      | (refine And.intro (by first | assumption | decide) ?_; conv => whnf))
    all_goals (try simp (disch := omega) only [nI_leI, nI_ltI, nI_eq, nz_eq, nz_lt, nz_gt, nz_le, nz_ge, nz_00, nz_10, nz_n1, nI_add, pk_mul, pk_sub, nI_shl1, nI_or, nI_half2, nI_min2, la_put_eq, la_up, lr_same, lr_ne, lu_same, lu_ne, not_true_eq_false, not_false_eq_true])
    refine ⟨(v, nI 0, nI m, _), ⟨rfl, rfl⟩, fun r h' hq => ?_⟩
    obtain ⟨rfl, ⟨⟨k, h1, h2, rfl⟩, rfl⟩ | ⟨hv, rfl⟩⟩ := Q_within (by decide) hm hq
    · conv => whnf
      repeat' (first
        | (refine ⟨fun c => ?_, fun c => ?_⟩ <;> (try simp (disch := omega) only [nI_leI, nI_ltI, nI_eq, nz_eq, nz_lt, nz_gt, nz_le, nz_ge, nz_00, nz_10, nz_n1, nI_add, pk_mul, pk_sub, nI_shl1, nI_or, nI_half2, nI_min2, la_put_eq, la_up, lr_same, lr_ne, lu_same, lu_ne, not_true_eq_false, not_false_eq_true] at c) <;> first | (exfalso; omega) | conv => whnf)
        | (refine ⟨_, rfl, by omega, ?_⟩; conv => whnf)
        | (refine ⟨_, rfl, rfl, rfl, by decide, by decide, ?_⟩; conv => whnf)
        | (refine ⟨_, by (simp (disch := omega) only [nI_leI, nI_ltI, nI_eq, nz_eq, nz_lt, nz_gt, nz_le, nz_ge, nz_00, nz_10, nz_n1, nI_add, pk_mul, pk_sub, nI_shl1, nI_or, nI_half2, nI_min2, la_put_eq, la_up, lr_same, lr_ne, lu_same, lu_ne, not_true_eq_false, not_false_eq_true]; rfl), by omega, ?_⟩; conv => whnf)
        | (refine And.intro (by first | assumption | decide) ?_; conv => whnf))
      all_goals (try simp (disch := omega) only [nI_leI, nI_ltI, nI_eq, nz_eq, nz_lt, nz_gt, nz_le, nz_ge, nz_00, nz_10, nz_n1, nI_add, pk_mul, pk_sub, nI_shl1, nI_or, nI_half2, nI_min2, la_put_eq, la_up, lr_same, lr_ne, lu_same, lu_ne, not_true_eq_false, not_false_eq_true])
      refine hret _ _ ?_
      exact Or.inl ⟨k, h2, rfl, rfl, rfl⟩
    · conv => whnf
      repeat' (first
        | (refine ⟨fun c => ?_, fun c => ?_⟩ <;> (try simp (disch := omega) only [nI_leI, nI_ltI, nI_eq, nz_eq, nz_lt, nz_gt, nz_le, nz_ge, nz_00, nz_10, nz_n1, nI_add, pk_mul, pk_sub, nI_shl1, nI_or, nI_half2, nI_min2, la_put_eq, la_up, lr_same, lr_ne, lu_same, lu_ne, not_true_eq_false, not_false_eq_true] at c) <;> first | (exfalso; omega) | conv => whnf)
        | (refine ⟨_, rfl, by omega, ?_⟩; conv => whnf)
        | (refine ⟨_, rfl, rfl, rfl, by decide, by decide, ?_⟩; conv => whnf)
        | (refine ⟨_, by (simp (disch := omega) only [nI_leI, nI_ltI, nI_eq, nz_eq, nz_lt, nz_gt, nz_le, nz_ge, nz_00, nz_10, nz_n1, nI_add, pk_mul, pk_sub, nI_shl1, nI_or, nI_half2, nI_min2, la_put_eq, la_up, lr_same, lr_ne, lu_same, lu_ne, not_true_eq_false, not_false_eq_true]; rfl), by omega, ?_⟩; conv => whnf)
        | (refine And.intro (by first | assumption | decide) ?_; conv => whnf))
      all_goals (try simp (disch := omega) only [nI_leI, nI_ltI, nI_eq, nz_eq, nz_lt, nz_gt, nz_le, nz_ge, nz_00, nz_10, nz_n1, nI_add, pk_mul, pk_sub, nI_shl1, nI_or, nI_half2, nI_min2, la_put_eq, la_up, lr_same, lr_ne, lu_same, lu_ne, not_true_eq_false, not_false_eq_true])
      refine hret _ _ ?_
      exact Or.inr ⟨hv, rfl, e⟩
  · refine hK [] 60 _ _ ?_
    conv => whnf
    repeat' (first
      | (refine ⟨fun c => ?_, fun c => ?_⟩ <;> (try simp (disch := omega) only [nI_leI, nI_ltI, nI_eq, nz_eq, nz_lt, nz_gt, nz_le, nz_ge, nz_00, nz_10, nz_n1, nI_add, pk_mul, pk_sub, nI_shl1, nI_or, nI_half2, nI_min2, la_put_eq, la_up, lr_same, lr_ne, lu_same, lu_ne, not_true_eq_false, not_false_eq_true] at c) <;> first | (exfalso; omega) | conv => whnf)
      | (refine ⟨_, rfl, by omega, ?_⟩; conv => whnf)
      | (refine ⟨_, rfl, rfl, rfl, by decide, by decide, ?_⟩; conv => whnf)
      | (refine ⟨_, by (simp (disch := omega) only [nI_leI, nI_ltI, nI_eq, nz_eq, nz_lt, nz_gt, nz_le, nz_ge, nz_00, nz_10, nz_n1, nI_add, pk_mul, pk_sub, nI_shl1, nI_or, nI_half2, nI_min2, la_put_eq, la_up, lr_same, lr_ne, lu_same, lu_ne, not_true_eq_false, not_false_eq_true]; rfl), by omega, ?_⟩; conv => whnf)
      | (refine And.intro (by first | assumption | decide) ?_; conv => whnf))
    all_goals (try simp (disch := omega) only [nI_leI, nI_ltI, nI_eq, nz_eq, nz_lt, nz_gt, nz_le, nz_ge, nz_00, nz_10, nz_n1, nI_add, pk_mul, pk_sub, nI_shl1, nI_or, nI_half2, nI_min2, la_put_eq, la_up, lr_same, lr_ne, lu_same, lu_ne, not_true_eq_false, not_false_eq_true])
    refine ⟨(v, nI 0, nI m, _), ⟨rfl, rfl⟩, fun r h' hq => ?_⟩
    obtain ⟨rfl, ⟨⟨k, h1, h2, rfl⟩, rfl⟩ | ⟨hv, rfl⟩⟩ := Q_within (by decide) hm hq
    · conv => whnf
      repeat' (first
        | (refine ⟨fun c => ?_, fun c => ?_⟩ <;> (try simp (disch := omega) only [nI_leI, nI_ltI, nI_eq, nz_eq, nz_lt, nz_gt, nz_le, nz_ge, nz_00, nz_10, nz_n1, nI_add, pk_mul, pk_sub, nI_shl1, nI_or, nI_half2, nI_min2, la_put_eq, la_up, lr_same, lr_ne, lu_same, lu_ne, not_true_eq_false, not_false_eq_true] at c) <;> first | (exfalso; omega) | conv => whnf)
        | (refine ⟨_, rfl, by omega, ?_⟩; conv => whnf)
        | (refine ⟨_, rfl, rfl, rfl, by decide, by decide, ?_⟩; conv => whnf)
        | (refine ⟨_, by (simp (disch := omega) only [nI_leI, nI_ltI, nI_eq, nz_eq, nz_lt, nz_gt, nz_le, nz_ge, nz_00, nz_10, nz_n1, nI_add, pk_mul, pk_sub, nI_shl1, nI_or, nI_half2, nI_min2, la_put_eq, la_up, lr_same, lr_ne, lu_same, lu_ne, not_true_eq_false, not_false_eq_true]; rfl), by omega, ?_⟩; conv => whnf)
        | (refine And.intro (by first | assumption | decide) ?_; conv => whnf))
      all_goals (try simp (disch := omega) only [nI_leI, nI_ltI, nI_eq, nz_eq, nz_lt, nz_gt, nz_le, nz_ge, nz_00, nz_10, nz_n1, nI_add, pk_mul, pk_sub, nI_shl1, nI_or, nI_half2, nI_min2, la_put_eq, la_up, lr_same, lr_ne, lu_same, lu_ne, not_true_eq_false, not_false_eq_true])
      refine hret _ _ ?_
      exact Or.inl ⟨k, h2, rfl, rfl, rfl⟩
    · conv => whnf
      repeat' (first
        | (refine ⟨fun c => ?_, fun c => ?_⟩ <;> (try simp (disch := omega) only [nI_leI, nI_ltI, nI_eq, nz_eq, nz_lt, nz_gt, nz_le, nz_ge, nz_00, nz_10, nz_n1, nI_add, pk_mul, pk_sub, nI_shl1, nI_or, nI_half2, nI_min2, la_put_eq, la_up, lr_same, lr_ne, lu_same, lu_ne, not_true_eq_false, not_false_eq_true] at c) <;> first | (exfalso; omega) | conv => whnf)
        | (refine ⟨_, rfl, by omega, ?_⟩; conv => whnf)
        | (refine ⟨_, rfl, rfl, rfl, by decide, by decide, ?_⟩; conv => whnf)
        | (refine ⟨_, by (simp (disch := omega) only [nI_leI, nI_ltI, nI_eq, nz_eq, nz_lt, nz_gt, nz_le, nz_ge, nz_00, nz_10, nz_n1, nI_add, pk_mul, pk_sub, nI_shl1, nI_or, nI_half2, nI_min2, la_put_eq, la_up, lr_same, lr_ne, lu_same, lu_ne, not_true_eq_false, not_false_eq_true]; rfl), by omega, ?_⟩; conv => whnf)
        | (refine And.intro (by first | assumption | decide) ?_; conv => whnf))
      all_goals (try simp (disch := omega) only [nI_leI, nI_ltI, nI_eq, nz_eq, nz_lt, nz_gt, nz_le, nz_ge, nz_00, nz_10, nz_n1, nI_add, pk_mul, pk_sub, nI_shl1, nI_or, nI_half2, nI_min2, la_put_eq, la_up, lr_same, lr_ne, lu_same, lu_ne, not_true_eq_false, not_false_eq_true])
      refine hret _ _ ?_
      exact Or.inr ⟨hv, rfl, e⟩
  · refine hK [] 60 _ _ ?_
    conv => whnf
    repeat' (first
      | (refine ⟨fun c => ?_, fun c => ?_⟩ <;> (try simp (disch := omega) only [nI_leI, nI_ltI, nI_eq, nz_eq, nz_lt, nz_gt, nz_le, nz_ge, nz_00, nz_10, nz_n1, nI_add, pk_mul, pk_sub, nI_shl1, nI_or, nI_half2, nI_min2, la_put_eq, la_up, lr_same, lr_ne, lu_same, lu_ne, not_true_eq_false, not_false_eq_true] at c) <;> first | (exfalso; omega) | conv => whnf)
      | (refine ⟨_, rfl, by omega, ?_⟩; conv => whnf)
      | (refine ⟨_, rfl, rfl, rfl, by decide, by decide, ?_⟩; conv => whnf)
      | (refine ⟨_, by (simp (disch := omega) only [nI_leI, nI_ltI, nI_eq, nz_eq, nz_lt, nz_gt, nz_le, nz_ge, nz_00, nz_10, nz_n1, nI_add, pk_mul, pk_sub, nI_shl1, nI_or, nI_half2, nI_min2, la_put_eq, la_up, lr_same, lr_ne, lu_same, lu_ne, not_true_eq_false, not_false_eq_true]; rfl), by omega, ?_⟩; conv => whnf)
      | (refine And.intro (by first | assumption | decide) ?_; conv => whnf))
    all_goals (try simp (disch := omega) only [nI_leI, nI_ltI, nI_eq, nz_eq, nz_lt, nz_gt, nz_le, nz_ge, nz_00, nz_10, nz_n1, nI_add, pk_mul, pk_sub, nI_shl1, nI_or, nI_half2, nI_min2, la_put_eq, la_up, lr_same, lr_ne, lu_same, lu_ne, not_true_eq_false, not_false_eq_true])
    refine ⟨(v, nI 0, nI m, _), ⟨rfl, rfl⟩, fun r h' hq => ?_⟩
    obtain ⟨rfl, ⟨⟨k, h1, h2, rfl⟩, rfl⟩ | ⟨hv, rfl⟩⟩ := Q_within (by decide) hm hq
    · conv => whnf
      repeat' (first
        | (refine ⟨fun c => ?_, fun c => ?_⟩ <;> (try simp (disch := omega) only [nI_leI, nI_ltI, nI_eq, nz_eq, nz_lt, nz_gt, nz_le, nz_ge, nz_00, nz_10, nz_n1, nI_add, pk_mul, pk_sub, nI_shl1, nI_or, nI_half2, nI_min2, la_put_eq, la_up, lr_same, lr_ne, lu_same, lu_ne, not_true_eq_false, not_false_eq_true] at c) <;> first | (exfalso; omega) | conv => whnf)
        | (refine ⟨_, rfl, by omega, ?_⟩; conv => whnf)
        | (refine ⟨_, rfl, rfl, rfl, by decide, by decide, ?_⟩; conv => whnf)
        | (refine ⟨_, by (simp (disch := omega) only [nI_leI, nI_ltI, nI_eq, nz_eq, nz_lt, nz_gt, nz_le, nz_ge, nz_00, nz_10, nz_n1, nI_add, pk_mul, pk_sub, nI_shl1, nI_or, nI_half2, nI_min2, la_put_eq, la_up, lr_same, lr_ne, lu_same, lu_ne, not_true_eq_false, not_false_eq_true]; rfl), by omega, ?_⟩; conv => whnf)
        | (refine And.intro (by first | assumption | decide) ?_; conv => whnf))
      all_goals (try simp (disch := omega) only [nI_leI, nI_ltI, nI_eq, nz_eq, nz_lt, nz_gt, nz_le, nz_ge, nz_00, nz_10, nz_n1, nI_add, pk_mul, pk_sub, nI_shl1, nI_or, nI_half2, nI_min2, la_put_eq, la_up, lr_same, lr_ne, lu_same, lu_ne, not_true_eq_false, not_false_eq_true])
      refine hret _ _ ?_
      exact Or.inl ⟨k, h2, rfl, rfl, rfl⟩
    · conv => whnf
      repeat' (first
        | (refine ⟨fun c => ?_, fun c => ?_⟩ <;> (try simp (disch := omega) only [nI_leI, nI_ltI, nI_eq, nz_eq, nz_lt, nz_gt, nz_le, nz_ge, nz_00, nz_10, nz_n1, nI_add, pk_mul, pk_sub, nI_shl1, nI_or, nI_half2, nI_min2, la_put_eq, la_up, lr_same, lr_ne, lu_same, lu_ne, not_true_eq_false, not_false_eq_true] at c) <;> first | (exfalso; omega) | conv => whnf)
        | (refine ⟨_, rfl, by omega, ?_⟩; conv => whnf)
        | (refine ⟨_, rfl, rfl, rfl, by decide, by decide, ?_⟩; conv => whnf)
        | (refine ⟨_, by (simp (disch := omega) only [nI_leI, nI_ltI, nI_eq, nz_eq, nz_lt, nz_gt, nz_le, nz_ge, nz_00, nz_10, nz_n1, nI_add, pk_mul, pk_sub, nI_shl1, nI_or, nI_half2, nI_min2, la_put_eq, la_up, lr_same, lr_ne, lu_same, lu_ne, not_true_eq_false, not_false_eq_true]; rfl), by omega, ?_⟩; conv => whnf)
        | (refine And.intro (by first | assumption | decide) ?_; conv => whnf))
      all_goals (try simp (disch := omega) only [nI_leI, nI_ltI, nI_eq, nz_eq, nz_lt, nz_gt, nz_le, nz_ge, nz_00, nz_10, nz_n1, nI_add, pk_mul, pk_sub, nI_shl1, nI_or, nI_half2, nI_min2, la_put_eq, la_up, lr_same, lr_ne, lu_same, lu_ne, not_true_eq_false, not_false_eq_true])
      refine hret _ _ ?_
      exact Or.inr ⟨hv, rfl, e⟩
theorem M_X4_put : pm_MT yX4_put cX4_put 5 1 2 P_X4_put (pm_pi Q_X4_put) := pm_met k_X4_put (by decide) rfl (by
  rintro ⟨g0, g1, g2, g3, g4, g5, g6⟩ av h hp
  rw [hp.1]
  exact Nat.le_of_ble_eq_true rfl) pf_X4_put
/-! Integer.bitCount -/
def sp_popF : Nat → Nat → Nat
  | 0, _ => 0
  | k + 1, n => n % 2 + sp_popF k (n / 2)
def sp_pop (n : Nat) : Nat := sp_popF 31 n
def P_J6_bitCount_0f7a4 : Nat × pm_H → List pm_V → pm_H → Prop := fun g av h => match g with
  | (n, h0) => av = [vI (nI n)] ∧ h = h0 ∧ n < 1024
def Q_J6_bitCount_0f7a4 : Nat × pm_H → Int32 → pm_H → Prop := fun g r h => match g with
  | (n, h0) => h = h0 ∧ r = nI (sp_pop n)
def T_J6_bitCount_0f7a4 : List (Nat × pm_T) := [
  (0, i_il 0 1),
  (1, i_il 0 2),
  (2, i_c (nI 1) 3),
  (3, i_iushr 4),
  (4, i_c (nI 1431655765) 7),
  (7, i_iand 8),
  (8, i_isub 9),
  (9, i_is 0 10),
  (10, i_il 0 11),
  (11, i_c (nI 858993459) 14),
  (14, i_iand 15),
  (15, i_il 0 16),
  (16, i_c (nI 2) 17),
  (17, i_iushr 18),
  (18, i_c (nI 858993459) 21),
  (21, i_iand 22),
  (22, i_iadd 23),
  (23, i_is 0 24),
  (24, i_il 0 25),
  (25, i_il 0 26),
  (26, i_c (nI 4) 27),
  (27, i_iushr 28),
  (28, i_iadd 29),
  (29, i_c (nI 252645135) 32),
  (32, i_iand 33),
  (33, i_is 0 34),
  (34, i_il 0 35),
  (35, i_il 0 36),
  (36, i_c (nI 8) 38),
  (38, i_iushr 39),
  (39, i_iadd 40),
  (40, i_is 0 41),
  (41, i_il 0 42),
  (42, i_il 0 43),
  (43, i_c (nI 16) 45),
  (45, i_iushr 46),
  (46, i_iadd 47),
  (47, i_is 0 48),
  (48, i_il 0 49),
  (49, i_c (nI 63) 51),
  (51, i_iand 52),
  (52, i_ir)]
theorem k_J6_bitCount_0f7a4 : ∀ q ∈ T_J6_bitCount_0f7a4, pm_sd RJ6 cJ6_bitCount_0f7a4 1 1 1 q.1 q.2 := by
  unfold T_J6_bitCount_0f7a4
  refine pm_cn (sd_iln (k := 0) (by decide +kernel) rfl rfl) ?_
  refine pm_cn (sd_iln (k := 0) (by decide +kernel) rfl rfl) ?_
  refine pm_cn (sd_iconst (z := 1) (by decide +kernel) (by decide +kernel) rfl) ?_
  refine pm_cn (sd_iushr (by decide +kernel) rfl) ?_
  refine pm_cn (sd_ldcw (k := 265) (by decide +kernel) (pm_tin (by decide +kernel) rfl) rfl) ?_
  refine pm_cn (sd_iand (by decide +kernel) rfl) ?_
  refine pm_cn (sd_isub (by decide +kernel) rfl) ?_
  refine pm_cn (sd_isn (k := 0) (by decide +kernel) rfl rfl (by decide)) ?_
  refine pm_cn (sd_iln (k := 0) (by decide +kernel) rfl rfl) ?_
  refine pm_cn (sd_ldcw (k := 266) (by decide +kernel) (pm_tin (by decide +kernel) rfl) rfl) ?_
  refine pm_cn (sd_iand (by decide +kernel) rfl) ?_
  refine pm_cn (sd_iln (k := 0) (by decide +kernel) rfl rfl) ?_
  refine pm_cn (sd_iconst (z := 2) (by decide +kernel) (by decide +kernel) rfl) ?_
  refine pm_cn (sd_iushr (by decide +kernel) rfl) ?_
  refine pm_cn (sd_ldcw (k := 266) (by decide +kernel) (pm_tin (by decide +kernel) rfl) rfl) ?_
  refine pm_cn (sd_iand (by decide +kernel) rfl) ?_
  refine pm_cn (sd_iadd (by decide +kernel) rfl) ?_
  refine pm_cn (sd_isn (k := 0) (by decide +kernel) rfl rfl (by decide)) ?_
  refine pm_cn (sd_iln (k := 0) (by decide +kernel) rfl rfl) ?_
  refine pm_cn (sd_iln (k := 0) (by decide +kernel) rfl rfl) ?_
  refine pm_cn (sd_iconst (z := 4) (by decide +kernel) (by decide +kernel) rfl) ?_
  refine pm_cn (sd_iushr (by decide +kernel) rfl) ?_
  refine pm_cn (sd_iadd (by decide +kernel) rfl) ?_
  refine pm_cn (sd_ldcw (k := 267) (by decide +kernel) (pm_tin (by decide +kernel) rfl) rfl) ?_
  refine pm_cn (sd_iand (by decide +kernel) rfl) ?_
  refine pm_cn (sd_isn (k := 0) (by decide +kernel) rfl rfl (by decide)) ?_
  refine pm_cn (sd_iln (k := 0) (by decide +kernel) rfl rfl) ?_
  refine pm_cn (sd_iln (k := 0) (by decide +kernel) rfl rfl) ?_
  refine pm_cn (sd_bipush (z := 8) (by decide +kernel) (by decide +kernel) rfl) ?_
  refine pm_cn (sd_iushr (by decide +kernel) rfl) ?_
  refine pm_cn (sd_iadd (by decide +kernel) rfl) ?_
  refine pm_cn (sd_isn (k := 0) (by decide +kernel) rfl rfl (by decide)) ?_
  refine pm_cn (sd_iln (k := 0) (by decide +kernel) rfl rfl) ?_
  refine pm_cn (sd_iln (k := 0) (by decide +kernel) rfl rfl) ?_
  refine pm_cn (sd_bipush (z := 16) (by decide +kernel) (by decide +kernel) rfl) ?_
  refine pm_cn (sd_iushr (by decide +kernel) rfl) ?_
  refine pm_cn (sd_iadd (by decide +kernel) rfl) ?_
  refine pm_cn (sd_isn (k := 0) (by decide +kernel) rfl rfl (by decide)) ?_
  refine pm_cn (sd_iln (k := 0) (by decide +kernel) rfl rfl) ?_
  refine pm_cn (sd_bipush (z := 63) (by decide +kernel) (by decide +kernel) rfl) ?_
  refine pm_cn (sd_iand (by decide +kernel) rfl) ?_
  refine pm_cn (sd_ir (by decide +kernel)) ?_
  exact fun _ h => absurd h List.not_mem_nil
def sp_bc (i0 : Int32) : Int32 :=
  let sh (x : Int32) (k : Nat) : Int32 := (x.toUInt32 >>> ((nI k).toUInt32 &&& Int32.toUInt32 31)).toInt32
  let i1 := i0 - (sh i0 1 &&& nI 1431655765)
  let i2 := (i1 &&& nI 858993459) + (sh i1 2 &&& nI 858993459)
  let i3 := (i2 + sh i2 4) &&& nI 252645135
  let i4 := i3 + sh i3 8
  let i5 := i4 + sh i4 16
  i5 &&& nI 63
theorem sp_bc_eq : ∀ n : Fin 1024, sp_bc (nI n.val) = nI (sp_pop n.val) := by decide +kernel
set_option maxHeartbeats 4000000 in
set_option maxRecDepth 100000 in
theorem pf_J6_bitCount_0f7a4 : pm_pf T_J6_bitCount_0f7a4 P_J6_bitCount_0f7a4 (pm_pi Q_J6_bitCount_0f7a4) := by
  rintro ⟨n, h0⟩ av h K hK ⟨rfl, rfl, hn⟩ hret
  show K (some 0) ([(0, vI (nI n))], [], h)
  refine hK [] 60 _ _ ?_
  conv => whnf
  refine hret _ _ ⟨rfl, ?_⟩
  exact sp_bc_eq ⟨n, hn⟩
theorem M_J6_bitCount_0f7a4 : pm_MT yJ6_bitCount_0f7a4 cJ6_bitCount_0f7a4 1 1 1 P_J6_bitCount_0f7a4 (pm_pi Q_J6_bitCount_0f7a4) := pm_met k_J6_bitCount_0f7a4 (by decide) rfl (by
  rintro ⟨g0, g1⟩ av h hp
  rw [hp.1]
  exact Nat.le_of_ble_eq_true rfl) pf_J6_bitCount_0f7a4
/-! Sheet -/
def sh_at (h : pm_H) (k t l z : Nat) : Prop := h 1 k 0 0 = nI t ∧ h 1 k 0 1 = nI l ∧ h 1 k 0 2 = nI z
def sh_put (h : pm_H) (k t l z : Nat) (f : Nat → Int32) : pm_H := fun c i s j => if c = 1 ∧ i = k then (if s = 0 then (if j = 0 then nI t else if j = 1 then nI l else if j = 2 then nI z else h c i s j) else if s = 1 then f j else h c i s j) else h c i s j
def P_X1_renew : Nat × Nat × Nat × pm_H → List pm_V → pm_H → Prop := fun g av h => match g with
  | (k, l, z, h0) => av = [vR 1 k 0, vI (nI l), vI (nI z)] ∧ h = h0
def Q_X1_renew : Nat × Nat × Nat × pm_H → pm_H → Prop := fun g h => match g with
  | (k, l, z, h0) => h = sh_put h0 k 1 l z (fun j => if j < 40 then nI 0 else h0 1 k 1 j)
def T_X1_renew : List (Nat × pm_T) := [
  (0, i_al 0 1),
  (1, i_c (nI 1) 2),
  (2, i_pz 1 0 5),
  (5, i_al 0 6),
  (6, i_il 1 7),
  (7, i_pi 1 1 10),
  (10, i_al 0 11),
  (11, i_il 2 12),
  (12, i_pi 1 2 15),
  (15, i_c (nI 0) 16),
  (16, i_is 3 17),
  (17, i_il 3 18),
  (18, i_c (nI 40) 20),
  (20, i_icge 36 23),
  (23, i_al 0 24),
  (24, i_gr 1 (fun i => (1, i, 1)) 27),
  (27, i_il 3 28),
  (28, i_c (nI 0) 29),
  (29, i_ias 30),
  (30, i_inc 3 (nI 1) 33),
  (33, i_go 17),
  (36, i_vr)]
theorem k_X1_renew : ∀ q ∈ T_X1_renew, pm_sd RX1 cX1_renew 4 1 0 q.1 q.2 := by
  unfold T_X1_renew
  refine pm_cn (sd_aln (k := 0) (by decide +kernel) rfl rfl) ?_
  refine pm_cn (sd_iconst (z := 1) (by decide +kernel) (by decide +kernel) rfl) ?_
  refine pm_cn (sd_pz cl1_ in1_ tyX1 tyX1_ok nmX1 (by decide) (fun _ => rfl) rfl rfl fl_X1_15 (by decide +kernel) rfl) ?_
  refine pm_cn (sd_aln (k := 0) (by decide +kernel) rfl rfl) ?_
  refine pm_cn (sd_iln (k := 1) (by decide +kernel) rfl rfl) ?_
  refine pm_cn (sd_pi cl1_ in1_ tyX1 tyX1_ok nmX1 (by decide) (fun _ => rfl) rfl rfl fl_X1_19 (by decide +kernel) rfl) ?_
  refine pm_cn (sd_aln (k := 0) (by decide +kernel) rfl rfl) ?_
  refine pm_cn (sd_iln (k := 2) (by decide +kernel) rfl rfl) ?_
  refine pm_cn (sd_pi cl1_ in1_ tyX1 tyX1_ok nmX1 (by decide) (fun _ => rfl) rfl rfl fl_X1_23 (by decide +kernel) rfl) ?_
  refine pm_cn (sd_iconst (z := 0) (by decide +kernel) (by decide +kernel) rfl) ?_
  refine pm_cn (sd_isn (k := 3) (by decide +kernel) rfl rfl (by decide)) ?_
  refine pm_cn (sd_iln (k := 3) (by decide +kernel) rfl rfl) ?_
  refine pm_cn (sd_bipush (z := 40) (by decide +kernel) (by decide +kernel) rfl) ?_
  refine pm_cn (sd_icge (off := 16) (by decide +kernel) (by decide) rfl) ?_
  refine pm_cn (sd_aln (k := 0) (by decide +kernel) rfl rfl) ?_
  refine pm_cn (sd_gr cl1_ in1_ (j := 3) (by decide) (fun _ => rfl) fl_X1_9 (by decide +kernel) rfl) ?_
  refine pm_cn (sd_iln (k := 3) (by decide +kernel) rfl rfl) ?_
  refine pm_cn (sd_iconst (z := 0) (by decide +kernel) (by decide +kernel) rfl) ?_
  refine pm_cn (sd_ias (by decide +kernel) rfl) ?_
  refine pm_cn (sd_inc (z := 1) (by decide +kernel) (by decide +kernel) rfl (by decide)) ?_
  refine pm_cn (sd_go (off := -16) (by decide +kernel) (by decide)) ?_
  refine pm_cn (sd_vr (by decide +kernel)) ?_
  exact fun _ h => absurd h List.not_mem_nil
set_option maxHeartbeats 4000000 in
set_option maxRecDepth 100000 in
theorem pf_X1_renew : pm_pf T_X1_renew P_X1_renew (pm_pv Q_X1_renew) := by
  rintro ⟨k, l, z, h0⟩ av h K hK ⟨rfl, rfl⟩ hret
  show K (some 0) ([(0, vR 1 k 0), (1, vI (nI l)), (2, vI (nI z))], [], h)
  have loop : ∀ n j H, j + n = 40 → H = sh_put h k 1 l z (fun x => if x < j then nI 0 else h 1 k 1 x) → K (some 17) ([(0, vR 1 k 0), (3, vI (nI j))], [], H) := by
    intro n
    induction n with
    | zero =>
      intro j H hj hH
      refine hK [(17, [0, 3])] 40 _ _ ?_
      conv => whnf
      repeat' (first
        | (refine ⟨fun c => ?_, fun c => ?_⟩ <;> (try simp (disch := omega) only [nI_leI, nI_ltI, nI_eq, nz_eq, nz_lt, nz_gt, nz_le, nz_ge, nz_00, nz_10, nz_n1, nI_add, pk_mul, pk_sub, nI_shl1, nI_or, nI_half2, nI_min2, la_put_eq, la_up, lr_same, lr_ne, lu_same, lu_ne, not_true_eq_false, not_false_eq_true] at c) <;> first | (exfalso; omega) | conv => whnf)
        | (refine ⟨_, rfl, by omega, ?_⟩; conv => whnf)
        | (refine ⟨_, rfl, rfl, rfl, by decide, by decide, ?_⟩; conv => whnf)
        | (refine ⟨_, by (simp (disch := omega) only [nI_leI, nI_ltI, nI_eq, nz_eq, nz_lt, nz_gt, nz_le, nz_ge, nz_00, nz_10, nz_n1, nI_add, pk_mul, pk_sub, nI_shl1, nI_or, nI_half2, nI_min2, la_put_eq, la_up, lr_same, lr_ne, lu_same, lu_ne, not_true_eq_false, not_false_eq_true]; rfl), by omega, ?_⟩; conv => whnf)
        | (refine And.intro (by first | assumption | decide) ?_; conv => whnf))
      all_goals (try simp (disch := omega) only [nI_leI, nI_ltI, nI_eq, nz_eq, nz_lt, nz_gt, nz_le, nz_ge, nz_00, nz_10, nz_n1, nI_add, pk_mul, pk_sub, nI_shl1, nI_or, nI_half2, nI_min2, la_put_eq, la_up, lr_same, lr_ne, lu_same, lu_ne, not_true_eq_false, not_false_eq_true])
      have : j = 40 := by omega
      subst this
      subst hH
      exact hret _ _ rfl
    | succ n ih =>
      intro j H hj hH
      refine hK [(17, [0, 3])] 40 _ _ ?_
      conv => whnf
      repeat' (first
        | (refine ⟨fun c => ?_, fun c => ?_⟩ <;> (try simp (disch := omega) only [nI_leI, nI_ltI, nI_eq, nz_eq, nz_lt, nz_gt, nz_le, nz_ge, nz_00, nz_10, nz_n1, nI_add, pk_mul, pk_sub, nI_shl1, nI_or, nI_half2, nI_min2, la_put_eq, la_up, lr_same, lr_ne, lu_same, lu_ne, not_true_eq_false, not_false_eq_true] at c) <;> first | (exfalso; omega) | conv => whnf)
        | (refine ⟨_, rfl, by omega, ?_⟩; conv => whnf)
        | (refine ⟨_, rfl, rfl, rfl, by decide, by decide, ?_⟩; conv => whnf)
        | (refine ⟨_, by (simp (disch := omega) only [nI_leI, nI_ltI, nI_eq, nz_eq, nz_lt, nz_gt, nz_le, nz_ge, nz_00, nz_10, nz_n1, nI_add, pk_mul, pk_sub, nI_shl1, nI_or, nI_half2, nI_min2, la_put_eq, la_up, lr_same, lr_ne, lu_same, lu_ne, not_true_eq_false, not_false_eq_true]; rfl), by omega, ?_⟩; conv => whnf)
        | (refine And.intro (by first | assumption | decide) ?_; conv => whnf))
      all_goals (try simp (disch := omega) only [nI_leI, nI_ltI, nI_eq, nz_eq, nz_lt, nz_gt, nz_le, nz_ge, nz_00, nz_10, nz_n1, nI_add, pk_mul, pk_sub, nI_shl1, nI_or, nI_half2, nI_min2, la_put_eq, la_up, lr_same, lr_ne, lu_same, lu_ne, not_true_eq_false, not_false_eq_true])
      refine ih (j + 1) _ (by omega) ?_
      subst hH
      funext c i s x
      unfold pm_up sh_put
      by_cases h1 : c = 1 ∧ i = k
      · obtain ⟨rfl, rfl⟩ := h1
        by_cases h2 : s = 1
        · subst h2
          by_cases h3 : x = j
          · subst h3; simp
          · by_cases h4 : x < j
            · simp [h3, h4, show x < j + 1 by omega]
            · simp [h3, h4, show ¬ x < j + 1 by omega]
        · simp [h2]
      · have : ¬ (c = 1 ∧ i = k ∧ s = 1 ∧ x = j) := fun q => h1 ⟨q.1, q.2.1⟩
        simp [h1, this]
  refine hK [(17, [0, 3])] 40 _ _ ?_
  conv => whnf
  refine ⟨Or.inr rfl, ?_⟩
  conv => whnf
  refine loop 40 0 _ rfl ?_
  funext c i s x
  unfold pm_up sh_put
  by_cases h1 : c = 1 ∧ i = k
  · obtain ⟨rfl, rfl⟩ := h1
    by_cases h2 : s = 0
    · subst h2
      by_cases h3 : x = 2
      · subst h3; simp
      · by_cases h4 : x = 1
        · subst h4; simp
        · by_cases h5 : x = 0
          · subst h5; simp
          · simp [h3, h4, h5]
    · simp only [h2, false_and, and_false, if_false]
      by_cases h3 : s = 1
      · subst h3; simp
      · simp [h3]
  · have : ∀ y, ¬ (c = 1 ∧ i = k ∧ s = 0 ∧ x = y) := fun y q => h1 ⟨q.1, q.2.1⟩
    simp [h1, this]
theorem M_X1_renew : pm_MT yX1_renew cX1_renew 4 0 1 P_X1_renew (pm_pv Q_X1_renew) := pm_met k_X1_renew (by decide) rfl (by
  rintro ⟨g0, g1, g2, g3⟩ av h hp
  rw [hp.1]
  exact Nat.le_of_ble_eq_true rfl) pf_X1_renew
theorem rc_X1_renew : ∀ g av h, P_X1_renew g av h → ∃ i t, av = .inr (.inr (1, i, 0)) :: t := by
  rintro ⟨g0, g1, g2, g3⟩ av h hp
  exact ⟨_, _, hp.1⟩
def sp_ix (x : Int32) (z m : Nat) : Prop := ∃ k, k + m ≤ z ∧ x = nI k
def sp_flt (t l z a m : Nat) (x : Int32) (r : Int32) : Prop := (t = 0 ∧ r = nI 1) ∨ (t ≠ 0 ∧ l ≠ a ∧ r = nI 3) ∨ (t ≠ 0 ∧ l = a ∧ ¬ sp_ix x z m ∧ r = nI 2) ∨ (t ≠ 0 ∧ l = a ∧ sp_ix x z m ∧ r = nI 0)
def P_X1_faultAt : Nat × Nat × Int32 × Nat × Nat × Nat × Nat × pm_H → List pm_V → pm_H → Prop := fun g av h => match g with
  | (k, a, x, m, t, l, z, h0) => av = [vR 1 k 0, vI (nI a), vI x, vI (nI m)] ∧ h = h0 ∧ sh_at h0 k t l z ∧ t ≤ 1 ∧ l ≤ 2 ∧ z ≤ 40 ∧ a ≤ 2 ∧ m ≤ 4
def Q_X1_faultAt : Nat × Nat × Int32 × Nat × Nat × Nat × Nat × pm_H → Int32 → pm_H → Prop := fun g r h => match g with
  | (k, a, x, m, t, l, z, h0) => h = h0 ∧ sp_flt t l z a m x r
def T_X1_faultAt : List (Nat × pm_T) := [
  (0, i_al 0 1),
  (1, i_gi 1 0 4),
  (4, i_ifne 9 7),
  (7, i_c (nI 1) 8),
  (8, i_ir),
  (9, i_al 0 10),
  (10, i_gi 1 1 13),
  (13, i_il 1 14),
  (14, i_iceq 19 17),
  (17, i_c (nI 3) 18),
  (18, i_ir),
  (19, i_il 2 20),
  (20, i_iflt 33 23),
  (23, i_il 2 24),
  (24, i_al 0 25),
  (25, i_gi 1 2 28),
  (28, i_il 3 29),
  (29, i_isub 30),
  (30, i_icle 37 33),
  (33, i_c (nI 2) 34),
  (34, i_go 38),
  (37, i_c (nI 0) 38),
  (38, i_ir)]
theorem k_X1_faultAt : ∀ q ∈ T_X1_faultAt, pm_sd RX1 cX1_faultAt 4 1 1 q.1 q.2 := by
  unfold T_X1_faultAt
  refine pm_cn (sd_aln (k := 0) (by decide +kernel) rfl rfl) ?_
  refine pm_cn (sd_gi cl1_ in1_ (by decide) (fun _ => rfl) fl_X1_15 (by decide +kernel) rfl) ?_
  refine pm_cn (sd_ifne (off := 5) (by decide +kernel) (by decide) rfl) ?_
  refine pm_cn (sd_iconst (z := 1) (by decide +kernel) (by decide +kernel) rfl) ?_
  refine pm_cn (sd_ir (by decide +kernel)) ?_
  refine pm_cn (sd_aln (k := 0) (by decide +kernel) rfl rfl) ?_
  refine pm_cn (sd_gi cl1_ in1_ (by decide) (fun _ => rfl) fl_X1_19 (by decide +kernel) rfl) ?_
  refine pm_cn (sd_iln (k := 1) (by decide +kernel) rfl rfl) ?_
  refine pm_cn (sd_iceq (off := 5) (by decide +kernel) (by decide) rfl) ?_
  refine pm_cn (sd_iconst (z := 3) (by decide +kernel) (by decide +kernel) rfl) ?_
  refine pm_cn (sd_ir (by decide +kernel)) ?_
  refine pm_cn (sd_iln (k := 2) (by decide +kernel) rfl rfl) ?_
  refine pm_cn (sd_iflt (off := 13) (by decide +kernel) (by decide) rfl) ?_
  refine pm_cn (sd_iln (k := 2) (by decide +kernel) rfl rfl) ?_
  refine pm_cn (sd_aln (k := 0) (by decide +kernel) rfl rfl) ?_
  refine pm_cn (sd_gi cl1_ in1_ (by decide) (fun _ => rfl) fl_X1_23 (by decide +kernel) rfl) ?_
  refine pm_cn (sd_iln (k := 3) (by decide +kernel) rfl rfl) ?_
  refine pm_cn (sd_isub (by decide +kernel) rfl) ?_
  refine pm_cn (sd_icle (off := 7) (by decide +kernel) (by decide) rfl) ?_
  refine pm_cn (sd_iconst (z := 2) (by decide +kernel) (by decide +kernel) rfl) ?_
  refine pm_cn (sd_go (off := 4) (by decide +kernel) (by decide)) ?_
  refine pm_cn (sd_iconst (z := 0) (by decide +kernel) (by decide +kernel) rfl) ?_
  refine pm_cn (sd_ir (by decide +kernel)) ?_
  exact fun _ h => absurd h List.not_mem_nil
set_option maxHeartbeats 4000000 in
set_option maxRecDepth 100000 in
theorem pf_X1_faultAt : pm_pf T_X1_faultAt P_X1_faultAt (pm_pi Q_X1_faultAt) := by
  rintro ⟨k, a, x, m, t, l, z, h0⟩ av h K hK ⟨rfl, rfl, ⟨e0, e1, e2⟩, ht, hl, hz, ha, hm⟩ hret
  show K (some 0) ([(0, vR 1 k 0), (1, vI (nI a)), (2, vI x), (3, vI (nI m))], [], h)
  have hix : ¬ x < 0 → (x ≤ nI z - nI m ↔ sp_ix x z m) := by
    intro h0
    obtain ⟨j, hj, rfl⟩ := nI_of h0
    rw [Int32.le_iff_toInt_le, pk_sub_toInt (by omega) (by omega), nI_toInt hj]
    constructor
    · intro h; exact ⟨j, by omega, rfl⟩
    · rintro ⟨y, h1, h2⟩
      rw [nI_eq hj (by omega)] at h2
      omega
  have hix2 : x < 0 → ¬ sp_ix x z m := by
    rintro h0 ⟨y, h1, rfl⟩
    exact nI_pos (by omega) h0
  refine hK [] 40 _ _ ?_
  conv => whnf
  rw [e0]
  refine ⟨fun c1 => ?_, fun c1 => ?_⟩
  · rw [nz_eq (by omega)] at c1
    conv => whnf
    rw [e1, nI_eq (by omega) (by omega)]
    refine ⟨fun c2 => ?_, fun c2 => ?_⟩
    · conv => whnf
      refine ⟨fun c3 => ?_, fun c3 => ?_⟩
      · conv => whnf
        exact hret _ _ ⟨rfl, Or.inr (Or.inr (Or.inl ⟨c1, c2, hix2 c3, rfl⟩))⟩
      · conv => whnf
        rw [e2, hix c3]
        refine ⟨fun c4 => ?_, fun c4 => ?_⟩
        · conv => whnf
          exact hret _ _ ⟨rfl, Or.inr (Or.inr (Or.inr ⟨c1, c2, c4, rfl⟩))⟩
        · conv => whnf
          exact hret _ _ ⟨rfl, Or.inr (Or.inr (Or.inl ⟨c1, c2, c4, rfl⟩))⟩
    · conv => whnf
      exact hret _ _ ⟨rfl, Or.inr (Or.inl ⟨c1, c2, rfl⟩)⟩
  · rw [nz_eq (by omega)] at c1
    conv => whnf
    exact hret _ _ ⟨rfl, Or.inl ⟨c1, rfl⟩⟩
theorem M_X1_faultAt : pm_MT yX1_faultAt cX1_faultAt 4 1 1 P_X1_faultAt (pm_pi Q_X1_faultAt) := pm_met k_X1_faultAt (by decide) rfl (by
  rintro ⟨g0, g1, g2, g3, g4, g5, g6, g7⟩ av h hp
  rw [hp.1]
  exact Nat.le_of_ble_eq_true rfl) pf_X1_faultAt
theorem rc_X1_faultAt : ∀ g av h, P_X1_faultAt g av h → ∃ i t, av = .inr (.inr (1, i, 0)) :: t := by
  rintro ⟨g0, g1, g2, g3, g4, g5, g6, g7⟩ av h hp
  exact ⟨_, _, hp.1⟩
def sp_nar (l : Nat) (v : Int32) : Int32 := if l = 0 then v.toInt8.toInt32 else if l = 1 then v.toInt16.toInt32 else v
def P_X1_narrow : Nat × Int32 × Nat × pm_H → List pm_V → pm_H → Prop := fun g av h => match g with
  | (k, v, l, h0) => av = [vR 1 k 0, vI v] ∧ h = h0 ∧ h0 1 k 0 1 = nI l ∧ l ≤ 2
def Q_X1_narrow : Nat × Int32 × Nat × pm_H → Int32 → pm_H → Prop := fun g r h => match g with
  | (k, v, l, h0) => h = h0 ∧ r = sp_nar l v
def T_X1_narrow : List (Nat × pm_T) := [
  (0, i_al 0 1),
  (1, i_gi 1 1 4),
  (4, i_ifne 10 7),
  (7, i_il 1 8),
  (8, i_i2b 9),
  (9, i_ir),
  (10, i_al 0 11),
  (11, i_gi 1 1 14),
  (14, i_c (nI 1) 15),
  (15, i_icne 23 18),
  (18, i_il 1 19),
  (19, i_i2s 20),
  (20, i_go 24),
  (23, i_il 1 24),
  (24, i_ir)]
theorem k_X1_narrow : ∀ q ∈ T_X1_narrow, pm_sd RX1 cX1_narrow 2 1 1 q.1 q.2 := by
  unfold T_X1_narrow
  refine pm_cn (sd_aln (k := 0) (by decide +kernel) rfl rfl) ?_
  refine pm_cn (sd_gi cl1_ in1_ (by decide) (fun _ => rfl) fl_X1_19 (by decide +kernel) rfl) ?_
  refine pm_cn (sd_ifne (off := 6) (by decide +kernel) (by decide) rfl) ?_
  refine pm_cn (sd_iln (k := 1) (by decide +kernel) rfl rfl) ?_
  refine pm_cn (sd_i2b (by decide +kernel) rfl) ?_
  refine pm_cn (sd_ir (by decide +kernel)) ?_
  refine pm_cn (sd_aln (k := 0) (by decide +kernel) rfl rfl) ?_
  refine pm_cn (sd_gi cl1_ in1_ (by decide) (fun _ => rfl) fl_X1_19 (by decide +kernel) rfl) ?_
  refine pm_cn (sd_iconst (z := 1) (by decide +kernel) (by decide +kernel) rfl) ?_
  refine pm_cn (sd_icne (off := 8) (by decide +kernel) (by decide) rfl) ?_
  refine pm_cn (sd_iln (k := 1) (by decide +kernel) rfl rfl) ?_
  refine pm_cn (sd_i2s (by decide +kernel) rfl) ?_
  refine pm_cn (sd_go (off := 4) (by decide +kernel) (by decide)) ?_
  refine pm_cn (sd_iln (k := 1) (by decide +kernel) rfl rfl) ?_
  refine pm_cn (sd_ir (by decide +kernel)) ?_
  exact fun _ h => absurd h List.not_mem_nil
set_option maxHeartbeats 4000000 in
set_option maxRecDepth 100000 in
theorem pf_X1_narrow : pm_pf T_X1_narrow P_X1_narrow (pm_pi Q_X1_narrow) := by
  rintro ⟨k, v, l, h0⟩ av h K hK ⟨rfl, rfl, e1, hl⟩ hret
  show K (some 0) ([(0, vR 1 k 0), (1, vI v)], [], h)
  refine hK [] 40 _ _ ?_
  conv => whnf
  repeat' (first
    | (refine ⟨fun c => ?_, fun c => ?_⟩ <;> (try simp (disch := omega) only [nI_leI, nI_ltI, nI_eq, nz_eq, nz_lt, nz_gt, nz_le, nz_ge, nz_00, nz_10, nz_n1, nI_add, pk_mul, pk_sub, nI_shl1, nI_or, nI_half2, nI_min2, la_put_eq, la_up, lr_same, lr_ne, lu_same, lu_ne, not_true_eq_false, not_false_eq_true, e1] at c) <;> first | (exfalso; omega) | conv => whnf)
    | (refine ⟨_, rfl, by omega, ?_⟩; conv => whnf)
    | (refine ⟨_, rfl, rfl, rfl, by decide, by decide, ?_⟩; conv => whnf)
    | (refine ⟨_, by (simp (disch := omega) only [nI_leI, nI_ltI, nI_eq, nz_eq, nz_lt, nz_gt, nz_le, nz_ge, nz_00, nz_10, nz_n1, nI_add, pk_mul, pk_sub, nI_shl1, nI_or, nI_half2, nI_min2, la_put_eq, la_up, lr_same, lr_ne, lu_same, lu_ne, not_true_eq_false, not_false_eq_true, e1]; rfl), by omega, ?_⟩; conv => whnf)
    | (refine And.intro (by first | assumption | decide) ?_; conv => whnf))
  all_goals (try simp (disch := omega) only [nI_leI, nI_ltI, nI_eq, nz_eq, nz_lt, nz_gt, nz_le, nz_ge, nz_00, nz_10, nz_n1, nI_add, pk_mul, pk_sub, nI_shl1, nI_or, nI_half2, nI_min2, la_put_eq, la_up, lr_same, lr_ne, lu_same, lu_ne, not_true_eq_false, not_false_eq_true, e1])
  all_goals (refine hret _ _ ⟨rfl, ?_⟩; unfold sp_nar; simp [*])
theorem M_X1_narrow : pm_MT yX1_narrow cX1_narrow 2 1 1 P_X1_narrow (pm_pi Q_X1_narrow) := pm_met k_X1_narrow (by decide) rfl (by
  rintro ⟨g0, g1, g2, g3⟩ av h hp
  rw [hp.1]
  exact Nat.le_of_ble_eq_true rfl) pf_X1_narrow
theorem rc_X1_narrow : ∀ g av h, P_X1_narrow g av h → ∃ i t, av = .inr (.inr (1, i, 0)) :: t := by
  rintro ⟨g0, g1, g2, g3⟩ av h hp
  exact ⟨_, _, hp.1⟩
/-! Sight -/
def se_at (h : pm_H) (m : Nat) (S : LD) : Prop := h 2 0 0 0 = nI m ∧ ∀ e, e < m → h 2 0 1 e = nI (S 0 e) ∧ h 2 0 2 e = nI (S 1 e) ∧ h 2 0 3 e = nI (S 2 e) ∧ h 2 0 4 e = nI (S 3 e)
def se_ok (m : Nat) (S : LD) : Prop := m ≤ 6 ∧ ∀ e, e < m → S 0 e ≤ 30 ∧ S 1 e ≤ 3 ∧ S 2 e ≤ 9 ∧ S 3 e ≤ 1
def sp_mx (f : Nat → Nat) : Nat → Nat
  | 0 => 0
  | n + 1 => max (sp_mx f n) (f n)
def P_X2_lastDay : Nat × LD × pm_H → List pm_V → pm_H → Prop := fun g av h => match g with
  | (m, S, h0) => av = [vR 2 0 0] ∧ h = h0 ∧ se_at h0 m S ∧ se_ok m S
def Q_X2_lastDay : Nat × LD × pm_H → Int32 → pm_H → Prop := fun g r h => match g with
  | (m, S, h0) => h = h0 ∧ r = nI (sp_mx (S 0) m)
theorem nI_max2 {a b : Nat} : (if a < b then nI b else nI a) = nI (max a b) := by
  rw [Nat.max_def]
  by_cases h : a < b
  · rw [if_pos h, if_pos (by omega)]
  · rw [if_neg h]
    by_cases h2 : a ≤ b
    · rw [if_pos h2]; congr 1; omega
    · rw [if_neg h2]
theorem sp_mx_le {f : Nat → Nat} {m : Nat} : ∀ {n : Nat}, (∀ k, k < n → f k ≤ m) → sp_mx f n ≤ m
  | 0, _ => Nat.zero_le _
  | n + 1, h => by
    have h1 := sp_mx_le (n := n) (fun k hk => h k (by omega))
    have h2 := h n (by omega)
    rw [sp_mx]
    omega
theorem sp_mx_ge {f : Nat → Nat} : ∀ {n k : Nat}, k < n → f k ≤ sp_mx f n
  | n + 1, k, h => by
    rw [sp_mx]
    by_cases hk : k = n
    · subst hk; omega
    · have := sp_mx_ge (f := f) (n := n) (k := k) (by omega)
      omega
def T_X2_lastDay : List (Nat × pm_T) := [
  (0, i_c (nI 0) 1),
  (1, i_is 1 2),
  (2, i_c (nI 0) 3),
  (3, i_is 2 4),
  (4, i_il 2 5),
  (5, i_al 0 6),
  (6, i_gi 2 0 9),
  (9, i_icge 29 12),
  (12, i_il 1 13),
  (13, i_al 0 14),
  (14, i_gr 2 (fun i => (2, i, 1)) 17),
  (17, i_il 2 18),
  (18, i_ia 19),
  (19, i_mmax 22),
  (22, i_is 1 23),
  (23, i_inc 2 (nI 1) 26),
  (26, i_go 4),
  (29, i_il 1 30),
  (30, i_ir)]
theorem k_X2_lastDay : ∀ q ∈ T_X2_lastDay, pm_sd RX2 cX2_lastDay 3 1 1 q.1 q.2 := by
  unfold T_X2_lastDay
  refine pm_cn (sd_iconst (z := 0) (by decide +kernel) (by decide +kernel) rfl) ?_
  refine pm_cn (sd_isn (k := 1) (by decide +kernel) rfl rfl (by decide)) ?_
  refine pm_cn (sd_iconst (z := 0) (by decide +kernel) (by decide +kernel) rfl) ?_
  refine pm_cn (sd_isn (k := 2) (by decide +kernel) rfl rfl (by decide)) ?_
  refine pm_cn (sd_iln (k := 2) (by decide +kernel) rfl rfl) ?_
  refine pm_cn (sd_aln (k := 0) (by decide +kernel) rfl rfl) ?_
  refine pm_cn (sd_gi cl2_ in2_ (by decide) (fun _ => rfl) fl_X2_25 (by decide +kernel) rfl) ?_
  refine pm_cn (sd_icge (off := 20) (by decide +kernel) (by decide) rfl) ?_
  refine pm_cn (sd_iln (k := 1) (by decide +kernel) rfl rfl) ?_
  refine pm_cn (sd_aln (k := 0) (by decide +kernel) rfl rfl) ?_
  refine pm_cn (sd_gr cl2_ in2_ (j := 1) (by decide) (fun _ => rfl) fl_X2_9 (by decide +kernel) rfl) ?_
  refine pm_cn (sd_iln (k := 2) (by decide +kernel) rfl rfl) ?_
  refine pm_cn (sd_ia (by decide +kernel) rfl) ?_
  refine pm_cn (sd_mmax ml_X2_42 st_max nt_Math cd_max (by decide) (by decide +kernel) rfl) ?_
  refine pm_cn (sd_isn (k := 1) (by decide +kernel) rfl rfl (by decide)) ?_
  refine pm_cn (sd_inc (z := 1) (by decide +kernel) (by decide +kernel) rfl (by decide)) ?_
  refine pm_cn (sd_go (off := -22) (by decide +kernel) (by decide)) ?_
  refine pm_cn (sd_iln (k := 1) (by decide +kernel) rfl rfl) ?_
  refine pm_cn (sd_ir (by decide +kernel)) ?_
  exact fun _ h => absurd h List.not_mem_nil
set_option maxHeartbeats 4000000 in
set_option maxRecDepth 100000 in
theorem pf_X2_lastDay : pm_pf T_X2_lastDay P_X2_lastDay (pm_pi Q_X2_lastDay) := by
  rintro ⟨m, S, h0⟩ av h K hK ⟨rfl, rfl, ⟨e0, e1⟩, hm, hS⟩ hret
  show K (some 0) ([(0, vR 2 0 0)], [], h)
  have loop : ∀ n k a, k + n = m → a = sp_mx (S 0) k → K (some 4) ([(0, vR 2 0 0), (1, vI (nI a)), (2, vI (nI k))], [], h) := by
    intro n
    induction n with
    | zero =>
      intro k a hk ha
      refine hK [(4, [0, 1, 2])] 40 _ _ ?_
      conv => whnf
      repeat' (first
        | (refine ⟨fun c => ?_, fun c => ?_⟩ <;> (try simp (disch := omega) only [nI_leI, nI_ltI, nI_eq, nz_eq, nz_lt, nz_gt, nz_le, nz_ge, nz_00, nz_10, nz_n1, nI_add, pk_mul, pk_sub, nI_shl1, nI_or, nI_half2, nI_min2, la_put_eq, la_up, lr_same, lr_ne, lu_same, lu_ne, not_true_eq_false, not_false_eq_true, e0] at c) <;> first | (exfalso; omega) | conv => whnf)
        | (refine ⟨_, rfl, by omega, ?_⟩; conv => whnf)
        | (refine ⟨_, rfl, rfl, rfl, by decide, by decide, ?_⟩; conv => whnf)
        | (refine ⟨_, by (simp (disch := omega) only [nI_leI, nI_ltI, nI_eq, nz_eq, nz_lt, nz_gt, nz_le, nz_ge, nz_00, nz_10, nz_n1, nI_add, pk_mul, pk_sub, nI_shl1, nI_or, nI_half2, nI_min2, la_put_eq, la_up, lr_same, lr_ne, lu_same, lu_ne, not_true_eq_false, not_false_eq_true, e0]; rfl), by omega, ?_⟩; conv => whnf)
        | (refine And.intro (by first | assumption | decide) ?_; conv => whnf))
      all_goals (try simp (disch := omega) only [nI_leI, nI_ltI, nI_eq, nz_eq, nz_lt, nz_gt, nz_le, nz_ge, nz_00, nz_10, nz_n1, nI_add, pk_mul, pk_sub, nI_shl1, nI_or, nI_half2, nI_min2, la_put_eq, la_up, lr_same, lr_ne, lu_same, lu_ne, not_true_eq_false, not_false_eq_true, e0])
      have : k = m := by omega
      subst this
      exact hret _ _ ⟨rfl, by rw [ha]⟩
    | succ n ih =>
      intro k a hk ha
      have hB := hS k (by omega)
      have hE := (e1 k (by omega)).1
      have hA : sp_mx (S 0) k ≤ 30 := sp_mx_le (fun j hj => (hS j (by omega)).1)
      refine hK [(4, [0, 1, 2])] 40 _ _ ?_
      conv => whnf
      repeat' (first
        | (refine ⟨fun c => ?_, fun c => ?_⟩ <;> (try simp (disch := omega) only [nI_leI, nI_ltI, nI_eq, nz_eq, nz_lt, nz_gt, nz_le, nz_ge, nz_00, nz_10, nz_n1, nI_add, pk_mul, pk_sub, nI_shl1, nI_or, nI_half2, nI_min2, la_put_eq, la_up, lr_same, lr_ne, lu_same, lu_ne, not_true_eq_false, not_false_eq_true, e0, hE, nI_max2] at c) <;> first | (exfalso; omega) | conv => whnf)
        | (refine ⟨_, rfl, by omega, ?_⟩; conv => whnf)
        | (refine ⟨_, rfl, rfl, rfl, by decide, by decide, ?_⟩; conv => whnf)
        | (refine ⟨_, by (simp (disch := omega) only [nI_leI, nI_ltI, nI_eq, nz_eq, nz_lt, nz_gt, nz_le, nz_ge, nz_00, nz_10, nz_n1, nI_add, pk_mul, pk_sub, nI_shl1, nI_or, nI_half2, nI_min2, la_put_eq, la_up, lr_same, lr_ne, lu_same, lu_ne, not_true_eq_false, not_false_eq_true, e0, hE, nI_max2]; rfl), by omega, ?_⟩; conv => whnf)
        | (refine And.intro (by first | assumption | decide) ?_; conv => whnf))
      all_goals (try simp (disch := omega) only [nI_leI, nI_ltI, nI_eq, nz_eq, nz_lt, nz_gt, nz_le, nz_ge, nz_00, nz_10, nz_n1, nI_add, pk_mul, pk_sub, nI_shl1, nI_or, nI_half2, nI_min2, la_put_eq, la_up, lr_same, lr_ne, lu_same, lu_ne, not_true_eq_false, not_false_eq_true, e0, hE, nI_max2])
      refine ih (k + 1) _ (by omega) ?_
      rw [sp_mx, ← ha]
  refine hK [(4, [0, 1, 2])] 10 _ _ ?_
  conv => whnf
  repeat' (first
    | (refine ⟨fun c => ?_, fun c => ?_⟩ <;> (try simp (disch := omega) only [nI_leI, nI_ltI, nI_eq, nz_eq, nz_lt, nz_gt, nz_le, nz_ge, nz_00, nz_10, nz_n1, nI_add, pk_mul, pk_sub, nI_shl1, nI_or, nI_half2, nI_min2, la_put_eq, la_up, lr_same, lr_ne, lu_same, lu_ne, not_true_eq_false, not_false_eq_true] at c) <;> first | (exfalso; omega) | conv => whnf)
    | (refine ⟨_, rfl, by omega, ?_⟩; conv => whnf)
    | (refine ⟨_, rfl, rfl, rfl, by decide, by decide, ?_⟩; conv => whnf)
    | (refine ⟨_, by (simp (disch := omega) only [nI_leI, nI_ltI, nI_eq, nz_eq, nz_lt, nz_gt, nz_le, nz_ge, nz_00, nz_10, nz_n1, nI_add, pk_mul, pk_sub, nI_shl1, nI_or, nI_half2, nI_min2, la_put_eq, la_up, lr_same, lr_ne, lu_same, lu_ne, not_true_eq_false, not_false_eq_true]; rfl), by omega, ?_⟩; conv => whnf)
    | (refine And.intro (by first | assumption | decide) ?_; conv => whnf))
  all_goals (try simp (disch := omega) only [nI_leI, nI_ltI, nI_eq, nz_eq, nz_lt, nz_gt, nz_le, nz_ge, nz_00, nz_10, nz_n1, nI_add, pk_mul, pk_sub, nI_shl1, nI_or, nI_half2, nI_min2, la_put_eq, la_up, lr_same, lr_ne, lu_same, lu_ne, not_true_eq_false, not_false_eq_true])
  exact loop m 0 0 (by omega) rfl
theorem M_X2_lastDay : pm_MT yX2_lastDay cX2_lastDay 3 1 1 P_X2_lastDay (pm_pi Q_X2_lastDay) := pm_met k_X2_lastDay (by decide) rfl (by
  rintro ⟨g0, g1, g2⟩ av h hp
  rw [hp.1]
  exact Nat.le_of_ble_eq_true rfl) pf_X2_lastDay
theorem rc_X2_lastDay : ∀ g av h, P_X2_lastDay g av h → ∃ i t, av = .inr (.inr (2, i, 0)) :: t := by
  rintro ⟨g0, g1, g2⟩ av h hp
  exact ⟨_, _, hp.1⟩
def sp_fb (L : LD) (m : Nat) (S : LD) (d : Nat) : Prop := ∀ e, e < m → S 0 e = d → (sp_kn L (S 1 e) (S 2 e) ↔ S 3 e = 1)
def P_X2_fitsBehind : Nat × Nat × LD × Nat × LD × pm_H → List pm_V → pm_H → Prop := fun g av h => match g with
  | (d, i, L, m, S, h0) => av = [vR 2 0 0, vI (nI d), vR 0 i 0] ∧ h = h0 ∧ la_at h0 i L ∧ la_ok L ∧ se_at h0 m S ∧ se_ok m S ∧ d < 2 ^ 31
def Q_X2_fitsBehind : Nat × Nat × LD × Nat × LD × pm_H → Int32 → pm_H → Prop := fun g r h => match g with
  | (d, i, L, m, S, h0) => h = h0 ∧ ((sp_fb L m S d ∧ r = nI 1) ∨ (¬ sp_fb L m S d ∧ r = nI 0))
def T_X2_fitsBehind : List (Nat × pm_T) := [
  (0, i_c (nI 0) 1),
  (1, i_is 3 2),
  (2, i_il 3 3),
  (3, i_al 0 4),
  (4, i_gi 2 0 7),
  (7, i_icge 53 10),
  (10, i_al 0 11),
  (11, i_gr 2 (fun i => (2, i, 1)) 14),
  (14, i_il 3 15),
  (15, i_ia 16),
  (16, i_il 1 17),
  (17, i_icne 47 20),
  (20, i_al 2 21),
  (21, i_al 0 22),
  (22, i_gr 2 (fun i => (2, i, 2)) 25),
  (25, i_il 3 26),
  (26, i_ia 27),
  (27, i_al 0 28),
  (28, i_gr 2 (fun i => (2, i, 3)) 31),
  (31, i_il 3 32),
  (32, i_ia 33),
  (33, i_ci 3 P_X0_isKnower Q_X0_isKnower 36),
  (36, i_al 0 37),
  (37, i_gr 2 (fun i => (2, i, 4)) 40),
  (40, i_il 3 41),
  (41, i_za 42),
  (42, i_iceq 47 45),
  (45, i_c (nI 0) 46),
  (46, i_zr),
  (47, i_inc 3 (nI 1) 50),
  (50, i_go 2),
  (53, i_c (nI 1) 54),
  (54, i_zr)]
theorem k_X2_fitsBehind : ∀ q ∈ T_X2_fitsBehind, pm_sd RX2 cX2_fitsBehind 4 2 3 q.1 q.2 := by
  unfold T_X2_fitsBehind
  refine pm_cn (sd_iconst (z := 0) (by decide +kernel) (by decide +kernel) rfl) ?_
  refine pm_cn (sd_isn (k := 3) (by decide +kernel) rfl rfl (by decide)) ?_
  refine pm_cn (sd_iln (k := 3) (by decide +kernel) rfl rfl) ?_
  refine pm_cn (sd_aln (k := 0) (by decide +kernel) rfl rfl) ?_
  refine pm_cn (sd_gi cl2_ in2_ (by decide) (fun _ => rfl) fl_X2_25 (by decide +kernel) rfl) ?_
  refine pm_cn (sd_icge (off := 46) (by decide +kernel) (by decide) rfl) ?_
  refine pm_cn (sd_aln (k := 0) (by decide +kernel) rfl rfl) ?_
  refine pm_cn (sd_gr cl2_ in2_ (j := 1) (by decide) (fun _ => rfl) fl_X2_9 (by decide +kernel) rfl) ?_
  refine pm_cn (sd_iln (k := 3) (by decide +kernel) rfl rfl) ?_
  refine pm_cn (sd_ia (by decide +kernel) rfl) ?_
  refine pm_cn (sd_iln (k := 1) (by decide +kernel) rfl rfl) ?_
  refine pm_cn (sd_icne (off := 30) (by decide +kernel) (by decide) rfl) ?_
  refine pm_cn (sd_aln (k := 2) (by decide +kernel) rfl rfl) ?_
  refine pm_cn (sd_aln (k := 0) (by decide +kernel) rfl rfl) ?_
  refine pm_cn (sd_gr cl2_ in2_ (j := 2) (by decide) (fun _ => rfl) fl_X2_15 (by decide +kernel) rfl) ?_
  refine pm_cn (sd_iln (k := 3) (by decide +kernel) rfl rfl) ?_
  refine pm_cn (sd_ia (by decide +kernel) rfl) ?_
  refine pm_cn (sd_aln (k := 0) (by decide +kernel) rfl rfl) ?_
  refine pm_cn (sd_gr cl2_ in2_ (j := 3) (by decide) (fun _ => rfl) fl_X2_18 (by decide +kernel) rfl) ?_
  refine pm_cn (sd_iln (k := 3) (by decide +kernel) rfl rfl) ?_
  refine pm_cn (sd_ia (by decide +kernel) rfl) ?_
  refine pm_cn (sd_civ M_X0_isKnower (by decide) cd_X0_isKnower rc_X0_isKnower cl0_ ml_X2_48 im_X0_isKnower se_X0_isKnower nt_X0 (by decide +kernel) (by decide) (by decide) (by decide +kernel) rfl) ?_
  refine pm_cn (sd_aln (k := 0) (by decide +kernel) rfl rfl) ?_
  refine pm_cn (sd_gr cl2_ in2_ (j := 4) (by decide) (fun _ => rfl) fl_X2_21 (by decide +kernel) rfl) ?_
  refine pm_cn (sd_iln (k := 3) (by decide +kernel) rfl rfl) ?_
  refine pm_cn (sd_za (by decide +kernel) rfl) ?_
  refine pm_cn (sd_iceq (off := 5) (by decide +kernel) (by decide) rfl) ?_
  refine pm_cn (sd_iconst (z := 0) (by decide +kernel) (by decide +kernel) rfl) ?_
  refine pm_cn (sd_zr (by decide +kernel)) ?_
  refine pm_cn (sd_inc (z := 1) (by decide +kernel) (by decide +kernel) rfl (by decide)) ?_
  refine pm_cn (sd_go (off := -48) (by decide +kernel) (by decide)) ?_
  refine pm_cn (sd_iconst (z := 1) (by decide +kernel) (by decide +kernel) rfl) ?_
  refine pm_cn (sd_zr (by decide +kernel)) ?_
  exact fun _ h => absurd h List.not_mem_nil
set_option maxHeartbeats 4000000 in
set_option maxRecDepth 100000 in
theorem pf_X2_fitsBehind : pm_pf T_X2_fitsBehind P_X2_fitsBehind (pm_pi Q_X2_fitsBehind) := by
  rintro ⟨d, i, L, m, S, h0⟩ av h K hK ⟨rfl, rfl, hL, hw, ⟨e0, e1⟩, ⟨hm, hS⟩, hd⟩ hret
  show K (some 0) ([(0, vR 2 0 0), (1, vI (nI d)), (2, vR 0 i 0)], [], h)
  have loop : ∀ n k, k + n = m → (∀ e, e < k → S 0 e = d → (sp_kn L (S 1 e) (S 2 e) ↔ S 3 e = 1)) → K (some 2) ([(0, vR 2 0 0), (1, vI (nI d)), (2, vR 0 i 0), (3, vI (nI k))], [], h) := by
    intro n
    induction n with
    | zero =>
      intro k hk ha
      refine hK [(2, [0, 1, 2, 3])] 40 _ _ ?_
      conv => whnf
      repeat' (first
        | (refine ⟨fun c => ?_, fun c => ?_⟩ <;> (try simp (disch := omega) only [nI_leI, nI_ltI, nI_eq, nz_eq, nz_lt, nz_gt, nz_le, nz_ge, nz_00, nz_10, nz_n1, nI_add, pk_mul, pk_sub, nI_shl1, nI_or, nI_half2, nI_min2, la_put_eq, la_up, lr_same, lr_ne, lu_same, lu_ne, not_true_eq_false, not_false_eq_true, e0] at c) <;> first | (exfalso; omega) | conv => whnf)
        | (refine ⟨_, rfl, by omega, ?_⟩; conv => whnf)
        | (refine ⟨_, rfl, rfl, rfl, by decide, by decide, ?_⟩; conv => whnf)
        | (refine ⟨_, by (simp (disch := omega) only [nI_leI, nI_ltI, nI_eq, nz_eq, nz_lt, nz_gt, nz_le, nz_ge, nz_00, nz_10, nz_n1, nI_add, pk_mul, pk_sub, nI_shl1, nI_or, nI_half2, nI_min2, la_put_eq, la_up, lr_same, lr_ne, lu_same, lu_ne, not_true_eq_false, not_false_eq_true, e0]; rfl), by omega, ?_⟩; conv => whnf)
        | (refine And.intro (by first | assumption | decide) ?_; conv => whnf))
      all_goals (try simp (disch := omega) only [nI_leI, nI_ltI, nI_eq, nz_eq, nz_lt, nz_gt, nz_le, nz_ge, nz_00, nz_10, nz_n1, nI_add, pk_mul, pk_sub, nI_shl1, nI_or, nI_half2, nI_min2, la_put_eq, la_up, lr_same, lr_ne, lu_same, lu_ne, not_true_eq_false, not_false_eq_true, e0])
      have : k = m := by omega
      subst this
      exact hret _ _ ⟨rfl, Or.inl ⟨ha, rfl⟩⟩
    | succ n ih =>
      intro k hk ha
      have hB := hS k (by omega)
      obtain ⟨f0, f1, f2, f3⟩ := e1 k (by omega)
      have go : (S 0 k = d → (sp_kn L (S 1 k) (S 2 k) ↔ S 3 k = 1)) → K (some 2) ([(0, vR 2 0 0), (1, vI (nI d)), (2, vR 0 i 0), (3, vI (nI (k + 1)))], [], h) := by
        intro hg
        refine ih (k + 1) (by omega) (fun e he hd2 => ?_)
        rcases Nat.lt_or_ge e k with q | q
        · exact ha e q hd2
        · have : e = k := by omega
          subst this
          exact hg hd2
      refine hK [(2, [0, 1, 2, 3])] 40 _ _ ?_
      conv => whnf
      repeat' (first
        | (refine ⟨fun c => ?_, fun c => ?_⟩ <;> (try simp (disch := omega) only [nI_leI, nI_ltI, nI_eq, nz_eq, nz_lt, nz_gt, nz_le, nz_ge, nz_00, nz_10, nz_n1, nI_add, pk_mul, pk_sub, nI_shl1, nI_or, nI_half2, nI_min2, la_put_eq, la_up, lr_same, lr_ne, lu_same, lu_ne, not_true_eq_false, not_false_eq_true, e0, f0, f1, f2] at c) <;> first | (exfalso; omega) | conv => whnf)
        | (refine ⟨_, rfl, by omega, ?_⟩; conv => whnf)
        | (refine ⟨_, rfl, rfl, rfl, by decide, by decide, ?_⟩; conv => whnf)
        | (refine ⟨_, by (simp (disch := omega) only [nI_leI, nI_ltI, nI_eq, nz_eq, nz_lt, nz_gt, nz_le, nz_ge, nz_00, nz_10, nz_n1, nI_add, pk_mul, pk_sub, nI_shl1, nI_or, nI_half2, nI_min2, la_put_eq, la_up, lr_same, lr_ne, lu_same, lu_ne, not_true_eq_false, not_false_eq_true, e0, f0, f1, f2]; rfl), by omega, ?_⟩; conv => whnf)
        | (refine And.intro (by first | assumption | decide) ?_; conv => whnf))
      all_goals (try simp (disch := omega) only [nI_leI, nI_ltI, nI_eq, nz_eq, nz_lt, nz_gt, nz_le, nz_ge, nz_00, nz_10, nz_n1, nI_add, pk_mul, pk_sub, nI_shl1, nI_or, nI_half2, nI_min2, la_put_eq, la_up, lr_same, lr_ne, lu_same, lu_ne, not_true_eq_false, not_false_eq_true, e0, f0, f1, f2])
      · exact go (fun q => by omega)
      · refine ⟨(i, S 1 k, S 2 k, L, h), ⟨rfl, rfl, hL, hw, by omega, by omega⟩, fun v h' hq => ?_⟩
        obtain ⟨rfl, ⟨hkn, rfl⟩ | ⟨hkn, rfl⟩⟩ := hq
        · conv => whnf
          repeat' (first
            | (refine ⟨fun c => ?_, fun c => ?_⟩ <;> (try simp (disch := omega) only [nI_leI, nI_ltI, nI_eq, nz_eq, nz_lt, nz_gt, nz_le, nz_ge, nz_00, nz_10, nz_n1, nI_add, pk_mul, pk_sub, nI_shl1, nI_or, nI_half2, nI_min2, la_put_eq, la_up, lr_same, lr_ne, lu_same, lu_ne, not_true_eq_false, not_false_eq_true, f3] at c) <;> first | (exfalso; omega) | conv => whnf)
            | (refine ⟨_, rfl, by omega, ?_⟩; conv => whnf)
            | (refine ⟨_, rfl, rfl, rfl, by decide, by decide, ?_⟩; conv => whnf)
            | (refine ⟨_, by (simp (disch := omega) only [nI_leI, nI_ltI, nI_eq, nz_eq, nz_lt, nz_gt, nz_le, nz_ge, nz_00, nz_10, nz_n1, nI_add, pk_mul, pk_sub, nI_shl1, nI_or, nI_half2, nI_min2, la_put_eq, la_up, lr_same, lr_ne, lu_same, lu_ne, not_true_eq_false, not_false_eq_true, f3]; rfl), by omega, ?_⟩; conv => whnf)
            | (refine And.intro (by first | assumption | decide) ?_; conv => whnf))
          all_goals (try simp (disch := omega) only [nI_leI, nI_ltI, nI_eq, nz_eq, nz_lt, nz_gt, nz_le, nz_ge, nz_00, nz_10, nz_n1, nI_add, pk_mul, pk_sub, nI_shl1, nI_or, nI_half2, nI_min2, la_put_eq, la_up, lr_same, lr_ne, lu_same, lu_ne, not_true_eq_false, not_false_eq_true, f3])
          · exact go (fun _ => ⟨fun _ => by omega, fun _ => hkn⟩)
          · refine hret _ _ ⟨rfl, Or.inr ⟨fun q => ?_, rfl⟩⟩
            have := (q k (by omega) (by omega)).mp hkn
            omega
        · conv => whnf
          repeat' (first
            | (refine ⟨fun c => ?_, fun c => ?_⟩ <;> (try simp (disch := omega) only [nI_leI, nI_ltI, nI_eq, nz_eq, nz_lt, nz_gt, nz_le, nz_ge, nz_00, nz_10, nz_n1, nI_add, pk_mul, pk_sub, nI_shl1, nI_or, nI_half2, nI_min2, la_put_eq, la_up, lr_same, lr_ne, lu_same, lu_ne, not_true_eq_false, not_false_eq_true, f3] at c) <;> first | (exfalso; omega) | conv => whnf)
            | (refine ⟨_, rfl, by omega, ?_⟩; conv => whnf)
            | (refine ⟨_, rfl, rfl, rfl, by decide, by decide, ?_⟩; conv => whnf)
            | (refine ⟨_, by (simp (disch := omega) only [nI_leI, nI_ltI, nI_eq, nz_eq, nz_lt, nz_gt, nz_le, nz_ge, nz_00, nz_10, nz_n1, nI_add, pk_mul, pk_sub, nI_shl1, nI_or, nI_half2, nI_min2, la_put_eq, la_up, lr_same, lr_ne, lu_same, lu_ne, not_true_eq_false, not_false_eq_true, f3]; rfl), by omega, ?_⟩; conv => whnf)
            | (refine And.intro (by first | assumption | decide) ?_; conv => whnf))
          all_goals (try simp (disch := omega) only [nI_leI, nI_ltI, nI_eq, nz_eq, nz_lt, nz_gt, nz_le, nz_ge, nz_00, nz_10, nz_n1, nI_add, pk_mul, pk_sub, nI_shl1, nI_or, nI_half2, nI_min2, la_put_eq, la_up, lr_same, lr_ne, lu_same, lu_ne, not_true_eq_false, not_false_eq_true, f3])
          · exact go (fun _ => ⟨fun q => absurd q hkn, fun q => by omega⟩)
          · refine hret _ _ ⟨rfl, Or.inr ⟨fun q => hkn ((q k (by omega) (by omega)).mpr (by omega)), rfl⟩⟩
  refine hK [(2, [0, 1, 2, 3])] 10 _ _ ?_
  conv => whnf
  repeat' (first
    | (refine ⟨fun c => ?_, fun c => ?_⟩ <;> (try simp (disch := omega) only [nI_leI, nI_ltI, nI_eq, nz_eq, nz_lt, nz_gt, nz_le, nz_ge, nz_00, nz_10, nz_n1, nI_add, pk_mul, pk_sub, nI_shl1, nI_or, nI_half2, nI_min2, la_put_eq, la_up, lr_same, lr_ne, lu_same, lu_ne, not_true_eq_false, not_false_eq_true] at c) <;> first | (exfalso; omega) | conv => whnf)
    | (refine ⟨_, rfl, by omega, ?_⟩; conv => whnf)
    | (refine ⟨_, rfl, rfl, rfl, by decide, by decide, ?_⟩; conv => whnf)
    | (refine ⟨_, by (simp (disch := omega) only [nI_leI, nI_ltI, nI_eq, nz_eq, nz_lt, nz_gt, nz_le, nz_ge, nz_00, nz_10, nz_n1, nI_add, pk_mul, pk_sub, nI_shl1, nI_or, nI_half2, nI_min2, la_put_eq, la_up, lr_same, lr_ne, lu_same, lu_ne, not_true_eq_false, not_false_eq_true]; rfl), by omega, ?_⟩; conv => whnf)
    | (refine And.intro (by first | assumption | decide) ?_; conv => whnf))
  all_goals (try simp (disch := omega) only [nI_leI, nI_ltI, nI_eq, nz_eq, nz_lt, nz_gt, nz_le, nz_ge, nz_00, nz_10, nz_n1, nI_add, pk_mul, pk_sub, nI_shl1, nI_or, nI_half2, nI_min2, la_put_eq, la_up, lr_same, lr_ne, lu_same, lu_ne, not_true_eq_false, not_false_eq_true])
  exact loop m 0 (by omega) (fun e he => by omega)
theorem M_X2_fitsBehind : pm_MT yX2_fitsBehind cX2_fitsBehind 4 3 2 P_X2_fitsBehind (pm_pi Q_X2_fitsBehind) := pm_met k_X2_fitsBehind (by decide) rfl (by
  rintro ⟨g0, g1, g2, g3, g4, g5⟩ av h hp
  rw [hp.1]
  exact Nat.le_of_ble_eq_true rfl) pf_X2_fitsBehind
theorem rc_X2_fitsBehind : ∀ g av h, P_X2_fitsBehind g av h → ∃ i t, av = .inr (.inr (2, i, 0)) :: t := by
  rintro ⟨g0, g1, g2, g3, g4, g5⟩ av h hp
  exact ⟨_, _, hp.1⟩
def sp_lives (L : LD) : Nat → LD
  | 0 => L
  | n + 1 => sp_live (sp_lives L n)
theorem sp_lives_day (L : LD) : ∀ n, sp_lives L n 0 10 = L 0 10 + n
  | 0 => rfl
  | n + 1 => by rw [sp_lives, sp_live_day, sp_lives_day L n]; omega
theorem la_ok_lives {L : LD} (hw : la_ok L) : ∀ n, L 0 10 + n ≤ 5000 → la_ok (sp_lives L n)
  | 0, _ => hw
  | n + 1, h => la_ok_live (la_ok_lives hw n (by omega)) (by rw [sp_lives_day]; omega)
theorem sp_lives_s {L : LD} {s j : Nat} (h5 : s ≠ 5) (h2 : s ≠ 2) (hd : ¬ (s = 0 ∧ j = 10)) : ∀ n, sp_lives L n s j = L s j
  | 0 => rfl
  | n + 1 => by rw [sp_lives, sp_live_s h5 h2 hd, sp_lives_s h5 h2 hd n]
def sp_fits (L : LD) (m : Nat) (S : LD) : Prop := ∀ d, d ≤ 30 → sp_fb (sp_lives L d) m S d
theorem sp_fits_iff {L : LD} {m : Nat} {S : LD} (hS : se_ok m S) : sp_fits L m S ↔ ∀ d, d ≤ sp_mx (S 0) m → sp_fb (sp_lives L d) m S d := by
  have hle : sp_mx (S 0) m ≤ 30 := sp_mx_le (fun j hj => (hS.2 j hj).1)
  constructor
  · intro h d hd; exact h d (by omega)
  · intro h d _ e he hed
    have := sp_mx_ge (f := S 0) he
    exact h d (by omega) e he hed
def P_X2_fits : Nat × LD × Nat × LD × pm_H → List pm_V → pm_H → Prop := fun g av h => match g with
  | (i, L, m, S, h0) => av = [vR 2 0 0, vR 0 i 0] ∧ h = h0 ∧ la_at h0 i L ∧ la_ok L ∧ se_at h0 m S ∧ se_ok m S ∧ L 0 10 ≤ 4000
def Q_X2_fits : Nat × LD × Nat × LD × pm_H → Int32 → pm_H → Prop := fun g r h => match g with
  | (i, L, m, S, h0) => (∃ T, la_ok T ∧ h = la_put h0 i T) ∧ ((sp_fits L m S ∧ r = nI 1) ∨ (¬ sp_fits L m S ∧ r = nI 0))
theorem se_at_put {h : pm_H} {i : Nat} {L : LD} {m : Nat} {S : LD} (hS : se_at h m S) : se_at (la_put h i L) m S := by
  refine ⟨by rw [la_put_ne (by omega)]; exact hS.1, fun e he => ?_⟩
  rw [la_put_ne (by omega), la_put_ne (by omega), la_put_ne (by omega), la_put_ne (by omega)]
  exact hS.2 e he
def T_X2_fits : List (Nat × pm_T) := [
  (0, i_al 0 1),
  (1, i_ci 1 P_X2_lastDay Q_X2_lastDay 4),
  (4, i_is 2 5),
  (5, i_c (nI 0) 6),
  (6, i_is 3 7),
  (7, i_il 3 8),
  (8, i_il 2 9),
  (9, i_icgt 34 12),
  (12, i_al 0 13),
  (13, i_il 3 14),
  (14, i_al 1 15),
  (15, i_ci 3 P_X2_fitsBehind Q_X2_fitsBehind 18),
  (18, i_ifne 23 21),
  (21, i_c (nI 0) 22),
  (22, i_zr),
  (23, i_al 1 24),
  (24, i_ci 1 P_X0_live Q_X0_live 27),
  (27, i_pop 28),
  (28, i_inc 3 (nI 1) 31),
  (31, i_go 7),
  (34, i_c (nI 1) 35),
  (35, i_zr)]
theorem k_X2_fits : ∀ q ∈ T_X2_fits, pm_sd RX2 cX2_fits 4 3 3 q.1 q.2 := by
  unfold T_X2_fits
  refine pm_cn (sd_aln (k := 0) (by decide +kernel) rfl rfl) ?_
  refine pm_cn (sd_civ M_X2_lastDay (by decide) cd_X2_lastDay rc_X2_lastDay cl2_ ml_X2_29 im_X2_lastDay se_X2_lastDay nt_X2 (by decide +kernel) (by decide) (by decide) (by decide +kernel) rfl) ?_
  refine pm_cn (sd_isn (k := 2) (by decide +kernel) rfl rfl (by decide)) ?_
  refine pm_cn (sd_iconst (z := 0) (by decide +kernel) (by decide +kernel) rfl) ?_
  refine pm_cn (sd_isn (k := 3) (by decide +kernel) rfl rfl (by decide)) ?_
  refine pm_cn (sd_iln (k := 3) (by decide +kernel) rfl rfl) ?_
  refine pm_cn (sd_iln (k := 2) (by decide +kernel) rfl rfl) ?_
  refine pm_cn (sd_icgt (off := 25) (by decide +kernel) (by decide) rfl) ?_
  refine pm_cn (sd_aln (k := 0) (by decide +kernel) rfl rfl) ?_
  refine pm_cn (sd_iln (k := 3) (by decide +kernel) rfl rfl) ?_
  refine pm_cn (sd_aln (k := 1) (by decide +kernel) rfl rfl) ?_
  refine pm_cn (sd_civ M_X2_fitsBehind (by decide) cd_X2_fitsBehind rc_X2_fitsBehind cl2_ ml_X2_33 im_X2_fitsBehind se_X2_fitsBehind nt_X2 (by decide +kernel) (by decide) (by decide) (by decide +kernel) rfl) ?_
  refine pm_cn (sd_ifne (off := 5) (by decide +kernel) (by decide) rfl) ?_
  refine pm_cn (sd_iconst (z := 0) (by decide +kernel) (by decide +kernel) rfl) ?_
  refine pm_cn (sd_zr (by decide +kernel)) ?_
  refine pm_cn (sd_aln (k := 1) (by decide +kernel) rfl rfl) ?_
  refine pm_cn (sd_civ M_X0_live (by decide) cd_X0_live rc_X0_live cl0_ ml_X2_37 im_X0_live se_X0_live nt_X0 (by decide +kernel) (by decide) (by decide) (by decide +kernel) rfl) ?_
  refine pm_cn (sd_pop (by decide +kernel) rfl) ?_
  refine pm_cn (sd_inc (z := 1) (by decide +kernel) (by decide +kernel) rfl (by decide)) ?_
  refine pm_cn (sd_go (off := -24) (by decide +kernel) (by decide)) ?_
  refine pm_cn (sd_iconst (z := 1) (by decide +kernel) (by decide +kernel) rfl) ?_
  refine pm_cn (sd_zr (by decide +kernel)) ?_
  exact fun _ h => absurd h List.not_mem_nil
set_option maxHeartbeats 4000000 in
set_option maxRecDepth 100000 in
theorem pf_X2_fits : pm_pf T_X2_fits P_X2_fits (pm_pi Q_X2_fits) := by
  rintro ⟨i, L, m, S, h0⟩ av h K hK ⟨rfl, rfl, hL, hw, hS, hSo, hd⟩ hret
  show K (some 0) ([(0, vR 2 0 0), (1, vR 0 i 0)], [], h)
  have hle : sp_mx (S 0) m ≤ 30 := sp_mx_le (fun j hj => (hSo.2 j hj).1)
  have loop : ∀ n d H, d + n = sp_mx (S 0) m + 1 → H = la_put h i (sp_lives L d) → (∀ x, x < d → sp_fb (sp_lives L x) m S x) → K (some 7) ([(0, vR 2 0 0), (1, vR 0 i 0), (2, vI (nI (sp_mx (S 0) m))), (3, vI (nI d))], [], H) := by
    intro n
    induction n with
    | zero =>
      intro d H hk hH ha
      refine hK [(7, [0, 1, 2, 3])] 40 _ _ ?_
      conv => whnf
      repeat' (first
        | (refine ⟨fun c => ?_, fun c => ?_⟩ <;> (try simp (disch := omega) only [nI_leI, nI_ltI, nI_eq, nz_eq, nz_lt, nz_gt, nz_le, nz_ge, nz_00, nz_10, nz_n1, nI_add, pk_mul, pk_sub, nI_shl1, nI_or, nI_half2, nI_min2, la_put_eq, la_up, lr_same, lr_ne, lu_same, lu_ne, not_true_eq_false, not_false_eq_true] at c) <;> first | (exfalso; omega) | conv => whnf)
        | (refine ⟨_, rfl, by omega, ?_⟩; conv => whnf)
        | (refine ⟨_, rfl, rfl, rfl, by decide, by decide, ?_⟩; conv => whnf)
        | (refine ⟨_, by (simp (disch := omega) only [nI_leI, nI_ltI, nI_eq, nz_eq, nz_lt, nz_gt, nz_le, nz_ge, nz_00, nz_10, nz_n1, nI_add, pk_mul, pk_sub, nI_shl1, nI_or, nI_half2, nI_min2, la_put_eq, la_up, lr_same, lr_ne, lu_same, lu_ne, not_true_eq_false, not_false_eq_true]; rfl), by omega, ?_⟩; conv => whnf)
        | (refine And.intro (by first | assumption | decide) ?_; conv => whnf))
      all_goals (try simp (disch := omega) only [nI_leI, nI_ltI, nI_eq, nz_eq, nz_lt, nz_gt, nz_le, nz_ge, nz_00, nz_10, nz_n1, nI_add, pk_mul, pk_sub, nI_shl1, nI_or, nI_half2, nI_min2, la_put_eq, la_up, lr_same, lr_ne, lu_same, lu_ne, not_true_eq_false, not_false_eq_true])
      refine hret _ _ ⟨⟨_, la_ok_lives hw d (by omega), hH⟩, Or.inl ⟨(sp_fits_iff hSo).mpr (fun x hx => ha x (by omega)), rfl⟩⟩
    | succ n ih =>
      intro d H hk hH ha
      have hwd := la_ok_lives hw d (by omega)
      have hdd := sp_lives_day L d
      subst hH
      refine hK [(7, [0, 1, 2, 3])] 40 _ _ ?_
      conv => whnf
      repeat' (first
        | (refine ⟨fun c => ?_, fun c => ?_⟩ <;> (try simp (disch := omega) only [nI_leI, nI_ltI, nI_eq, nz_eq, nz_lt, nz_gt, nz_le, nz_ge, nz_00, nz_10, nz_n1, nI_add, pk_mul, pk_sub, nI_shl1, nI_or, nI_half2, nI_min2, la_put_eq, la_up, lr_same, lr_ne, lu_same, lu_ne, not_true_eq_false, not_false_eq_true] at c) <;> first | (exfalso; omega) | conv => whnf)
        | (refine ⟨_, rfl, by omega, ?_⟩; conv => whnf)
        | (refine ⟨_, rfl, rfl, rfl, by decide, by decide, ?_⟩; conv => whnf)
        | (refine ⟨_, by (simp (disch := omega) only [nI_leI, nI_ltI, nI_eq, nz_eq, nz_lt, nz_gt, nz_le, nz_ge, nz_00, nz_10, nz_n1, nI_add, pk_mul, pk_sub, nI_shl1, nI_or, nI_half2, nI_min2, la_put_eq, la_up, lr_same, lr_ne, lu_same, lu_ne, not_true_eq_false, not_false_eq_true]; rfl), by omega, ?_⟩; conv => whnf)
        | (refine And.intro (by first | assumption | decide) ?_; conv => whnf))
      all_goals (try simp (disch := omega) only [nI_leI, nI_ltI, nI_eq, nz_eq, nz_lt, nz_gt, nz_le, nz_ge, nz_00, nz_10, nz_n1, nI_add, pk_mul, pk_sub, nI_shl1, nI_or, nI_half2, nI_min2, la_put_eq, la_up, lr_same, lr_ne, lu_same, lu_ne, not_true_eq_false, not_false_eq_true])
      refine ⟨(d, i, sp_lives L d, m, S, _), ⟨rfl, rfl, la_put_at _ _ _, hwd, se_at_put hS, hSo, by omega⟩, fun v h' hq => ?_⟩
      obtain ⟨rfl, ⟨hfb, rfl⟩ | ⟨hfb, rfl⟩⟩ := hq
      · conv => whnf
        repeat' (first
          | (refine ⟨fun c => ?_, fun c => ?_⟩ <;> (try simp (disch := omega) only [nI_leI, nI_ltI, nI_eq, nz_eq, nz_lt, nz_gt, nz_le, nz_ge, nz_00, nz_10, nz_n1, nI_add, pk_mul, pk_sub, nI_shl1, nI_or, nI_half2, nI_min2, la_put_eq, la_up, lr_same, lr_ne, lu_same, lu_ne, not_true_eq_false, not_false_eq_true] at c) <;> first | (exfalso; omega) | conv => whnf)
          | (refine ⟨_, rfl, by omega, ?_⟩; conv => whnf)
          | (refine ⟨_, rfl, rfl, rfl, by decide, by decide, ?_⟩; conv => whnf)
          | (refine ⟨_, by (simp (disch := omega) only [nI_leI, nI_ltI, nI_eq, nz_eq, nz_lt, nz_gt, nz_le, nz_ge, nz_00, nz_10, nz_n1, nI_add, pk_mul, pk_sub, nI_shl1, nI_or, nI_half2, nI_min2, la_put_eq, la_up, lr_same, lr_ne, lu_same, lu_ne, not_true_eq_false, not_false_eq_true]; rfl), by omega, ?_⟩; conv => whnf)
          | (refine And.intro (by first | assumption | decide) ?_; conv => whnf))
        all_goals (try simp (disch := omega) only [nI_leI, nI_ltI, nI_eq, nz_eq, nz_lt, nz_gt, nz_le, nz_ge, nz_00, nz_10, nz_n1, nI_add, pk_mul, pk_sub, nI_shl1, nI_or, nI_half2, nI_min2, la_put_eq, la_up, lr_same, lr_ne, lu_same, lu_ne, not_true_eq_false, not_false_eq_true])
        refine ⟨(i, sp_lives L d, _), ⟨rfl, rfl, la_put_at _ _ _, hwd, by omega⟩, fun v h' hq => ?_⟩
        obtain ⟨rfl, rfl⟩ := hq
        conv => whnf
        repeat' (first
          | (refine ⟨fun c => ?_, fun c => ?_⟩ <;> (try simp (disch := omega) only [nI_leI, nI_ltI, nI_eq, nz_eq, nz_lt, nz_gt, nz_le, nz_ge, nz_00, nz_10, nz_n1, nI_add, pk_mul, pk_sub, nI_shl1, nI_or, nI_half2, nI_min2, la_put_eq, la_up, lr_same, lr_ne, lu_same, lu_ne, not_true_eq_false, not_false_eq_true, la_put2] at c) <;> first | (exfalso; omega) | conv => whnf)
          | (refine ⟨_, rfl, by omega, ?_⟩; conv => whnf)
          | (refine ⟨_, rfl, rfl, rfl, by decide, by decide, ?_⟩; conv => whnf)
          | (refine ⟨_, by (simp (disch := omega) only [nI_leI, nI_ltI, nI_eq, nz_eq, nz_lt, nz_gt, nz_le, nz_ge, nz_00, nz_10, nz_n1, nI_add, pk_mul, pk_sub, nI_shl1, nI_or, nI_half2, nI_min2, la_put_eq, la_up, lr_same, lr_ne, lu_same, lu_ne, not_true_eq_false, not_false_eq_true, la_put2]; rfl), by omega, ?_⟩; conv => whnf)
          | (refine And.intro (by first | assumption | decide) ?_; conv => whnf))
        all_goals (try simp (disch := omega) only [nI_leI, nI_ltI, nI_eq, nz_eq, nz_lt, nz_gt, nz_le, nz_ge, nz_00, nz_10, nz_n1, nI_add, pk_mul, pk_sub, nI_shl1, nI_or, nI_half2, nI_min2, la_put_eq, la_up, lr_same, lr_ne, lu_same, lu_ne, not_true_eq_false, not_false_eq_true, la_put2])
        refine ih (d + 1) _ (by omega) rfl (fun x hx => ?_)
        rcases Nat.lt_or_ge x d with q | q
        · exact ha x q
        · have : x = d := by omega
          subst this
          exact hfb
      · conv => whnf
        repeat' (first
          | (refine ⟨fun c => ?_, fun c => ?_⟩ <;> (try simp (disch := omega) only [nI_leI, nI_ltI, nI_eq, nz_eq, nz_lt, nz_gt, nz_le, nz_ge, nz_00, nz_10, nz_n1, nI_add, pk_mul, pk_sub, nI_shl1, nI_or, nI_half2, nI_min2, la_put_eq, la_up, lr_same, lr_ne, lu_same, lu_ne, not_true_eq_false, not_false_eq_true] at c) <;> first | (exfalso; omega) | conv => whnf)
          | (refine ⟨_, rfl, by omega, ?_⟩; conv => whnf)
          | (refine ⟨_, rfl, rfl, rfl, by decide, by decide, ?_⟩; conv => whnf)
          | (refine ⟨_, by (simp (disch := omega) only [nI_leI, nI_ltI, nI_eq, nz_eq, nz_lt, nz_gt, nz_le, nz_ge, nz_00, nz_10, nz_n1, nI_add, pk_mul, pk_sub, nI_shl1, nI_or, nI_half2, nI_min2, la_put_eq, la_up, lr_same, lr_ne, lu_same, lu_ne, not_true_eq_false, not_false_eq_true]; rfl), by omega, ?_⟩; conv => whnf)
          | (refine And.intro (by first | assumption | decide) ?_; conv => whnf))
        all_goals (try simp (disch := omega) only [nI_leI, nI_ltI, nI_eq, nz_eq, nz_lt, nz_gt, nz_le, nz_ge, nz_00, nz_10, nz_n1, nI_add, pk_mul, pk_sub, nI_shl1, nI_or, nI_half2, nI_min2, la_put_eq, la_up, lr_same, lr_ne, lu_same, lu_ne, not_true_eq_false, not_false_eq_true])
        exact hret _ _ ⟨⟨_, hwd, rfl⟩, Or.inr ⟨fun q => hfb (q d (by omega)), rfl⟩⟩
  refine hK [(7, [0, 1, 2, 3])] 20 _ _ ?_
  conv => whnf
  repeat' (first
    | (refine ⟨fun c => ?_, fun c => ?_⟩ <;> (try simp (disch := omega) only [nI_leI, nI_ltI, nI_eq, nz_eq, nz_lt, nz_gt, nz_le, nz_ge, nz_00, nz_10, nz_n1, nI_add, pk_mul, pk_sub, nI_shl1, nI_or, nI_half2, nI_min2, la_put_eq, la_up, lr_same, lr_ne, lu_same, lu_ne, not_true_eq_false, not_false_eq_true] at c) <;> first | (exfalso; omega) | conv => whnf)
    | (refine ⟨_, rfl, by omega, ?_⟩; conv => whnf)
    | (refine ⟨_, rfl, rfl, rfl, by decide, by decide, ?_⟩; conv => whnf)
    | (refine ⟨_, by (simp (disch := omega) only [nI_leI, nI_ltI, nI_eq, nz_eq, nz_lt, nz_gt, nz_le, nz_ge, nz_00, nz_10, nz_n1, nI_add, pk_mul, pk_sub, nI_shl1, nI_or, nI_half2, nI_min2, la_put_eq, la_up, lr_same, lr_ne, lu_same, lu_ne, not_true_eq_false, not_false_eq_true]; rfl), by omega, ?_⟩; conv => whnf)
    | (refine And.intro (by first | assumption | decide) ?_; conv => whnf))
  all_goals (try simp (disch := omega) only [nI_leI, nI_ltI, nI_eq, nz_eq, nz_lt, nz_gt, nz_le, nz_ge, nz_00, nz_10, nz_n1, nI_add, pk_mul, pk_sub, nI_shl1, nI_or, nI_half2, nI_min2, la_put_eq, la_up, lr_same, lr_ne, lu_same, lu_ne, not_true_eq_false, not_false_eq_true])
  refine ⟨(m, S, h), ⟨rfl, rfl, hS, hSo⟩, fun v h' hq => ?_⟩
  obtain ⟨rfl, rfl⟩ := hq
  conv => whnf
  repeat' (first
    | (refine ⟨fun c => ?_, fun c => ?_⟩ <;> (try simp (disch := omega) only [nI_leI, nI_ltI, nI_eq, nz_eq, nz_lt, nz_gt, nz_le, nz_ge, nz_00, nz_10, nz_n1, nI_add, pk_mul, pk_sub, nI_shl1, nI_or, nI_half2, nI_min2, la_put_eq, la_up, lr_same, lr_ne, lu_same, lu_ne, not_true_eq_false, not_false_eq_true] at c) <;> first | (exfalso; omega) | conv => whnf)
    | (refine ⟨_, rfl, by omega, ?_⟩; conv => whnf)
    | (refine ⟨_, rfl, rfl, rfl, by decide, by decide, ?_⟩; conv => whnf)
    | (refine ⟨_, by (simp (disch := omega) only [nI_leI, nI_ltI, nI_eq, nz_eq, nz_lt, nz_gt, nz_le, nz_ge, nz_00, nz_10, nz_n1, nI_add, pk_mul, pk_sub, nI_shl1, nI_or, nI_half2, nI_min2, la_put_eq, la_up, lr_same, lr_ne, lu_same, lu_ne, not_true_eq_false, not_false_eq_true]; rfl), by omega, ?_⟩; conv => whnf)
    | (refine And.intro (by first | assumption | decide) ?_; conv => whnf))
  all_goals (try simp (disch := omega) only [nI_leI, nI_ltI, nI_eq, nz_eq, nz_lt, nz_gt, nz_le, nz_ge, nz_00, nz_10, nz_n1, nI_add, pk_mul, pk_sub, nI_shl1, nI_or, nI_half2, nI_min2, la_put_eq, la_up, lr_same, lr_ne, lu_same, lu_ne, not_true_eq_false, not_false_eq_true])
  exact loop (sp_mx (S 0) m + 1) 0 _ (by omega) (la_self hL).symm (fun x hx => by omega)
theorem M_X2_fits : pm_MT yX2_fits cX2_fits 4 3 3 P_X2_fits (pm_pi Q_X2_fits) := pm_met k_X2_fits (by decide) rfl (by
  rintro ⟨g0, g1, g2, g3, g4⟩ av h hp
  rw [hp.1]
  exact Nat.le_of_ble_eq_true rfl) pf_X2_fits
theorem rc_X2_fits : ∀ g av h, P_X2_fits g av h → ∃ i t, av = .inr (.inr (2, i, 0)) :: t := by
  rintro ⟨g0, g1, g2, g3, g4⟩ av h hp
  exact ⟨_, _, hp.1⟩
def se_put (h : pm_H) (m : Nat) (n f s b : Int32) : pm_H := pm_up (pm_up (pm_up (pm_up (pm_up h 2 0 1 m n) 2 0 2 m f) 2 0 3 m s) 2 0 4 m b) 2 0 0 0 (nI (m + 1))
def P_X2_add : Int32 × Int32 × Int32 × Int32 × Nat × pm_H → List pm_V → pm_H → Prop := fun g av h => match g with
  | (n, f, s, b, m, h0) => av = [vR 2 0 0, vI n, vI f, vI s, vI b] ∧ h = h0 ∧ h0 2 0 0 0 = nI m ∧ m ≤ 6 ∧ (b = 0 ∨ b = 1)
def Q_X2_add : Int32 × Int32 × Int32 × Int32 × Nat × pm_H → Int32 → pm_H → Prop := fun g r h => match g with
  | (n, f, s, b, m, h0) => (m < 6 ∧ r = nI 1 ∧ h = se_put h0 m n f s b) ∨ (6 ≤ m ∧ r = nI 0 ∧ h = h0)
def T_X2_add : List (Nat × pm_T) := [
  (0, i_al 0 1),
  (1, i_gi 2 0 4),
  (4, i_c (nI 6) 6),
  (6, i_iclt 11 9),
  (9, i_c (nI 0) 10),
  (10, i_zr),
  (11, i_al 0 12),
  (12, i_gr 2 (fun i => (2, i, 1)) 15),
  (15, i_al 0 16),
  (16, i_gi 2 0 19),
  (19, i_il 1 20),
  (20, i_ias 21),
  (21, i_al 0 22),
  (22, i_gr 2 (fun i => (2, i, 2)) 25),
  (25, i_al 0 26),
  (26, i_gi 2 0 29),
  (29, i_il 2 30),
  (30, i_ias 31),
  (31, i_al 0 32),
  (32, i_gr 2 (fun i => (2, i, 3)) 35),
  (35, i_al 0 36),
  (36, i_gi 2 0 39),
  (39, i_il 3 40),
  (40, i_ias 41),
  (41, i_al 0 42),
  (42, i_gr 2 (fun i => (2, i, 4)) 45),
  (45, i_al 0 46),
  (46, i_gi 2 0 49),
  (49, i_il 4 51),
  (51, i_zas 52),
  (52, i_al 0 53),
  (53, i_dup 54),
  (54, i_gi 2 0 57),
  (57, i_c (nI 1) 58),
  (58, i_iadd 59),
  (59, i_pi 2 0 62),
  (62, i_c (nI 1) 63),
  (63, i_zr)]
theorem k_X2_add : ∀ q ∈ T_X2_add, pm_sd RX2 cX2_add 5 1 3 q.1 q.2 := by
  unfold T_X2_add
  refine pm_cn (sd_aln (k := 0) (by decide +kernel) rfl rfl) ?_
  refine pm_cn (sd_gi cl2_ in2_ (by decide) (fun _ => rfl) fl_X2_25 (by decide +kernel) rfl) ?_
  refine pm_cn (sd_bipush (z := 6) (by decide +kernel) (by decide +kernel) rfl) ?_
  refine pm_cn (sd_iclt (off := 5) (by decide +kernel) (by decide) rfl) ?_
  refine pm_cn (sd_iconst (z := 0) (by decide +kernel) (by decide +kernel) rfl) ?_
  refine pm_cn (sd_zr (by decide +kernel)) ?_
  refine pm_cn (sd_aln (k := 0) (by decide +kernel) rfl rfl) ?_
  refine pm_cn (sd_gr cl2_ in2_ (j := 1) (by decide) (fun _ => rfl) fl_X2_9 (by decide +kernel) rfl) ?_
  refine pm_cn (sd_aln (k := 0) (by decide +kernel) rfl rfl) ?_
  refine pm_cn (sd_gi cl2_ in2_ (by decide) (fun _ => rfl) fl_X2_25 (by decide +kernel) rfl) ?_
  refine pm_cn (sd_iln (k := 1) (by decide +kernel) rfl rfl) ?_
  refine pm_cn (sd_ias (by decide +kernel) rfl) ?_
  refine pm_cn (sd_aln (k := 0) (by decide +kernel) rfl rfl) ?_
  refine pm_cn (sd_gr cl2_ in2_ (j := 2) (by decide) (fun _ => rfl) fl_X2_15 (by decide +kernel) rfl) ?_
  refine pm_cn (sd_aln (k := 0) (by decide +kernel) rfl rfl) ?_
  refine pm_cn (sd_gi cl2_ in2_ (by decide) (fun _ => rfl) fl_X2_25 (by decide +kernel) rfl) ?_
  refine pm_cn (sd_iln (k := 2) (by decide +kernel) rfl rfl) ?_
  refine pm_cn (sd_ias (by decide +kernel) rfl) ?_
  refine pm_cn (sd_aln (k := 0) (by decide +kernel) rfl rfl) ?_
  refine pm_cn (sd_gr cl2_ in2_ (j := 3) (by decide) (fun _ => rfl) fl_X2_18 (by decide +kernel) rfl) ?_
  refine pm_cn (sd_aln (k := 0) (by decide +kernel) rfl rfl) ?_
  refine pm_cn (sd_gi cl2_ in2_ (by decide) (fun _ => rfl) fl_X2_25 (by decide +kernel) rfl) ?_
  refine pm_cn (sd_iln (k := 3) (by decide +kernel) rfl rfl) ?_
  refine pm_cn (sd_ias (by decide +kernel) rfl) ?_
  refine pm_cn (sd_aln (k := 0) (by decide +kernel) rfl rfl) ?_
  refine pm_cn (sd_gr cl2_ in2_ (j := 4) (by decide) (fun _ => rfl) fl_X2_21 (by decide +kernel) rfl) ?_
  refine pm_cn (sd_aln (k := 0) (by decide +kernel) rfl rfl) ?_
  refine pm_cn (sd_gi cl2_ in2_ (by decide) (fun _ => rfl) fl_X2_25 (by decide +kernel) rfl) ?_
  refine pm_cn (sd_il (by decide +kernel) rfl) ?_
  refine pm_cn (sd_zas (by decide +kernel) rfl) ?_
  refine pm_cn (sd_aln (k := 0) (by decide +kernel) rfl rfl) ?_
  refine pm_cn (sd_dup (by decide +kernel) rfl) ?_
  refine pm_cn (sd_gi cl2_ in2_ (by decide) (fun _ => rfl) fl_X2_25 (by decide +kernel) rfl) ?_
  refine pm_cn (sd_iconst (z := 1) (by decide +kernel) (by decide +kernel) rfl) ?_
  refine pm_cn (sd_iadd (by decide +kernel) rfl) ?_
  refine pm_cn (sd_pi cl2_ in2_ tyX2 tyX2_ok nmX2 (by decide) (fun _ => rfl) rfl rfl fl_X2_25 (by decide +kernel) rfl) ?_
  refine pm_cn (sd_iconst (z := 1) (by decide +kernel) (by decide +kernel) rfl) ?_
  refine pm_cn (sd_zr (by decide +kernel)) ?_
  exact fun _ h => absurd h List.not_mem_nil
theorem pm_up_ne {h : pm_H} {c i s j c' i' s' j' : Nat} {v : Int32} (hn : ¬ (c' = c ∧ i' = i ∧ s' = s ∧ j' = j)) : pm_up h c i s j v c' i' s' j' = h c' i' s' j' := by simp [pm_up, hn]
theorem pm_up_eq {h : pm_H} {c i s j : Nat} {v : Int32} : pm_up h c i s j v c i s j = v := by simp [pm_up]
set_option maxHeartbeats 4000000 in
set_option maxRecDepth 100000 in
theorem pf_X2_add : pm_pf T_X2_add P_X2_add (pm_pi Q_X2_add) := by
  rintro ⟨n, f, s, b, m, h0⟩ av h K hK ⟨rfl, rfl, e0, hm, hb⟩ hret
  show K (some 0) ([(0, vR 2 0 0), (1, vI n), (2, vI f), (3, vI s), (4, vI b)], [], h)
  refine hK [] 60 _ _ ?_
  conv => whnf
  repeat' (first
    | (refine ⟨fun c => ?_, fun c => ?_⟩ <;> (try simp (disch := omega) only [nI_leI, nI_ltI, nI_eq, nz_eq, nz_lt, nz_gt, nz_le, nz_ge, nz_00, nz_10, nz_n1, nI_add, pk_mul, pk_sub, nI_shl1, nI_or, nI_half2, nI_min2, la_put_eq, la_up, lr_same, lr_ne, lu_same, lu_ne, not_true_eq_false, not_false_eq_true, e0, pm_up_ne] at c) <;> first | (exfalso; omega) | conv => whnf)
    | (refine ⟨_, rfl, by omega, ?_⟩; conv => whnf)
    | (refine ⟨_, rfl, rfl, rfl, by decide, by decide, ?_⟩; conv => whnf)
    | (refine ⟨_, by (simp (disch := omega) only [nI_leI, nI_ltI, nI_eq, nz_eq, nz_lt, nz_gt, nz_le, nz_ge, nz_00, nz_10, nz_n1, nI_add, pk_mul, pk_sub, nI_shl1, nI_or, nI_half2, nI_min2, la_put_eq, la_up, lr_same, lr_ne, lu_same, lu_ne, not_true_eq_false, not_false_eq_true, e0, pm_up_ne]; rfl), by omega, ?_⟩; conv => whnf)
    | (refine And.intro (by first | assumption | decide) ?_; conv => whnf))
  all_goals (try simp (disch := omega) only [nI_leI, nI_ltI, nI_eq, nz_eq, nz_lt, nz_gt, nz_le, nz_ge, nz_00, nz_10, nz_n1, nI_add, pk_mul, pk_sub, nI_shl1, nI_or, nI_half2, nI_min2, la_put_eq, la_up, lr_same, lr_ne, lu_same, lu_ne, not_true_eq_false, not_false_eq_true, e0, pm_up_ne])
  · refine hret _ _ ?_
    exact Or.inl ⟨by omega, rfl, rfl⟩
  · refine hret _ _ ?_
    exact Or.inr ⟨by omega, rfl, rfl⟩
theorem M_X2_add : pm_MT yX2_add cX2_add 5 3 1 P_X2_add (pm_pi Q_X2_add) := pm_met k_X2_add (by decide) rfl (by
  rintro ⟨g0, g1, g2, g3, g4, g5⟩ av h hp
  rw [hp.1]
  exact Nat.le_of_ble_eq_true rfl) pf_X2_add
theorem rc_X2_add : ∀ g av h, P_X2_add g av h → ∃ i t, av = .inr (.inr (2, i, 0)) :: t := by
  rintro ⟨g0, g1, g2, g3, g4, g5⟩ av h hp
  exact ⟨_, _, hp.1⟩
