/-! BiscuitLore: tallies, and the damp days. -/
theorem nI_shr {k f : Nat} (hk : k < 2 ^ 31) (hf : f < 31) : nI k >>> (nI f &&& 31) = nI (k / 2 ^ f) := by
  have h : ∀ f : Fin 31, ((nI f.val &&& 31).toBitVec.smod 32).toNat = f.val := by decide +kernel
  exact pk_shrN hk _ f (h ⟨f, hf⟩)
theorem nI_and1 {a : Nat} (h : a < 2 ^ 32) : nI a &&& nI 1 = nI (a % 2) := pk_andN h 1 (by decide +kernel)
theorem ua_eq {H : pm_H} {c i s j : Nat} {F : Nat → Int32} : pm_ua H c i s F c i s j = F j := by simp [pm_ua]
theorem ua_ne {H : pm_H} {c i s c' i' s' j : Nat} {F : Nat → Int32} (h : ¬ (c' = c ∧ i' = i ∧ s' = s)) : pm_ua H c i s F c' i' s' j = H c' i' s' j := by simp [pm_ua, h]
theorem ua_up {H : pm_H} {c i s j : Nat} {F : Nat → Int32} {v : Int32} : pm_up (pm_ua H c i s F) c i s j v = pm_ua H c i s (upd F j v) := by
  rw [pm_up_ua, pm_ua_self]
  funext c' i' s' j'
  unfold pm_ua
  by_cases h : c' = c ∧ i' = i ∧ s' = s <;> simp [h]
theorem ua_self {H : pm_H} {c i s : Nat} : pm_ua H c i s (H c i s) = H := by
  funext c' i' s' j'
  unfold pm_ua
  by_cases h : c' = c ∧ i' = i ∧ s' = s
  · obtain ⟨rfl, rfl, rfl⟩ := h; simp
  · simp [h]
theorem ua_ua {H : pm_H} {c i s : Nat} {F G : Nat → Int32} : pm_ua (pm_ua H c i s F) c i s G = pm_ua H c i s G := by
  funext c' i' s' j'
  unfold pm_ua
  by_cases h : c' = c ∧ i' = i ∧ s' = s <;> simp [h]
theorem la_at_ua {H : pm_H} {c i s k : Nat} {F : Nat → Int32} {L : LD} (hL : la_at H k L) (hc : c ≠ 0) : la_at (pm_ua H c i s F) k L := fun s' j => by rw [ua_ne (by omega), hL]
theorem la_put_ua {H : pm_H} {c i s k : Nat} {F : Nat → Int32} {L : LD} (hc : c ≠ 0) : la_put (pm_ua H c i s F) k L = pm_ua (la_put H k L) c i s F := by
  funext c' i' s' j'
  unfold la_put pm_ua
  by_cases h : c' = 0 ∧ i' = k
  · obtain ⟨rfl, rfl⟩ := h
    simp [Ne.symm hc]
  · by_cases h2 : c' = c ∧ i' = i ∧ s' = s
    · obtain ⟨rfl, rfl, rfl⟩ := h2
      simp [h]
    · simp [h, h2]
theorem upd_eq {F : Nat → Int32} {j : Nat} {v : Int32} : upd F j v j = v := by simp [upd]
theorem upd_ne {F : Nat → Int32} {j k : Nat} {v : Int32} (h : k ≠ j) : upd F j v k = F k := by simp [upd, h]
def sp_kb (L : LD) (s j : Nat) : Nat := sp_knowers (sp_lives L (j / 4)) s / 2 ^ (j % 4) % 2
def P_X4_tallyDays : Nat × LD × (Nat → Nat) × pm_H → List pm_V → pm_H → Prop := fun g av h => match g with
  | (s, L, G, h0) => av = [vR 4 0 0, vI (nI s)] ∧ h = h0 ∧ la_at h0 1 L ∧ la_ok L ∧ s ≤ 9 ∧ L 0 10 ≤ 4000 ∧ ∀ j, j < 124 → h0 4 0 5 j = nI (G j)
def Q_X4_tallyDays : Nat × LD × (Nat → Nat) × pm_H → pm_H → Prop := fun g h => match g with
  | (s, L, G, h0) => ∃ T F, la_ok T ∧ h = pm_ua (la_put h0 1 T) 4 0 5 F ∧ ∀ j, j < 124 → F j = nI (G j + sp_kb L s j)
def T_X4_tallyDays : List (Nat × pm_T) := [
  (0, i_c (nI 0) 1),
  (1, i_is 2 2),
  (2, i_il 2 3),
  (3, i_c (nI 30) 5),
  (5, i_icgt 66 8),
  (8, i_al 0 9),
  (9, i_gr 4 (fun _ => (0, 1, 0)) 12),
  (12, i_il 1 13),
  (13, i_ci 2 P_X0_knowersOf Q_X0_knowersOf 16),
  (16, i_is 3 17),
  (17, i_c (nI 0) 18),
  (18, i_is 4 20),
  (20, i_il 4 22),
  (22, i_c (nI 4) 23),
  (23, i_icge 52 26),
  (26, i_al 0 27),
  (27, i_gr 4 (fun _ => (4, 0, 5)) 30),
  (30, i_il 2 31),
  (31, i_c (nI 4) 32),
  (32, i_imul 33),
  (33, i_il 4 35),
  (35, i_iadd 36),
  (36, i_dup2 37),
  (37, i_ia 38),
  (38, i_il 3 39),
  (39, i_il 4 41),
  (41, i_ishr 42),
  (42, i_c (nI 1) 43),
  (43, i_iand 44),
  (44, i_iadd 45),
  (45, i_ias 46),
  (46, i_inc 4 (nI 1) 49),
  (49, i_go 20),
  (52, i_al 0 53),
  (53, i_gr 4 (fun _ => (0, 1, 0)) 56),
  (56, i_ci 1 P_X0_live Q_X0_live 59),
  (59, i_pop 60),
  (60, i_inc 2 (nI 1) 63),
  (63, i_go 2),
  (66, i_vr)]
theorem k_X4_tallyDays : ∀ q ∈ T_X4_tallyDays, pm_sd RX4 cX4_tallyDays 5 3 0 q.1 q.2 := by
  unfold T_X4_tallyDays
  refine pm_cn (sd_iconst (z := 0) (by decide +kernel) (by decide +kernel) rfl) ?_
  refine pm_cn (sd_isn (k := 2) (by decide +kernel) rfl rfl (by decide)) ?_
  refine pm_cn (sd_iln (k := 2) (by decide +kernel) rfl rfl) ?_
  refine pm_cn (sd_bipush (z := 30) (by decide +kernel) (by decide +kernel) rfl) ?_
  refine pm_cn (sd_icgt (off := 61) (by decide +kernel) (by decide) rfl) ?_
  refine pm_cn (sd_aln (k := 0) (by decide +kernel) rfl rfl) ?_
  refine pm_cn (sd_gr cl4_ in4_ (j := 2) (by decide) (fun _ => rfl) fl_X4_23 (by decide +kernel) rfl) ?_
  refine pm_cn (sd_iln (k := 1) (by decide +kernel) rfl rfl) ?_
  refine pm_cn (sd_civ M_X0_knowersOf (by decide) cd_X0_knowersOf rc_X0_knowersOf cl0_ ml_X4_161 im_X0_knowersOf se_X0_knowersOf nt_X0 (by decide +kernel) (by omega) (by decide) (by decide +kernel) rfl) ?_
  refine pm_cn (sd_isn (k := 3) (by decide +kernel) rfl rfl (by decide)) ?_
  refine pm_cn (sd_iconst (z := 0) (by decide +kernel) (by decide +kernel) rfl) ?_
  refine pm_cn (sd_is (by decide +kernel) rfl (by decide)) ?_
  refine pm_cn (sd_il (by decide +kernel) rfl) ?_
  refine pm_cn (sd_iconst (z := 4) (by decide +kernel) (by decide +kernel) rfl) ?_
  refine pm_cn (sd_icge (off := 29) (by decide +kernel) (by decide) rfl) ?_
  refine pm_cn (sd_aln (k := 0) (by decide +kernel) rfl rfl) ?_
  refine pm_cn (sd_gr cl4_ in4_ (j := 8) (by decide) (fun _ => rfl) fl_X4_52 (by decide +kernel) rfl) ?_
  refine pm_cn (sd_iln (k := 2) (by decide +kernel) rfl rfl) ?_
  refine pm_cn (sd_iconst (z := 4) (by decide +kernel) (by decide +kernel) rfl) ?_
  refine pm_cn (sd_imul (by decide +kernel) rfl) ?_
  refine pm_cn (sd_il (by decide +kernel) rfl) ?_
  refine pm_cn (sd_iadd (by decide +kernel) rfl) ?_
  refine pm_cn (sd_dup2 (by decide +kernel) rfl) ?_
  refine pm_cn (sd_ia (by decide +kernel) rfl) ?_
  refine pm_cn (sd_iln (k := 3) (by decide +kernel) rfl rfl) ?_
  refine pm_cn (sd_il (by decide +kernel) rfl) ?_
  refine pm_cn (sd_ishr (by decide +kernel) rfl) ?_
  refine pm_cn (sd_iconst (z := 1) (by decide +kernel) (by decide +kernel) rfl) ?_
  refine pm_cn (sd_iand (by decide +kernel) rfl) ?_
  refine pm_cn (sd_iadd (by decide +kernel) rfl) ?_
  refine pm_cn (sd_ias (by decide +kernel) rfl) ?_
  refine pm_cn (sd_inc (z := 1) (by decide +kernel) (by decide +kernel) rfl (by decide)) ?_
  refine pm_cn (sd_go (off := -29) (by decide +kernel) (by decide)) ?_
  refine pm_cn (sd_aln (k := 0) (by decide +kernel) rfl rfl) ?_
  refine pm_cn (sd_gr cl4_ in4_ (j := 2) (by decide) (fun _ => rfl) fl_X4_23 (by decide +kernel) rfl) ?_
  refine pm_cn (sd_civ M_X0_live (by decide) cd_X0_live rc_X0_live cl0_ ml_X4_176 im_X0_live se_X0_live nt_X0 (by decide +kernel) (by omega) (by decide) (by decide +kernel) rfl) ?_
  refine pm_cn (sd_pop (by decide +kernel) rfl) ?_
  refine pm_cn (sd_inc (z := 1) (by decide +kernel) (by decide +kernel) rfl (by decide)) ?_
  refine pm_cn (sd_go (off := -61) (by decide +kernel) (by decide)) ?_
  refine pm_cn (sd_vr (by decide +kernel)) ?_
  exact fun _ h => absurd h List.not_mem_nil
set_option maxHeartbeats 4000000 in
set_option maxRecDepth 100000 in
theorem pf_X4_tallyDays : pm_pf T_X4_tallyDays P_X4_tallyDays (pm_pv Q_X4_tallyDays) := by
  rintro ⟨s, L, G, h0⟩ av h K hK ⟨rfl, rfl, hL, hw, hs, hd, hG⟩ hret
  show K (some 0) ([(0, vR 4 0 0), (1, vI (nI s))], [], h)
  have outer : ∀ n d F, d + n = 31 → (∀ j, j < 124 → F j = nI (G j + if j < 4 * d then sp_kb L s j else 0)) → K (some 2) ([(0, vR 4 0 0), (1, vI (nI s)), (2, vI (nI d))], [], pm_ua (la_put h 1 (sp_lives L d)) 4 0 5 F) := by
    intro n
    induction n with
    | zero =>
      intro d F hk hF
      refine hK [(2, [0, 1, 2])] 40 _ _ ?_
      conv => whnf
      repeat' (first
        | (refine ⟨fun c9 => ?_, fun c9 => ?_⟩ <;> (try simp (disch := omega) only [nI_leI, nI_ltI, nI_eq, nz_eq, nz_lt, nz_gt, nz_le, nz_ge, nz_00, nz_n1, nI_add, pk_mul, pk_sub, nI_shl1, nI_or, nI_half2, nI_min2, la_put_eq, la_up, lr_same, lr_ne, lu_same, lu_ne, not_true_eq_false, not_false_eq_true] at c9) <;> first | (exfalso; omega) | conv => whnf)
        | (refine ⟨_, rfl, by omega, ?_⟩; conv => whnf)
        | (refine ⟨_, rfl, rfl, rfl, by decide, by decide, ?_⟩; conv => whnf)
        | (refine ⟨_, by (simp (disch := omega) only [nI_leI, nI_ltI, nI_eq, nz_eq, nz_lt, nz_gt, nz_le, nz_ge, nz_00, nz_n1, nI_add, pk_mul, pk_sub, nI_shl1, nI_or, nI_half2, nI_min2, la_put_eq, la_up, lr_same, lr_ne, lu_same, lu_ne, not_true_eq_false, not_false_eq_true]; rfl), by omega, ?_⟩; conv => whnf)
        | (refine And.intro (by first | assumption | decide) ?_; conv => whnf))
      all_goals (try simp (disch := omega) only [nI_leI, nI_ltI, nI_eq, nz_eq, nz_lt, nz_gt, nz_le, nz_ge, nz_00, nz_n1, nI_add, pk_mul, pk_sub, nI_shl1, nI_or, nI_half2, nI_min2, la_put_eq, la_up, lr_same, lr_ne, lu_same, lu_ne, not_true_eq_false, not_false_eq_true])
      refine hret _ _ ⟨_, F, la_ok_lives hw d (by omega), rfl, fun j hj => ?_⟩
      rw [hF j hj, if_pos (by omega)]
    | succ n ih =>
      intro d F hk hF
      have hwd := la_ok_lives hw d (by omega)
      have hdd := sp_lives_day L d
      have hkl := sp_knowers_lt hwd s
      refine hK [(2, [0, 1, 2]), (20, [0, 1, 2, 3, 4])] 40 _ _ ?_
      conv => whnf
      repeat' (first
        | (refine ⟨fun c9 => ?_, fun c9 => ?_⟩ <;> (try simp (disch := omega) only [nI_leI, nI_ltI, nI_eq, nz_eq, nz_lt, nz_gt, nz_le, nz_ge, nz_00, nz_n1, nI_add, pk_mul, pk_sub, nI_shl1, nI_or, nI_half2, nI_min2, la_put_eq, la_up, lr_same, lr_ne, lu_same, lu_ne, not_true_eq_false, not_false_eq_true] at c9) <;> first | (exfalso; omega) | conv => whnf)
        | (refine ⟨_, rfl, by omega, ?_⟩; conv => whnf)
        | (refine ⟨_, rfl, rfl, rfl, by decide, by decide, ?_⟩; conv => whnf)
        | (refine ⟨_, by (simp (disch := omega) only [nI_leI, nI_ltI, nI_eq, nz_eq, nz_lt, nz_gt, nz_le, nz_ge, nz_00, nz_n1, nI_add, pk_mul, pk_sub, nI_shl1, nI_or, nI_half2, nI_min2, la_put_eq, la_up, lr_same, lr_ne, lu_same, lu_ne, not_true_eq_false, not_false_eq_true]; rfl), by omega, ?_⟩; conv => whnf)
        | (refine And.intro (by first | assumption | decide) ?_; conv => whnf))
      all_goals (try simp (disch := omega) only [nI_leI, nI_ltI, nI_eq, nz_eq, nz_lt, nz_gt, nz_le, nz_ge, nz_00, nz_n1, nI_add, pk_mul, pk_sub, nI_shl1, nI_or, nI_half2, nI_min2, la_put_eq, la_up, lr_same, lr_ne, lu_same, lu_ne, not_true_eq_false, not_false_eq_true])
      refine ⟨(1, s, sp_lives L d, _), ⟨rfl, rfl, la_at_ua (la_put_at _ _ _) (by decide), hwd, by omega⟩, fun v h' hq => ?_⟩
      obtain ⟨rfl, rfl⟩ := hq
      have inner : ∀ n f F, f + n = 4 → (∀ j, j < 124 → F j = nI (G j + if j < 4 * d + f then sp_kb L s j else 0)) → K (some 20) ([(0, vR 4 0 0), (1, vI (nI s)), (2, vI (nI d)), (3, vI (nI (sp_knowers (sp_lives L d) s))), (4, vI (nI f))], [], pm_ua (la_put h 1 (sp_lives L d)) 4 0 5 F) := by
        intro n
        induction n with
        | zero =>
          intro f F hk hF
          refine hK [(2, [0, 1, 2]), (20, [0, 1, 2, 3, 4])] 40 _ _ ?_
          conv => whnf
          repeat' (first
            | (refine ⟨fun c9 => ?_, fun c9 => ?_⟩ <;> (try simp (disch := omega) only [nI_leI, nI_ltI, nI_eq, nz_eq, nz_lt, nz_gt, nz_le, nz_ge, nz_00, nz_n1, nI_add, pk_mul, pk_sub, nI_shl1, nI_or, nI_half2, nI_min2, la_put_eq, la_up, lr_same, lr_ne, lu_same, lu_ne, not_true_eq_false, not_false_eq_true] at c9) <;> first | (exfalso; omega) | conv => whnf)
            | (refine ⟨_, rfl, by omega, ?_⟩; conv => whnf)
            | (refine ⟨_, rfl, rfl, rfl, by decide, by decide, ?_⟩; conv => whnf)
            | (refine ⟨_, by (simp (disch := omega) only [nI_leI, nI_ltI, nI_eq, nz_eq, nz_lt, nz_gt, nz_le, nz_ge, nz_00, nz_n1, nI_add, pk_mul, pk_sub, nI_shl1, nI_or, nI_half2, nI_min2, la_put_eq, la_up, lr_same, lr_ne, lu_same, lu_ne, not_true_eq_false, not_false_eq_true]; rfl), by omega, ?_⟩; conv => whnf)
            | (refine And.intro (by first | assumption | decide) ?_; conv => whnf))
          all_goals (try simp (disch := omega) only [nI_leI, nI_ltI, nI_eq, nz_eq, nz_lt, nz_gt, nz_le, nz_ge, nz_00, nz_n1, nI_add, pk_mul, pk_sub, nI_shl1, nI_or, nI_half2, nI_min2, la_put_eq, la_up, lr_same, lr_ne, lu_same, lu_ne, not_true_eq_false, not_false_eq_true])
          refine ⟨(1, sp_lives L d, _), ⟨rfl, rfl, la_at_ua (la_put_at _ _ _) (by decide), hwd, by omega⟩, fun v h' hq => ?_⟩
          obtain ⟨rfl, rfl⟩ := hq
          rw [la_put_ua (by decide), la_put2]
          conv => whnf
          repeat' (first
            | (refine ⟨fun c9 => ?_, fun c9 => ?_⟩ <;> (try simp (disch := omega) only [nI_leI, nI_ltI, nI_eq, nz_eq, nz_lt, nz_gt, nz_le, nz_ge, nz_00, nz_n1, nI_add, pk_mul, pk_sub, nI_shl1, nI_or, nI_half2, nI_min2, la_put_eq, la_up, lr_same, lr_ne, lu_same, lu_ne, not_true_eq_false, not_false_eq_true] at c9) <;> first | (exfalso; omega) | conv => whnf)
            | (refine ⟨_, rfl, by omega, ?_⟩; conv => whnf)
            | (refine ⟨_, rfl, rfl, rfl, by decide, by decide, ?_⟩; conv => whnf)
            | (refine ⟨_, by (simp (disch := omega) only [nI_leI, nI_ltI, nI_eq, nz_eq, nz_lt, nz_gt, nz_le, nz_ge, nz_00, nz_n1, nI_add, pk_mul, pk_sub, nI_shl1, nI_or, nI_half2, nI_min2, la_put_eq, la_up, lr_same, lr_ne, lu_same, lu_ne, not_true_eq_false, not_false_eq_true]; rfl), by omega, ?_⟩; conv => whnf)
            | (refine And.intro (by first | assumption | decide) ?_; conv => whnf))
          all_goals (try simp (disch := omega) only [nI_leI, nI_ltI, nI_eq, nz_eq, nz_lt, nz_gt, nz_le, nz_ge, nz_00, nz_n1, nI_add, pk_mul, pk_sub, nI_shl1, nI_or, nI_half2, nI_min2, la_put_eq, la_up, lr_same, lr_ne, lu_same, lu_ne, not_true_eq_false, not_false_eq_true])
          have e9 : sp_live (sp_lives L d) = sp_lives L (d + 1) := rfl
          rw [e9]
          refine ih (d + 1) F (by omega) (fun j hj => ?_)
          rw [hF j hj, show 4 * (d + 1) = 4 * d + f by omega]
        | succ n ih2 =>
          intro f F hk hF
          have hFj := hF (d * 4 + f) (by omega)
          rw [if_neg (by omega), Nat.add_zero] at hFj
          have hdiv : sp_knowers (sp_lives L d) s / 2 ^ f ≤ sp_knowers (sp_lives L d) s := Nat.div_le_self _ _
          refine hK [(2, [0, 1, 2]), (20, [0, 1, 2, 3, 4])] 60 _ _ ?_
          conv => whnf
          repeat' (first
            | (refine ⟨fun c9 => ?_, fun c9 => ?_⟩ <;> (try simp (disch := omega) only [nI_leI, nI_ltI, nI_eq, nz_eq, nz_lt, nz_gt, nz_le, nz_ge, nz_00, nz_n1, nI_add, pk_mul, pk_sub, nI_shl1, nI_or, nI_half2, nI_min2, la_put_eq, la_up, lr_same, lr_ne, lu_same, lu_ne, not_true_eq_false, not_false_eq_true, ua_eq, hFj, nI_shr, nI_and1, ua_up] at c9) <;> first | (exfalso; omega) | conv => whnf)
            | (refine ⟨_, rfl, by omega, ?_⟩; conv => whnf)
            | (refine ⟨_, rfl, rfl, rfl, by decide, by decide, ?_⟩; conv => whnf)
            | (refine ⟨_, by (simp (disch := omega) only [nI_leI, nI_ltI, nI_eq, nz_eq, nz_lt, nz_gt, nz_le, nz_ge, nz_00, nz_n1, nI_add, pk_mul, pk_sub, nI_shl1, nI_or, nI_half2, nI_min2, la_put_eq, la_up, lr_same, lr_ne, lu_same, lu_ne, not_true_eq_false, not_false_eq_true, ua_eq, hFj, nI_shr, nI_and1, ua_up]; rfl), by omega, ?_⟩; conv => whnf)
            | (refine And.intro (by first | assumption | decide) ?_; conv => whnf))
          all_goals (try simp (disch := omega) only [nI_leI, nI_ltI, nI_eq, nz_eq, nz_lt, nz_gt, nz_le, nz_ge, nz_00, nz_n1, nI_add, pk_mul, pk_sub, nI_shl1, nI_or, nI_half2, nI_min2, la_put_eq, la_up, lr_same, lr_ne, lu_same, lu_ne, not_true_eq_false, not_false_eq_true, ua_eq, hFj, nI_shr, nI_and1, ua_up])
          refine ih2 (f + 1) _ (by omega) (fun j hj => ?_)
          by_cases hjj : j = d * 4 + f
          · subst hjj
            rw [upd_eq, if_pos (by omega)]
            have e1 : (d * 4 + f) / 4 = d := by omega
            have e2 : (d * 4 + f) % 4 = f := by omega
            rw [sp_kb, e1, e2]
          · rw [upd_ne hjj, hF j hj]
            by_cases hlt : j < 4 * d + f
            · rw [if_pos hlt, if_pos (by omega)]
            · rw [if_neg hlt, if_neg (by omega)]
      conv => whnf
      repeat' (first
        | (refine ⟨fun c9 => ?_, fun c9 => ?_⟩ <;> (try simp (disch := omega) only [nI_leI, nI_ltI, nI_eq, nz_eq, nz_lt, nz_gt, nz_le, nz_ge, nz_00, nz_n1, nI_add, pk_mul, pk_sub, nI_shl1, nI_or, nI_half2, nI_min2, la_put_eq, la_up, lr_same, lr_ne, lu_same, lu_ne, not_true_eq_false, not_false_eq_true] at c9) <;> first | (exfalso; omega) | conv => whnf)
        | (refine ⟨_, rfl, by omega, ?_⟩; conv => whnf)
        | (refine ⟨_, rfl, rfl, rfl, by decide, by decide, ?_⟩; conv => whnf)
        | (refine ⟨_, by (simp (disch := omega) only [nI_leI, nI_ltI, nI_eq, nz_eq, nz_lt, nz_gt, nz_le, nz_ge, nz_00, nz_n1, nI_add, pk_mul, pk_sub, nI_shl1, nI_or, nI_half2, nI_min2, la_put_eq, la_up, lr_same, lr_ne, lu_same, lu_ne, not_true_eq_false, not_false_eq_true]; rfl), by omega, ?_⟩; conv => whnf)
        | (refine And.intro (by first | assumption | decide) ?_; conv => whnf))
      all_goals (try simp (disch := omega) only [nI_leI, nI_ltI, nI_eq, nz_eq, nz_lt, nz_gt, nz_le, nz_ge, nz_00, nz_n1, nI_add, pk_mul, pk_sub, nI_shl1, nI_or, nI_half2, nI_min2, la_put_eq, la_up, lr_same, lr_ne, lu_same, lu_ne, not_true_eq_false, not_false_eq_true])
      exact inner 4 0 F (by omega) hF
  refine hK [(2, [0, 1, 2])] 20 _ _ ?_
  conv => whnf
  repeat' (first
    | (refine ⟨fun c9 => ?_, fun c9 => ?_⟩ <;> (try simp (disch := omega) only [nI_leI, nI_ltI, nI_eq, nz_eq, nz_lt, nz_gt, nz_le, nz_ge, nz_00, nz_n1, nI_add, pk_mul, pk_sub, nI_shl1, nI_or, nI_half2, nI_min2, la_put_eq, la_up, lr_same, lr_ne, lu_same, lu_ne, not_true_eq_false, not_false_eq_true] at c9) <;> first | (exfalso; omega) | conv => whnf)
    | (refine ⟨_, rfl, by omega, ?_⟩; conv => whnf)
    | (refine ⟨_, rfl, rfl, rfl, by decide, by decide, ?_⟩; conv => whnf)
    | (refine ⟨_, by (simp (disch := omega) only [nI_leI, nI_ltI, nI_eq, nz_eq, nz_lt, nz_gt, nz_le, nz_ge, nz_00, nz_n1, nI_add, pk_mul, pk_sub, nI_shl1, nI_or, nI_half2, nI_min2, la_put_eq, la_up, lr_same, lr_ne, lu_same, lu_ne, not_true_eq_false, not_false_eq_true]; rfl), by omega, ?_⟩; conv => whnf)
    | (refine And.intro (by first | assumption | decide) ?_; conv => whnf))
  all_goals (try simp (disch := omega) only [nI_leI, nI_ltI, nI_eq, nz_eq, nz_lt, nz_gt, nz_le, nz_ge, nz_00, nz_n1, nI_add, pk_mul, pk_sub, nI_shl1, nI_or, nI_half2, nI_min2, la_put_eq, la_up, lr_same, lr_ne, lu_same, lu_ne, not_true_eq_false, not_false_eq_true])
  have := outer 31 0 (h 4 0 5) (by omega) (fun j hj => by rw [if_neg (by omega), Nat.add_zero]; exact hG j hj)
  have e1 : la_put h 1 (sp_lives L 0) = h := la_self hL
  rw [e1, ua_self] at this
  exact this
theorem M_X4_tallyDays : pm_MT yX4_tallyDays cX4_tallyDays 5 0 3 P_X4_tallyDays (pm_pv Q_X4_tallyDays) := pm_met k_X4_tallyDays (by decide) rfl (by
  rintro ⟨g0, g1, g2, g3⟩ av h hp
  rw [hp.1]
  exact Nat.le_of_ble_eq_true rfl) pf_X4_tallyDays
theorem rc_X4_tallyDays : ∀ g av h, P_X4_tallyDays g av h → ∃ i t, av = .inr (.inr (4, i, 0)) :: t := by
  rintro ⟨g0, g1, g2, g3⟩ av h hp
  exact ⟨_, _, hp.1⟩
def sp_tally (N : LD) (b lf n j : Nat) : Nat := sp_sum (fun q => if lf / 2 ^ q % 2 = 1 then sp_kb (lu N 3 b q) (N 4 b) j else 0) n
def P_X4_tallyKnowers : Nat × Nat × LD × LD × pm_H → List pm_V → pm_H → Prop := fun g av h => match g with
  | (b, lf, N, T, h0) => av = [vR 4 0 0, vI (nI b), vI (nI lf)] ∧ h = h0 ∧ la_at h0 0 N ∧ la_at h0 1 T ∧ la_ok N ∧ la_ok T ∧ b < 6 ∧ lf < 16 ∧ N 0 10 ≤ 4000
def Q_X4_tallyKnowers : Nat × Nat × LD × LD × pm_H → pm_H → Prop := fun g h => match g with
  | (b, lf, N, T, h0) => ∃ X F, la_ok X ∧ h = pm_ua (la_put h0 1 X) 4 0 5 F ∧ ∀ j, j < 124 → F j = nI (sp_tally N b lf 4 j)
def T_X4_tallyKnowers : List (Nat × pm_T) := [
  (0, i_c (nI 0) 1),
  (1, i_is 3 2),
  (2, i_il 3 3),
  (3, i_al 0 4),
  (4, i_gr 4 (fun _ => (4, 0, 5)) 7),
  (7, i_len 8),
  (8, i_icge 24 11),
  (11, i_al 0 12),
  (12, i_gr 4 (fun _ => (4, 0, 5)) 15),
  (15, i_il 3 16),
  (16, i_c (nI 0) 17),
  (17, i_ias 18),
  (18, i_inc 3 (nI 1) 21),
  (21, i_go 2),
  (24, i_c (nI 0) 25),
  (25, i_is 3 26),
  (26, i_il 3 27),
  (27, i_c (nI 3) 28),
  (28, i_icgt 80 31),
  (31, i_il 2 32),
  (32, i_il 3 33),
  (33, i_ishr 34),
  (34, i_c (nI 1) 35),
  (35, i_iand 36),
  (36, i_c (nI 1) 37),
  (37, i_icne 74 40),
  (40, i_al 0 41),
  (41, i_gr 4 (fun _ => (0, 1, 0)) 44),
  (44, i_al 0 45),
  (45, i_gr 4 (fun _ => (0, 0, 0)) 48),
  (48, i_cv 2 P_X0_take Q_X0_take 51),
  (51, i_al 0 52),
  (52, i_gr 4 (fun _ => (0, 1, 0)) 55),
  (55, i_gr 0 (fun i => (0, i, 3)) 58),
  (58, i_il 1 59),
  (59, i_il 3 60),
  (60, i_ias 61),
  (61, i_al 0 62),
  (62, i_al 0 63),
  (63, i_gr 4 (fun _ => (0, 1, 0)) 66),
  (66, i_gr 0 (fun i => (0, i, 4)) 69),
  (69, i_il 1 70),
  (70, i_ia 71),
  (71, i_cv 2 P_X4_tallyDays Q_X4_tallyDays 74),
  (74, i_inc 3 (nI 1) 77),
  (77, i_go 26),
  (80, i_vr)]
theorem k_X4_tallyKnowers : ∀ q ∈ T_X4_tallyKnowers, pm_sd RX4 cX4_tallyKnowers 4 4 0 q.1 q.2 := by
  unfold T_X4_tallyKnowers
  refine pm_cn (sd_iconst (z := 0) (by decide +kernel) (by decide +kernel) rfl) ?_
  refine pm_cn (sd_isn (k := 3) (by decide +kernel) rfl rfl (by decide)) ?_
  refine pm_cn (sd_iln (k := 3) (by decide +kernel) rfl rfl) ?_
  refine pm_cn (sd_aln (k := 0) (by decide +kernel) rfl rfl) ?_
  refine pm_cn (sd_gr cl4_ in4_ (j := 8) (by decide) (fun _ => rfl) fl_X4_52 (by decide +kernel) rfl) ?_
  refine pm_cn (sd_len (by decide +kernel) rfl) ?_
  refine pm_cn (sd_icge (off := 16) (by decide +kernel) (by decide) rfl) ?_
  refine pm_cn (sd_aln (k := 0) (by decide +kernel) rfl rfl) ?_
  refine pm_cn (sd_gr cl4_ in4_ (j := 8) (by decide) (fun _ => rfl) fl_X4_52 (by decide +kernel) rfl) ?_
  refine pm_cn (sd_iln (k := 3) (by decide +kernel) rfl rfl) ?_
  refine pm_cn (sd_iconst (z := 0) (by decide +kernel) (by decide +kernel) rfl) ?_
  refine pm_cn (sd_ias (by decide +kernel) rfl) ?_
  refine pm_cn (sd_inc (z := 1) (by decide +kernel) (by decide +kernel) rfl (by decide)) ?_
  refine pm_cn (sd_go (off := -19) (by decide +kernel) (by decide)) ?_
  refine pm_cn (sd_iconst (z := 0) (by decide +kernel) (by decide +kernel) rfl) ?_
  refine pm_cn (sd_isn (k := 3) (by decide +kernel) rfl rfl (by decide)) ?_
  refine pm_cn (sd_iln (k := 3) (by decide +kernel) rfl rfl) ?_
  refine pm_cn (sd_iconst (z := 3) (by decide +kernel) (by decide +kernel) rfl) ?_
  refine pm_cn (sd_icgt (off := 52) (by decide +kernel) (by decide) rfl) ?_
  refine pm_cn (sd_iln (k := 2) (by decide +kernel) rfl rfl) ?_
  refine pm_cn (sd_iln (k := 3) (by decide +kernel) rfl rfl) ?_
  refine pm_cn (sd_ishr (by decide +kernel) rfl) ?_
  refine pm_cn (sd_iconst (z := 1) (by decide +kernel) (by decide +kernel) rfl) ?_
  refine pm_cn (sd_iand (by decide +kernel) rfl) ?_
  refine pm_cn (sd_iconst (z := 1) (by decide +kernel) (by decide +kernel) rfl) ?_
  refine pm_cn (sd_icne (off := 37) (by decide +kernel) (by decide) rfl) ?_
  refine pm_cn (sd_aln (k := 0) (by decide +kernel) rfl rfl) ?_
  refine pm_cn (sd_gr cl4_ in4_ (j := 2) (by decide) (fun _ => rfl) fl_X4_23 (by decide +kernel) rfl) ?_
  refine pm_cn (sd_aln (k := 0) (by decide +kernel) rfl rfl) ?_
  refine pm_cn (sd_gr cl4_ in4_ (j := 1) (by decide) (fun _ => rfl) fl_X4_19 (by decide +kernel) rfl) ?_
  refine pm_cn (sd_cvv M_X0_take cd_X0_take rc_X0_take cl0_ ml_X4_76 im_X0_take se_X0_take nt_X0 (by decide +kernel) (by omega) (by decide) (by decide +kernel) rfl) ?_
  refine pm_cn (sd_aln (k := 0) (by decide +kernel) rfl rfl) ?_
  refine pm_cn (sd_gr cl4_ in4_ (j := 2) (by decide) (fun _ => rfl) fl_X4_23 (by decide +kernel) rfl) ?_
  refine pm_cn (sd_gr cl0_ in0_ (j := 4) (by decide) (fun _ => rfl) fl_X4_134 (by decide +kernel) rfl) ?_
  refine pm_cn (sd_iln (k := 1) (by decide +kernel) rfl rfl) ?_
  refine pm_cn (sd_iln (k := 3) (by decide +kernel) rfl rfl) ?_
  refine pm_cn (sd_ias (by decide +kernel) rfl) ?_
  refine pm_cn (sd_aln (k := 0) (by decide +kernel) rfl rfl) ?_
  refine pm_cn (sd_aln (k := 0) (by decide +kernel) rfl rfl) ?_
  refine pm_cn (sd_gr cl4_ in4_ (j := 2) (by decide) (fun _ => rfl) fl_X4_23 (by decide +kernel) rfl) ?_
  refine pm_cn (sd_gr cl0_ in0_ (j := 5) (by decide) (fun _ => rfl) fl_X4_137 (by decide +kernel) rfl) ?_
  refine pm_cn (sd_iln (k := 1) (by decide +kernel) rfl rfl) ?_
  refine pm_cn (sd_ia (by decide +kernel) rfl) ?_
  refine pm_cn (sd_cvv M_X4_tallyDays cd_X4_tallyDays rc_X4_tallyDays cl4_ ml_X4_276 im_X4_tallyDays se_X4_tallyDays nt_X4 (by decide +kernel) (by omega) (by decide) (by decide +kernel) rfl) ?_
  refine pm_cn (sd_inc (z := 1) (by decide +kernel) (by decide +kernel) rfl (by decide)) ?_
  refine pm_cn (sd_go (off := -51) (by decide +kernel) (by decide)) ?_
  refine pm_cn (sd_vr (by decide +kernel)) ?_
  exact fun _ h => absurd h List.not_mem_nil
set_option maxHeartbeats 4000000 in
set_option maxRecDepth 100000 in
theorem pf_X4_tallyKnowers : pm_pf T_X4_tallyKnowers P_X4_tallyKnowers (pm_pv Q_X4_tallyKnowers) := by
  rintro ⟨b, lf, N, T, h0⟩ av h K hK ⟨rfl, rfl, hN, hT, wN, wT, hb, hlf, hd⟩ hret
  have hB := (id wN).2.2.2.2.2.2.2.1 b hb
  show K (some 0) ([(0, vR 4 0 0), (1, vI (nI b)), (2, vI (nI lf))], [], h)
  have loop2 : ∀ n k X F, k + n = 4 → la_ok X → (∀ j, j < 124 → F j = nI (sp_tally N b lf k j)) → K (some 26) ([(0, vR 4 0 0), (1, vI (nI b)), (2, vI (nI lf)), (3, vI (nI k))], [], pm_ua (la_put h 1 X) 4 0 5 F) := by
    intro n
    induction n with
    | zero =>
      intro k X F hk wX hF
      refine hK [(26, [0, 1, 2, 3])] 40 _ _ ?_
      conv => whnf
      repeat' (first
        | (refine ⟨fun c9 => ?_, fun c9 => ?_⟩ <;> (try simp (disch := omega) only [nI_leI, nI_ltI, nI_eq, nz_eq, nz_lt, nz_gt, nz_le, nz_ge, nz_00, nz_n1, nI_add, pk_mul, pk_sub, nI_shl1, nI_or, nI_half2, nI_min2, la_put_eq, la_up, lr_same, lr_ne, lu_same, lu_ne, not_true_eq_false, not_false_eq_true] at c9) <;> first | (exfalso; omega) | conv => whnf)
        | (refine ⟨_, rfl, by omega, ?_⟩; conv => whnf)
        | (refine ⟨_, rfl, rfl, rfl, by decide, by decide, ?_⟩; conv => whnf)
        | (refine ⟨_, by (simp (disch := omega) only [nI_leI, nI_ltI, nI_eq, nz_eq, nz_lt, nz_gt, nz_le, nz_ge, nz_00, nz_n1, nI_add, pk_mul, pk_sub, nI_shl1, nI_or, nI_half2, nI_min2, la_put_eq, la_up, lr_same, lr_ne, lu_same, lu_ne, not_true_eq_false, not_false_eq_true]; rfl), by omega, ?_⟩; conv => whnf)
        | (refine And.intro (by first | assumption | decide) ?_; conv => whnf))
      all_goals (try simp (disch := omega) only [nI_leI, nI_ltI, nI_eq, nz_eq, nz_lt, nz_gt, nz_le, nz_ge, nz_00, nz_n1, nI_add, pk_mul, pk_sub, nI_shl1, nI_or, nI_half2, nI_min2, la_put_eq, la_up, lr_same, lr_ne, lu_same, lu_ne, not_true_eq_false, not_false_eq_true])
      have : k = 4 := by omega
      subst this
      exact hret _ _ ⟨X, F, wX, rfl, hF⟩
    | succ n ih =>
      intro k X F hk wX hF
      have wK : la_ok (lu N 3 b k) := la_ok_lu wN (by unfold la_rel; omega) (by unfold la_bd; omega)
      have e10 : lu N 3 b k 0 10 = N 0 10 := lu_ne (by omega)
      have hdiv : lf / 2 ^ k ≤ lf := Nat.div_le_self _ _
      refine hK [(26, [0, 1, 2, 3])] 60 _ _ ?_
      conv => whnf
      repeat' (first
        | (refine ⟨fun c9 => ?_, fun c9 => ?_⟩ <;> (try simp (disch := omega) only [nI_leI, nI_ltI, nI_eq, nz_eq, nz_lt, nz_gt, nz_le, nz_ge, nz_00, nz_n1, nI_add, pk_mul, pk_sub, nI_shl1, nI_or, nI_half2, nI_min2, la_put_eq, la_up, lr_same, lr_ne, lu_same, lu_ne, not_true_eq_false, not_false_eq_true, nI_shr, nI_and1] at c9) <;> first | (exfalso; omega) | conv => whnf)
        | (refine ⟨_, rfl, by omega, ?_⟩; conv => whnf)
        | (refine ⟨_, rfl, rfl, rfl, by decide, by decide, ?_⟩; conv => whnf)
        | (refine ⟨_, by (simp (disch := omega) only [nI_leI, nI_ltI, nI_eq, nz_eq, nz_lt, nz_gt, nz_le, nz_ge, nz_00, nz_n1, nI_add, pk_mul, pk_sub, nI_shl1, nI_or, nI_half2, nI_min2, la_put_eq, la_up, lr_same, lr_ne, lu_same, lu_ne, not_true_eq_false, not_false_eq_true, nI_shr, nI_and1]; rfl), by omega, ?_⟩; conv => whnf)
        | (refine And.intro (by first | assumption | decide) ?_; conv => whnf))
      all_goals (try simp (disch := omega) only [nI_leI, nI_ltI, nI_eq, nz_eq, nz_lt, nz_gt, nz_le, nz_ge, nz_00, nz_n1, nI_add, pk_mul, pk_sub, nI_shl1, nI_or, nI_half2, nI_min2, la_put_eq, la_up, lr_same, lr_ne, lu_same, lu_ne, not_true_eq_false, not_false_eq_true, nI_shr, nI_and1])
      · refine ih (k + 1) X F (by omega) wX (fun j hj => ?_)
        rw [hF j hj, sp_tally, sp_tally, sp_sum, if_neg (by omega), Nat.add_zero]
      · refine ⟨(1, 0, X, N, _), ⟨rfl, rfl, la_at_ua (la_put_at _ _ _) (by decide), la_at_ua (la_at_ne hN (by decide)) (by decide), wX, wN, by decide⟩, fun h' hq => ?_⟩
        have hq : h' = la_put (pm_ua (la_put h 1 X) 4 0 5 F) 1 N := hq
        rw [la_put_ua (by decide), la_put2, ← la_put_ua (by decide)] at hq
        subst hq
        conv => whnf
        repeat' (first
          | (refine ⟨fun c9 => ?_, fun c9 => ?_⟩ <;> (try simp (disch := omega) only [nI_leI, nI_ltI, nI_eq, nz_eq, nz_lt, nz_gt, nz_le, nz_ge, nz_00, nz_n1, nI_add, pk_mul, pk_sub, nI_shl1, nI_or, nI_half2, nI_min2, la_put_eq, la_up, lr_same, lr_ne, lu_same, lu_ne, not_true_eq_false, not_false_eq_true] at c9) <;> first | (exfalso; omega) | conv => whnf)
          | (refine ⟨_, rfl, by omega, ?_⟩; conv => whnf)
          | (refine ⟨_, rfl, rfl, rfl, by decide, by decide, ?_⟩; conv => whnf)
          | (refine ⟨_, by (simp (disch := omega) only [nI_leI, nI_ltI, nI_eq, nz_eq, nz_lt, nz_gt, nz_le, nz_ge, nz_00, nz_n1, nI_add, pk_mul, pk_sub, nI_shl1, nI_or, nI_half2, nI_min2, la_put_eq, la_up, lr_same, lr_ne, lu_same, lu_ne, not_true_eq_false, not_false_eq_true]; rfl), by omega, ?_⟩; conv => whnf)
          | (refine And.intro (by first | assumption | decide) ?_; conv => whnf))
        all_goals (try simp (disch := omega) only [nI_leI, nI_ltI, nI_eq, nz_eq, nz_lt, nz_gt, nz_le, nz_ge, nz_00, nz_n1, nI_add, pk_mul, pk_sub, nI_shl1, nI_or, nI_half2, nI_min2, la_put_eq, la_up, lr_same, lr_ne, lu_same, lu_ne, not_true_eq_false, not_false_eq_true])
        refine ⟨(N 4 b, lu N 3 b k, sp_tally N b lf k, _), ⟨rfl, rfl, la_put_at _ _ _, wK, by omega, by omega, fun j hj => ?_⟩, fun h' hq => ?_⟩
        · rw [la_put_ne (by omega), ua_eq]; exact hF j hj
        obtain ⟨Y, F', wY, rfl, hF'⟩ := hq
        rw [la_put2, la_put_ua (by decide), ua_ua]
        conv => whnf
        repeat' (first
          | (refine ⟨fun c9 => ?_, fun c9 => ?_⟩ <;> (try simp (disch := omega) only [nI_leI, nI_ltI, nI_eq, nz_eq, nz_lt, nz_gt, nz_le, nz_ge, nz_00, nz_n1, nI_add, pk_mul, pk_sub, nI_shl1, nI_or, nI_half2, nI_min2, la_put_eq, la_up, lr_same, lr_ne, lu_same, lu_ne, not_true_eq_false, not_false_eq_true] at c9) <;> first | (exfalso; omega) | conv => whnf)
          | (refine ⟨_, rfl, by omega, ?_⟩; conv => whnf)
          | (refine ⟨_, rfl, rfl, rfl, by decide, by decide, ?_⟩; conv => whnf)
          | (refine ⟨_, by (simp (disch := omega) only [nI_leI, nI_ltI, nI_eq, nz_eq, nz_lt, nz_gt, nz_le, nz_ge, nz_00, nz_n1, nI_add, pk_mul, pk_sub, nI_shl1, nI_or, nI_half2, nI_min2, la_put_eq, la_up, lr_same, lr_ne, lu_same, lu_ne, not_true_eq_false, not_false_eq_true]; rfl), by omega, ?_⟩; conv => whnf)
          | (refine And.intro (by first | assumption | decide) ?_; conv => whnf))
        all_goals (try simp (disch := omega) only [nI_leI, nI_ltI, nI_eq, nz_eq, nz_lt, nz_gt, nz_le, nz_ge, nz_00, nz_n1, nI_add, pk_mul, pk_sub, nI_shl1, nI_or, nI_half2, nI_min2, la_put_eq, la_up, lr_same, lr_ne, lu_same, lu_ne, not_true_eq_false, not_false_eq_true])
        refine ih (k + 1) Y F' (by omega) wY (fun j hj => ?_)
        rw [hF' j hj, sp_tally, sp_tally, sp_sum, if_pos (by omega)]
  have loop1 : ∀ n k F, k + n = 124 → (∀ j, j < k → F j = nI 0) → K (some 2) ([(0, vR 4 0 0), (1, vI (nI b)), (2, vI (nI lf)), (3, vI (nI k))], [], pm_ua (la_put h 1 T) 4 0 5 F) := by
    intro n
    induction n with
    | zero =>
      intro k F hk hF
      refine hK [(2, [0, 1, 2, 3]), (26, [0, 1, 2, 3])] 40 _ _ ?_
      conv => whnf
      repeat' (first
        | (refine ⟨fun c9 => ?_, fun c9 => ?_⟩ <;> (try simp (disch := omega) only [nI_leI, nI_ltI, nI_eq, nz_eq, nz_lt, nz_gt, nz_le, nz_ge, nz_00, nz_n1, nI_add, pk_mul, pk_sub, nI_shl1, nI_or, nI_half2, nI_min2, la_put_eq, la_up, lr_same, lr_ne, lu_same, lu_ne, not_true_eq_false, not_false_eq_true] at c9) <;> first | (exfalso; omega) | conv => whnf)
        | (refine ⟨_, rfl, by omega, ?_⟩; conv => whnf)
        | (refine ⟨_, rfl, rfl, rfl, by decide, by decide, ?_⟩; conv => whnf)
        | (refine ⟨_, by (simp (disch := omega) only [nI_leI, nI_ltI, nI_eq, nz_eq, nz_lt, nz_gt, nz_le, nz_ge, nz_00, nz_n1, nI_add, pk_mul, pk_sub, nI_shl1, nI_or, nI_half2, nI_min2, la_put_eq, la_up, lr_same, lr_ne, lu_same, lu_ne, not_true_eq_false, not_false_eq_true]; rfl), by omega, ?_⟩; conv => whnf)
        | (refine And.intro (by first | assumption | decide) ?_; conv => whnf))
      all_goals (try simp (disch := omega) only [nI_leI, nI_ltI, nI_eq, nz_eq, nz_lt, nz_gt, nz_le, nz_ge, nz_00, nz_n1, nI_add, pk_mul, pk_sub, nI_shl1, nI_or, nI_half2, nI_min2, la_put_eq, la_up, lr_same, lr_ne, lu_same, lu_ne, not_true_eq_false, not_false_eq_true])
      refine loop2 4 0 T F (by omega) wT (fun j hj => ?_)
      rw [hF j (by omega)]
      rfl
    | succ n ih =>
      intro k F hk hF
      refine hK [(2, [0, 1, 2, 3]), (26, [0, 1, 2, 3])] 40 _ _ ?_
      conv => whnf
      repeat' (first
        | (refine ⟨fun c9 => ?_, fun c9 => ?_⟩ <;> (try simp (disch := omega) only [nI_leI, nI_ltI, nI_eq, nz_eq, nz_lt, nz_gt, nz_le, nz_ge, nz_00, nz_n1, nI_add, pk_mul, pk_sub, nI_shl1, nI_or, nI_half2, nI_min2, la_put_eq, la_up, lr_same, lr_ne, lu_same, lu_ne, not_true_eq_false, not_false_eq_true, ua_up] at c9) <;> first | (exfalso; omega) | conv => whnf)
        | (refine ⟨_, rfl, by omega, ?_⟩; conv => whnf)
        | (refine ⟨_, rfl, rfl, rfl, by decide, by decide, ?_⟩; conv => whnf)
        | (refine ⟨_, by (simp (disch := omega) only [nI_leI, nI_ltI, nI_eq, nz_eq, nz_lt, nz_gt, nz_le, nz_ge, nz_00, nz_n1, nI_add, pk_mul, pk_sub, nI_shl1, nI_or, nI_half2, nI_min2, la_put_eq, la_up, lr_same, lr_ne, lu_same, lu_ne, not_true_eq_false, not_false_eq_true, ua_up]; rfl), by omega, ?_⟩; conv => whnf)
        | (refine And.intro (by first | assumption | decide) ?_; conv => whnf))
      all_goals (try simp (disch := omega) only [nI_leI, nI_ltI, nI_eq, nz_eq, nz_lt, nz_gt, nz_le, nz_ge, nz_00, nz_n1, nI_add, pk_mul, pk_sub, nI_shl1, nI_or, nI_half2, nI_min2, la_put_eq, la_up, lr_same, lr_ne, lu_same, lu_ne, not_true_eq_false, not_false_eq_true, ua_up])
      refine ih (k + 1) _ (by omega) (fun j hj => ?_)
      by_cases hjk : j = k
      · subst hjk; rw [upd_eq]
      · rw [upd_ne hjk]; exact hF j (by omega)
  refine hK [(2, [0, 1, 2, 3])] 20 _ _ ?_
  conv => whnf
  repeat' (first
    | (refine ⟨fun c9 => ?_, fun c9 => ?_⟩ <;> (try simp (disch := omega) only [nI_leI, nI_ltI, nI_eq, nz_eq, nz_lt, nz_gt, nz_le, nz_ge, nz_00, nz_n1, nI_add, pk_mul, pk_sub, nI_shl1, nI_or, nI_half2, nI_min2, la_put_eq, la_up, lr_same, lr_ne, lu_same, lu_ne, not_true_eq_false, not_false_eq_true] at c9) <;> first | (exfalso; omega) | conv => whnf)
    | (refine ⟨_, rfl, by omega, ?_⟩; conv => whnf)
    | (refine ⟨_, rfl, rfl, rfl, by decide, by decide, ?_⟩; conv => whnf)
    | (refine ⟨_, by (simp (disch := omega) only [nI_leI, nI_ltI, nI_eq, nz_eq, nz_lt, nz_gt, nz_le, nz_ge, nz_00, nz_n1, nI_add, pk_mul, pk_sub, nI_shl1, nI_or, nI_half2, nI_min2, la_put_eq, la_up, lr_same, lr_ne, lu_same, lu_ne, not_true_eq_false, not_false_eq_true]; rfl), by omega, ?_⟩; conv => whnf)
    | (refine And.intro (by first | assumption | decide) ?_; conv => whnf))
  all_goals (try simp (disch := omega) only [nI_leI, nI_ltI, nI_eq, nz_eq, nz_lt, nz_gt, nz_le, nz_ge, nz_00, nz_n1, nI_add, pk_mul, pk_sub, nI_shl1, nI_or, nI_half2, nI_min2, la_put_eq, la_up, lr_same, lr_ne, lu_same, lu_ne, not_true_eq_false, not_false_eq_true])
  have := loop1 124 0 (h 4 0 5) (by omega) (fun j hj => by omega)
  rw [la_self hT, ua_self] at this
  exact this
theorem M_X4_tallyKnowers : pm_MT yX4_tallyKnowers cX4_tallyKnowers 4 0 4 P_X4_tallyKnowers (pm_pv Q_X4_tallyKnowers) := pm_met k_X4_tallyKnowers (by decide) rfl (by
  rintro ⟨g0, g1, g2, g3, g4⟩ av h hp
  rw [hp.1]
  exact Nat.le_of_ble_eq_true rfl) pf_X4_tallyKnowers
theorem rc_X4_tallyKnowers : ∀ g av h, P_X4_tallyKnowers g av h → ∃ i t, av = .inr (.inr (4, i, 0)) :: t := by
  rintro ⟨g0, g1, g2, g3, g4⟩ av h hp
  exact ⟨_, _, hp.1⟩
/-! weigh: what comes out of a larder in k days, each damp by v out of ten -/
noncomputable def sp_w (o : Bool) (f s v d : Nat) : Nat → LD → Nat
  | 0, X => sp_out o f s X
  | k + 1, X => v * sp_w o f s v d k (sp_live (lu X 0 8 9)) + (10 - v) * sp_w o f s v d k (sp_live (lu X 0 8 d))
/-- alike but for hunger, day and damp -/
def sm (X Y : LD) : Prop := ∀ s j, s ≠ 2 → ¬ (s = 0 ∧ (j = 10 ∨ j = 8)) → X s j = Y s j
/-- alike but for crumbs too -/
def sm5 (X Y : LD) : Prop := ∀ s j, s ≠ 2 → s ≠ 5 → ¬ (s = 0 ∧ (j = 10 ∨ j = 8)) → X s j = Y s j
theorem sm_left {X Y : LD} (h : sm X Y) (f : Nat) : ∀ n, sp_left X f n = sp_left Y f n
  | 0 => h 1 f (by decide) (by omega)
  | n + 1 => by rw [sp_left, sp_left, sm_left h f n, h 6 n (by decide) (by omega), h 5 n (by decide) (by omega)]
theorem sm_feast {X Y : LD} (h : sm X Y) (f : Nat) : sm (sp_feast X f) (sp_feast Y f) := by
  intro s j h2 h0
  by_cases h5 : s = 5
  · subst h5
    rw [sp_feast_5, sp_feast_5]
    unfold sp_ate
    rw [h 0 3 (by decide) (by omega), h 6 j (by decide) (by omega), h 5 j (by decide) (by omega), sm_left h f j]
  · rw [sp_feast_s h5 h2, sp_feast_s h5 h2]
    exact h s j h2 h0
theorem sm_feasts {X Y : LD} (h : sm X Y) : ∀ n, sm (sp_feasts X n) (sp_feasts Y n)
  | 0 => h
  | n + 1 => sm_feast (sm_feasts h n) n
theorem sm_rot {X Y : LD} (h : sm X Y) (hd : X 0 8 = Y 0 8) (n : Nat) : sm (sp_rot X n) (sp_rot Y n) := by
  intro s j h2 h0
  by_cases h5 : s = 5
  · subst h5
    rw [sp_rot_5, sp_rot_5]
    unfold sp_spoil
    rw [hd, h 3 j (by decide) (by omega), h 5 j (by decide) (by omega)]
  · rw [sp_rot_s h5, sp_rot_s h5]
    exact h s j h2 h0
theorem sm_live {X Y : LD} (h : sm X Y) (hd : X 0 8 = Y 0 8) : sm (sp_live X) (sp_live Y) := by
  intro s j h2 h0
  unfold sp_live
  rw [lu_ne (by omega), lu_ne (by omega), h 0 3 (by decide) (by omega), h 0 0 (by decide) (by omega)]
  exact sm_feasts (sm_rot h hd _) _ s j h2 h0
theorem sm_damp {X Y : LD} (h : sm X Y) (e : Nat) : sm (lu X 0 8 e) (lu Y 0 8 e) := by
  intro s j h2 h0
  rw [lu_ne (by omega), lu_ne (by omega)]
  exact h s j h2 h0
theorem sm_out {X Y : LD} (h : sm X Y) (o : Bool) (f s : Nat) : sp_out o f s X = sp_out o f s Y := by
  unfold sp_out
  cases o with
  | true =>
    have : sp_kn X f s ↔ sp_kn Y f s := by
      unfold sp_kn
      rw [h 0 3 (by decide) (by omega), h 0 9 (by decide) (by omega)]
      constructor
      · rintro ⟨b, h1, h2, h3, h4⟩
        exact ⟨b, h1, by rw [← h 6 b (by decide) (by omega)]; exact h2, by rw [← h 4 b (by decide) (by omega)]; exact h3, by rw [← h 5 b (by decide) (by omega)]; exact h4⟩
      · rintro ⟨b, h1, h2, h3, h4⟩
        exact ⟨b, h1, by rw [h 6 b (by decide) (by omega)]; exact h2, by rw [h 4 b (by decide) (by omega)]; exact h3, by rw [h 5 b (by decide) (by omega)]; exact h4⟩
    rw [if_pos rfl, if_pos rfl, this]
  | false =>
    rw [if_neg (by decide), if_neg (by decide), h 0 3 (by decide) (by omega)]
    exact sp_sum_congr (fun k _ => h 5 k (by decide) (by omega))
theorem sm_w {o : Bool} {f s v d : Nat} : ∀ {k : Nat} {X Y : LD}, sm X Y → sp_w o f s v d k X = sp_w o f s v d k Y
  | 0, X, Y, h => sm_out h o f s
  | k + 1, X, Y, h => by
    have h9 : lu X 0 8 9 0 8 = lu Y 0 8 9 0 8 := by rw [lu_same, lu_same]
    have hd : lu X 0 8 d 0 8 = lu Y 0 8 d 0 8 := by rw [lu_same, lu_same]
    rw [sp_w, sp_w, sm_w (k := k) (sm_live (sm_damp h 9) h9), sm_w (k := k) (sm_live (sm_damp h d) hd)]
theorem sp_out_le {X : LD} (hw : la_ok X) (o : Bool) (f s : Nat) : sp_out o f s X ≤ 594 := by
  unfold sp_out
  cases o with
  | true =>
    rw [if_pos rfl]
    by_cases h : sp_kn X f s
    · rw [sp_c_t h]; decide
    · rw [sp_c_f h]; decide
  | false =>
    rw [if_neg (by decide)]
    have h1 : sp_sum (X 5) (X 0 3) ≤ X 0 3 * 99 := sp_sum_le (fun k hk => ((id hw).2.2.2.2.2.2.2.1 k (by have := hw.2.1; omega)).2.2.1)
    have h2 : X 0 3 * 99 ≤ 6 * 99 := Nat.mul_le_mul_right 99 hw.2.1
    omega
def P_X4_weigh (k : Nat) : Nat × Nat × Nat × Nat × Bool × Nat × Nat × LD × LD × pm_H → List pm_V → pm_H → Prop := fun g av h => match k, g with
  | 0, _ => False
  | k + 1, (r, gn, n, v, o, f, s, N, X, h0) => av = [vR 4 0 0, vI (nI gn), vI (nI n), vI (nI v), vI (sp_fo o f), vI (sp_fo o s)] ∧ h = h0 ∧ r ≤ k ∧ gn + r = n ∧ n ≤ 8 ∧ v ≤ 10 ∧ f ≤ 9 ∧ s ≤ 9 ∧ la_at h0 0 N ∧ la_at h0 1 X ∧ la_ok N ∧ la_ok X ∧ X 0 10 + 2 ^ (r + 1) ≤ 4000
def Q_X4_weigh (k : Nat) : Nat × Nat × Nat × Nat × Bool × Nat × Nat × LD × LD × pm_H → Int64 → pm_H → Prop := fun g z h => match k, g with
  | 0, _ => True
  | k + 1, (r, gn, n, v, o, f, s, N, X, h0) => z = lN (sp_w o f s v (N 0 8) r X) ∧ ∃ Y, la_ok Y ∧ sm5 Y X ∧ Y 0 10 + 2 ≤ X 0 10 + 2 ^ (r + 1) ∧ la_at h 1 Y ∧ ∀ c i s j, ¬ (c = 0 ∧ i = 1) → ¬ (c = 6 ∧ gn ≤ i) → h c i s j = h0 c i s j
theorem rc_X4_weigh (k : Nat) : ∀ g av h, P_X4_weigh k g av h → ∃ i t, av = .inr (.inr (4, i, 0)) :: t := by
  rintro ⟨r, gn, n, v, o, f, s, N, X, h0⟩ av h hp
  cases k with
  | zero => exact hp.elim
  | succ k => exact ⟨_, _, hp.1⟩
def T_X4_weigh (k : Nat) : List (Nat × pm_T) := [
  (0, i_il 1 1),
  (1, i_il 2 2),
  (2, i_icge 11 5),
  (5, i_il 1 6),
  (6, i_c (nI 8) 8),
  (8, i_iclt 20 11),
  (11, i_al 0 12),
  (12, i_il 4 14),
  (14, i_il 5 16),
  (16, i_cL 3 P_X4_outcome Q_X4_outcome 19),
  (19, i_lr),
  (20, i_al 0 21),
  (21, i_gr 4 (fun _ => (4, 0, 4)) 24),
  (24, i_il 1 25),
  (25, i_aa 5 (fun k => (6, k, 0)) 26),
  (26, i_as 6 28),
  (28, i_al 0 29),
  (29, i_gr 4 (fun _ => (0, 1, 0)) 32),
  (32, i_gr 0 (fun i => (0, i, 5)) 35),
  (35, i_c (nI 0) 36),
  (36, i_al 6 38),
  (38, i_c (nI 0) 39),
  (39, i_c (nI 6) 41),
  (41, i_cp 44),
  (44, i_cl 0 45),
  (45, i_ls 7 47),
  (47, i_il 3 48),
  (48, i_ifle 89 51),
  (51, i_al 0 52),
  (52, i_gr 4 (fun _ => (0, 1, 0)) 55),
  (55, i_c (nI 9) 57),
  (57, i_pi 0 8 60),
  (60, i_al 0 61),
  (61, i_gr 4 (fun _ => (0, 1, 0)) 64),
  (64, i_ci 1 P_X0_live Q_X0_live 67),
  (67, i_pop 68),
  (68, i_ll 7 70),
  (70, i_il 3 71),
  (71, i_i2l 72),
  (72, i_al 0 73),
  (73, i_il 1 74),
  (74, i_c (nI 1) 75),
  (75, i_iadd 76),
  (76, i_il 2 77),
  (77, i_il 3 78),
  (78, i_il 4 80),
  (80, i_il 5 82),
  (82, i_cL 6 (P_X4_weigh k) (Q_X4_weigh k) 85),
  (85, i_lmul 86),
  (86, i_ladd 87),
  (87, i_ls 7 89),
  (89, i_il 3 90),
  (90, i_c (nI 10) 92),
  (92, i_icge 157 95),
  (95, i_al 6 97),
  (97, i_c (nI 0) 98),
  (98, i_al 0 99),
  (99, i_gr 4 (fun _ => (0, 1, 0)) 102),
  (102, i_gr 0 (fun i => (0, i, 5)) 105),
  (105, i_c (nI 0) 106),
  (106, i_c (nI 6) 108),
  (108, i_cp 111),
  (111, i_al 0 112),
  (112, i_gr 4 (fun _ => (0, 1, 0)) 115),
  (115, i_al 0 116),
  (116, i_gr 4 (fun _ => (0, 0, 0)) 119),
  (119, i_gi 0 8 122),
  (122, i_pi 0 8 125),
  (125, i_al 0 126),
  (126, i_gr 4 (fun _ => (0, 1, 0)) 129),
  (129, i_ci 1 P_X0_live Q_X0_live 132),
  (132, i_pop 133),
  (133, i_ll 7 135),
  (135, i_c (nI 10) 137),
  (137, i_il 3 138),
  (138, i_isub 139),
  (139, i_i2l 140),
  (140, i_al 0 141),
  (141, i_il 1 142),
  (142, i_c (nI 1) 143),
  (143, i_iadd 144),
  (144, i_il 2 145),
  (145, i_il 3 146),
  (146, i_il 4 148),
  (148, i_il 5 150),
  (150, i_cL 6 (P_X4_weigh k) (Q_X4_weigh k) 153),
  (153, i_lmul 154),
  (154, i_ladd 155),
  (155, i_ls 7 157),
  (157, i_ll 7 159),
  (159, i_lr)]
theorem k_X4_weigh (k : Nat) (hM : pm_MT yX4_weigh cX4_weigh 9 2 (4 + k) (P_X4_weigh k) (pm_pl2 (Q_X4_weigh k))) : ∀ q ∈ T_X4_weigh k, pm_sd RX4 cX4_weigh 9 (4 + (k + 1)) 2 q.1 q.2 := by
  unfold T_X4_weigh
  refine pm_cn (sd_iln (k := 1) (by decide +kernel) rfl rfl) ?_
  refine pm_cn (sd_iln (k := 2) (by decide +kernel) rfl rfl) ?_
  refine pm_cn (sd_icge (off := 9) (by decide +kernel) (by decide) rfl) ?_
  refine pm_cn (sd_iln (k := 1) (by decide +kernel) rfl rfl) ?_
  refine pm_cn (sd_bipush (z := 8) (by decide +kernel) (by decide +kernel) rfl) ?_
  refine pm_cn (sd_iclt (off := 12) (by decide +kernel) (by decide) rfl) ?_
  refine pm_cn (sd_aln (k := 0) (by decide +kernel) rfl rfl) ?_
  refine pm_cn (sd_il (by decide +kernel) rfl) ?_
  refine pm_cn (sd_il (by decide +kernel) rfl) ?_
  refine pm_cn (sd_cLv M_X4_outcome cd_X4_outcome rc_X4_outcome cl4_ ml_X4_280 im_X4_outcome se_X4_outcome nt_X4 (by decide +kernel) (by omega) (by decide) (by decide +kernel) rfl) ?_
  refine pm_cn (sd_lr (by decide +kernel)) ?_
  refine pm_cn (sd_aln (k := 0) (by decide +kernel) rfl rfl) ?_
  refine pm_cn (sd_gr cl4_ in4_ (j := 7) (by decide) (fun _ => rfl) fl_X4_49 (by decide +kernel) rfl) ?_
  refine pm_cn (sd_iln (k := 1) (by decide +kernel) rfl rfl) ?_
  refine pm_cn (sd_aa (by decide) (fun _ => rfl) (by decide +kernel) rfl) ?_
  refine pm_cn (sd_as (by decide +kernel) rfl (by decide)) ?_
  refine pm_cn (sd_aln (k := 0) (by decide +kernel) rfl rfl) ?_
  refine pm_cn (sd_gr cl4_ in4_ (j := 2) (by decide) (fun _ => rfl) fl_X4_23 (by decide +kernel) rfl) ?_
  refine pm_cn (sd_gr cl0_ in0_ (j := 6) (by decide) (fun _ => rfl) fl_X4_140 (by decide +kernel) rfl) ?_
  refine pm_cn (sd_iconst (z := 0) (by decide +kernel) (by decide +kernel) rfl) ?_
  refine pm_cn (sd_al (by decide +kernel) rfl) ?_
  refine pm_cn (sd_iconst (z := 0) (by decide +kernel) (by decide +kernel) rfl) ?_
  refine pm_cn (sd_bipush (z := 6) (by decide +kernel) (by decide +kernel) rfl) ?_
  refine pm_cn (sd_cp ml_X4_284 nt_arraycopy st_arraycopy nt_System (by omega) (by decide +kernel) rfl) ?_
  refine pm_cn (sd_lconst (z := 0) (by decide +kernel) (by decide +kernel) rfl) ?_
  refine pm_cn (sd_ls (by decide +kernel) rfl (by decide)) ?_
  refine pm_cn (sd_iln (k := 3) (by decide +kernel) rfl rfl) ?_
  refine pm_cn (sd_ifle (off := 41) (by decide +kernel) (by decide) rfl) ?_
  refine pm_cn (sd_aln (k := 0) (by decide +kernel) rfl rfl) ?_
  refine pm_cn (sd_gr cl4_ in4_ (j := 2) (by decide) (fun _ => rfl) fl_X4_23 (by decide +kernel) rfl) ?_
  refine pm_cn (sd_bipush (z := 9) (by decide +kernel) (by decide +kernel) rfl) ?_
  refine pm_cn (sd_pi cl0_ in0_ tyX0 tyX0_ok nmX0 (by decide) (fun _ => rfl) rfl rfl fl_X4_95 (by decide +kernel) rfl) ?_
  refine pm_cn (sd_aln (k := 0) (by decide +kernel) rfl rfl) ?_
  refine pm_cn (sd_gr cl4_ in4_ (j := 2) (by decide) (fun _ => rfl) fl_X4_23 (by decide +kernel) rfl) ?_
  refine pm_cn (sd_civ M_X0_live (by decide) cd_X0_live rc_X0_live cl0_ ml_X4_176 im_X0_live se_X0_live nt_X0 (by decide +kernel) (by omega) (by decide) (by decide +kernel) rfl) ?_
  refine pm_cn (sd_pop (by decide +kernel) rfl) ?_
  refine pm_cn (sd_ll (by decide +kernel) rfl) ?_
  refine pm_cn (sd_iln (k := 3) (by decide +kernel) rfl rfl) ?_
  refine pm_cn (sd_i2l (by decide +kernel) rfl) ?_
  refine pm_cn (sd_aln (k := 0) (by decide +kernel) rfl rfl) ?_
  refine pm_cn (sd_iln (k := 1) (by decide +kernel) rfl rfl) ?_
  refine pm_cn (sd_iconst (z := 1) (by decide +kernel) (by decide +kernel) rfl) ?_
  refine pm_cn (sd_iadd (by decide +kernel) rfl) ?_
  refine pm_cn (sd_iln (k := 2) (by decide +kernel) rfl rfl) ?_
  refine pm_cn (sd_iln (k := 3) (by decide +kernel) rfl rfl) ?_
  refine pm_cn (sd_il (by decide +kernel) rfl) ?_
  refine pm_cn (sd_il (by decide +kernel) rfl) ?_
  refine pm_cn (sd_cLv hM cd_X4_weigh (rc_X4_weigh k) cl4_ ml_X4_205 im_X4_weigh se_X4_weigh nt_X4 (by decide +kernel) (by omega) (by decide) (by decide +kernel) rfl) ?_
  refine pm_cn (sd_lmul (by decide +kernel) rfl) ?_
  refine pm_cn (sd_ladd (by decide +kernel) rfl) ?_
  refine pm_cn (sd_ls (by decide +kernel) rfl (by decide)) ?_
  refine pm_cn (sd_iln (k := 3) (by decide +kernel) rfl rfl) ?_
  refine pm_cn (sd_bipush (z := 10) (by decide +kernel) (by decide +kernel) rfl) ?_
  refine pm_cn (sd_icge (off := 65) (by decide +kernel) (by decide) rfl) ?_
  refine pm_cn (sd_al (by decide +kernel) rfl) ?_
  refine pm_cn (sd_iconst (z := 0) (by decide +kernel) (by decide +kernel) rfl) ?_
  refine pm_cn (sd_aln (k := 0) (by decide +kernel) rfl rfl) ?_
  refine pm_cn (sd_gr cl4_ in4_ (j := 2) (by decide) (fun _ => rfl) fl_X4_23 (by decide +kernel) rfl) ?_
  refine pm_cn (sd_gr cl0_ in0_ (j := 6) (by decide) (fun _ => rfl) fl_X4_140 (by decide +kernel) rfl) ?_
  refine pm_cn (sd_iconst (z := 0) (by decide +kernel) (by decide +kernel) rfl) ?_
  refine pm_cn (sd_bipush (z := 6) (by decide +kernel) (by decide +kernel) rfl) ?_
  refine pm_cn (sd_cp ml_X4_284 nt_arraycopy st_arraycopy nt_System (by omega) (by decide +kernel) rfl) ?_
  refine pm_cn (sd_aln (k := 0) (by decide +kernel) rfl rfl) ?_
  refine pm_cn (sd_gr cl4_ in4_ (j := 2) (by decide) (fun _ => rfl) fl_X4_23 (by decide +kernel) rfl) ?_
  refine pm_cn (sd_aln (k := 0) (by decide +kernel) rfl rfl) ?_
  refine pm_cn (sd_gr cl4_ in4_ (j := 1) (by decide) (fun _ => rfl) fl_X4_19 (by decide +kernel) rfl) ?_
  refine pm_cn (sd_gi cl0_ in0_ (by decide) (fun _ => rfl) fl_X4_95 (by decide +kernel) rfl) ?_
  refine pm_cn (sd_pi cl0_ in0_ tyX0 tyX0_ok nmX0 (by decide) (fun _ => rfl) rfl rfl fl_X4_95 (by decide +kernel) rfl) ?_
  refine pm_cn (sd_aln (k := 0) (by decide +kernel) rfl rfl) ?_
  refine pm_cn (sd_gr cl4_ in4_ (j := 2) (by decide) (fun _ => rfl) fl_X4_23 (by decide +kernel) rfl) ?_
  refine pm_cn (sd_civ M_X0_live (by decide) cd_X0_live rc_X0_live cl0_ ml_X4_176 im_X0_live se_X0_live nt_X0 (by decide +kernel) (by omega) (by decide) (by decide +kernel) rfl) ?_
  refine pm_cn (sd_pop (by decide +kernel) rfl) ?_
  refine pm_cn (sd_ll (by decide +kernel) rfl) ?_
  refine pm_cn (sd_bipush (z := 10) (by decide +kernel) (by decide +kernel) rfl) ?_
  refine pm_cn (sd_iln (k := 3) (by decide +kernel) rfl rfl) ?_
  refine pm_cn (sd_isub (by decide +kernel) rfl) ?_
  refine pm_cn (sd_i2l (by decide +kernel) rfl) ?_
  refine pm_cn (sd_aln (k := 0) (by decide +kernel) rfl rfl) ?_
  refine pm_cn (sd_iln (k := 1) (by decide +kernel) rfl rfl) ?_
  refine pm_cn (sd_iconst (z := 1) (by decide +kernel) (by decide +kernel) rfl) ?_
  refine pm_cn (sd_iadd (by decide +kernel) rfl) ?_
  refine pm_cn (sd_iln (k := 2) (by decide +kernel) rfl rfl) ?_
  refine pm_cn (sd_iln (k := 3) (by decide +kernel) rfl rfl) ?_
  refine pm_cn (sd_il (by decide +kernel) rfl) ?_
  refine pm_cn (sd_il (by decide +kernel) rfl) ?_
  refine pm_cn (sd_cLv hM cd_X4_weigh (rc_X4_weigh k) cl4_ ml_X4_205 im_X4_weigh se_X4_weigh nt_X4 (by decide +kernel) (by omega) (by decide) (by decide +kernel) rfl) ?_
  refine pm_cn (sd_lmul (by decide +kernel) rfl) ?_
  refine pm_cn (sd_ladd (by decide +kernel) rfl) ?_
  refine pm_cn (sd_ls (by decide +kernel) rfl (by decide)) ?_
  refine pm_cn (sd_ll (by decide +kernel) rfl) ?_
  refine pm_cn (sd_lr (by decide +kernel)) ?_
  exact fun _ h => absurd h List.not_mem_nil
theorem la_cp6 {h : pm_H} {i g : Nat} {Z : LD} {f : Nat → Nat} (hr : ∀ j, j < 6 → h 6 g 0 j = nI (f j)) : pm_ua (la_put h i Z) 0 i 5 (pm_cp (la_put h i Z 6 g 0) (la_put h i Z 0 i 5) 6) = la_put h i (lc Z 5 f 6) := by
  funext c i' s' j'
  by_cases hc : c = 0 ∧ i' = i
  · obtain ⟨rfl, rfl⟩ := hc
    rw [la_put_eq, lc_eq]
    by_cases hs : s' = 5
    · subst hs
      rw [ua_eq]
      unfold pm_cp
      by_cases hj : j' < 6
      · rw [if_pos hj, if_pos ⟨rfl, hj⟩, la_put_ne (by omega), hr j' hj]
      · rw [if_neg hj, if_neg (by omega), la_put_eq]
    · rw [ua_ne (by omega), la_put_eq, if_neg (by omega)]
  · rw [la_put_ne hc, ua_ne (by omega), la_put_ne hc]
theorem la_ok_lc5 {Z : LD} (hw : la_ok Z) {f : Nat → Nat} (hf : ∀ j, j < 6 → f j ≤ 99) : la_ok (lc Z 5 f 6) := by
  rw [la_ok_iff] at hw ⊢
  intro s j
  rw [lc_eq]
  by_cases h : s = 5 ∧ j < 6
  · rw [if_pos h]
    have := hf j h.2
    refine ⟨fun _ => ?_, fun hr => absurd ?_ hr⟩
    · unfold la_bd; omega
    · unfold la_rel; omega
  · rw [if_neg h]
    exact hw s j
theorem lN_0 : (0 : Int64) = lN 0 := rfl
set_option maxHeartbeats 4000000 in
set_option maxRecDepth 100000 in
theorem pf_X4_weigh (k : Nat) : pm_pf (T_X4_weigh k) (P_X4_weigh (k + 1)) (pm_pl2 (Q_X4_weigh (k + 1))) := by
  rintro ⟨r, gn, n, v, o, f, s, N, X, h0⟩ av h K hK hp hret
  obtain ⟨rfl, rfl, hrk, hgn, hn, hv, hf, hs, hN, hX, wN, wX, hday⟩ := hp
  show K (some 0) ([(0, vR 4 0 0), (1, vI (nI gn)), (2, vI (nI n)), (3, vI (nI v)), (4, vI (sp_fo o f)), (5, vI (sp_fo o s))], [], h)
  cases r with
  | zero =>
    refine hK [] 40 _ _ ?_
    conv => whnf
    repeat' (first
      | (refine ⟨fun c9 => ?_, fun c9 => ?_⟩ <;> (try simp (disch := omega) only [nI_leI, nI_ltI, nI_eq, nz_eq, nz_lt, nz_gt, nz_le, nz_ge, nz_00, nz_n1, nI_add, pk_mul, pk_sub, nI_shl1, nI_or, nI_half2, nI_min2, la_put_eq, la_up, lr_same, lr_ne, lu_same, lu_ne, not_true_eq_false, not_false_eq_true] at c9) <;> first | (exfalso; omega) | conv => whnf)
      | (refine ⟨_, rfl, by omega, ?_⟩; conv => whnf)
      | (refine ⟨_, rfl, rfl, rfl, by decide, by decide, ?_⟩; conv => whnf)
      | (refine ⟨_, by (simp (disch := omega) only [nI_leI, nI_ltI, nI_eq, nz_eq, nz_lt, nz_gt, nz_le, nz_ge, nz_00, nz_n1, nI_add, pk_mul, pk_sub, nI_shl1, nI_or, nI_half2, nI_min2, la_put_eq, la_up, lr_same, lr_ne, lu_same, lu_ne, not_true_eq_false, not_false_eq_true]; rfl), by omega, ?_⟩; conv => whnf)
      | (refine And.intro (by first | assumption | decide) ?_; conv => whnf))
    all_goals (try simp (disch := omega) only [nI_leI, nI_ltI, nI_eq, nz_eq, nz_lt, nz_gt, nz_le, nz_ge, nz_00, nz_n1, nI_add, pk_mul, pk_sub, nI_shl1, nI_or, nI_half2, nI_min2, la_put_eq, la_up, lr_same, lr_ne, lu_same, lu_ne, not_true_eq_false, not_false_eq_true])
    refine ⟨(o, f, s, X, h), ⟨rfl, rfl, hX, wX, hf, hs⟩, fun z h' hq => ?_⟩
    obtain ⟨rfl, rfl⟩ := hq
    conv => whnf
    repeat' (first
      | (refine ⟨fun c9 => ?_, fun c9 => ?_⟩ <;> (try simp (disch := omega) only [nI_leI, nI_ltI, nI_eq, nz_eq, nz_lt, nz_gt, nz_le, nz_ge, nz_00, nz_n1, nI_add, pk_mul, pk_sub, nI_shl1, nI_or, nI_half2, nI_min2, la_put_eq, la_up, lr_same, lr_ne, lu_same, lu_ne, not_true_eq_false, not_false_eq_true] at c9) <;> first | (exfalso; omega) | conv => whnf)
      | (refine ⟨_, rfl, by omega, ?_⟩; conv => whnf)
      | (refine ⟨_, rfl, rfl, rfl, by decide, by decide, ?_⟩; conv => whnf)
      | (refine ⟨_, by (simp (disch := omega) only [nI_leI, nI_ltI, nI_eq, nz_eq, nz_lt, nz_gt, nz_le, nz_ge, nz_00, nz_n1, nI_add, pk_mul, pk_sub, nI_shl1, nI_or, nI_half2, nI_min2, la_put_eq, la_up, lr_same, lr_ne, lu_same, lu_ne, not_true_eq_false, not_false_eq_true]; rfl), by omega, ?_⟩; conv => whnf)
      | (refine And.intro (by first | assumption | decide) ?_; conv => whnf))
    all_goals (try simp (disch := omega) only [nI_leI, nI_ltI, nI_eq, nz_eq, nz_lt, nz_gt, nz_le, nz_ge, nz_00, nz_n1, nI_add, pk_mul, pk_sub, nI_shl1, nI_or, nI_half2, nI_min2, la_put_eq, la_up, lr_same, lr_ne, lu_same, lu_ne, not_true_eq_false, not_false_eq_true])
    refine hret _ _ ?_
    exact ⟨rfl, X, wX, fun _ _ _ _ _ => rfl, Nat.add_le_add_left (by decide) _, hX, fun _ _ _ _ _ _ => rfl⟩
  | succ r =>
    obtain ⟨k', rfl⟩ : ∃ k', k = k' + 1 := ⟨k - 1, by omega⟩
    have w3 := wN.2.2.1
    have e2 : 2 ^ (r + 1 + 1) = 2 * 2 ^ (r + 1) := by rw [Nat.pow_succ]; omega
    have p2 : 2 ≤ 2 ^ (r + 1) := by
      have := Nat.one_le_two_pow (n := r)
      rw [Nat.pow_succ]; omega
    generalize 2 ^ (r + 1 + 1) = p4 at hday e2 hret
    subst e2
    have hX5 : ∀ j, j < 6 → X 5 j ≤ 99 := fun j hj => ((id wX).2.2.2.2.2.2.2.1 j hj).2.2.1
    have mid : ∀ (a : Nat) (Z : LD) (H : pm_H), a = v * sp_w o f s v (N 0 8) r (sp_live (lu X 0 8 9)) → la_ok Z → sm5 Z X → Z 0 10 + 1 ≤ X 0 10 + 2 ^ (r + 1) → la_at H 1 Z → (∀ j, j < 6 → H 6 gn 0 j = nI (X 5 j)) → (∀ c i s j, ¬ (c = 0 ∧ i = 1) → ¬ (c = 6 ∧ gn ≤ i) → H c i s j = h c i s j) → K (some 89) ([(0, vR 4 0 0), (1, vI (nI gn)), (2, vI (nI n)), (3, vI (nI v)), (4, vI (sp_fo o f)), (5, vI (sp_fo o s)), (6, vR 6 gn 0), (7, vJ (lN a))], [], H) := by
      intro a Z H ha wZ hZX hZd hHZ hrow hfr
      have hcp := la_cp6 (i := 1) (Z := Z) hrow
      have hNd : ∀ (M : LD), la_put H 1 M 0 0 0 8 = nI (N 0 8) := fun M => by rw [la_put_ne (by omega), hfr _ _ _ _ (by omega) (by omega), hN]
      rw [← la_self hHZ]
      have wC := la_ok_lc5 wZ hX5
      have wD : la_ok (lu (lc Z 5 (X 5) 6) 0 8 (N 0 8)) := la_ok_lu wC (by unfold la_rel; omega) (by unfold la_bd; omega)
      have eD : lu (lc Z 5 (X 5) 6) 0 8 (N 0 8) 0 10 = Z 0 10 := by rw [lu_ne (by omega), lc_eq, if_neg (by omega)]
      have hsm : sm (lu (lc Z 5 (X 5) 6) 0 8 (N 0 8)) (lu X 0 8 (N 0 8)) := by
        intro s' j' h2 h0
        rw [lu_ne (by omega), lu_ne (by omega), lc_eq]
        by_cases hs5 : s' = 5
        · subst hs5
          by_cases hj : j' < 6
          · rw [if_pos ⟨rfl, hj⟩]
          · rw [if_neg (by omega), (la_ok_iff.mp wZ 5 j').2 (by unfold la_rel; omega), (la_ok_iff.mp wX 5 j').2 (by unfold la_rel; omega)]
        · rw [if_neg (by omega)]
          exact hZX s' j' h2 hs5 h0
      refine hK [] 100 _ _ ?_
      conv => whnf
      repeat' (first
        | (refine ⟨fun c9 => ?_, fun c9 => ?_⟩ <;> (try simp (disch := omega) only [nI_leI, nI_ltI, nI_eq, nz_eq, nz_lt, nz_gt, nz_le, nz_ge, nz_00, nz_n1, nI_add, pk_mul, pk_sub, nI_shl1, nI_or, nI_half2, nI_min2, la_put_eq, la_up, lr_same, lr_ne, lu_same, lu_ne, not_true_eq_false, not_false_eq_true, hcp, hNd] at c9) <;> first | (exfalso; omega) | conv => whnf)
        | (refine ⟨_, rfl, by omega, ?_⟩; conv => whnf)
        | (refine ⟨_, rfl, rfl, rfl, by decide, by decide, ?_⟩; conv => whnf)
        | (refine ⟨_, by (simp (disch := omega) only [nI_leI, nI_ltI, nI_eq, nz_eq, nz_lt, nz_gt, nz_le, nz_ge, nz_00, nz_n1, nI_add, pk_mul, pk_sub, nI_shl1, nI_or, nI_half2, nI_min2, la_put_eq, la_up, lr_same, lr_ne, lu_same, lu_ne, not_true_eq_false, not_false_eq_true, hcp, hNd]; rfl), by omega, ?_⟩; conv => whnf)
        | (refine And.intro (by first | assumption | decide) ?_; conv => whnf))
      all_goals (try simp (disch := omega) only [nI_leI, nI_ltI, nI_eq, nz_eq, nz_lt, nz_gt, nz_le, nz_ge, nz_00, nz_n1, nI_add, pk_mul, pk_sub, nI_shl1, nI_or, nI_half2, nI_min2, la_put_eq, la_up, lr_same, lr_ne, lu_same, lu_ne, not_true_eq_false, not_false_eq_true, hcp, hNd])
      · refine hret _ _ ?_
        refine ⟨?_, Z, wZ, hZX, by omega, la_put_at _ _ _, fun c i s' j' h1 h2 => ?_⟩
        · rw [sp_w, ← ha, show 10 - v = 0 by omega, Nat.zero_mul, Nat.add_zero]
        · rw [la_put_ne h1]; exact hfr c i s' j' h1 h2
      · refine ⟨(1, lu (lc Z 5 (X 5) 6) 0 8 (N 0 8), _), ⟨rfl, rfl, la_put_at _ _ _, wD, by omega⟩, fun z h' hq => ?_⟩
        obtain ⟨rfl, rfl⟩ := hq
        have eL := sp_live_day (lu (lc Z 5 (X 5) 6) 0 8 (N 0 8))
        have wL := la_ok_live wD (by omega)
        conv => whnf
        repeat' (first
          | (refine ⟨fun c9 => ?_, fun c9 => ?_⟩ <;> (try simp (disch := omega) only [nI_leI, nI_ltI, nI_eq, nz_eq, nz_lt, nz_gt, nz_le, nz_ge, nz_00, nz_n1, nI_add, pk_mul, pk_sub, nI_shl1, nI_or, nI_half2, nI_min2, la_put_eq, la_up, lr_same, lr_ne, lu_same, lu_ne, not_true_eq_false, not_false_eq_true, la_put2] at c9) <;> first | (exfalso; omega) | conv => whnf)
          | (refine ⟨_, rfl, by omega, ?_⟩; conv => whnf)
          | (refine ⟨_, rfl, rfl, rfl, by decide, by decide, ?_⟩; conv => whnf)
          | (refine ⟨_, by (simp (disch := omega) only [nI_leI, nI_ltI, nI_eq, nz_eq, nz_lt, nz_gt, nz_le, nz_ge, nz_00, nz_n1, nI_add, pk_mul, pk_sub, nI_shl1, nI_or, nI_half2, nI_min2, la_put_eq, la_up, lr_same, lr_ne, lu_same, lu_ne, not_true_eq_false, not_false_eq_true, la_put2]; rfl), by omega, ?_⟩; conv => whnf)
          | (refine And.intro (by first | assumption | decide) ?_; conv => whnf))
        all_goals (try simp (disch := omega) only [nI_leI, nI_ltI, nI_eq, nz_eq, nz_lt, nz_gt, nz_le, nz_ge, nz_00, nz_n1, nI_add, pk_mul, pk_sub, nI_shl1, nI_or, nI_half2, nI_min2, la_put_eq, la_up, lr_same, lr_ne, lu_same, lu_ne, not_true_eq_false, not_false_eq_true, la_put2])
        refine ⟨(r, gn + 1, n, v, o, f, s, N, sp_live (lu (lc Z 5 (X 5) 6) 0 8 (N 0 8)), _), ⟨rfl, rfl, by omega, by omega, hn, hv, hf, hs, ?_, la_put_at _ _ _, wN, wL, by omega⟩, fun z h' hq => ?_⟩
        · intro s' j'
          rw [la_put_ne (by omega), hfr _ _ _ _ (by omega) (by omega), hN]
        obtain ⟨hr, Y, wY, hY5, hYd, hYa, hYf⟩ := hq
        subst hr
        rw [sm_w (sm_live hsm (by rw [lu_same, lu_same]))]
        have e10 : nI 10 - nI v = nI (10 - v) := pk_sub hv
        have ei : (nI (10 - v)).toInt64 = lN (10 - v) := nI_l (by omega)
        conv => whnf
        repeat' (first
          | (refine ⟨fun c9 => ?_, fun c9 => ?_⟩ <;> (try simp (disch := omega) only [nI_leI, nI_ltI, nI_eq, nz_eq, nz_lt, nz_gt, nz_le, nz_ge, nz_00, nz_n1, nI_add, pk_mul, pk_sub, nI_shl1, nI_or, nI_half2, nI_min2, la_put_eq, la_up, lr_same, lr_ne, lu_same, lu_ne, not_true_eq_false, not_false_eq_true, e10, ei, lN_mul, lN_add] at c9) <;> first | (exfalso; omega) | conv => whnf)
          | (refine ⟨_, rfl, by omega, ?_⟩; conv => whnf)
          | (refine ⟨_, rfl, rfl, rfl, by decide, by decide, ?_⟩; conv => whnf)
          | (refine ⟨_, by (simp (disch := omega) only [nI_leI, nI_ltI, nI_eq, nz_eq, nz_lt, nz_gt, nz_le, nz_ge, nz_00, nz_n1, nI_add, pk_mul, pk_sub, nI_shl1, nI_or, nI_half2, nI_min2, la_put_eq, la_up, lr_same, lr_ne, lu_same, lu_ne, not_true_eq_false, not_false_eq_true, e10, ei, lN_mul, lN_add]; rfl), by omega, ?_⟩; conv => whnf)
          | (refine And.intro (by first | assumption | decide) ?_; conv => whnf))
        all_goals (try simp (disch := omega) only [nI_leI, nI_ltI, nI_eq, nz_eq, nz_lt, nz_gt, nz_le, nz_ge, nz_00, nz_n1, nI_add, pk_mul, pk_sub, nI_shl1, nI_or, nI_half2, nI_min2, la_put_eq, la_up, lr_same, lr_ne, lu_same, lu_ne, not_true_eq_false, not_false_eq_true, e10, ei, lN_mul, lN_add])
        refine hret _ _ ?_
        refine ⟨?_, Y, wY, fun s' j' h2 h5 h0 => ?_, by omega, hYa, fun c i s' j' h1 h2 => ?_⟩
        · rw [sp_w, ← ha]
        · rw [hY5 s' j' h2 h5 h0, sp_live_s h5 h2 (by omega), lu_ne (by omega), lc_eq, if_neg (by omega)]
          exact hZX s' j' h2 h5 h0
        · rw [hYf c i s' j' h1 (by omega), la_put_ne h1]
          exact hfr c i s' j' h1 h2
    have st : ∀ H : pm_H, la_at H 1 X → (∀ j, j < 6 → H 6 gn 0 j = nI (X 5 j)) → (∀ c i s j, ¬ (c = 0 ∧ i = 1) → ¬ (c = 6 ∧ gn ≤ i) → H c i s j = h c i s j) → K (some 47) ([(0, vR 4 0 0), (1, vI (nI gn)), (2, vI (nI n)), (3, vI (nI v)), (4, vI (sp_fo o f)), (5, vI (sp_fo o s)), (6, vR 6 gn 0), (7, vJ (lN 0))], [], H) := by
      intro H hHX hrow hfr
      have w9 : la_ok (lu X 0 8 9) := la_ok_lu wX (by unfold la_rel; omega) (by unfold la_bd; omega)
      have e9 : lu X 0 8 9 0 10 = X 0 10 := lu_ne (by omega)
      rw [← la_self hHX]
      refine hK [(89, [0, 1, 2, 3, 4, 5, 6, 7])] 100 _ _ ?_
      conv => whnf
      repeat' (first
        | (refine ⟨fun c9 => ?_, fun c9 => ?_⟩ <;> (try simp (disch := omega) only [nI_leI, nI_ltI, nI_eq, nz_eq, nz_lt, nz_gt, nz_le, nz_ge, nz_00, nz_n1, nI_add, pk_mul, pk_sub, nI_shl1, nI_or, nI_half2, nI_min2, la_put_eq, la_up, lr_same, lr_ne, lu_same, lu_ne, not_true_eq_false, not_false_eq_true] at c9) <;> first | (exfalso; omega) | conv => whnf)
        | (refine ⟨_, rfl, by omega, ?_⟩; conv => whnf)
        | (refine ⟨_, rfl, rfl, rfl, by decide, by decide, ?_⟩; conv => whnf)
        | (refine ⟨_, by (simp (disch := omega) only [nI_leI, nI_ltI, nI_eq, nz_eq, nz_lt, nz_gt, nz_le, nz_ge, nz_00, nz_n1, nI_add, pk_mul, pk_sub, nI_shl1, nI_or, nI_half2, nI_min2, la_put_eq, la_up, lr_same, lr_ne, lu_same, lu_ne, not_true_eq_false, not_false_eq_true]; rfl), by omega, ?_⟩; conv => whnf)
        | (refine And.intro (by first | assumption | decide) ?_; conv => whnf))
      all_goals (try simp (disch := omega) only [nI_leI, nI_ltI, nI_eq, nz_eq, nz_lt, nz_gt, nz_le, nz_ge, nz_00, nz_n1, nI_add, pk_mul, pk_sub, nI_shl1, nI_or, nI_half2, nI_min2, la_put_eq, la_up, lr_same, lr_ne, lu_same, lu_ne, not_true_eq_false, not_false_eq_true])
      · rw [la_self hHX]
        refine mid 0 X H ?_ wX (fun _ _ _ _ _ => rfl) (by omega) hHX hrow hfr
        rw [show v = 0 by omega, Nat.zero_mul]
      · refine ⟨(1, lu X 0 8 9, _), ⟨rfl, rfl, la_put_at _ _ _, w9, by omega⟩, fun z h' hq => ?_⟩
        obtain ⟨rfl, rfl⟩ := hq
        have eL := sp_live_day (lu X 0 8 9)
        have wL := la_ok_live w9 (by omega)
        conv => whnf
        repeat' (first
          | (refine ⟨fun c9 => ?_, fun c9 => ?_⟩ <;> (try simp (disch := omega) only [nI_leI, nI_ltI, nI_eq, nz_eq, nz_lt, nz_gt, nz_le, nz_ge, nz_00, nz_n1, nI_add, pk_mul, pk_sub, nI_shl1, nI_or, nI_half2, nI_min2, la_put_eq, la_up, lr_same, lr_ne, lu_same, lu_ne, not_true_eq_false, not_false_eq_true, la_put2] at c9) <;> first | (exfalso; omega) | conv => whnf)
          | (refine ⟨_, rfl, by omega, ?_⟩; conv => whnf)
          | (refine ⟨_, rfl, rfl, rfl, by decide, by decide, ?_⟩; conv => whnf)
          | (refine ⟨_, by (simp (disch := omega) only [nI_leI, nI_ltI, nI_eq, nz_eq, nz_lt, nz_gt, nz_le, nz_ge, nz_00, nz_n1, nI_add, pk_mul, pk_sub, nI_shl1, nI_or, nI_half2, nI_min2, la_put_eq, la_up, lr_same, lr_ne, lu_same, lu_ne, not_true_eq_false, not_false_eq_true, la_put2]; rfl), by omega, ?_⟩; conv => whnf)
          | (refine And.intro (by first | assumption | decide) ?_; conv => whnf))
        all_goals (try simp (disch := omega) only [nI_leI, nI_ltI, nI_eq, nz_eq, nz_lt, nz_gt, nz_le, nz_ge, nz_00, nz_n1, nI_add, pk_mul, pk_sub, nI_shl1, nI_or, nI_half2, nI_min2, la_put_eq, la_up, lr_same, lr_ne, lu_same, lu_ne, not_true_eq_false, not_false_eq_true, la_put2])
        refine ⟨(r, gn + 1, n, v, o, f, s, N, sp_live (lu X 0 8 9), _), ⟨rfl, rfl, by omega, by omega, hn, hv, hf, hs, ?_, la_put_at _ _ _, wN, wL, by omega⟩, fun z h' hq => ?_⟩
        · intro s' j'
          rw [la_put_ne (by omega), hfr _ _ _ _ (by omega) (by omega), hN]
        obtain ⟨hr, Y, wY, hY5, hYd, hYa, hYf⟩ := hq
        subst hr
        have ei : (nI v).toInt64 = lN v := nI_l (by omega)
        conv => whnf
        repeat' (first
          | (refine ⟨fun c9 => ?_, fun c9 => ?_⟩ <;> (try simp (disch := omega) only [nI_leI, nI_ltI, nI_eq, nz_eq, nz_lt, nz_gt, nz_le, nz_ge, nz_00, nz_n1, nI_add, pk_mul, pk_sub, nI_shl1, nI_or, nI_half2, nI_min2, la_put_eq, la_up, lr_same, lr_ne, lu_same, lu_ne, not_true_eq_false, not_false_eq_true, ei, lN_mul, lN_add, Nat.zero_add] at c9) <;> first | (exfalso; omega) | conv => whnf)
          | (refine ⟨_, rfl, by omega, ?_⟩; conv => whnf)
          | (refine ⟨_, rfl, rfl, rfl, by decide, by decide, ?_⟩; conv => whnf)
          | (refine ⟨_, by (simp (disch := omega) only [nI_leI, nI_ltI, nI_eq, nz_eq, nz_lt, nz_gt, nz_le, nz_ge, nz_00, nz_n1, nI_add, pk_mul, pk_sub, nI_shl1, nI_or, nI_half2, nI_min2, la_put_eq, la_up, lr_same, lr_ne, lu_same, lu_ne, not_true_eq_false, not_false_eq_true, ei, lN_mul, lN_add, Nat.zero_add]; rfl), by omega, ?_⟩; conv => whnf)
          | (refine And.intro (by first | assumption | decide) ?_; conv => whnf))
        all_goals (try simp (disch := omega) only [nI_leI, nI_ltI, nI_eq, nz_eq, nz_lt, nz_gt, nz_le, nz_ge, nz_00, nz_n1, nI_add, pk_mul, pk_sub, nI_shl1, nI_or, nI_half2, nI_min2, la_put_eq, la_up, lr_same, lr_ne, lu_same, lu_ne, not_true_eq_false, not_false_eq_true, ei, lN_mul, lN_add, Nat.zero_add])
        refine mid _ Y h' rfl wY (fun s' j' h2 h5 h0 => ?_) (by omega) hYa (fun j hj => ?_) (fun c i s' j' h1 h2 => ?_)
        · rw [hY5 s' j' h2 h5 h0, sp_live_s h5 h2 (by omega), lu_ne (by omega)]
        · rw [hYf 6 gn 0 j (by omega) (by omega), la_put_ne (by omega)]
          exact hrow j hj
        · rw [hYf c i s' j' h1 (by omega), la_put_ne h1]
          exact hfr c i s' j' h1 h2
    refine hK [(47, [0, 1, 2, 3, 4, 5, 6, 7])] 100 _ _ ?_
    conv => whnf
    repeat' (first
      | (refine ⟨fun c9 => ?_, fun c9 => ?_⟩ <;> (try simp (disch := omega) only [nI_leI, nI_ltI, nI_eq, nz_eq, nz_lt, nz_gt, nz_le, nz_ge, nz_00, nz_n1, nI_add, pk_mul, pk_sub, nI_shl1, nI_or, nI_half2, nI_min2, la_put_eq, la_up, lr_same, lr_ne, lu_same, lu_ne, not_true_eq_false, not_false_eq_true] at c9) <;> first | (exfalso; omega) | conv => whnf)
      | (refine ⟨_, rfl, by omega, ?_⟩; conv => whnf)
      | (refine ⟨_, rfl, rfl, rfl, by decide, by decide, ?_⟩; conv => whnf)
      | (refine ⟨_, by (simp (disch := omega) only [nI_leI, nI_ltI, nI_eq, nz_eq, nz_lt, nz_gt, nz_le, nz_ge, nz_00, nz_n1, nI_add, pk_mul, pk_sub, nI_shl1, nI_or, nI_half2, nI_min2, la_put_eq, la_up, lr_same, lr_ne, lu_same, lu_ne, not_true_eq_false, not_false_eq_true]; rfl), by omega, ?_⟩; conv => whnf)
      | (refine And.intro (by first | assumption | decide) ?_; conv => whnf))
    all_goals (try simp (disch := omega) only [nI_leI, nI_ltI, nI_eq, nz_eq, nz_lt, nz_gt, nz_le, nz_ge, nz_00, nz_n1, nI_add, pk_mul, pk_sub, nI_shl1, nI_or, nI_half2, nI_min2, la_put_eq, la_up, lr_same, lr_ne, lu_same, lu_ne, not_true_eq_false, not_false_eq_true])
    refine st _ (fun s' j' => ?_) (fun j hj => ?_) (fun c i s' j' h1 h2 => ?_)
    · rw [ua_ne (by omega)]; exact hX s' j'
    · rw [ua_eq]
      unfold pm_cp
      rw [if_pos hj]
      exact hX 5 j
    · rw [ua_ne (by omega)]
theorem M_X4_weigh : ∀ k, pm_MT yX4_weigh cX4_weigh 9 2 (4 + k) (P_X4_weigh k) (pm_pl2 (Q_X4_weigh k))
  | 0 => fun _ _ _ _ _ _ _ _ hp => hp.elim
  | k + 1 => pm_met (k_X4_weigh k (M_X4_weigh k)) (by decide) rfl (by
      rintro ⟨r, gn, n, v, o, f, s, N, X, h0⟩ av h hp
      rw [hp.1]
      exact Nat.le_of_ble_eq_true rfl) (pf_X4_weigh k)
