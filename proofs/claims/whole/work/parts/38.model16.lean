/-! THE MODEL: sheets, count. -/
def mshs (h : pm_H) (t l z : Nat → Nat) : Prop := ∀ q, q < 4 → h 5 0 9 q = (if t q = 0 then (-4) else nI (l q)) ∧ h 5 0 10 q = nI (z q) ∧ t q ≤ 1 ∧ l q ≤ 2 ∧ z q ≤ 40
def P_X5_count : Int32 × LD × Nat × Nat × Nat × Nat × Nat × Nat × pm_H → List pm_V → pm_H → Prop := fun g av h => match g with
  | (w, Y, m, k0, k1, n, t, z, h0) => av = [vR 5 0 0, vI w] ∧ h = h0 ∧ md h0 Y ∧ h0 5 0 0 19 = nI m ∧ h0 5 0 8 0 = nI k0 ∧ h0 5 0 8 1 = nI k1 ∧ k0 ≤ 1 ∧ k1 ≤ 1 ∧ h0 5 0 0 7 = nI n ∧ (∃ l, h0 5 0 9 0 = (if t = 0 then (-4) else nI l) ∧ l ≤ 2) ∧ h0 5 0 10 0 = nI z ∧ t ≤ 1
def Q_X5_count : Int32 × LD × Nat × Nat × Nat × Nat × Nat × Nat × pm_H → Int32 → pm_H → Prop := fun g r h => match g with
  | (w, N, m, k0, k1, n, t, z, h0) => h = h0 ∧ r = a_count N m k0 k1 n t z w
def T_X5_count : List (Nat × pm_T) := [
  (0, i_c (nI 0) 1),
  (1, i_is 2 2),
  (2, i_c (nI 0) 3),
  (3, i_is 3 4),
  (4, i_il 3 5),
  (5, i_al 0 6),
  (6, i_gi 5 1 9),
  (9, i_icge 27 12),
  (12, i_il 2 13),
  (13, i_al 0 14),
  (14, i_gr 5 (fun i => (5, i, 1)) 17),
  (17, i_il 3 18),
  (18, i_ia 19),
  (19, i_iadd 20),
  (20, i_is 2 21),
  (21, i_inc 3 (nI 1) 24),
  (24, i_go 4),
  (27, i_il 1 28),
  (28, i_sw 0 [68, 73, 103, 108, 131, 133] 141),
  (68, i_al 0 69),
  (69, i_gi 5 19 72),
  (72, i_ir),
  (73, i_al 0 74),
  (74, i_gr 5 (fun i => (5, i, 8)) 77),
  (77, i_c (nI 0) 78),
  (78, i_za 79),
  (79, i_ifeq 86 82),
  (82, i_c (nI 1) 83),
  (83, i_go 87),
  (86, i_c (nI 0) 87),
  (87, i_al 0 88),
  (88, i_gr 5 (fun i => (5, i, 8)) 91),
  (91, i_c (nI 1) 92),
  (92, i_za 93),
  (93, i_ifeq 100 96),
  (96, i_c (nI 1) 97),
  (97, i_go 101),
  (100, i_c (nI 0) 101),
  (101, i_iadd 102),
  (102, i_ir),
  (103, i_al 0 104),
  (104, i_gi 5 7 107),
  (107, i_ir),
  (108, i_al 0 109),
  (109, i_gr 5 (fun i => (5, i, 9)) 112),
  (112, i_c (nI 0) 113),
  (113, i_ia 114),
  (114, i_c (-4) 116),
  (116, i_icne 124 119),
  (119, i_c (-4) 121),
  (121, i_go 130),
  (124, i_al 0 125),
  (125, i_gr 5 (fun i => (5, i, 10)) 128),
  (128, i_c (nI 0) 129),
  (129, i_ia 130),
  (130, i_ir),
  (131, i_il 2 132),
  (132, i_ir),
  (133, i_al 0 134),
  (134, i_gr 5 (fun i => (5, i, 1)) 137),
  (137, i_c (nI 48) 139),
  (139, i_ia 140),
  (140, i_ir),
  (141, i_c (-1) 142),
  (142, i_ir)]
theorem k_X5_count : ∀ q ∈ T_X5_count, pm_sd RX5 cX5_count 4 1 1 q.1 q.2 := by
  unfold T_X5_count
  refine pm_cn (sd_iconst (z := 0) (by decide +kernel) (by decide +kernel) rfl) ?_
  refine pm_cn (sd_isn (k := 2) (by decide +kernel) rfl rfl (by decide)) ?_
  refine pm_cn (sd_iconst (z := 0) (by decide +kernel) (by decide +kernel) rfl) ?_
  refine pm_cn (sd_isn (k := 3) (by decide +kernel) rfl rfl (by decide)) ?_
  refine pm_cn (sd_iln (k := 3) (by decide +kernel) rfl rfl) ?_
  refine pm_cn (sd_aln (k := 0) (by decide +kernel) rfl rfl) ?_
  refine pm_cn (sd_gi cl5_ in5_ (by decide) (fun _ => rfl) fl_X5_126 (by decide +kernel) rfl) ?_
  refine pm_cn (sd_icge (off := 18) (by decide +kernel) (by decide) rfl) ?_
  refine pm_cn (sd_iln (k := 2) (by decide +kernel) rfl rfl) ?_
  refine pm_cn (sd_aln (k := 0) (by decide +kernel) rfl rfl) ?_
  refine pm_cn (sd_gr cl5_ in5_ (j := 0) (by decide) (fun _ => rfl) fl_X5_7 (by decide +kernel) rfl) ?_
  refine pm_cn (sd_iln (k := 3) (by decide +kernel) rfl rfl) ?_
  refine pm_cn (sd_ia (by decide +kernel) rfl) ?_
  refine pm_cn (sd_iadd (by decide +kernel) rfl) ?_
  refine pm_cn (sd_isn (k := 2) (by decide +kernel) rfl rfl (by decide)) ?_
  refine pm_cn (sd_inc (z := 1) (by decide +kernel) (by decide +kernel) rfl (by decide)) ?_
  refine pm_cn (sd_go (off := -20) (by decide +kernel) (by decide)) ?_
  refine pm_cn (sd_iln (k := 1) (by decide +kernel) rfl rfl) ?_
  refine pm_cn (sd_sw (dflt := 113) (lo' := 0) (hi := 5) (offs := #[40, 45, 75, 80, 103, 105]) (len := 40) (by decide +kernel) rfl rfl (by decide) (by decide) (by decide)) ?_
  refine pm_cn (sd_aln (k := 0) (by decide +kernel) rfl rfl) ?_
  refine pm_cn (sd_gi cl5_ in5_ (by decide) (fun _ => rfl) fl_X5_129 (by decide +kernel) rfl) ?_
  refine pm_cn (sd_ir (by decide +kernel)) ?_
  refine pm_cn (sd_aln (k := 0) (by decide +kernel) rfl rfl) ?_
  refine pm_cn (sd_gr cl5_ in5_ (j := 21) (by decide) (fun _ => rfl) fl_X5_31 (by decide +kernel) rfl) ?_
  refine pm_cn (sd_iconst (z := 0) (by decide +kernel) (by decide +kernel) rfl) ?_
  refine pm_cn (sd_za (by decide +kernel) rfl) ?_
  refine pm_cn (sd_ifeq (off := 7) (by decide +kernel) (by decide) rfl) ?_
  refine pm_cn (sd_iconst (z := 1) (by decide +kernel) (by decide +kernel) rfl) ?_
  refine pm_cn (sd_go (off := 4) (by decide +kernel) (by decide)) ?_
  refine pm_cn (sd_iconst (z := 0) (by decide +kernel) (by decide +kernel) rfl) ?_
  refine pm_cn (sd_aln (k := 0) (by decide +kernel) rfl rfl) ?_
  refine pm_cn (sd_gr cl5_ in5_ (j := 21) (by decide) (fun _ => rfl) fl_X5_31 (by decide +kernel) rfl) ?_
  refine pm_cn (sd_iconst (z := 1) (by decide +kernel) (by decide +kernel) rfl) ?_
  refine pm_cn (sd_za (by decide +kernel) rfl) ?_
  refine pm_cn (sd_ifeq (off := 7) (by decide +kernel) (by decide) rfl) ?_
  refine pm_cn (sd_iconst (z := 1) (by decide +kernel) (by decide +kernel) rfl) ?_
  refine pm_cn (sd_go (off := 4) (by decide +kernel) (by decide)) ?_
  refine pm_cn (sd_iconst (z := 0) (by decide +kernel) (by decide +kernel) rfl) ?_
  refine pm_cn (sd_iadd (by decide +kernel) rfl) ?_
  refine pm_cn (sd_ir (by decide +kernel)) ?_
  refine pm_cn (sd_aln (k := 0) (by decide +kernel) rfl rfl) ?_
  refine pm_cn (sd_gi cl5_ in5_ (by decide) (fun _ => rfl) fl_X5_50 (by decide +kernel) rfl) ?_
  refine pm_cn (sd_ir (by decide +kernel)) ?_
  refine pm_cn (sd_aln (k := 0) (by decide +kernel) rfl rfl) ?_
  refine pm_cn (sd_gr cl5_ in5_ (j := 22) (by decide) (fun _ => rfl) fl_X5_35 (by decide +kernel) rfl) ?_
  refine pm_cn (sd_iconst (z := 0) (by decide +kernel) (by decide +kernel) rfl) ?_
  refine pm_cn (sd_ia (by decide +kernel) rfl) ?_
  refine pm_cn (sd_bipush (z := -4) (by decide +kernel) (by decide +kernel) rfl) ?_
  refine pm_cn (sd_icne (off := 8) (by decide +kernel) (by decide) rfl) ?_
  refine pm_cn (sd_bipush (z := -4) (by decide +kernel) (by decide +kernel) rfl) ?_
  refine pm_cn (sd_go (off := 9) (by decide +kernel) (by decide)) ?_
  refine pm_cn (sd_aln (k := 0) (by decide +kernel) rfl rfl) ?_
  refine pm_cn (sd_gr cl5_ in5_ (j := 23) (by decide) (fun _ => rfl) fl_X5_38 (by decide +kernel) rfl) ?_
  refine pm_cn (sd_iconst (z := 0) (by decide +kernel) (by decide +kernel) rfl) ?_
  refine pm_cn (sd_ia (by decide +kernel) rfl) ?_
  refine pm_cn (sd_ir (by decide +kernel)) ?_
  refine pm_cn (sd_iln (k := 2) (by decide +kernel) rfl rfl) ?_
  refine pm_cn (sd_ir (by decide +kernel)) ?_
  refine pm_cn (sd_aln (k := 0) (by decide +kernel) rfl rfl) ?_
  refine pm_cn (sd_gr cl5_ in5_ (j := 0) (by decide) (fun _ => rfl) fl_X5_7 (by decide +kernel) rfl) ?_
  refine pm_cn (sd_bipush (z := 48) (by decide +kernel) (by decide +kernel) rfl) ?_
  refine pm_cn (sd_ia (by decide +kernel) rfl) ?_
  refine pm_cn (sd_ir (by decide +kernel)) ?_
  refine pm_cn (sd_iconst (z := -1) (by decide +kernel) (by decide +kernel) rfl) ?_
  refine pm_cn (sd_ir (by decide +kernel)) ?_
  exact fun _ h => absurd h List.not_mem_nil
set_option maxHeartbeats 800000 in
set_option maxRecDepth 100000 in
theorem pf_X5_count : pm_pf T_X5_count P_X5_count (pm_pi Q_X5_count) := by
  rintro ⟨w, N, m, k0, k1, n, t, z, h0⟩ av h K hK ⟨rfl, rfl, ⟨hP, wN, hF⟩, e1, e2, e3, b1, b2, e4, ⟨l, e5, hl⟩, e6, b3⟩ hret
  have w1 := wN.1
  show K (some 0) ([(0, vR 5 0 0), (1, vI w)], [], h)
  have fin : ∀ a, a = sp_sum (N 1) (N 0 0) → K (some 27) ([(0, vR 5 0 0), (1, vI w), (2, vI (nI a))], [], h) := by
    intro a ha
    rcases (by omega : t = 0 ∨ t = 1) with rfl | rfl
    · rw [if_pos rfl] at e5
      rcases (by omega : k0 = 0 ∨ k0 = 1) with rfl | rfl <;> rcases (by omega : k1 = 0 ∨ k1 = 1) with rfl | rfl
      all_goals (
        refine hK [] 40 _ _ ?_
        conv => whnf
        repeat' (first
          | (refine ⟨fun c9 => ?_, fun c9 => ?_⟩ <;> (try simp (disch := omega) only [nI_leI, nI_ltI, nI_eq, nz_eq, nz_lt, nz_gt, nz_le, nz_ge, nz_00, nz_n1, nI_add, pk_mul, pk_sub, nI_shl1, nI_or, nI_half2, nI_min2, la_put_eq, la_up, lr_same, lr_ne, lu_same, lu_ne, not_true_eq_false, not_false_eq_true, e1, e2, e3, e4, e5, e6, zr2 hP, zr3 hP, zr4 hP, zr5 hP, zr6 hP, zr7 hP, zr8 hP, zrN hP, zrD hP, zrB hP, zrY hP, zrQ hP, zr1 hP, subadd] at c9) <;> first | (exfalso; omega) | conv => whnf)
          | (refine ⟨_, rfl, by omega, ?_⟩; conv => whnf)
          | (refine ⟨_, rfl, rfl, rfl, by decide, by decide, ?_⟩; conv => whnf)
          | (refine ⟨_, by (simp (disch := omega) only [nI_leI, nI_ltI, nI_eq, nz_eq, nz_lt, nz_gt, nz_le, nz_ge, nz_00, nz_n1, nI_add, pk_mul, pk_sub, nI_shl1, nI_or, nI_half2, nI_min2, la_put_eq, la_up, lr_same, lr_ne, lu_same, lu_ne, not_true_eq_false, not_false_eq_true, e1, e2, e3, e4, e5, e6, zr2 hP, zr3 hP, zr4 hP, zr5 hP, zr6 hP, zr7 hP, zr8 hP, zrN hP, zrD hP, zrB hP, zrY hP, zrQ hP, zr1 hP, subadd]; rfl), by omega, ?_⟩; conv => whnf)
          | (apply And.intro; (first | assumption | decide | (simp (disch := omega) only [nI_leI, nI_ltI, nI_eq, nz_eq, nz_lt, nz_gt, nz_le, nz_ge, nz_00, nz_n1, nI_add, pk_mul, pk_sub, nI_shl1, nI_or, nI_half2, nI_min2, la_put_eq, la_up, lr_same, lr_ne, lu_same, lu_ne, not_true_eq_false, not_false_eq_true, e1, e2, e3, e4, e5, e6, zr2 hP, zr3 hP, zr4 hP, zr5 hP, zr6 hP, zr7 hP, zr8 hP, zrN hP, zrD hP, zrB hP, zrY hP, zrQ hP, zr1 hP, subadd]; omega)); conv => whnf))
        all_goals (try simp (disch := omega) only [nI_leI, nI_ltI, nI_eq, nz_eq, nz_lt, nz_gt, nz_le, nz_ge, nz_00, nz_n1, nI_add, pk_mul, pk_sub, nI_shl1, nI_or, nI_half2, nI_min2, la_put_eq, la_up, lr_same, lr_ne, lu_same, lu_ne, not_true_eq_false, not_false_eq_true, e1, e2, e3, e4, e5, e6, zr2 hP, zr3 hP, zr4 hP, zr5 hP, zr6 hP, zr7 hP, zr8 hP, zrN hP, zrD hP, zrB hP, zrY hP, zrQ hP, zr1 hP, subadd])
      )
      all_goals first
        | exact absurd rfl (by assumption)
        | (refine hret _ _ ⟨rfl, ?_⟩; unfold a_count; simp (disch := omega) [*, nI_eq]; done)
    · rw [if_neg (by decide)] at e5
      rcases (by omega : k0 = 0 ∨ k0 = 1) with rfl | rfl <;> rcases (by omega : k1 = 0 ∨ k1 = 1) with rfl | rfl
      all_goals (
        refine hK [] 40 _ _ ?_
        conv => whnf
        repeat' (first
          | (refine ⟨fun c9 => ?_, fun c9 => ?_⟩ <;> (try simp (disch := omega) only [nI_leI, nI_ltI, nI_eq, nz_eq, nz_lt, nz_gt, nz_le, nz_ge, nz_00, nz_n1, nI_add, pk_mul, pk_sub, nI_shl1, nI_or, nI_half2, nI_min2, la_put_eq, la_up, lr_same, lr_ne, lu_same, lu_ne, not_true_eq_false, not_false_eq_true, e1, e2, e3, e4, e5, e6, nI_n4, zr2 hP, zr3 hP, zr4 hP, zr5 hP, zr6 hP, zr7 hP, zr8 hP, zrN hP, zrD hP, zrB hP, zrY hP, zrQ hP, zr1 hP, subadd] at c9) <;> first | (exfalso; omega) | conv => whnf)
          | (refine ⟨_, rfl, by omega, ?_⟩; conv => whnf)
          | (refine ⟨_, rfl, rfl, rfl, by decide, by decide, ?_⟩; conv => whnf)
          | (refine ⟨_, by (simp (disch := omega) only [nI_leI, nI_ltI, nI_eq, nz_eq, nz_lt, nz_gt, nz_le, nz_ge, nz_00, nz_n1, nI_add, pk_mul, pk_sub, nI_shl1, nI_or, nI_half2, nI_min2, la_put_eq, la_up, lr_same, lr_ne, lu_same, lu_ne, not_true_eq_false, not_false_eq_true, e1, e2, e3, e4, e5, e6, nI_n4, zr2 hP, zr3 hP, zr4 hP, zr5 hP, zr6 hP, zr7 hP, zr8 hP, zrN hP, zrD hP, zrB hP, zrY hP, zrQ hP, zr1 hP, subadd]; rfl), by omega, ?_⟩; conv => whnf)
          | (apply And.intro; (first | assumption | decide | (simp (disch := omega) only [nI_leI, nI_ltI, nI_eq, nz_eq, nz_lt, nz_gt, nz_le, nz_ge, nz_00, nz_n1, nI_add, pk_mul, pk_sub, nI_shl1, nI_or, nI_half2, nI_min2, la_put_eq, la_up, lr_same, lr_ne, lu_same, lu_ne, not_true_eq_false, not_false_eq_true, e1, e2, e3, e4, e5, e6, nI_n4, zr2 hP, zr3 hP, zr4 hP, zr5 hP, zr6 hP, zr7 hP, zr8 hP, zrN hP, zrD hP, zrB hP, zrY hP, zrQ hP, zr1 hP, subadd]; omega)); conv => whnf))
        all_goals (try simp (disch := omega) only [nI_leI, nI_ltI, nI_eq, nz_eq, nz_lt, nz_gt, nz_le, nz_ge, nz_00, nz_n1, nI_add, pk_mul, pk_sub, nI_shl1, nI_or, nI_half2, nI_min2, la_put_eq, la_up, lr_same, lr_ne, lu_same, lu_ne, not_true_eq_false, not_false_eq_true, e1, e2, e3, e4, e5, e6, nI_n4, zr2 hP, zr3 hP, zr4 hP, zr5 hP, zr6 hP, zr7 hP, zr8 hP, zrN hP, zrD hP, zrB hP, zrY hP, zrQ hP, zr1 hP, subadd])
      )
      all_goals (refine hret _ _ ⟨rfl, ?_⟩; unfold a_count; simp (disch := omega) [*, nI_eq]; done)
  have loop : ∀ n k a, k + n = N 0 0 → a = sp_sum (N 1) k → K (some 4) ([(0, vR 5 0 0), (1, vI w), (2, vI (nI a)), (3, vI (nI k))], [], h) := by
    intro n
    induction n with
    | zero =>
      intro k a hk ha
      refine hK [(4, [0, 1, 2, 3]), (27, [0, 1, 2])] 80 _ _ ?_
      conv => whnf
      repeat' (first
        | (refine ⟨fun c9 => ?_, fun c9 => ?_⟩ <;> (try simp (disch := omega) only [nI_leI, nI_ltI, nI_eq, nz_eq, nz_lt, nz_gt, nz_le, nz_ge, nz_00, nz_n1, nI_add, pk_mul, pk_sub, nI_shl1, nI_or, nI_half2, nI_min2, la_put_eq, la_up, lr_same, lr_ne, lu_same, lu_ne, not_true_eq_false, not_false_eq_true, hF] at c9) <;> first | (exfalso; omega) | conv => whnf)
        | (refine ⟨_, rfl, by omega, ?_⟩; conv => whnf)
        | (refine ⟨_, rfl, rfl, rfl, by decide, by decide, ?_⟩; conv => whnf)
        | (refine ⟨_, by (simp (disch := omega) only [nI_leI, nI_ltI, nI_eq, nz_eq, nz_lt, nz_gt, nz_le, nz_ge, nz_00, nz_n1, nI_add, pk_mul, pk_sub, nI_shl1, nI_or, nI_half2, nI_min2, la_put_eq, la_up, lr_same, lr_ne, lu_same, lu_ne, not_true_eq_false, not_false_eq_true, hF]; rfl), by omega, ?_⟩; conv => whnf)
        | (apply And.intro; (first | assumption | decide | (simp (disch := omega) only [nI_leI, nI_ltI, nI_eq, nz_eq, nz_lt, nz_gt, nz_le, nz_ge, nz_00, nz_n1, nI_add, pk_mul, pk_sub, nI_shl1, nI_or, nI_half2, nI_min2, la_put_eq, la_up, lr_same, lr_ne, lu_same, lu_ne, not_true_eq_false, not_false_eq_true, hF]; omega)); conv => whnf))
      all_goals (try simp (disch := omega) only [nI_leI, nI_ltI, nI_eq, nz_eq, nz_lt, nz_gt, nz_le, nz_ge, nz_00, nz_n1, nI_add, pk_mul, pk_sub, nI_shl1, nI_or, nI_half2, nI_min2, la_put_eq, la_up, lr_same, lr_ne, lu_same, lu_ne, not_true_eq_false, not_false_eq_true, hF])
      have : k = N 0 0 := by omega
      subst this
      exact fin a ha
    | succ n ih =>
      intro k a hk ha
      refine hK [(4, [0, 1, 2, 3]), (27, [0, 1, 2])] 80 _ _ ?_
      conv => whnf
      repeat' (first
        | (refine ⟨fun c9 => ?_, fun c9 => ?_⟩ <;> (try simp (disch := omega) only [nI_leI, nI_ltI, nI_eq, nz_eq, nz_lt, nz_gt, nz_le, nz_ge, nz_00, nz_n1, nI_add, pk_mul, pk_sub, nI_shl1, nI_or, nI_half2, nI_min2, la_put_eq, la_up, lr_same, lr_ne, lu_same, lu_ne, not_true_eq_false, not_false_eq_true, hF, zr2 hP, zr3 hP, zr4 hP, zr5 hP, zr6 hP, zr7 hP, zr8 hP, zrN hP, zrD hP, zrB hP, zrY hP, zrQ hP, zr1 hP, subadd] at c9) <;> first | (exfalso; omega) | conv => whnf)
        | (refine ⟨_, rfl, by omega, ?_⟩; conv => whnf)
        | (refine ⟨_, rfl, rfl, rfl, by decide, by decide, ?_⟩; conv => whnf)
        | (refine ⟨_, by (simp (disch := omega) only [nI_leI, nI_ltI, nI_eq, nz_eq, nz_lt, nz_gt, nz_le, nz_ge, nz_00, nz_n1, nI_add, pk_mul, pk_sub, nI_shl1, nI_or, nI_half2, nI_min2, la_put_eq, la_up, lr_same, lr_ne, lu_same, lu_ne, not_true_eq_false, not_false_eq_true, hF, zr2 hP, zr3 hP, zr4 hP, zr5 hP, zr6 hP, zr7 hP, zr8 hP, zrN hP, zrD hP, zrB hP, zrY hP, zrQ hP, zr1 hP, subadd]; rfl), by omega, ?_⟩; conv => whnf)
        | (apply And.intro; (first | assumption | decide | (simp (disch := omega) only [nI_leI, nI_ltI, nI_eq, nz_eq, nz_lt, nz_gt, nz_le, nz_ge, nz_00, nz_n1, nI_add, pk_mul, pk_sub, nI_shl1, nI_or, nI_half2, nI_min2, la_put_eq, la_up, lr_same, lr_ne, lu_same, lu_ne, not_true_eq_false, not_false_eq_true, hF, zr2 hP, zr3 hP, zr4 hP, zr5 hP, zr6 hP, zr7 hP, zr8 hP, zrN hP, zrD hP, zrB hP, zrY hP, zrQ hP, zr1 hP, subadd]; omega)); conv => whnf))
      all_goals (try simp (disch := omega) only [nI_leI, nI_ltI, nI_eq, nz_eq, nz_lt, nz_gt, nz_le, nz_ge, nz_00, nz_n1, nI_add, pk_mul, pk_sub, nI_shl1, nI_or, nI_half2, nI_min2, la_put_eq, la_up, lr_same, lr_ne, lu_same, lu_ne, not_true_eq_false, not_false_eq_true, hF, zr2 hP, zr3 hP, zr4 hP, zr5 hP, zr6 hP, zr7 hP, zr8 hP, zrN hP, zrD hP, zrB hP, zrY hP, zrQ hP, zr1 hP, subadd])
      refine ih (k + 1) _ (by omega) ?_
      rw [sp_sum, ← ha]
  refine hK [(4, [0, 1, 2, 3])] 80 _ _ ?_
  conv => whnf
  repeat' (first
    | (refine ⟨fun c9 => ?_, fun c9 => ?_⟩ <;> (try simp (disch := omega) only [nI_leI, nI_ltI, nI_eq, nz_eq, nz_lt, nz_gt, nz_le, nz_ge, nz_00, nz_n1, nI_add, pk_mul, pk_sub, nI_shl1, nI_or, nI_half2, nI_min2, la_put_eq, la_up, lr_same, lr_ne, lu_same, lu_ne, not_true_eq_false, not_false_eq_true] at c9) <;> first | (exfalso; omega) | conv => whnf)
    | (refine ⟨_, rfl, by omega, ?_⟩; conv => whnf)
    | (refine ⟨_, rfl, rfl, rfl, by decide, by decide, ?_⟩; conv => whnf)
    | (refine ⟨_, by (simp (disch := omega) only [nI_leI, nI_ltI, nI_eq, nz_eq, nz_lt, nz_gt, nz_le, nz_ge, nz_00, nz_n1, nI_add, pk_mul, pk_sub, nI_shl1, nI_or, nI_half2, nI_min2, la_put_eq, la_up, lr_same, lr_ne, lu_same, lu_ne, not_true_eq_false, not_false_eq_true]; rfl), by omega, ?_⟩; conv => whnf)
    | (apply And.intro; (first | assumption | decide | (simp (disch := omega) only [nI_leI, nI_ltI, nI_eq, nz_eq, nz_lt, nz_gt, nz_le, nz_ge, nz_00, nz_n1, nI_add, pk_mul, pk_sub, nI_shl1, nI_or, nI_half2, nI_min2, la_put_eq, la_up, lr_same, lr_ne, lu_same, lu_ne, not_true_eq_false, not_false_eq_true]; omega)); conv => whnf))
  all_goals (try simp (disch := omega) only [nI_leI, nI_ltI, nI_eq, nz_eq, nz_lt, nz_gt, nz_le, nz_ge, nz_00, nz_n1, nI_add, pk_mul, pk_sub, nI_shl1, nI_or, nI_half2, nI_min2, la_put_eq, la_up, lr_same, lr_ne, lu_same, lu_ne, not_true_eq_false, not_false_eq_true])
  exact loop (N 0 0) 0 0 (by omega) rfl
theorem M_X5_count : pm_MT yX5_count cX5_count 4 1 1 P_X5_count (pm_pi Q_X5_count) := pm_met k_X5_count (by decide) rfl (by
  rintro ⟨g0, g1, g2, g3, g4, g5, g6, g7, g8⟩ av h hp
  rw [hp.1]
  exact Nat.le_of_ble_eq_true rfl) pf_X5_count
theorem rc_X5_count : ∀ g av h, P_X5_count g av h → ∃ i t, av = .inr (.inr (5, i, 0)) :: t := by
  rintro ⟨g0, g1, g2, g3, g4, g5, g6, g7, g8⟩ av h hp
  exact ⟨_, _, hp.1⟩
def msh_put (h : pm_H) (q x z n : Nat) : pm_H := fun c i s j => if c = 5 ∧ i = 0 ∧ s = 11 ∧ 40 * q ≤ j ∧ j < 40 * q + n then nI 0 else pm_up (pm_up h 5 0 9 q (nI x)) 5 0 10 q (nI z) c i s j
def P_X5_sheet : Int32 × Int32 × Int32 × pm_H → List pm_V → pm_H → Prop := fun g av h => match g with
  | (k, l, n, h0) => av = [vR 5 0 0, vI k, vI l, vI n] ∧ h = h0
def Q_X5_sheet : Int32 × Int32 × Int32 × pm_H → Int32 → pm_H → Prop := fun g r h => match g with
  | (k, l, n, h0) => (∃ q x z, q < 4 ∧ x ≤ 2 ∧ z ≤ 40 ∧ k = nI q ∧ l = nI x ∧ n = nI z ∧ r = nI 1 ∧ h = msh_put h0 q x z 40) ∨ ((wi k 0 3 ∧ wi l 0 2 ∧ n ≤ nI 40) ∧ n < 0 ∧ r = -14 ∧ h = h0) ∨ (¬ (wi k 0 3 ∧ wi l 0 2 ∧ n ≤ nI 40) ∧ r = -1 ∧ h = h0)
theorem msh_up (h : pm_H) (q x z n : Nat) : pm_up (msh_put h q x z n) 5 0 11 (40 * q + n) (nI 0) = msh_put h q x z (n + 1) := by
  funext c i s j
  by_cases h1 : c = 5 ∧ i = 0 ∧ s = 11 ∧ j = 40 * q + n
  · obtain ⟨rfl, rfl, rfl, rfl⟩ := h1
    rw [pm_up_eq]
    unfold msh_put
    rw [if_pos ⟨rfl, rfl, rfl, by omega, by omega⟩]
  · rw [pm_up_ne h1]
    unfold msh_put
    by_cases h2 : c = 5 ∧ i = 0 ∧ s = 11 ∧ 40 * q ≤ j ∧ j < 40 * q + n
    · rw [if_pos h2, if_pos (by omega)]
    · rw [if_neg h2, if_neg (by omega)]
theorem msh_0 (h : pm_H) (q x z : Nat) : pm_up (pm_up h 5 0 9 q (nI x)) 5 0 10 q (nI z) = msh_put h q x z 0 := by
  funext c i s j
  unfold msh_put
  rw [if_neg (by omega)]
def T_X5_sheet : List (Nat × pm_T) := [
  (0, i_il 1 1),
  (1, i_i2l 2),
  (2, i_cl (lN 0) 3),
  (3, i_cl (lN 3) 6),
  (6, i_ci 3 P_X5_in Q_X5_in 9),
  (9, i_ifeq 30 12),
  (12, i_il 2 13),
  (13, i_i2l 14),
  (14, i_cl (lN 0) 15),
  (15, i_cl (lN 2) 18),
  (18, i_ci 3 P_X5_in Q_X5_in 21),
  (21, i_ifeq 30 24),
  (24, i_il 3 25),
  (25, i_c (nI 40) 27),
  (27, i_icle 32 30),
  (30, i_c (-1) 31),
  (31, i_ir),
  (32, i_il 3 33),
  (33, i_ifge 39 36),
  (36, i_c (-14) 38),
  (38, i_ir),
  (39, i_al 0 40),
  (40, i_gr 5 (fun i => (5, i, 9)) 43),
  (43, i_il 1 44),
  (44, i_il 2 45),
  (45, i_ias 46),
  (46, i_al 0 47),
  (47, i_gr 5 (fun i => (5, i, 10)) 50),
  (50, i_il 1 51),
  (51, i_il 3 52),
  (52, i_ias 53),
  (53, i_c (nI 0) 54),
  (54, i_is 4 56),
  (56, i_il 4 58),
  (58, i_c (nI 40) 60),
  (60, i_icge 82 63),
  (63, i_al 0 64),
  (64, i_gr 5 (fun i => (5, i, 11)) 67),
  (67, i_c (nI 40) 69),
  (69, i_il 1 70),
  (70, i_imul 71),
  (71, i_il 4 73),
  (73, i_iadd 74),
  (74, i_c (nI 0) 75),
  (75, i_ias 76),
  (76, i_inc 4 (nI 1) 79),
  (79, i_go 56),
  (82, i_c (nI 1) 83),
  (83, i_ir)]
theorem k_X5_sheet : ∀ q ∈ T_X5_sheet, pm_sd RX5 cX5_sheet 5 2 1 q.1 q.2 := by
  unfold T_X5_sheet
  refine pm_cn (sd_iln (k := 1) (by decide +kernel) rfl rfl) ?_
  refine pm_cn (sd_i2l (by decide +kernel) rfl) ?_
  refine pm_cn (sd_lconst (z := 0) (by decide +kernel) (by decide +kernel) rfl) ?_
  refine pm_cn (sd_ldc2 (k := 167) (by decide +kernel) (pm_tin (by decide +kernel) rfl) rfl) ?_
  refine pm_cn (sd_cis M_X5_in (by decide) cd_X5_in ml_X5_46 st_X5_in nt_X5 (by decide +kernel) (by omega) (by decide) (by decide +kernel) rfl) ?_
  refine pm_cn (sd_ifeq (off := 21) (by decide +kernel) (by decide) rfl) ?_
  refine pm_cn (sd_iln (k := 2) (by decide +kernel) rfl rfl) ?_
  refine pm_cn (sd_i2l (by decide +kernel) rfl) ?_
  refine pm_cn (sd_lconst (z := 0) (by decide +kernel) (by decide +kernel) rfl) ?_
  refine pm_cn (sd_ldc2 (k := 229) (by decide +kernel) (pm_tin (by decide +kernel) rfl) rfl) ?_
  refine pm_cn (sd_cis M_X5_in (by decide) cd_X5_in ml_X5_46 st_X5_in nt_X5 (by decide +kernel) (by omega) (by decide) (by decide +kernel) rfl) ?_
  refine pm_cn (sd_ifeq (off := 9) (by decide +kernel) (by decide) rfl) ?_
  refine pm_cn (sd_iln (k := 3) (by decide +kernel) rfl rfl) ?_
  refine pm_cn (sd_bipush (z := 40) (by decide +kernel) (by decide +kernel) rfl) ?_
  refine pm_cn (sd_icle (off := 5) (by decide +kernel) (by decide) rfl) ?_
  refine pm_cn (sd_iconst (z := -1) (by decide +kernel) (by decide +kernel) rfl) ?_
  refine pm_cn (sd_ir (by decide +kernel)) ?_
  refine pm_cn (sd_iln (k := 3) (by decide +kernel) rfl rfl) ?_
  refine pm_cn (sd_ifge (off := 6) (by decide +kernel) (by decide) rfl) ?_
  refine pm_cn (sd_bipush (z := -14) (by decide +kernel) (by decide +kernel) rfl) ?_
  refine pm_cn (sd_ir (by decide +kernel)) ?_
  refine pm_cn (sd_aln (k := 0) (by decide +kernel) rfl rfl) ?_
  refine pm_cn (sd_gr cl5_ in5_ (j := 22) (by decide) (fun _ => rfl) fl_X5_35 (by decide +kernel) rfl) ?_
  refine pm_cn (sd_iln (k := 1) (by decide +kernel) rfl rfl) ?_
  refine pm_cn (sd_iln (k := 2) (by decide +kernel) rfl rfl) ?_
  refine pm_cn (sd_ias (by decide +kernel) rfl) ?_
  refine pm_cn (sd_aln (k := 0) (by decide +kernel) rfl rfl) ?_
  refine pm_cn (sd_gr cl5_ in5_ (j := 23) (by decide) (fun _ => rfl) fl_X5_38 (by decide +kernel) rfl) ?_
  refine pm_cn (sd_iln (k := 1) (by decide +kernel) rfl rfl) ?_
  refine pm_cn (sd_iln (k := 3) (by decide +kernel) rfl rfl) ?_
  refine pm_cn (sd_ias (by decide +kernel) rfl) ?_
  refine pm_cn (sd_iconst (z := 0) (by decide +kernel) (by decide +kernel) rfl) ?_
  refine pm_cn (sd_is (by decide +kernel) rfl (by decide)) ?_
  refine pm_cn (sd_il (by decide +kernel) rfl) ?_
  refine pm_cn (sd_bipush (z := 40) (by decide +kernel) (by decide +kernel) rfl) ?_
  refine pm_cn (sd_icge (off := 22) (by decide +kernel) (by decide) rfl) ?_
  refine pm_cn (sd_aln (k := 0) (by decide +kernel) rfl rfl) ?_
  refine pm_cn (sd_gr cl5_ in5_ (j := 24) (by decide) (fun _ => rfl) fl_X5_41 (by decide +kernel) rfl) ?_
  refine pm_cn (sd_bipush (z := 40) (by decide +kernel) (by decide +kernel) rfl) ?_
  refine pm_cn (sd_iln (k := 1) (by decide +kernel) rfl rfl) ?_
  refine pm_cn (sd_imul (by decide +kernel) rfl) ?_
  refine pm_cn (sd_il (by decide +kernel) rfl) ?_
  refine pm_cn (sd_iadd (by decide +kernel) rfl) ?_
  refine pm_cn (sd_iconst (z := 0) (by decide +kernel) (by decide +kernel) rfl) ?_
  refine pm_cn (sd_ias (by decide +kernel) rfl) ?_
  refine pm_cn (sd_inc (z := 1) (by decide +kernel) (by decide +kernel) rfl (by decide)) ?_
  refine pm_cn (sd_go (off := -23) (by decide +kernel) (by decide)) ?_
  refine pm_cn (sd_iconst (z := 1) (by decide +kernel) (by decide +kernel) rfl) ?_
  refine pm_cn (sd_ir (by decide +kernel)) ?_
  exact fun _ h => absurd h List.not_mem_nil
set_option maxHeartbeats 800000 in
set_option maxRecDepth 100000 in
theorem pf_X5_sheet : pm_pf T_X5_sheet P_X5_sheet (pm_pi Q_X5_sheet) := by
  rintro ⟨k, l, n, h0⟩ av h K hK ⟨rfl, rfl⟩ hret
  show K (some 0) ([(0, vR 5 0 0), (1, vI k), (2, vI l), (3, vI n)], [], h)
  refine hK [(56, [0, 1, 4])] 80 _ _ ?_
  conv => whnf
  repeat' (first
    | (refine ⟨fun c9 => ?_, fun c9 => ?_⟩ <;> (try simp (disch := omega) only [nI_leI, nI_ltI, nI_eq, nz_eq, nz_lt, nz_gt, nz_le, nz_ge, nz_00, nz_n1, nI_add, pk_mul, pk_sub, nI_shl1, nI_or, nI_half2, nI_min2, la_put_eq, la_up, lr_same, lr_ne, lu_same, lu_ne, not_true_eq_false, not_false_eq_true] at c9) <;> first | (exfalso; omega) | conv => whnf)
    | (refine ⟨_, rfl, by omega, ?_⟩; conv => whnf)
    | (refine ⟨_, rfl, rfl, rfl, by decide, by decide, ?_⟩; conv => whnf)
    | (refine ⟨_, by (simp (disch := omega) only [nI_leI, nI_ltI, nI_eq, nz_eq, nz_lt, nz_gt, nz_le, nz_ge, nz_00, nz_n1, nI_add, pk_mul, pk_sub, nI_shl1, nI_or, nI_half2, nI_min2, la_put_eq, la_up, lr_same, lr_ne, lu_same, lu_ne, not_true_eq_false, not_false_eq_true]; rfl), by omega, ?_⟩; conv => whnf)
    | (apply And.intro; (first | assumption | decide | (simp (disch := omega) only [nI_leI, nI_ltI, nI_eq, nz_eq, nz_lt, nz_gt, nz_le, nz_ge, nz_00, nz_n1, nI_add, pk_mul, pk_sub, nI_shl1, nI_or, nI_half2, nI_min2, la_put_eq, la_up, lr_same, lr_ne, lu_same, lu_ne, not_true_eq_false, not_false_eq_true]; omega)); conv => whnf))
  all_goals (try simp (disch := omega) only [nI_leI, nI_ltI, nI_eq, nz_eq, nz_lt, nz_gt, nz_le, nz_ge, nz_00, nz_n1, nI_add, pk_mul, pk_sub, nI_shl1, nI_or, nI_half2, nI_min2, la_put_eq, la_up, lr_same, lr_ne, lu_same, lu_ne, not_true_eq_false, not_false_eq_true])
  refine ⟨(k.toInt64, lN 0, lN 3, h), ⟨rfl, rfl⟩, fun r h' hq => ?_⟩
  obtain ⟨rfl, ⟨hk, rfl⟩ | ⟨hc, rfl⟩⟩ := Q_in (by decide) (by decide) hq
  · conv => whnf
    repeat' (first
      | (refine ⟨fun c9 => ?_, fun c9 => ?_⟩ <;> (try simp (disch := omega) only [nI_leI, nI_ltI, nI_eq, nz_eq, nz_lt, nz_gt, nz_le, nz_ge, nz_00, nz_n1, nI_add, pk_mul, pk_sub, nI_shl1, nI_or, nI_half2, nI_min2, la_put_eq, la_up, lr_same, lr_ne, lu_same, lu_ne, not_true_eq_false, not_false_eq_true] at c9) <;> first | (exfalso; omega) | conv => whnf)
      | (refine ⟨_, rfl, by omega, ?_⟩; conv => whnf)
      | (refine ⟨_, rfl, rfl, rfl, by decide, by decide, ?_⟩; conv => whnf)
      | (refine ⟨_, by (simp (disch := omega) only [nI_leI, nI_ltI, nI_eq, nz_eq, nz_lt, nz_gt, nz_le, nz_ge, nz_00, nz_n1, nI_add, pk_mul, pk_sub, nI_shl1, nI_or, nI_half2, nI_min2, la_put_eq, la_up, lr_same, lr_ne, lu_same, lu_ne, not_true_eq_false, not_false_eq_true]; rfl), by omega, ?_⟩; conv => whnf)
      | (apply And.intro; (first | assumption | decide | (simp (disch := omega) only [nI_leI, nI_ltI, nI_eq, nz_eq, nz_lt, nz_gt, nz_le, nz_ge, nz_00, nz_n1, nI_add, pk_mul, pk_sub, nI_shl1, nI_or, nI_half2, nI_min2, la_put_eq, la_up, lr_same, lr_ne, lu_same, lu_ne, not_true_eq_false, not_false_eq_true]; omega)); conv => whnf))
    all_goals (try simp (disch := omega) only [nI_leI, nI_ltI, nI_eq, nz_eq, nz_lt, nz_gt, nz_le, nz_ge, nz_00, nz_n1, nI_add, pk_mul, pk_sub, nI_shl1, nI_or, nI_half2, nI_min2, la_put_eq, la_up, lr_same, lr_ne, lu_same, lu_ne, not_true_eq_false, not_false_eq_true])
    refine ⟨(l.toInt64, lN 0, lN 2, _), ⟨rfl, rfl⟩, fun r h' hq => ?_⟩
    obtain ⟨rfl, ⟨hl, rfl⟩ | ⟨hc, rfl⟩⟩ := Q_in (by decide) (by decide) hq
    · obtain ⟨q, q1, q2, rfl⟩ := id hk
      obtain ⟨x, x1, x2, rfl⟩ := id hl
      conv => whnf
      repeat' (first
        | (refine ⟨fun c9 => ?_, fun c9 => ?_⟩ <;> (try simp (disch := omega) only [nI_leI, nI_ltI, nI_eq, nz_eq, nz_lt, nz_gt, nz_le, nz_ge, nz_00, nz_n1, nI_add, pk_mul, pk_sub, nI_shl1, nI_or, nI_half2, nI_min2, la_put_eq, la_up, lr_same, lr_ne, lu_same, lu_ne, not_true_eq_false, not_false_eq_true] at c9) <;> first | (exfalso; omega) | conv => whnf)
        | (refine ⟨_, rfl, by omega, ?_⟩; conv => whnf)
        | (refine ⟨_, rfl, rfl, rfl, by decide, by decide, ?_⟩; conv => whnf)
        | (refine ⟨_, by (simp (disch := omega) only [nI_leI, nI_ltI, nI_eq, nz_eq, nz_lt, nz_gt, nz_le, nz_ge, nz_00, nz_n1, nI_add, pk_mul, pk_sub, nI_shl1, nI_or, nI_half2, nI_min2, la_put_eq, la_up, lr_same, lr_ne, lu_same, lu_ne, not_true_eq_false, not_false_eq_true]; rfl), by omega, ?_⟩; conv => whnf)
        | (apply And.intro; (first | assumption | decide | (simp (disch := omega) only [nI_leI, nI_ltI, nI_eq, nz_eq, nz_lt, nz_gt, nz_le, nz_ge, nz_00, nz_n1, nI_add, pk_mul, pk_sub, nI_shl1, nI_or, nI_half2, nI_min2, la_put_eq, la_up, lr_same, lr_ne, lu_same, lu_ne, not_true_eq_false, not_false_eq_true]; omega)); conv => whnf))
      all_goals (try simp (disch := omega) only [nI_leI, nI_ltI, nI_eq, nz_eq, nz_lt, nz_gt, nz_le, nz_ge, nz_00, nz_n1, nI_add, pk_mul, pk_sub, nI_shl1, nI_or, nI_half2, nI_min2, la_put_eq, la_up, lr_same, lr_ne, lu_same, lu_ne, not_true_eq_false, not_false_eq_true])
      · have c1 : n ≤ nI 40 := by assumption
        have c2 : nI 0 ≤ n := by assumption
        obtain ⟨z, z1, rfl⟩ := nI_of (x := n) (Int32.not_lt.mpr c2)
        have hz : z ≤ 40 := by rw [nI_leI z1 (by decide)] at c1; exact c1
        have loop : ∀ m j, j + m = 40 → K (some 56) ([(0, vR 5 0 0), (1, vI (nI q)), (4, vI (nI j))], [], msh_put h' q x z j) := by
          intro m
          induction m with
          | zero =>
            intro j hj
            refine hK [(56, [0, 1, 4])] 40 _ _ ?_
            conv => whnf
            repeat' (first
              | (refine ⟨fun c9 => ?_, fun c9 => ?_⟩ <;> (try simp (disch := omega) only [nI_leI, nI_ltI, nI_eq, nz_eq, nz_lt, nz_gt, nz_le, nz_ge, nz_00, nz_n1, nI_add, pk_mul, pk_sub, nI_shl1, nI_or, nI_half2, nI_min2, la_put_eq, la_up, lr_same, lr_ne, lu_same, lu_ne, not_true_eq_false, not_false_eq_true] at c9) <;> first | (exfalso; omega) | conv => whnf)
              | (refine ⟨_, rfl, by omega, ?_⟩; conv => whnf)
              | (refine ⟨_, rfl, rfl, rfl, by decide, by decide, ?_⟩; conv => whnf)
              | (refine ⟨_, by (simp (disch := omega) only [nI_leI, nI_ltI, nI_eq, nz_eq, nz_lt, nz_gt, nz_le, nz_ge, nz_00, nz_n1, nI_add, pk_mul, pk_sub, nI_shl1, nI_or, nI_half2, nI_min2, la_put_eq, la_up, lr_same, lr_ne, lu_same, lu_ne, not_true_eq_false, not_false_eq_true]; rfl), by omega, ?_⟩; conv => whnf)
              | (apply And.intro; (first | assumption | decide | (simp (disch := omega) only [nI_leI, nI_ltI, nI_eq, nz_eq, nz_lt, nz_gt, nz_le, nz_ge, nz_00, nz_n1, nI_add, pk_mul, pk_sub, nI_shl1, nI_or, nI_half2, nI_min2, la_put_eq, la_up, lr_same, lr_ne, lu_same, lu_ne, not_true_eq_false, not_false_eq_true]; omega)); conv => whnf))
            all_goals (try simp (disch := omega) only [nI_leI, nI_ltI, nI_eq, nz_eq, nz_lt, nz_gt, nz_le, nz_ge, nz_00, nz_n1, nI_add, pk_mul, pk_sub, nI_shl1, nI_or, nI_half2, nI_min2, la_put_eq, la_up, lr_same, lr_ne, lu_same, lu_ne, not_true_eq_false, not_false_eq_true])
            have : j = 40 := by omega
            subst this
            exact hret _ _ (Or.inl ⟨q, x, z, by omega, x2, hz, rfl, rfl, rfl, rfl, rfl⟩)
          | succ m ih =>
            intro j hj
            refine hK [(56, [0, 1, 4])] 40 _ _ ?_
            conv => whnf
            repeat' (first
              | (refine ⟨fun c9 => ?_, fun c9 => ?_⟩ <;> (try simp (disch := omega) only [nI_leI, nI_ltI, nI_eq, nz_eq, nz_lt, nz_gt, nz_le, nz_ge, nz_00, nz_n1, nI_add, pk_mul, pk_sub, nI_shl1, nI_or, nI_half2, nI_min2, la_put_eq, la_up, lr_same, lr_ne, lu_same, lu_ne, not_true_eq_false, not_false_eq_true, msh_up] at c9) <;> first | (exfalso; omega) | conv => whnf)
              | (refine ⟨_, rfl, by omega, ?_⟩; conv => whnf)
              | (refine ⟨_, rfl, rfl, rfl, by decide, by decide, ?_⟩; conv => whnf)
              | (refine ⟨_, by (simp (disch := omega) only [nI_leI, nI_ltI, nI_eq, nz_eq, nz_lt, nz_gt, nz_le, nz_ge, nz_00, nz_n1, nI_add, pk_mul, pk_sub, nI_shl1, nI_or, nI_half2, nI_min2, la_put_eq, la_up, lr_same, lr_ne, lu_same, lu_ne, not_true_eq_false, not_false_eq_true, msh_up]; rfl), by omega, ?_⟩; conv => whnf)
              | (apply And.intro; (first | assumption | decide | (simp (disch := omega) only [nI_leI, nI_ltI, nI_eq, nz_eq, nz_lt, nz_gt, nz_le, nz_ge, nz_00, nz_n1, nI_add, pk_mul, pk_sub, nI_shl1, nI_or, nI_half2, nI_min2, la_put_eq, la_up, lr_same, lr_ne, lu_same, lu_ne, not_true_eq_false, not_false_eq_true, msh_up]; omega)); conv => whnf))
            all_goals (try simp (disch := omega) only [nI_leI, nI_ltI, nI_eq, nz_eq, nz_lt, nz_gt, nz_le, nz_ge, nz_00, nz_n1, nI_add, pk_mul, pk_sub, nI_shl1, nI_or, nI_half2, nI_min2, la_put_eq, la_up, lr_same, lr_ne, lu_same, lu_ne, not_true_eq_false, not_false_eq_true, msh_up])
            exact ih (j + 1) (by omega)
        rw [msh_0]
        exact loop 40 0 (by omega)
      · have c1 : n ≤ nI 40 := by assumption
        have c2 : ¬ nI 0 ≤ n := by assumption
        exact hret _ _ (Or.inr (Or.inl ⟨⟨hk, hl, c1⟩, Int32.not_le.mp c2, rfl, rfl⟩))
      · have c1 : ¬ n ≤ nI 40 := by assumption
        exact hret _ _ (Or.inr (Or.inr ⟨fun q => c1 q.2.2, rfl, rfl⟩))
    · conv => whnf
      repeat' (first
        | (refine ⟨fun c9 => ?_, fun c9 => ?_⟩ <;> (try simp (disch := omega) only [nI_leI, nI_ltI, nI_eq, nz_eq, nz_lt, nz_gt, nz_le, nz_ge, nz_00, nz_n1, nI_add, pk_mul, pk_sub, nI_shl1, nI_or, nI_half2, nI_min2, la_put_eq, la_up, lr_same, lr_ne, lu_same, lu_ne, not_true_eq_false, not_false_eq_true] at c9) <;> first | (exfalso; omega) | conv => whnf)
        | (refine ⟨_, rfl, by omega, ?_⟩; conv => whnf)
        | (refine ⟨_, rfl, rfl, rfl, by decide, by decide, ?_⟩; conv => whnf)
        | (refine ⟨_, by (simp (disch := omega) only [nI_leI, nI_ltI, nI_eq, nz_eq, nz_lt, nz_gt, nz_le, nz_ge, nz_00, nz_n1, nI_add, pk_mul, pk_sub, nI_shl1, nI_or, nI_half2, nI_min2, la_put_eq, la_up, lr_same, lr_ne, lu_same, lu_ne, not_true_eq_false, not_false_eq_true]; rfl), by omega, ?_⟩; conv => whnf)
        | (apply And.intro; (first | assumption | decide | (simp (disch := omega) only [nI_leI, nI_ltI, nI_eq, nz_eq, nz_lt, nz_gt, nz_le, nz_ge, nz_00, nz_n1, nI_add, pk_mul, pk_sub, nI_shl1, nI_or, nI_half2, nI_min2, la_put_eq, la_up, lr_same, lr_ne, lu_same, lu_ne, not_true_eq_false, not_false_eq_true]; omega)); conv => whnf))
      all_goals (try simp (disch := omega) only [nI_leI, nI_ltI, nI_eq, nz_eq, nz_lt, nz_gt, nz_le, nz_ge, nz_00, nz_n1, nI_add, pk_mul, pk_sub, nI_shl1, nI_or, nI_half2, nI_min2, la_put_eq, la_up, lr_same, lr_ne, lu_same, lu_ne, not_true_eq_false, not_false_eq_true])
      exact hret _ _ (Or.inr (Or.inr ⟨fun q => hc q.2.1, rfl, rfl⟩))
  · conv => whnf
    repeat' (first
      | (refine ⟨fun c9 => ?_, fun c9 => ?_⟩ <;> (try simp (disch := omega) only [nI_leI, nI_ltI, nI_eq, nz_eq, nz_lt, nz_gt, nz_le, nz_ge, nz_00, nz_n1, nI_add, pk_mul, pk_sub, nI_shl1, nI_or, nI_half2, nI_min2, la_put_eq, la_up, lr_same, lr_ne, lu_same, lu_ne, not_true_eq_false, not_false_eq_true] at c9) <;> first | (exfalso; omega) | conv => whnf)
      | (refine ⟨_, rfl, by omega, ?_⟩; conv => whnf)
      | (refine ⟨_, rfl, rfl, rfl, by decide, by decide, ?_⟩; conv => whnf)
      | (refine ⟨_, by (simp (disch := omega) only [nI_leI, nI_ltI, nI_eq, nz_eq, nz_lt, nz_gt, nz_le, nz_ge, nz_00, nz_n1, nI_add, pk_mul, pk_sub, nI_shl1, nI_or, nI_half2, nI_min2, la_put_eq, la_up, lr_same, lr_ne, lu_same, lu_ne, not_true_eq_false, not_false_eq_true]; rfl), by omega, ?_⟩; conv => whnf)
      | (apply And.intro; (first | assumption | decide | (simp (disch := omega) only [nI_leI, nI_ltI, nI_eq, nz_eq, nz_lt, nz_gt, nz_le, nz_ge, nz_00, nz_n1, nI_add, pk_mul, pk_sub, nI_shl1, nI_or, nI_half2, nI_min2, la_put_eq, la_up, lr_same, lr_ne, lu_same, lu_ne, not_true_eq_false, not_false_eq_true]; omega)); conv => whnf))
    all_goals (try simp (disch := omega) only [nI_leI, nI_ltI, nI_eq, nz_eq, nz_lt, nz_gt, nz_le, nz_ge, nz_00, nz_n1, nI_add, pk_mul, pk_sub, nI_shl1, nI_or, nI_half2, nI_min2, la_put_eq, la_up, lr_same, lr_ne, lu_same, lu_ne, not_true_eq_false, not_false_eq_true])
    exact hret _ _ (Or.inr (Or.inr ⟨fun q => hc q.1, rfl, rfl⟩))
theorem M_X5_sheet : pm_MT yX5_sheet cX5_sheet 5 1 2 P_X5_sheet (pm_pi Q_X5_sheet) := pm_met k_X5_sheet (by decide) rfl (by
  rintro ⟨g0, g1, g2, g3⟩ av h hp
  rw [hp.1]
  exact Nat.le_of_ble_eq_true rfl) pf_X5_sheet
theorem rc_X5_sheet : ∀ g av h, P_X5_sheet g av h → ∃ i t, av = .inr (.inr (5, i, 0)) :: t := by
  rintro ⟨g0, g1, g2, g3⟩ av h hp
  exact ⟨_, _, hp.1⟩
theorem sl_b (x : Int32) : (x <<< (nI 24 &&& 31)) >>> (nI 24 &&& 31) = x.toInt8.toInt32 := by
  apply Int32.toInt_inj.mp
  rw [pk_shr _ _ 24 (by decide +kernel), Int.shiftRight_eq_div_pow, Int8.toInt_toInt32, Int32.toInt_toInt8]
  have h1 := pk_shl x (nI 24 &&& 31) 24 (by decide +kernel)
  have h2 : x.toInt = x.toBitVec.toInt := rfl
  have h3 : (x <<< (nI 24 &&& 31)).toInt = (x <<< (nI 24 &&& 31)).toBitVec.toInt := rfl
  rw [h2, h3]
  generalize (x <<< (nI 24 &&& 31)).toBitVec = r at h1
  generalize x.toBitVec = n at h1
  have hr := r.isLt
  have hn := n.isLt
  rw [BitVec.toInt_eq_toNat_cond, BitVec.toInt_eq_toNat_cond]
  by_cases c1 : 2 * r.toNat < 2 ^ 32 <;> by_cases c2 : 2 * n.toNat < 2 ^ 32 <;> simp only [c1, c2, if_true, if_false, Int.bmod] <;> split <;> omega
theorem sl_s (x : Int32) : (x <<< (nI 16 &&& 31)) >>> (nI 16 &&& 31) = x.toInt16.toInt32 := by
  apply Int32.toInt_inj.mp
  rw [pk_shr _ _ 16 (by decide +kernel), Int.shiftRight_eq_div_pow, Int16.toInt_toInt32, Int32.toInt_toInt16]
  have h1 := pk_shl x (nI 16 &&& 31) 16 (by decide +kernel)
  have h2 : x.toInt = x.toBitVec.toInt := rfl
  have h3 : (x <<< (nI 16 &&& 31)).toInt = (x <<< (nI 16 &&& 31)).toBitVec.toInt := rfl
  rw [h2, h3]
  generalize (x <<< (nI 16 &&& 31)).toBitVec = r at h1
  generalize x.toBitVec = n at h1
  have hr := r.isLt
  have hn := n.isLt
  rw [BitVec.toInt_eq_toNat_cond, BitVec.toInt_eq_toNat_cond]
  by_cases c1 : 2 * r.toNat < 2 ^ 32 <;> by_cases c2 : 2 * n.toNat < 2 ^ 32 <;> simp only [c1, c2, if_true, if_false, Int.bmod] <;> split <;> omega
theorem sp_ix1 {x : Int32} {z : Nat} : ixI x z ↔ sp_ix x z 1 := ⟨fun ⟨k, h1, h2⟩ => ⟨k, by omega, h2⟩, fun ⟨k, h1, h2⟩ => ⟨k, by omega, h2⟩⟩
def P_X5_lay : Int32 × Int32 × Int32 × (Nat → Nat) × (Nat → Nat) × (Nat → Nat) × pm_H → List pm_V → pm_H → Prop := fun g av h => match g with
  | (k, i, v, t, l, z, h0) => av = [vR 5 0 0, vI k, vI i, vI v] ∧ h = h0 ∧ mshs h0 t l z
def Q_X5_lay : Int32 × Int32 × Int32 × (Nat → Nat) × (Nat → Nat) × (Nat → Nat) × pm_H → Int32 → pm_H → Prop := fun g r h => match g with
  | (k, i, v, t, l, z, h0) => (∃ q, q < 4 ∧ k = nI q ∧ ((t q = 0 ∧ r = -11 ∧ h = h0) ∨ (t q ≠ 0 ∧ ¬ sp_ix i (z q) 1 ∧ r = -12 ∧ h = h0) ∨ (t q ≠ 0 ∧ ∃ j, j < z q ∧ i = nI j ∧ r = nI 1 ∧ h = pm_up h0 5 0 11 (40 * q + j) (sp_nar (l q) v)))) ∨ (¬ wi k 0 3 ∧ r = -1 ∧ h = h0)
def T_X5_lay : List (Nat × pm_T) := [
  (0, i_il 1 1),
  (1, i_i2l 2),
  (2, i_cl (lN 0) 3),
  (3, i_cl (lN 3) 6),
  (6, i_ci 3 P_X5_in Q_X5_in 9),
  (9, i_ifne 14 12),
  (12, i_c (-1) 13),
  (13, i_ir),
  (14, i_al 0 15),
  (15, i_gr 5 (fun i => (5, i, 9)) 18),
  (18, i_il 1 19),
  (19, i_ia 20),
  (20, i_c (-4) 22),
  (22, i_icne 28 25),
  (25, i_c (-11) 27),
  (27, i_ir),
  (28, i_il 2 29),
  (29, i_i2l 30),
  (30, i_cl (lN 0) 31),
  (31, i_al 0 32),
  (32, i_gr 5 (fun i => (5, i, 10)) 35),
  (35, i_il 1 36),
  (36, i_ia 37),
  (37, i_c (nI 1) 38),
  (38, i_isub 39),
  (39, i_i2l 40),
  (40, i_ci 3 P_X5_in Q_X5_in 43),
  (43, i_ifne 49 46),
  (46, i_c (-12) 48),
  (48, i_ir),
  (49, i_al 0 50),
  (50, i_gr 5 (fun i => (5, i, 11)) 53),
  (53, i_c (nI 40) 55),
  (55, i_il 1 56),
  (56, i_imul 57),
  (57, i_il 2 58),
  (58, i_iadd 59),
  (59, i_al 0 60),
  (60, i_gr 5 (fun i => (5, i, 9)) 63),
  (63, i_il 1 64),
  (64, i_ia 65),
  (65, i_ifne 78 68),
  (68, i_il 3 69),
  (69, i_c (nI 24) 71),
  (71, i_ishl 72),
  (72, i_c (nI 24) 74),
  (74, i_ishr 75),
  (75, i_go 99),
  (78, i_al 0 79),
  (79, i_gr 5 (fun i => (5, i, 9)) 82),
  (82, i_il 1 83),
  (83, i_ia 84),
  (84, i_c (nI 1) 85),
  (85, i_icne 98 88),
  (88, i_il 3 89),
  (89, i_c (nI 16) 91),
  (91, i_ishl 92),
  (92, i_c (nI 16) 94),
  (94, i_ishr 95),
  (95, i_go 99),
  (98, i_il 3 99),
  (99, i_ias 100),
  (100, i_c (nI 1) 101),
  (101, i_ir)]
theorem k_X5_lay : ∀ q ∈ T_X5_lay, pm_sd RX5 cX5_lay 4 2 1 q.1 q.2 := by
  unfold T_X5_lay
  refine pm_cn (sd_iln (k := 1) (by decide +kernel) rfl rfl) ?_
  refine pm_cn (sd_i2l (by decide +kernel) rfl) ?_
  refine pm_cn (sd_lconst (z := 0) (by decide +kernel) (by decide +kernel) rfl) ?_
  refine pm_cn (sd_ldc2 (k := 167) (by decide +kernel) (pm_tin (by decide +kernel) rfl) rfl) ?_
  refine pm_cn (sd_cis M_X5_in (by decide) cd_X5_in ml_X5_46 st_X5_in nt_X5 (by decide +kernel) (by omega) (by decide) (by decide +kernel) rfl) ?_
  refine pm_cn (sd_ifne (off := 5) (by decide +kernel) (by decide) rfl) ?_
  refine pm_cn (sd_iconst (z := -1) (by decide +kernel) (by decide +kernel) rfl) ?_
  refine pm_cn (sd_ir (by decide +kernel)) ?_
  refine pm_cn (sd_aln (k := 0) (by decide +kernel) rfl rfl) ?_
  refine pm_cn (sd_gr cl5_ in5_ (j := 22) (by decide) (fun _ => rfl) fl_X5_35 (by decide +kernel) rfl) ?_
  refine pm_cn (sd_iln (k := 1) (by decide +kernel) rfl rfl) ?_
  refine pm_cn (sd_ia (by decide +kernel) rfl) ?_
  refine pm_cn (sd_bipush (z := -4) (by decide +kernel) (by decide +kernel) rfl) ?_
  refine pm_cn (sd_icne (off := 6) (by decide +kernel) (by decide) rfl) ?_
  refine pm_cn (sd_bipush (z := -11) (by decide +kernel) (by decide +kernel) rfl) ?_
  refine pm_cn (sd_ir (by decide +kernel)) ?_
  refine pm_cn (sd_iln (k := 2) (by decide +kernel) rfl rfl) ?_
  refine pm_cn (sd_i2l (by decide +kernel) rfl) ?_
  refine pm_cn (sd_lconst (z := 0) (by decide +kernel) (by decide +kernel) rfl) ?_
  refine pm_cn (sd_aln (k := 0) (by decide +kernel) rfl rfl) ?_
  refine pm_cn (sd_gr cl5_ in5_ (j := 23) (by decide) (fun _ => rfl) fl_X5_38 (by decide +kernel) rfl) ?_
  refine pm_cn (sd_iln (k := 1) (by decide +kernel) rfl rfl) ?_
  refine pm_cn (sd_ia (by decide +kernel) rfl) ?_
  refine pm_cn (sd_iconst (z := 1) (by decide +kernel) (by decide +kernel) rfl) ?_
  refine pm_cn (sd_isub (by decide +kernel) rfl) ?_
  refine pm_cn (sd_i2l (by decide +kernel) rfl) ?_
  refine pm_cn (sd_cis M_X5_in (by decide) cd_X5_in ml_X5_46 st_X5_in nt_X5 (by decide +kernel) (by omega) (by decide) (by decide +kernel) rfl) ?_
  refine pm_cn (sd_ifne (off := 6) (by decide +kernel) (by decide) rfl) ?_
  refine pm_cn (sd_bipush (z := -12) (by decide +kernel) (by decide +kernel) rfl) ?_
  refine pm_cn (sd_ir (by decide +kernel)) ?_
  refine pm_cn (sd_aln (k := 0) (by decide +kernel) rfl rfl) ?_
  refine pm_cn (sd_gr cl5_ in5_ (j := 24) (by decide) (fun _ => rfl) fl_X5_41 (by decide +kernel) rfl) ?_
  refine pm_cn (sd_bipush (z := 40) (by decide +kernel) (by decide +kernel) rfl) ?_
  refine pm_cn (sd_iln (k := 1) (by decide +kernel) rfl rfl) ?_
  refine pm_cn (sd_imul (by decide +kernel) rfl) ?_
  refine pm_cn (sd_iln (k := 2) (by decide +kernel) rfl rfl) ?_
  refine pm_cn (sd_iadd (by decide +kernel) rfl) ?_
  refine pm_cn (sd_aln (k := 0) (by decide +kernel) rfl rfl) ?_
  refine pm_cn (sd_gr cl5_ in5_ (j := 22) (by decide) (fun _ => rfl) fl_X5_35 (by decide +kernel) rfl) ?_
  refine pm_cn (sd_iln (k := 1) (by decide +kernel) rfl rfl) ?_
  refine pm_cn (sd_ia (by decide +kernel) rfl) ?_
  refine pm_cn (sd_ifne (off := 13) (by decide +kernel) (by decide) rfl) ?_
  refine pm_cn (sd_iln (k := 3) (by decide +kernel) rfl rfl) ?_
  refine pm_cn (sd_bipush (z := 24) (by decide +kernel) (by decide +kernel) rfl) ?_
  refine pm_cn (sd_ishl (by decide +kernel) rfl) ?_
  refine pm_cn (sd_bipush (z := 24) (by decide +kernel) (by decide +kernel) rfl) ?_
  refine pm_cn (sd_ishr (by decide +kernel) rfl) ?_
  refine pm_cn (sd_go (off := 24) (by decide +kernel) (by decide)) ?_
  refine pm_cn (sd_aln (k := 0) (by decide +kernel) rfl rfl) ?_
  refine pm_cn (sd_gr cl5_ in5_ (j := 22) (by decide) (fun _ => rfl) fl_X5_35 (by decide +kernel) rfl) ?_
  refine pm_cn (sd_iln (k := 1) (by decide +kernel) rfl rfl) ?_
  refine pm_cn (sd_ia (by decide +kernel) rfl) ?_
  refine pm_cn (sd_iconst (z := 1) (by decide +kernel) (by decide +kernel) rfl) ?_
  refine pm_cn (sd_icne (off := 13) (by decide +kernel) (by decide) rfl) ?_
  refine pm_cn (sd_iln (k := 3) (by decide +kernel) rfl rfl) ?_
  refine pm_cn (sd_bipush (z := 16) (by decide +kernel) (by decide +kernel) rfl) ?_
  refine pm_cn (sd_ishl (by decide +kernel) rfl) ?_
  refine pm_cn (sd_bipush (z := 16) (by decide +kernel) (by decide +kernel) rfl) ?_
  refine pm_cn (sd_ishr (by decide +kernel) rfl) ?_
  refine pm_cn (sd_go (off := 4) (by decide +kernel) (by decide)) ?_
  refine pm_cn (sd_iln (k := 3) (by decide +kernel) rfl rfl) ?_
  refine pm_cn (sd_ias (by decide +kernel) rfl) ?_
  refine pm_cn (sd_iconst (z := 1) (by decide +kernel) (by decide +kernel) rfl) ?_
  refine pm_cn (sd_ir (by decide +kernel)) ?_
  exact fun _ h => absurd h List.not_mem_nil
set_option maxHeartbeats 800000 in
set_option maxRecDepth 100000 in
theorem pf_X5_lay : pm_pf T_X5_lay P_X5_lay (pm_pi Q_X5_lay) := by
  rintro ⟨k, i, v, t, l, z, h0⟩ av h K hK ⟨rfl, rfl, hM⟩ hret
  show K (some 0) ([(0, vR 5 0 0), (1, vI k), (2, vI i), (3, vI v)], [], h)
  refine hK [(99, [0])] 80 _ _ ?_
  conv => whnf
  repeat' (first
    | (refine ⟨fun c9 => ?_, fun c9 => ?_⟩ <;> (try simp (disch := omega) only [nI_leI, nI_ltI, nI_eq, nz_eq, nz_lt, nz_gt, nz_le, nz_ge, nz_00, nz_n1, nI_add, pk_mul, pk_sub, nI_shl1, nI_or, nI_half2, nI_min2, la_put_eq, la_up, lr_same, lr_ne, lu_same, lu_ne, not_true_eq_false, not_false_eq_true] at c9) <;> first | (exfalso; omega) | conv => whnf)
    | (refine ⟨_, rfl, by omega, ?_⟩; conv => whnf)
    | (refine ⟨_, rfl, rfl, rfl, by decide, by decide, ?_⟩; conv => whnf)
    | (refine ⟨_, by (simp (disch := omega) only [nI_leI, nI_ltI, nI_eq, nz_eq, nz_lt, nz_gt, nz_le, nz_ge, nz_00, nz_n1, nI_add, pk_mul, pk_sub, nI_shl1, nI_or, nI_half2, nI_min2, la_put_eq, la_up, lr_same, lr_ne, lu_same, lu_ne, not_true_eq_false, not_false_eq_true]; rfl), by omega, ?_⟩; conv => whnf)
    | (apply And.intro; (first | assumption | decide | (simp (disch := omega) only [nI_leI, nI_ltI, nI_eq, nz_eq, nz_lt, nz_gt, nz_le, nz_ge, nz_00, nz_n1, nI_add, pk_mul, pk_sub, nI_shl1, nI_or, nI_half2, nI_min2, la_put_eq, la_up, lr_same, lr_ne, lu_same, lu_ne, not_true_eq_false, not_false_eq_true]; omega)); conv => whnf))
  all_goals (try simp (disch := omega) only [nI_leI, nI_ltI, nI_eq, nz_eq, nz_lt, nz_gt, nz_le, nz_ge, nz_00, nz_n1, nI_add, pk_mul, pk_sub, nI_shl1, nI_or, nI_half2, nI_min2, la_put_eq, la_up, lr_same, lr_ne, lu_same, lu_ne, not_true_eq_false, not_false_eq_true])
  refine ⟨(k.toInt64, lN 0, lN 3, h), ⟨rfl, rfl⟩, fun r h' hq => ?_⟩
  obtain ⟨rfl, ⟨hk, rfl⟩ | ⟨hc, rfl⟩⟩ := Q_in (by decide) (by decide) hq
  · obtain ⟨q, q1, q2, rfl⟩ := id hk
    obtain ⟨e1, e2, t1, l2, z40⟩ := hM q (by omega)
    by_cases ht : t q = 0
    · rw [if_pos ht] at e1
      conv => whnf
      repeat' (first
        | (refine ⟨fun c9 => ?_, fun c9 => ?_⟩ <;> (try simp (disch := omega) only [nI_leI, nI_ltI, nI_eq, nz_eq, nz_lt, nz_gt, nz_le, nz_ge, nz_00, nz_n1, nI_add, pk_mul, pk_sub, nI_shl1, nI_or, nI_half2, nI_min2, la_put_eq, la_up, lr_same, lr_ne, lu_same, lu_ne, not_true_eq_false, not_false_eq_true, e1] at c9) <;> first | (exfalso; omega) | conv => whnf)
        | (refine ⟨_, rfl, by omega, ?_⟩; conv => whnf)
        | (refine ⟨_, rfl, rfl, rfl, by decide, by decide, ?_⟩; conv => whnf)
        | (refine ⟨_, by (simp (disch := omega) only [nI_leI, nI_ltI, nI_eq, nz_eq, nz_lt, nz_gt, nz_le, nz_ge, nz_00, nz_n1, nI_add, pk_mul, pk_sub, nI_shl1, nI_or, nI_half2, nI_min2, la_put_eq, la_up, lr_same, lr_ne, lu_same, lu_ne, not_true_eq_false, not_false_eq_true, e1]; rfl), by omega, ?_⟩; conv => whnf)
        | (apply And.intro; (first | assumption | decide | (simp (disch := omega) only [nI_leI, nI_ltI, nI_eq, nz_eq, nz_lt, nz_gt, nz_le, nz_ge, nz_00, nz_n1, nI_add, pk_mul, pk_sub, nI_shl1, nI_or, nI_half2, nI_min2, la_put_eq, la_up, lr_same, lr_ne, lu_same, lu_ne, not_true_eq_false, not_false_eq_true, e1]; omega)); conv => whnf))
      all_goals (try simp (disch := omega) only [nI_leI, nI_ltI, nI_eq, nz_eq, nz_lt, nz_gt, nz_le, nz_ge, nz_00, nz_n1, nI_add, pk_mul, pk_sub, nI_shl1, nI_or, nI_half2, nI_min2, la_put_eq, la_up, lr_same, lr_ne, lu_same, lu_ne, not_true_eq_false, not_false_eq_true, e1])
      exact hret _ _ (Or.inl ⟨q, by omega, rfl, Or.inl ⟨ht, rfl, rfl⟩⟩)
    · rw [if_neg ht] at e1
      conv => whnf
      repeat' (first
        | (refine ⟨fun c9 => ?_, fun c9 => ?_⟩ <;> (try simp (disch := omega) only [nI_leI, nI_ltI, nI_eq, nz_eq, nz_lt, nz_gt, nz_le, nz_ge, nz_00, nz_n1, nI_add, pk_mul, pk_sub, nI_shl1, nI_or, nI_half2, nI_min2, la_put_eq, la_up, lr_same, lr_ne, lu_same, lu_ne, not_true_eq_false, not_false_eq_true, e1, e2, nI_n4] at c9) <;> first | (exfalso; omega) | conv => whnf)
        | (refine ⟨_, rfl, by omega, ?_⟩; conv => whnf)
        | (refine ⟨_, rfl, rfl, rfl, by decide, by decide, ?_⟩; conv => whnf)
        | (refine ⟨_, by (simp (disch := omega) only [nI_leI, nI_ltI, nI_eq, nz_eq, nz_lt, nz_gt, nz_le, nz_ge, nz_00, nz_n1, nI_add, pk_mul, pk_sub, nI_shl1, nI_or, nI_half2, nI_min2, la_put_eq, la_up, lr_same, lr_ne, lu_same, lu_ne, not_true_eq_false, not_false_eq_true, e1, e2, nI_n4]; rfl), by omega, ?_⟩; conv => whnf)
        | (apply And.intro; (first | assumption | decide | (simp (disch := omega) only [nI_leI, nI_ltI, nI_eq, nz_eq, nz_lt, nz_gt, nz_le, nz_ge, nz_00, nz_n1, nI_add, pk_mul, pk_sub, nI_shl1, nI_or, nI_half2, nI_min2, la_put_eq, la_up, lr_same, lr_ne, lu_same, lu_ne, not_true_eq_false, not_false_eq_true, e1, e2, nI_n4]; omega)); conv => whnf))
      all_goals (try simp (disch := omega) only [nI_leI, nI_ltI, nI_eq, nz_eq, nz_lt, nz_gt, nz_le, nz_ge, nz_00, nz_n1, nI_add, pk_mul, pk_sub, nI_shl1, nI_or, nI_half2, nI_min2, la_put_eq, la_up, lr_same, lr_ne, lu_same, lu_ne, not_true_eq_false, not_false_eq_true, e1, e2, nI_n4])
      refine ⟨(i.toInt64, lN 0, (nI (z q) - nI 1).toInt64, h'), ⟨rfl, rfl⟩, fun r h' hq => ?_⟩
      obtain ⟨rfl, ⟨hi, rfl⟩ | ⟨hi, rfl⟩⟩ := Q_ix (by omega) hq
      · obtain ⟨j, hj, rfl⟩ := hi
        have fin : ∀ x, x = sp_nar (l q) v → K (some 99) ([(0, vR 5 0 0)], [vI x, vI (nI (40 * q + j)), vR 5 0 11], h') := by
          intro x hx
          refine hK [] 20 _ _ ?_
          conv => whnf
          repeat' (first
            | (refine ⟨fun c9 => ?_, fun c9 => ?_⟩ <;> (try simp (disch := omega) only [nI_leI, nI_ltI, nI_eq, nz_eq, nz_lt, nz_gt, nz_le, nz_ge, nz_00, nz_n1, nI_add, pk_mul, pk_sub, nI_shl1, nI_or, nI_half2, nI_min2, la_put_eq, la_up, lr_same, lr_ne, lu_same, lu_ne, not_true_eq_false, not_false_eq_true] at c9) <;> first | (exfalso; omega) | conv => whnf)
            | (refine ⟨_, rfl, by omega, ?_⟩; conv => whnf)
            | (refine ⟨_, rfl, rfl, rfl, by decide, by decide, ?_⟩; conv => whnf)
            | (refine ⟨_, by (simp (disch := omega) only [nI_leI, nI_ltI, nI_eq, nz_eq, nz_lt, nz_gt, nz_le, nz_ge, nz_00, nz_n1, nI_add, pk_mul, pk_sub, nI_shl1, nI_or, nI_half2, nI_min2, la_put_eq, la_up, lr_same, lr_ne, lu_same, lu_ne, not_true_eq_false, not_false_eq_true]; rfl), by omega, ?_⟩; conv => whnf)
            | (apply And.intro; (first | assumption | decide | (simp (disch := omega) only [nI_leI, nI_ltI, nI_eq, nz_eq, nz_lt, nz_gt, nz_le, nz_ge, nz_00, nz_n1, nI_add, pk_mul, pk_sub, nI_shl1, nI_or, nI_half2, nI_min2, la_put_eq, la_up, lr_same, lr_ne, lu_same, lu_ne, not_true_eq_false, not_false_eq_true]; omega)); conv => whnf))
          all_goals (try simp (disch := omega) only [nI_leI, nI_ltI, nI_eq, nz_eq, nz_lt, nz_gt, nz_le, nz_ge, nz_00, nz_n1, nI_add, pk_mul, pk_sub, nI_shl1, nI_or, nI_half2, nI_min2, la_put_eq, la_up, lr_same, lr_ne, lu_same, lu_ne, not_true_eq_false, not_false_eq_true])
          exact hret _ _ (Or.inl ⟨q, by omega, rfl, Or.inr (Or.inr ⟨ht, j, hj, rfl, rfl, by rw [hx]⟩)⟩)
        conv => whnf
        repeat' (first
          | (refine ⟨fun c9 => ?_, fun c9 => ?_⟩ <;> (try simp (disch := omega) only [nI_leI, nI_ltI, nI_eq, nz_eq, nz_lt, nz_gt, nz_le, nz_ge, nz_00, nz_n1, nI_add, pk_mul, pk_sub, nI_shl1, nI_or, nI_half2, nI_min2, la_put_eq, la_up, lr_same, lr_ne, lu_same, lu_ne, not_true_eq_false, not_false_eq_true, e1, sl_b, sl_s] at c9) <;> first | (exfalso; omega) | conv => whnf)
          | (refine ⟨_, rfl, by omega, ?_⟩; conv => whnf)
          | (refine ⟨_, rfl, rfl, rfl, by decide, by decide, ?_⟩; conv => whnf)
          | (refine ⟨_, by (simp (disch := omega) only [nI_leI, nI_ltI, nI_eq, nz_eq, nz_lt, nz_gt, nz_le, nz_ge, nz_00, nz_n1, nI_add, pk_mul, pk_sub, nI_shl1, nI_or, nI_half2, nI_min2, la_put_eq, la_up, lr_same, lr_ne, lu_same, lu_ne, not_true_eq_false, not_false_eq_true, e1, sl_b, sl_s]; rfl), by omega, ?_⟩; conv => whnf)
          | (apply And.intro; (first | assumption | decide | (simp (disch := omega) only [nI_leI, nI_ltI, nI_eq, nz_eq, nz_lt, nz_gt, nz_le, nz_ge, nz_00, nz_n1, nI_add, pk_mul, pk_sub, nI_shl1, nI_or, nI_half2, nI_min2, la_put_eq, la_up, lr_same, lr_ne, lu_same, lu_ne, not_true_eq_false, not_false_eq_true, e1, sl_b, sl_s]; omega)); conv => whnf))
        all_goals (try simp (disch := omega) only [nI_leI, nI_ltI, nI_eq, nz_eq, nz_lt, nz_gt, nz_le, nz_ge, nz_00, nz_n1, nI_add, pk_mul, pk_sub, nI_shl1, nI_or, nI_half2, nI_min2, la_put_eq, la_up, lr_same, lr_ne, lu_same, lu_ne, not_true_eq_false, not_false_eq_true, e1, sl_b, sl_s])
        · refine fin _ ?_
          unfold sp_nar
          rw [if_neg (by omega), if_neg (by omega)]
        · refine fin _ ?_
          unfold sp_nar
          rw [if_neg (by omega), if_pos (by omega)]
        · refine fin _ ?_
          unfold sp_nar
          rw [if_pos (by omega)]
      · conv => whnf
        repeat' (first
          | (refine ⟨fun c9 => ?_, fun c9 => ?_⟩ <;> (try simp (disch := omega) only [nI_leI, nI_ltI, nI_eq, nz_eq, nz_lt, nz_gt, nz_le, nz_ge, nz_00, nz_n1, nI_add, pk_mul, pk_sub, nI_shl1, nI_or, nI_half2, nI_min2, la_put_eq, la_up, lr_same, lr_ne, lu_same, lu_ne, not_true_eq_false, not_false_eq_true] at c9) <;> first | (exfalso; omega) | conv => whnf)
          | (refine ⟨_, rfl, by omega, ?_⟩; conv => whnf)
          | (refine ⟨_, rfl, rfl, rfl, by decide, by decide, ?_⟩; conv => whnf)
          | (refine ⟨_, by (simp (disch := omega) only [nI_leI, nI_ltI, nI_eq, nz_eq, nz_lt, nz_gt, nz_le, nz_ge, nz_00, nz_n1, nI_add, pk_mul, pk_sub, nI_shl1, nI_or, nI_half2, nI_min2, la_put_eq, la_up, lr_same, lr_ne, lu_same, lu_ne, not_true_eq_false, not_false_eq_true]; rfl), by omega, ?_⟩; conv => whnf)
          | (apply And.intro; (first | assumption | decide | (simp (disch := omega) only [nI_leI, nI_ltI, nI_eq, nz_eq, nz_lt, nz_gt, nz_le, nz_ge, nz_00, nz_n1, nI_add, pk_mul, pk_sub, nI_shl1, nI_or, nI_half2, nI_min2, la_put_eq, la_up, lr_same, lr_ne, lu_same, lu_ne, not_true_eq_false, not_false_eq_true]; omega)); conv => whnf))
        all_goals (try simp (disch := omega) only [nI_leI, nI_ltI, nI_eq, nz_eq, nz_lt, nz_gt, nz_le, nz_ge, nz_00, nz_n1, nI_add, pk_mul, pk_sub, nI_shl1, nI_or, nI_half2, nI_min2, la_put_eq, la_up, lr_same, lr_ne, lu_same, lu_ne, not_true_eq_false, not_false_eq_true])
        exact hret _ _ (Or.inl ⟨q, by omega, rfl, Or.inr (Or.inl ⟨ht, fun q => hi (sp_ix1.mpr q), rfl, rfl⟩)⟩)
  · conv => whnf
    repeat' (first
      | (refine ⟨fun c9 => ?_, fun c9 => ?_⟩ <;> (try simp (disch := omega) only [nI_leI, nI_ltI, nI_eq, nz_eq, nz_lt, nz_gt, nz_le, nz_ge, nz_00, nz_n1, nI_add, pk_mul, pk_sub, nI_shl1, nI_or, nI_half2, nI_min2, la_put_eq, la_up, lr_same, lr_ne, lu_same, lu_ne, not_true_eq_false, not_false_eq_true] at c9) <;> first | (exfalso; omega) | conv => whnf)
      | (refine ⟨_, rfl, by omega, ?_⟩; conv => whnf)
      | (refine ⟨_, rfl, rfl, rfl, by decide, by decide, ?_⟩; conv => whnf)
      | (refine ⟨_, by (simp (disch := omega) only [nI_leI, nI_ltI, nI_eq, nz_eq, nz_lt, nz_gt, nz_le, nz_ge, nz_00, nz_n1, nI_add, pk_mul, pk_sub, nI_shl1, nI_or, nI_half2, nI_min2, la_put_eq, la_up, lr_same, lr_ne, lu_same, lu_ne, not_true_eq_false, not_false_eq_true]; rfl), by omega, ?_⟩; conv => whnf)
      | (apply And.intro; (first | assumption | decide | (simp (disch := omega) only [nI_leI, nI_ltI, nI_eq, nz_eq, nz_lt, nz_gt, nz_le, nz_ge, nz_00, nz_n1, nI_add, pk_mul, pk_sub, nI_shl1, nI_or, nI_half2, nI_min2, la_put_eq, la_up, lr_same, lr_ne, lu_same, lu_ne, not_true_eq_false, not_false_eq_true]; omega)); conv => whnf))
    all_goals (try simp (disch := omega) only [nI_leI, nI_ltI, nI_eq, nz_eq, nz_lt, nz_gt, nz_le, nz_ge, nz_00, nz_n1, nI_add, pk_mul, pk_sub, nI_shl1, nI_or, nI_half2, nI_min2, la_put_eq, la_up, lr_same, lr_ne, lu_same, lu_ne, not_true_eq_false, not_false_eq_true])
    exact hret _ _ (Or.inr ⟨hc, rfl, rfl⟩)
theorem M_X5_lay : pm_MT yX5_lay cX5_lay 4 1 2 P_X5_lay (pm_pi Q_X5_lay) := pm_met k_X5_lay (by decide) rfl (by
  rintro ⟨g0, g1, g2, g3, g4, g5, g6⟩ av h hp
  rw [hp.1]
  exact Nat.le_of_ble_eq_true rfl) pf_X5_lay
theorem rc_X5_lay : ∀ g av h, P_X5_lay g av h → ∃ i t, av = .inr (.inr (5, i, 0)) :: t := by
  rintro ⟨g0, g1, g2, g3, g4, g5, g6⟩ av h hp
  exact ⟨_, _, hp.1⟩
