/-! THE MODEL's reckonings on a page. -/
theorem qr1 {h : pm_H} {pg : Nat} {Y : LD} (hP : pg_at h pg Y) {f : Nat} (hf : f < 4) : h 5 0 1 (pg + f) = nI (Y 1 f) := by rw [← pr1 (h := h) (pg := pg) (Y := Y) hf, pg_self hP]
theorem qr2 {h : pm_H} {pg : Nat} {Y : LD} (hP : pg_at h pg Y) {f : Nat} (hf : f < 4) : h 5 0 1 (pg + 4 + f) = nI (Y 2 f) := by rw [← pr2 (h := h) (pg := pg) (Y := Y) hf, pg_self hP]
theorem qr3 {h : pm_H} {pg : Nat} {Y : LD} (hP : pg_at h pg Y) {f : Nat} (hf : f < 6) : h 5 0 1 (pg + 8 + f) = nI (Y 3 f) := by rw [← pr3 (h := h) (pg := pg) (Y := Y) hf, pg_self hP]
theorem qr4 {h : pm_H} {pg : Nat} {Y : LD} (hP : pg_at h pg Y) {f : Nat} (hf : f < 6) : h 5 0 1 (pg + 14 + f) = nI (Y 4 f) := by rw [← pr4 (h := h) (pg := pg) (Y := Y) hf, pg_self hP]
theorem qr5 {h : pm_H} {pg : Nat} {Y : LD} (hP : pg_at h pg Y) {f : Nat} (hf : f < 6) : h 5 0 1 (pg + 20 + f) = nI (Y 5 f) := by rw [← pr5 (h := h) (pg := pg) (Y := Y) hf, pg_self hP]
theorem qr6 {h : pm_H} {pg : Nat} {Y : LD} (hP : pg_at h pg Y) {f : Nat} (hf : f < 6) : h 5 0 1 (pg + 26 + f) = nI (Y 6 f) := by rw [← pr6 (h := h) (pg := pg) (Y := Y) hf, pg_self hP]
theorem qr7 {h : pm_H} {pg : Nat} {Y : LD} (hP : pg_at h pg Y) {f : Nat} (hf : f < 6) : h 5 0 1 (pg + 36 + f) = nI (Y 7 f) := by rw [← pr7 (h := h) (pg := pg) (Y := Y) hf, pg_self hP]
theorem qr8 {h : pm_H} {pg : Nat} {Y : LD} (hP : pg_at h pg Y) {f : Nat} (hf : f < 6) : h 5 0 1 (pg + 42 + f) = nI (Y 8 f) := by rw [← pr8 (h := h) (pg := pg) (Y := Y) hf, pg_self hP]
theorem qrN {h : pm_H} {pg : Nat} {Y : LD} (hP : pg_at h pg Y) : h 5 0 1 (pg + 32) = nI (Y 0 3) := by rw [← prN (h := h) (pg := pg) (Y := Y), pg_self hP]
theorem qrD {h : pm_H} {pg : Nat} {Y : LD} (hP : pg_at h pg Y) : h 5 0 1 (pg + 33) = nI (Y 0 8) - nI 2 := by rw [← prD (h := h) (pg := pg) (Y := Y), pg_self hP]
theorem qrB {h : pm_H} {pg : Nat} {Y : LD} (hP : pg_at h pg Y) : h 5 0 1 (pg + 34) = nI (Y 0 9) - nI 5 := by rw [← prB (h := h) (pg := pg) (Y := Y), pg_self hP]
theorem qrY {h : pm_H} {pg : Nat} {Y : LD} (hP : pg_at h pg Y) : h 5 0 1 (pg + 35) = nI (Y 0 10) := by rw [← prY (h := h) (pg := pg) (Y := Y), pg_self hP]
theorem qrQ {h : pm_H} {pg : Nat} {Y : LD} (hP : pg_at h pg Y) : h 5 0 1 (pg + 48) = nI (Y 0 11) := by rw [← prQ (h := h) (pg := pg) (Y := Y), pg_self hP]
theorem pg_at_field {h : pm_H} {pg j : Nat} {Y : LD} {v : Int32} (hP : pg_at h pg Y) : pg_at (pm_up h 5 0 0 j v) pg Y := fun k hk => by rw [pm_up_ne (by omega), hP k hk]
theorem an1 {h : pm_H} {v : Int32} {j : Nat} : pm_up h 5 0 0 17 v 5 0 1 j = h 5 0 1 j := pm_up_ne (by omega)
theorem an0 {h : pm_H} {v : Int32} : pm_up h 5 0 0 17 v 5 0 0 17 = v := pm_up_eq
theorem anF {h : pm_H} {v : Int32} : pm_up h 5 0 0 17 v 5 0 0 1 = h 5 0 0 1 := pm_up_ne (by omega)
theorem an2 {h : pm_H} {v w : Int32} : pm_up (pm_up h 5 0 0 17 v) 5 0 0 17 w = pm_up h 5 0 0 17 w := by
  funext c i s j
  unfold pm_up
  by_cases hc : c = 5 ∧ i = 0 ∧ s = 0 ∧ j = 17 <;> simp [hc]
theorem an_pg {h : pm_H} {pg : Nat} {Y : LD} {v : Int32} : pm_up (pg_put h pg Y) 5 0 0 17 v = pg_put (pm_up h 5 0 0 17 v) pg Y := by
  funext c i s j
  unfold pm_up pg_put
  by_cases hc : c = 5 ∧ i = 0 ∧ s = 0 ∧ j = 17
  · obtain ⟨rfl, rfl, rfl, rfl⟩ := hc; simp
  · simp [hc]
theorem nI_bit {a s : Nat} (ha : a < 2 ^ 31) (hs : s < 31) : (nI a >>> (nI s &&& 31)) &&& nI 1 = nI (a / 2 ^ s % 2) := by
  rw [nI_shr ha hs, nI_and1]
  exact Nat.lt_of_le_of_lt (Nat.div_le_self _ _) (by omega)
theorem bt_iff {a s : Nat} : a / 2 ^ s % 2 = 1 ↔ a.testBit s = true := by rw [Nat.testBit_eq_decide_div_mod_eq, decide_eq_true_eq]
theorem nI_n4 {a : Nat} (h : a < 2 ^ 31) : (nI a = (-4)) = False := eq_false (fun e => by
  have h1 : (nI a < 0) := by rw [e]; decide
  rw [nz_lt h] at h1
  exact h1)
def P_X5_spoilsOn : Nat × Nat × Nat × LD × pm_H → List pm_V → pm_H → Prop := fun g av h => match g with
  | (pg, b, d, Y, h0) => av = [vR 5 0 0, vI (nI pg), vI (nI b), vI (nI d)] ∧ h = h0 ∧ pg_at h0 pg Y ∧ pg ≤ 245 ∧ b < 6 ∧ d ≤ 9 ∧ Y 3 b ≤ 3 ∧ Y 5 b ≤ 99
def Q_X5_spoilsOn : Nat × Nat × Nat × LD × pm_H → Int32 → pm_H → Prop := fun g v h => match g with
  | (pg, b, d, Y, h0) => h = h0 ∧ v = nI (min (sp_loss d (Y 3 b)) (Y 5 b))
def T_X5_spoilsOn : List (Nat × pm_T) := [
  (0, i_il 3 1),
  (1, i_c (nI 2) 2),
  (2, i_idiv 3),
  (3, i_is 4 5),
  (5, i_al 0 6),
  (6, i_gr 5 (fun i => (5, i, 1)) 9),
  (9, i_il 1 10),
  (10, i_c (nI 8) 12),
  (12, i_iadd 13),
  (13, i_il 2 14),
  (14, i_iadd 15),
  (15, i_ia 16),
  (16, i_is 5 18),
  (18, i_il 5 20),
  (20, i_ifne 28 23),
  (23, i_il 4 25),
  (25, i_go 60),
  (28, i_il 5 30),
  (30, i_c (nI 1) 31),
  (31, i_icne 41 34),
  (34, i_il 4 36),
  (36, i_c (nI 2) 37),
  (37, i_idiv 38),
  (38, i_go 60),
  (41, i_il 5 43),
  (43, i_c (nI 2) 44),
  (44, i_icne 54 47),
  (47, i_il 4 49),
  (49, i_c (nI 1) 50),
  (50, i_iadd 51),
  (51, i_go 60),
  (54, i_c (nI 2) 55),
  (55, i_il 4 57),
  (57, i_c (nI 1) 58),
  (58, i_iadd 59),
  (59, i_imul 60),
  (60, i_is 6 62),
  (62, i_il 6 64),
  (64, i_al 0 65),
  (65, i_gr 5 (fun i => (5, i, 1)) 68),
  (68, i_il 1 69),
  (69, i_c (nI 20) 71),
  (71, i_iadd 72),
  (72, i_il 2 73),
  (73, i_iadd 74),
  (74, i_ia 75),
  (75, i_icge 83 78),
  (78, i_il 6 80),
  (80, i_go 94),
  (83, i_al 0 84),
  (84, i_gr 5 (fun i => (5, i, 1)) 87),
  (87, i_il 1 88),
  (88, i_c (nI 20) 90),
  (90, i_iadd 91),
  (91, i_il 2 92),
  (92, i_iadd 93),
  (93, i_ia 94),
  (94, i_ir)]
theorem k_X5_spoilsOn : ∀ q ∈ T_X5_spoilsOn, pm_sd RX5 cX5_spoilsOn 7 2 1 q.1 q.2 := by
  unfold T_X5_spoilsOn
  refine pm_cn (sd_iln (k := 3) (by decide +kernel) rfl rfl) ?_
  refine pm_cn (sd_iconst (z := 2) (by decide +kernel) (by decide +kernel) rfl) ?_
  refine pm_cn (sd_idiv (by decide +kernel) rfl) ?_
  refine pm_cn (sd_is (by decide +kernel) rfl (by decide)) ?_
  refine pm_cn (sd_aln (k := 0) (by decide +kernel) rfl rfl) ?_
  refine pm_cn (sd_gr cl5_ in5_ (j := 0) (by decide) (fun _ => rfl) fl_X5_7 (by decide +kernel) rfl) ?_
  refine pm_cn (sd_iln (k := 1) (by decide +kernel) rfl rfl) ?_
  refine pm_cn (sd_bipush (z := 8) (by decide +kernel) (by decide +kernel) rfl) ?_
  refine pm_cn (sd_iadd (by decide +kernel) rfl) ?_
  refine pm_cn (sd_iln (k := 2) (by decide +kernel) rfl rfl) ?_
  refine pm_cn (sd_iadd (by decide +kernel) rfl) ?_
  refine pm_cn (sd_ia (by decide +kernel) rfl) ?_
  refine pm_cn (sd_is (by decide +kernel) rfl (by decide)) ?_
  refine pm_cn (sd_il (by decide +kernel) rfl) ?_
  refine pm_cn (sd_ifne (off := 8) (by decide +kernel) (by decide) rfl) ?_
  refine pm_cn (sd_il (by decide +kernel) rfl) ?_
  refine pm_cn (sd_go (off := 35) (by decide +kernel) (by decide)) ?_
  refine pm_cn (sd_il (by decide +kernel) rfl) ?_
  refine pm_cn (sd_iconst (z := 1) (by decide +kernel) (by decide +kernel) rfl) ?_
  refine pm_cn (sd_icne (off := 10) (by decide +kernel) (by decide) rfl) ?_
  refine pm_cn (sd_il (by decide +kernel) rfl) ?_
  refine pm_cn (sd_iconst (z := 2) (by decide +kernel) (by decide +kernel) rfl) ?_
  refine pm_cn (sd_idiv (by decide +kernel) rfl) ?_
  refine pm_cn (sd_go (off := 22) (by decide +kernel) (by decide)) ?_
  refine pm_cn (sd_il (by decide +kernel) rfl) ?_
  refine pm_cn (sd_iconst (z := 2) (by decide +kernel) (by decide +kernel) rfl) ?_
  refine pm_cn (sd_icne (off := 10) (by decide +kernel) (by decide) rfl) ?_
  refine pm_cn (sd_il (by decide +kernel) rfl) ?_
  refine pm_cn (sd_iconst (z := 1) (by decide +kernel) (by decide +kernel) rfl) ?_
  refine pm_cn (sd_iadd (by decide +kernel) rfl) ?_
  refine pm_cn (sd_go (off := 9) (by decide +kernel) (by decide)) ?_
  refine pm_cn (sd_iconst (z := 2) (by decide +kernel) (by decide +kernel) rfl) ?_
  refine pm_cn (sd_il (by decide +kernel) rfl) ?_
  refine pm_cn (sd_iconst (z := 1) (by decide +kernel) (by decide +kernel) rfl) ?_
  refine pm_cn (sd_iadd (by decide +kernel) rfl) ?_
  refine pm_cn (sd_imul (by decide +kernel) rfl) ?_
  refine pm_cn (sd_is (by decide +kernel) rfl (by decide)) ?_
  refine pm_cn (sd_il (by decide +kernel) rfl) ?_
  refine pm_cn (sd_aln (k := 0) (by decide +kernel) rfl rfl) ?_
  refine pm_cn (sd_gr cl5_ in5_ (j := 0) (by decide) (fun _ => rfl) fl_X5_7 (by decide +kernel) rfl) ?_
  refine pm_cn (sd_iln (k := 1) (by decide +kernel) rfl rfl) ?_
  refine pm_cn (sd_bipush (z := 20) (by decide +kernel) (by decide +kernel) rfl) ?_
  refine pm_cn (sd_iadd (by decide +kernel) rfl) ?_
  refine pm_cn (sd_iln (k := 2) (by decide +kernel) rfl rfl) ?_
  refine pm_cn (sd_iadd (by decide +kernel) rfl) ?_
  refine pm_cn (sd_ia (by decide +kernel) rfl) ?_
  refine pm_cn (sd_icge (off := 8) (by decide +kernel) (by decide) rfl) ?_
  refine pm_cn (sd_il (by decide +kernel) rfl) ?_
  refine pm_cn (sd_go (off := 14) (by decide +kernel) (by decide)) ?_
  refine pm_cn (sd_aln (k := 0) (by decide +kernel) rfl rfl) ?_
  refine pm_cn (sd_gr cl5_ in5_ (j := 0) (by decide) (fun _ => rfl) fl_X5_7 (by decide +kernel) rfl) ?_
  refine pm_cn (sd_iln (k := 1) (by decide +kernel) rfl rfl) ?_
  refine pm_cn (sd_bipush (z := 20) (by decide +kernel) (by decide +kernel) rfl) ?_
  refine pm_cn (sd_iadd (by decide +kernel) rfl) ?_
  refine pm_cn (sd_iln (k := 2) (by decide +kernel) rfl rfl) ?_
  refine pm_cn (sd_iadd (by decide +kernel) rfl) ?_
  refine pm_cn (sd_ia (by decide +kernel) rfl) ?_
  refine pm_cn (sd_ir (by decide +kernel)) ?_
  exact fun _ h => absurd h List.not_mem_nil
set_option maxHeartbeats 800000 in
set_option maxRecDepth 100000 in
theorem pf_X5_spoilsOn : pm_pf T_X5_spoilsOn P_X5_spoilsOn (pm_pi Q_X5_spoilsOn) := by
  rintro ⟨pg, b, d, Y, h0⟩ av h K hK ⟨rfl, rfl, hP, hpg, hb, hd, h3, h5⟩ hret
  show K (some 0) ([(0, vR 5 0 0), (1, vI (nI pg)), (2, vI (nI b)), (3, vI (nI d))], [], h)
  have fin : ∀ y : Nat, y = sp_loss d (Y 3 b) → K (some 60) ([(0, vR 5 0 0), (1, vI (nI pg)), (2, vI (nI b))], [vI (nI y)], h) := by
    intro y hy
    have hyb : y ≤ 10 := by rw [hy]; exact sp_loss_le hd
    refine hK [] 40 _ _ ?_
    conv => whnf
    repeat' (first
      | (refine ⟨fun c9 => ?_, fun c9 => ?_⟩ <;> (try simp (disch := omega) only [nI_leI, nI_ltI, nI_eq, nz_eq, nz_lt, nz_gt, nz_le, nz_ge, nz_00, nz_n1, nI_add, pk_mul, pk_sub, nI_shl1, nI_or, nI_half2, nI_min2, la_put_eq, la_up, lr_same, lr_ne, lu_same, lu_ne, not_true_eq_false, not_false_eq_true, qr2 hP, qr3 hP, qr4 hP, qr5 hP, qr6 hP, qr7 hP, qr8 hP, qrN hP, qrD hP, qrB hP, qrY hP, qrQ hP, qr1 hP, subadd] at c9) <;> first | (exfalso; omega) | conv => whnf)
      | (refine ⟨_, rfl, by omega, ?_⟩; conv => whnf)
      | (refine ⟨_, rfl, rfl, rfl, by decide, by decide, ?_⟩; conv => whnf)
      | (refine ⟨_, by (simp (disch := omega) only [nI_leI, nI_ltI, nI_eq, nz_eq, nz_lt, nz_gt, nz_le, nz_ge, nz_00, nz_n1, nI_add, pk_mul, pk_sub, nI_shl1, nI_or, nI_half2, nI_min2, la_put_eq, la_up, lr_same, lr_ne, lu_same, lu_ne, not_true_eq_false, not_false_eq_true, qr2 hP, qr3 hP, qr4 hP, qr5 hP, qr6 hP, qr7 hP, qr8 hP, qrN hP, qrD hP, qrB hP, qrY hP, qrQ hP, qr1 hP, subadd]; rfl), by omega, ?_⟩; conv => whnf)
      | (apply And.intro; (first | assumption | decide | (simp (disch := omega) only [nI_leI, nI_ltI, nI_eq, nz_eq, nz_lt, nz_gt, nz_le, nz_ge, nz_00, nz_n1, nI_add, pk_mul, pk_sub, nI_shl1, nI_or, nI_half2, nI_min2, la_put_eq, la_up, lr_same, lr_ne, lu_same, lu_ne, not_true_eq_false, not_false_eq_true, qr2 hP, qr3 hP, qr4 hP, qr5 hP, qr6 hP, qr7 hP, qr8 hP, qrN hP, qrD hP, qrB hP, qrY hP, qrQ hP, qr1 hP, subadd]; omega)); conv => whnf))
    all_goals (try simp (disch := omega) only [nI_leI, nI_ltI, nI_eq, nz_eq, nz_lt, nz_gt, nz_le, nz_ge, nz_00, nz_n1, nI_add, pk_mul, pk_sub, nI_shl1, nI_or, nI_half2, nI_min2, la_put_eq, la_up, lr_same, lr_ne, lu_same, lu_ne, not_true_eq_false, not_false_eq_true, qr2 hP, qr3 hP, qr4 hP, qr5 hP, qr6 hP, qr7 hP, qr8 hP, qrN hP, qrD hP, qrB hP, qrY hP, qrQ hP, qr1 hP, subadd])
    · refine hret _ _ ⟨rfl, ?_⟩
      rw [← hy, Nat.min_eq_right (by omega)]
    · refine hret _ _ ⟨rfl, ?_⟩
      rw [← hy, Nat.min_eq_left (by omega)]
  refine hK [(60, [0, 1, 2])] 60 _ _ ?_
  conv => whnf
  repeat' (first
    | (refine ⟨fun c9 => ?_, fun c9 => ?_⟩ <;> (try simp (disch := omega) only [nI_leI, nI_ltI, nI_eq, nz_eq, nz_lt, nz_gt, nz_le, nz_ge, nz_00, nz_n1, nI_add, pk_mul, pk_sub, nI_shl1, nI_or, nI_half2, nI_min2, la_put_eq, la_up, lr_same, lr_ne, lu_same, lu_ne, not_true_eq_false, not_false_eq_true, qr2 hP, qr3 hP, qr4 hP, qr5 hP, qr6 hP, qr7 hP, qr8 hP, qrN hP, qrD hP, qrB hP, qrY hP, qrQ hP, qr1 hP, subadd] at c9) <;> first | (exfalso; omega) | conv => whnf)
    | (refine ⟨_, rfl, by omega, ?_⟩; conv => whnf)
    | (refine ⟨_, rfl, rfl, rfl, by decide, by decide, ?_⟩; conv => whnf)
    | (refine ⟨_, by (simp (disch := omega) only [nI_leI, nI_ltI, nI_eq, nz_eq, nz_lt, nz_gt, nz_le, nz_ge, nz_00, nz_n1, nI_add, pk_mul, pk_sub, nI_shl1, nI_or, nI_half2, nI_min2, la_put_eq, la_up, lr_same, lr_ne, lu_same, lu_ne, not_true_eq_false, not_false_eq_true, qr2 hP, qr3 hP, qr4 hP, qr5 hP, qr6 hP, qr7 hP, qr8 hP, qrN hP, qrD hP, qrB hP, qrY hP, qrQ hP, qr1 hP, subadd]; rfl), by omega, ?_⟩; conv => whnf)
    | (apply And.intro; (first | assumption | decide | (simp (disch := omega) only [nI_leI, nI_ltI, nI_eq, nz_eq, nz_lt, nz_gt, nz_le, nz_ge, nz_00, nz_n1, nI_add, pk_mul, pk_sub, nI_shl1, nI_or, nI_half2, nI_min2, la_put_eq, la_up, lr_same, lr_ne, lu_same, lu_ne, not_true_eq_false, not_false_eq_true, qr2 hP, qr3 hP, qr4 hP, qr5 hP, qr6 hP, qr7 hP, qr8 hP, qrN hP, qrD hP, qrB hP, qrY hP, qrQ hP, qr1 hP, subadd]; omega)); conv => whnf))
  all_goals (try simp (disch := omega) only [nI_leI, nI_ltI, nI_eq, nz_eq, nz_lt, nz_gt, nz_le, nz_ge, nz_00, nz_n1, nI_add, pk_mul, pk_sub, nI_shl1, nI_or, nI_half2, nI_min2, la_put_eq, la_up, lr_same, lr_ne, lu_same, lu_ne, not_true_eq_false, not_false_eq_true, qr2 hP, qr3 hP, qr4 hP, qr5 hP, qr6 hP, qr7 hP, qr8 hP, qrN hP, qrD hP, qrB hP, qrY hP, qrQ hP, qr1 hP, subadd])
  all_goals (apply fin; unfold sp_loss; simp [*])
  have : Y 3 b = 3 := by omega
  simp [this]
theorem M_X5_spoilsOn : pm_MT yX5_spoilsOn cX5_spoilsOn 7 1 2 P_X5_spoilsOn (pm_pi Q_X5_spoilsOn) := pm_met k_X5_spoilsOn (by decide) rfl (by
  rintro ⟨g0, g1, g2, g3, g4⟩ av h hp
  rw [hp.1]
  exact Nat.le_of_ble_eq_true rfl) pf_X5_spoilsOn
theorem rc_X5_spoilsOn : ∀ g av h, P_X5_spoilsOn g av h → ∃ i t, av = .inr (.inr (5, i, 0)) :: t := by
  rintro ⟨g0, g1, g2, g3, g4⟩ av h hp
  exact ⟨_, _, hp.1⟩
def P_X5_dampOn : Nat × LD × pm_H → List pm_V → pm_H → Prop := fun g av h => match g with
  | (pg, Y, h0) => av = [vR 5 0 0, vI (nI pg)] ∧ h = h0 ∧ pg_at h0 pg Y ∧ pg ≤ 245
def Q_X5_dampOn : Nat × LD × pm_H → Int32 → pm_H → Prop := fun g v h => match g with
  | (pg, Y, h0) => h = h0 ∧ v = nI (Y 0 8)
def T_X5_dampOn : List (Nat × pm_T) := [
  (0, i_al 0 1),
  (1, i_gr 5 (fun i => (5, i, 1)) 4),
  (4, i_il 1 5),
  (5, i_c (nI 33) 7),
  (7, i_iadd 8),
  (8, i_ia 9),
  (9, i_c (nI 2) 10),
  (10, i_iadd 11),
  (11, i_ir)]
theorem k_X5_dampOn : ∀ q ∈ T_X5_dampOn, pm_sd RX5 cX5_dampOn 2 2 1 q.1 q.2 := by
  unfold T_X5_dampOn
  refine pm_cn (sd_aln (k := 0) (by decide +kernel) rfl rfl) ?_
  refine pm_cn (sd_gr cl5_ in5_ (j := 0) (by decide) (fun _ => rfl) fl_X5_7 (by decide +kernel) rfl) ?_
  refine pm_cn (sd_iln (k := 1) (by decide +kernel) rfl rfl) ?_
  refine pm_cn (sd_bipush (z := 33) (by decide +kernel) (by decide +kernel) rfl) ?_
  refine pm_cn (sd_iadd (by decide +kernel) rfl) ?_
  refine pm_cn (sd_ia (by decide +kernel) rfl) ?_
  refine pm_cn (sd_iconst (z := 2) (by decide +kernel) (by decide +kernel) rfl) ?_
  refine pm_cn (sd_iadd (by decide +kernel) rfl) ?_
  refine pm_cn (sd_ir (by decide +kernel)) ?_
  exact fun _ h => absurd h List.not_mem_nil
set_option maxHeartbeats 800000 in
set_option maxRecDepth 100000 in
theorem pf_X5_dampOn : pm_pf T_X5_dampOn P_X5_dampOn (pm_pi Q_X5_dampOn) := by
  rintro ⟨pg, Y, h0⟩ av h K hK ⟨rfl, rfl, hP, hpg⟩ hret
  show K (some 0) ([(0, vR 5 0 0), (1, vI (nI pg))], [], h)
  refine hK [] 40 _ _ ?_
  conv => whnf
  repeat' (first
    | (refine ⟨fun c9 => ?_, fun c9 => ?_⟩ <;> (try simp (disch := omega) only [nI_leI, nI_ltI, nI_eq, nz_eq, nz_lt, nz_gt, nz_le, nz_ge, nz_00, nz_n1, nI_add, pk_mul, pk_sub, nI_shl1, nI_or, nI_half2, nI_min2, la_put_eq, la_up, lr_same, lr_ne, lu_same, lu_ne, not_true_eq_false, not_false_eq_true, qr2 hP, qr3 hP, qr4 hP, qr5 hP, qr6 hP, qr7 hP, qr8 hP, qrN hP, qrD hP, qrB hP, qrY hP, qrQ hP, qr1 hP, subadd] at c9) <;> first | (exfalso; omega) | conv => whnf)
    | (refine ⟨_, rfl, by omega, ?_⟩; conv => whnf)
    | (refine ⟨_, rfl, rfl, rfl, by decide, by decide, ?_⟩; conv => whnf)
    | (refine ⟨_, by (simp (disch := omega) only [nI_leI, nI_ltI, nI_eq, nz_eq, nz_lt, nz_gt, nz_le, nz_ge, nz_00, nz_n1, nI_add, pk_mul, pk_sub, nI_shl1, nI_or, nI_half2, nI_min2, la_put_eq, la_up, lr_same, lr_ne, lu_same, lu_ne, not_true_eq_false, not_false_eq_true, qr2 hP, qr3 hP, qr4 hP, qr5 hP, qr6 hP, qr7 hP, qr8 hP, qrN hP, qrD hP, qrB hP, qrY hP, qrQ hP, qr1 hP, subadd]; rfl), by omega, ?_⟩; conv => whnf)
    | (apply And.intro; (first | assumption | decide | (simp (disch := omega) only [nI_leI, nI_ltI, nI_eq, nz_eq, nz_lt, nz_gt, nz_le, nz_ge, nz_00, nz_n1, nI_add, pk_mul, pk_sub, nI_shl1, nI_or, nI_half2, nI_min2, la_put_eq, la_up, lr_same, lr_ne, lu_same, lu_ne, not_true_eq_false, not_false_eq_true, qr2 hP, qr3 hP, qr4 hP, qr5 hP, qr6 hP, qr7 hP, qr8 hP, qrN hP, qrD hP, qrB hP, qrY hP, qrQ hP, qr1 hP, subadd]; omega)); conv => whnf))
  all_goals (try simp (disch := omega) only [nI_leI, nI_ltI, nI_eq, nz_eq, nz_lt, nz_gt, nz_le, nz_ge, nz_00, nz_n1, nI_add, pk_mul, pk_sub, nI_shl1, nI_or, nI_half2, nI_min2, la_put_eq, la_up, lr_same, lr_ne, lu_same, lu_ne, not_true_eq_false, not_false_eq_true, qr2 hP, qr3 hP, qr4 hP, qr5 hP, qr6 hP, qr7 hP, qr8 hP, qrN hP, qrD hP, qrB hP, qrY hP, qrQ hP, qr1 hP, subadd])
  exact hret _ _ ⟨rfl, rfl⟩
theorem M_X5_dampOn : pm_MT yX5_dampOn cX5_dampOn 2 1 2 P_X5_dampOn (pm_pi Q_X5_dampOn) := pm_met k_X5_dampOn (by decide) rfl (by
  rintro ⟨g0, g1, g2⟩ av h hp
  rw [hp.1]
  exact Nat.le_of_ble_eq_true rfl) pf_X5_dampOn
theorem rc_X5_dampOn : ∀ g av h, P_X5_dampOn g av h → ∃ i t, av = .inr (.inr (5, i, 0)) :: t := by
  rintro ⟨g0, g1, g2⟩ av h hp
  exact ⟨_, _, hp.1⟩
/-- the subjects that are known: of one fellow (o), of all -/
def sp_sub (o : Bool) (f : Nat) (Y : LD) : Nat := sp_or (fun b => if (o = false ∨ Y 6 b = f) ∧ Y 0 9 ≤ Y 5 b then 2 ^ Y 4 b else 0) (Y 0 3)
theorem sp_sub_t (f : Nat) (Y : LD) : sp_sub true f Y = sp_lore Y f := by
  unfold sp_sub sp_lore
  exact sp_or_congr (fun k _ => by simp)
theorem sp_sub_f (f : Nat) (Y : LD) : sp_sub false f Y = sp_allLore Y := by
  unfold sp_sub sp_allLore
  exact sp_or_congr (fun k _ => by simp)
theorem sp_sub_lt {Y : LD} (hw : la_ok Y) (o : Bool) (f : Nat) : sp_sub o f Y < 1024 := by
  obtain ⟨w1, w2, w3, w4, w5, w6, w7, w8, w9⟩ := hw
  refine sp_or_lt (m := 10) (fun k hk => ?_)
  have := w8 k (by omega)
  by_cases h : (o = false ∨ Y 6 k = f) ∧ Y 0 9 ≤ Y 5 k
  · rw [if_pos h]
    exact Nat.pow_lt_pow_right (by decide) (by omega)
  · rw [if_neg h]; decide
def P_X5_subjectsOn : Nat × Bool × Nat × LD × pm_H → List pm_V → pm_H → Prop := fun g av h => match g with
  | (pg, o, f, Y, h0) => av = [vR 5 0 0, vI (nI pg), vI (sp_fo o f)] ∧ h = h0 ∧ pg_at h0 pg Y ∧ pg ≤ 245 ∧ la_ok Y ∧ f ≤ 9
def Q_X5_subjectsOn : Nat × Bool × Nat × LD × pm_H → Int32 → pm_H → Prop := fun g v h => match g with
  | (pg, o, f, Y, h0) => h = h0 ∧ v = nI (sp_sub o f Y)
def T_X5_subjectsOn : List (Nat × pm_T) := [
  (0, i_c (nI 0) 1),
  (1, i_is 3 2),
  (2, i_c (nI 0) 3),
  (3, i_is 4 5),
  (5, i_il 4 7),
  (7, i_al 0 8),
  (8, i_gr 5 (fun i => (5, i, 1)) 11),
  (11, i_il 1 12),
  (12, i_c (nI 32) 14),
  (14, i_iadd 15),
  (15, i_ia 16),
  (16, i_icge 106 19),
  (19, i_il 2 20),
  (20, i_c (-4) 22),
  (22, i_iceq 41 25),
  (25, i_al 0 26),
  (26, i_gr 5 (fun i => (5, i, 1)) 29),
  (29, i_il 1 30),
  (30, i_c (nI 26) 32),
  (32, i_iadd 33),
  (33, i_il 4 35),
  (35, i_iadd 36),
  (36, i_ia 37),
  (37, i_il 2 38),
  (38, i_icne 45 41),
  (41, i_c (nI 1) 42),
  (42, i_go 46),
  (45, i_c (nI 0) 46),
  (46, i_is 5 48),
  (48, i_il 3 49),
  (49, i_il 5 51),
  (51, i_ifeq 97 54),
  (54, i_al 0 55),
  (55, i_gr 5 (fun i => (5, i, 1)) 58),
  (58, i_il 1 59),
  (59, i_c (nI 20) 61),
  (61, i_iadd 62),
  (62, i_il 4 64),
  (64, i_iadd 65),
  (65, i_ia 66),
  (66, i_al 0 67),
  (67, i_gr 5 (fun i => (5, i, 1)) 70),
  (70, i_il 1 71),
  (71, i_c (nI 34) 73),
  (73, i_iadd 74),
  (74, i_ia 75),
  (75, i_c (nI 5) 76),
  (76, i_iadd 77),
  (77, i_iclt 97 80),
  (80, i_c (nI 1) 81),
  (81, i_al 0 82),
  (82, i_gr 5 (fun i => (5, i, 1)) 85),
  (85, i_il 1 86),
  (86, i_c (nI 14) 88),
  (88, i_iadd 89),
  (89, i_il 4 91),
  (91, i_iadd 92),
  (92, i_ia 93),
  (93, i_ishl 94),
  (94, i_go 98),
  (97, i_c (nI 0) 98),
  (98, i_ior 99),
  (99, i_is 3 100),
  (100, i_inc 4 (nI 1) 103),
  (103, i_go 5),
  (106, i_il 3 107),
  (107, i_ir)]
theorem k_X5_subjectsOn : ∀ q ∈ T_X5_subjectsOn, pm_sd RX5 cX5_subjectsOn 6 2 1 q.1 q.2 := by
  unfold T_X5_subjectsOn
  refine pm_cn (sd_iconst (z := 0) (by decide +kernel) (by decide +kernel) rfl) ?_
  refine pm_cn (sd_isn (k := 3) (by decide +kernel) rfl rfl (by decide)) ?_
  refine pm_cn (sd_iconst (z := 0) (by decide +kernel) (by decide +kernel) rfl) ?_
  refine pm_cn (sd_is (by decide +kernel) rfl (by decide)) ?_
  refine pm_cn (sd_il (by decide +kernel) rfl) ?_
  refine pm_cn (sd_aln (k := 0) (by decide +kernel) rfl rfl) ?_
  refine pm_cn (sd_gr cl5_ in5_ (j := 0) (by decide) (fun _ => rfl) fl_X5_7 (by decide +kernel) rfl) ?_
  refine pm_cn (sd_iln (k := 1) (by decide +kernel) rfl rfl) ?_
  refine pm_cn (sd_bipush (z := 32) (by decide +kernel) (by decide +kernel) rfl) ?_
  refine pm_cn (sd_iadd (by decide +kernel) rfl) ?_
  refine pm_cn (sd_ia (by decide +kernel) rfl) ?_
  refine pm_cn (sd_icge (off := 90) (by decide +kernel) (by decide) rfl) ?_
  refine pm_cn (sd_iln (k := 2) (by decide +kernel) rfl rfl) ?_
  refine pm_cn (sd_bipush (z := -4) (by decide +kernel) (by decide +kernel) rfl) ?_
  refine pm_cn (sd_iceq (off := 19) (by decide +kernel) (by decide) rfl) ?_
  refine pm_cn (sd_aln (k := 0) (by decide +kernel) rfl rfl) ?_
  refine pm_cn (sd_gr cl5_ in5_ (j := 0) (by decide) (fun _ => rfl) fl_X5_7 (by decide +kernel) rfl) ?_
  refine pm_cn (sd_iln (k := 1) (by decide +kernel) rfl rfl) ?_
  refine pm_cn (sd_bipush (z := 26) (by decide +kernel) (by decide +kernel) rfl) ?_
  refine pm_cn (sd_iadd (by decide +kernel) rfl) ?_
  refine pm_cn (sd_il (by decide +kernel) rfl) ?_
  refine pm_cn (sd_iadd (by decide +kernel) rfl) ?_
  refine pm_cn (sd_ia (by decide +kernel) rfl) ?_
  refine pm_cn (sd_iln (k := 2) (by decide +kernel) rfl rfl) ?_
  refine pm_cn (sd_icne (off := 7) (by decide +kernel) (by decide) rfl) ?_
  refine pm_cn (sd_iconst (z := 1) (by decide +kernel) (by decide +kernel) rfl) ?_
  refine pm_cn (sd_go (off := 4) (by decide +kernel) (by decide)) ?_
  refine pm_cn (sd_iconst (z := 0) (by decide +kernel) (by decide +kernel) rfl) ?_
  refine pm_cn (sd_is (by decide +kernel) rfl (by decide)) ?_
  refine pm_cn (sd_iln (k := 3) (by decide +kernel) rfl rfl) ?_
  refine pm_cn (sd_il (by decide +kernel) rfl) ?_
  refine pm_cn (sd_ifeq (off := 46) (by decide +kernel) (by decide) rfl) ?_
  refine pm_cn (sd_aln (k := 0) (by decide +kernel) rfl rfl) ?_
  refine pm_cn (sd_gr cl5_ in5_ (j := 0) (by decide) (fun _ => rfl) fl_X5_7 (by decide +kernel) rfl) ?_
  refine pm_cn (sd_iln (k := 1) (by decide +kernel) rfl rfl) ?_
  refine pm_cn (sd_bipush (z := 20) (by decide +kernel) (by decide +kernel) rfl) ?_
  refine pm_cn (sd_iadd (by decide +kernel) rfl) ?_
  refine pm_cn (sd_il (by decide +kernel) rfl) ?_
  refine pm_cn (sd_iadd (by decide +kernel) rfl) ?_
  refine pm_cn (sd_ia (by decide +kernel) rfl) ?_
  refine pm_cn (sd_aln (k := 0) (by decide +kernel) rfl rfl) ?_
  refine pm_cn (sd_gr cl5_ in5_ (j := 0) (by decide) (fun _ => rfl) fl_X5_7 (by decide +kernel) rfl) ?_
  refine pm_cn (sd_iln (k := 1) (by decide +kernel) rfl rfl) ?_
  refine pm_cn (sd_bipush (z := 34) (by decide +kernel) (by decide +kernel) rfl) ?_
  refine pm_cn (sd_iadd (by decide +kernel) rfl) ?_
  refine pm_cn (sd_ia (by decide +kernel) rfl) ?_
  refine pm_cn (sd_iconst (z := 5) (by decide +kernel) (by decide +kernel) rfl) ?_
  refine pm_cn (sd_iadd (by decide +kernel) rfl) ?_
  refine pm_cn (sd_iclt (off := 20) (by decide +kernel) (by decide) rfl) ?_
  refine pm_cn (sd_iconst (z := 1) (by decide +kernel) (by decide +kernel) rfl) ?_
  refine pm_cn (sd_aln (k := 0) (by decide +kernel) rfl rfl) ?_
  refine pm_cn (sd_gr cl5_ in5_ (j := 0) (by decide) (fun _ => rfl) fl_X5_7 (by decide +kernel) rfl) ?_
  refine pm_cn (sd_iln (k := 1) (by decide +kernel) rfl rfl) ?_
  refine pm_cn (sd_bipush (z := 14) (by decide +kernel) (by decide +kernel) rfl) ?_
  refine pm_cn (sd_iadd (by decide +kernel) rfl) ?_
  refine pm_cn (sd_il (by decide +kernel) rfl) ?_
  refine pm_cn (sd_iadd (by decide +kernel) rfl) ?_
  refine pm_cn (sd_ia (by decide +kernel) rfl) ?_
  refine pm_cn (sd_ishl (by decide +kernel) rfl) ?_
  refine pm_cn (sd_go (off := 4) (by decide +kernel) (by decide)) ?_
  refine pm_cn (sd_iconst (z := 0) (by decide +kernel) (by decide +kernel) rfl) ?_
  refine pm_cn (sd_ior (by decide +kernel) rfl) ?_
  refine pm_cn (sd_isn (k := 3) (by decide +kernel) rfl rfl (by decide)) ?_
  refine pm_cn (sd_inc (z := 1) (by decide +kernel) (by decide +kernel) rfl (by decide)) ?_
  refine pm_cn (sd_go (off := -98) (by decide +kernel) (by decide)) ?_
  refine pm_cn (sd_iln (k := 3) (by decide +kernel) rfl rfl) ?_
  refine pm_cn (sd_ir (by decide +kernel)) ?_
  exact fun _ h => absurd h List.not_mem_nil
set_option maxHeartbeats 800000 in
set_option maxRecDepth 100000 in
theorem pf_X5_subjectsOn : pm_pf T_X5_subjectsOn P_X5_subjectsOn (pm_pi Q_X5_subjectsOn) := by
  rintro ⟨pg, o, f, Y, h0⟩ av h K hK ⟨rfl, rfl, hP, hpg, hw, hf⟩ hret
  obtain ⟨w1, w2, w3, w4, w5, w6, w7, w8, w9, w10⟩ := id hw
  show K (some 0) ([(0, vR 5 0 0), (1, vI (nI pg)), (2, vI (sp_fo o f))], [], h)
  have loop : ∀ n k a, k + n = Y 0 3 → a = sp_or (fun b => if (o = false ∨ Y 6 b = f) ∧ Y 0 9 ≤ Y 5 b then 2 ^ Y 4 b else 0) k → K (some 5) ([(0, vR 5 0 0), (1, vI (nI pg)), (2, vI (sp_fo o f)), (3, vI (nI a)), (4, vI (nI k))], [], h) := by
    intro n
    induction n with
    | zero =>
      intro k a hk ha
      refine hK [(5, [0, 1, 2, 3, 4])] 80 _ _ ?_
      conv => whnf
      repeat' (first
        | (refine ⟨fun c9 => ?_, fun c9 => ?_⟩ <;> (try simp (disch := omega) only [nI_leI, nI_ltI, nI_eq, nz_eq, nz_lt, nz_gt, nz_le, nz_ge, nz_00, nz_n1, nI_add, pk_mul, pk_sub, nI_shl1, nI_or, nI_half2, nI_min2, la_put_eq, la_up, lr_same, lr_ne, lu_same, lu_ne, not_true_eq_false, not_false_eq_true, qr2 hP, qr3 hP, qr4 hP, qr5 hP, qr6 hP, qr7 hP, qr8 hP, qrN hP, qrD hP, qrB hP, qrY hP, qrQ hP, qr1 hP, subadd] at c9) <;> first | (exfalso; omega) | conv => whnf)
        | (refine ⟨_, rfl, by omega, ?_⟩; conv => whnf)
        | (refine ⟨_, rfl, rfl, rfl, by decide, by decide, ?_⟩; conv => whnf)
        | (refine ⟨_, by (simp (disch := omega) only [nI_leI, nI_ltI, nI_eq, nz_eq, nz_lt, nz_gt, nz_le, nz_ge, nz_00, nz_n1, nI_add, pk_mul, pk_sub, nI_shl1, nI_or, nI_half2, nI_min2, la_put_eq, la_up, lr_same, lr_ne, lu_same, lu_ne, not_true_eq_false, not_false_eq_true, qr2 hP, qr3 hP, qr4 hP, qr5 hP, qr6 hP, qr7 hP, qr8 hP, qrN hP, qrD hP, qrB hP, qrY hP, qrQ hP, qr1 hP, subadd]; rfl), by omega, ?_⟩; conv => whnf)
        | (apply And.intro; (first | assumption | decide | (simp (disch := omega) only [nI_leI, nI_ltI, nI_eq, nz_eq, nz_lt, nz_gt, nz_le, nz_ge, nz_00, nz_n1, nI_add, pk_mul, pk_sub, nI_shl1, nI_or, nI_half2, nI_min2, la_put_eq, la_up, lr_same, lr_ne, lu_same, lu_ne, not_true_eq_false, not_false_eq_true, qr2 hP, qr3 hP, qr4 hP, qr5 hP, qr6 hP, qr7 hP, qr8 hP, qrN hP, qrD hP, qrB hP, qrY hP, qrQ hP, qr1 hP, subadd]; omega)); conv => whnf))
      all_goals (try simp (disch := omega) only [nI_leI, nI_ltI, nI_eq, nz_eq, nz_lt, nz_gt, nz_le, nz_ge, nz_00, nz_n1, nI_add, pk_mul, pk_sub, nI_shl1, nI_or, nI_half2, nI_min2, la_put_eq, la_up, lr_same, lr_ne, lu_same, lu_ne, not_true_eq_false, not_false_eq_true, qr2 hP, qr3 hP, qr4 hP, qr5 hP, qr6 hP, qr7 hP, qr8 hP, qrN hP, qrD hP, qrB hP, qrY hP, qrQ hP, qr1 hP, subadd])
      have : k = Y 0 3 := by omega
      subst this
      exact hret _ _ ⟨rfl, by rw [ha]; rfl⟩
    | succ n ih =>
      intro k a hk ha
      have hB := w8 k (by omega)
      have mid : ∀ t, t ≤ 1 → (t = 1 ↔ (o = false ∨ Y 6 k = f)) → K (some 46) ([(0, vR 5 0 0), (1, vI (nI pg)), (2, vI (sp_fo o f)), (3, vI (nI a)), (4, vI (nI k))], [vI (nI t)], h) := by
        intro t ht hti
        refine hK [(5, [0, 1, 2, 3, 4])] 80 _ _ ?_
        conv => whnf
        repeat' (first
          | (refine ⟨fun c9 => ?_, fun c9 => ?_⟩ <;> (try simp (disch := omega) only [nI_leI, nI_ltI, nI_eq, nz_eq, nz_lt, nz_gt, nz_le, nz_ge, nz_00, nz_n1, nI_add, pk_mul, pk_sub, nI_shl1, nI_or, nI_half2, nI_min2, la_put_eq, la_up, lr_same, lr_ne, lu_same, lu_ne, not_true_eq_false, not_false_eq_true, qr2 hP, qr3 hP, qr4 hP, qr5 hP, qr6 hP, qr7 hP, qr8 hP, qrN hP, qrD hP, qrB hP, qrY hP, qrQ hP, qr1 hP, subadd] at c9) <;> first | (exfalso; omega) | conv => whnf)
          | (refine ⟨_, rfl, by omega, ?_⟩; conv => whnf)
          | (refine ⟨_, rfl, rfl, rfl, by decide, by decide, ?_⟩; conv => whnf)
          | (refine ⟨_, by (simp (disch := omega) only [nI_leI, nI_ltI, nI_eq, nz_eq, nz_lt, nz_gt, nz_le, nz_ge, nz_00, nz_n1, nI_add, pk_mul, pk_sub, nI_shl1, nI_or, nI_half2, nI_min2, la_put_eq, la_up, lr_same, lr_ne, lu_same, lu_ne, not_true_eq_false, not_false_eq_true, qr2 hP, qr3 hP, qr4 hP, qr5 hP, qr6 hP, qr7 hP, qr8 hP, qrN hP, qrD hP, qrB hP, qrY hP, qrQ hP, qr1 hP, subadd]; rfl), by omega, ?_⟩; conv => whnf)
          | (apply And.intro; (first | assumption | decide | (simp (disch := omega) only [nI_leI, nI_ltI, nI_eq, nz_eq, nz_lt, nz_gt, nz_le, nz_ge, nz_00, nz_n1, nI_add, pk_mul, pk_sub, nI_shl1, nI_or, nI_half2, nI_min2, la_put_eq, la_up, lr_same, lr_ne, lu_same, lu_ne, not_true_eq_false, not_false_eq_true, qr2 hP, qr3 hP, qr4 hP, qr5 hP, qr6 hP, qr7 hP, qr8 hP, qrN hP, qrD hP, qrB hP, qrY hP, qrQ hP, qr1 hP, subadd]; omega)); conv => whnf))
        all_goals (try simp (disch := omega) only [nI_leI, nI_ltI, nI_eq, nz_eq, nz_lt, nz_gt, nz_le, nz_ge, nz_00, nz_n1, nI_add, pk_mul, pk_sub, nI_shl1, nI_or, nI_half2, nI_min2, la_put_eq, la_up, lr_same, lr_ne, lu_same, lu_ne, not_true_eq_false, not_false_eq_true, qr2 hP, qr3 hP, qr4 hP, qr5 hP, qr6 hP, qr7 hP, qr8 hP, qrN hP, qrD hP, qrB hP, qrY hP, qrQ hP, qr1 hP, subadd])
        · refine ih (k + 1) _ (by omega) ?_
          have : ¬ (o = false ∨ Y 6 k = f) := fun q => by have := hti.mpr q; omega
          rw [sp_or, ← ha, if_neg (fun q => this q.1)]
        · refine ih (k + 1) _ (by omega) ?_
          rw [sp_or, ← ha, if_neg (by omega)]
        · refine ih (k + 1) _ (by omega) ?_
          have : o = false ∨ Y 6 k = f := hti.mp (by omega)
          rw [sp_or, ← ha, if_pos ⟨this, by omega⟩]
      cases o with
      | false =>
        refine hK [(46, [0, 1, 2, 3, 4])] 80 _ _ ?_
        conv => whnf
        repeat' (first
          | (refine ⟨fun c9 => ?_, fun c9 => ?_⟩ <;> (try simp (disch := omega) only [nI_leI, nI_ltI, nI_eq, nz_eq, nz_lt, nz_gt, nz_le, nz_ge, nz_00, nz_n1, nI_add, pk_mul, pk_sub, nI_shl1, nI_or, nI_half2, nI_min2, la_put_eq, la_up, lr_same, lr_ne, lu_same, lu_ne, not_true_eq_false, not_false_eq_true, qr2 hP, qr3 hP, qr4 hP, qr5 hP, qr6 hP, qr7 hP, qr8 hP, qrN hP, qrD hP, qrB hP, qrY hP, qrQ hP, qr1 hP, subadd] at c9) <;> first | (exfalso; omega) | conv => whnf)
          | (refine ⟨_, rfl, by omega, ?_⟩; conv => whnf)
          | (refine ⟨_, rfl, rfl, rfl, by decide, by decide, ?_⟩; conv => whnf)
          | (refine ⟨_, by (simp (disch := omega) only [nI_leI, nI_ltI, nI_eq, nz_eq, nz_lt, nz_gt, nz_le, nz_ge, nz_00, nz_n1, nI_add, pk_mul, pk_sub, nI_shl1, nI_or, nI_half2, nI_min2, la_put_eq, la_up, lr_same, lr_ne, lu_same, lu_ne, not_true_eq_false, not_false_eq_true, qr2 hP, qr3 hP, qr4 hP, qr5 hP, qr6 hP, qr7 hP, qr8 hP, qrN hP, qrD hP, qrB hP, qrY hP, qrQ hP, qr1 hP, subadd]; rfl), by omega, ?_⟩; conv => whnf)
          | (apply And.intro; (first | assumption | decide | (simp (disch := omega) only [nI_leI, nI_ltI, nI_eq, nz_eq, nz_lt, nz_gt, nz_le, nz_ge, nz_00, nz_n1, nI_add, pk_mul, pk_sub, nI_shl1, nI_or, nI_half2, nI_min2, la_put_eq, la_up, lr_same, lr_ne, lu_same, lu_ne, not_true_eq_false, not_false_eq_true, qr2 hP, qr3 hP, qr4 hP, qr5 hP, qr6 hP, qr7 hP, qr8 hP, qrN hP, qrD hP, qrB hP, qrY hP, qrQ hP, qr1 hP, subadd]; omega)); conv => whnf))
        all_goals (try simp (disch := omega) only [nI_leI, nI_ltI, nI_eq, nz_eq, nz_lt, nz_gt, nz_le, nz_ge, nz_00, nz_n1, nI_add, pk_mul, pk_sub, nI_shl1, nI_or, nI_half2, nI_min2, la_put_eq, la_up, lr_same, lr_ne, lu_same, lu_ne, not_true_eq_false, not_false_eq_true, qr2 hP, qr3 hP, qr4 hP, qr5 hP, qr6 hP, qr7 hP, qr8 hP, qrN hP, qrD hP, qrB hP, qrY hP, qrQ hP, qr1 hP, subadd])
        all_goals first | exact mid 1 (by omega) (by simp) | exact absurd rfl (by assumption)
      | true =>
        refine hK [(46, [0, 1, 2, 3, 4])] 80 _ _ ?_
        conv => whnf
        repeat' (first
          | (refine ⟨fun c9 => ?_, fun c9 => ?_⟩ <;> (try simp (disch := omega) only [nI_leI, nI_ltI, nI_eq, nz_eq, nz_lt, nz_gt, nz_le, nz_ge, nz_00, nz_n1, nI_add, pk_mul, pk_sub, nI_shl1, nI_or, nI_half2, nI_min2, la_put_eq, la_up, lr_same, lr_ne, lu_same, lu_ne, not_true_eq_false, not_false_eq_true, qr2 hP, qr3 hP, qr4 hP, qr5 hP, qr6 hP, qr7 hP, qr8 hP, qrN hP, qrD hP, qrB hP, qrY hP, qrQ hP, qr1 hP, subadd, sp_fo, if_true, nI_n4] at c9) <;> first | (exfalso; omega) | conv => whnf)
          | (refine ⟨_, rfl, by omega, ?_⟩; conv => whnf)
          | (refine ⟨_, rfl, rfl, rfl, by decide, by decide, ?_⟩; conv => whnf)
          | (refine ⟨_, by (simp (disch := omega) only [nI_leI, nI_ltI, nI_eq, nz_eq, nz_lt, nz_gt, nz_le, nz_ge, nz_00, nz_n1, nI_add, pk_mul, pk_sub, nI_shl1, nI_or, nI_half2, nI_min2, la_put_eq, la_up, lr_same, lr_ne, lu_same, lu_ne, not_true_eq_false, not_false_eq_true, qr2 hP, qr3 hP, qr4 hP, qr5 hP, qr6 hP, qr7 hP, qr8 hP, qrN hP, qrD hP, qrB hP, qrY hP, qrQ hP, qr1 hP, subadd, sp_fo, if_true, nI_n4]; rfl), by omega, ?_⟩; conv => whnf)
          | (apply And.intro; (first | assumption | decide | (simp (disch := omega) only [nI_leI, nI_ltI, nI_eq, nz_eq, nz_lt, nz_gt, nz_le, nz_ge, nz_00, nz_n1, nI_add, pk_mul, pk_sub, nI_shl1, nI_or, nI_half2, nI_min2, la_put_eq, la_up, lr_same, lr_ne, lu_same, lu_ne, not_true_eq_false, not_false_eq_true, qr2 hP, qr3 hP, qr4 hP, qr5 hP, qr6 hP, qr7 hP, qr8 hP, qrN hP, qrD hP, qrB hP, qrY hP, qrQ hP, qr1 hP, subadd, sp_fo, if_true, nI_n4]; omega)); conv => whnf))
        all_goals (try simp (disch := omega) only [nI_leI, nI_ltI, nI_eq, nz_eq, nz_lt, nz_gt, nz_le, nz_ge, nz_00, nz_n1, nI_add, pk_mul, pk_sub, nI_shl1, nI_or, nI_half2, nI_min2, la_put_eq, la_up, lr_same, lr_ne, lu_same, lu_ne, not_true_eq_false, not_false_eq_true, qr2 hP, qr3 hP, qr4 hP, qr5 hP, qr6 hP, qr7 hP, qr8 hP, qrN hP, qrD hP, qrB hP, qrY hP, qrQ hP, qr1 hP, subadd, sp_fo, if_true, nI_n4])
        · exact mid 0 (by omega) (by simp; omega)
        · exact mid 1 (by omega) (by simp; omega)
  refine hK [(5, [0, 1, 2, 3, 4])] 80 _ _ ?_
  conv => whnf
  repeat' (first
    | (refine ⟨fun c9 => ?_, fun c9 => ?_⟩ <;> (try simp (disch := omega) only [nI_leI, nI_ltI, nI_eq, nz_eq, nz_lt, nz_gt, nz_le, nz_ge, nz_00, nz_n1, nI_add, pk_mul, pk_sub, nI_shl1, nI_or, nI_half2, nI_min2, la_put_eq, la_up, lr_same, lr_ne, lu_same, lu_ne, not_true_eq_false, not_false_eq_true, qr2 hP, qr3 hP, qr4 hP, qr5 hP, qr6 hP, qr7 hP, qr8 hP, qrN hP, qrD hP, qrB hP, qrY hP, qrQ hP, qr1 hP, subadd] at c9) <;> first | (exfalso; omega) | conv => whnf)
    | (refine ⟨_, rfl, by omega, ?_⟩; conv => whnf)
    | (refine ⟨_, rfl, rfl, rfl, by decide, by decide, ?_⟩; conv => whnf)
    | (refine ⟨_, by (simp (disch := omega) only [nI_leI, nI_ltI, nI_eq, nz_eq, nz_lt, nz_gt, nz_le, nz_ge, nz_00, nz_n1, nI_add, pk_mul, pk_sub, nI_shl1, nI_or, nI_half2, nI_min2, la_put_eq, la_up, lr_same, lr_ne, lu_same, lu_ne, not_true_eq_false, not_false_eq_true, qr2 hP, qr3 hP, qr4 hP, qr5 hP, qr6 hP, qr7 hP, qr8 hP, qrN hP, qrD hP, qrB hP, qrY hP, qrQ hP, qr1 hP, subadd]; rfl), by omega, ?_⟩; conv => whnf)
    | (apply And.intro; (first | assumption | decide | (simp (disch := omega) only [nI_leI, nI_ltI, nI_eq, nz_eq, nz_lt, nz_gt, nz_le, nz_ge, nz_00, nz_n1, nI_add, pk_mul, pk_sub, nI_shl1, nI_or, nI_half2, nI_min2, la_put_eq, la_up, lr_same, lr_ne, lu_same, lu_ne, not_true_eq_false, not_false_eq_true, qr2 hP, qr3 hP, qr4 hP, qr5 hP, qr6 hP, qr7 hP, qr8 hP, qrN hP, qrD hP, qrB hP, qrY hP, qrQ hP, qr1 hP, subadd]; omega)); conv => whnf))
  all_goals (try simp (disch := omega) only [nI_leI, nI_ltI, nI_eq, nz_eq, nz_lt, nz_gt, nz_le, nz_ge, nz_00, nz_n1, nI_add, pk_mul, pk_sub, nI_shl1, nI_or, nI_half2, nI_min2, la_put_eq, la_up, lr_same, lr_ne, lu_same, lu_ne, not_true_eq_false, not_false_eq_true, qr2 hP, qr3 hP, qr4 hP, qr5 hP, qr6 hP, qr7 hP, qr8 hP, qrN hP, qrD hP, qrB hP, qrY hP, qrQ hP, qr1 hP, subadd])
  exact loop (Y 0 3) 0 0 (by omega) rfl
theorem M_X5_subjectsOn : pm_MT yX5_subjectsOn cX5_subjectsOn 6 1 2 P_X5_subjectsOn (pm_pi Q_X5_subjectsOn) := pm_met k_X5_subjectsOn (by decide) rfl (by
  rintro ⟨g0, g1, g2, g3, g4⟩ av h hp
  rw [hp.1]
  exact Nat.le_of_ble_eq_true rfl) pf_X5_subjectsOn
theorem rc_X5_subjectsOn : ∀ g av h, P_X5_subjectsOn g av h → ∃ i t, av = .inr (.inr (5, i, 0)) :: t := by
  rintro ⟨g0, g1, g2, g3, g4⟩ av h hp
  exact ⟨_, _, hp.1⟩
