/-! THE MODEL: read. -/
def q_rd2 (t l z lane : Nat) (C : Nat → Int32) (N : LD) (f : Int32) (m c : Nat) (r : Int32) (e : Option Int32) (N' : LD) : Prop := c ≤ m ∧ (∀ i, i < c → rd_nf t l z lane f i ∧ rd_bk C N f i) ∧ ((c = m ∧ r = nI m ∧ e = some (nI 0) ∧ N' = sp_rd C (ixv f) N c) ∨ (c < m ∧ ¬ rd_nf t l z lane f c ∧ r = nI c ∧ e = some (rd_flt t l lane) ∧ N' = sp_rd C (ixv f) N c) ∨ (c < m ∧ rd_nf t l z lane f c ∧ ¬ rd_bk C N f c ∧ r = (-20) - nI c ∧ e = none ∧ N' = N))
def rd_hm (h0 : pm_H) (N' : LD) (e : Option Int32) : pm_H := match e with
  | some x => pm_up (pg_put h0 0 N') 5 0 0 25 x
  | none => pg_put h0 0 N'
theorem mf_pg0 {a b : pm_H} {Z : LD} (h : mf a b) : mf (pg_put a 0 Z) (pg_put b 0 Z) := fun c i s j hn => by
  unfold pg_put
  by_cases q : c = 5 ∧ i = 0 ∧ s = 1 ∧ 0 ≤ j ∧ j < 0 + 49
  · rw [if_pos q, if_pos q]
  · rw [if_neg q, if_neg q]; exact h c i s j hn
theorem rng {f : Int32} {i z : Nat} {h0 h : pm_H} {r : Int32} (hi : i ≤ 100) (hz : z ≤ 40) (hf : i = 0 ∨ (f = nI (ixv f) ∧ ixv f ≤ 40)) (hq : Q_X5_in (f.toInt64 + lN i, lN 0, (nI z - nI 1).toInt64, h0) r h) : h = h0 ∧ (((f = nI (ixv f) ∧ ixv f + i < z) ∧ r = nI 1) ∨ (¬ (f = nI (ixv f) ∧ ixv f + i < z) ∧ r = nI 0)) := by
  obtain ⟨h1, h2⟩ := hq
  have key : (lN 0 ≤ f.toInt64 + lN i ∧ f.toInt64 + lN i ≤ (nI z - nI 1).toInt64) ↔ (f = nI (ixv f) ∧ ixv f + i < z) := by
    have hb := Int32.toInt_lt f
    have ha := Int32.le_toInt f
    have e1 : (f.toInt64 + lN i).toInt = f.toInt + i := by
      rw [Int64.toInt_add, Int32.toInt_toInt64, lN_toInt (by omega)]
      simp only [Int.bmod]
      split <;> omega
    rw [Int64.le_iff_toInt_le, Int64.le_iff_toInt_le, e1, lN_toInt (by decide), Int32.toInt_toInt64, pk_sub_toInt (by omega) (by decide)]
    constructor
    · rintro ⟨q1, q2⟩
      have hnn : ¬ f < 0 := by
        rw [Int32.lt_iff_toInt_lt]
        show ¬ f.toInt < 0
        rcases hf with rfl | ⟨hf, hf2⟩
        · omega
        · rw [hf, nI_toInt (by omega)]; omega
      obtain ⟨k, hk, rfl⟩ := nI_of hnn
      rw [ixv_nI hk]
      rw [nI_toInt hk] at q1 q2
      exact ⟨rfl, by omega⟩
    · rintro ⟨q1, q2⟩
      rw [q1, nI_toInt (by omega)]
      omega
  rw [key] at h2
  exact ⟨h1, h2⟩
def P_X5_read : Int32 × Int32 × Int32 × Int32 × LD × (Nat → Nat) × (Nat → Nat) × (Nat → Nat) × pm_H → List pm_V → pm_H → Prop := fun g av h => match g with
  | (k, ln, f, n, Y, t, l, z, h0) => av = [vR 5 0 0, vI k, vI ln, vI f, vI n] ∧ h = h0 ∧ md h0 Y ∧ mshs h0 t l z
def Q_X5_read : Int32 × Int32 × Int32 × Int32 × LD × (Nat → Nat) × (Nat → Nat) × (Nat → Nat) × pm_H → Int32 → pm_H → Prop := fun g r h => match g with
  | (k, ln, f, n, N, t, l, z, h0) => (∃ q x m c e N', q < 4 ∧ x ≤ 2 ∧ m ≤ 10 ∧ k = nI q ∧ ln = nI x ∧ n = nI m ∧ q_rd2 (t q) (l q) (z q) x (fun j => h0 5 0 11 (40 * q + j)) N f m c r e N' ∧ la_ok N' ∧ mf (rd_hm h0 N' e) h) ∨ (¬ (wi k 0 3 ∧ wi ln 0 2 ∧ wi n 0 10) ∧ r = -1 ∧ h = h0)
def T_X5_read : List (Nat × pm_T) := [
  (0, i_il 1 1),
  (1, i_i2l 2),
  (2, i_cl (lN 0) 3),
  (3, i_cl (lN 3) 6),
  (6, i_ci 3 P_X5_in Q_X5_in 9),
  (9, i_ifeq 37 12),
  (12, i_il 2 13),
  (13, i_i2l 14),
  (14, i_cl (lN 0) 15),
  (15, i_cl (lN 2) 18),
  (18, i_ci 3 P_X5_in Q_X5_in 21),
  (21, i_ifeq 37 24),
  (24, i_il 4 26),
  (26, i_i2l 27),
  (27, i_cl (lN 0) 28),
  (28, i_cl (lN 10) 31),
  (31, i_ci 3 P_X5_in Q_X5_in 34),
  (34, i_ifne 39 37),
  (37, i_c (-1) 38),
  (38, i_ir),
  (39, i_al 0 40),
  (40, i_c (nI 0) 41),
  (41, i_c (nI 147) 44),
  (44, i_cv 3 P_X5_copies Q_X5_copies 47),
  (47, i_c (nI 0) 48),
  (48, i_is 5 50),
  (50, i_c (nI 0) 51),
  (51, i_is 6 53),
  (53, i_c (nI 0) 54),
  (54, i_is 7 56),
  (56, i_il 7 58),
  (58, i_c (nI 4) 59),
  (59, i_il 4 61),
  (61, i_imul 62),
  (62, i_icge 216 65),
  (65, i_il 5 67),
  (67, i_ifne 216 70),
  (70, i_al 0 71),
  (71, i_gr 5 (fun i => (5, i, 9)) 74),
  (74, i_il 1 75),
  (75, i_ia 76),
  (76, i_c (-4) 78),
  (78, i_icne 85 81),
  (81, i_c (nI 1) 82),
  (82, i_go 126),
  (85, i_al 0 86),
  (86, i_gr 5 (fun i => (5, i, 9)) 89),
  (89, i_il 1 90),
  (90, i_ia 91),
  (91, i_il 2 92),
  (92, i_iceq 99 95),
  (95, i_c (nI 3) 96),
  (96, i_go 126),
  (99, i_il 3 100),
  (100, i_i2l 101),
  (101, i_il 7 103),
  (103, i_i2l 104),
  (104, i_ladd 105),
  (105, i_cl (lN 0) 106),
  (106, i_al 0 107),
  (107, i_gr 5 (fun i => (5, i, 10)) 110),
  (110, i_il 1 111),
  (111, i_ia 112),
  (112, i_c (nI 1) 113),
  (113, i_isub 114),
  (114, i_i2l 115),
  (115, i_ci 3 P_X5_in Q_X5_in 118),
  (118, i_ifne 125 121),
  (121, i_c (nI 2) 122),
  (122, i_go 126),
  (125, i_c (nI 0) 126),
  (126, i_is 5 128),
  (128, i_il 5 130),
  (130, i_ifne 210 133),
  (133, i_il 7 135),
  (135, i_c (nI 4) 136),
  (136, i_irem 137),
  (137, i_c (nI 3) 138),
  (138, i_icne 210 141),
  (141, i_c (nI 40) 143),
  (143, i_il 1 144),
  (144, i_imul 145),
  (145, i_il 3 146),
  (146, i_iadd 147),
  (147, i_il 7 149),
  (149, i_iadd 150),
  (150, i_is 8 152),
  (152, i_al 0 153),
  (153, i_al 0 154),
  (154, i_gr 5 (fun i => (5, i, 11)) 157),
  (157, i_il 8 159),
  (159, i_c (nI 3) 160),
  (160, i_isub 161),
  (161, i_ia 162),
  (162, i_al 0 163),
  (163, i_gr 5 (fun i => (5, i, 11)) 166),
  (166, i_il 8 168),
  (168, i_c (nI 2) 169),
  (169, i_isub 170),
  (170, i_ia 171),
  (171, i_al 0 172),
  (172, i_gr 5 (fun i => (5, i, 11)) 175),
  (175, i_il 8 177),
  (177, i_c (nI 1) 178),
  (178, i_isub 179),
  (179, i_ia 180),
  (180, i_al 0 181),
  (181, i_gr 5 (fun i => (5, i, 11)) 184),
  (184, i_il 8 186),
  (186, i_ia 187),
  (187, i_ci 5 P_X5_bakes Q_X5_bakes 190),
  (190, i_ifge 207 193),
  (193, i_al 0 194),
  (194, i_c (nI 147) 197),
  (197, i_c (nI 0) 198),
  (198, i_cv 3 P_X5_copies Q_X5_copies 201),
  (201, i_c (-20) 203),
  (203, i_il 6 205),
  (205, i_isub 206),
  (206, i_ir),
  (207, i_inc 6 (nI 1) 210),
  (210, i_inc 7 (nI 1) 213),
  (213, i_go 56),
  (216, i_al 0 217),
  (217, i_il 5 219),
  (219, i_pi 5 25 222),
  (222, i_il 6 224),
  (224, i_ir)]
theorem k_X5_read : ∀ q ∈ T_X5_read, pm_sd RX5 cX5_read 9 5 1 q.1 q.2 := by
  unfold T_X5_read
  refine pm_cn (sd_iln (k := 1) (by decide +kernel) rfl rfl) ?_
  refine pm_cn (sd_i2l (by decide +kernel) rfl) ?_
  refine pm_cn (sd_lconst (z := 0) (by decide +kernel) (by decide +kernel) rfl) ?_
  refine pm_cn (sd_ldc2 (k := 167) (by decide +kernel) (pm_tin (by decide +kernel) rfl) rfl) ?_
  refine pm_cn (sd_cis M_X5_in (by decide) cd_X5_in ml_X5_46 st_X5_in nt_X5 (by decide +kernel) (by omega) (by decide) (by decide +kernel) rfl) ?_
  refine pm_cn (sd_ifeq (off := 28) (by decide +kernel) (by decide) rfl) ?_
  refine pm_cn (sd_iln (k := 2) (by decide +kernel) rfl rfl) ?_
  refine pm_cn (sd_i2l (by decide +kernel) rfl) ?_
  refine pm_cn (sd_lconst (z := 0) (by decide +kernel) (by decide +kernel) rfl) ?_
  refine pm_cn (sd_ldc2 (k := 229) (by decide +kernel) (pm_tin (by decide +kernel) rfl) rfl) ?_
  refine pm_cn (sd_cis M_X5_in (by decide) cd_X5_in ml_X5_46 st_X5_in nt_X5 (by decide +kernel) (by omega) (by decide) (by decide +kernel) rfl) ?_
  refine pm_cn (sd_ifeq (off := 16) (by decide +kernel) (by decide) rfl) ?_
  refine pm_cn (sd_il (by decide +kernel) rfl) ?_
  refine pm_cn (sd_i2l (by decide +kernel) rfl) ?_
  refine pm_cn (sd_lconst (z := 0) (by decide +kernel) (by decide +kernel) rfl) ?_
  refine pm_cn (sd_ldc2 (k := 208) (by decide +kernel) (pm_tin (by decide +kernel) rfl) rfl) ?_
  refine pm_cn (sd_cis M_X5_in (by decide) cd_X5_in ml_X5_46 st_X5_in nt_X5 (by decide +kernel) (by omega) (by decide) (by decide +kernel) rfl) ?_
  refine pm_cn (sd_ifne (off := 5) (by decide +kernel) (by decide) rfl) ?_
  refine pm_cn (sd_iconst (z := -1) (by decide +kernel) (by decide +kernel) rfl) ?_
  refine pm_cn (sd_ir (by decide +kernel)) ?_
  refine pm_cn (sd_aln (k := 0) (by decide +kernel) rfl rfl) ?_
  refine pm_cn (sd_iconst (z := 0) (by decide +kernel) (by decide +kernel) rfl) ?_
  refine pm_cn (sd_sipush (z := 147) (by decide +kernel) (by decide +kernel) rfl) ?_
  refine pm_cn (sd_cvv M_X5_copies cd_X5_copies rc_X5_copies cl5_ ml_X5_190 im_X5_copies se_X5_copies nt_X5 (by decide +kernel) (by omega) (by decide) (by decide +kernel) rfl) ?_
  refine pm_cn (sd_iconst (z := 0) (by decide +kernel) (by decide +kernel) rfl) ?_
  refine pm_cn (sd_is (by decide +kernel) rfl (by decide)) ?_
  refine pm_cn (sd_iconst (z := 0) (by decide +kernel) (by decide +kernel) rfl) ?_
  refine pm_cn (sd_is (by decide +kernel) rfl (by decide)) ?_
  refine pm_cn (sd_iconst (z := 0) (by decide +kernel) (by decide +kernel) rfl) ?_
  refine pm_cn (sd_is (by decide +kernel) rfl (by decide)) ?_
  refine pm_cn (sd_il (by decide +kernel) rfl) ?_
  refine pm_cn (sd_iconst (z := 4) (by decide +kernel) (by decide +kernel) rfl) ?_
  refine pm_cn (sd_il (by decide +kernel) rfl) ?_
  refine pm_cn (sd_imul (by decide +kernel) rfl) ?_
  refine pm_cn (sd_icge (off := 154) (by decide +kernel) (by decide) rfl) ?_
  refine pm_cn (sd_il (by decide +kernel) rfl) ?_
  refine pm_cn (sd_ifne (off := 149) (by decide +kernel) (by decide) rfl) ?_
  refine pm_cn (sd_aln (k := 0) (by decide +kernel) rfl rfl) ?_
  refine pm_cn (sd_gr cl5_ in5_ (j := 22) (by decide) (fun _ => rfl) fl_X5_35 (by decide +kernel) rfl) ?_
  refine pm_cn (sd_iln (k := 1) (by decide +kernel) rfl rfl) ?_
  refine pm_cn (sd_ia (by decide +kernel) rfl) ?_
  refine pm_cn (sd_bipush (z := -4) (by decide +kernel) (by decide +kernel) rfl) ?_
  refine pm_cn (sd_icne (off := 7) (by decide +kernel) (by decide) rfl) ?_
  refine pm_cn (sd_iconst (z := 1) (by decide +kernel) (by decide +kernel) rfl) ?_
  refine pm_cn (sd_go (off := 44) (by decide +kernel) (by decide)) ?_
  refine pm_cn (sd_aln (k := 0) (by decide +kernel) rfl rfl) ?_
  refine pm_cn (sd_gr cl5_ in5_ (j := 22) (by decide) (fun _ => rfl) fl_X5_35 (by decide +kernel) rfl) ?_
  refine pm_cn (sd_iln (k := 1) (by decide +kernel) rfl rfl) ?_
  refine pm_cn (sd_ia (by decide +kernel) rfl) ?_
  refine pm_cn (sd_iln (k := 2) (by decide +kernel) rfl rfl) ?_
  refine pm_cn (sd_iceq (off := 7) (by decide +kernel) (by decide) rfl) ?_
  refine pm_cn (sd_iconst (z := 3) (by decide +kernel) (by decide +kernel) rfl) ?_
  refine pm_cn (sd_go (off := 30) (by decide +kernel) (by decide)) ?_
  refine pm_cn (sd_iln (k := 3) (by decide +kernel) rfl rfl) ?_
  refine pm_cn (sd_i2l (by decide +kernel) rfl) ?_
  refine pm_cn (sd_il (by decide +kernel) rfl) ?_
  refine pm_cn (sd_i2l (by decide +kernel) rfl) ?_
  refine pm_cn (sd_ladd (by decide +kernel) rfl) ?_
  refine pm_cn (sd_lconst (z := 0) (by decide +kernel) (by decide +kernel) rfl) ?_
  refine pm_cn (sd_aln (k := 0) (by decide +kernel) rfl rfl) ?_
  refine pm_cn (sd_gr cl5_ in5_ (j := 23) (by decide) (fun _ => rfl) fl_X5_38 (by decide +kernel) rfl) ?_
  refine pm_cn (sd_iln (k := 1) (by decide +kernel) rfl rfl) ?_
  refine pm_cn (sd_ia (by decide +kernel) rfl) ?_
  refine pm_cn (sd_iconst (z := 1) (by decide +kernel) (by decide +kernel) rfl) ?_
  refine pm_cn (sd_isub (by decide +kernel) rfl) ?_
  refine pm_cn (sd_i2l (by decide +kernel) rfl) ?_
  refine pm_cn (sd_cis M_X5_in (by decide) cd_X5_in ml_X5_46 st_X5_in nt_X5 (by decide +kernel) (by omega) (by decide) (by decide +kernel) rfl) ?_
  refine pm_cn (sd_ifne (off := 7) (by decide +kernel) (by decide) rfl) ?_
  refine pm_cn (sd_iconst (z := 2) (by decide +kernel) (by decide +kernel) rfl) ?_
  refine pm_cn (sd_go (off := 4) (by decide +kernel) (by decide)) ?_
  refine pm_cn (sd_iconst (z := 0) (by decide +kernel) (by decide +kernel) rfl) ?_
  refine pm_cn (sd_is (by decide +kernel) rfl (by decide)) ?_
  refine pm_cn (sd_il (by decide +kernel) rfl) ?_
  refine pm_cn (sd_ifne (off := 80) (by decide +kernel) (by decide) rfl) ?_
  refine pm_cn (sd_il (by decide +kernel) rfl) ?_
  refine pm_cn (sd_iconst (z := 4) (by decide +kernel) (by decide +kernel) rfl) ?_
  refine pm_cn (sd_irem (by decide +kernel) rfl) ?_
  refine pm_cn (sd_iconst (z := 3) (by decide +kernel) (by decide +kernel) rfl) ?_
  refine pm_cn (sd_icne (off := 72) (by decide +kernel) (by decide) rfl) ?_
  refine pm_cn (sd_bipush (z := 40) (by decide +kernel) (by decide +kernel) rfl) ?_
  refine pm_cn (sd_iln (k := 1) (by decide +kernel) rfl rfl) ?_
  refine pm_cn (sd_imul (by decide +kernel) rfl) ?_
  refine pm_cn (sd_iln (k := 3) (by decide +kernel) rfl rfl) ?_
  refine pm_cn (sd_iadd (by decide +kernel) rfl) ?_
  refine pm_cn (sd_il (by decide +kernel) rfl) ?_
  refine pm_cn (sd_iadd (by decide +kernel) rfl) ?_
  refine pm_cn (sd_is (by decide +kernel) rfl (by decide)) ?_
  refine pm_cn (sd_aln (k := 0) (by decide +kernel) rfl rfl) ?_
  refine pm_cn (sd_aln (k := 0) (by decide +kernel) rfl rfl) ?_
  refine pm_cn (sd_gr cl5_ in5_ (j := 24) (by decide) (fun _ => rfl) fl_X5_41 (by decide +kernel) rfl) ?_
  refine pm_cn (sd_il (by decide +kernel) rfl) ?_
  refine pm_cn (sd_iconst (z := 3) (by decide +kernel) (by decide +kernel) rfl) ?_
  refine pm_cn (sd_isub (by decide +kernel) rfl) ?_
  refine pm_cn (sd_ia (by decide +kernel) rfl) ?_
  refine pm_cn (sd_aln (k := 0) (by decide +kernel) rfl rfl) ?_
  refine pm_cn (sd_gr cl5_ in5_ (j := 24) (by decide) (fun _ => rfl) fl_X5_41 (by decide +kernel) rfl) ?_
  refine pm_cn (sd_il (by decide +kernel) rfl) ?_
  refine pm_cn (sd_iconst (z := 2) (by decide +kernel) (by decide +kernel) rfl) ?_
  refine pm_cn (sd_isub (by decide +kernel) rfl) ?_
  refine pm_cn (sd_ia (by decide +kernel) rfl) ?_
  refine pm_cn (sd_aln (k := 0) (by decide +kernel) rfl rfl) ?_
  refine pm_cn (sd_gr cl5_ in5_ (j := 24) (by decide) (fun _ => rfl) fl_X5_41 (by decide +kernel) rfl) ?_
  refine pm_cn (sd_il (by decide +kernel) rfl) ?_
  refine pm_cn (sd_iconst (z := 1) (by decide +kernel) (by decide +kernel) rfl) ?_
  refine pm_cn (sd_isub (by decide +kernel) rfl) ?_
  refine pm_cn (sd_ia (by decide +kernel) rfl) ?_
  refine pm_cn (sd_aln (k := 0) (by decide +kernel) rfl rfl) ?_
  refine pm_cn (sd_gr cl5_ in5_ (j := 24) (by decide) (fun _ => rfl) fl_X5_41 (by decide +kernel) rfl) ?_
  refine pm_cn (sd_il (by decide +kernel) rfl) ?_
  refine pm_cn (sd_ia (by decide +kernel) rfl) ?_
  refine pm_cn (sd_civ M_X5_bakes (by decide) cd_X5_bakes rc_X5_bakes cl5_ ml_X5_181 im_X5_bakes se_X5_bakes nt_X5 (by decide +kernel) (by omega) (by decide) (by decide +kernel) rfl) ?_
  refine pm_cn (sd_ifge (off := 17) (by decide +kernel) (by decide) rfl) ?_
  refine pm_cn (sd_aln (k := 0) (by decide +kernel) rfl rfl) ?_
  refine pm_cn (sd_sipush (z := 147) (by decide +kernel) (by decide +kernel) rfl) ?_
  refine pm_cn (sd_iconst (z := 0) (by decide +kernel) (by decide +kernel) rfl) ?_
  refine pm_cn (sd_cvv M_X5_copies cd_X5_copies rc_X5_copies cl5_ ml_X5_190 im_X5_copies se_X5_copies nt_X5 (by decide +kernel) (by omega) (by decide) (by decide +kernel) rfl) ?_
  refine pm_cn (sd_bipush (z := -20) (by decide +kernel) (by decide +kernel) rfl) ?_
  refine pm_cn (sd_il (by decide +kernel) rfl) ?_
  refine pm_cn (sd_isub (by decide +kernel) rfl) ?_
  refine pm_cn (sd_ir (by decide +kernel)) ?_
  refine pm_cn (sd_inc (z := 1) (by decide +kernel) (by decide +kernel) rfl (by decide)) ?_
  refine pm_cn (sd_inc (z := 1) (by decide +kernel) (by decide +kernel) rfl (by decide)) ?_
  refine pm_cn (sd_go (off := -157) (by decide +kernel) (by decide)) ?_
  refine pm_cn (sd_aln (k := 0) (by decide +kernel) rfl rfl) ?_
  refine pm_cn (sd_il (by decide +kernel) rfl) ?_
  refine pm_cn (sd_pi cl5_ in5_ tyX5 tyX5_ok nmX5 (by decide) (fun _ => rfl) rfl rfl fl_X5_231 (by decide +kernel) rfl) ?_
  refine pm_cn (sd_il (by decide +kernel) rfl) ?_
  refine pm_cn (sd_ir (by decide +kernel)) ?_
  exact fun _ h => absurd h List.not_mem_nil
set_option maxHeartbeats 800000 in
set_option maxRecDepth 100000 in
theorem pf_X5_read : pm_pf T_X5_read P_X5_read (pm_pi Q_X5_read) := by
  rintro ⟨k, ln, f, n, N, t, l, z, h0⟩ av h K hK ⟨rfl, rfl, ⟨hP, wN, hF⟩, hsh⟩ hret
  have w1 := wN.1
  have w2 := wN.2.1
  show K (some 0) ([(0, vR 5 0 0), (1, vI k), (2, vI ln), (3, vI f), (4, vI n)], [], h)
  refine hK [(56, [0, 1, 2, 3, 4, 5, 6, 7])] 80 _ _ ?_
  conv => whnf
  repeat' (first
    | (refine ⟨fun c9 => ?_, fun c9 => ?_⟩ <;> (try simp (disch := omega) only [nI_leI, nI_ltI, nI_eq, nz_eq, nz_lt, nz_gt, nz_le, nz_ge, nz_00, nz_n1, nI_add, pk_mul, pk_sub, nI_shl1, nI_or, nI_half2, nI_min2, la_put_eq, la_up, lr_same, lr_ne, lu_same, lu_ne, not_true_eq_false, not_false_eq_true] at c9) <;> first | (exfalso; omega) | conv => whnf)
    | (refine ⟨_, rfl, by omega, ?_⟩; conv => whnf)
    | (refine ⟨_, rfl, rfl, rfl, by decide, by decide, ?_⟩; conv => whnf)
    | (refine ⟨_, by (simp (disch := omega) only [nI_leI, nI_ltI, nI_eq, nz_eq, nz_lt, nz_gt, nz_le, nz_ge, nz_00, nz_n1, nI_add, pk_mul, pk_sub, nI_shl1, nI_or, nI_half2, nI_min2, la_put_eq, la_up, lr_same, lr_ne, lu_same, lu_ne, not_true_eq_false, not_false_eq_true]; rfl), by omega, ?_⟩; conv => whnf)
    | (apply And.intro; (first | assumption | decide | (simp (disch := omega) only [nI_leI, nI_ltI, nI_eq, nz_eq, nz_lt, nz_gt, nz_le, nz_ge, nz_00, nz_n1, nI_add, pk_mul, pk_sub, nI_shl1, nI_or, nI_half2, nI_min2, la_put_eq, la_up, lr_same, lr_ne, lu_same, lu_ne, not_true_eq_false, not_false_eq_true]; omega)); conv => whnf))
  all_goals (try simp (disch := omega) only [nI_leI, nI_ltI, nI_eq, nz_eq, nz_lt, nz_gt, nz_le, nz_ge, nz_00, nz_n1, nI_add, pk_mul, pk_sub, nI_shl1, nI_or, nI_half2, nI_min2, la_put_eq, la_up, lr_same, lr_ne, lu_same, lu_ne, not_true_eq_false, not_false_eq_true])
  refine ⟨(k.toInt64, lN 0, lN 3, _), ⟨rfl, rfl⟩, fun r h' hq => ?_⟩
  obtain ⟨rfl, ⟨hk, rfl⟩ | ⟨hc, rfl⟩⟩ := Q_in (by decide) (by decide) hq
  · conv => whnf
    repeat' (first
      | (refine ⟨fun c9 => ?_, fun c9 => ?_⟩ <;> (try simp (disch := omega) only [nI_leI, nI_ltI, nI_eq, nz_eq, nz_lt, nz_gt, nz_le, nz_ge, nz_00, nz_n1, nI_add, pk_mul, pk_sub, nI_shl1, nI_or, nI_half2, nI_min2, la_put_eq, la_up, lr_same, lr_ne, lu_same, lu_ne, not_true_eq_false, not_false_eq_true] at c9) <;> first | (exfalso; omega) | conv => whnf)
      | (refine ⟨_, rfl, by omega, ?_⟩; conv => whnf)
      | (refine ⟨_, rfl, rfl, rfl, by decide, by decide, ?_⟩; conv => whnf)
      | (refine ⟨_, by (simp (disch := omega) only [nI_leI, nI_ltI, nI_eq, nz_eq, nz_lt, nz_gt, nz_le, nz_ge, nz_00, nz_n1, nI_add, pk_mul, pk_sub, nI_shl1, nI_or, nI_half2, nI_min2, la_put_eq, la_up, lr_same, lr_ne, lu_same, lu_ne, not_true_eq_false, not_false_eq_true]; rfl), by omega, ?_⟩; conv => whnf)
      | (apply And.intro; (first | assumption | decide | (simp (disch := omega) only [nI_leI, nI_ltI, nI_eq, nz_eq, nz_lt, nz_gt, nz_le, nz_ge, nz_00, nz_n1, nI_add, pk_mul, pk_sub, nI_shl1, nI_or, nI_half2, nI_min2, la_put_eq, la_up, lr_same, lr_ne, lu_same, lu_ne, not_true_eq_false, not_false_eq_true]; omega)); conv => whnf))
    all_goals (try simp (disch := omega) only [nI_leI, nI_ltI, nI_eq, nz_eq, nz_lt, nz_gt, nz_le, nz_ge, nz_00, nz_n1, nI_add, pk_mul, pk_sub, nI_shl1, nI_or, nI_half2, nI_min2, la_put_eq, la_up, lr_same, lr_ne, lu_same, lu_ne, not_true_eq_false, not_false_eq_true])
    refine ⟨(ln.toInt64, lN 0, lN 2, _), ⟨rfl, rfl⟩, fun r h' hq => ?_⟩
    obtain ⟨rfl, ⟨hl, rfl⟩ | ⟨hc, rfl⟩⟩ := Q_in (by decide) (by decide) hq
    · conv => whnf
      repeat' (first
        | (refine ⟨fun c9 => ?_, fun c9 => ?_⟩ <;> (try simp (disch := omega) only [nI_leI, nI_ltI, nI_eq, nz_eq, nz_lt, nz_gt, nz_le, nz_ge, nz_00, nz_n1, nI_add, pk_mul, pk_sub, nI_shl1, nI_or, nI_half2, nI_min2, la_put_eq, la_up, lr_same, lr_ne, lu_same, lu_ne, not_true_eq_false, not_false_eq_true] at c9) <;> first | (exfalso; omega) | conv => whnf)
        | (refine ⟨_, rfl, by omega, ?_⟩; conv => whnf)
        | (refine ⟨_, rfl, rfl, rfl, by decide, by decide, ?_⟩; conv => whnf)
        | (refine ⟨_, by (simp (disch := omega) only [nI_leI, nI_ltI, nI_eq, nz_eq, nz_lt, nz_gt, nz_le, nz_ge, nz_00, nz_n1, nI_add, pk_mul, pk_sub, nI_shl1, nI_or, nI_half2, nI_min2, la_put_eq, la_up, lr_same, lr_ne, lu_same, lu_ne, not_true_eq_false, not_false_eq_true]; rfl), by omega, ?_⟩; conv => whnf)
        | (apply And.intro; (first | assumption | decide | (simp (disch := omega) only [nI_leI, nI_ltI, nI_eq, nz_eq, nz_lt, nz_gt, nz_le, nz_ge, nz_00, nz_n1, nI_add, pk_mul, pk_sub, nI_shl1, nI_or, nI_half2, nI_min2, la_put_eq, la_up, lr_same, lr_ne, lu_same, lu_ne, not_true_eq_false, not_false_eq_true]; omega)); conv => whnf))
      all_goals (try simp (disch := omega) only [nI_leI, nI_ltI, nI_eq, nz_eq, nz_lt, nz_gt, nz_le, nz_ge, nz_00, nz_n1, nI_add, pk_mul, pk_sub, nI_shl1, nI_or, nI_half2, nI_min2, la_put_eq, la_up, lr_same, lr_ne, lu_same, lu_ne, not_true_eq_false, not_false_eq_true])
      refine ⟨(n.toInt64, lN 0, lN 10, _), ⟨rfl, rfl⟩, fun r h' hq => ?_⟩
      obtain ⟨rfl, ⟨hn, rfl⟩ | ⟨hc, rfl⟩⟩ := Q_in (by decide) (by decide) hq
      · obtain ⟨q, q1, q2, rfl⟩ := id hk
        obtain ⟨x, x1, x2, rfl⟩ := id hl
        obtain ⟨m, m1, m2, rfl⟩ := id hn
        obtain ⟨s0, s1, b1, b2, b3⟩ := hsh q (by omega)
        generalize hC : (fun j => h' 5 0 11 (40 * q + j)) = C at *
        have hCj : ∀ j, h' 5 0 11 (40 * q + j) = C j := fun j => by rw [← hC]
        have done : ∀ c r e N' H, q_rd2 (t q) (l q) (z q) x C N f m c r e N' → la_ok N' → mf (rd_hm h' N' e) H → K none ([], [vI r], H) := by
          intro c r e N' H hq wN' hH
          refine hret _ _ ?_
          refine Or.inl ⟨q, x, m, c, e, N', by omega, x2, m2, rfl, rfl, rfl, ?_, wN', hH⟩
          rw [hC]
          exact hq
        have stop : ∀ c i φ X H, φ ≠ 0 → la_ok X → q_rd2 (t q) (l q) (z q) x C N f m c (nI c) (some (nI φ)) X → φ < 10 → i ≤ 100 → mf (pg_put h' 0 X) H → K (some 56) ([(0, vR 5 0 0), (1, vI (nI q)), (2, vI (nI x)), (3, vI f), (4, vI (nI m)), (5, vI (nI φ)), (6, vI (nI c)), (7, vI (nI i))], [], H) := by
          intro c i φ X H hφ wX hq hφ2 hi hH
          refine hK [] 60 _ _ ?_
          conv => whnf
          repeat' (first
            | (refine ⟨fun c9 => ?_, fun c9 => ?_⟩ <;> (try simp (disch := omega) only [nI_leI, nI_ltI, nI_eq, nz_eq, nz_lt, nz_gt, nz_le, nz_ge, nz_00, nz_n1, nI_add, pk_mul, pk_sub, nI_shl1, nI_or, nI_half2, nI_min2, la_put_eq, la_up, lr_same, lr_ne, lu_same, lu_ne, not_true_eq_false, not_false_eq_true] at c9) <;> first | (exfalso; omega) | conv => whnf)
            | (refine ⟨_, rfl, by omega, ?_⟩; conv => whnf)
            | (refine ⟨_, rfl, rfl, rfl, by decide, by decide, ?_⟩; conv => whnf)
            | (refine ⟨_, by (simp (disch := omega) only [nI_leI, nI_ltI, nI_eq, nz_eq, nz_lt, nz_gt, nz_le, nz_ge, nz_00, nz_n1, nI_add, pk_mul, pk_sub, nI_shl1, nI_or, nI_half2, nI_min2, la_put_eq, la_up, lr_same, lr_ne, lu_same, lu_ne, not_true_eq_false, not_false_eq_true]; rfl), by omega, ?_⟩; conv => whnf)
            | (apply And.intro; (first | assumption | decide | (simp (disch := omega) only [nI_leI, nI_ltI, nI_eq, nz_eq, nz_lt, nz_gt, nz_le, nz_ge, nz_00, nz_n1, nI_add, pk_mul, pk_sub, nI_shl1, nI_or, nI_half2, nI_min2, la_put_eq, la_up, lr_same, lr_ne, lu_same, lu_ne, not_true_eq_false, not_false_eq_true]; omega)); conv => whnf))
          all_goals (try simp (disch := omega) only [nI_leI, nI_ltI, nI_eq, nz_eq, nz_lt, nz_gt, nz_le, nz_ge, nz_00, nz_n1, nI_add, pk_mul, pk_sub, nI_shl1, nI_or, nI_half2, nI_min2, la_put_eq, la_up, lr_same, lr_ne, lu_same, lu_ne, not_true_eq_false, not_false_eq_true])
          all_goals exact done c (nI c) (some (nI φ)) X _ hq wX (mf_up hH)
        have loop : ∀ j c r X H, 4 * c + r + j = 4 * m → r ≤ 3 → (∀ i, i < c → rd_nf (t q) (l q) (z q) x f i ∧ rd_bk C N f i) → (0 < r → f = nI (ixv f) ∧ ixv f + 4 * c + r ≤ z q) → X = sp_rd C (ixv f) N c → la_ok X → mf (pg_put h' 0 X) H → pg_at H 147 N → K (some 56) ([(0, vR 5 0 0), (1, vI (nI q)), (2, vI (nI x)), (3, vI f), (4, vI (nI m)), (5, vI (nI 0)), (6, vI (nI c)), (7, vI (nI (4 * c + r)))], [], H) := by
          intro j
          induction j with
          | zero =>
            intro c r X H hcm hr hall hrf hX wX hH hN
            have hcm2 : c = m := by omega
            subst hcm2
            refine hK [] 60 _ _ ?_
            conv => whnf
            repeat' (first
              | (refine ⟨fun c9 => ?_, fun c9 => ?_⟩ <;> (try simp (disch := omega) only [nI_leI, nI_ltI, nI_eq, nz_eq, nz_lt, nz_gt, nz_le, nz_ge, nz_00, nz_n1, nI_add, pk_mul, pk_sub, nI_shl1, nI_or, nI_half2, nI_min2, la_put_eq, la_up, lr_same, lr_ne, lu_same, lu_ne, not_true_eq_false, not_false_eq_true] at c9) <;> first | (exfalso; omega) | conv => whnf)
              | (refine ⟨_, rfl, by omega, ?_⟩; conv => whnf)
              | (refine ⟨_, rfl, rfl, rfl, by decide, by decide, ?_⟩; conv => whnf)
              | (refine ⟨_, by (simp (disch := omega) only [nI_leI, nI_ltI, nI_eq, nz_eq, nz_lt, nz_gt, nz_le, nz_ge, nz_00, nz_n1, nI_add, pk_mul, pk_sub, nI_shl1, nI_or, nI_half2, nI_min2, la_put_eq, la_up, lr_same, lr_ne, lu_same, lu_ne, not_true_eq_false, not_false_eq_true]; rfl), by omega, ?_⟩; conv => whnf)
              | (apply And.intro; (first | assumption | decide | (simp (disch := omega) only [nI_leI, nI_ltI, nI_eq, nz_eq, nz_lt, nz_gt, nz_le, nz_ge, nz_00, nz_n1, nI_add, pk_mul, pk_sub, nI_shl1, nI_or, nI_half2, nI_min2, la_put_eq, la_up, lr_same, lr_ne, lu_same, lu_ne, not_true_eq_false, not_false_eq_true]; omega)); conv => whnf))
            all_goals (try simp (disch := omega) only [nI_leI, nI_ltI, nI_eq, nz_eq, nz_lt, nz_gt, nz_le, nz_ge, nz_00, nz_n1, nI_add, pk_mul, pk_sub, nI_shl1, nI_or, nI_half2, nI_min2, la_put_eq, la_up, lr_same, lr_ne, lu_same, lu_ne, not_true_eq_false, not_false_eq_true])
            exact done c (nI c) (some (nI 0)) X _ ⟨Nat.le_refl _, hall, Or.inl ⟨rfl, rfl, rfl, hX⟩⟩ wX (mf_up hH)
          | succ j ih =>
            intro c r X H hcm hr hall hrf hX wX hH hN
            have hX3 : X 0 3 ≤ 6 := wX.2.1
            have hX0 : X 0 0 = N 0 0 := by rw [hX, sp_rd_0 (by decide)]
            have hf0 : 4 * c + r = 0 ∨ (f = nI (ixv f) ∧ ixv f ≤ 40) := by
              by_cases h0 : c = 0
              · by_cases h1 : r = 0
                · exact Or.inl (by omega)
                · obtain ⟨g1, g2⟩ := hrf (by omega)
                  exact Or.inr ⟨g1, by omega⟩
              · have hf := (hall 0 (by omega)).1.2.2
                exact Or.inr ⟨hf.1, by omega⟩
            have e9 : H 5 0 9 q = (if t q = 0 then (-4) else nI (l q)) := by rw [hH _ _ _ _ (by omega), pg_ne (by omega)]; exact s0
            have e10 : H 5 0 10 q = nI (z q) := by rw [hH _ _ _ _ (by omega), pg_ne (by omega)]; exact s1
            have e11 : ∀ j, H 5 0 11 (40 * q + j) = C j := fun j => by rw [hH _ _ _ _ (by omega), pg_ne (by omega)]; exact hCj j
            have hF2 : H 5 0 0 1 = nI (X 0 0) := by rw [hX0]; exact mf_F hH (by rw [prO]; exact hF)
            by_cases ht : t q = 0
            · rw [if_pos ht] at e9
              refine hK [(56, [0, 1, 2, 3, 4, 5, 6, 7])] 80 _ _ ?_
              conv => whnf
              repeat' (first
                | (refine ⟨fun c9 => ?_, fun c9 => ?_⟩ <;> (try simp (disch := omega) only [nI_leI, nI_ltI, nI_eq, nz_eq, nz_lt, nz_gt, nz_le, nz_ge, nz_00, nz_n1, nI_add, pk_mul, pk_sub, nI_shl1, nI_or, nI_half2, nI_min2, la_put_eq, la_up, lr_same, lr_ne, lu_same, lu_ne, not_true_eq_false, not_false_eq_true, e9] at c9) <;> first | (exfalso; omega) | conv => whnf)
                | (refine ⟨_, rfl, by omega, ?_⟩; conv => whnf)
                | (refine ⟨_, rfl, rfl, rfl, by decide, by decide, ?_⟩; conv => whnf)
                | (refine ⟨_, by (simp (disch := omega) only [nI_leI, nI_ltI, nI_eq, nz_eq, nz_lt, nz_gt, nz_le, nz_ge, nz_00, nz_n1, nI_add, pk_mul, pk_sub, nI_shl1, nI_or, nI_half2, nI_min2, la_put_eq, la_up, lr_same, lr_ne, lu_same, lu_ne, not_true_eq_false, not_false_eq_true, e9]; rfl), by omega, ?_⟩; conv => whnf)
                | (apply And.intro; (first | assumption | decide | (simp (disch := omega) only [nI_leI, nI_ltI, nI_eq, nz_eq, nz_lt, nz_gt, nz_le, nz_ge, nz_00, nz_n1, nI_add, pk_mul, pk_sub, nI_shl1, nI_or, nI_half2, nI_min2, la_put_eq, la_up, lr_same, lr_ne, lu_same, lu_ne, not_true_eq_false, not_false_eq_true, e9]; omega)); conv => whnf))
              all_goals (try simp (disch := omega) only [nI_leI, nI_ltI, nI_eq, nz_eq, nz_lt, nz_gt, nz_le, nz_ge, nz_00, nz_n1, nI_add, pk_mul, pk_sub, nI_shl1, nI_or, nI_half2, nI_min2, la_put_eq, la_up, lr_same, lr_ne, lu_same, lu_ne, not_true_eq_false, not_false_eq_true, e9])
              refine stop c _ 1 X H (by decide) wX ⟨by omega, hall, Or.inr (Or.inl ⟨by omega, fun q9 => q9.1 ht, rfl, ?_, hX⟩)⟩ (by decide) (by omega) hH
              rw [rd_flt, if_pos ht]
            · rw [if_neg ht] at e9
              by_cases hl9 : l q = x
              · have irm : nI (4 * c + r) - nI (4 * c + r) / nI 4 * nI 4 = nI r := by rw [pk_rem (by omega) (by decide) (by decide), show (4 * c + r) % 4 = r by omega]
                refine hK [(56, [0, 1, 2, 3, 4, 5, 6, 7])] 100 _ _ ?_
                conv => whnf
                repeat' (first
                  | (refine ⟨fun c9 => ?_, fun c9 => ?_⟩ <;> (try simp (disch := omega) only [nI_leI, nI_ltI, nI_eq, nz_eq, nz_lt, nz_gt, nz_le, nz_ge, nz_00, nz_n1, nI_add, pk_mul, pk_sub, nI_shl1, nI_or, nI_half2, nI_min2, la_put_eq, la_up, lr_same, lr_ne, lu_same, lu_ne, not_true_eq_false, not_false_eq_true, e9, e10, nI_n4, nI_64] at c9) <;> first | (exfalso; omega) | conv => whnf)
                  | (refine ⟨_, rfl, by omega, ?_⟩; conv => whnf)
                  | (refine ⟨_, rfl, rfl, rfl, by decide, by decide, ?_⟩; conv => whnf)
                  | (refine ⟨_, by (simp (disch := omega) only [nI_leI, nI_ltI, nI_eq, nz_eq, nz_lt, nz_gt, nz_le, nz_ge, nz_00, nz_n1, nI_add, pk_mul, pk_sub, nI_shl1, nI_or, nI_half2, nI_min2, la_put_eq, la_up, lr_same, lr_ne, lu_same, lu_ne, not_true_eq_false, not_false_eq_true, e9, e10, nI_n4, nI_64]; rfl), by omega, ?_⟩; conv => whnf)
                  | (apply And.intro; (first | assumption | decide | (simp (disch := omega) only [nI_leI, nI_ltI, nI_eq, nz_eq, nz_lt, nz_gt, nz_le, nz_ge, nz_00, nz_n1, nI_add, pk_mul, pk_sub, nI_shl1, nI_or, nI_half2, nI_min2, la_put_eq, la_up, lr_same, lr_ne, lu_same, lu_ne, not_true_eq_false, not_false_eq_true, e9, e10, nI_n4, nI_64]; omega)); conv => whnf))
                all_goals (try simp (disch := omega) only [nI_leI, nI_ltI, nI_eq, nz_eq, nz_lt, nz_gt, nz_le, nz_ge, nz_00, nz_n1, nI_add, pk_mul, pk_sub, nI_shl1, nI_or, nI_half2, nI_min2, la_put_eq, la_up, lr_same, lr_ne, lu_same, lu_ne, not_true_eq_false, not_false_eq_true, e9, e10, nI_n4, nI_64])
                refine ⟨(f.toInt64 + lN (4 * c + r), lN 0, (nI (z q) - nI 1).toInt64, H), ⟨rfl, rfl⟩, fun v h'' hq => ?_⟩
                obtain ⟨rfl, ⟨⟨g1, g2⟩, rfl⟩ | ⟨hg, rfl⟩⟩ := rng (by omega) b3 hf0 hq
                · generalize hkf : ixv f = y at *
                  subst g1
                  conv => whnf
                  repeat' (first
                    | (refine ⟨fun c9 => ?_, fun c9 => ?_⟩ <;> (try simp (disch := omega) only [nI_leI, nI_ltI, nI_eq, nz_eq, nz_lt, nz_gt, nz_le, nz_ge, nz_00, nz_n1, nI_add, pk_mul, pk_sub, nI_shl1, nI_or, nI_half2, nI_min2, la_put_eq, la_up, lr_same, lr_ne, lu_same, lu_ne, not_true_eq_false, not_false_eq_true, irm] at c9) <;> first | (exfalso; omega) | conv => whnf)
                    | (refine ⟨_, rfl, by omega, ?_⟩; conv => whnf)
                    | (refine ⟨_, rfl, rfl, rfl, by decide, by decide, ?_⟩; conv => whnf)
                    | (refine ⟨_, by (simp (disch := omega) only [nI_leI, nI_ltI, nI_eq, nz_eq, nz_lt, nz_gt, nz_le, nz_ge, nz_00, nz_n1, nI_add, pk_mul, pk_sub, nI_shl1, nI_or, nI_half2, nI_min2, la_put_eq, la_up, lr_same, lr_ne, lu_same, lu_ne, not_true_eq_false, not_false_eq_true, irm]; rfl), by omega, ?_⟩; conv => whnf)
                    | (apply And.intro; (first | assumption | decide | (simp (disch := omega) only [nI_leI, nI_ltI, nI_eq, nz_eq, nz_lt, nz_gt, nz_le, nz_ge, nz_00, nz_n1, nI_add, pk_mul, pk_sub, nI_shl1, nI_or, nI_half2, nI_min2, la_put_eq, la_up, lr_same, lr_ne, lu_same, lu_ne, not_true_eq_false, not_false_eq_true, irm]; omega)); conv => whnf))
                  all_goals (try simp (disch := omega) only [nI_leI, nI_ltI, nI_eq, nz_eq, nz_lt, nz_gt, nz_le, nz_ge, nz_00, nz_n1, nI_add, pk_mul, pk_sub, nI_shl1, nI_or, nI_half2, nI_min2, la_put_eq, la_up, lr_same, lr_ne, lu_same, lu_ne, not_true_eq_false, not_false_eq_true, irm])
                  · exact ih c (r + 1) X _ (by omega) (by omega) hall (fun _ => ⟨rfl, by omega⟩) hX wX hH hN
                  · have hr3 : r = 3 := by omega
                    subst hr3
                    have c0 : h'' 5 0 11 (40 * q + y + (4 * c + 3) - 3) = C (y + 4 * c) := by rw [← e11]; congr 1; omega
                    have c1 : h'' 5 0 11 (40 * q + y + (4 * c + 3) - 2) = C (y + 4 * c + 1) := by rw [← e11]; congr 1; omega
                    have c2 : h'' 5 0 11 (40 * q + y + (4 * c + 3) - 1) = C (y + 4 * c + 2) := by rw [← e11]; congr 1; omega
                    have c3 : h'' 5 0 11 (40 * q + y + (4 * c + 3)) = C (y + 4 * c + 3) := by rw [← e11]; congr 1; omega
                    conv => whnf
                    repeat' (first
                      | (refine ⟨fun c9 => ?_, fun c9 => ?_⟩ <;> (try simp (disch := omega) only [nI_leI, nI_ltI, nI_eq, nz_eq, nz_lt, nz_gt, nz_le, nz_ge, nz_00, nz_n1, nI_add, pk_mul, pk_sub, nI_shl1, nI_or, nI_half2, nI_min2, la_put_eq, la_up, lr_same, lr_ne, lu_same, lu_ne, not_true_eq_false, not_false_eq_true, c0, c1, c2, c3] at c9) <;> first | (exfalso; omega) | conv => whnf)
                      | (refine ⟨_, rfl, by omega, ?_⟩; conv => whnf)
                      | (refine ⟨_, rfl, rfl, rfl, by decide, by decide, ?_⟩; conv => whnf)
                      | (refine ⟨_, by (simp (disch := omega) only [nI_leI, nI_ltI, nI_eq, nz_eq, nz_lt, nz_gt, nz_le, nz_ge, nz_00, nz_n1, nI_add, pk_mul, pk_sub, nI_shl1, nI_or, nI_half2, nI_min2, la_put_eq, la_up, lr_same, lr_ne, lu_same, lu_ne, not_true_eq_false, not_false_eq_true, c0, c1, c2, c3]; rfl), by omega, ?_⟩; conv => whnf)
                      | (apply And.intro; (first | assumption | decide | (simp (disch := omega) only [nI_leI, nI_ltI, nI_eq, nz_eq, nz_lt, nz_gt, nz_le, nz_ge, nz_00, nz_n1, nI_add, pk_mul, pk_sub, nI_shl1, nI_or, nI_half2, nI_min2, la_put_eq, la_up, lr_same, lr_ne, lu_same, lu_ne, not_true_eq_false, not_false_eq_true, c0, c1, c2, c3]; omega)); conv => whnf))
                    all_goals (try simp (disch := omega) only [nI_leI, nI_ltI, nI_eq, nz_eq, nz_lt, nz_gt, nz_le, nz_ge, nz_00, nz_n1, nI_add, pk_mul, pk_sub, nI_shl1, nI_or, nI_half2, nI_min2, la_put_eq, la_up, lr_same, lr_ne, lu_same, lu_ne, not_true_eq_false, not_false_eq_true, c0, c1, c2, c3])
                    refine ⟨(C (y + 4 * c), C (y + 4 * c + 1), C (y + 4 * c + 2), C (y + 4 * c + 3), X, _), ⟨rfl, rfl, ⟨mf_P hH (pg_put_at _ _ _), wX, hF2⟩⟩, fun v H2 hq9 => ?_⟩
                    obtain ⟨N'', hbk, rfl⟩ := hq9
                    have hm2 : ∀ Z, mf (pg_put h' 0 Z) (pg_put h'' 0 Z) := fun Z => by
                      have := mf_pg0 (Z := Z) hH
                      rw [pg_put2] at this
                      exact this
                    have hN2 : ∀ Z, pg_at (pg_put h'' 0 Z) 147 N := fun Z k hk => by rw [pg_ne (by omega)]; exact hN k hk
                    have hnf : rd_nf (t q) (l q) (z q) x (nI y) c := ⟨ht, hl9, by rw [hkf], by rw [hkf]; omega⟩
                    have hrb : rd_bk C N (nI y) c ↔ bkok X (C (y + 4 * c)) (C (y + 4 * c + 1)) (C (y + 4 * c + 2)) (C (y + 4 * c + 3)) := by
                      rw [rd_bk, hkf, ← hX]
                    have bad : ¬ rd_bk C N (nI y) c → K none ([], [vI ((-20) - nI c)], pg_put h'' 0 N) := by
                      intro hnb
                      exact done c _ none N _ ⟨by omega, hall, Or.inr (Or.inr ⟨by omega, hnf, hnb, rfl, rfl, rfl⟩)⟩ wN (hm2 N)
                    rcases hbk with ⟨a, b, cc, d, ha, hb, hc9, hd, e1, e2, e3, e4, hor⟩ | ⟨hno, rfl, rfl⟩
                    · rcases hor with ⟨hlt, rfl, rfl⟩ | ⟨hge, rfl, rfl⟩
                      · conv => whnf
                        repeat' (first
                          | (refine ⟨fun c9 => ?_, fun c9 => ?_⟩ <;> (try simp (disch := omega) only [nI_leI, nI_ltI, nI_eq, nz_eq, nz_lt, nz_gt, nz_le, nz_ge, nz_00, nz_n1, nI_add, pk_mul, pk_sub, nI_shl1, nI_or, nI_half2, nI_min2, la_put_eq, la_up, lr_same, lr_ne, lu_same, lu_ne, not_true_eq_false, not_false_eq_true] at c9) <;> first | (exfalso; omega) | conv => whnf)
                          | (refine ⟨_, rfl, by omega, ?_⟩; conv => whnf)
                          | (refine ⟨_, rfl, rfl, rfl, by decide, by decide, ?_⟩; conv => whnf)
                          | (refine ⟨_, by (simp (disch := omega) only [nI_leI, nI_ltI, nI_eq, nz_eq, nz_lt, nz_gt, nz_le, nz_ge, nz_00, nz_n1, nI_add, pk_mul, pk_sub, nI_shl1, nI_or, nI_half2, nI_min2, la_put_eq, la_up, lr_same, lr_ne, lu_same, lu_ne, not_true_eq_false, not_false_eq_true]; rfl), by omega, ?_⟩; conv => whnf)
                          | (apply And.intro; (first | assumption | decide | (simp (disch := omega) only [nI_leI, nI_ltI, nI_eq, nz_eq, nz_lt, nz_gt, nz_le, nz_ge, nz_00, nz_n1, nI_add, pk_mul, pk_sub, nI_shl1, nI_or, nI_half2, nI_min2, la_put_eq, la_up, lr_same, lr_ne, lu_same, lu_ne, not_true_eq_false, not_false_eq_true]; omega)); conv => whnf))
                        all_goals (try simp (disch := omega) only [nI_leI, nI_ltI, nI_eq, nz_eq, nz_lt, nz_gt, nz_le, nz_ge, nz_00, nz_n1, nI_add, pk_mul, pk_sub, nI_shl1, nI_or, nI_half2, nI_min2, la_put_eq, la_up, lr_same, lr_ne, lu_same, lu_ne, not_true_eq_false, not_false_eq_true])
                        have := ih (c + 1) 0 (sp_addB X a b cc d) (pg_put h'' 0 (sp_addB X a b cc d)) (by omega) (by omega) (fun i hi => ?_) (fun h9 => absurd h9 (by omega)) ?_ (la_ok_addB wX ha hb hc9 (by omega) hlt) (hm2 _) (hN2 _)
                        · rw [show 4 * (c + 1) + 0 = 4 * c + 3 + 1 by omega] at this
                          exact this
                        · rcases Nat.lt_or_ge i c with q9 | q9
                          · exact hall i q9
                          · have : i = c := by omega
                            subst this
                            exact ⟨hnf, hrb.mpr ⟨⟨a, by omega, ha, e1⟩, ⟨b, by omega, hb, e2⟩, ⟨cc, by omega, hc9, e3⟩, ⟨d, hd, e4⟩, hlt⟩⟩
                        · rw [sp_rd, ← hX, e1, e2, e3, e4, ixv_nI (by omega), ixv_nI (by omega), ixv_nI (by omega), ixv_nI (by omega)]
                      · have n3 : ¬ (0 : Int32) ≤ -3 := by decide +kernel
                        refine And.intro (fun q9 => absurd q9 n3) (fun _ => ?_)
                        conv => whnf
                        repeat' (first
                          | (refine ⟨fun c9 => ?_, fun c9 => ?_⟩ <;> (try simp (disch := omega) only [nI_leI, nI_ltI, nI_eq, nz_eq, nz_lt, nz_gt, nz_le, nz_ge, nz_00, nz_n1, nI_add, pk_mul, pk_sub, nI_shl1, nI_or, nI_half2, nI_min2, la_put_eq, la_up, lr_same, lr_ne, lu_same, lu_ne, not_true_eq_false, not_false_eq_true] at c9) <;> first | (exfalso; omega) | conv => whnf)
                          | (refine ⟨_, rfl, by omega, ?_⟩; conv => whnf)
                          | (refine ⟨_, rfl, rfl, rfl, by decide, by decide, ?_⟩; conv => whnf)
                          | (refine ⟨_, by (simp (disch := omega) only [nI_leI, nI_ltI, nI_eq, nz_eq, nz_lt, nz_gt, nz_le, nz_ge, nz_00, nz_n1, nI_add, pk_mul, pk_sub, nI_shl1, nI_or, nI_half2, nI_min2, la_put_eq, la_up, lr_same, lr_ne, lu_same, lu_ne, not_true_eq_false, not_false_eq_true]; rfl), by omega, ?_⟩; conv => whnf)
                          | (apply And.intro; (first | assumption | decide | (simp (disch := omega) only [nI_leI, nI_ltI, nI_eq, nz_eq, nz_lt, nz_gt, nz_le, nz_ge, nz_00, nz_n1, nI_add, pk_mul, pk_sub, nI_shl1, nI_or, nI_half2, nI_min2, la_put_eq, la_up, lr_same, lr_ne, lu_same, lu_ne, not_true_eq_false, not_false_eq_true]; omega)); conv => whnf))
                        all_goals (try simp (disch := omega) only [nI_leI, nI_ltI, nI_eq, nz_eq, nz_lt, nz_gt, nz_le, nz_ge, nz_00, nz_n1, nI_add, pk_mul, pk_sub, nI_shl1, nI_or, nI_half2, nI_min2, la_put_eq, la_up, lr_same, lr_ne, lu_same, lu_ne, not_true_eq_false, not_false_eq_true])
                        refine ⟨(147, 0, N, _), ⟨rfl, rfl, hN2 _, by decide, by decide, by omega⟩, fun h3 hq => ?_⟩
                        have hq' : h3 = _ := hq
                        subst hq'
                        conv => whnf
                        repeat' (first
                          | (refine ⟨fun c9 => ?_, fun c9 => ?_⟩ <;> (try simp (disch := omega) only [nI_leI, nI_ltI, nI_eq, nz_eq, nz_lt, nz_gt, nz_le, nz_ge, nz_00, nz_n1, nI_add, pk_mul, pk_sub, nI_shl1, nI_or, nI_half2, nI_min2, la_put_eq, la_up, lr_same, lr_ne, lu_same, lu_ne, not_true_eq_false, not_false_eq_true, pg_put2] at c9) <;> first | (exfalso; omega) | conv => whnf)
                          | (refine ⟨_, rfl, by omega, ?_⟩; conv => whnf)
                          | (refine ⟨_, rfl, rfl, rfl, by decide, by decide, ?_⟩; conv => whnf)
                          | (refine ⟨_, by (simp (disch := omega) only [nI_leI, nI_ltI, nI_eq, nz_eq, nz_lt, nz_gt, nz_le, nz_ge, nz_00, nz_n1, nI_add, pk_mul, pk_sub, nI_shl1, nI_or, nI_half2, nI_min2, la_put_eq, la_up, lr_same, lr_ne, lu_same, lu_ne, not_true_eq_false, not_false_eq_true, pg_put2]; rfl), by omega, ?_⟩; conv => whnf)
                          | (apply And.intro; (first | assumption | decide | (simp (disch := omega) only [nI_leI, nI_ltI, nI_eq, nz_eq, nz_lt, nz_gt, nz_le, nz_ge, nz_00, nz_n1, nI_add, pk_mul, pk_sub, nI_shl1, nI_or, nI_half2, nI_min2, la_put_eq, la_up, lr_same, lr_ne, lu_same, lu_ne, not_true_eq_false, not_false_eq_true, pg_put2]; omega)); conv => whnf))
                        all_goals (try simp (disch := omega) only [nI_leI, nI_ltI, nI_eq, nz_eq, nz_lt, nz_gt, nz_le, nz_ge, nz_00, nz_n1, nI_add, pk_mul, pk_sub, nI_shl1, nI_or, nI_half2, nI_min2, la_put_eq, la_up, lr_same, lr_ne, lu_same, lu_ne, not_true_eq_false, not_false_eq_true, pg_put2])
                        exact bad (fun q9 => by have := (hrb.mp q9).2.2.2.2; omega)
                    · have n1 : ¬ (0 : Int32) ≤ -1 := by decide +kernel
                      refine And.intro (fun q9 => absurd q9 n1) (fun _ => ?_)
                      conv => whnf
                      repeat' (first
                        | (refine ⟨fun c9 => ?_, fun c9 => ?_⟩ <;> (try simp (disch := omega) only [nI_leI, nI_ltI, nI_eq, nz_eq, nz_lt, nz_gt, nz_le, nz_ge, nz_00, nz_n1, nI_add, pk_mul, pk_sub, nI_shl1, nI_or, nI_half2, nI_min2, la_put_eq, la_up, lr_same, lr_ne, lu_same, lu_ne, not_true_eq_false, not_false_eq_true] at c9) <;> first | (exfalso; omega) | conv => whnf)
                        | (refine ⟨_, rfl, by omega, ?_⟩; conv => whnf)
                        | (refine ⟨_, rfl, rfl, rfl, by decide, by decide, ?_⟩; conv => whnf)
                        | (refine ⟨_, by (simp (disch := omega) only [nI_leI, nI_ltI, nI_eq, nz_eq, nz_lt, nz_gt, nz_le, nz_ge, nz_00, nz_n1, nI_add, pk_mul, pk_sub, nI_shl1, nI_or, nI_half2, nI_min2, la_put_eq, la_up, lr_same, lr_ne, lu_same, lu_ne, not_true_eq_false, not_false_eq_true]; rfl), by omega, ?_⟩; conv => whnf)
                        | (apply And.intro; (first | assumption | decide | (simp (disch := omega) only [nI_leI, nI_ltI, nI_eq, nz_eq, nz_lt, nz_gt, nz_le, nz_ge, nz_00, nz_n1, nI_add, pk_mul, pk_sub, nI_shl1, nI_or, nI_half2, nI_min2, la_put_eq, la_up, lr_same, lr_ne, lu_same, lu_ne, not_true_eq_false, not_false_eq_true]; omega)); conv => whnf))
                      all_goals (try simp (disch := omega) only [nI_leI, nI_ltI, nI_eq, nz_eq, nz_lt, nz_gt, nz_le, nz_ge, nz_00, nz_n1, nI_add, pk_mul, pk_sub, nI_shl1, nI_or, nI_half2, nI_min2, la_put_eq, la_up, lr_same, lr_ne, lu_same, lu_ne, not_true_eq_false, not_false_eq_true])
                      refine ⟨(147, 0, N, _), ⟨rfl, rfl, hN2 _, by decide, by decide, by omega⟩, fun h3 hq => ?_⟩
                      have hq' : h3 = _ := hq
                      subst hq'
                      conv => whnf
                      repeat' (first
                        | (refine ⟨fun c9 => ?_, fun c9 => ?_⟩ <;> (try simp (disch := omega) only [nI_leI, nI_ltI, nI_eq, nz_eq, nz_lt, nz_gt, nz_le, nz_ge, nz_00, nz_n1, nI_add, pk_mul, pk_sub, nI_shl1, nI_or, nI_half2, nI_min2, la_put_eq, la_up, lr_same, lr_ne, lu_same, lu_ne, not_true_eq_false, not_false_eq_true, pg_put2] at c9) <;> first | (exfalso; omega) | conv => whnf)
                        | (refine ⟨_, rfl, by omega, ?_⟩; conv => whnf)
                        | (refine ⟨_, rfl, rfl, rfl, by decide, by decide, ?_⟩; conv => whnf)
                        | (refine ⟨_, by (simp (disch := omega) only [nI_leI, nI_ltI, nI_eq, nz_eq, nz_lt, nz_gt, nz_le, nz_ge, nz_00, nz_n1, nI_add, pk_mul, pk_sub, nI_shl1, nI_or, nI_half2, nI_min2, la_put_eq, la_up, lr_same, lr_ne, lu_same, lu_ne, not_true_eq_false, not_false_eq_true, pg_put2]; rfl), by omega, ?_⟩; conv => whnf)
                        | (apply And.intro; (first | assumption | decide | (simp (disch := omega) only [nI_leI, nI_ltI, nI_eq, nz_eq, nz_lt, nz_gt, nz_le, nz_ge, nz_00, nz_n1, nI_add, pk_mul, pk_sub, nI_shl1, nI_or, nI_half2, nI_min2, la_put_eq, la_up, lr_same, lr_ne, lu_same, lu_ne, not_true_eq_false, not_false_eq_true, pg_put2]; omega)); conv => whnf))
                      all_goals (try simp (disch := omega) only [nI_leI, nI_ltI, nI_eq, nz_eq, nz_lt, nz_gt, nz_le, nz_ge, nz_00, nz_n1, nI_add, pk_mul, pk_sub, nI_shl1, nI_or, nI_half2, nI_min2, la_put_eq, la_up, lr_same, lr_ne, lu_same, lu_ne, not_true_eq_false, not_false_eq_true, pg_put2])
                      refine bad (fun q9 => hno ?_)
                      have := hrb.mp q9
                      exact ⟨this.1, this.2.1, this.2.2.1, this.2.2.2.1⟩
                · conv => whnf
                  repeat' (first
                    | (refine ⟨fun c9 => ?_, fun c9 => ?_⟩ <;> (try simp (disch := omega) only [nI_leI, nI_ltI, nI_eq, nz_eq, nz_lt, nz_gt, nz_le, nz_ge, nz_00, nz_n1, nI_add, pk_mul, pk_sub, nI_shl1, nI_or, nI_half2, nI_min2, la_put_eq, la_up, lr_same, lr_ne, lu_same, lu_ne, not_true_eq_false, not_false_eq_true] at c9) <;> first | (exfalso; omega) | conv => whnf)
                    | (refine ⟨_, rfl, by omega, ?_⟩; conv => whnf)
                    | (refine ⟨_, rfl, rfl, rfl, by decide, by decide, ?_⟩; conv => whnf)
                    | (refine ⟨_, by (simp (disch := omega) only [nI_leI, nI_ltI, nI_eq, nz_eq, nz_lt, nz_gt, nz_le, nz_ge, nz_00, nz_n1, nI_add, pk_mul, pk_sub, nI_shl1, nI_or, nI_half2, nI_min2, la_put_eq, la_up, lr_same, lr_ne, lu_same, lu_ne, not_true_eq_false, not_false_eq_true]; rfl), by omega, ?_⟩; conv => whnf)
                    | (apply And.intro; (first | assumption | decide | (simp (disch := omega) only [nI_leI, nI_ltI, nI_eq, nz_eq, nz_lt, nz_gt, nz_le, nz_ge, nz_00, nz_n1, nI_add, pk_mul, pk_sub, nI_shl1, nI_or, nI_half2, nI_min2, la_put_eq, la_up, lr_same, lr_ne, lu_same, lu_ne, not_true_eq_false, not_false_eq_true]; omega)); conv => whnf))
                  all_goals (try simp (disch := omega) only [nI_leI, nI_ltI, nI_eq, nz_eq, nz_lt, nz_gt, nz_le, nz_ge, nz_00, nz_n1, nI_add, pk_mul, pk_sub, nI_shl1, nI_or, nI_half2, nI_min2, la_put_eq, la_up, lr_same, lr_ne, lu_same, lu_ne, not_true_eq_false, not_false_eq_true])
                  refine stop c _ 2 X _ (by decide) wX ⟨by omega, hall, Or.inr (Or.inl ⟨by omega, fun q9 => hg ⟨q9.2.2.1, by have := q9.2.2.2; omega⟩, rfl, ?_, hX⟩)⟩ (by decide) (by omega) hH
                  rw [rd_flt, if_neg ht, if_pos hl9]
              · refine hK [(56, [0, 1, 2, 3, 4, 5, 6, 7])] 100 _ _ ?_
                conv => whnf
                repeat' (first
                  | (refine ⟨fun c9 => ?_, fun c9 => ?_⟩ <;> (try simp (disch := omega) only [nI_leI, nI_ltI, nI_eq, nz_eq, nz_lt, nz_gt, nz_le, nz_ge, nz_00, nz_n1, nI_add, pk_mul, pk_sub, nI_shl1, nI_or, nI_half2, nI_min2, la_put_eq, la_up, lr_same, lr_ne, lu_same, lu_ne, not_true_eq_false, not_false_eq_true, e9, e10, nI_n4] at c9) <;> first | (exfalso; omega) | conv => whnf)
                  | (refine ⟨_, rfl, by omega, ?_⟩; conv => whnf)
                  | (refine ⟨_, rfl, rfl, rfl, by decide, by decide, ?_⟩; conv => whnf)
                  | (refine ⟨_, by (simp (disch := omega) only [nI_leI, nI_ltI, nI_eq, nz_eq, nz_lt, nz_gt, nz_le, nz_ge, nz_00, nz_n1, nI_add, pk_mul, pk_sub, nI_shl1, nI_or, nI_half2, nI_min2, la_put_eq, la_up, lr_same, lr_ne, lu_same, lu_ne, not_true_eq_false, not_false_eq_true, e9, e10, nI_n4]; rfl), by omega, ?_⟩; conv => whnf)
                  | (apply And.intro; (first | assumption | decide | (simp (disch := omega) only [nI_leI, nI_ltI, nI_eq, nz_eq, nz_lt, nz_gt, nz_le, nz_ge, nz_00, nz_n1, nI_add, pk_mul, pk_sub, nI_shl1, nI_or, nI_half2, nI_min2, la_put_eq, la_up, lr_same, lr_ne, lu_same, lu_ne, not_true_eq_false, not_false_eq_true, e9, e10, nI_n4]; omega)); conv => whnf))
                all_goals (try simp (disch := omega) only [nI_leI, nI_ltI, nI_eq, nz_eq, nz_lt, nz_gt, nz_le, nz_ge, nz_00, nz_n1, nI_add, pk_mul, pk_sub, nI_shl1, nI_or, nI_half2, nI_min2, la_put_eq, la_up, lr_same, lr_ne, lu_same, lu_ne, not_true_eq_false, not_false_eq_true, e9, e10, nI_n4])
                refine stop c _ 3 X H (by decide) wX ⟨by omega, hall, Or.inr (Or.inl ⟨by omega, fun q9 => hl9 q9.2.1, rfl, ?_, hX⟩)⟩ (by decide) (by omega) hH
                rw [rd_flt, if_neg ht, if_neg hl9]
        conv => whnf
        repeat' (first
          | (refine ⟨fun c9 => ?_, fun c9 => ?_⟩ <;> (try simp (disch := omega) only [nI_leI, nI_ltI, nI_eq, nz_eq, nz_lt, nz_gt, nz_le, nz_ge, nz_00, nz_n1, nI_add, pk_mul, pk_sub, nI_shl1, nI_or, nI_half2, nI_min2, la_put_eq, la_up, lr_same, lr_ne, lu_same, lu_ne, not_true_eq_false, not_false_eq_true] at c9) <;> first | (exfalso; omega) | conv => whnf)
          | (refine ⟨_, rfl, by omega, ?_⟩; conv => whnf)
          | (refine ⟨_, rfl, rfl, rfl, by decide, by decide, ?_⟩; conv => whnf)
          | (refine ⟨_, by (simp (disch := omega) only [nI_leI, nI_ltI, nI_eq, nz_eq, nz_lt, nz_gt, nz_le, nz_ge, nz_00, nz_n1, nI_add, pk_mul, pk_sub, nI_shl1, nI_or, nI_half2, nI_min2, la_put_eq, la_up, lr_same, lr_ne, lu_same, lu_ne, not_true_eq_false, not_false_eq_true]; rfl), by omega, ?_⟩; conv => whnf)
          | (apply And.intro; (first | assumption | decide | (simp (disch := omega) only [nI_leI, nI_ltI, nI_eq, nz_eq, nz_lt, nz_gt, nz_le, nz_ge, nz_00, nz_n1, nI_add, pk_mul, pk_sub, nI_shl1, nI_or, nI_half2, nI_min2, la_put_eq, la_up, lr_same, lr_ne, lu_same, lu_ne, not_true_eq_false, not_false_eq_true]; omega)); conv => whnf))
        all_goals (try simp (disch := omega) only [nI_leI, nI_ltI, nI_eq, nz_eq, nz_lt, nz_gt, nz_le, nz_ge, nz_00, nz_n1, nI_add, pk_mul, pk_sub, nI_shl1, nI_or, nI_half2, nI_min2, la_put_eq, la_up, lr_same, lr_ne, lu_same, lu_ne, not_true_eq_false, not_false_eq_true])
        refine ⟨(0, 147, N, _), ⟨rfl, rfl, hP, by decide, by decide, by omega⟩, fun h3 hq => ?_⟩
        have hq' : h3 = _ := hq
        subst hq'
        conv => whnf
        repeat' (first
          | (refine ⟨fun c9 => ?_, fun c9 => ?_⟩ <;> (try simp (disch := omega) only [nI_leI, nI_ltI, nI_eq, nz_eq, nz_lt, nz_gt, nz_le, nz_ge, nz_00, nz_n1, nI_add, pk_mul, pk_sub, nI_shl1, nI_or, nI_half2, nI_min2, la_put_eq, la_up, lr_same, lr_ne, lu_same, lu_ne, not_true_eq_false, not_false_eq_true] at c9) <;> first | (exfalso; omega) | conv => whnf)
          | (refine ⟨_, rfl, by omega, ?_⟩; conv => whnf)
          | (refine ⟨_, rfl, rfl, rfl, by decide, by decide, ?_⟩; conv => whnf)
          | (refine ⟨_, by (simp (disch := omega) only [nI_leI, nI_ltI, nI_eq, nz_eq, nz_lt, nz_gt, nz_le, nz_ge, nz_00, nz_n1, nI_add, pk_mul, pk_sub, nI_shl1, nI_or, nI_half2, nI_min2, la_put_eq, la_up, lr_same, lr_ne, lu_same, lu_ne, not_true_eq_false, not_false_eq_true]; rfl), by omega, ?_⟩; conv => whnf)
          | (apply And.intro; (first | assumption | decide | (simp (disch := omega) only [nI_leI, nI_ltI, nI_eq, nz_eq, nz_lt, nz_gt, nz_le, nz_ge, nz_00, nz_n1, nI_add, pk_mul, pk_sub, nI_shl1, nI_or, nI_half2, nI_min2, la_put_eq, la_up, lr_same, lr_ne, lu_same, lu_ne, not_true_eq_false, not_false_eq_true]; omega)); conv => whnf))
        all_goals (try simp (disch := omega) only [nI_leI, nI_ltI, nI_eq, nz_eq, nz_lt, nz_gt, nz_le, nz_ge, nz_00, nz_n1, nI_add, pk_mul, pk_sub, nI_shl1, nI_or, nI_half2, nI_min2, la_put_eq, la_up, lr_same, lr_ne, lu_same, lu_ne, not_true_eq_false, not_false_eq_true])
        refine loop (4 * m) 0 0 N _ (by omega) (by omega) (fun i hi => absurd hi (by omega)) (fun h9 => absurd h9 (by omega)) rfl wN ?_ (pg_put_at _ _ _)
        rw [pg_self hP]
        exact mf_pg (mf_self _) (by decide)
      · conv => whnf
        repeat' (first
          | (refine ⟨fun c9 => ?_, fun c9 => ?_⟩ <;> (try simp (disch := omega) only [nI_leI, nI_ltI, nI_eq, nz_eq, nz_lt, nz_gt, nz_le, nz_ge, nz_00, nz_n1, nI_add, pk_mul, pk_sub, nI_shl1, nI_or, nI_half2, nI_min2, la_put_eq, la_up, lr_same, lr_ne, lu_same, lu_ne, not_true_eq_false, not_false_eq_true] at c9) <;> first | (exfalso; omega) | conv => whnf)
          | (refine ⟨_, rfl, by omega, ?_⟩; conv => whnf)
          | (refine ⟨_, rfl, rfl, rfl, by decide, by decide, ?_⟩; conv => whnf)
          | (refine ⟨_, by (simp (disch := omega) only [nI_leI, nI_ltI, nI_eq, nz_eq, nz_lt, nz_gt, nz_le, nz_ge, nz_00, nz_n1, nI_add, pk_mul, pk_sub, nI_shl1, nI_or, nI_half2, nI_min2, la_put_eq, la_up, lr_same, lr_ne, lu_same, lu_ne, not_true_eq_false, not_false_eq_true]; rfl), by omega, ?_⟩; conv => whnf)
          | (apply And.intro; (first | assumption | decide | (simp (disch := omega) only [nI_leI, nI_ltI, nI_eq, nz_eq, nz_lt, nz_gt, nz_le, nz_ge, nz_00, nz_n1, nI_add, pk_mul, pk_sub, nI_shl1, nI_or, nI_half2, nI_min2, la_put_eq, la_up, lr_same, lr_ne, lu_same, lu_ne, not_true_eq_false, not_false_eq_true]; omega)); conv => whnf))
        all_goals (try simp (disch := omega) only [nI_leI, nI_ltI, nI_eq, nz_eq, nz_lt, nz_gt, nz_le, nz_ge, nz_00, nz_n1, nI_add, pk_mul, pk_sub, nI_shl1, nI_or, nI_half2, nI_min2, la_put_eq, la_up, lr_same, lr_ne, lu_same, lu_ne, not_true_eq_false, not_false_eq_true])
        refine hret _ _ ?_
        exact Or.inr ⟨fun q9 => hc q9.2.2, rfl, rfl⟩
    · conv => whnf
      repeat' (first
        | (refine ⟨fun c9 => ?_, fun c9 => ?_⟩ <;> (try simp (disch := omega) only [nI_leI, nI_ltI, nI_eq, nz_eq, nz_lt, nz_gt, nz_le, nz_ge, nz_00, nz_n1, nI_add, pk_mul, pk_sub, nI_shl1, nI_or, nI_half2, nI_min2, la_put_eq, la_up, lr_same, lr_ne, lu_same, lu_ne, not_true_eq_false, not_false_eq_true] at c9) <;> first | (exfalso; omega) | conv => whnf)
        | (refine ⟨_, rfl, by omega, ?_⟩; conv => whnf)
        | (refine ⟨_, rfl, rfl, rfl, by decide, by decide, ?_⟩; conv => whnf)
        | (refine ⟨_, by (simp (disch := omega) only [nI_leI, nI_ltI, nI_eq, nz_eq, nz_lt, nz_gt, nz_le, nz_ge, nz_00, nz_n1, nI_add, pk_mul, pk_sub, nI_shl1, nI_or, nI_half2, nI_min2, la_put_eq, la_up, lr_same, lr_ne, lu_same, lu_ne, not_true_eq_false, not_false_eq_true]; rfl), by omega, ?_⟩; conv => whnf)
        | (apply And.intro; (first | assumption | decide | (simp (disch := omega) only [nI_leI, nI_ltI, nI_eq, nz_eq, nz_lt, nz_gt, nz_le, nz_ge, nz_00, nz_n1, nI_add, pk_mul, pk_sub, nI_shl1, nI_or, nI_half2, nI_min2, la_put_eq, la_up, lr_same, lr_ne, lu_same, lu_ne, not_true_eq_false, not_false_eq_true]; omega)); conv => whnf))
      all_goals (try simp (disch := omega) only [nI_leI, nI_ltI, nI_eq, nz_eq, nz_lt, nz_gt, nz_le, nz_ge, nz_00, nz_n1, nI_add, pk_mul, pk_sub, nI_shl1, nI_or, nI_half2, nI_min2, la_put_eq, la_up, lr_same, lr_ne, lu_same, lu_ne, not_true_eq_false, not_false_eq_true])
      refine hret _ _ ?_
      exact Or.inr ⟨fun q9 => hc q9.2.1, rfl, rfl⟩
  · conv => whnf
    repeat' (first
      | (refine ⟨fun c9 => ?_, fun c9 => ?_⟩ <;> (try simp (disch := omega) only [nI_leI, nI_ltI, nI_eq, nz_eq, nz_lt, nz_gt, nz_le, nz_ge, nz_00, nz_n1, nI_add, pk_mul, pk_sub, nI_shl1, nI_or, nI_half2, nI_min2, la_put_eq, la_up, lr_same, lr_ne, lu_same, lu_ne, not_true_eq_false, not_false_eq_true] at c9) <;> first | (exfalso; omega) | conv => whnf)
      | (refine ⟨_, rfl, by omega, ?_⟩; conv => whnf)
      | (refine ⟨_, rfl, rfl, rfl, by decide, by decide, ?_⟩; conv => whnf)
      | (refine ⟨_, by (simp (disch := omega) only [nI_leI, nI_ltI, nI_eq, nz_eq, nz_lt, nz_gt, nz_le, nz_ge, nz_00, nz_n1, nI_add, pk_mul, pk_sub, nI_shl1, nI_or, nI_half2, nI_min2, la_put_eq, la_up, lr_same, lr_ne, lu_same, lu_ne, not_true_eq_false, not_false_eq_true]; rfl), by omega, ?_⟩; conv => whnf)
      | (apply And.intro; (first | assumption | decide | (simp (disch := omega) only [nI_leI, nI_ltI, nI_eq, nz_eq, nz_lt, nz_gt, nz_le, nz_ge, nz_00, nz_n1, nI_add, pk_mul, pk_sub, nI_shl1, nI_or, nI_half2, nI_min2, la_put_eq, la_up, lr_same, lr_ne, lu_same, lu_ne, not_true_eq_false, not_false_eq_true]; omega)); conv => whnf))
    all_goals (try simp (disch := omega) only [nI_leI, nI_ltI, nI_eq, nz_eq, nz_lt, nz_gt, nz_le, nz_ge, nz_00, nz_n1, nI_add, pk_mul, pk_sub, nI_shl1, nI_or, nI_half2, nI_min2, la_put_eq, la_up, lr_same, lr_ne, lu_same, lu_ne, not_true_eq_false, not_false_eq_true])
    refine hret _ _ ?_
    exact Or.inr ⟨fun q9 => hc q9.1, rfl, rfl⟩
theorem M_X5_read : pm_MT yX5_read cX5_read 9 1 5 P_X5_read (pm_pi Q_X5_read) := pm_met k_X5_read (by decide) rfl (by
  rintro ⟨g0, g1, g2, g3, g4, g5, g6, g7, g8⟩ av h hp
  rw [hp.1]
  exact Nat.le_of_ble_eq_true rfl) pf_X5_read
theorem rc_X5_read : ∀ g av h, P_X5_read g av h → ∃ i t, av = .inr (.inr (5, i, 0)) :: t := by
  rintro ⟨g0, g1, g2, g3, g4, g5, g6, g7, g8⟩ av h hp
  exact ⟨_, _, hp.1⟩
