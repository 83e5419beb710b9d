/-! THE MODEL: a page of its state is a larder's numbers. -/
def pe (Y : LD) (k : Nat) : Int32 := if k < 4 then nI (Y 1 k) else if k < 8 then nI (Y 2 (k - 4)) else if k < 14 then nI (Y 3 (k - 8)) else if k < 20 then nI (Y 4 (k - 14)) else if k < 26 then nI (Y 5 (k - 20)) else if k < 32 then nI (Y 6 (k - 26)) else if k = 32 then nI (Y 0 3) else if k = 33 then nI (Y 0 8) - nI 2 else if k = 34 then nI (Y 0 9) - nI 5 else if k = 35 then nI (Y 0 10) else if k < 42 then nI (Y 7 (k - 36)) else if k < 48 then nI (Y 8 (k - 42)) else nI (Y 0 11)
def pg_at (h : pm_H) (pg : Nat) (Y : LD) : Prop := ∀ k, k < 49 → h 5 0 1 (pg + k) = pe Y k
def pg_put (h : pm_H) (pg : Nat) (Y : LD) : pm_H := fun c i s j => if c = 5 ∧ i = 0 ∧ s = 1 ∧ pg ≤ j ∧ j < pg + 49 then pe Y (j - pg) else h c i s j
theorem pg_in {h : pm_H} {pg : Nat} {Y : LD} {k : Nat} (hk : k < 49) : pg_put h pg Y 5 0 1 (pg + k) = pe Y k := by
  unfold pg_put
  rw [if_pos ⟨rfl, rfl, rfl, by omega, by omega⟩, show pg + k - pg = k by omega]
theorem pg_ne {h : pm_H} {pg : Nat} {Y : LD} {c i s j : Nat} (hn : ¬ (c = 5 ∧ i = 0 ∧ s = 1 ∧ pg ≤ j ∧ j < pg + 49)) : pg_put h pg Y c i s j = h c i s j := if_neg hn
theorem pg_put_at (h : pm_H) (pg : Nat) (Y : LD) : pg_at (pg_put h pg Y) pg Y := fun _ hk => pg_in hk
theorem pg_self {h : pm_H} {pg : Nat} {Y : LD} (hP : pg_at h pg Y) : pg_put h pg Y = h := by
  funext c i s j
  by_cases hn : c = 5 ∧ i = 0 ∧ s = 1 ∧ pg ≤ j ∧ j < pg + 49
  · obtain ⟨rfl, rfl, rfl, h1, h2⟩ := hn
    obtain ⟨k, rfl⟩ : ∃ k, j = pg + k := ⟨j - pg, by omega⟩
    rw [pg_in (by omega), hP k (by omega)]
  · rw [pg_ne hn]
theorem pg_put2 (h : pm_H) (pg : Nat) (Y Z : LD) : pg_put (pg_put h pg Y) pg Z = pg_put h pg Z := by
  funext c i s j
  by_cases hn : c = 5 ∧ i = 0 ∧ s = 1 ∧ pg ≤ j ∧ j < pg + 49
  · obtain ⟨rfl, rfl, rfl, h1, h2⟩ := hn
    obtain ⟨k, rfl⟩ : ∃ k, j = pg + k := ⟨j - pg, by omega⟩
    rw [pg_in (by omega), pg_in (by omega)]
  · rw [pg_ne hn, pg_ne hn, pg_ne hn]
theorem pr1 {h : pm_H} {pg : Nat} {Y : LD} {f : Nat} (hf : f < 4) : pg_put h pg Y 5 0 1 (pg + f) = nI (Y 1 f) := by
  rw [pg_in (by omega), pe, if_pos hf]
theorem pr2 {h : pm_H} {pg : Nat} {Y : LD} {f : Nat} (hf : f < 4) : pg_put h pg Y 5 0 1 (pg + 4 + f) = nI (Y 2 f) := by
  rw [Nat.add_assoc, pg_in (by omega), pe, if_neg (by omega), if_pos (by omega), show 4 + f - 4 = f by omega]
theorem pr3 {h : pm_H} {pg : Nat} {Y : LD} {b : Nat} (hb : b < 6) : pg_put h pg Y 5 0 1 (pg + 8 + b) = nI (Y 3 b) := by
  rw [Nat.add_assoc, pg_in (by omega), pe, if_neg (by omega), if_neg (by omega), if_pos (by omega), show 8 + b - 8 = b by omega]
theorem pr4 {h : pm_H} {pg : Nat} {Y : LD} {b : Nat} (hb : b < 6) : pg_put h pg Y 5 0 1 (pg + 14 + b) = nI (Y 4 b) := by
  rw [Nat.add_assoc, pg_in (by omega), pe, if_neg (by omega), if_neg (by omega), if_neg (by omega), if_pos (by omega), show 14 + b - 14 = b by omega]
theorem pr5 {h : pm_H} {pg : Nat} {Y : LD} {b : Nat} (hb : b < 6) : pg_put h pg Y 5 0 1 (pg + 20 + b) = nI (Y 5 b) := by
  rw [Nat.add_assoc, pg_in (by omega), pe, if_neg (by omega), if_neg (by omega), if_neg (by omega), if_neg (by omega), if_pos (by omega), show 20 + b - 20 = b by omega]
theorem pr6 {h : pm_H} {pg : Nat} {Y : LD} {b : Nat} (hb : b < 6) : pg_put h pg Y 5 0 1 (pg + 26 + b) = nI (Y 6 b) := by
  rw [Nat.add_assoc, pg_in (by omega), pe, if_neg (by omega), if_neg (by omega), if_neg (by omega), if_neg (by omega), if_neg (by omega), if_pos (by omega), show 26 + b - 26 = b by omega]
theorem pr7 {h : pm_H} {pg : Nat} {Y : LD} {q : Nat} (hq : q < 6) : pg_put h pg Y 5 0 1 (pg + 36 + q) = nI (Y 7 q) := by
  rw [Nat.add_assoc, pg_in (by omega), pe, if_neg (by omega), if_neg (by omega), if_neg (by omega), if_neg (by omega), if_neg (by omega), if_neg (by omega), if_neg (by omega), if_neg (by omega), if_neg (by omega), if_neg (by omega), if_pos (by omega), show 36 + q - 36 = q by omega]
theorem pr8 {h : pm_H} {pg : Nat} {Y : LD} {q : Nat} (hq : q < 6) : pg_put h pg Y 5 0 1 (pg + 42 + q) = nI (Y 8 q) := by
  rw [Nat.add_assoc, pg_in (by omega), pe, if_neg (by omega), if_neg (by omega), if_neg (by omega), if_neg (by omega), if_neg (by omega), if_neg (by omega), if_neg (by omega), if_neg (by omega), if_neg (by omega), if_neg (by omega), if_neg (by omega), if_pos (by omega), show 42 + q - 42 = q by omega]
theorem prN {h : pm_H} {pg : Nat} {Y : LD} : pg_put h pg Y 5 0 1 (pg + 32) = nI (Y 0 3) := by rw [pg_in (by omega)]; rfl
theorem prD {h : pm_H} {pg : Nat} {Y : LD} : pg_put h pg Y 5 0 1 (pg + 33) = nI (Y 0 8) - nI 2 := by rw [pg_in (by omega)]; rfl
theorem prB {h : pm_H} {pg : Nat} {Y : LD} : pg_put h pg Y 5 0 1 (pg + 34) = nI (Y 0 9) - nI 5 := by rw [pg_in (by omega)]; rfl
theorem prY {h : pm_H} {pg : Nat} {Y : LD} : pg_put h pg Y 5 0 1 (pg + 35) = nI (Y 0 10) := by rw [pg_in (by omega)]; rfl
theorem prQ {h : pm_H} {pg : Nat} {Y : LD} : pg_put h pg Y 5 0 1 (pg + 48) = nI (Y 0 11) := by rw [pg_in (by omega)]; rfl
theorem prO {h : pm_H} {pg : Nat} {Y : LD} {j : Nat} : pg_put h pg Y 5 0 0 j = h 5 0 0 j := pg_ne (by omega)
theorem subadd (a : Int32) (k : Nat) : a - nI k + nI k = a := Int32.sub_add_cancel a (nI k)
/-- a number of a page changed -/
theorem pu {h : pm_H} {pg : Nat} {Y Z : LD} {k : Nat} {v : Int32} (hk : k < 49) (hv : pe Z k = v) (ho : ∀ j, j < 49 → j ≠ k → pe Z j = pe Y j) : pm_up (pg_put h pg Y) 5 0 1 (pg + k) v = pg_put h pg Z := by
  funext c i s j
  by_cases hn : c = 5 ∧ i = 0 ∧ s = 1 ∧ pg ≤ j ∧ j < pg + 49
  · obtain ⟨rfl, rfl, rfl, h1, h2⟩ := hn
    obtain ⟨m, rfl⟩ : ∃ m, j = pg + m := ⟨j - pg, by omega⟩
    rw [pg_in (by omega)]
    by_cases hm : m = k
    · subst hm; rw [pm_up_eq, hv]
    · rw [pm_up_ne (by omega), pg_in (by omega), ho m (by omega) hm]
  · rw [pg_ne hn, pm_up_ne (by omega), pg_ne hn]
theorem pu5 {h : pm_H} {pg : Nat} {Y : LD} {b v : Nat} (hb : b < 6) : pm_up (pg_put h pg Y) 5 0 1 (pg + 20 + b) (nI v) = pg_put h pg (lu Y 5 b v) := by
  rw [Nat.add_assoc]
  refine pu (by omega) ?_ (fun j hj hn => ?_)
  · rw [pe, if_neg (by omega), if_neg (by omega), if_neg (by omega), if_neg (by omega), if_pos (by omega), show 20 + b - 20 = b by omega, lu_same]
  · unfold pe
    simp only [lu_eq]
    by_cases h5 : 20 ≤ j ∧ j < 26
    · have e1 : ¬ j < 20 := by omega
      have e2 : j < 26 := h5.2
      have e3 : ¬ j - 20 = b := by omega
      have e4 : ¬ j < 14 := by omega
      have e5 : ¬ j < 8 := by omega
      have e6 : ¬ j < 4 := by omega
      simp [e1, e2, e3, e4, e5, e6]
    · rcases Nat.lt_or_ge j 20 with q | q
      · simp [q]
      · have q2 : ¬ j < 26 := by omega
        simp [q2]
theorem pu2 {h : pm_H} {pg : Nat} {Y : LD} {f v : Nat} (hf : f < 4) : pm_up (pg_put h pg Y) 5 0 1 (pg + 4 + f) (nI v) = pg_put h pg (lu Y 2 f v) := by
  rw [Nat.add_assoc]
  refine pu (by omega) ?_ (fun j hj hn => ?_)
  · rw [pe, if_neg (by omega), if_pos (by omega), show 4 + f - 4 = f by omega, lu_same]
  · unfold pe
    simp only [lu_eq]
    by_cases h5 : 4 ≤ j ∧ j < 8
    · have e1 : ¬ j < 4 := by omega
      have e2 : j < 8 := h5.2
      have e3 : ¬ j - 4 = f := by omega
      simp [e1, e2, e3]
    · rcases Nat.lt_or_ge j 4 with q | q
      · simp [q]
      · have q2 : ¬ j < 8 := by omega
        simp [q2]
theorem puY {h : pm_H} {pg : Nat} {Y : LD} {v : Nat} : pm_up (pg_put h pg Y) 5 0 1 (pg + 35) (nI v) = pg_put h pg (lu Y 0 10 v) := by
  refine pu (by omega) ?_ (fun j hj hn => ?_)
  · rw [pe]; simp [lu_eq]
  · unfold pe
    simp only [lu_eq]
    simp [hn]
/-! in -/
def P_X5_in : Int64 × Int64 × Int64 × pm_H → List pm_V → pm_H → Prop := fun g av h => match g with
  | (v, a, b, h0) => av = [vJ v, vJ a, vJ b] ∧ h = h0
def Q_X5_in : Int64 × Int64 × Int64 × pm_H → Int32 → pm_H → Prop := fun g r h => match g with
  | (v, a, b, h0) => h = h0 ∧ (((a ≤ v ∧ v ≤ b) ∧ r = nI 1) ∨ (¬ (a ≤ v ∧ v ≤ b) ∧ r = nI 0))
def T_X5_in : List (Nat × pm_T) := [
  (0, i_ll 0 1),
  (1, i_ll 2 2),
  (2, i_lcmp 3),
  (3, i_iflt 17 6),
  (6, i_ll 0 7),
  (7, i_ll 4 9),
  (9, i_lcmp 10),
  (10, i_ifgt 17 13),
  (13, i_c (nI 1) 14),
  (14, i_go 18),
  (17, i_c (nI 0) 18),
  (18, i_zr)]
theorem k_X5_in : ∀ q ∈ T_X5_in, pm_sd RX5 cX5_in 6 1 3 q.1 q.2 := by
  unfold T_X5_in
  refine pm_cn (sd_lln (k := 0) (by decide +kernel) rfl rfl) ?_
  refine pm_cn (sd_lln (k := 2) (by decide +kernel) rfl rfl) ?_
  refine pm_cn (sd_lcmp (by decide +kernel) rfl) ?_
  refine pm_cn (sd_iflt (off := 14) (by decide +kernel) (by decide) rfl) ?_
  refine pm_cn (sd_lln (k := 0) (by decide +kernel) rfl rfl) ?_
  refine pm_cn (sd_ll (by decide +kernel) rfl) ?_
  refine pm_cn (sd_lcmp (by decide +kernel) rfl) ?_
  refine pm_cn (sd_ifgt (off := 7) (by decide +kernel) (by decide) rfl) ?_
  refine pm_cn (sd_iconst (z := 1) (by decide +kernel) (by decide +kernel) rfl) ?_
  refine pm_cn (sd_go (off := 4) (by decide +kernel) (by decide)) ?_
  refine pm_cn (sd_iconst (z := 0) (by decide +kernel) (by decide +kernel) rfl) ?_
  refine pm_cn (sd_zr (by decide +kernel)) ?_
  exact fun _ h => absurd h List.not_mem_nil
set_option maxHeartbeats 800000 in
set_option maxRecDepth 100000 in
theorem pf_X5_in : pm_pf T_X5_in P_X5_in (pm_pi Q_X5_in) := by
  rintro ⟨v, a, b, h0⟩ av h K hK ⟨rfl, rfl⟩ hret
  show K (some 0) ([(0, vJ v), (2, vJ a), (4, vJ b)], [], h)
  refine hK [] 30 _ _ ?_
  conv => whnf
  rw [lg_cmp_lt]
  refine ⟨fun c1 => ?_, fun c1 => ?_⟩
  · conv => whnf
    refine ⟨Or.inl rfl, hret _ _ ⟨rfl, Or.inr ⟨fun q => ?_, rfl⟩⟩⟩
    exact absurd q.1 (Int64.not_le.mpr c1)
  · conv => whnf
    rw [lg_cmp_gt]
    refine ⟨fun c2 => ?_, fun c2 => ?_⟩
    · conv => whnf
      refine ⟨Or.inl rfl, hret _ _ ⟨rfl, Or.inr ⟨fun q => ?_, rfl⟩⟩⟩
      exact absurd q.2 (Int64.not_le.mpr c2)
    · conv => whnf
      exact ⟨Or.inr rfl, hret _ _ ⟨rfl, Or.inl ⟨⟨Int64.not_lt.mp c1, Int64.not_lt.mp c2⟩, rfl⟩⟩⟩
theorem M_X5_in : pm_MT yX5_in cX5_in 6 3 1 P_X5_in (pm_pi Q_X5_in) := pm_met k_X5_in (by decide) rfl (by
  rintro ⟨g0, g1, g2, g3⟩ av h hp
  rw [hp.1]
  exact Nat.le_of_ble_eq_true rfl) pf_X5_in
theorem wi_l {x : Int32} {a b : Nat} (ha : a < 2 ^ 31) (hb : b < 2 ^ 31) : (lN a ≤ x.toInt64 ∧ x.toInt64 ≤ lN b) ↔ wi x a b := by
  rw [← wi_iff ha hb, Int64.le_iff_toInt_le, Int64.le_iff_toInt_le, Int32.toInt_toInt64, lN_toInt ha, lN_toInt hb, Int32.lt_iff_toInt_lt, Int32.lt_iff_toInt_lt, nI_toInt ha, nI_toInt hb]
  omega
theorem ix_l {x : Int32} {n : Nat} (hn : n < 2 ^ 30) : (lN 0 ≤ x.toInt64 ∧ x.toInt64 ≤ (nI n - nI 1).toInt64) ↔ ixI x n := by
  rw [← ix_less hn, Int64.le_iff_toInt_le, Int64.le_iff_toInt_le, Int32.toInt_toInt64, Int32.toInt_toInt64, lN_toInt (by decide), Int32.lt_iff_toInt_lt, Int32.lt_iff_toInt_lt, nI_toInt (by decide)]
  omega
theorem Q_in {x : Int32} {a b : Nat} {h0 h : pm_H} {r : Int32} (ha : a < 2 ^ 31) (hb : b < 2 ^ 31) (hq : Q_X5_in (x.toInt64, lN a, lN b, h0) r h) : h = h0 ∧ ((wi x a b ∧ r = nI 1) ∨ (¬ wi x a b ∧ r = nI 0)) := by
  obtain ⟨h1, h2⟩ := hq
  rw [wi_l ha hb] at h2
  exact ⟨h1, h2⟩
theorem Q_ix {x : Int32} {n : Nat} {h0 h : pm_H} {r : Int32} (hn : n < 2 ^ 30) (hq : Q_X5_in (x.toInt64, lN 0, (nI n - nI 1).toInt64, h0) r h) : h = h0 ∧ ((ixI x n ∧ r = nI 1) ∨ (¬ ixI x n ∧ r = nI 0)) := by
  obtain ⟨h1, h2⟩ := hq
  rw [ix_l hn] at h2
  exact ⟨h1, h2⟩
def P_X5_isFellow : Int32 × Nat × pm_H → List pm_V → pm_H → Prop := fun g av h => match g with
  | (f, n, h0) => av = [vR 5 0 0, vI f] ∧ h = h0 ∧ h0 5 0 0 1 = nI n ∧ n ≤ 4
def Q_X5_isFellow : Int32 × Nat × pm_H → Int32 → pm_H → Prop := fun g r h => match g with
  | (f, n, h0) => h = h0 ∧ ((ixI f n ∧ r = nI 1) ∨ (¬ ixI f n ∧ r = nI 0))
def T_X5_isFellow : List (Nat × pm_T) := [
  (0, i_il 1 1),
  (1, i_i2l 2),
  (2, i_cl (lN 0) 3),
  (3, i_al 0 4),
  (4, i_gi 5 1 7),
  (7, i_c (nI 1) 8),
  (8, i_isub 9),
  (9, i_i2l 10),
  (10, i_ci 3 P_X5_in Q_X5_in 13),
  (13, i_zr)]
theorem k_X5_isFellow : ∀ q ∈ T_X5_isFellow, pm_sd RX5 cX5_isFellow 2 2 3 q.1 q.2 := by
  unfold T_X5_isFellow
  refine pm_cn (sd_iln (k := 1) (by decide +kernel) rfl rfl) ?_
  refine pm_cn (sd_i2l (by decide +kernel) rfl) ?_
  refine pm_cn (sd_lconst (z := 0) (by decide +kernel) (by decide +kernel) rfl) ?_
  refine pm_cn (sd_aln (k := 0) (by decide +kernel) rfl rfl) ?_
  refine pm_cn (sd_gi cl5_ in5_ (by decide) (fun _ => rfl) fl_X5_126 (by decide +kernel) rfl) ?_
  refine pm_cn (sd_iconst (z := 1) (by decide +kernel) (by decide +kernel) rfl) ?_
  refine pm_cn (sd_isub (by decide +kernel) rfl) ?_
  refine pm_cn (sd_i2l (by decide +kernel) rfl) ?_
  refine pm_cn (sd_cis M_X5_in (by decide) cd_X5_in ml_X5_46 st_X5_in nt_X5 (by decide +kernel) (by omega) (by decide) (by decide +kernel) rfl) ?_
  refine pm_cn (sd_zr (by decide +kernel)) ?_
  exact fun _ h => absurd h List.not_mem_nil
set_option maxHeartbeats 800000 in
set_option maxRecDepth 100000 in
theorem pf_X5_isFellow : pm_pf T_X5_isFellow P_X5_isFellow (pm_pi Q_X5_isFellow) := by
  rintro ⟨f, n, h0⟩ av h K hK ⟨rfl, rfl, hn, hn4⟩ hret
  show K (some 0) ([(0, vR 5 0 0), (1, vI f)], [], h)
  refine hK [] 30 _ _ ?_
  conv => whnf
  rw [hn]
  refine ⟨(f.toInt64, lN 0, (nI n - nI 1).toInt64, _), ⟨rfl, rfl⟩, fun r h' hq => ?_⟩
  obtain ⟨rfl, ⟨hx, rfl⟩ | ⟨hx, rfl⟩⟩ := Q_ix (by omega) hq
  · conv => whnf
    repeat' (first
      | (refine ⟨fun c9 => ?_, fun c9 => ?_⟩ <;> (try simp (disch := omega) only [nI_leI, nI_ltI, nI_eq, nz_eq, nz_lt, nz_gt, nz_le, nz_ge, nz_00, nz_n1, nI_add, pk_mul, pk_sub, nI_shl1, nI_or, nI_half2, nI_min2, la_put_eq, la_up, lr_same, lr_ne, lu_same, lu_ne, not_true_eq_false, not_false_eq_true] at c9) <;> first | (exfalso; omega) | conv => whnf)
      | (refine ⟨_, rfl, by omega, ?_⟩; conv => whnf)
      | (refine ⟨_, rfl, rfl, rfl, by decide, by decide, ?_⟩; conv => whnf)
      | (refine ⟨_, by (simp (disch := omega) only [nI_leI, nI_ltI, nI_eq, nz_eq, nz_lt, nz_gt, nz_le, nz_ge, nz_00, nz_n1, nI_add, pk_mul, pk_sub, nI_shl1, nI_or, nI_half2, nI_min2, la_put_eq, la_up, lr_same, lr_ne, lu_same, lu_ne, not_true_eq_false, not_false_eq_true]; rfl), by omega, ?_⟩; conv => whnf)
      | (apply And.intro; (first | assumption | decide | (simp (disch := omega) only [nI_leI, nI_ltI, nI_eq, nz_eq, nz_lt, nz_gt, nz_le, nz_ge, nz_00, nz_n1, nI_add, pk_mul, pk_sub, nI_shl1, nI_or, nI_half2, nI_min2, la_put_eq, la_up, lr_same, lr_ne, lu_same, lu_ne, not_true_eq_false, not_false_eq_true]; omega)); conv => whnf))
    all_goals (try simp (disch := omega) only [nI_leI, nI_ltI, nI_eq, nz_eq, nz_lt, nz_gt, nz_le, nz_ge, nz_00, nz_n1, nI_add, pk_mul, pk_sub, nI_shl1, nI_or, nI_half2, nI_min2, la_put_eq, la_up, lr_same, lr_ne, lu_same, lu_ne, not_true_eq_false, not_false_eq_true])
    exact hret _ _ ⟨rfl, Or.inl ⟨hx, rfl⟩⟩
  · conv => whnf
    repeat' (first
      | (refine ⟨fun c9 => ?_, fun c9 => ?_⟩ <;> (try simp (disch := omega) only [nI_leI, nI_ltI, nI_eq, nz_eq, nz_lt, nz_gt, nz_le, nz_ge, nz_00, nz_n1, nI_add, pk_mul, pk_sub, nI_shl1, nI_or, nI_half2, nI_min2, la_put_eq, la_up, lr_same, lr_ne, lu_same, lu_ne, not_true_eq_false, not_false_eq_true] at c9) <;> first | (exfalso; omega) | conv => whnf)
      | (refine ⟨_, rfl, by omega, ?_⟩; conv => whnf)
      | (refine ⟨_, rfl, rfl, rfl, by decide, by decide, ?_⟩; conv => whnf)
      | (refine ⟨_, by (simp (disch := omega) only [nI_leI, nI_ltI, nI_eq, nz_eq, nz_lt, nz_gt, nz_le, nz_ge, nz_00, nz_n1, nI_add, pk_mul, pk_sub, nI_shl1, nI_or, nI_half2, nI_min2, la_put_eq, la_up, lr_same, lr_ne, lu_same, lu_ne, not_true_eq_false, not_false_eq_true]; rfl), by omega, ?_⟩; conv => whnf)
      | (apply And.intro; (first | assumption | decide | (simp (disch := omega) only [nI_leI, nI_ltI, nI_eq, nz_eq, nz_lt, nz_gt, nz_le, nz_ge, nz_00, nz_n1, nI_add, pk_mul, pk_sub, nI_shl1, nI_or, nI_half2, nI_min2, la_put_eq, la_up, lr_same, lr_ne, lu_same, lu_ne, not_true_eq_false, not_false_eq_true]; omega)); conv => whnf))
    all_goals (try simp (disch := omega) only [nI_leI, nI_ltI, nI_eq, nz_eq, nz_lt, nz_gt, nz_le, nz_ge, nz_00, nz_n1, nI_add, pk_mul, pk_sub, nI_shl1, nI_or, nI_half2, nI_min2, la_put_eq, la_up, lr_same, lr_ne, lu_same, lu_ne, not_true_eq_false, not_false_eq_true])
    exact hret _ _ ⟨rfl, Or.inr ⟨hx, rfl⟩⟩
theorem M_X5_isFellow : pm_MT yX5_isFellow cX5_isFellow 2 3 2 P_X5_isFellow (pm_pi Q_X5_isFellow) := pm_met k_X5_isFellow (by decide) rfl (by
  rintro ⟨g0, g1, g2⟩ av h hp
  rw [hp.1]
  exact Nat.le_of_ble_eq_true rfl) pf_X5_isFellow
theorem rc_X5_isFellow : ∀ g av h, P_X5_isFellow g av h → ∃ i t, av = .inr (.inr (5, i, 0)) :: t := by
  rintro ⟨g0, g1, g2⟩ av h hp
  exact ⟨_, _, hp.1⟩
def P_X5_isBiscuit : Int32 × Nat × pm_H → List pm_V → pm_H → Prop := fun g av h => match g with
  | (f, n, h0) => av = [vR 5 0 0, vI f] ∧ h = h0 ∧ h0 5 0 1 32 = nI n ∧ n ≤ 6
def Q_X5_isBiscuit : Int32 × Nat × pm_H → Int32 → pm_H → Prop := fun g r h => match g with
  | (f, n, h0) => h = h0 ∧ ((ixI f n ∧ r = nI 1) ∨ (¬ ixI f n ∧ r = nI 0))
def T_X5_isBiscuit : List (Nat × pm_T) := [
  (0, i_il 1 1),
  (1, i_i2l 2),
  (2, i_cl (lN 0) 3),
  (3, i_al 0 4),
  (4, i_gr 5 (fun i => (5, i, 1)) 7),
  (7, i_c (nI 32) 9),
  (9, i_ia 10),
  (10, i_c (nI 1) 11),
  (11, i_isub 12),
  (12, i_i2l 13),
  (13, i_ci 3 P_X5_in Q_X5_in 16),
  (16, i_zr)]
theorem k_X5_isBiscuit : ∀ q ∈ T_X5_isBiscuit, pm_sd RX5 cX5_isBiscuit 2 2 3 q.1 q.2 := by
  unfold T_X5_isBiscuit
  refine pm_cn (sd_iln (k := 1) (by decide +kernel) rfl rfl) ?_
  refine pm_cn (sd_i2l (by decide +kernel) rfl) ?_
  refine pm_cn (sd_lconst (z := 0) (by decide +kernel) (by decide +kernel) rfl) ?_
  refine pm_cn (sd_aln (k := 0) (by decide +kernel) rfl rfl) ?_
  refine pm_cn (sd_gr cl5_ in5_ (j := 0) (by decide) (fun _ => rfl) fl_X5_7 (by decide +kernel) rfl) ?_
  refine pm_cn (sd_bipush (z := 32) (by decide +kernel) (by decide +kernel) rfl) ?_
  refine pm_cn (sd_ia (by decide +kernel) rfl) ?_
  refine pm_cn (sd_iconst (z := 1) (by decide +kernel) (by decide +kernel) rfl) ?_
  refine pm_cn (sd_isub (by decide +kernel) rfl) ?_
  refine pm_cn (sd_i2l (by decide +kernel) rfl) ?_
  refine pm_cn (sd_cis M_X5_in (by decide) cd_X5_in ml_X5_46 st_X5_in nt_X5 (by decide +kernel) (by omega) (by decide) (by decide +kernel) rfl) ?_
  refine pm_cn (sd_zr (by decide +kernel)) ?_
  exact fun _ h => absurd h List.not_mem_nil
set_option maxHeartbeats 800000 in
set_option maxRecDepth 100000 in
theorem pf_X5_isBiscuit : pm_pf T_X5_isBiscuit P_X5_isBiscuit (pm_pi Q_X5_isBiscuit) := by
  rintro ⟨f, n, h0⟩ av h K hK ⟨rfl, rfl, hn, hn4⟩ hret
  show K (some 0) ([(0, vR 5 0 0), (1, vI f)], [], h)
  refine hK [] 30 _ _ ?_
  conv => whnf
  refine ⟨32, rfl, by decide, ?_⟩
  conv => whnf
  rw [hn]
  refine ⟨(f.toInt64, lN 0, (nI n - nI 1).toInt64, _), ⟨rfl, rfl⟩, fun r h' hq => ?_⟩
  obtain ⟨rfl, ⟨hx, rfl⟩ | ⟨hx, rfl⟩⟩ := Q_ix (by omega) hq
  · conv => whnf
    repeat' (first
      | (refine ⟨fun c9 => ?_, fun c9 => ?_⟩ <;> (try simp (disch := omega) only [nI_leI, nI_ltI, nI_eq, nz_eq, nz_lt, nz_gt, nz_le, nz_ge, nz_00, nz_n1, nI_add, pk_mul, pk_sub, nI_shl1, nI_or, nI_half2, nI_min2, la_put_eq, la_up, lr_same, lr_ne, lu_same, lu_ne, not_true_eq_false, not_false_eq_true] at c9) <;> first | (exfalso; omega) | conv => whnf)
      | (refine ⟨_, rfl, by omega, ?_⟩; conv => whnf)
      | (refine ⟨_, rfl, rfl, rfl, by decide, by decide, ?_⟩; conv => whnf)
      | (refine ⟨_, by (simp (disch := omega) only [nI_leI, nI_ltI, nI_eq, nz_eq, nz_lt, nz_gt, nz_le, nz_ge, nz_00, nz_n1, nI_add, pk_mul, pk_sub, nI_shl1, nI_or, nI_half2, nI_min2, la_put_eq, la_up, lr_same, lr_ne, lu_same, lu_ne, not_true_eq_false, not_false_eq_true]; rfl), by omega, ?_⟩; conv => whnf)
      | (apply And.intro; (first | assumption | decide | (simp (disch := omega) only [nI_leI, nI_ltI, nI_eq, nz_eq, nz_lt, nz_gt, nz_le, nz_ge, nz_00, nz_n1, nI_add, pk_mul, pk_sub, nI_shl1, nI_or, nI_half2, nI_min2, la_put_eq, la_up, lr_same, lr_ne, lu_same, lu_ne, not_true_eq_false, not_false_eq_true]; omega)); conv => whnf))
    all_goals (try simp (disch := omega) only [nI_leI, nI_ltI, nI_eq, nz_eq, nz_lt, nz_gt, nz_le, nz_ge, nz_00, nz_n1, nI_add, pk_mul, pk_sub, nI_shl1, nI_or, nI_half2, nI_min2, la_put_eq, la_up, lr_same, lr_ne, lu_same, lu_ne, not_true_eq_false, not_false_eq_true])
    exact hret _ _ ⟨rfl, Or.inl ⟨hx, rfl⟩⟩
  · conv => whnf
    repeat' (first
      | (refine ⟨fun c9 => ?_, fun c9 => ?_⟩ <;> (try simp (disch := omega) only [nI_leI, nI_ltI, nI_eq, nz_eq, nz_lt, nz_gt, nz_le, nz_ge, nz_00, nz_n1, nI_add, pk_mul, pk_sub, nI_shl1, nI_or, nI_half2, nI_min2, la_put_eq, la_up, lr_same, lr_ne, lu_same, lu_ne, not_true_eq_false, not_false_eq_true] at c9) <;> first | (exfalso; omega) | conv => whnf)
      | (refine ⟨_, rfl, by omega, ?_⟩; conv => whnf)
      | (refine ⟨_, rfl, rfl, rfl, by decide, by decide, ?_⟩; conv => whnf)
      | (refine ⟨_, by (simp (disch := omega) only [nI_leI, nI_ltI, nI_eq, nz_eq, nz_lt, nz_gt, nz_le, nz_ge, nz_00, nz_n1, nI_add, pk_mul, pk_sub, nI_shl1, nI_or, nI_half2, nI_min2, la_put_eq, la_up, lr_same, lr_ne, lu_same, lu_ne, not_true_eq_false, not_false_eq_true]; rfl), by omega, ?_⟩; conv => whnf)
      | (apply And.intro; (first | assumption | decide | (simp (disch := omega) only [nI_leI, nI_ltI, nI_eq, nz_eq, nz_lt, nz_gt, nz_le, nz_ge, nz_00, nz_n1, nI_add, pk_mul, pk_sub, nI_shl1, nI_or, nI_half2, nI_min2, la_put_eq, la_up, lr_same, lr_ne, lu_same, lu_ne, not_true_eq_false, not_false_eq_true]; omega)); conv => whnf))
    all_goals (try simp (disch := omega) only [nI_leI, nI_ltI, nI_eq, nz_eq, nz_lt, nz_gt, nz_le, nz_ge, nz_00, nz_n1, nI_add, pk_mul, pk_sub, nI_shl1, nI_or, nI_half2, nI_min2, la_put_eq, la_up, lr_same, lr_ne, lu_same, lu_ne, not_true_eq_false, not_false_eq_true])
    exact hret _ _ ⟨rfl, Or.inr ⟨hx, rfl⟩⟩
theorem M_X5_isBiscuit : pm_MT yX5_isBiscuit cX5_isBiscuit 2 3 2 P_X5_isBiscuit (pm_pi Q_X5_isBiscuit) := pm_met k_X5_isBiscuit (by decide) rfl (by
  rintro ⟨g0, g1, g2⟩ av h hp
  rw [hp.1]
  exact Nat.le_of_ble_eq_true rfl) pf_X5_isBiscuit
theorem rc_X5_isBiscuit : ∀ g av h, P_X5_isBiscuit g av h → ∃ i t, av = .inr (.inr (5, i, 0)) :: t := by
  rintro ⟨g0, g1, g2⟩ av h hp
  exact ⟨_, _, hp.1⟩
def P_X5_isSubject : Int32 × pm_H → List pm_V → pm_H → Prop := fun g av h => match g with
  | (s, h0) => av = [vI s] ∧ h = h0
def Q_X5_isSubject : Int32 × pm_H → Int32 → pm_H → Prop := fun g r h => match g with
  | (s, h0) => h = h0 ∧ ((wi s 0 9 ∧ r = nI 1) ∨ (¬ wi s 0 9 ∧ r = nI 0))
def T_X5_isSubject : List (Nat × pm_T) := [
  (0, i_il 0 1),
  (1, i_i2l 2),
  (2, i_cl (lN 0) 3),
  (3, i_cl (lN 9) 6),
  (6, i_ci 3 P_X5_in Q_X5_in 9),
  (9, i_zr)]
theorem k_X5_isSubject : ∀ q ∈ T_X5_isSubject, pm_sd RX5 cX5_isSubject 1 2 3 q.1 q.2 := by
  unfold T_X5_isSubject
  refine pm_cn (sd_iln (k := 0) (by decide +kernel) rfl rfl) ?_
  refine pm_cn (sd_i2l (by decide +kernel) rfl) ?_
  refine pm_cn (sd_lconst (z := 0) (by decide +kernel) (by decide +kernel) rfl) ?_
  refine pm_cn (sd_ldc2 (k := 132) (by decide +kernel) (pm_tin (by decide +kernel) rfl) rfl) ?_
  refine pm_cn (sd_cis M_X5_in (by decide) cd_X5_in ml_X5_46 st_X5_in nt_X5 (by decide +kernel) (by omega) (by decide) (by decide +kernel) rfl) ?_
  refine pm_cn (sd_zr (by decide +kernel)) ?_
  exact fun _ h => absurd h List.not_mem_nil
set_option maxHeartbeats 800000 in
set_option maxRecDepth 100000 in
theorem pf_X5_isSubject : pm_pf T_X5_isSubject P_X5_isSubject (pm_pi Q_X5_isSubject) := by
  rintro ⟨f, h0⟩ av h K hK ⟨rfl, rfl⟩ hret
  show K (some 0) ([(0, vI f)], [], h)
  refine hK [] 30 _ _ ?_
  conv => whnf
  refine ⟨(f.toInt64, lN 0, lN 9, _), ⟨rfl, rfl⟩, fun r h' hq => ?_⟩
  obtain ⟨rfl, ⟨hx, rfl⟩ | ⟨hx, rfl⟩⟩ := Q_in (by decide) (by decide) hq
  · conv => whnf
    repeat' (first
      | (refine ⟨fun c9 => ?_, fun c9 => ?_⟩ <;> (try simp (disch := omega) only [nI_leI, nI_ltI, nI_eq, nz_eq, nz_lt, nz_gt, nz_le, nz_ge, nz_00, nz_n1, nI_add, pk_mul, pk_sub, nI_shl1, nI_or, nI_half2, nI_min2, la_put_eq, la_up, lr_same, lr_ne, lu_same, lu_ne, not_true_eq_false, not_false_eq_true] at c9) <;> first | (exfalso; omega) | conv => whnf)
      | (refine ⟨_, rfl, by omega, ?_⟩; conv => whnf)
      | (refine ⟨_, rfl, rfl, rfl, by decide, by decide, ?_⟩; conv => whnf)
      | (refine ⟨_, by (simp (disch := omega) only [nI_leI, nI_ltI, nI_eq, nz_eq, nz_lt, nz_gt, nz_le, nz_ge, nz_00, nz_n1, nI_add, pk_mul, pk_sub, nI_shl1, nI_or, nI_half2, nI_min2, la_put_eq, la_up, lr_same, lr_ne, lu_same, lu_ne, not_true_eq_false, not_false_eq_true]; rfl), by omega, ?_⟩; conv => whnf)
      | (apply And.intro; (first | assumption | decide | (simp (disch := omega) only [nI_leI, nI_ltI, nI_eq, nz_eq, nz_lt, nz_gt, nz_le, nz_ge, nz_00, nz_n1, nI_add, pk_mul, pk_sub, nI_shl1, nI_or, nI_half2, nI_min2, la_put_eq, la_up, lr_same, lr_ne, lu_same, lu_ne, not_true_eq_false, not_false_eq_true]; omega)); conv => whnf))
    all_goals (try simp (disch := omega) only [nI_leI, nI_ltI, nI_eq, nz_eq, nz_lt, nz_gt, nz_le, nz_ge, nz_00, nz_n1, nI_add, pk_mul, pk_sub, nI_shl1, nI_or, nI_half2, nI_min2, la_put_eq, la_up, lr_same, lr_ne, lu_same, lu_ne, not_true_eq_false, not_false_eq_true])
    exact hret _ _ ⟨rfl, Or.inl ⟨hx, rfl⟩⟩
  · conv => whnf
    repeat' (first
      | (refine ⟨fun c9 => ?_, fun c9 => ?_⟩ <;> (try simp (disch := omega) only [nI_leI, nI_ltI, nI_eq, nz_eq, nz_lt, nz_gt, nz_le, nz_ge, nz_00, nz_n1, nI_add, pk_mul, pk_sub, nI_shl1, nI_or, nI_half2, nI_min2, la_put_eq, la_up, lr_same, lr_ne, lu_same, lu_ne, not_true_eq_false, not_false_eq_true] at c9) <;> first | (exfalso; omega) | conv => whnf)
      | (refine ⟨_, rfl, by omega, ?_⟩; conv => whnf)
      | (refine ⟨_, rfl, rfl, rfl, by decide, by decide, ?_⟩; conv => whnf)
      | (refine ⟨_, by (simp (disch := omega) only [nI_leI, nI_ltI, nI_eq, nz_eq, nz_lt, nz_gt, nz_le, nz_ge, nz_00, nz_n1, nI_add, pk_mul, pk_sub, nI_shl1, nI_or, nI_half2, nI_min2, la_put_eq, la_up, lr_same, lr_ne, lu_same, lu_ne, not_true_eq_false, not_false_eq_true]; rfl), by omega, ?_⟩; conv => whnf)
      | (apply And.intro; (first | assumption | decide | (simp (disch := omega) only [nI_leI, nI_ltI, nI_eq, nz_eq, nz_lt, nz_gt, nz_le, nz_ge, nz_00, nz_n1, nI_add, pk_mul, pk_sub, nI_shl1, nI_or, nI_half2, nI_min2, la_put_eq, la_up, lr_same, lr_ne, lu_same, lu_ne, not_true_eq_false, not_false_eq_true]; omega)); conv => whnf))
    all_goals (try simp (disch := omega) only [nI_leI, nI_ltI, nI_eq, nz_eq, nz_lt, nz_gt, nz_le, nz_ge, nz_00, nz_n1, nI_add, pk_mul, pk_sub, nI_shl1, nI_or, nI_half2, nI_min2, la_put_eq, la_up, lr_same, lr_ne, lu_same, lu_ne, not_true_eq_false, not_false_eq_true])
    exact hret _ _ ⟨rfl, Or.inr ⟨hx, rfl⟩⟩
theorem M_X5_isSubject : pm_MT yX5_isSubject cX5_isSubject 1 3 2 P_X5_isSubject (pm_pi Q_X5_isSubject) := pm_met k_X5_isSubject (by decide) rfl (by
  rintro ⟨g0, g1⟩ av h hp
  rw [hp.1]
  exact Nat.le_of_ble_eq_true rfl) pf_X5_isSubject
