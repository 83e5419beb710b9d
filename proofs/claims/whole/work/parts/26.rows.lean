/-! Rows of a page: writes, the pages that are named by numbers. -/
theorem pu1 {h : pm_H} {pg : Nat} {Y : LD} {b v : Nat} (hb : b < 4) : pm_up (pg_put h pg Y) 5 0 1 (pg + b) (nI v) = pg_put h pg (lu Y 1 b v) := by
  refine pu (by omega) ?_ (fun j hj hn => ?_)
  · rw [pe, if_pos (by omega), lu_same]
  · unfold pe
    simp only [lu_eq]
    by_cases h5 : 0 ≤ j ∧ j < 4
    · have f1 : j < 4 := by omega
      have f2 : ¬ j = b := by omega
      simp [f1, f2]
    · have q2 : ¬ j < 4 := by omega
      simp [q2]
theorem pu3 {h : pm_H} {pg : Nat} {Y : LD} {b v : Nat} (hb : b < 6) : pm_up (pg_put h pg Y) 5 0 1 (pg + 8 + b) (nI v) = pg_put h pg (lu Y 3 b v) := by
  rw [Nat.add_assoc]
  refine pu (by omega) ?_ (fun j hj hn => ?_)
  · rw [pe, if_neg (by omega), if_neg (by omega), if_pos (by omega), show 8 + b - 8 = b by omega, lu_same]
  · unfold pe
    simp only [lu_eq]
    by_cases h5 : 8 ≤ j ∧ j < 14
    · have e0 : ¬ j < 4 := by omega
      have e1 : ¬ j < 8 := by omega
      have f1 : j < 14 := by omega
      have f2 : ¬ j - 8 = b := by omega
      simp [e0, e1, f1, f2]
    · rcases Nat.lt_or_ge j 8 with q | q
      · simp [q]
      · have q2 : ¬ j < 14 := by omega
        simp [q2]
theorem pu4 {h : pm_H} {pg : Nat} {Y : LD} {b v : Nat} (hb : b < 6) : pm_up (pg_put h pg Y) 5 0 1 (pg + 14 + b) (nI v) = pg_put h pg (lu Y 4 b v) := by
  rw [Nat.add_assoc]
  refine pu (by omega) ?_ (fun j hj hn => ?_)
  · rw [pe, if_neg (by omega), if_neg (by omega), if_neg (by omega), if_pos (by omega), show 14 + b - 14 = b by omega, lu_same]
  · unfold pe
    simp only [lu_eq]
    by_cases h5 : 14 ≤ j ∧ j < 20
    · have e0 : ¬ j < 4 := by omega
      have e1 : ¬ j < 8 := by omega
      have e2 : ¬ j < 14 := by omega
      have f1 : j < 20 := by omega
      have f2 : ¬ j - 14 = b := by omega
      simp [e0, e1, e2, f1, f2]
    · rcases Nat.lt_or_ge j 14 with q | q
      · simp [q]
      · have q2 : ¬ j < 20 := by omega
        simp [q2]
theorem pu6 {h : pm_H} {pg : Nat} {Y : LD} {b v : Nat} (hb : b < 6) : pm_up (pg_put h pg Y) 5 0 1 (pg + 26 + b) (nI v) = pg_put h pg (lu Y 6 b v) := by
  rw [Nat.add_assoc]
  refine pu (by omega) ?_ (fun j hj hn => ?_)
  · rw [pe, if_neg (by omega), if_neg (by omega), if_neg (by omega), if_neg (by omega), if_neg (by omega), if_pos (by omega), show 26 + b - 26 = b by omega, lu_same]
  · unfold pe
    simp only [lu_eq]
    by_cases h5 : 26 ≤ j ∧ j < 32
    · have e0 : ¬ j < 4 := by omega
      have e1 : ¬ j < 8 := by omega
      have e2 : ¬ j < 14 := by omega
      have e3 : ¬ j < 20 := by omega
      have e4 : ¬ j < 26 := by omega
      have f1 : j < 32 := by omega
      have f2 : ¬ j - 26 = b := by omega
      simp [e0, e1, e2, e3, e4, f1, f2]
    · rcases Nat.lt_or_ge j 26 with q | q
      · simp [q]
      · have q2 : ¬ j < 32 := by omega
        simp [q2]
theorem pu7 {h : pm_H} {pg : Nat} {Y : LD} {b v : Nat} (hb : b < 6) : pm_up (pg_put h pg Y) 5 0 1 (pg + 36 + b) (nI v) = pg_put h pg (lu Y 7 b v) := by
  rw [Nat.add_assoc]
  refine pu (by omega) ?_ (fun j hj hn => ?_)
  · rw [pe, if_neg (by omega), if_neg (by omega), if_neg (by omega), if_neg (by omega), if_neg (by omega), if_neg (by omega), if_neg (by omega), if_neg (by omega), if_neg (by omega), if_neg (by omega), if_pos (by omega), show 36 + b - 36 = b by omega, lu_same]
  · unfold pe
    simp only [lu_eq]
    by_cases h5 : 36 ≤ j ∧ j < 42
    · have e0 : ¬ j < 4 := by omega
      have e1 : ¬ j < 8 := by omega
      have e2 : ¬ j < 14 := by omega
      have e3 : ¬ j < 20 := by omega
      have e4 : ¬ j < 26 := by omega
      have e5 : ¬ j < 32 := by omega
      have e6 : ¬ j = 32 := by omega
      have e7 : ¬ j = 33 := by omega
      have e8 : ¬ j = 34 := by omega
      have e9 : ¬ j = 35 := by omega
      have f1 : j < 42 := by omega
      have f2 : ¬ j - 36 = b := by omega
      simp [e0, e1, e2, e3, e4, e5, e6, e7, e8, e9, f1, f2]
    · rcases Nat.lt_or_ge j 36 with q | q
      · rcases (by omega : j < 32 ∨ j = 32 ∨ j = 33 ∨ j = 34 ∨ j = 35) with q | q | q | q | q <;> simp [q]
      · have q2 : ¬ j < 42 := by omega
        simp [q2]
theorem pu8 {h : pm_H} {pg : Nat} {Y : LD} {b v : Nat} (hb : b < 6) : pm_up (pg_put h pg Y) 5 0 1 (pg + 42 + b) (nI v) = pg_put h pg (lu Y 8 b v) := by
  rw [Nat.add_assoc]
  refine pu (by omega) ?_ (fun j hj hn => ?_)
  · rw [pe, if_neg (by omega), if_neg (by omega), if_neg (by omega), if_neg (by omega), if_neg (by omega), if_neg (by omega), if_neg (by omega), if_neg (by omega), if_neg (by omega), if_neg (by omega), if_neg (by omega), if_pos (by omega), show 42 + b - 42 = b by omega, lu_same]
  · unfold pe
    simp only [lu_eq]
    by_cases h5 : 42 ≤ j ∧ j < 48
    · have e0 : ¬ j < 4 := by omega
      have e1 : ¬ j < 8 := by omega
      have e2 : ¬ j < 14 := by omega
      have e3 : ¬ j < 20 := by omega
      have e4 : ¬ j < 26 := by omega
      have e5 : ¬ j < 32 := by omega
      have e6 : ¬ j = 32 := by omega
      have e7 : ¬ j = 33 := by omega
      have e8 : ¬ j = 34 := by omega
      have e9 : ¬ j = 35 := by omega
      have e10 : ¬ j < 42 := by omega
      have f1 : j < 48 := by omega
      have f2 : ¬ j - 42 = b := by omega
      simp [e0, e1, e2, e3, e4, e5, e6, e7, e8, e9, e10, f1, f2]
    · rcases Nat.lt_or_ge j 42 with q | q
      · rcases (by omega : j < 32 ∨ j = 32 ∨ j = 33 ∨ j = 34 ∨ j = 35 ∨ j < 42) with q | q | q | q | q | q <;> simp [q]
      · have q2 : ¬ j < 48 := by omega
        simp [q2]
theorem puN {h : pm_H} {pg : Nat} {Y : LD} {v : Nat} : pm_up (pg_put h pg Y) 5 0 1 (pg + 32) (nI v) = pg_put h pg (lu Y 0 3 v) := by
  refine pu (by omega) ?_ (fun j hj hn => ?_)
  · rw [pe]; simp [lu_eq]
  · unfold pe
    simp only [lu_eq]
    simp [hn]
theorem puD {h : pm_H} {pg : Nat} {Y : LD} {v : Nat} : pm_up (pg_put h pg Y) 5 0 1 (pg + 33) (nI v - nI 2) = pg_put h pg (lu Y 0 8 v) := by
  refine pu (by omega) ?_ (fun j hj hn => ?_)
  · rw [pe]; simp [lu_eq]
  · unfold pe
    simp only [lu_eq]
    simp [hn]
theorem puB {h : pm_H} {pg : Nat} {Y : LD} {v : Nat} : pm_up (pg_put h pg Y) 5 0 1 (pg + 34) (nI v - nI 5) = pg_put h pg (lu Y 0 9 v) := by
  refine pu (by omega) ?_ (fun j hj hn => ?_)
  · rw [pe]; simp [lu_eq]
  · unfold pe
    simp only [lu_eq]
    simp [hn]
theorem puQ {h : pm_H} {pg : Nat} {Y : LD} {v : Nat} : pm_up (pg_put h pg Y) 5 0 1 (pg + 48) (nI v) = pg_put h pg (lu Y 0 11 v) := by
  refine pu (by omega) ?_ (fun j hj hn => ?_)
  · rw [pe]; simp [lu_eq]
  · unfold pe
    simp only [lu_eq]
    have q : j < 48 := by omega
    simp [q]
theorem zr1 {h : pm_H} {Y : LD} (hP : pg_at h 0 Y) {b : Nat} (hb : b < 4) : h 5 0 1 (b) = nI (Y 1 b) := by
  have := qr1 hP hb
  simpa using this
theorem zp1 {h : pm_H} {Y : LD} {b : Nat} (hb : b < 4) : pg_put h 0 Y 5 0 1 (b) = nI (Y 1 b) := zr1 (pg_put_at h 0 Y) hb
theorem zu1 {h : pm_H} {Y : LD} {b v : Nat} (hb : b < 4) : pm_up (pg_put h 0 Y) 5 0 1 (b) (nI v) = pg_put h 0 (lu Y 1 b v) := by
  have := pu1 (h := h) (pg := 0) (Y := Y) (v := v) hb
  simpa using this
theorem zr2 {h : pm_H} {Y : LD} (hP : pg_at h 0 Y) {b : Nat} (hb : b < 4) : h 5 0 1 (4 + b) = nI (Y 2 b) := by
  have := qr2 hP hb
  simpa using this
theorem zp2 {h : pm_H} {Y : LD} {b : Nat} (hb : b < 4) : pg_put h 0 Y 5 0 1 (4 + b) = nI (Y 2 b) := zr2 (pg_put_at h 0 Y) hb
theorem zu2 {h : pm_H} {Y : LD} {b v : Nat} (hb : b < 4) : pm_up (pg_put h 0 Y) 5 0 1 (4 + b) (nI v) = pg_put h 0 (lu Y 2 b v) := by
  have := pu2 (h := h) (pg := 0) (Y := Y) (v := v) hb
  simpa using this
theorem ou2 {h : pm_H} {Y : LD} {b v : Nat} (hb : b < 4) : pm_up (pg_put h 245 Y) 5 0 1 (249 + b) (nI v) = pg_put h 245 (lu Y 2 b v) := pu2 (h := h) (pg := 245) (Y := Y) (v := v) hb
theorem tu2 {h : pm_H} {Y : LD} {b v : Nat} (hb : b < 4) : pm_up (pg_put h 196 Y) 5 0 1 (200 + b) (nI v) = pg_put h 196 (lu Y 2 b v) := pu2 (h := h) (pg := 196) (Y := Y) (v := v) hb
theorem tp2 {h : pm_H} {Y : LD} {b : Nat} (hb : b < 4) : pg_put h 196 Y 5 0 1 (200 + b) = nI (Y 2 b) := pr2 (h := h) (pg := 196) (Y := Y) hb
theorem zr3 {h : pm_H} {Y : LD} (hP : pg_at h 0 Y) {b : Nat} (hb : b < 6) : h 5 0 1 (8 + b) = nI (Y 3 b) := by
  have := qr3 hP hb
  simpa using this
theorem zp3 {h : pm_H} {Y : LD} {b : Nat} (hb : b < 6) : pg_put h 0 Y 5 0 1 (8 + b) = nI (Y 3 b) := zr3 (pg_put_at h 0 Y) hb
theorem zu3 {h : pm_H} {Y : LD} {b v : Nat} (hb : b < 6) : pm_up (pg_put h 0 Y) 5 0 1 (8 + b) (nI v) = pg_put h 0 (lu Y 3 b v) := by
  have := pu3 (h := h) (pg := 0) (Y := Y) (v := v) hb
  simpa using this
theorem ou3 {h : pm_H} {Y : LD} {b v : Nat} (hb : b < 6) : pm_up (pg_put h 245 Y) 5 0 1 (253 + b) (nI v) = pg_put h 245 (lu Y 3 b v) := pu3 (h := h) (pg := 245) (Y := Y) (v := v) hb
theorem tu3 {h : pm_H} {Y : LD} {b v : Nat} (hb : b < 6) : pm_up (pg_put h 196 Y) 5 0 1 (204 + b) (nI v) = pg_put h 196 (lu Y 3 b v) := pu3 (h := h) (pg := 196) (Y := Y) (v := v) hb
theorem tp3 {h : pm_H} {Y : LD} {b : Nat} (hb : b < 6) : pg_put h 196 Y 5 0 1 (204 + b) = nI (Y 3 b) := pr3 (h := h) (pg := 196) (Y := Y) hb
theorem zr4 {h : pm_H} {Y : LD} (hP : pg_at h 0 Y) {b : Nat} (hb : b < 6) : h 5 0 1 (14 + b) = nI (Y 4 b) := by
  have := qr4 hP hb
  simpa using this
theorem zp4 {h : pm_H} {Y : LD} {b : Nat} (hb : b < 6) : pg_put h 0 Y 5 0 1 (14 + b) = nI (Y 4 b) := zr4 (pg_put_at h 0 Y) hb
theorem zu4 {h : pm_H} {Y : LD} {b v : Nat} (hb : b < 6) : pm_up (pg_put h 0 Y) 5 0 1 (14 + b) (nI v) = pg_put h 0 (lu Y 4 b v) := by
  have := pu4 (h := h) (pg := 0) (Y := Y) (v := v) hb
  simpa using this
theorem ou4 {h : pm_H} {Y : LD} {b v : Nat} (hb : b < 6) : pm_up (pg_put h 245 Y) 5 0 1 (259 + b) (nI v) = pg_put h 245 (lu Y 4 b v) := pu4 (h := h) (pg := 245) (Y := Y) (v := v) hb
theorem tu4 {h : pm_H} {Y : LD} {b v : Nat} (hb : b < 6) : pm_up (pg_put h 196 Y) 5 0 1 (210 + b) (nI v) = pg_put h 196 (lu Y 4 b v) := pu4 (h := h) (pg := 196) (Y := Y) (v := v) hb
theorem tp4 {h : pm_H} {Y : LD} {b : Nat} (hb : b < 6) : pg_put h 196 Y 5 0 1 (210 + b) = nI (Y 4 b) := pr4 (h := h) (pg := 196) (Y := Y) hb
theorem zr5 {h : pm_H} {Y : LD} (hP : pg_at h 0 Y) {b : Nat} (hb : b < 6) : h 5 0 1 (20 + b) = nI (Y 5 b) := by
  have := qr5 hP hb
  simpa using this
theorem zp5 {h : pm_H} {Y : LD} {b : Nat} (hb : b < 6) : pg_put h 0 Y 5 0 1 (20 + b) = nI (Y 5 b) := zr5 (pg_put_at h 0 Y) hb
theorem zu5 {h : pm_H} {Y : LD} {b v : Nat} (hb : b < 6) : pm_up (pg_put h 0 Y) 5 0 1 (20 + b) (nI v) = pg_put h 0 (lu Y 5 b v) := by
  have := pu5 (h := h) (pg := 0) (Y := Y) (v := v) hb
  simpa using this
theorem ou5 {h : pm_H} {Y : LD} {b v : Nat} (hb : b < 6) : pm_up (pg_put h 245 Y) 5 0 1 (265 + b) (nI v) = pg_put h 245 (lu Y 5 b v) := pu5 (h := h) (pg := 245) (Y := Y) (v := v) hb
theorem tu5 {h : pm_H} {Y : LD} {b v : Nat} (hb : b < 6) : pm_up (pg_put h 196 Y) 5 0 1 (216 + b) (nI v) = pg_put h 196 (lu Y 5 b v) := pu5 (h := h) (pg := 196) (Y := Y) (v := v) hb
theorem tp5 {h : pm_H} {Y : LD} {b : Nat} (hb : b < 6) : pg_put h 196 Y 5 0 1 (216 + b) = nI (Y 5 b) := pr5 (h := h) (pg := 196) (Y := Y) hb
theorem zr6 {h : pm_H} {Y : LD} (hP : pg_at h 0 Y) {b : Nat} (hb : b < 6) : h 5 0 1 (26 + b) = nI (Y 6 b) := by
  have := qr6 hP hb
  simpa using this
theorem zp6 {h : pm_H} {Y : LD} {b : Nat} (hb : b < 6) : pg_put h 0 Y 5 0 1 (26 + b) = nI (Y 6 b) := zr6 (pg_put_at h 0 Y) hb
theorem zu6 {h : pm_H} {Y : LD} {b v : Nat} (hb : b < 6) : pm_up (pg_put h 0 Y) 5 0 1 (26 + b) (nI v) = pg_put h 0 (lu Y 6 b v) := by
  have := pu6 (h := h) (pg := 0) (Y := Y) (v := v) hb
  simpa using this
theorem ou6 {h : pm_H} {Y : LD} {b v : Nat} (hb : b < 6) : pm_up (pg_put h 245 Y) 5 0 1 (271 + b) (nI v) = pg_put h 245 (lu Y 6 b v) := pu6 (h := h) (pg := 245) (Y := Y) (v := v) hb
theorem tu6 {h : pm_H} {Y : LD} {b v : Nat} (hb : b < 6) : pm_up (pg_put h 196 Y) 5 0 1 (222 + b) (nI v) = pg_put h 196 (lu Y 6 b v) := pu6 (h := h) (pg := 196) (Y := Y) (v := v) hb
theorem tp6 {h : pm_H} {Y : LD} {b : Nat} (hb : b < 6) : pg_put h 196 Y 5 0 1 (222 + b) = nI (Y 6 b) := pr6 (h := h) (pg := 196) (Y := Y) hb
theorem zr7 {h : pm_H} {Y : LD} (hP : pg_at h 0 Y) {b : Nat} (hb : b < 6) : h 5 0 1 (36 + b) = nI (Y 7 b) := by
  have := qr7 hP hb
  simpa using this
theorem zp7 {h : pm_H} {Y : LD} {b : Nat} (hb : b < 6) : pg_put h 0 Y 5 0 1 (36 + b) = nI (Y 7 b) := zr7 (pg_put_at h 0 Y) hb
theorem zu7 {h : pm_H} {Y : LD} {b v : Nat} (hb : b < 6) : pm_up (pg_put h 0 Y) 5 0 1 (36 + b) (nI v) = pg_put h 0 (lu Y 7 b v) := by
  have := pu7 (h := h) (pg := 0) (Y := Y) (v := v) hb
  simpa using this
theorem ou7 {h : pm_H} {Y : LD} {b v : Nat} (hb : b < 6) : pm_up (pg_put h 245 Y) 5 0 1 (281 + b) (nI v) = pg_put h 245 (lu Y 7 b v) := pu7 (h := h) (pg := 245) (Y := Y) (v := v) hb
theorem tu7 {h : pm_H} {Y : LD} {b v : Nat} (hb : b < 6) : pm_up (pg_put h 196 Y) 5 0 1 (232 + b) (nI v) = pg_put h 196 (lu Y 7 b v) := pu7 (h := h) (pg := 196) (Y := Y) (v := v) hb
theorem tp7 {h : pm_H} {Y : LD} {b : Nat} (hb : b < 6) : pg_put h 196 Y 5 0 1 (232 + b) = nI (Y 7 b) := pr7 (h := h) (pg := 196) (Y := Y) hb
theorem zr8 {h : pm_H} {Y : LD} (hP : pg_at h 0 Y) {b : Nat} (hb : b < 6) : h 5 0 1 (42 + b) = nI (Y 8 b) := by
  have := qr8 hP hb
  simpa using this
theorem zp8 {h : pm_H} {Y : LD} {b : Nat} (hb : b < 6) : pg_put h 0 Y 5 0 1 (42 + b) = nI (Y 8 b) := zr8 (pg_put_at h 0 Y) hb
theorem zu8 {h : pm_H} {Y : LD} {b v : Nat} (hb : b < 6) : pm_up (pg_put h 0 Y) 5 0 1 (42 + b) (nI v) = pg_put h 0 (lu Y 8 b v) := by
  have := pu8 (h := h) (pg := 0) (Y := Y) (v := v) hb
  simpa using this
theorem ou8 {h : pm_H} {Y : LD} {b v : Nat} (hb : b < 6) : pm_up (pg_put h 245 Y) 5 0 1 (287 + b) (nI v) = pg_put h 245 (lu Y 8 b v) := pu8 (h := h) (pg := 245) (Y := Y) (v := v) hb
theorem tu8 {h : pm_H} {Y : LD} {b v : Nat} (hb : b < 6) : pm_up (pg_put h 196 Y) 5 0 1 (238 + b) (nI v) = pg_put h 196 (lu Y 8 b v) := pu8 (h := h) (pg := 196) (Y := Y) (v := v) hb
theorem tp8 {h : pm_H} {Y : LD} {b : Nat} (hb : b < 6) : pg_put h 196 Y 5 0 1 (238 + b) = nI (Y 8 b) := pr8 (h := h) (pg := 196) (Y := Y) hb
theorem zrN {h : pm_H} {Y : LD} (hP : pg_at h 0 Y) : h 5 0 1 32 = nI (Y 0 3) := by
  have := qrN hP
  simpa using this
theorem zpN {h : pm_H} {Y : LD} : pg_put h 0 Y 5 0 1 32 = nI (Y 0 3) := zrN (pg_put_at h 0 Y)
theorem zuN {h : pm_H} {Y : LD} {v : Nat} : pm_up (pg_put h 0 Y) 5 0 1 32 (nI v) = pg_put h 0 (lu Y 0 3 v) := by
  have := puN (h := h) (pg := 0) (Y := Y) (v := v)
  simpa using this
theorem ouN {h : pm_H} {Y : LD} {v : Nat} : pm_up (pg_put h 245 Y) 5 0 1 277 (nI v) = pg_put h 245 (lu Y 0 3 v) := puN (h := h) (pg := 245) (Y := Y) (v := v)
theorem zrD {h : pm_H} {Y : LD} (hP : pg_at h 0 Y) : h 5 0 1 33 = nI (Y 0 8) - nI 2 := by
  have := qrD hP
  simpa using this
theorem zpD {h : pm_H} {Y : LD} : pg_put h 0 Y 5 0 1 33 = nI (Y 0 8) - nI 2 := zrD (pg_put_at h 0 Y)
theorem zuD {h : pm_H} {Y : LD} {v : Nat} : pm_up (pg_put h 0 Y) 5 0 1 33 (nI v - nI 2) = pg_put h 0 (lu Y 0 8 v) := by
  have := puD (h := h) (pg := 0) (Y := Y) (v := v)
  simpa using this
theorem ouD {h : pm_H} {Y : LD} {v : Nat} : pm_up (pg_put h 245 Y) 5 0 1 278 (nI v - nI 2) = pg_put h 245 (lu Y 0 8 v) := puD (h := h) (pg := 245) (Y := Y) (v := v)
theorem zrB {h : pm_H} {Y : LD} (hP : pg_at h 0 Y) : h 5 0 1 34 = nI (Y 0 9) - nI 5 := by
  have := qrB hP
  simpa using this
theorem zpB {h : pm_H} {Y : LD} : pg_put h 0 Y 5 0 1 34 = nI (Y 0 9) - nI 5 := zrB (pg_put_at h 0 Y)
theorem zuB {h : pm_H} {Y : LD} {v : Nat} : pm_up (pg_put h 0 Y) 5 0 1 34 (nI v - nI 5) = pg_put h 0 (lu Y 0 9 v) := by
  have := puB (h := h) (pg := 0) (Y := Y) (v := v)
  simpa using this
theorem ouB {h : pm_H} {Y : LD} {v : Nat} : pm_up (pg_put h 245 Y) 5 0 1 279 (nI v - nI 5) = pg_put h 245 (lu Y 0 9 v) := puB (h := h) (pg := 245) (Y := Y) (v := v)
theorem zrY {h : pm_H} {Y : LD} (hP : pg_at h 0 Y) : h 5 0 1 35 = nI (Y 0 10) := by
  have := qrY hP
  simpa using this
theorem zpY {h : pm_H} {Y : LD} : pg_put h 0 Y 5 0 1 35 = nI (Y 0 10) := zrY (pg_put_at h 0 Y)
theorem zuY {h : pm_H} {Y : LD} {v : Nat} : pm_up (pg_put h 0 Y) 5 0 1 35 (nI v) = pg_put h 0 (lu Y 0 10 v) := by
  have := puY (h := h) (pg := 0) (Y := Y) (v := v)
  simpa using this
theorem ouY {h : pm_H} {Y : LD} {v : Nat} : pm_up (pg_put h 245 Y) 5 0 1 280 (nI v) = pg_put h 245 (lu Y 0 10 v) := puY (h := h) (pg := 245) (Y := Y) (v := v)
theorem zrQ {h : pm_H} {Y : LD} (hP : pg_at h 0 Y) : h 5 0 1 48 = nI (Y 0 11) := by
  have := qrQ hP
  simpa using this
theorem zpQ {h : pm_H} {Y : LD} : pg_put h 0 Y 5 0 1 48 = nI (Y 0 11) := zrQ (pg_put_at h 0 Y)
theorem zuQ {h : pm_H} {Y : LD} {v : Nat} : pm_up (pg_put h 0 Y) 5 0 1 48 (nI v) = pg_put h 0 (lu Y 0 11 v) := by
  have := puQ (h := h) (pg := 0) (Y := Y) (v := v)
  simpa using this
theorem ouQ {h : pm_H} {Y : LD} {v : Nat} : pm_up (pg_put h 245 Y) 5 0 1 293 (nI v) = pg_put h 245 (lu Y 0 11 v) := puQ (h := h) (pg := 245) (Y := Y) (v := v)
theorem pgl {h : pm_H} {pg j : Nat} {Y : LD} (hj : j < pg) : pg_put h pg Y 5 0 1 j = h 5 0 1 j := pg_ne (by omega)
theorem pgg {h : pm_H} {pg j : Nat} {Y : LD} (hj : pg + 49 ≤ j) : pg_put h pg Y 5 0 1 j = h 5 0 1 j := pg_ne (by omega)
