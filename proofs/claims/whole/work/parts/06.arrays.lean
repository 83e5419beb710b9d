/-! THE PURE MACHINE: arrays, tables, switches, calls; a method's contract out of its table of steps. -/
def pm_atab : List (Nat × Nat × Nat) := [(1, 0, 4), (2, 0, 4), (3, 0, 6), (4, 0, 6), (5, 0, 6), (6, 0, 6), (7, 0, 6), (8, 0, 6), (17, 0, 40), (33, 0, 6), (34, 0, 6), (35, 0, 6), (36, 2, 6), (49, 1, 160), (50, 0, 3), (65, 3, 2), (66, 2, 2), (67, 4, 4), (68, 5, 8), (69, 0, 124), (81, 0, 294), (82, 0, 49), (83, 0, 160), (84, 0, 9), (85, 0, 37), (86, 0, 24), (87, 0, 496), (88, 2, 2), (89, 0, 4), (90, 0, 4), (91, 0, 160), (96, 0, 6)]
def pm_af : List (Nat × Nat × Nat) → Nat → Nat → (Nat → Prop) → Prop
  | [], _, _, _ => False
  | (q, kd, n) :: t, key, kind, k => bif Nat.beq q key && Nat.beq kd kind then k n else pm_af t key kind k
theorem pm_af_spec : ∀ {t : List (Nat × Nat × Nat)} {key kind : Nat} {k : Nat → Prop}, pm_af t key kind k → ∃ n, (key, kind, n) ∈ t ∧ k n
  | (q, kd, n) :: t, key, kind, k, h => by
    unfold pm_af at h
    cases hb : (Nat.beq q key && Nat.beq kd kind) with
    | true =>
      rw [hb] at h
      have h1 := Bool.and_eq_true_iff.mp hb
      have e1 := Nat.eq_of_beq_eq_true h1.1
      have e2 := Nat.eq_of_beq_eq_true h1.2
      subst e1; subst e2
      exact ⟨n, List.mem_cons_self, h⟩
    | false =>
      rw [hb] at h
      obtain ⟨u, h1, h2⟩ := pm_af_spec (t := t) h
      exact ⟨u, List.mem_cons_of_mem _ h1, h2⟩
theorem pm_atab_ok : ∀ x ∈ pm_atab, pm_ak (x.1 / 16) (x.1 % 16) = x.2.1 ∧ pm_an (x.1 / 16) (x.1 % 16) = x.2.2 ∧ x.1 / 16 < 7 ∧ (0 < x.1 % 16 ∨ x.1 / 16 = 6) := by decide +kernel
theorem pm_sub16 {c s : Nat} (hc : c < 7) (hs : s < pm_sub c) : s < 16 := by
  have h2 : ∀ c : Fin 7, pm_sub c.val ≤ 12 := by decide +kernel
  have h3 := h2 ⟨c, hc⟩
  have h4 : s < pm_sub c := hs
  have h5 : pm_sub c ≤ 12 := h3
  omega
theorem pm_af_at {c i s kind : Nat} {k : Nat → Prop} (h : pm_af pm_atab (16 * c + s) kind k) (o : pm_ok (.inr (.inr (c, i, s)))) (hc : c < 7) : (c, i, s) ∈ pm_cells ∧ (0 < s ∨ c = 6) ∧ pm_ak c s = kind ∧ k (pm_an c s) ∧ pm_an c s < 2 ^ 31 := by
  obtain ⟨n, h1, h2⟩ := pm_af_spec h
  have hi := pm_okin o hc
  have h3 := pm_in3 hi
  have h4 := pm_sub16 h3.1 h3.2.2
  obtain ⟨e1, e2, e3, e4⟩ := pm_atab_ok _ h1
  have e5 : (16 * c + s) / 16 = c := by omega
  have e6 : (16 * c + s) % 16 = s := by omega
  simp only [e5, e6] at e1 e2 e3 e4
  refine ⟨hi, e4, e1, ?_, pm_an_lt h3.1 h3.2.2⟩
  rw [e2]
  exact h2
theorem pm_ua_self (h : pm_H) (c i s : Nat) (f : Nat → Int32) : pm_ua h c i s f c i s = f := by
  funext j
  simp [pm_ua]
theorem pm_in_nI {k n : Nat} (h : k < n) (hn : n < 2 ^ 31) : vp_in (nI k) n := vp_in_nI h hn

def i_ia (nx : Nat) : pm_T := fun K z => match z with
  | (lv, .inl x :: .inr (.inr (c, i, s)) :: st, h) => bif Nat.blt c 7 then pm_af pm_atab (16 * c + s) 0 (fun n => ∃ k : Nat, x = nI k ∧ k < n ∧ K (some nx) (lv, .inl (h c i s k) :: st, h)) else False
  | _ => False
theorem sd_ia {own : String} {cc : ByteArray} {nL d rt pc nx : Nat} (hd : decode cc pc = .ok (.iaload, 1)) (hn : pc + 1 = nx) : pm_sd own cc nL d rt pc (i_ia nx) := by
  intro post p l e s m args below meth c9 D ad ta X K hK x h
  obtain ⟨lv, st, hh⟩ := x
  subst hn
  match st, h with
  | .inl x :: .inr (.inr (c, i, s0)) :: st, h =>
    intro o1 o2 H locs ls hP hD hS hl
    obtain ⟨h7, h⟩ := pm_bt (b := Nat.blt c 7) h
    have h7 : c < 7 := Nat.ble_eq.mp h7
    obtain ⟨hi, hs0, hak, ⟨k, rfl, hk, h⟩, hlt⟩ := pm_af_at h (pm_okh (pm_okt o2)) h7
    obtain ⟨q, hq⟩ := pm_pl hi
    have hw := pm_wd_at (ad := ad) (ta := ta) (h := hh) hq
    rw [pm_arr hs0 (by rw [hak]; decide), hak] at hw
    have h2 := pm_kks (hK _ _ h) o1 (pm_ok1 trivial (pm_okt (pm_okt o2))) H locs ls hP hD hS hl
    refine va_iald X.1 X.2.1 X.2.2.2.2.2.1 hP q 0 hw rfl (pm_in_nI hk hlt) hd ?_
    rw [nI_clamp (by omega)]
    exact h2
  | [], h => exact h.elim
  | [.inl _], h => exact h.elim
  | [.inr (.inl _)], h => exact h.elim
  | [.inr (.inr _)], h => exact h.elim
  | .inl _ :: .inl _ :: _, h => exact h.elim
  | .inl _ :: .inr (.inl _) :: _, h => exact h.elim
  | .inr (.inl _) :: _ :: _, h => exact h.elim
  | .inr (.inr _) :: _ :: _, h => exact h.elim
def i_ba (nx : Nat) : pm_T := fun K z => match z with
  | (lv, .inl x :: .inr (.inr (c, i, s)) :: st, h) => bif Nat.blt c 7 then pm_af pm_atab (16 * c + s) 1 (fun n => ∃ k : Nat, x = nI k ∧ k < n ∧ K (some nx) (lv, .inl (h c i s k) :: st, h)) else False
  | _ => False
theorem sd_ba {own : String} {cc : ByteArray} {nL d rt pc nx : Nat} (hd : decode cc pc = .ok (.baload, 1)) (hn : pc + 1 = nx) : pm_sd own cc nL d rt pc (i_ba nx) := by
  intro post p l e s m args below meth c9 D ad ta X K hK x h
  obtain ⟨lv, st, hh⟩ := x
  subst hn
  match st, h with
  | .inl x :: .inr (.inr (c, i, s0)) :: st, h =>
    intro o1 o2 H locs ls hP hD hS hl
    obtain ⟨h7, h⟩ := pm_bt (b := Nat.blt c 7) h
    have h7 : c < 7 := Nat.ble_eq.mp h7
    obtain ⟨hi, hs0, hak, ⟨k, rfl, hk, h⟩, hlt⟩ := pm_af_at h (pm_okh (pm_okt o2)) h7
    obtain ⟨q, hq⟩ := pm_pl hi
    have hw := pm_wd_at (ad := ad) (ta := ta) (h := hh) hq
    rw [pm_arr hs0 (by rw [hak]; decide), hak] at hw
    have h2 := pm_kks (hK _ _ h) o1 (pm_ok1 trivial (pm_okt (pm_okt o2))) H locs ls hP hD hS hl
    refine va_bald X.1 X.2.1 X.2.2.2.2.2.1 hP q 1 hw rfl (pm_in_nI hk hlt) hd ?_
    rw [nI_clamp (by omega)]
    exact h2
  | [], h => exact h.elim
  | [.inl _], h => exact h.elim
  | [.inr (.inl _)], h => exact h.elim
  | [.inr (.inr _)], h => exact h.elim
  | .inl _ :: .inl _ :: _, h => exact h.elim
  | .inl _ :: .inr (.inl _) :: _, h => exact h.elim
  | .inr (.inl _) :: _ :: _, h => exact h.elim
  | .inr (.inr _) :: _ :: _, h => exact h.elim
def i_za (nx : Nat) : pm_T := fun K z => match z with
  | (lv, .inl x :: .inr (.inr (c, i, s)) :: st, h) => bif Nat.blt c 7 then pm_af pm_atab (16 * c + s) 2 (fun n => ∃ k : Nat, x = nI k ∧ k < n ∧ K (some nx) (lv, .inl (h c i s k) :: st, h)) else False
  | _ => False
theorem sd_za {own : String} {cc : ByteArray} {nL d rt pc nx : Nat} (hd : decode cc pc = .ok (.baload, 1)) (hn : pc + 1 = nx) : pm_sd own cc nL d rt pc (i_za nx) := by
  intro post p l e s m args below meth c9 D ad ta X K hK x h
  obtain ⟨lv, st, hh⟩ := x
  subst hn
  match st, h with
  | .inl x :: .inr (.inr (c, i, s0)) :: st, h =>
    intro o1 o2 H locs ls hP hD hS hl
    obtain ⟨h7, h⟩ := pm_bt (b := Nat.blt c 7) h
    have h7 : c < 7 := Nat.ble_eq.mp h7
    obtain ⟨hi, hs0, hak, ⟨k, rfl, hk, h⟩, hlt⟩ := pm_af_at h (pm_okh (pm_okt o2)) h7
    obtain ⟨q, hq⟩ := pm_pl hi
    have hw := pm_wd_at (ad := ad) (ta := ta) (h := hh) hq
    rw [pm_arr hs0 (by rw [hak]; decide), hak] at hw
    have h2 := pm_kks (hK _ _ h) o1 (pm_ok1 trivial (pm_okt (pm_okt o2))) H locs ls hP hD hS hl
    refine va_zald X.1 X.2.1 X.2.2.2.2.2.1 hP q 2 hw rfl (pm_in_nI hk hlt) hd ?_
    rw [nI_clamp (by omega)]
    exact h2
  | [], h => exact h.elim
  | [.inl _], h => exact h.elim
  | [.inr (.inl _)], h => exact h.elim
  | [.inr (.inr _)], h => exact h.elim
  | .inl _ :: .inl _ :: _, h => exact h.elim
  | .inl _ :: .inr (.inl _) :: _, h => exact h.elim
  | .inr (.inl _) :: _ :: _, h => exact h.elim
  | .inr (.inr _) :: _ :: _, h => exact h.elim
def i_ias (nx : Nat) : pm_T := fun K z => match z with
  | (lv, .inl v :: .inl x :: .inr (.inr (c, i, s)) :: st, h) => bif Nat.blt c 7 then pm_af pm_atab (16 * c + s) 0 (fun n => ∃ k : Nat, x = nI k ∧ k < n ∧ K (some nx) (lv, st, pm_up h c i s k (v))) else False
  | _ => False
theorem sd_ias {own : String} {cc : ByteArray} {nL d rt pc nx : Nat} (hd : decode cc pc = .ok (.iastore, 1)) (hn : pc + 1 = nx) : pm_sd own cc nL d rt pc (i_ias nx) := by
  intro post p l e s m args below meth c9 D ad ta X K hK x h
  obtain ⟨lv, st, hh⟩ := x
  subst hn
  match st, h with
  | .inl v :: .inl x :: .inr (.inr (c, i, s0)) :: st, h =>
    intro o1 o2 H locs ls hP hD hS hl
    obtain ⟨h7, h⟩ := pm_bt (b := Nat.blt c 7) h
    have h7 : c < 7 := Nat.ble_eq.mp h7
    obtain ⟨hi, hs0, hak, ⟨k, rfl, hk, h⟩, hlt⟩ := pm_af_at h (pm_okh (pm_okt (pm_okt o2))) h7
    obtain ⟨q, hq⟩ := pm_pl hi
    have hw := pm_wd_at (ad := ad) (ta := ta) (h := hh) hq
    have hak3 : pm_ak c s0 < 3 := by rw [hak]; decide
    rw [pm_arr hs0 hak3, hak] at hw
    refine va_iast X.1 X.2.1 X.2.2.2.2.2.1 hP hD hS q 0 hw rfl (pm_in_nI hk hlt) hd (fun H1 locs1 hP1 hD1 hS1 => ?_)
    rw [nI_clamp (by omega)] at hP1 hD1
    have e1 : (pm_wd ad ta hh).set q (ad (c, i, s0), .inl (ta 0, pm_an c s0, .inl (upd (hh c i s0) k (v)))) = pm_wd ad ta (pm_up hh c i s0 k (v)) := by
      have e2 : pm_ce ad ta (pm_up hh c i s0 k (v)) (c, i, s0) = .inl (ta 0, pm_an c s0, .inl (upd (hh c i s0) k (v))) := by
        rw [pm_arr hs0 hak3, hak, pm_up_ua, pm_ua_self]
      rw [← e2]
      refine pm_wd_set hq (fun r' _ hne => ?_)
      rw [pm_up_ua]
      exact pm_ce_ua r' hne
    rw [e1] at hP1 hD1
    exact pm_kks (hK _ _ h) o1 (pm_okt (pm_okt (pm_okt o2))) H1 locs1 ls hP1 hD1 hS1 hl
  | [], h => exact h.elim
  | [.inl _], h => exact h.elim
  | [.inr (.inl _)], h => exact h.elim
  | [.inr (.inr _)], h => exact h.elim
  | .inr (.inl _) :: _ :: _, h => exact h.elim
  | .inr (.inr _) :: _ :: _, h => exact h.elim
  | .inl _ :: .inr (.inl _) :: _, h => exact h.elim
  | .inl _ :: .inr (.inr _) :: _, h => exact h.elim
  | [.inl _, .inl _], h => exact h.elim
  | .inl _ :: .inl _ :: .inl _ :: _, h => exact h.elim
  | .inl _ :: .inl _ :: .inr (.inl _) :: _, h => exact h.elim
def i_bas (nx : Nat) : pm_T := fun K z => match z with
  | (lv, .inl v :: .inl x :: .inr (.inr (c, i, s)) :: st, h) => bif Nat.blt c 7 then pm_af pm_atab (16 * c + s) 1 (fun n => ∃ k : Nat, x = nI k ∧ k < n ∧ K (some nx) (lv, st, pm_up h c i s k (v.toInt8.toInt32))) else False
  | _ => False
theorem sd_bas {own : String} {cc : ByteArray} {nL d rt pc nx : Nat} (hd : decode cc pc = .ok (.bastore, 1)) (hn : pc + 1 = nx) : pm_sd own cc nL d rt pc (i_bas nx) := by
  intro post p l e s m args below meth c9 D ad ta X K hK x h
  obtain ⟨lv, st, hh⟩ := x
  subst hn
  match st, h with
  | .inl v :: .inl x :: .inr (.inr (c, i, s0)) :: st, h =>
    intro o1 o2 H locs ls hP hD hS hl
    obtain ⟨h7, h⟩ := pm_bt (b := Nat.blt c 7) h
    have h7 : c < 7 := Nat.ble_eq.mp h7
    obtain ⟨hi, hs0, hak, ⟨k, rfl, hk, h⟩, hlt⟩ := pm_af_at h (pm_okh (pm_okt (pm_okt o2))) h7
    obtain ⟨q, hq⟩ := pm_pl hi
    have hw := pm_wd_at (ad := ad) (ta := ta) (h := hh) hq
    have hak3 : pm_ak c s0 < 3 := by rw [hak]; decide
    rw [pm_arr hs0 hak3, hak] at hw
    refine va_bast X.1 X.2.1 X.2.2.2.2.2.1 hP hD hS q 1 hw rfl (pm_in_nI hk hlt) hd (fun H1 locs1 hP1 hD1 hS1 => ?_)
    rw [nI_clamp (by omega)] at hP1 hD1
    rw [vp_nar_byte] at hP1 hD1
    have e1 : (pm_wd ad ta hh).set q (ad (c, i, s0), .inl (ta 1, pm_an c s0, .inl (upd (hh c i s0) k (v.toInt8.toInt32)))) = pm_wd ad ta (pm_up hh c i s0 k (v.toInt8.toInt32)) := by
      have e2 : pm_ce ad ta (pm_up hh c i s0 k (v.toInt8.toInt32)) (c, i, s0) = .inl (ta 1, pm_an c s0, .inl (upd (hh c i s0) k (v.toInt8.toInt32))) := by
        rw [pm_arr hs0 hak3, hak, pm_up_ua, pm_ua_self]
      rw [← e2]
      refine pm_wd_set hq (fun r' _ hne => ?_)
      rw [pm_up_ua]
      exact pm_ce_ua r' hne
    rw [e1] at hP1 hD1
    exact pm_kks (hK _ _ h) o1 (pm_okt (pm_okt (pm_okt o2))) H1 locs1 ls hP1 hD1 hS1 hl
  | [], h => exact h.elim
  | [.inl _], h => exact h.elim
  | [.inr (.inl _)], h => exact h.elim
  | [.inr (.inr _)], h => exact h.elim
  | .inr (.inl _) :: _ :: _, h => exact h.elim
  | .inr (.inr _) :: _ :: _, h => exact h.elim
  | .inl _ :: .inr (.inl _) :: _, h => exact h.elim
  | .inl _ :: .inr (.inr _) :: _, h => exact h.elim
  | [.inl _, .inl _], h => exact h.elim
  | .inl _ :: .inl _ :: .inl _ :: _, h => exact h.elim
  | .inl _ :: .inl _ :: .inr (.inl _) :: _, h => exact h.elim
def i_zas (nx : Nat) : pm_T := fun K z => match z with
  | (lv, .inl v :: .inl x :: .inr (.inr (c, i, s)) :: st, h) => bif Nat.blt c 7 then pm_af pm_atab (16 * c + s) 2 (fun n => (v = 0 ∨ v = 1) ∧ ∃ k : Nat, x = nI k ∧ k < n ∧ K (some nx) (lv, st, pm_up h c i s k (v))) else False
  | _ => False
theorem sd_zas {own : String} {cc : ByteArray} {nL d rt pc nx : Nat} (hd : decode cc pc = .ok (.bastore, 1)) (hn : pc + 1 = nx) : pm_sd own cc nL d rt pc (i_zas nx) := by
  intro post p l e s m args below meth c9 D ad ta X K hK x h
  obtain ⟨lv, st, hh⟩ := x
  subst hn
  match st, h with
  | .inl v :: .inl x :: .inr (.inr (c, i, s0)) :: st, h =>
    intro o1 o2 H locs ls hP hD hS hl
    obtain ⟨h7, h⟩ := pm_bt (b := Nat.blt c 7) h
    have h7 : c < 7 := Nat.ble_eq.mp h7
    obtain ⟨hi, hs0, hak, ⟨hv, k, rfl, hk, h⟩, hlt⟩ := pm_af_at h (pm_okh (pm_okt (pm_okt o2))) h7
    obtain ⟨q, hq⟩ := pm_pl hi
    have hw := pm_wd_at (ad := ad) (ta := ta) (h := hh) hq
    have hak3 : pm_ak c s0 < 3 := by rw [hak]; decide
    rw [pm_arr hs0 hak3, hak] at hw
    refine va_zast X.1 X.2.1 X.2.2.2.2.2.1 hP hD hS q 2 hw rfl (pm_in_nI hk hlt) hd (fun H1 locs1 hP1 hD1 hS1 => ?_)
    rw [nI_clamp (by omega)] at hP1 hD1
    rw [show vp_nar .boolean v = v by rcases hv with rfl | rfl <;> decide +kernel] at hP1 hD1
    have e1 : (pm_wd ad ta hh).set q (ad (c, i, s0), .inl (ta 2, pm_an c s0, .inl (upd (hh c i s0) k (v)))) = pm_wd ad ta (pm_up hh c i s0 k (v)) := by
      have e2 : pm_ce ad ta (pm_up hh c i s0 k (v)) (c, i, s0) = .inl (ta 2, pm_an c s0, .inl (upd (hh c i s0) k (v))) := by
        rw [pm_arr hs0 hak3, hak, pm_up_ua, pm_ua_self]
      rw [← e2]
      refine pm_wd_set hq (fun r' _ hne => ?_)
      rw [pm_up_ua]
      exact pm_ce_ua r' hne
    rw [e1] at hP1 hD1
    exact pm_kks (hK _ _ h) o1 (pm_okt (pm_okt (pm_okt o2))) H1 locs1 ls hP1 hD1 hS1 hl
  | [], h => exact h.elim
  | [.inl _], h => exact h.elim
  | [.inr (.inl _)], h => exact h.elim
  | [.inr (.inr _)], h => exact h.elim
  | .inr (.inl _) :: _ :: _, h => exact h.elim
  | .inr (.inr _) :: _ :: _, h => exact h.elim
  | .inl _ :: .inr (.inl _) :: _, h => exact h.elim
  | .inl _ :: .inr (.inr _) :: _, h => exact h.elim
  | [.inl _, .inl _], h => exact h.elim
  | .inl _ :: .inl _ :: .inl _ :: _, h => exact h.elim
  | .inl _ :: .inl _ :: .inr (.inl _) :: _, h => exact h.elim
/-- what an array of references holds -/
def i_aa (kind : Nat) (t : Nat → pm_R) (nx : Nat) : pm_T := fun K z => match z with
  | (lv, .inl x :: .inr (.inr (c, i, s)) :: st, h) => bif Nat.blt c 7 then pm_af pm_atab (16 * c + s) kind (fun n => ∃ k : Nat, x = nI k ∧ k < n ∧ K (some nx) (lv, .inr (.inr (t k)) :: st, h)) else False
  | _ => False
def pm_rty (kind : Nat) : FieldType := if kind = 3 then .object RX0 else if kind = 4 then .object RX1 else .array .int
theorem pm_el_ok {c s k : Nat} (hc : c < 7) (hs : s < pm_sub c) (hk : k < pm_an c s) (h3 : ¬ pm_ak c s < 3) : pm_el (pm_ak c s) k ∈ pm_cells := by
  have h : ∀ c : Fin 7, ∀ s : Fin 12, ¬ pm_ak c.val s.val < 3 → ∀ k : Fin 8, pm_an c.val s.val ≤ 8 ∧ (k.val < pm_an c.val s.val → pm_el (pm_ak c.val s.val) k.val ∈ pm_cells) := by decide +kernel
  have h2 : ∀ c : Fin 7, pm_sub c.val ≤ 12 := by decide +kernel
  have h4 := h2 ⟨c, hc⟩
  have hs2 : s < 12 := Nat.lt_of_lt_of_le hs h4
  have h5 := (h ⟨c, hc⟩ ⟨s, hs2⟩ h3 0).1
  exact (h ⟨c, hc⟩ ⟨s, hs2⟩ h3 ⟨k, Nat.lt_of_lt_of_le hk h5⟩).2 hk
theorem sd_aa {own : String} {cc : ByteArray} {nL d rt pc nx kind : Nat} {t : Nat → pm_R} (hk3 : kind = 3 ∨ kind = 4 ∨ kind = 5) (ht : ∀ k, pm_el kind k = t k) (hd : decode cc pc = .ok (.aaload, 1)) (hn : pc + 1 = nx) : pm_sd own cc nL d rt pc (i_aa kind t nx) := by
  intro post p l e s m args below meth c9 D ad ta X K hK x h
  obtain ⟨lv, st, hh⟩ := x
  subst hn
  match st, h with
  | .inl x :: .inr (.inr (c, i, s0)) :: st, h =>
    intro o1 o2 H locs ls hP hD hS hl
    obtain ⟨h7, h⟩ := pm_bt (b := Nat.blt c 7) h
    have h7 : c < 7 := Nat.ble_eq.mp h7
    obtain ⟨hi, hs0, hak, ⟨k, rfl, hk, h⟩, hlt⟩ := pm_af_at h (pm_okh (pm_okt o2)) h7
    obtain ⟨q, hq⟩ := pm_pl hi
    have hw := pm_wd_at (ad := ad) (ta := ta) (h := hh) hq
    have hk9 : ¬ pm_ak c s0 < 3 := by rw [hak]; omega
    rw [pm_rar hs0 hk9] at hw
    have hin3 := pm_in3 hi
    have hel := pm_el_ok h7 hin3.2.2 hk hk9
    rw [hak] at hel
    rw [ht k] at hel
    have h2 := pm_kks (hK _ _ h) o1 (pm_ok1 (Or.inl hel) (pm_okt (pm_okt o2))) H locs ls hP hD hS hl
    have hty : (pm_tys ta)[kind]? = some (ta (pm_ak c s0), pm_rty kind) := by
      rw [hak]
      rcases hk3 with rfl | rfl | rfl <;> rfl
    have harr := (X.2.2.2.2.2.1.2 kind _ hty).1 (pm_an c s0) (fun j => va_rf (if j < pm_an c s0 then some (ad (pm_el (pm_ak c s0) j)) else none))
    refine W.aald (v := .ref (ad (t k))) (ty := pm_rty kind) X.1 X.2.1 (hP q _ hw) harr (by rcases hk3 with rfl | rfl | rfl <;> rfl) (fun q => by cases q) (by show ¬ (nI k < 0 ∨ (arrV _ _ _).slots.size ≤ _); rw [arrV_size]; exact pm_in_nI hk hlt) (by
      show (arrV _ _ _).slots[_]? = _
      rw [nI_clamp (by omega), arrV_read _ _ hk]
      simp only [hk, if_true, hak, ht]
      rfl) rfl rfl hd h2
  | [], h => exact h.elim
  | [.inl _], h => exact h.elim
  | [.inr (.inl _)], h => exact h.elim
  | [.inr (.inr _)], h => exact h.elim
  | .inl _ :: .inl _ :: _, h => exact h.elim
  | .inl _ :: .inr (.inl _) :: _, h => exact h.elim
  | .inr (.inl _) :: _ :: _, h => exact h.elim
  | .inr (.inr _) :: _ :: _, h => exact h.elim
def i_len (nx : Nat) : pm_T := fun K z => match z with
  | (lv, .inr (.inr (c, i, s)) :: st, h) => bif Nat.blt c 7 then pm_af pm_atab (16 * c + s) 0 (fun n => K (some nx) (lv, .inl (nI n) :: st, h)) else False
  | _ => False
theorem sd_len {own : String} {cc : ByteArray} {nL d rt pc nx : Nat} (hd : decode cc pc = .ok (.arraylength, 1)) (hn : pc + 1 = nx) : pm_sd own cc nL d rt pc (i_len nx) := by
  intro post p l e s m args below meth c9 D ad ta X K hK x h
  obtain ⟨lv, st, hh⟩ := x
  subst hn
  match st, h with
  | .inr (.inr (c, i, s0)) :: st, h =>
    intro o1 o2 H locs ls hP hD hS hl
    obtain ⟨h7, h⟩ := pm_bt (b := Nat.blt c 7) h
    have h7 : c < 7 := Nat.ble_eq.mp h7
    obtain ⟨hi, hs0, hak, h, hlt⟩ := pm_af_at h (pm_okh o2) h7
    obtain ⟨q, hq⟩ := pm_pl hi
    have hw := pm_wd_at (ad := ad) (ta := ta) (h := hh) hq
    rw [pm_arr hs0 (by rw [hak]; decide), hak] at hw
    have h2 := pm_kks (hK _ _ h) o1 (pm_ok1 trivial (pm_okt o2)) H locs ls hP hD hS hl
    exact va_alen X.1 X.2.1 X.2.2.2.2.2.1 hP q 0 hw rfl rfl hd h2
  | [], h => exact h.elim
  | .inl _ :: _, h => exact h.elim
  | .inr (.inl _) :: _, h => exact h.elim
def i_stn (nx : Nat) : pm_T := fun K z => match z with
  | (lv, st, h) => K (some nx) (lv, .inr (.inr (7, 0, 0)) :: st, h)
theorem sd_stn {own : String} {cc : ByteArray} {nL d rt pc nx idx : Nat} (hk : Cond.fieldLink own idx RX3 "NUMBERS" "[I" ∈ pm_tbl) (hd : decode cc pc = .ok (.getstatic idx, 3)) (hn : pc + 3 = nx) : pm_sd own cc nL d rt pc (i_stn nx) := by
  intro post p l e s m args below meth c9 D ad ta X K hK x h
  obtain ⟨lv, st, hh⟩ := x
  subst hn
  intro o1 o2 H locs ls hP hD hS hl
  exact va_gets X.1 X.2.1 X.2.2.2.2.2.2.1.1 hS X.2.2.2.1 (X.2.2.2.2.1 _ hk) (fun _ h9 => h9) hd (pm_kks (hK _ _ h) o1 (pm_ok1 (Or.inr (Nat.le_refl 7)) o2) H locs ls hP hD hS hl)
def i_tn (nx : Nat) : pm_T := fun K z => match z with
  | (lv, .inl x :: .inr (.inr (c, i, s)) :: st, h) => bif Nat.beq c 7 && Nat.beq i 0 && Nat.beq s 0 then ∃ k : Nat, x = nI k ∧ k < 8 ∧ K (some nx) (lv, .inl (pm_num k) :: st, h) else False
  | _ => False
theorem sd_tn {own : String} {cc : ByteArray} {nL d rt pc nx : Nat} (hd : decode cc pc = .ok (.iaload, 1)) (hn : pc + 1 = nx) : pm_sd own cc nL d rt pc (i_tn nx) := by
  intro post p l e s m args below meth c9 D ad ta X K hK x h
  obtain ⟨lv, st, hh⟩ := x
  subst hn
  match st, h with
  | .inl x :: .inr (.inr (c, i, s0)) :: st, h =>
    intro o1 o2 H locs ls hP hD hS hl
    obtain ⟨hb, k, rfl, hk, h9⟩ := pm_bt (b := Nat.beq c 7 && Nat.beq i 0 && Nat.beq s0 0) h
    have h3 := Bool.and_eq_true_iff.mp hb
    have h4 := Bool.and_eq_true_iff.mp h3.1
    have e1 := Nat.eq_of_beq_eq_true h4.1
    have e2 := Nat.eq_of_beq_eq_true h4.2
    have e3 := Nat.eq_of_beq_eq_true h3.2
    subst e1; subst e2; subst e3
    have o3 : ∀ v ∈ st, pm_ok v := fun v hv => o2 v (List.mem_cons_of_mem _ (List.mem_cons_of_mem _ hv))
    have h2 := pm_kks (hK _ _ h9) o1 (pm_ok1 trivial o3) H locs ls hP hD hS hl
    exact va_ti X.1 X.2.1 X.2.2.2.2.2.2.1.2.1 hS (pm_in_nI hk (by decide)) (by rw [nI_clamp (by omega)]; rfl) hd h2
  | [], h => exact h.elim
  | [.inl _], h => exact h.elim
  | [.inr (.inl _)], h => exact h.elim
  | [.inr (.inr _)], h => exact h.elim
  | .inl _ :: .inl _ :: _, h => exact h.elim
  | .inl _ :: .inr (.inl _) :: _, h => exact h.elim
  | .inr (.inl _) :: _ :: _, h => exact h.elim
  | .inr (.inr _) :: _ :: _, h => exact h.elim
def i_stb (nx : Nat) : pm_T := fun K z => match z with
  | (lv, st, h) => K (some nx) (lv, .inr (.inr (7, 1, 0)) :: st, h)
theorem sd_stb {own : String} {cc : ByteArray} {nL d rt pc nx idx : Nat} (hk : Cond.fieldLink own idx RX3 "BOUNDS" "[I" ∈ pm_tbl) (hd : decode cc pc = .ok (.getstatic idx, 3)) (hn : pc + 3 = nx) : pm_sd own cc nL d rt pc (i_stb nx) := by
  intro post p l e s m args below meth c9 D ad ta X K hK x h
  obtain ⟨lv, st, hh⟩ := x
  subst hn
  intro o1 o2 H locs ls hP hD hS hl
  exact va_gets X.1 X.2.1 X.2.2.2.2.2.2.1.2.2.1 hS X.2.2.2.1 (X.2.2.2.2.1 _ hk) (fun _ h9 => h9) hd (pm_kks (hK _ _ h) o1 (pm_ok1 (Or.inr (Nat.le_refl 7)) o2) H locs ls hP hD hS hl)
def i_tb (nx : Nat) : pm_T := fun K z => match z with
  | (lv, .inl x :: .inr (.inr (c, i, s)) :: st, h) => bif Nat.beq c 7 && Nat.beq i 1 && Nat.beq s 0 then ∃ k : Nat, x = nI k ∧ k < 24 ∧ K (some nx) (lv, .inl (pm_bnd k) :: st, h) else False
  | _ => False
theorem sd_tb {own : String} {cc : ByteArray} {nL d rt pc nx : Nat} (hd : decode cc pc = .ok (.iaload, 1)) (hn : pc + 1 = nx) : pm_sd own cc nL d rt pc (i_tb nx) := by
  intro post p l e s m args below meth c9 D ad ta X K hK x h
  obtain ⟨lv, st, hh⟩ := x
  subst hn
  match st, h with
  | .inl x :: .inr (.inr (c, i, s0)) :: st, h =>
    intro o1 o2 H locs ls hP hD hS hl
    obtain ⟨hb, k, rfl, hk, h9⟩ := pm_bt (b := Nat.beq c 7 && Nat.beq i 1 && Nat.beq s0 0) h
    have h3 := Bool.and_eq_true_iff.mp hb
    have h4 := Bool.and_eq_true_iff.mp h3.1
    have e1 := Nat.eq_of_beq_eq_true h4.1
    have e2 := Nat.eq_of_beq_eq_true h4.2
    have e3 := Nat.eq_of_beq_eq_true h3.2
    subst e1; subst e2; subst e3
    have o3 : ∀ v ∈ st, pm_ok v := fun v hv => o2 v (List.mem_cons_of_mem _ (List.mem_cons_of_mem _ hv))
    have h2 := pm_kks (hK _ _ h9) o1 (pm_ok1 trivial o3) H locs ls hP hD hS hl
    exact va_ti X.1 X.2.1 X.2.2.2.2.2.2.1.2.2.2.1 hS (pm_in_nI hk (by decide)) (by rw [nI_clamp (by omega)]; rfl) hd h2
  | [], h => exact h.elim
  | [.inl _], h => exact h.elim
  | [.inr (.inl _)], h => exact h.elim
  | [.inr (.inr _)], h => exact h.elim
  | .inl _ :: .inl _ :: _, h => exact h.elim
  | .inl _ :: .inr (.inl _) :: _, h => exact h.elim
  | .inr (.inl _) :: _ :: _, h => exact h.elim
  | .inr (.inr _) :: _ :: _, h => exact h.elim
def i_mmin (nx : Nat) : pm_T := fun K z => match z with
  | (lv, .inl y :: .inl x :: st, h) => bif Nat.ble (pm_cs st) 8 then K (some nx) (lv, .inl (if y < x then y else x) :: st, h) else False
  | _ => False
def i_mmax (nx : Nat) : pm_T := fun K z => match z with
  | (lv, .inl y :: .inl x :: st, h) => bif Nat.ble (pm_cs st) 8 then K (some nx) (lv, .inl (if x < y then y else x) :: st, h) else False
  | _ => False
theorem sd_mmin {own : String} {cc : ByteArray} {nL d rt pc nx idx : Nat} (hk : Cond.methodLink own idx Lib.Math.min.name ∈ pm_tbl) (hks : Cond.static Lib.Math.min.name ∈ pm_tbl) (hki : Cond.initialized "java/lang/Math" ∈ pm_tbl) (hkc : Cond.code Lib.Math.min.name Lib.Math.min.code 2 (some .int) ∈ pm_tbl) (h1 : 1 ≤ d) (hd : decode cc pc = .ok (.invokestatic idx, 3)) (hn : pc + 3 = nx) : pm_sd own cc nL d rt pc (i_mmin nx) := by
  intro post p l e s m args below meth c9 D ad ta X K hK x h
  obtain ⟨lv, st, hh⟩ := x
  subst hn
  match st, h with
  | .inl y :: .inl x :: st, h =>
    intro o1 o2 H locs ls hP hD hS hl
    obtain ⟨hb, h⟩ := pm_bt (b := Nat.ble (pm_cs st) 8) h
    have hcs : pm_cs st ≤ 8 := Nat.ble_eq.mp hb
    have h2 := pm_kks (hK _ _ h) o1 (pm_ok1 trivial (pm_okt (pm_okt o2))) H locs ls hP hD hS hl
    exact va_mmin X.1 X.2.1 (X.2.2.1.trans hl.1.symm) X.2.2.2.1 (X.2.2.2.2.1 _ hk) (X.2.2.2.2.1 _ hks) (X.2.2.2.2.1 _ hki) (X.2.2.2.2.1 _ hkc) h1 (by rw [pm_cs_rv]; show _ ≤ 64 * d; omega) (Nat.zero_le _) (Nat.zero_le _) hd h2
  | [], h => exact h.elim
  | [.inl _], h => exact h.elim
  | [.inr (.inl _)], h => exact h.elim
  | [.inr (.inr _)], h => exact h.elim
  | .inl _ :: .inr (.inl _) :: _, h => exact h.elim
  | .inl _ :: .inr (.inr _) :: _, h => exact h.elim
  | .inr (.inl _) :: _ :: _, h => exact h.elim
  | .inr (.inr _) :: _ :: _, h => exact h.elim
theorem sd_mmax {own : String} {cc : ByteArray} {nL d rt pc nx idx : Nat} (hk : Cond.methodLink own idx Lib.Math.max.name ∈ pm_tbl) (hks : Cond.static Lib.Math.max.name ∈ pm_tbl) (hki : Cond.initialized "java/lang/Math" ∈ pm_tbl) (hkc : Cond.code Lib.Math.max.name Lib.Math.max.code 2 (some .int) ∈ pm_tbl) (h1 : 1 ≤ d) (hd : decode cc pc = .ok (.invokestatic idx, 3)) (hn : pc + 3 = nx) : pm_sd own cc nL d rt pc (i_mmax nx) := by
  intro post p l e s m args below meth c9 D ad ta X K hK x h
  obtain ⟨lv, st, hh⟩ := x
  subst hn
  match st, h with
  | .inl y :: .inl x :: st, h =>
    intro o1 o2 H locs ls hP hD hS hl
    obtain ⟨hb, h⟩ := pm_bt (b := Nat.ble (pm_cs st) 8) h
    have hcs : pm_cs st ≤ 8 := Nat.ble_eq.mp hb
    have h2 := pm_kks (hK _ _ h) o1 (pm_ok1 trivial (pm_okt (pm_okt o2))) H locs ls hP hD hS hl
    exact va_mmax X.1 X.2.1 (X.2.2.1.trans hl.1.symm) X.2.2.2.1 (X.2.2.2.2.1 _ hk) (X.2.2.2.2.1 _ hks) (X.2.2.2.2.1 _ hki) (X.2.2.2.2.1 _ hkc) h1 (by rw [pm_cs_rv]; show _ ≤ 64 * d; omega) (Nat.zero_le _) (Nat.zero_le _) hd h2
  | [], h => exact h.elim
  | [.inl _], h => exact h.elim
  | [.inr (.inl _)], h => exact h.elim
  | [.inr (.inr _)], h => exact h.elim
  | .inl _ :: .inr (.inl _) :: _, h => exact h.elim
  | .inl _ :: .inr (.inr _) :: _, h => exact h.elim
  | .inr (.inl _) :: _ :: _, h => exact h.elim
  | .inr (.inr _) :: _ :: _, h => exact h.elim
/-- System.arraycopy of the first n numbers -/
def pm_cp (f g : Nat → Int32) (n : Nat) : Nat → Int32 := fun j => if j < n then f j else g j
def i_cp (nx : Nat) : pm_T := fun K z => match z with
  | (lv, .inl n :: .inl dp :: .inr (.inr (c1, i1, s1)) :: .inl sp :: .inr (.inr (c0, i0, s0)) :: st, h) => bif Nat.ble (pm_cs st) 8 && Nat.blt c0 7 && Nat.blt c1 7 then pm_af pm_atab (16 * c0 + s0) 0 (fun n0 => pm_af pm_atab (16 * c1 + s1) 0 (fun n1 => ∃ k : Nat, n = nI k ∧ sp = 0 ∧ dp = 0 ∧ k ≤ n0 ∧ k ≤ n1 ∧ K (some nx) (lv, st, pm_ua h c1 i1 s1 (pm_cp (h c0 i0 s0) (h c1 i1 s1) k)))) else False
  | _ => False
theorem pm_cpy0 (f g : Nat → Int32) (n : Nat) : va_cpy f g 0 0 n = pm_cp f g n := by
  funext j
  unfold va_cpy pm_cp
  by_cases h : j < n
  · rw [if_pos ⟨Nat.zero_le _, by omega⟩, if_pos h]
    congr 1
    omega
  · rw [if_neg (by omega), if_neg h]
theorem sd_cp {own : String} {cc : ByteArray} {nL d rt pc nx idx : Nat} (hk : Cond.methodLink own idx arraycopyName ∈ pm_tbl) (hkn : Cond.native arraycopyName ∈ pm_tbl) (hks : Cond.static arraycopyName ∈ pm_tbl) (hki : Cond.initialized "java/lang/System" ∈ pm_tbl) (h1 : 1 ≤ d) (hd : decode cc pc = .ok (.invokestatic idx, 3)) (hn : pc + 3 = nx) : pm_sd own cc nL d rt pc (i_cp nx) := by
  intro post p l e s m args below meth c9 D ad ta X K hK x h
  obtain ⟨lv, st, hh⟩ := x
  subst hn
  unfold i_cp at h
  split at h
  case h_2 => exact h.elim
  case h_1 lv9 n dp c1 i1 s1 sp c0 i0 s0 st9 hx9 he =>
    simp only [Prod.mk.injEq] at he
    obtain ⟨rfl, rfl, rfl⟩ := he
    intro o1 o2 H locs ls hP hD hS hl
    obtain ⟨hb, h⟩ := pm_bt h
    have h3 := Bool.and_eq_true_iff.mp hb
    have h4 := Bool.and_eq_true_iff.mp h3.1
    have hcs : pm_cs st9 ≤ 8 := Nat.ble_eq.mp h4.1
    have hc0 : c0 < 7 := Nat.ble_eq.mp h4.2
    have hc1 : c1 < 7 := Nat.ble_eq.mp h3.2
    obtain ⟨hi0, hs0, hak0, h, hlt0⟩ := pm_af_at h (pm_okh (pm_okt (pm_okt (pm_okt (pm_okt o2))))) hc0
    obtain ⟨hi1, hs1, hak1, ⟨k, rfl, rfl, rfl, hk0, hk1, h⟩, hlt1⟩ := pm_af_at h (pm_okh (pm_okt (pm_okt o2))) hc1
    obtain ⟨q0, hq0⟩ := pm_pl hi0
    obtain ⟨q1, hq1⟩ := pm_pl hi1
    have hw0 := pm_wd_at (ad := ad) (ta := ta) (h := hh) hq0
    have hw1 := pm_wd_at (ad := ad) (ta := ta) (h := hh) hq1
    have hak03 : pm_ak c0 s0 < 3 := by rw [hak0]; decide
    have hak13 : pm_ak c1 s1 < 3 := by rw [hak1]; decide
    rw [pm_arr hs0 hak03, hak0] at hw0
    rw [pm_arr hs1 hak13, hak1] at hw1
    have e0 : (0 : Int32).toNatClampNeg = 0 := by decide +kernel
    refine va_copyi (ty := .int) X.1 X.2.1 (X.2.2.1.trans hl.1.symm) X.2.2.2.1 (X.2.2.2.2.1 _ hk) (X.2.2.2.2.1 _ hkn) (X.2.2.2.2.1 _ hks) (X.2.2.2.2.1 _ hki) X.2.2.2.2.2.1 hP hD hS q0 q1 0 0 hw0 hw1 rfl rfl rfl (by decide +kernel) (by decide +kernel) (nI_pos (by omega)) (by rw [e0, nI_clamp (by omega)]; omega) (by rw [e0, nI_clamp (by omega)]; omega) (fun _ _ => rfl) h1 ?_ hd (fun H1 locs1 hP1 hD1 hS1 => ?_)
    · rw [pm_cs_rv]
      have : nativeFrameWords "java/lang/System" "arraycopy" 5 + 11 ≤ 56 := by decide +kernel
      show _ ≤ 64 * d
      omega
    · rw [e0, nI_clamp (by omega), pm_cpy0] at hP1 hD1
      have e1 : (pm_wd ad ta hh).set q1 (ad (c1, i1, s1), .inl (ta 0, pm_an c1 s1, .inl (pm_cp (hh c0 i0 s0) (hh c1 i1 s1) k))) = pm_wd ad ta (pm_ua hh c1 i1 s1 (pm_cp (hh c0 i0 s0) (hh c1 i1 s1) k)) := by
        have e2 : pm_ce ad ta (pm_ua hh c1 i1 s1 (pm_cp (hh c0 i0 s0) (hh c1 i1 s1) k)) (c1, i1, s1) = .inl (ta 0, pm_an c1 s1, .inl (pm_cp (hh c0 i0 s0) (hh c1 i1 s1) k)) := by
          rw [pm_arr hs1 hak13, hak1, pm_ua_self]
        rw [← e2]
        exact pm_wd_set hq1 (fun r' _ hne => pm_ce_ua r' hne)
      rw [e1] at hP1 hD1
      exact pm_kks (hK _ _ h) o1 (pm_okt (pm_okt (pm_okt (pm_okt (pm_okt o2))))) H1 locs1 ls hP1 hD1 hS1 hl
def pm_sw (x : Int32) (k : Nat → Prop) : Nat → List Nat → Nat → Prop
  | _, [], d => k d
  | j, t :: ts, d => (x = nI j → k t) ∧ (¬ x = nI j → pm_sw x k (j + 1) ts d)
def i_sw (lo : Nat) (ts : List Nat) (df : Nat) : pm_T := fun K z => match z with
  | (lv, .inl x :: st, h) => pm_sw x (fun t => K (some t) (lv, st, h)) lo ts df
  | _ => False
theorem pm_sw_in {x : Int32} {k : Nat → Prop} : ∀ {ts : List Nat} {lo df j t : Nat}, pm_sw x k lo ts df → x = nI (lo + j) → lo + ts.length < 2 ^ 31 → ts[j]? = some t → k t
  | [], lo, df, j, t, _, _, _, hj => by simp at hj
  | t0 :: ts, lo, df, 0, t, h, hx, _, hj => by
    cases hj
    exact h.1 hx
  | t0 :: ts, lo, df, j + 1, t, h, hx, hb, hj => by
    have hlt : j < ts.length := Nat.lt_of_succ_lt_succ (List.getElem?_eq_some_iff.mp hj).1
    simp only [List.length_cons] at hb
    refine pm_sw_in (ts := ts) (h.2 ?_) (by rw [hx]; congr 1; omega) (by omega) hj
    rw [hx, nI_eq (by omega) (by omega)]
    omega
theorem pm_sw_out {x : Int32} {k : Nat → Prop} : ∀ {ts : List Nat} {lo df : Nat}, pm_sw x k lo ts df → (∀ j, j < ts.length → ¬ x = nI (lo + j)) → k df
  | [], lo, df, h, _ => h
  | t0 :: ts, lo, df, h, hx => pm_sw_out (ts := ts) (h.2 (hx 0 (by simp))) (fun j hj => by
      have := hx (j + 1) (by simp; omega)
      rwa [show lo + (j + 1) = lo + 1 + j by omega] at this)
theorem sd_sw {own : String} {cc : ByteArray} {nL d rt pc lo df len : Nat} {ts : List Nat} {dflt lo' hi : Int} {offs : Array Int} (hd : decode cc pc = .ok (.tableswitch dflt lo' hi offs, len)) (hlo : lo' = (lo : Int)) (hhi : hi = ((lo + ts.length : Nat) : Int) - 1) (hb : lo + ts.length < 1000) (ho : offs.toList = ts.map (fun t : Nat => (t : Int) - (pc : Int))) (hdf : (pc : Int) + dflt = (df : Int)) : pm_sd own cc nL d rt pc (i_sw lo ts df) := by
  intro post p l e s m args below meth c9 D ad ta X K hK x h
  obtain ⟨lv, st, hh⟩ := x
  match st, h with
  | .inl x :: st, h =>
    intro o1 o2 H locs ls hP hD hS hl
    by_cases hx : x.toInt < lo' ∨ hi < x.toInt
    · refine lv_tableOut X.1 X.2.1 hd hx hdf (pm_kks (hK _ _ (pm_sw_out h (fun j hj e9 => ?_))) o1 (pm_okt o2) H locs ls hP hD hS hl)
      rw [e9, nI_toInt (by omega)] at hx
      omega
    · have h1 : ¬ x.toInt < lo' := fun q => hx (Or.inl q)
      have h2 : ¬ hi < x.toInt := fun q => hx (Or.inr q)
      obtain ⟨j, hj⟩ : ∃ j : Nat, x.toInt = ((lo + j : Nat) : Int) := ⟨(x.toInt - lo).toNat, by omega⟩
      have hjl : j < ts.length := by omega
      have hxe : x = nI (lo + j) := by
        rw [← Int32.toInt_inj, nI_toInt (by omega)]
        exact hj
      obtain ⟨t, ht⟩ : ∃ t, ts[j]? = some t := ⟨ts[j], List.getElem?_eq_getElem hjl⟩
      refine lv_tableIn (off := (t : Int) - pc) (tgt := t) X.1 X.2.1 hd h1 h2 ?_ (by omega) (pm_kks (hK _ _ (pm_sw_in h hxe (by omega) ht)) o1 (pm_okt o2) H locs ls hP hD hS hl)
      rw [← Array.getElem?_toList, ho, List.getElem?_map, show (x.toInt - lo').toNat = j by omega, ht]
      rfl
  | [], h => exact h.elim
  | .inr (.inl _) :: _, h => exact h.elim
  | .inr (.inr _) :: _, h => exact h.elim
