/-! THE PURE MACHINE, its heap. -/
section PMO
variable {D : va_G} {ad : pm_R → Nat} {ta : Nat → ClassId} {h : pm_H}
theorem pm_obj {c i : Nat} (hc : c < 6) : pm_ce ad ta h (c, i, 0) = .inr (c, (List.range (pm_nf c)).map (pm_fv ad h c i)) := by
  unfold pm_ce
  rw [if_pos ⟨rfl, hc⟩]
theorem pm_arr {c i s : Nat} (hs : 0 < s ∨ c = 6) (hk : pm_ak c s < 3) : pm_ce ad ta h (c, i, s) = .inl (ta (pm_ak c s), pm_an c s, .inl (h c i s)) := by
  unfold pm_ce
  have hn : ¬ ((c, i, s).2.2 = 0 ∧ (c, i, s).1 < 6) := by
    rintro ⟨h1, h2⟩
    have h1 : s = 0 := h1
    have h2 : c < 6 := h2
    omega
  rw [if_neg hn, if_pos hk]
theorem pm_rar {c i s : Nat} (hs : 0 < s ∨ c = 6) (hk : ¬ pm_ak c s < 3) : pm_ce ad ta h (c, i, s) = .inl (ta (pm_ak c s), pm_an c s, .inr (.inr (.inr (.inr (fun j => if j < pm_an c s then some (ad (pm_el (pm_ak c s) j)) else none))))) := by
  unfold pm_ce
  have hn : ¬ ((c, i, s).2.2 = 0 ∧ (c, i, s).1 < 6) := by
    rintro ⟨h1, h2⟩
    have h1 : s = 0 := h1
    have h2 : c < 6 := h2
    omega
  rw [if_neg hn, if_neg hk]
theorem pm_okin {r : pm_R} (o : pm_ok (.inr (.inr r))) (h7 : r.1 < 7) : r ∈ pm_cells := by
  rcases o with o | o
  · exact o
  · omega
theorem pm_pl {r : pm_R} (hr : r ∈ pm_cells) : ∃ q : Nat, pm_cells[q]? = some r := List.getElem?_of_mem hr
theorem pm_fget {c i j : Nat} (hj : j < pm_nf c) : ((List.range (pm_nf c)).map (pm_fv ad h c i))[j]? = some (pm_fv ad h c i j) := by
  rw [List.getElem?_map, List.getElem?_range hj]
  rfl
theorem pm_fset {c i j : Nat} {v : Int32} (hj : j < pm_nf c) (hf : ∀ i, pm_fr c i j = none) : ((List.range (pm_nf c)).map (pm_fv ad h c i)).set j (.int v) = (List.range (pm_nf c)).map (pm_fv ad (pm_up h c i 0 j v) c i) := by
  apply List.ext_getElem?
  intro k
  by_cases hk : k = j
  · subst hk
    rw [List.getElem?_set_self (by simpa using hj), List.getElem?_map, List.getElem?_range hj]
    simp [pm_fv, hf, pm_up]
  · rw [List.getElem?_set_ne (fun e => hk e.symm), List.getElem?_map, List.getElem?_map]
    by_cases hr : k < pm_nf c
    · rw [List.getElem?_range hr]
      simp only [Option.map_some]
      congr 1
      unfold pm_fv
      cases pm_fr c i k with
      | none => simp [pm_up, hk]
      | some r => rfl
    · rw [List.getElem?_eq_none (by simpa using hr)]
      rfl
end PMO
theorem nI_toNat {k : Nat} (h : k < 2 ^ 31) : (nI k).toNatClampNeg = k := nI_clamp h
theorem pm_an_lt {c s : Nat} (hc : c < 7) (hs : s < pm_sub c) : pm_an c s < 2 ^ 31 := by
  have h : ∀ c : Fin 7, ∀ s : Fin 12, pm_an c.val s.val < 2 ^ 31 := by decide +kernel
  have h2 : ∀ c : Fin 7, pm_sub c.val ≤ 12 := by decide +kernel
  have h3 := h2 ⟨c, hc⟩
  exact h ⟨c, hc⟩ ⟨s, Nat.lt_of_lt_of_le hs h3⟩
/-- getfield of a number, of a reference -/
def i_gi (c j nx : Nat) : pm_T := fun K z => match z with
  | (lv, .inr (.inr (c', i, s)) :: st, h) => bif Nat.beq c' c && Nat.beq s 0 then K (some nx) (lv, .inl (h c i 0 j) :: st, h) else False
  | _ => False
def i_gr (c : Nat) (t : Nat → pm_R) (nx : Nat) : pm_T := fun K z => match z with
  | (lv, .inr (.inr (c', i, s)) :: st, h) => bif Nat.beq c' c && Nat.beq s 0 then K (some nx) (lv, .inr (.inr (t i)) :: st, h) else False
  | _ => False
theorem pm_bt2 {a b c d : Nat} {P : Prop} (h : bif Nat.beq a b && Nat.beq c d then P else False) : a = b ∧ c = d ∧ P := by
  obtain ⟨h1, h2⟩ := pm_bt h
  have h3 := Bool.and_eq_true_iff.mp h1
  exact ⟨Nat.eq_of_beq_eq_true h3.1, Nat.eq_of_beq_eq_true h3.2, h2⟩
theorem pm_cl_lt {c : Nat} {q : vw_C} (h : pm_cl[c]? = some q) : c < 6 := (List.getElem?_eq_some_iff.mp h).1
theorem pm_cl_nf : ∀ c, c < 6 → ∀ q : vw_C, pm_cl[c]? = some q → q.2.2 = pm_nf c := by
  intro c hc q hq
  match c, hc, hq with
  | 0, _, hq => cases hq; rfl
  | 1, _, hq => cases hq; rfl
  | 2, _, hq => cases hq; rfl
  | 3, _, hq => cases hq; rfl
  | 4, _, hq => cases hq; rfl
  | 5, _, hq => cases hq; rfl
theorem sd_gi {own : String} {cc : ByteArray} {nL d rt pc nx c j idx : Nat} {C : String} {T : u_T} {N : Nat} (hc : pm_cl[c]? = some (C, T, N)) (hin : ∀ w ∈ u_ws C T N, w ∈ pm_tbl) (hj : j < N) (hf : ∀ i, pm_fr c i j = none) (hk : Cond.fieldLink own idx (T j).1 (T j).2.1 (T j).2.2.1 ∈ pm_tbl) (hd : decode cc pc = .ok (.getfield idx, 3)) (hn : pc + 3 = nx) : pm_sd own cc nL d rt pc (i_gi c j nx) := by
  intro post p l e s m args below meth c9 D ad ta X K hK x h
  obtain ⟨lv, st, hh⟩ := x
  subst hn
  match st, h with
  | .inr (.inr (c', i, s0)) :: st, h =>
    have h : bif Nat.beq c' c && Nat.beq s0 0 then K (some (pc + 3)) (lv, .inl (hh c i 0 j) :: st, hh) else False := h
    obtain ⟨e1, e2, h9⟩ := pm_bt2 h
    subst e1; subst e2
    have h2 := pm_kks (hK _ _ h9)
    intro o1 o2 H locs ls hP hD hS hl
    have hc6 := pm_cl_lt hc
    have hN : N = pm_nf c' := pm_cl_nf c' hc6 _ hc
    obtain ⟨q, hq⟩ := pm_pl (pm_okin (pm_okh o2) (by show c' < 7; omega))
    have hw := pm_wd_at (ad := ad) (ta := ta) (h := hh) hq
    rw [pm_obj hc6] at hw
    refine va_get (C := C) (T := T) (N := N) X.1 X.2.1 X.2.2.2.2.1 hin X.2.2.2.1 X.2.2.2.2.2.1 hP q hw hc j hj (X.2.2.2.2.1 _ hk) (fun _ h9 => h9) (pm_fget (by rw [← hN]; exact hj)) hd ?_
    have e3 : pm_fv ad hh c' i j = .int (hh c' i 0 j) := by unfold pm_fv; rw [hf]
    rw [e3]
    exact h2 o1 (pm_ok1 trivial (pm_okt o2)) H locs ls hP hD hS hl
  | [], h => exact h.elim
  | .inl _ :: _, h => exact h.elim
  | .inr (.inl _) :: _, h => exact h.elim
theorem pm_in3 {c i s : Nat} (h : (c, i, s) ∈ pm_cells) : c < 7 ∧ i < pm_cnt c ∧ s < pm_sub c := pm_in_iff.mp h
theorem pm_cnt8 (c : Nat) (hc : c < 6) : pm_cnt c ≤ 4 := by
  have h : ∀ c : Fin 6, pm_cnt c.val ≤ 4 := by decide +kernel
  exact h ⟨c, hc⟩
theorem pm_nf26 (c : Nat) (hc : c < 6) : pm_nf c ≤ 26 := by
  have h : ∀ c : Fin 6, pm_nf c.val ≤ 26 := by decide +kernel
  exact h ⟨c, hc⟩
theorem sd_gr {own : String} {cc : ByteArray} {nL d rt pc nx c j idx : Nat} {C : String} {T : u_T} {N : Nat} {t : Nat → pm_R} (hc : pm_cl[c]? = some (C, T, N)) (hin : ∀ w ∈ u_ws C T N, w ∈ pm_tbl) (hj : j < N) (hf : ∀ i, pm_fr c i j = some (t i)) (hk : Cond.fieldLink own idx (T j).1 (T j).2.1 (T j).2.2.1 ∈ pm_tbl) (hd : decode cc pc = .ok (.getfield idx, 3)) (hn : pc + 3 = nx) : pm_sd own cc nL d rt pc (i_gr c t nx) := by
  intro post p l e s m args below meth c9 D ad ta X K hK x h
  obtain ⟨lv, st, hh⟩ := x
  subst hn
  match st, h with
  | .inr (.inr (c', i, s0)) :: st, h =>
    have h : bif Nat.beq c' c && Nat.beq s0 0 then K (some (pc + 3)) (lv, .inr (.inr (t i)) :: st, hh) else False := h
    obtain ⟨e1, e2, h9⟩ := pm_bt2 h
    subst e1; subst e2
    have h2 := pm_kks (hK _ _ h9)
    intro o1 o2 H locs ls hP hD hS hl
    have hc6 := pm_cl_lt hc
    have hN : N = pm_nf c' := pm_cl_nf c' hc6 _ hc
    have hi := pm_okin (pm_okh o2) (by show c' < 7; omega)
    obtain ⟨q, hq⟩ := pm_pl hi
    have hw := pm_wd_at (ad := ad) (ta := ta) (h := hh) hq
    rw [pm_obj hc6] at hw
    refine va_get (C := C) (T := T) (N := N) X.1 X.2.1 X.2.2.2.2.1 hin X.2.2.2.1 X.2.2.2.2.2.1 hP q hw hc j hj (X.2.2.2.2.1 _ hk) (fun _ h9 => h9) (pm_fget (by rw [← hN]; exact hj)) hd ?_
    have e3 : pm_fv ad hh c' i j = .ref (ad (t i)) := by unfold pm_fv; rw [hf]
    rw [e3]
    have h3 := pm_in3 hi
    have h4 := pm_cnt8 c' hc6
    have h5 := pm_nf26 c' hc6
    exact h2 o1 (pm_ok1 (Or.inl (pm_fr_ok c' hc6 i (by omega) j (by omega) h3.2.1 _ (hf i))) (pm_okt o2)) H locs ls hP hD hS hl
  | [], h => exact h.elim
  | .inl _ :: _, h => exact h.elim
  | .inr (.inl _) :: _, h => exact h.elim
/-- putfield of an int, of a boolean -/
def i_pi (c j nx : Nat) : pm_T := fun K z => match z with
  | (lv, .inl v :: .inr (.inr (c', i, s)) :: st, h) => bif Nat.beq c' c && Nat.beq s 0 then K (some nx) (lv, st, pm_up h c i 0 j v) else False
  | _ => False
def i_pz (c j nx : Nat) : pm_T := fun K z => match z with
  | (lv, .inl v :: .inr (.inr (c', i, s)) :: st, h) => bif Nat.beq c' c && Nat.beq s 0 then (v = 0 ∨ v = 1) ∧ K (some nx) (lv, st, pm_up h c i 0 j v) else False
  | _ => False
theorem pm_put {own : String} {cc : ByteArray} {nL d rt pc c j idx i : Nat} {C : String} {T : u_T} {N : Nat} {ty : FieldType} {v : Int32} {post : List pm_V → pm_H → Prop} {p : Program} {l : Launch} {e : Env} {s : State} {m : MethodId} {args : Array Value} {below : List Frame} {meth : Method} {c9 : Code} {D : va_G} {ad : pm_R → Nat} {ta : Nat → ClassId} (X : pm_X own cc nL rt p s m args meth c9 D ad ta) (hc : pm_cl[c]? = some (C, T, N)) (hin : ∀ w ∈ u_ws C T N, w ∈ pm_tbl) (ty0 : Nat → FieldType) (hty : ∀ k, k < N → parseFieldDescriptor (T k).2.2.1 = some (ty0 k)) (hnm : ∀ a, a < N → ∀ b, b < N → a ≠ b → (T a).2.1 ≠ (T b).2.1) (hj : j < N) (hf : ∀ i, pm_fr c i j = none) (hfin : (T j).2.2.2 = false) (hk : Cond.fieldLink own idx (T j).1 (T j).2.1 (T j).2.2.1 ∈ pm_tbl) (hd : decode cc pc = .ok (.putfield idx, 3)) (hty2 : ty0 j = ty) (hnar : narrow ty (.int v) = .int v) (hfit : fits ty (.int v) = true) {lv : pm_L} {st : List pm_V} {hh : pm_H} (h2 : pm_W nL d rt post p l e s m args below meth c9 D ad ta (pc + 3) (lv, st, pm_up hh c i 0 j v)) : pm_W nL d rt post p l e s m args below meth c9 D ad ta pc (lv, .inl v :: .inr (.inr (c, i, 0)) :: st, hh) := by
  intro o1 o2 H locs ls hP hD hS hl
  have hc6 := pm_cl_lt hc
  have hN : N = pm_nf c := pm_cl_nf c hc6 _ hc
  obtain ⟨q, hq⟩ := pm_pl (pm_okin (pm_okh (pm_okt o2)) (by show c < 7; omega))
  have hw := pm_wd_at (ad := ad) (ta := ta) (h := hh) hq
  rw [pm_obj hc6] at hw
  refine va_put (C := C) (T := T) (N := N) (v := .int v) (ty := ty) X.1 X.2.1 X.2.2.2.2.1 hin ty0 hty hnm X.2.2.2.1 X.2.2.2.2.2.1 hP hD hS q hw hc j hj (X.2.2.2.2.1 _ hk) (fun _ h9 => h9) hfin (by rw [hty j hj, hty2]) hnar hfit (by simp; omega) hd (fun H1 locs1 hP1 hD1 hS1 => ?_)
  have e1 : (pm_wd ad ta hh).set q (ad (c, i, 0), .inr (c, ((List.range (pm_nf c)).map (pm_fv ad hh c i)).set j (.int v))) = pm_wd ad ta (pm_up hh c i 0 j v) := by
    rw [pm_fset (by omega) hf, ← pm_obj (ad := ad) (ta := ta) (h := pm_up hh c i 0 j v) hc6]
    refine pm_wd_set hq (fun r' _ hne => ?_)
    rw [pm_up_ua]
    exact pm_ce_ua r' hne
  rw [e1] at hP1 hD1
  exact h2 o1 (pm_okt (pm_okt o2)) H1 locs1 ls hP1 hD1 hS1 hl
theorem pm_st3 {st : List pm_V} {P : Int32 → pm_R → List pm_V → Prop} (h : match st with | .inl v :: .inr (.inr r) :: t => P v r t | _ => False) : ∃ v r t, st = .inl v :: .inr (.inr r) :: t ∧ P v r t := by
  match st, h with
  | .inl v :: .inr (.inr r) :: t, h => exact ⟨v, r, t, rfl, h⟩
  | [], h => exact h.elim
  | [.inl _], h => exact h.elim
  | [.inr (.inl _)], h => exact h.elim
  | [.inr (.inr _)], h => exact h.elim
  | .inl _ :: .inl _ :: _, h => exact h.elim
  | .inl _ :: .inr (.inl _) :: _, h => exact h.elim
  | .inr (.inl _) :: _ :: _, h => exact h.elim
  | .inr (.inr _) :: _ :: _, h => exact h.elim
theorem sd_pi {own : String} {cc : ByteArray} {nL d rt pc nx c j idx : Nat} {C : String} {T : u_T} {N : Nat} (hc : pm_cl[c]? = some (C, T, N)) (hin : ∀ w ∈ u_ws C T N, w ∈ pm_tbl) (ty0 : Nat → FieldType) (hty : ∀ k, k < N → parseFieldDescriptor (T k).2.2.1 = some (ty0 k)) (hnm : ∀ a, a < N → ∀ b, b < N → a ≠ b → (T a).2.1 ≠ (T b).2.1) (hj : j < N) (hf : ∀ i, pm_fr c i j = none) (hfin : (T j).2.2.2 = false) (hty2 : ty0 j = .int) (hk : Cond.fieldLink own idx (T j).1 (T j).2.1 (T j).2.2.1 ∈ pm_tbl) (hd : decode cc pc = .ok (.putfield idx, 3)) (hn : pc + 3 = nx) : pm_sd own cc nL d rt pc (i_pi c j nx) := by
  intro post p l e s m args below meth c9 D ad ta X K hK x h
  obtain ⟨lv, st, hh⟩ := x
  subst hn
  obtain ⟨v, ⟨c', i, s0⟩, t, rfl, h8⟩ := pm_st3 (st := st) (P := fun v r t => bif Nat.beq r.1 c && Nat.beq r.2.2 0 then K (some (pc + 3)) (lv, t, pm_up hh c r.2.1 0 j v) else False) (by
    match st, h with
    | .inl v :: .inr (.inr (c', i, s0)) :: t, h => exact h
    | [], h => exact h.elim
    | [.inl _], h => exact h.elim
    | [.inr (.inl _)], h => exact h.elim
    | [.inr (.inr _)], h => exact h.elim
    | .inl _ :: .inl _ :: _, h => exact h.elim
    | .inl _ :: .inr (.inl _) :: _, h => exact h.elim
    | .inr (.inl _) :: _ :: _, h => exact h.elim
    | .inr (.inr _) :: _ :: _, h => exact h.elim)
  obtain ⟨e1, e2, h9⟩ := pm_bt2 h8
  have e1 : c' = c := e1
  have e2 : s0 = 0 := e2
  subst e1; subst e2
  exact pm_put X hc hin ty0 hty hnm hj hf hfin hk hd hty2 rfl rfl (pm_kks (hK _ _ h9))
theorem sd_pz {own : String} {cc : ByteArray} {nL d rt pc nx c j idx : Nat} {C : String} {T : u_T} {N : Nat} (hc : pm_cl[c]? = some (C, T, N)) (hin : ∀ w ∈ u_ws C T N, w ∈ pm_tbl) (ty0 : Nat → FieldType) (hty : ∀ k, k < N → parseFieldDescriptor (T k).2.2.1 = some (ty0 k)) (hnm : ∀ a, a < N → ∀ b, b < N → a ≠ b → (T a).2.1 ≠ (T b).2.1) (hj : j < N) (hf : ∀ i, pm_fr c i j = none) (hfin : (T j).2.2.2 = false) (hty2 : ty0 j = .boolean) (hk : Cond.fieldLink own idx (T j).1 (T j).2.1 (T j).2.2.1 ∈ pm_tbl) (hd : decode cc pc = .ok (.putfield idx, 3)) (hn : pc + 3 = nx) : pm_sd own cc nL d rt pc (i_pz c j nx) := by
  intro post p l e s m args below meth c9 D ad ta X K hK x h
  obtain ⟨lv, st, hh⟩ := x
  subst hn
  obtain ⟨v, ⟨c', i, s0⟩, t, rfl, h8⟩ := pm_st3 (st := st) (P := fun v r t => bif Nat.beq r.1 c && Nat.beq r.2.2 0 then (v = 0 ∨ v = 1) ∧ K (some (pc + 3)) (lv, t, pm_up hh c r.2.1 0 j v) else False) (by
    match st, h with
    | .inl v :: .inr (.inr (c', i, s0)) :: t, h => exact h
    | [], h => exact h.elim
    | [.inl _], h => exact h.elim
    | [.inr (.inl _)], h => exact h.elim
    | [.inr (.inr _)], h => exact h.elim
    | .inl _ :: .inl _ :: _, h => exact h.elim
    | .inl _ :: .inr (.inl _) :: _, h => exact h.elim
    | .inr (.inl _) :: _ :: _, h => exact h.elim
    | .inr (.inr _) :: _ :: _, h => exact h.elim)
  obtain ⟨e1, e2, h9⟩ := pm_bt2 h8
  have e1 : c' = c := e1
  have e2 : s0 = 0 := e2
  subst e1; subst e2
  exact pm_put X hc hin ty0 hty hnm hj hf hfin hk hd hty2 (pm_nz h9.1) (by rcases h9.1 with rfl | rfl <;> rfl) (pm_kks (hK _ _ h9.2))
