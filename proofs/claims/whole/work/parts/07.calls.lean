/-! THE PURE MACHINE: calls, runs, a method's contract out of its table of steps. -/
def pm_pop : Nat → List pm_V → List pm_V → (List pm_V → List pm_V → Prop) → Prop
  | 0, st, acc, k => k acc st
  | n + 1, v :: st, acc, k => pm_pop n st (v :: acc) k
  | _ + 1, [], _, _ => False
theorem pm_pop_spec : ∀ {n : Nat} {st acc : List pm_V} {k : List pm_V → List pm_V → Prop}, pm_pop n st acc k → ∃ as st', st = as.reverse ++ st' ∧ as.length = n ∧ k (as ++ acc) st'
  | 0, st, acc, k, h => ⟨[], st, rfl, rfl, h⟩
  | n + 1, v :: st, acc, k, h => by
    obtain ⟨as, st', h1, h2, h3⟩ := pm_pop_spec (n := n) (st := st) (acc := v :: acc) h
    refine ⟨as ++ [v], st', ?_, ?_, ?_⟩
    · rw [h1]
      simp
    · simp [h2]
    · rw [List.append_assoc]
      exact h3
  | n + 1, [], acc, k, h => h.elim
theorem pm_D_any {A : Nat → Prop} {ad : pm_R → Nat} {ta : Nat → ClassId} {h h' : pm_H} (hD : va_D A (pm_wd ad ta h)) : va_D A (pm_wd ad ta h') := by
  have key : ∀ (k : Nat) (q : Nat × va_E), (pm_wd ad ta h')[k]? = some q → ∃ e, (pm_wd ad ta h)[k]? = some (q.1, e) := by
    intro k q hq
    unfold pm_wd at hq ⊢
    rw [List.getElem?_map] at hq ⊢
    cases hc : pm_cells[k]? with
    | none => rw [hc] at hq; cases hq
    | some r =>
      rw [hc] at hq
      cases hq
      exact ⟨pm_ce ad ta h r, rfl⟩
  refine ⟨fun i j p q hp hq e => ?_, fun k q hq => ?_⟩
  · obtain ⟨e1, h1⟩ := key i p hp
    obtain ⟨e2, h2⟩ := key j q hq
    exact hD.1 i j _ _ h1 h2 e
  · obtain ⟨e1, h1⟩ := key k q hq
    exact hD.2 k (q.1, e1) h1
theorem pm_good : ∀ w ∈ pm_tbl, goodWord w = true := fun w h => (List.mem_filter.mp h).2
/-- what a method is held to: from arguments and a heap that meet 'pre', it comes back with an answer and a heap that meet 'post' -/
def pm_MT (y : MethodName) (b : ByteArray) (nL rt d : Nat) {Γ : Type} (pre : Γ → List pm_V → pm_H → Prop) (post : Γ → List pm_V → pm_H → Prop) : Prop := ∀ (l : Launch) (D : va_G) (ad : pm_R → Nat) (ta : Nat → ClassId) (g : Γ) (av : List pm_V) (h : pm_H), (∀ v ∈ av, pm_ok v) → pre g av h → Met l y (.code y b nL (pm_rt rt) :: pm_tbl) (pm_room d) (va_Pc (av.map (pm_rv ad)) (fun U => va_P D pm_cl (pm_wd ad ta h) U.heap ∧ va_K D pm_cl (pm_tys ta) U ∧ va_D (pm_A ad) (pm_wd ad ta h) ∧ pm_Z ad U)) (pm_Qc rt D ad ta (post g)) 0 0 (pm_A ad)
def pm_pi {Γ : Type} (q : Γ → Int32 → pm_H → Prop) : Γ → List pm_V → pm_H → Prop := fun g r h => match r with
  | [.inl v] => q g v h
  | _ => False
def pm_pl2 {Γ : Type} (q : Γ → Int64 → pm_H → Prop) : Γ → List pm_V → pm_H → Prop := fun g r h => match r with
  | [.inr (.inl v)] => q g v h
  | _ => False
def pm_pv {Γ : Type} (q : Γ → pm_H → Prop) : Γ → List pm_V → pm_H → Prop := fun g r h => match r with
  | [] => q g h
  | _ => False
theorem pm_blind {D : va_G} {ad : pm_R → Nat} {ta : Nat → ClassId} {av : List Value} {h : pm_H} : FrameBlind (va_Pc av (fun U => va_P D pm_cl (pm_wd ad ta h) U.heap ∧ va_K D pm_cl (pm_tys ta) U ∧ va_D (pm_A ad) (pm_wd ad ta h) ∧ pm_Z ad U)) := by
  intro a U g mk q
  obtain ⟨q0, qP, qK, qD, qZ⟩ := q
  refine ⟨q0, qP, va_K.moved (u := U) (U := U.calling g mk a) (Vm.Alike.refl U.vm) qK, qD, ?_⟩
  obtain ⟨h1, h2, h3, h4, h5, h6, h7⟩ := qZ
  have hv : U.vm.Alike (U.calling g mk a).vm := Vm.Alike.refl U.vm
  exact ⟨va_Z.moved (u := U) hv h1, va_T.moved (u := U) hv h2, va_Z.moved (u := U) hv h3, va_T.moved (u := U) hv h4, va_Z.moved (u := U) hv h5, fun i hi => vk_R.same (u := U) rfl (h6 i hi), vk_S.moved (u := U) hv h7⟩
theorem pm_goodV {own : String} {idx : Nat} {C : String} {y : MethodName} {w0 : Cond} (h0 : w0 ∈ pm_tbl) (h1 : Cond.methodLink own idx y ∈ pm_tbl) (h2 : Cond.instanceMethod y ∈ pm_tbl) (h3 : Cond.selects C y y ∈ pm_tbl) (h4 : Cond.initialized C ∈ pm_tbl) : GoodIn pm_tbl (wsV own idx C y (w0 :: pm_tbl)) := by
  intro w hw
  have hm : w ∈ pm_tbl := by
    unfold wsV at hw
    rcases List.mem_append.mp hw with h | h
    · simp only [List.mem_cons, List.not_mem_nil, or_false] at h
      rcases h with rfl | rfl | rfl | rfl
      · exact h1
      · exact h2
      · exact h3
      · exact h4
    · rcases List.mem_cons.mp h with rfl | h
      · exact h0
      · exact h
  exact ⟨hm, good_of_word (pm_good w hm)⟩
theorem pm_goodS {own : String} {idx : Nat} {y : MethodName} {w0 : Cond} (h0 : w0 ∈ pm_tbl) (h1 : Cond.methodLink own idx y ∈ pm_tbl) (h2 : Cond.static y ∈ pm_tbl) (h4 : Cond.initialized y.cls ∈ pm_tbl) : GoodIn pm_tbl (va_wsS own idx y (w0 :: pm_tbl)) := by
  intro w hw
  have hm : w ∈ pm_tbl := by
    unfold va_wsS at hw
    rcases List.mem_append.mp hw with h | h
    · simp only [List.mem_cons, List.not_mem_nil, or_false] at h
      rcases h with rfl | rfl | rfl
      · exact h1
      · exact h2
      · exact h4
    · rcases List.mem_cons.mp h with rfl | h
      · exact h0
      · exact h
  exact ⟨hm, good_of_word (pm_good w hm)⟩
theorem pm_map_rev (ad : pm_R → Nat) (as st : List pm_V) : (as.reverse ++ st).map (pm_rv ad) = (as.map (pm_rv ad)).reverse ++ st.map (pm_rv ad) := by
  rw [List.map_append, List.map_reverse]

def i_ci {Γ : Type} (n : Nat) (pre : Γ → List pm_V → pm_H → Prop) (q : Γ → Int32 → pm_H → Prop) (nx : Nat) : pm_T := fun K z => match z with
  | (lv, st, h) => pm_pop n st [] (fun as st' => bif Nat.ble (pm_cs st') 8 then ∃ g, pre g as h ∧ ∀ v h', q g v h' → K (some nx) (lv, .inl v :: st', h') else False)
theorem sd_civ {Γ : Type} {own : String} {cc : ByteArray} {nL d rt pc nx idx n d' nL' rt' c : Nat} {C : String} {T : u_T} {N : Nat} {y : MethodName} {b : ByteArray} {pre : Γ → List pm_V → pm_H → Prop} {q : Γ → Int32 → pm_H → Prop} (hM : pm_MT y b nL' rt' d' pre (pm_pi q)) (hrt : rt' = 1 ∨ rt' = 3 ∨ rt' = 4 ∨ rt' = 5) (h0 : Cond.code y b nL' (pm_rt rt') ∈ pm_tbl) (hr : ∀ g av h, pre g av h → ∃ i t, av = .inr (.inr (c, i, 0)) :: t) (hcl : pm_cl[c]? = some (C, T, N)) (h1 : Cond.methodLink own idx y ∈ pm_tbl) (h2 : Cond.instanceMethod y ∈ pm_tbl) (h3 : Cond.selects C y y ∈ pm_tbl) (h4 : Cond.initialized C ∈ pm_tbl) (hy : y.cls = C ∧ y.cls ≠ "java/lang/invoke/MethodHandle" ∧ y.cls ≠ "java/lang/invoke/VarHandle" ∧ (parseMethodDescriptor y.desc).map (fun d => d.parameters.length) = some n) (hd' : d' + 1 ≤ d) (hL' : nL' ≤ 45) (hd : decode cc pc = .ok (.invokevirtual idx, 3)) (hn : pc + 3 = nx) : pm_sd own cc nL d rt pc (i_ci (n + 1) pre q nx) := by
  intro post p l e s m args below meth c9 D ad ta X K hK x h
  obtain ⟨lv, st, hh⟩ := x
  subst hn
  obtain ⟨as, st', rfl, hlen, h⟩ := pm_pop_spec h
  rw [List.append_nil] at h
  obtain ⟨hb, g, hp, hk9⟩ := pm_bt (b := Nat.ble (pm_cs st') 8) h
  have hcs : pm_cs st' ≤ 8 := Nat.ble_eq.mp hb
  intro o1 o2 H locs ls hP hD hS hl
  have o3 : ∀ v ∈ st', pm_ok v := fun v hv => o2 v (List.mem_append_right _ hv)
  have o4 : ∀ v ∈ as, pm_ok v := fun v hv => o2 v (List.mem_append_left _ (List.mem_reverse.mpr hv))
  rcases hrt with rfl | rfl | rfl | rfl
  · obtain ⟨i, t, rfl⟩ := hr g as hh hp
    have hc6 := pm_cl_lt hcl
    have hri := pm_okin (o4 _ List.mem_cons_self) (by show c < 7; omega)
    obtain ⟨q0, hq0⟩ := pm_pl hri
    have hw0 := pm_wd_at (ad := ad) (ta := ta) (h := hh) hq0
    rw [pm_obj hc6] at hw0
    have hlen9 : t.length = n := by simpa using hlen
    refine va_calli (va_runV (C := C) (b := ad (c, i, 0)) (As := t.map (pm_rv ad)) (rest := st'.map (pm_rv ad)) (Ts := pm_tbl) ⟨X.1, X.2.1, X.2.2.1, X.2.2.2.1, X.2.2.2.2.1⟩ (hM l D ad ta g _ hh o4 hp) (cwV n X.2.2.2.2.1 (pm_goodV h0 h1 h2 h3 h4) rfl rfl rfl hy ⟨hd', by show 8 + (nL' + 11) + 64 * d' ≤ 64 * d; omega⟩) ⟨pm_blind, va_recv X.2.2.2.2.2.1 hP hcl hw0, fun U hU hW => ⟨rfl, by rw [hU]; exact hP, va_K.moved hW.alike X.2.2.2.2.2.1, hD, X.2.2.2.2.2.2.1.to hS hU hW⟩⟩ rfl (by rw [List.length_map]; exact hlen9) hl.1 (by show List.map (pm_rv ad) _ = _; rw [pm_map_rev]; simp [pm_rv]) (lv_room (by rw [pm_cs_rv]; exact hcs)) hd ⟨Nat.le_refl _, Nat.le_refl _⟩) hS (fun q _ h => h) (fun q h => h) (fun r u tq H1 locs1 ht hvm hw hB hz1 hk1 hS1 => ?_)
    have hB : va_P D pm_cl (pm_wd ad ta u) tq.heap := hB
    rw [ht] at hB
    exact pm_kks (hK _ _ (hk9 r u hw)) o1 (pm_ok1 trivial o3) H1 locs1 ls hB (pm_D_any hD) hS1 hl
  · obtain ⟨i, t, rfl⟩ := hr g as hh hp
    have hc6 := pm_cl_lt hcl
    have hri := pm_okin (o4 _ List.mem_cons_self) (by show c < 7; omega)
    obtain ⟨q0, hq0⟩ := pm_pl hri
    have hw0 := pm_wd_at (ad := ad) (ta := ta) (h := hh) hq0
    rw [pm_obj hc6] at hw0
    have hlen9 : t.length = n := by simpa using hlen
    refine va_calli (va_runV (C := C) (b := ad (c, i, 0)) (As := t.map (pm_rv ad)) (rest := st'.map (pm_rv ad)) (Ts := pm_tbl) ⟨X.1, X.2.1, X.2.2.1, X.2.2.2.1, X.2.2.2.2.1⟩ (hM l D ad ta g _ hh o4 hp) (cwV n X.2.2.2.2.1 (pm_goodV h0 h1 h2 h3 h4) rfl rfl rfl hy ⟨hd', by show 8 + (nL' + 11) + 64 * d' ≤ 64 * d; omega⟩) ⟨pm_blind, va_recv X.2.2.2.2.2.1 hP hcl hw0, fun U hU hW => ⟨rfl, by rw [hU]; exact hP, va_K.moved hW.alike X.2.2.2.2.2.1, hD, X.2.2.2.2.2.2.1.to hS hU hW⟩⟩ rfl (by rw [List.length_map]; exact hlen9) hl.1 (by show List.map (pm_rv ad) _ = _; rw [pm_map_rev]; simp [pm_rv]) (lv_room (by rw [pm_cs_rv]; exact hcs)) hd ⟨Nat.le_refl _, Nat.le_refl _⟩) hS (fun q _ h => h) (fun q h => h) (fun r u tq H1 locs1 ht hvm hw hB hz1 hk1 hS1 => ?_)
    have hB : va_P D pm_cl (pm_wd ad ta u) tq.heap := hB
    rw [ht] at hB
    exact pm_kks (hK _ _ (hk9 r u hw)) o1 (pm_ok1 trivial o3) H1 locs1 ls hB (pm_D_any hD) hS1 hl
  · obtain ⟨i, t, rfl⟩ := hr g as hh hp
    have hc6 := pm_cl_lt hcl
    have hri := pm_okin (o4 _ List.mem_cons_self) (by show c < 7; omega)
    obtain ⟨q0, hq0⟩ := pm_pl hri
    have hw0 := pm_wd_at (ad := ad) (ta := ta) (h := hh) hq0
    rw [pm_obj hc6] at hw0
    have hlen9 : t.length = n := by simpa using hlen
    refine va_calli (va_runV (C := C) (b := ad (c, i, 0)) (As := t.map (pm_rv ad)) (rest := st'.map (pm_rv ad)) (Ts := pm_tbl) ⟨X.1, X.2.1, X.2.2.1, X.2.2.2.1, X.2.2.2.2.1⟩ (hM l D ad ta g _ hh o4 hp) (cwV n X.2.2.2.2.1 (pm_goodV h0 h1 h2 h3 h4) rfl rfl rfl hy ⟨hd', by show 8 + (nL' + 11) + 64 * d' ≤ 64 * d; omega⟩) ⟨pm_blind, va_recv X.2.2.2.2.2.1 hP hcl hw0, fun U hU hW => ⟨rfl, by rw [hU]; exact hP, va_K.moved hW.alike X.2.2.2.2.2.1, hD, X.2.2.2.2.2.2.1.to hS hU hW⟩⟩ rfl (by rw [List.length_map]; exact hlen9) hl.1 (by show List.map (pm_rv ad) _ = _; rw [pm_map_rev]; simp [pm_rv]) (lv_room (by rw [pm_cs_rv]; exact hcs)) hd ⟨Nat.le_refl _, Nat.le_refl _⟩) hS (fun q _ h => h) (fun q h => h) (fun r u tq H1 locs1 ht hvm hw hB hz1 hk1 hS1 => ?_)
    have hB : va_P D pm_cl (pm_wd ad ta u) tq.heap := hB
    rw [ht] at hB
    exact pm_kks (hK _ _ (hk9 r u hw)) o1 (pm_ok1 trivial o3) H1 locs1 ls hB (pm_D_any hD) hS1 hl
  · obtain ⟨i, t, rfl⟩ := hr g as hh hp
    have hc6 := pm_cl_lt hcl
    have hri := pm_okin (o4 _ List.mem_cons_self) (by show c < 7; omega)
    obtain ⟨q0, hq0⟩ := pm_pl hri
    have hw0 := pm_wd_at (ad := ad) (ta := ta) (h := hh) hq0
    rw [pm_obj hc6] at hw0
    have hlen9 : t.length = n := by simpa using hlen
    refine va_calli (va_runV (C := C) (b := ad (c, i, 0)) (As := t.map (pm_rv ad)) (rest := st'.map (pm_rv ad)) (Ts := pm_tbl) ⟨X.1, X.2.1, X.2.2.1, X.2.2.2.1, X.2.2.2.2.1⟩ (hM l D ad ta g _ hh o4 hp) (cwV n X.2.2.2.2.1 (pm_goodV h0 h1 h2 h3 h4) rfl rfl rfl hy ⟨hd', by show 8 + (nL' + 11) + 64 * d' ≤ 64 * d; omega⟩) ⟨pm_blind, va_recv X.2.2.2.2.2.1 hP hcl hw0, fun U hU hW => ⟨rfl, by rw [hU]; exact hP, va_K.moved hW.alike X.2.2.2.2.2.1, hD, X.2.2.2.2.2.2.1.to hS hU hW⟩⟩ rfl (by rw [List.length_map]; exact hlen9) hl.1 (by show List.map (pm_rv ad) _ = _; rw [pm_map_rev]; simp [pm_rv]) (lv_room (by rw [pm_cs_rv]; exact hcs)) hd ⟨Nat.le_refl _, Nat.le_refl _⟩) hS (fun q _ h => h) (fun q h => h) (fun r u tq H1 locs1 ht hvm hw hB hz1 hk1 hS1 => ?_)
    have hB : va_P D pm_cl (pm_wd ad ta u) tq.heap := hB
    rw [ht] at hB
    exact pm_kks (hK _ _ (hk9 r u hw)) o1 (pm_ok1 trivial o3) H1 locs1 ls hB (pm_D_any hD) hS1 hl
theorem sd_cis {Γ : Type} {own : String} {cc : ByteArray} {nL d rt pc nx idx n d' nL' rt' : Nat} {y : MethodName} {b : ByteArray} {pre : Γ → List pm_V → pm_H → Prop} {q : Γ → Int32 → pm_H → Prop} (hM : pm_MT y b nL' rt' d' pre (pm_pi q)) (hrt : rt' = 1 ∨ rt' = 3 ∨ rt' = 4 ∨ rt' = 5) (h0 : Cond.code y b nL' (pm_rt rt') ∈ pm_tbl) (h1 : Cond.methodLink own idx y ∈ pm_tbl) (h2 : Cond.static y ∈ pm_tbl) (h4 : Cond.initialized y.cls ∈ pm_tbl) (hy : y.cls ≠ "java/lang/invoke/MethodHandle" ∧ y.cls ≠ "java/lang/invoke/VarHandle" ∧ (parseMethodDescriptor y.desc).map (fun d => d.parameters.length) = some n) (hd' : d' + 1 ≤ d) (hL' : nL' ≤ 45) (hd : decode cc pc = .ok (.invokestatic idx, 3)) (hn : pc + 3 = nx) : pm_sd own cc nL d rt pc (i_ci n pre q nx) := by
  intro post p l e s m args below meth c9 D ad ta X K hK x h
  obtain ⟨lv, st, hh⟩ := x
  subst hn
  obtain ⟨as, st', rfl, hlen, h⟩ := pm_pop_spec h
  rw [List.append_nil] at h
  obtain ⟨hb, g, hp, hk9⟩ := pm_bt (b := Nat.ble (pm_cs st') 8) h
  have hcs : pm_cs st' ≤ 8 := Nat.ble_eq.mp hb
  intro o1 o2 H locs ls hP hD hS hl
  have o3 : ∀ v ∈ st', pm_ok v := fun v hv => o2 v (List.mem_append_right _ hv)
  have o4 : ∀ v ∈ as, pm_ok v := fun v hv => o2 v (List.mem_append_left _ (List.mem_reverse.mpr hv))
  rcases hrt with rfl | rfl | rfl | rfl
  · refine va_calli (va_runS (As := as.map (pm_rv ad)) (rest := st'.map (pm_rv ad)) (Ts := pm_tbl) ⟨X.1, X.2.1, X.2.2.1, X.2.2.2.1, X.2.2.2.2.1⟩ (hM l D ad ta g _ hh o4 hp) (va_cwS n X.2.2.2.2.1 (pm_goodS h0 h1 h2 h4) rfl rfl rfl hy ⟨hd', by show 8 + (nL' + 11) + 64 * d' ≤ 64 * d; omega⟩) ⟨pm_blind, fun U hU hW => ⟨rfl, by rw [hU]; exact hP, va_K.moved hW.alike X.2.2.2.2.2.1, hD, X.2.2.2.2.2.2.1.to hS hU hW⟩⟩ rfl (by rw [List.length_map]; exact hlen) hl.1 (by show List.map (pm_rv ad) _ = _; rw [pm_map_rev]) (lv_room (by rw [pm_cs_rv]; exact hcs)) hd ⟨Nat.le_refl _, Nat.le_refl _⟩) hS (fun q _ h => h) (fun q h => h) (fun r u tq H1 locs1 ht hvm hw hB hz1 hk1 hS1 => ?_)
    have hB : va_P D pm_cl (pm_wd ad ta u) tq.heap := hB
    rw [ht] at hB
    exact pm_kks (hK _ _ (hk9 r u hw)) o1 (pm_ok1 trivial o3) H1 locs1 ls hB (pm_D_any hD) hS1 hl
  · refine va_calli (va_runS (As := as.map (pm_rv ad)) (rest := st'.map (pm_rv ad)) (Ts := pm_tbl) ⟨X.1, X.2.1, X.2.2.1, X.2.2.2.1, X.2.2.2.2.1⟩ (hM l D ad ta g _ hh o4 hp) (va_cwS n X.2.2.2.2.1 (pm_goodS h0 h1 h2 h4) rfl rfl rfl hy ⟨hd', by show 8 + (nL' + 11) + 64 * d' ≤ 64 * d; omega⟩) ⟨pm_blind, fun U hU hW => ⟨rfl, by rw [hU]; exact hP, va_K.moved hW.alike X.2.2.2.2.2.1, hD, X.2.2.2.2.2.2.1.to hS hU hW⟩⟩ rfl (by rw [List.length_map]; exact hlen) hl.1 (by show List.map (pm_rv ad) _ = _; rw [pm_map_rev]) (lv_room (by rw [pm_cs_rv]; exact hcs)) hd ⟨Nat.le_refl _, Nat.le_refl _⟩) hS (fun q _ h => h) (fun q h => h) (fun r u tq H1 locs1 ht hvm hw hB hz1 hk1 hS1 => ?_)
    have hB : va_P D pm_cl (pm_wd ad ta u) tq.heap := hB
    rw [ht] at hB
    exact pm_kks (hK _ _ (hk9 r u hw)) o1 (pm_ok1 trivial o3) H1 locs1 ls hB (pm_D_any hD) hS1 hl
  · refine va_calli (va_runS (As := as.map (pm_rv ad)) (rest := st'.map (pm_rv ad)) (Ts := pm_tbl) ⟨X.1, X.2.1, X.2.2.1, X.2.2.2.1, X.2.2.2.2.1⟩ (hM l D ad ta g _ hh o4 hp) (va_cwS n X.2.2.2.2.1 (pm_goodS h0 h1 h2 h4) rfl rfl rfl hy ⟨hd', by show 8 + (nL' + 11) + 64 * d' ≤ 64 * d; omega⟩) ⟨pm_blind, fun U hU hW => ⟨rfl, by rw [hU]; exact hP, va_K.moved hW.alike X.2.2.2.2.2.1, hD, X.2.2.2.2.2.2.1.to hS hU hW⟩⟩ rfl (by rw [List.length_map]; exact hlen) hl.1 (by show List.map (pm_rv ad) _ = _; rw [pm_map_rev]) (lv_room (by rw [pm_cs_rv]; exact hcs)) hd ⟨Nat.le_refl _, Nat.le_refl _⟩) hS (fun q _ h => h) (fun q h => h) (fun r u tq H1 locs1 ht hvm hw hB hz1 hk1 hS1 => ?_)
    have hB : va_P D pm_cl (pm_wd ad ta u) tq.heap := hB
    rw [ht] at hB
    exact pm_kks (hK _ _ (hk9 r u hw)) o1 (pm_ok1 trivial o3) H1 locs1 ls hB (pm_D_any hD) hS1 hl
  · refine va_calli (va_runS (As := as.map (pm_rv ad)) (rest := st'.map (pm_rv ad)) (Ts := pm_tbl) ⟨X.1, X.2.1, X.2.2.1, X.2.2.2.1, X.2.2.2.2.1⟩ (hM l D ad ta g _ hh o4 hp) (va_cwS n X.2.2.2.2.1 (pm_goodS h0 h1 h2 h4) rfl rfl rfl hy ⟨hd', by show 8 + (nL' + 11) + 64 * d' ≤ 64 * d; omega⟩) ⟨pm_blind, fun U hU hW => ⟨rfl, by rw [hU]; exact hP, va_K.moved hW.alike X.2.2.2.2.2.1, hD, X.2.2.2.2.2.2.1.to hS hU hW⟩⟩ rfl (by rw [List.length_map]; exact hlen) hl.1 (by show List.map (pm_rv ad) _ = _; rw [pm_map_rev]) (lv_room (by rw [pm_cs_rv]; exact hcs)) hd ⟨Nat.le_refl _, Nat.le_refl _⟩) hS (fun q _ h => h) (fun q h => h) (fun r u tq H1 locs1 ht hvm hw hB hz1 hk1 hS1 => ?_)
    have hB : va_P D pm_cl (pm_wd ad ta u) tq.heap := hB
    rw [ht] at hB
    exact pm_kks (hK _ _ (hk9 r u hw)) o1 (pm_ok1 trivial o3) H1 locs1 ls hB (pm_D_any hD) hS1 hl
def i_cL {Γ : Type} (n : Nat) (pre : Γ → List pm_V → pm_H → Prop) (q : Γ → Int64 → pm_H → Prop) (nx : Nat) : pm_T := fun K z => match z with
  | (lv, st, h) => pm_pop n st [] (fun as st' => bif Nat.ble (pm_cs st') 8 then ∃ g, pre g as h ∧ ∀ v h', q g v h' → K (some nx) (lv, .inr (.inl v) :: st', h') else False)
theorem sd_cLv {Γ : Type} {own : String} {cc : ByteArray} {nL d rt pc nx idx n d' nL' c : Nat} {C : String} {T : u_T} {N : Nat} {y : MethodName} {b : ByteArray} {pre : Γ → List pm_V → pm_H → Prop} {q : Γ → Int64 → pm_H → Prop} (hM : pm_MT y b nL' 2 d' pre (pm_pl2 q)) (h0 : Cond.code y b nL' (pm_rt 2) ∈ pm_tbl) (hr : ∀ g av h, pre g av h → ∃ i t, av = .inr (.inr (c, i, 0)) :: t) (hcl : pm_cl[c]? = some (C, T, N)) (h1 : Cond.methodLink own idx y ∈ pm_tbl) (h2 : Cond.instanceMethod y ∈ pm_tbl) (h3 : Cond.selects C y y ∈ pm_tbl) (h4 : Cond.initialized C ∈ pm_tbl) (hy : y.cls = C ∧ y.cls ≠ "java/lang/invoke/MethodHandle" ∧ y.cls ≠ "java/lang/invoke/VarHandle" ∧ (parseMethodDescriptor y.desc).map (fun d => d.parameters.length) = some n) (hd' : d' + 1 ≤ d) (hL' : nL' ≤ 45) (hd : decode cc pc = .ok (.invokevirtual idx, 3)) (hn : pc + 3 = nx) : pm_sd own cc nL d rt pc (i_cL (n + 1) pre q nx) := by
  intro post p l e s m args below meth c9 D ad ta X K hK x h
  obtain ⟨lv, st, hh⟩ := x
  subst hn
  obtain ⟨as, st', rfl, hlen, h⟩ := pm_pop_spec h
  rw [List.append_nil] at h
  obtain ⟨hb, g, hp, hk9⟩ := pm_bt (b := Nat.ble (pm_cs st') 8) h
  have hcs : pm_cs st' ≤ 8 := Nat.ble_eq.mp hb
  intro o1 o2 H locs ls hP hD hS hl
  have o3 : ∀ v ∈ st', pm_ok v := fun v hv => o2 v (List.mem_append_right _ hv)
  have o4 : ∀ v ∈ as, pm_ok v := fun v hv => o2 v (List.mem_append_left _ (List.mem_reverse.mpr hv))
  obtain ⟨i, t, rfl⟩ := hr g as hh hp
  have hc6 := pm_cl_lt hcl
  have hri := pm_okin (o4 _ List.mem_cons_self) (by show c < 7; omega)
  obtain ⟨q0, hq0⟩ := pm_pl hri
  have hw0 := pm_wd_at (ad := ad) (ta := ta) (h := hh) hq0
  rw [pm_obj hc6] at hw0
  have hlen9 : t.length = n := by simpa using hlen
  refine va_calll (va_runV (C := C) (b := ad (c, i, 0)) (As := t.map (pm_rv ad)) (rest := st'.map (pm_rv ad)) (Ts := pm_tbl) ⟨X.1, X.2.1, X.2.2.1, X.2.2.2.1, X.2.2.2.2.1⟩ (hM l D ad ta g _ hh o4 hp) (cwV n X.2.2.2.2.1 (pm_goodV h0 h1 h2 h3 h4) rfl rfl rfl hy ⟨hd', by show 8 + (nL' + 11) + 64 * d' ≤ 64 * d; omega⟩) ⟨pm_blind, va_recv X.2.2.2.2.2.1 hP hcl hw0, fun U hU hW => ⟨rfl, by rw [hU]; exact hP, va_K.moved hW.alike X.2.2.2.2.2.1, hD, X.2.2.2.2.2.2.1.to hS hU hW⟩⟩ rfl (by rw [List.length_map]; exact hlen9) hl.1 (by show List.map (pm_rv ad) _ = _; rw [pm_map_rev]; simp [pm_rv]) (lv_room (by rw [pm_cs_rv]; exact hcs)) hd ⟨Nat.le_refl _, Nat.le_refl _⟩) hS (fun q _ h => h) (fun q h => h) (fun r u tq H1 locs1 ht hvm hw hB hz1 hk1 hS1 => ?_)
  have hB : va_P D pm_cl (pm_wd ad ta u) tq.heap := hB
  rw [ht] at hB
  exact pm_kks (hK _ _ (hk9 r u hw)) o1 (pm_ok1 trivial o3) H1 locs1 ls hB (pm_D_any hD) hS1 hl
theorem sd_cLs {Γ : Type} {own : String} {cc : ByteArray} {nL d rt pc nx idx n d' nL' : Nat} {y : MethodName} {b : ByteArray} {pre : Γ → List pm_V → pm_H → Prop} {q : Γ → Int64 → pm_H → Prop} (hM : pm_MT y b nL' 2 d' pre (pm_pl2 q)) (h0 : Cond.code y b nL' (pm_rt 2) ∈ pm_tbl) (h1 : Cond.methodLink own idx y ∈ pm_tbl) (h2 : Cond.static y ∈ pm_tbl) (h4 : Cond.initialized y.cls ∈ pm_tbl) (hy : y.cls ≠ "java/lang/invoke/MethodHandle" ∧ y.cls ≠ "java/lang/invoke/VarHandle" ∧ (parseMethodDescriptor y.desc).map (fun d => d.parameters.length) = some n) (hd' : d' + 1 ≤ d) (hL' : nL' ≤ 45) (hd : decode cc pc = .ok (.invokestatic idx, 3)) (hn : pc + 3 = nx) : pm_sd own cc nL d rt pc (i_cL n pre q nx) := by
  intro post p l e s m args below meth c9 D ad ta X K hK x h
  obtain ⟨lv, st, hh⟩ := x
  subst hn
  obtain ⟨as, st', rfl, hlen, h⟩ := pm_pop_spec h
  rw [List.append_nil] at h
  obtain ⟨hb, g, hp, hk9⟩ := pm_bt (b := Nat.ble (pm_cs st') 8) h
  have hcs : pm_cs st' ≤ 8 := Nat.ble_eq.mp hb
  intro o1 o2 H locs ls hP hD hS hl
  have o3 : ∀ v ∈ st', pm_ok v := fun v hv => o2 v (List.mem_append_right _ hv)
  have o4 : ∀ v ∈ as, pm_ok v := fun v hv => o2 v (List.mem_append_left _ (List.mem_reverse.mpr hv))
  refine va_calll (va_runS (As := as.map (pm_rv ad)) (rest := st'.map (pm_rv ad)) (Ts := pm_tbl) ⟨X.1, X.2.1, X.2.2.1, X.2.2.2.1, X.2.2.2.2.1⟩ (hM l D ad ta g _ hh o4 hp) (va_cwS n X.2.2.2.2.1 (pm_goodS h0 h1 h2 h4) rfl rfl rfl hy ⟨hd', by show 8 + (nL' + 11) + 64 * d' ≤ 64 * d; omega⟩) ⟨pm_blind, fun U hU hW => ⟨rfl, by rw [hU]; exact hP, va_K.moved hW.alike X.2.2.2.2.2.1, hD, X.2.2.2.2.2.2.1.to hS hU hW⟩⟩ rfl (by rw [List.length_map]; exact hlen) hl.1 (by show List.map (pm_rv ad) _ = _; rw [pm_map_rev]) (lv_room (by rw [pm_cs_rv]; exact hcs)) hd ⟨Nat.le_refl _, Nat.le_refl _⟩) hS (fun q _ h => h) (fun q h => h) (fun r u tq H1 locs1 ht hvm hw hB hz1 hk1 hS1 => ?_)
  have hB : va_P D pm_cl (pm_wd ad ta u) tq.heap := hB
  rw [ht] at hB
  exact pm_kks (hK _ _ (hk9 r u hw)) o1 (pm_ok1 trivial o3) H1 locs1 ls hB (pm_D_any hD) hS1 hl
def i_cv {Γ : Type} (n : Nat) (pre : Γ → List pm_V → pm_H → Prop) (q : Γ → pm_H → Prop) (nx : Nat) : pm_T := fun K z => match z with
  | (lv, st, h) => pm_pop n st [] (fun as st' => bif Nat.ble (pm_cs st') 8 then ∃ g, pre g as h ∧ ∀ h', q g h' → K (some nx) (lv, st', h') else False)
theorem sd_cvv {Γ : Type} {own : String} {cc : ByteArray} {nL d rt pc nx idx n d' nL' c : Nat} {C : String} {T : u_T} {N : Nat} {y : MethodName} {b : ByteArray} {pre : Γ → List pm_V → pm_H → Prop} {q : Γ → pm_H → Prop} (hM : pm_MT y b nL' 0 d' pre (pm_pv q)) (h0 : Cond.code y b nL' (pm_rt 0) ∈ pm_tbl) (hr : ∀ g av h, pre g av h → ∃ i t, av = .inr (.inr (c, i, 0)) :: t) (hcl : pm_cl[c]? = some (C, T, N)) (h1 : Cond.methodLink own idx y ∈ pm_tbl) (h2 : Cond.instanceMethod y ∈ pm_tbl) (h3 : Cond.selects C y y ∈ pm_tbl) (h4 : Cond.initialized C ∈ pm_tbl) (hy : y.cls = C ∧ y.cls ≠ "java/lang/invoke/MethodHandle" ∧ y.cls ≠ "java/lang/invoke/VarHandle" ∧ (parseMethodDescriptor y.desc).map (fun d => d.parameters.length) = some n) (hd' : d' + 1 ≤ d) (hL' : nL' ≤ 45) (hd : decode cc pc = .ok (.invokevirtual idx, 3)) (hn : pc + 3 = nx) : pm_sd own cc nL d rt pc (i_cv (n + 1) pre q nx) := by
  intro post p l e s m args below meth c9 D ad ta X K hK x h
  obtain ⟨lv, st, hh⟩ := x
  subst hn
  obtain ⟨as, st', rfl, hlen, h⟩ := pm_pop_spec h
  rw [List.append_nil] at h
  obtain ⟨hb, g, hp, hk9⟩ := pm_bt (b := Nat.ble (pm_cs st') 8) h
  have hcs : pm_cs st' ≤ 8 := Nat.ble_eq.mp hb
  intro o1 o2 H locs ls hP hD hS hl
  have o3 : ∀ v ∈ st', pm_ok v := fun v hv => o2 v (List.mem_append_right _ hv)
  have o4 : ∀ v ∈ as, pm_ok v := fun v hv => o2 v (List.mem_append_left _ (List.mem_reverse.mpr hv))
  obtain ⟨i, t, rfl⟩ := hr g as hh hp
  have hc6 := pm_cl_lt hcl
  have hri := pm_okin (o4 _ List.mem_cons_self) (by show c < 7; omega)
  obtain ⟨q0, hq0⟩ := pm_pl hri
  have hw0 := pm_wd_at (ad := ad) (ta := ta) (h := hh) hq0
  rw [pm_obj hc6] at hw0
  have hlen9 : t.length = n := by simpa using hlen
  refine va_callv (va_runV (C := C) (b := ad (c, i, 0)) (As := t.map (pm_rv ad)) (rest := st'.map (pm_rv ad)) (Ts := pm_tbl) ⟨X.1, X.2.1, X.2.2.1, X.2.2.2.1, X.2.2.2.2.1⟩ (hM l D ad ta g _ hh o4 hp) (cwV n X.2.2.2.2.1 (pm_goodV h0 h1 h2 h3 h4) rfl rfl rfl hy ⟨hd', by show 8 + (nL' + 11) + 64 * d' ≤ 64 * d; omega⟩) ⟨pm_blind, va_recv X.2.2.2.2.2.1 hP hcl hw0, fun U hU hW => ⟨rfl, by rw [hU]; exact hP, va_K.moved hW.alike X.2.2.2.2.2.1, hD, X.2.2.2.2.2.2.1.to hS hU hW⟩⟩ rfl (by rw [List.length_map]; exact hlen9) hl.1 (by show List.map (pm_rv ad) _ = _; rw [pm_map_rev]; simp [pm_rv]) (lv_room (by rw [pm_cs_rv]; exact hcs)) hd ⟨Nat.le_refl _, Nat.le_refl _⟩) hS (fun q _ h => h) (fun q h => h) (fun u tq H1 locs1 ht hvm hw hB hz1 hk1 hS1 => ?_)
  have hB : va_P D pm_cl (pm_wd ad ta u) tq.heap := hB
  rw [ht] at hB
  exact pm_kks (hK _ _ (hk9 u hw)) o1 o3 H1 locs1 ls hB (pm_D_any hD) hS1 hl
theorem sd_cvs {Γ : Type} {own : String} {cc : ByteArray} {nL d rt pc nx idx n d' nL' : Nat} {y : MethodName} {b : ByteArray} {pre : Γ → List pm_V → pm_H → Prop} {q : Γ → pm_H → Prop} (hM : pm_MT y b nL' 0 d' pre (pm_pv q)) (h0 : Cond.code y b nL' (pm_rt 0) ∈ pm_tbl) (h1 : Cond.methodLink own idx y ∈ pm_tbl) (h2 : Cond.static y ∈ pm_tbl) (h4 : Cond.initialized y.cls ∈ pm_tbl) (hy : y.cls ≠ "java/lang/invoke/MethodHandle" ∧ y.cls ≠ "java/lang/invoke/VarHandle" ∧ (parseMethodDescriptor y.desc).map (fun d => d.parameters.length) = some n) (hd' : d' + 1 ≤ d) (hL' : nL' ≤ 45) (hd : decode cc pc = .ok (.invokestatic idx, 3)) (hn : pc + 3 = nx) : pm_sd own cc nL d rt pc (i_cv n pre q nx) := by
  intro post p l e s m args below meth c9 D ad ta X K hK x h
  obtain ⟨lv, st, hh⟩ := x
  subst hn
  obtain ⟨as, st', rfl, hlen, h⟩ := pm_pop_spec h
  rw [List.append_nil] at h
  obtain ⟨hb, g, hp, hk9⟩ := pm_bt (b := Nat.ble (pm_cs st') 8) h
  have hcs : pm_cs st' ≤ 8 := Nat.ble_eq.mp hb
  intro o1 o2 H locs ls hP hD hS hl
  have o3 : ∀ v ∈ st', pm_ok v := fun v hv => o2 v (List.mem_append_right _ hv)
  have o4 : ∀ v ∈ as, pm_ok v := fun v hv => o2 v (List.mem_append_left _ (List.mem_reverse.mpr hv))
  refine va_callv (va_runS (As := as.map (pm_rv ad)) (rest := st'.map (pm_rv ad)) (Ts := pm_tbl) ⟨X.1, X.2.1, X.2.2.1, X.2.2.2.1, X.2.2.2.2.1⟩ (hM l D ad ta g _ hh o4 hp) (va_cwS n X.2.2.2.2.1 (pm_goodS h0 h1 h2 h4) rfl rfl rfl hy ⟨hd', by show 8 + (nL' + 11) + 64 * d' ≤ 64 * d; omega⟩) ⟨pm_blind, fun U hU hW => ⟨rfl, by rw [hU]; exact hP, va_K.moved hW.alike X.2.2.2.2.2.1, hD, X.2.2.2.2.2.2.1.to hS hU hW⟩⟩ rfl (by rw [List.length_map]; exact hlen) hl.1 (by show List.map (pm_rv ad) _ = _; rw [pm_map_rev]) (lv_room (by rw [pm_cs_rv]; exact hcs)) hd ⟨Nat.le_refl _, Nat.le_refl _⟩) hS (fun q _ h => h) (fun q h => h) (fun u tq H1 locs1 ht hvm hw hB hz1 hk1 hS1 => ?_)
  have hB : va_P D pm_cl (pm_wd ad ta u) tq.heap := hB
  rw [ht] at hB
  exact pm_kks (hK _ _ (hk9 u hw)) o1 o3 H1 locs1 ls hB (pm_D_any hD) hS1 hl
/-! runs -/
def pm_fd : List (Nat × pm_T) → Nat → (pm_T → Prop) → Prop
  | [], _, _ => False
  | (j, t) :: r, i, k => bif Nat.beq j i then k t else pm_fd r i k
theorem pm_fd_spec : ∀ {T : List (Nat × pm_T)} {i : Nat} {k : pm_T → Prop}, pm_fd T i k → ∃ t, (i, t) ∈ T ∧ k t
  | (j, t) :: r, i, k, h => by
    unfold pm_fd at h
    cases hb : Nat.beq j i with
    | true =>
      rw [hb] at h
      have e : j = i := Nat.eq_of_beq_eq_true hb
      subst e
      exact ⟨t, List.mem_cons_self, h⟩
    | false =>
      rw [hb] at h
      obtain ⟨u, h1, h2⟩ := pm_fd_spec (T := r) h
      exact ⟨u, List.mem_cons_of_mem _ h1, h2⟩
def pm_pj : List Nat → pm_L → (pm_L → Prop) → Prop
  | [], _, k => k []
  | i :: is, lv, k => pm_get lv i (fun v => pm_pj is lv (fun t => k ((i, v) :: t)))
theorem pm_pj_spec : ∀ {is : List Nat} {lv : pm_L} {k : pm_L → Prop}, pm_pj is lv k → ∃ lv', (∀ q ∈ lv', q ∈ lv) ∧ k lv'
  | [], lv, k, h => ⟨[], fun _ h => absurd h List.not_mem_nil, h⟩
  | i :: is, lv, k, h => by
    obtain ⟨v, h1, h2⟩ := pm_get_spec h
    obtain ⟨lv', h3, h4⟩ := pm_pj_spec (is := is) h2
    exact ⟨(i, v) :: lv', List.forall_mem_cons.mpr ⟨h1, h3⟩, h4⟩
/-- where a run stops: at the heads of loops, with the locals that live there -/
def pm_sp : List (Nat × List Nat) → Nat → (List Nat → Prop) → Prop → Prop
  | [], _, _, d => d
  | (j, t) :: r, i, k, d => bif Nat.beq j i then k t else pm_sp r i k d
theorem pm_sp_spec : ∀ {S : List (Nat × List Nat)} {i : Nat} {k : List Nat → Prop} {d : Prop}, pm_sp S i k d → (∃ is, k is) ∨ d
  | [], i, k, d, h => Or.inr h
  | (j, t) :: r, i, k, d, h => by
    unfold pm_sp at h
    cases hb : Nat.beq j i with
    | true => rw [hb] at h; exact Or.inl ⟨t, h⟩
    | false => rw [hb] at h; exact pm_sp_spec (S := r) h
def pm_wp (T : List (Nat × pm_T)) (S : List (Nat × List Nat)) : Nat → pm_K → Nat → pm_S → Prop
  | 0, K, pc, x => K (some pc) x
  | n + 1, K, pc, x => pm_fd T pc (fun t => t (fun o y => match o with
    | none => K none y
    | some pc' => pm_sp S pc' (fun is => match y with
      | (lv, st, h) => pm_pj is lv (fun lv' => K (some pc') (lv', st, h))) (pm_wp T S n K pc' y)) x)
theorem pm_W_weak {nL d rt : Nat} {post : List pm_V → pm_H → Prop} {p : Program} {l : Launch} {e : Env} {s : State} {m : MethodId} {args : Array Value} {below : List Frame} {meth : Method} {c : Code} {D : va_G} {ad : pm_R → Nat} {ta : Nat → ClassId} {pc : Nat} {lv lv' : pm_L} {st : List pm_V} {h : pm_H} (hs : ∀ q ∈ lv', q ∈ lv) (hw : pm_W nL d rt post p l e s m args below meth c D ad ta pc (lv', st, h)) : pm_W nL d rt post p l e s m args below meth c D ad ta pc (lv, st, h) := by
  intro o1 o2 H locs ls hP hD hS hl
  refine hw (fun q hq => o1 q (hs q hq)) o2 H locs ls hP hD hS ⟨hl.1, hl.2.1, fun q hq => ?_⟩
  obtain ⟨q', hq', rfl⟩ := List.mem_map.mp hq
  exact hl.2.2 _ (List.mem_map.mpr ⟨q', hs q' hq', rfl⟩)
theorem pm_wp_sound {own : String} {cc : ByteArray} {nL d rt : Nat} {T : List (Nat × pm_T)} (hT : ∀ q ∈ T, pm_sd own cc nL d rt q.1 q.2) {post : List pm_V → pm_H → Prop} {p : Program} {l : Launch} {e : Env} {s : State} {m : MethodId} {args : Array Value} {below : List Frame} {meth : Method} {c : Code} {D : va_G} {ad : pm_R → Nat} {ta : Nat → ClassId} (X : pm_X own cc nL rt p s m args meth c D ad ta) (S : List (Nat × List Nat)) : ∀ (n pc : Nat) (x : pm_S), pm_wp T S n (pm_KK nL d rt post p l e s m args below meth c D ad ta) pc x → pm_W nL d rt post p l e s m args below meth c D ad ta pc x
  | 0, pc, x, h => h
  | n + 1, pc, x, h => by
    obtain ⟨t, ht, h1⟩ := pm_fd_spec h
    refine hT _ ht post p l e s m args below meth c D ad ta X _ (fun o y hy => ?_) x h1
    cases o with
    | none => exact hy
    | some pc' =>
      obtain ⟨lv, st, hh⟩ := y
      rcases pm_sp_spec hy with ⟨is, h2⟩ | h2
      · obtain ⟨lv', h3, h4⟩ := pm_pj_spec h2
        exact pm_W_weak h3 h4
      · exact pm_wp_sound hT X S n pc' _ h2
def pm_ar : Nat → List pm_V → pm_L
  | _, [] => []
  | i, v :: vs => (i, v) :: pm_ar (bif pm_lg v then i + 2 else i + 1) vs
theorem pm_ar_rv (ad : pm_R → Nat) : ∀ (vs : List pm_V) (i : Nat), (pm_ar i vs).map (fun q => (q.1, pm_rv ad q.2)) = lv_args i (vs.map (pm_rv ad))
  | [], i => rfl
  | v :: vs, i => by
    simp only [pm_ar, List.map_cons, lv_args]
    rw [pm_ar_rv ad vs, pm_cat_rv]
    cases hg : pm_lg v with
    | true => simp [pm_cat, hg]
    | false => simp [pm_cat, hg]
theorem pm_ar_mem : ∀ {vs : List pm_V} {i : Nat} {q : Nat × pm_V}, q ∈ pm_ar i vs → q.2 ∈ vs
  | v :: vs, i, q, h => by
    rcases List.mem_cons.mp h with rfl | h
    · exact List.mem_cons_self
    · exact List.mem_cons_of_mem _ (pm_ar_mem h)
theorem pm_sl_cs (ad : pm_R → Nat) : ∀ vs : List pm_V, (lg_sl (vs.map (pm_rv ad))).length = pm_cs vs
  | [] => rfl
  | v :: vs => by
    have ih := pm_sl_cs ad vs
    unfold lg_sl at ih ⊢
    rw [List.map_cons, List.flatMap_cons, List.length_append, ih, pm_cs, pm_cat_rv]
    cases hg : pm_lg v with
    | true => simp [pm_cat, hg]
    | false => simp [pm_cat, hg]
/-- what a proof of a method shows: from its entry a run over its table ends, with 'post'; K is any predicate that runs keep -/
def pm_pf (T : List (Nat × pm_T)) {Γ : Type} (pre : Γ → List pm_V → pm_H → Prop) (post : Γ → List pm_V → pm_H → Prop) : Prop := ∀ (g : Γ) (av : List pm_V) (h : pm_H) (K : pm_K), (∀ (S : List (Nat × List Nat)) (n pc : Nat) (x : pm_S), pm_wp T S n K pc x → K (some pc) x) → pre g av h → (∀ (r : List pm_V) (h' : pm_H), post g r h' → K none ([], r, h')) → K (some 0) (pm_ar 0 av, [], h)
theorem pm_met {own : String} {cc : ByteArray} {nL d rt : Nat} {T : List (Nat × pm_T)} (hT : ∀ q ∈ T, pm_sd own cc nL d rt q.1 q.2) {y : MethodName} (hy : plainName y.cls = true) (hyo : y.cls = own) {Γ : Type} {pre : Γ → List pm_V → pm_H → Prop} {post : Γ → List pm_V → pm_H → Prop} (hc : ∀ g av h, pre g av h → pm_cs av ≤ nL) (hp : pm_pf T pre post) : pm_MT y cc nL rt d pre post := by
  intro l D ad ta g av h hok hpre
  refine Met.ofW (cc := cc) (maxL := nL) (ret := pm_rt rt) hy rfl ?_
  intro p e s m args below meth c s₁ B hml hv
  obtain ⟨rfl, hP, hK, hD, hZ⟩ := hv
  have hts := atoms_spec (ws := .code y cc nL (pm_rt rt) :: pm_tbl) B.pre
  have hown : s.vm.findClass own = some m.cls := by rw [← hyo]; exact findClass_of_methodNamed B.named
  have X : pm_X own cc nL rt p s m (List.map (pm_rv ad) av).toArray meth c D ad ta := ⟨B.exec, B.bytes, hml, hown, fun w hw => hts w (List.mem_cons_of_mem _ hw), hK, hZ, B.returns, B.notSynchronized⟩
  have h1 := hp g av h (pm_KK nL d rt (post g) p l e s m (List.map (pm_rv ad) av).toArray below meth c D ad ta) (fun S n pc x hx => pm_wp_sound hT X S n pc x hx) hpre (fun r h' hr => hr)
  have hl := lv_entry (av.map (pm_rv ad)) (n := nL) (by rw [pm_sl_cs]; exact hc g av h hpre)
  rw [lg_entry_eq]
  exact pm_kks h1 (fun q hq => hok _ (pm_ar_mem hq)) (fun _ h => absurd h List.not_mem_nil) s.heap [] _ hP hD va_S.rf (by rw [pm_ar_rv]; exact hl)

