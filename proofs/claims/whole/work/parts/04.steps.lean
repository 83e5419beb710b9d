/-! THE PURE MACHINE, its steps. -/
/-- the tables' words that travel -/
def pm_tbl : List Cond := lw_tbl.filter goodWord
theorem pm_tin {w : Cond} (h : w ∈ lw_tbl) (g : goodWord w = true) : w ∈ pm_tbl := List.mem_filter.mpr ⟨h, g⟩
def pm_get : pm_L → Nat → (pm_V → Prop) → Prop
  | [], _, _ => False
  | (j, v) :: t, i, k => bif Nat.beq j i then k v else pm_get t i k
def pm_lg : pm_V → Bool
  | .inr (.inl _) => true
  | _ => false
def pm_bad (j : Nat) (w : pm_V) (i : Nat) (g : Bool) : Bool := Nat.beq j i || (Nat.beq (j + 1) i && pm_lg w) || (g && Nat.beq j (i + 1))
def pm_set : pm_L → Nat → pm_V → (pm_L → Prop) → Prop
  | [], i, v, k => k [(i, v)]
  | (j, w) :: t, i, v, k => bif pm_bad j w i (pm_lg v) then pm_set t i v k else pm_set t i v (fun t' => k ((j, w) :: t'))
theorem pm_get_spec : ∀ {lv : pm_L} {i : Nat} {k : pm_V → Prop}, pm_get lv i k → ∃ v, (i, v) ∈ lv ∧ k v
  | (j, v) :: t, i, k, h => by
    unfold pm_get at h
    cases hb : Nat.beq j i with
    | true =>
      rw [hb] at h
      have e : j = i := Nat.eq_of_beq_eq_true hb
      subst e
      exact ⟨v, List.mem_cons_self, h⟩
    | false =>
      rw [hb] at h
      obtain ⟨u, h1, h2⟩ := pm_get_spec (lv := t) h
      exact ⟨u, List.mem_cons_of_mem _ h1, h2⟩
theorem pm_set_spec : ∀ {lv : pm_L} {i : Nat} {v : pm_V} {k : pm_L → Prop}, pm_set lv i v k → k (lv.filter (fun q => !pm_bad q.1 q.2 i (pm_lg v)) ++ [(i, v)])
  | [], i, v, k, h => h
  | (j, w) :: t, i, v, k, h => by
    unfold pm_set at h
    cases hb : pm_bad j w i (pm_lg v) with
    | true =>
      rw [hb] at h
      have h2 := pm_set_spec (lv := t) h
      rw [List.filter_cons_of_neg (by simp [hb])]
      exact h2
    | false =>
      rw [hb] at h
      have h2 := pm_set_spec (lv := t) (k := fun t' => k ((j, w) :: t')) h
      rw [List.filter_cons_of_pos (by simp [hb])]
      exact h2
theorem pm_get_mono : ∀ {lv : pm_L} {i : Nat} {k k' : pm_V → Prop}, (∀ v, k v → k' v) → pm_get lv i k → pm_get lv i k'
  | (j, v) :: t, i, k, k', hk, h => by
    unfold pm_get at h ⊢
    cases hb : Nat.beq j i with
    | true => rw [hb] at h; exact hk v h
    | false => rw [hb] at h; exact pm_get_mono (lv := t) hk h
def pm_cat (v : pm_V) : Nat := bif pm_lg v then 2 else 1
def pm_cs : List pm_V → Nat
  | [] => 0
  | v :: t => pm_cat v + pm_cs t
theorem pm_cat_rv (ad : pm_R → Nat) (v : pm_V) : (pm_rv ad v).category = pm_cat v := by
  rcases v with x | x | x <;> rfl
theorem pm_cs_rv (ad : pm_R → Nat) : ∀ st : List pm_V, ((st.map (pm_rv ad)).map fun v => v.category).sum = pm_cs st
  | [] => rfl
  | v :: t => by
    simp only [List.map_cons, List.sum_cons, pm_cs]
    rw [pm_cat_rv, pm_cs_rv ad t]
def pm_room (d : Nat) : Room := { frames := d, cells := 0, slots := 0, locals := 64 * d }
def pm_num (j : Nat) : Int32 := [3, 3, 3, 3, 1, 1, 1, 2].getD j 0
def pm_bnd (j : Nat) : Int32 := [9, 99, 3, 9, 99, 3, 9, 99, 3, 9, 99, 3, 9, 0, 0, 9, 0, 0, 20, 0, 0, 99, 9, 0].getD j 0
def pm_wi : List Nat := [159, 161, 163, 165, 167, 169, 170, 171]
def pm_wt : List String := ["plain", "law", "arts", "theology", "fellow", "damp", "bite", "ask"]
def pm_wl : List Nat := [5, 3, 4, 8, 6, 4, 4, 3]
def pm_wb : List (List Int32) := [[112, 108, 97, 105, 110], [108, 97, 119], [97, 114, 116, 115], [116, 104, 101, 111, 108, 111, 103, 121], [102, 101, 108, 108, 111, 119], [100, 97, 109, 112], [98, 105, 116, 101], [97, 115, 107]]
/-- what stands outside the world: the static tables, the words -/
def pm_Z (ad : pm_R → Nat) (U : State) : Prop :=
  va_Z RX3 "NUMBERS" "[I" (.ref (ad (7, 0, 0))) (pm_A ad) U U.heap ∧ va_T .int (ad (7, 0, 0)) 8 (fun j => .int (pm_num j)) (pm_A ad) U U.heap ∧
  va_Z RX3 "BOUNDS" "[I" (.ref (ad (7, 1, 0))) (pm_A ad) U U.heap ∧ va_T .int (ad (7, 1, 0)) 24 (fun j => .int (pm_bnd j)) (pm_A ad) U U.heap ∧
  va_Z RJ0 "COMPACT_STRINGS" "Z" (.int 1) (pm_A ad) U U.heap ∧
  (∀ i, i < 8 → vk_R RX3 (pm_wi.getD i 0) (pm_wt.getD i "") (ad (8, i, 0)) U) ∧ vk_S 8 pm_wl pm_wb (fun i => ad (8, i, 0)) (fun i => ad (8, i, 1)) (pm_A ad) U U.heap
theorem pm_Z.to {ad : pm_R → Nat} {s U : State} {H : Heap} {locs : List Loc} (h : pm_Z ad s) (hS : va_S (pm_A ad) s.heap H locs) (hU : U.heap = H) (hW : s.WarmedH U.vm) : pm_Z ad U := by
  obtain ⟨h1, h2, h3, h4, h5, h6, h7⟩ := h
  have hq : ∀ a : Nat, a < s.heap.size → ¬ pm_A ad a → U.heap[a]? = s.heap[a]? := fun a h8 h9 => by rw [hU]; exact hS.2.1 a h8 h9
  have hv := hW.alike
  exact ⟨va_Z.moved hv (h1.kept hq), va_T.moved hv (h2.kept hq), va_Z.moved hv (h3.kept hq), va_T.moved hv (h4.kept hq), va_Z.moved hv (h5.kept hq), fun i hi => (h6 i hi).warm hW, vk_S.moved hv (h7.kept hq)⟩
def pm_rt (rt : Nat) : Option FieldType := match rt with
  | 0 => none
  | 1 => some .int
  | 2 => some .long
  | 3 => some .boolean
  | 4 => some .char
  | _ => some .byte
def pm_B (D : va_G) (ad : pm_R → Nat) (ta : Nat → ClassId) (h : pm_H) (t : State) : Prop := va_P D pm_cl (pm_wd ad ta h) t.heap
def pm_Qc (rt : Nat) (D : va_G) (ad : pm_R → Nat) (ta : Nat → ClassId) (post : List pm_V → pm_H → Prop) : Array Value → State → Outcome → State → Prop := match rt with
  | 0 => va_Qv (fun h : pm_H => post [] h) (pm_B D ad ta) (pm_A ad)
  | 2 => va_Ql (fun (r : Int64) (h : pm_H) => post [.inr (.inl r)] h) (pm_B D ad ta) (pm_A ad)
  | _ => va_Qi (fun (r : Int32) (h : pm_H) => post [.inl r] h) (pm_B D ad ta) (pm_A ad)
section PMW
variable (own : String) (cc : ByteArray) (nL d rt : Nat) (post : List pm_V → pm_H → Prop) (p : Program) (l : Launch) (e : Env) (s : State) (m : MethodId) (args : Array Value) (below : List Frame) (meth : Method) (c : Code) (D : va_G) (ad : pm_R → Nat) (ta : Nat → ClassId)
def pm_X : Prop := p.tables.exec = Jvm.exec ∧ c.code = cc ∧ c.maxLocals = nL ∧ s.vm.findClass own = some m.cls ∧ (∀ w ∈ pm_tbl, w.before args s = true) ∧ va_K D pm_cl (pm_tys ta) s ∧ pm_Z ad s ∧ meth.sig.returnType = pm_rt rt ∧ meth.locks = false
def pm_W (pc : Nat) (x : pm_S) : Prop := (∀ q ∈ x.1, pm_ok q.2) → (∀ v ∈ x.2.1, pm_ok v) → ∀ (H : Heap) (locs : List Loc) (ls : Array Slot), va_P D pm_cl (pm_wd ad ta x.2.2) H → va_D (pm_A ad) (pm_wd ad ta x.2.2) → va_S (pm_A ad) s.heap H locs → lv_has ls nL (x.1.map fun q => (q.1, pm_rv ad q.2)) → W p l e (pm_room d) s m args below meth c H locs 0 0 (MQ below (pm_Qc rt D ad ta post) args s 0 0 (pm_A ad)) (F0 m pc ls (x.2.1.map (pm_rv ad)))
def pm_KK : pm_K := fun o x => match o with
  | none => post x.2.1 x.2.2
  | some pc => pm_W nL d rt post p l e s m args below meth c D ad ta pc x
end PMW
/-- a step's transformer is sound at pc -/
def pm_sd (own : String) (cc : ByteArray) (nL d rt : Nat) (pc : Nat) (tr : pm_T) : Prop := ∀ (post : List pm_V → pm_H → Prop) (p : Program) (l : Launch) (e : Env) (s : State) (m : MethodId) (args : Array Value) (below : List Frame) (meth : Method) (c : Code) (D : va_G) (ad : pm_R → Nat) (ta : Nat → ClassId), pm_X own cc nL rt p s m args meth c D ad ta → ∀ K : pm_K, (∀ o x, K o x → pm_KK nL d rt post p l e s m args below meth c D ad ta o x) → ∀ x, tr K x → pm_W nL d rt post p l e s m args below meth c D ad ta pc x
theorem pm_lat {ad : pm_R → Nat} {ls : Array Slot} {nL : Nat} {lv : pm_L} {i : Nat} {v : pm_V} (hl : lv_has ls nL (lv.map fun q => (q.1, pm_rv ad q.2))) (hv : (i, v) ∈ lv) : ls[i]? = some (.val (pm_rv ad v)) := hl.2.2 (i, pm_rv ad v) (List.mem_map.mpr ⟨(i, v), hv, rfl⟩)
theorem pm_kks {nL d rt : Nat} {post : List pm_V → pm_H → Prop} {p : Program} {l : Launch} {e : Env} {s : State} {m : MethodId} {args : Array Value} {below : List Frame} {meth : Method} {c : Code} {D : va_G} {ad : pm_R → Nat} {ta : Nat → ClassId} {pc : Nat} {x : pm_S} (h : pm_KK nL d rt post p l e s m args below meth c D ad ta (some pc) x) : pm_W nL d rt post p l e s m args below meth c D ad ta pc x := h
theorem pm_ok1 {v : pm_V} {st : List pm_V} (h : pm_ok v) (o : ∀ v ∈ st, pm_ok v) : ∀ u ∈ v :: st, pm_ok u := List.forall_mem_cons.mpr ⟨h, o⟩
theorem pm_okt {v : pm_V} {st : List pm_V} (o : ∀ u ∈ v :: st, pm_ok u) : ∀ u ∈ st, pm_ok u := fun u h => o u (List.mem_cons_of_mem _ h)
theorem pm_okh {v : pm_V} {st : List pm_V} (o : ∀ u ∈ v :: st, pm_ok u) : pm_ok v := o v List.mem_cons_self
theorem pm_nb {j i : Nat} (h : Nat.beq j i = false) : (j == i) = false := by
  rw [beq_eq_false_iff_ne]
  intro e
  subst e
  rw [Nat.beq_refl] at h
  cases h
/-- a store into the locals -/
theorem pm_lset {ad : pm_R → Nat} {ls : Array Slot} {nL i : Nat} {lv : pm_L} {v : pm_V} (hk : lv_has ls nL ((i, pm_rv ad v) :: (lv.map fun q => (q.1, pm_rv ad q.2)).filter (fun q => !(q.1 == i) && !(q.1 + 1 == i && q.2.category == 2)))) (hv : pm_lg v = false) : lv_has ls nL ((lv.filter (fun q => !pm_bad q.1 q.2 i (pm_lg v)) ++ [(i, v)]).map fun q => (q.1, pm_rv ad q.2)) := by
  refine ⟨hk.1, hk.2.1, fun q hq => ?_⟩
  obtain ⟨⟨j, w⟩, hw, rfl⟩ := List.mem_map.mp hq
  refine hk.2.2 _ ?_
  rcases List.mem_append.mp hw with h | h
  · obtain ⟨h1, h2⟩ := List.mem_filter.mp h
    refine List.mem_cons_of_mem _ (List.mem_filter.mpr ⟨List.mem_map.mpr ⟨_, h1, rfl⟩, ?_⟩)
    simp only [pm_bad, Bool.not_or, Bool.and_eq_true] at h2
    have h3 : (j == i) = false := pm_nb (by simpa using h2.1.1)
    have h4 : ((j + 1 == i) && (pm_rv ad w).category == 2) = false := by
      have h5 := h2.1.2
      rw [pm_cat_rv]
      cases hg : pm_lg w with
      | true => rw [pm_nb (by simpa [hg] using h5)]; rfl
      | false => simp [pm_cat, hg]
    simp only [h3, h4]
    rfl
  · cases List.mem_singleton.mp h
    exact List.mem_cons_self
theorem pm_lset2 {ad : pm_R → Nat} {ls : Array Slot} {nL i : Nat} {lv : pm_L} {v : pm_V} (hk : lv_has ls nL ((i, pm_rv ad v) :: (lv.map fun q => (q.1, pm_rv ad q.2)).filter (fun q => !(q.1 == i) && (!(q.1 == i + 1) && !(q.1 + 1 == i && q.2.category == 2))))) (hv : pm_lg v = true) : lv_has ls nL ((lv.filter (fun q => !pm_bad q.1 q.2 i (pm_lg v)) ++ [(i, v)]).map fun q => (q.1, pm_rv ad q.2)) := by
  refine ⟨hk.1, hk.2.1, fun q hq => ?_⟩
  obtain ⟨⟨j, w⟩, hw, rfl⟩ := List.mem_map.mp hq
  refine hk.2.2 _ ?_
  rcases List.mem_append.mp hw with h | h
  · obtain ⟨h1, h2⟩ := List.mem_filter.mp h
    refine List.mem_cons_of_mem _ (List.mem_filter.mpr ⟨List.mem_map.mpr ⟨_, h1, rfl⟩, ?_⟩)
    simp only [pm_bad, Bool.not_or, Bool.and_eq_true, hv, Bool.true_and] at h2
    have h3 : (j == i) = false := pm_nb (by simpa using h2.1.1)
    have h6 : (j == i + 1) = false := pm_nb (by simpa using h2.2)
    have h4 : ((j + 1 == i) && (pm_rv ad w).category == 2) = false := by
      have h5 := h2.1.2
      rw [pm_cat_rv]
      cases hg : pm_lg w with
      | true => rw [pm_nb (by simpa [hg] using h5)]; rfl
      | false => simp [pm_cat, hg]
    simp only [h3, h4, h6]
    rfl
  · cases List.mem_singleton.mp h
    exact List.mem_cons_self
theorem pm_oks {lv : pm_L} {i : Nat} {v : pm_V} {g : Nat × pm_V → Bool} (o : ∀ q ∈ lv, pm_ok q.2) (h : pm_ok v) : ∀ q ∈ lv.filter g ++ [(i, v)], pm_ok q.2 := by
  intro q hq
  rcases List.mem_append.mp hq with h1 | h1
  · exact o q (List.mem_filter.mp h1).1
  · cases List.mem_singleton.mp h1
    exact h

def i_il (i nx : Nat) : pm_T := fun K x => match x with
  | (lv, st, h) => pm_get lv i (fun v => match v with
    | .inl a => K (some nx) (lv, .inl a :: st, h)
    | _ => False)
theorem sd_iln {own : String} {cc : ByteArray} {nL d rt pc nx i : Nat} {k : Fin 4} (hd : decode cc pc = .ok (.iload_n k, 1)) (hi : (k : Nat) = i) (hn : pc + 1 = nx) : pm_sd own cc nL d rt pc (i_il i nx) := by
  intro post p l e s m args below meth c D ad ta X K hK x h
  obtain ⟨lv, st, hh⟩ := x
  subst hn
  obtain ⟨v, hv, h1⟩ := pm_get_spec h
  match v, hv, h1 with
  | .inl a, hv, h1 =>
    have h2 := pm_kks (hK _ _ h1)
    intro o1 o2 H locs ls hP hD hS hl
    exact lv_iload_n X.1 X.2.1 hd hi (pm_lat hl hv) (h2 o1 (pm_ok1 trivial o2) H locs ls hP hD hS hl)
  | .inr (.inl a), _, h1 => exact h1.elim
  | .inr (.inr a), _, h1 => exact h1.elim
theorem sd_il {own : String} {cc : ByteArray} {nL d rt pc nx i : Nat} (hd : decode cc pc = .ok (.iload i, 2)) (hn : pc + 2 = nx) : pm_sd own cc nL d rt pc (i_il i nx) := by
  intro post p l e s m args below meth c D ad ta X K hK x h
  obtain ⟨lv, st, hh⟩ := x
  subst hn
  obtain ⟨v, hv, h1⟩ := pm_get_spec h
  match v, hv, h1 with
  | .inl a, hv, h1 =>
    have h2 := pm_kks (hK _ _ h1)
    intro o1 o2 H locs ls hP hD hS hl
    exact lv_iload X.1 X.2.1 hd (pm_lat hl hv) (h2 o1 (pm_ok1 trivial o2) H locs ls hP hD hS hl)
  | .inr (.inl a), _, h1 => exact h1.elim
  | .inr (.inr a), _, h1 => exact h1.elim
def i_ll (i nx : Nat) : pm_T := fun K x => match x with
  | (lv, st, h) => pm_get lv i (fun v => match v with
    | .inr (.inl a) => K (some nx) (lv, .inr (.inl a) :: st, h)
    | _ => False)
theorem sd_lln {own : String} {cc : ByteArray} {nL d rt pc nx i : Nat} {k : Fin 4} (hd : decode cc pc = .ok (.lload_n k, 1)) (hi : (k : Nat) = i) (hn : pc + 1 = nx) : pm_sd own cc nL d rt pc (i_ll i nx) := by
  intro post p l e s m args below meth c D ad ta X K hK x h
  obtain ⟨lv, st, hh⟩ := x
  subst hn
  obtain ⟨v, hv, h1⟩ := pm_get_spec h
  match v, hv, h1 with
  | .inr (.inl a), hv, h1 =>
    have h2 := pm_kks (hK _ _ h1)
    intro o1 o2 H locs ls hP hD hS hl
    exact lv_lload_n X.1 X.2.1 hd hi (pm_lat hl hv) (h2 o1 (pm_ok1 trivial o2) H locs ls hP hD hS hl)
  | .inl a, _, h1 => exact h1.elim
  | .inr (.inr a), _, h1 => exact h1.elim
theorem sd_ll {own : String} {cc : ByteArray} {nL d rt pc nx i : Nat} (hd : decode cc pc = .ok (.lload i, 2)) (hn : pc + 2 = nx) : pm_sd own cc nL d rt pc (i_ll i nx) := by
  intro post p l e s m args below meth c D ad ta X K hK x h
  obtain ⟨lv, st, hh⟩ := x
  subst hn
  obtain ⟨v, hv, h1⟩ := pm_get_spec h
  match v, hv, h1 with
  | .inr (.inl a), hv, h1 =>
    have h2 := pm_kks (hK _ _ h1)
    intro o1 o2 H locs ls hP hD hS hl
    exact lv_lload X.1 X.2.1 hd (pm_lat hl hv) (h2 o1 (pm_ok1 trivial o2) H locs ls hP hD hS hl)
  | .inl a, _, h1 => exact h1.elim
  | .inr (.inr a), _, h1 => exact h1.elim
def i_al (i nx : Nat) : pm_T := fun K x => match x with
  | (lv, st, h) => pm_get lv i (fun v => match v with
    | .inr (.inr a) => K (some nx) (lv, .inr (.inr a) :: st, h)
    | _ => False)
theorem sd_aln {own : String} {cc : ByteArray} {nL d rt pc nx i : Nat} {k : Fin 4} (hd : decode cc pc = .ok (.aload_n k, 1)) (hi : (k : Nat) = i) (hn : pc + 1 = nx) : pm_sd own cc nL d rt pc (i_al i nx) := by
  intro post p l e s m args below meth c D ad ta X K hK x h
  obtain ⟨lv, st, hh⟩ := x
  subst hn
  obtain ⟨v, hv, h1⟩ := pm_get_spec h
  match v, hv, h1 with
  | .inr (.inr a), hv, h1 =>
    have h2 := pm_kks (hK _ _ h1)
    intro o1 o2 H locs ls hP hD hS hl
    exact lv_aload_n X.1 X.2.1 hd hi (pm_lat hl hv) (h2 o1 (pm_ok1 (o1 _ hv) o2) H locs ls hP hD hS hl)
  | .inl a, _, h1 => exact h1.elim
  | .inr (.inl a), _, h1 => exact h1.elim
theorem sd_al {own : String} {cc : ByteArray} {nL d rt pc nx i : Nat} (hd : decode cc pc = .ok (.aload i, 2)) (hn : pc + 2 = nx) : pm_sd own cc nL d rt pc (i_al i nx) := by
  intro post p l e s m args below meth c D ad ta X K hK x h
  obtain ⟨lv, st, hh⟩ := x
  subst hn
  obtain ⟨v, hv, h1⟩ := pm_get_spec h
  match v, hv, h1 with
  | .inr (.inr a), hv, h1 =>
    have h2 := pm_kks (hK _ _ h1)
    intro o1 o2 H locs ls hP hD hS hl
    exact lv_aload X.1 X.2.1 hd (pm_lat hl hv) (h2 o1 (pm_ok1 (o1 _ hv) o2) H locs ls hP hD hS hl)
  | .inl a, _, h1 => exact h1.elim
  | .inr (.inl a), _, h1 => exact h1.elim
def i_is (i nx : Nat) : pm_T := fun K x => match x with
  | (lv, .inl a :: st, h) => pm_set lv i (.inl a) (fun lv' => K (some nx) (lv', st, h))
  | _ => False
theorem sd_isn {own : String} {cc : ByteArray} {nL d rt pc nx i : Nat} {k : Fin 4} (hd : decode cc pc = .ok (.istore_n k, 1)) (hi : (k : Nat) = i) (hn : pc + 1 = nx) (hi2 : i < nL) : pm_sd own cc nL d rt pc (i_is i nx) := by
  intro post p l e s m args below meth c D ad ta X K hK x h
  obtain ⟨lv, st, hh⟩ := x
  subst hn
  match st, h with
  | .inl a :: st, h =>
    have h2 := pm_kks (hK _ _ (pm_set_spec h))
    intro o1 o2 H locs ls hP hD hS hl
    exact lv_istore_n X.1 X.2.1 hd hi hl hi2 rfl (fun ls' hl' => h2 (pm_oks o1 (pm_okh o2)) (pm_okt o2) H locs ls' hP hD hS (pm_lset (v := .inl a) hl' rfl))
  | .inr (.inl a) :: st, h => exact h.elim
  | .inr (.inr a) :: st, h => exact h.elim
  | [], h => exact h.elim
theorem sd_is {own : String} {cc : ByteArray} {nL d rt pc nx i : Nat} (hd : decode cc pc = .ok (.istore i, 2)) (hn : pc + 2 = nx) (hi2 : i < nL) : pm_sd own cc nL d rt pc (i_is i nx) := by
  intro post p l e s m args below meth c D ad ta X K hK x h
  obtain ⟨lv, st, hh⟩ := x
  subst hn
  match st, h with
  | .inl a :: st, h =>
    have h2 := pm_kks (hK _ _ (pm_set_spec h))
    intro o1 o2 H locs ls hP hD hS hl
    exact lv_istore X.1 X.2.1 hd hl hi2 rfl (fun ls' hl' => h2 (pm_oks o1 (pm_okh o2)) (pm_okt o2) H locs ls' hP hD hS (pm_lset (v := .inl a) hl' rfl))
  | .inr (.inl a) :: st, h => exact h.elim
  | .inr (.inr a) :: st, h => exact h.elim
  | [], h => exact h.elim
def i_ls (i nx : Nat) : pm_T := fun K x => match x with
  | (lv, .inr (.inl a) :: st, h) => pm_set lv i (.inr (.inl a)) (fun lv' => K (some nx) (lv', st, h))
  | _ => False
theorem sd_lsn {own : String} {cc : ByteArray} {nL d rt pc nx i : Nat} {k : Fin 4} (hd : decode cc pc = .ok (.lstore_n k, 1)) (hi : (k : Nat) = i) (hn : pc + 1 = nx) (hi2 : i + 1 < nL) : pm_sd own cc nL d rt pc (i_ls i nx) := by
  intro post p l e s m args below meth c D ad ta X K hK x h
  obtain ⟨lv, st, hh⟩ := x
  subst hn
  match st, h with
  | .inr (.inl a) :: st, h =>
    have h2 := pm_kks (hK _ _ (pm_set_spec h))
    intro o1 o2 H locs ls hP hD hS hl
    exact lv_lstore_n X.1 X.2.1 hd hi hl hi2 rfl (fun ls' hl' => h2 (pm_oks o1 (pm_okh o2)) (pm_okt o2) H locs ls' hP hD hS (pm_lset2 (v := .inr (.inl a)) hl' rfl))
  | .inl a :: st, h => exact h.elim
  | .inr (.inr a) :: st, h => exact h.elim
  | [], h => exact h.elim
theorem sd_ls {own : String} {cc : ByteArray} {nL d rt pc nx i : Nat} (hd : decode cc pc = .ok (.lstore i, 2)) (hn : pc + 2 = nx) (hi2 : i + 1 < nL) : pm_sd own cc nL d rt pc (i_ls i nx) := by
  intro post p l e s m args below meth c D ad ta X K hK x h
  obtain ⟨lv, st, hh⟩ := x
  subst hn
  match st, h with
  | .inr (.inl a) :: st, h =>
    have h2 := pm_kks (hK _ _ (pm_set_spec h))
    intro o1 o2 H locs ls hP hD hS hl
    exact lv_lstore X.1 X.2.1 hd hl hi2 rfl (fun ls' hl' => h2 (pm_oks o1 (pm_okh o2)) (pm_okt o2) H locs ls' hP hD hS (pm_lset2 (v := .inr (.inl a)) hl' rfl))
  | .inl a :: st, h => exact h.elim
  | .inr (.inr a) :: st, h => exact h.elim
  | [], h => exact h.elim
def i_as (i nx : Nat) : pm_T := fun K x => match x with
  | (lv, .inr (.inr a) :: st, h) => pm_set lv i (.inr (.inr a)) (fun lv' => K (some nx) (lv', st, h))
  | _ => False
theorem sd_asn {own : String} {cc : ByteArray} {nL d rt pc nx i : Nat} {k : Fin 4} (hd : decode cc pc = .ok (.astore_n k, 1)) (hi : (k : Nat) = i) (hn : pc + 1 = nx) (hi2 : i < nL) : pm_sd own cc nL d rt pc (i_as i nx) := by
  intro post p l e s m args below meth c D ad ta X K hK x h
  obtain ⟨lv, st, hh⟩ := x
  subst hn
  match st, h with
  | .inr (.inr a) :: st, h =>
    have h2 := pm_kks (hK _ _ (pm_set_spec h))
    intro o1 o2 H locs ls hP hD hS hl
    exact lv_astore_n X.1 X.2.1 hd hi hl hi2 rfl (fun ls' hl' => h2 (pm_oks o1 (pm_okh o2)) (pm_okt o2) H locs ls' hP hD hS (pm_lset (v := .inr (.inr a)) hl' rfl))
  | .inl a :: st, h => exact h.elim
  | .inr (.inl a) :: st, h => exact h.elim
  | [], h => exact h.elim
theorem sd_as {own : String} {cc : ByteArray} {nL d rt pc nx i : Nat} (hd : decode cc pc = .ok (.astore i, 2)) (hn : pc + 2 = nx) (hi2 : i < nL) : pm_sd own cc nL d rt pc (i_as i nx) := by
  intro post p l e s m args below meth c D ad ta X K hK x h
  obtain ⟨lv, st, hh⟩ := x
  subst hn
  match st, h with
  | .inr (.inr a) :: st, h =>
    have h2 := pm_kks (hK _ _ (pm_set_spec h))
    intro o1 o2 H locs ls hP hD hS hl
    exact lv_astore X.1 X.2.1 hd hl hi2 rfl (fun ls' hl' => h2 (pm_oks o1 (pm_okh o2)) (pm_okt o2) H locs ls' hP hD hS (pm_lset (v := .inr (.inr a)) hl' rfl))
  | .inl a :: st, h => exact h.elim
  | .inr (.inl a) :: st, h => exact h.elim
  | [], h => exact h.elim
def i_inc (i : Nat) (n : Int32) (nx : Nat) : pm_T := fun K x => match x with
  | (lv, st, h) => pm_get lv i (fun v => match v with
    | .inl a => pm_set lv i (.inl (a + n)) (fun lv' => K (some nx) (lv', st, h))
    | _ => False)
theorem sd_inc {own : String} {cc : ByteArray} {nL d rt pc nx i : Nat} {z : Int} {n : Int32} (hd : decode cc pc = .ok (.iinc i z, 3)) (hz : Int32.ofInt z = n) (hn : pc + 3 = nx) (hi2 : i < nL) : pm_sd own cc nL d rt pc (i_inc i n nx) := by
  intro post p l e s m args below meth c D ad ta X K hK x h
  obtain ⟨lv, st, hh⟩ := x
  subst hn
  obtain ⟨v, hv, h1⟩ := pm_get_spec h
  match v, hv, h1 with
  | .inl a, hv, h1 =>
    have h2 := pm_kks (hK _ _ (pm_set_spec h1))
    intro o1 o2 H locs ls hP hD hS hl
    obtain ⟨k, hk⟩ := List.getElem?_of_mem (List.mem_map.mpr ⟨(i, (.inl a : pm_V)), hv, rfl⟩ : (i, pm_rv ad (.inl a)) ∈ lv.map fun q => (q.1, pm_rv ad q.2))
    exact lv_iinc X.1 X.2.1 hd hl hk (by rw [hz]) hi2 rfl (fun ls' hl' => h2 (pm_oks o1 trivial) o2 H locs ls' hP hD hS (pm_lset (v := .inl (a + n)) hl' rfl))
  | .inr (.inl a), _, h1 => exact h1.elim
  | .inr (.inr a), _, h1 => exact h1.elim
def i_c (v : Int32) (nx : Nat) : pm_T := fun K x => match x with
  | (lv, st, h) => K (some nx) (lv, .inl v :: st, h)
def i_cl (v : Int64) (nx : Nat) : pm_T := fun K x => match x with
  | (lv, st, h) => K (some nx) (lv, .inr (.inl v) :: st, h)
theorem sd_iconst {own : String} {cc : ByteArray} {nL d rt pc nx : Nat} {z : Int} {v : Int32} (hd : decode cc pc = .ok (.iconst z, 1)) (hv : Int32.ofInt z = v) (hn : pc + 1 = nx) : pm_sd own cc nL d rt pc (i_c v nx) := by
  intro post p l e s m args below meth c D ad ta X K hK x h
  obtain ⟨lv, st, hh⟩ := x
  subst hn
  have h2 := pm_kks (hK _ _ h)
  intro o1 o2 H locs ls hP hD hS hl
  exact lv_iconst X.1 X.2.1 hd hv (h2 o1 (pm_ok1 trivial o2) H locs ls hP hD hS hl)
theorem sd_bipush {own : String} {cc : ByteArray} {nL d rt pc nx : Nat} {z : Int} {v : Int32} (hd : decode cc pc = .ok (.bipush z, 2)) (hv : (Int8.ofInt z).toInt32 = v) (hn : pc + 2 = nx) : pm_sd own cc nL d rt pc (i_c v nx) := by
  intro post p l e s m args below meth c D ad ta X K hK x h
  obtain ⟨lv, st, hh⟩ := x
  subst hn
  have h2 := pm_kks (hK _ _ h)
  intro o1 o2 H locs ls hP hD hS hl
  exact lv_bipush X.1 X.2.1 hd hv (h2 o1 (pm_ok1 trivial o2) H locs ls hP hD hS hl)
theorem sd_sipush {own : String} {cc : ByteArray} {nL d rt pc nx : Nat} {z : Int} {v : Int32} (hd : decode cc pc = .ok (.sipush z, 3)) (hv : (Int16.ofInt z).toInt32 = v) (hn : pc + 3 = nx) : pm_sd own cc nL d rt pc (i_c v nx) := by
  intro post p l e s m args below meth c D ad ta X K hK x h
  obtain ⟨lv, st, hh⟩ := x
  subst hn
  have h2 := pm_kks (hK _ _ h)
  intro o1 o2 H locs ls hP hD hS hl
  exact lv_sipush X.1 X.2.1 hd hv (h2 o1 (pm_ok1 trivial o2) H locs ls hP hD hS hl)
theorem sd_lconst {own : String} {cc : ByteArray} {nL d rt pc nx : Nat} {z : Fin 2} {v : Int64} (hd : decode cc pc = .ok (.lconst z, 1)) (hv : Int64.ofNat (z : Nat) = v) (hn : pc + 1 = nx) : pm_sd own cc nL d rt pc (i_cl v nx) := by
  intro post p l e s m args below meth c D ad ta X K hK x h
  obtain ⟨lv, st, hh⟩ := x
  subst hn
  have h2 := pm_kks (hK _ _ h)
  intro o1 o2 H locs ls hP hD hS hl
  exact lv_lconst X.1 X.2.1 hd hv (h2 o1 (pm_ok1 trivial o2) H locs ls hP hD hS hl)
theorem sd_ldc {own : String} {cc : ByteArray} {nL d rt pc nx k : Nat} {v : Int32} (hd : decode cc pc = .ok (.ldc k, 2)) (hv : (.constant own k v : Cond) ∈ pm_tbl) (hn : pc + 2 = nx) : pm_sd own cc nL d rt pc (i_c v nx) := by
  intro post p l e s m args below meth c D ad ta X K hK x h
  obtain ⟨lv, st, hh⟩ := x
  subst hn
  have h2 := pm_kks (hK _ _ h)
  intro o1 o2 H locs ls hP hD hS hl
  exact lv_ldc X.1 X.2.1 X.2.2.2.1 (X.2.2.2.2.1 _ hv) hd (h2 o1 (pm_ok1 trivial o2) H locs ls hP hD hS hl)
theorem sd_ldcw {own : String} {cc : ByteArray} {nL d rt pc nx k : Nat} {v : Int32} (hd : decode cc pc = .ok (.ldc_w k, 3)) (hv : (.constant own k v : Cond) ∈ pm_tbl) (hn : pc + 3 = nx) : pm_sd own cc nL d rt pc (i_c v nx) := by
  intro post p l e s m args below meth c D ad ta X K hK x h
  obtain ⟨lv, st, hh⟩ := x
  subst hn
  have h2 := pm_kks (hK _ _ h)
  intro o1 o2 H locs ls hP hD hS hl
  exact lv_ldcw X.1 X.2.1 X.2.2.2.1 (X.2.2.2.2.1 _ hv) hd (h2 o1 (pm_ok1 trivial o2) H locs ls hP hD hS hl)
theorem sd_ldc2 {own : String} {cc : ByteArray} {nL d rt pc nx k : Nat} {v : Int64} (hd : decode cc pc = .ok (.ldc2_w k, 3)) (hv : (.constantLong own k v : Cond) ∈ pm_tbl) (hn : pc + 3 = nx) : pm_sd own cc nL d rt pc (i_cl v nx) := by
  intro post p l e s m args below meth c D ad ta X K hK x h
  obtain ⟨lv, st, hh⟩ := x
  subst hn
  have h2 := pm_kks (hK _ _ h)
  intro o1 o2 H locs ls hP hD hS hl
  exact lv_ldc2 X.1 X.2.1 X.2.2.2.1 (X.2.2.2.2.1 _ hv) hd (h2 o1 (pm_ok1 trivial o2) H locs ls hP hD hS hl)
def i_iadd (nx : Nat) : pm_T := fun K z => match z with
  | (lv, .inl y :: .inl x :: st, h) => K (some nx) (lv, .inl (x + y) :: st, h)
  | _ => False
theorem sd_iadd {own : String} {cc : ByteArray} {nL d rt pc nx : Nat} (hd : decode cc pc = .ok (.iadd, 1)) (hn : pc + 1 = nx) : pm_sd own cc nL d rt pc (i_iadd nx) := by
  intro post p l e s m args below meth c D ad ta X K hK x h
  obtain ⟨lv, st, hh⟩ := x
  subst hn
  match st, h with
  | .inl y :: .inl x :: st, h =>
    have h2 := pm_kks (hK _ _ h)
    intro o1 o2 H locs ls hP hD hS hl
    exact lv_iadd X.1 X.2.1 hd (h2 o1 (pm_ok1 trivial (pm_okt (pm_okt o2))) H locs ls hP hD hS hl)
  | [], h => exact h.elim
  | [.inl _], h => exact h.elim
  | [.inr (.inl _)], h => exact h.elim
  | [.inr (.inr _)], h => exact h.elim
  | .inl _ :: .inr (.inl _) :: _, h => exact h.elim
  | .inl _ :: .inr (.inr _) :: _, h => exact h.elim
  | .inr (.inl _) :: _ :: _, h => exact h.elim
  | .inr (.inr _) :: _ :: _, h => exact h.elim
def i_isub (nx : Nat) : pm_T := fun K z => match z with
  | (lv, .inl y :: .inl x :: st, h) => K (some nx) (lv, .inl (x - y) :: st, h)
  | _ => False
theorem sd_isub {own : String} {cc : ByteArray} {nL d rt pc nx : Nat} (hd : decode cc pc = .ok (.isub, 1)) (hn : pc + 1 = nx) : pm_sd own cc nL d rt pc (i_isub nx) := by
  intro post p l e s m args below meth c D ad ta X K hK x h
  obtain ⟨lv, st, hh⟩ := x
  subst hn
  match st, h with
  | .inl y :: .inl x :: st, h =>
    have h2 := pm_kks (hK _ _ h)
    intro o1 o2 H locs ls hP hD hS hl
    exact lv_isub X.1 X.2.1 hd (h2 o1 (pm_ok1 trivial (pm_okt (pm_okt o2))) H locs ls hP hD hS hl)
  | [], h => exact h.elim
  | [.inl _], h => exact h.elim
  | [.inr (.inl _)], h => exact h.elim
  | [.inr (.inr _)], h => exact h.elim
  | .inl _ :: .inr (.inl _) :: _, h => exact h.elim
  | .inl _ :: .inr (.inr _) :: _, h => exact h.elim
  | .inr (.inl _) :: _ :: _, h => exact h.elim
  | .inr (.inr _) :: _ :: _, h => exact h.elim
def i_imul (nx : Nat) : pm_T := fun K z => match z with
  | (lv, .inl y :: .inl x :: st, h) => K (some nx) (lv, .inl (x * y) :: st, h)
  | _ => False
theorem sd_imul {own : String} {cc : ByteArray} {nL d rt pc nx : Nat} (hd : decode cc pc = .ok (.imul, 1)) (hn : pc + 1 = nx) : pm_sd own cc nL d rt pc (i_imul nx) := by
  intro post p l e s m args below meth c D ad ta X K hK x h
  obtain ⟨lv, st, hh⟩ := x
  subst hn
  match st, h with
  | .inl y :: .inl x :: st, h =>
    have h2 := pm_kks (hK _ _ h)
    intro o1 o2 H locs ls hP hD hS hl
    exact lv_imul X.1 X.2.1 hd (h2 o1 (pm_ok1 trivial (pm_okt (pm_okt o2))) H locs ls hP hD hS hl)
  | [], h => exact h.elim
  | [.inl _], h => exact h.elim
  | [.inr (.inl _)], h => exact h.elim
  | [.inr (.inr _)], h => exact h.elim
  | .inl _ :: .inr (.inl _) :: _, h => exact h.elim
  | .inl _ :: .inr (.inr _) :: _, h => exact h.elim
  | .inr (.inl _) :: _ :: _, h => exact h.elim
  | .inr (.inr _) :: _ :: _, h => exact h.elim
def i_iand (nx : Nat) : pm_T := fun K z => match z with
  | (lv, .inl y :: .inl x :: st, h) => K (some nx) (lv, .inl (x &&& y) :: st, h)
  | _ => False
theorem sd_iand {own : String} {cc : ByteArray} {nL d rt pc nx : Nat} (hd : decode cc pc = .ok (.iand, 1)) (hn : pc + 1 = nx) : pm_sd own cc nL d rt pc (i_iand nx) := by
  intro post p l e s m args below meth c D ad ta X K hK x h
  obtain ⟨lv, st, hh⟩ := x
  subst hn
  match st, h with
  | .inl y :: .inl x :: st, h =>
    have h2 := pm_kks (hK _ _ h)
    intro o1 o2 H locs ls hP hD hS hl
    exact lv_iand X.1 X.2.1 hd (h2 o1 (pm_ok1 trivial (pm_okt (pm_okt o2))) H locs ls hP hD hS hl)
  | [], h => exact h.elim
  | [.inl _], h => exact h.elim
  | [.inr (.inl _)], h => exact h.elim
  | [.inr (.inr _)], h => exact h.elim
  | .inl _ :: .inr (.inl _) :: _, h => exact h.elim
  | .inl _ :: .inr (.inr _) :: _, h => exact h.elim
  | .inr (.inl _) :: _ :: _, h => exact h.elim
  | .inr (.inr _) :: _ :: _, h => exact h.elim
def i_ior (nx : Nat) : pm_T := fun K z => match z with
  | (lv, .inl y :: .inl x :: st, h) => K (some nx) (lv, .inl (x ||| y) :: st, h)
  | _ => False
theorem sd_ior {own : String} {cc : ByteArray} {nL d rt pc nx : Nat} (hd : decode cc pc = .ok (.ior, 1)) (hn : pc + 1 = nx) : pm_sd own cc nL d rt pc (i_ior nx) := by
  intro post p l e s m args below meth c D ad ta X K hK x h
  obtain ⟨lv, st, hh⟩ := x
  subst hn
  match st, h with
  | .inl y :: .inl x :: st, h =>
    have h2 := pm_kks (hK _ _ h)
    intro o1 o2 H locs ls hP hD hS hl
    exact lv_ior X.1 X.2.1 hd (h2 o1 (pm_ok1 trivial (pm_okt (pm_okt o2))) H locs ls hP hD hS hl)
  | [], h => exact h.elim
  | [.inl _], h => exact h.elim
  | [.inr (.inl _)], h => exact h.elim
  | [.inr (.inr _)], h => exact h.elim
  | .inl _ :: .inr (.inl _) :: _, h => exact h.elim
  | .inl _ :: .inr (.inr _) :: _, h => exact h.elim
  | .inr (.inl _) :: _ :: _, h => exact h.elim
  | .inr (.inr _) :: _ :: _, h => exact h.elim
def i_ishl (nx : Nat) : pm_T := fun K z => match z with
  | (lv, .inl y :: .inl x :: st, h) => K (some nx) (lv, .inl (x <<< (y &&& 31)) :: st, h)
  | _ => False
theorem sd_ishl {own : String} {cc : ByteArray} {nL d rt pc nx : Nat} (hd : decode cc pc = .ok (.ishl, 1)) (hn : pc + 1 = nx) : pm_sd own cc nL d rt pc (i_ishl nx) := by
  intro post p l e s m args below meth c D ad ta X K hK x h
  obtain ⟨lv, st, hh⟩ := x
  subst hn
  match st, h with
  | .inl y :: .inl x :: st, h =>
    have h2 := pm_kks (hK _ _ h)
    intro o1 o2 H locs ls hP hD hS hl
    exact lv_ishl X.1 X.2.1 hd (h2 o1 (pm_ok1 trivial (pm_okt (pm_okt o2))) H locs ls hP hD hS hl)
  | [], h => exact h.elim
  | [.inl _], h => exact h.elim
  | [.inr (.inl _)], h => exact h.elim
  | [.inr (.inr _)], h => exact h.elim
  | .inl _ :: .inr (.inl _) :: _, h => exact h.elim
  | .inl _ :: .inr (.inr _) :: _, h => exact h.elim
  | .inr (.inl _) :: _ :: _, h => exact h.elim
  | .inr (.inr _) :: _ :: _, h => exact h.elim
def i_ishr (nx : Nat) : pm_T := fun K z => match z with
  | (lv, .inl y :: .inl x :: st, h) => K (some nx) (lv, .inl (x >>> (y &&& 31)) :: st, h)
  | _ => False
theorem sd_ishr {own : String} {cc : ByteArray} {nL d rt pc nx : Nat} (hd : decode cc pc = .ok (.ishr, 1)) (hn : pc + 1 = nx) : pm_sd own cc nL d rt pc (i_ishr nx) := by
  intro post p l e s m args below meth c D ad ta X K hK x h
  obtain ⟨lv, st, hh⟩ := x
  subst hn
  match st, h with
  | .inl y :: .inl x :: st, h =>
    have h2 := pm_kks (hK _ _ h)
    intro o1 o2 H locs ls hP hD hS hl
    exact lv_ishr X.1 X.2.1 hd (h2 o1 (pm_ok1 trivial (pm_okt (pm_okt o2))) H locs ls hP hD hS hl)
  | [], h => exact h.elim
  | [.inl _], h => exact h.elim
  | [.inr (.inl _)], h => exact h.elim
  | [.inr (.inr _)], h => exact h.elim
  | .inl _ :: .inr (.inl _) :: _, h => exact h.elim
  | .inl _ :: .inr (.inr _) :: _, h => exact h.elim
  | .inr (.inl _) :: _ :: _, h => exact h.elim
  | .inr (.inr _) :: _ :: _, h => exact h.elim
def i_iushr (nx : Nat) : pm_T := fun K z => match z with
  | (lv, .inl y :: .inl x :: st, h) => K (some nx) (lv, .inl ((x.toUInt32 >>> (y.toUInt32 &&& Int32.toUInt32 31)).toInt32) :: st, h)
  | _ => False
theorem sd_iushr {own : String} {cc : ByteArray} {nL d rt pc nx : Nat} (hd : decode cc pc = .ok (.iushr, 1)) (hn : pc + 1 = nx) : pm_sd own cc nL d rt pc (i_iushr nx) := by
  intro post p l e s m args below meth c D ad ta X K hK x h
  obtain ⟨lv, st, hh⟩ := x
  subst hn
  match st, h with
  | .inl y :: .inl x :: st, h =>
    have h2 := pm_kks (hK _ _ h)
    intro o1 o2 H locs ls hP hD hS hl
    exact lv_iushr X.1 X.2.1 hd rfl (h2 o1 (pm_ok1 trivial (pm_okt (pm_okt o2))) H locs ls hP hD hS hl)
  | [], h => exact h.elim
  | [.inl _], h => exact h.elim
  | [.inr (.inl _)], h => exact h.elim
  | [.inr (.inr _)], h => exact h.elim
  | .inl _ :: .inr (.inl _) :: _, h => exact h.elim
  | .inl _ :: .inr (.inr _) :: _, h => exact h.elim
  | .inr (.inl _) :: _ :: _, h => exact h.elim
  | .inr (.inr _) :: _ :: _, h => exact h.elim
def i_idiv (nx : Nat) : pm_T := fun K z => match z with
  | (lv, .inl y :: .inl x :: st, h) => ¬ y = 0 ∧ K (some nx) (lv, .inl (x / y) :: st, h)
  | _ => False
theorem sd_idiv {own : String} {cc : ByteArray} {nL d rt pc nx : Nat} (hd : decode cc pc = .ok (.idiv, 1)) (hn : pc + 1 = nx) : pm_sd own cc nL d rt pc (i_idiv nx) := by
  intro post p l e s m args below meth c D ad ta X K hK x h
  obtain ⟨lv, st, hh⟩ := x
  subst hn
  match st, h with
  | .inl y :: .inl x :: st, h =>
    have h2 := pm_kks (hK _ _ h.2)
    intro o1 o2 H locs ls hP hD hS hl
    exact lv_idiv X.1 X.2.1 hd h.1 (h2 o1 (pm_ok1 trivial (pm_okt (pm_okt o2))) H locs ls hP hD hS hl)
  | [], h => exact h.elim
  | [.inl _], h => exact h.elim
  | [.inr (.inl _)], h => exact h.elim
  | [.inr (.inr _)], h => exact h.elim
  | .inl _ :: .inr (.inl _) :: _, h => exact h.elim
  | .inl _ :: .inr (.inr _) :: _, h => exact h.elim
  | .inr (.inl _) :: _ :: _, h => exact h.elim
  | .inr (.inr _) :: _ :: _, h => exact h.elim
def i_irem (nx : Nat) : pm_T := fun K z => match z with
  | (lv, .inl y :: .inl x :: st, h) => ¬ y = 0 ∧ K (some nx) (lv, .inl (x - x / y * y) :: st, h)
  | _ => False
theorem sd_irem {own : String} {cc : ByteArray} {nL d rt pc nx : Nat} (hd : decode cc pc = .ok (.irem, 1)) (hn : pc + 1 = nx) : pm_sd own cc nL d rt pc (i_irem nx) := by
  intro post p l e s m args below meth c D ad ta X K hK x h
  obtain ⟨lv, st, hh⟩ := x
  subst hn
  match st, h with
  | .inl y :: .inl x :: st, h =>
    have h2 := pm_kks (hK _ _ h.2)
    intro o1 o2 H locs ls hP hD hS hl
    exact lv_irem X.1 X.2.1 hd h.1 (h2 o1 (pm_ok1 trivial (pm_okt (pm_okt o2))) H locs ls hP hD hS hl)
  | [], h => exact h.elim
  | [.inl _], h => exact h.elim
  | [.inr (.inl _)], h => exact h.elim
  | [.inr (.inr _)], h => exact h.elim
  | .inl _ :: .inr (.inl _) :: _, h => exact h.elim
  | .inl _ :: .inr (.inr _) :: _, h => exact h.elim
  | .inr (.inl _) :: _ :: _, h => exact h.elim
  | .inr (.inr _) :: _ :: _, h => exact h.elim
def i_ladd (nx : Nat) : pm_T := fun K z => match z with
  | (lv, .inr (.inl y) :: .inr (.inl x) :: st, h) => K (some nx) (lv, .inr (.inl (x + y)) :: st, h)
  | _ => False
theorem sd_ladd {own : String} {cc : ByteArray} {nL d rt pc nx : Nat} (hd : decode cc pc = .ok (.ladd, 1)) (hn : pc + 1 = nx) : pm_sd own cc nL d rt pc (i_ladd nx) := by
  intro post p l e s m args below meth c D ad ta X K hK x h
  obtain ⟨lv, st, hh⟩ := x
  subst hn
  match st, h with
  | .inr (.inl y) :: .inr (.inl x) :: st, h =>
    have h2 := pm_kks (hK _ _ h)
    intro o1 o2 H locs ls hP hD hS hl
    exact lv_ladd X.1 X.2.1 hd (h2 o1 (pm_ok1 trivial (pm_okt (pm_okt o2))) H locs ls hP hD hS hl)
  | [], h => exact h.elim
  | [.inl _], h => exact h.elim
  | [.inr (.inl _)], h => exact h.elim
  | [.inr (.inr _)], h => exact h.elim
  | .inr (.inl _) :: .inl _ :: _, h => exact h.elim
  | .inr (.inl _) :: .inr (.inr _) :: _, h => exact h.elim
  | .inl _ :: _ :: _, h => exact h.elim
  | .inr (.inr _) :: _ :: _, h => exact h.elim
def i_lmul (nx : Nat) : pm_T := fun K z => match z with
  | (lv, .inr (.inl y) :: .inr (.inl x) :: st, h) => K (some nx) (lv, .inr (.inl (x * y)) :: st, h)
  | _ => False
theorem sd_lmul {own : String} {cc : ByteArray} {nL d rt pc nx : Nat} (hd : decode cc pc = .ok (.lmul, 1)) (hn : pc + 1 = nx) : pm_sd own cc nL d rt pc (i_lmul nx) := by
  intro post p l e s m args below meth c D ad ta X K hK x h
  obtain ⟨lv, st, hh⟩ := x
  subst hn
  match st, h with
  | .inr (.inl y) :: .inr (.inl x) :: st, h =>
    have h2 := pm_kks (hK _ _ h)
    intro o1 o2 H locs ls hP hD hS hl
    exact lv_lmul X.1 X.2.1 hd (h2 o1 (pm_ok1 trivial (pm_okt (pm_okt o2))) H locs ls hP hD hS hl)
  | [], h => exact h.elim
  | [.inl _], h => exact h.elim
  | [.inr (.inl _)], h => exact h.elim
  | [.inr (.inr _)], h => exact h.elim
  | .inr (.inl _) :: .inl _ :: _, h => exact h.elim
  | .inr (.inl _) :: .inr (.inr _) :: _, h => exact h.elim
  | .inl _ :: _ :: _, h => exact h.elim
  | .inr (.inr _) :: _ :: _, h => exact h.elim
def i_ldiv (nx : Nat) : pm_T := fun K z => match z with
  | (lv, .inr (.inl y) :: .inr (.inl x) :: st, h) => ¬ y = 0 ∧ K (some nx) (lv, .inr (.inl (x / y)) :: st, h)
  | _ => False
theorem sd_ldiv {own : String} {cc : ByteArray} {nL d rt pc nx : Nat} (hd : decode cc pc = .ok (.ldiv, 1)) (hn : pc + 1 = nx) : pm_sd own cc nL d rt pc (i_ldiv nx) := by
  intro post p l e s m args below meth c D ad ta X K hK x h
  obtain ⟨lv, st, hh⟩ := x
  subst hn
  match st, h with
  | .inr (.inl y) :: .inr (.inl x) :: st, h =>
    have h2 := pm_kks (hK _ _ h.2)
    intro o1 o2 H locs ls hP hD hS hl
    exact lv_ldiv X.1 X.2.1 hd h.1 (h2 o1 (pm_ok1 trivial (pm_okt (pm_okt o2))) H locs ls hP hD hS hl)
  | [], h => exact h.elim
  | [.inl _], h => exact h.elim
  | [.inr (.inl _)], h => exact h.elim
  | [.inr (.inr _)], h => exact h.elim
  | .inr (.inl _) :: .inl _ :: _, h => exact h.elim
  | .inr (.inl _) :: .inr (.inr _) :: _, h => exact h.elim
  | .inl _ :: _ :: _, h => exact h.elim
  | .inr (.inr _) :: _ :: _, h => exact h.elim
def i_lrem (nx : Nat) : pm_T := fun K z => match z with
  | (lv, .inr (.inl y) :: .inr (.inl x) :: st, h) => ¬ y = 0 ∧ K (some nx) (lv, .inr (.inl (x - x / y * y)) :: st, h)
  | _ => False
theorem sd_lrem {own : String} {cc : ByteArray} {nL d rt pc nx : Nat} (hd : decode cc pc = .ok (.lrem, 1)) (hn : pc + 1 = nx) : pm_sd own cc nL d rt pc (i_lrem nx) := by
  intro post p l e s m args below meth c D ad ta X K hK x h
  obtain ⟨lv, st, hh⟩ := x
  subst hn
  match st, h with
  | .inr (.inl y) :: .inr (.inl x) :: st, h =>
    have h2 := pm_kks (hK _ _ h.2)
    intro o1 o2 H locs ls hP hD hS hl
    exact lv_lrem X.1 X.2.1 hd h.1 (h2 o1 (pm_ok1 trivial (pm_okt (pm_okt o2))) H locs ls hP hD hS hl)
  | [], h => exact h.elim
  | [.inl _], h => exact h.elim
  | [.inr (.inl _)], h => exact h.elim
  | [.inr (.inr _)], h => exact h.elim
  | .inr (.inl _) :: .inl _ :: _, h => exact h.elim
  | .inr (.inl _) :: .inr (.inr _) :: _, h => exact h.elim
  | .inl _ :: _ :: _, h => exact h.elim
  | .inr (.inr _) :: _ :: _, h => exact h.elim
def i_lcmp (nx : Nat) : pm_T := fun K z => match z with
  | (lv, .inr (.inl y) :: .inr (.inl x) :: st, h) => K (some nx) (lv, .inl (lg_cmp x y) :: st, h)
  | _ => False
theorem sd_lcmp {own : String} {cc : ByteArray} {nL d rt pc nx : Nat} (hd : decode cc pc = .ok (.lcmp, 1)) (hn : pc + 1 = nx) : pm_sd own cc nL d rt pc (i_lcmp nx) := by
  intro post p l e s m args below meth c D ad ta X K hK x h
  obtain ⟨lv, st, hh⟩ := x
  subst hn
  match st, h with
  | .inr (.inl y) :: .inr (.inl x) :: st, h =>
    have h2 := pm_kks (hK _ _ h)
    intro o1 o2 H locs ls hP hD hS hl
    exact W.lcmp X.1 X.2.1 hd (h2 o1 (pm_ok1 trivial (pm_okt (pm_okt o2))) H locs ls hP hD hS hl)
  | [], h => exact h.elim
  | [.inl _], h => exact h.elim
  | [.inr (.inl _)], h => exact h.elim
  | [.inr (.inr _)], h => exact h.elim
  | .inr (.inl _) :: .inl _ :: _, h => exact h.elim
  | .inr (.inl _) :: .inr (.inr _) :: _, h => exact h.elim
  | .inl _ :: _ :: _, h => exact h.elim
  | .inr (.inr _) :: _ :: _, h => exact h.elim
def i_i2l (nx : Nat) : pm_T := fun K z => match z with
  | (lv, .inl x :: st, h) => K (some nx) (lv, .inr (.inl x.toInt64) :: st, h)
  | _ => False
theorem sd_i2l {own : String} {cc : ByteArray} {nL d rt pc nx : Nat} (hd : decode cc pc = .ok (.i2l, 1)) (hn : pc + 1 = nx) : pm_sd own cc nL d rt pc (i_i2l nx) := by
  intro post p l e s m args below meth c D ad ta X K hK x h
  obtain ⟨lv, st, hh⟩ := x
  subst hn
  match st, h with
  | .inl x :: st, h =>
    have h2 := pm_kks (hK _ _ h)
    intro o1 o2 H locs ls hP hD hS hl
    exact lv_i2l X.1 X.2.1 hd rfl (h2 o1 (pm_ok1 trivial (pm_okt o2)) H locs ls hP hD hS hl)
  | [], h => exact h.elim
  | .inr (.inl x) :: _, h => exact h.elim
  | .inr (.inr x) :: _, h => exact h.elim
def i_i2b (nx : Nat) : pm_T := fun K z => match z with
  | (lv, .inl x :: st, h) => K (some nx) (lv, .inl x.toInt8.toInt32 :: st, h)
  | _ => False
theorem sd_i2b {own : String} {cc : ByteArray} {nL d rt pc nx : Nat} (hd : decode cc pc = .ok (.i2b, 1)) (hn : pc + 1 = nx) : pm_sd own cc nL d rt pc (i_i2b nx) := by
  intro post p l e s m args below meth c D ad ta X K hK x h
  obtain ⟨lv, st, hh⟩ := x
  subst hn
  match st, h with
  | .inl x :: st, h =>
    have h2 := pm_kks (hK _ _ h)
    intro o1 o2 H locs ls hP hD hS hl
    exact lv_i2b X.1 X.2.1 hd rfl (h2 o1 (pm_ok1 trivial (pm_okt o2)) H locs ls hP hD hS hl)
  | [], h => exact h.elim
  | .inr (.inl x) :: _, h => exact h.elim
  | .inr (.inr x) :: _, h => exact h.elim
def i_i2s (nx : Nat) : pm_T := fun K z => match z with
  | (lv, .inl x :: st, h) => K (some nx) (lv, .inl x.toInt16.toInt32 :: st, h)
  | _ => False
theorem sd_i2s {own : String} {cc : ByteArray} {nL d rt pc nx : Nat} (hd : decode cc pc = .ok (.i2s, 1)) (hn : pc + 1 = nx) : pm_sd own cc nL d rt pc (i_i2s nx) := by
  intro post p l e s m args below meth c D ad ta X K hK x h
  obtain ⟨lv, st, hh⟩ := x
  subst hn
  match st, h with
  | .inl x :: st, h =>
    have h2 := pm_kks (hK _ _ h)
    intro o1 o2 H locs ls hP hD hS hl
    exact lv_i2s X.1 X.2.1 hd rfl (h2 o1 (pm_ok1 trivial (pm_okt o2)) H locs ls hP hD hS hl)
  | [], h => exact h.elim
  | .inr (.inl x) :: _, h => exact h.elim
  | .inr (.inr x) :: _, h => exact h.elim
def i_i2c (nx : Nat) : pm_T := fun K z => match z with
  | (lv, .inl x :: st, h) => K (some nx) (lv, .inl (x.toUInt32 % 65536).toInt32 :: st, h)
  | _ => False
theorem sd_i2c {own : String} {cc : ByteArray} {nL d rt pc nx : Nat} (hd : decode cc pc = .ok (.i2c, 1)) (hn : pc + 1 = nx) : pm_sd own cc nL d rt pc (i_i2c nx) := by
  intro post p l e s m args below meth c D ad ta X K hK x h
  obtain ⟨lv, st, hh⟩ := x
  subst hn
  match st, h with
  | .inl x :: st, h =>
    have h2 := pm_kks (hK _ _ h)
    intro o1 o2 H locs ls hP hD hS hl
    exact lv_i2c X.1 X.2.1 hd rfl (h2 o1 (pm_ok1 trivial (pm_okt o2)) H locs ls hP hD hS hl)
  | [], h => exact h.elim
  | .inr (.inl x) :: _, h => exact h.elim
  | .inr (.inr x) :: _, h => exact h.elim
def i_dup (nx : Nat) : pm_T := fun K z => match z with
  | (lv, v :: st, h) => bif pm_lg v then False else K (some nx) (lv, v :: v :: st, h)
  | _ => False
theorem pm_c1 {ad : pm_R → Nat} {v : pm_V} (h : pm_lg v = false) : (pm_rv ad v).category = 1 := by rw [pm_cat_rv, pm_cat, h]; rfl
theorem pm_bf {b : Bool} {P : Prop} (h : bif b then False else P) : b = false ∧ P := by cases b with | true => exact h.elim | false => exact ⟨rfl, h⟩
theorem pm_bt {b : Bool} {P : Prop} (h : bif b then P else False) : b = true ∧ P := by cases b with | false => exact h.elim | true => exact ⟨rfl, h⟩
theorem sd_dup {own : String} {cc : ByteArray} {nL d rt pc nx : Nat} (hd : decode cc pc = .ok (.dup, 1)) (hn : pc + 1 = nx) : pm_sd own cc nL d rt pc (i_dup nx) := by
  intro post p l e s m args below meth c D ad ta X K hK x h
  obtain ⟨lv, st, hh⟩ := x
  subst hn
  match st, h with
  | v :: st, h =>
    obtain ⟨hg, h⟩ := pm_bf h
    have h2 := pm_kks (hK _ _ h)
    intro o1 o2 H locs ls hP hD hS hl
    exact lv_dup X.1 X.2.1 hd (pm_c1 hg) (h2 o1 (pm_ok1 (pm_okh o2) o2) H locs ls hP hD hS hl)
  | [], h => exact h.elim
def i_pop (nx : Nat) : pm_T := fun K z => match z with
  | (lv, v :: st, h) => bif pm_lg v then False else K (some nx) (lv, st, h)
  | _ => False
theorem sd_pop {own : String} {cc : ByteArray} {nL d rt pc nx : Nat} (hd : decode cc pc = .ok (.pop, 1)) (hn : pc + 1 = nx) : pm_sd own cc nL d rt pc (i_pop nx) := by
  intro post p l e s m args below meth c D ad ta X K hK x h
  obtain ⟨lv, st, hh⟩ := x
  subst hn
  match st, h with
  | v :: st, h =>
    obtain ⟨hg, h⟩ := pm_bf h
    have h2 := pm_kks (hK _ _ h)
    intro o1 o2 H locs ls hP hD hS hl
    exact lv_pop X.1 X.2.1 hd (pm_c1 hg) (h2 o1 (pm_okt o2) H locs ls hP hD hS hl)
  | [], h => exact h.elim
def i_dup2 (nx : Nat) : pm_T := fun K z => match z with
  | (lv, u :: v :: st, h) => bif pm_lg u || pm_lg v then False else K (some nx) (lv, u :: v :: u :: v :: st, h)
  | _ => False
theorem sd_dup2 {own : String} {cc : ByteArray} {nL d rt pc nx : Nat} (hd : decode cc pc = .ok (.dup2, 1)) (hn : pc + 1 = nx) : pm_sd own cc nL d rt pc (i_dup2 nx) := by
  intro post p l e s m args below meth c D ad ta X K hK x h
  obtain ⟨lv, st, hh⟩ := x
  subst hn
  match st, h with
  | u :: v :: st, h =>
    obtain ⟨hg, h⟩ := pm_bf h
    have h2 := pm_kks (hK _ _ h)
    intro o1 o2 H locs ls hP hD hS hl
    have hu : pm_lg u = false := (Bool.or_eq_false_iff.mp hg).1
    have hv : pm_lg v = false := (Bool.or_eq_false_iff.mp hg).2
    exact lv_dup2_11 X.1 X.2.1 hd (pm_c1 hu) (pm_c1 hv) (h2 o1 (pm_ok1 (pm_okh o2) (pm_ok1 (pm_okh (pm_okt o2)) o2)) H locs ls hP hD hS hl)
  | [], h => exact h.elim
  | [_], h => exact h.elim
def i_go (tgt : Nat) : pm_T := fun K x => K (some tgt) x
theorem sd_go {own : String} {cc : ByteArray} {nL d rt pc tgt : Nat} {off : Int} (hd : decode cc pc = .ok (.goto off, 3)) (ht : (pc : Int) + off = (tgt : Int)) : pm_sd own cc nL d rt pc (i_go tgt) := by
  intro post p l e s m args below meth c D ad ta X K hK x h
  obtain ⟨lv, st, hh⟩ := x
  have h2 := pm_kks (hK _ _ h)
  intro o1 o2 H locs ls hP hD hS hl
  exact lv_goto X.1 X.2.1 hd ht (h2 o1 o2 H locs ls hP hD hS hl)
def i_ifeq (tgt nx : Nat) : pm_T := fun K z => match z with
  | (lv, .inl x :: st, h) => (x = 0 → K (some tgt) (lv, st, h)) ∧ (¬ x = 0 → K (some nx) (lv, st, h))
  | _ => False
theorem sd_ifeq {own : String} {cc : ByteArray} {nL d rt pc nx tgt : Nat} {off : Int} (hd : decode cc pc = .ok (.ifCond .eq off, 3)) (ht : (pc : Int) + off = (tgt : Int)) (hn : pc + 3 = nx) : pm_sd own cc nL d rt pc (i_ifeq tgt nx) := by
  intro post p l e s m args below meth c D ad ta X K hK x h
  obtain ⟨lv, st, hh⟩ := x
  subst hn
  match st, h with
  | .inl x :: st, h =>
    intro o1 o2 H locs ls hP hD hS hl
    exact lv_if_eq X.1 X.2.1 hd ht (fun hc => (pm_kks (hK _ _ (h.1 hc))) o1 (pm_okt o2) H locs ls hP hD hS hl) (fun hc => (pm_kks (hK _ _ (h.2 hc))) o1 (pm_okt o2) H locs ls hP hD hS hl)
  | [], h => exact h.elim
  | .inr (.inl _) :: _, h => exact h.elim
  | .inr (.inr _) :: _, h => exact h.elim
def i_ifne (tgt nx : Nat) : pm_T := fun K z => match z with
  | (lv, .inl x :: st, h) => (¬ x = 0 → K (some tgt) (lv, st, h)) ∧ (x = 0 → K (some nx) (lv, st, h))
  | _ => False
theorem sd_ifne {own : String} {cc : ByteArray} {nL d rt pc nx tgt : Nat} {off : Int} (hd : decode cc pc = .ok (.ifCond .ne off, 3)) (ht : (pc : Int) + off = (tgt : Int)) (hn : pc + 3 = nx) : pm_sd own cc nL d rt pc (i_ifne tgt nx) := by
  intro post p l e s m args below meth c D ad ta X K hK x h
  obtain ⟨lv, st, hh⟩ := x
  subst hn
  match st, h with
  | .inl x :: st, h =>
    intro o1 o2 H locs ls hP hD hS hl
    exact lv_if_ne X.1 X.2.1 hd ht (fun hc => (pm_kks (hK _ _ (h.1 hc))) o1 (pm_okt o2) H locs ls hP hD hS hl) (fun hc => (pm_kks (hK _ _ (h.2 hc))) o1 (pm_okt o2) H locs ls hP hD hS hl)
  | [], h => exact h.elim
  | .inr (.inl _) :: _, h => exact h.elim
  | .inr (.inr _) :: _, h => exact h.elim
def i_iflt (tgt nx : Nat) : pm_T := fun K z => match z with
  | (lv, .inl x :: st, h) => (x < 0 → K (some tgt) (lv, st, h)) ∧ (¬ x < 0 → K (some nx) (lv, st, h))
  | _ => False
theorem sd_iflt {own : String} {cc : ByteArray} {nL d rt pc nx tgt : Nat} {off : Int} (hd : decode cc pc = .ok (.ifCond .lt off, 3)) (ht : (pc : Int) + off = (tgt : Int)) (hn : pc + 3 = nx) : pm_sd own cc nL d rt pc (i_iflt tgt nx) := by
  intro post p l e s m args below meth c D ad ta X K hK x h
  obtain ⟨lv, st, hh⟩ := x
  subst hn
  match st, h with
  | .inl x :: st, h =>
    intro o1 o2 H locs ls hP hD hS hl
    exact lv_if_lt X.1 X.2.1 hd ht (fun hc => (pm_kks (hK _ _ (h.1 hc))) o1 (pm_okt o2) H locs ls hP hD hS hl) (fun hc => (pm_kks (hK _ _ (h.2 hc))) o1 (pm_okt o2) H locs ls hP hD hS hl)
  | [], h => exact h.elim
  | .inr (.inl _) :: _, h => exact h.elim
  | .inr (.inr _) :: _, h => exact h.elim
def i_ifge (tgt nx : Nat) : pm_T := fun K z => match z with
  | (lv, .inl x :: st, h) => (0 ≤ x → K (some tgt) (lv, st, h)) ∧ (¬ 0 ≤ x → K (some nx) (lv, st, h))
  | _ => False
theorem sd_ifge {own : String} {cc : ByteArray} {nL d rt pc nx tgt : Nat} {off : Int} (hd : decode cc pc = .ok (.ifCond .ge off, 3)) (ht : (pc : Int) + off = (tgt : Int)) (hn : pc + 3 = nx) : pm_sd own cc nL d rt pc (i_ifge tgt nx) := by
  intro post p l e s m args below meth c D ad ta X K hK x h
  obtain ⟨lv, st, hh⟩ := x
  subst hn
  match st, h with
  | .inl x :: st, h =>
    intro o1 o2 H locs ls hP hD hS hl
    exact lv_if_ge X.1 X.2.1 hd ht (fun hc => (pm_kks (hK _ _ (h.1 hc))) o1 (pm_okt o2) H locs ls hP hD hS hl) (fun hc => (pm_kks (hK _ _ (h.2 hc))) o1 (pm_okt o2) H locs ls hP hD hS hl)
  | [], h => exact h.elim
  | .inr (.inl _) :: _, h => exact h.elim
  | .inr (.inr _) :: _, h => exact h.elim
def i_ifgt (tgt nx : Nat) : pm_T := fun K z => match z with
  | (lv, .inl x :: st, h) => (0 < x → K (some tgt) (lv, st, h)) ∧ (¬ 0 < x → K (some nx) (lv, st, h))
  | _ => False
theorem sd_ifgt {own : String} {cc : ByteArray} {nL d rt pc nx tgt : Nat} {off : Int} (hd : decode cc pc = .ok (.ifCond .gt off, 3)) (ht : (pc : Int) + off = (tgt : Int)) (hn : pc + 3 = nx) : pm_sd own cc nL d rt pc (i_ifgt tgt nx) := by
  intro post p l e s m args below meth c D ad ta X K hK x h
  obtain ⟨lv, st, hh⟩ := x
  subst hn
  match st, h with
  | .inl x :: st, h =>
    intro o1 o2 H locs ls hP hD hS hl
    exact lv_if_gt X.1 X.2.1 hd ht (fun hc => (pm_kks (hK _ _ (h.1 hc))) o1 (pm_okt o2) H locs ls hP hD hS hl) (fun hc => (pm_kks (hK _ _ (h.2 hc))) o1 (pm_okt o2) H locs ls hP hD hS hl)
  | [], h => exact h.elim
  | .inr (.inl _) :: _, h => exact h.elim
  | .inr (.inr _) :: _, h => exact h.elim
def i_ifle (tgt nx : Nat) : pm_T := fun K z => match z with
  | (lv, .inl x :: st, h) => (x ≤ 0 → K (some tgt) (lv, st, h)) ∧ (¬ x ≤ 0 → K (some nx) (lv, st, h))
  | _ => False
theorem sd_ifle {own : String} {cc : ByteArray} {nL d rt pc nx tgt : Nat} {off : Int} (hd : decode cc pc = .ok (.ifCond .le off, 3)) (ht : (pc : Int) + off = (tgt : Int)) (hn : pc + 3 = nx) : pm_sd own cc nL d rt pc (i_ifle tgt nx) := by
  intro post p l e s m args below meth c D ad ta X K hK x h
  obtain ⟨lv, st, hh⟩ := x
  subst hn
  match st, h with
  | .inl x :: st, h =>
    intro o1 o2 H locs ls hP hD hS hl
    exact lv_if_le X.1 X.2.1 hd ht (fun hc => (pm_kks (hK _ _ (h.1 hc))) o1 (pm_okt o2) H locs ls hP hD hS hl) (fun hc => (pm_kks (hK _ _ (h.2 hc))) o1 (pm_okt o2) H locs ls hP hD hS hl)
  | [], h => exact h.elim
  | .inr (.inl _) :: _, h => exact h.elim
  | .inr (.inr _) :: _, h => exact h.elim
def i_iceq (tgt nx : Nat) : pm_T := fun K z => match z with
  | (lv, .inl y :: .inl x :: st, h) => (x = y → K (some tgt) (lv, st, h)) ∧ (¬ x = y → K (some nx) (lv, st, h))
  | _ => False
theorem sd_iceq {own : String} {cc : ByteArray} {nL d rt pc nx tgt : Nat} {off : Int} (hd : decode cc pc = .ok (.if_icmp .eq off, 3)) (ht : (pc : Int) + off = (tgt : Int)) (hn : pc + 3 = nx) : pm_sd own cc nL d rt pc (i_iceq tgt nx) := by
  intro post p l e s m args below meth c D ad ta X K hK x h
  obtain ⟨lv, st, hh⟩ := x
  subst hn
  match st, h with
  | .inl y :: .inl x :: st, h =>
    intro o1 o2 H locs ls hP hD hS hl
    exact lv_icmp_eq X.1 X.2.1 hd ht (fun hc => (pm_kks (hK _ _ (h.1 hc))) o1 (pm_okt (pm_okt o2)) H locs ls hP hD hS hl) (fun hc => (pm_kks (hK _ _ (h.2 hc))) o1 (pm_okt (pm_okt o2)) H locs ls hP hD hS hl)
  | [], h => exact h.elim
  | [.inl _], h => exact h.elim
  | [.inr (.inl _)], h => exact h.elim
  | [.inr (.inr _)], h => exact h.elim
  | .inl _ :: .inr (.inl _) :: _, h => exact h.elim
  | .inl _ :: .inr (.inr _) :: _, h => exact h.elim
  | .inr (.inl _) :: _ :: _, h => exact h.elim
  | .inr (.inr _) :: _ :: _, h => exact h.elim
def i_icne (tgt nx : Nat) : pm_T := fun K z => match z with
  | (lv, .inl y :: .inl x :: st, h) => (¬ x = y → K (some tgt) (lv, st, h)) ∧ (x = y → K (some nx) (lv, st, h))
  | _ => False
theorem sd_icne {own : String} {cc : ByteArray} {nL d rt pc nx tgt : Nat} {off : Int} (hd : decode cc pc = .ok (.if_icmp .ne off, 3)) (ht : (pc : Int) + off = (tgt : Int)) (hn : pc + 3 = nx) : pm_sd own cc nL d rt pc (i_icne tgt nx) := by
  intro post p l e s m args below meth c D ad ta X K hK x h
  obtain ⟨lv, st, hh⟩ := x
  subst hn
  match st, h with
  | .inl y :: .inl x :: st, h =>
    intro o1 o2 H locs ls hP hD hS hl
    exact lv_icmp_ne X.1 X.2.1 hd ht (fun hc => (pm_kks (hK _ _ (h.1 hc))) o1 (pm_okt (pm_okt o2)) H locs ls hP hD hS hl) (fun hc => (pm_kks (hK _ _ (h.2 hc))) o1 (pm_okt (pm_okt o2)) H locs ls hP hD hS hl)
  | [], h => exact h.elim
  | [.inl _], h => exact h.elim
  | [.inr (.inl _)], h => exact h.elim
  | [.inr (.inr _)], h => exact h.elim
  | .inl _ :: .inr (.inl _) :: _, h => exact h.elim
  | .inl _ :: .inr (.inr _) :: _, h => exact h.elim
  | .inr (.inl _) :: _ :: _, h => exact h.elim
  | .inr (.inr _) :: _ :: _, h => exact h.elim
def i_iclt (tgt nx : Nat) : pm_T := fun K z => match z with
  | (lv, .inl y :: .inl x :: st, h) => (x < y → K (some tgt) (lv, st, h)) ∧ (¬ x < y → K (some nx) (lv, st, h))
  | _ => False
theorem sd_iclt {own : String} {cc : ByteArray} {nL d rt pc nx tgt : Nat} {off : Int} (hd : decode cc pc = .ok (.if_icmp .lt off, 3)) (ht : (pc : Int) + off = (tgt : Int)) (hn : pc + 3 = nx) : pm_sd own cc nL d rt pc (i_iclt tgt nx) := by
  intro post p l e s m args below meth c D ad ta X K hK x h
  obtain ⟨lv, st, hh⟩ := x
  subst hn
  match st, h with
  | .inl y :: .inl x :: st, h =>
    intro o1 o2 H locs ls hP hD hS hl
    exact lv_icmp_lt X.1 X.2.1 hd ht (fun hc => (pm_kks (hK _ _ (h.1 hc))) o1 (pm_okt (pm_okt o2)) H locs ls hP hD hS hl) (fun hc => (pm_kks (hK _ _ (h.2 hc))) o1 (pm_okt (pm_okt o2)) H locs ls hP hD hS hl)
  | [], h => exact h.elim
  | [.inl _], h => exact h.elim
  | [.inr (.inl _)], h => exact h.elim
  | [.inr (.inr _)], h => exact h.elim
  | .inl _ :: .inr (.inl _) :: _, h => exact h.elim
  | .inl _ :: .inr (.inr _) :: _, h => exact h.elim
  | .inr (.inl _) :: _ :: _, h => exact h.elim
  | .inr (.inr _) :: _ :: _, h => exact h.elim
def i_icge (tgt nx : Nat) : pm_T := fun K z => match z with
  | (lv, .inl y :: .inl x :: st, h) => (y ≤ x → K (some tgt) (lv, st, h)) ∧ (¬ y ≤ x → K (some nx) (lv, st, h))
  | _ => False
theorem sd_icge {own : String} {cc : ByteArray} {nL d rt pc nx tgt : Nat} {off : Int} (hd : decode cc pc = .ok (.if_icmp .ge off, 3)) (ht : (pc : Int) + off = (tgt : Int)) (hn : pc + 3 = nx) : pm_sd own cc nL d rt pc (i_icge tgt nx) := by
  intro post p l e s m args below meth c D ad ta X K hK x h
  obtain ⟨lv, st, hh⟩ := x
  subst hn
  match st, h with
  | .inl y :: .inl x :: st, h =>
    intro o1 o2 H locs ls hP hD hS hl
    exact lv_icmp_ge X.1 X.2.1 hd ht (fun hc => (pm_kks (hK _ _ (h.1 hc))) o1 (pm_okt (pm_okt o2)) H locs ls hP hD hS hl) (fun hc => (pm_kks (hK _ _ (h.2 hc))) o1 (pm_okt (pm_okt o2)) H locs ls hP hD hS hl)
  | [], h => exact h.elim
  | [.inl _], h => exact h.elim
  | [.inr (.inl _)], h => exact h.elim
  | [.inr (.inr _)], h => exact h.elim
  | .inl _ :: .inr (.inl _) :: _, h => exact h.elim
  | .inl _ :: .inr (.inr _) :: _, h => exact h.elim
  | .inr (.inl _) :: _ :: _, h => exact h.elim
  | .inr (.inr _) :: _ :: _, h => exact h.elim
def i_icgt (tgt nx : Nat) : pm_T := fun K z => match z with
  | (lv, .inl y :: .inl x :: st, h) => (y < x → K (some tgt) (lv, st, h)) ∧ (¬ y < x → K (some nx) (lv, st, h))
  | _ => False
theorem sd_icgt {own : String} {cc : ByteArray} {nL d rt pc nx tgt : Nat} {off : Int} (hd : decode cc pc = .ok (.if_icmp .gt off, 3)) (ht : (pc : Int) + off = (tgt : Int)) (hn : pc + 3 = nx) : pm_sd own cc nL d rt pc (i_icgt tgt nx) := by
  intro post p l e s m args below meth c D ad ta X K hK x h
  obtain ⟨lv, st, hh⟩ := x
  subst hn
  match st, h with
  | .inl y :: .inl x :: st, h =>
    intro o1 o2 H locs ls hP hD hS hl
    exact lv_icmp_gt X.1 X.2.1 hd ht (fun hc => (pm_kks (hK _ _ (h.1 hc))) o1 (pm_okt (pm_okt o2)) H locs ls hP hD hS hl) (fun hc => (pm_kks (hK _ _ (h.2 hc))) o1 (pm_okt (pm_okt o2)) H locs ls hP hD hS hl)
  | [], h => exact h.elim
  | [.inl _], h => exact h.elim
  | [.inr (.inl _)], h => exact h.elim
  | [.inr (.inr _)], h => exact h.elim
  | .inl _ :: .inr (.inl _) :: _, h => exact h.elim
  | .inl _ :: .inr (.inr _) :: _, h => exact h.elim
  | .inr (.inl _) :: _ :: _, h => exact h.elim
  | .inr (.inr _) :: _ :: _, h => exact h.elim
def i_icle (tgt nx : Nat) : pm_T := fun K z => match z with
  | (lv, .inl y :: .inl x :: st, h) => (x ≤ y → K (some tgt) (lv, st, h)) ∧ (¬ x ≤ y → K (some nx) (lv, st, h))
  | _ => False
theorem sd_icle {own : String} {cc : ByteArray} {nL d rt pc nx tgt : Nat} {off : Int} (hd : decode cc pc = .ok (.if_icmp .le off, 3)) (ht : (pc : Int) + off = (tgt : Int)) (hn : pc + 3 = nx) : pm_sd own cc nL d rt pc (i_icle tgt nx) := by
  intro post p l e s m args below meth c D ad ta X K hK x h
  obtain ⟨lv, st, hh⟩ := x
  subst hn
  match st, h with
  | .inl y :: .inl x :: st, h =>
    intro o1 o2 H locs ls hP hD hS hl
    exact lv_icmp_le X.1 X.2.1 hd ht (fun hc => (pm_kks (hK _ _ (h.1 hc))) o1 (pm_okt (pm_okt o2)) H locs ls hP hD hS hl) (fun hc => (pm_kks (hK _ _ (h.2 hc))) o1 (pm_okt (pm_okt o2)) H locs ls hP hD hS hl)
  | [], h => exact h.elim
  | [.inl _], h => exact h.elim
  | [.inr (.inl _)], h => exact h.elim
  | [.inr (.inr _)], h => exact h.elim
  | .inl _ :: .inr (.inl _) :: _, h => exact h.elim
  | .inl _ :: .inr (.inr _) :: _, h => exact h.elim
  | .inr (.inl _) :: _ :: _, h => exact h.elim
  | .inr (.inr _) :: _ :: _, h => exact h.elim
def i_ir : pm_T := fun K z => match z with
  | (_, [.inl x], h) => K none ([], [.inl x], h)
  | _ => False
def i_zr : pm_T := fun K z => match z with
  | (_, [.inl x], h) => (x = 0 ∨ x = 1) ∧ K none ([], [.inl x], h)
  | _ => False
def i_lr : pm_T := fun K z => match z with
  | (_, [.inr (.inl x)], h) => K none ([], [.inr (.inl x)], h)
  | _ => False
def i_vr : pm_T := fun K z => match z with
  | (_, [], h) => K none ([], [], h)
  | _ => False
theorem pm_nz {x : Int32} (h : x = 0 ∨ x = 1) : narrow .boolean (.int x) = .int x := by
  rcases h with rfl | rfl <;> decide +kernel
theorem sd_ir {own : String} {cc : ByteArray} {nL d pc : Nat} (hd : decode cc pc = .ok (.ireturn, 1)) : pm_sd own cc nL d 1 pc i_ir := by
  intro post p l e s m args below meth c D ad ta X K hK x h
  obtain ⟨lv, st, hh⟩ := x
  match st, h with
  | [.inl x], h =>
    have h2 : post [.inl x] hh := hK _ _ h
    intro o1 o2 H locs ls hP hD hS hl
    exact W.iret (v := x) X.1 X.2.1 X.2.2.2.2.2.2.2.1 (fun t ht hW => ⟨⟨x, hh, rfl, h2, by rw [pm_B, ht]; exact hP⟩, hS.F ht⟩) hS.2.2 hd X.2.2.2.2.2.2.2.2
  | [], h => exact h.elim
  | [.inr (.inl _)], h => exact h.elim
  | [.inr (.inr _)], h => exact h.elim
  | .inl _ :: _ :: _, h => exact h.elim
  | .inr (.inl _) :: _ :: _, h => exact h.elim
  | .inr (.inr _) :: _ :: _, h => exact h.elim
theorem sd_zr {own : String} {cc : ByteArray} {nL d pc : Nat} (hd : decode cc pc = .ok (.ireturn, 1)) : pm_sd own cc nL d 3 pc i_zr := by
  intro post p l e s m args below meth c D ad ta X K hK x h
  obtain ⟨lv, st, hh⟩ := x
  match st, h with
  | [.inl x], h =>
    have h2 : post [.inl x] hh := hK _ _ h.2
    intro o1 o2 H locs ls hP hD hS hl
    exact W.zret (v := x) (ty := .boolean) X.1 X.2.1 X.2.2.2.2.2.2.2.1 (pm_nz h.1) (fun t ht hW => ⟨⟨x, hh, rfl, h2, by rw [pm_B, ht]; exact hP⟩, hS.F ht⟩) hS.2.2 hd X.2.2.2.2.2.2.2.2
  | [], h => exact h.elim
  | [.inr (.inl _)], h => exact h.elim
  | [.inr (.inr _)], h => exact h.elim
  | .inl _ :: _ :: _, h => exact h.elim
  | .inr (.inl _) :: _ :: _, h => exact h.elim
  | .inr (.inr _) :: _ :: _, h => exact h.elim
theorem sd_lr {own : String} {cc : ByteArray} {nL d pc : Nat} (hd : decode cc pc = .ok (.lreturn, 1)) : pm_sd own cc nL d 2 pc i_lr := by
  intro post p l e s m args below meth c D ad ta X K hK x h
  obtain ⟨lv, st, hh⟩ := x
  match st, h with
  | [.inr (.inl x)], h =>
    have h2 : post [.inr (.inl x)] hh := hK _ _ h
    intro o1 o2 H locs ls hP hD hS hl
    exact W.lret (v := x) X.1 X.2.1 X.2.2.2.2.2.2.2.1 (fun t ht hW => ⟨⟨x, hh, rfl, h2, by rw [pm_B, ht]; exact hP⟩, hS.F ht⟩) hS.2.2 hd X.2.2.2.2.2.2.2.2
  | [], h => exact h.elim
  | [.inl _], h => exact h.elim
  | [.inr (.inr _)], h => exact h.elim
  | .inl _ :: _ :: _, h => exact h.elim
  | .inr (.inl _) :: _ :: _, h => exact h.elim
  | .inr (.inr _) :: _ :: _, h => exact h.elim
theorem sd_vr {own : String} {cc : ByteArray} {nL d pc : Nat} (hd : decode cc pc = .ok (.return_, 1)) : pm_sd own cc nL d 0 pc i_vr := by
  intro post p l e s m args below meth c D ad ta X K hK x h
  obtain ⟨lv, st, hh⟩ := x
  match st, h with
  | [], h =>
    have h2 : post [] hh := hK _ _ h
    intro o1 o2 H locs ls hP hD hS hl
    exact W.vret X.1 X.2.1 X.2.2.2.2.2.2.2.1 (fun t ht hW => ⟨⟨hh, rfl, h2, by rw [pm_B, ht]; exact hP⟩, hS.F ht⟩) hS.2.2 hd X.2.2.2.2.2.2.2.2
  | .inl _ :: _, h => exact h.elim
  | .inr _ :: _, h => exact h.elim
