/-! THE PURE MACHINE, its world. A cell is named by a triple (class, instance, sub-cell): classes 0 Larder (4), 1 Sheet (4), 2 Sight, 3 Tape, 4 BiscuitLore, 5 BiscuitLoreModel, 6 the rows of crumbsAt (8); sub-cell 0 is the object, the others its arrays; class 7: the two static tables, class 8: the words. References never change after the constructors, so that a heap is numbers alone: pm_H. -/
abbrev pm_R : Type := Nat × Nat × Nat
abbrev pm_V : Type := Int32 ⊕ (Int64 ⊕ pm_R)
abbrev pm_H : Type := Nat → Nat → Nat → Nat → Int32
abbrev pm_L : Type := List (Nat × pm_V)
abbrev pm_S : Type := pm_L × List pm_V × pm_H
abbrev pm_K : Type := Option Nat → pm_S → Prop
abbrev pm_T : Type := pm_K → pm_S → Prop
def pm_cnt (c : Nat) : Nat := [4, 4, 1, 1, 1, 1, 8].getD c 0
def pm_sub (c : Nat) : Nat := [9, 2, 5, 3, 6, 12, 1].getD c 0
def pm_nf (c : Nat) : Nat := [14, 4, 5, 12, 10, 26].getD c 0
def pm_cells : List pm_R := (List.range 7).flatMap fun c => (List.range (pm_cnt c)).flatMap fun i => (List.range (pm_sub c)).map fun s => (c, i, s)
def pm_fs (c : Nat) : List Nat := [[0, 1, 2, 0, 3, 4, 5, 6, 0, 0, 0, 0, 7, 8], [0, 0, 0, 1], [0, 1, 2, 3, 4], [1, 0, 0, 0, 0, 0, 0, 0, 0, 0, 0, 2], [], [1, 0, 2, 0, 0, 0, 3, 0, 0, 0, 0, 0, 0, 0, 0, 4, 5, 0, 6, 0, 7, 8, 9, 10, 11, 0]].getD c []
def pm_fr (c i j : Nat) : Option pm_R :=
  if c = 4 then [some (3, 0, 0), some (0, 0, 0), some (0, 1, 0), some (4, 0, 1), some (4, 0, 2), some (2, 0, 0), some (4, 0, 3), some (4, 0, 4), some (4, 0, 5)].getD j none
  else if (pm_fs c).getD j 0 = 0 then none else some (c, i, (pm_fs c).getD j 0)
/-- an array's kind: 0 int, 1 byte, 2 boolean, 3 Larder, 4 Sheet, 5 int[] -/
def pm_ak (c s : Nat) : Nat := ([[0, 0, 0, 0, 0, 0, 0, 0, 0], [0, 0], [0, 0, 0, 0, 2], [0, 1, 0], [0, 3, 2, 4, 5, 0], [0, 0, 0, 0, 0, 0, 0, 0, 2, 0, 0, 0], [0]].getD c []).getD s 0
def pm_an (c s : Nat) : Nat := ([[0, 4, 4, 6, 6, 6, 6, 6, 6], [0, 40], [0, 6, 6, 6, 6], [0, 160, 3], [0, 2, 2, 4, 8, 124], [0, 294, 49, 160, 9, 37, 24, 496, 2, 4, 4, 160], [6]].getD c []).getD s 0
def pm_el (k j : Nat) : pm_R := if k = 3 then (0, 2 + j, 0) else if k = 4 then (1, j, 0) else (6, j, 0)
def pm_fv (ad : pm_R → Nat) (h : pm_H) (c i j : Nat) : Value := match pm_fr c i j with
  | none => .int (h c i 0 j)
  | some r => .ref (ad r)
def pm_ce (ad : pm_R → Nat) (ta : Nat → ClassId) (h : pm_H) (r : pm_R) : va_E :=
  if r.2.2 = 0 ∧ r.1 < 6 then .inr (r.1, (List.range (pm_nf r.1)).map (pm_fv ad h r.1 r.2.1))
  else if pm_ak r.1 r.2.2 < 3 then .inl (ta (pm_ak r.1 r.2.2), pm_an r.1 r.2.2, .inl (h r.1 r.2.1 r.2.2))
  else .inl (ta (pm_ak r.1 r.2.2), pm_an r.1 r.2.2, .inr (.inr (.inr (.inr (fun j => if j < pm_an r.1 r.2.2 then some (ad (pm_el (pm_ak r.1 r.2.2) j)) else none)))))
def pm_wd (ad : pm_R → Nat) (ta : Nat → ClassId) (h : pm_H) : va_W := pm_cells.map fun r => (ad r, pm_ce ad ta h r)
def pm_tys (ta : Nat → ClassId) : List (ClassId × FieldType) := [(ta 0, .int), (ta 1, .byte), (ta 2, .boolean), (ta 3, .object RX0), (ta 4, .object RX1), (ta 5, .array .int)]
abbrev pm_cl : List vw_C := [(RX0, TX0, 14), (RX1, TX1, 4), (RX2, TX2, 5), (RX3, TX3, 12), (RX4, TX4, 10), (RX5, TX5, 26)]
def pm_A (ad : pm_R → Nat) : Nat → Prop := fun q => ∃ r ∈ pm_cells, q = ad r
/-- a heap with one number changed -/
def pm_up (h : pm_H) (c i s j : Nat) (v : Int32) : pm_H := fun c' i' s' j' => if c' = c ∧ i' = i ∧ s' = s ∧ j' = j then v else h c' i' s' j'
/-- a heap with one array's numbers changed -/
def pm_ua (h : pm_H) (c i s : Nat) (f : Nat → Int32) : pm_H := fun c' i' s' j' => if c' = c ∧ i' = i ∧ s' = s then f j' else h c' i' s' j'
theorem pm_up_ua (h : pm_H) (c i s j : Nat) (v : Int32) : pm_up h c i s j v = pm_ua h c i s (upd (h c i s) j v) := by
  funext c' i' s' j'
  unfold pm_up pm_ua upd
  by_cases h1 : c' = c ∧ i' = i ∧ s' = s
  · obtain ⟨rfl, rfl, rfl⟩ := h1
    by_cases h2 : j' = j <;> simp [h2]
  · rw [if_neg h1, if_neg (fun q => h1 ⟨q.1, q.2.1, q.2.2.1⟩)]
theorem pm_nodup : pm_cells.Nodup := by decide +kernel
theorem pm_in_iff {c i s : Nat} : (c, i, s) ∈ pm_cells ↔ c < 7 ∧ i < pm_cnt c ∧ s < pm_sub c := by
  simp only [pm_cells, List.mem_flatMap, List.mem_range, List.mem_map, Prod.mk.injEq]
  constructor
  · rintro ⟨a, ha, b, hb, d, hd, rfl, rfl, rfl⟩
    exact ⟨ha, hb, hd⟩
  · rintro ⟨h1, h2, h3⟩
    exact ⟨c, h1, i, h2, s, h3, rfl, rfl, rfl⟩
theorem pm_len : pm_cells.length = 78 := by decide +kernel
theorem pm_wd_at {ad : pm_R → Nat} {ta : Nat → ClassId} {h : pm_H} {q : Nat} {r : pm_R} (hq : pm_cells[q]? = some r) : (pm_wd ad ta h)[q]? = some (ad r, pm_ce ad ta h r) := by
  unfold pm_wd
  rw [List.getElem?_map, hq]
  rfl
theorem pm_wd_set {ad : pm_R → Nat} {ta : Nat → ClassId} {h h' : pm_H} {q : Nat} {r : pm_R} (hq : pm_cells[q]? = some r) (ho : ∀ r' ∈ pm_cells, r' ≠ r → pm_ce ad ta h' r' = pm_ce ad ta h r') : (pm_wd ad ta h).set q (ad r, pm_ce ad ta h' r) = pm_wd ad ta h' := by
  apply List.ext_getElem?
  intro k
  unfold pm_wd
  by_cases hk : k = q
  · subst hk
    have hl : k < pm_cells.length := (List.getElem?_eq_some_iff.mp hq).1
    rw [List.getElem?_set_self (by rw [List.length_map]; exact hl), List.getElem?_map, hq]
    rfl
  · rw [List.getElem?_set_ne (fun e => hk e.symm), List.getElem?_map, List.getElem?_map]
    cases hc : pm_cells[k]? with
    | none => rfl
    | some r' =>
      have hne : r' ≠ r := by
        rintro rfl
        have h1 := List.getElem?_eq_some_iff.mp hc
        have h2 := List.getElem?_eq_some_iff.mp hq
        have h3 := List.pairwise_iff_getElem.mp pm_nodup
        rcases Nat.lt_trichotomy k q with h4 | h4 | h4
        · exact h3 k q h1.1 h2.1 h4 (h1.2.trans h2.2.symm)
        · exact hk h4
        · exact h3 q k h2.1 h1.1 h4 (h2.2.trans h1.2.symm)
      simp only [Option.map_some]
      rw [ho r' (List.mem_of_getElem? hc) hne]
theorem pm_ce_ua {ad : pm_R → Nat} {ta : Nat → ClassId} {h : pm_H} {c i s : Nat} {f : Nat → Int32} (r' : pm_R) (hne : r' ≠ (c, i, s)) : pm_ce ad ta (pm_ua h c i s f) r' = pm_ce ad ta h r' := by
  obtain ⟨c', i', s'⟩ := r'
  have hn : ¬ (c' = c ∧ i' = i ∧ s' = s) := fun ⟨e1, e2, e3⟩ => hne (by rw [e1, e2, e3])
  have e1 : pm_ua h c i s f c' i' s' = h c' i' s' := by
    funext j
    simp [pm_ua, hn]
  unfold pm_ce
  by_cases h1 : (c', i', s').2.2 = 0 ∧ (c', i', s').1 < 6
  · rw [if_pos h1, if_pos h1]
    have h2 : s' = 0 := h1.1
    subst h2
    congr 2
    apply List.map_congr_left
    intro j _
    unfold pm_fv
    cases pm_fr c' i' j with
    | none => simp only; rw [e1]
    | some r => rfl
  · rw [if_neg h1, if_neg h1]
    simp only
    rw [e1]
/-- a ref that the machine may hold: a cell of the world, or a constant -/
def pm_ok (v : pm_V) : Prop := match v with
  | .inr (.inr r) => r ∈ pm_cells ∨ 7 ≤ r.1
  | _ => True
def pm_rv (ad : pm_R → Nat) (v : pm_V) : Value := match v with
  | .inl x => .int x
  | .inr (.inl x) => .long x
  | .inr (.inr r) => .ref (ad r)
theorem pm_fr_ok : ∀ c, c < 6 → ∀ i, i < 4 → ∀ j, j < 26 → i < pm_cnt c → ∀ r, pm_fr c i j = some r → r ∈ pm_cells := by
  have h : ∀ c : Fin 6, ∀ i : Fin 4, ∀ j : Fin 26, i.val < pm_cnt c.val → (match pm_fr c.val i.val j.val with | some r => decide (r ∈ pm_cells) | none => true) = true := by decide +kernel
  intro c hc i hi j hj hcn r hr
  have h1 := h ⟨c, hc⟩ ⟨i, hi⟩ ⟨j, hj⟩ hcn
  simp only [hr] at h1
  exact of_decide_eq_true h1
