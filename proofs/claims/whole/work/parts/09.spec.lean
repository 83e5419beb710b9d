/-! WHAT A LARDER IS, in numbers: L s j, by the class's own rows: row 0 the fields (0 fellows, 3 biscuits, 8 damp, 9 bite, 10 day, 11 questions), rows 1 .. 8 appetite, hunger, kind, subject, crumbs, whose, askDay, askSubject. -/
abbrev vI (x : Int32) : pm_V := .inl x
abbrev vJ (x : Int64) : pm_V := .inr (.inl x)
abbrev vR (c i s : Nat) : pm_V := .inr (.inr (c, i, s))
abbrev LD : Type := Nat → Nat → Nat
def lu (L : LD) (s j v : Nat) : LD := fun s' j' => if s' = s ∧ j' = j then v else L s' j'
def lr (L : LD) (s : Nat) (f : Nat → Nat) : LD := fun s' j' => if s' = s then f j' else L s' j'
abbrev la_at (h : pm_H) (i : Nat) (L : LD) : Prop := ∀ s j, h 0 i s j = nI (L s j)
def la_put (h : pm_H) (i : Nat) (L : LD) : pm_H := fun c i' s j => if c = 0 ∧ i' = i then nI (L s j) else h c i' s j
theorem la_put_at (h : pm_H) (i : Nat) (L : LD) : la_at (la_put h i L) i L := fun s j => by simp [la_put]
theorem la_put_eq (h : pm_H) (i : Nat) (L : LD) (s j : Nat) : la_put h i L 0 i s j = nI (L s j) := la_put_at h i L s j
theorem la_put_ne {h : pm_H} {i i' : Nat} {L : LD} {c s j : Nat} (hn : ¬ (c = 0 ∧ i' = i)) : la_put h i L c i' s j = h c i' s j := by simp [la_put, hn]
theorem la_self {h : pm_H} {i : Nat} {L : LD} (hL : la_at h i L) : la_put h i L = h := by
  funext c i' s j
  by_cases hc : c = 0 ∧ i' = i
  · obtain ⟨rfl, rfl⟩ := hc
    rw [la_put_eq, hL]
  · rw [la_put_ne hc]
theorem la_put2 (h : pm_H) (i : Nat) (L M : LD) : la_put (la_put h i L) i M = la_put h i M := by
  funext c i' s j
  by_cases hc : c = 0 ∧ i' = i <;> simp [la_put, hc]
theorem la_up (h : pm_H) (i : Nat) (L : LD) (s j v : Nat) : pm_up (la_put h i L) 0 i s j (nI v) = la_put h i (lu L s j v) := by
  funext c i' s' j'
  unfold pm_up la_put lu
  by_cases hc : c = 0 ∧ i' = i
  · obtain ⟨rfl, rfl⟩ := hc
    by_cases hs : s' = s ∧ j' = j <;> simp [hs]
  · have : ¬ (c = 0 ∧ i' = i ∧ s' = s ∧ j' = j) := fun q => hc ⟨q.1, q.2.1⟩
    simp [hc, this]
theorem la_comm (h : pm_H) {i j : Nat} (L M : LD) (hij : i ≠ j) : la_put (la_put h i L) j M = la_put (la_put h j M) i L := by
  funext c i' s k
  unfold la_put
  by_cases h1 : c = 0 ∧ i' = i
  · obtain ⟨rfl, rfl⟩ := h1
    simp [hij]
  · by_cases h2 : c = 0 ∧ i' = j
    · obtain ⟨rfl, rfl⟩ := h2
      simp [Ne.symm hij]
    · simp [h1, h2]
/-- the larder's bounds -/
def la_rel (s j : Nat) : Prop := (s = 0 ∧ (j = 0 ∨ j = 3 ∨ j = 8 ∨ j = 9 ∨ j = 10 ∨ j = 11)) ∨ ((s = 1 ∨ s = 2) ∧ j < 4) ∨ (3 ≤ s ∧ s ≤ 8 ∧ j < 6)
def la_ok (L : LD) : Prop := L 0 0 ≤ 4 ∧ L 0 3 ≤ 6 ∧ L 0 8 ≤ 9 ∧ (1 ≤ L 0 9 ∧ L 0 9 ≤ 20) ∧ L 0 10 ≤ 5000 ∧ L 0 11 ≤ 6 ∧ (∀ f, f < 4 → L 1 f ≤ 9 ∧ L 2 f ≤ 999) ∧ (∀ b, b < 6 → L 3 b ≤ 3 ∧ L 4 b ≤ 9 ∧ L 5 b ≤ 99 ∧ L 6 b ≤ 3) ∧ (∀ q, q < 6 → L 7 q ≤ 99 ∧ L 8 q ≤ 9) ∧ ∀ s j, ¬ la_rel s j → L s j = 0
def sp_sum (f : Nat → Nat) : Nat → Nat
  | 0 => 0
  | n + 1 => sp_sum f n + f n
def sp_or (f : Nat → Nat) : Nat → Nat
  | 0 => 0
  | n + 1 => sp_or f n ||| f n
theorem sp_sum_le {f : Nat → Nat} {m : Nat} : ∀ {n : Nat}, (∀ k, k < n → f k ≤ m) → sp_sum f n ≤ n * m
  | 0, _ => by simp [sp_sum]
  | n + 1, h => by
    have h1 := sp_sum_le (n := n) (fun k hk => h k (by omega))
    have h2 := h n (by omega)
    rw [sp_sum, Nat.add_mul, Nat.one_mul]
    omega
theorem sp_sum_congr {f g : Nat → Nat} : ∀ {n : Nat}, (∀ k, k < n → f k = g k) → sp_sum f n = sp_sum g n
  | 0, _ => rfl
  | n + 1, h => by
    rw [sp_sum, sp_sum, sp_sum_congr (n := n) (fun k hk => h k (by omega)), h n (by omega)]
theorem sp_or_congr {f g : Nat → Nat} : ∀ {n : Nat}, (∀ k, k < n → f k = g k) → sp_or f n = sp_or g n
  | 0, _ => rfl
  | n + 1, h => by
    rw [sp_or, sp_or, sp_or_congr (n := n) (fun k hk => h k (by omega)), h n (by omega)]
theorem sp_or_lt {f : Nat → Nat} {m : Nat} : ∀ {n : Nat}, (∀ k, k < n → f k < 2 ^ m) → sp_or f n < 2 ^ m
  | 0, _ => by simp [sp_or, Nat.two_pow_pos]
  | n + 1, h => by
    rw [sp_or]
    exact Nat.or_lt_two_pow (sp_or_lt (n := n) (fun k hk => h k (by omega))) (h n (by omega))
theorem sp_or_bit {f : Nat → Nat} {j : Nat} : ∀ {n : Nat}, (sp_or f n).testBit j = true ↔ ∃ k, k < n ∧ (f k).testBit j = true
  | 0 => by simp [sp_or]
  | n + 1 => by
    rw [sp_or, Nat.testBit_or, Bool.or_eq_true, sp_or_bit (n := n)]
    constructor
    · rintro (⟨k, h1, h2⟩ | h)
      · exact ⟨k, by omega, h2⟩
      · exact ⟨n, by omega, h⟩
    · rintro ⟨k, h1, h2⟩
      by_cases hk : k = n
      · subst hk; exact Or.inr h2
      · exact Or.inl ⟨k, by omega, h2⟩
theorem sp_bit1 {c : Prop} [Decidable c] {w j : Nat} : (if c then 2 ^ w else 0).testBit j = true ↔ c ∧ w = j := by
  by_cases hc : c
  · simp [hc, Nat.testBit_two_pow]
  · simp [hc]
/-- 1 shifted -/
theorem nI_shl {w : Nat} (h : w < 31) : (1 : Int32) <<< (nI w &&& 31) = nI (2 ^ w) := by
  have key : ∀ w : Fin 31, (1 : Int32) <<< (nI w.val &&& 31) = nI (2 ^ w.val) := by decide +kernel
  exact key ⟨w, h⟩
theorem nI_or (a b : Nat) : nI a ||| nI b = nI (a ||| b) := by
  apply Int32.toBitVec_inj.mp
  show (Int32.ofNat a).toBitVec ||| (Int32.ofNat b).toBitVec = (Int32.ofNat (a ||| b)).toBitVec
  simp [Int32.toBitVec_ofNat', BitVec.ofNat_or]
/-- one's place among n -/
def ixI (x : Int32) (n : Nat) : Prop := ∃ k, k < n ∧ x = nI k
theorem ixI_of {x : Int32} {n : Nat} (hn : n < 2 ^ 31) (h0 : ¬ x < 0) (h1 : ¬ nI n ≤ x) : ixI x n := by
  obtain ⟨j, hj, rfl⟩ := nI_of h0
  rw [nI_leI hn hj] at h1
  exact ⟨j, by omega, rfl⟩
theorem ixI_no0 {x : Int32} {n : Nat} (hn : n < 2 ^ 31) (h0 : x < 0) : ¬ ixI x n := by
  rintro ⟨k, hk, rfl⟩
  exact nI_pos (by omega) h0
theorem ixI_no1 {x : Int32} {n : Nat} (hn : n < 2 ^ 31) (h1 : nI n ≤ x) : ¬ ixI x n := by
  rintro ⟨k, hk, rfl⟩
  rw [nI_leI hn (by omega)] at h1
  omega
/-! the larder's own reckonings -/
def sp_loss (d k : Nat) : Nat := if k = 1 then d / 2 / 2 else if k = 2 then d / 2 + 1 else if k = 3 then 2 * (d / 2 + 1) else d / 2
def sp_spoil (L : LD) (b : Nat) : Nat := min (sp_loss (L 0 8) (L 3 b)) (L 5 b)
def sp_kn (L : LD) (f s : Nat) : Prop := ∃ b, b < L 0 3 ∧ L 6 b = f ∧ L 4 b = s ∧ L 0 9 ≤ L 5 b
def sp_knowers (L : LD) (s : Nat) : Nat := sp_or (fun b => if L 4 b = s ∧ L 0 9 ≤ L 5 b then 2 ^ L 6 b else 0) (L 0 3)
def sp_lore (L : LD) (f : Nat) : Nat := sp_or (fun b => if L 6 b = f ∧ L 0 9 ≤ L 5 b then 2 ^ L 4 b else 0) (L 0 3)
def sp_allLore (L : LD) : Nat := sp_or (fun b => if L 0 9 ≤ L 5 b then 2 ^ L 4 b else 0) (L 0 3)
def sp_owned (L : LD) (f : Nat) : Nat := sp_or (fun b => if L 6 b = f then 2 ^ b else 0) (L 0 3)
def sp_crumbsOf (L : LD) (f : Nat) : Nat := sp_sum (fun b => if L 6 b = f then L 5 b else 0) (L 0 3)
def sp_ans (L : LD) : Nat := sp_or (fun q => if L 7 q = L 0 10 ∧ sp_knowers L (L 8 q) ≠ 0 then 2 ^ q else 0) (L 0 11)
def sp_left (L : LD) (f : Nat) : Nat → Nat
  | 0 => L 1 f
  | n + 1 => if L 6 n = f then sp_left L f n - L 5 n else sp_left L f n
def sp_ate (L : LD) (f n : Nat) : Nat → Nat := fun b => if b < n ∧ L 6 b = f then L 5 b - sp_left L f b else L 5 b
def sp_hun (L : LD) (f : Nat) : Nat := if 0 < sp_left L f (L 0 3) ∧ L 2 f < 999 then L 2 f + 1 else L 2 f
def sp_feast (L : LD) (f : Nat) : LD := lu (lr L 5 (sp_ate L f (L 0 3))) 2 f (sp_hun L f)
def sp_eaten (L : LD) (f : Nat) : Nat := L 1 f - sp_left L f (L 0 3)
def sp_rot (L : LD) (n : Nat) : LD := lr L 5 (fun b => if b < n then L 5 b - sp_spoil L b else L 5 b)
def sp_feasts (L : LD) : Nat → LD
  | 0 => L
  | n + 1 => sp_feast (sp_feasts L n) n
def sp_meals (L : LD) : Nat → Nat
  | 0 => 0
  | n + 1 => sp_meals L n + sp_eaten (sp_feasts L n) n
def sp_live (L : LD) : LD := lu (sp_feasts (sp_rot L (L 0 3)) (L 0 0)) 0 10 (L 0 10 + 1)
def sp_day (L : LD) : Nat := sp_meals (sp_rot L (L 0 3)) (L 0 0)
theorem nz_eq {a : Nat} (h : a < 2 ^ 31) : (nI a = 0) = (a = 0) := by
  rw [show (0 : Int32) = nI 0 from rfl, nI_eq h (by decide)]
theorem nz_lt {a : Nat} (h : a < 2 ^ 31) : (nI a < 0) = False := eq_false (nI_pos h)
theorem nz_ge {a : Nat} (h : a < 2 ^ 31) : (0 ≤ nI a) = True := eq_true (nI_pos' h)
theorem nz_gt {a : Nat} (h : a < 2 ^ 31) : (0 < nI a) = (0 < a) := by
  rw [show (0 : Int32) = nI 0 from rfl, nI_ltI (by decide) h]
theorem nz_le {a : Nat} (h : a < 2 ^ 31) : (nI a ≤ 0) = (a = 0) := by
  rw [show (0 : Int32) = nI 0 from rfl, nI_leI h (by decide)]
  exact propext Nat.le_zero
theorem nz_00 : (0 : Int32) = nI 0 := rfl
theorem nz_10 : (1 : Int32) = nI 1 := rfl
theorem nz_n1 {a : Nat} (h : 1 ≤ a) : nI a + (-1) = nI (a - 1) := by
  obtain ⟨b, rfl⟩ : ∃ b, a = b + 1 := ⟨a - 1, by omega⟩
  exact pk_m1 b
theorem nI_shl1 {w : Nat} (h : w < 31) : nI 1 <<< (nI w &&& 31) = nI (2 ^ w) := nI_shl h
theorem nI_half2 {a : Nat} (h : a < 2 ^ 31) : nI a / nI 2 = nI (a / 2) := pk_div h (by decide) (by decide)
theorem nI_min {a b : Nat} (ha : a < 2 ^ 31) (hb : b < 2 ^ 31) : (if nI b < nI a then nI b else nI a) = nI (min a b) := by
  rw [Nat.min_def]
  by_cases h : b < a
  · rw [if_pos (by rw [nI_ltI hb ha]; exact h), if_neg (by omega)]
  · rw [if_neg (by rw [nI_ltI hb ha]; exact h), if_pos (by omega)]
theorem nI_min2 {a b : Nat} : (if b < a then nI b else nI a) = nI (min a b) := by
  rw [Nat.min_def]
  by_cases h : b < a
  · rw [if_pos h, if_neg (by omega)]
  · rw [if_neg h, if_pos (by omega)]
theorem lr_same {L : LD} {s j : Nat} {f : Nat → Nat} : lr L s f s j = f j := by simp [lr]
theorem lr_ne {L : LD} {s s' j : Nat} {f : Nat → Nat} (h : s' ≠ s) : lr L s f s' j = L s' j := by simp [lr, h]
theorem lu_same {L : LD} {s j v : Nat} : lu L s j v s j = v := by simp [lu]
theorem lu_ne {L : LD} {s j v s' j' : Nat} (h : ¬ (s' = s ∧ j' = j)) : lu L s j v s' j' = L s' j' := by simp [lu, h]
theorem lr_self (L : LD) (s : Nat) : lr L s (L s) = L := by
  funext s' j'
  by_cases h : s' = s
  · subst h; rw [lr_same]
  · rw [lr_ne h]
theorem lu_self (L : LD) (s j : Nat) : lu L s j (L s j) = L := by
  funext s' j'
  by_cases h : s' = s ∧ j' = j
  · obtain ⟨rfl, rfl⟩ := h; rw [lu_same]
  · rw [lu_ne h]
theorem lu_lr {L : LD} {s j v : Nat} {f g : Nat → Nat} (h : ∀ k, g k = if k = j then v else f k) : lu (lr L s f) s j v = lr L s g := by
  funext s' j'
  by_cases hs : s' = s
  · subst hs
    rw [lr_same, h]
    by_cases hj : j' = j
    · subst hj; rw [lu_same, if_pos rfl]
    · rw [lu_ne (by omega), lr_same, if_neg hj]
  · rw [lr_ne hs, lu_ne (by omega), lr_ne hs]
theorem lr_lr {L : LD} {s : Nat} {f g : Nat → Nat} : lr (lr L s f) s g = lr L s g := by
  funext s' j'
  by_cases hs : s' = s
  · subst hs; rw [lr_same, lr_same]
  · rw [lr_ne hs, lr_ne hs, lr_ne hs]
