/-! Numbers alone: the land as a row V of 174 numbers (the reference's order), distances, loops. -/
theorem z_inc1 (a : Nat) : nI a + Int32.ofInt 1 = nI (a + 1) := nI_1 a
theorem z_loop (P : Nat → Prop) (e : Nat) (h0 : P e) (hs : ∀ i, i < e → P (i + 1) → P i) (i : Nat) (hi : i ≤ e) : P i := by
  obtain ⟨k, hk⟩ : ∃ k, k = e - i := ⟨_, rfl⟩
  induction k generalizing i with
  | zero =>
    have e1 : i = e := by omega
    rw [e1]
    exact h0
  | succ k ih => exact hs i (by omega) (ih (i + 1) (by omega) (by omega))
theorem z_okc {x : Int32} {n : Nat} (hn : n < 2 ^ 31) : z_ok x n = true ∨ z_ok x n = false := by
  cases z_ok x n
  · exact Or.inr rfl
  · exact Or.inl rfl
def xFAR : Int32 := nI 1000000
/-- a step of the distances: by a town 'over', for the pair k -/
def fwS (o k : Nat) (R : Nat → Int32) : Nat → Int32 := upd R k (if R (8 * (k / 8) + o) + R (8 * o + k % 8) < R k then R (8 * (k / 8) + o) + R (8 * o + k % 8) else R k)
def fwK (o : Nat) (R : Nat → Int32) : Nat → Nat → Int32
  | 0 => R
  | k + 1 => fwS o k (fwK o R k)
def fwO (R : Nat → Int32) : Nat → Nat → Int32
  | 0 => R
  | o + 1 => fwK o (fwO R o) 64
def fwI (c : Nat → Int32) : Nat → Int32 := fun j => if j / 8 = j % 8 then 0 else if c j = 0 then xFAR else c j
/-- all distances, out of all costs -/
def fw (c : Nat → Int32) : Nat → Int32 := fwO (fwI c) 8
def aeq (n : Nat) (f g : Nat → Int32) : Prop := ∀ j, j < n → f j = g j
theorem aeq.rf {n : Nat} {f : Nat → Int32} : aeq n f f := fun _ _ => rfl
theorem aeq.sy {n : Nat} {f g : Nat → Int32} (h : aeq n f g) : aeq n g f := fun j hj => (h j hj).symm
theorem aeq.tr {n : Nat} {f g k : Nat → Int32} (h : aeq n f g) (h2 : aeq n g k) : aeq n f k := fun j hj => (h j hj).trans (h2 j hj)
theorem fwS_cong {o k : Nat} {R Q : Nat → Int32} (ho : o < 8) (hk : k < 64) (h : aeq 64 R Q) : aeq 64 (fwS o k R) (fwS o k Q) := by
  intro j hj
  unfold fwS upd
  by_cases e : j = k
  · rw [if_pos e, if_pos e, h _ (by omega : 8 * (k / 8) + o < 64), h _ (by omega : 8 * o + k % 8 < 64), h k hk]
  · rw [if_neg e, if_neg e, h j hj]
theorem fwK_cong {o : Nat} {R Q : Nat → Int32} (ho : o < 8) (h : aeq 64 R Q) : ∀ k, k ≤ 64 → aeq 64 (fwK o R k) (fwK o Q k)
  | 0, _ => h
  | k + 1, hk => fwS_cong ho (by omega) (fwK_cong ho h k (by omega))
theorem fwO_cong {R Q : Nat → Int32} (h : aeq 64 R Q) : ∀ o, o ≤ 8 → aeq 64 (fwO R o) (fwO Q o)
  | 0, _ => h
  | o + 1, ho => fwK_cong (by omega) (fwO_cong h o (by omega)) 64 (Nat.le_refl _)
theorem fw_of {c R : Nat → Int32} (h : aeq 64 R (fwI c)) : aeq 64 (fwO R 8) (fw c) := fwO_cong h 8 (Nat.le_refl _)
theorem fwI_cong {c e : Nat → Int32} (h : aeq 64 c e) : aeq 64 (fwI c) (fwI e) := fun j hj => by
  unfold fwI
  rw [h j hj]
theorem fw_cong {c e : Nat → Int32} (h : aeq 64 c e) : aeq 64 (fw c) (fw e) := fwO_cong (fwI_cong h) 8 (Nat.le_refl _)
/-- the two ways to write the lesser of two -/
theorem z_min2 (x y : Int32) : (if y < x then y else x) = (if x < y then x else y) := by
  by_cases h : y < x
  · rw [if_pos h, if_neg (fun q => Int32.lt_irrefl (Int32.lt_trans h q))]
  · rw [if_neg h]
    by_cases g : x < y
    · rw [if_pos g]
    · rw [if_neg g]
      exact Int32.le_antisymm (Int32.not_lt.mp h) (Int32.not_lt.mp g)
/-- the land (class's own, number i) holds the row V -/
def LandR (M : Nat → Nat → Nat → Int32) (i : Nat) (V : Nat → Int32) : Prop :=
  (∀ j, j < 2 → M 18 i j = V j) ∧ (∀ j, j < 64 → M 27 i j = V (2 + j)) ∧ M 1 i 5 = V 66 ∧
  ((∀ e, e < 8 → M 13 i e = V (67 + 5 * e)) ∧ (∀ e, e < 8 → M 14 i e = V (68 + 5 * e)) ∧ (∀ e, e < 8 → M 15 i e = V (69 + 5 * e)) ∧ (∀ e, e < 8 → M 16 i e = V (70 + 5 * e)) ∧ (∀ e, e < 8 → M 17 i e = V (71 + 5 * e))) ∧
  ((∀ j, j < 16 → M 22 i j = V (107 + j)) ∧ (∀ j, j < 4 → M 23 i j = V (123 + j)) ∧ (∀ j, j < 4 → M 24 i j = V (127 + j)) ∧ (∀ j, j < 4 → M 25 i j = V (131 + j)) ∧ (∀ j, j < 4 → M 26 i j = V (135 + j))) ∧
  (∀ j, j < 32 → M 19 i j = V (139 + j)) ∧ M 3 i 5 = V 171 ∧ M 3 i 6 = V 172 ∧ M 3 i 7 = V 173 ∧ (∀ j, j < 64 → M 28 i j = fw (fun k => V (2 + k)) j)
/-- a row that a land can be -/
def WFV (V : Nat → Int32) : Prop :=
  (∀ j, j < 2 → V j = nI 0 ∨ V j = nI 1) ∧ (∀ j, j < 64 → ∃ c, c ≤ 99 ∧ V (2 + j) = nI c) ∧ (∀ a b, a < 8 → b < 8 → V (2 + (8 * a + b)) = V (2 + (8 * b + a))) ∧ (∀ a, a < 8 → V (2 + (8 * a + a)) = nI 0) ∧
  (∃ s, s ≤ 8 ∧ V 66 = nI s ∧ (∀ e, e < s → (∃ t, t < 8 ∧ V (67 + 5 * e) = nI t) ∧ (∃ q, q < 4 ∧ V (68 + 5 * e) = nI q) ∧ (V (69 + 5 * e) = nI 0 ∨ V (69 + 5 * e) = nI 1)) ∧ (∀ e, s ≤ e → e < 8 → V (70 + 5 * e) = nI 0 ∧ V (71 + 5 * e) = nI 0)) ∧
  (∀ j, j < 16 → ∃ l, l ≤ 9 ∧ V (107 + j) = nI l) ∧ (∃ t c, t ≤ 9999 ∧ c ≤ t ∧ V 171 = nI t ∧ V 172 = nI c)
