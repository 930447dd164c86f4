/-! Distances: what the nested passes come to, in whole numbers. -/
def nfS (o k : Nat) (r : Nat → Nat) : Nat → Nat := fun j => if j = k then min (r (8 * (k / 8) + o) + r (8 * o + k % 8)) (r k) else r j
def nfK (o : Nat) (r : Nat → Nat) : Nat → Nat → Nat
  | 0 => r
  | k + 1 => nfS o k (nfK o r k)
def nfO (r : Nat → Nat) : Nat → Nat → Nat
  | 0 => r
  | o + 1 => nfK o (nfO r o) 64
/-- R holds the whole numbers r -/
def zrn (R : Nat → Int32) (r : Nat → Nat) : Prop := ∀ j, j < 64 → r j ≤ 1000000 ∧ R j = nI (r j)
theorem nfS_of {o k : Nat} {R : Nat → Int32} {r : Nat → Nat} (ho : o < 8) (hk : k < 64) (h : zrn R r) : zrn (fwS o k R) (nfS o k r) := by
  intro j hj
  obtain ⟨a1, a2⟩ := h (8 * (k / 8) + o) (by omega)
  obtain ⟨b1, b2⟩ := h (8 * o + k % 8) (by omega)
  obtain ⟨c1, c2⟩ := h k hk
  unfold fwS nfS upd
  by_cases e : j = k
  · rw [if_pos e, if_pos e, a2, b2, c2, nI_add]
    by_cases hl : r (8 * (k / 8) + o) + r (8 * o + k % 8) < r k
    · rw [if_pos ((nI_ltI (by omega) (by omega)).mpr hl), Nat.min_eq_left (by omega)]
      exact ⟨by omega, rfl⟩
    · rw [if_neg (fun z => hl ((nI_ltI (by omega) (by omega)).mp z)), Nat.min_eq_right (by omega)]
      exact ⟨c1, rfl⟩
  · rw [if_neg e, if_neg e]
    exact h j hj
theorem nfK_of {o : Nat} {R : Nat → Int32} {r : Nat → Nat} (ho : o < 8) (h : zrn R r) : ∀ k, k ≤ 64 → zrn (fwK o R k) (nfK o r k)
  | 0, _ => h
  | k + 1, hk => nfS_of ho (by omega) (nfK_of ho h k (by omega))
theorem nfO_of {R : Nat → Int32} {r : Nat → Nat} (h : zrn R r) : ∀ o, o ≤ 8 → zrn (fwO R o) (nfO r o)
  | 0, _ => h
  | o + 1, ho => nfK_of (by omega) (nfO_of h o (by omega)) 64 (Nat.le_refl _)
/-- one pass, if the middle town is at distance 0 of itself -/
theorem nfK_is {o : Nat} {r : Nat → Nat} (ho : o < 8) (h0 : r (8 * o + o) = 0) : ∀ k, k ≤ 64 → ∀ j, nfK o r k j = if j < k then min (r (8 * (j / 8) + o) + r (8 * o + j % 8)) (r j) else r j
  | 0, _, j => by
    rw [if_neg (by omega)]
    rfl
  | k + 1, hk, j => by
    have ih := nfK_is ho h0 k (by omega)
    have e0 : nfK o r (k + 1) j = if j = k then min (nfK o r k (8 * (k / 8) + o) + nfK o r k (8 * o + k % 8)) (nfK o r k k) else nfK o r k j := rfl
    have p1 : nfK o r k (8 * (k / 8) + o) = r (8 * (k / 8) + o) := by
      rw [ih]
      split
      · rw [show (8 * (k / 8) + o) / 8 = k / 8 by omega, show (8 * (k / 8) + o) % 8 = o by omega, h0]
        omega
      · rfl
    have p2 : nfK o r k (8 * o + k % 8) = r (8 * o + k % 8) := by
      rw [ih]
      split
      · rw [show (8 * o + k % 8) / 8 = o by omega, show (8 * o + k % 8) % 8 = k % 8 by omega, h0]
        omega
      · rfl
    have p3 : nfK o r k k = r k := by rw [ih, if_neg (by omega)]
    rw [e0, p1, p2, p3]
    by_cases e : j = k
    · rw [if_pos e, if_pos (by omega), e]
    · rw [if_neg e, ih]
      by_cases l : j < k
      · rw [if_pos l, if_pos (by omega)]
      · rw [if_neg l, if_neg (by omega)]
/-- a walk of n roads from a to b, x long -/
def Wk (c : Nat → Nat) : Nat → Nat → Nat → Nat → Prop
  | 0, a, b, x => a = b ∧ x = 0
  | n + 1, a, b, x => ∃ k y, k < 8 ∧ 0 < c (8 * a + k) ∧ Wk c n k b y ∧ x = c (8 * a + k) + y
theorem Wk_add {c : Nat → Nat} : ∀ {n m a k b x y : Nat}, Wk c n a k x → Wk c m k b y → Wk c (n + m) a b (x + y)
  | 0, m, a, k, b, x, y, h, g => by
    obtain ⟨h1, h2⟩ := h
    subst h1
    subst h2
    rw [Nat.zero_add, Nat.zero_add]
    exact g
  | n + 1, m, a, k, b, x, y, h, g => by
    obtain ⟨q, z, hq, hc, hw, e⟩ := h
    rw [show n + 1 + m = (n + m) + 1 by omega]
    exact ⟨q, z + y, hq, hc, Wk_add hw g, by omega⟩
def n0 (c : Nat → Nat) : Nat → Nat := fun j => if j / 8 = j % 8 then 0 else if c j = 0 then 1000000 else c j
/-- what holds behind o passes -/
def nInv (c : Nat → Nat) (o : Nat) (r : Nat → Nat) : Prop :=
  (∀ a, a < 8 → r (8 * a + a) = 0) ∧ (∀ a b k, a < 8 → b < 8 → k < o → r (8 * a + b) ≤ r (8 * a + k) + r (8 * k + b)) ∧ (∀ a b, a < 8 → b < 8 → r (8 * a + b) ≤ n0 c (8 * a + b)) ∧ (∀ a b, a < 8 → b < 8 → r (8 * a + b) = 1000000 ∨ ∃ n, Wk c n a b (r (8 * a + b)))
theorem nInv_0 (c : Nat → Nat) : nInv c 0 (n0 c) := by
  refine ⟨fun a ha => ?_, fun a b k _ _ hk => absurd hk (by omega), fun a b _ _ => Nat.le_refl _, fun a b ha hb => ?_⟩
  · unfold n0
    rw [if_pos (by omega)]
  · unfold n0
    by_cases e : a = b
    · rw [if_pos (by omega)]
      exact Or.inr ⟨0, e, rfl⟩
    · rw [if_neg (by omega)]
      by_cases z : c (8 * a + b) = 0
      · rw [if_pos z]
        exact Or.inl rfl
      · rw [if_neg z]
        exact Or.inr ⟨1, b, 0, hb, Nat.pos_of_ne_zero z, ⟨rfl, rfl⟩, by omega⟩
theorem nInv_s {c : Nat → Nat} {o : Nat} {r : Nat → Nat} (hr : ∀ j, r j ≤ 1000000 ∨ 64 ≤ j) (ho : o < 8) (h : nInv c o r) : nInv c (o + 1) (nfK o r 64) := by
  obtain ⟨h1, h2, h3, h4⟩ := h
  have e : ∀ a b, a < 8 → b < 8 → nfK o r 64 (8 * a + b) = min (r (8 * a + o) + r (8 * o + b)) (r (8 * a + b)) := by
    intro a b ha hb
    rw [nfK_is ho (h1 o ho) 64 (Nat.le_refl _), if_pos (by omega), show (8 * a + b) / 8 = a by omega, show (8 * a + b) % 8 = b by omega]
  refine ⟨fun a ha => ?_, fun a b k ha hb hk => ?_, fun a b ha hb => ?_, fun a b ha hb => ?_⟩
  · rw [e a a ha ha, h1 a ha]
    omega
  · rw [e a b ha hb, e a k ha (by omega), e k b (by omega) hb]
    have z := h1 o ho
    by_cases q : k = o
    · subst q
      omega
    · have t1 := h2 a b k ha hb (by omega)
      have t2 := h2 a o k ha ho (by omega)
      have t3 := h2 o b k ho hb (by omega)
      omega
  · rw [e a b ha hb]
    have := h3 a b ha hb
    omega
  · rw [e a b ha hb]
    have b1 := hr (8 * a + b)
    by_cases q : r (8 * a + o) + r (8 * o + b) < r (8 * a + b)
    · rw [Nat.min_eq_left (by omega)]
      rcases h4 a o ha ho with x | ⟨n, x⟩
      · omega
      · rcases h4 o b ho hb with y | ⟨m, y⟩
        · omega
        · exact Or.inr ⟨n + m, Wk_add x y⟩
    · rw [Nat.min_eq_right (by omega)]
      exact h4 a b ha hb
theorem nInv_o {C : Nat → Int32} {c : Nat → Nat} (h0 : zrn (fwI C) (n0 c)) : ∀ o, o ≤ 8 → nInv c o (nfO (n0 c) o)
  | 0, _ => nInv_0 c
  | o + 1, ho => by
    refine nInv_s (fun j => ?_) (by omega) (nInv_o h0 o (by omega))
    by_cases hj : j < 64
    · exact Or.inl (nfO_of h0 o (by omega) j hj).1
    · exact Or.inr (by omega)
/-- the distances of all costs -/
def nD (c : Nat → Nat) : Nat → Nat := nfO (n0 c) 8
def zcn (C : Nat → Int32) (c : Nat → Nat) : Prop := ∀ j, j < 64 → c j ≤ 99 ∧ C j = nI (c j)
theorem zcn_0 {C : Nat → Int32} {c : Nat → Nat} (h : zcn C c) : zrn (fwI C) (n0 c) := by
  intro j hj
  obtain ⟨a, b⟩ := h j hj
  unfold fwI n0
  by_cases e : j / 8 = j % 8
  · rw [if_pos e, if_pos e]
    exact ⟨by omega, rfl⟩
  · rw [if_neg e, if_neg e]
    by_cases z : c j = 0
    · rw [if_pos z, if_pos (by rw [b, z]; rfl)]
      exact ⟨Nat.le_refl _, rfl⟩
    · rw [if_neg z, if_neg (by rw [b]; exact nI_ne0 (by omega) (by omega))]
      exact ⟨by omega, b⟩
theorem fw_nD {C : Nat → Int32} {c : Nat → Nat} (h : zcn C c) : zrn (fw C) (nD c) := nfO_of (zcn_0 h) 8 (Nat.le_refl _)
/-- a distance is no longer than any walk -/
theorem nD_le {C : Nat → Int32} {c : Nat → Nat} (h : zcn C c) : ∀ {n a b x : Nat}, a < 8 → b < 8 → Wk c n a b x → nD c (8 * a + b) ≤ x
  | 0, a, b, x, ha, hb, w => by
    obtain ⟨e, z⟩ := w
    subst e
    rw [z]
    exact Nat.le_of_eq ((nInv_o (zcn_0 h) 8 (Nat.le_refl _)).1 a ha)
  | n + 1, a, b, x, ha, hb, w => by
    obtain ⟨k, y, hk, hc, hw, e⟩ := w
    obtain ⟨i1, i2, i3, _⟩ := nInv_o (zcn_0 h) 8 (Nat.le_refl _)
    have t := i2 a b k ha hb hk
    have u := nD_le h hk hb hw
    have v : nfO (n0 c) 8 (8 * a + k) ≤ c (8 * a + k) := by
      by_cases q : a = k
      · subst q
        rw [i1 a ha]
        omega
      · have := i3 a k ha hk
        unfold n0 at this
        rw [if_neg (by omega), if_neg (by omega)] at this
        exact this
    unfold nD at u ⊢
    omega
theorem nD_walk {C : Nat → Int32} {c : Nat → Nat} (h : zcn C c) {a b : Nat} (ha : a < 8) (hb : b < 8) : nD c (8 * a + b) = 1000000 ∨ ∃ n, Wk c n a b (nD c (8 * a + b)) := (nInv_o (zcn_0 h) 8 (Nat.le_refl _)).2.2.2 a b ha hb
/-- the first step of a shortest way -/
theorem nD_step {C : Nat → Int32} {c : Nat → Nat} (h : zcn C c) {a b : Nat} (ha : a < 8) (hb : b < 8) (hab : a ≠ b) (hf : nD c (8 * a + b) < 1000000) : ∃ k, k < 8 ∧ 0 < c (8 * a + k) ∧ c (8 * a + k) + nD c (8 * k + b) = nD c (8 * a + b) := by
  rcases nD_walk h ha hb with z | ⟨n, w⟩
  · omega
  · cases n with
    | zero => exact absurd w.1 hab
    | succ n =>
      obtain ⟨k, y, hk, hc, hw, e⟩ := w
      have u := nD_le h hk hb hw
      have v : nD c (8 * a + b) ≤ c (8 * a + k) + nD c (8 * k + b) := by
        rcases nD_walk h hk hb with z | ⟨m, w2⟩
        · have := (fw_nD h (8 * a + b) (by omega)).1
          omega
        · exact nD_le h ha hb (n := m + 1) ⟨k, _, hk, hc, w2, rfl⟩
      exact ⟨k, hk, hc, by omega⟩

