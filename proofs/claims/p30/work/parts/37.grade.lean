/-! How an exit stands among the others; the exit of a rank. -/
def nOwn (f g : Nat → Nat) (e k : Nat) : Nat := if f k < f e then 1 else if f k = f e ∧ g k < g e then 2 else 3
def nGf (can : Nat → Bool) (f g : Nat → Nat) (e : Nat) : Nat → Nat
  | 0 => 3
  | k + 1 => if can k then (if nOwn f g e k < nGf can f g e k then nOwn f g e k else nGf can f g e k) else nGf can f g e k
theorem nOwn_3 (f g : Nat → Nat) (e k : Nat) : 1 ≤ nOwn f g e k ∧ nOwn f g e k ≤ 3 := by
  unfold nOwn
  split
  · omega
  · split <;> omega
theorem nGf_lo {can : Nat → Bool} {f g : Nat → Nat} {e : Nat} : ∀ n, nGf can f g e n ≤ 3 ∧ (∀ k, k < n → can k = true → nGf can f g e n ≤ nOwn f g e k) ∧ (nGf can f g e n = 3 ∨ ∃ k, k < n ∧ can k = true ∧ nOwn f g e k = nGf can f g e n)
  | 0 => ⟨Nat.le_refl _, fun k h _ => absurd h (by omega), Or.inl rfl⟩
  | n + 1 => by
    obtain ⟨h1, h2, h3⟩ := nGf_lo (can := can) (f := f) (g := g) (e := e) n
    have ho := nOwn_3 f g e n
    have e0 : nGf can f g e (n + 1) = if can n then (if nOwn f g e n < nGf can f g e n then nOwn f g e n else nGf can f g e n) else nGf can f g e n := rfl
    rw [e0]
    cases hc : can n
    · rw [if_neg (by decide)]
      refine ⟨h1, fun k hk hk2 => ?_, ?_⟩
      · by_cases q : k = n
        · rw [q, hc] at hk2; cases hk2
        · exact h2 k (by omega) hk2
      · rcases h3 with h3 | ⟨k, a, b, c⟩
        · exact Or.inl h3
        · exact Or.inr ⟨k, by omega, b, c⟩
    · rw [if_pos rfl]
      by_cases hl : nOwn f g e n < nGf can f g e n
      · rw [if_pos hl]
        refine ⟨ho.2, fun k hk hk2 => ?_, Or.inr ⟨n, by omega, hc, rfl⟩⟩
        by_cases q : k = n
        · rw [q]; exact Nat.le_refl _
        · have := h2 k (by omega) hk2
          omega
      · rw [if_neg hl]
        refine ⟨h1, fun k hk hk2 => ?_, ?_⟩
        · by_cases q : k = n
          · rw [q]; omega
          · exact h2 k (by omega) hk2
        · rcases h3 with h3 | ⟨k, a, b, c⟩
          · exact Or.inl h3
          · exact Or.inr ⟨k, by omega, b, c⟩
/-- the grade by the least marks -/
theorem nGf_spec {can : Nat → Bool} {f g : Nat → Nat} {e n : Nat} {q : Nat × Nat × Nat × Nat} (Q : nSpec can f g n q) (he : e < n) (hc : can e = true) : nGf can f g e n = if f e = q.2.2.1 then (if g e = q.2.2.2 then 3 else 2) else 1 := by
  obtain ⟨_, _, h3, h4, _, _⟩ := Q
  obtain ⟨l1, l2, l3⟩ := nGf_lo (can := can) (f := f) (g := g) (e := e) n
  have le := h3 e he hc
  rcases h4 with ⟨m, hm, a, b, c⟩ | ⟨_, _, z⟩
  · have lm := l2 m hm a
    have om : nOwn f g e m = if f m < f e then 1 else if f m = f e ∧ g m < g e then 2 else 3 := rfl
    rw [b, c] at om
    have l0 : 1 ≤ nGf can f g e n := by
      rcases l3 with l3 | ⟨k, _, _, d⟩
      · omega
      · have := (nOwn_3 f g e k).1
        omega
    have lk : nGf can f g e n = 3 ∨ ∃ k, (q.2.2.1 < f k ∨ (q.2.2.1 = f k ∧ q.2.2.2 ≤ g k)) ∧ nGf can f g e n = if f k < f e then 1 else if f k = f e ∧ g k < g e then 2 else 3 := by
      rcases l3 with l3 | ⟨k, hk, ck, d⟩
      · exact Or.inl l3
      · exact Or.inr ⟨k, h3 k hk ck, d.symm⟩
    by_cases x : f e = q.2.2.1
    · rw [if_pos x]
      by_cases y : g e = q.2.2.2
      · rw [if_pos y]
        rcases lk with lk | ⟨k, u, v⟩
        · exact lk
        · rw [v, if_neg (by omega), if_neg (by omega)]
      · rw [if_neg y]
        rw [if_neg (by omega), if_pos (by omega)] at om
        rcases lk with lk | ⟨k, u, v⟩
        · omega
        · rw [if_neg (by omega)] at v
          split at v <;> omega
    · rw [if_neg x]
      rw [if_pos (by omega)] at om
      omega
  · have := z e he
    rw [hc] at this
    cases this
/-- the exit found, rank by rank -/
def mfo (p : Nat → Bool) : Nat → Nat → Int32 → Int32 → Int32
  | _, 0, f, _ => f
  | t, k + 1, f, r => mfo p (t + 1) k (if p t = true ∧ r = 0 then nI t else f) (r - zb (p t))
theorem sub_zb_f {r : Int32} : r - zb false = r := Int32.sub_zero r
theorem sub_zb_t {r : Int32} : r - zb true = r + (-1) := Int32.sub_eq_add_neg r 1
theorem mfo_after {p : Nat → Bool} : ∀ (k t : Nat) (f : Int32) (j : Nat), j + k < 1000 → mfo p t k f (0 - nI (j + 1)) = f
  | 0, _, _, _, _ => rfl
  | k + 1, t, f, j, h => by
    have hn : ¬ (0 - nI (j + 1) : Int32) = 0 := by
      intro q
      have h2 := Int32.sub_eq_iff_eq_add.mp q
      rw [Int32.zero_add] at h2
      exact nI_ne0 (n := j + 1) (by omega) (by omega) h2.symm
    unfold mfo
    rw [if_neg (fun q => hn q.2)]
    cases p t
    · rw [sub_zb_f]
      exact mfo_after k (t + 1) f j (by omega)
    · have e1 : (0 - nI (j + 1) : Int32) - zb true = 0 - nI (j + 1 + 1) := by
        rw [show zb true = nI 1 from rfl, Int32.sub_sub, nI_add]
      rw [e1]
      exact mfo_after k (t + 1) f (j + 1) (by omega)
theorem mfo_xrk {p : Nat → Bool} : ∀ (k t : Nat) (f r : Int32), t + k < 1000 → mfo p t k f r = if xrk p t k r = -1 then f else xrk p t k r
  | 0, _, _, _, _ => rfl
  | k + 1, t, f, r, h => by
    have e0 : xrk p t (k + 1) r = if p t then (if r = 0 then nI t else xrk p (t + 1) k (r + (-1))) else xrk p (t + 1) k r := rfl
    have e1 : mfo p t (k + 1) f r = mfo p (t + 1) k (if p t = true ∧ r = 0 then nI t else f) (r - zb (p t)) := rfl
    rw [e0, e1]
    cases hp : p t
    · rw [if_neg (fun q => by cases q.1), sub_zb_f]
      exact mfo_xrk k (t + 1) f r (by omega)
    · rw [if_pos rfl]
      by_cases hr : r = 0
      · rw [if_pos ⟨rfl, hr⟩, if_pos hr, if_neg (nI_nm1 (by omega)), hr]
        exact mfo_after k (t + 1) (nI t) 0 (by omega)
      · rw [if_neg (fun q => hr q.2), if_neg hr, sub_zb_t]
        exact mfo_xrk k (t + 1) f (r + (-1)) (by omega)
/-- none beyond s -/
theorem xrk_ext {p : Nat → Bool} {s : Nat} (h : ∀ k, s ≤ k → p k = false) : ∀ (k t : Nat) (r : Int32), s ≤ t → xrk p t k r = -1
  | 0, _, _, _ => rfl
  | k + 1, t, r, ht => by
    unfold xrk
    rw [h t ht, if_neg (by decide)]
    exact xrk_ext h k (t + 1) r (by omega)
theorem xrk_cut {p : Nat → Bool} {s : Nat} (h : ∀ k, s ≤ k → p k = false) : ∀ (k j t : Nat) (r : Int32), t + k = s → xrk p t (k + j) r = xrk p t k r
  | 0, j, t, r, ht => by
    rw [Nat.zero_add, xrk_ext h j t r (by omega)]
    rfl
  | k + 1, j, t, r, ht => by
    rw [show k + 1 + j = (k + j) + 1 by omega]
    unfold xrk
    rw [xrk_cut h k j (t + 1) _ (by omega), xrk_cut h k j (t + 1) _ (by omega)]
theorem xrk_in {p : Nat → Bool} : ∀ (k t : Nat) (r : Int32), xrk p t k r = -1 ∨ ∃ e, t ≤ e ∧ e < t + k ∧ p e = true ∧ xrk p t k r = nI e
  | 0, _, _ => Or.inl rfl
  | k + 1, t, r => by
    have e0 : xrk p t (k + 1) r = if p t then (if r = 0 then nI t else xrk p (t + 1) k (r + (-1))) else xrk p (t + 1) k r := rfl
    rw [e0]
    cases hp : p t
    · rw [if_neg (by decide)]
      rcases xrk_in (p := p) k (t + 1) r with a | ⟨e, a, b, c, d⟩
      · exact Or.inl a
      · exact Or.inr ⟨e, by omega, by omega, c, d⟩
    · rw [if_pos rfl]
      by_cases hr : r = 0
      · rw [if_pos hr]
        exact Or.inr ⟨t, Nat.le_refl _, by omega, hp, rfl⟩
      · rw [if_neg hr]
        rcases xrk_in (p := p) k (t + 1) (r + (-1)) with a | ⟨e, a, b, c, d⟩
        · exact Or.inl a
        · exact Or.inr ⟨e, by omega, by omega, c, d⟩

