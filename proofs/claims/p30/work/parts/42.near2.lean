/-! Distances by the nearest town are the same distances. -/
def nRel (R Z : Nat → Int32) (r : Nat → Nat) (z : Nat → Bool) : Prop := ∀ j, j < 8 → R j = nI (r j) ∧ Z j = (if z j then nI 1 else nI 0)
def nJ (c : Nat → Nat) (a : Nat) (r : Nat → Nat) (z : Nat → Bool) : Prop :=
  r a = 0 ∧ (∀ y, y < 8 → r y ≤ 1000000) ∧ (∀ y, y < 8 → r y = 1000000 ∨ ∃ n, Wk c n a y (r y)) ∧ (∀ x y, x < 8 → y < 8 → z x = true → z y = false → r x ≤ r y) ∧ (∀ x y, x < 8 → y < 8 → z x = true → 0 < c (8 * x + y) → r y ≤ r x + c (8 * x + y))
def nDone (r : Nat → Nat) (z : Nat → Bool) : Prop := ∀ y, y < 8 → z y = false → r y = 1000000
theorem nU_spec {R Z : Nat → Int32} {r : Nat → Nat} {z : Nat → Bool} (L : nRel R Z r z) (h1 : ∀ y, y < 8 → r y ≤ 1000000) : ∀ j, j ≤ 8 → (nU R Z j = (-1, xFAR) ∧ ∀ y, y < j → z y = false → r y = 1000000) ∨ (∃ x, x < j ∧ nU R Z j = (nI x, nI (r x)) ∧ z x = false ∧ r x < 1000000 ∧ ∀ y, y < j → z y = false → r x ≤ r y)
  | 0, _ => Or.inl ⟨rfl, fun y h => absurd h (by omega)⟩
  | j + 1, hj => by
    have ih := nU_spec L h1 j (by omega)
    have e0 : nU R Z (j + 1) = if Z j = 0 ∧ R j < (nU R Z j).2 then (nI j, R j) else nU R Z j := rfl
    obtain ⟨l1, l2⟩ := L j (by omega)
    have b := h1 j (by omega)
    rw [e0]
    cases hz : z j
    · have hZ : Z j = 0 := by rw [l2, hz]; rfl
      rcases ih with ⟨u, v⟩ | ⟨x, hx, u, v, p, q⟩
      · rw [u]
        by_cases hl : r j < 1000000
        · rw [if_pos ⟨hZ, by rw [l1]; exact (nI_ltI (b := 1000000) (by omega) (by omega)).mpr hl⟩, l1]
          refine Or.inr ⟨j, by omega, rfl, hz, hl, fun y hy hy2 => ?_⟩
          by_cases e : y = j
          · rw [e]; exact Nat.le_refl _
          · have := v y (by omega) hy2
            omega
        · rw [if_neg (fun w => hl (by have w2 := w.2; rw [l1] at w2; exact (nI_ltI (b := 1000000) (by omega) (by omega)).mp w2))]
          refine Or.inl ⟨rfl, fun y hy hy2 => ?_⟩
          by_cases e : y = j
          · rw [e]; omega
          · exact v y (by omega) hy2
      · rw [u]
        by_cases hl : r j < r x
        · rw [if_pos ⟨hZ, by rw [l1]; exact (nI_ltI (by omega) (by omega)).mpr hl⟩, l1]
          refine Or.inr ⟨j, by omega, rfl, hz, by omega, fun y hy hy2 => ?_⟩
          by_cases e : y = j
          · rw [e]; exact Nat.le_refl _
          · have := q y (by omega) hy2
            omega
        · rw [if_neg (fun w => hl (by have w2 := w.2; rw [l1] at w2; exact (nI_ltI (by omega) (by omega)).mp w2))]
          refine Or.inr ⟨x, by omega, rfl, v, p, fun y hy hy2 => ?_⟩
          by_cases e : y = j
          · rw [e]; omega
          · exact q y (by omega) hy2
    · have hZ : ¬ Z j = 0 := by rw [l2, hz]; decide
      rw [if_neg (fun w => hZ w.1)]
      rcases ih with ⟨u, v⟩ | ⟨x, hx, u, v, p, q⟩
      · refine Or.inl ⟨u, fun y hy hy2 => ?_⟩
        by_cases e : y = j
        · rw [e, hz] at hy2; cases hy2
        · exact v y (by omega) hy2
      · refine Or.inr ⟨x, by omega, u, v, p, fun y hy hy2 => ?_⟩
        by_cases e : y = j
        · rw [e, hz] at hy2; cases hy2
        · exact q y (by omega) hy2
def nXr (c : Nat → Nat) (x : Nat) (r : Nat → Nat) (j : Nat) : Nat → Nat := fun y => if y < j ∧ 0 < c (8 * x + y) then min (r x + c (8 * x + y)) (r y) else r y
theorem nXr_x {c : Nat → Nat} {x : Nat} {r : Nat → Nat} {j : Nat} : nXr c x r j x = r x := by
  unfold nXr
  split <;> omega
theorem nX_spec {C : Nat → Int32} {c : Nat → Nat} (hc : zcn C c) {R : Nat → Int32} {r : Nat → Nat} {x : Nat} (hx : x < 8) (L : ∀ j, j < 8 → R j = nI (r j)) (h1 : ∀ y, y < 8 → r y ≤ 1000000) : ∀ j, j ≤ 8 → ∀ y, y < 8 → nX C x R j y = nI (nXr c x r j y)
  | 0, _, y, hy => by
    unfold nXr
    rw [if_neg (by omega)]
    exact L y hy
  | j + 1, hj, y, hy => by
    have ih := nX_spec hc hx L h1 j (by omega)
    obtain ⟨c1, c2⟩ := hc (8 * x + j) (by omega)
    have e0 : nX C x R (j + 1) = if 0 < C (8 * x + j) then upd (nX C x R j) j (if nX C x R j x + C (8 * x + j) < nX C x R j j then nX C x R j x + C (8 * x + j) else nX C x R j j) else nX C x R j := rfl
    have bx := h1 x hx
    have bj := h1 j (by omega)
    rw [e0, c2]
    by_cases hp : 0 < c (8 * x + j)
    · rw [if_pos (show 0 < nI (c (8 * x + j)) from (nI_ltI (a := 0) (by omega) (by omega)).mpr hp), ih x hx, nXr_x, ih j (by omega), show nXr c x r j j = r j by unfold nXr; rw [if_neg (by omega)], nI_add]
      unfold upd
      by_cases e : y = j
      · subst e
        rw [if_pos rfl, show nXr c x r (y + 1) y = min (r x + c (8 * x + y)) (r y) from if_pos ⟨by omega, hp⟩]
        by_cases l : r x + c (8 * x + y) < r y
        · rw [if_pos ((nI_ltI (by omega) (by omega)).mpr l), Nat.min_eq_left (by omega)]
        · rw [if_neg (fun q => l ((nI_ltI (by omega) (by omega)).mp q)), Nat.min_eq_right (by omega)]
      · rw [if_neg e, ih y hy]
        unfold nXr
        by_cases l : y < j ∧ 0 < c (8 * x + y)
        · rw [if_pos l, if_pos ⟨by omega, l.2⟩]
        · rw [if_neg l, if_neg (fun q => l ⟨by omega, q.2⟩)]
    · rw [if_neg (show ¬ 0 < nI (c (8 * x + j)) from fun q => hp ((nI_ltI (a := 0) (by omega) (by omega)).mp q)), ih y hy]
      unfold nXr
      by_cases e : y = j
      · subst e
        rw [if_neg (by omega), if_neg (fun q => hp q.2)]
      · by_cases l : y < j ∧ 0 < c (8 * x + y)
        · rw [if_pos l, if_pos ⟨by omega, l.2⟩]
        · rw [if_neg l, if_neg (fun q => l ⟨by omega, q.2⟩)]
theorem cnt_add {p : Nat → Bool} {x : Nat} (hp : p x = false) : ∀ n, cnt (fun j => p j || decide (j = x)) n = cnt p n + (if x < n then 1 else 0)
  | 0 => rfl
  | n + 1 => by
    unfold cnt
    rw [cnt_add hp n]
    by_cases e : n = x
    · subst e
      rw [hp, if_neg (by omega : ¬ n < n), if_pos (by omega : n < n + 1)]
      rw [show (false || decide (n = n)) = true by rw [decide_eq_true rfl]; rfl]
      rfl
    · rw [show (p n || decide (n = x)) = p n by rw [decide_eq_false e, Bool.or_false]]
      by_cases l : x < n
      · rw [if_pos l, if_pos (by omega : x < n + 1)]
        omega
      · rw [if_neg l, if_neg (by omega : ¬ x < n + 1)]
        omega
theorem cnt_all {p : Nat → Bool} : ∀ n, cnt p n = n → ∀ k, k < n → p k = true
  | 0, _, k, hk => absurd hk (by omega)
  | n + 1, h, k, hk => by
    have l := cnt_le p n
    unfold cnt at h
    cases hp : p n
    · rw [hp, if_neg (by decide)] at h
      omega
    · rw [hp, if_pos rfl] at h
      by_cases e : k = n
      · rw [e]; exact hp
      · exact cnt_all n (by omega) k (by omega)
theorem nR_spec {C : Nat → Int32} {c : Nat → Nat} (hc : zcn C c) {a : Nat} (ha : a < 8) {R Z : Nat → Int32} {r : Nat → Nat} {z : Nat → Bool} (L : nRel R Z r z) (J : nJ c a r z) :
    ∃ r' z', nRel (nR C (R, Z)).1 (nR C (R, Z)).2 r' z' ∧ nJ c a r' z' ∧ (nDone r' z' ∨ cnt z' 8 = cnt z 8 + 1) := by
  obtain ⟨j0, j1, j2, j3, j4⟩ := J
  unfold nR
  rcases nU_spec L j1 8 (Nat.le_refl _) with ⟨u, v⟩ | ⟨x, hx, u, v, p, q⟩
  · show ∃ r' z', nRel (if z_ok (nU R Z 8).1 8 then _ else (R, Z)).1 _ r' z' ∧ _
    rw [u]
    exact ⟨r, z, L, ⟨j0, j1, j2, j3, j4⟩, Or.inl v⟩
  · rw [show (nU (R, Z).1 (R, Z).2 8) = (nI x, nI (r x)) from u, show z_ok (nI x, nI (r x)).1 8 = true from z_ok_nI hx (by decide), if_pos rfl, show (nI x, nI (r x)).1.toNatClampNeg = x from nI_clamp (by omega)]
    have X := nX_spec hc hx (fun j hj => (L j hj).1) j1 8 (Nat.le_refl _)
    have ew : ∀ y, y < 8 → nXr c x r 8 y = if 0 < c (8 * x + y) then min (r x + c (8 * x + y)) (r y) else r y := by
      intro y hy
      unfold nXr
      by_cases l : 0 < c (8 * x + y)
      · rw [if_pos ⟨hy, l⟩, if_pos l]
      · rw [if_neg (fun q => l q.2), if_neg l]
    have old : ∀ y, y < 8 → z y = true → nXr c x r 8 y = r y := by
      intro y hy hzy
      have := j3 y x hy hx hzy v
      rw [ew y hy]
      split <;> omega
    have low : ∀ y, y < 8 → z y = false → r x ≤ nXr c x r 8 y := by
      intro y hy hzy
      have := q y hy hzy
      rw [ew y hy]
      split <;> omega
    have le : ∀ y, y < 8 → nXr c x r 8 y ≤ r y := by
      intro y hy
      rw [ew y hy]
      split <;> omega
    refine ⟨nXr c x r 8, fun j => z j || decide (j = x), ?_, ⟨?_, ?_, ?_, ?_, ?_⟩, Or.inr ?_⟩
    · intro j hj
      refine ⟨X j hj, ?_⟩
      show upd Z x (nI 1) j = (if (z j || decide (j = x)) then nI 1 else nI 0)
      unfold upd
      by_cases e : j = x
      · rw [if_pos e, decide_eq_true e, Bool.or_true]
        rfl
      · rw [if_neg e, decide_eq_false e, Bool.or_false]
        exact (L j hj).2
    · have := le a ha
      omega
    · intro y hy
      have := le y hy
      have := j1 y hy
      omega
    · intro y hy
      rw [ew y hy]
      by_cases l : 0 < c (8 * x + y)
      · rw [if_pos l]
        by_cases m : r x + c (8 * x + y) < r y
        · rw [Nat.min_eq_left (by omega)]
          rcases j2 x hx with w | ⟨n, w⟩
          · omega
          · exact Or.inr ⟨n + 1, Wk_add w ⟨y, 0, hy, l, ⟨rfl, rfl⟩, rfl⟩⟩
        · rw [Nat.min_eq_right (by omega)]
          exact j2 y hy
      · rw [if_neg l]
        exact j2 y hy
    · intro x1 y hx1 hy hz1 hzy
      replace hz1 : (z x1 || decide (x1 = x)) = true := hz1
      rw [Bool.or_eq_false_iff] at hzy
      have ly := low y hy hzy.1
      cases hz2 : z x1
      · rw [hz2, Bool.false_or, decide_eq_true_eq] at hz1
        rw [hz1, nXr_x]
        exact ly
      · rw [old x1 hx1 hz2]
        have := j3 x1 x hx1 hx hz2 v
        omega
    · intro x1 y hx1 hy hz1 hcy
      replace hz1 : (z x1 || decide (x1 = x)) = true := hz1
      have ly := le y hy
      cases hz2 : z x1
      · rw [hz2, Bool.false_or, decide_eq_true_eq] at hz1
        subst hz1
        rw [nXr_x, ew y hy, if_pos hcy]
        omega
      · rw [old x1 hx1 hz2]
        have := j4 x1 y hx1 hy hz2 hcy
        omega
    · rw [cnt_add v 8, if_pos hx]
theorem nR_done {C : Nat → Int32} {R Z : Nat → Int32} {r : Nat → Nat} {z : Nat → Bool} (L : nRel R Z r z) (h1 : ∀ y, y < 8 → r y ≤ 1000000) (hd : nDone r z) : nR C (R, Z) = (R, Z) := by
  unfold nR
  rcases nU_spec L h1 8 (Nat.le_refl _) with ⟨u, v⟩ | ⟨x, hx, u, v, p, q⟩
  · rw [show (nU (R, Z).1 (R, Z).2 8) = (-1, xFAR) from u]
    rfl
  · have := hd x hx v
    omega
theorem nRs_spec {C : Nat → Int32} {c : Nat → Nat} (hc : zcn C c) {a : Nat} (ha : a < 8) : ∀ k, ∃ r z, nRel (nRs C (nB a, fun _ => nI 0) k).1 (nRs C (nB a, fun _ => nI 0) k).2 r z ∧ nJ c a r z ∧ (nDone r z ∨ cnt z 8 = k)
  | 0 => by
    refine ⟨fun j => if j = a then 0 else 1000000, fun _ => false, fun j hj => ⟨?_, rfl⟩, ⟨if_pos rfl, fun y _ => ?_, fun y _ => ?_, fun x y _ _ h _ => (by cases h), fun x y _ _ h _ => (by cases h)⟩, Or.inr rfl⟩
    · show (if j = a then nI 0 else xFAR) = nI (if j = a then 0 else 1000000)
      by_cases e : j = a
      · rw [if_pos e, if_pos e]
      · rw [if_neg e, if_neg e]
        rfl
    · show (if y = a then 0 else 1000000) ≤ 1000000
      split <;> omega
    · show (if y = a then 0 else 1000000) = 1000000 ∨ ∃ n, Wk c n a y (if y = a then 0 else 1000000)
      by_cases e : y = a
      · rw [if_pos e]
        exact Or.inr ⟨0, e.symm, rfl⟩
      · rw [if_neg e]
        exact Or.inl rfl
  | k + 1 => by
    obtain ⟨r, z, L, J, h⟩ := nRs_spec hc ha k
    obtain ⟨q, hq⟩ : ∃ q, q = nRs C (nB a, fun _ => nI 0) k := ⟨_, rfl⟩
    have e0 : nRs C (nB a, fun _ => nI 0) (k + 1) = nR C (q.1, q.2) := by rw [hq]; rfl
    rw [← hq] at L
    rw [e0]
    rcases h with h | h
    · rw [nR_done L J.2.1 h]
      exact ⟨r, z, L, J, Or.inl h⟩
    · obtain ⟨r', z', L', J', h'⟩ := nR_spec hc ha L J
      rw [h] at h'
      exact ⟨r', z', L', J', h'⟩
theorem nJ_walk {c : Nat → Nat} {a : Nat} {r : Nat → Nat} {z : Nat → Bool} (J : nJ c a r z) (hd : nDone r z) : ∀ {n k b y : Nat}, k < 8 → b < 8 → Wk c n k b y → r b ≤ r k + y
  | 0, k, b, y, _, _, w => by
    rw [w.1]
    omega
  | n + 1, k, b, y, hk, hb, w => by
    obtain ⟨q, y2, hq, hcq, hw, e⟩ := w
    have ih := nJ_walk J hd hq hb hw
    cases hz : z k
    · have h1 := hd k hk hz
      have h2 := J.2.1 b hb
      omega
    · have := J.2.2.2.2 k q hk hq hz hcq
      omega
/-- by the nearest town or by the nested passes -/
theorem kNd_is {C : Nat → Int32} {c : Nat → Nat} (hc : zcn C c) {a b : Nat} (ha : a < 8) (hb : b < 8) : kNd C a b = xfar (fw C (8 * a + b)) := by
  obtain ⟨r, z, L, J, h⟩ := nRs_spec hc ha 8
  have hd : nDone r z := by
    rcases h with h | h
    · exact h
    · intro y hy hz
      rw [cnt_all 8 h y hy] at hz
      cases hz
  unfold kNd
  rw [(L b hb).1]
  obtain ⟨d1, d2⟩ := fw_nD hc (8 * a + b) (by omega)
  rw [d2]
  congr 2
  have h1 := J.2.1 b hb
  refine Nat.le_antisymm ?_ ?_
  · rcases nD_walk hc ha hb with w | ⟨n, w⟩
    · omega
    · have := nJ_walk J hd ha hb w
      rw [J.1] at this
      omega
  · rcases J.2.2.1 b hb with w | ⟨n, w⟩
    · omega
    · exact nD_le hc ha hb w

