/-! A land's numbers by their places in the row; rows that change in a place. -/
def dmK (k j : Nat) : Bool := match k with
  | 18 => decide (j < 2) | 27 => decide (j < 64) | 1 => decide (j = 5)
  | 13 => decide (j < 8) | 14 => decide (j < 8) | 15 => decide (j < 8) | 16 => decide (j < 8) | 17 => decide (j < 8)
  | 22 => decide (j < 16) | 23 => decide (j < 4) | 24 => decide (j < 4) | 25 => decide (j < 4) | 26 => decide (j < 4)
  | 19 => decide (j < 32) | 3 => decide (5 ≤ j) && decide (j < 8) | _ => false
def plK (k j : Nat) : Nat := match k with
  | 18 => j | 27 => 2 + j | 1 => 66
  | 13 => 67 + 5 * j | 14 => 68 + 5 * j | 15 => 69 + 5 * j | 16 => 70 + 5 * j | 17 => 71 + 5 * j
  | 22 => 107 + j | 23 => 123 + j | 24 => 127 + j | 25 => 131 + j | 26 => 135 + j
  | 19 => 139 + j | 3 => 166 + j | _ => 174
def upK (p : Nat) : Nat × Nat :=
  if p < 2 then (18, p) else if p < 66 then (27, p - 2) else if p = 66 then (1, 5)
  else if p < 107 then (13 + (p - 67) % 5, (p - 67) / 5) else if p < 123 then (22, p - 107) else if p < 127 then (23, p - 123) else if p < 131 then (24, p - 127)
  else if p < 135 then (25, p - 131) else if p < 139 then (26, p - 135) else if p < 171 then (19, p - 139) else (3, p - 166)
theorem upK_pl : ∀ k, k < 30 → ∀ j, j < 64 → dmK k j = true → upK (plK k j) = (k, j) := by decide +kernel
theorem plK_lt : ∀ k, k < 30 → ∀ j, j < 64 → dmK k j = true → plK k j < 174 := by decide +kernel
theorem plK_27 : ∀ k, k < 30 → ∀ j, j < 64 → dmK k j = true → k ≠ 27 → plK k j < 2 ∨ 66 ≤ plK k j := by decide +kernel
theorem dmK_lt {k j : Nat} (h : dmK k j = true) : k < 30 ∧ j < 64 := by
  unfold dmK at h
  split at h <;> simp at h <;> omega
theorem LandR_iff {M : Nat → Nat → Nat → Int32} {i : Nat} {V : Nat → Int32} : LandR M i V ↔ (∀ k j, dmK k j = true → M k i j = V (plK k j)) ∧ (∀ j, j < 64 → M 28 i j = fw (fun k => V (2 + k)) j) := by
  constructor
  · rintro ⟨r1, r2, r3, ⟨r4, r5, r6, r7, r8⟩, ⟨r9, r10, r11, r12, r13⟩, r14, r15, r16, r17, r18⟩
    refine ⟨fun k j h => ?_, r18⟩
    unfold dmK at h
    split at h
    · exact r1 j (of_decide_eq_true h)
    · exact r2 j (of_decide_eq_true h)
    · rw [of_decide_eq_true h]; exact r3
    · exact r4 j (of_decide_eq_true h)
    · exact r5 j (of_decide_eq_true h)
    · exact r6 j (of_decide_eq_true h)
    · exact r7 j (of_decide_eq_true h)
    · exact r8 j (of_decide_eq_true h)
    · exact r9 j (of_decide_eq_true h)
    · exact r10 j (of_decide_eq_true h)
    · exact r11 j (of_decide_eq_true h)
    · exact r12 j (of_decide_eq_true h)
    · exact r13 j (of_decide_eq_true h)
    · exact r14 j (of_decide_eq_true h)
    · rw [Bool.and_eq_true, decide_eq_true_eq, decide_eq_true_eq] at h
      obtain e | e | e : j = 5 ∨ j = 6 ∨ j = 7 := by omega
      · rw [e]; exact r15
      · rw [e]; exact r16
      · rw [e]; exact r17
    · cases h
  · rintro ⟨h, r18⟩
    exact ⟨fun j hj => h 18 j (decide_eq_true hj), fun j hj => h 27 j (decide_eq_true hj), h 1 5 rfl, ⟨fun j hj => h 13 j (decide_eq_true hj), fun j hj => h 14 j (decide_eq_true hj), fun j hj => h 15 j (decide_eq_true hj), fun j hj => h 16 j (decide_eq_true hj), fun j hj => h 17 j (decide_eq_true hj)⟩, ⟨fun j hj => h 22 j (decide_eq_true hj), fun j hj => h 23 j (decide_eq_true hj), fun j hj => h 24 j (decide_eq_true hj), fun j hj => h 25 j (decide_eq_true hj), fun j hj => h 26 j (decide_eq_true hj)⟩, fun j hj => h 19 j (decide_eq_true hj), h 3 5 rfl, h 3 6 rfl, h 3 7 rfl, r18⟩
/-- one number of a land changes -/
theorem LandR_u3 {M : Nat → Nat → Nat → Int32} {i k j : Nat} {V : Nat → Int32} {x : Int32} (R : LandR M i V) (h : dmK k j = true) (h27 : k ≠ 27) : LandR (u3 M k i j x) i (upd V (plK k j) x) := by
  obtain ⟨r, r18⟩ := LandR_iff.mp R
  obtain ⟨b1, b2⟩ := dmK_lt h
  refine LandR_iff.mpr ⟨fun a b hab => ?_, fun b hb => ?_⟩
  · obtain ⟨c1, c2⟩ := dmK_lt hab
    unfold u3 upd
    by_cases e : a = k ∧ b = j
    · rw [if_pos ⟨e.1, rfl, e.2⟩, if_pos (by rw [e.1, e.2])]
    · rw [if_neg (fun q => e ⟨q.1, q.2.2⟩), if_neg (fun q => e ?_), r a b hab]
      have u1 := upK_pl a c1 b c2 hab
      rw [q, upK_pl k b1 j b2 h] at u1
      exact ⟨(congrArg Prod.fst u1).symm, (congrArg Prod.snd u1).symm⟩
  · have h28 : k ≠ 28 := fun q => by rw [q] at h; cases h
    have hp := plK_27 k b1 j b2 h h27
    have e1 : u3 M k i j x 28 i b = M 28 i b := if_neg (fun q => h28 q.1.symm)
    rw [e1, r18 b hb]
    refine fw_cong (fun c hc => ?_) b hb
    show V (2 + c) = upd V (plK k j) x (2 + c)
    unfold upd
    rw [if_neg (by omega)]
/-- what a land doesn't hold -/
theorem LandR_same {M M' : Nat → Nat → Nat → Int32} {i : Nat} {V : Nat → Int32} (R : LandR M i V) (h : ∀ k, k < 29 → (k < 10 → k = 1 ∨ k = 3) → k ≠ 10 → k ≠ 11 → k ≠ 12 → k ≠ 20 → k ≠ 21 → M' k i = M k i) : LandR M' i V := by
  obtain ⟨r, r18⟩ := LandR_iff.mp R
  refine LandR_iff.mpr ⟨fun a b hab => ?_, fun b hb => ?_⟩
  · rw [h a ?_ ?_ ?_ ?_ ?_ ?_ ?_]
    · exact r a b hab
    · have h1 := (dmK_lt hab).1
      have h2 : a ≠ 29 := fun q => by rw [q] at hab; cases hab
      omega
    · intro h9
      unfold dmK at hab
      split at hab <;> first | omega | cases hab
    all_goals (intro q; rw [q] at hab; cases hab)
  · rw [h 28 (by decide) (by decide) (by decide) (by decide) (by decide) (by decide) (by decide)]
    exact r18 b hb
/-- a road laid -/
def vLay (V : Nat → Int32) (a b : Nat) (x : Int32) : Nat → Int32 := upd (upd V (2 + (8 * a + b)) x) (2 + (8 * b + a)) x
theorem vLay_r {V : Nat → Int32} {a b : Nat} {x : Int32} (hV : Nat → Int32) (h : ∀ j, j < 64 → hV j = V (2 + j)) (ha : a < 8) (hb : b < 8) : ∀ j, j < 64 → xlay hV a b x j = vLay V a b x (2 + j) := by
  intro j hj
  unfold xlay vLay upd
  by_cases e1 : j = 8 * b + a
  · rw [if_pos e1, if_pos (by omega)]
  · by_cases e2 : j = 8 * a + b
    · rw [if_neg e1, if_pos e2, if_neg (by omega), if_pos (by omega)]
    · rw [if_neg e1, if_neg e2, if_neg (by omega), if_neg (by omega)]
      exact h j hj
theorem vLay_o {V : Nat → Int32} {a b : Nat} {x : Int32} (ha : a < 8) (hb : b < 8) {p : Nat} (hp : p < 2 ∨ 66 ≤ p) : vLay V a b x p = V p := by
  unfold vLay upd
  rw [if_neg (by omega), if_neg (by omega)]
theorem LandR_lay {M : Nat → Nat → Nat → Int32} {i a b : Nat} {V : Nat → Int32} {x : Int32} (R : LandR M i V) (ha : a < 8) (hb : b < 8) : LandR (mLay M i a b x) i (vLay V a b x) := by
  obtain ⟨r, r18⟩ := LandR_iff.mp R
  have h27 := vLay_r (x := x) (M 27 i) (fun j hj => R.2.1 j hj) ha hb
  refine LandR_iff.mpr ⟨fun k j h => ?_, fun j hj => ?_⟩
  · obtain ⟨c1, c2⟩ := dmK_lt h
    by_cases e : k = 27
    · subst e
      have e1 : mLay M i a b x 27 i j = xlay (M 27 i) a b x j := by
        unfold mLay
        rw [u2_ne (by omega), u2_self]
      rw [e1]
      exact h27 j c2
    · have h28 : k ≠ 28 := fun q => by rw [q] at h; cases h
      have e1 : mLay M i a b x k i j = M k i j := by
        unfold mLay
        rw [u2_ne (by omega), u2_ne (by omega)]
      rw [e1, r k j h]
      exact (vLay_o ha hb (plK_27 k c1 j c2 h e)).symm
  · have e1 : mLay M i a b x 28 i j = fwO (xfl (fwI (xlay (M 27 i) a b x)) (M 28 i) 64) 8 j := by
      unfold mLay
      rw [u2_self]
    rw [e1]
    exact (fw_of xfl_aeq j hj).trans (fw_cong h27 j hj)
/-! A land copied. -/
theorem LandR_cp {M : Nat → Nat → Nat → Int32} {i j : Nat} {V : Nat → Int32} (R : LandR M j V) (hij : i ≠ j) : LandR (mCpL M i j) i V := by
  have key : ∀ k b, dmK k b = true ∨ (k = 28 ∧ b < 64) → mCpL M i j k i b = M k j b := by
    intro k b h
    have hji : ¬ j = i := fun q => hij q.symm
    rcases h with h | ⟨h, hb⟩
    · unfold dmK at h
      split at h
      all_goals first
        | (have hb := of_decide_eq_true h; simp [mCpL, mCpN, mCpE, mCpR, u2, u3, xcp, hji, hb]; done)
        | (rw [Bool.and_eq_true, decide_eq_true_eq, decide_eq_true_eq] at h
           obtain e | e | e : b = 5 ∨ b = 6 ∨ b = 7 := by omega
           all_goals (subst e; simp [mCpL, mCpN, mCpE, mCpR, u2, u3, xcp, hji]))
        | cases h
    · subst h
      simp [mCpL, mCpN, mCpE, mCpR, u2, u3, xcp, hji, hb]
  obtain ⟨r, r18⟩ := LandR_iff.mp R
  exact LandR_iff.mpr ⟨fun k b h => (key k b (Or.inl h)).trans (r k b h), fun b hb => (key 28 b (Or.inr ⟨rfl, hb⟩)).trans (r18 b hb)⟩
/-! A row that changes in a place. -/
section WU
variable {V : Nat → Int32} {s p a b : Nat} {x : Int32}
theorem upd_o {V : Nat → Int32} {p q : Nat} {x : Int32} (h : q ≠ p) : upd V p x q = V q := if_neg h
/-- places on which nothing hangs -/
theorem WFV_free (W : WFV V) (hs : V 66 = nI s) (h8 : s ≤ 8) (hp : (123 ≤ p ∧ p < 171) ∨ 173 ≤ p ∨ (67 ≤ p ∧ p < 67 + 5 * s ∧ (p % 5 = 0 ∨ p % 5 = 1))) : WFV (upd V p x) := by
  obtain ⟨a1, a2, a3, a4, ⟨s', s8, a5, a6, a7⟩, a8, ⟨t, c, b1, b2, b3, b4⟩⟩ := W
  obtain rfl : s' = s := by
    rw [hs] at a5
    exact ((nI_eq (by omega) (by omega)).mp a5).symm
  refine ⟨fun j hj => by rw [upd_o (by omega)]; exact a1 j hj, fun j hj => by rw [upd_o (by omega)]; exact a2 j hj, fun a b ha hb => by rw [upd_o (by omega), upd_o (by omega)]; exact a3 a b ha hb, fun a ha => by rw [upd_o (by omega)]; exact a4 a ha, ⟨s', s8, by rw [upd_o (by omega)]; exact a5, fun e he => ?_, fun e h1 h2 => ?_⟩, fun j hj => by rw [upd_o (by omega)]; exact a8 j hj, ⟨t, c, b1, b2, by rw [upd_o (by omega)]; exact b3, by rw [upd_o (by omega)]; exact b4⟩⟩
  · rw [upd_o (by omega), upd_o (by omega), upd_o (by omega)]
    exact a6 e he
  · rw [upd_o (by omega), upd_o (by omega)]
    exact a7 e h1 h2
theorem WFV_set (W : WFV V) (hp : p < 2) (hx : x = nI 0 ∨ x = nI 1) : WFV (upd V p x) := by
  obtain ⟨a1, a2, a3, a4, ⟨s', s8, a5, a6, a7⟩, a8, ⟨t, c, b1, b2, b3, b4⟩⟩ := W
  refine ⟨fun j hj => ?_, fun j hj => by rw [upd_o (by omega)]; exact a2 j hj, fun a b ha hb => by rw [upd_o (by omega), upd_o (by omega)]; exact a3 a b ha hb, fun a ha => by rw [upd_o (by omega)]; exact a4 a ha, ⟨s', s8, by rw [upd_o (by omega)]; exact a5, fun e he => ?_, fun e h1 h2 => ?_⟩, fun j hj => by rw [upd_o (by omega)]; exact a8 j hj, ⟨t, c, b1, b2, by rw [upd_o (by omega)]; exact b3, by rw [upd_o (by omega)]; exact b4⟩⟩
  · by_cases e : j = p
    · rw [e, pk_us]
      exact hx
    · rw [upd_o e]
      exact a1 j hj
  · rw [upd_o (by omega), upd_o (by omega), upd_o (by omega)]
    exact a6 e he
  · rw [upd_o (by omega), upd_o (by omega)]
    exact a7 e h1 h2
theorem WFV_off (W : WFV V) (hp : p < 16) {l : Nat} (hl : l ≤ 9) : WFV (upd V (107 + p) (nI l)) := by
  obtain ⟨a1, a2, a3, a4, ⟨s', s8, a5, a6, a7⟩, a8, ⟨t, c, b1, b2, b3, b4⟩⟩ := W
  refine ⟨fun j hj => by rw [upd_o (by omega)]; exact a1 j hj, fun j hj => by rw [upd_o (by omega)]; exact a2 j hj, fun a b ha hb => by rw [upd_o (by omega), upd_o (by omega)]; exact a3 a b ha hb, fun a ha => by rw [upd_o (by omega)]; exact a4 a ha, ⟨s', s8, by rw [upd_o (by omega)]; exact a5, fun e he => ?_, fun e h1 h2 => ?_⟩, fun j hj => ?_, ⟨t, c, b1, b2, by rw [upd_o (by omega)]; exact b3, by rw [upd_o (by omega)]; exact b4⟩⟩
  · rw [upd_o (by omega), upd_o (by omega), upd_o (by omega)]
    exact a6 e he
  · rw [upd_o (by omega), upd_o (by omega)]
    exact a7 e h1 h2
  · by_cases e : j = p
    · rw [e, pk_us]
      exact ⟨l, hl, rfl⟩
    · rw [upd_o (by omega)]
      exact a8 j hj
theorem WFV_turn (W : WFV V) (hs : V 66 = nI s) (h8 : s ≤ 8) {e0 : Nat} (he0 : e0 < s) (hx : x = nI 0 ∨ x = nI 1) : WFV (upd V (69 + 5 * e0) x) := by
  obtain ⟨a1, a2, a3, a4, ⟨s', s8, a5, a6, a7⟩, a8, ⟨t, c, b1, b2, b3, b4⟩⟩ := W
  obtain rfl : s' = s := by
    rw [hs] at a5
    exact ((nI_eq (by omega) (by omega)).mp a5).symm
  refine ⟨fun j hj => by rw [upd_o (by omega)]; exact a1 j hj, fun j hj => by rw [upd_o (by omega)]; exact a2 j hj, fun a b ha hb => by rw [upd_o (by omega), upd_o (by omega)]; exact a3 a b ha hb, fun a ha => by rw [upd_o (by omega)]; exact a4 a ha, ⟨s', s8, by rw [upd_o (by omega)]; exact a5, fun e he => ?_, fun e h1 h2 => ?_⟩, fun j hj => by rw [upd_o (by omega)]; exact a8 j hj, ⟨t, c, b1, b2, by rw [upd_o (by omega)]; exact b3, by rw [upd_o (by omega)]; exact b4⟩⟩
  · obtain ⟨c1, c2, c3⟩ := a6 e he
    rw [upd_o (by omega), upd_o (by omega)]
    refine ⟨c1, c2, ?_⟩
    by_cases q : e = e0
    · rw [q, pk_us]
      exact hx
    · rw [upd_o (by omega)]
      exact c3
  · rw [upd_o (by omega), upd_o (by omega)]
    exact a7 e h1 h2
theorem WFV_lay (W : WFV V) (ha : a < 8) (hb : b < 8) (hab : a ≠ b) {c : Nat} (hc : c ≤ 99) : WFV (vLay V a b (nI c)) := by
  obtain ⟨a1, a2, a3, a4, ⟨s', s8, a5, a6, a7⟩, a8, ⟨t, co, b1, b2, b3, b4⟩⟩ := W
  have ro : ∀ j, vLay V a b (nI c) (2 + j) = if j = 8 * b + a ∨ j = 8 * a + b then nI c else V (2 + j) := by
    intro j
    unfold vLay upd
    by_cases e1 : j = 8 * b + a
    · rw [if_pos (by omega), if_pos (Or.inl e1)]
    · rw [if_neg (by omega)]
      by_cases e2 : j = 8 * a + b
      · rw [if_pos (by omega), if_pos (Or.inr e2)]
      · rw [if_neg (by omega), if_neg (fun q => q.elim e1 e2)]
  refine ⟨fun j hj => by rw [vLay_o ha hb (by omega)]; exact a1 j hj, fun j hj => ?_, fun u v hu hv => ?_, fun u hu => ?_, ⟨s', s8, by rw [vLay_o ha hb (by omega)]; exact a5, fun e he => ?_, fun e h1 h2 => ?_⟩, fun j hj => by rw [vLay_o ha hb (by omega)]; exact a8 j hj, ⟨t, co, b1, b2, by rw [vLay_o ha hb (by omega)]; exact b3, by rw [vLay_o ha hb (by omega)]; exact b4⟩⟩
  · rw [ro]
    split
    · exact ⟨c, hc, rfl⟩
    · exact a2 j hj
  · rw [ro, ro, a3 u v hu hv]
    by_cases e : 8 * u + v = 8 * b + a ∨ 8 * u + v = 8 * a + b
    · rw [if_pos e, if_pos (by omega)]
    · rw [if_neg e, if_neg (by omega)]
  · rw [ro, if_neg (by omega)]
    exact a4 u hu
  · rw [vLay_o ha hb (by omega), vLay_o ha hb (by omega), vLay_o ha hb (by omega)]
    exact a6 e he
  · rw [vLay_o ha hb (by omega), vLay_o ha hb (by omega)]
    exact a7 e h1 h2
/-- an exit that comes -/
def vAdd (V : Nat → Int32) (s a b : Nat) : Nat → Int32 := upd (upd (upd (upd V (67 + 5 * s) (nI a)) (68 + 5 * s) (nI b)) (69 + 5 * s) (nI 1)) 66 (nI (s + 1))
theorem vAdd_o {q : Nat} (h : q ≠ 66) (h2 : q < 67 + 5 * s ∨ 70 + 5 * s ≤ q) : vAdd V s a b q = V q := by
  unfold vAdd
  rw [upd_o h, upd_o (by omega), upd_o (by omega), upd_o (by omega)]
theorem WFV_add (W : WFV V) (hs : V 66 = nI s) (h8 : s < 8) (ha : a < 8) (hb : b < 4) : WFV (vAdd V s a b) := by
  obtain ⟨a1, a2, a3, a4, ⟨s', s8, a5, a6, a7⟩, a8, ⟨t, c, b1, b2, b3, b4⟩⟩ := W
  obtain rfl : s' = s := by
    rw [hs] at a5
    exact ((nI_eq (by omega) (by omega)).mp a5).symm
  refine ⟨fun j hj => by rw [vAdd_o (by omega) (by omega)]; exact a1 j hj, fun j hj => by rw [vAdd_o (by omega) (by omega)]; exact a2 j hj, fun a b ha hb => by rw [vAdd_o (by omega) (by omega), vAdd_o (by omega) (by omega)]; exact a3 a b ha hb, fun a ha => by rw [vAdd_o (by omega) (by omega)]; exact a4 a ha, ⟨s' + 1, by omega, by unfold vAdd; rw [pk_us], fun e he => ?_, fun e h1 h2 => ?_⟩, fun j hj => by rw [vAdd_o (by omega) (by omega)]; exact a8 j hj, ⟨t, c, b1, b2, by rw [vAdd_o (by omega) (by omega)]; exact b3, by rw [vAdd_o (by omega) (by omega)]; exact b4⟩⟩
  · by_cases q : e = s'
    · subst q
      unfold vAdd
      refine ⟨⟨a, ha, ?_⟩, ⟨b, hb, ?_⟩, Or.inr ?_⟩
      · rw [upd_o (by omega), upd_o (by omega), upd_o (by omega), pk_us]
      · rw [upd_o (by omega), upd_o (by omega), pk_us]
      · rw [upd_o (by omega), pk_us]
    · rw [vAdd_o (by omega) (by omega), vAdd_o (by omega) (by omega), vAdd_o (by omega) (by omega)]
      exact a6 e (by omega)
  · rw [vAdd_o (by omega) (by omega), vAdd_o (by omega) (by omega)]
    exact a7 e (by omega) h2
/-- loaves sent, and grown cold -/
theorem WFV_sent (W : WFV V) {t c : Nat} (ht : t ≤ 9999) (hc : c ≤ t) : WFV (upd (upd V 171 (nI t)) 172 (nI c)) := by
  obtain ⟨a1, a2, a3, a4, ⟨s', s8, a5, a6, a7⟩, a8, _⟩ := W
  have o : ∀ q, q ≠ 171 → q ≠ 172 → upd (upd V 171 (nI t)) 172 (nI c) q = V q := fun q h1 h2 => by rw [upd_o h2, upd_o h1]
  refine ⟨fun j hj => by rw [o _ (by omega) (by omega)]; exact a1 j hj, fun j hj => by rw [o _ (by omega) (by omega)]; exact a2 j hj, fun a b ha hb => by rw [o _ (by omega) (by omega), o _ (by omega) (by omega)]; exact a3 a b ha hb, fun a ha => by rw [o _ (by omega) (by omega)]; exact a4 a ha, ⟨s', s8, by rw [o _ (by omega) (by omega)]; exact a5, fun e he => ?_, fun e h1 h2 => ?_⟩, fun j hj => by rw [o _ (by omega) (by omega)]; exact a8 j hj, ⟨t, c, ht, hc, by rw [upd_o (by decide), pk_us], pk_us⟩⟩
  · rw [o _ (by omega) (by omega), o _ (by omega) (by omega), o _ (by omega) (by omega)]
    exact a6 e he
  · rw [o _ (by omega) (by omega), o _ (by omega) (by omega)]
    exact a7 e h1 h2
theorem WFP_free (P : WFP V) (hp : p < 139 ∨ 172 ≤ p) : WFP (upd V p x) := by
  obtain ⟨t, h9, ht, hq⟩ := P
  exact ⟨t, h9, by rw [upd_o (by omega)]; exact ht, fun j hj => by rw [upd_o (by omega)]; exact hq j hj⟩
end WU

