/-! Distances of a row, in whole numbers: both directions, roads alone, a road more or less. -/
def vc (V : Nat → Int32) : Nat → Nat := fun k => (V (2 + k)).toNatClampNeg
def vdn (V : Nat → Int32) : Nat → Nat := nD (vc V)
section DI
variable {V : Nat → Int32} {a b k g : Nat}
theorem vc_z (W : WFV V) : zcn (fun k => V (2 + k)) (vc V) := vzc W
theorem vc_n (W : WFV V) {j : Nat} (hj : j < 64) : vc V j ≤ 99 ∧ V (2 + j) = nI (vc V j) := vc_z W j hj
theorem vc_sy (W : WFV V) (ha : a < 8) (hb : b < 8) : vc V (8 * a + b) = vc V (8 * b + a) := by
  unfold vc
  rw [W.2.2.1 a b ha hb]
theorem vc_0 (W : WFV V) (ha : a < 8) : vc V (8 * a + a) = 0 := by
  unfold vc
  rw [W.2.2.2.1 a ha]
  rfl
theorem vdn_n (W : WFV V) {j : Nat} (hj : j < 64) : vdn V j ≤ 1000000 ∧ vDi V j = nI (vdn V j) := fw_nD (vc_z W) j hj
theorem Wk_1 {c : Nat → Nat} (hb : b < 8) (h : 0 < c (8 * a + b)) : Wk c 1 a b (c (8 * a + b)) := ⟨b, 0, hb, h, ⟨rfl, rfl⟩, rfl⟩
theorem Wk_rev {c : Nat → Nat} (hs : ∀ a b, a < 8 → b < 8 → c (8 * a + b) = c (8 * b + a)) : ∀ {n a b x : Nat}, a < 8 → Wk c n a b x → Wk c n b a x
  | 0, a, b, x, _, h => ⟨h.1.symm, h.2⟩
  | n + 1, a, b, x, ha, h => by
    obtain ⟨k, y, hk, hc, hw, e⟩ := h
    have r := Wk_rev hs hk hw
    rw [hs a k ha hk] at hc e
    have r2 := Wk_add r (Wk_1 ha hc)
    rw [e, Nat.add_comm (c (8 * k + a)) y]
    exact r2
theorem Wk_pos {c : Nat → Nat} : ∀ {n a b x : Nat}, a ≠ b → Wk c n a b x → 0 < x
  | 0, a, b, x, h, w => absurd w.1 h
  | n + 1, a, b, x, _, w => by
    obtain ⟨k, y, hk, hc, hw, e⟩ := w
    omega
theorem vdn_self (W : WFV V) (ha : a < 8) : vdn V (8 * a + a) = 0 := Nat.le_zero.mp (nD_le (vc_z W) (n := 0) ha ha ⟨rfl, rfl⟩)
theorem vdn_le (W : WFV V) {n x : Nat} (ha : a < 8) (hb : b < 8) (w : Wk (vc V) n a b x) : vdn V (8 * a + b) ≤ x := nD_le (vc_z W) ha hb w
theorem vdn_wk (W : WFV V) (ha : a < 8) (hb : b < 8) : vdn V (8 * a + b) = 1000000 ∨ ∃ n, Wk (vc V) n a b (vdn V (8 * a + b)) := nD_walk (vc_z W) ha hb
theorem vdn_sy1 (W : WFV V) (ha : a < 8) (hb : b < 8) : vdn V (8 * a + b) ≤ vdn V (8 * b + a) := by
  rcases vdn_wk W hb ha with z | ⟨n, w⟩
  · rw [z]
    exact (vdn_n W (by omega)).1
  · exact vdn_le W ha hb (Wk_rev (fun a b ha hb => vc_sy W ha hb) hb w)
theorem vdn_sy (W : WFV V) (ha : a < 8) (hb : b < 8) : vdn V (8 * a + b) = vdn V (8 * b + a) := Nat.le_antisymm (vdn_sy1 W ha hb) (vdn_sy1 W hb ha)
theorem vdn_pos (W : WFV V) (ha : a < 8) (hb : b < 8) (hab : a ≠ b) : 0 < vdn V (8 * a + b) := by
  rcases vdn_wk W ha hb with z | ⟨n, w⟩
  · omega
  · exact Wk_pos hab w
theorem vdn_0 (W : WFV V) (ha : a < 8) (hb : b < 8) : vdn V (8 * a + b) = 0 ↔ a = b := by
  constructor
  · intro h
    by_cases e : a = b
    · exact e
    · have := vdn_pos W ha hb e
      omega
  · intro e
    rw [← e]
    exact vdn_self W ha
theorem vdn_tri (W : WFV V) (ha : a < 8) (hb : b < 8) (hk : k < 8) (hc : 0 < vc V (8 * k + b)) : vdn V (8 * a + b) ≤ vdn V (8 * a + k) + vc V (8 * k + b) := by
  rcases vdn_wk W ha hk with z | ⟨n, w⟩
  · have := (vdn_n W (show 8 * a + b < 64 by omega)).1
    omega
  · exact vdn_le W ha hb (Wk_add w (Wk_1 hb hc))
theorem vdn_last (W : WFV V) (ha : a < 8) (hb : b < 8) (hab : a ≠ b) (hf : vdn V (8 * a + b) < 1000000) : ∃ k, k < 8 ∧ 0 < vc V (8 * k + b) ∧ vdn V (8 * a + k) + vc V (8 * k + b) = vdn V (8 * a + b) := by
  obtain ⟨k, hk, hc, e⟩ := nD_step (vc_z W) hb ha (fun z => hab z.symm) (show nD (vc V) (8 * b + a) < 1000000 by have := vdn_sy W ha hb; unfold vdn at this hf; omega)
  refine ⟨k, hk, by rw [vc_sy W hk hb]; exact hc, ?_⟩
  have s1 := vdn_sy W ha hb
  have s2 := vdn_sy W ha hk
  have s3 := vc_sy W hk hb
  unfold vdn at s1 s2 ⊢
  omega
/-- the least of the ways by a last road, over the towns below k -/
def nL (V : Nat → Int32) (a b : Nat) : Nat → Nat
  | 0 => if a = b then 0 else 1000000
  | k + 1 => if 0 < vc V (8 * k + b) ∧ vdn V (8 * a + k) < 1000000 ∧ vdn V (8 * a + k) + vc V (8 * k + b) < nL V a b k then vdn V (8 * a + k) + vc V (8 * k + b) else nL V a b k
theorem nL_le : ∀ k, nL V a b k ≤ 1000000 ∧ ∀ j, j ≤ k → nL V a b k ≤ nL V a b j
  | 0 => by
    refine ⟨?_, fun j hj => by rw [Nat.le_zero.mp hj]; exact Nat.le_refl _⟩
    unfold nL
    split <;> omega
  | k + 1 => by
    obtain ⟨h1, h2⟩ := nL_le k
    have h : nL V a b (k + 1) ≤ nL V a b k := by
      show (if _ then _ else _) ≤ _
      split
      · rename_i q
        exact Nat.le_of_lt q.2.2
      · exact Nat.le_refl _
    refine ⟨by omega, fun j hj => ?_⟩
    rcases Nat.lt_or_ge j (k + 1) with q | q
    · have := h2 j (by omega)
      omega
    · rw [show j = k + 1 by omega]
      exact Nat.le_refl _
theorem nL_ge (W : WFV V) (ha : a < 8) (hb : b < 8) : ∀ k, k ≤ 8 → vdn V (8 * a + b) ≤ nL V a b k
  | 0, _ => by
    unfold nL
    split
    · rename_i e
      rw [(vdn_0 W ha hb).mpr e]
      exact Nat.le_refl _
    · exact (vdn_n W (by omega)).1
  | k + 1, hk => by
    have ih := nL_ge W ha hb k (by omega)
    show _ ≤ (if _ then _ else _)
    split
    · rename_i h
      exact vdn_tri W ha hb (by omega) h.1
    · exact ih
theorem nL_8 (W : WFV V) (ha : a < 8) (hb : b < 8) : nL V a b 8 = vdn V (8 * a + b) := by
  refine Nat.le_antisymm ?_ (nL_ge W ha hb 8 (Nat.le_refl _))
  have L := nL_le (V := V) (a := a) (b := b) 8
  by_cases e : a = b
  · have h0 : nL V a b 0 = 0 := if_pos e
    have := L.2 0 (by omega)
    omega
  · by_cases f : vdn V (8 * a + b) < 1000000
    · obtain ⟨k, hk, hc, es⟩ := vdn_last W ha hb e f
      have h1 := L.2 (k + 1) (by omega)
      have h2 : nL V a b (k + 1) ≤ vdn V (8 * a + k) + vc V (8 * k + b) := by
        show (if _ then _ else _) ≤ _
        split
        · exact Nat.le_refl _
        · rename_i h
          omega
      omega
    · have := (vdn_n W (show 8 * a + b < 64 by omega)).1
      omega
/-- a road laid: its distance -/
theorem vc_lay {x : Nat} (hx : x ≤ 99) {j : Nat} : vc (vLay V a b (nI x)) j = if j = 8 * a + b ∨ j = 8 * b + a then x else vc V j := by
  unfold vc vLay upd
  by_cases e1 : j = 8 * b + a
  · rw [if_pos (by omega), if_pos (Or.inr e1), nI_clamp (by omega)]
  · rw [if_neg (by omega)]
    by_cases e2 : j = 8 * a + b
    · rw [if_pos (by omega), if_pos (Or.inl e2), nI_clamp (by omega)]
    · rw [if_neg (by omega), if_neg (fun z => z.elim e2 e1)]
theorem Wk_wo {c c2 : Nat → Nat} {x : Nat} (h : ∀ j, j < 64 → c2 j = c j ∨ (0 < c2 j → x ≤ c2 j)) : ∀ {n u v y : Nat}, u < 8 → Wk c2 n u v y → x ≤ y ∨ Wk c n u v y
  | 0, u, v, y, _, w => Or.inr w
  | n + 1, u, v, y, hu, w => by
    obtain ⟨k, z, hk, hc, hw, e⟩ := w
    rcases h (8 * u + k) (by omega) with q | q
    · rcases Wk_wo h hk hw with l | l
      · exact Or.inl (by omega)
      · refine Or.inr ⟨k, z, hk, by rw [← q]; exact hc, l, by rw [← q]; exact e⟩
    · have := q hc
      exact Or.inl (by omega)
theorem Wk_in {c c2 : Nat → Nat} (h : ∀ j, j < 64 → 0 < c j → c2 j = c j) : ∀ {n u v y : Nat}, u < 8 → Wk c n u v y → Wk c2 n u v y
  | 0, u, v, y, _, w => w
  | n + 1, u, v, y, hu, w => by
    obtain ⟨k, z, hk, hc, hw, e⟩ := w
    have q := h (8 * u + k) (by omega) hc
    exact ⟨k, z, hk, by rw [q]; exact hc, Wk_in h hk hw, by rw [q]; exact e⟩
theorem vdn_lay {x : Nat} (W : WFV V) (ha : a < 8) (hb : b < 8) (hab : a ≠ b) (hx : x ≤ 99) (h0 : 0 < x) : vdn (vLay V a b (nI x)) (8 * a + b) = min x (vdn (vLay V a b (nI 0)) (8 * a + b)) := by
  have W1 : WFV (vLay V a b (nI x)) := WFV_lay W ha hb hab hx
  have W0 : WFV (vLay V a b (nI 0)) := WFV_lay (c := 0) W ha hb hab (by omega)
  have d1 := (vdn_n W1 (show 8 * a + b < 64 by omega)).1
  have d0 := (vdn_n W0 (show 8 * a + b < 64 by omega)).1
  have l1 : vdn (vLay V a b (nI x)) (8 * a + b) ≤ x := by
    have e : vc (vLay V a b (nI x)) (8 * a + b) = x := by rw [vc_lay hx, if_pos (Or.inl rfl)]
    have := vdn_le W1 ha hb (Wk_1 hb (by rw [e]; exact h0))
    rw [e] at this
    exact this
  have l2 : vdn (vLay V a b (nI x)) (8 * a + b) ≤ vdn (vLay V a b (nI 0)) (8 * a + b) := by
    rcases vdn_wk W0 ha hb with z | ⟨n, w⟩
    · rw [z]
      exact d1
    · refine vdn_le W1 ha hb (Wk_in (fun j hj hc => ?_) ha w)
      rw [vc_lay (by omega)] at hc ⊢
      rw [vc_lay (by omega)]
      split at hc
      · omega
      · rename_i q
        rw [if_neg q, if_neg q]
  have l3 : min x (vdn (vLay V a b (nI 0)) (8 * a + b)) ≤ vdn (vLay V a b (nI x)) (8 * a + b) := by
    rcases vdn_wk W1 ha hb with z | ⟨n, w⟩
    · rw [z]
      omega
    · have hw : ∀ j, j < 64 → vc (vLay V a b (nI x)) j = vc (vLay V a b (nI 0)) j ∨ (0 < vc (vLay V a b (nI x)) j → x ≤ vc (vLay V a b (nI x)) j) := fun j hj => by
        rw [vc_lay hx, vc_lay (by omega)]
        by_cases e : j = 8 * a + b ∨ j = 8 * b + a
        · rw [if_pos e]
          exact Or.inr (fun _ => Nat.le_refl _)
        · rw [if_neg e, if_neg e]
          exact Or.inl rfl
      rcases Wk_wo hw ha w with q | q
      · omega
      · have := vdn_le W0 ha hb q
        omega
  omega
theorem vLay_lay {x y : Int32} : vLay (vLay V a b x) a b y = vLay V a b y := by
  funext p
  unfold vLay upd
  by_cases e1 : p = 2 + (8 * b + a)
  · simp only [e1, if_true]
  · by_cases e2 : p = 2 + (8 * a + b)
    · simp only [e1, e2, if_true, if_false]
    · simp only [e1, e2, if_false]
theorem vLay_at {x : Int32} (ha : a < 8) (hb : b < 8) : vLay V a b x (2 + (8 * a + b)) = x := by
  unfold vLay upd
  by_cases e : 2 + (8 * a + b) = 2 + (8 * b + a)
  · rw [if_pos e]
  · rw [if_neg e, if_pos rfl]
/-- the distance as a call tells it -/
def kFar (V : Nat → Int32) (a b : Nat) : Int32 := xfar (vDi V (8 * a + b))
theorem kFar_is (W : WFV V) (ha : a < 8) (hb : b < 8) : kFar V a b = if vdn V (8 * a + b) < 1000000 then nI (vdn V (8 * a + b)) else -1 := by
  obtain ⟨h1, h2⟩ := vdn_n W (show 8 * a + b < 64 by omega)
  unfold kFar xfar
  rw [h2]
  by_cases l : vdn V (8 * a + b) < 1000000
  · rw [if_pos l, if_pos (show nI (vdn V (8 * a + b)) < xFAR from (nI_ltI (b := 1000000) (by omega) (by omega)).mpr l)]
  · rw [if_neg l, if_neg (show ¬ nI (vdn V (8 * a + b)) < xFAR from fun q => l ((nI_ltI (b := 1000000) (by omega) (by omega)).mp q))]
theorem kFar_sy (W : WFV V) (ha : a < 8) (hb : b < 8) : kFar V a b = kFar V b a := by
  rw [kFar_is W ha hb, kFar_is W hb ha, vdn_sy W ha hb]
theorem kFar_0 (W : WFV V) (ha : a < 8) : kFar V a a = nI 0 := by
  rw [kFar_is W ha ha, vdn_self W ha, if_pos (by decide)]
end DI

