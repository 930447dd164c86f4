/-! Distances of a row, in whole numbers: both directions, roads alone, a road more or less. -/
def vc (V : Nat → Int32) : Nat → Nat := fun k => (V (2 + k)).toNatClampNeg
def vD (V : Nat → Int32) : Nat → Nat := nD (vc V)
section DI
variable {V : Nat → Int32} {a b k g : Nat}
theorem vc_z (W : WFV V) : zcn (fun k => V (2 + k)) (vc V) := vzc W
theorem vc_n (W : WFV V) {j : Nat} (hj : j < 64) : vc V j ≤ 99 ∧ V (2 + j) = nI (vc V j) := vc_z W j hj
theorem vc_sy (W : WFV V) (ha : a < 8) (hb : b < 8) : vc V (8 * a + b) = vc V (8 * b + a) := by
  unfold vc
  rw [W.2.2.1 a b ha hb]
theorem vc_0 (W : WFV V) (ha : a < 8) : vc V (8 * a + a) = 0 := by
  unfold vc
  rw [W.2.2.2.1 a ha]
  rfl
theorem vD_n (W : WFV V) {j : Nat} (hj : j < 64) : vD V j ≤ 1000000 ∧ vDi V j = nI (vD V j) := fw_nD (vc_z W) j hj
theorem Wk_1 {c : Nat → Nat} (hb : b < 8) (h : 0 < c (8 * a + b)) : Wk c 1 a b (c (8 * a + b)) := ⟨b, 0, hb, h, ⟨rfl, rfl⟩, rfl⟩
theorem Wk_rev {c : Nat → Nat} (hs : ∀ a b, a < 8 → b < 8 → c (8 * a + b) = c (8 * b + a)) : ∀ {n a b x : Nat}, a < 8 → Wk c n a b x → Wk c n b a x
  | 0, a, b, x, _, h => ⟨h.1.symm, h.2⟩
  | n + 1, a, b, x, ha, h => by
    obtain ⟨k, y, hk, hc, hw, e⟩ := h
    have r := Wk_rev hs hk hw
    rw [hs a k ha hk] at hc e
    have := Wk_add r (Wk_1 ha hc)
    rw [e, Nat.add_comm]
    exact this
theorem Wk_pos {c : Nat → Nat} : ∀ {n a b x : Nat}, a ≠ b → Wk c n a b x → 0 < x
  | 0, a, b, x, h, w => absurd w.1 h
  | n + 1, a, b, x, _, w => by
    obtain ⟨k, y, hk, hc, hw, e⟩ := w
    omega
theorem vD_self (W : WFV V) (ha : a < 8) : vD V (8 * a + a) = 0 := Nat.le_zero.mp (nD_le (vc_z W) (n := 0) ha ha ⟨rfl, rfl⟩)
theorem vD_le (W : WFV V) {n x : Nat} (ha : a < 8) (hb : b < 8) (w : Wk (vc V) n a b x) : vD V (8 * a + b) ≤ x := nD_le (vc_z W) ha hb w
theorem vD_wk (W : WFV V) (ha : a < 8) (hb : b < 8) : vD V (8 * a + b) = 1000000 ∨ ∃ n, Wk (vc V) n a b (vD V (8 * a + b)) := nD_walk (vc_z W) ha hb
theorem vD_sy1 (W : WFV V) (ha : a < 8) (hb : b < 8) : vD V (8 * a + b) ≤ vD V (8 * b + a) := by
  rcases vD_wk W hb ha with z | ⟨n, w⟩
  · rw [z]
    exact (vD_n W (by omega)).1
  · exact vD_le W ha hb (Wk_rev (fun a b ha hb => vc_sy W ha hb) hb w)
theorem vD_sy (W : WFV V) (ha : a < 8) (hb : b < 8) : vD V (8 * a + b) = vD V (8 * b + a) := Nat.le_antisymm (vD_sy1 W ha hb) (vD_sy1 W hb ha)
theorem vD_pos (W : WFV V) (ha : a < 8) (hb : b < 8) (hab : a ≠ b) : 0 < vD V (8 * a + b) := by
  rcases vD_wk W ha hb with z | ⟨n, w⟩
  · omega
  · exact Wk_pos hab w
theorem vD_0 (W : WFV V) (ha : a < 8) (hb : b < 8) : vD V (8 * a + b) = 0 ↔ a = b := by
  constructor
  · intro h
    by_cases e : a = b
    · exact e
    · have := vD_pos W ha hb e
      omega
  · intro e
    rw [← e]
    exact vD_self W ha
theorem vD_tri (W : WFV V) (ha : a < 8) (hb : b < 8) (hk : k < 8) (hc : 0 < vc V (8 * k + b)) : vD V (8 * a + b) ≤ vD V (8 * a + k) + vc V (8 * k + b) := by
  rcases vD_wk W ha hk with z | ⟨n, w⟩
  · have := (vD_n W (show 8 * a + b < 64 by omega)).1
    omega
  · exact vD_le W ha hb (Wk_add w (Wk_1 hb hc))
theorem vD_last (W : WFV V) (ha : a < 8) (hb : b < 8) (hab : a ≠ b) (hf : vD V (8 * a + b) < 1000000) : ∃ k, k < 8 ∧ 0 < vc V (8 * k + b) ∧ vD V (8 * a + k) + vc V (8 * k + b) = vD V (8 * a + b) := by
  obtain ⟨k, hk, hc, e⟩ := nD_step (vc_z W) hb ha (fun z => hab z.symm) (show nD (vc V) (8 * b + a) < 1000000 by have := vD_sy W ha hb; unfold vD at this hf; omega)
  refine ⟨k, hk, by rw [vc_sy W hk hb]; exact hc, ?_⟩
  have s1 := vD_sy W ha hb
  have s2 := vD_sy W ha hk
  have s3 := vc_sy W hk hb
  unfold vD at s1 s2 ⊢
  omega
/-- the least of the ways by a last road, over the towns below k -/
def nL (V : Nat → Int32) (a b : Nat) : Nat → Nat
  | 0 => if a = b then 0 else 1000000
  | k + 1 => if 0 < vc V (8 * k + b) ∧ vD V (8 * a + k) < 1000000 ∧ vD V (8 * a + k) + vc V (8 * k + b) < nL V a b k then vD V (8 * a + k) + vc V (8 * k + b) else nL V a b k
theorem nL_le : ∀ k, nL V a b k ≤ 1000000 ∧ ∀ j, j ≤ k → nL V a b k ≤ nL V a b j
  | 0 => by
    refine ⟨?_, fun j hj => by rw [Nat.le_zero.mp hj]; exact Nat.le_refl _⟩
    unfold nL
    split <;> omega
  | k + 1 => by
    obtain ⟨h1, h2⟩ := nL_le (V := V) (a := a) (b := b) k
    have h : nL V a b (k + 1) ≤ nL V a b k := by
      show (if _ then _ else _) ≤ _
      split
      · omega
      · exact Nat.le_refl _
    refine ⟨by omega, fun j hj => ?_⟩
    rcases Nat.lt_or_ge j (k + 1) with q | q
    · have := h2 j (by omega)
      omega
    · rw [show j = k + 1 by omega]
      exact Nat.le_refl _
theorem nL_ge (W : WFV V) (ha : a < 8) (hb : b < 8) : ∀ k, k ≤ 8 → vD V (8 * a + b) ≤ nL V a b k
  | 0, _ => by
    unfold nL
    split
    · rename_i e
      rw [(vD_0 W ha hb).mpr e]
      exact Nat.le_refl _
    · exact (vD_n W (by omega)).1
  | k + 1, hk => by
    have ih := nL_ge W ha hb k (by omega)
    show _ ≤ (if _ then _ else _)
    split
    · rename_i h
      exact vD_tri W ha hb (by omega) h.1
    · exact ih
theorem nL_8 (W : WFV V) (ha : a < 8) (hb : b < 8) : nL V a b 8 = vD V (8 * a + b) := by
  refine Nat.le_antisymm ?_ (nL_ge W ha hb 8 (Nat.le_refl _))
  have L := nL_le (V := V) (a := a) (b := b) 8
  by_cases e : a = b
  · have h0 : nL V a b 0 = 0 := if_pos e
    have := L.2 0 (by omega)
    omega
  · by_cases f : vD V (8 * a + b) < 1000000
    · obtain ⟨k, hk, hc, es⟩ := vD_last W ha hb e f
      have h1 := L.2 (k + 1) (by omega)
      have h2 : nL V a b (k + 1) ≤ vD V (8 * a + k) + vc V (8 * k + b) := by
        show (if _ then _ else _) ≤ _
        split
        · exact Nat.le_refl _
        · rename_i h
          omega
      omega
    · have := (vD_n W (show 8 * a + b < 64 by omega)).1
      omega
/-- a road laid: its distance -/
theorem vc_lay {x : Nat} (hx : x ≤ 99) {j : Nat} : vc (vLay V a b (nI x)) j = if j = 8 * a + b ∨ j = 8 * b + a then x else vc V j := by
  unfold vc vLay upd
  by_cases e1 : j = 8 * b + a
  · rw [if_pos (by omega), if_pos (Or.inr e1), nI_clamp (by omega)]
  · rw [if_neg (by omega)]
    by_cases e2 : j = 8 * a + b
    · rw [if_pos (by omega), if_pos (Or.inl e2), nI_clamp (by omega)]
    · rw [if_neg (by omega), if_neg (fun z => z.elim e2 e1)]
theorem Wk_wo {c c2 : Nat → Nat} {x : Nat} (h : ∀ j, j < 64 → c2 j = c j ∨ (0 < c2 j → x ≤ c2 j)) : ∀ {n u v y : Nat}, u < 8 → Wk c2 n u v y → x ≤ y ∨ Wk c n u v y
  | 0, u, v, y, _, w => Or.inr w
  | n + 1, u, v, y, hu, w => by
    obtain ⟨k, z, hk, hc, hw, e⟩ := w
    rcases h (8 * u + k) (by omega) with q | q
    · rcases Wk_wo h hk hw with l | l
      · exact Or.inl (by omega)
      · refine Or.inr ⟨k, z, hk, by rw [← q]; exact hc, l, by rw [← q]; exact e⟩
    · have := q hc
      exact Or.inl (by omega)
theorem Wk_in {c c2 : Nat → Nat} (h : ∀ j, j < 64 → 0 < c j → c2 j = c j) : ∀ {n u v y : Nat}, u < 8 → Wk c n u v y → Wk c2 n u v y
  | 0, u, v, y, _, w => w
  | n + 1, u, v, y, hu, w => by
    obtain ⟨k, z, hk, hc, hw, e⟩ := w
    have q := h (8 * u + k) (by omega) hc
    exact ⟨k, z, hk, by rw [q]; exact hc, Wk_in h hk hw, by rw [q]; exact e⟩
theorem vD_lay {x : Nat} (W : WFV V) (ha : a < 8) (hb : b < 8) (hab : a ≠ b) (hx : x ≤ 99) (h0 : 0 < x) : vD (vLay V a b (nI x)) (8 * a + b) = min x (vD (vLay V a b (nI 0)) (8 * a + b)) := by
  have W1 : WFV (vLay V a b (nI x)) := WFV_lay W ha hb hab hx
  have W0 : WFV (vLay V a b (nI 0)) := WFV_lay (c := 0) W ha hb hab (by omega)
  have d1 := (vD_n W1 (show 8 * a + b < 64 by omega)).1
  have d0 := (vD_n W0 (show 8 * a + b < 64 by omega)).1
  have l1 : vD (vLay V a b (nI x)) (8 * a + b) ≤ x := by
    have e : vc (vLay V a b (nI x)) (8 * a + b) = x := by rw [vc_lay hx, if_pos (Or.inl rfl)]
    have := vD_le W1 ha hb (Wk_1 hb (by rw [e]; exact h0))
    rw [e] at this
    exact this
  have l2 : vD (vLay V a b (nI x)) (8 * a + b) ≤ vD (vLay V a b (nI 0)) (8 * a + b) := by
    rcases vD_wk W0 ha hb with z | ⟨n, w⟩
    · rw [z]
      exact d1
    · refine vD_le W1 ha hb (Wk_in (fun j hj hc => ?_) ha w)
      rw [vc_lay (by omega)] at hc ⊢
      rw [vc_lay (by omega)]
      split at hc
      · omega
      · rename_i q
        rw [if_neg q, if_neg q]
  have l3 : min x (vD (vLay V a b (nI 0)) (8 * a + b)) ≤ vD (vLay V a b (nI x)) (8 * a + b) := by
    rcases vD_wk W1 ha hb with z | ⟨n, w⟩
    · rw [z]
      omega
    · rcases Wk_wo (c := vc (vLay V a b (nI 0))) (x := x) (fun j hj => ?_) ha w with q | q
      · omega
      · have := vD_le W0 ha hb q
        omega
      · rw [vc_lay (by omega), vc_lay (by omega)]
        by_cases e : j = 8 * a + b ∨ j = 8 * b + a
        · rw [if_pos e]
          exact Or.inr (fun _ => Nat.le_refl _)
        · rw [if_neg e, if_neg e]
          exact Or.inl rfl
  omega
theorem vLay_lay {x y : Int32} : vLay (vLay V a b x) a b y = vLay V a b y := by
  funext p
  unfold vLay upd
  by_cases e1 : p = 2 + (8 * b + a)
  · rw [if_pos e1, if_pos e1]
  · by_cases e2 : p = 2 + (8 * a + b)
    · rw [if_neg e1, if_neg e1, if_pos e2, if_pos e2]
    · rw [if_neg e1, if_neg e1, if_neg e2, if_neg e2, if_neg e1, if_neg e2]
theorem vLay_at {x : Int32} (ha : a < 8) (hb : b < 8) : vLay V a b x (2 + (8 * a + b)) = x := by
  unfold vLay upd
  by_cases e : 2 + (8 * a + b) = 2 + (8 * b + a)
  · rw [if_pos e]
  · rw [if_neg e, if_pos rfl]
/-- the distance as a call tells it -/
def kFar (V : Nat → Int32) (a b : Nat) : Int32 := xfar (vDi V (8 * a + b))
theorem kFar_is (W : WFV V) (ha : a < 8) (hb : b < 8) : kFar V a b = if vD V (8 * a + b) < 1000000 then nI (vD V (8 * a + b)) else -1 := by
  obtain ⟨h1, h2⟩ := vD_n W (show 8 * a + b < 64 by omega)
  unfold kFar xfar
  rw [h2]
  by_cases l : vD V (8 * a + b) < 1000000
  · rw [if_pos l, if_pos ((nI_ltI (b := 1000000) (by omega) (by omega)).mpr l)]
  · rw [if_neg l, if_neg (fun q => l ((nI_ltI (b := 1000000) (by omega) (by omega)).mp q))]
theorem kFar_sy (W : WFV V) (ha : a < 8) (hb : b < 8) : kFar V a b = kFar V b a := by
  rw [kFar_is W ha hb, kFar_is W hb ha, vD_sy W ha hb]
theorem kFar_0 (W : WFV V) (ha : a < 8) : kFar V a a = nI 0 := by
  rw [kFar_is W ha ha, vD_self W ha, if_pos (by decide)]
end DI

