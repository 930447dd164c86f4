/-! The land as a row: what can be taken, marks, grades, the choice; the class's look told by them. -/
def zrg (R : Nat → Int32) : Prop := ∀ j, j < 64 → ∃ n, n ≤ 1000000 ∧ R j = nI n
theorem fwS_rng {o k : Nat} {R : Nat → Int32} (ho : o < 8) (hk : k < 64) (h : zrg R) : zrg (fwS o k R) := by
  intro j hj
  unfold fwS upd
  by_cases e : j = k
  · rw [if_pos e]
    obtain ⟨a, ha, ea⟩ := h (8 * (k / 8) + o) (by omega)
    obtain ⟨b, hb, eb⟩ := h (8 * o + k % 8) (by omega)
    obtain ⟨c, hc, ec⟩ := h k hk
    rw [ea, eb, ec, nI_add]
    by_cases hl : nI (a + b) < nI c
    · rw [if_pos hl]
      exact ⟨a + b, by have := (nI_ltI (by omega) (by omega)).mp hl; omega, rfl⟩
    · rw [if_neg hl]
      exact ⟨c, hc, rfl⟩
  · rw [if_neg e]
    exact h j hj
theorem fwK_rng {o : Nat} {R : Nat → Int32} (ho : o < 8) (h : zrg R) : ∀ k, k ≤ 64 → zrg (fwK o R k)
  | 0, _ => h
  | k + 1, hk => fwS_rng ho (by omega) (fwK_rng ho h k (by omega))
theorem fwO_rng {R : Nat → Int32} (h : zrg R) : ∀ o, o ≤ 8 → zrg (fwO R o)
  | 0, _ => h
  | o + 1, ho => fwK_rng (by omega) (fwO_rng h o (by omega)) 64 (Nat.le_refl _)
theorem fw_rng {C : Nat → Int32} (h : ∀ j, j < 64 → ∃ c, c ≤ 99 ∧ C j = nI c) : zrg (fw C) := by
  refine fwO_rng ?_ 8 (Nat.le_refl _)
  intro j hj
  unfold fwI
  by_cases a : j / 8 = j % 8
  · rw [if_pos a]
    exact ⟨0, by omega, rfl⟩
  · rw [if_neg a]
    obtain ⟨c, hc, e⟩ := h j hj
    by_cases b : C j = 0
    · rw [if_pos b]
      exact ⟨1000000, by omega, rfl⟩
    · rw [if_neg b]
      exact ⟨c, by omega, e⟩
def vDi (V : Nat → Int32) : Nat → Int32 := fw (fun k => V (2 + k))
def vTo (V : Nat → Int32) (e : Nat) : Nat := (V (67 + 5 * e)).toNatClampNeg
def vNe (V : Nat → Int32) (e : Nat) : Nat := (V (68 + 5 * e)).toNatClampNeg
def vLen (V : Nat → Int32) (h e : Nat) : Int32 := V (107 + (4 * vNe V e + h))
def vFar (D V : Nat → Int32) (t e : Nat) : Int32 := D (8 * t + vTo V e)
def vCan (D V : Nat → Int32) (t h e : Nat) : Bool := decide (V (69 + 5 * e) = nI 1) && (decide (0 < vLen V h e) && decide (vFar D V t e < xFAR))
def vMk (D V : Nat → Int32) (t h e w : Nat) : Int32 := if V 0 = nI w then vLen V h e else vFar D V t e
def vOwn (D V : Nat → Int32) (t h e k : Nat) : Int32 := if vMk D V t h k 0 - vMk D V t h e 0 < 0 then nI 1 else if vMk D V t h k 0 - vMk D V t h e 0 = 0 ∧ vMk D V t h k 1 - vMk D V t h e 1 < 0 then nI 2 else nI 3
def vGf (D V : Nat → Int32) (t h e : Nat) : Nat → Int32
  | 0 => nI 3
  | k + 1 => if vCan D V t h k then (if vOwn D V t h e k < vGf D V t h e k then vOwn D V t h e k else vGf D V t h e k) else vGf D V t h e k
def vGr (D V : Nat → Int32) (s t h e : Nat) : Int32 := if vCan D V t h e then vGf D V t h e s else nI 0
def vGd (D V : Nat → Int32) (s t h l : Nat) : Int32 := sm (fun k => zb (decide (nI l ≤ vGr D V s t h k))) s
def vRk (V : Nat → Int32) (t h : Nat) (b : Int32) : Int32 := if V 1 = 0 then nI 0 else V (139 + (4 * t + h)) - V (139 + (4 * t + h)) / b * b
def vCho (D V : Nat → Int32) (s t h : Nat) : Int32 := if vGd D V s t h 3 = 0 then -1 else mfo (fun k => decide (vGr D V s t h k = nI 3)) 0 s (-1) (vRk V t h (vGd D V s t h 3))
/-- can be taken, and is there -/
def vCs (V : Nat → Int32) (s t h e : Nat) : Bool := decide (e < s) && vCan (vDi V) V t h e
def vf (V : Nat → Int32) (t h e : Nat) : Nat := (vMk (vDi V) V t h e 0).toNatClampNeg
def vg (V : Nat → Int32) (t h e : Nat) : Nat := (vMk (vDi V) V t h e 1).toNatClampNeg
theorem kW_cong {can can' : Nat → Bool} {F S F' S' : Nat → Int32} : ∀ {n : Nat}, (∀ e, e < n → can e = can' e ∧ F e = F' e ∧ S e = S' e) → kW can F S n = kW can' F' S' n
  | 0, _ => rfl
  | n + 1, h => by
    have ih := kW_cong (fun e he => h e (by omega) : ∀ e, e < n → can e = can' e ∧ F e = F' e ∧ S e = S' e)
    obtain ⟨a, b, c⟩ := h n (by omega)
    unfold kW
    rw [ih, a, b, c]
section L4
variable {M : Nat → Nat → Nat → Int32} {V : Nat → Int32} {i s t h : Nat}
theorem vDi_rng (W : WFV V) : zrg (vDi V) := fw_rng W.2.1
/-- an exit that is there -/
theorem vEx (W : WFV V) (hs : V 66 = nI s) (h8 : s ≤ 8) {e : Nat} (he : e < s) : (∃ a, a < 8 ∧ V (67 + 5 * e) = nI a) ∧ (∃ q, q < 4 ∧ V (68 + 5 * e) = nI q) ∧ (V (69 + 5 * e) = nI 0 ∨ V (69 + 5 * e) = nI 1) := by
  obtain ⟨s', hs', e66, hx, _⟩ := W.2.2.2.2.1
  have : s' = s := by
    rw [hs] at e66
    exact ((nI_eq (by omega) (by omega)).mp e66).symm
  subst this
  exact hx e he
theorem vTo_of {e a : Nat} (ha : a < 8) (h : V (67 + 5 * e) = nI a) : vTo V e = a := by
  unfold vTo
  rw [h, nI_clamp (by omega)]
theorem vNe_of {e a : Nat} (ha : a < 4) (h : V (68 + 5 * e) = nI a) : vNe V e = a := by
  unfold vNe
  rw [h, nI_clamp (by omega)]
theorem vTo_lt (W : WFV V) (hs : V 66 = nI s) (h8 : s ≤ 8) {e : Nat} (he : e < s) : vTo V e < 8 := by
  obtain ⟨⟨a, ha, ea⟩, _, _⟩ := vEx W hs h8 he
  rw [vTo_of ha ea]
  exact ha
theorem vNe_lt (W : WFV V) (hs : V 66 = nI s) (h8 : s ≤ 8) {e : Nat} (he : e < s) : vNe V e < 4 := by
  obtain ⟨_, ⟨a, ha, ea⟩, _⟩ := vEx W hs h8 he
  rw [vNe_of ha ea]
  exact ha
theorem vFar_n (W : WFV V) (hs : V 66 = nI s) (h8 : s ≤ 8) (ht : t < 8) {e : Nat} (he : e < s) : ∃ n, n ≤ 1000000 ∧ vFar (vDi V) V t e = nI n := by
  have := vTo_lt W hs h8 he
  exact vDi_rng W (8 * t + vTo V e) (by omega)
theorem vLen_n (W : WFV V) (hs : V 66 = nI s) (h8 : s ≤ 8) (hh : h < 4) {e : Nat} (he : e < s) : ∃ l, l ≤ 9 ∧ vLen V h e = nI l := by
  have := vNe_lt W hs h8 he
  exact W.2.2.2.2.2.1 (4 * vNe V e + h) (by omega)
theorem kLen_v (R : LandR M i V) (W : WFV V) (hs : V 66 = nI s) (h8 : s ≤ 8) (hh : h < 4) {e : Nat} (he : e < s) : kLen M i s h e = vLen V h e := by
  obtain ⟨_, ⟨q, hq, eq⟩, _⟩ := vEx W hs h8 he
  unfold kLen vLen
  rw [xg_nI he (by omega), R.2.2.2.1.2.1 e (by omega), vNe_of hq eq, eq, xg2_nI hq (by decide) hh (by decide), R.2.2.2.2.1.1 (4 * q + h) (by omega)]
theorem kDis_v (R : LandR M i V) (W : WFV V) (hs : V 66 = nI s) (h8 : s ≤ 8) (ht : t < 8) {e : Nat} (he : e < s) : kDis M i s t e = xfar (vFar (vDi V) V t e) := by
  obtain ⟨⟨q, hq, eq⟩, _, _⟩ := vEx W hs h8 he
  unfold kDis vFar
  rw [xg_nI he (by omega), R.2.2.2.1.1 e (by omega), vTo_of hq eq, eq, xg2_nI ht (by decide) hq (by decide), R.2.2.2.2.2.2.2.2.2 (8 * t + q) (by omega)]
  rfl
theorem xfar_ne {n : Nat} (hn : n ≤ 1000000) : decide (xfar (nI n) ≠ -1) = decide (nI n < xFAR) := by
  unfold xfar
  by_cases h : nI n < xFAR
  · rw [if_pos h, decide_eq_true h]
    exact decide_eq_true (nI_nm1 (by omega))
  · rw [if_neg h, decide_eq_false h]
    exact decide_eq_false (fun q => q rfl)
theorem kCan_v (R : LandR M i V) (W : WFV V) (hs : V 66 = nI s) (h8 : s ≤ 8) (ht : t < 8) (hh : h < 4) {e : Nat} (he : e < 8) : kCan M i s t h e = vCs V s t h e := by
  unfold kCan vCs
  by_cases hx : e < s
  · rw [decide_eq_true hx, Bool.true_and, kLen_v R W hs h8 hh hx, kDis_v R W hs h8 ht hx]
    obtain ⟨n, hn, en⟩ := vFar_n W hs h8 ht hx
    unfold vCan kOpn
    rw [en, xfar_ne hn, xg_nI hx (by omega), R.2.2.2.1.2.2.1 e he]
  · rw [decide_eq_false hx, Bool.false_and]
    unfold kOpn
    rw [xg_no (z_ok_ge (nI_le (by omega) (by omega)))]
    rfl
/-- marks of what can be taken -/
theorem vMk_n (W : WFV V) (hs : V 66 = nI s) (h8 : s ≤ 8) (ht : t < 8) (hh : h < 4) {e : Nat} (hc : vCs V s t h e = true) (w : Nat) : ∃ n, n < 1000000 ∧ vMk (vDi V) V t h e w = nI n := by
  unfold vCs vCan at hc
  rw [Bool.and_eq_true, Bool.and_eq_true, Bool.and_eq_true, decide_eq_true_eq, decide_eq_true_eq, decide_eq_true_eq, decide_eq_true_eq] at hc
  obtain ⟨n, hn, en⟩ := vFar_n W hs h8 ht hc.1
  obtain ⟨l, hl, el⟩ := vLen_n W hs h8 hh hc.1
  unfold vMk
  by_cases hw : V 0 = nI w
  · rw [if_pos hw]
    exact ⟨l, by omega, el⟩
  · rw [if_neg hw]
    refine ⟨n, ?_, en⟩
    have := hc.2.2.2
    rw [en] at this
    exact (nI_ltI (b := 1000000) (by omega) (by omega)).mp this
theorem vfg (W : WFV V) (hs : V 66 = nI s) (h8 : s ≤ 8) (ht : t < 8) (hh : h < 4) {e : Nat} (hc : vCs V s t h e = true) : (vf V t h e < 1000000 ∧ vg V t h e < 1000000) ∧ vMk (vDi V) V t h e 0 = nI (vf V t h e) ∧ vMk (vDi V) V t h e 1 = nI (vg V t h e) := by
  obtain ⟨a, ha, ea⟩ := vMk_n W hs h8 ht hh hc 0
  obtain ⟨b, hb, eb⟩ := vMk_n W hs h8 ht hh hc 1
  unfold vf vg
  rw [ea, eb, nI_clamp (by omega), nI_clamp (by omega)]
  exact ⟨⟨ha, hb⟩, rfl, rfl⟩
theorem kFS_v (R : LandR M i V) (W : WFV V) (hs : V 66 = nI s) (h8 : s ≤ 8) (ht : t < 8) (hh : h < 4) {e : Nat} (he : e < 8) : kF M i s t h e = (if vCs V s t h e then nI (vf V t h e) else xFAR) ∧ kS M i s t h e = (if vCs V s t h e then nI (vg V t h e) else xFAR) := by
  unfold kF kS
  rw [kCan_v R W hs h8 ht hh he]
  cases hc : vCs V s t h e
  · exact ⟨rfl, rfl⟩
  · rw [if_pos rfl, if_pos rfl, if_pos rfl, if_pos rfl]
    obtain ⟨_, ea, eb⟩ := vfg W hs h8 ht hh hc
    rw [← ea, ← eb]
    have hx : e < s := by
      unfold vCs at hc
      rw [Bool.and_eq_true, decide_eq_true_eq] at hc
      exact hc.1
    have hfar : vFar (vDi V) V t e < xFAR := by
      unfold vCs vCan at hc
      rw [Bool.and_eq_true, Bool.and_eq_true, Bool.and_eq_true, decide_eq_true_eq, decide_eq_true_eq, decide_eq_true_eq, decide_eq_true_eq] at hc
      exact hc.2.2.2
    rw [kLen_v R W hs h8 hh hx, kDis_v R W hs h8 ht hx]
    unfold kNf vMk xfar
    rw [if_pos hfar, R.1 0 (by decide)]
    rcases W.1 0 (by decide) with z | z
    · rw [z]
      exact ⟨rfl, rfl⟩
    · rw [z]
      exact ⟨rfl, rfl⟩
end L4

