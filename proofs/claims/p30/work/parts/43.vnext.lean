/-! The next town, told by the row; ranks are found. -/
theorem vzc {V : Nat → Int32} (W : WFV V) : zcn (fun k => V (2 + k)) (fun k => (V (2 + k)).toNatClampNeg) := by
  intro j hj
  obtain ⟨c, hc, e⟩ := W.2.1 j hj
  show (V (2 + j)).toNatClampNeg ≤ 99 ∧ V (2 + j) = nI (V (2 + j)).toNatClampNeg
  rw [e, nI_clamp (by omega)]
  exact ⟨hc, rfl⟩
/-- the town found, from the last one down -/
def vNf (D V : Nat → Int32) (a g : Nat) : Nat → Int32
  | 0 => nI a
  | k + 1 => if 0 < V (2 + (8 * a + (7 - k))) ∧ V (2 + (8 * a + (7 - k))) + D (8 * (7 - k) + g) = D (8 * a + g) then nI (7 - k) else vNf D V a g k
def vNt (D V : Nat → Int32) (a g : Nat) : Int32 := if a = g then nI a else vNf D V a g 8
theorem xft_vNf {D V : Nat → Int32} {a g : Nat} {p : Nat → Bool} (hp : ∀ t, t < 8 → p t = decide (0 < V (2 + (8 * a + t)) ∧ V (2 + (8 * a + t)) + D (8 * t + g) = D (8 * a + g))) : ∀ k, k ≤ 8 → (∃ t, 8 - k ≤ t ∧ t < 8 ∧ p t = true) → xft p (8 - k) k = vNf D V a g k
  | 0, _, h => by
    obtain ⟨t, a, b, _⟩ := h
    omega
  | k + 1, hk, h => by
    have e8 : 8 - (k + 1) = 7 - k := by omega
    have e0 : xft p (8 - (k + 1)) (k + 1) = if p (8 - (k + 1)) then nI (8 - (k + 1)) else xft p (8 - (k + 1) + 1) k := rfl
    rw [e0, e8, show 7 - k + 1 = 8 - k by omega, hp (7 - k) (by omega)]
    unfold vNf
    by_cases c : 0 < V (2 + (8 * a + (7 - k))) ∧ V (2 + (8 * a + (7 - k))) + D (8 * (7 - k) + g) = D (8 * a + g)
    · rw [decide_eq_true c, if_pos rfl, if_pos c]
    · rw [decide_eq_false c, if_neg (by decide), if_neg c]
      refine xft_vNf hp k (by omega) ?_
      obtain ⟨t, h1, h2, h3⟩ := h
      refine ⟨t, ?_, h2, h3⟩
      by_cases e : t = 7 - k
      · rw [e, hp (7 - k) (by omega), decide_eq_false c] at h3
        cases h3
      · omega
/-- the class's next town -/
theorem xnext_v {V : Nat → Int32} (W : WFV V) {R U : Nat → Int32} (hR : ∀ j, j < 64 → R j = V (2 + j)) (hU : ∀ j, j < 64 → U j = vDi V j) {a g : Nat} (ha : a < 8) (hg : g < 8) (hf : vDi V (8 * a + g) < xFAR) : xnext R U a g = vNt (vDi V) V a g := by
  have hz := vzc W
  have D := fw_nD hz
  have hD : ∀ j, j < 64 → vDi V j = nI (nD (fun k => (V (2 + k)).toNatClampNeg) j) ∧ nD (fun k => (V (2 + k)).toNatClampNeg) j ≤ 1000000 := fun j hj => ⟨(D j hj).2, (D j hj).1⟩
  obtain ⟨f1, f2⟩ := hD (8 * a + g) (by omega)
  have f3 : nD (fun k => (V (2 + k)).toNatClampNeg) (8 * a + g) < 1000000 := by
    rw [f1] at hf
    exact (nI_ltI (b := 1000000) (by omega) (by omega)).mp hf
  unfold xnext vNt
  rw [hU _ (by omega), xfar_lt hf, f1, if_neg (nI_nm1 (by omega))]
  by_cases e : a = g
  · rw [if_pos e, if_pos e, e]
  · rw [if_neg e, if_neg e]
    have hp : ∀ t, t < 8 → xnp R U a g t = decide (0 < V (2 + (8 * a + t)) ∧ V (2 + (8 * a + t)) + vDi V (8 * t + g) = vDi V (8 * a + g)) := by
      intro t ht
      obtain ⟨g1, g2⟩ := hD (8 * t + g) (by omega)
      obtain ⟨c1, c2⟩ := hz (8 * a + t) (by omega)
      have c3 : V (2 + (8 * a + t)) = nI (V (2 + (8 * a + t))).toNatClampNeg := c2
      have c4 : (V (2 + (8 * a + t))).toNatClampNeg ≤ 99 := c1
      unfold xnp
      rw [hR _ (by omega), hU _ (by omega), hU _ (by omega), f1, g1, show xfar (nI (nD (fun k => (V (2 + k)).toNatClampNeg) (8 * a + g))) = nI (nD (fun k => (V (2 + k)).toNatClampNeg) (8 * a + g)) from by rw [← f1]; exact xfar_lt hf]
      rw [Bool.eq_iff_iff, Bool.and_eq_true, Bool.and_eq_true, decide_eq_true_eq, decide_eq_true_eq, decide_eq_true_eq, decide_eq_true_eq]
      by_cases l : nD (fun k => (V (2 + k)).toNatClampNeg) (8 * t + g) < 1000000
      · rw [xfar_lt (show nI _ < xFAR from (nI_ltI (b := 1000000) (by omega) (by omega)).mpr l)]
        exact ⟨fun q => ⟨q.1, q.2.2⟩, fun q => ⟨q.1, nI_nm1 (by omega), q.2⟩⟩
      · have le : nD (fun k => (V (2 + k)).toNatClampNeg) (8 * t + g) = 1000000 := by omega
        rw [le, show xfar (nI 1000000) = -1 from if_neg (Int32.not_lt.mpr (Int32.le_refl _))]
        refine ⟨fun q => absurd rfl q.2.1, fun q => ?_⟩
        exfalso
        have q2 := q.2
        rw [c3, nI_add] at q2
        have := (nI_eq (by omega) (by omega)).mp q2
        omega
    refine xft_vNf hp 8 (Nat.le_refl _) ?_
    obtain ⟨k, hk, h1, h2⟩ := nD_step hz ha hg e f3
    refine ⟨k, by omega, hk, ?_⟩
    obtain ⟨g1, g2⟩ := hD (8 * k + g) (by omega)
    have c3 : V (2 + (8 * a + k)) = nI (V (2 + (8 * a + k))).toNatClampNeg := (hz (8 * a + k) (by omega)).2
    have c4 : (V (2 + (8 * a + k))).toNatClampNeg ≤ 99 := (hz (8 * a + k) (by omega)).1
    rw [hp k hk]
    refine decide_eq_true ⟨?_, ?_⟩
    · rw [c3]
      exact (nI_ltI (a := 0) (by omega) (by omega)).mpr h1
    · rw [c3, g1, f1, nI_add]
      exact congrArg nI h2
theorem kNx_v {M : Nat → Nat → Nat → Int32} {V : Nat → Int32} {s t h : Nat} (R : LandR M 0 V) (W : WFV V) (hs : V 66 = nI s) (h8 : s ≤ 8) (ht : t < 8) (hh : h < 4) : kNx M s t h = if vCho (vDi V) V s t h < 0 then -1 else vNt (vDi V) V t (vTo V (vCho (vDi V) V s t h).toNatClampNeg) := by
  unfold kNx
  rw [kEx_v R W hs h8 ht hh]
  rcases vCho_in W hs h8 ht hh with a | ⟨e, he, hc, a⟩
  · rw [a, if_pos (show (-1 : Int32) < 0 by decide), xg_no (show z_ok (-1) s = false from z_ok_neg (by decide))]
    rfl
  · obtain ⟨⟨q, hq, eq⟩, _, _⟩ := vEx W hs h8 he
    have hf := (vCs_far hc).1
    unfold vFar at hf
    rw [vTo_of hq eq] at hf
    rw [a, if_neg (nI_pos (by omega)), nI_clamp (by omega), vTo_of hq eq, xg_nI he (by omega), R.2.2.2.1.1 e (by omega), eq]
    show (if z_ok (nI q) 8 then xnext (M 27 0) (M 28 0) t (nI q).toNatClampNeg else -1) = _
    rw [z_ok_nI hq (by decide), if_pos rfl, nI_clamp (by omega)]
    exact xnext_v W R.2.1 R.2.2.2.2.2.2.2.2.2 ht hq hf

