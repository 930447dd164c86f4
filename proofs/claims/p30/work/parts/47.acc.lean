/-! Accounts of a row: loaves of exits and of pairs, costs, complaints; t: how many loaves may have been sent. -/
def nv (V : Nat → Int32) (p : Nat) : Nat := (V p).toNatClampNeg
def zr (V : Nat → Int32) (p B : Nat) : Prop := V p = nI (nv V p) ∧ nv V p ≤ B
theorem nv_c {V U : Nat → Int32} {p q : Nat} (h : U q = V p) : nv U q = nv V p := by
  unfold nv
  rw [h]
theorem nv_nI {V : Nat → Int32} {p n : Nat} (hn : n < 2 ^ 31) (h : V p = nI n) : nv V p = n := by
  unfold nv
  rw [h, nI_clamp hn]
theorem zr_of {V : Nat → Int32} {p n B : Nat} (hn : n < 2 ^ 31) (hB : n ≤ B) (h : V p = nI n) : zr V p B := by
  have e := nv_nI hn h
  exact ⟨by rw [e]; exact h, by rw [e]; exact hB⟩
theorem zr_c {V U : Nat → Int32} {p q B : Nat} (h : U q = V p) (r : zr V p B) : zr U q B := by
  have e := nv_c h
  exact ⟨by rw [e, h]; exact r.1, by rw [e]; exact r.2⟩
theorem zr_mono {V : Nat → Int32} {p B C : Nat} (h : B ≤ C) (r : zr V p B) : zr V p C := ⟨r.1, Nat.le_trans r.2 h⟩
theorem zr_add {V U : Nat → Int32} {p q d B : Nat} {x : Int32} (r : zr V p B) (hx : x = nI d) (hB : B + d < 2 ^ 31) (h : U q = V p + x) : U q = nI (nv V p + d) ∧ nv U q = nv V p + d := by
  have e : U q = nI (nv V p + d) := by
    rw [h, hx, ← nI_add, ← r.1]
  have := r.2
  exact ⟨e, nv_nI (by omega) e⟩
theorem sN_ad {f g : Nat → Nat} {e d : Nat} : ∀ {n : Nat}, e < n → g e = f e + d → (∀ j, j < n → j ≠ e → g j = f j) → sN g n = sN f n + d
  | 0, h, _, _ => absurd h (Nat.not_lt_zero _)
  | n + 1, h, h1, h2 => by
    unfold sN
    by_cases q : e = n
    · subst q
      rw [h1, sN_cong (g := f) (fun a ha => h2 a (by omega) (by omega))]
      omega
    · rw [sN_ad (n := n) (by omega) h1 (fun j hj => h2 j (by omega)), h2 n (by omega) (fun z => q z.symm)]
      omega
theorem sN_tail {f : Nat → Nat} {s : Nat} (h : ∀ k, s ≤ k → f k = 0) : ∀ j, sN f (s + j) = sN f s
  | 0 => rfl
  | j + 1 => by
    show sN f (s + j) + f (s + j) = sN f s
    rw [sN_tail h j, h _ (by omega)]
    rfl
def AC (t : Nat) (V : Nat → Int32) : Prop :=
  t ≤ 100 ∧ (zr V 171 t ∧ zr V 172 t ∧ zr V 173 (1000000 * t)) ∧ (∀ e, e < 8 → zr V (70 + 5 * e) t ∧ zr V (71 + 5 * e) (1000000 * t)) ∧ (∀ k, k < 32 → zr V (139 + k) t) ∧
  (sN (fun e => nv V (70 + 5 * e)) 8 + nv V 172 = nv V 171 ∧ sN (fun e => nv V (71 + 5 * e)) 8 = nv V 173 ∧ sN (fun k => nv V (139 + k)) 32 + nv V 172 = nv V 171) ∧
  (∀ q, q < 4 → zr V (123 + q) 99 ∧ zr V (127 + q) t ∧ zr V (131 + q) t ∧ zr V (135 + q) t ∧ nv V (131 + q) ≤ nv V (135 + q) ∧ nv V (131 + q) ≤ nv V (127 + q))
section AC1
variable {t : Nat} {V U : Nat → Int32}
theorem AC.t9 (A : AC t V) : t ≤ 100 := A.1
theorem AC_cong (A : AC t V) (h1 : ∀ p, 123 ≤ p → p < 174 → U p = V p) (h2 : ∀ e, e < 8 → U (70 + 5 * e) = V (70 + 5 * e) ∧ U (71 + 5 * e) = V (71 + 5 * e)) : AC t U := by
  obtain ⟨a0, ⟨a1, a2, a3⟩, a4, a5, ⟨a6, a7, a8⟩, a9⟩ := A
  refine ⟨a0, ⟨zr_c (h1 171 (by omega) (by omega)) a1, zr_c (h1 172 (by omega) (by omega)) a2, zr_c (h1 173 (by omega) (by omega)) a3⟩, fun e he => ⟨zr_c (h2 e he).1 (a4 e he).1, zr_c (h2 e he).2 (a4 e he).2⟩, fun k hk => zr_c (h1 _ (by omega) (by omega)) (a5 k hk), ⟨?_, ?_, ?_⟩, fun q hq => ?_⟩
  · rw [nv_c (h1 171 (by omega) (by omega)), nv_c (h1 172 (by omega) (by omega)), ← a6]
    congr 1
    exact sN_cong (fun e he => nv_c (h2 e he).1)
  · rw [nv_c (h1 173 (by omega) (by omega)), ← a7]
    exact sN_cong (fun e he => nv_c (h2 e he).2)
  · rw [nv_c (h1 171 (by omega) (by omega)), nv_c (h1 172 (by omega) (by omega)), ← a8]
    congr 1
    exact sN_cong (fun k hk => nv_c (h1 _ (by omega) (by omega)))
  · obtain ⟨b1, b2, b3, b4, b5, b6⟩ := a9 q hq
    have e1 := h1 (123 + q) (by omega) (by omega)
    have e2 := h1 (127 + q) (by omega) (by omega)
    have e3 := h1 (131 + q) (by omega) (by omega)
    have e4 := h1 (135 + q) (by omega) (by omega)
    exact ⟨zr_c e1 b1, zr_c e2 b2, zr_c e3 b3, zr_c e4 b4, by rw [nv_c e3, nv_c e4]; exact b5, by rw [nv_c e3, nv_c e2]; exact b6⟩
theorem AC_mono {t' : Nat} (A : AC t V) (h : t ≤ t') (h9 : t' ≤ 100) : AC t' V := by
  obtain ⟨a0, ⟨a1, a2, a3⟩, a4, a5, a6, a9⟩ := A
  have hc : 1000000 * t ≤ 1000000 * t' := Nat.mul_le_mul_left _ h
  exact ⟨h9, ⟨zr_mono h a1, zr_mono h a2, zr_mono hc a3⟩, fun e he => ⟨zr_mono h (a4 e he).1, zr_mono hc (a4 e he).2⟩, fun k hk => zr_mono h (a5 k hk), a6, fun q hq => ⟨(a9 q hq).1, zr_mono h (a9 q hq).2.1, zr_mono h (a9 q hq).2.2.1, zr_mono h (a9 q hq).2.2.2.1, (a9 q hq).2.2.2.2⟩⟩
theorem AC_upd {p : Nat} {x : Int32} (A : AC t V) (h1 : p < 123) (h2 : ∀ e, e < 8 → p ≠ 70 + 5 * e ∧ p ≠ 71 + 5 * e) : AC t (upd V p x) :=
  AC_cong A (fun q hq _ => upd_o (by omega)) (fun e he => ⟨upd_o (fun z => (h2 e he).1 z.symm), upd_o (fun z => (h2 e he).2 z.symm)⟩)
theorem AC_bound {a z : Nat} (A : AC t V) (ha : a < 4) (hz : z ≤ 99) : AC t (upd V (123 + a) (nI z)) := by
  obtain ⟨a0, ⟨a1, a2, a3⟩, a4, a5, ⟨a6, a7, a8⟩, a9⟩ := A
  have o : ∀ p, p ≠ 123 + a → upd V (123 + a) (nI z) p = V p := fun p hp => upd_o hp
  refine ⟨a0, ⟨zr_c (o _ (by omega)) a1, zr_c (o _ (by omega)) a2, zr_c (o _ (by omega)) a3⟩, fun e he => ⟨zr_c (o _ (by omega)) (a4 e he).1, zr_c (o _ (by omega)) (a4 e he).2⟩, fun k hk => zr_c (o _ (by omega)) (a5 k hk), ⟨?_, ?_, ?_⟩, fun q hq => ?_⟩
  · rw [nv_c (o 171 (by omega)), nv_c (o 172 (by omega)), ← a6]
    congr 1
    exact sN_cong (fun e he => nv_c (o _ (by omega)))
  · rw [nv_c (o 173 (by omega)), ← a7]
    exact sN_cong (fun e he => nv_c (o _ (by omega)))
  · rw [nv_c (o 171 (by omega)), nv_c (o 172 (by omega)), ← a8]
    congr 1
    exact sN_cong (fun k hk => nv_c (o _ (by omega)))
  · obtain ⟨b1, b2, b3, b4, b5, b6⟩ := a9 q hq
    have e2 := o (127 + q) (by omega)
    have e3 := o (131 + q) (by omega)
    have e4 := o (135 + q) (by omega)
    refine ⟨?_, zr_c e2 b2, zr_c e3 b3, zr_c e4 b4, by rw [nv_c e3, nv_c e4]; exact b5, by rw [nv_c e3, nv_c e2]; exact b6⟩
    by_cases e : q = a
    · subst e
      exact zr_of (by omega) hz pk_us
    · exact zr_c (o _ (by omega)) b1
theorem AC_z8 (A : AC t V) : AC t (z8 V) := by
  obtain ⟨a0, ⟨a1, a2, a3⟩, a4, a5, ⟨a6, a7, a8⟩, a9⟩ := A
  have o : ∀ p, (p < 127 ∨ 135 ≤ p) → z8 V p = V p := fun p hp => z8_o hp
  refine ⟨a0, ⟨zr_c (o _ (by omega)) a1, zr_c (o _ (by omega)) a2, zr_c (o _ (by omega)) a3⟩, fun e he => ⟨zr_c (o _ (by omega)) (a4 e he).1, zr_c (o _ (by omega)) (a4 e he).2⟩, fun k hk => zr_c (o _ (by omega)) (a5 k hk), ⟨?_, ?_, ?_⟩, fun q hq => ?_⟩
  · rw [nv_c (o 171 (by omega)), nv_c (o 172 (by omega)), sN_cong (g := fun e => nv V (70 + 5 * e)) (fun e he => nv_c (o _ (by omega)))]
    exact a6
  · rw [nv_c (o 173 (by omega)), ← a7]
    exact sN_cong (fun e he => nv_c (o _ (by omega)))
  · rw [nv_c (o 171 (by omega)), nv_c (o 172 (by omega)), sN_cong (g := fun k => nv V (139 + k)) (fun k hk => nv_c (o _ (by omega)))]
    exact a8
  · obtain ⟨b1, b2, b3, b4, b5, b6⟩ := a9 q hq
    have e2 : z8 V (127 + q) = nI 0 := z8_in (by omega) (by omega)
    have e3 : z8 V (131 + q) = nI 0 := z8_in (by omega) (by omega)
    have n2 := nv_nI (by decide) e2
    have n3 := nv_nI (by decide) e3
    exact ⟨zr_c (o _ (by omega)) b1, zr_of (by decide) (Nat.zero_le _) e2, zr_of (by decide) (Nat.zero_le _) e3, zr_c (o _ (by omega)) b4, by rw [n3]; exact Nat.zero_le _, by rw [n3]; exact Nat.zero_le _⟩
theorem AC_cold (A : AC t V) (h9 : t + 1 ≤ 100) : AC (t + 1) (vCold V) := by
  obtain ⟨a0, ⟨a1, a2, a3⟩, a4, a5, ⟨a6, a7, a8⟩, a9⟩ := A
  have o : ∀ p, p ≠ 171 → p ≠ 172 → vCold V p = V p := fun p h1 h2 => by
    unfold vCold
    rw [ad_o h2, ad_o h1]
  have v1 : vCold V 171 = V 171 + nI 1 := by
    unfold vCold
    rw [ad_o (by decide), ad_s]
  have v2 : vCold V 172 = V 172 + nI 1 := by
    unfold vCold
    rw [ad_s, ad_o (by decide)]
  obtain ⟨w1, u1⟩ := zr_add a1 rfl (by omega) v1
  obtain ⟨w2, u2⟩ := zr_add a2 rfl (by omega) v2
  have m : ∀ {p B : Nat}, zr V p B → zr V p B := fun h => h
  refine ⟨h9, ⟨⟨by rw [u1]; exact w1, by rw [u1]; have := a1.2; omega⟩, ⟨by rw [u2]; exact w2, by rw [u2]; have := a2.2; omega⟩, zr_mono (by omega) (zr_c (o _ (by omega) (by omega)) a3)⟩, fun e he => ⟨zr_mono (by omega) (zr_c (o _ (by omega) (by omega)) (a4 e he).1), zr_mono (by omega) (zr_c (o _ (by omega) (by omega)) (a4 e he).2)⟩, fun k hk => zr_mono (by omega) (zr_c (o _ (by omega) (by omega)) (a5 k hk)), ⟨?_, ?_, ?_⟩, fun q hq => ?_⟩
  · rw [u1, u2, ← a6, sN_cong (g := fun e => nv V (70 + 5 * e)) (fun e he => nv_c (o _ (by omega) (by omega)))]
    omega
  · rw [nv_c (o 173 (by omega) (by omega)), ← a7]
    exact sN_cong (fun e he => nv_c (o _ (by omega) (by omega)))
  · rw [u1, u2, ← a8, sN_cong (g := fun k => nv V (139 + k)) (fun k hk => nv_c (o _ (by omega) (by omega)))]
    omega
  · obtain ⟨b1, b2, b3, b4, b5, b6⟩ := a9 q hq
    have e1 := o (123 + q) (by omega) (by omega)
    have e2 := o (127 + q) (by omega) (by omega)
    have e3 := o (131 + q) (by omega) (by omega)
    have e4 := o (135 + q) (by omega) (by omega)
    exact ⟨zr_c e1 b1, zr_mono (by omega) (zr_c e2 b2), zr_mono (by omega) (zr_c e3 b3), zr_mono (by omega) (zr_c e4 b4), by rw [nv_c e3, nv_c e4]; exact b5, by rw [nv_c e3, nv_c e2]; exact b6⟩
/-! a loaf that leaves, place by place -/
section TK
variable {e a h q p : Nat} {co : Int32}
theorem tk_o (hp : p ≠ 171 ∧ p ≠ 70 + 5 * e ∧ p ≠ 71 + 5 * e ∧ p ≠ 173 ∧ p ≠ 139 + (4 * a + h) ∧ p ≠ 127 + q ∧ p ≠ 131 + q ∧ p ≠ 135 + q) : vTake V e a h q co p = V p := by
  unfold vTake
  rw [ad_o (by omega), ad_o (by omega)]
  unfold vTk6
  rw [ad_o (by omega), ad_o (by omega), ad_o (by omega), ad_o (by omega), ad_o (by omega), ad_o (by omega)]
theorem tk_6 (hp : p ≠ 131 + q ∧ p ≠ 135 + q) : vTake V e a h q co p = vTk6 V e a h q co p := by
  unfold vTake
  rw [ad_o (by omega), ad_o (by omega)]
theorem tk_171 (he : e < 8) (hk : 4 * a + h < 32) (hq : q < 4) : vTake V e a h q co 171 = V 171 + nI 1 := by
  rw [tk_6 (by omega)]
  unfold vTk6
  rw [ad_o (by omega), ad_o (by omega), ad_o (by omega), ad_o (by omega), ad_o (by omega), ad_s]
theorem tk_70 (he : e < 8) (hk : 4 * a + h < 32) (hq : q < 4) : vTake V e a h q co (70 + 5 * e) = V (70 + 5 * e) + nI 1 := by
  rw [tk_6 (by omega)]
  unfold vTk6
  rw [ad_o (by omega), ad_o (by omega), ad_o (by omega), ad_o (by omega), ad_s, ad_o (by omega)]
theorem tk_71 (he : e < 8) (hk : 4 * a + h < 32) (hq : q < 4) : vTake V e a h q co (71 + 5 * e) = V (71 + 5 * e) + co := by
  rw [tk_6 (by omega)]
  unfold vTk6
  rw [ad_o (by omega), ad_o (by omega), ad_o (by omega), ad_s, ad_o (by omega), ad_o (by omega)]
theorem tk_173 (he : e < 8) (hk : 4 * a + h < 32) (hq : q < 4) : vTake V e a h q co 173 = V 173 + co := by
  rw [tk_6 (by omega)]
  unfold vTk6
  rw [ad_o (by omega), ad_o (by omega), ad_s, ad_o (by omega), ad_o (by omega), ad_o (by omega)]
theorem tk_pr (he : e < 8) (hk : 4 * a + h < 32) (hq : q < 4) : vTake V e a h q co (139 + (4 * a + h)) = V (139 + (4 * a + h)) + nI 1 := by
  rw [tk_6 (by omega)]
  unfold vTk6
  rw [ad_o (by omega), ad_s, ad_o (by omega), ad_o (by omega), ad_o (by omega), ad_o (by omega)]
theorem tk6_127 (he : e < 8) (hk : 4 * a + h < 32) (hq : q < 4) : vTk6 V e a h q co (127 + q) = V (127 + q) + nI 1 := by
  unfold vTk6
  rw [ad_s, ad_o (by omega), ad_o (by omega), ad_o (by omega), ad_o (by omega), ad_o (by omega)]
theorem tk6_o (he : e < 8) (hk : 4 * a + h < 32) (hq : q < 4) (hp : (123 ≤ p ∧ p < 139) ∧ p ≠ 127 + q) : vTk6 V e a h q co p = V p := by
  unfold vTk6
  rw [ad_o (by omega), ad_o (by omega), ad_o (by omega), ad_o (by omega), ad_o (by omega), ad_o (by omega)]
theorem tk_127 (he : e < 8) (hk : 4 * a + h < 32) (hq : q < 4) : vTake V e a h q co (127 + q) = V (127 + q) + nI 1 := by
  rw [tk_6 (by omega)]
  exact tk6_127 he hk hq
def kOv (V : Nat → Int32) (q : Nat) : Nat := if V (127 + q) + nI 1 ≤ V (123 + q) then 0 else 1
theorem kOv_is (he : e < 8) (hk : 4 * a + h < 32) (hq : q < 4) : vOv (vTk6 V e a h q co) q = nI (kOv V q) := by
  unfold vOv kOv
  rw [tk6_127 he hk hq, tk6_o he hk hq (by omega)]
  split <;> rfl
theorem tk_131 (he : e < 8) (hk : 4 * a + h < 32) (hq : q < 4) : vTake V e a h q co (131 + q) = V (131 + q) + nI (kOv V q) := by
  unfold vTake
  rw [ad_o (by omega), ad_s, kOv_is he hk hq, tk6_o he hk hq (by omega)]
theorem tk_135 (he : e < 8) (hk : 4 * a + h < 32) (hq : q < 4) : vTake V e a h q co (135 + q) = V (135 + q) + nI (kOv V q) := by
  unfold vTake
  rw [ad_s, ad_o (by omega), kOv_is he hk hq, tk6_o he hk hq (by omega)]
theorem AC_take {c : Nat} (A : AC t V) (h9 : t + 1 ≤ 100) (he : e < 8) (hk : 4 * a + h < 32) (hq : q < 4) (hc : c ≤ 1000000) : AC (t + 1) (vTake V e a h q (nI c)) := by
  obtain ⟨a0, ⟨a1, a2, a3⟩, a4, a5, ⟨a6, a7, a8⟩, a9⟩ := A
  obtain ⟨U, hU⟩ : ∃ U, U = vTake V e a h q (nI c) := ⟨_, rfl⟩
  have o : ∀ p, (p ≠ 171 ∧ p ≠ 70 + 5 * e ∧ p ≠ 71 + 5 * e ∧ p ≠ 173 ∧ p ≠ 139 + (4 * a + h) ∧ p ≠ 127 + q ∧ p ≠ 131 + q ∧ p ≠ 135 + q) → U p = V p := fun p hp => by rw [hU]; exact tk_o hp
  have v1 : U 171 = V 171 + nI 1 := by rw [hU]; exact tk_171 he hk hq
  have v2 : U (70 + 5 * e) = V (70 + 5 * e) + nI 1 := by rw [hU]; exact tk_70 he hk hq
  have v3 : U (71 + 5 * e) = V (71 + 5 * e) + nI c := by rw [hU]; exact tk_71 he hk hq
  have v4 : U 173 = V 173 + nI c := by rw [hU]; exact tk_173 he hk hq
  have v5 : U (139 + (4 * a + h)) = V (139 + (4 * a + h)) + nI 1 := by rw [hU]; exact tk_pr he hk hq
  have v6 : U (127 + q) = V (127 + q) + nI 1 := by rw [hU]; exact tk_127 he hk hq
  have v7 : U (131 + q) = V (131 + q) + nI (kOv V q) := by rw [hU]; exact tk_131 he hk hq
  have v8 : U (135 + q) = V (135 + q) + nI (kOv V q) := by rw [hU]; exact tk_135 he hk hq
  rw [← hU]
  have ko : kOv V q ≤ 1 := by unfold kOv; split <;> omega
  obtain ⟨w1, u1⟩ := zr_add a1 rfl (by omega) v1
  obtain ⟨w2, u2⟩ := zr_add (a4 e he).1 rfl (by omega) v2
  obtain ⟨w3, u3⟩ := zr_add (a4 e he).2 rfl (by omega) v3
  obtain ⟨w4, u4⟩ := zr_add a3 rfl (by omega) v4
  obtain ⟨w5, u5⟩ := zr_add (a5 _ hk) rfl (by omega) v5
  obtain ⟨b1, b2, b3, b4, b5, b6⟩ := a9 q hq
  obtain ⟨w6, u6⟩ := zr_add b2 rfl (by omega) v6
  obtain ⟨w7, u7⟩ := zr_add b3 rfl (by omega) v7
  obtain ⟨w8, u8⟩ := zr_add b4 rfl (by omega) v8
  have mk : ∀ {p n B : Nat}, U p = nI n → nv U p = n → n ≤ B → zr U p B := fun h1 h2 h3 => ⟨by rw [h2]; exact h1, by rw [h2]; exact h3⟩
  have l1 := a1.2
  have l2 := (a4 e he).1.2
  have l3 := (a4 e he).2.2
  have l4 := a3.2
  have l5 := (a5 _ hk).2
  have l6 := b2.2
  have l7 := b3.2
  have l8 := b4.2
  refine ⟨h9, ⟨mk w1 u1 (by omega), zr_mono (by omega) (zr_c (o 172 (by omega)) a2), mk w4 u4 (by omega)⟩, fun i hi => ?_, fun k hk2 => ?_, ⟨?_, ?_, ?_⟩, fun r hr => ?_⟩
  · by_cases z : i = e
    · subst z
      exact ⟨mk w2 u2 (by omega), mk w3 u3 (by omega)⟩
    · exact ⟨zr_mono (by omega) (zr_c (o _ (by omega)) (a4 i hi).1), zr_mono (by omega) (zr_c (o _ (by omega)) (a4 i hi).2)⟩
  · by_cases z : k = 4 * a + h
    · subst z
      exact mk w5 u5 (by omega)
    · exact zr_mono (by omega) (zr_c (o _ (by omega)) (a5 k hk2))
  · rw [u1, nv_c (o 172 (by omega)), ← a6, sN_ad (f := fun e => nv V (70 + 5 * e)) (e := e) (d := 1) he u2 (fun j hj z => nv_c (o _ (by omega)))]
    omega
  · rw [u4, ← a7]
    exact sN_ad (f := fun e => nv V (71 + 5 * e)) (e := e) (d := c) he u3 (fun j hj z => nv_c (o _ (by omega)))
  · rw [u1, nv_c (o 172 (by omega)), ← a8, sN_ad (f := fun k => nv V (139 + k)) (e := 4 * a + h) (d := 1) hk u5 (fun j hj z => nv_c (o _ (by omega)))]
    omega
  · by_cases z : r = q
    · subst z
      refine ⟨zr_c (o _ (by omega)) b1, mk w6 u6 (by omega), mk w7 u7 (by omega), mk w8 u8 (by omega), by rw [u7, u8]; omega, ?_⟩
      rw [u7, u6]
      omega
    · obtain ⟨c1, c2, c3, c4, c5, c6⟩ := a9 r hr
      have e1 := o (123 + r) (by omega)
      have e2 := o (127 + r) (by omega)
      have e3 := o (131 + r) (by omega)
      have e4 := o (135 + r) (by omega)
      exact ⟨zr_c e1 c1, zr_mono (by omega) (zr_c e2 c2), zr_mono (by omega) (zr_c e3 c3), zr_mono (by omega) (zr_c e4 c4), by rw [nv_c e3, nv_c e4]; exact c5, by rw [nv_c e3, nv_c e2]; exact c6⟩
end TK
end AC1
/-! a row that a land may be -/
def vG (t : Nat) (V : Nat → Int32) : Prop := WFV V ∧ WFP V ∧ AC t V
section VG
variable {t s a b h c : Nat} {V : Nat → Int32}
theorem vG_mono {t' : Nat} (G : vG t V) (h : t ≤ t') (h9 : t' ≤ 100) : vG t' V := ⟨G.1, G.2.1, AC_mono G.2.2 h h9⟩
theorem vG_171 (G : vG t V) : V 171 < nI 9999 := by
  have r := G.2.2.2.1.1
  have := G.2.2.1
  have := r.2
  rw [r.1]
  exact (nI_ltI (by omega) (by omega)).mpr (by omega)
theorem vG_lay (G : vG t V) (ha : a < 8) (hb : b < 8) (hab : a ≠ b) (hc : c ≤ 99) : vG t (vLay V a b (nI c)) := by
  refine ⟨WFV_lay G.1 ha hb hab hc, ?_, ?_⟩
  · unfold vLay
    exact WFP_free (WFP_free G.2.1 (by omega)) (by omega)
  · unfold vLay
    exact AC_upd (AC_upd G.2.2 (by omega) (fun e he => by omega)) (by omega) (fun e he => by omega)
theorem vG_add (G : vG t V) (hs : V 66 = nI s) (h8 : s < 8) (ha : a < 8) (hb : b < 4) : vG t (vAdd V s a b) := by
  refine ⟨WFV_add G.1 hs h8 ha hb, ?_, ?_⟩
  · unfold vAdd
    exact WFP_free (WFP_free (WFP_free (WFP_free G.2.1 (by omega)) (by omega)) (by omega)) (by omega)
  · unfold vAdd
    exact AC_upd (AC_upd (AC_upd (AC_upd G.2.2 (by omega) (fun e he => by omega)) (by omega) (fun e he => by omega)) (by omega) (fun e he => by omega)) (by omega) (fun e he => by omega)
theorem vG_turn {e : Nat} {x : Int32} (G : vG t V) (hs : V 66 = nI s) (h8 : s ≤ 8) (he : e < s) (hx : x = nI 0 ∨ x = nI 1) : vG t (upd V (69 + 5 * e) x) :=
  ⟨WFV_turn G.1 hs h8 he hx, WFP_free G.2.1 (by omega), AC_upd G.2.2 (by omega) (fun e he => by omega)⟩
theorem vG_off {p l : Nat} (G : vG t V) (hp : p < 16) (hl : l ≤ 9) : vG t (upd V (107 + p) (nI l)) :=
  ⟨WFV_off G.1 hp hl, WFP_free G.2.1 (by omega), AC_upd G.2.2 (by omega) (fun e he => by omega)⟩
theorem vG_bound {z : Nat} (G : vG t V) (hs : V 66 = nI s) (h8 : s ≤ 8) (ha : a < 4) (hz : z ≤ 99) : vG t (upd V (123 + a) (nI z)) :=
  ⟨WFV_free G.1 hs h8 (by omega), WFP_free G.2.1 (by omega), AC_bound G.2.2 ha hz⟩
theorem vG_set {p : Nat} {x : Int32} (G : vG t V) (hp : p < 2) (hx : x = nI 0 ∨ x = nI 1) : vG t (upd V p x) :=
  ⟨WFV_set G.1 hp hx, WFP_free G.2.1 (by omega), AC_upd G.2.2 (by omega) (fun e he => by omega)⟩
theorem vG_z8 (G : vG t V) (hs : V 66 = nI s) (h8 : s ≤ 8) : vG t (z8 V) := ⟨(WF_z8 G.1 G.2.1 hs h8).1, (WF_z8 G.1 G.2.1 hs h8).2, AC_z8 G.2.2⟩
theorem vDe_rng (W : WFV V) (hs : V 66 = nI s) (h8 : s ≤ 8) (ha : a < 8) (hh : h < 4) {e : Nat} (he : e < s) (h1 : vCho (vDi V) V s a h = nI e) : ∃ c, c ≤ 1000000 ∧ vDe (vDi V) V s a h = nI c := by
  unfold vDe
  rw [h1, if_neg (nI_pos (by omega)), nI_clamp (by omega)]
  exact vFar_n W hs h8 ha he
theorem vG_snd (G : vG t V) (h9 : t + 1 ≤ 100) (hs : V 66 = nI s) (h8 : s ≤ 8) (ha : a < 8) (hh : h < 4) : vG (t + 1) (vSnd V s a h) ∧ vSnd V s a h 66 = nI s := by
  obtain ⟨w1, w2, w3⟩ := vSnd_wf G.1 G.2.1 hs h8 ha hh (vG_171 G)
  refine ⟨⟨w1, w2, ?_⟩, w3⟩
  unfold vSnd
  rcases vCho_in2 G.1 hs h8 ha hh with z | ⟨e, he, z⟩
  · rw [z, if_pos (by decide)]
    exact AC_cold G.2.2 h9
  · obtain ⟨c, hc, ec⟩ := vDe_rng G.1 hs h8 ha hh he z
    rw [z, if_neg (nI_pos (by omega)), nI_clamp (by omega), ec]
    exact AC_take G.2.2 h9 (by omega) (by omega) (vNe_lt G.1 hs h8 he) hc
end VG

