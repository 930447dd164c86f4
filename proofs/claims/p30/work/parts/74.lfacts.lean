/-! What the law asks behind an act: a loaf sent, a road laid; the row of a new object. -/
section LF
variable {V : Nat → Int32} {s t h a b x e : Nat}
theorem sm_ad {f g : Nat → Int32} {e : Nat} {x : Int32} : ∀ {n : Nat}, e < n → g e = f e + x → (∀ j, j < n → j ≠ e → g j = f j) → sm g n = sm f n + x
  | 0, h, _, _ => absurd h (Nat.not_lt_zero _)
  | n + 1, h, h1, h2 => by
    rw [sm_s, sm_s]
    by_cases q : e = n
    · subst q
      rw [h1, sm_cong (g := f) (fun a ha => h2 a (by omega) (by omega)), Int32.add_assoc]
    · rw [sm_ad (n := n) (by omega) h1 (fun j hj => h2 j (by omega)), h2 n (by omega) (fun z => q z.symm), Int32.add_assoc, Int32.add_assoc, Int32.add_comm x]
theorem ot_is (V : Nat → Int32) (s a b x : Nat) : ∃ n, n ≤ 32 ∧ vOt V s a b x = nI n := ⟨_, cnt_le _ _, sm_cnt _⟩
/-- the distance without the road -/
def vd0 (V : Nat → Int32) (a b : Nat) : Nat := vdn (vLay V a b (nI 0)) (8 * a + b)
theorem vd0_r (W : WFV V) (ha : a < 8) (hb : b < 8) (hab : a ≠ b) : 0 < vd0 V a b ∧ vd0 V a b ≤ 1000000 := by
  have W0 : WFV (vLay V a b (nI 0)) := WFV_lay (c := 0) W ha hb hab (by omega)
  exact ⟨vdn_pos W0 ha hb hab, (vdn_n W0 (by omega)).1⟩
theorem id_is {y : Int32} (W : WFV V) (ha : a < 8) (hb : b < 8) (hab : a ≠ b) : vId (vLay V a b y) a b = if 99 < vd0 V a b + 1 then -1 else nI (vd0 V a b + 1) := by
  have W0 : WFV (vLay V a b (nI 0)) := WFV_lay (c := 0) W ha hb hab (by omega)
  obtain ⟨h1, h2⟩ := vdn_n W0 (show 8 * a + b < 64 by omega)
  unfold vId
  rw [vLay_lay, h2, nI_add]
  unfold vd0
  by_cases l : 99 < vdn (vLay V a b (nI 0)) (8 * a + b) + 1
  · rw [if_pos l, if_pos ((nI_ltI (by omega) (by omega)).mpr l)]
  · rw [if_neg l, if_neg (fun q => l ((nI_ltI (by omega) (by omega)).mp q))]
theorem far_lay0 (W : WFV V) (ha : a < 8) (hb : b < 8) (hab : a ≠ b) (hd : vd0 V a b < 1000000) : kFar (vLay V a b (nI 0)) a b = nI (vd0 V a b) := by
  have W0 : WFV (vLay V a b (nI 0)) := WFV_lay (c := 0) W ha hb hab (by omega)
  rw [kFar_is W0 ha hb]
  exact if_pos hd
theorem far_lay (W : WFV V) (ha : a < 8) (hb : b < 8) (hab : a ≠ b) (hx : x ≤ 99) (h0 : 0 < x) : kFar (vLay V a b (nI x)) a b = nI (min x (vd0 V a b)) := by
  have W1 : WFV (vLay V a b (nI x)) := WFV_lay W ha hb hab hx
  rw [kFar_is W1 ha hb, vdn_lay W ha hb hab hx h0]
  exact if_pos (by omega)
/-- a loaf that grows cold -/
theorem snd_cold (hc : vCho (vDi V) V s a b = -1) : vSnd V s a b 171 = V 171 + nI 1 ∧ vSnd V s a b 172 = V 172 + nI 1 ∧ vSnd V s a b 173 = V 173 + nI 0 ∧ vSnd V s a b (139 + (4 * a + b)) = V (139 + (4 * a + b)) + nI 0 ∨ 32 ≤ 4 * a + b := by
  by_cases k : 4 * a + b < 32
  · left
    unfold vSnd
    rw [hc, if_pos (by decide)]
    unfold vCold
    refine ⟨?_, ?_, ?_, ?_⟩
    · rw [ad_o (by decide), ad_s]
    · rw [ad_s, ad_o (by decide)]
    · rw [ad_o (by decide), ad_o (by decide)]
      exact (Int32.add_zero _).symm
    · rw [ad_o (by omega), ad_o (by omega)]
      exact (Int32.add_zero _).symm
  · exact Or.inr (by omega)
/-- a loaf that leaves by e -/
theorem snd_take (he : e < 8) (hq : vNe V e < 4) (k : 4 * a + b < 32) (hc : vCho (vDi V) V s a b = nI e) :
    (vSnd V s a b 171 = V 171 + nI 1 ∧ vSnd V s a b 172 = V 172 + nI 0 ∧ vSnd V s a b 173 = V 173 + vDe (vDi V) V s a b ∧ vSnd V s a b (139 + (4 * a + b)) = V (139 + (4 * a + b)) + nI 1) ∧
    vNe (vSnd V s a b) e = vNe V e ∧ sm (fun j => vSnd V s a b (135 + j)) 4 = sm (fun j => V (135 + j)) 4 + nI (bN (decide (¬ vSnd V s a b (127 + vNe V e) ≤ vSnd V s a b (123 + vNe V e)))) := by
  have eU : vSnd V s a b = vTake V e a b (vNe V e) (vDe (vDi V) V s a b) := by
    unfold vSnd
    rw [hc, if_neg (nI_pos (by omega)), nI_clamp (by omega)]
  obtain ⟨q, hqe⟩ : ∃ q, q = vNe V e := ⟨_, rfl⟩
  rw [← hqe] at hq eU ⊢
  rw [eU]
  refine ⟨⟨tk_171 he k hq, ?_, tk_173 he k hq, tk_pr he k hq⟩, ?_, ?_⟩
  · rw [tk_o (by omega)]
    exact (Int32.add_zero _).symm
  · have h9 : vTake V e a b q (vDe (vDi V) V s a b) (68 + 5 * e) = V (68 + 5 * e) := tk_o (by omega)
    show (vTake V e a b q (vDe (vDi V) V s a b) (68 + 5 * e)).toNatClampNeg = q
    rw [h9, hqe]
    rfl
  · have ek : bN (decide (¬ vTake V e a b q (vDe (vDi V) V s a b) (127 + q) ≤ vTake V e a b q (vDe (vDi V) V s a b) (123 + q))) = kOv V q := by
      rw [tk_127 he k hq, tk_o (p := 123 + q) (by omega)]
      unfold kOv
      by_cases l : V (127 + q) + nI 1 ≤ V (123 + q)
      · rw [if_pos l, decide_eq_false (fun z => z l)]
        rfl
      · rw [if_neg l, decide_eq_true l]
        rfl
    rw [ek]
    exact sm_ad (f := fun j => V (135 + j)) (e := q) hq (tk_135 he k hq) (fun j hj z => tk_o (by omega))
/-! a new object -/
theorem V0_z {p : Nat} (h : p < 2 ∨ 66 ≤ p) (g : p < 123 ∨ 127 ≤ p) : V0 p = nI 0 := by
  unfold V0
  rw [if_neg (by omega), if_neg (by omega)]
theorem V0_b {p : Nat} (h : 123 ≤ p) (g : p < 127) : V0 p = nI 20 := by
  unfold V0
  rw [if_neg (by omega), if_pos ⟨h, g⟩]
theorem sN_0 {f : Nat → Nat} : ∀ {n : Nat}, (∀ j, j < n → f j = 0) → sN f n = 0
  | 0, _ => rfl
  | n + 1, h => by
    unfold sN
    rw [sN_0 (fun j hj => h j (by omega)), h n (by omega)]
theorem AC_V0 : AC 0 V0 := by
  have z : ∀ {p B : Nat}, (p < 2 ∨ 66 ≤ p) → (p < 123 ∨ 127 ≤ p) → zr V0 p B := fun h g => zr_of (by decide) (Nat.zero_le _) (V0_z h g)
  have n : ∀ {p : Nat}, (p < 2 ∨ 66 ≤ p) → (p < 123 ∨ 127 ≤ p) → nv V0 p = 0 := fun h g => nv_nI (by decide) (V0_z h g)
  refine ⟨by decide, ⟨z (by omega) (by omega), z (by omega) (by omega), z (by omega) (by omega)⟩, fun e he => ⟨z (by omega) (by omega), z (by omega) (by omega)⟩, fun k hk => z (by omega) (by omega), ⟨?_, ?_, ?_⟩, fun q hq => ⟨zr_of (n := 20) (by decide) (by decide) (V0_b (by omega) (by omega)), z (by omega) (by omega), z (by omega) (by omega), z (by omega) (by omega), ?_, ?_⟩⟩
  · rw [sN_0 (fun j hj => n (by omega) (by omega)), n (p := 172) (by omega) (by omega), n (p := 171) (by omega) (by omega)]
  · rw [sN_0 (fun j hj => n (by omega) (by omega)), n (p := 173) (by omega) (by omega)]
  · rw [sN_0 (fun j hj => n (by omega) (by omega)), n (p := 172) (by omega) (by omega), n (p := 171) (by omega) (by omega)]
  · rw [n (p := 131 + q) (by omega) (by omega)]
    exact Nat.zero_le _
  · rw [n (p := 131 + q) (by omega) (by omega)]
    exact Nat.zero_le _
theorem zS_0 {M : Nat → Nat → Nat → Int32} (R : LandR M 0 V0) (m2 : M 2 0 = fun _ => 0) (m8 : M 8 0 = fun _ => 0) (m30 : M 30 0 = fun _ => 0) : zS 0 M 0 0 V0 := by
  have z66 : V0 66 = nI 0 := V0_z (by omega) (by omega)
  exact ⟨0, fun _ => false, fun _ => V0, ⟨R.2.2.1.trans z66, by decide, by rw [m2]; rfl, by decide, by rw [m2]; rfl, by decide, by rw [m8]; rfl, by decide⟩, z66, fun p _ => by rw [m30]; rfl, ⟨R, WFV_V0, WFP_V0, AC_V0⟩, fun j hj => absurd hj (Nat.not_lt_zero _), fun p _ hk => by cases hk⟩
theorem V0_roads : vCt V0 0 0 0 = nI 7 := by
  have e : sm (fun j => zb (decide (0 < V0 (2 + j)))) 64 / nI 2 = nI 7 := by decide +kernel
  exact e
theorem V0_pairs : vCt V0 0 0 8 = nI 32 := by
  have e : ∀ k, vFs V0 0 k = -1 := fun k => by
    have z : vGd (vDi V0) V0 0 (k / 4) (k % 4) 3 = 0 := rfl
    unfold vFs vCho
    rw [if_pos z]
  show sm (fun k => zb (decide (vFs V0 0 k < 0))) 32 = nI 32
  rw [sm_cong (g := fun _ => nI 1) (fun k _ => by rw [e]; rfl)]
  decide +kernel
theorem sm_0 {f : Nat → Int32} : sm f 0 = 0 := rfl
end LF

