/-! What hangs together in a row: sums and counts. -/
section HF
variable {V : Nat → Int32} {s t h a b k : Nat}
theorem nI_sub {n c : Nat} (h : c ≤ n) : nI n - nI c = nI (n - c) := by
  refine Int32.sub_eq_iff_eq_add.mpr ?_
  rw [nI_add, show n - c + c = n by omega]
theorem hp_roads (W : WFV V) : nI 2 * vCt V s h 0 = nI (cnt (fun j => decide (0 < vc V j)) 64) := by
  have e1 : vCt V s h 0 = sm (fun j => zb (decide (0 < V (2 + j)))) 64 / nI 2 := rfl
  have e2 : sm (fun j => zb (decide (0 < V (2 + j)))) 64 = nI (cnt (fun j => decide (0 < vc V j)) 64) := by
    rw [← sm_cnt]
    refine sm_cong (fun j hj => ?_)
    obtain ⟨l, e⟩ := vc_n W hj
    congr 1
    refine decide_eq_decide.mpr ?_
    rw [e]
    exact nI_ltI (a := 0) (by omega) (by omega)
  have e3 := cnt_sym (p := fun j => decide (0 < vc V j)) (fun a b ha hb => by rw [vc_sy W ha hb]) (fun a ha => by rw [vc_0 W ha]; rfl) 8 (Nat.le_refl _)
  have e4 := cnt_64 (p := fun j => decide (0 < vc V j)) 8
  have e5 := cnt_le (fun j => decide (0 < vc V j)) 64
  rw [e1, e2, pk_div (by omega) (by decide) (by decide), pk_mul]
  congr 1
  rw [show (64 : Nat) = 8 * 8 from rfl, e4, e3]
  omega
theorem tail_0 (W : WFV V) (hs : V 66 = nI s) (h8 : s ≤ 8) (hk : s ≤ k) (k8 : k < 8) : V (70 + 5 * k) = nI 0 ∧ V (71 + 5 * k) = nI 0 := by
  obtain ⟨s', s8, e66, _, w7⟩ := W.2.2.2.2.1
  obtain rfl : s' = s := ((nI_eq (by omega) (by omega)).mp (hs.symm.trans e66)).symm
  exact w7 k hk k8
theorem sN_8 {f : Nat → Nat} (h8 : s ≤ 8) (h : ∀ k, s ≤ k → k < 8 → f k = 0) : sN f 8 = sN f s := by
  have e := sN_tail (f := fun k => if k < 8 then f k else 0) (s := s) (fun k hk => by
    split
    · exact h k hk (by assumption)
    · rfl) (8 - s)
  rw [show s + (8 - s) = 8 by omega] at e
  rw [sN_cong (g := fun k => if k < 8 then f k else 0) (fun k hk => (if_pos hk).symm), e]
  exact sN_cong (fun k hk => if_pos (by omega))
theorem hp_left (A : AC t V) (W : WFV V) (hs : V 66 = nI s) (h8 : s ≤ 8) : sm (fun e => V (70 + 5 * e)) s = nI (nv V 171 - nv V 172) ∧ V 171 - V 172 = nI (nv V 171 - nv V 172) := by
  obtain ⟨a0, ⟨a1, a2, a3⟩, a4, a5, ⟨a6, a7, a8⟩, a9⟩ := A
  refine ⟨?_, ?_⟩
  · rw [sm_cong (g := fun e => nI (nv V (70 + 5 * e))) (fun e he => (a4 e (by omega)).1.1), sm_nI]
    rw [sN_8 h8 (fun k hk k8 => nv_nI (by decide) (tail_0 W hs h8 hk k8).1)] at a6
    congr 1
    omega
  · rw [a1.1, a2.1]
    exact nI_sub (by omega)
theorem hp_pairs (A : AC t V) : sm (fun k => V (139 + k)) 32 = nI (nv V 171 - nv V 172) := by
  obtain ⟨a0, ⟨a1, a2, a3⟩, a4, a5, ⟨a6, a7, a8⟩, a9⟩ := A
  rw [sm_cong (g := fun k => nI (nv V (139 + k))) (fun k hk => (a5 k hk).1), sm_nI]
  congr 1
  omega
theorem hp_costs (A : AC t V) (W : WFV V) (hs : V 66 = nI s) (h8 : s ≤ 8) : sm (fun e => V (71 + 5 * e)) s = V 173 := by
  obtain ⟨a0, ⟨a1, a2, a3⟩, a4, a5, ⟨a6, a7, a8⟩, a9⟩ := A
  rw [sm_cong (g := fun e => nI (nv V (71 + 5 * e))) (fun e he => (a4 e (by omega)).2.1), sm_nI]
  rw [sN_8 h8 (fun k hk k8 => nv_nI (by decide) (tail_0 W hs h8 hk k8).2)] at a7
  rw [a7]
  exact a3.1.symm
theorem hp_over {x y : Nat} (hx : x ≤ 100) (hy : y ≤ 100) : ¬ nI 9999 < nI x - nI y := by
  intro q
  have e1 : (nI x).toInt = x := Int32.toInt_ofNat_of_lt (by omega)
  have e2 : (nI y).toInt = y := Int32.toInt_ofNat_of_lt (by omega)
  have e3 : (nI 9999).toInt = 9999 := Int32.toInt_ofNat_of_lt (by decide)
  rw [Int32.lt_iff_toInt_lt, Int32.toInt_sub, e1, e2, e3, Int.bmod_eq_of_le (by omega) (by omega)] at q
  omega
theorem nI_m1 {n : Nat} (h : n < 2 ^ 31) : ¬ nI n = -1 := nI_nm1 h
theorem dx_open : ∀ k, ((vDx V s k).1 = -1 ↔ cnt (fun e => decide (V (69 + 5 * e) = nI 1)) k = 0) ∧ (cnt (fun e => decide (V (69 + 5 * e) = nI 1)) k = 0 → (vDx V s k).2 = -1) ∧ (0 < cnt (fun e => decide (V (69 + 5 * e) = nI 1)) k → 0 ≤ (vDx V s k).2) ∨ 1000 < k
  | 0 => Or.inl ⟨⟨fun _ => rfl, fun _ => rfl⟩, fun _ => rfl, fun q => absurd q (Nat.lt_irrefl 0)⟩
  | k + 1 => by
    rcases dx_open k with ⟨h1, h2, h3⟩ | h
    · by_cases big : 1000 < k + 1
      · exact Or.inr big
      · left
        have e1 : cnt (fun e => decide (V (69 + 5 * e) = nI 1)) (k + 1) = cnt (fun e => decide (V (69 + 5 * e) = nI 1)) k + (if decide (V (69 + 5 * k) = nI 1) then 1 else 0) := rfl
        have e2 : vDx V s (k + 1) = if V (69 + 5 * k) = nI 1 then (if (vDx V s k).2 < vDr V s k then (nI k, vDr V s k) else vDx V s k) else vDx V s k := rfl
        by_cases o : V (69 + 5 * k) = nI 1
        · rw [decide_eq_true o, if_pos rfl] at e1
          rw [if_pos o] at e2
          obtain ⟨c, hc, ec⟩ := vDr_nn V s k
          by_cases l : (vDx V s k).2 < vDr V s k
          · rw [if_pos l] at e2
            rw [e1, e2]
            refine ⟨⟨fun q => absurd q (nI_nm1 (by omega)), fun q => by omega⟩, fun q => by omega, fun _ => ?_⟩
            show 0 ≤ vDr V s k
            rw [ec]
            exact nI_pos' (by omega)
          · rw [if_neg l] at e2
            rw [e1, e2]
            have p : 0 ≤ (vDx V s k).2 := Int32.le_trans (by rw [ec]; exact nI_pos' (by omega)) (Int32.not_lt.mp l)
            refine ⟨⟨fun q => ?_, fun q => by omega⟩, fun q => by omega, fun _ => p⟩
            have z := h2 (h1.mp q)
            rw [z] at p
            exact absurd p (by decide)
        · rw [decide_eq_false o, if_neg (by decide)] at e1
          rw [if_neg o] at e2
          rw [e1, e2]
          exact ⟨h1, h2, h3⟩
    · exact Or.inr (by omega)
theorem hp_dear (W : WFV V) (hs : V 66 = nI s) (h8 : s ≤ 8) : bN (decide ((vDx V s s).1 = -1)) = bN (decide (sm (fun e => V (69 + 5 * e)) s = 0)) := by
  congr 1
  refine decide_eq_decide.mpr ?_
  have e : sm (fun e => V (69 + 5 * e)) s = nI (cnt (fun e => decide (V (69 + 5 * e) = nI 1)) s) := by
    rw [← sm_cnt]
    refine sm_cong (fun k hk => ?_)
    rcases (vEx W hs h8 hk).2.2 with z | z
    · rw [z]; rfl
    · rw [z]; rfl
  have l := cnt_le (fun e => decide (V (69 + 5 * e) = nI 1)) s
  rw [e]
  rcases dx_open (V := V) (s := s) s with ⟨h1, _, _⟩ | q
  · rw [h1]
    constructor
    · intro q
      rw [q]
      rfl
    · intro q
      exact (nI_eq (b := 0) (by omega) (by decide)).mp q
  · omega
theorem hot_le (hab : a ≤ b) (hb : b ≤ 9999) : ¬ 0 < Op.cmpValue (FP.dcmp (kSh a b) FP.dconst1) .g := by
  have one : FP.dcmp FP.dconst1 FP.dconst1 = some .eq := by
    have e : (FP.dconst1 : UInt64) = zdv 1023 0 := zdOne
    have h := zd_cmp (E := 1023) (T := 0) (by decide) (by decide) (by decide)
    rw [← zdOne] at h
    rw [show FP.dcmp FP.dconst1 FP.dconst1 = FP.Core.dcmp FP.Core.dconst1 FP.Core.dconst1 from rfl, h]
    rfl
  unfold kSh
  by_cases h0 : b = 0
  · rw [if_pos h0, one]
    decide
  · rw [if_neg h0]
    by_cases ha : a = 0
    · subst ha
      rw [zd_zero (by omega) hb, show FP.dcmp FP.dconst0 FP.dconst1 = some .lt by decide +kernel]
      decide
    · obtain ⟨E, T, h, h1, hE, hT, h3⟩ := zd_share (a := a) (b := b) (by omega) hab hb
      rw [show FP.ddiv (FP.i2d (nI a)) (FP.i2d (nI b)) = zdv E T from h, show FP.dcmp (zdv E T) FP.dconst1 = some (compare ((E * 2 ^ 52 + T : Nat) : Int) ((1023 * 2 ^ 52 : Nat) : Int)) from zd_cmp (by omega) (by omega) hT]
      by_cases q : E = 1023
      · have := h3 q
        rw [Int.compare_eq_eq.mpr (by omega)]
        decide
      · rw [Int.compare_eq_lt.mpr (by omega)]
        decide
theorem hot_0 : Op.cmpValue (FP.dcmp (kSh 0 0) FP.dconst1) .l = 0 := by
  have h := zd_cmp (E := 1023) (T := 0) (by decide) (by decide) (by decide)
  rw [← zdOne] at h
  rw [show kSh 0 0 = FP.dconst1 from if_pos rfl, show FP.dcmp FP.dconst1 FP.dconst1 = FP.Core.dcmp FP.Core.dconst1 FP.Core.dconst1 from rfl, h]
  rfl
theorem hp_nb (A : AC t V) (ha : a < 4) : ¬ V (135 + a) < V (131 + a) ∧ ¬ V (127 + a) < V (131 + a) ∧ ¬ nI 9999 < V (127 + a) - V (123 + a) := by
  obtain ⟨b1, b2, b3, b4, b5, b6⟩ := A.2.2.2.2.2 a ha
  have t9 := A.t9
  have l2 := b2.2
  have l3 := b3.2
  have l4 := b4.2
  have l1 := b1.2
  rw [b1.1, b2.1, b3.1, b4.1]
  refine ⟨fun q => ?_, fun q => ?_, hp_over (by omega) (by omega)⟩
  · have := (nI_ltI (by omega) (by omega)).mp q
    omega
  · have := (nI_ltI (by omega) (by omega)).mp q
    omega
end HF

