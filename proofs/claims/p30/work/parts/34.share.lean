/-! The share of hot loaves: its bits, told by doublings. -/
section L9
/-- the double with these fields -/
def zdv (E T : Nat) : UInt64 := UInt64.ofNat (E * 2 ^ 52 + T)
theorem zdv_nat {E T : Nat} (hE : E ≤ 2046) (hT : T < 2 ^ 52) : (zdv E T).toNat = E * 2 ^ 52 + T := UInt64.toNat_ofNat_of_lt' (by show _ < 2 ^ 64; omega)
theorem zdv_val {E T : Nat} (h1 : 1 ≤ E) (hE : E ≤ 2046) (hT : T < 2 ^ 52) : FP.Core.val64 (zdv E T) = .fin false (2 ^ 52 + T) ((E : Int) - 1075) := by
  unfold FP.Core.val64
  rw [zdv_nat hE hT]
  have h := FP.Core.decode_assemble FP.Core.b64 false E T (by show E < 2048; omega) (by show T < 2 ^ 52; omega)
  have e1 : FP.Core.assemble FP.Core.b64 false E T = E * 2 ^ 52 + T := by
    unfold FP.Core.assemble
    show (0 * FP.Core.b64.exps + E) * 2 ^ 52 + T = _
    rw [Nat.zero_mul, Nat.zero_add]
  rw [e1] at h
  rw [h, if_neg (by show ¬ E = 2047; omega), if_neg (by omega)]
  congr 1
  show FP.Core.b64.qmin + ((E : Int) - 1) = _
  rw [FP.Core.qmin_b64]
  omega
theorem zdv_fits {E T : Nat} (h1 : 1 ≤ E) (hE : E ≤ 2046) (hT : T < 2 ^ 52) : FP.Core.fits FP.Core.b64 (.fin false (2 ^ 52 + T) ((E : Int) - 1075)) := by
  rw [← zdv_val h1 hE hT]
  exact FP.Core.val64_fits _
theorem zdv_ne {E T : Nat} (h1 : 1 ≤ E) (hE : E ≤ 2046) (hT : T < 2 ^ 52) : FP.Core.val64 (zdv E T) ≠ .nan := by
  rw [zdv_val h1 hE hT]
  intro q
  cases q
theorem pw2 {k m n : Nat} (h : k + m = n) : 2 ^ k * 2 ^ m = 2 ^ n := by rw [← h, Nat.pow_add]
theorem pw_le (P : Nat) {a b : Nat} (h : b ≤ a * 2 ^ 14) : P * b ≤ a * (P * 2 ^ 14) := by
  calc P * b ≤ P * (a * 2 ^ 14) := Nat.mul_le_mul_left _ h
    _ = a * (P * 2 ^ 14) := by ac_rfl
/-- the share of a among b -/
theorem zd_share {a b : Nat} (ha : 0 < a) (hab : a ≤ b) (hb : b ≤ 9999) : ∃ E T, FP.Core.ddiv (FP.Core.i2d (nI a)) (FP.Core.i2d (nI b)) = zdv E T ∧ 1009 ≤ E ∧ E ≤ 1023 ∧ T < 2 ^ 52 ∧ (E = 1023 → T = 0) := by
  have wa : FP.Core.Whole (a : Int) (FP.Core.val64 (FP.Core.i2d (nI a))) := by
    have := FP.Core.i2d_int (nI a)
    rw [nI_toInt (by omega)] at this
    exact this
  have wb : FP.Core.Whole (b : Int) (FP.Core.val64 (FP.Core.i2d (nI b))) := by
    have := FP.Core.i2d_int (nI b)
    rw [nI_toInt (by omega)] at this
    exact this
  obtain ⟨D, hD⟩ : ∃ D, D = FP.Core.ddiv (FP.Core.i2d (nI a)) (FP.Core.i2d (nI b)) := ⟨_, rfl⟩
  have hv : FP.Core.val64 D = FP.Core.roundRatio FP.Core.b64 false a b 0 := by
    rw [hD, FP.Core.val64_ddiv]
    cases hx : FP.Core.val64 (FP.Core.i2d (nI a)) with
    | nan => rw [hx] at wa; exact wa.elim
    | inf s => rw [hx] at wa; exact wa.elim
    | fin s c q =>
    cases hy : FP.Core.val64 (FP.Core.i2d (nI b)) with
    | nan => rw [hy] at wb; exact wb.elim
    | inf s => rw [hy] at wb; exact wb.elim
    | fin t e r =>
      rw [hx] at wa
      rw [hy] at wb
      have sa := FP.Core.whole_sign wa (by omega)
      have sb := FP.Core.whole_sign wb (by omega)
      have na := FP.Core.whole_natAbs wa
      have nb := FP.Core.whole_natAbs wb
      have zb := FP.Core.whole_zero wb
      rw [decide_eq_false (by omega)] at sa sb
      rw [Int.natAbs_natCast] at na nb
      have he : e ≠ 0 := fun q => by have := zb.mp q; omega
      unfold FP.Core.quotient
      show (if e = 0 then (if c = 0 then FP.Core.Datum.nan else FP.Core.Datum.inf (s != t)) else FP.Core.roundRatio FP.Core.b64 (s != t) c e (q - r)) = _
      rw [if_neg he, sa, sb]
      refine FP.Core.roundRatio_congr (by omega) (by omega) ?_
      have p1 := Nat.two_pow_pos (-q).toNat
      have p2 := Nat.two_pow_pos (-r).toNat
      -- c 2^q = a, e 2^r = b
      have hk : (q - r - 0).toNat + ((-q).toNat + r.toNat) = (0 - (q - r)).toNat + (q.toNat + (-r).toNat) := by omega
      refine Nat.eq_of_mul_eq_mul_right (Nat.mul_pos (Nat.two_pow_pos ((-q).toNat + r.toNat)) (Nat.two_pow_pos 0)) ?_
      calc c * b * 2 ^ (q - r - 0).toNat * (2 ^ ((-q).toNat + r.toNat) * 2 ^ 0)
          = c * b * 2 ^ ((q - r - 0).toNat + ((-q).toNat + r.toNat)) := by rw [Nat.pow_zero, Nat.mul_one, Nat.pow_add 2 (q - r - 0).toNat]; ac_rfl
        _ = (c * 2 ^ q.toNat) * (b * 2 ^ (-r).toNat) * 2 ^ (0 - (q - r)).toNat := by rw [hk]; simp only [Nat.pow_add]; ac_rfl
        _ = (a * 2 ^ (-q).toNat) * (e * 2 ^ r.toNat) * 2 ^ (0 - (q - r)).toNat := by rw [na, nb]
        _ = a * e * 2 ^ (0 - (q - r)).toNat * (2 ^ ((-q).toNat + r.toNat) * 2 ^ 0) := by rw [Nat.pow_zero, Nat.mul_one]; simp only [Nat.pow_add]; ac_rfl
  rw [← hD]
  have hn : FP.Core.decode FP.Core.b64 D.toNat = FP.Core.roundRatio FP.Core.b64 false a b 0 := hv
  have hne : FP.Core.val64 D ≠ .nan := by rw [hv]; exact FP.Core.roundRatio_ne_nan _ _ _ _ _
  have hs := FP.Core.sgn_bits hne
  rw [hv, FP.Core.sgn_roundRatio] at hs
  have hlt : ¬ 2 ^ 63 ≤ D.toNat := of_decide_eq_false hs.symm
  have e74 : (FP.Core.b64.qmin - FP.Core.b64.qmin).toNat = 0 := by rw [Int.sub_self]; rfl
  have i74 : FP.Core.inUnits a 0 FP.Core.b64.qmin = a * 2 ^ 1074 := by
    show a * 2 ^ ((0 : Int) - FP.Core.b64.qmin).toNat = _
    rw [FP.Core.qmin_b64, show ((0 : Int) - -1074).toNat = 1074 from rfl]
  have u1 : FP.Core.unitsOf FP.Core.b64 (1023 * 2 ^ 52) = 2 ^ 52 * 2 ^ (1023 - 1) := by
    have := FP.Core.unitsOf_start (f := FP.Core.b64) (K := 1023) (by decide)
    rw [FP.Core.tails_b64] at this
    exact this
  have u2 : FP.Core.unitsOf FP.Core.b64 (1009 * 2 ^ 52) = 2 ^ 52 * 2 ^ (1009 - 1) := by
    have := FP.Core.unitsOf_start (f := FP.Core.b64) (K := 1009) (by decide)
    rw [FP.Core.tails_b64] at this
    exact this
  have hle := FP.Core.mag_le FP.Core.good_b64 (m := 1023 * 2 ^ 52) (e0 := FP.Core.b64.qmin) hn (by omega) (Int.le_refl _) (by rw [FP.Core.qmin_b64]; decide) (by
    rw [i74, e74, u1, Nat.pow_zero, Nat.mul_one, pw2 (k := 52) (m := 1023 - 1) (n := 1074) rfl, Nat.mul_comm]
    exact Nat.mul_le_mul_left _ hab)
  have hge := FP.Core.mag_ge FP.Core.good_b64 (m := 1009 * 2 ^ 52) (e0 := FP.Core.b64.qmin) hn (by omega) (Int.le_refl _) (by rw [FP.Core.qmin_b64]; decide) (by rw [FP.Core.infBits_b64]; decide) (by
    rw [i74, e74, u2, Nat.pow_zero, Nat.mul_one, pw2 (k := 52) (m := 1009 - 1) (n := 1060) rfl, ← pw2 (k := 1060) (m := 14) (n := 1074) rfl]
    exact pw_le _ (by omega))
  rw [FP.Core.mag_toNat64, Nat.mod_eq_of_lt (by omega)] at hle hge
  refine ⟨D.toNat / 2 ^ 52, D.toNat % 2 ^ 52, ?_, by omega, by omega, by omega, by omega⟩
  unfold zdv
  rw [show D.toNat / 2 ^ 52 * 2 ^ 52 + D.toNat % 2 ^ 52 = D.toNat by omega]
  exact UInt64.ofNat_toNat.symm
def zdTwo : UInt64 := 4611686018427387904
theorem zdTwo_val : FP.Core.val64 zdTwo = .fin false (2 ^ 52) (-51) := by decide +kernel
theorem zd_dbl {E T : Nat} (h1 : 1 ≤ E) (hE : E ≤ 2045) (hT : T < 2 ^ 52) : FP.Core.dmul (zdv E T) zdTwo = zdv (E + 1) T := by
  have hv : FP.Core.val64 (FP.Core.dmul (zdv E T) zdTwo) = FP.Core.val64 (zdv (E + 1) T) := by
    rw [FP.Core.val64_dmul, zdv_val h1 (by omega) hT, zdTwo_val, zdv_val (E := E + 1) (by omega) (by omega) hT]
    have hf := zdv_fits (E := E + 1) (T := T) (by omega) (by omega) hT
    refine FP.Core.roundRatio_exact FP.Core.good_b64 (by decide) hf ?_
    rw [show (((E : Int) - 1075 + -51) - (((E + 1 : Nat) : Int) - 1075)).toNat = 0 by omega, show ((((E + 1 : Nat) : Int) - 1075) - ((E : Int) - 1075 + -51)).toNat = 52 by omega, Nat.pow_zero, Nat.mul_one, Nat.mul_one]
  exact FP.Core.val64_inj (by rw [hv]; exact zdv_ne (by omega) (by omega) hT) hv
theorem zdOne : FP.Core.dconst1 = zdv 1023 0 := by decide +kernel
theorem zd_cmp {E T : Nat} (h1 : 1 ≤ E) (hE : E ≤ 2046) (hT : T < 2 ^ 52) : FP.Core.dcmp (zdv E T) FP.Core.dconst1 = some (compare ((E * 2 ^ 52 + T : Nat) : Int) ((1023 * 2 ^ 52 : Nat) : Int)) := by
  have hk : ∀ m : Nat, m < 2 ^ 63 → FP.Core.key FP.Core.b64 m = (m : Int) := by
    intro m hm
    unfold FP.Core.key
    rw [FP.Core.half_b64, decide_eq_false (by omega), FP.Core.mag_of_lt (by rw [FP.Core.half_b64]; exact hm)]
    rfl
  have h := FP.Core.cmp_key FP.Core.good_b64 (FP.Core.lt_full64 (zdv E T)) (FP.Core.lt_full64 FP.Core.dconst1) (zdv_ne h1 hE hT) (by rw [zdOne]; exact zdv_ne (by decide) (by decide) (by decide))
  unfold FP.Core.dcmp
  rw [h, zdOne, zdv_nat hE hT, zdv_nat (E := 1023) (T := 0) (by decide) (by decide), hk _ (by omega), hk _ (by decide)]
theorem zd_cmp0 {E T : Nat} (h1 : 1 ≤ E) (hE : E ≤ 2046) (hT : T < 2 ^ 52) : FP.Core.dcmp (zdv E T) FP.Core.dconst0 = some .gt := by
  have hk : ∀ m : Nat, m < 2 ^ 63 → FP.Core.key FP.Core.b64 m = (m : Int) := by
    intro m hm
    unfold FP.Core.key
    rw [FP.Core.half_b64, decide_eq_false (by omega), FP.Core.mag_of_lt (by rw [FP.Core.half_b64]; exact hm)]
    rfl
  have h := FP.Core.cmp_key FP.Core.good_b64 (FP.Core.lt_full64 (zdv E T)) (FP.Core.lt_full64 FP.Core.dconst0) (zdv_ne h1 hE hT) (by rw [show FP.Core.decode FP.Core.b64 FP.Core.dconst0.toNat = FP.Core.val64 FP.Core.dconst0 from rfl, FP.Core.val64_dconst0]; intro q; cases q)
  unfold FP.Core.dcmp
  rw [h, zdv_nat hE hT, hk _ (by omega), show UInt64.toNat FP.Core.dconst0 = 0 from rfl, hk _ (by decide)]
  congr 1
  exact Int.compare_eq_gt.mpr (by omega)
theorem zd_sub {T : Nat} (hT : T < 2 ^ 52) : ∃ c q, FP.Core.val64 (FP.Core.dsub (zdv 1023 T) FP.Core.dconst1) = .fin false c q ∧ FP.Core.inUnits c q FP.Core.b64.qmin = FP.Core.inUnits T (-52) FP.Core.b64.qmin := by
  have hx : FP.Core.val64 (FP.Core.dsub (zdv 1023 T) FP.Core.dconst1) = FP.Core.round FP.Core.b64 (.fin false T (-52)) := by
    rw [FP.Core.val64_dsub, zdv_val (by decide) (by decide) hT, FP.Core.val64_dconst1]
    unfold FP.Core.negate FP.Core.exactSum FP.Core.sumUnits
    have e0 : min (((1023 : Nat) : Int) - 1075) (-52) = -52 := by decide
    simp only [e0]
    have e1 : FP.Core.inUnits (2 ^ 52 + T) (((1023 : Nat) : Int) - 1075) (-52) = 2 ^ 52 + T := by
      unfold FP.Core.inUnits
      rw [show ((((1023 : Nat) : Int) - 1075) - (-52)).toNat = 0 from rfl, Nat.pow_zero, Nat.mul_one]
    have e2 : FP.Core.inUnits (2 ^ 52) (-52) (-52) = 2 ^ 52 := by
      unfold FP.Core.inUnits
      rw [show ((-52 : Int) - (-52)).toNat = 0 from rfl, Nat.pow_zero, Nat.mul_one]
    rw [e1, e2]
    have e3 : FP.Core.signed false (2 ^ 52 + T) + FP.Core.signed (!false) (2 ^ 52) = (T : Int) := by
      unfold FP.Core.signed
      rw [if_neg (by decide), if_pos (by decide)]
      omega
    rw [e3, Int.natAbs_natCast]
    congr 2
    unfold FP.Core.sumSign
    split
    · rfl
    · exact decide_eq_false (by omega)
  obtain ⟨c, q, hr, hu⟩ := FP.Core.round_exact FP.Core.good_b64 false (c := T) (q := -52) (by show T < 2 ^ 53; omega) (by rw [FP.Core.qmin_b64]; decide) (by decide)
  rw [hr] at hx
  exact ⟨c, q, hx, hu⟩
/-- the fraction's units -/
theorem zd_frac {T : Nat} (hT : T < 2 ^ 52) : FP.Core.d2l (FP.Core.dmul (FP.Core.dsub (zdv 1023 T) FP.Core.dconst1) (FP.Core.l2d 4503599627370496)) = lN T := by
  obtain ⟨c, q, hx, hu⟩ := zd_sub hT
  have hl : FP.Core.val64 (FP.Core.l2d 4503599627370496) = .fin false (2 ^ 52) 0 := by decide +kernel
  have hw : FP.Core.Whole (T : Int) (FP.Core.exactProduct (.fin false c q) (.fin false (2 ^ 52) 0)) := by
    show FP.Core.signed (false != false) (c * 2 ^ 52 * 2 ^ (q + 0).toNat) = (T : Int) * ((2 ^ (-(q + 0)).toNat : Nat) : Int)
    unfold FP.Core.inUnits at hu
    rw [FP.Core.qmin_b64] at hu
    rw [Int.add_zero, show (false != false) = false from rfl]
    show ((c * 2 ^ 52 * 2 ^ q.toNat : Nat) : Int) = _
    rw [← Int.natCast_mul]
    congr 1
    have hu2 : c * 2 ^ (q + 1074).toNat = T * 2 ^ 1022 := by
      have := hu
      rw [show (q - -1074) = q + 1074 by omega, show ((-52 : Int) - -1074).toNat = 1022 from rfl] at this
      exact this
    by_cases hc : c = 0
    · subst hc
      have hT0 : T = 0 := by
        rw [Nat.zero_mul] at hu2
        have h3 := Nat.mul_eq_zero.mp hu2.symm
        have h4 := Nat.two_pow_pos 1022
        omega
      rw [hT0, Nat.zero_mul, Nat.zero_mul]
    · have hq1 : -1074 ≤ q := by
        have hf := FP.Core.val64_fits (FP.Core.dsub (zdv 1023 T) FP.Core.dconst1)
        rw [hx] at hf
        have := hf.2.1
        rw [FP.Core.qmin_b64] at this
        exact this
      obtain ⟨u, hu⟩ : ∃ u, u = 1022 := ⟨_, rfl⟩
      obtain ⟨v, hv⟩ : ∃ v, v = 1074 := ⟨_, rfl⟩
      rw [← hu] at hu2
      have hu3 : c * 2 ^ (q + (v : Int)).toNat = T * 2 ^ u := by
        rw [hv]; exact hu2
      refine Nat.eq_of_mul_eq_mul_right (Nat.two_pow_pos u) ?_
      calc c * 2 ^ 52 * 2 ^ q.toNat * 2 ^ u = c * 2 ^ (q.toNat + v) := by rw [show q.toNat + v = 52 + (q.toNat + u) by omega, Nat.pow_add, Nat.pow_add]; ac_rfl
        _ = c * 2 ^ ((q + (v : Int)).toNat + (-q).toNat) := by congr 2; omega
        _ = (c * 2 ^ (q + (v : Int)).toNat) * 2 ^ (-q).toNat := by rw [Nat.pow_add, Nat.mul_assoc]
        _ = T * 2 ^ (-q).toNat * 2 ^ u := by rw [hu3]; ac_rfl
  have hd : FP.Core.DInt (lN T).toInt (FP.Core.dmul (FP.Core.dsub (zdv 1023 T) FP.Core.dconst1) (FP.Core.l2d 4503599627370496)) := by
    unfold FP.Core.DInt
    rw [FP.Core.val64_dmul, hx, hl, pk_lT (by omega)]
    exact FP.Core.whole_round FP.Core.good_b64 FP.Core.wide_b64 (by rw [Int.natAbs_natCast]; show T ≤ 2 ^ 53; omega) hw
  exact FP.Core.d2l_int hd
end L9

