/-! The share and its bits, by the class. -/
theorem g_dconst1 {w : zWp} {f : zMth} {d cr pc n : Nat} {lv stk : List zAV} {σ : zSt} {r : zRes} {σ' : zSt}  (hd : decode f.2.1 pc = .ok (.dconst 1, 1)) (hn : pc + 1 = n)  (kk : zG w f d cr n (lv) (vD FP.dconst1 :: stk) σ r σ') : zG w f d cr pc (lv) (stk) σ r σ' := by
  intro p l e R s m args below meth c mc ms H locs cells slots ls X hl hP hS hB
  subst hn
  exact lv_dconst1 X.exec X.code hd (kk p l e R s m args below meth c mc ms H locs cells slots ls X hl hP hS hB)
theorem vf_of {a : UInt64} (h : FP.Core.val64 a ≠ .nan) : vf_n64 a := by
  unfold vf_n64
  rw [UInt64.le_iff_toNat_le, UInt64.toNat_and]
  show a.toNat &&& (2 ^ 63 - 1) ≤ 9218868437227405312
  rw [Nat.and_two_pow_sub_one_eq_mod]
  exact (FP.Core.ne_nan a).mp h
theorem zdv_vf {E T : Nat} (h1 : 1 ≤ E) (hE : E ≤ 2046) (hT : T < 2 ^ 52) : vf_n64 (zdv E T) := vf_of (zdv_ne h1 hE hT)
theorem zdv_64 {E T : Nat} : (zdv E T).toInt64 = lN (E * 2 ^ 52 + T) := rfl
/-- the share of none -/
theorem zd_zero {b : Nat} (h0 : 0 < b) (hb : b ≤ 9999) : FP.ddiv (FP.i2d (nI 0)) (FP.i2d (nI b)) = FP.dconst0 := by
  have wb : FP.Core.Whole (b : Int) (FP.Core.val64 (FP.Core.i2d (nI b))) := by
    have := FP.Core.i2d_int (nI b)
    rw [nI_toInt (by omega)] at this
    exact this
  have hx : FP.Core.val64 (FP.Core.i2d (nI 0)) = .fin false 0 FP.Core.b64.qmin := by decide +kernel
  have hv : FP.Core.val64 (FP.Core.ddiv (FP.Core.i2d (nI 0)) (FP.Core.i2d (nI b))) = .fin false 0 FP.Core.b64.qmin := by
    rw [FP.Core.val64_ddiv, hx]
    cases hy : FP.Core.val64 (FP.Core.i2d (nI b)) with
    | nan => rw [hy] at wb; exact wb.elim
    | inf s => rw [hy] at wb; exact wb.elim
    | fin t e r =>
      rw [hy] at wb
      have sb := FP.Core.whole_sign wb (by omega)
      have zb := FP.Core.whole_zero wb
      rw [decide_eq_false (by omega)] at sb
      have he : e ≠ 0 := fun q => by have := zb.mp q; omega
      unfold FP.Core.quotient
      show (if e = 0 then _ else FP.Core.roundRatio FP.Core.b64 (false != t) 0 e (FP.Core.b64.qmin - r)) = _
      rw [if_neg he, sb]
      rfl
  exact FP.Core.val64_inj (by rw [hv]; intro q; cases q) (by rw [hv]; exact FP.Core.val64_dconst0.symm)
section LB
variable {w : zWp} {d : Nat} {M : Nat → Nat → Nat → Int32} {O : Nat → Int64} {σ : zSt}
theorem c_bits0 : zC w mX9_bitsOfShare d [vD FP.dconst0] σ (zrJ FP.dconst0.toInt64) σ := by
  refine zC_of (cr := 0) (L0 := [vD FP.dconst0, vU, vU, vU, vU, vU, vU, vU]) rfl (by decide) (by decide) rfl (Nat.le_of_ble_eq_true rfl) rfl ?_
  refine g_dload_n (n := 1) dX9_bitsOfShare_0 rfl rfl ?_
  refine g_dconst0 (n := 2) dX9_bitsOfShare_1 rfl ?_
  refine g_dcmp (n := 3) dX9_bitsOfShare_2 rfl ?_
  refine g_if_gt (n := 6) (t := 8) dX9_bitsOfShare_3 rfl (by decide) (fun q9 => absurd q9 (by decide +kernel)) (fun _ => ?_)
  refine g_lconst (v := (nI 0).toInt64) (n := 7) dX9_bitsOfShare_6 rfl rfl ?_
  exact g_lreturn dX9_bitsOfShare_7 rfl rfl rfl
theorem c_bits {E T : Nat} (h1 : 1009 ≤ E) (hE : E ≤ 1023) (hT : T < 2 ^ 52) (h0 : E = 1023 → T = 0) : zC w mX9_bitsOfShare d [vD (zdv E T)] σ (zrJ (zdv E T).toInt64) σ := by
  have g0 : Op.cmpValue (FP.dcmp (zdv E T) 0) .g = 1 := by
    rw [show FP.dcmp (zdv E T) 0 = some .gt from zd_cmp0 (by omega) (by omega) hT]
    rfl
  refine zC_of (cr := 0) (L0 := [vD (zdv E T), vU, vU, vU, vU, vU, vU, vU]) rfl (by decide) (by decide) rfl (Nat.le_of_ble_eq_true rfl) rfl ?_
  refine g_dload_n (n := 1) dX9_bitsOfShare_0 rfl rfl ?_
  refine g_dconst0 (n := 2) dX9_bitsOfShare_1 rfl ?_
  refine g_dcmp (n := 3) dX9_bitsOfShare_2 rfl ?_
  rw [g0]
  refine g_if_gt (n := 6) (t := 8) dX9_bitsOfShare_3 rfl (by decide) (fun _ => ?_) (fun q9 => absurd (by decide) q9)
  refine g_dload_n (n := 9) dX9_bitsOfShare_8 rfl rfl ?_
  refine g_dstore2 (n := 10) dX9_bitsOfShare_9 rfl (by decide) rfl ?_
  refine g_ldc2 (n := 13) dX9_bitsOfShare_10 rfl kc_X9_418 ?_
  refine g_lstore4 (n := 15) dX9_bitsOfShare_13 rfl (by decide) rfl ?_
  refine g_iconst (n := 16) dX9_bitsOfShare_15 rfl k_ic_0 ?_
  refine g_istore6 (n := 18) dX9_bitsOfShare_16 rfl (by decide) rfl ?_
  obtain ⟨k0, hk0⟩ : ∃ k0, E + k0 = 1023 := ⟨1023 - E, by omega⟩
  refine z_loop (fun k => zG w mX9_bitsOfShare d 0 18 [vD (zdv E T), vU, vD (zdv (E + k) T), vU, vJ (lN (1023 - k)), vU, vI (nI k), vU] [] σ (zrJ (zdv E T).toInt64) σ) k0 ?_ ?_ 0 (Nat.zero_le _)
  · have hv : ∃ x : Int32, Op.cmpValue (FP.dcmp (zdv (E + k0) T) FP.dconst1) .g = x ∧ 0 ≤ x := by
      rw [show FP.dcmp (zdv (E + k0) T) FP.dconst1 = some (compare (((E + k0) * 2 ^ 52 + T : Nat) : Int) ((1023 * 2 ^ 52 : Nat) : Int)) from zd_cmp (by omega) (by omega) hT, hk0]
      by_cases hT0 : T = 0
      · subst hT0
        exact ⟨0, rfl, Int32.le_refl _⟩
      · rw [Int.compare_eq_gt.mpr (by omega)]
        exact ⟨1, rfl, by decide⟩
    obtain ⟨x, hx, hx0⟩ := hv
    refine g_iload (n := 20) dX9_bitsOfShare_18 rfl rfl ?_
    refine g_bipush (n := 22) dX9_bitsOfShare_20 rfl k_bp_64 ?_
    refine g_icmp_ge (n := 25) (t := 49) dX9_bitsOfShare_22 rfl (by decide) (fun q9 => absurd q9 (nI_ge (by omega) (by decide))) (fun _ => ?_)
    refine g_dload_n (n := 26) dX9_bitsOfShare_25 rfl rfl ?_
    refine g_dconst1 (n := 27) dX9_bitsOfShare_26 rfl ?_
    refine g_dcmp (n := 28) dX9_bitsOfShare_27 rfl ?_
    rw [hx]
    rw [hk0]
    refine g_if_ge (n := 31) (t := 49) dX9_bitsOfShare_28 rfl (by decide) (fun _ => ?_) (fun q9 => absurd hx0 q9)
    refine g_ldc2 (n := 52) dX9_bitsOfShare_49 rfl kc_X9_422 ?_
    refine g_lstore6 (n := 54) dX9_bitsOfShare_52 rfl (by decide) rfl ?_
    refine g_lload (n := 56) dX9_bitsOfShare_54 rfl rfl ?_
    refine g_lload (n := 58) dX9_bitsOfShare_56 rfl rfl ?_
    refine g_lmul (n := 59) dX9_bitsOfShare_58 rfl ?_
    have e1 : FP.d2l (FP.dmul (FP.dsub (zdv 1023 T) FP.dconst1) (FP.l2d 4503599627370496)) = lN T := zd_frac hT
    have nsub : FP.Core.val64 (FP.dsub (zdv 1023 T) FP.dconst1) ≠ .nan := (FP.Core.notNaN_iff _).mp (FP.Core.dsub_out ((FP.Core.notNaN_iff _).mpr (zdv_ne (by decide) (by decide) hT)) ⟨_, _, _, FP.Core.val64_dconst1⟩)
    have fsub : FP.Core.DFin (FP.dsub (zdv 1023 T) FP.dconst1) := by
      obtain ⟨c, q, hr, _⟩ := zd_sub hT
      exact ⟨false, c, q, hr⟩
    have nmul : FP.Core.val64 (FP.dmul (FP.dsub (zdv 1023 T) FP.dconst1) (FP.l2d 4503599627370496)) ≠ .nan := (FP.Core.notNaN_iff _).mp (FP.Core.dmul_out fsub (FP.Core.l2d_fin _))
    refine g_dload_n (n := 60) dX9_bitsOfShare_59 rfl rfl ?_
    refine g_dconst1 (n := 61) dX9_bitsOfShare_60 rfl ?_
    refine g_dsub (n := 62) dX9_bitsOfShare_61 rfl (vf_of nsub) ?_
    refine g_lload (n := 64) dX9_bitsOfShare_62 rfl rfl ?_
    refine g_l2d (n := 65) dX9_bitsOfShare_64 rfl ?_
    refine g_dmul (n := 66) dX9_bitsOfShare_65 rfl (vf_of nmul) ?_
    refine g_d2l (n := 67) dX9_bitsOfShare_66 rfl ?_
    rw [e1]
    have e2 : lN (1023 - k0) * 4503599627370496 + lN T = (zdv E T).toInt64 := by
      rw [zdv_64, show 1023 - k0 = E by omega, show (4503599627370496 : Int64) = lN (2 ^ 52) from rfl, lN_mul, lN_add]
    refine g_ladd (n := 68) dX9_bitsOfShare_67 rfl ?_
    rw [e2]
    exact g_lreturn dX9_bitsOfShare_68 rfl rfl rfl
  · intro k hk ih
    have c1 : Op.cmpValue (FP.dcmp (zdv (E + k) T) FP.dconst1) .g = -1 := by
      rw [show FP.dcmp (zdv (E + k) T) FP.dconst1 = some (compare (((E + k) * 2 ^ 52 + T : Nat) : Int) ((1023 * 2 ^ 52 : Nat) : Int)) from zd_cmp (by omega) (by omega) hT, Int.compare_eq_lt.mpr (by omega)]
      rfl
    have e1 : FP.dmul (zdv (E + k) T) 4611686018427387904 = zdv (E + (k + 1)) T := zd_dbl (by omega) (by omega) hT
    refine g_iload (n := 20) dX9_bitsOfShare_18 rfl rfl ?_
    refine g_bipush (n := 22) dX9_bitsOfShare_20 rfl k_bp_64 ?_
    refine g_icmp_ge (n := 25) (t := 49) dX9_bitsOfShare_22 rfl (by decide) (fun q9 => absurd q9 (nI_ge (by omega) (by decide))) (fun _ => ?_)
    refine g_dload_n (n := 26) dX9_bitsOfShare_25 rfl rfl ?_
    refine g_dconst1 (n := 27) dX9_bitsOfShare_26 rfl ?_
    refine g_dcmp (n := 28) dX9_bitsOfShare_27 rfl ?_
    rw [c1]
    refine g_if_ge (n := 31) (t := 49) dX9_bitsOfShare_28 rfl (by decide) (fun q9 => absurd q9 (by decide)) (fun _ => ?_)
    refine g_dload_n (n := 32) dX9_bitsOfShare_31 rfl rfl ?_
    refine g_ldc2d (n := 35) dX9_bitsOfShare_32 rfl kc_X9_420 ?_
    refine g_dmul (n := 36) dX9_bitsOfShare_35 rfl (by rw [e1]; exact zdv_vf (by omega) (by omega) hT) ?_
    rw [e1]
    refine g_dstore2 (n := 37) dX9_bitsOfShare_36 rfl (by decide) rfl ?_
    refine g_lload (n := 39) dX9_bitsOfShare_37 rfl rfl ?_
    refine g_lconst (v := (nI 1).toInt64) (n := 40) dX9_bitsOfShare_39 rfl rfl ?_
    refine g_lsub (n := 41) dX9_bitsOfShare_40 rfl ?_
    rw [show lN (1023 - k) - (nI 1).toInt64 = lN (1023 - (k + 1)) from (lN_sub (b := 1) (by omega)).trans rfl]
    refine g_lstore4 (n := 43) dX9_bitsOfShare_41 rfl (by decide) rfl ?_
    refine g_iinc6 (n := 46) dX9_bitsOfShare_43 rfl (by decide) rfl (z_inc1 _) ?_
    refine g_goto (n := 0) (t := 18) dX9_bitsOfShare_46 (by decide) ?_
    refine g_drop 7 ?_
    exact ih
def kSh (a b : Nat) : UInt64 := if b = 0 then FP.dconst1 else FP.ddiv (FP.i2d (nI a)) (FP.i2d (nI b))
theorem kSh_vf {a b : Nat} (hab : a ≤ b) (hb : b ≤ 9999) (h0 : 0 < b) : vf_n64 (FP.ddiv (FP.i2d (nI a)) (FP.i2d (nI b))) := by
  by_cases ha : a = 0
  · subst ha
    rw [zd_zero h0 hb]
    exact vf_of (by rw [show FP.Core.val64 FP.dconst0 = _ from FP.Core.val64_dconst0]; intro q; cases q)
  · obtain ⟨E, T, h, h1, hE, hT, _⟩ := zd_share (a := a) (b := b) (by omega) hab hb
    rw [show FP.ddiv (FP.i2d (nI a)) (FP.i2d (nI b)) = zdv E T from h]
    exact zdv_vf (by omega) (by omega) hT
theorem c_hotShare {b c : Nat} (hb : M 3 0 5 = nI b) (hc : M 3 0 6 = nI c) (hcb : c ≤ b) (h9 : b ≤ 9999) : zC w mX9_hotShare d [vR 9 0] (zP M O) (.inl (some (vD (kSh (b - c) b)))) (zP M O) := by
  unfold kSh
  refine zC_of (cr := 0) (L0 := [vR 9 0]) rfl (by decide) (by decide) rfl (Nat.le_of_ble_eq_true rfl) rfl ?_
  by_cases h0 : b = 0
  · rw [if_pos h0]
    refine g_aload_n (n := 1) dX9_hotShare_0 rfl rfl ?_
    refine gf_X9_10 (n := 4) dX9_hotShare_1 rfl rfl (z_lvP (by first | decide | assumption)) rfl ?_
    refine gf_X9_140 (n := 7) dX9_hotShare_4 rfl rfl (z_lvP (by first | decide | assumption)) ?_
    refine g_if_ne (n := 10) (t := 12) dX9_hotShare_7 rfl (by decide) (fun q9 => absurd (by rw [hb, h0]; rfl) q9) (fun _ => ?_)
    refine g_dconst1 (n := 11) dX9_hotShare_10 rfl ?_
    exact g_dreturn dX9_hotShare_11 rfl rfl rfl
  · rw [if_neg h0]
    refine g_aload_n (n := 1) dX9_hotShare_0 rfl rfl ?_
    refine gf_X9_10 (n := 4) dX9_hotShare_1 rfl rfl (z_lvP (by first | decide | assumption)) rfl ?_
    refine gf_X9_140 (n := 7) dX9_hotShare_4 rfl rfl (z_lvP (by first | decide | assumption)) ?_
    refine g_if_ne (n := 10) (t := 12) dX9_hotShare_7 rfl (by decide) (fun _ => ?_) (fun q9 => absurd q9 (by rw [hb]; exact nI_ne0 (by omega) (by omega)))
    refine g_aload_n (n := 13) dX9_hotShare_12 rfl rfl ?_
    refine gf_X9_10 (n := 16) dX9_hotShare_13 rfl rfl (z_lvP (by first | decide | assumption)) rfl ?_
    refine gf_X9_140 (n := 19) dX9_hotShare_16 rfl rfl (z_lvP (by first | decide | assumption)) ?_
    rw [hb]
    refine g_aload_n (n := 20) dX9_hotShare_19 rfl rfl ?_
    refine gf_X9_10 (n := 23) dX9_hotShare_20 rfl rfl (z_lvP (by first | decide | assumption)) rfl ?_
    refine gf_X9_277 (n := 26) dX9_hotShare_23 rfl rfl (z_lvP (by first | decide | assumption)) ?_
    rw [hc]
    refine g_isub (n := 27) dX9_hotShare_26 rfl ?_
    rw [pk_sub hcb]
    refine g_i2d (n := 28) dX9_hotShare_27 rfl ?_
    refine g_aload_n (n := 29) dX9_hotShare_28 rfl rfl ?_
    refine gf_X9_10 (n := 32) dX9_hotShare_29 rfl rfl (z_lvP (by first | decide | assumption)) rfl ?_
    refine gf_X9_140 (n := 35) dX9_hotShare_32 rfl rfl (z_lvP (by first | decide | assumption)) ?_
    rw [hb]
    refine g_i2d (n := 36) dX9_hotShare_35 rfl ?_
    refine g_ddiv (n := 37) dX9_hotShare_36 rfl (kSh_vf (by omega) h9 (by omega)) ?_
    exact g_dreturn dX9_hotShare_37 rfl rfl rfl
theorem c_bitsS {a b : Nat} (hab : a ≤ b) (hb : b ≤ 9999) : zC w mX9_bitsOfShare d [vD (kSh a b)] σ (zrJ (kSh a b).toInt64) σ := by
  unfold kSh
  by_cases h0 : b = 0
  · rw [if_pos h0, show FP.dconst1 = zdv 1023 0 from zdOne]
    exact c_bits (by decide) (by decide) (by decide) (fun _ => rfl)
  · rw [if_neg h0]
    by_cases ha : a = 0
    · subst ha
      rw [zd_zero (by omega) hb]
      exact c_bits0
    · obtain ⟨E, T, h, h1, hE, hT, hz⟩ := zd_share (a := a) (b := b) (by omega) hab hb
      rw [show FP.ddiv (FP.i2d (nI a)) (FP.i2d (nI b)) = zdv E T from h]
      exact c_bits h1 hE hT hz
end LB

