/-! The share and its bits, by the class. -/
theorem g_dconst1 {w : zWp} {f : zMth} {d cr pc n : Nat} {lv stk : List zAV} {σ : zSt} {r : zRes} {σ' : zSt}  (hd : decode f.2.1 pc = .ok (.dconst 1, 1)) (hn : pc + 1 = n)  (kk : zG w f d cr n (lv) (vD FP.dconst1 :: stk) σ r σ') : zG w f d cr pc (lv) (stk) σ r σ' := by
  intro p l e R s m args below meth c mc ms H locs cells slots ls X hl hP hS hB
  subst hn
  exact lv_dconst1 X.exec X.code hd (kk p l e R s m args below meth c mc ms H locs cells slots ls X hl hP hS hB)
theorem vf_of {a : UInt64} (h : FP.Core.val64 a ≠ .nan) : vf_n64 a := by
  unfold vf_n64
  rw [UInt64.le_iff_toNat_le, UInt64.toNat_and]
  show a.toNat &&& (2 ^ 63 - 1) ≤ 9218868437227405312
  rw [Nat.and_two_pow_sub_one_eq_mod]
  exact (FP.Core.ne_nan a).mp h
theorem zdv_vf {E T : Nat} (h1 : 1 ≤ E) (hE : E ≤ 2046) (hT : T < 2 ^ 52) : vf_n64 (zdv E T) := vf_of (zdv_ne h1 hE hT)
theorem zdv_64 {E T : Nat} : (zdv E T).toInt64 = lN (E * 2 ^ 52 + T) := rfl
/-- the share of none -/
theorem zd_zero {b : Nat} (h0 : 0 < b) (hb : b ≤ 9999) : FP.ddiv (FP.i2d (nI 0)) (FP.i2d (nI b)) = FP.dconst0 := by
  have wb : FP.Core.Whole (b : Int) (FP.Core.val64 (FP.Core.i2d (nI b))) := by
    have := FP.Core.i2d_int (nI b)
    rw [nI_toInt (by omega)] at this
    exact this
  have hx : FP.Core.val64 (FP.Core.i2d (nI 0)) = .fin false 0 FP.Core.b64.qmin := by decide +kernel
  have hv : FP.Core.val64 (FP.Core.ddiv (FP.Core.i2d (nI 0)) (FP.Core.i2d (nI b))) = .fin false 0 FP.Core.b64.qmin := by
    rw [FP.Core.val64_ddiv, hx]
    cases hy : FP.Core.val64 (FP.Core.i2d (nI b)) with
    | nan => rw [hy] at wb; exact wb.elim
    | inf s => rw [hy] at wb; exact wb.elim
    | fin t e r =>
      rw [hy] at wb
      have sb := FP.Core.whole_sign wb (by omega)
      have zb := FP.Core.whole_zero wb
      rw [decide_eq_false (by omega)] at sb
      have he : e ≠ 0 := fun q => by have := zb.mp q; omega
      unfold FP.Core.quotient
      show (if e = 0 then _ else FP.Core.roundRatio FP.Core.b64 (false != t) 0 e (FP.Core.b64.qmin - r)) = _
      rw [if_neg he, sb]
      rfl
  exact FP.Core.val64_inj (by rw [hv]; intro q; cases q) (by rw [hv]; exact FP.Core.val64_dconst0.symm)
section LB
variable {w : zWp} {d : Nat} {M : Nat → Nat → Nat → Int32} {O : Nat → Int64} {σ : zSt}
def kSh (a b : Nat) : UInt64 := if b = 0 then FP.dconst1 else FP.ddiv (FP.i2d (nI a)) (FP.i2d (nI b))
theorem kSh_vf {a b : Nat} (hab : a ≤ b) (hb : b ≤ 9999) (h0 : 0 < b) : vf_n64 (FP.ddiv (FP.i2d (nI a)) (FP.i2d (nI b))) := by
  by_cases ha : a = 0
  · subst ha
    rw [zd_zero h0 hb]
    exact vf_of (by rw [show FP.Core.val64 FP.dconst0 = _ from FP.Core.val64_dconst0]; intro q; cases q)
  · obtain ⟨E, T, h, h1, hE, hT, _⟩ := zd_share (a := a) (b := b) (by omega) hab hb
    rw [show FP.ddiv (FP.i2d (nI a)) (FP.i2d (nI b)) = zdv E T from h]
    exact zdv_vf (by omega) (by omega) hT
theorem c_hotShare {b c : Nat} (hb : M 3 0 5 = nI b) (hc : M 3 0 6 = nI c) (hcb : c ≤ b) (h9 : b ≤ 9999) : zC w mX9_hotShare d [vR 9 0] (zP M O) (.inl (some (vD (kSh (b - c) b)))) (zP M O) := by
  unfold kSh
  refine zC_of (cr := 0) (L0 := [vR 9 0]) rfl (by decide) (by decide) rfl (Nat.le_of_ble_eq_true rfl) rfl ?_
  by_cases h0 : b = 0
  · rw [if_pos h0]
    refine g_aload_n (n := 1) dX9_hotShare_0 rfl rfl ?_
    refine gf_X9_10 (n := 4) dX9_hotShare_1 rfl rfl (z_lvP (by first | decide | assumption)) rfl ?_
    refine gf_X9_140 (n := 7) dX9_hotShare_4 rfl rfl (z_lvP (by first | decide | assumption)) ?_
    refine g_if_ne (n := 10) (t := 12) dX9_hotShare_7 rfl (by decide) (fun q9 => absurd (by rw [hb, h0]; rfl) q9) (fun _ => ?_)
    refine g_dconst1 (n := 11) dX9_hotShare_10 rfl ?_
    exact g_dreturn dX9_hotShare_11 rfl rfl rfl
  · rw [if_neg h0]
    refine g_aload_n (n := 1) dX9_hotShare_0 rfl rfl ?_
    refine gf_X9_10 (n := 4) dX9_hotShare_1 rfl rfl (z_lvP (by first | decide | assumption)) rfl ?_
    refine gf_X9_140 (n := 7) dX9_hotShare_4 rfl rfl (z_lvP (by first | decide | assumption)) ?_
    refine g_if_ne (n := 10) (t := 12) dX9_hotShare_7 rfl (by decide) (fun _ => ?_) (fun q9 => absurd q9 (by rw [hb]; exact nI_ne0 (by omega) (by omega)))
    refine g_aload_n (n := 13) dX9_hotShare_12 rfl rfl ?_
    refine gf_X9_10 (n := 16) dX9_hotShare_13 rfl rfl (z_lvP (by first | decide | assumption)) rfl ?_
    refine gf_X9_140 (n := 19) dX9_hotShare_16 rfl rfl (z_lvP (by first | decide | assumption)) ?_
    rw [hb]
    refine g_aload_n (n := 20) dX9_hotShare_19 rfl rfl ?_
    refine gf_X9_10 (n := 23) dX9_hotShare_20 rfl rfl (z_lvP (by first | decide | assumption)) rfl ?_
    refine gf_X9_277 (n := 26) dX9_hotShare_23 rfl rfl (z_lvP (by first | decide | assumption)) ?_
    rw [hc]
    refine g_isub (n := 27) dX9_hotShare_26 rfl ?_
    rw [pk_sub hcb]
    refine g_i2d (n := 28) dX9_hotShare_27 rfl ?_
    refine g_aload_n (n := 29) dX9_hotShare_28 rfl rfl ?_
    refine gf_X9_10 (n := 32) dX9_hotShare_29 rfl rfl (z_lvP (by first | decide | assumption)) rfl ?_
    refine gf_X9_140 (n := 35) dX9_hotShare_32 rfl rfl (z_lvP (by first | decide | assumption)) ?_
    rw [hb]
    refine g_i2d (n := 36) dX9_hotShare_35 rfl ?_
    refine g_ddiv (n := 37) dX9_hotShare_36 rfl (kSh_vf (by omega) h9 (by omega)) ?_
    exact g_dreturn dX9_hotShare_37 rfl rfl rfl
end LB

