/-! The calls, each on both sides: snapshots and undo. -/
theorem mCpL_k {M : Nat → Nat → Nat → Int32} {i j k a : Nat} (h : a ≠ i ∨ 29 ≤ k ∨ k = 2 ∨ k = 8 ∨ k = 10) : mCpL M i j k a = M k a := by
  unfold mCpL mCpN mCpE mCpR
  dsimp only
  rw [u3_f (by omega), u3_f (by omega), u3_f (by omega)]
  repeat rw [u2_ne (by omega)]
  rw [u3_f (by omega)]
  repeat rw [u2_ne (by omega)]
section L29
variable {w : zWp} {M M1 M2 : Nat → Nat → Nat → Int32} {O : Nat → Int64} {s o h n : Nat} {C : Nat → Nat} {K : Nat → Bool} {V : Nat → Int32}
theorem o_keep (Zv : zInv M) (x : Int32) : zOp w mX9_keep mX10_keep [vI x] xIA xIA O M := by
  obtain ⟨s, o, h, n, C, K, Z⟩ := Zv
  have F := Z.F
  have X := Z.X
  have Y := Z.Y
  have h6 := F.h6
  by_cases px : z_ok x 2 = true
  · obtain ⟨p, hp, rfl⟩ := zok_ex (by decide) px
    have cf := c_keep (w := w) (d := 1) (M := M) (O := O) hp
    have el : z_landOf 0 p = 2 + p := if_pos rfl
    obtain ⟨M1, hM1⟩ : ∃ M1, M1 = mPut M 0 p 0 := ⟨_, rfl⟩
    have e1 : M1 = u3 (mCpL M (2 + p) 0) 30 0 p (nI 1) := by
      rw [hM1]
      unfold mPut
      rw [el]
    rw [← hM1] at cf
    have k1 : ∀ k a, a ≠ 2 + p → ¬ (k = 30 ∧ a = 0) → M1 k a = M k a := fun k a h1 h2 => by
      rw [e1, u3_f h2, mCpL_ne h1]
    have m10 : M1 10 0 = M 10 0 := k1 10 0 (by omega) (by omega)
    have m32 : M1 32 0 = M 32 0 := k1 32 0 (by omega) (by omega)
    have cg := fun {O : Nat → Int64} => r_keep (w := w) (d := 2) (M := M1) (O := O) hp
    rw [show M1 32 0 171 = M 3 0 5 by rw [m32, row_M Z]; exact Z.G.1.2.2.2.2.2.2.1.symm] at cg
    obtain ⟨M2, hM2⟩ : ∃ M2, M2 = u3 (u2 (m0 M1) 32 0 (rCp (M1 32 0) 0 (7 + p))) 33 0 p (nI 1) := ⟨_, rfl⟩
    rw [← hM2] at cg
    have k2 : ∀ k a, k ≠ 10 → k ≠ 32 → k ≠ 33 → M2 k a = M1 k a := fun k a h1 h2 h3 => by
      rw [hM2, u3_kf h3, u2_ne (by omega)]
      exact u3_kf h1
    have q10 : ∀ j, j ≠ 3 → M2 10 0 j = M 10 0 j := fun j hj => by
      rw [hM2, u3_nk (by decide), u2_ne (by omega), ← m10]
      exact u3_nj hj
    have q32 : ∀ j, M2 32 0 j = rCp (M 32 0) 0 (7 + p) j := fun j => by
      rw [hM2, u3_nk (by decide), u2_self, m32]
    have q33 : ∀ q, M2 33 0 q = if q = p then nI 1 else M 33 0 q := fun q => by
      have e33 : M1 33 0 = M 33 0 := k1 33 0 (by omega) (by omega)
      rw [hM2, ← e33]
      unfold u3
      by_cases e : q = p
      · rw [if_pos ⟨rfl, rfl, e⟩, if_pos e]
      · rw [if_neg (fun z => e z.2.2), if_neg e, u2_ne (by omega)]
        exact u3_nk (by decide)
    have q30 : ∀ q, M2 30 0 q = if q = p then nI 1 else M 30 0 q := fun q => by
      rw [k2 30 0 (by decide) (by decide) (by decide), e1]
      unfold u3
      by_cases e : q = p
      · rw [if_pos ⟨rfl, rfl, e⟩, if_pos e]
      · rw [if_neg (fun z => e z.2.2), if_neg e, mCpL_ne (by omega)]
    have kk : ∀ k a, k ≠ 10 → k ≠ 30 → k ≠ 32 → k ≠ 33 → a ≠ 2 + p → M2 k a = M k a := fun k a h1 h2 h3 h4 h5 => (k2 k a h1 h3 h4).trans (k1 k a h5 (by omega))
    have lo : ∀ a, a ≠ 2 + p → ∀ V, LandR M a V → LandR M2 a V := fun a ha => LandR_k (fun k hk => kk k a hk.2.2.1 (by have := hk.1; omega) (by have := hk.1; omega) (by have := hk.1; omega) ha)
    have lp : ∀ V, LandR M 0 V → LandR M2 (2 + p) V := fun V R => LandR_k (M := mCpL M (2 + p) 0) (fun k hk => by
      rw [k2 k _ hk.2.2.1 (by have := hk.1; omega) (by have := hk.1; omega), e1, u3_f (by have := hk.1; omega)]) V (LandR_cp R (by omega))
    refine zOp_mk0 (M1 := M1) (M2 := M2) ⟨s, o, h, n, C, fun q => if q = p then true else K q, ⟨?_, ?_, ⟨⟨?_, X.2.1, ?_⟩, ⟨?_, Y.2.1, ?_⟩⟩, fun q hq => ⟨?_, ?_⟩, ?_, fun j hj => ?_, fun q hq hk => ?_⟩⟩ ?_ cf cg
    · refine ⟨?_, F.h8, ?_, F.o6, ?_, F.h6, ?_, F.h60⟩
      · rw [kk 1 0 (by decide) (by decide) (by decide) (by decide) (by omega)]; exact F.hs
      · rw [kk 2 0 (by decide) (by decide) (by decide) (by decide) (by omega)]; exact F.ho
      · rw [kk 2 0 (by decide) (by decide) (by decide) (by decide) (by omega)]; exact F.hh
      · rw [kk 8 0 (by decide) (by decide) (by decide) (by decide) (by omega)]; exact F.hn
    · exact (q10 1 (by decide)).trans Z.hh
    · rw [kk 8 0 (by decide) (by decide) (by decide) (by decide) (by omega)]; exact X.1
    · rw [kk 31 0 (by decide) (by decide) (by decide) (by decide) (by omega)]; exact X.2.2
    · exact (q10 5 (by decide)).trans Y.1
    · rw [kk 34 0 (by decide) (by decide) (by decide) (by decide) (by omega)]; exact Y.2.2
    · show M2 30 0 q = zb (if q = p then true else K q)
      rw [q30]
      by_cases e : q = p
      · rw [if_pos e, if_pos e]; rfl
      · rw [if_neg e, if_neg e]; exact (Z.kk q hq).1
    · show M2 33 0 q = zb (if q = p then true else K q)
      rw [q33]
      by_cases e : q = p
      · rw [if_pos e, if_pos e]; rfl
      · rw [if_neg e, if_neg e]; exact (Z.kk q hq).2
    · exact gR_mv Z.G (lo 0 (by omega)) (fun j hj => by rw [q32, rCp_lo (by omega)])
    · exact gR_mv (Z.H j hj) (lo _ (by omega)) (fun i hi => by rw [q32, rCp_lo (by omega)])
    · by_cases e : q = p
      · subst e
        exact gR_mv Z.G lp (fun j hj => by rw [q32, rCp_in hj])
      · have hk2 : (if q = p then true else K q) = true := hk
        rw [if_neg e] at hk2
        exact gR_mv (Z.S q hq hk2) (lo _ (by omega)) (fun i hi => by rw [q32, rCp_lo (by omega)])
    · rw [hM2, u3_nk (by decide), u2_ne (by omega)]
      exact u3_self
  · have px' := zok_f px
    have r := fun {O : Nat → Int64} => r_keep_no (w := w) (d := 2) (M := M) (O := O) (x := x) (by rw [px', Bool.false_and])
    rw [px'] at r
    exact zOp_no1 Z (t_keep (d := 1) px') r
theorem o_goBack (Zv : zInv M) (x : Int32) : zOp w mX9_goBack mX10_goBack [vI x] xIA xIS O M := by
  obtain ⟨s, o, h, n, C, K, Z⟩ := Zv
  have F := Z.F
  have h6 := F.h6
  by_cases px : z_ok x 2 = true
  · obtain ⟨p, hp, rfl⟩ := zok_ex (by decide) px
    obtain ⟨kc, kr⟩ := Z.kk p hp
    cases hk : K p
    · rw [hk] at kc kr
      exact zOp_no2 Z (t_goBack2 (d := 1) hp kc) (r_goBack2 (d := 2) hp kr)
    · rw [hk] at kc kr
      obtain ⟨R, W, P⟩ := Z.S p hp hk
      have cf := c_goBack (w := w) (d := 1) (O := O) F hp (by rw [kc]; decide)
      obtain ⟨M1, hM1⟩ : ∃ M1, M1 = mCpL (mSave M o h 0) 0 (2 + p) := ⟨_, rfl⟩
      have Q : cS (mSave M o h 0) M1 := by
        rw [hM1]
        exact fun k i z => mCpL_k (by omega)
      have R1 : LandR M1 0 (rV M (174 * (7 + p))) := by
        rw [hM1]
        exact LandR_cp (LandR_k (fun k hk => mSave_o (by omega) (by omega) (by have := hk.1; omega)) _ R) (by omega)
      rw [← hM1] at cf
      have m32 : M1 32 0 = M 32 0 := sv32 Q
      have cg := fun {O : Nat → Int64} => r_goBack (w := w) (d := 2) (O := O) (M := M1) (h := h) (p := p) (by rw [sv10 Q]; exact Z.hh) h6 hp (by rw [Q 33 0 (by omega), mSave_0 (by decide), kr]; decide)
      rw [show M1 32 0 (174 * (7 + p) + 171) = M1 3 0 5 by rw [R1.2.2.2.2.2.2.1, m32]] at cg
      obtain ⟨i1, i2⟩ := zInv_save (S := rCp (rSave (M1 32 0) h) (7 + p) 0) Z Q (fun j hj => rCp_lo (by omega)) R1 (fun j hj => by
        have := rCp_in (S := rSave (M1 32 0) h) (f := 7 + p) (t := 0) hj
        rw [show 174 * 0 + j = j by omega] at this
        rw [this, rSave_hi (by omega), m32]) W P
      exact zOp_mk0 i1 i2 cf cg
  · have px' := zok_f px
    exact zOp_no1 (p2 := false) Z (t_goBack1 (d := 1) px') (r_goBack1 (d := 2) px')
theorem o_undo (Zv : zInv M) : zOp w mX9_undo mX10_undo [] xIS xIS O M := by
  obtain ⟨s, o, h, n, C, K, Z⟩ := Zv
  have F := Z.F
  have X := Z.X
  have Y := Z.Y
  have h6 := F.h6
  have o6 := F.o6
  cases h with
  | zero =>
    have r := fun {O : Nat → Int64} => r_undo_no (w := w) (d := 2) (M := M) (O := O) (by rw [Z.hh]; rfl)
    rw [Z.hh] at r
    exact zOp_no1 (p2 := true) Z (t_undo (d := 1) F.hh) r
  | succ h =>
    have cf := c_undo (w := w) (d := 1) (O := O) F
    have el : z_landOf 1 ((o + h) % 6) = 4 + (o + h) % 6 := if_neg (by decide)
    obtain ⟨M1, hM1⟩ : ∃ M1, M1 = mRest M o h 0 := ⟨_, rfl⟩
    have e1 : M1 = mCpL (u3 M 2 0 2 (nI h)) 0 (4 + (o + h) % 6) := by
      rw [hM1]
      unfold mRest
      rw [el]
    rw [← hM1] at cf
    obtain ⟨R, W, P⟩ := Z.H h (by omega)
    have k1 : ∀ k a, (a ≠ 0 ∨ 29 ≤ k ∨ k = 8 ∨ k = 10) → M1 k a = M k a := fun k a z => by
      rw [e1, mCpL_k (by omega), u3_f (by omega)]
    have m10 : M1 10 0 = M 10 0 := k1 10 0 (by omega)
    have m32 : M1 32 0 = M 32 0 := k1 32 0 (by omega)
    have R1 : LandR M1 0 (rV M (174 * (h + 1))) := by
      rw [e1]
      exact LandR_cp (LandR_k (fun k hk => u3_f (by omega)) _ R) (by omega)
    have cg := fun {O : Nat → Int64} => r_undo (w := w) (d := 2) (O := O) (M := M1) (h := h) (by rw [m10]; exact Z.hh) (by omega)
    obtain ⟨M2, hM2⟩ : ∃ M2, M2 = u2 (u3 (m0 M1) 10 0 1 (nI h)) 32 0 (rCp (M1 32 0) (h + 1) 0) := ⟨_, rfl⟩
    rw [← hM2] at cg
    have k2 : ∀ k a, k ≠ 10 → k ≠ 32 → M2 k a = M1 k a := fun k a h1 h2 => by
      rw [hM2, u2_ne (by omega), u3_kf h1]
      exact u3_kf h1
    have q32 : ∀ j, M2 32 0 j = rCp (M 32 0) (h + 1) 0 j := fun j => by
      rw [hM2, u2_self, m32]
    obtain ⟨s', h8, hs⟩ := WFV_66 W
    have R2 : LandR M2 0 (rV M (174 * (h + 1))) := LandR_k (fun k hk => k2 k 0 hk.2.2.1 (by have := hk.1; omega)) _ R1
    have kk : ∀ k a, k ≠ 10 → k ≠ 32 → (a ≠ 0 ∨ 29 ≤ k ∨ k = 8) → M2 k a = M k a := fun k a h1 h2 h3 => (k2 k a h1 h2).trans (k1 k a (by omega))
    have lo : ∀ a, a ≠ 0 → ∀ V, LandR M a V → LandR M2 a V := fun a ha => LandR_k (fun k hk => kk k a hk.2.2.1 (by have := hk.1; omega) (Or.inl ha))
    have m2 : ∀ j, M2 2 0 j = u3 M 2 0 2 (nI h) 2 0 j := fun j => by
      rw [k2 2 0 (by decide) (by decide), e1, mCpL_k (by omega)]
    refine zOp_mk0 (M1 := M1) (M2 := M2) ⟨s', o, h, n, C, K, ⟨?_, ?_, ⟨⟨?_, X.2.1, ?_⟩, ⟨?_, Y.2.1, ?_⟩⟩, fun q hq => ⟨?_, ?_⟩, ?_, fun j hj => ?_, fun q hq hk => ?_⟩⟩ ?_ cf cg
    · refine ⟨R2.2.2.1.trans hs, h8, ?_, F.o6, ?_, by omega, ?_, F.h60⟩
      · rw [m2, u3_nj (by decide)]; exact F.ho
      · rw [m2]; exact u3_self
      · rw [kk 8 0 (by decide) (by decide) (by omega)]; exact F.hn
    · rw [hM2, u2_ne (by omega)]
      exact u3_self
    · rw [kk 8 0 (by decide) (by decide) (by omega)]; exact X.1
    · rw [kk 31 0 (by decide) (by decide) (by omega)]; exact X.2.2
    · rw [hM2, u2_ne (by omega), u3_nj (by decide)]
      exact (u3_nj (by decide)).trans (by rw [m10]; exact Y.1)
    · rw [kk 34 0 (by decide) (by decide) (by omega)]; exact Y.2.2
    · rw [kk 30 0 (by decide) (by decide) (by omega)]; exact (Z.kk q hq).1
    · rw [kk 33 0 (by decide) (by decide) (by omega)]; exact (Z.kk q hq).2
    · refine gR_of R2 (fun j hj => ?_) W P
      show M2 32 0 (0 + j) = M 32 0 (174 * (h + 1) + j)
      have := rCp_in (S := M 32 0) (f := h + 1) (t := 0) hj
      rw [show 174 * 0 + j = 0 + j by omega] at this
      rw [q32, this]
    · exact gR_mv (Z.H j (by omega)) (lo _ (by omega)) (fun i hi => by rw [q32, rCp_lo (by omega)])
    · exact gR_mv (Z.S q hq hk) (lo _ (by omega)) (fun i hi => by rw [q32, rCp_lo (by omega)])
    · rw [hM2, u2_ne (by omega), u3_nj (by decide)]
      exact u3_self
end L29

