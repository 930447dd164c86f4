/-! Methods of the land's parts. -/
def sm (f : Nat → Int32) : Nat → Int32
  | 0 => nI 0
  | n + 1 => sm f n + f n
theorem sm_cong {f g : Nat → Int32} : ∀ {n : Nat}, (∀ j, j < n → f j = g j) → sm f n = sm g n
  | 0, _ => rfl
  | n + 1, h => by
    unfold sm
    rw [sm_cong (fun j hj => h j (by omega)), h n (by omega)]
def xcp (n : Nat) (f g : Nat → Int32) : Nat → Int32 := fun j => if j < n then f j else g j
theorem xcp_eq (n : Nat) (f g : Nat → Int32) : va_cpy f g 0 0 n = xcp n f g := by
  funext j
  unfold va_cpy xcp
  simp
section L3
variable {w : zWp} {d i j : Nat} {M : Nat → Nat → Nat → Int32} {O : Nat → Int64}
theorem c_copyRow {k k2 len : Nat} (hk : (10 < k ∧ k ≠ 29 ∧ k ≠ 38) ∧ z_tk k = 0) (hk2 : (10 < k2 ∧ k2 ≠ 29 ∧ k2 ≠ 38) ∧ z_tk k2 = 0) (hj : j < z_cnt k) (hi : i < z_cnt k2) (h1 : z_ln k j = len) (h2 : z_ln k2 i = len) : zC w mX9_copyRow (d + 1) [vR k j, vR k2 i] (zP M O) zrV (zP (u2 M k2 i (xcp len (M k j) (M k2 i))) O) := by
  refine zC_of (cr := 0) (L0 := [vR k j, vR k2 i]) rfl (by decide) (by decide) rfl (Nat.le_of_ble_eq_true rfl) rfl ?_
  refine g_aload_n (n := 1) dX9_copyRow_0 rfl rfl ?_
  refine g_iconst (n := 2) dX9_copyRow_1 rfl k_ic_0 ?_
  refine g_aload_n (n := 3) dX9_copyRow_2 rfl rfl ?_
  refine g_iconst (n := 4) dX9_copyRow_3 rfl k_ic_0 ?_
  refine g_aload_n (n := 5) dX9_copyRow_4 rfl rfl ?_
  refine g_alen (n := 6) dX9_copyRow_5 rfl hk.1.1 (z_lvP hj) ?_
  refine g_aload_n (n := 7) dX9_copyRow_6 rfl rfl ?_
  refine g_alen (n := 8) dX9_copyRow_7 rfl hk2.1.1 (z_lvP hi) ?_
  refine g_mmin (n := 11) dX9_copyRow_8 rfl km_X9_424 km_minS km_mI km_minC (by omega) (Nat.le_of_ble_eq_true rfl) ?_
  rw [h1, h2, if_neg (Int32.lt_irrefl), ← xcp_eq]
  refine g_acopy (n := 14) dX9_copyRow_11 rfl km_X9_429 km_aN km_aS km_aI (by omega) (Nat.le_of_ble_eq_true rfl) hk hk2 (z_lvP hj) (z_lvP hi) rfl h1.symm h2.symm ?_
  exact g_return dX9_copyRow_14 rfl rfl rfl
def mCpR (M : Nat → Nat → Nat → Int32) (i j : Nat) : Nat → Nat → Nat → Int32 :=
  let M1 := u2 M 27 i (xcp 64 (M 27 j) (M 27 i))
  u2 M1 28 i (xcp 64 (M1 28 j) (M1 28 i))
def mCpE (M : Nat → Nat → Nat → Int32) (i j : Nat) : Nat → Nat → Nat → Int32 :=
  let M1 := u2 M 13 i (xcp 8 (M 13 j) (M 13 i))
  let M2 := u2 M1 14 i (xcp 8 (M1 14 j) (M1 14 i))
  let M3 := u2 M2 15 i (xcp 8 (M2 15 j) (M2 15 i))
  let M4 := u2 M3 16 i (xcp 8 (M3 16 j) (M3 16 i))
  let M5 := u2 M4 17 i (xcp 8 (M4 17 j) (M4 17 i))
  u3 M5 1 i 5 (M5 1 j 5)
def mCpN (M : Nat → Nat → Nat → Int32) (i j : Nat) : Nat → Nat → Nat → Int32 :=
  let M1 := u2 M 22 i (xcp 16 (M 22 j) (M 22 i))
  let M2 := u2 M1 23 i (xcp 4 (M1 23 j) (M1 23 i))
  let M3 := u2 M2 24 i (xcp 4 (M2 24 j) (M2 24 i))
  let M4 := u2 M3 25 i (xcp 4 (M3 25 j) (M3 25 i))
  u2 M4 26 i (xcp 4 (M4 26 j) (M4 26 i))
def mCpL (M : Nat → Nat → Nat → Int32) (i j : Nat) : Nat → Nat → Nat → Int32 :=
  let M3 := mCpN (mCpE (mCpR M i j) i j) i j
  let M4 := u2 M3 18 i (xcp 2 (M3 18 j) (M3 18 i))
  let M5 := u2 M4 19 i (xcp 32 (M4 19 j) (M4 19 i))
  let M6 := u3 M5 3 i 5 (M5 3 j 5)
  let M7 := u3 M6 3 i 6 (M6 3 j 6)
  u3 M7 3 i 7 (M7 3 j 7)
theorem c_rcopy (hi : i < 10) (hj : j < 10) : zC w mX6_copyFrom (d + 2) [vR 6 i, vR 6 j] (zP M O) zrV (zP (mCpR M i j) O) := by
  refine zC_of (cr := 0) (L0 := [vR 6 i, vR 6 j]) rfl (by decide) (by decide) rfl (Nat.le_of_ble_eq_true rfl) rfl ?_
  refine g_aload_n (n := 1) dX6_copyFrom_0 rfl rfl ?_
  refine gf_X6_9 (n := 4) dX6_copyFrom_1 rfl rfl (z_lvP (by first | decide | assumption)) rfl ?_
  refine g_aload_n (n := 5) dX6_copyFrom_4 rfl rfl ?_
  refine gf_X6_9 (n := 8) dX6_copyFrom_5 rfl rfl (z_lvP (by first | decide | assumption)) rfl ?_
  refine g_cSNn (n := 11) (c_copyRow (k := 27) (k2 := 27) (len := 64) (by decide) (by decide) hj hi rfl rfl) dX6_copyFrom_8 rfl kw_X6_21 (Nat.le_of_ble_eq_true rfl) ⟨Nat.le_refl _, Nat.le_refl _⟩ ?_ rfl
  refine g_aload_n (n := 12) dX6_copyFrom_11 rfl rfl ?_
  refine gf_X6_15 (n := 15) dX6_copyFrom_12 rfl rfl (z_lvP (by first | decide | assumption)) rfl ?_
  refine g_aload_n (n := 16) dX6_copyFrom_15 rfl rfl ?_
  refine gf_X6_15 (n := 19) dX6_copyFrom_16 rfl rfl (z_lvP (by first | decide | assumption)) rfl ?_
  refine g_cSNn (n := 22) (c_copyRow (k := 28) (k2 := 28) (len := 64) (by decide) (by decide) hj hi rfl rfl) dX6_copyFrom_19 rfl kw_X6_21 (Nat.le_of_ble_eq_true rfl) ⟨Nat.le_refl _, Nat.le_refl _⟩ ?_ rfl
  exact g_return dX6_copyFrom_22 rfl rfl rfl
theorem c_xcopy (hi : i < 10) (hj : j < 10) : zC w mX1_copyFrom (d + 2) [vR 1 i, vR 1 j] (zP M O) zrV (zP (mCpE M i j) O) := by
  refine zC_of (cr := 0) (L0 := [vR 1 i, vR 1 j]) rfl (by decide) (by decide) rfl (Nat.le_of_ble_eq_true rfl) rfl ?_
  refine g_aload_n (n := 1) dX1_copyFrom_0 rfl rfl ?_
  refine gf_X1_9 (n := 4) dX1_copyFrom_1 rfl rfl (z_lvP (by first | decide | assumption)) rfl ?_
  refine g_aload_n (n := 5) dX1_copyFrom_4 rfl rfl ?_
  refine gf_X1_9 (n := 8) dX1_copyFrom_5 rfl rfl (z_lvP (by first | decide | assumption)) rfl ?_
  refine g_cSNn (n := 11) (c_copyRow (k := 13) (k2 := 13) (len := 8) (by decide) (by decide) hj hi rfl rfl) dX1_copyFrom_8 rfl kw_X1_27 (Nat.le_of_ble_eq_true rfl) ⟨Nat.le_refl _, Nat.le_refl _⟩ ?_ rfl
  refine g_aload_n (n := 12) dX1_copyFrom_11 rfl rfl ?_
  refine gf_X1_15 (n := 15) dX1_copyFrom_12 rfl rfl (z_lvP (by first | decide | assumption)) rfl ?_
  refine g_aload_n (n := 16) dX1_copyFrom_15 rfl rfl ?_
  refine gf_X1_15 (n := 19) dX1_copyFrom_16 rfl rfl (z_lvP (by first | decide | assumption)) rfl ?_
  refine g_cSNn (n := 22) (c_copyRow (k := 14) (k2 := 14) (len := 8) (by decide) (by decide) hj hi rfl rfl) dX1_copyFrom_19 rfl kw_X1_27 (Nat.le_of_ble_eq_true rfl) ⟨Nat.le_refl _, Nat.le_refl _⟩ ?_ rfl
  refine g_aload_n (n := 23) dX1_copyFrom_22 rfl rfl ?_
  refine gf_X1_18 (n := 26) dX1_copyFrom_23 rfl rfl (z_lvP (by first | decide | assumption)) rfl ?_
  refine g_aload_n (n := 27) dX1_copyFrom_26 rfl rfl ?_
  refine gf_X1_18 (n := 30) dX1_copyFrom_27 rfl rfl (z_lvP (by first | decide | assumption)) rfl ?_
  refine g_cSNn (n := 33) (c_copyRow (k := 15) (k2 := 15) (len := 8) (by decide) (by decide) hj hi rfl rfl) dX1_copyFrom_30 rfl kw_X1_27 (Nat.le_of_ble_eq_true rfl) ⟨Nat.le_refl _, Nat.le_refl _⟩ ?_ rfl
  refine g_aload_n (n := 34) dX1_copyFrom_33 rfl rfl ?_
  refine gf_X1_21 (n := 37) dX1_copyFrom_34 rfl rfl (z_lvP (by first | decide | assumption)) rfl ?_
  refine g_aload_n (n := 38) dX1_copyFrom_37 rfl rfl ?_
  refine gf_X1_21 (n := 41) dX1_copyFrom_38 rfl rfl (z_lvP (by first | decide | assumption)) rfl ?_
  refine g_cSNn (n := 44) (c_copyRow (k := 16) (k2 := 16) (len := 8) (by decide) (by decide) hj hi rfl rfl) dX1_copyFrom_41 rfl kw_X1_27 (Nat.le_of_ble_eq_true rfl) ⟨Nat.le_refl _, Nat.le_refl _⟩ ?_ rfl
  refine g_aload_n (n := 45) dX1_copyFrom_44 rfl rfl ?_
  refine gf_X1_24 (n := 48) dX1_copyFrom_45 rfl rfl (z_lvP (by first | decide | assumption)) rfl ?_
  refine g_aload_n (n := 49) dX1_copyFrom_48 rfl rfl ?_
  refine gf_X1_24 (n := 52) dX1_copyFrom_49 rfl rfl (z_lvP (by first | decide | assumption)) rfl ?_
  refine g_cSNn (n := 55) (c_copyRow (k := 17) (k2 := 17) (len := 8) (by decide) (by decide) hj hi rfl rfl) dX1_copyFrom_52 rfl kw_X1_27 (Nat.le_of_ble_eq_true rfl) ⟨Nat.le_refl _, Nat.le_refl _⟩ ?_ rfl
  refine g_aload_n (n := 56) dX1_copyFrom_55 rfl rfl ?_
  refine g_aload_n (n := 57) dX1_copyFrom_56 rfl rfl ?_
  refine gf_X1_31 (n := 60) dX1_copyFrom_57 rfl rfl (z_lvP (by first | decide | assumption)) ?_
  refine gw_X1_31 (n := 63) dX1_copyFrom_60 rfl rfl (z_lvP (by first | decide | assumption)) ?_
  exact g_return dX1_copyFrom_63 rfl rfl rfl
theorem c_ncopy (hi : i < 10) (hj : j < 10) : zC w mX5_copyFrom (d + 2) [vR 5 i, vR 5 j] (zP M O) zrV (zP (mCpN M i j) O) := by
  refine zC_of (cr := 0) (L0 := [vR 5 i, vR 5 j]) rfl (by decide) (by decide) rfl (Nat.le_of_ble_eq_true rfl) rfl ?_
  refine g_aload_n (n := 1) dX5_copyFrom_0 rfl rfl ?_
  refine gf_X5_9 (n := 4) dX5_copyFrom_1 rfl rfl (z_lvP (by first | decide | assumption)) rfl ?_
  refine g_aload_n (n := 5) dX5_copyFrom_4 rfl rfl ?_
  refine gf_X5_9 (n := 8) dX5_copyFrom_5 rfl rfl (z_lvP (by first | decide | assumption)) rfl ?_
  refine g_cSNn (n := 11) (c_copyRow (k := 22) (k2 := 22) (len := 16) (by decide) (by decide) hj hi rfl rfl) dX5_copyFrom_8 rfl kw_X5_27 (Nat.le_of_ble_eq_true rfl) ⟨Nat.le_refl _, Nat.le_refl _⟩ ?_ rfl
  refine g_aload_n (n := 12) dX5_copyFrom_11 rfl rfl ?_
  refine gf_X5_15 (n := 15) dX5_copyFrom_12 rfl rfl (z_lvP (by first | decide | assumption)) rfl ?_
  refine g_aload_n (n := 16) dX5_copyFrom_15 rfl rfl ?_
  refine gf_X5_15 (n := 19) dX5_copyFrom_16 rfl rfl (z_lvP (by first | decide | assumption)) rfl ?_
  refine g_cSNn (n := 22) (c_copyRow (k := 23) (k2 := 23) (len := 4) (by decide) (by decide) hj hi rfl rfl) dX5_copyFrom_19 rfl kw_X5_27 (Nat.le_of_ble_eq_true rfl) ⟨Nat.le_refl _, Nat.le_refl _⟩ ?_ rfl
  refine g_aload_n (n := 23) dX5_copyFrom_22 rfl rfl ?_
  refine gf_X5_18 (n := 26) dX5_copyFrom_23 rfl rfl (z_lvP (by first | decide | assumption)) rfl ?_
  refine g_aload_n (n := 27) dX5_copyFrom_26 rfl rfl ?_
  refine gf_X5_18 (n := 30) dX5_copyFrom_27 rfl rfl (z_lvP (by first | decide | assumption)) rfl ?_
  refine g_cSNn (n := 33) (c_copyRow (k := 24) (k2 := 24) (len := 4) (by decide) (by decide) hj hi rfl rfl) dX5_copyFrom_30 rfl kw_X5_27 (Nat.le_of_ble_eq_true rfl) ⟨Nat.le_refl _, Nat.le_refl _⟩ ?_ rfl
  refine g_aload_n (n := 34) dX5_copyFrom_33 rfl rfl ?_
  refine gf_X5_21 (n := 37) dX5_copyFrom_34 rfl rfl (z_lvP (by first | decide | assumption)) rfl ?_
  refine g_aload_n (n := 38) dX5_copyFrom_37 rfl rfl ?_
  refine gf_X5_21 (n := 41) dX5_copyFrom_38 rfl rfl (z_lvP (by first | decide | assumption)) rfl ?_
  refine g_cSNn (n := 44) (c_copyRow (k := 25) (k2 := 25) (len := 4) (by decide) (by decide) hj hi rfl rfl) dX5_copyFrom_41 rfl kw_X5_27 (Nat.le_of_ble_eq_true rfl) ⟨Nat.le_refl _, Nat.le_refl _⟩ ?_ rfl
  refine g_aload_n (n := 45) dX5_copyFrom_44 rfl rfl ?_
  refine gf_X5_24 (n := 48) dX5_copyFrom_45 rfl rfl (z_lvP (by first | decide | assumption)) rfl ?_
  refine g_aload_n (n := 49) dX5_copyFrom_48 rfl rfl ?_
  refine gf_X5_24 (n := 52) dX5_copyFrom_49 rfl rfl (z_lvP (by first | decide | assumption)) rfl ?_
  refine g_cSNn (n := 55) (c_copyRow (k := 26) (k2 := 26) (len := 4) (by decide) (by decide) hj hi rfl rfl) dX5_copyFrom_52 rfl kw_X5_27 (Nat.le_of_ble_eq_true rfl) ⟨Nat.le_refl _, Nat.le_refl _⟩ ?_ rfl
  exact g_return dX5_copyFrom_55 rfl rfl rfl
theorem c_lcopy (hi : i < 10) (hj : j < 10) : zC w mX3_copyFrom (d + 3) [vR 3 i, vR 3 j] (zP M O) zrV (zP (mCpL M i j) O) := by
  refine zC_of (cr := 0) (L0 := [vR 3 i, vR 3 j]) rfl (by decide) (by decide) rfl (Nat.le_of_ble_eq_true rfl) rfl ?_
  refine g_aload_n (n := 1) dX3_copyFrom_0 rfl rfl ?_
  refine gf_X3_12 (n := 4) dX3_copyFrom_1 rfl rfl (z_lvP (by first | decide | assumption)) rfl ?_
  refine g_aload_n (n := 5) dX3_copyFrom_4 rfl rfl ?_
  refine gf_X3_12 (n := 8) dX3_copyFrom_5 rfl rfl (z_lvP (by first | decide | assumption)) rfl ?_
  refine g_cVn (n := 11) (c_rcopy hi hj) dX3_copyFrom_8 rfl kw_X3_39 rfl (by decide) (z_lvP (by first | decide | assumption)) (Nat.le_of_ble_eq_true rfl) ⟨Nat.le_refl _, Nat.le_refl _⟩ ?_ rfl
  refine g_aload_n (n := 12) dX3_copyFrom_11 rfl rfl ?_
  refine gf_X3_21 (n := 15) dX3_copyFrom_12 rfl rfl (z_lvP (by first | decide | assumption)) rfl ?_
  refine g_aload_n (n := 16) dX3_copyFrom_15 rfl rfl ?_
  refine gf_X3_21 (n := 19) dX3_copyFrom_16 rfl rfl (z_lvP (by first | decide | assumption)) rfl ?_
  refine g_cVn (n := 22) (c_xcopy hi hj) dX3_copyFrom_19 rfl kw_X3_43 rfl (by decide) (z_lvP (by first | decide | assumption)) (Nat.le_of_ble_eq_true rfl) ⟨Nat.le_refl _, Nat.le_refl _⟩ ?_ rfl
  refine g_aload_n (n := 23) dX3_copyFrom_22 rfl rfl ?_
  refine gf_X3_28 (n := 26) dX3_copyFrom_23 rfl rfl (z_lvP (by first | decide | assumption)) rfl ?_
  refine g_aload_n (n := 27) dX3_copyFrom_26 rfl rfl ?_
  refine gf_X3_28 (n := 30) dX3_copyFrom_27 rfl rfl (z_lvP (by first | decide | assumption)) rfl ?_
  refine g_cVn (n := 33) (c_ncopy hi hj) dX3_copyFrom_30 rfl kw_X3_46 rfl (by decide) (z_lvP (by first | decide | assumption)) (Nat.le_of_ble_eq_true rfl) ⟨Nat.le_refl _, Nat.le_refl _⟩ ?_ rfl
  refine g_aload_n (n := 34) dX3_copyFrom_33 rfl rfl ?_
  refine gf_X3_32 (n := 37) dX3_copyFrom_34 rfl rfl (z_lvP (by first | decide | assumption)) rfl ?_
  refine g_aload_n (n := 38) dX3_copyFrom_37 rfl rfl ?_
  refine gf_X3_32 (n := 41) dX3_copyFrom_38 rfl rfl (z_lvP (by first | decide | assumption)) rfl ?_
  refine g_cSNn (n := 44) (c_copyRow (k := 18) (k2 := 18) (len := 2) (by decide) (by decide) hj hi rfl rfl) dX3_copyFrom_41 rfl kw_X3_49 (Nat.le_of_ble_eq_true rfl) ⟨Nat.le_refl _, Nat.le_refl _⟩ ?_ rfl
  refine g_aload_n (n := 45) dX3_copyFrom_44 rfl rfl ?_
  refine gf_X3_36 (n := 48) dX3_copyFrom_45 rfl rfl (z_lvP (by first | decide | assumption)) rfl ?_
  refine g_aload_n (n := 49) dX3_copyFrom_48 rfl rfl ?_
  refine gf_X3_36 (n := 52) dX3_copyFrom_49 rfl rfl (z_lvP (by first | decide | assumption)) rfl ?_
  refine g_cSNn (n := 55) (c_copyRow (k := 19) (k2 := 19) (len := 32) (by decide) (by decide) hj hi rfl rfl) dX3_copyFrom_52 rfl kw_X3_49 (Nat.le_of_ble_eq_true rfl) ⟨Nat.le_refl _, Nat.le_refl _⟩ ?_ rfl
  refine g_aload_n (n := 56) dX3_copyFrom_55 rfl rfl ?_
  refine g_aload_n (n := 57) dX3_copyFrom_56 rfl rfl ?_
  refine gf_X3_53 (n := 60) dX3_copyFrom_57 rfl rfl (z_lvP (by first | decide | assumption)) ?_
  refine gw_X3_53 (n := 63) dX3_copyFrom_60 rfl rfl (z_lvP (by first | decide | assumption)) ?_
  refine g_aload_n (n := 64) dX3_copyFrom_63 rfl rfl ?_
  refine g_aload_n (n := 65) dX3_copyFrom_64 rfl rfl ?_
  refine gf_X3_57 (n := 68) dX3_copyFrom_65 rfl rfl (z_lvP (by first | decide | assumption)) ?_
  refine gw_X3_57 (n := 71) dX3_copyFrom_68 rfl rfl (z_lvP (by first | decide | assumption)) ?_
  refine g_aload_n (n := 72) dX3_copyFrom_71 rfl rfl ?_
  refine g_aload_n (n := 73) dX3_copyFrom_72 rfl rfl ?_
  refine gf_X3_60 (n := 76) dX3_copyFrom_73 rfl rfl (z_lvP (by first | decide | assumption)) ?_
  refine gw_X3_60 (n := 79) dX3_copyFrom_76 rfl rfl (z_lvP (by first | decide | assumption)) ?_
  exact g_return dX3_copyFrom_79 rfl rfl rfl
theorem c_xopen {s : Nat} (hi : i < 10) (hs : M 1 i 5 = nI s) (h8 : s ≤ 8) : zC w mX1_openOnes (d + 2) [vR 1 i] (zP M O) (zrI (sm (fun e => zb (decide (M 15 i e = nI 1))) s)) (zP M O) := by
  refine zC_of (cr := 0) (L0 := [vR 1 i, vU, vU]) rfl (by decide) (by decide) rfl (Nat.le_of_ble_eq_true rfl) rfl ?_
  refine g_iconst (n := 1) dX1_openOnes_0 rfl k_ic_0 ?_
  refine g_istore1 (n := 2) dX1_openOnes_1 rfl (by decide) rfl ?_
  refine g_iconst (n := 3) dX1_openOnes_2 rfl k_ic_0 ?_
  refine g_istore2 (n := 4) dX1_openOnes_3 rfl (by decide) rfl ?_
  refine z_loop (fun e => zG w mX1_openOnes (d + 2) 0 4 [vR 1 i, vI (sm (fun e => zb (decide (M 15 i e = nI 1))) e), vI (nI e)] [] (zP M O) (zrI (sm (fun e => zb (decide (M 15 i e = nI 1))) s)) (zP M O)) s ?_ ?_ 0 (Nat.zero_le _)
  · refine g_iload_n (n := 5) dX1_openOnes_4 rfl rfl ?_
    refine g_aload_n (n := 6) dX1_openOnes_5 rfl rfl ?_
    refine gf_X1_31 (n := 9) dX1_openOnes_6 rfl rfl (z_lvP (by first | decide | assumption)) ?_
    refine g_icmp_ge (n := 12) (t := 34) dX1_openOnes_9 rfl (by decide) (fun _ => ?_) (fun q9 => absurd (by rw [hs]; exact Int32.le_refl _) q9)
    refine g_iload_n (n := 35) dX1_openOnes_34 rfl rfl ?_
    exact g_ireturn dX1_openOnes_35 rfl rfl rfl rfl
  · intro e he ih
    have hx : z_ok (nI e) s = true := z_ok_nI he (by omega)
    refine g_iload_n (n := 5) dX1_openOnes_4 rfl rfl ?_
    refine g_aload_n (n := 6) dX1_openOnes_5 rfl rfl ?_
    refine gf_X1_31 (n := 9) dX1_openOnes_6 rfl rfl (z_lvP (by first | decide | assumption)) ?_
    refine g_icmp_ge (n := 12) (t := 34) dX1_openOnes_9 rfl (by decide) (fun q9 => absurd q9 (by rw [hs]; exact nI_ge he (by omega))) (fun _ => ?_)
    refine g_iload_n (n := 13) dX1_openOnes_12 rfl rfl ?_
    refine g_aload_n (n := 14) dX1_openOnes_13 rfl rfl ?_
    refine g_iload_n (n := 15) dX1_openOnes_14 rfl rfl ?_
    have c1 := c_xisOpen (w := w) (d := d) (O := O) hi hs h8 (nI e)
    rw [xg_nI he (by omega)] at c1
    cases ho : decide (M 15 i e = nI 1)
    · rw [ho] at c1
      refine g_cVv (n := 18) c1 dX1_openOnes_15 rfl kw_X1_39 rfl (by decide) (z_lvP (by first | decide | assumption)) (Nat.le_of_ble_eq_true rfl) ⟨Nat.le_refl _, Nat.le_refl _⟩ ?_ rfl
      refine g_if_eq (n := 21) (t := 25) dX1_openOnes_18 rfl (by decide) (fun _ => ?_) (fun q9 => absurd rfl q9)
      refine g_iconst (n := 26) dX1_openOnes_25 rfl k_ic_0 ?_
      refine g_iadd (n := 27) dX1_openOnes_26 rfl ?_
      refine g_istore1 (n := 28) dX1_openOnes_27 rfl (by decide) rfl ?_
      refine g_iinc2 (n := 31) dX1_openOnes_28 rfl (by decide) rfl (z_inc1 _) ?_
      refine g_goto (n := 0) (t := 4) dX1_openOnes_31 (by decide) ?_
      have e1 : sm (fun e => zb (decide (M 15 i e = nI 1))) (e + 1) = sm (fun e => zb (decide (M 15 i e = nI 1))) e + nI 0 := by
        show _ + zb (decide (M 15 i e = nI 1)) = _
        rw [ho]; rfl
      rw [e1] at ih
      exact ih
    · rw [ho] at c1
      refine g_cVv (n := 18) c1 dX1_openOnes_15 rfl kw_X1_39 rfl (by decide) (z_lvP (by first | decide | assumption)) (Nat.le_of_ble_eq_true rfl) ⟨Nat.le_refl _, Nat.le_refl _⟩ ?_ rfl
      refine g_if_eq (n := 21) (t := 25) dX1_openOnes_18 rfl (by decide) (fun q9 => absurd q9 (by decide)) (fun _ => ?_)
      refine g_iconst (n := 22) dX1_openOnes_21 rfl k_ic_1 ?_
      refine g_goto (n := 0) (t := 26) dX1_openOnes_22 (by decide) ?_
      refine g_iadd (n := 27) dX1_openOnes_26 rfl ?_
      refine g_istore1 (n := 28) dX1_openOnes_27 rfl (by decide) rfl ?_
      refine g_iinc2 (n := 31) dX1_openOnes_28 rfl (by decide) rfl (z_inc1 _) ?_
      refine g_goto (n := 0) (t := 4) dX1_openOnes_31 (by decide) ?_
      have e1 : sm (fun e => zb (decide (M 15 i e = nI 1))) (e + 1) = sm (fun e => zb (decide (M 15 i e = nI 1))) e + nI 1 := by
        show _ + zb (decide (M 15 i e = nI 1)) = _
        rw [ho]; rfl
      rw [e1] at ih
      exact ih
theorem c_xadd {s : Nat} (hi : i < 10) (hs : M 1 i 5 = nI s) (h8 : s < 8) (x y : Int32) : zC w mX1_add d [vR 1 i, vI x, vI y] (zP M O) (zrI (nI s)) (zP (u3 (u3 (u3 (u3 M 13 i s x) 14 i s y) 15 i s (nI 1)) 1 i 5 (nI (s + 1))) O) := by
  refine zC_of (cr := 0) (L0 := [vR 1 i, vI x, vI y, vU]) rfl (by decide) (by decide) rfl (Nat.le_of_ble_eq_true rfl) rfl ?_
  refine g_aload_n (n := 1) dX1_add_0 rfl rfl ?_
  refine gf_X1_31 (n := 4) dX1_add_1 rfl rfl (z_lvP (by first | decide | assumption)) ?_
  rw [hs]
  refine g_istore3 (n := 5) dX1_add_4 rfl (by decide) rfl ?_
  refine g_iload_n (n := 6) dX1_add_5 rfl rfl ?_
  refine g_if_lt (n := 9) (t := 15) dX1_add_6 rfl (by decide) (fun q9 => absurd q9 (nI_pos (by omega))) (fun _ => ?_)
  refine g_iload_n (n := 10) dX1_add_9 rfl rfl ?_
  refine g_bipush (n := 12) dX1_add_10 rfl k_bp_8 ?_
  refine g_icmp_lt (n := 15) (t := 17) dX1_add_12 rfl (by decide) (fun _ => ?_) (fun q9 => absurd (nI_lt h8 (by decide)) q9)
  refine g_aload_n (n := 18) dX1_add_17 rfl rfl ?_
  refine gf_X1_9 (n := 21) dX1_add_18 rfl rfl (z_lvP (by first | decide | assumption)) rfl ?_
  refine g_iload_n (n := 22) dX1_add_21 rfl rfl ?_
  refine g_iload_n (n := 23) dX1_add_22 rfl rfl ?_
  refine g_iast (n := 24) dX1_add_23 rfl (by decide) (z_lvP (by first | decide | assumption)) rfl (by show _ < 8; first | assumption | omega) ?_
  refine g_aload_n (n := 25) dX1_add_24 rfl rfl ?_
  refine gf_X1_15 (n := 28) dX1_add_25 rfl rfl (z_lvP (by first | decide | assumption)) rfl ?_
  refine g_iload_n (n := 29) dX1_add_28 rfl rfl ?_
  refine g_iload_n (n := 30) dX1_add_29 rfl rfl ?_
  refine g_iast (n := 31) dX1_add_30 rfl (by decide) (z_lvP (by first | decide | assumption)) rfl (by show _ < 8; first | assumption | omega) ?_
  refine g_aload_n (n := 32) dX1_add_31 rfl rfl ?_
  refine gf_X1_18 (n := 35) dX1_add_32 rfl rfl (z_lvP (by first | decide | assumption)) rfl ?_
  refine g_iload_n (n := 36) dX1_add_35 rfl rfl ?_
  refine g_iconst (n := 37) dX1_add_36 rfl k_ic_1 ?_
  refine g_iast (n := 38) dX1_add_37 rfl (by decide) (z_lvP (by first | decide | assumption)) rfl (by show _ < 8; first | assumption | omega) ?_
  refine g_aload_n (n := 39) dX1_add_38 rfl rfl ?_
  refine g_iload_n (n := 40) dX1_add_39 rfl rfl ?_
  refine g_iconst (n := 41) dX1_add_40 rfl k_ic_1 ?_
  refine g_iadd (n := 42) dX1_add_41 rfl ?_
  rw [nI_add]
  refine gw_X1_31 (n := 45) dX1_add_42 rfl rfl (z_lvP (by first | decide | assumption)) ?_
  refine g_iload_n (n := 46) dX1_add_45 rfl rfl ?_
  exact g_ireturn dX1_add_46 rfl rfl rfl rfl
theorem c_xflip {s : Nat} (hi : i < 10) (hs : M 1 i 5 = nI s) (h8 : s ≤ 8) {e : Nat} (he : e < s) : zC w mX1_flip (d + 1) [vR 1 i, vI (nI e)] (zP M O) zrV (zP (u3 M 15 i e (nI 1 - M 15 i e)) O) := by
  refine zC_of (cr := 0) (L0 := [vR 1 i, vI (nI e)]) rfl (by decide) (by decide) rfl (Nat.le_of_ble_eq_true rfl) rfl ?_
  have hx : z_ok (nI e) s = true := z_ok_nI he (by omega)
  refine g_aload_n (n := 1) dX1_flip_0 rfl rfl ?_
  refine g_iload_n (n := 2) dX1_flip_1 rfl rfl ?_
  refine g_cVv (n := 5) (c_has hi hs h8 (nI e)) dX1_flip_2 rfl kw_X1_35 rfl (by decide) (z_lvP (by first | decide | assumption)) (Nat.le_of_ble_eq_true rfl) ⟨Nat.le_refl _, Nat.le_refl _⟩ ?_ rfl
  refine g_if_eq (n := 8) (t := 22) dX1_flip_5 rfl (by decide) (fun q9 => absurd q9 (by rw [hx]; decide)) (fun _ => ?_)
  refine g_aload_n (n := 9) dX1_flip_8 rfl rfl ?_
  refine gf_X1_18 (n := 12) dX1_flip_9 rfl rfl (z_lvP (by first | decide | assumption)) rfl ?_
  refine g_iload_n (n := 13) dX1_flip_12 rfl rfl ?_
  refine g_iconst (n := 14) dX1_flip_13 rfl k_ic_1 ?_
  refine g_aload_n (n := 15) dX1_flip_14 rfl rfl ?_
  refine gf_X1_18 (n := 18) dX1_flip_15 rfl rfl (z_lvP (by first | decide | assumption)) rfl ?_
  refine g_iload_n (n := 19) dX1_flip_18 rfl rfl ?_
  refine g_iald (n := 20) dX1_flip_19 rfl (by decide) (z_lvP (by first | decide | assumption)) rfl (by show _ < 8; first | assumption | omega) ?_
  refine g_isub (n := 21) dX1_flip_20 rfl ?_
  refine g_iast (n := 22) dX1_flip_21 rfl (by decide) (z_lvP (by first | decide | assumption)) rfl (by show _ < 8; first | assumption | omega) ?_
  exact g_return dX1_flip_22 rfl rfl rfl
theorem c_xflipN {s : Nat} (hi : i < 10) (hs : M 1 i 5 = nI s) (h8 : s ≤ 8) {x : Int32} (hx : z_ok x s = false) : zC w mX1_flip (d + 1) [vR 1 i, vI x] (zP M O) zrV (zP M O) := by
  refine zC_of (cr := 0) (L0 := [vR 1 i, vI x]) rfl (by decide) (by decide) rfl (Nat.le_of_ble_eq_true rfl) rfl ?_
  refine g_aload_n (n := 1) dX1_flip_0 rfl rfl ?_
  refine g_iload_n (n := 2) dX1_flip_1 rfl rfl ?_
  refine g_cVv (n := 5) (c_has hi hs h8 x) dX1_flip_2 rfl kw_X1_35 rfl (by decide) (z_lvP (by first | decide | assumption)) (Nat.le_of_ble_eq_true rfl) ⟨Nat.le_refl _, Nat.le_refl _⟩ ?_ rfl
  refine g_if_eq (n := 8) (t := 22) dX1_flip_5 rfl (by decide) (fun _ => ?_) (fun q9 => absurd (by rw [hx]; rfl) q9)
  exact g_return dX1_flip_22 rfl rfl rfl
theorem c_xtake {s : Nat} (hi : i < 10) (hs : M 1 i 5 = nI s) (h8 : s ≤ 8) {e : Nat} (he : e < s) (x : Int32) : zC w mX1_takeLoaf (d + 1) [vR 1 i, vI (nI e), vI x] (zP M O) zrV (zP (u3 (u3 M 16 i e (M 16 i e + nI 1)) 17 i e (M 17 i e + x)) O) := by
  refine zC_of (cr := 0) (L0 := [vR 1 i, vI (nI e), vI x]) rfl (by decide) (by decide) rfl (Nat.le_of_ble_eq_true rfl) rfl ?_
  have hx : z_ok (nI e) s = true := z_ok_nI he (by omega)
  refine g_aload_n (n := 1) dX1_takeLoaf_0 rfl rfl ?_
  refine g_iload_n (n := 2) dX1_takeLoaf_1 rfl rfl ?_
  refine g_cVv (n := 5) (c_has hi hs h8 (nI e)) dX1_takeLoaf_2 rfl kw_X1_35 rfl (by decide) (z_lvP (by first | decide | assumption)) (Nat.le_of_ble_eq_true rfl) ⟨Nat.le_refl _, Nat.le_refl _⟩ ?_ rfl
  refine g_if_eq (n := 8) (t := 28) dX1_takeLoaf_5 rfl (by decide) (fun q9 => absurd q9 (by rw [hx]; decide)) (fun _ => ?_)
  refine g_aload_n (n := 9) dX1_takeLoaf_8 rfl rfl ?_
  refine gf_X1_21 (n := 12) dX1_takeLoaf_9 rfl rfl (z_lvP (by first | decide | assumption)) rfl ?_
  refine g_iload_n (n := 13) dX1_takeLoaf_12 rfl rfl ?_
  refine g_dup2 (n := 14) dX1_takeLoaf_13 rfl rfl rfl ?_
  refine g_iald (n := 15) dX1_takeLoaf_14 rfl (by decide) (z_lvP (by first | decide | assumption)) rfl (by show _ < 8; first | assumption | omega) ?_
  refine g_iconst (n := 16) dX1_takeLoaf_15 rfl k_ic_1 ?_
  refine g_iadd (n := 17) dX1_takeLoaf_16 rfl ?_
  refine g_iast (n := 18) dX1_takeLoaf_17 rfl (by decide) (z_lvP (by first | decide | assumption)) rfl (by show _ < 8; first | assumption | omega) ?_
  refine g_aload_n (n := 19) dX1_takeLoaf_18 rfl rfl ?_
  refine gf_X1_24 (n := 22) dX1_takeLoaf_19 rfl rfl (z_lvP (by first | decide | assumption)) rfl ?_
  refine g_iload_n (n := 23) dX1_takeLoaf_22 rfl rfl ?_
  refine g_dup2 (n := 24) dX1_takeLoaf_23 rfl rfl rfl ?_
  refine g_iald (n := 25) dX1_takeLoaf_24 rfl (by decide) (z_lvP (by first | decide | assumption)) rfl (by show _ < 8; first | assumption | omega) ?_
  refine g_iload_n (n := 26) dX1_takeLoaf_25 rfl rfl ?_
  refine g_iadd (n := 27) dX1_takeLoaf_26 rfl ?_
  refine g_iast (n := 28) dX1_takeLoaf_27 rfl (by decide) (z_lvP (by first | decide | assumption)) rfl (by show _ < 8; first | assumption | omega) ?_
  exact g_return dX1_takeLoaf_28 rfl rfl rfl
theorem c_nways (hi : i < 10) : zC w mX5_ways d [vR 5 i] (zP M O) (zrI (sm (fun j => zb (decide (0 < M 22 i j))) 16)) (zP M O) := by
  refine zC_of (cr := 0) (L0 := [vR 5 i, vU, vU]) rfl (by decide) (by decide) rfl (Nat.le_of_ble_eq_true rfl) rfl ?_
  refine g_iconst (n := 1) dX5_ways_0 rfl k_ic_0 ?_
  refine g_istore1 (n := 2) dX5_ways_1 rfl (by decide) rfl ?_
  refine g_iconst (n := 3) dX5_ways_2 rfl k_ic_0 ?_
  refine g_istore2 (n := 4) dX5_ways_3 rfl (by decide) rfl ?_
  refine z_loop (fun e => zG w mX5_ways d 0 4 [vR 5 i, vI (sm (fun j => zb (decide (0 < M 22 i j))) e), vI (nI e)] [] (zP M O) (zrI (sm (fun j => zb (decide (0 < M 22 i j))) 16)) (zP M O)) 16 ?_ ?_ 0 (Nat.zero_le _)
  · refine g_iload_n (n := 5) dX5_ways_4 rfl rfl ?_
    refine g_aload_n (n := 6) dX5_ways_5 rfl rfl ?_
    refine gf_X5_9 (n := 9) dX5_ways_6 rfl rfl (z_lvP (by first | decide | assumption)) rfl ?_
    refine g_alen (n := 10) dX5_ways_9 rfl (by decide) (z_lvP (by first | decide | assumption)) ?_
    refine g_icmp_ge (n := 13) (t := 36) dX5_ways_10 rfl (by decide) (fun _ => ?_) (fun q9 => absurd (Int32.le_refl _) q9)
    refine g_iload_n (n := 37) dX5_ways_36 rfl rfl ?_
    exact g_ireturn dX5_ways_37 rfl rfl rfl rfl
  · intro e he ih
    have e1 : sm (fun j => zb (decide (0 < M 22 i j))) (e + 1) = sm (fun j => zb (decide (0 < M 22 i j))) e + zb (decide (0 < M 22 i e)) := rfl
    rw [e1] at ih
    refine g_iload_n (n := 5) dX5_ways_4 rfl rfl ?_
    refine g_aload_n (n := 6) dX5_ways_5 rfl rfl ?_
    refine gf_X5_9 (n := 9) dX5_ways_6 rfl rfl (z_lvP (by first | decide | assumption)) rfl ?_
    refine g_alen (n := 10) dX5_ways_9 rfl (by decide) (z_lvP (by first | decide | assumption)) ?_
    refine g_icmp_ge (n := 13) (t := 36) dX5_ways_10 rfl (by decide) (fun q9 => absurd q9 (nI_ge (b := 16) he (by decide))) (fun _ => ?_)
    refine g_iload_n (n := 14) dX5_ways_13 rfl rfl ?_
    refine g_aload_n (n := 15) dX5_ways_14 rfl rfl ?_
    refine gf_X5_9 (n := 18) dX5_ways_15 rfl rfl (z_lvP (by first | decide | assumption)) rfl ?_
    refine g_iload_n (n := 19) dX5_ways_18 rfl rfl ?_
    refine g_iald (n := 20) dX5_ways_19 rfl (by decide) (z_lvP (by first | decide | assumption)) rfl (by show _ < 16; first | assumption | omega) ?_
    refine g_if_le (n := 23) (t := 27) dX5_ways_20 rfl (by decide) (fun c20 => ?_) (fun c20 => ?_)
    · rw [decide_eq_false (Int32.not_lt.mpr c20)] at ih
      refine g_iconst (n := 28) dX5_ways_27 rfl k_ic_0 ?_
      refine g_iadd (n := 29) dX5_ways_28 rfl ?_
      refine g_istore1 (n := 30) dX5_ways_29 rfl (by decide) rfl ?_
      refine g_iinc2 (n := 33) dX5_ways_30 rfl (by decide) rfl (z_inc1 _) ?_
      refine g_goto (n := 0) (t := 4) dX5_ways_33 (by decide) ?_
      exact ih
    · rw [decide_eq_true (Int32.not_le.mp c20)] at ih
      refine g_iconst (n := 24) dX5_ways_23 rfl k_ic_1 ?_
      refine g_goto (n := 0) (t := 28) dX5_ways_24 (by decide) ?_
      refine g_iadd (n := 29) dX5_ways_28 rfl ?_
      refine g_istore1 (n := 30) dX5_ways_29 rfl (by decide) rfl ?_
      refine g_iinc2 (n := 33) dX5_ways_30 rfl (by decide) rfl (z_inc1 _) ?_
      refine g_goto (n := 0) (t := 4) dX5_ways_33 (by decide) ?_
      exact ih
theorem c_nall (hi : i < 10) : zC w mX5_allComplaints d [vR 5 i] (zP M O) (zrI (sm (M 26 i) 4)) (zP M O) := by
  refine zC_of (cr := 0) (L0 := [vR 5 i, vU, vU]) rfl (by decide) (by decide) rfl (Nat.le_of_ble_eq_true rfl) rfl ?_
  refine g_iconst (n := 1) dX5_allComplaints_0 rfl k_ic_0 ?_
  refine g_istore1 (n := 2) dX5_allComplaints_1 rfl (by decide) rfl ?_
  refine g_iconst (n := 3) dX5_allComplaints_2 rfl k_ic_0 ?_
  refine g_istore2 (n := 4) dX5_allComplaints_3 rfl (by decide) rfl ?_
  refine z_loop (fun e => zG w mX5_allComplaints d 0 4 [vR 5 i, vI (sm (M 26 i) e), vI (nI e)] [] (zP M O) (zrI (sm (M 26 i) 4)) (zP M O)) 4 ?_ ?_ 0 (Nat.zero_le _)
  · refine g_iload_n (n := 5) dX5_allComplaints_4 rfl rfl ?_
    refine g_iconst (n := 6) dX5_allComplaints_5 rfl k_ic_4 ?_
    refine g_icmp_ge (n := 9) (t := 24) dX5_allComplaints_6 rfl (by decide) (fun _ => ?_) (fun q9 => absurd (Int32.le_refl _) q9)
    refine g_iload_n (n := 25) dX5_allComplaints_24 rfl rfl ?_
    exact g_ireturn dX5_allComplaints_25 rfl rfl rfl rfl
  · intro e he ih
    refine g_iload_n (n := 5) dX5_allComplaints_4 rfl rfl ?_
    refine g_iconst (n := 6) dX5_allComplaints_5 rfl k_ic_4 ?_
    refine g_icmp_ge (n := 9) (t := 24) dX5_allComplaints_6 rfl (by decide) (fun q9 => absurd q9 (nI_ge he (by decide))) (fun _ => ?_)
    refine g_iload_n (n := 10) dX5_allComplaints_9 rfl rfl ?_
    refine g_aload_n (n := 11) dX5_allComplaints_10 rfl rfl ?_
    refine gf_X5_24 (n := 14) dX5_allComplaints_11 rfl rfl (z_lvP (by first | decide | assumption)) rfl ?_
    refine g_iload_n (n := 15) dX5_allComplaints_14 rfl rfl ?_
    refine g_iald (n := 16) dX5_allComplaints_15 rfl (by decide) (z_lvP (by first | decide | assumption)) rfl (by show _ < 4; first | assumption | omega) ?_
    refine g_iadd (n := 17) dX5_allComplaints_16 rfl ?_
    refine g_istore1 (n := 18) dX5_allComplaints_17 rfl (by decide) rfl ?_
    refine g_iinc2 (n := 21) dX5_allComplaints_18 rfl (by decide) rfl (z_inc1 _) ?_
    refine g_goto (n := 0) (t := 4) dX5_allComplaints_21 (by decide) ?_
    exact ih
theorem c_nchLen (hi : i < 10) {a b : Nat} (ha : a < 4) (hb : b < 4) (x : Int32) : zC w mX5_changeLength (d + 2) [vR 5 i, vI (nI a), vI (nI b), vI x] (zP M O) (zrI (M 22 i (4 * a + b))) (zP (u3 M 22 i (4 * a + b) x) O) := by
  refine zC_of (cr := 0) (L0 := [vR 5 i, vI (nI a), vI (nI b), vI x, vU]) rfl (by decide) (by decide) rfl (Nat.le_of_ble_eq_true rfl) rfl ?_
  have c1 := c_nlength (w := w) (d := d) (M := M) (O := O) hi (nI a) (nI b)
  rw [xg2_nI ha (by decide) hb (by decide)] at c1
  refine g_aload_n (n := 1) dX5_changeLength_0 rfl rfl ?_
  refine g_iload_n (n := 2) dX5_changeLength_1 rfl rfl ?_
  refine g_iload_n (n := 3) dX5_changeLength_2 rfl rfl ?_
  refine g_cVv (n := 6) c1 dX5_changeLength_3 rfl kw_X5_38 rfl (by decide) (z_lvP (by first | decide | assumption)) (Nat.le_of_ble_eq_true rfl) ⟨Nat.le_refl _, Nat.le_refl _⟩ ?_ rfl
  refine g_istore4 (n := 8) dX5_changeLength_6 rfl (by decide) rfl ?_
  refine g_iload_n (n := 9) dX5_changeLength_8 rfl rfl ?_
  refine g_cSNv (n := 12) (c_isNeighbour (nI a)) dX5_changeLength_9 rfl kw_X5_31 (Nat.le_of_ble_eq_true rfl) ⟨Nat.le_refl _, Nat.le_refl _⟩ ?_ rfl
  refine g_if_eq (n := 15) (t := 33) dX5_changeLength_12 rfl (by decide) (fun q9 => absurd q9 (by rw [z_ok_nI ha (by decide)]; decide)) (fun _ => ?_)
  refine g_iload_n (n := 16) dX5_changeLength_15 rfl rfl ?_
  refine g_cSNv (n := 19) (c_isHouse (nI b)) dX5_changeLength_16 rfl kw_X5_35 (Nat.le_of_ble_eq_true rfl) ⟨Nat.le_refl _, Nat.le_refl _⟩ ?_ rfl
  refine g_if_eq (n := 22) (t := 33) dX5_changeLength_19 rfl (by decide) (fun q9 => absurd q9 (by rw [z_ok_nI hb (by decide)]; decide)) (fun _ => ?_)
  refine g_aload_n (n := 23) dX5_changeLength_22 rfl rfl ?_
  refine gf_X5_9 (n := 26) dX5_changeLength_23 rfl rfl (z_lvP (by first | decide | assumption)) rfl ?_
  refine g_iload_n (n := 27) dX5_changeLength_26 rfl rfl ?_
  refine g_iconst (n := 28) dX5_changeLength_27 rfl k_ic_4 ?_
  refine g_imul (n := 29) dX5_changeLength_28 rfl ?_
  refine g_iload_n (n := 30) dX5_changeLength_29 rfl rfl ?_
  refine g_iadd (n := 31) dX5_changeLength_30 rfl ?_
  refine g_iload_n (n := 32) dX5_changeLength_31 rfl rfl ?_
  refine g_iast (a := (4 * a + b)) (n := 33) dX5_changeLength_32 rfl (by decide) (z_lvP (by first | decide | assumption)) (by rw [pk_mul, nI_add, Nat.mul_comm]) (by show _ < 16; first | assumption | omega) ?_
  refine g_iload (n := 35) dX5_changeLength_33 rfl rfl ?_
  exact g_ireturn dX5_changeLength_35 rfl rfl rfl rfl
theorem c_nchBound (hi : i < 10) {a : Nat} (ha : a < 4) (x : Int32) : zC w mX5_changeBound (d + 2) [vR 5 i, vI (nI a), vI x] (zP M O) (zrI (M 23 i a)) (zP (u3 M 23 i a x) O) := by
  refine zC_of (cr := 0) (L0 := [vR 5 i, vI (nI a), vI x, vU]) rfl (by decide) (by decide) rfl (Nat.le_of_ble_eq_true rfl) rfl ?_
  have c1 := c_nboundOf (w := w) (d := d) (M := M) (O := O) hi (nI a)
  rw [xg_nI ha (by decide)] at c1
  refine g_aload_n (n := 1) dX5_changeBound_0 rfl rfl ?_
  refine g_iload_n (n := 2) dX5_changeBound_1 rfl rfl ?_
  refine g_cVv (n := 5) c1 dX5_changeBound_2 rfl kw_X5_42 rfl (by decide) (z_lvP (by first | decide | assumption)) (Nat.le_of_ble_eq_true rfl) ⟨Nat.le_refl _, Nat.le_refl _⟩ ?_ rfl
  refine g_istore3 (n := 6) dX5_changeBound_5 rfl (by decide) rfl ?_
  refine g_iload_n (n := 7) dX5_changeBound_6 rfl rfl ?_
  refine g_cSNv (n := 10) (c_isNeighbour (nI a)) dX5_changeBound_7 rfl kw_X5_31 (Nat.le_of_ble_eq_true rfl) ⟨Nat.le_refl _, Nat.le_refl _⟩ ?_ rfl
  refine g_if_eq (n := 13) (t := 20) dX5_changeBound_10 rfl (by decide) (fun q9 => absurd q9 (by rw [z_ok_nI ha (by decide)]; decide)) (fun _ => ?_)
  refine g_aload_n (n := 14) dX5_changeBound_13 rfl rfl ?_
  refine gf_X5_15 (n := 17) dX5_changeBound_14 rfl rfl (z_lvP (by first | decide | assumption)) rfl ?_
  refine g_iload_n (n := 18) dX5_changeBound_17 rfl rfl ?_
  refine g_iload_n (n := 19) dX5_changeBound_18 rfl rfl ?_
  refine g_iast (n := 20) dX5_changeBound_19 rfl (by decide) (z_lvP (by first | decide | assumption)) rfl (by show _ < 4; first | assumption | omega) ?_
  refine g_iload_n (n := 21) dX5_changeBound_20 rfl rfl ?_
  exact g_ireturn dX5_changeBound_21 rfl rfl rfl rfl
theorem c_chSetting (hi : i < 10) {a : Nat} (ha : a < 2) (x : Int32) : zC w mX3_changeSetting (d + 1) [vR 3 i, vI (nI a), vI x] (zP M O) (zrI (M 18 i a)) (zP (u3 M 18 i a x) O) := by
  refine zC_of (cr := 0) (L0 := [vR 3 i, vI (nI a), vI x, vU]) rfl (by decide) (by decide) rfl (Nat.le_of_ble_eq_true rfl) rfl ?_
  have c1 := c_setting (w := w) (d := d) (M := M) (O := O) hi (nI a)
  rw [xg_nI ha (by decide)] at c1
  refine g_aload_n (n := 1) dX3_changeSetting_0 rfl rfl ?_
  refine g_iload_n (n := 2) dX3_changeSetting_1 rfl rfl ?_
  refine g_cVv (n := 5) c1 dX3_changeSetting_2 rfl kw_X3_63 rfl (by decide) (z_lvP (by first | decide | assumption)) (Nat.le_of_ble_eq_true rfl) ⟨Nat.le_refl _, Nat.le_refl _⟩ ?_ rfl
  refine g_istore3 (n := 6) dX3_changeSetting_5 rfl (by decide) rfl ?_
  refine g_iload_n (n := 7) dX3_changeSetting_6 rfl rfl ?_
  refine g_if_lt (n := 10) (t := 22) dX3_changeSetting_7 rfl (by decide) (fun q9 => absurd q9 (nI_pos (by omega))) (fun _ => ?_)
  refine g_iload_n (n := 11) dX3_changeSetting_10 rfl rfl ?_
  refine g_iconst (n := 12) dX3_changeSetting_11 rfl k_ic_2 ?_
  refine g_icmp_ge (n := 15) (t := 22) dX3_changeSetting_12 rfl (by decide) (fun q9 => absurd q9 (nI_ge ha (by decide))) (fun _ => ?_)
  refine g_aload_n (n := 16) dX3_changeSetting_15 rfl rfl ?_
  refine gf_X3_32 (n := 19) dX3_changeSetting_16 rfl rfl (z_lvP (by first | decide | assumption)) rfl ?_
  refine g_iload_n (n := 20) dX3_changeSetting_19 rfl rfl ?_
  refine g_iload_n (n := 21) dX3_changeSetting_20 rfl rfl ?_
  refine g_iast (n := 22) dX3_changeSetting_21 rfl (by decide) (z_lvP (by first | decide | assumption)) rfl (by show _ < 2; first | assumption | omega) ?_
  refine g_iload_n (n := 23) dX3_changeSetting_22 rfl rfl ?_
  exact g_ireturn dX3_changeSetting_23 rfl rfl rfl rfl
end L3

