/-! New objects of the class. -/
theorem z_df0 {w : zWp} {i : Nat} : ∀ j, j < 8 → defaultValue (tyX0 j) = vp_V (z_flds w 0 i (fun _ => true) (fun _ => 0)) j := fun j hj => by
  match j, hj with
  | 0, _ => rfl | 1, _ => rfl | 2, _ => rfl | 3, _ => rfl | 4, _ => rfl | 5, _ => rfl | 6, _ => rfl | 7, _ => rfl
theorem z_df1 {w : zWp} {i : Nat} : ∀ j, j < 6 → defaultValue (tyX1 j) = vp_V (z_flds w 1 i (fun _ => true) (fun _ => 0)) j := fun j hj => by
  match j, hj with
  | 0, _ => rfl | 1, _ => rfl | 2, _ => rfl | 3, _ => rfl | 4, _ => rfl | 5, _ => rfl
theorem z_df2 {w : zWp} {i : Nat} : ∀ j, j < 3 → defaultValue (tyX2 j) = vp_V (z_flds w 2 i (fun _ => true) (fun _ => 0)) j := fun j hj => by
  match j, hj with
  | 0, _ => rfl | 1, _ => rfl | 2, _ => rfl
theorem z_df3 {w : zWp} {i : Nat} : ∀ j, j < 8 → defaultValue (tyX3 j) = vp_V (z_flds w 3 i (fun _ => true) (fun _ => 0)) j := fun j hj => by
  match j, hj with
  | 0, _ => rfl | 1, _ => rfl | 2, _ => rfl | 3, _ => rfl | 4, _ => rfl | 5, _ => rfl | 6, _ => rfl | 7, _ => rfl
theorem z_df4 {w : zWp} {i : Nat} : ∀ j, j < 2 → defaultValue (tyX4 j) = vp_V (z_flds w 4 i (fun _ => true) (fun _ => 0)) j := fun j hj => by
  match j, hj with
  | 0, _ => rfl | 1, _ => rfl
theorem z_df5 {w : zWp} {i : Nat} : ∀ j, j < 5 → defaultValue (tyX5 j) = vp_V (z_flds w 5 i (fun _ => true) (fun _ => 0)) j := fun j hj => by
  match j, hj with
  | 0, _ => rfl | 1, _ => rfl | 2, _ => rfl | 3, _ => rfl | 4, _ => rfl
theorem z_df6 {w : zWp} {i : Nat} : ∀ j, j < 2 → defaultValue (tyX6 j) = vp_V (z_flds w 6 i (fun _ => true) (fun _ => 0)) j := fun j hj => by
  match j, hj with
  | 0, _ => rfl | 1, _ => rfl
theorem z_df7 {w : zWp} {i : Nat} : ∀ j, j < 2 → defaultValue (tyX7 j) = vp_V (z_flds w 7 i (fun _ => true) (fun _ => 0)) j := fun j hj => by
  match j, hj with
  | 0, _ => rfl | 1, _ => rfl
theorem z_df8 {w : zWp} {i : Nat} : ∀ j, j < 2 → defaultValue (tyX8 j) = vp_V (z_flds w 8 i (fun _ => true) (fun _ => 0)) j := fun j hj => by
  match j, hj with
  | 0, _ => rfl | 1, _ => rfl
theorem z_df9 {w : zWp} {i : Nat} : ∀ j, j < 7 → defaultValue (tyX9 j) = vp_V (z_flds w 9 i (fun _ => true) (fun _ => 0)) j := fun j hj => by
  match j, hj with
  | 0, _ => rfl | 1, _ => rfl | 2, _ => rfl | 3, _ => rfl | 4, _ => rfl | 5, _ => rfl | 6, _ => rfl
theorem z_df10 {w : zWp} {i : Nat} : ∀ j, j < 13 → defaultValue (tyX10 j) = vp_V (z_flds w 10 i (fun _ => true) (fun _ => 0)) j := fun j hj => by
  match j, hj with
  | 0, _ => rfl | 1, _ => rfl | 2, _ => rfl | 3, _ => rfl | 4, _ => rfl | 5, _ => rfl | 6, _ => rfl | 7, _ => rfl | 8, _ => rfl | 9, _ => rfl | 10, _ => rfl | 11, _ => rfl | 12, _ => rfl
theorem zx1 (i : Nat) : z_ix 1 i = z_lb i + 4 := rfl
theorem zx3 (i : Nat) : z_ix 3 i = z_lb i := rfl
theorem zx5 (i : Nat) : z_ix 5 i = z_lb i + 10 := rfl
theorem zx6 (i : Nat) : z_ix 6 i = z_lb i + 1 := rfl
theorem zx13 (i : Nat) : z_ix 13 i = z_lb i + 5 := rfl
theorem zx14 (i : Nat) : z_ix 14 i = z_lb i + 6 := rfl
theorem zx15 (i : Nat) : z_ix 15 i = z_lb i + 7 := rfl
theorem zx16 (i : Nat) : z_ix 16 i = z_lb i + 8 := rfl
theorem zx17 (i : Nat) : z_ix 17 i = z_lb i + 9 := rfl
theorem zx18 (i : Nat) : z_ix 18 i = z_lb i + 16 := rfl
theorem zx19 (i : Nat) : z_ix 19 i = z_lb i + 17 := rfl
theorem zx22 (i : Nat) : z_ix 22 i = z_lb i + 11 := rfl
theorem zx23 (i : Nat) : z_ix 23 i = z_lb i + 12 := rfl
theorem zx24 (i : Nat) : z_ix 24 i = z_lb i + 13 := rfl
theorem zx25 (i : Nat) : z_ix 25 i = z_lb i + 14 := rfl
theorem zx26 (i : Nat) : z_ix 26 i = z_lb i + 15 := rfl
theorem zx27 (i : Nat) : z_ix 27 i = z_lb i + 2 := rfl
theorem zx28 (i : Nat) : z_ix 28 i = z_lb i + 3 := rfl
theorem z_lfL : ∀ i, i < 10 → ∀ j, j < 18 → z_LF (z_lb i + j) = ([3, 6, 27, 28, 1, 13, 14, 15, 16, 17, 5, 22, 23, 24, 25, 26, 18, 19].getD j 0, i) := by decide +kernel
theorem z_lbL : ∀ i, i < 10 → z_lb i ≤ 178 := by decide +kernel
/-- the roads of a new land -/
def iC (t j : Nat) : Bool := decide (j < 64 ∧ ((j / 8 = j % 8 + 1 ∧ j % 8 < t) ∨ (j % 8 = j / 8 + 1 ∧ j / 8 < t)))
def iR (t : Nat) : Nat → Int32 := fun j => if iC t j then nI 10 else nI 0
theorem iR_s {t : Nat} (ht : t < 7) : upd (upd (iR t) (8 * t + (t + 1)) (nI 10)) (8 * (t + 1) + t) (nI 10) = iR (t + 1) := by
  funext j
  unfold upd iR
  by_cases e1 : j = 8 * (t + 1) + t
  · rw [if_pos e1, if_pos (show iC (t + 1) j = true from decide_eq_true (by omega))]
  · rw [if_neg e1]
    by_cases e2 : j = 8 * t + (t + 1)
    · rw [if_pos e2, if_pos (show iC (t + 1) j = true from decide_eq_true (by omega))]
    · rw [if_neg e2]
      by_cases c : iC t j = true
      · have h := of_decide_eq_true c
        rw [if_pos c, if_pos (show iC (t + 1) j = true from decide_eq_true (by omega))]
      · have h : ¬ (j < 64 ∧ ((j / 8 = j % 8 + 1 ∧ j % 8 < t) ∨ (j % 8 = j / 8 + 1 ∧ j / 8 < t))) := fun q => c (decide_eq_true q)
        rw [if_neg c, if_neg (fun q => by have := of_decide_eq_true q; omega)]
theorem iR_0 : (fun _ => (0 : Int32)) = iR 0 := by
  funext j
  unfold iR
  rw [if_neg (fun q => by have := of_decide_eq_true q; omega)]
  rfl
/-- the row of a new land -/
def V0 : Nat → Int32 := fun j => if 2 ≤ j ∧ j < 66 then iR 7 (j - 2) else if 123 ≤ j ∧ j < 127 then nI 20 else nI 0
theorem V0_r {j : Nat} (h : j < 64) : V0 (2 + j) = iR 7 j := by
  unfold V0
  rw [if_pos (by omega), show 2 + j - 2 = j by omega]
/-- places apart from some stay as they were -/
def zFr (P : Nat → Nat → Prop) (N N' : Nat → Nat → Nat → Bool) (M M' : Nat → Nat → Nat → Int32) : Prop := ∀ k a, ¬ P k a → N' k a = N k a ∧ M' k a = M k a
theorem zFr.tr {P : Nat → Nat → Prop} {N N1 N2 : Nat → Nat → Nat → Bool} {M M1 M2 : Nat → Nat → Nat → Int32} (h : zFr P N N1 M M1) (g : zFr P N1 N2 M1 M2) : zFr P N N2 M M2 := fun k a q => ⟨(g k a q).1.trans (h k a q).1, (g k a q).2.trans (h k a q).2⟩
theorem zFr.mono {P Q : Nat → Nat → Prop} {N N' : Nat → Nat → Nat → Bool} {M M' : Nat → Nat → Nat → Int32} (h : zFr P N N' M M') (s : ∀ k a, P k a → Q k a) : zFr Q N N' M M' := fun k a q => h k a (fun z => q (s k a z))
section LN1
variable {w : zWp} {d i : Nat} {Nl : Nat → Nat → Nat → Bool} {M : Nat → Nat → Nat → Int32} {O : Nat → Int64}
theorem n_roads (hi : i < 10) : ∃ N' M', zFr (fun k a => a = i ∧ (k = 6 ∨ k = 27 ∨ k = 28)) Nl N' M M' ∧ (N' 6 i 0 = false ∧ N' 6 i 1 = false) ∧ (M' 27 i = iR 7 ∧ ∀ j, j < 64 → M' 28 i j = fw (iR 7) j) ∧ zC w mX6_init (d + 2) [vR 6 i] (z_lb i + 2, Nl, M, O) zrV (z_lb i + 2 + 1 + 1, N', M', O) := by
  have hb := z_lbL i hi
  obtain ⟨N1, hN1⟩ : ∃ N1, N1 = u3 (u2 (u3 (u2 Nl 27 i (fun _ => true)) 6 i 0 false) 28 i (fun _ => true)) 6 i 1 false := ⟨_, rfl⟩
  obtain ⟨B, hB⟩ : ∃ B, B = u2 (u2 M 27 i (fun _ => 0)) 28 i (fun _ => 0) := ⟨_, rfl⟩
  have n0 : N1 6 i 0 = false := by
    rw [hN1, u3_nj (by decide), u2_ne (by omega)]
    exact u3_self
  have n1 : N1 6 i 1 = false := by rw [hN1]; exact u3_self
  have b27 : B = u2 B 27 i (iR 0) := by
    have b : B 27 i = fun _ => 0 := by rw [hB, u2_ne (by omega), u2_self]
    rw [← iR_0, ← b, u2_id]
  have nn : ∀ j, j < 64 → 0 ≤ u2 B 27 i (iR 7) 27 i j := fun j hj => by
    rw [u2_self]
    unfold iR
    split <;> decide
  have l6 : z_live (z_lb i + 2 + 1 + 1) 6 i := ⟨hi, by rw [zx6]; omega⟩
  have l27 : z_live (z_lb i + 2 + 1 + 1) 27 i := ⟨hi, by rw [zx27]; omega⟩
  have l28 : z_live (z_lb i + 2 + 1 + 1) 28 i := ⟨hi, by rw [zx28]; omega⟩
  have cm := c_rmeasure (w := w) (d := d) (O := O) l6 l27 l28 n0 n1 nn
  refine ⟨N1, u2 (u2 B 27 i (iR 7)) 28 i (fwO (xfl (fwI (u2 B 27 i (iR 7) 27 i)) (u2 B 27 i (iR 7) 28 i) 64) 8), ?_, ⟨n0, n1⟩, ⟨?_, ?_⟩, ?_⟩
  · intro k a q
    rw [hN1, u3_f (by omega), u2_ne (by omega), u3_f (by omega), u2_ne (by omega), u2_ne (by omega), u2_ne (by omega), hB, u2_ne (by omega), u2_ne (by omega)]
    exact ⟨rfl, rfl⟩
  · rw [u2_ne (by omega), u2_self]
  · intro j hj
    rw [u2_self, u2_self]
    exact fw_of xfl_aeq j hj
  · refine zC_of (cr := 0) (L0 := [vR 6 i, vU]) rfl (by decide) (by decide) rfl (Nat.le_of_ble_eq_true rfl) rfl ?_
    refine g_aload_n (n := 1) dX6_init_0 rfl rfl ?_
    refine g_objI (n := 4) dX6_init_1 rfl ko_X6_3 ko_1 ko_2 (by omega) ?_ rfl
    refine g_aload_n (n := 5) dX6_init_4 rfl rfl ?_
    refine g_bipush (n := 7) dX6_init_5 rfl k_bp_64 ?_
    refine g_newa (n := 9) dX6_init_7 rfl ka_int rfl (t := 0) rfl (fun _ q => by cases q) rfl (Nat.le_of_ble_eq_true rfl) rfl (len := 64) (k := 27) (i := i) rfl (by decide) (fun _ => rfl) (z_lfL i hi 2 (by decide)) (by first | decide | omega) (by first | decide | (dsimp only; omega)) ?_
    refine gw_X6_9 (n := 12) dX6_init_9 rfl rfl rfl ⟨(by first | decide | assumption), (by first | decide | (simp only [zx1, zx3, zx5, zx6, zx13, zx14, zx15, zx16, zx17, zx18, zx19, zx22, zx23, zx24, zx25, zx26, zx27, zx28]; omega))⟩ rfl ?_
    refine g_aload_n (n := 13) dX6_init_12 rfl rfl ?_
    refine g_bipush (n := 15) dX6_init_13 rfl k_bp_64 ?_
    refine g_newa (n := 17) dX6_init_15 rfl ka_int rfl (t := 0) rfl (fun _ q => by cases q) rfl (Nat.le_of_ble_eq_true rfl) rfl (len := 64) (k := 28) (i := i) rfl (by decide) (fun _ => rfl) (z_lfL i hi 3 (by decide)) (by first | decide | omega) (by first | decide | (dsimp only; omega)) ?_
    refine gw_X6_15 (n := 20) dX6_init_17 rfl rfl rfl ⟨(by first | decide | assumption), (by first | decide | (simp only [zx1, zx3, zx5, zx6, zx13, zx14, zx15, zx16, zx17, zx18, zx19, zx22, zx23, zx24, zx25, zx26, zx27, zx28]; omega))⟩ rfl ?_
    rw [← hN1, ← hB]
    refine g_iconst (n := 21) dX6_init_20 rfl k_ic_0 ?_
    refine g_istore1 (n := 22) dX6_init_21 rfl (by decide) rfl ?_
    suffices H : zG w mX6_init (d + 1 + 1) 0 22 [vR 6 i, vI (nI 0)] [] (z_lb i + 2 + 1 + 1, N1, u2 B 27 i (iR 0), O) zrV (z_lb i + 2 + 1 + 1, N1, u2 (u2 B 27 i (iR 7)) 28 i (fwO (xfl (fwI (u2 B 27 i (iR 7) 27 i)) (u2 B 27 i (iR 7) 28 i) 64) 8), O) by
      rw [← b27] at H
      exact H
    refine z_loop (fun t => zG w mX6_init (d + 1 + 1) 0 22 [vR 6 i, vI (nI t)] [] (z_lb i + 2 + 1 + 1, N1, u2 B 27 i (iR t), O) zrV (z_lb i + 2 + 1 + 1, N1, u2 (u2 B 27 i (iR 7)) 28 i (fwO (xfl (fwI (u2 B 27 i (iR 7) 27 i)) (u2 B 27 i (iR 7) 28 i) 64) 8), O)) 7 ?_ ?_ 0 (Nat.zero_le _)
    · refine g_iload_n (n := 23) dX6_init_22 rfl rfl ?_
      refine g_bipush (n := 25) dX6_init_23 rfl k_bp_7 ?_
      refine g_icmp_ge (n := 28) (t := 64) dX6_init_25 rfl (by decide) (fun _ => ?_) (fun q9 => absurd (Int32.le_refl _) q9)
      refine g_aload_n (n := 65) dX6_init_64 rfl rfl ?_
      refine g_cVn (n := 68) cm dX6_init_65 rfl kw_X6_18 rfl (by decide) ⟨(by first | decide | assumption), (by first | decide | (simp only [zx1, zx3, zx5, zx6, zx13, zx14, zx15, zx16, zx17, zx18, zx19, zx22, zx23, zx24, zx25, zx26, zx27, zx28]; omega))⟩ (Nat.le_of_ble_eq_true rfl) (by constructor <;> first | decide | (dsimp only; omega)) ?_ rfl
      exact g_return dX6_init_68 rfl rfl rfl
    · intro t ht ih
      rw [← iR_s ht] at ih
      have i1 : nI t * nI 8 + nI t + nI 1 = nI (8 * t + (t + 1)) := by rw [pk_mul, nI_add, nI_add]; congr 1; omega
      have i2 : (nI t + nI 1) * nI 8 + nI t = nI (8 * (t + 1) + t) := by rw [nI_add, pk_mul, nI_add]; congr 1; omega
      refine g_iload_n (n := 23) dX6_init_22 rfl rfl ?_
      refine g_bipush (n := 25) dX6_init_23 rfl k_bp_7 ?_
      refine g_icmp_ge (n := 28) (t := 64) dX6_init_25 rfl (by decide) (fun q9 => absurd q9 (nI_ge ht (by decide))) (fun _ => ?_)
      refine g_aload_n (n := 29) dX6_init_28 rfl rfl ?_
      refine gf_X6_9 (n := 32) dX6_init_29 rfl rfl ⟨(by first | decide | assumption), (by first | decide | (simp only [zx1, zx3, zx5, zx6, zx13, zx14, zx15, zx16, zx17, zx18, zx19, zx22, zx23, zx24, zx25, zx26, zx27, zx28]; omega))⟩ (by first | assumption | rfl) ?_
      refine g_iload_n (n := 33) dX6_init_32 rfl rfl ?_
      refine g_bipush (n := 35) dX6_init_33 rfl k_bp_8 ?_
      refine g_imul (n := 36) dX6_init_35 rfl ?_
      refine g_iload_n (n := 37) dX6_init_36 rfl rfl ?_
      refine g_iadd (n := 38) dX6_init_37 rfl ?_
      refine g_iconst (n := 39) dX6_init_38 rfl k_ic_1 ?_
      refine g_iadd (n := 40) dX6_init_39 rfl ?_
      rw [i1]
      refine g_bipush (n := 42) dX6_init_40 rfl k_bp_10 ?_
      refine g_iast (n := 43) dX6_init_42 rfl (by decide) ⟨(by first | decide | assumption), (by first | decide | (simp only [zx1, zx3, zx5, zx6, zx13, zx14, zx15, zx16, zx17, zx18, zx19, zx22, zx23, zx24, zx25, zx26, zx27, zx28]; omega))⟩ rfl (by show _ < 64; omega) ?_
      rw [u3_u2]
      refine g_aload_n (n := 44) dX6_init_43 rfl rfl ?_
      refine gf_X6_9 (n := 47) dX6_init_44 rfl rfl ⟨(by first | decide | assumption), (by first | decide | (simp only [zx1, zx3, zx5, zx6, zx13, zx14, zx15, zx16, zx17, zx18, zx19, zx22, zx23, zx24, zx25, zx26, zx27, zx28]; omega))⟩ (by first | assumption | rfl) ?_
      refine g_iload_n (n := 48) dX6_init_47 rfl rfl ?_
      refine g_iconst (n := 49) dX6_init_48 rfl k_ic_1 ?_
      refine g_iadd (n := 50) dX6_init_49 rfl ?_
      refine g_bipush (n := 52) dX6_init_50 rfl k_bp_8 ?_
      refine g_imul (n := 53) dX6_init_52 rfl ?_
      refine g_iload_n (n := 54) dX6_init_53 rfl rfl ?_
      refine g_iadd (n := 55) dX6_init_54 rfl ?_
      rw [i2]
      refine g_bipush (n := 57) dX6_init_55 rfl k_bp_10 ?_
      refine g_iast (n := 58) dX6_init_57 rfl (by decide) ⟨(by first | decide | assumption), (by first | decide | (simp only [zx1, zx3, zx5, zx6, zx13, zx14, zx15, zx16, zx17, zx18, zx19, zx22, zx23, zx24, zx25, zx26, zx27, zx28]; omega))⟩ rfl (by show _ < 64; omega) ?_
      rw [u3_u2]
      refine g_iinc1 (n := 61) dX6_init_58 rfl (by decide) rfl (z_inc1 _) ?_
      refine g_goto (n := 0) (t := 22) dX6_init_61 (by decide) ?_
      exact ih
end LN1

