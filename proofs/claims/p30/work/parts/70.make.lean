/-! New objects of the class. -/
theorem z_df0 {w : zWp} {i : Nat} : ∀ j, j < 8 → defaultValue (tyX0 j) = vp_V (z_flds w 0 i (fun _ => true) (fun _ => 0)) j := fun j hj => by
  match j, hj with
  | 0, _ => rfl | 1, _ => rfl | 2, _ => rfl | 3, _ => rfl | 4, _ => rfl | 5, _ => rfl | 6, _ => rfl | 7, _ => rfl
theorem z_df1 {w : zWp} {i : Nat} : ∀ j, j < 6 → defaultValue (tyX1 j) = vp_V (z_flds w 1 i (fun _ => true) (fun _ => 0)) j := fun j hj => by
  match j, hj with
  | 0, _ => rfl | 1, _ => rfl | 2, _ => rfl | 3, _ => rfl | 4, _ => rfl | 5, _ => rfl
theorem z_df2 {w : zWp} {i : Nat} : ∀ j, j < 3 → defaultValue (tyX2 j) = vp_V (z_flds w 2 i (fun _ => true) (fun _ => 0)) j := fun j hj => by
  match j, hj with
  | 0, _ => rfl | 1, _ => rfl | 2, _ => rfl
theorem z_df3 {w : zWp} {i : Nat} : ∀ j, j < 8 → defaultValue (tyX3 j) = vp_V (z_flds w 3 i (fun _ => true) (fun _ => 0)) j := fun j hj => by
  match j, hj with
  | 0, _ => rfl | 1, _ => rfl | 2, _ => rfl | 3, _ => rfl | 4, _ => rfl | 5, _ => rfl | 6, _ => rfl | 7, _ => rfl
theorem z_df4 {w : zWp} {i : Nat} : ∀ j, j < 2 → defaultValue (tyX4 j) = vp_V (z_flds w 4 i (fun _ => true) (fun _ => 0)) j := fun j hj => by
  match j, hj with
  | 0, _ => rfl | 1, _ => rfl
theorem z_df5 {w : zWp} {i : Nat} : ∀ j, j < 5 → defaultValue (tyX5 j) = vp_V (z_flds w 5 i (fun _ => true) (fun _ => 0)) j := fun j hj => by
  match j, hj with
  | 0, _ => rfl | 1, _ => rfl | 2, _ => rfl | 3, _ => rfl | 4, _ => rfl
theorem z_df6 {w : zWp} {i : Nat} : ∀ j, j < 2 → defaultValue (tyX6 j) = vp_V (z_flds w 6 i (fun _ => true) (fun _ => 0)) j := fun j hj => by
  match j, hj with
  | 0, _ => rfl | 1, _ => rfl
theorem z_df7 {w : zWp} {i : Nat} : ∀ j, j < 2 → defaultValue (tyX7 j) = vp_V (z_flds w 7 i (fun _ => true) (fun _ => 0)) j := fun j hj => by
  match j, hj with
  | 0, _ => rfl | 1, _ => rfl
theorem z_df8 {w : zWp} {i : Nat} : ∀ j, j < 2 → defaultValue (tyX8 j) = vp_V (z_flds w 8 i (fun _ => true) (fun _ => 0)) j := fun j hj => by
  match j, hj with
  | 0, _ => rfl | 1, _ => rfl
theorem z_df9 {w : zWp} {i : Nat} : ∀ j, j < 7 → defaultValue (tyX9 j) = vp_V (z_flds w 9 i (fun _ => true) (fun _ => 0)) j := fun j hj => by
  match j, hj with
  | 0, _ => rfl | 1, _ => rfl | 2, _ => rfl | 3, _ => rfl | 4, _ => rfl | 5, _ => rfl | 6, _ => rfl
theorem zx1 (i : Nat) : z_ix 1 i = z_lb i + 4 := rfl
theorem zx3 (i : Nat) : z_ix 3 i = z_lb i := rfl
theorem zx5 (i : Nat) : z_ix 5 i = z_lb i + 10 := rfl
theorem zx6 (i : Nat) : z_ix 6 i = z_lb i + 1 := rfl
theorem zx13 (i : Nat) : z_ix 13 i = z_lb i + 5 := rfl
theorem zx14 (i : Nat) : z_ix 14 i = z_lb i + 6 := rfl
theorem zx15 (i : Nat) : z_ix 15 i = z_lb i + 7 := rfl
theorem zx16 (i : Nat) : z_ix 16 i = z_lb i + 8 := rfl
theorem zx17 (i : Nat) : z_ix 17 i = z_lb i + 9 := rfl
theorem zx18 (i : Nat) : z_ix 18 i = z_lb i + 16 := rfl
theorem zx19 (i : Nat) : z_ix 19 i = z_lb i + 17 := rfl
theorem zx22 (i : Nat) : z_ix 22 i = z_lb i + 11 := rfl
theorem zx23 (i : Nat) : z_ix 23 i = z_lb i + 12 := rfl
theorem zx24 (i : Nat) : z_ix 24 i = z_lb i + 13 := rfl
theorem zx25 (i : Nat) : z_ix 25 i = z_lb i + 14 := rfl
theorem zx26 (i : Nat) : z_ix 26 i = z_lb i + 15 := rfl
theorem zx27 (i : Nat) : z_ix 27 i = z_lb i + 2 := rfl
theorem zx28 (i : Nat) : z_ix 28 i = z_lb i + 3 := rfl
theorem z_lfL : ∀ i, i < 10 → ∀ j, j < 18 → z_LF (z_lb i + j) = ([3, 6, 27, 28, 1, 13, 14, 15, 16, 17, 5, 22, 23, 24, 25, 26, 18, 19].getD j 0, i) := by decide +kernel
theorem z_lbL : ∀ i, i < 10 → z_lb i ≤ 178 := by decide +kernel
/-- the roads of a new land -/
def iC (t j : Nat) : Bool := decide (j < 64 ∧ ((j / 8 = j % 8 + 1 ∧ j % 8 < t) ∨ (j % 8 = j / 8 + 1 ∧ j / 8 < t)))
def iR (t : Nat) : Nat → Int32 := fun j => if iC t j then nI 10 else nI 0
theorem iR_s {t : Nat} (ht : t < 7) : upd (upd (iR t) (8 * t + (t + 1)) (nI 10)) (8 * (t + 1) + t) (nI 10) = iR (t + 1) := by
  funext j
  unfold upd iR
  by_cases e1 : j = 8 * (t + 1) + t
  · rw [if_pos e1, if_pos (show iC (t + 1) j = true from decide_eq_true (by omega))]
  · rw [if_neg e1]
    by_cases e2 : j = 8 * t + (t + 1)
    · rw [if_pos e2, if_pos (show iC (t + 1) j = true from decide_eq_true (by omega))]
    · rw [if_neg e2]
      by_cases c : iC t j = true
      · have h := of_decide_eq_true c
        rw [if_pos c, if_pos (show iC (t + 1) j = true from decide_eq_true (by omega))]
      · have h : ¬ (j < 64 ∧ ((j / 8 = j % 8 + 1 ∧ j % 8 < t) ∨ (j % 8 = j / 8 + 1 ∧ j / 8 < t))) := fun q => c (decide_eq_true q)
        rw [if_neg c, if_neg (fun q => by have := of_decide_eq_true q; omega)]
theorem iR_0 : (fun _ => (0 : Int32)) = iR 0 := by
  funext j
  unfold iR
  rw [if_neg (fun q => by have := of_decide_eq_true q; omega)]
  rfl
/-- the row of a new land -/
def V0 : Nat → Int32 := fun j => if 2 ≤ j ∧ j < 66 then iR 7 (j - 2) else if 123 ≤ j ∧ j < 127 then nI 20 else nI 0
theorem V0_r {j : Nat} (h : j < 64) : V0 (2 + j) = iR 7 j := by
  unfold V0
  rw [if_pos (by omega), show 2 + j - 2 = j by omega]
/-- places apart from some stay as they were -/
def zFr (P : Nat → Nat → Prop) (N N' : Nat → Nat → Nat → Bool) (M M' : Nat → Nat → Nat → Int32) : Prop := ∀ k a, ¬ P k a → N' k a = N k a ∧ M' k a = M k a
theorem zFr.tr {P : Nat → Nat → Prop} {N N1 N2 : Nat → Nat → Nat → Bool} {M M1 M2 : Nat → Nat → Nat → Int32} (h : zFr P N N1 M M1) (g : zFr P N1 N2 M1 M2) : zFr P N N2 M M2 := fun k a q => ⟨(g k a q).1.trans (h k a q).1, (g k a q).2.trans (h k a q).2⟩
theorem zFr.mono {P Q : Nat → Nat → Prop} {N N' : Nat → Nat → Nat → Bool} {M M' : Nat → Nat → Nat → Int32} (h : zFr P N N' M M') (s : ∀ k a, P k a → Q k a) : zFr Q N N' M M' := fun k a q => h k a (fun z => q (s k a z))
section LN1
variable {w : zWp} {d i : Nat} {Nl : Nat → Nat → Nat → Bool} {M : Nat → Nat → Nat → Int32} {O : Nat → Int64}
theorem n_roads (hi : i < 10) : ∃ N' M', zFr (fun k a => a = i ∧ (k = 6 ∨ k = 27 ∨ k = 28)) Nl N' M M' ∧ (N' 6 i 0 = false ∧ N' 6 i 1 = false) ∧ (M' 27 i = iR 7 ∧ ∀ j, j < 64 → M' 28 i j = fw (iR 7) j) ∧ zC w mX6_init (d + 2) [vR 6 i] (z_lb i + 2, Nl, M, O) zrV (z_lb i + 2 + 1 + 1, N', M', O) := by
  have hb := z_lbL i hi
  obtain ⟨N1, hN1⟩ : ∃ N1, N1 = u3 (u2 (u3 (u2 Nl 27 i (fun _ => true)) 6 i 0 false) 28 i (fun _ => true)) 6 i 1 false := ⟨_, rfl⟩
  obtain ⟨B, hB⟩ : ∃ B, B = u2 (u2 M 27 i (fun _ => 0)) 28 i (fun _ => 0) := ⟨_, rfl⟩
  have n0 : N1 6 i 0 = false := by
    rw [hN1, u3_nj (by decide), u2_ne (by omega)]
    exact u3_self
  have n1 : N1 6 i 1 = false := by rw [hN1]; exact u3_self
  have b27 : B = u2 B 27 i (iR 0) := by
    have b : B 27 i = fun _ => 0 := by rw [hB, u2_ne (by omega), u2_self]
    rw [← iR_0, ← b, u2_id]
  have nn : ∀ j, j < 64 → 0 ≤ u2 B 27 i (iR 7) 27 i j := fun j hj => by
    rw [u2_self]
    unfold iR
    split <;> decide
  have l6 : z_live (z_lb i + 2 + 1 + 1) 6 i := ⟨hi, by rw [zx6]; omega⟩
  have l27 : z_live (z_lb i + 2 + 1 + 1) 27 i := ⟨hi, by rw [zx27]; omega⟩
  have l28 : z_live (z_lb i + 2 + 1 + 1) 28 i := ⟨hi, by rw [zx28]; omega⟩
  have cm := c_rmeasure (w := w) (d := d) (O := O) l6 l27 l28 n0 n1 nn
  refine ⟨N1, u2 (u2 B 27 i (iR 7)) 28 i (fwO (xfl (fwI (u2 B 27 i (iR 7) 27 i)) (u2 B 27 i (iR 7) 28 i) 64) 8), ?_, ⟨n0, n1⟩, ⟨?_, ?_⟩, ?_⟩
  · intro k a q
    rw [hN1, u3_f (by omega), u2_ne (by omega), u3_f (by omega), u2_ne (by omega), u2_ne (by omega), u2_ne (by omega), hB, u2_ne (by omega), u2_ne (by omega)]
    exact ⟨rfl, rfl⟩
  · rw [u2_ne (by omega), u2_self]
  · intro j hj
    rw [u2_self, u2_self]
    exact fw_of xfl_aeq j hj
  · refine zC_of (cr := 0) (L0 := [vR 6 i, vU]) rfl (by decide) (by decide) rfl (Nat.le_of_ble_eq_true rfl) rfl ?_
    refine g_aload_n (n := 1) dX6_init_0 rfl rfl ?_
    refine g_objI (n := 4) dX6_init_1 rfl ko_X6_3 ko_1 ko_2 (by omega) ?_ rfl
    refine g_aload_n (n := 5) dX6_init_4 rfl rfl ?_
    refine g_bipush (n := 7) dX6_init_5 rfl k_bp_64 ?_
    refine g_newa (n := 9) dX6_init_7 rfl ka_int rfl (t := 0) rfl (fun _ q => by cases q) rfl (Nat.le_of_ble_eq_true rfl) rfl (len := 64) (k := 27) (i := i) rfl (by decide) (fun _ => rfl) (z_lfL i hi 2 (by decide)) (by first | decide | omega) (by first | decide | (dsimp only; omega)) ?_
    refine gw_X6_9 (n := 12) dX6_init_9 rfl rfl rfl ⟨(by first | decide | assumption), (by first | decide | (simp only [zx1, zx3, zx5, zx6, zx13, zx14, zx15, zx16, zx17, zx18, zx19, zx22, zx23, zx24, zx25, zx26, zx27, zx28]; omega))⟩ rfl ?_
    refine g_aload_n (n := 13) dX6_init_12 rfl rfl ?_
    refine g_bipush (n := 15) dX6_init_13 rfl k_bp_64 ?_
    refine g_newa (n := 17) dX6_init_15 rfl ka_int rfl (t := 0) rfl (fun _ q => by cases q) rfl (Nat.le_of_ble_eq_true rfl) rfl (len := 64) (k := 28) (i := i) rfl (by decide) (fun _ => rfl) (z_lfL i hi 3 (by decide)) (by first | decide | omega) (by first | decide | (dsimp only; omega)) ?_
    refine gw_X6_15 (n := 20) dX6_init_17 rfl rfl rfl ⟨(by first | decide | assumption), (by first | decide | (simp only [zx1, zx3, zx5, zx6, zx13, zx14, zx15, zx16, zx17, zx18, zx19, zx22, zx23, zx24, zx25, zx26, zx27, zx28]; omega))⟩ rfl ?_
    rw [← hN1, ← hB]
    refine g_iconst (n := 21) dX6_init_20 rfl k_ic_0 ?_
    refine g_istore1 (n := 22) dX6_init_21 rfl (by decide) rfl ?_
    suffices H : zG w mX6_init (d + 1 + 1) 0 22 [vR 6 i, vI (nI 0)] [] (z_lb i + 2 + 1 + 1, N1, u2 B 27 i (iR 0), O) zrV (z_lb i + 2 + 1 + 1, N1, u2 (u2 B 27 i (iR 7)) 28 i (fwO (xfl (fwI (u2 B 27 i (iR 7) 27 i)) (u2 B 27 i (iR 7) 28 i) 64) 8), O) by
      rw [← b27] at H
      exact H
    refine z_loop (fun t => zG w mX6_init (d + 1 + 1) 0 22 [vR 6 i, vI (nI t)] [] (z_lb i + 2 + 1 + 1, N1, u2 B 27 i (iR t), O) zrV (z_lb i + 2 + 1 + 1, N1, u2 (u2 B 27 i (iR 7)) 28 i (fwO (xfl (fwI (u2 B 27 i (iR 7) 27 i)) (u2 B 27 i (iR 7) 28 i) 64) 8), O)) 7 ?_ ?_ 0 (Nat.zero_le _)
    · refine g_iload_n (n := 23) dX6_init_22 rfl rfl ?_
      refine g_bipush (n := 25) dX6_init_23 rfl k_bp_7 ?_
      refine g_icmp_ge (n := 28) (t := 64) dX6_init_25 rfl (by decide) (fun _ => ?_) (fun q9 => absurd (Int32.le_refl _) q9)
      refine g_aload_n (n := 65) dX6_init_64 rfl rfl ?_
      refine g_cVn (n := 68) cm dX6_init_65 rfl kw_X6_18 rfl (by decide) ⟨(by first | decide | assumption), (by first | decide | (simp only [zx1, zx3, zx5, zx6, zx13, zx14, zx15, zx16, zx17, zx18, zx19, zx22, zx23, zx24, zx25, zx26, zx27, zx28]; omega))⟩ (Nat.le_of_ble_eq_true rfl) (by constructor <;> first | decide | (dsimp only; omega)) ?_ rfl
      exact g_return dX6_init_68 rfl rfl rfl
    · intro t ht ih
      rw [← iR_s ht] at ih
      have i1 : nI t * nI 8 + nI t + nI 1 = nI (8 * t + (t + 1)) := by rw [pk_mul, nI_add, nI_add]; congr 1; omega
      have i2 : (nI t + nI 1) * nI 8 + nI t = nI (8 * (t + 1) + t) := by rw [nI_add, pk_mul, nI_add]; congr 1; omega
      refine g_iload_n (n := 23) dX6_init_22 rfl rfl ?_
      refine g_bipush (n := 25) dX6_init_23 rfl k_bp_7 ?_
      refine g_icmp_ge (n := 28) (t := 64) dX6_init_25 rfl (by decide) (fun q9 => absurd q9 (nI_ge ht (by decide))) (fun _ => ?_)
      refine g_aload_n (n := 29) dX6_init_28 rfl rfl ?_
      refine gf_X6_9 (n := 32) dX6_init_29 rfl rfl ⟨(by first | decide | assumption), (by first | decide | (simp only [zx1, zx3, zx5, zx6, zx13, zx14, zx15, zx16, zx17, zx18, zx19, zx22, zx23, zx24, zx25, zx26, zx27, zx28]; omega))⟩ (by first | assumption | rfl) ?_
      refine g_iload_n (n := 33) dX6_init_32 rfl rfl ?_
      refine g_bipush (n := 35) dX6_init_33 rfl k_bp_8 ?_
      refine g_imul (n := 36) dX6_init_35 rfl ?_
      refine g_iload_n (n := 37) dX6_init_36 rfl rfl ?_
      refine g_iadd (n := 38) dX6_init_37 rfl ?_
      refine g_iconst (n := 39) dX6_init_38 rfl k_ic_1 ?_
      refine g_iadd (n := 40) dX6_init_39 rfl ?_
      rw [i1]
      refine g_bipush (n := 42) dX6_init_40 rfl k_bp_10 ?_
      refine g_iast (n := 43) dX6_init_42 rfl (by decide) ⟨(by first | decide | assumption), (by first | decide | (simp only [zx1, zx3, zx5, zx6, zx13, zx14, zx15, zx16, zx17, zx18, zx19, zx22, zx23, zx24, zx25, zx26, zx27, zx28]; omega))⟩ rfl (by show _ < 64; omega) ?_
      rw [u3_u2]
      refine g_aload_n (n := 44) dX6_init_43 rfl rfl ?_
      refine gf_X6_9 (n := 47) dX6_init_44 rfl rfl ⟨(by first | decide | assumption), (by first | decide | (simp only [zx1, zx3, zx5, zx6, zx13, zx14, zx15, zx16, zx17, zx18, zx19, zx22, zx23, zx24, zx25, zx26, zx27, zx28]; omega))⟩ (by first | assumption | rfl) ?_
      refine g_iload_n (n := 48) dX6_init_47 rfl rfl ?_
      refine g_iconst (n := 49) dX6_init_48 rfl k_ic_1 ?_
      refine g_iadd (n := 50) dX6_init_49 rfl ?_
      refine g_bipush (n := 52) dX6_init_50 rfl k_bp_8 ?_
      refine g_imul (n := 53) dX6_init_52 rfl ?_
      refine g_iload_n (n := 54) dX6_init_53 rfl rfl ?_
      refine g_iadd (n := 55) dX6_init_54 rfl ?_
      rw [i2]
      refine g_bipush (n := 57) dX6_init_55 rfl k_bp_10 ?_
      refine g_iast (n := 58) dX6_init_57 rfl (by decide) ⟨(by first | decide | assumption), (by first | decide | (simp only [zx1, zx3, zx5, zx6, zx13, zx14, zx15, zx16, zx17, zx18, zx19, zx22, zx23, zx24, zx25, zx26, zx27, zx28]; omega))⟩ rfl (by show _ < 64; omega) ?_
      rw [u3_u2]
      refine g_iinc1 (n := 61) dX6_init_58 rfl (by decide) rfl (z_inc1 _) ?_
      refine g_goto (n := 0) (t := 22) dX6_init_61 (by decide) ?_
      exact ih
theorem n_exits (hi : i < 10) : ∃ N' M', zFr (fun k a => a = i ∧ (k = 1 ∨ (13 ≤ k ∧ k ≤ 17))) Nl N' M M' ∧ (∀ j, j < 5 → N' 1 i j = false) ∧ ((∀ k, 13 ≤ k → k ≤ 17 → M' k i = fun _ => 0) ∧ M' 1 i = M 1 i) ∧ zC w mX1_init (d + 1) [vR 1 i] (z_lb i + 5, Nl, M, O) zrV (z_lb i + 5 + 1 + 1 + 1 + 1 + 1, N', M', O) := by
  have hb := z_lbL i hi
  refine ⟨u3 (u2 (u3 (u2 (u3 (u2 (u3 (u2 (u3 (u2 Nl 13 i (fun _ => true)) 1 i 0 false) 14 i (fun _ => true)) 1 i 1 false) 15 i (fun _ => true)) 1 i 2 false) 16 i (fun _ => true)) 1 i 3 false) 17 i (fun _ => true)) 1 i 4 false, u2 (u2 (u2 (u2 (u2 M 13 i (fun _ => 0)) 14 i (fun _ => 0)) 15 i (fun _ => 0)) 16 i (fun _ => 0)) 17 i (fun _ => 0), ?_, ?_, ⟨?_, ?_⟩, ?_⟩
  · intro k a q
    rw [u3_f (by omega), u2_ne (by omega), u3_f (by omega), u2_ne (by omega), u3_f (by omega), u2_ne (by omega), u3_f (by omega), u2_ne (by omega), u3_f (by omega), u2_ne (by omega)]
    rw [u2_ne (by omega), u2_ne (by omega), u2_ne (by omega), u2_ne (by omega), u2_ne (by omega)]
    exact ⟨rfl, rfl⟩
  · intro j hj
    obtain e | e | e | e | e : j = 0 ∨ j = 1 ∨ j = 2 ∨ j = 3 ∨ j = 4 := by omega
    all_goals (subst e; simp [u2, u3])
  · intro k h1 h2
    obtain e | e | e | e | e : k = 13 ∨ k = 14 ∨ k = 15 ∨ k = 16 ∨ k = 17 := by omega
    all_goals (subst e; simp [u2])
  · rw [u2_ne (by omega), u2_ne (by omega), u2_ne (by omega), u2_ne (by omega), u2_ne (by omega)]
  · refine zC_of (cr := 0) (L0 := [vR 1 i]) rfl (by decide) (by decide) rfl (Nat.le_of_ble_eq_true rfl) rfl ?_
    refine g_aload_n (n := 1) dX1_init_0 rfl rfl ?_
    refine g_objI (n := 4) dX1_init_1 rfl ko_X1_3 ko_1 ko_2 (by omega) ?_ rfl
    refine g_aload_n (n := 5) dX1_init_4 rfl rfl ?_
    refine g_bipush (n := 7) dX1_init_5 rfl k_bp_8 ?_
    refine g_newa (n := 9) dX1_init_7 rfl ka_int rfl (t := 0) rfl (fun _ q => by cases q) rfl (Nat.le_of_ble_eq_true rfl) rfl (len := 8) (k := 13) (i := i) rfl (by decide) (fun _ => rfl) (z_lfL i hi 5 (by decide)) (by first | decide | omega) (by first | decide | (dsimp only; omega)) ?_
    refine gw_X1_9 (n := 12) dX1_init_9 rfl rfl rfl ⟨(by first | decide | assumption), (by first | decide | (simp only [zx1, zx3, zx5, zx6, zx13, zx14, zx15, zx16, zx17, zx18, zx19, zx22, zx23, zx24, zx25, zx26, zx27, zx28]; omega))⟩ rfl ?_
    refine g_aload_n (n := 13) dX1_init_12 rfl rfl ?_
    refine g_bipush (n := 15) dX1_init_13 rfl k_bp_8 ?_
    refine g_newa (n := 17) dX1_init_15 rfl ka_int rfl (t := 0) rfl (fun _ q => by cases q) rfl (Nat.le_of_ble_eq_true rfl) rfl (len := 8) (k := 14) (i := i) rfl (by decide) (fun _ => rfl) (z_lfL i hi 6 (by decide)) (by first | decide | omega) (by first | decide | (dsimp only; omega)) ?_
    refine gw_X1_15 (n := 20) dX1_init_17 rfl rfl rfl ⟨(by first | decide | assumption), (by first | decide | (simp only [zx1, zx3, zx5, zx6, zx13, zx14, zx15, zx16, zx17, zx18, zx19, zx22, zx23, zx24, zx25, zx26, zx27, zx28]; omega))⟩ rfl ?_
    refine g_aload_n (n := 21) dX1_init_20 rfl rfl ?_
    refine g_bipush (n := 23) dX1_init_21 rfl k_bp_8 ?_
    refine g_newa (n := 25) dX1_init_23 rfl ka_int rfl (t := 0) rfl (fun _ q => by cases q) rfl (Nat.le_of_ble_eq_true rfl) rfl (len := 8) (k := 15) (i := i) rfl (by decide) (fun _ => rfl) (z_lfL i hi 7 (by decide)) (by first | decide | omega) (by first | decide | (dsimp only; omega)) ?_
    refine gw_X1_18 (n := 28) dX1_init_25 rfl rfl rfl ⟨(by first | decide | assumption), (by first | decide | (simp only [zx1, zx3, zx5, zx6, zx13, zx14, zx15, zx16, zx17, zx18, zx19, zx22, zx23, zx24, zx25, zx26, zx27, zx28]; omega))⟩ rfl ?_
    refine g_aload_n (n := 29) dX1_init_28 rfl rfl ?_
    refine g_bipush (n := 31) dX1_init_29 rfl k_bp_8 ?_
    refine g_newa (n := 33) dX1_init_31 rfl ka_int rfl (t := 0) rfl (fun _ q => by cases q) rfl (Nat.le_of_ble_eq_true rfl) rfl (len := 8) (k := 16) (i := i) rfl (by decide) (fun _ => rfl) (z_lfL i hi 8 (by decide)) (by first | decide | omega) (by first | decide | (dsimp only; omega)) ?_
    refine gw_X1_21 (n := 36) dX1_init_33 rfl rfl rfl ⟨(by first | decide | assumption), (by first | decide | (simp only [zx1, zx3, zx5, zx6, zx13, zx14, zx15, zx16, zx17, zx18, zx19, zx22, zx23, zx24, zx25, zx26, zx27, zx28]; omega))⟩ rfl ?_
    refine g_aload_n (n := 37) dX1_init_36 rfl rfl ?_
    refine g_bipush (n := 39) dX1_init_37 rfl k_bp_8 ?_
    refine g_newa (n := 41) dX1_init_39 rfl ka_int rfl (t := 0) rfl (fun _ q => by cases q) rfl (Nat.le_of_ble_eq_true rfl) rfl (len := 8) (k := 17) (i := i) rfl (by decide) (fun _ => rfl) (z_lfL i hi 9 (by decide)) (by first | decide | omega) (by first | decide | (dsimp only; omega)) ?_
    refine gw_X1_24 (n := 44) dX1_init_41 rfl rfl rfl ⟨(by first | decide | assumption), (by first | decide | (simp only [zx1, zx3, zx5, zx6, zx13, zx14, zx15, zx16, zx17, zx18, zx19, zx22, zx23, zx24, zx25, zx26, zx27, zx28]; omega))⟩ rfl ?_
    exact g_return dX1_init_44 rfl rfl rfl
theorem n_neigh (hi : i < 10) : ∃ N' M', zFr (fun k a => a = i ∧ (k = 5 ∨ (22 ≤ k ∧ k ≤ 26))) Nl N' M M' ∧ (∀ j, j < 5 → N' 5 i j = false) ∧ ((∀ k, 22 ≤ k → k ≤ 26 → k ≠ 23 → M' k i = fun _ => 0) ∧ ∀ j, j < 4 → M' 23 i j = nI 20) ∧ zC w mX5_init (d + 1) [vR 5 i] (z_lb i + 11, Nl, M, O) zrV (z_lb i + 11 + 1 + 1 + 1 + 1 + 1, N', M', O) := by
  have hb := z_lbL i hi
  obtain ⟨N1, hN1⟩ : ∃ N1, N1 = u3 (u2 (u3 (u2 (u3 (u2 (u3 (u2 (u3 (u2 Nl 22 i (fun _ => true)) 5 i 0 false) 23 i (fun _ => true)) 5 i 1 false) 24 i (fun _ => true)) 5 i 2 false) 25 i (fun _ => true)) 5 i 3 false) 26 i (fun _ => true)) 5 i 4 false := ⟨_, rfl⟩
  obtain ⟨B, hB⟩ : ∃ B, B = u2 (u2 (u2 (u2 (u2 M 22 i (fun _ => 0)) 23 i (fun _ => 0)) 24 i (fun _ => 0)) 25 i (fun _ => 0)) 26 i (fun _ => 0) := ⟨_, rfl⟩
  have nl : ∀ j, j < 5 → N1 5 i j = false := fun j hj => by
    rw [hN1]
    obtain e | e | e | e | e : j = 0 ∨ j = 1 ∨ j = 2 ∨ j = 3 ∨ j = 4 := by omega
    all_goals (subst e; simp [u2, u3])
  have n1 : N1 5 i 1 = false := nl 1 (by decide)
  refine ⟨N1, u2 B 23 i (xfl (fun _ => nI 20) (B 23 i) 4), ?_, nl, ⟨?_, ?_⟩, ?_⟩
  · intro k a q
    rw [hN1, u3_f (by omega), u2_ne (by omega), u3_f (by omega), u2_ne (by omega), u3_f (by omega), u2_ne (by omega), u3_f (by omega), u2_ne (by omega), u3_f (by omega), u2_ne (by omega)]
    rw [u2_ne (by omega), hB, u2_ne (by omega), u2_ne (by omega), u2_ne (by omega), u2_ne (by omega), u2_ne (by omega)]
    exact ⟨rfl, rfl⟩
  · intro k h1 h2 h3
    rw [u2_ne (by omega), hB]
    obtain e | e | e | e : k = 22 ∨ k = 24 ∨ k = 25 ∨ k = 26 := by omega
    all_goals (subst e; simp [u2])
  · intro j hj
    rw [u2_self]
    exact xfl_in hj
  · refine zC_of (cr := 0) (L0 := [vR 5 i, vU]) rfl (by decide) (by decide) rfl (Nat.le_of_ble_eq_true rfl) rfl ?_
    refine g_aload_n (n := 1) dX5_init_0 rfl rfl ?_
    refine g_objI (n := 4) dX5_init_1 rfl ko_X5_3 ko_1 ko_2 (by omega) ?_ rfl
    refine g_aload_n (n := 5) dX5_init_4 rfl rfl ?_
    refine g_bipush (n := 7) dX5_init_5 rfl k_bp_16 ?_
    refine g_newa (n := 9) dX5_init_7 rfl ka_int rfl (t := 0) rfl (fun _ q => by cases q) rfl (Nat.le_of_ble_eq_true rfl) rfl (len := 16) (k := 22) (i := i) rfl (by decide) (fun _ => rfl) (z_lfL i hi 11 (by decide)) (by first | decide | omega) (by first | decide | (dsimp only; omega)) ?_
    refine gw_X5_9 (n := 12) dX5_init_9 rfl rfl rfl ⟨(by first | decide | assumption), (by first | decide | (simp only [zx1, zx3, zx5, zx6, zx13, zx14, zx15, zx16, zx17, zx18, zx19, zx22, zx23, zx24, zx25, zx26, zx27, zx28]; omega))⟩ rfl ?_
    refine g_aload_n (n := 13) dX5_init_12 rfl rfl ?_
    refine g_iconst (n := 14) dX5_init_13 rfl k_ic_4 ?_
    refine g_newa (n := 16) dX5_init_14 rfl ka_int rfl (t := 0) rfl (fun _ q => by cases q) rfl (Nat.le_of_ble_eq_true rfl) rfl (len := 4) (k := 23) (i := i) rfl (by decide) (fun _ => rfl) (z_lfL i hi 12 (by decide)) (by first | decide | omega) (by first | decide | (dsimp only; omega)) ?_
    refine gw_X5_15 (n := 19) dX5_init_16 rfl rfl rfl ⟨(by first | decide | assumption), (by first | decide | (simp only [zx1, zx3, zx5, zx6, zx13, zx14, zx15, zx16, zx17, zx18, zx19, zx22, zx23, zx24, zx25, zx26, zx27, zx28]; omega))⟩ rfl ?_
    refine g_aload_n (n := 20) dX5_init_19 rfl rfl ?_
    refine g_iconst (n := 21) dX5_init_20 rfl k_ic_4 ?_
    refine g_newa (n := 23) dX5_init_21 rfl ka_int rfl (t := 0) rfl (fun _ q => by cases q) rfl (Nat.le_of_ble_eq_true rfl) rfl (len := 4) (k := 24) (i := i) rfl (by decide) (fun _ => rfl) (z_lfL i hi 13 (by decide)) (by first | decide | omega) (by first | decide | (dsimp only; omega)) ?_
    refine gw_X5_18 (n := 26) dX5_init_23 rfl rfl rfl ⟨(by first | decide | assumption), (by first | decide | (simp only [zx1, zx3, zx5, zx6, zx13, zx14, zx15, zx16, zx17, zx18, zx19, zx22, zx23, zx24, zx25, zx26, zx27, zx28]; omega))⟩ rfl ?_
    refine g_aload_n (n := 27) dX5_init_26 rfl rfl ?_
    refine g_iconst (n := 28) dX5_init_27 rfl k_ic_4 ?_
    refine g_newa (n := 30) dX5_init_28 rfl ka_int rfl (t := 0) rfl (fun _ q => by cases q) rfl (Nat.le_of_ble_eq_true rfl) rfl (len := 4) (k := 25) (i := i) rfl (by decide) (fun _ => rfl) (z_lfL i hi 14 (by decide)) (by first | decide | omega) (by first | decide | (dsimp only; omega)) ?_
    refine gw_X5_21 (n := 33) dX5_init_30 rfl rfl rfl ⟨(by first | decide | assumption), (by first | decide | (simp only [zx1, zx3, zx5, zx6, zx13, zx14, zx15, zx16, zx17, zx18, zx19, zx22, zx23, zx24, zx25, zx26, zx27, zx28]; omega))⟩ rfl ?_
    refine g_aload_n (n := 34) dX5_init_33 rfl rfl ?_
    refine g_iconst (n := 35) dX5_init_34 rfl k_ic_4 ?_
    refine g_newa (n := 37) dX5_init_35 rfl ka_int rfl (t := 0) rfl (fun _ q => by cases q) rfl (Nat.le_of_ble_eq_true rfl) rfl (len := 4) (k := 26) (i := i) rfl (by decide) (fun _ => rfl) (z_lfL i hi 15 (by decide)) (by first | decide | omega) (by first | decide | (dsimp only; omega)) ?_
    refine gw_X5_24 (n := 40) dX5_init_37 rfl rfl rfl ⟨(by first | decide | assumption), (by first | decide | (simp only [zx1, zx3, zx5, zx6, zx13, zx14, zx15, zx16, zx17, zx18, zx19, zx22, zx23, zx24, zx25, zx26, zx27, zx28]; omega))⟩ rfl ?_
    rw [← hN1, ← hB]
    refine g_iconst (n := 41) dX5_init_40 rfl k_ic_0 ?_
    refine g_istore1 (n := 42) dX5_init_41 rfl (by decide) rfl ?_
    suffices H : zG w mX5_init (d + 1) 0 42 [vR 5 i, vI (nI 0)] [] (z_lb i + 11 + 1 + 1 + 1 + 1 + 1, N1, u2 B 23 i (xfl (fun _ => nI 20) (B 23 i) 0), O) zrV (z_lb i + 11 + 1 + 1 + 1 + 1 + 1, N1, u2 B 23 i (xfl (fun _ => nI 20) (B 23 i) 4), O) by
      rw [xfl_0, u2_id] at H
      exact H
    refine z_loop (fun t => zG w mX5_init (d + 1) 0 42 [vR 5 i, vI (nI t)] [] (z_lb i + 11 + 1 + 1 + 1 + 1 + 1, N1, u2 B 23 i (xfl (fun _ => nI 20) (B 23 i) t), O) zrV (z_lb i + 11 + 1 + 1 + 1 + 1 + 1, N1, u2 B 23 i (xfl (fun _ => nI 20) (B 23 i) 4), O)) 4 ?_ ?_ 0 (Nat.zero_le _)
    · refine g_iload_n (n := 43) dX5_init_42 rfl rfl ?_
      refine g_iconst (n := 44) dX5_init_43 rfl k_ic_4 ?_
      refine g_icmp_ge (n := 47) (t := 61) dX5_init_44 rfl (by decide) (fun _ => ?_) (fun q9 => absurd (Int32.le_refl _) q9)
      exact g_return dX5_init_61 rfl rfl rfl
    · intro t ht ih
      refine g_iload_n (n := 43) dX5_init_42 rfl rfl ?_
      refine g_iconst (n := 44) dX5_init_43 rfl k_ic_4 ?_
      refine g_icmp_ge (n := 47) (t := 61) dX5_init_44 rfl (by decide) (fun q9 => absurd q9 (nI_ge ht (by decide))) (fun _ => ?_)
      refine g_aload_n (n := 48) dX5_init_47 rfl rfl ?_
      refine gf_X5_15 (n := 51) dX5_init_48 rfl rfl ⟨(by first | decide | assumption), (by first | decide | (simp only [zx1, zx3, zx5, zx6, zx13, zx14, zx15, zx16, zx17, zx18, zx19, zx22, zx23, zx24, zx25, zx26, zx27, zx28]; omega))⟩ (by first | assumption | rfl) ?_
      refine g_iload_n (n := 52) dX5_init_51 rfl rfl ?_
      refine g_bipush (n := 54) dX5_init_52 rfl k_bp_20 ?_
      refine g_iast (n := 55) dX5_init_54 rfl (by decide) ⟨(by first | decide | assumption), (by first | decide | (simp only [zx1, zx3, zx5, zx6, zx13, zx14, zx15, zx16, zx17, zx18, zx19, zx22, zx23, zx24, zx25, zx26, zx27, zx28]; omega))⟩ rfl (show t < 4 from ht) ?_
      rw [u3_u2, xfl_s _ _ _ rfl]
      refine g_iinc1 (n := 58) dX5_init_55 rfl (by decide) rfl (z_inc1 _) ?_
      refine g_goto (n := 0) (t := 42) dX5_init_58 (by decide) ?_
      exact ih
/-- kinds that a land is made of -/
def kL (k : Nat) : Prop := k = 1 ∨ k = 3 ∨ k = 5 ∨ k = 6 ∨ (13 ≤ k ∧ k ≤ 19) ∨ (22 ≤ k ∧ k ≤ 28)
def nlL (N : Nat → Nat → Nat → Bool) (i : Nat) : Prop := (∀ j, j < 5 → N 3 i j = false) ∧ (∀ j, j < 5 → N 1 i j = false) ∧ (∀ j, j < 5 → N 5 i j = false) ∧ (∀ j, j < 2 → N 6 i j = false)
theorem n_land (hi : i < 10) (hm : M 3 i = fun _ => 0) : ∃ N' M', zFr (fun k a => a = i ∧ kL k) Nl N' M M' ∧ nlL N' i ∧ LandR M' i V0 ∧ zC w mX3_init (d + 3) [vR 3 i] (z_lb i + 1, Nl, M, O) zrV (z_lb i + 18, N', M', O) := by
  have hb := z_lbL i hi
  obtain ⟨N1, M1, f1, ⟨g10, g11⟩, ⟨h27, h28⟩, c1⟩ := n_roads (w := w) (d := d) (O := O) (Nl := u2 Nl 6 i (fun _ => true)) (M := u2 M 6 i (fun _ => 0)) hi
  obtain ⟨N2, M2, f2, g2, ⟨h2, h2o⟩, c2⟩ := n_exits (w := w) (d := d + 1) (O := O) (Nl := u2 (u3 N1 3 i 0 false) 1 i (fun _ => true)) (M := u2 M1 1 i (fun _ => 0)) hi
  obtain ⟨N3, M3, f3, g3, ⟨h3, h23⟩, c3⟩ := n_neigh (w := w) (d := d + 1) (O := O) (Nl := u2 (u3 N2 3 i 1 false) 5 i (fun _ => true)) (M := u2 M2 5 i (fun _ => 0)) hi
  have e3 : ∀ k, ¬ (k = 5 ∨ (22 ≤ k ∧ k ≤ 26)) → N3 k i = u3 N2 3 i 1 false k i ∧ M3 k i = M2 k i := fun k q => by
    obtain ⟨a, b⟩ := f3 k i (fun z => q z.2)
    exact ⟨a.trans (u2_ne (by omega)), b.trans (u2_ne (by omega))⟩
  have e2 : ∀ k, ¬ (k = 1 ∨ (13 ≤ k ∧ k ≤ 17)) → N2 k i = u3 N1 3 i 0 false k i ∧ M2 k i = M1 k i := fun k q => by
    obtain ⟨a, b⟩ := f2 k i (fun z => q z.2)
    exact ⟨a.trans (u2_ne (by omega)), b.trans (u2_ne (by omega))⟩
  have e1 : ∀ k, ¬ (k = 6 ∨ k = 27 ∨ k = 28) → N1 k i = Nl k i ∧ M1 k i = M k i := fun k q => by
    obtain ⟨a, b⟩ := f1 k i (fun z => q z.2)
    exact ⟨a.trans (u2_ne (by omega)), b.trans (u2_ne (by omega))⟩
  have d3 : M3 3 i = fun _ => 0 := by rw [(e3 3 (by omega)).2, (e2 3 (by omega)).2, (e1 3 (by omega)).2, hm]
  refine ⟨u3 (u2 (u3 (u2 (u3 N3 3 i 2 false) 18 i (fun _ => true)) 3 i 3 false) 19 i (fun _ => true)) 3 i 4 false, u2 (u2 M3 18 i (fun _ => 0)) 19 i (fun _ => 0), ?_, ⟨?_, ?_, ?_, ?_⟩, ?_, ?_⟩
  · intro k a q
    unfold kL at q
    rw [u3_f (by omega), u2_ne (by omega), u3_f (by omega), u2_ne (by omega), u3_f (by omega), u2_ne (by omega), u2_ne (by omega)]
    obtain ⟨a3, b3⟩ := f3 k a (by omega)
    obtain ⟨a2, b2⟩ := f2 k a (by omega)
    obtain ⟨a1, b1⟩ := f1 k a (by omega)
    rw [a3, b3, u2_ne (by omega), u3_f (by omega), u2_ne (by omega), a2, b2, u2_ne (by omega), u3_f (by omega), u2_ne (by omega), a1, b1, u2_ne (by omega), u2_ne (by omega)]
    exact ⟨rfl, rfl⟩
  · intro j hj
    have n3 : ∀ j, N3 3 i j = u3 N2 3 i 1 false 3 i j := fun j => congrFun (e3 3 (by omega)).1 j
    have n2 : ∀ j, N2 3 i j = u3 N1 3 i 0 false 3 i j := fun j => congrFun (e2 3 (by omega)).1 j
    obtain e | e | e | e | e : j = 0 ∨ j = 1 ∨ j = 2 ∨ j = 3 ∨ j = 4 := by omega
    · subst e
      rw [u3_nj (by decide), u2_ne (by omega), u3_nj (by decide), u2_ne (by omega), u3_nj (by decide), n3, u3_nj (by decide), n2]
      exact u3_self
    · subst e
      rw [u3_nj (by decide), u2_ne (by omega), u3_nj (by decide), u2_ne (by omega), u3_nj (by decide), n3]
      exact u3_self
    · subst e
      rw [u3_nj (by decide), u2_ne (by omega), u3_nj (by decide), u2_ne (by omega)]
      exact u3_self
    · subst e
      rw [u3_nj (by decide), u2_ne (by omega)]
      exact u3_self
    · subst e
      exact u3_self
  · intro j hj
    rw [u3_f (by omega), u2_ne (by omega), u3_f (by omega), u2_ne (by omega), u3_f (by omega), (e3 1 (by omega)).1, u3_f (by omega)]
    exact g2 j hj
  · intro j hj
    rw [u3_f (by omega), u2_ne (by omega), u3_f (by omega), u2_ne (by omega), u3_f (by omega)]
    exact g3 j hj
  · intro j hj
    rw [u3_f (by omega), u2_ne (by omega), u3_f (by omega), u2_ne (by omega), u3_f (by omega), (e3 6 (by omega)).1, u3_f (by omega), (e2 6 (by omega)).1, u3_f (by omega)]
    obtain e | e : j = 0 ∨ j = 1 := by omega
    · rw [e]; exact g10
    · rw [e]; exact g11
  · have k0 : ∀ k, k ≠ 18 → k ≠ 19 → u2 (u2 M3 18 i (fun _ => 0)) 19 i (fun _ => 0) k i = M3 k i := fun k a b => by rw [u2_ne (by omega), u2_ne (by omega)]
    have v : ∀ p, ¬ (2 ≤ p ∧ p < 66) → ¬ (123 ≤ p ∧ p < 127) → V0 p = 0 := fun p a b => by
      unfold V0
      rw [if_neg a, if_neg b]
      rfl
    have m1 : ∀ k, 13 ≤ k → k ≤ 17 → M3 k i = fun _ => 0 := fun k a b => by rw [(e3 k (by omega)).2]; exact h2 k a b
    have z5 : ∀ e, e < 8 → ∀ c, c < 5 → V0 (67 + c + 5 * e) = 0 := fun e he c hc => v _ (by omega) (by omega)
    refine ⟨fun j hj => ?_, fun j hj => ?_, ?_, ⟨fun e he => ?_, fun e he => ?_, fun e he => ?_, fun e he => ?_, fun e he => ?_⟩, ⟨fun j hj => ?_, fun j hj => ?_, fun j hj => ?_, fun j hj => ?_, fun j hj => ?_⟩, fun j hj => ?_, ?_, ?_, ?_, fun j hj => ?_⟩
    · rw [u2_ne (by omega), u2_self, v j (by omega) (by omega)]
    · rw [k0 27 (by decide) (by decide), (e3 27 (by omega)).2, (e2 27 (by omega)).2, h27, V0_r hj]
    · rw [k0 1 (by decide) (by decide), (e3 1 (by omega)).2, h2o, u2_self, v 66 (by decide) (by decide)]
    · rw [k0 13 (by decide) (by decide), m1 13 (by decide) (by decide)]; exact (z5 e he 0 (by decide)).symm
    · rw [k0 14 (by decide) (by decide), m1 14 (by decide) (by decide)]; exact (z5 e he 1 (by decide)).symm
    · rw [k0 15 (by decide) (by decide), m1 15 (by decide) (by decide)]; exact (z5 e he 2 (by decide)).symm
    · rw [k0 16 (by decide) (by decide), m1 16 (by decide) (by decide)]; exact (z5 e he 3 (by decide)).symm
    · rw [k0 17 (by decide) (by decide), m1 17 (by decide) (by decide)]; exact (z5 e he 4 (by decide)).symm
    · rw [k0 22 (by decide) (by decide), h3 22 (by decide) (by decide) (by decide), v _ (by omega) (by omega)]
    · rw [k0 23 (by decide) (by decide), h23 j hj]
      unfold V0
      rw [if_neg (by omega), if_pos (by omega)]
    · rw [k0 24 (by decide) (by decide), h3 24 (by decide) (by decide) (by decide), v _ (by omega) (by omega)]
    · rw [k0 25 (by decide) (by decide), h3 25 (by decide) (by decide) (by decide), v _ (by omega) (by omega)]
    · rw [k0 26 (by decide) (by decide), h3 26 (by decide) (by decide) (by decide), v _ (by omega) (by omega)]
    · rw [u2_self, v _ (by omega) (by omega)]
    · rw [k0 3 (by decide) (by decide), d3, v _ (by omega) (by omega)]
    · rw [k0 3 (by decide) (by decide), d3, v _ (by omega) (by omega)]
    · rw [k0 3 (by decide) (by decide), d3, v _ (by omega) (by omega)]
    · rw [k0 28 (by decide) (by decide), (e3 28 (by omega)).2, (e2 28 (by omega)).2, h28 j hj]
      exact fw_cong (fun c hc => (V0_r hc).symm) j hj
  · refine zC_of (cr := 0) (L0 := [vR 3 i]) rfl (by decide) (by decide) rfl (Nat.le_of_ble_eq_true rfl) rfl ?_
    refine g_aload_n (n := 1) dX3_init_0 rfl rfl ?_
    refine g_objI (n := 4) dX3_init_1 rfl ko_X3_3 ko_1 ko_2 (by omega) ?_ rfl
    refine g_aload_n (n := 5) dX3_init_4 rfl rfl ?_
    refine g_new (n := 8) dX3_init_5 rfl (k := 6) (i := i) rfl z_in6 tyX6_ok kn_X3_9 ki_6.1 ki_6.2 (by decide) rfl z_df6 (z_lfL i hi 1 (by decide)) (by first | decide | omega) (by first | decide | (dsimp only; omega)) ?_
    refine g_dup (n := 9) dX3_init_8 rfl rfl ?_
    refine g_cIn (n := 12) c1 dX3_init_9 rfl kw_X3_11 (Nat.le_of_ble_eq_true rfl) (by constructor <;> first | decide | (dsimp only; omega)) ?_ rfl
    refine gw_X3_12 (n := 15) dX3_init_12 rfl rfl rfl ⟨(by first | decide | assumption), (by first | decide | (simp only [zx1, zx3, zx5, zx6, zx13, zx14, zx15, zx16, zx17, zx18, zx19, zx22, zx23, zx24, zx25, zx26, zx27, zx28]; omega))⟩ rfl ?_
    refine g_aload_n (n := 16) dX3_init_15 rfl rfl ?_
    refine g_new (n := 19) dX3_init_16 rfl (k := 1) (i := i) rfl z_in1 tyX1_ok kn_X3_18 ki_1.1 ki_1.2 (by decide) rfl z_df1 (z_lfL i hi 4 (by decide)) (by first | decide | omega) (by first | decide | (dsimp only; omega)) ?_
    refine g_dup (n := 20) dX3_init_19 rfl rfl ?_
    refine g_cINn (n := 23) c2 dX3_init_20 rfl kw_X3_20 (Nat.le_of_ble_eq_true rfl) (by constructor <;> first | decide | (dsimp only; omega)) ?_ rfl
    refine gw_X3_21 (n := 26) dX3_init_23 rfl rfl rfl ⟨(by first | decide | assumption), (by first | decide | (simp only [zx1, zx3, zx5, zx6, zx13, zx14, zx15, zx16, zx17, zx18, zx19, zx22, zx23, zx24, zx25, zx26, zx27, zx28]; omega))⟩ rfl ?_
    refine g_aload_n (n := 27) dX3_init_26 rfl rfl ?_
    refine g_new (n := 30) dX3_init_27 rfl (k := 5) (i := i) rfl z_in5 tyX5_ok kn_X3_25 ki_5.1 ki_5.2 (by decide) rfl z_df5 (z_lfL i hi 10 (by decide)) (by first | decide | omega) (by first | decide | (dsimp only; omega)) ?_
    refine g_dup (n := 31) dX3_init_30 rfl rfl ?_
    refine g_cIn (n := 34) c3 dX3_init_31 rfl kw_X3_27 (Nat.le_of_ble_eq_true rfl) (by constructor <;> first | decide | (dsimp only; omega)) ?_ rfl
    refine gw_X3_28 (n := 37) dX3_init_34 rfl rfl rfl ⟨(by first | decide | assumption), (by first | decide | (simp only [zx1, zx3, zx5, zx6, zx13, zx14, zx15, zx16, zx17, zx18, zx19, zx22, zx23, zx24, zx25, zx26, zx27, zx28]; omega))⟩ rfl ?_
    refine g_aload_n (n := 38) dX3_init_37 rfl rfl ?_
    refine g_iconst (n := 39) dX3_init_38 rfl k_ic_2 ?_
    refine g_newa (n := 41) dX3_init_39 rfl ka_int rfl (t := 0) rfl (fun _ q => by cases q) rfl (Nat.le_of_ble_eq_true rfl) rfl (len := 2) (k := 18) (i := i) rfl (by decide) (fun _ => rfl) (z_lfL i hi 16 (by decide)) (by first | decide | omega) (by first | decide | (dsimp only; omega)) ?_
    refine gw_X3_32 (n := 44) dX3_init_41 rfl rfl rfl ⟨(by first | decide | assumption), (by first | decide | (simp only [zx1, zx3, zx5, zx6, zx13, zx14, zx15, zx16, zx17, zx18, zx19, zx22, zx23, zx24, zx25, zx26, zx27, zx28]; omega))⟩ rfl ?_
    refine g_aload_n (n := 45) dX3_init_44 rfl rfl ?_
    refine g_bipush (n := 47) dX3_init_45 rfl k_bp_32 ?_
    refine g_newa (n := 49) dX3_init_47 rfl ka_int rfl (t := 0) rfl (fun _ q => by cases q) rfl (Nat.le_of_ble_eq_true rfl) rfl (len := 32) (k := 19) (i := i) rfl (by decide) (fun _ => rfl) (z_lfL i hi 17 (by decide)) (by first | decide | omega) (by first | decide | (dsimp only; omega)) ?_
    refine gw_X3_36 (n := 52) dX3_init_49 rfl rfl rfl ⟨(by first | decide | assumption), (by first | decide | (simp only [zx1, zx3, zx5, zx6, zx13, zx14, zx15, zx16, zx17, zx18, zx19, zx22, zx23, zx24, zx25, zx26, zx27, zx28]; omega))⟩ rfl ?_
    exact g_return dX3_init_52 rfl rfl rfl
end LN1

