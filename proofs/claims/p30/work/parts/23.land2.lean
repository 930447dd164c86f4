/-! A road laid, loaves taken, counts begun anew, the next town. -/
section L5
variable {w : zWp} {d i : Nat} {M : Nat → Nat → Nat → Int32} {O : Nat → Int64}
/-- the roads' rows behind a road laid: costs, then the distances measured -/
def xlay (R : Nat → Int32) (a b : Nat) (x : Int32) : Nat → Int32 := upd (upd R (8 * a + b) x) (8 * b + a) x
def mLay (M : Nat → Nat → Nat → Int32) (i a b : Nat) (x : Int32) : Nat → Nat → Nat → Int32 :=
  u2 (u2 M 27 i (xlay (M 27 i) a b x)) 28 i (fwO (xfl (fwI (xlay (M 27 i) a b x)) (M 28 i) 64) 8)
theorem xlay_nn {R : Nat → Int32} {a b : Nat} {x : Int32} (h : ∀ j, j < 64 → 0 ≤ R j) (hx : 0 ≤ x) : ∀ j, j < 64 → 0 ≤ xlay R a b x j := by
  intro j hj
  unfold xlay upd
  by_cases h1 : j = 8 * b + a
  · rw [if_pos h1]; exact hx
  · rw [if_neg h1]
    by_cases h2 : j = 8 * a + b
    · rw [if_pos h2]; exact hx
    · rw [if_neg h2]; exact h j hj
theorem c_rlay (hi : i < 10) {a b : Nat} (ha : a < 8) (hb : b < 8) (x : Int32) (hx : 0 ≤ x) (hc : ∀ j, j < 64 → 0 ≤ M 27 i j) : zC w mX6_lay (d + 3) [vR 6 i, vI (nI a), vI (nI b), vI x] (zP M O) (zrI (M 27 i (8 * a + b))) (zP (mLay M i a b x) O) := by
  refine zC_of (cr := 0) (L0 := [vR 6 i, vI (nI a), vI (nI b), vI x, vU]) rfl (by decide) (by decide) rfl (Nat.le_of_ble_eq_true rfl) rfl ?_
  have c1 := c_rcost (w := w) (d := d + 1) (M := M) (O := O) hi (nI a) (nI b)
  rw [xg2_nI ha (by decide) hb (by decide)] at c1
  refine g_aload_n (n := 1) dX6_lay_0 rfl rfl ?_
  refine g_iload_n (n := 2) dX6_lay_1 rfl rfl ?_
  refine g_iload_n (n := 3) dX6_lay_2 rfl rfl ?_
  refine g_cVv (n := 6) c1 dX6_lay_3 rfl kw_X6_30 rfl (by decide) (z_lvP (by first | decide | assumption)) (Nat.le_of_ble_eq_true rfl) ⟨Nat.le_refl _, Nat.le_refl _⟩ ?_ rfl
  refine g_istore4 (n := 8) dX6_lay_6 rfl (by decide) rfl ?_
  refine g_iload_n (n := 9) dX6_lay_8 rfl rfl ?_
  refine g_cSNv (n := 12) (c_isTown (nI a)) dX6_lay_9 rfl kw_X6_25 (Nat.le_of_ble_eq_true rfl) ⟨Nat.le_refl _, Nat.le_refl _⟩ ?_ rfl
  refine g_if_eq (n := 15) (t := 50) dX6_lay_12 rfl (by decide) (fun q9 => absurd q9 (by rw [z_ok_nI ha (by decide)]; decide)) (fun _ => ?_)
  refine g_iload_n (n := 16) dX6_lay_15 rfl rfl ?_
  refine g_cSNv (n := 19) (c_isTown (nI b)) dX6_lay_16 rfl kw_X6_25 (Nat.le_of_ble_eq_true rfl) ⟨Nat.le_refl _, Nat.le_refl _⟩ ?_ rfl
  refine g_if_eq (n := 22) (t := 50) dX6_lay_19 rfl (by decide) (fun q9 => absurd q9 (by rw [z_ok_nI hb (by decide)]; decide)) (fun _ => ?_)
  refine g_aload_n (n := 23) dX6_lay_22 rfl rfl ?_
  refine gf_X6_9 (n := 26) dX6_lay_23 rfl rfl (z_lvP (by first | decide | assumption)) rfl ?_
  refine g_iload_n (n := 27) dX6_lay_26 rfl rfl ?_
  refine g_bipush (n := 29) dX6_lay_27 rfl k_bp_8 ?_
  refine g_imul (n := 30) dX6_lay_29 rfl ?_
  refine g_iload_n (n := 31) dX6_lay_30 rfl rfl ?_
  refine g_iadd (n := 32) dX6_lay_31 rfl ?_
  refine g_iload_n (n := 33) dX6_lay_32 rfl rfl ?_
  refine g_iast (a := (8 * a + b)) (n := 34) dX6_lay_33 rfl (by decide) (z_lvP (by first | decide | assumption)) (by rw [pk_mul, nI_add, Nat.mul_comm]) (by show _ < 64; first | assumption | omega) ?_
  refine g_aload_n (n := 35) dX6_lay_34 rfl rfl ?_
  refine gf_X6_9 (n := 38) dX6_lay_35 rfl rfl (z_lvP (by first | decide | assumption)) rfl ?_
  refine g_iload_n (n := 39) dX6_lay_38 rfl rfl ?_
  refine g_bipush (n := 41) dX6_lay_39 rfl k_bp_8 ?_
  refine g_imul (n := 42) dX6_lay_41 rfl ?_
  refine g_iload_n (n := 43) dX6_lay_42 rfl rfl ?_
  refine g_iadd (n := 44) dX6_lay_43 rfl ?_
  refine g_iload_n (n := 45) dX6_lay_44 rfl rfl ?_
  refine g_iast (a := (8 * b + a)) (n := 46) dX6_lay_45 rfl (by decide) (z_lvP (by first | decide | assumption)) (by rw [pk_mul, nI_add, Nat.mul_comm]) (by show _ < 64; first | assumption | omega) ?_
  rw [show u3 M 27 i (8 * a + b) x = u2 M 27 i (upd (M 27 i) (8 * a + b) x) from (u3_eq M 27 i (8 * a + b) x).symm, u3_u2]
  have c2 := c_rmeasure (w := w) (d := d + 1) (i := i) (nn := 196) (Nl := fun _ _ _ => false) (M := u2 M 27 i (xlay (M 27 i) a b x)) (O := O) (z_lvP hi) (z_lvP hi) (z_lvP hi) rfl rfl (by rw [u2_self]; exact xlay_nn hc hx)
  rw [u2_self] at c2
  refine g_aload_n (n := 47) dX6_lay_46 rfl rfl ?_
  refine g_cVn (n := 50) c2 dX6_lay_47 rfl kw_X6_18 rfl (by decide) (z_lvP (by first | decide | assumption)) (Nat.le_of_ble_eq_true rfl) ⟨Nat.le_refl _, Nat.le_refl _⟩ ?_ rfl
  refine g_iload (n := 52) dX6_lay_50 rfl rfl ?_
  exact g_ireturn dX6_lay_52 rfl rfl rfl rfl
theorem c_rnumber (hi : i < 10) : zC w mX6_number d [vR 6 i] (zP M O) (zrI (sm (fun a => sm (fun b => zb (decide (0 < M 27 i (8 * a + b)))) a) 8)) (zP M O) := by
  obtain ⟨g, hg⟩ : ∃ g : Nat → Nat → Int32, g = fun a b => zb (decide (0 < M 27 i (8 * a + b))) := ⟨_, rfl⟩
  have hz : ∀ x : Int32, x + nI 0 = x := fun x => Int32.add_zero x
  have e0 : (fun a => sm (fun b => zb (decide (0 < M 27 i (8 * a + b)))) a) = fun a => sm (g a) a := by rw [hg]
  rw [e0]
  refine zC_of (cr := 0) (L0 := [vR 6 i, vU, vU, vU]) rfl (by decide) (by decide) rfl (Nat.le_of_ble_eq_true rfl) rfl ?_
  refine g_iconst (n := 1) dX6_number_0 rfl k_ic_0 ?_
  refine g_istore1 (n := 2) dX6_number_1 rfl (by decide) rfl ?_
  refine g_iconst (n := 3) dX6_number_2 rfl k_ic_0 ?_
  refine g_istore2 (n := 4) dX6_number_3 rfl (by decide) rfl ?_
  refine z_loop (fun a => zG w mX6_number d 0 4 [vR 6 i, vI (sm (fun a => sm (g a) a) a), vI (nI a), vU] [] (zP M O) (zrI (sm (fun a => sm (g a) a) 8)) (zP M O)) 8 ?_ ?_ 0 (Nat.zero_le _)
  · refine g_iload_n (n := 5) dX6_number_4 rfl rfl ?_
    refine g_bipush (n := 7) dX6_number_5 rfl k_bp_8 ?_
    refine g_icmp_ge (n := 10) (t := 51) dX6_number_7 rfl (by decide) (fun _ => ?_) (fun q9 => absurd (Int32.le_refl _) q9)
    refine g_iload_n (n := 52) dX6_number_51 rfl rfl ?_
    exact g_ireturn dX6_number_52 rfl rfl rfl rfl
  · intro a ha ih
    refine g_iload_n (n := 5) dX6_number_4 rfl rfl ?_
    refine g_bipush (n := 7) dX6_number_5 rfl k_bp_8 ?_
    refine g_icmp_ge (n := 10) (t := 51) dX6_number_7 rfl (by decide) (fun q9 => absurd q9 (nI_ge ha (by decide))) (fun _ => ?_)
    refine g_iconst (n := 11) dX6_number_10 rfl k_ic_0 ?_
    refine g_istore3 (n := 12) dX6_number_11 rfl (by decide) rfl ?_
    suffices h : zG w mX6_number d 0 12 [vR 6 i, vI (sm (fun a => sm (g a) a) a + sm (g a) 0), vI (nI a), vI (nI 0)] [] (zP M O) (zrI (sm (fun a => sm (g a) a) 8)) (zP M O) by
      rw [show sm (g a) 0 = nI 0 from rfl, hz] at h
      exact h
    refine z_loop (fun b => zG w mX6_number d 0 12 [vR 6 i, vI (sm (fun a => sm (g a) a) a + sm (g a) b), vI (nI a), vI (nI b)] [] (zP M O) (zrI (sm (fun a => sm (g a) a) 8)) (zP M O)) a ?_ ?_ 0 (Nat.zero_le _)
    · refine g_iload_n (n := 13) dX6_number_12 rfl rfl ?_
      refine g_iload_n (n := 14) dX6_number_13 rfl rfl ?_
      refine g_icmp_ge (n := 17) (t := 45) dX6_number_14 rfl (by decide) (fun _ => ?_) (fun q9 => absurd (Int32.le_refl _) q9)
      refine g_iinc2 (n := 48) dX6_number_45 rfl (by decide) rfl (z_inc1 _) ?_
      refine g_goto (n := 0) (t := 4) dX6_number_48 (by decide) ?_
      refine g_drop 3 ?_
      exact ih
    · intro b hb ih2
      have e1 : sm (fun a => sm (g a) a) a + sm (g a) (b + 1) = sm (fun a => sm (g a) a) a + sm (g a) b + g a b := (Int32.add_assoc _ _ _).symm
      rw [e1, hg] at ih2
      rw [hg]
      dsimp only at ih2 ⊢
      refine g_iload_n (n := 13) dX6_number_12 rfl rfl ?_
      refine g_iload_n (n := 14) dX6_number_13 rfl rfl ?_
      refine g_icmp_ge (n := 17) (t := 45) dX6_number_14 rfl (by decide) (fun q9 => absurd q9 (nI_ge hb (by omega))) (fun _ => ?_)
      refine g_iload_n (n := 18) dX6_number_17 rfl rfl ?_
      refine g_aload_n (n := 19) dX6_number_18 rfl rfl ?_
      refine gf_X6_9 (n := 22) dX6_number_19 rfl rfl (z_lvP (by first | decide | assumption)) rfl ?_
      refine g_iload_n (n := 23) dX6_number_22 rfl rfl ?_
      refine g_bipush (n := 25) dX6_number_23 rfl k_bp_8 ?_
      refine g_imul (n := 26) dX6_number_25 rfl ?_
      refine g_iload_n (n := 27) dX6_number_26 rfl rfl ?_
      refine g_iadd (n := 28) dX6_number_27 rfl ?_
      refine g_iald (a := (8 * a + b)) (n := 29) dX6_number_28 rfl (by decide) (z_lvP (by first | decide | assumption)) (by rw [pk_mul, nI_add, Nat.mul_comm]) (by show _ < 64; first | assumption | omega) ?_
      refine g_if_le (n := 32) (t := 36) dX6_number_29 rfl (by decide) (fun c29 => ?_) (fun c29 => ?_)
      · rw [decide_eq_false (Int32.not_lt.mpr c29)] at ih2
        refine g_iconst (n := 37) dX6_number_36 rfl k_ic_0 ?_
        refine g_iadd (n := 38) dX6_number_37 rfl ?_
        refine g_istore1 (n := 39) dX6_number_38 rfl (by decide) rfl ?_
        refine g_iinc3 (n := 42) dX6_number_39 rfl (by decide) rfl (z_inc1 _) ?_
        refine g_goto (n := 0) (t := 12) dX6_number_42 (by decide) ?_
        exact ih2
      · rw [decide_eq_true (Int32.not_le.mp c29)] at ih2
        refine g_iconst (n := 33) dX6_number_32 rfl k_ic_1 ?_
        refine g_goto (n := 0) (t := 37) dX6_number_33 (by decide) ?_
        refine g_iadd (n := 38) dX6_number_37 rfl ?_
        refine g_istore1 (n := 39) dX6_number_38 rfl (by decide) rfl ?_
        refine g_iinc3 (n := 42) dX6_number_39 rfl (by decide) rfl (z_inc1 _) ?_
        refine g_goto (n := 0) (t := 12) dX6_number_42 (by decide) ?_
        exact ih2
theorem c_nanew (hi : i < 10) : zC w mX5_beginAnew d [vR 5 i] (zP M O) (zrI (sm (M 25 i) 4)) (zP (u2 (u2 M 25 i (xfl (fun _ => nI 0) (M 25 i) 4)) 24 i (xfl (fun _ => nI 0) (M 24 i) 4)) O) := by
  refine zC_of (cr := 0) (L0 := [vR 5 i, vU, vU]) rfl (by decide) (by decide) rfl (Nat.le_of_ble_eq_true rfl) rfl ?_
  refine g_iconst (n := 1) dX5_beginAnew_0 rfl k_ic_0 ?_
  refine g_istore1 (n := 2) dX5_beginAnew_1 rfl (by decide) rfl ?_
  refine g_iconst (n := 3) dX5_beginAnew_2 rfl k_ic_0 ?_
  refine g_istore2 (n := 4) dX5_beginAnew_3 rfl (by decide) rfl ?_
  suffices h : zG w mX5_beginAnew d 0 4 [vR 5 i, vI (sm (M 25 i) 0), vI (nI 0)] [] (zP (u2 (u2 M 25 i (xfl (fun _ => nI 0) (M 25 i) 0)) 24 i (xfl (fun _ => nI 0) (M 24 i) 0)) O) (zrI (sm (M 25 i) 4)) (zP (u2 (u2 M 25 i (xfl (fun _ => nI 0) (M 25 i) 4)) 24 i (xfl (fun _ => nI 0) (M 24 i) 4)) O) by
    rw [xfl_0, xfl_0, u2_id, u2_id] at h
    exact h
  refine z_loop (fun e => zG w mX5_beginAnew d 0 4 [vR 5 i, vI (sm (M 25 i) e), vI (nI e)] [] (zP (u2 (u2 M 25 i (xfl (fun _ => nI 0) (M 25 i) e)) 24 i (xfl (fun _ => nI 0) (M 24 i) e)) O) (zrI (sm (M 25 i) 4)) (zP (u2 (u2 M 25 i (xfl (fun _ => nI 0) (M 25 i) 4)) 24 i (xfl (fun _ => nI 0) (M 24 i) 4)) O)) 4 ?_ ?_ 0 (Nat.zero_le _)
  · refine g_iload_n (n := 5) dX5_beginAnew_4 rfl rfl ?_
    refine g_iconst (n := 6) dX5_beginAnew_5 rfl k_ic_4 ?_
    refine g_icmp_ge (n := 9) (t := 38) dX5_beginAnew_6 rfl (by decide) (fun _ => ?_) (fun q9 => absurd (Int32.le_refl _) q9)
    refine g_iload_n (n := 39) dX5_beginAnew_38 rfl rfl ?_
    exact g_ireturn dX5_beginAnew_39 rfl rfl rfl rfl
  · intro e he ih
    have e1 : u2 (u2 M 25 i (xfl (fun _ => nI 0) (M 25 i) e)) 24 i (xfl (fun _ => nI 0) (M 24 i) e) 25 i e = M 25 i e := by
      rw [u2_ne (by omega), u2_self]
      unfold xfl
      rw [if_neg (Nat.lt_irrefl _)]
    refine g_iload_n (n := 5) dX5_beginAnew_4 rfl rfl ?_
    refine g_iconst (n := 6) dX5_beginAnew_5 rfl k_ic_4 ?_
    refine g_icmp_ge (n := 9) (t := 38) dX5_beginAnew_6 rfl (by decide) (fun q9 => absurd q9 (nI_ge he (by decide))) (fun _ => ?_)
    refine g_iload_n (n := 10) dX5_beginAnew_9 rfl rfl ?_
    refine g_aload_n (n := 11) dX5_beginAnew_10 rfl rfl ?_
    refine gf_X5_21 (n := 14) dX5_beginAnew_11 rfl rfl (z_lvP (by first | decide | assumption)) rfl ?_
    refine g_iload_n (n := 15) dX5_beginAnew_14 rfl rfl ?_
    refine g_iald (n := 16) dX5_beginAnew_15 rfl (by decide) (z_lvP (by first | decide | assumption)) rfl (by show _ < 4; first | assumption | omega) ?_
    rw [e1]
    refine g_iadd (n := 17) dX5_beginAnew_16 rfl ?_
    refine g_istore1 (n := 18) dX5_beginAnew_17 rfl (by decide) rfl ?_
    refine g_aload_n (n := 19) dX5_beginAnew_18 rfl rfl ?_
    refine gf_X5_21 (n := 22) dX5_beginAnew_19 rfl rfl (z_lvP (by first | decide | assumption)) rfl ?_
    refine g_iload_n (n := 23) dX5_beginAnew_22 rfl rfl ?_
    refine g_iconst (n := 24) dX5_beginAnew_23 rfl k_ic_0 ?_
    refine g_iast (n := 25) dX5_beginAnew_24 rfl (by decide) (z_lvP (by first | decide | assumption)) rfl (by show _ < 4; first | assumption | omega) ?_
    refine g_aload_n (n := 26) dX5_beginAnew_25 rfl rfl ?_
    refine gf_X5_18 (n := 29) dX5_beginAnew_26 rfl rfl (z_lvP (by first | decide | assumption)) rfl ?_
    refine g_iload_n (n := 30) dX5_beginAnew_29 rfl rfl ?_
    refine g_iconst (n := 31) dX5_beginAnew_30 rfl k_ic_0 ?_
    refine g_iast (n := 32) dX5_beginAnew_31 rfl (by decide) (z_lvP (by first | decide | assumption)) rfl (by show _ < 4; first | assumption | omega) ?_
    have e2 : u3 (u3 (u2 (u2 M 25 i (xfl (fun _ => nI 0) (M 25 i) e)) 24 i (xfl (fun _ => nI 0) (M 24 i) e)) 25 i e (nI 0)) 24 i e (nI 0) = u2 (u2 M 25 i (xfl (fun _ => nI 0) (M 25 i) (e + 1))) 24 i (xfl (fun _ => nI 0) (M 24 i) (e + 1)) := by
      rw [← xfl_s (fun _ => nI 0) (M 25 i) e rfl, ← xfl_s (fun _ => nI 0) (M 24 i) e rfl]
      funext a b c
      unfold u3 u2 upd
      by_cases h1 : a = 24 ∧ b = i <;> by_cases h2 : a = 25 ∧ b = i <;> by_cases h3 : c = e <;> simp [h1, h2, h3] <;> omega
    rw [e2]
    refine g_iinc2 (n := 35) dX5_beginAnew_32 rfl (by decide) rfl (z_inc1 _) ?_
    refine g_goto (n := 0) (t := 4) dX5_beginAnew_35 (by decide) ?_
    exact ih
def mNtake (M : Nat → Nat → Nat → Int32) (i a : Nat) : Nat → Nat → Nat → Int32 :=
  if M 24 i a + nI 1 ≤ M 23 i a then u3 M 24 i a (M 24 i a + nI 1) else u3 (u3 (u3 M 24 i a (M 24 i a + nI 1)) 25 i a (M 25 i a + nI 1)) 26 i a (M 26 i a + nI 1)
theorem u3_self {α : Type} {f : Nat → Nat → Nat → α} {k i j : Nat} {v : α} : u3 f k i j v k i j = v := if_pos ⟨rfl, rfl, rfl⟩
theorem c_ntake (hi : i < 10) {a : Nat} (ha : a < 4) : zC w mX5_takeLoaf (d + 1) [vR 5 i, vI (nI a)] (zP M O) zrV (zP (mNtake M i a) O) := by
  refine zC_of (cr := 0) (L0 := [vR 5 i, vI (nI a)]) rfl (by decide) (by decide) rfl (Nat.le_of_ble_eq_true rfl) rfl ?_
  refine g_iload_n (n := 1) dX5_takeLoaf_0 rfl rfl ?_
  refine g_cSNv (n := 4) (c_isNeighbour (nI a)) dX5_takeLoaf_1 rfl kw_X5_31 (Nat.le_of_ble_eq_true rfl) ⟨Nat.le_refl _, Nat.le_refl _⟩ ?_ rfl
  refine g_if_ne (n := 7) (t := 8) dX5_takeLoaf_4 rfl (by decide) (fun _ => ?_) (fun q9 => absurd q9 (by rw [z_ok_nI ha (by decide)]; decide))
  refine g_aload_n (n := 9) dX5_takeLoaf_8 rfl rfl ?_
  refine gf_X5_18 (n := 12) dX5_takeLoaf_9 rfl rfl (z_lvP (by first | decide | assumption)) rfl ?_
  refine g_iload_n (n := 13) dX5_takeLoaf_12 rfl rfl ?_
  refine g_dup2 (n := 14) dX5_takeLoaf_13 rfl rfl rfl ?_
  refine g_iald (n := 15) dX5_takeLoaf_14 rfl (by decide) (z_lvP (by first | decide | assumption)) rfl (by show _ < 4; first | assumption | omega) ?_
  refine g_iconst (n := 16) dX5_takeLoaf_15 rfl k_ic_1 ?_
  refine g_iadd (n := 17) dX5_takeLoaf_16 rfl ?_
  refine g_iast (n := 18) dX5_takeLoaf_17 rfl (by decide) (z_lvP (by first | decide | assumption)) rfl (by show _ < 4; first | assumption | omega) ?_
  refine g_aload_n (n := 19) dX5_takeLoaf_18 rfl rfl ?_
  refine gf_X5_18 (n := 22) dX5_takeLoaf_19 rfl rfl (z_lvP (by first | decide | assumption)) rfl ?_
  refine g_iload_n (n := 23) dX5_takeLoaf_22 rfl rfl ?_
  refine g_iald (n := 24) dX5_takeLoaf_23 rfl (by decide) (z_lvP (by first | decide | assumption)) rfl (by show _ < 4; first | assumption | omega) ?_
  refine g_aload_n (n := 25) dX5_takeLoaf_24 rfl rfl ?_
  refine gf_X5_15 (n := 28) dX5_takeLoaf_25 rfl rfl (z_lvP (by first | decide | assumption)) rfl ?_
  refine g_iload_n (n := 29) dX5_takeLoaf_28 rfl rfl ?_
  refine g_iald (n := 30) dX5_takeLoaf_29 rfl (by decide) (z_lvP (by first | decide | assumption)) rfl (by show _ < 4; first | assumption | omega) ?_
  rw [u3_self]
  refine g_icmp_le (n := 33) (t := 53) dX5_takeLoaf_30 rfl (by decide) (fun c30 => ?_) (fun c30 => ?_)
  · unfold mNtake
    rw [if_pos (show M 24 i a + nI 1 ≤ M 23 i a from c30)]
    exact g_return dX5_takeLoaf_53 rfl rfl rfl
  · unfold mNtake
    rw [if_neg (show ¬ M 24 i a + nI 1 ≤ M 23 i a from c30)]
    refine g_aload_n (n := 34) dX5_takeLoaf_33 rfl rfl ?_
    refine gf_X5_21 (n := 37) dX5_takeLoaf_34 rfl rfl (z_lvP (by first | decide | assumption)) rfl ?_
    refine g_iload_n (n := 38) dX5_takeLoaf_37 rfl rfl ?_
    refine g_dup2 (n := 39) dX5_takeLoaf_38 rfl rfl rfl ?_
    refine g_iald (n := 40) dX5_takeLoaf_39 rfl (by decide) (z_lvP (by first | decide | assumption)) rfl (by show _ < 4; first | assumption | omega) ?_
    refine g_iconst (n := 41) dX5_takeLoaf_40 rfl k_ic_1 ?_
    refine g_iadd (n := 42) dX5_takeLoaf_41 rfl ?_
    refine g_iast (n := 43) dX5_takeLoaf_42 rfl (by decide) (z_lvP (by first | decide | assumption)) rfl (by show _ < 4; first | assumption | omega) ?_
    refine g_aload_n (n := 44) dX5_takeLoaf_43 rfl rfl ?_
    refine gf_X5_24 (n := 47) dX5_takeLoaf_44 rfl rfl (z_lvP (by first | decide | assumption)) rfl ?_
    refine g_iload_n (n := 48) dX5_takeLoaf_47 rfl rfl ?_
    refine g_dup2 (n := 49) dX5_takeLoaf_48 rfl rfl rfl ?_
    refine g_iald (n := 50) dX5_takeLoaf_49 rfl (by decide) (z_lvP (by first | decide | assumption)) rfl (by show _ < 4; first | assumption | omega) ?_
    refine g_iconst (n := 51) dX5_takeLoaf_50 rfl k_ic_1 ?_
    refine g_iadd (n := 52) dX5_takeLoaf_51 rfl ?_
    refine g_iast (n := 53) dX5_takeLoaf_52 rfl (by decide) (z_lvP (by first | decide | assumption)) rfl (by show _ < 4; first | assumption | omega) ?_
    exact g_return dX5_takeLoaf_53 rfl rfl rfl
/-- the first t from t0 on, of k, with p; none: -1 -/
def xft (p : Nat → Bool) : Nat → Nat → Int32
  | _, 0 => -1
  | t, k + 1 => if p t then nI t else xft p (t + 1) k
/-- which town is next on the way from a to g, by the costs R and the distances W -/
def xnp (R W : Nat → Int32) (a g t : Nat) : Bool := decide (0 < R (8 * a + t)) && (decide (xfar (W (8 * t + g)) ≠ -1) && decide (R (8 * a + t) + xfar (W (8 * t + g)) = xfar (W (8 * a + g))))
def xnext (R W : Nat → Int32) (a g : Nat) : Int32 := if xfar (W (8 * a + g)) = -1 then -1 else if a = g then nI g else xft (xnp R W a g) 0 8
theorem c_rnextN (hi : i < 10) {a : Nat} (ha : a < 8) (x : Int32) (hx : z_ok x 8 = false) : zC w mX6_nextTown (d + 2) [vR 6 i, vI (nI a), vI x] (zP M O) (zrI (-1)) (zP M O) := by
  refine zC_of (cr := 0) (L0 := [vR 6 i, vI (nI a), vI x, vU, vU, vU]) rfl (by decide) (by decide) rfl (Nat.le_of_ble_eq_true rfl) rfl ?_
  have c1 := c_rway (w := w) (d := d) (M := M) (O := O) hi (nI a) x
  rw [xg2_no (by rw [hx, Bool.and_false]), show xfar xFAR = -1 from by decide] at c1
  refine g_aload_n (n := 1) dX6_nextTown_0 rfl rfl ?_
  refine g_iload_n (n := 2) dX6_nextTown_1 rfl rfl ?_
  refine g_iload_n (n := 3) dX6_nextTown_2 rfl rfl ?_
  refine g_cVv (n := 6) c1 dX6_nextTown_3 rfl kw_X6_34 rfl (by decide) (z_lvP (by first | decide | assumption)) (Nat.le_of_ble_eq_true rfl) ⟨Nat.le_refl _, Nat.le_refl _⟩ ?_ rfl
  refine g_istore3 (n := 7) dX6_nextTown_6 rfl (by decide) rfl ?_
  refine g_iload_n (n := 8) dX6_nextTown_7 rfl rfl ?_
  refine g_iconst (n := 9) dX6_nextTown_8 rfl k_ic_m1 ?_
  refine g_icmp_eq (n := 12) (t := 17) dX6_nextTown_9 rfl (by decide) (fun _ => ?_) (fun q9 => absurd rfl q9)
  refine g_iload_n (n := 18) dX6_nextTown_17 rfl rfl ?_
  refine g_iconst (n := 19) dX6_nextTown_18 rfl k_ic_m1 ?_
  refine g_icmp_ne (n := 22) (t := 26) dX6_nextTown_19 rfl (by decide) (fun q9 => absurd rfl q9) (fun _ => ?_)
  refine g_iconst (n := 23) dX6_nextTown_22 rfl k_ic_m1 ?_
  refine g_goto (n := 0) (t := 27) dX6_nextTown_23 (by decide) ?_
  exact g_ireturn dX6_nextTown_27 rfl rfl rfl rfl
theorem c_rnext (hi : i < 10) {a g : Nat} (ha : a < 8) (hg : g < 8) : zC w mX6_nextTown (d + 2) [vR 6 i, vI (nI a), vI (nI g)] (zP M O) (zrI (xnext (M 27 i) (M 28 i) a g)) (zP M O) := by
  have cw : ∀ t, t < 8 → zC w mX6_way (d + 1) [vR 6 i, vI (nI t), vI (nI g)] (zP M O) (zrI (xfar (M 28 i (8 * t + g)))) (zP M O) := by
    intro t ht
    have c1 := c_rway (w := w) (d := d) (M := M) (O := O) hi (nI t) (nI g)
    rw [xg2_nI ht (by decide) hg (by decide)] at c1
    exact c1
  have cc : ∀ t, t < 8 → zC w mX6_cost (d + 1) [vR 6 i, vI (nI a), vI (nI t)] (zP M O) (zrI (M 27 i (8 * a + t))) (zP M O) := by
    intro t ht
    have c1 := c_rcost (w := w) (d := d) (M := M) (O := O) hi (nI a) (nI t)
    rw [xg2_nI ha (by decide) ht (by decide)] at c1
    exact c1
  refine zC_of (cr := 0) (L0 := [vR 6 i, vI (nI a), vI (nI g), vU, vU, vU]) rfl (by decide) (by decide) rfl (Nat.le_of_ble_eq_true rfl) rfl ?_
  unfold xnext
  refine g_aload_n (n := 1) dX6_nextTown_0 rfl rfl ?_
  refine g_iload_n (n := 2) dX6_nextTown_1 rfl rfl ?_
  refine g_iload_n (n := 3) dX6_nextTown_2 rfl rfl ?_
  refine g_cVv (n := 6) (cw a ha) dX6_nextTown_3 rfl kw_X6_34 rfl (by decide) (z_lvP (by first | decide | assumption)) (Nat.le_of_ble_eq_true rfl) ⟨Nat.le_refl _, Nat.le_refl _⟩ ?_ rfl
  refine g_istore3 (n := 7) dX6_nextTown_6 rfl (by decide) rfl ?_
  refine g_iload_n (n := 8) dX6_nextTown_7 rfl rfl ?_
  refine g_iconst (n := 9) dX6_nextTown_8 rfl k_ic_m1 ?_
  refine g_icmp_eq (n := 12) (t := 17) dX6_nextTown_9 rfl (by decide) (fun c9 => ?_) (fun c9 => ?_)
  · rw [if_pos c9]
    refine g_iload_n (n := 18) dX6_nextTown_17 rfl rfl ?_
    refine g_iconst (n := 19) dX6_nextTown_18 rfl k_ic_m1 ?_
    refine g_icmp_ne (n := 22) (t := 26) dX6_nextTown_19 rfl (by decide) (fun q9 => absurd c9 q9) (fun _ => ?_)
    refine g_iconst (n := 23) dX6_nextTown_22 rfl k_ic_m1 ?_
    refine g_goto (n := 0) (t := 27) dX6_nextTown_23 (by decide) ?_
    exact g_ireturn dX6_nextTown_27 rfl rfl rfl rfl
  · rw [if_neg c9]
    refine g_iload_n (n := 13) dX6_nextTown_12 rfl rfl ?_
    refine g_iload_n (n := 14) dX6_nextTown_13 rfl rfl ?_
    refine g_icmp_ne (n := 17) (t := 28) dX6_nextTown_14 rfl (by decide) (fun c14 => ?_) (fun c14 => ?_)
    · rw [if_neg (fun q => c14 (by rw [q]))]
      refine g_iconst (n := 29) dX6_nextTown_28 rfl k_ic_0 ?_
      refine g_istore4 (n := 31) dX6_nextTown_29 rfl (by decide) rfl ?_
      refine z_loop (fun t => zG w mX6_nextTown (d + 2) 0 31 [vR 6 i, vI (nI a), vI (nI g), vI (xfar (M 28 i (8 * a + g))), vI (nI t), vU] [] (zP M O) (zrI (xft (xnp (M 27 i) (M 28 i) a g) t (8 - t))) (zP M O)) 8 ?_ ?_ 0 (Nat.zero_le _)
      · refine g_iload (n := 33) dX6_nextTown_31 rfl rfl ?_
        refine g_bipush (n := 35) dX6_nextTown_33 rfl k_bp_8 ?_
        refine g_icmp_ge (n := 38) (t := 86) dX6_nextTown_35 rfl (by decide) (fun _ => ?_) (fun q9 => absurd (Int32.le_refl _) q9)
        refine g_iconst (n := 87) dX6_nextTown_86 rfl k_ic_m1 ?_
        exact g_ireturn dX6_nextTown_87 rfl rfl rfl rfl
      · intro t ht ih
        obtain ⟨k, hk⟩ : ∃ k, 8 - t = k + 1 := ⟨7 - t, by omega⟩
        have hk2 : 8 - (t + 1) = k := by omega
        rw [hk2] at ih
        rw [hk]
        have no : xnp (M 27 i) (M 28 i) a g t = false → zG w mX6_nextTown (d + 2) 0 80 [vR 6 i, vI (nI a), vI (nI g), vI (xfar (M 28 i (8 * a + g))), vI (nI t), vI (xfar (M 28 i (8 * t + g)))] [] (zP M O) (zrI (xft (xnp (M 27 i) (M 28 i) a g) t (k + 1))) (zP M O) := by
          intro hp
          have e1 : xft (xnp (M 27 i) (M 28 i) a g) t (k + 1) = xft (xnp (M 27 i) (M 28 i) a g) (t + 1) k := by
            show (if xnp (M 27 i) (M 28 i) a g t then nI t else _) = _
            rw [hp]
            rfl
          rw [e1]
          refine g_iinc4 (n := 83) dX6_nextTown_80 rfl (by decide) rfl (z_inc1 _) ?_
          refine g_goto (n := 0) (t := 31) dX6_nextTown_83 (by decide) ?_
          refine g_drop 5 ?_
          exact ih
        refine g_iload (n := 33) dX6_nextTown_31 rfl rfl ?_
        refine g_bipush (n := 35) dX6_nextTown_33 rfl k_bp_8 ?_
        refine g_icmp_ge (n := 38) (t := 86) dX6_nextTown_35 rfl (by decide) (fun q9 => absurd q9 (nI_ge ht (by decide))) (fun _ => ?_)
        refine g_aload_n (n := 39) dX6_nextTown_38 rfl rfl ?_
        refine g_iload (n := 41) dX6_nextTown_39 rfl rfl ?_
        refine g_iload_n (n := 42) dX6_nextTown_41 rfl rfl ?_
        refine g_cVv (n := 45) (cw t ht) dX6_nextTown_42 rfl kw_X6_34 rfl (by decide) (z_lvP (by first | decide | assumption)) (Nat.le_of_ble_eq_true rfl) ⟨Nat.le_refl _, Nat.le_refl _⟩ ?_ rfl
        refine g_istore5 (n := 47) dX6_nextTown_45 rfl (by decide) rfl ?_
        refine g_aload_n (n := 48) dX6_nextTown_47 rfl rfl ?_
        refine g_iload_n (n := 49) dX6_nextTown_48 rfl rfl ?_
        refine g_iload (n := 51) dX6_nextTown_49 rfl rfl ?_
        refine g_cVv (n := 54) (cc t ht) dX6_nextTown_51 rfl kw_X6_30 rfl (by decide) (z_lvP (by first | decide | assumption)) (Nat.le_of_ble_eq_true rfl) ⟨Nat.le_refl _, Nat.le_refl _⟩ ?_ rfl
        refine g_if_le (n := 57) (t := 80) dX6_nextTown_54 rfl (by decide) (fun c54 => ?_) (fun c54 => ?_)
        · exact no (by unfold xnp; rw [decide_eq_false (Int32.not_lt.mpr c54)]; rfl)
        · refine g_iload (n := 59) dX6_nextTown_57 rfl rfl ?_
          refine g_iconst (n := 60) dX6_nextTown_59 rfl k_ic_m1 ?_
          refine g_icmp_eq (n := 63) (t := 80) dX6_nextTown_60 rfl (by decide) (fun c60 => ?_) (fun c60 => ?_)
          · exact no (by unfold xnp; rw [decide_eq_false (p := xfar (M 28 i (8 * t + g)) ≠ -1) (fun q => q c60), Bool.false_and, Bool.and_false])
          · refine g_aload_n (n := 64) dX6_nextTown_63 rfl rfl ?_
            refine g_iload_n (n := 65) dX6_nextTown_64 rfl rfl ?_
            refine g_iload (n := 67) dX6_nextTown_65 rfl rfl ?_
            refine g_cVv (n := 70) (cc t ht) dX6_nextTown_67 rfl kw_X6_30 rfl (by decide) (z_lvP (by first | decide | assumption)) (Nat.le_of_ble_eq_true rfl) ⟨Nat.le_refl _, Nat.le_refl _⟩ ?_ rfl
            refine g_iload (n := 72) dX6_nextTown_70 rfl rfl ?_
            refine g_iadd (n := 73) dX6_nextTown_72 rfl ?_
            refine g_iload_n (n := 74) dX6_nextTown_73 rfl rfl ?_
            refine g_icmp_ne (n := 77) (t := 80) dX6_nextTown_74 rfl (by decide) (fun c74 => ?_) (fun c74 => ?_)
            · exact no (by unfold xnp; rw [decide_eq_false (p := M 27 i (8 * a + t) + xfar (M 28 i (8 * t + g)) = xfar (M 28 i (8 * a + g))) c74, Bool.and_false, Bool.and_false])
            · have hp : xnp (M 27 i) (M 28 i) a g t = true := by
                unfold xnp
                rw [decide_eq_true (Int32.not_le.mp c54), decide_eq_true (p := xfar (M 28 i (8 * t + g)) ≠ -1) c60, decide_eq_true (p := M 27 i (8 * a + t) + xfar (M 28 i (8 * t + g)) = xfar (M 28 i (8 * a + g))) c74]
                rfl
              have e1 : xft (xnp (M 27 i) (M 28 i) a g) t (k + 1) = nI t := by
                show (if xnp (M 27 i) (M 28 i) a g t then nI t else _) = _
                rw [hp]
                rfl
              rw [e1]
              refine g_iload (n := 79) dX6_nextTown_77 rfl rfl ?_
              exact g_ireturn dX6_nextTown_79 rfl rfl rfl rfl
    · have e1 : a = g := (nI_eq (by omega) (by omega)).mp c14
      rw [if_pos e1]
      refine g_iload_n (n := 18) dX6_nextTown_17 rfl rfl ?_
      refine g_iconst (n := 19) dX6_nextTown_18 rfl k_ic_m1 ?_
      refine g_icmp_ne (n := 22) (t := 26) dX6_nextTown_19 rfl (by decide) (fun _ => ?_) (fun q9 => absurd q9 c9)
      refine g_iload_n (n := 27) dX6_nextTown_26 rfl rfl ?_
      exact g_ireturn dX6_nextTown_27 rfl rfl rfl rfl
/-- a loaf that leaves: by exit e of neighbour q, for the pair p -/
def mLtake (M : Nat → Nat → Nat → Int32) (i e q p : Nat) (co : Int32) : Nat → Nat → Nat → Int32 :=
  let M1 := u3 M 3 i 5 (M 3 i 5 + nI 1)
  let M2 := u3 M1 3 i 7 (M1 3 i 7 + co)
  let M3 := u3 (u3 M2 16 i e (M2 16 i e + nI 1)) 17 i e (M2 17 i e + co)
  let M4 := mNtake M3 i q
  u3 M4 19 i p (M4 19 i p + nI 1)
theorem u3_nj {α : Type} {f : Nat → Nat → Nat → α} {k i j a b c : Nat} {v : α} (h : c ≠ j) : u3 f k i j v a b c = f a b c := if_neg (fun q => h q.2.2)
theorem u3_ni {α : Type} {f : Nat → Nat → Nat → α} {k i j a b c : Nat} {v : α} (h : b ≠ i) : u3 f k i j v a b c = f a b c := if_neg (fun q => h q.2.1)
theorem u3_nk {α : Type} {f : Nat → Nat → Nat → α} {k i j a b c : Nat} {v : α} (h : a ≠ k) : u3 f k i j v a b c = f a b c := if_neg (fun q => h q.1)
theorem nI_nm1 {e : Nat} (he : e < 2 ^ 31) : ¬ nI e = -1 := fun q => nI_pos he (by rw [q]; decide)
theorem c_ltakeN (hi : i < 10) (x y co : Int32) : zC w mX3_takeLoaf (d + 2) [vR 3 i, vI x, vI y, vI (-1), vI co] (zP M O) zrV (zP (u3 (u3 M 3 i 5 (M 3 i 5 + nI 1)) 3 i 6 (M 3 i 6 + nI 1)) O) := by
  refine zC_of (cr := 0) (L0 := [vR 3 i, vI x, vI y, vI (-1), vI co]) rfl (by decide) (by decide) rfl (Nat.le_of_ble_eq_true rfl) rfl ?_
  refine g_aload_n (n := 1) dX3_takeLoaf_0 rfl rfl ?_
  refine g_dup (n := 2) dX3_takeLoaf_1 rfl rfl ?_
  refine gf_X3_53 (n := 5) dX3_takeLoaf_2 rfl rfl (z_lvP (by first | decide | assumption)) ?_
  refine g_iconst (n := 6) dX3_takeLoaf_5 rfl k_ic_1 ?_
  refine g_iadd (n := 7) dX3_takeLoaf_6 rfl ?_
  refine gw_X3_53 (n := 10) dX3_takeLoaf_7 rfl rfl (z_lvP (by first | decide | assumption)) ?_
  refine g_iload_n (n := 11) dX3_takeLoaf_10 rfl rfl ?_
  refine g_iconst (n := 12) dX3_takeLoaf_11 rfl k_ic_m1 ?_
  refine g_icmp_ne (n := 15) (t := 26) dX3_takeLoaf_12 rfl (by decide) (fun q9 => absurd rfl q9) (fun _ => ?_)
  refine g_aload_n (n := 16) dX3_takeLoaf_15 rfl rfl ?_
  refine g_dup (n := 17) dX3_takeLoaf_16 rfl rfl ?_
  refine gf_X3_57 (n := 20) dX3_takeLoaf_17 rfl rfl (z_lvP (by first | decide | assumption)) ?_
  rw [u3_nj (by decide)]
  refine g_iconst (n := 21) dX3_takeLoaf_20 rfl k_ic_1 ?_
  refine g_iadd (n := 22) dX3_takeLoaf_21 rfl ?_
  refine gw_X3_57 (n := 25) dX3_takeLoaf_22 rfl rfl (z_lvP (by first | decide | assumption)) ?_
  exact g_return dX3_takeLoaf_25 rfl rfl rfl
theorem c_ltake (hi : i < 10) {s e q a b : Nat} (hs : M 1 i 5 = nI s) (h8 : s ≤ 8) (he : e < s) (hq : q < 4) (hn : M 14 i e = nI q) (ha : a < 8) (hb : b < 4) (co : Int32) : zC w mX3_takeLoaf (d + 3) [vR 3 i, vI (nI a), vI (nI b), vI (nI e), vI co] (zP M O) zrV (zP (mLtake M i e q (4 * a + b) co) O) := by
  refine zC_of (cr := 0) (L0 := [vR 3 i, vI (nI a), vI (nI b), vI (nI e), vI co]) rfl (by decide) (by decide) rfl (Nat.le_of_ble_eq_true rfl) rfl ?_
  refine g_aload_n (n := 1) dX3_takeLoaf_0 rfl rfl ?_
  refine g_dup (n := 2) dX3_takeLoaf_1 rfl rfl ?_
  refine gf_X3_53 (n := 5) dX3_takeLoaf_2 rfl rfl (z_lvP (by first | decide | assumption)) ?_
  refine g_iconst (n := 6) dX3_takeLoaf_5 rfl k_ic_1 ?_
  refine g_iadd (n := 7) dX3_takeLoaf_6 rfl ?_
  refine gw_X3_53 (n := 10) dX3_takeLoaf_7 rfl rfl (z_lvP (by first | decide | assumption)) ?_
  refine g_iload_n (n := 11) dX3_takeLoaf_10 rfl rfl ?_
  refine g_iconst (n := 12) dX3_takeLoaf_11 rfl k_ic_m1 ?_
  refine g_icmp_ne (n := 15) (t := 26) dX3_takeLoaf_12 rfl (by decide) (fun _ => ?_) (fun q9 => absurd q9 (nI_nm1 (by omega)))
  refine g_aload_n (n := 27) dX3_takeLoaf_26 rfl rfl ?_
  refine g_dup (n := 28) dX3_takeLoaf_27 rfl rfl ?_
  refine gf_X3_60 (n := 31) dX3_takeLoaf_28 rfl rfl (z_lvP (by first | decide | assumption)) ?_
  refine g_iload (n := 33) dX3_takeLoaf_31 rfl rfl ?_
  refine g_iadd (n := 34) dX3_takeLoaf_33 rfl ?_
  refine gw_X3_60 (n := 37) dX3_takeLoaf_34 rfl rfl (z_lvP (by first | decide | assumption)) ?_
  refine g_aload_n (n := 38) dX3_takeLoaf_37 rfl rfl ?_
  refine gf_X3_21 (n := 41) dX3_takeLoaf_38 rfl rfl (z_lvP (by first | decide | assumption)) rfl ?_
  refine g_iload_n (n := 42) dX3_takeLoaf_41 rfl rfl ?_
  refine g_iload (n := 44) dX3_takeLoaf_42 rfl rfl ?_
  obtain ⟨M2, hM2⟩ : ∃ M2, M2 = u3 (u3 M 3 i 5 (M 3 i 5 + nI 1)) 3 i 7 (u3 M 3 i 5 (M 3 i 5 + nI 1) 3 i 7 + co) := ⟨_, rfl⟩
  have hs2 : M2 1 i 5 = nI s := by rw [hM2]; exact hs
  have hn2 : M2 14 i e = nI q := by rw [hM2]; exact hn
  have fin : mLtake M i e q (4 * a + b) co = u3 (mNtake (u3 (u3 M2 16 i e (M2 16 i e + nI 1)) 17 i e (M2 17 i e + co)) i q) 19 i (4 * a + b) (mNtake (u3 (u3 M2 16 i e (M2 16 i e + nI 1)) 17 i e (M2 17 i e + co)) i q 19 i (4 * a + b) + nI 1) := by
    rw [hM2]
    rfl
  rw [fin, ← hM2]
  obtain ⟨M3, hM3⟩ : ∃ M3, M3 = u3 (u3 M2 16 i e (M2 16 i e + nI 1)) 17 i e (M2 17 i e + co) := ⟨_, rfl⟩
  have hs3 : M3 1 i 5 = nI s := by rw [hM3]; exact hs2
  have c2 := c_xneighbour (w := w) (d := d + 1) (M := M3) (O := O) hi hs3 h8 (nI e)
  rw [xg_nI he (by omega), show M3 14 i e = nI q by rw [hM3]; exact hn2] at c2
  have c1 := c_xtake (w := w) (d := d + 1) (M := M2) (O := O) hi hs2 h8 he co
  rw [← hM3] at c1 ⊢
  refine g_cVn (n := 47) c1 dX3_takeLoaf_44 rfl kw_X3_74 rfl (by decide) (z_lvP (by first | decide | assumption)) (Nat.le_of_ble_eq_true rfl) ⟨Nat.le_refl _, Nat.le_refl _⟩ ?_ rfl
  refine g_aload_n (n := 48) dX3_takeLoaf_47 rfl rfl ?_
  refine gf_X3_28 (n := 51) dX3_takeLoaf_48 rfl rfl (z_lvP (by first | decide | assumption)) rfl ?_
  refine g_aload_n (n := 52) dX3_takeLoaf_51 rfl rfl ?_
  refine gf_X3_21 (n := 55) dX3_takeLoaf_52 rfl rfl (z_lvP (by first | decide | assumption)) rfl ?_
  refine g_iload_n (n := 56) dX3_takeLoaf_55 rfl rfl ?_
  refine g_cVv (n := 59) c2 dX3_takeLoaf_56 rfl kw_X3_78 rfl (by decide) (z_lvP (by first | decide | assumption)) (Nat.le_of_ble_eq_true rfl) ⟨Nat.le_refl _, Nat.le_refl _⟩ ?_ rfl
  refine g_cVn (n := 62) (c_ntake hi hq) dX3_takeLoaf_59 rfl kw_X3_81 rfl (by decide) (z_lvP (by first | decide | assumption)) (Nat.le_of_ble_eq_true rfl) ⟨Nat.le_refl _, Nat.le_refl _⟩ ?_ rfl
  refine g_iload_n (n := 63) dX3_takeLoaf_62 rfl rfl ?_
  refine g_cSNv (n := 66) (c_isTown (nI a)) dX3_takeLoaf_63 rfl kw_X3_67 (Nat.le_of_ble_eq_true rfl) ⟨Nat.le_refl _, Nat.le_refl _⟩ ?_ rfl
  refine g_if_eq (n := 69) (t := 90) dX3_takeLoaf_66 rfl (by decide) (fun q9 => absurd q9 (by rw [z_ok_nI ha (by decide)]; decide)) (fun _ => ?_)
  refine g_iload_n (n := 70) dX3_takeLoaf_69 rfl rfl ?_
  refine g_cSNv (n := 73) (c_isHouse (nI b)) dX3_takeLoaf_70 rfl kw_X3_71 (Nat.le_of_ble_eq_true rfl) ⟨Nat.le_refl _, Nat.le_refl _⟩ ?_ rfl
  refine g_if_eq (n := 76) (t := 90) dX3_takeLoaf_73 rfl (by decide) (fun q9 => absurd q9 (by rw [z_ok_nI hb (by decide)]; decide)) (fun _ => ?_)
  refine g_aload_n (n := 77) dX3_takeLoaf_76 rfl rfl ?_
  refine gf_X3_36 (n := 80) dX3_takeLoaf_77 rfl rfl (z_lvP (by first | decide | assumption)) rfl ?_
  refine g_iload_n (n := 81) dX3_takeLoaf_80 rfl rfl ?_
  refine g_iconst (n := 82) dX3_takeLoaf_81 rfl k_ic_4 ?_
  refine g_imul (n := 83) dX3_takeLoaf_82 rfl ?_
  refine g_iload_n (n := 84) dX3_takeLoaf_83 rfl rfl ?_
  refine g_iadd (n := 85) dX3_takeLoaf_84 rfl ?_
  refine g_dup2 (n := 86) dX3_takeLoaf_85 rfl rfl rfl ?_
  refine g_iald (a := (4 * a + b)) (n := 87) dX3_takeLoaf_86 rfl (by decide) (z_lvP (by first | decide | assumption)) (by rw [pk_mul, nI_add, Nat.mul_comm]) (by show _ < 32; first | assumption | omega) ?_
  refine g_iconst (n := 88) dX3_takeLoaf_87 rfl k_ic_1 ?_
  refine g_iadd (n := 89) dX3_takeLoaf_88 rfl ?_
  refine g_iast (a := (4 * a + b)) (n := 90) dX3_takeLoaf_89 rfl (by decide) (z_lvP (by first | decide | assumption)) (by rw [pk_mul, nI_add, Nat.mul_comm]) (by show _ < 32; first | assumption | omega) ?_
  exact g_return dX3_takeLoaf_90 rfl rfl rfl
end L5

