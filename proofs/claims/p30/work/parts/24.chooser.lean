/-! What a town chooses. -/
/-- the chooser's own row -/
def xC (z : Nat → Int32) (tk be ex co lf ls : Int32) : Nat → Int32 := fun j => if j = 2 then tk else if j = 3 then be else if j = 4 then ex else if j = 5 then co else if j = 6 then lf else if j = 7 then ls else z j
theorem xC_2 {z : Nat → Int32} {tk be ex co lf ls v : Int32} : upd (xC z tk be ex co lf ls) 2 v = xC z v be ex co lf ls := by
  funext j
  unfold upd xC
  by_cases h : j = 2 <;> simp [h]
theorem xC_3 {z : Nat → Int32} {tk be ex co lf ls v : Int32} : upd (xC z tk be ex co lf ls) 3 v = xC z tk v ex co lf ls := by
  funext j
  unfold upd xC
  by_cases h : j = 3 <;> simp [h]
theorem xC_4 {z : Nat → Int32} {tk be ex co lf ls v : Int32} : upd (xC z tk be ex co lf ls) 4 v = xC z tk be v co lf ls := by
  funext j
  unfold upd xC
  by_cases h : j = 4 <;> simp [h]
theorem xC_5 {z : Nat → Int32} {tk be ex co lf ls v : Int32} : upd (xC z tk be ex co lf ls) 5 v = xC z tk be ex v lf ls := by
  funext j
  unfold upd xC
  by_cases h : j = 5 <;> simp [h]
theorem xC_6 {z : Nat → Int32} {tk be ex co lf ls v : Int32} : upd (xC z tk be ex co lf ls) 6 v = xC z tk be ex co v ls := by
  funext j
  unfold upd xC
  by_cases h : j = 6 <;> simp [h]
theorem xC_7 {z : Nat → Int32} {tk be ex co lf ls v : Int32} : upd (xC z tk be ex co lf ls) 7 v = xC z tk be ex co lf v := by
  funext j
  unfold upd xC
  by_cases h : j = 7 <;> simp [h]
theorem xC_id (z : Nat → Int32) : z = xC z (z 2) (z 3) (z 4) (z 5) (z 6) (z 7) := by
  funext j
  unfold xC
  by_cases h2 : j = 2
  · simp [h2]
  · by_cases h3 : j = 3
    · simp [h3]
    · by_cases h4 : j = 4
      · simp [h4]
      · by_cases h5 : j = 5
        · simp [h5]
        · by_cases h6 : j = 6
          · simp [h6]
          · by_cases h7 : j = 7
            · simp [h7]
            · simp [h2, h3, h4, h5, h6, h7]
section L6
variable {w : zWp} {d i : Nat} {M : Nat → Nat → Nat → Int32} {O : Nat → Int64} {z : Nat → Int32} {tk be ex co lf ls : Int32}
theorem c_cbegin : zC w mX0_begin d [vR 0 0] (zP (u2 M 0 0 (xC z tk be ex co lf ls)) O) zrV (zP (u2 M 0 0 (xC z (nI 0) (nI 0) ex co xFAR xFAR)) O) := by
  refine zC_of (cr := 0) (L0 := [vR 0 0]) rfl (by decide) (by decide) rfl (Nat.le_of_ble_eq_true rfl) rfl ?_
  refine g_aload_n (n := 1) dX0_begin_0 rfl rfl ?_
  refine g_iconst (n := 2) dX0_begin_1 rfl k_ic_0 ?_
  refine gw_X0_89 (n := 5) dX0_begin_2 rfl rfl (z_lvP (by first | decide | assumption)) ?_
  rw [u3_u2, xC_2]
  refine g_aload_n (n := 6) dX0_begin_5 rfl rfl ?_
  refine g_iconst (n := 7) dX0_begin_6 rfl k_ic_0 ?_
  refine gw_X0_70 (n := 10) dX0_begin_7 rfl rfl (z_lvP (by first | decide | assumption)) ?_
  rw [u3_u2, xC_3]
  refine g_aload_n (n := 11) dX0_begin_10 rfl rfl ?_
  refine g_ldc (n := 13) dX0_begin_11 rfl kc_X0_62 ?_
  refine gw_X0_83 (n := 16) dX0_begin_13 rfl rfl (z_lvP (by first | decide | assumption)) ?_
  rw [u3_u2, xC_6]
  refine g_aload_n (n := 17) dX0_begin_16 rfl rfl ?_
  refine g_ldc (n := 19) dX0_begin_17 rfl kc_X0_62 ?_
  refine gw_X0_86 (n := 22) dX0_begin_19 rfl rfl (z_lvP (by first | decide | assumption)) ?_
  rw [u3_u2, xC_7]
  exact g_return dX0_begin_22 rfl rfl rfl
theorem c_cisBest (x y : Int32) : zC w mX0_isBest d [vR 0 0, vI x, vI y] (zP (u2 M 0 0 (xC z tk be ex co lf ls)) O) (zrI (zb (decide (x = lf) && decide (y = ls)))) (zP (u2 M 0 0 (xC z tk be ex co lf ls)) O) := by
  refine zC_of (cr := 0) (L0 := [vR 0 0, vI x, vI y]) rfl (by decide) (by decide) rfl (Nat.le_of_ble_eq_true rfl) rfl ?_
  refine g_iload_n (n := 1) dX0_isBest_0 rfl rfl ?_
  refine g_aload_n (n := 2) dX0_isBest_1 rfl rfl ?_
  refine gf_X0_83 (n := 5) dX0_isBest_2 rfl rfl (z_lvP (by first | decide | assumption)) ?_
  refine g_icmp_ne (n := 8) (t := 20) dX0_isBest_5 rfl (by decide) (fun c5 => ?_) (fun c5 => ?_)
  · rw [decide_eq_false (p := x = lf) c5, Bool.false_and]
    refine g_iconst (n := 21) dX0_isBest_20 rfl k_ic_0 ?_
    exact g_ireturn dX0_isBest_21 rfl rfl rfl rfl
  · rw [decide_eq_true (p := x = lf) c5, Bool.true_and]
    refine g_iload_n (n := 9) dX0_isBest_8 rfl rfl ?_
    refine g_aload_n (n := 10) dX0_isBest_9 rfl rfl ?_
    refine gf_X0_86 (n := 13) dX0_isBest_10 rfl rfl (z_lvP (by first | decide | assumption)) ?_
    refine g_icmp_ne (n := 16) (t := 20) dX0_isBest_13 rfl (by decide) (fun c13 => ?_) (fun c13 => ?_)
    · rw [decide_eq_false (p := y = ls) c13]
      refine g_iconst (n := 21) dX0_isBest_20 rfl k_ic_0 ?_
      exact g_ireturn dX0_isBest_21 rfl rfl rfl rfl
    · rw [decide_eq_true (p := y = ls) c13]
      refine g_iconst (n := 17) dX0_isBest_16 rfl k_ic_1 ?_
      refine g_goto (n := 0) (t := 21) dX0_isBest_17 (by decide) ?_
      exact g_ireturn dX0_isBest_21 rfl rfl rfl rfl
/-- the less so far, of pairs -/
def xles (x y lf ls : Int32) : Bool := decide (x < lf) || (decide (x = lf) && decide (y < ls))
theorem c_cweigh (x y : Int32) : zC w mX0_weigh (d + 1) [vR 0 0, vI x, vI y] (zP (u2 M 0 0 (xC z tk be ex co lf ls)) O) zrV
    (zP (u2 M 0 0 (if xles x y lf ls then xC z (tk + nI 1) (nI 0 + nI 1) ex co x y else xC z (tk + nI 1) (be + zb (decide (x = lf) && decide (y = ls))) ex co lf ls)) O) := by
  have tail : ∀ be lf ls : Int32, zG w mX0_weigh (d + 1) 0 49 [vR 0 0, vI x, vI y] [] (zP (u2 M 0 0 (xC z (tk + nI 1) be ex co lf ls)) O) zrV (zP (u2 M 0 0 (xC z (tk + nI 1) (be + zb (decide (x = lf) && decide (y = ls))) ex co lf ls)) O) := by
    intro be lf ls
    cases hb : decide (x = lf) && decide (y = ls)
    · refine g_aload_n (n := 50) dX0_weigh_49 rfl rfl ?_
      refine g_dup (n := 51) dX0_weigh_50 rfl rfl ?_
      refine gf_X0_70 (n := 54) dX0_weigh_51 rfl rfl (z_lvP (by first | decide | assumption)) ?_
      refine g_aload_n (n := 55) dX0_weigh_54 rfl rfl ?_
      refine g_iload_n (n := 56) dX0_weigh_55 rfl rfl ?_
      refine g_iload_n (n := 57) dX0_weigh_56 rfl rfl ?_
      refine g_cVv (n := 60) (c_cisBest x y) dX0_weigh_57 rfl kw_X0_92 rfl (by decide) (z_lvP (by first | decide | assumption)) (Nat.le_of_ble_eq_true rfl) ⟨Nat.le_refl _, Nat.le_refl _⟩ ?_ rfl
      refine g_if_eq (n := 63) (t := 67) dX0_weigh_60 rfl (by decide) (fun _ => ?_) (fun q9 => absurd (by rw [hb]; rfl) q9)
      refine g_iconst (n := 68) dX0_weigh_67 rfl k_ic_0 ?_
      refine g_iadd (n := 69) dX0_weigh_68 rfl ?_
      refine gw_X0_70 (n := 72) dX0_weigh_69 rfl rfl (z_lvP (by first | decide | assumption)) ?_
      rw [u3_u2, xC_3]
      exact g_return dX0_weigh_72 rfl rfl rfl
    · refine g_aload_n (n := 50) dX0_weigh_49 rfl rfl ?_
      refine g_dup (n := 51) dX0_weigh_50 rfl rfl ?_
      refine gf_X0_70 (n := 54) dX0_weigh_51 rfl rfl (z_lvP (by first | decide | assumption)) ?_
      refine g_aload_n (n := 55) dX0_weigh_54 rfl rfl ?_
      refine g_iload_n (n := 56) dX0_weigh_55 rfl rfl ?_
      refine g_iload_n (n := 57) dX0_weigh_56 rfl rfl ?_
      refine g_cVv (n := 60) (c_cisBest x y) dX0_weigh_57 rfl kw_X0_92 rfl (by decide) (z_lvP (by first | decide | assumption)) (Nat.le_of_ble_eq_true rfl) ⟨Nat.le_refl _, Nat.le_refl _⟩ ?_ rfl
      refine g_if_eq (n := 63) (t := 67) dX0_weigh_60 rfl (by decide) (fun q9 => absurd q9 (by rw [hb]; decide)) (fun _ => ?_)
      refine g_iconst (n := 64) dX0_weigh_63 rfl k_ic_1 ?_
      refine g_goto (n := 0) (t := 68) dX0_weigh_64 (by decide) ?_
      refine g_iadd (n := 69) dX0_weigh_68 rfl ?_
      refine gw_X0_70 (n := 72) dX0_weigh_69 rfl rfl (z_lvP (by first | decide | assumption)) ?_
      rw [u3_u2, xC_3]
      exact g_return dX0_weigh_72 rfl rfl rfl
  have upper : xles x y lf ls = true → zG w mX0_weigh (d + 1) 0 34 [vR 0 0, vI x, vI y] [] (zP (u2 M 0 0 (xC z (tk + nI 1) be ex co lf ls)) O) zrV (zP (u2 M 0 0 (if xles x y lf ls then xC z (tk + nI 1) (nI 0 + nI 1) ex co x y else xC z (tk + nI 1) (be + zb (decide (x = lf) && decide (y = ls))) ex co lf ls)) O) := by
    intro h
    rw [h, if_pos rfl]
    refine g_aload_n (n := 35) dX0_weigh_34 rfl rfl ?_
    refine g_iload_n (n := 36) dX0_weigh_35 rfl rfl ?_
    refine gw_X0_83 (n := 39) dX0_weigh_36 rfl rfl (z_lvP (by first | decide | assumption)) ?_
    rw [u3_u2, xC_6]
    refine g_aload_n (n := 40) dX0_weigh_39 rfl rfl ?_
    refine g_iload_n (n := 41) dX0_weigh_40 rfl rfl ?_
    refine gw_X0_86 (n := 44) dX0_weigh_41 rfl rfl (z_lvP (by first | decide | assumption)) ?_
    rw [u3_u2, xC_7]
    refine g_aload_n (n := 45) dX0_weigh_44 rfl rfl ?_
    refine g_iconst (n := 46) dX0_weigh_45 rfl k_ic_0 ?_
    refine gw_X0_70 (n := 49) dX0_weigh_46 rfl rfl (z_lvP (by first | decide | assumption)) ?_
    rw [u3_u2, xC_3]
    have t1 := tail (nI 0) x y
    rw [decide_eq_true (p := x = x) rfl, decide_eq_true (p := y = y) rfl] at t1
    exact t1
  have lower : xles x y lf ls = false → zG w mX0_weigh (d + 1) 0 49 [vR 0 0, vI x, vI y] [] (zP (u2 M 0 0 (xC z (tk + nI 1) be ex co lf ls)) O) zrV (zP (u2 M 0 0 (if xles x y lf ls then xC z (tk + nI 1) (nI 0 + nI 1) ex co x y else xC z (tk + nI 1) (be + zb (decide (x = lf) && decide (y = ls))) ex co lf ls)) O) := by
    intro h
    rw [h, if_neg (by decide)]
    exact tail be lf ls
  refine zC_of (cr := 0) (L0 := [vR 0 0, vI x, vI y]) rfl (by decide) (by decide) rfl (Nat.le_of_ble_eq_true rfl) rfl ?_
  refine g_aload_n (n := 1) dX0_weigh_0 rfl rfl ?_
  refine g_dup (n := 2) dX0_weigh_1 rfl rfl ?_
  refine gf_X0_89 (n := 5) dX0_weigh_2 rfl rfl (z_lvP (by first | decide | assumption)) ?_
  refine g_iconst (n := 6) dX0_weigh_5 rfl k_ic_1 ?_
  refine g_iadd (n := 7) dX0_weigh_6 rfl ?_
  refine gw_X0_89 (n := 10) dX0_weigh_7 rfl rfl (z_lvP (by first | decide | assumption)) ?_
  rw [u3_u2, xC_2]
  refine g_iload_n (n := 11) dX0_weigh_10 rfl rfl ?_
  refine g_aload_n (n := 12) dX0_weigh_11 rfl rfl ?_
  refine gf_X0_83 (n := 15) dX0_weigh_12 rfl rfl (z_lvP (by first | decide | assumption)) ?_
  refine g_icmp_lt (n := 18) (t := 34) dX0_weigh_15 rfl (by decide) (fun c15 => ?_) (fun c15 => ?_)
  · exact upper (by unfold xles; rw [decide_eq_true (p := x < lf) c15]; rfl)
  · refine g_iload_n (n := 19) dX0_weigh_18 rfl rfl ?_
    refine g_aload_n (n := 20) dX0_weigh_19 rfl rfl ?_
    refine gf_X0_83 (n := 23) dX0_weigh_20 rfl rfl (z_lvP (by first | decide | assumption)) ?_
    refine g_icmp_ne (n := 26) (t := 49) dX0_weigh_23 rfl (by decide) (fun c23 => ?_) (fun c23 => ?_)
    · exact lower (by unfold xles; rw [decide_eq_false (p := x < lf) c15, decide_eq_false (p := x = lf) c23]; rfl)
    · refine g_iload_n (n := 27) dX0_weigh_26 rfl rfl ?_
      refine g_aload_n (n := 28) dX0_weigh_27 rfl rfl ?_
      refine gf_X0_86 (n := 31) dX0_weigh_28 rfl rfl (z_lvP (by first | decide | assumption)) ?_
      refine g_icmp_ge (n := 34) (t := 49) dX0_weigh_31 rfl (by decide) (fun c31 => ?_) (fun c31 => ?_)
      · exact lower (by unfold xles; rw [decide_eq_false (p := x < lf) c15, decide_eq_false (p := y < ls) (Int32.not_lt.mpr c31), Bool.and_false]; rfl)
      · exact upper (by unfold xles; rw [decide_eq_false (p := x < lf) c15, decide_eq_true (p := x = lf) c23, decide_eq_true (p := y < ls) (Int32.not_le.mp c31)]; rfl)
/-- the place of rank k among those with p; none: -1 -/
def xrk (p : Nat → Bool) : Nat → Nat → Int32 → Int32
  | _, 0, _ => -1
  | t, k + 1, x => if p t then (if x = 0 then nI t else xrk p (t + 1) k (x + (-1))) else xrk p (t + 1) k x
theorem c_cbestOf (x : Int32) : zC w mX0_bestOfRank (d + 1) [vR 0 0, vI x] (zP (u2 M 0 0 (xC z tk be ex co lf ls)) O) (zrI (xrk (fun e => decide (M 11 0 e = lf) && decide (M 12 0 e = ls)) 0 8 x)) (zP (u2 M 0 0 (xC z tk be ex co lf ls)) O) := by
  obtain ⟨p, hp⟩ : ∃ p : Nat → Bool, p = fun e => decide (M 11 0 e = lf) && decide (M 12 0 e = ls) := ⟨_, rfl⟩
  rw [← hp]
  have lp : ∀ k t, t + k = 8 → ∀ y : Int32, zG w mX0_bestOfRank (d + 1) 0 4 [vR 0 0, vI x, vI y, vI (nI t)] [] (zP (u2 M 0 0 (xC z tk be ex co lf ls)) O) (zrI (xrk p t k y)) (zP (u2 M 0 0 (xC z tk be ex co lf ls)) O) := by
    intro k
    induction k with
    | zero =>
      intro t ht y
      have e1 : t = 8 := by omega
      subst e1
      refine g_iload_n (n := 5) dX0_bestOfRank_4 rfl rfl ?_
      refine g_bipush (n := 7) dX0_bestOfRank_5 rfl k_bp_8 ?_
      refine g_icmp_ge (n := 10) (t := 44) dX0_bestOfRank_7 rfl (by decide) (fun _ => ?_) (fun q9 => absurd (Int32.le_refl _) q9)
      refine g_iconst (n := 45) dX0_bestOfRank_44 rfl k_ic_m1 ?_
      exact g_ireturn dX0_bestOfRank_45 rfl rfl rfl rfl
    | succ k ih =>
      intro t ht y
      have ht8 : t < 8 := by omega
      have hpt : p t = (decide (M 11 0 t = lf) && decide (M 12 0 t = ls)) := by rw [hp]
      cases hb : p t
      · have e1 : xrk p t (k + 1) y = xrk p (t + 1) k y := by
          show (if p t then _ else _) = _
          rw [hb]
          rfl
        rw [e1]
        rw [hb] at hpt
        refine g_iload_n (n := 5) dX0_bestOfRank_4 rfl rfl ?_
        refine g_bipush (n := 7) dX0_bestOfRank_5 rfl k_bp_8 ?_
        refine g_icmp_ge (n := 10) (t := 44) dX0_bestOfRank_7 rfl (by decide) (fun q9 => absurd q9 (nI_ge ht8 (by decide))) (fun _ => ?_)
        refine g_aload_n (n := 11) dX0_bestOfRank_10 rfl rfl ?_
        refine g_aload_n (n := 12) dX0_bestOfRank_11 rfl rfl ?_
        refine gf_X0_9 (n := 15) dX0_bestOfRank_12 rfl rfl (z_lvP (by first | decide | assumption)) rfl ?_
        refine g_iload_n (n := 16) dX0_bestOfRank_15 rfl rfl ?_
        refine g_iald (n := 17) dX0_bestOfRank_16 rfl (by decide) (z_lvP (by first | decide | assumption)) rfl (by show _ < 8; first | assumption | omega) ?_
        refine g_aload_n (n := 18) dX0_bestOfRank_17 rfl rfl ?_
        refine gf_X0_15 (n := 21) dX0_bestOfRank_18 rfl rfl (z_lvP (by first | decide | assumption)) rfl ?_
        refine g_iload_n (n := 22) dX0_bestOfRank_21 rfl rfl ?_
        refine g_iald (n := 23) dX0_bestOfRank_22 rfl (by decide) (z_lvP (by first | decide | assumption)) rfl (by show _ < 8; first | assumption | omega) ?_
        refine g_cVv (n := 26) (c_cisBest _ _) dX0_bestOfRank_23 rfl kw_X0_92 rfl (by decide) (z_lvP (by first | decide | assumption)) (Nat.le_of_ble_eq_true rfl) ⟨Nat.le_refl _, Nat.le_refl _⟩ ?_ rfl
        refine g_if_eq (n := 29) (t := 38) dX0_bestOfRank_26 rfl (by decide) (fun _ => ?_) (fun q9 => absurd (show zb (decide (M 11 0 t = lf) && decide (M 12 0 t = ls)) = 0 by rw [← hpt]; rfl) q9)
        refine g_iinc3 (n := 41) dX0_bestOfRank_38 rfl (by decide) rfl (z_inc1 _) ?_
        refine g_goto (n := 0) (t := 4) dX0_bestOfRank_41 (by decide) ?_
        exact ih (t + 1) (by omega) y
      · rw [hb] at hpt
        refine g_iload_n (n := 5) dX0_bestOfRank_4 rfl rfl ?_
        refine g_bipush (n := 7) dX0_bestOfRank_5 rfl k_bp_8 ?_
        refine g_icmp_ge (n := 10) (t := 44) dX0_bestOfRank_7 rfl (by decide) (fun q9 => absurd q9 (nI_ge ht8 (by decide))) (fun _ => ?_)
        refine g_aload_n (n := 11) dX0_bestOfRank_10 rfl rfl ?_
        refine g_aload_n (n := 12) dX0_bestOfRank_11 rfl rfl ?_
        refine gf_X0_9 (n := 15) dX0_bestOfRank_12 rfl rfl (z_lvP (by first | decide | assumption)) rfl ?_
        refine g_iload_n (n := 16) dX0_bestOfRank_15 rfl rfl ?_
        refine g_iald (n := 17) dX0_bestOfRank_16 rfl (by decide) (z_lvP (by first | decide | assumption)) rfl (by show _ < 8; first | assumption | omega) ?_
        refine g_aload_n (n := 18) dX0_bestOfRank_17 rfl rfl ?_
        refine gf_X0_15 (n := 21) dX0_bestOfRank_18 rfl rfl (z_lvP (by first | decide | assumption)) rfl ?_
        refine g_iload_n (n := 22) dX0_bestOfRank_21 rfl rfl ?_
        refine g_iald (n := 23) dX0_bestOfRank_22 rfl (by decide) (z_lvP (by first | decide | assumption)) rfl (by show _ < 8; first | assumption | omega) ?_
        refine g_cVv (n := 26) (c_cisBest _ _) dX0_bestOfRank_23 rfl kw_X0_92 rfl (by decide) (z_lvP (by first | decide | assumption)) (Nat.le_of_ble_eq_true rfl) ⟨Nat.le_refl _, Nat.le_refl _⟩ ?_ rfl
        refine g_if_eq (n := 29) (t := 38) dX0_bestOfRank_26 rfl (by decide) (fun q9 => absurd q9 (fun q => by have q2 : zb (decide (M 11 0 t = lf) && decide (M 12 0 t = ls)) = 0 := q; rw [← hpt] at q2; exact absurd q2 (by decide))) (fun _ => ?_)
        refine g_iload_n (n := 30) dX0_bestOfRank_29 rfl rfl ?_
        refine g_if_ne (n := 33) (t := 35) dX0_bestOfRank_30 rfl (by decide) (fun c30 => ?_) (fun c30 => ?_)
        · have e1 : xrk p t (k + 1) y = xrk p (t + 1) k (y + (-1)) := by
            show (if p t then (if y = 0 then nI t else xrk p (t + 1) k (y + (-1))) else _) = _
            rw [hb, if_pos rfl, if_neg c30]
          rw [e1]
          refine g_iinc2 (n := 38) dX0_bestOfRank_35 rfl (by decide) rfl rfl ?_
          refine g_iinc3 (n := 41) dX0_bestOfRank_38 rfl (by decide) rfl (z_inc1 _) ?_
          refine g_goto (n := 0) (t := 4) dX0_bestOfRank_41 (by decide) ?_
          exact ih (t + 1) (by omega) (y + (-1))
        · have e1 : xrk p t (k + 1) y = nI t := by
            show (if p t then (if y = 0 then nI t else xrk p (t + 1) k (y + (-1))) else _) = _
            rw [hb, if_pos rfl, if_pos c30]
          rw [e1]
          refine g_iload_n (n := 34) dX0_bestOfRank_33 rfl rfl ?_
          exact g_ireturn dX0_bestOfRank_34 rfl rfl rfl rfl
  refine zC_of (cr := 0) (L0 := [vR 0 0, vI x, vU, vU]) rfl (by decide) (by decide) rfl (Nat.le_of_ble_eq_true rfl) rfl ?_
  refine g_iload_n (n := 1) dX0_bestOfRank_0 rfl rfl ?_
  refine g_istore2 (n := 2) dX0_bestOfRank_1 rfl (by decide) rfl ?_
  refine g_iconst (n := 3) dX0_bestOfRank_2 rfl k_ic_0 ?_
  refine g_istore3 (n := 4) dX0_bestOfRank_3 rfl (by decide) rfl ?_
  exact lp 8 0 rfl x
end L6

