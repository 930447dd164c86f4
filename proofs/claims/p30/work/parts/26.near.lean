/-! Reasons against an exit; distances by the nearest town. -/
def kRea (M : Nat → Nat → Nat → Int32) (i s t h e : Nat) : Int32 :=
  if nI e = M 0 0 4 then nI 0 else if ¬ M 15 i e = nI 1 then nI 1 else if kLen M i s h e = 0 then nI 2 else if kDis M i s t e = -1 then nI 3 else if ¬ M 11 0 e = M 0 0 6 then nI 4 else if M 12 0 e = M 0 0 7 then nI 6 else nI 5
section L8
variable {w : zWp} {d i : Nat} {M : Nat → Nat → Nat → Int32} {O : Nat → Int64}
theorem c_reason {s t h e : Nat} (hi : i < 10) (hs : M 1 i 5 = nI s) (h8 : s ≤ 8) (he : e < s) : zC w mX0_reasonAgainst (d + 2) [vR 0 0, vR 3 i, vI (nI t), vI (nI h), vI (nI e)] (zP M O) (zrI (kRea M i s t h e)) (zP M O) := by
  have cn := c_xneighbour (w := w) (d := d) (M := M) (O := O) hi hs h8 (nI e)
  have cl : zC w mX5_length (d + 1) [vR 5 i, vI (xg (M 14 i) s (-1) (nI e)), vI (nI h)] (zP M O) (zrI (kLen M i s h e)) (zP M O) := c_nlength (w := w) (d := d) (M := M) (O := O) hi _ _
  have ct := c_xtown (w := w) (d := d) (M := M) (O := O) hi hs h8 (nI e)
  have cw : zC w mX6_way (d + 1) [vR 6 i, vI (nI t), vI (xg (M 13 i) s (-1) (nI e))] (zP M O) (zrI (kDis M i s t e)) (zP M O) := c_rway (w := w) (d := d) (M := M) (O := O) hi _ _
  have cp := c_xisOpen (w := w) (d := d) (M := M) (O := O) hi hs h8 (nI e)
  rw [xg_nI he (by omega)] at cp
  refine zC_of (cr := 0) (L0 := [vR 0 0, vR 3 i, vI (nI t), vI (nI h), vI (nI e)]) rfl (by decide) (by decide) rfl (Nat.le_of_ble_eq_true rfl) rfl ?_
  unfold kRea
  refine g_iload (n := 2) dX0_reasonAgainst_0 rfl rfl ?_
  refine g_aload_n (n := 3) dX0_reasonAgainst_2 rfl rfl ?_
  refine gf_X0_77 (n := 6) dX0_reasonAgainst_3 rfl rfl (z_lvP (by first | decide | assumption)) ?_
  refine g_icmp_ne (n := 9) (t := 11) dX0_reasonAgainst_6 rfl (by decide) (fun c6 => ?_) (fun c6 => ?_)
  · rw [if_neg (show ¬ nI e = M 0 0 4 from c6)]
    by_cases ho : M 15 i e = nI 1
    · rw [if_neg (fun q => q ho)]
      rw [decide_eq_true ho] at cp
      refine g_aload_n (n := 12) dX0_reasonAgainst_11 rfl rfl ?_
      refine gf_X0_31 (n := 15) dX0_reasonAgainst_12 rfl rfl (z_lvP (by first | decide | assumption)) rfl ?_
      refine g_iload (n := 17) dX0_reasonAgainst_15 rfl rfl ?_
      refine g_cVv (n := 20) cp dX0_reasonAgainst_17 rfl kw_X0_58 rfl (by decide) (z_lvP (by first | decide | assumption)) (Nat.le_of_ble_eq_true rfl) ⟨Nat.le_refl _, Nat.le_refl _⟩ ?_ rfl
      refine g_if_ne (n := 23) (t := 25) dX0_reasonAgainst_20 rfl (by decide) (fun _ => ?_) (fun q9 => absurd q9 (by decide))
      refine g_aload_n (n := 26) dX0_reasonAgainst_25 rfl rfl ?_
      refine gf_X0_27 (n := 29) dX0_reasonAgainst_26 rfl rfl (z_lvP (by first | decide | assumption)) rfl ?_
      refine g_aload_n (n := 30) dX0_reasonAgainst_29 rfl rfl ?_
      refine gf_X0_31 (n := 33) dX0_reasonAgainst_30 rfl rfl (z_lvP (by first | decide | assumption)) rfl ?_
      refine g_iload (n := 35) dX0_reasonAgainst_33 rfl rfl ?_
      refine g_cVv (n := 38) cn dX0_reasonAgainst_35 rfl kw_X0_35 rfl (by decide) (z_lvP (by first | decide | assumption)) (Nat.le_of_ble_eq_true rfl) ⟨Nat.le_refl _, Nat.le_refl _⟩ ?_ rfl
      refine g_iload_n (n := 39) dX0_reasonAgainst_38 rfl rfl ?_
      refine g_cVv (n := 42) cl dX0_reasonAgainst_39 rfl kw_X0_40 rfl (by decide) (z_lvP (by first | decide | assumption)) (Nat.le_of_ble_eq_true rfl) ⟨Nat.le_refl _, Nat.le_refl _⟩ ?_ rfl
      refine g_if_ne (n := 45) (t := 47) dX0_reasonAgainst_42 rfl (by decide) (fun c42 => ?_) (fun c42 => ?_)
      · rw [if_neg (show ¬ kLen M i s h e = 0 from c42)]
        refine g_aload_n (n := 48) dX0_reasonAgainst_47 rfl rfl ?_
        refine gf_X0_46 (n := 51) dX0_reasonAgainst_48 rfl rfl (z_lvP (by first | decide | assumption)) rfl ?_
        refine g_iload_n (n := 52) dX0_reasonAgainst_51 rfl rfl ?_
        refine g_aload_n (n := 53) dX0_reasonAgainst_52 rfl rfl ?_
        refine gf_X0_31 (n := 56) dX0_reasonAgainst_53 rfl rfl (z_lvP (by first | decide | assumption)) rfl ?_
        refine g_iload (n := 58) dX0_reasonAgainst_56 rfl rfl ?_
        refine g_cVv (n := 61) ct dX0_reasonAgainst_58 rfl kw_X0_50 rfl (by decide) (z_lvP (by first | decide | assumption)) (Nat.le_of_ble_eq_true rfl) ⟨Nat.le_refl _, Nat.le_refl _⟩ ?_ rfl
        refine g_cVv (n := 64) cw dX0_reasonAgainst_61 rfl kw_X0_53 rfl (by decide) (z_lvP (by first | decide | assumption)) (Nat.le_of_ble_eq_true rfl) ⟨Nat.le_refl _, Nat.le_refl _⟩ ?_ rfl
        refine g_iconst (n := 65) dX0_reasonAgainst_64 rfl k_ic_m1 ?_
        refine g_icmp_ne (n := 68) (t := 70) dX0_reasonAgainst_65 rfl (by decide) (fun c65 => ?_) (fun c65 => ?_)
        · rw [if_neg (show ¬ kDis M i s t e = -1 from c65)]
          refine g_iload (n := 72) dX0_reasonAgainst_70 rfl rfl ?_
          refine g_if_lt (n := 75) (t := 96) dX0_reasonAgainst_72 rfl (by decide) (fun q9 => absurd q9 (nI_pos (by omega))) (fun _ => ?_)
          refine g_iload (n := 77) dX0_reasonAgainst_75 rfl rfl ?_
          refine g_bipush (n := 79) dX0_reasonAgainst_77 rfl k_bp_8 ?_
          refine g_icmp_ge (n := 82) (t := 96) dX0_reasonAgainst_79 rfl (by decide) (fun q9 => absurd q9 (nI_ge (show e < 8 by omega) (by decide))) (fun _ => ?_)
          refine g_aload_n (n := 83) dX0_reasonAgainst_82 rfl rfl ?_
          refine gf_X0_9 (n := 86) dX0_reasonAgainst_83 rfl rfl (z_lvP (by first | decide | assumption)) rfl ?_
          refine g_iload (n := 88) dX0_reasonAgainst_86 rfl rfl ?_
          refine g_iald (n := 89) dX0_reasonAgainst_88 rfl (by decide) (z_lvP (by first | decide | assumption)) rfl (show e < 8 by omega) ?_
          refine g_aload_n (n := 90) dX0_reasonAgainst_89 rfl rfl ?_
          refine gf_X0_83 (n := 93) dX0_reasonAgainst_90 rfl rfl (z_lvP (by first | decide | assumption)) ?_
          refine g_icmp_eq (n := 96) (t := 98) dX0_reasonAgainst_93 rfl (by decide) (fun c93 => ?_) (fun c93 => ?_)
          · rw [if_neg (show ¬ ¬ M 11 0 e = M 0 0 6 from fun q => q c93)]
            refine g_aload_n (n := 99) dX0_reasonAgainst_98 rfl rfl ?_
            refine gf_X0_15 (n := 102) dX0_reasonAgainst_99 rfl rfl (z_lvP (by first | decide | assumption)) rfl ?_
            refine g_iload (n := 104) dX0_reasonAgainst_102 rfl rfl ?_
            refine g_iald (n := 105) dX0_reasonAgainst_104 rfl (by decide) (z_lvP (by first | decide | assumption)) rfl (show e < 8 by omega) ?_
            refine g_aload_n (n := 106) dX0_reasonAgainst_105 rfl rfl ?_
            refine gf_X0_86 (n := 109) dX0_reasonAgainst_106 rfl rfl (z_lvP (by first | decide | assumption)) ?_
            refine g_icmp_ne (n := 112) (t := 117) dX0_reasonAgainst_109 rfl (by decide) (fun c109 => ?_) (fun c109 => ?_)
            · rw [if_neg (show ¬ M 12 0 e = M 0 0 7 from c109)]
              refine g_iconst (n := 118) dX0_reasonAgainst_117 rfl k_ic_5 ?_
              exact g_ireturn dX0_reasonAgainst_118 rfl rfl rfl rfl
            · rw [if_pos (show M 12 0 e = M 0 0 7 from c109)]
              refine g_bipush (n := 114) dX0_reasonAgainst_112 rfl k_bp_6 ?_
              refine g_goto (n := 0) (t := 118) dX0_reasonAgainst_114 (by decide) ?_
              exact g_ireturn dX0_reasonAgainst_118 rfl rfl rfl rfl
          · rw [if_pos (show ¬ M 11 0 e = M 0 0 6 from c93)]
            refine g_iconst (n := 97) dX0_reasonAgainst_96 rfl k_ic_4 ?_
            exact g_ireturn dX0_reasonAgainst_97 rfl rfl rfl rfl
        · rw [if_pos (show kDis M i s t e = -1 from c65)]
          refine g_iconst (n := 69) dX0_reasonAgainst_68 rfl k_ic_3 ?_
          exact g_ireturn dX0_reasonAgainst_69 rfl rfl rfl rfl
      · rw [if_pos (show kLen M i s h e = 0 from c42)]
        refine g_iconst (n := 46) dX0_reasonAgainst_45 rfl k_ic_2 ?_
        exact g_ireturn dX0_reasonAgainst_46 rfl rfl rfl rfl
    · rw [if_pos ho]
      rw [decide_eq_false ho] at cp
      refine g_aload_n (n := 12) dX0_reasonAgainst_11 rfl rfl ?_
      refine gf_X0_31 (n := 15) dX0_reasonAgainst_12 rfl rfl (z_lvP (by first | decide | assumption)) rfl ?_
      refine g_iload (n := 17) dX0_reasonAgainst_15 rfl rfl ?_
      refine g_cVv (n := 20) cp dX0_reasonAgainst_17 rfl kw_X0_58 rfl (by decide) (z_lvP (by first | decide | assumption)) (Nat.le_of_ble_eq_true rfl) ⟨Nat.le_refl _, Nat.le_refl _⟩ ?_ rfl
      refine g_if_ne (n := 23) (t := 25) dX0_reasonAgainst_20 rfl (by decide) (fun q9 => absurd rfl q9) (fun _ => ?_)
      refine g_iconst (n := 24) dX0_reasonAgainst_23 rfl k_ic_1 ?_
      exact g_ireturn dX0_reasonAgainst_24 rfl rfl rfl rfl
  · rw [if_pos (show nI e = M 0 0 4 from c6)]
    refine g_iconst (n := 10) dX0_reasonAgainst_9 rfl k_ic_0 ?_
    exact g_ireturn dX0_reasonAgainst_10 rfl rfl rfl rfl
end L8
abbrev mN (M : Nat → Nat → Nat → Int32) (R Z : Nat → Int32) : Nat → Nat → Nat → Int32 := u2 (u2 M 20 0 R) 21 0 Z
theorem mN_20 {M : Nat → Nat → Nat → Int32} {R Z : Nat → Int32} {j : Nat} {v : Int32} : u3 (mN M R Z) 20 0 j v = mN M (upd R j v) Z := by
  unfold mN
  rw [u3_com (by decide), u3_u2]
theorem mN_21 {M : Nat → Nat → Nat → Int32} {R Z : Nat → Int32} {j : Nat} {v : Int32} : u3 (mN M R Z) 21 0 j v = mN M R (upd Z j v) := u3_u2 _ _ _ _ _ _
theorem mN_id (M : Nat → Nat → Nat → Int32) : mN M (M 20 0) (M 21 0) = M := by
  unfold mN
  rw [show u2 M 20 0 (M 20 0) = M from u2_id _ _ _, show u2 M 21 0 (M 21 0) = M from u2_id _ _ _]
def nB (a : Nat) : Nat → Int32 := fun j => if j = a then nI 0 else xFAR
/-- the nearest town that is not settled, and how near -/
def nU (R Z : Nat → Int32) : Nat → Int32 × Int32
  | 0 => (-1, xFAR)
  | j + 1 => if Z j = 0 ∧ R j < (nU R Z j).2 then (nI j, R j) else nU R Z j
/-- the distances by way of the town x, up to the town j -/
def nX (c : Nat → Int32) (x : Nat) (R : Nat → Int32) : Nat → Nat → Int32
  | 0 => R
  | j + 1 => if 0 < c (8 * x + j) then upd (nX c x R j) j (if nX c x R j x + c (8 * x + j) < nX c x R j j then nX c x R j x + c (8 * x + j) else nX c x R j j) else nX c x R j
/-- a round -/
def nR (c : Nat → Int32) (RZ : (Nat → Int32) × (Nat → Int32)) : (Nat → Int32) × (Nat → Int32) :=
  if z_ok (nU RZ.1 RZ.2 8).1 8 then (nX c (nU RZ.1 RZ.2 8).1.toNatClampNeg RZ.1 8, upd RZ.2 (nU RZ.1 RZ.2 8).1.toNatClampNeg (nI 1)) else RZ
def nRs (c : Nat → Int32) (RZ : (Nat → Int32) × (Nat → Int32)) : Nat → (Nat → Int32) × (Nat → Int32)
  | 0 => RZ
  | k + 1 => nR c (nRs c RZ k)
section L9
variable {w : zWp} {d i : Nat} {M : Nat → Nat → Nat → Int32} {O : Nat → Int64} {R Z : Nat → Int32}
theorem c_nbegin {a : Nat} (ha : a < 8) : zC w mX4_begin d [vR 4 0, vI (nI a)] (zP (mN M R Z) O) zrV (zP (mN M (xfl (nB a) R 8) (xfl (fun _ => nI 0) Z 8)) O) := by
  refine zC_of (cr := 0) (L0 := [vR 4 0, vI (nI a), vU]) rfl (by decide) (by decide) rfl (Nat.le_of_ble_eq_true rfl) rfl ?_
  refine g_iconst (n := 1) dX4_begin_0 rfl k_ic_0 ?_
  refine g_istore2 (n := 2) dX4_begin_1 rfl (by decide) rfl ?_
  suffices h : zG w mX4_begin d 0 2 [vR 4 0, vI (nI a), vI (nI 0)] [] (zP (mN M (xfl (nB a) R 0) (xfl (fun _ => nI 0) Z 0)) O) zrV (zP (mN M (xfl (nB a) R 8) (xfl (fun _ => nI 0) Z 8)) O) by
    rw [xfl_0, xfl_0] at h
    exact h
  refine z_loop (fun j => zG w mX4_begin d 0 2 [vR 4 0, vI (nI a), vI (nI j)] [] (zP (mN M (xfl (nB a) R j) (xfl (fun _ => nI 0) Z j)) O) zrV (zP (mN M (xfl (nB a) R 8) (xfl (fun _ => nI 0) Z 8)) O)) 8 ?_ ?_ 0 (Nat.zero_le _)
  · refine g_iload_n (n := 3) dX4_begin_2 rfl rfl ?_
    refine g_bipush (n := 5) dX4_begin_3 rfl k_bp_8 ?_
    refine g_icmp_ge (n := 8) (t := 38) dX4_begin_5 rfl (by decide) (fun _ => ?_) (fun q9 => absurd (Int32.le_refl _) q9)
    exact g_return dX4_begin_38 rfl rfl rfl
  · intro j hj ih
    have tail : ∀ v, v = nB a j → zG w mX4_begin d 0 24 [vR 4 0, vI (nI a), vI (nI j)] [vI v, vI (nI j), vR 20 0] (zP (mN M (xfl (nB a) R j) (xfl (fun _ => nI 0) Z j)) O) zrV (zP (mN M (xfl (nB a) R 8) (xfl (fun _ => nI 0) Z 8)) O) := by
      intro v hv
      refine g_iast (n := 25) dX4_begin_24 rfl (by decide) (z_lvP (by first | decide | assumption)) rfl (by show _ < 8; first | assumption | omega) ?_
      rw [mN_20, xfl_s _ _ _ hv]
      refine g_aload_n (n := 26) dX4_begin_25 rfl rfl ?_
      refine gf_X4_15 (n := 29) dX4_begin_26 rfl rfl (z_lvP (by first | decide | assumption)) rfl ?_
      refine g_iload_n (n := 30) dX4_begin_29 rfl rfl ?_
      refine g_iconst (n := 31) dX4_begin_30 rfl k_ic_0 ?_
      refine g_zast (n := 32) dX4_begin_31 rfl (by decide) (z_lvP (by first | decide | assumption)) rfl (by show _ < 8; first | assumption | omega) rfl ?_
      rw [mN_21, xfl_s (fun _ => nI 0) Z j rfl]
      refine g_iinc2 (n := 35) dX4_begin_32 rfl (by decide) rfl (z_inc1 _) ?_
      refine g_goto (n := 0) (t := 2) dX4_begin_35 (by decide) ?_
      exact ih
    refine g_iload_n (n := 3) dX4_begin_2 rfl rfl ?_
    refine g_bipush (n := 5) dX4_begin_3 rfl k_bp_8 ?_
    refine g_icmp_ge (n := 8) (t := 38) dX4_begin_5 rfl (by decide) (fun q9 => absurd q9 (nI_ge hj (by decide))) (fun _ => ?_)
    refine g_aload_n (n := 9) dX4_begin_8 rfl rfl ?_
    refine gf_X4_9 (n := 12) dX4_begin_9 rfl rfl (z_lvP (by first | decide | assumption)) rfl ?_
    refine g_iload_n (n := 13) dX4_begin_12 rfl rfl ?_
    refine g_iload_n (n := 14) dX4_begin_13 rfl rfl ?_
    refine g_iload_n (n := 15) dX4_begin_14 rfl rfl ?_
    refine g_icmp_ne (n := 18) (t := 22) dX4_begin_15 rfl (by decide) (fun c15 => ?_) (fun c15 => ?_)
    · refine g_ldc (n := 24) dX4_begin_22 rfl kc_X4_35 ?_
      exact tail _ (by unfold nB; rw [if_neg (fun q => c15 (by rw [q]))]; rfl)
    · have e1 : j = a := (nI_eq (by omega) (by omega)).mp c15
      refine g_iconst (n := 19) dX4_begin_18 rfl k_ic_0 ?_
      refine g_goto (n := 0) (t := 24) dX4_begin_19 (by decide) ?_
      exact tail _ (by unfold nB; rw [if_pos e1])
theorem c_nunset : zC w mX4_nearestUnsettled d [vR 4 0] (zP (mN M R Z) O) (zrI (nU R Z 8).1) (zP (mN M R Z) O) := by
  refine zC_of (cr := 0) (L0 := [vR 4 0, vU, vU, vU]) rfl (by decide) (by decide) rfl (Nat.le_of_ble_eq_true rfl) rfl ?_
  refine g_iconst (n := 1) dX4_nearestUnsettled_0 rfl k_ic_m1 ?_
  refine g_istore1 (n := 2) dX4_nearestUnsettled_1 rfl (by decide) rfl ?_
  refine g_ldc (n := 4) dX4_nearestUnsettled_2 rfl kc_X4_35 ?_
  refine g_istore2 (n := 5) dX4_nearestUnsettled_4 rfl (by decide) rfl ?_
  refine g_iconst (n := 6) dX4_nearestUnsettled_5 rfl k_ic_0 ?_
  refine g_istore3 (n := 7) dX4_nearestUnsettled_6 rfl (by decide) rfl ?_
  refine z_loop (fun j => zG w mX4_nearestUnsettled d 0 7 [vR 4 0, vI (nU R Z j).1, vI (nU R Z j).2, vI (nI j)] [] (zP (mN M R Z) O) (zrI (nU R Z 8).1) (zP (mN M R Z) O)) 8 ?_ ?_ 0 (Nat.zero_le _)
  · refine g_iload_n (n := 8) dX4_nearestUnsettled_7 rfl rfl ?_
    refine g_bipush (n := 10) dX4_nearestUnsettled_8 rfl k_bp_8 ?_
    refine g_icmp_ge (n := 13) (t := 47) dX4_nearestUnsettled_10 rfl (by decide) (fun _ => ?_) (fun q9 => absurd (Int32.le_refl _) q9)
    refine g_iload_n (n := 48) dX4_nearestUnsettled_47 rfl rfl ?_
    exact g_ireturn dX4_nearestUnsettled_48 rfl rfl rfl rfl
  · intro j hj ih
    have e0 : nU R Z (j + 1) = if Z j = 0 ∧ R j < (nU R Z j).2 then (nI j, R j) else nU R Z j := rfl
    rw [e0] at ih
    refine g_iload_n (n := 8) dX4_nearestUnsettled_7 rfl rfl ?_
    refine g_bipush (n := 10) dX4_nearestUnsettled_8 rfl k_bp_8 ?_
    refine g_icmp_ge (n := 13) (t := 47) dX4_nearestUnsettled_10 rfl (by decide) (fun q9 => absurd q9 (nI_ge hj (by decide))) (fun _ => ?_)
    refine g_aload_n (n := 14) dX4_nearestUnsettled_13 rfl rfl ?_
    refine gf_X4_15 (n := 17) dX4_nearestUnsettled_14 rfl rfl (z_lvP (by first | decide | assumption)) rfl ?_
    refine g_iload_n (n := 18) dX4_nearestUnsettled_17 rfl rfl ?_
    refine g_zald (n := 19) dX4_nearestUnsettled_18 rfl (by decide) (z_lvP (by first | decide | assumption)) rfl (by show _ < 8; first | assumption | omega) ?_
    refine g_if_ne (n := 22) (t := 41) dX4_nearestUnsettled_19 rfl (by decide) (fun c19 => ?_) (fun c19 => ?_)
    · rw [if_neg (fun q => c19 q.1)] at ih
      refine g_iinc3 (n := 44) dX4_nearestUnsettled_41 rfl (by decide) rfl (z_inc1 _) ?_
      refine g_goto (n := 0) (t := 7) dX4_nearestUnsettled_44 (by decide) ?_
      exact ih
    · refine g_aload_n (n := 23) dX4_nearestUnsettled_22 rfl rfl ?_
      refine gf_X4_9 (n := 26) dX4_nearestUnsettled_23 rfl rfl (z_lvP (by first | decide | assumption)) rfl ?_
      refine g_iload_n (n := 27) dX4_nearestUnsettled_26 rfl rfl ?_
      refine g_iald (n := 28) dX4_nearestUnsettled_27 rfl (by decide) (z_lvP (by first | decide | assumption)) rfl (by show _ < 8; first | assumption | omega) ?_
      refine g_iload_n (n := 29) dX4_nearestUnsettled_28 rfl rfl ?_
      refine g_icmp_ge (n := 32) (t := 41) dX4_nearestUnsettled_29 rfl (by decide) (fun c29 => ?_) (fun c29 => ?_)
      · rw [if_neg (fun q => absurd q.2 (Int32.not_lt.mpr c29))] at ih
        refine g_iinc3 (n := 44) dX4_nearestUnsettled_41 rfl (by decide) rfl (z_inc1 _) ?_
        refine g_goto (n := 0) (t := 7) dX4_nearestUnsettled_44 (by decide) ?_
        exact ih
      · rw [if_pos ⟨c19, Int32.not_le.mp c29⟩] at ih
        refine g_iload_n (n := 33) dX4_nearestUnsettled_32 rfl rfl ?_
        refine g_istore1 (n := 34) dX4_nearestUnsettled_33 rfl (by decide) rfl ?_
        refine g_aload_n (n := 35) dX4_nearestUnsettled_34 rfl rfl ?_
        refine gf_X4_9 (n := 38) dX4_nearestUnsettled_35 rfl rfl (z_lvP (by first | decide | assumption)) rfl ?_
        refine g_iload_n (n := 39) dX4_nearestUnsettled_38 rfl rfl ?_
        refine g_iald (n := 40) dX4_nearestUnsettled_39 rfl (by decide) (z_lvP (by first | decide | assumption)) rfl (by show _ < 8; first | assumption | omega) ?_
        refine g_istore2 (n := 41) dX4_nearestUnsettled_40 rfl (by decide) rfl ?_
        refine g_iinc3 (n := 44) dX4_nearestUnsettled_41 rfl (by decide) rfl (z_inc1 _) ?_
        refine g_goto (n := 0) (t := 7) dX4_nearestUnsettled_44 (by decide) ?_
        exact ih
theorem c_nfixN (x : Int32) (hx : z_ok x 8 = false) {a1 : Nat} : zC w mX4_fix (d + 1) [vR 4 0, vR 6 a1, vI x] (zP M O) zrV (zP M O) := by
  refine zC_of (cr := 0) (L0 := [vR 4 0, vR 6 a1, vI x, vU, vU]) rfl (by decide) (by decide) rfl (Nat.le_of_ble_eq_true rfl) rfl ?_
  refine g_iload_n (n := 1) dX4_fix_0 rfl rfl ?_
  refine g_cSNv (n := 4) (c_isTown x) dX4_fix_1 rfl kw_X4_31 (Nat.le_of_ble_eq_true rfl) ⟨Nat.le_refl _, Nat.le_refl _⟩ ?_ rfl
  refine g_if_ne (n := 7) (t := 8) dX4_fix_4 rfl (by decide) (fun q9 => absurd (by rw [hx]; rfl) q9) (fun _ => ?_)
  exact g_return dX4_fix_7 rfl rfl rfl
theorem c_nfix (hi : i < 10) {x : Nat} (hx : x < 8) : zC w mX4_fix (d + 2) [vR 4 0, vR 6 i, vI (nI x)] (zP (mN M R Z) O) zrV (zP (mN M (nX (M 27 i) x R 8) (upd Z x (nI 1))) O) := by
  refine zC_of (cr := 0) (L0 := [vR 4 0, vR 6 i, vI (nI x), vU, vU]) rfl (by decide) (by decide) rfl (Nat.le_of_ble_eq_true rfl) rfl ?_
  refine g_iload_n (n := 1) dX4_fix_0 rfl rfl ?_
  refine g_cSNv (n := 4) (c_isTown (nI x)) dX4_fix_1 rfl kw_X4_31 (Nat.le_of_ble_eq_true rfl) ⟨Nat.le_refl _, Nat.le_refl _⟩ ?_ rfl
  refine g_if_ne (n := 7) (t := 8) dX4_fix_4 rfl (by decide) (fun _ => ?_) (fun q9 => absurd q9 (by rw [z_ok_nI hx (by decide)]; decide))
  refine g_aload_n (n := 9) dX4_fix_8 rfl rfl ?_
  refine gf_X4_15 (n := 12) dX4_fix_9 rfl rfl (z_lvP (by first | decide | assumption)) rfl ?_
  refine g_iload_n (n := 13) dX4_fix_12 rfl rfl ?_
  refine g_iconst (n := 14) dX4_fix_13 rfl k_ic_1 ?_
  refine g_zast (n := 15) dX4_fix_14 rfl (by decide) (z_lvP (by first | decide | assumption)) rfl (by show _ < 8; first | assumption | omega) rfl ?_
  rw [mN_21]
  refine g_iconst (n := 16) dX4_fix_15 rfl k_ic_0 ?_
  refine g_istore3 (n := 17) dX4_fix_16 rfl (by decide) rfl ?_
  refine z_loop (fun j => zG w mX4_fix (d + 2) 0 17 [vR 4 0, vR 6 i, vI (nI x), vI (nI j), vU] [] (zP (mN M (nX (M 27 i) x R j) (upd Z x (nI 1))) O) zrV (zP (mN M (nX (M 27 i) x R 8) (upd Z x (nI 1))) O)) 8 ?_ ?_ 0 (Nat.zero_le _)
  · refine g_iload_n (n := 18) dX4_fix_17 rfl rfl ?_
    refine g_bipush (n := 20) dX4_fix_18 rfl k_bp_8 ?_
    refine g_icmp_ge (n := 23) (t := 66) dX4_fix_20 rfl (by decide) (fun _ => ?_) (fun q9 => absurd (Int32.le_refl _) q9)
    exact g_return dX4_fix_66 rfl rfl rfl
  · intro j hj ih
    have e0 : nX (M 27 i) x R (j + 1) = if 0 < M 27 i (8 * x + j) then upd (nX (M 27 i) x R j) j (if nX (M 27 i) x R j x + M 27 i (8 * x + j) < nX (M 27 i) x R j j then nX (M 27 i) x R j x + M 27 i (8 * x + j) else nX (M 27 i) x R j j) else nX (M 27 i) x R j := rfl
    rw [e0] at ih
    have cc := c_rcost (w := w) (d := d) (M := mN M (nX (M 27 i) x R j) (upd Z x (nI 1))) (O := O) hi (nI x) (nI j)
    rw [xg2_nI hx (by decide) hj (by decide)] at cc
    refine g_iload_n (n := 18) dX4_fix_17 rfl rfl ?_
    refine g_bipush (n := 20) dX4_fix_18 rfl k_bp_8 ?_
    refine g_icmp_ge (n := 23) (t := 66) dX4_fix_20 rfl (by decide) (fun q9 => absurd q9 (nI_ge hj (by decide))) (fun _ => ?_)
    refine g_aload_n (n := 24) dX4_fix_23 rfl rfl ?_
    refine g_iload_n (n := 25) dX4_fix_24 rfl rfl ?_
    refine g_iload_n (n := 26) dX4_fix_25 rfl rfl ?_
    refine g_cVv (n := 29) cc dX4_fix_26 rfl kw_X4_36 rfl (by decide) (z_lvP (by first | decide | assumption)) (Nat.le_of_ble_eq_true rfl) ⟨Nat.le_refl _, Nat.le_refl _⟩ ?_ rfl
    refine g_istore4 (n := 31) dX4_fix_29 rfl (by decide) rfl ?_
    refine g_iload (n := 33) dX4_fix_31 rfl rfl ?_
    refine g_if_le (n := 36) (t := 60) dX4_fix_33 rfl (by decide) (fun c33 => ?_) (fun c33 => ?_)
    · rw [if_neg (show ¬ 0 < M 27 i (8 * x + j) from Int32.not_lt.mpr c33)] at ih
      refine g_iinc3 (n := 63) dX4_fix_60 rfl (by decide) rfl (z_inc1 _) ?_
      refine g_goto (n := 0) (t := 17) dX4_fix_63 (by decide) ?_
      refine g_drop 4 ?_
      exact ih
    · rw [if_pos (show 0 < M 27 i (8 * x + j) from Int32.not_le.mp c33)] at ih
      refine g_aload_n (n := 37) dX4_fix_36 rfl rfl ?_
      refine gf_X4_9 (n := 40) dX4_fix_37 rfl rfl (z_lvP (by first | decide | assumption)) rfl ?_
      refine g_iload_n (n := 41) dX4_fix_40 rfl rfl ?_
      refine g_aload_n (n := 42) dX4_fix_41 rfl rfl ?_
      refine gf_X4_9 (n := 45) dX4_fix_42 rfl rfl (z_lvP (by first | decide | assumption)) rfl ?_
      refine g_iload_n (n := 46) dX4_fix_45 rfl rfl ?_
      refine g_iald (n := 47) dX4_fix_46 rfl (by decide) (z_lvP (by first | decide | assumption)) rfl (by show _ < 8; first | assumption | omega) ?_
      refine g_aload_n (n := 48) dX4_fix_47 rfl rfl ?_
      refine gf_X4_9 (n := 51) dX4_fix_48 rfl rfl (z_lvP (by first | decide | assumption)) rfl ?_
      refine g_iload_n (n := 52) dX4_fix_51 rfl rfl ?_
      refine g_iald (n := 53) dX4_fix_52 rfl (by decide) (z_lvP (by first | decide | assumption)) rfl (by show _ < 8; first | assumption | omega) ?_
      refine g_iload (n := 55) dX4_fix_53 rfl rfl ?_
      refine g_iadd (n := 56) dX4_fix_55 rfl ?_
      refine g_mmin (n := 59) dX4_fix_56 rfl km_X4_42 km_minS km_mI km_minC (by omega) (Nat.le_of_ble_eq_true rfl) ?_
      refine g_iast (n := 60) dX4_fix_59 rfl (by decide) (z_lvP (by first | decide | assumption)) rfl (by show _ < 8; first | assumption | omega) ?_
      rw [mN_20]
      refine g_iinc3 (n := 63) dX4_fix_60 rfl (by decide) rfl (z_inc1 _) ?_
      refine g_goto (n := 0) (t := 17) dX4_fix_63 (by decide) ?_
      refine g_drop 4 ?_
      exact ih
theorem c_nway (hi : i < 10) {a b : Nat} (ha : a < 8) (hb : b < 8) : zC w mX4_way (d + 3) [vR 4 0, vR 6 i, vI (nI a), vI (nI b)] (zP M O) (zrI (xfar ((nRs (M 27 i) (xfl (nB a) (M 20 0) 8, xfl (fun _ => nI 0) (M 21 0) 8) 8).1 b))) (zP (mN M (nRs (M 27 i) (xfl (nB a) (M 20 0) 8, xfl (fun _ => nI 0) (M 21 0) 8) 8).1 (nRs (M 27 i) (xfl (nB a) (M 20 0) 8, xfl (fun _ => nI 0) (M 21 0) 8) 8).2) O) := by
  obtain ⟨RZ, hRZ⟩ : ∃ RZ, RZ = (xfl (nB a) (M 20 0) 8, xfl (fun _ => nI 0) (M 21 0) 8) := ⟨_, rfl⟩
  have cb := c_nbegin (w := w) (d := d + 2) (M := M) (O := O) (R := M 20 0) (Z := M 21 0) ha
  rw [mN_id] at cb
  rw [← hRZ]
  have cb2 : zC w mX4_begin (d + 2) [vR 4 0, vI (nI a)] (zP M O) zrV (zP (mN M (nRs (M 27 i) RZ 0).1 (nRs (M 27 i) RZ 0).2) O) := by
    rw [hRZ]
    exact cb
  refine zC_of (cr := 0) (L0 := [vR 4 0, vR 6 i, vI (nI a), vI (nI b), vU]) rfl (by decide) (by decide) rfl (Nat.le_of_ble_eq_true rfl) rfl ?_
  refine g_aload_n (n := 1) dX4_way_0 rfl rfl ?_
  refine g_iload_n (n := 2) dX4_way_1 rfl rfl ?_
  refine g_cVn (n := 5) cb2 dX4_way_2 rfl kw_X4_19 rfl (by decide) (z_lvP (by first | decide | assumption)) (Nat.le_of_ble_eq_true rfl) ⟨Nat.le_refl _, Nat.le_refl _⟩ ?_ rfl
  refine g_iconst (n := 6) dX4_way_5 rfl k_ic_0 ?_
  refine g_istore4 (n := 8) dX4_way_6 rfl (by decide) rfl ?_
  refine z_loop (fun k => zG w mX4_way (d + 3) 0 8 [vR 4 0, vR 6 i, vI (nI a), vI (nI b), vI (nI k)] [] (zP (mN M (nRs (M 27 i) RZ k).1 (nRs (M 27 i) RZ k).2) O) (zrI (xfar ((nRs (M 27 i) RZ 8).1 b))) (zP (mN M (nRs (M 27 i) RZ 8).1 (nRs (M 27 i) RZ 8).2) O)) 8 ?_ ?_ 0 (Nat.zero_le _)
  · unfold xfar xFAR
    refine g_iload (n := 10) dX4_way_8 rfl rfl ?_
    refine g_bipush (n := 12) dX4_way_10 rfl k_bp_8 ?_
    refine g_icmp_ge (n := 15) (t := 30) dX4_way_12 rfl (by decide) (fun _ => ?_) (fun q9 => absurd (Int32.le_refl _) q9)
    refine g_iload_n (n := 31) dX4_way_30 rfl rfl ?_
    refine g_cSNv (n := 34) (c_isTown (nI b)) dX4_way_31 rfl kw_X4_31 (Nat.le_of_ble_eq_true rfl) ⟨Nat.le_refl _, Nat.le_refl _⟩ ?_ rfl
    refine g_if_eq (n := 37) (t := 46) dX4_way_34 rfl (by decide) (fun q9 => absurd q9 (by rw [z_ok_nI hb (by decide)]; decide)) (fun _ => ?_)
    refine g_aload_n (n := 38) dX4_way_37 rfl rfl ?_
    refine gf_X4_9 (n := 41) dX4_way_38 rfl rfl (z_lvP (by first | decide | assumption)) rfl ?_
    refine g_iload_n (n := 42) dX4_way_41 rfl rfl ?_
    refine g_iald (n := 43) dX4_way_42 rfl (by decide) (z_lvP (by first | decide | assumption)) rfl (by show _ < 8; first | assumption | omega) ?_
    refine g_goto (n := 0) (t := 48) dX4_way_43 (by decide) ?_
    refine g_istore4 (n := 50) dX4_way_48 rfl (by decide) rfl ?_
    refine g_iload (n := 52) dX4_way_50 rfl rfl ?_
    refine g_ldc (n := 54) dX4_way_52 rfl kc_X4_35 ?_
    refine g_icmp_ge (n := 57) (t := 62) dX4_way_54 rfl (by decide) (fun c54 => ?_) (fun c54 => ?_)
    · rw [if_neg (show ¬ (nRs (M 27 i) RZ 8).1 b < nI 1000000 from Int32.not_lt.mpr c54)]
      refine g_iconst (n := 63) dX4_way_62 rfl k_ic_m1 ?_
      exact g_ireturn dX4_way_63 rfl rfl rfl rfl
    · rw [if_pos (show (nRs (M 27 i) RZ 8).1 b < nI 1000000 from Int32.not_le.mp c54)]
      refine g_iload (n := 59) dX4_way_57 rfl rfl ?_
      refine g_goto (n := 0) (t := 63) dX4_way_59 (by decide) ?_
      exact g_ireturn dX4_way_63 rfl rfl rfl rfl
  · intro k hk ih
    obtain ⟨q, hq⟩ : ∃ q, q = nRs (M 27 i) RZ k := ⟨_, rfl⟩
    have e0 : nRs (M 27 i) RZ (k + 1) = nR (M 27 i) q := by rw [hq]; rfl
    rw [e0] at ih
    rw [← hq]
    have cu := c_nunset (w := w) (d := d + 2) (M := M) (O := O) (R := q.1) (Z := q.2)
    unfold nR at ih
    cases hx : z_ok (nU q.1 q.2 8).1 8
    · rw [hx, if_neg (by decide)] at ih
      refine g_iload (n := 10) dX4_way_8 rfl rfl ?_
      refine g_bipush (n := 12) dX4_way_10 rfl k_bp_8 ?_
      refine g_icmp_ge (n := 15) (t := 30) dX4_way_12 rfl (by decide) (fun q9 => absurd q9 (nI_ge hk (by decide))) (fun _ => ?_)
      refine g_aload_n (n := 16) dX4_way_15 rfl rfl ?_
      refine g_aload_n (n := 17) dX4_way_16 rfl rfl ?_
      refine g_aload_n (n := 18) dX4_way_17 rfl rfl ?_
      refine g_cVv (n := 21) cu dX4_way_18 rfl kw_X4_23 rfl (by decide) (z_lvP (by first | decide | assumption)) (Nat.le_of_ble_eq_true rfl) ⟨Nat.le_refl _, Nat.le_refl _⟩ ?_ rfl
      refine g_cVn (n := 24) (c_nfixN _ hx) dX4_way_21 rfl kw_X4_27 rfl (by decide) (z_lvP (by first | decide | assumption)) (Nat.le_of_ble_eq_true rfl) ⟨Nat.le_refl _, Nat.le_refl _⟩ ?_ rfl
      refine g_iinc4 (n := 27) dX4_way_24 rfl (by decide) rfl (z_inc1 _) ?_
      refine g_goto (n := 0) (t := 8) dX4_way_27 (by decide) ?_
      exact ih
    · rw [hx, if_pos rfl] at ih
      obtain ⟨x, hx8, hxe⟩ := z_ok_of hx (by decide)
      rw [hxe, nI_clamp (by omega)] at ih
      rw [hxe] at cu
      refine g_iload (n := 10) dX4_way_8 rfl rfl ?_
      refine g_bipush (n := 12) dX4_way_10 rfl k_bp_8 ?_
      refine g_icmp_ge (n := 15) (t := 30) dX4_way_12 rfl (by decide) (fun q9 => absurd q9 (nI_ge hk (by decide))) (fun _ => ?_)
      refine g_aload_n (n := 16) dX4_way_15 rfl rfl ?_
      refine g_aload_n (n := 17) dX4_way_16 rfl rfl ?_
      refine g_aload_n (n := 18) dX4_way_17 rfl rfl ?_
      refine g_cVv (n := 21) cu dX4_way_18 rfl kw_X4_23 rfl (by decide) (z_lvP (by first | decide | assumption)) (Nat.le_of_ble_eq_true rfl) ⟨Nat.le_refl _, Nat.le_refl _⟩ ?_ rfl
      refine g_cVn (n := 24) (c_nfix hi hx8) dX4_way_21 rfl kw_X4_27 rfl (by decide) (z_lvP (by first | decide | assumption)) (Nat.le_of_ble_eq_true rfl) ⟨Nat.le_refl _, Nat.le_refl _⟩ ?_ rfl
      refine g_iinc4 (n := 27) dX4_way_24 rfl (by decide) rfl (z_inc1 _) ?_
      refine g_goto (n := 0) (t := 8) dX4_way_27 (by decide) ?_
      exact ih
end L9

