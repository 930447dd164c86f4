/-! The reference: distances measured, rows copied, saved, laid. -/
section L2
variable {w : zWp} {d b s t h : Nat} {M : Nat → Nat → Nat → Int32} {O : Nat → Int64} {R : Nat → Int32}
/-- the memory behind a measuring -/
def mMea (M : Nat → Nat → Nat → Int32) (b : Nat) : Nat → Nat → Nat → Int32 := u2 M 35 0 (fwO (xfl (fwI (fun k => rV M b (2 + k))) (M 35 0) 64) 8)
theorem r_measures (hb : b ≤ 1566) : zC w mX10_measures d [vR 10 0, vI (nI b)] (zP M O) zrV (zP (mMea M b) O) := by
  obtain ⟨C, hC⟩ : ∃ C : Nat → Int32, C = fun k => rV M b (2 + k) := ⟨_, rfl⟩
  unfold mMea
  rw [← hC]
  have k58 : ∀ o, o ≤ 8 → ∀ y, zG w mX10_measures d 0 58 [vR 10 0, vI (nI b), vI (nI o), y, vU] [] (zP (u2 M 35 0 (fwO (xfl (fwI C) (M 35 0) 64) o)) O) zrV (zP (u2 M 35 0 (fwO (xfl (fwI C) (M 35 0) 64) 8)) O) := by
    intro o ho y
    refine g_drop 3 ?_
    refine z_loop (fun o => zG w mX10_measures d 0 58 [vR 10 0, vI (nI b), vI (nI o), vU, vU] [] (zP (u2 M 35 0 (fwO (xfl (fwI C) (M 35 0) 64) o)) O) zrV (zP (u2 M 35 0 (fwO (xfl (fwI C) (M 35 0) 64) 8)) O)) 8 ?_ ?_ o ho
    · refine g_iload_n (n := 59) dX10_measures_58 rfl rfl ?_
      refine g_bipush (n := 61) dX10_measures_59 rfl k_bp_8 ?_
      refine g_icmp_ge (n := 64) (t := 143) dX10_measures_61 rfl (by decide) (fun _ => ?_) (fun q9 => absurd (Int32.le_refl _) q9)
      exact g_return dX10_measures_143 rfl rfl rfl
    · intro o ho ih
      obtain ⟨Q, hQ⟩ : ∃ Q, Q = fwO (xfl (fwI C) (M 35 0) 64) o := ⟨_, rfl⟩
      have e0 : fwO (xfl (fwI C) (M 35 0) 64) (o + 1) = fwK o Q 64 := by rw [hQ]; rfl
      rw [e0] at ih
      rw [← hQ]
      refine g_iload_n (n := 59) dX10_measures_58 rfl rfl ?_
      refine g_bipush (n := 61) dX10_measures_59 rfl k_bp_8 ?_
      refine g_icmp_ge (n := 64) (t := 143) dX10_measures_61 rfl (by decide) (fun q9 => absurd q9 (nI_ge ho (by decide))) (fun _ => ?_)
      refine g_iconst (n := 65) dX10_measures_64 rfl k_ic_0 ?_
      refine g_istore3 (n := 66) dX10_measures_65 rfl (by decide) rfl ?_
      refine z_loop (fun k => zG w mX10_measures d 0 66 [vR 10 0, vI (nI b), vI (nI o), vI (nI k), vU] [] (zP (u2 M 35 0 (fwK o Q k)) O) zrV (zP (u2 M 35 0 (fwO (xfl (fwI C) (M 35 0) 64) 8)) O)) 64 ?_ ?_ 0 (Nat.zero_le _)
      · refine g_iload_n (n := 67) dX10_measures_66 rfl rfl ?_
        refine g_bipush (n := 69) dX10_measures_67 rfl k_bp_64 ?_
        refine g_icmp_ge (n := 72) (t := 137) dX10_measures_69 rfl (by decide) (fun _ => ?_) (fun q9 => absurd (Int32.le_refl _) q9)
        refine g_iinc2 (n := 140) dX10_measures_137 rfl (by decide) rfl (z_inc1 _) ?_
        refine g_goto (n := 0) (t := 58) dX10_measures_140 (by decide) ?_
        refine g_drop 3 ?_
        exact ih
      · intro k hk ih2
        obtain ⟨P, hP⟩ : ∃ P, P = fwK o Q k := ⟨_, rfl⟩
        have e1 : fwK o Q (k + 1) = upd P k (if P (8 * (k / 8) + o) + P (8 * o + k % 8) < P k then P (8 * (k / 8) + o) + P (8 * o + k % 8) else P k) := by rw [hP]; rfl
        rw [e1] at ih2
        rw [← hP]
        have i1 : nI 8 * (nI k / nI 8) + nI o = nI (8 * (k / 8) + o) := by
          rw [pk_div (by omega) (by decide) (by decide), pk_mul, nI_add]
        have i2 : nI 8 * nI o + (nI k - nI k / nI 8 * nI 8) = nI (8 * o + k % 8) := by
          rw [pk_rem (by omega) (by decide) (by decide), pk_mul, nI_add]
        refine g_iload_n (n := 67) dX10_measures_66 rfl rfl ?_
        refine g_bipush (n := 69) dX10_measures_67 rfl k_bp_64 ?_
        refine g_icmp_ge (n := 72) (t := 137) dX10_measures_69 rfl (by decide) (fun q9 => absurd q9 (nI_ge hk (by decide))) (fun _ => ?_)
        refine g_aload_n (n := 73) dX10_measures_72 rfl rfl ?_
        refine gf_X10_21 (n := 76) dX10_measures_73 rfl rfl (z_lvP (by first | decide | assumption)) rfl ?_
        refine g_bipush (n := 78) dX10_measures_76 rfl k_bp_8 ?_
        refine g_iload_n (n := 79) dX10_measures_78 rfl rfl ?_
        refine g_bipush (n := 81) dX10_measures_79 rfl k_bp_8 ?_
        refine g_idiv (n := 82) dX10_measures_81 rfl (by decide) ?_
        refine g_imul (n := 83) dX10_measures_82 rfl ?_
        refine g_iload_n (n := 84) dX10_measures_83 rfl rfl ?_
        refine g_iadd (n := 85) dX10_measures_84 rfl ?_
        refine g_iald (a := (8 * (k / 8) + o)) (n := 86) dX10_measures_85 rfl (by decide) (z_lvP (by first | decide | assumption)) i1 (by show _ < 64; first | assumption | omega) ?_
        refine g_aload_n (n := 87) dX10_measures_86 rfl rfl ?_
        refine gf_X10_21 (n := 90) dX10_measures_87 rfl rfl (z_lvP (by first | decide | assumption)) rfl ?_
        refine g_bipush (n := 92) dX10_measures_90 rfl k_bp_8 ?_
        refine g_iload_n (n := 93) dX10_measures_92 rfl rfl ?_
        refine g_imul (n := 94) dX10_measures_93 rfl ?_
        refine g_iload_n (n := 95) dX10_measures_94 rfl rfl ?_
        refine g_bipush (n := 97) dX10_measures_95 rfl k_bp_8 ?_
        refine g_irem (n := 98) dX10_measures_97 rfl (by decide) ?_
        refine g_iadd (n := 99) dX10_measures_98 rfl ?_
        refine g_iald (a := (8 * o + k % 8)) (n := 100) dX10_measures_99 rfl (by decide) (z_lvP (by first | decide | assumption)) i2 (by show _ < 64; first | assumption | omega) ?_
        refine g_iadd (n := 101) dX10_measures_100 rfl ?_
        refine g_istore4 (n := 103) dX10_measures_101 rfl (by decide) rfl ?_
        refine g_aload_n (n := 104) dX10_measures_103 rfl rfl ?_
        refine gf_X10_21 (n := 107) dX10_measures_104 rfl rfl (z_lvP (by first | decide | assumption)) rfl ?_
        refine g_iload_n (n := 108) dX10_measures_107 rfl rfl ?_
        refine g_iload (n := 110) dX10_measures_108 rfl rfl ?_
        refine g_aload_n (n := 111) dX10_measures_110 rfl rfl ?_
        refine gf_X10_21 (n := 114) dX10_measures_111 rfl rfl (z_lvP (by first | decide | assumption)) rfl ?_
        refine g_iload_n (n := 115) dX10_measures_114 rfl rfl ?_
        refine g_iald (n := 116) dX10_measures_115 rfl (by decide) (z_lvP (by first | decide | assumption)) rfl (by show _ < 64; first | assumption | omega) ?_
        refine g_icmp_ge (n := 119) (t := 124) dX10_measures_116 rfl (by decide) (fun c116 => ?_) (fun c116 => ?_)
        · rw [if_neg (show ¬ P (8 * (k / 8) + o) + P (8 * o + k % 8) < P k from Int32.not_lt.mpr c116)] at ih2
          refine g_aload_n (n := 125) dX10_measures_124 rfl rfl ?_
          refine gf_X10_21 (n := 128) dX10_measures_125 rfl rfl (z_lvP (by first | decide | assumption)) rfl ?_
          refine g_iload_n (n := 129) dX10_measures_128 rfl rfl ?_
          refine g_iald (n := 130) dX10_measures_129 rfl (by decide) (z_lvP (by first | decide | assumption)) rfl (by show _ < 64; first | assumption | omega) ?_
          refine g_iast (n := 131) dX10_measures_130 rfl (by decide) (z_lvP (by first | decide | assumption)) rfl (by show _ < 64; first | assumption | omega) ?_
          rw [u3_u2]
          refine g_iinc3 (n := 134) dX10_measures_131 rfl (by decide) rfl (z_inc1 _) ?_
          refine g_goto (n := 0) (t := 66) dX10_measures_134 (by decide) ?_
          refine g_drop 4 ?_
          exact ih2
        · rw [if_pos (show P (8 * (k / 8) + o) + P (8 * o + k % 8) < P k from Int32.not_le.mp c116)] at ih2
          refine g_iload (n := 121) dX10_measures_119 rfl rfl ?_
          refine g_goto (n := 0) (t := 130) dX10_measures_121 (by decide) ?_
          refine g_iast (n := 131) dX10_measures_130 rfl (by decide) (z_lvP (by first | decide | assumption)) rfl (by show _ < 64; first | assumption | omega) ?_
          rw [u3_u2]
          refine g_iinc3 (n := 134) dX10_measures_131 rfl (by decide) rfl (z_inc1 _) ?_
          refine g_goto (n := 0) (t := 66) dX10_measures_134 (by decide) ?_
          refine g_drop 4 ?_
          exact ih2
  refine zC_of (cr := 0) (L0 := [vR 10 0, vI (nI b), vU, vU, vU]) rfl (by decide) (by decide) rfl (Nat.le_of_ble_eq_true rfl) rfl ?_
  refine g_iconst (n := 1) dX10_measures_0 rfl k_ic_0 ?_
  refine g_istore2 (n := 2) dX10_measures_1 rfl (by decide) rfl ?_
  suffices H : zG w mX10_measures d 0 2 [vR 10 0, vI (nI b), vI (nI 0), vU, vU] [] (zP (u2 M 35 0 (xfl (fwI C) (M 35 0) 0)) O) zrV (zP (u2 M 35 0 (fwO (xfl (fwI C) (M 35 0) 64) 8)) O) by
    rw [xfl_0, u2_id] at H
    exact H
  refine z_loop (fun k => zG w mX10_measures d 0 2 [vR 10 0, vI (nI b), vI (nI k), vU, vU] [] (zP (u2 M 35 0 (xfl (fwI C) (M 35 0) k)) O) zrV (zP (u2 M 35 0 (fwO (xfl (fwI C) (M 35 0) 64) 8)) O)) 64 ?_ ?_ 0 (Nat.zero_le _)
  · refine g_iload_n (n := 3) dX10_measures_2 rfl rfl ?_
    refine g_bipush (n := 5) dX10_measures_3 rfl k_bp_64 ?_
    refine g_icmp_ge (n := 8) (t := 56) dX10_measures_5 rfl (by decide) (fun _ => ?_) (fun q9 => absurd (Int32.le_refl _) q9)
    refine g_iconst (n := 57) dX10_measures_56 rfl k_ic_0 ?_
    refine g_istore2 (n := 58) dX10_measures_57 rfl (by decide) rfl ?_
    exact k58 0 (by decide) vU
  · intro k hk ih
    have i1 : nI b + nI 2 + nI k = nI (b + (2 + k)) := by rw [nI_add, nI_add, Nat.add_assoc]
    have i2 : nI k / nI 8 = nI (k / 8) := pk_div (by omega) (by decide) (by decide)
    have i3 : nI k - nI k / nI 8 * nI 8 = nI (k % 8) := pk_rem (by omega) (by decide) (by decide)
    have ec : M 32 0 (b + (2 + k)) = C k := by rw [hC]
    have tail : ∀ v, v = fwI C k → zG w mX10_measures d 0 49 [vR 10 0, vI (nI b), vI (nI k), vI (C k), vU] [vI v, vI (nI k), vR 35 0] (zP (u2 M 35 0 (xfl (fwI C) (M 35 0) k)) O) zrV (zP (u2 M 35 0 (fwO (xfl (fwI C) (M 35 0) 64) 8)) O) := by
      intro v hv
      refine g_iast (n := 50) dX10_measures_49 rfl (by decide) (z_lvP (by first | decide | assumption)) rfl (by show _ < 64; first | assumption | omega) ?_
      rw [u3_u2, xfl_s _ _ _ hv]
      refine g_iinc2 (n := 53) dX10_measures_50 rfl (by decide) rfl (z_inc1 _) ?_
      refine g_goto (n := 0) (t := 2) dX10_measures_53 (by decide) ?_
      refine g_drop 3 ?_
      exact ih
    refine g_iload_n (n := 3) dX10_measures_2 rfl rfl ?_
    refine g_bipush (n := 5) dX10_measures_3 rfl k_bp_64 ?_
    refine g_icmp_ge (n := 8) (t := 56) dX10_measures_5 rfl (by decide) (fun q9 => absurd q9 (nI_ge hk (by decide))) (fun _ => ?_)
    refine g_aload_n (n := 9) dX10_measures_8 rfl rfl ?_
    refine gf_X10_7 (n := 12) dX10_measures_9 rfl rfl (z_lvP (by first | decide | assumption)) rfl ?_
    refine g_iload_n (n := 13) dX10_measures_12 rfl rfl ?_
    refine g_iconst (n := 14) dX10_measures_13 rfl k_ic_2 ?_
    refine g_iadd (n := 15) dX10_measures_14 rfl ?_
    refine g_iload_n (n := 16) dX10_measures_15 rfl rfl ?_
    refine g_iadd (n := 17) dX10_measures_16 rfl ?_
    refine g_iald (a := (b + (2 + k))) (n := 18) dX10_measures_17 rfl (by decide) (z_lvP (by first | decide | assumption)) i1 (by show _ < 1740; first | assumption | omega) ?_
    rw [show u2 M 35 0 (xfl (fwI C) (M 35 0) k) 32 0 (b + (2 + k)) = C k from ec]
    refine g_istore3 (n := 19) dX10_measures_18 rfl (by decide) rfl ?_
    refine g_aload_n (n := 20) dX10_measures_19 rfl rfl ?_
    refine gf_X10_21 (n := 23) dX10_measures_20 rfl rfl (z_lvP (by first | decide | assumption)) rfl ?_
    refine g_iload_n (n := 24) dX10_measures_23 rfl rfl ?_
    refine g_iload_n (n := 25) dX10_measures_24 rfl rfl ?_
    refine g_bipush (n := 27) dX10_measures_25 rfl k_bp_8 ?_
    refine g_idiv (n := 28) dX10_measures_27 rfl (by decide) ?_
    refine g_iload_n (n := 29) dX10_measures_28 rfl rfl ?_
    refine g_bipush (n := 31) dX10_measures_29 rfl k_bp_8 ?_
    refine g_irem (n := 32) dX10_measures_31 rfl (by decide) ?_
    rw [i3, i2]
    refine g_icmp_ne (n := 35) (t := 39) dX10_measures_32 rfl (by decide) (fun c32 => ?_) (fun c32 => ?_)
    · have hne : ¬ k / 8 = k % 8 := fun q => c32 (by rw [q])
      refine g_iload_n (n := 40) dX10_measures_39 rfl rfl ?_
      refine g_if_ne (n := 43) (t := 48) dX10_measures_40 rfl (by decide) (fun c40 => ?_) (fun c40 => ?_)
      · refine g_iload_n (n := 49) dX10_measures_48 rfl rfl ?_
        exact tail _ (by unfold fwI; rw [if_neg hne, if_neg c40])
      · refine g_ldc (n := 45) dX10_measures_43 rfl kc_X10_49 ?_
        refine g_goto (n := 0) (t := 49) dX10_measures_45 (by decide) ?_
        exact tail _ (by unfold fwI; rw [if_neg hne, if_pos c40]; rfl)
    · refine g_iconst (n := 36) dX10_measures_35 rfl k_ic_0 ?_
      refine g_goto (n := 0) (t := 49) dX10_measures_36 (by decide) ?_
      exact tail _ (by unfold fwI; rw [if_pos ((nI_eq (by omega) (by omega)).mp c32)]; rfl)
end L2

