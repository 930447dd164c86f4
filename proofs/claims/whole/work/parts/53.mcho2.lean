/-! The reference: how many of a grade, the choice. -/
section L12
variable {w : zWp} {d b s t h : Nat} {M : Nat → Nat → Nat → Int32} {O : Nat → Int64}
theorem r_graded (W : WFV (rV M b)) (hs : rV M b 66 = nI s) (h8 : s ≤ 8) (hb : b ≤ 1566) (ht : t < 8) (hh : h < 4) (l : Nat) : zC w mX10_graded (d + 4) [vR 10 0, vI (nI b), vI (nI t), vI (nI h), vI (nI l)] (zP M O) (zrI (vGd (M 35 0) (rV M b) s t h l)) (zP M O) := by
  have hm : M 32 0 (b + 66) = nI s := hs
  obtain ⟨g, hg⟩ : ∃ g : Nat → Int32, g = fun k => vGr (M 35 0) (rV M b) s t h k := ⟨_, rfl⟩
  have cg : ∀ k, k < s → zC w mX10_grade (d + 3) [vR 10 0, vI (nI b), vI (nI t), vI (nI h), vI (nI k)] (zP M O) (zrI (g k)) (zP M O) := fun k hk => by
    rw [hg]
    exact r_grade W hs h8 hb hk ht hh
  have e0 : vGd (M 35 0) (rV M b) s t h l = sm (fun k => zb (decide (nI l ≤ g k))) s := by rw [hg]; rfl
  rw [e0]
  refine zC_of (cr := 0) (L0 := [vR 10 0, vI (nI b), vI (nI t), vI (nI h), vI (nI l), vU, vU]) rfl (by decide) (by decide) rfl (Nat.le_of_ble_eq_true rfl) rfl ?_
  refine g_iconst (n := 1) dX10_graded_0 rfl k_ic_0 ?_
  refine g_istore5 (n := 3) dX10_graded_1 rfl (by decide) rfl ?_
  refine g_iconst (n := 4) dX10_graded_3 rfl k_ic_0 ?_
  refine g_istore6 (n := 6) dX10_graded_4 rfl (by decide) rfl ?_
  refine z_loop (fun k => zG w mX10_graded (d + 4) 0 6 [vR 10 0, vI (nI b), vI (nI t), vI (nI h), vI (nI l), vI (sm (fun k => zb (decide (nI l ≤ g k))) k), vI (nI k)] [] (zP M O) (zrI (sm (fun k => zb (decide (nI l ≤ g k))) s)) (zP M O)) s ?_ ?_ 0 (Nat.zero_le _)
  · refine g_iload (n := 8) dX10_graded_6 rfl rfl ?_
    refine g_aload_n (n := 9) dX10_graded_8 rfl rfl ?_
    refine gf_X10_7 (n := 12) dX10_graded_9 rfl rfl (z_lvP (by first | decide | assumption)) rfl ?_
    refine g_iload_n (n := 13) dX10_graded_12 rfl rfl ?_
    refine g_bipush (n := 15) dX10_graded_13 rfl k_bp_66 ?_
    refine g_iadd (n := 16) dX10_graded_15 rfl ?_
    refine g_iald (a := (b + 66)) (n := 17) dX10_graded_16 rfl (by decide) (z_lvP (by first | decide | assumption)) (nI_add _ _) (by show _ < 1740; first | assumption | omega) ?_
    rw [hm]
    refine g_icmp_ge (n := 20) (t := 50) dX10_graded_17 rfl (by decide) (fun _ => ?_) (fun q9 => absurd (Int32.le_refl _) q9)
    refine g_iload (n := 52) dX10_graded_50 rfl rfl ?_
    exact g_ireturn dX10_graded_52 rfl rfl rfl rfl
  · intro k hk ih
    rw [sm_s] at ih
    refine g_iload (n := 8) dX10_graded_6 rfl rfl ?_
    refine g_aload_n (n := 9) dX10_graded_8 rfl rfl ?_
    refine gf_X10_7 (n := 12) dX10_graded_9 rfl rfl (z_lvP (by first | decide | assumption)) rfl ?_
    refine g_iload_n (n := 13) dX10_graded_12 rfl rfl ?_
    refine g_bipush (n := 15) dX10_graded_13 rfl k_bp_66 ?_
    refine g_iadd (n := 16) dX10_graded_15 rfl ?_
    refine g_iald (a := (b + 66)) (n := 17) dX10_graded_16 rfl (by decide) (z_lvP (by first | decide | assumption)) (nI_add _ _) (by show _ < 1740; first | assumption | omega) ?_
    rw [hm]
    refine g_icmp_ge (n := 20) (t := 50) dX10_graded_17 rfl (by decide) (fun q9 => absurd q9 (nI_ge hk (by omega))) (fun _ => ?_)
    refine g_iload (n := 22) dX10_graded_20 rfl rfl ?_
    refine g_aload_n (n := 23) dX10_graded_22 rfl rfl ?_
    refine g_iload_n (n := 24) dX10_graded_23 rfl rfl ?_
    refine g_iload_n (n := 25) dX10_graded_24 rfl rfl ?_
    refine g_iload_n (n := 26) dX10_graded_25 rfl rfl ?_
    refine g_iload (n := 28) dX10_graded_26 rfl rfl ?_
    refine g_cVv (n := 31) (cg k hk) dX10_graded_28 rfl kw_X10_69 rfl (by decide) (z_lvP (by first | decide | assumption)) (Nat.le_of_ble_eq_true rfl) ⟨Nat.le_refl _, Nat.le_refl _⟩ ?_ rfl
    refine g_iload (n := 33) dX10_graded_31 rfl rfl ?_
    refine g_icmp_lt (n := 36) (t := 40) dX10_graded_33 rfl (by decide) (fun c33 => ?_) (fun c33 => ?_)
    · rw [decide_eq_false (Int32.not_le.mpr c33)] at ih
      refine g_iconst (n := 41) dX10_graded_40 rfl k_ic_0 ?_
      refine g_iadd (n := 42) dX10_graded_41 rfl ?_
      refine g_istore5 (n := 44) dX10_graded_42 rfl (by decide) rfl ?_
      refine g_iinc6 (n := 47) dX10_graded_44 rfl (by decide) rfl (z_inc1 _) ?_
      refine g_goto (n := 0) (t := 6) dX10_graded_47 (by decide) ?_
      exact ih
    · rw [decide_eq_true (Int32.not_lt.mp c33)] at ih
      refine g_iconst (n := 37) dX10_graded_36 rfl k_ic_1 ?_
      refine g_goto (n := 0) (t := 41) dX10_graded_37 (by decide) ?_
      refine g_iadd (n := 42) dX10_graded_41 rfl ?_
      refine g_istore5 (n := 44) dX10_graded_42 rfl (by decide) rfl ?_
      refine g_iinc6 (n := 47) dX10_graded_44 rfl (by decide) rfl (z_inc1 _) ?_
      refine g_goto (n := 0) (t := 6) dX10_graded_47 (by decide) ?_
      exact ih
theorem r_chooses (W : WFV (rV M b)) (hs : rV M b 66 = nI s) (h8 : s ≤ 8) (hb : b ≤ 1566) (ht : t < 8) (hh : h < 4) : zC w mX10_chooses (d + 5) [vR 10 0, vI (nI b), vI (nI t), vI (nI h)] (zP M O) (zrI (vCho (M 35 0) (rV M b) s t h)) (zP M O) := by
  have hm : M 32 0 (b + 66) = nI s := hs
  have cd := r_graded (w := w) (d := d) (O := O) W hs h8 hb ht hh 3
  unfold vCho
  obtain ⟨B, hB⟩ : ∃ B, B = vGd (M 35 0) (rV M b) s t h 3 := ⟨_, rfl⟩
  obtain ⟨p, hp⟩ : ∃ p : Nat → Bool, p = fun k => decide (vGr (M 35 0) (rV M b) s t h k = nI 3) := ⟨_, rfl⟩
  have cg : ∀ k, k < s → zC w mX10_grade (d + 4) [vR 10 0, vI (nI b), vI (nI t), vI (nI h), vI (nI k)] (zP M O) (zrI (vGr (M 35 0) (rV M b) s t h k)) (zP M O) := fun k hk => r_grade W hs h8 hb hk ht hh
  rw [← hB, ← hp]
  rw [← hB] at cd
  refine zC_of (cr := 0) (L0 := [vR 10 0, vI (nI b), vI (nI t), vI (nI h), vU, vU, vU, vU, vU]) rfl (by decide) (by decide) rfl (Nat.le_of_ble_eq_true rfl) rfl ?_
  have main : ∀ r, r = vRk (rV M b) t h B → zG w mX10_chooses (d + 5) 0 51 [vR 10 0, vI (nI b), vI (nI t), vI (nI h), vI B, vU, vU, vU, vU] [vI r] (zP M O) (zrI (mfo p 0 s (-1) (vRk (rV M b) t h B))) (zP M O) := by
    intro r hr
    rw [← hr]
    refine g_istore5 (n := 53) dX10_chooses_51 rfl (by decide) rfl ?_
    refine g_iconst (n := 54) dX10_chooses_53 rfl k_ic_m1 ?_
    refine g_istore6 (n := 56) dX10_chooses_54 rfl (by decide) rfl ?_
    refine g_iconst (n := 57) dX10_chooses_56 rfl k_ic_0 ?_
    refine g_istore7 (n := 59) dX10_chooses_57 rfl (by decide) rfl ?_
    refine z_loop (fun k => ∀ f r, ∀ j, k + j = s → zG w mX10_chooses (d + 5) 0 59 [vR 10 0, vI (nI b), vI (nI t), vI (nI h), vI B, vI r, vI f, vI (nI k), vU] [] (zP M O) (zrI (mfo p k j f r)) (zP M O)) s ?_ ?_ 0 (Nat.zero_le _) (-1) r s (Nat.zero_add _)
    · intro f r j hj
      obtain rfl : j = 0 := by omega
      refine g_iload (n := 61) dX10_chooses_59 rfl rfl ?_
      refine g_aload_n (n := 62) dX10_chooses_61 rfl rfl ?_
      refine gf_X10_7 (n := 65) dX10_chooses_62 rfl rfl (z_lvP (by first | decide | assumption)) rfl ?_
      refine g_iload_n (n := 66) dX10_chooses_65 rfl rfl ?_
      refine g_bipush (n := 68) dX10_chooses_66 rfl k_bp_66 ?_
      refine g_iadd (n := 69) dX10_chooses_68 rfl ?_
      refine g_iald (a := (b + 66)) (n := 70) dX10_chooses_69 rfl (by decide) (z_lvP (by first | decide | assumption)) (nI_add _ _) (by show _ < 1740; first | assumption | omega) ?_
      rw [hm]
      refine g_icmp_ge (n := 73) (t := 133) dX10_chooses_70 rfl (by decide) (fun _ => ?_) (fun q9 => absurd (Int32.le_refl _) q9)
      refine g_iload (n := 135) dX10_chooses_133 rfl rfl ?_
      exact g_ireturn dX10_chooses_135 rfl rfl rfl rfl
    · intro k hk ih f r j hj
      obtain ⟨j, rfl⟩ : ∃ q, j = q + 1 := ⟨j - 1, by omega⟩
      have e1 : mfo p k (j + 1) f r = mfo p (k + 1) j (if p k = true ∧ r = 0 then nI k else f) (r - zb (p k)) := rfl
      rw [e1]
      have pk : p k = decide (vGr (M 35 0) (rV M b) s t h k = nI 3) := by rw [hp]
      have tail : ∀ f2, f2 = (if p k = true ∧ r = 0 then nI k else f) → ∀ q, q = p k → zG w mX10_chooses (d + 5) 0 110 [vR 10 0, vI (nI b), vI (nI t), vI (nI h), vI B, vI r, vI f, vI (nI k), vI (zb q)] [vI f2] (zP M O) (zrI (mfo p (k + 1) j (if p k = true ∧ r = 0 then nI k else f) (r - zb (p k)))) (zP M O) := by
        intro f2 hf2 q hq
        rw [← hf2, ← hq]
        have ih2 := ih f2 (r - zb q) j (by omega)
        cases q
        · refine g_istore6 (n := 112) dX10_chooses_110 rfl (by decide) rfl ?_
          refine g_iload (n := 114) dX10_chooses_112 rfl rfl ?_
          refine g_iload (n := 116) dX10_chooses_114 rfl rfl ?_
          refine g_if_eq (n := 119) (t := 123) dX10_chooses_116 rfl (by decide) (fun _ => ?_) (fun q9 => absurd rfl q9)
          refine g_iconst (n := 124) dX10_chooses_123 rfl k_ic_0 ?_
          refine g_isub (n := 125) dX10_chooses_124 rfl ?_
          refine g_istore5 (n := 127) dX10_chooses_125 rfl (by decide) rfl ?_
          refine g_iinc7 (n := 130) dX10_chooses_127 rfl (by decide) rfl (z_inc1 _) ?_
          refine g_goto (n := 0) (t := 59) dX10_chooses_130 (by decide) ?_
          refine g_drop 8 ?_
          exact ih2
        · refine g_istore6 (n := 112) dX10_chooses_110 rfl (by decide) rfl ?_
          refine g_iload (n := 114) dX10_chooses_112 rfl rfl ?_
          refine g_iload (n := 116) dX10_chooses_114 rfl rfl ?_
          refine g_if_eq (n := 119) (t := 123) dX10_chooses_116 rfl (by decide) (fun q9 => absurd q9 (by decide)) (fun _ => ?_)
          refine g_iconst (n := 120) dX10_chooses_119 rfl k_ic_1 ?_
          refine g_goto (n := 0) (t := 124) dX10_chooses_120 (by decide) ?_
          refine g_isub (n := 125) dX10_chooses_124 rfl ?_
          refine g_istore5 (n := 127) dX10_chooses_125 rfl (by decide) rfl ?_
          refine g_iinc7 (n := 130) dX10_chooses_127 rfl (by decide) rfl (z_inc1 _) ?_
          refine g_goto (n := 0) (t := 59) dX10_chooses_130 (by decide) ?_
          refine g_drop 8 ?_
          exact ih2
      refine g_iload (n := 61) dX10_chooses_59 rfl rfl ?_
      refine g_aload_n (n := 62) dX10_chooses_61 rfl rfl ?_
      refine gf_X10_7 (n := 65) dX10_chooses_62 rfl rfl (z_lvP (by first | decide | assumption)) rfl ?_
      refine g_iload_n (n := 66) dX10_chooses_65 rfl rfl ?_
      refine g_bipush (n := 68) dX10_chooses_66 rfl k_bp_66 ?_
      refine g_iadd (n := 69) dX10_chooses_68 rfl ?_
      refine g_iald (a := (b + 66)) (n := 70) dX10_chooses_69 rfl (by decide) (z_lvP (by first | decide | assumption)) (nI_add _ _) (by show _ < 1740; first | assumption | omega) ?_
      rw [hm]
      refine g_icmp_ge (n := 73) (t := 133) dX10_chooses_70 rfl (by decide) (fun q9 => absurd q9 (nI_ge hk (by omega))) (fun _ => ?_)
      refine g_aload_n (n := 74) dX10_chooses_73 rfl rfl ?_
      refine g_iload_n (n := 75) dX10_chooses_74 rfl rfl ?_
      refine g_iload_n (n := 76) dX10_chooses_75 rfl rfl ?_
      refine g_iload_n (n := 77) dX10_chooses_76 rfl rfl ?_
      refine g_iload (n := 79) dX10_chooses_77 rfl rfl ?_
      refine g_cVv (n := 82) (cg k hk) dX10_chooses_79 rfl kw_X10_69 rfl (by decide) (z_lvP (by first | decide | assumption)) (Nat.le_of_ble_eq_true rfl) ⟨Nat.le_refl _, Nat.le_refl _⟩ ?_ rfl
      refine g_iconst (n := 83) dX10_chooses_82 rfl k_ic_3 ?_
      refine g_icmp_ne (n := 86) (t := 90) dX10_chooses_83 rfl (by decide) (fun c83 => ?_) (fun c83 => ?_)
      · have pf : p k = false := by rw [pk]; exact decide_eq_false (fun q => c83 q)
        refine g_iconst (n := 91) dX10_chooses_90 rfl k_ic_0 ?_
        refine g_istore8 (n := 93) dX10_chooses_91 rfl (by decide) rfl ?_
        refine g_iload (n := 95) dX10_chooses_93 rfl rfl ?_
        refine g_if_eq (n := 98) (t := 108) dX10_chooses_95 rfl (by decide) (fun _ => ?_) (fun q9 => absurd rfl q9)
        refine g_iload (n := 110) dX10_chooses_108 rfl rfl ?_
        exact tail f (by rw [pf, if_neg (fun q => by cases q.1)]) false pf.symm
      · have pt : p k = true := by rw [pk]; exact decide_eq_true (show vGr (M 35 0) (rV M b) s t h k = nI 3 from c83)
        refine g_iconst (n := 87) dX10_chooses_86 rfl k_ic_1 ?_
        refine g_goto (n := 0) (t := 91) dX10_chooses_87 (by decide) ?_
        refine g_istore8 (n := 93) dX10_chooses_91 rfl (by decide) rfl ?_
        refine g_iload (n := 95) dX10_chooses_93 rfl rfl ?_
        refine g_if_eq (n := 98) (t := 108) dX10_chooses_95 rfl (by decide) (fun q9 => absurd q9 (by decide)) (fun _ => ?_)
        refine g_iload (n := 100) dX10_chooses_98 rfl rfl ?_
        refine g_if_ne (n := 103) (t := 108) dX10_chooses_100 rfl (by decide) (fun c100 => ?_) (fun c100 => ?_)
        · refine g_iload (n := 110) dX10_chooses_108 rfl rfl ?_
          exact tail f (by rw [if_neg (fun q => c100 q.2)]) true pt.symm
        · refine g_iload (n := 105) dX10_chooses_103 rfl rfl ?_
          refine g_goto (n := 0) (t := 110) dX10_chooses_105 (by decide) ?_
          exact tail (nI k) (by rw [if_pos ⟨pt, c100⟩]) true pt.symm
  refine g_aload_n (n := 1) dX10_chooses_0 rfl rfl ?_
  refine g_iload_n (n := 2) dX10_chooses_1 rfl rfl ?_
  refine g_iload_n (n := 3) dX10_chooses_2 rfl rfl ?_
  refine g_iload_n (n := 4) dX10_chooses_3 rfl rfl ?_
  refine g_iconst (n := 5) dX10_chooses_4 rfl k_ic_3 ?_
  refine g_cVv (n := 8) cd dX10_chooses_5 rfl kw_X10_73 rfl (by decide) (z_lvP (by first | decide | assumption)) (Nat.le_of_ble_eq_true rfl) ⟨Nat.le_refl _, Nat.le_refl _⟩ ?_ rfl
  refine g_istore4 (n := 10) dX10_chooses_8 rfl (by decide) rfl ?_
  refine g_iload (n := 12) dX10_chooses_10 rfl rfl ?_
  refine g_if_ne (n := 15) (t := 17) dX10_chooses_12 rfl (by decide) (fun c12 => ?_) (fun c12 => ?_)
  · rw [if_neg c12]
    refine g_aload_n (n := 18) dX10_chooses_17 rfl rfl ?_
    refine gf_X10_7 (n := 21) dX10_chooses_18 rfl rfl (z_lvP (by first | decide | assumption)) rfl ?_
    refine g_iload_n (n := 22) dX10_chooses_21 rfl rfl ?_
    refine g_iconst (n := 23) dX10_chooses_22 rfl k_ic_1 ?_
    refine g_iadd (n := 24) dX10_chooses_23 rfl ?_
    refine g_iald (a := (b + 1)) (n := 25) dX10_chooses_24 rfl (by decide) (z_lvP (by first | decide | assumption)) (nI_add _ _) (by show _ < 1740; first | assumption | omega) ?_
    refine g_if_ne (n := 28) (t := 32) dX10_chooses_25 rfl (by decide) (fun c25 => ?_) (fun c25 => ?_)
    · refine g_aload_n (n := 33) dX10_chooses_32 rfl rfl ?_
      refine gf_X10_7 (n := 36) dX10_chooses_33 rfl rfl (z_lvP (by first | decide | assumption)) rfl ?_
      refine g_iload_n (n := 37) dX10_chooses_36 rfl rfl ?_
      refine g_sipush (n := 40) dX10_chooses_37 rfl k_sp_139 ?_
      refine g_iadd (n := 41) dX10_chooses_40 rfl ?_
      refine g_iconst (n := 42) dX10_chooses_41 rfl k_ic_4 ?_
      refine g_iload_n (n := 43) dX10_chooses_42 rfl rfl ?_
      refine g_imul (n := 44) dX10_chooses_43 rfl ?_
      refine g_iadd (n := 45) dX10_chooses_44 rfl ?_
      refine g_iload_n (n := 46) dX10_chooses_45 rfl rfl ?_
      refine g_iadd (n := 47) dX10_chooses_46 rfl ?_
      refine g_iald (a := (b + (139 + (4 * t + h)))) (n := 48) dX10_chooses_47 rfl (by decide) (z_lvP (by first | decide | assumption)) (by rw [pk_mul, nI_add, nI_add, nI_add]; congr 1; omega) (by show _ < 1740; first | assumption | omega) ?_
      refine g_iload (n := 50) dX10_chooses_48 rfl rfl ?_
      refine g_irem (n := 51) dX10_chooses_50 rfl c12 ?_
      exact main _ (by unfold vRk; rw [if_neg (show ¬ rV M b 1 = 0 from c25)])
    · refine g_iconst (n := 29) dX10_chooses_28 rfl k_ic_0 ?_
      refine g_goto (n := 0) (t := 51) dX10_chooses_29 (by decide) ?_
      exact main _ (by unfold vRk; rw [if_pos (show rV M b 1 = 0 from c25)])
  · rw [if_pos c12]
    refine g_iconst (n := 16) dX10_chooses_15 rfl k_ic_m1 ?_
    exact g_ireturn dX10_chooses_16 rfl rfl rfl rfl
end L12

