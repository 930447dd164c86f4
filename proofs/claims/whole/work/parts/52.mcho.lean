/-! The reference: grades and the choice. -/
theorem g_istore9 {w : zWp} {f : zMth} {d cr pc n : Nat} {t stk : List zAV} {σ : zSt} {r : zRes} {σ' : zSt} {y0 y1 y2 y3 y4 y5 y6 y7 y8 y9 : zAV} {x : Int32} (hd : decode f.2.1 pc = .ok (.istore 9, 2)) (hn : pc + 2 = n) (hk : 9 < f.2.2.1) (hc : z_c2 y8 = false) (kk : zG w f d cr n (y0 :: y1 :: y2 :: y3 :: y4 :: y5 :: y6 :: y7 :: y8 :: (vI x) :: t) stk σ r σ') : zG w f d cr pc (y0 :: y1 :: y2 :: y3 :: y4 :: y5 :: y6 :: y7 :: y8 :: y9 :: t) ((vI x) :: stk) σ r σ' :=
  g_istore hd hn hk (fun u _ h => by cases h; exact hc) rfl kk
section L11
variable {w : zWp} {d b s t h e : Nat} {M : Nat → Nat → Nat → Int32} {O : Nat → Int64}
theorem r_grade (W : WFV (rV M b)) (hs : rV M b 66 = nI s) (h8 : s ≤ 8) (hb : b ≤ 1566) (he : e < s) (ht : t < 8) (hh : h < 4) : zC w mX10_grade (d + 3) [vR 10 0, vI (nI b), vI (nI t), vI (nI h), vI (nI e)] (zP M O) (zrI (vGr (M 35 0) (rV M b) s t h e)) (zP M O) := by
  obtain ⟨V, hV⟩ : ∃ V, V = rV M b := ⟨_, rfl⟩
  obtain ⟨D, hD⟩ : ∃ D, D = M 35 0 := ⟨_, rfl⟩
  have hm : M 32 0 (b + 66) = nI s := hs
  have cc : ∀ k, k < s → zC w mX10_canTake (d + 2) [vR 10 0, vI (nI b), vI (nI t), vI (nI h), vI (nI k)] (zP M O) (zrI (zb (vCan D V t h k))) (zP M O) := fun k hk => by
    rw [hV, hD]
    exact r_canTake W hs h8 hb hk ht hh
  have cm : ∀ k, k < s → ∀ q, zC w mX10_mark (d + 2) [vR 10 0, vI (nI b), vI (nI t), vI (nI h), vI (nI k), vI (nI q)] (zP M O) (zrI (vMk D V t h k q)) (zP M O) := fun k hk q => by
    rw [hV, hD]
    exact r_mark W hs h8 hb hk ht hh q
  rw [← hV, ← hD]
  unfold vGr
  have c0 := cc e he
  cases hc : vCan D V t h e
  · rw [hc] at c0
    refine zC_of (cr := 0) (L0 := [vR 10 0, vI (nI b), vI (nI t), vI (nI h), vI (nI e), vU, vU, vU, vU, vU]) rfl (by decide) (by decide) rfl (Nat.le_of_ble_eq_true rfl) rfl ?_
    refine g_aload_n (n := 1) dX10_grade_0 rfl rfl ?_
    refine g_iload_n (n := 2) dX10_grade_1 rfl rfl ?_
    refine g_iload_n (n := 3) dX10_grade_2 rfl rfl ?_
    refine g_iload_n (n := 4) dX10_grade_3 rfl rfl ?_
    refine g_iload (n := 6) dX10_grade_4 rfl rfl ?_
    refine g_cVv (n := 9) c0 dX10_grade_6 rfl kw_X10_61 rfl (by decide) (z_lvP (by first | decide | assumption)) (Nat.le_of_ble_eq_true rfl) ⟨Nat.le_refl _, Nat.le_refl _⟩ ?_ rfl
    refine g_if_ne (n := 12) (t := 14) dX10_grade_9 rfl (by decide) (fun q9 => absurd rfl q9) (fun _ => ?_)
    refine g_iconst (n := 13) dX10_grade_12 rfl k_ic_0 ?_
    exact g_ireturn dX10_grade_13 rfl rfl rfl rfl
  · rw [hc] at c0
    rw [if_pos rfl]
    refine zC_of (cr := 0) (L0 := [vR 10 0, vI (nI b), vI (nI t), vI (nI h), vI (nI e), vU, vU, vU, vU, vU]) rfl (by decide) (by decide) rfl (Nat.le_of_ble_eq_true rfl) rfl ?_
    refine g_aload_n (n := 1) dX10_grade_0 rfl rfl ?_
    refine g_iload_n (n := 2) dX10_grade_1 rfl rfl ?_
    refine g_iload_n (n := 3) dX10_grade_2 rfl rfl ?_
    refine g_iload_n (n := 4) dX10_grade_3 rfl rfl ?_
    refine g_iload (n := 6) dX10_grade_4 rfl rfl ?_
    refine g_cVv (n := 9) c0 dX10_grade_6 rfl kw_X10_61 rfl (by decide) (z_lvP (by first | decide | assumption)) (Nat.le_of_ble_eq_true rfl) ⟨Nat.le_refl _, Nat.le_refl _⟩ ?_ rfl
    refine g_if_ne (n := 12) (t := 14) dX10_grade_9 rfl (by decide) (fun _ => ?_) (fun q9 => absurd q9 (by decide))
    refine g_iconst (n := 15) dX10_grade_14 rfl k_ic_3 ?_
    refine g_istore5 (n := 17) dX10_grade_15 rfl (by decide) rfl ?_
    refine g_iconst (n := 18) dX10_grade_17 rfl k_ic_0 ?_
    refine g_istore6 (n := 20) dX10_grade_18 rfl (by decide) rfl ?_
    refine z_loop (fun k => zG w mX10_grade (d + 3) 0 20 [vR 10 0, vI (nI b), vI (nI t), vI (nI h), vI (nI e), vI (vGf D V t h e k), vI (nI k), vU, vU, vU] [] (zP M O) (zrI (vGf D V t h e s)) (zP M O)) s ?_ ?_ 0 (Nat.zero_le _)
    · refine g_iload (n := 22) dX10_grade_20 rfl rfl ?_
      refine g_aload_n (n := 23) dX10_grade_22 rfl rfl ?_
      refine gf_X10_7 (n := 26) dX10_grade_23 rfl rfl (z_lvP (by first | decide | assumption)) rfl ?_
      refine g_iload_n (n := 27) dX10_grade_26 rfl rfl ?_
      refine g_bipush (n := 29) dX10_grade_27 rfl k_bp_66 ?_
      refine g_iadd (n := 30) dX10_grade_29 rfl ?_
      refine g_iald (a := (b + 66)) (n := 31) dX10_grade_30 rfl (by decide) (z_lvP (by first | decide | assumption)) (nI_add _ _) (by show _ < 1740; first | assumption | omega) ?_
      rw [hm]
      refine g_icmp_ge (n := 34) (t := 140) dX10_grade_31 rfl (by decide) (fun _ => ?_) (fun q9 => absurd (Int32.le_refl _) q9)
      refine g_iload (n := 142) dX10_grade_140 rfl rfl ?_
      exact g_ireturn dX10_grade_142 rfl rfl rfl rfl
    · intro k hk ih
      obtain ⟨g, hg⟩ : ∃ g, g = vGf D V t h e k := ⟨_, rfl⟩
      have e0 : vGf D V t h e (k + 1) = if vCan D V t h k then (if vOwn D V t h e k < g then vOwn D V t h e k else g) else g := by
        rw [hg]; rfl
      rw [e0] at ih
      rw [← hg]
      have c1 := cc k hk
      refine g_iload (n := 22) dX10_grade_20 rfl rfl ?_
      refine g_aload_n (n := 23) dX10_grade_22 rfl rfl ?_
      refine gf_X10_7 (n := 26) dX10_grade_23 rfl rfl (z_lvP (by first | decide | assumption)) rfl ?_
      refine g_iload_n (n := 27) dX10_grade_26 rfl rfl ?_
      refine g_bipush (n := 29) dX10_grade_27 rfl k_bp_66 ?_
      refine g_iadd (n := 30) dX10_grade_29 rfl ?_
      refine g_iald (a := (b + 66)) (n := 31) dX10_grade_30 rfl (by decide) (z_lvP (by first | decide | assumption)) (nI_add _ _) (by show _ < 1740; first | assumption | omega) ?_
      rw [hm]
      cases hck : vCan D V t h k
      · rw [hck] at c1 ih
        refine g_icmp_ge (n := 34) (t := 140) dX10_grade_31 rfl (by decide) (fun q9 => absurd q9 (nI_ge hk (by omega))) (fun _ => ?_)
        refine g_aload_n (n := 35) dX10_grade_34 rfl rfl ?_
        refine g_iload_n (n := 36) dX10_grade_35 rfl rfl ?_
        refine g_iload_n (n := 37) dX10_grade_36 rfl rfl ?_
        refine g_iload_n (n := 38) dX10_grade_37 rfl rfl ?_
        refine g_iload (n := 40) dX10_grade_38 rfl rfl ?_
        refine g_cVv (n := 43) c1 dX10_grade_40 rfl kw_X10_61 rfl (by decide) (z_lvP (by first | decide | assumption)) (Nat.le_of_ble_eq_true rfl) ⟨Nat.le_refl _, Nat.le_refl _⟩ ?_ rfl
        refine g_if_eq (n := 46) (t := 134) dX10_grade_43 rfl (by decide) (fun _ => ?_) (fun q9 => absurd rfl q9)
        refine g_iinc6 (n := 137) dX10_grade_134 rfl (by decide) rfl (z_inc1 _) ?_
        refine g_goto (n := 0) (t := 20) dX10_grade_137 (by decide) ?_
        exact ih
      · rw [hck, if_pos rfl] at ih
        rw [hck] at c1
        have tail : ∀ o, o = vOwn D V t h e k → ∀ x y : Int32, zG w mX10_grade (d + 3) 0 116 [vR 10 0, vI (nI b), vI (nI t), vI (nI h), vI (nI e), vI g, vI (nI k), vI x, vI y, vU] [vI o] (zP M O) (zrI (vGf D V t h e s)) (zP M O) := by
          intro o ho x y
          rw [← ho] at ih
          refine g_istore9 (n := 118) dX10_grade_116 rfl (by decide) rfl ?_
          refine g_iload (n := 120) dX10_grade_118 rfl rfl ?_
          refine g_iload (n := 122) dX10_grade_120 rfl rfl ?_
          refine g_icmp_ge (n := 125) (t := 130) dX10_grade_122 rfl (by decide) (fun c122 => ?_) (fun c122 => ?_)
          · rw [if_neg (Int32.not_lt.mpr c122)] at ih
            refine g_iload (n := 132) dX10_grade_130 rfl rfl ?_
            refine g_istore5 (n := 134) dX10_grade_132 rfl (by decide) rfl ?_
            refine g_iinc6 (n := 137) dX10_grade_134 rfl (by decide) rfl (z_inc1 _) ?_
            refine g_goto (n := 0) (t := 20) dX10_grade_137 (by decide) ?_
            refine g_drop 7 (g_drop 8 (g_drop 9 ?_))
            exact ih
          · rw [if_pos (Int32.not_le.mp c122)] at ih
            refine g_iload (n := 127) dX10_grade_125 rfl rfl ?_
            refine g_goto (n := 0) (t := 132) dX10_grade_127 (by decide) ?_
            refine g_istore5 (n := 134) dX10_grade_132 rfl (by decide) rfl ?_
            refine g_iinc6 (n := 137) dX10_grade_134 rfl (by decide) rfl (z_inc1 _) ?_
            refine g_goto (n := 0) (t := 20) dX10_grade_137 (by decide) ?_
            refine g_drop 7 (g_drop 8 (g_drop 9 ?_))
            exact ih
        have m1 := cm k hk 0
        have m2 := cm e he 0
        have m3 := cm k hk 1
        have m4 := cm e he 1
        unfold vOwn at tail
        refine g_icmp_ge (n := 34) (t := 140) dX10_grade_31 rfl (by decide) (fun q9 => absurd q9 (nI_ge hk (by omega))) (fun _ => ?_)
        refine g_aload_n (n := 35) dX10_grade_34 rfl rfl ?_
        refine g_iload_n (n := 36) dX10_grade_35 rfl rfl ?_
        refine g_iload_n (n := 37) dX10_grade_36 rfl rfl ?_
        refine g_iload_n (n := 38) dX10_grade_37 rfl rfl ?_
        refine g_iload (n := 40) dX10_grade_38 rfl rfl ?_
        refine g_cVv (n := 43) c1 dX10_grade_40 rfl kw_X10_61 rfl (by decide) (z_lvP (by first | decide | assumption)) (Nat.le_of_ble_eq_true rfl) ⟨Nat.le_refl _, Nat.le_refl _⟩ ?_ rfl
        refine g_if_eq (n := 46) (t := 134) dX10_grade_43 rfl (by decide) (fun q9 => absurd q9 (by decide)) (fun _ => ?_)
        refine g_aload_n (n := 47) dX10_grade_46 rfl rfl ?_
        refine g_iload_n (n := 48) dX10_grade_47 rfl rfl ?_
        refine g_iload_n (n := 49) dX10_grade_48 rfl rfl ?_
        refine g_iload_n (n := 50) dX10_grade_49 rfl rfl ?_
        refine g_iload (n := 52) dX10_grade_50 rfl rfl ?_
        refine g_iconst (n := 53) dX10_grade_52 rfl k_ic_0 ?_
        refine g_cVv (n := 56) m1 dX10_grade_53 rfl kw_X10_65 rfl (by decide) (z_lvP (by first | decide | assumption)) (Nat.le_of_ble_eq_true rfl) ⟨Nat.le_refl _, Nat.le_refl _⟩ ?_ rfl
        refine g_aload_n (n := 57) dX10_grade_56 rfl rfl ?_
        refine g_iload_n (n := 58) dX10_grade_57 rfl rfl ?_
        refine g_iload_n (n := 59) dX10_grade_58 rfl rfl ?_
        refine g_iload_n (n := 60) dX10_grade_59 rfl rfl ?_
        refine g_iload (n := 62) dX10_grade_60 rfl rfl ?_
        refine g_iconst (n := 63) dX10_grade_62 rfl k_ic_0 ?_
        refine g_cVv (n := 66) m2 dX10_grade_63 rfl kw_X10_65 rfl (by decide) (z_lvP (by first | decide | assumption)) (Nat.le_of_ble_eq_true rfl) ⟨Nat.le_refl _, Nat.le_refl _⟩ ?_ rfl
        refine g_isub (n := 67) dX10_grade_66 rfl ?_
        refine g_istore7 (n := 69) dX10_grade_67 rfl (by decide) rfl ?_
        refine g_aload_n (n := 70) dX10_grade_69 rfl rfl ?_
        refine g_iload_n (n := 71) dX10_grade_70 rfl rfl ?_
        refine g_iload_n (n := 72) dX10_grade_71 rfl rfl ?_
        refine g_iload_n (n := 73) dX10_grade_72 rfl rfl ?_
        refine g_iload (n := 75) dX10_grade_73 rfl rfl ?_
        refine g_iconst (n := 76) dX10_grade_75 rfl k_ic_1 ?_
        refine g_cVv (n := 79) m3 dX10_grade_76 rfl kw_X10_65 rfl (by decide) (z_lvP (by first | decide | assumption)) (Nat.le_of_ble_eq_true rfl) ⟨Nat.le_refl _, Nat.le_refl _⟩ ?_ rfl
        refine g_aload_n (n := 80) dX10_grade_79 rfl rfl ?_
        refine g_iload_n (n := 81) dX10_grade_80 rfl rfl ?_
        refine g_iload_n (n := 82) dX10_grade_81 rfl rfl ?_
        refine g_iload_n (n := 83) dX10_grade_82 rfl rfl ?_
        refine g_iload (n := 85) dX10_grade_83 rfl rfl ?_
        refine g_iconst (n := 86) dX10_grade_85 rfl k_ic_1 ?_
        refine g_cVv (n := 89) m4 dX10_grade_86 rfl kw_X10_65 rfl (by decide) (z_lvP (by first | decide | assumption)) (Nat.le_of_ble_eq_true rfl) ⟨Nat.le_refl _, Nat.le_refl _⟩ ?_ rfl
        refine g_isub (n := 90) dX10_grade_89 rfl ?_
        refine g_istore8 (n := 92) dX10_grade_90 rfl (by decide) rfl ?_
        refine g_iload (n := 94) dX10_grade_92 rfl rfl ?_
        refine g_if_ge (n := 97) (t := 101) dX10_grade_94 rfl (by decide) (fun c94 => ?_) (fun c94 => ?_)
        · refine g_iload (n := 103) dX10_grade_101 rfl rfl ?_
          refine g_if_ne (n := 106) (t := 115) dX10_grade_103 rfl (by decide) (fun c103 => ?_) (fun c103 => ?_)
          · refine g_iconst (n := 116) dX10_grade_115 rfl k_ic_3 ?_
            exact tail _ (by rw [if_neg (Int32.not_lt.mpr c94), if_neg (fun q => c103 q.1)]) _ _
          · refine g_iload (n := 108) dX10_grade_106 rfl rfl ?_
            refine g_if_ge (n := 111) (t := 115) dX10_grade_108 rfl (by decide) (fun c108 => ?_) (fun c108 => ?_)
            · refine g_iconst (n := 116) dX10_grade_115 rfl k_ic_3 ?_
              exact tail _ (by rw [if_neg (Int32.not_lt.mpr c94), if_neg (fun q => absurd q.2 (Int32.not_lt.mpr c108))]) _ _
            · refine g_iconst (n := 112) dX10_grade_111 rfl k_ic_2 ?_
              refine g_goto (n := 0) (t := 116) dX10_grade_112 (by decide) ?_
              exact tail _ (by rw [if_neg (Int32.not_lt.mpr c94), if_pos ⟨c103, Int32.not_le.mp c108⟩]) _ _
        · refine g_iconst (n := 98) dX10_grade_97 rfl k_ic_1 ?_
          refine g_goto (n := 0) (t := 116) dX10_grade_98 (by decide) ?_
          exact tail _ (by rw [if_pos (Int32.not_le.mp c94)]) _ _
end L11

