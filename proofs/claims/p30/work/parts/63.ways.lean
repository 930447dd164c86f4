/-! The law's 'ways': distances keep to the roads, in both directions, told in two ways. -/
section WY
variable {w : zWp} {d t : Nat} {M : Nat → Nat → Nat → Int32} {O : Nat → Int64} {s h a : Nat} {V : Nat → Int32}
theorem nle {a b : Nat} (h : a < b) (hb : b < 2 ^ 31) : ¬ nI b ≤ nI a := Int32.not_le.mpr (nI_lt h hb)
theorem ways_in {N N2 : Nat → Nat → Nat → Int32} {m : Nat} {dd : Int32} (Z : zS t N s h V) (ha : a < 8) (hm : m < 8) (K : zG w mL_ways (d + 11) 0 117 [vR 9 0, vI (nI a), vI (nI 1), vI (nI m), vI dd, vI (nI (nL V a m 8)), vU, vU, vU] [] (zP N O) (zrI (nI 1)) (zP N2 O)) :
    zG w mL_ways (d + 11) 0 53 [vR 9 0, vI (nI a), vI (nI 1), vI (nI m), vI dd, vI (nI (nL V a m 0)), vI (nI 0), vU, vU] [] (zP N O) (zrI (nI 1)) (zP N2 O) := by
  have W := Z.W
  refine z_loop (fun j => zG w mL_ways (d + 11) 0 53 [vR 9 0, vI (nI a), vI (nI 1), vI (nI m), vI dd, vI (nI (nL V a m j)), vI (nI j), vU, vU] [] (zP N O) (zrI (nI 1)) (zP N2 O)) 8 ?_ (fun j hj ih => ?_) 0 (by decide)
  · refine g_iload (n := 55) dL_ways_53 rfl rfl ?_
    refine g_bipush (n := 57) dL_ways_55 rfl k_bp_8 ?_
    refine g_icmp_ge (n := 60) (t := 117) dL_ways_57 rfl (by decide) (fun _ => ?_) (fun q9 => absurd (nI_le (by omega) (by omega)) q9)
    refine g_drop 6 ?_
    exact K
  · have cr := q_roadOf (w := w) (d := d) (O := O) Z hj hm
    rw [(vc_n W (show 8 * j + m < 64 by omega)).2] at cr
    have cd := q_dist1 (w := w) (d := d) (O := O) Z ha hj
    rw [kFar_is W ha hj] at cd
    have lc := (vc_n W (show 8 * j + m < 64 by omega)).1
    have ld := (vdn_n W (show 8 * a + j < 64 by omega)).1
    have ll := (nL_le (V := V) (a := a) (b := m) j).1
    have K109 : ∀ {u7 u8 x : Int32}, x = nI (nL V a m (j + 1)) → zG w mL_ways (d + 11) 0 109 [vR 9 0, vI (nI a), vI (nI 1), vI (nI m), vI dd, vI (nI (nL V a m j)), vI (nI j), vI u7, vI u8] [vI x] (zP N O) (zrI (nI 1)) (zP N2 O) := fun {u7 u8 x} hx => by
      subst hx
      refine g_istore5 (n := 111) dL_ways_109 rfl (by decide) rfl ?_
      refine g_iinc6 (n := 114) dL_ways_111 rfl (by decide) rfl (z_inc1 _) ?_
      refine g_goto (n := 0) (t := 53) dL_ways_114 (by decide) ?_
      refine g_drop 7 (g_drop 8 ?_)
      exact ih
    have no : ¬ (0 < vc V (8 * j + m) ∧ vdn V (8 * a + j) < 1000000 ∧ vdn V (8 * a + j) + vc V (8 * j + m) < nL V a m j) → nI (nL V a m j) = nI (nL V a m (j + 1)) := fun q => congrArg nI (show nL V a m j = if _ then _ else _ by rw [if_neg q])
    by_cases c1 : 0 < vc V (8 * j + m)
    · by_cases c2 : vdn V (8 * a + j) < 1000000
      · rw [if_pos c2] at cd
        by_cases c3 : vdn V (8 * a + j) + vc V (8 * j + m) < nL V a m j
        · refine g_iload (n := 55) dL_ways_53 rfl rfl ?_
          refine g_bipush (n := 57) dL_ways_55 rfl k_bp_8 ?_
          refine g_icmp_ge (n := 60) (t := 117) dL_ways_57 rfl (by decide) (fun q9 => absurd q9 (nle hj (by decide))) (fun _ => ?_)
          refine g_aload_n (n := 61) dL_ways_60 rfl rfl ?_
          refine g_iload (n := 63) dL_ways_61 rfl rfl ?_
          refine g_iload_n (n := 64) dL_ways_63 rfl rfl ?_
          refine g_cKHv (c9 := 0) (n := 67) cr dL_ways_64 rfl kz_L_115 rfl (Or.inl (Nat.le_of_ble_eq_true rfl)) (Nat.le_of_ble_eq_true rfl) rfl rfl ?_ rfl
          refine g_istore7 (n := 69) dL_ways_67 rfl (by decide) rfl ?_
          refine g_aload_n (n := 70) dL_ways_69 rfl rfl ?_
          refine g_iload_n (n := 71) dL_ways_70 rfl rfl ?_
          refine g_iload (n := 73) dL_ways_71 rfl rfl ?_
          refine g_iconst (n := 74) dL_ways_73 rfl k_ic_1 ?_
          refine g_cKHv (c9 := 0) (n := 77) cd dL_ways_74 rfl kz_L_112 rfl (Or.inl (Nat.le_of_ble_eq_true rfl)) (Nat.le_of_ble_eq_true rfl) rfl rfl ?_ rfl
          refine g_istore8 (n := 79) dL_ways_77 rfl (by decide) rfl ?_
          refine g_iload (n := 81) dL_ways_79 rfl rfl ?_
          refine g_if_le (n := 84) (t := 107) dL_ways_81 rfl (by decide) (fun q9 => absurd q9 (nle (show 0 < vc V (8 * j + m) from c1) (by omega))) (fun _ => ?_)
          refine g_iload (n := 86) dL_ways_84 rfl rfl ?_
          refine g_if_lt (n := 89) (t := 107) dL_ways_86 rfl (by decide) (fun q9 => absurd q9 (nI_pos (show vdn V (8 * a + j) < 2 ^ 31 by omega))) (fun _ => ?_)
          refine g_iload (n := 91) dL_ways_89 rfl rfl ?_
          refine g_iload (n := 93) dL_ways_91 rfl rfl ?_
          refine g_iaddN (n := 94) dL_ways_93 rfl ?_
          refine g_iload (n := 96) dL_ways_94 rfl rfl ?_
          refine g_icmp_ge (n := 99) (t := 107) dL_ways_96 rfl (by decide) (fun q9 => absurd q9 (nle c3 (by omega))) (fun _ => ?_)
          refine g_iload (n := 101) dL_ways_99 rfl rfl ?_
          refine g_iload (n := 103) dL_ways_101 rfl rfl ?_
          refine g_iaddN (n := 104) dL_ways_103 rfl ?_
          refine g_goto (n := 0) (t := 109) dL_ways_104 (by decide) ?_
          have e9 : nI (vdn V (8 * a + j) + vc V (8 * j + m)) = nI (nL V a m (j + 1)) := congrArg nI (Eq.symm (show nL V a m (j + 1) = vdn V (8 * a + j) + vc V (8 * j + m) from if_pos ⟨c1, c2, c3⟩))
          exact K109 e9
        · refine g_iload (n := 55) dL_ways_53 rfl rfl ?_
          refine g_bipush (n := 57) dL_ways_55 rfl k_bp_8 ?_
          refine g_icmp_ge (n := 60) (t := 117) dL_ways_57 rfl (by decide) (fun q9 => absurd q9 (nle hj (by decide))) (fun _ => ?_)
          refine g_aload_n (n := 61) dL_ways_60 rfl rfl ?_
          refine g_iload (n := 63) dL_ways_61 rfl rfl ?_
          refine g_iload_n (n := 64) dL_ways_63 rfl rfl ?_
          refine g_cKHv (c9 := 0) (n := 67) cr dL_ways_64 rfl kz_L_115 rfl (Or.inl (Nat.le_of_ble_eq_true rfl)) (Nat.le_of_ble_eq_true rfl) rfl rfl ?_ rfl
          refine g_istore7 (n := 69) dL_ways_67 rfl (by decide) rfl ?_
          refine g_aload_n (n := 70) dL_ways_69 rfl rfl ?_
          refine g_iload_n (n := 71) dL_ways_70 rfl rfl ?_
          refine g_iload (n := 73) dL_ways_71 rfl rfl ?_
          refine g_iconst (n := 74) dL_ways_73 rfl k_ic_1 ?_
          refine g_cKHv (c9 := 0) (n := 77) cd dL_ways_74 rfl kz_L_112 rfl (Or.inl (Nat.le_of_ble_eq_true rfl)) (Nat.le_of_ble_eq_true rfl) rfl rfl ?_ rfl
          refine g_istore8 (n := 79) dL_ways_77 rfl (by decide) rfl ?_
          refine g_iload (n := 81) dL_ways_79 rfl rfl ?_
          refine g_if_le (n := 84) (t := 107) dL_ways_81 rfl (by decide) (fun q9 => absurd q9 (nle (show 0 < vc V (8 * j + m) from c1) (by omega))) (fun _ => ?_)
          refine g_iload (n := 86) dL_ways_84 rfl rfl ?_
          refine g_if_lt (n := 89) (t := 107) dL_ways_86 rfl (by decide) (fun q9 => absurd q9 (nI_pos (show vdn V (8 * a + j) < 2 ^ 31 by omega))) (fun _ => ?_)
          refine g_iload (n := 91) dL_ways_89 rfl rfl ?_
          refine g_iload (n := 93) dL_ways_91 rfl rfl ?_
          refine g_iaddN (n := 94) dL_ways_93 rfl ?_
          refine g_iload (n := 96) dL_ways_94 rfl rfl ?_
          refine g_icmp_ge (n := 99) (t := 107) dL_ways_96 rfl (by decide) (fun _ => ?_) (fun q9 => absurd (nI_le (show nL V a m j ≤ vdn V (8 * a + j) + vc V (8 * j + m) by omega) (by omega)) q9)
          refine g_iload (n := 109) dL_ways_107 rfl rfl ?_
          exact K109 (no (fun q => c3 q.2.2))
      · rw [if_neg c2] at cd
        refine g_iload (n := 55) dL_ways_53 rfl rfl ?_
        refine g_bipush (n := 57) dL_ways_55 rfl k_bp_8 ?_
        refine g_icmp_ge (n := 60) (t := 117) dL_ways_57 rfl (by decide) (fun q9 => absurd q9 (nle hj (by decide))) (fun _ => ?_)
        refine g_aload_n (n := 61) dL_ways_60 rfl rfl ?_
        refine g_iload (n := 63) dL_ways_61 rfl rfl ?_
        refine g_iload_n (n := 64) dL_ways_63 rfl rfl ?_
        refine g_cKHv (c9 := 0) (n := 67) cr dL_ways_64 rfl kz_L_115 rfl (Or.inl (Nat.le_of_ble_eq_true rfl)) (Nat.le_of_ble_eq_true rfl) rfl rfl ?_ rfl
        refine g_istore7 (n := 69) dL_ways_67 rfl (by decide) rfl ?_
        refine g_aload_n (n := 70) dL_ways_69 rfl rfl ?_
        refine g_iload_n (n := 71) dL_ways_70 rfl rfl ?_
        refine g_iload (n := 73) dL_ways_71 rfl rfl ?_
        refine g_iconst (n := 74) dL_ways_73 rfl k_ic_1 ?_
        refine g_cKHv (c9 := 0) (n := 77) cd dL_ways_74 rfl kz_L_112 rfl (Or.inl (Nat.le_of_ble_eq_true rfl)) (Nat.le_of_ble_eq_true rfl) rfl rfl ?_ rfl
        refine g_istore8 (n := 79) dL_ways_77 rfl (by decide) rfl ?_
        refine g_iload (n := 81) dL_ways_79 rfl rfl ?_
        refine g_if_le (n := 84) (t := 107) dL_ways_81 rfl (by decide) (fun q9 => absurd q9 (nle (show 0 < vc V (8 * j + m) from c1) (by omega))) (fun _ => ?_)
        refine g_iload (n := 86) dL_ways_84 rfl rfl ?_
        refine g_if_lt (n := 89) (t := 107) dL_ways_86 rfl (by decide) (fun _ => ?_) (fun q9 => absurd (show (-1 : Int32) < 0 by decide) q9)
        refine g_iload (n := 109) dL_ways_107 rfl rfl ?_
        exact K109 (no (fun q => c2 q.2.1))
    · refine g_iload (n := 55) dL_ways_53 rfl rfl ?_
      refine g_bipush (n := 57) dL_ways_55 rfl k_bp_8 ?_
      refine g_icmp_ge (n := 60) (t := 117) dL_ways_57 rfl (by decide) (fun q9 => absurd q9 (nle hj (by decide))) (fun _ => ?_)
      refine g_aload_n (n := 61) dL_ways_60 rfl rfl ?_
      refine g_iload (n := 63) dL_ways_61 rfl rfl ?_
      refine g_iload_n (n := 64) dL_ways_63 rfl rfl ?_
      refine g_cKHv (c9 := 0) (n := 67) cr dL_ways_64 rfl kz_L_115 rfl (Or.inl (Nat.le_of_ble_eq_true rfl)) (Nat.le_of_ble_eq_true rfl) rfl rfl ?_ rfl
      refine g_istore7 (n := 69) dL_ways_67 rfl (by decide) rfl ?_
      refine g_aload_n (n := 70) dL_ways_69 rfl rfl ?_
      refine g_iload_n (n := 71) dL_ways_70 rfl rfl ?_
      refine g_iload (n := 73) dL_ways_71 rfl rfl ?_
      refine g_iconst (n := 74) dL_ways_73 rfl k_ic_1 ?_
      refine g_cKHv (c9 := 0) (n := 77) cd dL_ways_74 rfl kz_L_112 rfl (Or.inl (Nat.le_of_ble_eq_true rfl)) (Nat.le_of_ble_eq_true rfl) rfl rfl ?_ rfl
      refine g_istore8 (n := 79) dL_ways_77 rfl (by decide) rfl ?_
      refine g_iload (n := 81) dL_ways_79 rfl rfl ?_
      refine g_if_le (n := 84) (t := 107) dL_ways_81 rfl (by decide) (fun _ => ?_) (fun q9 => absurd (nI_le (show vc V (8 * j + m) ≤ 0 by omega) (by decide)) q9)
      refine g_iload (n := 109) dL_ways_107 rfl rfl ?_
      exact K109 (no (fun q => c1 q.1))
theorem ways_out (ha : a < 8) : ∀ (k m : Nat) (N : Nat → Nat → Nat → Int32), m + k = 8 → zS t N s h V → ∃ N2, zS t N2 s h V ∧ zG w mL_ways (d + 11) 0 18 [vR 9 0, vI (nI a), vI (nI 1), vI (nI m), vU, vU, vU, vU, vU] [] (zP N O) (zrI (nI 1)) (zP N2 O)
  | 0, m, N, hk, Z => by
    obtain rfl : m = 8 := by omega
    refine ⟨N, Z, ?_⟩
    refine g_iload_n (n := 19) dL_ways_18 rfl rfl ?_
    refine g_bipush (n := 21) dL_ways_19 rfl k_bp_8 ?_
    refine g_icmp_ge (n := 24) (t := 186) dL_ways_21 rfl (by decide) (fun _ => ?_) (fun q9 => absurd (nI_le (by omega) (by omega)) q9)
    refine g_iload_n (n := 187) dL_ways_186 rfl rfl ?_
    exact g_ireturn dL_ways_187 rfl rfl rfl rfl
  | k + 1, m, N, hk, Z => by
    have hm : m < 8 := by omega
    have W := Z.W
    obtain ⟨N1, Z1, c1⟩ := q_dist0 (w := w) (d := d) (O := O) Z ha hm
    have c2 := q_dist1 (w := w) (d := d) (O := O) Z1 ha hm
    obtain ⟨N2, Z2, c3⟩ := q_dist0 (w := w) (d := d) (O := O) Z1 hm ha
    have c4 := q_roadOf (w := w) (d := d) (O := O) Z2 ha hm
    have c5 := q_roadOf (w := w) (d := d) (O := O) Z2 hm ha
    obtain ⟨N3, Z3, G⟩ := ways_out ha k (m + 1) N2 (by omega) Z2
    have ld := (vdn_n W (show 8 * a + m < 64 by omega)).1
    refine ⟨N3, Z3, ?_⟩
    have K156 : ∀ {x : Int32}, kFar V a m = x → zG w mL_ways (d + 11) 0 156 [vR 9 0, vI (nI a), vI (nI 1), vI (nI m), vI (kFar V a m), vI (nI (nL V a m 8)), vU, vU, vU] [vI x, vI (kFar V a m)] (zP N2 O) (zrI (nI 1)) (zP N3 O) := fun {x} hx => by
      refine g_icmp_ne (n := 159) (t := 178) dL_ways_156 rfl (by decide) (fun q9 => absurd hx q9) (fun _ => ?_)
      refine g_aload_n (n := 160) dL_ways_159 rfl rfl ?_
      refine g_iload_n (n := 161) dL_ways_160 rfl rfl ?_
      refine g_iload_n (n := 162) dL_ways_161 rfl rfl ?_
      refine g_cKHv (c9 := 0) (n := 165) c4 dL_ways_162 rfl kz_L_115 rfl (Or.inl (Nat.le_of_ble_eq_true rfl)) (Nat.le_of_ble_eq_true rfl) rfl rfl ?_ rfl
      refine g_aload_n (n := 166) dL_ways_165 rfl rfl ?_
      refine g_iload_n (n := 167) dL_ways_166 rfl rfl ?_
      refine g_iload_n (n := 168) dL_ways_167 rfl rfl ?_
      refine g_cKHv (c9 := 0) (n := 171) c5 dL_ways_168 rfl kz_L_115 rfl (Or.inl (Nat.le_of_ble_eq_true rfl)) (Nat.le_of_ble_eq_true rfl) rfl rfl ?_ rfl
      refine g_icmp_ne (n := 174) (t := 178) dL_ways_171 rfl (by decide) (fun q9 => absurd (W.2.2.1 a m ha hm) q9) (fun _ => ?_)
      refine g_iconst (n := 175) dL_ways_174 rfl k_ic_1 ?_
      refine g_goto (n := 0) (t := 179) dL_ways_175 (by decide) ?_
      refine g_istore2 (n := 180) dL_ways_179 rfl (by decide) rfl ?_
      refine g_iinc3 (n := 183) dL_ways_180 rfl (by decide) rfl (z_inc1 _) ?_
      refine g_goto (n := 0) (t := 18) dL_ways_183 (by decide) ?_
      refine g_drop 4 (g_drop 5 ?_)
      exact G
    have K117 : zG w mL_ways (d + 11) 0 117 [vR 9 0, vI (nI a), vI (nI 1), vI (nI m), vI (kFar V a m), vI (nI (nL V a m 8)), vU, vU, vU] [] (zP N1 O) (zrI (nI 1)) (zP N3 O) := by
      by_cases l : vdn V (8 * a + m) < 1000000
      · refine g_iload (n := 119) dL_ways_117 rfl rfl ?_
        refine g_aload_n (n := 120) dL_ways_119 rfl rfl ?_
        refine g_iload_n (n := 121) dL_ways_120 rfl rfl ?_
        refine g_iload_n (n := 122) dL_ways_121 rfl rfl ?_
        refine g_iconst (n := 123) dL_ways_122 rfl k_ic_1 ?_
        refine g_cKHv (c9 := 0) (n := 126) c2 dL_ways_123 rfl kz_L_112 rfl (Or.inl (Nat.le_of_ble_eq_true rfl)) (Nat.le_of_ble_eq_true rfl) rfl rfl ?_ rfl
        refine g_icmp_ne (n := 129) (t := 178) dL_ways_126 rfl (by decide) (fun q9 => absurd rfl q9) (fun _ => ?_)
        refine g_iload (n := 131) dL_ways_129 rfl rfl ?_
        refine g_aload_n (n := 132) dL_ways_131 rfl rfl ?_
        refine g_iload_n (n := 133) dL_ways_132 rfl rfl ?_
        refine g_iload_n (n := 134) dL_ways_133 rfl rfl ?_
        refine g_iconst (n := 135) dL_ways_134 rfl k_ic_0 ?_
        refine g_cKHv (c9 := 0) (n := 138) c3 dL_ways_135 rfl kz_L_112 rfl (Or.inl (Nat.le_of_ble_eq_true rfl)) (Nat.le_of_ble_eq_true rfl) rfl rfl ?_ rfl
        refine g_icmp_ne (n := 141) (t := 178) dL_ways_138 rfl (by decide) (fun q9 => absurd (kFar_sy W ha hm) q9) (fun _ => ?_)
        refine g_iload (n := 143) dL_ways_141 rfl rfl ?_
        refine g_iload (n := 145) dL_ways_143 rfl rfl ?_
        refine g_ldc (n := 147) dL_ways_145 rfl kc_L_114 ?_
        refine g_icmp_ne (n := 150) (t := 154) dL_ways_147 rfl (by decide) (fun _ => ?_) (fun q9 => absurd q9 (fun q => by rw [nL_8 W ha hm] at q; exact absurd ((nI_eq (by omega) (by decide)).mp q) (by omega)))
        refine g_iload (n := 156) dL_ways_154 rfl rfl ?_
        exact K156 (by rw [kFar_is W ha hm, if_pos l, nL_8 W ha hm])
      · refine g_iload (n := 119) dL_ways_117 rfl rfl ?_
        refine g_aload_n (n := 120) dL_ways_119 rfl rfl ?_
        refine g_iload_n (n := 121) dL_ways_120 rfl rfl ?_
        refine g_iload_n (n := 122) dL_ways_121 rfl rfl ?_
        refine g_iconst (n := 123) dL_ways_122 rfl k_ic_1 ?_
        refine g_cKHv (c9 := 0) (n := 126) c2 dL_ways_123 rfl kz_L_112 rfl (Or.inl (Nat.le_of_ble_eq_true rfl)) (Nat.le_of_ble_eq_true rfl) rfl rfl ?_ rfl
        refine g_icmp_ne (n := 129) (t := 178) dL_ways_126 rfl (by decide) (fun q9 => absurd rfl q9) (fun _ => ?_)
        refine g_iload (n := 131) dL_ways_129 rfl rfl ?_
        refine g_aload_n (n := 132) dL_ways_131 rfl rfl ?_
        refine g_iload_n (n := 133) dL_ways_132 rfl rfl ?_
        refine g_iload_n (n := 134) dL_ways_133 rfl rfl ?_
        refine g_iconst (n := 135) dL_ways_134 rfl k_ic_0 ?_
        refine g_cKHv (c9 := 0) (n := 138) c3 dL_ways_135 rfl kz_L_112 rfl (Or.inl (Nat.le_of_ble_eq_true rfl)) (Nat.le_of_ble_eq_true rfl) rfl rfl ?_ rfl
        refine g_icmp_ne (n := 141) (t := 178) dL_ways_138 rfl (by decide) (fun q9 => absurd (kFar_sy W ha hm) q9) (fun _ => ?_)
        refine g_iload (n := 143) dL_ways_141 rfl rfl ?_
        refine g_iload (n := 145) dL_ways_143 rfl rfl ?_
        refine g_ldc (n := 147) dL_ways_145 rfl kc_L_114 ?_
        refine g_icmp_ne (n := 150) (t := 154) dL_ways_147 rfl (by decide) (fun q9 => absurd (by rw [nL_8 W ha hm]; exact congrArg nI (show vdn V (8 * a + m) = 1000000 by omega)) q9) (fun _ => ?_)
        refine g_iconst (n := 151) dL_ways_150 rfl k_ic_m1 ?_
        refine g_goto (n := 0) (t := 156) dL_ways_151 (by decide) ?_
        exact K156 (by rw [kFar_is W ha hm, if_neg l])
    have K53 := ways_in Z1 ha hm K117
    by_cases e : a = m
    · have e0 : nL V a m 0 = 0 := if_pos e
      rw [e0] at K53
      refine g_iload_n (n := 19) dL_ways_18 rfl rfl ?_
      refine g_bipush (n := 21) dL_ways_19 rfl k_bp_8 ?_
      refine g_icmp_ge (n := 24) (t := 186) dL_ways_21 rfl (by decide) (fun q9 => absurd q9 (nle hm (by decide))) (fun _ => ?_)
      refine g_iload_n (n := 25) dL_ways_24 rfl rfl ?_
      refine g_if_eq (n := 28) (t := 186) dL_ways_25 rfl (by decide) (fun q9 => absurd q9 (by decide)) (fun _ => ?_)
      refine g_aload_n (n := 29) dL_ways_28 rfl rfl ?_
      refine g_iload_n (n := 30) dL_ways_29 rfl rfl ?_
      refine g_iload_n (n := 31) dL_ways_30 rfl rfl ?_
      refine g_iconst (n := 32) dL_ways_31 rfl k_ic_0 ?_
      refine g_cKHv (c9 := 0) (n := 35) c1 dL_ways_32 rfl kz_L_112 rfl (Or.inl (Nat.le_of_ble_eq_true rfl)) (Nat.le_of_ble_eq_true rfl) rfl rfl ?_ rfl
      refine g_istore4 (n := 37) dL_ways_35 rfl (by decide) rfl ?_
      refine g_iload_n (n := 38) dL_ways_37 rfl rfl ?_
      refine g_iload_n (n := 39) dL_ways_38 rfl rfl ?_
      refine g_icmp_ne (n := 42) (t := 46) dL_ways_39 rfl (by decide) (fun q9 => absurd (congrArg nI e) q9) (fun _ => ?_)
      refine g_iconst (n := 43) dL_ways_42 rfl k_ic_0 ?_
      refine g_goto (n := 0) (t := 48) dL_ways_43 (by decide) ?_
      refine g_istore5 (n := 50) dL_ways_48 rfl (by decide) rfl ?_
      refine g_iconst (n := 51) dL_ways_50 rfl k_ic_0 ?_
      refine g_istore6 (n := 53) dL_ways_51 rfl (by decide) rfl ?_
      exact K53
    · have e0 : nL V a m 0 = 1000000 := if_neg e
      rw [e0] at K53
      refine g_iload_n (n := 19) dL_ways_18 rfl rfl ?_
      refine g_bipush (n := 21) dL_ways_19 rfl k_bp_8 ?_
      refine g_icmp_ge (n := 24) (t := 186) dL_ways_21 rfl (by decide) (fun q9 => absurd q9 (nle hm (by decide))) (fun _ => ?_)
      refine g_iload_n (n := 25) dL_ways_24 rfl rfl ?_
      refine g_if_eq (n := 28) (t := 186) dL_ways_25 rfl (by decide) (fun q9 => absurd q9 (by decide)) (fun _ => ?_)
      refine g_aload_n (n := 29) dL_ways_28 rfl rfl ?_
      refine g_iload_n (n := 30) dL_ways_29 rfl rfl ?_
      refine g_iload_n (n := 31) dL_ways_30 rfl rfl ?_
      refine g_iconst (n := 32) dL_ways_31 rfl k_ic_0 ?_
      refine g_cKHv (c9 := 0) (n := 35) c1 dL_ways_32 rfl kz_L_112 rfl (Or.inl (Nat.le_of_ble_eq_true rfl)) (Nat.le_of_ble_eq_true rfl) rfl rfl ?_ rfl
      refine g_istore4 (n := 37) dL_ways_35 rfl (by decide) rfl ?_
      refine g_iload_n (n := 38) dL_ways_37 rfl rfl ?_
      refine g_iload_n (n := 39) dL_ways_38 rfl rfl ?_
      refine g_icmp_ne (n := 42) (t := 46) dL_ways_39 rfl (by decide) (fun _ => ?_) (fun q9 => absurd q9 (fun q => e ((nI_eq (by omega) (by omega)).mp q)))
      refine g_ldc (n := 48) dL_ways_46 rfl kc_L_114 ?_
      refine g_istore5 (n := 50) dL_ways_48 rfl (by decide) rfl ?_
      refine g_iconst (n := 51) dL_ways_50 rfl k_ic_0 ?_
      refine g_istore6 (n := 53) dL_ways_51 rfl (by decide) rfl ?_
      exact K53
theorem a_ways (Z : zS t M s h V) (ha : a < 8) : ∃ M1, zS t M1 s h V ∧ zCk w mL_ways 0 (d + 11) [vR 9 0, vI (nI a)] (zP M O) (zrI (nI 1)) (zP M1 O) := by
  obtain ⟨M1, Z1, c1⟩ := q_dist0 (w := w) (d := d) (O := O) Z ha ha
  rw [kFar_0 Z.W ha] at c1
  obtain ⟨M2, Z2, G⟩ := ways_out (w := w) (d := d) (O := O) ha 8 0 M1 (by omega) Z1
  refine ⟨M2, Z2, ?_⟩
  refine zCk_of (L0 := [vR 9 0, vI (nI a), vU, vU, vU, vU, vU, vU, vU]) (by decide) (by decide) rfl (Nat.le_of_ble_eq_true rfl) rfl rfl ?_
  refine g_aload_n (n := 1) dL_ways_0 rfl rfl ?_
  refine g_iload_n (n := 2) dL_ways_1 rfl rfl ?_
  refine g_iload_n (n := 3) dL_ways_2 rfl rfl ?_
  refine g_iconst (n := 4) dL_ways_3 rfl k_ic_0 ?_
  refine g_cKHv (c9 := 0) (n := 7) c1 dL_ways_4 rfl kz_L_112 rfl (Or.inl (Nat.le_of_ble_eq_true rfl)) (Nat.le_of_ble_eq_true rfl) rfl rfl ?_ rfl
  refine g_if_ne (n := 10) (t := 14) dL_ways_7 rfl (by decide) (fun q9 => absurd rfl q9) (fun _ => ?_)
  refine g_iconst (n := 11) dL_ways_10 rfl k_ic_1 ?_
  refine g_goto (n := 0) (t := 15) dL_ways_11 (by decide) ?_
  refine g_istore2 (n := 16) dL_ways_15 rfl (by decide) rfl ?_
  refine g_iconst (n := 17) dL_ways_16 rfl k_ic_0 ?_
  refine g_istore3 (n := 18) dL_ways_17 rfl (by decide) rfl ?_
  exact G
end WY

