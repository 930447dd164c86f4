/-! The looks of the face, and what would be. -/
def mFl (M : Nat → Nat → Nat → Int32) (e : Nat) : Nat → Nat → Nat → Int32 := u3 M 15 1 e (nI 1 - M 15 1 e)
theorem z_1m1 (x : Int32) : nI 1 - (nI 1 - x) = x := Int32.sub_eq_iff_eq_add.mpr ((Int32.sub_add_cancel _ _).symm.trans (Int32.add_comm _ _))
theorem mFl_mFl {M : Nat → Nat → Nat → Int32} {e : Nat} : mFl (mFl M e) e = M := by
  funext a b c
  unfold mFl u3
  by_cases h : a = 15 ∧ b = 1 ∧ c = e
  · rw [if_pos h, if_pos ⟨rfl, rfl, rfl⟩, z_1m1, h.1, h.2.1, h.2.2]
  · rw [if_neg h, if_neg h]
theorem mFl_S {M M' : Nat → Nat → Nat → Int32} {e : Nat} (S : zSamL M M') : zSamL (mFl M e) (mFl M' e) := by
  intro k i a b c
  funext j
  unfold mFl u3
  by_cases h : k = 15 ∧ i = 1 ∧ j = e
  · rw [if_pos h, if_pos h, S 15 1 (by decide) (by decide) (by decide)]
  · rw [if_neg h, if_neg h, S k i a b c]
theorem mFl_0 {M : Nat → Nat → Nat → Int32} {e : Nat} : zLnd M (mFl M e) 0 := fun k _ _ _ _ => u3_nf (by decide)
section LQ
variable {w : zWp} {d s : Nat} {M : Nat → Nat → Nat → Int32} {O : Nat → Int64}
def kDb (x y : Int32) : Bool := decide (¬ x = -1) && (decide (y = -1) || decide (x < y))
def kDr (M : Nat → Nat → Nat → Int32) (s e : Nat) : Int32 := sm (kPs (fun t h => kDb (kCo M 0 s t h) (kCo (mFl M e) 1 s t h))) 32
theorem c_pairs2 {M' : Nat → Nat → Nat → Int32} {e : Nat} (S : zSamL M M') (hs : M 1 0 5 = nI s) (hs1 : M 1 1 5 = nI s) (h8 : s ≤ 8) (he : e < s) : ∃ M2, zSamL M M2 ∧ zC w mX9_pairsDearerWithout (d + 4) [vR 9 0, vI (nI e)] (zP M' O) (zrI (kDr M s e)) (zP M2 O) := by
  obtain ⟨B, hB⟩ : ∃ B, B = mFl M e := ⟨_, rfl⟩
  obtain ⟨f, hf⟩ : ∃ f : Nat → Nat → Bool, f = fun t h => kDb (kCo B 0 s t h) (kCo B 1 s t h) := ⟨_, rfl⟩
  have hk : kDr M s e = sm (kPs f) 32 := by
    unfold kDr
    rw [hf, ← hB, show kCo B 0 = kCo M 0 by rw [hB]; exact kCo_c mFl_0]
  rw [hk]
  have bs : B 1 0 5 = nI s := by rw [hB]; exact hs
  have bs1 : B 1 1 5 = nI s := by rw [hB]; exact hs1
  have H : ∀ M', zSamL B M' → ∃ M2, zSamL M M2 ∧ zG w mX9_pairsDearerWithout (d + 4) 0 15 [vR 9 0, vI (nI e), vI (sm (kPs f) (4 * 0)), vI (nI 0), vU, vU, vU] [] (zP M' O) (zrI (sm (kPs f) 32)) (zP M2 O) := by
    refine z_loop (fun t => ∀ M', zSamL B M' → ∃ M2, zSamL M M2 ∧ zG w mX9_pairsDearerWithout (d + 4) 0 15 [vR 9 0, vI (nI e), vI (sm (kPs f) (4 * t)), vI (nI t), vU, vU, vU] [] (zP M' O) (zrI (sm (kPs f) 32)) (zP M2 O)) 8 ?_ ?_ 0 (Nat.zero_le _)
    · intro M' S
      refine ⟨mFl M' e, ?_, ?_⟩
      · have q := mFl_S (e := e) S
        rw [hB, mFl_mFl] at q
        exact q
      · have s1 : M' 1 1 5 = nI s := by rw [S 1 1 (by decide) (by decide) (by decide)]; exact bs1
        refine g_iload_n (n := 16) dX9_pairsDearerWithout_15 rfl rfl ?_
        refine g_bipush (n := 18) dX9_pairsDearerWithout_16 rfl k_bp_8 ?_
        refine g_icmp_ge (n := 21) (t := 128) dX9_pairsDearerWithout_18 rfl (by decide) (fun _ => ?_) (fun q9 => absurd (Int32.le_refl _) q9)
        refine g_aload_n (n := 129) dX9_pairsDearerWithout_128 rfl rfl ?_
        refine gf_X9_16 (n := 132) dX9_pairsDearerWithout_129 rfl rfl (z_lvP (by first | decide | assumption)) rfl ?_
        refine gf_X9_83 (n := 135) dX9_pairsDearerWithout_132 rfl rfl (z_lvP (by first | decide | assumption)) rfl ?_
        refine g_iload_n (n := 136) dX9_pairsDearerWithout_135 rfl rfl ?_
        refine g_cVn (n := 139) (c_xflip (i := 1) (by decide) s1 h8 he) dX9_pairsDearerWithout_136 rfl kw_X9_107 rfl (by decide) (z_lvP (by first | decide | assumption)) (Nat.le_of_ble_eq_true rfl) ⟨Nat.le_refl _, Nat.le_refl _⟩ ?_ rfl
        refine g_iload_n (n := 140) dX9_pairsDearerWithout_139 rfl rfl ?_
        exact g_ireturn dX9_pairsDearerWithout_140 rfl rfl rfl rfl
    · intro t ht ih M' S
      have I : ∀ M', zSamL B M' → ∃ M2, zSamL M M2 ∧ zG w mX9_pairsDearerWithout (d + 4) 0 24 [vR 9 0, vI (nI e), vI (sm (kPs f) (4 * t + 0)), vI (nI t), vI (nI 0), vU, vU] [] (zP M' O) (zrI (sm (kPs f) 32)) (zP M2 O) := by
        refine z_loop (fun h => ∀ M', zSamL B M' → ∃ M2, zSamL M M2 ∧ zG w mX9_pairsDearerWithout (d + 4) 0 24 [vR 9 0, vI (nI e), vI (sm (kPs f) (4 * t + h)), vI (nI t), vI (nI h), vU, vU] [] (zP M' O) (zrI (sm (kPs f) 32)) (zP M2 O)) 4 ?_ ?_ 0 (Nat.zero_le _)
        · intro M' S
          obtain ⟨M2, S2, G⟩ := ih M' S
          refine ⟨M2, S2, ?_⟩
          refine g_iload (n := 26) dX9_pairsDearerWithout_24 rfl rfl ?_
          refine g_iconst (n := 27) dX9_pairsDearerWithout_26 rfl k_ic_4 ?_
          refine g_icmp_ge (n := 30) (t := 122) dX9_pairsDearerWithout_27 rfl (by decide) (fun _ => ?_) (fun q9 => absurd (Int32.le_refl _) q9)
          refine g_iinc3 (n := 125) dX9_pairsDearerWithout_122 rfl (by decide) rfl (z_inc1 _) ?_
          refine g_goto (n := 0) (t := 15) dX9_pairsDearerWithout_125 (by decide) ?_
          refine g_drop 4 ?_
          exact G
        · intro h hh ih2 M' S
          obtain ⟨M0, S0, _, _, _, u5, cl0⟩ := c_lookS (w := w) (d := d) (O := O) S (by decide : 0 < 10) bs h8 ht hh
          obtain ⟨M1, S1, _, _, _, v5, cl1⟩ := c_lookS (w := w) (d := d) (O := O) S0 (by decide : 1 < 10) bs1 h8 ht hh
          obtain ⟨M2, S2, G⟩ := ih2 M1 S1
          refine ⟨M2, S2, ?_⟩
          rw [← Nat.add_assoc, sm_s, kPs_at hh] at G
          have ef : f t h = kDb (M0 0 0 5) (M1 0 0 5) := by rw [hf, u5, v5]
          rw [ef] at G
          unfold kDb at G
          have tail : ∀ D : Bool, (decide (M1 0 0 5 = -1) || decide (M0 0 0 5 < M1 0 0 5)) = D → zG w mX9_pairsDearerWithout (d + 4) 0 95 [vR 9 0, vI (nI e), vI (sm (kPs f) (4 * t + h)), vI (nI t), vI (nI h), vI (M0 0 0 5), vU] [vI (zb D)] (zP M1 O) (zrI (sm (kPs f) 32)) (zP M2 O) := by
            intro D hD
            rw [hD] at G
            refine g_istore6 (n := 97) dX9_pairsDearerWithout_95 rfl (by decide) rfl ?_
            refine g_iload_n (n := 98) dX9_pairsDearerWithout_97 rfl rfl ?_
            refine g_iload (n := 100) dX9_pairsDearerWithout_98 rfl rfl ?_
            refine g_iconst (n := 101) dX9_pairsDearerWithout_100 rfl k_ic_m1 ?_
            refine g_icmp_eq (n := 104) (t := 113) dX9_pairsDearerWithout_101 rfl (by decide) (fun c101 => ?_) (fun c101 => ?_)
            · rw [decide_eq_false (fun q => q (show M0 0 0 5 = -1 from c101))] at G
              refine g_iconst (n := 114) dX9_pairsDearerWithout_113 rfl k_ic_0 ?_
              refine g_iadd (n := 115) dX9_pairsDearerWithout_114 rfl ?_
              refine g_istore2 (n := 116) dX9_pairsDearerWithout_115 rfl (by decide) rfl ?_
              refine g_iinc4 (n := 119) dX9_pairsDearerWithout_116 rfl (by decide) rfl (z_inc1 _) ?_
              refine g_goto (n := 0) (t := 24) dX9_pairsDearerWithout_119 (by decide) ?_
              refine g_drop 5 (g_drop 6 ?_)
              exact G
            · rw [decide_eq_true (show ¬ M0 0 0 5 = -1 from c101)] at G
              cases D
              · refine g_iload (n := 106) dX9_pairsDearerWithout_104 rfl rfl ?_
                refine g_if_eq (n := 109) (t := 113) dX9_pairsDearerWithout_106 rfl (by decide) (fun _ => ?_) (fun q9 => absurd rfl q9)
                refine g_iconst (n := 114) dX9_pairsDearerWithout_113 rfl k_ic_0 ?_
                refine g_iadd (n := 115) dX9_pairsDearerWithout_114 rfl ?_
                refine g_istore2 (n := 116) dX9_pairsDearerWithout_115 rfl (by decide) rfl ?_
                refine g_iinc4 (n := 119) dX9_pairsDearerWithout_116 rfl (by decide) rfl (z_inc1 _) ?_
                refine g_goto (n := 0) (t := 24) dX9_pairsDearerWithout_119 (by decide) ?_
                refine g_drop 5 (g_drop 6 ?_)
                exact G
              · refine g_iload (n := 106) dX9_pairsDearerWithout_104 rfl rfl ?_
                refine g_if_eq (n := 109) (t := 113) dX9_pairsDearerWithout_106 rfl (by decide) (fun q9 => absurd q9 (by decide)) (fun _ => ?_)
                refine g_iconst (n := 110) dX9_pairsDearerWithout_109 rfl k_ic_1 ?_
                refine g_goto (n := 0) (t := 114) dX9_pairsDearerWithout_110 (by decide) ?_
                refine g_iadd (n := 115) dX9_pairsDearerWithout_114 rfl ?_
                refine g_istore2 (n := 116) dX9_pairsDearerWithout_115 rfl (by decide) rfl ?_
                refine g_iinc4 (n := 119) dX9_pairsDearerWithout_116 rfl (by decide) rfl (z_inc1 _) ?_
                refine g_goto (n := 0) (t := 24) dX9_pairsDearerWithout_119 (by decide) ?_
                refine g_drop 5 (g_drop 6 ?_)
                exact G
          refine g_iload (n := 26) dX9_pairsDearerWithout_24 rfl rfl ?_
          refine g_iconst (n := 27) dX9_pairsDearerWithout_26 rfl k_ic_4 ?_
          refine g_icmp_ge (n := 30) (t := 122) dX9_pairsDearerWithout_27 rfl (by decide) (fun q9 => absurd q9 (nI_ge hh (by decide))) (fun _ => ?_)
          refine g_aload_n (n := 31) dX9_pairsDearerWithout_30 rfl rfl ?_
          refine gf_X9_22 (n := 34) dX9_pairsDearerWithout_31 rfl rfl (z_lvP (by first | decide | assumption)) rfl ?_
          refine g_aload_n (n := 35) dX9_pairsDearerWithout_34 rfl rfl ?_
          refine gf_X9_10 (n := 38) dX9_pairsDearerWithout_35 rfl rfl (z_lvP (by first | decide | assumption)) rfl ?_
          refine g_iload_n (n := 39) dX9_pairsDearerWithout_38 rfl rfl ?_
          refine g_iload (n := 41) dX9_pairsDearerWithout_39 rfl rfl ?_
          refine g_cVn (n := 44) cl0 dX9_pairsDearerWithout_41 rfl kw_X9_242 rfl (by decide) (z_lvP (by first | decide | assumption)) (Nat.le_of_ble_eq_true rfl) ⟨Nat.le_refl _, Nat.le_refl _⟩ ?_ rfl
          refine g_aload_n (n := 45) dX9_pairsDearerWithout_44 rfl rfl ?_
          refine gf_X9_22 (n := 48) dX9_pairsDearerWithout_45 rfl rfl (z_lvP (by first | decide | assumption)) rfl ?_
          refine gf_X9_249 (n := 51) dX9_pairsDearerWithout_48 rfl rfl (z_lvP (by first | decide | assumption)) ?_
          refine g_istore5 (n := 53) dX9_pairsDearerWithout_51 rfl (by decide) rfl ?_
          refine g_aload_n (n := 54) dX9_pairsDearerWithout_53 rfl rfl ?_
          refine gf_X9_22 (n := 57) dX9_pairsDearerWithout_54 rfl rfl (z_lvP (by first | decide | assumption)) rfl ?_
          refine g_aload_n (n := 58) dX9_pairsDearerWithout_57 rfl rfl ?_
          refine gf_X9_16 (n := 61) dX9_pairsDearerWithout_58 rfl rfl (z_lvP (by first | decide | assumption)) rfl ?_
          refine g_iload_n (n := 62) dX9_pairsDearerWithout_61 rfl rfl ?_
          refine g_iload (n := 64) dX9_pairsDearerWithout_62 rfl rfl ?_
          refine g_cVn (n := 67) cl1 dX9_pairsDearerWithout_64 rfl kw_X9_242 rfl (by decide) (z_lvP (by first | decide | assumption)) (Nat.le_of_ble_eq_true rfl) ⟨Nat.le_refl _, Nat.le_refl _⟩ ?_ rfl
          refine g_aload_n (n := 68) dX9_pairsDearerWithout_67 rfl rfl ?_
          refine gf_X9_22 (n := 71) dX9_pairsDearerWithout_68 rfl rfl (z_lvP (by first | decide | assumption)) rfl ?_
          refine gf_X9_249 (n := 74) dX9_pairsDearerWithout_71 rfl rfl (z_lvP (by first | decide | assumption)) ?_
          refine g_iconst (n := 75) dX9_pairsDearerWithout_74 rfl k_ic_m1 ?_
          refine g_icmp_eq (n := 78) (t := 90) dX9_pairsDearerWithout_75 rfl (by decide) (fun c75 => ?_) (fun c75 => ?_)
          · refine g_iconst (n := 91) dX9_pairsDearerWithout_90 rfl k_ic_1 ?_
            refine g_goto (n := 0) (t := 95) dX9_pairsDearerWithout_91 (by decide) ?_
            exact tail true (by rw [decide_eq_true (show M1 0 0 5 = -1 from c75)]; rfl)
          · refine g_aload_n (n := 79) dX9_pairsDearerWithout_78 rfl rfl ?_
            refine gf_X9_22 (n := 82) dX9_pairsDearerWithout_79 rfl rfl (z_lvP (by first | decide | assumption)) rfl ?_
            refine gf_X9_249 (n := 85) dX9_pairsDearerWithout_82 rfl rfl (z_lvP (by first | decide | assumption)) ?_
            refine g_iload (n := 87) dX9_pairsDearerWithout_85 rfl rfl ?_
            refine g_icmp_le (n := 90) (t := 94) dX9_pairsDearerWithout_87 rfl (by decide) (fun c87 => ?_) (fun c87 => ?_)
            · refine g_iconst (n := 95) dX9_pairsDearerWithout_94 rfl k_ic_0 ?_
              exact tail false (by rw [decide_eq_false (show ¬ M1 0 0 5 = -1 from c75), decide_eq_false (show ¬ M0 0 0 5 < M1 0 0 5 from Int32.not_lt.mpr c87)]; rfl)
            · refine g_iconst (n := 91) dX9_pairsDearerWithout_90 rfl k_ic_1 ?_
              refine g_goto (n := 0) (t := 95) dX9_pairsDearerWithout_91 (by decide) ?_
              exact tail true (by rw [decide_eq_false (show ¬ M1 0 0 5 = -1 from c75), decide_eq_true (show M0 0 0 5 < M1 0 0 5 from Int32.not_le.mp c87)]; rfl)
      obtain ⟨M2, S2, G⟩ := I M' S
      refine ⟨M2, S2, ?_⟩
      refine g_iload_n (n := 16) dX9_pairsDearerWithout_15 rfl rfl ?_
      refine g_bipush (n := 18) dX9_pairsDearerWithout_16 rfl k_bp_8 ?_
      refine g_icmp_ge (n := 21) (t := 128) dX9_pairsDearerWithout_18 rfl (by decide) (fun q9 => absurd q9 (nI_ge ht (by decide))) (fun _ => ?_)
      refine g_iconst (n := 22) dX9_pairsDearerWithout_21 rfl k_ic_0 ?_
      refine g_istore4 (n := 24) dX9_pairsDearerWithout_22 rfl (by decide) rfl ?_
      exact G
  obtain ⟨M2, S2, G⟩ := H (mFl M' e) (by rw [hB]; exact mFl_S S)
  have s1 : M' 1 1 5 = nI s := by rw [S 1 1 (by decide) (by decide) (by decide)]; exact hs1
  refine ⟨M2, S2, ?_⟩
  refine zC_of (cr := 0) (L0 := [vR 9 0, vI (nI e), vU, vU, vU, vU, vU]) rfl (by decide) (by decide) rfl (Nat.le_of_ble_eq_true rfl) rfl ?_
  refine g_iconst (n := 1) dX9_pairsDearerWithout_0 rfl k_ic_0 ?_
  refine g_istore2 (n := 2) dX9_pairsDearerWithout_1 rfl (by decide) rfl ?_
  refine g_aload_n (n := 3) dX9_pairsDearerWithout_2 rfl rfl ?_
  refine gf_X9_16 (n := 6) dX9_pairsDearerWithout_3 rfl rfl (z_lvP (by first | decide | assumption)) rfl ?_
  refine gf_X9_83 (n := 9) dX9_pairsDearerWithout_6 rfl rfl (z_lvP (by first | decide | assumption)) rfl ?_
  refine g_iload_n (n := 10) dX9_pairsDearerWithout_9 rfl rfl ?_
  refine g_cVn (n := 13) (c_xflip (i := 1) (by decide) s1 h8 he) dX9_pairsDearerWithout_10 rfl kw_X9_107 rfl (by decide) (z_lvP (by first | decide | assumption)) (Nat.le_of_ble_eq_true rfl) ⟨Nat.le_refl _, Nat.le_refl _⟩ ?_ rfl
  refine g_iconst (n := 14) dX9_pairsDearerWithout_13 rfl k_ic_0 ?_
  refine g_istore3 (n := 15) dX9_pairsDearerWithout_14 rfl (by decide) rfl ?_
  exact G
/-- the dearest of the first exits, and how dear -/
def kDe (M : Nat → Nat → Nat → Int32) (s : Nat) : Nat → Int32 × Int32
  | 0 => (-1, -1)
  | e + 1 =>
    let v := if M 15 0 e = nI 1 then kDr M s e else -1
    if (kDe M s e).2 < v then (nI e, v) else kDe M s e
theorem c_dearest {M' : Nat → Nat → Nat → Int32} (S : zSame M M') (hs : M 1 0 5 = nI s) (h8 : s ≤ 8) : ∃ M2, zSame M M2 ∧ zC w mX9_dearest (d + 8) [vR 9 0] (zP M' O) (zrI (kDe (mCpL M' 1 0) s s).1) (zP M2 O) := by
  have hs' : M' 1 0 5 = nI s := by rw [S 1 0 (by decide) (by decide) (by decide) (by decide) (by decide) (Or.inl (by decide))]; exact hs
  obtain ⟨B, hB⟩ : ∃ B, B = mCpL M' 1 0 := ⟨_, rfl⟩
  have bs : B 1 0 5 = nI s := by rw [hB, mCpL_ne (by decide)]; exact hs'
  have bs1 : B 1 1 5 = nI s := by rw [hB]; exact hs'
  have SB : zSame M B := by
    refine S.tr ?_
    intro k i a b c e f g
    rw [hB]
    rcases g with g | g
    · exact mCpL_ne g
    · unfold mCpL mCpN mCpE mCpR
      rw [u3_kf (by omega), u3_kf (by omega), u3_kf (by omega)]
      simp only
      repeat rw [u2_ne (by omega)]
      rw [u3_kf (by omega)]
      repeat rw [u2_ne (by omega)]
  have H : ∀ M', zSamL B M' → ∃ M2, zSamL B M2 ∧ zG w mX9_dearest (d + 8) 0 17 [vR 9 0, vI (kDe B s 0).1, vI (kDe B s 0).2, vI (nI 0), vU] [] (zP M' O) (zrI (kDe B s s).1) (zP M2 O) := by
    refine z_loop (fun e => ∀ M', zSamL B M' → ∃ M2, zSamL B M2 ∧ zG w mX9_dearest (d + 8) 0 17 [vR 9 0, vI (kDe B s e).1, vI (kDe B s e).2, vI (nI e), vU] [] (zP M' O) (zrI (kDe B s s).1) (zP M2 O)) s ?_ ?_ 0 (Nat.zero_le _)
    · intro M' S
      refine ⟨M', S, ?_⟩
      have s0 : M' 1 0 5 = nI s := by rw [S 1 0 (by decide) (by decide) (by decide)]; exact bs
      have cz := c_xsize (w := w) (d := d + 7) (M := M') (O := O) (i := 0) (by decide)
      rw [s0] at cz
      refine g_iload_n (n := 18) dX9_dearest_17 rfl rfl ?_
      refine g_aload_n (n := 19) dX9_dearest_18 rfl rfl ?_
      refine gf_X9_10 (n := 22) dX9_dearest_19 rfl rfl (z_lvP (by first | decide | assumption)) rfl ?_
      refine gf_X9_83 (n := 25) dX9_dearest_22 rfl rfl (z_lvP (by first | decide | assumption)) rfl ?_
      refine g_cVv (n := 28) cz dX9_dearest_25 rfl kw_X9_270 rfl (by decide) (z_lvP (by first | decide | assumption)) (Nat.le_of_ble_eq_true rfl) ⟨Nat.le_refl _, Nat.le_refl _⟩ ?_ rfl
      refine g_icmp_ge (n := 31) (t := 73) dX9_dearest_28 rfl (by decide) (fun _ => ?_) (fun q9 => absurd (Int32.le_refl _) q9)
      refine g_iload_n (n := 74) dX9_dearest_73 rfl rfl ?_
      exact g_ireturn dX9_dearest_74 rfl rfl rfl rfl
    · intro e he ih M' S
      have s0 : M' 1 0 5 = nI s := by rw [S 1 0 (by decide) (by decide) (by decide)]; exact bs
      have cz := c_xsize (w := w) (d := d + 7) (M := M') (O := O) (i := 0) (by decide)
      rw [s0] at cz
      have ci := c_xisOpen (w := w) (d := d + 6) (M := M') (O := O) (i := 0) (by decide) s0 h8 (nI e)
      rw [xg_nI he (by omega), S 15 0 (by decide) (by decide) (by decide)] at ci
      obtain ⟨q, hq⟩ : ∃ q, q = kDe B s e := ⟨_, rfl⟩
      obtain ⟨v, hv⟩ : ∃ v, v = if B 15 0 e = nI 1 then kDr B s e else -1 := ⟨_, rfl⟩
      have e0 : kDe B s (e + 1) = if q.2 < v then (nI e, v) else q := by
        rw [hq, hv]; rfl
      rw [e0] at ih
      rw [← hq]
      have tail : ∀ M', zSamL B M' → ∃ M2, zSamL B M2 ∧ zG w mX9_dearest (d + 8) 0 54 [vR 9 0, vI q.1, vI q.2, vI (nI e), vU] [vI v] (zP M' O) (zrI (kDe B s s).1) (zP M2 O) := by
        intro M' S
        obtain ⟨M2, S2, G⟩ := ih M' S
        refine ⟨M2, S2, ?_⟩
        refine g_istore4 (n := 56) dX9_dearest_54 rfl (by decide) rfl ?_
        refine g_iload (n := 58) dX9_dearest_56 rfl rfl ?_
        refine g_iload_n (n := 59) dX9_dearest_58 rfl rfl ?_
        refine g_icmp_le (n := 62) (t := 67) dX9_dearest_59 rfl (by decide) (fun c59 => ?_) (fun c59 => ?_)
        · rw [if_neg (Int32.not_lt.mpr c59)] at G
          refine g_iinc3 (n := 70) dX9_dearest_67 rfl (by decide) rfl (z_inc1 _) ?_
          refine g_goto (n := 0) (t := 17) dX9_dearest_70 (by decide) ?_
          refine g_drop 4 ?_
          exact G
        · rw [if_pos (Int32.not_le.mp c59)] at G
          refine g_iload (n := 64) dX9_dearest_62 rfl rfl ?_
          refine g_istore2 (n := 65) dX9_dearest_64 rfl (by decide) rfl ?_
          refine g_iload_n (n := 66) dX9_dearest_65 rfl rfl ?_
          refine g_istore1 (n := 67) dX9_dearest_66 rfl (by decide) rfl ?_
          refine g_iinc3 (n := 70) dX9_dearest_67 rfl (by decide) rfl (z_inc1 _) ?_
          refine g_goto (n := 0) (t := 17) dX9_dearest_70 (by decide) ?_
          refine g_drop 4 ?_
          exact G
      by_cases ho : B 15 0 e = nI 1
      · rw [decide_eq_true ho] at ci
        rw [if_pos ho] at hv
        obtain ⟨M1, S1, cp⟩ := c_pairs2 (w := w) (d := d + 3) (O := O) (e := e) S bs bs1 h8 he
        rw [← hv] at cp
        obtain ⟨M2, S2, G⟩ := tail M1 S1
        refine ⟨M2, S2, ?_⟩
        refine g_iload_n (n := 18) dX9_dearest_17 rfl rfl ?_
        refine g_aload_n (n := 19) dX9_dearest_18 rfl rfl ?_
        refine gf_X9_10 (n := 22) dX9_dearest_19 rfl rfl (z_lvP (by first | decide | assumption)) rfl ?_
        refine gf_X9_83 (n := 25) dX9_dearest_22 rfl rfl (z_lvP (by first | decide | assumption)) rfl ?_
        refine g_cVv (n := 28) cz dX9_dearest_25 rfl kw_X9_270 rfl (by decide) (z_lvP (by first | decide | assumption)) (Nat.le_of_ble_eq_true rfl) ⟨Nat.le_refl _, Nat.le_refl _⟩ ?_ rfl
        refine g_icmp_ge (n := 31) (t := 73) dX9_dearest_28 rfl (by decide) (fun q9 => absurd q9 (nI_ge he (by omega))) (fun _ => ?_)
        refine g_aload_n (n := 32) dX9_dearest_31 rfl rfl ?_
        refine gf_X9_10 (n := 35) dX9_dearest_32 rfl rfl (z_lvP (by first | decide | assumption)) rfl ?_
        refine gf_X9_83 (n := 38) dX9_dearest_35 rfl rfl (z_lvP (by first | decide | assumption)) rfl ?_
        refine g_iload_n (n := 39) dX9_dearest_38 rfl rfl ?_
        refine g_cVv (n := 42) ci dX9_dearest_39 rfl kw_X9_110 rfl (by decide) (z_lvP (by first | decide | assumption)) (Nat.le_of_ble_eq_true rfl) ⟨Nat.le_refl _, Nat.le_refl _⟩ ?_ rfl
        refine g_if_eq (n := 45) (t := 53) dX9_dearest_42 rfl (by decide) (fun q9 => absurd q9 (by decide)) (fun _ => ?_)
        refine g_aload_n (n := 46) dX9_dearest_45 rfl rfl ?_
        refine g_iload_n (n := 47) dX9_dearest_46 rfl rfl ?_
        refine g_cVv (n := 50) cp dX9_dearest_47 rfl kw_X9_294 rfl (by decide) (z_lvP (by first | decide | assumption)) (Nat.le_of_ble_eq_true rfl) ⟨Nat.le_refl _, Nat.le_refl _⟩ ?_ rfl
        refine g_goto (n := 0) (t := 54) dX9_dearest_50 (by decide) ?_
        exact G
      · rw [decide_eq_false ho] at ci
        rw [if_neg ho] at hv
        obtain ⟨M2, S2, G⟩ := tail M' S
        rw [hv] at G
        refine ⟨M2, S2, ?_⟩
        refine g_iload_n (n := 18) dX9_dearest_17 rfl rfl ?_
        refine g_aload_n (n := 19) dX9_dearest_18 rfl rfl ?_
        refine gf_X9_10 (n := 22) dX9_dearest_19 rfl rfl (z_lvP (by first | decide | assumption)) rfl ?_
        refine gf_X9_83 (n := 25) dX9_dearest_22 rfl rfl (z_lvP (by first | decide | assumption)) rfl ?_
        refine g_cVv (n := 28) cz dX9_dearest_25 rfl kw_X9_270 rfl (by decide) (z_lvP (by first | decide | assumption)) (Nat.le_of_ble_eq_true rfl) ⟨Nat.le_refl _, Nat.le_refl _⟩ ?_ rfl
        refine g_icmp_ge (n := 31) (t := 73) dX9_dearest_28 rfl (by decide) (fun q9 => absurd q9 (nI_ge he (by omega))) (fun _ => ?_)
        refine g_aload_n (n := 32) dX9_dearest_31 rfl rfl ?_
        refine gf_X9_10 (n := 35) dX9_dearest_32 rfl rfl (z_lvP (by first | decide | assumption)) rfl ?_
        refine gf_X9_83 (n := 38) dX9_dearest_35 rfl rfl (z_lvP (by first | decide | assumption)) rfl ?_
        refine g_iload_n (n := 39) dX9_dearest_38 rfl rfl ?_
        refine g_cVv (n := 42) ci dX9_dearest_39 rfl kw_X9_110 rfl (by decide) (z_lvP (by first | decide | assumption)) (Nat.le_of_ble_eq_true rfl) ⟨Nat.le_refl _, Nat.le_refl _⟩ ?_ rfl
        refine g_if_eq (n := 45) (t := 53) dX9_dearest_42 rfl (by decide) (fun _ => ?_) (fun q9 => absurd rfl q9)
        refine g_iconst (n := 54) dX9_dearest_53 rfl k_ic_m1 ?_
        exact G
  obtain ⟨M2, S2, G⟩ := H B zSamL.rf
  have cc := c_lcopy (w := w) (d := d + 4) (M := M') (O := O) (i := 1) (j := 0) (by decide) (by decide)
  rw [← hB] at cc ⊢
  refine ⟨M2, SB.tr S2.same, ?_⟩
  refine zC_of (cr := 0) (L0 := [vR 9 0, vU, vU, vU, vU]) rfl (by decide) (by decide) rfl (Nat.le_of_ble_eq_true rfl) rfl ?_
  refine g_aload_n (n := 1) dX9_dearest_0 rfl rfl ?_
  refine gf_X9_16 (n := 4) dX9_dearest_1 rfl rfl (z_lvP (by first | decide | assumption)) rfl ?_
  refine g_aload_n (n := 5) dX9_dearest_4 rfl rfl ?_
  refine gf_X9_10 (n := 8) dX9_dearest_5 rfl rfl (z_lvP (by first | decide | assumption)) rfl ?_
  refine g_cVn (n := 11) cc dX9_dearest_8 rfl kw_X9_288 rfl (by decide) (z_lvP (by first | decide | assumption)) (Nat.le_of_ble_eq_true rfl) ⟨Nat.le_refl _, Nat.le_refl _⟩ ?_ rfl
  refine g_iconst (n := 12) dX9_dearest_11 rfl k_ic_m1 ?_
  refine g_istore1 (n := 13) dX9_dearest_12 rfl (by decide) rfl ?_
  refine g_iconst (n := 14) dX9_dearest_13 rfl k_ic_m1 ?_
  refine g_istore2 (n := 15) dX9_dearest_14 rfl (by decide) rfl ?_
  refine g_iconst (n := 16) dX9_dearest_15 rfl k_ic_0 ?_
  refine g_istore3 (n := 17) dX9_dearest_16 rfl (by decide) rfl ?_
  exact G
end LQ

