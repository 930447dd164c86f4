/-! Looks at all pairs; what a look leaves as it was. -/
/-- the same but for what a look writes -/
def zSamL (M M' : Nat → Nat → Nat → Int32) : Prop := ∀ k i, k ≠ 0 → k ≠ 11 → k ≠ 12 → M' k i = M k i
/-- the same but for what the questions of the face write -/
def zSame (M M' : Nat → Nat → Nat → Int32) : Prop := ∀ k i, k ≠ 0 → k ≠ 11 → k ≠ 12 → k ≠ 20 → k ≠ 21 → (i ≠ 1 ∨ 29 ≤ k) → M' k i = M k i
def zLnd (M M' : Nat → Nat → Nat → Int32) (i : Nat) : Prop := ∀ k, 13 ≤ k → k < 29 → k ≠ 20 → k ≠ 21 → M' k i = M k i
theorem zSamL.rf {M : Nat → Nat → Nat → Int32} : zSamL M M := fun _ _ _ _ _ => rfl
theorem zSame.rf {M : Nat → Nat → Nat → Int32} : zSame M M := fun _ _ _ _ _ _ _ _ => rfl
theorem zSamL.tr {M M1 M2 : Nat → Nat → Nat → Int32} (h : zSamL M M1) (g : zSamL M1 M2) : zSamL M M2 := fun k i a b c => (g k i a b c).trans (h k i a b c)
theorem zSame.tr {M M1 M2 : Nat → Nat → Nat → Int32} (h : zSame M M1) (g : zSame M1 M2) : zSame M M2 := fun k i a b c e f q => (g k i a b c e f q).trans (h k i a b c e f q)
theorem zSamL.same {M M' : Nat → Nat → Nat → Int32} (h : zSamL M M') : zSame M M' := fun k i a b c _ _ _ => h k i a b c
theorem zSamL.lnd {M M' : Nat → Nat → Nat → Int32} (h : zSamL M M') (i : Nat) : zLnd M M' i := fun k a _ _ _ => h k i (by omega) (by omega) (by omega)
theorem zSame.lnd {M M' : Nat → Nat → Nat → Int32} (h : zSame M M') {i : Nat} (hi : i ≠ 1) : zLnd M M' i := fun k a _ b c => h k i (by omega) (by omega) (by omega) b c (Or.inl hi)
section LC
variable {M M' : Nat → Nat → Nat → Int32} {i s t h : Nat}
theorem kLen_c (H : zLnd M M' i) : kLen M' i = kLen M i := by
  funext s h e
  unfold kLen
  rw [H 22 (by decide) (by decide) (by decide) (by decide), H 14 (by decide) (by decide) (by decide) (by decide)]
theorem kDis_c (H : zLnd M M' i) : kDis M' i = kDis M i := by
  funext s t e
  unfold kDis
  rw [H 28 (by decide) (by decide) (by decide) (by decide), H 13 (by decide) (by decide) (by decide) (by decide)]
theorem kOpn_c (H : zLnd M M' i) : kOpn M' i = kOpn M i := by
  funext s e
  unfold kOpn
  rw [H 15 (by decide) (by decide) (by decide) (by decide)]
theorem kCan_c (H : zLnd M M' i) : kCan M' i = kCan M i := by
  funext s t h e
  unfold kCan
  rw [kOpn_c H, kLen_c H, kDis_c H]
theorem kNf_c (H : zLnd M M' i) : kNf M' i = kNf M i := by
  unfold kNf
  rw [H 18 (by decide) (by decide) (by decide) (by decide)]
theorem kF_c (H : zLnd M M' i) : kF M' i = kF M i := by
  funext s t h e
  unfold kF
  rw [kCan_c H, kNf_c H, kLen_c H, kDis_c H]
theorem kS_c (H : zLnd M M' i) : kS M' i = kS M i := by
  funext s t h e
  unfold kS
  rw [kCan_c H, kNf_c H, kLen_c H, kDis_c H]
theorem kQ_c (H : zLnd M M' i) : kQ M' i = kQ M i := by
  funext s t h
  unfold kQ
  rw [kCan_c H, kF_c H, kS_c H]
theorem kLo_c (H : zLnd M M' i) : kLo M' i = kLo M i := by
  funext t h
  unfold kLo
  rw [H 18 (by decide) (by decide) (by decide) (by decide), H 19 (by decide) (by decide) (by decide) (by decide)]
theorem kEx_c (H : zLnd M M' i) : kEx M' i = kEx M i := by
  funext s t h
  unfold kEx
  rw [kQ_c H, kF_c H, kS_c H, kLo_c H]
theorem kCo_c (H : zLnd M M' i) : kCo M' i = kCo M i := by
  funext s t h
  unfold kCo
  rw [kEx_c H, H 28 (by decide) (by decide) (by decide) (by decide), H 13 (by decide) (by decide) (by decide) (by decide)]
theorem mLook_s : zSamL M (mLook M i s t h) := by
  intro k j a b c
  unfold mLook mK
  rw [u2_ne (fun q => a q.1), u2_ne (fun q => c q.1), u2_ne (fun q => b q.1)]
end LC
/-- over all pairs -/
def kPs (f : Nat → Nat → Bool) : Nat → Int32 := fun k => zb (f (k / 4) (k % 4))
theorem kPs_at {f : Nat → Nat → Bool} {t h : Nat} (hh : h < 4) : kPs f (4 * t + h) = zb (f t h) := by
  unfold kPs
  rw [show (4 * t + h) / 4 = t by omega, show (4 * t + h) % 4 = h by omega]
theorem sm_s {f : Nat → Int32} {k : Nat} : sm f (k + 1) = sm f k + f k := rfl
section LP
variable {w : zWp} {d s : Nat} {M : Nat → Nat → Nat → Int32} {O : Nat → Int64}
/-- a look, from any state that looks alone have made of M -/
theorem c_lookS {M' : Nat → Nat → Nat → Int32} {i t h : Nat} (S : zSamL M M') (hi : i < 10) (hs : M 1 i 5 = nI s) (h8 : s ≤ 8) (ht : t < 8) (hh : h < 4) :
    ∃ M2, zSamL M M2 ∧ M2 0 0 2 = (kQ M i s t h).1 ∧ M2 0 0 3 = (kQ M i s t h).2.1 ∧ M2 0 0 4 = kEx M i s t h ∧ M2 0 0 5 = kCo M i s t h ∧ zC w mX0_look (d + 3) [vR 0 0, vR 3 i, vI (nI t), vI (nI h)] (zP M' O) zrV (zP M2 O) := by
  have H := S.lnd i
  have hs2 : M' 1 i 5 = nI s := by rw [S 1 i (by decide) (by decide) (by decide)]; exact hs
  refine ⟨mLook M' i s t h, S.tr mLook_s, ?_, ?_, ?_, ?_, c_look hi hs2 h8 ht hh⟩
  · rw [← kQ_c H]; rfl
  · rw [← kQ_c H]; rfl
  · rw [← kEx_c H]; rfl
  · rw [← kCo_c H]; rfl
def kWo (M : Nat → Nat → Nat → Int32) (s : Nat) : Int32 := sm (kPs (fun t h => decide ((kQ M 0 s t h).1 = 0))) 32
theorem c_pairs0 {M' : Nat → Nat → Nat → Int32} (S : zSamL M M') (hs : M 1 0 5 = nI s) (h8 : s ≤ 8) : ∃ M2, zSamL M M2 ∧ zC w mX9_pairsWithoutExit (d + 4) [vR 9 0] (zP M' O) (zrI (kWo M s)) (zP M2 O) := by
  obtain ⟨f, hf⟩ : ∃ f : Nat → Nat → Bool, f = fun t h => decide ((kQ M 0 s t h).1 = 0) := ⟨_, rfl⟩
  unfold kWo
  rw [← hf]
  have H : ∀ M', zSamL M M' → ∃ M2, zSamL M M2 ∧ zG w mX9_pairsWithoutExit (d + 4) 0 4 [vR 9 0, vI (sm (kPs f) (4 * 0)), vI (nI 0), vU] [] (zP M' O) (zrI (sm (kPs f) 32)) (zP M2 O) := by
    refine z_loop (fun t => ∀ M', zSamL M M' → ∃ M2, zSamL M M2 ∧ zG w mX9_pairsWithoutExit (d + 4) 0 4 [vR 9 0, vI (sm (kPs f) (4 * t)), vI (nI t), vU] [] (zP M' O) (zrI (sm (kPs f) 32)) (zP M2 O)) 8 ?_ ?_ 0 (Nat.zero_le _)
    · intro M' S
      refine ⟨M', S, ?_⟩
      refine g_iload_n (n := 5) dX9_pairsWithoutExit_4 rfl rfl ?_
      refine g_bipush (n := 7) dX9_pairsWithoutExit_5 rfl k_bp_8 ?_
      refine g_icmp_ge (n := 10) (t := 60) dX9_pairsWithoutExit_7 rfl (by decide) (fun _ => ?_) (fun q9 => absurd (Int32.le_refl _) q9)
      refine g_iload_n (n := 61) dX9_pairsWithoutExit_60 rfl rfl ?_
      exact g_ireturn dX9_pairsWithoutExit_61 rfl rfl rfl rfl
    · intro t ht ih M' S
      have I : ∀ M', zSamL M M' → ∃ M2, zSamL M M2 ∧ zG w mX9_pairsWithoutExit (d + 4) 0 12 [vR 9 0, vI (sm (kPs f) (4 * t + 0)), vI (nI t), vI (nI 0)] [] (zP M' O) (zrI (sm (kPs f) 32)) (zP M2 O) := by
        refine z_loop (fun h => ∀ M', zSamL M M' → ∃ M2, zSamL M M2 ∧ zG w mX9_pairsWithoutExit (d + 4) 0 12 [vR 9 0, vI (sm (kPs f) (4 * t + h)), vI (nI t), vI (nI h)] [] (zP M' O) (zrI (sm (kPs f) 32)) (zP M2 O)) 4 ?_ ?_ 0 (Nat.zero_le _)
        · intro M' S
          obtain ⟨M2, S2, G⟩ := ih M' S
          refine ⟨M2, S2, ?_⟩
          refine g_iload_n (n := 13) dX9_pairsWithoutExit_12 rfl rfl ?_
          refine g_iconst (n := 14) dX9_pairsWithoutExit_13 rfl k_ic_4 ?_
          refine g_icmp_ge (n := 17) (t := 54) dX9_pairsWithoutExit_14 rfl (by decide) (fun _ => ?_) (fun q9 => absurd (Int32.le_refl _) q9)
          refine g_iinc2 (n := 57) dX9_pairsWithoutExit_54 rfl (by decide) rfl (z_inc1 _) ?_
          refine g_goto (n := 0) (t := 4) dX9_pairsWithoutExit_57 (by decide) ?_
          refine g_drop 3 ?_
          exact G
        · intro h hh ih2 M' S
          obtain ⟨M1, S1, v2, v3, v4, v5, cl⟩ := c_lookS (w := w) (d := d) (O := O) S (by decide : 0 < 10) hs h8 ht hh
          obtain ⟨M2, S2, G⟩ := ih2 M1 S1
          refine ⟨M2, S2, ?_⟩
          rw [← Nat.add_assoc, sm_s, kPs_at hh] at G
          have ef : f t h = decide ((kQ M 0 s t h).1 = 0) := by rw [hf]
          rw [ef, ← v2] at G
          refine g_iload_n (n := 13) dX9_pairsWithoutExit_12 rfl rfl ?_
          refine g_iconst (n := 14) dX9_pairsWithoutExit_13 rfl k_ic_4 ?_
          refine g_icmp_ge (n := 17) (t := 54) dX9_pairsWithoutExit_14 rfl (by decide) (fun q9 => absurd q9 (nI_ge hh (by decide))) (fun _ => ?_)
          refine g_aload_n (n := 18) dX9_pairsWithoutExit_17 rfl rfl ?_
          refine gf_X9_22 (n := 21) dX9_pairsWithoutExit_18 rfl rfl (z_lvP (by first | decide | assumption)) rfl ?_
          refine g_aload_n (n := 22) dX9_pairsWithoutExit_21 rfl rfl ?_
          refine gf_X9_10 (n := 25) dX9_pairsWithoutExit_22 rfl rfl (z_lvP (by first | decide | assumption)) rfl ?_
          refine g_iload_n (n := 26) dX9_pairsWithoutExit_25 rfl rfl ?_
          refine g_iload_n (n := 27) dX9_pairsWithoutExit_26 rfl rfl ?_
          refine g_cVn (n := 30) cl dX9_pairsWithoutExit_27 rfl kw_X9_242 rfl (by decide) (z_lvP (by first | decide | assumption)) (Nat.le_of_ble_eq_true rfl) ⟨Nat.le_refl _, Nat.le_refl _⟩ ?_ rfl
          refine g_iload_n (n := 31) dX9_pairsWithoutExit_30 rfl rfl ?_
          refine g_aload_n (n := 32) dX9_pairsWithoutExit_31 rfl rfl ?_
          refine gf_X9_22 (n := 35) dX9_pairsWithoutExit_32 rfl rfl (z_lvP (by first | decide | assumption)) rfl ?_
          refine gf_X9_254 (n := 38) dX9_pairsWithoutExit_35 rfl rfl (z_lvP (by first | decide | assumption)) ?_
          refine g_if_ne (n := 41) (t := 45) dX9_pairsWithoutExit_38 rfl (by decide) (fun c38 => ?_) (fun c38 => ?_)
          · rw [decide_eq_false (show ¬ M1 0 0 2 = 0 from c38)] at G
            refine g_iconst (n := 46) dX9_pairsWithoutExit_45 rfl k_ic_0 ?_
            refine g_iadd (n := 47) dX9_pairsWithoutExit_46 rfl ?_
            refine g_istore1 (n := 48) dX9_pairsWithoutExit_47 rfl (by decide) rfl ?_
            refine g_iinc3 (n := 51) dX9_pairsWithoutExit_48 rfl (by decide) rfl (z_inc1 _) ?_
            refine g_goto (n := 0) (t := 12) dX9_pairsWithoutExit_51 (by decide) ?_
            exact G
          · rw [decide_eq_true (show M1 0 0 2 = 0 from c38)] at G
            refine g_iconst (n := 42) dX9_pairsWithoutExit_41 rfl k_ic_1 ?_
            refine g_goto (n := 0) (t := 46) dX9_pairsWithoutExit_42 (by decide) ?_
            refine g_iadd (n := 47) dX9_pairsWithoutExit_46 rfl ?_
            refine g_istore1 (n := 48) dX9_pairsWithoutExit_47 rfl (by decide) rfl ?_
            refine g_iinc3 (n := 51) dX9_pairsWithoutExit_48 rfl (by decide) rfl (z_inc1 _) ?_
            refine g_goto (n := 0) (t := 12) dX9_pairsWithoutExit_51 (by decide) ?_
            exact G
      obtain ⟨M2, S2, G⟩ := I M' S
      refine ⟨M2, S2, ?_⟩
      refine g_iload_n (n := 5) dX9_pairsWithoutExit_4 rfl rfl ?_
      refine g_bipush (n := 7) dX9_pairsWithoutExit_5 rfl k_bp_8 ?_
      refine g_icmp_ge (n := 10) (t := 60) dX9_pairsWithoutExit_7 rfl (by decide) (fun q9 => absurd q9 (nI_ge ht (by decide))) (fun _ => ?_)
      refine g_iconst (n := 11) dX9_pairsWithoutExit_10 rfl k_ic_0 ?_
      refine g_istore3 (n := 12) dX9_pairsWithoutExit_11 rfl (by decide) rfl ?_
      exact G
  obtain ⟨M2, S2, G⟩ := H M' S
  refine ⟨M2, S2, ?_⟩
  refine zC_of (cr := 0) (L0 := [vR 9 0, vU, vU, vU]) rfl (by decide) (by decide) rfl (Nat.le_of_ble_eq_true rfl) rfl ?_
  refine g_iconst (n := 1) dX9_pairsWithoutExit_0 rfl k_ic_0 ?_
  refine g_istore1 (n := 2) dX9_pairsWithoutExit_1 rfl (by decide) rfl ?_
  refine g_iconst (n := 3) dX9_pairsWithoutExit_2 rfl k_ic_0 ?_
  refine g_istore2 (n := 4) dX9_pairsWithoutExit_3 rfl (by decide) rfl ?_
  exact G
def kOt (M : Nat → Nat → Nat → Int32) (s : Nat) : Int32 := sm (kPs (fun t h => decide (¬ kEx M 1 s t h = kEx M 0 s t h))) 32
theorem c_pairs1 {M' : Nat → Nat → Nat → Int32} (S : zSamL M M') (hs : M 1 0 5 = nI s) (hs1 : M 1 1 5 = nI s) (h8 : s ≤ 8) : ∃ M2, zSamL M M2 ∧ zC w mX9_pairsOtherOnTrial (d + 4) [vR 9 0] (zP M' O) (zrI (kOt M s)) (zP M2 O) := by
  obtain ⟨f, hf⟩ : ∃ f : Nat → Nat → Bool, f = fun t h => decide (¬ kEx M 1 s t h = kEx M 0 s t h) := ⟨_, rfl⟩
  unfold kOt
  rw [← hf]
  have H : ∀ M', zSamL M M' → ∃ M2, zSamL M M2 ∧ zG w mX9_pairsOtherOnTrial (d + 4) 0 4 [vR 9 0, vI (sm (kPs f) (4 * 0)), vI (nI 0), vU, vU] [] (zP M' O) (zrI (sm (kPs f) 32)) (zP M2 O) := by
    refine z_loop (fun t => ∀ M', zSamL M M' → ∃ M2, zSamL M M2 ∧ zG w mX9_pairsOtherOnTrial (d + 4) 0 4 [vR 9 0, vI (sm (kPs f) (4 * t)), vI (nI t), vU, vU] [] (zP M' O) (zrI (sm (kPs f) 32)) (zP M2 O)) 8 ?_ ?_ 0 (Nat.zero_le _)
    · intro M' S
      refine ⟨M', S, ?_⟩
      refine g_iload_n (n := 5) dX9_pairsOtherOnTrial_4 rfl rfl ?_
      refine g_bipush (n := 7) dX9_pairsOtherOnTrial_5 rfl k_bp_8 ?_
      refine g_icmp_ge (n := 10) (t := 84) dX9_pairsOtherOnTrial_7 rfl (by decide) (fun _ => ?_) (fun q9 => absurd (Int32.le_refl _) q9)
      refine g_iload_n (n := 85) dX9_pairsOtherOnTrial_84 rfl rfl ?_
      exact g_ireturn dX9_pairsOtherOnTrial_85 rfl rfl rfl rfl
    · intro t ht ih M' S
      have I : ∀ M', zSamL M M' → ∃ M2, zSamL M M2 ∧ zG w mX9_pairsOtherOnTrial (d + 4) 0 12 [vR 9 0, vI (sm (kPs f) (4 * t + 0)), vI (nI t), vI (nI 0), vU] [] (zP M' O) (zrI (sm (kPs f) 32)) (zP M2 O) := by
        refine z_loop (fun h => ∀ M', zSamL M M' → ∃ M2, zSamL M M2 ∧ zG w mX9_pairsOtherOnTrial (d + 4) 0 12 [vR 9 0, vI (sm (kPs f) (4 * t + h)), vI (nI t), vI (nI h), vU] [] (zP M' O) (zrI (sm (kPs f) 32)) (zP M2 O)) 4 ?_ ?_ 0 (Nat.zero_le _)
        · intro M' S
          obtain ⟨M2, S2, G⟩ := ih M' S
          refine ⟨M2, S2, ?_⟩
          refine g_iload_n (n := 13) dX9_pairsOtherOnTrial_12 rfl rfl ?_
          refine g_iconst (n := 14) dX9_pairsOtherOnTrial_13 rfl k_ic_4 ?_
          refine g_icmp_ge (n := 17) (t := 78) dX9_pairsOtherOnTrial_14 rfl (by decide) (fun _ => ?_) (fun q9 => absurd (Int32.le_refl _) q9)
          refine g_iinc2 (n := 81) dX9_pairsOtherOnTrial_78 rfl (by decide) rfl (z_inc1 _) ?_
          refine g_goto (n := 0) (t := 4) dX9_pairsOtherOnTrial_81 (by decide) ?_
          refine g_drop 3 ?_
          exact G
        · intro h hh ih2 M' S
          obtain ⟨M0, S0, _, _, u4, _, cl0⟩ := c_lookS (w := w) (d := d) (O := O) S (by decide : 0 < 10) hs h8 ht hh
          obtain ⟨M1, S1, _, _, v4, _, cl1⟩ := c_lookS (w := w) (d := d) (O := O) S0 (by decide : 1 < 10) hs1 h8 ht hh
          obtain ⟨M2, S2, G⟩ := ih2 M1 S1
          refine ⟨M2, S2, ?_⟩
          rw [← Nat.add_assoc, sm_s, kPs_at hh] at G
          have ef : f t h = decide (¬ M1 0 0 4 = M0 0 0 4) := by rw [hf, u4, v4]
          rw [ef] at G
          refine g_iload_n (n := 13) dX9_pairsOtherOnTrial_12 rfl rfl ?_
          refine g_iconst (n := 14) dX9_pairsOtherOnTrial_13 rfl k_ic_4 ?_
          refine g_icmp_ge (n := 17) (t := 78) dX9_pairsOtherOnTrial_14 rfl (by decide) (fun q9 => absurd q9 (nI_ge hh (by decide))) (fun _ => ?_)
          refine g_aload_n (n := 18) dX9_pairsOtherOnTrial_17 rfl rfl ?_
          refine gf_X9_22 (n := 21) dX9_pairsOtherOnTrial_18 rfl rfl (z_lvP (by first | decide | assumption)) rfl ?_
          refine g_aload_n (n := 22) dX9_pairsOtherOnTrial_21 rfl rfl ?_
          refine gf_X9_10 (n := 25) dX9_pairsOtherOnTrial_22 rfl rfl (z_lvP (by first | decide | assumption)) rfl ?_
          refine g_iload_n (n := 26) dX9_pairsOtherOnTrial_25 rfl rfl ?_
          refine g_iload_n (n := 27) dX9_pairsOtherOnTrial_26 rfl rfl ?_
          refine g_cVn (n := 30) cl0 dX9_pairsOtherOnTrial_27 rfl kw_X9_242 rfl (by decide) (z_lvP (by first | decide | assumption)) (Nat.le_of_ble_eq_true rfl) ⟨Nat.le_refl _, Nat.le_refl _⟩ ?_ rfl
          refine g_aload_n (n := 31) dX9_pairsOtherOnTrial_30 rfl rfl ?_
          refine gf_X9_22 (n := 34) dX9_pairsOtherOnTrial_31 rfl rfl (z_lvP (by first | decide | assumption)) rfl ?_
          refine gf_X9_246 (n := 37) dX9_pairsOtherOnTrial_34 rfl rfl (z_lvP (by first | decide | assumption)) ?_
          refine g_istore4 (n := 39) dX9_pairsOtherOnTrial_37 rfl (by decide) rfl ?_
          refine g_aload_n (n := 40) dX9_pairsOtherOnTrial_39 rfl rfl ?_
          refine gf_X9_22 (n := 43) dX9_pairsOtherOnTrial_40 rfl rfl (z_lvP (by first | decide | assumption)) rfl ?_
          refine g_aload_n (n := 44) dX9_pairsOtherOnTrial_43 rfl rfl ?_
          refine gf_X9_16 (n := 47) dX9_pairsOtherOnTrial_44 rfl rfl (z_lvP (by first | decide | assumption)) rfl ?_
          refine g_iload_n (n := 48) dX9_pairsOtherOnTrial_47 rfl rfl ?_
          refine g_iload_n (n := 49) dX9_pairsOtherOnTrial_48 rfl rfl ?_
          refine g_cVn (n := 52) cl1 dX9_pairsOtherOnTrial_49 rfl kw_X9_242 rfl (by decide) (z_lvP (by first | decide | assumption)) (Nat.le_of_ble_eq_true rfl) ⟨Nat.le_refl _, Nat.le_refl _⟩ ?_ rfl
          refine g_iload_n (n := 53) dX9_pairsOtherOnTrial_52 rfl rfl ?_
          refine g_aload_n (n := 54) dX9_pairsOtherOnTrial_53 rfl rfl ?_
          refine gf_X9_22 (n := 57) dX9_pairsOtherOnTrial_54 rfl rfl (z_lvP (by first | decide | assumption)) rfl ?_
          refine gf_X9_246 (n := 60) dX9_pairsOtherOnTrial_57 rfl rfl (z_lvP (by first | decide | assumption)) ?_
          refine g_iload (n := 62) dX9_pairsOtherOnTrial_60 rfl rfl ?_
          refine g_icmp_eq (n := 65) (t := 69) dX9_pairsOtherOnTrial_62 rfl (by decide) (fun c62 => ?_) (fun c62 => ?_)
          · rw [decide_eq_false (fun q => q (show M1 0 0 4 = M0 0 0 4 from c62))] at G
            refine g_iconst (n := 70) dX9_pairsOtherOnTrial_69 rfl k_ic_0 ?_
            refine g_iadd (n := 71) dX9_pairsOtherOnTrial_70 rfl ?_
            refine g_istore1 (n := 72) dX9_pairsOtherOnTrial_71 rfl (by decide) rfl ?_
            refine g_iinc3 (n := 75) dX9_pairsOtherOnTrial_72 rfl (by decide) rfl (z_inc1 _) ?_
            refine g_goto (n := 0) (t := 12) dX9_pairsOtherOnTrial_75 (by decide) ?_
            refine g_drop 4 ?_
            exact G
          · rw [decide_eq_true (show ¬ M1 0 0 4 = M0 0 0 4 from c62)] at G
            refine g_iconst (n := 66) dX9_pairsOtherOnTrial_65 rfl k_ic_1 ?_
            refine g_goto (n := 0) (t := 70) dX9_pairsOtherOnTrial_66 (by decide) ?_
            refine g_iadd (n := 71) dX9_pairsOtherOnTrial_70 rfl ?_
            refine g_istore1 (n := 72) dX9_pairsOtherOnTrial_71 rfl (by decide) rfl ?_
            refine g_iinc3 (n := 75) dX9_pairsOtherOnTrial_72 rfl (by decide) rfl (z_inc1 _) ?_
            refine g_goto (n := 0) (t := 12) dX9_pairsOtherOnTrial_75 (by decide) ?_
            refine g_drop 4 ?_
            exact G
      obtain ⟨M2, S2, G⟩ := I M' S
      refine ⟨M2, S2, ?_⟩
      refine g_iload_n (n := 5) dX9_pairsOtherOnTrial_4 rfl rfl ?_
      refine g_bipush (n := 7) dX9_pairsOtherOnTrial_5 rfl k_bp_8 ?_
      refine g_icmp_ge (n := 10) (t := 84) dX9_pairsOtherOnTrial_7 rfl (by decide) (fun q9 => absurd q9 (nI_ge ht (by decide))) (fun _ => ?_)
      refine g_iconst (n := 11) dX9_pairsOtherOnTrial_10 rfl k_ic_0 ?_
      refine g_istore3 (n := 12) dX9_pairsOtherOnTrial_11 rfl (by decide) rfl ?_
      exact G
  obtain ⟨M2, S2, G⟩ := H M' S
  refine ⟨M2, S2, ?_⟩
  refine zC_of (cr := 0) (L0 := [vR 9 0, vU, vU, vU, vU]) rfl (by decide) (by decide) rfl (Nat.le_of_ble_eq_true rfl) rfl ?_
  refine g_iconst (n := 1) dX9_pairsOtherOnTrial_0 rfl k_ic_0 ?_
  refine g_istore1 (n := 2) dX9_pairsOtherOnTrial_1 rfl (by decide) rfl ?_
  refine g_iconst (n := 3) dX9_pairsOtherOnTrial_2 rfl k_ic_0 ?_
  refine g_istore2 (n := 4) dX9_pairsOtherOnTrial_3 rfl (by decide) rfl ?_
  exact G
end LP

