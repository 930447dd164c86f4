/-! The new reference; what holds at the beginning. -/
def rI (t : Nat) : Nat → Int32 := fun j => if 2 ≤ j then iR t (j - 2) else nI 0
theorem rI_0 : (fun _ => (0 : Int32)) = rI 0 := by
  funext j
  unfold rI
  split
  · rw [← iR_0]
  · rfl
theorem rI_s {t : Nat} (ht : t < 7) : rLay (rI t) 0 t (t + 1) (nI 10) = rI (t + 1) := by
  funext j
  unfold rLay upd
  by_cases e1 : j = 0 + (2 + (8 * (t + 1) + t))
  · rw [if_pos e1]
    unfold rI iR
    rw [if_pos (by omega), if_pos (show iC (t + 1) (j - 2) = true from decide_eq_true (by omega))]
  · rw [if_neg e1]
    by_cases e2 : j = 0 + (2 + (8 * t + (t + 1)))
    · rw [if_pos e2]
      unfold rI iR
      rw [if_pos (by omega), if_pos (show iC (t + 1) (j - 2) = true from decide_eq_true (by omega))]
    · rw [if_neg e2]
      unfold rI
      by_cases h2 : 2 ≤ j
      · rw [if_pos h2, if_pos h2]
        unfold iR
        by_cases c : iC t (j - 2) = true
        · have h := of_decide_eq_true c
          rw [if_pos c, if_pos (show iC (t + 1) (j - 2) = true from decide_eq_true (by omega))]
        · have h : ¬ (j - 2 < 64 ∧ (((j - 2) / 8 = (j - 2) % 8 + 1 ∧ (j - 2) % 8 < t) ∨ ((j - 2) % 8 = (j - 2) / 8 + 1 ∧ (j - 2) / 8 < t))) := fun q => c (decide_eq_true q)
          rw [if_neg c, if_neg (fun q => by have := of_decide_eq_true q; omega)]
      · rw [if_neg h2, if_neg h2]
def rB (t : Nat) : Nat → Int32 := fun j => if 123 ≤ j ∧ j < 123 + t then nI 20 else rI 7 j
theorem rB_s (t : Nat) : upd (rB t) (123 + t) (nI 20) = rB (t + 1) := by
  funext j
  unfold upd rB
  by_cases e : j = 123 + t
  · rw [if_pos e, if_pos (by omega)]
  · rw [if_neg e]
    by_cases h : 123 ≤ j ∧ j < 123 + t
    · rw [if_pos h, if_pos (by omega)]
    · rw [if_neg h, if_neg (by omega)]
theorem rB_V0 : aeq 174 (rB 4) V0 := by
  intro j hj
  unfold rB V0 rI
  by_cases h : 123 ≤ j ∧ j < 127
  · rw [if_pos (by omega), if_neg (by omega), if_pos h]
  · rw [if_neg (by omega)]
    by_cases h2 : 2 ≤ j ∧ j < 66
    · rw [if_pos h2.1, if_pos h2]
    · rw [if_neg h2, if_neg h]
      by_cases h3 : 2 ≤ j
      · rw [if_pos h3]
        unfold iR
        rw [if_neg (fun q => by have := of_decide_eq_true q; omega)]
      · rw [if_neg h3]
section LN4
variable {w : zWp} {d i : Nat} {Nl : Nat → Nat → Nat → Bool} {M : Nat → Nat → Nat → Int32} {O : Nat → Int64} {S : Nat → Int32}
theorem n_lays {a c : Nat} {x : Int32} (n0 : Nl 10 0 0 = false) (ha : a < 8) (hc : c < 8) : zC w mX10_lays d [vR 10 0, vI (nI 0), vI (nI a), vI (nI c), vI x] (203, Nl, u2 M 32 0 S, O) zrV (203, Nl, u2 M 32 0 (rLay S 0 a c x), O) := by
  have i1 : ∀ p q, nI 0 + nI 2 + nI 8 * nI p + nI q = nI (0 + (2 + (8 * p + q))) := fun p q => by
    rw [pk_mul, nI_add, nI_add, nI_add]
    congr 1
    omega
  refine zC_of (cr := 0) (L0 := [vR 10 0, vI (nI 0), vI (nI a), vI (nI c), vI x]) rfl (by decide) (by decide) rfl (Nat.le_of_ble_eq_true rfl) rfl ?_
  refine g_aload_n (n := 1) dX10_lays_0 rfl rfl ?_
  refine gf_X10_7 (n := 4) dX10_lays_1 rfl rfl ⟨(by first | decide | assumption), (by first | decide | (simp only [zx1, zx3, zx5, zx6, zx13, zx14, zx15, zx16, zx17, zx18, zx19, zx22, zx23, zx24, zx25, zx26, zx27, zx28]; omega))⟩ (by first | assumption | rfl) ?_
  refine g_iload_n (n := 5) dX10_lays_4 rfl rfl ?_
  refine g_iconst (n := 6) dX10_lays_5 rfl k_ic_2 ?_
  refine g_iadd (n := 7) dX10_lays_6 rfl ?_
  refine g_bipush (n := 9) dX10_lays_7 rfl k_bp_8 ?_
  refine g_iload_n (n := 10) dX10_lays_9 rfl rfl ?_
  refine g_imul (n := 11) dX10_lays_10 rfl ?_
  refine g_iadd (n := 12) dX10_lays_11 rfl ?_
  refine g_iload_n (n := 13) dX10_lays_12 rfl rfl ?_
  refine g_iadd (n := 14) dX10_lays_13 rfl ?_
  refine g_iload (n := 16) dX10_lays_14 rfl rfl ?_
  rw [i1 a c]
  refine g_iast (n := 17) dX10_lays_16 rfl (by decide) ⟨(by first | decide | assumption), (by first | decide | (simp only [zx1, zx3, zx5, zx6, zx13, zx14, zx15, zx16, zx17, zx18, zx19, zx22, zx23, zx24, zx25, zx26, zx27, zx28]; omega))⟩ rfl (by show _ < 1740; omega) ?_
  rw [u3_u2]
  refine g_aload_n (n := 18) dX10_lays_17 rfl rfl ?_
  refine gf_X10_7 (n := 21) dX10_lays_18 rfl rfl ⟨(by first | decide | assumption), (by first | decide | (simp only [zx1, zx3, zx5, zx6, zx13, zx14, zx15, zx16, zx17, zx18, zx19, zx22, zx23, zx24, zx25, zx26, zx27, zx28]; omega))⟩ (by first | assumption | rfl) ?_
  refine g_iload_n (n := 22) dX10_lays_21 rfl rfl ?_
  refine g_iconst (n := 23) dX10_lays_22 rfl k_ic_2 ?_
  refine g_iadd (n := 24) dX10_lays_23 rfl ?_
  refine g_bipush (n := 26) dX10_lays_24 rfl k_bp_8 ?_
  refine g_iload_n (n := 27) dX10_lays_26 rfl rfl ?_
  refine g_imul (n := 28) dX10_lays_27 rfl ?_
  refine g_iadd (n := 29) dX10_lays_28 rfl ?_
  refine g_iload_n (n := 30) dX10_lays_29 rfl rfl ?_
  refine g_iadd (n := 31) dX10_lays_30 rfl ?_
  refine g_iload (n := 33) dX10_lays_31 rfl rfl ?_
  rw [i1 c a]
  refine g_iast (n := 34) dX10_lays_33 rfl (by decide) ⟨(by first | decide | assumption), (by first | decide | (simp only [zx1, zx3, zx5, zx6, zx13, zx14, zx15, zx16, zx17, zx18, zx19, zx22, zx23, zx24, zx25, zx26, zx27, zx28]; omega))⟩ rfl (by show _ < 1740; omega) ?_
  rw [u3_u2]
  exact g_return dX10_lays_34 rfl rfl rfl
theorem n_model : ∃ N' M', zFr (fun k a => a = 0 ∧ (k = 10 ∨ (32 ≤ k ∧ k ≤ 37))) Nl N' M M' ∧ (∀ j, j = 0 ∨ j = 2 ∨ j = 4 ∨ j = 10 ∨ j = 11 ∨ j = 12 → N' 10 0 j = false) ∧ (M' 10 0 = M 10 0 ∧ M' 33 0 = (fun _ => 0) ∧ M' 32 0 = rB 4) ∧ zC w mX10_init (d + 1) [vR 10 0] (197, Nl, M, O) zrV (203, N', M', O) := by
  obtain ⟨N1, hN1⟩ : ∃ N1, N1 = u3 (u2 (u3 (u2 (u3 (u2 (u3 (u2 (u3 (u2 (u3 (u2 Nl 32 0 (fun _ => true)) 10 0 0 false) 33 0 (fun _ => true)) 10 0 2 false) 34 0 (fun _ => true)) 10 0 4 false) 35 0 (fun _ => true)) 10 0 10 false) 36 0 (fun _ => true)) 10 0 11 false) 37 0 (fun _ => true)) 10 0 12 false := ⟨_, rfl⟩
  obtain ⟨B, hB⟩ : ∃ B, B = u2 (u2 (u2 (u2 (u2 (u2 M 32 0 (fun _ => 0)) 33 0 (fun _ => 0)) 34 0 (fun _ => 0)) 35 0 (fun _ => 0)) 36 0 (fun _ => 0)) 37 0 (fun _ => 0) := ⟨_, rfl⟩
  have nl : ∀ j, j = 0 ∨ j = 2 ∨ j = 4 ∨ j = 10 ∨ j = 11 ∨ j = 12 → N1 10 0 j = false := fun j hj => by
    rw [hN1]
    rcases hj with e | e | e | e | e | e
    all_goals (subst e; simp [u2, u3])
  have n0 : N1 10 0 0 = false := nl 0 (Or.inl rfl)
  have b32 : B = u2 B 32 0 (rI 0) := by
    have b : B 32 0 = fun _ => 0 := by rw [hB]; rfl
    rw [← rI_0, ← b, u2_id]
  refine ⟨N1, u2 B 32 0 (rB 4), ?_, nl, ⟨?_, ?_, u2_self⟩, ?_⟩
  · intro k a q
    rw [hN1, u3_f (by omega), u2_ne (by omega), u3_f (by omega), u2_ne (by omega), u3_f (by omega), u2_ne (by omega), u3_f (by omega), u2_ne (by omega), u3_f (by omega), u2_ne (by omega), u3_f (by omega), u2_ne (by omega)]
    rw [u2_ne (by omega), hB, u2_ne (by omega), u2_ne (by omega), u2_ne (by omega), u2_ne (by omega), u2_ne (by omega), u2_ne (by omega)]
    exact ⟨rfl, rfl⟩
  · rw [hB]; rfl
  · rw [hB]; rfl
  · refine zC_of (cr := 0) (L0 := [vR 10 0, vU]) rfl (by decide) (by decide) rfl (Nat.le_of_ble_eq_true rfl) rfl ?_
    refine g_aload_n (n := 1) dX10_init_0 rfl rfl ?_
    refine g_objI (n := 4) dX10_init_1 rfl ko_X10_1 ko_1 ko_2 (by omega) ?_ rfl
    refine g_aload_n (n := 5) dX10_init_4 rfl rfl ?_
    refine g_sipush (n := 8) dX10_init_5 rfl k_sp_1740 ?_
    refine g_newa (n := 10) dX10_init_8 rfl ka_int rfl (t := 0) rfl (fun _ q => by cases q) rfl (Nat.le_of_ble_eq_true rfl) rfl (len := 1740) (k := 32) (i := 0) rfl (by decide) (fun _ => rfl) (by decide +kernel) (by first | decide | omega) (by first | decide | (dsimp only; omega)) ?_
    refine gw_X10_7 (n := 13) dX10_init_10 rfl rfl rfl ⟨(by first | decide | assumption), (by first | decide | (simp only [zx1, zx3, zx5, zx6, zx13, zx14, zx15, zx16, zx17, zx18, zx19, zx22, zx23, zx24, zx25, zx26, zx27, zx28]; omega))⟩ rfl ?_
    refine g_aload_n (n := 14) dX10_init_13 rfl rfl ?_
    refine g_iconst (n := 15) dX10_init_14 rfl k_ic_2 ?_
    refine g_newa (n := 17) dX10_init_15 rfl ka_boolean rfl (t := 1) rfl (fun _ q => by cases q) rfl (Nat.le_of_ble_eq_true rfl) rfl (len := 2) (k := 33) (i := 0) rfl (by decide) (fun _ => rfl) (by decide +kernel) (by first | decide | omega) (by first | decide | (dsimp only; omega)) ?_
    refine gw_X10_13 (n := 20) dX10_init_17 rfl rfl rfl ⟨(by first | decide | assumption), (by first | decide | (simp only [zx1, zx3, zx5, zx6, zx13, zx14, zx15, zx16, zx17, zx18, zx19, zx22, zx23, zx24, zx25, zx26, zx27, zx28]; omega))⟩ rfl ?_
    refine g_aload_n (n := 21) dX10_init_20 rfl rfl ?_
    refine g_bipush (n := 23) dX10_init_21 rfl k_bp_60 ?_
    refine g_newa (n := 25) dX10_init_23 rfl ka_char rfl (t := 2) rfl (fun _ q => by cases q) rfl (Nat.le_of_ble_eq_true rfl) rfl (len := 60) (k := 34) (i := 0) rfl (by decide) (fun _ => rfl) (by decide +kernel) (by first | decide | omega) (by first | decide | (dsimp only; omega)) ?_
    refine gw_X10_17 (n := 28) dX10_init_25 rfl rfl rfl ⟨(by first | decide | assumption), (by first | decide | (simp only [zx1, zx3, zx5, zx6, zx13, zx14, zx15, zx16, zx17, zx18, zx19, zx22, zx23, zx24, zx25, zx26, zx27, zx28]; omega))⟩ rfl ?_
    refine g_aload_n (n := 29) dX10_init_28 rfl rfl ?_
    refine g_bipush (n := 31) dX10_init_29 rfl k_bp_64 ?_
    refine g_newa (n := 33) dX10_init_31 rfl ka_int rfl (t := 0) rfl (fun _ q => by cases q) rfl (Nat.le_of_ble_eq_true rfl) rfl (len := 64) (k := 35) (i := 0) rfl (by decide) (fun _ => rfl) (by decide +kernel) (by first | decide | omega) (by first | decide | (dsimp only; omega)) ?_
    refine gw_X10_21 (n := 36) dX10_init_33 rfl rfl rfl ⟨(by first | decide | assumption), (by first | decide | (simp only [zx1, zx3, zx5, zx6, zx13, zx14, zx15, zx16, zx17, zx18, zx19, zx22, zx23, zx24, zx25, zx26, zx27, zx28]; omega))⟩ rfl ?_
    refine g_aload_n (n := 37) dX10_init_36 rfl rfl ?_
    refine g_bipush (n := 39) dX10_init_37 rfl k_bp_32 ?_
    refine g_newa (n := 41) dX10_init_39 rfl ka_int rfl (t := 0) rfl (fun _ q => by cases q) rfl (Nat.le_of_ble_eq_true rfl) rfl (len := 32) (k := 36) (i := 0) rfl (by decide) (fun _ => rfl) (by decide +kernel) (by first | decide | omega) (by first | decide | (dsimp only; omega)) ?_
    refine gw_X10_24 (n := 44) dX10_init_41 rfl rfl rfl ⟨(by first | decide | assumption), (by first | decide | (simp only [zx1, zx3, zx5, zx6, zx13, zx14, zx15, zx16, zx17, zx18, zx19, zx22, zx23, zx24, zx25, zx26, zx27, zx28]; omega))⟩ rfl ?_
    refine g_aload_n (n := 45) dX10_init_44 rfl rfl ?_
    refine g_bipush (n := 47) dX10_init_45 rfl k_bp_32 ?_
    refine g_newa (n := 49) dX10_init_47 rfl ka_int rfl (t := 0) rfl (fun _ q => by cases q) rfl (Nat.le_of_ble_eq_true rfl) rfl (len := 32) (k := 37) (i := 0) rfl (by decide) (fun _ => rfl) (by decide +kernel) (by first | decide | omega) (by first | decide | (dsimp only; omega)) ?_
    refine gw_X10_27 (n := 52) dX10_init_49 rfl rfl rfl ⟨(by first | decide | assumption), (by first | decide | (simp only [zx1, zx3, zx5, zx6, zx13, zx14, zx15, zx16, zx17, zx18, zx19, zx22, zx23, zx24, zx25, zx26, zx27, zx28]; omega))⟩ rfl ?_
    rw [← hN1, ← hB]
    refine g_iconst (n := 53) dX10_init_52 rfl k_ic_0 ?_
    refine g_istore1 (n := 54) dX10_init_53 rfl (by decide) rfl ?_
    suffices H : zG w mX10_init (d + 1) 0 54 [vR 10 0, vI (nI 0)] [] (203, N1, u2 B 32 0 (rI 0), O) zrV (203, N1, u2 B 32 0 (rB 4), O) by
      rw [← b32] at H
      exact H
    refine z_loop (fun t => zG w mX10_init (d + 1) 0 54 [vR 10 0, vI (nI t)] [] (203, N1, u2 B 32 0 (rI t), O) zrV (203, N1, u2 B 32 0 (rB 4), O)) 7 ?_ ?_ 0 (Nat.zero_le _)
    · have e0 : rI 7 = rB 0 := by
        funext j
        unfold rB
        rw [if_neg (by omega)]
      refine g_iload_n (n := 55) dX10_init_54 rfl rfl ?_
      refine g_iconst (n := 56) dX10_init_55 rfl k_ic_1 ?_
      refine g_iadd (n := 57) dX10_init_56 rfl ?_
      refine g_bipush (n := 59) dX10_init_57 rfl k_bp_8 ?_
      refine g_icmp_ge (n := 62) (t := 79) dX10_init_59 rfl (by decide) (fun _ => ?_) (fun q9 => absurd (by decide) q9)
      refine g_iconst (n := 80) dX10_init_79 rfl k_ic_0 ?_
      refine g_istore1 (n := 81) dX10_init_80 rfl (by decide) rfl ?_
      rw [e0]
      refine z_loop (fun t => zG w mX10_init (d + 1) 0 81 [vR 10 0, vI (nI t)] [] (203, N1, u2 B 32 0 (rB t), O) zrV (203, N1, u2 B 32 0 (rB 4), O)) 4 ?_ ?_ 0 (Nat.zero_le _)
      · refine g_iload_n (n := 82) dX10_init_81 rfl rfl ?_
        refine g_iconst (n := 83) dX10_init_82 rfl k_ic_4 ?_
        refine g_icmp_ge (n := 86) (t := 103) dX10_init_83 rfl (by decide) (fun _ => ?_) (fun q9 => absurd (Int32.le_refl _) q9)
        exact g_return dX10_init_103 rfl rfl rfl
      · intro t ht ih
        rw [← rB_s t] at ih
        refine g_iload_n (n := 82) dX10_init_81 rfl rfl ?_
        refine g_iconst (n := 83) dX10_init_82 rfl k_ic_4 ?_
        refine g_icmp_ge (n := 86) (t := 103) dX10_init_83 rfl (by decide) (fun q9 => absurd q9 (nI_ge ht (by decide))) (fun _ => ?_)
        refine g_aload_n (n := 87) dX10_init_86 rfl rfl ?_
        refine gf_X10_7 (n := 90) dX10_init_87 rfl rfl ⟨(by first | decide | assumption), (by first | decide | (simp only [zx1, zx3, zx5, zx6, zx13, zx14, zx15, zx16, zx17, zx18, zx19, zx22, zx23, zx24, zx25, zx26, zx27, zx28]; omega))⟩ (by first | assumption | rfl) ?_
        refine g_bipush (n := 92) dX10_init_90 rfl k_bp_123 ?_
        refine g_iload_n (n := 93) dX10_init_92 rfl rfl ?_
        refine g_iadd (n := 94) dX10_init_93 rfl ?_
        rw [nI_add]
        refine g_bipush (n := 96) dX10_init_94 rfl k_bp_20 ?_
        refine g_iast (n := 97) dX10_init_96 rfl (by decide) ⟨(by first | decide | assumption), (by first | decide | (simp only [zx1, zx3, zx5, zx6, zx13, zx14, zx15, zx16, zx17, zx18, zx19, zx22, zx23, zx24, zx25, zx26, zx27, zx28]; omega))⟩ rfl (by show _ < 1740; omega) ?_
        rw [u3_u2]
        refine g_iinc1 (n := 100) dX10_init_97 rfl (by decide) rfl (z_inc1 _) ?_
        refine g_goto (n := 0) (t := 81) dX10_init_100 (by decide) ?_
        exact ih
    · intro t ht ih
      rw [← rI_s ht] at ih
      have h59 : ¬ nI 8 ≤ nI t + nI 1 := by
        rw [nI_add]
        exact nI_ge (by omega) (by decide)
      refine g_iload_n (n := 55) dX10_init_54 rfl rfl ?_
      refine g_iconst (n := 56) dX10_init_55 rfl k_ic_1 ?_
      refine g_iadd (n := 57) dX10_init_56 rfl ?_
      refine g_bipush (n := 59) dX10_init_57 rfl k_bp_8 ?_
      refine g_icmp_ge (n := 62) (t := 79) dX10_init_59 rfl (by decide) (fun q9 => absurd q9 h59) (fun _ => ?_)
      refine g_aload_n (n := 63) dX10_init_62 rfl rfl ?_
      refine g_iconst (n := 64) dX10_init_63 rfl k_ic_0 ?_
      refine g_iload_n (n := 65) dX10_init_64 rfl rfl ?_
      refine g_iload_n (n := 66) dX10_init_65 rfl rfl ?_
      refine g_iconst (n := 67) dX10_init_66 rfl k_ic_1 ?_
      refine g_iadd (n := 68) dX10_init_67 rfl ?_
      rw [nI_add]
      refine g_bipush (n := 70) dX10_init_68 rfl k_bp_10 ?_
      refine g_cVn (n := 73) (n_lays n0 (by omega) (by omega)) dX10_init_70 rfl kw_X10_30 rfl (by decide) (show z_live 203 10 0 from ⟨by decide, by decide⟩) (Nat.le_of_ble_eq_true rfl) (by constructor <;> first | decide | (dsimp only; omega)) ?_ rfl
      refine g_iinc1 (n := 76) dX10_init_73 rfl (by decide) rfl (z_inc1 _) ?_
      refine g_goto (n := 0) (t := 54) dX10_init_76 (by decide) ?_
      exact ih
end LN4
theorem WFV_V0 : WFV V0 := by
  have z : ∀ p, (p < 2 ∨ 66 ≤ p) → (p < 123 ∨ 127 ≤ p) → V0 p = nI 0 := fun p a b => by
    unfold V0
    rw [if_neg (by omega), if_neg (by omega)]
  refine ⟨fun j hj => Or.inl (z j (by omega) (by omega)), fun j hj => ?_, fun a b ha hb => ?_, fun a ha => ?_, ⟨0, by decide, z 66 (by decide) (by decide), fun e he => absurd he (Nat.not_lt_zero _), fun e _ he => ⟨z _ (by omega) (by omega), z _ (by omega) (by omega)⟩⟩, fun j hj => ⟨0, by decide, z _ (by omega) (by omega)⟩, ⟨0, 0, by decide, by decide, z 171 (by decide) (by decide), z 172 (by decide) (by decide)⟩⟩
  · rw [V0_r hj]
    unfold iR
    split
    · exact ⟨10, by decide, rfl⟩
    · exact ⟨0, by decide, rfl⟩
  · rw [V0_r (by omega), V0_r (by omega)]
    unfold iR
    have e : iC 7 (8 * a + b) = iC 7 (8 * b + a) := by
      unfold iC
      rw [decide_eq_decide]
      omega
    rw [e]
  · rw [V0_r (by omega)]
    unfold iR
    rw [if_neg (fun q => by have := of_decide_eq_true q; omega)]
theorem WFP_V0 : WFP V0 := by
  have z : ∀ p, (p < 2 ∨ 66 ≤ p) → (p < 123 ∨ 127 ≤ p) → V0 p = nI 0 := fun p a b => by
    unfold V0
    rw [if_neg (by omega), if_neg (by omega)]
  exact ⟨0, by decide, z 171 (by decide) (by decide), fun j hj => ⟨0, Nat.le_refl _, z _ (by omega) (by omega)⟩⟩
/-- what holds before the first call -/
theorem zInv_0 {M : Nat → Nat → Nat → Int32} (R : LandR M 0 V0) (m2 : M 2 0 = fun _ => 0) (m8 : M 8 0 = fun _ => 0) (m30 : M 30 0 = fun _ => 0) (m10 : M 10 0 = fun _ => 0) (m33 : M 33 0 = fun _ => 0) (m32 : M 32 0 = rB 4) : zInv M := by
  refine ⟨0, 0, 0, 0, fun _ => 0, fun _ => false, ⟨⟨?_, by decide, by rw [m2]; rfl, by decide, by rw [m2]; rfl, by decide, by rw [m8]; rfl, by decide⟩, by rw [m10]; rfl, ⟨⟨by rw [m8]; rfl, by decide, fun j hj => absurd hj (Nat.not_lt_zero _)⟩, ⟨by rw [m10]; rfl, by decide, fun j hj => absurd hj (Nat.not_lt_zero _)⟩⟩, fun p hp => ⟨by rw [m30]; rfl, by rw [m33]; rfl⟩, ?_, fun j hj => absurd hj (Nat.not_lt_zero _), fun p _ hk => by cases hk⟩⟩
  · rw [R.2.2.1]
    unfold V0
    rw [if_neg (by decide), if_neg (by decide)]
  · refine gR_of R (fun j hj => ?_) WFV_V0 WFP_V0
    show M 32 0 (0 + j) = V0 j
    rw [m32, Nat.zero_add]
    exact rB_V0 j hj
/-! places that are no longer null -/
def nlA (N : Nat → Nat → Nat → Bool) : Prop := (∀ k i, k ≤ 10 → i < z_cnt k → ∀ j q, (z_ft k)[j]? = some (some q) → N k i j = false) ∧ (∀ i, i < 2 → ∀ j, j < z_ln 29 i → N 29 i j = false)
theorem z_flds_eq {w : zWp} {k i : Nat} {nl nl' : Nat → Bool} {m : Nat → Int32} (h : ∀ j q, (z_ft k)[j]? = some (some q) → nl j = nl' j) : z_flds w k i nl m = z_flds w k i nl' m := by
  unfold z_flds
  refine List.ext_getElem? fun j => ?_
  rw [List.getElem?_mapIdx, List.getElem?_mapIdx]
  cases hf : (z_ft k)[j]? with
  | none => rfl
  | some f =>
    cases f with
    | none => rfl
    | some q =>
      show some (z_fv w i (some q) (nl j) (m j)) = some (z_fv w i (some q) (nl' j) (m j))
      rw [h j q hf]
theorem arrV_eq {c : ClassId} {n : Nat} {f g : Nat → Value} (h : ∀ j, j < n → f j = g j) : arrV c n f = arrV c n g := by
  unfold arrV
  have e : (fun j : Fin n => f j.val) = (fun j : Fin n => g j.val) := funext fun j => h j.val j.isLt
  rw [e]
theorem z_hp_nl {w : zWp} {N : Nat → Nat → Nat → Bool} {M : Nat → Nat → Nat → Int32} {O : Nat → Int64} {H : Heap} (h : nlA N) (hp : z_hp w (204, N, M, O) H) : z_hp w (zP M O) H := by
  refine ⟨fun k q hq => ?_, hp.2.1, hp.2.2⟩
  have hk : ∃ r, r < 204 ∧ k = r ∧ q = z_ent w (zP M O) r := by
    unfold z_ws at hq
    rw [List.getElem?_map] at hq
    cases hr : (List.range (zP M O).1)[k]? with
    | none => rw [hr] at hq; cases hq
    | some r =>
      rw [hr] at hq
      obtain ⟨h1, h2⟩ := List.getElem?_eq_some_iff.mp hr
      rw [List.getElem_range] at h2
      rw [List.length_range] at h1
      cases hq
      exact ⟨r, by rw [← h2]; exact h1, h2, rfl⟩
  obtain ⟨r, hr, rfl, rfl⟩ := hk
  have h0 : (z_ws w (204, N, M, O))[k]? = some (z_ent w (204, N, M, O) k) := by
    unfold z_ws
    rw [List.getElem?_map, List.getElem?_range hr]
    rfl
  have hv := hp.1 k _ h0
  obtain ⟨b1, b2, b3⟩ := z_bwd k hr
  obtain ⟨kk, hkk⟩ : ∃ kk, kk = (z_LF k).1 := ⟨_, rfl⟩
  obtain ⟨ii, hii⟩ : ∃ ii, ii = (z_LF k).2 := ⟨_, rfl⟩
  unfold z_ent at hv ⊢
  rw [← hkk, ← hii] at hv b2 ⊢
  dsimp only at hv ⊢
  by_cases c10 : kk ≤ 10
  · rw [z_cel_obj c10] at hv ⊢
    rw [z_flds_eq (nl' := N kk ii) (fun j q hf => (h.1 kk ii c10 b2 j q hf).symm)]
    exact hv
  · by_cases c29 : kk = 29
    · rw [c29] at hv b2 ⊢
      rw [z_cel_lan] at hv ⊢
      have ei : arrV (w.2.1 3) (z_ln 29 ii) (fun j => va_rf (if N 29 ii j then none else some (z_adr w 3 (z_landOf ii j)))) = arrV (w.2.1 3) (z_ln 29 ii) (fun j => va_rf (if false then none else some (z_adr w 3 (z_landOf ii j)))) := arrV_eq (fun j hj => by rw [h.2 ii b2 j hj])
      show H[_]? = some (arrV (w.2.1 3) (z_ln 29 ii) (fun j => va_rf (if false then none else some (z_adr w 3 (z_landOf ii j)))))
      rw [← ei]
      exact hv
    · have e : z_cel w kk ii (fun _ => false) (M kk ii) O = z_cel w kk ii (N kk ii) (M kk ii) O := by
        unfold z_cel
        rw [if_neg c10, if_neg c10, if_neg c29, if_neg c29]
      rw [e]
      exact hv
theorem zG_nl {w : zWp} {f : zMth} {d cr pc : Nat} {lv stk : List zAV} {N : Nat → Nat → Nat → Bool} {M : Nat → Nat → Nat → Int32} {O : Nat → Int64} {r : zRes} {σ' : zSt} (h : nlA N) (G : zG w f d cr pc lv stk (zP M O) r σ') : zG w f d cr pc lv stk (204, N, M, O) r σ' :=
  fun p l e R s m args below meth c mc ms H locs cells slots ls X hl hP hS hB => G p l e R s m args below meth c mc ms H locs cells slots ls X hl (z_hp_nl h hP) hS hB

