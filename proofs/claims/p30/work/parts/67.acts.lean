/-! The law's 'cell' and 'acts'. -/
theorem z_andM (x : Int32) : ∃ v, v < 2 ^ 31 ∧ x &&& nI 2147483647 = nI v := by
  refine ⟨(x &&& nI 2147483647).toBitVec.toNat, ?_, ?_⟩
  · rw [Int32.toBitVec_and, BitVec.toNat_and]
    exact Nat.lt_of_le_of_lt Nat.and_le_right (by decide)
  · refine Int32.toBitVec_inj.mp ?_
    show _ = (Int32.ofNat _).toBitVec
    rw [Int32.toBitVec_ofNat', BitVec.ofNat_toNat, BitVec.setWidth_eq]
theorem neg_lt {n : Nat} (h : n < 2 ^ 31) : (-2000000 : Int32) < nI n := Int32.lt_of_lt_of_le (by decide) (nI_pos' h)
section AT
variable {w : zWp} {d t : Nat} {M N : Nat → Nat → Nat → Int32} {O : Nat → Int64} {s h y i : Nat} {V : Nat → Int32}
theorem a_cell (hL : w.2.2.2.2.1 ≤ 260) (hi : i < 4096) : ∃ y, y < 2 ^ 31 ∧ ∀ M, zCk w mL_cell 0 d [.inl (.ref w.2.2.2.1), vI (nI i)] (zP M O) (zrI (nI y)) (zP M O) := by
  have L0 : z_lo [(.inl (.ref w.2.2.2.1) : zAV), vI (nI i)] ++ List.replicate 0 vU = [.inl (.ref w.2.2.2.1), vI (nI i)] := rfl
  by_cases l : i < w.2.2.2.2.1
  · obtain ⟨v, hv, ev⟩ := z_andM (w.2.2.2.2.2 i)
    refine ⟨v, hv, fun M => ?_⟩
    refine zCk_of (L0 := [.inl (.ref w.2.2.2.1), vI (nI i)]) (by decide) (by decide) rfl (Nat.le_of_ble_eq_true rfl) rfl rfl ?_
    refine g_iload_n (n := 1) dL_cell_0 rfl rfl ?_
    refine g_aload_nX (n := 2) dL_cell_1 rfl rfl ?_
    refine g_slen (n := 3) dL_cell_2 rfl ?_
    refine g_icmp_ge (n := 6) (t := 12) dL_cell_3 rfl (by decide) (fun q9 => absurd q9 (nle l (by omega))) (fun _ => ?_)
    refine g_aload_nX (n := 7) dL_cell_6 rfl rfl ?_
    refine g_iload_n (n := 8) dL_cell_7 rfl rfl ?_
    refine g_sld (n := 9) dL_cell_8 rfl rfl l (by omega) (by omega) ?_
    refine g_goto (n := 0) (t := 24) dL_cell_9 (by decide) ?_
    refine g_ldc (n := 26) dL_cell_24 rfl kc_L_8 ?_
    refine g_iand (n := 27) dL_cell_26 rfl ?_
    rw [ev]
    exact g_ireturn dL_cell_27 rfl rfl rfl rfl
  · have e1 : nI 48661 * nI (i % 4096) + nI 347 = nI (48661 * (i % 4096) + 347) := by rw [pk_mul, nI_add]
    obtain ⟨v, hv, ev⟩ := z_andM (nI (48661 * (i % 4096) + 347))
    refine ⟨v, hv, fun M => ?_⟩
    refine zCk_of (L0 := [.inl (.ref w.2.2.2.1), vI (nI i)]) (by decide) (by decide) rfl (Nat.le_of_ble_eq_true rfl) rfl rfl ?_
    refine g_iload_n (n := 1) dL_cell_0 rfl rfl ?_
    refine g_aload_nX (n := 2) dL_cell_1 rfl rfl ?_
    refine g_slen (n := 3) dL_cell_2 rfl ?_
    refine g_icmp_ge (n := 6) (t := 12) dL_cell_3 rfl (by decide) (fun _ => ?_) (fun q9 => absurd (nI_le (by omega) (by omega)) q9)
    refine g_ldc (n := 14) dL_cell_12 rfl kc_L_7 ?_
    refine g_iload_n (n := 15) dL_cell_14 rfl rfl ?_
    refine g_sipush (n := 18) dL_cell_15 rfl k_sp_4096 ?_
    refine g_iremN (n := 19) dL_cell_18 rfl (show i < 2 ^ 31 by omega) (by decide) (by decide) ?_
    refine g_imul (n := 20) dL_cell_19 rfl ?_
    refine g_sipush (n := 23) dL_cell_20 rfl k_sp_347 ?_
    refine g_iadd (n := 24) dL_cell_23 rfl ?_
    rw [e1]
    refine g_ldc (n := 26) dL_cell_24 rfl kc_L_8 ?_
    refine g_iand (n := 27) dL_cell_26 rfl ?_
    rw [ev]
    exact g_ireturn dL_cell_27 rfl rfl rfl rfl
/-- how many states are saved behind an act -/
def hNx (y h : Nat) (r : Int32) : Nat := if ¬ (-2000000 : Int32) < r ∨ (y % 16 = 9 ∧ y / 16 % 3 = 2) then h else rSv h
theorem hNx_y {r : Int32} (hr : (-2000000 : Int32) < r) (hk : ¬ (y % 16 = 9 ∧ y / 16 % 3 = 2)) : hNx y h r = rSv h := if_neg (fun q => q.elim (fun z => z hr) hk)
theorem hNx_n {r : Int32} (hr : ¬ (-2000000 : Int32) < r) : hNx y h r = h := if_pos (Or.inl hr)
theorem hNx_k {r : Int32} (hk : y % 16 = 9 ∧ y / 16 % 3 = 2) : hNx y h r = h := if_pos (Or.inr hk)
abbrev aRoad (y : Nat) : Nat := (y / 16 + 1 + y / 16 / 8 % 7) % 8
theorem act_send (Z : zS t M s h V) (h9 : t + 1 ≤ 100) (hy : y < 2 ^ 31) (hk : 9 < y % 16) : ∃ M1, zS (t + 1) M1 s (rSv h) (vSnd V s (y / 16 % 8) (y / 16 / 8 % 4)) ∧ zCk w mL_acts 1 (d + 12) [vR 9 0, vI (nI y)] (zP M O) (zrI (vCho (vDi V) V s (y / 16 % 8) (y / 16 / 8 % 4))) (zP M1 O) := by
  obtain ⟨M1, Z1, c⟩ := a_send (w := w) (d := d + 1) (O := O) Z h9 (show y / 16 % 8 < 8 by omega) (show y / 16 / 8 % 4 < 4 by omega)
  refine ⟨M1, Z1, ?_⟩
  refine zCk_of (L0 := [vR 9 0, vI (nI y), vU]) (by decide) (by decide) rfl (Nat.le_of_ble_eq_true rfl) rfl rfl ?_
  have hl : y / 16 < 2 ^ 31 := by omega
  refine g_iload_n (n := 1) dL_acts_0 rfl rfl ?_
  refine g_bipush (n := 3) dL_acts_1 rfl k_bp_16 ?_
  refine g_idivN (n := 4) dL_acts_3 rfl hy (by decide) (by decide) ?_
  refine g_istore2 (n := 5) dL_acts_4 rfl (by decide) rfl ?_
  refine g_iload_n (n := 6) dL_acts_5 rfl rfl ?_
  refine g_bipush (n := 8) dL_acts_6 rfl k_bp_16 ?_
  refine g_iremN (n := 9) dL_acts_8 rfl hy (by decide) (by decide) ?_
  refine g_tabOut (n := 0) (t := 219) dL_acts_9 (Or.inr (by rw [show (nI (y % 16)).toInt = ((y % 16 : Nat) : Int) from Int32.toInt_ofNat_of_lt (by omega)]; omega)) (by decide) ?_
  refine g_aload_n (n := 220) dL_acts_219 rfl rfl ?_
  refine g_iload_n (n := 221) dL_acts_220 rfl rfl ?_
  refine g_bipush (n := 223) dL_acts_221 rfl k_bp_8 ?_
  refine g_iremN (n := 224) dL_acts_223 rfl hl (by decide) (by decide) ?_
  refine g_iload_n (n := 225) dL_acts_224 rfl rfl ?_
  refine g_bipush (n := 227) dL_acts_225 rfl k_bp_8 ?_
  refine g_idivN (n := 228) dL_acts_227 rfl hl (by decide) (by decide) ?_
  refine g_iconst (n := 229) dL_acts_228 rfl k_ic_4 ?_
  refine g_iremN (n := 230) dL_acts_229 rfl (show y / 16 / 8 < 2 ^ 31 by omega) (by decide) (by decide) ?_
  refine g_cKHv (c9 := 0) (n := 233) c dL_acts_230 rfl kz_L_110 rfl (Or.inl (Nat.le_of_ble_eq_true rfl)) (Nat.le_of_ble_eq_true rfl) rfl rfl ?_ rfl
  exact g_ireturn dL_acts_233 rfl rfl rfl rfl
theorem act_road (Z : zS t M s h V) (hy : y < 2 ^ 31) (hk : y % 16 = 5 ∨ y % 16 = 6) : ∃ M1, zS t M1 s (rSv h) (vLay V (y / 16 % 8) (aRoad y) (nI (y / 16 / 64 % 40))) ∧ zCk w mL_acts 1 (d + 12) [vR 9 0, vI (nI y)] (zP M O) (zrI (V (2 + (8 * (y / 16 % 8) + aRoad y)))) (zP M1 O) := by
  obtain ⟨M1, Z1, c⟩ := a_road (w := w) (d := d + 1) (O := O) Z (show y / 16 % 8 < 8 by omega) (show aRoad y < 8 by unfold aRoad; omega) (show y / 16 % 8 ≠ aRoad y by unfold aRoad; omega) (show y / 16 / 64 % 40 ≤ 99 by omega)
  refine ⟨M1, Z1, ?_⟩
  refine zCk_of (L0 := [vR 9 0, vI (nI y), vU]) (by decide) (by decide) rfl (Nat.le_of_ble_eq_true rfl) rfl rfl ?_
  have hl : y / 16 < 2 ^ 31 := by omega
  have K : zG w mL_acts (d + 12) 1 99 [vR 9 0, vI (nI y), vI (nI (y / 16))] [] (zP M O) (zrI (V (2 + (8 * (y / 16 % 8) + aRoad y)))) (zP M1 O) := by
    refine g_aload_n (n := 100) dL_acts_99 rfl rfl ?_
    refine g_iload_n (n := 101) dL_acts_100 rfl rfl ?_
    refine g_bipush (n := 103) dL_acts_101 rfl k_bp_8 ?_
    refine g_iremN (n := 104) dL_acts_103 rfl hl (by decide) (by decide) ?_
    refine g_iload_n (n := 105) dL_acts_104 rfl rfl ?_
    refine g_iconst (n := 106) dL_acts_105 rfl k_ic_1 ?_
    refine g_iaddN (n := 107) dL_acts_106 rfl ?_
    refine g_iload_n (n := 108) dL_acts_107 rfl rfl ?_
    refine g_bipush (n := 110) dL_acts_108 rfl k_bp_8 ?_
    refine g_idivN (n := 111) dL_acts_110 rfl hl (by decide) (by decide) ?_
    refine g_bipush (n := 113) dL_acts_111 rfl k_bp_7 ?_
    refine g_iremN (n := 114) dL_acts_113 rfl (show y / 16 / 8 < 2 ^ 31 by omega) (by decide) (by decide) ?_
    refine g_iaddN (n := 115) dL_acts_114 rfl ?_
    refine g_bipush (n := 117) dL_acts_115 rfl k_bp_8 ?_
    refine g_iremN (n := 118) dL_acts_117 rfl (show y / 16 + 1 + y / 16 / 8 % 7 < 2 ^ 31 by omega) (by decide) (by decide) ?_
    refine g_iload_n (n := 119) dL_acts_118 rfl rfl ?_
    refine g_bipush (n := 121) dL_acts_119 rfl k_bp_64 ?_
    refine g_idivN (n := 122) dL_acts_121 rfl hl (by decide) (by decide) ?_
    refine g_bipush (n := 124) dL_acts_122 rfl k_bp_40 ?_
    refine g_iremN (n := 125) dL_acts_124 rfl (show y / 16 / 64 < 2 ^ 31 by omega) (by decide) (by decide) ?_
    refine g_cKHv (c9 := 0) (n := 128) c dL_acts_125 rfl kz_L_94 rfl (Or.inl (Nat.le_of_ble_eq_true rfl)) (Nat.le_of_ble_eq_true rfl) rfl rfl ?_ rfl
    exact g_ireturn dL_acts_128 rfl rfl rfl rfl
  refine g_iload_n (n := 1) dL_acts_0 rfl rfl ?_
  refine g_bipush (n := 3) dL_acts_1 rfl k_bp_16 ?_
  refine g_idivN (n := 4) dL_acts_3 rfl hy (by decide) (by decide) ?_
  refine g_istore2 (n := 5) dL_acts_4 rfl (by decide) rfl ?_
  refine g_iload_n (n := 6) dL_acts_5 rfl rfl ?_
  refine g_bipush (n := 8) dL_acts_6 rfl k_bp_16 ?_
  refine g_iremN (n := 9) dL_acts_8 rfl hy (by decide) (by decide) ?_
  rcases hk with hk | hk
  · rw [hk]
    refine g_tabIn (n := 0) (t := 99) dL_acts_9 (by decide) (by decide) rfl (by decide) ?_
    exact K
  · rw [hk]
    refine g_tabIn (n := 0) (t := 99) dL_acts_9 (by decide) (by decide) rfl (by decide) ?_
    exact K
theorem act_exit (Z : zS t M s h V) (hy : y < 2 ^ 31) (hk : y % 16 < 2) : ∃ M1 s1 U r, zS t M1 s1 (hNx y h r) U ∧ ((-2000000 : Int32) < r → r = nI s ∧ s < s1 ∧ s1 ≤ 8 ∧ U (69 + 5 * s) = nI 1) ∧ zCk w mL_acts 1 (d + 12) [vR 9 0, vI (nI y)] (zP M O) (zrI r) (zP M1 O) := by
  have hl : y / 16 < 2 ^ 31 := by omega
  have h8 := Z.h8
  have n9 : ¬ (y % 16 = 9 ∧ y / 16 % 3 = 2) := by omega
  by_cases l : s < 8
  · obtain ⟨M1, Z1, c⟩ := a_exit (w := w) (d := d + 1) (O := O) Z (show y / 16 % 8 < 8 by omega) (show y / 16 / 8 % 4 < 4 by omega) l
    refine ⟨M1, s + 1, _, nI s, by rw [hNx_y (neg_lt (by omega)) n9]; exact Z1, fun _ => ⟨rfl, by omega, by omega, ?_⟩, ?_⟩
    · unfold vAdd
      rw [upd_o (by omega), pk_us]
    · refine zCk_of (L0 := [vR 9 0, vI (nI y), vU]) (by decide) (by decide) rfl (Nat.le_of_ble_eq_true rfl) rfl rfl ?_
      have K : zG w mL_acts (d + 12) 1 64 [vR 9 0, vI (nI y), vI (nI (y / 16))] [] (zP M O) (zrI (nI s)) (zP M1 O) := by
        refine g_aload_n (n := 65) dL_acts_64 rfl rfl ?_
        refine g_iload_n (n := 66) dL_acts_65 rfl rfl ?_
        refine g_bipush (n := 68) dL_acts_66 rfl k_bp_8 ?_
        refine g_iremN (n := 69) dL_acts_68 rfl hl (by decide) (by decide) ?_
        refine g_iload_n (n := 70) dL_acts_69 rfl rfl ?_
        refine g_bipush (n := 72) dL_acts_70 rfl k_bp_8 ?_
        refine g_idivN (n := 73) dL_acts_72 rfl hl (by decide) (by decide) ?_
        refine g_iconst (n := 74) dL_acts_73 rfl k_ic_4 ?_
        refine g_iremN (n := 75) dL_acts_74 rfl (show y / 16 / 8 < 2 ^ 31 by omega) (by decide) (by decide) ?_
        refine g_cKHv (c9 := 0) (n := 78) c dL_acts_75 rfl kz_L_86 rfl (Or.inl (Nat.le_of_ble_eq_true rfl)) (Nat.le_of_ble_eq_true rfl) rfl rfl ?_ rfl
        exact g_ireturn dL_acts_78 rfl rfl rfl rfl
      refine g_iload_n (n := 1) dL_acts_0 rfl rfl ?_
      refine g_bipush (n := 3) dL_acts_1 rfl k_bp_16 ?_
      refine g_idivN (n := 4) dL_acts_3 rfl hy (by decide) (by decide) ?_
      refine g_istore2 (n := 5) dL_acts_4 rfl (by decide) rfl ?_
      refine g_iload_n (n := 6) dL_acts_5 rfl rfl ?_
      refine g_bipush (n := 8) dL_acts_6 rfl k_bp_16 ?_
      refine g_iremN (n := 9) dL_acts_8 rfl hy (by decide) (by decide) ?_
      obtain hk | hk : y % 16 = 0 ∨ y % 16 = 1 := by omega
      · rw [hk]
        refine g_tabIn (n := 0) (t := 64) dL_acts_9 (by decide) (by decide) rfl (by decide) ?_
        exact K
      · rw [hk]
        refine g_tabIn (n := 0) (t := 64) dL_acts_9 (by decide) (by decide) rfl (by decide) ?_
        exact K
  · have c := a_exitX (w := w) (d := d + 1) (O := O) Z (show y / 16 % 8 < 8 by omega) (show y / 16 / 8 % 4 < 4 by omega) l
    refine ⟨M, s, V, -2000002, by rw [hNx_n (by decide)]; exact Z, fun q => absurd q (by decide), ?_⟩
    refine zCk_of (L0 := [vR 9 0, vI (nI y), vU]) (by decide) (by decide) rfl (Nat.le_of_ble_eq_true rfl) rfl rfl ?_
    have K : zG w mL_acts (d + 12) 1 64 [vR 9 0, vI (nI y), vI (nI (y / 16))] [] (zP M O) (zrI (-2000002)) (zP M O) := by
      refine g_aload_n (n := 65) dL_acts_64 rfl rfl ?_
      refine g_iload_n (n := 66) dL_acts_65 rfl rfl ?_
      refine g_bipush (n := 68) dL_acts_66 rfl k_bp_8 ?_
      refine g_iremN (n := 69) dL_acts_68 rfl hl (by decide) (by decide) ?_
      refine g_iload_n (n := 70) dL_acts_69 rfl rfl ?_
      refine g_bipush (n := 72) dL_acts_70 rfl k_bp_8 ?_
      refine g_idivN (n := 73) dL_acts_72 rfl hl (by decide) (by decide) ?_
      refine g_iconst (n := 74) dL_acts_73 rfl k_ic_4 ?_
      refine g_iremN (n := 75) dL_acts_74 rfl (show y / 16 / 8 < 2 ^ 31 by omega) (by decide) (by decide) ?_
      refine g_cKHv (c9 := 1) (n := 78) c dL_acts_75 rfl kz_L_86 rfl (Or.inl (Nat.le_of_ble_eq_true rfl)) (Nat.le_of_ble_eq_true rfl) rfl rfl ?_ rfl
      exact g_ireturn dL_acts_78 rfl rfl rfl rfl
    refine g_iload_n (n := 1) dL_acts_0 rfl rfl ?_
    refine g_bipush (n := 3) dL_acts_1 rfl k_bp_16 ?_
    refine g_idivN (n := 4) dL_acts_3 rfl hy (by decide) (by decide) ?_
    refine g_istore2 (n := 5) dL_acts_4 rfl (by decide) rfl ?_
    refine g_iload_n (n := 6) dL_acts_5 rfl rfl ?_
    refine g_bipush (n := 8) dL_acts_6 rfl k_bp_16 ?_
    refine g_iremN (n := 9) dL_acts_8 rfl hy (by decide) (by decide) ?_
    obtain hk | hk : y % 16 = 0 ∨ y % 16 = 1 := by omega
    · rw [hk]
      refine g_tabIn (n := 0) (t := 64) dL_acts_9 (by decide) (by decide) rfl (by decide) ?_
      exact K
    · rw [hk]
      refine g_tabIn (n := 0) (t := 64) dL_acts_9 (by decide) (by decide) rfl (by decide) ?_
      exact K
theorem act_offer (Z : zS t M s h V) (hy : y < 2 ^ 31) (hk : y % 16 = 2 ∨ y % 16 = 3 ∨ y % 16 = 4) : ∃ M1 s1 U r, zS t M1 s1 (hNx y h r) U ∧ zCk w mL_acts 1 (d + 12) [vR 9 0, vI (nI y)] (zP M O) (zrI r) (zP M1 O) := by
  have hl : y / 16 < 2 ^ 31 := by omega
  obtain ⟨M1, U, r, Z1, hr, c⟩ := a_offer (w := w) (d := d + 1) (O := O) Z (show y / 16 % 4 < 4 by omega) (show y / 16 / 4 % 4 < 4 by omega) (show y / 16 / 16 % 6 ≤ 9 by omega)
  refine ⟨M1, s, U, nI r, by rw [hNx_y (neg_lt (by omega)) (by omega)]; exact Z1, ?_⟩
  refine zCk_of (L0 := [vR 9 0, vI (nI y), vU]) (by decide) (by decide) rfl (Nat.le_of_ble_eq_true rfl) rfl rfl ?_
  have K : zG w mL_acts (d + 12) 1 79 [vR 9 0, vI (nI y), vI (nI (y / 16))] [] (zP M O) (zrI (nI r)) (zP M1 O) := by
    refine g_aload_n (n := 80) dL_acts_79 rfl rfl ?_
    refine g_iload_n (n := 81) dL_acts_80 rfl rfl ?_
    refine g_iconst (n := 82) dL_acts_81 rfl k_ic_4 ?_
    refine g_iremN (n := 83) dL_acts_82 rfl hl (by decide) (by decide) ?_
    refine g_iload_n (n := 84) dL_acts_83 rfl rfl ?_
    refine g_iconst (n := 85) dL_acts_84 rfl k_ic_4 ?_
    refine g_idivN (n := 86) dL_acts_85 rfl hl (by decide) (by decide) ?_
    refine g_iconst (n := 87) dL_acts_86 rfl k_ic_4 ?_
    refine g_iremN (n := 88) dL_acts_87 rfl (show y / 16 / 4 < 2 ^ 31 by omega) (by decide) (by decide) ?_
    refine g_iload_n (n := 89) dL_acts_88 rfl rfl ?_
    refine g_bipush (n := 91) dL_acts_89 rfl k_bp_16 ?_
    refine g_idivN (n := 92) dL_acts_91 rfl hl (by decide) (by decide) ?_
    refine g_bipush (n := 94) dL_acts_92 rfl k_bp_6 ?_
    refine g_iremN (n := 95) dL_acts_94 rfl (show y / 16 / 16 < 2 ^ 31 by omega) (by decide) (by decide) ?_
    refine g_cKHv (c9 := 0) (n := 98) c dL_acts_95 rfl kz_L_91 rfl (Or.inl (Nat.le_of_ble_eq_true rfl)) (Nat.le_of_ble_eq_true rfl) rfl rfl ?_ rfl
    exact g_ireturn dL_acts_98 rfl rfl rfl rfl
  refine g_iload_n (n := 1) dL_acts_0 rfl rfl ?_
  refine g_bipush (n := 3) dL_acts_1 rfl k_bp_16 ?_
  refine g_idivN (n := 4) dL_acts_3 rfl hy (by decide) (by decide) ?_
  refine g_istore2 (n := 5) dL_acts_4 rfl (by decide) rfl ?_
  refine g_iload_n (n := 6) dL_acts_5 rfl rfl ?_
  refine g_bipush (n := 8) dL_acts_6 rfl k_bp_16 ?_
  refine g_iremN (n := 9) dL_acts_8 rfl hy (by decide) (by decide) ?_
  rcases hk with hk | hk | hk
  · rw [hk]
    refine g_tabIn (n := 0) (t := 79) dL_acts_9 (by decide) (by decide) rfl (by decide) ?_
    exact K
  · rw [hk]
    refine g_tabIn (n := 0) (t := 79) dL_acts_9 (by decide) (by decide) rfl (by decide) ?_
    exact K
  · rw [hk]
    refine g_tabIn (n := 0) (t := 79) dL_acts_9 (by decide) (by decide) rfl (by decide) ?_
    exact K
theorem act_turn (Z : zS t M s h V) (hy : y < 2 ^ 31) (hk : y % 16 = 7) : ∃ M1 s1 U r, zS t M1 s1 (hNx y h r) U ∧ zCk w mL_acts 1 (d + 12) [vR 9 0, vI (nI y)] (zP M O) (zrI r) (zP M1 O) := by
  have hl : y / 16 < 2 ^ 31 := by omega
  have h8 := Z.h8
  by_cases l : y / 16 % 8 < s
  · obtain ⟨M1, U, r, Z1, hr, c⟩ := a_turn (w := w) (d := d + 1) (O := O) Z l
    refine ⟨M1, s, U, nI r, by rw [hNx_y (neg_lt (by omega)) (by omega)]; exact Z1, ?_⟩
    refine zCk_of (L0 := [vR 9 0, vI (nI y), vU]) (by decide) (by decide) rfl (Nat.le_of_ble_eq_true rfl) rfl rfl ?_
    refine g_iload_n (n := 1) dL_acts_0 rfl rfl ?_
    refine g_bipush (n := 3) dL_acts_1 rfl k_bp_16 ?_
    refine g_idivN (n := 4) dL_acts_3 rfl hy (by decide) (by decide) ?_
    refine g_istore2 (n := 5) dL_acts_4 rfl (by decide) rfl ?_
    refine g_iload_n (n := 6) dL_acts_5 rfl rfl ?_
    refine g_bipush (n := 8) dL_acts_6 rfl k_bp_16 ?_
    refine g_iremN (n := 9) dL_acts_8 rfl hy (by decide) (by decide) ?_
    rw [hk]
    refine g_tabIn (n := 0) (t := 129) dL_acts_9 (by decide) (by decide) rfl (by decide) ?_
    refine g_aload_n (n := 130) dL_acts_129 rfl rfl ?_
    refine g_iload_n (n := 131) dL_acts_130 rfl rfl ?_
    refine g_bipush (n := 133) dL_acts_131 rfl k_bp_8 ?_
    refine g_iremN (n := 134) dL_acts_133 rfl hl (by decide) (by decide) ?_
    refine g_cKHv (c9 := 0) (n := 137) c dL_acts_134 rfl kz_L_96 rfl (Or.inl (Nat.le_of_ble_eq_true rfl)) (Nat.le_of_ble_eq_true rfl) rfl rfl ?_ rfl
    exact g_ireturn dL_acts_137 rfl rfl rfl rfl
  · have c := a_turnX (w := w) (d := d + 1) (O := O) (x := nI (y / 16 % 8)) Z (z_ok_ge (nI_le (by omega) (by omega)))
    refine ⟨M, s, V, -2000001, by rw [hNx_n (by decide)]; exact Z, ?_⟩
    refine zCk_of (L0 := [vR 9 0, vI (nI y), vU]) (by decide) (by decide) rfl (Nat.le_of_ble_eq_true rfl) rfl rfl ?_
    refine g_iload_n (n := 1) dL_acts_0 rfl rfl ?_
    refine g_bipush (n := 3) dL_acts_1 rfl k_bp_16 ?_
    refine g_idivN (n := 4) dL_acts_3 rfl hy (by decide) (by decide) ?_
    refine g_istore2 (n := 5) dL_acts_4 rfl (by decide) rfl ?_
    refine g_iload_n (n := 6) dL_acts_5 rfl rfl ?_
    refine g_bipush (n := 8) dL_acts_6 rfl k_bp_16 ?_
    refine g_iremN (n := 9) dL_acts_8 rfl hy (by decide) (by decide) ?_
    rw [hk]
    refine g_tabIn (n := 0) (t := 129) dL_acts_9 (by decide) (by decide) rfl (by decide) ?_
    refine g_aload_n (n := 130) dL_acts_129 rfl rfl ?_
    refine g_iload_n (n := 131) dL_acts_130 rfl rfl ?_
    refine g_bipush (n := 133) dL_acts_131 rfl k_bp_8 ?_
    refine g_iremN (n := 134) dL_acts_133 rfl hl (by decide) (by decide) ?_
    refine g_cKHv (c9 := 1) (n := 137) c dL_acts_134 rfl kz_L_96 rfl (Or.inl (Nat.le_of_ble_eq_true rfl)) (Nat.le_of_ble_eq_true rfl) rfl rfl ?_ rfl
    exact g_ireturn dL_acts_137 rfl rfl rfl rfl
theorem act_set (Z : zS t M s h V) (hy : y < 2 ^ 31) (hk : y % 16 = 8) : ∃ M1 s1 U r, zS t M1 s1 (hNx y h r) U ∧ zCk w mL_acts 1 (d + 12) [vR 9 0, vI (nI y)] (zP M O) (zrI r) (zP M1 O) := by
  have hl : y / 16 < 2 ^ 31 := by omega
  by_cases l : y / 16 % 2 = 0
  · obtain ⟨M1, U, r, Z1, hr, c⟩ := a_set (w := w) (d := d + 1) (O := O) Z (show y / 16 / 2 % 2 < 2 by omega) (show y / 16 / 4 % 2 < 2 by omega)
    refine ⟨M1, s, U, nI r, by rw [hNx_y (neg_lt (by omega)) (by omega)]; exact Z1, ?_⟩
    refine zCk_of (L0 := [vR 9 0, vI (nI y), vU]) (by decide) (by decide) rfl (Nat.le_of_ble_eq_true rfl) rfl rfl ?_
    refine g_iload_n (n := 1) dL_acts_0 rfl rfl ?_
    refine g_bipush (n := 3) dL_acts_1 rfl k_bp_16 ?_
    refine g_idivN (n := 4) dL_acts_3 rfl hy (by decide) (by decide) ?_
    refine g_istore2 (n := 5) dL_acts_4 rfl (by decide) rfl ?_
    refine g_iload_n (n := 6) dL_acts_5 rfl rfl ?_
    refine g_bipush (n := 8) dL_acts_6 rfl k_bp_16 ?_
    refine g_iremN (n := 9) dL_acts_8 rfl hy (by decide) (by decide) ?_
    rw [hk]
    refine g_tabIn (n := 0) (t := 138) dL_acts_9 (by decide) (by decide) rfl (by decide) ?_
    refine g_iload_n (n := 139) dL_acts_138 rfl rfl ?_
    refine g_iconst (n := 140) dL_acts_139 rfl k_ic_2 ?_
    refine g_iremN (n := 141) dL_acts_140 rfl hl (by decide) (by decide) ?_
    refine g_if_ne (n := 144) (t := 161) dL_acts_141 rfl (by decide) (fun q9 => absurd (congrArg nI l) q9) (fun _ => ?_)
    refine g_aload_n (n := 145) dL_acts_144 rfl rfl ?_
    refine g_iload_n (n := 146) dL_acts_145 rfl rfl ?_
    refine g_iconst (n := 147) dL_acts_146 rfl k_ic_2 ?_
    refine g_idivN (n := 148) dL_acts_147 rfl hl (by decide) (by decide) ?_
    refine g_iconst (n := 149) dL_acts_148 rfl k_ic_2 ?_
    refine g_iremN (n := 150) dL_acts_149 rfl (show y / 16 / 2 < 2 ^ 31 by omega) (by decide) (by decide) ?_
    refine g_iload_n (n := 151) dL_acts_150 rfl rfl ?_
    refine g_iconst (n := 152) dL_acts_151 rfl k_ic_4 ?_
    refine g_idivN (n := 153) dL_acts_152 rfl hl (by decide) (by decide) ?_
    refine g_iconst (n := 154) dL_acts_153 rfl k_ic_2 ?_
    refine g_iremN (n := 155) dL_acts_154 rfl (show y / 16 / 4 < 2 ^ 31 by omega) (by decide) (by decide) ?_
    refine g_cKHv (c9 := 0) (n := 158) c dL_acts_155 rfl kz_L_99 rfl (Or.inl (Nat.le_of_ble_eq_true rfl)) (Nat.le_of_ble_eq_true rfl) rfl rfl ?_ rfl
    refine g_goto (n := 0) (t := 176) dL_acts_158 (by decide) ?_
    exact g_ireturn dL_acts_176 rfl rfl rfl rfl
  · obtain ⟨M1, U, r, Z1, hr, c⟩ := a_bound (w := w) (d := d + 1) (O := O) Z (show y / 16 / 2 % 4 < 4 by omega) (show y / 16 / 8 % 4 ≤ 99 by omega)
    refine ⟨M1, s, U, nI r, by rw [hNx_y (neg_lt (by omega)) (by omega)]; exact Z1, ?_⟩
    refine zCk_of (L0 := [vR 9 0, vI (nI y), vU]) (by decide) (by decide) rfl (Nat.le_of_ble_eq_true rfl) rfl rfl ?_
    refine g_iload_n (n := 1) dL_acts_0 rfl rfl ?_
    refine g_bipush (n := 3) dL_acts_1 rfl k_bp_16 ?_
    refine g_idivN (n := 4) dL_acts_3 rfl hy (by decide) (by decide) ?_
    refine g_istore2 (n := 5) dL_acts_4 rfl (by decide) rfl ?_
    refine g_iload_n (n := 6) dL_acts_5 rfl rfl ?_
    refine g_bipush (n := 8) dL_acts_6 rfl k_bp_16 ?_
    refine g_iremN (n := 9) dL_acts_8 rfl hy (by decide) (by decide) ?_
    rw [hk]
    refine g_tabIn (n := 0) (t := 138) dL_acts_9 (by decide) (by decide) rfl (by decide) ?_
    refine g_iload_n (n := 139) dL_acts_138 rfl rfl ?_
    refine g_iconst (n := 140) dL_acts_139 rfl k_ic_2 ?_
    refine g_iremN (n := 141) dL_acts_140 rfl hl (by decide) (by decide) ?_
    refine g_if_ne (n := 144) (t := 161) dL_acts_141 rfl (by decide) (fun _ => ?_) (fun q9 => absurd q9 (nI_ne0 (by omega) (by omega)))
    refine g_aload_n (n := 162) dL_acts_161 rfl rfl ?_
    refine g_iload_n (n := 163) dL_acts_162 rfl rfl ?_
    refine g_iconst (n := 164) dL_acts_163 rfl k_ic_2 ?_
    refine g_idivN (n := 165) dL_acts_164 rfl hl (by decide) (by decide) ?_
    refine g_iconst (n := 166) dL_acts_165 rfl k_ic_4 ?_
    refine g_iremN (n := 167) dL_acts_166 rfl (show y / 16 / 2 < 2 ^ 31 by omega) (by decide) (by decide) ?_
    refine g_iload_n (n := 168) dL_acts_167 rfl rfl ?_
    refine g_bipush (n := 170) dL_acts_168 rfl k_bp_8 ?_
    refine g_idivN (n := 171) dL_acts_170 rfl hl (by decide) (by decide) ?_
    refine g_iconst (n := 172) dL_acts_171 rfl k_ic_4 ?_
    refine g_iremN (n := 173) dL_acts_172 rfl (show y / 16 / 8 < 2 ^ 31 by omega) (by decide) (by decide) ?_
    refine g_cKHv (c9 := 0) (n := 176) c dL_acts_173 rfl kz_L_101 rfl (Or.inl (Nat.le_of_ble_eq_true rfl)) (Nat.le_of_ble_eq_true rfl) rfl rfl ?_ rfl
    exact g_ireturn dL_acts_176 rfl rfl rfl rfl
theorem act_shelf (Z : zS t M s h V) (hy : y < 2 ^ 31) (hk : y % 16 = 9) : ∃ M1 s1 U r, zS t M1 s1 (hNx y h r) U ∧ zCk w mL_acts 1 (d + 12) [vR 9 0, vI (nI y)] (zP M O) (zrI r) (zP M1 O) := by
  have hl : y / 16 < 2 ^ 31 := by omega
  obtain l | l | l : y / 16 % 3 = 0 ∨ y / 16 % 3 = 1 ∨ y / 16 % 3 = 2 := by omega
  · obtain ⟨M1, U, r, Z1, hr, c⟩ := a_settle (w := w) (d := d + 2) (O := O) Z
    refine ⟨M1, s, U, nI r, by rw [hNx_y (neg_lt (by omega)) (by omega)]; exact Z1, ?_⟩
    refine zCk_of (L0 := [vR 9 0, vI (nI y), vU]) (by decide) (by decide) rfl (Nat.le_of_ble_eq_true rfl) rfl rfl ?_
    refine g_iload_n (n := 1) dL_acts_0 rfl rfl ?_
    refine g_bipush (n := 3) dL_acts_1 rfl k_bp_16 ?_
    refine g_idivN (n := 4) dL_acts_3 rfl hy (by decide) (by decide) ?_
    refine g_istore2 (n := 5) dL_acts_4 rfl (by decide) rfl ?_
    refine g_iload_n (n := 6) dL_acts_5 rfl rfl ?_
    refine g_bipush (n := 8) dL_acts_6 rfl k_bp_16 ?_
    refine g_iremN (n := 9) dL_acts_8 rfl hy (by decide) (by decide) ?_
    rw [hk]
    refine g_tabIn (n := 0) (t := 177) dL_acts_9 (by decide) (by decide) rfl (by decide) ?_
    refine g_iload_n (n := 178) dL_acts_177 rfl rfl ?_
    refine g_iconst (n := 179) dL_acts_178 rfl k_ic_3 ?_
    refine g_iremN (n := 180) dL_acts_179 rfl hl (by decide) (by decide) ?_
    refine g_if_ne (n := 183) (t := 190) dL_acts_180 rfl (by decide) (fun q9 => absurd (congrArg nI l) q9) (fun _ => ?_)
    refine g_aload_n (n := 184) dL_acts_183 rfl rfl ?_
    refine g_cVv (n := 187) c dL_acts_184 rfl kw_L_103 rfl (by decide) (z_lvP (by first | decide | assumption)) (Nat.le_of_ble_eq_true rfl) ⟨Nat.le_refl _, Nat.le_refl _⟩ ?_ rfl
    refine g_goto (n := 0) (t := 218) dL_acts_187 (by decide) ?_
    exact g_ireturn dL_acts_218 rfl rfl rfl rfl
  · rcases a_goBack (w := w) (d := d + 1) (O := O) Z (show y / 16 / 3 % 2 < 2 by omega) with ⟨M1, s1, U, r, Z1, hr, c⟩ | c
    · refine ⟨M1, s1, U, nI r, by rw [hNx_y (neg_lt (by omega)) (by omega)]; exact Z1, ?_⟩
      refine zCk_of (L0 := [vR 9 0, vI (nI y), vU]) (by decide) (by decide) rfl (Nat.le_of_ble_eq_true rfl) rfl rfl ?_
      refine g_iload_n (n := 1) dL_acts_0 rfl rfl ?_
      refine g_bipush (n := 3) dL_acts_1 rfl k_bp_16 ?_
      refine g_idivN (n := 4) dL_acts_3 rfl hy (by decide) (by decide) ?_
      refine g_istore2 (n := 5) dL_acts_4 rfl (by decide) rfl ?_
      refine g_iload_n (n := 6) dL_acts_5 rfl rfl ?_
      refine g_bipush (n := 8) dL_acts_6 rfl k_bp_16 ?_
      refine g_iremN (n := 9) dL_acts_8 rfl hy (by decide) (by decide) ?_
      rw [hk]
      refine g_tabIn (n := 0) (t := 177) dL_acts_9 (by decide) (by decide) rfl (by decide) ?_
      refine g_iload_n (n := 178) dL_acts_177 rfl rfl ?_
      refine g_iconst (n := 179) dL_acts_178 rfl k_ic_3 ?_
      refine g_iremN (n := 180) dL_acts_179 rfl hl (by decide) (by decide) ?_
      refine g_if_ne (n := 183) (t := 190) dL_acts_180 rfl (by decide) (fun _ => ?_) (fun q9 => absurd q9 (nI_ne0 (by omega) (by omega)))
      refine g_iload_n (n := 191) dL_acts_190 rfl rfl ?_
      refine g_iconst (n := 192) dL_acts_191 rfl k_ic_3 ?_
      refine g_iremN (n := 193) dL_acts_192 rfl hl (by decide) (by decide) ?_
      refine g_iconst (n := 194) dL_acts_193 rfl k_ic_1 ?_
      refine g_icmp_ne (n := 197) (t := 209) dL_acts_194 rfl (by decide) (fun q9 => absurd (congrArg nI l) q9) (fun _ => ?_)
      refine g_aload_n (n := 198) dL_acts_197 rfl rfl ?_
      refine g_iload_n (n := 199) dL_acts_198 rfl rfl ?_
      refine g_iconst (n := 200) dL_acts_199 rfl k_ic_3 ?_
      refine g_idivN (n := 201) dL_acts_200 rfl hl (by decide) (by decide) ?_
      refine g_iconst (n := 202) dL_acts_201 rfl k_ic_2 ?_
      refine g_iremN (n := 203) dL_acts_202 rfl (show y / 16 / 3 < 2 ^ 31 by omega) (by decide) (by decide) ?_
      refine g_cKHv (c9 := 0) (n := 206) c dL_acts_203 rfl kz_L_106 rfl (Or.inl (Nat.le_of_ble_eq_true rfl)) (Nat.le_of_ble_eq_true rfl) rfl rfl ?_ rfl
      refine g_goto (n := 0) (t := 218) dL_acts_206 (by decide) ?_
      exact g_ireturn dL_acts_218 rfl rfl rfl rfl
    · refine ⟨M, s, V, -2000002, by rw [hNx_n (by decide)]; exact Z, ?_⟩
      refine zCk_of (L0 := [vR 9 0, vI (nI y), vU]) (by decide) (by decide) rfl (Nat.le_of_ble_eq_true rfl) rfl rfl ?_
      refine g_iload_n (n := 1) dL_acts_0 rfl rfl ?_
      refine g_bipush (n := 3) dL_acts_1 rfl k_bp_16 ?_
      refine g_idivN (n := 4) dL_acts_3 rfl hy (by decide) (by decide) ?_
      refine g_istore2 (n := 5) dL_acts_4 rfl (by decide) rfl ?_
      refine g_iload_n (n := 6) dL_acts_5 rfl rfl ?_
      refine g_bipush (n := 8) dL_acts_6 rfl k_bp_16 ?_
      refine g_iremN (n := 9) dL_acts_8 rfl hy (by decide) (by decide) ?_
      rw [hk]
      refine g_tabIn (n := 0) (t := 177) dL_acts_9 (by decide) (by decide) rfl (by decide) ?_
      refine g_iload_n (n := 178) dL_acts_177 rfl rfl ?_
      refine g_iconst (n := 179) dL_acts_178 rfl k_ic_3 ?_
      refine g_iremN (n := 180) dL_acts_179 rfl hl (by decide) (by decide) ?_
      refine g_if_ne (n := 183) (t := 190) dL_acts_180 rfl (by decide) (fun _ => ?_) (fun q9 => absurd q9 (nI_ne0 (by omega) (by omega)))
      refine g_iload_n (n := 191) dL_acts_190 rfl rfl ?_
      refine g_iconst (n := 192) dL_acts_191 rfl k_ic_3 ?_
      refine g_iremN (n := 193) dL_acts_192 rfl hl (by decide) (by decide) ?_
      refine g_iconst (n := 194) dL_acts_193 rfl k_ic_1 ?_
      refine g_icmp_ne (n := 197) (t := 209) dL_acts_194 rfl (by decide) (fun q9 => absurd (congrArg nI l) q9) (fun _ => ?_)
      refine g_aload_n (n := 198) dL_acts_197 rfl rfl ?_
      refine g_iload_n (n := 199) dL_acts_198 rfl rfl ?_
      refine g_iconst (n := 200) dL_acts_199 rfl k_ic_3 ?_
      refine g_idivN (n := 201) dL_acts_200 rfl hl (by decide) (by decide) ?_
      refine g_iconst (n := 202) dL_acts_201 rfl k_ic_2 ?_
      refine g_iremN (n := 203) dL_acts_202 rfl (show y / 16 / 3 < 2 ^ 31 by omega) (by decide) (by decide) ?_
      refine g_cKHv (c9 := 1) (n := 206) c dL_acts_203 rfl kz_L_106 rfl (Or.inl (Nat.le_of_ble_eq_true rfl)) (Nat.le_of_ble_eq_true rfl) rfl rfl ?_ rfl
      refine g_goto (n := 0) (t := 218) dL_acts_206 (by decide) ?_
      exact g_ireturn dL_acts_218 rfl rfl rfl rfl
  · obtain ⟨M1, r, Z1, hr, c⟩ := a_keep (w := w) (d := d + 1) (O := O) Z (show y / 16 / 3 % 2 < 2 by omega)
    refine ⟨M1, s, V, nI r, by rw [hNx_k ⟨hk, l⟩]; exact Z1, ?_⟩
    refine zCk_of (L0 := [vR 9 0, vI (nI y), vU]) (by decide) (by decide) rfl (Nat.le_of_ble_eq_true rfl) rfl rfl ?_
    refine g_iload_n (n := 1) dL_acts_0 rfl rfl ?_
    refine g_bipush (n := 3) dL_acts_1 rfl k_bp_16 ?_
    refine g_idivN (n := 4) dL_acts_3 rfl hy (by decide) (by decide) ?_
    refine g_istore2 (n := 5) dL_acts_4 rfl (by decide) rfl ?_
    refine g_iload_n (n := 6) dL_acts_5 rfl rfl ?_
    refine g_bipush (n := 8) dL_acts_6 rfl k_bp_16 ?_
    refine g_iremN (n := 9) dL_acts_8 rfl hy (by decide) (by decide) ?_
    rw [hk]
    refine g_tabIn (n := 0) (t := 177) dL_acts_9 (by decide) (by decide) rfl (by decide) ?_
    refine g_iload_n (n := 178) dL_acts_177 rfl rfl ?_
    refine g_iconst (n := 179) dL_acts_178 rfl k_ic_3 ?_
    refine g_iremN (n := 180) dL_acts_179 rfl hl (by decide) (by decide) ?_
    refine g_if_ne (n := 183) (t := 190) dL_acts_180 rfl (by decide) (fun _ => ?_) (fun q9 => absurd q9 (nI_ne0 (by omega) (by omega)))
    refine g_iload_n (n := 191) dL_acts_190 rfl rfl ?_
    refine g_iconst (n := 192) dL_acts_191 rfl k_ic_3 ?_
    refine g_iremN (n := 193) dL_acts_192 rfl hl (by decide) (by decide) ?_
    refine g_iconst (n := 194) dL_acts_193 rfl k_ic_1 ?_
    refine g_icmp_ne (n := 197) (t := 209) dL_acts_194 rfl (by decide) (fun _ => ?_) (fun q9 => absurd q9 (fun q => absurd ((nI_eq (by omega) (by omega)).mp q) (by omega)))
    refine g_aload_n (n := 210) dL_acts_209 rfl rfl ?_
    refine g_iload_n (n := 211) dL_acts_210 rfl rfl ?_
    refine g_iconst (n := 212) dL_acts_211 rfl k_ic_3 ?_
    refine g_idivN (n := 213) dL_acts_212 rfl hl (by decide) (by decide) ?_
    refine g_iconst (n := 214) dL_acts_213 rfl k_ic_2 ?_
    refine g_iremN (n := 215) dL_acts_214 rfl (show y / 16 / 3 < 2 ^ 31 by omega) (by decide) (by decide) ?_
    refine g_cKHv (c9 := 0) (n := 218) c dL_acts_215 rfl kz_L_108 rfl (Or.inl (Nat.le_of_ble_eq_true rfl)) (Nat.le_of_ble_eq_true rfl) rfl rfl ?_ rfl
    exact g_ireturn dL_acts_218 rfl rfl rfl rfl
/-- an act that is neither an exit, nor a road, nor a loaf -/
theorem act_rest (Z : zS t M s h V) (hy : y < 2 ^ 31) (h1 : 2 ≤ y % 16) (h2 : y % 16 ≤ 9) (h3 : y % 16 ≠ 5) (h4 : y % 16 ≠ 6) : ∃ M1 s1 U r, zS t M1 s1 (hNx y h r) U ∧ zCk w mL_acts 1 (d + 12) [vR 9 0, vI (nI y)] (zP M O) (zrI r) (zP M1 O) := by
  obtain q | q | q | q : (y % 16 = 2 ∨ y % 16 = 3 ∨ y % 16 = 4) ∨ y % 16 = 7 ∨ y % 16 = 8 ∨ y % 16 = 9 := by omega
  · exact act_offer Z hy q
  · exact act_turn Z hy q
  · exact act_set Z hy q
  · exact act_shelf Z hy q
end AT

