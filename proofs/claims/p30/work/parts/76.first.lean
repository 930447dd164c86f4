/-! A new object: what the law asks of it first. -/
section FI
variable {w : zWp} {d : Nat} {M : Nat → Nat → Nat → Int32} {O : Nat → Int64}
theorem t_run0 (hn : M 8 0 1 = nI 0) : zC w mX9_run (d + 9) [vR 9 0] (zP M O) (zrX xIA) (zP M O) := by
  have cd := c_tday (w := w) (d := d + 5) (O := O) hn (by decide)
  rw [show zb (tDay (M 31 0) 0) = 0 from rfl] at cd
  refine zC_of (cr := 1) (L0 := [vR 9 0, vU, vU]) rfl (by decide) (by decide) rfl (Nat.le_of_ble_eq_true rfl) rfl ?_
  refine g_aload_n (n := 1) dX9_run_0 rfl rfl ?_
  refine gf_X9_36 (n := 4) dX9_run_1 rfl rfl (z_lvP (by first | decide | assumption)) rfl ?_
  refine g_cVv (n := 7) cd dX9_run_4 rfl kw_X9_170 rfl (by decide) (z_lvP (by first | decide | assumption)) (Nat.le_of_ble_eq_true rfl) ⟨Nat.le_refl _, Nat.le_refl _⟩ ?_ rfl
  refine g_if_ne (n := 10) (t := 20) dX9_run_7 rfl (by decide) (fun q9 => absurd rfl q9) (fun _ => ?_)
  exact g_thr (q := z_exs[0]) (is := 173) (sa := 0) (text := "the buffer does not tell a day") (List.getElem_mem _) rfl rfl (by decide +kernel) (by omega) (Nat.le_of_ble_eq_true rfl) dX9_run_10 dX9_run_13 dX9_run_14 dX9_run_16 dX9_run_19 rfl rfl rfl
theorem law_first {tb : List (Nat × Nat × Nat × Nat)} (hL : w.2.2.2.2.1 ≤ 260) (R : LandR M 0 V0) (m2 : M 2 0 = fun _ => 0) (m8 : M 8 0 = fun _ => 0) (m30 : M 30 0 = fun _ => 0) :
    zE w tb O 95 8 [.inl (.ref w.2.2.2.1), vR 9 0, vU, vU, vU, vU, vU, vU, vU, vU, vU, vU, vU, vU, vU, vU, vU, vU, vU, vU, vU, vU, vU, vU, vU] [] M := by
  have Z := zS_0 R m2 m8 m30
  have c1 := h_undo1 (d := 2) (t_undo (w := w) (d := 2) (M := M) (O := O) (by rw [m2]; rfl))
  have c2 := h_goBack2 (d := 2) (t_goBack2 (w := w) (d := 2) (M := M) (O := O) (p := 0) (by decide) (by rw [m30]))
  have c3 := h_run1 (d := 2) (t_run0 (w := w) (d := 2) (M := M) (O := O) (by rw [m8]; rfl))
  obtain ⟨N1, Z1, c4⟩ := q_dearest (w := w) (d := 4) (O := O) Z
  have c5 := q_hot (w := w) (d := 12) (O := O) Z1
  rw [nv_nI (n := 0) (by decide) (V0_z (p := 171) (by omega) (by omega)), nv_nI (n := 0) (by decide) (V0_z (p := 172) (by omega) (by omega))] at c5
  obtain ⟨N2, Z2, c6⟩ := q_count (w := w) (d := 2) (O := O) Z1 (show 0 < 10 by decide)
  obtain ⟨N3, Z3, c7⟩ := q_count (w := w) (d := 2) (O := O) Z2 (show 8 < 10 by decide)
  rw [V0_roads] at c6
  rw [V0_pairs] at c7
  have c8 := a_turnX (w := w) (d := 2) (O := O) (x := nI 0) Z3 (z_ok_ge (Int32.le_refl _))
  obtain ⟨N4, Z4, c9⟩ := a_hangs (w := w) (d := 0) (O := O) (y := 3) Z3 (by decide)
  obtain ⟨M', G⟩ := law_loop (w := w) (tb := tb) (O := O) hL 34 0 N4 0 0 V0 (by omega) Z4
  refine ⟨M', ?_⟩
  refine g_aload_n (n := 9) dL_law_8 rfl rfl ?_
  refine g_cKHv (c9 := 1) (n := 12) c1 dL_law_9 rfl kz_L_131 rfl (Or.inl (Nat.le_of_ble_eq_true rfl)) (Nat.le_of_ble_eq_true rfl) rfl rfl ?_ rfl
  refine g_ldc (n := 14) dL_law_12 rfl kc_L_17 ?_
  refine g_icmp_ne (n := 17) (t := 96) dL_law_14 rfl (by decide) (fun q9 => absurd rfl q9) (fun _ => ?_)
  refine g_aload_n (n := 18) dL_law_17 rfl rfl ?_
  refine g_iconst (n := 19) dL_law_18 rfl k_ic_0 ?_
  refine g_cKHv (c9 := 1) (n := 22) c2 dL_law_19 rfl kz_L_106 rfl (Or.inl (Nat.le_of_ble_eq_true rfl)) (Nat.le_of_ble_eq_true rfl) rfl rfl ?_ rfl
  refine g_ldc (n := 24) dL_law_22 rfl kc_L_20 ?_
  refine g_icmp_ne (n := 27) (t := 96) dL_law_24 rfl (by decide) (fun q9 => absurd rfl q9) (fun _ => ?_)
  refine g_aload_n (n := 28) dL_law_27 rfl rfl ?_
  refine g_cKHv (c9 := 1) (n := 31) c3 dL_law_28 rfl kz_L_145 rfl (Or.inl (Nat.le_of_ble_eq_true rfl)) (Nat.le_of_ble_eq_true rfl) rfl rfl ?_ rfl
  refine g_ldc (n := 33) dL_law_31 rfl kc_L_17 ?_
  refine g_icmp_ne (n := 36) (t := 96) dL_law_33 rfl (by decide) (fun q9 => absurd rfl q9) (fun _ => ?_)
  refine g_aload_n (n := 37) dL_law_36 rfl rfl ?_
  refine g_cVv (n := 40) c4 dL_law_37 rfl kw_L_137 rfl (by decide) (z_lvP (by first | decide | assumption)) (Nat.le_of_ble_eq_true rfl) ⟨Nat.le_refl _, Nat.le_refl _⟩ ?_ rfl
  refine g_iconst (n := 41) dL_law_40 rfl k_ic_m1 ?_
  refine g_icmp_ne (n := 44) (t := 96) dL_law_41 rfl (by decide) (fun q9 => absurd rfl q9) (fun _ => ?_)
  refine g_aload_n (n := 45) dL_law_44 rfl rfl ?_
  refine g_cVv (n := 48) c5 dL_law_45 rfl kw_L_140 rfl (by decide) (z_lvP (by first | decide | assumption)) (Nat.le_of_ble_eq_true rfl) ⟨Nat.le_refl _, Nat.le_refl _⟩ ?_ rfl
  refine g_dconst1 (n := 49) dL_law_48 rfl ?_
  refine g_dcmp (n := 50) dL_law_49 rfl ?_
  refine g_if_ne (n := 53) (t := 96) dL_law_50 rfl (by decide) (fun q9 => absurd hot_0 q9) (fun _ => ?_)
  refine g_aload_n (n := 54) dL_law_53 rfl rfl ?_
  refine g_iconst (n := 55) dL_law_54 rfl k_ic_0 ?_
  refine g_cKHv (c9 := 0) (n := 58) c6 dL_law_55 rfl kz_L_117 rfl (Or.inl (Nat.le_of_ble_eq_true rfl)) (Nat.le_of_ble_eq_true rfl) rfl rfl ?_ rfl
  refine g_bipush (n := 60) dL_law_58 rfl k_bp_7 ?_
  refine g_icmp_ne (n := 63) (t := 96) dL_law_60 rfl (by decide) (fun q9 => absurd rfl q9) (fun _ => ?_)
  refine g_aload_n (n := 64) dL_law_63 rfl rfl ?_
  refine g_bipush (n := 66) dL_law_64 rfl k_bp_8 ?_
  refine g_cKHv (c9 := 0) (n := 69) c7 dL_law_66 rfl kz_L_117 rfl (Or.inl (Nat.le_of_ble_eq_true rfl)) (Nat.le_of_ble_eq_true rfl) rfl rfl ?_ rfl
  refine g_bipush (n := 71) dL_law_69 rfl k_bp_32 ?_
  refine g_icmp_ne (n := 74) (t := 96) dL_law_71 rfl (by decide) (fun q9 => absurd rfl q9) (fun _ => ?_)
  refine g_aload_n (n := 75) dL_law_74 rfl rfl ?_
  refine g_iconst (n := 76) dL_law_75 rfl k_ic_0 ?_
  refine g_cKHv (c9 := 1) (n := 79) c8 dL_law_76 rfl kz_L_96 rfl (Or.inl (Nat.le_of_ble_eq_true rfl)) (Nat.le_of_ble_eq_true rfl) rfl rfl ?_ rfl
  refine g_ldc (n := 81) dL_law_79 rfl kc_L_17 ?_
  refine g_icmp_ne (n := 84) (t := 96) dL_law_81 rfl (by decide) (fun q9 => absurd rfl q9) (fun _ => ?_)
  refine g_aload_n (n := 85) dL_law_84 rfl rfl ?_
  refine g_iconst (n := 86) dL_law_85 rfl k_ic_3 ?_
  refine g_cKPv (c9 := 1) (n := 89) c9 dL_law_86 rfl kz_L_147 rfl (Or.inl (Nat.le_of_ble_eq_true rfl)) (Nat.le_of_ble_eq_true rfl) rfl rfl ?_ rfl
  refine g_if_eq (n := 92) (t := 96) dL_law_89 rfl (by decide) (fun q9 => absurd q9 (by decide)) (fun _ => ?_)
  refine g_iconst (n := 93) dL_law_92 rfl k_ic_1 ?_
  refine g_goto (n := 0) (t := 97) dL_law_93 (by decide) ?_
  refine g_istore2 (n := 98) dL_law_97 rfl (Nat.le_of_ble_eq_true rfl) rfl ?_
  refine g_iconst (n := 99) dL_law_98 rfl k_ic_0 ?_
  refine g_istore3 (n := 100) dL_law_99 rfl (Nat.le_of_ble_eq_true rfl) rfl ?_
  exact G
theorem law_start (w : zWp) (tb : List (Nat × Nat × Nat × Nat)) (hL : w.2.2.2.2.1 ≤ 260) : ∃ M', zG w (mLw tb) 13 95 0 [.inl (.ref w.2.2.2.1), vU, vU, vU, vU, vU, vU, vU, vU, vU, vU, vU, vU, vU, vU, vU, vU, vU, vU, vU, vU, vU, vU, vU, vU] [] (0, fun _ _ _ => false, fun _ _ _ => 0, fun _ => 0) (zrI (nI 1)) (zP M' (fun _ => 0)) := by
  obtain ⟨N1, M1, nc, lr, ⟨m2, m8, m30⟩, c1⟩ := n_loaf (w := w) (d := 6) (O := fun _ => 0) (Nl := u2 (fun _ _ _ => false) 9 0 (fun _ => true)) (M := u2 (fun _ _ _ => 0) 9 0 (fun _ => 0))
  obtain ⟨M', G⟩ := law_first (w := w) (tb := tb) (O := fun _ => 0) hL (lr 0 (by decide)) m2 m8 m30
  refine ⟨M', ?_⟩
  refine g_new (n := 3) dL_law_0 rfl (k := 9) (i := 0) rfl z_in9 tyX9_ok kn_L_10 ki_9.1 ki_9.2 (by decide) rfl z_df9 (by decide +kernel) (by first | decide | omega) (by first | decide | (dsimp only; omega)) ?_
  refine g_dup (n := 4) dL_law_3 rfl rfl ?_
  refine g_cIn (n := 7) c1 dL_law_4 rfl kw_L_144 (Nat.le_of_ble_eq_true rfl) (by constructor <;> first | decide | (dsimp only; omega)) ?_ rfl
  refine zG_nl (nlA_of nc) ?_
  refine g_astore1 (n := 8) dL_law_7 rfl (Nat.le_of_ble_eq_true rfl) rfl ?_
  exact G
end FI

