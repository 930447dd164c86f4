/-! Roads: distances measured, a road laid. -/
section
variable {w : zWp} {f : zMth} {d cr pc n : Nat} {lv stk : List zAV} {σ : zSt} {r : zRes} {σ' : zSt}
/-- what a local holds is forgotten -/
theorem g_drop (k : Nat) (kk : zG w f d cr pc (lv.set k vU) stk σ r σ') : zG w f d cr pc lv stk σ r σ' := by
  intro p l e R s m args below meth c mc ms H locs cells slots ls X hl hP hS hB
  refine kk p l e R s m args below meth c mc ms H locs cells slots ls X ⟨hl.1, hl.2.1, fun q hq => hl.2.2 q ?_⟩ hP hS hB
  obtain ⟨j, u, h1, h2, h3⟩ := (z_kn_mem _ _ _).mp hq
  refine (z_kn_mem _ _ _).mpr ⟨j, u, h1, ?_, h3⟩
  rw [List.getElem?_set] at h2
  by_cases hj : k = j
  · subst hj
    rw [if_pos rfl] at h2
    split at h2
    · cases h2
      cases h3
    · cases h2
  · rw [if_neg hj] at h2
    exact h2
end
theorem u3_u2 (M : Nat → Nat → Nat → Int32) (k i t : Nat) (R : Nat → Int32) (v : Int32) : u3 (u2 M k i R) k i t v = u2 M k i (upd R t v) := by
  funext a b c
  unfold u3 u2 upd
  by_cases h : a = k ∧ b = i
  · obtain ⟨rfl, rfl⟩ := h
    by_cases hc : c = t
    · rw [if_pos ⟨rfl, rfl, hc⟩, if_pos ⟨rfl, rfl⟩, if_pos hc]
    · rw [if_neg (fun q => hc q.2.2), if_pos ⟨rfl, rfl⟩, if_pos ⟨rfl, rfl⟩, if_neg hc]
  · rw [if_neg (fun q => h ⟨q.1, q.2.1⟩), if_neg h, if_neg h]
theorem u2_u2 {α : Type} (f : Nat → Nat → α) (k i : Nat) (v v2 : α) : u2 (u2 f k i v) k i v2 = u2 f k i v2 := by
  funext a b
  unfold u2
  by_cases h : a = k ∧ b = i
  · rw [if_pos h, if_pos h]
  · rw [if_neg h, if_neg h, if_neg h]
/-- the first t of F, behind them g -/
def xfl (F g : Nat → Int32) (t : Nat) : Nat → Int32 := fun j => if j < t then F j else g j
theorem xfl_0 (F g : Nat → Int32) : xfl F g 0 = g := by
  funext j
  unfold xfl
  rw [if_neg (Nat.not_lt_zero j)]
theorem xfl_s (F g : Nat → Int32) (t : Nat) {v : Int32} (hv : v = F t) : upd (xfl F g t) t v = xfl F g (t + 1) := by
  subst hv
  funext j
  unfold upd xfl
  by_cases h : j = t
  · rw [if_pos h, if_pos (by omega), h]
  · rw [if_neg h]
    by_cases h2 : j < t
    · rw [if_pos h2, if_pos (by omega)]
    · rw [if_neg h2, if_neg (by omega)]
section L4
variable {w : zWp} {d i : Nat} {nn : Nat} {Nl : Nat → Nat → Nat → Bool} {M : Nat → Nat → Nat → Int32} {O : Nat → Int64}
theorem c_rallow (h6 : z_live nn 6 i) (h27 : z_live nn 27 i) (h28 : z_live nn 28 i) (n0 : Nl 6 i 0 = false) (n1 : Nl 6 i 1 = false) (hc : ∀ j, j < 64 → 0 ≤ M 27 i j) : zC w mX6_allowRoadsAlone d [vR 6 i] (nn, Nl, M, O) zrV (nn, Nl, u2 M 28 i (xfl (fwI (M 27 i)) (M 28 i) 64), O) := by
  refine zC_of (cr := 0) (L0 := [vR 6 i, vU, vU, vU]) rfl (by decide) (by decide) rfl (Nat.le_of_ble_eq_true rfl) rfl ?_
  refine g_iconst (n := 1) dX6_allowRoadsAlone_0 rfl k_ic_0 ?_
  refine g_istore1 (n := 2) dX6_allowRoadsAlone_1 rfl (by decide) rfl ?_
  suffices h : zG w mX6_allowRoadsAlone d 0 2 [vR 6 i, vI (nI 0), vU, vU] [] (nn, Nl, u2 M 28 i (xfl (fwI (M 27 i)) (M 28 i) (8 * 0)), O) zrV (nn, Nl, u2 M 28 i (xfl (fwI (M 27 i)) (M 28 i) 64), O) by
    rw [Nat.mul_zero, xfl_0, u2_id] at h
    exact h
  refine z_loop (fun a => zG w mX6_allowRoadsAlone d 0 2 [vR 6 i, vI (nI a), vU, vU] [] (nn, Nl, u2 M 28 i (xfl (fwI (M 27 i)) (M 28 i) (8 * a)), O) zrV (nn, Nl, u2 M 28 i (xfl (fwI (M 27 i)) (M 28 i) 64), O)) 8 ?_ ?_ 0 (Nat.zero_le _)
  · refine g_iload_n (n := 3) dX6_allowRoadsAlone_2 rfl rfl ?_
    refine g_bipush (n := 5) dX6_allowRoadsAlone_3 rfl k_bp_8 ?_
    refine g_icmp_ge (n := 8) (t := 70) dX6_allowRoadsAlone_5 rfl (by decide) (fun _ => ?_) (fun q9 => absurd (Int32.le_refl _) q9)
    exact g_return dX6_allowRoadsAlone_70 rfl rfl rfl
  · intro a ha ih
    refine g_iload_n (n := 3) dX6_allowRoadsAlone_2 rfl rfl ?_
    refine g_bipush (n := 5) dX6_allowRoadsAlone_3 rfl k_bp_8 ?_
    refine g_icmp_ge (n := 8) (t := 70) dX6_allowRoadsAlone_5 rfl (by decide) (fun q9 => absurd q9 (nI_ge ha (by decide))) (fun _ => ?_)
    refine g_iconst (n := 9) dX6_allowRoadsAlone_8 rfl k_ic_0 ?_
    refine g_istore2 (n := 10) dX6_allowRoadsAlone_9 rfl (by decide) rfl ?_
    refine z_loop (fun b => zG w mX6_allowRoadsAlone d 0 10 [vR 6 i, vI (nI a), vI (nI b), vU] [] (nn, Nl, u2 M 28 i (xfl (fwI (M 27 i)) (M 28 i) (8 * a + b)), O) zrV (nn, Nl, u2 M 28 i (xfl (fwI (M 27 i)) (M 28 i) 64), O)) 8 ?_ ?_ 0 (Nat.zero_le _)
    · refine g_iload_n (n := 11) dX6_allowRoadsAlone_10 rfl rfl ?_
      refine g_bipush (n := 13) dX6_allowRoadsAlone_11 rfl k_bp_8 ?_
      refine g_icmp_ge (n := 16) (t := 64) dX6_allowRoadsAlone_13 rfl (by decide) (fun _ => ?_) (fun q9 => absurd (Int32.le_refl _) q9)
      refine g_iinc1 (n := 67) dX6_allowRoadsAlone_64 rfl (by decide) rfl (z_inc1 _) ?_
      refine g_goto (n := 0) (t := 2) dX6_allowRoadsAlone_67 (by decide) ?_
      refine g_drop 2 ?_
      exact ih
    · intro b hb ih2
      have fin : ∀ v : Int32, v = fwI (M 27 i) (8 * a + b) → zG w mX6_allowRoadsAlone d 0 57 [vR 6 i, vI (nI a), vI (nI b), vI (M 27 i (8 * a + b))] [vI v, vI (nI a * nI 8 + nI b), vR 28 i] (nn, Nl, u2 M 28 i (xfl (fwI (M 27 i)) (M 28 i) (8 * a + b)), O) zrV (nn, Nl, u2 M 28 i (xfl (fwI (M 27 i)) (M 28 i) 64), O) := by
        intro v hv
        refine g_iast (a := (8 * a + b)) (n := 58) dX6_allowRoadsAlone_57 rfl (by decide) (by assumption) (by rw [pk_mul, nI_add, Nat.mul_comm]) (by show _ < 64; first | assumption | omega) ?_
        refine g_iinc2 (n := 61) dX6_allowRoadsAlone_58 rfl (by decide) rfl (z_inc1 _) ?_
        refine g_goto (n := 0) (t := 10) dX6_allowRoadsAlone_61 (by decide) ?_
        rw [u3_u2, xfl_s _ _ _ hv]
        refine g_drop 3 ?_
        exact ih2
      refine g_iload_n (n := 11) dX6_allowRoadsAlone_10 rfl rfl ?_
      refine g_bipush (n := 13) dX6_allowRoadsAlone_11 rfl k_bp_8 ?_
      refine g_icmp_ge (n := 16) (t := 64) dX6_allowRoadsAlone_13 rfl (by decide) (fun q9 => absurd q9 (nI_ge hb (by decide))) (fun _ => ?_)
      refine g_aload_n (n := 17) dX6_allowRoadsAlone_16 rfl rfl ?_
      refine gf_X6_9 (n := 20) dX6_allowRoadsAlone_17 rfl rfl (by assumption) (by assumption) ?_
      refine g_iload_n (n := 21) dX6_allowRoadsAlone_20 rfl rfl ?_
      refine g_bipush (n := 23) dX6_allowRoadsAlone_21 rfl k_bp_8 ?_
      refine g_imul (n := 24) dX6_allowRoadsAlone_23 rfl ?_
      refine g_iload_n (n := 25) dX6_allowRoadsAlone_24 rfl rfl ?_
      refine g_iadd (n := 26) dX6_allowRoadsAlone_25 rfl ?_
      refine g_iald (a := (8 * a + b)) (n := 27) dX6_allowRoadsAlone_26 rfl (by decide) (by assumption) (by rw [pk_mul, nI_add, Nat.mul_comm]) (by show _ < 64; first | assumption | omega) ?_
      refine g_istore3 (n := 28) dX6_allowRoadsAlone_27 rfl (by decide) rfl ?_
      refine g_aload_n (n := 29) dX6_allowRoadsAlone_28 rfl rfl ?_
      refine gf_X6_15 (n := 32) dX6_allowRoadsAlone_29 rfl rfl (by assumption) (by assumption) ?_
      refine g_iload_n (n := 33) dX6_allowRoadsAlone_32 rfl rfl ?_
      refine g_bipush (n := 35) dX6_allowRoadsAlone_33 rfl k_bp_8 ?_
      refine g_imul (n := 36) dX6_allowRoadsAlone_35 rfl ?_
      refine g_iload_n (n := 37) dX6_allowRoadsAlone_36 rfl rfl ?_
      refine g_iadd (n := 38) dX6_allowRoadsAlone_37 rfl ?_
      refine g_iload_n (n := 39) dX6_allowRoadsAlone_38 rfl rfl ?_
      refine g_iload_n (n := 40) dX6_allowRoadsAlone_39 rfl rfl ?_
      refine g_icmp_ne (n := 43) (t := 47) dX6_allowRoadsAlone_40 rfl (by decide) (fun c40 => ?_) (fun c40 => ?_)
      · have hne : ¬ (8 * a + b) / 8 = (8 * a + b) % 8 := fun q => c40 (by rw [show a = b by omega])
        refine g_iload_n (n := 48) dX6_allowRoadsAlone_47 rfl rfl ?_
        refine g_if_le (n := 51) (t := 55) dX6_allowRoadsAlone_48 rfl (by decide) (fun c48 => ?_) (fun c48 => ?_)
        · have hz : M 27 i (8 * a + b) = 0 := Int32.le_antisymm c48 (hc _ (by omega))
          refine g_ldc (n := 57) dX6_allowRoadsAlone_55 rfl kc_X6_29 ?_
          exact fin _ (by unfold fwI; rw [if_neg hne, if_pos hz]; rfl)
        · refine g_iload_n (n := 52) dX6_allowRoadsAlone_51 rfl rfl ?_
          refine g_goto (n := 0) (t := 57) dX6_allowRoadsAlone_52 (by decide) ?_
          exact fin _ (by
            unfold fwI
            rw [if_neg hne, if_neg (fun q => by
              have c48 : ¬ M 27 i (8 * a + b) ≤ 0 := c48
              rw [q] at c48
              exact c48 (Int32.le_refl _))]
            rfl)
      · have e1 : a = b := (nI_eq (by omega) (by omega)).mp c40
        refine g_iconst (n := 44) dX6_allowRoadsAlone_43 rfl k_ic_0 ?_
        refine g_goto (n := 0) (t := 57) dX6_allowRoadsAlone_44 (by decide) ?_
        exact fin _ (by unfold fwI; rw [if_pos (by omega)]; rfl)
theorem c_rmeasure (h6 : z_live nn 6 i) (h27 : z_live nn 27 i) (h28 : z_live nn 28 i) (n0 : Nl 6 i 0 = false) (n1 : Nl 6 i 1 = false) (hc : ∀ j, j < 64 → 0 ≤ M 27 i j) : zC w mX6_measure (d + 1) [vR 6 i] (nn, Nl, M, O) zrV (nn, Nl, u2 M 28 i (fwO (xfl (fwI (M 27 i)) (M 28 i) 64) 8), O) := by
  refine zC_of (cr := 0) (L0 := [vR 6 i, vU, vU, vU, vU]) rfl (by decide) (by decide) rfl (Nat.le_of_ble_eq_true rfl) rfl ?_
  refine g_aload_n (n := 1) dX6_measure_0 rfl rfl ?_
  refine g_cVn (n := 4) (c_rallow h6 h27 h28 n0 n1 hc) dX6_measure_1 rfl kw_X6_37 rfl (by decide) h6 (Nat.le_of_ble_eq_true rfl) ⟨Nat.le_refl _, Nat.le_refl _⟩ ?_ rfl
  refine g_iconst (n := 5) dX6_measure_4 rfl k_ic_0 ?_
  refine g_istore1 (n := 6) dX6_measure_5 rfl (by decide) rfl ?_
  obtain ⟨R0, hR0⟩ : ∃ R0, R0 = xfl (fwI (M 27 i)) (M 28 i) 64 := ⟨_, rfl⟩
  rw [← hR0]
  clear hR0
  refine z_loop (fun o => zG w mX6_measure (d + 1) 0 6 [vR 6 i, vI (nI o), vU, vU, vU] [] (nn, Nl, u2 M 28 i (fwO R0 o), O) zrV (nn, Nl, u2 M 28 i (fwO R0 8), O)) 8 ?_ ?_ 0 (Nat.zero_le _)
  · refine g_iload_n (n := 7) dX6_measure_6 rfl rfl ?_
    refine g_bipush (n := 9) dX6_measure_7 rfl k_bp_8 ?_
    refine g_icmp_ge (n := 12) (t := 98) dX6_measure_9 rfl (by decide) (fun _ => ?_) (fun q9 => absurd (Int32.le_refl _) q9)
    exact g_return dX6_measure_98 rfl rfl rfl
  · intro o ho ih
    refine g_iload_n (n := 7) dX6_measure_6 rfl rfl ?_
    refine g_bipush (n := 9) dX6_measure_7 rfl k_bp_8 ?_
    refine g_icmp_ge (n := 12) (t := 98) dX6_measure_9 rfl (by decide) (fun q9 => absurd q9 (nI_ge ho (by decide))) (fun _ => ?_)
    refine g_iconst (n := 13) dX6_measure_12 rfl k_ic_0 ?_
    refine g_istore2 (n := 14) dX6_measure_13 rfl (by decide) rfl ?_
    refine z_loop (fun a => zG w mX6_measure (d + 1) 0 14 [vR 6 i, vI (nI o), vI (nI a), vU, vU] [] (nn, Nl, u2 M 28 i (fwK o (fwO R0 o) (8 * a)), O) zrV (nn, Nl, u2 M 28 i (fwO R0 8), O)) 8 ?_ ?_ 0 (Nat.zero_le _)
    · refine g_iload_n (n := 15) dX6_measure_14 rfl rfl ?_
      refine g_bipush (n := 17) dX6_measure_15 rfl k_bp_8 ?_
      refine g_icmp_ge (n := 20) (t := 92) dX6_measure_17 rfl (by decide) (fun _ => ?_) (fun q9 => absurd (Int32.le_refl _) q9)
      refine g_iinc1 (n := 95) dX6_measure_92 rfl (by decide) rfl (z_inc1 _) ?_
      refine g_goto (n := 0) (t := 6) dX6_measure_95 (by decide) ?_
      refine g_drop 2 ?_
      exact ih
    · intro a ha ih2
      refine g_iload_n (n := 15) dX6_measure_14 rfl rfl ?_
      refine g_bipush (n := 17) dX6_measure_15 rfl k_bp_8 ?_
      refine g_icmp_ge (n := 20) (t := 92) dX6_measure_17 rfl (by decide) (fun q9 => absurd q9 (nI_ge ha (by decide))) (fun _ => ?_)
      refine g_iconst (n := 21) dX6_measure_20 rfl k_ic_0 ?_
      refine g_istore3 (n := 22) dX6_measure_21 rfl (by decide) rfl ?_
      refine z_loop (fun b => zG w mX6_measure (d + 1) 0 22 [vR 6 i, vI (nI o), vI (nI a), vI (nI b), vU] [] (nn, Nl, u2 M 28 i (fwK o (fwO R0 o) (8 * a + b)), O) zrV (nn, Nl, u2 M 28 i (fwO R0 8), O)) 8 ?_ ?_ 0 (Nat.zero_le _)
      · refine g_iload_n (n := 23) dX6_measure_22 rfl rfl ?_
        refine g_bipush (n := 25) dX6_measure_23 rfl k_bp_8 ?_
        refine g_icmp_ge (n := 28) (t := 86) dX6_measure_25 rfl (by decide) (fun _ => ?_) (fun q9 => absurd (Int32.le_refl _) q9)
        refine g_iinc2 (n := 89) dX6_measure_86 rfl (by decide) rfl (z_inc1 _) ?_
        refine g_goto (n := 0) (t := 14) dX6_measure_89 (by decide) ?_
        refine g_drop 3 ?_
        exact ih2
      · intro b hb ih3
        obtain ⟨R, hR⟩ : ∃ R, R = fwK o (fwO R0 o) (8 * a + b) := ⟨_, rfl⟩
        have e1 : fwK o (fwO R0 o) (8 * a + (b + 1)) = fwS o (8 * a + b) R := by rw [hR]; rfl
        rw [e1] at ih3
        rw [← hR]
        refine g_iload_n (n := 23) dX6_measure_22 rfl rfl ?_
        refine g_bipush (n := 25) dX6_measure_23 rfl k_bp_8 ?_
        refine g_icmp_ge (n := 28) (t := 86) dX6_measure_25 rfl (by decide) (fun q9 => absurd q9 (nI_ge hb (by decide))) (fun _ => ?_)
        refine g_aload_n (n := 29) dX6_measure_28 rfl rfl ?_
        refine gf_X6_15 (n := 32) dX6_measure_29 rfl rfl (by assumption) (by assumption) ?_
        refine g_iload_n (n := 33) dX6_measure_32 rfl rfl ?_
        refine g_bipush (n := 35) dX6_measure_33 rfl k_bp_8 ?_
        refine g_imul (n := 36) dX6_measure_35 rfl ?_
        refine g_iload_n (n := 37) dX6_measure_36 rfl rfl ?_
        refine g_iadd (n := 38) dX6_measure_37 rfl ?_
        refine g_iald (a := (8 * a + o)) (n := 39) dX6_measure_38 rfl (by decide) (by assumption) (by rw [pk_mul, nI_add, Nat.mul_comm]) (by show _ < 64; first | assumption | omega) ?_
        refine g_aload_n (n := 40) dX6_measure_39 rfl rfl ?_
        refine gf_X6_15 (n := 43) dX6_measure_40 rfl rfl (by assumption) (by assumption) ?_
        refine g_iload_n (n := 44) dX6_measure_43 rfl rfl ?_
        refine g_bipush (n := 46) dX6_measure_44 rfl k_bp_8 ?_
        refine g_imul (n := 47) dX6_measure_46 rfl ?_
        refine g_iload_n (n := 48) dX6_measure_47 rfl rfl ?_
        refine g_iadd (n := 49) dX6_measure_48 rfl ?_
        refine g_iald (a := (8 * o + b)) (n := 50) dX6_measure_49 rfl (by decide) (by assumption) (by rw [pk_mul, nI_add, Nat.mul_comm]) (by show _ < 64; first | assumption | omega) ?_
        refine g_iadd (n := 51) dX6_measure_50 rfl ?_
        refine g_istore4 (n := 53) dX6_measure_51 rfl (by decide) rfl ?_
        refine g_aload_n (n := 54) dX6_measure_53 rfl rfl ?_
        refine gf_X6_15 (n := 57) dX6_measure_54 rfl rfl (by assumption) (by assumption) ?_
        refine g_iload_n (n := 58) dX6_measure_57 rfl rfl ?_
        refine g_bipush (n := 60) dX6_measure_58 rfl k_bp_8 ?_
        refine g_imul (n := 61) dX6_measure_60 rfl ?_
        refine g_iload_n (n := 62) dX6_measure_61 rfl rfl ?_
        refine g_iadd (n := 63) dX6_measure_62 rfl ?_
        refine g_iload (n := 65) dX6_measure_63 rfl rfl ?_
        refine g_aload_n (n := 66) dX6_measure_65 rfl rfl ?_
        refine gf_X6_15 (n := 69) dX6_measure_66 rfl rfl (by assumption) (by assumption) ?_
        refine g_iload_n (n := 70) dX6_measure_69 rfl rfl ?_
        refine g_bipush (n := 72) dX6_measure_70 rfl k_bp_8 ?_
        refine g_imul (n := 73) dX6_measure_72 rfl ?_
        refine g_iload_n (n := 74) dX6_measure_73 rfl rfl ?_
        refine g_iadd (n := 75) dX6_measure_74 rfl ?_
        refine g_iald (a := (8 * a + b)) (n := 76) dX6_measure_75 rfl (by decide) (by assumption) (by rw [pk_mul, nI_add, Nat.mul_comm]) (by show _ < 64; first | assumption | omega) ?_
        refine g_mmin (n := 79) dX6_measure_76 rfl km_X6_40 km_minS km_mI km_minC (by omega) (Nat.le_of_ble_eq_true rfl) ?_
        rw [u2_self, z_min2]
        refine g_iast (a := (8 * a + b)) (n := 80) dX6_measure_79 rfl (by decide) (by assumption) (by rw [pk_mul, nI_add, Nat.mul_comm]) (by show _ < 64; first | assumption | omega) ?_
        refine g_iinc3 (n := 83) dX6_measure_80 rfl (by decide) rfl (z_inc1 _) ?_
        refine g_goto (n := 0) (t := 22) dX6_measure_83 (by decide) ?_
        have e2 : fwS o (8 * a + b) R = upd R (8 * a + b) (if R (8 * a + o) + R (8 * o + b) < R (8 * a + b) then R (8 * a + o) + R (8 * o + b) else R (8 * a + b)) := by
          unfold fwS
          rw [show (8 * a + b) / 8 = a by omega, show (8 * a + b) % 8 = b by omega]
        rw [u3_u2, ← e2]
        refine g_drop 4 ?_
        exact ih3
end L4

