/-! Leaf methods of the class. -/
section L1
variable {w : zWp} {d : Nat} {M : Nat → Nat → Nat → Int32} {O : Nat → Int64} {σ : zSt}
theorem c_isTown (x : Int32) : zC w mX9_isTown d [vI x] σ (zrI (zb (z_ok x 8))) σ := by
  refine zC_of (cr := 0) (L0 := [vI x]) rfl (by decide) (by decide) rfl (Nat.le_of_ble_eq_true rfl) rfl ?_
  refine g_iload_n (n := 1) dX9_isTown_0 rfl rfl ?_
  refine g_if_lt (n := 4) (t := 14) dX9_isTown_1 rfl (by decide) (fun c1 => ?_) (fun c1 => ?_)
  · rw [z_ok_neg c1]
    refine g_iconst (n := 15) dX9_isTown_14 rfl k_ic_0 ?_
    exact g_ireturn dX9_isTown_15 rfl rfl rfl rfl
  · refine g_iload_n (n := 5) dX9_isTown_4 rfl rfl ?_
    refine g_bipush (n := 7) dX9_isTown_5 rfl k_bp_8 ?_
    refine g_icmp_ge (n := 10) (t := 14) dX9_isTown_7 rfl (by decide) (fun c7 => ?_) (fun c7 => ?_)
    · rw [z_ok_ge c7]
      refine g_iconst (n := 15) dX9_isTown_14 rfl k_ic_0 ?_
      exact g_ireturn dX9_isTown_15 rfl rfl rfl rfl
    · rw [z_ok_in c1 c7]
      refine g_iconst (n := 11) dX9_isTown_10 rfl k_ic_1 ?_
      refine g_goto (n := 0) (t := 15) dX9_isTown_11 (by decide) ?_
      exact g_ireturn dX9_isTown_15 rfl rfl rfl rfl
theorem c_isHouse (x : Int32) : zC w mX9_isHouse d [vI x] σ (zrI (zb (z_ok x 4))) σ := by
  refine zC_of (cr := 0) (L0 := [vI x]) rfl (by decide) (by decide) rfl (Nat.le_of_ble_eq_true rfl) rfl ?_
  refine g_iload_n (n := 1) dX9_isHouse_0 rfl rfl ?_
  refine g_if_lt (n := 4) (t := 13) dX9_isHouse_1 rfl (by decide) (fun c1 => ?_) (fun c1 => ?_)
  · rw [z_ok_neg c1]
    refine g_iconst (n := 14) dX9_isHouse_13 rfl k_ic_0 ?_
    exact g_ireturn dX9_isHouse_14 rfl rfl rfl rfl
  · refine g_iload_n (n := 5) dX9_isHouse_4 rfl rfl ?_
    refine g_iconst (n := 6) dX9_isHouse_5 rfl k_ic_4 ?_
    refine g_icmp_ge (n := 9) (t := 13) dX9_isHouse_6 rfl (by decide) (fun c6 => ?_) (fun c6 => ?_)
    · rw [z_ok_ge c6]
      refine g_iconst (n := 14) dX9_isHouse_13 rfl k_ic_0 ?_
      exact g_ireturn dX9_isHouse_14 rfl rfl rfl rfl
    · rw [z_ok_in c1 c6]
      refine g_iconst (n := 10) dX9_isHouse_9 rfl k_ic_1 ?_
      refine g_goto (n := 0) (t := 14) dX9_isHouse_10 (by decide) ?_
      exact g_ireturn dX9_isHouse_14 rfl rfl rfl rfl
theorem c_isNeighbour (x : Int32) : zC w mX9_isNeighbour d [vI x] σ (zrI (zb (z_ok x 4))) σ := by
  refine zC_of (cr := 0) (L0 := [vI x]) rfl (by decide) (by decide) rfl (Nat.le_of_ble_eq_true rfl) rfl ?_
  refine g_iload_n (n := 1) dX9_isNeighbour_0 rfl rfl ?_
  refine g_if_lt (n := 4) (t := 13) dX9_isNeighbour_1 rfl (by decide) (fun c1 => ?_) (fun c1 => ?_)
  · rw [z_ok_neg c1]
    refine g_iconst (n := 14) dX9_isNeighbour_13 rfl k_ic_0 ?_
    exact g_ireturn dX9_isNeighbour_14 rfl rfl rfl rfl
  · refine g_iload_n (n := 5) dX9_isNeighbour_4 rfl rfl ?_
    refine g_iconst (n := 6) dX9_isNeighbour_5 rfl k_ic_4 ?_
    refine g_icmp_ge (n := 9) (t := 13) dX9_isNeighbour_6 rfl (by decide) (fun c6 => ?_) (fun c6 => ?_)
    · rw [z_ok_ge c6]
      refine g_iconst (n := 14) dX9_isNeighbour_13 rfl k_ic_0 ?_
      exact g_ireturn dX9_isNeighbour_14 rfl rfl rfl rfl
    · rw [z_ok_in c1 c6]
      refine g_iconst (n := 10) dX9_isNeighbour_9 rfl k_ic_1 ?_
      refine g_goto (n := 0) (t := 14) dX9_isNeighbour_10 (by decide) ?_
      exact g_ireturn dX9_isNeighbour_14 rfl rfl rfl rfl
theorem c_needTown (x : Int32) (h : z_ok x 8 = true) : zC w mX9_needTown (d + 1) [vI x] σ zrV σ := by
  refine zC_of (cr := 0) (L0 := [vI x]) rfl (by decide) (by decide) rfl (Nat.le_of_ble_eq_true rfl) rfl ?_
  refine g_iload_n (n := 1) dX9_needTown_0 rfl rfl ?_
  refine g_cSv (n := 4) (c_isTown x) dX9_needTown_1 rfl kw_X9_351 (Nat.le_of_ble_eq_true rfl) ⟨Nat.le_refl _, Nat.le_refl _⟩ ?_ rfl
  refine g_if_ne (n := 7) (t := 18) dX9_needTown_4 rfl (by decide) (fun _ => ?_) (fun q9 => absurd q9 (by rw [h]; decide))
  exact g_return dX9_needTown_18 rfl rfl rfl
theorem t_needTown (x : Int32) (h : z_ok x 8 = false) : zC w mX9_needTown (d + 6) [vI x] (zP M O) (zrX xIOOB) (zP M O) := by
  refine zC_of (cr := 1) (L0 := [vI x]) rfl (by decide) (by decide) rfl (Nat.le_of_ble_eq_true rfl) rfl ?_
  refine g_iload_n (n := 1) dX9_needTown_0 rfl rfl ?_
  refine g_cSv (n := 4) (c_isTown x) dX9_needTown_1 rfl kw_X9_351 (Nat.le_of_ble_eq_true rfl) ⟨Nat.le_refl _, Nat.le_refl _⟩ ?_ rfl
  refine g_if_ne (n := 7) (t := 18) dX9_needTown_4 rfl (by decide) (fun q9 => absurd (by rw [h]; decide) q9) (fun _ => ?_)
  exact g_thrW (q := z_exs[1]) (is := 354) (sa := 0) (text := "no such town") (List.getElem_mem _) rfl rfl (by decide +kernel) (by omega) (Nat.le_of_ble_eq_true rfl) dX9_needTown_7 dX9_needTown_10 dX9_needTown_11 dX9_needTown_14 dX9_needTown_17 rfl rfl rfl
theorem c_needHouse (x : Int32) (h : z_ok x 4 = true) : zC w mX9_needHouse (d + 1) [vI x] σ zrV σ := by
  refine zC_of (cr := 0) (L0 := [vI x]) rfl (by decide) (by decide) rfl (Nat.le_of_ble_eq_true rfl) rfl ?_
  refine g_iload_n (n := 1) dX9_needHouse_0 rfl rfl ?_
  refine g_cSv (n := 4) (c_isHouse x) dX9_needHouse_1 rfl kw_X9_358 (Nat.le_of_ble_eq_true rfl) ⟨Nat.le_refl _, Nat.le_refl _⟩ ?_ rfl
  refine g_if_ne (n := 7) (t := 18) dX9_needHouse_4 rfl (by decide) (fun _ => ?_) (fun q9 => absurd q9 (by rw [h]; decide))
  exact g_return dX9_needHouse_18 rfl rfl rfl
theorem t_needHouse (x : Int32) (h : z_ok x 4 = false) : zC w mX9_needHouse (d + 6) [vI x] (zP M O) (zrX xIOOB) (zP M O) := by
  refine zC_of (cr := 1) (L0 := [vI x]) rfl (by decide) (by decide) rfl (Nat.le_of_ble_eq_true rfl) rfl ?_
  refine g_iload_n (n := 1) dX9_needHouse_0 rfl rfl ?_
  refine g_cSv (n := 4) (c_isHouse x) dX9_needHouse_1 rfl kw_X9_358 (Nat.le_of_ble_eq_true rfl) ⟨Nat.le_refl _, Nat.le_refl _⟩ ?_ rfl
  refine g_if_ne (n := 7) (t := 18) dX9_needHouse_4 rfl (by decide) (fun q9 => absurd (by rw [h]; decide) q9) (fun _ => ?_)
  exact g_thrW (q := z_exs[1]) (is := 361) (sa := 0) (text := "no such house") (List.getElem_mem _) rfl rfl (by decide +kernel) (by omega) (Nat.le_of_ble_eq_true rfl) dX9_needHouse_7 dX9_needHouse_10 dX9_needHouse_11 dX9_needHouse_14 dX9_needHouse_17 rfl rfl rfl
theorem c_needNeighbour (x : Int32) (h : z_ok x 4 = true) : zC w mX9_needNeighbour (d + 1) [vI x] σ zrV σ := by
  refine zC_of (cr := 0) (L0 := [vI x]) rfl (by decide) (by decide) rfl (Nat.le_of_ble_eq_true rfl) rfl ?_
  refine g_iload_n (n := 1) dX9_needNeighbour_0 rfl rfl ?_
  refine g_cSv (n := 4) (c_isNeighbour x) dX9_needNeighbour_1 rfl kw_X9_363 (Nat.le_of_ble_eq_true rfl) ⟨Nat.le_refl _, Nat.le_refl _⟩ ?_ rfl
  refine g_if_ne (n := 7) (t := 18) dX9_needNeighbour_4 rfl (by decide) (fun _ => ?_) (fun q9 => absurd q9 (by rw [h]; decide))
  exact g_return dX9_needNeighbour_18 rfl rfl rfl
theorem t_needNeighbour (x : Int32) (h : z_ok x 4 = false) : zC w mX9_needNeighbour (d + 6) [vI x] (zP M O) (zrX xIOOB) (zP M O) := by
  refine zC_of (cr := 1) (L0 := [vI x]) rfl (by decide) (by decide) rfl (Nat.le_of_ble_eq_true rfl) rfl ?_
  refine g_iload_n (n := 1) dX9_needNeighbour_0 rfl rfl ?_
  refine g_cSv (n := 4) (c_isNeighbour x) dX9_needNeighbour_1 rfl kw_X9_363 (Nat.le_of_ble_eq_true rfl) ⟨Nat.le_refl _, Nat.le_refl _⟩ ?_ rfl
  refine g_if_ne (n := 7) (t := 18) dX9_needNeighbour_4 rfl (by decide) (fun q9 => absurd (by rw [h]; decide) q9) (fun _ => ?_)
  exact g_thrW (q := z_exs[1]) (is := 366) (sa := 0) (text := "no such neighbour") (List.getElem_mem _) rfl rfl (by decide +kernel) (by omega) (Nat.le_of_ble_eq_true rfl) dX9_needNeighbour_7 dX9_needNeighbour_10 dX9_needNeighbour_11 dX9_needNeighbour_14 dX9_needNeighbour_17 rfl rfl rfl
theorem c_needFromZero {g : Nat} (x : Int32) (h : z_ok x (g + 1) = true) (hg : g < 1000000) : zC w mX9_needFromZero d [vI x, vI (nI g)] σ zrV σ := by
  obtain ⟨a, ha, rfl⟩ := z_ok_of h (by omega)
  refine zC_of (cr := 0) (L0 := [vI (nI a), vI (nI g)]) rfl (by decide) (by decide) rfl (Nat.le_of_ble_eq_true rfl) rfl ?_
  refine g_iload_n (n := 1) dX9_needFromZero_0 rfl rfl ?_
  refine g_if_lt (n := 4) (t := 9) dX9_needFromZero_1 rfl (by decide) (fun q9 => absurd q9 (nI_pos (by omega))) (fun _ => ?_)
  refine g_iload_n (n := 5) dX9_needFromZero_4 rfl rfl ?_
  refine g_iload_n (n := 6) dX9_needFromZero_5 rfl rfl ?_
  refine g_icmp_le (n := 9) (t := 20) dX9_needFromZero_6 rfl (by decide) (fun _ => ?_) (fun q9 => absurd (nI_le (by omega) (by omega)) q9)
  exact g_return dX9_needFromZero_20 rfl rfl rfl
theorem t_needFromZero {g : Nat} (x : Int32) (h : z_ok x (g + 1) = false) (hg : g < 1000000) : zC w mX9_needFromZero (d + 6) [vI x, vI (nI g)] (zP M O) (zrX xIA) (zP M O) := by
  refine zC_of (cr := 1) (L0 := [vI x, vI (nI g)]) rfl (by decide) (by decide) rfl (Nat.le_of_ble_eq_true rfl) rfl ?_
  rcases pk_ix x (show g + 1 < 2 ^ 31 by omega) with q | q | ⟨a, ha, rfl⟩
  · refine g_iload_n (n := 1) dX9_needFromZero_0 rfl rfl ?_
    refine g_if_lt (n := 4) (t := 9) dX9_needFromZero_1 rfl (by decide) (fun _ => ?_) (fun q9 => absurd q q9)
    exact g_thrW (q := z_exs[0]) (is := 373) (sa := 0) (text := "a value is out of range") (List.getElem_mem _) rfl rfl (by decide +kernel) (by omega) (Nat.le_of_ble_eq_true rfl) dX9_needFromZero_9 dX9_needFromZero_12 dX9_needFromZero_13 dX9_needFromZero_16 dX9_needFromZero_19 rfl rfl rfl
  · have q1 : ¬ x ≤ nI g := Int32.not_le.mpr (Int32.lt_of_lt_of_le (nI_lt (Nat.lt_succ_self g) (by omega)) q)
    have q2 : ¬ x < 0 := Int32.not_lt.mpr (Int32.le_trans (nI_pos' (by omega)) q)
    refine g_iload_n (n := 1) dX9_needFromZero_0 rfl rfl ?_
    refine g_if_lt (n := 4) (t := 9) dX9_needFromZero_1 rfl (by decide) (fun q9 => absurd q9 q2) (fun _ => ?_)
    refine g_iload_n (n := 5) dX9_needFromZero_4 rfl rfl ?_
    refine g_iload_n (n := 6) dX9_needFromZero_5 rfl rfl ?_
    refine g_icmp_le (n := 9) (t := 20) dX9_needFromZero_6 rfl (by decide) (fun q9 => absurd q9 q1) (fun _ => ?_)
    exact g_thrW (q := z_exs[0]) (is := 373) (sa := 0) (text := "a value is out of range") (List.getElem_mem _) rfl rfl (by decide +kernel) (by omega) (Nat.le_of_ble_eq_true rfl) dX9_needFromZero_9 dX9_needFromZero_12 dX9_needFromZero_13 dX9_needFromZero_16 dX9_needFromZero_19 rfl rfl rfl
  · rw [z_ok_nI ha (by omega)] at h
    cases h
theorem c_needCost (x : Int32) (h : z_ok x 100 = true) : zC w mX9_needCost (d + 1) [vI x] σ zrV σ := by
  refine zC_of (cr := 0) (L0 := [vI x]) rfl (by decide) (by decide) rfl (Nat.le_of_ble_eq_true rfl) rfl ?_
  refine g_iload_n (n := 1) dX9_needCost_0 rfl rfl ?_
  refine g_bipush (n := 3) dX9_needCost_1 rfl k_bp_99 ?_
  refine g_cSn (n := 6) (c_needFromZero x h (by decide)) dX9_needCost_3 rfl kw_X9_117 (Nat.le_of_ble_eq_true rfl) ⟨Nat.le_refl _, Nat.le_refl _⟩ ?_ rfl
  exact g_return dX9_needCost_6 rfl rfl rfl
theorem t_needCost (x : Int32) (h : z_ok x 100 = false) : zC w mX9_needCost (d + 7) [vI x] (zP M O) (zrX xIA) (zP M O) := by
  refine zC_of (cr := 1) (L0 := [vI x]) rfl (by decide) (by decide) rfl (Nat.le_of_ble_eq_true rfl) rfl ?_
  refine g_iload_n (n := 1) dX9_needCost_0 rfl rfl ?_
  refine g_bipush (n := 3) dX9_needCost_1 rfl k_bp_99 ?_
  exact g_cST (σ1 := (0, fun _ _ _ => false, fun _ _ _ => 0, fun _ => 0)) (t_needFromZero x h (by decide)) dX9_needCost_3 kw_X9_117 (Nat.le_of_ble_eq_true rfl) (Nat.le_refl _) rfl rfl rfl rfl
theorem c_needSlot (x : Int32) (h : z_ok x 2 = true) : zC w mX9_needSlot (d + 1) [vI x] σ zrV σ := by
  refine zC_of (cr := 0) (L0 := [vI x]) rfl (by decide) (by decide) rfl (Nat.le_of_ble_eq_true rfl) rfl ?_
  refine g_iload_n (n := 1) dX9_needSlot_0 rfl rfl ?_
  refine g_iconst (n := 2) dX9_needSlot_1 rfl k_ic_1 ?_
  refine g_cSn (n := 5) (c_needFromZero x h (by decide)) dX9_needSlot_2 rfl kw_X9_117 (Nat.le_of_ble_eq_true rfl) ⟨Nat.le_refl _, Nat.le_refl _⟩ ?_ rfl
  exact g_return dX9_needSlot_5 rfl rfl rfl
theorem t_needSlot (x : Int32) (h : z_ok x 2 = false) : zC w mX9_needSlot (d + 7) [vI x] (zP M O) (zrX xIA) (zP M O) := by
  refine zC_of (cr := 1) (L0 := [vI x]) rfl (by decide) (by decide) rfl (Nat.le_of_ble_eq_true rfl) rfl ?_
  refine g_iload_n (n := 1) dX9_needSlot_0 rfl rfl ?_
  refine g_iconst (n := 2) dX9_needSlot_1 rfl k_ic_1 ?_
  exact g_cST (σ1 := (0, fun _ _ _ => false, fun _ _ _ => 0, fun _ => 0)) (t_needFromZero x h (by decide)) dX9_needSlot_2 kw_X9_117 (Nat.le_of_ble_eq_true rfl) (Nat.le_refl _) rfl rfl rfl rfl
theorem c_needTwoTowns {a b : Nat} (ha : a < 8) (hb : b < 8) (hab : a ≠ b) : zC w mX9_needTwoTowns (d + 2) [vI (nI a), vI (nI b)] σ zrV σ := by
  refine zC_of (cr := 0) (L0 := [vI (nI a), vI (nI b)]) rfl (by decide) (by decide) rfl (Nat.le_of_ble_eq_true rfl) rfl ?_
  refine g_iload_n (n := 1) dX9_needTwoTowns_0 rfl rfl ?_
  refine g_cSn (n := 4) (c_needTown (nI a) (z_ok_nI ha (by decide))) dX9_needTwoTowns_1 rfl kw_X9_77 (Nat.le_of_ble_eq_true rfl) ⟨Nat.le_refl _, Nat.le_refl _⟩ ?_ rfl
  refine g_iload_n (n := 5) dX9_needTwoTowns_4 rfl rfl ?_
  refine g_cSn (n := 8) (c_needTown (nI b) (z_ok_nI hb (by decide))) dX9_needTwoTowns_5 rfl kw_X9_77 (Nat.le_of_ble_eq_true rfl) ⟨Nat.le_refl _, Nat.le_refl _⟩ ?_ rfl
  refine g_iload_n (n := 9) dX9_needTwoTowns_8 rfl rfl ?_
  refine g_iload_n (n := 10) dX9_needTwoTowns_9 rfl rfl ?_
  refine g_icmp_ne (n := 13) (t := 24) dX9_needTwoTowns_10 rfl (by decide) (fun _ => ?_) (fun q9 => absurd q9 (fun q => hab ((nI_eq (by omega) (by omega)).mp q)))
  exact g_return dX9_needTwoTowns_24 rfl rfl rfl
theorem t_needTwoTowns1 {x y : Int32} (h : (z_ok x 8 && z_ok y 8) = false) : zC w mX9_needTwoTowns (d + 7) [vI x, vI y] (zP M O) (zrX xIOOB) (zP M O) := by
  refine zC_of (cr := 1) (L0 := [vI x, vI y]) rfl (by decide) (by decide) rfl (Nat.le_of_ble_eq_true rfl) rfl ?_
  cases hx : z_ok x 8
  · refine g_iload_n (n := 1) dX9_needTwoTowns_0 rfl rfl ?_
    exact g_cST (σ1 := (0, fun _ _ _ => false, fun _ _ _ => 0, fun _ => 0)) (t_needTown x hx) dX9_needTwoTowns_1 kw_X9_77 (Nat.le_of_ble_eq_true rfl) (Nat.le_refl _) rfl rfl rfl rfl
  · rw [hx, Bool.true_and] at h
    refine g_iload_n (n := 1) dX9_needTwoTowns_0 rfl rfl ?_
    refine g_cSn (n := 4) (c_needTown x hx) dX9_needTwoTowns_1 rfl kw_X9_77 (Nat.le_of_ble_eq_true rfl) ⟨Nat.le_refl _, Nat.le_refl _⟩ ?_ rfl
    refine g_iload_n (n := 5) dX9_needTwoTowns_4 rfl rfl ?_
    exact g_cST (σ1 := (0, fun _ _ _ => false, fun _ _ _ => 0, fun _ => 0)) (t_needTown y h) dX9_needTwoTowns_5 kw_X9_77 (Nat.le_of_ble_eq_true rfl) (Nat.le_refl _) rfl rfl rfl rfl
theorem t_needTwoTowns2 {a : Nat} (ha : a < 8) : zC w mX9_needTwoTowns (d + 7) [vI (nI a), vI (nI a)] (zP M O) (zrX xIA) (zP M O) := by
  refine zC_of (cr := 1) (L0 := [vI (nI a), vI (nI a)]) rfl (by decide) (by decide) rfl (Nat.le_of_ble_eq_true rfl) rfl ?_
  refine g_iload_n (n := 1) dX9_needTwoTowns_0 rfl rfl ?_
  refine g_cSn (n := 4) (c_needTown (nI a) (z_ok_nI ha (by decide))) dX9_needTwoTowns_1 rfl kw_X9_77 (Nat.le_of_ble_eq_true rfl) ⟨Nat.le_refl _, Nat.le_refl _⟩ ?_ rfl
  refine g_iload_n (n := 5) dX9_needTwoTowns_4 rfl rfl ?_
  refine g_cSn (n := 8) (c_needTown (nI a) (z_ok_nI ha (by decide))) dX9_needTwoTowns_5 rfl kw_X9_77 (Nat.le_of_ble_eq_true rfl) ⟨Nat.le_refl _, Nat.le_refl _⟩ ?_ rfl
  refine g_iload_n (n := 9) dX9_needTwoTowns_8 rfl rfl ?_
  refine g_iload_n (n := 10) dX9_needTwoTowns_9 rfl rfl ?_
  refine g_icmp_ne (n := 13) (t := 24) dX9_needTwoTowns_10 rfl (by decide) (fun q9 => absurd rfl q9) (fun _ => ?_)
  exact g_thrW (q := z_exs[0]) (is := 356) (sa := 0) (text := "both towns are the same") (List.getElem_mem _) rfl rfl (by decide +kernel) (by omega) (Nat.le_of_ble_eq_true rfl) dX9_needTwoTowns_13 dX9_needTwoTowns_16 dX9_needTwoTowns_17 dX9_needTwoTowns_20 dX9_needTwoTowns_23 rfl rfl rfl
end L1
/-- a row read at a number that may be none of its places -/
def xg (R : Nat → Int32) (n : Nat) (df x : Int32) : Int32 := if z_ok x n then R x.toNatClampNeg else df
theorem xg_nI {R : Nat → Int32} {n a : Nat} {df : Int32} (h : a < n) (hn : n < 2 ^ 31) : xg R n df (nI a) = R a := by
  unfold xg
  rw [if_pos (z_ok_nI h hn), nI_clamp (by omega)]
theorem xg_no {R : Nat → Int32} {n : Nat} {df x : Int32} (h : z_ok x n = false) : xg R n df x = df := by
  unfold xg
  rw [h]
  rfl
def xg2 (R : Nat → Int32) (n m : Nat) (df x y : Int32) : Int32 := if z_ok x n && z_ok y m then R (m * x.toNatClampNeg + y.toNatClampNeg) else df
theorem xg2_nI {R : Nat → Int32} {n m a b : Nat} {df : Int32} (h : a < n) (hn : n < 2 ^ 31) (h2 : b < m) (hm : m < 2 ^ 31) : xg2 R n m df (nI a) (nI b) = R (m * a + b) := by
  unfold xg2
  rw [z_ok_nI h hn, z_ok_nI h2 hm, nI_clamp (by omega), nI_clamp (by omega)]
  rfl
theorem xg2_no {R : Nat → Int32} {n m : Nat} {df x y : Int32} (h : (z_ok x n && z_ok y m) = false) : xg2 R n m df x y = df := by
  unfold xg2
  rw [h]
  rfl
/-- a distance as it is told: none beyond FAR -/
def xfar (v : Int32) : Int32 := if v < xFAR then v else -1
section L2
variable {w : zWp} {d i : Nat} {M : Nat → Nat → Nat → Int32} {O : Nat → Int64}
theorem c_has {s : Nat} (hi : i < 10) (hs : M 1 i 5 = nI s) (h8 : s ≤ 8) (x : Int32) : zC w mX1_has d [vR 1 i, vI x] (zP M O) (zrI (zb (z_ok x s))) (zP M O) := by
  refine zC_of (cr := 0) (L0 := [vR 1 i, vI x]) rfl (by decide) (by decide) rfl (Nat.le_of_ble_eq_true rfl) rfl ?_
  refine g_iload_n (n := 1) dX1_has_0 rfl rfl ?_
  refine g_if_lt (n := 4) (t := 22) dX1_has_1 rfl (by decide) (fun c1 => ?_) (fun c1 => ?_)
  · rw [z_ok_neg c1]
    refine g_iconst (n := 23) dX1_has_22 rfl k_ic_0 ?_
    exact g_ireturn dX1_has_23 rfl rfl rfl rfl
  · refine g_iload_n (n := 5) dX1_has_4 rfl rfl ?_
    refine g_aload_n (n := 6) dX1_has_5 rfl rfl ?_
    refine gf_X1_31 (n := 9) dX1_has_6 rfl rfl (z_lvP (by first | decide | assumption)) ?_
    refine g_icmp_ge (n := 12) (t := 22) dX1_has_9 rfl (by decide) (fun c9 => ?_) (fun c9 => ?_)
    · rw [hs] at c9
      rw [z_ok_ge c9]
      refine g_iconst (n := 23) dX1_has_22 rfl k_ic_0 ?_
      exact g_ireturn dX1_has_23 rfl rfl rfl rfl
    · rw [hs] at c9
      rw [z_ok_in c1 c9]
      refine g_iload_n (n := 13) dX1_has_12 rfl rfl ?_
      refine g_bipush (n := 15) dX1_has_13 rfl k_bp_8 ?_
      refine g_icmp_ge (n := 18) (t := 22) dX1_has_15 rfl (by decide) (fun q9 => absurd q9 (Int32.not_le.mpr (Int32.lt_of_lt_of_le (Int32.not_le.mp c9) (nI_le h8 (by decide))))) (fun _ => ?_)
      refine g_iconst (n := 19) dX1_has_18 rfl k_ic_1 ?_
      refine g_goto (n := 0) (t := 23) dX1_has_19 (by decide) ?_
      exact g_ireturn dX1_has_23 rfl rfl rfl rfl
theorem c_xsize (hi : i < 10) : zC w mX1_size d [vR 1 i] (zP M O) (zrI (M 1 i 5)) (zP M O) := by
  refine zC_of (cr := 0) (L0 := [vR 1 i]) rfl (by decide) (by decide) rfl (Nat.le_of_ble_eq_true rfl) rfl ?_
  refine g_aload_n (n := 1) dX1_size_0 rfl rfl ?_
  refine gf_X1_31 (n := 4) dX1_size_1 rfl rfl (z_lvP (by first | decide | assumption)) ?_
  exact g_ireturn dX1_size_4 rfl rfl rfl rfl
theorem c_xfull {s : Nat} (hi : i < 10) (hs : M 1 i 5 = nI s) (h8 : s ≤ 8) : zC w mX1_isFull d [vR 1 i] (zP M O) (zrI (zb (decide (s = 8)))) (zP M O) := by
  refine zC_of (cr := 0) (L0 := [vR 1 i]) rfl (by decide) (by decide) rfl (Nat.le_of_ble_eq_true rfl) rfl ?_
  refine g_aload_n (n := 1) dX1_isFull_0 rfl rfl ?_
  refine gf_X1_31 (n := 4) dX1_isFull_1 rfl rfl (z_lvP (by first | decide | assumption)) ?_
  refine g_bipush (n := 6) dX1_isFull_4 rfl k_bp_8 ?_
  rw [hs]
  refine g_icmp_lt (n := 9) (t := 13) dX1_isFull_6 rfl (by decide) (fun c6 => ?_) (fun c6 => ?_)
  · rw [decide_eq_false (fun q => by rw [q] at c6; exact Int32.lt_irrefl c6)]
    refine g_iconst (n := 14) dX1_isFull_13 rfl k_ic_0 ?_
    exact g_ireturn dX1_isFull_14 rfl rfl rfl rfl
  · have e1 : s = 8 := by
      rcases Nat.lt_or_ge s 8 with q | q
      · exact absurd (nI_lt q (by decide)) c6
      · omega
    rw [decide_eq_true e1]
    refine g_iconst (n := 10) dX1_isFull_9 rfl k_ic_1 ?_
    refine g_goto (n := 0) (t := 14) dX1_isFull_10 (by decide) ?_
    exact g_ireturn dX1_isFull_14 rfl rfl rfl rfl
theorem c_xtown {s : Nat} (hi : i < 10) (hs : M 1 i 5 = nI s) (h8 : s ≤ 8) (x : Int32) : zC w mX1_town (d + 1) [vR 1 i, vI x] (zP M O) (zrI (xg (M 13 i) s (-1) x)) (zP M O) := by
  refine zC_of (cr := 0) (L0 := [vR 1 i, vI x]) rfl (by decide) (by decide) rfl (Nat.le_of_ble_eq_true rfl) rfl ?_
  cases hx : z_ok x s
  · rw [xg_no hx]
    refine g_aload_n (n := 1) dX1_town_0 rfl rfl ?_
    refine g_iload_n (n := 2) dX1_town_1 rfl rfl ?_
    refine g_cVv (n := 5) (c_has hi hs h8 x) dX1_town_2 rfl kw_X1_35 rfl (by decide) (z_lvP (by first | decide | assumption)) (Nat.le_of_ble_eq_true rfl) ⟨Nat.le_refl _, Nat.le_refl _⟩ ?_ rfl
    refine g_if_eq (n := 8) (t := 17) dX1_town_5 rfl (by decide) (fun _ => ?_) (fun q9 => absurd (by rw [hx]; rfl) q9)
    refine g_iconst (n := 18) dX1_town_17 rfl k_ic_m1 ?_
    exact g_ireturn dX1_town_18 rfl rfl rfl rfl
  · obtain ⟨a, ha, rfl⟩ := z_ok_of hx (by omega)
    rw [xg_nI ha (by omega)]
    refine g_aload_n (n := 1) dX1_town_0 rfl rfl ?_
    refine g_iload_n (n := 2) dX1_town_1 rfl rfl ?_
    refine g_cVv (n := 5) (c_has hi hs h8 (nI a)) dX1_town_2 rfl kw_X1_35 rfl (by decide) (z_lvP (by first | decide | assumption)) (Nat.le_of_ble_eq_true rfl) ⟨Nat.le_refl _, Nat.le_refl _⟩ ?_ rfl
    refine g_if_eq (n := 8) (t := 17) dX1_town_5 rfl (by decide) (fun q9 => absurd q9 (by rw [hx]; decide)) (fun _ => ?_)
    refine g_aload_n (n := 9) dX1_town_8 rfl rfl ?_
    refine gf_X1_9 (n := 12) dX1_town_9 rfl rfl (z_lvP (by first | decide | assumption)) rfl ?_
    refine g_iload_n (n := 13) dX1_town_12 rfl rfl ?_
    refine g_iald (n := 14) dX1_town_13 rfl (by decide) (z_lvP (by first | decide | assumption)) rfl (by show _ < 8; first | assumption | omega) ?_
    refine g_goto (n := 0) (t := 18) dX1_town_14 (by decide) ?_
    exact g_ireturn dX1_town_18 rfl rfl rfl rfl
theorem c_xneighbour {s : Nat} (hi : i < 10) (hs : M 1 i 5 = nI s) (h8 : s ≤ 8) (x : Int32) : zC w mX1_neighbour (d + 1) [vR 1 i, vI x] (zP M O) (zrI (xg (M 14 i) s (-1) x)) (zP M O) := by
  refine zC_of (cr := 0) (L0 := [vR 1 i, vI x]) rfl (by decide) (by decide) rfl (Nat.le_of_ble_eq_true rfl) rfl ?_
  cases hx : z_ok x s
  · rw [xg_no hx]
    refine g_aload_n (n := 1) dX1_neighbour_0 rfl rfl ?_
    refine g_iload_n (n := 2) dX1_neighbour_1 rfl rfl ?_
    refine g_cVv (n := 5) (c_has hi hs h8 x) dX1_neighbour_2 rfl kw_X1_35 rfl (by decide) (z_lvP (by first | decide | assumption)) (Nat.le_of_ble_eq_true rfl) ⟨Nat.le_refl _, Nat.le_refl _⟩ ?_ rfl
    refine g_if_eq (n := 8) (t := 17) dX1_neighbour_5 rfl (by decide) (fun _ => ?_) (fun q9 => absurd (by rw [hx]; rfl) q9)
    refine g_iconst (n := 18) dX1_neighbour_17 rfl k_ic_m1 ?_
    exact g_ireturn dX1_neighbour_18 rfl rfl rfl rfl
  · obtain ⟨a, ha, rfl⟩ := z_ok_of hx (by omega)
    rw [xg_nI ha (by omega)]
    refine g_aload_n (n := 1) dX1_neighbour_0 rfl rfl ?_
    refine g_iload_n (n := 2) dX1_neighbour_1 rfl rfl ?_
    refine g_cVv (n := 5) (c_has hi hs h8 (nI a)) dX1_neighbour_2 rfl kw_X1_35 rfl (by decide) (z_lvP (by first | decide | assumption)) (Nat.le_of_ble_eq_true rfl) ⟨Nat.le_refl _, Nat.le_refl _⟩ ?_ rfl
    refine g_if_eq (n := 8) (t := 17) dX1_neighbour_5 rfl (by decide) (fun q9 => absurd q9 (by rw [hx]; decide)) (fun _ => ?_)
    refine g_aload_n (n := 9) dX1_neighbour_8 rfl rfl ?_
    refine gf_X1_15 (n := 12) dX1_neighbour_9 rfl rfl (z_lvP (by first | decide | assumption)) rfl ?_
    refine g_iload_n (n := 13) dX1_neighbour_12 rfl rfl ?_
    refine g_iald (n := 14) dX1_neighbour_13 rfl (by decide) (z_lvP (by first | decide | assumption)) rfl (by show _ < 8; first | assumption | omega) ?_
    refine g_goto (n := 0) (t := 18) dX1_neighbour_14 (by decide) ?_
    exact g_ireturn dX1_neighbour_18 rfl rfl rfl rfl
theorem c_xloaves {s : Nat} (hi : i < 10) (hs : M 1 i 5 = nI s) (h8 : s ≤ 8) (x : Int32) : zC w mX1_loaves (d + 1) [vR 1 i, vI x] (zP M O) (zrI (xg (M 16 i) s (nI 0) x)) (zP M O) := by
  refine zC_of (cr := 0) (L0 := [vR 1 i, vI x]) rfl (by decide) (by decide) rfl (Nat.le_of_ble_eq_true rfl) rfl ?_
  cases hx : z_ok x s
  · rw [xg_no hx]
    refine g_aload_n (n := 1) dX1_loaves_0 rfl rfl ?_
    refine g_iload_n (n := 2) dX1_loaves_1 rfl rfl ?_
    refine g_cVv (n := 5) (c_has hi hs h8 x) dX1_loaves_2 rfl kw_X1_35 rfl (by decide) (z_lvP (by first | decide | assumption)) (Nat.le_of_ble_eq_true rfl) ⟨Nat.le_refl _, Nat.le_refl _⟩ ?_ rfl
    refine g_if_eq (n := 8) (t := 17) dX1_loaves_5 rfl (by decide) (fun _ => ?_) (fun q9 => absurd (by rw [hx]; rfl) q9)
    refine g_iconst (n := 18) dX1_loaves_17 rfl k_ic_0 ?_
    exact g_ireturn dX1_loaves_18 rfl rfl rfl rfl
  · obtain ⟨a, ha, rfl⟩ := z_ok_of hx (by omega)
    rw [xg_nI ha (by omega)]
    refine g_aload_n (n := 1) dX1_loaves_0 rfl rfl ?_
    refine g_iload_n (n := 2) dX1_loaves_1 rfl rfl ?_
    refine g_cVv (n := 5) (c_has hi hs h8 (nI a)) dX1_loaves_2 rfl kw_X1_35 rfl (by decide) (z_lvP (by first | decide | assumption)) (Nat.le_of_ble_eq_true rfl) ⟨Nat.le_refl _, Nat.le_refl _⟩ ?_ rfl
    refine g_if_eq (n := 8) (t := 17) dX1_loaves_5 rfl (by decide) (fun q9 => absurd q9 (by rw [hx]; decide)) (fun _ => ?_)
    refine g_aload_n (n := 9) dX1_loaves_8 rfl rfl ?_
    refine gf_X1_21 (n := 12) dX1_loaves_9 rfl rfl (z_lvP (by first | decide | assumption)) rfl ?_
    refine g_iload_n (n := 13) dX1_loaves_12 rfl rfl ?_
    refine g_iald (n := 14) dX1_loaves_13 rfl (by decide) (z_lvP (by first | decide | assumption)) rfl (by show _ < 8; first | assumption | omega) ?_
    refine g_goto (n := 0) (t := 18) dX1_loaves_14 (by decide) ?_
    exact g_ireturn dX1_loaves_18 rfl rfl rfl rfl
theorem c_xcosts {s : Nat} (hi : i < 10) (hs : M 1 i 5 = nI s) (h8 : s ≤ 8) (x : Int32) : zC w mX1_costs (d + 1) [vR 1 i, vI x] (zP M O) (zrI (xg (M 17 i) s (nI 0) x)) (zP M O) := by
  refine zC_of (cr := 0) (L0 := [vR 1 i, vI x]) rfl (by decide) (by decide) rfl (Nat.le_of_ble_eq_true rfl) rfl ?_
  cases hx : z_ok x s
  · rw [xg_no hx]
    refine g_aload_n (n := 1) dX1_costs_0 rfl rfl ?_
    refine g_iload_n (n := 2) dX1_costs_1 rfl rfl ?_
    refine g_cVv (n := 5) (c_has hi hs h8 x) dX1_costs_2 rfl kw_X1_35 rfl (by decide) (z_lvP (by first | decide | assumption)) (Nat.le_of_ble_eq_true rfl) ⟨Nat.le_refl _, Nat.le_refl _⟩ ?_ rfl
    refine g_if_eq (n := 8) (t := 17) dX1_costs_5 rfl (by decide) (fun _ => ?_) (fun q9 => absurd (by rw [hx]; rfl) q9)
    refine g_iconst (n := 18) dX1_costs_17 rfl k_ic_0 ?_
    exact g_ireturn dX1_costs_18 rfl rfl rfl rfl
  · obtain ⟨a, ha, rfl⟩ := z_ok_of hx (by omega)
    rw [xg_nI ha (by omega)]
    refine g_aload_n (n := 1) dX1_costs_0 rfl rfl ?_
    refine g_iload_n (n := 2) dX1_costs_1 rfl rfl ?_
    refine g_cVv (n := 5) (c_has hi hs h8 (nI a)) dX1_costs_2 rfl kw_X1_35 rfl (by decide) (z_lvP (by first | decide | assumption)) (Nat.le_of_ble_eq_true rfl) ⟨Nat.le_refl _, Nat.le_refl _⟩ ?_ rfl
    refine g_if_eq (n := 8) (t := 17) dX1_costs_5 rfl (by decide) (fun q9 => absurd q9 (by rw [hx]; decide)) (fun _ => ?_)
    refine g_aload_n (n := 9) dX1_costs_8 rfl rfl ?_
    refine gf_X1_24 (n := 12) dX1_costs_9 rfl rfl (z_lvP (by first | decide | assumption)) rfl ?_
    refine g_iload_n (n := 13) dX1_costs_12 rfl rfl ?_
    refine g_iald (n := 14) dX1_costs_13 rfl (by decide) (z_lvP (by first | decide | assumption)) rfl (by show _ < 8; first | assumption | omega) ?_
    refine g_goto (n := 0) (t := 18) dX1_costs_14 (by decide) ?_
    exact g_ireturn dX1_costs_18 rfl rfl rfl rfl
theorem c_xisOpen {s : Nat} (hi : i < 10) (hs : M 1 i 5 = nI s) (h8 : s ≤ 8) (x : Int32) : zC w mX1_isOpen (d + 1) [vR 1 i, vI x] (zP M O) (zrI (zb (decide (xg (M 15 i) s 0 x = nI 1)))) (zP M O) := by
  refine zC_of (cr := 0) (L0 := [vR 1 i, vI x]) rfl (by decide) (by decide) rfl (Nat.le_of_ble_eq_true rfl) rfl ?_
  cases hx : z_ok x s
  · rw [xg_no hx]
    refine g_aload_n (n := 1) dX1_isOpen_0 rfl rfl ?_
    refine g_iload_n (n := 2) dX1_isOpen_1 rfl rfl ?_
    refine g_cVv (n := 5) (c_has hi hs h8 x) dX1_isOpen_2 rfl kw_X1_35 rfl (by decide) (z_lvP (by first | decide | assumption)) (Nat.le_of_ble_eq_true rfl) ⟨Nat.le_refl _, Nat.le_refl _⟩ ?_ rfl
    refine g_if_eq (n := 8) (t := 22) dX1_isOpen_5 rfl (by decide) (fun _ => ?_) (fun q9 => absurd (by rw [hx]; rfl) q9)
    refine g_iconst (n := 23) dX1_isOpen_22 rfl k_ic_0 ?_
    exact g_ireturn dX1_isOpen_23 rfl rfl rfl rfl
  · obtain ⟨a, ha, rfl⟩ := z_ok_of hx (by omega)
    rw [xg_nI ha (by omega)]
    refine g_aload_n (n := 1) dX1_isOpen_0 rfl rfl ?_
    refine g_iload_n (n := 2) dX1_isOpen_1 rfl rfl ?_
    refine g_cVv (n := 5) (c_has hi hs h8 (nI a)) dX1_isOpen_2 rfl kw_X1_35 rfl (by decide) (z_lvP (by first | decide | assumption)) (Nat.le_of_ble_eq_true rfl) ⟨Nat.le_refl _, Nat.le_refl _⟩ ?_ rfl
    refine g_if_eq (n := 8) (t := 22) dX1_isOpen_5 rfl (by decide) (fun q9 => absurd q9 (by rw [hx]; decide)) (fun _ => ?_)
    refine g_aload_n (n := 9) dX1_isOpen_8 rfl rfl ?_
    refine gf_X1_18 (n := 12) dX1_isOpen_9 rfl rfl (z_lvP (by first | decide | assumption)) rfl ?_
    refine g_iload_n (n := 13) dX1_isOpen_12 rfl rfl ?_
    refine g_iald (n := 14) dX1_isOpen_13 rfl (by decide) (z_lvP (by first | decide | assumption)) rfl (by show _ < 8; first | assumption | omega) ?_
    refine g_iconst (n := 15) dX1_isOpen_14 rfl k_ic_1 ?_
    refine g_icmp_ne (n := 18) (t := 22) dX1_isOpen_15 rfl (by decide) (fun c15 => ?_) (fun c15 => ?_)
    · rw [decide_eq_false c15]
      refine g_iconst (n := 23) dX1_isOpen_22 rfl k_ic_0 ?_
      exact g_ireturn dX1_isOpen_23 rfl rfl rfl rfl
    · rw [decide_eq_true c15]
      refine g_iconst (n := 19) dX1_isOpen_18 rfl k_ic_1 ?_
      refine g_goto (n := 0) (t := 23) dX1_isOpen_19 (by decide) ?_
      exact g_ireturn dX1_isOpen_23 rfl rfl rfl rfl
theorem c_nlength (hi : i < 10) (x y : Int32) : zC w mX5_length (d + 1) [vR 5 i, vI x, vI y] (zP M O) (zrI (xg2 (M 22 i) 4 4 (nI 0) x y)) (zP M O) := by
  refine zC_of (cr := 0) (L0 := [vR 5 i, vI x, vI y]) rfl (by decide) (by decide) rfl (Nat.le_of_ble_eq_true rfl) rfl ?_
  cases hx : z_ok x 4
  · rw [xg2_no (by rw [hx]; rfl)]
    refine g_iload_n (n := 1) dX5_length_0 rfl rfl ?_
    refine g_cSNv (n := 4) (c_isNeighbour x) dX5_length_1 rfl kw_X5_31 (Nat.le_of_ble_eq_true rfl) ⟨Nat.le_refl _, Nat.le_refl _⟩ ?_ rfl
    refine g_if_eq (n := 7) (t := 27) dX5_length_4 rfl (by decide) (fun _ => ?_) (fun q9 => absurd (by rw [hx]; rfl) q9)
    refine g_iconst (n := 28) dX5_length_27 rfl k_ic_0 ?_
    exact g_ireturn dX5_length_28 rfl rfl rfl rfl
  · cases hy : z_ok y 4
    · rw [xg2_no (by rw [hx, hy]; rfl)]
      refine g_iload_n (n := 1) dX5_length_0 rfl rfl ?_
      refine g_cSNv (n := 4) (c_isNeighbour x) dX5_length_1 rfl kw_X5_31 (Nat.le_of_ble_eq_true rfl) ⟨Nat.le_refl _, Nat.le_refl _⟩ ?_ rfl
      refine g_if_eq (n := 7) (t := 27) dX5_length_4 rfl (by decide) (fun q9 => absurd q9 (by rw [hx]; decide)) (fun _ => ?_)
      refine g_iload_n (n := 8) dX5_length_7 rfl rfl ?_
      refine g_cSNv (n := 11) (c_isHouse y) dX5_length_8 rfl kw_X5_35 (Nat.le_of_ble_eq_true rfl) ⟨Nat.le_refl _, Nat.le_refl _⟩ ?_ rfl
      refine g_if_eq (n := 14) (t := 27) dX5_length_11 rfl (by decide) (fun _ => ?_) (fun q9 => absurd (by rw [hy]; rfl) q9)
      refine g_iconst (n := 28) dX5_length_27 rfl k_ic_0 ?_
      exact g_ireturn dX5_length_28 rfl rfl rfl rfl
    · obtain ⟨a, ha, rfl⟩ := z_ok_of hx (by decide)
      obtain ⟨b, hb, rfl⟩ := z_ok_of hy (by decide)
      rw [xg2_nI ha (by decide) hb (by decide)]
      refine g_iload_n (n := 1) dX5_length_0 rfl rfl ?_
      refine g_cSNv (n := 4) (c_isNeighbour (nI a)) dX5_length_1 rfl kw_X5_31 (Nat.le_of_ble_eq_true rfl) ⟨Nat.le_refl _, Nat.le_refl _⟩ ?_ rfl
      refine g_if_eq (n := 7) (t := 27) dX5_length_4 rfl (by decide) (fun q9 => absurd q9 (by rw [hx]; decide)) (fun _ => ?_)
      refine g_iload_n (n := 8) dX5_length_7 rfl rfl ?_
      refine g_cSNv (n := 11) (c_isHouse (nI b)) dX5_length_8 rfl kw_X5_35 (Nat.le_of_ble_eq_true rfl) ⟨Nat.le_refl _, Nat.le_refl _⟩ ?_ rfl
      refine g_if_eq (n := 14) (t := 27) dX5_length_11 rfl (by decide) (fun q9 => absurd q9 (by rw [hy]; decide)) (fun _ => ?_)
      refine g_aload_n (n := 15) dX5_length_14 rfl rfl ?_
      refine gf_X5_9 (n := 18) dX5_length_15 rfl rfl (z_lvP (by first | decide | assumption)) rfl ?_
      refine g_iload_n (n := 19) dX5_length_18 rfl rfl ?_
      refine g_iconst (n := 20) dX5_length_19 rfl k_ic_4 ?_
      refine g_imul (n := 21) dX5_length_20 rfl ?_
      refine g_iload_n (n := 22) dX5_length_21 rfl rfl ?_
      refine g_iadd (n := 23) dX5_length_22 rfl ?_
      refine g_iald (a := (4 * a + b)) (n := 24) dX5_length_23 rfl (by decide) (z_lvP (by first | decide | assumption)) (by rw [pk_mul, nI_add, Nat.mul_comm]) (by show _ < 16; first | assumption | omega) ?_
      refine g_goto (n := 0) (t := 28) dX5_length_24 (by decide) ?_
      exact g_ireturn dX5_length_28 rfl rfl rfl rfl
theorem c_nboundOf (hi : i < 10) (x : Int32) : zC w mX5_boundOf (d + 1) [vR 5 i, vI x] (zP M O) (zrI (xg (M 23 i) 4 (nI 0) x)) (zP M O) := by
  refine zC_of (cr := 0) (L0 := [vR 5 i, vI x]) rfl (by decide) (by decide) rfl (Nat.le_of_ble_eq_true rfl) rfl ?_
  cases hx : z_ok x 4
  · rw [xg_no hx]
    refine g_iload_n (n := 1) dX5_boundOf_0 rfl rfl ?_
    refine g_cSNv (n := 4) (c_isNeighbour x) dX5_boundOf_1 rfl kw_X5_31 (Nat.le_of_ble_eq_true rfl) ⟨Nat.le_refl _, Nat.le_refl _⟩ ?_ rfl
    refine g_if_eq (n := 7) (t := 16) dX5_boundOf_4 rfl (by decide) (fun _ => ?_) (fun q9 => absurd (by rw [hx]; rfl) q9)
    refine g_iconst (n := 17) dX5_boundOf_16 rfl k_ic_0 ?_
    exact g_ireturn dX5_boundOf_17 rfl rfl rfl rfl
  · obtain ⟨a, ha, rfl⟩ := z_ok_of hx (by decide)
    rw [xg_nI ha (by decide)]
    refine g_iload_n (n := 1) dX5_boundOf_0 rfl rfl ?_
    refine g_cSNv (n := 4) (c_isNeighbour (nI a)) dX5_boundOf_1 rfl kw_X5_31 (Nat.le_of_ble_eq_true rfl) ⟨Nat.le_refl _, Nat.le_refl _⟩ ?_ rfl
    refine g_if_eq (n := 7) (t := 16) dX5_boundOf_4 rfl (by decide) (fun q9 => absurd q9 (by rw [hx]; decide)) (fun _ => ?_)
    refine g_aload_n (n := 8) dX5_boundOf_7 rfl rfl ?_
    refine gf_X5_15 (n := 11) dX5_boundOf_8 rfl rfl (z_lvP (by first | decide | assumption)) rfl ?_
    refine g_iload_n (n := 12) dX5_boundOf_11 rfl rfl ?_
    refine g_iald (n := 13) dX5_boundOf_12 rfl (by decide) (z_lvP (by first | decide | assumption)) rfl (by show _ < 4; first | assumption | omega) ?_
    refine g_goto (n := 0) (t := 17) dX5_boundOf_13 (by decide) ?_
    exact g_ireturn dX5_boundOf_17 rfl rfl rfl rfl
theorem c_ncame (hi : i < 10) (x : Int32) : zC w mX5_came (d + 1) [vR 5 i, vI x] (zP M O) (zrI (xg (M 24 i) 4 (nI 0) x)) (zP M O) := by
  refine zC_of (cr := 0) (L0 := [vR 5 i, vI x]) rfl (by decide) (by decide) rfl (Nat.le_of_ble_eq_true rfl) rfl ?_
  cases hx : z_ok x 4
  · rw [xg_no hx]
    refine g_iload_n (n := 1) dX5_came_0 rfl rfl ?_
    refine g_cSNv (n := 4) (c_isNeighbour x) dX5_came_1 rfl kw_X5_31 (Nat.le_of_ble_eq_true rfl) ⟨Nat.le_refl _, Nat.le_refl _⟩ ?_ rfl
    refine g_if_eq (n := 7) (t := 16) dX5_came_4 rfl (by decide) (fun _ => ?_) (fun q9 => absurd (by rw [hx]; rfl) q9)
    refine g_iconst (n := 17) dX5_came_16 rfl k_ic_0 ?_
    exact g_ireturn dX5_came_17 rfl rfl rfl rfl
  · obtain ⟨a, ha, rfl⟩ := z_ok_of hx (by decide)
    rw [xg_nI ha (by decide)]
    refine g_iload_n (n := 1) dX5_came_0 rfl rfl ?_
    refine g_cSNv (n := 4) (c_isNeighbour (nI a)) dX5_came_1 rfl kw_X5_31 (Nat.le_of_ble_eq_true rfl) ⟨Nat.le_refl _, Nat.le_refl _⟩ ?_ rfl
    refine g_if_eq (n := 7) (t := 16) dX5_came_4 rfl (by decide) (fun q9 => absurd q9 (by rw [hx]; decide)) (fun _ => ?_)
    refine g_aload_n (n := 8) dX5_came_7 rfl rfl ?_
    refine gf_X5_18 (n := 11) dX5_came_8 rfl rfl (z_lvP (by first | decide | assumption)) rfl ?_
    refine g_iload_n (n := 12) dX5_came_11 rfl rfl ?_
    refine g_iald (n := 13) dX5_came_12 rfl (by decide) (z_lvP (by first | decide | assumption)) rfl (by show _ < 4; first | assumption | omega) ?_
    refine g_goto (n := 0) (t := 17) dX5_came_13 (by decide) ?_
    exact g_ireturn dX5_came_17 rfl rfl rfl rfl
theorem c_ncomplaintsSince (hi : i < 10) (x : Int32) : zC w mX5_complaintsSince (d + 1) [vR 5 i, vI x] (zP M O) (zrI (xg (M 25 i) 4 (nI 0) x)) (zP M O) := by
  refine zC_of (cr := 0) (L0 := [vR 5 i, vI x]) rfl (by decide) (by decide) rfl (Nat.le_of_ble_eq_true rfl) rfl ?_
  cases hx : z_ok x 4
  · rw [xg_no hx]
    refine g_iload_n (n := 1) dX5_complaintsSince_0 rfl rfl ?_
    refine g_cSNv (n := 4) (c_isNeighbour x) dX5_complaintsSince_1 rfl kw_X5_31 (Nat.le_of_ble_eq_true rfl) ⟨Nat.le_refl _, Nat.le_refl _⟩ ?_ rfl
    refine g_if_eq (n := 7) (t := 16) dX5_complaintsSince_4 rfl (by decide) (fun _ => ?_) (fun q9 => absurd (by rw [hx]; rfl) q9)
    refine g_iconst (n := 17) dX5_complaintsSince_16 rfl k_ic_0 ?_
    exact g_ireturn dX5_complaintsSince_17 rfl rfl rfl rfl
  · obtain ⟨a, ha, rfl⟩ := z_ok_of hx (by decide)
    rw [xg_nI ha (by decide)]
    refine g_iload_n (n := 1) dX5_complaintsSince_0 rfl rfl ?_
    refine g_cSNv (n := 4) (c_isNeighbour (nI a)) dX5_complaintsSince_1 rfl kw_X5_31 (Nat.le_of_ble_eq_true rfl) ⟨Nat.le_refl _, Nat.le_refl _⟩ ?_ rfl
    refine g_if_eq (n := 7) (t := 16) dX5_complaintsSince_4 rfl (by decide) (fun q9 => absurd q9 (by rw [hx]; decide)) (fun _ => ?_)
    refine g_aload_n (n := 8) dX5_complaintsSince_7 rfl rfl ?_
    refine gf_X5_21 (n := 11) dX5_complaintsSince_8 rfl rfl (z_lvP (by first | decide | assumption)) rfl ?_
    refine g_iload_n (n := 12) dX5_complaintsSince_11 rfl rfl ?_
    refine g_iald (n := 13) dX5_complaintsSince_12 rfl (by decide) (z_lvP (by first | decide | assumption)) rfl (by show _ < 4; first | assumption | omega) ?_
    refine g_goto (n := 0) (t := 17) dX5_complaintsSince_13 (by decide) ?_
    exact g_ireturn dX5_complaintsSince_17 rfl rfl rfl rfl
theorem c_ncomplaintsSoFar (hi : i < 10) (x : Int32) : zC w mX5_complaintsSoFar (d + 1) [vR 5 i, vI x] (zP M O) (zrI (xg (M 26 i) 4 (nI 0) x)) (zP M O) := by
  refine zC_of (cr := 0) (L0 := [vR 5 i, vI x]) rfl (by decide) (by decide) rfl (Nat.le_of_ble_eq_true rfl) rfl ?_
  cases hx : z_ok x 4
  · rw [xg_no hx]
    refine g_iload_n (n := 1) dX5_complaintsSoFar_0 rfl rfl ?_
    refine g_cSNv (n := 4) (c_isNeighbour x) dX5_complaintsSoFar_1 rfl kw_X5_31 (Nat.le_of_ble_eq_true rfl) ⟨Nat.le_refl _, Nat.le_refl _⟩ ?_ rfl
    refine g_if_eq (n := 7) (t := 16) dX5_complaintsSoFar_4 rfl (by decide) (fun _ => ?_) (fun q9 => absurd (by rw [hx]; rfl) q9)
    refine g_iconst (n := 17) dX5_complaintsSoFar_16 rfl k_ic_0 ?_
    exact g_ireturn dX5_complaintsSoFar_17 rfl rfl rfl rfl
  · obtain ⟨a, ha, rfl⟩ := z_ok_of hx (by decide)
    rw [xg_nI ha (by decide)]
    refine g_iload_n (n := 1) dX5_complaintsSoFar_0 rfl rfl ?_
    refine g_cSNv (n := 4) (c_isNeighbour (nI a)) dX5_complaintsSoFar_1 rfl kw_X5_31 (Nat.le_of_ble_eq_true rfl) ⟨Nat.le_refl _, Nat.le_refl _⟩ ?_ rfl
    refine g_if_eq (n := 7) (t := 16) dX5_complaintsSoFar_4 rfl (by decide) (fun q9 => absurd q9 (by rw [hx]; decide)) (fun _ => ?_)
    refine g_aload_n (n := 8) dX5_complaintsSoFar_7 rfl rfl ?_
    refine gf_X5_24 (n := 11) dX5_complaintsSoFar_8 rfl rfl (z_lvP (by first | decide | assumption)) rfl ?_
    refine g_iload_n (n := 12) dX5_complaintsSoFar_11 rfl rfl ?_
    refine g_iald (n := 13) dX5_complaintsSoFar_12 rfl (by decide) (z_lvP (by first | decide | assumption)) rfl (by show _ < 4; first | assumption | omega) ?_
    refine g_goto (n := 0) (t := 17) dX5_complaintsSoFar_13 (by decide) ?_
    exact g_ireturn dX5_complaintsSoFar_17 rfl rfl rfl rfl
theorem c_rcost (hi : i < 10) (x y : Int32) : zC w mX6_cost (d + 1) [vR 6 i, vI x, vI y] (zP M O) (zrI (xg2 (M 27 i) 8 8 (nI 0) x y)) (zP M O) := by
  refine zC_of (cr := 0) (L0 := [vR 6 i, vI x, vI y]) rfl (by decide) (by decide) rfl (Nat.le_of_ble_eq_true rfl) rfl ?_
  cases hx : z_ok x 8
  · rw [xg2_no (by rw [hx]; rfl)]
    refine g_iload_n (n := 1) dX6_cost_0 rfl rfl ?_
    refine g_cSNv (n := 4) (c_isTown x) dX6_cost_1 rfl kw_X6_25 (Nat.le_of_ble_eq_true rfl) ⟨Nat.le_refl _, Nat.le_refl _⟩ ?_ rfl
    refine g_if_eq (n := 7) (t := 28) dX6_cost_4 rfl (by decide) (fun _ => ?_) (fun q9 => absurd (by rw [hx]; rfl) q9)
    refine g_iconst (n := 29) dX6_cost_28 rfl k_ic_0 ?_
    exact g_ireturn dX6_cost_29 rfl rfl rfl rfl
  · cases hy : z_ok y 8
    · rw [xg2_no (by rw [hx, hy]; rfl)]
      refine g_iload_n (n := 1) dX6_cost_0 rfl rfl ?_
      refine g_cSNv (n := 4) (c_isTown x) dX6_cost_1 rfl kw_X6_25 (Nat.le_of_ble_eq_true rfl) ⟨Nat.le_refl _, Nat.le_refl _⟩ ?_ rfl
      refine g_if_eq (n := 7) (t := 28) dX6_cost_4 rfl (by decide) (fun q9 => absurd q9 (by rw [hx]; decide)) (fun _ => ?_)
      refine g_iload_n (n := 8) dX6_cost_7 rfl rfl ?_
      refine g_cSNv (n := 11) (c_isTown y) dX6_cost_8 rfl kw_X6_25 (Nat.le_of_ble_eq_true rfl) ⟨Nat.le_refl _, Nat.le_refl _⟩ ?_ rfl
      refine g_if_eq (n := 14) (t := 28) dX6_cost_11 rfl (by decide) (fun _ => ?_) (fun q9 => absurd (by rw [hy]; rfl) q9)
      refine g_iconst (n := 29) dX6_cost_28 rfl k_ic_0 ?_
      exact g_ireturn dX6_cost_29 rfl rfl rfl rfl
    · obtain ⟨a, ha, rfl⟩ := z_ok_of hx (by decide)
      obtain ⟨b, hb, rfl⟩ := z_ok_of hy (by decide)
      rw [xg2_nI ha (by decide) hb (by decide)]
      refine g_iload_n (n := 1) dX6_cost_0 rfl rfl ?_
      refine g_cSNv (n := 4) (c_isTown (nI a)) dX6_cost_1 rfl kw_X6_25 (Nat.le_of_ble_eq_true rfl) ⟨Nat.le_refl _, Nat.le_refl _⟩ ?_ rfl
      refine g_if_eq (n := 7) (t := 28) dX6_cost_4 rfl (by decide) (fun q9 => absurd q9 (by rw [hx]; decide)) (fun _ => ?_)
      refine g_iload_n (n := 8) dX6_cost_7 rfl rfl ?_
      refine g_cSNv (n := 11) (c_isTown (nI b)) dX6_cost_8 rfl kw_X6_25 (Nat.le_of_ble_eq_true rfl) ⟨Nat.le_refl _, Nat.le_refl _⟩ ?_ rfl
      refine g_if_eq (n := 14) (t := 28) dX6_cost_11 rfl (by decide) (fun q9 => absurd q9 (by rw [hy]; decide)) (fun _ => ?_)
      refine g_aload_n (n := 15) dX6_cost_14 rfl rfl ?_
      refine gf_X6_9 (n := 18) dX6_cost_15 rfl rfl (z_lvP (by first | decide | assumption)) rfl ?_
      refine g_iload_n (n := 19) dX6_cost_18 rfl rfl ?_
      refine g_bipush (n := 21) dX6_cost_19 rfl k_bp_8 ?_
      refine g_imul (n := 22) dX6_cost_21 rfl ?_
      refine g_iload_n (n := 23) dX6_cost_22 rfl rfl ?_
      refine g_iadd (n := 24) dX6_cost_23 rfl ?_
      refine g_iald (a := (8 * a + b)) (n := 25) dX6_cost_24 rfl (by decide) (z_lvP (by first | decide | assumption)) (by rw [pk_mul, nI_add, Nat.mul_comm]) (by show _ < 64; first | assumption | omega) ?_
      refine g_goto (n := 0) (t := 29) dX6_cost_25 (by decide) ?_
      exact g_ireturn dX6_cost_29 rfl rfl rfl rfl
theorem c_rway (hi : i < 10) (x y : Int32) : zC w mX6_way (d + 1) [vR 6 i, vI x, vI y] (zP M O) (zrI (xfar (xg2 (M 28 i) 8 8 xFAR x y))) (zP M O) := by
  refine zC_of (cr := 0) (L0 := [vR 6 i, vI x, vI y, vU]) rfl (by decide) (by decide) rfl (Nat.le_of_ble_eq_true rfl) rfl ?_
  have fin : ∀ v : Int32, zG w mX6_way (d + 1) 0 30 [vR 6 i, vI x, vI y, vU] [vI v] (zP M O) (zrI (xfar v)) (zP M O) := by
    intro v
    unfold xfar xFAR
    refine g_istore3 (n := 31) dX6_way_30 rfl (by decide) rfl ?_
    refine g_iload_n (n := 32) dX6_way_31 rfl rfl ?_
    refine g_ldc (n := 34) dX6_way_32 rfl kc_X6_29 ?_
    refine g_icmp_ge (n := 37) (t := 41) dX6_way_34 rfl (by decide) (fun c34 => ?_) (fun c34 => ?_)
    · rw [if_neg (Int32.not_lt.mpr c34)]
      refine g_iconst (n := 42) dX6_way_41 rfl k_ic_m1 ?_
      exact g_ireturn dX6_way_42 rfl rfl rfl rfl
    · rw [if_pos (Int32.not_le.mp c34)]
      refine g_iload_n (n := 38) dX6_way_37 rfl rfl ?_
      refine g_goto (n := 0) (t := 42) dX6_way_38 (by decide) ?_
      exact g_ireturn dX6_way_42 rfl rfl rfl rfl
  cases hx : z_ok x 8
  · rw [xg2_no (by rw [hx]; rfl)]
    refine g_iload_n (n := 1) dX6_way_0 rfl rfl ?_
    refine g_cSNv (n := 4) (c_isTown x) dX6_way_1 rfl kw_X6_25 (Nat.le_of_ble_eq_true rfl) ⟨Nat.le_refl _, Nat.le_refl _⟩ ?_ rfl
    refine g_if_eq (n := 7) (t := 28) dX6_way_4 rfl (by decide) (fun _ => ?_) (fun q9 => absurd (by rw [hx]; rfl) q9)
    refine g_ldc (n := 30) dX6_way_28 rfl kc_X6_29 ?_
    exact fin _
  · cases hy : z_ok y 8
    · rw [xg2_no (by rw [hx, hy]; rfl)]
      refine g_iload_n (n := 1) dX6_way_0 rfl rfl ?_
      refine g_cSNv (n := 4) (c_isTown x) dX6_way_1 rfl kw_X6_25 (Nat.le_of_ble_eq_true rfl) ⟨Nat.le_refl _, Nat.le_refl _⟩ ?_ rfl
      refine g_if_eq (n := 7) (t := 28) dX6_way_4 rfl (by decide) (fun q9 => absurd q9 (by rw [hx]; decide)) (fun _ => ?_)
      refine g_iload_n (n := 8) dX6_way_7 rfl rfl ?_
      refine g_cSNv (n := 11) (c_isTown y) dX6_way_8 rfl kw_X6_25 (Nat.le_of_ble_eq_true rfl) ⟨Nat.le_refl _, Nat.le_refl _⟩ ?_ rfl
      refine g_if_eq (n := 14) (t := 28) dX6_way_11 rfl (by decide) (fun _ => ?_) (fun q9 => absurd (by rw [hy]; rfl) q9)
      refine g_ldc (n := 30) dX6_way_28 rfl kc_X6_29 ?_
      exact fin _
    · obtain ⟨a, ha, rfl⟩ := z_ok_of hx (by decide)
      obtain ⟨b, hb, rfl⟩ := z_ok_of hy (by decide)
      rw [xg2_nI ha (by decide) hb (by decide)]
      refine g_iload_n (n := 1) dX6_way_0 rfl rfl ?_
      refine g_cSNv (n := 4) (c_isTown (nI a)) dX6_way_1 rfl kw_X6_25 (Nat.le_of_ble_eq_true rfl) ⟨Nat.le_refl _, Nat.le_refl _⟩ ?_ rfl
      refine g_if_eq (n := 7) (t := 28) dX6_way_4 rfl (by decide) (fun q9 => absurd q9 (by rw [hx]; decide)) (fun _ => ?_)
      refine g_iload_n (n := 8) dX6_way_7 rfl rfl ?_
      refine g_cSNv (n := 11) (c_isTown (nI b)) dX6_way_8 rfl kw_X6_25 (Nat.le_of_ble_eq_true rfl) ⟨Nat.le_refl _, Nat.le_refl _⟩ ?_ rfl
      refine g_if_eq (n := 14) (t := 28) dX6_way_11 rfl (by decide) (fun q9 => absurd q9 (by rw [hy]; decide)) (fun _ => ?_)
      refine g_aload_n (n := 15) dX6_way_14 rfl rfl ?_
      refine gf_X6_15 (n := 18) dX6_way_15 rfl rfl (z_lvP (by first | decide | assumption)) rfl ?_
      refine g_iload_n (n := 19) dX6_way_18 rfl rfl ?_
      refine g_bipush (n := 21) dX6_way_19 rfl k_bp_8 ?_
      refine g_imul (n := 22) dX6_way_21 rfl ?_
      refine g_iload_n (n := 23) dX6_way_22 rfl rfl ?_
      refine g_iadd (n := 24) dX6_way_23 rfl ?_
      refine g_iald (a := (8 * a + b)) (n := 25) dX6_way_24 rfl (by decide) (z_lvP (by first | decide | assumption)) (by rw [pk_mul, nI_add, Nat.mul_comm]) (by show _ < 64; first | assumption | omega) ?_
      refine g_goto (n := 0) (t := 30) dX6_way_25 (by decide) ?_
      exact fin _
theorem c_setting (hi : i < 10) (x : Int32) : zC w mX3_setting d [vR 3 i, vI x] (zP M O) (zrI (xg (M 18 i) 2 (nI 0) x)) (zP M O) := by
  refine zC_of (cr := 0) (L0 := [vR 3 i, vI x]) rfl (by decide) (by decide) rfl (Nat.le_of_ble_eq_true rfl) rfl ?_
  refine g_iload_n (n := 1) dX3_setting_0 rfl rfl ?_
  refine g_if_lt (n := 4) (t := 18) dX3_setting_1 rfl (by decide) (fun c1 => ?_) (fun c1 => ?_)
  · rw [xg_no (z_ok_neg c1)]
    refine g_iconst (n := 19) dX3_setting_18 rfl k_ic_0 ?_
    exact g_ireturn dX3_setting_19 rfl rfl rfl rfl
  · refine g_iload_n (n := 5) dX3_setting_4 rfl rfl ?_
    refine g_iconst (n := 6) dX3_setting_5 rfl k_ic_2 ?_
    refine g_icmp_ge (n := 9) (t := 18) dX3_setting_6 rfl (by decide) (fun c6 => ?_) (fun c6 => ?_)
    · rw [xg_no (z_ok_ge c6)]
      refine g_iconst (n := 19) dX3_setting_18 rfl k_ic_0 ?_
      exact g_ireturn dX3_setting_19 rfl rfl rfl rfl
    · obtain ⟨a, ha, rfl⟩ := z_ok_of (z_ok_in c1 c6) (by decide)
      rw [xg_nI ha (by decide)]
      refine g_aload_n (n := 10) dX3_setting_9 rfl rfl ?_
      refine gf_X3_32 (n := 13) dX3_setting_10 rfl rfl (z_lvP (by first | decide | assumption)) rfl ?_
      refine g_iload_n (n := 14) dX3_setting_13 rfl rfl ?_
      refine g_iald (n := 15) dX3_setting_14 rfl (by decide) (z_lvP (by first | decide | assumption)) rfl (by show _ < 2; first | assumption | omega) ?_
      refine g_goto (n := 0) (t := 19) dX3_setting_15 (by decide) ?_
      exact g_ireturn dX3_setting_19 rfl rfl rfl rfl
theorem c_loavesOut (hi : i < 10) (x y : Int32) : zC w mX3_loavesOut (d + 1) [vR 3 i, vI x, vI y] (zP M O) (zrI (xg2 (M 19 i) 8 4 (nI 0) x y)) (zP M O) := by
  refine zC_of (cr := 0) (L0 := [vR 3 i, vI x, vI y]) rfl (by decide) (by decide) rfl (Nat.le_of_ble_eq_true rfl) rfl ?_
  cases hx : z_ok x 8
  · rw [xg2_no (by rw [hx]; rfl)]
    refine g_iload_n (n := 1) dX3_loavesOut_0 rfl rfl ?_
    refine g_cSNv (n := 4) (c_isTown x) dX3_loavesOut_1 rfl kw_X3_67 (Nat.le_of_ble_eq_true rfl) ⟨Nat.le_refl _, Nat.le_refl _⟩ ?_ rfl
    refine g_if_eq (n := 7) (t := 27) dX3_loavesOut_4 rfl (by decide) (fun _ => ?_) (fun q9 => absurd (by rw [hx]; rfl) q9)
    refine g_iconst (n := 28) dX3_loavesOut_27 rfl k_ic_0 ?_
    exact g_ireturn dX3_loavesOut_28 rfl rfl rfl rfl
  · cases hy : z_ok y 4
    · rw [xg2_no (by rw [hx, hy]; rfl)]
      refine g_iload_n (n := 1) dX3_loavesOut_0 rfl rfl ?_
      refine g_cSNv (n := 4) (c_isTown x) dX3_loavesOut_1 rfl kw_X3_67 (Nat.le_of_ble_eq_true rfl) ⟨Nat.le_refl _, Nat.le_refl _⟩ ?_ rfl
      refine g_if_eq (n := 7) (t := 27) dX3_loavesOut_4 rfl (by decide) (fun q9 => absurd q9 (by rw [hx]; decide)) (fun _ => ?_)
      refine g_iload_n (n := 8) dX3_loavesOut_7 rfl rfl ?_
      refine g_cSNv (n := 11) (c_isHouse y) dX3_loavesOut_8 rfl kw_X3_71 (Nat.le_of_ble_eq_true rfl) ⟨Nat.le_refl _, Nat.le_refl _⟩ ?_ rfl
      refine g_if_eq (n := 14) (t := 27) dX3_loavesOut_11 rfl (by decide) (fun _ => ?_) (fun q9 => absurd (by rw [hy]; rfl) q9)
      refine g_iconst (n := 28) dX3_loavesOut_27 rfl k_ic_0 ?_
      exact g_ireturn dX3_loavesOut_28 rfl rfl rfl rfl
    · obtain ⟨a, ha, rfl⟩ := z_ok_of hx (by decide)
      obtain ⟨b, hb, rfl⟩ := z_ok_of hy (by decide)
      rw [xg2_nI ha (by decide) hb (by decide)]
      refine g_iload_n (n := 1) dX3_loavesOut_0 rfl rfl ?_
      refine g_cSNv (n := 4) (c_isTown (nI a)) dX3_loavesOut_1 rfl kw_X3_67 (Nat.le_of_ble_eq_true rfl) ⟨Nat.le_refl _, Nat.le_refl _⟩ ?_ rfl
      refine g_if_eq (n := 7) (t := 27) dX3_loavesOut_4 rfl (by decide) (fun q9 => absurd q9 (by rw [hx]; decide)) (fun _ => ?_)
      refine g_iload_n (n := 8) dX3_loavesOut_7 rfl rfl ?_
      refine g_cSNv (n := 11) (c_isHouse (nI b)) dX3_loavesOut_8 rfl kw_X3_71 (Nat.le_of_ble_eq_true rfl) ⟨Nat.le_refl _, Nat.le_refl _⟩ ?_ rfl
      refine g_if_eq (n := 14) (t := 27) dX3_loavesOut_11 rfl (by decide) (fun q9 => absurd q9 (by rw [hy]; decide)) (fun _ => ?_)
      refine g_aload_n (n := 15) dX3_loavesOut_14 rfl rfl ?_
      refine gf_X3_36 (n := 18) dX3_loavesOut_15 rfl rfl (z_lvP (by first | decide | assumption)) rfl ?_
      refine g_iload_n (n := 19) dX3_loavesOut_18 rfl rfl ?_
      refine g_iconst (n := 20) dX3_loavesOut_19 rfl k_ic_4 ?_
      refine g_imul (n := 21) dX3_loavesOut_20 rfl ?_
      refine g_iload_n (n := 22) dX3_loavesOut_21 rfl rfl ?_
      refine g_iadd (n := 23) dX3_loavesOut_22 rfl ?_
      refine g_iald (a := (4 * a + b)) (n := 24) dX3_loavesOut_23 rfl (by decide) (z_lvP (by first | decide | assumption)) (by rw [pk_mul, nI_add, Nat.mul_comm]) (by show _ < 32; first | assumption | omega) ?_
      refine g_goto (n := 0) (t := 28) dX3_loavesOut_24 (by decide) ?_
      exact g_ireturn dX3_loavesOut_28 rfl rfl rfl rfl
theorem c_hsize : zC w mX2_size d [vR 2 0] (zP M O) (zrI (M 2 0 2)) (zP M O) := by
  refine zC_of (cr := 0) (L0 := [vR 2 0]) rfl (by decide) (by decide) rfl (Nat.le_of_ble_eq_true rfl) rfl ?_
  refine g_aload_n (n := 1) dX2_size_0 rfl rfl ?_
  refine gf_X2_20 (n := 4) dX2_size_1 rfl rfl (z_lvP (by first | decide | assumption)) ?_
  exact g_ireturn dX2_size_4 rfl rfl rfl rfl
theorem c_needExit {s : Nat} (hs : M 1 0 5 = nI s) (h8 : s ≤ 8) (x : Int32) (h : z_ok x s = true) : zC w mX9_needExit (d + 1) [vR 9 0, vI x] (zP M O) zrV (zP M O) := by
  refine zC_of (cr := 0) (L0 := [vR 9 0, vI x]) rfl (by decide) (by decide) rfl (Nat.le_of_ble_eq_true rfl) rfl ?_
  refine g_aload_n (n := 1) dX9_needExit_0 rfl rfl ?_
  refine gf_X9_10 (n := 4) dX9_needExit_1 rfl rfl (z_lvP (by first | decide | assumption)) rfl ?_
  refine gf_X9_83 (n := 7) dX9_needExit_4 rfl rfl (z_lvP (by first | decide | assumption)) rfl ?_
  refine g_iload_n (n := 8) dX9_needExit_7 rfl rfl ?_
  refine g_cVv (n := 11) (c_has (by decide) hs h8 x) dX9_needExit_8 rfl kw_X9_368 rfl (by decide) (z_lvP (by first | decide | assumption)) (Nat.le_of_ble_eq_true rfl) ⟨Nat.le_refl _, Nat.le_refl _⟩ ?_ rfl
  refine g_if_ne (n := 14) (t := 25) dX9_needExit_11 rfl (by decide) (fun _ => ?_) (fun q9 => absurd q9 (by rw [h]; decide))
  exact g_return dX9_needExit_25 rfl rfl rfl
theorem t_needExit {s : Nat} (hs : M 1 0 5 = nI s) (h8 : s ≤ 8) (x : Int32) (h : z_ok x s = false) : zC w mX9_needExit (d + 6) [vR 9 0, vI x] (zP M O) (zrX xIOOB) (zP M O) := by
  refine zC_of (cr := 1) (L0 := [vR 9 0, vI x]) rfl (by decide) (by decide) rfl (Nat.le_of_ble_eq_true rfl) rfl ?_
  refine g_aload_n (n := 1) dX9_needExit_0 rfl rfl ?_
  refine gf_X9_10 (n := 4) dX9_needExit_1 rfl rfl (z_lvP (by first | decide | assumption)) rfl ?_
  refine gf_X9_83 (n := 7) dX9_needExit_4 rfl rfl (z_lvP (by first | decide | assumption)) rfl ?_
  refine g_iload_n (n := 8) dX9_needExit_7 rfl rfl ?_
  refine g_cVv (n := 11) (c_has (by decide) hs h8 x) dX9_needExit_8 rfl kw_X9_368 rfl (by decide) (z_lvP (by first | decide | assumption)) (Nat.le_of_ble_eq_true rfl) ⟨Nat.le_refl _, Nat.le_refl _⟩ ?_ rfl
  refine g_if_ne (n := 14) (t := 25) dX9_needExit_11 rfl (by decide) (fun q9 => absurd (by rw [h]; decide) q9) (fun _ => ?_)
  exact g_thrW (q := z_exs[1]) (is := 371) (sa := 0) (text := "no such exit") (List.getElem_mem _) rfl rfl (by decide +kernel) (by omega) (Nat.le_of_ble_eq_true rfl) dX9_needExit_14 dX9_needExit_17 dX9_needExit_18 dX9_needExit_21 dX9_needExit_24 rfl rfl rfl
end L2

