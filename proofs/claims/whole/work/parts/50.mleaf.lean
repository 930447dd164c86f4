/-! The reference: leaf methods. -/
section L7
variable {w : zWp} {d : Nat} {M : Nat → Nat → Nat → Int32} {O : Nat → Int64} {σ : zSt}
theorem r_in (c a b : Int32) : zC w mX10_in d [vI c, vI a, vI b] σ (zrI (zb (tIn c a b))) σ := by
  refine zC_of (cr := 0) (L0 := [vI c, vI a, vI b]) rfl (by decide) (by decide) rfl (Nat.le_of_ble_eq_true rfl) rfl ?_
  unfold tIn
  refine g_iload_n (n := 1) dX10_in_0 rfl rfl ?_
  refine g_iload_n (n := 2) dX10_in_1 rfl rfl ?_
  refine g_icmp_lt (n := 5) (t := 14) dX10_in_2 rfl (by decide) (fun c2 => ?_) (fun c2 => ?_)
  · rw [decide_eq_false (Int32.not_le.mpr c2)]
    refine g_iconst (n := 15) dX10_in_14 rfl k_ic_0 ?_
    exact g_ireturn dX10_in_15 rfl rfl rfl rfl
  · rw [decide_eq_true (Int32.not_lt.mp c2)]
    refine g_iload_n (n := 6) dX10_in_5 rfl rfl ?_
    refine g_iload_n (n := 7) dX10_in_6 rfl rfl ?_
    refine g_icmp_gt (n := 10) (t := 14) dX10_in_7 rfl (by decide) (fun c7 => ?_) (fun c7 => ?_)
    · rw [decide_eq_false (Int32.not_le.mpr c7)]
      refine g_iconst (n := 15) dX10_in_14 rfl k_ic_0 ?_
      exact g_ireturn dX10_in_15 rfl rfl rfl rfl
    · rw [decide_eq_true (Int32.not_lt.mp c7)]
      refine g_iconst (n := 11) dX10_in_10 rfl k_ic_1 ?_
      refine g_goto (n := 0) (t := 15) dX10_in_11 (by decide) ?_
      exact g_ireturn dX10_in_15 rfl rfl rfl rfl
theorem r_thrown : zC w mX10_thrown d [vR 10 0] (zP M O) (zrI (M 10 0 3)) (zP M O) := by
  refine zC_of (cr := 0) (L0 := [vR 10 0]) rfl (by decide) (by decide) rfl (Nat.le_of_ble_eq_true rfl) rfl ?_
  refine g_aload_n (n := 1) dX10_thrown_0 rfl rfl ?_
  refine gf_X10_34 (n := 4) dX10_thrown_1 rfl rfl (z_lvP (by first | decide | assumption)) ?_
  exact g_ireturn dX10_thrown_4 rfl rfl rfl rfl
def rTh (a b : Bool) : Int32 := if a then (if b then nI 0 else nI 2) else nI 1
theorem r_goes (a b : Bool) : zC w mX10_goes d [vR 10 0, vI (zb a), vI (zb b)] (zP M O) (zrI (zb (a && b))) (zP (u3 M 10 0 3 (rTh a b)) O) := by
  refine zC_of (cr := 0) (L0 := [vR 10 0, vI (zb a), vI (zb b)]) rfl (by decide) (by decide) rfl (Nat.le_of_ble_eq_true rfl) rfl ?_
  cases a
  · refine g_aload_n (n := 1) dX10_goes_0 rfl rfl ?_
    refine g_iload_n (n := 2) dX10_goes_1 rfl rfl ?_
    refine g_if_ne (n := 5) (t := 9) dX10_goes_2 rfl (by decide) (fun q9 => absurd rfl q9) (fun _ => ?_)
    refine g_iconst (n := 6) dX10_goes_5 rfl k_ic_1 ?_
    refine g_goto (n := 0) (t := 18) dX10_goes_6 (by decide) ?_
    refine gw_X10_34 (n := 21) dX10_goes_18 rfl rfl (z_lvP (by first | decide | assumption)) ?_
    refine g_aload_n (n := 22) dX10_goes_21 rfl rfl ?_
    refine gf_X10_34 (n := 25) dX10_goes_22 rfl rfl (z_lvP (by first | decide | assumption)) ?_
    refine g_if_ne (n := 28) (t := 32) dX10_goes_25 rfl (by decide) (fun _ => ?_) (fun q9 => absurd q9 (by show ¬ nI 1 = 0; decide))
    refine g_iconst (n := 33) dX10_goes_32 rfl k_ic_0 ?_
    exact g_ireturn dX10_goes_33 rfl rfl rfl rfl
  · cases b
    · refine g_aload_n (n := 1) dX10_goes_0 rfl rfl ?_
      refine g_iload_n (n := 2) dX10_goes_1 rfl rfl ?_
      refine g_if_ne (n := 5) (t := 9) dX10_goes_2 rfl (by decide) (fun _ => ?_) (fun q9 => absurd q9 (by decide))
      refine g_iload_n (n := 10) dX10_goes_9 rfl rfl ?_
      refine g_if_ne (n := 13) (t := 17) dX10_goes_10 rfl (by decide) (fun q9 => absurd rfl q9) (fun _ => ?_)
      refine g_iconst (n := 14) dX10_goes_13 rfl k_ic_2 ?_
      refine g_goto (n := 0) (t := 18) dX10_goes_14 (by decide) ?_
      refine gw_X10_34 (n := 21) dX10_goes_18 rfl rfl (z_lvP (by first | decide | assumption)) ?_
      refine g_aload_n (n := 22) dX10_goes_21 rfl rfl ?_
      refine gf_X10_34 (n := 25) dX10_goes_22 rfl rfl (z_lvP (by first | decide | assumption)) ?_
      refine g_if_ne (n := 28) (t := 32) dX10_goes_25 rfl (by decide) (fun _ => ?_) (fun q9 => absurd q9 (by show ¬ nI 2 = 0; decide))
      refine g_iconst (n := 33) dX10_goes_32 rfl k_ic_0 ?_
      exact g_ireturn dX10_goes_33 rfl rfl rfl rfl
    · refine g_aload_n (n := 1) dX10_goes_0 rfl rfl ?_
      refine g_iload_n (n := 2) dX10_goes_1 rfl rfl ?_
      refine g_if_ne (n := 5) (t := 9) dX10_goes_2 rfl (by decide) (fun _ => ?_) (fun q9 => absurd q9 (by decide))
      refine g_iload_n (n := 10) dX10_goes_9 rfl rfl ?_
      refine g_if_ne (n := 13) (t := 17) dX10_goes_10 rfl (by decide) (fun _ => ?_) (fun q9 => absurd q9 (by decide))
      refine g_iconst (n := 18) dX10_goes_17 rfl k_ic_0 ?_
      refine gw_X10_34 (n := 21) dX10_goes_18 rfl rfl (z_lvP (by first | decide | assumption)) ?_
      refine g_aload_n (n := 22) dX10_goes_21 rfl rfl ?_
      refine gf_X10_34 (n := 25) dX10_goes_22 rfl rfl (z_lvP (by first | decide | assumption)) ?_
      refine g_if_ne (n := 28) (t := 32) dX10_goes_25 rfl (by decide) (fun q9 => absurd rfl q9) (fun _ => ?_)
      refine g_iconst (n := 29) dX10_goes_28 rfl k_ic_1 ?_
      refine g_goto (n := 0) (t := 33) dX10_goes_29 (by decide) ?_
      exact g_ireturn dX10_goes_33 rfl rfl rfl rfl
end L7
section L8
variable {w : zWp} {d : Nat} {M : Nat → Nat → Nat → Int32} {O : Nat → Int64} {σ : zSt}
theorem z_ok_tIn {x : Int32} {n : Nat} (hn : n < 1000000) : tIn x (nI 0) (nI n) = z_ok x (n + 1) := by
  unfold tIn z_ok
  rw [show (nI 0 : Int32) = 0 from rfl]
  congr 1
  rw [decide_eq_decide]
  refine ⟨fun h => ?_, fun h => ?_⟩
  · exact Int32.lt_of_le_of_lt h (nI_lt (by omega) (by omega))
  · by_cases h0 : x < 0
    · exact Int32.le_of_lt (Int32.lt_of_lt_of_le h0 (nI_pos' (by omega)))
    · obtain ⟨a, ha, e⟩ := z_ok_of (z_ok_in h0 (Int32.not_le.mpr h)) (by omega)
      rw [e]
      exact nI_le (by omega) (by omega)
theorem r_isTown (x : Int32) : zC w mX10_isTown (d + 1) [vI x] σ (zrI (zb (z_ok x 8))) σ := by
  have c := r_in (w := w) (d := d) (σ := σ) x (nI 0) (nI 7)
  rw [z_ok_tIn (by decide)] at c
  refine zC_of (cr := 0) (L0 := [vI x]) rfl (by decide) (by decide) rfl (Nat.le_of_ble_eq_true rfl) rfl ?_
  refine g_iload_n (n := 1) dX10_isTown_0 rfl rfl ?_
  refine g_iconst (n := 2) dX10_isTown_1 rfl k_ic_0 ?_
  refine g_bipush (n := 4) dX10_isTown_2 rfl k_bp_7 ?_
  refine g_cSv (n := 7) c dX10_isTown_4 rfl kw_X10_45 (Nat.le_of_ble_eq_true rfl) ⟨Nat.le_refl _, Nat.le_refl _⟩ ?_ rfl
  exact g_ireturn dX10_isTown_7 rfl (by cases z_ok x 8 <;> rfl) rfl rfl
theorem r_isHouse (x : Int32) : zC w mX10_isHouse (d + 1) [vI x] σ (zrI (zb (z_ok x 4))) σ := by
  have c := r_in (w := w) (d := d) (σ := σ) x (nI 0) (nI 3)
  rw [z_ok_tIn (by decide)] at c
  refine zC_of (cr := 0) (L0 := [vI x]) rfl (by decide) (by decide) rfl (Nat.le_of_ble_eq_true rfl) rfl ?_
  refine g_iload_n (n := 1) dX10_isHouse_0 rfl rfl ?_
  refine g_iconst (n := 2) dX10_isHouse_1 rfl k_ic_0 ?_
  refine g_iconst (n := 3) dX10_isHouse_2 rfl k_ic_3 ?_
  refine g_cSv (n := 6) c dX10_isHouse_3 rfl kw_X10_45 (Nat.le_of_ble_eq_true rfl) ⟨Nat.le_refl _, Nat.le_refl _⟩ ?_ rfl
  exact g_ireturn dX10_isHouse_6 rfl (by cases z_ok x 4 <;> rfl) rfl rfl
theorem r_exitAt (b e : Nat) : zC w mX10_exitAt d [vI (nI b), vI (nI e)] σ (zrI (nI (b + (67 + 5 * e)))) σ := by
  refine zC_of (cr := 0) (L0 := [vI (nI b), vI (nI e)]) rfl (by decide) (by decide) rfl (Nat.le_of_ble_eq_true rfl) rfl ?_
  refine g_iload_n (n := 1) dX10_exitAt_0 rfl rfl ?_
  refine g_bipush (n := 3) dX10_exitAt_1 rfl k_bp_67 ?_
  refine g_iadd (n := 4) dX10_exitAt_3 rfl ?_
  refine g_iconst (n := 5) dX10_exitAt_4 rfl k_ic_5 ?_
  refine g_iload_n (n := 6) dX10_exitAt_5 rfl rfl ?_
  refine g_imul (n := 7) dX10_exitAt_6 rfl ?_
  refine g_iadd (n := 8) dX10_exitAt_7 rfl ?_
  exact g_ireturn dX10_exitAt_8 rfl rfl (by rw [pk_mul, nI_add, nI_add, Nat.add_assoc]) rfl
end L8

