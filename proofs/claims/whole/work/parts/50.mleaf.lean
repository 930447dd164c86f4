/-! The reference: leaf methods. -/
section L7
variable {w : zWp} {d : Nat} {M : Nat → Nat → Nat → Int32} {O : Nat → Int64} {σ : zSt}
theorem r_in (c a b : Int32) : zC w mX10_in d [vI c, vI a, vI b] σ (zrI (zb (tIn c a b))) σ := by
  refine zC_of (cr := 0) (L0 := [vI c, vI a, vI b]) rfl (by decide) (by decide) rfl (Nat.le_of_ble_eq_true rfl) rfl ?_
  unfold tIn
  refine g_iload_n (n := 1) dX10_in_0 rfl rfl ?_
  refine g_iload_n (n := 2) dX10_in_1 rfl rfl ?_
  refine g_icmp_lt (n := 5) (t := 14) dX10_in_2 rfl (by decide) (fun c2 => ?_) (fun c2 => ?_)
  · rw [decide_eq_false (Int32.not_le.mpr c2)]
    refine g_iconst (n := 15) dX10_in_14 rfl k_ic_0 ?_
    exact g_ireturn dX10_in_15 rfl rfl rfl rfl
  · rw [decide_eq_true (Int32.not_lt.mp c2)]
    refine g_iload_n (n := 6) dX10_in_5 rfl rfl ?_
    refine g_iload_n (n := 7) dX10_in_6 rfl rfl ?_
    refine g_icmp_gt (n := 10) (t := 14) dX10_in_7 rfl (by decide) (fun c7 => ?_) (fun c7 => ?_)
    · rw [decide_eq_false (Int32.not_le.mpr c7)]
      refine g_iconst (n := 15) dX10_in_14 rfl k_ic_0 ?_
      exact g_ireturn dX10_in_15 rfl rfl rfl rfl
    · rw [decide_eq_true (Int32.not_lt.mp c7)]
      refine g_iconst (n := 11) dX10_in_10 rfl k_ic_1 ?_
      refine g_goto (n := 0) (t := 15) dX10_in_11 (by decide) ?_
      exact g_ireturn dX10_in_15 rfl rfl rfl rfl
theorem r_thrown : zC w mX10_thrown d [vR 10 0] (zP M O) (zrI (M 10 0 3)) (zP M O) := by
  refine zC_of (cr := 0) (L0 := [vR 10 0]) rfl (by decide) (by decide) rfl (Nat.le_of_ble_eq_true rfl) rfl ?_
  refine g_aload_n (n := 1) dX10_thrown_0 rfl rfl ?_
  refine gf_X10_34 (n := 4) dX10_thrown_1 rfl rfl (z_lvP (by first | decide | assumption)) ?_
  exact g_ireturn dX10_thrown_4 rfl rfl rfl rfl
def rTh (a b : Bool) : Int32 := if a then (if b then nI 0 else nI 2) else nI 1
theorem r_goes (a b : Bool) : zC w mX10_goes d [vR 10 0, vI (zb a), vI (zb b)] (zP M O) (zrI (zb (a && b))) (zP (u3 M 10 0 3 (rTh a b)) O) := by
  refine zC_of (cr := 0) (L0 := [vR 10 0, vI (zb a), vI (zb b)]) rfl (by decide) (by decide) rfl (Nat.le_of_ble_eq_true rfl) rfl ?_
  cases a
  · refine g_aload_n (n := 1) dX10_goes_0 rfl rfl ?_
    refine g_iload_n (n := 2) dX10_goes_1 rfl rfl ?_
    refine g_if_ne (n := 5) (t := 9) dX10_goes_2 rfl (by decide) (fun q9 => absurd rfl q9) (fun _ => ?_)
    refine g_iconst (n := 6) dX10_goes_5 rfl k_ic_1 ?_
    refine g_goto (n := 0) (t := 18) dX10_goes_6 (by decide) ?_
    refine gw_X10_34 (n := 21) dX10_goes_18 rfl rfl (z_lvP (by first | decide | assumption)) ?_
    refine g_aload_n (n := 22) dX10_goes_21 rfl rfl ?_
    refine gf_X10_34 (n := 25) dX10_goes_22 rfl rfl (z_lvP (by first | decide | assumption)) ?_
    refine g_if_ne (n := 28) (t := 32) dX10_goes_25 rfl (by decide) (fun _ => ?_) (fun q9 => absurd q9 (by show ¬ nI 1 = 0; decide))
    refine g_iconst (n := 33) dX10_goes_32 rfl k_ic_0 ?_
    exact g_ireturn dX10_goes_33 rfl rfl rfl rfl
  · cases b
    · refine g_aload_n (n := 1) dX10_goes_0 rfl rfl ?_
      refine g_iload_n (n := 2) dX10_goes_1 rfl rfl ?_
      refine g_if_ne (n := 5) (t := 9) dX10_goes_2 rfl (by decide) (fun _ => ?_) (fun q9 => absurd q9 (by decide))
      refine g_iload_n (n := 10) dX10_goes_9 rfl rfl ?_
      refine g_if_ne (n := 13) (t := 17) dX10_goes_10 rfl (by decide) (fun q9 => absurd rfl q9) (fun _ => ?_)
      refine g_iconst (n := 14) dX10_goes_13 rfl k_ic_2 ?_
      refine g_goto (n := 0) (t := 18) dX10_goes_14 (by decide) ?_
      refine gw_X10_34 (n := 21) dX10_goes_18 rfl rfl (z_lvP (by first | decide | assumption)) ?_
      refine g_aload_n (n := 22) dX10_goes_21 rfl rfl ?_
      refine gf_X10_34 (n := 25) dX10_goes_22 rfl rfl (z_lvP (by first | decide | assumption)) ?_
      refine g_if_ne (n := 28) (t := 32) dX10_goes_25 rfl (by decide) (fun _ => ?_) (fun q9 => absurd q9 (by show ¬ nI 2 = 0; decide))
      refine g_iconst (n := 33) dX10_goes_32 rfl k_ic_0 ?_
      exact g_ireturn dX10_goes_33 rfl rfl rfl rfl
    · refine g_aload_n (n := 1) dX10_goes_0 rfl rfl ?_
      refine g_iload_n (n := 2) dX10_goes_1 rfl rfl ?_
      refine g_if_ne (n := 5) (t := 9) dX10_goes_2 rfl (by decide) (fun _ => ?_) (fun q9 => absurd q9 (by decide))
      refine g_iload_n (n := 10) dX10_goes_9 rfl rfl ?_
      refine g_if_ne (n := 13) (t := 17) dX10_goes_10 rfl (by decide) (fun _ => ?_) (fun q9 => absurd q9 (by decide))
      refine g_iconst (n := 18) dX10_goes_17 rfl k_ic_0 ?_
      refine gw_X10_34 (n := 21) dX10_goes_18 rfl rfl (z_lvP (by first | decide | assumption)) ?_
      refine g_aload_n (n := 22) dX10_goes_21 rfl rfl ?_
      refine gf_X10_34 (n := 25) dX10_goes_22 rfl rfl (z_lvP (by first | decide | assumption)) ?_
      refine g_if_ne (n := 28) (t := 32) dX10_goes_25 rfl (by decide) (fun q9 => absurd rfl q9) (fun _ => ?_)
      refine g_iconst (n := 29) dX10_goes_28 rfl k_ic_1 ?_
      refine g_goto (n := 0) (t := 33) dX10_goes_29 (by decide) ?_
      exact g_ireturn dX10_goes_33 rfl rfl rfl rfl
end L7

