/-! The law, on. -/
section LW
variable {w : zWp} {tb : List (Nat × Nat × Nat × Nat)} {cr t : Nat} {M : Nat → Nat → Nat → Int32} {O : Nat → Int64} {s s1 h y i : Nat} {V U : Nat → Int32} {r : Int32}
/-- the end of a round: what the rounds behind it are given -/
abbrev zIH (w : zWp) (tb : List (Nat × Nat × Nat × Nat)) (O : Nat → Int64) (cr i : Nat) : Prop := ∀ M s h V, zS (i + 1) M s h V → zE w tb O cr 100 [.inl (.ref w.2.2.2.1), vR 9 0, vI (nI 1), vI (nI (i + 1)), vU, vU, vU, vU, vU, vU, vU, vU, vU, vU, vU, vU, vU, vU, vU, vU, vU, vU, vU, vU, vU] [] M
theorem law_rest {u10 u11 u12 u13 u14 u15 u16 u17 u18 : zAV} {v19 : Int32} (Z : zS i M s h V) (hy : y < 2 ^ 31) (hi : i < 34) (h1 : 2 ≤ y % 16) (h2 : y % 16 ≤ 9) (h3 : y % 16 ≠ 5) (h4 : y % 16 ≠ 6) (IH : zIH w tb O cr i) : zE w tb O (cr + 1 + 1) 315 [.inl (.ref w.2.2.2.1), vR 9 0, vI (nI 1), vI (nI i), vI (nI y), vI (nI (y / 16)), vI (nI (y % 16)), vI (nI h), vI (nI (y / 16 % 8)), vI (nI (y / 16 / 8 % 4)), u10, u11, u12, u13, u14, u15, u16, u17, u18, vI v19, vU, vU, vU, vU, vU] [] M := by
  obtain ⟨M1, s1, U, r, Z1, ca⟩ := act_rest (w := w) (d := 0) (O := O) Z hy h1 h2 h3 h4
  obtain ⟨M', G⟩ := law_saved (w := w) (tb := tb) (O := O) (cr := cr + 1) (y := y) (i := i) (h := h) (u10 := u10) (u11 := u11) (u12 := u12) (u13 := u13) (u14 := u14) (u15 := u15) (u16 := u16) (u17 := u17) (u18 := u18) (v19 := v19) Z1 hy Z.h6 (fun N ZN => by
    obtain ⟨M', G⟩ := law_C (w := w) (tb := tb) (O := O) (cr := cr) (i := i) (y := y) (zS_mono ZN (Nat.le_succ i) (by omega)) hy hi (fun M h2 Z => IH M _ h2 _ Z)
    refine ⟨M', ?_⟩
    refine g_iload_n (n := 389) dL_law_388 rfl rfl ?_
    refine g_if_eq (n := 392) (t := 554) dL_law_389 rfl (by decide) (fun q9 => absurd q9 (by decide)) (fun _ => ?_)
    refine g_iload (n := 394) dL_law_392 rfl rfl ?_
    refine g_bipush (n := 396) dL_law_394 rfl k_bp_9 ?_
    refine g_icmp_le (n := 399) (t := 554) dL_law_396 rfl (by decide) (fun _ => ?_) (fun q9 => absurd (nI_le h2 (by decide)) q9)
    refine g_iload_n (n := 555) dL_law_554 rfl rfl ?_
    refine g_if_eq (n := 558) (t := 723) dL_law_555 rfl (by decide) (fun q9 => absurd q9 (by decide)) (fun _ => ?_)
    refine g_iload (n := 560) dL_law_558 rfl rfl ?_
    refine g_iconst (n := 561) dL_law_560 rfl k_ic_5 ?_
    refine g_icmp_eq (n := 564) (t := 571) dL_law_561 rfl (by decide) (fun q9 => absurd q9 (fun q => h3 ((nI_eq (by omega) (by omega)).mp q))) (fun _ => ?_)
    refine g_iload (n := 566) dL_law_564 rfl rfl ?_
    refine g_bipush (n := 568) dL_law_566 rfl k_bp_6 ?_
    refine g_icmp_ne (n := 571) (t := 723) dL_law_568 rfl (by decide) (fun _ => ?_) (fun q9 => absurd q9 (fun q => h4 ((nI_eq (by omega) (by omega)).mp q)))
    refine g_iload_n (n := 724) dL_law_723 rfl rfl ?_
    refine g_if_eq (n := 727) (t := 762) dL_law_724 rfl (by decide) (fun q9 => absurd q9 (by decide)) (fun _ => ?_)
    refine g_iload (n := 729) dL_law_727 rfl rfl ?_
    refine g_iconst (n := 730) dL_law_729 rfl k_ic_2 ?_
    refine g_icmp_ge (n := 733) (t := 762) dL_law_730 rfl (by decide) (fun _ => ?_) (fun q9 => absurd (nI_le h1 (by omega)) q9)
    refine g_wk (lv' := [.inl (.ref w.2.2.2.1), vR 9 0, vI (nI 1), vI (nI i), vU, vI (nI (y / 16)), vU, vU, vI (nI (y / 16 % 8)), vI (nI (y / 16 / 8 % 4)), vU, vU, vU, vU, vU, vU, vU, vU, vU, vU, vU, vU, vU, vU, vU]) ⟨.inr rfl, .inr rfl, .inr rfl, .inr rfl, .inl rfl, .inr rfl, .inl rfl, .inl rfl, .inr rfl, .inr rfl, .inl rfl, .inl rfl, .inl rfl, .inl rfl, .inl rfl, .inl rfl, .inl rfl, .inl rfl, .inl rfl, .inl rfl, .inl rfl, .inl rfl, .inl rfl, .inl rfl, .inl rfl, trivial⟩ ?_
    exact G)
  refine ⟨M', ?_⟩
  refine g_aload_n (n := 316) dL_law_315 rfl rfl ?_
  refine g_iload (n := 318) dL_law_316 rfl rfl ?_
  refine g_cKPv (c9 := 1) (n := 321) ca dL_law_318 rfl kz_L_156 rfl (Or.inl (Nat.le_of_ble_eq_true rfl)) (Nat.le_of_ble_eq_true rfl) rfl rfl ?_ rfl
  refine g_istore20 (n := 323) dL_law_321 rfl (Nat.le_of_ble_eq_true rfl) rfl ?_
  refine g_iload (n := 325) dL_law_323 rfl rfl ?_
  refine g_ldc (n := 327) dL_law_325 rfl kc_L_159 ?_
  refine g_dia_icmp_le (t := 334) dL_law_327 (by decide) dL_law_330 dL_law_331 (by decide) dL_law_334 ?_
  exact G
theorem law_exit {u11 u12 u13 u14 u15 u16 u17 u18 : zAV} {v19 : Int32} (Z : zS i M s h V) (hy : y < 2 ^ 31) (hi : i < 34) (h1 : y % 16 < 2) (IH : zIH w tb O cr i) : zE w tb O (cr + 1 + 1) 315 [.inl (.ref w.2.2.2.1), vR 9 0, vI (nI 1), vI (nI i), vI (nI y), vI (nI (y / 16)), vI (nI (y % 16)), vI (nI h), vI (nI (y / 16 % 8)), vI (nI (y / 16 / 8 % 4)), vI (nI s), u11, u12, u13, u14, u15, u16, u17, u18, vI v19, vU, vU, vU, vU, vU] [] M := by
  obtain ⟨M1, s1, U, r, Z1, hr9, ca⟩ := act_exit (w := w) (d := 0) (O := O) Z hy h1
  obtain ⟨M', G⟩ := law_saved (w := w) (tb := tb) (O := O) (cr := cr + 1) (y := y) (i := i) (h := h) (u10 := vI (nI s)) (u11 := u11) (u12 := u12) (u13 := u13) (u14 := u14) (u15 := u15) (u16 := u16) (u17 := u17) (u18 := u18) (v19 := v19) Z1 hy Z.h6 (fun N ZN => by
    obtain ⟨M', G⟩ := law_C (w := w) (tb := tb) (O := O) (cr := cr) (i := i) (y := y) (zS_mono ZN (Nat.le_succ i) (by omega)) hy hi (fun M h2 Z => IH M _ h2 _ Z)
    refine ⟨M', ?_⟩
    by_cases hr : (-2000000 : Int32) < r
    · obtain ⟨er, l1, l2, ex⟩ := hr9 hr
      have co := q_open (w := w) (d := 2) (O := O) ZN l1
      rw [ex] at co
      rw [bN_gt hr, er]
      refine g_iload_n (n := 389) dL_law_388 rfl rfl ?_
      refine g_if_eq (n := 392) (t := 554) dL_law_389 rfl (by decide) (fun q9 => absurd q9 (by decide)) (fun _ => ?_)
      refine g_iload (n := 394) dL_law_392 rfl rfl ?_
      refine g_bipush (n := 396) dL_law_394 rfl k_bp_9 ?_
      refine g_icmp_le (n := 399) (t := 554) dL_law_396 rfl (by decide) (fun _ => ?_) (fun q9 => absurd (nI_le (show y % 16 ≤ 9 by omega) (by decide)) q9)
      refine g_iload_n (n := 555) dL_law_554 rfl rfl ?_
      refine g_if_eq (n := 558) (t := 723) dL_law_555 rfl (by decide) (fun q9 => absurd q9 (by decide)) (fun _ => ?_)
      refine g_iload (n := 560) dL_law_558 rfl rfl ?_
      refine g_iconst (n := 561) dL_law_560 rfl k_ic_5 ?_
      refine g_icmp_eq (n := 564) (t := 571) dL_law_561 rfl (by decide) (fun q9 => absurd q9 (fun q => absurd ((nI_eq (by omega) (by omega)).mp q) (by omega))) (fun _ => ?_)
      refine g_iload (n := 566) dL_law_564 rfl rfl ?_
      refine g_bipush (n := 568) dL_law_566 rfl k_bp_6 ?_
      refine g_icmp_ne (n := 571) (t := 723) dL_law_568 rfl (by decide) (fun _ => ?_) (fun q9 => absurd q9 (fun q => absurd ((nI_eq (by omega) (by omega)).mp q) (by omega)))
      refine g_iload_n (n := 724) dL_law_723 rfl rfl ?_
      refine g_if_eq (n := 727) (t := 762) dL_law_724 rfl (by decide) (fun q9 => absurd q9 (by decide)) (fun _ => ?_)
      refine g_iload (n := 729) dL_law_727 rfl rfl ?_
      refine g_iconst (n := 730) dL_law_729 rfl k_ic_2 ?_
      refine g_icmp_ge (n := 733) (t := 762) dL_law_730 rfl (by decide) (fun q9 => absurd q9 (nle h1 (by decide))) (fun _ => ?_)
      refine g_iload (n := 735) dL_law_733 rfl rfl ?_
      refine g_if_eq (n := 738) (t := 756) dL_law_735 rfl (by decide) (fun q9 => absurd q9 (by decide)) (fun _ => ?_)
      refine g_iload (n := 740) dL_law_738 rfl rfl ?_
      refine g_iload (n := 742) dL_law_740 rfl rfl ?_
      refine g_icmp_ne (n := 745) (t := 760) dL_law_742 rfl (by decide) (fun q9 => absurd rfl q9) (fun _ => ?_)
      refine g_aload_n (n := 746) dL_law_745 rfl rfl ?_
      refine g_iload (n := 748) dL_law_746 rfl rfl ?_
      refine g_iconst (n := 749) dL_law_748 rfl k_ic_2 ?_
      refine g_cKHv (c9 := 0) (n := 752) co dL_law_749 rfl kz_L_125 rfl (Or.inl (Nat.le_of_ble_eq_true rfl)) (Nat.le_of_ble_eq_true rfl) rfl rfl ?_ rfl
      refine g_iconst (n := 753) dL_law_752 rfl k_ic_1 ?_
      refine g_icmp_ne (n := 756) (t := 760) dL_law_753 rfl (by decide) (fun q9 => absurd rfl q9) (fun _ => ?_)
      refine g_iconst (n := 757) dL_law_756 rfl k_ic_1 ?_
      refine g_goto (n := 0) (t := 761) dL_law_757 (by decide) ?_
      refine g_istore2 (n := 762) dL_law_761 rfl (Nat.le_of_ble_eq_true rfl) rfl ?_
      refine g_wk (lv' := [.inl (.ref w.2.2.2.1), vR 9 0, vI (nI 1), vI (nI i), vU, vI (nI (y / 16)), vU, vU, vI (nI (y / 16 % 8)), vI (nI (y / 16 / 8 % 4)), vU, vU, vU, vU, vU, vU, vU, vU, vU, vU, vU, vU, vU, vU, vU]) ⟨.inr rfl, .inr rfl, .inr rfl, .inr rfl, .inl rfl, .inr rfl, .inl rfl, .inl rfl, .inr rfl, .inr rfl, .inl rfl, .inl rfl, .inl rfl, .inl rfl, .inl rfl, .inl rfl, .inl rfl, .inl rfl, .inl rfl, .inl rfl, .inl rfl, .inl rfl, .inl rfl, .inl rfl, .inl rfl, trivial⟩ ?_
      exact G
    · rw [bN_ng hr]
      refine g_iload_n (n := 389) dL_law_388 rfl rfl ?_
      refine g_if_eq (n := 392) (t := 554) dL_law_389 rfl (by decide) (fun q9 => absurd q9 (by decide)) (fun _ => ?_)
      refine g_iload (n := 394) dL_law_392 rfl rfl ?_
      refine g_bipush (n := 396) dL_law_394 rfl k_bp_9 ?_
      refine g_icmp_le (n := 399) (t := 554) dL_law_396 rfl (by decide) (fun _ => ?_) (fun q9 => absurd (nI_le (show y % 16 ≤ 9 by omega) (by decide)) q9)
      refine g_iload_n (n := 555) dL_law_554 rfl rfl ?_
      refine g_if_eq (n := 558) (t := 723) dL_law_555 rfl (by decide) (fun q9 => absurd q9 (by decide)) (fun _ => ?_)
      refine g_iload (n := 560) dL_law_558 rfl rfl ?_
      refine g_iconst (n := 561) dL_law_560 rfl k_ic_5 ?_
      refine g_icmp_eq (n := 564) (t := 571) dL_law_561 rfl (by decide) (fun q9 => absurd q9 (fun q => absurd ((nI_eq (by omega) (by omega)).mp q) (by omega))) (fun _ => ?_)
      refine g_iload (n := 566) dL_law_564 rfl rfl ?_
      refine g_bipush (n := 568) dL_law_566 rfl k_bp_6 ?_
      refine g_icmp_ne (n := 571) (t := 723) dL_law_568 rfl (by decide) (fun _ => ?_) (fun q9 => absurd q9 (fun q => absurd ((nI_eq (by omega) (by omega)).mp q) (by omega)))
      refine g_iload_n (n := 724) dL_law_723 rfl rfl ?_
      refine g_if_eq (n := 727) (t := 762) dL_law_724 rfl (by decide) (fun q9 => absurd q9 (by decide)) (fun _ => ?_)
      refine g_iload (n := 729) dL_law_727 rfl rfl ?_
      refine g_iconst (n := 730) dL_law_729 rfl k_ic_2 ?_
      refine g_icmp_ge (n := 733) (t := 762) dL_law_730 rfl (by decide) (fun q9 => absurd q9 (nle h1 (by decide))) (fun _ => ?_)
      refine g_iload (n := 735) dL_law_733 rfl rfl ?_
      refine g_if_eq (n := 738) (t := 756) dL_law_735 rfl (by decide) (fun _ => ?_) (fun q9 => absurd rfl q9)
      refine g_iconst (n := 757) dL_law_756 rfl k_ic_1 ?_
      refine g_goto (n := 0) (t := 761) dL_law_757 (by decide) ?_
      refine g_istore2 (n := 762) dL_law_761 rfl (Nat.le_of_ble_eq_true rfl) rfl ?_
      refine g_wk (lv' := [.inl (.ref w.2.2.2.1), vR 9 0, vI (nI 1), vI (nI i), vU, vI (nI (y / 16)), vU, vU, vI (nI (y / 16 % 8)), vI (nI (y / 16 / 8 % 4)), vU, vU, vU, vU, vU, vU, vU, vU, vU, vU, vU, vU, vU, vU, vU]) ⟨.inr rfl, .inr rfl, .inr rfl, .inr rfl, .inl rfl, .inr rfl, .inl rfl, .inl rfl, .inr rfl, .inr rfl, .inl rfl, .inl rfl, .inl rfl, .inl rfl, .inl rfl, .inl rfl, .inl rfl, .inl rfl, .inl rfl, .inl rfl, .inl rfl, .inl rfl, .inl rfl, .inl rfl, .inl rfl, trivial⟩ ?_
      exact G)
  refine ⟨M', ?_⟩
  refine g_aload_n (n := 316) dL_law_315 rfl rfl ?_
  refine g_iload (n := 318) dL_law_316 rfl rfl ?_
  refine g_cKPv (c9 := 1) (n := 321) ca dL_law_318 rfl kz_L_156 rfl (Or.inl (Nat.le_of_ble_eq_true rfl)) (Nat.le_of_ble_eq_true rfl) rfl rfl ?_ rfl
  refine g_istore20 (n := 323) dL_law_321 rfl (Nat.le_of_ble_eq_true rfl) rfl ?_
  refine g_iload (n := 325) dL_law_323 rfl rfl ?_
  refine g_ldc (n := 327) dL_law_325 rfl kc_L_159 ?_
  refine g_dia_icmp_le (t := 334) dL_law_327 (by decide) dL_law_330 dL_law_331 (by decide) dL_law_334 ?_
  exact G
end LW

