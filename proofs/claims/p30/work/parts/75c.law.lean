/-! The law, on. -/
section LW
variable {w : zWp} {tb : List (Nat × Nat × Nat × Nat)} {cr t : Nat} {M : Nat → Nat → Nat → Int32} {O : Nat → Int64} {s s1 h y i : Nat} {V U : Nat → Int32} {r : Int32}
theorem law_road (Z : zS i M s h V) (hy : y < 2 ^ 31) (hi : i < 34) (hk : y % 16 = 5 ∨ y % 16 = 6) (IH : zIH w tb O cr i) : zE w tb O (cr + 1 + 1) 315 [.inl (.ref w.2.2.2.1), vR 9 0, vI (nI 1), vI (nI i), vI (nI y), vI (nI (y / 16)), vI (nI (y % 16)), vI (nI h), vI (nI (y / 16 % 8)), vI (nI (y / 16 / 8 % 4)), vI (nI s), vI (vCho (vDi V) V s (y / 16 % 8) (y / 16 / 8 % 4)), vI (vDe (vDi V) V s (y / 16 % 8) (y / 16 / 8 % 4)), vI (V (139 + (4 * (y / 16 % 8) + (y / 16 / 8 % 4)))), vI (V 171), vI (V 172), vI (V 173), vI (sm (fun j => V (135 + j)) 4), vI (V (2 + (8 * (y / 16 % 8) + aRoad y))), vI (vOt V s (y / 16 % 8) (aRoad y) (y / 16 / 64 % 40)), vU, vU, vU, vU, vU] [] M := by
  have W := Z.W
  have h8 := Z.h8
  have hl : y / 16 < 2 ^ 31 := by omega
  have ha : (y / 16 % 8) < 8 := by omega
  have hb : aRoad y < 8 := by unfold aRoad; omega
  have hab : (y / 16 % 8) ≠ aRoad y := by unfold aRoad; omega
  obtain ⟨M1, Z1, ca⟩ := act_road (w := w) (d := 0) (O := O) Z hy hk
  obtain ⟨rc, lrc, erc⟩ := W.2.1 (8 * (y / 16 % 8) + aRoad y) (by omega)
  have hr : (-2000000 : Int32) < V (2 + (8 * (y / 16 % 8) + aRoad y)) := by
    rw [erc]
    exact neg_lt (by omega)
  have Z1' : zS i M1 s (hNx y h (V (2 + (8 * (y / 16 % 8) + aRoad y)))) (vLay V (y / 16 % 8) (aRoad y) (nI (y / 16 / 64 % 40))) := by
    rw [hNx_y hr (by omega)]
    exact Z1
  obtain ⟨M', G⟩ := law_saved (w := w) (tb := tb) (O := O) (cr := cr + 1) (y := y) (i := i) (h := h) (u10 := vI (nI s)) (u11 := vI (vCho (vDi V) V s (y / 16 % 8) (y / 16 / 8 % 4))) (u12 := vI (vDe (vDi V) V s (y / 16 % 8) (y / 16 / 8 % 4))) (u13 := vI (V (139 + (4 * (y / 16 % 8) + (y / 16 / 8 % 4))))) (u14 := vI (V 171)) (u15 := vI (V 172)) (u16 := vI (V 173)) (u17 := vI (sm (fun j => V (135 + j)) 4)) (u18 := vI (V (2 + (8 * (y / 16 % 8) + aRoad y)))) (v19 := (vOt V s (y / 16 % 8) (aRoad y) (y / 16 / 64 % 40))) Z1' hy Z.h6 (fun N ZN => by
    obtain ⟨N2, Z2, ci⟩ := q_idle (w := w) (d := 2) (O := O) ZN ha hb hab
    rw [id_is W ha hb hab] at ci
    have cr1 := q_roadOf (w := w) (d := 2) (O := O) Z2 ha hb
    rw [vLay_at ha hb] at cr1
    obtain ⟨N3, Z3, cd⟩ := q_dist0 (w := w) (d := 2) (O := O) Z2 ha hb
    obtain ⟨d1, d2⟩ := vd0_r W ha hb hab
    obtain ⟨x, ex⟩ : ∃ x, x = y / 16 / 64 % 40 := ⟨_, rfl⟩
    have hx : x ≤ 39 := by omega
    obtain ⟨n, ln, en⟩ := ot_is V s (y / 16 % 8) (aRoad y) (y / 16 / 64 % 40)
    obtain ⟨Ma, Ga⟩ := law_C (w := w) (tb := tb) (O := O) (cr := cr) (i := i) (y := y) (zS_mono Z2 (Nat.le_succ i) (by omega)) hy hi (fun M h2 Z => IH M _ h2 _ Z)
    obtain ⟨Mb, Gb⟩ := law_C (w := w) (tb := tb) (O := O) (cr := cr) (i := i) (y := y) (zS_mono Z3 (Nat.le_succ i) (by omega)) hy hi (fun M h2 Z => IH M _ h2 _ Z)
    have Ka : ∀ {q : Int32}, zG w (mLw tb) 13 (cr + 1) 714 [.inl (.ref w.2.2.2.1), vR 9 0, vI (nI 1), vI (nI i), vI (nI y), vI (nI (y / 16)), vI (nI (y % 16)), vI (nI h), vI (nI (y / 16 % 8)), vI (nI (y / 16 / 8 % 4)), vI (nI s), vI (vCho (vDi V) V s (y / 16 % 8) (y / 16 / 8 % 4)), vI (vDe (vDi V) V s (y / 16 % 8) (y / 16 / 8 % 4)), vI (V (139 + (4 * (y / 16 % 8) + (y / 16 / 8 % 4)))), vI (V 171), vI (V 172), vI (V 173), vI (sm (fun j => V (135 + j)) 4), vI (V (2 + (8 * (y / 16 % 8) + aRoad y))), vI (vOt V s (y / 16 % 8) (aRoad y) (y / 16 / 64 % 40)), vI (V (2 + (8 * (y / 16 % 8) + aRoad y))), vI (nI (bN (decide (¬ V (2 + (8 * (y / 16 % 8) + aRoad y)) ≤ -2000000)))), vI (nI (aRoad y)), vI (nI (y / 16 / 64 % 40)), vI q] [] (zP N2 O) (zrI (nI 1)) (zP Ma O) := by
      intro q
      refine g_iconst (n := 715) dL_law_714 rfl k_ic_1 ?_
      refine g_goto (n := 0) (t := 719) dL_law_715 (by decide) ?_
      refine g_istore2 (n := 720) dL_law_719 rfl (Nat.le_of_ble_eq_true rfl) rfl ?_
      refine g_goto (n := 0) (t := 762) dL_law_720 (by decide) ?_
      refine g_wk (lv' := [.inl (.ref w.2.2.2.1), vR 9 0, vI (nI 1), vI (nI i), vU, vI (nI (y / 16)), vU, vU, vI (nI (y / 16 % 8)), vI (nI (y / 16 / 8 % 4)), vU, vU, vU, vU, vU, vU, vU, vU, vU, vU, vU, vU, vU, vU, vU]) ⟨.inr rfl, .inr rfl, .inr rfl, .inr rfl, .inl rfl, .inr rfl, .inl rfl, .inl rfl, .inr rfl, .inr rfl, .inl rfl, .inl rfl, .inl rfl, .inl rfl, .inl rfl, .inl rfl, .inl rfl, .inl rfl, .inl rfl, .inl rfl, .inl rfl, .inl rfl, .inl rfl, .inl rfl, .inl rfl, trivial⟩ ?_
      exact Ga
    have Kb : ∀ {q : Int32}, zG w (mLw tb) 13 (cr + 1) 714 [.inl (.ref w.2.2.2.1), vR 9 0, vI (nI 1), vI (nI i), vI (nI y), vI (nI (y / 16)), vI (nI (y % 16)), vI (nI h), vI (nI (y / 16 % 8)), vI (nI (y / 16 / 8 % 4)), vI (nI s), vI (vCho (vDi V) V s (y / 16 % 8) (y / 16 / 8 % 4)), vI (vDe (vDi V) V s (y / 16 % 8) (y / 16 / 8 % 4)), vI (V (139 + (4 * (y / 16 % 8) + (y / 16 / 8 % 4)))), vI (V 171), vI (V 172), vI (V 173), vI (sm (fun j => V (135 + j)) 4), vI (V (2 + (8 * (y / 16 % 8) + aRoad y))), vI (vOt V s (y / 16 % 8) (aRoad y) (y / 16 / 64 % 40)), vI (V (2 + (8 * (y / 16 % 8) + aRoad y))), vI (nI (bN (decide (¬ V (2 + (8 * (y / 16 % 8) + aRoad y)) ≤ -2000000)))), vI (nI (aRoad y)), vI (nI (y / 16 / 64 % 40)), vI q] [] (zP N3 O) (zrI (nI 1)) (zP Mb O) := by
      intro q
      refine g_iconst (n := 715) dL_law_714 rfl k_ic_1 ?_
      refine g_goto (n := 0) (t := 719) dL_law_715 (by decide) ?_
      refine g_istore2 (n := 720) dL_law_719 rfl (Nat.le_of_ble_eq_true rfl) rfl ?_
      refine g_goto (n := 0) (t := 762) dL_law_720 (by decide) ?_
      refine g_wk (lv' := [.inl (.ref w.2.2.2.1), vR 9 0, vI (nI 1), vI (nI i), vU, vI (nI (y / 16)), vU, vU, vI (nI (y / 16 % 8)), vI (nI (y / 16 / 8 % 4)), vU, vU, vU, vU, vU, vU, vU, vU, vU, vU, vU, vU, vU, vU, vU]) ⟨.inr rfl, .inr rfl, .inr rfl, .inr rfl, .inl rfl, .inr rfl, .inl rfl, .inl rfl, .inr rfl, .inr rfl, .inl rfl, .inl rfl, .inl rfl, .inl rfl, .inl rfl, .inl rfl, .inl rfl, .inl rfl, .inl rfl, .inl rfl, .inl rfl, .inl rfl, .inl rfl, .inl rfl, .inl rfl, trivial⟩ ?_
      exact Gb
    have f0 : x = 0 → vd0 V (y / 16 % 8) (aRoad y) < 1000000 → kFar (vLay V (y / 16 % 8) (aRoad y) (nI (y / 16 / 64 % 40))) (y / 16 % 8) (aRoad y) = nI (vd0 V (y / 16 % 8) (aRoad y)) := fun q l => by
      rw [← ex, q]
      exact far_lay0 W ha hb hab l
    have f1 : 0 < x → kFar (vLay V (y / 16 % 8) (aRoad y) (nI (y / 16 / 64 % 40))) (y / 16 % 8) (aRoad y) = nI (min x (vd0 V (y / 16 % 8) (aRoad y))) := fun q => by
      rw [← ex]
      exact far_lay W ha hb hab (by omega) q
    -- to the idle cost
    have P571 : ∀ {M9}, zG w (mLw tb) 13 (cr + 1) 641 [.inl (.ref w.2.2.2.1), vR 9 0, vI (nI 1), vI (nI i), vI (nI y), vI (nI (y / 16)), vI (nI (y % 16)), vI (nI h), vI (nI (y / 16 % 8)), vI (nI (y / 16 / 8 % 4)), vI (nI s), vI (vCho (vDi V) V s (y / 16 % 8) (y / 16 / 8 % 4)), vI (vDe (vDi V) V s (y / 16 % 8) (y / 16 / 8 % 4)), vI (V (139 + (4 * (y / 16 % 8) + (y / 16 / 8 % 4)))), vI (V 171), vI (V 172), vI (V 173), vI (sm (fun j => V (135 + j)) 4), vI (V (2 + (8 * (y / 16 % 8) + aRoad y))), vI (vOt V s (y / 16 % 8) (aRoad y) (y / 16 / 64 % 40)), vI (V (2 + (8 * (y / 16 % 8) + aRoad y))), vI (nI (bN (decide (¬ V (2 + (8 * (y / 16 % 8) + aRoad y)) ≤ -2000000)))), vI (nI (aRoad y)), vI (nI (y / 16 / 64 % 40)), vI (if 99 < vd0 V (y / 16 % 8) (aRoad y) + 1 then -1 else nI (vd0 V (y / 16 % 8) (aRoad y) + 1))] [] (zP N2 O) (zrI (nI 1)) (zP M9 O) → zG w (mLw tb) 13 (cr + 1) 388 [.inl (.ref w.2.2.2.1), vR 9 0, vI (nI 1), vI (nI i), vI (nI y), vI (nI (y / 16)), vI (nI (y % 16)), vI (nI h), vI (nI (y / 16 % 8)), vI (nI (y / 16 / 8 % 4)), vI (nI s), vI (vCho (vDi V) V s (y / 16 % 8) (y / 16 / 8 % 4)), vI (vDe (vDi V) V s (y / 16 % 8) (y / 16 / 8 % 4)), vI (V (139 + (4 * (y / 16 % 8) + (y / 16 / 8 % 4)))), vI (V 171), vI (V 172), vI (V 173), vI (sm (fun j => V (135 + j)) 4), vI (V (2 + (8 * (y / 16 % 8) + aRoad y))), vI (vOt V s (y / 16 % 8) (aRoad y) (y / 16 / 64 % 40)), vI (V (2 + (8 * (y / 16 % 8) + aRoad y))), vI (nI (bN (decide (¬ V (2 + (8 * (y / 16 % 8) + aRoad y)) ≤ -2000000)))), vU, vU, vU] [] (zP N O) (zrI (nI 1)) (zP M9 O) := fun {M9} G9 => by
      have K571 : zG w (mLw tb) 13 (cr + 1) 571 [.inl (.ref w.2.2.2.1), vR 9 0, vI (nI 1), vI (nI i), vI (nI y), vI (nI (y / 16)), vI (nI (y % 16)), vI (nI h), vI (nI (y / 16 % 8)), vI (nI (y / 16 / 8 % 4)), vI (nI s), vI (vCho (vDi V) V s (y / 16 % 8) (y / 16 / 8 % 4)), vI (vDe (vDi V) V s (y / 16 % 8) (y / 16 / 8 % 4)), vI (V (139 + (4 * (y / 16 % 8) + (y / 16 / 8 % 4)))), vI (V 171), vI (V 172), vI (V 173), vI (sm (fun j => V (135 + j)) 4), vI (V (2 + (8 * (y / 16 % 8) + aRoad y))), vI (vOt V s (y / 16 % 8) (aRoad y) (y / 16 / 64 % 40)), vI (V (2 + (8 * (y / 16 % 8) + aRoad y))), vI (nI (bN (decide (¬ V (2 + (8 * (y / 16 % 8) + aRoad y)) ≤ -2000000)))), vU, vU, vU] [] (zP N O) (zrI (nI 1)) (zP M9 O) := by
        refine g_iload (n := 573) dL_law_571 rfl rfl ?_
        refine g_iconst (n := 574) dL_law_573 rfl k_ic_1 ?_
        refine g_iaddN (n := 575) dL_law_574 rfl ?_
        refine g_iload (n := 577) dL_law_575 rfl rfl ?_
        refine g_bipush (n := 579) dL_law_577 rfl k_bp_8 ?_
        refine g_idivN (n := 580) dL_law_579 rfl hl (by decide) (by decide) ?_
        refine g_bipush (n := 582) dL_law_580 rfl k_bp_7 ?_
        refine g_iremN (n := 583) dL_law_582 rfl (show y / 16 / 8 < 2 ^ 31 by omega) (by decide) (by decide) ?_
        refine g_iaddN (n := 584) dL_law_583 rfl ?_
        refine g_bipush (n := 586) dL_law_584 rfl k_bp_8 ?_
        refine g_iremN (n := 587) dL_law_586 rfl (show y / 16 + 1 + y / 16 / 8 % 7 < 2 ^ 31 by omega) (by decide) (by decide) ?_
        refine g_istore22 (n := 589) dL_law_587 rfl (Nat.le_of_ble_eq_true rfl) rfl ?_
        refine g_iload (n := 591) dL_law_589 rfl rfl ?_
        refine g_bipush (n := 593) dL_law_591 rfl k_bp_64 ?_
        refine g_idivN (n := 594) dL_law_593 rfl hl (by decide) (by decide) ?_
        refine g_bipush (n := 596) dL_law_594 rfl k_bp_40 ?_
        refine g_iremN (n := 597) dL_law_596 rfl (show y / 16 / 64 < 2 ^ 31 by omega) (by decide) (by decide) ?_
        refine g_istore23 (n := 599) dL_law_597 rfl (Nat.le_of_ble_eq_true rfl) rfl ?_
        refine g_aload_n (n := 600) dL_law_599 rfl rfl ?_
        refine g_iload (n := 602) dL_law_600 rfl rfl ?_
        refine g_iload (n := 604) dL_law_602 rfl rfl ?_
        refine g_cKHv (c9 := 0) (n := 607) ci dL_law_604 rfl kz_L_160 rfl (Or.inl (Nat.le_of_ble_eq_true rfl)) (Nat.le_of_ble_eq_true rfl) rfl rfl ?_ rfl
        refine g_istore24 (n := 609) dL_law_607 rfl (Nat.le_of_ble_eq_true rfl) rfl ?_
        refine g_iload (n := 611) dL_law_609 rfl rfl ?_
        refine g_iload (n := 613) dL_law_611 rfl rfl ?_
        refine g_icmp_ne (n := 616) (t := 718) dL_law_613 rfl (by decide) (fun q9 => absurd rfl q9) (fun _ => ?_)
        refine g_aload_n (n := 617) dL_law_616 rfl rfl ?_
        refine g_iload (n := 619) dL_law_617 rfl rfl ?_
        refine g_iload (n := 621) dL_law_619 rfl rfl ?_
        refine g_cKHv (c9 := 0) (n := 624) cr1 dL_law_621 rfl kz_L_115 rfl (Or.inl (Nat.le_of_ble_eq_true rfl)) (Nat.le_of_ble_eq_true rfl) rfl rfl ?_ rfl
        refine g_iload (n := 626) dL_law_624 rfl rfl ?_
        refine g_icmp_ne (n := 629) (t := 718) dL_law_626 rfl (by decide) (fun q9 => absurd rfl q9) (fun _ => ?_)
        refine g_iload (n := 631) dL_law_629 rfl rfl ?_
        refine g_if_lt (n := 634) (t := 718) dL_law_631 rfl (by decide) (fun q9 => absurd q9 (by rw [en]; exact nI_pos (by omega))) (fun _ => ?_)
        refine g_iload (n := 636) dL_law_634 rfl rfl ?_
        refine g_bipush (n := 638) dL_law_636 rfl k_bp_32 ?_
        refine g_icmp_gt (n := 641) (t := 718) dL_law_638 rfl (by decide) (fun q9 => absurd q9 (by rw [en]; exact fun q => absurd ((nI_ltI (by omega) (by omega)).mp q) (by omega))) (fun _ => ?_)
        exact G9
      rcases hk with hk | hk
      · refine g_iload_n (n := 389) dL_law_388 rfl rfl ?_
        refine g_if_eq (n := 392) (t := 554) dL_law_389 rfl (by decide) (fun q9 => absurd q9 (by decide)) (fun _ => ?_)
        refine g_iload (n := 394) dL_law_392 rfl rfl ?_
        refine g_bipush (n := 396) dL_law_394 rfl k_bp_9 ?_
        refine g_icmp_le (n := 399) (t := 554) dL_law_396 rfl (by decide) (fun _ => ?_) (fun q9 => absurd (nI_le (show y % 16 ≤ 9 by omega) (by decide)) q9)
        refine g_iload_n (n := 555) dL_law_554 rfl rfl ?_
        refine g_if_eq (n := 558) (t := 723) dL_law_555 rfl (by decide) (fun q9 => absurd q9 (by decide)) (fun _ => ?_)
        refine g_iload (n := 560) dL_law_558 rfl rfl ?_
        refine g_iconst (n := 561) dL_law_560 rfl k_ic_5 ?_
        refine g_icmp_eq (n := 564) (t := 571) dL_law_561 rfl (by decide) (fun _ => ?_) (fun q9 => absurd (congrArg nI hk) q9)
        exact K571
      · refine g_iload_n (n := 389) dL_law_388 rfl rfl ?_
        refine g_if_eq (n := 392) (t := 554) dL_law_389 rfl (by decide) (fun q9 => absurd q9 (by decide)) (fun _ => ?_)
        refine g_iload (n := 394) dL_law_392 rfl rfl ?_
        refine g_bipush (n := 396) dL_law_394 rfl k_bp_9 ?_
        refine g_icmp_le (n := 399) (t := 554) dL_law_396 rfl (by decide) (fun _ => ?_) (fun q9 => absurd (nI_le (show y % 16 ≤ 9 by omega) (by decide)) q9)
        refine g_iload_n (n := 555) dL_law_554 rfl rfl ?_
        refine g_if_eq (n := 558) (t := 723) dL_law_555 rfl (by decide) (fun q9 => absurd q9 (by decide)) (fun _ => ?_)
        refine g_iload (n := 560) dL_law_558 rfl rfl ?_
        refine g_iconst (n := 561) dL_law_560 rfl k_ic_5 ?_
        refine g_icmp_eq (n := 564) (t := 571) dL_law_561 rfl (by decide) (fun q9 => absurd q9 (fun q => absurd ((nI_eq (by omega) (by omega)).mp q) (by omega))) (fun _ => ?_)
        refine g_iload (n := 566) dL_law_564 rfl rfl ?_
        refine g_bipush (n := 568) dL_law_566 rfl k_bp_6 ?_
        refine g_icmp_ne (n := 571) (t := 723) dL_law_568 rfl (by decide) (fun q9 => absurd (congrArg nI hk) q9) (fun _ => ?_)
        exact K571
    by_cases far : 99 < vd0 V (y / 16 % 8) (aRoad y) + 1
    · by_cases x0 : x = 0
      · refine ⟨Ma, P571 ?_⟩
        rw [if_pos far]
        refine g_iload (n := 643) dL_law_641 rfl rfl ?_
        refine g_if_ge (n := 646) (t := 668) dL_law_643 rfl (by decide) (fun q9 => absurd q9 (by decide)) (fun _ => ?_)
        refine g_iload (n := 648) dL_law_646 rfl rfl ?_
        refine g_if_eq (n := 651) (t := 714) dL_law_648 rfl (by decide) (fun _ => ?_) (fun q9 => absurd (by rw [← ex, x0]; rfl) q9)
        exact Ka
      · refine ⟨Mb, P571 ?_⟩
        rw [if_pos far]
        rw [f1 (by omega), show min x (vd0 V (y / 16 % 8) (aRoad y)) = y / 16 / 64 % 40 by omega] at cd
        refine g_iload (n := 643) dL_law_641 rfl rfl ?_
        refine g_if_ge (n := 646) (t := 668) dL_law_643 rfl (by decide) (fun q9 => absurd q9 (by decide)) (fun _ => ?_)
        refine g_iload (n := 648) dL_law_646 rfl rfl ?_
        refine g_if_eq (n := 651) (t := 714) dL_law_648 rfl (by decide) (fun q9 => absurd q9 (nI_ne0 (by omega) (by omega))) (fun _ => ?_)
        refine g_aload_n (n := 652) dL_law_651 rfl rfl ?_
        refine g_iload (n := 654) dL_law_652 rfl rfl ?_
        refine g_iload (n := 656) dL_law_654 rfl rfl ?_
        refine g_iconst (n := 657) dL_law_656 rfl k_ic_0 ?_
        refine g_cKHv (c9 := 0) (n := 660) cd dL_law_657 rfl kz_L_112 rfl (Or.inl (Nat.le_of_ble_eq_true rfl)) (Nat.le_of_ble_eq_true rfl) rfl rfl ?_ rfl
        refine g_iload (n := 662) dL_law_660 rfl rfl ?_
        refine g_icmp_ne (n := 665) (t := 718) dL_law_662 rfl (by decide) (fun q9 => absurd rfl q9) (fun _ => ?_)
        refine g_goto (n := 0) (t := 714) dL_law_665 (by decide) ?_
        exact Kb
    · refine ⟨Mb, P571 ?_⟩
      rw [if_neg far]
      have e1 : nI (vd0 V (y / 16 % 8) (aRoad y) + 1) - nI 1 = nI (vd0 V (y / 16 % 8) (aRoad y)) := nI_sub (by omega)
      by_cases x0 : x = 0
      · rw [f0 x0 (by omega)] at cd
        refine g_iload (n := 643) dL_law_641 rfl rfl ?_
        refine g_if_ge (n := 646) (t := 668) dL_law_643 rfl (by decide) (fun _ => ?_) (fun q9 => absurd (nI_pos' (by omega)) q9)
        refine g_iload (n := 670) dL_law_668 rfl rfl ?_
        refine g_iconst (n := 671) dL_law_670 rfl k_ic_1 ?_
        refine g_icmp_le (n := 674) (t := 718) dL_law_671 rfl (by decide) (fun q9 => absurd q9 (nle (show 1 < vd0 V (y / 16 % 8) (aRoad y) + 1 by omega) (by omega))) (fun _ => ?_)
        refine g_iload (n := 676) dL_law_674 rfl rfl ?_
        refine g_bipush (n := 678) dL_law_676 rfl k_bp_99 ?_
        refine g_icmp_gt (n := 681) (t := 718) dL_law_678 rfl (by decide) (fun q9 => absurd q9 (fun q => absurd ((nI_ltI (by omega) (by omega)).mp q) (by omega))) (fun _ => ?_)
        refine g_aload_n (n := 682) dL_law_681 rfl rfl ?_
        refine g_iload (n := 684) dL_law_682 rfl rfl ?_
        refine g_iload (n := 686) dL_law_684 rfl rfl ?_
        refine g_iconst (n := 687) dL_law_686 rfl k_ic_0 ?_
        refine g_cKHv (c9 := 0) (n := 690) cd dL_law_687 rfl kz_L_112 rfl (Or.inl (Nat.le_of_ble_eq_true rfl)) (Nat.le_of_ble_eq_true rfl) rfl rfl ?_ rfl
        refine g_iload (n := 692) dL_law_690 rfl rfl ?_
        refine g_if_eq (n := 695) (t := 702) dL_law_692 rfl (by decide) (fun _ => ?_) (fun q9 => absurd (by rw [← ex, x0]; rfl) q9)
        refine g_iload (n := 704) dL_law_702 rfl rfl ?_
        refine g_iconst (n := 705) dL_law_704 rfl k_ic_1 ?_
        refine g_isub (n := 706) dL_law_705 rfl ?_
        rw [e1]
        refine g_goto (n := 0) (t := 711) dL_law_706 (by decide) ?_
        refine g_icmp_ne (n := 714) (t := 718) dL_law_711 rfl (by decide) (fun q9 => absurd rfl q9) (fun _ => ?_)
        exact Kb
      · rw [f1 (by omega)] at cd
        by_cases l : x < vd0 V (y / 16 % 8) (aRoad y) + 1
        · rw [show min x (vd0 V (y / 16 % 8) (aRoad y)) = y / 16 / 64 % 40 by omega] at cd
          refine g_iload (n := 643) dL_law_641 rfl rfl ?_
          refine g_if_ge (n := 646) (t := 668) dL_law_643 rfl (by decide) (fun _ => ?_) (fun q9 => absurd (nI_pos' (by omega)) q9)
          refine g_iload (n := 670) dL_law_668 rfl rfl ?_
          refine g_iconst (n := 671) dL_law_670 rfl k_ic_1 ?_
          refine g_icmp_le (n := 674) (t := 718) dL_law_671 rfl (by decide) (fun q9 => absurd q9 (nle (show 1 < vd0 V (y / 16 % 8) (aRoad y) + 1 by omega) (by omega))) (fun _ => ?_)
          refine g_iload (n := 676) dL_law_674 rfl rfl ?_
          refine g_bipush (n := 678) dL_law_676 rfl k_bp_99 ?_
          refine g_icmp_gt (n := 681) (t := 718) dL_law_678 rfl (by decide) (fun q9 => absurd q9 (fun q => absurd ((nI_ltI (by omega) (by omega)).mp q) (by omega))) (fun _ => ?_)
          refine g_aload_n (n := 682) dL_law_681 rfl rfl ?_
          refine g_iload (n := 684) dL_law_682 rfl rfl ?_
          refine g_iload (n := 686) dL_law_684 rfl rfl ?_
          refine g_iconst (n := 687) dL_law_686 rfl k_ic_0 ?_
          refine g_cKHv (c9 := 0) (n := 690) cd dL_law_687 rfl kz_L_112 rfl (Or.inl (Nat.le_of_ble_eq_true rfl)) (Nat.le_of_ble_eq_true rfl) rfl rfl ?_ rfl
          refine g_iload (n := 692) dL_law_690 rfl rfl ?_
          refine g_if_eq (n := 695) (t := 702) dL_law_692 rfl (by decide) (fun q9 => absurd q9 (nI_ne0 (by omega) (by omega))) (fun _ => ?_)
          refine g_iload (n := 697) dL_law_695 rfl rfl ?_
          refine g_iload (n := 699) dL_law_697 rfl rfl ?_
          refine g_icmp_lt (n := 702) (t := 709) dL_law_699 rfl (by decide) (fun _ => ?_) (fun q9 => absurd (nI_lt (show y / 16 / 64 % 40 < vd0 V (y / 16 % 8) (aRoad y) + 1 by omega) (by omega)) q9)
          refine g_iload (n := 711) dL_law_709 rfl rfl ?_
          refine g_icmp_ne (n := 714) (t := 718) dL_law_711 rfl (by decide) (fun q9 => absurd rfl q9) (fun _ => ?_)
          exact Kb
        · rw [show min x (vd0 V (y / 16 % 8) (aRoad y)) = vd0 V (y / 16 % 8) (aRoad y) by omega] at cd
          refine g_iload (n := 643) dL_law_641 rfl rfl ?_
          refine g_if_ge (n := 646) (t := 668) dL_law_643 rfl (by decide) (fun _ => ?_) (fun q9 => absurd (nI_pos' (by omega)) q9)
          refine g_iload (n := 670) dL_law_668 rfl rfl ?_
          refine g_iconst (n := 671) dL_law_670 rfl k_ic_1 ?_
          refine g_icmp_le (n := 674) (t := 718) dL_law_671 rfl (by decide) (fun q9 => absurd q9 (nle (show 1 < vd0 V (y / 16 % 8) (aRoad y) + 1 by omega) (by omega))) (fun _ => ?_)
          refine g_iload (n := 676) dL_law_674 rfl rfl ?_
          refine g_bipush (n := 678) dL_law_676 rfl k_bp_99 ?_
          refine g_icmp_gt (n := 681) (t := 718) dL_law_678 rfl (by decide) (fun q9 => absurd q9 (fun q => absurd ((nI_ltI (by omega) (by omega)).mp q) (by omega))) (fun _ => ?_)
          refine g_aload_n (n := 682) dL_law_681 rfl rfl ?_
          refine g_iload (n := 684) dL_law_682 rfl rfl ?_
          refine g_iload (n := 686) dL_law_684 rfl rfl ?_
          refine g_iconst (n := 687) dL_law_686 rfl k_ic_0 ?_
          refine g_cKHv (c9 := 0) (n := 690) cd dL_law_687 rfl kz_L_112 rfl (Or.inl (Nat.le_of_ble_eq_true rfl)) (Nat.le_of_ble_eq_true rfl) rfl rfl ?_ rfl
          refine g_iload (n := 692) dL_law_690 rfl rfl ?_
          refine g_if_eq (n := 695) (t := 702) dL_law_692 rfl (by decide) (fun q9 => absurd q9 (nI_ne0 (by omega) (by omega))) (fun _ => ?_)
          refine g_iload (n := 697) dL_law_695 rfl rfl ?_
          refine g_iload (n := 699) dL_law_697 rfl rfl ?_
          refine g_icmp_lt (n := 702) (t := 709) dL_law_699 rfl (by decide) (fun q9 => absurd q9 (fun q => absurd ((nI_ltI (by omega) (by omega)).mp q) (by omega))) (fun _ => ?_)
          refine g_iload (n := 704) dL_law_702 rfl rfl ?_
          refine g_iconst (n := 705) dL_law_704 rfl k_ic_1 ?_
          refine g_isub (n := 706) dL_law_705 rfl ?_
          rw [e1]
          refine g_goto (n := 0) (t := 711) dL_law_706 (by decide) ?_
          refine g_icmp_ne (n := 714) (t := 718) dL_law_711 rfl (by decide) (fun q9 => absurd rfl q9) (fun _ => ?_)
          exact Kb)
  refine ⟨M', ?_⟩
  refine g_aload_n (n := 316) dL_law_315 rfl rfl ?_
  refine g_iload (n := 318) dL_law_316 rfl rfl ?_
  refine g_cKPv (c9 := 1) (n := 321) ca dL_law_318 rfl kz_L_156 rfl (Or.inl (Nat.le_of_ble_eq_true rfl)) (Nat.le_of_ble_eq_true rfl) rfl rfl ?_ rfl
  refine g_istore20 (n := 323) dL_law_321 rfl (Nat.le_of_ble_eq_true rfl) rfl ?_
  refine g_iload (n := 325) dL_law_323 rfl rfl ?_
  refine g_ldc (n := 327) dL_law_325 rfl kc_L_159 ?_
  refine g_dia_icmp_le (t := 334) dL_law_327 (by decide) dL_law_330 dL_law_331 (by decide) dL_law_334 ?_
  exact G
end LW

