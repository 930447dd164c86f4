/-! The law, on. -/
section LW
variable {w : zWp} {tb : List (Nat × Nat × Nat × Nat)} {cr t : Nat} {M : Nat → Nat → Nat → Int32} {O : Nat → Int64} {s s1 h y i : Nat} {V U : Nat → Int32} {r : Int32}
theorem law_send {had chg : Int32} (Z : zS i M s h V) (hy : y < 2 ^ 31) (hi : i < 34) (hk : 9 < y % 16) (IH : zIH w tb O cr i) : zE w tb O (cr + 1 + 1) 315 [.inl (.ref w.2.2.2.1), vR 9 0, vI (nI 1), vI (nI i), vI (nI y), vI (nI (y / 16)), vI (nI (y % 16)), vI (nI h), vI (nI (y / 16 % 8)), vI (nI (y / 16 / 8 % 4)), vI (nI s), vI (vCho (vDi V) V s (y / 16 % 8) (y / 16 / 8 % 4)), vI (vDe (vDi V) V s (y / 16 % 8) (y / 16 / 8 % 4)), vI (V (139 + (4 * (y / 16 % 8) + (y / 16 / 8 % 4)))), vI (V 171), vI (V 172), vI (V 173), vI (sm (fun j => V (135 + j)) 4), vI (had), vI (chg), vU, vU, vU, vU, vU] [] M := by
  have W := Z.W
  have h8 := Z.h8
  have ha : (y / 16 % 8) < 8 := by omega
  have hb : (y / 16 / 8 % 4) < 4 := by omega
  obtain ⟨M1, Z1, ca⟩ := act_send (w := w) (d := 0) (O := O) Z (by omega) hy hk
  have hr : (-2000000 : Int32) < vCho (vDi V) V s (y / 16 % 8) (y / 16 / 8 % 4) := by
    rcases vCho_in2 W Z.ss h8 ha hb with x | ⟨e, he, x⟩
    · rw [x]; decide
    · rw [x]; exact neg_lt (by omega)
  have Z1' : zS (i + 1) M1 s (hNx y h (vCho (vDi V) V s (y / 16 % 8) (y / 16 / 8 % 4))) (vSnd V s (y / 16 % 8) (y / 16 / 8 % 4)) := by
    rw [hNx_y hr (by omega)]
    exact Z1
  obtain ⟨M', G⟩ := law_saved (w := w) (tb := tb) (O := O) (cr := cr + 1) (y := y) (i := i) (h := h) (u10 := vI (nI s)) (u11 := vI (vCho (vDi V) V s (y / 16 % 8) (y / 16 / 8 % 4))) (u12 := vI (vDe (vDi V) V s (y / 16 % 8) (y / 16 / 8 % 4))) (u13 := vI (V (139 + (4 * (y / 16 % 8) + (y / 16 / 8 % 4))))) (u14 := vI (V 171)) (u15 := vI (V 172)) (u16 := vI (V 173)) (u17 := vI (sm (fun j => V (135 + j)) 4)) (u18 := vI (had)) (v19 := (chg)) Z1' hy Z.h6 (fun N ZN => by
    obtain ⟨N4, Z4, c4⟩ := q_count (w := w) (d := 2) (O := O) ZN (show 4 < 10 by decide)
    obtain ⟨N5, Z5, c5⟩ := q_count (w := w) (d := 2) (O := O) Z4 (show 5 < 10 by decide)
    obtain ⟨N6, Z6, c6⟩ := q_count (w := w) (d := 2) (O := O) Z5 (show 6 < 10 by decide)
    obtain ⟨N7, Z7, c7⟩ := q_choice (w := w) (d := 2) (O := O) Z6 ha hb (show 4 < 6 by decide)
    rcases vCho_in2 W Z.ss h8 ha hb with x | ⟨e, he, x⟩
    · obtain ⟨M', G⟩ := law_C (w := w) (tb := tb) (O := O) (cr := cr) (i := i) (y := y) Z7 hy hi (fun M h2 Z => IH M _ h2 _ Z)
      refine ⟨M', ?_⟩
      rcases snd_cold x with ⟨e1, e2, e3, e4⟩ | q
      · rw [show ∀ k, vCt (vSnd V s (y / 16 % 8) (y / 16 / 8 % 4)) s k 4 = V 171 + nI 1 from fun _ => e1] at c4
        rw [show ∀ k, vCt (vSnd V s (y / 16 % 8) (y / 16 / 8 % 4)) s k 5 = V 172 + nI 1 from fun _ => e2] at c5
        rw [show ∀ k, vCt (vSnd V s (y / 16 % 8) (y / 16 / 8 % 4)) s k 6 = V 173 + nI 0 from fun _ => e3] at c6
        rw [show vCh (vSnd V s (y / 16 % 8) (y / 16 / 8 % 4)) s (y / 16 % 8) (y / 16 / 8 % 4) 4 = V (139 + (4 * (y / 16 % 8) + (y / 16 / 8 % 4))) + nI 0 from e4] at c7
        have nd : ¬ 0 ≤ vCho (vDi V) V s (y / 16 % 8) (y / 16 / 8 % 4) := by rw [x]; decide
        have eb : bN (decide (¬ 0 ≤ vCho (vDi V) V s (y / 16 % 8) (y / 16 / 8 % 4))) = 1 := by rw [decide_eq_true nd]; rfl
        refine g_iload_n (n := 389) dL_law_388 rfl rfl ?_
        refine g_if_eq (n := 392) (t := 554) dL_law_389 rfl (by decide) (fun q9 => absurd q9 (by decide)) (fun _ => ?_)
        refine g_iload (n := 394) dL_law_392 rfl rfl ?_
        refine g_bipush (n := 396) dL_law_394 rfl k_bp_9 ?_
        refine g_icmp_le (n := 399) (t := 554) dL_law_396 rfl (by decide) (fun q9 => absurd q9 (nle hk (by omega))) (fun _ => ?_)
        refine g_iload (n := 401) dL_law_399 rfl rfl ?_
        refine g_iload (n := 403) dL_law_401 rfl rfl ?_
        refine g_icmp_ne (n := 406) (t := 491) dL_law_403 rfl (by decide) (fun q9 => absurd rfl q9) (fun _ => ?_)
        refine g_aload_n (n := 407) dL_law_406 rfl rfl ?_
        refine g_iconst (n := 408) dL_law_407 rfl k_ic_4 ?_
        refine g_cKHv (c9 := 0) (n := 411) c4 dL_law_408 rfl kz_L_117 rfl (Or.inl (Nat.le_of_ble_eq_true rfl)) (Nat.le_of_ble_eq_true rfl) rfl rfl ?_ rfl
        refine g_iload (n := 413) dL_law_411 rfl rfl ?_
        refine g_iconst (n := 414) dL_law_413 rfl k_ic_1 ?_
        refine g_iadd (n := 415) dL_law_414 rfl ?_
        refine g_icmp_ne (n := 418) (t := 491) dL_law_415 rfl (by decide) (fun q9 => absurd rfl q9) (fun _ => ?_)
        refine g_aload_n (n := 419) dL_law_418 rfl rfl ?_
        refine g_iconst (n := 420) dL_law_419 rfl k_ic_5 ?_
        refine g_cKHv (c9 := 0) (n := 423) c5 dL_law_420 rfl kz_L_117 rfl (Or.inl (Nat.le_of_ble_eq_true rfl)) (Nat.le_of_ble_eq_true rfl) rfl rfl ?_ rfl
        refine g_iload (n := 425) dL_law_423 rfl rfl ?_
        refine g_iload (n := 427) dL_law_425 rfl rfl ?_
        refine g_dia_if_ge (t := 434) dL_law_427 (by decide) dL_law_430 dL_law_431 (by decide) dL_law_434 ?_
        rw [eb]
        refine g_iadd (n := 436) dL_law_435 rfl ?_
        refine g_icmp_ne (n := 439) (t := 491) dL_law_436 rfl (by decide) (fun q9 => absurd rfl q9) (fun _ => ?_)
        refine g_aload_n (n := 440) dL_law_439 rfl rfl ?_
        refine g_bipush (n := 442) dL_law_440 rfl k_bp_6 ?_
        refine g_cKHv (c9 := 0) (n := 445) c6 dL_law_442 rfl kz_L_117 rfl (Or.inl (Nat.le_of_ble_eq_true rfl)) (Nat.le_of_ble_eq_true rfl) rfl rfl ?_ rfl
        refine g_iload (n := 447) dL_law_445 rfl rfl ?_
        refine g_iload (n := 449) dL_law_447 rfl rfl ?_
        refine g_if_ge (n := 452) (t := 456) dL_law_449 rfl (by decide) (fun q9 => absurd q9 nd) (fun _ => ?_)
        refine g_iconst (n := 453) dL_law_452 rfl k_ic_0 ?_
        refine g_goto (n := 0) (t := 458) dL_law_453 (by decide) ?_
        refine g_iadd (n := 459) dL_law_458 rfl ?_
        refine g_icmp_ne (n := 462) (t := 491) dL_law_459 rfl (by decide) (fun q9 => absurd rfl q9) (fun _ => ?_)
        refine g_aload_n (n := 463) dL_law_462 rfl rfl ?_
        refine g_iload (n := 465) dL_law_463 rfl rfl ?_
        refine g_iload (n := 467) dL_law_465 rfl rfl ?_
        refine g_iconst (n := 468) dL_law_467 rfl k_ic_4 ?_
        refine g_cKHv (c9 := 0) (n := 471) c7 dL_law_468 rfl kz_L_119 rfl (Or.inl (Nat.le_of_ble_eq_true rfl)) (Nat.le_of_ble_eq_true rfl) rfl rfl ?_ rfl
        refine g_iload (n := 473) dL_law_471 rfl rfl ?_
        refine g_iload (n := 475) dL_law_473 rfl rfl ?_
        refine g_if_ge (n := 478) (t := 482) dL_law_475 rfl (by decide) (fun q9 => absurd q9 nd) (fun _ => ?_)
        refine g_iconst (n := 479) dL_law_478 rfl k_ic_0 ?_
        refine g_goto (n := 0) (t := 483) dL_law_479 (by decide) ?_
        refine g_iadd (n := 484) dL_law_483 rfl ?_
        refine g_icmp_ne (n := 487) (t := 491) dL_law_484 rfl (by decide) (fun q9 => absurd rfl q9) (fun _ => ?_)
        refine g_iconst (n := 488) dL_law_487 rfl k_ic_1 ?_
        refine g_goto (n := 0) (t := 492) dL_law_488 (by decide) ?_
        refine g_istore2 (n := 493) dL_law_492 rfl (Nat.le_of_ble_eq_true rfl) rfl ?_
        refine g_iload_n (n := 494) dL_law_493 rfl rfl ?_
        refine g_if_eq (n := 497) (t := 762) dL_law_494 rfl (by decide) (fun q9 => absurd q9 (by decide)) (fun _ => ?_)
        refine g_iload (n := 499) dL_law_497 rfl rfl ?_
        refine g_if_lt (n := 502) (t := 762) dL_law_499 rfl (by decide) (fun _ => ?_) (fun q9 => absurd (by rw [x]; decide) q9)
        refine g_wk (lv' := [.inl (.ref w.2.2.2.1), vR 9 0, vI (nI 1), vI (nI i), vU, vI (nI (y / 16)), vU, vU, vI (nI (y / 16 % 8)), vI (nI (y / 16 / 8 % 4)), vU, vU, vU, vU, vU, vU, vU, vU, vU, vU, vU, vU, vU, vU, vU]) ⟨.inr rfl, .inr rfl, .inr rfl, .inr rfl, .inl rfl, .inr rfl, .inl rfl, .inl rfl, .inr rfl, .inr rfl, .inl rfl, .inl rfl, .inl rfl, .inl rfl, .inl rfl, .inl rfl, .inl rfl, .inl rfl, .inl rfl, .inl rfl, .inl rfl, .inl rfl, .inl rfl, .inl rfl, .inl rfl, trivial⟩ ?_
        exact G
      · omega
    · have hq := vNe_lt W Z.ss h8 he
      obtain ⟨⟨e1, e2, e3, e4⟩, e5, e6⟩ := snd_take (show e < 8 by omega) hq (show 4 * (y / 16 % 8) + (y / 16 / 8 % 4) < 32 by omega) x
      have cx := q_neigh (w := w) (d := 2) (O := O) Z7 he
      rw [e5] at cx
      obtain ⟨N8, Z8, c8⟩ := q_count (w := w) (d := 2) (O := O) Z7 (show 7 < 10 by decide)
      have n5 := q_nb (w := w) (d := 2) (O := O) Z8 hq (show 5 < 8 by decide)
      have n4 := q_nb (w := w) (d := 2) (O := O) Z8 hq (show 4 < 8 by decide)
      obtain ⟨M', G⟩ := law_C (w := w) (tb := tb) (O := O) (cr := cr) (i := i) (y := y) Z8 hy hi (fun M h2 Z => IH M _ h2 _ Z)
      refine ⟨M', ?_⟩
      rw [show ∀ k, vCt (vSnd V s (y / 16 % 8) (y / 16 / 8 % 4)) s k 4 = V 171 + nI 1 from fun _ => e1] at c4
      rw [show ∀ k, vCt (vSnd V s (y / 16 % 8) (y / 16 / 8 % 4)) s k 5 = V 172 + nI 0 from fun _ => e2] at c5
      rw [show ∀ k, vCt (vSnd V s (y / 16 % 8) (y / 16 / 8 % 4)) s k 6 = V 173 + vDe (vDi V) V s (y / 16 % 8) (y / 16 / 8 % 4) from fun _ => e3] at c6
      rw [show vCh (vSnd V s (y / 16 % 8) (y / 16 / 8 % 4)) s (y / 16 % 8) (y / 16 / 8 % 4) 4 = V (139 + (4 * (y / 16 % 8) + (y / 16 / 8 % 4))) + nI 1 from e4] at c7
      rw [show vNo (vSnd V s (y / 16 % 8) (y / 16 / 8 % 4)) (vNe V e) 5 = vSnd V s (y / 16 % 8) (y / 16 / 8 % 4) (127 + vNe V e) by show vSnd V s (y / 16 % 8) (y / 16 / 8 % 4) (123 + (4 * (5 - 4) + vNe V e)) = _; congr 1; omega] at n5
      rw [show vNo (vSnd V s (y / 16 % 8) (y / 16 / 8 % 4)) (vNe V e) 4 = vSnd V s (y / 16 % 8) (y / 16 / 8 % 4) (123 + vNe V e) by show vSnd V s (y / 16 % 8) (y / 16 / 8 % 4) (123 + (4 * (4 - 4) + vNe V e)) = _; congr 1; omega] at n4
      rw [show ∀ k, vCt (vSnd V s (y / 16 % 8) (y / 16 / 8 % 4)) s k 7 = sm (fun j => V (135 + j)) 4 + nI (bN (decide (¬ vSnd V s (y / 16 % 8) (y / 16 / 8 % 4) (127 + vNe V e) ≤ vSnd V s (y / 16 % 8) (y / 16 / 8 % 4) (123 + vNe V e)))) from fun _ => e6] at c8
      have nd : 0 ≤ vCho (vDi V) V s (y / 16 % 8) (y / 16 / 8 % 4) := by rw [x]; exact nI_pos' (by omega)
      have eb : bN (decide (¬ 0 ≤ vCho (vDi V) V s (y / 16 % 8) (y / 16 / 8 % 4))) = 0 := by rw [decide_eq_false (fun q => q nd)]; rfl
      refine g_iload_n (n := 389) dL_law_388 rfl rfl ?_
      refine g_if_eq (n := 392) (t := 554) dL_law_389 rfl (by decide) (fun q9 => absurd q9 (by decide)) (fun _ => ?_)
      refine g_iload (n := 394) dL_law_392 rfl rfl ?_
      refine g_bipush (n := 396) dL_law_394 rfl k_bp_9 ?_
      refine g_icmp_le (n := 399) (t := 554) dL_law_396 rfl (by decide) (fun q9 => absurd q9 (nle hk (by omega))) (fun _ => ?_)
      refine g_iload (n := 401) dL_law_399 rfl rfl ?_
      refine g_iload (n := 403) dL_law_401 rfl rfl ?_
      refine g_icmp_ne (n := 406) (t := 491) dL_law_403 rfl (by decide) (fun q9 => absurd rfl q9) (fun _ => ?_)
      refine g_aload_n (n := 407) dL_law_406 rfl rfl ?_
      refine g_iconst (n := 408) dL_law_407 rfl k_ic_4 ?_
      refine g_cKHv (c9 := 0) (n := 411) c4 dL_law_408 rfl kz_L_117 rfl (Or.inl (Nat.le_of_ble_eq_true rfl)) (Nat.le_of_ble_eq_true rfl) rfl rfl ?_ rfl
      refine g_iload (n := 413) dL_law_411 rfl rfl ?_
      refine g_iconst (n := 414) dL_law_413 rfl k_ic_1 ?_
      refine g_iadd (n := 415) dL_law_414 rfl ?_
      refine g_icmp_ne (n := 418) (t := 491) dL_law_415 rfl (by decide) (fun q9 => absurd rfl q9) (fun _ => ?_)
      refine g_aload_n (n := 419) dL_law_418 rfl rfl ?_
      refine g_iconst (n := 420) dL_law_419 rfl k_ic_5 ?_
      refine g_cKHv (c9 := 0) (n := 423) c5 dL_law_420 rfl kz_L_117 rfl (Or.inl (Nat.le_of_ble_eq_true rfl)) (Nat.le_of_ble_eq_true rfl) rfl rfl ?_ rfl
      refine g_iload (n := 425) dL_law_423 rfl rfl ?_
      refine g_iload (n := 427) dL_law_425 rfl rfl ?_
      refine g_dia_if_ge (t := 434) dL_law_427 (by decide) dL_law_430 dL_law_431 (by decide) dL_law_434 ?_
      rw [eb]
      refine g_iadd (n := 436) dL_law_435 rfl ?_
      refine g_icmp_ne (n := 439) (t := 491) dL_law_436 rfl (by decide) (fun q9 => absurd rfl q9) (fun _ => ?_)
      refine g_aload_n (n := 440) dL_law_439 rfl rfl ?_
      refine g_bipush (n := 442) dL_law_440 rfl k_bp_6 ?_
      refine g_cKHv (c9 := 0) (n := 445) c6 dL_law_442 rfl kz_L_117 rfl (Or.inl (Nat.le_of_ble_eq_true rfl)) (Nat.le_of_ble_eq_true rfl) rfl rfl ?_ rfl
      refine g_iload (n := 447) dL_law_445 rfl rfl ?_
      refine g_iload (n := 449) dL_law_447 rfl rfl ?_
      refine g_if_ge (n := 452) (t := 456) dL_law_449 rfl (by decide) (fun _ => ?_) (fun q9 => absurd nd q9)
      refine g_iload (n := 458) dL_law_456 rfl rfl ?_
      refine g_iadd (n := 459) dL_law_458 rfl ?_
      refine g_icmp_ne (n := 462) (t := 491) dL_law_459 rfl (by decide) (fun q9 => absurd rfl q9) (fun _ => ?_)
      refine g_aload_n (n := 463) dL_law_462 rfl rfl ?_
      refine g_iload (n := 465) dL_law_463 rfl rfl ?_
      refine g_iload (n := 467) dL_law_465 rfl rfl ?_
      refine g_iconst (n := 468) dL_law_467 rfl k_ic_4 ?_
      refine g_cKHv (c9 := 0) (n := 471) c7 dL_law_468 rfl kz_L_119 rfl (Or.inl (Nat.le_of_ble_eq_true rfl)) (Nat.le_of_ble_eq_true rfl) rfl rfl ?_ rfl
      refine g_iload (n := 473) dL_law_471 rfl rfl ?_
      refine g_iload (n := 475) dL_law_473 rfl rfl ?_
      refine g_if_ge (n := 478) (t := 482) dL_law_475 rfl (by decide) (fun _ => ?_) (fun q9 => absurd nd q9)
      refine g_iconst (n := 483) dL_law_482 rfl k_ic_1 ?_
      refine g_iadd (n := 484) dL_law_483 rfl ?_
      refine g_icmp_ne (n := 487) (t := 491) dL_law_484 rfl (by decide) (fun q9 => absurd rfl q9) (fun _ => ?_)
      refine g_iconst (n := 488) dL_law_487 rfl k_ic_1 ?_
      refine g_goto (n := 0) (t := 492) dL_law_488 (by decide) ?_
      refine g_istore2 (n := 493) dL_law_492 rfl (Nat.le_of_ble_eq_true rfl) rfl ?_
      refine g_iload_n (n := 494) dL_law_493 rfl rfl ?_
      refine g_if_eq (n := 497) (t := 762) dL_law_494 rfl (by decide) (fun q9 => absurd q9 (by decide)) (fun _ => ?_)
      refine g_iload (n := 499) dL_law_497 rfl rfl ?_
      refine g_if_lt (n := 502) (t := 762) dL_law_499 rfl (by decide) (fun q9 => absurd q9 (by rw [x]; exact nI_pos (by omega))) (fun _ => ?_)
      have K502 : zG w (mLw tb) 13 (cr + 1) 502 [.inl (.ref w.2.2.2.1), vR 9 0, vI (nI 1), vI (nI i), vI (nI y), vI (nI (y / 16)), vI (nI (y % 16)), vI (nI h), vI (nI (y / 16 % 8)), vI (nI (y / 16 / 8 % 4)), vI (nI s), vI (nI e), vI (vDe (vDi V) V s (y / 16 % 8) (y / 16 / 8 % 4)), vI (V (139 + (4 * (y / 16 % 8) + (y / 16 / 8 % 4)))), vI (V 171), vI (V 172), vI (V 173), vI (sm (fun j => V (135 + j)) 4), vI (had), vI (chg), vI (vCho (vDi V) V s (y / 16 % 8) (y / 16 / 8 % 4)), vI (nI (bN (decide (¬ vCho (vDi V) V s (y / 16 % 8) (y / 16 / 8 % 4) ≤ -2000000)))), vU, vU, vU] [] (zP N7 O) (zrI (nI 1)) (zP M' O) := by
        refine g_aload_n (n := 503) dL_law_502 rfl rfl ?_
        refine g_iload (n := 505) dL_law_503 rfl rfl ?_
        refine g_iconst (n := 506) dL_law_505 rfl k_ic_1 ?_
        refine g_cKHv (c9 := 0) (n := 509) cx dL_law_506 rfl kz_L_125 rfl (Or.inl (Nat.le_of_ble_eq_true rfl)) (Nat.le_of_ble_eq_true rfl) rfl rfl ?_ rfl
        refine g_istore22 (n := 511) dL_law_509 rfl (Nat.le_of_ble_eq_true rfl) rfl ?_
        refine g_aload_n (n := 512) dL_law_511 rfl rfl ?_
        refine g_bipush (n := 514) dL_law_512 rfl k_bp_7 ?_
        refine g_cKHv (c9 := 0) (n := 517) c8 dL_law_514 rfl kz_L_117 rfl (Or.inl (Nat.le_of_ble_eq_true rfl)) (Nat.le_of_ble_eq_true rfl) rfl rfl ?_ rfl
        refine g_iload (n := 519) dL_law_517 rfl rfl ?_
        refine g_aload_n (n := 520) dL_law_519 rfl rfl ?_
        refine g_iload (n := 522) dL_law_520 rfl rfl ?_
        refine g_iconst (n := 523) dL_law_522 rfl k_ic_5 ?_
        refine g_cKHv (c9 := 0) (n := 526) n5 dL_law_523 rfl kz_L_127 rfl (Or.inl (Nat.le_of_ble_eq_true rfl)) (Nat.le_of_ble_eq_true rfl) rfl rfl ?_ rfl
        refine g_aload_n (n := 527) dL_law_526 rfl rfl ?_
        refine g_iload (n := 529) dL_law_527 rfl rfl ?_
        refine g_iconst (n := 530) dL_law_529 rfl k_ic_4 ?_
        refine g_cKHv (c9 := 0) (n := 533) n4 dL_law_530 rfl kz_L_127 rfl (Or.inl (Nat.le_of_ble_eq_true rfl)) (Nat.le_of_ble_eq_true rfl) rfl rfl ?_ rfl
        refine g_dia_icmp_le (t := 540) dL_law_533 (by decide) dL_law_536 dL_law_537 (by decide) dL_law_540 ?_
        refine g_iadd (n := 542) dL_law_541 rfl ?_
        refine g_icmp_ne (n := 545) (t := 549) dL_law_542 rfl (by decide) (fun q9 => absurd rfl q9) (fun _ => ?_)
        refine g_iconst (n := 546) dL_law_545 rfl k_ic_1 ?_
        refine g_goto (n := 0) (t := 550) dL_law_546 (by decide) ?_
        refine g_istore2 (n := 551) dL_law_550 rfl (Nat.le_of_ble_eq_true rfl) rfl ?_
        refine g_goto (n := 0) (t := 762) dL_law_551 (by decide) ?_
        refine g_wk (lv' := [.inl (.ref w.2.2.2.1), vR 9 0, vI (nI 1), vI (nI i), vU, vI (nI (y / 16)), vU, vU, vI (nI (y / 16 % 8)), vI (nI (y / 16 / 8 % 4)), vU, vU, vU, vU, vU, vU, vU, vU, vU, vU, vU, vU, vU, vU, vU]) ⟨.inr rfl, .inr rfl, .inr rfl, .inr rfl, .inl rfl, .inr rfl, .inl rfl, .inl rfl, .inr rfl, .inr rfl, .inl rfl, .inl rfl, .inl rfl, .inl rfl, .inl rfl, .inl rfl, .inl rfl, .inl rfl, .inl rfl, .inl rfl, .inl rfl, .inl rfl, .inl rfl, .inl rfl, .inl rfl, trivial⟩ ?_
        exact G
      rw [← x] at K502
      exact K502)
  refine ⟨M', ?_⟩
  refine g_aload_n (n := 316) dL_law_315 rfl rfl ?_
  refine g_iload (n := 318) dL_law_316 rfl rfl ?_
  refine g_cKPv (c9 := 1) (n := 321) ca dL_law_318 rfl kz_L_156 rfl (Or.inl (Nat.le_of_ble_eq_true rfl)) (Nat.le_of_ble_eq_true rfl) rfl rfl ?_ rfl
  refine g_istore20 (n := 323) dL_law_321 rfl (Nat.le_of_ble_eq_true rfl) rfl ?_
  refine g_iload (n := 325) dL_law_323 rfl rfl ?_
  refine g_ldc (n := 327) dL_law_325 rfl kc_L_159 ?_
  refine g_dia_icmp_le (t := 334) dL_law_327 (by decide) dL_law_330 dL_law_331 (by decide) dL_law_334 ?_
  exact G
end LW

