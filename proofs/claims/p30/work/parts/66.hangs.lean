/-! The law's 'hangs': sums and counts hang together. -/
section HG
variable {w : zWp} {d t : Nat} {M N N2 : Nat → Nat → Nat → Int32} {O : Nat → Int64} {s h y : Nat} {V : Nat → Int32}
theorem hang_end (Z : zS t N s h V) (hy : y < 2 ^ 31) {u : zAV} : zR w mL_hangs (d + 12) 0 t s h V O 337 [vR 9 0, vI (nI y), vI (nI s), vI (nI (cnt (fun j => decide (0 < vc V j)) 64)), vI (sm (fun e => V (69 + 5 * e)) s), vI (sm (fun e => V (70 + 5 * e)) s), vI (sm (fun e => V (71 + 5 * e)) s), vI (nI (cnt (fun j => decide (0 < V (107 + j))) 16)), vI (sm (fun j => V (135 + j)) 4), vI (nI 1), vI (sm (fun k => V (139 + k)) 32), vI (nI (cnt (fun k => decide (vFs V s k < 0)) 32)), u] [] N := by
  have W := Z.W
  have h8 := Z.h8
  have A := Z.A
  obtain ⟨N0, Z0, c0⟩ := q_count (w := w) (d := d + 1) (O := O) Z (show 0 < 10 by decide)
  obtain ⟨N2, Z2, c2⟩ := q_count (w := w) (d := d + 1) (O := O) Z0 (show 2 < 10 by decide)
  obtain ⟨N3, Z3, c3⟩ := q_count (w := w) (d := d + 1) (O := O) Z2 (show 3 < 10 by decide)
  obtain ⟨N4, Z4, c4⟩ := q_count (w := w) (d := d + 1) (O := O) Z3 (show 4 < 10 by decide)
  obtain ⟨N5, Z5, c5⟩ := q_count (w := w) (d := d + 1) (O := O) Z4 (show 5 < 10 by decide)
  obtain ⟨N6, Z6, c6⟩ := q_count (w := w) (d := d + 1) (O := O) Z5 (show 6 < 10 by decide)
  obtain ⟨N7, Z7, c7⟩ := q_count (w := w) (d := d + 1) (O := O) Z6 (show 7 < 10 by decide)
  obtain ⟨N8, Z8, c8⟩ := q_count (w := w) (d := d + 1) (O := O) Z7 (show 8 < 10 by decide)
  obtain ⟨N9, Z9, c9⟩ := a_ways (w := w) (d := d) (O := O) Z8 (show y % 8 < 8 by omega)
  obtain ⟨N10, Z10, c10⟩ := q_dearest (w := w) (d := d + 3) (O := O) Z9
  have c11 := q_hot (w := w) (d := d + 11) (O := O) Z10
  have e3 : nI (cnt (fun j => decide (0 < V (107 + j))) 16) = vCt V s h 3 := (sm_cnt (p := (fun j => decide (0 < V (107 + j)))) 16).symm
  have e8 : nI (cnt (fun k => decide (vFs V s k < 0)) 32) = vCt V s h 8 := (sm_cnt (p := (fun k => decide (vFs V s k < 0))) 32).symm
  have l1 := A.2.1.1.2
  have t9 := A.t9
  refine ⟨N10, Z10, ?_⟩
  refine g_iload (n := 339) dL_hangs_337 rfl rfl ?_
  refine g_if_eq (n := 342) (t := 479) dL_hangs_339 rfl (by decide) (fun q9 => absurd q9 (by decide)) (fun _ => ?_)
  refine g_iload_n (n := 343) dL_hangs_342 rfl rfl ?_
  refine g_iconst (n := 344) dL_hangs_343 rfl k_ic_2 ?_
  refine g_aload_n (n := 345) dL_hangs_344 rfl rfl ?_
  refine g_iconst (n := 346) dL_hangs_345 rfl k_ic_0 ?_
  refine g_cKHv (c9 := 0) (n := 349) c0 dL_hangs_346 rfl kz_L_117 rfl (Or.inl (Nat.le_of_ble_eq_true rfl)) (Nat.le_of_ble_eq_true rfl) rfl rfl ?_ rfl
  refine g_imul (n := 350) dL_hangs_349 rfl ?_
  refine g_icmp_ne (n := 353) (t := 479) dL_hangs_350 rfl (by decide) (fun q9 => absurd (hp_roads W).symm q9) (fun _ => ?_)
  refine g_iload (n := 355) dL_hangs_353 rfl rfl ?_
  refine g_aload_n (n := 356) dL_hangs_355 rfl rfl ?_
  refine g_iconst (n := 357) dL_hangs_356 rfl k_ic_2 ?_
  refine g_cKHv (c9 := 0) (n := 360) c2 dL_hangs_357 rfl kz_L_117 rfl (Or.inl (Nat.le_of_ble_eq_true rfl)) (Nat.le_of_ble_eq_true rfl) rfl rfl ?_ rfl
  refine g_icmp_ne (n := 363) (t := 479) dL_hangs_360 rfl (by decide) (fun q9 => absurd rfl q9) (fun _ => ?_)
  refine g_iload (n := 365) dL_hangs_363 rfl rfl ?_
  refine g_aload_n (n := 366) dL_hangs_365 rfl rfl ?_
  refine g_iconst (n := 367) dL_hangs_366 rfl k_ic_3 ?_
  refine g_cKHv (c9 := 0) (n := 370) c3 dL_hangs_367 rfl kz_L_117 rfl (Or.inl (Nat.le_of_ble_eq_true rfl)) (Nat.le_of_ble_eq_true rfl) rfl rfl ?_ rfl
  refine g_icmp_ne (n := 373) (t := 479) dL_hangs_370 rfl (by decide) (fun q9 => absurd e3 q9) (fun _ => ?_)
  refine g_iload (n := 375) dL_hangs_373 rfl rfl ?_
  refine g_aload_n (n := 376) dL_hangs_375 rfl rfl ?_
  refine g_iconst (n := 377) dL_hangs_376 rfl k_ic_4 ?_
  refine g_cKHv (c9 := 0) (n := 380) c4 dL_hangs_377 rfl kz_L_117 rfl (Or.inl (Nat.le_of_ble_eq_true rfl)) (Nat.le_of_ble_eq_true rfl) rfl rfl ?_ rfl
  refine g_aload_n (n := 381) dL_hangs_380 rfl rfl ?_
  refine g_iconst (n := 382) dL_hangs_381 rfl k_ic_5 ?_
  refine g_cKHv (c9 := 0) (n := 385) c5 dL_hangs_382 rfl kz_L_117 rfl (Or.inl (Nat.le_of_ble_eq_true rfl)) (Nat.le_of_ble_eq_true rfl) rfl rfl ?_ rfl
  refine g_isub (n := 386) dL_hangs_385 rfl ?_
  refine g_icmp_ne (n := 389) (t := 479) dL_hangs_386 rfl (by decide) (fun q9 => absurd ((hp_left A W Z.ss h8).1.trans (hp_left A W Z.ss h8).2.symm) q9) (fun _ => ?_)
  refine g_iload (n := 391) dL_hangs_389 rfl rfl ?_
  refine g_iload (n := 393) dL_hangs_391 rfl rfl ?_
  refine g_icmp_ne (n := 396) (t := 479) dL_hangs_393 rfl (by decide) (fun q9 => absurd ((hp_pairs A).trans (hp_left A W Z.ss h8).1.symm) q9) (fun _ => ?_)
  refine g_iload (n := 398) dL_hangs_396 rfl rfl ?_
  refine g_aload_n (n := 399) dL_hangs_398 rfl rfl ?_
  refine g_bipush (n := 401) dL_hangs_399 rfl k_bp_6 ?_
  refine g_cKHv (c9 := 0) (n := 404) c6 dL_hangs_401 rfl kz_L_117 rfl (Or.inl (Nat.le_of_ble_eq_true rfl)) (Nat.le_of_ble_eq_true rfl) rfl rfl ?_ rfl
  refine g_icmp_ne (n := 407) (t := 479) dL_hangs_404 rfl (by decide) (fun q9 => absurd (hp_costs A W Z.ss h8) q9) (fun _ => ?_)
  refine g_iload (n := 409) dL_hangs_407 rfl rfl ?_
  refine g_aload_n (n := 410) dL_hangs_409 rfl rfl ?_
  refine g_bipush (n := 412) dL_hangs_410 rfl k_bp_7 ?_
  refine g_cKHv (c9 := 0) (n := 415) c7 dL_hangs_412 rfl kz_L_117 rfl (Or.inl (Nat.le_of_ble_eq_true rfl)) (Nat.le_of_ble_eq_true rfl) rfl rfl ?_ rfl
  refine g_icmp_ne (n := 418) (t := 479) dL_hangs_415 rfl (by decide) (fun q9 => absurd rfl q9) (fun _ => ?_)
  refine g_iload (n := 420) dL_hangs_418 rfl rfl ?_
  refine g_aload_n (n := 421) dL_hangs_420 rfl rfl ?_
  refine g_bipush (n := 423) dL_hangs_421 rfl k_bp_8 ?_
  refine g_cKHv (c9 := 0) (n := 426) c8 dL_hangs_423 rfl kz_L_117 rfl (Or.inl (Nat.le_of_ble_eq_true rfl)) (Nat.le_of_ble_eq_true rfl) rfl rfl ?_ rfl
  refine g_icmp_ne (n := 429) (t := 479) dL_hangs_426 rfl (by decide) (fun q9 => absurd e8 q9) (fun _ => ?_)
  refine g_aload_n (n := 430) dL_hangs_429 rfl rfl ?_
  refine g_iload_n (n := 431) dL_hangs_430 rfl rfl ?_
  refine g_bipush (n := 433) dL_hangs_431 rfl k_bp_8 ?_
  refine g_iremN (n := 434) dL_hangs_433 rfl hy (by decide) (by decide) ?_
  refine g_cKPv (c9 := 0) (n := 437) c9 dL_hangs_434 rfl kz_L_133 rfl (Or.inl (Nat.le_of_ble_eq_true rfl)) (Nat.le_of_ble_eq_true rfl) rfl rfl ?_ rfl
  refine g_if_eq (n := 440) (t := 479) dL_hangs_437 rfl (by decide) (fun q9 => absurd q9 (by decide)) (fun _ => ?_)
  refine g_aload_n (n := 441) dL_hangs_440 rfl rfl ?_
  refine g_cVv (n := 444) c10 dL_hangs_441 rfl kw_L_137 rfl (by decide) (z_lvP (by first | decide | assumption)) (Nat.le_of_ble_eq_true rfl) ⟨Nat.le_refl _, Nat.le_refl _⟩ ?_ rfl
  refine g_iconst (n := 445) dL_hangs_444 rfl k_ic_m1 ?_
  refine g_dia_icmp_ne (t := 452) dL_hangs_445 (by decide) dL_hangs_448 dL_hangs_449 (by decide) dL_hangs_452 ?_
  refine g_iload (n := 455) dL_hangs_453 rfl rfl ?_
  refine g_dia_if_ne (t := 462) dL_hangs_455 (by decide) dL_hangs_458 dL_hangs_459 (by decide) dL_hangs_462 ?_
  refine g_icmp_ne (n := 466) (t := 479) dL_hangs_463 rfl (by decide) (fun q9 => absurd (congrArg nI (hp_dear W Z.ss h8)) q9) (fun _ => ?_)
  refine g_aload_n (n := 467) dL_hangs_466 rfl rfl ?_
  refine g_cVv (n := 470) c11 dL_hangs_467 rfl kw_L_140 rfl (by decide) (z_lvP (by first | decide | assumption)) (Nat.le_of_ble_eq_true rfl) ⟨Nat.le_refl _, Nat.le_refl _⟩ ?_ rfl
  refine g_dconst1 (n := 471) dL_hangs_470 rfl ?_
  refine g_dcmp (n := 472) dL_hangs_471 rfl ?_
  refine g_if_gt (n := 475) (t := 479) dL_hangs_472 rfl (by decide) (fun q9 => absurd q9 (hot_le (by omega) (by omega))) (fun _ => ?_)
  refine g_iconst (n := 476) dL_hangs_475 rfl k_ic_1 ?_
  refine g_goto (n := 0) (t := 480) dL_hangs_476 (by decide) ?_
  exact g_ireturn dL_hangs_480 rfl rfl rfl rfl
theorem hang_5 (hy : y < 2 ^ 31) : ∀ (j k : Nat) (N : Nat → Nat → Nat → Int32), k + j = 32 → zS t N s h V → zR w mL_hangs (d + 12) 0 t s h V O 280 [vR 9 0, vI (nI y), vI (nI s), vI (nI (cnt (fun j => decide (0 < vc V j)) 64)), vI (sm (fun e => V (69 + 5 * e)) s), vI (sm (fun e => V (70 + 5 * e)) s), vI (sm (fun e => V (71 + 5 * e)) s), vI (nI (cnt (fun j => decide (0 < V (107 + j))) 16)), vI (sm (fun j => V (135 + j)) 4), vI (nI 1), vI (sm (fun k => V (139 + k)) k), vI (nI (cnt (fun k => decide (vFs V s k < 0)) k)), vI (nI k)] [] N
  | 0, k, N, hk, Z => by
    obtain rfl : k = 32 := by omega
    obtain ⟨N2, Z2, G⟩ := hang_end (w := w) (d := d) (O := O) Z hy (u := vI (nI 32))
    refine ⟨N2, Z2, ?_⟩
    refine g_iload (n := 282) dL_hangs_280 rfl rfl ?_
    refine g_bipush (n := 284) dL_hangs_282 rfl k_bp_32 ?_
    refine g_icmp_ge (n := 287) (t := 337) dL_hangs_284 rfl (by decide) (fun _ => ?_) (fun q9 => absurd (nI_le (by omega) (by omega)) q9)
    exact G
  | j + 1, k, N, hk, Z => by
    have hk8 : k < 32 := by omega
    obtain ⟨N1, Z1, c1⟩ := q_choice (w := w) (d := d + 1) (O := O) Z (show k / 4 < 8 by omega) (show k % 4 < 4 by omega) (show 4 < 6 by decide)
    obtain ⟨N2, Z2, c2⟩ := q_choice (w := w) (d := d + 1) (O := O) Z1 (show k / 4 < 8 by omega) (show k % 4 < 4 by omega) (show 0 < 6 by decide)
    rw [show vCh V s (k / 4) (k % 4) 4 = V (139 + k) by show V (139 + (4 * (k / 4) + k % 4)) = V (139 + k); rw [show 4 * (k / 4) + k % 4 = k by omega]] at c1
    rw [show vCh V s (k / 4) (k % 4) 0 = vFs V s k from rfl] at c2
    obtain ⟨N3, Z3, G⟩ := hang_5 hy j (k + 1) N2 (by omega) Z2
    refine ⟨N3, Z3, ?_⟩
    have ew : cnt (fun k => decide (vFs V s k < 0)) k + bN (decide (vFs V s k < 0)) = cnt (fun k => decide (vFs V s k < 0)) (k + 1) := by
      show _ = cnt (fun k => decide (vFs V s k < 0)) k + (if decide (vFs V s k < 0) then 1 else 0)
      rfl
    have dd : bN (decide (¬ 0 ≤ vFs V s k)) = bN (decide (vFs V s k < 0)) := by
      congr 1
      exact decide_eq_decide.mpr Int32.not_le
    refine g_iload (n := 282) dL_hangs_280 rfl rfl ?_
    refine g_bipush (n := 284) dL_hangs_282 rfl k_bp_32 ?_
    refine g_icmp_ge (n := 287) (t := 337) dL_hangs_284 rfl (by decide) (fun q9 => absurd q9 (nle hk8 (by decide))) (fun _ => ?_)
    refine g_iload (n := 289) dL_hangs_287 rfl rfl ?_
    refine g_aload_n (n := 290) dL_hangs_289 rfl rfl ?_
    refine g_iload (n := 292) dL_hangs_290 rfl rfl ?_
    refine g_iconst (n := 293) dL_hangs_292 rfl k_ic_4 ?_
    refine g_idivN (n := 294) dL_hangs_293 rfl (show k < 2 ^ 31 by omega) (by decide) (by decide) ?_
    refine g_iload (n := 296) dL_hangs_294 rfl rfl ?_
    refine g_iconst (n := 297) dL_hangs_296 rfl k_ic_4 ?_
    refine g_iremN (n := 298) dL_hangs_297 rfl (show k < 2 ^ 31 by omega) (by decide) (by decide) ?_
    refine g_iconst (n := 299) dL_hangs_298 rfl k_ic_4 ?_
    refine g_cKHv (c9 := 0) (n := 302) c1 dL_hangs_299 rfl kz_L_119 rfl (Or.inl (Nat.le_of_ble_eq_true rfl)) (Nat.le_of_ble_eq_true rfl) rfl rfl ?_ rfl
    refine g_iadd (n := 303) dL_hangs_302 rfl ?_
    refine g_istore10 (n := 305) dL_hangs_303 rfl (by decide) rfl ?_
    refine g_iload (n := 307) dL_hangs_305 rfl rfl ?_
    refine g_aload_n (n := 308) dL_hangs_307 rfl rfl ?_
    refine g_iload (n := 310) dL_hangs_308 rfl rfl ?_
    refine g_iconst (n := 311) dL_hangs_310 rfl k_ic_4 ?_
    refine g_idivN (n := 312) dL_hangs_311 rfl (show k < 2 ^ 31 by omega) (by decide) (by decide) ?_
    refine g_iload (n := 314) dL_hangs_312 rfl rfl ?_
    refine g_iconst (n := 315) dL_hangs_314 rfl k_ic_4 ?_
    refine g_iremN (n := 316) dL_hangs_315 rfl (show k < 2 ^ 31 by omega) (by decide) (by decide) ?_
    refine g_iconst (n := 317) dL_hangs_316 rfl k_ic_0 ?_
    refine g_cKHv (c9 := 0) (n := 320) c2 dL_hangs_317 rfl kz_L_119 rfl (Or.inl (Nat.le_of_ble_eq_true rfl)) (Nat.le_of_ble_eq_true rfl) rfl rfl ?_ rfl
    refine g_dia_if_ge (t := 327) dL_hangs_320 (by decide) dL_hangs_323 dL_hangs_324 (by decide) dL_hangs_327 ?_
    rw [dd]
    refine g_iaddN (n := 329) dL_hangs_328 rfl ?_
    rw [ew]
    refine g_istore11 (n := 331) dL_hangs_329 rfl (by decide) rfl ?_
    refine g_iinc12 (n := 334) dL_hangs_331 rfl (by decide) rfl (z_inc1 _) ?_
    refine g_goto (n := 0) (t := 280) dL_hangs_334 (by decide) ?_
    exact G
/-- the neighbours: no calls here write -/
theorem hang_in (Z : zS t N s h V) {k : Nat} {uo ue : zAV} (hk : k < 4) {vo : Int32} (K : zG w mL_hangs (d + 12) 0 200 [vR 9 0, vI (nI y), vI (nI s), vI (nI (cnt (fun j => decide (0 < vc V j)) 64)), vI (sm (fun e => V (69 + 5 * e)) s), vI (sm (fun e => V (70 + 5 * e)) s), vI (sm (fun e => V (71 + 5 * e)) s), vI (nI (cnt (fun j => decide (0 < V (107 + j))) (4 * k + 4))), vI (sm (fun j => V (135 + j)) k), vI (nI 1), vI (nI k), vI vo, vU] [] (zP N O) (zrI (nI 1)) (zP N2 O)) :
    zG w mL_hangs (d + 12) 0 167 [vR 9 0, vI (nI y), vI (nI s), vI (nI (cnt (fun j => decide (0 < vc V j)) 64)), vI (sm (fun e => V (69 + 5 * e)) s), vI (sm (fun e => V (70 + 5 * e)) s), vI (sm (fun e => V (71 + 5 * e)) s), vI (nI (cnt (fun j => decide (0 < V (107 + j))) (4 * k + 0))), vI (sm (fun j => V (135 + j)) k), vI (nI 1), vI (nI k), vI vo, vI (nI 0)] [] (zP N O) (zrI (nI 1)) (zP N2 O) := by
  refine z_loop (fun j => zG w mL_hangs (d + 12) 0 167 [vR 9 0, vI (nI y), vI (nI s), vI (nI (cnt (fun j => decide (0 < vc V j)) 64)), vI (sm (fun e => V (69 + 5 * e)) s), vI (sm (fun e => V (70 + 5 * e)) s), vI (sm (fun e => V (71 + 5 * e)) s), vI (nI (cnt (fun j => decide (0 < V (107 + j))) (4 * k + j))), vI (sm (fun j => V (135 + j)) k), vI (nI 1), vI (nI k), vI vo, vI (nI j)] [] (zP N O) (zrI (nI 1)) (zP N2 O)) 4 ?_ (fun j hj ih => ?_) 0 (by decide)
  · refine g_iload (n := 169) dL_hangs_167 rfl rfl ?_
    refine g_iconst (n := 170) dL_hangs_169 rfl k_ic_4 ?_
    refine g_icmp_ge (n := 173) (t := 200) dL_hangs_170 rfl (by decide) (fun _ => ?_) (fun q9 => absurd (nI_le (by omega) (by omega)) q9)
    refine g_drop 12 ?_
    exact K
  · have c := q_nb (w := w) (d := d + 1) (O := O) Z hk (show j < 8 by omega)
    rw [show vNo V k j = V (107 + (4 * k + j)) from if_pos hj] at c
    have ew : cnt (fun j => decide (0 < V (107 + j))) (4 * k + j) + bN (decide (¬ V (107 + (4 * k + j)) ≤ 0)) = cnt (fun j => decide (0 < V (107 + j))) (4 * k + (j + 1)) := by
      have dd : bN (decide (¬ V (107 + (4 * k + j)) ≤ 0)) = bN (decide (0 < V (107 + (4 * k + j)))) := by
        congr 1
        exact decide_eq_decide.mpr Int32.not_le
      rw [dd]
      rfl
    refine g_iload (n := 169) dL_hangs_167 rfl rfl ?_
    refine g_iconst (n := 170) dL_hangs_169 rfl k_ic_4 ?_
    refine g_icmp_ge (n := 173) (t := 200) dL_hangs_170 rfl (by decide) (fun q9 => absurd q9 (nle hj (by decide))) (fun _ => ?_)
    refine g_iload (n := 175) dL_hangs_173 rfl rfl ?_
    refine g_aload_n (n := 176) dL_hangs_175 rfl rfl ?_
    refine g_iload (n := 178) dL_hangs_176 rfl rfl ?_
    refine g_iload (n := 180) dL_hangs_178 rfl rfl ?_
    refine g_cKHv (c9 := 0) (n := 183) c dL_hangs_180 rfl kz_L_127 rfl (Or.inl (Nat.le_of_ble_eq_true rfl)) (Nat.le_of_ble_eq_true rfl) rfl rfl ?_ rfl
    refine g_dia_if_le (t := 190) dL_hangs_183 (by decide) dL_hangs_186 dL_hangs_187 (by decide) dL_hangs_190 ?_
    refine g_iaddN (n := 192) dL_hangs_191 rfl ?_
    rw [ew]
    refine g_istore7 (n := 194) dL_hangs_192 rfl (by decide) rfl ?_
    refine g_iinc12 (n := 197) dL_hangs_194 rfl (by decide) rfl (z_inc1 _) ?_
    refine g_goto (n := 0) (t := 167) dL_hangs_197 (by decide) ?_
    exact ih
theorem hang_4 (Z : zS t N s h V) (K : zG w mL_hangs (d + 12) 0 271 [vR 9 0, vI (nI y), vI (nI s), vI (nI (cnt (fun j => decide (0 < vc V j)) 64)), vI (sm (fun e => V (69 + 5 * e)) s), vI (sm (fun e => V (70 + 5 * e)) s), vI (sm (fun e => V (71 + 5 * e)) s), vI (nI (cnt (fun j => decide (0 < V (107 + j))) 16)), vI (sm (fun j => V (135 + j)) 4), vI (nI 1), vU, vU, vU] [] (zP N O) (zrI (nI 1)) (zP N2 O)) :
    zG w mL_hangs (d + 12) 0 136 [vR 9 0, vI (nI y), vI (nI s), vI (nI (cnt (fun j => decide (0 < vc V j)) 64)), vI (sm (fun e => V (69 + 5 * e)) s), vI (sm (fun e => V (70 + 5 * e)) s), vI (sm (fun e => V (71 + 5 * e)) s), vI (nI (cnt (fun j => decide (0 < V (107 + j))) (4 * 0))), vI (sm (fun j => V (135 + j)) 0), vI (nI 1), vI (nI 0), vU, vU] [] (zP N O) (zrI (nI 1)) (zP N2 O) := by
  have A := Z.A
  refine z_loop (fun k => zG w mL_hangs (d + 12) 0 136 [vR 9 0, vI (nI y), vI (nI s), vI (nI (cnt (fun j => decide (0 < vc V j)) 64)), vI (sm (fun e => V (69 + 5 * e)) s), vI (sm (fun e => V (70 + 5 * e)) s), vI (sm (fun e => V (71 + 5 * e)) s), vI (nI (cnt (fun j => decide (0 < V (107 + j))) (4 * k))), vI (sm (fun j => V (135 + j)) k), vI (nI 1), vI (nI k), vU, vU] [] (zP N O) (zrI (nI 1)) (zP N2 O)) 4 ?_ (fun k hk ih => ?_) 0 (by decide)
  · refine g_iload (n := 138) dL_hangs_136 rfl rfl ?_
    refine g_iconst (n := 139) dL_hangs_138 rfl k_ic_4 ?_
    refine g_icmp_ge (n := 142) (t := 271) dL_hangs_139 rfl (by decide) (fun _ => ?_) (fun q9 => absurd (nI_le (by omega) (by omega)) q9)
    refine g_drop 10 ?_
    exact K
  · have n4 := q_nb (w := w) (d := d + 1) (O := O) Z hk (show 4 < 8 by decide)
    have n5 := q_nb (w := w) (d := d + 1) (O := O) Z hk (show 5 < 8 by decide)
    have n6 := q_nb (w := w) (d := d + 1) (O := O) Z hk (show 6 < 8 by decide)
    have n7 := q_nb (w := w) (d := d + 1) (O := O) Z hk (show 7 < 8 by decide)
    rw [show vNo V k 4 = V (123 + k) by show V (123 + (4 * (4 - 4) + k)) = _; congr 1; omega] at n4
    rw [show vNo V k 5 = V (127 + k) by show V (123 + (4 * (5 - 4) + k)) = _; congr 1; omega] at n5
    rw [show vNo V k 6 = V (131 + k) by show V (123 + (4 * (6 - 4) + k)) = _; congr 1; omega] at n6
    rw [show vNo V k 7 = V (135 + k) by show V (123 + (4 * (7 - 4) + k)) = _; congr 1; omega] at n7
    obtain ⟨p1, p2, p3⟩ := hp_nb A hk
    have K200 : zG w mL_hangs (d + 12) 0 200 [vR 9 0, vI (nI y), vI (nI s), vI (nI (cnt (fun j => decide (0 < vc V j)) 64)), vI (sm (fun e => V (69 + 5 * e)) s), vI (sm (fun e => V (70 + 5 * e)) s), vI (sm (fun e => V (71 + 5 * e)) s), vI (nI (cnt (fun j => decide (0 < V (107 + j))) (4 * k + 4))), vI (sm (fun j => V (135 + j)) k), vI (nI 1), vI (nI k), vI (V (127 + k) - V (123 + k)), vU] [] (zP N O) (zrI (nI 1)) (zP N2 O) := by
      refine g_iload (n := 202) dL_hangs_200 rfl rfl ?_
      refine g_aload_n (n := 203) dL_hangs_202 rfl rfl ?_
      refine g_iload (n := 205) dL_hangs_203 rfl rfl ?_
      refine g_bipush (n := 207) dL_hangs_205 rfl k_bp_7 ?_
      refine g_cKHv (c9 := 0) (n := 210) n7 dL_hangs_207 rfl kz_L_127 rfl (Or.inl (Nat.le_of_ble_eq_true rfl)) (Nat.le_of_ble_eq_true rfl) rfl rfl ?_ rfl
      refine g_iadd (n := 211) dL_hangs_210 rfl ?_
      refine g_istore8 (n := 213) dL_hangs_211 rfl (by decide) rfl ?_
      refine g_aload_n (n := 214) dL_hangs_213 rfl rfl ?_
      refine g_iload (n := 216) dL_hangs_214 rfl rfl ?_
      refine g_bipush (n := 218) dL_hangs_216 rfl k_bp_6 ?_
      refine g_cKHv (c9 := 0) (n := 221) n6 dL_hangs_218 rfl kz_L_127 rfl (Or.inl (Nat.le_of_ble_eq_true rfl)) (Nat.le_of_ble_eq_true rfl) rfl rfl ?_ rfl
      refine g_aload_n (n := 222) dL_hangs_221 rfl rfl ?_
      refine g_iload (n := 224) dL_hangs_222 rfl rfl ?_
      refine g_bipush (n := 226) dL_hangs_224 rfl k_bp_7 ?_
      refine g_cKHv (c9 := 0) (n := 229) n7 dL_hangs_226 rfl kz_L_127 rfl (Or.inl (Nat.le_of_ble_eq_true rfl)) (Nat.le_of_ble_eq_true rfl) rfl rfl ?_ rfl
      refine g_icmp_gt (n := 232) (t := 262) dL_hangs_229 rfl (by decide) (fun q9 => absurd q9 p1) (fun _ => ?_)
      refine g_aload_n (n := 233) dL_hangs_232 rfl rfl ?_
      refine g_iload (n := 235) dL_hangs_233 rfl rfl ?_
      refine g_bipush (n := 237) dL_hangs_235 rfl k_bp_6 ?_
      refine g_cKHv (c9 := 0) (n := 240) n6 dL_hangs_237 rfl kz_L_127 rfl (Or.inl (Nat.le_of_ble_eq_true rfl)) (Nat.le_of_ble_eq_true rfl) rfl rfl ?_ rfl
      refine g_aload_n (n := 241) dL_hangs_240 rfl rfl ?_
      refine g_iload (n := 243) dL_hangs_241 rfl rfl ?_
      refine g_iconst (n := 244) dL_hangs_243 rfl k_ic_5 ?_
      refine g_cKHv (c9 := 0) (n := 247) n5 dL_hangs_244 rfl kz_L_127 rfl (Or.inl (Nat.le_of_ble_eq_true rfl)) (Nat.le_of_ble_eq_true rfl) rfl rfl ?_ rfl
      refine g_icmp_gt (n := 250) (t := 262) dL_hangs_247 rfl (by decide) (fun q9 => absurd q9 p2) (fun _ => ?_)
      refine g_iload (n := 252) dL_hangs_250 rfl rfl ?_
      refine g_sipush (n := 255) dL_hangs_252 rfl k_sp_9999 ?_
      refine g_icmp_gt (n := 258) (t := 262) dL_hangs_255 rfl (by decide) (fun q9 => absurd q9 p3) (fun _ => ?_)
      refine g_iconst (n := 259) dL_hangs_258 rfl k_ic_1 ?_
      refine g_goto (n := 0) (t := 263) dL_hangs_259 (by decide) ?_
      refine g_istore9 (n := 265) dL_hangs_263 rfl (by decide) rfl ?_
      refine g_iinc10 (n := 268) dL_hangs_265 rfl (by decide) rfl (z_inc1 _) ?_
      refine g_goto (n := 0) (t := 136) dL_hangs_268 (by decide) ?_
      refine g_drop 11 ?_
      exact ih
    refine g_iload (n := 138) dL_hangs_136 rfl rfl ?_
    refine g_iconst (n := 139) dL_hangs_138 rfl k_ic_4 ?_
    refine g_icmp_ge (n := 142) (t := 271) dL_hangs_139 rfl (by decide) (fun q9 => absurd q9 (nle hk (by decide))) (fun _ => ?_)
    refine g_iload (n := 144) dL_hangs_142 rfl rfl ?_
    refine g_if_eq (n := 147) (t := 271) dL_hangs_144 rfl (by decide) (fun q9 => absurd q9 (by decide)) (fun _ => ?_)
    refine g_aload_n (n := 148) dL_hangs_147 rfl rfl ?_
    refine g_iload (n := 150) dL_hangs_148 rfl rfl ?_
    refine g_iconst (n := 151) dL_hangs_150 rfl k_ic_5 ?_
    refine g_cKHv (c9 := 0) (n := 154) n5 dL_hangs_151 rfl kz_L_127 rfl (Or.inl (Nat.le_of_ble_eq_true rfl)) (Nat.le_of_ble_eq_true rfl) rfl rfl ?_ rfl
    refine g_aload_n (n := 155) dL_hangs_154 rfl rfl ?_
    refine g_iload (n := 157) dL_hangs_155 rfl rfl ?_
    refine g_iconst (n := 158) dL_hangs_157 rfl k_ic_4 ?_
    refine g_cKHv (c9 := 0) (n := 161) n4 dL_hangs_158 rfl kz_L_127 rfl (Or.inl (Nat.le_of_ble_eq_true rfl)) (Nat.le_of_ble_eq_true rfl) rfl rfl ?_ rfl
    refine g_isub (n := 162) dL_hangs_161 rfl ?_
    refine g_istore11 (n := 164) dL_hangs_162 rfl (by decide) rfl ?_
    refine g_iconst (n := 165) dL_hangs_164 rfl k_ic_0 ?_
    refine g_istore12 (n := 167) dL_hangs_165 rfl (by decide) rfl ?_
    exact hang_in Z (uo := vU) (ue := vU) hk K200
/-- the exits -/
theorem hang_2 (Z : zS t N s h V) (K : zG w mL_hangs (d + 12) 1 109 [vR 9 0, vI (nI y), vI (nI s), vI (nI (cnt (fun j => decide (0 < vc V j)) 64)), vI (sm (fun e => V (69 + 5 * e)) s), vI (sm (fun e => V (70 + 5 * e)) s), vI (sm (fun e => V (71 + 5 * e)) s), vU, vU, vU, vU, vU, vU] [] (zP N O) (zrI (nI 1)) (zP N2 O)) :
    zG w mL_hangs (d + 12) 1 61 [vR 9 0, vI (nI y), vI (nI s), vI (nI (cnt (fun j => decide (0 < vc V j)) 64)), vI (sm (fun e => V (69 + 5 * e)) 0), vI (sm (fun e => V (70 + 5 * e)) 0), vI (sm (fun e => V (71 + 5 * e)) 0), vI (nI 0), vU, vU, vU, vU, vU] [] (zP N O) (zrI (nI 1)) (zP N2 O) := by
  have h8 := Z.h8
  refine z_loop (fun k => zG w mL_hangs (d + 12) 1 61 [vR 9 0, vI (nI y), vI (nI s), vI (nI (cnt (fun j => decide (0 < vc V j)) 64)), vI (sm (fun e => V (69 + 5 * e)) k), vI (sm (fun e => V (70 + 5 * e)) k), vI (sm (fun e => V (71 + 5 * e)) k), vI (nI k), vU, vU, vU, vU, vU] [] (zP N O) (zrI (nI 1)) (zP N2 O)) s ?_ (fun k hk ih => ?_) 0 (Nat.zero_le _)
  · refine g_iload (n := 63) dL_hangs_61 rfl rfl ?_
    refine g_iload_n (n := 64) dL_hangs_63 rfl rfl ?_
    refine g_icmp_ge (n := 67) (t := 109) dL_hangs_64 rfl (by decide) (fun _ => ?_) (fun q9 => absurd (nI_le (Nat.le_refl _) (by omega)) q9)
    refine g_drop 7 ?_
    exact K
  · have c2 := q_open (w := w) (d := d + 1) (O := O) Z hk
    have c3 := q_exitOf (w := w) (d := d + 1) (O := O) Z hk (show 3 < 5 by decide)
    have c4 := q_exitOf (w := w) (d := d + 1) (O := O) Z hk (show 4 < 5 by decide)
    refine g_iload (n := 63) dL_hangs_61 rfl rfl ?_
    refine g_iload_n (n := 64) dL_hangs_63 rfl rfl ?_
    refine g_icmp_ge (n := 67) (t := 109) dL_hangs_64 rfl (by decide) (fun q9 => absurd q9 (nle hk (by omega))) (fun _ => ?_)
    refine g_iload (n := 69) dL_hangs_67 rfl rfl ?_
    refine g_aload_n (n := 70) dL_hangs_69 rfl rfl ?_
    refine g_iload (n := 72) dL_hangs_70 rfl rfl ?_
    refine g_iconst (n := 73) dL_hangs_72 rfl k_ic_2 ?_
    refine g_cKHv (c9 := 0) (n := 76) c2 dL_hangs_73 rfl kz_L_125 rfl (Or.inl (Nat.le_of_ble_eq_true rfl)) (Nat.le_of_ble_eq_true rfl) rfl rfl ?_ rfl
    refine g_iadd (n := 77) dL_hangs_76 rfl ?_
    refine g_istore4 (n := 79) dL_hangs_77 rfl (by decide) rfl ?_
    refine g_iload (n := 81) dL_hangs_79 rfl rfl ?_
    refine g_aload_n (n := 82) dL_hangs_81 rfl rfl ?_
    refine g_iload (n := 84) dL_hangs_82 rfl rfl ?_
    refine g_iconst (n := 85) dL_hangs_84 rfl k_ic_3 ?_
    refine g_cKHv (c9 := 0) (n := 88) c3 dL_hangs_85 rfl kz_L_125 rfl (Or.inl (Nat.le_of_ble_eq_true rfl)) (Nat.le_of_ble_eq_true rfl) rfl rfl ?_ rfl
    refine g_iadd (n := 89) dL_hangs_88 rfl ?_
    refine g_istore5 (n := 91) dL_hangs_89 rfl (by decide) rfl ?_
    refine g_iload (n := 93) dL_hangs_91 rfl rfl ?_
    refine g_aload_n (n := 94) dL_hangs_93 rfl rfl ?_
    refine g_iload (n := 96) dL_hangs_94 rfl rfl ?_
    refine g_iconst (n := 97) dL_hangs_96 rfl k_ic_4 ?_
    refine g_cKHv (c9 := 0) (n := 100) c4 dL_hangs_97 rfl kz_L_125 rfl (Or.inl (Nat.le_of_ble_eq_true rfl)) (Nat.le_of_ble_eq_true rfl) rfl rfl ?_ rfl
    refine g_iadd (n := 101) dL_hangs_100 rfl ?_
    refine g_istore6 (n := 103) dL_hangs_101 rfl (by decide) rfl ?_
    refine g_iinc7 (n := 106) dL_hangs_103 rfl (by decide) rfl (z_inc1 _) ?_
    refine g_goto (n := 0) (t := 61) dL_hangs_106 (by decide) ?_
    exact ih
/-- the roads -/
theorem hang_1 (Z : zS t N s h V) (K : zG w mL_hangs (d + 12) 1 49 [vR 9 0, vI (nI y), vI (nI s), vI (nI (cnt (fun j => decide (0 < vc V j)) 64)), vU, vU, vU, vU, vU, vU, vU, vU, vU] [] (zP N O) (zrI (nI 1)) (zP N2 O)) :
    zG w mL_hangs (d + 12) 1 11 [vR 9 0, vI (nI y), vI (nI s), vI (nI (cnt (fun j => decide (0 < vc V j)) 0)), vI (nI 0), vU, vU, vU, vU, vU, vU, vU, vU] [] (zP N O) (zrI (nI 1)) (zP N2 O) := by
  have W := Z.W
  refine z_loop (fun k => zG w mL_hangs (d + 12) 1 11 [vR 9 0, vI (nI y), vI (nI s), vI (nI (cnt (fun j => decide (0 < vc V j)) k)), vI (nI k), vU, vU, vU, vU, vU, vU, vU, vU] [] (zP N O) (zrI (nI 1)) (zP N2 O)) 64 ?_ (fun k hk ih => ?_) 0 (by decide)
  · refine g_iload (n := 13) dL_hangs_11 rfl rfl ?_
    refine g_bipush (n := 15) dL_hangs_13 rfl k_bp_64 ?_
    refine g_icmp_ge (n := 18) (t := 49) dL_hangs_15 rfl (by decide) (fun _ => ?_) (fun q9 => absurd (nI_le (by omega) (by omega)) q9)
    refine g_drop 4 ?_
    exact K
  · have c := q_roadOf (w := w) (d := d + 1) (O := O) Z (show k / 8 < 8 by omega) (show k % 8 < 8 by omega)
    obtain ⟨l, e⟩ := vc_n W hk
    rw [show 8 * (k / 8) + k % 8 = k by omega, e] at c
    have dd : bN (decide (¬ nI (vc V k) ≤ 0)) = bN (decide (0 < vc V k)) := by
      congr 1
      refine decide_eq_decide.mpr ?_
      rw [Int32.not_le]
      exact nI_ltI (a := 0) (by omega) (by omega)
    have ew : cnt (fun j => decide (0 < vc V j)) k + bN (decide (0 < vc V k)) = cnt (fun j => decide (0 < vc V j)) (k + 1) := rfl
    refine g_iload (n := 13) dL_hangs_11 rfl rfl ?_
    refine g_bipush (n := 15) dL_hangs_13 rfl k_bp_64 ?_
    refine g_icmp_ge (n := 18) (t := 49) dL_hangs_15 rfl (by decide) (fun q9 => absurd q9 (nle hk (by decide))) (fun _ => ?_)
    refine g_iload_n (n := 19) dL_hangs_18 rfl rfl ?_
    refine g_aload_n (n := 20) dL_hangs_19 rfl rfl ?_
    refine g_iload (n := 22) dL_hangs_20 rfl rfl ?_
    refine g_bipush (n := 24) dL_hangs_22 rfl k_bp_8 ?_
    refine g_idivN (n := 25) dL_hangs_24 rfl (show k < 2 ^ 31 by omega) (by decide) (by decide) ?_
    refine g_iload (n := 27) dL_hangs_25 rfl rfl ?_
    refine g_bipush (n := 29) dL_hangs_27 rfl k_bp_8 ?_
    refine g_iremN (n := 30) dL_hangs_29 rfl (show k < 2 ^ 31 by omega) (by decide) (by decide) ?_
    refine g_cKHv (c9 := 0) (n := 33) c dL_hangs_30 rfl kz_L_115 rfl (Or.inl (Nat.le_of_ble_eq_true rfl)) (Nat.le_of_ble_eq_true rfl) rfl rfl ?_ rfl
    refine g_dia_if_le (t := 40) dL_hangs_33 (by decide) dL_hangs_36 dL_hangs_37 (by decide) dL_hangs_40 ?_
    rw [dd]
    refine g_iaddN (n := 42) dL_hangs_41 rfl ?_
    rw [ew]
    refine g_istore3 (n := 43) dL_hangs_42 rfl (by decide) rfl ?_
    refine g_iinc4 (n := 46) dL_hangs_43 rfl (by decide) rfl (z_inc1 _) ?_
    refine g_goto (n := 0) (t := 11) dL_hangs_46 (by decide) ?_
    exact ih
theorem a_hangs (Z : zS t M s h V) (hy : y < 2 ^ 31) : ∃ M1, zS t M1 s h V ∧ zCk w mL_hangs 1 (d + 12) [vR 9 0, vI (nI y)] (zP M O) (zrI (nI 1)) (zP M1 O) := by
  have h8 := Z.h8
  obtain ⟨N1, Z1, c1⟩ := q_count (w := w) (d := d + 1) (O := O) Z (show 1 < 10 by decide)
  rw [show vCt V s h 1 = nI s from Z.ss] at c1
  obtain ⟨N2, Z2, G5⟩ := hang_5 (w := w) (d := d) (O := O) hy 32 0 N1 (by omega) Z1
  have cx := q_exitOfX (w := w) (d := d + 1) (O := O) (y := nI 0) Z1 (x := nI s) (z_ok_ge (Int32.le_refl _))
  have K271 : zG w mL_hangs (d + 12) 0 271 [vR 9 0, vI (nI y), vI (nI s), vI (nI (cnt (fun j => decide (0 < vc V j)) 64)), vI (sm (fun e => V (69 + 5 * e)) s), vI (sm (fun e => V (70 + 5 * e)) s), vI (sm (fun e => V (71 + 5 * e)) s), vI (nI (cnt (fun j => decide (0 < V (107 + j))) 16)), vI (sm (fun j => V (135 + j)) 4), vI (nI 1), vU, vU, vU] [] (zP N1 O) (zrI (nI 1)) (zP N2 O) := by
    refine g_iconst (n := 272) dL_hangs_271 rfl k_ic_0 ?_
    refine g_istore10 (n := 274) dL_hangs_272 rfl (by decide) rfl ?_
    refine g_iconst (n := 275) dL_hangs_274 rfl k_ic_0 ?_
    refine g_istore11 (n := 277) dL_hangs_275 rfl (by decide) rfl ?_
    refine g_iconst (n := 278) dL_hangs_277 rfl k_ic_0 ?_
    refine g_istore12 (n := 280) dL_hangs_278 rfl (by decide) rfl ?_
    exact G5
  have K4 := hang_4 Z1 K271
  have K109 : zG w mL_hangs (d + 12) 1 109 [vR 9 0, vI (nI y), vI (nI s), vI (nI (cnt (fun j => decide (0 < vc V j)) 64)), vI (sm (fun e => V (69 + 5 * e)) s), vI (sm (fun e => V (70 + 5 * e)) s), vI (sm (fun e => V (71 + 5 * e)) s), vU, vU, vU, vU, vU, vU] [] (zP N1 O) (zrI (nI 1)) (zP N2 O) := by
    refine g_iconst (n := 110) dL_hangs_109 rfl k_ic_0 ?_
    refine g_istore7 (n := 112) dL_hangs_110 rfl (by decide) rfl ?_
    refine g_iconst (n := 113) dL_hangs_112 rfl k_ic_0 ?_
    refine g_istore8 (n := 115) dL_hangs_113 rfl (by decide) rfl ?_
    refine g_aload_n (n := 116) dL_hangs_115 rfl rfl ?_
    refine g_iload_n (n := 117) dL_hangs_116 rfl rfl ?_
    refine g_iconst (n := 118) dL_hangs_117 rfl k_ic_0 ?_
    refine g_cKHv (c9 := 1) (n := 121) cx dL_hangs_118 rfl kz_L_125 rfl (Or.inl (Nat.le_of_ble_eq_true rfl)) (Nat.le_of_ble_eq_true rfl) rfl rfl ?_ rfl
    refine g_ldc (n := 123) dL_hangs_121 rfl kc_L_17 ?_
    refine g_icmp_ne (n := 126) (t := 130) dL_hangs_123 rfl (by decide) (fun q9 => absurd rfl q9) (fun _ => ?_)
    refine g_iconst (n := 127) dL_hangs_126 rfl k_ic_1 ?_
    refine g_goto (n := 0) (t := 131) dL_hangs_127 (by decide) ?_
    refine g_istore9 (n := 133) dL_hangs_131 rfl (by decide) rfl ?_
    refine g_iconst (n := 134) dL_hangs_133 rfl k_ic_0 ?_
    refine g_istore10 (n := 136) dL_hangs_134 rfl (by decide) rfl ?_
    exact K4
  have K2 := hang_2 Z1 K109
  have K49 : zG w mL_hangs (d + 12) 1 49 [vR 9 0, vI (nI y), vI (nI s), vI (nI (cnt (fun j => decide (0 < vc V j)) 64)), vU, vU, vU, vU, vU, vU, vU, vU, vU] [] (zP N1 O) (zrI (nI 1)) (zP N2 O) := by
    refine g_iconst (n := 50) dL_hangs_49 rfl k_ic_0 ?_
    refine g_istore4 (n := 52) dL_hangs_50 rfl (by decide) rfl ?_
    refine g_iconst (n := 53) dL_hangs_52 rfl k_ic_0 ?_
    refine g_istore5 (n := 55) dL_hangs_53 rfl (by decide) rfl ?_
    refine g_iconst (n := 56) dL_hangs_55 rfl k_ic_0 ?_
    refine g_istore6 (n := 58) dL_hangs_56 rfl (by decide) rfl ?_
    refine g_iconst (n := 59) dL_hangs_58 rfl k_ic_0 ?_
    refine g_istore7 (n := 61) dL_hangs_59 rfl (by decide) rfl ?_
    exact K2
  have K1 := hang_1 Z1 K49
  refine ⟨N2, Z2, ?_⟩
  refine zCk_of (L0 := [vR 9 0, vI (nI y), vU, vU, vU, vU, vU, vU, vU, vU, vU, vU, vU]) (by decide) (by decide) rfl (Nat.le_of_ble_eq_true rfl) rfl rfl ?_
  refine g_aload_n (n := 1) dL_hangs_0 rfl rfl ?_
  refine g_iconst (n := 2) dL_hangs_1 rfl k_ic_1 ?_
  refine g_cKHv (c9 := 0) (n := 5) c1 dL_hangs_2 rfl kz_L_117 rfl (Or.inl (Nat.le_of_ble_eq_true rfl)) (Nat.le_of_ble_eq_true rfl) rfl rfl ?_ rfl
  refine g_istore2 (n := 6) dL_hangs_5 rfl (by decide) rfl ?_
  refine g_iconst (n := 7) dL_hangs_6 rfl k_ic_0 ?_
  refine g_istore3 (n := 8) dL_hangs_7 rfl (by decide) rfl ?_
  refine g_iconst (n := 9) dL_hangs_8 rfl k_ic_0 ?_
  refine g_istore4 (n := 11) dL_hangs_9 rfl (by decide) rfl ?_
  exact K1
end HG

