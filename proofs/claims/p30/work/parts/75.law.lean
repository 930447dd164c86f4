/-! The law. -/
abbrev mLw (tb : List (Nat × Nat × Nat × Nat)) : zMth := (yL_law, cL_law, 25, some .boolean, tb)
def zE (w : zWp) (tb : List (Nat × Nat × Nat × Nat)) (O : Nat → Int64) (cr pc : Nat) (lv stk : List zAV) (M : Nat → Nat → Nat → Int32) : Prop := ∃ M', zG w (mLw tb) 13 cr pc lv stk (zP M O) (zrI (nI 1)) (zP M' O)
theorem zS_mono {t t' : Nat} {M : Nat → Nat → Nat → Int32} {s h : Nat} {V : Nat → Int32} (Z : zS t M s h V) (l : t ≤ t') (h9 : t' ≤ 100) : zS t' M s h V := by
  obtain ⟨o, K, L, Z⟩ := Z
  exact ⟨o, K, L, Z.F, Z.ss, Z.kk, ⟨Z.R, vG_mono Z.G l h9⟩, fun j hj => ⟨(Z.H j hj).1, vG_mono (Z.H j hj).2 l h9⟩, fun p hp hk => ⟨(Z.S p hp hk).1, vG_mono (Z.S p hp hk).2 l h9⟩⟩
theorem bN_gt {r : Int32} (hr : (-2000000 : Int32) < r) : bN (decide (¬ r ≤ -2000000)) = 1 := by
  rw [decide_eq_true (Int32.not_le.mpr hr)]
  rfl
theorem bN_ng {r : Int32} (hr : ¬ (-2000000 : Int32) < r) : bN (decide (¬ r ≤ -2000000)) = 0 := by
  rw [decide_eq_false (fun q => q (Int32.not_lt.mp hr))]
  rfl
def z_wk : List zAV → List zAV → Prop
  | [], [] => True
  | a :: as, b :: bs => (a = vU ∨ a = b) ∧ z_wk as bs
  | _, _ => False
theorem z_wk_at : ∀ {l' l : List zAV} {j : Nat} {u : zAV}, z_wk l' l → l'[j]? = some u → z_isU u = false → l[j]? = some u
  | [], [], j, u, _, h, _ => by simp at h
  | a :: as, b :: bs, 0, u, ⟨h1, _⟩, h, hu => by
    simp at h
    subst h
    rcases h1 with q | q
    · rw [q] at hu
      cases hu
    · rw [q]
      rfl
  | a :: as, b :: bs, j + 1, u, ⟨_, h2⟩, h, hu => by
    simp at h ⊢
    exact z_wk_at h2 h hu
  | [], b :: bs, j, u, h, _, _ => h.elim
  | a :: as, [], j, u, h, _, _ => h.elim
theorem g_wk {w : zWp} {f : zMth} {d cr pc : Nat} {lv lv' stk : List zAV} {σ : zSt} {r : zRes} {σ' : zSt} (hw : z_wk lv' lv) (kk : zG w f d cr pc lv' stk σ r σ') : zG w f d cr pc lv stk σ r σ' :=
  fun p l e R s m args below meth c mc ms H locs cells slots ls X hl hP hS hB => kk p l e R s m args below meth c mc ms H locs cells slots ls X ⟨hl.1, hl.2.1, fun q hq => hl.2.2 q (by
    obtain ⟨j, u, h1, h2, h3⟩ := (z_kn_mem _ _ _).mp hq
    exact (z_kn_mem _ _ _).mpr ⟨j, u, h1, z_wk_at hw h2 h3, h3⟩)⟩ hP hS hB
section LW
variable {w : zWp} {tb : List (Nat × Nat × Nat × Nat)} {cr t : Nat} {M : Nat → Nat → Nat → Int32} {O : Nat → Int64} {s s1 h y i : Nat} {V U : Nat → Int32} {r : Int32}
theorem law_C (Z : zS t M s h V) (hy : y < 2 ^ 31) (hi : i < 34) (IH : ∀ M h2, zS t M s h2 V → zE w tb O cr 100 [.inl (.ref w.2.2.2.1), vR 9 0, vI (nI 1), vI (nI (i + 1)), vU, vU, vU, vU, vU, vU, vU, vU, vU, vU, vU, vU, vU, vU, vU, vU, vU, vU, vU, vU, vU] [] M) : zE w tb O (cr + 1) 762 [.inl (.ref w.2.2.2.1), vR 9 0, vI (nI 1), vI (nI i), vU, vI (nI (y / 16)), vU, vU, vI (nI (y / 16 % 8)), vI (nI (y / 16 / 8 % 4)), vU, vU, vU, vU, vU, vU, vU, vU, vU, vU, vU, vU, vU, vU, vU] [] M := by
  obtain ⟨N1, h1, Z1, c1⟩ := a_choices (w := w) (d := 0) (O := O) Z (show (y / 16 % 8) < 8 by omega) (show (y / 16 / 8 % 4) < 4 by omega)
  by_cases h7 : i % 7 = 0
  · obtain ⟨N2, Z2, c2⟩ := a_hangs (w := w) (d := 0) (O := O) (y := y / 16) Z1 (by omega)
    obtain ⟨M', G⟩ := IH N2 h1 Z2
    refine ⟨M', ?_⟩
    refine g_iload_n (n := 763) dL_law_762 rfl rfl ?_
    refine g_if_eq (n := 766) (t := 797) dL_law_763 rfl (by decide) (fun q9 => absurd q9 (by decide)) (fun _ => ?_)
    refine g_aload_n (n := 767) dL_law_766 rfl rfl ?_
    refine g_iload (n := 769) dL_law_767 rfl rfl ?_
    refine g_iload (n := 771) dL_law_769 rfl rfl ?_
    refine g_cKPv (c9 := 0) (n := 774) c1 dL_law_771 rfl kz_L_162 rfl (Or.inr ⟨rfl, by decide, by decide⟩) (Nat.le_of_ble_eq_true rfl) rfl rfl ?_ rfl
    refine g_if_eq (n := 777) (t := 797) dL_law_774 rfl (by decide) (fun q9 => absurd q9 (by decide)) (fun _ => ?_)
    refine g_iload_n (n := 778) dL_law_777 rfl rfl ?_
    refine g_bipush (n := 780) dL_law_778 rfl k_bp_7 ?_
    refine g_iremN (n := 781) dL_law_780 rfl (show i < 2 ^ 31 by omega) (by decide) (by decide) ?_
    rw [h7]
    refine g_if_gt (n := 784) (t := 793) dL_law_781 rfl (by decide) (fun q9 => absurd q9 (by decide)) (fun _ => ?_)
    refine g_aload_n (n := 785) dL_law_784 rfl rfl ?_
    refine g_iload (n := 787) dL_law_785 rfl rfl ?_
    refine g_cKPv (c9 := 1) (n := 790) c2 dL_law_787 rfl kz_L_147 rfl (Or.inl (Nat.le_of_ble_eq_true rfl)) (Nat.le_of_ble_eq_true rfl) rfl rfl ?_ rfl
    refine g_if_eq (n := 793) (t := 797) dL_law_790 rfl (by decide) (fun q9 => absurd q9 (by decide)) (fun _ => ?_)
    refine g_iconst (n := 794) dL_law_793 rfl k_ic_1 ?_
    refine g_goto (n := 0) (t := 798) dL_law_794 (by decide) ?_
    refine g_istore2 (n := 799) dL_law_798 rfl (Nat.le_of_ble_eq_true rfl) rfl ?_
    refine g_iinc3 (n := 802) dL_law_799 rfl (Nat.le_of_ble_eq_true rfl) rfl (z_inc1 _) ?_
    refine g_goto (n := 0) (t := 100) dL_law_802 (by decide) ?_
    refine g_drop 5 (g_drop 8 (g_drop 9 ?_))
    exact G
  · obtain ⟨M', G⟩ := IH N1 h1 Z1
    refine ⟨M', zG_cr 1 ?_⟩
    refine g_iload_n (n := 763) dL_law_762 rfl rfl ?_
    refine g_if_eq (n := 766) (t := 797) dL_law_763 rfl (by decide) (fun q9 => absurd q9 (by decide)) (fun _ => ?_)
    refine g_aload_n (n := 767) dL_law_766 rfl rfl ?_
    refine g_iload (n := 769) dL_law_767 rfl rfl ?_
    refine g_iload (n := 771) dL_law_769 rfl rfl ?_
    refine g_cKPv (c9 := 0) (n := 774) c1 dL_law_771 rfl kz_L_162 rfl (Or.inr ⟨rfl, by decide, by decide⟩) (Nat.le_of_ble_eq_true rfl) rfl rfl ?_ rfl
    refine g_if_eq (n := 777) (t := 797) dL_law_774 rfl (by decide) (fun q9 => absurd q9 (by decide)) (fun _ => ?_)
    refine g_iload_n (n := 778) dL_law_777 rfl rfl ?_
    refine g_bipush (n := 780) dL_law_778 rfl k_bp_7 ?_
    refine g_iremN (n := 781) dL_law_780 rfl (show i < 2 ^ 31 by omega) (by decide) (by decide) ?_
    refine g_if_gt (n := 784) (t := 793) dL_law_781 rfl (by decide) (fun _ => ?_) (fun q9 => absurd (nI_lt (show 0 < i % 7 by omega) (by omega)) q9)
    refine g_iconst (n := 794) dL_law_793 rfl k_ic_1 ?_
    refine g_goto (n := 0) (t := 798) dL_law_794 (by decide) ?_
    refine g_istore2 (n := 799) dL_law_798 rfl (Nat.le_of_ble_eq_true rfl) rfl ?_
    refine g_iinc3 (n := 802) dL_law_799 rfl (Nat.le_of_ble_eq_true rfl) rfl (z_inc1 _) ?_
    refine g_goto (n := 0) (t := 100) dL_law_802 (by decide) ?_
    refine g_drop 5 (g_drop 8 (g_drop 9 ?_))
    exact G
theorem law_saved {u10 u11 u12 u13 u14 u15 u16 u17 u18 : zAV} {v19 : Int32} (Z1 : zS t M s1 (hNx y h r) U) (hy : y < 2 ^ 31) (h6 : h ≤ 6) (K : ∀ N, zS t N s1 (hNx y h r) U → zE w tb O cr 388 [.inl (.ref w.2.2.2.1), vR 9 0, vI (nI 1), vI (nI i), vI (nI y), vI (nI (y / 16)), vI (nI (y % 16)), vI (nI h), vI (nI (y / 16 % 8)), vI (nI (y / 16 / 8 % 4)), u10, u11, u12, u13, u14, u15, u16, u17, u18, vI v19, vI r, vI (nI (bN (decide (¬ r ≤ -2000000)))), vU, vU, vU] [] N) :
    zE w tb O cr 335 [.inl (.ref w.2.2.2.1), vR 9 0, vI (nI 1), vI (nI i), vI (nI y), vI (nI (y / 16)), vI (nI (y % 16)), vI (nI h), vI (nI (y / 16 % 8)), vI (nI (y / 16 / 8 % 4)), u10, u11, u12, u13, u14, u15, u16, u17, u18, vI v19, vI r, vU, vU, vU, vU] [vI (nI (bN (decide (¬ r ≤ -2000000))))] M := by
  obtain ⟨N1, Z2, c9⟩ := q_count (w := w) (d := 2) (O := O) Z1 (show 9 < 10 by decide)
  rw [show vCt U s1 (hNx y h r) 9 = nI (hNx y h r) from rfl] at c9
  obtain ⟨M', G⟩ := K N1 Z2
  refine ⟨M', ?_⟩
  have K379 : ∀ n, hNx y h r = n → zG w (mLw tb) 13 cr 379 [.inl (.ref w.2.2.2.1), vR 9 0, vI (nI 1), vI (nI i), vI (nI y), vI (nI (y / 16)), vI (nI (y % 16)), vI (nI h), vI (nI (y / 16 % 8)), vI (nI (y / 16 / 8 % 4)), u10, u11, u12, u13, u14, u15, u16, u17, u18, vI v19, vI r, vI (nI (bN (decide (¬ r ≤ -2000000)))), vU, vU, vU] [vI (nI n), vI (nI (hNx y h r))] (zP N1 O) (zrI (nI 1)) (zP M' O) := fun n hn => by
    refine g_icmp_ne (n := 382) (t := 386) dL_law_379 rfl (by decide) (fun q9 => absurd (congrArg nI hn) q9) (fun _ => ?_)
    refine g_iconst (n := 383) dL_law_382 rfl k_ic_1 ?_
    refine g_goto (n := 0) (t := 387) dL_law_383 (by decide) ?_
    refine g_istore2 (n := 388) dL_law_387 rfl (Nat.le_of_ble_eq_true rfl) rfl ?_
    exact G
  by_cases hr : (-2000000 : Int32) < r
  · have e := bN_gt hr
    rw [e] at K379 ⊢
    by_cases k9 : y % 16 = 9
    · by_cases k2 : y / 16 % 3 = 2
      · refine g_istore21 (n := 337) dL_law_335 rfl (Nat.le_of_ble_eq_true rfl) rfl ?_
        refine g_aload_n (n := 338) dL_law_337 rfl rfl ?_
        refine g_bipush (n := 340) dL_law_338 rfl k_bp_9 ?_
        refine g_cKHv (c9 := 0) (n := 343) c9 dL_law_340 rfl kz_L_117 rfl (Or.inl (Nat.le_of_ble_eq_true rfl)) (Nat.le_of_ble_eq_true rfl) rfl rfl ?_ rfl
        refine g_iload (n := 345) dL_law_343 rfl rfl ?_
        refine g_if_eq (n := 348) (t := 370) dL_law_345 rfl (by decide) (fun q9 => absurd q9 (by decide)) (fun _ => ?_)
        refine g_iload (n := 350) dL_law_348 rfl rfl ?_
        refine g_bipush (n := 352) dL_law_350 rfl k_bp_9 ?_
        refine g_icmp_ne (n := 355) (t := 363) dL_law_352 rfl (by decide) (fun q9 => absurd (congrArg nI k9) q9) (fun _ => ?_)
        refine g_iload (n := 357) dL_law_355 rfl rfl ?_
        refine g_iconst (n := 358) dL_law_357 rfl k_ic_3 ?_
        refine g_iremN (n := 359) dL_law_358 rfl (show y / 16 < 2 ^ 31 by omega) (by decide) (by decide) ?_
        refine g_iconst (n := 360) dL_law_359 rfl k_ic_2 ?_
        refine g_icmp_eq (n := 363) (t := 370) dL_law_360 rfl (by decide) (fun _ => ?_) (fun q9 => absurd (congrArg nI k2) q9)
        refine g_iload (n := 372) dL_law_370 rfl rfl ?_
        refine g_goto (n := 0) (t := 379) dL_law_372 (by decide) ?_
        exact K379 h (hNx_k ⟨k9, k2⟩)
      · by_cases e6 : h = 6
        · refine g_istore21 (n := 337) dL_law_335 rfl (Nat.le_of_ble_eq_true rfl) rfl ?_
          refine g_aload_n (n := 338) dL_law_337 rfl rfl ?_
          refine g_bipush (n := 340) dL_law_338 rfl k_bp_9 ?_
          refine g_cKHv (c9 := 0) (n := 343) c9 dL_law_340 rfl kz_L_117 rfl (Or.inl (Nat.le_of_ble_eq_true rfl)) (Nat.le_of_ble_eq_true rfl) rfl rfl ?_ rfl
          refine g_iload (n := 345) dL_law_343 rfl rfl ?_
          refine g_if_eq (n := 348) (t := 370) dL_law_345 rfl (by decide) (fun q9 => absurd q9 (by decide)) (fun _ => ?_)
          refine g_iload (n := 350) dL_law_348 rfl rfl ?_
          refine g_bipush (n := 352) dL_law_350 rfl k_bp_9 ?_
          refine g_icmp_ne (n := 355) (t := 363) dL_law_352 rfl (by decide) (fun q9 => absurd (congrArg nI k9) q9) (fun _ => ?_)
          refine g_iload (n := 357) dL_law_355 rfl rfl ?_
          refine g_iconst (n := 358) dL_law_357 rfl k_ic_3 ?_
          refine g_iremN (n := 359) dL_law_358 rfl (show y / 16 < 2 ^ 31 by omega) (by decide) (by decide) ?_
          refine g_iconst (n := 360) dL_law_359 rfl k_ic_2 ?_
          refine g_icmp_eq (n := 363) (t := 370) dL_law_360 rfl (by decide) (fun q9 => absurd q9 (fun q => k2 ((nI_eq (by omega) (by omega)).mp q))) (fun _ => ?_)
          refine g_iload (n := 365) dL_law_363 rfl rfl ?_
          refine g_bipush (n := 367) dL_law_365 rfl k_bp_6 ?_
          refine g_icmp_ne (n := 370) (t := 375) dL_law_367 rfl (by decide) (fun q9 => absurd (congrArg nI e6) q9) (fun _ => ?_)
          refine g_iload (n := 372) dL_law_370 rfl rfl ?_
          refine g_goto (n := 0) (t := 379) dL_law_372 (by decide) ?_
          exact K379 h (by rw [hNx_y hr (fun q => k2 q.2), e6]; rfl)
        · refine g_istore21 (n := 337) dL_law_335 rfl (Nat.le_of_ble_eq_true rfl) rfl ?_
          refine g_aload_n (n := 338) dL_law_337 rfl rfl ?_
          refine g_bipush (n := 340) dL_law_338 rfl k_bp_9 ?_
          refine g_cKHv (c9 := 0) (n := 343) c9 dL_law_340 rfl kz_L_117 rfl (Or.inl (Nat.le_of_ble_eq_true rfl)) (Nat.le_of_ble_eq_true rfl) rfl rfl ?_ rfl
          refine g_iload (n := 345) dL_law_343 rfl rfl ?_
          refine g_if_eq (n := 348) (t := 370) dL_law_345 rfl (by decide) (fun q9 => absurd q9 (by decide)) (fun _ => ?_)
          refine g_iload (n := 350) dL_law_348 rfl rfl ?_
          refine g_bipush (n := 352) dL_law_350 rfl k_bp_9 ?_
          refine g_icmp_ne (n := 355) (t := 363) dL_law_352 rfl (by decide) (fun q9 => absurd (congrArg nI k9) q9) (fun _ => ?_)
          refine g_iload (n := 357) dL_law_355 rfl rfl ?_
          refine g_iconst (n := 358) dL_law_357 rfl k_ic_3 ?_
          refine g_iremN (n := 359) dL_law_358 rfl (show y / 16 < 2 ^ 31 by omega) (by decide) (by decide) ?_
          refine g_iconst (n := 360) dL_law_359 rfl k_ic_2 ?_
          refine g_icmp_eq (n := 363) (t := 370) dL_law_360 rfl (by decide) (fun q9 => absurd q9 (fun q => k2 ((nI_eq (by omega) (by omega)).mp q))) (fun _ => ?_)
          refine g_iload (n := 365) dL_law_363 rfl rfl ?_
          refine g_bipush (n := 367) dL_law_365 rfl k_bp_6 ?_
          refine g_icmp_ne (n := 370) (t := 375) dL_law_367 rfl (by decide) (fun _ => ?_) (fun q9 => absurd q9 (fun q => e6 ((nI_eq (by omega) (by omega)).mp q)))
          refine g_iload (n := 377) dL_law_375 rfl rfl ?_
          refine g_iconst (n := 378) dL_law_377 rfl k_ic_1 ?_
          refine g_iaddN (n := 379) dL_law_378 rfl ?_
          exact K379 (h + 1) (by rw [hNx_y hr (fun q => k2 q.2)]; exact if_pos (by omega))
    · by_cases e6 : h = 6
      · refine g_istore21 (n := 337) dL_law_335 rfl (Nat.le_of_ble_eq_true rfl) rfl ?_
        refine g_aload_n (n := 338) dL_law_337 rfl rfl ?_
        refine g_bipush (n := 340) dL_law_338 rfl k_bp_9 ?_
        refine g_cKHv (c9 := 0) (n := 343) c9 dL_law_340 rfl kz_L_117 rfl (Or.inl (Nat.le_of_ble_eq_true rfl)) (Nat.le_of_ble_eq_true rfl) rfl rfl ?_ rfl
        refine g_iload (n := 345) dL_law_343 rfl rfl ?_
        refine g_if_eq (n := 348) (t := 370) dL_law_345 rfl (by decide) (fun q9 => absurd q9 (by decide)) (fun _ => ?_)
        refine g_iload (n := 350) dL_law_348 rfl rfl ?_
        refine g_bipush (n := 352) dL_law_350 rfl k_bp_9 ?_
        refine g_icmp_ne (n := 355) (t := 363) dL_law_352 rfl (by decide) (fun _ => ?_) (fun q9 => absurd q9 (fun q => k9 ((nI_eq (by omega) (by omega)).mp q)))
        refine g_iload (n := 365) dL_law_363 rfl rfl ?_
        refine g_bipush (n := 367) dL_law_365 rfl k_bp_6 ?_
        refine g_icmp_ne (n := 370) (t := 375) dL_law_367 rfl (by decide) (fun q9 => absurd (congrArg nI e6) q9) (fun _ => ?_)
        refine g_iload (n := 372) dL_law_370 rfl rfl ?_
        refine g_goto (n := 0) (t := 379) dL_law_372 (by decide) ?_
        exact K379 h (by rw [hNx_y hr (fun q => k9 q.1), e6]; rfl)
      · refine g_istore21 (n := 337) dL_law_335 rfl (Nat.le_of_ble_eq_true rfl) rfl ?_
        refine g_aload_n (n := 338) dL_law_337 rfl rfl ?_
        refine g_bipush (n := 340) dL_law_338 rfl k_bp_9 ?_
        refine g_cKHv (c9 := 0) (n := 343) c9 dL_law_340 rfl kz_L_117 rfl (Or.inl (Nat.le_of_ble_eq_true rfl)) (Nat.le_of_ble_eq_true rfl) rfl rfl ?_ rfl
        refine g_iload (n := 345) dL_law_343 rfl rfl ?_
        refine g_if_eq (n := 348) (t := 370) dL_law_345 rfl (by decide) (fun q9 => absurd q9 (by decide)) (fun _ => ?_)
        refine g_iload (n := 350) dL_law_348 rfl rfl ?_
        refine g_bipush (n := 352) dL_law_350 rfl k_bp_9 ?_
        refine g_icmp_ne (n := 355) (t := 363) dL_law_352 rfl (by decide) (fun _ => ?_) (fun q9 => absurd q9 (fun q => k9 ((nI_eq (by omega) (by omega)).mp q)))
        refine g_iload (n := 365) dL_law_363 rfl rfl ?_
        refine g_bipush (n := 367) dL_law_365 rfl k_bp_6 ?_
        refine g_icmp_ne (n := 370) (t := 375) dL_law_367 rfl (by decide) (fun _ => ?_) (fun q9 => absurd q9 (fun q => e6 ((nI_eq (by omega) (by omega)).mp q)))
        refine g_iload (n := 377) dL_law_375 rfl rfl ?_
        refine g_iconst (n := 378) dL_law_377 rfl k_ic_1 ?_
        refine g_iaddN (n := 379) dL_law_378 rfl ?_
        exact K379 (h + 1) (by rw [hNx_y hr (fun q => k9 q.1)]; exact if_pos (by omega))
  · have e := bN_ng hr
    rw [e] at K379 ⊢
    refine g_istore21 (n := 337) dL_law_335 rfl (Nat.le_of_ble_eq_true rfl) rfl ?_
    refine g_aload_n (n := 338) dL_law_337 rfl rfl ?_
    refine g_bipush (n := 340) dL_law_338 rfl k_bp_9 ?_
    refine g_cKHv (c9 := 0) (n := 343) c9 dL_law_340 rfl kz_L_117 rfl (Or.inl (Nat.le_of_ble_eq_true rfl)) (Nat.le_of_ble_eq_true rfl) rfl rfl ?_ rfl
    refine g_iload (n := 345) dL_law_343 rfl rfl ?_
    refine g_if_eq (n := 348) (t := 370) dL_law_345 rfl (by decide) (fun _ => ?_) (fun q9 => absurd rfl q9)
    refine g_iload (n := 372) dL_law_370 rfl rfl ?_
    refine g_goto (n := 0) (t := 379) dL_law_372 (by decide) ?_
    exact K379 h (hNx_n hr)
end LW

