/-! The reference's digest. -/
def gRd (V : Nat → Int32) (h : Int64) : Int64 := hf2 (fun j => V (2 + j)) (fun j => xfar (vDi V (8 * (j / 8) + j % 8))) 64 h
def gEx (V : Nat → Int32) (s : Nat) (h : Int64) : Int64 := hfo (fun j => V (67 + j % 5 + 5 * (j / 5))) (5 * s) h
def gNb (V : Nat → Int32) (h : Int64) : Int64 := hfo (fun j => vNo V (j / 8) (j % 8)) 32 h
def gCh (V : Nat → Int32) (s : Nat) (h : Int64) : Int64 := hfo (fun j => vCh V s (j / 24) (j / 6 % 4) (j % 6)) 192 h
def gTx (T : Nat → Int32) (n : Nat) (h : Int64) : Int64 := hfo T n (hj h (nI n))
def gKp (K : Nat → Bool) (h : Int64) : Int64 := hj (hj h (zb (K 0))) (zb (K 1))
def gSh (b c : Nat) (h : Int64) : Int64 := 31 * h + (kSh (b - c) b).toInt64
def gTr (V : Nat → Int32) (s : Nat) (h : Int64) : Int64 := hj (hj (hj h (vOt V s 0 7 5)) (vDx V s s).1) (vId V 0 7)
def gEnd (K : Nat → Bool) (T : Nat → Int32) (n b c : Nat) (h : Int64) : Int64 := gTx T n (gKp K (gSh b c h))
def gDig (V : Nat → Int32) (s k : Nat) (K : Nat → Bool) (T : Nat → Int32) (n b c : Nat) : Int64 :=
  gEnd K T n b c (gTr V s (hfo (vRe (vDi V) V s 0 0) s (gCh V s (gNb V (gEx V s (gRd V (hj (hj (hfo (vCt V s k) 10 3271) (V 0)) (V 1))))))))
section L22
variable {w : zWp} {d s k n b c : Nat} {M0 : Nat → Nat → Nat → Int32} {O : Nat → Int64} {V T : Nat → Int32} {K : Nat → Bool}
theorem c_isNaN {x : UInt64} (h : FP.Core.val64 x ≠ .nan) {σ : zSt} : zC w mJxe99ae_isNaN_b9ae7 d [vD x] σ (zrI (nI 0)) σ := by
  refine zC_of (cr := 0) (L0 := [vD x, vU]) rfl (by decide) (by decide) rfl (Nat.le_of_ble_eq_true rfl) rfl ?_
  refine g_dload_n (n := 1) dJxe99ae_isNaN_b9ae7_0 rfl rfl ?_
  refine g_dload_n (n := 2) dJxe99ae_isNaN_b9ae7_1 rfl rfl ?_
  refine g_dcmp (n := 3) dJxe99ae_isNaN_b9ae7_2 rfl ?_
  rw [show FP.dcmp x x = some .eq from FP.Core.dcmp_self h]
  refine g_if_eq (n := 6) (t := 10) dJxe99ae_isNaN_b9ae7_3 rfl (by decide) (fun _ => ?_) (fun q9 => absurd rfl q9)
  refine g_iconst (n := 11) dJxe99ae_isNaN_b9ae7_10 rfl k_ic_0 ?_
  exact g_ireturn dJxe99ae_isNaN_b9ae7_11 rfl rfl rfl rfl
theorem c_d2l {x : UInt64} (h : FP.Core.val64 x ≠ .nan) : zC w mJxe99ae_doubleToLongBits_ccdee (d + 1) [vD x] (zP M0 O) (zrJ x.toInt64) (zP M0 O) := by
  refine zC_of (cr := 0) (L0 := [vD x, vU]) rfl (by decide) (by decide) rfl (Nat.le_of_ble_eq_true rfl) rfl ?_
  refine g_dload_n (n := 1) dJxe99ae_doubleToLongBits_ccdee_0 rfl rfl ?_
  refine g_cSv (n := 4) (c_isNaN h) dJxe99ae_doubleToLongBits_ccdee_1 rfl kw_Jxe99ae_122 (Nat.le_of_ble_eq_true rfl) ⟨Nat.le_refl _, Nat.le_refl _⟩ ?_ rfl
  refine g_if_ne (n := 7) (t := 12) dJxe99ae_doubleToLongBits_ccdee_4 rfl (by decide) (fun q9 => absurd rfl q9) (fun _ => ?_)
  refine g_dload_n (n := 8) dJxe99ae_doubleToLongBits_ccdee_7 rfl rfl ?_
  refine g_d2raw (n := 11) dJxe99ae_doubleToLongBits_ccdee_8 rfl km_Jxe99ae_134 km_dN km_dS km_dI (by omega) (Nat.le_of_ble_eq_true rfl) ?_
  exact g_lreturn dJxe99ae_doubleToLongBits_ccdee_11 rfl rfl rfl
theorem kSh_ne {a b : Nat} (hab : a ≤ b) (hb : b ≤ 9999) : FP.Core.val64 (kSh a b) ≠ .nan := by
  unfold kSh
  by_cases h0 : b = 0
  · rw [if_pos h0, show FP.dconst1 = zdv 1023 0 from zdOne]
    exact zdv_ne (by decide) (by decide) (by decide)
  · rw [if_neg h0]
    by_cases ha : a = 0
    · subst ha
      rw [zd_zero (by omega) hb, show FP.Core.val64 FP.dconst0 = _ from FP.Core.val64_dconst0]
      intro q; cases q
    · obtain ⟨E, T, h, h1, hE, hT, _⟩ := zd_share (a := a) (b := b) (by omega) hab hb
      rw [show FP.ddiv (FP.i2d (nI a)) (FP.i2d (nI b)) = zdv E T from h]
      exact zdv_ne (by omega) (by omega) hT
/-- the end of the digest, from the share on -/
theorem r_digEnd (hn : M0 10 0 5 = nI n) (h60 : n ≤ 60) (hT : aeq n (M0 34 0) T) (hK : ∀ p, p < 2 → M0 33 0 p = zb (K p)) (hb : M0 32 0 171 = nI b) (hc : M0 32 0 172 = nI c) (hcb : c ≤ b) (h9 : b ≤ 9999) (h : Int64) (y : zAV) :
    zG w mX10_digest (d + 9) 0 311 [vR 10 0, vJ h, vU, y] [] (zP M0 O) (zrJ (gEnd K T n b c h)) (zP M0 O) := by
  have cs := r_share (w := w) (d := d + 8) (M := M0) (O := O) hb hc hcb h9
  have cl := c_d2l (w := w) (d := d + 7) (M0 := M0) (O := O) (kSh_ne (a := b - c) (b := b) (by omega) h9)
  have t383 : ∀ h, zG w mX10_digest (d + 9) 0 369 [vR 10 0, vJ h, vU, y] [] (zP M0 O) (zrJ (gTx T n h)) (zP M0 O) := by
    intro h
    unfold gTx
    refine g_ldc2 (n := 372) dX10_digest_369 rfl kc_X10_199 ?_
    refine g_lload_n (n := 373) dX10_digest_372 rfl rfl ?_
    refine g_lmul (n := 374) dX10_digest_373 rfl ?_
    refine g_aload_n (n := 375) dX10_digest_374 rfl rfl ?_
    refine gf_X10_113 (n := 378) dX10_digest_375 rfl rfl (z_lvP (by first | decide | assumption)) ?_
    rw [hn]
    refine g_i2l (n := 379) dX10_digest_378 rfl ?_
    refine g_ladd (n := 380) dX10_digest_379 rfl ?_
    refine g_lstore1 (n := 381) dX10_digest_380 rfl (by decide) rfl ?_
    refine g_iconst (n := 382) dX10_digest_381 rfl k_ic_0 ?_
    refine g_istore3 (n := 383) dX10_digest_382 rfl (by decide) rfl ?_
    refine z_loop (fun j => zG w mX10_digest (d + 9) 0 383 [vR 10 0, vJ (hfo T j (hj h (nI n))), vU, vI (nI j)] [] (zP M0 O) (zrJ (hfo T n (hj h (nI n)))) (zP M0 O)) n ?_ ?_ 0 (Nat.zero_le _)
    · refine g_iload_n (n := 384) dX10_digest_383 rfl rfl ?_
      refine g_aload_n (n := 385) dX10_digest_384 rfl rfl ?_
      refine gf_X10_113 (n := 388) dX10_digest_385 rfl rfl (z_lvP (by first | decide | assumption)) ?_
      rw [hn]
      refine g_icmp_ge (n := 391) (t := 411) dX10_digest_388 rfl (by decide) (fun _ => ?_) (fun q9 => absurd (Int32.le_refl _) q9)
      refine g_lload_n (n := 412) dX10_digest_411 rfl rfl ?_
      exact g_lreturn dX10_digest_412 rfl rfl rfl
    · intro j hj ih
      rw [hfo_s] at ih
      refine g_iload_n (n := 384) dX10_digest_383 rfl rfl ?_
      refine g_aload_n (n := 385) dX10_digest_384 rfl rfl ?_
      refine gf_X10_113 (n := 388) dX10_digest_385 rfl rfl (z_lvP (by first | decide | assumption)) ?_
      rw [hn]
      refine g_icmp_ge (n := 391) (t := 411) dX10_digest_388 rfl (by decide) (fun q9 => absurd q9 (nI_ge hj (by omega))) (fun _ => ?_)
      refine g_ldc2 (n := 394) dX10_digest_391 rfl kc_X10_199 ?_
      refine g_lload_n (n := 395) dX10_digest_394 rfl rfl ?_
      refine g_lmul (n := 396) dX10_digest_395 rfl ?_
      refine g_aload_n (n := 397) dX10_digest_396 rfl rfl ?_
      refine gf_X10_17 (n := 400) dX10_digest_397 rfl rfl (z_lvP (by first | decide | assumption)) rfl ?_
      refine g_iload_n (n := 401) dX10_digest_400 rfl rfl ?_
      refine g_cald (a := j) (n := 402) dX10_digest_401 rfl (by decide) (z_lvP (by first | decide | assumption)) rfl (show j < 60 by omega) ?_
      rw [hT j hj]
      refine g_i2l (n := 403) dX10_digest_402 rfl ?_
      refine g_ladd (n := 404) dX10_digest_403 rfl ?_
      refine g_lstore1 (n := 405) dX10_digest_404 rfl (by decide) rfl ?_
      refine g_iinc3 (n := 408) dX10_digest_405 rfl (by decide) rfl (z_inc1 _) ?_
      refine g_goto (n := 0) (t := 383) dX10_digest_408 (by decide) ?_
      exact ih
  have kb : ∀ p, p < 2 → ∀ q, M0 33 0 p = q → q = zb (K p) := fun p hp q e => e ▸ hK p hp
  unfold gEnd
  have t325 : ∀ h, zG w mX10_digest (d + 9) 0 325 [vR 10 0, vJ h, vU, y] [] (zP M0 O) (zrJ (gTx T n (gKp K h))) (zP M0 O) := by
    intro h
    have t347 : zG w mX10_digest (d + 9) 0 347 [vR 10 0, vJ (hj h (zb (K 0))), vU, y] [] (zP M0 O) (zrJ (gTx T n (gKp K h))) (zP M0 O) := by
      have g := t383 (gKp K h)
      unfold gKp at g ⊢
      refine g_ldc2 (n := 350) dX10_digest_347 rfl kc_X10_199 ?_
      refine g_lload_n (n := 351) dX10_digest_350 rfl rfl ?_
      refine g_lmul (n := 352) dX10_digest_351 rfl ?_
      refine g_aload_n (n := 353) dX10_digest_352 rfl rfl ?_
      refine gf_X10_13 (n := 356) dX10_digest_353 rfl rfl (z_lvP (by first | decide | assumption)) rfl ?_
      refine g_iconst (n := 357) dX10_digest_356 rfl k_ic_1 ?_
      refine g_zald (a := 1) (n := 358) dX10_digest_357 rfl (by decide) (z_lvP (by first | decide | assumption)) rfl (by decide) ?_
      rw [hK 1 (by decide)]
      cases hk : K 1
      · rw [hk] at g
        refine g_if_eq (n := 361) (t := 365) dX10_digest_358 rfl (by decide) (fun _ => ?_) (fun q9 => absurd rfl q9)
        refine g_iconst (n := 366) dX10_digest_365 rfl k_ic_0 ?_
        refine g_i2l (n := 367) dX10_digest_366 rfl ?_
        refine g_ladd (n := 368) dX10_digest_367 rfl ?_
        refine g_lstore1 (n := 369) dX10_digest_368 rfl (by decide) rfl ?_
        exact g
      · rw [hk] at g
        refine g_if_eq (n := 361) (t := 365) dX10_digest_358 rfl (by decide) (fun q9 => absurd q9 (by decide)) (fun _ => ?_)
        refine g_iconst (n := 362) dX10_digest_361 rfl k_ic_1 ?_
        refine g_goto (n := 0) (t := 366) dX10_digest_362 (by decide) ?_
        refine g_i2l (n := 367) dX10_digest_366 rfl ?_
        refine g_ladd (n := 368) dX10_digest_367 rfl ?_
        refine g_lstore1 (n := 369) dX10_digest_368 rfl (by decide) rfl ?_
        exact g
    refine g_ldc2 (n := 328) dX10_digest_325 rfl kc_X10_199 ?_
    refine g_lload_n (n := 329) dX10_digest_328 rfl rfl ?_
    refine g_lmul (n := 330) dX10_digest_329 rfl ?_
    refine g_aload_n (n := 331) dX10_digest_330 rfl rfl ?_
    refine gf_X10_13 (n := 334) dX10_digest_331 rfl rfl (z_lvP (by first | decide | assumption)) rfl ?_
    refine g_iconst (n := 335) dX10_digest_334 rfl k_ic_0 ?_
    refine g_zald (a := 0) (n := 336) dX10_digest_335 rfl (by decide) (z_lvP (by first | decide | assumption)) rfl (by decide) ?_
    rw [hK 0 (by decide)]
    cases hk : K 0
    · rw [hk] at t347
      refine g_if_eq (n := 339) (t := 343) dX10_digest_336 rfl (by decide) (fun _ => ?_) (fun q9 => absurd rfl q9)
      refine g_iconst (n := 344) dX10_digest_343 rfl k_ic_0 ?_
      refine g_i2l (n := 345) dX10_digest_344 rfl ?_
      refine g_ladd (n := 346) dX10_digest_345 rfl ?_
      refine g_lstore1 (n := 347) dX10_digest_346 rfl (by decide) rfl ?_
      exact t347
    · rw [hk] at t347
      refine g_if_eq (n := 339) (t := 343) dX10_digest_336 rfl (by decide) (fun q9 => absurd q9 (by decide)) (fun _ => ?_)
      refine g_iconst (n := 340) dX10_digest_339 rfl k_ic_1 ?_
      refine g_goto (n := 0) (t := 344) dX10_digest_340 (by decide) ?_
      refine g_i2l (n := 345) dX10_digest_344 rfl ?_
      refine g_ladd (n := 346) dX10_digest_345 rfl ?_
      refine g_lstore1 (n := 347) dX10_digest_346 rfl (by decide) rfl ?_
      exact t347
  refine g_ldc2 (n := 314) dX10_digest_311 rfl kc_X10_199 ?_
  refine g_lload_n (n := 315) dX10_digest_314 rfl rfl ?_
  refine g_lmul (n := 316) dX10_digest_315 rfl ?_
  refine g_aload_n (n := 317) dX10_digest_316 rfl rfl ?_
  refine g_cVv (n := 320) cs dX10_digest_317 rfl kw_X10_193 rfl (by decide) (z_lvP (by first | decide | assumption)) (Nat.le_of_ble_eq_true rfl) ⟨Nat.le_refl _, Nat.le_refl _⟩ ?_ rfl
  refine g_cSv (n := 323) cl dX10_digest_320 rfl kw_X10_201 (Nat.le_of_ble_eq_true rfl) ⟨Nat.le_refl _, Nat.le_refl _⟩ ?_ rfl
  refine g_ladd (n := 324) dX10_digest_323 rfl ?_
  refine g_lstore1 (n := 325) dX10_digest_324 rfl (by decide) rfl ?_
  exact t325 _
theorem r_digest (R : RowR M0 0 V) (W : WFV V) (hs : V 66 = nI s) (h8 : s ≤ 8) (hk : M0 10 0 1 = nI k) (hn : M0 10 0 5 = nI n) (h60 : n ≤ 60) (hT : aeq n (M0 34 0) T) (hK : ∀ p, p < 2 → M0 33 0 p = zb (K p)) (hb : V 171 = nI b) (hc : V 172 = nI c) (hcb : c ≤ b) (h9 : b ≤ 9999) :
    ∃ M2, rQ (m0 M0) M2 ∧ zC w mX10_digest (d + 9) [vR 10 0] (zP M0 O) (zrJ (gDig V s k K T n b c)) (zP M2 O) := by
  obtain ⟨N, hN⟩ : ∃ N, N = m0 M0 := ⟨_, rfl⟩
  have RN : RowR N 0 V := by rw [hN]; exact R
  have nk : N 10 0 1 = nI k := by rw [hN]; exact (u3_nj (by decide)).trans hk
  have nn : N 10 0 5 = nI n := by rw [hN]; exact (u3_nj (by decide)).trans hn
  have nT : aeq n (N 34 0) T := by rw [hN]; exact hT
  have nK : ∀ p, p < 2 → N 33 0 p = zb (K p) := by rw [hN]; exact hK
  rw [← hN]
  obtain ⟨Z, hZ⟩ : ∃ Z, Z = gDig V s k K T n b c := ⟨_, rfl⟩
  rw [← hZ]
  -- the end
  have E : ∀ M, rQ N M → ∀ h y, gEnd K T n b c h = Z → ∃ M2, rQ N M2 ∧ zG w mX10_digest (d + 9) 0 311 [vR 10 0, vJ h, vU, y] [] (zP M O) (zrJ Z) (zP M2 O) := by
    intro M Q h y e
    have RM := Q.row RN (by decide)
    refine ⟨M, Q, ?_⟩
    rw [← e]
    exact r_digEnd (by rw [Q.1 10 0 (by decide) (by decide) (by decide) (by decide)]; exact nn) h60 (by rw [Q.1 34 0 (by decide) (by decide) (by decide) (by decide)]; exact nT) (by rw [Q.1 33 0 (by decide) (by decide) (by decide) (by decide)]; exact nK) ((RowR0 RM (by decide)).trans hb) ((RowR0 RM (by decide)).trans hc) hcb h9 h y
  -- the three tries
  have D : ∀ M, rQ N M → ∀ h y, gEnd K T n b c (gTr V s h) = Z → ∃ M2, rQ N M2 ∧ zG w mX10_digest (d + 9) 0 268 [vR 10 0, vJ h, vU, y] [] (zP M O) (zrJ Z) (zP M2 O) := by
    intro M Q h y e
    obtain ⟨M1, Q1, c1⟩ := r_changed (w := w) (d := d + 1) (O := O) (a := 0) (c := 7) (x := 5) (Q.row RN (by decide)) W hs h8 (by decide) (by decide) (by decide) (by decide)
    obtain ⟨M3, Q3, c3⟩ := r_dearestExit (w := w) (d := d + 1) (O := O) ((Q.tr Q1).row RN (by decide)) W hs h8
    obtain ⟨M4, Q4, c4⟩ := r_idles (w := w) (d := d + 6) (O := O) (a := 0) (c := 7) (((Q.tr Q1).tr Q3).row RN (by decide)) (by decide) (by decide)
    obtain ⟨M2, Q2, G⟩ := E M4 (((Q.tr Q1).tr Q3).tr Q4) (gTr V s h) y e
    refine ⟨M2, Q2, ?_⟩
    refine g_ldc2 (n := 271) dX10_digest_268 rfl kc_X10_199 ?_
    refine g_lload_n (n := 272) dX10_digest_271 rfl rfl ?_
    refine g_lmul (n := 273) dX10_digest_272 rfl ?_
    refine g_aload_n (n := 274) dX10_digest_273 rfl rfl ?_
    refine g_iconst (n := 275) dX10_digest_274 rfl k_ic_0 ?_
    refine g_bipush (n := 277) dX10_digest_275 rfl k_bp_7 ?_
    refine g_iconst (n := 278) dX10_digest_277 rfl k_ic_5 ?_
    refine g_cVv (n := 281) c1 dX10_digest_278 rfl kw_X10_184 rfl (by decide) (z_lvP (by first | decide | assumption)) (Nat.le_of_ble_eq_true rfl) ⟨Nat.le_refl _, Nat.le_refl _⟩ ?_ rfl
    refine g_i2l (n := 282) dX10_digest_281 rfl ?_
    refine g_ladd (n := 283) dX10_digest_282 rfl ?_
    refine g_lstore1 (n := 284) dX10_digest_283 rfl (by decide) rfl ?_
    refine g_ldc2 (n := 287) dX10_digest_284 rfl kc_X10_199 ?_
    refine g_lload_n (n := 288) dX10_digest_287 rfl rfl ?_
    refine g_lmul (n := 289) dX10_digest_288 rfl ?_
    refine g_aload_n (n := 290) dX10_digest_289 rfl rfl ?_
    refine g_cVv (n := 293) c3 dX10_digest_290 rfl kw_X10_187 rfl (by decide) (z_lvP (by first | decide | assumption)) (Nat.le_of_ble_eq_true rfl) ⟨Nat.le_refl _, Nat.le_refl _⟩ ?_ rfl
    refine g_i2l (n := 294) dX10_digest_293 rfl ?_
    refine g_ladd (n := 295) dX10_digest_294 rfl ?_
    refine g_lstore1 (n := 296) dX10_digest_295 rfl (by decide) rfl ?_
    refine g_ldc2 (n := 299) dX10_digest_296 rfl kc_X10_199 ?_
    refine g_lload_n (n := 300) dX10_digest_299 rfl rfl ?_
    refine g_lmul (n := 301) dX10_digest_300 rfl ?_
    refine g_aload_n (n := 302) dX10_digest_301 rfl rfl ?_
    refine g_iconst (n := 303) dX10_digest_302 rfl k_ic_0 ?_
    refine g_bipush (n := 305) dX10_digest_303 rfl k_bp_7 ?_
    refine g_cVv (n := 308) c4 dX10_digest_305 rfl kw_X10_190 rfl (by decide) (z_lvP (by first | decide | assumption)) (Nat.le_of_ble_eq_true rfl) ⟨Nat.le_refl _, Nat.le_refl _⟩ ?_ rfl
    refine g_i2l (n := 309) dX10_digest_308 rfl ?_
    refine g_ladd (n := 310) dX10_digest_309 rfl ?_
    refine g_lstore1 (n := 311) dX10_digest_310 rfl (by decide) rfl ?_
    exact G
  -- reasons
  have C7 : ∀ M, rQ N M → ∀ h, gEnd K T n b c (gTr V s (hfo (vRe (vDi V) V s 0 0) s h)) = Z → ∃ M2, rQ N M2 ∧ zG w mX10_digest (d + 9) 0 236 [vR 10 0, vJ (hfo (vRe (vDi V) V s 0 0) 0 h), vU, vI (nI 0)] [] (zP M O) (zrJ Z) (zP M2 O) := by
    intro M Q h e
    refine z_loop (fun j => ∀ M, rQ N M → ∃ M2, rQ N M2 ∧ zG w mX10_digest (d + 9) 0 236 [vR 10 0, vJ (hfo (vRe (vDi V) V s 0 0) j h), vU, vI (nI j)] [] (zP M O) (zrJ Z) (zP M2 O)) s ?_ ?_ 0 (Nat.zero_le _) M Q
    · intro M Q
      have m66 : M 32 0 66 = nI s := (RowR0 (Q.row RN (by decide)) (by decide)).trans hs
      obtain ⟨M2, Q2, G⟩ := D M Q (hfo (vRe (vDi V) V s 0 0) s h) (vI (nI s)) e
      refine ⟨M2, Q2, ?_⟩
      refine g_iload_n (n := 237) dX10_digest_236 rfl rfl ?_
      refine g_aload_n (n := 238) dX10_digest_237 rfl rfl ?_
      refine gf_X10_7 (n := 241) dX10_digest_238 rfl rfl (z_lvP (by first | decide | assumption)) rfl ?_
      refine g_bipush (n := 243) dX10_digest_241 rfl k_bp_66 ?_
      refine g_iald (n := 244) dX10_digest_243 rfl (by decide) (z_lvP (by first | decide | assumption)) rfl (by show _ < 1740; first | assumption | omega) ?_
      rw [m66]
      refine g_icmp_ge (n := 247) (t := 268) dX10_digest_244 rfl (by decide) (fun _ => ?_) (fun q9 => absurd (Int32.le_refl _) q9)
      exact G
    · intro j hj ih M Q
      have m66 : M 32 0 66 = nI s := (RowR0 (Q.row RN (by decide)) (by decide)).trans hs
      have cr := r_reason (w := w) (d := d + 2) (O := O) (Q.row RN (by decide)) W hs h8 (t := 0) (h := 0) (by decide) (by decide) hj
      obtain ⟨M2, Q2, G⟩ := ih _ (Q.tr rQ_mea)
      rw [hfo_s] at G
      refine ⟨M2, Q2, ?_⟩
      refine g_iload_n (n := 237) dX10_digest_236 rfl rfl ?_
      refine g_aload_n (n := 238) dX10_digest_237 rfl rfl ?_
      refine gf_X10_7 (n := 241) dX10_digest_238 rfl rfl (z_lvP (by first | decide | assumption)) rfl ?_
      refine g_bipush (n := 243) dX10_digest_241 rfl k_bp_66 ?_
      refine g_iald (n := 244) dX10_digest_243 rfl (by decide) (z_lvP (by first | decide | assumption)) rfl (by show _ < 1740; first | assumption | omega) ?_
      rw [m66]
      refine g_icmp_ge (n := 247) (t := 268) dX10_digest_244 rfl (by decide) (fun q9 => absurd q9 (nI_ge hj (by omega))) (fun _ => ?_)
      refine g_ldc2 (n := 250) dX10_digest_247 rfl kc_X10_199 ?_
      refine g_lload_n (n := 251) dX10_digest_250 rfl rfl ?_
      refine g_lmul (n := 252) dX10_digest_251 rfl ?_
      refine g_aload_n (n := 253) dX10_digest_252 rfl rfl ?_
      refine g_iconst (n := 254) dX10_digest_253 rfl k_ic_0 ?_
      refine g_iconst (n := 255) dX10_digest_254 rfl k_ic_0 ?_
      refine g_iload_n (n := 256) dX10_digest_255 rfl rfl ?_
      refine g_cVv (n := 259) cr dX10_digest_256 rfl kw_X10_166 rfl (by decide) (z_lvP (by first | decide | assumption)) (Nat.le_of_ble_eq_true rfl) ⟨Nat.le_refl _, Nat.le_refl _⟩ ?_ rfl
      refine g_i2l (n := 260) dX10_digest_259 rfl ?_
      refine g_ladd (n := 261) dX10_digest_260 rfl ?_
      refine g_lstore1 (n := 262) dX10_digest_261 rfl (by decide) rfl ?_
      refine g_iinc3 (n := 265) dX10_digest_262 rfl (by decide) rfl (z_inc1 _) ?_
      refine g_goto (n := 0) (t := 236) dX10_digest_265 (by decide) ?_
      exact G
  -- choices
  have C6 : ∀ M, rQ N M → ∀ h, gEnd K T n b c (gTr V s (hfo (vRe (vDi V) V s 0 0) s (gCh V s h))) = Z → ∃ M2, rQ N M2 ∧ zG w mX10_digest (d + 9) 0 195 [vR 10 0, vJ (hfo (fun j => vCh V s (j / 24) (j / 6 % 4) (j % 6)) 0 h), vU, vI (nI 0)] [] (zP M O) (zrJ Z) (zP M2 O) := by
    intro M Q h e
    unfold gCh at e
    obtain ⟨g, hg⟩ : ∃ g : Nat → Int32, g = fun j => vCh V s (j / 24) (j / 6 % 4) (j % 6) := ⟨_, rfl⟩
    rw [← hg] at e ⊢
    refine z_loop (fun j => ∀ M, rQ N M → ∃ M2, rQ N M2 ∧ zG w mX10_digest (d + 9) 0 195 [vR 10 0, vJ (hfo g j h), vU, vI (nI j)] [] (zP M O) (zrJ Z) (zP M2 O)) 192 ?_ ?_ 0 (Nat.zero_le _) M Q
    · intro M Q
      obtain ⟨M2, Q2, G⟩ := C7 M Q (hfo g 192 h) e
      refine ⟨M2, Q2, ?_⟩
      refine g_iload_n (n := 196) dX10_digest_195 rfl rfl ?_
      refine g_sipush (n := 199) dX10_digest_196 rfl k_sp_192 ?_
      refine g_icmp_ge (n := 202) (t := 234) dX10_digest_199 rfl (by decide) (fun _ => ?_) (fun q9 => absurd (Int32.le_refl _) q9)
      refine g_iconst (n := 235) dX10_digest_234 rfl k_ic_0 ?_
      refine g_istore3 (n := 236) dX10_digest_235 rfl (by decide) rfl ?_
      exact G
    · intro j hj ih M Q
      have ej : g j = vCh V s (j / 24) (j / 6 % 4) (j % 6) := by rw [hg]
      have cr := r_choices (w := w) (d := d + 2) (O := O) (t := j / 24) (h := j / 6 % 4) (v := j % 6) (Q.row RN (by decide)) W hs h8 (by omega) (by omega) (by omega)
      rw [← ej] at cr
      obtain ⟨M2, Q2, G⟩ := ih _ (Q.tr rQ_mea)
      rw [hfo_s] at G
      refine ⟨M2, Q2, ?_⟩
      have i1 : nI j / nI 24 = nI (j / 24) := pk_div (by omega) (by decide) (by decide)
      have i2 : nI j / nI 6 = nI (j / 6) := pk_div (by omega) (by decide) (by decide)
      have i3 : nI (j / 6) - nI (j / 6) / nI 4 * nI 4 = nI (j / 6 % 4) := pk_rem (by omega) (by decide) (by decide)
      have i4 : nI j - nI j / nI 6 * nI 6 = nI (j % 6) := pk_rem (by omega) (by decide) (by decide)
      refine g_iload_n (n := 196) dX10_digest_195 rfl rfl ?_
      refine g_sipush (n := 199) dX10_digest_196 rfl k_sp_192 ?_
      refine g_icmp_ge (n := 202) (t := 234) dX10_digest_199 rfl (by decide) (fun q9 => absurd q9 (nI_ge hj (by decide))) (fun _ => ?_)
      refine g_ldc2 (n := 205) dX10_digest_202 rfl kc_X10_199 ?_
      refine g_lload_n (n := 206) dX10_digest_205 rfl rfl ?_
      refine g_lmul (n := 207) dX10_digest_206 rfl ?_
      refine g_aload_n (n := 208) dX10_digest_207 rfl rfl ?_
      refine g_iload_n (n := 209) dX10_digest_208 rfl rfl ?_
      refine g_bipush (n := 211) dX10_digest_209 rfl k_bp_24 ?_
      refine g_idiv (n := 212) dX10_digest_211 rfl (by decide) ?_
      refine g_iload_n (n := 213) dX10_digest_212 rfl rfl ?_
      refine g_bipush (n := 215) dX10_digest_213 rfl k_bp_6 ?_
      refine g_idiv (n := 216) dX10_digest_215 rfl (by decide) ?_
      rw [i1, i2]
      refine g_iconst (n := 217) dX10_digest_216 rfl k_ic_4 ?_
      refine g_irem (n := 218) dX10_digest_217 rfl (by decide) ?_
      refine g_iload_n (n := 219) dX10_digest_218 rfl rfl ?_
      refine g_bipush (n := 221) dX10_digest_219 rfl k_bp_6 ?_
      refine g_irem (n := 222) dX10_digest_221 rfl (by decide) ?_
      rw [i3, i4]
      refine g_cVv (n := 225) cr dX10_digest_222 rfl kw_X10_163 rfl (by decide) (z_lvP (by first | decide | assumption)) (Nat.le_of_ble_eq_true rfl) ⟨Nat.le_refl _, Nat.le_refl _⟩ ?_ rfl
      refine g_i2l (n := 226) dX10_digest_225 rfl ?_
      refine g_ladd (n := 227) dX10_digest_226 rfl ?_
      refine g_lstore1 (n := 228) dX10_digest_227 rfl (by decide) rfl ?_
      refine g_iinc3 (n := 231) dX10_digest_228 rfl (by decide) rfl (z_inc1 _) ?_
      refine g_goto (n := 0) (t := 195) dX10_digest_231 (by decide) ?_
      exact G
  -- neighbours
  have C5 : ∀ M, rQ N M → ∀ h, gEnd K T n b c (gTr V s (hfo (vRe (vDi V) V s 0 0) s (gCh V s (gNb V h)))) = Z → ∃ M2, rQ N M2 ∧ zG w mX10_digest (d + 9) 0 161 [vR 10 0, vJ (hfo (fun j => vNo V (j / 8) (j % 8)) 0 h), vU, vI (nI 0)] [] (zP M O) (zrJ Z) (zP M2 O) := by
    intro M Q h e
    unfold gNb at e
    obtain ⟨g, hg⟩ : ∃ g : Nat → Int32, g = fun j => vNo V (j / 8) (j % 8) := ⟨_, rfl⟩
    rw [← hg] at e ⊢
    obtain ⟨M2, Q2, G⟩ := C6 M Q (hfo g 32 h) e
    refine ⟨M2, Q2, ?_⟩
    have r0 : ∀ j, j < 174 → M 32 0 j = V j := fun j hj => RowR0 (Q.row RN (by decide)) hj
    refine z_loop (fun j => zG w mX10_digest (d + 9) 0 161 [vR 10 0, vJ (hfo g j h), vU, vI (nI j)] [] (zP M O) (zrJ Z) (zP M2 O)) 32 ?_ ?_ 0 (Nat.zero_le _)
    · refine g_iload_n (n := 162) dX10_digest_161 rfl rfl ?_
      refine g_bipush (n := 164) dX10_digest_162 rfl k_bp_32 ?_
      refine g_icmp_ge (n := 167) (t := 193) dX10_digest_164 rfl (by decide) (fun _ => ?_) (fun q9 => absurd (Int32.le_refl _) q9)
      refine g_iconst (n := 194) dX10_digest_193 rfl k_ic_0 ?_
      refine g_istore3 (n := 195) dX10_digest_194 rfl (by decide) rfl ?_
      exact G
    · intro j hj ih
      have ej : g j = vNo V (j / 8) (j % 8) := by rw [hg]
      have cr := r_neighbours (w := w) (d := d + 8) (M := M) (O := O) (a := j / 8) (v := j % 8) (by omega) (by omega)
      have ev : vNo (M 32 0) (j / 8) (j % 8) = g j := by
        rw [ej]
        unfold vNo
        by_cases l : j % 8 < 4
        · rw [if_pos l, if_pos l, r0 _ (by omega)]
        · rw [if_neg l, if_neg l, r0 _ (by omega)]
      rw [ev] at cr
      rw [hfo_s] at ih
      have i1 : nI j / nI 8 = nI (j / 8) := pk_div (by omega) (by decide) (by decide)
      have i4 : nI j - nI j / nI 8 * nI 8 = nI (j % 8) := pk_rem (by omega) (by decide) (by decide)
      refine g_iload_n (n := 162) dX10_digest_161 rfl rfl ?_
      refine g_bipush (n := 164) dX10_digest_162 rfl k_bp_32 ?_
      refine g_icmp_ge (n := 167) (t := 193) dX10_digest_164 rfl (by decide) (fun q9 => absurd q9 (nI_ge hj (by decide))) (fun _ => ?_)
      refine g_ldc2 (n := 170) dX10_digest_167 rfl kc_X10_199 ?_
      refine g_lload_n (n := 171) dX10_digest_170 rfl rfl ?_
      refine g_lmul (n := 172) dX10_digest_171 rfl ?_
      refine g_aload_n (n := 173) dX10_digest_172 rfl rfl ?_
      refine g_iload_n (n := 174) dX10_digest_173 rfl rfl ?_
      refine g_bipush (n := 176) dX10_digest_174 rfl k_bp_8 ?_
      refine g_idiv (n := 177) dX10_digest_176 rfl (by decide) ?_
      refine g_iload_n (n := 178) dX10_digest_177 rfl rfl ?_
      refine g_bipush (n := 180) dX10_digest_178 rfl k_bp_8 ?_
      refine g_irem (n := 181) dX10_digest_180 rfl (by decide) ?_
      rw [i4, i1]
      refine g_cVv (n := 184) cr dX10_digest_181 rfl kw_X10_157 rfl (by decide) (z_lvP (by first | decide | assumption)) (Nat.le_of_ble_eq_true rfl) ⟨Nat.le_refl _, Nat.le_refl _⟩ ?_ rfl
      refine g_i2l (n := 185) dX10_digest_184 rfl ?_
      refine g_ladd (n := 186) dX10_digest_185 rfl ?_
      refine g_lstore1 (n := 187) dX10_digest_186 rfl (by decide) rfl ?_
      refine g_iinc3 (n := 190) dX10_digest_187 rfl (by decide) rfl (z_inc1 _) ?_
      refine g_goto (n := 0) (t := 161) dX10_digest_190 (by decide) ?_
      exact ih
  -- exits
  have C4 : ∀ M, rQ N M → ∀ h, gEnd K T n b c (gTr V s (hfo (vRe (vDi V) V s 0 0) s (gCh V s (gNb V (gEx V s h))))) = Z → ∃ M2, rQ N M2 ∧ zG w mX10_digest (d + 9) 0 116 [vR 10 0, vJ (hfo (fun j => V (67 + j % 5 + 5 * (j / 5))) 0 h), vU, vI (nI 0)] [] (zP M O) (zrJ Z) (zP M2 O) := by
    intro M Q h e
    unfold gEx at e
    obtain ⟨g, hg⟩ : ∃ g : Nat → Int32, g = fun j => V (67 + j % 5 + 5 * (j / 5)) := ⟨_, rfl⟩
    rw [← hg] at e ⊢
    obtain ⟨M2, Q2, G⟩ := C5 M Q (hfo g (5 * s) h) e
    refine ⟨M2, Q2, ?_⟩
    have r0 : ∀ j, j < 174 → M 32 0 j = V j := fun j hj => RowR0 (Q.row RN (by decide)) hj
    have m66 : M 32 0 66 = nI s := (r0 66 (by decide)).trans hs
    refine z_loop (fun j => zG w mX10_digest (d + 9) 0 116 [vR 10 0, vJ (hfo g j h), vU, vI (nI j)] [] (zP M O) (zrJ Z) (zP M2 O)) (5 * s) ?_ ?_ 0 (Nat.zero_le _)
    · refine g_iload_n (n := 117) dX10_digest_116 rfl rfl ?_
      refine g_iconst (n := 118) dX10_digest_117 rfl k_ic_5 ?_
      refine g_aload_n (n := 119) dX10_digest_118 rfl rfl ?_
      refine gf_X10_7 (n := 122) dX10_digest_119 rfl rfl (z_lvP (by first | decide | assumption)) rfl ?_
      refine g_bipush (n := 124) dX10_digest_122 rfl k_bp_66 ?_
      refine g_iald (n := 125) dX10_digest_124 rfl (by decide) (z_lvP (by first | decide | assumption)) rfl (by show _ < 1740; first | assumption | omega) ?_
      rw [m66]
      refine g_imul (n := 126) dX10_digest_125 rfl ?_
      rw [pk_mul]
      refine g_icmp_ge (n := 129) (t := 159) dX10_digest_126 rfl (by decide) (fun _ => ?_) (fun q9 => absurd (Int32.le_refl _) q9)
      refine g_iconst (n := 160) dX10_digest_159 rfl k_ic_0 ?_
      refine g_istore3 (n := 161) dX10_digest_160 rfl (by decide) rfl ?_
      exact G
    · intro j hj ih
      have ej : V (67 + j % 5 + 5 * (j / 5)) = g j := by rw [hg]
      have ev : M 32 0 (67 + j % 5 + 5 * (j / 5)) = g j := (r0 _ (by omega)).trans ej
      rw [hfo_s] at ih
      have i1 : nI j / nI 5 = nI (j / 5) := pk_div (by omega) (by decide) (by decide)
      have i4 : nI j - nI j / nI 5 * nI 5 = nI (j % 5) := pk_rem (by omega) (by decide) (by decide)
      refine g_iload_n (n := 117) dX10_digest_116 rfl rfl ?_
      refine g_iconst (n := 118) dX10_digest_117 rfl k_ic_5 ?_
      refine g_aload_n (n := 119) dX10_digest_118 rfl rfl ?_
      refine gf_X10_7 (n := 122) dX10_digest_119 rfl rfl (z_lvP (by first | decide | assumption)) rfl ?_
      refine g_bipush (n := 124) dX10_digest_122 rfl k_bp_66 ?_
      refine g_iald (n := 125) dX10_digest_124 rfl (by decide) (z_lvP (by first | decide | assumption)) rfl (by show _ < 1740; first | assumption | omega) ?_
      rw [m66]
      refine g_imul (n := 126) dX10_digest_125 rfl ?_
      rw [pk_mul]
      refine g_icmp_ge (n := 129) (t := 159) dX10_digest_126 rfl (by decide) (fun q9 => absurd q9 (nI_ge hj (by omega))) (fun _ => ?_)
      refine g_ldc2 (n := 132) dX10_digest_129 rfl kc_X10_199 ?_
      refine g_lload_n (n := 133) dX10_digest_132 rfl rfl ?_
      refine g_lmul (n := 134) dX10_digest_133 rfl ?_
      refine g_aload_n (n := 135) dX10_digest_134 rfl rfl ?_
      refine gf_X10_7 (n := 138) dX10_digest_135 rfl rfl (z_lvP (by first | decide | assumption)) rfl ?_
      refine g_iconst (n := 139) dX10_digest_138 rfl k_ic_0 ?_
      refine g_iload_n (n := 140) dX10_digest_139 rfl rfl ?_
      refine g_iconst (n := 141) dX10_digest_140 rfl k_ic_5 ?_
      refine g_idiv (n := 142) dX10_digest_141 rfl (by decide) ?_
      rw [i1]
      refine g_cSv (n := 145) (r_exitAt0 (j / 5)) dX10_digest_142 rfl kw_X10_50 (Nat.le_of_ble_eq_true rfl) ⟨Nat.le_refl _, Nat.le_refl _⟩ ?_ rfl
      refine g_iload_n (n := 146) dX10_digest_145 rfl rfl ?_
      refine g_iconst (n := 147) dX10_digest_146 rfl k_ic_5 ?_
      refine g_irem (n := 148) dX10_digest_147 rfl (by decide) ?_
      rw [i4]
      refine g_iadd (n := 149) dX10_digest_148 rfl ?_
      refine g_iald (a := (67 + j % 5 + 5 * (j / 5))) (n := 150) dX10_digest_149 rfl (by decide) (z_lvP (by first | decide | assumption)) r_ix0 (by show _ < 1740; first | assumption | omega) ?_
      rw [ev]
      refine g_i2l (n := 151) dX10_digest_150 rfl ?_
      refine g_ladd (n := 152) dX10_digest_151 rfl ?_
      refine g_lstore1 (n := 153) dX10_digest_152 rfl (by decide) rfl ?_
      refine g_iinc3 (n := 156) dX10_digest_153 rfl (by decide) rfl (z_inc1 _) ?_
      refine g_goto (n := 0) (t := 116) dX10_digest_156 (by decide) ?_
      exact ih
  -- roads
  have C3 : ∀ M, rQ N M → ∀ h, gEnd K T n b c (gTr V s (hfo (vRe (vDi V) V s 0 0) s (gCh V s (gNb V (gEx V s (gRd V h)))))) = Z → ∃ M2, rQ N M2 ∧ zG w mX10_digest (d + 9) 0 66 [vR 10 0, vJ (hf2 (fun j => V (2 + j)) (fun j => xfar (vDi V (8 * (j / 8) + j % 8))) 0 h), vU, vI (nI 0)] [] (zP M O) (zrJ Z) (zP M2 O) := by
    intro M Q h e
    unfold gRd at e
    obtain ⟨f, hf⟩ : ∃ f : Nat → Int32, f = fun j => V (2 + j) := ⟨_, rfl⟩
    obtain ⟨g, hg⟩ : ∃ g : Nat → Int32, g = fun j => xfar (vDi V (8 * (j / 8) + j % 8)) := ⟨_, rfl⟩
    rw [← hf, ← hg] at e ⊢
    refine z_loop (fun j => ∀ M, rQ N M → ∃ M2, rQ N M2 ∧ zG w mX10_digest (d + 9) 0 66 [vR 10 0, vJ (hf2 f g j h), vU, vI (nI j)] [] (zP M O) (zrJ Z) (zP M2 O)) 64 ?_ ?_ 0 (Nat.zero_le _) M Q
    · intro M Q
      obtain ⟨M2, Q2, G⟩ := C4 M Q (hf2 f g 64 h) e
      refine ⟨M2, Q2, ?_⟩
      refine g_iload_n (n := 67) dX10_digest_66 rfl rfl ?_
      refine g_bipush (n := 69) dX10_digest_67 rfl k_bp_64 ?_
      refine g_icmp_ge (n := 72) (t := 114) dX10_digest_69 rfl (by decide) (fun _ => ?_) (fun q9 => absurd (Int32.le_refl _) q9)
      refine g_iconst (n := 115) dX10_digest_114 rfl k_ic_0 ?_
      refine g_istore3 (n := 116) dX10_digest_115 rfl (by decide) rfl ?_
      exact G
    · intro j hj ih M Q
      have ef : M 32 0 (2 + j) = f j := by rw [hf]; exact RowR0 (Q.row RN (by decide)) (by omega)
      have eg : xfar (vDi V (8 * (j / 8) + j % 8)) = g j := by rw [hg]
      have cr := r_distances (w := w) (d := d + 7) (O := O) (a := j / 8) (c := j % 8) (Q.row RN (by decide)) (by omega) (by omega)
      rw [eg] at cr
      obtain ⟨M2, Q2, G⟩ := ih _ (Q.tr rQ_mea)
      rw [hf2_s] at G
      refine ⟨M2, Q2, ?_⟩
      have i1 : nI j / nI 8 = nI (j / 8) := pk_div (by omega) (by decide) (by decide)
      have i4 : nI j - nI j / nI 8 * nI 8 = nI (j % 8) := pk_rem (by omega) (by decide) (by decide)
      refine g_iload_n (n := 67) dX10_digest_66 rfl rfl ?_
      refine g_bipush (n := 69) dX10_digest_67 rfl k_bp_64 ?_
      refine g_icmp_ge (n := 72) (t := 114) dX10_digest_69 rfl (by decide) (fun q9 => absurd q9 (nI_ge hj (by decide))) (fun _ => ?_)
      refine g_ldc2 (n := 75) dX10_digest_72 rfl kc_X10_199 ?_
      refine g_lload_n (n := 76) dX10_digest_75 rfl rfl ?_
      refine g_lmul (n := 77) dX10_digest_76 rfl ?_
      refine g_aload_n (n := 78) dX10_digest_77 rfl rfl ?_
      refine gf_X10_7 (n := 81) dX10_digest_78 rfl rfl (z_lvP (by first | decide | assumption)) rfl ?_
      refine g_iconst (n := 82) dX10_digest_81 rfl k_ic_2 ?_
      refine g_iload_n (n := 83) dX10_digest_82 rfl rfl ?_
      refine g_iadd (n := 84) dX10_digest_83 rfl ?_
      refine g_iald (a := (2 + j)) (n := 85) dX10_digest_84 rfl (by decide) (z_lvP (by first | decide | assumption)) (nI_add _ _) (by show _ < 1740; first | assumption | omega) ?_
      rw [ef]
      refine g_i2l (n := 86) dX10_digest_85 rfl ?_
      refine g_ladd (n := 87) dX10_digest_86 rfl ?_
      refine g_lstore1 (n := 88) dX10_digest_87 rfl (by decide) rfl ?_
      refine g_ldc2 (n := 91) dX10_digest_88 rfl kc_X10_199 ?_
      refine g_lload_n (n := 92) dX10_digest_91 rfl rfl ?_
      refine g_lmul (n := 93) dX10_digest_92 rfl ?_
      refine g_aload_n (n := 94) dX10_digest_93 rfl rfl ?_
      refine g_iload_n (n := 95) dX10_digest_94 rfl rfl ?_
      refine g_bipush (n := 97) dX10_digest_95 rfl k_bp_8 ?_
      refine g_idiv (n := 98) dX10_digest_97 rfl (by decide) ?_
      refine g_iload_n (n := 99) dX10_digest_98 rfl rfl ?_
      refine g_bipush (n := 101) dX10_digest_99 rfl k_bp_8 ?_
      refine g_irem (n := 102) dX10_digest_101 rfl (by decide) ?_
      rw [i4, i1]
      refine g_cVv (n := 105) cr dX10_digest_102 rfl kw_X10_154 rfl (by decide) (z_lvP (by first | decide | assumption)) (Nat.le_of_ble_eq_true rfl) ⟨Nat.le_refl _, Nat.le_refl _⟩ ?_ rfl
      refine g_i2l (n := 106) dX10_digest_105 rfl ?_
      refine g_ladd (n := 107) dX10_digest_106 rfl ?_
      refine g_lstore1 (n := 108) dX10_digest_107 rfl (by decide) rfl ?_
      refine g_iinc3 (n := 111) dX10_digest_108 rfl (by decide) rfl (z_inc1 _) ?_
      refine g_goto (n := 0) (t := 66) dX10_digest_111 (by decide) ?_
      exact G
  -- counts
  have C1 : ∀ M, rQ N M → ∃ M2, rQ N M2 ∧ zG w mX10_digest (d + 9) 0 11 [vR 10 0, vJ (hfo (vCt V s k) 0 3271), vU, vI (nI 0)] [] (zP M O) (zrJ Z) (zP M2 O) := by
    intro M Q
    refine z_loop (fun j => ∀ M, rQ N M → ∃ M2, rQ N M2 ∧ zG w mX10_digest (d + 9) 0 11 [vR 10 0, vJ (hfo (vCt V s k) j 3271), vU, vI (nI j)] [] (zP M O) (zrJ Z) (zP M2 O)) 10 ?_ ?_ 0 (Nat.zero_le _) M Q
    · intro M Q
      obtain ⟨M2, Q2, G⟩ := C3 M Q (hj (hj (hfo (vCt V s k) 10 3271) (V 0)) (V 1)) hZ.symm
      have r0 : ∀ j, j < 174 → M 32 0 j = V j := fun j hj => RowR0 (Q.row RN (by decide)) hj
      refine ⟨M2, Q2, ?_⟩
      refine g_iload_n (n := 12) dX10_digest_11 rfl rfl ?_
      refine g_bipush (n := 14) dX10_digest_12 rfl k_bp_10 ?_
      refine g_icmp_ge (n := 17) (t := 36) dX10_digest_14 rfl (by decide) (fun _ => ?_) (fun q9 => absurd (Int32.le_refl _) q9)
      refine g_ldc2 (n := 39) dX10_digest_36 rfl kc_X10_199 ?_
      refine g_lload_n (n := 40) dX10_digest_39 rfl rfl ?_
      refine g_lmul (n := 41) dX10_digest_40 rfl ?_
      refine g_aload_n (n := 42) dX10_digest_41 rfl rfl ?_
      refine gf_X10_7 (n := 45) dX10_digest_42 rfl rfl (z_lvP (by first | decide | assumption)) rfl ?_
      refine g_iconst (n := 46) dX10_digest_45 rfl k_ic_0 ?_
      refine g_iald (a := 0) (n := 47) dX10_digest_46 rfl (by decide) (z_lvP (by first | decide | assumption)) rfl (by show _ < 1740; first | assumption | omega) ?_
      rw [r0 0 (by decide)]
      refine g_i2l (n := 48) dX10_digest_47 rfl ?_
      refine g_ladd (n := 49) dX10_digest_48 rfl ?_
      refine g_lstore1 (n := 50) dX10_digest_49 rfl (by decide) rfl ?_
      refine g_ldc2 (n := 53) dX10_digest_50 rfl kc_X10_199 ?_
      refine g_lload_n (n := 54) dX10_digest_53 rfl rfl ?_
      refine g_lmul (n := 55) dX10_digest_54 rfl ?_
      refine g_aload_n (n := 56) dX10_digest_55 rfl rfl ?_
      refine gf_X10_7 (n := 59) dX10_digest_56 rfl rfl (z_lvP (by first | decide | assumption)) rfl ?_
      refine g_iconst (n := 60) dX10_digest_59 rfl k_ic_1 ?_
      refine g_iald (a := 1) (n := 61) dX10_digest_60 rfl (by decide) (z_lvP (by first | decide | assumption)) rfl (by show _ < 1740; first | assumption | omega) ?_
      rw [r0 1 (by decide)]
      refine g_i2l (n := 62) dX10_digest_61 rfl ?_
      refine g_ladd (n := 63) dX10_digest_62 rfl ?_
      refine g_lstore1 (n := 64) dX10_digest_63 rfl (by decide) rfl ?_
      refine g_iconst (n := 65) dX10_digest_64 rfl k_ic_0 ?_
      refine g_istore3 (n := 66) dX10_digest_65 rfl (by decide) rfl ?_
      exact G
    · intro j hj ih M Q
      obtain ⟨M1, Q1, c1⟩ := r_counted (w := w) (d := d) (O := O) (k := k) (Q.row RN (by decide)) W hs h8 (by rw [Q.1 10 0 (by decide) (by decide) (by decide) (by decide)]; exact nk) hj
      obtain ⟨M2, Q2, G⟩ := ih M1 (Q.tr Q1)
      rw [hfo_s] at G
      refine ⟨M2, Q2, ?_⟩
      refine g_iload_n (n := 12) dX10_digest_11 rfl rfl ?_
      refine g_bipush (n := 14) dX10_digest_12 rfl k_bp_10 ?_
      refine g_icmp_ge (n := 17) (t := 36) dX10_digest_14 rfl (by decide) (fun q9 => absurd q9 (nI_ge hj (by decide))) (fun _ => ?_)
      refine g_ldc2 (n := 20) dX10_digest_17 rfl kc_X10_199 ?_
      refine g_lload_n (n := 21) dX10_digest_20 rfl rfl ?_
      refine g_lmul (n := 22) dX10_digest_21 rfl ?_
      refine g_aload_n (n := 23) dX10_digest_22 rfl rfl ?_
      refine g_iload_n (n := 24) dX10_digest_23 rfl rfl ?_
      refine g_cVv (n := 27) c1 dX10_digest_24 rfl kw_X10_181 rfl (by decide) (z_lvP (by first | decide | assumption)) (Nat.le_of_ble_eq_true rfl) ⟨Nat.le_refl _, Nat.le_refl _⟩ ?_ rfl
      refine g_i2l (n := 28) dX10_digest_27 rfl ?_
      refine g_ladd (n := 29) dX10_digest_28 rfl ?_
      refine g_lstore1 (n := 30) dX10_digest_29 rfl (by decide) rfl ?_
      refine g_iinc3 (n := 33) dX10_digest_30 rfl (by decide) rfl (z_inc1 _) ?_
      refine g_goto (n := 0) (t := 11) dX10_digest_33 (by decide) ?_
      exact G
  obtain ⟨M2, Q2, G⟩ := C1 N rQ.rf
  refine ⟨M2, Q2, ?_⟩
  rw [hN] at G
  refine zC_of (cr := 0) (L0 := [vR 10 0, vU, vU, vU]) rfl (by decide) (by decide) rfl (Nat.le_of_ble_eq_true rfl) rfl ?_
  refine g_aload_n (n := 1) dX10_digest_0 rfl rfl ?_
  refine g_iconst (n := 2) dX10_digest_1 rfl k_ic_0 ?_
  refine gw_X10_34 (n := 5) dX10_digest_2 rfl rfl (z_lvP (by first | decide | assumption)) ?_
  refine g_ldc2 (n := 8) dX10_digest_5 rfl kc_X10_197 ?_
  refine g_lstore1 (n := 9) dX10_digest_8 rfl (by decide) rfl ?_
  refine g_iconst (n := 10) dX10_digest_9 rfl k_ic_0 ?_
  refine g_istore3 (n := 11) dX10_digest_10 rfl (by decide) rfl ?_
  exact G
end L22

