/-! The law's 'choices': no exit that could be taken is ahead of the chosen one; each reason told is so. -/
/-- from here the method comes to its end with 1, and nothing but what questions write is changed -/
def zR (w : zWp) (f : zMth) (d c t s h : Nat) (V : Nat → Int32) (O : Nat → Int64) (pc : Nat) (lv stk : List zAV) (N : Nat → Nat → Nat → Int32) : Prop := ∃ N2, zS t N2 s h V ∧ zG w f d c pc lv stk (zP N O) (zrI (nI 1)) (zP N2 O)
section CH
variable {w : zWp} {d t : Nat} {M N : Nat → Nat → Nat → Int32} {O : Nat → Int64} {s h a b k e lf be co : Nat} {V : Nat → Int32}
theorem marks0 (h0 : V 0 = nI 0) {l f : Nat} (hl : vLen V b k = nI l) (hf : vFar (vDi V) V a k = nI f) (l1 : l < 2 ^ 31) (f1 : f < 2 ^ 31) : vf V a b k = l ∧ vg V a b k = f := by
  obtain ⟨m0, m1⟩ := mk_0 (V := V) (t := a) (h := b) (e := k) h0
  unfold vf vg
  rw [m0, m1, hl, hf, nI_clamp l1, nI_clamp f1]
  exact ⟨rfl, rfl⟩
theorem marks1 (h0 : V 0 = nI 1) {l f : Nat} (hl : vLen V b k = nI l) (hf : vFar (vDi V) V a k = nI f) (l1 : l < 2 ^ 31) (f1 : f < 2 ^ 31) : vf V a b k = f ∧ vg V a b k = l := by
  obtain ⟨m0, m1⟩ := mk_1 (V := V) (t := a) (h := b) (e := k) h0
  unfold vf vg
  rw [m0, m1, hl, hf, nI_clamp l1, nI_clamp f1]
  exact ⟨rfl, rfl⟩
/-- what the law asks of an exit, as whole numbers -/
theorem ex_vals (Z : zS t N s h V) (ha : a < 8) (hb : b < 4) (hk : k < s) : ∃ l f, l ≤ 9 ∧ f ≤ 1000000 ∧ vLen V b k = nI l ∧ vFar (vDi V) V a k = nI f ∧ kFar V a (vTo V k) = (if f < 1000000 then nI f else -1) := by
  obtain ⟨l, hl, el⟩ := vLen_n Z.W Z.ss Z.h8 hb hk
  have ht := vTo_lt Z.W Z.ss Z.h8 hk
  obtain ⟨f1, f2⟩ := vdn_n Z.W (show 8 * a + vTo V k < 64 by omega)
  exact ⟨l, vdn V (8 * a + vTo V k), hl, f1, el, f2, kFar_is Z.W ha ht⟩
theorem q_town (Z : zS t N s h V) (hk : k < s) : zCk w mL_exitOf 0 (d + 10) [vR 9 0, vI (nI k), vI (nI 0)] (zP N O) (zrI (nI (vTo V k))) (zP N O) := by
  have c := q_exitOf (w := w) (d := d) (O := O) Z hk (show 0 < 5 by decide)
  obtain ⟨x, hx, ex⟩ := (vEx Z.W Z.ss Z.h8 hk).1
  rw [show V (67 + 0 + 5 * k) = nI (vTo V k) by rw [show 67 + 0 + 5 * k = 67 + 5 * k by omega, vTo_of hx ex]; exact ex] at c
  exact c
theorem q_neigh (Z : zS t N s h V) (hk : k < s) : zCk w mL_exitOf 0 (d + 10) [vR 9 0, vI (nI k), vI (nI 1)] (zP N O) (zrI (nI (vNe V k))) (zP N O) := by
  have c := q_exitOf (w := w) (d := d) (O := O) Z hk (show 1 < 5 by decide)
  obtain ⟨x, hx, ex⟩ := (vEx Z.W Z.ss Z.h8 hk).2.1
  rw [show V (67 + 1 + 5 * k) = nI (vNe V k) by rw [show 67 + 1 + 5 * k = 68 + 5 * k by omega, vNe_of hx ex]; exact ex] at c
  exact c
theorem q_open (Z : zS t N s h V) (hk : k < s) : zCk w mL_exitOf 0 (d + 10) [vR 9 0, vI (nI k), vI (nI 2)] (zP N O) (zrI (V (69 + 5 * k))) (zP N O) := by
  have c := q_exitOf (w := w) (d := d) (O := O) Z hk (show 2 < 5 by decide)
  rw [show 67 + 2 + 5 * k = 69 + 5 * k by omega] at c
  exact c
theorem q_len (Z : zS t N s h V) (hk : k < s) (hb : b < 4) : zCk w mL_neighbourOf 0 (d + 10) [vR 9 0, vI (nI (vNe V k)), vI (nI b)] (zP N O) (zrI (vLen V b k)) (zP N O) := by
  have c := q_nb (w := w) (d := d) (O := O) Z (vNe_lt Z.W Z.ss Z.h8 hk) (show b < 8 by omega)
  rw [show vNo V (vNe V k) b = vLen V b k from if_pos hb] at c
  exact c
theorem cho_tail (Z : zS t N s h V) (ha : a < 8) (hb : b < 4) (hk : k < s) (hc : vCs V s a b k = true) (hlf : (lf = 1 ∧ V 0 = nI 0) ∨ (lf = 0 ∧ V 0 = nI 1)) (K : ∀ N1, zS t N1 s h V → zR w mL_choices (d + 12) 0 t s h V O 444 [vR 9 0, vI (nI a), vI (nI b), vI (nI s), vI (vCho (vDi V) V s a b), vI (nI be), vI (nI co), vI (nI lf), vI (nI 1), vI (nI k), vU, vU, vU, vU, vU, vU, vU, vU] [] N1) :
    zR w mL_choices (d + 12) 0 t s h V O 252 [vR 9 0, vI (nI a), vI (nI b), vI (nI s), vI (vCho (vDi V) V s a b), vI (nI be), vI (nI co), vI (nI lf), vI (nI 1), vI (nI k), vI (kFar V a (vTo V k)), vI (vLen V b k), vI (nI (vY V s a b k)), vI (nI 1), vU, vU, vU, vU] [] N := by
  have W := Z.W
  have h8 := Z.h8
  obtain ⟨e, he, hx⟩ := cho_some W Z.P Z.ss h8 ha hb hk hc
  have hce := cho_cs W Z.ss h8 ha hb he hx
  have cx0 := q_town (w := w) (d := d + 1) (O := O) Z he
  obtain ⟨N1, Z1, cd⟩ := q_dist0 (w := w) (d := d + 1) (O := O) Z ha (vTo_lt W Z.ss h8 he)
  have cx1 := q_neigh (w := w) (d := d + 1) (O := O) Z1 he
  have cl := q_len (w := w) (d := d + 1) (O := O) Z1 he hb
  obtain ⟨N2, Z2, G⟩ := K N1 Z1
  refine ⟨N2, Z2, ?_⟩
  obtain ⟨l, f, hl, hf, el, ef, ek⟩ := ex_vals Z ha hb hk
  obtain ⟨l2, f2, hl2, hf2, el2, ef2, ek2⟩ := ex_vals Z ha hb he
  obtain ⟨_, _, x1⟩ := (cs_of W Z.ss h8 ha hk).mp hc
  obtain ⟨_, _, x2⟩ := (cs_of W Z.ss h8 ha he).mp hce
  rw [ef] at x1
  rw [ef2] at x2
  have f1 : f < 1000000 := (nI_ltI (b := 1000000) (by omega) (by omega)).mp x1
  have f3 : f2 < 1000000 := (nI_ltI (b := 1000000) (by omega) (by omega)).mp x2
  rw [if_pos f1] at ek
  rw [if_pos f3] at ek2
  rw [hx] at G ⊢
  rw [ek, el]
  rw [ek2] at cd
  rw [el2] at cl
  have g := gn_by W Z.ss h8 ha hb hk he hc hx
  have y := vY_can W Z.ss h8 ha hk hc
  have y6 := vY_6 (V := V) (s := s) (t := a) (h := b) (e := k)
  have hy9 : vY V s a b k = 3 + vGn V s a b k ∨ (vY V s a b k = 0 ∧ k = e) := by
    by_cases z : vCho (vDi V) V s a b = nI k
    · rw [if_pos z] at y
      rw [hx] at z
      exact Or.inr ⟨y, ((nI_eq (by omega) (by omega)).mp z).symm⟩
    · rw [if_neg z] at y
      exact Or.inl y
  have K442 : ∀ {u14 u15 u16 u17 : Int32}, zG w mL_choices (d + 12) 0 442 [vR 9 0, vI (nI a), vI (nI b), vI (nI s), vI (nI e), vI (nI be), vI (nI co), vI (nI lf), vI (nI 1), vI (nI k), vI (nI f), vI (nI l), vI (nI (vY V s a b k)), vI (nI 1), vI u14, vI u15, vI u16, vI u17] [vI (nI 1)] (zP N1 O) (zrI (nI 1)) (zP N2 O) := by
    intro u14 u15 u16 u17
    refine g_istore8 (n := 444) dL_choices_442 rfl (by decide) rfl ?_
    refine g_drop 10 (g_drop 11 (g_drop 12 (g_drop 13 (g_drop 14 (g_drop 15 (g_drop 16 (g_drop 17 ?_)))))))
    exact G
  have K437 : ∀ {u14 u15 u16 u17 : Int32}, zG w mL_choices (d + 12) 0 437 [vR 9 0, vI (nI a), vI (nI b), vI (nI s), vI (nI e), vI (nI be), vI (nI co), vI (nI lf), vI (nI 1), vI (nI k), vI (nI f), vI (nI l), vI (nI (vY V s a b k)), vI (nI 1), vI u14, vI u15, vI u16, vI u17] [] (zP N1 O) (zrI (nI 1)) (zP N2 O) := by
    intro u14 u15 u16 u17
    refine g_iconst (n := 438) dL_choices_437 rfl k_ic_1 ?_
    refine g_goto (n := 0) (t := 442) dL_choices_438 (by decide) ?_
    exact K442
  rcases hlf with ⟨rfl, h0⟩ | ⟨rfl, h0⟩
  · obtain ⟨m1, m2⟩ := marks0 (a := a) h0 el ef (by omega) (by omega)
    obtain ⟨m3, m4⟩ := marks0 (a := a) h0 el2 ef2 (by omega) (by omega)
    rw [m1, m3, m2, m4] at g
    rcases g with ⟨g1, g2⟩ | ⟨g1, g2, g3⟩ | ⟨g1, g2, g3⟩
    · have ny : vY V s a b k = 4 := by
        rcases hy9 with q | ⟨_, q⟩
        · omega
        · subst q; rw [el] at el2; have := (nI_eq (by omega) (by omega)).mp el2; rw [ef] at ef2; have := (nI_eq (by omega) (by omega)).mp ef2; omega
      refine g_iload (n := 254) dL_choices_252 rfl rfl ?_
      refine g_if_eq (n := 257) (t := 444) dL_choices_254 rfl (by decide) (fun q9 => absurd q9 (by decide)) (fun _ => ?_)
      refine g_iload (n := 259) dL_choices_257 rfl rfl ?_
      refine g_if_eq (n := 262) (t := 444) dL_choices_259 rfl (by decide) (fun q9 => absurd q9 (by decide)) (fun _ => ?_)
      refine g_aload_n (n := 263) dL_choices_262 rfl rfl ?_
      refine g_iload_n (n := 264) dL_choices_263 rfl rfl ?_
      refine g_aload_n (n := 265) dL_choices_264 rfl rfl ?_
      refine g_iload (n := 267) dL_choices_265 rfl rfl ?_
      refine g_iconst (n := 268) dL_choices_267 rfl k_ic_0 ?_
      refine g_cKHv (c9 := 0) (n := 271) cx0 dL_choices_268 rfl kz_L_125 rfl (Or.inl (Nat.le_of_ble_eq_true rfl)) (Nat.le_of_ble_eq_true rfl) rfl rfl ?_ rfl
      refine g_iconst (n := 272) dL_choices_271 rfl k_ic_0 ?_
      refine g_cKHv (c9 := 0) (n := 275) cd dL_choices_272 rfl kz_L_112 rfl (Or.inl (Nat.le_of_ble_eq_true rfl)) (Nat.le_of_ble_eq_true rfl) rfl rfl ?_ rfl
      refine g_istore14 (n := 277) dL_choices_275 rfl (by decide) rfl ?_
      refine g_aload_n (n := 278) dL_choices_277 rfl rfl ?_
      refine g_aload_n (n := 279) dL_choices_278 rfl rfl ?_
      refine g_iload (n := 281) dL_choices_279 rfl rfl ?_
      refine g_iconst (n := 282) dL_choices_281 rfl k_ic_1 ?_
      refine g_cKHv (c9 := 0) (n := 285) cx1 dL_choices_282 rfl kz_L_125 rfl (Or.inl (Nat.le_of_ble_eq_true rfl)) (Nat.le_of_ble_eq_true rfl) rfl rfl ?_ rfl
      refine g_iload_n (n := 286) dL_choices_285 rfl rfl ?_
      refine g_cKHv (c9 := 0) (n := 289) cl dL_choices_286 rfl kz_L_127 rfl (Or.inl (Nat.le_of_ble_eq_true rfl)) (Nat.le_of_ble_eq_true rfl) rfl rfl ?_ rfl
      refine g_istore15 (n := 291) dL_choices_289 rfl (by decide) rfl ?_
      refine g_iload (n := 293) dL_choices_291 rfl rfl ?_
      refine g_if_eq (n := 296) (t := 311) dL_choices_293 rfl (by decide) (fun q9 => absurd q9 (by decide)) (fun _ => ?_)
      refine g_iload (n := 298) dL_choices_296 rfl rfl ?_
      refine g_iload (n := 300) dL_choices_298 rfl rfl ?_
      refine g_icmp_le (n := 303) (t := 307) dL_choices_300 rfl (by decide) (fun q9 => absurd q9 (nle (show l2 < l by omega) (by omega))) (fun _ => ?_)
      refine g_iconst (n := 304) dL_choices_303 rfl k_ic_1 ?_
      refine g_goto (n := 0) (t := 323) dL_choices_304 (by decide) ?_
      refine g_istore16 (n := 325) dL_choices_323 rfl (by decide) rfl ?_
      refine g_iload (n := 327) dL_choices_325 rfl rfl ?_
      refine g_if_eq (n := 330) (t := 352) dL_choices_327 rfl (by decide) (fun q9 => absurd q9 (by decide)) (fun _ => ?_)
      refine g_iload (n := 332) dL_choices_330 rfl rfl ?_
      refine g_iload (n := 334) dL_choices_332 rfl rfl ?_
      refine g_icmp_ne (n := 337) (t := 348) dL_choices_334 rfl (by decide) (fun _ => ?_) (fun q9 => absurd q9 (fun q => absurd ((nI_eq (by omega) (by omega)).mp q) (show ¬ l = l2 by omega)))
      refine g_iconst (n := 349) dL_choices_348 rfl k_ic_0 ?_
      refine g_goto (n := 0) (t := 371) dL_choices_349 (by decide) ?_
      refine g_istore17 (n := 373) dL_choices_371 rfl (by decide) rfl ?_
      refine g_iload (n := 375) dL_choices_373 rfl rfl ?_
      refine g_if_eq (n := 378) (t := 392) dL_choices_375 rfl (by decide) (fun q9 => absurd q9 (by decide)) (fun _ => ?_)
      refine g_iload (n := 380) dL_choices_378 rfl rfl ?_
      refine g_iconst (n := 381) dL_choices_380 rfl k_ic_4 ?_
      refine g_icmp_ne (n := 384) (t := 388) dL_choices_381 rfl (by decide) (fun q9 => absurd (congrArg nI (show vY V s a b k = 4 by omega)) q9) (fun _ => ?_)
      refine g_iconst (n := 385) dL_choices_384 rfl k_ic_1 ?_
      refine g_goto (n := 0) (t := 442) dL_choices_385 (by decide) ?_
      exact K442
    · have ny : vY V s a b k = 5 := by
        rcases hy9 with q | ⟨_, q⟩
        · omega
        · subst q; rw [el] at el2; have := (nI_eq (by omega) (by omega)).mp el2; rw [ef] at ef2; have := (nI_eq (by omega) (by omega)).mp ef2; omega
      refine g_iload (n := 254) dL_choices_252 rfl rfl ?_
      refine g_if_eq (n := 257) (t := 444) dL_choices_254 rfl (by decide) (fun q9 => absurd q9 (by decide)) (fun _ => ?_)
      refine g_iload (n := 259) dL_choices_257 rfl rfl ?_
      refine g_if_eq (n := 262) (t := 444) dL_choices_259 rfl (by decide) (fun q9 => absurd q9 (by decide)) (fun _ => ?_)
      refine g_aload_n (n := 263) dL_choices_262 rfl rfl ?_
      refine g_iload_n (n := 264) dL_choices_263 rfl rfl ?_
      refine g_aload_n (n := 265) dL_choices_264 rfl rfl ?_
      refine g_iload (n := 267) dL_choices_265 rfl rfl ?_
      refine g_iconst (n := 268) dL_choices_267 rfl k_ic_0 ?_
      refine g_cKHv (c9 := 0) (n := 271) cx0 dL_choices_268 rfl kz_L_125 rfl (Or.inl (Nat.le_of_ble_eq_true rfl)) (Nat.le_of_ble_eq_true rfl) rfl rfl ?_ rfl
      refine g_iconst (n := 272) dL_choices_271 rfl k_ic_0 ?_
      refine g_cKHv (c9 := 0) (n := 275) cd dL_choices_272 rfl kz_L_112 rfl (Or.inl (Nat.le_of_ble_eq_true rfl)) (Nat.le_of_ble_eq_true rfl) rfl rfl ?_ rfl
      refine g_istore14 (n := 277) dL_choices_275 rfl (by decide) rfl ?_
      refine g_aload_n (n := 278) dL_choices_277 rfl rfl ?_
      refine g_aload_n (n := 279) dL_choices_278 rfl rfl ?_
      refine g_iload (n := 281) dL_choices_279 rfl rfl ?_
      refine g_iconst (n := 282) dL_choices_281 rfl k_ic_1 ?_
      refine g_cKHv (c9 := 0) (n := 285) cx1 dL_choices_282 rfl kz_L_125 rfl (Or.inl (Nat.le_of_ble_eq_true rfl)) (Nat.le_of_ble_eq_true rfl) rfl rfl ?_ rfl
      refine g_iload_n (n := 286) dL_choices_285 rfl rfl ?_
      refine g_cKHv (c9 := 0) (n := 289) cl dL_choices_286 rfl kz_L_127 rfl (Or.inl (Nat.le_of_ble_eq_true rfl)) (Nat.le_of_ble_eq_true rfl) rfl rfl ?_ rfl
      refine g_istore15 (n := 291) dL_choices_289 rfl (by decide) rfl ?_
      refine g_iload (n := 293) dL_choices_291 rfl rfl ?_
      refine g_if_eq (n := 296) (t := 311) dL_choices_293 rfl (by decide) (fun q9 => absurd q9 (by decide)) (fun _ => ?_)
      refine g_iload (n := 298) dL_choices_296 rfl rfl ?_
      refine g_iload (n := 300) dL_choices_298 rfl rfl ?_
      refine g_icmp_le (n := 303) (t := 307) dL_choices_300 rfl (by decide) (fun _ => ?_) (fun q9 => absurd (nI_le (show l ≤ l2 by omega) (by omega)) q9)
      refine g_iconst (n := 308) dL_choices_307 rfl k_ic_0 ?_
      refine g_goto (n := 0) (t := 323) dL_choices_308 (by decide) ?_
      refine g_istore16 (n := 325) dL_choices_323 rfl (by decide) rfl ?_
      refine g_iload (n := 327) dL_choices_325 rfl rfl ?_
      refine g_if_eq (n := 330) (t := 352) dL_choices_327 rfl (by decide) (fun q9 => absurd q9 (by decide)) (fun _ => ?_)
      refine g_iload (n := 332) dL_choices_330 rfl rfl ?_
      refine g_iload (n := 334) dL_choices_332 rfl rfl ?_
      refine g_icmp_ne (n := 337) (t := 348) dL_choices_334 rfl (by decide) (fun q9 => absurd (congrArg nI (show l = l2 by omega)) q9) (fun _ => ?_)
      refine g_iload (n := 339) dL_choices_337 rfl rfl ?_
      refine g_iload (n := 341) dL_choices_339 rfl rfl ?_
      refine g_icmp_le (n := 344) (t := 348) dL_choices_341 rfl (by decide) (fun q9 => absurd q9 (nle (show f2 < f by omega) (by omega))) (fun _ => ?_)
      refine g_iconst (n := 345) dL_choices_344 rfl k_ic_1 ?_
      refine g_goto (n := 0) (t := 371) dL_choices_345 (by decide) ?_
      refine g_istore17 (n := 373) dL_choices_371 rfl (by decide) rfl ?_
      refine g_iload (n := 375) dL_choices_373 rfl rfl ?_
      refine g_if_eq (n := 378) (t := 392) dL_choices_375 rfl (by decide) (fun _ => ?_) (fun q9 => absurd (by decide) q9)
      refine g_iload (n := 394) dL_choices_392 rfl rfl ?_
      refine g_if_eq (n := 397) (t := 411) dL_choices_394 rfl (by decide) (fun q9 => absurd q9 (by decide)) (fun _ => ?_)
      refine g_iload (n := 399) dL_choices_397 rfl rfl ?_
      refine g_iconst (n := 400) dL_choices_399 rfl k_ic_5 ?_
      refine g_icmp_ne (n := 403) (t := 407) dL_choices_400 rfl (by decide) (fun q9 => absurd (congrArg nI (show vY V s a b k = 5 by omega)) q9) (fun _ => ?_)
      refine g_iconst (n := 404) dL_choices_403 rfl k_ic_1 ?_
      refine g_goto (n := 0) (t := 442) dL_choices_404 (by decide) ?_
      exact K442
    · have hy : vY V s a b k = 0 ∨ vY V s a b k = 6 := by
        rcases hy9 with q | ⟨q, _⟩
        · right; omega
        · exact Or.inl q
      rcases hy with hy | hy
      · refine g_iload (n := 254) dL_choices_252 rfl rfl ?_
        refine g_if_eq (n := 257) (t := 444) dL_choices_254 rfl (by decide) (fun q9 => absurd q9 (by decide)) (fun _ => ?_)
        refine g_iload (n := 259) dL_choices_257 rfl rfl ?_
        refine g_if_eq (n := 262) (t := 444) dL_choices_259 rfl (by decide) (fun q9 => absurd q9 (by decide)) (fun _ => ?_)
        refine g_aload_n (n := 263) dL_choices_262 rfl rfl ?_
        refine g_iload_n (n := 264) dL_choices_263 rfl rfl ?_
        refine g_aload_n (n := 265) dL_choices_264 rfl rfl ?_
        refine g_iload (n := 267) dL_choices_265 rfl rfl ?_
        refine g_iconst (n := 268) dL_choices_267 rfl k_ic_0 ?_
        refine g_cKHv (c9 := 0) (n := 271) cx0 dL_choices_268 rfl kz_L_125 rfl (Or.inl (Nat.le_of_ble_eq_true rfl)) (Nat.le_of_ble_eq_true rfl) rfl rfl ?_ rfl
        refine g_iconst (n := 272) dL_choices_271 rfl k_ic_0 ?_
        refine g_cKHv (c9 := 0) (n := 275) cd dL_choices_272 rfl kz_L_112 rfl (Or.inl (Nat.le_of_ble_eq_true rfl)) (Nat.le_of_ble_eq_true rfl) rfl rfl ?_ rfl
        refine g_istore14 (n := 277) dL_choices_275 rfl (by decide) rfl ?_
        refine g_aload_n (n := 278) dL_choices_277 rfl rfl ?_
        refine g_aload_n (n := 279) dL_choices_278 rfl rfl ?_
        refine g_iload (n := 281) dL_choices_279 rfl rfl ?_
        refine g_iconst (n := 282) dL_choices_281 rfl k_ic_1 ?_
        refine g_cKHv (c9 := 0) (n := 285) cx1 dL_choices_282 rfl kz_L_125 rfl (Or.inl (Nat.le_of_ble_eq_true rfl)) (Nat.le_of_ble_eq_true rfl) rfl rfl ?_ rfl
        refine g_iload_n (n := 286) dL_choices_285 rfl rfl ?_
        refine g_cKHv (c9 := 0) (n := 289) cl dL_choices_286 rfl kz_L_127 rfl (Or.inl (Nat.le_of_ble_eq_true rfl)) (Nat.le_of_ble_eq_true rfl) rfl rfl ?_ rfl
        refine g_istore15 (n := 291) dL_choices_289 rfl (by decide) rfl ?_
        refine g_iload (n := 293) dL_choices_291 rfl rfl ?_
        refine g_if_eq (n := 296) (t := 311) dL_choices_293 rfl (by decide) (fun q9 => absurd q9 (by decide)) (fun _ => ?_)
        refine g_iload (n := 298) dL_choices_296 rfl rfl ?_
        refine g_iload (n := 300) dL_choices_298 rfl rfl ?_
        refine g_icmp_le (n := 303) (t := 307) dL_choices_300 rfl (by decide) (fun _ => ?_) (fun q9 => absurd (nI_le (show l ≤ l2 by omega) (by omega)) q9)
        refine g_iconst (n := 308) dL_choices_307 rfl k_ic_0 ?_
        refine g_goto (n := 0) (t := 323) dL_choices_308 (by decide) ?_
        refine g_istore16 (n := 325) dL_choices_323 rfl (by decide) rfl ?_
        refine g_iload (n := 327) dL_choices_325 rfl rfl ?_
        refine g_if_eq (n := 330) (t := 352) dL_choices_327 rfl (by decide) (fun q9 => absurd q9 (by decide)) (fun _ => ?_)
        refine g_iload (n := 332) dL_choices_330 rfl rfl ?_
        refine g_iload (n := 334) dL_choices_332 rfl rfl ?_
        refine g_icmp_ne (n := 337) (t := 348) dL_choices_334 rfl (by decide) (fun q9 => absurd (congrArg nI (show l = l2 by omega)) q9) (fun _ => ?_)
        refine g_iload (n := 339) dL_choices_337 rfl rfl ?_
        refine g_iload (n := 341) dL_choices_339 rfl rfl ?_
        refine g_icmp_le (n := 344) (t := 348) dL_choices_341 rfl (by decide) (fun _ => ?_) (fun q9 => absurd (nI_le (show f ≤ f2 by omega) (by omega)) q9)
        refine g_iconst (n := 349) dL_choices_348 rfl k_ic_0 ?_
        refine g_goto (n := 0) (t := 371) dL_choices_349 (by decide) ?_
        refine g_istore17 (n := 373) dL_choices_371 rfl (by decide) rfl ?_
        refine g_iload (n := 375) dL_choices_373 rfl rfl ?_
        refine g_if_eq (n := 378) (t := 392) dL_choices_375 rfl (by decide) (fun _ => ?_) (fun q9 => absurd (by decide) q9)
        refine g_iload (n := 394) dL_choices_392 rfl rfl ?_
        refine g_if_eq (n := 397) (t := 411) dL_choices_394 rfl (by decide) (fun _ => ?_) (fun q9 => absurd (by decide) q9)
        refine g_iload (n := 413) dL_choices_411 rfl rfl ?_
        refine g_iload (n := 415) dL_choices_413 rfl rfl ?_
        refine g_icmp_ne (n := 418) (t := 441) dL_choices_415 rfl (by decide) (fun q9 => absurd (congrArg nI (show l = l2 by omega)) q9) (fun _ => ?_)
        refine g_iload (n := 420) dL_choices_418 rfl rfl ?_
        refine g_iload (n := 422) dL_choices_420 rfl rfl ?_
        refine g_icmp_ne (n := 425) (t := 441) dL_choices_422 rfl (by decide) (fun q9 => absurd (congrArg nI (show f = f2 by omega)) q9) (fun _ => ?_)
        refine g_iload (n := 427) dL_choices_425 rfl rfl ?_
        refine g_if_eq (n := 430) (t := 437) dL_choices_427 rfl (by decide) (fun _ => ?_) (fun q9 => absurd (by rw [hy]; rfl) q9)
        exact K437
      · refine g_iload (n := 254) dL_choices_252 rfl rfl ?_
        refine g_if_eq (n := 257) (t := 444) dL_choices_254 rfl (by decide) (fun q9 => absurd q9 (by decide)) (fun _ => ?_)
        refine g_iload (n := 259) dL_choices_257 rfl rfl ?_
        refine g_if_eq (n := 262) (t := 444) dL_choices_259 rfl (by decide) (fun q9 => absurd q9 (by decide)) (fun _ => ?_)
        refine g_aload_n (n := 263) dL_choices_262 rfl rfl ?_
        refine g_iload_n (n := 264) dL_choices_263 rfl rfl ?_
        refine g_aload_n (n := 265) dL_choices_264 rfl rfl ?_
        refine g_iload (n := 267) dL_choices_265 rfl rfl ?_
        refine g_iconst (n := 268) dL_choices_267 rfl k_ic_0 ?_
        refine g_cKHv (c9 := 0) (n := 271) cx0 dL_choices_268 rfl kz_L_125 rfl (Or.inl (Nat.le_of_ble_eq_true rfl)) (Nat.le_of_ble_eq_true rfl) rfl rfl ?_ rfl
        refine g_iconst (n := 272) dL_choices_271 rfl k_ic_0 ?_
        refine g_cKHv (c9 := 0) (n := 275) cd dL_choices_272 rfl kz_L_112 rfl (Or.inl (Nat.le_of_ble_eq_true rfl)) (Nat.le_of_ble_eq_true rfl) rfl rfl ?_ rfl
        refine g_istore14 (n := 277) dL_choices_275 rfl (by decide) rfl ?_
        refine g_aload_n (n := 278) dL_choices_277 rfl rfl ?_
        refine g_aload_n (n := 279) dL_choices_278 rfl rfl ?_
        refine g_iload (n := 281) dL_choices_279 rfl rfl ?_
        refine g_iconst (n := 282) dL_choices_281 rfl k_ic_1 ?_
        refine g_cKHv (c9 := 0) (n := 285) cx1 dL_choices_282 rfl kz_L_125 rfl (Or.inl (Nat.le_of_ble_eq_true rfl)) (Nat.le_of_ble_eq_true rfl) rfl rfl ?_ rfl
        refine g_iload_n (n := 286) dL_choices_285 rfl rfl ?_
        refine g_cKHv (c9 := 0) (n := 289) cl dL_choices_286 rfl kz_L_127 rfl (Or.inl (Nat.le_of_ble_eq_true rfl)) (Nat.le_of_ble_eq_true rfl) rfl rfl ?_ rfl
        refine g_istore15 (n := 291) dL_choices_289 rfl (by decide) rfl ?_
        refine g_iload (n := 293) dL_choices_291 rfl rfl ?_
        refine g_if_eq (n := 296) (t := 311) dL_choices_293 rfl (by decide) (fun q9 => absurd q9 (by decide)) (fun _ => ?_)
        refine g_iload (n := 298) dL_choices_296 rfl rfl ?_
        refine g_iload (n := 300) dL_choices_298 rfl rfl ?_
        refine g_icmp_le (n := 303) (t := 307) dL_choices_300 rfl (by decide) (fun _ => ?_) (fun q9 => absurd (nI_le (show l ≤ l2 by omega) (by omega)) q9)
        refine g_iconst (n := 308) dL_choices_307 rfl k_ic_0 ?_
        refine g_goto (n := 0) (t := 323) dL_choices_308 (by decide) ?_
        refine g_istore16 (n := 325) dL_choices_323 rfl (by decide) rfl ?_
        refine g_iload (n := 327) dL_choices_325 rfl rfl ?_
        refine g_if_eq (n := 330) (t := 352) dL_choices_327 rfl (by decide) (fun q9 => absurd q9 (by decide)) (fun _ => ?_)
        refine g_iload (n := 332) dL_choices_330 rfl rfl ?_
        refine g_iload (n := 334) dL_choices_332 rfl rfl ?_
        refine g_icmp_ne (n := 337) (t := 348) dL_choices_334 rfl (by decide) (fun q9 => absurd (congrArg nI (show l = l2 by omega)) q9) (fun _ => ?_)
        refine g_iload (n := 339) dL_choices_337 rfl rfl ?_
        refine g_iload (n := 341) dL_choices_339 rfl rfl ?_
        refine g_icmp_le (n := 344) (t := 348) dL_choices_341 rfl (by decide) (fun _ => ?_) (fun q9 => absurd (nI_le (show f ≤ f2 by omega) (by omega)) q9)
        refine g_iconst (n := 349) dL_choices_348 rfl k_ic_0 ?_
        refine g_goto (n := 0) (t := 371) dL_choices_349 (by decide) ?_
        refine g_istore17 (n := 373) dL_choices_371 rfl (by decide) rfl ?_
        refine g_iload (n := 375) dL_choices_373 rfl rfl ?_
        refine g_if_eq (n := 378) (t := 392) dL_choices_375 rfl (by decide) (fun _ => ?_) (fun q9 => absurd (by decide) q9)
        refine g_iload (n := 394) dL_choices_392 rfl rfl ?_
        refine g_if_eq (n := 397) (t := 411) dL_choices_394 rfl (by decide) (fun _ => ?_) (fun q9 => absurd (by decide) q9)
        refine g_iload (n := 413) dL_choices_411 rfl rfl ?_
        refine g_iload (n := 415) dL_choices_413 rfl rfl ?_
        refine g_icmp_ne (n := 418) (t := 441) dL_choices_415 rfl (by decide) (fun q9 => absurd (congrArg nI (show l = l2 by omega)) q9) (fun _ => ?_)
        refine g_iload (n := 420) dL_choices_418 rfl rfl ?_
        refine g_iload (n := 422) dL_choices_420 rfl rfl ?_
        refine g_icmp_ne (n := 425) (t := 441) dL_choices_422 rfl (by decide) (fun q9 => absurd (congrArg nI (show f = f2 by omega)) q9) (fun _ => ?_)
        refine g_iload (n := 427) dL_choices_425 rfl rfl ?_
        refine g_if_eq (n := 430) (t := 437) dL_choices_427 rfl (by decide) (fun q9 => absurd q9 (fun q => absurd ((nI_eq (b := 0) (by omega) (by decide)).mp q) (by omega))) (fun _ => ?_)
        refine g_iload (n := 432) dL_choices_430 rfl rfl ?_
        refine g_bipush (n := 434) dL_choices_432 rfl k_bp_6 ?_
        refine g_icmp_ne (n := 437) (t := 441) dL_choices_434 rfl (by decide) (fun q9 => absurd (congrArg nI hy) q9) (fun _ => ?_)
        exact K437
  · obtain ⟨m1, m2⟩ := marks1 (a := a) h0 el ef (by omega) (by omega)
    obtain ⟨m3, m4⟩ := marks1 (a := a) h0 el2 ef2 (by omega) (by omega)
    rw [m1, m3, m2, m4] at g
    rcases g with ⟨g1, g2⟩ | ⟨g1, g2, g3⟩ | ⟨g1, g2, g3⟩
    · have ny : vY V s a b k = 4 := by
        rcases hy9 with q | ⟨_, q⟩
        · omega
        · subst q; rw [el] at el2; have := (nI_eq (by omega) (by omega)).mp el2; rw [ef] at ef2; have := (nI_eq (by omega) (by omega)).mp ef2; omega
      refine g_iload (n := 254) dL_choices_252 rfl rfl ?_
      refine g_if_eq (n := 257) (t := 444) dL_choices_254 rfl (by decide) (fun q9 => absurd q9 (by decide)) (fun _ => ?_)
      refine g_iload (n := 259) dL_choices_257 rfl rfl ?_
      refine g_if_eq (n := 262) (t := 444) dL_choices_259 rfl (by decide) (fun q9 => absurd q9 (by decide)) (fun _ => ?_)
      refine g_aload_n (n := 263) dL_choices_262 rfl rfl ?_
      refine g_iload_n (n := 264) dL_choices_263 rfl rfl ?_
      refine g_aload_n (n := 265) dL_choices_264 rfl rfl ?_
      refine g_iload (n := 267) dL_choices_265 rfl rfl ?_
      refine g_iconst (n := 268) dL_choices_267 rfl k_ic_0 ?_
      refine g_cKHv (c9 := 0) (n := 271) cx0 dL_choices_268 rfl kz_L_125 rfl (Or.inl (Nat.le_of_ble_eq_true rfl)) (Nat.le_of_ble_eq_true rfl) rfl rfl ?_ rfl
      refine g_iconst (n := 272) dL_choices_271 rfl k_ic_0 ?_
      refine g_cKHv (c9 := 0) (n := 275) cd dL_choices_272 rfl kz_L_112 rfl (Or.inl (Nat.le_of_ble_eq_true rfl)) (Nat.le_of_ble_eq_true rfl) rfl rfl ?_ rfl
      refine g_istore14 (n := 277) dL_choices_275 rfl (by decide) rfl ?_
      refine g_aload_n (n := 278) dL_choices_277 rfl rfl ?_
      refine g_aload_n (n := 279) dL_choices_278 rfl rfl ?_
      refine g_iload (n := 281) dL_choices_279 rfl rfl ?_
      refine g_iconst (n := 282) dL_choices_281 rfl k_ic_1 ?_
      refine g_cKHv (c9 := 0) (n := 285) cx1 dL_choices_282 rfl kz_L_125 rfl (Or.inl (Nat.le_of_ble_eq_true rfl)) (Nat.le_of_ble_eq_true rfl) rfl rfl ?_ rfl
      refine g_iload_n (n := 286) dL_choices_285 rfl rfl ?_
      refine g_cKHv (c9 := 0) (n := 289) cl dL_choices_286 rfl kz_L_127 rfl (Or.inl (Nat.le_of_ble_eq_true rfl)) (Nat.le_of_ble_eq_true rfl) rfl rfl ?_ rfl
      refine g_istore15 (n := 291) dL_choices_289 rfl (by decide) rfl ?_
      refine g_iload (n := 293) dL_choices_291 rfl rfl ?_
      refine g_if_eq (n := 296) (t := 311) dL_choices_293 rfl (by decide) (fun _ => ?_) (fun q9 => absurd (by decide) q9)
      refine g_iload (n := 313) dL_choices_311 rfl rfl ?_
      refine g_iload (n := 315) dL_choices_313 rfl rfl ?_
      refine g_icmp_le (n := 318) (t := 322) dL_choices_315 rfl (by decide) (fun q9 => absurd q9 (nle (show f2 < f by omega) (by omega))) (fun _ => ?_)
      refine g_iconst (n := 319) dL_choices_318 rfl k_ic_1 ?_
      refine g_goto (n := 0) (t := 323) dL_choices_319 (by decide) ?_
      refine g_istore16 (n := 325) dL_choices_323 rfl (by decide) rfl ?_
      refine g_iload (n := 327) dL_choices_325 rfl rfl ?_
      refine g_if_eq (n := 330) (t := 352) dL_choices_327 rfl (by decide) (fun _ => ?_) (fun q9 => absurd (by decide) q9)
      refine g_iload (n := 354) dL_choices_352 rfl rfl ?_
      refine g_iload (n := 356) dL_choices_354 rfl rfl ?_
      refine g_icmp_ne (n := 359) (t := 370) dL_choices_356 rfl (by decide) (fun _ => ?_) (fun q9 => absurd q9 (fun q => absurd ((nI_eq (by omega) (by omega)).mp q) (show ¬ f = f2 by omega)))
      refine g_iconst (n := 371) dL_choices_370 rfl k_ic_0 ?_
      refine g_istore17 (n := 373) dL_choices_371 rfl (by decide) rfl ?_
      refine g_iload (n := 375) dL_choices_373 rfl rfl ?_
      refine g_if_eq (n := 378) (t := 392) dL_choices_375 rfl (by decide) (fun q9 => absurd q9 (by decide)) (fun _ => ?_)
      refine g_iload (n := 380) dL_choices_378 rfl rfl ?_
      refine g_iconst (n := 381) dL_choices_380 rfl k_ic_4 ?_
      refine g_icmp_ne (n := 384) (t := 388) dL_choices_381 rfl (by decide) (fun q9 => absurd (congrArg nI (show vY V s a b k = 4 by omega)) q9) (fun _ => ?_)
      refine g_iconst (n := 385) dL_choices_384 rfl k_ic_1 ?_
      refine g_goto (n := 0) (t := 442) dL_choices_385 (by decide) ?_
      exact K442
    · have ny : vY V s a b k = 5 := by
        rcases hy9 with q | ⟨_, q⟩
        · omega
        · subst q; rw [el] at el2; have := (nI_eq (by omega) (by omega)).mp el2; rw [ef] at ef2; have := (nI_eq (by omega) (by omega)).mp ef2; omega
      refine g_iload (n := 254) dL_choices_252 rfl rfl ?_
      refine g_if_eq (n := 257) (t := 444) dL_choices_254 rfl (by decide) (fun q9 => absurd q9 (by decide)) (fun _ => ?_)
      refine g_iload (n := 259) dL_choices_257 rfl rfl ?_
      refine g_if_eq (n := 262) (t := 444) dL_choices_259 rfl (by decide) (fun q9 => absurd q9 (by decide)) (fun _ => ?_)
      refine g_aload_n (n := 263) dL_choices_262 rfl rfl ?_
      refine g_iload_n (n := 264) dL_choices_263 rfl rfl ?_
      refine g_aload_n (n := 265) dL_choices_264 rfl rfl ?_
      refine g_iload (n := 267) dL_choices_265 rfl rfl ?_
      refine g_iconst (n := 268) dL_choices_267 rfl k_ic_0 ?_
      refine g_cKHv (c9 := 0) (n := 271) cx0 dL_choices_268 rfl kz_L_125 rfl (Or.inl (Nat.le_of_ble_eq_true rfl)) (Nat.le_of_ble_eq_true rfl) rfl rfl ?_ rfl
      refine g_iconst (n := 272) dL_choices_271 rfl k_ic_0 ?_
      refine g_cKHv (c9 := 0) (n := 275) cd dL_choices_272 rfl kz_L_112 rfl (Or.inl (Nat.le_of_ble_eq_true rfl)) (Nat.le_of_ble_eq_true rfl) rfl rfl ?_ rfl
      refine g_istore14 (n := 277) dL_choices_275 rfl (by decide) rfl ?_
      refine g_aload_n (n := 278) dL_choices_277 rfl rfl ?_
      refine g_aload_n (n := 279) dL_choices_278 rfl rfl ?_
      refine g_iload (n := 281) dL_choices_279 rfl rfl ?_
      refine g_iconst (n := 282) dL_choices_281 rfl k_ic_1 ?_
      refine g_cKHv (c9 := 0) (n := 285) cx1 dL_choices_282 rfl kz_L_125 rfl (Or.inl (Nat.le_of_ble_eq_true rfl)) (Nat.le_of_ble_eq_true rfl) rfl rfl ?_ rfl
      refine g_iload_n (n := 286) dL_choices_285 rfl rfl ?_
      refine g_cKHv (c9 := 0) (n := 289) cl dL_choices_286 rfl kz_L_127 rfl (Or.inl (Nat.le_of_ble_eq_true rfl)) (Nat.le_of_ble_eq_true rfl) rfl rfl ?_ rfl
      refine g_istore15 (n := 291) dL_choices_289 rfl (by decide) rfl ?_
      refine g_iload (n := 293) dL_choices_291 rfl rfl ?_
      refine g_if_eq (n := 296) (t := 311) dL_choices_293 rfl (by decide) (fun _ => ?_) (fun q9 => absurd (by decide) q9)
      refine g_iload (n := 313) dL_choices_311 rfl rfl ?_
      refine g_iload (n := 315) dL_choices_313 rfl rfl ?_
      refine g_icmp_le (n := 318) (t := 322) dL_choices_315 rfl (by decide) (fun _ => ?_) (fun q9 => absurd (nI_le (show f ≤ f2 by omega) (by omega)) q9)
      refine g_iconst (n := 323) dL_choices_322 rfl k_ic_0 ?_
      refine g_istore16 (n := 325) dL_choices_323 rfl (by decide) rfl ?_
      refine g_iload (n := 327) dL_choices_325 rfl rfl ?_
      refine g_if_eq (n := 330) (t := 352) dL_choices_327 rfl (by decide) (fun _ => ?_) (fun q9 => absurd (by decide) q9)
      refine g_iload (n := 354) dL_choices_352 rfl rfl ?_
      refine g_iload (n := 356) dL_choices_354 rfl rfl ?_
      refine g_icmp_ne (n := 359) (t := 370) dL_choices_356 rfl (by decide) (fun q9 => absurd (congrArg nI (show f = f2 by omega)) q9) (fun _ => ?_)
      refine g_iload (n := 361) dL_choices_359 rfl rfl ?_
      refine g_iload (n := 363) dL_choices_361 rfl rfl ?_
      refine g_icmp_le (n := 366) (t := 370) dL_choices_363 rfl (by decide) (fun q9 => absurd q9 (nle (show l2 < l by omega) (by omega))) (fun _ => ?_)
      refine g_iconst (n := 367) dL_choices_366 rfl k_ic_1 ?_
      refine g_goto (n := 0) (t := 371) dL_choices_367 (by decide) ?_
      refine g_istore17 (n := 373) dL_choices_371 rfl (by decide) rfl ?_
      refine g_iload (n := 375) dL_choices_373 rfl rfl ?_
      refine g_if_eq (n := 378) (t := 392) dL_choices_375 rfl (by decide) (fun _ => ?_) (fun q9 => absurd (by decide) q9)
      refine g_iload (n := 394) dL_choices_392 rfl rfl ?_
      refine g_if_eq (n := 397) (t := 411) dL_choices_394 rfl (by decide) (fun q9 => absurd q9 (by decide)) (fun _ => ?_)
      refine g_iload (n := 399) dL_choices_397 rfl rfl ?_
      refine g_iconst (n := 400) dL_choices_399 rfl k_ic_5 ?_
      refine g_icmp_ne (n := 403) (t := 407) dL_choices_400 rfl (by decide) (fun q9 => absurd (congrArg nI (show vY V s a b k = 5 by omega)) q9) (fun _ => ?_)
      refine g_iconst (n := 404) dL_choices_403 rfl k_ic_1 ?_
      refine g_goto (n := 0) (t := 442) dL_choices_404 (by decide) ?_
      exact K442
    · have hy : vY V s a b k = 0 ∨ vY V s a b k = 6 := by
        rcases hy9 with q | ⟨q, _⟩
        · right; omega
        · exact Or.inl q
      rcases hy with hy | hy
      · refine g_iload (n := 254) dL_choices_252 rfl rfl ?_
        refine g_if_eq (n := 257) (t := 444) dL_choices_254 rfl (by decide) (fun q9 => absurd q9 (by decide)) (fun _ => ?_)
        refine g_iload (n := 259) dL_choices_257 rfl rfl ?_
        refine g_if_eq (n := 262) (t := 444) dL_choices_259 rfl (by decide) (fun q9 => absurd q9 (by decide)) (fun _ => ?_)
        refine g_aload_n (n := 263) dL_choices_262 rfl rfl ?_
        refine g_iload_n (n := 264) dL_choices_263 rfl rfl ?_
        refine g_aload_n (n := 265) dL_choices_264 rfl rfl ?_
        refine g_iload (n := 267) dL_choices_265 rfl rfl ?_
        refine g_iconst (n := 268) dL_choices_267 rfl k_ic_0 ?_
        refine g_cKHv (c9 := 0) (n := 271) cx0 dL_choices_268 rfl kz_L_125 rfl (Or.inl (Nat.le_of_ble_eq_true rfl)) (Nat.le_of_ble_eq_true rfl) rfl rfl ?_ rfl
        refine g_iconst (n := 272) dL_choices_271 rfl k_ic_0 ?_
        refine g_cKHv (c9 := 0) (n := 275) cd dL_choices_272 rfl kz_L_112 rfl (Or.inl (Nat.le_of_ble_eq_true rfl)) (Nat.le_of_ble_eq_true rfl) rfl rfl ?_ rfl
        refine g_istore14 (n := 277) dL_choices_275 rfl (by decide) rfl ?_
        refine g_aload_n (n := 278) dL_choices_277 rfl rfl ?_
        refine g_aload_n (n := 279) dL_choices_278 rfl rfl ?_
        refine g_iload (n := 281) dL_choices_279 rfl rfl ?_
        refine g_iconst (n := 282) dL_choices_281 rfl k_ic_1 ?_
        refine g_cKHv (c9 := 0) (n := 285) cx1 dL_choices_282 rfl kz_L_125 rfl (Or.inl (Nat.le_of_ble_eq_true rfl)) (Nat.le_of_ble_eq_true rfl) rfl rfl ?_ rfl
        refine g_iload_n (n := 286) dL_choices_285 rfl rfl ?_
        refine g_cKHv (c9 := 0) (n := 289) cl dL_choices_286 rfl kz_L_127 rfl (Or.inl (Nat.le_of_ble_eq_true rfl)) (Nat.le_of_ble_eq_true rfl) rfl rfl ?_ rfl
        refine g_istore15 (n := 291) dL_choices_289 rfl (by decide) rfl ?_
        refine g_iload (n := 293) dL_choices_291 rfl rfl ?_
        refine g_if_eq (n := 296) (t := 311) dL_choices_293 rfl (by decide) (fun _ => ?_) (fun q9 => absurd (by decide) q9)
        refine g_iload (n := 313) dL_choices_311 rfl rfl ?_
        refine g_iload (n := 315) dL_choices_313 rfl rfl ?_
        refine g_icmp_le (n := 318) (t := 322) dL_choices_315 rfl (by decide) (fun _ => ?_) (fun q9 => absurd (nI_le (show f ≤ f2 by omega) (by omega)) q9)
        refine g_iconst (n := 323) dL_choices_322 rfl k_ic_0 ?_
        refine g_istore16 (n := 325) dL_choices_323 rfl (by decide) rfl ?_
        refine g_iload (n := 327) dL_choices_325 rfl rfl ?_
        refine g_if_eq (n := 330) (t := 352) dL_choices_327 rfl (by decide) (fun _ => ?_) (fun q9 => absurd (by decide) q9)
        refine g_iload (n := 354) dL_choices_352 rfl rfl ?_
        refine g_iload (n := 356) dL_choices_354 rfl rfl ?_
        refine g_icmp_ne (n := 359) (t := 370) dL_choices_356 rfl (by decide) (fun q9 => absurd (congrArg nI (show f = f2 by omega)) q9) (fun _ => ?_)
        refine g_iload (n := 361) dL_choices_359 rfl rfl ?_
        refine g_iload (n := 363) dL_choices_361 rfl rfl ?_
        refine g_icmp_le (n := 366) (t := 370) dL_choices_363 rfl (by decide) (fun _ => ?_) (fun q9 => absurd (nI_le (show l ≤ l2 by omega) (by omega)) q9)
        refine g_iconst (n := 371) dL_choices_370 rfl k_ic_0 ?_
        refine g_istore17 (n := 373) dL_choices_371 rfl (by decide) rfl ?_
        refine g_iload (n := 375) dL_choices_373 rfl rfl ?_
        refine g_if_eq (n := 378) (t := 392) dL_choices_375 rfl (by decide) (fun _ => ?_) (fun q9 => absurd (by decide) q9)
        refine g_iload (n := 394) dL_choices_392 rfl rfl ?_
        refine g_if_eq (n := 397) (t := 411) dL_choices_394 rfl (by decide) (fun _ => ?_) (fun q9 => absurd (by decide) q9)
        refine g_iload (n := 413) dL_choices_411 rfl rfl ?_
        refine g_iload (n := 415) dL_choices_413 rfl rfl ?_
        refine g_icmp_ne (n := 418) (t := 441) dL_choices_415 rfl (by decide) (fun q9 => absurd (congrArg nI (show l = l2 by omega)) q9) (fun _ => ?_)
        refine g_iload (n := 420) dL_choices_418 rfl rfl ?_
        refine g_iload (n := 422) dL_choices_420 rfl rfl ?_
        refine g_icmp_ne (n := 425) (t := 441) dL_choices_422 rfl (by decide) (fun q9 => absurd (congrArg nI (show f = f2 by omega)) q9) (fun _ => ?_)
        refine g_iload (n := 427) dL_choices_425 rfl rfl ?_
        refine g_if_eq (n := 430) (t := 437) dL_choices_427 rfl (by decide) (fun _ => ?_) (fun q9 => absurd (by rw [hy]; rfl) q9)
        exact K437
      · refine g_iload (n := 254) dL_choices_252 rfl rfl ?_
        refine g_if_eq (n := 257) (t := 444) dL_choices_254 rfl (by decide) (fun q9 => absurd q9 (by decide)) (fun _ => ?_)
        refine g_iload (n := 259) dL_choices_257 rfl rfl ?_
        refine g_if_eq (n := 262) (t := 444) dL_choices_259 rfl (by decide) (fun q9 => absurd q9 (by decide)) (fun _ => ?_)
        refine g_aload_n (n := 263) dL_choices_262 rfl rfl ?_
        refine g_iload_n (n := 264) dL_choices_263 rfl rfl ?_
        refine g_aload_n (n := 265) dL_choices_264 rfl rfl ?_
        refine g_iload (n := 267) dL_choices_265 rfl rfl ?_
        refine g_iconst (n := 268) dL_choices_267 rfl k_ic_0 ?_
        refine g_cKHv (c9 := 0) (n := 271) cx0 dL_choices_268 rfl kz_L_125 rfl (Or.inl (Nat.le_of_ble_eq_true rfl)) (Nat.le_of_ble_eq_true rfl) rfl rfl ?_ rfl
        refine g_iconst (n := 272) dL_choices_271 rfl k_ic_0 ?_
        refine g_cKHv (c9 := 0) (n := 275) cd dL_choices_272 rfl kz_L_112 rfl (Or.inl (Nat.le_of_ble_eq_true rfl)) (Nat.le_of_ble_eq_true rfl) rfl rfl ?_ rfl
        refine g_istore14 (n := 277) dL_choices_275 rfl (by decide) rfl ?_
        refine g_aload_n (n := 278) dL_choices_277 rfl rfl ?_
        refine g_aload_n (n := 279) dL_choices_278 rfl rfl ?_
        refine g_iload (n := 281) dL_choices_279 rfl rfl ?_
        refine g_iconst (n := 282) dL_choices_281 rfl k_ic_1 ?_
        refine g_cKHv (c9 := 0) (n := 285) cx1 dL_choices_282 rfl kz_L_125 rfl (Or.inl (Nat.le_of_ble_eq_true rfl)) (Nat.le_of_ble_eq_true rfl) rfl rfl ?_ rfl
        refine g_iload_n (n := 286) dL_choices_285 rfl rfl ?_
        refine g_cKHv (c9 := 0) (n := 289) cl dL_choices_286 rfl kz_L_127 rfl (Or.inl (Nat.le_of_ble_eq_true rfl)) (Nat.le_of_ble_eq_true rfl) rfl rfl ?_ rfl
        refine g_istore15 (n := 291) dL_choices_289 rfl (by decide) rfl ?_
        refine g_iload (n := 293) dL_choices_291 rfl rfl ?_
        refine g_if_eq (n := 296) (t := 311) dL_choices_293 rfl (by decide) (fun _ => ?_) (fun q9 => absurd (by decide) q9)
        refine g_iload (n := 313) dL_choices_311 rfl rfl ?_
        refine g_iload (n := 315) dL_choices_313 rfl rfl ?_
        refine g_icmp_le (n := 318) (t := 322) dL_choices_315 rfl (by decide) (fun _ => ?_) (fun q9 => absurd (nI_le (show f ≤ f2 by omega) (by omega)) q9)
        refine g_iconst (n := 323) dL_choices_322 rfl k_ic_0 ?_
        refine g_istore16 (n := 325) dL_choices_323 rfl (by decide) rfl ?_
        refine g_iload (n := 327) dL_choices_325 rfl rfl ?_
        refine g_if_eq (n := 330) (t := 352) dL_choices_327 rfl (by decide) (fun _ => ?_) (fun q9 => absurd (by decide) q9)
        refine g_iload (n := 354) dL_choices_352 rfl rfl ?_
        refine g_iload (n := 356) dL_choices_354 rfl rfl ?_
        refine g_icmp_ne (n := 359) (t := 370) dL_choices_356 rfl (by decide) (fun q9 => absurd (congrArg nI (show f = f2 by omega)) q9) (fun _ => ?_)
        refine g_iload (n := 361) dL_choices_359 rfl rfl ?_
        refine g_iload (n := 363) dL_choices_361 rfl rfl ?_
        refine g_icmp_le (n := 366) (t := 370) dL_choices_363 rfl (by decide) (fun _ => ?_) (fun q9 => absurd (nI_le (show l ≤ l2 by omega) (by omega)) q9)
        refine g_iconst (n := 371) dL_choices_370 rfl k_ic_0 ?_
        refine g_istore17 (n := 373) dL_choices_371 rfl (by decide) rfl ?_
        refine g_iload (n := 375) dL_choices_373 rfl rfl ?_
        refine g_if_eq (n := 378) (t := 392) dL_choices_375 rfl (by decide) (fun _ => ?_) (fun q9 => absurd (by decide) q9)
        refine g_iload (n := 394) dL_choices_392 rfl rfl ?_
        refine g_if_eq (n := 397) (t := 411) dL_choices_394 rfl (by decide) (fun _ => ?_) (fun q9 => absurd (by decide) q9)
        refine g_iload (n := 413) dL_choices_411 rfl rfl ?_
        refine g_iload (n := 415) dL_choices_413 rfl rfl ?_
        refine g_icmp_ne (n := 418) (t := 441) dL_choices_415 rfl (by decide) (fun q9 => absurd (congrArg nI (show l = l2 by omega)) q9) (fun _ => ?_)
        refine g_iload (n := 420) dL_choices_418 rfl rfl ?_
        refine g_iload (n := 422) dL_choices_420 rfl rfl ?_
        refine g_icmp_ne (n := 425) (t := 441) dL_choices_422 rfl (by decide) (fun q9 => absurd (congrArg nI (show f = f2 by omega)) q9) (fun _ => ?_)
        refine g_iload (n := 427) dL_choices_425 rfl rfl ?_
        refine g_if_eq (n := 430) (t := 437) dL_choices_427 rfl (by decide) (fun q9 => absurd q9 (fun q => absurd ((nI_eq (b := 0) (by omega) (by decide)).mp q) (by omega))) (fun _ => ?_)
        refine g_iload (n := 432) dL_choices_430 rfl rfl ?_
        refine g_bipush (n := 434) dL_choices_432 rfl k_bp_6 ?_
        refine g_icmp_ne (n := 437) (t := 441) dL_choices_434 rfl (by decide) (fun q9 => absurd (congrArg nI hy) q9) (fun _ => ?_)
        exact K437
theorem cho_mid (Z : zS t N s h V) (ha : a < 8) (hb : b < 4) (hk : k < s) (hlf : (lf = 1 ∧ V 0 = nI 0) ∨ (lf = 0 ∧ V 0 = nI 1)) (K : ∀ N1, zS t N1 s h V → zR w mL_choices (d + 12) 0 t s h V O 444 [vR 9 0, vI (nI a), vI (nI b), vI (nI s), vI (vCho (vDi V) V s a b), vI (nI be), vI (nI co), vI (nI lf), vI (nI 1), vI (nI k), vU, vU, vU, vU, vU, vU, vU, vU] [] N1) :
    zR w mL_choices (d + 12) 0 t s h V O 172 [vR 9 0, vI (nI a), vI (nI b), vI (nI s), vI (vCho (vDi V) V s a b), vI (nI be), vI (nI co), vI (nI lf), vI (nI 1), vI (nI k), vI (kFar V a (vTo V k)), vI (vLen V b k), vI (nI (vY V s a b k)), vI (nI (bN (vCs V s a b k))), vU, vU, vU, vU] [] N := by
  have W := Z.W
  have h8 := Z.h8
  have y6 := vY_6 (V := V) (s := s) (t := a) (h := b) (e := k)
  have eq1 : nI (bN (decide (nI (vY V s a b k) = 0))) = nI (bN (decide (nI k = vCho (vDi V) V s a b))) := by
    congr 2
    refine decide_eq_decide.mpr ?_
    constructor
    · intro q
      exact (vY_0.mp ((nI_eq (b := 0) (by omega) (by decide)).mp q)).symm
    · intro q
      rw [vY_0.mpr q.symm]
      rfl
  by_cases hc : vCs V s a b k = true
  · obtain ⟨N2, Z2, G⟩ := cho_tail (w := w) (d := d) (O := O) Z ha hb hk hc hlf K
    refine ⟨N2, Z2, ?_⟩
    rw [hc]
    have y := vY_can W Z.ss h8 ha hk hc
    have gn : 1 ≤ vGn V s a b k := of_decide_eq_true ((vGn_1 (V := V) (s := s) (t := a) (h := b) (e := k)).trans hc)
    have K245 : zG w mL_choices (d + 12) 0 245 [vR 9 0, vI (nI a), vI (nI b), vI (nI s), vI (vCho (vDi V) V s a b), vI (nI be), vI (nI co), vI (nI lf), vI (nI 1), vI (nI k), vI (kFar V a (vTo V k)), vI (vLen V b k), vI (nI (vY V s a b k)), vI (nI 1), vU, vU, vU, vU] [] (zP N O) (zrI (nI 1)) (zP N2 O) := by
      refine g_iconst (n := 246) dL_choices_245 rfl k_ic_1 ?_
      refine g_goto (n := 0) (t := 250) dL_choices_246 (by decide) ?_
      refine g_istore8 (n := 252) dL_choices_250 rfl (by decide) rfl ?_
      exact G
    by_cases z : vCho (vDi V) V s a b = nI k
    · rw [if_pos z] at y
      refine g_iload (n := 174) dL_choices_172 rfl rfl ?_
      refine g_dia_if_ne (t := 181) dL_choices_174 (by decide) dL_choices_177 dL_choices_178 (by decide) dL_choices_181 ?_
      refine g_iload (n := 184) dL_choices_182 rfl rfl ?_
      refine g_iload (n := 186) dL_choices_184 rfl rfl ?_
      refine g_dia_icmp_ne (t := 193) dL_choices_186 (by decide) dL_choices_189 dL_choices_190 (by decide) dL_choices_193 ?_
      refine g_icmp_ne (n := 197) (t := 249) dL_choices_194 rfl (by decide) (fun q9 => absurd eq1 q9) (fun _ => ?_)
      refine g_iload (n := 199) dL_choices_197 rfl rfl ?_
      refine g_if_eq (n := 202) (t := 216) dL_choices_199 rfl (by decide) (fun q9 => absurd q9 (by decide)) (fun _ => ?_)
      refine g_iload (n := 204) dL_choices_202 rfl rfl ?_
      refine g_if_eq (n := 207) (t := 245) dL_choices_204 rfl (by decide) (fun _ => ?_) (fun q9 => absurd (by rw [y]; rfl) q9)
      exact K245
    · rw [if_neg z] at y
      refine g_iload (n := 174) dL_choices_172 rfl rfl ?_
      refine g_dia_if_ne (t := 181) dL_choices_174 (by decide) dL_choices_177 dL_choices_178 (by decide) dL_choices_181 ?_
      refine g_iload (n := 184) dL_choices_182 rfl rfl ?_
      refine g_iload (n := 186) dL_choices_184 rfl rfl ?_
      refine g_dia_icmp_ne (t := 193) dL_choices_186 (by decide) dL_choices_189 dL_choices_190 (by decide) dL_choices_193 ?_
      refine g_icmp_ne (n := 197) (t := 249) dL_choices_194 rfl (by decide) (fun q9 => absurd eq1 q9) (fun _ => ?_)
      refine g_iload (n := 199) dL_choices_197 rfl rfl ?_
      refine g_if_eq (n := 202) (t := 216) dL_choices_199 rfl (by decide) (fun q9 => absurd q9 (by decide)) (fun _ => ?_)
      refine g_iload (n := 204) dL_choices_202 rfl rfl ?_
      refine g_if_eq (n := 207) (t := 245) dL_choices_204 rfl (by decide) (fun q9 => absurd q9 (fun q => absurd ((nI_eq (b := 0) (by omega) (by decide)).mp q) (by omega))) (fun _ => ?_)
      refine g_iload (n := 209) dL_choices_207 rfl rfl ?_
      refine g_iconst (n := 210) dL_choices_209 rfl k_ic_3 ?_
      refine g_icmp_le (n := 213) (t := 249) dL_choices_210 rfl (by decide) (fun q9 => absurd q9 (nle (show 3 < vY V s a b k by omega) (by omega))) (fun _ => ?_)
      refine g_goto (n := 0) (t := 245) dL_choices_213 (by decide) ?_
      exact K245
  · have hc' := zok_f hc
    obtain ⟨N2, Z2, G⟩ := K N Z
    refine ⟨N2, Z2, ?_⟩
    rw [hc']
    have y := vY_not W Z.ss h8 ha hb hk hc'
    have cx := q_open (w := w) (d := d + 1) (O := O) Z hk
    have K242 : ∀ {x : Int32}, nI (vY V s a b k) = x → zG w mL_choices (d + 12) 0 242 [vR 9 0, vI (nI a), vI (nI b), vI (nI s), vI (vCho (vDi V) V s a b), vI (nI be), vI (nI co), vI (nI lf), vI (nI 1), vI (nI k), vI (kFar V a (vTo V k)), vI (vLen V b k), vI (nI (vY V s a b k)), vI (nI 0), vU, vU, vU, vU] [vI x, vI (nI (vY V s a b k))] (zP N O) (zrI (nI 1)) (zP N2 O) := fun {x} hx => by
      refine g_icmp_ne (n := 245) (t := 249) dL_choices_242 rfl (by decide) (fun q9 => absurd hx q9) (fun _ => ?_)
      refine g_iconst (n := 246) dL_choices_245 rfl k_ic_1 ?_
      refine g_goto (n := 0) (t := 250) dL_choices_246 (by decide) ?_
      refine g_istore8 (n := 252) dL_choices_250 rfl (by decide) rfl ?_
      refine g_iload (n := 254) dL_choices_252 rfl rfl ?_
      refine g_if_eq (n := 257) (t := 444) dL_choices_254 rfl (by decide) (fun q9 => absurd q9 (by decide)) (fun _ => ?_)
      refine g_iload (n := 259) dL_choices_257 rfl rfl ?_
      refine g_if_eq (n := 262) (t := 444) dL_choices_259 rfl (by decide) (fun _ => ?_) (fun q9 => absurd (by decide) q9)
      refine g_drop 10 (g_drop 11 (g_drop 12 (g_drop 13 ?_)))
      exact G
    by_cases o0 : V (69 + 5 * k) = 0
    · rw [if_pos o0] at y
      refine g_iload (n := 174) dL_choices_172 rfl rfl ?_
      refine g_dia_if_ne (t := 181) dL_choices_174 (by decide) dL_choices_177 dL_choices_178 (by decide) dL_choices_181 ?_
      refine g_iload (n := 184) dL_choices_182 rfl rfl ?_
      refine g_iload (n := 186) dL_choices_184 rfl rfl ?_
      refine g_dia_icmp_ne (t := 193) dL_choices_186 (by decide) dL_choices_189 dL_choices_190 (by decide) dL_choices_193 ?_
      refine g_icmp_ne (n := 197) (t := 249) dL_choices_194 rfl (by decide) (fun q9 => absurd eq1 q9) (fun _ => ?_)
      refine g_iload (n := 199) dL_choices_197 rfl rfl ?_
      refine g_if_eq (n := 202) (t := 216) dL_choices_199 rfl (by decide) (fun _ => ?_) (fun q9 => absurd (by decide) q9)
      refine g_iload (n := 218) dL_choices_216 rfl rfl ?_
      refine g_aload_n (n := 219) dL_choices_218 rfl rfl ?_
      refine g_iload (n := 221) dL_choices_219 rfl rfl ?_
      refine g_iconst (n := 222) dL_choices_221 rfl k_ic_2 ?_
      refine g_cKHv (c9 := 0) (n := 225) cx dL_choices_222 rfl kz_L_125 rfl (Or.inl (Nat.le_of_ble_eq_true rfl)) (Nat.le_of_ble_eq_true rfl) rfl rfl ?_ rfl
      refine g_if_ne (n := 228) (t := 232) dL_choices_225 rfl (by decide) (fun q9 => absurd o0 q9) (fun _ => ?_)
      refine g_iconst (n := 229) dL_choices_228 rfl k_ic_1 ?_
      refine g_goto (n := 0) (t := 242) dL_choices_229 (by decide) ?_
      exact K242 (congrArg nI y)
    · rw [if_neg o0] at y
      by_cases l0 : vLen V b k = 0
      · rw [if_pos l0] at y
        refine g_iload (n := 174) dL_choices_172 rfl rfl ?_
        refine g_dia_if_ne (t := 181) dL_choices_174 (by decide) dL_choices_177 dL_choices_178 (by decide) dL_choices_181 ?_
        refine g_iload (n := 184) dL_choices_182 rfl rfl ?_
        refine g_iload (n := 186) dL_choices_184 rfl rfl ?_
        refine g_dia_icmp_ne (t := 193) dL_choices_186 (by decide) dL_choices_189 dL_choices_190 (by decide) dL_choices_193 ?_
        refine g_icmp_ne (n := 197) (t := 249) dL_choices_194 rfl (by decide) (fun q9 => absurd eq1 q9) (fun _ => ?_)
        refine g_iload (n := 199) dL_choices_197 rfl rfl ?_
        refine g_if_eq (n := 202) (t := 216) dL_choices_199 rfl (by decide) (fun _ => ?_) (fun q9 => absurd (by decide) q9)
        refine g_iload (n := 218) dL_choices_216 rfl rfl ?_
        refine g_aload_n (n := 219) dL_choices_218 rfl rfl ?_
        refine g_iload (n := 221) dL_choices_219 rfl rfl ?_
        refine g_iconst (n := 222) dL_choices_221 rfl k_ic_2 ?_
        refine g_cKHv (c9 := 0) (n := 225) cx dL_choices_222 rfl kz_L_125 rfl (Or.inl (Nat.le_of_ble_eq_true rfl)) (Nat.le_of_ble_eq_true rfl) rfl rfl ?_ rfl
        refine g_if_ne (n := 228) (t := 232) dL_choices_225 rfl (by decide) (fun _ => ?_) (fun q9 => absurd q9 o0)
        refine g_iload (n := 234) dL_choices_232 rfl rfl ?_
        refine g_if_ne (n := 237) (t := 241) dL_choices_234 rfl (by decide) (fun q9 => absurd l0 q9) (fun _ => ?_)
        refine g_iconst (n := 238) dL_choices_237 rfl k_ic_2 ?_
        refine g_goto (n := 0) (t := 242) dL_choices_238 (by decide) ?_
        exact K242 (congrArg nI y)
      · rw [if_neg l0] at y
        refine g_iload (n := 174) dL_choices_172 rfl rfl ?_
        refine g_dia_if_ne (t := 181) dL_choices_174 (by decide) dL_choices_177 dL_choices_178 (by decide) dL_choices_181 ?_
        refine g_iload (n := 184) dL_choices_182 rfl rfl ?_
        refine g_iload (n := 186) dL_choices_184 rfl rfl ?_
        refine g_dia_icmp_ne (t := 193) dL_choices_186 (by decide) dL_choices_189 dL_choices_190 (by decide) dL_choices_193 ?_
        refine g_icmp_ne (n := 197) (t := 249) dL_choices_194 rfl (by decide) (fun q9 => absurd eq1 q9) (fun _ => ?_)
        refine g_iload (n := 199) dL_choices_197 rfl rfl ?_
        refine g_if_eq (n := 202) (t := 216) dL_choices_199 rfl (by decide) (fun _ => ?_) (fun q9 => absurd (by decide) q9)
        refine g_iload (n := 218) dL_choices_216 rfl rfl ?_
        refine g_aload_n (n := 219) dL_choices_218 rfl rfl ?_
        refine g_iload (n := 221) dL_choices_219 rfl rfl ?_
        refine g_iconst (n := 222) dL_choices_221 rfl k_ic_2 ?_
        refine g_cKHv (c9 := 0) (n := 225) cx dL_choices_222 rfl kz_L_125 rfl (Or.inl (Nat.le_of_ble_eq_true rfl)) (Nat.le_of_ble_eq_true rfl) rfl rfl ?_ rfl
        refine g_if_ne (n := 228) (t := 232) dL_choices_225 rfl (by decide) (fun _ => ?_) (fun q9 => absurd q9 o0)
        refine g_iload (n := 234) dL_choices_232 rfl rfl ?_
        refine g_if_ne (n := 237) (t := 241) dL_choices_234 rfl (by decide) (fun _ => ?_) (fun q9 => absurd q9 l0)
        refine g_iconst (n := 242) dL_choices_241 rfl k_ic_3 ?_
        exact K242 (congrArg nI y)
theorem cho_cnt2 (Z : zS t N s h V) (ha : a < 8) (hb : b < 4) (hk : k < s) (hlf : (lf = 1 ∧ V 0 = nI 0) ∨ (lf = 0 ∧ V 0 = nI 1)) (K : ∀ N1, zS t N1 s h V → zR w mL_choices (d + 12) 0 t s h V O 444 [vR 9 0, vI (nI a), vI (nI b), vI (nI s), vI (vCho (vDi V) V s a b), vI (nI (cnt (fun k => decide (vY V s a b k = 0) || decide (vY V s a b k = 6)) (k + 1))), vI (nI (cnt (vCs V s a b) (k + 1))), vI (nI lf), vI (nI 1), vI (nI k), vU, vU, vU, vU, vU, vU, vU, vU] [] N1) :
    zR w mL_choices (d + 12) 0 t s h V O 135 [vR 9 0, vI (nI a), vI (nI b), vI (nI s), vI (vCho (vDi V) V s a b), vI (nI (cnt (fun k => decide (vY V s a b k = 0) || decide (vY V s a b k = 6)) k)), vI (nI (cnt (vCs V s a b) k)), vI (nI lf), vI (nI 1), vI (nI k), vI (kFar V a (vTo V k)), vI (vLen V b k), vI (nI (vY V s a b k)), vI (nI (bN (vCs V s a b k))), vU, vU, vU, vU] [] N := by
  obtain ⟨N2, Z2, G⟩ := cho_mid (w := w) (d := d) (O := O) Z ha hb hk hlf K
  refine ⟨N2, Z2, ?_⟩
  have y6 := vY_6 (V := V) (s := s) (t := a) (h := b) (e := k)
  have c1 : bN (decide (¬ nI (bN (vCs V s a b k)) = 0)) = bN (vCs V s a b k) := by
    cases vCs V s a b k <;> rfl
  have c2 : (cnt (vCs V s a b) k) + bN (vCs V s a b k) = (cnt (vCs V s a b) (k + 1)) := rfl
  have b2 : ∀ n, bN (decide (vY V s a b k = 0) || decide (vY V s a b k = 6)) = n → (cnt (fun k => decide (vY V s a b k = 0) || decide (vY V s a b k = 6)) k) + n = (cnt (fun k => decide (vY V s a b k = 0) || decide (vY V s a b k = 6)) (k + 1)) := fun n hn => by
    rw [← hn]
    rfl
  have K169 : ∀ n, bN (decide (vY V s a b k = 0) || decide (vY V s a b k = 6)) = n → zG w mL_choices (d + 12) 0 169 [vR 9 0, vI (nI a), vI (nI b), vI (nI s), vI (vCho (vDi V) V s a b), vI (nI (cnt (fun k => decide (vY V s a b k = 0) || decide (vY V s a b k = 6)) k)), vI (nI (cnt (vCs V s a b) (k + 1))), vI (nI lf), vI (nI 1), vI (nI k), vI (kFar V a (vTo V k)), vI (vLen V b k), vI (nI (vY V s a b k)), vI (nI (bN (vCs V s a b k))), vU, vU, vU, vU] [vI (nI n), vI (nI (cnt (fun k => decide (vY V s a b k = 0) || decide (vY V s a b k = 6)) k))] (zP N O) (zrI (nI 1)) (zP N2 O) := fun n hn => by
    refine g_iaddN (n := 170) dL_choices_169 rfl ?_
    rw [b2 n hn]
    refine g_istore5 (n := 172) dL_choices_170 rfl (by decide) rfl ?_
    exact G
  refine g_iload (n := 137) dL_choices_135 rfl rfl ?_
  refine g_iload (n := 139) dL_choices_137 rfl rfl ?_
  refine g_dia_if_eq (t := 146) dL_choices_139 (by decide) dL_choices_142 dL_choices_143 (by decide) dL_choices_146 ?_
  rw [c1]
  refine g_iaddN (n := 148) dL_choices_147 rfl ?_
  rw [c2]
  by_cases y0 : vY V s a b k = 0
  · refine g_istore6 (n := 150) dL_choices_148 rfl (by decide) rfl ?_
    refine g_iload (n := 152) dL_choices_150 rfl rfl ?_
    refine g_iload (n := 154) dL_choices_152 rfl rfl ?_
    refine g_if_eq (n := 157) (t := 164) dL_choices_154 rfl (by decide) (fun _ => ?_) (fun q9 => absurd (by rw [y0]; rfl) q9)
    refine g_iconst (n := 165) dL_choices_164 rfl k_ic_1 ?_
    refine g_goto (n := 0) (t := 169) dL_choices_165 (by decide) ?_
    exact K169 1 (by rw [y0]; rfl)
  · by_cases yy : vY V s a b k = 6
    · refine g_istore6 (n := 150) dL_choices_148 rfl (by decide) rfl ?_
      refine g_iload (n := 152) dL_choices_150 rfl rfl ?_
      refine g_iload (n := 154) dL_choices_152 rfl rfl ?_
      refine g_if_eq (n := 157) (t := 164) dL_choices_154 rfl (by decide) (fun q9 => absurd q9 (fun q => absurd ((nI_eq (b := 0) (by omega) (by decide)).mp q) y0)) (fun _ => ?_)
      refine g_iload (n := 159) dL_choices_157 rfl rfl ?_
      refine g_bipush (n := 161) dL_choices_159 rfl k_bp_6 ?_
      refine g_icmp_ne (n := 164) (t := 168) dL_choices_161 rfl (by decide) (fun q9 => absurd (congrArg nI yy) q9) (fun _ => ?_)
      refine g_iconst (n := 165) dL_choices_164 rfl k_ic_1 ?_
      refine g_goto (n := 0) (t := 169) dL_choices_165 (by decide) ?_
      exact K169 1 (by rw [yy]; rfl)
    · refine g_istore6 (n := 150) dL_choices_148 rfl (by decide) rfl ?_
      refine g_iload (n := 152) dL_choices_150 rfl rfl ?_
      refine g_iload (n := 154) dL_choices_152 rfl rfl ?_
      refine g_if_eq (n := 157) (t := 164) dL_choices_154 rfl (by decide) (fun q9 => absurd q9 (fun q => absurd ((nI_eq (b := 0) (by omega) (by decide)).mp q) y0)) (fun _ => ?_)
      refine g_iload (n := 159) dL_choices_157 rfl rfl ?_
      refine g_bipush (n := 161) dL_choices_159 rfl k_bp_6 ?_
      refine g_icmp_ne (n := 164) (t := 168) dL_choices_161 rfl (by decide) (fun _ => ?_) (fun q9 => absurd q9 (fun q => absurd ((nI_eq (b := 6) (by omega) (by decide)).mp q) yy))
      refine g_iconst (n := 169) dL_choices_168 rfl k_ic_0 ?_
      exact K169 0 (by rw [decide_eq_false y0, decide_eq_false yy]; rfl)
theorem cho_body (Z : zS t N s h V) (ha : a < 8) (hb : b < 4) (hk : k < s) (hlf : (lf = 1 ∧ V 0 = nI 0) ∨ (lf = 0 ∧ V 0 = nI 1)) (K : ∀ N1, zS t N1 s h V → zR w mL_choices (d + 12) 0 t s h V O 57 [vR 9 0, vI (nI a), vI (nI b), vI (nI s), vI (vCho (vDi V) V s a b), vI (nI (cnt (fun k => decide (vY V s a b k = 0) || decide (vY V s a b k = 6)) (k + 1))), vI (nI (cnt (vCs V s a b) (k + 1))), vI (nI lf), vI (nI 1), vI (nI (k + 1)), vU, vU, vU, vU, vU, vU, vU, vU] [] N1) :
    zR w mL_choices (d + 12) 0 t s h V O 57 [vR 9 0, vI (nI a), vI (nI b), vI (nI s), vI (vCho (vDi V) V s a b), vI (nI (cnt (fun k => decide (vY V s a b k = 0) || decide (vY V s a b k = 6)) k)), vI (nI (cnt (vCs V s a b) k)), vI (nI lf), vI (nI 1), vI (nI k), vU, vU, vU, vU, vU, vU, vU, vU] [] N := by
  have W := Z.W
  have h8 := Z.h8
  have ca := q_town (w := w) (d := d + 1) (O := O) Z hk
  obtain ⟨N1, Z1, cb⟩ := q_dist0 (w := w) (d := d + 1) (O := O) Z ha (vTo_lt W Z.ss h8 hk)
  have cc := q_neigh (w := w) (d := d + 1) (O := O) Z1 hk
  have cl := q_len (w := w) (d := d + 1) (O := O) Z1 hk hb
  obtain ⟨N2, Z2, cw⟩ := q_why (w := w) (d := d + 1) (O := O) Z1 ha hb hk
  have co := q_open (w := w) (d := d + 1) (O := O) Z2 hk
  obtain ⟨N3, Z3, G⟩ := cho_cnt2 (w := w) (d := d) (O := O) Z2 ha hb hk hlf (fun N1 Z1 => by
    obtain ⟨N4, Z4, G4⟩ := K N1 Z1
    refine ⟨N4, Z4, ?_⟩
    refine g_iinc9 (n := 447) dL_choices_444 rfl (by decide) rfl (z_inc1 _) ?_
    refine g_goto (n := 0) (t := 57) dL_choices_447 (by decide) ?_
    exact G4)
  refine ⟨N3, Z3, ?_⟩
  obtain ⟨l, f, hl, hf, el, ef, ek⟩ := ex_vals Z ha hb hk
  have K133 : ∀ n, bN (vCs V s a b k) = n → zG w mL_choices (d + 12) 0 133 [vR 9 0, vI (nI a), vI (nI b), vI (nI s), vI (vCho (vDi V) V s a b), vI (nI (cnt (fun k => decide (vY V s a b k = 0) || decide (vY V s a b k = 6)) k)), vI (nI (cnt (vCs V s a b) k)), vI (nI lf), vI (nI 1), vI (nI k), vI (kFar V a (vTo V k)), vI (vLen V b k), vI (nI (vY V s a b k)), vU, vU, vU, vU, vU] [vI (nI n)] (zP N2 O) (zrI (nI 1)) (zP N3 O) := fun n hn => by
    rw [← hn]
    refine g_istore13 (n := 135) dL_choices_133 rfl (by decide) rfl ?_
    exact G
  have P115 : vCs V s a b k = true → V (69 + 5 * k) = nI 1 ∧ ¬ vLen V b k ≤ 0 ∧ ¬ kFar V a (vTo V k) < 0 := fun hc => by
    obtain ⟨x1, x2, x3⟩ := (cs_of W Z.ss h8 ha hk).mp hc
    rw [ef] at x3
    have f1 : f < 1000000 := (nI_ltI (b := 1000000) (by omega) (by omega)).mp x3
    rw [ek, if_pos f1]
    exact ⟨x1, Int32.not_le.mpr x2, nI_pos (by omega)⟩
  have Q115 : V (69 + 5 * k) = nI 1 → ¬ vLen V b k ≤ 0 → ¬ kFar V a (vTo V k) < 0 → vCs V s a b k = true := fun x1 x2 x3 => by
    refine (cs_of W Z.ss h8 ha hk).mpr ⟨x1, Int32.not_le.mp x2, ?_⟩
    rw [ek] at x3
    by_cases f1 : f < 1000000
    · rw [ef]
      exact (nI_ltI (b := 1000000) (by omega) (by omega)).mpr f1
    · rw [if_neg f1] at x3
      exact absurd (by decide) x3
  by_cases x1 : V (69 + 5 * k) = nI 1
  · by_cases x2 : vLen V b k ≤ 0
    · refine g_iload (n := 59) dL_choices_57 rfl rfl ?_
      refine g_iload_n (n := 60) dL_choices_59 rfl rfl ?_
      refine g_icmp_ge (n := 63) (t := 450) dL_choices_60 rfl (by decide) (fun q9 => absurd q9 (nle hk (by omega))) (fun _ => ?_)
      refine g_iload (n := 65) dL_choices_63 rfl rfl ?_
      refine g_if_eq (n := 68) (t := 450) dL_choices_65 rfl (by decide) (fun q9 => absurd q9 (by decide)) (fun _ => ?_)
      refine g_aload_n (n := 69) dL_choices_68 rfl rfl ?_
      refine g_iload_n (n := 70) dL_choices_69 rfl rfl ?_
      refine g_aload_n (n := 71) dL_choices_70 rfl rfl ?_
      refine g_iload (n := 73) dL_choices_71 rfl rfl ?_
      refine g_iconst (n := 74) dL_choices_73 rfl k_ic_0 ?_
      refine g_cKHv (c9 := 0) (n := 77) ca dL_choices_74 rfl kz_L_125 rfl (Or.inl (Nat.le_of_ble_eq_true rfl)) (Nat.le_of_ble_eq_true rfl) rfl rfl ?_ rfl
      refine g_iconst (n := 78) dL_choices_77 rfl k_ic_0 ?_
      refine g_cKHv (c9 := 0) (n := 81) cb dL_choices_78 rfl kz_L_112 rfl (Or.inl (Nat.le_of_ble_eq_true rfl)) (Nat.le_of_ble_eq_true rfl) rfl rfl ?_ rfl
      refine g_istore10 (n := 83) dL_choices_81 rfl (by decide) rfl ?_
      refine g_aload_n (n := 84) dL_choices_83 rfl rfl ?_
      refine g_aload_n (n := 85) dL_choices_84 rfl rfl ?_
      refine g_iload (n := 87) dL_choices_85 rfl rfl ?_
      refine g_iconst (n := 88) dL_choices_87 rfl k_ic_1 ?_
      refine g_cKHv (c9 := 0) (n := 91) cc dL_choices_88 rfl kz_L_125 rfl (Or.inl (Nat.le_of_ble_eq_true rfl)) (Nat.le_of_ble_eq_true rfl) rfl rfl ?_ rfl
      refine g_iload_n (n := 92) dL_choices_91 rfl rfl ?_
      refine g_cKHv (c9 := 0) (n := 95) cl dL_choices_92 rfl kz_L_127 rfl (Or.inl (Nat.le_of_ble_eq_true rfl)) (Nat.le_of_ble_eq_true rfl) rfl rfl ?_ rfl
      refine g_istore11 (n := 97) dL_choices_95 rfl (by decide) rfl ?_
      refine g_aload_n (n := 98) dL_choices_97 rfl rfl ?_
      refine g_iload_n (n := 99) dL_choices_98 rfl rfl ?_
      refine g_iload_n (n := 100) dL_choices_99 rfl rfl ?_
      refine g_iload (n := 102) dL_choices_100 rfl rfl ?_
      refine g_cKHv (c9 := 0) (n := 105) cw dL_choices_102 rfl kz_L_129 rfl (Or.inl (Nat.le_of_ble_eq_true rfl)) (Nat.le_of_ble_eq_true rfl) rfl rfl ?_ rfl
      refine g_istore12 (n := 107) dL_choices_105 rfl (by decide) rfl ?_
      refine g_aload_n (n := 108) dL_choices_107 rfl rfl ?_
      refine g_iload (n := 110) dL_choices_108 rfl rfl ?_
      refine g_iconst (n := 111) dL_choices_110 rfl k_ic_2 ?_
      refine g_cKHv (c9 := 0) (n := 114) co dL_choices_111 rfl kz_L_125 rfl (Or.inl (Nat.le_of_ble_eq_true rfl)) (Nat.le_of_ble_eq_true rfl) rfl rfl ?_ rfl
      refine g_iconst (n := 115) dL_choices_114 rfl k_ic_1 ?_
      refine g_icmp_ne (n := 118) (t := 132) dL_choices_115 rfl (by decide) (fun q9 => absurd x1 q9) (fun _ => ?_)
      refine g_iload (n := 120) dL_choices_118 rfl rfl ?_
      refine g_if_le (n := 123) (t := 132) dL_choices_120 rfl (by decide) (fun _ => ?_) (fun q9 => absurd x2 q9)
      refine g_iconst (n := 133) dL_choices_132 rfl k_ic_0 ?_
      exact K133 0 (by rw [zok_f (fun q => (P115 q).2.1 x2)]; rfl)
    · by_cases x3 : kFar V a (vTo V k) < 0
      · refine g_iload (n := 59) dL_choices_57 rfl rfl ?_
        refine g_iload_n (n := 60) dL_choices_59 rfl rfl ?_
        refine g_icmp_ge (n := 63) (t := 450) dL_choices_60 rfl (by decide) (fun q9 => absurd q9 (nle hk (by omega))) (fun _ => ?_)
        refine g_iload (n := 65) dL_choices_63 rfl rfl ?_
        refine g_if_eq (n := 68) (t := 450) dL_choices_65 rfl (by decide) (fun q9 => absurd q9 (by decide)) (fun _ => ?_)
        refine g_aload_n (n := 69) dL_choices_68 rfl rfl ?_
        refine g_iload_n (n := 70) dL_choices_69 rfl rfl ?_
        refine g_aload_n (n := 71) dL_choices_70 rfl rfl ?_
        refine g_iload (n := 73) dL_choices_71 rfl rfl ?_
        refine g_iconst (n := 74) dL_choices_73 rfl k_ic_0 ?_
        refine g_cKHv (c9 := 0) (n := 77) ca dL_choices_74 rfl kz_L_125 rfl (Or.inl (Nat.le_of_ble_eq_true rfl)) (Nat.le_of_ble_eq_true rfl) rfl rfl ?_ rfl
        refine g_iconst (n := 78) dL_choices_77 rfl k_ic_0 ?_
        refine g_cKHv (c9 := 0) (n := 81) cb dL_choices_78 rfl kz_L_112 rfl (Or.inl (Nat.le_of_ble_eq_true rfl)) (Nat.le_of_ble_eq_true rfl) rfl rfl ?_ rfl
        refine g_istore10 (n := 83) dL_choices_81 rfl (by decide) rfl ?_
        refine g_aload_n (n := 84) dL_choices_83 rfl rfl ?_
        refine g_aload_n (n := 85) dL_choices_84 rfl rfl ?_
        refine g_iload (n := 87) dL_choices_85 rfl rfl ?_
        refine g_iconst (n := 88) dL_choices_87 rfl k_ic_1 ?_
        refine g_cKHv (c9 := 0) (n := 91) cc dL_choices_88 rfl kz_L_125 rfl (Or.inl (Nat.le_of_ble_eq_true rfl)) (Nat.le_of_ble_eq_true rfl) rfl rfl ?_ rfl
        refine g_iload_n (n := 92) dL_choices_91 rfl rfl ?_
        refine g_cKHv (c9 := 0) (n := 95) cl dL_choices_92 rfl kz_L_127 rfl (Or.inl (Nat.le_of_ble_eq_true rfl)) (Nat.le_of_ble_eq_true rfl) rfl rfl ?_ rfl
        refine g_istore11 (n := 97) dL_choices_95 rfl (by decide) rfl ?_
        refine g_aload_n (n := 98) dL_choices_97 rfl rfl ?_
        refine g_iload_n (n := 99) dL_choices_98 rfl rfl ?_
        refine g_iload_n (n := 100) dL_choices_99 rfl rfl ?_
        refine g_iload (n := 102) dL_choices_100 rfl rfl ?_
        refine g_cKHv (c9 := 0) (n := 105) cw dL_choices_102 rfl kz_L_129 rfl (Or.inl (Nat.le_of_ble_eq_true rfl)) (Nat.le_of_ble_eq_true rfl) rfl rfl ?_ rfl
        refine g_istore12 (n := 107) dL_choices_105 rfl (by decide) rfl ?_
        refine g_aload_n (n := 108) dL_choices_107 rfl rfl ?_
        refine g_iload (n := 110) dL_choices_108 rfl rfl ?_
        refine g_iconst (n := 111) dL_choices_110 rfl k_ic_2 ?_
        refine g_cKHv (c9 := 0) (n := 114) co dL_choices_111 rfl kz_L_125 rfl (Or.inl (Nat.le_of_ble_eq_true rfl)) (Nat.le_of_ble_eq_true rfl) rfl rfl ?_ rfl
        refine g_iconst (n := 115) dL_choices_114 rfl k_ic_1 ?_
        refine g_icmp_ne (n := 118) (t := 132) dL_choices_115 rfl (by decide) (fun q9 => absurd x1 q9) (fun _ => ?_)
        refine g_iload (n := 120) dL_choices_118 rfl rfl ?_
        refine g_if_le (n := 123) (t := 132) dL_choices_120 rfl (by decide) (fun q9 => absurd q9 x2) (fun _ => ?_)
        refine g_iload (n := 125) dL_choices_123 rfl rfl ?_
        refine g_if_lt (n := 128) (t := 132) dL_choices_125 rfl (by decide) (fun _ => ?_) (fun q9 => absurd x3 q9)
        refine g_iconst (n := 133) dL_choices_132 rfl k_ic_0 ?_
        exact K133 0 (by rw [zok_f (fun q => (P115 q).2.2 x3)]; rfl)
      · refine g_iload (n := 59) dL_choices_57 rfl rfl ?_
        refine g_iload_n (n := 60) dL_choices_59 rfl rfl ?_
        refine g_icmp_ge (n := 63) (t := 450) dL_choices_60 rfl (by decide) (fun q9 => absurd q9 (nle hk (by omega))) (fun _ => ?_)
        refine g_iload (n := 65) dL_choices_63 rfl rfl ?_
        refine g_if_eq (n := 68) (t := 450) dL_choices_65 rfl (by decide) (fun q9 => absurd q9 (by decide)) (fun _ => ?_)
        refine g_aload_n (n := 69) dL_choices_68 rfl rfl ?_
        refine g_iload_n (n := 70) dL_choices_69 rfl rfl ?_
        refine g_aload_n (n := 71) dL_choices_70 rfl rfl ?_
        refine g_iload (n := 73) dL_choices_71 rfl rfl ?_
        refine g_iconst (n := 74) dL_choices_73 rfl k_ic_0 ?_
        refine g_cKHv (c9 := 0) (n := 77) ca dL_choices_74 rfl kz_L_125 rfl (Or.inl (Nat.le_of_ble_eq_true rfl)) (Nat.le_of_ble_eq_true rfl) rfl rfl ?_ rfl
        refine g_iconst (n := 78) dL_choices_77 rfl k_ic_0 ?_
        refine g_cKHv (c9 := 0) (n := 81) cb dL_choices_78 rfl kz_L_112 rfl (Or.inl (Nat.le_of_ble_eq_true rfl)) (Nat.le_of_ble_eq_true rfl) rfl rfl ?_ rfl
        refine g_istore10 (n := 83) dL_choices_81 rfl (by decide) rfl ?_
        refine g_aload_n (n := 84) dL_choices_83 rfl rfl ?_
        refine g_aload_n (n := 85) dL_choices_84 rfl rfl ?_
        refine g_iload (n := 87) dL_choices_85 rfl rfl ?_
        refine g_iconst (n := 88) dL_choices_87 rfl k_ic_1 ?_
        refine g_cKHv (c9 := 0) (n := 91) cc dL_choices_88 rfl kz_L_125 rfl (Or.inl (Nat.le_of_ble_eq_true rfl)) (Nat.le_of_ble_eq_true rfl) rfl rfl ?_ rfl
        refine g_iload_n (n := 92) dL_choices_91 rfl rfl ?_
        refine g_cKHv (c9 := 0) (n := 95) cl dL_choices_92 rfl kz_L_127 rfl (Or.inl (Nat.le_of_ble_eq_true rfl)) (Nat.le_of_ble_eq_true rfl) rfl rfl ?_ rfl
        refine g_istore11 (n := 97) dL_choices_95 rfl (by decide) rfl ?_
        refine g_aload_n (n := 98) dL_choices_97 rfl rfl ?_
        refine g_iload_n (n := 99) dL_choices_98 rfl rfl ?_
        refine g_iload_n (n := 100) dL_choices_99 rfl rfl ?_
        refine g_iload (n := 102) dL_choices_100 rfl rfl ?_
        refine g_cKHv (c9 := 0) (n := 105) cw dL_choices_102 rfl kz_L_129 rfl (Or.inl (Nat.le_of_ble_eq_true rfl)) (Nat.le_of_ble_eq_true rfl) rfl rfl ?_ rfl
        refine g_istore12 (n := 107) dL_choices_105 rfl (by decide) rfl ?_
        refine g_aload_n (n := 108) dL_choices_107 rfl rfl ?_
        refine g_iload (n := 110) dL_choices_108 rfl rfl ?_
        refine g_iconst (n := 111) dL_choices_110 rfl k_ic_2 ?_
        refine g_cKHv (c9 := 0) (n := 114) co dL_choices_111 rfl kz_L_125 rfl (Or.inl (Nat.le_of_ble_eq_true rfl)) (Nat.le_of_ble_eq_true rfl) rfl rfl ?_ rfl
        refine g_iconst (n := 115) dL_choices_114 rfl k_ic_1 ?_
        refine g_icmp_ne (n := 118) (t := 132) dL_choices_115 rfl (by decide) (fun q9 => absurd x1 q9) (fun _ => ?_)
        refine g_iload (n := 120) dL_choices_118 rfl rfl ?_
        refine g_if_le (n := 123) (t := 132) dL_choices_120 rfl (by decide) (fun q9 => absurd q9 x2) (fun _ => ?_)
        refine g_iload (n := 125) dL_choices_123 rfl rfl ?_
        refine g_if_lt (n := 128) (t := 132) dL_choices_125 rfl (by decide) (fun q9 => absurd q9 x3) (fun _ => ?_)
        refine g_iconst (n := 129) dL_choices_128 rfl k_ic_1 ?_
        refine g_goto (n := 0) (t := 133) dL_choices_129 (by decide) ?_
        exact K133 1 (by rw [Q115 x1 x2 x3]; rfl)
  · refine g_iload (n := 59) dL_choices_57 rfl rfl ?_
    refine g_iload_n (n := 60) dL_choices_59 rfl rfl ?_
    refine g_icmp_ge (n := 63) (t := 450) dL_choices_60 rfl (by decide) (fun q9 => absurd q9 (nle hk (by omega))) (fun _ => ?_)
    refine g_iload (n := 65) dL_choices_63 rfl rfl ?_
    refine g_if_eq (n := 68) (t := 450) dL_choices_65 rfl (by decide) (fun q9 => absurd q9 (by decide)) (fun _ => ?_)
    refine g_aload_n (n := 69) dL_choices_68 rfl rfl ?_
    refine g_iload_n (n := 70) dL_choices_69 rfl rfl ?_
    refine g_aload_n (n := 71) dL_choices_70 rfl rfl ?_
    refine g_iload (n := 73) dL_choices_71 rfl rfl ?_
    refine g_iconst (n := 74) dL_choices_73 rfl k_ic_0 ?_
    refine g_cKHv (c9 := 0) (n := 77) ca dL_choices_74 rfl kz_L_125 rfl (Or.inl (Nat.le_of_ble_eq_true rfl)) (Nat.le_of_ble_eq_true rfl) rfl rfl ?_ rfl
    refine g_iconst (n := 78) dL_choices_77 rfl k_ic_0 ?_
    refine g_cKHv (c9 := 0) (n := 81) cb dL_choices_78 rfl kz_L_112 rfl (Or.inl (Nat.le_of_ble_eq_true rfl)) (Nat.le_of_ble_eq_true rfl) rfl rfl ?_ rfl
    refine g_istore10 (n := 83) dL_choices_81 rfl (by decide) rfl ?_
    refine g_aload_n (n := 84) dL_choices_83 rfl rfl ?_
    refine g_aload_n (n := 85) dL_choices_84 rfl rfl ?_
    refine g_iload (n := 87) dL_choices_85 rfl rfl ?_
    refine g_iconst (n := 88) dL_choices_87 rfl k_ic_1 ?_
    refine g_cKHv (c9 := 0) (n := 91) cc dL_choices_88 rfl kz_L_125 rfl (Or.inl (Nat.le_of_ble_eq_true rfl)) (Nat.le_of_ble_eq_true rfl) rfl rfl ?_ rfl
    refine g_iload_n (n := 92) dL_choices_91 rfl rfl ?_
    refine g_cKHv (c9 := 0) (n := 95) cl dL_choices_92 rfl kz_L_127 rfl (Or.inl (Nat.le_of_ble_eq_true rfl)) (Nat.le_of_ble_eq_true rfl) rfl rfl ?_ rfl
    refine g_istore11 (n := 97) dL_choices_95 rfl (by decide) rfl ?_
    refine g_aload_n (n := 98) dL_choices_97 rfl rfl ?_
    refine g_iload_n (n := 99) dL_choices_98 rfl rfl ?_
    refine g_iload_n (n := 100) dL_choices_99 rfl rfl ?_
    refine g_iload (n := 102) dL_choices_100 rfl rfl ?_
    refine g_cKHv (c9 := 0) (n := 105) cw dL_choices_102 rfl kz_L_129 rfl (Or.inl (Nat.le_of_ble_eq_true rfl)) (Nat.le_of_ble_eq_true rfl) rfl rfl ?_ rfl
    refine g_istore12 (n := 107) dL_choices_105 rfl (by decide) rfl ?_
    refine g_aload_n (n := 108) dL_choices_107 rfl rfl ?_
    refine g_iload (n := 110) dL_choices_108 rfl rfl ?_
    refine g_iconst (n := 111) dL_choices_110 rfl k_ic_2 ?_
    refine g_cKHv (c9 := 0) (n := 114) co dL_choices_111 rfl kz_L_125 rfl (Or.inl (Nat.le_of_ble_eq_true rfl)) (Nat.le_of_ble_eq_true rfl) rfl rfl ?_ rfl
    refine g_iconst (n := 115) dL_choices_114 rfl k_ic_1 ?_
    refine g_icmp_ne (n := 118) (t := 132) dL_choices_115 rfl (by decide) (fun _ => ?_) (fun q9 => absurd q9 x1)
    refine g_iconst (n := 133) dL_choices_132 rfl k_ic_0 ?_
    exact K133 0 (by rw [zok_f (fun q => x1 (P115 q).1)]; rfl)
theorem cho_end (Z : zS t N s h V) (ha : a < 8) (hb : b < 4) : zR w mL_choices (d + 12) 0 t s h V O 57 [vR 9 0, vI (nI a), vI (nI b), vI (nI s), vI (vCho (vDi V) V s a b), vI (nI (cnt (fun k => decide (vY V s a b k = 0) || decide (vY V s a b k = 6)) s)), vI (nI (cnt (vCs V s a b) s)), vI (nI lf), vI (nI 1), vI (nI s), vU, vU, vU, vU, vU, vU, vU, vU] [] N := by
  have W := Z.W
  have h8 := Z.h8
  obtain ⟨N1, Z1, c5⟩ := q_choice (w := w) (d := d + 1) (O := O) Z ha hb (show 5 < 6 by decide)
  obtain ⟨N2, Z2, c1⟩ := q_choice (w := w) (d := d + 1) (O := O) Z1 ha hb (show 1 < 6 by decide)
  obtain ⟨N3, Z3, c2⟩ := q_choice (w := w) (d := d + 1) (O := O) Z2 ha hb (show 2 < 6 by decide)
  obtain ⟨N4, Z4, c3⟩ := q_choice (w := w) (d := d + 1) (O := O) Z3 ha hb (show 3 < 6 by decide)
  rw [cnt_best W Z.ss h8 ha hb] at c2
  rw [cnt_could W Z.ss h8 ha hb] at c3
  have cc := cho_cnt W Z.P Z.ss h8 ha hb
  have le : (cnt (vCs V s a b) s) ≤ s := cnt_le _ _
  have e5 : vCh V s a b 5 = if vCho (vDi V) V s a b < 0 then -1 else vNt (vDi V) V a (vTo V (vCho (vDi V) V s a b).toNatClampNeg) := rfl
  have e1 : vCh V s a b 1 = vDe (vDi V) V s a b := rfl
  rcases vCho_in2 W Z.ss h8 ha hb with x | ⟨e, he, x⟩
  · have z0 := cc.mp x
    have e1' : vCh V s a b 1 = -1 := by
      rw [e1]
      unfold vDe
      rw [x, if_pos (by decide)]
    have e5' : vCh V s a b 5 = -1 := by rw [e5, x, if_pos (by decide)]
    rw [e1'] at c1
    rw [e5'] at c5
    refine ⟨N4, Z4, ?_⟩
    rw [x, z0]
    refine g_iload (n := 59) dL_choices_57 rfl rfl ?_
    refine g_iload_n (n := 60) dL_choices_59 rfl rfl ?_
    refine g_icmp_ge (n := 63) (t := 450) dL_choices_60 rfl (by decide) (fun _ => ?_) (fun q9 => absurd (nI_le (by omega) (by omega)) q9)
    refine g_aload_n (n := 451) dL_choices_450 rfl rfl ?_
    refine g_iload_n (n := 452) dL_choices_451 rfl rfl ?_
    refine g_iload_n (n := 453) dL_choices_452 rfl rfl ?_
    refine g_iconst (n := 454) dL_choices_453 rfl k_ic_5 ?_
    refine g_cKHv (c9 := 0) (n := 457) c5 dL_choices_454 rfl kz_L_119 rfl (Or.inl (Nat.le_of_ble_eq_true rfl)) (Nat.le_of_ble_eq_true rfl) rfl rfl ?_ rfl
    refine g_istore9 (n := 459) dL_choices_457 rfl (by decide) rfl ?_
    refine g_aload_n (n := 460) dL_choices_459 rfl rfl ?_
    refine g_iload_n (n := 461) dL_choices_460 rfl rfl ?_
    refine g_iload_n (n := 462) dL_choices_461 rfl rfl ?_
    refine g_iconst (n := 463) dL_choices_462 rfl k_ic_1 ?_
    refine g_cKHv (c9 := 0) (n := 466) c1 dL_choices_463 rfl kz_L_119 rfl (Or.inl (Nat.le_of_ble_eq_true rfl)) (Nat.le_of_ble_eq_true rfl) rfl rfl ?_ rfl
    refine g_istore10 (n := 468) dL_choices_466 rfl (by decide) rfl ?_
    refine g_iload (n := 470) dL_choices_468 rfl rfl ?_
    refine g_if_eq (n := 473) (t := 587) dL_choices_470 rfl (by decide) (fun q9 => absurd q9 (by decide)) (fun _ => ?_)
    refine g_iload (n := 475) dL_choices_473 rfl rfl ?_
    refine g_aload_n (n := 476) dL_choices_475 rfl rfl ?_
    refine g_iload_n (n := 477) dL_choices_476 rfl rfl ?_
    refine g_iload_n (n := 478) dL_choices_477 rfl rfl ?_
    refine g_iconst (n := 479) dL_choices_478 rfl k_ic_2 ?_
    refine g_cKHv (c9 := 0) (n := 482) c2 dL_choices_479 rfl kz_L_119 rfl (Or.inl (Nat.le_of_ble_eq_true rfl)) (Nat.le_of_ble_eq_true rfl) rfl rfl ?_ rfl
    refine g_icmp_ne (n := 485) (t := 587) dL_choices_482 rfl (by decide) (fun q9 => absurd rfl q9) (fun _ => ?_)
    refine g_iload (n := 487) dL_choices_485 rfl rfl ?_
    refine g_aload_n (n := 488) dL_choices_487 rfl rfl ?_
    refine g_iload_n (n := 489) dL_choices_488 rfl rfl ?_
    refine g_iload_n (n := 490) dL_choices_489 rfl rfl ?_
    refine g_iconst (n := 491) dL_choices_490 rfl k_ic_3 ?_
    refine g_cKHv (c9 := 0) (n := 494) c3 dL_choices_491 rfl kz_L_119 rfl (Or.inl (Nat.le_of_ble_eq_true rfl)) (Nat.le_of_ble_eq_true rfl) rfl rfl ?_ rfl
    refine g_icmp_ne (n := 497) (t := 587) dL_choices_494 rfl (by decide) (fun q9 => absurd (congrArg nI z0.symm) q9) (fun _ => ?_)
    refine g_iload (n := 499) dL_choices_497 rfl rfl ?_
    refine g_iconst (n := 500) dL_choices_499 rfl k_ic_m1 ?_
    refine g_dia_icmp_ne (t := 507) dL_choices_500 (by decide) dL_choices_503 dL_choices_504 (by decide) dL_choices_507 ?_
    refine g_iload (n := 510) dL_choices_508 rfl rfl ?_
    refine g_dia_if_ne (t := 517) dL_choices_510 (by decide) dL_choices_513 dL_choices_514 (by decide) dL_choices_517 ?_
    refine g_icmp_ne (n := 521) (t := 587) dL_choices_518 rfl (by decide) (fun q9 => absurd rfl q9) (fun _ => ?_)
    refine g_iload (n := 523) dL_choices_521 rfl rfl ?_
    refine g_if_ge (n := 526) (t := 541) dL_choices_523 rfl (by decide) (fun q9 => absurd q9 (by decide)) (fun _ => ?_)
    refine g_iload (n := 528) dL_choices_526 rfl rfl ?_
    refine g_iconst (n := 529) dL_choices_528 rfl k_ic_m1 ?_
    refine g_icmp_ne (n := 532) (t := 587) dL_choices_529 rfl (by decide) (fun q9 => absurd rfl q9) (fun _ => ?_)
    refine g_iload (n := 534) dL_choices_532 rfl rfl ?_
    refine g_iconst (n := 535) dL_choices_534 rfl k_ic_m1 ?_
    refine g_icmp_ne (n := 538) (t := 587) dL_choices_535 rfl (by decide) (fun q9 => absurd rfl q9) (fun _ => ?_)
    refine g_goto (n := 0) (t := 583) dL_choices_538 (by decide) ?_
    refine g_iconst (n := 584) dL_choices_583 rfl k_ic_1 ?_
    refine g_goto (n := 0) (t := 588) dL_choices_584 (by decide) ?_
    refine g_istore8 (n := 590) dL_choices_588 rfl (by decide) rfl ?_
    refine g_iload (n := 592) dL_choices_590 rfl rfl ?_
    refine g_if_eq (n := 595) (t := 637) dL_choices_592 rfl (by decide) (fun q9 => absurd q9 (by decide)) (fun _ => ?_)
    refine g_iload (n := 597) dL_choices_595 rfl rfl ?_
    refine g_if_lt (n := 600) (t := 633) dL_choices_597 rfl (by decide) (fun _ => ?_) (fun q9 => absurd (by decide) q9)
    refine g_iconst (n := 634) dL_choices_633 rfl k_ic_1 ?_
    refine g_goto (n := 0) (t := 638) dL_choices_634 (by decide) ?_
    exact g_ireturn dL_choices_638 rfl rfl rfl rfl
  · obtain ⟨d1, d2, d3⟩ := de_cho W Z.ss h8 ha hb he x
    have hg := vTo_lt W Z.ss h8 he
    have n1 : ¬ nI e = -1 := nI_nm1 (by omega)
    have z0 : ¬ (cnt (vCs V s a b) s) = 0 := fun q => n1 (x.symm.trans (cc.mpr q))
    have cx := q_town (w := w) (d := d + 1) (O := O) Z4 he
    obtain ⟨N5, Z5, c6⟩ := q_dist0 (w := w) (d := d + 1) (O := O) Z4 ha hg
    rw [d3] at c6
    rw [e1, d1] at c1
    have n5 := nx_is W ha hg d2
    have e5' : vCh V s a b 5 = vNt (vDi V) V a (vTo V e) := by rw [e5, x, if_neg (nI_pos (by omega)), nI_clamp (by omega)]
    rw [e5'] at c5
    have dc : bN (decide (nI e = -1)) = bN (decide (nI (cnt (vCs V s a b) s) = 0)) := by
      rw [decide_eq_false n1, decide_eq_false (show ¬ nI (cnt (vCs V s a b) s) = 0 from fun q => z0 ((nI_eq (b := 0) (by omega) (by decide)).mp q))]
    rw [x] at *
    rcases n5 with ⟨q1, q2⟩ | ⟨q1, y, hy, y1, y2, y3, q2⟩
    · rw [q2] at c5
      have dz : vdn V (8 * a + vTo V e) = 0 := (vdn_0 W ha hg).mpr q1
      have dd : nI (bN (decide (nI a = nI a))) = nI (bN (decide (nI (vdn V (8 * a + vTo V e)) = 0))) := by
        rw [dz, decide_eq_true (show nI a = nI a from rfl), decide_eq_true (show nI 0 = 0 from rfl)]
      refine ⟨N5, Z5, ?_⟩
      refine g_iload (n := 59) dL_choices_57 rfl rfl ?_
      refine g_iload_n (n := 60) dL_choices_59 rfl rfl ?_
      refine g_icmp_ge (n := 63) (t := 450) dL_choices_60 rfl (by decide) (fun _ => ?_) (fun q9 => absurd (nI_le (by omega) (by omega)) q9)
      refine g_aload_n (n := 451) dL_choices_450 rfl rfl ?_
      refine g_iload_n (n := 452) dL_choices_451 rfl rfl ?_
      refine g_iload_n (n := 453) dL_choices_452 rfl rfl ?_
      refine g_iconst (n := 454) dL_choices_453 rfl k_ic_5 ?_
      refine g_cKHv (c9 := 0) (n := 457) c5 dL_choices_454 rfl kz_L_119 rfl (Or.inl (Nat.le_of_ble_eq_true rfl)) (Nat.le_of_ble_eq_true rfl) rfl rfl ?_ rfl
      refine g_istore9 (n := 459) dL_choices_457 rfl (by decide) rfl ?_
      refine g_aload_n (n := 460) dL_choices_459 rfl rfl ?_
      refine g_iload_n (n := 461) dL_choices_460 rfl rfl ?_
      refine g_iload_n (n := 462) dL_choices_461 rfl rfl ?_
      refine g_iconst (n := 463) dL_choices_462 rfl k_ic_1 ?_
      refine g_cKHv (c9 := 0) (n := 466) c1 dL_choices_463 rfl kz_L_119 rfl (Or.inl (Nat.le_of_ble_eq_true rfl)) (Nat.le_of_ble_eq_true rfl) rfl rfl ?_ rfl
      refine g_istore10 (n := 468) dL_choices_466 rfl (by decide) rfl ?_
      refine g_iload (n := 470) dL_choices_468 rfl rfl ?_
      refine g_if_eq (n := 473) (t := 587) dL_choices_470 rfl (by decide) (fun q9 => absurd q9 (by decide)) (fun _ => ?_)
      refine g_iload (n := 475) dL_choices_473 rfl rfl ?_
      refine g_aload_n (n := 476) dL_choices_475 rfl rfl ?_
      refine g_iload_n (n := 477) dL_choices_476 rfl rfl ?_
      refine g_iload_n (n := 478) dL_choices_477 rfl rfl ?_
      refine g_iconst (n := 479) dL_choices_478 rfl k_ic_2 ?_
      refine g_cKHv (c9 := 0) (n := 482) c2 dL_choices_479 rfl kz_L_119 rfl (Or.inl (Nat.le_of_ble_eq_true rfl)) (Nat.le_of_ble_eq_true rfl) rfl rfl ?_ rfl
      refine g_icmp_ne (n := 485) (t := 587) dL_choices_482 rfl (by decide) (fun q9 => absurd rfl q9) (fun _ => ?_)
      refine g_iload (n := 487) dL_choices_485 rfl rfl ?_
      refine g_aload_n (n := 488) dL_choices_487 rfl rfl ?_
      refine g_iload_n (n := 489) dL_choices_488 rfl rfl ?_
      refine g_iload_n (n := 490) dL_choices_489 rfl rfl ?_
      refine g_iconst (n := 491) dL_choices_490 rfl k_ic_3 ?_
      refine g_cKHv (c9 := 0) (n := 494) c3 dL_choices_491 rfl kz_L_119 rfl (Or.inl (Nat.le_of_ble_eq_true rfl)) (Nat.le_of_ble_eq_true rfl) rfl rfl ?_ rfl
      refine g_icmp_ne (n := 497) (t := 587) dL_choices_494 rfl (by decide) (fun q9 => absurd rfl q9) (fun _ => ?_)
      refine g_iload (n := 499) dL_choices_497 rfl rfl ?_
      refine g_iconst (n := 500) dL_choices_499 rfl k_ic_m1 ?_
      refine g_dia_icmp_ne (t := 507) dL_choices_500 (by decide) dL_choices_503 dL_choices_504 (by decide) dL_choices_507 ?_
      refine g_iload (n := 510) dL_choices_508 rfl rfl ?_
      refine g_dia_if_ne (t := 517) dL_choices_510 (by decide) dL_choices_513 dL_choices_514 (by decide) dL_choices_517 ?_
      refine g_icmp_ne (n := 521) (t := 587) dL_choices_518 rfl (by decide) (fun q9 => absurd (congrArg nI dc) q9) (fun _ => ?_)
      refine g_iload (n := 523) dL_choices_521 rfl rfl ?_
      refine g_if_ge (n := 526) (t := 541) dL_choices_523 rfl (by decide) (fun _ => ?_) (fun q9 => absurd (nI_pos' (by omega)) q9)
      refine g_iload (n := 543) dL_choices_541 rfl rfl ?_
      refine g_aload_n (n := 544) dL_choices_543 rfl rfl ?_
      refine g_iload_n (n := 545) dL_choices_544 rfl rfl ?_
      refine g_aload_n (n := 546) dL_choices_545 rfl rfl ?_
      refine g_iload (n := 548) dL_choices_546 rfl rfl ?_
      refine g_iconst (n := 549) dL_choices_548 rfl k_ic_0 ?_
      refine g_cKHv (c9 := 0) (n := 552) cx dL_choices_549 rfl kz_L_125 rfl (Or.inl (Nat.le_of_ble_eq_true rfl)) (Nat.le_of_ble_eq_true rfl) rfl rfl ?_ rfl
      refine g_iconst (n := 553) dL_choices_552 rfl k_ic_0 ?_
      refine g_cKHv (c9 := 0) (n := 556) c6 dL_choices_553 rfl kz_L_112 rfl (Or.inl (Nat.le_of_ble_eq_true rfl)) (Nat.le_of_ble_eq_true rfl) rfl rfl ?_ rfl
      refine g_icmp_ne (n := 559) (t := 587) dL_choices_556 rfl (by decide) (fun q9 => absurd rfl q9) (fun _ => ?_)
      refine g_iload (n := 561) dL_choices_559 rfl rfl ?_
      refine g_iload_n (n := 562) dL_choices_561 rfl rfl ?_
      refine g_dia_icmp_ne (t := 569) dL_choices_562 (by decide) dL_choices_565 dL_choices_566 (by decide) dL_choices_569 ?_
      refine g_iload (n := 572) dL_choices_570 rfl rfl ?_
      refine g_dia_if_ne (t := 579) dL_choices_572 (by decide) dL_choices_575 dL_choices_576 (by decide) dL_choices_579 ?_
      refine g_icmp_ne (n := 583) (t := 587) dL_choices_580 rfl (by decide) (fun q9 => absurd dd q9) (fun _ => ?_)
      refine g_iconst (n := 584) dL_choices_583 rfl k_ic_1 ?_
      refine g_goto (n := 0) (t := 588) dL_choices_584 (by decide) ?_
      refine g_istore8 (n := 590) dL_choices_588 rfl (by decide) rfl ?_
      refine g_iload (n := 592) dL_choices_590 rfl rfl ?_
      refine g_if_eq (n := 595) (t := 637) dL_choices_592 rfl (by decide) (fun q9 => absurd q9 (by decide)) (fun _ => ?_)
      refine g_iload (n := 597) dL_choices_595 rfl rfl ?_
      refine g_if_lt (n := 600) (t := 633) dL_choices_597 rfl (by decide) (fun q9 => absurd q9 (nI_pos (by omega))) (fun _ => ?_)
      refine g_iload (n := 602) dL_choices_600 rfl rfl ?_
      refine g_iload_n (n := 603) dL_choices_602 rfl rfl ?_
      refine g_icmp_eq (n := 606) (t := 633) dL_choices_603 rfl (by decide) (fun _ => ?_) (fun q9 => absurd rfl q9)
      refine g_iconst (n := 634) dL_choices_633 rfl k_ic_1 ?_
      refine g_goto (n := 0) (t := 638) dL_choices_634 (by decide) ?_
      exact g_ireturn dL_choices_638 rfl rfl rfl rfl
    · rw [q2] at c5
      have dn : ¬ vdn V (8 * a + vTo V e) = 0 := fun q => q1 ((vdn_0 W ha hg).mp q)
      have ny : ¬ nI y = nI a := fun q => y1 ((nI_eq (by omega) (by omega)).mp q)
      have dd : nI (bN (decide (nI y = nI a))) = nI (bN (decide (nI (vdn V (8 * a + vTo V e)) = 0))) := by
        rw [decide_eq_false ny, decide_eq_false (show ¬ nI (vdn V (8 * a + vTo V e)) = 0 from fun q => dn ((nI_eq (b := 0) (by omega) (by decide)).mp q))]
      have cr := q_roadOf (w := w) (d := d + 1) (O := O) Z5 ha hy
      rw [(vc_n W (show 8 * a + y < 64 by omega)).2] at cr
      have cx2 := q_town (w := w) (d := d + 1) (O := O) Z5 he
      obtain ⟨N6, Z6, c7⟩ := q_dist0 (w := w) (d := d + 1) (O := O) Z5 hy hg
      have l1 := (vc_n W (show 8 * a + y < 64 by omega)).1
      rw [kFar_is W hy hg, if_pos (by omega)] at c7
      refine ⟨N6, Z6, ?_⟩
      refine g_iload (n := 59) dL_choices_57 rfl rfl ?_
      refine g_iload_n (n := 60) dL_choices_59 rfl rfl ?_
      refine g_icmp_ge (n := 63) (t := 450) dL_choices_60 rfl (by decide) (fun _ => ?_) (fun q9 => absurd (nI_le (by omega) (by omega)) q9)
      refine g_aload_n (n := 451) dL_choices_450 rfl rfl ?_
      refine g_iload_n (n := 452) dL_choices_451 rfl rfl ?_
      refine g_iload_n (n := 453) dL_choices_452 rfl rfl ?_
      refine g_iconst (n := 454) dL_choices_453 rfl k_ic_5 ?_
      refine g_cKHv (c9 := 0) (n := 457) c5 dL_choices_454 rfl kz_L_119 rfl (Or.inl (Nat.le_of_ble_eq_true rfl)) (Nat.le_of_ble_eq_true rfl) rfl rfl ?_ rfl
      refine g_istore9 (n := 459) dL_choices_457 rfl (by decide) rfl ?_
      refine g_aload_n (n := 460) dL_choices_459 rfl rfl ?_
      refine g_iload_n (n := 461) dL_choices_460 rfl rfl ?_
      refine g_iload_n (n := 462) dL_choices_461 rfl rfl ?_
      refine g_iconst (n := 463) dL_choices_462 rfl k_ic_1 ?_
      refine g_cKHv (c9 := 0) (n := 466) c1 dL_choices_463 rfl kz_L_119 rfl (Or.inl (Nat.le_of_ble_eq_true rfl)) (Nat.le_of_ble_eq_true rfl) rfl rfl ?_ rfl
      refine g_istore10 (n := 468) dL_choices_466 rfl (by decide) rfl ?_
      refine g_iload (n := 470) dL_choices_468 rfl rfl ?_
      refine g_if_eq (n := 473) (t := 587) dL_choices_470 rfl (by decide) (fun q9 => absurd q9 (by decide)) (fun _ => ?_)
      refine g_iload (n := 475) dL_choices_473 rfl rfl ?_
      refine g_aload_n (n := 476) dL_choices_475 rfl rfl ?_
      refine g_iload_n (n := 477) dL_choices_476 rfl rfl ?_
      refine g_iload_n (n := 478) dL_choices_477 rfl rfl ?_
      refine g_iconst (n := 479) dL_choices_478 rfl k_ic_2 ?_
      refine g_cKHv (c9 := 0) (n := 482) c2 dL_choices_479 rfl kz_L_119 rfl (Or.inl (Nat.le_of_ble_eq_true rfl)) (Nat.le_of_ble_eq_true rfl) rfl rfl ?_ rfl
      refine g_icmp_ne (n := 485) (t := 587) dL_choices_482 rfl (by decide) (fun q9 => absurd rfl q9) (fun _ => ?_)
      refine g_iload (n := 487) dL_choices_485 rfl rfl ?_
      refine g_aload_n (n := 488) dL_choices_487 rfl rfl ?_
      refine g_iload_n (n := 489) dL_choices_488 rfl rfl ?_
      refine g_iload_n (n := 490) dL_choices_489 rfl rfl ?_
      refine g_iconst (n := 491) dL_choices_490 rfl k_ic_3 ?_
      refine g_cKHv (c9 := 0) (n := 494) c3 dL_choices_491 rfl kz_L_119 rfl (Or.inl (Nat.le_of_ble_eq_true rfl)) (Nat.le_of_ble_eq_true rfl) rfl rfl ?_ rfl
      refine g_icmp_ne (n := 497) (t := 587) dL_choices_494 rfl (by decide) (fun q9 => absurd rfl q9) (fun _ => ?_)
      refine g_iload (n := 499) dL_choices_497 rfl rfl ?_
      refine g_iconst (n := 500) dL_choices_499 rfl k_ic_m1 ?_
      refine g_dia_icmp_ne (t := 507) dL_choices_500 (by decide) dL_choices_503 dL_choices_504 (by decide) dL_choices_507 ?_
      refine g_iload (n := 510) dL_choices_508 rfl rfl ?_
      refine g_dia_if_ne (t := 517) dL_choices_510 (by decide) dL_choices_513 dL_choices_514 (by decide) dL_choices_517 ?_
      refine g_icmp_ne (n := 521) (t := 587) dL_choices_518 rfl (by decide) (fun q9 => absurd (congrArg nI dc) q9) (fun _ => ?_)
      refine g_iload (n := 523) dL_choices_521 rfl rfl ?_
      refine g_if_ge (n := 526) (t := 541) dL_choices_523 rfl (by decide) (fun _ => ?_) (fun q9 => absurd (nI_pos' (by omega)) q9)
      refine g_iload (n := 543) dL_choices_541 rfl rfl ?_
      refine g_aload_n (n := 544) dL_choices_543 rfl rfl ?_
      refine g_iload_n (n := 545) dL_choices_544 rfl rfl ?_
      refine g_aload_n (n := 546) dL_choices_545 rfl rfl ?_
      refine g_iload (n := 548) dL_choices_546 rfl rfl ?_
      refine g_iconst (n := 549) dL_choices_548 rfl k_ic_0 ?_
      refine g_cKHv (c9 := 0) (n := 552) cx dL_choices_549 rfl kz_L_125 rfl (Or.inl (Nat.le_of_ble_eq_true rfl)) (Nat.le_of_ble_eq_true rfl) rfl rfl ?_ rfl
      refine g_iconst (n := 553) dL_choices_552 rfl k_ic_0 ?_
      refine g_cKHv (c9 := 0) (n := 556) c6 dL_choices_553 rfl kz_L_112 rfl (Or.inl (Nat.le_of_ble_eq_true rfl)) (Nat.le_of_ble_eq_true rfl) rfl rfl ?_ rfl
      refine g_icmp_ne (n := 559) (t := 587) dL_choices_556 rfl (by decide) (fun q9 => absurd rfl q9) (fun _ => ?_)
      refine g_iload (n := 561) dL_choices_559 rfl rfl ?_
      refine g_iload_n (n := 562) dL_choices_561 rfl rfl ?_
      refine g_dia_icmp_ne (t := 569) dL_choices_562 (by decide) dL_choices_565 dL_choices_566 (by decide) dL_choices_569 ?_
      refine g_iload (n := 572) dL_choices_570 rfl rfl ?_
      refine g_dia_if_ne (t := 579) dL_choices_572 (by decide) dL_choices_575 dL_choices_576 (by decide) dL_choices_579 ?_
      refine g_icmp_ne (n := 583) (t := 587) dL_choices_580 rfl (by decide) (fun q9 => absurd dd q9) (fun _ => ?_)
      refine g_iconst (n := 584) dL_choices_583 rfl k_ic_1 ?_
      refine g_goto (n := 0) (t := 588) dL_choices_584 (by decide) ?_
      refine g_istore8 (n := 590) dL_choices_588 rfl (by decide) rfl ?_
      refine g_iload (n := 592) dL_choices_590 rfl rfl ?_
      refine g_if_eq (n := 595) (t := 637) dL_choices_592 rfl (by decide) (fun q9 => absurd q9 (by decide)) (fun _ => ?_)
      refine g_iload (n := 597) dL_choices_595 rfl rfl ?_
      refine g_if_lt (n := 600) (t := 633) dL_choices_597 rfl (by decide) (fun q9 => absurd q9 (nI_pos (by omega))) (fun _ => ?_)
      refine g_iload (n := 602) dL_choices_600 rfl rfl ?_
      refine g_iload_n (n := 603) dL_choices_602 rfl rfl ?_
      refine g_icmp_eq (n := 606) (t := 633) dL_choices_603 rfl (by decide) (fun q9 => absurd q9 ny) (fun _ => ?_)
      refine g_aload_n (n := 607) dL_choices_606 rfl rfl ?_
      refine g_iload_n (n := 608) dL_choices_607 rfl rfl ?_
      refine g_iload (n := 610) dL_choices_608 rfl rfl ?_
      refine g_cKHv (c9 := 0) (n := 613) cr dL_choices_610 rfl kz_L_115 rfl (Or.inl (Nat.le_of_ble_eq_true rfl)) (Nat.le_of_ble_eq_true rfl) rfl rfl ?_ rfl
      refine g_aload_n (n := 614) dL_choices_613 rfl rfl ?_
      refine g_iload (n := 616) dL_choices_614 rfl rfl ?_
      refine g_aload_n (n := 617) dL_choices_616 rfl rfl ?_
      refine g_iload (n := 619) dL_choices_617 rfl rfl ?_
      refine g_iconst (n := 620) dL_choices_619 rfl k_ic_0 ?_
      refine g_cKHv (c9 := 0) (n := 623) cx2 dL_choices_620 rfl kz_L_125 rfl (Or.inl (Nat.le_of_ble_eq_true rfl)) (Nat.le_of_ble_eq_true rfl) rfl rfl ?_ rfl
      refine g_iconst (n := 624) dL_choices_623 rfl k_ic_0 ?_
      refine g_cKHv (c9 := 0) (n := 627) c7 dL_choices_624 rfl kz_L_112 rfl (Or.inl (Nat.le_of_ble_eq_true rfl)) (Nat.le_of_ble_eq_true rfl) rfl rfl ?_ rfl
      refine g_iaddN (n := 628) dL_choices_627 rfl ?_
      refine g_iload (n := 630) dL_choices_628 rfl rfl ?_
      refine g_icmp_ne (n := 633) (t := 637) dL_choices_630 rfl (by decide) (fun q9 => absurd (congrArg nI y3) q9) (fun _ => ?_)
      refine g_iconst (n := 634) dL_choices_633 rfl k_ic_1 ?_
      refine g_goto (n := 0) (t := 638) dL_choices_634 (by decide) ?_
      exact g_ireturn dL_choices_638 rfl rfl rfl rfl
theorem cho_loop (ha : a < 8) (hb : b < 4) (hlf : (lf = 1 ∧ V 0 = nI 0) ∨ (lf = 0 ∧ V 0 = nI 1)) : ∀ (j k : Nat) (N : Nat → Nat → Nat → Int32), k + j = s → zS t N s h V → zR w mL_choices (d + 12) 0 t s h V O 57 [vR 9 0, vI (nI a), vI (nI b), vI (nI s), vI (vCho (vDi V) V s a b), vI (nI (cnt (fun k => decide (vY V s a b k = 0) || decide (vY V s a b k = 6)) k)), vI (nI (cnt (vCs V s a b) k)), vI (nI lf), vI (nI 1), vI (nI k), vU, vU, vU, vU, vU, vU, vU, vU] [] N
  | 0, k, N, hk, Z => by
    obtain rfl : k = s := by omega
    exact cho_end Z ha hb
  | j + 1, k, N, hk, Z => cho_body Z ha hb (by omega) hlf (fun N1 Z1 => cho_loop ha hb hlf j (k + 1) N1 (by omega) Z1)
theorem a_choices (Z : zS t M s h V) (ha : a < 8) (hb : b < 4) : ∃ M1 h1, zS t M1 s h1 V ∧ zCk w mL_choices 0 (d + 12) [vR 9 0, vI (nI a), vI (nI b)] (zP M O) (zrI (nI 1)) (zP M1 O) := by
  have W := Z.W
  have h8 := Z.h8
  obtain ⟨N1, Z1, c1⟩ := q_count (w := w) (d := d + 1) (O := O) Z (show 1 < 10 by decide)
  rw [show vCt V s h 1 = nI s from Z.ss] at c1
  obtain ⟨N2, Z2, c2⟩ := q_choice (w := w) (d := d + 1) (O := O) Z1 ha hb (show 0 < 6 by decide)
  rw [show vCh V s a b 0 = vCho (vDi V) V s a b from rfl] at c2
  obtain ⟨N3, h3, Z3, c3⟩ := a_setting (w := w) (d := d) (O := O) Z2
  have hn : ¬ vCho (vDi V) V s a b < -1 ∧ ¬ nI s ≤ vCho (vDi V) V s a b := by
    rcases vCho_in2 W Z.ss h8 ha hb with x | ⟨e, he, x⟩
    · rw [x]
      refine ⟨by decide, fun q => ?_⟩
      exact absurd (Int32.le_trans (nI_pos' (show s < 2 ^ 31 by omega)) q) (by decide)
    · rw [x]
      refine ⟨fun q => nI_pos (show e < 2 ^ 31 by omega) (Int32.lt_trans q (by decide)), nle he (by omega)⟩
  have hl : ∃ lf, ((lf = 1 ∧ V 0 = nI 0) ∨ (lf = 0 ∧ V 0 = nI 1)) ∧ bN (decide (V 0 = 0)) = lf := by
    rcases W.1 0 (by decide) with x | x
    · exact ⟨1, Or.inl ⟨rfl, x⟩, by rw [x]; rfl⟩
    · exact ⟨0, Or.inr ⟨rfl, x⟩, by rw [x]; rfl⟩
  obtain ⟨lf, hlf, elf⟩ := hl
  obtain ⟨N4, Z4, G⟩ := cho_loop (w := w) (d := d) (O := O) ha hb hlf s 0 N3 (by omega) Z3
  refine ⟨N4, h3, Z4, ?_⟩
  refine zCk_of (L0 := [vR 9 0, vI (nI a), vI (nI b), vU, vU, vU, vU, vU, vU, vU, vU, vU, vU, vU, vU, vU, vU, vU]) (by decide) (by decide) rfl (Nat.le_of_ble_eq_true rfl) rfl rfl ?_
  refine g_aload_n (n := 1) dL_choices_0 rfl rfl ?_
  refine g_iconst (n := 2) dL_choices_1 rfl k_ic_1 ?_
  refine g_cKHv (c9 := 0) (n := 5) c1 dL_choices_2 rfl kz_L_117 rfl (Or.inl (Nat.le_of_ble_eq_true rfl)) (Nat.le_of_ble_eq_true rfl) rfl rfl ?_ rfl
  refine g_istore3 (n := 6) dL_choices_5 rfl (by decide) rfl ?_
  refine g_aload_n (n := 7) dL_choices_6 rfl rfl ?_
  refine g_iload_n (n := 8) dL_choices_7 rfl rfl ?_
  refine g_iload_n (n := 9) dL_choices_8 rfl rfl ?_
  refine g_iconst (n := 10) dL_choices_9 rfl k_ic_0 ?_
  refine g_cKHv (c9 := 0) (n := 13) c2 dL_choices_10 rfl kz_L_119 rfl (Or.inl (Nat.le_of_ble_eq_true rfl)) (Nat.le_of_ble_eq_true rfl) rfl rfl ?_ rfl
  refine g_istore4 (n := 15) dL_choices_13 rfl (by decide) rfl ?_
  refine g_iconst (n := 16) dL_choices_15 rfl k_ic_0 ?_
  refine g_istore5 (n := 18) dL_choices_16 rfl (by decide) rfl ?_
  refine g_iconst (n := 19) dL_choices_18 rfl k_ic_0 ?_
  refine g_istore6 (n := 21) dL_choices_19 rfl (by decide) rfl ?_
  refine g_aload_n (n := 22) dL_choices_21 rfl rfl ?_
  refine g_cKPv (c9 := 0) (n := 25) c3 dL_choices_22 rfl kz_L_121 rfl (Or.inl (Nat.le_of_ble_eq_true rfl)) (Nat.le_of_ble_eq_true rfl) rfl rfl ?_ rfl
  refine g_dia_if_ne (t := 32) dL_choices_25 (by decide) dL_choices_28 dL_choices_29 (by decide) dL_choices_32 ?_
  rw [elf]
  refine g_istore7 (n := 35) dL_choices_33 rfl (by decide) rfl ?_
  refine g_iload (n := 37) dL_choices_35 rfl rfl ?_
  refine g_iconst (n := 38) dL_choices_37 rfl k_ic_m1 ?_
  refine g_icmp_lt (n := 41) (t := 51) dL_choices_38 rfl (by decide) (fun q9 => absurd q9 hn.1) (fun _ => ?_)
  refine g_iload (n := 43) dL_choices_41 rfl rfl ?_
  refine g_iload_n (n := 44) dL_choices_43 rfl rfl ?_
  refine g_icmp_ge (n := 47) (t := 51) dL_choices_44 rfl (by decide) (fun q9 => absurd q9 hn.2) (fun _ => ?_)
  refine g_iconst (n := 48) dL_choices_47 rfl k_ic_1 ?_
  refine g_goto (n := 0) (t := 52) dL_choices_48 (by decide) ?_
  refine g_istore8 (n := 54) dL_choices_52 rfl (by decide) rfl ?_
  refine g_iconst (n := 55) dL_choices_54 rfl k_ic_0 ?_
  refine g_istore9 (n := 57) dL_choices_55 rfl (by decide) rfl ?_
  exact G
end CH

