/-! The law. -/
theorem nI_ad (a b : Nat) : nI a + nI b = nI (a + b) := (Int32.ofNat_add a b).symm
theorem lg_self (x : Int64) : lg_cmp x x = 0 := by
  unfold lg_cmp
  simp
theorem z_and31 (x : Int32) : ∃ v, v < 32 ∧ x &&& nI 31 = nI v := by
  refine ⟨(x &&& nI 31).toBitVec.toNat, ?_, ?_⟩
  · rw [Int32.toBitVec_and, BitVec.toNat_and]
    exact Nat.lt_of_le_of_lt Nat.and_le_right (by decide)
  · refine Int32.toBitVec_inj.mp ?_
    show _ = (Int32.ofNat _).toBitVec
    rw [Int32.toBitVec_ofNat', BitVec.ofNat_toNat, BitVec.setWidth_eq]
theorem nI_v (v : Nat) (h : v < 2 ^ 31) : (nI v).toInt = v := Int32.toInt_ofNat_of_lt h
theorem z_end {L i : Nat} (hL : L ≤ 2048) (hi : i ≤ 4096) : nI L - nI 4 < nI i ↔ L < i + 4 := by
  rw [Int32.lt_iff_toInt_lt, Int32.toInt_sub, nI_v L (by omega), nI_v 4 (by omega), nI_v i (by omega), Int.bmod_eq_of_le (by omega) (by omega)]
  omega
abbrev mLw (tb : List (Nat × Nat × Nat × Nat)) : zMth := (yL_law, cL_law, 9, some .boolean, tb)
section LAW
variable {w : zWp} {tb : List (Nat × Nat × Nat × Nat)} {d cr pc n i j nn : Nat} {lv stk : List zAV} {r : zRes} {σ' : zSt} {Nl : Nat → Nat → Nat → Bool} {M : Nat → Nat → Nat → Int32} {O : Nat → Int64}
theorem zG_cr {f : zMth} {σ : zSt} (G : zG w f d cr pc lv stk σ r σ') : zG w f d (cr + 1) pc lv stk σ r σ' :=
  fun p l e R s m args below meth c mc ms H locs cells slots ls X hl hP hS hB => G p l e R s m args below meth c mc ms H locs cells slots ls X hl hP hS ⟨by have := hB.1; omega, by have := hB.2.1; omega, hB.2.2⟩
theorem g_sldJ (hd : decode (mLw tb).2.1 pc = .ok (.iaload, 1)) (hn : pc + 1 = n) (h : i + j < w.2.2.2.2.1 ∧ w.2.2.2.2.1 ≤ 2048)
    (kk : zG w (mLw tb) d cr n lv (vI (w.2.2.2.2.2 (i + j)) :: stk) (nn, Nl, M, O) r σ') : zG w (mLw tb) d cr pc lv (vI (nI i + nI j) :: .inl (.ref w.2.2.2.1) :: stk) (nn, Nl, M, O) r σ' :=
  g_sld hd hn rfl (nI_ad i j) h.1 (by omega) (by omega) kk
theorem g_sld0 (hd : decode (mLw tb).2.1 pc = .ok (.iaload, 1)) (hn : pc + 1 = n) (h : i < w.2.2.2.2.1 ∧ w.2.2.2.2.1 ≤ 2048)
    (kk : zG w (mLw tb) d cr n lv (vI (w.2.2.2.2.2 i) :: stk) (nn, Nl, M, O) r σ') : zG w (mLw tb) d cr pc lv (vI (nI i) :: .inl (.ref w.2.2.2.1) :: stk) (nn, Nl, M, O) r σ' :=
  g_sld hd hn rfl rfl h.1 (by omega) (by omega) kk
/-- from the end of a round on -/
def zAft (w : zWp) (tb : List (Nat × Nat × Nat × Nat)) (cr i : Nat) : Prop := ∀ M O, zInv M → ∃ M' O', zG w (mLw tb) 12 cr 1659 [.inl (.ref w.2.2.2.1), vR 9 0, vR 10 0, vR 38 0, vI (nI i), vU, vU, vU, vU] [] (zP M O) (zrI (nI 1)) (zP M' O')

theorem law_0 (Zv : zInv M) (hL : w.2.2.2.2.1 ≤ 2048) (hi : i + 4 ≤ w.2.2.2.2.1) (IH : zAft w tb cr i) : ∃ M' O', zG w (mLw tb) 12 (cr + 1) 160 [.inl (.ref w.2.2.2.1), vR 9 0, vR 10 0, vR 38 0, vI (nI i), vU, vU, vU, vU] [] (zP M O) (zrI (nI 1)) (zP M' O') := by
  obtain ⟨M1, b, e, O1, hh, hb, hg⟩ := h_road (w.2.2.2.2.2 (i + 1)) (w.2.2.2.2.2 (i + 2)) (w.2.2.2.2.2 (i + 3)) (o_road (w := w) (O := O) Zv (w.2.2.2.2.2 (i + 1)) (w.2.2.2.2.2 (i + 2)) (w.2.2.2.2.2 (i + 3)))
  obtain ⟨M2, i2, i3, cg⟩ := hg O1
  obtain ⟨M', O', G⟩ := IH M2 O1 i2
  refine ⟨M', O', ?_⟩
  refine g_aload_n (n := 161) dL_law_160 rfl rfl ?_
  refine g_aload_nX (n := 162) dL_law_161 rfl rfl ?_
  refine g_iload (n := 164) dL_law_162 rfl rfl ?_
  refine g_iconst (n := 165) dL_law_164 rfl k_ic_1 ?_
  refine g_iadd (n := 166) dL_law_165 rfl ?_
  refine g_sldJ (n := 167) dL_law_166 rfl ⟨by omega, by omega⟩ ?_
  refine g_aload_nX (n := 168) dL_law_167 rfl rfl ?_
  refine g_iload (n := 170) dL_law_168 rfl rfl ?_
  refine g_iconst (n := 171) dL_law_170 rfl k_ic_2 ?_
  refine g_iadd (n := 172) dL_law_171 rfl ?_
  refine g_sldJ (n := 173) dL_law_172 rfl ⟨by omega, by omega⟩ ?_
  refine g_aload_nX (n := 174) dL_law_173 rfl rfl ?_
  refine g_iload (n := 176) dL_law_174 rfl rfl ?_
  refine g_iconst (n := 177) dL_law_176 rfl k_ic_3 ?_
  refine g_iadd (n := 178) dL_law_177 rfl ?_
  refine g_sldJ (n := 179) dL_law_178 rfl ⟨by omega, by omega⟩ ?_
  refine g_aload_n (n := 180) dL_law_179 rfl rfl ?_
  refine g_cHR (n := 183) (v := some (vI e)) hh dL_law_180 rfl kz_L_86 (Nat.le_of_ble_eq_true rfl) rfl rfl ?_ rfl
  refine g_istore5 (n := 185) dL_law_183 rfl (Nat.le_of_ble_eq_true rfl) rfl ?_
  refine g_aload_n (n := 186) dL_law_185 rfl rfl ?_
  refine g_aload_nX (n := 187) dL_law_186 rfl rfl ?_
  refine g_iload (n := 189) dL_law_187 rfl rfl ?_
  refine g_iconst (n := 190) dL_law_189 rfl k_ic_1 ?_
  refine g_iadd (n := 191) dL_law_190 rfl ?_
  refine g_sldJ (n := 192) dL_law_191 rfl ⟨by omega, by omega⟩ ?_
  refine g_aload_nX (n := 193) dL_law_192 rfl rfl ?_
  refine g_iload (n := 195) dL_law_193 rfl rfl ?_
  refine g_iconst (n := 196) dL_law_195 rfl k_ic_2 ?_
  refine g_iadd (n := 197) dL_law_196 rfl ?_
  refine g_sldJ (n := 198) dL_law_197 rfl ⟨by omega, by omega⟩ ?_
  refine g_aload_nX (n := 199) dL_law_198 rfl rfl ?_
  refine g_iload (n := 201) dL_law_199 rfl rfl ?_
  refine g_iconst (n := 202) dL_law_201 rfl k_ic_3 ?_
  refine g_iadd (n := 203) dL_law_202 rfl ?_
  refine g_sldJ (n := 204) dL_law_203 rfl ⟨by omega, by omega⟩ ?_
  refine g_cVv (n := 207) cg dL_law_204 rfl kw_L_91 rfl (by decide) (z_lvP (by first | decide | assumption)) (Nat.le_of_ble_eq_true rfl) ⟨Nat.le_refl _, Nat.le_refl _⟩ ?_ rfl
  refine g_istore6 (n := 209) dL_law_207 rfl (Nat.le_of_ble_eq_true rfl) rfl ?_
  refine g_aload_n (n := 210) dL_law_209 rfl rfl ?_
  refine g_cVv (n := 213) r_thrown dL_law_210 rfl kw_L_92 rfl (by decide) (z_lvP (by first | decide | assumption)) (Nat.le_of_ble_eq_true rfl) ⟨Nat.le_refl _, Nat.le_refl _⟩ ?_ rfl
  refine g_iload (n := 215) dL_law_213 rfl rfl ?_
  refine g_icmp_eq (n := 218) (t := 220) dL_law_215 rfl (by decide) (fun _ => ?_) (fun q9 => absurd i3 q9)
  refine g_iload (n := 222) dL_law_220 rfl rfl ?_
  refine g_if_ne (n := 225) (t := 237) dL_law_222 rfl (by decide) (fun c222 => ?_) (fun c222 => ?_)
  · refine g_goto (n := 0) (t := 1659) dL_law_237 (by decide) ?_
    refine g_drop 5 ?_
    refine g_drop 6 ?_
    exact G
  · refine g_aload_n (n := 226) dL_law_225 rfl rfl ?_
    refine g_iconst (n := 227) dL_law_226 rfl k_ic_0 ?_
    refine g_lald (n := 228) dL_law_227 rfl (z_lvP (by first | decide | assumption)) rfl ?_
    refine g_iload (n := 230) dL_law_228 rfl rfl ?_
    refine g_i2l (n := 231) dL_law_230 rfl ?_
    refine g_lcmp (n := 232) dL_law_231 rfl ?_
    refine g_if_eq (n := 235) (t := 237) dL_law_232 rfl (by decide) (fun _ => ?_) (fun q9 => absurd (by rw [hb (c222.trans (by decide))]; exact lg_self _) q9)
    refine g_goto (n := 0) (t := 1659) dL_law_237 (by decide) ?_
    refine g_drop 5 ?_
    refine g_drop 6 ?_
    exact G
theorem law_1 (Zv : zInv M) (hL : w.2.2.2.2.1 ≤ 2048) (hi : i + 4 ≤ w.2.2.2.2.1) (IH : zAft w tb cr i) : ∃ M' O', zG w (mLw tb) 12 (cr + 1) 240 [.inl (.ref w.2.2.2.1), vR 9 0, vR 10 0, vR 38 0, vI (nI i), vU, vU, vU, vU] [] (zP M O) (zrI (nI 1)) (zP M' O') := by
  obtain ⟨M1, b, e, O1, hh, hb, hg⟩ := h_exit (w.2.2.2.2.2 (i + 1)) (w.2.2.2.2.2 (i + 2)) (o_exit (w := w) (O := O) Zv (w.2.2.2.2.2 (i + 1)) (w.2.2.2.2.2 (i + 2)))
  obtain ⟨M2, i2, i3, cg⟩ := hg O1
  obtain ⟨M', O', G⟩ := IH M2 O1 i2
  refine ⟨M', O', ?_⟩
  refine g_aload_n (n := 241) dL_law_240 rfl rfl ?_
  refine g_aload_nX (n := 242) dL_law_241 rfl rfl ?_
  refine g_iload (n := 244) dL_law_242 rfl rfl ?_
  refine g_iconst (n := 245) dL_law_244 rfl k_ic_1 ?_
  refine g_iadd (n := 246) dL_law_245 rfl ?_
  refine g_sldJ (n := 247) dL_law_246 rfl ⟨by omega, by omega⟩ ?_
  refine g_aload_nX (n := 248) dL_law_247 rfl rfl ?_
  refine g_iload (n := 250) dL_law_248 rfl rfl ?_
  refine g_iconst (n := 251) dL_law_250 rfl k_ic_2 ?_
  refine g_iadd (n := 252) dL_law_251 rfl ?_
  refine g_sldJ (n := 253) dL_law_252 rfl ⟨by omega, by omega⟩ ?_
  refine g_aload_n (n := 254) dL_law_253 rfl rfl ?_
  refine g_cHR (n := 257) (v := some (vI e)) hh dL_law_254 rfl kz_L_95 (Nat.le_of_ble_eq_true rfl) rfl rfl ?_ rfl
  refine g_istore5 (n := 259) dL_law_257 rfl (Nat.le_of_ble_eq_true rfl) rfl ?_
  refine g_aload_n (n := 260) dL_law_259 rfl rfl ?_
  refine g_aload_nX (n := 261) dL_law_260 rfl rfl ?_
  refine g_iload (n := 263) dL_law_261 rfl rfl ?_
  refine g_iconst (n := 264) dL_law_263 rfl k_ic_1 ?_
  refine g_iadd (n := 265) dL_law_264 rfl ?_
  refine g_sldJ (n := 266) dL_law_265 rfl ⟨by omega, by omega⟩ ?_
  refine g_aload_nX (n := 267) dL_law_266 rfl rfl ?_
  refine g_iload (n := 269) dL_law_267 rfl rfl ?_
  refine g_iconst (n := 270) dL_law_269 rfl k_ic_2 ?_
  refine g_iadd (n := 271) dL_law_270 rfl ?_
  refine g_sldJ (n := 272) dL_law_271 rfl ⟨by omega, by omega⟩ ?_
  refine g_cVv (n := 275) cg dL_law_272 rfl kw_L_98 rfl (by decide) (z_lvP (by first | decide | assumption)) (Nat.le_of_ble_eq_true rfl) ⟨Nat.le_refl _, Nat.le_refl _⟩ ?_ rfl
  refine g_istore6 (n := 277) dL_law_275 rfl (Nat.le_of_ble_eq_true rfl) rfl ?_
  refine g_aload_n (n := 278) dL_law_277 rfl rfl ?_
  refine g_cVv (n := 281) r_thrown dL_law_278 rfl kw_L_92 rfl (by decide) (z_lvP (by first | decide | assumption)) (Nat.le_of_ble_eq_true rfl) ⟨Nat.le_refl _, Nat.le_refl _⟩ ?_ rfl
  refine g_iload (n := 283) dL_law_281 rfl rfl ?_
  refine g_icmp_eq (n := 286) (t := 288) dL_law_283 rfl (by decide) (fun _ => ?_) (fun q9 => absurd i3 q9)
  refine g_iload (n := 290) dL_law_288 rfl rfl ?_
  refine g_if_ne (n := 293) (t := 305) dL_law_290 rfl (by decide) (fun c290 => ?_) (fun c290 => ?_)
  · refine g_goto (n := 0) (t := 1659) dL_law_305 (by decide) ?_
    refine g_drop 5 ?_
    refine g_drop 6 ?_
    exact G
  · refine g_aload_n (n := 294) dL_law_293 rfl rfl ?_
    refine g_iconst (n := 295) dL_law_294 rfl k_ic_0 ?_
    refine g_lald (n := 296) dL_law_295 rfl (z_lvP (by first | decide | assumption)) rfl ?_
    refine g_iload (n := 298) dL_law_296 rfl rfl ?_
    refine g_i2l (n := 299) dL_law_298 rfl ?_
    refine g_lcmp (n := 300) dL_law_299 rfl ?_
    refine g_if_eq (n := 303) (t := 305) dL_law_300 rfl (by decide) (fun _ => ?_) (fun q9 => absurd (by rw [hb (c290.trans (by decide))]; exact lg_self _) q9)
    refine g_goto (n := 0) (t := 1659) dL_law_305 (by decide) ?_
    refine g_drop 5 ?_
    refine g_drop 6 ?_
    exact G
theorem law_2 (Zv : zInv M) (hL : w.2.2.2.2.1 ≤ 2048) (hi : i + 4 ≤ w.2.2.2.2.1) (IH : zAft w tb cr i) : ∃ M' O', zG w (mLw tb) 12 (cr + 1) 308 [.inl (.ref w.2.2.2.1), vR 9 0, vR 10 0, vR 38 0, vI (nI i), vU, vU, vU, vU] [] (zP M O) (zrI (nI 1)) (zP M' O') := by
  obtain ⟨M1, b, e, O1, hh, hb, hg⟩ := h_turn (w.2.2.2.2.2 (i + 1)) (o_turn (w := w) (O := O) Zv (w.2.2.2.2.2 (i + 1)))
  obtain ⟨M2, i2, i3, cg⟩ := hg O1
  obtain ⟨M', O', G⟩ := IH M2 O1 i2
  refine ⟨M', O', ?_⟩
  refine g_aload_n (n := 309) dL_law_308 rfl rfl ?_
  refine g_aload_nX (n := 310) dL_law_309 rfl rfl ?_
  refine g_iload (n := 312) dL_law_310 rfl rfl ?_
  refine g_iconst (n := 313) dL_law_312 rfl k_ic_1 ?_
  refine g_iadd (n := 314) dL_law_313 rfl ?_
  refine g_sldJ (n := 315) dL_law_314 rfl ⟨by omega, by omega⟩ ?_
  refine g_aload_n (n := 316) dL_law_315 rfl rfl ?_
  refine g_cHR (n := 319) (v := some (vI e)) hh dL_law_316 rfl kz_L_99 (Nat.le_of_ble_eq_true rfl) rfl rfl ?_ rfl
  refine g_istore5 (n := 321) dL_law_319 rfl (Nat.le_of_ble_eq_true rfl) rfl ?_
  refine g_aload_n (n := 322) dL_law_321 rfl rfl ?_
  refine g_aload_nX (n := 323) dL_law_322 rfl rfl ?_
  refine g_iload (n := 325) dL_law_323 rfl rfl ?_
  refine g_iconst (n := 326) dL_law_325 rfl k_ic_1 ?_
  refine g_iadd (n := 327) dL_law_326 rfl ?_
  refine g_sldJ (n := 328) dL_law_327 rfl ⟨by omega, by omega⟩ ?_
  refine g_cVv (n := 331) cg dL_law_328 rfl kw_L_102 rfl (by decide) (z_lvP (by first | decide | assumption)) (Nat.le_of_ble_eq_true rfl) ⟨Nat.le_refl _, Nat.le_refl _⟩ ?_ rfl
  refine g_istore6 (n := 333) dL_law_331 rfl (Nat.le_of_ble_eq_true rfl) rfl ?_
  refine g_aload_n (n := 334) dL_law_333 rfl rfl ?_
  refine g_cVv (n := 337) r_thrown dL_law_334 rfl kw_L_92 rfl (by decide) (z_lvP (by first | decide | assumption)) (Nat.le_of_ble_eq_true rfl) ⟨Nat.le_refl _, Nat.le_refl _⟩ ?_ rfl
  refine g_iload (n := 339) dL_law_337 rfl rfl ?_
  refine g_icmp_eq (n := 342) (t := 344) dL_law_339 rfl (by decide) (fun _ => ?_) (fun q9 => absurd i3 q9)
  refine g_iload (n := 346) dL_law_344 rfl rfl ?_
  refine g_if_ne (n := 349) (t := 361) dL_law_346 rfl (by decide) (fun c346 => ?_) (fun c346 => ?_)
  · refine g_goto (n := 0) (t := 1659) dL_law_361 (by decide) ?_
    refine g_drop 5 ?_
    refine g_drop 6 ?_
    exact G
  · refine g_aload_n (n := 350) dL_law_349 rfl rfl ?_
    refine g_iconst (n := 351) dL_law_350 rfl k_ic_0 ?_
    refine g_lald (n := 352) dL_law_351 rfl (z_lvP (by first | decide | assumption)) rfl ?_
    refine g_iload (n := 354) dL_law_352 rfl rfl ?_
    refine g_i2l (n := 355) dL_law_354 rfl ?_
    refine g_lcmp (n := 356) dL_law_355 rfl ?_
    refine g_if_eq (n := 359) (t := 361) dL_law_356 rfl (by decide) (fun _ => ?_) (fun q9 => absurd (by rw [hb (c346.trans (by decide))]; exact lg_self _) q9)
    refine g_goto (n := 0) (t := 1659) dL_law_361 (by decide) ?_
    refine g_drop 5 ?_
    refine g_drop 6 ?_
    exact G
theorem law_3 (Zv : zInv M) (hL : w.2.2.2.2.1 ≤ 2048) (hi : i + 4 ≤ w.2.2.2.2.1) (IH : zAft w tb cr i) : ∃ M' O', zG w (mLw tb) 12 (cr + 1) 364 [.inl (.ref w.2.2.2.1), vR 9 0, vR 10 0, vR 38 0, vI (nI i), vU, vU, vU, vU] [] (zP M O) (zrI (nI 1)) (zP M' O') := by
  obtain ⟨M1, b, e, O1, hh, hb, hg⟩ := h_offer (w.2.2.2.2.2 (i + 1)) (w.2.2.2.2.2 (i + 2)) (w.2.2.2.2.2 (i + 3)) (o_offer (w := w) (O := O) Zv (w.2.2.2.2.2 (i + 1)) (w.2.2.2.2.2 (i + 2)) (w.2.2.2.2.2 (i + 3)))
  obtain ⟨M2, i2, i3, cg⟩ := hg O1
  obtain ⟨M', O', G⟩ := IH M2 O1 i2
  refine ⟨M', O', ?_⟩
  refine g_aload_n (n := 365) dL_law_364 rfl rfl ?_
  refine g_aload_nX (n := 366) dL_law_365 rfl rfl ?_
  refine g_iload (n := 368) dL_law_366 rfl rfl ?_
  refine g_iconst (n := 369) dL_law_368 rfl k_ic_1 ?_
  refine g_iadd (n := 370) dL_law_369 rfl ?_
  refine g_sldJ (n := 371) dL_law_370 rfl ⟨by omega, by omega⟩ ?_
  refine g_aload_nX (n := 372) dL_law_371 rfl rfl ?_
  refine g_iload (n := 374) dL_law_372 rfl rfl ?_
  refine g_iconst (n := 375) dL_law_374 rfl k_ic_2 ?_
  refine g_iadd (n := 376) dL_law_375 rfl ?_
  refine g_sldJ (n := 377) dL_law_376 rfl ⟨by omega, by omega⟩ ?_
  refine g_aload_nX (n := 378) dL_law_377 rfl rfl ?_
  refine g_iload (n := 380) dL_law_378 rfl rfl ?_
  refine g_iconst (n := 381) dL_law_380 rfl k_ic_3 ?_
  refine g_iadd (n := 382) dL_law_381 rfl ?_
  refine g_sldJ (n := 383) dL_law_382 rfl ⟨by omega, by omega⟩ ?_
  refine g_aload_n (n := 384) dL_law_383 rfl rfl ?_
  refine g_cHR (n := 387) (v := some (vI e)) hh dL_law_384 rfl kz_L_103 (Nat.le_of_ble_eq_true rfl) rfl rfl ?_ rfl
  refine g_istore5 (n := 389) dL_law_387 rfl (Nat.le_of_ble_eq_true rfl) rfl ?_
  refine g_aload_n (n := 390) dL_law_389 rfl rfl ?_
  refine g_aload_nX (n := 391) dL_law_390 rfl rfl ?_
  refine g_iload (n := 393) dL_law_391 rfl rfl ?_
  refine g_iconst (n := 394) dL_law_393 rfl k_ic_1 ?_
  refine g_iadd (n := 395) dL_law_394 rfl ?_
  refine g_sldJ (n := 396) dL_law_395 rfl ⟨by omega, by omega⟩ ?_
  refine g_aload_nX (n := 397) dL_law_396 rfl rfl ?_
  refine g_iload (n := 399) dL_law_397 rfl rfl ?_
  refine g_iconst (n := 400) dL_law_399 rfl k_ic_2 ?_
  refine g_iadd (n := 401) dL_law_400 rfl ?_
  refine g_sldJ (n := 402) dL_law_401 rfl ⟨by omega, by omega⟩ ?_
  refine g_aload_nX (n := 403) dL_law_402 rfl rfl ?_
  refine g_iload (n := 405) dL_law_403 rfl rfl ?_
  refine g_iconst (n := 406) dL_law_405 rfl k_ic_3 ?_
  refine g_iadd (n := 407) dL_law_406 rfl ?_
  refine g_sldJ (n := 408) dL_law_407 rfl ⟨by omega, by omega⟩ ?_
  refine g_cVv (n := 411) cg dL_law_408 rfl kw_L_105 rfl (by decide) (z_lvP (by first | decide | assumption)) (Nat.le_of_ble_eq_true rfl) ⟨Nat.le_refl _, Nat.le_refl _⟩ ?_ rfl
  refine g_istore6 (n := 413) dL_law_411 rfl (Nat.le_of_ble_eq_true rfl) rfl ?_
  refine g_aload_n (n := 414) dL_law_413 rfl rfl ?_
  refine g_cVv (n := 417) r_thrown dL_law_414 rfl kw_L_92 rfl (by decide) (z_lvP (by first | decide | assumption)) (Nat.le_of_ble_eq_true rfl) ⟨Nat.le_refl _, Nat.le_refl _⟩ ?_ rfl
  refine g_iload (n := 419) dL_law_417 rfl rfl ?_
  refine g_icmp_eq (n := 422) (t := 424) dL_law_419 rfl (by decide) (fun _ => ?_) (fun q9 => absurd i3 q9)
  refine g_iload (n := 426) dL_law_424 rfl rfl ?_
  refine g_if_ne (n := 429) (t := 441) dL_law_426 rfl (by decide) (fun c426 => ?_) (fun c426 => ?_)
  · refine g_goto (n := 0) (t := 1659) dL_law_441 (by decide) ?_
    refine g_drop 5 ?_
    refine g_drop 6 ?_
    exact G
  · refine g_aload_n (n := 430) dL_law_429 rfl rfl ?_
    refine g_iconst (n := 431) dL_law_430 rfl k_ic_0 ?_
    refine g_lald (n := 432) dL_law_431 rfl (z_lvP (by first | decide | assumption)) rfl ?_
    refine g_iload (n := 434) dL_law_432 rfl rfl ?_
    refine g_i2l (n := 435) dL_law_434 rfl ?_
    refine g_lcmp (n := 436) dL_law_435 rfl ?_
    refine g_if_eq (n := 439) (t := 441) dL_law_436 rfl (by decide) (fun _ => ?_) (fun q9 => absurd (by rw [hb (c426.trans (by decide))]; exact lg_self _) q9)
    refine g_goto (n := 0) (t := 1659) dL_law_441 (by decide) ?_
    refine g_drop 5 ?_
    refine g_drop 6 ?_
    exact G
theorem law_4 (Zv : zInv M) (hL : w.2.2.2.2.1 ≤ 2048) (hi : i + 4 ≤ w.2.2.2.2.1) (IH : zAft w tb cr i) : ∃ M' O', zG w (mLw tb) 12 (cr + 1) 444 [.inl (.ref w.2.2.2.1), vR 9 0, vR 10 0, vR 38 0, vI (nI i), vU, vU, vU, vU] [] (zP M O) (zrI (nI 1)) (zP M' O') := by
  obtain ⟨M1, b, e, O1, hh, hb, hg⟩ := h_bound (w.2.2.2.2.2 (i + 1)) (w.2.2.2.2.2 (i + 2)) (o_bound (w := w) (O := O) Zv (w.2.2.2.2.2 (i + 1)) (w.2.2.2.2.2 (i + 2)))
  obtain ⟨M2, i2, i3, cg⟩ := hg O1
  obtain ⟨M', O', G⟩ := IH M2 O1 i2
  refine ⟨M', O', ?_⟩
  refine g_aload_n (n := 445) dL_law_444 rfl rfl ?_
  refine g_aload_nX (n := 446) dL_law_445 rfl rfl ?_
  refine g_iload (n := 448) dL_law_446 rfl rfl ?_
  refine g_iconst (n := 449) dL_law_448 rfl k_ic_1 ?_
  refine g_iadd (n := 450) dL_law_449 rfl ?_
  refine g_sldJ (n := 451) dL_law_450 rfl ⟨by omega, by omega⟩ ?_
  refine g_aload_nX (n := 452) dL_law_451 rfl rfl ?_
  refine g_iload (n := 454) dL_law_452 rfl rfl ?_
  refine g_iconst (n := 455) dL_law_454 rfl k_ic_2 ?_
  refine g_iadd (n := 456) dL_law_455 rfl ?_
  refine g_sldJ (n := 457) dL_law_456 rfl ⟨by omega, by omega⟩ ?_
  refine g_aload_n (n := 458) dL_law_457 rfl rfl ?_
  refine g_cHR (n := 461) (v := some (vI e)) hh dL_law_458 rfl kz_L_106 (Nat.le_of_ble_eq_true rfl) rfl rfl ?_ rfl
  refine g_istore5 (n := 463) dL_law_461 rfl (Nat.le_of_ble_eq_true rfl) rfl ?_
  refine g_aload_n (n := 464) dL_law_463 rfl rfl ?_
  refine g_aload_nX (n := 465) dL_law_464 rfl rfl ?_
  refine g_iload (n := 467) dL_law_465 rfl rfl ?_
  refine g_iconst (n := 468) dL_law_467 rfl k_ic_1 ?_
  refine g_iadd (n := 469) dL_law_468 rfl ?_
  refine g_sldJ (n := 470) dL_law_469 rfl ⟨by omega, by omega⟩ ?_
  refine g_aload_nX (n := 471) dL_law_470 rfl rfl ?_
  refine g_iload (n := 473) dL_law_471 rfl rfl ?_
  refine g_iconst (n := 474) dL_law_473 rfl k_ic_2 ?_
  refine g_iadd (n := 475) dL_law_474 rfl ?_
  refine g_sldJ (n := 476) dL_law_475 rfl ⟨by omega, by omega⟩ ?_
  refine g_cVv (n := 479) cg dL_law_476 rfl kw_L_108 rfl (by decide) (z_lvP (by first | decide | assumption)) (Nat.le_of_ble_eq_true rfl) ⟨Nat.le_refl _, Nat.le_refl _⟩ ?_ rfl
  refine g_istore6 (n := 481) dL_law_479 rfl (Nat.le_of_ble_eq_true rfl) rfl ?_
  refine g_aload_n (n := 482) dL_law_481 rfl rfl ?_
  refine g_cVv (n := 485) r_thrown dL_law_482 rfl kw_L_92 rfl (by decide) (z_lvP (by first | decide | assumption)) (Nat.le_of_ble_eq_true rfl) ⟨Nat.le_refl _, Nat.le_refl _⟩ ?_ rfl
  refine g_iload (n := 487) dL_law_485 rfl rfl ?_
  refine g_icmp_eq (n := 490) (t := 492) dL_law_487 rfl (by decide) (fun _ => ?_) (fun q9 => absurd i3 q9)
  refine g_iload (n := 494) dL_law_492 rfl rfl ?_
  refine g_if_ne (n := 497) (t := 509) dL_law_494 rfl (by decide) (fun c494 => ?_) (fun c494 => ?_)
  · refine g_goto (n := 0) (t := 1659) dL_law_509 (by decide) ?_
    refine g_drop 5 ?_
    refine g_drop 6 ?_
    exact G
  · refine g_aload_n (n := 498) dL_law_497 rfl rfl ?_
    refine g_iconst (n := 499) dL_law_498 rfl k_ic_0 ?_
    refine g_lald (n := 500) dL_law_499 rfl (z_lvP (by first | decide | assumption)) rfl ?_
    refine g_iload (n := 502) dL_law_500 rfl rfl ?_
    refine g_i2l (n := 503) dL_law_502 rfl ?_
    refine g_lcmp (n := 504) dL_law_503 rfl ?_
    refine g_if_eq (n := 507) (t := 509) dL_law_504 rfl (by decide) (fun _ => ?_) (fun q9 => absurd (by rw [hb (c494.trans (by decide))]; exact lg_self _) q9)
    refine g_goto (n := 0) (t := 1659) dL_law_509 (by decide) ?_
    refine g_drop 5 ?_
    refine g_drop 6 ?_
    exact G
theorem law_5 (Zv : zInv M) (hL : w.2.2.2.2.1 ≤ 2048) (hi : i + 4 ≤ w.2.2.2.2.1) (IH : zAft w tb cr i) : ∃ M' O', zG w (mLw tb) 12 (cr + 1) 512 [.inl (.ref w.2.2.2.1), vR 9 0, vR 10 0, vR 38 0, vI (nI i), vU, vU, vU, vU] [] (zP M O) (zrI (nI 1)) (zP M' O') := by
  obtain ⟨M1, b, e, O1, hh, hb, hg⟩ := h_set (w.2.2.2.2.2 (i + 1)) (w.2.2.2.2.2 (i + 2)) (o_set (w := w) (O := O) Zv (w.2.2.2.2.2 (i + 1)) (w.2.2.2.2.2 (i + 2)))
  obtain ⟨M2, i2, i3, cg⟩ := hg O1
  obtain ⟨M', O', G⟩ := IH M2 O1 i2
  refine ⟨M', O', ?_⟩
  refine g_aload_n (n := 513) dL_law_512 rfl rfl ?_
  refine g_aload_nX (n := 514) dL_law_513 rfl rfl ?_
  refine g_iload (n := 516) dL_law_514 rfl rfl ?_
  refine g_iconst (n := 517) dL_law_516 rfl k_ic_1 ?_
  refine g_iadd (n := 518) dL_law_517 rfl ?_
  refine g_sldJ (n := 519) dL_law_518 rfl ⟨by omega, by omega⟩ ?_
  refine g_aload_nX (n := 520) dL_law_519 rfl rfl ?_
  refine g_iload (n := 522) dL_law_520 rfl rfl ?_
  refine g_iconst (n := 523) dL_law_522 rfl k_ic_2 ?_
  refine g_iadd (n := 524) dL_law_523 rfl ?_
  refine g_sldJ (n := 525) dL_law_524 rfl ⟨by omega, by omega⟩ ?_
  refine g_aload_n (n := 526) dL_law_525 rfl rfl ?_
  refine g_cHR (n := 529) (v := some (vI e)) hh dL_law_526 rfl kz_L_109 (Nat.le_of_ble_eq_true rfl) rfl rfl ?_ rfl
  refine g_istore5 (n := 531) dL_law_529 rfl (Nat.le_of_ble_eq_true rfl) rfl ?_
  refine g_aload_n (n := 532) dL_law_531 rfl rfl ?_
  refine g_aload_nX (n := 533) dL_law_532 rfl rfl ?_
  refine g_iload (n := 535) dL_law_533 rfl rfl ?_
  refine g_iconst (n := 536) dL_law_535 rfl k_ic_1 ?_
  refine g_iadd (n := 537) dL_law_536 rfl ?_
  refine g_sldJ (n := 538) dL_law_537 rfl ⟨by omega, by omega⟩ ?_
  refine g_aload_nX (n := 539) dL_law_538 rfl rfl ?_
  refine g_iload (n := 541) dL_law_539 rfl rfl ?_
  refine g_iconst (n := 542) dL_law_541 rfl k_ic_2 ?_
  refine g_iadd (n := 543) dL_law_542 rfl ?_
  refine g_sldJ (n := 544) dL_law_543 rfl ⟨by omega, by omega⟩ ?_
  refine g_cVv (n := 547) cg dL_law_544 rfl kw_L_111 rfl (by decide) (z_lvP (by first | decide | assumption)) (Nat.le_of_ble_eq_true rfl) ⟨Nat.le_refl _, Nat.le_refl _⟩ ?_ rfl
  refine g_istore6 (n := 549) dL_law_547 rfl (Nat.le_of_ble_eq_true rfl) rfl ?_
  refine g_aload_n (n := 550) dL_law_549 rfl rfl ?_
  refine g_cVv (n := 553) r_thrown dL_law_550 rfl kw_L_92 rfl (by decide) (z_lvP (by first | decide | assumption)) (Nat.le_of_ble_eq_true rfl) ⟨Nat.le_refl _, Nat.le_refl _⟩ ?_ rfl
  refine g_iload (n := 555) dL_law_553 rfl rfl ?_
  refine g_icmp_eq (n := 558) (t := 560) dL_law_555 rfl (by decide) (fun _ => ?_) (fun q9 => absurd i3 q9)
  refine g_iload (n := 562) dL_law_560 rfl rfl ?_
  refine g_if_ne (n := 565) (t := 577) dL_law_562 rfl (by decide) (fun c562 => ?_) (fun c562 => ?_)
  · refine g_goto (n := 0) (t := 1659) dL_law_577 (by decide) ?_
    refine g_drop 5 ?_
    refine g_drop 6 ?_
    exact G
  · refine g_aload_n (n := 566) dL_law_565 rfl rfl ?_
    refine g_iconst (n := 567) dL_law_566 rfl k_ic_0 ?_
    refine g_lald (n := 568) dL_law_567 rfl (z_lvP (by first | decide | assumption)) rfl ?_
    refine g_iload (n := 570) dL_law_568 rfl rfl ?_
    refine g_i2l (n := 571) dL_law_570 rfl ?_
    refine g_lcmp (n := 572) dL_law_571 rfl ?_
    refine g_if_eq (n := 575) (t := 577) dL_law_572 rfl (by decide) (fun _ => ?_) (fun q9 => absurd (by rw [hb (c562.trans (by decide))]; exact lg_self _) q9)
    refine g_goto (n := 0) (t := 1659) dL_law_577 (by decide) ?_
    refine g_drop 5 ?_
    refine g_drop 6 ?_
    exact G
theorem law_6 (Zv : zInv M) (hL : w.2.2.2.2.1 ≤ 2048) (hi : i + 4 ≤ w.2.2.2.2.1) (IH : zAft w tb cr i) : ∃ M' O', zG w (mLw tb) 12 (cr + 1) 580 [.inl (.ref w.2.2.2.1), vR 9 0, vR 10 0, vR 38 0, vI (nI i), vU, vU, vU, vU] [] (zP M O) (zrI (nI 1)) (zP M' O') := by
  obtain ⟨M1, b, e, O1, hh, hb, hg⟩ := h_send (w.2.2.2.2.2 (i + 1)) (w.2.2.2.2.2 (i + 2)) (o_send (w := w) (O := O) Zv (w.2.2.2.2.2 (i + 1)) (w.2.2.2.2.2 (i + 2)))
  obtain ⟨M2, i2, i3, cg⟩ := hg O1
  obtain ⟨M', O', G⟩ := IH M2 O1 i2
  refine ⟨M', O', ?_⟩
  refine g_aload_n (n := 581) dL_law_580 rfl rfl ?_
  refine g_aload_nX (n := 582) dL_law_581 rfl rfl ?_
  refine g_iload (n := 584) dL_law_582 rfl rfl ?_
  refine g_iconst (n := 585) dL_law_584 rfl k_ic_1 ?_
  refine g_iadd (n := 586) dL_law_585 rfl ?_
  refine g_sldJ (n := 587) dL_law_586 rfl ⟨by omega, by omega⟩ ?_
  refine g_aload_nX (n := 588) dL_law_587 rfl rfl ?_
  refine g_iload (n := 590) dL_law_588 rfl rfl ?_
  refine g_iconst (n := 591) dL_law_590 rfl k_ic_2 ?_
  refine g_iadd (n := 592) dL_law_591 rfl ?_
  refine g_sldJ (n := 593) dL_law_592 rfl ⟨by omega, by omega⟩ ?_
  refine g_aload_n (n := 594) dL_law_593 rfl rfl ?_
  refine g_cHR (n := 597) (v := some (vI e)) hh dL_law_594 rfl kz_L_112 (Nat.le_of_ble_eq_true rfl) rfl rfl ?_ rfl
  refine g_istore5 (n := 599) dL_law_597 rfl (Nat.le_of_ble_eq_true rfl) rfl ?_
  refine g_aload_n (n := 600) dL_law_599 rfl rfl ?_
  refine g_aload_nX (n := 601) dL_law_600 rfl rfl ?_
  refine g_iload (n := 603) dL_law_601 rfl rfl ?_
  refine g_iconst (n := 604) dL_law_603 rfl k_ic_1 ?_
  refine g_iadd (n := 605) dL_law_604 rfl ?_
  refine g_sldJ (n := 606) dL_law_605 rfl ⟨by omega, by omega⟩ ?_
  refine g_aload_nX (n := 607) dL_law_606 rfl rfl ?_
  refine g_iload (n := 609) dL_law_607 rfl rfl ?_
  refine g_iconst (n := 610) dL_law_609 rfl k_ic_2 ?_
  refine g_iadd (n := 611) dL_law_610 rfl ?_
  refine g_sldJ (n := 612) dL_law_611 rfl ⟨by omega, by omega⟩ ?_
  refine g_cVv (n := 615) cg dL_law_612 rfl kw_L_114 rfl (by decide) (z_lvP (by first | decide | assumption)) (Nat.le_of_ble_eq_true rfl) ⟨Nat.le_refl _, Nat.le_refl _⟩ ?_ rfl
  refine g_istore6 (n := 617) dL_law_615 rfl (Nat.le_of_ble_eq_true rfl) rfl ?_
  refine g_aload_n (n := 618) dL_law_617 rfl rfl ?_
  refine g_cVv (n := 621) r_thrown dL_law_618 rfl kw_L_92 rfl (by decide) (z_lvP (by first | decide | assumption)) (Nat.le_of_ble_eq_true rfl) ⟨Nat.le_refl _, Nat.le_refl _⟩ ?_ rfl
  refine g_iload (n := 623) dL_law_621 rfl rfl ?_
  refine g_icmp_eq (n := 626) (t := 628) dL_law_623 rfl (by decide) (fun _ => ?_) (fun q9 => absurd i3 q9)
  refine g_iload (n := 630) dL_law_628 rfl rfl ?_
  refine g_if_ne (n := 633) (t := 645) dL_law_630 rfl (by decide) (fun c630 => ?_) (fun c630 => ?_)
  · refine g_goto (n := 0) (t := 1659) dL_law_645 (by decide) ?_
    refine g_drop 5 ?_
    refine g_drop 6 ?_
    exact G
  · refine g_aload_n (n := 634) dL_law_633 rfl rfl ?_
    refine g_iconst (n := 635) dL_law_634 rfl k_ic_0 ?_
    refine g_lald (n := 636) dL_law_635 rfl (z_lvP (by first | decide | assumption)) rfl ?_
    refine g_iload (n := 638) dL_law_636 rfl rfl ?_
    refine g_i2l (n := 639) dL_law_638 rfl ?_
    refine g_lcmp (n := 640) dL_law_639 rfl ?_
    refine g_if_eq (n := 643) (t := 645) dL_law_640 rfl (by decide) (fun _ => ?_) (fun q9 => absurd (by rw [hb (c630.trans (by decide))]; exact lg_self _) q9)
    refine g_goto (n := 0) (t := 1659) dL_law_645 (by decide) ?_
    refine g_drop 5 ?_
    refine g_drop 6 ?_
    exact G
theorem law_7 (Zv : zInv M) (hL : w.2.2.2.2.1 ≤ 2048) (hi : i + 4 ≤ w.2.2.2.2.1) (IH : zAft w tb cr i) : ∃ M' O', zG w (mLw tb) 12 (cr + 1) 648 [.inl (.ref w.2.2.2.1), vR 9 0, vR 10 0, vR 38 0, vI (nI i), vU, vU, vU, vU] [] (zP M O) (zrI (nI 1)) (zP M' O') := by
  obtain ⟨M1, M2, b, i2, cf, cg⟩ := o_settle (w := w) (O := O) Zv
  obtain ⟨M', O', G⟩ := IH M2 O i2
  refine ⟨M', O', zG_cr ?_⟩
  refine g_aload_n (n := 649) dL_law_648 rfl rfl ?_
  refine g_cVv (n := 652) cf dL_law_649 rfl kw_L_115 rfl (by decide) (z_lvP (by first | decide | assumption)) (Nat.le_of_ble_eq_true rfl) ⟨Nat.le_refl _, Nat.le_refl _⟩ ?_ rfl
  refine g_aload_n (n := 653) dL_law_652 rfl rfl ?_
  refine g_cVv (n := 656) cg dL_law_653 rfl kw_L_118 rfl (by decide) (z_lvP (by first | decide | assumption)) (Nat.le_of_ble_eq_true rfl) ⟨Nat.le_refl _, Nat.le_refl _⟩ ?_ rfl
  refine g_icmp_eq (n := 659) (t := 1659) dL_law_656 rfl (by decide) (fun _ => ?_) (fun q9 => absurd rfl q9)
  exact G
theorem law_8 (Zv : zInv M) (hL : w.2.2.2.2.1 ≤ 2048) (hi : i + 4 ≤ w.2.2.2.2.1) (IH : zAft w tb cr i) : ∃ M' O', zG w (mLw tb) 12 (cr + 1) 661 [.inl (.ref w.2.2.2.1), vR 9 0, vR 10 0, vR 38 0, vI (nI i), vU, vU, vU, vU] [] (zP M O) (zrI (nI 1)) (zP M' O') := by
  obtain ⟨M1, b, e, O1, hh, hb, hg⟩ := h_append (w.2.2.2.2.2 (i + 1)) (o_append (w := w) (O := O) Zv (w.2.2.2.2.2 (i + 1)))
  obtain ⟨M2, i2, i3, cg⟩ := hg O1
  obtain ⟨M', O', G⟩ := IH M2 O1 i2
  refine ⟨M', O', ?_⟩
  refine g_aload_n (n := 662) dL_law_661 rfl rfl ?_
  refine g_aload_nX (n := 663) dL_law_662 rfl rfl ?_
  refine g_iload (n := 665) dL_law_663 rfl rfl ?_
  refine g_iconst (n := 666) dL_law_665 rfl k_ic_1 ?_
  refine g_iadd (n := 667) dL_law_666 rfl ?_
  refine g_sldJ (n := 668) dL_law_667 rfl ⟨by omega, by omega⟩ ?_
  refine g_aload_n (n := 669) dL_law_668 rfl rfl ?_
  refine g_cHR (n := 672) (v := some (vI e)) hh dL_law_669 rfl kz_L_119 (Nat.le_of_ble_eq_true rfl) rfl rfl ?_ rfl
  refine g_istore5 (n := 674) dL_law_672 rfl (Nat.le_of_ble_eq_true rfl) rfl ?_
  refine g_aload_n (n := 675) dL_law_674 rfl rfl ?_
  refine g_aload_nX (n := 676) dL_law_675 rfl rfl ?_
  refine g_iload (n := 678) dL_law_676 rfl rfl ?_
  refine g_iconst (n := 679) dL_law_678 rfl k_ic_1 ?_
  refine g_iadd (n := 680) dL_law_679 rfl ?_
  refine g_sldJ (n := 681) dL_law_680 rfl ⟨by omega, by omega⟩ ?_
  refine g_cVv (n := 684) cg dL_law_681 rfl kw_L_121 rfl (by decide) (z_lvP (by first | decide | assumption)) (Nat.le_of_ble_eq_true rfl) ⟨Nat.le_refl _, Nat.le_refl _⟩ ?_ rfl
  refine g_istore6 (n := 686) dL_law_684 rfl (Nat.le_of_ble_eq_true rfl) rfl ?_
  refine g_aload_n (n := 687) dL_law_686 rfl rfl ?_
  refine g_cVv (n := 690) r_thrown dL_law_687 rfl kw_L_92 rfl (by decide) (z_lvP (by first | decide | assumption)) (Nat.le_of_ble_eq_true rfl) ⟨Nat.le_refl _, Nat.le_refl _⟩ ?_ rfl
  refine g_iload (n := 692) dL_law_690 rfl rfl ?_
  refine g_icmp_eq (n := 695) (t := 697) dL_law_692 rfl (by decide) (fun _ => ?_) (fun q9 => absurd i3 q9)
  refine g_iload (n := 699) dL_law_697 rfl rfl ?_
  refine g_if_ne (n := 702) (t := 714) dL_law_699 rfl (by decide) (fun c699 => ?_) (fun c699 => ?_)
  · refine g_goto (n := 0) (t := 1659) dL_law_714 (by decide) ?_
    refine g_drop 5 ?_
    refine g_drop 6 ?_
    exact G
  · refine g_aload_n (n := 703) dL_law_702 rfl rfl ?_
    refine g_iconst (n := 704) dL_law_703 rfl k_ic_0 ?_
    refine g_lald (n := 705) dL_law_704 rfl (z_lvP (by first | decide | assumption)) rfl ?_
    refine g_iload (n := 707) dL_law_705 rfl rfl ?_
    refine g_i2l (n := 708) dL_law_707 rfl ?_
    refine g_lcmp (n := 709) dL_law_708 rfl ?_
    refine g_if_eq (n := 712) (t := 714) dL_law_709 rfl (by decide) (fun _ => ?_) (fun q9 => absurd (by rw [hb (c699.trans (by decide))]; exact lg_self _) q9)
    refine g_goto (n := 0) (t := 1659) dL_law_714 (by decide) ?_
    refine g_drop 5 ?_
    refine g_drop 6 ?_
    exact G
theorem law_9 (Zv : zInv M) (hL : w.2.2.2.2.1 ≤ 2048) (hi : i + 4 ≤ w.2.2.2.2.1) (IH : zAft w tb cr i) : ∃ M' O', zG w (mLw tb) 12 (cr + 1) 717 [.inl (.ref w.2.2.2.1), vR 9 0, vR 10 0, vR 38 0, vI (nI i), vU, vU, vU, vU] [] (zP M O) (zrI (nI 1)) (zP M' O') := by
  obtain ⟨M1, M2, b, i2, cf, cg⟩ := o_clear (w := w) (O := O) Zv
  obtain ⟨M', O', G⟩ := IH M2 O i2
  refine ⟨M', O', zG_cr ?_⟩
  refine g_aload_n (n := 718) dL_law_717 rfl rfl ?_
  refine g_cVv (n := 721) cf dL_law_718 rfl kw_L_122 rfl (by decide) (z_lvP (by first | decide | assumption)) (Nat.le_of_ble_eq_true rfl) ⟨Nat.le_refl _, Nat.le_refl _⟩ ?_ rfl
  refine g_aload_n (n := 722) dL_law_721 rfl rfl ?_
  refine g_cVv (n := 725) cg dL_law_722 rfl kw_L_125 rfl (by decide) (z_lvP (by first | decide | assumption)) (Nat.le_of_ble_eq_true rfl) ⟨Nat.le_refl _, Nat.le_refl _⟩ ?_ rfl
  refine g_icmp_eq (n := 728) (t := 1659) dL_law_725 rfl (by decide) (fun _ => ?_) (fun q9 => absurd rfl q9)
  exact G
theorem law_10 (Zv : zInv M) (hL : w.2.2.2.2.1 ≤ 2048) (hi : i + 4 ≤ w.2.2.2.2.1) (IH : zAft w tb cr i) : ∃ M' O', zG w (mLw tb) 12 (cr + 1) 730 [.inl (.ref w.2.2.2.1), vR 9 0, vR 10 0, vR 38 0, vI (nI i), vU, vU, vU, vU] [] (zP M O) (zrI (nI 1)) (zP M' O') := by
  obtain ⟨M1, M2, b, i2, cf, cg⟩ := o_firstError (w := w) (O := O) Zv
  obtain ⟨M', O', G⟩ := IH M2 O i2
  refine ⟨M', O', zG_cr ?_⟩
  refine g_aload_n (n := 731) dL_law_730 rfl rfl ?_
  refine g_cVv (n := 734) cf dL_law_731 rfl kw_L_126 rfl (by decide) (z_lvP (by first | decide | assumption)) (Nat.le_of_ble_eq_true rfl) ⟨Nat.le_refl _, Nat.le_refl _⟩ ?_ rfl
  refine g_aload_n (n := 735) dL_law_734 rfl rfl ?_
  refine g_cVv (n := 738) cg dL_law_735 rfl kw_L_129 rfl (by decide) (z_lvP (by first | decide | assumption)) (Nat.le_of_ble_eq_true rfl) ⟨Nat.le_refl _, Nat.le_refl _⟩ ?_ rfl
  refine g_icmp_eq (n := 741) (t := 1659) dL_law_738 rfl (by decide) (fun _ => ?_) (fun q9 => absurd rfl q9)
  exact G
theorem law_11 (Zv : zInv M) (hL : w.2.2.2.2.1 ≤ 2048) (hi : i + 4 ≤ w.2.2.2.2.1) (IH : zAft w tb cr i) : ∃ M' O', zG w (mLw tb) 12 (cr + 1) 743 [.inl (.ref w.2.2.2.1), vR 9 0, vR 10 0, vR 38 0, vI (nI i), vU, vU, vU, vU] [] (zP M O) (zrI (nI 1)) (zP M' O') := by
  obtain ⟨M1, b, e, O1, hh, hb, hg⟩ := h_run (o_run (w := w) (O := O) Zv)
  obtain ⟨M2, i2, i3, cg⟩ := hg O1
  obtain ⟨M', O', G⟩ := IH M2 O1 i2
  refine ⟨M', O', ?_⟩
  refine g_aload_n (n := 744) dL_law_743 rfl rfl ?_
  refine g_aload_n (n := 745) dL_law_744 rfl rfl ?_
  refine g_cHR (n := 748) (v := some (vI e)) hh dL_law_745 rfl kz_L_130 (Nat.le_of_ble_eq_true rfl) rfl rfl ?_ rfl
  refine g_istore5 (n := 750) dL_law_748 rfl (Nat.le_of_ble_eq_true rfl) rfl ?_
  refine g_aload_n (n := 751) dL_law_750 rfl rfl ?_
  refine g_cVv (n := 754) cg dL_law_751 rfl kw_L_133 rfl (by decide) (z_lvP (by first | decide | assumption)) (Nat.le_of_ble_eq_true rfl) ⟨Nat.le_refl _, Nat.le_refl _⟩ ?_ rfl
  refine g_istore6 (n := 756) dL_law_754 rfl (Nat.le_of_ble_eq_true rfl) rfl ?_
  refine g_aload_n (n := 757) dL_law_756 rfl rfl ?_
  refine g_cVv (n := 760) r_thrown dL_law_757 rfl kw_L_92 rfl (by decide) (z_lvP (by first | decide | assumption)) (Nat.le_of_ble_eq_true rfl) ⟨Nat.le_refl _, Nat.le_refl _⟩ ?_ rfl
  refine g_iload (n := 762) dL_law_760 rfl rfl ?_
  refine g_icmp_eq (n := 765) (t := 767) dL_law_762 rfl (by decide) (fun _ => ?_) (fun q9 => absurd i3 q9)
  refine g_iload (n := 769) dL_law_767 rfl rfl ?_
  refine g_if_ne (n := 772) (t := 784) dL_law_769 rfl (by decide) (fun c769 => ?_) (fun c769 => ?_)
  · refine g_goto (n := 0) (t := 1659) dL_law_784 (by decide) ?_
    refine g_drop 5 ?_
    refine g_drop 6 ?_
    exact G
  · refine g_aload_n (n := 773) dL_law_772 rfl rfl ?_
    refine g_iconst (n := 774) dL_law_773 rfl k_ic_0 ?_
    refine g_lald (n := 775) dL_law_774 rfl (z_lvP (by first | decide | assumption)) rfl ?_
    refine g_iload (n := 777) dL_law_775 rfl rfl ?_
    refine g_i2l (n := 778) dL_law_777 rfl ?_
    refine g_lcmp (n := 779) dL_law_778 rfl ?_
    refine g_if_eq (n := 782) (t := 784) dL_law_779 rfl (by decide) (fun _ => ?_) (fun q9 => absurd (by rw [hb (c769.trans (by decide))]; exact lg_self _) q9)
    refine g_goto (n := 0) (t := 1659) dL_law_784 (by decide) ?_
    refine g_drop 5 ?_
    refine g_drop 6 ?_
    exact G
theorem law_12 (Zv : zInv M) (hL : w.2.2.2.2.1 ≤ 2048) (hi : i + 4 ≤ w.2.2.2.2.1) (IH : zAft w tb cr i) : ∃ M' O', zG w (mLw tb) 12 (cr + 1) 787 [.inl (.ref w.2.2.2.1), vR 9 0, vR 10 0, vR 38 0, vI (nI i), vU, vU, vU, vU] [] (zP M O) (zrI (nI 1)) (zP M' O') := by
  obtain ⟨M1, b, e, O1, hh, hb, hg⟩ := h_keep (w.2.2.2.2.2 (i + 1)) (o_keep (w := w) (O := O) Zv (w.2.2.2.2.2 (i + 1)))
  obtain ⟨M2, i2, i3, cg⟩ := hg O1
  obtain ⟨M', O', G⟩ := IH M2 O1 i2
  refine ⟨M', O', ?_⟩
  refine g_aload_n (n := 788) dL_law_787 rfl rfl ?_
  refine g_aload_nX (n := 789) dL_law_788 rfl rfl ?_
  refine g_iload (n := 791) dL_law_789 rfl rfl ?_
  refine g_iconst (n := 792) dL_law_791 rfl k_ic_1 ?_
  refine g_iadd (n := 793) dL_law_792 rfl ?_
  refine g_sldJ (n := 794) dL_law_793 rfl ⟨by omega, by omega⟩ ?_
  refine g_aload_n (n := 795) dL_law_794 rfl rfl ?_
  refine g_cHR (n := 798) (v := some (vI e)) hh dL_law_795 rfl kz_L_134 (Nat.le_of_ble_eq_true rfl) rfl rfl ?_ rfl
  refine g_istore5 (n := 800) dL_law_798 rfl (Nat.le_of_ble_eq_true rfl) rfl ?_
  refine g_aload_n (n := 801) dL_law_800 rfl rfl ?_
  refine g_aload_nX (n := 802) dL_law_801 rfl rfl ?_
  refine g_iload (n := 804) dL_law_802 rfl rfl ?_
  refine g_iconst (n := 805) dL_law_804 rfl k_ic_1 ?_
  refine g_iadd (n := 806) dL_law_805 rfl ?_
  refine g_sldJ (n := 807) dL_law_806 rfl ⟨by omega, by omega⟩ ?_
  refine g_cVv (n := 810) cg dL_law_807 rfl kw_L_136 rfl (by decide) (z_lvP (by first | decide | assumption)) (Nat.le_of_ble_eq_true rfl) ⟨Nat.le_refl _, Nat.le_refl _⟩ ?_ rfl
  refine g_istore6 (n := 812) dL_law_810 rfl (Nat.le_of_ble_eq_true rfl) rfl ?_
  refine g_aload_n (n := 813) dL_law_812 rfl rfl ?_
  refine g_cVv (n := 816) r_thrown dL_law_813 rfl kw_L_92 rfl (by decide) (z_lvP (by first | decide | assumption)) (Nat.le_of_ble_eq_true rfl) ⟨Nat.le_refl _, Nat.le_refl _⟩ ?_ rfl
  refine g_iload (n := 818) dL_law_816 rfl rfl ?_
  refine g_icmp_eq (n := 821) (t := 823) dL_law_818 rfl (by decide) (fun _ => ?_) (fun q9 => absurd i3 q9)
  refine g_iload (n := 825) dL_law_823 rfl rfl ?_
  refine g_if_ne (n := 828) (t := 840) dL_law_825 rfl (by decide) (fun c825 => ?_) (fun c825 => ?_)
  · refine g_goto (n := 0) (t := 1659) dL_law_840 (by decide) ?_
    refine g_drop 5 ?_
    refine g_drop 6 ?_
    exact G
  · refine g_aload_n (n := 829) dL_law_828 rfl rfl ?_
    refine g_iconst (n := 830) dL_law_829 rfl k_ic_0 ?_
    refine g_lald (n := 831) dL_law_830 rfl (z_lvP (by first | decide | assumption)) rfl ?_
    refine g_iload (n := 833) dL_law_831 rfl rfl ?_
    refine g_i2l (n := 834) dL_law_833 rfl ?_
    refine g_lcmp (n := 835) dL_law_834 rfl ?_
    refine g_if_eq (n := 838) (t := 840) dL_law_835 rfl (by decide) (fun _ => ?_) (fun q9 => absurd (by rw [hb (c825.trans (by decide))]; exact lg_self _) q9)
    refine g_goto (n := 0) (t := 1659) dL_law_840 (by decide) ?_
    refine g_drop 5 ?_
    refine g_drop 6 ?_
    exact G
theorem law_13 (Zv : zInv M) (hL : w.2.2.2.2.1 ≤ 2048) (hi : i + 4 ≤ w.2.2.2.2.1) (IH : zAft w tb cr i) : ∃ M' O', zG w (mLw tb) 12 (cr + 1) 843 [.inl (.ref w.2.2.2.1), vR 9 0, vR 10 0, vR 38 0, vI (nI i), vU, vU, vU, vU] [] (zP M O) (zrI (nI 1)) (zP M' O') := by
  obtain ⟨M1, b, e, O1, hh, hb, hg⟩ := h_goBack (w.2.2.2.2.2 (i + 1)) (o_goBack (w := w) (O := O) Zv (w.2.2.2.2.2 (i + 1)))
  obtain ⟨M2, i2, i3, cg⟩ := hg O1
  obtain ⟨M', O', G⟩ := IH M2 O1 i2
  refine ⟨M', O', ?_⟩
  refine g_aload_n (n := 844) dL_law_843 rfl rfl ?_
  refine g_aload_nX (n := 845) dL_law_844 rfl rfl ?_
  refine g_iload (n := 847) dL_law_845 rfl rfl ?_
  refine g_iconst (n := 848) dL_law_847 rfl k_ic_1 ?_
  refine g_iadd (n := 849) dL_law_848 rfl ?_
  refine g_sldJ (n := 850) dL_law_849 rfl ⟨by omega, by omega⟩ ?_
  refine g_aload_n (n := 851) dL_law_850 rfl rfl ?_
  refine g_cHR (n := 854) (v := some (vI e)) hh dL_law_851 rfl kz_L_137 (Nat.le_of_ble_eq_true rfl) rfl rfl ?_ rfl
  refine g_istore5 (n := 856) dL_law_854 rfl (Nat.le_of_ble_eq_true rfl) rfl ?_
  refine g_aload_n (n := 857) dL_law_856 rfl rfl ?_
  refine g_aload_nX (n := 858) dL_law_857 rfl rfl ?_
  refine g_iload (n := 860) dL_law_858 rfl rfl ?_
  refine g_iconst (n := 861) dL_law_860 rfl k_ic_1 ?_
  refine g_iadd (n := 862) dL_law_861 rfl ?_
  refine g_sldJ (n := 863) dL_law_862 rfl ⟨by omega, by omega⟩ ?_
  refine g_cVv (n := 866) cg dL_law_863 rfl kw_L_139 rfl (by decide) (z_lvP (by first | decide | assumption)) (Nat.le_of_ble_eq_true rfl) ⟨Nat.le_refl _, Nat.le_refl _⟩ ?_ rfl
  refine g_istore6 (n := 868) dL_law_866 rfl (Nat.le_of_ble_eq_true rfl) rfl ?_
  refine g_aload_n (n := 869) dL_law_868 rfl rfl ?_
  refine g_cVv (n := 872) r_thrown dL_law_869 rfl kw_L_92 rfl (by decide) (z_lvP (by first | decide | assumption)) (Nat.le_of_ble_eq_true rfl) ⟨Nat.le_refl _, Nat.le_refl _⟩ ?_ rfl
  refine g_iload (n := 874) dL_law_872 rfl rfl ?_
  refine g_icmp_eq (n := 877) (t := 879) dL_law_874 rfl (by decide) (fun _ => ?_) (fun q9 => absurd i3 q9)
  refine g_iload (n := 881) dL_law_879 rfl rfl ?_
  refine g_if_ne (n := 884) (t := 896) dL_law_881 rfl (by decide) (fun c881 => ?_) (fun c881 => ?_)
  · refine g_goto (n := 0) (t := 1659) dL_law_896 (by decide) ?_
    refine g_drop 5 ?_
    refine g_drop 6 ?_
    exact G
  · refine g_aload_n (n := 885) dL_law_884 rfl rfl ?_
    refine g_iconst (n := 886) dL_law_885 rfl k_ic_0 ?_
    refine g_lald (n := 887) dL_law_886 rfl (z_lvP (by first | decide | assumption)) rfl ?_
    refine g_iload (n := 889) dL_law_887 rfl rfl ?_
    refine g_i2l (n := 890) dL_law_889 rfl ?_
    refine g_lcmp (n := 891) dL_law_890 rfl ?_
    refine g_if_eq (n := 894) (t := 896) dL_law_891 rfl (by decide) (fun _ => ?_) (fun q9 => absurd (by rw [hb (c881.trans (by decide))]; exact lg_self _) q9)
    refine g_goto (n := 0) (t := 1659) dL_law_896 (by decide) ?_
    refine g_drop 5 ?_
    refine g_drop 6 ?_
    exact G
theorem law_14 (Zv : zInv M) (hL : w.2.2.2.2.1 ≤ 2048) (hi : i + 4 ≤ w.2.2.2.2.1) (IH : zAft w tb cr i) : ∃ M' O', zG w (mLw tb) 12 (cr + 1) 899 [.inl (.ref w.2.2.2.1), vR 9 0, vR 10 0, vR 38 0, vI (nI i), vU, vU, vU, vU] [] (zP M O) (zrI (nI 1)) (zP M' O') := by
  obtain ⟨M1, b, e, O1, hh, hb, hg⟩ := h_undo (o_undo (w := w) (O := O) Zv)
  obtain ⟨M2, i2, i3, cg⟩ := hg O1
  obtain ⟨M', O', G⟩ := IH M2 O1 i2
  refine ⟨M', O', ?_⟩
  refine g_aload_n (n := 900) dL_law_899 rfl rfl ?_
  refine g_aload_n (n := 901) dL_law_900 rfl rfl ?_
  refine g_cHR (n := 904) (v := some (vI e)) hh dL_law_901 rfl kz_L_140 (Nat.le_of_ble_eq_true rfl) rfl rfl ?_ rfl
  refine g_istore5 (n := 906) dL_law_904 rfl (Nat.le_of_ble_eq_true rfl) rfl ?_
  refine g_aload_n (n := 907) dL_law_906 rfl rfl ?_
  refine g_cVv (n := 910) cg dL_law_907 rfl kw_L_142 rfl (by decide) (z_lvP (by first | decide | assumption)) (Nat.le_of_ble_eq_true rfl) ⟨Nat.le_refl _, Nat.le_refl _⟩ ?_ rfl
  refine g_istore6 (n := 912) dL_law_910 rfl (Nat.le_of_ble_eq_true rfl) rfl ?_
  refine g_aload_n (n := 913) dL_law_912 rfl rfl ?_
  refine g_cVv (n := 916) r_thrown dL_law_913 rfl kw_L_92 rfl (by decide) (z_lvP (by first | decide | assumption)) (Nat.le_of_ble_eq_true rfl) ⟨Nat.le_refl _, Nat.le_refl _⟩ ?_ rfl
  refine g_iload (n := 918) dL_law_916 rfl rfl ?_
  refine g_icmp_eq (n := 921) (t := 923) dL_law_918 rfl (by decide) (fun _ => ?_) (fun q9 => absurd i3 q9)
  refine g_iload (n := 925) dL_law_923 rfl rfl ?_
  refine g_if_ne (n := 928) (t := 940) dL_law_925 rfl (by decide) (fun c925 => ?_) (fun c925 => ?_)
  · refine g_goto (n := 0) (t := 1659) dL_law_940 (by decide) ?_
    refine g_drop 5 ?_
    refine g_drop 6 ?_
    exact G
  · refine g_aload_n (n := 929) dL_law_928 rfl rfl ?_
    refine g_iconst (n := 930) dL_law_929 rfl k_ic_0 ?_
    refine g_lald (n := 931) dL_law_930 rfl (z_lvP (by first | decide | assumption)) rfl ?_
    refine g_iload (n := 933) dL_law_931 rfl rfl ?_
    refine g_i2l (n := 934) dL_law_933 rfl ?_
    refine g_lcmp (n := 935) dL_law_934 rfl ?_
    refine g_if_eq (n := 938) (t := 940) dL_law_935 rfl (by decide) (fun _ => ?_) (fun q9 => absurd (by rw [hb (c925.trans (by decide))]; exact lg_self _) q9)
    refine g_goto (n := 0) (t := 1659) dL_law_940 (by decide) ?_
    refine g_drop 5 ?_
    refine g_drop 6 ?_
    exact G
theorem law_15 (Zv : zInv M) (hL : w.2.2.2.2.1 ≤ 2048) (hi : i + 4 ≤ w.2.2.2.2.1) (IH : zAft w tb cr i) : ∃ M' O', zG w (mLw tb) 12 (cr + 1) 943 [.inl (.ref w.2.2.2.1), vR 9 0, vR 10 0, vR 38 0, vI (nI i), vU, vU, vU, vU] [] (zP M O) (zrI (nI 1)) (zP M' O') := by
  obtain ⟨M1, b, e, O1, hh, hb, hg⟩ := h_roadOf (w.2.2.2.2.2 (i + 1)) (w.2.2.2.2.2 (i + 2)) (o_roadOf (w := w) (O := O) Zv (w.2.2.2.2.2 (i + 1)) (w.2.2.2.2.2 (i + 2)))
  obtain ⟨M2, i2, i3, cg⟩ := hg O1
  obtain ⟨M', O', G⟩ := IH M2 O1 i2
  refine ⟨M', O', ?_⟩
  refine g_aload_n (n := 944) dL_law_943 rfl rfl ?_
  refine g_aload_nX (n := 945) dL_law_944 rfl rfl ?_
  refine g_iload (n := 947) dL_law_945 rfl rfl ?_
  refine g_iconst (n := 948) dL_law_947 rfl k_ic_1 ?_
  refine g_iadd (n := 949) dL_law_948 rfl ?_
  refine g_sldJ (n := 950) dL_law_949 rfl ⟨by omega, by omega⟩ ?_
  refine g_aload_nX (n := 951) dL_law_950 rfl rfl ?_
  refine g_iload (n := 953) dL_law_951 rfl rfl ?_
  refine g_iconst (n := 954) dL_law_953 rfl k_ic_2 ?_
  refine g_iadd (n := 955) dL_law_954 rfl ?_
  refine g_sldJ (n := 956) dL_law_955 rfl ⟨by omega, by omega⟩ ?_
  refine g_aload_n (n := 957) dL_law_956 rfl rfl ?_
  refine g_cHR (n := 960) (v := some (vI e)) hh dL_law_957 rfl kz_L_143 (Nat.le_of_ble_eq_true rfl) rfl rfl ?_ rfl
  refine g_istore5 (n := 962) dL_law_960 rfl (Nat.le_of_ble_eq_true rfl) rfl ?_
  refine g_aload_n (n := 963) dL_law_962 rfl rfl ?_
  refine g_aload_nX (n := 964) dL_law_963 rfl rfl ?_
  refine g_iload (n := 966) dL_law_964 rfl rfl ?_
  refine g_iconst (n := 967) dL_law_966 rfl k_ic_1 ?_
  refine g_iadd (n := 968) dL_law_967 rfl ?_
  refine g_sldJ (n := 969) dL_law_968 rfl ⟨by omega, by omega⟩ ?_
  refine g_aload_nX (n := 970) dL_law_969 rfl rfl ?_
  refine g_iload (n := 972) dL_law_970 rfl rfl ?_
  refine g_iconst (n := 973) dL_law_972 rfl k_ic_2 ?_
  refine g_iadd (n := 974) dL_law_973 rfl ?_
  refine g_sldJ (n := 975) dL_law_974 rfl ⟨by omega, by omega⟩ ?_
  refine g_cVv (n := 978) cg dL_law_975 rfl kw_L_145 rfl (by decide) (z_lvP (by first | decide | assumption)) (Nat.le_of_ble_eq_true rfl) ⟨Nat.le_refl _, Nat.le_refl _⟩ ?_ rfl
  refine g_istore6 (n := 980) dL_law_978 rfl (Nat.le_of_ble_eq_true rfl) rfl ?_
  refine g_aload_n (n := 981) dL_law_980 rfl rfl ?_
  refine g_cVv (n := 984) r_thrown dL_law_981 rfl kw_L_92 rfl (by decide) (z_lvP (by first | decide | assumption)) (Nat.le_of_ble_eq_true rfl) ⟨Nat.le_refl _, Nat.le_refl _⟩ ?_ rfl
  refine g_iload (n := 986) dL_law_984 rfl rfl ?_
  refine g_icmp_eq (n := 989) (t := 991) dL_law_986 rfl (by decide) (fun _ => ?_) (fun q9 => absurd i3 q9)
  refine g_iload (n := 993) dL_law_991 rfl rfl ?_
  refine g_if_ne (n := 996) (t := 1008) dL_law_993 rfl (by decide) (fun c993 => ?_) (fun c993 => ?_)
  · refine g_goto (n := 0) (t := 1659) dL_law_1008 (by decide) ?_
    refine g_drop 5 ?_
    refine g_drop 6 ?_
    exact G
  · refine g_aload_n (n := 997) dL_law_996 rfl rfl ?_
    refine g_iconst (n := 998) dL_law_997 rfl k_ic_0 ?_
    refine g_lald (n := 999) dL_law_998 rfl (z_lvP (by first | decide | assumption)) rfl ?_
    refine g_iload (n := 1001) dL_law_999 rfl rfl ?_
    refine g_i2l (n := 1002) dL_law_1001 rfl ?_
    refine g_lcmp (n := 1003) dL_law_1002 rfl ?_
    refine g_if_eq (n := 1006) (t := 1008) dL_law_1003 rfl (by decide) (fun _ => ?_) (fun q9 => absurd (by rw [hb (c993.trans (by decide))]; exact lg_self _) q9)
    refine g_goto (n := 0) (t := 1659) dL_law_1008 (by decide) ?_
    refine g_drop 5 ?_
    refine g_drop 6 ?_
    exact G
theorem law_16 (Zv : zInv M) (hL : w.2.2.2.2.1 ≤ 2048) (hi : i + 4 ≤ w.2.2.2.2.1) (IH : zAft w tb cr i) : ∃ M' O', zG w (mLw tb) 12 (cr + 1) 1011 [.inl (.ref w.2.2.2.1), vR 9 0, vR 10 0, vR 38 0, vI (nI i), vU, vU, vU, vU] [] (zP M O) (zrI (nI 1)) (zP M' O') := by
  obtain ⟨M1, b, e, O1, hh, hb, hg⟩ := h_distance (w.2.2.2.2.2 (i + 1)) (w.2.2.2.2.2 (i + 2)) (w.2.2.2.2.2 (i + 3)) (o_distance (w := w) (O := O) Zv (w.2.2.2.2.2 (i + 1)) (w.2.2.2.2.2 (i + 2)) (w.2.2.2.2.2 (i + 3)))
  obtain ⟨M2, i2, i3, cg⟩ := hg O1
  obtain ⟨M', O', G⟩ := IH M2 O1 i2
  refine ⟨M', O', ?_⟩
  refine g_aload_n (n := 1012) dL_law_1011 rfl rfl ?_
  refine g_aload_nX (n := 1013) dL_law_1012 rfl rfl ?_
  refine g_iload (n := 1015) dL_law_1013 rfl rfl ?_
  refine g_iconst (n := 1016) dL_law_1015 rfl k_ic_1 ?_
  refine g_iadd (n := 1017) dL_law_1016 rfl ?_
  refine g_sldJ (n := 1018) dL_law_1017 rfl ⟨by omega, by omega⟩ ?_
  refine g_aload_nX (n := 1019) dL_law_1018 rfl rfl ?_
  refine g_iload (n := 1021) dL_law_1019 rfl rfl ?_
  refine g_iconst (n := 1022) dL_law_1021 rfl k_ic_2 ?_
  refine g_iadd (n := 1023) dL_law_1022 rfl ?_
  refine g_sldJ (n := 1024) dL_law_1023 rfl ⟨by omega, by omega⟩ ?_
  refine g_aload_nX (n := 1025) dL_law_1024 rfl rfl ?_
  refine g_iload (n := 1027) dL_law_1025 rfl rfl ?_
  refine g_iconst (n := 1028) dL_law_1027 rfl k_ic_3 ?_
  refine g_iadd (n := 1029) dL_law_1028 rfl ?_
  refine g_sldJ (n := 1030) dL_law_1029 rfl ⟨by omega, by omega⟩ ?_
  refine g_aload_n (n := 1031) dL_law_1030 rfl rfl ?_
  refine g_cHR (n := 1034) (v := some (vI e)) hh dL_law_1031 rfl kz_L_146 (Nat.le_of_ble_eq_true rfl) rfl rfl ?_ rfl
  refine g_istore5 (n := 1036) dL_law_1034 rfl (Nat.le_of_ble_eq_true rfl) rfl ?_
  refine g_aload_n (n := 1037) dL_law_1036 rfl rfl ?_
  refine g_aload_nX (n := 1038) dL_law_1037 rfl rfl ?_
  refine g_iload (n := 1040) dL_law_1038 rfl rfl ?_
  refine g_iconst (n := 1041) dL_law_1040 rfl k_ic_1 ?_
  refine g_iadd (n := 1042) dL_law_1041 rfl ?_
  refine g_sldJ (n := 1043) dL_law_1042 rfl ⟨by omega, by omega⟩ ?_
  refine g_aload_nX (n := 1044) dL_law_1043 rfl rfl ?_
  refine g_iload (n := 1046) dL_law_1044 rfl rfl ?_
  refine g_iconst (n := 1047) dL_law_1046 rfl k_ic_2 ?_
  refine g_iadd (n := 1048) dL_law_1047 rfl ?_
  refine g_sldJ (n := 1049) dL_law_1048 rfl ⟨by omega, by omega⟩ ?_
  refine g_aload_nX (n := 1050) dL_law_1049 rfl rfl ?_
  refine g_iload (n := 1052) dL_law_1050 rfl rfl ?_
  refine g_iconst (n := 1053) dL_law_1052 rfl k_ic_3 ?_
  refine g_iadd (n := 1054) dL_law_1053 rfl ?_
  refine g_sldJ (n := 1055) dL_law_1054 rfl ⟨by omega, by omega⟩ ?_
  refine g_cVv (n := 1058) cg dL_law_1055 rfl kw_L_148 rfl (by decide) (z_lvP (by first | decide | assumption)) (Nat.le_of_ble_eq_true rfl) ⟨Nat.le_refl _, Nat.le_refl _⟩ ?_ rfl
  refine g_istore6 (n := 1060) dL_law_1058 rfl (Nat.le_of_ble_eq_true rfl) rfl ?_
  refine g_aload_n (n := 1061) dL_law_1060 rfl rfl ?_
  refine g_cVv (n := 1064) r_thrown dL_law_1061 rfl kw_L_92 rfl (by decide) (z_lvP (by first | decide | assumption)) (Nat.le_of_ble_eq_true rfl) ⟨Nat.le_refl _, Nat.le_refl _⟩ ?_ rfl
  refine g_iload (n := 1066) dL_law_1064 rfl rfl ?_
  refine g_icmp_eq (n := 1069) (t := 1071) dL_law_1066 rfl (by decide) (fun _ => ?_) (fun q9 => absurd i3 q9)
  refine g_iload (n := 1073) dL_law_1071 rfl rfl ?_
  refine g_if_ne (n := 1076) (t := 1088) dL_law_1073 rfl (by decide) (fun c1073 => ?_) (fun c1073 => ?_)
  · refine g_goto (n := 0) (t := 1659) dL_law_1088 (by decide) ?_
    refine g_drop 5 ?_
    refine g_drop 6 ?_
    exact G
  · refine g_aload_n (n := 1077) dL_law_1076 rfl rfl ?_
    refine g_iconst (n := 1078) dL_law_1077 rfl k_ic_0 ?_
    refine g_lald (n := 1079) dL_law_1078 rfl (z_lvP (by first | decide | assumption)) rfl ?_
    refine g_iload (n := 1081) dL_law_1079 rfl rfl ?_
    refine g_i2l (n := 1082) dL_law_1081 rfl ?_
    refine g_lcmp (n := 1083) dL_law_1082 rfl ?_
    refine g_if_eq (n := 1086) (t := 1088) dL_law_1083 rfl (by decide) (fun _ => ?_) (fun q9 => absurd (by rw [hb (c1073.trans (by decide))]; exact lg_self _) q9)
    refine g_goto (n := 0) (t := 1659) dL_law_1088 (by decide) ?_
    refine g_drop 5 ?_
    refine g_drop 6 ?_
    exact G
theorem law_17 (Zv : zInv M) (hL : w.2.2.2.2.1 ≤ 2048) (hi : i + 4 ≤ w.2.2.2.2.1) (IH : zAft w tb cr i) : ∃ M' O', zG w (mLw tb) 12 (cr + 1) 1091 [.inl (.ref w.2.2.2.1), vR 9 0, vR 10 0, vR 38 0, vI (nI i), vU, vU, vU, vU] [] (zP M O) (zrI (nI 1)) (zP M' O') := by
  obtain ⟨M1, b, e, O1, hh, hb, hg⟩ := h_exitOf (w.2.2.2.2.2 (i + 1)) (w.2.2.2.2.2 (i + 2)) (o_exitOf (w := w) (O := O) Zv (w.2.2.2.2.2 (i + 1)) (w.2.2.2.2.2 (i + 2)))
  obtain ⟨M2, i2, i3, cg⟩ := hg O1
  obtain ⟨M', O', G⟩ := IH M2 O1 i2
  refine ⟨M', O', ?_⟩
  refine g_aload_n (n := 1092) dL_law_1091 rfl rfl ?_
  refine g_aload_nX (n := 1093) dL_law_1092 rfl rfl ?_
  refine g_iload (n := 1095) dL_law_1093 rfl rfl ?_
  refine g_iconst (n := 1096) dL_law_1095 rfl k_ic_1 ?_
  refine g_iadd (n := 1097) dL_law_1096 rfl ?_
  refine g_sldJ (n := 1098) dL_law_1097 rfl ⟨by omega, by omega⟩ ?_
  refine g_aload_nX (n := 1099) dL_law_1098 rfl rfl ?_
  refine g_iload (n := 1101) dL_law_1099 rfl rfl ?_
  refine g_iconst (n := 1102) dL_law_1101 rfl k_ic_2 ?_
  refine g_iadd (n := 1103) dL_law_1102 rfl ?_
  refine g_sldJ (n := 1104) dL_law_1103 rfl ⟨by omega, by omega⟩ ?_
  refine g_aload_n (n := 1105) dL_law_1104 rfl rfl ?_
  refine g_cHR (n := 1108) (v := some (vI e)) hh dL_law_1105 rfl kz_L_149 (Nat.le_of_ble_eq_true rfl) rfl rfl ?_ rfl
  refine g_istore5 (n := 1110) dL_law_1108 rfl (Nat.le_of_ble_eq_true rfl) rfl ?_
  refine g_aload_n (n := 1111) dL_law_1110 rfl rfl ?_
  refine g_aload_nX (n := 1112) dL_law_1111 rfl rfl ?_
  refine g_iload (n := 1114) dL_law_1112 rfl rfl ?_
  refine g_iconst (n := 1115) dL_law_1114 rfl k_ic_1 ?_
  refine g_iadd (n := 1116) dL_law_1115 rfl ?_
  refine g_sldJ (n := 1117) dL_law_1116 rfl ⟨by omega, by omega⟩ ?_
  refine g_aload_nX (n := 1118) dL_law_1117 rfl rfl ?_
  refine g_iload (n := 1120) dL_law_1118 rfl rfl ?_
  refine g_iconst (n := 1121) dL_law_1120 rfl k_ic_2 ?_
  refine g_iadd (n := 1122) dL_law_1121 rfl ?_
  refine g_sldJ (n := 1123) dL_law_1122 rfl ⟨by omega, by omega⟩ ?_
  refine g_cVv (n := 1126) cg dL_law_1123 rfl kw_L_151 rfl (by decide) (z_lvP (by first | decide | assumption)) (Nat.le_of_ble_eq_true rfl) ⟨Nat.le_refl _, Nat.le_refl _⟩ ?_ rfl
  refine g_istore6 (n := 1128) dL_law_1126 rfl (Nat.le_of_ble_eq_true rfl) rfl ?_
  refine g_aload_n (n := 1129) dL_law_1128 rfl rfl ?_
  refine g_cVv (n := 1132) r_thrown dL_law_1129 rfl kw_L_92 rfl (by decide) (z_lvP (by first | decide | assumption)) (Nat.le_of_ble_eq_true rfl) ⟨Nat.le_refl _, Nat.le_refl _⟩ ?_ rfl
  refine g_iload (n := 1134) dL_law_1132 rfl rfl ?_
  refine g_icmp_eq (n := 1137) (t := 1139) dL_law_1134 rfl (by decide) (fun _ => ?_) (fun q9 => absurd i3 q9)
  refine g_iload (n := 1141) dL_law_1139 rfl rfl ?_
  refine g_if_ne (n := 1144) (t := 1156) dL_law_1141 rfl (by decide) (fun c1141 => ?_) (fun c1141 => ?_)
  · refine g_goto (n := 0) (t := 1659) dL_law_1156 (by decide) ?_
    refine g_drop 5 ?_
    refine g_drop 6 ?_
    exact G
  · refine g_aload_n (n := 1145) dL_law_1144 rfl rfl ?_
    refine g_iconst (n := 1146) dL_law_1145 rfl k_ic_0 ?_
    refine g_lald (n := 1147) dL_law_1146 rfl (z_lvP (by first | decide | assumption)) rfl ?_
    refine g_iload (n := 1149) dL_law_1147 rfl rfl ?_
    refine g_i2l (n := 1150) dL_law_1149 rfl ?_
    refine g_lcmp (n := 1151) dL_law_1150 rfl ?_
    refine g_if_eq (n := 1154) (t := 1156) dL_law_1151 rfl (by decide) (fun _ => ?_) (fun q9 => absurd (by rw [hb (c1141.trans (by decide))]; exact lg_self _) q9)
    refine g_goto (n := 0) (t := 1659) dL_law_1156 (by decide) ?_
    refine g_drop 5 ?_
    refine g_drop 6 ?_
    exact G
theorem law_18 (Zv : zInv M) (hL : w.2.2.2.2.1 ≤ 2048) (hi : i + 4 ≤ w.2.2.2.2.1) (IH : zAft w tb cr i) : ∃ M' O', zG w (mLw tb) 12 (cr + 1) 1159 [.inl (.ref w.2.2.2.1), vR 9 0, vR 10 0, vR 38 0, vI (nI i), vU, vU, vU, vU] [] (zP M O) (zrI (nI 1)) (zP M' O') := by
  obtain ⟨M1, b, e, O1, hh, hb, hg⟩ := h_neighbourOf (w.2.2.2.2.2 (i + 1)) (w.2.2.2.2.2 (i + 2)) (o_neighbourOf (w := w) (O := O) Zv (w.2.2.2.2.2 (i + 1)) (w.2.2.2.2.2 (i + 2)))
  obtain ⟨M2, i2, i3, cg⟩ := hg O1
  obtain ⟨M', O', G⟩ := IH M2 O1 i2
  refine ⟨M', O', ?_⟩
  refine g_aload_n (n := 1160) dL_law_1159 rfl rfl ?_
  refine g_aload_nX (n := 1161) dL_law_1160 rfl rfl ?_
  refine g_iload (n := 1163) dL_law_1161 rfl rfl ?_
  refine g_iconst (n := 1164) dL_law_1163 rfl k_ic_1 ?_
  refine g_iadd (n := 1165) dL_law_1164 rfl ?_
  refine g_sldJ (n := 1166) dL_law_1165 rfl ⟨by omega, by omega⟩ ?_
  refine g_aload_nX (n := 1167) dL_law_1166 rfl rfl ?_
  refine g_iload (n := 1169) dL_law_1167 rfl rfl ?_
  refine g_iconst (n := 1170) dL_law_1169 rfl k_ic_2 ?_
  refine g_iadd (n := 1171) dL_law_1170 rfl ?_
  refine g_sldJ (n := 1172) dL_law_1171 rfl ⟨by omega, by omega⟩ ?_
  refine g_aload_n (n := 1173) dL_law_1172 rfl rfl ?_
  refine g_cHR (n := 1176) (v := some (vI e)) hh dL_law_1173 rfl kz_L_152 (Nat.le_of_ble_eq_true rfl) rfl rfl ?_ rfl
  refine g_istore5 (n := 1178) dL_law_1176 rfl (Nat.le_of_ble_eq_true rfl) rfl ?_
  refine g_aload_n (n := 1179) dL_law_1178 rfl rfl ?_
  refine g_aload_nX (n := 1180) dL_law_1179 rfl rfl ?_
  refine g_iload (n := 1182) dL_law_1180 rfl rfl ?_
  refine g_iconst (n := 1183) dL_law_1182 rfl k_ic_1 ?_
  refine g_iadd (n := 1184) dL_law_1183 rfl ?_
  refine g_sldJ (n := 1185) dL_law_1184 rfl ⟨by omega, by omega⟩ ?_
  refine g_aload_nX (n := 1186) dL_law_1185 rfl rfl ?_
  refine g_iload (n := 1188) dL_law_1186 rfl rfl ?_
  refine g_iconst (n := 1189) dL_law_1188 rfl k_ic_2 ?_
  refine g_iadd (n := 1190) dL_law_1189 rfl ?_
  refine g_sldJ (n := 1191) dL_law_1190 rfl ⟨by omega, by omega⟩ ?_
  refine g_cVv (n := 1194) cg dL_law_1191 rfl kw_L_154 rfl (by decide) (z_lvP (by first | decide | assumption)) (Nat.le_of_ble_eq_true rfl) ⟨Nat.le_refl _, Nat.le_refl _⟩ ?_ rfl
  refine g_istore6 (n := 1196) dL_law_1194 rfl (Nat.le_of_ble_eq_true rfl) rfl ?_
  refine g_aload_n (n := 1197) dL_law_1196 rfl rfl ?_
  refine g_cVv (n := 1200) r_thrown dL_law_1197 rfl kw_L_92 rfl (by decide) (z_lvP (by first | decide | assumption)) (Nat.le_of_ble_eq_true rfl) ⟨Nat.le_refl _, Nat.le_refl _⟩ ?_ rfl
  refine g_iload (n := 1202) dL_law_1200 rfl rfl ?_
  refine g_icmp_eq (n := 1205) (t := 1207) dL_law_1202 rfl (by decide) (fun _ => ?_) (fun q9 => absurd i3 q9)
  refine g_iload (n := 1209) dL_law_1207 rfl rfl ?_
  refine g_if_ne (n := 1212) (t := 1224) dL_law_1209 rfl (by decide) (fun c1209 => ?_) (fun c1209 => ?_)
  · refine g_goto (n := 0) (t := 1659) dL_law_1224 (by decide) ?_
    refine g_drop 5 ?_
    refine g_drop 6 ?_
    exact G
  · refine g_aload_n (n := 1213) dL_law_1212 rfl rfl ?_
    refine g_iconst (n := 1214) dL_law_1213 rfl k_ic_0 ?_
    refine g_lald (n := 1215) dL_law_1214 rfl (z_lvP (by first | decide | assumption)) rfl ?_
    refine g_iload (n := 1217) dL_law_1215 rfl rfl ?_
    refine g_i2l (n := 1218) dL_law_1217 rfl ?_
    refine g_lcmp (n := 1219) dL_law_1218 rfl ?_
    refine g_if_eq (n := 1222) (t := 1224) dL_law_1219 rfl (by decide) (fun _ => ?_) (fun q9 => absurd (by rw [hb (c1209.trans (by decide))]; exact lg_self _) q9)
    refine g_goto (n := 0) (t := 1659) dL_law_1224 (by decide) ?_
    refine g_drop 5 ?_
    refine g_drop 6 ?_
    exact G
theorem law_19 (Zv : zInv M) (hL : w.2.2.2.2.1 ≤ 2048) (hi : i + 4 ≤ w.2.2.2.2.1) (IH : zAft w tb cr i) : ∃ M' O', zG w (mLw tb) 12 (cr + 1) 1227 [.inl (.ref w.2.2.2.1), vR 9 0, vR 10 0, vR 38 0, vI (nI i), vU, vU, vU, vU] [] (zP M O) (zrI (nI 1)) (zP M' O') := by
  obtain ⟨M1, b, e, O1, hh, hb, hg⟩ := h_choice (w.2.2.2.2.2 (i + 1)) (w.2.2.2.2.2 (i + 2)) (w.2.2.2.2.2 (i + 3)) (o_choice (w := w) (O := O) Zv (w.2.2.2.2.2 (i + 1)) (w.2.2.2.2.2 (i + 2)) (w.2.2.2.2.2 (i + 3)))
  obtain ⟨M2, i2, i3, cg⟩ := hg O1
  obtain ⟨M', O', G⟩ := IH M2 O1 i2
  refine ⟨M', O', ?_⟩
  refine g_aload_n (n := 1228) dL_law_1227 rfl rfl ?_
  refine g_aload_nX (n := 1229) dL_law_1228 rfl rfl ?_
  refine g_iload (n := 1231) dL_law_1229 rfl rfl ?_
  refine g_iconst (n := 1232) dL_law_1231 rfl k_ic_1 ?_
  refine g_iadd (n := 1233) dL_law_1232 rfl ?_
  refine g_sldJ (n := 1234) dL_law_1233 rfl ⟨by omega, by omega⟩ ?_
  refine g_aload_nX (n := 1235) dL_law_1234 rfl rfl ?_
  refine g_iload (n := 1237) dL_law_1235 rfl rfl ?_
  refine g_iconst (n := 1238) dL_law_1237 rfl k_ic_2 ?_
  refine g_iadd (n := 1239) dL_law_1238 rfl ?_
  refine g_sldJ (n := 1240) dL_law_1239 rfl ⟨by omega, by omega⟩ ?_
  refine g_aload_nX (n := 1241) dL_law_1240 rfl rfl ?_
  refine g_iload (n := 1243) dL_law_1241 rfl rfl ?_
  refine g_iconst (n := 1244) dL_law_1243 rfl k_ic_3 ?_
  refine g_iadd (n := 1245) dL_law_1244 rfl ?_
  refine g_sldJ (n := 1246) dL_law_1245 rfl ⟨by omega, by omega⟩ ?_
  refine g_aload_n (n := 1247) dL_law_1246 rfl rfl ?_
  refine g_cHR (n := 1250) (v := some (vI e)) hh dL_law_1247 rfl kz_L_155 (Nat.le_of_ble_eq_true rfl) rfl rfl ?_ rfl
  refine g_istore5 (n := 1252) dL_law_1250 rfl (Nat.le_of_ble_eq_true rfl) rfl ?_
  refine g_aload_n (n := 1253) dL_law_1252 rfl rfl ?_
  refine g_aload_nX (n := 1254) dL_law_1253 rfl rfl ?_
  refine g_iload (n := 1256) dL_law_1254 rfl rfl ?_
  refine g_iconst (n := 1257) dL_law_1256 rfl k_ic_1 ?_
  refine g_iadd (n := 1258) dL_law_1257 rfl ?_
  refine g_sldJ (n := 1259) dL_law_1258 rfl ⟨by omega, by omega⟩ ?_
  refine g_aload_nX (n := 1260) dL_law_1259 rfl rfl ?_
  refine g_iload (n := 1262) dL_law_1260 rfl rfl ?_
  refine g_iconst (n := 1263) dL_law_1262 rfl k_ic_2 ?_
  refine g_iadd (n := 1264) dL_law_1263 rfl ?_
  refine g_sldJ (n := 1265) dL_law_1264 rfl ⟨by omega, by omega⟩ ?_
  refine g_aload_nX (n := 1266) dL_law_1265 rfl rfl ?_
  refine g_iload (n := 1268) dL_law_1266 rfl rfl ?_
  refine g_iconst (n := 1269) dL_law_1268 rfl k_ic_3 ?_
  refine g_iadd (n := 1270) dL_law_1269 rfl ?_
  refine g_sldJ (n := 1271) dL_law_1270 rfl ⟨by omega, by omega⟩ ?_
  refine g_cVv (n := 1274) cg dL_law_1271 rfl kw_L_157 rfl (by decide) (z_lvP (by first | decide | assumption)) (Nat.le_of_ble_eq_true rfl) ⟨Nat.le_refl _, Nat.le_refl _⟩ ?_ rfl
  refine g_istore6 (n := 1276) dL_law_1274 rfl (Nat.le_of_ble_eq_true rfl) rfl ?_
  refine g_aload_n (n := 1277) dL_law_1276 rfl rfl ?_
  refine g_cVv (n := 1280) r_thrown dL_law_1277 rfl kw_L_92 rfl (by decide) (z_lvP (by first | decide | assumption)) (Nat.le_of_ble_eq_true rfl) ⟨Nat.le_refl _, Nat.le_refl _⟩ ?_ rfl
  refine g_iload (n := 1282) dL_law_1280 rfl rfl ?_
  refine g_icmp_eq (n := 1285) (t := 1287) dL_law_1282 rfl (by decide) (fun _ => ?_) (fun q9 => absurd i3 q9)
  refine g_iload (n := 1289) dL_law_1287 rfl rfl ?_
  refine g_if_ne (n := 1292) (t := 1304) dL_law_1289 rfl (by decide) (fun c1289 => ?_) (fun c1289 => ?_)
  · refine g_goto (n := 0) (t := 1659) dL_law_1304 (by decide) ?_
    refine g_drop 5 ?_
    refine g_drop 6 ?_
    exact G
  · refine g_aload_n (n := 1293) dL_law_1292 rfl rfl ?_
    refine g_iconst (n := 1294) dL_law_1293 rfl k_ic_0 ?_
    refine g_lald (n := 1295) dL_law_1294 rfl (z_lvP (by first | decide | assumption)) rfl ?_
    refine g_iload (n := 1297) dL_law_1295 rfl rfl ?_
    refine g_i2l (n := 1298) dL_law_1297 rfl ?_
    refine g_lcmp (n := 1299) dL_law_1298 rfl ?_
    refine g_if_eq (n := 1302) (t := 1304) dL_law_1299 rfl (by decide) (fun _ => ?_) (fun q9 => absurd (by rw [hb (c1289.trans (by decide))]; exact lg_self _) q9)
    refine g_goto (n := 0) (t := 1659) dL_law_1304 (by decide) ?_
    refine g_drop 5 ?_
    refine g_drop 6 ?_
    exact G
theorem law_20 (Zv : zInv M) (hL : w.2.2.2.2.1 ≤ 2048) (hi : i + 4 ≤ w.2.2.2.2.1) (IH : zAft w tb cr i) : ∃ M' O', zG w (mLw tb) 12 (cr + 1) 1307 [.inl (.ref w.2.2.2.1), vR 9 0, vR 10 0, vR 38 0, vI (nI i), vU, vU, vU, vU] [] (zP M O) (zrI (nI 1)) (zP M' O') := by
  obtain ⟨M1, b, e, O1, hh, hb, hg⟩ := h_why (w.2.2.2.2.2 (i + 1)) (w.2.2.2.2.2 (i + 2)) (w.2.2.2.2.2 (i + 3)) (o_why (w := w) (O := O) Zv (w.2.2.2.2.2 (i + 1)) (w.2.2.2.2.2 (i + 2)) (w.2.2.2.2.2 (i + 3)))
  obtain ⟨M2, i2, i3, cg⟩ := hg O1
  obtain ⟨M', O', G⟩ := IH M2 O1 i2
  refine ⟨M', O', ?_⟩
  refine g_aload_n (n := 1308) dL_law_1307 rfl rfl ?_
  refine g_aload_nX (n := 1309) dL_law_1308 rfl rfl ?_
  refine g_iload (n := 1311) dL_law_1309 rfl rfl ?_
  refine g_iconst (n := 1312) dL_law_1311 rfl k_ic_1 ?_
  refine g_iadd (n := 1313) dL_law_1312 rfl ?_
  refine g_sldJ (n := 1314) dL_law_1313 rfl ⟨by omega, by omega⟩ ?_
  refine g_aload_nX (n := 1315) dL_law_1314 rfl rfl ?_
  refine g_iload (n := 1317) dL_law_1315 rfl rfl ?_
  refine g_iconst (n := 1318) dL_law_1317 rfl k_ic_2 ?_
  refine g_iadd (n := 1319) dL_law_1318 rfl ?_
  refine g_sldJ (n := 1320) dL_law_1319 rfl ⟨by omega, by omega⟩ ?_
  refine g_aload_nX (n := 1321) dL_law_1320 rfl rfl ?_
  refine g_iload (n := 1323) dL_law_1321 rfl rfl ?_
  refine g_iconst (n := 1324) dL_law_1323 rfl k_ic_3 ?_
  refine g_iadd (n := 1325) dL_law_1324 rfl ?_
  refine g_sldJ (n := 1326) dL_law_1325 rfl ⟨by omega, by omega⟩ ?_
  refine g_aload_n (n := 1327) dL_law_1326 rfl rfl ?_
  refine g_cHR (n := 1330) (v := some (vI e)) hh dL_law_1327 rfl kz_L_158 (Nat.le_of_ble_eq_true rfl) rfl rfl ?_ rfl
  refine g_istore5 (n := 1332) dL_law_1330 rfl (Nat.le_of_ble_eq_true rfl) rfl ?_
  refine g_aload_n (n := 1333) dL_law_1332 rfl rfl ?_
  refine g_aload_nX (n := 1334) dL_law_1333 rfl rfl ?_
  refine g_iload (n := 1336) dL_law_1334 rfl rfl ?_
  refine g_iconst (n := 1337) dL_law_1336 rfl k_ic_1 ?_
  refine g_iadd (n := 1338) dL_law_1337 rfl ?_
  refine g_sldJ (n := 1339) dL_law_1338 rfl ⟨by omega, by omega⟩ ?_
  refine g_aload_nX (n := 1340) dL_law_1339 rfl rfl ?_
  refine g_iload (n := 1342) dL_law_1340 rfl rfl ?_
  refine g_iconst (n := 1343) dL_law_1342 rfl k_ic_2 ?_
  refine g_iadd (n := 1344) dL_law_1343 rfl ?_
  refine g_sldJ (n := 1345) dL_law_1344 rfl ⟨by omega, by omega⟩ ?_
  refine g_aload_nX (n := 1346) dL_law_1345 rfl rfl ?_
  refine g_iload (n := 1348) dL_law_1346 rfl rfl ?_
  refine g_iconst (n := 1349) dL_law_1348 rfl k_ic_3 ?_
  refine g_iadd (n := 1350) dL_law_1349 rfl ?_
  refine g_sldJ (n := 1351) dL_law_1350 rfl ⟨by omega, by omega⟩ ?_
  refine g_cVv (n := 1354) cg dL_law_1351 rfl kw_L_160 rfl (by decide) (z_lvP (by first | decide | assumption)) (Nat.le_of_ble_eq_true rfl) ⟨Nat.le_refl _, Nat.le_refl _⟩ ?_ rfl
  refine g_istore6 (n := 1356) dL_law_1354 rfl (Nat.le_of_ble_eq_true rfl) rfl ?_
  refine g_aload_n (n := 1357) dL_law_1356 rfl rfl ?_
  refine g_cVv (n := 1360) r_thrown dL_law_1357 rfl kw_L_92 rfl (by decide) (z_lvP (by first | decide | assumption)) (Nat.le_of_ble_eq_true rfl) ⟨Nat.le_refl _, Nat.le_refl _⟩ ?_ rfl
  refine g_iload (n := 1362) dL_law_1360 rfl rfl ?_
  refine g_icmp_eq (n := 1365) (t := 1367) dL_law_1362 rfl (by decide) (fun _ => ?_) (fun q9 => absurd i3 q9)
  refine g_iload (n := 1369) dL_law_1367 rfl rfl ?_
  refine g_if_ne (n := 1372) (t := 1384) dL_law_1369 rfl (by decide) (fun c1369 => ?_) (fun c1369 => ?_)
  · refine g_goto (n := 0) (t := 1659) dL_law_1384 (by decide) ?_
    refine g_drop 5 ?_
    refine g_drop 6 ?_
    exact G
  · refine g_aload_n (n := 1373) dL_law_1372 rfl rfl ?_
    refine g_iconst (n := 1374) dL_law_1373 rfl k_ic_0 ?_
    refine g_lald (n := 1375) dL_law_1374 rfl (z_lvP (by first | decide | assumption)) rfl ?_
    refine g_iload (n := 1377) dL_law_1375 rfl rfl ?_
    refine g_i2l (n := 1378) dL_law_1377 rfl ?_
    refine g_lcmp (n := 1379) dL_law_1378 rfl ?_
    refine g_if_eq (n := 1382) (t := 1384) dL_law_1379 rfl (by decide) (fun _ => ?_) (fun q9 => absurd (by rw [hb (c1369.trans (by decide))]; exact lg_self _) q9)
    refine g_goto (n := 0) (t := 1659) dL_law_1384 (by decide) ?_
    refine g_drop 5 ?_
    refine g_drop 6 ?_
    exact G
theorem law_21 (Zv : zInv M) (hL : w.2.2.2.2.1 ≤ 2048) (hi : i + 4 ≤ w.2.2.2.2.1) (IH : zAft w tb cr i) : ∃ M' O', zG w (mLw tb) 12 (cr + 1) 1387 [.inl (.ref w.2.2.2.1), vR 9 0, vR 10 0, vR 38 0, vI (nI i), vU, vU, vU, vU] [] (zP M O) (zrI (nI 1)) (zP M' O') := by
  obtain ⟨M1, b, e, O1, hh, hb, hg⟩ := h_count (w.2.2.2.2.2 (i + 1)) (o_count (w := w) (O := O) Zv (w.2.2.2.2.2 (i + 1)))
  obtain ⟨M2, i2, i3, cg⟩ := hg O1
  obtain ⟨M', O', G⟩ := IH M2 O1 i2
  refine ⟨M', O', ?_⟩
  refine g_aload_n (n := 1388) dL_law_1387 rfl rfl ?_
  refine g_aload_nX (n := 1389) dL_law_1388 rfl rfl ?_
  refine g_iload (n := 1391) dL_law_1389 rfl rfl ?_
  refine g_iconst (n := 1392) dL_law_1391 rfl k_ic_1 ?_
  refine g_iadd (n := 1393) dL_law_1392 rfl ?_
  refine g_sldJ (n := 1394) dL_law_1393 rfl ⟨by omega, by omega⟩ ?_
  refine g_aload_n (n := 1395) dL_law_1394 rfl rfl ?_
  refine g_cHR (n := 1398) (v := some (vI e)) hh dL_law_1395 rfl kz_L_161 (Nat.le_of_ble_eq_true rfl) rfl rfl ?_ rfl
  refine g_istore5 (n := 1400) dL_law_1398 rfl (Nat.le_of_ble_eq_true rfl) rfl ?_
  refine g_aload_n (n := 1401) dL_law_1400 rfl rfl ?_
  refine g_aload_nX (n := 1402) dL_law_1401 rfl rfl ?_
  refine g_iload (n := 1404) dL_law_1402 rfl rfl ?_
  refine g_iconst (n := 1405) dL_law_1404 rfl k_ic_1 ?_
  refine g_iadd (n := 1406) dL_law_1405 rfl ?_
  refine g_sldJ (n := 1407) dL_law_1406 rfl ⟨by omega, by omega⟩ ?_
  refine g_cVv (n := 1410) cg dL_law_1407 rfl kw_L_163 rfl (by decide) (z_lvP (by first | decide | assumption)) (Nat.le_of_ble_eq_true rfl) ⟨Nat.le_refl _, Nat.le_refl _⟩ ?_ rfl
  refine g_istore6 (n := 1412) dL_law_1410 rfl (Nat.le_of_ble_eq_true rfl) rfl ?_
  refine g_aload_n (n := 1413) dL_law_1412 rfl rfl ?_
  refine g_cVv (n := 1416) r_thrown dL_law_1413 rfl kw_L_92 rfl (by decide) (z_lvP (by first | decide | assumption)) (Nat.le_of_ble_eq_true rfl) ⟨Nat.le_refl _, Nat.le_refl _⟩ ?_ rfl
  refine g_iload (n := 1418) dL_law_1416 rfl rfl ?_
  refine g_icmp_eq (n := 1421) (t := 1423) dL_law_1418 rfl (by decide) (fun _ => ?_) (fun q9 => absurd i3 q9)
  refine g_iload (n := 1425) dL_law_1423 rfl rfl ?_
  refine g_if_ne (n := 1428) (t := 1440) dL_law_1425 rfl (by decide) (fun c1425 => ?_) (fun c1425 => ?_)
  · refine g_goto (n := 0) (t := 1659) dL_law_1440 (by decide) ?_
    refine g_drop 5 ?_
    refine g_drop 6 ?_
    exact G
  · refine g_aload_n (n := 1429) dL_law_1428 rfl rfl ?_
    refine g_iconst (n := 1430) dL_law_1429 rfl k_ic_0 ?_
    refine g_lald (n := 1431) dL_law_1430 rfl (z_lvP (by first | decide | assumption)) rfl ?_
    refine g_iload (n := 1433) dL_law_1431 rfl rfl ?_
    refine g_i2l (n := 1434) dL_law_1433 rfl ?_
    refine g_lcmp (n := 1435) dL_law_1434 rfl ?_
    refine g_if_eq (n := 1438) (t := 1440) dL_law_1435 rfl (by decide) (fun _ => ?_) (fun q9 => absurd (by rw [hb (c1425.trans (by decide))]; exact lg_self _) q9)
    refine g_goto (n := 0) (t := 1659) dL_law_1440 (by decide) ?_
    refine g_drop 5 ?_
    refine g_drop 6 ?_
    exact G
theorem law_22 (Zv : zInv M) (hL : w.2.2.2.2.1 ≤ 2048) (hi : i + 4 ≤ w.2.2.2.2.1) (IH : zAft w tb cr i) : ∃ M' O', zG w (mLw tb) 12 (cr + 1) 1443 [.inl (.ref w.2.2.2.1), vR 9 0, vR 10 0, vR 38 0, vI (nI i), vU, vU, vU, vU] [] (zP M O) (zrI (nI 1)) (zP M' O') := by
  obtain ⟨M1, b, e, O1, hh, hb, hg⟩ := h_ifRoad (w.2.2.2.2.2 (i + 1)) (w.2.2.2.2.2 (i + 2)) (w.2.2.2.2.2 (i + 3)) (o_ifRoad (w := w) (O := O) Zv (w.2.2.2.2.2 (i + 1)) (w.2.2.2.2.2 (i + 2)) (w.2.2.2.2.2 (i + 3)))
  obtain ⟨M2, i2, i3, cg⟩ := hg O1
  obtain ⟨M', O', G⟩ := IH M2 O1 i2
  refine ⟨M', O', ?_⟩
  refine g_aload_n (n := 1444) dL_law_1443 rfl rfl ?_
  refine g_aload_nX (n := 1445) dL_law_1444 rfl rfl ?_
  refine g_iload (n := 1447) dL_law_1445 rfl rfl ?_
  refine g_iconst (n := 1448) dL_law_1447 rfl k_ic_1 ?_
  refine g_iadd (n := 1449) dL_law_1448 rfl ?_
  refine g_sldJ (n := 1450) dL_law_1449 rfl ⟨by omega, by omega⟩ ?_
  refine g_aload_nX (n := 1451) dL_law_1450 rfl rfl ?_
  refine g_iload (n := 1453) dL_law_1451 rfl rfl ?_
  refine g_iconst (n := 1454) dL_law_1453 rfl k_ic_2 ?_
  refine g_iadd (n := 1455) dL_law_1454 rfl ?_
  refine g_sldJ (n := 1456) dL_law_1455 rfl ⟨by omega, by omega⟩ ?_
  refine g_aload_nX (n := 1457) dL_law_1456 rfl rfl ?_
  refine g_iload (n := 1459) dL_law_1457 rfl rfl ?_
  refine g_iconst (n := 1460) dL_law_1459 rfl k_ic_3 ?_
  refine g_iadd (n := 1461) dL_law_1460 rfl ?_
  refine g_sldJ (n := 1462) dL_law_1461 rfl ⟨by omega, by omega⟩ ?_
  refine g_aload_n (n := 1463) dL_law_1462 rfl rfl ?_
  refine g_cHR (n := 1466) (v := some (vI e)) hh dL_law_1463 rfl kz_L_164 (Nat.le_of_ble_eq_true rfl) rfl rfl ?_ rfl
  refine g_istore5 (n := 1468) dL_law_1466 rfl (Nat.le_of_ble_eq_true rfl) rfl ?_
  refine g_aload_n (n := 1469) dL_law_1468 rfl rfl ?_
  refine g_aload_nX (n := 1470) dL_law_1469 rfl rfl ?_
  refine g_iload (n := 1472) dL_law_1470 rfl rfl ?_
  refine g_iconst (n := 1473) dL_law_1472 rfl k_ic_1 ?_
  refine g_iadd (n := 1474) dL_law_1473 rfl ?_
  refine g_sldJ (n := 1475) dL_law_1474 rfl ⟨by omega, by omega⟩ ?_
  refine g_aload_nX (n := 1476) dL_law_1475 rfl rfl ?_
  refine g_iload (n := 1478) dL_law_1476 rfl rfl ?_
  refine g_iconst (n := 1479) dL_law_1478 rfl k_ic_2 ?_
  refine g_iadd (n := 1480) dL_law_1479 rfl ?_
  refine g_sldJ (n := 1481) dL_law_1480 rfl ⟨by omega, by omega⟩ ?_
  refine g_aload_nX (n := 1482) dL_law_1481 rfl rfl ?_
  refine g_iload (n := 1484) dL_law_1482 rfl rfl ?_
  refine g_iconst (n := 1485) dL_law_1484 rfl k_ic_3 ?_
  refine g_iadd (n := 1486) dL_law_1485 rfl ?_
  refine g_sldJ (n := 1487) dL_law_1486 rfl ⟨by omega, by omega⟩ ?_
  refine g_cVv (n := 1490) cg dL_law_1487 rfl kw_L_166 rfl (by decide) (z_lvP (by first | decide | assumption)) (Nat.le_of_ble_eq_true rfl) ⟨Nat.le_refl _, Nat.le_refl _⟩ ?_ rfl
  refine g_istore6 (n := 1492) dL_law_1490 rfl (Nat.le_of_ble_eq_true rfl) rfl ?_
  refine g_aload_n (n := 1493) dL_law_1492 rfl rfl ?_
  refine g_cVv (n := 1496) r_thrown dL_law_1493 rfl kw_L_92 rfl (by decide) (z_lvP (by first | decide | assumption)) (Nat.le_of_ble_eq_true rfl) ⟨Nat.le_refl _, Nat.le_refl _⟩ ?_ rfl
  refine g_iload (n := 1498) dL_law_1496 rfl rfl ?_
  refine g_icmp_eq (n := 1501) (t := 1503) dL_law_1498 rfl (by decide) (fun _ => ?_) (fun q9 => absurd i3 q9)
  refine g_iload (n := 1505) dL_law_1503 rfl rfl ?_
  refine g_if_ne (n := 1508) (t := 1520) dL_law_1505 rfl (by decide) (fun c1505 => ?_) (fun c1505 => ?_)
  · refine g_goto (n := 0) (t := 1659) dL_law_1520 (by decide) ?_
    refine g_drop 5 ?_
    refine g_drop 6 ?_
    exact G
  · refine g_aload_n (n := 1509) dL_law_1508 rfl rfl ?_
    refine g_iconst (n := 1510) dL_law_1509 rfl k_ic_0 ?_
    refine g_lald (n := 1511) dL_law_1510 rfl (z_lvP (by first | decide | assumption)) rfl ?_
    refine g_iload (n := 1513) dL_law_1511 rfl rfl ?_
    refine g_i2l (n := 1514) dL_law_1513 rfl ?_
    refine g_lcmp (n := 1515) dL_law_1514 rfl ?_
    refine g_if_eq (n := 1518) (t := 1520) dL_law_1515 rfl (by decide) (fun _ => ?_) (fun q9 => absurd (by rw [hb (c1505.trans (by decide))]; exact lg_self _) q9)
    refine g_goto (n := 0) (t := 1659) dL_law_1520 (by decide) ?_
    refine g_drop 5 ?_
    refine g_drop 6 ?_
    exact G
theorem law_23 (Zv : zInv M) (hL : w.2.2.2.2.1 ≤ 2048) (hi : i + 4 ≤ w.2.2.2.2.1) (IH : zAft w tb cr i) : ∃ M' O', zG w (mLw tb) 12 (cr + 1) 1523 [.inl (.ref w.2.2.2.1), vR 9 0, vR 10 0, vR 38 0, vI (nI i), vU, vU, vU, vU] [] (zP M O) (zrI (nI 1)) (zP M' O') := by
  obtain ⟨M1, M2, b, i2, cf, cg⟩ := o_dearest (w := w) (O := O) Zv
  obtain ⟨M', O', G⟩ := IH M2 O i2
  refine ⟨M', O', zG_cr ?_⟩
  refine g_aload_n (n := 1524) dL_law_1523 rfl rfl ?_
  refine g_cVv (n := 1527) cf dL_law_1524 rfl kw_L_167 rfl (by decide) (z_lvP (by first | decide | assumption)) (Nat.le_of_ble_eq_true rfl) ⟨Nat.le_refl _, Nat.le_refl _⟩ ?_ rfl
  refine g_aload_n (n := 1528) dL_law_1527 rfl rfl ?_
  refine g_cVv (n := 1531) cg dL_law_1528 rfl kw_L_170 rfl (by decide) (z_lvP (by first | decide | assumption)) (Nat.le_of_ble_eq_true rfl) ⟨Nat.le_refl _, Nat.le_refl _⟩ ?_ rfl
  refine g_icmp_eq (n := 1534) (t := 1659) dL_law_1531 rfl (by decide) (fun _ => ?_) (fun q9 => absurd rfl q9)
  exact G
theorem law_24 (Zv : zInv M) (hL : w.2.2.2.2.1 ≤ 2048) (hi : i + 4 ≤ w.2.2.2.2.1) (IH : zAft w tb cr i) : ∃ M' O', zG w (mLw tb) 12 (cr + 1) 1536 [.inl (.ref w.2.2.2.1), vR 9 0, vR 10 0, vR 38 0, vI (nI i), vU, vU, vU, vU] [] (zP M O) (zrI (nI 1)) (zP M' O') := by
  obtain ⟨M1, b, e, O1, hh, hb, hg⟩ := h_idle (w.2.2.2.2.2 (i + 1)) (w.2.2.2.2.2 (i + 2)) (o_idle (w := w) (O := O) Zv (w.2.2.2.2.2 (i + 1)) (w.2.2.2.2.2 (i + 2)))
  obtain ⟨M2, i2, i3, cg⟩ := hg O1
  obtain ⟨M', O', G⟩ := IH M2 O1 i2
  refine ⟨M', O', ?_⟩
  refine g_aload_n (n := 1537) dL_law_1536 rfl rfl ?_
  refine g_aload_nX (n := 1538) dL_law_1537 rfl rfl ?_
  refine g_iload (n := 1540) dL_law_1538 rfl rfl ?_
  refine g_iconst (n := 1541) dL_law_1540 rfl k_ic_1 ?_
  refine g_iadd (n := 1542) dL_law_1541 rfl ?_
  refine g_sldJ (n := 1543) dL_law_1542 rfl ⟨by omega, by omega⟩ ?_
  refine g_aload_nX (n := 1544) dL_law_1543 rfl rfl ?_
  refine g_iload (n := 1546) dL_law_1544 rfl rfl ?_
  refine g_iconst (n := 1547) dL_law_1546 rfl k_ic_2 ?_
  refine g_iadd (n := 1548) dL_law_1547 rfl ?_
  refine g_sldJ (n := 1549) dL_law_1548 rfl ⟨by omega, by omega⟩ ?_
  refine g_aload_n (n := 1550) dL_law_1549 rfl rfl ?_
  refine g_cHR (n := 1553) (v := some (vI e)) hh dL_law_1550 rfl kz_L_171 (Nat.le_of_ble_eq_true rfl) rfl rfl ?_ rfl
  refine g_istore5 (n := 1555) dL_law_1553 rfl (Nat.le_of_ble_eq_true rfl) rfl ?_
  refine g_aload_n (n := 1556) dL_law_1555 rfl rfl ?_
  refine g_aload_nX (n := 1557) dL_law_1556 rfl rfl ?_
  refine g_iload (n := 1559) dL_law_1557 rfl rfl ?_
  refine g_iconst (n := 1560) dL_law_1559 rfl k_ic_1 ?_
  refine g_iadd (n := 1561) dL_law_1560 rfl ?_
  refine g_sldJ (n := 1562) dL_law_1561 rfl ⟨by omega, by omega⟩ ?_
  refine g_aload_nX (n := 1563) dL_law_1562 rfl rfl ?_
  refine g_iload (n := 1565) dL_law_1563 rfl rfl ?_
  refine g_iconst (n := 1566) dL_law_1565 rfl k_ic_2 ?_
  refine g_iadd (n := 1567) dL_law_1566 rfl ?_
  refine g_sldJ (n := 1568) dL_law_1567 rfl ⟨by omega, by omega⟩ ?_
  refine g_cVv (n := 1571) cg dL_law_1568 rfl kw_L_173 rfl (by decide) (z_lvP (by first | decide | assumption)) (Nat.le_of_ble_eq_true rfl) ⟨Nat.le_refl _, Nat.le_refl _⟩ ?_ rfl
  refine g_istore6 (n := 1573) dL_law_1571 rfl (Nat.le_of_ble_eq_true rfl) rfl ?_
  refine g_aload_n (n := 1574) dL_law_1573 rfl rfl ?_
  refine g_cVv (n := 1577) r_thrown dL_law_1574 rfl kw_L_92 rfl (by decide) (z_lvP (by first | decide | assumption)) (Nat.le_of_ble_eq_true rfl) ⟨Nat.le_refl _, Nat.le_refl _⟩ ?_ rfl
  refine g_iload (n := 1579) dL_law_1577 rfl rfl ?_
  refine g_icmp_eq (n := 1582) (t := 1584) dL_law_1579 rfl (by decide) (fun _ => ?_) (fun q9 => absurd i3 q9)
  refine g_iload (n := 1586) dL_law_1584 rfl rfl ?_
  refine g_if_ne (n := 1589) (t := 1601) dL_law_1586 rfl (by decide) (fun c1586 => ?_) (fun c1586 => ?_)
  · refine g_goto (n := 0) (t := 1659) dL_law_1601 (by decide) ?_
    refine g_drop 5 ?_
    refine g_drop 6 ?_
    exact G
  · refine g_aload_n (n := 1590) dL_law_1589 rfl rfl ?_
    refine g_iconst (n := 1591) dL_law_1590 rfl k_ic_0 ?_
    refine g_lald (n := 1592) dL_law_1591 rfl (z_lvP (by first | decide | assumption)) rfl ?_
    refine g_iload (n := 1594) dL_law_1592 rfl rfl ?_
    refine g_i2l (n := 1595) dL_law_1594 rfl ?_
    refine g_lcmp (n := 1596) dL_law_1595 rfl ?_
    refine g_if_eq (n := 1599) (t := 1601) dL_law_1596 rfl (by decide) (fun _ => ?_) (fun q9 => absurd (by rw [hb (c1586.trans (by decide))]; exact lg_self _) q9)
    refine g_goto (n := 0) (t := 1659) dL_law_1601 (by decide) ?_
    refine g_drop 5 ?_
    refine g_drop 6 ?_
    exact G
theorem law_25 (Zv : zInv M) (hL : w.2.2.2.2.1 ≤ 2048) (hi : i + 4 ≤ w.2.2.2.2.1) (IH : zAft w tb cr i) : ∃ M' O', zG w (mLw tb) 12 (cr + 1) 1604 [.inl (.ref w.2.2.2.1), vR 9 0, vR 10 0, vR 38 0, vI (nI i), vU, vU, vU, vU] [] (zP M O) (zrI (nI 1)) (zP M' O') := by
  obtain ⟨M1, M2, x, i2, nx, cf, cg⟩ := o_hotShare (w := w) (O := O) Zv
  obtain ⟨M', O', G⟩ := IH M2 O i2
  refine ⟨M', O', zG_cr ?_⟩
  refine g_aload_n (n := 1605) dL_law_1604 rfl rfl ?_
  refine g_cVv (n := 1608) cf dL_law_1605 rfl kw_L_174 rfl (by decide) (z_lvP (by first | decide | assumption)) (Nat.le_of_ble_eq_true rfl) ⟨Nat.le_refl _, Nat.le_refl _⟩ ?_ rfl
  refine g_dstore5 (n := 1610) dL_law_1608 rfl (Nat.le_of_ble_eq_true rfl) rfl ?_
  refine g_aload_n (n := 1611) dL_law_1610 rfl rfl ?_
  refine g_cVv (n := 1614) cg dL_law_1611 rfl kw_L_178 rfl (by decide) (z_lvP (by first | decide | assumption)) (Nat.le_of_ble_eq_true rfl) ⟨Nat.le_refl _, Nat.le_refl _⟩ ?_ rfl
  refine g_dstore7 (n := 1616) dL_law_1614 rfl (Nat.le_of_ble_eq_true rfl) rfl ?_
  refine g_dload (n := 1618) dL_law_1616 rfl rfl ?_
  refine g_dload (n := 1620) dL_law_1618 rfl rfl ?_
  refine g_dcmp (n := 1621) dL_law_1620 rfl ?_
  refine g_if_eq (n := 1624) (t := 1642) dL_law_1621 rfl (by decide) (fun _ => ?_) (fun q9 => absurd (by rw [show FP.dcmp x x = some .eq from FP.Core.dcmp_self nx]; rfl) q9)
  refine g_goto (n := 0) (t := 1659) dL_law_1642 (by decide) ?_
  refine g_drop 5 ?_
  refine g_drop 7 ?_
  exact G
theorem law_26 (Zv : zInv M) (hL : w.2.2.2.2.1 ≤ 2048) (hi : i + 4 ≤ w.2.2.2.2.1) (IH : zAft w tb cr i) : ∃ M' O', zG w (mLw tb) 12 (cr + 1) 1645 [.inl (.ref w.2.2.2.1), vR 9 0, vR 10 0, vR 38 0, vI (nI i), vU, vU, vU, vU] [] (zP M O) (zrI (nI 1)) (zP M' O') := by
  obtain ⟨M1, M2, b, i2, cf, cg⟩ := o_digest (w := w) (O := O) Zv
  obtain ⟨M', O', G⟩ := IH M2 O i2
  refine ⟨M', O', zG_cr ?_⟩
  refine g_aload_n (n := 1646) dL_law_1645 rfl rfl ?_
  refine g_cVv (n := 1649) cf dL_law_1646 rfl kw_L_179 rfl (by decide) (z_lvP (by first | decide | assumption)) (Nat.le_of_ble_eq_true rfl) ⟨Nat.le_refl _, Nat.le_refl _⟩ ?_ rfl
  refine g_aload_n (n := 1650) dL_law_1649 rfl rfl ?_
  refine g_cVv (n := 1653) cg dL_law_1650 rfl kw_L_183 rfl (by decide) (z_lvP (by first | decide | assumption)) (Nat.le_of_ble_eq_true rfl) ⟨Nat.le_refl _, Nat.le_refl _⟩ ?_ rfl
  refine g_lcmp (n := 1654) dL_law_1653 rfl ?_
  refine g_if_eq (n := 1657) (t := 1659) dL_law_1654 rfl (by decide) (fun _ => ?_) (fun q9 => absurd (lg_self _) q9)
  exact G
theorem law_end : ∃ M' O', zG w (mLw tb) 12 cr 1665 [.inl (.ref w.2.2.2.1), vR 9 0, vR 10 0, vR 38 0, vI (nI i), vU, vU, vU, vU] [] (zP M O) (zrI (nI 1)) (zP M' O') := by
  refine ⟨M, O, ?_⟩
  refine g_iconst (n := 1666) dL_law_1665 rfl k_ic_1 ?_
  exact g_ireturn dL_law_1666 rfl rfl rfl rfl
theorem law_loop (w : zWp) (tb : List (Nat × Nat × Nat × Nat)) (hL : w.2.2.2.2.1 ≤ 2048) : ∀ (k i : Nat) (M : Nat → Nat → Nat → Int32) (O : Nat → Int64), zInv M → w.2.2.2.2.1 < i + 4 * k + 4 → i + 4 * k ≤ 4096 → ∃ M' O', zG w (mLw tb) 12 k 23 [.inl (.ref w.2.2.2.1), vR 9 0, vR 10 0, vR 38 0, vI (nI i), vU, vU, vU, vU] [] (zP M O) (zrI (nI 1)) (zP M' O') := by
  intro k
  induction k with
  | zero =>
    intro i M O Zv hk hk2
    obtain ⟨M', O', G⟩ := law_end (w := w) (tb := tb) (cr := 0) (i := i) (M := M) (O := O)
    refine ⟨M', O', ?_⟩
    refine g_iload (n := 25) dL_law_23 rfl rfl ?_
    refine g_aload_nX (n := 26) dL_law_25 rfl rfl ?_
    refine g_slen (n := 27) dL_law_26 rfl rfl ?_
    refine g_iconst (n := 28) dL_law_27 rfl k_ic_4 ?_
    refine g_isub (n := 29) dL_law_28 rfl ?_
    refine g_icmp_gt (n := 32) (t := 1665) dL_law_29 rfl (by decide) (fun _ => ?_) (fun q9 => absurd ((z_end hL (by omega)).mpr (by omega)) q9)
    exact G
  | succ k ih =>
    intro i M O Zv hk hk2
    by_cases hi : i + 4 ≤ w.2.2.2.2.1
    · have IH : zAft w tb k i := fun M1 O1 Z1 => by
        obtain ⟨M', O', G⟩ := ih (i + 4) M1 O1 Z1 (by omega) (by omega)
        refine ⟨M', O', ?_⟩
        refine g_iinc4 (n := 1662) dL_law_1659 rfl (Nat.le_of_ble_eq_true rfl) rfl (nI_ad i 4) ?_
        refine g_goto (n := 0) (t := 23) dL_law_1662 (by decide) ?_
        exact G
      obtain ⟨v, hv, ev⟩ := z_and31 (w.2.2.2.2.2 i)
      obtain e | e | e | e | e | e | e | e | e | e | e | e | e | e | e | e | e | e | e | e | e | e | e | e | e | e | e | e : v = 0 ∨ v = 1 ∨ v = 2 ∨ v = 3 ∨ v = 4 ∨ v = 5 ∨ v = 6 ∨ v = 7 ∨ v = 8 ∨ v = 9 ∨ v = 10 ∨ v = 11 ∨ v = 12 ∨ v = 13 ∨ v = 14 ∨ v = 15 ∨ v = 16 ∨ v = 17 ∨ v = 18 ∨ v = 19 ∨ v = 20 ∨ v = 21 ∨ v = 22 ∨ v = 23 ∨ v = 24 ∨ v = 25 ∨ v = 26 ∨ 27 ≤ v := by omega
      all_goals try subst e
      · obtain ⟨M', O', G⟩ := law_0 (O := O) Zv hL hi IH
        refine ⟨M', O', ?_⟩
        refine g_iload (n := 25) dL_law_23 rfl rfl ?_
        refine g_aload_nX (n := 26) dL_law_25 rfl rfl ?_
        refine g_slen (n := 27) dL_law_26 rfl rfl ?_
        refine g_iconst (n := 28) dL_law_27 rfl k_ic_4 ?_
        refine g_isub (n := 29) dL_law_28 rfl ?_
        refine g_icmp_gt (n := 32) (t := 1665) dL_law_29 rfl (by decide) (fun q9 => absurd q9 (fun q => absurd ((z_end hL (by omega)).mp q) (by omega))) (fun _ => ?_)
        refine g_aload_nX (n := 33) dL_law_32 rfl rfl ?_
        refine g_iload (n := 35) dL_law_33 rfl rfl ?_
        refine g_sld0 (n := 36) dL_law_35 rfl ⟨by omega, by omega⟩ ?_
        refine g_bipush (n := 38) dL_law_36 rfl k_bp_31 ?_
        refine g_iand (n := 39) dL_law_38 rfl ?_
        rw [ev]
        exact g_tabIn (n := 0) (t := 160) dL_law_39 (by decide) (by decide) rfl (by decide) G
      · obtain ⟨M', O', G⟩ := law_1 (O := O) Zv hL hi IH
        refine ⟨M', O', ?_⟩
        refine g_iload (n := 25) dL_law_23 rfl rfl ?_
        refine g_aload_nX (n := 26) dL_law_25 rfl rfl ?_
        refine g_slen (n := 27) dL_law_26 rfl rfl ?_
        refine g_iconst (n := 28) dL_law_27 rfl k_ic_4 ?_
        refine g_isub (n := 29) dL_law_28 rfl ?_
        refine g_icmp_gt (n := 32) (t := 1665) dL_law_29 rfl (by decide) (fun q9 => absurd q9 (fun q => absurd ((z_end hL (by omega)).mp q) (by omega))) (fun _ => ?_)
        refine g_aload_nX (n := 33) dL_law_32 rfl rfl ?_
        refine g_iload (n := 35) dL_law_33 rfl rfl ?_
        refine g_sld0 (n := 36) dL_law_35 rfl ⟨by omega, by omega⟩ ?_
        refine g_bipush (n := 38) dL_law_36 rfl k_bp_31 ?_
        refine g_iand (n := 39) dL_law_38 rfl ?_
        rw [ev]
        exact g_tabIn (n := 0) (t := 240) dL_law_39 (by decide) (by decide) rfl (by decide) G
      · obtain ⟨M', O', G⟩ := law_2 (O := O) Zv hL hi IH
        refine ⟨M', O', ?_⟩
        refine g_iload (n := 25) dL_law_23 rfl rfl ?_
        refine g_aload_nX (n := 26) dL_law_25 rfl rfl ?_
        refine g_slen (n := 27) dL_law_26 rfl rfl ?_
        refine g_iconst (n := 28) dL_law_27 rfl k_ic_4 ?_
        refine g_isub (n := 29) dL_law_28 rfl ?_
        refine g_icmp_gt (n := 32) (t := 1665) dL_law_29 rfl (by decide) (fun q9 => absurd q9 (fun q => absurd ((z_end hL (by omega)).mp q) (by omega))) (fun _ => ?_)
        refine g_aload_nX (n := 33) dL_law_32 rfl rfl ?_
        refine g_iload (n := 35) dL_law_33 rfl rfl ?_
        refine g_sld0 (n := 36) dL_law_35 rfl ⟨by omega, by omega⟩ ?_
        refine g_bipush (n := 38) dL_law_36 rfl k_bp_31 ?_
        refine g_iand (n := 39) dL_law_38 rfl ?_
        rw [ev]
        exact g_tabIn (n := 0) (t := 308) dL_law_39 (by decide) (by decide) rfl (by decide) G
      · obtain ⟨M', O', G⟩ := law_3 (O := O) Zv hL hi IH
        refine ⟨M', O', ?_⟩
        refine g_iload (n := 25) dL_law_23 rfl rfl ?_
        refine g_aload_nX (n := 26) dL_law_25 rfl rfl ?_
        refine g_slen (n := 27) dL_law_26 rfl rfl ?_
        refine g_iconst (n := 28) dL_law_27 rfl k_ic_4 ?_
        refine g_isub (n := 29) dL_law_28 rfl ?_
        refine g_icmp_gt (n := 32) (t := 1665) dL_law_29 rfl (by decide) (fun q9 => absurd q9 (fun q => absurd ((z_end hL (by omega)).mp q) (by omega))) (fun _ => ?_)
        refine g_aload_nX (n := 33) dL_law_32 rfl rfl ?_
        refine g_iload (n := 35) dL_law_33 rfl rfl ?_
        refine g_sld0 (n := 36) dL_law_35 rfl ⟨by omega, by omega⟩ ?_
        refine g_bipush (n := 38) dL_law_36 rfl k_bp_31 ?_
        refine g_iand (n := 39) dL_law_38 rfl ?_
        rw [ev]
        exact g_tabIn (n := 0) (t := 364) dL_law_39 (by decide) (by decide) rfl (by decide) G
      · obtain ⟨M', O', G⟩ := law_4 (O := O) Zv hL hi IH
        refine ⟨M', O', ?_⟩
        refine g_iload (n := 25) dL_law_23 rfl rfl ?_
        refine g_aload_nX (n := 26) dL_law_25 rfl rfl ?_
        refine g_slen (n := 27) dL_law_26 rfl rfl ?_
        refine g_iconst (n := 28) dL_law_27 rfl k_ic_4 ?_
        refine g_isub (n := 29) dL_law_28 rfl ?_
        refine g_icmp_gt (n := 32) (t := 1665) dL_law_29 rfl (by decide) (fun q9 => absurd q9 (fun q => absurd ((z_end hL (by omega)).mp q) (by omega))) (fun _ => ?_)
        refine g_aload_nX (n := 33) dL_law_32 rfl rfl ?_
        refine g_iload (n := 35) dL_law_33 rfl rfl ?_
        refine g_sld0 (n := 36) dL_law_35 rfl ⟨by omega, by omega⟩ ?_
        refine g_bipush (n := 38) dL_law_36 rfl k_bp_31 ?_
        refine g_iand (n := 39) dL_law_38 rfl ?_
        rw [ev]
        exact g_tabIn (n := 0) (t := 444) dL_law_39 (by decide) (by decide) rfl (by decide) G
      · obtain ⟨M', O', G⟩ := law_5 (O := O) Zv hL hi IH
        refine ⟨M', O', ?_⟩
        refine g_iload (n := 25) dL_law_23 rfl rfl ?_
        refine g_aload_nX (n := 26) dL_law_25 rfl rfl ?_
        refine g_slen (n := 27) dL_law_26 rfl rfl ?_
        refine g_iconst (n := 28) dL_law_27 rfl k_ic_4 ?_
        refine g_isub (n := 29) dL_law_28 rfl ?_
        refine g_icmp_gt (n := 32) (t := 1665) dL_law_29 rfl (by decide) (fun q9 => absurd q9 (fun q => absurd ((z_end hL (by omega)).mp q) (by omega))) (fun _ => ?_)
        refine g_aload_nX (n := 33) dL_law_32 rfl rfl ?_
        refine g_iload (n := 35) dL_law_33 rfl rfl ?_
        refine g_sld0 (n := 36) dL_law_35 rfl ⟨by omega, by omega⟩ ?_
        refine g_bipush (n := 38) dL_law_36 rfl k_bp_31 ?_
        refine g_iand (n := 39) dL_law_38 rfl ?_
        rw [ev]
        exact g_tabIn (n := 0) (t := 512) dL_law_39 (by decide) (by decide) rfl (by decide) G
      · obtain ⟨M', O', G⟩ := law_6 (O := O) Zv hL hi IH
        refine ⟨M', O', ?_⟩
        refine g_iload (n := 25) dL_law_23 rfl rfl ?_
        refine g_aload_nX (n := 26) dL_law_25 rfl rfl ?_
        refine g_slen (n := 27) dL_law_26 rfl rfl ?_
        refine g_iconst (n := 28) dL_law_27 rfl k_ic_4 ?_
        refine g_isub (n := 29) dL_law_28 rfl ?_
        refine g_icmp_gt (n := 32) (t := 1665) dL_law_29 rfl (by decide) (fun q9 => absurd q9 (fun q => absurd ((z_end hL (by omega)).mp q) (by omega))) (fun _ => ?_)
        refine g_aload_nX (n := 33) dL_law_32 rfl rfl ?_
        refine g_iload (n := 35) dL_law_33 rfl rfl ?_
        refine g_sld0 (n := 36) dL_law_35 rfl ⟨by omega, by omega⟩ ?_
        refine g_bipush (n := 38) dL_law_36 rfl k_bp_31 ?_
        refine g_iand (n := 39) dL_law_38 rfl ?_
        rw [ev]
        exact g_tabIn (n := 0) (t := 580) dL_law_39 (by decide) (by decide) rfl (by decide) G
      · obtain ⟨M', O', G⟩ := law_7 (O := O) Zv hL hi IH
        refine ⟨M', O', ?_⟩
        refine g_iload (n := 25) dL_law_23 rfl rfl ?_
        refine g_aload_nX (n := 26) dL_law_25 rfl rfl ?_
        refine g_slen (n := 27) dL_law_26 rfl rfl ?_
        refine g_iconst (n := 28) dL_law_27 rfl k_ic_4 ?_
        refine g_isub (n := 29) dL_law_28 rfl ?_
        refine g_icmp_gt (n := 32) (t := 1665) dL_law_29 rfl (by decide) (fun q9 => absurd q9 (fun q => absurd ((z_end hL (by omega)).mp q) (by omega))) (fun _ => ?_)
        refine g_aload_nX (n := 33) dL_law_32 rfl rfl ?_
        refine g_iload (n := 35) dL_law_33 rfl rfl ?_
        refine g_sld0 (n := 36) dL_law_35 rfl ⟨by omega, by omega⟩ ?_
        refine g_bipush (n := 38) dL_law_36 rfl k_bp_31 ?_
        refine g_iand (n := 39) dL_law_38 rfl ?_
        rw [ev]
        exact g_tabIn (n := 0) (t := 648) dL_law_39 (by decide) (by decide) rfl (by decide) G
      · obtain ⟨M', O', G⟩ := law_8 (O := O) Zv hL hi IH
        refine ⟨M', O', ?_⟩
        refine g_iload (n := 25) dL_law_23 rfl rfl ?_
        refine g_aload_nX (n := 26) dL_law_25 rfl rfl ?_
        refine g_slen (n := 27) dL_law_26 rfl rfl ?_
        refine g_iconst (n := 28) dL_law_27 rfl k_ic_4 ?_
        refine g_isub (n := 29) dL_law_28 rfl ?_
        refine g_icmp_gt (n := 32) (t := 1665) dL_law_29 rfl (by decide) (fun q9 => absurd q9 (fun q => absurd ((z_end hL (by omega)).mp q) (by omega))) (fun _ => ?_)
        refine g_aload_nX (n := 33) dL_law_32 rfl rfl ?_
        refine g_iload (n := 35) dL_law_33 rfl rfl ?_
        refine g_sld0 (n := 36) dL_law_35 rfl ⟨by omega, by omega⟩ ?_
        refine g_bipush (n := 38) dL_law_36 rfl k_bp_31 ?_
        refine g_iand (n := 39) dL_law_38 rfl ?_
        rw [ev]
        exact g_tabIn (n := 0) (t := 661) dL_law_39 (by decide) (by decide) rfl (by decide) G
      · obtain ⟨M', O', G⟩ := law_9 (O := O) Zv hL hi IH
        refine ⟨M', O', ?_⟩
        refine g_iload (n := 25) dL_law_23 rfl rfl ?_
        refine g_aload_nX (n := 26) dL_law_25 rfl rfl ?_
        refine g_slen (n := 27) dL_law_26 rfl rfl ?_
        refine g_iconst (n := 28) dL_law_27 rfl k_ic_4 ?_
        refine g_isub (n := 29) dL_law_28 rfl ?_
        refine g_icmp_gt (n := 32) (t := 1665) dL_law_29 rfl (by decide) (fun q9 => absurd q9 (fun q => absurd ((z_end hL (by omega)).mp q) (by omega))) (fun _ => ?_)
        refine g_aload_nX (n := 33) dL_law_32 rfl rfl ?_
        refine g_iload (n := 35) dL_law_33 rfl rfl ?_
        refine g_sld0 (n := 36) dL_law_35 rfl ⟨by omega, by omega⟩ ?_
        refine g_bipush (n := 38) dL_law_36 rfl k_bp_31 ?_
        refine g_iand (n := 39) dL_law_38 rfl ?_
        rw [ev]
        exact g_tabIn (n := 0) (t := 717) dL_law_39 (by decide) (by decide) rfl (by decide) G
      · obtain ⟨M', O', G⟩ := law_10 (O := O) Zv hL hi IH
        refine ⟨M', O', ?_⟩
        refine g_iload (n := 25) dL_law_23 rfl rfl ?_
        refine g_aload_nX (n := 26) dL_law_25 rfl rfl ?_
        refine g_slen (n := 27) dL_law_26 rfl rfl ?_
        refine g_iconst (n := 28) dL_law_27 rfl k_ic_4 ?_
        refine g_isub (n := 29) dL_law_28 rfl ?_
        refine g_icmp_gt (n := 32) (t := 1665) dL_law_29 rfl (by decide) (fun q9 => absurd q9 (fun q => absurd ((z_end hL (by omega)).mp q) (by omega))) (fun _ => ?_)
        refine g_aload_nX (n := 33) dL_law_32 rfl rfl ?_
        refine g_iload (n := 35) dL_law_33 rfl rfl ?_
        refine g_sld0 (n := 36) dL_law_35 rfl ⟨by omega, by omega⟩ ?_
        refine g_bipush (n := 38) dL_law_36 rfl k_bp_31 ?_
        refine g_iand (n := 39) dL_law_38 rfl ?_
        rw [ev]
        exact g_tabIn (n := 0) (t := 730) dL_law_39 (by decide) (by decide) rfl (by decide) G
      · obtain ⟨M', O', G⟩ := law_11 (O := O) Zv hL hi IH
        refine ⟨M', O', ?_⟩
        refine g_iload (n := 25) dL_law_23 rfl rfl ?_
        refine g_aload_nX (n := 26) dL_law_25 rfl rfl ?_
        refine g_slen (n := 27) dL_law_26 rfl rfl ?_
        refine g_iconst (n := 28) dL_law_27 rfl k_ic_4 ?_
        refine g_isub (n := 29) dL_law_28 rfl ?_
        refine g_icmp_gt (n := 32) (t := 1665) dL_law_29 rfl (by decide) (fun q9 => absurd q9 (fun q => absurd ((z_end hL (by omega)).mp q) (by omega))) (fun _ => ?_)
        refine g_aload_nX (n := 33) dL_law_32 rfl rfl ?_
        refine g_iload (n := 35) dL_law_33 rfl rfl ?_
        refine g_sld0 (n := 36) dL_law_35 rfl ⟨by omega, by omega⟩ ?_
        refine g_bipush (n := 38) dL_law_36 rfl k_bp_31 ?_
        refine g_iand (n := 39) dL_law_38 rfl ?_
        rw [ev]
        exact g_tabIn (n := 0) (t := 743) dL_law_39 (by decide) (by decide) rfl (by decide) G
      · obtain ⟨M', O', G⟩ := law_12 (O := O) Zv hL hi IH
        refine ⟨M', O', ?_⟩
        refine g_iload (n := 25) dL_law_23 rfl rfl ?_
        refine g_aload_nX (n := 26) dL_law_25 rfl rfl ?_
        refine g_slen (n := 27) dL_law_26 rfl rfl ?_
        refine g_iconst (n := 28) dL_law_27 rfl k_ic_4 ?_
        refine g_isub (n := 29) dL_law_28 rfl ?_
        refine g_icmp_gt (n := 32) (t := 1665) dL_law_29 rfl (by decide) (fun q9 => absurd q9 (fun q => absurd ((z_end hL (by omega)).mp q) (by omega))) (fun _ => ?_)
        refine g_aload_nX (n := 33) dL_law_32 rfl rfl ?_
        refine g_iload (n := 35) dL_law_33 rfl rfl ?_
        refine g_sld0 (n := 36) dL_law_35 rfl ⟨by omega, by omega⟩ ?_
        refine g_bipush (n := 38) dL_law_36 rfl k_bp_31 ?_
        refine g_iand (n := 39) dL_law_38 rfl ?_
        rw [ev]
        exact g_tabIn (n := 0) (t := 787) dL_law_39 (by decide) (by decide) rfl (by decide) G
      · obtain ⟨M', O', G⟩ := law_13 (O := O) Zv hL hi IH
        refine ⟨M', O', ?_⟩
        refine g_iload (n := 25) dL_law_23 rfl rfl ?_
        refine g_aload_nX (n := 26) dL_law_25 rfl rfl ?_
        refine g_slen (n := 27) dL_law_26 rfl rfl ?_
        refine g_iconst (n := 28) dL_law_27 rfl k_ic_4 ?_
        refine g_isub (n := 29) dL_law_28 rfl ?_
        refine g_icmp_gt (n := 32) (t := 1665) dL_law_29 rfl (by decide) (fun q9 => absurd q9 (fun q => absurd ((z_end hL (by omega)).mp q) (by omega))) (fun _ => ?_)
        refine g_aload_nX (n := 33) dL_law_32 rfl rfl ?_
        refine g_iload (n := 35) dL_law_33 rfl rfl ?_
        refine g_sld0 (n := 36) dL_law_35 rfl ⟨by omega, by omega⟩ ?_
        refine g_bipush (n := 38) dL_law_36 rfl k_bp_31 ?_
        refine g_iand (n := 39) dL_law_38 rfl ?_
        rw [ev]
        exact g_tabIn (n := 0) (t := 843) dL_law_39 (by decide) (by decide) rfl (by decide) G
      · obtain ⟨M', O', G⟩ := law_14 (O := O) Zv hL hi IH
        refine ⟨M', O', ?_⟩
        refine g_iload (n := 25) dL_law_23 rfl rfl ?_
        refine g_aload_nX (n := 26) dL_law_25 rfl rfl ?_
        refine g_slen (n := 27) dL_law_26 rfl rfl ?_
        refine g_iconst (n := 28) dL_law_27 rfl k_ic_4 ?_
        refine g_isub (n := 29) dL_law_28 rfl ?_
        refine g_icmp_gt (n := 32) (t := 1665) dL_law_29 rfl (by decide) (fun q9 => absurd q9 (fun q => absurd ((z_end hL (by omega)).mp q) (by omega))) (fun _ => ?_)
        refine g_aload_nX (n := 33) dL_law_32 rfl rfl ?_
        refine g_iload (n := 35) dL_law_33 rfl rfl ?_
        refine g_sld0 (n := 36) dL_law_35 rfl ⟨by omega, by omega⟩ ?_
        refine g_bipush (n := 38) dL_law_36 rfl k_bp_31 ?_
        refine g_iand (n := 39) dL_law_38 rfl ?_
        rw [ev]
        exact g_tabIn (n := 0) (t := 899) dL_law_39 (by decide) (by decide) rfl (by decide) G
      · obtain ⟨M', O', G⟩ := law_15 (O := O) Zv hL hi IH
        refine ⟨M', O', ?_⟩
        refine g_iload (n := 25) dL_law_23 rfl rfl ?_
        refine g_aload_nX (n := 26) dL_law_25 rfl rfl ?_
        refine g_slen (n := 27) dL_law_26 rfl rfl ?_
        refine g_iconst (n := 28) dL_law_27 rfl k_ic_4 ?_
        refine g_isub (n := 29) dL_law_28 rfl ?_
        refine g_icmp_gt (n := 32) (t := 1665) dL_law_29 rfl (by decide) (fun q9 => absurd q9 (fun q => absurd ((z_end hL (by omega)).mp q) (by omega))) (fun _ => ?_)
        refine g_aload_nX (n := 33) dL_law_32 rfl rfl ?_
        refine g_iload (n := 35) dL_law_33 rfl rfl ?_
        refine g_sld0 (n := 36) dL_law_35 rfl ⟨by omega, by omega⟩ ?_
        refine g_bipush (n := 38) dL_law_36 rfl k_bp_31 ?_
        refine g_iand (n := 39) dL_law_38 rfl ?_
        rw [ev]
        exact g_tabIn (n := 0) (t := 943) dL_law_39 (by decide) (by decide) rfl (by decide) G
      · obtain ⟨M', O', G⟩ := law_16 (O := O) Zv hL hi IH
        refine ⟨M', O', ?_⟩
        refine g_iload (n := 25) dL_law_23 rfl rfl ?_
        refine g_aload_nX (n := 26) dL_law_25 rfl rfl ?_
        refine g_slen (n := 27) dL_law_26 rfl rfl ?_
        refine g_iconst (n := 28) dL_law_27 rfl k_ic_4 ?_
        refine g_isub (n := 29) dL_law_28 rfl ?_
        refine g_icmp_gt (n := 32) (t := 1665) dL_law_29 rfl (by decide) (fun q9 => absurd q9 (fun q => absurd ((z_end hL (by omega)).mp q) (by omega))) (fun _ => ?_)
        refine g_aload_nX (n := 33) dL_law_32 rfl rfl ?_
        refine g_iload (n := 35) dL_law_33 rfl rfl ?_
        refine g_sld0 (n := 36) dL_law_35 rfl ⟨by omega, by omega⟩ ?_
        refine g_bipush (n := 38) dL_law_36 rfl k_bp_31 ?_
        refine g_iand (n := 39) dL_law_38 rfl ?_
        rw [ev]
        exact g_tabIn (n := 0) (t := 1011) dL_law_39 (by decide) (by decide) rfl (by decide) G
      · obtain ⟨M', O', G⟩ := law_17 (O := O) Zv hL hi IH
        refine ⟨M', O', ?_⟩
        refine g_iload (n := 25) dL_law_23 rfl rfl ?_
        refine g_aload_nX (n := 26) dL_law_25 rfl rfl ?_
        refine g_slen (n := 27) dL_law_26 rfl rfl ?_
        refine g_iconst (n := 28) dL_law_27 rfl k_ic_4 ?_
        refine g_isub (n := 29) dL_law_28 rfl ?_
        refine g_icmp_gt (n := 32) (t := 1665) dL_law_29 rfl (by decide) (fun q9 => absurd q9 (fun q => absurd ((z_end hL (by omega)).mp q) (by omega))) (fun _ => ?_)
        refine g_aload_nX (n := 33) dL_law_32 rfl rfl ?_
        refine g_iload (n := 35) dL_law_33 rfl rfl ?_
        refine g_sld0 (n := 36) dL_law_35 rfl ⟨by omega, by omega⟩ ?_
        refine g_bipush (n := 38) dL_law_36 rfl k_bp_31 ?_
        refine g_iand (n := 39) dL_law_38 rfl ?_
        rw [ev]
        exact g_tabIn (n := 0) (t := 1091) dL_law_39 (by decide) (by decide) rfl (by decide) G
      · obtain ⟨M', O', G⟩ := law_18 (O := O) Zv hL hi IH
        refine ⟨M', O', ?_⟩
        refine g_iload (n := 25) dL_law_23 rfl rfl ?_
        refine g_aload_nX (n := 26) dL_law_25 rfl rfl ?_
        refine g_slen (n := 27) dL_law_26 rfl rfl ?_
        refine g_iconst (n := 28) dL_law_27 rfl k_ic_4 ?_
        refine g_isub (n := 29) dL_law_28 rfl ?_
        refine g_icmp_gt (n := 32) (t := 1665) dL_law_29 rfl (by decide) (fun q9 => absurd q9 (fun q => absurd ((z_end hL (by omega)).mp q) (by omega))) (fun _ => ?_)
        refine g_aload_nX (n := 33) dL_law_32 rfl rfl ?_
        refine g_iload (n := 35) dL_law_33 rfl rfl ?_
        refine g_sld0 (n := 36) dL_law_35 rfl ⟨by omega, by omega⟩ ?_
        refine g_bipush (n := 38) dL_law_36 rfl k_bp_31 ?_
        refine g_iand (n := 39) dL_law_38 rfl ?_
        rw [ev]
        exact g_tabIn (n := 0) (t := 1159) dL_law_39 (by decide) (by decide) rfl (by decide) G
      · obtain ⟨M', O', G⟩ := law_19 (O := O) Zv hL hi IH
        refine ⟨M', O', ?_⟩
        refine g_iload (n := 25) dL_law_23 rfl rfl ?_
        refine g_aload_nX (n := 26) dL_law_25 rfl rfl ?_
        refine g_slen (n := 27) dL_law_26 rfl rfl ?_
        refine g_iconst (n := 28) dL_law_27 rfl k_ic_4 ?_
        refine g_isub (n := 29) dL_law_28 rfl ?_
        refine g_icmp_gt (n := 32) (t := 1665) dL_law_29 rfl (by decide) (fun q9 => absurd q9 (fun q => absurd ((z_end hL (by omega)).mp q) (by omega))) (fun _ => ?_)
        refine g_aload_nX (n := 33) dL_law_32 rfl rfl ?_
        refine g_iload (n := 35) dL_law_33 rfl rfl ?_
        refine g_sld0 (n := 36) dL_law_35 rfl ⟨by omega, by omega⟩ ?_
        refine g_bipush (n := 38) dL_law_36 rfl k_bp_31 ?_
        refine g_iand (n := 39) dL_law_38 rfl ?_
        rw [ev]
        exact g_tabIn (n := 0) (t := 1227) dL_law_39 (by decide) (by decide) rfl (by decide) G
      · obtain ⟨M', O', G⟩ := law_20 (O := O) Zv hL hi IH
        refine ⟨M', O', ?_⟩
        refine g_iload (n := 25) dL_law_23 rfl rfl ?_
        refine g_aload_nX (n := 26) dL_law_25 rfl rfl ?_
        refine g_slen (n := 27) dL_law_26 rfl rfl ?_
        refine g_iconst (n := 28) dL_law_27 rfl k_ic_4 ?_
        refine g_isub (n := 29) dL_law_28 rfl ?_
        refine g_icmp_gt (n := 32) (t := 1665) dL_law_29 rfl (by decide) (fun q9 => absurd q9 (fun q => absurd ((z_end hL (by omega)).mp q) (by omega))) (fun _ => ?_)
        refine g_aload_nX (n := 33) dL_law_32 rfl rfl ?_
        refine g_iload (n := 35) dL_law_33 rfl rfl ?_
        refine g_sld0 (n := 36) dL_law_35 rfl ⟨by omega, by omega⟩ ?_
        refine g_bipush (n := 38) dL_law_36 rfl k_bp_31 ?_
        refine g_iand (n := 39) dL_law_38 rfl ?_
        rw [ev]
        exact g_tabIn (n := 0) (t := 1307) dL_law_39 (by decide) (by decide) rfl (by decide) G
      · obtain ⟨M', O', G⟩ := law_21 (O := O) Zv hL hi IH
        refine ⟨M', O', ?_⟩
        refine g_iload (n := 25) dL_law_23 rfl rfl ?_
        refine g_aload_nX (n := 26) dL_law_25 rfl rfl ?_
        refine g_slen (n := 27) dL_law_26 rfl rfl ?_
        refine g_iconst (n := 28) dL_law_27 rfl k_ic_4 ?_
        refine g_isub (n := 29) dL_law_28 rfl ?_
        refine g_icmp_gt (n := 32) (t := 1665) dL_law_29 rfl (by decide) (fun q9 => absurd q9 (fun q => absurd ((z_end hL (by omega)).mp q) (by omega))) (fun _ => ?_)
        refine g_aload_nX (n := 33) dL_law_32 rfl rfl ?_
        refine g_iload (n := 35) dL_law_33 rfl rfl ?_
        refine g_sld0 (n := 36) dL_law_35 rfl ⟨by omega, by omega⟩ ?_
        refine g_bipush (n := 38) dL_law_36 rfl k_bp_31 ?_
        refine g_iand (n := 39) dL_law_38 rfl ?_
        rw [ev]
        exact g_tabIn (n := 0) (t := 1387) dL_law_39 (by decide) (by decide) rfl (by decide) G
      · obtain ⟨M', O', G⟩ := law_22 (O := O) Zv hL hi IH
        refine ⟨M', O', ?_⟩
        refine g_iload (n := 25) dL_law_23 rfl rfl ?_
        refine g_aload_nX (n := 26) dL_law_25 rfl rfl ?_
        refine g_slen (n := 27) dL_law_26 rfl rfl ?_
        refine g_iconst (n := 28) dL_law_27 rfl k_ic_4 ?_
        refine g_isub (n := 29) dL_law_28 rfl ?_
        refine g_icmp_gt (n := 32) (t := 1665) dL_law_29 rfl (by decide) (fun q9 => absurd q9 (fun q => absurd ((z_end hL (by omega)).mp q) (by omega))) (fun _ => ?_)
        refine g_aload_nX (n := 33) dL_law_32 rfl rfl ?_
        refine g_iload (n := 35) dL_law_33 rfl rfl ?_
        refine g_sld0 (n := 36) dL_law_35 rfl ⟨by omega, by omega⟩ ?_
        refine g_bipush (n := 38) dL_law_36 rfl k_bp_31 ?_
        refine g_iand (n := 39) dL_law_38 rfl ?_
        rw [ev]
        exact g_tabIn (n := 0) (t := 1443) dL_law_39 (by decide) (by decide) rfl (by decide) G
      · obtain ⟨M', O', G⟩ := law_23 (O := O) Zv hL hi IH
        refine ⟨M', O', ?_⟩
        refine g_iload (n := 25) dL_law_23 rfl rfl ?_
        refine g_aload_nX (n := 26) dL_law_25 rfl rfl ?_
        refine g_slen (n := 27) dL_law_26 rfl rfl ?_
        refine g_iconst (n := 28) dL_law_27 rfl k_ic_4 ?_
        refine g_isub (n := 29) dL_law_28 rfl ?_
        refine g_icmp_gt (n := 32) (t := 1665) dL_law_29 rfl (by decide) (fun q9 => absurd q9 (fun q => absurd ((z_end hL (by omega)).mp q) (by omega))) (fun _ => ?_)
        refine g_aload_nX (n := 33) dL_law_32 rfl rfl ?_
        refine g_iload (n := 35) dL_law_33 rfl rfl ?_
        refine g_sld0 (n := 36) dL_law_35 rfl ⟨by omega, by omega⟩ ?_
        refine g_bipush (n := 38) dL_law_36 rfl k_bp_31 ?_
        refine g_iand (n := 39) dL_law_38 rfl ?_
        rw [ev]
        exact g_tabIn (n := 0) (t := 1523) dL_law_39 (by decide) (by decide) rfl (by decide) G
      · obtain ⟨M', O', G⟩ := law_24 (O := O) Zv hL hi IH
        refine ⟨M', O', ?_⟩
        refine g_iload (n := 25) dL_law_23 rfl rfl ?_
        refine g_aload_nX (n := 26) dL_law_25 rfl rfl ?_
        refine g_slen (n := 27) dL_law_26 rfl rfl ?_
        refine g_iconst (n := 28) dL_law_27 rfl k_ic_4 ?_
        refine g_isub (n := 29) dL_law_28 rfl ?_
        refine g_icmp_gt (n := 32) (t := 1665) dL_law_29 rfl (by decide) (fun q9 => absurd q9 (fun q => absurd ((z_end hL (by omega)).mp q) (by omega))) (fun _ => ?_)
        refine g_aload_nX (n := 33) dL_law_32 rfl rfl ?_
        refine g_iload (n := 35) dL_law_33 rfl rfl ?_
        refine g_sld0 (n := 36) dL_law_35 rfl ⟨by omega, by omega⟩ ?_
        refine g_bipush (n := 38) dL_law_36 rfl k_bp_31 ?_
        refine g_iand (n := 39) dL_law_38 rfl ?_
        rw [ev]
        exact g_tabIn (n := 0) (t := 1536) dL_law_39 (by decide) (by decide) rfl (by decide) G
      · obtain ⟨M', O', G⟩ := law_25 (O := O) Zv hL hi IH
        refine ⟨M', O', ?_⟩
        refine g_iload (n := 25) dL_law_23 rfl rfl ?_
        refine g_aload_nX (n := 26) dL_law_25 rfl rfl ?_
        refine g_slen (n := 27) dL_law_26 rfl rfl ?_
        refine g_iconst (n := 28) dL_law_27 rfl k_ic_4 ?_
        refine g_isub (n := 29) dL_law_28 rfl ?_
        refine g_icmp_gt (n := 32) (t := 1665) dL_law_29 rfl (by decide) (fun q9 => absurd q9 (fun q => absurd ((z_end hL (by omega)).mp q) (by omega))) (fun _ => ?_)
        refine g_aload_nX (n := 33) dL_law_32 rfl rfl ?_
        refine g_iload (n := 35) dL_law_33 rfl rfl ?_
        refine g_sld0 (n := 36) dL_law_35 rfl ⟨by omega, by omega⟩ ?_
        refine g_bipush (n := 38) dL_law_36 rfl k_bp_31 ?_
        refine g_iand (n := 39) dL_law_38 rfl ?_
        rw [ev]
        exact g_tabIn (n := 0) (t := 1604) dL_law_39 (by decide) (by decide) rfl (by decide) G
      · obtain ⟨M', O', G⟩ := law_26 (O := O) Zv hL hi IH
        refine ⟨M', O', ?_⟩
        refine g_iload (n := 25) dL_law_23 rfl rfl ?_
        refine g_aload_nX (n := 26) dL_law_25 rfl rfl ?_
        refine g_slen (n := 27) dL_law_26 rfl rfl ?_
        refine g_iconst (n := 28) dL_law_27 rfl k_ic_4 ?_
        refine g_isub (n := 29) dL_law_28 rfl ?_
        refine g_icmp_gt (n := 32) (t := 1665) dL_law_29 rfl (by decide) (fun q9 => absurd q9 (fun q => absurd ((z_end hL (by omega)).mp q) (by omega))) (fun _ => ?_)
        refine g_aload_nX (n := 33) dL_law_32 rfl rfl ?_
        refine g_iload (n := 35) dL_law_33 rfl rfl ?_
        refine g_sld0 (n := 36) dL_law_35 rfl ⟨by omega, by omega⟩ ?_
        refine g_bipush (n := 38) dL_law_36 rfl k_bp_31 ?_
        refine g_iand (n := 39) dL_law_38 rfl ?_
        rw [ev]
        exact g_tabIn (n := 0) (t := 1645) dL_law_39 (by decide) (by decide) rfl (by decide) G
      · obtain ⟨M', O', G⟩ := IH M O Zv
        refine ⟨M', O', ?_⟩
        refine g_iload (n := 25) dL_law_23 rfl rfl ?_
        refine g_aload_nX (n := 26) dL_law_25 rfl rfl ?_
        refine g_slen (n := 27) dL_law_26 rfl rfl ?_
        refine g_iconst (n := 28) dL_law_27 rfl k_ic_4 ?_
        refine g_isub (n := 29) dL_law_28 rfl ?_
        refine g_icmp_gt (n := 32) (t := 1665) dL_law_29 rfl (by decide) (fun q9 => absurd q9 (fun q => absurd ((z_end hL (by omega)).mp q) (by omega))) (fun _ => ?_)
        refine g_aload_nX (n := 33) dL_law_32 rfl rfl ?_
        refine g_iload (n := 35) dL_law_33 rfl rfl ?_
        refine g_sld0 (n := 36) dL_law_35 rfl ⟨by omega, by omega⟩ ?_
        refine g_bipush (n := 38) dL_law_36 rfl k_bp_31 ?_
        refine g_iand (n := 39) dL_law_38 rfl ?_
        rw [ev]
        exact g_tabOut (n := 0) (t := 1659) dL_law_39 (Or.inr (by rw [nI_v v (by omega)]; omega)) (by decide) (zG_cr G)
    · obtain ⟨M', O', G⟩ := law_end (w := w) (tb := tb) (cr := k + 1) (i := i) (M := M) (O := O)
      refine ⟨M', O', ?_⟩
      refine g_iload (n := 25) dL_law_23 rfl rfl ?_
      refine g_aload_nX (n := 26) dL_law_25 rfl rfl ?_
      refine g_slen (n := 27) dL_law_26 rfl rfl ?_
      refine g_iconst (n := 28) dL_law_27 rfl k_ic_4 ?_
      refine g_isub (n := 29) dL_law_28 rfl ?_
      refine g_icmp_gt (n := 32) (t := 1665) dL_law_29 rfl (by decide) (fun _ => ?_) (fun q9 => absurd ((z_end hL (by omega)).mpr (by omega)) q9)
      exact G
theorem nlA_of {N N' : Nat → Nat → Nat → Bool} {M M' : Nat → Nat → Nat → Int32} (C : nlC N) (f : zFr (fun k a => a = 0 ∧ (k = 10 ∨ (32 ≤ k ∧ k ≤ 37))) N N' M M') (g : ∀ j, j = 0 ∨ j = 2 ∨ j = 4 ∨ j = 10 ∨ j = 11 ∨ j = 12 → N' 10 0 j = false) : nlA N' := by
  obtain ⟨c1, ⟨c2, c3⟩, ⟨c4, c5, c6, c7, c8, c9⟩, c10⟩ := C
  have e : ∀ k a, k ≠ 10 → k < 32 → N' k a = N k a := fun k a h1 h2 => (f k a (by omega)).1
  have fin : ∀ {n j : Nat} {l : List (Option (Nat × Option Nat))} {q : Nat × Option Nat}, l[j]? = some (some q) → l.length = n → j < n := fun h hl => by
    rw [← hl]
    exact (List.getElem?_eq_some_iff.mp h).1
  refine ⟨fun k i hk hi j q hq => ?_, fun i hi j hj => ?_⟩
  · have hk : k = 0 ∨ k = 1 ∨ k = 2 ∨ k = 3 ∨ k = 4 ∨ k = 5 ∨ k = 6 ∨ k = 7 ∨ k = 8 ∨ k = 9 ∨ k = 10 := by omega
    rcases hk with h | h | h | h | h | h | h | h | h | h | h <;> subst h
    · have hj := fin hq (n := 8) rfl
      obtain rfl : i = 0 := by have : z_cnt 0 = 1 := rfl; omega
      rw [e 0 0 (by decide) (by decide)]
      by_cases h2 : j < 2
      · exact c6 j h2
      · exfalso
        obtain h | h | h | h | h | h : j = 2 ∨ j = 3 ∨ j = 4 ∨ j = 5 ∨ j = 6 ∨ j = 7 := by omega
        all_goals (subst h; cases hq)
    · have hj := fin hq (n := 6) rfl
      have hi : i < 10 := hi
      rw [e 1 i (by decide) (by decide)]
      by_cases h2 : j < 5
      · exact (c1 i hi).2.1 j h2
      · exfalso
        obtain h : j = 5 := by omega
        subst h
        cases hq
    · have hj := fin hq (n := 3) rfl
      obtain rfl : i = 0 := by have : z_cnt 2 = 1 := rfl; omega
      rw [e 2 0 (by decide) (by decide)]
      obtain h | h | h : j = 0 ∨ j = 1 ∨ j = 2 := by omega
      · subst h; exact c9
      · subst h; cases hq
      · subst h; cases hq
    · have hj := fin hq (n := 8) rfl
      have hi : i < 10 := hi
      rw [e 3 i (by decide) (by decide)]
      by_cases h2 : j < 5
      · exact (c1 i hi).1 j h2
      · exfalso
        obtain h | h | h : j = 5 ∨ j = 6 ∨ j = 7 := by omega
        all_goals (subst h; cases hq)
    · have hj := fin hq (n := 2) rfl
      obtain rfl : i = 0 := by have : z_cnt 4 = 1 := rfl; omega
      rw [e 4 0 (by decide) (by decide)]
      exact c7 j hj
    · have hj := fin hq (n := 5) rfl
      have hi : i < 10 := hi
      rw [e 5 i (by decide) (by decide)]
      exact (c1 i hi).2.2.1 j hj
    · have hj := fin hq (n := 2) rfl
      have hi : i < 10 := hi
      rw [e 6 i (by decide) (by decide)]
      exact (c1 i hi).2.2.2 j hj
    · have hj := fin hq (n := 2) rfl
      have hi : i < 2 := hi
      rw [e 7 i (by decide) (by decide)]
      obtain h | h : i = 0 ∨ i = 1 := by omega
      · subst h; exact c4 j hj
      · subst h; exact c5 j hj
    · have hj := fin hq (n := 2) rfl
      obtain rfl : i = 0 := by have : z_cnt 8 = 1 := rfl; omega
      rw [e 8 0 (by decide) (by decide)]
      obtain h | h : j = 0 ∨ j = 1 := by omega
      · subst h; exact c8
      · subst h; cases hq
    · have hj := fin hq (n := 7) rfl
      obtain rfl : i = 0 := by have : z_cnt 9 = 1 := rfl; omega
      rw [e 9 0 (by decide) (by decide)]
      exact c10 j hj
    · have hj := fin hq (n := 13) rfl
      obtain rfl : i = 0 := by have : z_cnt 10 = 1 := rfl; omega
      by_cases h2 : j = 0 ∨ j = 2 ∨ j = 4 ∨ j = 10 ∨ j = 11 ∨ j = 12
      · exact g j h2
      · exfalso
        obtain h | h | h | h | h | h | h : j = 1 ∨ j = 3 ∨ j = 5 ∨ j = 6 ∨ j = 7 ∨ j = 8 ∨ j = 9 := by omega
        all_goals (subst h; cases hq)
  · rw [e 29 i (by decide) (by decide)]
    obtain h | h : i = 0 ∨ i = 1 := by omega
    · subst h; exact c2 j hj
    · subst h; exact c3 j hj

theorem law_start (w : zWp) (tb : List (Nat × Nat × Nat × Nat)) (hL : w.2.2.2.2.1 ≤ 2048) : ∃ M' O', zG w (mLw tb) 12 512 0 [.inl (.ref w.2.2.2.1), vU, vU, vU, vU, vU, vU, vU, vU] [] (0, fun _ _ _ => false, fun _ _ _ => 0, fun _ => 0) (zrI (nI 1)) (zP M' O') := by
  obtain ⟨N1, M1, nc, lr, ⟨m2, m8, m30⟩, c1⟩ := n_loaf (w := w) (d := 5) (O := fun _ => 0) (Nl := u2 (fun _ _ _ => false) 9 0 (fun _ => true)) (M := u2 (fun _ _ _ => 0) 9 0 (fun _ => 0))
  obtain ⟨N2, M2, fr, g10, ⟨m10, m33, m32⟩, c2⟩ := n_model (w := w) (d := 10) (O := fun _ => 0) (Nl := u2 N1 10 0 (fun _ => true)) (M := u2 M1 10 0 (fun _ => 0))
  have kk : ∀ k a, k ≠ 10 → k < 32 → M2 k a = M1 k a := fun k a h1 h2 => (fr k a (by omega)).2.trans (u2_ne (by omega))
  have fr' : zFr (fun k a => a = 0 ∧ (k = 10 ∨ (32 ≤ k ∧ k ≤ 37))) N1 N2 M1 M2 := fun k a h => ⟨(fr k a h).1.trans (u2_ne (fun q => h ⟨q.2, Or.inl q.1⟩)), (fr k a h).2.trans (u2_ne (fun q => h ⟨q.2, Or.inl q.1⟩))⟩
  have nA := nlA_of nc fr' g10
  have nA2 : nlA (u2 N2 38 0 (fun _ => true)) := ⟨fun k i hk hi j q hq => by rw [u2_ne (by omega)]; exact nA.1 k i hk hi j q hq, fun i hi j hj => by rw [u2_ne (by omega)]; exact nA.2 i hi j hj⟩
  obtain ⟨M3, hM3⟩ : ∃ M3, M3 = u2 M2 38 0 (fun _ => (0 : Int32)) := ⟨_, rfl⟩
  have k3 : ∀ k a, k ≠ 38 → M3 k a = M2 k a := fun k a h => by rw [hM3, u2_ne (by omega)]
  have Zv : zInv M3 := zInv_0 (LandR_k (fun k hk => ((k3 k 0 (by unfold kLd at hk; omega)).trans (kk k 0 (by unfold kLd at hk; omega) (by unfold kLd at hk; omega)))) _ (lr 0 (by decide))) (by rw [k3 2 0 (by decide), kk 2 0 (by decide) (by decide)]; exact m2) (by rw [k3 8 0 (by decide), kk 8 0 (by decide) (by decide)]; exact m8) (by rw [k3 30 0 (by decide), kk 30 0 (by decide) (by decide)]; exact m30) (by rw [k3 10 0 (by decide), m10, u2_self]) (by rw [k3 33 0 (by decide), m33]) (by rw [k3 32 0 (by decide), m32])
  obtain ⟨M', O', G⟩ := law_loop w tb hL 512 0 M3 (fun _ => 0) Zv (by omega) (by decide)
  refine ⟨M', O', ?_⟩
  refine g_new (n := 3) dL_law_0 rfl (k := 9) (i := 0) rfl z_in9 tyX9_ok kn_L_8 ki_9.1 ki_9.2 (by decide) rfl z_df9 (by decide +kernel) (by first | decide | omega) (by first | decide | (dsimp only; omega)) ?_
  refine g_dup (n := 4) dL_law_3 rfl rfl ?_
  refine g_cIn (n := 7) c1 dL_law_4 rfl kw_L_82 (Nat.le_of_ble_eq_true rfl) (by constructor <;> first | decide | (dsimp only; omega)) ?_ rfl
  refine g_astore1 (n := 8) dL_law_7 rfl (Nat.le_of_ble_eq_true rfl) rfl ?_
  refine g_new (n := 11) dL_law_8 rfl (k := 10) (i := 0) rfl z_in10 tyX10_ok kn_L_83 ki_10.1 ki_10.2 (by decide) rfl z_df10 (by decide +kernel) (by first | decide | omega) (by first | decide | (dsimp only; omega)) ?_
  refine g_dup (n := 12) dL_law_11 rfl rfl ?_
  refine g_cIn (n := 15) c2 dL_law_12 rfl kw_L_85 (Nat.le_of_ble_eq_true rfl) (by constructor <;> first | decide | (dsimp only; omega)) ?_ rfl
  refine g_astore2 (n := 16) dL_law_15 rfl (Nat.le_of_ble_eq_true rfl) rfl ?_
  refine g_iconst (n := 17) dL_law_16 rfl k_ic_1 ?_
  refine g_newl (n := 19) dL_law_17 rfl ka_long rfl (fun _ => rfl) (by decide +kernel) (by first | decide | omega) (by first | decide | (dsimp only; omega)) rfl ?_
  refine zG_nl nA2 ?_
  rw [← hM3]
  refine g_astore3 (n := 20) dL_law_19 rfl (Nat.le_of_ble_eq_true rfl) rfl ?_
  refine g_iconst (n := 21) dL_law_20 rfl k_ic_0 ?_
  refine g_istore4 (n := 23) dL_law_21 rfl (Nat.le_of_ble_eq_true rfl) rfl ?_
  exact G
end LAW

