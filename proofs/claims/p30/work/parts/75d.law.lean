/-! The law, on. -/
section LW
variable {w : zWp} {tb : List (Nat × Nat × Nat × Nat)} {cr t : Nat} {M : Nat → Nat → Nat → Int32} {O : Nat → Int64} {s s1 h y i : Nat} {V U : Nat → Int32} {r : Int32}
theorem law_round (hL : w.2.2.2.2.1 ≤ 260) (Z : zS i M s h V) (hi : i < 34) (IH : zIH w tb O cr i) : zE w tb O (cr + 1 + 1) 100 [.inl (.ref w.2.2.2.1), vR 9 0, vI (nI 1), vI (nI i), vU, vU, vU, vU, vU, vU, vU, vU, vU, vU, vU, vU, vU, vU, vU, vU, vU, vU, vU, vU, vU] [] M := by
  have W := Z.W
  obtain ⟨y, hy, cc⟩ := a_cell (w := w) (d := 12) (O := O) hL (show i < 4096 by omega)
  have hl : y / 16 < 2 ^ 31 := by omega
  have ha : (y / 16 % 8) < 8 := by omega
  have hb : (y / 16 / 8 % 4) < 4 := by omega
  obtain ⟨N9, Z9, c9⟩ := q_count (w := w) (d := 2) (O := O) Z (show 9 < 10 by decide)
  obtain ⟨N1, Z1, c1⟩ := q_count (w := w) (d := 2) (O := O) Z9 (show 1 < 10 by decide)
  obtain ⟨Na, Za, ca⟩ := q_choice (w := w) (d := 2) (O := O) Z1 ha hb (show 0 < 6 by decide)
  obtain ⟨Nb, Zb, cb⟩ := q_choice (w := w) (d := 2) (O := O) Za ha hb (show 1 < 6 by decide)
  obtain ⟨Nc, Zc, cd⟩ := q_choice (w := w) (d := 2) (O := O) Zb ha hb (show 4 < 6 by decide)
  obtain ⟨N4, Z4, c4⟩ := q_count (w := w) (d := 2) (O := O) Zc (show 4 < 10 by decide)
  obtain ⟨N5, Z5, c5⟩ := q_count (w := w) (d := 2) (O := O) Z4 (show 5 < 10 by decide)
  obtain ⟨N6, Z6, c6⟩ := q_count (w := w) (d := 2) (O := O) Z5 (show 6 < 10 by decide)
  obtain ⟨N7, Z7, c7⟩ := q_count (w := w) (d := 2) (O := O) Z6 (show 7 < 10 by decide)
  rw [show vCt V s h 9 = nI h from rfl] at c9
  rw [show vCt V s h 1 = nI s from Z.ss] at c1
  rw [show vCh V s (y / 16 % 8) (y / 16 / 8 % 4) 0 = vCho (vDi V) V s (y / 16 % 8) (y / 16 / 8 % 4) from rfl] at ca
  rw [show vCh V s (y / 16 % 8) (y / 16 / 8 % 4) 1 = vDe (vDi V) V s (y / 16 % 8) (y / 16 / 8 % 4) from rfl] at cb
  rw [show vCh V s (y / 16 % 8) (y / 16 / 8 % 4) 4 = V (139 + (4 * (y / 16 % 8) + (y / 16 / 8 % 4))) from rfl] at cd
  rw [show vCt V s h 4 = V 171 from rfl] at c4
  rw [show vCt V s h 5 = V 172 from rfl] at c5
  rw [show vCt V s h 6 = V 173 from rfl] at c6
  rw [show vCt V s h 7 = sm (fun j => V (135 + j)) 4 from rfl] at c7
  have P : ∀ {M'}, zG w (mLw tb) 13 (cr + 1 + 1) 225 [.inl (.ref w.2.2.2.1), vR 9 0, vI (nI 1), vI (nI i), vI (nI y), vI (nI (y / 16)), vI (nI (y % 16)), vI (nI h), vI (nI (y / 16 % 8)), vI (nI (y / 16 / 8 % 4)), vI (nI s), vI (vCho (vDi V) V s (y / 16 % 8) (y / 16 / 8 % 4)), vI (vDe (vDi V) V s (y / 16 % 8) (y / 16 / 8 % 4)), vI (V (139 + (4 * (y / 16 % 8) + (y / 16 / 8 % 4)))), vI (V 171), vI (V 172), vI (V 173), vI (sm (fun j => V (135 + j)) 4), vU, vU, vU, vU, vU, vU, vU] [] (zP N7 O) (zrI (nI 1)) (zP M' O) → zG w (mLw tb) 13 (cr + 1 + 1) 100 [.inl (.ref w.2.2.2.1), vR 9 0, vI (nI 1), vI (nI i), vU, vU, vU, vU, vU, vU, vU, vU, vU, vU, vU, vU, vU, vU, vU, vU, vU, vU, vU, vU, vU] [] (zP M O) (zrI (nI 1)) (zP M' O) := fun {M'} G => by
    refine g_iload_n (n := 101) dL_law_100 rfl rfl ?_
    refine g_bipush (n := 103) dL_law_101 rfl k_bp_34 ?_
    refine g_icmp_ge (n := 106) (t := 805) dL_law_103 rfl (by decide) (fun q9 => absurd q9 (nle hi (by decide))) (fun _ => ?_)
    refine g_iload_n (n := 107) dL_law_106 rfl rfl ?_
    refine g_if_eq (n := 110) (t := 805) dL_law_107 rfl (by decide) (fun q9 => absurd q9 (by decide)) (fun _ => ?_)
    refine g_aload_nX (n := 111) dL_law_110 rfl rfl ?_
    refine g_iload_n (n := 112) dL_law_111 rfl rfl ?_
    refine g_cKPv (c9 := 0) (n := 115) (cc M) dL_law_112 rfl kz_L_150 rfl (Or.inl (Nat.le_of_ble_eq_true rfl)) (Nat.le_of_ble_eq_true rfl) rfl rfl ?_ rfl
    refine g_istore4 (n := 117) dL_law_115 rfl (Nat.le_of_ble_eq_true rfl) rfl ?_
    refine g_iload (n := 119) dL_law_117 rfl rfl ?_
    refine g_bipush (n := 121) dL_law_119 rfl k_bp_16 ?_
    refine g_idivN (n := 122) dL_law_121 rfl hy (by decide) (by decide) ?_
    refine g_istore5 (n := 124) dL_law_122 rfl (Nat.le_of_ble_eq_true rfl) rfl ?_
    refine g_iload (n := 126) dL_law_124 rfl rfl ?_
    refine g_bipush (n := 128) dL_law_126 rfl k_bp_16 ?_
    refine g_iremN (n := 129) dL_law_128 rfl hy (by decide) (by decide) ?_
    refine g_istore6 (n := 131) dL_law_129 rfl (Nat.le_of_ble_eq_true rfl) rfl ?_
    refine g_aload_n (n := 132) dL_law_131 rfl rfl ?_
    refine g_bipush (n := 134) dL_law_132 rfl k_bp_9 ?_
    refine g_cKHv (c9 := 0) (n := 137) c9 dL_law_134 rfl kz_L_117 rfl (Or.inl (Nat.le_of_ble_eq_true rfl)) (Nat.le_of_ble_eq_true rfl) rfl rfl ?_ rfl
    refine g_istore7 (n := 139) dL_law_137 rfl (Nat.le_of_ble_eq_true rfl) rfl ?_
    refine g_iload (n := 141) dL_law_139 rfl rfl ?_
    refine g_bipush (n := 143) dL_law_141 rfl k_bp_8 ?_
    refine g_iremN (n := 144) dL_law_143 rfl hl (by decide) (by decide) ?_
    refine g_istore8 (n := 146) dL_law_144 rfl (Nat.le_of_ble_eq_true rfl) rfl ?_
    refine g_iload (n := 148) dL_law_146 rfl rfl ?_
    refine g_bipush (n := 150) dL_law_148 rfl k_bp_8 ?_
    refine g_idivN (n := 151) dL_law_150 rfl hl (by decide) (by decide) ?_
    refine g_iconst (n := 152) dL_law_151 rfl k_ic_4 ?_
    refine g_iremN (n := 153) dL_law_152 rfl (show y / 16 / 8 < 2 ^ 31 by omega) (by decide) (by decide) ?_
    refine g_istore9 (n := 155) dL_law_153 rfl (Nat.le_of_ble_eq_true rfl) rfl ?_
    refine g_aload_n (n := 156) dL_law_155 rfl rfl ?_
    refine g_iconst (n := 157) dL_law_156 rfl k_ic_1 ?_
    refine g_cKHv (c9 := 0) (n := 160) c1 dL_law_157 rfl kz_L_117 rfl (Or.inl (Nat.le_of_ble_eq_true rfl)) (Nat.le_of_ble_eq_true rfl) rfl rfl ?_ rfl
    refine g_istore10 (n := 162) dL_law_160 rfl (Nat.le_of_ble_eq_true rfl) rfl ?_
    refine g_aload_n (n := 163) dL_law_162 rfl rfl ?_
    refine g_iload (n := 165) dL_law_163 rfl rfl ?_
    refine g_iload (n := 167) dL_law_165 rfl rfl ?_
    refine g_iconst (n := 168) dL_law_167 rfl k_ic_0 ?_
    refine g_cKHv (c9 := 0) (n := 171) ca dL_law_168 rfl kz_L_119 rfl (Or.inl (Nat.le_of_ble_eq_true rfl)) (Nat.le_of_ble_eq_true rfl) rfl rfl ?_ rfl
    refine g_istore11 (n := 173) dL_law_171 rfl (Nat.le_of_ble_eq_true rfl) rfl ?_
    refine g_aload_n (n := 174) dL_law_173 rfl rfl ?_
    refine g_iload (n := 176) dL_law_174 rfl rfl ?_
    refine g_iload (n := 178) dL_law_176 rfl rfl ?_
    refine g_iconst (n := 179) dL_law_178 rfl k_ic_1 ?_
    refine g_cKHv (c9 := 0) (n := 182) cb dL_law_179 rfl kz_L_119 rfl (Or.inl (Nat.le_of_ble_eq_true rfl)) (Nat.le_of_ble_eq_true rfl) rfl rfl ?_ rfl
    refine g_istore12 (n := 184) dL_law_182 rfl (Nat.le_of_ble_eq_true rfl) rfl ?_
    refine g_aload_n (n := 185) dL_law_184 rfl rfl ?_
    refine g_iload (n := 187) dL_law_185 rfl rfl ?_
    refine g_iload (n := 189) dL_law_187 rfl rfl ?_
    refine g_iconst (n := 190) dL_law_189 rfl k_ic_4 ?_
    refine g_cKHv (c9 := 0) (n := 193) cd dL_law_190 rfl kz_L_119 rfl (Or.inl (Nat.le_of_ble_eq_true rfl)) (Nat.le_of_ble_eq_true rfl) rfl rfl ?_ rfl
    refine g_istore13 (n := 195) dL_law_193 rfl (Nat.le_of_ble_eq_true rfl) rfl ?_
    refine g_aload_n (n := 196) dL_law_195 rfl rfl ?_
    refine g_iconst (n := 197) dL_law_196 rfl k_ic_4 ?_
    refine g_cKHv (c9 := 0) (n := 200) c4 dL_law_197 rfl kz_L_117 rfl (Or.inl (Nat.le_of_ble_eq_true rfl)) (Nat.le_of_ble_eq_true rfl) rfl rfl ?_ rfl
    refine g_istore14 (n := 202) dL_law_200 rfl (Nat.le_of_ble_eq_true rfl) rfl ?_
    refine g_aload_n (n := 203) dL_law_202 rfl rfl ?_
    refine g_iconst (n := 204) dL_law_203 rfl k_ic_5 ?_
    refine g_cKHv (c9 := 0) (n := 207) c5 dL_law_204 rfl kz_L_117 rfl (Or.inl (Nat.le_of_ble_eq_true rfl)) (Nat.le_of_ble_eq_true rfl) rfl rfl ?_ rfl
    refine g_istore15 (n := 209) dL_law_207 rfl (Nat.le_of_ble_eq_true rfl) rfl ?_
    refine g_aload_n (n := 210) dL_law_209 rfl rfl ?_
    refine g_bipush (n := 212) dL_law_210 rfl k_bp_6 ?_
    refine g_cKHv (c9 := 0) (n := 215) c6 dL_law_212 rfl kz_L_117 rfl (Or.inl (Nat.le_of_ble_eq_true rfl)) (Nat.le_of_ble_eq_true rfl) rfl rfl ?_ rfl
    refine g_istore16 (n := 217) dL_law_215 rfl (Nat.le_of_ble_eq_true rfl) rfl ?_
    refine g_aload_n (n := 218) dL_law_217 rfl rfl ?_
    refine g_bipush (n := 220) dL_law_218 rfl k_bp_7 ?_
    refine g_cKHv (c9 := 0) (n := 223) c7 dL_law_220 rfl kz_L_117 rfl (Or.inl (Nat.le_of_ble_eq_true rfl)) (Nat.le_of_ble_eq_true rfl) rfl rfl ?_ rfl
    refine g_istore17 (n := 225) dL_law_223 rfl (Nat.le_of_ble_eq_true rfl) rfl ?_
    exact G
  by_cases hk : y % 16 = 5 ∨ y % 16 = 6
  · have hr : aRoad y < 8 := by unfold aRoad; omega
    have hab : (y / 16 % 8) ≠ aRoad y := by unfold aRoad; omega
    have c8 := q_roadOf (w := w) (d := 2) (O := O) Z7 ha hr
    obtain ⟨N8, Z8, ci⟩ := q_ifRoad (w := w) (d := 2) (O := O) (c := y / 16 / 64 % 40) Z7 ha hr hab (by omega)
    obtain ⟨M', G⟩ := law_road (w := w) (tb := tb) (O := O) (cr := cr) (i := i) (y := y) Z8 hy hi hk IH
    refine ⟨M', P ?_⟩
    have K279 : zG w (mLw tb) 13 (cr + 1 + 1) 279 [.inl (.ref w.2.2.2.1), vR 9 0, vI (nI 1), vI (nI i), vI (nI y), vI (nI (y / 16)), vI (nI (y % 16)), vI (nI h), vI (nI (y / 16 % 8)), vI (nI (y / 16 / 8 % 4)), vI (nI s), vI (vCho (vDi V) V s (y / 16 % 8) (y / 16 / 8 % 4)), vI (vDe (vDi V) V s (y / 16 % 8) (y / 16 / 8 % 4)), vI (V (139 + (4 * (y / 16 % 8) + (y / 16 / 8 % 4)))), vI (V 171), vI (V 172), vI (V 173), vI (sm (fun j => V (135 + j)) 4), vI (V (2 + (8 * (y / 16 % 8) + aRoad y))), vU, vU, vU, vU, vU, vU] [] (zP N7 O) (zrI (nI 1)) (zP M' O) := by
      refine g_aload_n (n := 280) dL_law_279 rfl rfl ?_
      refine g_iload (n := 282) dL_law_280 rfl rfl ?_
      refine g_iload (n := 284) dL_law_282 rfl rfl ?_
      refine g_iconst (n := 285) dL_law_284 rfl k_ic_1 ?_
      refine g_iaddN (n := 286) dL_law_285 rfl ?_
      refine g_iload (n := 288) dL_law_286 rfl rfl ?_
      refine g_bipush (n := 290) dL_law_288 rfl k_bp_8 ?_
      refine g_idivN (n := 291) dL_law_290 rfl hl (by decide) (by decide) ?_
      refine g_bipush (n := 293) dL_law_291 rfl k_bp_7 ?_
      refine g_iremN (n := 294) dL_law_293 rfl (show y / 16 / 8 < 2 ^ 31 by omega) (by decide) (by decide) ?_
      refine g_iaddN (n := 295) dL_law_294 rfl ?_
      refine g_bipush (n := 297) dL_law_295 rfl k_bp_8 ?_
      refine g_iremN (n := 298) dL_law_297 rfl (show y / 16 + 1 + y / 16 / 8 % 7 < 2 ^ 31 by omega) (by decide) (by decide) ?_
      refine g_iload (n := 300) dL_law_298 rfl rfl ?_
      refine g_bipush (n := 302) dL_law_300 rfl k_bp_64 ?_
      refine g_idivN (n := 303) dL_law_302 rfl hl (by decide) (by decide) ?_
      refine g_bipush (n := 305) dL_law_303 rfl k_bp_40 ?_
      refine g_iremN (n := 306) dL_law_305 rfl (show y / 16 / 64 < 2 ^ 31 by omega) (by decide) (by decide) ?_
      refine g_cKHv (c9 := 0) (n := 309) ci dL_law_306 rfl kz_L_154 rfl (Or.inl (Nat.le_of_ble_eq_true rfl)) (Nat.le_of_ble_eq_true rfl) rfl rfl ?_ rfl
      refine g_goto (n := 0) (t := 313) dL_law_309 (by decide) ?_
      refine g_istore19 (n := 315) dL_law_313 rfl (Nat.le_of_ble_eq_true rfl) rfl ?_
      exact G
    have K238 : zG w (mLw tb) 13 (cr + 1 + 1) 238 [.inl (.ref w.2.2.2.1), vR 9 0, vI (nI 1), vI (nI i), vI (nI y), vI (nI (y / 16)), vI (nI (y % 16)), vI (nI h), vI (nI (y / 16 % 8)), vI (nI (y / 16 / 8 % 4)), vI (nI s), vI (vCho (vDi V) V s (y / 16 % 8) (y / 16 / 8 % 4)), vI (vDe (vDi V) V s (y / 16 % 8) (y / 16 / 8 % 4)), vI (V (139 + (4 * (y / 16 % 8) + (y / 16 / 8 % 4)))), vI (V 171), vI (V 172), vI (V 173), vI (sm (fun j => V (135 + j)) 4), vU, vU, vU, vU, vU, vU, vU] [] (zP N7 O) (zrI (nI 1)) (zP M' O) := by
      rcases hk with hk | hk
      · refine g_aload_n (n := 239) dL_law_238 rfl rfl ?_
        refine g_iload (n := 241) dL_law_239 rfl rfl ?_
        refine g_iload (n := 243) dL_law_241 rfl rfl ?_
        refine g_iconst (n := 244) dL_law_243 rfl k_ic_1 ?_
        refine g_iaddN (n := 245) dL_law_244 rfl ?_
        refine g_iload (n := 247) dL_law_245 rfl rfl ?_
        refine g_bipush (n := 249) dL_law_247 rfl k_bp_8 ?_
        refine g_idivN (n := 250) dL_law_249 rfl hl (by decide) (by decide) ?_
        refine g_bipush (n := 252) dL_law_250 rfl k_bp_7 ?_
        refine g_iremN (n := 253) dL_law_252 rfl (show y / 16 / 8 < 2 ^ 31 by omega) (by decide) (by decide) ?_
        refine g_iaddN (n := 254) dL_law_253 rfl ?_
        refine g_bipush (n := 256) dL_law_254 rfl k_bp_8 ?_
        refine g_iremN (n := 257) dL_law_256 rfl (show y / 16 + 1 + y / 16 / 8 % 7 < 2 ^ 31 by omega) (by decide) (by decide) ?_
        refine g_cKHv (c9 := 0) (n := 260) c8 dL_law_257 rfl kz_L_115 rfl (Or.inl (Nat.le_of_ble_eq_true rfl)) (Nat.le_of_ble_eq_true rfl) rfl rfl ?_ rfl
        refine g_goto (n := 0) (t := 264) dL_law_260 (by decide) ?_
        refine g_istore18 (n := 266) dL_law_264 rfl (Nat.le_of_ble_eq_true rfl) rfl ?_
        refine g_iload (n := 268) dL_law_266 rfl rfl ?_
        refine g_iconst (n := 269) dL_law_268 rfl k_ic_5 ?_
        refine g_icmp_eq (n := 272) (t := 279) dL_law_269 rfl (by decide) (fun _ => ?_) (fun q9 => absurd (congrArg nI hk) q9)
        exact K279
      · refine g_aload_n (n := 239) dL_law_238 rfl rfl ?_
        refine g_iload (n := 241) dL_law_239 rfl rfl ?_
        refine g_iload (n := 243) dL_law_241 rfl rfl ?_
        refine g_iconst (n := 244) dL_law_243 rfl k_ic_1 ?_
        refine g_iaddN (n := 245) dL_law_244 rfl ?_
        refine g_iload (n := 247) dL_law_245 rfl rfl ?_
        refine g_bipush (n := 249) dL_law_247 rfl k_bp_8 ?_
        refine g_idivN (n := 250) dL_law_249 rfl hl (by decide) (by decide) ?_
        refine g_bipush (n := 252) dL_law_250 rfl k_bp_7 ?_
        refine g_iremN (n := 253) dL_law_252 rfl (show y / 16 / 8 < 2 ^ 31 by omega) (by decide) (by decide) ?_
        refine g_iaddN (n := 254) dL_law_253 rfl ?_
        refine g_bipush (n := 256) dL_law_254 rfl k_bp_8 ?_
        refine g_iremN (n := 257) dL_law_256 rfl (show y / 16 + 1 + y / 16 / 8 % 7 < 2 ^ 31 by omega) (by decide) (by decide) ?_
        refine g_cKHv (c9 := 0) (n := 260) c8 dL_law_257 rfl kz_L_115 rfl (Or.inl (Nat.le_of_ble_eq_true rfl)) (Nat.le_of_ble_eq_true rfl) rfl rfl ?_ rfl
        refine g_goto (n := 0) (t := 264) dL_law_260 (by decide) ?_
        refine g_istore18 (n := 266) dL_law_264 rfl (Nat.le_of_ble_eq_true rfl) rfl ?_
        refine g_iload (n := 268) dL_law_266 rfl rfl ?_
        refine g_iconst (n := 269) dL_law_268 rfl k_ic_5 ?_
        refine g_icmp_eq (n := 272) (t := 279) dL_law_269 rfl (by decide) (fun q9 => absurd q9 (fun q => absurd ((nI_eq (by omega) (by omega)).mp q) (by omega))) (fun _ => ?_)
        refine g_iload (n := 274) dL_law_272 rfl rfl ?_
        refine g_bipush (n := 276) dL_law_274 rfl k_bp_6 ?_
        refine g_icmp_ne (n := 279) (t := 312) dL_law_276 rfl (by decide) (fun q9 => absurd (congrArg nI hk) q9) (fun _ => ?_)
        exact K279
    rcases hk with hk | hk
    · refine g_iload (n := 227) dL_law_225 rfl rfl ?_
      refine g_iconst (n := 228) dL_law_227 rfl k_ic_5 ?_
      refine g_icmp_eq (n := 231) (t := 238) dL_law_228 rfl (by decide) (fun _ => ?_) (fun q9 => absurd (congrArg nI hk) q9)
      exact K238
    · refine g_iload (n := 227) dL_law_225 rfl rfl ?_
      refine g_iconst (n := 228) dL_law_227 rfl k_ic_5 ?_
      refine g_icmp_eq (n := 231) (t := 238) dL_law_228 rfl (by decide) (fun q9 => absurd q9 (fun q => absurd ((nI_eq (by omega) (by omega)).mp q) (by omega))) (fun _ => ?_)
      refine g_iload (n := 233) dL_law_231 rfl rfl ?_
      refine g_bipush (n := 235) dL_law_233 rfl k_bp_6 ?_
      refine g_icmp_ne (n := 238) (t := 263) dL_law_235 rfl (by decide) (fun q9 => absurd (congrArg nI hk) q9) (fun _ => ?_)
      exact K238
  · have n5 : ¬ nI (y % 16) = nI 5 := fun q => hk (Or.inl ((nI_eq (by omega) (by omega)).mp q))
    have n6 : ¬ nI (y % 16) = nI 6 := fun q => hk (Or.inr ((nI_eq (by omega) (by omega)).mp q))
    have E : zE w tb O (cr + 1 + 1) 315 [.inl (.ref w.2.2.2.1), vR 9 0, vI (nI 1), vI (nI i), vI (nI y), vI (nI (y / 16)), vI (nI (y % 16)), vI (nI h), vI (nI (y / 16 % 8)), vI (nI (y / 16 / 8 % 4)), vI (nI s), vI (vCho (vDi V) V s (y / 16 % 8) (y / 16 / 8 % 4)), vI (vDe (vDi V) V s (y / 16 % 8) (y / 16 / 8 % 4)), vI (V (139 + (4 * (y / 16 % 8) + (y / 16 / 8 % 4)))), vI (V 171), vI (V 172), vI (V 173), vI (sm (fun j => V (135 + j)) 4), vI (nI 0), vI (nI 0), vU, vU, vU, vU, vU] [] N7 := by
      by_cases k1 : 9 < y % 16
      · exact law_send Z7 hy hi k1 IH
      · by_cases k2 : y % 16 < 2
        · exact law_exit Z7 hy hi k2 IH
        · exact law_rest Z7 hy hi (by omega) (by omega) (fun q => hk (Or.inl q)) (fun q => hk (Or.inr q)) IH
    obtain ⟨M', G⟩ := E
    refine ⟨M', P ?_⟩
    refine g_iload (n := 227) dL_law_225 rfl rfl ?_
    refine g_iconst (n := 228) dL_law_227 rfl k_ic_5 ?_
    refine g_icmp_eq (n := 231) (t := 238) dL_law_228 rfl (by decide) (fun q9 => absurd q9 n5) (fun _ => ?_)
    refine g_iload (n := 233) dL_law_231 rfl rfl ?_
    refine g_bipush (n := 235) dL_law_233 rfl k_bp_6 ?_
    refine g_icmp_ne (n := 238) (t := 263) dL_law_235 rfl (by decide) (fun _ => ?_) (fun q9 => absurd q9 n6)
    refine g_iconst (n := 264) dL_law_263 rfl k_ic_0 ?_
    refine g_istore18 (n := 266) dL_law_264 rfl (Nat.le_of_ble_eq_true rfl) rfl ?_
    refine g_iload (n := 268) dL_law_266 rfl rfl ?_
    refine g_iconst (n := 269) dL_law_268 rfl k_ic_5 ?_
    refine g_icmp_eq (n := 272) (t := 279) dL_law_269 rfl (by decide) (fun q9 => absurd q9 n5) (fun _ => ?_)
    refine g_iload (n := 274) dL_law_272 rfl rfl ?_
    refine g_bipush (n := 276) dL_law_274 rfl k_bp_6 ?_
    refine g_icmp_ne (n := 279) (t := 312) dL_law_276 rfl (by decide) (fun _ => ?_) (fun q9 => absurd q9 n6)
    refine g_iconst (n := 313) dL_law_312 rfl k_ic_0 ?_
    refine g_istore19 (n := 315) dL_law_313 rfl (Nat.le_of_ble_eq_true rfl) rfl ?_
    exact G
end LW

