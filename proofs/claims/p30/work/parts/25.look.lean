/-! The look: all exits weighed. -/
theorem u3_com {M : Nat → Nat → Nat → Int32} {k i k2 i2 j : Nat} {R : Nat → Int32} {v : Int32} (h : ¬ (k = k2 ∧ i = i2)) : u3 (u2 M k2 i2 R) k i j v = u2 (u3 M k i j v) k2 i2 R := by
  funext a b c
  unfold u3 u2
  by_cases h1 : a = k2 ∧ b = i2
  · rw [if_pos h1, if_neg (fun q => h ⟨q.1.symm.trans h1.1, q.2.1.symm.trans h1.2⟩), if_pos h1]
  · rw [if_neg h1, if_neg h1]
/-- the memory with the chooser's row and its two rows of numbers -/
abbrev mK (M : Nat → Nat → Nat → Int32) (C R1 R2 : Nat → Int32) : Nat → Nat → Nat → Int32 := u2 (u2 (u2 M 11 0 R1) 12 0 R2) 0 0 C
theorem mK_0 {M : Nat → Nat → Nat → Int32} {C R1 R2 : Nat → Int32} {j : Nat} {v : Int32} : u3 (mK M C R1 R2) 0 0 j v = mK M (upd C j v) R1 R2 := u3_u2 _ _ _ _ _ _
theorem mK_11 {M : Nat → Nat → Nat → Int32} {C R1 R2 : Nat → Int32} {j : Nat} {v : Int32} : u3 (mK M C R1 R2) 11 0 j v = mK M C (upd R1 j v) R2 := by
  unfold mK
  rw [u3_com (by decide), u3_com (by decide), u3_u2]
theorem mK_12 {M : Nat → Nat → Nat → Int32} {C R1 R2 : Nat → Int32} {j : Nat} {v : Int32} : u3 (mK M C R1 R2) 12 0 j v = mK M C R1 (upd R2 j v) := by
  unfold mK
  rw [u3_com (by decide), u3_u2]
theorem mK_id (M : Nat → Nat → Nat → Int32) : mK M (M 0 0) (M 11 0) (M 12 0) = M := by
  unfold mK
  rw [show u2 M 11 0 (M 11 0) = M from u2_id _ _ _, show u2 M 12 0 (M 12 0) = M from u2_id _ _ _, show u2 M 0 0 (M 0 0) = M from u2_id _ _ _]
def kLen (M : Nat → Nat → Nat → Int32) (i s h e : Nat) : Int32 := xg2 (M 22 i) 4 4 (nI 0) (xg (M 14 i) s (-1) (nI e)) (nI h)
def kDis (M : Nat → Nat → Nat → Int32) (i s t e : Nat) : Int32 := xfar (xg2 (M 28 i) 8 8 xFAR (nI t) (xg (M 13 i) s (-1) (nI e)))
def kOpn (M : Nat → Nat → Nat → Int32) (i s e : Nat) : Bool := decide (xg (M 15 i) s 0 (nI e) = nI 1)
def kCan (M : Nat → Nat → Nat → Int32) (i s t h e : Nat) : Bool := kOpn M i s e && (decide (0 < kLen M i s h e) && decide (kDis M i s t e ≠ -1))
def kNf (M : Nat → Nat → Nat → Int32) (i : Nat) : Bool := decide (M 18 i 0 = nI 1)
def kF (M : Nat → Nat → Nat → Int32) (i s t h e : Nat) : Int32 := if kCan M i s t h e then (if kNf M i then kDis M i s t e else kLen M i s h e) else xFAR
def kS (M : Nat → Nat → Nat → Int32) (i s t h e : Nat) : Int32 := if kCan M i s t h e then (if kNf M i then kLen M i s h e else kDis M i s t e) else xFAR
/-- takeable, best, least first, least second, of the first exits -/
def kW (can : Nat → Bool) (F S : Nat → Int32) : Nat → Int32 × Int32 × Int32 × Int32
  | 0 => (nI 0, nI 0, xFAR, xFAR)
  | e + 1 =>
    let q := kW can F S e
    if can e then (if xles (F e) (S e) q.2.2.1 q.2.2.2 then (q.1 + nI 1, nI 0 + nI 1, F e, S e) else (q.1 + nI 1, q.2.1 + zb (decide (F e = q.2.2.1) && decide (S e = q.2.2.2)), q.2.2.1, q.2.2.2)) else q
def kQ (M : Nat → Nat → Nat → Int32) (i s t h : Nat) : Int32 × Int32 × Int32 × Int32 := kW (kCan M i s t h) (kF M i s t h) (kS M i s t h) 8
def kLo (M : Nat → Nat → Nat → Int32) (i t h : Nat) : Int32 := if M 18 i 1 = nI 1 then M 19 i (4 * t + h) else nI 0
def kEx (M : Nat → Nat → Nat → Int32) (i s t h : Nat) : Int32 :=
  if 0 < (kQ M i s t h).2.1 then xrk (fun e => decide (kF M i s t h e = (kQ M i s t h).2.2.1) && decide (kS M i s t h e = (kQ M i s t h).2.2.2)) 0 8 (kLo M i t h - kLo M i t h / (kQ M i s t h).2.1 * (kQ M i s t h).2.1) else -1
def kCo (M : Nat → Nat → Nat → Int32) (i s t h : Nat) : Int32 := xfar (xg2 (M 28 i) 8 8 xFAR (nI t) (xg (M 13 i) s (-1) (kEx M i s t h)))
/-- the memory behind a look -/
def mLook (M : Nat → Nat → Nat → Int32) (i s t h : Nat) : Nat → Nat → Nat → Int32 :=
  mK M (xC (M 0 0) (kQ M i s t h).1 (kQ M i s t h).2.1 (kEx M i s t h) (kCo M i s t h) (kQ M i s t h).2.2.1 (kQ M i s t h).2.2.2) (xfl (kF M i s t h) (M 11 0) 8) (xfl (kS M i s t h) (M 12 0) 8)
theorem xrk_cong {p q : Nat → Bool} : ∀ (k t : Nat) (x : Int32), (∀ e, t ≤ e → e < t + k → p e = q e) → xrk p t k x = xrk q t k x
  | 0, _, _, _ => rfl
  | k + 1, t, x, h => by
    have e1 := h t (Nat.le_refl _) (by omega)
    have e2 : ∀ y, xrk p (t + 1) k y = xrk q (t + 1) k y := fun y => xrk_cong k (t + 1) y (fun e h1 h2 => h e (by omega) (by omega))
    show (if p t then (if x = 0 then nI t else xrk p (t + 1) k (x + (-1))) else xrk p (t + 1) k x) = (if q t then (if x = 0 then nI t else xrk q (t + 1) k (x + (-1))) else xrk q (t + 1) k x)
    rw [e1, e2, e2]
theorem xfl_in {F g : Nat → Int32} {n j : Nat} (h : j < n) : xfl F g n j = F j := if_pos h
section L7
variable {w : zWp} {d i : Nat} {M : Nat → Nat → Nat → Int32} {O : Nat → Int64}
theorem c_look {s t h : Nat} (hi : i < 10) (hs : M 1 i 5 = nI s) (h8 : s ≤ 8) (ht : t < 8) (hh : h < 4) : zC w mX0_look (d + 3) [vR 0 0, vR 3 i, vI (nI t), vI (nI h)] (zP M O) zrV (zP (mLook M i s t h) O) := by
  obtain ⟨z, hz⟩ : ∃ z, z = M 0 0 := ⟨_, rfl⟩
  obtain ⟨F, hF⟩ : ∃ F, F = kF M i s t h := ⟨_, rfl⟩
  obtain ⟨S, hS⟩ : ∃ S, S = kS M i s t h := ⟨_, rfl⟩
  obtain ⟨can, hcan⟩ : ∃ can, can = kCan M i s t h := ⟨_, rfl⟩
  obtain ⟨nf, hnf⟩ : ∃ nf, nf = kNf M i := ⟨_, rfl⟩
  obtain ⟨ex0, hex0⟩ : ∃ x, x = z 4 := ⟨_, rfl⟩
  obtain ⟨co0, hco0⟩ : ∃ x, x = z 5 := ⟨_, rfl⟩
  -- the state of the loop at exit e
  obtain ⟨St, hSt⟩ : ∃ St : Nat → Nat → Nat → Nat → Int32, St = fun e => mK M (xC z (kW can F S e).1 (kW can F S e).2.1 ex0 co0 (kW can F S e).2.2.1 (kW can F S e).2.2.2) (xfl F (M 11 0) e) (xfl S (M 12 0) e) := ⟨_, rfl⟩
  have fin : zG w mX0_look (d + 3) 0 185 [vR 0 0, vR 3 i, vI (nI t), vI (nI h), vI (zb nf), vI (nI 8), vU, vU, vU] [] (zP (St 8) O) zrV (zP (mLook M i s t h) O) := by
    obtain ⟨q, hq⟩ : ∃ q, q = kW can F S 8 := ⟨_, rfl⟩
    have hqQ : kQ M i s t h = q := by rw [hq, hcan, hF, hS]; rfl
    obtain ⟨R1, hR1⟩ : ∃ R1, R1 = xfl F (M 11 0) 8 := ⟨_, rfl⟩
    obtain ⟨R2, hR2⟩ : ∃ R2, R2 = xfl S (M 12 0) 8 := ⟨_, rfl⟩
    have hS8 : St 8 = mK M (xC z q.1 q.2.1 ex0 co0 q.2.2.1 q.2.2.2) R1 R2 := by rw [hSt, hq, hR1, hR2]
    have hend : mLook M i s t h = mK M (xC z q.1 q.2.1 (kEx M i s t h) (kCo M i s t h) q.2.2.1 q.2.2.2) R1 R2 := by
      unfold mLook
      rw [hqQ, hR1, hR2, hF, hS, hz]
    rw [hS8, hend]
    have k229 : zG w mX0_look (d + 3) 0 229 [vR 0 0, vR 3 i, vI (nI t), vI (nI h), vI (zb nf), vI (kLo M i t h), vU, vU, vU] [vI (kEx M i s t h), vR 0 0] (zP (mK M (xC z q.1 q.2.1 ex0 co0 q.2.2.1 q.2.2.2) R1 R2) O) zrV (zP (mK M (xC z q.1 q.2.1 (kEx M i s t h) (kCo M i s t h) q.2.2.1 q.2.2.2) R1 R2) O) := by
      refine gw_X0_77 (n := 232) dX0_look_229 rfl rfl (z_lvP (by first | decide | assumption)) ?_
      rw [mK_0, xC_4]
      have ct := c_xtown (w := w) (d := d + 1) (M := mK M (xC z q.1 q.2.1 (kEx M i s t h) co0 q.2.2.1 q.2.2.2) R1 R2) (O := O) hi hs h8 (kEx M i s t h)
      have cw := c_rway (w := w) (d := d + 1) (M := mK M (xC z q.1 q.2.1 (kEx M i s t h) co0 q.2.2.1 q.2.2.2) R1 R2) (O := O) hi (nI t) (xg (M 13 i) s (-1) (kEx M i s t h))
      refine g_aload_n (n := 233) dX0_look_232 rfl rfl ?_
      refine g_aload_n (n := 234) dX0_look_233 rfl rfl ?_
      refine gf_X0_46 (n := 237) dX0_look_234 rfl rfl (z_lvP (by first | decide | assumption)) rfl ?_
      refine g_iload_n (n := 238) dX0_look_237 rfl rfl ?_
      refine g_aload_n (n := 239) dX0_look_238 rfl rfl ?_
      refine gf_X0_31 (n := 242) dX0_look_239 rfl rfl (z_lvP (by first | decide | assumption)) rfl ?_
      refine g_aload_n (n := 243) dX0_look_242 rfl rfl ?_
      refine gf_X0_77 (n := 246) dX0_look_243 rfl rfl (z_lvP (by first | decide | assumption)) ?_
      refine g_cVv (n := 249) ct dX0_look_246 rfl kw_X0_50 rfl (by decide) (z_lvP (by first | decide | assumption)) (Nat.le_of_ble_eq_true rfl) ⟨Nat.le_refl _, Nat.le_refl _⟩ ?_ rfl
      refine g_cVv (n := 252) cw dX0_look_249 rfl kw_X0_53 rfl (by decide) (z_lvP (by first | decide | assumption)) (Nat.le_of_ble_eq_true rfl) ⟨Nat.le_refl _, Nat.le_refl _⟩ ?_ rfl
      refine gw_X0_80 (n := 255) dX0_look_252 rfl rfl (z_lvP (by first | decide | assumption)) ?_
      rw [mK_0, xC_5]
      exact g_return dX0_look_255 rfl rfl rfl
    have k206 : zG w mX0_look (d + 3) 0 206 [vR 0 0, vR 3 i, vI (nI t), vI (nI h), vI (zb nf), vI (kLo M i t h), vU, vU, vU] [] (zP (mK M (xC z q.1 q.2.1 ex0 co0 q.2.2.1 q.2.2.2) R1 R2) O) zrV (zP (mK M (xC z q.1 q.2.1 (kEx M i s t h) (kCo M i s t h) q.2.2.1 q.2.2.2) R1 R2) O) := by
      by_cases hb : 0 < q.2.1
      · have e1 : kEx M i s t h = xrk (fun e => decide (R1 e = q.2.2.1) && decide (R2 e = q.2.2.2)) 0 8 (kLo M i t h - kLo M i t h / q.2.1 * q.2.1) := by
          unfold kEx
          rw [hqQ, if_pos hb]
          refine xrk_cong 8 0 _ (fun e h1 h2 => ?_)
          rw [hR1, hR2, xfl_in (by omega), xfl_in (by omega), hF, hS]
        have cr := c_cbestOf (w := w) (d := d + 1) (M := u2 (u2 M 11 0 R1) 12 0 R2) (O := O) (z := z) (tk := q.1) (be := q.2.1) (ex := ex0) (co := co0) (lf := q.2.2.1) (ls := q.2.2.2) (kLo M i t h - kLo M i t h / q.2.1 * q.2.1)
        rw [show (fun e => decide (u2 (u2 M 11 0 R1) 12 0 R2 11 0 e = q.2.2.1) && decide (u2 (u2 M 11 0 R1) 12 0 R2 12 0 e = q.2.2.2)) = (fun e => decide (R1 e = q.2.2.1) && decide (R2 e = q.2.2.2)) from rfl, ← e1] at cr
        refine g_aload_n (n := 207) dX0_look_206 rfl rfl ?_
        refine g_aload_n (n := 208) dX0_look_207 rfl rfl ?_
        refine gf_X0_70 (n := 211) dX0_look_208 rfl rfl (z_lvP (by first | decide | assumption)) ?_
        refine g_if_le (n := 214) (t := 228) dX0_look_211 rfl (by decide) (fun q9 => absurd q9 (Int32.not_le.mpr hb)) (fun _ => ?_)
        refine g_aload_n (n := 215) dX0_look_214 rfl rfl ?_
        refine g_iload (n := 217) dX0_look_215 rfl rfl ?_
        refine g_aload_n (n := 218) dX0_look_217 rfl rfl ?_
        refine gf_X0_70 (n := 221) dX0_look_218 rfl rfl (z_lvP (by first | decide | assumption)) ?_
        refine g_irem (n := 222) dX0_look_221 rfl (fun q9 => by have q8 : q.2.1 = 0 := q9; rw [q8] at hb; exact absurd hb (by decide)) ?_
        refine g_cVv (n := 225) cr dX0_look_222 rfl kw_X0_74 rfl (by decide) (z_lvP (by first | decide | assumption)) (Nat.le_of_ble_eq_true rfl) ⟨Nat.le_refl _, Nat.le_refl _⟩ ?_ rfl
        refine g_goto (n := 0) (t := 229) dX0_look_225 (by decide) ?_
        exact k229
      · have e1 : kEx M i s t h = -1 := by
          unfold kEx
          rw [hqQ, if_neg hb]
        rw [e1] at k229 ⊢
        refine g_aload_n (n := 207) dX0_look_206 rfl rfl ?_
        refine g_aload_n (n := 208) dX0_look_207 rfl rfl ?_
        refine gf_X0_70 (n := 211) dX0_look_208 rfl rfl (z_lvP (by first | decide | assumption)) ?_
        refine g_if_le (n := 214) (t := 228) dX0_look_211 rfl (by decide) (fun _ => ?_) (fun q9 => absurd (Int32.not_lt.mp hb) q9)
        refine g_iconst (n := 229) dX0_look_228 rfl k_ic_m1 ?_
        exact k229
    have cs := c_setting (w := w) (d := d + 2) (M := mK M (xC z q.1 q.2.1 ex0 co0 q.2.2.1 q.2.2.2) R1 R2) (O := O) hi (nI 1)
    rw [xg_nI (by decide) (by decide)] at cs
    have co := c_loavesOut (w := w) (d := d + 1) (M := mK M (xC z q.1 q.2.1 ex0 co0 q.2.2.1 q.2.2.2) R1 R2) (O := O) hi (nI t) (nI h)
    rw [xg2_nI ht (by decide) hh (by decide)] at co
    by_cases hb : M 18 i 1 = nI 1
    · have e1 : kLo M i t h = M 19 i (4 * t + h) := if_pos hb
      rw [e1] at k206
      refine g_aload_n (n := 186) dX0_look_185 rfl rfl ?_
      refine g_iconst (n := 187) dX0_look_186 rfl k_ic_1 ?_
      refine g_cVv (n := 190) cs dX0_look_187 rfl kw_X0_18 rfl (by decide) (z_lvP (by first | decide | assumption)) (Nat.le_of_ble_eq_true rfl) ⟨Nat.le_refl _, Nat.le_refl _⟩ ?_ rfl
      refine g_iconst (n := 191) dX0_look_190 rfl k_ic_1 ?_
      refine g_icmp_ne (n := 194) (t := 203) dX0_look_191 rfl (by decide) (fun q9 => absurd hb q9) (fun _ => ?_)
      refine g_aload_n (n := 195) dX0_look_194 rfl rfl ?_
      refine g_iload_n (n := 196) dX0_look_195 rfl rfl ?_
      refine g_iload_n (n := 197) dX0_look_196 rfl rfl ?_
      refine g_cVv (n := 200) co dX0_look_197 rfl kw_X0_67 rfl (by decide) (z_lvP (by first | decide | assumption)) (Nat.le_of_ble_eq_true rfl) ⟨Nat.le_refl _, Nat.le_refl _⟩ ?_ rfl
      refine g_goto (n := 0) (t := 204) dX0_look_200 (by decide) ?_
      refine g_istore5 (n := 206) dX0_look_204 rfl (by decide) rfl ?_
      exact k206
    · have e1 : kLo M i t h = nI 0 := if_neg hb
      rw [e1] at k206
      refine g_aload_n (n := 186) dX0_look_185 rfl rfl ?_
      refine g_iconst (n := 187) dX0_look_186 rfl k_ic_1 ?_
      refine g_cVv (n := 190) cs dX0_look_187 rfl kw_X0_18 rfl (by decide) (z_lvP (by first | decide | assumption)) (Nat.le_of_ble_eq_true rfl) ⟨Nat.le_refl _, Nat.le_refl _⟩ ?_ rfl
      refine g_iconst (n := 191) dX0_look_190 rfl k_ic_1 ?_
      refine g_icmp_ne (n := 194) (t := 203) dX0_look_191 rfl (by decide) (fun _ => ?_) (fun q9 => absurd q9 hb)
      refine g_iconst (n := 204) dX0_look_203 rfl k_ic_0 ?_
      refine g_istore5 (n := 206) dX0_look_204 rfl (by decide) rfl ?_
      exact k206
  have body : ∀ e, e < 8 → zG w mX0_look (d + 3) 0 23 [vR 0 0, vR 3 i, vI (nI t), vI (nI h), vI (zb nf), vI (nI (e + 1)), vU, vU, vU] [] (zP (St (e + 1)) O) zrV (zP (mLook M i s t h) O) → zG w mX0_look (d + 3) 0 23 [vR 0 0, vR 3 i, vI (nI t), vI (nI h), vI (zb nf), vI (nI e), vU, vU, vU] [] (zP (St e) O) zrV (zP (mLook M i s t h) O) := by
    intro e he ih
    have cn : ∀ C R1 R2, zC w mX1_neighbour (d + 1 + 1) [vR 1 i, vI (nI e)] (zP (mK M C R1 R2) O) (zrI (xg (M 14 i) s (-1) (nI e))) (zP (mK M C R1 R2) O) := fun C R1 R2 => c_xneighbour (w := w) (d := d + 1) (M := mK M C R1 R2) (O := O) hi hs h8 (nI e)
    have cl : ∀ C R1 R2, zC w mX5_length (d + 1 + 1) [vR 5 i, vI (xg (M 14 i) s (-1) (nI e)), vI (nI h)] (zP (mK M C R1 R2) O) (zrI (kLen M i s h e)) (zP (mK M C R1 R2) O) := fun C R1 R2 => c_nlength (w := w) (d := d + 1) (M := mK M C R1 R2) (O := O) hi _ _
    have ct : ∀ C R1 R2, zC w mX1_town (d + 1 + 1) [vR 1 i, vI (nI e)] (zP (mK M C R1 R2) O) (zrI (xg (M 13 i) s (-1) (nI e))) (zP (mK M C R1 R2) O) := fun C R1 R2 => c_xtown (w := w) (d := d + 1) (M := mK M C R1 R2) (O := O) hi hs h8 (nI e)
    have cw : ∀ C R1 R2, zC w mX6_way (d + 1 + 1) [vR 6 i, vI (nI t), vI (xg (M 13 i) s (-1) (nI e))] (zP (mK M C R1 R2) O) (zrI (kDis M i s t e)) (zP (mK M C R1 R2) O) := fun C R1 R2 => c_rway (w := w) (d := d + 1) (M := mK M C R1 R2) (O := O) hi _ _
    have cp : ∀ C R1 R2, zC w mX1_isOpen (d + 1 + 1) [vR 1 i, vI (nI e)] (zP (mK M C R1 R2) O) (zrI (zb (kOpn M i s e))) (zP (mK M C R1 R2) O) := fun C R1 R2 => c_xisOpen (w := w) (d := d + 1) (M := mK M C R1 R2) (O := O) hi hs h8 (nI e)
    obtain ⟨q, hq⟩ : ∃ q, q = kW can F S e := ⟨_, rfl⟩
    have hSe : St e = mK M (xC z q.1 q.2.1 ex0 co0 q.2.2.1 q.2.2.2) (xfl F (M 11 0) e) (xfl S (M 12 0) e) := by rw [hSt, hq]
    rw [hSe]
    have k98 : zG w mX0_look (d + 3) 0 98 [vR 0 0, vR 3 i, vI (nI t), vI (nI h), vI (zb nf), vI (nI e), vI (kLen M i s h e), vI (kDis M i s t e), vI (zb (can e))] [] (zP (mK M (xC z q.1 q.2.1 ex0 co0 q.2.2.1 q.2.2.2) (xfl F (M 11 0) e) (xfl S (M 12 0) e)) O) zrV (zP (mLook M i s t h) O) := by
      cases hc : can e
      · have hFe : nI 1000000 = F e := by
          have h1 : kCan M i s t h e = false := by rw [← hcan]; exact hc
          rw [hF]
          unfold kF
          rw [h1]
          rfl
        have hSe2 : nI 1000000 = S e := by
          have h1 : kCan M i s t h e = false := by rw [← hcan]; exact hc
          rw [hS]
          unfold kS
          rw [h1]
          rfl
        have hSn : St (e + 1) = mK M (xC z q.1 q.2.1 ex0 co0 q.2.2.1 q.2.2.2) (xfl F (M 11 0) (e + 1)) (xfl S (M 12 0) (e + 1)) := by
          have e1 : kW can F S (e + 1) = q := by
            rw [hq]
            show (if can e then _ else _) = _
            rw [hc]
            rfl
          rw [hSt]
          dsimp only
          rw [e1]
        rw [hSn] at ih
        refine g_aload_n (n := 99) dX0_look_98 rfl rfl ?_
        refine gf_X0_9 (n := 102) dX0_look_99 rfl rfl (z_lvP (by first | decide | assumption)) rfl ?_
        refine g_iload (n := 104) dX0_look_102 rfl rfl ?_
        refine g_iload (n := 106) dX0_look_104 rfl rfl ?_
        refine g_if_ne (n := 109) (t := 114) dX0_look_106 rfl (by decide) (fun q9 => absurd rfl q9) (fun _ => ?_)
        refine g_ldc (n := 111) dX0_look_109 rfl kc_X0_62 ?_
        refine g_goto (n := 0) (t := 126) dX0_look_111 (by decide) ?_
        refine g_iast (n := 127) dX0_look_126 rfl (by decide) (z_lvP (by first | decide | assumption)) rfl (by show _ < 8; first | assumption | omega) ?_
        rw [mK_11, xfl_s _ _ _ hFe]
        refine g_aload_n (n := 128) dX0_look_127 rfl rfl ?_
        refine gf_X0_15 (n := 131) dX0_look_128 rfl rfl (z_lvP (by first | decide | assumption)) rfl ?_
        refine g_iload (n := 133) dX0_look_131 rfl rfl ?_
        refine g_iload (n := 135) dX0_look_133 rfl rfl ?_
        refine g_if_ne (n := 138) (t := 143) dX0_look_135 rfl (by decide) (fun q9 => absurd rfl q9) (fun _ => ?_)
        refine g_ldc (n := 140) dX0_look_138 rfl kc_X0_62 ?_
        refine g_goto (n := 0) (t := 155) dX0_look_140 (by decide) ?_
        refine g_iast (n := 156) dX0_look_155 rfl (by decide) (z_lvP (by first | decide | assumption)) rfl (by show _ < 8; first | assumption | omega) ?_
        rw [mK_12, xfl_s _ _ _ hSe2]
        refine g_iload (n := 158) dX0_look_156 rfl rfl ?_
        refine g_if_eq (n := 161) (t := 179) dX0_look_158 rfl (by decide) (fun _ => ?_) (fun q9 => absurd rfl q9)
        refine g_iinc5 (n := 182) dX0_look_179 rfl (by decide) rfl (z_inc1 _) ?_
        refine g_goto (n := 0) (t := 23) dX0_look_182 (by decide) ?_
        refine g_drop 6 (g_drop 7 (g_drop 8 ?_))
        exact ih
      · have hce : kCan M i s t h e = true := by rw [← hcan]; exact hc
        have hSn : St (e + 1) = mK M (if xles (F e) (S e) q.2.2.1 q.2.2.2 then xC z (q.1 + nI 1) (nI 0 + nI 1) ex0 co0 (F e) (S e) else xC z (q.1 + nI 1) (q.2.1 + zb (decide (F e = q.2.2.1) && decide (S e = q.2.2.2))) ex0 co0 q.2.2.1 q.2.2.2) (xfl F (M 11 0) (e + 1)) (xfl S (M 12 0) (e + 1)) := by
          have e1 : kW can F S (e + 1) = if xles (F e) (S e) q.2.2.1 q.2.2.2 then (q.1 + nI 1, nI 0 + nI 1, F e, S e) else (q.1 + nI 1, q.2.1 + zb (decide (F e = q.2.2.1) && decide (S e = q.2.2.2)), q.2.2.1, q.2.2.2) := by
            rw [hq]
            show (if can e then _ else _) = _
            rw [hc]
            rfl
          rw [hSt]
          dsimp only
          rw [e1]
          by_cases hx : xles (F e) (S e) q.2.2.1 q.2.2.2 = true
          · rw [if_pos hx, if_pos hx]
          · rw [if_neg hx, if_neg hx]
        rw [hSn] at ih
        have tail : zG w mX0_look (d + 3) 0 156 [vR 0 0, vR 3 i, vI (nI t), vI (nI h), vI (zb nf), vI (nI e), vI (kLen M i s h e), vI (kDis M i s t e), vI (zb true)] [] (zP (mK M (xC z q.1 q.2.1 ex0 co0 q.2.2.1 q.2.2.2) (xfl F (M 11 0) (e + 1)) (xfl S (M 12 0) (e + 1))) O) zrV (zP (mLook M i s t h) O) := by
          refine g_iload (n := 158) dX0_look_156 rfl rfl ?_
          refine g_if_eq (n := 161) (t := 179) dX0_look_158 rfl (by decide) (fun q9 => absurd q9 (by decide)) (fun _ => ?_)
          refine g_aload_n (n := 162) dX0_look_161 rfl rfl ?_
          refine g_aload_n (n := 163) dX0_look_162 rfl rfl ?_
          refine gf_X0_9 (n := 166) dX0_look_163 rfl rfl (z_lvP (by first | decide | assumption)) rfl ?_
          refine g_iload (n := 168) dX0_look_166 rfl rfl ?_
          refine g_iald (n := 169) dX0_look_168 rfl (by decide) (z_lvP (by first | decide | assumption)) rfl (by show _ < 8; first | assumption | omega) ?_
          rw [show mK M (xC z q.1 q.2.1 ex0 co0 q.2.2.1 q.2.2.2) (xfl F (M 11 0) (e + 1)) (xfl S (M 12 0) (e + 1)) 11 0 e = F e from xfl_in (Nat.lt_succ_self e)]
          refine g_aload_n (n := 170) dX0_look_169 rfl rfl ?_
          refine gf_X0_15 (n := 173) dX0_look_170 rfl rfl (z_lvP (by first | decide | assumption)) rfl ?_
          refine g_iload (n := 175) dX0_look_173 rfl rfl ?_
          refine g_iald (n := 176) dX0_look_175 rfl (by decide) (z_lvP (by first | decide | assumption)) rfl (by show _ < 8; first | assumption | omega) ?_
          rw [show mK M (xC z q.1 q.2.1 ex0 co0 q.2.2.1 q.2.2.2) (xfl F (M 11 0) (e + 1)) (xfl S (M 12 0) (e + 1)) 12 0 e = S e from xfl_in (Nat.lt_succ_self e)]
          refine g_cVn (n := 179) (c_cweigh (d := d + 1) (F e) (S e)) dX0_look_176 rfl kw_X0_63 rfl (by decide) (z_lvP (by first | decide | assumption)) (Nat.le_of_ble_eq_true rfl) ⟨Nat.le_refl _, Nat.le_refl _⟩ ?_ rfl
          refine g_iinc5 (n := 182) dX0_look_179 rfl (by decide) rfl (z_inc1 _) ?_
          refine g_goto (n := 0) (t := 23) dX0_look_182 (by decide) ?_
          refine g_drop 6 (g_drop 7 (g_drop 8 ?_))
          exact ih
        cases hn : nf
        · have hn2 : kNf M i = false := by rw [← hnf]; exact hn
          have hFe : kLen M i s h e = F e := by rw [hF]; unfold kF; rw [hce, hn2]; rfl
          have hSe2 : kDis M i s t e = S e := by rw [hS]; unfold kS; rw [hce, hn2]; rfl
          rw [hn] at tail
          refine g_aload_n (n := 99) dX0_look_98 rfl rfl ?_
          refine gf_X0_9 (n := 102) dX0_look_99 rfl rfl (z_lvP (by first | decide | assumption)) rfl ?_
          refine g_iload (n := 104) dX0_look_102 rfl rfl ?_
          refine g_iload (n := 106) dX0_look_104 rfl rfl ?_
          refine g_if_ne (n := 109) (t := 114) dX0_look_106 rfl (by decide) (fun _ => ?_) (fun q9 => absurd q9 (by decide))
          refine g_iload (n := 116) dX0_look_114 rfl rfl ?_
          refine g_if_eq (n := 119) (t := 124) dX0_look_116 rfl (by decide) (fun _ => ?_) (fun q9 => absurd rfl q9)
          refine g_iload (n := 126) dX0_look_124 rfl rfl ?_
          refine g_iast (n := 127) dX0_look_126 rfl (by decide) (z_lvP (by first | decide | assumption)) rfl (by show _ < 8; first | assumption | omega) ?_
          rw [mK_11, xfl_s _ _ _ hFe]
          refine g_aload_n (n := 128) dX0_look_127 rfl rfl ?_
          refine gf_X0_15 (n := 131) dX0_look_128 rfl rfl (z_lvP (by first | decide | assumption)) rfl ?_
          refine g_iload (n := 133) dX0_look_131 rfl rfl ?_
          refine g_iload (n := 135) dX0_look_133 rfl rfl ?_
          refine g_if_ne (n := 138) (t := 143) dX0_look_135 rfl (by decide) (fun _ => ?_) (fun q9 => absurd q9 (by decide))
          refine g_iload (n := 145) dX0_look_143 rfl rfl ?_
          refine g_if_eq (n := 148) (t := 153) dX0_look_145 rfl (by decide) (fun _ => ?_) (fun q9 => absurd rfl q9)
          refine g_iload (n := 155) dX0_look_153 rfl rfl ?_
          refine g_iast (n := 156) dX0_look_155 rfl (by decide) (z_lvP (by first | decide | assumption)) rfl (by show _ < 8; first | assumption | omega) ?_
          rw [mK_12, xfl_s _ _ _ hSe2]
          exact tail
        · have hn2 : kNf M i = true := by rw [← hnf]; exact hn
          have hFe : kDis M i s t e = F e := by rw [hF]; unfold kF; rw [hce, hn2]; rfl
          have hSe2 : kLen M i s h e = S e := by rw [hS]; unfold kS; rw [hce, hn2]; rfl
          rw [hn] at tail
          refine g_aload_n (n := 99) dX0_look_98 rfl rfl ?_
          refine gf_X0_9 (n := 102) dX0_look_99 rfl rfl (z_lvP (by first | decide | assumption)) rfl ?_
          refine g_iload (n := 104) dX0_look_102 rfl rfl ?_
          refine g_iload (n := 106) dX0_look_104 rfl rfl ?_
          refine g_if_ne (n := 109) (t := 114) dX0_look_106 rfl (by decide) (fun _ => ?_) (fun q9 => absurd q9 (by decide))
          refine g_iload (n := 116) dX0_look_114 rfl rfl ?_
          refine g_if_eq (n := 119) (t := 124) dX0_look_116 rfl (by decide) (fun q9 => absurd q9 (by decide)) (fun _ => ?_)
          refine g_iload (n := 121) dX0_look_119 rfl rfl ?_
          refine g_goto (n := 0) (t := 126) dX0_look_121 (by decide) ?_
          refine g_iast (n := 127) dX0_look_126 rfl (by decide) (z_lvP (by first | decide | assumption)) rfl (by show _ < 8; first | assumption | omega) ?_
          rw [mK_11, xfl_s _ _ _ hFe]
          refine g_aload_n (n := 128) dX0_look_127 rfl rfl ?_
          refine gf_X0_15 (n := 131) dX0_look_128 rfl rfl (z_lvP (by first | decide | assumption)) rfl ?_
          refine g_iload (n := 133) dX0_look_131 rfl rfl ?_
          refine g_iload (n := 135) dX0_look_133 rfl rfl ?_
          refine g_if_ne (n := 138) (t := 143) dX0_look_135 rfl (by decide) (fun _ => ?_) (fun q9 => absurd q9 (by decide))
          refine g_iload (n := 145) dX0_look_143 rfl rfl ?_
          refine g_if_eq (n := 148) (t := 153) dX0_look_145 rfl (by decide) (fun q9 => absurd q9 (by decide)) (fun _ => ?_)
          refine g_iload (n := 150) dX0_look_148 rfl rfl ?_
          refine g_goto (n := 0) (t := 155) dX0_look_150 (by decide) ?_
          refine g_iast (n := 156) dX0_look_155 rfl (by decide) (z_lvP (by first | decide | assumption)) rfl (by show _ < 8; first | assumption | omega) ?_
          rw [mK_12, xfl_s _ _ _ hSe2]
          exact tail
    have hce : can e = (kOpn M i s e && (decide (0 < kLen M i s h e) && decide (kDis M i s t e ≠ -1))) := by rw [hcan]; rfl
    refine g_iload (n := 25) dX0_look_23 rfl rfl ?_
    refine g_bipush (n := 27) dX0_look_25 rfl k_bp_8 ?_
    refine g_icmp_ge (n := 30) (t := 185) dX0_look_27 rfl (by decide) (fun q9 => absurd q9 (nI_ge he (by decide))) (fun _ => ?_)
    refine g_aload_n (n := 31) dX0_look_30 rfl rfl ?_
    refine gf_X0_27 (n := 34) dX0_look_31 rfl rfl (z_lvP (by first | decide | assumption)) rfl ?_
    refine g_aload_n (n := 35) dX0_look_34 rfl rfl ?_
    refine gf_X0_31 (n := 38) dX0_look_35 rfl rfl (z_lvP (by first | decide | assumption)) rfl ?_
    refine g_iload (n := 40) dX0_look_38 rfl rfl ?_
    refine g_cVv (n := 43) (cn _ _ _) dX0_look_40 rfl kw_X0_35 rfl (by decide) (z_lvP (by first | decide | assumption)) (Nat.le_of_ble_eq_true rfl) ⟨Nat.le_refl _, Nat.le_refl _⟩ ?_ rfl
    refine g_iload_n (n := 44) dX0_look_43 rfl rfl ?_
    refine g_cVv (n := 47) (cl _ _ _) dX0_look_44 rfl kw_X0_40 rfl (by decide) (z_lvP (by first | decide | assumption)) (Nat.le_of_ble_eq_true rfl) ⟨Nat.le_refl _, Nat.le_refl _⟩ ?_ rfl
    refine g_istore6 (n := 49) dX0_look_47 rfl (by decide) rfl ?_
    refine g_aload_n (n := 50) dX0_look_49 rfl rfl ?_
    refine gf_X0_46 (n := 53) dX0_look_50 rfl rfl (z_lvP (by first | decide | assumption)) rfl ?_
    refine g_iload_n (n := 54) dX0_look_53 rfl rfl ?_
    refine g_aload_n (n := 55) dX0_look_54 rfl rfl ?_
    refine gf_X0_31 (n := 58) dX0_look_55 rfl rfl (z_lvP (by first | decide | assumption)) rfl ?_
    refine g_iload (n := 60) dX0_look_58 rfl rfl ?_
    refine g_cVv (n := 63) (ct _ _ _) dX0_look_60 rfl kw_X0_50 rfl (by decide) (z_lvP (by first | decide | assumption)) (Nat.le_of_ble_eq_true rfl) ⟨Nat.le_refl _, Nat.le_refl _⟩ ?_ rfl
    refine g_cVv (n := 66) (cw _ _ _) dX0_look_63 rfl kw_X0_53 rfl (by decide) (z_lvP (by first | decide | assumption)) (Nat.le_of_ble_eq_true rfl) ⟨Nat.le_refl _, Nat.le_refl _⟩ ?_ rfl
    refine g_istore7 (n := 68) dX0_look_66 rfl (by decide) rfl ?_
    refine g_aload_n (n := 69) dX0_look_68 rfl rfl ?_
    refine gf_X0_31 (n := 72) dX0_look_69 rfl rfl (z_lvP (by first | decide | assumption)) rfl ?_
    refine g_iload (n := 74) dX0_look_72 rfl rfl ?_
    refine g_cVv (n := 77) (cp _ _ _) dX0_look_74 rfl kw_X0_58 rfl (by decide) (z_lvP (by first | decide | assumption)) (Nat.le_of_ble_eq_true rfl) ⟨Nat.le_refl _, Nat.le_refl _⟩ ?_ rfl
    cases ho : kOpn M i s e
    · rw [ho, Bool.false_and] at hce
      rw [hce] at k98
      refine g_if_eq (n := 80) (t := 95) dX0_look_77 rfl (by decide) (fun _ => ?_) (fun q9 => absurd rfl q9)
      refine g_iconst (n := 96) dX0_look_95 rfl k_ic_0 ?_
      refine g_istore8 (n := 98) dX0_look_96 rfl (by decide) rfl ?_
      exact k98
    · rw [ho, Bool.true_and] at hce
      refine g_if_eq (n := 80) (t := 95) dX0_look_77 rfl (by decide) (fun q9 => absurd q9 (by decide)) (fun _ => ?_)
      refine g_iload (n := 82) dX0_look_80 rfl rfl ?_
      refine g_if_le (n := 85) (t := 95) dX0_look_82 rfl (by decide) (fun c82 => ?_) (fun c82 => ?_)
      · rw [decide_eq_false (p := 0 < kLen M i s h e) (Int32.not_lt.mpr c82), Bool.false_and] at hce
        rw [hce] at k98
        refine g_iconst (n := 96) dX0_look_95 rfl k_ic_0 ?_
        refine g_istore8 (n := 98) dX0_look_96 rfl (by decide) rfl ?_
        exact k98
      · rw [decide_eq_true (p := 0 < kLen M i s h e) (Int32.not_le.mp c82), Bool.true_and] at hce
        refine g_iload (n := 87) dX0_look_85 rfl rfl ?_
        refine g_iconst (n := 88) dX0_look_87 rfl k_ic_m1 ?_
        refine g_icmp_eq (n := 91) (t := 95) dX0_look_88 rfl (by decide) (fun c88 => ?_) (fun c88 => ?_)
        · rw [decide_eq_false (p := kDis M i s t e ≠ -1) (fun q9 => q9 c88)] at hce
          rw [hce] at k98
          refine g_iconst (n := 96) dX0_look_95 rfl k_ic_0 ?_
          refine g_istore8 (n := 98) dX0_look_96 rfl (by decide) rfl ?_
          exact k98
        · rw [decide_eq_true (p := kDis M i s t e ≠ -1) c88] at hce
          rw [hce] at k98
          refine g_iconst (n := 92) dX0_look_91 rfl k_ic_1 ?_
          refine g_goto (n := 0) (t := 96) dX0_look_92 (by decide) ?_
          refine g_istore8 (n := 98) dX0_look_96 rfl (by decide) rfl ?_
          exact k98
  have start : zG w mX0_look (d + 3) 0 23 [vR 0 0, vR 3 i, vI (nI t), vI (nI h), vI (zb nf), vI (nI 0), vU, vU, vU] [] (zP (St 0) O) zrV (zP (mLook M i s t h) O) := by
    refine z_loop (fun e => zG w mX0_look (d + 3) 0 23 [vR 0 0, vR 3 i, vI (nI t), vI (nI h), vI (zb nf), vI (nI e), vU, vU, vU] [] (zP (St e) O) zrV (zP (mLook M i s t h) O)) 8 ?_ body 0 (Nat.zero_le _)
    refine g_iload (n := 25) dX0_look_23 rfl rfl ?_
    refine g_bipush (n := 27) dX0_look_25 rfl k_bp_8 ?_
    refine g_icmp_ge (n := 30) (t := 185) dX0_look_27 rfl (by decide) (fun _ => ?_) (fun q9 => absurd (Int32.le_refl _) q9)
    exact fin
  have hS0 : St 0 = u2 M 0 0 (xC z (nI 0) (nI 0) ex0 co0 xFAR xFAR) := by
    rw [hSt]
    dsimp only
    rw [xfl_0, xfl_0]
    unfold mK
    rw [show u2 M 11 0 (M 11 0) = M from u2_id _ _ _, show u2 M 12 0 (M 12 0) = M from u2_id _ _ _]
    rfl
  have c1 := c_setting (w := w) (d := d + 2) (M := M) (O := O) hi (nI 0)
  rw [xg_nI (by decide) (by decide)] at c1
  have cb := c_cbegin (w := w) (d := d + 2) (M := M) (O := O) (z := M 0 0) (tk := M 0 0 2) (be := M 0 0 3) (ex := M 0 0 4) (co := M 0 0 5) (lf := M 0 0 6) (ls := M 0 0 7)
  rw [← xC_id, show u2 M 0 0 (M 0 0) = M from u2_id _ _ _, ← hz, ← hex0, ← hco0, ← hS0] at cb
  refine zC_of (cr := 0) (L0 := [vR 0 0, vR 3 i, vI (nI t), vI (nI h), vU, vU, vU, vU, vU]) rfl (by decide) (by decide) rfl (Nat.le_of_ble_eq_true rfl) rfl ?_
  refine g_aload_n (n := 1) dX0_look_0 rfl rfl ?_
  refine g_iconst (n := 2) dX0_look_1 rfl k_ic_0 ?_
  refine g_cVv (n := 5) c1 dX0_look_2 rfl kw_X0_18 rfl (by decide) (z_lvP (by first | decide | assumption)) (Nat.le_of_ble_eq_true rfl) ⟨Nat.le_refl _, Nat.le_refl _⟩ ?_ rfl
  refine g_iconst (n := 6) dX0_look_5 rfl k_ic_1 ?_
  have k16 : zG w mX0_look (d + 3) 0 16 [vR 0 0, vR 3 i, vI (nI t), vI (nI h), vI (zb nf), vU, vU, vU, vU] [] (zP M O) zrV (zP (mLook M i s t h) O) := by
    refine g_aload_n (n := 17) dX0_look_16 rfl rfl ?_
    refine g_cVn (n := 20) cb dX0_look_17 rfl kw_X0_24 rfl (by decide) (z_lvP (by first | decide | assumption)) (Nat.le_of_ble_eq_true rfl) ⟨Nat.le_refl _, Nat.le_refl _⟩ ?_ rfl
    refine g_iconst (n := 21) dX0_look_20 rfl k_ic_0 ?_
    refine g_istore5 (n := 23) dX0_look_21 rfl (by decide) rfl ?_
    exact start
  cases hn : nf
  · rw [hn] at k16
    have hn2 : ¬ M 18 i 0 = nI 1 := by
      rw [hnf] at hn
      exact of_decide_eq_false hn
    refine g_icmp_ne (n := 9) (t := 13) dX0_look_6 rfl (by decide) (fun _ => ?_) (fun q9 => absurd q9 hn2)
    refine g_iconst (n := 14) dX0_look_13 rfl k_ic_0 ?_
    refine g_istore4 (n := 16) dX0_look_14 rfl (by decide) rfl ?_
    exact k16
  · rw [hn] at k16
    have hn2 : M 18 i 0 = nI 1 := by
      rw [hnf] at hn
      exact of_decide_eq_true hn
    refine g_icmp_ne (n := 9) (t := 13) dX0_look_6 rfl (by decide) (fun q9 => absurd hn2 q9) (fun _ => ?_)
    refine g_iconst (n := 10) dX0_look_9 rfl k_ic_1 ?_
    refine g_goto (n := 0) (t := 14) dX0_look_10 (by decide) ?_
    refine g_istore4 (n := 16) dX0_look_14 rfl (by decide) rfl ?_
    exact k16
end L7

