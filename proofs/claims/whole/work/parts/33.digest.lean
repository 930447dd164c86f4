/-! The digest of the class. -/
theorem g_lconst {w : zWp} {f : zMth} {d cr pc n : Nat} {lv stk : List zAV} {σ : zSt} {r : zRes} {σ' : zSt} {x : Fin 2} {v : Int64} (hd : decode f.2.1 pc = .ok (.lconst x, 1)) (hn : pc + 1 = n) (hv : Int64.ofNat (x : Nat) = v) (kk : zG w f d cr n (lv) (vJ v :: stk) σ r σ') : zG w f d cr pc (lv) (stk) σ r σ' := by
  intro p l e R s m args below meth c mc ms H locs cells slots ls X hl hP hS hB
  subst hn
  exact lv_lconst X.exec X.code hd hv (kk p l e R s m args below meth c mc ms H locs cells slots ls X hl hP hS hB)
def hj (h : Int64) (v : Int32) : Int64 := 31 * h + v.toInt64
def hfo (g : Nat → Int32) : Nat → Int64 → Int64
  | 0, h => h
  | k + 1, h => hj (hfo g k h) (g k)
def hf2 (f g : Nat → Int32) : Nat → Int64 → Int64
  | 0, h => h
  | k + 1, h => hj (hj (hf2 f g k h) (f k)) (g k)
theorem hfo_s {g : Nat → Int32} {k : Nat} {h : Int64} : hfo g (k + 1) h = hj (hfo g k h) (g k) := rfl
theorem hf2_s {f g : Nat → Int32} {k : Nat} {h : Int64} : hf2 f g (k + 1) h = hj (hj (hf2 f g k h) (f k)) (g k) := rfl
theorem hfo_cong {f g : Nat → Int32} : ∀ {n : Nat} {h : Int64}, (∀ k, k < n → f k = g k) → hfo f n h = hfo g n h
  | 0, _, _ => rfl
  | n + 1, h, H => by rw [hfo_s, hfo_s, hfo_cong (fun k hk => H k (by omega)), H n (by omega)]
theorem hf2_cong {f g f' g' : Nat → Int32} : ∀ {n : Nat} {h : Int64}, (∀ k, k < n → f k = f' k ∧ g k = g' k) → hf2 f g n h = hf2 f' g' n h
  | 0, _, _ => rfl
  | n + 1, h, H => by rw [hf2_s, hf2_s, hf2_cong (fun k hk => H k (by omega)), (H n (by omega)).1, (H n (by omega)).2]
/-! The nearest ways do not hang on what stood in the rows before. -/
theorem nU_cong {R R' Z Z' : Nat → Int32} (hR : aeq 8 R R') (hZ : aeq 8 Z Z') : ∀ j, j ≤ 8 → nU R Z j = nU R' Z' j
  | 0, _ => rfl
  | j + 1, hj => by
    unfold nU
    rw [nU_cong hR hZ j (by omega), hR j (by omega), hZ j (by omega)]
theorem upd_aeq {n j : Nat} {R R' : Nat → Int32} {v : Int32} (h : aeq n R R') : aeq n (upd R j v) (upd R' j v) := by
  intro k hk
  unfold upd
  split
  · rfl
  · exact h k hk
theorem nX_cong {c R R' : Nat → Int32} {x : Nat} (hx : x < 8) (hR : aeq 8 R R') : ∀ j, j ≤ 8 → aeq 8 (nX c x R j) (nX c x R' j)
  | 0, _ => hR
  | j + 1, hj => by
    have ih := nX_cong (c := c) hx hR j (by omega)
    unfold nX
    rw [ih x hx, ih j (by omega)]
    split
    · exact upd_aeq ih
    · exact ih
theorem nR_cong {c : Nat → Int32} {Q Q' : (Nat → Int32) × (Nat → Int32)} (hR : aeq 8 Q.1 Q'.1) (hZ : aeq 8 Q.2 Q'.2) : aeq 8 (nR c Q).1 (nR c Q').1 ∧ aeq 8 (nR c Q).2 (nR c Q').2 := by
  unfold nR
  rw [nU_cong hR hZ 8 (Nat.le_refl _)]
  cases hx : z_ok (nU Q'.1 Q'.2 8).1 8
  · exact ⟨hR, hZ⟩
  · obtain ⟨x, hx8, hxe⟩ := z_ok_of hx (by decide)
    rw [if_pos rfl, if_pos rfl, hxe, nI_clamp (by omega)]
    exact ⟨nX_cong hx8 hR 8 (Nat.le_refl _), upd_aeq hZ⟩
theorem nRs_cong {c : Nat → Int32} {Q Q' : (Nat → Int32) × (Nat → Int32)} (hR : aeq 8 Q.1 Q'.1) (hZ : aeq 8 Q.2 Q'.2) : ∀ k, aeq 8 (nRs c Q k).1 (nRs c Q' k).1 ∧ aeq 8 (nRs c Q k).2 (nRs c Q' k).2
  | 0 => ⟨hR, hZ⟩
  | k + 1 => nR_cong (nRs_cong hR hZ k).1 (nRs_cong hR hZ k).2
theorem xfl_aeq {F g : Nat → Int32} {n : Nat} : aeq n (xfl F g n) F := fun _ h => xfl_in h
def kNd (c : Nat → Int32) (a b : Nat) : Int32 := xfar ((nRs c (nB a, fun _ => nI 0) 8).1 b)
theorem kNd_of {c R Z : Nat → Int32} {a b : Nat} (hb : b < 8) : xfar ((nRs c (xfl (nB a) R 8, xfl (fun _ => nI 0) Z 8) 8).1 b) = kNd c a b := by
  unfold kNd
  rw [(nRs_cong (c := c) (Q := (xfl (nB a) R 8, xfl (fun _ => nI 0) Z 8)) (Q' := (nB a, fun _ => nI 0)) xfl_aeq xfl_aeq 8).1 b hb]
section LD
variable {w : zWp} {d s o h n : Nat} {M : Nat → Nat → Nat → Int32} {O : Nat → Int64}
abbrev zrJ (x : Int64) : zRes := .inl (some (vJ x))
theorem c_hj (h : Int64) (v : Int32) {σ : zSt} : zC w mX9_joined d [vJ h, vJ v.toInt64] σ (zrJ (hj h v)) σ := c_joined h v.toInt64
theorem zF.same {M' : Nat → Nat → Nat → Int32} (F : zF M s o h n) (S : zSame M M') : zF M' s o h n := by
  refine ⟨?_, F.h8, ?_, F.o6, ?_, F.h6, ?_, F.h60⟩
  · rw [S 1 0 (by decide) (by decide) (by decide) (by decide) (by decide) (Or.inl (by decide))]; exact F.hs
  · rw [S 2 0 (by decide) (by decide) (by decide) (by decide) (by decide) (Or.inl (by decide))]; exact F.ho
  · rw [S 2 0 (by decide) (by decide) (by decide) (by decide) (by decide) (Or.inl (by decide))]; exact F.hh
  · rw [S 8 0 (by decide) (by decide) (by decide) (by decide) (by decide) (Or.inl (by decide))]; exact F.hn
theorem c_wCounts {M' : Nat → Nat → Nat → Int32} (S : zSame M M') (hs : M 1 0 5 = nI s) (h8 : s ≤ 8) (h0 : Int64) : ∃ M2, zSame M M2 ∧ zC w mX9_withCounts (d + 10) [vR 9 0, vJ h0] (zP M' O) (zrJ (hfo (kCt M s) 10 h0)) (zP M2 O) := by
  have H : ∀ M', zSame M M' → ∃ M2, zSame M M2 ∧ zG w mX9_withCounts (d + 10) 0 5 [vR 9 0, vJ h0, vU, vJ (hfo (kCt M s) 0 h0), vU, vI (nI 0)] [] (zP M' O) (zrJ (hfo (kCt M s) 10 h0)) (zP M2 O) := by
    refine z_loop (fun k => ∀ M', zSame M M' → ∃ M2, zSame M M2 ∧ zG w mX9_withCounts (d + 10) 0 5 [vR 9 0, vJ h0, vU, vJ (hfo (kCt M s) k h0), vU, vI (nI k)] [] (zP M' O) (zrJ (hfo (kCt M s) 10 h0)) (zP M2 O)) 10 ?_ ?_ 0 (Nat.zero_le _)
    · intro M' S
      refine ⟨M', S, ?_⟩
      refine g_iload (n := 7) dX9_withCounts_5 rfl rfl ?_
      refine g_bipush (n := 9) dX9_withCounts_7 rfl k_bp_9 ?_
      refine g_icmp_gt (n := 12) (t := 30) dX9_withCounts_9 rfl (by decide) (fun _ => ?_) (fun q9 => absurd (by decide) q9)
      refine g_lload_n (n := 31) dX9_withCounts_30 rfl rfl ?_
      exact g_lreturn dX9_withCounts_31 rfl rfl rfl
    · intro k hk ih M' S
      obtain ⟨M1, S1, c1⟩ := c_count (w := w) (d := d) (O := O) S hs h8 hk
      obtain ⟨M2, S2, G⟩ := ih M1 S1
      refine ⟨M2, S2, ?_⟩
      refine g_iload (n := 7) dX9_withCounts_5 rfl rfl ?_
      refine g_bipush (n := 9) dX9_withCounts_7 rfl k_bp_9 ?_
      refine g_icmp_gt (n := 12) (t := 30) dX9_withCounts_9 rfl (by decide) (fun q9 => absurd q9 (Int32.not_lt.mpr (nI_le (b := 9) (by omega) (by decide)))) (fun _ => ?_)
      refine g_lload_n (n := 13) dX9_withCounts_12 rfl rfl ?_
      refine g_aload_n (n := 14) dX9_withCounts_13 rfl rfl ?_
      refine g_iload (n := 16) dX9_withCounts_14 rfl rfl ?_
      refine g_cVv (n := 19) c1 dX9_withCounts_16 rfl kw_X9_397 rfl (by decide) (z_lvP (by first | decide | assumption)) (Nat.le_of_ble_eq_true rfl) ⟨Nat.le_refl _, Nat.le_refl _⟩ ?_ rfl
      refine g_i2l (n := 20) dX9_withCounts_19 rfl ?_
      refine g_cSv (n := 23) (c_hj _ _) dX9_withCounts_20 rfl kw_X9_309 (Nat.le_of_ble_eq_true rfl) ⟨Nat.le_refl _, Nat.le_refl _⟩ ?_ rfl
      refine g_lstore3 (n := 24) dX9_withCounts_23 rfl (by decide) rfl ?_
      refine g_iinc5 (n := 27) dX9_withCounts_24 rfl (by decide) rfl (z_inc1 _) ?_
      refine g_goto (n := 0) (t := 5) dX9_withCounts_27 (by decide) ?_
      exact G
  obtain ⟨M2, S2, G⟩ := H M' S
  refine ⟨M2, S2, ?_⟩
  refine zC_of (cr := 0) (L0 := [vR 9 0, vJ h0, vU, vU, vU, vU]) rfl (by decide) (by decide) rfl (Nat.le_of_ble_eq_true rfl) rfl ?_
  refine g_lload_n (n := 1) dX9_withCounts_0 rfl rfl ?_
  refine g_lstore3 (n := 2) dX9_withCounts_1 rfl (by decide) rfl ?_
  refine g_iconst (n := 3) dX9_withCounts_2 rfl k_ic_0 ?_
  refine g_istore5 (n := 5) dX9_withCounts_3 rfl (by decide) rfl ?_
  exact G
theorem c_wRoads {M' : Nat → Nat → Nat → Int32} (S : zSame M M') (h0 : Int64) : ∃ M2, zSame M M2 ∧ zC w mX9_withRoads (d + 10) [vR 9 0, vJ h0] (zP M' O) (zrJ (hf2 (M 27 0) (fun k => kNd (M 27 0) (k / 8) (k % 8)) 64 h0)) (zP M2 O) := by
  obtain ⟨g, hg⟩ : ∃ g : Nat → Int32, g = fun k => kNd (M 27 0) (k / 8) (k % 8) := ⟨_, rfl⟩
  rw [← hg]
  have H : ∀ M', zSame M M' → ∃ M2, zSame M M2 ∧ zG w mX9_withRoads (d + 10) 0 5 [vR 9 0, vJ h0, vU, vJ (hf2 (M 27 0) g (8 * 0) h0), vU, vI (nI 0), vU] [] (zP M' O) (zrJ (hf2 (M 27 0) g 64 h0)) (zP M2 O) := by
    refine z_loop (fun a => ∀ M', zSame M M' → ∃ M2, zSame M M2 ∧ zG w mX9_withRoads (d + 10) 0 5 [vR 9 0, vJ h0, vU, vJ (hf2 (M 27 0) g (8 * a) h0), vU, vI (nI a), vU] [] (zP M' O) (zrJ (hf2 (M 27 0) g 64 h0)) (zP M2 O)) 8 ?_ ?_ 0 (Nat.zero_le _)
    · intro M' S
      refine ⟨M', S, ?_⟩
      refine g_iload (n := 7) dX9_withRoads_5 rfl rfl ?_
      refine g_bipush (n := 9) dX9_withRoads_7 rfl k_bp_8 ?_
      refine g_icmp_ge (n := 12) (t := 63) dX9_withRoads_9 rfl (by decide) (fun _ => ?_) (fun q9 => absurd (Int32.le_refl _) q9)
      refine g_lload_n (n := 64) dX9_withRoads_63 rfl rfl ?_
      exact g_lreturn dX9_withRoads_64 rfl rfl rfl
    · intro a ha ih M' S
      have I : ∀ M', zSame M M' → ∃ M2, zSame M M2 ∧ zG w mX9_withRoads (d + 10) 0 15 [vR 9 0, vJ h0, vU, vJ (hf2 (M 27 0) g (8 * a + 0) h0), vU, vI (nI a), vI (nI 0)] [] (zP M' O) (zrJ (hf2 (M 27 0) g 64 h0)) (zP M2 O) := by
        refine z_loop (fun b => ∀ M', zSame M M' → ∃ M2, zSame M M2 ∧ zG w mX9_withRoads (d + 10) 0 15 [vR 9 0, vJ h0, vU, vJ (hf2 (M 27 0) g (8 * a + b) h0), vU, vI (nI a), vI (nI b)] [] (zP M' O) (zrJ (hf2 (M 27 0) g 64 h0)) (zP M2 O)) 8 ?_ ?_ 0 (Nat.zero_le _)
        · intro M' S
          obtain ⟨M2, S2, G⟩ := ih M' S
          refine ⟨M2, S2, ?_⟩
          refine g_iload (n := 17) dX9_withRoads_15 rfl rfl ?_
          refine g_bipush (n := 19) dX9_withRoads_17 rfl k_bp_8 ?_
          refine g_icmp_ge (n := 22) (t := 57) dX9_withRoads_19 rfl (by decide) (fun _ => ?_) (fun q9 => absurd (Int32.le_refl _) q9)
          refine g_iinc5 (n := 60) dX9_withRoads_57 rfl (by decide) rfl (z_inc1 _) ?_
          refine g_goto (n := 0) (t := 5) dX9_withRoads_60 (by decide) ?_
          refine g_drop 6 ?_
          exact G
        · intro b hb ih2 M' S
          have cr := c_roadOf (w := w) (d := d) (M := M') (O := O) ha hb
          have cd := c_distance0 (w := w) (d := d) (M := M') (O := O) ha hb
          have e27 : M' 27 0 = M 27 0 := S.lnd (i := 0) (by decide) 27 (by decide) (by decide) (by decide) (by decide)
          rw [kNd_of hb, e27] at cd
          rw [e27] at cr
          obtain ⟨M2, S2, G⟩ := ih2 _ (S.tr mN_same)
          refine ⟨M2, S2, ?_⟩
          have eg : g (8 * a + b) = kNd (M 27 0) a b := by
            rw [hg]
            show kNd (M 27 0) ((8 * a + b) / 8) ((8 * a + b) % 8) = _
            rw [show (8 * a + b) / 8 = a by omega, show (8 * a + b) % 8 = b by omega]
          rw [← Nat.add_assoc, hf2_s, eg] at G
          refine g_iload (n := 17) dX9_withRoads_15 rfl rfl ?_
          refine g_bipush (n := 19) dX9_withRoads_17 rfl k_bp_8 ?_
          refine g_icmp_ge (n := 22) (t := 57) dX9_withRoads_19 rfl (by decide) (fun q9 => absurd q9 (nI_ge hb (by decide))) (fun _ => ?_)
          refine g_lload_n (n := 23) dX9_withRoads_22 rfl rfl ?_
          refine g_aload_n (n := 24) dX9_withRoads_23 rfl rfl ?_
          refine g_iload (n := 26) dX9_withRoads_24 rfl rfl ?_
          refine g_iload (n := 28) dX9_withRoads_26 rfl rfl ?_
          refine g_cVv (n := 31) cr dX9_withRoads_28 rfl kw_X9_400 rfl (by decide) (z_lvP (by first | decide | assumption)) (Nat.le_of_ble_eq_true rfl) ⟨Nat.le_refl _, Nat.le_refl _⟩ ?_ rfl
          refine g_i2l (n := 32) dX9_withRoads_31 rfl ?_
          refine g_cSv (n := 35) (c_hj _ _) dX9_withRoads_32 rfl kw_X9_309 (Nat.le_of_ble_eq_true rfl) ⟨Nat.le_refl _, Nat.le_refl _⟩ ?_ rfl
          refine g_lstore3 (n := 36) dX9_withRoads_35 rfl (by decide) rfl ?_
          refine g_lload_n (n := 37) dX9_withRoads_36 rfl rfl ?_
          refine g_aload_n (n := 38) dX9_withRoads_37 rfl rfl ?_
          refine g_iload (n := 40) dX9_withRoads_38 rfl rfl ?_
          refine g_iload (n := 42) dX9_withRoads_40 rfl rfl ?_
          refine g_iconst (n := 43) dX9_withRoads_42 rfl k_ic_0 ?_
          refine g_cVv (n := 46) cd dX9_withRoads_43 rfl kw_X9_403 rfl (by decide) (z_lvP (by first | decide | assumption)) (Nat.le_of_ble_eq_true rfl) ⟨Nat.le_refl _, Nat.le_refl _⟩ ?_ rfl
          refine g_i2l (n := 47) dX9_withRoads_46 rfl ?_
          refine g_cSv (n := 50) (c_hj _ _) dX9_withRoads_47 rfl kw_X9_309 (Nat.le_of_ble_eq_true rfl) ⟨Nat.le_refl _, Nat.le_refl _⟩ ?_ rfl
          refine g_lstore3 (n := 51) dX9_withRoads_50 rfl (by decide) rfl ?_
          refine g_iinc6 (n := 54) dX9_withRoads_51 rfl (by decide) rfl (z_inc1 _) ?_
          refine g_goto (n := 0) (t := 15) dX9_withRoads_54 (by decide) ?_
          exact G
      obtain ⟨M2, S2, G⟩ := I M' S
      refine ⟨M2, S2, ?_⟩
      refine g_iload (n := 7) dX9_withRoads_5 rfl rfl ?_
      refine g_bipush (n := 9) dX9_withRoads_7 rfl k_bp_8 ?_
      refine g_icmp_ge (n := 12) (t := 63) dX9_withRoads_9 rfl (by decide) (fun q9 => absurd q9 (nI_ge ha (by decide))) (fun _ => ?_)
      refine g_iconst (n := 13) dX9_withRoads_12 rfl k_ic_0 ?_
      refine g_istore6 (n := 15) dX9_withRoads_13 rfl (by decide) rfl ?_
      exact G
  obtain ⟨M2, S2, G⟩ := H M' S
  refine ⟨M2, S2, ?_⟩
  refine zC_of (cr := 0) (L0 := [vR 9 0, vJ h0, vU, vU, vU, vU, vU]) rfl (by decide) (by decide) rfl (Nat.le_of_ble_eq_true rfl) rfl ?_
  refine g_lload_n (n := 1) dX9_withRoads_0 rfl rfl ?_
  refine g_lstore3 (n := 2) dX9_withRoads_1 rfl (by decide) rfl ?_
  refine g_iconst (n := 3) dX9_withRoads_2 rfl k_ic_0 ?_
  refine g_istore5 (n := 5) dX9_withRoads_3 rfl (by decide) rfl ?_
  exact G
theorem c_wExits (F : zF M s o h n) (h0 : Int64) : zC w mX9_withExits (d + 10) [vR 9 0, vJ h0] (zP M O) (zrJ (hfo (fun k => kEo M (k / 5) (k % 5)) (5 * s) h0)) (zP M O) := by
  obtain ⟨g, hg⟩ : ∃ g : Nat → Int32, g = fun k => kEo M (k / 5) (k % 5) := ⟨_, rfl⟩
  rw [← hg]
  have h8 := F.h8
  have cz := c_xsize (w := w) (d := d + 9) (M := M) (O := O) (i := 0) (by decide)
  rw [F.hs] at cz
  refine zC_of (cr := 0) (L0 := [vR 9 0, vJ h0, vU, vU, vU, vU, vU]) rfl (by decide) (by decide) rfl (Nat.le_of_ble_eq_true rfl) rfl ?_
  refine g_lload_n (n := 1) dX9_withExits_0 rfl rfl ?_
  refine g_lstore3 (n := 2) dX9_withExits_1 rfl (by decide) rfl ?_
  refine g_iconst (n := 3) dX9_withExits_2 rfl k_ic_0 ?_
  refine g_istore5 (n := 5) dX9_withExits_3 rfl (by decide) rfl ?_
  refine z_loop (fun a => zG w mX9_withExits (d + 10) 0 5 [vR 9 0, vJ h0, vU, vJ (hfo g (5 * a) h0), vU, vI (nI a), vU] [] (zP M O) (zrJ (hfo g (5 * s) h0)) (zP M O)) s ?_ ?_ 0 (Nat.zero_le _)
  · refine g_iload (n := 7) dX9_withExits_5 rfl rfl ?_
    refine g_aload_n (n := 8) dX9_withExits_7 rfl rfl ?_
    refine gf_X9_10 (n := 11) dX9_withExits_8 rfl rfl (z_lvP (by first | decide | assumption)) rfl ?_
    refine gf_X9_83 (n := 14) dX9_withExits_11 rfl rfl (z_lvP (by first | decide | assumption)) rfl ?_
    refine g_cVv (n := 17) cz dX9_withExits_14 rfl kw_X9_270 rfl (by decide) (z_lvP (by first | decide | assumption)) (Nat.le_of_ble_eq_true rfl) ⟨Nat.le_refl _, Nat.le_refl _⟩ ?_ rfl
    refine g_icmp_ge (n := 20) (t := 55) dX9_withExits_17 rfl (by decide) (fun _ => ?_) (fun q9 => absurd (Int32.le_refl _) q9)
    refine g_lload_n (n := 56) dX9_withExits_55 rfl rfl ?_
    exact g_lreturn dX9_withExits_56 rfl rfl rfl
  · intro a ha ih
    refine g_iload (n := 7) dX9_withExits_5 rfl rfl ?_
    refine g_aload_n (n := 8) dX9_withExits_7 rfl rfl ?_
    refine gf_X9_10 (n := 11) dX9_withExits_8 rfl rfl (z_lvP (by first | decide | assumption)) rfl ?_
    refine gf_X9_83 (n := 14) dX9_withExits_11 rfl rfl (z_lvP (by first | decide | assumption)) rfl ?_
    refine g_cVv (n := 17) cz dX9_withExits_14 rfl kw_X9_270 rfl (by decide) (z_lvP (by first | decide | assumption)) (Nat.le_of_ble_eq_true rfl) ⟨Nat.le_refl _, Nat.le_refl _⟩ ?_ rfl
    refine g_icmp_ge (n := 20) (t := 55) dX9_withExits_17 rfl (by decide) (fun q9 => absurd q9 (nI_ge ha (by omega))) (fun _ => ?_)
    refine g_iconst (n := 21) dX9_withExits_20 rfl k_ic_0 ?_
    refine g_istore6 (n := 23) dX9_withExits_21 rfl (by decide) rfl ?_
    refine z_loop (fun b => zG w mX9_withExits (d + 10) 0 23 [vR 9 0, vJ h0, vU, vJ (hfo g (5 * a + b) h0), vU, vI (nI a), vI (nI b)] [] (zP M O) (zrJ (hfo g (5 * s) h0)) (zP M O)) 5 ?_ ?_ 0 (Nat.zero_le _)
    · refine g_iload (n := 25) dX9_withExits_23 rfl rfl ?_
      refine g_iconst (n := 26) dX9_withExits_25 rfl k_ic_4 ?_
      refine g_icmp_gt (n := 29) (t := 49) dX9_withExits_26 rfl (by decide) (fun _ => ?_) (fun q9 => absurd (by decide) q9)
      refine g_iinc5 (n := 52) dX9_withExits_49 rfl (by decide) rfl (z_inc1 _) ?_
      refine g_goto (n := 0) (t := 5) dX9_withExits_52 (by decide) ?_
      refine g_drop 6 ?_
      exact ih
    · intro b hb ih2
      have ce := c_exitOf (w := w) (d := d) (O := O) F ha hb
      have eg : g (5 * a + b) = kEo M a b := by
        rw [hg]
        show kEo M ((5 * a + b) / 5) ((5 * a + b) % 5) = _
        rw [show (5 * a + b) / 5 = a by omega, show (5 * a + b) % 5 = b by omega]
      rw [← Nat.add_assoc, hfo_s, eg] at ih2
      refine g_iload (n := 25) dX9_withExits_23 rfl rfl ?_
      refine g_iconst (n := 26) dX9_withExits_25 rfl k_ic_4 ?_
      refine g_icmp_gt (n := 29) (t := 49) dX9_withExits_26 rfl (by decide) (fun q9 => absurd q9 (Int32.not_lt.mpr (nI_le (b := 4) (by omega) (by decide)))) (fun _ => ?_)
      refine g_lload_n (n := 30) dX9_withExits_29 rfl rfl ?_
      refine g_aload_n (n := 31) dX9_withExits_30 rfl rfl ?_
      refine g_iload (n := 33) dX9_withExits_31 rfl rfl ?_
      refine g_iload (n := 35) dX9_withExits_33 rfl rfl ?_
      refine g_cVv (n := 38) ce dX9_withExits_35 rfl kw_X9_406 rfl (by decide) (z_lvP (by first | decide | assumption)) (Nat.le_of_ble_eq_true rfl) ⟨Nat.le_refl _, Nat.le_refl _⟩ ?_ rfl
      refine g_i2l (n := 39) dX9_withExits_38 rfl ?_
      refine g_cSv (n := 42) (c_hj _ _) dX9_withExits_39 rfl kw_X9_309 (Nat.le_of_ble_eq_true rfl) ⟨Nat.le_refl _, Nat.le_refl _⟩ ?_ rfl
      refine g_lstore3 (n := 43) dX9_withExits_42 rfl (by decide) rfl ?_
      refine g_iinc6 (n := 46) dX9_withExits_43 rfl (by decide) rfl (z_inc1 _) ?_
      refine g_goto (n := 0) (t := 23) dX9_withExits_46 (by decide) ?_
      exact ih2
theorem c_wNeighbours (h0 : Int64) : zC w mX9_withNeighbours (d + 10) [vR 9 0, vJ h0] (zP M O) (zrJ (hfo (fun k => kNo M (k / 8) (k % 8)) 32 h0)) (zP M O) := by
  obtain ⟨g, hg⟩ : ∃ g : Nat → Int32, g = fun k => kNo M (k / 8) (k % 8) := ⟨_, rfl⟩
  rw [← hg]
  refine zC_of (cr := 0) (L0 := [vR 9 0, vJ h0, vU, vU, vU, vU, vU]) rfl (by decide) (by decide) rfl (Nat.le_of_ble_eq_true rfl) rfl ?_
  refine g_lload_n (n := 1) dX9_withNeighbours_0 rfl rfl ?_
  refine g_lstore3 (n := 2) dX9_withNeighbours_1 rfl (by decide) rfl ?_
  refine g_iconst (n := 3) dX9_withNeighbours_2 rfl k_ic_0 ?_
  refine g_istore5 (n := 5) dX9_withNeighbours_3 rfl (by decide) rfl ?_
  refine z_loop (fun a => zG w mX9_withNeighbours (d + 10) 0 5 [vR 9 0, vJ h0, vU, vJ (hfo g (8 * a) h0), vU, vI (nI a), vU] [] (zP M O) (zrJ (hfo g 32 h0)) (zP M O)) 4 ?_ ?_ 0 (Nat.zero_le _)
  · refine g_iload (n := 7) dX9_withNeighbours_5 rfl rfl ?_
    refine g_iconst (n := 8) dX9_withNeighbours_7 rfl k_ic_4 ?_
    refine g_icmp_ge (n := 11) (t := 47) dX9_withNeighbours_8 rfl (by decide) (fun _ => ?_) (fun q9 => absurd (Int32.le_refl _) q9)
    refine g_lload_n (n := 48) dX9_withNeighbours_47 rfl rfl ?_
    exact g_lreturn dX9_withNeighbours_48 rfl rfl rfl
  · intro a ha ih
    refine g_iload (n := 7) dX9_withNeighbours_5 rfl rfl ?_
    refine g_iconst (n := 8) dX9_withNeighbours_7 rfl k_ic_4 ?_
    refine g_icmp_ge (n := 11) (t := 47) dX9_withNeighbours_8 rfl (by decide) (fun q9 => absurd q9 (nI_ge ha (by decide))) (fun _ => ?_)
    refine g_iconst (n := 12) dX9_withNeighbours_11 rfl k_ic_0 ?_
    refine g_istore6 (n := 14) dX9_withNeighbours_12 rfl (by decide) rfl ?_
    refine z_loop (fun b => zG w mX9_withNeighbours (d + 10) 0 14 [vR 9 0, vJ h0, vU, vJ (hfo g (8 * a + b) h0), vU, vI (nI a), vI (nI b)] [] (zP M O) (zrJ (hfo g 32 h0)) (zP M O)) 8 ?_ ?_ 0 (Nat.zero_le _)
    · refine g_iload (n := 16) dX9_withNeighbours_14 rfl rfl ?_
      refine g_bipush (n := 18) dX9_withNeighbours_16 rfl k_bp_7 ?_
      refine g_icmp_gt (n := 21) (t := 41) dX9_withNeighbours_18 rfl (by decide) (fun _ => ?_) (fun q9 => absurd (by decide) q9)
      refine g_iinc5 (n := 44) dX9_withNeighbours_41 rfl (by decide) rfl (z_inc1 _) ?_
      refine g_goto (n := 0) (t := 5) dX9_withNeighbours_44 (by decide) ?_
      refine g_drop 6 ?_
      exact ih
    · intro b hb ih2
      have ce := c_neighbourOf (w := w) (d := d) (M := M) (O := O) ha hb
      have eg : g (8 * a + b) = kNo M a b := by
        rw [hg]
        show kNo M ((8 * a + b) / 8) ((8 * a + b) % 8) = _
        rw [show (8 * a + b) / 8 = a by omega, show (8 * a + b) % 8 = b by omega]
      rw [← Nat.add_assoc, hfo_s, eg] at ih2
      refine g_iload (n := 16) dX9_withNeighbours_14 rfl rfl ?_
      refine g_bipush (n := 18) dX9_withNeighbours_16 rfl k_bp_7 ?_
      refine g_icmp_gt (n := 21) (t := 41) dX9_withNeighbours_18 rfl (by decide) (fun q9 => absurd q9 (Int32.not_lt.mpr (nI_le (b := 7) (by omega) (by decide)))) (fun _ => ?_)
      refine g_lload_n (n := 22) dX9_withNeighbours_21 rfl rfl ?_
      refine g_aload_n (n := 23) dX9_withNeighbours_22 rfl rfl ?_
      refine g_iload (n := 25) dX9_withNeighbours_23 rfl rfl ?_
      refine g_iload (n := 27) dX9_withNeighbours_25 rfl rfl ?_
      refine g_cVv (n := 30) ce dX9_withNeighbours_27 rfl kw_X9_409 rfl (by decide) (z_lvP (by first | decide | assumption)) (Nat.le_of_ble_eq_true rfl) ⟨Nat.le_refl _, Nat.le_refl _⟩ ?_ rfl
      refine g_i2l (n := 31) dX9_withNeighbours_30 rfl ?_
      refine g_cSv (n := 34) (c_hj _ _) dX9_withNeighbours_31 rfl kw_X9_309 (Nat.le_of_ble_eq_true rfl) ⟨Nat.le_refl _, Nat.le_refl _⟩ ?_ rfl
      refine g_lstore3 (n := 35) dX9_withNeighbours_34 rfl (by decide) rfl ?_
      refine g_iinc6 (n := 38) dX9_withNeighbours_35 rfl (by decide) rfl (z_inc1 _) ?_
      refine g_goto (n := 0) (t := 14) dX9_withNeighbours_38 (by decide) ?_
      exact ih2
theorem c_wReasons {M' : Nat → Nat → Nat → Int32} (S : zSame M M') (hs : M 1 0 5 = nI s) (h8 : s ≤ 8) (h0 : Int64) : ∃ M2, zSame M M2 ∧ zC w mX9_withReasons (d + 10) [vR 9 0, vJ h0] (zP M' O) (zrJ (hfo (kWy M s 0 0) s h0)) (zP M2 O) := by
  have H : ∀ M', zSame M M' → ∃ M2, zSame M M2 ∧ zG w mX9_withReasons (d + 10) 0 5 [vR 9 0, vJ h0, vU, vJ (hfo (kWy M s 0 0) 0 h0), vU, vI (nI 0)] [] (zP M' O) (zrJ (hfo (kWy M s 0 0) s h0)) (zP M2 O) := by
    refine z_loop (fun k => ∀ M', zSame M M' → ∃ M2, zSame M M2 ∧ zG w mX9_withReasons (d + 10) 0 5 [vR 9 0, vJ h0, vU, vJ (hfo (kWy M s 0 0) k h0), vU, vI (nI k)] [] (zP M' O) (zrJ (hfo (kWy M s 0 0) s h0)) (zP M2 O)) s ?_ ?_ 0 (Nat.zero_le _)
    · intro M' S
      have cz := c_xsize (w := w) (d := d + 9) (M := M') (O := O) (i := 0) (by decide)
      rw [S 1 0 (by decide) (by decide) (by decide) (by decide) (by decide) (Or.inl (by decide)), hs] at cz
      refine ⟨M', S, ?_⟩
      refine g_iload (n := 7) dX9_withReasons_5 rfl rfl ?_
      refine g_aload_n (n := 8) dX9_withReasons_7 rfl rfl ?_
      refine gf_X9_10 (n := 11) dX9_withReasons_8 rfl rfl (z_lvP (by first | decide | assumption)) rfl ?_
      refine gf_X9_83 (n := 14) dX9_withReasons_11 rfl rfl (z_lvP (by first | decide | assumption)) rfl ?_
      refine g_cVv (n := 17) cz dX9_withReasons_14 rfl kw_X9_270 rfl (by decide) (z_lvP (by first | decide | assumption)) (Nat.le_of_ble_eq_true rfl) ⟨Nat.le_refl _, Nat.le_refl _⟩ ?_ rfl
      refine g_icmp_ge (n := 20) (t := 40) dX9_withReasons_17 rfl (by decide) (fun _ => ?_) (fun q9 => absurd (Int32.le_refl _) q9)
      refine g_lload_n (n := 41) dX9_withReasons_40 rfl rfl ?_
      exact g_lreturn dX9_withReasons_41 rfl rfl rfl
    · intro k hk ih M' S
      have cz := c_xsize (w := w) (d := d + 9) (M := M') (O := O) (i := 0) (by decide)
      rw [S 1 0 (by decide) (by decide) (by decide) (by decide) (by decide) (Or.inl (by decide)), hs] at cz
      obtain ⟨M1, S1, c1⟩ := c_why (w := w) (d := d) (O := O) S hs h8 (by decide : 0 < 8) (by decide : 0 < 4) hk
      obtain ⟨M2, S2, G⟩ := ih M1 S1
      refine ⟨M2, S2, ?_⟩
      refine g_iload (n := 7) dX9_withReasons_5 rfl rfl ?_
      refine g_aload_n (n := 8) dX9_withReasons_7 rfl rfl ?_
      refine gf_X9_10 (n := 11) dX9_withReasons_8 rfl rfl (z_lvP (by first | decide | assumption)) rfl ?_
      refine gf_X9_83 (n := 14) dX9_withReasons_11 rfl rfl (z_lvP (by first | decide | assumption)) rfl ?_
      refine g_cVv (n := 17) cz dX9_withReasons_14 rfl kw_X9_270 rfl (by decide) (z_lvP (by first | decide | assumption)) (Nat.le_of_ble_eq_true rfl) ⟨Nat.le_refl _, Nat.le_refl _⟩ ?_ rfl
      refine g_icmp_ge (n := 20) (t := 40) dX9_withReasons_17 rfl (by decide) (fun q9 => absurd q9 (nI_ge hk (by omega))) (fun _ => ?_)
      refine g_lload_n (n := 21) dX9_withReasons_20 rfl rfl ?_
      refine g_aload_n (n := 22) dX9_withReasons_21 rfl rfl ?_
      refine g_iconst (n := 23) dX9_withReasons_22 rfl k_ic_0 ?_
      refine g_iconst (n := 24) dX9_withReasons_23 rfl k_ic_0 ?_
      refine g_iload (n := 26) dX9_withReasons_24 rfl rfl ?_
      refine g_cVv (n := 29) c1 dX9_withReasons_26 rfl kw_X9_415 rfl (by decide) (z_lvP (by first | decide | assumption)) (Nat.le_of_ble_eq_true rfl) ⟨Nat.le_refl _, Nat.le_refl _⟩ ?_ rfl
      refine g_i2l (n := 30) dX9_withReasons_29 rfl ?_
      refine g_cSv (n := 33) (c_hj _ _) dX9_withReasons_30 rfl kw_X9_309 (Nat.le_of_ble_eq_true rfl) ⟨Nat.le_refl _, Nat.le_refl _⟩ ?_ rfl
      refine g_lstore3 (n := 34) dX9_withReasons_33 rfl (by decide) rfl ?_
      refine g_iinc5 (n := 37) dX9_withReasons_34 rfl (by decide) rfl (z_inc1 _) ?_
      refine g_goto (n := 0) (t := 5) dX9_withReasons_37 (by decide) ?_
      exact G
  obtain ⟨M2, S2, G⟩ := H M' S
  refine ⟨M2, S2, ?_⟩
  refine zC_of (cr := 0) (L0 := [vR 9 0, vJ h0, vU, vU, vU, vU]) rfl (by decide) (by decide) rfl (Nat.le_of_ble_eq_true rfl) rfl ?_
  refine g_lload_n (n := 1) dX9_withReasons_0 rfl rfl ?_
  refine g_lstore3 (n := 2) dX9_withReasons_1 rfl (by decide) rfl ?_
  refine g_iconst (n := 3) dX9_withReasons_2 rfl k_ic_0 ?_
  refine g_istore5 (n := 5) dX9_withReasons_3 rfl (by decide) rfl ?_
  exact G
def kHo (M : Nat → Nat → Nat → Int32) (p : Nat) : Int32 := if M 30 0 p = 0 then nI 0 else nI 1
theorem c_wSlots (h0 : Int64) : zC w mX9_withSlots (d + 10) [vR 9 0, vJ h0] (zP M O) (zrJ (hfo (kHo M) 2 h0)) (zP M O) := by
  refine zC_of (cr := 0) (L0 := [vR 9 0, vJ h0, vU, vU, vU, vU]) rfl (by decide) (by decide) rfl (Nat.le_of_ble_eq_true rfl) rfl ?_
  refine g_lload_n (n := 1) dX9_withSlots_0 rfl rfl ?_
  refine g_lstore3 (n := 2) dX9_withSlots_1 rfl (by decide) rfl ?_
  refine g_iconst (n := 3) dX9_withSlots_2 rfl k_ic_0 ?_
  refine g_istore5 (n := 5) dX9_withSlots_3 rfl (by decide) rfl ?_
  refine z_loop (fun a => zG w mX9_withSlots (d + 10) 0 5 [vR 9 0, vJ h0, vU, vJ (hfo (kHo M) a h0), vU, vI (nI a)] [] (zP M O) (zrJ (hfo (kHo M) 2 h0)) (zP M O)) 2 ?_ ?_ 0 (Nat.zero_le _)
  · refine g_iload (n := 7) dX9_withSlots_5 rfl rfl ?_
    refine g_iconst (n := 8) dX9_withSlots_7 rfl k_ic_2 ?_
    refine g_icmp_ge (n := 11) (t := 39) dX9_withSlots_8 rfl (by decide) (fun _ => ?_) (fun q9 => absurd (Int32.le_refl _) q9)
    refine g_lload_n (n := 40) dX9_withSlots_39 rfl rfl ?_
    exact g_lreturn dX9_withSlots_40 rfl rfl rfl
  · intro a ha ih
    have ch := c_sholds (w := w) (d := d + 9) (M := M) (O := O) (i := 0) (by decide) ha
    rw [hfo_s] at ih
    have e1 : kHo M a = if M 30 0 a = 0 then nI 0 else nI 1 := rfl
    rw [e1] at ih
    by_cases hz : M 30 0 a = 0
    · rw [if_pos hz] at ch ih
      refine g_iload (n := 7) dX9_withSlots_5 rfl rfl ?_
      refine g_iconst (n := 8) dX9_withSlots_7 rfl k_ic_2 ?_
      refine g_icmp_ge (n := 11) (t := 39) dX9_withSlots_8 rfl (by decide) (fun q9 => absurd q9 (nI_ge ha (by decide))) (fun _ => ?_)
      refine g_lload_n (n := 12) dX9_withSlots_11 rfl rfl ?_
      refine g_aload_n (n := 13) dX9_withSlots_12 rfl rfl ?_
      refine gf_X9_45 (n := 16) dX9_withSlots_13 rfl rfl (z_lvP (by first | decide | assumption)) rfl ?_
      refine g_iload (n := 18) dX9_withSlots_16 rfl rfl ?_
      refine g_cVv (n := 21) ch dX9_withSlots_18 rfl kw_X9_191 rfl (by decide) (z_lvP (by first | decide | assumption)) (Nat.le_of_ble_eq_true rfl) ⟨Nat.le_refl _, Nat.le_refl _⟩ ?_ rfl
      refine g_if_eq (n := 24) (t := 28) dX9_withSlots_21 rfl (by decide) (fun _ => ?_) (fun q9 => absurd rfl q9)
      refine g_lconst (v := (nI 0).toInt64) (n := 29) dX9_withSlots_28 rfl rfl ?_
      refine g_cSv (n := 32) (c_hj _ (nI 0)) dX9_withSlots_29 rfl kw_X9_309 (Nat.le_of_ble_eq_true rfl) ⟨Nat.le_refl _, Nat.le_refl _⟩ ?_ rfl
      refine g_lstore3 (n := 33) dX9_withSlots_32 rfl (by decide) rfl ?_
      refine g_iinc5 (n := 36) dX9_withSlots_33 rfl (by decide) rfl (z_inc1 _) ?_
      refine g_goto (n := 0) (t := 5) dX9_withSlots_36 (by decide) ?_
      exact ih
    · rw [if_neg hz] at ch ih
      refine g_iload (n := 7) dX9_withSlots_5 rfl rfl ?_
      refine g_iconst (n := 8) dX9_withSlots_7 rfl k_ic_2 ?_
      refine g_icmp_ge (n := 11) (t := 39) dX9_withSlots_8 rfl (by decide) (fun q9 => absurd q9 (nI_ge ha (by decide))) (fun _ => ?_)
      refine g_lload_n (n := 12) dX9_withSlots_11 rfl rfl ?_
      refine g_aload_n (n := 13) dX9_withSlots_12 rfl rfl ?_
      refine gf_X9_45 (n := 16) dX9_withSlots_13 rfl rfl (z_lvP (by first | decide | assumption)) rfl ?_
      refine g_iload (n := 18) dX9_withSlots_16 rfl rfl ?_
      refine g_cVv (n := 21) ch dX9_withSlots_18 rfl kw_X9_191 rfl (by decide) (z_lvP (by first | decide | assumption)) (Nat.le_of_ble_eq_true rfl) ⟨Nat.le_refl _, Nat.le_refl _⟩ ?_ rfl
      refine g_if_eq (n := 24) (t := 28) dX9_withSlots_21 rfl (by decide) (fun q9 => absurd q9 (by decide)) (fun _ => ?_)
      refine g_lconst (v := (nI 1).toInt64) (n := 25) dX9_withSlots_24 rfl rfl ?_
      refine g_goto (n := 0) (t := 29) dX9_withSlots_25 (by decide) ?_
      refine g_cSv (n := 32) (c_hj _ (nI 1)) dX9_withSlots_29 rfl kw_X9_309 (Nat.le_of_ble_eq_true rfl) ⟨Nat.le_refl _, Nat.le_refl _⟩ ?_ rfl
      refine g_lstore3 (n := 33) dX9_withSlots_32 rfl (by decide) rfl ?_
      refine g_iinc5 (n := 36) dX9_withSlots_33 rfl (by decide) rfl (z_inc1 _) ?_
      refine g_goto (n := 0) (t := 5) dX9_withSlots_36 (by decide) ?_
      exact ih
theorem c_wText (hn : M 8 0 1 = nI n) (h60 : n ≤ 60) (h0 : Int64) : zC w mX9_withText (d + 10) [vR 9 0, vJ h0] (zP M O) (zrJ (hfo (M 31 0) n (hj h0 (nI n)))) (zP M O) := by
  have cl := c_tlength (w := w) (d := d + 9) (M := M) (O := O)
  rw [hn] at cl
  refine zC_of (cr := 0) (L0 := [vR 9 0, vJ h0, vU, vU, vU, vU]) rfl (by decide) (by decide) rfl (Nat.le_of_ble_eq_true rfl) rfl ?_
  refine g_lload_n (n := 1) dX9_withText_0 rfl rfl ?_
  refine g_aload_n (n := 2) dX9_withText_1 rfl rfl ?_
  refine gf_X9_36 (n := 5) dX9_withText_2 rfl rfl (z_lvP (by first | decide | assumption)) rfl ?_
  refine g_cVv (n := 8) cl dX9_withText_5 rfl kw_X9_175 rfl (by decide) (z_lvP (by first | decide | assumption)) (Nat.le_of_ble_eq_true rfl) ⟨Nat.le_refl _, Nat.le_refl _⟩ ?_ rfl
  refine g_i2l (n := 9) dX9_withText_8 rfl ?_
  refine g_cSv (n := 12) (c_hj _ _) dX9_withText_9 rfl kw_X9_309 (Nat.le_of_ble_eq_true rfl) ⟨Nat.le_refl _, Nat.le_refl _⟩ ?_ rfl
  refine g_lstore3 (n := 13) dX9_withText_12 rfl (by decide) rfl ?_
  refine g_iconst (n := 14) dX9_withText_13 rfl k_ic_0 ?_
  refine g_istore5 (n := 16) dX9_withText_14 rfl (by decide) rfl ?_
  refine z_loop (fun a => zG w mX9_withText (d + 10) 0 16 [vR 9 0, vJ h0, vU, vJ (hfo (M 31 0) a (hj h0 (nI n))), vU, vI (nI a)] [] (zP M O) (zrJ (hfo (M 31 0) n (hj h0 (nI n)))) (zP M O)) n ?_ ?_ 0 (Nat.zero_le _)
  · refine g_iload (n := 18) dX9_withText_16 rfl rfl ?_
    refine g_aload_n (n := 19) dX9_withText_18 rfl rfl ?_
    refine gf_X9_36 (n := 22) dX9_withText_19 rfl rfl (z_lvP (by first | decide | assumption)) rfl ?_
    refine g_cVv (n := 25) cl dX9_withText_22 rfl kw_X9_175 rfl (by decide) (z_lvP (by first | decide | assumption)) (Nat.le_of_ble_eq_true rfl) ⟨Nat.le_refl _, Nat.le_refl _⟩ ?_ rfl
    refine g_icmp_ge (n := 28) (t := 49) dX9_withText_25 rfl (by decide) (fun _ => ?_) (fun q9 => absurd (Int32.le_refl _) q9)
    refine g_lload_n (n := 50) dX9_withText_49 rfl rfl ?_
    exact g_lreturn dX9_withText_50 rfl rfl rfl
  · intro a ha ih
    have cc := c_tcode (w := w) (d := d + 9) (M := M) (O := O) hn h60 (j := a) (by omega)
    unfold tCode at cc
    rw [if_pos ha] at cc
    rw [hfo_s] at ih
    refine g_iload (n := 18) dX9_withText_16 rfl rfl ?_
    refine g_aload_n (n := 19) dX9_withText_18 rfl rfl ?_
    refine gf_X9_36 (n := 22) dX9_withText_19 rfl rfl (z_lvP (by first | decide | assumption)) rfl ?_
    refine g_cVv (n := 25) cl dX9_withText_22 rfl kw_X9_175 rfl (by decide) (z_lvP (by first | decide | assumption)) (Nat.le_of_ble_eq_true rfl) ⟨Nat.le_refl _, Nat.le_refl _⟩ ?_ rfl
    refine g_icmp_ge (n := 28) (t := 49) dX9_withText_25 rfl (by decide) (fun q9 => absurd q9 (nI_ge ha (by omega))) (fun _ => ?_)
    refine g_lload_n (n := 29) dX9_withText_28 rfl rfl ?_
    refine g_aload_n (n := 30) dX9_withText_29 rfl rfl ?_
    refine gf_X9_36 (n := 33) dX9_withText_30 rfl rfl (z_lvP (by first | decide | assumption)) rfl ?_
    refine g_iload (n := 35) dX9_withText_33 rfl rfl ?_
    refine g_cVv (n := 38) cc dX9_withText_35 rfl kw_X9_379 rfl (by decide) (z_lvP (by first | decide | assumption)) (Nat.le_of_ble_eq_true rfl) ⟨Nat.le_refl _, Nat.le_refl _⟩ ?_ rfl
    refine g_i2l (n := 39) dX9_withText_38 rfl ?_
    refine g_cSv (n := 42) (c_hj _ _) dX9_withText_39 rfl kw_X9_309 (Nat.le_of_ble_eq_true rfl) ⟨Nat.le_refl _, Nat.le_refl _⟩ ?_ rfl
    refine g_lstore3 (n := 43) dX9_withText_42 rfl (by decide) rfl ?_
    refine g_iinc5 (n := 46) dX9_withText_43 rfl (by decide) rfl (z_inc1 _) ?_
    refine g_goto (n := 0) (t := 16) dX9_withText_46 (by decide) ?_
    exact ih
theorem c_wChoices {M' : Nat → Nat → Nat → Int32} (S : zSame M M') (hs : M 1 0 5 = nI s) (h8 : s ≤ 8) (h0 : Int64) : ∃ M2, zSame M M2 ∧ zC w mX9_withChoices (d + 10) [vR 9 0, vJ h0] (zP M' O) (zrJ (hfo (fun k => kCh M s (k / 24) (k / 6 % 4) (k % 6)) 192 h0)) (zP M2 O) := by
  obtain ⟨g, hg⟩ : ∃ g : Nat → Int32, g = fun k => kCh M s (k / 24) (k / 6 % 4) (k % 6) := ⟨_, rfl⟩
  rw [← hg]
  have H : ∀ M', zSame M M' → ∃ M2, zSame M M2 ∧ zG w mX9_withChoices (d + 10) 0 5 [vR 9 0, vJ h0, vU, vJ (hfo g (24 * 0) h0), vU, vI (nI 0), vU, vU] [] (zP M' O) (zrJ (hfo g 192 h0)) (zP M2 O) := by
    refine z_loop (fun a => ∀ M', zSame M M' → ∃ M2, zSame M M2 ∧ zG w mX9_withChoices (d + 10) 0 5 [vR 9 0, vJ h0, vU, vJ (hfo g (24 * a) h0), vU, vI (nI a), vU, vU] [] (zP M' O) (zrJ (hfo g 192 h0)) (zP M2 O)) 8 ?_ ?_ 0 (Nat.zero_le _)
    · intro M' S
      refine ⟨M', S, ?_⟩
      refine g_iload (n := 7) dX9_withChoices_5 rfl rfl ?_
      refine g_bipush (n := 9) dX9_withChoices_7 rfl k_bp_8 ?_
      refine g_icmp_ge (n := 12) (t := 64) dX9_withChoices_9 rfl (by decide) (fun _ => ?_) (fun q9 => absurd (Int32.le_refl _) q9)
      refine g_lload_n (n := 65) dX9_withChoices_64 rfl rfl ?_
      exact g_lreturn dX9_withChoices_65 rfl rfl rfl
    · intro a ha ih M' S
      have I : ∀ M', zSame M M' → ∃ M2, zSame M M2 ∧ zG w mX9_withChoices (d + 10) 0 15 [vR 9 0, vJ h0, vU, vJ (hfo g (24 * a + 6 * 0) h0), vU, vI (nI a), vI (nI 0), vU] [] (zP M' O) (zrJ (hfo g 192 h0)) (zP M2 O) := by
        refine z_loop (fun b => ∀ M', zSame M M' → ∃ M2, zSame M M2 ∧ zG w mX9_withChoices (d + 10) 0 15 [vR 9 0, vJ h0, vU, vJ (hfo g (24 * a + 6 * b) h0), vU, vI (nI a), vI (nI b), vU] [] (zP M' O) (zrJ (hfo g 192 h0)) (zP M2 O)) 4 ?_ ?_ 0 (Nat.zero_le _)
        · intro M' S
          obtain ⟨M2, S2, G⟩ := ih M' S
          refine ⟨M2, S2, ?_⟩
          refine g_iload (n := 17) dX9_withChoices_15 rfl rfl ?_
          refine g_iconst (n := 18) dX9_withChoices_17 rfl k_ic_4 ?_
          refine g_icmp_ge (n := 21) (t := 58) dX9_withChoices_18 rfl (by decide) (fun _ => ?_) (fun q9 => absurd (Int32.le_refl _) q9)
          refine g_iinc5 (n := 61) dX9_withChoices_58 rfl (by decide) rfl (z_inc1 _) ?_
          refine g_goto (n := 0) (t := 5) dX9_withChoices_61 (by decide) ?_
          refine g_drop 6 ?_
          exact G
        · intro b hb ih2 M' S
          have J : ∀ M', zSame M M' → ∃ M2, zSame M M2 ∧ zG w mX9_withChoices (d + 10) 0 24 [vR 9 0, vJ h0, vU, vJ (hfo g (24 * a + 6 * b + 0) h0), vU, vI (nI a), vI (nI b), vI (nI 0)] [] (zP M' O) (zrJ (hfo g 192 h0)) (zP M2 O) := by
            refine z_loop (fun v => ∀ M', zSame M M' → ∃ M2, zSame M M2 ∧ zG w mX9_withChoices (d + 10) 0 24 [vR 9 0, vJ h0, vU, vJ (hfo g (24 * a + 6 * b + v) h0), vU, vI (nI a), vI (nI b), vI (nI v)] [] (zP M' O) (zrJ (hfo g 192 h0)) (zP M2 O)) 6 ?_ ?_ 0 (Nat.zero_le _)
            · intro M' S
              obtain ⟨M2, S2, G⟩ := ih2 M' S
              refine ⟨M2, S2, ?_⟩
              refine g_iload (n := 26) dX9_withChoices_24 rfl rfl ?_
              refine g_iconst (n := 27) dX9_withChoices_26 rfl k_ic_5 ?_
              refine g_icmp_gt (n := 30) (t := 52) dX9_withChoices_27 rfl (by decide) (fun _ => ?_) (fun q9 => absurd (by decide) q9)
              refine g_iinc6 (n := 55) dX9_withChoices_52 rfl (by decide) rfl (z_inc1 _) ?_
              refine g_goto (n := 0) (t := 15) dX9_withChoices_55 (by decide) ?_
              refine g_drop 7 ?_
              exact G
            · intro v hv ih3 M' S
              obtain ⟨M1, S1, c1⟩ := c_choice (w := w) (d := d) (O := O) S hs h8 ha hb hv
              obtain ⟨M2, S2, G⟩ := ih3 M1 S1
              refine ⟨M2, S2, ?_⟩
              have eg : g (24 * a + 6 * b + v) = kCh M s a b v := by
                rw [hg]
                show kCh M s ((24 * a + 6 * b + v) / 24) ((24 * a + 6 * b + v) / 6 % 4) ((24 * a + 6 * b + v) % 6) = _
                rw [show (24 * a + 6 * b + v) / 24 = a by omega, show (24 * a + 6 * b + v) / 6 % 4 = b by omega, show (24 * a + 6 * b + v) % 6 = v by omega]
              rw [← Nat.add_assoc, hfo_s, eg] at G
              refine g_iload (n := 26) dX9_withChoices_24 rfl rfl ?_
              refine g_iconst (n := 27) dX9_withChoices_26 rfl k_ic_5 ?_
              refine g_icmp_gt (n := 30) (t := 52) dX9_withChoices_27 rfl (by decide) (fun q9 => absurd q9 (Int32.not_lt.mpr (nI_le (b := 5) (by omega) (by decide)))) (fun _ => ?_)
              refine g_lload_n (n := 31) dX9_withChoices_30 rfl rfl ?_
              refine g_aload_n (n := 32) dX9_withChoices_31 rfl rfl ?_
              refine g_iload (n := 34) dX9_withChoices_32 rfl rfl ?_
              refine g_iload (n := 36) dX9_withChoices_34 rfl rfl ?_
              refine g_iload (n := 38) dX9_withChoices_36 rfl rfl ?_
              refine g_cVv (n := 41) c1 dX9_withChoices_38 rfl kw_X9_412 rfl (by decide) (z_lvP (by first | decide | assumption)) (Nat.le_of_ble_eq_true rfl) ⟨Nat.le_refl _, Nat.le_refl _⟩ ?_ rfl
              refine g_i2l (n := 42) dX9_withChoices_41 rfl ?_
              refine g_cSv (n := 45) (c_hj _ _) dX9_withChoices_42 rfl kw_X9_309 (Nat.le_of_ble_eq_true rfl) ⟨Nat.le_refl _, Nat.le_refl _⟩ ?_ rfl
              refine g_lstore3 (n := 46) dX9_withChoices_45 rfl (by decide) rfl ?_
              refine g_iinc7 (n := 49) dX9_withChoices_46 rfl (by decide) rfl (z_inc1 _) ?_
              refine g_goto (n := 0) (t := 24) dX9_withChoices_49 (by decide) ?_
              exact G
          obtain ⟨M2, S2, G⟩ := J M' S
          refine ⟨M2, S2, ?_⟩
          refine g_iload (n := 17) dX9_withChoices_15 rfl rfl ?_
          refine g_iconst (n := 18) dX9_withChoices_17 rfl k_ic_4 ?_
          refine g_icmp_ge (n := 21) (t := 58) dX9_withChoices_18 rfl (by decide) (fun q9 => absurd q9 (nI_ge hb (by decide))) (fun _ => ?_)
          refine g_iconst (n := 22) dX9_withChoices_21 rfl k_ic_0 ?_
          refine g_istore7 (n := 24) dX9_withChoices_22 rfl (by decide) rfl ?_
          exact G
      obtain ⟨M2, S2, G⟩ := I M' S
      refine ⟨M2, S2, ?_⟩
      refine g_iload (n := 7) dX9_withChoices_5 rfl rfl ?_
      refine g_bipush (n := 9) dX9_withChoices_7 rfl k_bp_8 ?_
      refine g_icmp_ge (n := 12) (t := 64) dX9_withChoices_9 rfl (by decide) (fun q9 => absurd q9 (nI_ge ha (by decide))) (fun _ => ?_)
      refine g_iconst (n := 13) dX9_withChoices_12 rfl k_ic_0 ?_
      refine g_istore6 (n := 15) dX9_withChoices_13 rfl (by decide) rfl ?_
      exact G
  obtain ⟨M2, S2, G⟩ := H M' S
  refine ⟨M2, S2, ?_⟩
  refine zC_of (cr := 0) (L0 := [vR 9 0, vJ h0, vU, vU, vU, vU, vU, vU]) rfl (by decide) (by decide) rfl (Nat.le_of_ble_eq_true rfl) rfl ?_
  refine g_lload_n (n := 1) dX9_withChoices_0 rfl rfl ?_
  refine g_lstore3 (n := 2) dX9_withChoices_1 rfl (by decide) rfl ?_
  refine g_iconst (n := 3) dX9_withChoices_2 rfl k_ic_0 ?_
  refine g_istore5 (n := 5) dX9_withChoices_3 rfl (by decide) rfl ?_
  exact G
end LD

