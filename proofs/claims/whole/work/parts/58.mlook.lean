/-! The reference: what it measures and chooses, told by a row of its own. -/
abbrev RowR (M : Nat → Nat → Nat → Int32) (b : Nat) (V : Nat → Int32) : Prop := aeq 174 (rV M b) V
abbrev rMd (M : Nat → Nat → Nat → Int32) (V : Nat → Int32) : Prop := aeq 64 (M 35 0) (vDi V)
theorem RowR0 {M : Nat → Nat → Nat → Int32} {V : Nat → Int32} (R : RowR M 0 V) {j : Nat} (hj : j < 174) : M 32 0 j = V j := by
  have h : M 32 0 (0 + j) = V j := R j hj
  rw [Nat.zero_add] at h
  exact h
theorem rMd_mea {M : Nat → Nat → Nat → Int32} {b : Nat} {V : Nat → Int32} (R : RowR M b V) : rMd (mMea M b) V :=
  (fw_of xfl_aeq).tr (fw_cong (fun k hk => R (2 + k) (by omega)))
def vFs (V : Nat → Int32) (s k : Nat) : Int32 := vCho (vDi V) V s (k / 4) (k % 4)
def vGs (V : Nat → Int32) (s k : Nat) : Int32 := vDe (vDi V) V s (k / 4) (k % 4)
def mAll (M : Nat → Nat → Nat → Int32) (V : Nat → Int32) (s : Nat) : Nat → Nat → Nat → Int32 := u2 (u2 (mMea M 0) 36 0 (xfl (vFs V s) (mMea M 0 36 0) 32)) 37 0 (xfl (vGs V s) (mMea M 0 37 0) 32)
section L15
variable {w : zWp} {d b s t h e : Nat} {M : Nat → Nat → Nat → Int32} {O : Nat → Int64} {V : Nat → Int32}
theorem r_lengthOfV (R : RowR M b V) (W : WFV V) (hs : V 66 = nI s) (h8 : s ≤ 8) (hb : b ≤ 1566) (he : e < s) (hh : h < 4) : zC w mX10_lengthOf (d + 1) [vR 10 0, vI (nI b), vI (nI e), vI (nI h)] (zP M O) (zrI (vLen V h e)) (zP M O) := by
  have W' := WFV_c W R.sy
  have hs' : rV M b 66 = nI s := (R 66 (by decide)).trans hs
  have c := r_lengthOf (w := w) (d := d) (O := O) W' hs' h8 hb he hh
  rw [vLen_c W' hs' h8 R hh he] at c
  exact c
theorem r_farOfV (R : RowR M b V) (D : rMd M V) (W : WFV V) (hs : V 66 = nI s) (h8 : s ≤ 8) (hb : b ≤ 1566) (he : e < s) (ht : t < 8) : zC w mX10_farOf (d + 1) [vR 10 0, vI (nI b), vI (nI t), vI (nI e)] (zP M O) (zrI (vFar (vDi V) V t e)) (zP M O) := by
  have W' := WFV_c W R.sy
  have hs' : rV M b 66 = nI s := (R 66 (by decide)).trans hs
  have c := r_farOf (w := w) (d := d) (O := O) W' hs' h8 hb he ht
  rw [vFar_c W' hs' h8 R D ht he] at c
  exact c
theorem r_gradeV (R : RowR M b V) (D : rMd M V) (W : WFV V) (hs : V 66 = nI s) (h8 : s ≤ 8) (hb : b ≤ 1566) (he : e < s) (ht : t < 8) (hh : h < 4) : zC w mX10_grade (d + 3) [vR 10 0, vI (nI b), vI (nI t), vI (nI h), vI (nI e)] (zP M O) (zrI (vGr (vDi V) V s t h e)) (zP M O) := by
  have W' := WFV_c W R.sy
  have hs' : rV M b 66 = nI s := (R 66 (by decide)).trans hs
  have c := r_grade (w := w) (d := d) (O := O) W' hs' h8 hb he ht hh
  rw [vGr_c W' hs' h8 R D ht hh he] at c
  exact c
theorem r_gradedV (R : RowR M b V) (D : rMd M V) (W : WFV V) (hs : V 66 = nI s) (h8 : s ≤ 8) (hb : b ≤ 1566) (ht : t < 8) (hh : h < 4) (l : Nat) : zC w mX10_graded (d + 4) [vR 10 0, vI (nI b), vI (nI t), vI (nI h), vI (nI l)] (zP M O) (zrI (vGd (vDi V) V s t h l)) (zP M O) := by
  have W' := WFV_c W R.sy
  have hs' : rV M b 66 = nI s := (R 66 (by decide)).trans hs
  have c := r_graded (w := w) (d := d) (O := O) W' hs' h8 hb ht hh l
  rw [vGd_c W' hs' h8 R D ht hh l] at c
  exact c
theorem r_choosesV (R : RowR M b V) (D : rMd M V) (W : WFV V) (hs : V 66 = nI s) (h8 : s ≤ 8) (hb : b ≤ 1566) (ht : t < 8) (hh : h < 4) : zC w mX10_chooses (d + 5) [vR 10 0, vI (nI b), vI (nI t), vI (nI h)] (zP M O) (zrI (vCho (vDi V) V s t h)) (zP M O) := by
  have W' := WFV_c W R.sy
  have hs' : rV M b 66 = nI s := (R 66 (by decide)).trans hs
  have c := r_chooses (w := w) (d := d) (O := O) W' hs' h8 hb ht hh
  rw [vCho_c W' hs' h8 R D ht hh] at c
  exact c
theorem r_choosesAll (R : RowR M 0 V) (W : WFV V) (hs : V 66 = nI s) (h8 : s ≤ 8) : zC w mX10_choosesAll (d + 6) [vR 10 0] (zP M O) zrV (zP (mAll M V s) O) := by
  obtain ⟨B, hB⟩ : ∃ B, B = mMea M 0 := ⟨_, rfl⟩
  have hb : RowR B 0 V := by rw [hB]; exact R
  have hd : rMd B V := by rw [hB]; exact rMd_mea R
  have cm := r_measures (w := w) (d := d + 5) (M := M) (O := O) (b := 0) (by decide)
  unfold mAll
  rw [← hB] at cm ⊢
  have cc : ∀ X Y t h, t < 8 → h < 4 → zC w mX10_chooses (d + 5) [vR 10 0, vI (nI 0), vI (nI t), vI (nI h)] (zP (u2 (u2 B 36 0 X) 37 0 Y) O) (zrI (vCho (vDi V) V s t h)) (zP (u2 (u2 B 36 0 X) 37 0 Y) O) := fun X Y t h ht hh => r_choosesV (M := u2 (u2 B 36 0 X) 37 0 Y) hb hd W hs h8 (by decide) ht hh
  have cf : ∀ X Y t e, t < 8 → e < s → zC w mX10_farOf (d + 5) [vR 10 0, vI (nI 0), vI (nI t), vI (nI e)] (zP (u2 (u2 B 36 0 X) 37 0 Y) O) (zrI (vFar (vDi V) V t e)) (zP (u2 (u2 B 36 0 X) 37 0 Y) O) := fun X Y t e ht he => r_farOfV (M := u2 (u2 B 36 0 X) 37 0 Y) hb hd W hs h8 (by decide) he ht
  obtain ⟨F, hF⟩ : ∃ F, F = vFs V s := ⟨_, rfl⟩
  obtain ⟨G, hG⟩ : ∃ G, G = vGs V s := ⟨_, rfl⟩
  rw [← hF, ← hG]
  refine zC_of (cr := 0) (L0 := [vR 10 0, vU]) rfl (by decide) (by decide) rfl (Nat.le_of_ble_eq_true rfl) rfl ?_
  refine g_aload_n (n := 1) dX10_choosesAll_0 rfl rfl ?_
  refine g_iconst (n := 2) dX10_choosesAll_1 rfl k_ic_0 ?_
  refine g_cVn (n := 5) cm dX10_choosesAll_2 rfl kw_X10_76 rfl (by decide) (z_lvP (by first | decide | assumption)) (Nat.le_of_ble_eq_true rfl) ⟨Nat.le_refl _, Nat.le_refl _⟩ ?_ rfl
  refine g_iconst (n := 6) dX10_choosesAll_5 rfl k_ic_0 ?_
  refine g_istore1 (n := 7) dX10_choosesAll_6 rfl (by decide) rfl ?_
  suffices H : zG w mX10_choosesAll (d + 6) 0 7 [vR 10 0, vI (nI 0)] [] (zP (u2 (u2 B 36 0 (xfl F (B 36 0) 0)) 37 0 (xfl G (B 37 0) 0)) O) zrV (zP (u2 (u2 B 36 0 (xfl F (B 36 0) 32)) 37 0 (xfl G (B 37 0) 32)) O) by
    rw [xfl_0, xfl_0, u2_id, u2_id] at H
    exact H
  refine z_loop (fun k => zG w mX10_choosesAll (d + 6) 0 7 [vR 10 0, vI (nI k)] [] (zP (u2 (u2 B 36 0 (xfl F (B 36 0) k)) 37 0 (xfl G (B 37 0) k)) O) zrV (zP (u2 (u2 B 36 0 (xfl F (B 36 0) 32)) 37 0 (xfl G (B 37 0) 32)) O)) 32 ?_ ?_ 0 (Nat.zero_le _)
  · refine g_iload_n (n := 8) dX10_choosesAll_7 rfl rfl ?_
    refine g_bipush (n := 10) dX10_choosesAll_8 rfl k_bp_32 ?_
    refine g_icmp_ge (n := 13) (t := 69) dX10_choosesAll_10 rfl (by decide) (fun _ => ?_) (fun q9 => absurd (Int32.le_refl _) q9)
    exact g_return dX10_choosesAll_69 rfl rfl rfl
  · intro k hk ih
    have i2 : nI k / nI 4 = nI (k / 4) := pk_div (by omega) (by decide) (by decide)
    have i3 : nI k - nI k / nI 4 * nI 4 = nI (k % 4) := pk_rem (by omega) (by decide) (by decide)
    have fk : vCho (vDi V) V s (k / 4) (k % 4) = F k := by rw [hF]; rfl
    have eX : ∀ Y, u2 (u2 B 36 0 (xfl F (B 36 0) (k + 1))) 37 0 Y 36 0 k = F k := fun Y => xfl_in (Nat.lt_succ_self k)
    refine g_iload_n (n := 8) dX10_choosesAll_7 rfl rfl ?_
    refine g_bipush (n := 10) dX10_choosesAll_8 rfl k_bp_32 ?_
    refine g_icmp_ge (n := 13) (t := 69) dX10_choosesAll_10 rfl (by decide) (fun q9 => absurd q9 (nI_ge hk (by decide))) (fun _ => ?_)
    refine g_aload_n (n := 14) dX10_choosesAll_13 rfl rfl ?_
    refine gf_X10_24 (n := 17) dX10_choosesAll_14 rfl rfl (z_lvP (by first | decide | assumption)) rfl ?_
    refine g_iload_n (n := 18) dX10_choosesAll_17 rfl rfl ?_
    refine g_aload_n (n := 19) dX10_choosesAll_18 rfl rfl ?_
    refine g_iconst (n := 20) dX10_choosesAll_19 rfl k_ic_0 ?_
    refine g_iload_n (n := 21) dX10_choosesAll_20 rfl rfl ?_
    refine g_iconst (n := 22) dX10_choosesAll_21 rfl k_ic_4 ?_
    refine g_idiv (n := 23) dX10_choosesAll_22 rfl (by decide) ?_
    refine g_iload_n (n := 24) dX10_choosesAll_23 rfl rfl ?_
    refine g_iconst (n := 25) dX10_choosesAll_24 rfl k_ic_4 ?_
    refine g_irem (n := 26) dX10_choosesAll_25 rfl (by decide) ?_
    rw [i3, i2]
    refine g_cVv (n := 29) (cc _ _ _ _ (by omega) (by omega)) dX10_choosesAll_26 rfl kw_X10_80 rfl (by decide) (z_lvP (by first | decide | assumption)) (Nat.le_of_ble_eq_true rfl) ⟨Nat.le_refl _, Nat.le_refl _⟩ ?_ rfl
    refine g_iast (n := 30) dX10_choosesAll_29 rfl (by decide) (z_lvP (by first | decide | assumption)) rfl (by show _ < 32; first | assumption | omega) ?_
    rw [u3_com (by decide), u3_u2, xfl_s _ _ _ fk]
    have tail : ∀ v, v = G k → zG w mX10_choosesAll (d + 6) 0 62 [vR 10 0, vI (nI k)] [vI v, vI (nI k), vR 37 0] (zP (u2 (u2 B 36 0 (xfl F (B 36 0) (k + 1))) 37 0 (xfl G (B 37 0) k)) O) zrV (zP (u2 (u2 B 36 0 (xfl F (B 36 0) 32)) 37 0 (xfl G (B 37 0) 32)) O) := by
      intro v hv
      refine g_iast (n := 63) dX10_choosesAll_62 rfl (by decide) (z_lvP (by first | decide | assumption)) rfl (by show _ < 32; first | assumption | omega) ?_
      rw [u3_u2, xfl_s _ _ _ hv]
      refine g_iinc1 (n := 66) dX10_choosesAll_63 rfl (by decide) rfl (z_inc1 _) ?_
      refine g_goto (n := 0) (t := 7) dX10_choosesAll_66 (by decide) ?_
      exact ih
    have gk : G k = vDe (vDi V) V s (k / 4) (k % 4) := by rw [hG]; rfl
    unfold vDe at gk
    rw [fk] at gk
    rcases vCho_in2 W hs h8 (show k / 4 < 8 by omega) (show k % 4 < 4 by omega) with a | ⟨e, he, a⟩
    · rw [fk] at a
      refine g_aload_n (n := 31) dX10_choosesAll_30 rfl rfl ?_
      refine gf_X10_27 (n := 34) dX10_choosesAll_31 rfl rfl (z_lvP (by first | decide | assumption)) rfl ?_
      refine g_iload_n (n := 35) dX10_choosesAll_34 rfl rfl ?_
      refine g_aload_n (n := 36) dX10_choosesAll_35 rfl rfl ?_
      refine gf_X10_24 (n := 39) dX10_choosesAll_36 rfl rfl (z_lvP (by first | decide | assumption)) rfl ?_
      refine g_iload_n (n := 40) dX10_choosesAll_39 rfl rfl ?_
      refine g_iald (n := 41) dX10_choosesAll_40 rfl (by decide) (z_lvP (by first | decide | assumption)) rfl (by show _ < 32; first | assumption | omega) ?_
      rw [eX, a]
      refine g_if_ge (n := 44) (t := 48) dX10_choosesAll_41 rfl (by decide) (fun q9 => absurd q9 (by decide)) (fun _ => ?_)
      refine g_iconst (n := 45) dX10_choosesAll_44 rfl k_ic_m1 ?_
      refine g_goto (n := 0) (t := 62) dX10_choosesAll_45 (by decide) ?_
      exact tail _ (by rw [gk, a]; rfl)
    · rw [fk] at a
      refine g_aload_n (n := 31) dX10_choosesAll_30 rfl rfl ?_
      refine gf_X10_27 (n := 34) dX10_choosesAll_31 rfl rfl (z_lvP (by first | decide | assumption)) rfl ?_
      refine g_iload_n (n := 35) dX10_choosesAll_34 rfl rfl ?_
      refine g_aload_n (n := 36) dX10_choosesAll_35 rfl rfl ?_
      refine gf_X10_24 (n := 39) dX10_choosesAll_36 rfl rfl (z_lvP (by first | decide | assumption)) rfl ?_
      refine g_iload_n (n := 40) dX10_choosesAll_39 rfl rfl ?_
      refine g_iald (n := 41) dX10_choosesAll_40 rfl (by decide) (z_lvP (by first | decide | assumption)) rfl (by show _ < 32; first | assumption | omega) ?_
      rw [eX, a]
      refine g_if_ge (n := 44) (t := 48) dX10_choosesAll_41 rfl (by decide) (fun _ => ?_) (fun q9 => absurd (nI_pos' (by omega)) q9)
      refine g_aload_n (n := 49) dX10_choosesAll_48 rfl rfl ?_
      refine g_iconst (n := 50) dX10_choosesAll_49 rfl k_ic_0 ?_
      refine g_iload_n (n := 51) dX10_choosesAll_50 rfl rfl ?_
      refine g_iconst (n := 52) dX10_choosesAll_51 rfl k_ic_4 ?_
      refine g_idiv (n := 53) dX10_choosesAll_52 rfl (by decide) ?_
      rw [i2]
      refine g_aload_n (n := 54) dX10_choosesAll_53 rfl rfl ?_
      refine gf_X10_24 (n := 57) dX10_choosesAll_54 rfl rfl (z_lvP (by first | decide | assumption)) rfl ?_
      refine g_iload_n (n := 58) dX10_choosesAll_57 rfl rfl ?_
      refine g_iald (n := 59) dX10_choosesAll_58 rfl (by decide) (z_lvP (by first | decide | assumption)) rfl (by show _ < 32; first | assumption | omega) ?_
      rw [eX, a]
      refine g_cVv (n := 62) (cf _ _ _ _ (by omega) he) dX10_choosesAll_59 rfl kw_X10_58 rfl (by decide) (z_lvP (by first | decide | assumption)) (Nat.le_of_ble_eq_true rfl) ⟨Nat.le_refl _, Nat.le_refl _⟩ ?_ rfl
      exact tail _ (by rw [gk, a, if_neg (nI_pos (by omega)), nI_clamp (by omega)])
theorem r_without (R : RowR M 0 V) (W : WFV V) (hs : V 66 = nI s) (h8 : s ≤ 8) : zC w mX10_without (d + 7) [vR 10 0] (zP M O) (zrI (sm (fun k => zb (decide (vFs V s k < 0))) 32)) (zP (mAll M V s) O) := by
  have ca := r_choosesAll (w := w) (d := d) (O := O) R W hs h8
  obtain ⟨N, hN⟩ : ∃ N, N = mAll M V s := ⟨_, rfl⟩
  have eN : ∀ k, k < 32 → N 36 0 k = vFs V s k := fun k hk => by rw [hN]; exact xfl_in hk
  obtain ⟨f, hf⟩ : ∃ f : Nat → Int32, f = fun k => zb (decide (vFs V s k < 0)) := ⟨_, rfl⟩
  rw [← hN] at ca ⊢
  rw [← hf]
  refine zC_of (cr := 0) (L0 := [vR 10 0, vU, vU]) rfl (by decide) (by decide) rfl (Nat.le_of_ble_eq_true rfl) rfl ?_
  refine g_aload_n (n := 1) dX10_without_0 rfl rfl ?_
  refine g_cVn (n := 4) ca dX10_without_1 rfl kw_X10_169 rfl (by decide) (z_lvP (by first | decide | assumption)) (Nat.le_of_ble_eq_true rfl) ⟨Nat.le_refl _, Nat.le_refl _⟩ ?_ rfl
  refine g_iconst (n := 5) dX10_without_4 rfl k_ic_0 ?_
  refine g_istore1 (n := 6) dX10_without_5 rfl (by decide) rfl ?_
  refine g_iconst (n := 7) dX10_without_6 rfl k_ic_0 ?_
  refine g_istore2 (n := 8) dX10_without_7 rfl (by decide) rfl ?_
  refine z_loop (fun k => zG w mX10_without (d + 7) 0 8 [vR 10 0, vI (sm f k), vI (nI k)] [] (zP N O) (zrI (sm f 32)) (zP N O)) 32 ?_ ?_ 0 (Nat.zero_le _)
  · refine g_iload_n (n := 9) dX10_without_8 rfl rfl ?_
    refine g_bipush (n := 11) dX10_without_9 rfl k_bp_32 ?_
    refine g_icmp_ge (n := 14) (t := 37) dX10_without_11 rfl (by decide) (fun _ => ?_) (fun q9 => absurd (Int32.le_refl _) q9)
    refine g_iload_n (n := 38) dX10_without_37 rfl rfl ?_
    exact g_ireturn dX10_without_38 rfl rfl rfl rfl
  · intro k hk ih
    have fk : f k = zb (decide (vFs V s k < 0)) := by rw [hf]
    rw [sm_s, fk] at ih
    refine g_iload_n (n := 9) dX10_without_8 rfl rfl ?_
    refine g_bipush (n := 11) dX10_without_9 rfl k_bp_32 ?_
    refine g_icmp_ge (n := 14) (t := 37) dX10_without_11 rfl (by decide) (fun q9 => absurd q9 (nI_ge hk (by decide))) (fun _ => ?_)
    refine g_iload_n (n := 15) dX10_without_14 rfl rfl ?_
    refine g_aload_n (n := 16) dX10_without_15 rfl rfl ?_
    refine gf_X10_24 (n := 19) dX10_without_16 rfl rfl (z_lvP (by first | decide | assumption)) rfl ?_
    refine g_iload_n (n := 20) dX10_without_19 rfl rfl ?_
    refine g_iald (n := 21) dX10_without_20 rfl (by decide) (z_lvP (by first | decide | assumption)) rfl (by show _ < 32; first | assumption | omega) ?_
    rw [eN k hk]
    refine g_if_ge (n := 24) (t := 28) dX10_without_21 rfl (by decide) (fun c21 => ?_) (fun c21 => ?_)
    · rw [decide_eq_false (Int32.not_lt.mpr c21)] at ih
      refine g_iconst (n := 29) dX10_without_28 rfl k_ic_0 ?_
      refine g_iadd (n := 30) dX10_without_29 rfl ?_
      refine g_istore1 (n := 31) dX10_without_30 rfl (by decide) rfl ?_
      refine g_iinc2 (n := 34) dX10_without_31 rfl (by decide) rfl (z_inc1 _) ?_
      refine g_goto (n := 0) (t := 8) dX10_without_34 (by decide) ?_
      exact ih
    · rw [decide_eq_true (Int32.not_le.mp c21)] at ih
      refine g_iconst (n := 25) dX10_without_24 rfl k_ic_1 ?_
      refine g_goto (n := 0) (t := 29) dX10_without_25 (by decide) ?_
      refine g_iadd (n := 30) dX10_without_29 rfl ?_
      refine g_istore1 (n := 31) dX10_without_30 rfl (by decide) rfl ?_
      refine g_iinc2 (n := 34) dX10_without_31 rfl (by decide) rfl (z_inc1 _) ?_
      refine g_goto (n := 0) (t := 8) dX10_without_34 (by decide) ?_
      exact ih
theorem r_distances {a c : Nat} (R : RowR M 0 V) (ha : a < 8) (hc : c < 8) : zC w mX10_distances (d + 1) [vR 10 0, vI (nI a), vI (nI c)] (zP M O) (zrI (xfar (vDi V (8 * a + c)))) (zP (mMea M 0) O) := by
  have cm := r_measures (w := w) (d := d) (M := M) (O := O) (b := 0) (by decide)
  have hd : rMd (mMea M 0) V := rMd_mea R
  obtain ⟨B, hB⟩ : ∃ B, B = mMea M 0 := ⟨_, rfl⟩
  rw [← hB] at cm hd ⊢
  have e1 : B 35 0 (8 * a + c) = vDi V (8 * a + c) := hd _ (by omega)
  unfold xfar
  refine zC_of (cr := 0) (L0 := [vR 10 0, vI (nI a), vI (nI c), vU]) rfl (by decide) (by decide) rfl (Nat.le_of_ble_eq_true rfl) rfl ?_
  refine g_aload_n (n := 1) dX10_distances_0 rfl rfl ?_
  refine g_iconst (n := 2) dX10_distances_1 rfl k_ic_0 ?_
  refine g_cVn (n := 5) cm dX10_distances_2 rfl kw_X10_76 rfl (by decide) (z_lvP (by first | decide | assumption)) (Nat.le_of_ble_eq_true rfl) ⟨Nat.le_refl _, Nat.le_refl _⟩ ?_ rfl
  refine g_aload_n (n := 6) dX10_distances_5 rfl rfl ?_
  refine gf_X10_21 (n := 9) dX10_distances_6 rfl rfl (z_lvP (by first | decide | assumption)) rfl ?_
  refine g_bipush (n := 11) dX10_distances_9 rfl k_bp_8 ?_
  refine g_iload_n (n := 12) dX10_distances_11 rfl rfl ?_
  refine g_imul (n := 13) dX10_distances_12 rfl ?_
  refine g_iload_n (n := 14) dX10_distances_13 rfl rfl ?_
  refine g_iadd (n := 15) dX10_distances_14 rfl ?_
  refine g_iald (a := (8 * a + c)) (n := 16) dX10_distances_15 rfl (by decide) (z_lvP (by first | decide | assumption)) (by rw [pk_mul, nI_add]) (by show _ < 64; first | assumption | omega) ?_
  rw [e1]
  refine g_istore3 (n := 17) dX10_distances_16 rfl (by decide) rfl ?_
  refine g_iload_n (n := 18) dX10_distances_17 rfl rfl ?_
  refine g_ldc (n := 20) dX10_distances_18 rfl kc_X10_49 ?_
  refine g_icmp_lt (n := 23) (t := 27) dX10_distances_20 rfl (by decide) (fun c20 => ?_) (fun c20 => ?_)
  · rw [if_pos (show vDi V (8 * a + c) < xFAR from c20)]
    refine g_iload_n (n := 28) dX10_distances_27 rfl rfl ?_
    exact g_ireturn dX10_distances_28 rfl rfl rfl rfl
  · rw [if_neg (show ¬ vDi V (8 * a + c) < xFAR from c20)]
    refine g_iconst (n := 24) dX10_distances_23 rfl k_ic_m1 ?_
    refine g_goto (n := 0) (t := 28) dX10_distances_24 (by decide) ?_
    exact g_ireturn dX10_distances_28 rfl rfl rfl rfl
def vLx (j : Nat) : Int32 := if j ≤ 7 then nI (7 - j) else -1
theorem vLx_s {j : Nat} (h : j < 8) : nI (7 - j) + Int32.ofInt (-1) = vLx (j + 1) := by
  unfold vLx
  by_cases e : j = 7
  · subst e
    decide
  · rw [if_pos (by omega)]
    obtain ⟨q, hq⟩ : ∃ q, 7 - j = q + 1 := ⟨6 - j, by omega⟩
    rw [hq, show 7 - (j + 1) = q by omega]
    exact pk_m1 q
theorem r_next (R : RowR M 0 V) (D : rMd M V) (W : WFV V) (hs : V 66 = nI s) (h8 : s ≤ 8) (he : e < s) (ht : t < 8) : zC w mX10_next (d + 1) [vR 10 0, vI (nI t), vI (nI e)] (zP M O) (zrI (vNt (vDi V) V t (vTo V e))) (zP M O) := by
  obtain ⟨⟨q, hq, eq⟩, _, _⟩ := vEx W hs h8 he
  have e1 : M 32 0 (0 + (67 + 5 * e)) = nI q := (R _ (by omega)).trans eq
  rw [vTo_of hq eq]
  unfold vNt
  refine zC_of (cr := 0) (L0 := [vR 10 0, vI (nI t), vI (nI e), vU, vU, vU, vU]) rfl (by decide) (by decide) rfl (Nat.le_of_ble_eq_true rfl) rfl ?_
  refine g_aload_n (n := 1) dX10_next_0 rfl rfl ?_
  refine gf_X10_7 (n := 4) dX10_next_1 rfl rfl (z_lvP (by first | decide | assumption)) rfl ?_
  refine g_iconst (n := 5) dX10_next_4 rfl k_ic_0 ?_
  refine g_iload_n (n := 6) dX10_next_5 rfl rfl ?_
  refine g_cSv (n := 9) (r_exitAt 0 e) dX10_next_6 rfl kw_X10_50 (Nat.le_of_ble_eq_true rfl) ⟨Nat.le_refl _, Nat.le_refl _⟩ ?_ rfl
  refine g_iald (a := (0 + (67 + 5 * e))) (n := 10) dX10_next_9 rfl (by decide) (z_lvP (by first | decide | assumption)) rfl (by show _ < 1740; first | assumption | omega) ?_
  rw [e1]
  by_cases hne : t = q
  · rw [if_pos hne]
    refine g_istore3 (n := 11) dX10_next_10 rfl (by decide) rfl ?_
    refine g_iload_n (n := 12) dX10_next_11 rfl rfl ?_
    refine g_istore4 (n := 14) dX10_next_12 rfl (by decide) rfl ?_
    refine g_bipush (n := 16) dX10_next_14 rfl k_bp_7 ?_
    refine g_istore5 (n := 18) dX10_next_16 rfl (by decide) rfl ?_
    refine g_iload (n := 20) dX10_next_18 rfl rfl ?_
    refine g_if_lt (n := 23) (t := 93) dX10_next_20 rfl (by decide) (fun q9 => absurd q9 (by decide)) (fun _ => ?_)
    refine g_iload_n (n := 24) dX10_next_23 rfl rfl ?_
    refine g_iload_n (n := 25) dX10_next_24 rfl rfl ?_
    refine g_icmp_eq (n := 28) (t := 93) dX10_next_25 rfl (by decide) (fun _ => ?_) (fun q9 => absurd (by rw [hne]) q9)
    refine g_iload (n := 95) dX10_next_93 rfl rfl ?_
    exact g_ireturn dX10_next_95 rfl rfl rfl rfl
  · rw [if_neg hne]
    have hn2 : ¬ nI t = nI q := fun z => hne ((nI_eq (by omega) (by omega)).mp z)
    refine g_istore3 (n := 11) dX10_next_10 rfl (by decide) rfl ?_
    refine g_iload_n (n := 12) dX10_next_11 rfl rfl ?_
    refine g_istore4 (n := 14) dX10_next_12 rfl (by decide) rfl ?_
    refine g_bipush (n := 16) dX10_next_14 rfl k_bp_7 ?_
    refine g_istore5 (n := 18) dX10_next_16 rfl (by decide) rfl ?_
    refine z_loop (fun j => zG w mX10_next (d + 1) 0 18 [vR 10 0, vI (nI t), vI (nI e), vI (nI q), vI (vNf (vDi V) V t q j), vI (vLx j), vU] [] (zP M O) (zrI (vNf (vDi V) V t q 8)) (zP M O)) 8 ?_ ?_ 0 (Nat.zero_le _)
    · refine g_iload (n := 20) dX10_next_18 rfl rfl ?_
      refine g_if_lt (n := 23) (t := 93) dX10_next_20 rfl (by decide) (fun _ => ?_) (fun q9 => absurd (by decide) q9)
      refine g_iload (n := 95) dX10_next_93 rfl rfl ?_
      exact g_ireturn dX10_next_95 rfl rfl rfl rfl
    · intro j hj ih
      have lj : vLx j = nI (7 - j) := by
        unfold vLx
        rw [if_pos (by omega)]
      have e2 : M 32 0 (2 + (8 * t + (7 - j))) = V (2 + (8 * t + (7 - j))) := RowR0 R (by omega)
      have e3 : M 35 0 (8 * (7 - j) + q) = vDi V (8 * (7 - j) + q) := D _ (by omega)
      have e4 : M 35 0 (8 * t + q) = vDi V (8 * t + q) := D _ (by omega)
      have en : vNf (vDi V) V t q (j + 1) = if 0 < V (2 + (8 * t + (7 - j))) ∧ V (2 + (8 * t + (7 - j))) + vDi V (8 * (7 - j) + q) = vDi V (8 * t + q) then nI (7 - j) else vNf (vDi V) V t q j := rfl
      rw [en] at ih
      obtain ⟨c, hc⟩ : ∃ c, c = V (2 + (8 * t + (7 - j))) := ⟨_, rfl⟩
      rw [← hc] at ih e2
      rw [lj]
      have tail : ∀ f, f = (if 0 < c ∧ c + vDi V (8 * (7 - j) + q) = vDi V (8 * t + q) then nI (7 - j) else vNf (vDi V) V t q j) → zG w mX10_next (d + 1) 0 85 [vR 10 0, vI (nI t), vI (nI e), vI (nI q), vI (vNf (vDi V) V t q j), vI (nI (7 - j)), vI c] [vI f] (zP M O) (zrI (vNf (vDi V) V t q 8)) (zP M O) := by
        intro f hf
        rw [← hf] at ih
        refine g_istore4 (n := 87) dX10_next_85 rfl (by decide) rfl ?_
        refine g_iinc5 (n := 90) dX10_next_87 rfl (by decide) rfl (vLx_s hj) ?_
        refine g_goto (n := 0) (t := 18) dX10_next_90 (by decide) ?_
        refine g_drop 6 ?_
        exact ih
      refine g_iload (n := 20) dX10_next_18 rfl rfl ?_
      refine g_if_lt (n := 23) (t := 93) dX10_next_20 rfl (by decide) (fun q9 => absurd q9 (nI_pos (by omega))) (fun _ => ?_)
      refine g_iload_n (n := 24) dX10_next_23 rfl rfl ?_
      refine g_iload_n (n := 25) dX10_next_24 rfl rfl ?_
      refine g_icmp_eq (n := 28) (t := 93) dX10_next_25 rfl (by decide) (fun q9 => absurd q9 hn2) (fun _ => ?_)
      refine g_aload_n (n := 29) dX10_next_28 rfl rfl ?_
      refine gf_X10_7 (n := 32) dX10_next_29 rfl rfl (z_lvP (by first | decide | assumption)) rfl ?_
      refine g_iconst (n := 33) dX10_next_32 rfl k_ic_2 ?_
      refine g_bipush (n := 35) dX10_next_33 rfl k_bp_8 ?_
      refine g_iload_n (n := 36) dX10_next_35 rfl rfl ?_
      refine g_imul (n := 37) dX10_next_36 rfl ?_
      refine g_iadd (n := 38) dX10_next_37 rfl ?_
      refine g_iload (n := 40) dX10_next_38 rfl rfl ?_
      refine g_iadd (n := 41) dX10_next_40 rfl ?_
      refine g_iald (a := (2 + (8 * t + (7 - j)))) (n := 42) dX10_next_41 rfl (by decide) (z_lvP (by first | decide | assumption)) (by rw [pk_mul, nI_add, nI_add, Nat.add_assoc]) (by show _ < 1740; first | assumption | omega) ?_
      rw [e2]
      refine g_istore6 (n := 44) dX10_next_42 rfl (by decide) rfl ?_
      refine g_iload (n := 46) dX10_next_44 rfl rfl ?_
      refine g_if_le (n := 49) (t := 83) dX10_next_46 rfl (by decide) (fun c46 => ?_) (fun c46 => ?_)
      · refine g_iload (n := 85) dX10_next_83 rfl rfl ?_
        exact tail _ (by rw [if_neg (fun z => absurd z.1 (Int32.not_lt.mpr c46))])
      · refine g_iload (n := 51) dX10_next_49 rfl rfl ?_
        refine g_aload_n (n := 52) dX10_next_51 rfl rfl ?_
        refine gf_X10_21 (n := 55) dX10_next_52 rfl rfl (z_lvP (by first | decide | assumption)) rfl ?_
        refine g_bipush (n := 57) dX10_next_55 rfl k_bp_8 ?_
        refine g_iload (n := 59) dX10_next_57 rfl rfl ?_
        refine g_imul (n := 60) dX10_next_59 rfl ?_
        refine g_iload_n (n := 61) dX10_next_60 rfl rfl ?_
        refine g_iadd (n := 62) dX10_next_61 rfl ?_
        refine g_iald (a := (8 * (7 - j) + q)) (n := 63) dX10_next_62 rfl (by decide) (z_lvP (by first | decide | assumption)) (by rw [pk_mul, nI_add]) (by show _ < 64; first | assumption | omega) ?_
        rw [e3]
        refine g_iadd (n := 64) dX10_next_63 rfl ?_
        refine g_aload_n (n := 65) dX10_next_64 rfl rfl ?_
        refine gf_X10_21 (n := 68) dX10_next_65 rfl rfl (z_lvP (by first | decide | assumption)) rfl ?_
        refine g_bipush (n := 70) dX10_next_68 rfl k_bp_8 ?_
        refine g_iload_n (n := 71) dX10_next_70 rfl rfl ?_
        refine g_imul (n := 72) dX10_next_71 rfl ?_
        refine g_iload_n (n := 73) dX10_next_72 rfl rfl ?_
        refine g_iadd (n := 74) dX10_next_73 rfl ?_
        refine g_iald (a := (8 * t + q)) (n := 75) dX10_next_74 rfl (by decide) (z_lvP (by first | decide | assumption)) (by rw [pk_mul, nI_add]) (by show _ < 64; first | assumption | omega) ?_
        rw [e4]
        refine g_icmp_ne (n := 78) (t := 83) dX10_next_75 rfl (by decide) (fun c75 => ?_) (fun c75 => ?_)
        · refine g_iload (n := 85) dX10_next_83 rfl rfl ?_
          exact tail _ (by rw [if_neg (fun z => c75 z.2)])
        · refine g_iload (n := 80) dX10_next_78 rfl rfl ?_
          refine g_goto (n := 0) (t := 85) dX10_next_80 (by decide) ?_
          exact tail _ (by rw [if_pos ⟨Int32.not_le.mp c46, c75⟩])
/-- the six numbers of a choice -/
def vCh (V : Nat → Int32) (s t h v : Nat) : Int32 := match v with
  | 0 => vCho (vDi V) V s t h
  | 1 => vDe (vDi V) V s t h
  | 2 => vGd (vDi V) V s t h 3
  | 3 => vGd (vDi V) V s t h 1
  | 4 => V (139 + (4 * t + h))
  | _ => if vCho (vDi V) V s t h < 0 then -1 else vNt (vDi V) V t (vTo V (vCho (vDi V) V s t h).toNatClampNeg)
theorem r_choices {v : Nat} (R : RowR M 0 V) (W : WFV V) (hs : V 66 = nI s) (h8 : s ≤ 8) (ht : t < 8) (hh : h < 4) (hv : v < 6) : zC w mX10_choices (d + 6) [vR 10 0, vI (nI t), vI (nI h), vI (nI v)] (zP M O) (zrI (vCh V s t h v)) (zP (mMea M 0) O) := by
  have cm := r_measures (w := w) (d := d + 5) (M := M) (O := O) (b := 0) (by decide)
  have hd : rMd (mMea M 0) V := rMd_mea R
  have hb : RowR (mMea M 0) 0 V := R
  obtain ⟨B, hB⟩ : ∃ B, B = mMea M 0 := ⟨_, rfl⟩
  rw [← hB] at cm hd hb ⊢
  have cc := r_choosesV (w := w) (d := d) (O := O) hb hd W hs h8 (by decide) ht hh
  refine zC_of (cr := 0) (L0 := [vR 10 0, vI (nI t), vI (nI h), vI (nI v), vU]) rfl (by decide) (by decide) rfl (Nat.le_of_ble_eq_true rfl) rfl ?_
  refine g_aload_n (n := 1) dX10_choices_0 rfl rfl ?_
  refine g_iconst (n := 2) dX10_choices_1 rfl k_ic_0 ?_
  refine g_cVn (n := 5) cm dX10_choices_2 rfl kw_X10_76 rfl (by decide) (z_lvP (by first | decide | assumption)) (Nat.le_of_ble_eq_true rfl) ⟨Nat.le_refl _, Nat.le_refl _⟩ ?_ rfl
  refine g_aload_n (n := 6) dX10_choices_5 rfl rfl ?_
  refine g_iconst (n := 7) dX10_choices_6 rfl k_ic_0 ?_
  refine g_iload_n (n := 8) dX10_choices_7 rfl rfl ?_
  refine g_iload_n (n := 9) dX10_choices_8 rfl rfl ?_
  refine g_cVv (n := 12) cc dX10_choices_9 rfl kw_X10_80 rfl (by decide) (z_lvP (by first | decide | assumption)) (Nat.le_of_ble_eq_true rfl) ⟨Nat.le_refl _, Nat.le_refl _⟩ ?_ rfl
  refine g_istore4 (n := 14) dX10_choices_12 rfl (by decide) rfl ?_
  have e0 : vCh V s t h 1 = if vCho (vDi V) V s t h < 0 then -1 else vFar (vDi V) V t (vCho (vDi V) V s t h).toNatClampNeg := rfl
  have e5 : vCh V s t h 5 = if vCho (vDi V) V s t h < 0 then -1 else vNt (vDi V) V t (vTo V (vCho (vDi V) V s t h).toNatClampNeg) := rfl
  match v, hv with
  | 0, _ =>
    refine g_iload_n (n := 15) dX10_choices_14 rfl rfl ?_
    refine g_tabIn (n := 0) (t := 48) dX10_choices_15 (by decide) (by decide) rfl (by decide) ?_
    refine g_iload (n := 50) dX10_choices_48 rfl rfl ?_
    exact g_ireturn dX10_choices_50 rfl rfl rfl rfl
  | 1, _ =>
    rw [e0]
    rcases vCho_in2 W hs h8 ht hh with a | ⟨e, he, a⟩
    · rw [a]
      refine g_iload_n (n := 15) dX10_choices_14 rfl rfl ?_
      refine g_tabIn (n := 0) (t := 51) dX10_choices_15 (by decide) (by decide) rfl (by decide) ?_
      refine g_iload (n := 53) dX10_choices_51 rfl rfl ?_
      refine g_if_ge (n := 56) (t := 60) dX10_choices_53 rfl (by decide) (fun q9 => absurd q9 (by decide)) (fun _ => ?_)
      refine g_iconst (n := 57) dX10_choices_56 rfl k_ic_m1 ?_
      refine g_goto (n := 0) (t := 68) dX10_choices_57 (by decide) ?_
      exact g_ireturn dX10_choices_68 rfl rfl rfl rfl
    · have cf := r_farOfV (w := w) (d := d + 4) (O := O) hb hd W hs h8 (by decide) he ht
      rw [a, if_neg (nI_pos (by omega)), nI_clamp (by omega)]
      refine g_iload_n (n := 15) dX10_choices_14 rfl rfl ?_
      refine g_tabIn (n := 0) (t := 51) dX10_choices_15 (by decide) (by decide) rfl (by decide) ?_
      refine g_iload (n := 53) dX10_choices_51 rfl rfl ?_
      refine g_if_ge (n := 56) (t := 60) dX10_choices_53 rfl (by decide) (fun _ => ?_) (fun q9 => absurd (nI_pos' (by omega)) q9)
      refine g_aload_n (n := 61) dX10_choices_60 rfl rfl ?_
      refine g_iconst (n := 62) dX10_choices_61 rfl k_ic_0 ?_
      refine g_iload_n (n := 63) dX10_choices_62 rfl rfl ?_
      refine g_iload (n := 65) dX10_choices_63 rfl rfl ?_
      refine g_cVv (n := 68) cf dX10_choices_65 rfl kw_X10_58 rfl (by decide) (z_lvP (by first | decide | assumption)) (Nat.le_of_ble_eq_true rfl) ⟨Nat.le_refl _, Nat.le_refl _⟩ ?_ rfl
      exact g_ireturn dX10_choices_68 rfl rfl rfl rfl
  | 2, _ =>
    refine g_iload_n (n := 15) dX10_choices_14 rfl rfl ?_
    refine g_tabIn (n := 0) (t := 69) dX10_choices_15 (by decide) (by decide) rfl (by decide) ?_
    refine g_aload_n (n := 70) dX10_choices_69 rfl rfl ?_
    refine g_iconst (n := 71) dX10_choices_70 rfl k_ic_0 ?_
    refine g_iload_n (n := 72) dX10_choices_71 rfl rfl ?_
    refine g_iload_n (n := 73) dX10_choices_72 rfl rfl ?_
    refine g_iconst (n := 74) dX10_choices_73 rfl k_ic_3 ?_
    refine g_cVv (n := 77) (r_gradedV hb hd W hs h8 (by decide) ht hh 3) dX10_choices_74 rfl kw_X10_73 rfl (by decide) (z_lvP (by first | decide | assumption)) (Nat.le_of_ble_eq_true rfl) ⟨Nat.le_refl _, Nat.le_refl _⟩ ?_ rfl
    exact g_ireturn dX10_choices_77 rfl rfl rfl rfl
  | 3, _ =>
    refine g_iload_n (n := 15) dX10_choices_14 rfl rfl ?_
    refine g_tabIn (n := 0) (t := 78) dX10_choices_15 (by decide) (by decide) rfl (by decide) ?_
    refine g_aload_n (n := 79) dX10_choices_78 rfl rfl ?_
    refine g_iconst (n := 80) dX10_choices_79 rfl k_ic_0 ?_
    refine g_iload_n (n := 81) dX10_choices_80 rfl rfl ?_
    refine g_iload_n (n := 82) dX10_choices_81 rfl rfl ?_
    refine g_iconst (n := 83) dX10_choices_82 rfl k_ic_1 ?_
    refine g_cVv (n := 86) (r_gradedV hb hd W hs h8 (by decide) ht hh 1) dX10_choices_83 rfl kw_X10_73 rfl (by decide) (z_lvP (by first | decide | assumption)) (Nat.le_of_ble_eq_true rfl) ⟨Nat.le_refl _, Nat.le_refl _⟩ ?_ rfl
    exact g_ireturn dX10_choices_86 rfl rfl rfl rfl
  | 4, _ =>
    have e4 : B 32 0 (139 + (4 * t + h)) = V (139 + (4 * t + h)) := RowR0 hb (by omega)
    refine g_iload_n (n := 15) dX10_choices_14 rfl rfl ?_
    refine g_tabIn (n := 0) (t := 87) dX10_choices_15 (by decide) (by decide) rfl (by decide) ?_
    refine g_aload_n (n := 88) dX10_choices_87 rfl rfl ?_
    refine gf_X10_7 (n := 91) dX10_choices_88 rfl rfl (z_lvP (by first | decide | assumption)) rfl ?_
    refine g_sipush (n := 94) dX10_choices_91 rfl k_sp_139 ?_
    refine g_iconst (n := 95) dX10_choices_94 rfl k_ic_4 ?_
    refine g_iload_n (n := 96) dX10_choices_95 rfl rfl ?_
    refine g_imul (n := 97) dX10_choices_96 rfl ?_
    refine g_iadd (n := 98) dX10_choices_97 rfl ?_
    refine g_iload_n (n := 99) dX10_choices_98 rfl rfl ?_
    refine g_iadd (n := 100) dX10_choices_99 rfl ?_
    refine g_iald (a := (139 + (4 * t + h))) (n := 101) dX10_choices_100 rfl (by decide) (z_lvP (by first | decide | assumption)) (by rw [pk_mul, nI_add, nI_add, Nat.add_assoc]) (by show _ < 1740; first | assumption | omega) ?_
    rw [e4]
    exact g_ireturn dX10_choices_101 rfl rfl rfl rfl
  | 5, _ =>
    rw [e5]
    rcases vCho_in2 W hs h8 ht hh with a | ⟨e, he, a⟩
    · rw [a]
      refine g_iload_n (n := 15) dX10_choices_14 rfl rfl ?_
      refine g_tabOut (n := 0) (t := 102) dX10_choices_15 (Or.inr (by decide)) (by decide) ?_
      refine g_iload (n := 104) dX10_choices_102 rfl rfl ?_
      refine g_if_ge (n := 107) (t := 111) dX10_choices_104 rfl (by decide) (fun q9 => absurd q9 (by decide)) (fun _ => ?_)
      refine g_iconst (n := 108) dX10_choices_107 rfl k_ic_m1 ?_
      refine g_goto (n := 0) (t := 118) dX10_choices_108 (by decide) ?_
      exact g_ireturn dX10_choices_118 rfl rfl rfl rfl
    · have cn := r_next (w := w) (d := d + 4) (O := O) hb hd W hs h8 he ht
      rw [a, if_neg (nI_pos (by omega)), nI_clamp (by omega)]
      refine g_iload_n (n := 15) dX10_choices_14 rfl rfl ?_
      refine g_tabOut (n := 0) (t := 102) dX10_choices_15 (Or.inr (by decide)) (by decide) ?_
      refine g_iload (n := 104) dX10_choices_102 rfl rfl ?_
      refine g_if_ge (n := 107) (t := 111) dX10_choices_104 rfl (by decide) (fun _ => ?_) (fun q9 => absurd (nI_pos' (by omega)) q9)
      refine g_aload_n (n := 112) dX10_choices_111 rfl rfl ?_
      refine g_iload_n (n := 113) dX10_choices_112 rfl rfl ?_
      refine g_iload (n := 115) dX10_choices_113 rfl rfl ?_
      refine g_cVv (n := 118) cn dX10_choices_115 rfl kw_X10_160 rfl (by decide) (z_lvP (by first | decide | assumption)) (Nat.le_of_ble_eq_true rfl) ⟨Nat.le_refl _, Nat.le_refl _⟩ ?_ rfl
      exact g_ireturn dX10_choices_118 rfl rfl rfl rfl
theorem r_reason (R : RowR M 0 V) (W : WFV V) (hs : V 66 = nI s) (h8 : s ≤ 8) (ht : t < 8) (hh : h < 4) (he : e < s) : zC w mX10_reason (d + 6) [vR 10 0, vI (nI t), vI (nI h), vI (nI e)] (zP M O) (zrI (vRe (vDi V) V s t h e)) (zP (mMea M 0) O) := by
  have cm := r_measures (w := w) (d := d + 5) (M := M) (O := O) (b := 0) (by decide)
  have hd : rMd (mMea M 0) V := rMd_mea R
  have hb : RowR (mMea M 0) 0 V := R
  obtain ⟨B, hB⟩ : ∃ B, B = mMea M 0 := ⟨_, rfl⟩
  rw [← hB] at cm hd hb ⊢
  have cc := r_choosesV (w := w) (d := d) (O := O) hb hd W hs h8 (by decide) ht hh
  have cg := r_gradeV (w := w) (d := d + 2) (O := O) hb hd W hs h8 (by decide) he ht hh
  have cl := r_lengthOfV (w := w) (d := d + 4) (O := O) hb W hs h8 (by decide) he hh
  have e1 : B 32 0 (0 + (69 + 5 * e)) = V (69 + 5 * e) := hb _ (by omega)
  unfold vRe
  obtain ⟨g, hg⟩ : ∃ g, g = vGr (vDi V) V s t h e := ⟨_, rfl⟩
  obtain ⟨l, hl⟩ : ∃ l, l = vLen V h e := ⟨_, rfl⟩
  rw [← hg] at cg ⊢
  rw [← hl] at cl ⊢
  refine zC_of (cr := 0) (L0 := [vR 10 0, vI (nI t), vI (nI h), vI (nI e), vU]) rfl (by decide) (by decide) rfl (Nat.le_of_ble_eq_true rfl) rfl ?_
  refine g_aload_n (n := 1) dX10_reason_0 rfl rfl ?_
  refine g_iconst (n := 2) dX10_reason_1 rfl k_ic_0 ?_
  refine g_cVn (n := 5) cm dX10_reason_2 rfl kw_X10_76 rfl (by decide) (z_lvP (by first | decide | assumption)) (Nat.le_of_ble_eq_true rfl) ⟨Nat.le_refl _, Nat.le_refl _⟩ ?_ rfl
  refine g_aload_n (n := 6) dX10_reason_5 rfl rfl ?_
  refine g_iconst (n := 7) dX10_reason_6 rfl k_ic_0 ?_
  refine g_iload_n (n := 8) dX10_reason_7 rfl rfl ?_
  refine g_iload_n (n := 9) dX10_reason_8 rfl rfl ?_
  refine g_cVv (n := 12) cc dX10_reason_9 rfl kw_X10_80 rfl (by decide) (z_lvP (by first | decide | assumption)) (Nat.le_of_ble_eq_true rfl) ⟨Nat.le_refl _, Nat.le_refl _⟩ ?_ rfl
  refine g_iload_n (n := 13) dX10_reason_12 rfl rfl ?_
  refine g_icmp_ne (n := 16) (t := 18) dX10_reason_13 rfl (by decide) (fun c13 => ?_) (fun c13 => ?_)
  · rw [if_neg c13]
    refine g_aload_n (n := 19) dX10_reason_18 rfl rfl ?_
    refine g_iconst (n := 20) dX10_reason_19 rfl k_ic_0 ?_
    refine g_iload_n (n := 21) dX10_reason_20 rfl rfl ?_
    refine g_iload_n (n := 22) dX10_reason_21 rfl rfl ?_
    refine g_iload_n (n := 23) dX10_reason_22 rfl rfl ?_
    refine g_cVv (n := 26) cg dX10_reason_23 rfl kw_X10_69 rfl (by decide) (z_lvP (by first | decide | assumption)) (Nat.le_of_ble_eq_true rfl) ⟨Nat.le_refl _, Nat.le_refl _⟩ ?_ rfl
    refine g_istore4 (n := 28) dX10_reason_26 rfl (by decide) rfl ?_
    refine g_aload_n (n := 29) dX10_reason_28 rfl rfl ?_
    refine gf_X10_7 (n := 32) dX10_reason_29 rfl rfl (z_lvP (by first | decide | assumption)) rfl ?_
    refine g_iconst (n := 33) dX10_reason_32 rfl k_ic_0 ?_
    refine g_iload_n (n := 34) dX10_reason_33 rfl rfl ?_
    refine g_cSv (n := 37) (r_exitAt 0 e) dX10_reason_34 rfl kw_X10_50 (Nat.le_of_ble_eq_true rfl) ⟨Nat.le_refl _, Nat.le_refl _⟩ ?_ rfl
    refine g_iconst (n := 38) dX10_reason_37 rfl k_ic_2 ?_
    refine g_iadd (n := 39) dX10_reason_38 rfl ?_
    refine g_iald (a := (0 + (69 + 5 * e))) (n := 40) dX10_reason_39 rfl (by decide) (z_lvP (by first | decide | assumption)) r_ix (by show _ < 1740; first | assumption | omega) ?_
    rw [e1]
    refine g_if_ne (n := 43) (t := 47) dX10_reason_40 rfl (by decide) (fun c40 => ?_) (fun c40 => ?_)
    · rw [if_neg c40]
      refine g_aload_n (n := 48) dX10_reason_47 rfl rfl ?_
      refine g_iconst (n := 49) dX10_reason_48 rfl k_ic_0 ?_
      refine g_iload_n (n := 50) dX10_reason_49 rfl rfl ?_
      refine g_iload_n (n := 51) dX10_reason_50 rfl rfl ?_
      refine g_cVv (n := 54) cl dX10_reason_51 rfl kw_X10_54 rfl (by decide) (z_lvP (by first | decide | assumption)) (Nat.le_of_ble_eq_true rfl) ⟨Nat.le_refl _, Nat.le_refl _⟩ ?_ rfl
      refine g_if_ne (n := 57) (t := 61) dX10_reason_54 rfl (by decide) (fun c54 => ?_) (fun c54 => ?_)
      · rw [if_neg c54]
        refine g_iload (n := 63) dX10_reason_61 rfl rfl ?_
        refine g_if_ne (n := 66) (t := 70) dX10_reason_63 rfl (by decide) (fun c63 => ?_) (fun c63 => ?_)
        · rw [if_neg c63]
          refine g_iconst (n := 71) dX10_reason_70 rfl k_ic_3 ?_
          refine g_iload (n := 73) dX10_reason_71 rfl rfl ?_
          refine g_iadd (n := 74) dX10_reason_73 rfl ?_
          exact g_ireturn dX10_reason_74 rfl rfl rfl rfl
        · rw [if_pos c63]
          refine g_iconst (n := 67) dX10_reason_66 rfl k_ic_3 ?_
          refine g_goto (n := 0) (t := 74) dX10_reason_67 (by decide) ?_
          exact g_ireturn dX10_reason_74 rfl rfl rfl rfl
      · rw [if_pos c54]
        refine g_iconst (n := 58) dX10_reason_57 rfl k_ic_2 ?_
        refine g_goto (n := 0) (t := 74) dX10_reason_58 (by decide) ?_
        exact g_ireturn dX10_reason_74 rfl rfl rfl rfl
    · rw [if_pos c40]
      refine g_iconst (n := 44) dX10_reason_43 rfl k_ic_1 ?_
      refine g_goto (n := 0) (t := 74) dX10_reason_44 (by decide) ?_
      exact g_ireturn dX10_reason_74 rfl rfl rfl rfl
  · rw [if_pos c13]
    refine g_iconst (n := 17) dX10_reason_16 rfl k_ic_0 ?_
    exact g_ireturn dX10_reason_17 rfl rfl rfl rfl
end L15

