/-! The shelves and the history. -/
theorem z_landOf_lt {i p : Nat} (hi : i < 2) (hp : p < z_ln 29 i) : z_landOf i p < 10 := by
  unfold z_landOf
  have h : z_ln 29 i = if i = 0 then 2 else 6 := rfl
  rw [h] at hp
  split <;> simp_all <;> omega
def mPut (M : Nat → Nat → Nat → Int32) (i p j : Nat) : Nat → Nat → Nat → Int32 := u3 (mCpL M (z_landOf i p) j) 30 i p (nI 1)
def mSave (M : Nat → Nat → Nat → Int32) (o h j : Nat) : Nat → Nat → Nat → Int32 :=
  if h < 6 then u3 (mPut M 1 ((o + h) % 6) j) 2 0 2 (nI (h + 1)) else u3 (mPut M 1 ((o + h) % 6) j) 2 0 1 (nI ((o + 1) % 6))
def mRest (M : Nat → Nat → Nat → Int32) (o h j : Nat) : Nat → Nat → Nat → Int32 := mCpL (u3 M 2 0 2 (nI h)) j (z_landOf 1 ((o + h) % 6))
section LH
variable {w : zWp} {d i j p : Nat} {M : Nat → Nat → Nat → Int32} {O : Nat → Int64}
theorem z_l30 (i : Nat) : z_ln 30 i = z_ln 29 i := rfl
theorem z_l29 (i : Nat) : z_ln 29 i < 2 ^ 31 := Nat.lt_of_le_of_lt (z_ln_le _ _) (by decide)
theorem c_sat (hi : i < 2) (hp : p < z_ln 29 i) : zC w mX7_at d [vR 7 i, vI (nI p)] (zP M O) (.inl (some (vR 3 (z_landOf i p)))) (zP M O) := by
  have h9 := z_l29 i
  have hl : z_live 196 29 i := z_lvP hi
  refine zC_of (cr := 0) (L0 := [vR 7 i, vI (nI p)]) rfl (by decide) (by decide) rfl (Nat.le_of_ble_eq_true rfl) rfl ?_
  refine g_iload_n (n := 1) dX7_at_0 rfl rfl ?_
  refine g_if_lt (n := 4) (t := 22) dX7_at_1 rfl (by decide) (fun q9 => absurd q9 (nI_pos (by omega))) (fun _ => ?_)
  refine g_iload_n (n := 5) dX7_at_4 rfl rfl ?_
  refine g_aload_n (n := 6) dX7_at_5 rfl rfl ?_
  refine gf_X7_15 (n := 9) dX7_at_6 rfl rfl (z_lvP (by first | decide | assumption)) rfl ?_
  refine g_alen (n := 10) dX7_at_9 rfl (by decide) (z_lvP (by first | decide | assumption)) ?_
  refine g_icmp_ge (n := 13) (t := 22) dX7_at_10 rfl (by decide) (fun q9 => absurd q9 (nI_ge hp h9)) (fun _ => ?_)
  refine g_aload_n (n := 14) dX7_at_13 rfl rfl ?_
  refine gf_X7_15 (n := 17) dX7_at_14 rfl rfl (z_lvP (by first | decide | assumption)) rfl ?_
  refine g_iload_n (n := 18) dX7_at_17 rfl rfl ?_
  refine g_aald (a := p) (n := 19) dX7_at_18 rfl hl rfl hp rfl ?_
  refine g_goto (n := 0) (t := 23) dX7_at_19 (by decide) ?_
  exact g_areturn dX7_at_23 rfl rfl rfl
theorem c_sput (hi : i < 2) (hp : p < z_ln 29 i) (hj : j < 10) : zC w mX7_put (d + 4) [vR 7 i, vI (nI p), vR 3 j] (zP M O) zrV (zP (mPut M i p j) O) := by
  have h9 := z_l29 i
  have h10 := z_landOf_lt hi hp
  refine zC_of (cr := 0) (L0 := [vR 7 i, vI (nI p), vR 3 j, vU]) rfl (by decide) (by decide) rfl (Nat.le_of_ble_eq_true rfl) rfl ?_
  refine g_aload_n (n := 1) dX7_put_0 rfl rfl ?_
  refine g_iload_n (n := 2) dX7_put_1 rfl rfl ?_
  refine g_cVv (n := 5) (c_sat hi hp) dX7_put_2 rfl kw_X7_26 rfl (by decide) (z_lvP (by first | decide | assumption)) (Nat.le_of_ble_eq_true rfl) ⟨Nat.le_refl _, Nat.le_refl _⟩ ?_ rfl
  refine g_astore3 (n := 6) dX7_put_5 rfl (by decide) rfl ?_
  refine g_aload_n (n := 7) dX7_put_6 rfl rfl ?_
  refine g_ifnull (n := 10) dX7_put_7 rfl ?_
  refine g_iload_n (n := 11) dX7_put_10 rfl rfl ?_
  refine g_if_lt (n := 14) (t := 35) dX7_put_11 rfl (by decide) (fun q9 => absurd q9 (nI_pos (by omega))) (fun _ => ?_)
  refine g_iload_n (n := 15) dX7_put_14 rfl rfl ?_
  refine g_aload_n (n := 16) dX7_put_15 rfl rfl ?_
  refine gf_X7_21 (n := 19) dX7_put_16 rfl rfl (z_lvP (by first | decide | assumption)) rfl ?_
  refine g_alen (n := 20) dX7_put_19 rfl (by decide) (z_lvP (by first | decide | assumption)) ?_
  refine g_icmp_ge (n := 23) (t := 35) dX7_put_20 rfl (by decide) (fun q9 => absurd q9 (nI_ge hp h9)) (fun _ => ?_)
  refine g_aload_n (n := 24) dX7_put_23 rfl rfl ?_
  refine g_aload_n (n := 25) dX7_put_24 rfl rfl ?_
  refine g_cVn (n := 28) (c_lcopy h10 hj) dX7_put_25 rfl kw_X7_30 rfl (by decide) (z_lvP (by first | decide | assumption)) (Nat.le_of_ble_eq_true rfl) ⟨Nat.le_refl _, Nat.le_refl _⟩ ?_ rfl
  refine g_aload_n (n := 29) dX7_put_28 rfl rfl ?_
  refine gf_X7_21 (n := 32) dX7_put_29 rfl rfl (z_lvP (by first | decide | assumption)) rfl ?_
  refine g_iload_n (n := 33) dX7_put_32 rfl rfl ?_
  refine g_iconst (n := 34) dX7_put_33 rfl k_ic_1 ?_
  refine g_zast (a := p) (n := 35) dX7_put_34 rfl (by decide) (z_lvP (by first | decide | assumption)) rfl hp rfl ?_
  exact g_return dX7_put_35 rfl rfl rfl
theorem c_scopyTo (hi : i < 2) (hp : p < z_ln 29 i) (hj : j < 10) : zC w mX7_copyTo (d + 4) [vR 7 i, vI (nI p), vR 3 j] (zP M O) zrV (zP (mCpL M j (z_landOf i p)) O) := by
  have h10 := z_landOf_lt hi hp
  refine zC_of (cr := 0) (L0 := [vR 7 i, vI (nI p), vR 3 j, vU]) rfl (by decide) (by decide) rfl (Nat.le_of_ble_eq_true rfl) rfl ?_
  refine g_aload_n (n := 1) dX7_copyTo_0 rfl rfl ?_
  refine g_iload_n (n := 2) dX7_copyTo_1 rfl rfl ?_
  refine g_cVv (n := 5) (c_sat hi hp) dX7_copyTo_2 rfl kw_X7_26 rfl (by decide) (z_lvP (by first | decide | assumption)) (Nat.le_of_ble_eq_true rfl) ⟨Nat.le_refl _, Nat.le_refl _⟩ ?_ rfl
  refine g_astore3 (n := 6) dX7_copyTo_5 rfl (by decide) rfl ?_
  refine g_aload_n (n := 7) dX7_copyTo_6 rfl rfl ?_
  refine g_ifnull (n := 10) dX7_copyTo_7 rfl ?_
  refine g_aload_n (n := 11) dX7_copyTo_10 rfl rfl ?_
  refine g_aload_n (n := 12) dX7_copyTo_11 rfl rfl ?_
  refine g_cVn (n := 15) (c_lcopy hj h10) dX7_copyTo_12 rfl kw_X7_30 rfl (by decide) (z_lvP (by first | decide | assumption)) (Nat.le_of_ble_eq_true rfl) ⟨Nat.le_refl _, Nat.le_refl _⟩ ?_ rfl
  exact g_return dX7_copyTo_15 rfl rfl rfl
theorem c_sholds (hi : i < 2) (hp : p < z_ln 29 i) : zC w mX7_holds d [vR 7 i, vI (nI p)] (zP M O) (zrI (if M 30 i p = 0 then nI 0 else nI 1)) (zP M O) := by
  have h9 := z_l29 i
  refine zC_of (cr := 0) (L0 := [vR 7 i, vI (nI p)]) rfl (by decide) (by decide) rfl (Nat.le_of_ble_eq_true rfl) rfl ?_
  refine g_iload_n (n := 1) dX7_holds_0 rfl rfl ?_
  refine g_if_lt (n := 4) (t := 26) dX7_holds_1 rfl (by decide) (fun q9 => absurd q9 (nI_pos (by omega))) (fun _ => ?_)
  refine g_iload_n (n := 5) dX7_holds_4 rfl rfl ?_
  refine g_aload_n (n := 6) dX7_holds_5 rfl rfl ?_
  refine gf_X7_21 (n := 9) dX7_holds_6 rfl rfl (z_lvP (by first | decide | assumption)) rfl ?_
  refine g_alen (n := 10) dX7_holds_9 rfl (by decide) (z_lvP (by first | decide | assumption)) ?_
  refine g_icmp_ge (n := 13) (t := 26) dX7_holds_10 rfl (by decide) (fun q9 => absurd q9 (nI_ge hp h9)) (fun _ => ?_)
  refine g_aload_n (n := 14) dX7_holds_13 rfl rfl ?_
  refine gf_X7_21 (n := 17) dX7_holds_14 rfl rfl (z_lvP (by first | decide | assumption)) rfl ?_
  refine g_iload_n (n := 18) dX7_holds_17 rfl rfl ?_
  refine g_zald (a := p) (n := 19) dX7_holds_18 rfl (by decide) (z_lvP (by first | decide | assumption)) rfl hp ?_
  refine g_if_eq (n := 22) (t := 26) dX7_holds_19 rfl (by decide) (fun c19 => ?_) (fun c19 => ?_)
  · rw [if_pos c19]
    refine g_iconst (n := 27) dX7_holds_26 rfl k_ic_0 ?_
    exact g_ireturn dX7_holds_27 rfl rfl rfl rfl
  · rw [if_neg c19]
    refine g_iconst (n := 23) dX7_holds_22 rfl k_ic_1 ?_
    refine g_goto (n := 0) (t := 27) dX7_holds_23 (by decide) ?_
    exact g_ireturn dX7_holds_27 rfl rfl rfl rfl
theorem c_save {o h : Nat} (ho : M 2 0 1 = nI o) (hh : M 2 0 2 = nI h) (o6 : o < 6) (h6 : h ≤ 6) (hj : j < 10) : zC w mX2_save (d + 5) [vR 2 0, vR 3 j] (zP M O) zrV (zP (mSave M o h j) O) := by
  have hm : (o + h) % 6 < 6 := Nat.mod_lt _ (by decide)
  have cp := c_sput (w := w) (d := d) (i := 1) (p := (o + h) % 6) (j := j) (M := M) (O := O) (by decide) hm hj
  have s1 : (mPut M 1 ((o + h) % 6) j) 2 0 1 = nI o := ho
  have s2 : (mPut M 1 ((o + h) % 6) j) 2 0 2 = nI h := hh
  refine zC_of (cr := 0) (L0 := [vR 2 0, vR 3 j]) rfl (by decide) (by decide) rfl (Nat.le_of_ble_eq_true rfl) rfl ?_
  refine g_aload_n (n := 1) dX2_save_0 rfl rfl ?_
  refine gf_X2_14 (n := 4) dX2_save_1 rfl rfl (z_lvP (by first | decide | assumption)) rfl ?_
  refine g_aload_n (n := 5) dX2_save_4 rfl rfl ?_
  refine gf_X2_24 (n := 8) dX2_save_5 rfl rfl (z_lvP (by first | decide | assumption)) ?_
  rw [ho]
  refine g_aload_n (n := 9) dX2_save_8 rfl rfl ?_
  refine gf_X2_20 (n := 12) dX2_save_9 rfl rfl (z_lvP (by first | decide | assumption)) ?_
  rw [hh]
  refine g_iadd (n := 13) dX2_save_12 rfl ?_
  refine g_bipush (n := 15) dX2_save_13 rfl k_bp_6 ?_
  refine g_irem (n := 16) dX2_save_15 rfl (by decide) ?_
  rw [nI_add, pk_rem (d := 6) (by omega) (by decide) (by decide)]
  refine g_aload_n (n := 17) dX2_save_16 rfl rfl ?_
  refine g_cVn (n := 20) cp dX2_save_17 rfl kw_X2_27 rfl (by decide) (z_lvP (by first | decide | assumption)) (Nat.le_of_ble_eq_true rfl) ⟨Nat.le_refl _, Nat.le_refl _⟩ ?_ rfl
  obtain ⟨P, hP⟩ : ∃ P, P = mPut M 1 ((o + h) % 6) j := ⟨_, rfl⟩
  unfold mSave
  rw [← hP] at s1 s2 ⊢
  by_cases hl : h < 6
  · rw [if_pos hl]
    refine g_aload_n (n := 21) dX2_save_20 rfl rfl ?_
    refine gf_X2_20 (n := 24) dX2_save_21 rfl rfl (z_lvP (by first | decide | assumption)) ?_
    refine g_bipush (n := 26) dX2_save_24 rfl k_bp_6 ?_
    refine g_icmp_ge (n := 29) (t := 42) dX2_save_26 rfl (by decide) (fun q9 => absurd q9 (by rw [s2]; exact nI_ge hl (by decide))) (fun _ => ?_)
    refine g_aload_n (n := 30) dX2_save_29 rfl rfl ?_
    refine g_dup (n := 31) dX2_save_30 rfl rfl ?_
    refine gf_X2_20 (n := 34) dX2_save_31 rfl rfl (z_lvP (by first | decide | assumption)) ?_
    rw [s2]
    refine g_iconst (n := 35) dX2_save_34 rfl k_ic_1 ?_
    refine g_iadd (n := 36) dX2_save_35 rfl ?_
    rw [nI_add]
    refine gw_X2_20 (n := 39) dX2_save_36 rfl rfl (z_lvP (by first | decide | assumption)) ?_
    refine g_goto (n := 0) (t := 55) dX2_save_39 (by decide) ?_
    exact g_return dX2_save_55 rfl rfl rfl
  · rw [if_neg hl]
    refine g_aload_n (n := 21) dX2_save_20 rfl rfl ?_
    refine gf_X2_20 (n := 24) dX2_save_21 rfl rfl (z_lvP (by first | decide | assumption)) ?_
    refine g_bipush (n := 26) dX2_save_24 rfl k_bp_6 ?_
    refine g_icmp_ge (n := 29) (t := 42) dX2_save_26 rfl (by decide) (fun _ => ?_) (fun q9 => absurd (by rw [s2]; exact nI_le (Nat.not_lt.mp hl) (by omega)) q9)
    refine g_aload_n (n := 43) dX2_save_42 rfl rfl ?_
    refine g_aload_n (n := 44) dX2_save_43 rfl rfl ?_
    refine gf_X2_24 (n := 47) dX2_save_44 rfl rfl (z_lvP (by first | decide | assumption)) ?_
    rw [s1]
    refine g_iconst (n := 48) dX2_save_47 rfl k_ic_1 ?_
    refine g_iadd (n := 49) dX2_save_48 rfl ?_
    refine g_bipush (n := 51) dX2_save_49 rfl k_bp_6 ?_
    refine g_irem (n := 52) dX2_save_51 rfl (by decide) ?_
    rw [nI_add, pk_rem (d := 6) (by omega) (by decide) (by decide)]
    refine gw_X2_24 (n := 55) dX2_save_52 rfl rfl (z_lvP (by first | decide | assumption)) ?_
    exact g_return dX2_save_55 rfl rfl rfl
theorem c_restore {o h : Nat} (ho : M 2 0 1 = nI o) (hh : M 2 0 2 = nI (h + 1)) (o6 : o < 6) (h6 : h < 6) (hj : j < 10) : zC w mX2_restore (d + 5) [vR 2 0, vR 3 j] (zP M O) zrV (zP (mRest M o h j) O) := by
  have hm : (o + h) % 6 < 6 := Nat.mod_lt _ (by decide)
  have cp := c_scopyTo (w := w) (d := d) (i := 1) (p := (o + h) % 6) (j := j) (M := u3 M 2 0 2 (nI h)) (O := O) (by decide) hm hj
  have s1 : (u3 M 2 0 2 (nI h)) 2 0 1 = nI o := ho
  have s2 : (u3 M 2 0 2 (nI h)) 2 0 2 = nI h := rfl
  refine zC_of (cr := 0) (L0 := [vR 2 0, vR 3 j]) rfl (by decide) (by decide) rfl (Nat.le_of_ble_eq_true rfl) rfl ?_
  refine g_aload_n (n := 1) dX2_restore_0 rfl rfl ?_
  refine gf_X2_20 (n := 4) dX2_restore_1 rfl rfl (z_lvP (by first | decide | assumption)) ?_
  refine g_if_le (n := 7) (t := 37) dX2_restore_4 rfl (by decide) (fun q9 => absurd q9 (by rw [hh]; exact nI_ge (a := 0) (b := h + 1) (by omega) (by omega))) (fun _ => ?_)
  refine g_aload_n (n := 8) dX2_restore_7 rfl rfl ?_
  refine g_dup (n := 9) dX2_restore_8 rfl rfl ?_
  refine gf_X2_20 (n := 12) dX2_restore_9 rfl rfl (z_lvP (by first | decide | assumption)) ?_
  rw [hh]
  refine g_iconst (n := 13) dX2_restore_12 rfl k_ic_1 ?_
  refine g_isub (n := 14) dX2_restore_13 rfl ?_
  rw [show nI (h + 1) - nI 1 = nI h from (pk_sub (by omega)).trans rfl]
  refine gw_X2_20 (n := 17) dX2_restore_14 rfl rfl (z_lvP (by first | decide | assumption)) ?_
  obtain ⟨P, hP⟩ : ∃ P, P = u3 M 2 0 2 (nI h) := ⟨_, rfl⟩
  unfold mRest
  rw [← hP] at s1 s2 cp ⊢
  refine g_aload_n (n := 18) dX2_restore_17 rfl rfl ?_
  refine gf_X2_14 (n := 21) dX2_restore_18 rfl rfl (z_lvP (by first | decide | assumption)) rfl ?_
  refine g_aload_n (n := 22) dX2_restore_21 rfl rfl ?_
  refine gf_X2_24 (n := 25) dX2_restore_22 rfl rfl (z_lvP (by first | decide | assumption)) ?_
  rw [s1]
  refine g_aload_n (n := 26) dX2_restore_25 rfl rfl ?_
  refine gf_X2_20 (n := 29) dX2_restore_26 rfl rfl (z_lvP (by first | decide | assumption)) ?_
  rw [s2]
  refine g_iadd (n := 30) dX2_restore_29 rfl ?_
  refine g_bipush (n := 32) dX2_restore_30 rfl k_bp_6 ?_
  refine g_irem (n := 33) dX2_restore_32 rfl (by decide) ?_
  rw [nI_add, pk_rem (d := 6) (by omega) (by decide) (by decide)]
  refine g_aload_n (n := 34) dX2_restore_33 rfl rfl ?_
  refine g_cVn (n := 37) cp dX2_restore_34 rfl kw_X2_31 rfl (by decide) (z_lvP (by first | decide | assumption)) (Nat.le_of_ble_eq_true rfl) ⟨Nat.le_refl _, Nat.le_refl _⟩ ?_ rfl
  exact g_return dX2_restore_37 rfl rfl rfl
end LH

