/-! The reference: lengths, distances, marks, grades, the choice. -/
/-- the row of numbers from place b on -/
abbrev rV (M : Nat → Nat → Nat → Int32) (b : Nat) : Nat → Int32 := fun j => M 32 0 (b + j)
section L10
variable {w : zWp} {d b s t h e : Nat} {M : Nat → Nat → Nat → Int32} {O : Nat → Int64}
theorem r_ix {b e j : Nat} : nI (b + (67 + 5 * e)) + nI j = nI (b + (67 + j + 5 * e)) := by
  rw [nI_add]
  congr 1
  omega
theorem r_lengthOf (W : WFV (rV M b)) (hs : rV M b 66 = nI s) (h8 : s ≤ 8) (hb : b ≤ 1566) (he : e < s) (hh : h < 4) : zC w mX10_lengthOf (d + 1) [vR 10 0, vI (nI b), vI (nI e), vI (nI h)] (zP M O) (zrI (vLen (rV M b) h e)) (zP M O) := by
  obtain ⟨_, ⟨q, hq, eq⟩, _⟩ := vEx W hs h8 he
  have e1 : M 32 0 (b + (68 + 5 * e)) = nI q := eq
  unfold vLen
  rw [vNe_of hq eq]
  refine zC_of (cr := 0) (L0 := [vR 10 0, vI (nI b), vI (nI e), vI (nI h)]) rfl (by decide) (by decide) rfl (Nat.le_of_ble_eq_true rfl) rfl ?_
  refine g_aload_n (n := 1) dX10_lengthOf_0 rfl rfl ?_
  refine gf_X10_7 (n := 4) dX10_lengthOf_1 rfl rfl (z_lvP (by first | decide | assumption)) rfl ?_
  refine g_iload_n (n := 5) dX10_lengthOf_4 rfl rfl ?_
  refine g_bipush (n := 7) dX10_lengthOf_5 rfl k_bp_107 ?_
  refine g_iadd (n := 8) dX10_lengthOf_7 rfl ?_
  refine g_iconst (n := 9) dX10_lengthOf_8 rfl k_ic_4 ?_
  refine g_aload_n (n := 10) dX10_lengthOf_9 rfl rfl ?_
  refine gf_X10_7 (n := 13) dX10_lengthOf_10 rfl rfl (z_lvP (by first | decide | assumption)) rfl ?_
  refine g_iload_n (n := 14) dX10_lengthOf_13 rfl rfl ?_
  refine g_iload_n (n := 15) dX10_lengthOf_14 rfl rfl ?_
  refine g_cSv (n := 18) (r_exitAt b e) dX10_lengthOf_15 rfl kw_X10_50 (Nat.le_of_ble_eq_true rfl) ⟨Nat.le_refl _, Nat.le_refl _⟩ ?_ rfl
  refine g_iconst (n := 19) dX10_lengthOf_18 rfl k_ic_1 ?_
  refine g_iadd (n := 20) dX10_lengthOf_19 rfl ?_
  refine g_iald (a := (b + (68 + 5 * e))) (n := 21) dX10_lengthOf_20 rfl (by decide) (z_lvP (by first | decide | assumption)) r_ix (by show _ < 1740; first | assumption | omega) ?_
  rw [e1]
  refine g_imul (n := 22) dX10_lengthOf_21 rfl ?_
  refine g_iadd (n := 23) dX10_lengthOf_22 rfl ?_
  refine g_iload_n (n := 24) dX10_lengthOf_23 rfl rfl ?_
  refine g_iadd (n := 25) dX10_lengthOf_24 rfl ?_
  refine g_iald (a := (b + (107 + (4 * q + h)))) (n := 26) dX10_lengthOf_25 rfl (by decide) (z_lvP (by first | decide | assumption)) (by rw [pk_mul, nI_add, nI_add, nI_add]; congr 1; omega) (by show _ < 1740; first | assumption | omega) ?_
  exact g_ireturn dX10_lengthOf_26 rfl rfl rfl rfl
theorem r_farOf (W : WFV (rV M b)) (hs : rV M b 66 = nI s) (h8 : s ≤ 8) (hb : b ≤ 1566) (he : e < s) (ht : t < 8) : zC w mX10_farOf (d + 1) [vR 10 0, vI (nI b), vI (nI t), vI (nI e)] (zP M O) (zrI (vFar (M 35 0) (rV M b) t e)) (zP M O) := by
  obtain ⟨⟨q, hq, eq⟩, _, _⟩ := vEx W hs h8 he
  have e1 : M 32 0 (b + (67 + 5 * e)) = nI q := eq
  unfold vFar
  rw [vTo_of hq eq]
  refine zC_of (cr := 0) (L0 := [vR 10 0, vI (nI b), vI (nI t), vI (nI e)]) rfl (by decide) (by decide) rfl (Nat.le_of_ble_eq_true rfl) rfl ?_
  refine g_aload_n (n := 1) dX10_farOf_0 rfl rfl ?_
  refine gf_X10_21 (n := 4) dX10_farOf_1 rfl rfl (z_lvP (by first | decide | assumption)) rfl ?_
  refine g_bipush (n := 6) dX10_farOf_4 rfl k_bp_8 ?_
  refine g_iload_n (n := 7) dX10_farOf_6 rfl rfl ?_
  refine g_imul (n := 8) dX10_farOf_7 rfl ?_
  refine g_aload_n (n := 9) dX10_farOf_8 rfl rfl ?_
  refine gf_X10_7 (n := 12) dX10_farOf_9 rfl rfl (z_lvP (by first | decide | assumption)) rfl ?_
  refine g_iload_n (n := 13) dX10_farOf_12 rfl rfl ?_
  refine g_iload_n (n := 14) dX10_farOf_13 rfl rfl ?_
  refine g_cSv (n := 17) (r_exitAt b e) dX10_farOf_14 rfl kw_X10_50 (Nat.le_of_ble_eq_true rfl) ⟨Nat.le_refl _, Nat.le_refl _⟩ ?_ rfl
  refine g_iald (a := (b + (67 + 5 * e))) (n := 18) dX10_farOf_17 rfl (by decide) (z_lvP (by first | decide | assumption)) rfl (by show _ < 1740; first | assumption | omega) ?_
  rw [e1]
  refine g_iadd (n := 19) dX10_farOf_18 rfl ?_
  refine g_iald (a := (8 * t + q)) (n := 20) dX10_farOf_19 rfl (by decide) (z_lvP (by first | decide | assumption)) (by rw [pk_mul, nI_add]) (by show _ < 64; first | assumption | omega) ?_
  exact g_ireturn dX10_farOf_20 rfl rfl rfl rfl
theorem r_canTake (W : WFV (rV M b)) (hs : rV M b 66 = nI s) (h8 : s ≤ 8) (hb : b ≤ 1566) (he : e < s) (ht : t < 8) (hh : h < 4) : zC w mX10_canTake (d + 2) [vR 10 0, vI (nI b), vI (nI t), vI (nI h), vI (nI e)] (zP M O) (zrI (zb (vCan (M 35 0) (rV M b) t h e))) (zP M O) := by
  have cl := r_lengthOf (w := w) (d := d) (O := O) W hs h8 hb he hh
  have cf := r_farOf (w := w) (d := d) (O := O) W hs h8 hb he ht
  unfold vCan
  obtain ⟨l, hl⟩ : ∃ l, l = vLen (rV M b) h e := ⟨_, rfl⟩
  obtain ⟨f, hf⟩ : ∃ f, f = vFar (M 35 0) (rV M b) t e := ⟨_, rfl⟩
  rw [← hl] at cl ⊢
  rw [← hf] at cf ⊢
  refine zC_of (cr := 0) (L0 := [vR 10 0, vI (nI b), vI (nI t), vI (nI h), vI (nI e)]) rfl (by decide) (by decide) rfl (Nat.le_of_ble_eq_true rfl) rfl ?_
  refine g_aload_n (n := 1) dX10_canTake_0 rfl rfl ?_
  refine gf_X10_7 (n := 4) dX10_canTake_1 rfl rfl (z_lvP (by first | decide | assumption)) rfl ?_
  refine g_iload_n (n := 5) dX10_canTake_4 rfl rfl ?_
  refine g_iload (n := 7) dX10_canTake_5 rfl rfl ?_
  refine g_cSv (n := 10) (r_exitAt b e) dX10_canTake_7 rfl kw_X10_50 (Nat.le_of_ble_eq_true rfl) ⟨Nat.le_refl _, Nat.le_refl _⟩ ?_ rfl
  refine g_iconst (n := 11) dX10_canTake_10 rfl k_ic_2 ?_
  refine g_iadd (n := 12) dX10_canTake_11 rfl ?_
  refine g_iald (a := (b + (69 + 5 * e))) (n := 13) dX10_canTake_12 rfl (by decide) (z_lvP (by first | decide | assumption)) r_ix (by show _ < 1740; first | assumption | omega) ?_
  refine g_iconst (n := 14) dX10_canTake_13 rfl k_ic_1 ?_
  refine g_icmp_ne (n := 17) (t := 45) dX10_canTake_14 rfl (by decide) (fun c14 => ?_) (fun c14 => ?_)
  · rw [decide_eq_false (show ¬ M 32 0 (b + (69 + 5 * e)) = nI 1 from c14)]
    refine g_iconst (n := 46) dX10_canTake_45 rfl k_ic_0 ?_
    exact g_ireturn dX10_canTake_46 rfl rfl rfl rfl
  · rw [decide_eq_true (show M 32 0 (b + (69 + 5 * e)) = nI 1 from c14)]
    refine g_aload_n (n := 18) dX10_canTake_17 rfl rfl ?_
    refine g_iload_n (n := 19) dX10_canTake_18 rfl rfl ?_
    refine g_iload (n := 21) dX10_canTake_19 rfl rfl ?_
    refine g_iload_n (n := 22) dX10_canTake_21 rfl rfl ?_
    refine g_cVv (n := 25) cl dX10_canTake_22 rfl kw_X10_54 rfl (by decide) (z_lvP (by first | decide | assumption)) (Nat.le_of_ble_eq_true rfl) ⟨Nat.le_refl _, Nat.le_refl _⟩ ?_ rfl
    refine g_if_le (n := 28) (t := 45) dX10_canTake_25 rfl (by decide) (fun c25 => ?_) (fun c25 => ?_)
    · rw [decide_eq_false (show ¬ 0 < l from Int32.not_lt.mpr c25)]
      refine g_iconst (n := 46) dX10_canTake_45 rfl k_ic_0 ?_
      exact g_ireturn dX10_canTake_46 rfl rfl rfl rfl
    · rw [decide_eq_true (show 0 < l from Int32.not_le.mp c25)]
      refine g_aload_n (n := 29) dX10_canTake_28 rfl rfl ?_
      refine g_iload_n (n := 30) dX10_canTake_29 rfl rfl ?_
      refine g_iload_n (n := 31) dX10_canTake_30 rfl rfl ?_
      refine g_iload (n := 33) dX10_canTake_31 rfl rfl ?_
      refine g_cVv (n := 36) cf dX10_canTake_33 rfl kw_X10_58 rfl (by decide) (z_lvP (by first | decide | assumption)) (Nat.le_of_ble_eq_true rfl) ⟨Nat.le_refl _, Nat.le_refl _⟩ ?_ rfl
      refine g_ldc (n := 38) dX10_canTake_36 rfl kc_X10_49 ?_
      refine g_icmp_ge (n := 41) (t := 45) dX10_canTake_38 rfl (by decide) (fun c38 => ?_) (fun c38 => ?_)
      · rw [decide_eq_false (show ¬ f < xFAR from Int32.not_lt.mpr c38)]
        refine g_iconst (n := 46) dX10_canTake_45 rfl k_ic_0 ?_
        exact g_ireturn dX10_canTake_46 rfl rfl rfl rfl
      · rw [decide_eq_true (show f < xFAR from Int32.not_le.mp c38)]
        refine g_iconst (n := 42) dX10_canTake_41 rfl k_ic_1 ?_
        refine g_goto (n := 0) (t := 46) dX10_canTake_42 (by decide) ?_
        exact g_ireturn dX10_canTake_46 rfl rfl rfl rfl
theorem r_mark (W : WFV (rV M b)) (hs : rV M b 66 = nI s) (h8 : s ≤ 8) (hb : b ≤ 1566) (he : e < s) (ht : t < 8) (hh : h < 4) (k : Nat) : zC w mX10_mark (d + 2) [vR 10 0, vI (nI b), vI (nI t), vI (nI h), vI (nI e), vI (nI k)] (zP M O) (zrI (vMk (M 35 0) (rV M b) t h e k)) (zP M O) := by
  have cl := r_lengthOf (w := w) (d := d) (O := O) W hs h8 hb he hh
  have cf := r_farOf (w := w) (d := d) (O := O) W hs h8 hb he ht
  unfold vMk
  refine zC_of (cr := 0) (L0 := [vR 10 0, vI (nI b), vI (nI t), vI (nI h), vI (nI e), vI (nI k)]) rfl (by decide) (by decide) rfl (Nat.le_of_ble_eq_true rfl) rfl ?_
  refine g_aload_n (n := 1) dX10_mark_0 rfl rfl ?_
  refine gf_X10_7 (n := 4) dX10_mark_1 rfl rfl (z_lvP (by first | decide | assumption)) rfl ?_
  refine g_iload_n (n := 5) dX10_mark_4 rfl rfl ?_
  refine g_iald (a := b) (n := 6) dX10_mark_5 rfl (by decide) (z_lvP (by first | decide | assumption)) rfl (by show _ < 1740; first | assumption | omega) ?_
  refine g_iload (n := 8) dX10_mark_6 rfl rfl ?_
  refine g_icmp_ne (n := 11) (t := 22) dX10_mark_8 rfl (by decide) (fun c8 => ?_) (fun c8 => ?_)
  · rw [if_neg (show ¬ rV M b 0 = nI k from c8)]
    refine g_aload_n (n := 23) dX10_mark_22 rfl rfl ?_
    refine g_iload_n (n := 24) dX10_mark_23 rfl rfl ?_
    refine g_iload_n (n := 25) dX10_mark_24 rfl rfl ?_
    refine g_iload (n := 27) dX10_mark_25 rfl rfl ?_
    refine g_cVv (n := 30) cf dX10_mark_27 rfl kw_X10_58 rfl (by decide) (z_lvP (by first | decide | assumption)) (Nat.le_of_ble_eq_true rfl) ⟨Nat.le_refl _, Nat.le_refl _⟩ ?_ rfl
    exact g_ireturn dX10_mark_30 rfl rfl rfl rfl
  · rw [if_pos (show rV M b 0 = nI k from c8)]
    refine g_aload_n (n := 12) dX10_mark_11 rfl rfl ?_
    refine g_iload_n (n := 13) dX10_mark_12 rfl rfl ?_
    refine g_iload (n := 15) dX10_mark_13 rfl rfl ?_
    refine g_iload_n (n := 16) dX10_mark_15 rfl rfl ?_
    refine g_cVv (n := 19) cl dX10_mark_16 rfl kw_X10_54 rfl (by decide) (z_lvP (by first | decide | assumption)) (Nat.le_of_ble_eq_true rfl) ⟨Nat.le_refl _, Nat.le_refl _⟩ ?_ rfl
    refine g_goto (n := 0) (t := 30) dX10_mark_19 (by decide) ?_
    exact g_ireturn dX10_mark_30 rfl rfl rfl rfl
end L10

