/-! The reference's reader. -/
def tF (z : Nat → Int32) (a x y v : Int32) : Nat → Int32 := fun j => if j = 6 then a else if j = 7 then x else if j = 8 then y else if j = 9 then v else z j
theorem tF_6 {z : Nat → Int32} {a x y v b : Int32} : upd (tF z a x y v) 6 b = tF z b x y v := by
  funext j
  unfold upd tF
  by_cases h : j = 6
  · rw [if_pos h, if_pos h]
  · rw [if_neg h, if_neg h, if_neg h]
theorem tF_7 {z : Nat → Int32} {a x y v b : Int32} : upd (tF z a x y v) 7 b = tF z a b y v := by
  funext j
  unfold upd tF
  by_cases h : j = 7
  · rw [if_pos h, if_neg (by omega), if_pos h]
  · rw [if_neg h, if_neg h, if_neg h]
theorem tF_8 {z : Nat → Int32} {a x y v b : Int32} : upd (tF z a x y v) 8 b = tF z a x b v := by
  funext j
  unfold upd tF
  by_cases h : j = 8
  · rw [if_pos h, if_neg (by omega), if_neg (by omega), if_pos h]
  · rw [if_neg h, if_neg h, if_neg h]
theorem tF_9 {z : Nat → Int32} {a x y v b : Int32} : upd (tF z a x y v) 9 b = tF z a x y b := by
  funext j
  unfold upd tF
  by_cases h : j = 9
  · rw [if_pos h, if_neg (by omega), if_neg (by omega), if_neg (by omega), if_pos h]
  · rw [if_neg h, if_neg h, if_neg h]
theorem tF_id (z : Nat → Int32) : z = tF z (z 6) (z 7) (z 8) (z 9) := by
  funext j
  unfold tF
  by_cases h6 : j = 6
  · rw [if_pos h6, h6]
  · by_cases h7 : j = 7
    · rw [if_neg h6, if_pos h7, h7]
    · by_cases h8 : j = 8
      · rw [if_neg h6, if_neg h7, if_pos h8, h8]
      · by_cases h9 : j = 9
        · rw [if_neg h6, if_neg h7, if_neg h8, if_pos h9, h9]
        · rw [if_neg h6, if_neg h7, if_neg h8, if_neg h9]
theorem tF_o {z : Nat → Int32} {a x y v : Int32} {j : Nat} (h : j < 6 ∨ 10 ≤ j) : tF z a x y v j = z j := by
  unfold tF
  rw [if_neg (by omega), if_neg (by omega), if_neg (by omega), if_neg (by omega)]
/-- the reader at a place, with the three numbers that it has read -/
abbrev mT (M : Nat → Nat → Nat → Int32) (a x y v : Int32) : Nat → Nat → Nat → Int32 := u2 M 10 0 (tF (M 10 0) a x y v)
theorem mT_id (M : Nat → Nat → Nat → Int32) : mT M (M 10 0 6) (M 10 0 7) (M 10 0 8) (M 10 0 9) = M := by
  unfold mT
  rw [← tF_id, u2_id]
theorem mT_6 {M : Nat → Nat → Nat → Int32} {a x y v b : Int32} : u3 (mT M a x y v) 10 0 6 b = mT M b x y v := by
  rw [u3_u2, tF_6]
theorem mT_7 {M : Nat → Nat → Nat → Int32} {a x y v b : Int32} : u3 (mT M a x y v) 10 0 7 b = mT M a b y v := by
  rw [u3_u2, tF_7]
theorem mT_8 {M : Nat → Nat → Nat → Int32} {a x y v b : Int32} : u3 (mT M a x y v) 10 0 8 b = mT M a x b v := by
  rw [u3_u2, tF_8]
theorem mT_9 {M : Nat → Nat → Nat → Int32} {a x y v b : Int32} : u3 (mT M a x y v) 10 0 9 b = mT M a x y b := by
  rw [u3_u2, tF_9]
/-- the typed text of the reference -/
def rTx (M : Nat → Nat → Nat → Int32) (C : Nat → Nat) (n : Nat) : Prop := M 10 0 5 = nI n ∧ n ≤ 60 ∧ ∀ j, j < n → M 34 0 j = nI (C j) ∧ C j ≤ 126
section L20
variable {w : zWp} {d n a : Nat} {M : Nat → Nat → Nat → Int32} {O : Nat → Int64} {C : Nat → Nat} {x y v : Int32}
theorem r_takes (X : rTx M C n) (ha : a ≤ n) {c : Nat} (hc : c < 1000) : zC w mX10_takes d [vR 10 0, vI (nI c)] (zP (mT M (nI a) x y v) O) (zrI (zb (ch C n c a))) (zP (mT M (nI (if ch C n c a then a + 1 else a)) x y v) O) := by
  obtain ⟨X1, X2, X3⟩ := X
  have e5 : mT M (nI a) x y v 10 0 5 = nI n := X1
  have e6 : mT M (nI a) x y v 10 0 6 = nI a := rfl
  have tail : ∀ b : Bool, ch C n c a = b → zG w mX10_takes d 0 29 [vR 10 0, vI (nI c), vU] [vI (zb b)] (zP (mT M (nI a) x y v) O) (zrI (zb (ch C n c a))) (zP (mT M (nI (if ch C n c a then a + 1 else a)) x y v) O) := by
    intro b hb
    rw [hb]
    refine g_istore2 (n := 30) dX10_takes_29 rfl (by decide) rfl ?_
    refine g_aload_n (n := 31) dX10_takes_30 rfl rfl ?_
    refine g_dup (n := 32) dX10_takes_31 rfl rfl ?_
    refine gf_X10_116 (n := 35) dX10_takes_32 rfl rfl (z_lvP (by first | decide | assumption)) ?_
    rw [e6]
    cases b
    · refine g_iload_n (n := 36) dX10_takes_35 rfl rfl ?_
      refine g_if_eq (n := 39) (t := 43) dX10_takes_36 rfl (by decide) (fun _ => ?_) (fun q9 => absurd rfl q9)
      refine g_iconst (n := 44) dX10_takes_43 rfl k_ic_0 ?_
      refine g_iadd (n := 45) dX10_takes_44 rfl ?_
      refine gw_X10_116 (n := 48) dX10_takes_45 rfl rfl (z_lvP (by first | decide | assumption)) ?_
      rw [mT_6, show nI a + nI 0 = nI a from nI_add a 0]
      refine g_iload_n (n := 49) dX10_takes_48 rfl rfl ?_
      exact g_ireturn dX10_takes_49 rfl rfl rfl rfl
    · refine g_iload_n (n := 36) dX10_takes_35 rfl rfl ?_
      refine g_if_eq (n := 39) (t := 43) dX10_takes_36 rfl (by decide) (fun q9 => absurd q9 (by decide)) (fun _ => ?_)
      refine g_iconst (n := 40) dX10_takes_39 rfl k_ic_1 ?_
      refine g_goto (n := 0) (t := 44) dX10_takes_40 (by decide) ?_
      refine g_iadd (n := 45) dX10_takes_44 rfl ?_
      refine gw_X10_116 (n := 48) dX10_takes_45 rfl rfl (z_lvP (by first | decide | assumption)) ?_
      rw [mT_6, nI_add]
      refine g_iload_n (n := 49) dX10_takes_48 rfl rfl ?_
      exact g_ireturn dX10_takes_49 rfl rfl rfl rfl
  refine zC_of (cr := 0) (L0 := [vR 10 0, vI (nI c), vU]) rfl (by decide) (by decide) rfl (Nat.le_of_ble_eq_true rfl) rfl ?_
  refine g_aload_n (n := 1) dX10_takes_0 rfl rfl ?_
  refine gf_X10_116 (n := 4) dX10_takes_1 rfl rfl (z_lvP (by first | decide | assumption)) ?_
  rw [e6]
  refine g_aload_n (n := 5) dX10_takes_4 rfl rfl ?_
  refine gf_X10_113 (n := 8) dX10_takes_5 rfl rfl (z_lvP (by first | decide | assumption)) ?_
  rw [e5]
  by_cases hl : a < n
  · obtain ⟨t1, t2⟩ := X3 a hl
    refine g_icmp_ge (n := 11) (t := 28) dX10_takes_8 rfl (by decide) (fun q9 => absurd q9 (nI_ge hl (by omega))) (fun _ => ?_)
    refine g_aload_n (n := 12) dX10_takes_11 rfl rfl ?_
    refine gf_X10_17 (n := 15) dX10_takes_12 rfl rfl (z_lvP (by first | decide | assumption)) rfl ?_
    refine g_aload_n (n := 16) dX10_takes_15 rfl rfl ?_
    refine gf_X10_116 (n := 19) dX10_takes_16 rfl rfl (z_lvP (by first | decide | assumption)) ?_
    rw [e6]
    refine g_cald (a := a) (n := 20) dX10_takes_19 rfl (by decide) (z_lvP (by first | decide | assumption)) rfl (show a < 60 by omega) ?_
    rw [show mT M (nI a) x y v 34 0 a = nI (C a) from t1]
    refine g_iload_n (n := 21) dX10_takes_20 rfl rfl ?_
    refine g_icmp_ne (n := 24) (t := 28) dX10_takes_21 rfl (by decide) (fun c21 => ?_) (fun c21 => ?_)
    · refine g_iconst (n := 29) dX10_takes_28 rfl k_ic_0 ?_
      exact tail false (decide_eq_false (fun q => c21 (by rw [q.2])))
    · refine g_iconst (n := 25) dX10_takes_24 rfl k_ic_1 ?_
      refine g_goto (n := 0) (t := 29) dX10_takes_25 (by decide) ?_
      exact tail true (decide_eq_true ⟨hl, (nI_eq (by omega) (by omega)).mp c21⟩)
  · refine g_icmp_ge (n := 11) (t := 28) dX10_takes_8 rfl (by decide) (fun _ => ?_) (fun q9 => absurd (nI_le (by omega) (by omega)) q9)
    refine g_iconst (n := 29) dX10_takes_28 rfl k_ic_0 ?_
    exact tail false (decide_eq_false (fun q => hl q.1))
theorem r_digitY (X : rTx M C n) {l u : Nat} (h48 : 48 ≤ l) (hu : u ≤ 57) (h : dg C n l u a = true) : zC w mX10_digit (d + 1) [vR 10 0, vI (nI l), vI (nI u)] (zP (mT M (nI a) x y v) O) (zrI (nI (C a - 48))) (zP (mT M (nI (a + 1)) x y v) O) := by
  obtain ⟨X1, X2, X3⟩ := X
  have e5 : mT M (nI a) x y v 10 0 5 = nI n := X1
  have e6 : mT M (nI a) x y v 10 0 6 = nI a := rfl
  obtain ⟨hl, h1, h2⟩ := of_decide_eq_true h
  obtain ⟨t1, t2⟩ := X3 a hl
  have et : mT M (nI a) x y v 34 0 a = nI (C a) := t1
  have ci := r_in (w := w) (d := d) (σ := zP (mT M (nI a) x y v) O) (nI (C a)) (nI l) (nI u)
  rw [tIn_n (by omega) (by omega) (by omega), decide_eq_true ⟨h1, h2⟩] at ci
  refine zC_of (cr := 0) (L0 := [vR 10 0, vI (nI l), vI (nI u), vU]) rfl (by decide) (by decide) rfl (Nat.le_of_ble_eq_true rfl) rfl ?_
  refine g_aload_n (n := 1) dX10_digit_0 rfl rfl ?_
  refine gf_X10_116 (n := 4) dX10_digit_1 rfl rfl (z_lvP (by first | decide | assumption)) ?_
  rw [e6]
  refine g_aload_n (n := 5) dX10_digit_4 rfl rfl ?_
  refine gf_X10_113 (n := 8) dX10_digit_5 rfl rfl (z_lvP (by first | decide | assumption)) ?_
  rw [e5]
  refine g_icmp_ge (n := 11) (t := 43) dX10_digit_8 rfl (by decide) (fun q9 => absurd q9 (nI_ge hl (by omega))) (fun _ => ?_)
  refine g_aload_n (n := 12) dX10_digit_11 rfl rfl ?_
  refine gf_X10_17 (n := 15) dX10_digit_12 rfl rfl (z_lvP (by first | decide | assumption)) rfl ?_
  refine g_aload_n (n := 16) dX10_digit_15 rfl rfl ?_
  refine gf_X10_116 (n := 19) dX10_digit_16 rfl rfl (z_lvP (by first | decide | assumption)) ?_
  rw [e6]
  refine g_cald (a := a) (n := 20) dX10_digit_19 rfl (by decide) (z_lvP (by first | decide | assumption)) rfl (show a < 60 by omega) ?_
  rw [et]
  refine g_iload_n (n := 21) dX10_digit_20 rfl rfl ?_
  refine g_iload_n (n := 22) dX10_digit_21 rfl rfl ?_
  refine g_cSv (n := 25) ci dX10_digit_22 rfl kw_X10_45 (Nat.le_of_ble_eq_true rfl) ⟨Nat.le_refl _, Nat.le_refl _⟩ ?_ rfl
  refine g_if_eq (n := 28) (t := 43) dX10_digit_25 rfl (by decide) (fun q9 => absurd q9 (by decide)) (fun _ => ?_)
  refine g_aload_n (n := 29) dX10_digit_28 rfl rfl ?_
  refine gf_X10_17 (n := 32) dX10_digit_29 rfl rfl (z_lvP (by first | decide | assumption)) rfl ?_
  refine g_aload_n (n := 33) dX10_digit_32 rfl rfl ?_
  refine gf_X10_116 (n := 36) dX10_digit_33 rfl rfl (z_lvP (by first | decide | assumption)) ?_
  rw [e6]
  refine g_cald (a := a) (n := 37) dX10_digit_36 rfl (by decide) (z_lvP (by first | decide | assumption)) rfl (show a < 60 by omega) ?_
  rw [et]
  refine g_bipush (n := 39) dX10_digit_37 rfl k_bp_48 ?_
  refine g_isub (n := 40) dX10_digit_39 rfl ?_
  rw [pk_sub (by omega)]
  refine g_goto (n := 0) (t := 44) dX10_digit_40 (by decide) ?_
  refine g_istore3 (n := 45) dX10_digit_44 rfl (by decide) rfl ?_
  refine g_aload_n (n := 46) dX10_digit_45 rfl rfl ?_
  refine g_dup (n := 47) dX10_digit_46 rfl rfl ?_
  refine gf_X10_116 (n := 50) dX10_digit_47 rfl rfl (z_lvP (by first | decide | assumption)) ?_
  rw [e6]
  refine g_iload_n (n := 51) dX10_digit_50 rfl rfl ?_
  refine g_if_ge (n := 54) (t := 58) dX10_digit_51 rfl (by decide) (fun _ => ?_) (fun q9 => absurd (nI_pos' (by omega)) q9)
  refine g_iconst (n := 59) dX10_digit_58 rfl k_ic_1 ?_
  refine g_iadd (n := 60) dX10_digit_59 rfl ?_
  rw [nI_add]
  refine gw_X10_116 (n := 63) dX10_digit_60 rfl rfl (z_lvP (by first | decide | assumption)) ?_
  rw [mT_6]
  refine g_iload_n (n := 64) dX10_digit_63 rfl rfl ?_
  exact g_ireturn dX10_digit_64 rfl rfl rfl rfl
theorem r_digitN (X : rTx M C n) (ha : a ≤ n) {l u : Nat} (hl9 : l < 1000) (hu9 : u < 1000) (h : ¬ dg C n l u a = true) : zC w mX10_digit (d + 1) [vR 10 0, vI (nI l), vI (nI u)] (zP (mT M (nI a) x y v) O) (zrI (-1)) (zP (mT M (nI a) x y v) O) := by
  obtain ⟨X1, X2, X3⟩ := X
  have e5 : mT M (nI a) x y v 10 0 5 = nI n := X1
  have e6 : mT M (nI a) x y v 10 0 6 = nI a := rfl
  have tail : zG w mX10_digit (d + 1) 0 43 [vR 10 0, vI (nI l), vI (nI u), vU] [] (zP (mT M (nI a) x y v) O) (zrI (-1)) (zP (mT M (nI a) x y v) O) := by
    refine g_iconst (n := 44) dX10_digit_43 rfl k_ic_m1 ?_
    refine g_istore3 (n := 45) dX10_digit_44 rfl (by decide) rfl ?_
    refine g_aload_n (n := 46) dX10_digit_45 rfl rfl ?_
    refine g_dup (n := 47) dX10_digit_46 rfl rfl ?_
    refine gf_X10_116 (n := 50) dX10_digit_47 rfl rfl (z_lvP (by first | decide | assumption)) ?_
    rw [e6]
    refine g_iload_n (n := 51) dX10_digit_50 rfl rfl ?_
    refine g_if_ge (n := 54) (t := 58) dX10_digit_51 rfl (by decide) (fun q9 => absurd q9 (by decide)) (fun _ => ?_)
    refine g_iconst (n := 55) dX10_digit_54 rfl k_ic_0 ?_
    refine g_goto (n := 0) (t := 59) dX10_digit_55 (by decide) ?_
    refine g_iadd (n := 60) dX10_digit_59 rfl ?_
    rw [show nI a + nI 0 = nI a from nI_add a 0]
    refine gw_X10_116 (n := 63) dX10_digit_60 rfl rfl (z_lvP (by first | decide | assumption)) ?_
    rw [mT_6]
    refine g_iload_n (n := 64) dX10_digit_63 rfl rfl ?_
    exact g_ireturn dX10_digit_64 rfl rfl rfl rfl
  refine zC_of (cr := 0) (L0 := [vR 10 0, vI (nI l), vI (nI u), vU]) rfl (by decide) (by decide) rfl (Nat.le_of_ble_eq_true rfl) rfl ?_
  refine g_aload_n (n := 1) dX10_digit_0 rfl rfl ?_
  refine gf_X10_116 (n := 4) dX10_digit_1 rfl rfl (z_lvP (by first | decide | assumption)) ?_
  rw [e6]
  refine g_aload_n (n := 5) dX10_digit_4 rfl rfl ?_
  refine gf_X10_113 (n := 8) dX10_digit_5 rfl rfl (z_lvP (by first | decide | assumption)) ?_
  rw [e5]
  by_cases hl : a < n
  · obtain ⟨t1, t2⟩ := X3 a hl
    have ci := r_in (w := w) (d := d) (σ := zP (mT M (nI a) x y v) O) (nI (C a)) (nI l) (nI u)
    rw [tIn_n (by omega) hl9 hu9, decide_eq_false (fun q => h (decide_eq_true ⟨hl, q⟩))] at ci
    refine g_icmp_ge (n := 11) (t := 43) dX10_digit_8 rfl (by decide) (fun q9 => absurd q9 (nI_ge hl (by omega))) (fun _ => ?_)
    refine g_aload_n (n := 12) dX10_digit_11 rfl rfl ?_
    refine gf_X10_17 (n := 15) dX10_digit_12 rfl rfl (z_lvP (by first | decide | assumption)) rfl ?_
    refine g_aload_n (n := 16) dX10_digit_15 rfl rfl ?_
    refine gf_X10_116 (n := 19) dX10_digit_16 rfl rfl (z_lvP (by first | decide | assumption)) ?_
    rw [e6]
    refine g_cald (a := a) (n := 20) dX10_digit_19 rfl (by decide) (z_lvP (by first | decide | assumption)) rfl (show a < 60 by omega) ?_
    rw [show mT M (nI a) x y v 34 0 a = nI (C a) from t1]
    refine g_iload_n (n := 21) dX10_digit_20 rfl rfl ?_
    refine g_iload_n (n := 22) dX10_digit_21 rfl rfl ?_
    refine g_cSv (n := 25) ci dX10_digit_22 rfl kw_X10_45 (Nat.le_of_ble_eq_true rfl) ⟨Nat.le_refl _, Nat.le_refl _⟩ ?_ rfl
    refine g_if_eq (n := 28) (t := 43) dX10_digit_25 rfl (by decide) (fun _ => ?_) (fun q9 => absurd rfl q9)
    exact tail
  · refine g_icmp_ge (n := 11) (t := 43) dX10_digit_8 rfl (by decide) (fun _ => ?_) (fun q9 => absurd (nI_le (by omega) (by omega)) q9)
    exact tail
/-- what an order tells: its letter and three numbers -/
def pV (C : Nat → Nat) (n a : Nat) (x y v : Int32) : Prop :=
  (C a = 115 → x = nI (C (a + 1) - 48) ∧ y = nI (C (a + 3) - 48) ∧ v = nI (if ch C n 42 (a + 4) then C (a + 5) - 48 else 1)) ∧
  (C a = 114 → x = nI (C (a + 1) - 48) ∧ y = nI (C (a + 2) - 48) ∧ v = nI (if C (a + 4) ≠ 48 ∧ dg C n 48 57 (a + 5) = true then 10 * (C (a + 4) - 48) + (C (a + 5) - 48) else C (a + 4) - 48)) ∧
  (C a = 120 → x = nI (C (a + 1) - 48))
theorem r_sending (X : rTx M C n) (ha : a < n) : ∃ x' y' v', zC w mX10_sending (d + 2) [vR 10 0] (zP (mT M (nI (a + 1)) x y v) O) (zrI (zb (pS C n a).2)) (zP (mT M (nI (pS C n a).1) x' y' v') O) ∧ ((pS C n a).2 = true → x' = nI (C (a + 1) - 48) ∧ y' = nI (C (a + 3) - 48) ∧ v' = nI (if ch C n 42 (a + 4) then C (a + 5) - 48 else 1)) := by
  have q7 : ∀ a x y v, mT M a x y v 10 0 7 = x := fun _ _ _ _ => rfl
  have q8 : ∀ a x y v, mT M a x y v 10 0 8 = y := fun _ _ _ _ => rfl
  have q9 : ∀ a x y v, mT M a x y v 10 0 9 = v := fun _ _ _ _ => rfl
  unfold pS
  by_cases d1 : dg C n 48 55 (a + 1) = true
  · rw [if_pos d1]
    have e1 := of_decide_eq_true d1
    by_cases d2 : ch C n 62 (a + 2) = true
    · rw [if_pos d2]
      have e2 := of_decide_eq_true d2
      have k2 := r_takes (w := w) (d := d + 1) (O := O) (a := a + 2) (x := nI (C (a + 1) - 48)) (y := y) (v := v) X (by omega) (c := 62) (by decide)
      rw [d2, if_pos rfl, show a + 2 + 1 = a + 3 from rfl] at k2
      by_cases d3 : dg C n 48 51 (a + 3) = true
      · rw [if_pos d3]
        have e3 := of_decide_eq_true d3
        have k4 := r_takes (w := w) (d := d + 1) (O := O) (a := a + 4) (x := nI (C (a + 1) - 48)) (y := nI (C (a + 3) - 48)) (v := nI 1) X (by omega) (c := 42) (by decide)
        by_cases d4 : ch C n 42 (a + 4) = true
        · rw [if_pos d4, d4, if_pos rfl]
          rw [d4, if_pos rfl, show a + 4 + 1 = a + 5 from rfl] at k4
          have e4 := of_decide_eq_true d4
          by_cases d5 : dg C n 50 57 (a + 5) = true
          · rw [if_pos d5]
            have e5 := of_decide_eq_true d5
            refine ⟨_, _, _, ?_, fun _ => ⟨rfl, rfl, rfl⟩⟩
            refine zC_of (cr := 0) (L0 := [vR 10 0]) rfl (by decide) (by decide) rfl (Nat.le_of_ble_eq_true rfl) rfl ?_
            refine g_aload_n (n := 1) dX10_sending_0 rfl rfl ?_
            refine g_aload_n (n := 2) dX10_sending_1 rfl rfl ?_
            refine g_bipush (n := 4) dX10_sending_2 rfl k_bp_48 ?_
            refine g_bipush (n := 6) dX10_sending_4 rfl k_bp_55 ?_
            refine g_cVv (n := 9) (r_digitY X (by decide) (by decide) d1) dX10_sending_6 rfl kw_X10_119 rfl (by decide) (z_lvP (by first | decide | assumption)) (Nat.le_of_ble_eq_true rfl) ⟨Nat.le_refl _, Nat.le_refl _⟩ ?_ rfl
            refine gw_X10_123 (n := 12) dX10_sending_9 rfl rfl (z_lvP (by first | decide | assumption)) ?_
            rw [mT_7]
            refine g_aload_n (n := 13) dX10_sending_12 rfl rfl ?_
            refine gf_X10_123 (n := 16) dX10_sending_13 rfl rfl (z_lvP (by first | decide | assumption)) ?_
            rw [q7]
            refine g_if_lt (n := 19) (t := 28) dX10_sending_16 rfl (by decide) (fun q9 => absurd q9 (nI_pos (by omega))) (fun _ => ?_)
            refine g_aload_n (n := 20) dX10_sending_19 rfl rfl ?_
            refine g_bipush (n := 22) dX10_sending_20 rfl k_bp_62 ?_
            refine g_cVv (n := 25) k2 dX10_sending_22 rfl kw_X10_126 rfl (by decide) (z_lvP (by first | decide | assumption)) (Nat.le_of_ble_eq_true rfl) ⟨Nat.le_refl _, Nat.le_refl _⟩ ?_ rfl
            refine g_if_ne (n := 28) (t := 30) dX10_sending_25 rfl (by decide) (fun _ => ?_) (fun q9 => absurd q9 (by decide))
            refine g_aload_n (n := 31) dX10_sending_30 rfl rfl ?_
            refine g_aload_n (n := 32) dX10_sending_31 rfl rfl ?_
            refine g_bipush (n := 34) dX10_sending_32 rfl k_bp_48 ?_
            refine g_bipush (n := 36) dX10_sending_34 rfl k_bp_51 ?_
            refine g_cVv (n := 39) (r_digitY X (by decide) (by decide) d3) dX10_sending_36 rfl kw_X10_119 rfl (by decide) (z_lvP (by first | decide | assumption)) (Nat.le_of_ble_eq_true rfl) ⟨Nat.le_refl _, Nat.le_refl _⟩ ?_ rfl
            refine gw_X10_130 (n := 42) dX10_sending_39 rfl rfl (z_lvP (by first | decide | assumption)) ?_
            rw [mT_8]
            refine g_aload_n (n := 43) dX10_sending_42 rfl rfl ?_
            refine g_iconst (n := 44) dX10_sending_43 rfl k_ic_1 ?_
            refine gw_X10_133 (n := 47) dX10_sending_44 rfl rfl (z_lvP (by first | decide | assumption)) ?_
            rw [mT_9]
            refine g_aload_n (n := 48) dX10_sending_47 rfl rfl ?_
            refine gf_X10_130 (n := 51) dX10_sending_48 rfl rfl (z_lvP (by first | decide | assumption)) ?_
            rw [q8]
            refine g_if_lt (n := 54) (t := 75) dX10_sending_51 rfl (by decide) (fun q9 => absurd q9 (nI_pos (by omega))) (fun _ => ?_)
            refine g_aload_n (n := 55) dX10_sending_54 rfl rfl ?_
            refine g_bipush (n := 57) dX10_sending_55 rfl k_bp_42 ?_
            refine g_cVv (n := 60) k4 dX10_sending_57 rfl kw_X10_126 rfl (by decide) (z_lvP (by first | decide | assumption)) (Nat.le_of_ble_eq_true rfl) ⟨Nat.le_refl _, Nat.le_refl _⟩ ?_ rfl
            refine g_if_eq (n := 63) (t := 75) dX10_sending_60 rfl (by decide) (fun q9 => absurd q9 (by decide)) (fun _ => ?_)
            refine g_aload_n (n := 64) dX10_sending_63 rfl rfl ?_
            refine g_aload_n (n := 65) dX10_sending_64 rfl rfl ?_
            refine g_bipush (n := 67) dX10_sending_65 rfl k_bp_50 ?_
            refine g_bipush (n := 69) dX10_sending_67 rfl k_bp_57 ?_
            refine g_cVv (n := 72) (r_digitY X (by decide) (by decide) d5) dX10_sending_69 rfl kw_X10_119 rfl (by decide) (z_lvP (by first | decide | assumption)) (Nat.le_of_ble_eq_true rfl) ⟨Nat.le_refl _, Nat.le_refl _⟩ ?_ rfl
            refine gw_X10_133 (n := 75) dX10_sending_72 rfl rfl (z_lvP (by first | decide | assumption)) ?_
            rw [mT_9]
            refine g_aload_n (n := 76) dX10_sending_75 rfl rfl ?_
            refine gf_X10_130 (n := 79) dX10_sending_76 rfl rfl (z_lvP (by first | decide | assumption)) ?_
            rw [q8]
            refine g_if_lt (n := 82) (t := 93) dX10_sending_79 rfl (by decide) (fun q9 => absurd q9 (nI_pos (by omega))) (fun _ => ?_)
            refine g_aload_n (n := 83) dX10_sending_82 rfl rfl ?_
            refine gf_X10_133 (n := 86) dX10_sending_83 rfl rfl (z_lvP (by first | decide | assumption)) ?_
            rw [q9]
            refine g_if_le (n := 89) (t := 93) dX10_sending_86 rfl (by decide) (fun q9 => absurd q9 (Int32.not_le.mpr (nI_lt (a := 0) (b := C (a + 5) - 48) (by omega) (by omega)))) (fun _ => ?_)
            refine g_iconst (n := 90) dX10_sending_89 rfl k_ic_1 ?_
            refine g_goto (n := 0) (t := 94) dX10_sending_90 (by decide) ?_
            exact g_ireturn dX10_sending_94 rfl rfl rfl rfl
          · rw [if_neg d5]
            refine ⟨nI (C (a + 1) - 48), nI (C (a + 3) - 48), -1, ?_, fun h => (by cases h)⟩
            refine zC_of (cr := 0) (L0 := [vR 10 0]) rfl (by decide) (by decide) rfl (Nat.le_of_ble_eq_true rfl) rfl ?_
            refine g_aload_n (n := 1) dX10_sending_0 rfl rfl ?_
            refine g_aload_n (n := 2) dX10_sending_1 rfl rfl ?_
            refine g_bipush (n := 4) dX10_sending_2 rfl k_bp_48 ?_
            refine g_bipush (n := 6) dX10_sending_4 rfl k_bp_55 ?_
            refine g_cVv (n := 9) (r_digitY X (by decide) (by decide) d1) dX10_sending_6 rfl kw_X10_119 rfl (by decide) (z_lvP (by first | decide | assumption)) (Nat.le_of_ble_eq_true rfl) ⟨Nat.le_refl _, Nat.le_refl _⟩ ?_ rfl
            refine gw_X10_123 (n := 12) dX10_sending_9 rfl rfl (z_lvP (by first | decide | assumption)) ?_
            rw [mT_7]
            refine g_aload_n (n := 13) dX10_sending_12 rfl rfl ?_
            refine gf_X10_123 (n := 16) dX10_sending_13 rfl rfl (z_lvP (by first | decide | assumption)) ?_
            rw [q7]
            refine g_if_lt (n := 19) (t := 28) dX10_sending_16 rfl (by decide) (fun q9 => absurd q9 (nI_pos (by omega))) (fun _ => ?_)
            refine g_aload_n (n := 20) dX10_sending_19 rfl rfl ?_
            refine g_bipush (n := 22) dX10_sending_20 rfl k_bp_62 ?_
            refine g_cVv (n := 25) k2 dX10_sending_22 rfl kw_X10_126 rfl (by decide) (z_lvP (by first | decide | assumption)) (Nat.le_of_ble_eq_true rfl) ⟨Nat.le_refl _, Nat.le_refl _⟩ ?_ rfl
            refine g_if_ne (n := 28) (t := 30) dX10_sending_25 rfl (by decide) (fun _ => ?_) (fun q9 => absurd q9 (by decide))
            refine g_aload_n (n := 31) dX10_sending_30 rfl rfl ?_
            refine g_aload_n (n := 32) dX10_sending_31 rfl rfl ?_
            refine g_bipush (n := 34) dX10_sending_32 rfl k_bp_48 ?_
            refine g_bipush (n := 36) dX10_sending_34 rfl k_bp_51 ?_
            refine g_cVv (n := 39) (r_digitY X (by decide) (by decide) d3) dX10_sending_36 rfl kw_X10_119 rfl (by decide) (z_lvP (by first | decide | assumption)) (Nat.le_of_ble_eq_true rfl) ⟨Nat.le_refl _, Nat.le_refl _⟩ ?_ rfl
            refine gw_X10_130 (n := 42) dX10_sending_39 rfl rfl (z_lvP (by first | decide | assumption)) ?_
            rw [mT_8]
            refine g_aload_n (n := 43) dX10_sending_42 rfl rfl ?_
            refine g_iconst (n := 44) dX10_sending_43 rfl k_ic_1 ?_
            refine gw_X10_133 (n := 47) dX10_sending_44 rfl rfl (z_lvP (by first | decide | assumption)) ?_
            rw [mT_9]
            refine g_aload_n (n := 48) dX10_sending_47 rfl rfl ?_
            refine gf_X10_130 (n := 51) dX10_sending_48 rfl rfl (z_lvP (by first | decide | assumption)) ?_
            rw [q8]
            refine g_if_lt (n := 54) (t := 75) dX10_sending_51 rfl (by decide) (fun q9 => absurd q9 (nI_pos (by omega))) (fun _ => ?_)
            refine g_aload_n (n := 55) dX10_sending_54 rfl rfl ?_
            refine g_bipush (n := 57) dX10_sending_55 rfl k_bp_42 ?_
            refine g_cVv (n := 60) k4 dX10_sending_57 rfl kw_X10_126 rfl (by decide) (z_lvP (by first | decide | assumption)) (Nat.le_of_ble_eq_true rfl) ⟨Nat.le_refl _, Nat.le_refl _⟩ ?_ rfl
            refine g_if_eq (n := 63) (t := 75) dX10_sending_60 rfl (by decide) (fun q9 => absurd q9 (by decide)) (fun _ => ?_)
            refine g_aload_n (n := 64) dX10_sending_63 rfl rfl ?_
            refine g_aload_n (n := 65) dX10_sending_64 rfl rfl ?_
            refine g_bipush (n := 67) dX10_sending_65 rfl k_bp_50 ?_
            refine g_bipush (n := 69) dX10_sending_67 rfl k_bp_57 ?_
            refine g_cVv (n := 72) (r_digitN X (by omega) (by decide) (by decide) d5) dX10_sending_69 rfl kw_X10_119 rfl (by decide) (z_lvP (by first | decide | assumption)) (Nat.le_of_ble_eq_true rfl) ⟨Nat.le_refl _, Nat.le_refl _⟩ ?_ rfl
            refine gw_X10_133 (n := 75) dX10_sending_72 rfl rfl (z_lvP (by first | decide | assumption)) ?_
            rw [mT_9]
            refine g_aload_n (n := 76) dX10_sending_75 rfl rfl ?_
            refine gf_X10_130 (n := 79) dX10_sending_76 rfl rfl (z_lvP (by first | decide | assumption)) ?_
            rw [q8]
            refine g_if_lt (n := 82) (t := 93) dX10_sending_79 rfl (by decide) (fun q9 => absurd q9 (nI_pos (by omega))) (fun _ => ?_)
            refine g_aload_n (n := 83) dX10_sending_82 rfl rfl ?_
            refine gf_X10_133 (n := 86) dX10_sending_83 rfl rfl (z_lvP (by first | decide | assumption)) ?_
            rw [q9]
            refine g_if_le (n := 89) (t := 93) dX10_sending_86 rfl (by decide) (fun _ => ?_) (fun q9 => absurd (by decide) q9)
            refine g_iconst (n := 94) dX10_sending_93 rfl k_ic_0 ?_
            exact g_ireturn dX10_sending_94 rfl rfl rfl rfl
        · rw [if_neg d4, if_neg d4]
          rw [Bool.not_eq_true] at d4
          rw [d4, if_neg (by decide)] at k4
          refine ⟨_, _, _, ?_, fun _ => ⟨rfl, rfl, rfl⟩⟩
          refine zC_of (cr := 0) (L0 := [vR 10 0]) rfl (by decide) (by decide) rfl (Nat.le_of_ble_eq_true rfl) rfl ?_
          refine g_aload_n (n := 1) dX10_sending_0 rfl rfl ?_
          refine g_aload_n (n := 2) dX10_sending_1 rfl rfl ?_
          refine g_bipush (n := 4) dX10_sending_2 rfl k_bp_48 ?_
          refine g_bipush (n := 6) dX10_sending_4 rfl k_bp_55 ?_
          refine g_cVv (n := 9) (r_digitY X (by decide) (by decide) d1) dX10_sending_6 rfl kw_X10_119 rfl (by decide) (z_lvP (by first | decide | assumption)) (Nat.le_of_ble_eq_true rfl) ⟨Nat.le_refl _, Nat.le_refl _⟩ ?_ rfl
          refine gw_X10_123 (n := 12) dX10_sending_9 rfl rfl (z_lvP (by first | decide | assumption)) ?_
          rw [mT_7]
          refine g_aload_n (n := 13) dX10_sending_12 rfl rfl ?_
          refine gf_X10_123 (n := 16) dX10_sending_13 rfl rfl (z_lvP (by first | decide | assumption)) ?_
          rw [q7]
          refine g_if_lt (n := 19) (t := 28) dX10_sending_16 rfl (by decide) (fun q9 => absurd q9 (nI_pos (by omega))) (fun _ => ?_)
          refine g_aload_n (n := 20) dX10_sending_19 rfl rfl ?_
          refine g_bipush (n := 22) dX10_sending_20 rfl k_bp_62 ?_
          refine g_cVv (n := 25) k2 dX10_sending_22 rfl kw_X10_126 rfl (by decide) (z_lvP (by first | decide | assumption)) (Nat.le_of_ble_eq_true rfl) ⟨Nat.le_refl _, Nat.le_refl _⟩ ?_ rfl
          refine g_if_ne (n := 28) (t := 30) dX10_sending_25 rfl (by decide) (fun _ => ?_) (fun q9 => absurd q9 (by decide))
          refine g_aload_n (n := 31) dX10_sending_30 rfl rfl ?_
          refine g_aload_n (n := 32) dX10_sending_31 rfl rfl ?_
          refine g_bipush (n := 34) dX10_sending_32 rfl k_bp_48 ?_
          refine g_bipush (n := 36) dX10_sending_34 rfl k_bp_51 ?_
          refine g_cVv (n := 39) (r_digitY X (by decide) (by decide) d3) dX10_sending_36 rfl kw_X10_119 rfl (by decide) (z_lvP (by first | decide | assumption)) (Nat.le_of_ble_eq_true rfl) ⟨Nat.le_refl _, Nat.le_refl _⟩ ?_ rfl
          refine gw_X10_130 (n := 42) dX10_sending_39 rfl rfl (z_lvP (by first | decide | assumption)) ?_
          rw [mT_8]
          refine g_aload_n (n := 43) dX10_sending_42 rfl rfl ?_
          refine g_iconst (n := 44) dX10_sending_43 rfl k_ic_1 ?_
          refine gw_X10_133 (n := 47) dX10_sending_44 rfl rfl (z_lvP (by first | decide | assumption)) ?_
          rw [mT_9]
          refine g_aload_n (n := 48) dX10_sending_47 rfl rfl ?_
          refine gf_X10_130 (n := 51) dX10_sending_48 rfl rfl (z_lvP (by first | decide | assumption)) ?_
          rw [q8]
          refine g_if_lt (n := 54) (t := 75) dX10_sending_51 rfl (by decide) (fun q9 => absurd q9 (nI_pos (by omega))) (fun _ => ?_)
          refine g_aload_n (n := 55) dX10_sending_54 rfl rfl ?_
          refine g_bipush (n := 57) dX10_sending_55 rfl k_bp_42 ?_
          refine g_cVv (n := 60) k4 dX10_sending_57 rfl kw_X10_126 rfl (by decide) (z_lvP (by first | decide | assumption)) (Nat.le_of_ble_eq_true rfl) ⟨Nat.le_refl _, Nat.le_refl _⟩ ?_ rfl
          refine g_if_eq (n := 63) (t := 75) dX10_sending_60 rfl (by decide) (fun _ => ?_) (fun q9 => absurd rfl q9)
          refine g_aload_n (n := 76) dX10_sending_75 rfl rfl ?_
          refine gf_X10_130 (n := 79) dX10_sending_76 rfl rfl (z_lvP (by first | decide | assumption)) ?_
          rw [q8]
          refine g_if_lt (n := 82) (t := 93) dX10_sending_79 rfl (by decide) (fun q9 => absurd q9 (nI_pos (by omega))) (fun _ => ?_)
          refine g_aload_n (n := 83) dX10_sending_82 rfl rfl ?_
          refine gf_X10_133 (n := 86) dX10_sending_83 rfl rfl (z_lvP (by first | decide | assumption)) ?_
          rw [q9]
          refine g_if_le (n := 89) (t := 93) dX10_sending_86 rfl (by decide) (fun q9 => absurd q9 (by decide)) (fun _ => ?_)
          refine g_iconst (n := 90) dX10_sending_89 rfl k_ic_1 ?_
          refine g_goto (n := 0) (t := 94) dX10_sending_90 (by decide) ?_
          exact g_ireturn dX10_sending_94 rfl rfl rfl rfl
      · rw [if_neg d3]
        refine ⟨nI (C (a + 1) - 48), -1, nI 1, ?_, fun h => (by cases h)⟩
        refine zC_of (cr := 0) (L0 := [vR 10 0]) rfl (by decide) (by decide) rfl (Nat.le_of_ble_eq_true rfl) rfl ?_
        refine g_aload_n (n := 1) dX10_sending_0 rfl rfl ?_
        refine g_aload_n (n := 2) dX10_sending_1 rfl rfl ?_
        refine g_bipush (n := 4) dX10_sending_2 rfl k_bp_48 ?_
        refine g_bipush (n := 6) dX10_sending_4 rfl k_bp_55 ?_
        refine g_cVv (n := 9) (r_digitY X (by decide) (by decide) d1) dX10_sending_6 rfl kw_X10_119 rfl (by decide) (z_lvP (by first | decide | assumption)) (Nat.le_of_ble_eq_true rfl) ⟨Nat.le_refl _, Nat.le_refl _⟩ ?_ rfl
        refine gw_X10_123 (n := 12) dX10_sending_9 rfl rfl (z_lvP (by first | decide | assumption)) ?_
        rw [mT_7]
        refine g_aload_n (n := 13) dX10_sending_12 rfl rfl ?_
        refine gf_X10_123 (n := 16) dX10_sending_13 rfl rfl (z_lvP (by first | decide | assumption)) ?_
        rw [q7]
        refine g_if_lt (n := 19) (t := 28) dX10_sending_16 rfl (by decide) (fun q9 => absurd q9 (nI_pos (by omega))) (fun _ => ?_)
        refine g_aload_n (n := 20) dX10_sending_19 rfl rfl ?_
        refine g_bipush (n := 22) dX10_sending_20 rfl k_bp_62 ?_
        refine g_cVv (n := 25) k2 dX10_sending_22 rfl kw_X10_126 rfl (by decide) (z_lvP (by first | decide | assumption)) (Nat.le_of_ble_eq_true rfl) ⟨Nat.le_refl _, Nat.le_refl _⟩ ?_ rfl
        refine g_if_ne (n := 28) (t := 30) dX10_sending_25 rfl (by decide) (fun _ => ?_) (fun q9 => absurd q9 (by decide))
        refine g_aload_n (n := 31) dX10_sending_30 rfl rfl ?_
        refine g_aload_n (n := 32) dX10_sending_31 rfl rfl ?_
        refine g_bipush (n := 34) dX10_sending_32 rfl k_bp_48 ?_
        refine g_bipush (n := 36) dX10_sending_34 rfl k_bp_51 ?_
        refine g_cVv (n := 39) (r_digitN X (by omega) (by decide) (by decide) d3) dX10_sending_36 rfl kw_X10_119 rfl (by decide) (z_lvP (by first | decide | assumption)) (Nat.le_of_ble_eq_true rfl) ⟨Nat.le_refl _, Nat.le_refl _⟩ ?_ rfl
        refine gw_X10_130 (n := 42) dX10_sending_39 rfl rfl (z_lvP (by first | decide | assumption)) ?_
        rw [mT_8]
        refine g_aload_n (n := 43) dX10_sending_42 rfl rfl ?_
        refine g_iconst (n := 44) dX10_sending_43 rfl k_ic_1 ?_
        refine gw_X10_133 (n := 47) dX10_sending_44 rfl rfl (z_lvP (by first | decide | assumption)) ?_
        rw [mT_9]
        refine g_aload_n (n := 48) dX10_sending_47 rfl rfl ?_
        refine gf_X10_130 (n := 51) dX10_sending_48 rfl rfl (z_lvP (by first | decide | assumption)) ?_
        rw [q8]
        refine g_if_lt (n := 54) (t := 75) dX10_sending_51 rfl (by decide) (fun _ => ?_) (fun q9 => absurd (by decide) q9)
        refine g_aload_n (n := 76) dX10_sending_75 rfl rfl ?_
        refine gf_X10_130 (n := 79) dX10_sending_76 rfl rfl (z_lvP (by first | decide | assumption)) ?_
        rw [q8]
        refine g_if_lt (n := 82) (t := 93) dX10_sending_79 rfl (by decide) (fun _ => ?_) (fun q9 => absurd (by decide) q9)
        refine g_iconst (n := 94) dX10_sending_93 rfl k_ic_0 ?_
        exact g_ireturn dX10_sending_94 rfl rfl rfl rfl
    · rw [if_neg d2]
      have k2 := r_takes (w := w) (d := d + 1) (O := O) (a := a + 2) (x := nI (C (a + 1) - 48)) (y := y) (v := v) X (by omega) (c := 62) (by decide)
      rw [Bool.not_eq_true] at d2
      rw [d2, if_neg (by decide)] at k2
      refine ⟨nI (C (a + 1) - 48), y, v, ?_, fun h => (by cases h)⟩
      refine zC_of (cr := 0) (L0 := [vR 10 0]) rfl (by decide) (by decide) rfl (Nat.le_of_ble_eq_true rfl) rfl ?_
      refine g_aload_n (n := 1) dX10_sending_0 rfl rfl ?_
      refine g_aload_n (n := 2) dX10_sending_1 rfl rfl ?_
      refine g_bipush (n := 4) dX10_sending_2 rfl k_bp_48 ?_
      refine g_bipush (n := 6) dX10_sending_4 rfl k_bp_55 ?_
      refine g_cVv (n := 9) (r_digitY X (by decide) (by decide) d1) dX10_sending_6 rfl kw_X10_119 rfl (by decide) (z_lvP (by first | decide | assumption)) (Nat.le_of_ble_eq_true rfl) ⟨Nat.le_refl _, Nat.le_refl _⟩ ?_ rfl
      refine gw_X10_123 (n := 12) dX10_sending_9 rfl rfl (z_lvP (by first | decide | assumption)) ?_
      rw [mT_7]
      refine g_aload_n (n := 13) dX10_sending_12 rfl rfl ?_
      refine gf_X10_123 (n := 16) dX10_sending_13 rfl rfl (z_lvP (by first | decide | assumption)) ?_
      rw [q7]
      refine g_if_lt (n := 19) (t := 28) dX10_sending_16 rfl (by decide) (fun q9 => absurd q9 (nI_pos (by omega))) (fun _ => ?_)
      refine g_aload_n (n := 20) dX10_sending_19 rfl rfl ?_
      refine g_bipush (n := 22) dX10_sending_20 rfl k_bp_62 ?_
      refine g_cVv (n := 25) k2 dX10_sending_22 rfl kw_X10_126 rfl (by decide) (z_lvP (by first | decide | assumption)) (Nat.le_of_ble_eq_true rfl) ⟨Nat.le_refl _, Nat.le_refl _⟩ ?_ rfl
      refine g_if_ne (n := 28) (t := 30) dX10_sending_25 rfl (by decide) (fun q9 => absurd rfl q9) (fun _ => ?_)
      refine g_iconst (n := 29) dX10_sending_28 rfl k_ic_0 ?_
      exact g_ireturn dX10_sending_29 rfl rfl rfl rfl
  · rw [if_neg d1]
    refine ⟨-1, y, v, ?_, fun h => (by cases h)⟩
    refine zC_of (cr := 0) (L0 := [vR 10 0]) rfl (by decide) (by decide) rfl (Nat.le_of_ble_eq_true rfl) rfl ?_
    refine g_aload_n (n := 1) dX10_sending_0 rfl rfl ?_
    refine g_aload_n (n := 2) dX10_sending_1 rfl rfl ?_
    refine g_bipush (n := 4) dX10_sending_2 rfl k_bp_48 ?_
    refine g_bipush (n := 6) dX10_sending_4 rfl k_bp_55 ?_
    refine g_cVv (n := 9) (r_digitN X (by omega) (by decide) (by decide) d1) dX10_sending_6 rfl kw_X10_119 rfl (by decide) (z_lvP (by first | decide | assumption)) (Nat.le_of_ble_eq_true rfl) ⟨Nat.le_refl _, Nat.le_refl _⟩ ?_ rfl
    refine gw_X10_123 (n := 12) dX10_sending_9 rfl rfl (z_lvP (by first | decide | assumption)) ?_
    rw [mT_7]
    refine g_aload_n (n := 13) dX10_sending_12 rfl rfl ?_
    refine gf_X10_123 (n := 16) dX10_sending_13 rfl rfl (z_lvP (by first | decide | assumption)) ?_
    rw [q7]
    refine g_if_lt (n := 19) (t := 28) dX10_sending_16 rfl (by decide) (fun _ => ?_) (fun q9 => absurd (by decide) q9)
    refine g_iconst (n := 29) dX10_sending_28 rfl k_ic_0 ?_
    exact g_ireturn dX10_sending_29 rfl rfl rfl rfl
theorem r_roading (X : rTx M C n) (ha : a < n) : ∃ x' y' v', zC w mX10_roading (d + 2) [vR 10 0] (zP (mT M (nI (a + 1)) x y v) O) (zrI (zb (pR C n a).2)) (zP (mT M (nI (pR C n a).1) x' y' v') O) ∧ ((pR C n a).2 = true → x' = nI (C (a + 1) - 48) ∧ y' = nI (C (a + 2) - 48) ∧ v' = nI (if C (a + 4) ≠ 48 ∧ dg C n 48 57 (a + 5) = true then 10 * (C (a + 4) - 48) + (C (a + 5) - 48) else C (a + 4) - 48)) := by
  have q5 : ∀ a x y v, mT M a x y v 10 0 5 = nI n := fun _ _ _ _ => X.1
  have q6 : ∀ a x y v, mT M a x y v 10 0 6 = a := fun _ _ _ _ => rfl
  have q7 : ∀ a x y v, mT M a x y v 10 0 7 = x := fun _ _ _ _ => rfl
  have q8 : ∀ a x y v, mT M a x y v 10 0 8 = y := fun _ _ _ _ => rfl
  have q9 : ∀ a x y v, mT M a x y v 10 0 9 = v := fun _ _ _ _ => rfl
  have h60 := X.2.1
  unfold pR
  by_cases d1 : dg C n 48 55 (a + 1) = true
  · rw [if_pos d1]
    have e1 := of_decide_eq_true d1
    by_cases dd : ch C n (C (a + 1)) (a + 2) = true
    · rw [if_pos dd]
      have ee := of_decide_eq_true dd
      obtain ⟨t1, t2⟩ := X.2.2 (a + 2) ee.1
      refine ⟨nI (C (a + 1) - 48), y, v, ?_, fun h => (by cases h)⟩
      refine zC_of (cr := 0) (L0 := [vR 10 0, vU]) rfl (by decide) (by decide) rfl (Nat.le_of_ble_eq_true rfl) rfl ?_
      refine g_aload_n (n := 1) dX10_roading_0 rfl rfl ?_
      refine g_aload_n (n := 2) dX10_roading_1 rfl rfl ?_
      refine g_bipush (n := 4) dX10_roading_2 rfl k_bp_48 ?_
      refine g_bipush (n := 6) dX10_roading_4 rfl k_bp_55 ?_
      refine g_cVv (n := 9) (r_digitY X (by decide) (by decide) d1) dX10_roading_6 rfl kw_X10_119 rfl (by decide) (z_lvP (by first | decide | assumption)) (Nat.le_of_ble_eq_true rfl) ⟨Nat.le_refl _, Nat.le_refl _⟩ ?_ rfl
      refine gw_X10_123 (n := 12) dX10_roading_9 rfl rfl (z_lvP (by first | decide | assumption)) ?_
      rw [mT_7]
      refine g_aload_n (n := 13) dX10_roading_12 rfl rfl ?_
      refine gf_X10_123 (n := 16) dX10_roading_13 rfl rfl (z_lvP (by first | decide | assumption)) ?_
      rw [q7]
      refine g_if_lt (n := 19) (t := 49) dX10_roading_16 rfl (by decide) (fun q9 => absurd q9 (nI_pos (by omega))) (fun _ => ?_)
      refine g_aload_n (n := 20) dX10_roading_19 rfl rfl ?_
      refine gf_X10_116 (n := 23) dX10_roading_20 rfl rfl (z_lvP (by first | decide | assumption)) ?_
      rw [q6]
      refine g_aload_n (n := 24) dX10_roading_23 rfl rfl ?_
      refine gf_X10_113 (n := 27) dX10_roading_24 rfl rfl (z_lvP (by first | decide | assumption)) ?_
      rw [q5]
      refine g_icmp_ge (n := 30) (t := 51) dX10_roading_27 rfl (by decide) (fun q9 => absurd q9 (nI_ge ee.1 (by omega))) (fun _ => ?_)
      refine g_aload_n (n := 31) dX10_roading_30 rfl rfl ?_
      refine gf_X10_17 (n := 34) dX10_roading_31 rfl rfl (z_lvP (by first | decide | assumption)) rfl ?_
      refine g_aload_n (n := 35) dX10_roading_34 rfl rfl ?_
      refine gf_X10_116 (n := 38) dX10_roading_35 rfl rfl (z_lvP (by first | decide | assumption)) ?_
      rw [q6]
      refine g_cald (a := (a + 2)) (n := 39) dX10_roading_38 rfl (by decide) (z_lvP (by first | decide | assumption)) rfl (show a + 2 < 60 by omega) ?_
      rw [show mT M (nI (a + 1 + 1)) (nI (C (a + 1) - 48)) y v 34 0 (a + 2) = nI (C (a + 2)) from t1]
      refine g_bipush (n := 41) dX10_roading_39 rfl k_bp_48 ?_
      refine g_aload_n (n := 42) dX10_roading_41 rfl rfl ?_
      refine gf_X10_123 (n := 45) dX10_roading_42 rfl rfl (z_lvP (by first | decide | assumption)) ?_
      rw [q7]
      refine g_iadd (n := 46) dX10_roading_45 rfl ?_
      rw [nI_add, show 48 + (C (a + 1) - 48) = C (a + 1) by omega]
      refine g_icmp_ne (n := 49) (t := 51) dX10_roading_46 rfl (by decide) (fun q9 => absurd (by rw [ee.2]) q9) (fun _ => ?_)
      refine g_iconst (n := 50) dX10_roading_49 rfl k_ic_0 ?_
      exact g_ireturn dX10_roading_50 rfl rfl rfl rfl
    · rw [if_neg dd]
      have go : ∀ (M2 : Nat → Nat → Nat → Int32) (r1 : zRes), zG w mX10_roading (d + 2) 0 51 [vR 10 0, vU] [] (zP (mT M (nI (a + 2)) (nI (C (a + 1) - 48)) y v) O) r1 (zP M2 O) → zG w mX10_roading (d + 2) 0 0 [vR 10 0, vU] [] (zP (mT M (nI (a + 1)) x y v) O) r1 (zP M2 O) := by
        intro M2 r1 G
        refine g_aload_n (n := 1) dX10_roading_0 rfl rfl ?_
        refine g_aload_n (n := 2) dX10_roading_1 rfl rfl ?_
        refine g_bipush (n := 4) dX10_roading_2 rfl k_bp_48 ?_
        refine g_bipush (n := 6) dX10_roading_4 rfl k_bp_55 ?_
        refine g_cVv (n := 9) (r_digitY X (by decide) (by decide) d1) dX10_roading_6 rfl kw_X10_119 rfl (by decide) (z_lvP (by first | decide | assumption)) (Nat.le_of_ble_eq_true rfl) ⟨Nat.le_refl _, Nat.le_refl _⟩ ?_ rfl
        refine gw_X10_123 (n := 12) dX10_roading_9 rfl rfl (z_lvP (by first | decide | assumption)) ?_
        rw [mT_7]
        refine g_aload_n (n := 13) dX10_roading_12 rfl rfl ?_
        refine gf_X10_123 (n := 16) dX10_roading_13 rfl rfl (z_lvP (by first | decide | assumption)) ?_
        rw [q7]
        refine g_if_lt (n := 19) (t := 49) dX10_roading_16 rfl (by decide) (fun q9 => absurd q9 (nI_pos (by omega))) (fun _ => ?_)
        refine g_aload_n (n := 20) dX10_roading_19 rfl rfl ?_
        refine gf_X10_116 (n := 23) dX10_roading_20 rfl rfl (z_lvP (by first | decide | assumption)) ?_
        rw [q6]
        refine g_aload_n (n := 24) dX10_roading_23 rfl rfl ?_
        refine gf_X10_113 (n := 27) dX10_roading_24 rfl rfl (z_lvP (by first | decide | assumption)) ?_
        rw [q5]
        by_cases hl : a + 2 < n
        · obtain ⟨t1, t2⟩ := X.2.2 (a + 2) hl
          refine g_icmp_ge (n := 30) (t := 51) dX10_roading_27 rfl (by decide) (fun q9 => absurd q9 (nI_ge hl (by omega))) (fun _ => ?_)
          refine g_aload_n (n := 31) dX10_roading_30 rfl rfl ?_
          refine gf_X10_17 (n := 34) dX10_roading_31 rfl rfl (z_lvP (by first | decide | assumption)) rfl ?_
          refine g_aload_n (n := 35) dX10_roading_34 rfl rfl ?_
          refine gf_X10_116 (n := 38) dX10_roading_35 rfl rfl (z_lvP (by first | decide | assumption)) ?_
          rw [q6]
          refine g_cald (a := (a + 2)) (n := 39) dX10_roading_38 rfl (by decide) (z_lvP (by first | decide | assumption)) rfl (show a + 2 < 60 by omega) ?_
          rw [show mT M (nI (a + 1 + 1)) (nI (C (a + 1) - 48)) y v 34 0 (a + 2) = nI (C (a + 2)) from t1]
          refine g_bipush (n := 41) dX10_roading_39 rfl k_bp_48 ?_
          refine g_aload_n (n := 42) dX10_roading_41 rfl rfl ?_
          refine gf_X10_123 (n := 45) dX10_roading_42 rfl rfl (z_lvP (by first | decide | assumption)) ?_
          rw [q7]
          refine g_iadd (n := 46) dX10_roading_45 rfl ?_
          rw [nI_add, show 48 + (C (a + 1) - 48) = C (a + 1) by omega]
          refine g_icmp_ne (n := 49) (t := 51) dX10_roading_46 rfl (by decide) (fun _ => ?_) (fun q9 => absurd q9 (fun q => dd (decide_eq_true ⟨hl, (nI_eq (by omega) (by omega)).mp q⟩)))
          exact G
        · refine g_icmp_ge (n := 30) (t := 51) dX10_roading_27 rfl (by decide) (fun _ => ?_) (fun q9 => absurd (nI_le (by omega) (by omega)) q9)
          exact G
      by_cases d2 : dg C n 48 55 (a + 2) = true
      · rw [if_pos d2]
        have e2 := of_decide_eq_true d2
        have k3 := r_takes (w := w) (d := d + 1) (O := O) (a := a + 3) (x := nI (C (a + 1) - 48)) (y := nI (C (a + 2) - 48)) (v := v) X (by omega) (c := 61) (by decide)
        by_cases d3 : ch C n 61 (a + 3) = true
        · rw [if_pos d3]
          rw [d3, if_pos rfl, show a + 3 + 1 = a + 4 from rfl] at k3
          have e3 := of_decide_eq_true d3
          by_cases d4 : dg C n 48 57 (a + 4) = true
          · rw [if_pos d4]
            have e4 := of_decide_eq_true d4
            by_cases z : C (a + 4) = 48
            · rw [if_neg (fun q => q.1 z), if_neg (fun q => q.1 z)]
              refine ⟨_, _, _, ?_, fun _ => ⟨rfl, rfl, rfl⟩⟩
              refine zC_of (cr := 0) (L0 := [vR 10 0, vU]) rfl (by decide) (by decide) rfl (Nat.le_of_ble_eq_true rfl) rfl ?_
              refine go _ _ ?_
              refine g_aload_n (n := 52) dX10_roading_51 rfl rfl ?_
              refine g_aload_n (n := 53) dX10_roading_52 rfl rfl ?_
              refine g_bipush (n := 55) dX10_roading_53 rfl k_bp_48 ?_
              refine g_bipush (n := 57) dX10_roading_55 rfl k_bp_55 ?_
              refine g_cVv (n := 60) (r_digitY X (by decide) (by decide) d2) dX10_roading_57 rfl kw_X10_119 rfl (by decide) (z_lvP (by first | decide | assumption)) (Nat.le_of_ble_eq_true rfl) ⟨Nat.le_refl _, Nat.le_refl _⟩ ?_ rfl
              refine gw_X10_130 (n := 63) dX10_roading_60 rfl rfl (z_lvP (by first | decide | assumption)) ?_
              rw [mT_8]
              refine g_aload_n (n := 64) dX10_roading_63 rfl rfl ?_
              refine gf_X10_130 (n := 67) dX10_roading_64 rfl rfl (z_lvP (by first | decide | assumption)) ?_
              rw [q8]
              refine g_if_lt (n := 70) (t := 79) dX10_roading_67 rfl (by decide) (fun q9 => absurd q9 (nI_pos (by omega))) (fun _ => ?_)
              refine g_aload_n (n := 71) dX10_roading_70 rfl rfl ?_
              refine g_bipush (n := 73) dX10_roading_71 rfl k_bp_61 ?_
              refine g_cVv (n := 76) k3 dX10_roading_73 rfl kw_X10_126 rfl (by decide) (z_lvP (by first | decide | assumption)) (Nat.le_of_ble_eq_true rfl) ⟨Nat.le_refl _, Nat.le_refl _⟩ ?_ rfl
              refine g_if_ne (n := 79) (t := 81) dX10_roading_76 rfl (by decide) (fun _ => ?_) (fun q9 => absurd q9 (by decide))
              refine g_aload_n (n := 82) dX10_roading_81 rfl rfl ?_
              refine g_aload_n (n := 83) dX10_roading_82 rfl rfl ?_
              refine g_bipush (n := 85) dX10_roading_83 rfl k_bp_48 ?_
              refine g_bipush (n := 87) dX10_roading_85 rfl k_bp_57 ?_
              refine g_cVv (n := 90) (r_digitY X (by decide) (by decide) d4) dX10_roading_87 rfl kw_X10_119 rfl (by decide) (z_lvP (by first | decide | assumption)) (Nat.le_of_ble_eq_true rfl) ⟨Nat.le_refl _, Nat.le_refl _⟩ ?_ rfl
              refine gw_X10_133 (n := 93) dX10_roading_90 rfl rfl (z_lvP (by first | decide | assumption)) ?_
              rw [mT_9]
              refine g_aload_n (n := 94) dX10_roading_93 rfl rfl ?_
              refine gf_X10_133 (n := 97) dX10_roading_94 rfl rfl (z_lvP (by first | decide | assumption)) ?_
              rw [q9]
              refine g_if_le (n := 100) (t := 111) dX10_roading_97 rfl (by decide) (fun _ => ?_) (fun q9 => absurd (by rw [z]; decide) q9)
              refine g_iconst (n := 112) dX10_roading_111 rfl k_ic_m1 ?_
              refine g_istore1 (n := 113) dX10_roading_112 rfl (by decide) rfl ?_
              refine g_aload_n (n := 114) dX10_roading_113 rfl rfl ?_
              refine g_iload_n (n := 115) dX10_roading_114 rfl rfl ?_
              refine g_if_ge (n := 118) (t := 125) dX10_roading_115 rfl (by decide) (fun q9 => absurd q9 (by decide)) (fun _ => ?_)
              refine g_aload_n (n := 119) dX10_roading_118 rfl rfl ?_
              refine gf_X10_133 (n := 122) dX10_roading_119 rfl rfl (z_lvP (by first | decide | assumption)) ?_
              rw [q9]
              refine g_goto (n := 0) (t := 134) dX10_roading_122 (by decide) ?_
              refine gw_X10_133 (n := 137) dX10_roading_134 rfl rfl (z_lvP (by first | decide | assumption)) ?_
              rw [mT_9]
              refine g_aload_n (n := 138) dX10_roading_137 rfl rfl ?_
              refine gf_X10_133 (n := 141) dX10_roading_138 rfl rfl (z_lvP (by first | decide | assumption)) ?_
              rw [q9]
              refine g_if_lt (n := 144) (t := 148) dX10_roading_141 rfl (by decide) (fun q9 => absurd q9 (nI_pos (by omega))) (fun _ => ?_)
              refine g_iconst (n := 145) dX10_roading_144 rfl k_ic_1 ?_
              refine g_goto (n := 0) (t := 149) dX10_roading_145 (by decide) ?_
              exact g_ireturn dX10_roading_149 rfl rfl rfl rfl
            · have z0 : ¬ nI (C (a + 4) - 48) ≤ 0 := Int32.not_le.mpr (nI_lt (a := 0) (by omega) (by omega))
              by_cases d5 : dg C n 48 57 (a + 5) = true
              · rw [if_pos ⟨z, d5⟩, if_pos ⟨z, d5⟩]
                have e5 := of_decide_eq_true d5
                refine ⟨_, _, _, ?_, fun _ => ⟨rfl, rfl, rfl⟩⟩
                refine zC_of (cr := 0) (L0 := [vR 10 0, vU]) rfl (by decide) (by decide) rfl (Nat.le_of_ble_eq_true rfl) rfl ?_
                refine go _ _ ?_
                refine g_aload_n (n := 52) dX10_roading_51 rfl rfl ?_
                refine g_aload_n (n := 53) dX10_roading_52 rfl rfl ?_
                refine g_bipush (n := 55) dX10_roading_53 rfl k_bp_48 ?_
                refine g_bipush (n := 57) dX10_roading_55 rfl k_bp_55 ?_
                refine g_cVv (n := 60) (r_digitY X (by decide) (by decide) d2) dX10_roading_57 rfl kw_X10_119 rfl (by decide) (z_lvP (by first | decide | assumption)) (Nat.le_of_ble_eq_true rfl) ⟨Nat.le_refl _, Nat.le_refl _⟩ ?_ rfl
                refine gw_X10_130 (n := 63) dX10_roading_60 rfl rfl (z_lvP (by first | decide | assumption)) ?_
                rw [mT_8]
                refine g_aload_n (n := 64) dX10_roading_63 rfl rfl ?_
                refine gf_X10_130 (n := 67) dX10_roading_64 rfl rfl (z_lvP (by first | decide | assumption)) ?_
                rw [q8]
                refine g_if_lt (n := 70) (t := 79) dX10_roading_67 rfl (by decide) (fun q9 => absurd q9 (nI_pos (by omega))) (fun _ => ?_)
                refine g_aload_n (n := 71) dX10_roading_70 rfl rfl ?_
                refine g_bipush (n := 73) dX10_roading_71 rfl k_bp_61 ?_
                refine g_cVv (n := 76) k3 dX10_roading_73 rfl kw_X10_126 rfl (by decide) (z_lvP (by first | decide | assumption)) (Nat.le_of_ble_eq_true rfl) ⟨Nat.le_refl _, Nat.le_refl _⟩ ?_ rfl
                refine g_if_ne (n := 79) (t := 81) dX10_roading_76 rfl (by decide) (fun _ => ?_) (fun q9 => absurd q9 (by decide))
                refine g_aload_n (n := 82) dX10_roading_81 rfl rfl ?_
                refine g_aload_n (n := 83) dX10_roading_82 rfl rfl ?_
                refine g_bipush (n := 85) dX10_roading_83 rfl k_bp_48 ?_
                refine g_bipush (n := 87) dX10_roading_85 rfl k_bp_57 ?_
                refine g_cVv (n := 90) (r_digitY X (by decide) (by decide) d4) dX10_roading_87 rfl kw_X10_119 rfl (by decide) (z_lvP (by first | decide | assumption)) (Nat.le_of_ble_eq_true rfl) ⟨Nat.le_refl _, Nat.le_refl _⟩ ?_ rfl
                refine gw_X10_133 (n := 93) dX10_roading_90 rfl rfl (z_lvP (by first | decide | assumption)) ?_
                rw [mT_9]
                refine g_aload_n (n := 94) dX10_roading_93 rfl rfl ?_
                refine gf_X10_133 (n := 97) dX10_roading_94 rfl rfl (z_lvP (by first | decide | assumption)) ?_
                rw [q9]
                refine g_if_le (n := 100) (t := 111) dX10_roading_97 rfl (by decide) (fun q9 => absurd q9 z0) (fun _ => ?_)
                refine g_aload_n (n := 101) dX10_roading_100 rfl rfl ?_
                refine g_bipush (n := 103) dX10_roading_101 rfl k_bp_48 ?_
                refine g_bipush (n := 105) dX10_roading_103 rfl k_bp_57 ?_
                refine g_cVv (n := 108) (r_digitY (a := a + 5) X (by decide) (by decide) d5) dX10_roading_105 rfl kw_X10_119 rfl (by decide) (z_lvP (by first | decide | assumption)) (Nat.le_of_ble_eq_true rfl) ⟨Nat.le_refl _, Nat.le_refl _⟩ ?_ rfl
                refine g_goto (n := 0) (t := 112) dX10_roading_108 (by decide) ?_
                refine g_istore1 (n := 113) dX10_roading_112 rfl (by decide) rfl ?_
                refine g_aload_n (n := 114) dX10_roading_113 rfl rfl ?_
                refine g_iload_n (n := 115) dX10_roading_114 rfl rfl ?_
                refine g_if_ge (n := 118) (t := 125) dX10_roading_115 rfl (by decide) (fun _ => ?_) (fun q9 => absurd (nI_pos' (by omega)) q9)
                refine g_bipush (n := 127) dX10_roading_125 rfl k_bp_10 ?_
                refine g_aload_n (n := 128) dX10_roading_127 rfl rfl ?_
                refine gf_X10_133 (n := 131) dX10_roading_128 rfl rfl (z_lvP (by first | decide | assumption)) ?_
                rw [q9]
                refine g_imul (n := 132) dX10_roading_131 rfl ?_
                refine g_iload_n (n := 133) dX10_roading_132 rfl rfl ?_
                refine g_iadd (n := 134) dX10_roading_133 rfl ?_
                rw [pk_mul, nI_add]
                refine gw_X10_133 (n := 137) dX10_roading_134 rfl rfl (z_lvP (by first | decide | assumption)) ?_
                rw [mT_9]
                refine g_aload_n (n := 138) dX10_roading_137 rfl rfl ?_
                refine gf_X10_133 (n := 141) dX10_roading_138 rfl rfl (z_lvP (by first | decide | assumption)) ?_
                rw [q9]
                refine g_if_lt (n := 144) (t := 148) dX10_roading_141 rfl (by decide) (fun q9 => absurd q9 (nI_pos (by omega))) (fun _ => ?_)
                refine g_iconst (n := 145) dX10_roading_144 rfl k_ic_1 ?_
                refine g_goto (n := 0) (t := 149) dX10_roading_145 (by decide) ?_
                exact g_ireturn dX10_roading_149 rfl rfl rfl rfl
              · rw [if_neg (fun q => d5 q.2), if_neg (fun q => d5 q.2)]
                refine ⟨_, _, _, ?_, fun _ => ⟨rfl, rfl, rfl⟩⟩
                refine zC_of (cr := 0) (L0 := [vR 10 0, vU]) rfl (by decide) (by decide) rfl (Nat.le_of_ble_eq_true rfl) rfl ?_
                refine go _ _ ?_
                refine g_aload_n (n := 52) dX10_roading_51 rfl rfl ?_
                refine g_aload_n (n := 53) dX10_roading_52 rfl rfl ?_
                refine g_bipush (n := 55) dX10_roading_53 rfl k_bp_48 ?_
                refine g_bipush (n := 57) dX10_roading_55 rfl k_bp_55 ?_
                refine g_cVv (n := 60) (r_digitY X (by decide) (by decide) d2) dX10_roading_57 rfl kw_X10_119 rfl (by decide) (z_lvP (by first | decide | assumption)) (Nat.le_of_ble_eq_true rfl) ⟨Nat.le_refl _, Nat.le_refl _⟩ ?_ rfl
                refine gw_X10_130 (n := 63) dX10_roading_60 rfl rfl (z_lvP (by first | decide | assumption)) ?_
                rw [mT_8]
                refine g_aload_n (n := 64) dX10_roading_63 rfl rfl ?_
                refine gf_X10_130 (n := 67) dX10_roading_64 rfl rfl (z_lvP (by first | decide | assumption)) ?_
                rw [q8]
                refine g_if_lt (n := 70) (t := 79) dX10_roading_67 rfl (by decide) (fun q9 => absurd q9 (nI_pos (by omega))) (fun _ => ?_)
                refine g_aload_n (n := 71) dX10_roading_70 rfl rfl ?_
                refine g_bipush (n := 73) dX10_roading_71 rfl k_bp_61 ?_
                refine g_cVv (n := 76) k3 dX10_roading_73 rfl kw_X10_126 rfl (by decide) (z_lvP (by first | decide | assumption)) (Nat.le_of_ble_eq_true rfl) ⟨Nat.le_refl _, Nat.le_refl _⟩ ?_ rfl
                refine g_if_ne (n := 79) (t := 81) dX10_roading_76 rfl (by decide) (fun _ => ?_) (fun q9 => absurd q9 (by decide))
                refine g_aload_n (n := 82) dX10_roading_81 rfl rfl ?_
                refine g_aload_n (n := 83) dX10_roading_82 rfl rfl ?_
                refine g_bipush (n := 85) dX10_roading_83 rfl k_bp_48 ?_
                refine g_bipush (n := 87) dX10_roading_85 rfl k_bp_57 ?_
                refine g_cVv (n := 90) (r_digitY X (by decide) (by decide) d4) dX10_roading_87 rfl kw_X10_119 rfl (by decide) (z_lvP (by first | decide | assumption)) (Nat.le_of_ble_eq_true rfl) ⟨Nat.le_refl _, Nat.le_refl _⟩ ?_ rfl
                refine gw_X10_133 (n := 93) dX10_roading_90 rfl rfl (z_lvP (by first | decide | assumption)) ?_
                rw [mT_9]
                refine g_aload_n (n := 94) dX10_roading_93 rfl rfl ?_
                refine gf_X10_133 (n := 97) dX10_roading_94 rfl rfl (z_lvP (by first | decide | assumption)) ?_
                rw [q9]
                refine g_if_le (n := 100) (t := 111) dX10_roading_97 rfl (by decide) (fun q9 => absurd q9 z0) (fun _ => ?_)
                refine g_aload_n (n := 101) dX10_roading_100 rfl rfl ?_
                refine g_bipush (n := 103) dX10_roading_101 rfl k_bp_48 ?_
                refine g_bipush (n := 105) dX10_roading_103 rfl k_bp_57 ?_
                refine g_cVv (n := 108) (r_digitN (a := a + 5) X (by omega) (by decide) (by decide) d5) dX10_roading_105 rfl kw_X10_119 rfl (by decide) (z_lvP (by first | decide | assumption)) (Nat.le_of_ble_eq_true rfl) ⟨Nat.le_refl _, Nat.le_refl _⟩ ?_ rfl
                refine g_goto (n := 0) (t := 112) dX10_roading_108 (by decide) ?_
                refine g_istore1 (n := 113) dX10_roading_112 rfl (by decide) rfl ?_
                refine g_aload_n (n := 114) dX10_roading_113 rfl rfl ?_
                refine g_iload_n (n := 115) dX10_roading_114 rfl rfl ?_
                refine g_if_ge (n := 118) (t := 125) dX10_roading_115 rfl (by decide) (fun q9 => absurd q9 (by decide)) (fun _ => ?_)
                refine g_aload_n (n := 119) dX10_roading_118 rfl rfl ?_
                refine gf_X10_133 (n := 122) dX10_roading_119 rfl rfl (z_lvP (by first | decide | assumption)) ?_
                rw [q9]
                refine g_goto (n := 0) (t := 134) dX10_roading_122 (by decide) ?_
                refine gw_X10_133 (n := 137) dX10_roading_134 rfl rfl (z_lvP (by first | decide | assumption)) ?_
                rw [mT_9]
                refine g_aload_n (n := 138) dX10_roading_137 rfl rfl ?_
                refine gf_X10_133 (n := 141) dX10_roading_138 rfl rfl (z_lvP (by first | decide | assumption)) ?_
                rw [q9]
                refine g_if_lt (n := 144) (t := 148) dX10_roading_141 rfl (by decide) (fun q9 => absurd q9 (nI_pos (by omega))) (fun _ => ?_)
                refine g_iconst (n := 145) dX10_roading_144 rfl k_ic_1 ?_
                refine g_goto (n := 0) (t := 149) dX10_roading_145 (by decide) ?_
                exact g_ireturn dX10_roading_149 rfl rfl rfl rfl
          · rw [if_neg d4]
            refine ⟨nI (C (a + 1) - 48), nI (C (a + 2) - 48), -1, ?_, fun h => (by cases h)⟩
            refine zC_of (cr := 0) (L0 := [vR 10 0, vU]) rfl (by decide) (by decide) rfl (Nat.le_of_ble_eq_true rfl) rfl ?_
            refine go _ _ ?_
            refine g_aload_n (n := 52) dX10_roading_51 rfl rfl ?_
            refine g_aload_n (n := 53) dX10_roading_52 rfl rfl ?_
            refine g_bipush (n := 55) dX10_roading_53 rfl k_bp_48 ?_
            refine g_bipush (n := 57) dX10_roading_55 rfl k_bp_55 ?_
            refine g_cVv (n := 60) (r_digitY X (by decide) (by decide) d2) dX10_roading_57 rfl kw_X10_119 rfl (by decide) (z_lvP (by first | decide | assumption)) (Nat.le_of_ble_eq_true rfl) ⟨Nat.le_refl _, Nat.le_refl _⟩ ?_ rfl
            refine gw_X10_130 (n := 63) dX10_roading_60 rfl rfl (z_lvP (by first | decide | assumption)) ?_
            rw [mT_8]
            refine g_aload_n (n := 64) dX10_roading_63 rfl rfl ?_
            refine gf_X10_130 (n := 67) dX10_roading_64 rfl rfl (z_lvP (by first | decide | assumption)) ?_
            rw [q8]
            refine g_if_lt (n := 70) (t := 79) dX10_roading_67 rfl (by decide) (fun q9 => absurd q9 (nI_pos (by omega))) (fun _ => ?_)
            refine g_aload_n (n := 71) dX10_roading_70 rfl rfl ?_
            refine g_bipush (n := 73) dX10_roading_71 rfl k_bp_61 ?_
            refine g_cVv (n := 76) k3 dX10_roading_73 rfl kw_X10_126 rfl (by decide) (z_lvP (by first | decide | assumption)) (Nat.le_of_ble_eq_true rfl) ⟨Nat.le_refl _, Nat.le_refl _⟩ ?_ rfl
            refine g_if_ne (n := 79) (t := 81) dX10_roading_76 rfl (by decide) (fun _ => ?_) (fun q9 => absurd q9 (by decide))
            refine g_aload_n (n := 82) dX10_roading_81 rfl rfl ?_
            refine g_aload_n (n := 83) dX10_roading_82 rfl rfl ?_
            refine g_bipush (n := 85) dX10_roading_83 rfl k_bp_48 ?_
            refine g_bipush (n := 87) dX10_roading_85 rfl k_bp_57 ?_
            refine g_cVv (n := 90) (r_digitN X (by omega) (by decide) (by decide) d4) dX10_roading_87 rfl kw_X10_119 rfl (by decide) (z_lvP (by first | decide | assumption)) (Nat.le_of_ble_eq_true rfl) ⟨Nat.le_refl _, Nat.le_refl _⟩ ?_ rfl
            refine gw_X10_133 (n := 93) dX10_roading_90 rfl rfl (z_lvP (by first | decide | assumption)) ?_
            rw [mT_9]
            refine g_aload_n (n := 94) dX10_roading_93 rfl rfl ?_
            refine gf_X10_133 (n := 97) dX10_roading_94 rfl rfl (z_lvP (by first | decide | assumption)) ?_
            rw [q9]
            refine g_if_le (n := 100) (t := 111) dX10_roading_97 rfl (by decide) (fun _ => ?_) (fun q9 => absurd (by decide) q9)
            refine g_iconst (n := 112) dX10_roading_111 rfl k_ic_m1 ?_
            refine g_istore1 (n := 113) dX10_roading_112 rfl (by decide) rfl ?_
            refine g_aload_n (n := 114) dX10_roading_113 rfl rfl ?_
            refine g_iload_n (n := 115) dX10_roading_114 rfl rfl ?_
            refine g_if_ge (n := 118) (t := 125) dX10_roading_115 rfl (by decide) (fun q9 => absurd q9 (by decide)) (fun _ => ?_)
            refine g_aload_n (n := 119) dX10_roading_118 rfl rfl ?_
            refine gf_X10_133 (n := 122) dX10_roading_119 rfl rfl (z_lvP (by first | decide | assumption)) ?_
            rw [q9]
            refine g_goto (n := 0) (t := 134) dX10_roading_122 (by decide) ?_
            refine gw_X10_133 (n := 137) dX10_roading_134 rfl rfl (z_lvP (by first | decide | assumption)) ?_
            rw [mT_9]
            refine g_aload_n (n := 138) dX10_roading_137 rfl rfl ?_
            refine gf_X10_133 (n := 141) dX10_roading_138 rfl rfl (z_lvP (by first | decide | assumption)) ?_
            rw [q9]
            refine g_if_lt (n := 144) (t := 148) dX10_roading_141 rfl (by decide) (fun _ => ?_) (fun q9 => absurd (by decide) q9)
            refine g_iconst (n := 149) dX10_roading_148 rfl k_ic_0 ?_
            exact g_ireturn dX10_roading_149 rfl rfl rfl rfl
        · rw [if_neg d3]
          rw [Bool.not_eq_true] at d3
          rw [d3, if_neg (by decide)] at k3
          refine ⟨nI (C (a + 1) - 48), nI (C (a + 2) - 48), v, ?_, fun h => (by cases h)⟩
          refine zC_of (cr := 0) (L0 := [vR 10 0, vU]) rfl (by decide) (by decide) rfl (Nat.le_of_ble_eq_true rfl) rfl ?_
          refine go _ _ ?_
          refine g_aload_n (n := 52) dX10_roading_51 rfl rfl ?_
          refine g_aload_n (n := 53) dX10_roading_52 rfl rfl ?_
          refine g_bipush (n := 55) dX10_roading_53 rfl k_bp_48 ?_
          refine g_bipush (n := 57) dX10_roading_55 rfl k_bp_55 ?_
          refine g_cVv (n := 60) (r_digitY X (by decide) (by decide) d2) dX10_roading_57 rfl kw_X10_119 rfl (by decide) (z_lvP (by first | decide | assumption)) (Nat.le_of_ble_eq_true rfl) ⟨Nat.le_refl _, Nat.le_refl _⟩ ?_ rfl
          refine gw_X10_130 (n := 63) dX10_roading_60 rfl rfl (z_lvP (by first | decide | assumption)) ?_
          rw [mT_8]
          refine g_aload_n (n := 64) dX10_roading_63 rfl rfl ?_
          refine gf_X10_130 (n := 67) dX10_roading_64 rfl rfl (z_lvP (by first | decide | assumption)) ?_
          rw [q8]
          refine g_if_lt (n := 70) (t := 79) dX10_roading_67 rfl (by decide) (fun q9 => absurd q9 (nI_pos (by omega))) (fun _ => ?_)
          refine g_aload_n (n := 71) dX10_roading_70 rfl rfl ?_
          refine g_bipush (n := 73) dX10_roading_71 rfl k_bp_61 ?_
          refine g_cVv (n := 76) k3 dX10_roading_73 rfl kw_X10_126 rfl (by decide) (z_lvP (by first | decide | assumption)) (Nat.le_of_ble_eq_true rfl) ⟨Nat.le_refl _, Nat.le_refl _⟩ ?_ rfl
          refine g_if_ne (n := 79) (t := 81) dX10_roading_76 rfl (by decide) (fun q9 => absurd rfl q9) (fun _ => ?_)
          refine g_iconst (n := 80) dX10_roading_79 rfl k_ic_0 ?_
          exact g_ireturn dX10_roading_80 rfl rfl rfl rfl
      · rw [if_neg d2]
        refine ⟨nI (C (a + 1) - 48), -1, v, ?_, fun h => (by cases h)⟩
        refine zC_of (cr := 0) (L0 := [vR 10 0, vU]) rfl (by decide) (by decide) rfl (Nat.le_of_ble_eq_true rfl) rfl ?_
        refine go _ _ ?_
        refine g_aload_n (n := 52) dX10_roading_51 rfl rfl ?_
        refine g_aload_n (n := 53) dX10_roading_52 rfl rfl ?_
        refine g_bipush (n := 55) dX10_roading_53 rfl k_bp_48 ?_
        refine g_bipush (n := 57) dX10_roading_55 rfl k_bp_55 ?_
        refine g_cVv (n := 60) (r_digitN X (by omega) (by decide) (by decide) d2) dX10_roading_57 rfl kw_X10_119 rfl (by decide) (z_lvP (by first | decide | assumption)) (Nat.le_of_ble_eq_true rfl) ⟨Nat.le_refl _, Nat.le_refl _⟩ ?_ rfl
        refine gw_X10_130 (n := 63) dX10_roading_60 rfl rfl (z_lvP (by first | decide | assumption)) ?_
        rw [mT_8]
        refine g_aload_n (n := 64) dX10_roading_63 rfl rfl ?_
        refine gf_X10_130 (n := 67) dX10_roading_64 rfl rfl (z_lvP (by first | decide | assumption)) ?_
        rw [q8]
        refine g_if_lt (n := 70) (t := 79) dX10_roading_67 rfl (by decide) (fun _ => ?_) (fun q9 => absurd (by decide) q9)
        refine g_iconst (n := 80) dX10_roading_79 rfl k_ic_0 ?_
        exact g_ireturn dX10_roading_80 rfl rfl rfl rfl
  · rw [if_neg d1]
    refine ⟨-1, y, v, ?_, fun h => (by cases h)⟩
    refine zC_of (cr := 0) (L0 := [vR 10 0, vU]) rfl (by decide) (by decide) rfl (Nat.le_of_ble_eq_true rfl) rfl ?_
    refine g_aload_n (n := 1) dX10_roading_0 rfl rfl ?_
    refine g_aload_n (n := 2) dX10_roading_1 rfl rfl ?_
    refine g_bipush (n := 4) dX10_roading_2 rfl k_bp_48 ?_
    refine g_bipush (n := 6) dX10_roading_4 rfl k_bp_55 ?_
    refine g_cVv (n := 9) (r_digitN X (by omega) (by decide) (by decide) d1) dX10_roading_6 rfl kw_X10_119 rfl (by decide) (z_lvP (by first | decide | assumption)) (Nat.le_of_ble_eq_true rfl) ⟨Nat.le_refl _, Nat.le_refl _⟩ ?_ rfl
    refine gw_X10_123 (n := 12) dX10_roading_9 rfl rfl (z_lvP (by first | decide | assumption)) ?_
    rw [mT_7]
    refine g_aload_n (n := 13) dX10_roading_12 rfl rfl ?_
    refine gf_X10_123 (n := 16) dX10_roading_13 rfl rfl (z_lvP (by first | decide | assumption)) ?_
    rw [q7]
    refine g_if_lt (n := 19) (t := 49) dX10_roading_16 rfl (by decide) (fun _ => ?_) (fun q9 => absurd (by decide) q9)
    refine g_iconst (n := 50) dX10_roading_49 rfl k_ic_0 ?_
    exact g_ireturn dX10_roading_50 rfl rfl rfl rfl
theorem r_order (X : rTx M C n) (ha : a ≤ n) : ∃ x' y' v', zC w mX10_order (d + 3) [vR 10 0] (zP (mT M (nI a) x y v) O) (zrI (nI (if (pO C n a).2 then C a else 32))) (zP (mT M (nI (pO C n a).1) x' y' v') O) ∧ ((pO C n a).2 = true → pV C n a x' y' v') := by
  have q7 : ∀ a x y v, mT M a x y v 10 0 7 = x := fun _ _ _ _ => rfl
  have k1 := r_takes (w := w) (d := d + 2) (O := O) (x := x) (y := y) (v := v) X ha (c := 115) (by decide)
  have k2 := r_takes (w := w) (d := d + 2) (O := O) (x := x) (y := y) (v := v) X ha (c := 114) (by decide)
  have k3 := r_takes (w := w) (d := d + 2) (O := O) (x := x) (y := y) (v := v) X ha (c := 120) (by decide)
  by_cases c1 : ch C n 115 a = true
  · have e1 := of_decide_eq_true c1
    rw [c1, if_pos rfl] at k1
    rw [show pO C n a = pS C n a by unfold pO; rw [c1]; rfl]
    obtain ⟨x', y', v', cs, hv⟩ := r_sending (w := w) (d := d) (O := O) (x := x) (y := y) (v := v) X e1.1
    refine ⟨x', y', v', ?_, fun h => ⟨fun _ => hv h, fun q => by omega, fun q => by omega⟩⟩
    rw [e1.2]
    cases hb : (pS C n a).2
    · rw [hb] at cs
      refine zC_of (cr := 0) (L0 := [vR 10 0]) rfl (by decide) (by decide) rfl (Nat.le_of_ble_eq_true rfl) rfl ?_
      refine g_aload_n (n := 1) dX10_order_0 rfl rfl ?_
      refine g_bipush (n := 3) dX10_order_1 rfl k_bp_115 ?_
      refine g_cVv (n := 6) k1 dX10_order_3 rfl kw_X10_126 rfl (by decide) (z_lvP (by first | decide | assumption)) (Nat.le_of_ble_eq_true rfl) ⟨Nat.le_refl _, Nat.le_refl _⟩ ?_ rfl
      refine g_if_eq (n := 9) (t := 24) dX10_order_6 rfl (by decide) (fun q9 => absurd q9 (by decide)) (fun _ => ?_)
      refine g_aload_n (n := 10) dX10_order_9 rfl rfl ?_
      refine g_cVv (n := 13) cs dX10_order_10 rfl kw_X10_136 rfl (by decide) (z_lvP (by first | decide | assumption)) (Nat.le_of_ble_eq_true rfl) ⟨Nat.le_refl _, Nat.le_refl _⟩ ?_ rfl
      refine g_if_eq (n := 16) (t := 21) dX10_order_13 rfl (by decide) (fun _ => ?_) (fun q9 => absurd rfl q9)
      refine g_bipush (n := 23) dX10_order_21 rfl k_bp_32 ?_
      exact g_ireturn dX10_order_23 rfl rfl rfl rfl
    · rw [hb] at cs
      refine zC_of (cr := 0) (L0 := [vR 10 0]) rfl (by decide) (by decide) rfl (Nat.le_of_ble_eq_true rfl) rfl ?_
      refine g_aload_n (n := 1) dX10_order_0 rfl rfl ?_
      refine g_bipush (n := 3) dX10_order_1 rfl k_bp_115 ?_
      refine g_cVv (n := 6) k1 dX10_order_3 rfl kw_X10_126 rfl (by decide) (z_lvP (by first | decide | assumption)) (Nat.le_of_ble_eq_true rfl) ⟨Nat.le_refl _, Nat.le_refl _⟩ ?_ rfl
      refine g_if_eq (n := 9) (t := 24) dX10_order_6 rfl (by decide) (fun q9 => absurd q9 (by decide)) (fun _ => ?_)
      refine g_aload_n (n := 10) dX10_order_9 rfl rfl ?_
      refine g_cVv (n := 13) cs dX10_order_10 rfl kw_X10_136 rfl (by decide) (z_lvP (by first | decide | assumption)) (Nat.le_of_ble_eq_true rfl) ⟨Nat.le_refl _, Nat.le_refl _⟩ ?_ rfl
      refine g_if_eq (n := 16) (t := 21) dX10_order_13 rfl (by decide) (fun q9 => absurd q9 (by decide)) (fun _ => ?_)
      refine g_bipush (n := 18) dX10_order_16 rfl k_bp_115 ?_
      refine g_goto (n := 0) (t := 23) dX10_order_18 (by decide) ?_
      exact g_ireturn dX10_order_23 rfl rfl rfl rfl
  · rw [Bool.not_eq_true] at c1
    rw [c1, if_neg (by decide)] at k1
    by_cases c2 : ch C n 114 a = true
    · have e1 := of_decide_eq_true c2
      rw [c2, if_pos rfl] at k2
      rw [show pO C n a = pR C n a by unfold pO; rw [c1, c2]; rfl]
      obtain ⟨x', y', v', cs, hv⟩ := r_roading (w := w) (d := d) (O := O) (x := x) (y := y) (v := v) X e1.1
      refine ⟨x', y', v', ?_, fun h => ⟨fun q => by omega, fun _ => hv h, fun q => by omega⟩⟩
      rw [e1.2]
      cases hb : (pR C n a).2
      · rw [hb] at cs
        refine zC_of (cr := 0) (L0 := [vR 10 0]) rfl (by decide) (by decide) rfl (Nat.le_of_ble_eq_true rfl) rfl ?_
        refine g_aload_n (n := 1) dX10_order_0 rfl rfl ?_
        refine g_bipush (n := 3) dX10_order_1 rfl k_bp_115 ?_
        refine g_cVv (n := 6) k1 dX10_order_3 rfl kw_X10_126 rfl (by decide) (z_lvP (by first | decide | assumption)) (Nat.le_of_ble_eq_true rfl) ⟨Nat.le_refl _, Nat.le_refl _⟩ ?_ rfl
        refine g_if_eq (n := 9) (t := 24) dX10_order_6 rfl (by decide) (fun _ => ?_) (fun q9 => absurd rfl q9)
        refine g_aload_n (n := 25) dX10_order_24 rfl rfl ?_
        refine g_bipush (n := 27) dX10_order_25 rfl k_bp_114 ?_
        refine g_cVv (n := 30) k2 dX10_order_27 rfl kw_X10_126 rfl (by decide) (z_lvP (by first | decide | assumption)) (Nat.le_of_ble_eq_true rfl) ⟨Nat.le_refl _, Nat.le_refl _⟩ ?_ rfl
        refine g_if_eq (n := 33) (t := 48) dX10_order_30 rfl (by decide) (fun q9 => absurd q9 (by decide)) (fun _ => ?_)
        refine g_aload_n (n := 34) dX10_order_33 rfl rfl ?_
        refine g_cVv (n := 37) cs dX10_order_34 rfl kw_X10_140 rfl (by decide) (z_lvP (by first | decide | assumption)) (Nat.le_of_ble_eq_true rfl) ⟨Nat.le_refl _, Nat.le_refl _⟩ ?_ rfl
        refine g_if_eq (n := 40) (t := 45) dX10_order_37 rfl (by decide) (fun _ => ?_) (fun q9 => absurd rfl q9)
        refine g_bipush (n := 47) dX10_order_45 rfl k_bp_32 ?_
        exact g_ireturn dX10_order_47 rfl rfl rfl rfl
      · rw [hb] at cs
        refine zC_of (cr := 0) (L0 := [vR 10 0]) rfl (by decide) (by decide) rfl (Nat.le_of_ble_eq_true rfl) rfl ?_
        refine g_aload_n (n := 1) dX10_order_0 rfl rfl ?_
        refine g_bipush (n := 3) dX10_order_1 rfl k_bp_115 ?_
        refine g_cVv (n := 6) k1 dX10_order_3 rfl kw_X10_126 rfl (by decide) (z_lvP (by first | decide | assumption)) (Nat.le_of_ble_eq_true rfl) ⟨Nat.le_refl _, Nat.le_refl _⟩ ?_ rfl
        refine g_if_eq (n := 9) (t := 24) dX10_order_6 rfl (by decide) (fun _ => ?_) (fun q9 => absurd rfl q9)
        refine g_aload_n (n := 25) dX10_order_24 rfl rfl ?_
        refine g_bipush (n := 27) dX10_order_25 rfl k_bp_114 ?_
        refine g_cVv (n := 30) k2 dX10_order_27 rfl kw_X10_126 rfl (by decide) (z_lvP (by first | decide | assumption)) (Nat.le_of_ble_eq_true rfl) ⟨Nat.le_refl _, Nat.le_refl _⟩ ?_ rfl
        refine g_if_eq (n := 33) (t := 48) dX10_order_30 rfl (by decide) (fun q9 => absurd q9 (by decide)) (fun _ => ?_)
        refine g_aload_n (n := 34) dX10_order_33 rfl rfl ?_
        refine g_cVv (n := 37) cs dX10_order_34 rfl kw_X10_140 rfl (by decide) (z_lvP (by first | decide | assumption)) (Nat.le_of_ble_eq_true rfl) ⟨Nat.le_refl _, Nat.le_refl _⟩ ?_ rfl
        refine g_if_eq (n := 40) (t := 45) dX10_order_37 rfl (by decide) (fun q9 => absurd q9 (by decide)) (fun _ => ?_)
        refine g_bipush (n := 42) dX10_order_40 rfl k_bp_114 ?_
        refine g_goto (n := 0) (t := 47) dX10_order_42 (by decide) ?_
        exact g_ireturn dX10_order_47 rfl rfl rfl rfl
    · rw [Bool.not_eq_true] at c2
      rw [c2, if_neg (by decide)] at k2
      by_cases c3 : ch C n 120 a = true
      · have e1 := of_decide_eq_true c3
        rw [c3, if_pos rfl] at k3
        rw [show pO C n a = pX C n a by unfold pO; rw [c1, c2, c3]; rfl]
        unfold pX
        by_cases d1 : dg C n 48 55 (a + 1) = true
        · rw [if_pos d1, if_pos rfl, e1.2]
          have e2 := of_decide_eq_true d1
          refine ⟨nI (C (a + 1) - 48), y, v, ?_, fun _ => ⟨fun q => by omega, fun q => by omega, fun _ => rfl⟩⟩
          refine zC_of (cr := 0) (L0 := [vR 10 0]) rfl (by decide) (by decide) rfl (Nat.le_of_ble_eq_true rfl) rfl ?_
          refine g_aload_n (n := 1) dX10_order_0 rfl rfl ?_
          refine g_bipush (n := 3) dX10_order_1 rfl k_bp_115 ?_
          refine g_cVv (n := 6) k1 dX10_order_3 rfl kw_X10_126 rfl (by decide) (z_lvP (by first | decide | assumption)) (Nat.le_of_ble_eq_true rfl) ⟨Nat.le_refl _, Nat.le_refl _⟩ ?_ rfl
          refine g_if_eq (n := 9) (t := 24) dX10_order_6 rfl (by decide) (fun _ => ?_) (fun q9 => absurd rfl q9)
          refine g_aload_n (n := 25) dX10_order_24 rfl rfl ?_
          refine g_bipush (n := 27) dX10_order_25 rfl k_bp_114 ?_
          refine g_cVv (n := 30) k2 dX10_order_27 rfl kw_X10_126 rfl (by decide) (z_lvP (by first | decide | assumption)) (Nat.le_of_ble_eq_true rfl) ⟨Nat.le_refl _, Nat.le_refl _⟩ ?_ rfl
          refine g_if_eq (n := 33) (t := 48) dX10_order_30 rfl (by decide) (fun _ => ?_) (fun q9 => absurd rfl q9)
          refine g_aload_n (n := 49) dX10_order_48 rfl rfl ?_
          refine g_bipush (n := 51) dX10_order_49 rfl k_bp_120 ?_
          refine g_cVv (n := 54) k3 dX10_order_51 rfl kw_X10_126 rfl (by decide) (z_lvP (by first | decide | assumption)) (Nat.le_of_ble_eq_true rfl) ⟨Nat.le_refl _, Nat.le_refl _⟩ ?_ rfl
          refine g_if_eq (n := 57) (t := 84) dX10_order_54 rfl (by decide) (fun q9 => absurd q9 (by decide)) (fun _ => ?_)
          refine g_aload_n (n := 58) dX10_order_57 rfl rfl ?_
          refine g_aload_n (n := 59) dX10_order_58 rfl rfl ?_
          refine g_bipush (n := 61) dX10_order_59 rfl k_bp_48 ?_
          refine g_bipush (n := 63) dX10_order_61 rfl k_bp_55 ?_
          refine g_cVv (n := 66) (r_digitY X (by decide) (by decide) d1) dX10_order_63 rfl kw_X10_119 rfl (by decide) (z_lvP (by first | decide | assumption)) (Nat.le_of_ble_eq_true rfl) ⟨Nat.le_refl _, Nat.le_refl _⟩ ?_ rfl
          refine gw_X10_123 (n := 69) dX10_order_66 rfl rfl (z_lvP (by first | decide | assumption)) ?_
          rw [mT_7]
          refine g_aload_n (n := 70) dX10_order_69 rfl rfl ?_
          refine gf_X10_123 (n := 73) dX10_order_70 rfl rfl (z_lvP (by first | decide | assumption)) ?_
          rw [q7]
          refine g_if_ge (n := 76) (t := 81) dX10_order_73 rfl (by decide) (fun _ => ?_) (fun q9 => absurd (nI_pos' (by omega)) q9)
          refine g_bipush (n := 83) dX10_order_81 rfl k_bp_120 ?_
          exact g_ireturn dX10_order_83 rfl rfl rfl rfl
        · rw [if_neg d1]
          refine ⟨-1, y, v, ?_, fun h => (by cases h)⟩
          refine zC_of (cr := 0) (L0 := [vR 10 0]) rfl (by decide) (by decide) rfl (Nat.le_of_ble_eq_true rfl) rfl ?_
          refine g_aload_n (n := 1) dX10_order_0 rfl rfl ?_
          refine g_bipush (n := 3) dX10_order_1 rfl k_bp_115 ?_
          refine g_cVv (n := 6) k1 dX10_order_3 rfl kw_X10_126 rfl (by decide) (z_lvP (by first | decide | assumption)) (Nat.le_of_ble_eq_true rfl) ⟨Nat.le_refl _, Nat.le_refl _⟩ ?_ rfl
          refine g_if_eq (n := 9) (t := 24) dX10_order_6 rfl (by decide) (fun _ => ?_) (fun q9 => absurd rfl q9)
          refine g_aload_n (n := 25) dX10_order_24 rfl rfl ?_
          refine g_bipush (n := 27) dX10_order_25 rfl k_bp_114 ?_
          refine g_cVv (n := 30) k2 dX10_order_27 rfl kw_X10_126 rfl (by decide) (z_lvP (by first | decide | assumption)) (Nat.le_of_ble_eq_true rfl) ⟨Nat.le_refl _, Nat.le_refl _⟩ ?_ rfl
          refine g_if_eq (n := 33) (t := 48) dX10_order_30 rfl (by decide) (fun _ => ?_) (fun q9 => absurd rfl q9)
          refine g_aload_n (n := 49) dX10_order_48 rfl rfl ?_
          refine g_bipush (n := 51) dX10_order_49 rfl k_bp_120 ?_
          refine g_cVv (n := 54) k3 dX10_order_51 rfl kw_X10_126 rfl (by decide) (z_lvP (by first | decide | assumption)) (Nat.le_of_ble_eq_true rfl) ⟨Nat.le_refl _, Nat.le_refl _⟩ ?_ rfl
          refine g_if_eq (n := 57) (t := 84) dX10_order_54 rfl (by decide) (fun q9 => absurd q9 (by decide)) (fun _ => ?_)
          refine g_aload_n (n := 58) dX10_order_57 rfl rfl ?_
          refine g_aload_n (n := 59) dX10_order_58 rfl rfl ?_
          refine g_bipush (n := 61) dX10_order_59 rfl k_bp_48 ?_
          refine g_bipush (n := 63) dX10_order_61 rfl k_bp_55 ?_
          refine g_cVv (n := 66) (r_digitN X (by omega) (by decide) (by decide) d1) dX10_order_63 rfl kw_X10_119 rfl (by decide) (z_lvP (by first | decide | assumption)) (Nat.le_of_ble_eq_true rfl) ⟨Nat.le_refl _, Nat.le_refl _⟩ ?_ rfl
          refine gw_X10_123 (n := 69) dX10_order_66 rfl rfl (z_lvP (by first | decide | assumption)) ?_
          rw [mT_7]
          refine g_aload_n (n := 70) dX10_order_69 rfl rfl ?_
          refine gf_X10_123 (n := 73) dX10_order_70 rfl rfl (z_lvP (by first | decide | assumption)) ?_
          rw [q7]
          refine g_if_ge (n := 76) (t := 81) dX10_order_73 rfl (by decide) (fun q9 => absurd q9 (by decide)) (fun _ => ?_)
          refine g_bipush (n := 78) dX10_order_76 rfl k_bp_32 ?_
          refine g_goto (n := 0) (t := 83) dX10_order_78 (by decide) ?_
          exact g_ireturn dX10_order_83 rfl rfl rfl rfl
      · rw [Bool.not_eq_true] at c3
        rw [c3, if_neg (by decide)] at k3
        rw [show pO C n a = (a, false) by unfold pO; rw [c1, c2, c3]; rfl]
        refine ⟨x, y, v, ?_, fun h => (by cases h)⟩
        refine zC_of (cr := 0) (L0 := [vR 10 0]) rfl (by decide) (by decide) rfl (Nat.le_of_ble_eq_true rfl) rfl ?_
        refine g_aload_n (n := 1) dX10_order_0 rfl rfl ?_
        refine g_bipush (n := 3) dX10_order_1 rfl k_bp_115 ?_
        refine g_cVv (n := 6) k1 dX10_order_3 rfl kw_X10_126 rfl (by decide) (z_lvP (by first | decide | assumption)) (Nat.le_of_ble_eq_true rfl) ⟨Nat.le_refl _, Nat.le_refl _⟩ ?_ rfl
        refine g_if_eq (n := 9) (t := 24) dX10_order_6 rfl (by decide) (fun _ => ?_) (fun q9 => absurd rfl q9)
        refine g_aload_n (n := 25) dX10_order_24 rfl rfl ?_
        refine g_bipush (n := 27) dX10_order_25 rfl k_bp_114 ?_
        refine g_cVv (n := 30) k2 dX10_order_27 rfl kw_X10_126 rfl (by decide) (z_lvP (by first | decide | assumption)) (Nat.le_of_ble_eq_true rfl) ⟨Nat.le_refl _, Nat.le_refl _⟩ ?_ rfl
        refine g_if_eq (n := 33) (t := 48) dX10_order_30 rfl (by decide) (fun _ => ?_) (fun q9 => absurd rfl q9)
        refine g_aload_n (n := 49) dX10_order_48 rfl rfl ?_
        refine g_bipush (n := 51) dX10_order_49 rfl k_bp_120 ?_
        refine g_cVv (n := 54) k3 dX10_order_51 rfl kw_X10_126 rfl (by decide) (z_lvP (by first | decide | assumption)) (Nat.le_of_ble_eq_true rfl) ⟨Nat.le_refl _, Nat.le_refl _⟩ ?_ rfl
        refine g_if_eq (n := 57) (t := 84) dX10_order_54 rfl (by decide) (fun _ => ?_) (fun q9 => absurd rfl q9)
        refine g_bipush (n := 86) dX10_order_84 rfl k_bp_32 ?_
        exact g_ireturn dX10_order_86 rfl rfl rfl rfl
def pEi (q : Option Nat) : Int32 := match q with
  | none => -1
  | some e => nI e
theorem r_error (X : rTx M C n) : ∃ a' x' y' v', zC w mX10_error (d + 4) [vR 10 0] (zP M O) (zrI (pEi (pE C n (n + 1) 0))) (zP (mT M a' x' y' v') O) := by
  have q5 : ∀ a x y v, mT M a x y v 10 0 5 = nI n := fun _ _ _ _ => X.1
  have q6 : ∀ a x y v, mT M a x y v 10 0 6 = a := fun _ _ _ _ => rfl
  have h60 := X.2.1
  have L : ∀ k a x y v, a ≤ n → n < a + k → nSt C a = 0 → ∃ a' x' y' v', zG w mX10_error (d + 4) 0 5 [vR 10 0] [] (zP (mT M (nI a) x y v) O) (zrI (pEi (pE C n k a))) (zP (mT M a' x' y' v') O) := by
    intro k
    induction k with
    | zero => intro a x y v h1 h2 _; exact absurd h2 (by omega)
    | succ k ih =>
      intro a x y v h1 h2 h0
      obtain ⟨⟨b1, b2⟩, b3, b4, b5⟩ := pO_spec h1 h0
      obtain ⟨x1, y1, v1, co, _⟩ := r_order (w := w) (d := d) (O := O) (x := x) (y := y) (v := v) X h1
      obtain ⟨e, he⟩ : ∃ e, e = (pO C n a).1 := ⟨_, rfl⟩
      unfold pE
      rw [← he] at co b1 b2 b5 ⊢
      cases hb : (pO C n a).2
      · rw [hb, if_neg (by decide)] at co
        rw [if_neg (by decide)]
        refine ⟨nI e, x1, y1, v1, ?_⟩
        refine g_aload_n (n := 6) dX10_error_5 rfl rfl ?_
        refine g_cVv (n := 9) co dX10_error_6 rfl kw_X10_143 rfl (by decide) (z_lvP (by first | decide | assumption)) (Nat.le_of_ble_eq_true rfl) ⟨Nat.le_refl _, Nat.le_refl _⟩ ?_ rfl
        refine g_bipush (n := 11) dX10_error_9 rfl k_bp_32 ?_
        refine g_icmp_eq (n := 14) (t := 41) dX10_error_11 rfl (by decide) (fun _ => ?_) (fun q9 => absurd rfl q9)
        refine g_aload_n (n := 42) dX10_error_41 rfl rfl ?_
        refine gf_X10_116 (n := 45) dX10_error_42 rfl rfl (z_lvP (by first | decide | assumption)) ?_
        rw [q6]
        exact g_ireturn dX10_error_45 rfl rfl rfl rfl
      · rw [hb, if_pos rfl] at co
        rw [if_pos rfl]
        obtain ⟨f1, f2, f3, f4⟩ := b5 hb
        have hc : ¬ nI (C a) = nI 32 := by
          intro z
          have hx : (pO C n a).2 = true := hb
          have la : a < n := by omega
          have z1 := (X.2.2 a la).2
          have z2 := (nI_eq (by omega) (by omega)).mp z
          unfold pO at hx
          rw [if_neg (fun q => by have := of_decide_eq_true q; omega), if_neg (fun q => by have := of_decide_eq_true q; omega), if_neg (fun q => by have := of_decide_eq_true q; omega)] at hx
          cases hx
        by_cases l : e = n
        · rw [if_pos l]
          refine ⟨nI e, x1, y1, v1, ?_⟩
          refine g_aload_n (n := 6) dX10_error_5 rfl rfl ?_
          refine g_cVv (n := 9) co dX10_error_6 rfl kw_X10_143 rfl (by decide) (z_lvP (by first | decide | assumption)) (Nat.le_of_ble_eq_true rfl) ⟨Nat.le_refl _, Nat.le_refl _⟩ ?_ rfl
          refine g_bipush (n := 11) dX10_error_9 rfl k_bp_32 ?_
          refine g_icmp_eq (n := 14) (t := 41) dX10_error_11 rfl (by decide) (fun q9 => absurd q9 hc) (fun _ => ?_)
          refine g_aload_n (n := 15) dX10_error_14 rfl rfl ?_
          refine gf_X10_116 (n := 18) dX10_error_15 rfl rfl (z_lvP (by first | decide | assumption)) ?_
          rw [q6]
          refine g_aload_n (n := 19) dX10_error_18 rfl rfl ?_
          refine gf_X10_113 (n := 22) dX10_error_19 rfl rfl (z_lvP (by first | decide | assumption)) ?_
          rw [q5, l]
          refine g_icmp_ne (n := 25) (t := 27) dX10_error_22 rfl (by decide) (fun q9 => absurd rfl q9) (fun _ => ?_)
          refine g_iconst (n := 26) dX10_error_25 rfl k_ic_m1 ?_
          exact g_ireturn dX10_error_26 rfl rfl rfl rfl
        · rw [if_neg l]
          have l2 : e < n := by omega
          have hne : ¬ nI e = nI n := fun z => l ((nI_eq (by omega) (by omega)).mp z)
          have kt := r_takes (w := w) (d := d + 3) (O := O) (x := x1) (y := y1) (v := v1) X b2 (c := 59) (by decide)
          by_cases c : C e = 59
          · rw [if_pos c]
            have z := f2 l2
            rw [if_pos c] at z
            obtain ⟨a', x', y', v', G⟩ := ih (e + 1) x1 y1 v1 (by omega) (by omega) z
            refine ⟨a', x', y', v', ?_⟩
            rw [show ch C n 59 e = true from decide_eq_true ⟨l2, c⟩, if_pos rfl] at kt
            refine g_aload_n (n := 6) dX10_error_5 rfl rfl ?_
            refine g_cVv (n := 9) co dX10_error_6 rfl kw_X10_143 rfl (by decide) (z_lvP (by first | decide | assumption)) (Nat.le_of_ble_eq_true rfl) ⟨Nat.le_refl _, Nat.le_refl _⟩ ?_ rfl
            refine g_bipush (n := 11) dX10_error_9 rfl k_bp_32 ?_
            refine g_icmp_eq (n := 14) (t := 41) dX10_error_11 rfl (by decide) (fun q9 => absurd q9 hc) (fun _ => ?_)
            refine g_aload_n (n := 15) dX10_error_14 rfl rfl ?_
            refine gf_X10_116 (n := 18) dX10_error_15 rfl rfl (z_lvP (by first | decide | assumption)) ?_
            rw [q6]
            refine g_aload_n (n := 19) dX10_error_18 rfl rfl ?_
            refine gf_X10_113 (n := 22) dX10_error_19 rfl rfl (z_lvP (by first | decide | assumption)) ?_
            rw [q5]
            refine g_icmp_ne (n := 25) (t := 27) dX10_error_22 rfl (by decide) (fun _ => ?_) (fun q9 => absurd q9 hne)
            refine g_aload_n (n := 28) dX10_error_27 rfl rfl ?_
            refine g_bipush (n := 30) dX10_error_28 rfl k_bp_59 ?_
            refine g_cVv (n := 33) kt dX10_error_30 rfl kw_X10_126 rfl (by decide) (z_lvP (by first | decide | assumption)) (Nat.le_of_ble_eq_true rfl) ⟨Nat.le_refl _, Nat.le_refl _⟩ ?_ rfl
            refine g_if_ne (n := 36) (t := 5) dX10_error_33 rfl (by decide) (fun _ => ?_) (fun q9 => absurd q9 (by decide))
            exact G
          · rw [if_neg c]
            refine ⟨nI e, x1, y1, v1, ?_⟩
            rw [show ch C n 59 e = false from decide_eq_false (fun q => c q.2), if_neg (by decide)] at kt
            refine g_aload_n (n := 6) dX10_error_5 rfl rfl ?_
            refine g_cVv (n := 9) co dX10_error_6 rfl kw_X10_143 rfl (by decide) (z_lvP (by first | decide | assumption)) (Nat.le_of_ble_eq_true rfl) ⟨Nat.le_refl _, Nat.le_refl _⟩ ?_ rfl
            refine g_bipush (n := 11) dX10_error_9 rfl k_bp_32 ?_
            refine g_icmp_eq (n := 14) (t := 41) dX10_error_11 rfl (by decide) (fun q9 => absurd q9 hc) (fun _ => ?_)
            refine g_aload_n (n := 15) dX10_error_14 rfl rfl ?_
            refine gf_X10_116 (n := 18) dX10_error_15 rfl rfl (z_lvP (by first | decide | assumption)) ?_
            rw [q6]
            refine g_aload_n (n := 19) dX10_error_18 rfl rfl ?_
            refine gf_X10_113 (n := 22) dX10_error_19 rfl rfl (z_lvP (by first | decide | assumption)) ?_
            rw [q5]
            refine g_icmp_ne (n := 25) (t := 27) dX10_error_22 rfl (by decide) (fun _ => ?_) (fun q9 => absurd q9 hne)
            refine g_aload_n (n := 28) dX10_error_27 rfl rfl ?_
            refine g_bipush (n := 30) dX10_error_28 rfl k_bp_59 ?_
            refine g_cVv (n := 33) kt dX10_error_30 rfl kw_X10_126 rfl (by decide) (z_lvP (by first | decide | assumption)) (Nat.le_of_ble_eq_true rfl) ⟨Nat.le_refl _, Nat.le_refl _⟩ ?_ rfl
            refine g_if_ne (n := 36) (t := 5) dX10_error_33 rfl (by decide) (fun q9 => absurd rfl q9) (fun _ => ?_)
            refine g_aload_n (n := 37) dX10_error_36 rfl rfl ?_
            refine gf_X10_116 (n := 40) dX10_error_37 rfl rfl (z_lvP (by first | decide | assumption)) ?_
            rw [q6]
            exact g_ireturn dX10_error_40 rfl rfl rfl rfl
  obtain ⟨a', x', y', v', G⟩ := L (n + 1) 0 (M 10 0 7) (M 10 0 8) (M 10 0 9) (Nat.zero_le _) (by omega) rfl
  refine ⟨a', x', y', v', ?_⟩
  have e0 : u3 M 10 0 6 (nI 0) = mT M (nI 0) (M 10 0 7) (M 10 0 8) (M 10 0 9) := by
    rw [← u3_eq]
    unfold mT
    congr 1
    conv => lhs; arg 1; rw [tF_id (M 10 0)]
    rw [tF_6]
  refine zC_of (cr := 0) (L0 := [vR 10 0]) rfl (by decide) (by decide) rfl (Nat.le_of_ble_eq_true rfl) rfl ?_
  refine g_aload_n (n := 1) dX10_error_0 rfl rfl ?_
  refine g_iconst (n := 2) dX10_error_1 rfl k_ic_0 ?_
  refine gw_X10_116 (n := 5) dX10_error_2 rfl rfl (z_lvP (by first | decide | assumption)) ?_
  rw [e0]
  exact G
theorem r_firstError (X : rTx M C n) : ∃ a' x' y' v', zC w mX10_firstError (d + 9) [vR 10 0] (zP M O) (zrI (nI ((pE C n (n + 1) 0).getD n))) (zP (mT (u3 M 10 0 3 (nI 0)) a' x' y' v') O) := by
  have X0 : rTx (u3 M 10 0 3 (nI 0)) C n := ⟨(u3_nj (by decide)).trans X.1, X.2⟩
  obtain ⟨a', x', y', v', ce⟩ := r_error (w := w) (d := d + 4) (O := O) X0
  have hs := pE_spec (C := C) (n := n) (n + 1) 0 (Nat.zero_le _) (by omega) rfl
  have h60 := X.2.1
  refine ⟨a', x', y', v', ?_⟩
  cases hp : pE C n (n + 1) 0 with
  | none =>
    rw [hp] at ce
    refine zC_of (cr := 0) (L0 := [vR 10 0, vU]) rfl (by decide) (by decide) rfl (Nat.le_of_ble_eq_true rfl) rfl ?_
    refine g_aload_n (n := 1) dX10_firstError_0 rfl rfl ?_
    refine g_iconst (n := 2) dX10_firstError_1 rfl k_ic_0 ?_
    refine gw_X10_34 (n := 5) dX10_firstError_2 rfl rfl (z_lvP (by first | decide | assumption)) ?_
    refine g_aload_n (n := 6) dX10_firstError_5 rfl rfl ?_
    refine g_cVv (n := 9) ce dX10_firstError_6 rfl kw_X10_147 rfl (by decide) (z_lvP (by first | decide | assumption)) (Nat.le_of_ble_eq_true rfl) ⟨Nat.le_refl _, Nat.le_refl _⟩ ?_ rfl
    refine g_istore1 (n := 10) dX10_firstError_9 rfl (by decide) rfl ?_
    refine g_iload_n (n := 11) dX10_firstError_10 rfl rfl ?_
    refine g_if_ge (n := 14) (t := 21) dX10_firstError_11 rfl (by decide) (fun q9 => absurd q9 (show ¬ (0 : Int32) ≤ -1 by decide)) (fun _ => ?_)
    refine g_aload_n (n := 15) dX10_firstError_14 rfl rfl ?_
    refine gf_X10_113 (n := 18) dX10_firstError_15 rfl rfl (z_lvP (by first | decide | assumption)) ?_
    refine g_goto (n := 0) (t := 22) dX10_firstError_18 (by decide) ?_
    rw [show mT (u3 M 10 0 3 (nI 0)) a' x' y' v' 10 0 5 = nI n from X0.1]
    exact g_ireturn dX10_firstError_22 rfl rfl rfl rfl
  | some e =>
    rw [hp] at ce hs
    have e1 := hs.1.2
    refine zC_of (cr := 0) (L0 := [vR 10 0, vU]) rfl (by decide) (by decide) rfl (Nat.le_of_ble_eq_true rfl) rfl ?_
    refine g_aload_n (n := 1) dX10_firstError_0 rfl rfl ?_
    refine g_iconst (n := 2) dX10_firstError_1 rfl k_ic_0 ?_
    refine gw_X10_34 (n := 5) dX10_firstError_2 rfl rfl (z_lvP (by first | decide | assumption)) ?_
    refine g_aload_n (n := 6) dX10_firstError_5 rfl rfl ?_
    refine g_cVv (n := 9) ce dX10_firstError_6 rfl kw_X10_147 rfl (by decide) (z_lvP (by first | decide | assumption)) (Nat.le_of_ble_eq_true rfl) ⟨Nat.le_refl _, Nat.le_refl _⟩ ?_ rfl
    refine g_istore1 (n := 10) dX10_firstError_9 rfl (by decide) rfl ?_
    refine g_iload_n (n := 11) dX10_firstError_10 rfl rfl ?_
    refine g_if_ge (n := 14) (t := 21) dX10_firstError_11 rfl (by decide) (fun _ => ?_) (fun q9 => absurd (nI_pos' (n := e) (by omega)) q9)
    refine g_iload_n (n := 22) dX10_firstError_21 rfl rfl ?_
    exact g_ireturn dX10_firstError_22 rfl rfl rfl rfl
end L20

