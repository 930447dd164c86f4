/-! The reference: rows copied, saved, laid, changed. -/
/-- the numbers of the slot f copied to the slot t -/
def rCp (S : Nat → Int32) (f t : Nat) : Nat → Int32 := fun j => if 174 * t ≤ j ∧ j < 174 * t + 174 then S (174 * f + (j - 174 * t)) else S j
def rCk (S : Nat → Int32) (f t k : Nat) : Nat → Int32 := fun j => if 174 * t ≤ j ∧ j < 174 * t + k then S (174 * f + (j - 174 * t)) else S j
theorem rCk_0 {S : Nat → Int32} {f t : Nat} : rCk S f t 0 = S := by
  funext j
  unfold rCk
  rw [if_neg (by omega)]
theorem rCk_s {S : Nat → Int32} {f t k : Nat} : upd (rCk S f t k) (174 * t + k) (S (174 * f + k)) = rCk S f t (k + 1) := by
  funext j
  unfold upd rCk
  by_cases e : j = 174 * t + k
  · rw [if_pos e, if_pos (by omega), e, show 174 * t + k - 174 * t = k by omega]
  · rw [if_neg e]
    by_cases l : 174 * t ≤ j ∧ j < 174 * t + k
    · rw [if_pos l, if_pos (by omega)]
    · rw [if_neg l, if_neg (by omega)]
/-- the saved states moved on by one -/
def rSh (S : Nat → Int32) : Nat → Nat → Int32
  | 0 => S
  | k + 1 => rCp (rSh S k) (k + 2) (k + 1)
def rSave (S : Nat → Int32) (h : Nat) : Nat → Int32 := if h < 6 then rCp S 0 (h + 1) else rCp (rSh S 5) 0 6
def rSv (h : Nat) : Nat := if h < 6 then h + 1 else 6
def rLay (S : Nat → Int32) (b a c : Nat) (x : Int32) : Nat → Int32 := upd (upd S (b + (2 + (8 * a + c))) x) (b + (2 + (8 * c + a))) x
theorem u3_u3 {M : Nat → Nat → Nat → Int32} {k i j : Nat} {v v2 : Int32} : u3 (u3 M k i j v) k i j v2 = u3 M k i j v2 := by
  funext a b c
  unfold u3
  by_cases q : a = k ∧ b = i ∧ c = j
  · rw [if_pos q, if_pos q]
  · rw [if_neg q, if_neg q, if_neg q]
section L3
variable {w : zWp} {d b s t h f : Nat} {M : Nat → Nat → Nat → Int32} {O : Nat → Int64} {S : Nat → Int32}
theorem r_copies (hf : f ≤ 9) (ht : t ≤ 9) (hft : f ≠ t) : zC w mX10_copies d [vR 10 0, vI (nI f), vI (nI t)] (zP (u2 M 32 0 S) O) zrV (zP (u2 M 32 0 (rCp S f t)) O) := by
  refine zC_of (cr := 0) (L0 := [vR 10 0, vI (nI f), vI (nI t), vU]) rfl (by decide) (by decide) rfl (Nat.le_of_ble_eq_true rfl) rfl ?_
  refine g_iconst (n := 1) dX10_copies_0 rfl k_ic_0 ?_
  refine g_istore3 (n := 2) dX10_copies_1 rfl (by decide) rfl ?_
  suffices H : zG w mX10_copies d 0 2 [vR 10 0, vI (nI f), vI (nI t), vI (nI 0)] [] (zP (u2 M 32 0 (rCk S f t 0)) O) zrV (zP (u2 M 32 0 (rCp S f t)) O) by
    rw [rCk_0] at H
    exact H
  refine z_loop (fun k => zG w mX10_copies d 0 2 [vR 10 0, vI (nI f), vI (nI t), vI (nI k)] [] (zP (u2 M 32 0 (rCk S f t k)) O) zrV (zP (u2 M 32 0 (rCp S f t)) O)) 174 ?_ ?_ 0 (Nat.zero_le _)
  · refine g_iload_n (n := 3) dX10_copies_2 rfl rfl ?_
    refine g_sipush (n := 6) dX10_copies_3 rfl k_sp_174 ?_
    refine g_icmp_ge (n := 9) (t := 39) dX10_copies_6 rfl (by decide) (fun _ => ?_) (fun q9 => absurd (Int32.le_refl _) q9)
    exact g_return dX10_copies_39 rfl rfl rfl
  · intro k hk ih
    have hl : rCk S f t k (174 * f + k) = S (174 * f + k) := by
      unfold rCk
      rw [if_neg (by omega)]
    have i1 : ∀ q, nI 174 * nI q + nI k = nI (174 * q + k) := fun q => by rw [pk_mul, nI_add]
    refine g_iload_n (n := 3) dX10_copies_2 rfl rfl ?_
    refine g_sipush (n := 6) dX10_copies_3 rfl k_sp_174 ?_
    refine g_icmp_ge (n := 9) (t := 39) dX10_copies_6 rfl (by decide) (fun q9 => absurd q9 (nI_ge hk (by decide))) (fun _ => ?_)
    refine g_aload_n (n := 10) dX10_copies_9 rfl rfl ?_
    refine gf_X10_7 (n := 13) dX10_copies_10 rfl rfl (z_lvP (by first | decide | assumption)) rfl ?_
    refine g_sipush (n := 16) dX10_copies_13 rfl k_sp_174 ?_
    refine g_iload_n (n := 17) dX10_copies_16 rfl rfl ?_
    refine g_imul (n := 18) dX10_copies_17 rfl ?_
    refine g_iload_n (n := 19) dX10_copies_18 rfl rfl ?_
    refine g_iadd (n := 20) dX10_copies_19 rfl ?_
    refine g_aload_n (n := 21) dX10_copies_20 rfl rfl ?_
    refine gf_X10_7 (n := 24) dX10_copies_21 rfl rfl (z_lvP (by first | decide | assumption)) rfl ?_
    refine g_sipush (n := 27) dX10_copies_24 rfl k_sp_174 ?_
    refine g_iload_n (n := 28) dX10_copies_27 rfl rfl ?_
    refine g_imul (n := 29) dX10_copies_28 rfl ?_
    refine g_iload_n (n := 30) dX10_copies_29 rfl rfl ?_
    refine g_iadd (n := 31) dX10_copies_30 rfl ?_
    refine g_iald (a := (174 * f + k)) (n := 32) dX10_copies_31 rfl (by decide) (z_lvP (by first | decide | assumption)) (i1 f) (by show _ < 1740; first | assumption | omega) ?_
    rw [show u2 M 32 0 (rCk S f t k) 32 0 (174 * f + k) = S (174 * f + k) from hl, i1 t]
    refine g_iast (n := 33) dX10_copies_32 rfl (by decide) (z_lvP (by first | decide | assumption)) rfl (by show _ < 1740; first | assumption | omega) ?_
    rw [u3_u2, rCk_s]
    refine g_iinc3 (n := 36) dX10_copies_33 rfl (by decide) rfl (z_inc1 _) ?_
    refine g_goto (n := 0) (t := 2) dX10_copies_36 (by decide) ?_
    exact ih
theorem r_saves (hh : M 10 0 1 = nI h) (h6 : h ≤ 6) : zC w mX10_saves (d + 1) [vR 10 0] (zP M O) zrV (zP (u2 (u3 M 10 0 1 (nI (rSv h))) 32 0 (rSave (M 32 0) h)) O) := by
  obtain ⟨S, hS⟩ : ∃ S, S = M 32 0 := ⟨_, rfl⟩
  have hM : M = u2 M 32 0 S := by rw [hS, u2_id]
  rw [← hS]
  have last : ∀ (P : Nat → Int32) (M1 : Nat → Nat → Nat → Int32) (n : Nat), n ≤ 5 → M1 10 0 1 = nI n → zG w mX10_saves (d + 1) 0 41 [vR 10 0, vU] [] (zP (u2 M1 32 0 P) O) zrV (zP (u2 (u3 M1 10 0 1 (nI (n + 1))) 32 0 (rCp P 0 (n + 1))) O) := by
    intro P M1 n hn h1
    refine g_aload_n (n := 42) dX10_saves_41 rfl rfl ?_
    refine g_dup (n := 43) dX10_saves_42 rfl rfl ?_
    refine gf_X10_38 (n := 46) dX10_saves_43 rfl rfl (z_lvP (by first | decide | assumption)) ?_
    rw [show u2 M1 32 0 P 10 0 1 = nI n from h1]
    refine g_iconst (n := 47) dX10_saves_46 rfl k_ic_1 ?_
    refine g_iadd (n := 48) dX10_saves_47 rfl ?_
    rw [nI_add]
    refine gw_X10_38 (n := 51) dX10_saves_48 rfl rfl (z_lvP (by first | decide | assumption)) ?_
    rw [u3_com (by decide)]
    refine g_aload_n (n := 52) dX10_saves_51 rfl rfl ?_
    refine g_iconst (n := 53) dX10_saves_52 rfl k_ic_0 ?_
    refine g_aload_n (n := 54) dX10_saves_53 rfl rfl ?_
    refine gf_X10_38 (n := 57) dX10_saves_54 rfl rfl (z_lvP (by first | decide | assumption)) ?_
    rw [show u2 (u3 M1 10 0 1 (nI (n + 1))) 32 0 P 10 0 1 = nI (n + 1) from rfl]
    refine g_cVn (n := 60) (r_copies (by decide) (by omega) (by omega)) dX10_saves_57 rfl kw_X10_41 rfl (by decide) (z_lvP (by first | decide | assumption)) (Nat.le_of_ble_eq_true rfl) ⟨Nat.le_refl _, Nat.le_refl _⟩ ?_ rfl
    exact g_return dX10_saves_60 rfl rfl rfl
  refine zC_of (cr := 0) (L0 := [vR 10 0, vU]) rfl (by decide) (by decide) rfl (Nat.le_of_ble_eq_true rfl) rfl ?_
  unfold rSave rSv
  by_cases hl : h < 6
  · rw [if_pos hl, if_pos hl]
    have hne : ¬ M 10 0 1 = nI 6 := by
      rw [hh]
      intro q
      have := (nI_eq (by omega) (by omega)).mp q
      omega
    refine g_aload_n (n := 1) dX10_saves_0 rfl rfl ?_
    refine gf_X10_38 (n := 4) dX10_saves_1 rfl rfl (z_lvP (by first | decide | assumption)) ?_
    refine g_bipush (n := 6) dX10_saves_4 rfl k_bp_6 ?_
    refine g_icmp_ne (n := 9) (t := 41) dX10_saves_6 rfl (by decide) (fun _ => ?_) (fun q9 => absurd q9 hne)
    have := last S M h (by omega) hh
    rw [← hM] at this
    exact this
  · rw [if_neg hl, if_neg hl]
    obtain rfl : h = 6 := by omega
    refine g_aload_n (n := 1) dX10_saves_0 rfl rfl ?_
    refine gf_X10_38 (n := 4) dX10_saves_1 rfl rfl (z_lvP (by first | decide | assumption)) ?_
    refine g_bipush (n := 6) dX10_saves_4 rfl k_bp_6 ?_
    refine g_icmp_ne (n := 9) (t := 41) dX10_saves_6 rfl (by decide) (fun q9 => absurd hh q9) (fun _ => ?_)
    refine g_iconst (n := 10) dX10_saves_9 rfl k_ic_1 ?_
    refine g_istore1 (n := 11) dX10_saves_10 rfl (by decide) rfl ?_
    have H : zG w mX10_saves (d + 1) 0 11 [vR 10 0, vI (nI (0 + 1))] [] (zP (u2 M 32 0 (rSh S 0)) O) zrV (zP (u2 (u3 M 10 0 1 (nI 6)) 32 0 (rCp (rSh S 5) 0 6)) O) := by
      refine z_loop (fun k => zG w mX10_saves (d + 1) 0 11 [vR 10 0, vI (nI (k + 1))] [] (zP (u2 M 32 0 (rSh S k)) O) zrV (zP (u2 (u3 M 10 0 1 (nI 6)) 32 0 (rCp (rSh S 5) 0 6)) O)) 5 ?_ ?_ 0 (Nat.zero_le _)
      · refine g_iload_n (n := 12) dX10_saves_11 rfl rfl ?_
        refine g_bipush (n := 14) dX10_saves_12 rfl k_bp_6 ?_
        refine g_icmp_ge (n := 17) (t := 31) dX10_saves_14 rfl (by decide) (fun _ => ?_) (fun q9 => absurd (Int32.le_refl _) q9)
        refine g_aload_n (n := 32) dX10_saves_31 rfl rfl ?_
        refine g_dup (n := 33) dX10_saves_32 rfl rfl ?_
        refine gf_X10_38 (n := 36) dX10_saves_33 rfl rfl (z_lvP (by first | decide | assumption)) ?_
        rw [show u2 M 32 0 (rSh S 5) 10 0 1 = nI 6 from hh]
        refine g_iconst (n := 37) dX10_saves_36 rfl k_ic_1 ?_
        refine g_isub (n := 38) dX10_saves_37 rfl ?_
        refine gw_X10_38 (n := 41) dX10_saves_38 rfl rfl (z_lvP (by first | decide | assumption)) ?_
        refine g_drop 1 ?_
        rw [show nI 6 - nI 1 = nI 5 from rfl, u3_com (by decide)]
        have := last (rSh S 5) (u3 M 10 0 1 (nI 5)) 5 (by decide) rfl
        rw [u3_u3] at this
        exact this
      · intro k hk ih
        refine g_iload_n (n := 12) dX10_saves_11 rfl rfl ?_
        refine g_bipush (n := 14) dX10_saves_12 rfl k_bp_6 ?_
        refine g_icmp_ge (n := 17) (t := 31) dX10_saves_14 rfl (by decide) (fun q9 => absurd q9 (nI_ge (b := 6) (by omega) (by decide))) (fun _ => ?_)
        refine g_aload_n (n := 18) dX10_saves_17 rfl rfl ?_
        refine g_iload_n (n := 19) dX10_saves_18 rfl rfl ?_
        refine g_iconst (n := 20) dX10_saves_19 rfl k_ic_1 ?_
        refine g_iadd (n := 21) dX10_saves_20 rfl ?_
        rw [nI_add]
        refine g_iload_n (n := 22) dX10_saves_21 rfl rfl ?_
        refine g_cVn (n := 25) (r_copies (f := k + 2) (t := k + 1) (by omega) (by omega) (by omega)) dX10_saves_22 rfl kw_X10_41 rfl (by decide) (z_lvP (by first | decide | assumption)) (Nat.le_of_ble_eq_true rfl) ⟨Nat.le_refl _, Nat.le_refl _⟩ ?_ rfl
        refine g_iinc1 (n := 28) dX10_saves_25 rfl (by decide) rfl (z_inc1 _) ?_
        refine g_goto (n := 0) (t := 11) dX10_saves_28 (by decide) ?_
        exact ih
    rw [show rSh S 0 = S from rfl, ← hM] at H
    exact H
theorem r_lays {a c : Nat} {x : Int32} (hb : b ≤ 1566) (ha : a < 8) (hc : c < 8) : zC w mX10_lays d [vR 10 0, vI (nI b), vI (nI a), vI (nI c), vI x] (zP (u2 M 32 0 S) O) zrV (zP (u2 M 32 0 (rLay S b a c x)) O) := by
  have i1 : ∀ p q, nI b + nI 2 + nI 8 * nI p + nI q = nI (b + (2 + (8 * p + q))) := fun p q => by
    rw [pk_mul, nI_add, nI_add, nI_add]
    congr 1
    omega
  refine zC_of (cr := 0) (L0 := [vR 10 0, vI (nI b), vI (nI a), vI (nI c), vI x]) rfl (by decide) (by decide) rfl (Nat.le_of_ble_eq_true rfl) rfl ?_
  refine g_aload_n (n := 1) dX10_lays_0 rfl rfl ?_
  refine gf_X10_7 (n := 4) dX10_lays_1 rfl rfl (z_lvP (by first | decide | assumption)) rfl ?_
  refine g_iload_n (n := 5) dX10_lays_4 rfl rfl ?_
  refine g_iconst (n := 6) dX10_lays_5 rfl k_ic_2 ?_
  refine g_iadd (n := 7) dX10_lays_6 rfl ?_
  refine g_bipush (n := 9) dX10_lays_7 rfl k_bp_8 ?_
  refine g_iload_n (n := 10) dX10_lays_9 rfl rfl ?_
  refine g_imul (n := 11) dX10_lays_10 rfl ?_
  refine g_iadd (n := 12) dX10_lays_11 rfl ?_
  refine g_iload_n (n := 13) dX10_lays_12 rfl rfl ?_
  refine g_iadd (n := 14) dX10_lays_13 rfl ?_
  refine g_iload (n := 16) dX10_lays_14 rfl rfl ?_
  rw [i1 a c]
  refine g_iast (n := 17) dX10_lays_16 rfl (by decide) (z_lvP (by first | decide | assumption)) rfl (by show _ < 1740; first | assumption | omega) ?_
  rw [u3_u2]
  refine g_aload_n (n := 18) dX10_lays_17 rfl rfl ?_
  refine gf_X10_7 (n := 21) dX10_lays_18 rfl rfl (z_lvP (by first | decide | assumption)) rfl ?_
  refine g_iload_n (n := 22) dX10_lays_21 rfl rfl ?_
  refine g_iconst (n := 23) dX10_lays_22 rfl k_ic_2 ?_
  refine g_iadd (n := 24) dX10_lays_23 rfl ?_
  refine g_bipush (n := 26) dX10_lays_24 rfl k_bp_8 ?_
  refine g_iload_n (n := 27) dX10_lays_26 rfl rfl ?_
  refine g_imul (n := 28) dX10_lays_27 rfl ?_
  refine g_iadd (n := 29) dX10_lays_28 rfl ?_
  refine g_iload_n (n := 30) dX10_lays_29 rfl rfl ?_
  refine g_iadd (n := 31) dX10_lays_30 rfl ?_
  refine g_iload (n := 33) dX10_lays_31 rfl rfl ?_
  rw [i1 c a]
  refine g_iast (n := 34) dX10_lays_33 rfl (by decide) (z_lvP (by first | decide | assumption)) rfl (by show _ < 1740; first | assumption | omega) ?_
  rw [u3_u2]
  exact g_return dX10_lays_34 rfl rfl rfl
end L3

