/-! The buffer and what it tells. -/
def tIn (c a b : Int32) : Bool := decide (a ≤ c) && decide (c ≤ b)
def tLet (c : Int32) : Nat := if c = nI 115 then 1 else if c = nI 114 then 6 else if c = nI 120 then 11 else 13
def tOrd (c : Int32) : Nat := if c = nI 59 then 0 else 13
def tFst (c : Int32) : Nat := if c = nI 48 then 12 else if tIn c (nI 49) (nI 57) then 10 else 13
/-- the place behind a character, q the character before it -/
def tPl (p : Nat) (c q : Int32) : Nat := match p with
  | 0 => tLet c
  | 1 => if tIn c (nI 48) (nI 55) then 2 else 13
  | 2 => if c = nI 62 then 3 else 13
  | 3 => if tIn c (nI 48) (nI 51) then 4 else 13
  | 4 => if c = nI 42 then 5 else tOrd c
  | 5 => if tIn c (nI 50) (nI 57) then 12 else 13
  | 6 => if tIn c (nI 48) (nI 55) then 7 else 13
  | 7 => if tIn c (nI 48) (nI 55) then (if c = q then 13 else 8) else 13
  | 8 => if c = nI 61 then 9 else 13
  | 9 => tFst c
  | 10 => if tIn c (nI 48) (nI 57) then 12 else tOrd c
  | 11 => if tIn c (nI 48) (nI 55) then 12 else 13
  | 12 => tOrd c
  | _ => 13
theorem tLet_lt (c : Int32) : tLet c < 14 := by unfold tLet; split; decide; split; decide; split <;> decide
theorem tOrd_lt (c : Int32) : tOrd c < 14 := by unfold tOrd; split <;> decide
theorem tFst_lt (c : Int32) : tFst c < 14 := by unfold tFst; split; decide; split <;> decide
theorem tPl_lt (p : Nat) (c q : Int32) : tPl p c q < 14 := by
  unfold tPl
  split <;> first | exact tLet_lt c | exact tOrd_lt c | exact tFst_lt c | decide | (split <;> first | decide | exact tOrd_lt c | (split <;> decide))
/-- the character before the place j -/
def tPv (c : Nat → Int32) : Nat → Int32
  | 0 => nI 0
  | j + 1 => c j
def tSt (c : Nat → Int32) : Nat → Nat
  | 0 => 0
  | j + 1 => tPl (tSt c j) (c j) (tPv c j)
theorem tSt_lt (c : Nat → Int32) : ∀ j, tSt c j < 14
  | 0 => by show 0 < 14; decide
  | _ + 1 => tPl_lt _ _ _
/-- the first fault from place j on, k characters left -/
def tFF (c : Nat → Int32) : Nat → Nat → Nat
  | 0, j => j
  | k + 1, j => if tSt c (j + 1) = 13 then j else tFF c k (j + 1)
def tDay (c : Nat → Int32) (n : Nat) : Bool := decide (tSt c n = 4) || decide (tSt c n = 10) || decide (tSt c n = 12)
def tCode (c : Nat → Int32) (n : Nat) (j : Nat) : Int32 := if j < n then c j else nI 0
def tDig (c : Nat → Int32) (n : Nat) (j : Nat) : Int32 := tCode c n j - nI 48
def tBeg (c : Nat → Int32) (j : Nat) : Bool := match j with
  | 0 => true
  | j + 1 => decide (c j = nI 59)
def tLoa (c : Nat → Int32) (n : Nat) (j : Nat) : Int32 := if tCode c n (j + 4) = nI 42 then tDig c n (j + 5) else nI 1
def tCost (c : Nat → Int32) (n : Nat) (j : Nat) : Int32 := if tIn (tCode c n (j + 5)) (nI 48) (nI 57) then nI 10 * tDig c n (j + 4) + tDig c n (j + 5) else tDig c n (j + 4)
theorem lk_ne {x : Int32} {n : Nat} {z : Int} (h : ¬ x = nI n) (hz : (nI n).toInt = z) : ¬ z = x.toInt := fun q => h (Int32.toInt_inj.mp (q.symm.trans hz.symm))
section LT
variable {w : zWp} {d n : Nat} {M : Nat → Nat → Nat → Int32} {O : Nat → Int64} {σ : zSt}
theorem c_isIn (c a b : Int32) : zC w mX8_isIn d [vI c, vI a, vI b] σ (zrI (zb (tIn c a b))) σ := by
  refine zC_of (cr := 0) (L0 := [vI c, vI a, vI b]) rfl (by decide) (by decide) rfl (Nat.le_of_ble_eq_true rfl) rfl ?_
  unfold tIn
  refine g_iload_n (n := 1) dX8_isIn_0 rfl rfl ?_
  refine g_iload_n (n := 2) dX8_isIn_1 rfl rfl ?_
  refine g_icmp_lt (n := 5) (t := 14) dX8_isIn_2 rfl (by decide) (fun c2 => ?_) (fun c2 => ?_)
  · rw [decide_eq_false (Int32.not_le.mpr c2)]
    refine g_iconst (n := 15) dX8_isIn_14 rfl k_ic_0 ?_
    exact g_ireturn dX8_isIn_15 rfl rfl rfl rfl
  · rw [decide_eq_true (Int32.not_lt.mp c2)]
    refine g_iload_n (n := 6) dX8_isIn_5 rfl rfl ?_
    refine g_iload_n (n := 7) dX8_isIn_6 rfl rfl ?_
    refine g_icmp_gt (n := 10) (t := 14) dX8_isIn_7 rfl (by decide) (fun c7 => ?_) (fun c7 => ?_)
    · rw [decide_eq_false (Int32.not_le.mpr c7)]
      refine g_iconst (n := 15) dX8_isIn_14 rfl k_ic_0 ?_
      exact g_ireturn dX8_isIn_15 rfl rfl rfl rfl
    · rw [decide_eq_true (Int32.not_lt.mp c7)]
      refine g_iconst (n := 11) dX8_isIn_10 rfl k_ic_1 ?_
      refine g_goto (n := 0) (t := 15) dX8_isIn_11 (by decide) ?_
      exact g_ireturn dX8_isIn_15 rfl rfl rfl rfl
theorem c_isTownDigit (c : Int32) : zC w mX8_isTownDigit (d + 1) [vI c] σ (zrI (zb (tIn c (nI 48) (nI 55)))) σ := by
  refine zC_of (cr := 0) (L0 := [vI c]) rfl (by decide) (by decide) rfl (Nat.le_of_ble_eq_true rfl) rfl ?_
  refine g_iload_n (n := 1) dX8_isTownDigit_0 rfl rfl ?_
  refine g_bipush (n := 3) dX8_isTownDigit_1 rfl k_bp_48 ?_
  refine g_bipush (n := 5) dX8_isTownDigit_3 rfl k_bp_55 ?_
  refine g_cSv (n := 8) (c_isIn c (nI 48) (nI 55)) dX8_isTownDigit_5 rfl kw_X8_30 (Nat.le_of_ble_eq_true rfl) ⟨Nat.le_refl _, Nat.le_refl _⟩ ?_ rfl
  exact g_ireturn dX8_isTownDigit_8 rfl (by cases tIn c (nI 48) (nI 55) <;> rfl) rfl rfl
theorem c_afterOrder (c : Int32) : zC w mX8_afterOrder d [vI c] σ (zrI (nI (tOrd c))) σ := by
  refine zC_of (cr := 0) (L0 := [vI c]) rfl (by decide) (by decide) rfl (Nat.le_of_ble_eq_true rfl) rfl ?_
  unfold tOrd
  refine g_iload_n (n := 1) dX8_afterOrder_0 rfl rfl ?_
  refine g_bipush (n := 3) dX8_afterOrder_1 rfl k_bp_59 ?_
  refine g_icmp_ne (n := 6) (t := 10) dX8_afterOrder_3 rfl (by decide) (fun c3 => ?_) (fun c3 => ?_)
  · rw [if_neg (show ¬ c = nI 59 from c3)]
    refine g_bipush (n := 12) dX8_afterOrder_10 rfl k_bp_13 ?_
    exact g_ireturn dX8_afterOrder_12 rfl rfl rfl rfl
  · rw [if_pos (show c = nI 59 from c3)]
    refine g_iconst (n := 7) dX8_afterOrder_6 rfl k_ic_0 ?_
    refine g_goto (n := 0) (t := 12) dX8_afterOrder_7 (by decide) ?_
    exact g_ireturn dX8_afterOrder_12 rfl rfl rfl rfl
theorem c_afterFirst (c : Int32) : zC w mX8_afterFirstDigit (d + 1) [vI c] σ (zrI (nI (tFst c))) σ := by
  refine zC_of (cr := 0) (L0 := [vI c]) rfl (by decide) (by decide) rfl (Nat.le_of_ble_eq_true rfl) rfl ?_
  unfold tFst
  refine g_iload_n (n := 1) dX8_afterFirstDigit_0 rfl rfl ?_
  refine g_bipush (n := 3) dX8_afterFirstDigit_1 rfl k_bp_48 ?_
  refine g_icmp_ne (n := 6) (t := 9) dX8_afterFirstDigit_3 rfl (by decide) (fun c3 => ?_) (fun c3 => ?_)
  · rw [if_neg (show ¬ c = nI 48 from c3)]
    have ci := c_isIn (w := w) (d := d) (σ := σ) c (nI 49) (nI 57)
    cases hb : tIn c (nI 49) (nI 57)
    · rw [hb] at ci
      refine g_iload_n (n := 10) dX8_afterFirstDigit_9 rfl rfl ?_
      refine g_bipush (n := 12) dX8_afterFirstDigit_10 rfl k_bp_49 ?_
      refine g_bipush (n := 14) dX8_afterFirstDigit_12 rfl k_bp_57 ?_
      refine g_cSv (n := 17) ci dX8_afterFirstDigit_14 rfl kw_X8_30 (Nat.le_of_ble_eq_true rfl) ⟨Nat.le_refl _, Nat.le_refl _⟩ ?_ rfl
      refine g_if_eq (n := 20) (t := 25) dX8_afterFirstDigit_17 rfl (by decide) (fun _ => ?_) (fun q9 => absurd rfl q9)
      refine g_bipush (n := 27) dX8_afterFirstDigit_25 rfl k_bp_13 ?_
      exact g_ireturn dX8_afterFirstDigit_27 rfl rfl rfl rfl
    · rw [hb] at ci
      refine g_iload_n (n := 10) dX8_afterFirstDigit_9 rfl rfl ?_
      refine g_bipush (n := 12) dX8_afterFirstDigit_10 rfl k_bp_49 ?_
      refine g_bipush (n := 14) dX8_afterFirstDigit_12 rfl k_bp_57 ?_
      refine g_cSv (n := 17) ci dX8_afterFirstDigit_14 rfl kw_X8_30 (Nat.le_of_ble_eq_true rfl) ⟨Nat.le_refl _, Nat.le_refl _⟩ ?_ rfl
      refine g_if_eq (n := 20) (t := 25) dX8_afterFirstDigit_17 rfl (by decide) (fun q9 => absurd q9 (by decide)) (fun _ => ?_)
      refine g_bipush (n := 22) dX8_afterFirstDigit_20 rfl k_bp_10 ?_
      refine g_goto (n := 0) (t := 27) dX8_afterFirstDigit_22 (by decide) ?_
      exact g_ireturn dX8_afterFirstDigit_27 rfl rfl rfl rfl
  · rw [if_pos (show c = nI 48 from c3)]
    refine g_bipush (n := 8) dX8_afterFirstDigit_6 rfl k_bp_12 ?_
    exact g_ireturn dX8_afterFirstDigit_8 rfl rfl rfl rfl
theorem c_afterLetter (c : Int32) : zC w mX8_afterLetter d [vI c] σ (zrI (nI (tLet c))) σ := by
  refine zC_of (cr := 0) (L0 := [vI c]) rfl (by decide) (by decide) rfl (Nat.le_of_ble_eq_true rfl) rfl ?_
  unfold tLet
  by_cases h1 : c = nI 115
  · rw [if_pos h1, h1]
    refine g_iload_n (n := 1) dX8_afterLetter_0 rfl rfl ?_
    refine g_lookup (n := 0) (t := 36) dX8_afterLetter_1 (by decide) rfl (by decide) ?_
    refine g_iconst (n := 37) dX8_afterLetter_36 rfl k_ic_1 ?_
    exact g_ireturn dX8_afterLetter_37 rfl rfl rfl rfl
  · rw [if_neg h1]
    by_cases h2 : c = nI 114
    · rw [if_pos h2, h2]
      refine g_iload_n (n := 1) dX8_afterLetter_0 rfl rfl ?_
      refine g_lookup (n := 0) (t := 38) dX8_afterLetter_1 (by decide) rfl (by decide) ?_
      refine g_bipush (n := 40) dX8_afterLetter_38 rfl k_bp_6 ?_
      exact g_ireturn dX8_afterLetter_40 rfl rfl rfl rfl
    · rw [if_neg h2]
      by_cases h3 : c = nI 120
      · rw [if_pos h3, h3]
        refine g_iload_n (n := 1) dX8_afterLetter_0 rfl rfl ?_
        refine g_lookup (n := 0) (t := 41) dX8_afterLetter_1 (by decide) rfl (by decide) ?_
        refine g_bipush (n := 43) dX8_afterLetter_41 rfl k_bp_11 ?_
        exact g_ireturn dX8_afterLetter_43 rfl rfl rfl rfl
      · rw [if_neg h3]
        refine g_iload_n (n := 1) dX8_afterLetter_0 rfl rfl ?_
        refine g_lookup (n := 0) (t := 44) dX8_afterLetter_1 (by decide) ((if_neg (lk_ne h2 (by decide))).trans ((if_neg (lk_ne h1 (by decide))).trans ((if_neg (lk_ne h3 (by decide))).trans (show Op.lookupswitch.offset [] 43 c.toInt = 43 from rfl)))) (by decide) ?_
        refine g_bipush (n := 46) dX8_afterLetter_44 rfl k_bp_13 ?_
        exact g_ireturn dX8_afterLetter_46 rfl rfl rfl rfl
theorem c_tlength : zC w mX8_length d [vR 8 0] (zP M O) (zrI (M 8 0 1)) (zP M O) := by
  refine zC_of (cr := 0) (L0 := [vR 8 0]) rfl (by decide) (by decide) rfl (Nat.le_of_ble_eq_true rfl) rfl ?_
  refine g_aload_n (n := 1) dX8_length_0 rfl rfl ?_
  refine gf_X8_15 (n := 4) dX8_length_1 rfl rfl (z_lvP (by first | decide | assumption)) ?_
  exact g_ireturn dX8_length_4 rfl rfl rfl rfl
theorem c_tfull (hn : M 8 0 1 = nI n) (h60 : n ≤ 60) : zC w mX8_isFull d [vR 8 0] (zP M O) (zrI (zb (decide (n = 60)))) (zP M O) := by
  refine zC_of (cr := 0) (L0 := [vR 8 0]) rfl (by decide) (by decide) rfl (Nat.le_of_ble_eq_true rfl) rfl ?_
  by_cases h : n = 60
  · rw [decide_eq_true h]
    refine g_aload_n (n := 1) dX8_isFull_0 rfl rfl ?_
    refine gf_X8_15 (n := 4) dX8_isFull_1 rfl rfl (z_lvP (by first | decide | assumption)) ?_
    refine g_bipush (n := 6) dX8_isFull_4 rfl k_bp_60 ?_
    refine g_icmp_lt (n := 9) (t := 13) dX8_isFull_6 rfl (by decide) (fun q9 => absurd q9 (by rw [hn, h]; exact Int32.not_lt.mpr (Int32.le_refl _))) (fun _ => ?_)
    refine g_iconst (n := 10) dX8_isFull_9 rfl k_ic_1 ?_
    refine g_goto (n := 0) (t := 14) dX8_isFull_10 (by decide) ?_
    exact g_ireturn dX8_isFull_14 rfl rfl rfl rfl
  · rw [decide_eq_false h]
    refine g_aload_n (n := 1) dX8_isFull_0 rfl rfl ?_
    refine gf_X8_15 (n := 4) dX8_isFull_1 rfl rfl (z_lvP (by first | decide | assumption)) ?_
    refine g_bipush (n := 6) dX8_isFull_4 rfl k_bp_60 ?_
    refine g_icmp_lt (n := 9) (t := 13) dX8_isFull_6 rfl (by decide) (fun _ => ?_) (fun q9 => absurd (by rw [hn]; exact nI_lt (b := 60) (by omega) (by decide)) q9)
    refine g_iconst (n := 14) dX8_isFull_13 rfl k_ic_0 ?_
    exact g_ireturn dX8_isFull_14 rfl rfl rfl rfl
theorem c_tcodeN (hn : M 8 0 1 = nI n) (h60 : n ≤ 60) {x : Int32} (hx : z_ok x n = false) : zC w mX8_code d [vR 8 0, vI x] (zP M O) (zrI (nI 0)) (zP M O) := by
  refine zC_of (cr := 0) (L0 := [vR 8 0, vI x]) rfl (by decide) (by decide) rfl (Nat.le_of_ble_eq_true rfl) rfl ?_
  refine g_iload_n (n := 1) dX8_code_0 rfl rfl ?_
  refine g_if_lt (n := 4) (t := 27) dX8_code_1 rfl (by decide) (fun c1 => ?_) (fun c1 => ?_)
  · refine g_iconst (n := 28) dX8_code_27 rfl k_ic_0 ?_
    exact g_ireturn dX8_code_28 rfl rfl rfl rfl
  · refine g_iload_n (n := 5) dX8_code_4 rfl rfl ?_
    refine g_aload_n (n := 6) dX8_code_5 rfl rfl ?_
    refine gf_X8_15 (n := 9) dX8_code_6 rfl rfl (z_lvP (by first | decide | assumption)) ?_
    refine g_icmp_ge (n := 12) (t := 27) dX8_code_9 rfl (by decide) (fun c9 => ?_) (fun c9 => ?_)
    · refine g_iconst (n := 28) dX8_code_27 rfl k_ic_0 ?_
      exact g_ireturn dX8_code_28 rfl rfl rfl rfl
    · rw [hn] at c9
      rw [z_ok_in c1 c9] at hx
      cases hx
theorem c_tcode (hn : M 8 0 1 = nI n) (h60 : n ≤ 60) {j : Nat} (hj : j < 2 ^ 31) : zC w mX8_code d [vR 8 0, vI (nI j)] (zP M O) (zrI (tCode (M 31 0) n j)) (zP M O) := by
  unfold tCode
  by_cases h : j < n
  · rw [if_pos h]
    have h6 : j < 60 := by omega
    refine zC_of (cr := 0) (L0 := [vR 8 0, vI (nI j)]) rfl (by decide) (by decide) rfl (Nat.le_of_ble_eq_true rfl) rfl ?_
    refine g_iload_n (n := 1) dX8_code_0 rfl rfl ?_
    refine g_if_lt (n := 4) (t := 27) dX8_code_1 rfl (by decide) (fun q9 => absurd q9 (nI_pos hj)) (fun _ => ?_)
    refine g_iload_n (n := 5) dX8_code_4 rfl rfl ?_
    refine g_aload_n (n := 6) dX8_code_5 rfl rfl ?_
    refine gf_X8_15 (n := 9) dX8_code_6 rfl rfl (z_lvP (by first | decide | assumption)) ?_
    refine g_icmp_ge (n := 12) (t := 27) dX8_code_9 rfl (by decide) (fun q9 => absurd q9 (by rw [hn]; exact nI_ge h (by omega))) (fun _ => ?_)
    refine g_iload_n (n := 13) dX8_code_12 rfl rfl ?_
    refine g_bipush (n := 15) dX8_code_13 rfl k_bp_60 ?_
    refine g_icmp_ge (n := 18) (t := 27) dX8_code_15 rfl (by decide) (fun q9 => absurd q9 (nI_ge h6 (by decide))) (fun _ => ?_)
    refine g_aload_n (n := 19) dX8_code_18 rfl rfl ?_
    refine gf_X8_9 (n := 22) dX8_code_19 rfl rfl (z_lvP (by first | decide | assumption)) rfl ?_
    refine g_iload_n (n := 23) dX8_code_22 rfl rfl ?_
    refine g_iald (n := 24) dX8_code_23 rfl (by decide) (z_lvP (by first | decide | assumption)) rfl (by show _ < 60; first | assumption | omega) ?_
    refine g_goto (n := 0) (t := 28) dX8_code_24 (by decide) ?_
    exact g_ireturn dX8_code_28 rfl rfl rfl rfl
  · rw [if_neg h]
    exact c_tcodeN hn h60 (z_ok_ge (nI_le (by omega) hj))
theorem c_tprev (hn : M 8 0 1 = nI n) (h60 : n ≤ 60) {j : Nat} (hj : j ≤ n) : zC w mX8_code d [vR 8 0, vI (nI j - nI 1)] (zP M O) (zrI (tPv (M 31 0) j)) (zP M O) := by
  cases j with
  | zero => exact c_tcodeN hn h60 (z_ok_neg (by decide))
  | succ j =>
    have e1 : nI (j + 1) - nI 1 = nI j := (pk_sub (by omega)).trans rfl
    have c1 := c_tcode (w := w) (d := d) (M := M) (O := O) hn h60 (j := j) (by omega)
    rw [e1]
    unfold tCode at c1
    rw [if_pos (by omega)] at c1
    exact c1
theorem c_tdigit (hn : M 8 0 1 = nI n) (h60 : n ≤ 60) {j : Nat} (hj : j < 2 ^ 31) : zC w mX8_digit (d + 1) [vR 8 0, vI (nI j)] (zP M O) (zrI (tDig (M 31 0) n j)) (zP M O) := by
  refine zC_of (cr := 0) (L0 := [vR 8 0, vI (nI j)]) rfl (by decide) (by decide) rfl (Nat.le_of_ble_eq_true rfl) rfl ?_
  refine g_aload_n (n := 1) dX8_digit_0 rfl rfl ?_
  refine g_iload_n (n := 2) dX8_digit_1 rfl rfl ?_
  refine g_cVv (n := 5) (c_tcode hn h60 hj) dX8_digit_2 rfl kw_X8_19 rfl (by decide) (z_lvP (by first | decide | assumption)) (Nat.le_of_ble_eq_true rfl) ⟨Nat.le_refl _, Nat.le_refl _⟩ ?_ rfl
  refine g_bipush (n := 7) dX8_digit_5 rfl k_bp_48 ?_
  refine g_isub (n := 8) dX8_digit_7 rfl ?_
  exact g_ireturn dX8_digit_8 rfl rfl rfl rfl
theorem c_tadd (hn : M 8 0 1 = nI n) (h60 : n < 60) (x : Int32) : zC w mX8_add d [vR 8 0, vI x] (zP M O) (zrI (nI (n + 1))) (zP (u3 (u3 M 31 0 n x) 8 0 1 (nI (n + 1))) O) := by
  refine zC_of (cr := 0) (L0 := [vR 8 0, vI x]) rfl (by decide) (by decide) rfl (Nat.le_of_ble_eq_true rfl) rfl ?_
  refine g_aload_n (n := 1) dX8_add_0 rfl rfl ?_
  refine gf_X8_15 (n := 4) dX8_add_1 rfl rfl (z_lvP (by first | decide | assumption)) ?_
  refine g_if_lt (n := 7) (t := 36) dX8_add_4 rfl (by decide) (fun q9 => absurd q9 (by rw [hn]; exact nI_pos (by omega))) (fun _ => ?_)
  refine g_aload_n (n := 8) dX8_add_7 rfl rfl ?_
  refine gf_X8_15 (n := 11) dX8_add_8 rfl rfl (z_lvP (by first | decide | assumption)) ?_
  refine g_bipush (n := 13) dX8_add_11 rfl k_bp_60 ?_
  refine g_icmp_ge (n := 16) (t := 36) dX8_add_13 rfl (by decide) (fun q9 => absurd q9 (by rw [hn]; exact nI_ge h60 (by decide))) (fun _ => ?_)
  refine g_aload_n (n := 17) dX8_add_16 rfl rfl ?_
  refine gf_X8_9 (n := 20) dX8_add_17 rfl rfl (z_lvP (by first | decide | assumption)) rfl ?_
  refine g_aload_n (n := 21) dX8_add_20 rfl rfl ?_
  refine gf_X8_15 (n := 24) dX8_add_21 rfl rfl (z_lvP (by first | decide | assumption)) ?_
  refine g_iload_n (n := 25) dX8_add_24 rfl rfl ?_
  rw [hn]
  refine g_iast (a := n) (n := 26) dX8_add_25 rfl (by decide) (z_lvP (by first | decide | assumption)) rfl (show n < 60 from h60) ?_
  refine g_aload_n (n := 27) dX8_add_26 rfl rfl ?_
  refine g_dup (n := 28) dX8_add_27 rfl rfl ?_
  refine gf_X8_15 (n := 31) dX8_add_28 rfl rfl (z_lvP (by first | decide | assumption)) ?_
  rw [show (u3 M 31 0 n x) 8 0 1 = nI n from hn]
  refine g_iconst (n := 32) dX8_add_31 rfl k_ic_1 ?_
  refine g_iadd (n := 33) dX8_add_32 rfl ?_
  rw [nI_add]
  refine gw_X8_15 (n := 36) dX8_add_33 rfl rfl (z_lvP (by first | decide | assumption)) ?_
  refine g_aload_n (n := 37) dX8_add_36 rfl rfl ?_
  refine gf_X8_15 (n := 40) dX8_add_37 rfl rfl (z_lvP (by first | decide | assumption)) ?_
  exact g_ireturn dX8_add_40 rfl rfl rfl rfl
theorem c_twipe : zC w mX8_wipe d [vR 8 0] (zP M O) (zrI (M 8 0 1)) (zP (u3 M 8 0 1 (nI 0)) O) := by
  refine zC_of (cr := 0) (L0 := [vR 8 0, vU]) rfl (by decide) (by decide) rfl (Nat.le_of_ble_eq_true rfl) rfl ?_
  refine g_aload_n (n := 1) dX8_wipe_0 rfl rfl ?_
  refine gf_X8_15 (n := 4) dX8_wipe_1 rfl rfl (z_lvP (by first | decide | assumption)) ?_
  refine g_istore1 (n := 5) dX8_wipe_4 rfl (by decide) rfl ?_
  refine g_aload_n (n := 6) dX8_wipe_5 rfl rfl ?_
  refine g_iconst (n := 7) dX8_wipe_6 rfl k_ic_0 ?_
  refine gw_X8_15 (n := 10) dX8_wipe_7 rfl rfl (z_lvP (by first | decide | assumption)) ?_
  refine g_iload_n (n := 11) dX8_wipe_10 rfl rfl ?_
  exact g_ireturn dX8_wipe_11 rfl rfl rfl rfl
theorem c_tbegins (hn : M 8 0 1 = nI n) (h60 : n ≤ 60) {j : Nat} (hj : j ≤ n) : zC w mX8_beginsOrder (d + 1) [vR 8 0, vI (nI j)] (zP M O) (zrI (zb (tBeg (M 31 0) j))) (zP M O) := by
  refine zC_of (cr := 0) (L0 := [vR 8 0, vI (nI j)]) rfl (by decide) (by decide) rfl (Nat.le_of_ble_eq_true rfl) rfl ?_
  cases j with
  | zero =>
    refine g_iload_n (n := 1) dX8_beginsOrder_0 rfl rfl ?_
    refine g_if_eq (n := 4) (t := 16) dX8_beginsOrder_1 rfl (by decide) (fun _ => ?_) (fun q9 => absurd rfl q9)
    refine g_iconst (n := 17) dX8_beginsOrder_16 rfl k_ic_1 ?_
    refine g_goto (n := 0) (t := 21) dX8_beginsOrder_17 (by decide) ?_
    exact g_ireturn dX8_beginsOrder_21 rfl rfl rfl rfl
  | succ j =>
    have e1 : tBeg (M 31 0) (j + 1) = decide (M 31 0 j = nI 59) := rfl
    rw [e1]
    have c1 := c_tprev (w := w) (d := d) (M := M) (O := O) hn h60 hj
    rw [show tPv (M 31 0) (j + 1) = M 31 0 j from rfl] at c1
    refine g_iload_n (n := 1) dX8_beginsOrder_0 rfl rfl ?_
    refine g_if_eq (n := 4) (t := 16) dX8_beginsOrder_1 rfl (by decide) (fun q9 => absurd q9 (fun q => absurd ((nI_eq (b := 0) (by omega) (by decide)).mp q) (by omega))) (fun _ => ?_)
    refine g_aload_n (n := 5) dX8_beginsOrder_4 rfl rfl ?_
    refine g_iload_n (n := 6) dX8_beginsOrder_5 rfl rfl ?_
    refine g_iconst (n := 7) dX8_beginsOrder_6 rfl k_ic_1 ?_
    refine g_isub (n := 8) dX8_beginsOrder_7 rfl ?_
    refine g_cVv (n := 11) c1 dX8_beginsOrder_8 rfl kw_X8_19 rfl (by decide) (z_lvP (by first | decide | assumption)) (Nat.le_of_ble_eq_true rfl) ⟨Nat.le_refl _, Nat.le_refl _⟩ ?_ rfl
    refine g_bipush (n := 13) dX8_beginsOrder_11 rfl k_bp_59 ?_
    refine g_icmp_ne (n := 16) (t := 20) dX8_beginsOrder_13 rfl (by decide) (fun c13 => ?_) (fun c13 => ?_)
    · rw [decide_eq_false (show ¬ M 31 0 j = nI 59 from c13)]
      refine g_iconst (n := 21) dX8_beginsOrder_20 rfl k_ic_0 ?_
      exact g_ireturn dX8_beginsOrder_21 rfl rfl rfl rfl
    · rw [decide_eq_true (show M 31 0 j = nI 59 from c13)]
      refine g_iconst (n := 17) dX8_beginsOrder_16 rfl k_ic_1 ?_
      refine g_goto (n := 0) (t := 21) dX8_beginsOrder_17 (by decide) ?_
      exact g_ireturn dX8_beginsOrder_21 rfl rfl rfl rfl
theorem c_tloaves (hn : M 8 0 1 = nI n) (h60 : n ≤ 60) {j : Nat} (hj : j ≤ n) : zC w mX8_loaves (d + 2) [vR 8 0, vI (nI j)] (zP M O) (zrI (tLoa (M 31 0) n j)) (zP M O) := by
  refine zC_of (cr := 0) (L0 := [vR 8 0, vI (nI j)]) rfl (by decide) (by decide) rfl (Nat.le_of_ble_eq_true rfl) rfl ?_
  unfold tLoa
  refine g_aload_n (n := 1) dX8_loaves_0 rfl rfl ?_
  refine g_iload_n (n := 2) dX8_loaves_1 rfl rfl ?_
  refine g_iconst (n := 3) dX8_loaves_2 rfl k_ic_4 ?_
  refine g_iadd (n := 4) dX8_loaves_3 rfl ?_
  rw [nI_add]
  refine g_cVv (n := 7) (c_tcode hn h60 (by omega)) dX8_loaves_4 rfl kw_X8_19 rfl (by decide) (z_lvP (by first | decide | assumption)) (Nat.le_of_ble_eq_true rfl) ⟨Nat.le_refl _, Nat.le_refl _⟩ ?_ rfl
  refine g_bipush (n := 9) dX8_loaves_7 rfl k_bp_42 ?_
  refine g_icmp_ne (n := 12) (t := 22) dX8_loaves_9 rfl (by decide) (fun c9 => ?_) (fun c9 => ?_)
  · rw [if_neg (show ¬ tCode (M 31 0) n (j + 4) = nI 42 from c9)]
    refine g_iconst (n := 23) dX8_loaves_22 rfl k_ic_1 ?_
    exact g_ireturn dX8_loaves_23 rfl rfl rfl rfl
  · rw [if_pos (show tCode (M 31 0) n (j + 4) = nI 42 from c9)]
    refine g_aload_n (n := 13) dX8_loaves_12 rfl rfl ?_
    refine g_iload_n (n := 14) dX8_loaves_13 rfl rfl ?_
    refine g_iconst (n := 15) dX8_loaves_14 rfl k_ic_5 ?_
    refine g_iadd (n := 16) dX8_loaves_15 rfl ?_
    rw [nI_add]
    refine g_cVv (n := 19) (c_tdigit hn h60 (by omega)) dX8_loaves_16 rfl kw_X8_27 rfl (by decide) (z_lvP (by first | decide | assumption)) (Nat.le_of_ble_eq_true rfl) ⟨Nat.le_refl _, Nat.le_refl _⟩ ?_ rfl
    refine g_goto (n := 0) (t := 23) dX8_loaves_19 (by decide) ?_
    exact g_ireturn dX8_loaves_23 rfl rfl rfl rfl
theorem c_tcost (hn : M 8 0 1 = nI n) (h60 : n ≤ 60) {j : Nat} (hj : j ≤ n) : zC w mX8_cost (d + 2) [vR 8 0, vI (nI j)] (zP M O) (zrI (tCost (M 31 0) n j)) (zP M O) := by
  refine zC_of (cr := 0) (L0 := [vR 8 0, vI (nI j)]) rfl (by decide) (by decide) rfl (Nat.le_of_ble_eq_true rfl) rfl ?_
  unfold tCost
  refine g_aload_n (n := 1) dX8_cost_0 rfl rfl ?_
  refine g_iload_n (n := 2) dX8_cost_1 rfl rfl ?_
  refine g_iconst (n := 3) dX8_cost_2 rfl k_ic_5 ?_
  refine g_iadd (n := 4) dX8_cost_3 rfl ?_
  rw [nI_add]
  have ci := c_isIn (w := w) (d := d + 1) (σ := zP M O) (tCode (M 31 0) n (j + 5)) (nI 48) (nI 57)
  cases hb : tIn (tCode (M 31 0) n (j + 5)) (nI 48) (nI 57)
  · rw [hb] at ci
    refine g_cVv (n := 7) (c_tcode hn h60 (by omega)) dX8_cost_4 rfl kw_X8_19 rfl (by decide) (z_lvP (by first | decide | assumption)) (Nat.le_of_ble_eq_true rfl) ⟨Nat.le_refl _, Nat.le_refl _⟩ ?_ rfl
    refine g_bipush (n := 9) dX8_cost_7 rfl k_bp_48 ?_
    refine g_bipush (n := 11) dX8_cost_9 rfl k_bp_57 ?_
    refine g_cSv (n := 14) ci dX8_cost_11 rfl kw_X8_30 (Nat.le_of_ble_eq_true rfl) ⟨Nat.le_refl _, Nat.le_refl _⟩ ?_ rfl
    refine g_if_eq (n := 17) (t := 38) dX8_cost_14 rfl (by decide) (fun _ => ?_) (fun q9 => absurd rfl q9)
    refine g_aload_n (n := 39) dX8_cost_38 rfl rfl ?_
    refine g_iload_n (n := 40) dX8_cost_39 rfl rfl ?_
    refine g_iconst (n := 41) dX8_cost_40 rfl k_ic_4 ?_
    refine g_iadd (n := 42) dX8_cost_41 rfl ?_
    rw [nI_add]
    refine g_cVv (n := 45) (c_tdigit hn h60 (by omega)) dX8_cost_42 rfl kw_X8_27 rfl (by decide) (z_lvP (by first | decide | assumption)) (Nat.le_of_ble_eq_true rfl) ⟨Nat.le_refl _, Nat.le_refl _⟩ ?_ rfl
    exact g_ireturn dX8_cost_45 rfl rfl rfl rfl
  · rw [hb] at ci
    refine g_cVv (n := 7) (c_tcode hn h60 (by omega)) dX8_cost_4 rfl kw_X8_19 rfl (by decide) (z_lvP (by first | decide | assumption)) (Nat.le_of_ble_eq_true rfl) ⟨Nat.le_refl _, Nat.le_refl _⟩ ?_ rfl
    refine g_bipush (n := 9) dX8_cost_7 rfl k_bp_48 ?_
    refine g_bipush (n := 11) dX8_cost_9 rfl k_bp_57 ?_
    refine g_cSv (n := 14) ci dX8_cost_11 rfl kw_X8_30 (Nat.le_of_ble_eq_true rfl) ⟨Nat.le_refl _, Nat.le_refl _⟩ ?_ rfl
    refine g_if_eq (n := 17) (t := 38) dX8_cost_14 rfl (by decide) (fun q9 => absurd q9 (by decide)) (fun _ => ?_)
    refine g_bipush (n := 19) dX8_cost_17 rfl k_bp_10 ?_
    refine g_aload_n (n := 20) dX8_cost_19 rfl rfl ?_
    refine g_iload_n (n := 21) dX8_cost_20 rfl rfl ?_
    refine g_iconst (n := 22) dX8_cost_21 rfl k_ic_4 ?_
    refine g_iadd (n := 23) dX8_cost_22 rfl ?_
    rw [nI_add]
    refine g_cVv (n := 26) (c_tdigit hn h60 (by omega)) dX8_cost_23 rfl kw_X8_27 rfl (by decide) (z_lvP (by first | decide | assumption)) (Nat.le_of_ble_eq_true rfl) ⟨Nat.le_refl _, Nat.le_refl _⟩ ?_ rfl
    refine g_imul (n := 27) dX8_cost_26 rfl ?_
    refine g_aload_n (n := 28) dX8_cost_27 rfl rfl ?_
    refine g_iload_n (n := 29) dX8_cost_28 rfl rfl ?_
    refine g_iconst (n := 30) dX8_cost_29 rfl k_ic_5 ?_
    refine g_iadd (n := 31) dX8_cost_30 rfl ?_
    rw [nI_add]
    refine g_cVv (n := 34) (c_tdigit hn h60 (by omega)) dX8_cost_31 rfl kw_X8_27 rfl (by decide) (z_lvP (by first | decide | assumption)) (Nat.le_of_ble_eq_true rfl) ⟨Nat.le_refl _, Nat.le_refl _⟩ ?_ rfl
    refine g_iadd (n := 35) dX8_cost_34 rfl ?_
    refine g_goto (n := 0) (t := 45) dX8_cost_35 (by decide) ?_
    exact g_ireturn dX8_cost_45 rfl rfl rfl rfl
theorem c_tplace (hn : M 8 0 1 = nI n) (h60 : n ≤ 60) {j : Nat} (hj : j < n) {p : Nat} (hp : p < 14) : zC w mX8_placeAfter (d + 2) [vR 8 0, vI (nI p), vI (nI j)] (zP M O) (zrI (nI (tPl p (M 31 0 j) (tPv (M 31 0) j)))) (zP M O) := by
  have cc := c_tcode (w := w) (d := d + 1) (M := M) (O := O) hn h60 (j := j) (by omega)
  unfold tCode at cc
  rw [if_pos hj] at cc
  obtain ⟨c, hc⟩ : ∃ c, c = M 31 0 j := ⟨_, rfl⟩
  have cv := c_tprev (w := w) (d := d + 1) (M := M) (O := O) hn h60 (j := j) (by omega)
  obtain ⟨q, hq⟩ : ∃ q, q = tPv (M 31 0) j := ⟨_, rfl⟩
  rw [← hc] at cc ⊢
  rw [← hq] at cv ⊢
  refine zC_of (cr := 0) (L0 := [vR 8 0, vI (nI p), vI (nI j), vU]) rfl (by decide) (by decide) rfl (Nat.le_of_ble_eq_true rfl) rfl ?_
  refine g_aload_n (n := 1) dX8_placeAfter_0 rfl rfl ?_
  refine g_iload_n (n := 2) dX8_placeAfter_1 rfl rfl ?_
  refine g_cVv (n := 5) cc dX8_placeAfter_2 rfl kw_X8_19 rfl (by decide) (z_lvP (by first | decide | assumption)) (Nat.le_of_ble_eq_true rfl) ⟨Nat.le_refl _, Nat.le_refl _⟩ ?_ rfl
  refine g_istore3 (n := 6) dX8_placeAfter_5 rfl (by decide) rfl ?_
  refine g_iload_n (n := 7) dX8_placeAfter_6 rfl rfl ?_
  match p, hp with
  | 0, _ =>
    refine g_tabIn (n := 0) (t := 72) dX8_placeAfter_7 (by decide) (by decide) rfl (by decide) ?_
    refine g_iload_n (n := 73) dX8_placeAfter_72 rfl rfl ?_
    refine g_cSv (n := 76) (c_afterLetter c) dX8_placeAfter_73 rfl kw_X8_34 (Nat.le_of_ble_eq_true rfl) ⟨Nat.le_refl _, Nat.le_refl _⟩ ?_ rfl
    exact g_ireturn dX8_placeAfter_76 rfl rfl rfl rfl
  | 1, _ =>
    have ci := c_isTownDigit (w := w) (d := d) (σ := zP M O) c
    have e1 : tPl 1 c q = if tIn c (nI 48) (nI 55) then 2 else 13 := rfl
    rw [e1]
    cases hb : tIn c (nI 48) (nI 55)
    · rw [hb] at ci
      refine g_tabIn (n := 0) (t := 77) dX8_placeAfter_7 (by decide) (by decide) rfl (by decide) ?_
      refine g_iload_n (n := 78) dX8_placeAfter_77 rfl rfl ?_
      refine g_cSv (n := 81) ci dX8_placeAfter_78 rfl kw_X8_37 (Nat.le_of_ble_eq_true rfl) ⟨Nat.le_refl _, Nat.le_refl _⟩ ?_ rfl
      refine g_if_eq (n := 84) (t := 88) dX8_placeAfter_81 rfl (by decide) (fun _ => ?_) (fun q9 => absurd rfl q9)
      refine g_bipush (n := 90) dX8_placeAfter_88 rfl k_bp_13 ?_
      exact g_ireturn dX8_placeAfter_90 rfl rfl rfl rfl
    · rw [hb] at ci
      refine g_tabIn (n := 0) (t := 77) dX8_placeAfter_7 (by decide) (by decide) rfl (by decide) ?_
      refine g_iload_n (n := 78) dX8_placeAfter_77 rfl rfl ?_
      refine g_cSv (n := 81) ci dX8_placeAfter_78 rfl kw_X8_37 (Nat.le_of_ble_eq_true rfl) ⟨Nat.le_refl _, Nat.le_refl _⟩ ?_ rfl
      refine g_if_eq (n := 84) (t := 88) dX8_placeAfter_81 rfl (by decide) (fun q9 => absurd q9 (by decide)) (fun _ => ?_)
      refine g_iconst (n := 85) dX8_placeAfter_84 rfl k_ic_2 ?_
      refine g_goto (n := 0) (t := 90) dX8_placeAfter_85 (by decide) ?_
      exact g_ireturn dX8_placeAfter_90 rfl rfl rfl rfl
  | 2, _ =>
    have e1 : tPl 2 c q = if c = nI 62 then 3 else 13 := rfl
    rw [e1]
    refine g_tabIn (n := 0) (t := 91) dX8_placeAfter_7 (by decide) (by decide) rfl (by decide) ?_
    refine g_iload_n (n := 92) dX8_placeAfter_91 rfl rfl ?_
    refine g_bipush (n := 94) dX8_placeAfter_92 rfl k_bp_62 ?_
    refine g_icmp_ne (n := 97) (t := 101) dX8_placeAfter_94 rfl (by decide) (fun c94 => ?_) (fun c94 => ?_)
    · rw [if_neg (show ¬ c = nI 62 from c94)]
      refine g_bipush (n := 103) dX8_placeAfter_101 rfl k_bp_13 ?_
      exact g_ireturn dX8_placeAfter_103 rfl rfl rfl rfl
    · rw [if_pos (show c = nI 62 from c94)]
      refine g_iconst (n := 98) dX8_placeAfter_97 rfl k_ic_3 ?_
      refine g_goto (n := 0) (t := 103) dX8_placeAfter_98 (by decide) ?_
      exact g_ireturn dX8_placeAfter_103 rfl rfl rfl rfl
  | 3, _ =>
    have ci := c_isIn (w := w) (d := d + 1) (σ := zP M O) c (nI 48) (nI 51)
    have e1 : tPl 3 c q = if tIn c (nI 48) (nI 51) then 4 else 13 := rfl
    rw [e1]
    cases hb : tIn c (nI 48) (nI 51)
    · rw [hb] at ci
      refine g_tabIn (n := 0) (t := 104) dX8_placeAfter_7 (by decide) (by decide) rfl (by decide) ?_
      refine g_iload_n (n := 105) dX8_placeAfter_104 rfl rfl ?_
      refine g_bipush (n := 107) dX8_placeAfter_105 rfl k_bp_48 ?_
      refine g_bipush (n := 109) dX8_placeAfter_107 rfl k_bp_51 ?_
      refine g_cSv (n := 112) ci dX8_placeAfter_109 rfl kw_X8_30 (Nat.le_of_ble_eq_true rfl) ⟨Nat.le_refl _, Nat.le_refl _⟩ ?_ rfl
      refine g_if_eq (n := 115) (t := 119) dX8_placeAfter_112 rfl (by decide) (fun _ => ?_) (fun q9 => absurd rfl q9)
      refine g_bipush (n := 121) dX8_placeAfter_119 rfl k_bp_13 ?_
      exact g_ireturn dX8_placeAfter_121 rfl rfl rfl rfl
    · rw [hb] at ci
      refine g_tabIn (n := 0) (t := 104) dX8_placeAfter_7 (by decide) (by decide) rfl (by decide) ?_
      refine g_iload_n (n := 105) dX8_placeAfter_104 rfl rfl ?_
      refine g_bipush (n := 107) dX8_placeAfter_105 rfl k_bp_48 ?_
      refine g_bipush (n := 109) dX8_placeAfter_107 rfl k_bp_51 ?_
      refine g_cSv (n := 112) ci dX8_placeAfter_109 rfl kw_X8_30 (Nat.le_of_ble_eq_true rfl) ⟨Nat.le_refl _, Nat.le_refl _⟩ ?_ rfl
      refine g_if_eq (n := 115) (t := 119) dX8_placeAfter_112 rfl (by decide) (fun q9 => absurd q9 (by decide)) (fun _ => ?_)
      refine g_iconst (n := 116) dX8_placeAfter_115 rfl k_ic_4 ?_
      refine g_goto (n := 0) (t := 121) dX8_placeAfter_116 (by decide) ?_
      exact g_ireturn dX8_placeAfter_121 rfl rfl rfl rfl
  | 4, _ =>
    have e1 : tPl 4 c q = if c = nI 42 then 5 else tOrd c := rfl
    rw [e1]
    refine g_tabIn (n := 0) (t := 122) dX8_placeAfter_7 (by decide) (by decide) rfl (by decide) ?_
    refine g_iload_n (n := 123) dX8_placeAfter_122 rfl rfl ?_
    refine g_bipush (n := 125) dX8_placeAfter_123 rfl k_bp_42 ?_
    refine g_icmp_ne (n := 128) (t := 132) dX8_placeAfter_125 rfl (by decide) (fun c125 => ?_) (fun c125 => ?_)
    · rw [if_neg (show ¬ c = nI 42 from c125)]
      refine g_iload_n (n := 133) dX8_placeAfter_132 rfl rfl ?_
      refine g_cSv (n := 136) (c_afterOrder c) dX8_placeAfter_133 rfl kw_X8_41 (Nat.le_of_ble_eq_true rfl) ⟨Nat.le_refl _, Nat.le_refl _⟩ ?_ rfl
      exact g_ireturn dX8_placeAfter_136 rfl rfl rfl rfl
    · rw [if_pos (show c = nI 42 from c125)]
      refine g_iconst (n := 129) dX8_placeAfter_128 rfl k_ic_5 ?_
      refine g_goto (n := 0) (t := 136) dX8_placeAfter_129 (by decide) ?_
      exact g_ireturn dX8_placeAfter_136 rfl rfl rfl rfl
  | 5, _ =>
    have ci := c_isIn (w := w) (d := d + 1) (σ := zP M O) c (nI 50) (nI 57)
    have e1 : tPl 5 c q = if tIn c (nI 50) (nI 57) then 12 else 13 := rfl
    rw [e1]
    cases hb : tIn c (nI 50) (nI 57)
    · rw [hb] at ci
      refine g_tabIn (n := 0) (t := 137) dX8_placeAfter_7 (by decide) (by decide) rfl (by decide) ?_
      refine g_iload_n (n := 138) dX8_placeAfter_137 rfl rfl ?_
      refine g_bipush (n := 140) dX8_placeAfter_138 rfl k_bp_50 ?_
      refine g_bipush (n := 142) dX8_placeAfter_140 rfl k_bp_57 ?_
      refine g_cSv (n := 145) ci dX8_placeAfter_142 rfl kw_X8_30 (Nat.le_of_ble_eq_true rfl) ⟨Nat.le_refl _, Nat.le_refl _⟩ ?_ rfl
      refine g_if_eq (n := 148) (t := 153) dX8_placeAfter_145 rfl (by decide) (fun _ => ?_) (fun q9 => absurd rfl q9)
      refine g_bipush (n := 155) dX8_placeAfter_153 rfl k_bp_13 ?_
      exact g_ireturn dX8_placeAfter_155 rfl rfl rfl rfl
    · rw [hb] at ci
      refine g_tabIn (n := 0) (t := 137) dX8_placeAfter_7 (by decide) (by decide) rfl (by decide) ?_
      refine g_iload_n (n := 138) dX8_placeAfter_137 rfl rfl ?_
      refine g_bipush (n := 140) dX8_placeAfter_138 rfl k_bp_50 ?_
      refine g_bipush (n := 142) dX8_placeAfter_140 rfl k_bp_57 ?_
      refine g_cSv (n := 145) ci dX8_placeAfter_142 rfl kw_X8_30 (Nat.le_of_ble_eq_true rfl) ⟨Nat.le_refl _, Nat.le_refl _⟩ ?_ rfl
      refine g_if_eq (n := 148) (t := 153) dX8_placeAfter_145 rfl (by decide) (fun q9 => absurd q9 (by decide)) (fun _ => ?_)
      refine g_bipush (n := 150) dX8_placeAfter_148 rfl k_bp_12 ?_
      refine g_goto (n := 0) (t := 155) dX8_placeAfter_150 (by decide) ?_
      exact g_ireturn dX8_placeAfter_155 rfl rfl rfl rfl
  | 6, _ =>
    have ci := c_isTownDigit (w := w) (d := d) (σ := zP M O) c
    have e1 : tPl 6 c q = if tIn c (nI 48) (nI 55) then 7 else 13 := rfl
    rw [e1]
    cases hb : tIn c (nI 48) (nI 55)
    · rw [hb] at ci
      refine g_tabIn (n := 0) (t := 156) dX8_placeAfter_7 (by decide) (by decide) rfl (by decide) ?_
      refine g_iload_n (n := 157) dX8_placeAfter_156 rfl rfl ?_
      refine g_cSv (n := 160) ci dX8_placeAfter_157 rfl kw_X8_37 (Nat.le_of_ble_eq_true rfl) ⟨Nat.le_refl _, Nat.le_refl _⟩ ?_ rfl
      refine g_if_eq (n := 163) (t := 168) dX8_placeAfter_160 rfl (by decide) (fun _ => ?_) (fun q9 => absurd rfl q9)
      refine g_bipush (n := 170) dX8_placeAfter_168 rfl k_bp_13 ?_
      exact g_ireturn dX8_placeAfter_170 rfl rfl rfl rfl
    · rw [hb] at ci
      refine g_tabIn (n := 0) (t := 156) dX8_placeAfter_7 (by decide) (by decide) rfl (by decide) ?_
      refine g_iload_n (n := 157) dX8_placeAfter_156 rfl rfl ?_
      refine g_cSv (n := 160) ci dX8_placeAfter_157 rfl kw_X8_37 (Nat.le_of_ble_eq_true rfl) ⟨Nat.le_refl _, Nat.le_refl _⟩ ?_ rfl
      refine g_if_eq (n := 163) (t := 168) dX8_placeAfter_160 rfl (by decide) (fun q9 => absurd q9 (by decide)) (fun _ => ?_)
      refine g_bipush (n := 165) dX8_placeAfter_163 rfl k_bp_7 ?_
      refine g_goto (n := 0) (t := 170) dX8_placeAfter_165 (by decide) ?_
      exact g_ireturn dX8_placeAfter_170 rfl rfl rfl rfl
  | 7, _ =>
    have ci := c_isTownDigit (w := w) (d := d) (σ := zP M O) c
    have e1 : tPl 7 c q = if tIn c (nI 48) (nI 55) then (if c = q then 13 else 8) else 13 := rfl
    rw [e1]
    cases hb : tIn c (nI 48) (nI 55)
    · rw [hb] at ci
      refine g_tabIn (n := 0) (t := 171) dX8_placeAfter_7 (by decide) (by decide) rfl (by decide) ?_
      refine g_iload_n (n := 172) dX8_placeAfter_171 rfl rfl ?_
      refine g_cSv (n := 175) ci dX8_placeAfter_172 rfl kw_X8_37 (Nat.le_of_ble_eq_true rfl) ⟨Nat.le_refl _, Nat.le_refl _⟩ ?_ rfl
      refine g_if_eq (n := 178) (t := 194) dX8_placeAfter_175 rfl (by decide) (fun _ => ?_) (fun q9 => absurd rfl q9)
      refine g_bipush (n := 196) dX8_placeAfter_194 rfl k_bp_13 ?_
      exact g_ireturn dX8_placeAfter_196 rfl rfl rfl rfl
    · rw [hb] at ci
      refine g_tabIn (n := 0) (t := 171) dX8_placeAfter_7 (by decide) (by decide) rfl (by decide) ?_
      refine g_iload_n (n := 172) dX8_placeAfter_171 rfl rfl ?_
      refine g_cSv (n := 175) ci dX8_placeAfter_172 rfl kw_X8_37 (Nat.le_of_ble_eq_true rfl) ⟨Nat.le_refl _, Nat.le_refl _⟩ ?_ rfl
      refine g_if_eq (n := 178) (t := 194) dX8_placeAfter_175 rfl (by decide) (fun q9 => absurd q9 (by decide)) (fun _ => ?_)
      refine g_iload_n (n := 179) dX8_placeAfter_178 rfl rfl ?_
      refine g_aload_n (n := 180) dX8_placeAfter_179 rfl rfl ?_
      refine g_iload_n (n := 181) dX8_placeAfter_180 rfl rfl ?_
      refine g_iconst (n := 182) dX8_placeAfter_181 rfl k_ic_1 ?_
      refine g_isub (n := 183) dX8_placeAfter_182 rfl ?_
      refine g_cVv (n := 186) cv dX8_placeAfter_183 rfl kw_X8_19 rfl (by decide) (z_lvP (by first | decide | assumption)) (Nat.le_of_ble_eq_true rfl) ⟨Nat.le_refl _, Nat.le_refl _⟩ ?_ rfl
      refine g_icmp_eq (n := 189) (t := 194) dX8_placeAfter_186 rfl (by decide) (fun c186 => ?_) (fun c186 => ?_)
      · rw [if_pos (show c = q from c186)]
        refine g_bipush (n := 196) dX8_placeAfter_194 rfl k_bp_13 ?_
        exact g_ireturn dX8_placeAfter_196 rfl rfl rfl rfl
      · rw [if_neg (show ¬ c = q from c186)]
        refine g_bipush (n := 191) dX8_placeAfter_189 rfl k_bp_8 ?_
        refine g_goto (n := 0) (t := 196) dX8_placeAfter_191 (by decide) ?_
        exact g_ireturn dX8_placeAfter_196 rfl rfl rfl rfl
  | 8, _ =>
    have e1 : tPl 8 c q = if c = nI 61 then 9 else 13 := rfl
    rw [e1]
    refine g_tabIn (n := 0) (t := 197) dX8_placeAfter_7 (by decide) (by decide) rfl (by decide) ?_
    refine g_iload_n (n := 198) dX8_placeAfter_197 rfl rfl ?_
    refine g_bipush (n := 200) dX8_placeAfter_198 rfl k_bp_61 ?_
    refine g_icmp_ne (n := 203) (t := 208) dX8_placeAfter_200 rfl (by decide) (fun c200 => ?_) (fun c200 => ?_)
    · rw [if_neg (show ¬ c = nI 61 from c200)]
      refine g_bipush (n := 210) dX8_placeAfter_208 rfl k_bp_13 ?_
      exact g_ireturn dX8_placeAfter_210 rfl rfl rfl rfl
    · rw [if_pos (show c = nI 61 from c200)]
      refine g_bipush (n := 205) dX8_placeAfter_203 rfl k_bp_9 ?_
      refine g_goto (n := 0) (t := 210) dX8_placeAfter_205 (by decide) ?_
      exact g_ireturn dX8_placeAfter_210 rfl rfl rfl rfl
  | 9, _ =>
    refine g_tabIn (n := 0) (t := 211) dX8_placeAfter_7 (by decide) (by decide) rfl (by decide) ?_
    refine g_iload_n (n := 212) dX8_placeAfter_211 rfl rfl ?_
    refine g_cSv (n := 215) (c_afterFirst c) dX8_placeAfter_212 rfl kw_X8_44 (Nat.le_of_ble_eq_true rfl) ⟨Nat.le_refl _, Nat.le_refl _⟩ ?_ rfl
    exact g_ireturn dX8_placeAfter_215 rfl rfl rfl rfl
  | 10, _ =>
    have ci := c_isIn (w := w) (d := d + 1) (σ := zP M O) c (nI 48) (nI 57)
    have e1 : tPl 10 c q = if tIn c (nI 48) (nI 57) then 12 else tOrd c := rfl
    rw [e1]
    cases hb : tIn c (nI 48) (nI 57)
    · rw [hb] at ci
      refine g_tabIn (n := 0) (t := 216) dX8_placeAfter_7 (by decide) (by decide) rfl (by decide) ?_
      refine g_iload_n (n := 217) dX8_placeAfter_216 rfl rfl ?_
      refine g_bipush (n := 219) dX8_placeAfter_217 rfl k_bp_48 ?_
      refine g_bipush (n := 221) dX8_placeAfter_219 rfl k_bp_57 ?_
      refine g_cSv (n := 224) ci dX8_placeAfter_221 rfl kw_X8_30 (Nat.le_of_ble_eq_true rfl) ⟨Nat.le_refl _, Nat.le_refl _⟩ ?_ rfl
      refine g_if_eq (n := 227) (t := 232) dX8_placeAfter_224 rfl (by decide) (fun _ => ?_) (fun q9 => absurd rfl q9)
      refine g_iload_n (n := 233) dX8_placeAfter_232 rfl rfl ?_
      refine g_cSv (n := 236) (c_afterOrder c) dX8_placeAfter_233 rfl kw_X8_41 (Nat.le_of_ble_eq_true rfl) ⟨Nat.le_refl _, Nat.le_refl _⟩ ?_ rfl
      exact g_ireturn dX8_placeAfter_236 rfl rfl rfl rfl
    · rw [hb] at ci
      refine g_tabIn (n := 0) (t := 216) dX8_placeAfter_7 (by decide) (by decide) rfl (by decide) ?_
      refine g_iload_n (n := 217) dX8_placeAfter_216 rfl rfl ?_
      refine g_bipush (n := 219) dX8_placeAfter_217 rfl k_bp_48 ?_
      refine g_bipush (n := 221) dX8_placeAfter_219 rfl k_bp_57 ?_
      refine g_cSv (n := 224) ci dX8_placeAfter_221 rfl kw_X8_30 (Nat.le_of_ble_eq_true rfl) ⟨Nat.le_refl _, Nat.le_refl _⟩ ?_ rfl
      refine g_if_eq (n := 227) (t := 232) dX8_placeAfter_224 rfl (by decide) (fun q9 => absurd q9 (by decide)) (fun _ => ?_)
      refine g_bipush (n := 229) dX8_placeAfter_227 rfl k_bp_12 ?_
      refine g_goto (n := 0) (t := 236) dX8_placeAfter_229 (by decide) ?_
      exact g_ireturn dX8_placeAfter_236 rfl rfl rfl rfl
  | 11, _ =>
    have ci := c_isIn (w := w) (d := d + 1) (σ := zP M O) c (nI 48) (nI 55)
    have e1 : tPl 11 c q = if tIn c (nI 48) (nI 55) then 12 else 13 := rfl
    rw [e1]
    cases hb : tIn c (nI 48) (nI 55)
    · rw [hb] at ci
      refine g_tabIn (n := 0) (t := 237) dX8_placeAfter_7 (by decide) (by decide) rfl (by decide) ?_
      refine g_iload_n (n := 238) dX8_placeAfter_237 rfl rfl ?_
      refine g_bipush (n := 240) dX8_placeAfter_238 rfl k_bp_48 ?_
      refine g_bipush (n := 242) dX8_placeAfter_240 rfl k_bp_55 ?_
      refine g_cSv (n := 245) ci dX8_placeAfter_242 rfl kw_X8_30 (Nat.le_of_ble_eq_true rfl) ⟨Nat.le_refl _, Nat.le_refl _⟩ ?_ rfl
      refine g_if_eq (n := 248) (t := 253) dX8_placeAfter_245 rfl (by decide) (fun _ => ?_) (fun q9 => absurd rfl q9)
      refine g_bipush (n := 255) dX8_placeAfter_253 rfl k_bp_13 ?_
      exact g_ireturn dX8_placeAfter_255 rfl rfl rfl rfl
    · rw [hb] at ci
      refine g_tabIn (n := 0) (t := 237) dX8_placeAfter_7 (by decide) (by decide) rfl (by decide) ?_
      refine g_iload_n (n := 238) dX8_placeAfter_237 rfl rfl ?_
      refine g_bipush (n := 240) dX8_placeAfter_238 rfl k_bp_48 ?_
      refine g_bipush (n := 242) dX8_placeAfter_240 rfl k_bp_55 ?_
      refine g_cSv (n := 245) ci dX8_placeAfter_242 rfl kw_X8_30 (Nat.le_of_ble_eq_true rfl) ⟨Nat.le_refl _, Nat.le_refl _⟩ ?_ rfl
      refine g_if_eq (n := 248) (t := 253) dX8_placeAfter_245 rfl (by decide) (fun q9 => absurd q9 (by decide)) (fun _ => ?_)
      refine g_bipush (n := 250) dX8_placeAfter_248 rfl k_bp_12 ?_
      refine g_goto (n := 0) (t := 255) dX8_placeAfter_250 (by decide) ?_
      exact g_ireturn dX8_placeAfter_255 rfl rfl rfl rfl
  | 12, _ =>
    refine g_tabIn (n := 0) (t := 256) dX8_placeAfter_7 (by decide) (by decide) rfl (by decide) ?_
    refine g_iload_n (n := 257) dX8_placeAfter_256 rfl rfl ?_
    refine g_cSv (n := 260) (c_afterOrder c) dX8_placeAfter_257 rfl kw_X8_41 (Nat.le_of_ble_eq_true rfl) ⟨Nat.le_refl _, Nat.le_refl _⟩ ?_ rfl
    exact g_ireturn dX8_placeAfter_260 rfl rfl rfl rfl
  | 13, _ =>
    refine g_tabOut (n := 0) (t := 261) dX8_placeAfter_7 (Or.inr (by decide)) (by decide) ?_
    refine g_bipush (n := 263) dX8_placeAfter_261 rfl k_bp_13 ?_
    exact g_ireturn dX8_placeAfter_263 rfl rfl rfl rfl
theorem c_tday (hn : M 8 0 1 = nI n) (h60 : n ≤ 60) : zC w mX8_isDay (d + 3) [vR 8 0] (zP M O) (zrI (zb (tDay (M 31 0) n))) (zP M O) := by
  refine zC_of (cr := 0) (L0 := [vR 8 0, vU, vU]) rfl (by decide) (by decide) rfl (Nat.le_of_ble_eq_true rfl) rfl ?_
  refine g_iconst (n := 1) dX8_isDay_0 rfl k_ic_0 ?_
  refine g_istore1 (n := 2) dX8_isDay_1 rfl (by decide) rfl ?_
  refine g_iconst (n := 3) dX8_isDay_2 rfl k_ic_0 ?_
  refine g_istore2 (n := 4) dX8_isDay_3 rfl (by decide) rfl ?_
  refine z_loop (fun j => zG w mX8_isDay (d + 3) 0 4 [vR 8 0, vI (nI (tSt (M 31 0) j)), vI (nI j)] [] (zP M O) (zrI (zb (tDay (M 31 0) n))) (zP M O)) n ?_ ?_ 0 (Nat.zero_le _)
  · have hl := tSt_lt (M 31 0) n
    unfold tDay
    refine g_iload_n (n := 5) dX8_isDay_4 rfl rfl ?_
    refine g_aload_n (n := 6) dX8_isDay_5 rfl rfl ?_
    refine gf_X8_15 (n := 9) dX8_isDay_6 rfl rfl (z_lvP (by first | decide | assumption)) ?_
    refine g_icmp_ge (n := 12) (t := 25) dX8_isDay_9 rfl (by decide) (fun _ => ?_) (fun q9 => absurd (by rw [hn]; exact Int32.le_refl _) q9)
    refine g_iload_n (n := 26) dX8_isDay_25 rfl rfl ?_
    refine g_iconst (n := 27) dX8_isDay_26 rfl k_ic_4 ?_
    refine g_icmp_eq (n := 30) (t := 42) dX8_isDay_27 rfl (by decide) (fun c27 => ?_) (fun c27 => ?_)
    · rw [decide_eq_true ((nI_eq (by omega) (by decide)).mp (show nI (tSt (M 31 0) n) = nI 4 from c27))]
      refine g_iconst (n := 43) dX8_isDay_42 rfl k_ic_1 ?_
      refine g_goto (n := 0) (t := 47) dX8_isDay_43 (by decide) ?_
      exact g_ireturn dX8_isDay_47 rfl rfl rfl rfl
    · rw [decide_eq_false (fun q => c27 (by rw [q]))]
      refine g_iload_n (n := 31) dX8_isDay_30 rfl rfl ?_
      refine g_bipush (n := 33) dX8_isDay_31 rfl k_bp_10 ?_
      refine g_icmp_eq (n := 36) (t := 42) dX8_isDay_33 rfl (by decide) (fun c33 => ?_) (fun c33 => ?_)
      · rw [decide_eq_true ((nI_eq (by omega) (by decide)).mp (show nI (tSt (M 31 0) n) = nI 10 from c33))]
        refine g_iconst (n := 43) dX8_isDay_42 rfl k_ic_1 ?_
        refine g_goto (n := 0) (t := 47) dX8_isDay_43 (by decide) ?_
        exact g_ireturn dX8_isDay_47 rfl rfl rfl rfl
      · rw [decide_eq_false (fun q => c33 (by rw [q]))]
        refine g_iload_n (n := 37) dX8_isDay_36 rfl rfl ?_
        refine g_bipush (n := 39) dX8_isDay_37 rfl k_bp_12 ?_
        refine g_icmp_ne (n := 42) (t := 46) dX8_isDay_39 rfl (by decide) (fun c39 => ?_) (fun c39 => ?_)
        · rw [decide_eq_false (fun q => c39 (by rw [q]))]
          refine g_iconst (n := 47) dX8_isDay_46 rfl k_ic_0 ?_
          exact g_ireturn dX8_isDay_47 rfl rfl rfl rfl
        · rw [decide_eq_true ((nI_eq (by omega) (by decide)).mp (show nI (tSt (M 31 0) n) = nI 12 from c39))]
          refine g_iconst (n := 43) dX8_isDay_42 rfl k_ic_1 ?_
          refine g_goto (n := 0) (t := 47) dX8_isDay_43 (by decide) ?_
          exact g_ireturn dX8_isDay_47 rfl rfl rfl rfl
  · intro j hj ih
    have cp := c_tplace (w := w) (d := d) (M := M) (O := O) hn h60 hj (tSt_lt (M 31 0) j)
    rw [show tPl (tSt (M 31 0) j) (M 31 0 j) (tPv (M 31 0) j) = tSt (M 31 0) (j + 1) from rfl] at cp
    refine g_iload_n (n := 5) dX8_isDay_4 rfl rfl ?_
    refine g_aload_n (n := 6) dX8_isDay_5 rfl rfl ?_
    refine gf_X8_15 (n := 9) dX8_isDay_6 rfl rfl (z_lvP (by first | decide | assumption)) ?_
    refine g_icmp_ge (n := 12) (t := 25) dX8_isDay_9 rfl (by decide) (fun q9 => absurd q9 (by rw [hn]; exact nI_ge hj (by omega))) (fun _ => ?_)
    refine g_aload_n (n := 13) dX8_isDay_12 rfl rfl ?_
    refine g_iload_n (n := 14) dX8_isDay_13 rfl rfl ?_
    refine g_iload_n (n := 15) dX8_isDay_14 rfl rfl ?_
    refine g_cVv (n := 18) cp dX8_isDay_15 rfl kw_X8_23 rfl (by decide) (z_lvP (by first | decide | assumption)) (Nat.le_of_ble_eq_true rfl) ⟨Nat.le_refl _, Nat.le_refl _⟩ ?_ rfl
    refine g_istore1 (n := 19) dX8_isDay_18 rfl (by decide) rfl ?_
    refine g_iinc2 (n := 22) dX8_isDay_19 rfl (by decide) rfl (z_inc1 _) ?_
    refine g_goto (n := 0) (t := 4) dX8_isDay_22 (by decide) ?_
    exact ih
end LT

