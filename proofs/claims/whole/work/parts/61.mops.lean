/-! The reference: what changes the land. -/
theorem rSh_lo {S : Nat → Int32} {j : Nat} (h : j < 174) : ∀ k, rSh S k j = S j
  | 0 => rfl
  | k + 1 => by
    unfold rSh
    rw [rCp_lo (by omega), rSh_lo h k]
theorem rSave_lo {S : Nat → Int32} {h j : Nat} (hj : j < 174) : rSave S h j = S j := by
  unfold rSave
  split
  · exact rCp_lo (by omega)
  · rw [rCp_lo (by omega), rSh_lo hj]
theorem rSh_hi {S : Nat → Int32} {j : Nat} (h : 1218 ≤ j) : ∀ k, k ≤ 5 → rSh S k j = S j
  | 0, _ => rfl
  | k + 1, hk => by
    unfold rSh
    rw [rCp_lo (by omega), rSh_hi h k (by omega)]
theorem rSave_hi {S : Nat → Int32} {h j : Nat} (hj : 1218 ≤ j) : rSave S h j = S j := by
  unfold rSave
  split
  · exact rCp_lo (by omega)
  · rw [rCp_lo (by omega), rSh_hi hj 5 (by decide)]
/-- the saved rows moved on: slot t holds what slot t + 1 held -/
theorem rSh_at {S : Nat → Int32} {j : Nat} (hj : j < 174) : ∀ k t, rSh S k (174 * t + j) = if 1 ≤ t ∧ t ≤ k then S (174 * (t + 1) + j) else S (174 * t + j)
  | 0, t => by
    rw [if_neg (by omega)]
    rfl
  | k + 1, t => by
    unfold rSh
    by_cases e : t = k + 1
    · subst e
      rw [rCp_in hj, rSh_at hj k (k + 2), if_neg (by omega), if_pos (by omega)]
    · rw [rCp_lo (by omega), rSh_at hj k t]
      by_cases l : 1 ≤ t ∧ t ≤ k
      · rw [if_pos l, if_pos (by omega)]
      · rw [if_neg l, if_neg (by omega)]
theorem rSave_at {S : Nat → Int32} {h j : Nat} (hj : j < 174) (t : Nat) (h6 : h ≤ 6) (ht : t < rSv h) : rSave S h (174 * (t + 1) + j) = if t + 1 = rSv h then S j else if h < 6 then S (174 * (t + 1) + j) else S (174 * (t + 2) + j) := by
  unfold rSave rSv at *
  by_cases l : h < 6
  · rw [if_pos l] at ht
    rw [if_pos l, if_pos l, if_pos l]
    by_cases e : t + 1 = h + 1
    · rw [if_pos e, e, rCp_in hj]
      rw [show 174 * 0 + j = j by omega]
    · rw [if_neg e, rCp_lo (by omega)]
  · rw [if_neg l] at ht
    rw [if_neg l, if_neg l, if_neg l]
    by_cases e : t + 1 = 6
    · rw [if_pos e, e, rCp_in hj, show 174 * 0 + j = j by omega, rSh_lo hj]
    · rw [if_neg e, rCp_lo (by omega), rSh_at hj 5 (t + 1), if_pos (by omega)]
def ad (S : Nat → Int32) (p : Nat) (x : Int32) : Nat → Int32 := upd S p (S p + x)
theorem u3_ad {B : Nat → Nat → Nat → Int32} {k i p : Nat} {S : Nat → Int32} {x : Int32} : u3 (u2 B k i S) k i p (u2 B k i S k i p + x) = u2 B k i (ad S p x) := by
  rw [u3_u2, u2_self]
  rfl
theorem ad_c {S V : Nat → Int32} {n p : Nat} {x : Int32} (h : aeq n S V) (hp : p < n) : aeq n (ad S p x) (ad V p x) := by
  intro j hj
  unfold ad upd
  rw [h p hp, h j hj]
theorem upd_c {S V : Nat → Int32} {n p : Nat} {x : Int32} (h : aeq n S V) : aeq n (upd S p x) (upd V p x) := by
  intro j hj
  unfold upd
  rw [h j hj]
theorem ad_o {S : Nat → Int32} {p q : Nat} {x : Int32} (h : q ≠ p) : ad S p x q = S q := upd_o h
theorem ad_s {S : Nat → Int32} {p : Nat} {x : Int32} : ad S p x p = S p + x := pk_us
theorem ad_com {S : Nat → Int32} {p q : Nat} {x y : Int32} (h : p ≠ q) : ad (ad S p x) q y = ad (ad S q y) p x := by
  funext j
  unfold ad upd
  have h2 : ¬ q = p := fun z => h z.symm
  have h3 : ¬ p = q := h
  by_cases a : j = q
  · subst a
    simp only [h2, h3, if_pos, if_neg, if_false, if_true]
  · by_cases b : j = p
    · subst b
      simp only [h2, h3, if_pos, if_neg, if_false, if_true]
    · simp only [a, b, if_false]
theorem ad_0 {S : Nat → Int32} {p : Nat} : ad S p (nI 0) = S := by
  funext j
  unfold ad upd
  by_cases a : j = p
  · rw [if_pos a, a]
    exact Int32.add_zero _
  · rw [if_neg a]
/-- the row behind a loaf that leaves by the exit e to the neighbour q -/
def vTk6 (V : Nat → Int32) (e t h q : Nat) (co : Int32) : Nat → Int32 := ad (ad (ad (ad (ad (ad V 171 (nI 1)) (70 + 5 * e) (nI 1)) (71 + 5 * e) co) 173 co) (139 + (4 * t + h)) (nI 1)) (127 + q) (nI 1)
def vOv (V : Nat → Int32) (q : Nat) : Int32 := if V (127 + q) ≤ V (123 + q) then nI 0 else nI 1
def vTake (V : Nat → Int32) (e t h q : Nat) (co : Int32) : Nat → Int32 := ad (ad (vTk6 V e t h q co) (131 + q) (vOv (vTk6 V e t h q co) q)) (135 + q) (vOv (vTk6 V e t h q co) q)
def vCold (V : Nat → Int32) : Nat → Int32 := ad (ad V 171 (nI 1)) 172 (nI 1)
def vSnd (V : Nat → Int32) (s t h : Nat) : Nat → Int32 := if vCho (vDi V) V s t h < 0 then vCold V else vTake V (vCho (vDi V) V s t h).toNatClampNeg t h (vNe V (vCho (vDi V) V s t h).toNatClampNeg) (vDe (vDi V) V s t h)
theorem vTk6_c {S V : Nat → Int32} {e t h q : Nat} {co : Int32} (H : aeq 174 S V) (he : e < 8) (ht : t < 8) (hh : h < 4) (hq : q < 4) : aeq 174 (vTk6 S e t h q co) (vTk6 V e t h q co) := by
  unfold vTk6
  exact ad_c (ad_c (ad_c (ad_c (ad_c (ad_c H (by omega)) (by omega)) (by omega)) (by omega)) (by omega)) (by omega)
theorem vTake_c {S V : Nat → Int32} {e t h q : Nat} {co : Int32} (H : aeq 174 S V) (he : e < 8) (ht : t < 8) (hh : h < 4) (hq : q < 4) : aeq 174 (vTake S e t h q co) (vTake V e t h q co) := by
  have h6 := vTk6_c (co := co) H he ht hh hq
  have eo : vOv (vTk6 S e t h q co) q = vOv (vTk6 V e t h q co) q := by
    unfold vOv
    rw [h6 (127 + q) (by omega), h6 (123 + q) (by omega)]
  unfold vTake
  rw [eo]
  exact ad_c (ad_c h6 (by omega)) (by omega)
theorem vCold_c {S V : Nat → Int32} (H : aeq 174 S V) : aeq 174 (vCold S) (vCold V) := ad_c (ad_c H (by decide)) (by decide)
/-- what the reference's sending makes of its numbers -/
def rSnd (S V : Nat → Int32) (s t h : Nat) : Nat → Int32 := if vCho (vDi V) V s t h < 0 then vCold S else vTake S (vCho (vDi V) V s t h).toNatClampNeg t h (vNe V (vCho (vDi V) V s t h).toNatClampNeg) (vDe (vDi V) V s t h)
theorem rSnd_row {S V : Nat → Int32} {s t h : Nat} (H : aeq 174 S V) (W : WFV V) (hs : V 66 = nI s) (h8 : s ≤ 8) (ht : t < 8) (hh : h < 4) : aeq 174 (rSnd S V s t h) (vSnd V s t h) := by
  unfold rSnd vSnd
  rcases vCho_in2 W hs h8 ht hh with a | ⟨e, he, a⟩
  · rw [a, if_pos (by decide), if_pos (by decide)]
    exact vCold_c H
  · rw [a, if_neg (nI_pos (by omega)), if_neg (nI_pos (by omega)), nI_clamp (by omega)]
    exact vTake_c H (by omega) ht hh (vNe_lt W hs h8 he)
theorem rSnd_hi {S V : Nat → Int32} {s t h j : Nat} (W : WFV V) (hs : V 66 = nI s) (h8 : s ≤ 8) (ht : t < 8) (hh : h < 4) (hj : 174 ≤ j) : rSnd S V s t h j = S j := by
  unfold rSnd
  rcases vCho_in2 W hs h8 ht hh with a | ⟨e, he, a⟩
  · rw [a, if_pos (by decide)]
    unfold vCold
    rw [ad_o (by omega), ad_o (by omega)]
  · have hq := vNe_lt W hs h8 he
    rw [a, if_neg (nI_pos (by omega)), nI_clamp (by omega)]
    unfold vTake vTk6
    rw [ad_o (by omega), ad_o (by omega), ad_o (by omega), ad_o (by omega), ad_o (by omega), ad_o (by omega), ad_o (by omega), ad_o (by omega)]
section L18
variable {w : zWp} {d b s t h e : Nat} {M : Nat → Nat → Nat → Int32} {O : Nat → Int64} {V : Nat → Int32}
theorem r_exitAt0 (e : Nat) {σ : zSt} : zC w mX10_exitAt d [vI (nI 0), vI (nI e)] σ (zrI (nI (67 + 5 * e))) σ := by
  have c := r_exitAt (w := w) (d := d) (σ := σ) 0 e
  rw [Nat.zero_add] at c
  exact c
theorem r_ix0 {e j : Nat} : nI (67 + 5 * e) + nI j = nI (67 + j + 5 * e) := by
  rw [nI_add]
  congr 1
  omega
theorem r_farOfQ {q : Nat} (hq : q < 8) (he : e < 8) (hb : b ≤ 1566) (ht : t < 8) (e1 : M 32 0 (b + (67 + 5 * e)) = nI q) : zC w mX10_farOf (d + 1) [vR 10 0, vI (nI b), vI (nI t), vI (nI e)] (zP M O) (zrI (M 35 0 (8 * t + q))) (zP M O) := by
  refine zC_of (cr := 0) (L0 := [vR 10 0, vI (nI b), vI (nI t), vI (nI e)]) rfl (by decide) (by decide) rfl (Nat.le_of_ble_eq_true rfl) rfl ?_
  refine g_aload_n (n := 1) dX10_farOf_0 rfl rfl ?_
  refine gf_X10_21 (n := 4) dX10_farOf_1 rfl rfl (z_lvP (by first | decide | assumption)) rfl ?_
  refine g_bipush (n := 6) dX10_farOf_4 rfl k_bp_8 ?_
  refine g_iload_n (n := 7) dX10_farOf_6 rfl rfl ?_
  refine g_imul (n := 8) dX10_farOf_7 rfl ?_
  refine g_aload_n (n := 9) dX10_farOf_8 rfl rfl ?_
  refine gf_X10_7 (n := 12) dX10_farOf_9 rfl rfl (z_lvP (by first | decide | assumption)) rfl ?_
  refine g_iload_n (n := 13) dX10_farOf_12 rfl rfl ?_
  refine g_iload_n (n := 14) dX10_farOf_13 rfl rfl ?_
  refine g_cSv (n := 17) (r_exitAt b e) dX10_farOf_14 rfl kw_X10_50 (Nat.le_of_ble_eq_true rfl) ⟨Nat.le_refl _, Nat.le_refl _⟩ ?_ rfl
  refine g_iald (a := (b + (67 + 5 * e))) (n := 18) dX10_farOf_17 rfl (by decide) (z_lvP (by first | decide | assumption)) rfl (by show _ < 1740; first | assumption | omega) ?_
  rw [e1]
  refine g_iadd (n := 19) dX10_farOf_18 rfl ?_
  refine g_iald (a := (8 * t + q)) (n := 20) dX10_farOf_19 rfl (by decide) (z_lvP (by first | decide | assumption)) (by rw [pk_mul, nI_add]) (by show _ < 64; first | assumption | omega) ?_
  exact g_ireturn dX10_farOf_20 rfl rfl rfl rfl
theorem r_sends (R : RowR M 0 V) (W : WFV V) (hs : V 66 = nI s) (h8 : s ≤ 8) (ht : t < 8) (hh : h < 4) : zC w mX10_sends (d + 6) [vR 10 0, vI (nI t), vI (nI h)] (zP M O) (zrI (vCho (vDi V) V s t h)) (zP (u2 (mMea M 0) 32 0 (rSnd (M 32 0) V s t h)) O) := by
  have cm := r_measures (w := w) (d := d + 5) (M := M) (O := O) (b := 0) (by decide)
  have hd : rMd (mMea M 0) V := rMd_mea R
  have hb : RowR (mMea M 0) 0 V := R
  have e32 : mMea M 0 32 0 = M 32 0 := rfl
  obtain ⟨B, hB⟩ : ∃ B, B = mMea M 0 := ⟨_, rfl⟩
  obtain ⟨S, hS⟩ : ∃ S, S = M 32 0 := ⟨_, rfl⟩
  rw [← hB] at cm hd hb e32 ⊢
  rw [← hS] at e32 ⊢
  have cc := r_choosesV (w := w) (d := d) (O := O) hb hd W hs h8 (by decide) ht hh
  have idB : B = u2 B 32 0 S := by rw [← e32, u2_id]
  have r0 : ∀ j, j < 174 → S j = V j := fun j hj => by rw [← e32]; exact RowR0 hb hj
  rcases vCho_in2 W hs h8 ht hh with a | ⟨e, he, a⟩
  · have er : rSnd S V s t h = ad (ad S 171 (nI 1)) 172 (nI 1) := by
      unfold rSnd
      rw [a, if_pos (by decide)]
      rfl
    rw [er]
    rw [a] at cc ⊢
    refine zC_of (cr := 0) (L0 := [vR 10 0, vI (nI t), vI (nI h), vU, vU, vU, vU, vU]) rfl (by decide) (by decide) rfl (Nat.le_of_ble_eq_true rfl) rfl ?_
    refine g_aload_n (n := 1) dX10_sends_0 rfl rfl ?_
    refine g_iconst (n := 2) dX10_sends_1 rfl k_ic_0 ?_
    refine g_cVn (n := 5) cm dX10_sends_2 rfl kw_X10_76 rfl (by decide) (z_lvP (by first | decide | assumption)) (Nat.le_of_ble_eq_true rfl) ⟨Nat.le_refl _, Nat.le_refl _⟩ ?_ rfl
    refine g_aload_n (n := 6) dX10_sends_5 rfl rfl ?_
    refine g_iconst (n := 7) dX10_sends_6 rfl k_ic_0 ?_
    refine g_iload_n (n := 8) dX10_sends_7 rfl rfl ?_
    refine g_iload_n (n := 9) dX10_sends_8 rfl rfl ?_
    refine g_cVv (n := 12) cc dX10_sends_9 rfl kw_X10_80 rfl (by decide) (z_lvP (by first | decide | assumption)) (Nat.le_of_ble_eq_true rfl) ⟨Nat.le_refl _, Nat.le_refl _⟩ ?_ rfl
    refine g_istore3 (n := 13) dX10_sends_12 rfl (by decide) rfl ?_
    suffices H : zG w mX10_sends (d + 6) 0 13 [vR 10 0, vI (nI t), vI (nI h), vI (-1), vU, vU, vU, vU] [] (zP (u2 B 32 0 S) O) (zrI (-1)) (zP (u2 B 32 0 (ad (ad S 171 (nI 1)) 172 (nI 1))) O) by
      rw [← idB] at H
      exact H
    refine g_aload_n (n := 14) dX10_sends_13 rfl rfl ?_
    refine gf_X10_7 (n := 17) dX10_sends_14 rfl rfl (z_lvP (by first | decide | assumption)) rfl ?_
    refine g_sipush (n := 20) dX10_sends_17 rfl k_sp_171 ?_
    refine g_dup2 (n := 21) dX10_sends_20 rfl rfl rfl ?_
    refine g_iald (n := 22) dX10_sends_21 rfl (by decide) (z_lvP (by first | decide | assumption)) rfl (by show _ < 1740; first | assumption | omega) ?_
    refine g_iconst (n := 23) dX10_sends_22 rfl k_ic_1 ?_
    refine g_iadd (n := 24) dX10_sends_23 rfl ?_
    refine g_iast (n := 25) dX10_sends_24 rfl (by decide) (z_lvP (by first | decide | assumption)) rfl (by show _ < 1740; first | assumption | omega) ?_
    rw [u3_ad]
    refine g_iload_n (n := 26) dX10_sends_25 rfl rfl ?_
    refine g_if_ge (n := 29) (t := 43) dX10_sends_26 rfl (by decide) (fun q9 => absurd q9 (by decide)) (fun _ => ?_)
    refine g_aload_n (n := 30) dX10_sends_29 rfl rfl ?_
    refine gf_X10_7 (n := 33) dX10_sends_30 rfl rfl (z_lvP (by first | decide | assumption)) rfl ?_
    refine g_sipush (n := 36) dX10_sends_33 rfl k_sp_172 ?_
    refine g_dup2 (n := 37) dX10_sends_36 rfl rfl rfl ?_
    refine g_iald (n := 38) dX10_sends_37 rfl (by decide) (z_lvP (by first | decide | assumption)) rfl (by show _ < 1740; first | assumption | omega) ?_
    refine g_iconst (n := 39) dX10_sends_38 rfl k_ic_1 ?_
    refine g_iadd (n := 40) dX10_sends_39 rfl ?_
    refine g_iast (n := 41) dX10_sends_40 rfl (by decide) (z_lvP (by first | decide | assumption)) rfl (by show _ < 1740; first | assumption | omega) ?_
    rw [u3_ad]
    refine g_iconst (n := 42) dX10_sends_41 rfl k_ic_m1 ?_
    exact g_ireturn dX10_sends_42 rfl rfl rfl rfl
  · obtain ⟨⟨q0, hq0, eq0⟩, ⟨q, hq, eq⟩, _⟩ := vEx W hs h8 he
    have he8 : e < 8 := by omega
    have ev : vDe (vDi V) V s t h = vFar (vDi V) V t e := by
      unfold vDe
      rw [a, if_neg (nI_pos (by omega)), nI_clamp (by omega)]
    have ef : B 35 0 (8 * t + q0) = vFar (vDi V) V t e := by
      unfold vFar
      rw [vTo_of hq0 eq0]
      exact hd _ (by omega)
    have er : rSnd S V s t h = vTake S e t h q (vFar (vDi V) V t e) := by
      unfold rSnd
      rw [ev, a, if_neg (nI_pos (by omega)), nI_clamp (by omega), vNe_of hq eq]
    have n0 : S (67 + 5 * e) = nI q0 := (r0 _ (by omega)).trans eq0
    have n1 : S (68 + 5 * e) = nI q := (r0 _ (by omega)).trans eq
    have cf := r_farOfQ (w := w) (d := d + 4) (O := O) (M := u2 B 32 0 (ad S 171 (nI 1))) (b := 0) hq0 he8 (by decide) ht (by
      show ad S 171 (nI 1) (0 + (67 + 5 * e)) = nI q0
      rw [ad_o (by omega), Nat.zero_add]
      exact n0)
    rw [show u2 B 32 0 (ad S 171 (nI 1)) 35 0 (8 * t + q0) = vFar (vDi V) V t e from ef] at cf
    rw [er]
    rw [a] at cc ⊢
    obtain ⟨co, hco⟩ : ∃ co, co = vFar (vDi V) V t e := ⟨_, rfl⟩
    rw [← hco] at cf ⊢
    refine zC_of (cr := 0) (L0 := [vR 10 0, vI (nI t), vI (nI h), vU, vU, vU, vU, vU]) rfl (by decide) (by decide) rfl (Nat.le_of_ble_eq_true rfl) rfl ?_
    refine g_aload_n (n := 1) dX10_sends_0 rfl rfl ?_
    refine g_iconst (n := 2) dX10_sends_1 rfl k_ic_0 ?_
    refine g_cVn (n := 5) cm dX10_sends_2 rfl kw_X10_76 rfl (by decide) (z_lvP (by first | decide | assumption)) (Nat.le_of_ble_eq_true rfl) ⟨Nat.le_refl _, Nat.le_refl _⟩ ?_ rfl
    refine g_aload_n (n := 6) dX10_sends_5 rfl rfl ?_
    refine g_iconst (n := 7) dX10_sends_6 rfl k_ic_0 ?_
    refine g_iload_n (n := 8) dX10_sends_7 rfl rfl ?_
    refine g_iload_n (n := 9) dX10_sends_8 rfl rfl ?_
    refine g_cVv (n := 12) cc dX10_sends_9 rfl kw_X10_80 rfl (by decide) (z_lvP (by first | decide | assumption)) (Nat.le_of_ble_eq_true rfl) ⟨Nat.le_refl _, Nat.le_refl _⟩ ?_ rfl
    refine g_istore3 (n := 13) dX10_sends_12 rfl (by decide) rfl ?_
    suffices H : zG w mX10_sends (d + 6) 0 13 [vR 10 0, vI (nI t), vI (nI h), vI (nI e), vU, vU, vU, vU] [] (zP (u2 B 32 0 S) O) (zrI (nI e)) (zP (u2 B 32 0 (vTake S e t h q co)) O) by
      rw [← idB] at H
      exact H
    have i1 : nI (67 + 5 * e) + nI 1 = nI (68 + 5 * e) := r_ix0
    have i3 : nI (67 + 5 * e) + nI 3 = nI (70 + 5 * e) := r_ix0
    have i4 : nI (67 + 5 * e) + nI 4 = nI (71 + 5 * e) := r_ix0
    have i5 : nI 139 + nI 4 * nI t + nI h = nI (139 + (4 * t + h)) := by rw [pk_mul, nI_add, nI_add, Nat.add_assoc]
    refine g_aload_n (n := 14) dX10_sends_13 rfl rfl ?_
    refine gf_X10_7 (n := 17) dX10_sends_14 rfl rfl (z_lvP (by first | decide | assumption)) rfl ?_
    refine g_sipush (n := 20) dX10_sends_17 rfl k_sp_171 ?_
    refine g_dup2 (n := 21) dX10_sends_20 rfl rfl rfl ?_
    refine g_iald (n := 22) dX10_sends_21 rfl (by decide) (z_lvP (by first | decide | assumption)) rfl (by show _ < 1740; first | assumption | omega) ?_
    refine g_iconst (n := 23) dX10_sends_22 rfl k_ic_1 ?_
    refine g_iadd (n := 24) dX10_sends_23 rfl ?_
    refine g_iast (n := 25) dX10_sends_24 rfl (by decide) (z_lvP (by first | decide | assumption)) rfl (by show _ < 1740; first | assumption | omega) ?_
    rw [u3_ad]
    refine g_iload_n (n := 26) dX10_sends_25 rfl rfl ?_
    refine g_if_ge (n := 29) (t := 43) dX10_sends_26 rfl (by decide) (fun _ => ?_) (fun q9 => absurd (nI_pos' (by omega)) q9)
    refine g_iconst (n := 44) dX10_sends_43 rfl k_ic_0 ?_
    refine g_iload_n (n := 45) dX10_sends_44 rfl rfl ?_
    refine g_cSv (n := 48) (r_exitAt0 e) dX10_sends_45 rfl kw_X10_50 (Nat.le_of_ble_eq_true rfl) ⟨Nat.le_refl _, Nat.le_refl _⟩ ?_ rfl
    refine g_istore4 (n := 50) dX10_sends_48 rfl (by decide) rfl ?_
    refine g_aload_n (n := 51) dX10_sends_50 rfl rfl ?_
    refine g_iconst (n := 52) dX10_sends_51 rfl k_ic_0 ?_
    refine g_iload_n (n := 53) dX10_sends_52 rfl rfl ?_
    refine g_iload_n (n := 54) dX10_sends_53 rfl rfl ?_
    refine g_cVv (n := 57) cf dX10_sends_54 rfl kw_X10_58 rfl (by decide) (z_lvP (by first | decide | assumption)) (Nat.le_of_ble_eq_true rfl) ⟨Nat.le_refl _, Nat.le_refl _⟩ ?_ rfl
    refine g_istore5 (n := 59) dX10_sends_57 rfl (by decide) rfl ?_
    refine g_aload_n (n := 60) dX10_sends_59 rfl rfl ?_
    refine gf_X10_7 (n := 63) dX10_sends_60 rfl rfl (z_lvP (by first | decide | assumption)) rfl ?_
    refine g_iload (n := 65) dX10_sends_63 rfl rfl ?_
    refine g_iconst (n := 66) dX10_sends_65 rfl k_ic_1 ?_
    refine g_iadd (n := 67) dX10_sends_66 rfl ?_
    rw [i1]
    refine g_iald (n := 68) dX10_sends_67 rfl (by decide) (z_lvP (by first | decide | assumption)) rfl (by show _ < 1740; first | assumption | omega) ?_
    rw [show u2 B 32 0 (ad S 171 (nI 1)) 32 0 (68 + 5 * e) = nI q from (ad_o (by omega)).trans n1]
    refine g_istore6 (n := 70) dX10_sends_68 rfl (by decide) rfl ?_
    refine g_aload_n (n := 71) dX10_sends_70 rfl rfl ?_
    refine gf_X10_7 (n := 74) dX10_sends_71 rfl rfl (z_lvP (by first | decide | assumption)) rfl ?_
    refine g_iload (n := 76) dX10_sends_74 rfl rfl ?_
    refine g_iconst (n := 77) dX10_sends_76 rfl k_ic_3 ?_
    refine g_iadd (n := 78) dX10_sends_77 rfl ?_
    rw [i3]
    refine g_dup2 (n := 79) dX10_sends_78 rfl rfl rfl ?_
    refine g_iald (n := 80) dX10_sends_79 rfl (by decide) (z_lvP (by first | decide | assumption)) rfl (by show _ < 1740; first | assumption | omega) ?_
    refine g_iconst (n := 81) dX10_sends_80 rfl k_ic_1 ?_
    refine g_iadd (n := 82) dX10_sends_81 rfl ?_
    refine g_iast (n := 83) dX10_sends_82 rfl (by decide) (z_lvP (by first | decide | assumption)) rfl (by show _ < 1740; first | assumption | omega) ?_
    rw [u3_ad]
    refine g_aload_n (n := 84) dX10_sends_83 rfl rfl ?_
    refine gf_X10_7 (n := 87) dX10_sends_84 rfl rfl (z_lvP (by first | decide | assumption)) rfl ?_
    refine g_iload (n := 89) dX10_sends_87 rfl rfl ?_
    refine g_iconst (n := 90) dX10_sends_89 rfl k_ic_4 ?_
    refine g_iadd (n := 91) dX10_sends_90 rfl ?_
    rw [i4]
    refine g_dup2 (n := 92) dX10_sends_91 rfl rfl rfl ?_
    refine g_iald (n := 93) dX10_sends_92 rfl (by decide) (z_lvP (by first | decide | assumption)) rfl (by show _ < 1740; first | assumption | omega) ?_
    refine g_iload (n := 95) dX10_sends_93 rfl rfl ?_
    refine g_iadd (n := 96) dX10_sends_95 rfl ?_
    refine g_iast (n := 97) dX10_sends_96 rfl (by decide) (z_lvP (by first | decide | assumption)) rfl (by show _ < 1740; first | assumption | omega) ?_
    rw [u3_ad]
    refine g_aload_n (n := 98) dX10_sends_97 rfl rfl ?_
    refine gf_X10_7 (n := 101) dX10_sends_98 rfl rfl (z_lvP (by first | decide | assumption)) rfl ?_
    refine g_sipush (n := 104) dX10_sends_101 rfl k_sp_173 ?_
    refine g_dup2 (n := 105) dX10_sends_104 rfl rfl rfl ?_
    refine g_iald (n := 106) dX10_sends_105 rfl (by decide) (z_lvP (by first | decide | assumption)) rfl (by show _ < 1740; first | assumption | omega) ?_
    refine g_iload (n := 108) dX10_sends_106 rfl rfl ?_
    refine g_iadd (n := 109) dX10_sends_108 rfl ?_
    refine g_iast (n := 110) dX10_sends_109 rfl (by decide) (z_lvP (by first | decide | assumption)) rfl (by show _ < 1740; first | assumption | omega) ?_
    rw [u3_ad]
    refine g_aload_n (n := 111) dX10_sends_110 rfl rfl ?_
    refine gf_X10_7 (n := 114) dX10_sends_111 rfl rfl (z_lvP (by first | decide | assumption)) rfl ?_
    refine g_sipush (n := 117) dX10_sends_114 rfl k_sp_139 ?_
    refine g_iconst (n := 118) dX10_sends_117 rfl k_ic_4 ?_
    refine g_iload_n (n := 119) dX10_sends_118 rfl rfl ?_
    refine g_imul (n := 120) dX10_sends_119 rfl ?_
    refine g_iadd (n := 121) dX10_sends_120 rfl ?_
    refine g_iload_n (n := 122) dX10_sends_121 rfl rfl ?_
    refine g_iadd (n := 123) dX10_sends_122 rfl ?_
    rw [i5]
    refine g_dup2 (n := 124) dX10_sends_123 rfl rfl rfl ?_
    refine g_iald (n := 125) dX10_sends_124 rfl (by decide) (z_lvP (by first | decide | assumption)) rfl (by show _ < 1740; first | assumption | omega) ?_
    refine g_iconst (n := 126) dX10_sends_125 rfl k_ic_1 ?_
    refine g_iadd (n := 127) dX10_sends_126 rfl ?_
    refine g_iast (n := 128) dX10_sends_127 rfl (by decide) (z_lvP (by first | decide | assumption)) rfl (by show _ < 1740; first | assumption | omega) ?_
    rw [u3_ad]
    refine g_aload_n (n := 129) dX10_sends_128 rfl rfl ?_
    refine gf_X10_7 (n := 132) dX10_sends_129 rfl rfl (z_lvP (by first | decide | assumption)) rfl ?_
    refine g_bipush (n := 134) dX10_sends_132 rfl k_bp_127 ?_
    refine g_iload (n := 136) dX10_sends_134 rfl rfl ?_
    refine g_iadd (n := 137) dX10_sends_136 rfl ?_
    rw [nI_add]
    refine g_dup2 (n := 138) dX10_sends_137 rfl rfl rfl ?_
    refine g_iald (n := 139) dX10_sends_138 rfl (by decide) (z_lvP (by first | decide | assumption)) rfl (by show _ < 1740; first | assumption | omega) ?_
    refine g_iconst (n := 140) dX10_sends_139 rfl k_ic_1 ?_
    refine g_iadd (n := 141) dX10_sends_140 rfl ?_
    refine g_iast (n := 142) dX10_sends_141 rfl (by decide) (z_lvP (by first | decide | assumption)) rfl (by show _ < 1740; first | assumption | omega) ?_
    rw [u3_ad, show ad (ad (ad (ad (ad (ad S 171 (nI 1)) (70 + 5 * e) (nI 1)) (71 + 5 * e) co) 173 co) (139 + (4 * t + h)) (nI 1)) (127 + q) (nI 1) = vTk6 S e t h q co from rfl]
    obtain ⟨S6, h6⟩ : ∃ S6, S6 = vTk6 S e t h q co := ⟨_, rfl⟩
    have ek : vTake S e t h q co = ad (ad S6 (131 + q) (vOv S6 q)) (135 + q) (vOv S6 q) := by rw [h6]; rfl
    rw [ek, ← h6]
    have tail : ∀ v, v = vOv S6 q → zG w mX10_sends (d + 6) 0 170 [vR 10 0, vI (nI t), vI (nI h), vI (nI e), vI (nI (67 + 5 * e)), vI co, vI (nI q), vU] [vI v] (zP (u2 B 32 0 S6) O) (zrI (nI e)) (zP (u2 B 32 0 (ad (ad S6 (131 + q) (vOv S6 q)) (135 + q) (vOv S6 q))) O) := by
      intro v hv
      rw [← hv]
      refine g_istore7 (n := 172) dX10_sends_170 rfl (by decide) rfl ?_
      refine g_aload_n (n := 173) dX10_sends_172 rfl rfl ?_
      refine gf_X10_7 (n := 176) dX10_sends_173 rfl rfl (z_lvP (by first | decide | assumption)) rfl ?_
      refine g_sipush (n := 179) dX10_sends_176 rfl k_sp_131 ?_
      refine g_iload (n := 181) dX10_sends_179 rfl rfl ?_
      refine g_iadd (n := 182) dX10_sends_181 rfl ?_
      rw [nI_add]
      refine g_dup2 (n := 183) dX10_sends_182 rfl rfl rfl ?_
      refine g_iald (n := 184) dX10_sends_183 rfl (by decide) (z_lvP (by first | decide | assumption)) rfl (by show _ < 1740; first | assumption | omega) ?_
      refine g_iload (n := 186) dX10_sends_184 rfl rfl ?_
      refine g_iadd (n := 187) dX10_sends_186 rfl ?_
      refine g_iast (n := 188) dX10_sends_187 rfl (by decide) (z_lvP (by first | decide | assumption)) rfl (by show _ < 1740; first | assumption | omega) ?_
      rw [u3_ad]
      refine g_aload_n (n := 189) dX10_sends_188 rfl rfl ?_
      refine gf_X10_7 (n := 192) dX10_sends_189 rfl rfl (z_lvP (by first | decide | assumption)) rfl ?_
      refine g_sipush (n := 195) dX10_sends_192 rfl k_sp_135 ?_
      refine g_iload (n := 197) dX10_sends_195 rfl rfl ?_
      refine g_iadd (n := 198) dX10_sends_197 rfl ?_
      rw [nI_add]
      refine g_dup2 (n := 199) dX10_sends_198 rfl rfl rfl ?_
      refine g_iald (n := 200) dX10_sends_199 rfl (by decide) (z_lvP (by first | decide | assumption)) rfl (by show _ < 1740; first | assumption | omega) ?_
      refine g_iload (n := 202) dX10_sends_200 rfl rfl ?_
      refine g_iadd (n := 203) dX10_sends_202 rfl ?_
      refine g_iast (n := 204) dX10_sends_203 rfl (by decide) (z_lvP (by first | decide | assumption)) rfl (by show _ < 1740; first | assumption | omega) ?_
      rw [u3_ad]
      refine g_iload_n (n := 205) dX10_sends_204 rfl rfl ?_
      exact g_ireturn dX10_sends_205 rfl rfl rfl rfl
    have i7 : nI 127 + nI q = nI (127 + q) := nI_add _ _
    have i8 : nI 123 + nI q = nI (123 + q) := nI_add _ _
    refine g_aload_n (n := 143) dX10_sends_142 rfl rfl ?_
    refine gf_X10_7 (n := 146) dX10_sends_143 rfl rfl (z_lvP (by first | decide | assumption)) rfl ?_
    refine g_bipush (n := 148) dX10_sends_146 rfl k_bp_127 ?_
    refine g_iload (n := 150) dX10_sends_148 rfl rfl ?_
    refine g_iadd (n := 151) dX10_sends_150 rfl ?_
    refine g_iald (a := (127 + q)) (n := 152) dX10_sends_151 rfl (by decide) (z_lvP (by first | decide | assumption)) i7 (by show _ < 1740; first | assumption | omega) ?_
    refine g_aload_n (n := 153) dX10_sends_152 rfl rfl ?_
    refine gf_X10_7 (n := 156) dX10_sends_153 rfl rfl (z_lvP (by first | decide | assumption)) rfl ?_
    refine g_bipush (n := 158) dX10_sends_156 rfl k_bp_123 ?_
    refine g_iload (n := 160) dX10_sends_158 rfl rfl ?_
    refine g_iadd (n := 161) dX10_sends_160 rfl ?_
    refine g_iald (a := (123 + q)) (n := 162) dX10_sends_161 rfl (by decide) (z_lvP (by first | decide | assumption)) i8 (by show _ < 1740; first | assumption | omega) ?_
    refine g_icmp_le (n := 165) (t := 169) dX10_sends_162 rfl (by decide) (fun c162 => ?_) (fun c162 => ?_)
    · refine g_iconst (n := 170) dX10_sends_169 rfl k_ic_0 ?_
      exact tail _ (by unfold vOv; rw [if_pos (show S6 (127 + q) ≤ S6 (123 + q) from c162)])
    · refine g_iconst (n := 166) dX10_sends_165 rfl k_ic_1 ?_
      refine g_goto (n := 0) (t := 170) dX10_sends_166 (by decide) ?_
      exact tail _ (by unfold vOv; rw [if_neg (show ¬ S6 (127 + q) ≤ S6 (123 + q) from c162)])
theorem r_turns {S : Nat → Int32} (he : e < 8) : zC w mX10_turns (d + 1) [vR 10 0, vI (nI e)] (zP (u2 M 32 0 S) O) (zrI (nI 1 - S (69 + 5 * e))) (zP (u2 M 32 0 (upd S (69 + 5 * e) (nI 1 - S (69 + 5 * e)))) O) := by
  have i2 : nI (67 + 5 * e) + nI 2 = nI (69 + 5 * e) := r_ix0
  refine zC_of (cr := 0) (L0 := [vR 10 0, vI (nI e), vU]) rfl (by decide) (by decide) rfl (Nat.le_of_ble_eq_true rfl) rfl ?_
  refine g_iconst (n := 1) dX10_turns_0 rfl k_ic_0 ?_
  refine g_iload_n (n := 2) dX10_turns_1 rfl rfl ?_
  refine g_cSv (n := 5) (r_exitAt0 e) dX10_turns_2 rfl kw_X10_50 (Nat.le_of_ble_eq_true rfl) ⟨Nat.le_refl _, Nat.le_refl _⟩ ?_ rfl
  refine g_iconst (n := 6) dX10_turns_5 rfl k_ic_2 ?_
  refine g_iadd (n := 7) dX10_turns_6 rfl ?_
  rw [i2]
  refine g_istore2 (n := 8) dX10_turns_7 rfl (by decide) rfl ?_
  refine g_aload_n (n := 9) dX10_turns_8 rfl rfl ?_
  refine gf_X10_7 (n := 12) dX10_turns_9 rfl rfl (z_lvP (by first | decide | assumption)) rfl ?_
  refine g_iload_n (n := 13) dX10_turns_12 rfl rfl ?_
  refine g_iconst (n := 14) dX10_turns_13 rfl k_ic_1 ?_
  refine g_aload_n (n := 15) dX10_turns_14 rfl rfl ?_
  refine gf_X10_7 (n := 18) dX10_turns_15 rfl rfl (z_lvP (by first | decide | assumption)) rfl ?_
  refine g_iload_n (n := 19) dX10_turns_18 rfl rfl ?_
  refine g_iald (n := 20) dX10_turns_19 rfl (by decide) (z_lvP (by first | decide | assumption)) rfl (by show _ < 1740; first | assumption | omega) ?_
  refine g_isub (n := 21) dX10_turns_20 rfl ?_
  refine g_iast (n := 22) dX10_turns_21 rfl (by decide) (z_lvP (by first | decide | assumption)) rfl (by show _ < 1740; first | assumption | omega) ?_
  rw [u3_u2]
  refine g_aload_n (n := 23) dX10_turns_22 rfl rfl ?_
  refine gf_X10_7 (n := 26) dX10_turns_23 rfl rfl (z_lvP (by first | decide | assumption)) rfl ?_
  refine g_iload_n (n := 27) dX10_turns_26 rfl rfl ?_
  refine g_iald (n := 28) dX10_turns_27 rfl (by decide) (z_lvP (by first | decide | assumption)) rfl (by show _ < 1740; first | assumption | omega) ?_
  rw [show u2 M 32 0 (upd S (69 + 5 * e) (nI 1 - u2 M 32 0 S 32 0 (69 + 5 * e))) 32 0 (69 + 5 * e) = nI 1 - S (69 + 5 * e) from pk_us]
  exact g_ireturn dX10_turns_28 rfl rfl rfl rfl
theorem r_changes {S : Nat → Int32} {p : Nat} (hp : p < 174) (x : Int32) : zC w mX10_changes d [vR 10 0, vI (nI p), vI x] (zP (u2 M 32 0 S) O) (zrI (S p)) (zP (u2 M 32 0 (upd S p x)) O) := by
  refine zC_of (cr := 0) (L0 := [vR 10 0, vI (nI p), vI x, vU]) rfl (by decide) (by decide) rfl (Nat.le_of_ble_eq_true rfl) rfl ?_
  refine g_aload_n (n := 1) dX10_changes_0 rfl rfl ?_
  refine gf_X10_7 (n := 4) dX10_changes_1 rfl rfl (z_lvP (by first | decide | assumption)) rfl ?_
  refine g_iload_n (n := 5) dX10_changes_4 rfl rfl ?_
  refine g_iald (n := 6) dX10_changes_5 rfl (by decide) (z_lvP (by first | decide | assumption)) rfl (by show _ < 1740; first | assumption | omega) ?_
  refine g_istore3 (n := 7) dX10_changes_6 rfl (by decide) rfl ?_
  refine g_aload_n (n := 8) dX10_changes_7 rfl rfl ?_
  refine gf_X10_7 (n := 11) dX10_changes_8 rfl rfl (z_lvP (by first | decide | assumption)) rfl ?_
  refine g_iload_n (n := 12) dX10_changes_11 rfl rfl ?_
  refine g_iload_n (n := 13) dX10_changes_12 rfl rfl ?_
  refine g_iast (n := 14) dX10_changes_13 rfl (by decide) (z_lvP (by first | decide | assumption)) rfl (by show _ < 1740; first | assumption | omega) ?_
  rw [u3_u2]
  refine g_iload_n (n := 15) dX10_changes_14 rfl rfl ?_
  exact g_ireturn dX10_changes_15 rfl rfl rfl rfl
/-- the memory behind a call that is taken and saves -/
def mSv (M : Nat → Nat → Nat → Int32) (h : Nat) : Nat → Nat → Nat → Int32 := u3 (u3 M 10 0 3 (nI 0)) 10 0 1 (nI (rSv h))
theorem r_savesM (hh : M 10 0 1 = nI h) (h6 : h ≤ 6) : zC w mX10_saves (d + 1) [vR 10 0] (zP (u3 M 10 0 3 (nI 0)) O) zrV (zP (u2 (mSv M h) 32 0 (rSave (M 32 0) h)) O) := by
  have c := r_saves (w := w) (d := d) (M := u3 M 10 0 3 (nI 0)) (O := O) (h := h) ((u3_nj (by decide)).trans hh) h6
  exact c
theorem r_road {a c x : Nat} (hh : M 10 0 1 = nI h) (h6 : h ≤ 6) (ha : a < 8) (hc : c < 8) (hac : a ≠ c) (hx : x ≤ 99) : zC w mX10_road (d + 9) [vR 10 0, vI (nI a), vI (nI c), vI (nI x)] (zP M O) (zrI (M 32 0 (2 + (8 * a + c)))) (zP (u2 (mSv M h) 32 0 (rLay (rSave (M 32 0) h) 0 a c (nI x))) O) := by
  have hne : ¬ nI a = nI c := fun z => hac ((nI_eq (by omega) (by omega)).mp z)
  refine r_road_y rfl (by rw [z_ok_nI ha (by decide), z_ok_nI hc (by decide), decide_eq_true hne, z_ok_nI (show x < 100 by omega) (by decide)]; rfl) ?_
  refine g_aload_n (n := 49) dX10_road_48 rfl rfl ?_
  refine g_cVn (n := 52) (r_savesM hh h6) dX10_road_49 rfl kw_X10_91 rfl (by decide) (z_lvP (by first | decide | assumption)) (Nat.le_of_ble_eq_true rfl) ⟨Nat.le_refl _, Nat.le_refl _⟩ ?_ rfl
  refine g_aload_n (n := 53) dX10_road_52 rfl rfl ?_
  refine gf_X10_7 (n := 56) dX10_road_53 rfl rfl (z_lvP (by first | decide | assumption)) rfl ?_
  refine g_iconst (n := 57) dX10_road_56 rfl k_ic_2 ?_
  refine g_bipush (n := 59) dX10_road_57 rfl k_bp_8 ?_
  refine g_iload_n (n := 60) dX10_road_59 rfl rfl ?_
  refine g_imul (n := 61) dX10_road_60 rfl ?_
  refine g_iadd (n := 62) dX10_road_61 rfl ?_
  refine g_iload_n (n := 63) dX10_road_62 rfl rfl ?_
  refine g_iadd (n := 64) dX10_road_63 rfl ?_
  refine g_iald (a := (2 + (8 * a + c))) (n := 65) dX10_road_64 rfl (by decide) (z_lvP (by first | decide | assumption)) (by rw [pk_mul, nI_add, nI_add, Nat.add_assoc]) (by show _ < 1740; first | assumption | omega) ?_
  rw [show u2 (mSv M h) 32 0 (rSave (M 32 0) h) 32 0 (2 + (8 * a + c)) = M 32 0 (2 + (8 * a + c)) from rSave_lo (by omega)]
  refine g_istore4 (n := 67) dX10_road_65 rfl (by decide) rfl ?_
  refine g_aload_n (n := 68) dX10_road_67 rfl rfl ?_
  refine g_iconst (n := 69) dX10_road_68 rfl k_ic_0 ?_
  refine g_iload_n (n := 70) dX10_road_69 rfl rfl ?_
  refine g_iload_n (n := 71) dX10_road_70 rfl rfl ?_
  refine g_iload_n (n := 72) dX10_road_71 rfl rfl ?_
  refine g_cVn (n := 75) (r_lays (b := 0) (by decide) ha hc) dX10_road_72 rfl kw_X10_30 rfl (by decide) (z_lvP (by first | decide | assumption)) (Nat.le_of_ble_eq_true rfl) ⟨Nat.le_refl _, Nat.le_refl _⟩ ?_ rfl
  refine g_iload (n := 77) dX10_road_75 rfl rfl ?_
  exact g_ireturn dX10_road_77 rfl rfl rfl rfl
theorem r_exit {a c : Nat} (hs : M 32 0 66 = nI s) (h8 : s < 8) (hh : M 10 0 1 = nI h) (h6 : h ≤ 6) (ha : a < 8) (hc : c < 4) : zC w mX10_exit (d + 9) [vR 10 0, vI (nI a), vI (nI c)] (zP M O) (zrI (nI s)) (zP (u2 (mSv M h) 32 0 (upd (upd (upd (upd (upd (upd (rSave (M 32 0) h) (67 + 5 * s) (nI a)) (68 + 5 * s) (nI c)) (69 + 5 * s) (nI 1)) (70 + 5 * s) (nI 0)) (71 + 5 * s) (nI 0)) 66 (nI (s + 1)))) O) := by
  obtain ⟨S, hS⟩ : ∃ S, S = rSave (M 32 0) h := ⟨_, rfl⟩
  have s6 : S 66 = nI s := by rw [hS, rSave_lo (by decide)]; exact hs
  have cs := r_savesM (w := w) (d := d + 7) (M := M) (O := O) hh h6
  rw [← hS] at cs ⊢
  have i1 : nI (67 + 5 * s) + nI 1 = nI (68 + 5 * s) := r_ix0
  have i2 : nI (67 + 5 * s) + nI 2 = nI (69 + 5 * s) := r_ix0
  have i3 : nI (67 + 5 * s) + nI 3 = nI (70 + 5 * s) := r_ix0
  have i4 : nI (67 + 5 * s) + nI 4 = nI (71 + 5 * s) := r_ix0
  refine r_exit_y rfl (by rw [z_ok_nI ha (by decide), z_ok_nI hc (by decide), hs, decide_eq_true (nI_lt (b := 8) h8 (by decide))]; rfl) ?_
  refine g_aload_n (n := 48) dX10_exit_47 rfl rfl ?_
  refine g_cVn (n := 51) cs dX10_exit_48 rfl kw_X10_91 rfl (by decide) (z_lvP (by first | decide | assumption)) (Nat.le_of_ble_eq_true rfl) ⟨Nat.le_refl _, Nat.le_refl _⟩ ?_ rfl
  refine g_iconst (n := 52) dX10_exit_51 rfl k_ic_0 ?_
  refine g_aload_n (n := 53) dX10_exit_52 rfl rfl ?_
  refine gf_X10_7 (n := 56) dX10_exit_53 rfl rfl (z_lvP (by first | decide | assumption)) rfl ?_
  refine g_bipush (n := 58) dX10_exit_56 rfl k_bp_66 ?_
  refine g_iald (n := 59) dX10_exit_58 rfl (by decide) (z_lvP (by first | decide | assumption)) rfl (by show _ < 1740; first | assumption | omega) ?_
  rw [show u2 (mSv M h) 32 0 S 32 0 66 = nI s from s6]
  refine g_cSv (n := 62) (r_exitAt0 s) dX10_exit_59 rfl kw_X10_50 (Nat.le_of_ble_eq_true rfl) ⟨Nat.le_refl _, Nat.le_refl _⟩ ?_ rfl
  refine g_istore3 (n := 63) dX10_exit_62 rfl (by decide) rfl ?_
  refine g_aload_n (n := 64) dX10_exit_63 rfl rfl ?_
  refine gf_X10_7 (n := 67) dX10_exit_64 rfl rfl (z_lvP (by first | decide | assumption)) rfl ?_
  refine g_iload_n (n := 68) dX10_exit_67 rfl rfl ?_
  refine g_iload_n (n := 69) dX10_exit_68 rfl rfl ?_
  refine g_iast (n := 70) dX10_exit_69 rfl (by decide) (z_lvP (by first | decide | assumption)) rfl (by show _ < 1740; first | assumption | omega) ?_
  rw [u3_u2]
  refine g_aload_n (n := 71) dX10_exit_70 rfl rfl ?_
  refine gf_X10_7 (n := 74) dX10_exit_71 rfl rfl (z_lvP (by first | decide | assumption)) rfl ?_
  refine g_iload_n (n := 75) dX10_exit_74 rfl rfl ?_
  refine g_iconst (n := 76) dX10_exit_75 rfl k_ic_1 ?_
  refine g_iadd (n := 77) dX10_exit_76 rfl ?_
  rw [i1]
  refine g_iload_n (n := 78) dX10_exit_77 rfl rfl ?_
  refine g_iast (n := 79) dX10_exit_78 rfl (by decide) (z_lvP (by first | decide | assumption)) rfl (by show _ < 1740; first | assumption | omega) ?_
  rw [u3_u2]
  refine g_aload_n (n := 80) dX10_exit_79 rfl rfl ?_
  refine gf_X10_7 (n := 83) dX10_exit_80 rfl rfl (z_lvP (by first | decide | assumption)) rfl ?_
  refine g_iload_n (n := 84) dX10_exit_83 rfl rfl ?_
  refine g_iconst (n := 85) dX10_exit_84 rfl k_ic_2 ?_
  refine g_iadd (n := 86) dX10_exit_85 rfl ?_
  rw [i2]
  refine g_iconst (n := 87) dX10_exit_86 rfl k_ic_1 ?_
  refine g_iast (n := 88) dX10_exit_87 rfl (by decide) (z_lvP (by first | decide | assumption)) rfl (by show _ < 1740; first | assumption | omega) ?_
  rw [u3_u2]
  refine g_aload_n (n := 89) dX10_exit_88 rfl rfl ?_
  refine gf_X10_7 (n := 92) dX10_exit_89 rfl rfl (z_lvP (by first | decide | assumption)) rfl ?_
  refine g_iload_n (n := 93) dX10_exit_92 rfl rfl ?_
  refine g_iconst (n := 94) dX10_exit_93 rfl k_ic_3 ?_
  refine g_iadd (n := 95) dX10_exit_94 rfl ?_
  rw [i3]
  refine g_iconst (n := 96) dX10_exit_95 rfl k_ic_0 ?_
  refine g_iast (n := 97) dX10_exit_96 rfl (by decide) (z_lvP (by first | decide | assumption)) rfl (by show _ < 1740; first | assumption | omega) ?_
  rw [u3_u2]
  refine g_aload_n (n := 98) dX10_exit_97 rfl rfl ?_
  refine gf_X10_7 (n := 101) dX10_exit_98 rfl rfl (z_lvP (by first | decide | assumption)) rfl ?_
  refine g_iload_n (n := 102) dX10_exit_101 rfl rfl ?_
  refine g_iconst (n := 103) dX10_exit_102 rfl k_ic_4 ?_
  refine g_iadd (n := 104) dX10_exit_103 rfl ?_
  rw [i4]
  refine g_iconst (n := 105) dX10_exit_104 rfl k_ic_0 ?_
  refine g_iast (n := 106) dX10_exit_105 rfl (by decide) (z_lvP (by first | decide | assumption)) rfl (by show _ < 1740; first | assumption | omega) ?_
  rw [u3_u2]
  obtain ⟨S5, h5⟩ : ∃ S5, S5 = upd (upd (upd (upd (upd S (67 + 5 * s) (nI a)) (68 + 5 * s) (nI c)) (69 + 5 * s) (nI 1)) (70 + 5 * s) (nI 0)) (71 + 5 * s) (nI 0) := ⟨_, rfl⟩
  have s5 : S5 66 = nI s := by
    rw [h5, upd_o (by omega), upd_o (by omega), upd_o (by omega), upd_o (by omega), upd_o (by omega)]
    exact s6
  rw [← h5]
  refine g_aload_n (n := 107) dX10_exit_106 rfl rfl ?_
  refine gf_X10_7 (n := 110) dX10_exit_107 rfl rfl (z_lvP (by first | decide | assumption)) rfl ?_
  refine g_bipush (n := 112) dX10_exit_110 rfl k_bp_66 ?_
  refine g_dup2 (n := 113) dX10_exit_112 rfl rfl rfl ?_
  refine g_iald (n := 114) dX10_exit_113 rfl (by decide) (z_lvP (by first | decide | assumption)) rfl (by show _ < 1740; first | assumption | omega) ?_
  rw [show u2 (mSv M h) 32 0 S5 32 0 66 = nI s from s5]
  refine g_iconst (n := 115) dX10_exit_114 rfl k_ic_1 ?_
  refine g_iadd (n := 116) dX10_exit_115 rfl ?_
  rw [nI_add]
  refine g_iast (n := 117) dX10_exit_116 rfl (by decide) (z_lvP (by first | decide | assumption)) rfl (by show _ < 1740; first | assumption | omega) ?_
  rw [u3_u2]
  refine g_aload_n (n := 118) dX10_exit_117 rfl rfl ?_
  refine gf_X10_7 (n := 121) dX10_exit_118 rfl rfl (z_lvP (by first | decide | assumption)) rfl ?_
  refine g_bipush (n := 123) dX10_exit_121 rfl k_bp_66 ?_
  refine g_iald (n := 124) dX10_exit_123 rfl (by decide) (z_lvP (by first | decide | assumption)) rfl (by show _ < 1740; first | assumption | omega) ?_
  rw [show u2 (mSv M h) 32 0 (upd S5 66 (nI (s + 1))) 32 0 66 = nI (s + 1) from @pk_us S5 66 (nI (s + 1))]
  refine g_iconst (n := 125) dX10_exit_124 rfl k_ic_1 ?_
  refine g_isub (n := 126) dX10_exit_125 rfl ?_
  rw [show nI (s + 1) - nI 1 = nI s from (pk_sub (by omega)).trans rfl]
  exact g_ireturn dX10_exit_126 rfl rfl rfl rfl
theorem r_turn (hs : M 32 0 66 = nI s) (h8 : s ≤ 8) (hh : M 10 0 1 = nI h) (h6 : h ≤ 6) (he : e < s) : zC w mX10_turn (d + 9) [vR 10 0, vI (nI e)] (zP M O) (zrI (nI 1 - M 32 0 (69 + 5 * e))) (zP (u2 (mSv M h) 32 0 (upd (rSave (M 32 0) h) (69 + 5 * e) (nI 1 - M 32 0 (69 + 5 * e)))) O) := by
  have ct := r_turns (w := w) (d := d + 7) (M := mSv M h) (O := O) (S := rSave (M 32 0) h) (show e < 8 by omega)
  rw [rSave_lo (by omega)] at ct
  refine r_turn_y hs h8 rfl (by rw [z_ok_nI he (by omega)]; rfl) ?_
  refine g_aload_n (n := 16) dX10_turn_15 rfl rfl ?_
  refine g_cVn (n := 19) (r_savesM hh h6) dX10_turn_16 rfl kw_X10_91 rfl (by decide) (z_lvP (by first | decide | assumption)) (Nat.le_of_ble_eq_true rfl) ⟨Nat.le_refl _, Nat.le_refl _⟩ ?_ rfl
  refine g_aload_n (n := 20) dX10_turn_19 rfl rfl ?_
  refine g_iload_n (n := 21) dX10_turn_20 rfl rfl ?_
  refine g_cVv (n := 24) ct dX10_turn_21 rfl kw_X10_97 rfl (by decide) (z_lvP (by first | decide | assumption)) (Nat.le_of_ble_eq_true rfl) ⟨Nat.le_refl _, Nat.le_refl _⟩ ?_ rfl
  exact g_ireturn dX10_turn_24 rfl rfl rfl rfl
theorem r_offer {a c : Nat} {x : Int32} (hh : M 10 0 1 = nI h) (h6 : h ≤ 6) (ha : a < 4) (hc : c < 4) (hx : z_ok x 10 = true) : zC w mX10_offer (d + 9) [vR 10 0, vI (nI a), vI (nI c), vI x] (zP M O) (zrI (M 32 0 (107 + (4 * a + c)))) (zP (u2 (mSv M h) 32 0 (upd (rSave (M 32 0) h) (107 + (4 * a + c)) x)) O) := by
  have ct := r_changes (w := w) (d := d + 8) (M := mSv M h) (O := O) (S := rSave (M 32 0) h) (p := 107 + (4 * a + c)) (by omega) x
  rw [rSave_lo (by omega)] at ct
  refine r_offer_y rfl (by rw [z_ok_nI ha (by decide), z_ok_nI hc (by decide), hx]; rfl) ?_
  refine g_aload_n (n := 38) dX10_offer_37 rfl rfl ?_
  refine g_cVn (n := 41) (r_savesM hh h6) dX10_offer_38 rfl kw_X10_91 rfl (by decide) (z_lvP (by first | decide | assumption)) (Nat.le_of_ble_eq_true rfl) ⟨Nat.le_refl _, Nat.le_refl _⟩ ?_ rfl
  refine g_aload_n (n := 42) dX10_offer_41 rfl rfl ?_
  refine g_bipush (n := 44) dX10_offer_42 rfl k_bp_107 ?_
  refine g_iconst (n := 45) dX10_offer_44 rfl k_ic_4 ?_
  refine g_iload_n (n := 46) dX10_offer_45 rfl rfl ?_
  refine g_imul (n := 47) dX10_offer_46 rfl ?_
  refine g_iadd (n := 48) dX10_offer_47 rfl ?_
  refine g_iload_n (n := 49) dX10_offer_48 rfl rfl ?_
  refine g_iadd (n := 50) dX10_offer_49 rfl ?_
  rw [pk_mul, nI_add, nI_add, show 107 + 4 * a + c = 107 + (4 * a + c) from Nat.add_assoc _ _ _]
  refine g_iload_n (n := 51) dX10_offer_50 rfl rfl ?_
  refine g_cVv (n := 54) ct dX10_offer_51 rfl kw_X10_104 rfl (by decide) (z_lvP (by first | decide | assumption)) (Nat.le_of_ble_eq_true rfl) ⟨Nat.le_refl _, Nat.le_refl _⟩ ?_ rfl
  exact g_ireturn dX10_offer_54 rfl rfl rfl rfl
theorem r_bound {a : Nat} {x : Int32} (hh : M 10 0 1 = nI h) (h6 : h ≤ 6) (ha : a < 4) (hx : z_ok x 100 = true) : zC w mX10_bound (d + 9) [vR 10 0, vI (nI a), vI x] (zP M O) (zrI (M 32 0 (123 + a))) (zP (u2 (mSv M h) 32 0 (upd (rSave (M 32 0) h) (123 + a) x)) O) := by
  have ct := r_changes (w := w) (d := d + 8) (M := mSv M h) (O := O) (S := rSave (M 32 0) h) (p := 123 + a) (by omega) x
  rw [rSave_lo (by omega)] at ct
  refine r_bound_y rfl (by rw [z_ok_nI ha (by decide), hx]; rfl) ?_
  refine g_aload_n (n := 23) dX10_bound_22 rfl rfl ?_
  refine g_cVn (n := 26) (r_savesM hh h6) dX10_bound_23 rfl kw_X10_91 rfl (by decide) (z_lvP (by first | decide | assumption)) (Nat.le_of_ble_eq_true rfl) ⟨Nat.le_refl _, Nat.le_refl _⟩ ?_ rfl
  refine g_aload_n (n := 27) dX10_bound_26 rfl rfl ?_
  refine g_bipush (n := 29) dX10_bound_27 rfl k_bp_123 ?_
  refine g_iload_n (n := 30) dX10_bound_29 rfl rfl ?_
  refine g_iadd (n := 31) dX10_bound_30 rfl ?_
  rw [nI_add]
  refine g_iload_n (n := 32) dX10_bound_31 rfl rfl ?_
  refine g_cVv (n := 35) ct dX10_bound_32 rfl kw_X10_104 rfl (by decide) (z_lvP (by first | decide | assumption)) (Nat.le_of_ble_eq_true rfl) ⟨Nat.le_refl _, Nat.le_refl _⟩ ?_ rfl
  exact g_ireturn dX10_bound_35 rfl rfl rfl rfl
theorem r_set {a : Nat} {x : Int32} (hh : M 10 0 1 = nI h) (h6 : h ≤ 6) (ha : a < 2) (hx : z_ok x 2 = true) : zC w mX10_set (d + 9) [vR 10 0, vI (nI a), vI x] (zP M O) (zrI (M 32 0 a)) (zP (u2 (mSv M h) 32 0 (upd (rSave (M 32 0) h) a x)) O) := by
  have ct := r_changes (w := w) (d := d + 8) (M := mSv M h) (O := O) (S := rSave (M 32 0) h) (p := a) (by omega) x
  rw [rSave_lo (by omega)] at ct
  refine r_set_y rfl (by rw [z_ok_nI ha (by decide), hx]; rfl) ?_
  refine g_aload_n (n := 22) dX10_set_21 rfl rfl ?_
  refine g_cVn (n := 25) (r_savesM hh h6) dX10_set_22 rfl kw_X10_91 rfl (by decide) (z_lvP (by first | decide | assumption)) (Nat.le_of_ble_eq_true rfl) ⟨Nat.le_refl _, Nat.le_refl _⟩ ?_ rfl
  refine g_aload_n (n := 26) dX10_set_25 rfl rfl ?_
  refine g_iload_n (n := 27) dX10_set_26 rfl rfl ?_
  refine g_iload_n (n := 28) dX10_set_27 rfl rfl ?_
  refine g_cVv (n := 31) ct dX10_set_28 rfl kw_X10_104 rfl (by decide) (z_lvP (by first | decide | assumption)) (Nat.le_of_ble_eq_true rfl) ⟨Nat.le_refl _, Nat.le_refl _⟩ ?_ rfl
  exact g_ireturn dX10_set_31 rfl rfl rfl rfl
theorem r_send (R : RowR M 0 V) (W : WFV V) (hs : V 66 = nI s) (h8 : s ≤ 8) (hh : M 10 0 1 = nI h) (h6 : h ≤ 6) {u : Nat} (ht : t < 8) (hu : u < 4) (hl : M 32 0 171 < nI 9999) : zC w mX10_send (d + 9) [vR 10 0, vI (nI t), vI (nI u)] (zP M O) (zrI (vCho (vDi V) V s t u)) (zP (u2 (mMea (u2 (mSv M h) 32 0 (rSave (M 32 0) h)) 0) 32 0 (rSnd (rSave (M 32 0) h) V s t u)) O) := by
  have R1 : RowR (u2 (mSv M h) 32 0 (rSave (M 32 0) h)) 0 V := fun j hj => by
    show rSave (M 32 0) h (0 + j) = V j
    rw [rSave_lo (by omega)]
    exact R j hj
  have ct := r_sends (w := w) (d := d + 2) (O := O) R1 W hs h8 ht hu
  rw [u2_self] at ct
  refine r_send_y rfl (by rw [z_ok_nI ht (by decide), z_ok_nI hu (by decide), decide_eq_true hl]; rfl) ?_
  refine g_aload_n (n := 48) dX10_send_47 rfl rfl ?_
  refine g_cVn (n := 51) (r_savesM hh h6) dX10_send_48 rfl kw_X10_91 rfl (by decide) (z_lvP (by first | decide | assumption)) (Nat.le_of_ble_eq_true rfl) ⟨Nat.le_refl _, Nat.le_refl _⟩ ?_ rfl
  refine g_aload_n (n := 52) dX10_send_51 rfl rfl ?_
  refine g_iload_n (n := 53) dX10_send_52 rfl rfl ?_
  refine g_iload_n (n := 54) dX10_send_53 rfl rfl ?_
  refine g_cVv (n := 57) ct dX10_send_54 rfl kw_X10_107 rfl (by decide) (z_lvP (by first | decide | assumption)) (Nat.le_of_ble_eq_true rfl) ⟨Nat.le_refl _, Nat.le_refl _⟩ ?_ rfl
  exact g_ireturn dX10_send_57 rfl rfl rfl rfl
theorem r_sum {f n : Nat} (hf : f + n ≤ 1740) : zC w mX10_sum d [vR 10 0, vI (nI f), vI (nI n)] (zP M O) (zrI (sm (fun k => M 32 0 (f + k)) n)) (zP M O) := by
  obtain ⟨g, hg⟩ : ∃ g : Nat → Int32, g = fun k => M 32 0 (f + k) := ⟨_, rfl⟩
  rw [← hg]
  refine zC_of (cr := 0) (L0 := [vR 10 0, vI (nI f), vI (nI n), vU, vU]) rfl (by decide) (by decide) rfl (Nat.le_of_ble_eq_true rfl) rfl ?_
  refine g_iconst (n := 1) dX10_sum_0 rfl k_ic_0 ?_
  refine g_istore3 (n := 2) dX10_sum_1 rfl (by decide) rfl ?_
  refine g_iconst (n := 3) dX10_sum_2 rfl k_ic_0 ?_
  refine g_istore4 (n := 5) dX10_sum_3 rfl (by decide) rfl ?_
  refine z_loop (fun k => zG w mX10_sum d 0 5 [vR 10 0, vI (nI f), vI (nI n), vI (sm g k), vI (nI k)] [] (zP M O) (zrI (sm g n)) (zP M O)) n ?_ ?_ 0 (Nat.zero_le _)
  · refine g_iload (n := 7) dX10_sum_5 rfl rfl ?_
    refine g_iload_n (n := 8) dX10_sum_7 rfl rfl ?_
    refine g_icmp_ge (n := 11) (t := 29) dX10_sum_8 rfl (by decide) (fun _ => ?_) (fun q9 => absurd (Int32.le_refl _) q9)
    refine g_iload_n (n := 30) dX10_sum_29 rfl rfl ?_
    exact g_ireturn dX10_sum_30 rfl rfl rfl rfl
  · intro k hk ih
    have gk : M 32 0 (f + k) = g k := by rw [hg]
    rw [sm_s] at ih
    refine g_iload (n := 7) dX10_sum_5 rfl rfl ?_
    refine g_iload_n (n := 8) dX10_sum_7 rfl rfl ?_
    refine g_icmp_ge (n := 11) (t := 29) dX10_sum_8 rfl (by decide) (fun q9 => absurd q9 (nI_ge hk (by omega))) (fun _ => ?_)
    refine g_iload_n (n := 12) dX10_sum_11 rfl rfl ?_
    refine g_aload_n (n := 13) dX10_sum_12 rfl rfl ?_
    refine gf_X10_7 (n := 16) dX10_sum_13 rfl rfl (z_lvP (by first | decide | assumption)) rfl ?_
    refine g_iload_n (n := 17) dX10_sum_16 rfl rfl ?_
    refine g_iload (n := 19) dX10_sum_17 rfl rfl ?_
    refine g_iadd (n := 20) dX10_sum_19 rfl ?_
    refine g_iald (a := (f + k)) (n := 21) dX10_sum_20 rfl (by decide) (z_lvP (by first | decide | assumption)) (nI_add _ _) (by show _ < 1740; first | assumption | omega) ?_
    rw [gk]
    refine g_iadd (n := 22) dX10_sum_21 rfl ?_
    refine g_istore3 (n := 23) dX10_sum_22 rfl (by decide) rfl ?_
    refine g_iinc4 (n := 26) dX10_sum_23 rfl (by decide) rfl (z_inc1 _) ?_
    refine g_goto (n := 0) (t := 5) dX10_sum_26 (by decide) ?_
    exact ih
theorem r_above {f n : Nat} (hf : f + n ≤ 1740) : zC w mX10_above d [vR 10 0, vI (nI f), vI (nI n)] (zP M O) (zrI (sm (fun k => zb (decide (0 < M 32 0 (f + k)))) n)) (zP M O) := by
  obtain ⟨g, hg⟩ : ∃ g : Nat → Int32, g = fun k => zb (decide (0 < M 32 0 (f + k))) := ⟨_, rfl⟩
  rw [← hg]
  refine zC_of (cr := 0) (L0 := [vR 10 0, vI (nI f), vI (nI n), vU, vU]) rfl (by decide) (by decide) rfl (Nat.le_of_ble_eq_true rfl) rfl ?_
  refine g_iconst (n := 1) dX10_above_0 rfl k_ic_0 ?_
  refine g_istore3 (n := 2) dX10_above_1 rfl (by decide) rfl ?_
  refine g_iconst (n := 3) dX10_above_2 rfl k_ic_0 ?_
  refine g_istore4 (n := 5) dX10_above_3 rfl (by decide) rfl ?_
  refine z_loop (fun k => zG w mX10_above d 0 5 [vR 10 0, vI (nI f), vI (nI n), vI (sm g k), vI (nI k)] [] (zP M O) (zrI (sm g n)) (zP M O)) n ?_ ?_ 0 (Nat.zero_le _)
  · refine g_iload (n := 7) dX10_above_5 rfl rfl ?_
    refine g_iload_n (n := 8) dX10_above_7 rfl rfl ?_
    refine g_icmp_ge (n := 11) (t := 37) dX10_above_8 rfl (by decide) (fun _ => ?_) (fun q9 => absurd (Int32.le_refl _) q9)
    refine g_iload_n (n := 38) dX10_above_37 rfl rfl ?_
    exact g_ireturn dX10_above_38 rfl rfl rfl rfl
  · intro k hk ih
    have gk : g k = zb (decide (0 < M 32 0 (f + k))) := by rw [hg]
    rw [sm_s, gk] at ih
    refine g_iload (n := 7) dX10_above_5 rfl rfl ?_
    refine g_iload_n (n := 8) dX10_above_7 rfl rfl ?_
    refine g_icmp_ge (n := 11) (t := 37) dX10_above_8 rfl (by decide) (fun q9 => absurd q9 (nI_ge hk (by omega))) (fun _ => ?_)
    refine g_iload_n (n := 12) dX10_above_11 rfl rfl ?_
    refine g_aload_n (n := 13) dX10_above_12 rfl rfl ?_
    refine gf_X10_7 (n := 16) dX10_above_13 rfl rfl (z_lvP (by first | decide | assumption)) rfl ?_
    refine g_iload_n (n := 17) dX10_above_16 rfl rfl ?_
    refine g_iload (n := 19) dX10_above_17 rfl rfl ?_
    refine g_iadd (n := 20) dX10_above_19 rfl ?_
    refine g_iald (a := (f + k)) (n := 21) dX10_above_20 rfl (by decide) (z_lvP (by first | decide | assumption)) (nI_add _ _) (by show _ < 1740; first | assumption | omega) ?_
    refine g_if_le (n := 24) (t := 28) dX10_above_21 rfl (by decide) (fun c21 => ?_) (fun c21 => ?_)
    · rw [decide_eq_false (Int32.not_lt.mpr c21)] at ih
      refine g_iconst (n := 29) dX10_above_28 rfl k_ic_0 ?_
      refine g_iadd (n := 30) dX10_above_29 rfl ?_
      refine g_istore3 (n := 31) dX10_above_30 rfl (by decide) rfl ?_
      refine g_iinc4 (n := 34) dX10_above_31 rfl (by decide) rfl (z_inc1 _) ?_
      refine g_goto (n := 0) (t := 5) dX10_above_34 (by decide) ?_
      exact ih
    · rw [decide_eq_true (Int32.not_le.mp c21)] at ih
      refine g_iconst (n := 25) dX10_above_24 rfl k_ic_1 ?_
      refine g_goto (n := 0) (t := 29) dX10_above_25 (by decide) ?_
      refine g_iadd (n := 30) dX10_above_29 rfl ?_
      refine g_istore3 (n := 31) dX10_above_30 rfl (by decide) rfl ?_
      refine g_iinc4 (n := 34) dX10_above_31 rfl (by decide) rfl (z_inc1 _) ?_
      refine g_goto (n := 0) (t := 5) dX10_above_34 (by decide) ?_
      exact ih
theorem r_open (hs : M 32 0 66 = nI s) (h8 : s ≤ 8) : zC w mX10_open (d + 1) [vR 10 0] (zP M O) (zrI (sm (fun k => M 32 0 (69 + 5 * k)) s)) (zP M O) := by
  obtain ⟨g, hg⟩ : ∃ g : Nat → Int32, g = fun k => M 32 0 (69 + 5 * k) := ⟨_, rfl⟩
  rw [← hg]
  refine zC_of (cr := 0) (L0 := [vR 10 0, vU, vU]) rfl (by decide) (by decide) rfl (Nat.le_of_ble_eq_true rfl) rfl ?_
  refine g_iconst (n := 1) dX10_open_0 rfl k_ic_0 ?_
  refine g_istore1 (n := 2) dX10_open_1 rfl (by decide) rfl ?_
  refine g_iconst (n := 3) dX10_open_2 rfl k_ic_0 ?_
  refine g_istore2 (n := 4) dX10_open_3 rfl (by decide) rfl ?_
  refine z_loop (fun k => zG w mX10_open (d + 1) 0 4 [vR 10 0, vI (sm g k), vI (nI k)] [] (zP M O) (zrI (sm g s)) (zP M O)) s ?_ ?_ 0 (Nat.zero_le _)
  · refine g_iload_n (n := 5) dX10_open_4 rfl rfl ?_
    refine g_aload_n (n := 6) dX10_open_5 rfl rfl ?_
    refine gf_X10_7 (n := 9) dX10_open_6 rfl rfl (z_lvP (by first | decide | assumption)) rfl ?_
    refine g_bipush (n := 11) dX10_open_9 rfl k_bp_66 ?_
    refine g_iald (n := 12) dX10_open_11 rfl (by decide) (z_lvP (by first | decide | assumption)) rfl (by show _ < 1740; first | assumption | omega) ?_
    rw [hs]
    refine g_icmp_ge (n := 15) (t := 36) dX10_open_12 rfl (by decide) (fun _ => ?_) (fun q9 => absurd (Int32.le_refl _) q9)
    refine g_iload_n (n := 37) dX10_open_36 rfl rfl ?_
    exact g_ireturn dX10_open_37 rfl rfl rfl rfl
  · intro k hk ih
    have gk : M 32 0 (69 + 5 * k) = g k := by rw [hg]
    rw [sm_s] at ih
    refine g_iload_n (n := 5) dX10_open_4 rfl rfl ?_
    refine g_aload_n (n := 6) dX10_open_5 rfl rfl ?_
    refine gf_X10_7 (n := 9) dX10_open_6 rfl rfl (z_lvP (by first | decide | assumption)) rfl ?_
    refine g_bipush (n := 11) dX10_open_9 rfl k_bp_66 ?_
    refine g_iald (n := 12) dX10_open_11 rfl (by decide) (z_lvP (by first | decide | assumption)) rfl (by show _ < 1740; first | assumption | omega) ?_
    rw [hs]
    refine g_icmp_ge (n := 15) (t := 36) dX10_open_12 rfl (by decide) (fun q9 => absurd q9 (nI_ge hk (by omega))) (fun _ => ?_)
    refine g_iload_n (n := 16) dX10_open_15 rfl rfl ?_
    refine g_aload_n (n := 17) dX10_open_16 rfl rfl ?_
    refine gf_X10_7 (n := 20) dX10_open_17 rfl rfl (z_lvP (by first | decide | assumption)) rfl ?_
    refine g_iconst (n := 21) dX10_open_20 rfl k_ic_0 ?_
    refine g_iload_n (n := 22) dX10_open_21 rfl rfl ?_
    refine g_cSv (n := 25) (r_exitAt0 k) dX10_open_22 rfl kw_X10_50 (Nat.le_of_ble_eq_true rfl) ⟨Nat.le_refl _, Nat.le_refl _⟩ ?_ rfl
    refine g_iconst (n := 26) dX10_open_25 rfl k_ic_2 ?_
    refine g_iadd (n := 27) dX10_open_26 rfl ?_
    refine g_iald (a := (69 + 5 * k)) (n := 28) dX10_open_27 rfl (by decide) (z_lvP (by first | decide | assumption)) r_ix0 (by show _ < 1740; first | assumption | omega) ?_
    rw [gk]
    refine g_iadd (n := 29) dX10_open_28 rfl ?_
    refine g_istore1 (n := 30) dX10_open_29 rfl (by decide) rfl ?_
    refine g_iinc2 (n := 33) dX10_open_30 rfl (by decide) rfl (z_inc1 _) ?_
    refine g_goto (n := 0) (t := 4) dX10_open_33 (by decide) ?_
    exact ih
theorem r_settle (hh : M 10 0 1 = nI h) (h6 : h ≤ 6) : zC w mX10_settle (d + 9) [vR 10 0] (zP M O) (zrI (sm (fun k => M 32 0 (131 + k)) 4)) (zP (u2 (mSv M h) 32 0 (upd (upd (upd (upd (upd (upd (upd (upd (rSave (M 32 0) h) (127 + 0) (nI 0)) (131 + 0) (nI 0)) (127 + 1) (nI 0)) (131 + 1) (nI 0)) (127 + 2) (nI 0)) (131 + 2) (nI 0)) (127 + 3) (nI 0)) (131 + 3) (nI 0))) O) := by
  obtain ⟨S, hS⟩ : ∃ S, S = rSave (M 32 0) h := ⟨_, rfl⟩
  have e0 : sm (fun k => u2 (mSv M h) 32 0 S 32 0 (131 + k)) 4 = sm (fun k => M 32 0 (131 + k)) 4 := sm_cong (fun k hk => by
    show S (131 + k) = _
    rw [hS, rSave_lo (by omega)])
  have cs := r_savesM (w := w) (d := d + 7) (M := M) (O := O) hh h6
  have cm := r_sum (w := w) (d := d + 8) (M := u2 (mSv M h) 32 0 S) (O := O) (f := 131) (n := 4) (by decide)
  rw [e0] at cm
  rw [← hS] at cs ⊢
  obtain ⟨v, hv⟩ : ∃ v, v = sm (fun k => M 32 0 (131 + k)) 4 := ⟨_, rfl⟩
  rw [← hv] at cm ⊢
  have step : ∀ (S : Nat → Int32) (k : Nat) (M2 : Nat → Nat → Nat → Int32), k < 4 → zG w mX10_settle (d + 9) 0 20 [vR 10 0, vI v, vI (nI (k + 1))] [] (zP (u2 (mSv M h) 32 0 (upd (upd S (127 + k) (nI 0)) (131 + k) (nI 0))) O) (zrI v) (zP M2 O) → zG w mX10_settle (d + 9) 0 20 [vR 10 0, vI v, vI (nI k)] [] (zP (u2 (mSv M h) 32 0 S) O) (zrI v) (zP M2 O) := by
    intro S k M2 hk G
    refine g_iload_n (n := 21) dX10_settle_20 rfl rfl ?_
    refine g_iconst (n := 22) dX10_settle_21 rfl k_ic_4 ?_
    refine g_icmp_ge (n := 25) (t := 52) dX10_settle_22 rfl (by decide) (fun q9 => absurd q9 (nI_ge hk (by decide))) (fun _ => ?_)
    refine g_aload_n (n := 26) dX10_settle_25 rfl rfl ?_
    refine gf_X10_7 (n := 29) dX10_settle_26 rfl rfl (z_lvP (by first | decide | assumption)) rfl ?_
    refine g_bipush (n := 31) dX10_settle_29 rfl k_bp_127 ?_
    refine g_iload_n (n := 32) dX10_settle_31 rfl rfl ?_
    refine g_iadd (n := 33) dX10_settle_32 rfl ?_
    rw [nI_add]
    refine g_iconst (n := 34) dX10_settle_33 rfl k_ic_0 ?_
    refine g_iast (n := 35) dX10_settle_34 rfl (by decide) (z_lvP (by first | decide | assumption)) rfl (by show _ < 1740; first | assumption | omega) ?_
    rw [u3_u2]
    refine g_aload_n (n := 36) dX10_settle_35 rfl rfl ?_
    refine gf_X10_7 (n := 39) dX10_settle_36 rfl rfl (z_lvP (by first | decide | assumption)) rfl ?_
    refine g_sipush (n := 42) dX10_settle_39 rfl k_sp_131 ?_
    refine g_iload_n (n := 43) dX10_settle_42 rfl rfl ?_
    refine g_iadd (n := 44) dX10_settle_43 rfl ?_
    rw [nI_add]
    refine g_iconst (n := 45) dX10_settle_44 rfl k_ic_0 ?_
    refine g_iast (n := 46) dX10_settle_45 rfl (by decide) (z_lvP (by first | decide | assumption)) rfl (by show _ < 1740; first | assumption | omega) ?_
    rw [u3_u2]
    refine g_iinc2 (n := 49) dX10_settle_46 rfl (by decide) rfl (z_inc1 _) ?_
    refine g_goto (n := 0) (t := 20) dX10_settle_49 (by decide) ?_
    exact G
  refine zC_of (cr := 0) (L0 := [vR 10 0, vU, vU]) rfl (by decide) (by decide) rfl (Nat.le_of_ble_eq_true rfl) rfl ?_
  refine g_aload_n (n := 1) dX10_settle_0 rfl rfl ?_
  refine g_iconst (n := 2) dX10_settle_1 rfl k_ic_0 ?_
  refine gw_X10_34 (n := 5) dX10_settle_2 rfl rfl (z_lvP (by first | decide | assumption)) ?_
  refine g_aload_n (n := 6) dX10_settle_5 rfl rfl ?_
  refine g_cVn (n := 9) cs dX10_settle_6 rfl kw_X10_91 rfl (by decide) (z_lvP (by first | decide | assumption)) (Nat.le_of_ble_eq_true rfl) ⟨Nat.le_refl _, Nat.le_refl _⟩ ?_ rfl
  refine g_aload_n (n := 10) dX10_settle_9 rfl rfl ?_
  refine g_sipush (n := 13) dX10_settle_10 rfl k_sp_131 ?_
  refine g_iconst (n := 14) dX10_settle_13 rfl k_ic_4 ?_
  refine g_cVv (n := 17) cm dX10_settle_14 rfl kw_X10_110 rfl (by decide) (z_lvP (by first | decide | assumption)) (Nat.le_of_ble_eq_true rfl) ⟨Nat.le_refl _, Nat.le_refl _⟩ ?_ rfl
  refine g_istore1 (n := 18) dX10_settle_17 rfl (by decide) rfl ?_
  refine g_iconst (n := 19) dX10_settle_18 rfl k_ic_0 ?_
  refine g_istore2 (n := 20) dX10_settle_19 rfl (by decide) rfl ?_
  refine step _ 0 _ (by decide) (step _ 1 _ (by decide) (step _ 2 _ (by decide) (step _ 3 _ (by decide) ?_)))
  refine g_iload_n (n := 21) dX10_settle_20 rfl rfl ?_
  refine g_iconst (n := 22) dX10_settle_21 rfl k_ic_4 ?_
  refine g_icmp_ge (n := 25) (t := 52) dX10_settle_22 rfl (by decide) (fun _ => ?_) (fun q9 => absurd (Int32.le_refl _) q9)
  refine g_iload_n (n := 53) dX10_settle_52 rfl rfl ?_
  exact g_ireturn dX10_settle_53 rfl rfl rfl rfl
end L18

