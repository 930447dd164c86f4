/-! The reference: the looks of its face, snapshots, the buffer's ends. -/
theorem i2c_nI : ∀ c, c < 128 → ((nI c).toUInt32 % 65536).toInt32 = nI c := by decide +kernel
theorem nar_nI : ∀ c, c < 128 → vp_nar .char (nI c) = nI c := by decide +kernel
section L19
variable {w : zWp} {d b s t h e n : Nat} {M : Nat → Nat → Nat → Int32} {O : Nat → Int64} {V : Nat → Int32}
/-- the memory behind a call that is taken -/
abbrev m0 (M : Nat → Nat → Nat → Int32) : Nat → Nat → Nat → Int32 := u3 M 10 0 3 (nI 0)
theorem m0_row (R : RowR M b V) : RowR (m0 M) b V := R
theorem r_roadOf {a c : Nat} (ha : a < 8) (hc : c < 8) : zC w mX10_roadOf (d + 9) [vR 10 0, vI (nI a), vI (nI c)] (zP M O) (zrI (M 32 0 (2 + (8 * a + c)))) (zP (m0 M) O) := by
  refine r_roadOf_y rfl (by rw [z_ok_nI ha (by decide), z_ok_nI hc (by decide)]; rfl) ?_
  refine g_aload_n (n := 28) dX10_roadOf_27 rfl rfl ?_
  refine gf_X10_7 (n := 31) dX10_roadOf_28 rfl rfl (z_lvP (by first | decide | assumption)) rfl ?_
  refine g_iconst (n := 32) dX10_roadOf_31 rfl k_ic_2 ?_
  refine g_bipush (n := 34) dX10_roadOf_32 rfl k_bp_8 ?_
  refine g_iload_n (n := 35) dX10_roadOf_34 rfl rfl ?_
  refine g_imul (n := 36) dX10_roadOf_35 rfl ?_
  refine g_iadd (n := 37) dX10_roadOf_36 rfl ?_
  refine g_iload_n (n := 38) dX10_roadOf_37 rfl rfl ?_
  refine g_iadd (n := 39) dX10_roadOf_38 rfl ?_
  refine g_iald (a := (2 + (8 * a + c))) (n := 40) dX10_roadOf_39 rfl (by decide) (z_lvP (by first | decide | assumption)) (by rw [pk_mul, nI_add, nI_add, Nat.add_assoc]) (by show _ < 1740; first | assumption | omega) ?_
  refine g_goto (n := 0) (t := 44) dX10_roadOf_40 (by decide) ?_
  exact g_ireturn dX10_roadOf_44 rfl rfl rfl rfl
theorem r_distance {a c v : Nat} (R : RowR M 0 V) (ha : a < 8) (hc : c < 8) (hv : v < 2) : zC w mX10_distance (d + 9) [vR 10 0, vI (nI a), vI (nI c), vI (nI v)] (zP M O) (zrI (xfar (vDi V (8 * a + c)))) (zP (mMea (m0 M) 0) O) := by
  refine r_distance_y rfl (by rw [z_ok_nI ha (by decide), z_ok_nI hc (by decide), z_ok_nI hv (by decide)]; rfl) ?_
  refine g_aload_n (n := 33) dX10_distance_32 rfl rfl ?_
  refine g_iload_n (n := 34) dX10_distance_33 rfl rfl ?_
  refine g_iload_n (n := 35) dX10_distance_34 rfl rfl ?_
  refine g_cVv (n := 38) (r_distances (m0_row R) ha hc) dX10_distance_35 rfl kw_X10_154 rfl (by decide) (z_lvP (by first | decide | assumption)) (Nat.le_of_ble_eq_true rfl) ⟨Nat.le_refl _, Nat.le_refl _⟩ ?_ rfl
  refine g_goto (n := 0) (t := 42) dX10_distance_38 (by decide) ?_
  exact g_ireturn dX10_distance_42 rfl rfl rfl rfl
theorem r_exitOf {v : Nat} (hs : M 32 0 66 = nI s) (h8 : s ≤ 8) (he : e < s) (hv : v < 5) : zC w mX10_exitOf (d + 9) [vR 10 0, vI (nI e), vI (nI v)] (zP M O) (zrI (M 32 0 (67 + v + 5 * e))) (zP (m0 M) O) := by
  refine r_exitOf_y hs h8 rfl (by rw [z_ok_nI he (by omega), z_ok_nI hv (by decide)]; rfl) ?_
  refine g_aload_n (n := 19) dX10_exitOf_18 rfl rfl ?_
  refine gf_X10_7 (n := 22) dX10_exitOf_19 rfl rfl (z_lvP (by first | decide | assumption)) rfl ?_
  refine g_iconst (n := 23) dX10_exitOf_22 rfl k_ic_0 ?_
  refine g_iload_n (n := 24) dX10_exitOf_23 rfl rfl ?_
  refine g_cSv (n := 27) (r_exitAt0 e) dX10_exitOf_24 rfl kw_X10_50 (Nat.le_of_ble_eq_true rfl) ⟨Nat.le_refl _, Nat.le_refl _⟩ ?_ rfl
  refine g_iload_n (n := 28) dX10_exitOf_27 rfl rfl ?_
  refine g_iadd (n := 29) dX10_exitOf_28 rfl ?_
  refine g_iald (a := (67 + v + 5 * e)) (n := 30) dX10_exitOf_29 rfl (by decide) (z_lvP (by first | decide | assumption)) r_ix0 (by show _ < 1740; first | assumption | omega) ?_
  refine g_goto (n := 0) (t := 34) dX10_exitOf_30 (by decide) ?_
  exact g_ireturn dX10_exitOf_34 rfl rfl rfl rfl
def vNo (V : Nat → Int32) (a v : Nat) : Int32 := if v < 4 then V (107 + (4 * a + v)) else V (123 + (4 * (v - 4) + a))
theorem r_neighbours {a v : Nat} (ha : a < 4) (hv : v < 8) : zC w mX10_neighbours d [vR 10 0, vI (nI a), vI (nI v)] (zP M O) (zrI (vNo (M 32 0) a v)) (zP M O) := by
  unfold vNo
  refine zC_of (cr := 0) (L0 := [vR 10 0, vI (nI a), vI (nI v)]) rfl (by decide) (by decide) rfl (Nat.le_of_ble_eq_true rfl) rfl ?_
  by_cases h4 : v < 4
  · rw [if_pos h4]
    refine g_iload_n (n := 1) dX10_neighbours_0 rfl rfl ?_
    refine g_iconst (n := 2) dX10_neighbours_1 rfl k_ic_4 ?_
    refine g_icmp_ge (n := 5) (t := 21) dX10_neighbours_2 rfl (by decide) (fun q9 => absurd q9 (nI_ge h4 (by decide))) (fun _ => ?_)
    refine g_aload_n (n := 6) dX10_neighbours_5 rfl rfl ?_
    refine gf_X10_7 (n := 9) dX10_neighbours_6 rfl rfl (z_lvP (by first | decide | assumption)) rfl ?_
    refine g_bipush (n := 11) dX10_neighbours_9 rfl k_bp_107 ?_
    refine g_iconst (n := 12) dX10_neighbours_11 rfl k_ic_4 ?_
    refine g_iload_n (n := 13) dX10_neighbours_12 rfl rfl ?_
    refine g_imul (n := 14) dX10_neighbours_13 rfl ?_
    refine g_iadd (n := 15) dX10_neighbours_14 rfl ?_
    refine g_iload_n (n := 16) dX10_neighbours_15 rfl rfl ?_
    refine g_iadd (n := 17) dX10_neighbours_16 rfl ?_
    refine g_iald (a := (107 + (4 * a + v))) (n := 18) dX10_neighbours_17 rfl (by decide) (z_lvP (by first | decide | assumption)) (by rw [pk_mul, nI_add, nI_add, Nat.add_assoc]) (by show _ < 1740; first | assumption | omega) ?_
    refine g_goto (n := 0) (t := 36) dX10_neighbours_18 (by decide) ?_
    exact g_ireturn dX10_neighbours_36 rfl rfl rfl rfl
  · rw [if_neg h4]
    refine g_iload_n (n := 1) dX10_neighbours_0 rfl rfl ?_
    refine g_iconst (n := 2) dX10_neighbours_1 rfl k_ic_4 ?_
    refine g_icmp_ge (n := 5) (t := 21) dX10_neighbours_2 rfl (by decide) (fun _ => ?_) (fun q9 => absurd (nI_le (by omega) (by omega)) q9)
    refine g_aload_n (n := 22) dX10_neighbours_21 rfl rfl ?_
    refine gf_X10_7 (n := 25) dX10_neighbours_22 rfl rfl (z_lvP (by first | decide | assumption)) rfl ?_
    refine g_bipush (n := 27) dX10_neighbours_25 rfl k_bp_123 ?_
    refine g_iconst (n := 28) dX10_neighbours_27 rfl k_ic_4 ?_
    refine g_iload_n (n := 29) dX10_neighbours_28 rfl rfl ?_
    refine g_iconst (n := 30) dX10_neighbours_29 rfl k_ic_4 ?_
    refine g_isub (n := 31) dX10_neighbours_30 rfl ?_
    refine g_imul (n := 32) dX10_neighbours_31 rfl ?_
    refine g_iadd (n := 33) dX10_neighbours_32 rfl ?_
    refine g_iload_n (n := 34) dX10_neighbours_33 rfl rfl ?_
    refine g_iadd (n := 35) dX10_neighbours_34 rfl ?_
    refine g_iald (a := (123 + (4 * (v - 4) + a))) (n := 36) dX10_neighbours_35 rfl (by decide) (z_lvP (by first | decide | assumption)) (by rw [pk_sub (by omega), pk_mul, nI_add, nI_add, Nat.add_assoc]) (by show _ < 1740; first | assumption | omega) ?_
    exact g_ireturn dX10_neighbours_36 rfl rfl rfl rfl
theorem r_neighbourOf {a v : Nat} (ha : a < 4) (hv : v < 8) : zC w mX10_neighbourOf (d + 9) [vR 10 0, vI (nI a), vI (nI v)] (zP M O) (zrI (vNo (M 32 0) a v)) (zP (m0 M) O) := by
  refine r_neighbourOf_y rfl (by rw [z_ok_nI ha (by decide), z_ok_nI hv (by decide)]; rfl) ?_
  refine g_aload_n (n := 21) dX10_neighbourOf_20 rfl rfl ?_
  refine g_iload_n (n := 22) dX10_neighbourOf_21 rfl rfl ?_
  refine g_iload_n (n := 23) dX10_neighbourOf_22 rfl rfl ?_
  refine g_cVv (n := 26) (r_neighbours ha hv) dX10_neighbourOf_23 rfl kw_X10_157 rfl (by decide) (z_lvP (by first | decide | assumption)) (Nat.le_of_ble_eq_true rfl) ⟨Nat.le_refl _, Nat.le_refl _⟩ ?_ rfl
  refine g_goto (n := 0) (t := 30) dX10_neighbourOf_26 (by decide) ?_
  exact g_ireturn dX10_neighbourOf_30 rfl rfl rfl rfl
theorem r_choice {v : Nat} (R : RowR M 0 V) (W : WFV V) (hs : V 66 = nI s) (h8 : s ≤ 8) (ht : t < 8) (hh : h < 4) (hv : v < 6) : zC w mX10_choice (d + 9) [vR 10 0, vI (nI t), vI (nI h), vI (nI v)] (zP M O) (zrI (vCh V s t h v)) (zP (mMea (m0 M) 0) O) := by
  refine r_choice_y rfl (by rw [z_ok_nI ht (by decide), z_ok_nI hh (by decide), z_ok_nI hv (by decide)]; rfl) ?_
  refine g_aload_n (n := 33) dX10_choice_32 rfl rfl ?_
  refine g_iload_n (n := 34) dX10_choice_33 rfl rfl ?_
  refine g_iload_n (n := 35) dX10_choice_34 rfl rfl ?_
  refine g_iload_n (n := 36) dX10_choice_35 rfl rfl ?_
  refine g_cVv (n := 39) (r_choices (m0_row R) W hs h8 ht hh hv) dX10_choice_36 rfl kw_X10_163 rfl (by decide) (z_lvP (by first | decide | assumption)) (Nat.le_of_ble_eq_true rfl) ⟨Nat.le_refl _, Nat.le_refl _⟩ ?_ rfl
  refine g_goto (n := 0) (t := 43) dX10_choice_39 (by decide) ?_
  exact g_ireturn dX10_choice_43 rfl rfl rfl rfl
theorem r_why (R : RowR M 0 V) (W : WFV V) (hs : V 66 = nI s) (h8 : s ≤ 8) (ht : t < 8) (hh : h < 4) (he : e < s) : zC w mX10_why (d + 9) [vR 10 0, vI (nI t), vI (nI h), vI (nI e)] (zP M O) (zrI (vRe (vDi V) V s t h e)) (zP (mMea (m0 M) 0) O) := by
  have hs' : M 32 0 66 = nI s := (RowR0 R (by decide)).trans hs
  refine r_why_y hs' h8 rfl (by rw [z_ok_nI ht (by decide), z_ok_nI hh (by decide), z_ok_nI he (by omega)]; rfl) ?_
  refine g_aload_n (n := 36) dX10_why_35 rfl rfl ?_
  refine g_iload_n (n := 37) dX10_why_36 rfl rfl ?_
  refine g_iload_n (n := 38) dX10_why_37 rfl rfl ?_
  refine g_iload_n (n := 39) dX10_why_38 rfl rfl ?_
  refine g_cVv (n := 42) (r_reason (m0_row R) W hs h8 ht hh he) dX10_why_39 rfl kw_X10_166 rfl (by decide) (z_lvP (by first | decide | assumption)) (Nat.le_of_ble_eq_true rfl) ⟨Nat.le_refl _, Nat.le_refl _⟩ ?_ rfl
  refine g_goto (n := 0) (t := 46) dX10_why_42 (by decide) ?_
  exact g_ireturn dX10_why_46 rfl rfl rfl rfl
theorem r_ifRoad {a c x : Nat} (R : RowR M 0 V) (W : WFV V) (hs : V 66 = nI s) (h8 : s ≤ 8) (ha : a < 8) (hc : c < 8) (hac : a ≠ c) (hx : x ≤ 99) : ∃ M', rQ (m0 M) M' ∧ zC w mX10_ifRoad (d + 9) [vR 10 0, vI (nI a), vI (nI c), vI (nI x)] (zP M O) (zrI (vOt V s a c x)) (zP M' O) := by
  have hne : ¬ nI a = nI c := fun z => hac ((nI_eq (by omega) (by omega)).mp z)
  obtain ⟨M', Q, cq⟩ := r_changed (w := w) (d := d + 1) (O := O) (m0_row R) W hs h8 ha hc hac hx
  refine ⟨M', Q, ?_⟩
  refine r_ifRoad_y rfl (by rw [z_ok_nI ha (by decide), z_ok_nI hc (by decide), decide_eq_true hne, z_ok_nI (show x < 100 by omega) (by decide)]; rfl) ?_
  refine g_aload_n (n := 47) dX10_ifRoad_46 rfl rfl ?_
  refine g_iload_n (n := 48) dX10_ifRoad_47 rfl rfl ?_
  refine g_iload_n (n := 49) dX10_ifRoad_48 rfl rfl ?_
  refine g_iload_n (n := 50) dX10_ifRoad_49 rfl rfl ?_
  refine g_cVv (n := 53) cq dX10_ifRoad_50 rfl kw_X10_184 rfl (by decide) (z_lvP (by first | decide | assumption)) (Nat.le_of_ble_eq_true rfl) ⟨Nat.le_refl _, Nat.le_refl _⟩ ?_ rfl
  refine g_goto (n := 0) (t := 57) dX10_ifRoad_53 (by decide) ?_
  exact g_ireturn dX10_ifRoad_57 rfl rfl rfl rfl
theorem r_idle {a c : Nat} (R : RowR M 0 V) (ha : a < 8) (hc : c < 8) (hac : a ≠ c) : ∃ M', rQ (m0 M) M' ∧ zC w mX10_idle (d + 9) [vR 10 0, vI (nI a), vI (nI c)] (zP M O) (zrI (vId V a c)) (zP M' O) := by
  have hne : ¬ nI a = nI c := fun z => hac ((nI_eq (by omega) (by omega)).mp z)
  obtain ⟨M', Q, cq⟩ := r_idles (w := w) (d := d + 6) (O := O) (m0_row R) ha hc
  refine ⟨M', Q, ?_⟩
  refine r_idle_y rfl (by rw [z_ok_nI ha (by decide), z_ok_nI hc (by decide), decide_eq_true hne]; rfl) ?_
  refine g_aload_n (n := 37) dX10_idle_36 rfl rfl ?_
  refine g_iload_n (n := 38) dX10_idle_37 rfl rfl ?_
  refine g_iload_n (n := 39) dX10_idle_38 rfl rfl ?_
  refine g_cVv (n := 42) cq dX10_idle_39 rfl kw_X10_190 rfl (by decide) (z_lvP (by first | decide | assumption)) (Nat.le_of_ble_eq_true rfl) ⟨Nat.le_refl _, Nat.le_refl _⟩ ?_ rfl
  refine g_goto (n := 0) (t := 46) dX10_idle_42 (by decide) ?_
  exact g_ireturn dX10_idle_46 rfl rfl rfl rfl
theorem r_dearest (R : RowR M 0 V) (W : WFV V) (hs : V 66 = nI s) (h8 : s ≤ 8) : ∃ M', rQ (m0 M) M' ∧ zC w mX10_dearest (d + 9) [vR 10 0] (zP M O) (zrI (vDx V s s).1) (zP M' O) := by
  obtain ⟨M', Q, cq⟩ := r_dearestExit (w := w) (d := d + 1) (O := O) (m0_row R) W hs h8
  refine ⟨M', Q, ?_⟩
  refine zC_of (cr := 0) (L0 := [vR 10 0]) rfl (by decide) (by decide) rfl (Nat.le_of_ble_eq_true rfl) rfl ?_
  refine g_aload_n (n := 1) dX10_dearest_0 rfl rfl ?_
  refine g_iconst (n := 2) dX10_dearest_1 rfl k_ic_0 ?_
  refine gw_X10_34 (n := 5) dX10_dearest_2 rfl rfl (z_lvP (by first | decide | assumption)) ?_
  refine g_aload_n (n := 6) dX10_dearest_5 rfl rfl ?_
  refine g_cVv (n := 9) cq dX10_dearest_6 rfl kw_X10_187 rfl (by decide) (z_lvP (by first | decide | assumption)) (Nat.le_of_ble_eq_true rfl) ⟨Nat.le_refl _, Nat.le_refl _⟩ ?_ rfl
  exact g_ireturn dX10_dearest_9 rfl rfl rfl rfl
/-- the ten counts -/
def vCt (V : Nat → Int32) (s k v : Nat) : Int32 := match v with
  | 0 => sm (fun j => zb (decide (0 < V (2 + j)))) 64 / nI 2
  | 1 => V 66
  | 2 => sm (fun e => V (69 + 5 * e)) s
  | 3 => sm (fun j => zb (decide (0 < V (107 + j)))) 16
  | 4 => V 171
  | 5 => V 172
  | 6 => V 173
  | 7 => sm (fun j => V (135 + j)) 4
  | 8 => sm (fun k => zb (decide (vFs V s k < 0))) 32
  | _ => nI k
theorem r_counted {k v : Nat} (R : RowR M 0 V) (W : WFV V) (hs : V 66 = nI s) (h8 : s ≤ 8) (hk : M 10 0 1 = nI k) (hv : v < 10) : ∃ M', rQ M M' ∧ zC w mX10_counted (d + 8) [vR 10 0, vI (nI v)] (zP M O) (zrI (vCt V s k v)) (zP M' O) := by
  have r0 : ∀ j, j < 174 → M 32 0 j = V j := fun j hj => RowR0 R hj
  match v, hv with
  | 0, _ =>
    refine ⟨M, rQ.rf, ?_⟩
    have ca := r_above (w := w) (d := d + 7) (M := M) (O := O) (f := 2) (n := 64) (by decide)
    rw [sm_cong (g := fun j => zb (decide (0 < V (2 + j)))) (fun j hj => by rw [r0 (2 + j) (by omega)])] at ca
    refine zC_of (cr := 0) (L0 := [vR 10 0, vI (nI 0)]) rfl (by decide) (by decide) rfl (Nat.le_of_ble_eq_true rfl) rfl ?_
    refine g_iload_n (n := 1) dX10_counted_0 rfl rfl ?_
    refine g_tabIn (n := 0) (t := 52) dX10_counted_1 (by decide) (by decide) rfl (by decide) ?_
    refine g_aload_n (n := 53) dX10_counted_52 rfl rfl ?_
    refine g_iconst (n := 54) dX10_counted_53 rfl k_ic_2 ?_
    refine g_bipush (n := 56) dX10_counted_54 rfl k_bp_64 ?_
    refine g_cVv (n := 59) ca dX10_counted_56 rfl kw_X10_172 rfl (by decide) (z_lvP (by first | decide | assumption)) (Nat.le_of_ble_eq_true rfl) ⟨Nat.le_refl _, Nat.le_refl _⟩ ?_ rfl
    refine g_iconst (n := 60) dX10_counted_59 rfl k_ic_2 ?_
    refine g_idiv (n := 61) dX10_counted_60 rfl (by decide) ?_
    exact g_ireturn dX10_counted_61 rfl rfl rfl rfl
  | 1, _ =>
    refine ⟨M, rQ.rf, ?_⟩
    refine zC_of (cr := 0) (L0 := [vR 10 0, vI (nI 1)]) rfl (by decide) (by decide) rfl (Nat.le_of_ble_eq_true rfl) rfl ?_
    refine g_iload_n (n := 1) dX10_counted_0 rfl rfl ?_
    refine g_tabIn (n := 0) (t := 62) dX10_counted_1 (by decide) (by decide) rfl (by decide) ?_
    refine g_aload_n (n := 63) dX10_counted_62 rfl rfl ?_
    refine gf_X10_7 (n := 66) dX10_counted_63 rfl rfl (z_lvP (by first | decide | assumption)) rfl ?_
    refine g_bipush (n := 68) dX10_counted_66 rfl k_bp_66 ?_
    refine g_iald (n := 69) dX10_counted_68 rfl (by decide) (z_lvP (by first | decide | assumption)) rfl (by show _ < 1740; first | assumption | omega) ?_
    exact g_ireturn dX10_counted_69 rfl rfl (by rw [r0 66 (by decide)]; rfl) rfl
  | 2, _ =>
    refine ⟨M, rQ.rf, ?_⟩
    have ca := r_open (w := w) (d := d + 6) (M := M) (O := O) ((r0 66 (by decide)).trans hs) h8
    rw [sm_cong (g := fun e => V (69 + 5 * e)) (fun j hj => by rw [r0 (69 + 5 * j) (by omega)])] at ca
    refine zC_of (cr := 0) (L0 := [vR 10 0, vI (nI 2)]) rfl (by decide) (by decide) rfl (Nat.le_of_ble_eq_true rfl) rfl ?_
    refine g_iload_n (n := 1) dX10_counted_0 rfl rfl ?_
    refine g_tabIn (n := 0) (t := 70) dX10_counted_1 (by decide) (by decide) rfl (by decide) ?_
    refine g_aload_n (n := 71) dX10_counted_70 rfl rfl ?_
    refine g_cVv (n := 74) ca dX10_counted_71 rfl kw_X10_175 rfl (by decide) (z_lvP (by first | decide | assumption)) (Nat.le_of_ble_eq_true rfl) ⟨Nat.le_refl _, Nat.le_refl _⟩ ?_ rfl
    exact g_ireturn dX10_counted_74 rfl rfl rfl rfl
  | 3, _ =>
    refine ⟨M, rQ.rf, ?_⟩
    have ca := r_above (w := w) (d := d + 7) (M := M) (O := O) (f := 107) (n := 16) (by decide)
    rw [sm_cong (g := fun j => zb (decide (0 < V (107 + j)))) (fun j hj => by rw [r0 (107 + j) (by omega)])] at ca
    refine zC_of (cr := 0) (L0 := [vR 10 0, vI (nI 3)]) rfl (by decide) (by decide) rfl (Nat.le_of_ble_eq_true rfl) rfl ?_
    refine g_iload_n (n := 1) dX10_counted_0 rfl rfl ?_
    refine g_tabIn (n := 0) (t := 75) dX10_counted_1 (by decide) (by decide) rfl (by decide) ?_
    refine g_aload_n (n := 76) dX10_counted_75 rfl rfl ?_
    refine g_bipush (n := 78) dX10_counted_76 rfl k_bp_107 ?_
    refine g_bipush (n := 80) dX10_counted_78 rfl k_bp_16 ?_
    refine g_cVv (n := 83) ca dX10_counted_80 rfl kw_X10_172 rfl (by decide) (z_lvP (by first | decide | assumption)) (Nat.le_of_ble_eq_true rfl) ⟨Nat.le_refl _, Nat.le_refl _⟩ ?_ rfl
    exact g_ireturn dX10_counted_83 rfl rfl rfl rfl
  | 4, _ =>
    refine ⟨M, rQ.rf, ?_⟩
    refine zC_of (cr := 0) (L0 := [vR 10 0, vI (nI 4)]) rfl (by decide) (by decide) rfl (Nat.le_of_ble_eq_true rfl) rfl ?_
    refine g_iload_n (n := 1) dX10_counted_0 rfl rfl ?_
    refine g_tabIn (n := 0) (t := 84) dX10_counted_1 (by decide) (by decide) rfl (by decide) ?_
    refine g_aload_n (n := 85) dX10_counted_84 rfl rfl ?_
    refine gf_X10_7 (n := 88) dX10_counted_85 rfl rfl (z_lvP (by first | decide | assumption)) rfl ?_
    refine g_sipush (n := 91) dX10_counted_88 rfl k_sp_171 ?_
    refine g_iload_n (n := 92) dX10_counted_91 rfl rfl ?_
    refine g_iadd (n := 93) dX10_counted_92 rfl ?_
    refine g_iconst (n := 94) dX10_counted_93 rfl k_ic_4 ?_
    refine g_isub (n := 95) dX10_counted_94 rfl ?_
    refine g_iald (a := 171) (n := 96) dX10_counted_95 rfl (by decide) (z_lvP (by first | decide | assumption)) (by decide) (by show _ < 1740; first | assumption | omega) ?_
    exact g_ireturn dX10_counted_96 rfl rfl (by rw [r0 171 (by decide)]; rfl) rfl
  | 5, _ =>
    refine ⟨M, rQ.rf, ?_⟩
    refine zC_of (cr := 0) (L0 := [vR 10 0, vI (nI 5)]) rfl (by decide) (by decide) rfl (Nat.le_of_ble_eq_true rfl) rfl ?_
    refine g_iload_n (n := 1) dX10_counted_0 rfl rfl ?_
    refine g_tabIn (n := 0) (t := 84) dX10_counted_1 (by decide) (by decide) rfl (by decide) ?_
    refine g_aload_n (n := 85) dX10_counted_84 rfl rfl ?_
    refine gf_X10_7 (n := 88) dX10_counted_85 rfl rfl (z_lvP (by first | decide | assumption)) rfl ?_
    refine g_sipush (n := 91) dX10_counted_88 rfl k_sp_171 ?_
    refine g_iload_n (n := 92) dX10_counted_91 rfl rfl ?_
    refine g_iadd (n := 93) dX10_counted_92 rfl ?_
    refine g_iconst (n := 94) dX10_counted_93 rfl k_ic_4 ?_
    refine g_isub (n := 95) dX10_counted_94 rfl ?_
    refine g_iald (a := 172) (n := 96) dX10_counted_95 rfl (by decide) (z_lvP (by first | decide | assumption)) (by decide) (by show _ < 1740; first | assumption | omega) ?_
    exact g_ireturn dX10_counted_96 rfl rfl (by rw [r0 172 (by decide)]; rfl) rfl
  | 6, _ =>
    refine ⟨M, rQ.rf, ?_⟩
    refine zC_of (cr := 0) (L0 := [vR 10 0, vI (nI 6)]) rfl (by decide) (by decide) rfl (Nat.le_of_ble_eq_true rfl) rfl ?_
    refine g_iload_n (n := 1) dX10_counted_0 rfl rfl ?_
    refine g_tabIn (n := 0) (t := 84) dX10_counted_1 (by decide) (by decide) rfl (by decide) ?_
    refine g_aload_n (n := 85) dX10_counted_84 rfl rfl ?_
    refine gf_X10_7 (n := 88) dX10_counted_85 rfl rfl (z_lvP (by first | decide | assumption)) rfl ?_
    refine g_sipush (n := 91) dX10_counted_88 rfl k_sp_171 ?_
    refine g_iload_n (n := 92) dX10_counted_91 rfl rfl ?_
    refine g_iadd (n := 93) dX10_counted_92 rfl ?_
    refine g_iconst (n := 94) dX10_counted_93 rfl k_ic_4 ?_
    refine g_isub (n := 95) dX10_counted_94 rfl ?_
    refine g_iald (a := 173) (n := 96) dX10_counted_95 rfl (by decide) (z_lvP (by first | decide | assumption)) (by decide) (by show _ < 1740; first | assumption | omega) ?_
    exact g_ireturn dX10_counted_96 rfl rfl (by rw [r0 173 (by decide)]; rfl) rfl
  | 7, _ =>
    refine ⟨M, rQ.rf, ?_⟩
    have ca := r_sum (w := w) (d := d + 7) (M := M) (O := O) (f := 135) (n := 4) (by decide)
    rw [sm_cong (g := fun j => V (135 + j)) (fun j hj => by rw [r0 (135 + j) (by omega)])] at ca
    refine zC_of (cr := 0) (L0 := [vR 10 0, vI (nI 7)]) rfl (by decide) (by decide) rfl (Nat.le_of_ble_eq_true rfl) rfl ?_
    refine g_iload_n (n := 1) dX10_counted_0 rfl rfl ?_
    refine g_tabIn (n := 0) (t := 97) dX10_counted_1 (by decide) (by decide) rfl (by decide) ?_
    refine g_aload_n (n := 98) dX10_counted_97 rfl rfl ?_
    refine g_sipush (n := 101) dX10_counted_98 rfl k_sp_135 ?_
    refine g_iconst (n := 102) dX10_counted_101 rfl k_ic_4 ?_
    refine g_cVv (n := 105) ca dX10_counted_102 rfl kw_X10_110 rfl (by decide) (z_lvP (by first | decide | assumption)) (Nat.le_of_ble_eq_true rfl) ⟨Nat.le_refl _, Nat.le_refl _⟩ ?_ rfl
    exact g_ireturn dX10_counted_105 rfl rfl rfl rfl
  | 8, _ =>
    refine ⟨mAll M V s, rQ_all, ?_⟩
    refine zC_of (cr := 0) (L0 := [vR 10 0, vI (nI 8)]) rfl (by decide) (by decide) rfl (Nat.le_of_ble_eq_true rfl) rfl ?_
    refine g_iload_n (n := 1) dX10_counted_0 rfl rfl ?_
    refine g_tabIn (n := 0) (t := 106) dX10_counted_1 (by decide) (by decide) rfl (by decide) ?_
    refine g_aload_n (n := 107) dX10_counted_106 rfl rfl ?_
    refine g_cVv (n := 110) (r_without R W hs h8) dX10_counted_107 rfl kw_X10_178 rfl (by decide) (z_lvP (by first | decide | assumption)) (Nat.le_of_ble_eq_true rfl) ⟨Nat.le_refl _, Nat.le_refl _⟩ ?_ rfl
    exact g_ireturn dX10_counted_110 rfl rfl rfl rfl
  | 9, _ =>
    refine ⟨M, rQ.rf, ?_⟩
    refine zC_of (cr := 0) (L0 := [vR 10 0, vI (nI 9)]) rfl (by decide) (by decide) rfl (Nat.le_of_ble_eq_true rfl) rfl ?_
    refine g_iload_n (n := 1) dX10_counted_0 rfl rfl ?_
    refine g_tabOut (n := 0) (t := 111) dX10_counted_1 (Or.inr (by decide)) (by decide) ?_
    refine g_aload_n (n := 112) dX10_counted_111 rfl rfl ?_
    refine gf_X10_38 (n := 115) dX10_counted_112 rfl rfl (z_lvP (by first | decide | assumption)) ?_
    exact g_ireturn dX10_counted_115 rfl rfl (by rw [hk]; rfl) rfl
theorem r_count {k v : Nat} (R : RowR M 0 V) (W : WFV V) (hs : V 66 = nI s) (h8 : s ≤ 8) (hk : M 10 0 1 = nI k) (hv : v < 10) : ∃ M', rQ (m0 M) M' ∧ zC w mX10_count (d + 9) [vR 10 0, vI (nI v)] (zP M O) (zrI (vCt V s k v)) (zP M' O) := by
  obtain ⟨M', Q, cq⟩ := r_counted (w := w) (d := d) (O := O) (m0_row R) W hs h8 ((u3_nj (by decide)).trans hk) hv
  refine ⟨M', Q, ?_⟩
  refine r_count_y rfl (by rw [z_ok_nI hv (by decide)]; rfl) ?_
  refine g_aload_n (n := 16) dX10_count_15 rfl rfl ?_
  refine g_iload_n (n := 17) dX10_count_16 rfl rfl ?_
  refine g_cVv (n := 20) cq dX10_count_17 rfl kw_X10_181 rfl (by decide) (z_lvP (by first | decide | assumption)) (Nat.le_of_ble_eq_true rfl) ⟨Nat.le_refl _, Nat.le_refl _⟩ ?_ rfl
  refine g_goto (n := 0) (t := 24) dX10_count_20 (by decide) ?_
  exact g_ireturn dX10_count_24 rfl rfl rfl rfl
theorem r_share {b c : Nat} (hb : M 32 0 171 = nI b) (hc : M 32 0 172 = nI c) (hcb : c ≤ b) (h9 : b ≤ 9999) : zC w mX10_share d [vR 10 0] (zP M O) (.inl (some (vD (kSh (b - c) b)))) (zP M O) := by
  unfold kSh
  refine zC_of (cr := 0) (L0 := [vR 10 0]) rfl (by decide) (by decide) rfl (Nat.le_of_ble_eq_true rfl) rfl ?_
  by_cases h0 : b = 0
  · rw [if_pos h0]
    refine g_aload_n (n := 1) dX10_share_0 rfl rfl ?_
    refine gf_X10_7 (n := 4) dX10_share_1 rfl rfl (z_lvP (by first | decide | assumption)) rfl ?_
    refine g_sipush (n := 7) dX10_share_4 rfl k_sp_171 ?_
    refine g_iald (n := 8) dX10_share_7 rfl (by decide) (z_lvP (by first | decide | assumption)) rfl (by show _ < 1740; first | assumption | omega) ?_
    refine g_if_ne (n := 11) (t := 15) dX10_share_8 rfl (by decide) (fun q9 => absurd (by rw [hb, h0]; rfl) q9) (fun _ => ?_)
    refine g_dconst1 (n := 12) dX10_share_11 rfl ?_
    refine g_goto (n := 0) (t := 43) dX10_share_12 (by decide) ?_
    exact g_dreturn dX10_share_43 rfl rfl rfl
  · rw [if_neg h0]
    refine g_aload_n (n := 1) dX10_share_0 rfl rfl ?_
    refine gf_X10_7 (n := 4) dX10_share_1 rfl rfl (z_lvP (by first | decide | assumption)) rfl ?_
    refine g_sipush (n := 7) dX10_share_4 rfl k_sp_171 ?_
    refine g_iald (n := 8) dX10_share_7 rfl (by decide) (z_lvP (by first | decide | assumption)) rfl (by show _ < 1740; first | assumption | omega) ?_
    refine g_if_ne (n := 11) (t := 15) dX10_share_8 rfl (by decide) (fun _ => ?_) (fun q9 => absurd q9 (by rw [hb]; exact nI_ne0 (by omega) (by omega)))
    refine g_aload_n (n := 16) dX10_share_15 rfl rfl ?_
    refine gf_X10_7 (n := 19) dX10_share_16 rfl rfl (z_lvP (by first | decide | assumption)) rfl ?_
    refine g_sipush (n := 22) dX10_share_19 rfl k_sp_171 ?_
    refine g_iald (n := 23) dX10_share_22 rfl (by decide) (z_lvP (by first | decide | assumption)) rfl (by show _ < 1740; first | assumption | omega) ?_
    rw [hb]
    refine g_aload_n (n := 24) dX10_share_23 rfl rfl ?_
    refine gf_X10_7 (n := 27) dX10_share_24 rfl rfl (z_lvP (by first | decide | assumption)) rfl ?_
    refine g_sipush (n := 30) dX10_share_27 rfl k_sp_172 ?_
    refine g_iald (n := 31) dX10_share_30 rfl (by decide) (z_lvP (by first | decide | assumption)) rfl (by show _ < 1740; first | assumption | omega) ?_
    rw [hc]
    refine g_isub (n := 32) dX10_share_31 rfl ?_
    rw [pk_sub hcb]
    refine g_i2d (n := 33) dX10_share_32 rfl ?_
    refine g_aload_n (n := 34) dX10_share_33 rfl rfl ?_
    refine gf_X10_7 (n := 37) dX10_share_34 rfl rfl (z_lvP (by first | decide | assumption)) rfl ?_
    refine g_sipush (n := 40) dX10_share_37 rfl k_sp_171 ?_
    refine g_iald (n := 41) dX10_share_40 rfl (by decide) (z_lvP (by first | decide | assumption)) rfl (by show _ < 1740; first | assumption | omega) ?_
    rw [hb]
    refine g_i2d (n := 42) dX10_share_41 rfl ?_
    refine g_ddiv (n := 43) dX10_share_42 rfl (kSh_vf (by omega) h9 (by omega)) ?_
    exact g_dreturn dX10_share_43 rfl rfl rfl
theorem r_hotShare {b c : Nat} (hb : M 32 0 171 = nI b) (hc : M 32 0 172 = nI c) (hcb : c ≤ b) (h9 : b ≤ 9999) : zC w mX10_hotShare (d + 9) [vR 10 0] (zP M O) (.inl (some (vD (kSh (b - c) b)))) (zP (m0 M) O) := by
  have cs := r_share (w := w) (d := d + 8) (M := m0 M) (O := O) hb hc hcb h9
  refine zC_of (cr := 0) (L0 := [vR 10 0]) rfl (by decide) (by decide) rfl (Nat.le_of_ble_eq_true rfl) rfl ?_
  refine g_aload_n (n := 1) dX10_hotShare_0 rfl rfl ?_
  refine g_iconst (n := 2) dX10_hotShare_1 rfl k_ic_0 ?_
  refine gw_X10_34 (n := 5) dX10_hotShare_2 rfl rfl (z_lvP (by first | decide | assumption)) ?_
  refine g_aload_n (n := 6) dX10_hotShare_5 rfl rfl ?_
  refine g_cVv (n := 9) cs dX10_hotShare_6 rfl kw_X10_193 rfl (by decide) (z_lvP (by first | decide | assumption)) (Nat.le_of_ble_eq_true rfl) ⟨Nat.le_refl _, Nat.le_refl _⟩ ?_ rfl
  exact g_dreturn dX10_hotShare_9 rfl rfl rfl
/-! snapshots, undo -/
theorem r_keep {p : Nat} (hp : p < 2) : zC w mX10_keep (d + 9) [vR 10 0, vI (nI p)] (zP M O) (zrI (M 32 0 171)) (zP (u3 (u2 (m0 M) 32 0 (rCp (M 32 0) 0 (7 + p))) 33 0 p (nI 1)) O) := by
  refine r_keep_y rfl (by rw [z_ok_nI hp (by decide)]; rfl) ?_
  have cp := r_copiesM (w := w) (d := d + 8) (M := m0 M) (O := O) (f := 0) (t := 7 + p) (by decide) (by omega) (by omega)
  rw [show m0 M 32 0 = M 32 0 from rfl] at cp
  refine g_aload_n (n := 17) dX10_keep_16 rfl rfl ?_
  refine g_iconst (n := 18) dX10_keep_17 rfl k_ic_0 ?_
  refine g_bipush (n := 20) dX10_keep_18 rfl k_bp_7 ?_
  refine g_iload_n (n := 21) dX10_keep_20 rfl rfl ?_
  refine g_iadd (n := 22) dX10_keep_21 rfl ?_
  rw [nI_add]
  refine g_cVn (n := 25) cp dX10_keep_22 rfl kw_X10_41 rfl (by decide) (z_lvP (by first | decide | assumption)) (Nat.le_of_ble_eq_true rfl) ⟨Nat.le_refl _, Nat.le_refl _⟩ ?_ rfl
  refine g_aload_n (n := 26) dX10_keep_25 rfl rfl ?_
  refine gf_X10_13 (n := 29) dX10_keep_26 rfl rfl (z_lvP (by first | decide | assumption)) rfl ?_
  refine g_iload_n (n := 30) dX10_keep_29 rfl rfl ?_
  refine g_iconst (n := 31) dX10_keep_30 rfl k_ic_1 ?_
  refine g_zast (n := 32) dX10_keep_31 rfl (by decide) (z_lvP (by first | decide | assumption)) rfl (by show _ < 2; first | assumption | omega) rfl ?_
  refine g_aload_n (n := 33) dX10_keep_32 rfl rfl ?_
  refine gf_X10_7 (n := 36) dX10_keep_33 rfl rfl (z_lvP (by first | decide | assumption)) rfl ?_
  refine g_sipush (n := 39) dX10_keep_36 rfl k_sp_171 ?_
  refine g_iald (n := 40) dX10_keep_39 rfl (by decide) (z_lvP (by first | decide | assumption)) rfl (by show _ < 1740; first | assumption | omega) ?_
  rw [show u3 (u2 (m0 M) 32 0 (rCp (M 32 0) 0 (7 + p))) 33 0 p (nI 1) 32 0 171 = M 32 0 171 from rCp_lo (by omega)]
  exact g_ireturn dX10_keep_40 rfl rfl rfl rfl
theorem r_goBack1 {x : Int32} (h : z_ok x 2 = false) : zC w mX10_goBack (d + 9) [vR 10 0, vI x] (zP M O) (zrI (nI 0)) (zP (u3 M 10 0 3 (nI 1)) O) := by
  have ci := r_inZ (w := w) (d := d + 8) (σ := zP M O) (n := 1) (by decide) x
  rw [h] at ci
  have cg := r_goes (w := w) (d := d + 8) (M := M) (O := O) false false
  refine zC_of (cr := 0) (L0 := [vR 10 0, vI x]) rfl (by decide) (by decide) rfl (Nat.le_of_ble_eq_true rfl) rfl ?_
  refine g_aload_n (n := 1) dX10_goBack_0 rfl rfl ?_
  refine g_iload_n (n := 2) dX10_goBack_1 rfl rfl ?_
  refine g_iconst (n := 3) dX10_goBack_2 rfl k_ic_0 ?_
  refine g_iconst (n := 4) dX10_goBack_3 rfl k_ic_1 ?_
  refine g_cSv (n := 7) ci dX10_goBack_4 rfl kw_X10_45 (Nat.le_of_ble_eq_true rfl) ⟨Nat.le_refl _, Nat.le_refl _⟩ ?_ rfl
  refine g_iload_n (n := 8) dX10_goBack_7 rfl rfl ?_
  refine g_iconst (n := 9) dX10_goBack_8 rfl k_ic_0 ?_
  refine g_iconst (n := 10) dX10_goBack_9 rfl k_ic_1 ?_
  refine g_cSv (n := 13) ci dX10_goBack_10 rfl kw_X10_45 (Nat.le_of_ble_eq_true rfl) ⟨Nat.le_refl _, Nat.le_refl _⟩ ?_ rfl
  refine g_if_eq (n := 16) (t := 29) dX10_goBack_13 rfl (by decide) (fun _ => ?_) (fun q9 => absurd rfl q9)
  refine g_iconst (n := 30) dX10_goBack_29 rfl k_ic_0 ?_
  refine g_cVv (n := 33) cg dX10_goBack_30 rfl kw_X10_87 rfl (by decide) (z_lvP (by first | decide | assumption)) (Nat.le_of_ble_eq_true rfl) ⟨Nat.le_refl _, Nat.le_refl _⟩ ?_ rfl
  refine g_if_ne (n := 36) (t := 38) dX10_goBack_33 rfl (by decide) (fun q9 => absurd rfl q9) (fun _ => ?_)
  refine g_iconst (n := 37) dX10_goBack_36 rfl k_ic_0 ?_
  exact g_ireturn dX10_goBack_37 rfl rfl rfl rfl
theorem r_goBack2 {p : Nat} (hp : p < 2) (h0 : M 33 0 p = 0) : zC w mX10_goBack (d + 9) [vR 10 0, vI (nI p)] (zP M O) (zrI (nI 0)) (zP (u3 M 10 0 3 (nI 2)) O) := by
  have ci := r_inZ (w := w) (d := d + 8) (σ := zP M O) (n := 1) (by decide) (nI p)
  rw [z_ok_nI hp (by decide)] at ci
  have cg := r_goes (w := w) (d := d + 8) (M := M) (O := O) true false
  refine zC_of (cr := 0) (L0 := [vR 10 0, vI (nI p)]) rfl (by decide) (by decide) rfl (Nat.le_of_ble_eq_true rfl) rfl ?_
  refine g_aload_n (n := 1) dX10_goBack_0 rfl rfl ?_
  refine g_iload_n (n := 2) dX10_goBack_1 rfl rfl ?_
  refine g_iconst (n := 3) dX10_goBack_2 rfl k_ic_0 ?_
  refine g_iconst (n := 4) dX10_goBack_3 rfl k_ic_1 ?_
  refine g_cSv (n := 7) ci dX10_goBack_4 rfl kw_X10_45 (Nat.le_of_ble_eq_true rfl) ⟨Nat.le_refl _, Nat.le_refl _⟩ ?_ rfl
  refine g_iload_n (n := 8) dX10_goBack_7 rfl rfl ?_
  refine g_iconst (n := 9) dX10_goBack_8 rfl k_ic_0 ?_
  refine g_iconst (n := 10) dX10_goBack_9 rfl k_ic_1 ?_
  refine g_cSv (n := 13) ci dX10_goBack_10 rfl kw_X10_45 (Nat.le_of_ble_eq_true rfl) ⟨Nat.le_refl _, Nat.le_refl _⟩ ?_ rfl
  refine g_if_eq (n := 16) (t := 29) dX10_goBack_13 rfl (by decide) (fun q9 => absurd q9 (by decide)) (fun _ => ?_)
  refine g_aload_n (n := 17) dX10_goBack_16 rfl rfl ?_
  refine gf_X10_13 (n := 20) dX10_goBack_17 rfl rfl (z_lvP (by first | decide | assumption)) rfl ?_
  refine g_iload_n (n := 21) dX10_goBack_20 rfl rfl ?_
  refine g_zald (n := 22) dX10_goBack_21 rfl (by decide) (z_lvP (by first | decide | assumption)) rfl (by show _ < 2; first | assumption | omega) ?_
  refine g_if_eq (n := 25) (t := 29) dX10_goBack_22 rfl (by decide) (fun _ => ?_) (fun q9 => absurd h0 q9)
  refine g_iconst (n := 30) dX10_goBack_29 rfl k_ic_0 ?_
  refine g_cVv (n := 33) cg dX10_goBack_30 rfl kw_X10_87 rfl (by decide) (z_lvP (by first | decide | assumption)) (Nat.le_of_ble_eq_true rfl) ⟨Nat.le_refl _, Nat.le_refl _⟩ ?_ rfl
  refine g_if_ne (n := 36) (t := 38) dX10_goBack_33 rfl (by decide) (fun q9 => absurd rfl q9) (fun _ => ?_)
  refine g_iconst (n := 37) dX10_goBack_36 rfl k_ic_0 ?_
  exact g_ireturn dX10_goBack_37 rfl rfl rfl rfl
theorem r_goBack {p : Nat} (hh : M 10 0 1 = nI h) (h6 : h ≤ 6) (hp : p < 2) (h0 : ¬ M 33 0 p = 0) : zC w mX10_goBack (d + 9) [vR 10 0, vI (nI p)] (zP M O) (zrI (M 32 0 (174 * (7 + p) + 171))) (zP (u2 (mSv M h) 32 0 (rCp (rSave (M 32 0) h) (7 + p) 0)) O) := by
  have ci := r_inZ (w := w) (d := d + 8) (σ := zP M O) (n := 1) (by decide) (nI p)
  rw [z_ok_nI hp (by decide)] at ci
  have cg := r_goes (w := w) (d := d + 8) (M := M) (O := O) true true
  have cp := r_copies (w := w) (d := d + 8) (M := mSv M h) (O := O) (S := rSave (M 32 0) h) (f := 7 + p) (t := 0) (by omega) (by decide) (by omega)
  have ea : rCp (rSave (M 32 0) h) (7 + p) 0 171 = M 32 0 (174 * (7 + p) + 171) := by
    have := rCp_in (S := rSave (M 32 0) h) (f := 7 + p) (t := 0) (j := 171) (by decide)
    rw [show 174 * 0 + 171 = 171 from rfl] at this
    rw [this, rSave_hi (by omega)]
  refine zC_of (cr := 0) (L0 := [vR 10 0, vI (nI p)]) rfl (by decide) (by decide) rfl (Nat.le_of_ble_eq_true rfl) rfl ?_
  refine g_aload_n (n := 1) dX10_goBack_0 rfl rfl ?_
  refine g_iload_n (n := 2) dX10_goBack_1 rfl rfl ?_
  refine g_iconst (n := 3) dX10_goBack_2 rfl k_ic_0 ?_
  refine g_iconst (n := 4) dX10_goBack_3 rfl k_ic_1 ?_
  refine g_cSv (n := 7) ci dX10_goBack_4 rfl kw_X10_45 (Nat.le_of_ble_eq_true rfl) ⟨Nat.le_refl _, Nat.le_refl _⟩ ?_ rfl
  refine g_iload_n (n := 8) dX10_goBack_7 rfl rfl ?_
  refine g_iconst (n := 9) dX10_goBack_8 rfl k_ic_0 ?_
  refine g_iconst (n := 10) dX10_goBack_9 rfl k_ic_1 ?_
  refine g_cSv (n := 13) ci dX10_goBack_10 rfl kw_X10_45 (Nat.le_of_ble_eq_true rfl) ⟨Nat.le_refl _, Nat.le_refl _⟩ ?_ rfl
  refine g_if_eq (n := 16) (t := 29) dX10_goBack_13 rfl (by decide) (fun q9 => absurd q9 (by decide)) (fun _ => ?_)
  refine g_aload_n (n := 17) dX10_goBack_16 rfl rfl ?_
  refine gf_X10_13 (n := 20) dX10_goBack_17 rfl rfl (z_lvP (by first | decide | assumption)) rfl ?_
  refine g_iload_n (n := 21) dX10_goBack_20 rfl rfl ?_
  refine g_zald (n := 22) dX10_goBack_21 rfl (by decide) (z_lvP (by first | decide | assumption)) rfl (by show _ < 2; first | assumption | omega) ?_
  refine g_if_eq (n := 25) (t := 29) dX10_goBack_22 rfl (by decide) (fun q9 => absurd q9 h0) (fun _ => ?_)
  refine g_iconst (n := 26) dX10_goBack_25 rfl k_ic_1 ?_
  refine g_goto (n := 0) (t := 30) dX10_goBack_26 (by decide) ?_
  refine g_cVv (n := 33) cg dX10_goBack_30 rfl kw_X10_87 rfl (by decide) (z_lvP (by first | decide | assumption)) (Nat.le_of_ble_eq_true rfl) ⟨Nat.le_refl _, Nat.le_refl _⟩ ?_ rfl
  refine g_if_ne (n := 36) (t := 38) dX10_goBack_33 rfl (by decide) (fun _ => ?_) (fun q9 => absurd q9 (by decide))
  refine g_aload_n (n := 39) dX10_goBack_38 rfl rfl ?_
  refine g_cVn (n := 42) (r_savesM hh h6) dX10_goBack_39 rfl kw_X10_91 rfl (by decide) (z_lvP (by first | decide | assumption)) (Nat.le_of_ble_eq_true rfl) ⟨Nat.le_refl _, Nat.le_refl _⟩ ?_ rfl
  refine g_aload_n (n := 43) dX10_goBack_42 rfl rfl ?_
  refine g_bipush (n := 45) dX10_goBack_43 rfl k_bp_7 ?_
  refine g_iload_n (n := 46) dX10_goBack_45 rfl rfl ?_
  refine g_iadd (n := 47) dX10_goBack_46 rfl ?_
  rw [nI_add]
  refine g_iconst (n := 48) dX10_goBack_47 rfl k_ic_0 ?_
  refine g_cVn (n := 51) cp dX10_goBack_48 rfl kw_X10_41 rfl (by decide) (z_lvP (by first | decide | assumption)) (Nat.le_of_ble_eq_true rfl) ⟨Nat.le_refl _, Nat.le_refl _⟩ ?_ rfl
  refine g_aload_n (n := 52) dX10_goBack_51 rfl rfl ?_
  refine gf_X10_7 (n := 55) dX10_goBack_52 rfl rfl (z_lvP (by first | decide | assumption)) rfl ?_
  refine g_sipush (n := 58) dX10_goBack_55 rfl k_sp_171 ?_
  refine g_iald (n := 59) dX10_goBack_58 rfl (by decide) (z_lvP (by first | decide | assumption)) rfl (by show _ < 1740; first | assumption | omega) ?_
  rw [show u2 (mSv M h) 32 0 (rCp (rSave (M 32 0) h) (7 + p) 0) 32 0 171 = M 32 0 (174 * (7 + p) + 171) from ea]
  exact g_ireturn dX10_goBack_59 rfl rfl rfl rfl
theorem r_undo (hh : M 10 0 1 = nI (h + 1)) (h6 : h < 6) : zC w mX10_undo (d + 9) [vR 10 0] (zP M O) (zrI (nI h)) (zP (u2 (u3 (m0 M) 10 0 1 (nI h)) 32 0 (rCp (M 32 0) (h + 1) 0)) O) := by
  refine r_undo_y rfl (by rw [hh, decide_eq_true (show (0 : Int32) < nI (h + 1) from nI_lt (a := 0) (by omega) (by omega))]; rfl) ?_
  have cp := r_copiesM (w := w) (d := d + 8) (M := m0 M) (O := O) (f := h + 1) (t := 0) (by omega) (by decide) (by omega)
  rw [show m0 M 32 0 = M 32 0 from rfl] at cp
  refine g_aload_n (n := 23) dX10_undo_22 rfl rfl ?_
  refine g_aload_n (n := 24) dX10_undo_23 rfl rfl ?_
  refine gf_X10_38 (n := 27) dX10_undo_24 rfl rfl (z_lvP (by first | decide | assumption)) ?_
  rw [show u3 M 10 0 3 (nI 0) 10 0 1 = nI (h + 1) from (u3_nj (by decide)).trans hh]
  refine g_iconst (n := 28) dX10_undo_27 rfl k_ic_0 ?_
  refine g_cVn (n := 31) cp dX10_undo_28 rfl kw_X10_41 rfl (by decide) (z_lvP (by first | decide | assumption)) (Nat.le_of_ble_eq_true rfl) ⟨Nat.le_refl _, Nat.le_refl _⟩ ?_ rfl
  refine g_aload_n (n := 32) dX10_undo_31 rfl rfl ?_
  refine g_dup (n := 33) dX10_undo_32 rfl rfl ?_
  refine gf_X10_38 (n := 36) dX10_undo_33 rfl rfl (z_lvP (by first | decide | assumption)) ?_
  rw [show u2 (m0 M) 32 0 (rCp (M 32 0) (h + 1) 0) 10 0 1 = nI (h + 1) from hh]
  refine g_iconst (n := 37) dX10_undo_36 rfl k_ic_1 ?_
  refine g_isub (n := 38) dX10_undo_37 rfl ?_
  rw [show nI (h + 1) - nI 1 = nI h from (pk_sub (by omega)).trans rfl]
  refine gw_X10_38 (n := 41) dX10_undo_38 rfl rfl (z_lvP (by first | decide | assumption)) ?_
  rw [u3_com (by decide)]
  refine g_aload_n (n := 42) dX10_undo_41 rfl rfl ?_
  refine gf_X10_38 (n := 45) dX10_undo_42 rfl rfl (z_lvP (by first | decide | assumption)) ?_
  rw [show u2 (u3 (m0 M) 10 0 1 (nI h)) 32 0 (rCp (M 32 0) (h + 1) 0) 10 0 1 = nI h from rfl]
  exact g_ireturn dX10_undo_45 rfl rfl rfl rfl
theorem r_append {c : Nat} (hn : M 10 0 5 = nI n) (h60 : n < 60) (h1 : 33 ≤ c) (h2 : c ≤ 126) : zC w mX10_append (d + 9) [vR 10 0, vI (nI c)] (zP M O) (zrI (nI (n + 1))) (zP (u3 (u3 (m0 M) 34 0 n (nI c)) 10 0 5 (nI (n + 1))) O) := by
  have ht : tIn (nI c) (nI 33) (nI 126) = true := by
    unfold tIn
    rw [decide_eq_true (nI_le h1 (by omega)), decide_eq_true (nI_le h2 (by omega))]
    rfl
  refine r_append_y rfl (by rw [ht, hn, decide_eq_true (nI_lt (b := 60) h60 (by decide))]; rfl) ?_
  refine g_aload_n (n := 32) dX10_append_31 rfl rfl ?_
  refine gf_X10_17 (n := 35) dX10_append_32 rfl rfl (z_lvP (by first | decide | assumption)) rfl ?_
  refine g_aload_n (n := 36) dX10_append_35 rfl rfl ?_
  refine gf_X10_113 (n := 39) dX10_append_36 rfl rfl (z_lvP (by first | decide | assumption)) ?_
  rw [show u3 M 10 0 3 (nI 0) 10 0 5 = nI n from (u3_nj (by decide)).trans hn]
  refine g_iload_n (n := 40) dX10_append_39 rfl rfl ?_
  refine g_i2c (n := 41) dX10_append_40 rfl ?_
  rw [i2c_nI c (by omega)]
  refine g_cast (a := n) (n := 42) dX10_append_41 rfl (by decide) (z_lvP (by first | decide | assumption)) rfl (show n < 60 from h60) (nar_nI c (by omega)) ?_
  refine g_aload_n (n := 43) dX10_append_42 rfl rfl ?_
  refine g_dup (n := 44) dX10_append_43 rfl rfl ?_
  refine gf_X10_113 (n := 47) dX10_append_44 rfl rfl (z_lvP (by first | decide | assumption)) ?_
  rw [show u3 (u3 M 10 0 3 (nI 0)) 34 0 n (nI c) 10 0 5 = nI n from (u3_nk (by decide)).trans ((u3_nj (by decide)).trans hn)]
  refine g_iconst (n := 48) dX10_append_47 rfl k_ic_1 ?_
  refine g_iadd (n := 49) dX10_append_48 rfl ?_
  rw [nI_add]
  refine gw_X10_113 (n := 52) dX10_append_49 rfl rfl (z_lvP (by first | decide | assumption)) ?_
  refine g_aload_n (n := 53) dX10_append_52 rfl rfl ?_
  refine gf_X10_113 (n := 56) dX10_append_53 rfl rfl (z_lvP (by first | decide | assumption)) ?_
  rw [show u3 (u3 (m0 M) 34 0 n (nI c)) 10 0 5 (nI (n + 1)) 10 0 5 = nI (n + 1) from u3_self]
  exact g_ireturn dX10_append_56 rfl rfl rfl rfl
theorem r_clear : zC w mX10_clearBuffer (d + 9) [vR 10 0] (zP M O) (zrI (M 10 0 5)) (zP (u3 (m0 M) 10 0 5 (nI 0)) O) := by
  refine zC_of (cr := 0) (L0 := [vR 10 0, vU]) rfl (by decide) (by decide) rfl (Nat.le_of_ble_eq_true rfl) rfl ?_
  refine g_aload_n (n := 1) dX10_clearBuffer_0 rfl rfl ?_
  refine g_iconst (n := 2) dX10_clearBuffer_1 rfl k_ic_0 ?_
  refine gw_X10_34 (n := 5) dX10_clearBuffer_2 rfl rfl (z_lvP (by first | decide | assumption)) ?_
  refine g_aload_n (n := 6) dX10_clearBuffer_5 rfl rfl ?_
  refine gf_X10_113 (n := 9) dX10_clearBuffer_6 rfl rfl (z_lvP (by first | decide | assumption)) ?_
  rw [show u3 M 10 0 3 (nI 0) 10 0 5 = M 10 0 5 from u3_nj (by decide)]
  refine g_istore1 (n := 10) dX10_clearBuffer_9 rfl (by decide) rfl ?_
  refine g_aload_n (n := 11) dX10_clearBuffer_10 rfl rfl ?_
  refine g_iconst (n := 12) dX10_clearBuffer_11 rfl k_ic_0 ?_
  refine gw_X10_113 (n := 15) dX10_clearBuffer_12 rfl rfl (z_lvP (by first | decide | assumption)) ?_
  refine g_iload_n (n := 16) dX10_clearBuffer_15 rfl rfl ?_
  exact g_ireturn dX10_clearBuffer_16 rfl rfl rfl rfl
end L19

