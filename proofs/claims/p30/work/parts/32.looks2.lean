/-! The rest of the looks; a loaf sent. -/
theorem mCp1_same {M : Nat → Nat → Nat → Int32} : zSame M (mCpL M 1 0) := by
  intro k i a b c e f g
  rcases g with g | g
  · exact mCpL_ne g
  · unfold mCpL mCpN mCpE mCpR
    rw [u3_kf (by omega), u3_kf (by omega), u3_kf (by omega)]
    simp only
    repeat rw [u2_ne (by omega)]
    rw [u3_kf (by omega)]
    repeat rw [u2_ne (by omega)]
theorem mCpR1_same {M : Nat → Nat → Nat → Int32} : zSame M (mCpR M 1 0) := by
  intro k i a b c e f g
  unfold mCpR
  rw [u2_ne (by omega), u2_ne (by omega)]
theorem mLay1_same {M : Nat → Nat → Nat → Int32} {a b : Nat} {x : Int32} : zSame M (mLay M 1 a b x) := by
  intro k i a b c e f g
  unfold mLay
  rw [u2_ne (by omega), u2_ne (by omega)]
theorem mN_same {M : Nat → Nat → Nat → Int32} {R Z : Nat → Int32} : zSame M (mN M R Z) := by
  intro k i a b c e f g
  unfold mN
  rw [u2_ne (by omega), u2_ne (by omega)]
section LR
variable {w : zWp} {d s o h n : Nat} {M : Nat → Nat → Nat → Int32} {O : Nat → Int64}
theorem t_ifRoad1 {x y z : Int32} (h : (z_ok x 8 && z_ok y 8) = false) : zC w mX9_ifRoad (d + 9) [vR 9 0, vI x, vI y, vI z] (zP M O) (zrX xIOOB) (zP M O) := by
  refine zC_of (cr := 1) (L0 := [vR 9 0, vI x, vI y, vI z]) rfl (by decide) (by decide) rfl (Nat.le_of_ble_eq_true rfl) rfl ?_
  refine g_iload_n (n := 1) dX9_ifRoad_0 rfl rfl ?_
  refine g_iload_n (n := 2) dX9_ifRoad_1 rfl rfl ?_
  exact g_cST (σ1 := (0, fun _ _ _ => false, fun _ _ _ => 0, fun _ => 0)) (t_needTwoTowns1 h) dX9_ifRoad_2 kw_X9_56 (Nat.le_of_ble_eq_true rfl) (Nat.le_refl _) rfl rfl rfl rfl
theorem t_ifRoad2 {a : Nat} {z : Int32} (ha : a < 8) : zC w mX9_ifRoad (d + 9) [vR 9 0, vI (nI a), vI (nI a), vI z] (zP M O) (zrX xIA) (zP M O) := by
  refine zC_of (cr := 1) (L0 := [vR 9 0, vI (nI a), vI (nI a), vI z]) rfl (by decide) (by decide) rfl (Nat.le_of_ble_eq_true rfl) rfl ?_
  refine g_iload_n (n := 1) dX9_ifRoad_0 rfl rfl ?_
  refine g_iload_n (n := 2) dX9_ifRoad_1 rfl rfl ?_
  exact g_cST (σ1 := (0, fun _ _ _ => false, fun _ _ _ => 0, fun _ => 0)) (t_needTwoTowns2 ha) dX9_ifRoad_2 kw_X9_56 (Nat.le_of_ble_eq_true rfl) (Nat.le_refl _) rfl rfl rfl rfl
theorem t_ifRoad3 {a b : Nat} {z : Int32} (ha : a < 8) (hb : b < 8) (hab : a ≠ b) (hz : z_ok z 100 = false) : zC w mX9_ifRoad (d + 9) [vR 9 0, vI (nI a), vI (nI b), vI z] (zP M O) (zrX xIA) (zP M O) := by
  refine zC_of (cr := 1) (L0 := [vR 9 0, vI (nI a), vI (nI b), vI z]) rfl (by decide) (by decide) rfl (Nat.le_of_ble_eq_true rfl) rfl ?_
  refine g_iload_n (n := 1) dX9_ifRoad_0 rfl rfl ?_
  refine g_iload_n (n := 2) dX9_ifRoad_1 rfl rfl ?_
  refine g_cSn (n := 5) (c_needTwoTowns ha hb hab) dX9_ifRoad_2 rfl kw_X9_56 (Nat.le_of_ble_eq_true rfl) ⟨Nat.le_refl _, Nat.le_refl _⟩ ?_ rfl
  refine g_iload_n (n := 6) dX9_ifRoad_5 rfl rfl ?_
  exact g_cST (σ1 := (0, fun _ _ _ => false, fun _ _ _ => 0, fun _ => 0)) (t_needCost z hz) dX9_ifRoad_6 kw_X9_60 (Nat.le_of_ble_eq_true rfl) (Nat.le_refl _) rfl rfl rfl rfl
def mTry (M : Nat → Nat → Nat → Int32) (a b : Nat) (x : Int32) : Nat → Nat → Nat → Int32 := mLay (mCpL M 1 0) 1 a b x
theorem c_ifRoad (hs : M 1 0 5 = nI s) (h8 : s ≤ 8) {a b c : Nat} (ha : a < 8) (hb : b < 8) (hab : a ≠ b) (hc : c ≤ 99) (hnn : ∀ j, j < 64 → 0 ≤ M 27 0 j) :
    ∃ M2, zSame M M2 ∧ zC w mX9_ifRoad (d + 9) [vR 9 0, vI (nI a), vI (nI b), vI (nI c)] (zP M O) (zrI (kOt (mTry M a b (nI c)) s)) (zP M2 O) := by
  have hn1 : ∀ j, j < 64 → 0 ≤ mCpL M 1 0 27 1 j := by
    intro j hj
    rw [show mCpL M 1 0 27 1 j = xcp 64 (M 27 0) (M 27 1) j from rfl]
    unfold xcp
    rw [if_pos hj]
    exact hnn j hj
  obtain ⟨M2, S2, cp⟩ := c_pairs1 (w := w) (d := d + 4) (s := s) (O := O) (M := mTry M a b (nI c)) zSamL.rf (show M 1 0 5 = nI s from hs) (show M 1 0 5 = nI s from hs) h8
  refine ⟨M2, (mCp1_same.tr mLay1_same).tr S2.same, ?_⟩
  refine zC_of (cr := 0) (L0 := [vR 9 0, vI (nI a), vI (nI b), vI (nI c)]) rfl (by decide) (by decide) rfl (Nat.le_of_ble_eq_true rfl) rfl ?_
  refine g_iload_n (n := 1) dX9_ifRoad_0 rfl rfl ?_
  refine g_iload_n (n := 2) dX9_ifRoad_1 rfl rfl ?_
  refine g_cSn (n := 5) (c_needTwoTowns ha hb hab) dX9_ifRoad_2 rfl kw_X9_56 (Nat.le_of_ble_eq_true rfl) ⟨Nat.le_refl _, Nat.le_refl _⟩ ?_ rfl
  refine g_iload_n (n := 6) dX9_ifRoad_5 rfl rfl ?_
  refine g_cSn (n := 9) (c_needCost (nI c) (z_ok_nI (n := 100) (by omega) (by decide))) dX9_ifRoad_6 rfl kw_X9_60 (Nat.le_of_ble_eq_true rfl) ⟨Nat.le_refl _, Nat.le_refl _⟩ ?_ rfl
  refine g_aload_n (n := 10) dX9_ifRoad_9 rfl rfl ?_
  refine gf_X9_16 (n := 13) dX9_ifRoad_10 rfl rfl (z_lvP (by first | decide | assumption)) rfl ?_
  refine g_aload_n (n := 14) dX9_ifRoad_13 rfl rfl ?_
  refine gf_X9_10 (n := 17) dX9_ifRoad_14 rfl rfl (z_lvP (by first | decide | assumption)) rfl ?_
  refine g_cVn (n := 20) (c_lcopy (i := 1) (j := 0) (by decide) (by decide)) dX9_ifRoad_17 rfl kw_X9_288 rfl (by decide) (z_lvP (by first | decide | assumption)) (Nat.le_of_ble_eq_true rfl) ⟨Nat.le_refl _, Nat.le_refl _⟩ ?_ rfl
  refine g_aload_n (n := 21) dX9_ifRoad_20 rfl rfl ?_
  refine gf_X9_16 (n := 24) dX9_ifRoad_21 rfl rfl (z_lvP (by first | decide | assumption)) rfl ?_
  refine gf_X9_67 (n := 27) dX9_ifRoad_24 rfl rfl (z_lvP (by first | decide | assumption)) rfl ?_
  refine g_iload_n (n := 28) dX9_ifRoad_27 rfl rfl ?_
  refine g_iload_n (n := 29) dX9_ifRoad_28 rfl rfl ?_
  refine g_iload_n (n := 30) dX9_ifRoad_29 rfl rfl ?_
  refine g_cVv (n := 33) (c_rlay (i := 1) (by decide) ha hb (nI c) (nI_pos' (by omega)) hn1) dX9_ifRoad_30 rfl kw_X9_71 rfl (by decide) (z_lvP (by first | decide | assumption)) (Nat.le_of_ble_eq_true rfl) ⟨Nat.le_refl _, Nat.le_refl _⟩ ?_ rfl
  refine g_pop (n := 34) dX9_ifRoad_33 rfl rfl ?_
  refine g_aload_n (n := 35) dX9_ifRoad_34 rfl rfl ?_
  refine g_cVv (n := 38) cp dX9_ifRoad_35 rfl kw_X9_291 rfl (by decide) (z_lvP (by first | decide | assumption)) (Nat.le_of_ble_eq_true rfl) ⟨Nat.le_refl _, Nat.le_refl _⟩ ?_ rfl
  exact g_ireturn dX9_ifRoad_38 rfl rfl rfl rfl
theorem t_idle1 {x y : Int32} (h : (z_ok x 8 && z_ok y 8) = false) : zC w mX9_idle (d + 9) [vR 9 0, vI x, vI y] (zP M O) (zrX xIOOB) (zP M O) := by
  refine zC_of (cr := 1) (L0 := [vR 9 0, vI x, vI y, vU]) rfl (by decide) (by decide) rfl (Nat.le_of_ble_eq_true rfl) rfl ?_
  refine g_iload_n (n := 1) dX9_idle_0 rfl rfl ?_
  refine g_iload_n (n := 2) dX9_idle_1 rfl rfl ?_
  exact g_cST (σ1 := (0, fun _ _ _ => false, fun _ _ _ => 0, fun _ => 0)) (t_needTwoTowns1 h) dX9_idle_2 kw_X9_56 (Nat.le_of_ble_eq_true rfl) (Nat.le_refl _) rfl rfl rfl rfl
theorem t_idle2 {a : Nat} (ha : a < 8) : zC w mX9_idle (d + 9) [vR 9 0, vI (nI a), vI (nI a)] (zP M O) (zrX xIA) (zP M O) := by
  refine zC_of (cr := 1) (L0 := [vR 9 0, vI (nI a), vI (nI a), vU]) rfl (by decide) (by decide) rfl (Nat.le_of_ble_eq_true rfl) rfl ?_
  refine g_iload_n (n := 1) dX9_idle_0 rfl rfl ?_
  refine g_iload_n (n := 2) dX9_idle_1 rfl rfl ?_
  exact g_cST (σ1 := (0, fun _ _ _ => false, fun _ _ _ => 0, fun _ => 0)) (t_needTwoTowns2 ha) dX9_idle_2 kw_X9_56 (Nat.le_of_ble_eq_true rfl) (Nat.le_refl _) rfl rfl rfl rfl
def kId (v : Int32) : Int32 := if xfar v = -1 then -1 else if xfar v < nI 99 then xfar v + nI 1 else -1
theorem c_idle {a b : Nat} (ha : a < 8) (hb : b < 8) (hab : a ≠ b) (hnn : ∀ j, j < 64 → 0 ≤ M 27 0 j) :
    ∃ M2, zSame M M2 ∧ zC w mX9_idle (d + 9) [vR 9 0, vI (nI a), vI (nI b)] (zP M O) (zrI (kId (mLay (mCpR M 1 0) 1 a b (nI 0) 28 1 (8 * a + b)))) (zP M2 O) := by
  have hn1 : ∀ j, j < 64 → 0 ≤ mCpR M 1 0 27 1 j := by
    intro j hj
    rw [show mCpR M 1 0 27 1 j = xcp 64 (M 27 0) (M 27 1) j from rfl]
    unfold xcp
    rw [if_pos hj]
    exact hnn j hj
  have cw := c_rway (w := w) (d := d + 7) (M := mLay (mCpR M 1 0) 1 a b (nI 0)) (O := O) (i := 1) (by decide) (nI a) (nI b)
  rw [xg2_nI ha (by decide) hb (by decide)] at cw
  refine ⟨mLay (mCpR M 1 0) 1 a b (nI 0), mCpR1_same.tr mLay1_same, ?_⟩
  obtain ⟨v, hv⟩ : ∃ v, v = mLay (mCpR M 1 0) 1 a b (nI 0) 28 1 (8 * a + b) := ⟨_, rfl⟩
  rw [← hv] at cw ⊢
  unfold kId
  refine zC_of (cr := 0) (L0 := [vR 9 0, vI (nI a), vI (nI b), vU]) rfl (by decide) (by decide) rfl (Nat.le_of_ble_eq_true rfl) rfl ?_
  refine g_iload_n (n := 1) dX9_idle_0 rfl rfl ?_
  refine g_iload_n (n := 2) dX9_idle_1 rfl rfl ?_
  refine g_cSn (n := 5) (c_needTwoTowns ha hb hab) dX9_idle_2 rfl kw_X9_56 (Nat.le_of_ble_eq_true rfl) ⟨Nat.le_refl _, Nat.le_refl _⟩ ?_ rfl
  refine g_aload_n (n := 6) dX9_idle_5 rfl rfl ?_
  refine gf_X9_16 (n := 9) dX9_idle_6 rfl rfl (z_lvP (by first | decide | assumption)) rfl ?_
  refine gf_X9_67 (n := 12) dX9_idle_9 rfl rfl (z_lvP (by first | decide | assumption)) rfl ?_
  refine g_aload_n (n := 13) dX9_idle_12 rfl rfl ?_
  refine gf_X9_10 (n := 16) dX9_idle_13 rfl rfl (z_lvP (by first | decide | assumption)) rfl ?_
  refine gf_X9_67 (n := 19) dX9_idle_16 rfl rfl (z_lvP (by first | decide | assumption)) rfl ?_
  refine g_cVn (n := 22) (c_rcopy (i := 1) (j := 0) (by decide) (by decide)) dX9_idle_19 rfl kw_X9_297 rfl (by decide) (z_lvP (by first | decide | assumption)) (Nat.le_of_ble_eq_true rfl) ⟨Nat.le_refl _, Nat.le_refl _⟩ ?_ rfl
  refine g_aload_n (n := 23) dX9_idle_22 rfl rfl ?_
  refine gf_X9_16 (n := 26) dX9_idle_23 rfl rfl (z_lvP (by first | decide | assumption)) rfl ?_
  refine gf_X9_67 (n := 29) dX9_idle_26 rfl rfl (z_lvP (by first | decide | assumption)) rfl ?_
  refine g_iload_n (n := 30) dX9_idle_29 rfl rfl ?_
  refine g_iload_n (n := 31) dX9_idle_30 rfl rfl ?_
  refine g_iconst (n := 32) dX9_idle_31 rfl k_ic_0 ?_
  refine g_cVv (n := 35) (c_rlay (i := 1) (by decide) ha hb (nI 0) (Int32.le_refl _) hn1) dX9_idle_32 rfl kw_X9_71 rfl (by decide) (z_lvP (by first | decide | assumption)) (Nat.le_of_ble_eq_true rfl) ⟨Nat.le_refl _, Nat.le_refl _⟩ ?_ rfl
  refine g_pop (n := 36) dX9_idle_35 rfl rfl ?_
  refine g_aload_n (n := 37) dX9_idle_36 rfl rfl ?_
  refine gf_X9_16 (n := 40) dX9_idle_37 rfl rfl (z_lvP (by first | decide | assumption)) rfl ?_
  refine gf_X9_67 (n := 43) dX9_idle_40 rfl rfl (z_lvP (by first | decide | assumption)) rfl ?_
  refine g_iload_n (n := 44) dX9_idle_43 rfl rfl ?_
  refine g_iload_n (n := 45) dX9_idle_44 rfl rfl ?_
  refine g_cVv (n := 48) cw dX9_idle_45 rfl kw_X9_214 rfl (by decide) (z_lvP (by first | decide | assumption)) (Nat.le_of_ble_eq_true rfl) ⟨Nat.le_refl _, Nat.le_refl _⟩ ?_ rfl
  refine g_istore3 (n := 49) dX9_idle_48 rfl (by decide) rfl ?_
  refine g_iload_n (n := 50) dX9_idle_49 rfl rfl ?_
  refine g_iconst (n := 51) dX9_idle_50 rfl k_ic_m1 ?_
  refine g_icmp_eq (n := 54) (t := 66) dX9_idle_51 rfl (by decide) (fun c51 => ?_) (fun c51 => ?_)
  · rw [if_pos (show xfar v = -1 from c51)]
    refine g_iconst (n := 67) dX9_idle_66 rfl k_ic_m1 ?_
    exact g_ireturn dX9_idle_67 rfl rfl rfl rfl
  · rw [if_neg (show ¬ xfar v = -1 from c51)]
    refine g_iload_n (n := 55) dX9_idle_54 rfl rfl ?_
    refine g_bipush (n := 57) dX9_idle_55 rfl k_bp_99 ?_
    refine g_icmp_ge (n := 60) (t := 66) dX9_idle_57 rfl (by decide) (fun c57 => ?_) (fun c57 => ?_)
    · rw [if_neg (show ¬ xfar v < nI 99 from Int32.not_lt.mpr c57)]
      refine g_iconst (n := 67) dX9_idle_66 rfl k_ic_m1 ?_
      exact g_ireturn dX9_idle_67 rfl rfl rfl rfl
    · rw [if_pos (show xfar v < nI 99 from Int32.not_le.mp c57)]
      refine g_iload_n (n := 61) dX9_idle_60 rfl rfl ?_
      refine g_iconst (n := 62) dX9_idle_61 rfl k_ic_1 ?_
      refine g_iadd (n := 63) dX9_idle_62 rfl ?_
      refine g_goto (n := 0) (t := 67) dX9_idle_63 (by decide) ?_
      exact g_ireturn dX9_idle_67 rfl rfl rfl rfl
theorem t_choice1 {x y z : Int32} (h : z_ok x 8 = false) : zC w mX9_choice (d + 9) [vR 9 0, vI x, vI y, vI z] (zP M O) (zrX xIOOB) (zP M O) := by
  refine zC_of (cr := 1) (L0 := [vR 9 0, vI x, vI y, vI z]) rfl (by decide) (by decide) rfl (Nat.le_of_ble_eq_true rfl) rfl ?_
  refine g_iload_n (n := 1) dX9_choice_0 rfl rfl ?_
  exact g_cST (σ1 := (0, fun _ _ _ => false, fun _ _ _ => 0, fun _ => 0)) (t_needTown x h) dX9_choice_1 kw_X9_77 (Nat.le_of_ble_eq_true rfl) (Nat.le_refl _) rfl rfl rfl rfl
theorem t_choice2 {x y z : Int32} (hx : z_ok x 8 = true) (h : z_ok y 4 = false) : zC w mX9_choice (d + 9) [vR 9 0, vI x, vI y, vI z] (zP M O) (zrX xIOOB) (zP M O) := by
  refine zC_of (cr := 1) (L0 := [vR 9 0, vI x, vI y, vI z]) rfl (by decide) (by decide) rfl (Nat.le_of_ble_eq_true rfl) rfl ?_
  refine g_iload_n (n := 1) dX9_choice_0 rfl rfl ?_
  refine g_cSn (n := 4) (c_needTown x hx) dX9_choice_1 rfl kw_X9_77 (Nat.le_of_ble_eq_true rfl) ⟨Nat.le_refl _, Nat.le_refl _⟩ ?_ rfl
  refine g_iload_n (n := 5) dX9_choice_4 rfl rfl ?_
  exact g_cST (σ1 := (0, fun _ _ _ => false, fun _ _ _ => 0, fun _ => 0)) (t_needHouse y h) dX9_choice_5 kw_X9_114 (Nat.le_of_ble_eq_true rfl) (Nat.le_refl _) rfl rfl rfl rfl
theorem t_choice3 {x y z : Int32} (hx : z_ok x 8 = true) (hy : z_ok y 4 = true) (h : z_ok z 6 = false) : zC w mX9_choice (d + 9) [vR 9 0, vI x, vI y, vI z] (zP M O) (zrX xIA) (zP M O) := by
  refine zC_of (cr := 1) (L0 := [vR 9 0, vI x, vI y, vI z]) rfl (by decide) (by decide) rfl (Nat.le_of_ble_eq_true rfl) rfl ?_
  refine g_iload_n (n := 1) dX9_choice_0 rfl rfl ?_
  refine g_cSn (n := 4) (c_needTown x hx) dX9_choice_1 rfl kw_X9_77 (Nat.le_of_ble_eq_true rfl) ⟨Nat.le_refl _, Nat.le_refl _⟩ ?_ rfl
  refine g_iload_n (n := 5) dX9_choice_4 rfl rfl ?_
  refine g_cSn (n := 8) (c_needHouse y hy) dX9_choice_5 rfl kw_X9_114 (Nat.le_of_ble_eq_true rfl) ⟨Nat.le_refl _, Nat.le_refl _⟩ ?_ rfl
  refine g_iload_n (n := 9) dX9_choice_8 rfl rfl ?_
  refine g_iconst (n := 10) dX9_choice_9 rfl k_ic_5 ?_
  exact g_cST (σ1 := (0, fun _ _ _ => false, fun _ _ _ => 0, fun _ => 0)) (t_needFromZero (g := 5) z h (by decide)) dX9_choice_10 kw_X9_117 (Nat.le_of_ble_eq_true rfl) (Nat.le_refl _) rfl rfl rfl rfl
def kNx (M : Nat → Nat → Nat → Int32) (s t h : Nat) : Int32 :=
  let g := xg (M 13 0) s (-1) (kEx M 0 s t h)
  if z_ok g 8 then xnext (M 27 0) (M 28 0) t g.toNatClampNeg else -1
def kCh (M : Nat → Nat → Nat → Int32) (s t h v : Nat) : Int32 := match v with
  | 0 => kEx M 0 s t h
  | 1 => kCo M 0 s t h
  | 2 => (kQ M 0 s t h).2.1
  | 3 => (kQ M 0 s t h).1
  | 4 => M 19 0 (4 * t + h)
  | _ => kNx M s t h
theorem c_choice {M' : Nat → Nat → Nat → Int32} (S : zSame M M') (hs : M 1 0 5 = nI s) (h8 : s ≤ 8) {t h v : Nat} (ht : t < 8) (hh : h < 4) (hv : v < 6) :
    ∃ M2, zSame M M2 ∧ zC w mX9_choice (d + 9) [vR 9 0, vI (nI t), vI (nI h), vI (nI v)] (zP M' O) (zrI (kCh M s t h v)) (zP M2 O) := by
  have hs' : M' 1 0 5 = nI s := by rw [S 1 0 (by decide) (by decide) (by decide) (by decide) (by decide) (Or.inl (by decide))]; exact hs
  obtain ⟨M2, S2, v2, v3, v4, v5, cl⟩ := c_lookS (w := w) (d := d + 5) (O := O) (M := M') zSamL.rf (by decide : 0 < 10) hs' h8 ht hh
  have H := S.lnd (i := 0) (by decide)
  rw [kQ_c H] at v2 v3
  rw [kEx_c H] at v4
  rw [kCo_c H] at v5
  have S3 : zSame M M2 := S.tr S2.same
  have H2 := S3.lnd (i := 0) (by decide)
  have hs2 : M2 1 0 5 = nI s := by rw [S3 1 0 (by decide) (by decide) (by decide) (by decide) (by decide) (Or.inl (by decide))]; exact hs
  have n1 := c_needTown (w := w) (d := d + 7) (σ := zP M' O) (nI t) (z_ok_nI ht (by decide))
  have n2 := c_needHouse (w := w) (d := d + 7) (σ := zP M' O) (nI h) (z_ok_nI hh (by decide))
  have n3 : zC w mX9_needFromZero (d + 8) [vI (nI v), vI (nI 5)] (zP M' O) zrV (zP M' O) := c_needFromZero (g := 5) (nI v) (z_ok_nI hv (by decide)) (by decide)
  refine ⟨M2, S3, ?_⟩
  refine zC_of (cr := 0) (L0 := [vR 9 0, vI (nI t), vI (nI h), vI (nI v)]) rfl (by decide) (by decide) rfl (Nat.le_of_ble_eq_true rfl) rfl ?_
  refine g_iload_n (n := 1) dX9_choice_0 rfl rfl ?_
  refine g_cSn (n := 4) n1 dX9_choice_1 rfl kw_X9_77 (Nat.le_of_ble_eq_true rfl) ⟨Nat.le_refl _, Nat.le_refl _⟩ ?_ rfl
  refine g_iload_n (n := 5) dX9_choice_4 rfl rfl ?_
  refine g_cSn (n := 8) n2 dX9_choice_5 rfl kw_X9_114 (Nat.le_of_ble_eq_true rfl) ⟨Nat.le_refl _, Nat.le_refl _⟩ ?_ rfl
  refine g_iload_n (n := 9) dX9_choice_8 rfl rfl ?_
  refine g_iconst (n := 10) dX9_choice_9 rfl k_ic_5 ?_
  refine g_cSn (n := 13) n3 dX9_choice_10 rfl kw_X9_117 (Nat.le_of_ble_eq_true rfl) ⟨Nat.le_refl _, Nat.le_refl _⟩ ?_ rfl
  refine g_aload_n (n := 14) dX9_choice_13 rfl rfl ?_
  refine gf_X9_22 (n := 17) dX9_choice_14 rfl rfl (z_lvP (by first | decide | assumption)) rfl ?_
  refine g_aload_n (n := 18) dX9_choice_17 rfl rfl ?_
  refine gf_X9_10 (n := 21) dX9_choice_18 rfl rfl (z_lvP (by first | decide | assumption)) rfl ?_
  refine g_iload_n (n := 22) dX9_choice_21 rfl rfl ?_
  refine g_iload_n (n := 23) dX9_choice_22 rfl rfl ?_
  refine g_cVn (n := 26) cl dX9_choice_23 rfl kw_X9_242 rfl (by decide) (z_lvP (by first | decide | assumption)) (Nat.le_of_ble_eq_true rfl) ⟨Nat.le_refl _, Nat.le_refl _⟩ ?_ rfl
  match v, hv with
  | 0, _ =>
    refine g_iload_n (n := 27) dX9_choice_26 rfl rfl ?_
    refine g_tabIn (n := 0) (t := 60) dX9_choice_27 (by decide) (by decide) rfl (by decide) ?_
    refine g_aload_n (n := 61) dX9_choice_60 rfl rfl ?_
    refine gf_X9_22 (n := 64) dX9_choice_61 rfl rfl (z_lvP (by first | decide | assumption)) rfl ?_
    refine gf_X9_246 (n := 67) dX9_choice_64 rfl rfl (z_lvP (by first | decide | assumption)) ?_
    exact g_ireturn dX9_choice_67 rfl rfl (by rw [v4]; rfl) rfl
  | 1, _ =>
    refine g_iload_n (n := 27) dX9_choice_26 rfl rfl ?_
    refine g_tabIn (n := 0) (t := 68) dX9_choice_27 (by decide) (by decide) rfl (by decide) ?_
    refine g_aload_n (n := 69) dX9_choice_68 rfl rfl ?_
    refine gf_X9_22 (n := 72) dX9_choice_69 rfl rfl (z_lvP (by first | decide | assumption)) rfl ?_
    refine gf_X9_249 (n := 75) dX9_choice_72 rfl rfl (z_lvP (by first | decide | assumption)) ?_
    exact g_ireturn dX9_choice_75 rfl rfl (by rw [v5]; rfl) rfl
  | 2, _ =>
    refine g_iload_n (n := 27) dX9_choice_26 rfl rfl ?_
    refine g_tabIn (n := 0) (t := 76) dX9_choice_27 (by decide) (by decide) rfl (by decide) ?_
    refine g_aload_n (n := 77) dX9_choice_76 rfl rfl ?_
    refine gf_X9_22 (n := 80) dX9_choice_77 rfl rfl (z_lvP (by first | decide | assumption)) rfl ?_
    refine gf_X9_251 (n := 83) dX9_choice_80 rfl rfl (z_lvP (by first | decide | assumption)) ?_
    exact g_ireturn dX9_choice_83 rfl rfl (by rw [v3]; rfl) rfl
  | 3, _ =>
    refine g_iload_n (n := 27) dX9_choice_26 rfl rfl ?_
    refine g_tabIn (n := 0) (t := 84) dX9_choice_27 (by decide) (by decide) rfl (by decide) ?_
    refine g_aload_n (n := 85) dX9_choice_84 rfl rfl ?_
    refine gf_X9_22 (n := 88) dX9_choice_85 rfl rfl (z_lvP (by first | decide | assumption)) rfl ?_
    refine gf_X9_254 (n := 91) dX9_choice_88 rfl rfl (z_lvP (by first | decide | assumption)) ?_
    exact g_ireturn dX9_choice_91 rfl rfl (by rw [v2]; rfl) rfl
  | 4, _ =>
    have c4 := c_loavesOut (w := w) (d := d + 7) (M := M2) (O := O) (i := 0) (by decide) (nI t) (nI h)
    rw [xg2_nI ht (by decide) hh (by decide), H2 19 (by decide) (by decide) (by decide) (by decide)] at c4
    refine g_iload_n (n := 27) dX9_choice_26 rfl rfl ?_
    refine g_tabIn (n := 0) (t := 92) dX9_choice_27 (by decide) (by decide) rfl (by decide) ?_
    refine g_aload_n (n := 93) dX9_choice_92 rfl rfl ?_
    refine gf_X9_10 (n := 96) dX9_choice_93 rfl rfl (z_lvP (by first | decide | assumption)) rfl ?_
    refine g_iload_n (n := 97) dX9_choice_96 rfl rfl ?_
    refine g_iload_n (n := 98) dX9_choice_97 rfl rfl ?_
    refine g_cVv (n := 101) c4 dX9_choice_98 rfl kw_X9_257 rfl (by decide) (z_lvP (by first | decide | assumption)) (Nat.le_of_ble_eq_true rfl) ⟨Nat.le_refl _, Nat.le_refl _⟩ ?_ rfl
    exact g_ireturn dX9_choice_101 rfl rfl rfl rfl
  | 5, _ =>
    have ct := c_xtown (w := w) (d := d + 7) (M := M2) (O := O) (i := 0) (by decide) hs2 h8 (M2 0 0 4)
    rw [v4, H2 13 (by decide) (by decide) (by decide) (by decide)] at ct
    have e1 : kCh M s t h 5 = if z_ok (xg (M 13 0) s (-1) (kEx M 0 s t h)) 8 then xnext (M 27 0) (M 28 0) t (xg (M 13 0) s (-1) (kEx M 0 s t h)).toNatClampNeg else -1 := rfl
    rw [e1]
    obtain ⟨g, hg⟩ : ∃ g, g = xg (M 13 0) s (-1) (kEx M 0 s t h) := ⟨_, rfl⟩
    rw [← hg] at ct ⊢
    cases hz : z_ok g 8
    · refine g_iload_n (n := 27) dX9_choice_26 rfl rfl ?_
      refine g_tabOut (n := 0) (t := 102) dX9_choice_27 (Or.inr (by decide)) (by decide) ?_
      refine g_aload_n (n := 103) dX9_choice_102 rfl rfl ?_
      refine gf_X9_10 (n := 106) dX9_choice_103 rfl rfl (z_lvP (by first | decide | assumption)) rfl ?_
      refine gf_X9_67 (n := 109) dX9_choice_106 rfl rfl (z_lvP (by first | decide | assumption)) rfl ?_
      refine g_iload_n (n := 110) dX9_choice_109 rfl rfl ?_
      refine g_aload_n (n := 111) dX9_choice_110 rfl rfl ?_
      refine gf_X9_10 (n := 114) dX9_choice_111 rfl rfl (z_lvP (by first | decide | assumption)) rfl ?_
      refine gf_X9_83 (n := 117) dX9_choice_114 rfl rfl (z_lvP (by first | decide | assumption)) rfl ?_
      refine g_aload_n (n := 118) dX9_choice_117 rfl rfl ?_
      refine gf_X9_22 (n := 121) dX9_choice_118 rfl rfl (z_lvP (by first | decide | assumption)) rfl ?_
      refine gf_X9_246 (n := 124) dX9_choice_121 rfl rfl (z_lvP (by first | decide | assumption)) ?_
      rw [v4]
      refine g_cVv (n := 127) ct dX9_choice_124 rfl kw_X9_216 rfl (by decide) (z_lvP (by first | decide | assumption)) (Nat.le_of_ble_eq_true rfl) ⟨Nat.le_refl _, Nat.le_refl _⟩ ?_ rfl
      refine g_cVv (n := 130) (c_rnextN (i := 0) (by decide) ht g hz) dX9_choice_127 rfl kw_X9_260 rfl (by decide) (z_lvP (by first | decide | assumption)) (Nat.le_of_ble_eq_true rfl) ⟨Nat.le_refl _, Nat.le_refl _⟩ ?_ rfl
      exact g_ireturn dX9_choice_130 rfl rfl rfl rfl
    · obtain ⟨q, hq8, hqe⟩ := z_ok_of hz (by decide)
      have cn := c_rnext (w := w) (d := d + 6) (M := M2) (O := O) (i := 0) (by decide) ht hq8
      rw [H2 27 (by decide) (by decide) (by decide) (by decide), H2 28 (by decide) (by decide) (by decide) (by decide)] at cn
      rw [hqe] at ct ⊢
      rw [nI_clamp (by omega)]
      refine g_iload_n (n := 27) dX9_choice_26 rfl rfl ?_
      refine g_tabOut (n := 0) (t := 102) dX9_choice_27 (Or.inr (by decide)) (by decide) ?_
      refine g_aload_n (n := 103) dX9_choice_102 rfl rfl ?_
      refine gf_X9_10 (n := 106) dX9_choice_103 rfl rfl (z_lvP (by first | decide | assumption)) rfl ?_
      refine gf_X9_67 (n := 109) dX9_choice_106 rfl rfl (z_lvP (by first | decide | assumption)) rfl ?_
      refine g_iload_n (n := 110) dX9_choice_109 rfl rfl ?_
      refine g_aload_n (n := 111) dX9_choice_110 rfl rfl ?_
      refine gf_X9_10 (n := 114) dX9_choice_111 rfl rfl (z_lvP (by first | decide | assumption)) rfl ?_
      refine gf_X9_83 (n := 117) dX9_choice_114 rfl rfl (z_lvP (by first | decide | assumption)) rfl ?_
      refine g_aload_n (n := 118) dX9_choice_117 rfl rfl ?_
      refine gf_X9_22 (n := 121) dX9_choice_118 rfl rfl (z_lvP (by first | decide | assumption)) rfl ?_
      refine gf_X9_246 (n := 124) dX9_choice_121 rfl rfl (z_lvP (by first | decide | assumption)) ?_
      rw [v4]
      refine g_cVv (n := 127) ct dX9_choice_124 rfl kw_X9_216 rfl (by decide) (z_lvP (by first | decide | assumption)) (Nat.le_of_ble_eq_true rfl) ⟨Nat.le_refl _, Nat.le_refl _⟩ ?_ rfl
      refine g_cVv (n := 130) cn dX9_choice_127 rfl kw_X9_260 rfl (by decide) (z_lvP (by first | decide | assumption)) (Nat.le_of_ble_eq_true rfl) ⟨Nat.le_refl _, Nat.le_refl _⟩ ?_ rfl
      exact g_ireturn dX9_choice_130 rfl rfl rfl rfl
theorem t_why1 {x y z : Int32} (h : z_ok x 8 = false) : zC w mX9_why (d + 9) [vR 9 0, vI x, vI y, vI z] (zP M O) (zrX xIOOB) (zP M O) := by
  refine zC_of (cr := 1) (L0 := [vR 9 0, vI x, vI y, vI z]) rfl (by decide) (by decide) rfl (Nat.le_of_ble_eq_true rfl) rfl ?_
  refine g_iload_n (n := 1) dX9_why_0 rfl rfl ?_
  exact g_cST (σ1 := (0, fun _ _ _ => false, fun _ _ _ => 0, fun _ => 0)) (t_needTown x h) dX9_why_1 kw_X9_77 (Nat.le_of_ble_eq_true rfl) (Nat.le_refl _) rfl rfl rfl rfl
theorem t_why2 {x y z : Int32} (hx : z_ok x 8 = true) (h : z_ok y 4 = false) : zC w mX9_why (d + 9) [vR 9 0, vI x, vI y, vI z] (zP M O) (zrX xIOOB) (zP M O) := by
  refine zC_of (cr := 1) (L0 := [vR 9 0, vI x, vI y, vI z]) rfl (by decide) (by decide) rfl (Nat.le_of_ble_eq_true rfl) rfl ?_
  refine g_iload_n (n := 1) dX9_why_0 rfl rfl ?_
  refine g_cSn (n := 4) (c_needTown x hx) dX9_why_1 rfl kw_X9_77 (Nat.le_of_ble_eq_true rfl) ⟨Nat.le_refl _, Nat.le_refl _⟩ ?_ rfl
  refine g_iload_n (n := 5) dX9_why_4 rfl rfl ?_
  exact g_cST (σ1 := (0, fun _ _ _ => false, fun _ _ _ => 0, fun _ => 0)) (t_needHouse y h) dX9_why_5 kw_X9_114 (Nat.le_of_ble_eq_true rfl) (Nat.le_refl _) rfl rfl rfl rfl
theorem t_why3 (F : zF M s o h n) {x y z : Int32} (hx : z_ok x 8 = true) (hy : z_ok y 4 = true) (hz : z_ok z s = false) : zC w mX9_why (d + 9) [vR 9 0, vI x, vI y, vI z] (zP M O) (zrX xIOOB) (zP M O) := by
  refine zC_of (cr := 1) (L0 := [vR 9 0, vI x, vI y, vI z]) rfl (by decide) (by decide) rfl (Nat.le_of_ble_eq_true rfl) rfl ?_
  refine g_iload_n (n := 1) dX9_why_0 rfl rfl ?_
  refine g_cSn (n := 4) (c_needTown x hx) dX9_why_1 rfl kw_X9_77 (Nat.le_of_ble_eq_true rfl) ⟨Nat.le_refl _, Nat.le_refl _⟩ ?_ rfl
  refine g_iload_n (n := 5) dX9_why_4 rfl rfl ?_
  refine g_cSn (n := 8) (c_needHouse y hy) dX9_why_5 rfl kw_X9_114 (Nat.le_of_ble_eq_true rfl) ⟨Nat.le_refl _, Nat.le_refl _⟩ ?_ rfl
  refine g_aload_n (n := 9) dX9_why_8 rfl rfl ?_
  refine g_iload_n (n := 10) dX9_why_9 rfl rfl ?_
  exact g_cVT (σ1 := (0, fun _ _ _ => false, fun _ _ _ => 0, fun _ => 0)) (t_needExit F.hs F.h8 z hz) dX9_why_10 kw_X9_104 rfl (by decide) (z_lvP (by first | decide | assumption)) (Nat.le_of_ble_eq_true rfl) (Nat.le_refl _) rfl rfl rfl rfl
/-- why not, by the look's own numbers -/
def kWy (M : Nat → Nat → Nat → Int32) (s t h e : Nat) : Int32 :=
  if nI e = kEx M 0 s t h then nI 0 else if ¬ M 15 0 e = nI 1 then nI 1 else if kLen M 0 s h e = 0 then nI 2 else if kDis M 0 s t e = -1 then nI 3 else if ¬ kF M 0 s t h e = (kQ M 0 s t h).2.2.1 then nI 4 else if kS M 0 s t h e = (kQ M 0 s t h).2.2.2 then nI 6 else nI 5
theorem kRea_L {M : Nat → Nat → Nat → Int32} {s t h e : Nat} (he : e < 8) : kRea (mLook M 0 s t h) 0 s t h e = kWy M s t h e := by
  have H : zLnd M (mLook M 0 s t h) 0 := zSamL.lnd mLook_s 0
  unfold kRea kWy
  rw [kLen_c H, kDis_c H, H 15 (by decide) (by decide) (by decide) (by decide)]
  rw [show mLook M 0 s t h 0 0 4 = kEx M 0 s t h from rfl, show mLook M 0 s t h 0 0 6 = (kQ M 0 s t h).2.2.1 from rfl, show mLook M 0 s t h 0 0 7 = (kQ M 0 s t h).2.2.2 from rfl]
  rw [show mLook M 0 s t h 11 0 e = xfl (kF M 0 s t h) (M 11 0) 8 e from rfl, show mLook M 0 s t h 12 0 e = xfl (kS M 0 s t h) (M 12 0) 8 e from rfl, xfl_in he, xfl_in he]
theorem c_why {M' : Nat → Nat → Nat → Int32} (S : zSame M M') (hs : M 1 0 5 = nI s) (h8 : s ≤ 8) {t h e : Nat} (ht : t < 8) (hh : h < 4) (he : e < s) :
    ∃ M2, zSame M M2 ∧ zC w mX9_why (d + 9) [vR 9 0, vI (nI t), vI (nI h), vI (nI e)] (zP M' O) (zrI (kWy M s t h e)) (zP M2 O) := by
  have hs' : M' 1 0 5 = nI s := by rw [S 1 0 (by decide) (by decide) (by decide) (by decide) (by decide) (Or.inl (by decide))]; exact hs
  have H := S.lnd (i := 0) (by decide)
  have n1 := c_needTown (w := w) (d := d + 7) (σ := zP M' O) (nI t) (z_ok_nI ht (by decide))
  have n2 := c_needHouse (w := w) (d := d + 7) (σ := zP M' O) (nI h) (z_ok_nI hh (by decide))
  have n3 := c_needExit (w := w) (d := d + 7) (O := O) hs' h8 (nI e) (z_ok_nI he (by omega))
  have cl := c_look (w := w) (d := d + 5) (M := M') (O := O) (i := 0) (by decide) hs' h8 ht hh
  have cr := c_reason (w := w) (d := d + 6) (M := mLook M' 0 s t h) (O := O) (i := 0) (t := t) (h := h) (by decide) hs' h8 he
  have e1 : kWy M' s t h e = kWy M s t h e := by
    unfold kWy
    rw [kEx_c H, kLen_c H, kDis_c H, kF_c H, kS_c H, kQ_c H, H 15 (by decide) (by decide) (by decide) (by decide)]
  rw [kRea_L (by omega), e1] at cr
  refine ⟨mLook M' 0 s t h, S.tr (zSamL.same mLook_s), ?_⟩
  refine zC_of (cr := 0) (L0 := [vR 9 0, vI (nI t), vI (nI h), vI (nI e)]) rfl (by decide) (by decide) rfl (Nat.le_of_ble_eq_true rfl) rfl ?_
  refine g_iload_n (n := 1) dX9_why_0 rfl rfl ?_
  refine g_cSn (n := 4) n1 dX9_why_1 rfl kw_X9_77 (Nat.le_of_ble_eq_true rfl) ⟨Nat.le_refl _, Nat.le_refl _⟩ ?_ rfl
  refine g_iload_n (n := 5) dX9_why_4 rfl rfl ?_
  refine g_cSn (n := 8) n2 dX9_why_5 rfl kw_X9_114 (Nat.le_of_ble_eq_true rfl) ⟨Nat.le_refl _, Nat.le_refl _⟩ ?_ rfl
  refine g_aload_n (n := 9) dX9_why_8 rfl rfl ?_
  refine g_iload_n (n := 10) dX9_why_9 rfl rfl ?_
  refine g_cVn (n := 13) n3 dX9_why_10 rfl kw_X9_104 rfl (by decide) (z_lvP (by first | decide | assumption)) (Nat.le_of_ble_eq_true rfl) ⟨Nat.le_refl _, Nat.le_refl _⟩ ?_ rfl
  refine g_aload_n (n := 14) dX9_why_13 rfl rfl ?_
  refine gf_X9_22 (n := 17) dX9_why_14 rfl rfl (z_lvP (by first | decide | assumption)) rfl ?_
  refine g_aload_n (n := 18) dX9_why_17 rfl rfl ?_
  refine gf_X9_10 (n := 21) dX9_why_18 rfl rfl (z_lvP (by first | decide | assumption)) rfl ?_
  refine g_iload_n (n := 22) dX9_why_21 rfl rfl ?_
  refine g_iload_n (n := 23) dX9_why_22 rfl rfl ?_
  refine g_cVn (n := 26) cl dX9_why_23 rfl kw_X9_242 rfl (by decide) (z_lvP (by first | decide | assumption)) (Nat.le_of_ble_eq_true rfl) ⟨Nat.le_refl _, Nat.le_refl _⟩ ?_ rfl
  refine g_aload_n (n := 27) dX9_why_26 rfl rfl ?_
  refine gf_X9_22 (n := 30) dX9_why_27 rfl rfl (z_lvP (by first | decide | assumption)) rfl ?_
  refine g_aload_n (n := 31) dX9_why_30 rfl rfl ?_
  refine gf_X9_10 (n := 34) dX9_why_31 rfl rfl (z_lvP (by first | decide | assumption)) rfl ?_
  refine g_iload_n (n := 35) dX9_why_34 rfl rfl ?_
  refine g_iload_n (n := 36) dX9_why_35 rfl rfl ?_
  refine g_iload_n (n := 37) dX9_why_36 rfl rfl ?_
  refine g_cVv (n := 40) cr dX9_why_37 rfl kw_X9_263 rfl (by decide) (z_lvP (by first | decide | assumption)) (Nat.le_of_ble_eq_true rfl) ⟨Nat.le_refl _, Nat.le_refl _⟩ ?_ rfl
  exact g_ireturn dX9_why_40 rfl rfl rfl rfl
theorem t_count {x : Int32} (h : z_ok x 10 = false) : zC w mX9_count (d + 9) [vR 9 0, vI x] (zP M O) (zrX xIA) (zP M O) := by
  refine zC_of (cr := 1) (L0 := [vR 9 0, vI x]) rfl (by decide) (by decide) rfl (Nat.le_of_ble_eq_true rfl) rfl ?_
  refine g_iload_n (n := 1) dX9_count_0 rfl rfl ?_
  refine g_bipush (n := 3) dX9_count_1 rfl k_bp_9 ?_
  exact g_cST (σ1 := (0, fun _ _ _ => false, fun _ _ _ => 0, fun _ => 0)) (t_needFromZero (g := 9) x h (by decide)) dX9_count_3 kw_X9_117 (Nat.le_of_ble_eq_true rfl) (Nat.le_refl _) rfl rfl rfl rfl
def kCt (M : Nat → Nat → Nat → Int32) (s v : Nat) : Int32 := match v with
  | 0 => sm (fun a => sm (fun b => zb (decide (0 < M 27 0 (8 * a + b)))) a) 8
  | 1 => M 1 0 5
  | 2 => sm (fun e => zb (decide (M 15 0 e = nI 1))) s
  | 3 => sm (fun j => zb (decide (0 < M 22 0 j))) 16
  | 4 => M 3 0 5
  | 5 => M 3 0 6
  | 6 => M 3 0 7
  | 7 => sm (M 26 0) 4
  | 8 => kWo M s
  | _ => M 2 0 2
theorem c_count {M' : Nat → Nat → Nat → Int32} (S : zSame M M') (hs : M 1 0 5 = nI s) (h8 : s ≤ 8) {v : Nat} (hv : v < 10) : ∃ M2, zSame M M2 ∧ zC w mX9_count (d + 9) [vR 9 0, vI (nI v)] (zP M' O) (zrI (kCt M s v)) (zP M2 O) := by
  have hs' : M' 1 0 5 = nI s := by rw [S 1 0 (by decide) (by decide) (by decide) (by decide) (by decide) (Or.inl (by decide))]; exact hs
  have H := S.lnd (i := 0) (by decide)
  have n3 : ∀ v, v < 10 → zC w mX9_needFromZero (d + 8) [vI (nI v), vI (nI 9)] (zP M' O) zrV (zP M' O) := fun v hv => c_needFromZero (g := 9) (nI v) (z_ok_nI hv (by decide)) (by decide)
  have l3 : M' 3 0 = M 3 0 := S 3 0 (by decide) (by decide) (by decide) (by decide) (by decide) (Or.inl (by decide))
  have l1 : M' 1 0 = M 1 0 := S 1 0 (by decide) (by decide) (by decide) (by decide) (by decide) (Or.inl (by decide))
  have l2 : M' 2 0 = M 2 0 := S 2 0 (by decide) (by decide) (by decide) (by decide) (by decide) (Or.inl (by decide))
  match v, hv with
  | 0, _ =>
    refine ⟨M', S, ?_⟩
    have cc := c_rnumber (w := w) (d := d + 8) (M := M') (O := O) (i := 0) (by decide)
    rw [H 27 (by decide) (by decide) (by decide) (by decide)] at cc
    refine zC_of (cr := 0) (L0 := [vR 9 0, vI (nI 0)]) rfl (by decide) (by decide) rfl (Nat.le_of_ble_eq_true rfl) rfl ?_
    refine g_iload_n (n := 1) dX9_count_0 rfl rfl ?_
    refine g_bipush (n := 3) dX9_count_1 rfl k_bp_9 ?_
    refine g_cSn (n := 6) (n3 0 (by decide)) dX9_count_3 rfl kw_X9_117 (Nat.le_of_ble_eq_true rfl) ⟨Nat.le_refl _, Nat.le_refl _⟩ ?_ rfl
    refine g_iload_n (n := 7) dX9_count_6 rfl rfl ?_
    refine g_tabIn (n := 0) (t := 56) dX9_count_7 (by decide) (by decide) rfl (by decide) ?_
    refine g_aload_n (n := 57) dX9_count_56 rfl rfl ?_
    refine gf_X9_10 (n := 60) dX9_count_57 rfl rfl (z_lvP (by first | decide | assumption)) rfl ?_
    refine gf_X9_67 (n := 63) dX9_count_60 rfl rfl (z_lvP (by first | decide | assumption)) rfl ?_
    refine g_cVv (n := 66) cc dX9_count_63 rfl kw_X9_267 rfl (by decide) (z_lvP (by first | decide | assumption)) (Nat.le_of_ble_eq_true rfl) ⟨Nat.le_refl _, Nat.le_refl _⟩ ?_ rfl
    exact g_ireturn dX9_count_66 rfl rfl rfl rfl
  | 1, _ =>
    refine ⟨M', S, ?_⟩
    have cc := c_xsize (w := w) (d := d + 8) (M := M') (O := O) (i := 0) (by decide)
    rw [l1] at cc
    refine zC_of (cr := 0) (L0 := [vR 9 0, vI (nI 1)]) rfl (by decide) (by decide) rfl (Nat.le_of_ble_eq_true rfl) rfl ?_
    refine g_iload_n (n := 1) dX9_count_0 rfl rfl ?_
    refine g_bipush (n := 3) dX9_count_1 rfl k_bp_9 ?_
    refine g_cSn (n := 6) (n3 1 (by decide)) dX9_count_3 rfl kw_X9_117 (Nat.le_of_ble_eq_true rfl) ⟨Nat.le_refl _, Nat.le_refl _⟩ ?_ rfl
    refine g_iload_n (n := 7) dX9_count_6 rfl rfl ?_
    refine g_tabIn (n := 0) (t := 67) dX9_count_7 (by decide) (by decide) rfl (by decide) ?_
    refine g_aload_n (n := 68) dX9_count_67 rfl rfl ?_
    refine gf_X9_10 (n := 71) dX9_count_68 rfl rfl (z_lvP (by first | decide | assumption)) rfl ?_
    refine gf_X9_83 (n := 74) dX9_count_71 rfl rfl (z_lvP (by first | decide | assumption)) rfl ?_
    refine g_cVv (n := 77) cc dX9_count_74 rfl kw_X9_270 rfl (by decide) (z_lvP (by first | decide | assumption)) (Nat.le_of_ble_eq_true rfl) ⟨Nat.le_refl _, Nat.le_refl _⟩ ?_ rfl
    exact g_ireturn dX9_count_77 rfl rfl rfl rfl
  | 2, _ =>
    refine ⟨M', S, ?_⟩
    have cc := c_xopen (w := w) (d := d + 6) (M := M') (O := O) (i := 0) (by decide) hs' h8
    rw [H 15 (by decide) (by decide) (by decide) (by decide)] at cc
    refine zC_of (cr := 0) (L0 := [vR 9 0, vI (nI 2)]) rfl (by decide) (by decide) rfl (Nat.le_of_ble_eq_true rfl) rfl ?_
    refine g_iload_n (n := 1) dX9_count_0 rfl rfl ?_
    refine g_bipush (n := 3) dX9_count_1 rfl k_bp_9 ?_
    refine g_cSn (n := 6) (n3 2 (by decide)) dX9_count_3 rfl kw_X9_117 (Nat.le_of_ble_eq_true rfl) ⟨Nat.le_refl _, Nat.le_refl _⟩ ?_ rfl
    refine g_iload_n (n := 7) dX9_count_6 rfl rfl ?_
    refine g_tabIn (n := 0) (t := 78) dX9_count_7 (by decide) (by decide) rfl (by decide) ?_
    refine g_aload_n (n := 79) dX9_count_78 rfl rfl ?_
    refine gf_X9_10 (n := 82) dX9_count_79 rfl rfl (z_lvP (by first | decide | assumption)) rfl ?_
    refine gf_X9_83 (n := 85) dX9_count_82 rfl rfl (z_lvP (by first | decide | assumption)) rfl ?_
    refine g_cVv (n := 88) cc dX9_count_85 rfl kw_X9_271 rfl (by decide) (z_lvP (by first | decide | assumption)) (Nat.le_of_ble_eq_true rfl) ⟨Nat.le_refl _, Nat.le_refl _⟩ ?_ rfl
    exact g_ireturn dX9_count_88 rfl rfl rfl rfl
  | 3, _ =>
    refine ⟨M', S, ?_⟩
    have cc := c_nways (w := w) (d := d + 8) (M := M') (O := O) (i := 0) (by decide)
    rw [H 22 (by decide) (by decide) (by decide) (by decide)] at cc
    refine zC_of (cr := 0) (L0 := [vR 9 0, vI (nI 3)]) rfl (by decide) (by decide) rfl (Nat.le_of_ble_eq_true rfl) rfl ?_
    refine g_iload_n (n := 1) dX9_count_0 rfl rfl ?_
    refine g_bipush (n := 3) dX9_count_1 rfl k_bp_9 ?_
    refine g_cSn (n := 6) (n3 3 (by decide)) dX9_count_3 rfl kw_X9_117 (Nat.le_of_ble_eq_true rfl) ⟨Nat.le_refl _, Nat.le_refl _⟩ ?_ rfl
    refine g_iload_n (n := 7) dX9_count_6 rfl rfl ?_
    refine g_tabIn (n := 0) (t := 89) dX9_count_7 (by decide) (by decide) rfl (by decide) ?_
    refine g_aload_n (n := 90) dX9_count_89 rfl rfl ?_
    refine gf_X9_10 (n := 93) dX9_count_90 rfl rfl (z_lvP (by first | decide | assumption)) rfl ?_
    refine gf_X9_120 (n := 96) dX9_count_93 rfl rfl (z_lvP (by first | decide | assumption)) rfl ?_
    refine g_cVv (n := 99) cc dX9_count_96 rfl kw_X9_274 rfl (by decide) (z_lvP (by first | decide | assumption)) (Nat.le_of_ble_eq_true rfl) ⟨Nat.le_refl _, Nat.le_refl _⟩ ?_ rfl
    exact g_ireturn dX9_count_99 rfl rfl rfl rfl
  | 4, _ =>
    refine ⟨M', S, ?_⟩
    refine zC_of (cr := 0) (L0 := [vR 9 0, vI (nI 4)]) rfl (by decide) (by decide) rfl (Nat.le_of_ble_eq_true rfl) rfl ?_
    refine g_iload_n (n := 1) dX9_count_0 rfl rfl ?_
    refine g_bipush (n := 3) dX9_count_1 rfl k_bp_9 ?_
    refine g_cSn (n := 6) (n3 4 (by decide)) dX9_count_3 rfl kw_X9_117 (Nat.le_of_ble_eq_true rfl) ⟨Nat.le_refl _, Nat.le_refl _⟩ ?_ rfl
    refine g_iload_n (n := 7) dX9_count_6 rfl rfl ?_
    refine g_tabIn (n := 0) (t := 100) dX9_count_7 (by decide) (by decide) rfl (by decide) ?_
    refine g_aload_n (n := 101) dX9_count_100 rfl rfl ?_
    refine gf_X9_10 (n := 104) dX9_count_101 rfl rfl (z_lvP (by first | decide | assumption)) rfl ?_
    refine gf_X9_140 (n := 107) dX9_count_104 rfl rfl (z_lvP (by first | decide | assumption)) ?_
    exact g_ireturn dX9_count_107 rfl rfl (by rw [l3]; rfl) rfl
  | 5, _ =>
    refine ⟨M', S, ?_⟩
    refine zC_of (cr := 0) (L0 := [vR 9 0, vI (nI 5)]) rfl (by decide) (by decide) rfl (Nat.le_of_ble_eq_true rfl) rfl ?_
    refine g_iload_n (n := 1) dX9_count_0 rfl rfl ?_
    refine g_bipush (n := 3) dX9_count_1 rfl k_bp_9 ?_
    refine g_cSn (n := 6) (n3 5 (by decide)) dX9_count_3 rfl kw_X9_117 (Nat.le_of_ble_eq_true rfl) ⟨Nat.le_refl _, Nat.le_refl _⟩ ?_ rfl
    refine g_iload_n (n := 7) dX9_count_6 rfl rfl ?_
    refine g_tabIn (n := 0) (t := 108) dX9_count_7 (by decide) (by decide) rfl (by decide) ?_
    refine g_aload_n (n := 109) dX9_count_108 rfl rfl ?_
    refine gf_X9_10 (n := 112) dX9_count_109 rfl rfl (z_lvP (by first | decide | assumption)) rfl ?_
    refine gf_X9_277 (n := 115) dX9_count_112 rfl rfl (z_lvP (by first | decide | assumption)) ?_
    exact g_ireturn dX9_count_115 rfl rfl (by rw [l3]; rfl) rfl
  | 6, _ =>
    refine ⟨M', S, ?_⟩
    refine zC_of (cr := 0) (L0 := [vR 9 0, vI (nI 6)]) rfl (by decide) (by decide) rfl (Nat.le_of_ble_eq_true rfl) rfl ?_
    refine g_iload_n (n := 1) dX9_count_0 rfl rfl ?_
    refine g_bipush (n := 3) dX9_count_1 rfl k_bp_9 ?_
    refine g_cSn (n := 6) (n3 6 (by decide)) dX9_count_3 rfl kw_X9_117 (Nat.le_of_ble_eq_true rfl) ⟨Nat.le_refl _, Nat.le_refl _⟩ ?_ rfl
    refine g_iload_n (n := 7) dX9_count_6 rfl rfl ?_
    refine g_tabIn (n := 0) (t := 116) dX9_count_7 (by decide) (by decide) rfl (by decide) ?_
    refine g_aload_n (n := 117) dX9_count_116 rfl rfl ?_
    refine gf_X9_10 (n := 120) dX9_count_117 rfl rfl (z_lvP (by first | decide | assumption)) rfl ?_
    refine gf_X9_280 (n := 123) dX9_count_120 rfl rfl (z_lvP (by first | decide | assumption)) ?_
    exact g_ireturn dX9_count_123 rfl rfl (by rw [l3]; rfl) rfl
  | 7, _ =>
    refine ⟨M', S, ?_⟩
    have cc := c_nall (w := w) (d := d + 8) (M := M') (O := O) (i := 0) (by decide)
    rw [H 26 (by decide) (by decide) (by decide) (by decide)] at cc
    refine zC_of (cr := 0) (L0 := [vR 9 0, vI (nI 7)]) rfl (by decide) (by decide) rfl (Nat.le_of_ble_eq_true rfl) rfl ?_
    refine g_iload_n (n := 1) dX9_count_0 rfl rfl ?_
    refine g_bipush (n := 3) dX9_count_1 rfl k_bp_9 ?_
    refine g_cSn (n := 6) (n3 7 (by decide)) dX9_count_3 rfl kw_X9_117 (Nat.le_of_ble_eq_true rfl) ⟨Nat.le_refl _, Nat.le_refl _⟩ ?_ rfl
    refine g_iload_n (n := 7) dX9_count_6 rfl rfl ?_
    refine g_tabIn (n := 0) (t := 124) dX9_count_7 (by decide) (by decide) rfl (by decide) ?_
    refine g_aload_n (n := 125) dX9_count_124 rfl rfl ?_
    refine gf_X9_10 (n := 128) dX9_count_125 rfl rfl (z_lvP (by first | decide | assumption)) rfl ?_
    refine gf_X9_120 (n := 131) dX9_count_128 rfl rfl (z_lvP (by first | decide | assumption)) rfl ?_
    refine g_cVv (n := 134) cc dX9_count_131 rfl kw_X9_282 rfl (by decide) (z_lvP (by first | decide | assumption)) (Nat.le_of_ble_eq_true rfl) ⟨Nat.le_refl _, Nat.le_refl _⟩ ?_ rfl
    exact g_ireturn dX9_count_134 rfl rfl rfl rfl
  | 8, _ =>
    obtain ⟨M2, S2, cp⟩ := c_pairs0 (w := w) (d := d + 4) (O := O) (M := M') zSamL.rf hs' h8
    have e1 : kWo M' s = kCt M s 8 := by
      show kWo M' s = kWo M s
      unfold kWo
      rw [kQ_c H]
    rw [e1] at cp
    refine ⟨M2, S.tr S2.same, ?_⟩
    refine zC_of (cr := 0) (L0 := [vR 9 0, vI (nI 8)]) rfl (by decide) (by decide) rfl (Nat.le_of_ble_eq_true rfl) rfl ?_
    refine g_iload_n (n := 1) dX9_count_0 rfl rfl ?_
    refine g_bipush (n := 3) dX9_count_1 rfl k_bp_9 ?_
    refine g_cSn (n := 6) (n3 8 (by decide)) dX9_count_3 rfl kw_X9_117 (Nat.le_of_ble_eq_true rfl) ⟨Nat.le_refl _, Nat.le_refl _⟩ ?_ rfl
    refine g_iload_n (n := 7) dX9_count_6 rfl rfl ?_
    refine g_tabIn (n := 0) (t := 135) dX9_count_7 (by decide) (by decide) rfl (by decide) ?_
    refine g_aload_n (n := 136) dX9_count_135 rfl rfl ?_
    refine g_cVv (n := 139) cp dX9_count_136 rfl kw_X9_285 rfl (by decide) (z_lvP (by first | decide | assumption)) (Nat.le_of_ble_eq_true rfl) ⟨Nat.le_refl _, Nat.le_refl _⟩ ?_ rfl
    exact g_ireturn dX9_count_139 rfl rfl rfl rfl
  | 9, _ =>
    refine ⟨M', S, ?_⟩
    have cc := c_hsize (w := w) (d := d + 8) (M := M') (O := O)
    rw [l2] at cc
    refine zC_of (cr := 0) (L0 := [vR 9 0, vI (nI 9)]) rfl (by decide) (by decide) rfl (Nat.le_of_ble_eq_true rfl) rfl ?_
    refine g_iload_n (n := 1) dX9_count_0 rfl rfl ?_
    refine g_bipush (n := 3) dX9_count_1 rfl k_bp_9 ?_
    refine g_cSn (n := 6) (n3 9 (by decide)) dX9_count_3 rfl kw_X9_117 (Nat.le_of_ble_eq_true rfl) ⟨Nat.le_refl _, Nat.le_refl _⟩ ?_ rfl
    refine g_iload_n (n := 7) dX9_count_6 rfl rfl ?_
    refine g_tabOut (n := 0) (t := 140) dX9_count_7 (Or.inr (by decide)) (by decide) ?_
    refine g_aload_n (n := 141) dX9_count_140 rfl rfl ?_
    refine gf_X9_52 (n := 144) dX9_count_141 rfl rfl (z_lvP (by first | decide | assumption)) rfl ?_
    refine g_cVv (n := 147) cc dX9_count_144 rfl kw_X9_199 rfl (by decide) (z_lvP (by first | decide | assumption)) (Nat.le_of_ble_eq_true rfl) ⟨Nat.le_refl _, Nat.le_refl _⟩ ?_ rfl
    exact g_ireturn dX9_count_147 rfl rfl rfl rfl
theorem c_sendN (hs : M 1 0 5 = nI s) (h8 : s ≤ 8) {t h : Nat} (ht : t < 8) (hh : h < 4) (hx : kEx M 0 s t h = -1) : zC w mX9_sendLoaf (d + 4) [vR 9 0, vI (nI t), vI (nI h)] (zP M O) (zrI (-1)) (zP (u3 (u3 (mLook M 0 s t h) 3 0 5 (M 3 0 5 + nI 1)) 3 0 6 (M 3 0 6 + nI 1)) O) := by
  have cl := c_look (w := w) (d := d) (M := M) (O := O) (i := 0) (by decide) hs h8 ht hh
  obtain ⟨L, hL⟩ : ∃ L, L = mLook M 0 s t h := ⟨_, rfl⟩
  have l4 : L 0 0 4 = -1 := by rw [hL, ← hx]; rfl
  have l5 : L 3 0 = M 3 0 := by rw [hL]; exact mLook_s 3 0 (by decide) (by decide) (by decide)
  rw [← hL] at cl ⊢
  rw [← l5]
  refine zC_of (cr := 0) (L0 := [vR 9 0, vI (nI t), vI (nI h)]) rfl (by decide) (by decide) rfl (Nat.le_of_ble_eq_true rfl) rfl ?_
  refine g_aload_n (n := 1) dX9_sendLoaf_0 rfl rfl ?_
  refine gf_X9_22 (n := 4) dX9_sendLoaf_1 rfl rfl (z_lvP (by first | decide | assumption)) rfl ?_
  refine g_aload_n (n := 5) dX9_sendLoaf_4 rfl rfl ?_
  refine gf_X9_10 (n := 8) dX9_sendLoaf_5 rfl rfl (z_lvP (by first | decide | assumption)) rfl ?_
  refine g_iload_n (n := 9) dX9_sendLoaf_8 rfl rfl ?_
  refine g_iload_n (n := 10) dX9_sendLoaf_9 rfl rfl ?_
  refine g_cVn (n := 13) cl dX9_sendLoaf_10 rfl kw_X9_242 rfl (by decide) (z_lvP (by first | decide | assumption)) (Nat.le_of_ble_eq_true rfl) ⟨Nat.le_refl _, Nat.le_refl _⟩ ?_ rfl
  refine g_aload_n (n := 14) dX9_sendLoaf_13 rfl rfl ?_
  refine gf_X9_10 (n := 17) dX9_sendLoaf_14 rfl rfl (z_lvP (by first | decide | assumption)) rfl ?_
  refine g_iload_n (n := 18) dX9_sendLoaf_17 rfl rfl ?_
  refine g_iload_n (n := 19) dX9_sendLoaf_18 rfl rfl ?_
  refine g_aload_n (n := 20) dX9_sendLoaf_19 rfl rfl ?_
  refine gf_X9_22 (n := 23) dX9_sendLoaf_20 rfl rfl (z_lvP (by first | decide | assumption)) rfl ?_
  refine gf_X9_246 (n := 26) dX9_sendLoaf_23 rfl rfl (z_lvP (by first | decide | assumption)) ?_
  rw [l4]
  refine g_aload_n (n := 27) dX9_sendLoaf_26 rfl rfl ?_
  refine gf_X9_22 (n := 30) dX9_sendLoaf_27 rfl rfl (z_lvP (by first | decide | assumption)) rfl ?_
  refine gf_X9_249 (n := 33) dX9_sendLoaf_30 rfl rfl (z_lvP (by first | decide | assumption)) ?_
  refine g_cVn (n := 36) (c_ltakeN (i := 0) (by decide) (nI t) (nI h) (L 0 0 5)) dX9_sendLoaf_33 rfl kw_X9_375 rfl (by decide) (z_lvP (by first | decide | assumption)) (Nat.le_of_ble_eq_true rfl) ⟨Nat.le_refl _, Nat.le_refl _⟩ ?_ rfl
  refine g_aload_n (n := 37) dX9_sendLoaf_36 rfl rfl ?_
  refine gf_X9_22 (n := 40) dX9_sendLoaf_37 rfl rfl (z_lvP (by first | decide | assumption)) rfl ?_
  refine gf_X9_246 (n := 43) dX9_sendLoaf_40 rfl rfl (z_lvP (by first | decide | assumption)) ?_
  exact g_ireturn dX9_sendLoaf_43 rfl rfl (by show _ = zrI _; rw [show (u3 (u3 L 3 0 5 (L 3 0 5 + nI 1)) 3 0 6 (L 3 0 6 + nI 1)) 0 0 4 = L 0 0 4 from rfl, l4]) rfl
theorem c_sendE (hs : M 1 0 5 = nI s) (h8 : s ≤ 8) {t h e q : Nat} (ht : t < 8) (hh : h < 4) (hx : kEx M 0 s t h = nI e) (he : e < s) (hq : q < 4) (hn : M 14 0 e = nI q) : zC w mX9_sendLoaf (d + 4) [vR 9 0, vI (nI t), vI (nI h)] (zP M O) (zrI (nI e)) (zP (mLtake (mLook M 0 s t h) 0 e q (4 * t + h) (kCo M 0 s t h)) O) := by
  have cl := c_look (w := w) (d := d) (M := M) (O := O) (i := 0) (by decide) hs h8 ht hh
  obtain ⟨L, hL⟩ : ∃ L, L = mLook M 0 s t h := ⟨_, rfl⟩
  have l4 : L 0 0 4 = nI e := by rw [hL, ← hx]; rfl
  have l5 : L 0 0 5 = kCo M 0 s t h := by rw [hL]; rfl
  have ls : L 1 0 5 = nI s := by rw [hL]; exact hs
  have ln : L 14 0 e = nI q := by rw [hL]; exact hn
  have ck := c_ltake (w := w) (d := d) (M := L) (O := O) (i := 0) (by decide) ls h8 he hq ln ht hh (kCo M 0 s t h)
  rw [← hL] at cl ⊢
  have l6 : mLtake L 0 e q (4 * t + h) (kCo M 0 s t h) 0 0 4 = nI e := by
    rw [← l4]
    unfold mLtake mNtake
    split <;> rfl
  refine zC_of (cr := 0) (L0 := [vR 9 0, vI (nI t), vI (nI h)]) rfl (by decide) (by decide) rfl (Nat.le_of_ble_eq_true rfl) rfl ?_
  refine g_aload_n (n := 1) dX9_sendLoaf_0 rfl rfl ?_
  refine gf_X9_22 (n := 4) dX9_sendLoaf_1 rfl rfl (z_lvP (by first | decide | assumption)) rfl ?_
  refine g_aload_n (n := 5) dX9_sendLoaf_4 rfl rfl ?_
  refine gf_X9_10 (n := 8) dX9_sendLoaf_5 rfl rfl (z_lvP (by first | decide | assumption)) rfl ?_
  refine g_iload_n (n := 9) dX9_sendLoaf_8 rfl rfl ?_
  refine g_iload_n (n := 10) dX9_sendLoaf_9 rfl rfl ?_
  refine g_cVn (n := 13) cl dX9_sendLoaf_10 rfl kw_X9_242 rfl (by decide) (z_lvP (by first | decide | assumption)) (Nat.le_of_ble_eq_true rfl) ⟨Nat.le_refl _, Nat.le_refl _⟩ ?_ rfl
  refine g_aload_n (n := 14) dX9_sendLoaf_13 rfl rfl ?_
  refine gf_X9_10 (n := 17) dX9_sendLoaf_14 rfl rfl (z_lvP (by first | decide | assumption)) rfl ?_
  refine g_iload_n (n := 18) dX9_sendLoaf_17 rfl rfl ?_
  refine g_iload_n (n := 19) dX9_sendLoaf_18 rfl rfl ?_
  refine g_aload_n (n := 20) dX9_sendLoaf_19 rfl rfl ?_
  refine gf_X9_22 (n := 23) dX9_sendLoaf_20 rfl rfl (z_lvP (by first | decide | assumption)) rfl ?_
  refine gf_X9_246 (n := 26) dX9_sendLoaf_23 rfl rfl (z_lvP (by first | decide | assumption)) ?_
  rw [l4]
  refine g_aload_n (n := 27) dX9_sendLoaf_26 rfl rfl ?_
  refine gf_X9_22 (n := 30) dX9_sendLoaf_27 rfl rfl (z_lvP (by first | decide | assumption)) rfl ?_
  refine gf_X9_249 (n := 33) dX9_sendLoaf_30 rfl rfl (z_lvP (by first | decide | assumption)) ?_
  rw [l5]
  refine g_cVn (n := 36) ck dX9_sendLoaf_33 rfl kw_X9_375 rfl (by decide) (z_lvP (by first | decide | assumption)) (Nat.le_of_ble_eq_true rfl) ⟨Nat.le_refl _, Nat.le_refl _⟩ ?_ rfl
  refine g_aload_n (n := 37) dX9_sendLoaf_36 rfl rfl ?_
  refine gf_X9_22 (n := 40) dX9_sendLoaf_37 rfl rfl (z_lvP (by first | decide | assumption)) rfl ?_
  refine gf_X9_246 (n := 43) dX9_sendLoaf_40 rfl rfl (z_lvP (by first | decide | assumption)) ?_
  exact g_ireturn dX9_sendLoaf_43 rfl rfl (by rw [l6]) rfl
theorem t_send1 {x y : Int32} (h : z_ok x 8 = false) : zC w mX9_send (d + 9) [vR 9 0, vI x, vI y] (zP M O) (zrX xIOOB) (zP M O) := by
  refine zC_of (cr := 1) (L0 := [vR 9 0, vI x, vI y]) rfl (by decide) (by decide) rfl (Nat.le_of_ble_eq_true rfl) rfl ?_
  refine g_iload_n (n := 1) dX9_send_0 rfl rfl ?_
  exact g_cST (σ1 := (0, fun _ _ _ => false, fun _ _ _ => 0, fun _ => 0)) (t_needTown x h) dX9_send_1 kw_X9_77 (Nat.le_of_ble_eq_true rfl) (Nat.le_refl _) rfl rfl rfl rfl
theorem t_send2 {x y : Int32} (hx : z_ok x 8 = true) (h : z_ok y 4 = false) : zC w mX9_send (d + 9) [vR 9 0, vI x, vI y] (zP M O) (zrX xIOOB) (zP M O) := by
  refine zC_of (cr := 1) (L0 := [vR 9 0, vI x, vI y]) rfl (by decide) (by decide) rfl (Nat.le_of_ble_eq_true rfl) rfl ?_
  refine g_iload_n (n := 1) dX9_send_0 rfl rfl ?_
  refine g_cSn (n := 4) (c_needTown x hx) dX9_send_1 rfl kw_X9_77 (Nat.le_of_ble_eq_true rfl) ⟨Nat.le_refl _, Nat.le_refl _⟩ ?_ rfl
  refine g_iload_n (n := 5) dX9_send_4 rfl rfl ?_
  exact g_cST (σ1 := (0, fun _ _ _ => false, fun _ _ _ => 0, fun _ => 0)) (t_needHouse y h) dX9_send_5 kw_X9_114 (Nat.le_of_ble_eq_true rfl) (Nat.le_refl _) rfl rfl rfl rfl
theorem t_send3 {x y : Int32} (hx : z_ok x 8 = true) (hy : z_ok y 4 = true) (h : ¬ M 3 0 5 < nI 9999) : zC w mX9_send (d + 9) [vR 9 0, vI x, vI y] (zP M O) (zrX xIS) (zP M O) := by
  refine zC_of (cr := 1) (L0 := [vR 9 0, vI x, vI y]) rfl (by decide) (by decide) rfl (Nat.le_of_ble_eq_true rfl) rfl ?_
  refine g_iload_n (n := 1) dX9_send_0 rfl rfl ?_
  refine g_cSn (n := 4) (c_needTown x hx) dX9_send_1 rfl kw_X9_77 (Nat.le_of_ble_eq_true rfl) ⟨Nat.le_refl _, Nat.le_refl _⟩ ?_ rfl
  refine g_iload_n (n := 5) dX9_send_4 rfl rfl ?_
  refine g_cSn (n := 8) (c_needHouse y hy) dX9_send_5 rfl kw_X9_114 (Nat.le_of_ble_eq_true rfl) ⟨Nat.le_refl _, Nat.le_refl _⟩ ?_ rfl
  refine g_aload_n (n := 9) dX9_send_8 rfl rfl ?_
  refine gf_X9_10 (n := 12) dX9_send_9 rfl rfl (z_lvP (by first | decide | assumption)) rfl ?_
  refine gf_X9_140 (n := 15) dX9_send_12 rfl rfl (z_lvP (by first | decide | assumption)) ?_
  refine g_sipush (n := 18) dX9_send_15 rfl k_sp_9999 ?_
  refine g_icmp_lt (n := 21) (t := 31) dX9_send_18 rfl (by decide) (fun q9 => absurd q9 h) (fun _ => ?_)
  exact g_thr (q := z_exs[2]) (is := 144) (sa := 0) (text := "9999 loaves were sent") (List.getElem_mem _) rfl rfl (by decide +kernel) (by omega) (Nat.le_of_ble_eq_true rfl) dX9_send_21 dX9_send_24 dX9_send_25 dX9_send_27 dX9_send_30 rfl rfl rfl
theorem c_send {x y r : Int32} {M2 : Nat → Nat → Nat → Int32} (F : zF M s o h n) (hx : z_ok x 8 = true) (hy : z_ok y 4 = true) (hl : M 3 0 5 < nI 9999) (cs : zC w mX9_sendLoaf (d + 8) [vR 9 0, vI x, vI y] (zP (mSave M o h 0) O) (zrI r) (zP M2 O)) : zC w mX9_send (d + 9) [vR 9 0, vI x, vI y] (zP M O) (zrI r) (zP M2 O) := by
  refine zC_of (cr := 0) (L0 := [vR 9 0, vI x, vI y]) rfl (by decide) (by decide) rfl (Nat.le_of_ble_eq_true rfl) rfl ?_
  refine g_iload_n (n := 1) dX9_send_0 rfl rfl ?_
  refine g_cSn (n := 4) (c_needTown x hx) dX9_send_1 rfl kw_X9_77 (Nat.le_of_ble_eq_true rfl) ⟨Nat.le_refl _, Nat.le_refl _⟩ ?_ rfl
  refine g_iload_n (n := 5) dX9_send_4 rfl rfl ?_
  refine g_cSn (n := 8) (c_needHouse y hy) dX9_send_5 rfl kw_X9_114 (Nat.le_of_ble_eq_true rfl) ⟨Nat.le_refl _, Nat.le_refl _⟩ ?_ rfl
  refine g_aload_n (n := 9) dX9_send_8 rfl rfl ?_
  refine gf_X9_10 (n := 12) dX9_send_9 rfl rfl (z_lvP (by first | decide | assumption)) rfl ?_
  refine gf_X9_140 (n := 15) dX9_send_12 rfl rfl (z_lvP (by first | decide | assumption)) ?_
  refine g_sipush (n := 18) dX9_send_15 rfl k_sp_9999 ?_
  refine g_icmp_lt (n := 21) (t := 31) dX9_send_18 rfl (by decide) (fun _ => ?_) (fun q9 => absurd hl q9)
  refine g_aload_n (n := 32) dX9_send_31 rfl rfl ?_
  refine gf_X9_52 (n := 35) dX9_send_32 rfl rfl (z_lvP (by first | decide | assumption)) rfl ?_
  refine g_aload_n (n := 36) dX9_send_35 rfl rfl ?_
  refine gf_X9_10 (n := 39) dX9_send_36 rfl rfl (z_lvP (by first | decide | assumption)) rfl ?_
  refine g_cVn (n := 42) (c_save9 F) dX9_send_39 rfl kw_X9_63 rfl (by decide) (z_lvP (by first | decide | assumption)) (Nat.le_of_ble_eq_true rfl) ⟨Nat.le_refl _, Nat.le_refl _⟩ ?_ rfl
  refine g_aload_n (n := 43) dX9_send_42 rfl rfl ?_
  refine g_iload_n (n := 44) dX9_send_43 rfl rfl ?_
  refine g_iload_n (n := 45) dX9_send_44 rfl rfl ?_
  refine g_cVv (n := 48) cs dX9_send_45 rfl kw_X9_146 rfl (by decide) (z_lvP (by first | decide | assumption)) (Nat.le_of_ble_eq_true rfl) ⟨Nat.le_refl _, Nat.le_refl _⟩ ?_ rfl
  exact g_ireturn dX9_send_48 rfl rfl rfl rfl
end LR

