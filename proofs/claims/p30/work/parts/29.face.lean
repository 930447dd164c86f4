/-! The face of the class: what changes the land, simple looks. -/
theorem u2_ni {α : Type} {f : Nat → Nat → α} {k i a b : Nat} {v : α} (h : b ≠ i) : u2 f k i v a b = f a b := u2_ne (fun q => h q.2)
theorem u3_nf {α : Type} {f : Nat → Nat → Nat → α} {k i j a b : Nat} {v : α} (h : b ≠ i) : u3 f k i j v a b = f a b := funext fun _ => u3_ni h
theorem u3_kf {α : Type} {f : Nat → Nat → Nat → α} {k i j a b : Nat} {v : α} (h : a ≠ k) : u3 f k i j v a b = f a b := funext fun _ => u3_nk h
theorem mCpL_ne {M : Nat → Nat → Nat → Int32} {i j k a : Nat} (h : a ≠ i) : mCpL M i j k a = M k a := by
  unfold mCpL mCpN mCpE mCpR
  simp only [u2_ni h, u3_nf h]
theorem mPut_0 {M : Nat → Nat → Nat → Int32} {i p k : Nat} (h : k ≠ 30) : mPut M i p 0 k 0 = M k 0 := by
  unfold mPut
  rw [u3_kf h]
  refine mCpL_ne ?_
  unfold z_landOf
  split <;> omega
theorem mPut_1 {M : Nat → Nat → Nat → Int32} {p k : Nat} : mPut M 1 p 0 k 0 = M k 0 := by
  unfold mPut
  rw [u3_nf (by decide)]
  refine mCpL_ne ?_
  unfold z_landOf
  split <;> omega
theorem mSave_0 {M : Nat → Nat → Nat → Int32} {o h k : Nat} (hk : k ≠ 2) : mSave M o h 0 k 0 = M k 0 := by
  unfold mSave
  split
  · rw [u3_kf hk, mPut_1]
  · rw [u3_kf hk, mPut_1]
/-- what every call of the face finds -/
def zF (M : Nat → Nat → Nat → Int32) (s o h n : Nat) : Prop := M 1 0 5 = nI s ∧ s ≤ 8 ∧ M 2 0 1 = nI o ∧ o < 6 ∧ M 2 0 2 = nI h ∧ h ≤ 6 ∧ M 8 0 1 = nI n ∧ n ≤ 60
section L2
variable {M : Nat → Nat → Nat → Int32} {s o h n : Nat}
theorem zF.hs (F : zF M s o h n) : M 1 0 5 = nI s := F.1
theorem zF.h8 (F : zF M s o h n) : s ≤ 8 := F.2.1
theorem zF.ho (F : zF M s o h n) : M 2 0 1 = nI o := F.2.2.1
theorem zF.o6 (F : zF M s o h n) : o < 6 := F.2.2.2.1
theorem zF.hh (F : zF M s o h n) : M 2 0 2 = nI h := F.2.2.2.2.1
theorem zF.h6 (F : zF M s o h n) : h ≤ 6 := F.2.2.2.2.2.1
theorem zF.hn (F : zF M s o h n) : M 8 0 1 = nI n := F.2.2.2.2.2.2.1
theorem zF.h60 (F : zF M s o h n) : n ≤ 60 := F.2.2.2.2.2.2.2
end L2
section LF
variable {w : zWp} {d s o h n : Nat} {M : Nat → Nat → Nat → Int32} {O : Nat → Int64}
theorem c_save9 (F : zF M s o h n) : zC w mX2_save (d + 5) [vR 2 0, vR 3 0] (zP M O) zrV (zP (mSave M o h 0) O) := c_save F.ho F.hh F.o6 F.h6 (by decide)
theorem mSave_s (F : zF M s o h n) : mSave M o h 0 1 0 5 = nI s := by rw [mSave_0 (by decide)]; exact F.hs
theorem t_road1 {x y z : Int32} (h : (z_ok x 8 && z_ok y 8) = false) : zC w mX9_road (d + 9) [vR 9 0, vI x, vI y, vI z] (zP M O) (zrX xIOOB) (zP M O) := by
  refine zC_of (cr := 1) (L0 := [vR 9 0, vI x, vI y, vI z]) rfl (by decide) (by decide) rfl (Nat.le_of_ble_eq_true rfl) rfl ?_
  refine g_iload_n (n := 1) dX9_road_0 rfl rfl ?_
  refine g_iload_n (n := 2) dX9_road_1 rfl rfl ?_
  exact g_cST (σ1 := (0, fun _ _ _ => false, fun _ _ _ => 0, fun _ => 0)) (t_needTwoTowns1 h) dX9_road_2 kw_X9_56 (Nat.le_of_ble_eq_true rfl) (Nat.le_refl _) rfl rfl rfl rfl
theorem t_road2 {a : Nat} {z : Int32} (ha : a < 8) : zC w mX9_road (d + 9) [vR 9 0, vI (nI a), vI (nI a), vI z] (zP M O) (zrX xIA) (zP M O) := by
  refine zC_of (cr := 1) (L0 := [vR 9 0, vI (nI a), vI (nI a), vI z]) rfl (by decide) (by decide) rfl (Nat.le_of_ble_eq_true rfl) rfl ?_
  refine g_iload_n (n := 1) dX9_road_0 rfl rfl ?_
  refine g_iload_n (n := 2) dX9_road_1 rfl rfl ?_
  exact g_cST (σ1 := (0, fun _ _ _ => false, fun _ _ _ => 0, fun _ => 0)) (t_needTwoTowns2 ha) dX9_road_2 kw_X9_56 (Nat.le_of_ble_eq_true rfl) (Nat.le_refl _) rfl rfl rfl rfl
theorem t_road3 {a b : Nat} {z : Int32} (ha : a < 8) (hb : b < 8) (hab : a ≠ b) (hz : z_ok z 100 = false) : zC w mX9_road (d + 9) [vR 9 0, vI (nI a), vI (nI b), vI z] (zP M O) (zrX xIA) (zP M O) := by
  refine zC_of (cr := 1) (L0 := [vR 9 0, vI (nI a), vI (nI b), vI z]) rfl (by decide) (by decide) rfl (Nat.le_of_ble_eq_true rfl) rfl ?_
  refine g_iload_n (n := 1) dX9_road_0 rfl rfl ?_
  refine g_iload_n (n := 2) dX9_road_1 rfl rfl ?_
  refine g_cSn (n := 5) (c_needTwoTowns ha hb hab) dX9_road_2 rfl kw_X9_56 (Nat.le_of_ble_eq_true rfl) ⟨Nat.le_refl _, Nat.le_refl _⟩ ?_ rfl
  refine g_iload_n (n := 6) dX9_road_5 rfl rfl ?_
  exact g_cST (σ1 := (0, fun _ _ _ => false, fun _ _ _ => 0, fun _ => 0)) (t_needCost z hz) dX9_road_6 kw_X9_60 (Nat.le_of_ble_eq_true rfl) (Nat.le_refl _) rfl rfl rfl rfl
theorem c_road (F : zF M s o h n) {a b c : Nat} (ha : a < 8) (hb : b < 8) (hab : a ≠ b) (hc : c ≤ 99) (hnn : ∀ j, j < 64 → 0 ≤ M 27 0 j) : zC w mX9_road (d + 9) [vR 9 0, vI (nI a), vI (nI b), vI (nI c)] (zP M O) (zrI (M 27 0 (8 * a + b))) (zP (mLay (mSave M o h 0) 0 a b (nI c)) O) := by
  have cl := c_rlay (w := w) (d := d + 5) (M := mSave M o h 0) (O := O) (i := 0) (by decide) ha hb (nI c) (nI_pos' (by omega)) (by rw [mSave_0 (by decide)]; exact hnn)
  rw [mSave_0 (k := 27) (by decide)] at cl
  refine zC_of (cr := 0) (L0 := [vR 9 0, vI (nI a), vI (nI b), vI (nI c)]) rfl (by decide) (by decide) rfl (Nat.le_of_ble_eq_true rfl) rfl ?_
  refine g_iload_n (n := 1) dX9_road_0 rfl rfl ?_
  refine g_iload_n (n := 2) dX9_road_1 rfl rfl ?_
  refine g_cSn (n := 5) (c_needTwoTowns ha hb hab) dX9_road_2 rfl kw_X9_56 (Nat.le_of_ble_eq_true rfl) ⟨Nat.le_refl _, Nat.le_refl _⟩ ?_ rfl
  refine g_iload_n (n := 6) dX9_road_5 rfl rfl ?_
  refine g_cSn (n := 9) (c_needCost (nI c) (z_ok_nI (n := 100) (by omega) (by decide))) dX9_road_6 rfl kw_X9_60 (Nat.le_of_ble_eq_true rfl) ⟨Nat.le_refl _, Nat.le_refl _⟩ ?_ rfl
  refine g_aload_n (n := 10) dX9_road_9 rfl rfl ?_
  refine gf_X9_52 (n := 13) dX9_road_10 rfl rfl (z_lvP (by first | decide | assumption)) rfl ?_
  refine g_aload_n (n := 14) dX9_road_13 rfl rfl ?_
  refine gf_X9_10 (n := 17) dX9_road_14 rfl rfl (z_lvP (by first | decide | assumption)) rfl ?_
  refine g_cVn (n := 20) (c_save9 F) dX9_road_17 rfl kw_X9_63 rfl (by decide) (z_lvP (by first | decide | assumption)) (Nat.le_of_ble_eq_true rfl) ⟨Nat.le_refl _, Nat.le_refl _⟩ ?_ rfl
  refine g_aload_n (n := 21) dX9_road_20 rfl rfl ?_
  refine gf_X9_10 (n := 24) dX9_road_21 rfl rfl (z_lvP (by first | decide | assumption)) rfl ?_
  refine gf_X9_67 (n := 27) dX9_road_24 rfl rfl (z_lvP (by first | decide | assumption)) rfl ?_
  refine g_iload_n (n := 28) dX9_road_27 rfl rfl ?_
  refine g_iload_n (n := 29) dX9_road_28 rfl rfl ?_
  refine g_iload_n (n := 30) dX9_road_29 rfl rfl ?_
  refine g_cVv (n := 33) cl dX9_road_30 rfl kw_X9_71 rfl (by decide) (z_lvP (by first | decide | assumption)) (Nat.le_of_ble_eq_true rfl) ⟨Nat.le_refl _, Nat.le_refl _⟩ ?_ rfl
  exact g_ireturn dX9_road_33 rfl rfl rfl rfl
theorem t_exit1 {x y : Int32} (h : z_ok x 8 = false) : zC w mX9_exit (d + 9) [vR 9 0, vI x, vI y] (zP M O) (zrX xIOOB) (zP M O) := by
  refine zC_of (cr := 1) (L0 := [vR 9 0, vI x, vI y]) rfl (by decide) (by decide) rfl (Nat.le_of_ble_eq_true rfl) rfl ?_
  refine g_iload_n (n := 1) dX9_exit_0 rfl rfl ?_
  exact g_cST (σ1 := (0, fun _ _ _ => false, fun _ _ _ => 0, fun _ => 0)) (t_needTown x h) dX9_exit_1 kw_X9_77 (Nat.le_of_ble_eq_true rfl) (Nat.le_refl _) rfl rfl rfl rfl
theorem t_exit2 {x y : Int32} (hx : z_ok x 8 = true) (h : z_ok y 4 = false) : zC w mX9_exit (d + 9) [vR 9 0, vI x, vI y] (zP M O) (zrX xIOOB) (zP M O) := by
  refine zC_of (cr := 1) (L0 := [vR 9 0, vI x, vI y]) rfl (by decide) (by decide) rfl (Nat.le_of_ble_eq_true rfl) rfl ?_
  refine g_iload_n (n := 1) dX9_exit_0 rfl rfl ?_
  refine g_cSn (n := 4) (c_needTown x hx) dX9_exit_1 rfl kw_X9_77 (Nat.le_of_ble_eq_true rfl) ⟨Nat.le_refl _, Nat.le_refl _⟩ ?_ rfl
  refine g_iload_n (n := 5) dX9_exit_4 rfl rfl ?_
  exact g_cST (σ1 := (0, fun _ _ _ => false, fun _ _ _ => 0, fun _ => 0)) (t_needNeighbour y h) dX9_exit_5 kw_X9_80 (Nat.le_of_ble_eq_true rfl) (Nat.le_refl _) rfl rfl rfl rfl
theorem t_exit3 {x y : Int32} (hx : z_ok x 8 = true) (hy : z_ok y 4 = true) (hs : M 1 0 5 = nI 8) : zC w mX9_exit (d + 9) [vR 9 0, vI x, vI y] (zP M O) (zrX xIS) (zP M O) := by
  have cf := c_xfull (w := w) (d := d + 8) (O := O) (i := 0) (by decide) hs (by decide)
  refine zC_of (cr := 1) (L0 := [vR 9 0, vI x, vI y]) rfl (by decide) (by decide) rfl (Nat.le_of_ble_eq_true rfl) rfl ?_
  refine g_iload_n (n := 1) dX9_exit_0 rfl rfl ?_
  refine g_cSn (n := 4) (c_needTown x hx) dX9_exit_1 rfl kw_X9_77 (Nat.le_of_ble_eq_true rfl) ⟨Nat.le_refl _, Nat.le_refl _⟩ ?_ rfl
  refine g_iload_n (n := 5) dX9_exit_4 rfl rfl ?_
  refine g_cSn (n := 8) (c_needNeighbour y hy) dX9_exit_5 rfl kw_X9_80 (Nat.le_of_ble_eq_true rfl) ⟨Nat.le_refl _, Nat.le_refl _⟩ ?_ rfl
  refine g_aload_n (n := 9) dX9_exit_8 rfl rfl ?_
  refine gf_X9_10 (n := 12) dX9_exit_9 rfl rfl (z_lvP (by first | decide | assumption)) rfl ?_
  refine gf_X9_83 (n := 15) dX9_exit_12 rfl rfl (z_lvP (by first | decide | assumption)) rfl ?_
  refine g_cVv (n := 18) cf dX9_exit_15 rfl kw_X9_87 rfl (by decide) (z_lvP (by first | decide | assumption)) (Nat.le_of_ble_eq_true rfl) ⟨Nat.le_refl _, Nat.le_refl _⟩ ?_ rfl
  refine g_if_eq (n := 21) (t := 31) dX9_exit_18 rfl (by decide) (fun q9 => absurd q9 (by decide)) (fun _ => ?_)
  exact g_thr (q := z_exs[2]) (is := 95) (sa := 0) (text := "there are 8 exits") (List.getElem_mem _) rfl rfl (by decide +kernel) (by omega) (Nat.le_of_ble_eq_true rfl) dX9_exit_21 dX9_exit_24 dX9_exit_25 dX9_exit_27 dX9_exit_30 rfl rfl rfl
theorem c_exit (F : zF M s o h n) {x y : Int32} (hx : z_ok x 8 = true) (hy : z_ok y 4 = true) (hs : s < 8) : zC w mX9_exit (d + 9) [vR 9 0, vI x, vI y] (zP M O) (zrI (nI s)) (zP (u3 (u3 (u3 (u3 (mSave M o h 0) 13 0 s x) 14 0 s y) 15 0 s (nI 1)) 1 0 5 (nI (s + 1))) O) := by
  have cf := c_xfull (w := w) (d := d + 8) (O := O) (i := 0) (by decide) F.hs F.h8
  rw [decide_eq_false (by omega)] at cf
  have ca := c_xadd (w := w) (d := d + 8) (M := mSave M o h 0) (O := O) (i := 0) (by decide) (mSave_s F) hs x y
  refine zC_of (cr := 0) (L0 := [vR 9 0, vI x, vI y]) rfl (by decide) (by decide) rfl (Nat.le_of_ble_eq_true rfl) rfl ?_
  refine g_iload_n (n := 1) dX9_exit_0 rfl rfl ?_
  refine g_cSn (n := 4) (c_needTown x hx) dX9_exit_1 rfl kw_X9_77 (Nat.le_of_ble_eq_true rfl) ⟨Nat.le_refl _, Nat.le_refl _⟩ ?_ rfl
  refine g_iload_n (n := 5) dX9_exit_4 rfl rfl ?_
  refine g_cSn (n := 8) (c_needNeighbour y hy) dX9_exit_5 rfl kw_X9_80 (Nat.le_of_ble_eq_true rfl) ⟨Nat.le_refl _, Nat.le_refl _⟩ ?_ rfl
  refine g_aload_n (n := 9) dX9_exit_8 rfl rfl ?_
  refine gf_X9_10 (n := 12) dX9_exit_9 rfl rfl (z_lvP (by first | decide | assumption)) rfl ?_
  refine gf_X9_83 (n := 15) dX9_exit_12 rfl rfl (z_lvP (by first | decide | assumption)) rfl ?_
  refine g_cVv (n := 18) cf dX9_exit_15 rfl kw_X9_87 rfl (by decide) (z_lvP (by first | decide | assumption)) (Nat.le_of_ble_eq_true rfl) ⟨Nat.le_refl _, Nat.le_refl _⟩ ?_ rfl
  refine g_if_eq (n := 21) (t := 31) dX9_exit_18 rfl (by decide) (fun _ => ?_) (fun q9 => absurd rfl q9)
  refine g_aload_n (n := 32) dX9_exit_31 rfl rfl ?_
  refine gf_X9_52 (n := 35) dX9_exit_32 rfl rfl (z_lvP (by first | decide | assumption)) rfl ?_
  refine g_aload_n (n := 36) dX9_exit_35 rfl rfl ?_
  refine gf_X9_10 (n := 39) dX9_exit_36 rfl rfl (z_lvP (by first | decide | assumption)) rfl ?_
  refine g_cVn (n := 42) (c_save9 F) dX9_exit_39 rfl kw_X9_63 rfl (by decide) (z_lvP (by first | decide | assumption)) (Nat.le_of_ble_eq_true rfl) ⟨Nat.le_refl _, Nat.le_refl _⟩ ?_ rfl
  refine g_aload_n (n := 43) dX9_exit_42 rfl rfl ?_
  refine gf_X9_10 (n := 46) dX9_exit_43 rfl rfl (z_lvP (by first | decide | assumption)) rfl ?_
  refine gf_X9_83 (n := 49) dX9_exit_46 rfl rfl (z_lvP (by first | decide | assumption)) rfl ?_
  refine g_iload_n (n := 50) dX9_exit_49 rfl rfl ?_
  refine g_iload_n (n := 51) dX9_exit_50 rfl rfl ?_
  refine g_cVv (n := 54) ca dX9_exit_51 rfl kw_X9_100 rfl (by decide) (z_lvP (by first | decide | assumption)) (Nat.le_of_ble_eq_true rfl) ⟨Nat.le_refl _, Nat.le_refl _⟩ ?_ rfl
  exact g_ireturn dX9_exit_54 rfl rfl rfl rfl
theorem t_turn (F : zF M s o h n) {x : Int32} (hx : z_ok x s = false) : zC w mX9_turn (d + 9) [vR 9 0, vI x] (zP M O) (zrX xIOOB) (zP M O) := by
  refine zC_of (cr := 1) (L0 := [vR 9 0, vI x]) rfl (by decide) (by decide) rfl (Nat.le_of_ble_eq_true rfl) rfl ?_
  refine g_aload_n (n := 1) dX9_turn_0 rfl rfl ?_
  refine g_iload_n (n := 2) dX9_turn_1 rfl rfl ?_
  exact g_cVT (σ1 := (0, fun _ _ _ => false, fun _ _ _ => 0, fun _ => 0)) (t_needExit F.hs F.h8 x hx) dX9_turn_2 kw_X9_104 rfl (by decide) (z_lvP (by first | decide | assumption)) (Nat.le_of_ble_eq_true rfl) (Nat.le_refl _) rfl rfl rfl rfl
theorem c_turn (F : zF M s o h n) {e : Nat} (he : e < s) : zC w mX9_turn (d + 9) [vR 9 0, vI (nI e)] (zP M O) (zrI (zb (decide (nI 1 - M 15 0 e = nI 1)))) (zP (u3 (mSave M o h 0) 15 0 e (nI 1 - M 15 0 e)) O) := by
  have h8 := F.h8
  have cf := c_xflip (w := w) (d := d + 7) (M := mSave M o h 0) (O := O) (i := 0) (by decide) (mSave_s F) h8 he
  rw [mSave_0 (k := 15) (by decide)] at cf
  have ci := c_xisOpen (w := w) (d := d + 7) (M := u3 (mSave M o h 0) 15 0 e (nI 1 - M 15 0 e)) (O := O) (i := 0) (by decide) (mSave_s F) h8 (nI e)
  rw [xg_nI he (by omega), u3_self] at ci
  cases hb : decide (nI 1 - M 15 0 e = nI 1)
  · rw [hb] at ci
    refine zC_of (cr := 0) (L0 := [vR 9 0, vI (nI e)]) rfl (by decide) (by decide) rfl (Nat.le_of_ble_eq_true rfl) rfl ?_
    refine g_aload_n (n := 1) dX9_turn_0 rfl rfl ?_
    refine g_iload_n (n := 2) dX9_turn_1 rfl rfl ?_
    refine g_cVn (n := 5) (c_needExit F.hs h8 (nI e) (z_ok_nI he (by omega))) dX9_turn_2 rfl kw_X9_104 rfl (by decide) (z_lvP (by first | decide | assumption)) (Nat.le_of_ble_eq_true rfl) ⟨Nat.le_refl _, Nat.le_refl _⟩ ?_ rfl
    refine g_aload_n (n := 6) dX9_turn_5 rfl rfl ?_
    refine gf_X9_52 (n := 9) dX9_turn_6 rfl rfl (z_lvP (by first | decide | assumption)) rfl ?_
    refine g_aload_n (n := 10) dX9_turn_9 rfl rfl ?_
    refine gf_X9_10 (n := 13) dX9_turn_10 rfl rfl (z_lvP (by first | decide | assumption)) rfl ?_
    refine g_cVn (n := 16) (c_save9 F) dX9_turn_13 rfl kw_X9_63 rfl (by decide) (z_lvP (by first | decide | assumption)) (Nat.le_of_ble_eq_true rfl) ⟨Nat.le_refl _, Nat.le_refl _⟩ ?_ rfl
    refine g_aload_n (n := 17) dX9_turn_16 rfl rfl ?_
    refine gf_X9_10 (n := 20) dX9_turn_17 rfl rfl (z_lvP (by first | decide | assumption)) rfl ?_
    refine gf_X9_83 (n := 23) dX9_turn_20 rfl rfl (z_lvP (by first | decide | assumption)) rfl ?_
    refine g_iload_n (n := 24) dX9_turn_23 rfl rfl ?_
    refine g_cVn (n := 27) cf dX9_turn_24 rfl kw_X9_107 rfl (by decide) (z_lvP (by first | decide | assumption)) (Nat.le_of_ble_eq_true rfl) ⟨Nat.le_refl _, Nat.le_refl _⟩ ?_ rfl
    refine g_aload_n (n := 28) dX9_turn_27 rfl rfl ?_
    refine gf_X9_10 (n := 31) dX9_turn_28 rfl rfl (z_lvP (by first | decide | assumption)) rfl ?_
    refine gf_X9_83 (n := 34) dX9_turn_31 rfl rfl (z_lvP (by first | decide | assumption)) rfl ?_
    refine g_iload_n (n := 35) dX9_turn_34 rfl rfl ?_
    refine g_cVv (n := 38) ci dX9_turn_35 rfl kw_X9_110 rfl (by decide) (z_lvP (by first | decide | assumption)) (Nat.le_of_ble_eq_true rfl) ⟨Nat.le_refl _, Nat.le_refl _⟩ ?_ rfl
    refine g_if_eq (n := 41) (t := 45) dX9_turn_38 rfl (by decide) (fun _ => ?_) (fun q9 => absurd rfl q9)
    refine g_iconst (n := 46) dX9_turn_45 rfl k_ic_0 ?_
    exact g_ireturn dX9_turn_46 rfl rfl rfl rfl
  · rw [hb] at ci
    refine zC_of (cr := 0) (L0 := [vR 9 0, vI (nI e)]) rfl (by decide) (by decide) rfl (Nat.le_of_ble_eq_true rfl) rfl ?_
    refine g_aload_n (n := 1) dX9_turn_0 rfl rfl ?_
    refine g_iload_n (n := 2) dX9_turn_1 rfl rfl ?_
    refine g_cVn (n := 5) (c_needExit F.hs h8 (nI e) (z_ok_nI he (by omega))) dX9_turn_2 rfl kw_X9_104 rfl (by decide) (z_lvP (by first | decide | assumption)) (Nat.le_of_ble_eq_true rfl) ⟨Nat.le_refl _, Nat.le_refl _⟩ ?_ rfl
    refine g_aload_n (n := 6) dX9_turn_5 rfl rfl ?_
    refine gf_X9_52 (n := 9) dX9_turn_6 rfl rfl (z_lvP (by first | decide | assumption)) rfl ?_
    refine g_aload_n (n := 10) dX9_turn_9 rfl rfl ?_
    refine gf_X9_10 (n := 13) dX9_turn_10 rfl rfl (z_lvP (by first | decide | assumption)) rfl ?_
    refine g_cVn (n := 16) (c_save9 F) dX9_turn_13 rfl kw_X9_63 rfl (by decide) (z_lvP (by first | decide | assumption)) (Nat.le_of_ble_eq_true rfl) ⟨Nat.le_refl _, Nat.le_refl _⟩ ?_ rfl
    refine g_aload_n (n := 17) dX9_turn_16 rfl rfl ?_
    refine gf_X9_10 (n := 20) dX9_turn_17 rfl rfl (z_lvP (by first | decide | assumption)) rfl ?_
    refine gf_X9_83 (n := 23) dX9_turn_20 rfl rfl (z_lvP (by first | decide | assumption)) rfl ?_
    refine g_iload_n (n := 24) dX9_turn_23 rfl rfl ?_
    refine g_cVn (n := 27) cf dX9_turn_24 rfl kw_X9_107 rfl (by decide) (z_lvP (by first | decide | assumption)) (Nat.le_of_ble_eq_true rfl) ⟨Nat.le_refl _, Nat.le_refl _⟩ ?_ rfl
    refine g_aload_n (n := 28) dX9_turn_27 rfl rfl ?_
    refine gf_X9_10 (n := 31) dX9_turn_28 rfl rfl (z_lvP (by first | decide | assumption)) rfl ?_
    refine gf_X9_83 (n := 34) dX9_turn_31 rfl rfl (z_lvP (by first | decide | assumption)) rfl ?_
    refine g_iload_n (n := 35) dX9_turn_34 rfl rfl ?_
    refine g_cVv (n := 38) ci dX9_turn_35 rfl kw_X9_110 rfl (by decide) (z_lvP (by first | decide | assumption)) (Nat.le_of_ble_eq_true rfl) ⟨Nat.le_refl _, Nat.le_refl _⟩ ?_ rfl
    refine g_if_eq (n := 41) (t := 45) dX9_turn_38 rfl (by decide) (fun q9 => absurd q9 (by decide)) (fun _ => ?_)
    refine g_iconst (n := 42) dX9_turn_41 rfl k_ic_1 ?_
    refine g_goto (n := 0) (t := 46) dX9_turn_42 (by decide) ?_
    exact g_ireturn dX9_turn_46 rfl rfl rfl rfl
theorem t_offer1 {x y z : Int32} (h : z_ok x 4 = false) : zC w mX9_offer (d + 9) [vR 9 0, vI x, vI y, vI z] (zP M O) (zrX xIOOB) (zP M O) := by
  refine zC_of (cr := 1) (L0 := [vR 9 0, vI x, vI y, vI z]) rfl (by decide) (by decide) rfl (Nat.le_of_ble_eq_true rfl) rfl ?_
  refine g_iload_n (n := 1) dX9_offer_0 rfl rfl ?_
  exact g_cST (σ1 := (0, fun _ _ _ => false, fun _ _ _ => 0, fun _ => 0)) (t_needNeighbour x h) dX9_offer_1 kw_X9_80 (Nat.le_of_ble_eq_true rfl) (Nat.le_refl _) rfl rfl rfl rfl
theorem t_offer2 {x y z : Int32} (hx : z_ok x 4 = true) (h : z_ok y 4 = false) : zC w mX9_offer (d + 9) [vR 9 0, vI x, vI y, vI z] (zP M O) (zrX xIOOB) (zP M O) := by
  refine zC_of (cr := 1) (L0 := [vR 9 0, vI x, vI y, vI z]) rfl (by decide) (by decide) rfl (Nat.le_of_ble_eq_true rfl) rfl ?_
  refine g_iload_n (n := 1) dX9_offer_0 rfl rfl ?_
  refine g_cSn (n := 4) (c_needNeighbour x hx) dX9_offer_1 rfl kw_X9_80 (Nat.le_of_ble_eq_true rfl) ⟨Nat.le_refl _, Nat.le_refl _⟩ ?_ rfl
  refine g_iload_n (n := 5) dX9_offer_4 rfl rfl ?_
  exact g_cST (σ1 := (0, fun _ _ _ => false, fun _ _ _ => 0, fun _ => 0)) (t_needHouse y h) dX9_offer_5 kw_X9_114 (Nat.le_of_ble_eq_true rfl) (Nat.le_refl _) rfl rfl rfl rfl
theorem t_offer3 {x y z : Int32} (hx : z_ok x 4 = true) (hy : z_ok y 4 = true) (h : z_ok z 10 = false) : zC w mX9_offer (d + 9) [vR 9 0, vI x, vI y, vI z] (zP M O) (zrX xIA) (zP M O) := by
  refine zC_of (cr := 1) (L0 := [vR 9 0, vI x, vI y, vI z]) rfl (by decide) (by decide) rfl (Nat.le_of_ble_eq_true rfl) rfl ?_
  refine g_iload_n (n := 1) dX9_offer_0 rfl rfl ?_
  refine g_cSn (n := 4) (c_needNeighbour x hx) dX9_offer_1 rfl kw_X9_80 (Nat.le_of_ble_eq_true rfl) ⟨Nat.le_refl _, Nat.le_refl _⟩ ?_ rfl
  refine g_iload_n (n := 5) dX9_offer_4 rfl rfl ?_
  refine g_cSn (n := 8) (c_needHouse y hy) dX9_offer_5 rfl kw_X9_114 (Nat.le_of_ble_eq_true rfl) ⟨Nat.le_refl _, Nat.le_refl _⟩ ?_ rfl
  refine g_iload_n (n := 9) dX9_offer_8 rfl rfl ?_
  refine g_bipush (n := 11) dX9_offer_9 rfl k_bp_9 ?_
  exact g_cST (σ1 := (0, fun _ _ _ => false, fun _ _ _ => 0, fun _ => 0)) (t_needFromZero (g := 9) z h (by decide)) dX9_offer_11 kw_X9_117 (Nat.le_of_ble_eq_true rfl) (Nat.le_refl _) rfl rfl rfl rfl
theorem c_offer (F : zF M s o h n) {a b : Nat} {z : Int32} (ha : a < 4) (hb : b < 4) (hz : z_ok z 10 = true) : zC w mX9_offer (d + 9) [vR 9 0, vI (nI a), vI (nI b), vI z] (zP M O) (zrI (M 22 0 (4 * a + b))) (zP (u3 (mSave M o h 0) 22 0 (4 * a + b) z) O) := by
  have cl := c_nchLen (w := w) (d := d + 6) (M := mSave M o h 0) (O := O) (i := 0) (by decide) ha hb z
  rw [mSave_0 (k := 22) (by decide)] at cl
  refine zC_of (cr := 0) (L0 := [vR 9 0, vI (nI a), vI (nI b), vI z]) rfl (by decide) (by decide) rfl (Nat.le_of_ble_eq_true rfl) rfl ?_
  refine g_iload_n (n := 1) dX9_offer_0 rfl rfl ?_
  refine g_cSn (n := 4) (c_needNeighbour (nI a) (z_ok_nI ha (by decide))) dX9_offer_1 rfl kw_X9_80 (Nat.le_of_ble_eq_true rfl) ⟨Nat.le_refl _, Nat.le_refl _⟩ ?_ rfl
  refine g_iload_n (n := 5) dX9_offer_4 rfl rfl ?_
  refine g_cSn (n := 8) (c_needHouse (nI b) (z_ok_nI hb (by decide))) dX9_offer_5 rfl kw_X9_114 (Nat.le_of_ble_eq_true rfl) ⟨Nat.le_refl _, Nat.le_refl _⟩ ?_ rfl
  refine g_iload_n (n := 9) dX9_offer_8 rfl rfl ?_
  refine g_bipush (n := 11) dX9_offer_9 rfl k_bp_9 ?_
  refine g_cSn (n := 14) (c_needFromZero (g := 9) z hz (by decide)) dX9_offer_11 rfl kw_X9_117 (Nat.le_of_ble_eq_true rfl) ⟨Nat.le_refl _, Nat.le_refl _⟩ ?_ rfl
  refine g_aload_n (n := 15) dX9_offer_14 rfl rfl ?_
  refine gf_X9_52 (n := 18) dX9_offer_15 rfl rfl (z_lvP (by first | decide | assumption)) rfl ?_
  refine g_aload_n (n := 19) dX9_offer_18 rfl rfl ?_
  refine gf_X9_10 (n := 22) dX9_offer_19 rfl rfl (z_lvP (by first | decide | assumption)) rfl ?_
  refine g_cVn (n := 25) (c_save9 F) dX9_offer_22 rfl kw_X9_63 rfl (by decide) (z_lvP (by first | decide | assumption)) (Nat.le_of_ble_eq_true rfl) ⟨Nat.le_refl _, Nat.le_refl _⟩ ?_ rfl
  refine g_aload_n (n := 26) dX9_offer_25 rfl rfl ?_
  refine gf_X9_10 (n := 29) dX9_offer_26 rfl rfl (z_lvP (by first | decide | assumption)) rfl ?_
  refine gf_X9_120 (n := 32) dX9_offer_29 rfl rfl (z_lvP (by first | decide | assumption)) rfl ?_
  refine g_iload_n (n := 33) dX9_offer_32 rfl rfl ?_
  refine g_iload_n (n := 34) dX9_offer_33 rfl rfl ?_
  refine g_iload_n (n := 35) dX9_offer_34 rfl rfl ?_
  refine g_cVv (n := 38) cl dX9_offer_35 rfl kw_X9_124 rfl (by decide) (z_lvP (by first | decide | assumption)) (Nat.le_of_ble_eq_true rfl) ⟨Nat.le_refl _, Nat.le_refl _⟩ ?_ rfl
  exact g_ireturn dX9_offer_38 rfl rfl rfl rfl
theorem t_bound1 {x y : Int32} (h : z_ok x 4 = false) : zC w mX9_bound (d + 9) [vR 9 0, vI x, vI y] (zP M O) (zrX xIOOB) (zP M O) := by
  refine zC_of (cr := 1) (L0 := [vR 9 0, vI x, vI y]) rfl (by decide) (by decide) rfl (Nat.le_of_ble_eq_true rfl) rfl ?_
  refine g_iload_n (n := 1) dX9_bound_0 rfl rfl ?_
  exact g_cST (σ1 := (0, fun _ _ _ => false, fun _ _ _ => 0, fun _ => 0)) (t_needNeighbour x h) dX9_bound_1 kw_X9_80 (Nat.le_of_ble_eq_true rfl) (Nat.le_refl _) rfl rfl rfl rfl
theorem t_bound2 {x y : Int32} (hx : z_ok x 4 = true) (h : z_ok y 100 = false) : zC w mX9_bound (d + 9) [vR 9 0, vI x, vI y] (zP M O) (zrX xIA) (zP M O) := by
  refine zC_of (cr := 1) (L0 := [vR 9 0, vI x, vI y]) rfl (by decide) (by decide) rfl (Nat.le_of_ble_eq_true rfl) rfl ?_
  refine g_iload_n (n := 1) dX9_bound_0 rfl rfl ?_
  refine g_cSn (n := 4) (c_needNeighbour x hx) dX9_bound_1 rfl kw_X9_80 (Nat.le_of_ble_eq_true rfl) ⟨Nat.le_refl _, Nat.le_refl _⟩ ?_ rfl
  refine g_iload_n (n := 5) dX9_bound_4 rfl rfl ?_
  refine g_bipush (n := 7) dX9_bound_5 rfl k_bp_99 ?_
  exact g_cST (σ1 := (0, fun _ _ _ => false, fun _ _ _ => 0, fun _ => 0)) (t_needFromZero (g := 99) y h (by decide)) dX9_bound_7 kw_X9_117 (Nat.le_of_ble_eq_true rfl) (Nat.le_refl _) rfl rfl rfl rfl
theorem c_bound (F : zF M s o h n) {a : Nat} {z : Int32} (ha : a < 4) (hz : z_ok z 100 = true) : zC w mX9_bound (d + 9) [vR 9 0, vI (nI a), vI z] (zP M O) (zrI (M 23 0 a)) (zP (u3 (mSave M o h 0) 23 0 a z) O) := by
  have cl := c_nchBound (w := w) (d := d + 6) (M := mSave M o h 0) (O := O) (i := 0) (by decide) ha z
  rw [mSave_0 (k := 23) (by decide)] at cl
  refine zC_of (cr := 0) (L0 := [vR 9 0, vI (nI a), vI z]) rfl (by decide) (by decide) rfl (Nat.le_of_ble_eq_true rfl) rfl ?_
  refine g_iload_n (n := 1) dX9_bound_0 rfl rfl ?_
  refine g_cSn (n := 4) (c_needNeighbour (nI a) (z_ok_nI ha (by decide))) dX9_bound_1 rfl kw_X9_80 (Nat.le_of_ble_eq_true rfl) ⟨Nat.le_refl _, Nat.le_refl _⟩ ?_ rfl
  refine g_iload_n (n := 5) dX9_bound_4 rfl rfl ?_
  refine g_bipush (n := 7) dX9_bound_5 rfl k_bp_99 ?_
  refine g_cSn (n := 10) (c_needFromZero (g := 99) z hz (by decide)) dX9_bound_7 rfl kw_X9_117 (Nat.le_of_ble_eq_true rfl) ⟨Nat.le_refl _, Nat.le_refl _⟩ ?_ rfl
  refine g_aload_n (n := 11) dX9_bound_10 rfl rfl ?_
  refine gf_X9_52 (n := 14) dX9_bound_11 rfl rfl (z_lvP (by first | decide | assumption)) rfl ?_
  refine g_aload_n (n := 15) dX9_bound_14 rfl rfl ?_
  refine gf_X9_10 (n := 18) dX9_bound_15 rfl rfl (z_lvP (by first | decide | assumption)) rfl ?_
  refine g_cVn (n := 21) (c_save9 F) dX9_bound_18 rfl kw_X9_63 rfl (by decide) (z_lvP (by first | decide | assumption)) (Nat.le_of_ble_eq_true rfl) ⟨Nat.le_refl _, Nat.le_refl _⟩ ?_ rfl
  refine g_aload_n (n := 22) dX9_bound_21 rfl rfl ?_
  refine gf_X9_10 (n := 25) dX9_bound_22 rfl rfl (z_lvP (by first | decide | assumption)) rfl ?_
  refine gf_X9_120 (n := 28) dX9_bound_25 rfl rfl (z_lvP (by first | decide | assumption)) rfl ?_
  refine g_iload_n (n := 29) dX9_bound_28 rfl rfl ?_
  refine g_iload_n (n := 30) dX9_bound_29 rfl rfl ?_
  refine g_cVv (n := 33) cl dX9_bound_30 rfl kw_X9_129 rfl (by decide) (z_lvP (by first | decide | assumption)) (Nat.le_of_ble_eq_true rfl) ⟨Nat.le_refl _, Nat.le_refl _⟩ ?_ rfl
  exact g_ireturn dX9_bound_33 rfl rfl rfl rfl
theorem t_set1 {x y : Int32} (h : z_ok x 2 = false) : zC w mX9_set (d + 9) [vR 9 0, vI x, vI y] (zP M O) (zrX xIOOB) (zP M O) := by
  refine zC_of (cr := 1) (L0 := [vR 9 0, vI x, vI y]) rfl (by decide) (by decide) rfl (Nat.le_of_ble_eq_true rfl) rfl ?_
  refine g_iload_n (n := 1) dX9_set_0 rfl rfl ?_
  refine g_if_lt (n := 4) (t := 9) dX9_set_1 rfl (by decide) (fun c1 => ?_) (fun c1 => ?_)
  · exact g_thr (q := z_exs[1]) (is := 134) (sa := 0) (text := "no such setting") (List.getElem_mem _) rfl rfl (by decide +kernel) (by omega) (Nat.le_of_ble_eq_true rfl) dX9_set_9 dX9_set_12 dX9_set_13 dX9_set_15 dX9_set_18 rfl rfl rfl
  · refine g_iload_n (n := 5) dX9_set_4 rfl rfl ?_
    refine g_iconst (n := 6) dX9_set_5 rfl k_ic_2 ?_
    refine g_icmp_lt (n := 9) (t := 19) dX9_set_6 rfl (by decide) (fun c6 => ?_) (fun c6 => ?_)
    · rw [z_ok_in c1 (Int32.not_le.mpr c6)] at h
      cases h
    · exact g_thr (q := z_exs[1]) (is := 134) (sa := 0) (text := "no such setting") (List.getElem_mem _) rfl rfl (by decide +kernel) (by omega) (Nat.le_of_ble_eq_true rfl) dX9_set_9 dX9_set_12 dX9_set_13 dX9_set_15 dX9_set_18 rfl rfl rfl
theorem t_set2 {a : Nat} {y : Int32} (ha : a < 2) (h : z_ok y 2 = false) : zC w mX9_set (d + 9) [vR 9 0, vI (nI a), vI y] (zP M O) (zrX xIA) (zP M O) := by
  refine zC_of (cr := 1) (L0 := [vR 9 0, vI (nI a), vI y]) rfl (by decide) (by decide) rfl (Nat.le_of_ble_eq_true rfl) rfl ?_
  refine g_iload_n (n := 1) dX9_set_0 rfl rfl ?_
  refine g_if_lt (n := 4) (t := 9) dX9_set_1 rfl (by decide) (fun q9 => absurd q9 (nI_pos (by omega))) (fun _ => ?_)
  refine g_iload_n (n := 5) dX9_set_4 rfl rfl ?_
  refine g_iconst (n := 6) dX9_set_5 rfl k_ic_2 ?_
  refine g_icmp_lt (n := 9) (t := 19) dX9_set_6 rfl (by decide) (fun _ => ?_) (fun q9 => absurd (nI_lt (b := 2) ha (by decide)) q9)
  refine g_iload_n (n := 20) dX9_set_19 rfl rfl ?_
  refine g_iconst (n := 21) dX9_set_20 rfl k_ic_1 ?_
  exact g_cST (σ1 := (0, fun _ _ _ => false, fun _ _ _ => 0, fun _ => 0)) (t_needFromZero (g := 1) y h (by decide)) dX9_set_21 kw_X9_117 (Nat.le_of_ble_eq_true rfl) (Nat.le_refl _) rfl rfl rfl rfl
theorem c_set (F : zF M s o h n) {a : Nat} {z : Int32} (ha : a < 2) (hz : z_ok z 2 = true) : zC w mX9_set (d + 9) [vR 9 0, vI (nI a), vI z] (zP M O) (zrI (M 18 0 a)) (zP (u3 (mSave M o h 0) 18 0 a z) O) := by
  have cl := c_chSetting (w := w) (d := d + 7) (M := mSave M o h 0) (O := O) (i := 0) (by decide) ha z
  rw [mSave_0 (k := 18) (by decide)] at cl
  refine zC_of (cr := 0) (L0 := [vR 9 0, vI (nI a), vI z]) rfl (by decide) (by decide) rfl (Nat.le_of_ble_eq_true rfl) rfl ?_
  refine g_iload_n (n := 1) dX9_set_0 rfl rfl ?_
  refine g_if_lt (n := 4) (t := 9) dX9_set_1 rfl (by decide) (fun q9 => absurd q9 (nI_pos (by omega))) (fun _ => ?_)
  refine g_iload_n (n := 5) dX9_set_4 rfl rfl ?_
  refine g_iconst (n := 6) dX9_set_5 rfl k_ic_2 ?_
  refine g_icmp_lt (n := 9) (t := 19) dX9_set_6 rfl (by decide) (fun _ => ?_) (fun q9 => absurd (nI_lt (b := 2) ha (by decide)) q9)
  refine g_iload_n (n := 20) dX9_set_19 rfl rfl ?_
  refine g_iconst (n := 21) dX9_set_20 rfl k_ic_1 ?_
  refine g_cSn (n := 24) (c_needFromZero (g := 1) z hz (by decide)) dX9_set_21 rfl kw_X9_117 (Nat.le_of_ble_eq_true rfl) ⟨Nat.le_refl _, Nat.le_refl _⟩ ?_ rfl
  refine g_aload_n (n := 25) dX9_set_24 rfl rfl ?_
  refine gf_X9_52 (n := 28) dX9_set_25 rfl rfl (z_lvP (by first | decide | assumption)) rfl ?_
  refine g_aload_n (n := 29) dX9_set_28 rfl rfl ?_
  refine gf_X9_10 (n := 32) dX9_set_29 rfl rfl (z_lvP (by first | decide | assumption)) rfl ?_
  refine g_cVn (n := 35) (c_save9 F) dX9_set_32 rfl kw_X9_63 rfl (by decide) (z_lvP (by first | decide | assumption)) (Nat.le_of_ble_eq_true rfl) ⟨Nat.le_refl _, Nat.le_refl _⟩ ?_ rfl
  refine g_aload_n (n := 36) dX9_set_35 rfl rfl ?_
  refine gf_X9_10 (n := 39) dX9_set_36 rfl rfl (z_lvP (by first | decide | assumption)) rfl ?_
  refine g_iload_n (n := 40) dX9_set_39 rfl rfl ?_
  refine g_iload_n (n := 41) dX9_set_40 rfl rfl ?_
  refine g_cVv (n := 44) cl dX9_set_41 rfl kw_X9_137 rfl (by decide) (z_lvP (by first | decide | assumption)) (Nat.le_of_ble_eq_true rfl) ⟨Nat.le_refl _, Nat.le_refl _⟩ ?_ rfl
  exact g_ireturn dX9_set_44 rfl rfl rfl rfl
theorem c_settle (F : zF M s o h n) : zC w mX9_settle (d + 9) [vR 9 0] (zP M O) (zrI (sm (M 25 0) 4)) (zP (u2 (u2 (mSave M o h 0) 25 0 (xfl (fun _ => nI 0) (M 25 0) 4)) 24 0 (xfl (fun _ => nI 0) (M 24 0) 4)) O) := by
  have cl := c_nanew (w := w) (d := d + 8) (M := mSave M o h 0) (O := O) (i := 0) (by decide)
  rw [mSave_0 (k := 25) (by decide), mSave_0 (k := 24) (by decide)] at cl
  refine zC_of (cr := 0) (L0 := [vR 9 0]) rfl (by decide) (by decide) rfl (Nat.le_of_ble_eq_true rfl) rfl ?_
  refine g_aload_n (n := 1) dX9_settle_0 rfl rfl ?_
  refine gf_X9_52 (n := 4) dX9_settle_1 rfl rfl (z_lvP (by first | decide | assumption)) rfl ?_
  refine g_aload_n (n := 5) dX9_settle_4 rfl rfl ?_
  refine gf_X9_10 (n := 8) dX9_settle_5 rfl rfl (z_lvP (by first | decide | assumption)) rfl ?_
  refine g_cVn (n := 11) (c_save9 F) dX9_settle_8 rfl kw_X9_63 rfl (by decide) (z_lvP (by first | decide | assumption)) (Nat.le_of_ble_eq_true rfl) ⟨Nat.le_refl _, Nat.le_refl _⟩ ?_ rfl
  refine g_aload_n (n := 12) dX9_settle_11 rfl rfl ?_
  refine gf_X9_10 (n := 15) dX9_settle_12 rfl rfl (z_lvP (by first | decide | assumption)) rfl ?_
  refine gf_X9_120 (n := 18) dX9_settle_15 rfl rfl (z_lvP (by first | decide | assumption)) rfl ?_
  refine g_cVv (n := 21) cl dX9_settle_18 rfl kw_X9_149 rfl (by decide) (z_lvP (by first | decide | assumption)) (Nat.le_of_ble_eq_true rfl) ⟨Nat.le_refl _, Nat.le_refl _⟩ ?_ rfl
  exact g_ireturn dX9_settle_21 rfl rfl rfl rfl
theorem t_append1 {x : Int32} (h : tIn x (nI 33) (nI 126) = false) : zC w mX9_append (d + 9) [vR 9 0, vI x] (zP M O) (zrX xIA) (zP M O) := by
  refine zC_of (cr := 1) (L0 := [vR 9 0, vI x]) rfl (by decide) (by decide) rfl (Nat.le_of_ble_eq_true rfl) rfl ?_
  refine g_iload_n (n := 1) dX9_append_0 rfl rfl ?_
  refine g_bipush (n := 3) dX9_append_1 rfl k_bp_33 ?_
  refine g_icmp_lt (n := 6) (t := 12) dX9_append_3 rfl (by decide) (fun c3 => ?_) (fun c3 => ?_)
  · exact g_thr (q := z_exs[0]) (is := 155) (sa := 0) (text := "the code is not 33 to 126") (List.getElem_mem _) rfl rfl (by decide +kernel) (by omega) (Nat.le_of_ble_eq_true rfl) dX9_append_12 dX9_append_15 dX9_append_16 dX9_append_18 dX9_append_21 rfl rfl rfl
  · refine g_iload_n (n := 7) dX9_append_6 rfl rfl ?_
    refine g_bipush (n := 9) dX9_append_7 rfl k_bp_126 ?_
    refine g_icmp_le (n := 12) (t := 22) dX9_append_9 rfl (by decide) (fun c9 => ?_) (fun c9 => ?_)
    · unfold tIn at h
      rw [decide_eq_true (show nI 33 ≤ x from Int32.not_lt.mp c3), decide_eq_true (show x ≤ nI 126 from c9)] at h
      cases h
    · exact g_thr (q := z_exs[0]) (is := 155) (sa := 0) (text := "the code is not 33 to 126") (List.getElem_mem _) rfl rfl (by decide +kernel) (by omega) (Nat.le_of_ble_eq_true rfl) dX9_append_12 dX9_append_15 dX9_append_16 dX9_append_18 dX9_append_21 rfl rfl rfl
theorem tIn_le {x a b : Int32} (h : tIn x a b = true) : a ≤ x ∧ x ≤ b := by
  unfold tIn at h
  rw [Bool.and_eq_true, decide_eq_true_eq, decide_eq_true_eq] at h
  exact h
theorem t_append2 {x : Int32} (hx : tIn x (nI 33) (nI 126) = true) (hn : M 8 0 1 = nI 60) : zC w mX9_append (d + 9) [vR 9 0, vI x] (zP M O) (zrX xIS) (zP M O) := by
  have cf := c_tfull (w := w) (d := d + 8) (M := M) (O := O) hn (by decide)
  refine zC_of (cr := 1) (L0 := [vR 9 0, vI x]) rfl (by decide) (by decide) rfl (Nat.le_of_ble_eq_true rfl) rfl ?_
  refine g_iload_n (n := 1) dX9_append_0 rfl rfl ?_
  refine g_bipush (n := 3) dX9_append_1 rfl k_bp_33 ?_
  refine g_icmp_lt (n := 6) (t := 12) dX9_append_3 rfl (by decide) (fun q9 => absurd q9 (Int32.not_lt.mpr (tIn_le hx).1)) (fun _ => ?_)
  refine g_iload_n (n := 7) dX9_append_6 rfl rfl ?_
  refine g_bipush (n := 9) dX9_append_7 rfl k_bp_126 ?_
  refine g_icmp_le (n := 12) (t := 22) dX9_append_9 rfl (by decide) (fun _ => ?_) (fun q9 => absurd (tIn_le hx).2 q9)
  refine g_aload_n (n := 23) dX9_append_22 rfl rfl ?_
  refine gf_X9_36 (n := 26) dX9_append_23 rfl rfl (z_lvP (by first | decide | assumption)) rfl ?_
  refine g_cVv (n := 29) cf dX9_append_26 rfl kw_X9_158 rfl (by decide) (z_lvP (by first | decide | assumption)) (Nat.le_of_ble_eq_true rfl) ⟨Nat.le_refl _, Nat.le_refl _⟩ ?_ rfl
  refine g_if_eq (n := 32) (t := 42) dX9_append_29 rfl (by decide) (fun q9 => absurd q9 (by decide)) (fun _ => ?_)
  exact g_thr (q := z_exs[2]) (is := 159) (sa := 0) (text := "the buffer has 60 characters") (List.getElem_mem _) rfl rfl (by decide +kernel) (by omega) (Nat.le_of_ble_eq_true rfl) dX9_append_32 dX9_append_35 dX9_append_36 dX9_append_38 dX9_append_41 rfl rfl rfl
theorem c_append {x : Int32} (hx : tIn x (nI 33) (nI 126) = true) (hn : M 8 0 1 = nI n) (h60 : n < 60) : zC w mX9_append (d + 9) [vR 9 0, vI x] (zP M O) (zrI (nI (n + 1))) (zP (u3 (u3 M 31 0 n x) 8 0 1 (nI (n + 1))) O) := by
  have cf := c_tfull (w := w) (d := d + 8) (M := M) (O := O) hn (by omega)
  rw [decide_eq_false (by omega)] at cf
  refine zC_of (cr := 0) (L0 := [vR 9 0, vI x]) rfl (by decide) (by decide) rfl (Nat.le_of_ble_eq_true rfl) rfl ?_
  refine g_iload_n (n := 1) dX9_append_0 rfl rfl ?_
  refine g_bipush (n := 3) dX9_append_1 rfl k_bp_33 ?_
  refine g_icmp_lt (n := 6) (t := 12) dX9_append_3 rfl (by decide) (fun q9 => absurd q9 (Int32.not_lt.mpr (tIn_le hx).1)) (fun _ => ?_)
  refine g_iload_n (n := 7) dX9_append_6 rfl rfl ?_
  refine g_bipush (n := 9) dX9_append_7 rfl k_bp_126 ?_
  refine g_icmp_le (n := 12) (t := 22) dX9_append_9 rfl (by decide) (fun _ => ?_) (fun q9 => absurd (tIn_le hx).2 q9)
  refine g_aload_n (n := 23) dX9_append_22 rfl rfl ?_
  refine gf_X9_36 (n := 26) dX9_append_23 rfl rfl (z_lvP (by first | decide | assumption)) rfl ?_
  refine g_cVv (n := 29) cf dX9_append_26 rfl kw_X9_158 rfl (by decide) (z_lvP (by first | decide | assumption)) (Nat.le_of_ble_eq_true rfl) ⟨Nat.le_refl _, Nat.le_refl _⟩ ?_ rfl
  refine g_if_eq (n := 32) (t := 42) dX9_append_29 rfl (by decide) (fun _ => ?_) (fun q9 => absurd rfl q9)
  refine g_aload_n (n := 43) dX9_append_42 rfl rfl ?_
  refine gf_X9_36 (n := 46) dX9_append_43 rfl rfl (z_lvP (by first | decide | assumption)) rfl ?_
  refine g_iload_n (n := 47) dX9_append_46 rfl rfl ?_
  refine g_cVv (n := 50) (c_tadd hn h60 x) dX9_append_47 rfl kw_X9_161 rfl (by decide) (z_lvP (by first | decide | assumption)) (Nat.le_of_ble_eq_true rfl) ⟨Nat.le_refl _, Nat.le_refl _⟩ ?_ rfl
  exact g_ireturn dX9_append_50 rfl rfl rfl rfl
theorem t_keep {x : Int32} (h : z_ok x 2 = false) : zC w mX9_keep (d + 9) [vR 9 0, vI x] (zP M O) (zrX xIA) (zP M O) := by
  refine zC_of (cr := 1) (L0 := [vR 9 0, vI x]) rfl (by decide) (by decide) rfl (Nat.le_of_ble_eq_true rfl) rfl ?_
  refine g_iload_n (n := 1) dX9_keep_0 rfl rfl ?_
  exact g_cST (σ1 := (0, fun _ _ _ => false, fun _ _ _ => 0, fun _ => 0)) (t_needSlot x h) dX9_keep_1 kw_X9_184 (Nat.le_of_ble_eq_true rfl) (Nat.le_refl _) rfl rfl rfl rfl
theorem c_keep {p : Nat} (hp : p < 2) : zC w mX9_keep (d + 9) [vR 9 0, vI (nI p)] (zP M O) (zrI (M 3 0 5)) (zP (mPut M 0 p 0) O) := by
  have e1 : mPut M 0 p 0 3 0 5 = M 3 0 5 := by rw [mPut_0 (by decide)]
  refine zC_of (cr := 0) (L0 := [vR 9 0, vI (nI p)]) rfl (by decide) (by decide) rfl (Nat.le_of_ble_eq_true rfl) rfl ?_
  refine g_iload_n (n := 1) dX9_keep_0 rfl rfl ?_
  refine g_cSn (n := 4) (c_needSlot (nI p) (z_ok_nI hp (by decide))) dX9_keep_1 rfl kw_X9_184 (Nat.le_of_ble_eq_true rfl) ⟨Nat.le_refl _, Nat.le_refl _⟩ ?_ rfl
  refine g_aload_n (n := 5) dX9_keep_4 rfl rfl ?_
  refine gf_X9_45 (n := 8) dX9_keep_5 rfl rfl (z_lvP (by first | decide | assumption)) rfl ?_
  refine g_iload_n (n := 9) dX9_keep_8 rfl rfl ?_
  refine g_aload_n (n := 10) dX9_keep_9 rfl rfl ?_
  refine gf_X9_10 (n := 13) dX9_keep_10 rfl rfl (z_lvP (by first | decide | assumption)) rfl ?_
  refine g_cVn (n := 16) (c_sput (i := 0) (by decide) hp (by decide)) dX9_keep_13 rfl kw_X9_187 rfl (by decide) (z_lvP (by first | decide | assumption)) (Nat.le_of_ble_eq_true rfl) ⟨Nat.le_refl _, Nat.le_refl _⟩ ?_ rfl
  refine g_aload_n (n := 17) dX9_keep_16 rfl rfl ?_
  refine gf_X9_10 (n := 20) dX9_keep_17 rfl rfl (z_lvP (by first | decide | assumption)) rfl ?_
  refine gf_X9_140 (n := 23) dX9_keep_20 rfl rfl (z_lvP (by first | decide | assumption)) ?_
  exact g_ireturn dX9_keep_23 rfl rfl (by rw [e1]) rfl
theorem t_goBack1 {x : Int32} (h : z_ok x 2 = false) : zC w mX9_goBack (d + 9) [vR 9 0, vI x] (zP M O) (zrX xIA) (zP M O) := by
  refine zC_of (cr := 1) (L0 := [vR 9 0, vI x]) rfl (by decide) (by decide) rfl (Nat.le_of_ble_eq_true rfl) rfl ?_
  refine g_iload_n (n := 1) dX9_goBack_0 rfl rfl ?_
  exact g_cST (σ1 := (0, fun _ _ _ => false, fun _ _ _ => 0, fun _ => 0)) (t_needSlot x h) dX9_goBack_1 kw_X9_184 (Nat.le_of_ble_eq_true rfl) (Nat.le_refl _) rfl rfl rfl rfl
theorem t_goBack2 {p : Nat} (hp : p < 2) (h0 : M 30 0 p = 0) : zC w mX9_goBack (d + 9) [vR 9 0, vI (nI p)] (zP M O) (zrX xIS) (zP M O) := by
  have ch := c_sholds (w := w) (d := d + 8) (M := M) (O := O) (i := 0) (by decide) hp
  rw [if_pos h0] at ch
  refine zC_of (cr := 1) (L0 := [vR 9 0, vI (nI p)]) rfl (by decide) (by decide) rfl (Nat.le_of_ble_eq_true rfl) rfl ?_
  refine g_iload_n (n := 1) dX9_goBack_0 rfl rfl ?_
  refine g_cSn (n := 4) (c_needSlot (nI p) (z_ok_nI hp (by decide))) dX9_goBack_1 rfl kw_X9_184 (Nat.le_of_ble_eq_true rfl) ⟨Nat.le_refl _, Nat.le_refl _⟩ ?_ rfl
  refine g_aload_n (n := 5) dX9_goBack_4 rfl rfl ?_
  refine gf_X9_45 (n := 8) dX9_goBack_5 rfl rfl (z_lvP (by first | decide | assumption)) rfl ?_
  refine g_iload_n (n := 9) dX9_goBack_8 rfl rfl ?_
  refine g_cVv (n := 12) ch dX9_goBack_9 rfl kw_X9_191 rfl (by decide) (z_lvP (by first | decide | assumption)) (Nat.le_of_ble_eq_true rfl) ⟨Nat.le_refl _, Nat.le_refl _⟩ ?_ rfl
  refine g_if_ne (n := 15) (t := 25) dX9_goBack_12 rfl (by decide) (fun q9 => absurd rfl q9) (fun _ => ?_)
  exact g_thr (q := z_exs[2]) (is := 194) (sa := 0) (text := "there is no snapshot in the slot") (List.getElem_mem _) rfl rfl (by decide +kernel) (by omega) (Nat.le_of_ble_eq_true rfl) dX9_goBack_15 dX9_goBack_18 dX9_goBack_19 dX9_goBack_21 dX9_goBack_24 rfl rfl rfl
theorem c_goBack (F : zF M s o h n) {p : Nat} (hp : p < 2) (h0 : ¬ M 30 0 p = 0) : zC w mX9_goBack (d + 9) [vR 9 0, vI (nI p)] (zP M O) (zrI (mCpL (mSave M o h 0) 0 (2 + p) 3 0 5)) (zP (mCpL (mSave M o h 0) 0 (2 + p)) O) := by
  have ch := c_sholds (w := w) (d := d + 8) (M := M) (O := O) (i := 0) (by decide) hp
  rw [if_neg h0] at ch
  refine zC_of (cr := 0) (L0 := [vR 9 0, vI (nI p)]) rfl (by decide) (by decide) rfl (Nat.le_of_ble_eq_true rfl) rfl ?_
  refine g_iload_n (n := 1) dX9_goBack_0 rfl rfl ?_
  refine g_cSn (n := 4) (c_needSlot (nI p) (z_ok_nI hp (by decide))) dX9_goBack_1 rfl kw_X9_184 (Nat.le_of_ble_eq_true rfl) ⟨Nat.le_refl _, Nat.le_refl _⟩ ?_ rfl
  refine g_aload_n (n := 5) dX9_goBack_4 rfl rfl ?_
  refine gf_X9_45 (n := 8) dX9_goBack_5 rfl rfl (z_lvP (by first | decide | assumption)) rfl ?_
  refine g_iload_n (n := 9) dX9_goBack_8 rfl rfl ?_
  refine g_cVv (n := 12) ch dX9_goBack_9 rfl kw_X9_191 rfl (by decide) (z_lvP (by first | decide | assumption)) (Nat.le_of_ble_eq_true rfl) ⟨Nat.le_refl _, Nat.le_refl _⟩ ?_ rfl
  refine g_if_ne (n := 15) (t := 25) dX9_goBack_12 rfl (by decide) (fun _ => ?_) (fun q9 => absurd q9 (by decide))
  refine g_aload_n (n := 26) dX9_goBack_25 rfl rfl ?_
  refine gf_X9_52 (n := 29) dX9_goBack_26 rfl rfl (z_lvP (by first | decide | assumption)) rfl ?_
  refine g_aload_n (n := 30) dX9_goBack_29 rfl rfl ?_
  refine gf_X9_10 (n := 33) dX9_goBack_30 rfl rfl (z_lvP (by first | decide | assumption)) rfl ?_
  refine g_cVn (n := 36) (c_save9 F) dX9_goBack_33 rfl kw_X9_63 rfl (by decide) (z_lvP (by first | decide | assumption)) (Nat.le_of_ble_eq_true rfl) ⟨Nat.le_refl _, Nat.le_refl _⟩ ?_ rfl
  refine g_aload_n (n := 37) dX9_goBack_36 rfl rfl ?_
  refine gf_X9_45 (n := 40) dX9_goBack_37 rfl rfl (z_lvP (by first | decide | assumption)) rfl ?_
  refine g_iload_n (n := 41) dX9_goBack_40 rfl rfl ?_
  refine g_aload_n (n := 42) dX9_goBack_41 rfl rfl ?_
  refine gf_X9_10 (n := 45) dX9_goBack_42 rfl rfl (z_lvP (by first | decide | assumption)) rfl ?_
  refine g_cVn (n := 48) (c_scopyTo (i := 0) (by decide) hp (by decide)) dX9_goBack_45 rfl kw_X9_196 rfl (by decide) (z_lvP (by first | decide | assumption)) (Nat.le_of_ble_eq_true rfl) ⟨Nat.le_refl _, Nat.le_refl _⟩ ?_ rfl
  refine g_aload_n (n := 49) dX9_goBack_48 rfl rfl ?_
  refine gf_X9_10 (n := 52) dX9_goBack_49 rfl rfl (z_lvP (by first | decide | assumption)) rfl ?_
  refine gf_X9_140 (n := 55) dX9_goBack_52 rfl rfl (z_lvP (by first | decide | assumption)) ?_
  exact g_ireturn dX9_goBack_55 rfl rfl rfl rfl
theorem t_undo (hh : M 2 0 2 = nI 0) : zC w mX9_undo (d + 9) [vR 9 0] (zP M O) (zrX xIS) (zP M O) := by
  have ch := c_hsize (w := w) (d := d + 8) (M := M) (O := O)
  rw [hh] at ch
  refine zC_of (cr := 1) (L0 := [vR 9 0]) rfl (by decide) (by decide) rfl (Nat.le_of_ble_eq_true rfl) rfl ?_
  refine g_aload_n (n := 1) dX9_undo_0 rfl rfl ?_
  refine gf_X9_52 (n := 4) dX9_undo_1 rfl rfl (z_lvP (by first | decide | assumption)) rfl ?_
  refine g_cVv (n := 7) ch dX9_undo_4 rfl kw_X9_199 rfl (by decide) (z_lvP (by first | decide | assumption)) (Nat.le_of_ble_eq_true rfl) ⟨Nat.le_refl _, Nat.le_refl _⟩ ?_ rfl
  refine g_if_ne (n := 10) (t := 20) dX9_undo_7 rfl (by decide) (fun q9 => absurd rfl q9) (fun _ => ?_)
  exact g_thr (q := z_exs[2]) (is := 202) (sa := 0) (text := "there is no saved state") (List.getElem_mem _) rfl rfl (by decide +kernel) (by omega) (Nat.le_of_ble_eq_true rfl) dX9_undo_10 dX9_undo_13 dX9_undo_14 dX9_undo_16 dX9_undo_19 rfl rfl rfl
theorem c_undo (F : zF M s o (h + 1) n) : zC w mX9_undo (d + 9) [vR 9 0] (zP M O) (zrI (nI h)) (zP (mRest M o h 0) O) := by
  have h6 := F.h6
  have ch := c_hsize (w := w) (d := d + 8) (M := M) (O := O)
  rw [F.hh] at ch
  have c2 := c_hsize (w := w) (d := d + 8) (M := mRest M o h 0) (O := O)
  rw [show mRest M o h 0 2 0 2 = nI h from rfl] at c2
  refine zC_of (cr := 0) (L0 := [vR 9 0]) rfl (by decide) (by decide) rfl (Nat.le_of_ble_eq_true rfl) rfl ?_
  refine g_aload_n (n := 1) dX9_undo_0 rfl rfl ?_
  refine gf_X9_52 (n := 4) dX9_undo_1 rfl rfl (z_lvP (by first | decide | assumption)) rfl ?_
  refine g_cVv (n := 7) ch dX9_undo_4 rfl kw_X9_199 rfl (by decide) (z_lvP (by first | decide | assumption)) (Nat.le_of_ble_eq_true rfl) ⟨Nat.le_refl _, Nat.le_refl _⟩ ?_ rfl
  refine g_if_ne (n := 10) (t := 20) dX9_undo_7 rfl (by decide) (fun _ => ?_) (fun q9 => absurd q9 (fun q => absurd ((nI_eq (b := 0) (by omega) (by decide)).mp q) (by omega)))
  refine g_aload_n (n := 21) dX9_undo_20 rfl rfl ?_
  refine gf_X9_52 (n := 24) dX9_undo_21 rfl rfl (z_lvP (by first | decide | assumption)) rfl ?_
  refine g_aload_n (n := 25) dX9_undo_24 rfl rfl ?_
  refine gf_X9_10 (n := 28) dX9_undo_25 rfl rfl (z_lvP (by first | decide | assumption)) rfl ?_
  refine g_cVn (n := 31) (c_restore F.ho F.hh F.o6 (by omega) (by decide)) dX9_undo_28 rfl kw_X9_204 rfl (by decide) (z_lvP (by first | decide | assumption)) (Nat.le_of_ble_eq_true rfl) ⟨Nat.le_refl _, Nat.le_refl _⟩ ?_ rfl
  refine g_aload_n (n := 32) dX9_undo_31 rfl rfl ?_
  refine gf_X9_52 (n := 35) dX9_undo_32 rfl rfl (z_lvP (by first | decide | assumption)) rfl ?_
  refine g_cVv (n := 38) c2 dX9_undo_35 rfl kw_X9_199 rfl (by decide) (z_lvP (by first | decide | assumption)) (Nat.le_of_ble_eq_true rfl) ⟨Nat.le_refl _, Nat.le_refl _⟩ ?_ rfl
  exact g_ireturn dX9_undo_38 rfl rfl rfl rfl
theorem t_roadOf {x y : Int32} (h : (z_ok x 8 && z_ok y 8) = false) : zC w mX9_roadOf (d + 9) [vR 9 0, vI x, vI y] (zP M O) (zrX xIOOB) (zP M O) := by
  refine zC_of (cr := 1) (L0 := [vR 9 0, vI x, vI y]) rfl (by decide) (by decide) rfl (Nat.le_of_ble_eq_true rfl) rfl ?_
  cases hx : z_ok x 8
  · refine g_iload_n (n := 1) dX9_roadOf_0 rfl rfl ?_
    exact g_cST (σ1 := (0, fun _ _ _ => false, fun _ _ _ => 0, fun _ => 0)) (t_needTown x hx) dX9_roadOf_1 kw_X9_77 (Nat.le_of_ble_eq_true rfl) (Nat.le_refl _) rfl rfl rfl rfl
  · rw [hx, Bool.true_and] at h
    refine g_iload_n (n := 1) dX9_roadOf_0 rfl rfl ?_
    refine g_cSn (n := 4) (c_needTown x hx) dX9_roadOf_1 rfl kw_X9_77 (Nat.le_of_ble_eq_true rfl) ⟨Nat.le_refl _, Nat.le_refl _⟩ ?_ rfl
    refine g_iload_n (n := 5) dX9_roadOf_4 rfl rfl ?_
    exact g_cST (σ1 := (0, fun _ _ _ => false, fun _ _ _ => 0, fun _ => 0)) (t_needTown y h) dX9_roadOf_5 kw_X9_77 (Nat.le_of_ble_eq_true rfl) (Nat.le_refl _) rfl rfl rfl rfl
theorem c_roadOf {a b : Nat} (ha : a < 8) (hb : b < 8) : zC w mX9_roadOf (d + 9) [vR 9 0, vI (nI a), vI (nI b)] (zP M O) (zrI (M 27 0 (8 * a + b))) (zP M O) := by
  have cl := c_rcost (w := w) (d := d + 7) (M := M) (O := O) (i := 0) (by decide) (nI a) (nI b)
  rw [xg2_nI ha (by decide) hb (by decide)] at cl
  refine zC_of (cr := 0) (L0 := [vR 9 0, vI (nI a), vI (nI b)]) rfl (by decide) (by decide) rfl (Nat.le_of_ble_eq_true rfl) rfl ?_
  refine g_iload_n (n := 1) dX9_roadOf_0 rfl rfl ?_
  refine g_cSn (n := 4) (c_needTown (nI a) (z_ok_nI ha (by decide))) dX9_roadOf_1 rfl kw_X9_77 (Nat.le_of_ble_eq_true rfl) ⟨Nat.le_refl _, Nat.le_refl _⟩ ?_ rfl
  refine g_iload_n (n := 5) dX9_roadOf_4 rfl rfl ?_
  refine g_cSn (n := 8) (c_needTown (nI b) (z_ok_nI hb (by decide))) dX9_roadOf_5 rfl kw_X9_77 (Nat.le_of_ble_eq_true rfl) ⟨Nat.le_refl _, Nat.le_refl _⟩ ?_ rfl
  refine g_aload_n (n := 9) dX9_roadOf_8 rfl rfl ?_
  refine gf_X9_10 (n := 12) dX9_roadOf_9 rfl rfl (z_lvP (by first | decide | assumption)) rfl ?_
  refine gf_X9_67 (n := 15) dX9_roadOf_12 rfl rfl (z_lvP (by first | decide | assumption)) rfl ?_
  refine g_iload_n (n := 16) dX9_roadOf_15 rfl rfl ?_
  refine g_iload_n (n := 17) dX9_roadOf_16 rfl rfl ?_
  refine g_cVv (n := 20) cl dX9_roadOf_17 rfl kw_X9_207 rfl (by decide) (z_lvP (by first | decide | assumption)) (Nat.le_of_ble_eq_true rfl) ⟨Nat.le_refl _, Nat.le_refl _⟩ ?_ rfl
  exact g_ireturn dX9_roadOf_20 rfl rfl rfl rfl
theorem t_distance1 {x y z : Int32} (h : (z_ok x 8 && z_ok y 8) = false) : zC w mX9_distance (d + 9) [vR 9 0, vI x, vI y, vI z] (zP M O) (zrX xIOOB) (zP M O) := by
  refine zC_of (cr := 1) (L0 := [vR 9 0, vI x, vI y, vI z]) rfl (by decide) (by decide) rfl (Nat.le_of_ble_eq_true rfl) rfl ?_
  cases hx : z_ok x 8
  · refine g_iload_n (n := 1) dX9_distance_0 rfl rfl ?_
    exact g_cST (σ1 := (0, fun _ _ _ => false, fun _ _ _ => 0, fun _ => 0)) (t_needTown x hx) dX9_distance_1 kw_X9_77 (Nat.le_of_ble_eq_true rfl) (Nat.le_refl _) rfl rfl rfl rfl
  · rw [hx, Bool.true_and] at h
    refine g_iload_n (n := 1) dX9_distance_0 rfl rfl ?_
    refine g_cSn (n := 4) (c_needTown x hx) dX9_distance_1 rfl kw_X9_77 (Nat.le_of_ble_eq_true rfl) ⟨Nat.le_refl _, Nat.le_refl _⟩ ?_ rfl
    refine g_iload_n (n := 5) dX9_distance_4 rfl rfl ?_
    exact g_cST (σ1 := (0, fun _ _ _ => false, fun _ _ _ => 0, fun _ => 0)) (t_needTown y h) dX9_distance_5 kw_X9_77 (Nat.le_of_ble_eq_true rfl) (Nat.le_refl _) rfl rfl rfl rfl
theorem t_distance2 {a b : Nat} {z : Int32} (ha : a < 8) (hb : b < 8) (h : z_ok z 2 = false) : zC w mX9_distance (d + 9) [vR 9 0, vI (nI a), vI (nI b), vI z] (zP M O) (zrX xIA) (zP M O) := by
  refine zC_of (cr := 1) (L0 := [vR 9 0, vI (nI a), vI (nI b), vI z]) rfl (by decide) (by decide) rfl (Nat.le_of_ble_eq_true rfl) rfl ?_
  refine g_iload_n (n := 1) dX9_distance_0 rfl rfl ?_
  refine g_cSn (n := 4) (c_needTown (nI a) (z_ok_nI ha (by decide))) dX9_distance_1 rfl kw_X9_77 (Nat.le_of_ble_eq_true rfl) ⟨Nat.le_refl _, Nat.le_refl _⟩ ?_ rfl
  refine g_iload_n (n := 5) dX9_distance_4 rfl rfl ?_
  refine g_cSn (n := 8) (c_needTown (nI b) (z_ok_nI hb (by decide))) dX9_distance_5 rfl kw_X9_77 (Nat.le_of_ble_eq_true rfl) ⟨Nat.le_refl _, Nat.le_refl _⟩ ?_ rfl
  refine g_iload_n (n := 9) dX9_distance_8 rfl rfl ?_
  refine g_iconst (n := 10) dX9_distance_9 rfl k_ic_1 ?_
  exact g_cST (σ1 := (0, fun _ _ _ => false, fun _ _ _ => 0, fun _ => 0)) (t_needFromZero (g := 1) z h (by decide)) dX9_distance_10 kw_X9_117 (Nat.le_of_ble_eq_true rfl) (Nat.le_refl _) rfl rfl rfl rfl
theorem c_distance0 {a b : Nat} (ha : a < 8) (hb : b < 8) : zC w mX9_distance (d + 9) [vR 9 0, vI (nI a), vI (nI b), vI (nI 0)] (zP M O) (zrI (xfar ((nRs (M 27 0) (xfl (nB a) (M 20 0) 8, xfl (fun _ => nI 0) (M 21 0) 8) 8).1 b))) (zP (mN M (nRs (M 27 0) (xfl (nB a) (M 20 0) 8, xfl (fun _ => nI 0) (M 21 0) 8) 8).1 (nRs (M 27 0) (xfl (nB a) (M 20 0) 8, xfl (fun _ => nI 0) (M 21 0) 8) 8).2) O) := by
  refine zC_of (cr := 0) (L0 := [vR 9 0, vI (nI a), vI (nI b), vI (nI 0)]) rfl (by decide) (by decide) rfl (Nat.le_of_ble_eq_true rfl) rfl ?_
  refine g_iload_n (n := 1) dX9_distance_0 rfl rfl ?_
  refine g_cSn (n := 4) (c_needTown (nI a) (z_ok_nI ha (by decide))) dX9_distance_1 rfl kw_X9_77 (Nat.le_of_ble_eq_true rfl) ⟨Nat.le_refl _, Nat.le_refl _⟩ ?_ rfl
  refine g_iload_n (n := 5) dX9_distance_4 rfl rfl ?_
  refine g_cSn (n := 8) (c_needTown (nI b) (z_ok_nI hb (by decide))) dX9_distance_5 rfl kw_X9_77 (Nat.le_of_ble_eq_true rfl) ⟨Nat.le_refl _, Nat.le_refl _⟩ ?_ rfl
  refine g_iload_n (n := 9) dX9_distance_8 rfl rfl ?_
  refine g_iconst (n := 10) dX9_distance_9 rfl k_ic_1 ?_
  refine g_cSn (n := 13) (c_needFromZero (g := 1) (nI 0) (by decide) (by decide)) dX9_distance_10 rfl kw_X9_117 (Nat.le_of_ble_eq_true rfl) ⟨Nat.le_refl _, Nat.le_refl _⟩ ?_ rfl
  refine g_iload_n (n := 14) dX9_distance_13 rfl rfl ?_
  refine g_if_ne (n := 17) (t := 36) dX9_distance_14 rfl (by decide) (fun q9 => absurd rfl q9) (fun _ => ?_)
  refine g_aload_n (n := 18) dX9_distance_17 rfl rfl ?_
  refine gf_X9_29 (n := 21) dX9_distance_18 rfl rfl (z_lvP (by first | decide | assumption)) rfl ?_
  refine g_aload_n (n := 22) dX9_distance_21 rfl rfl ?_
  refine gf_X9_10 (n := 25) dX9_distance_22 rfl rfl (z_lvP (by first | decide | assumption)) rfl ?_
  refine gf_X9_67 (n := 28) dX9_distance_25 rfl rfl (z_lvP (by first | decide | assumption)) rfl ?_
  refine g_iload_n (n := 29) dX9_distance_28 rfl rfl ?_
  refine g_iload_n (n := 30) dX9_distance_29 rfl rfl ?_
  refine g_cVv (n := 33) (c_nway (i := 0) (by decide) ha hb) dX9_distance_30 rfl kw_X9_210 rfl (by decide) (z_lvP (by first | decide | assumption)) (Nat.le_of_ble_eq_true rfl) ⟨Nat.le_refl _, Nat.le_refl _⟩ ?_ rfl
  refine g_goto (n := 0) (t := 48) dX9_distance_33 (by decide) ?_
  exact g_ireturn dX9_distance_48 rfl rfl rfl rfl
theorem c_distance1 {a b : Nat} (ha : a < 8) (hb : b < 8) : zC w mX9_distance (d + 9) [vR 9 0, vI (nI a), vI (nI b), vI (nI 1)] (zP M O) (zrI (xfar (M 28 0 (8 * a + b)))) (zP M O) := by
  have cl := c_rway (w := w) (d := d + 7) (M := M) (O := O) (i := 0) (by decide) (nI a) (nI b)
  rw [xg2_nI ha (by decide) hb (by decide)] at cl
  refine zC_of (cr := 0) (L0 := [vR 9 0, vI (nI a), vI (nI b), vI (nI 1)]) rfl (by decide) (by decide) rfl (Nat.le_of_ble_eq_true rfl) rfl ?_
  refine g_iload_n (n := 1) dX9_distance_0 rfl rfl ?_
  refine g_cSn (n := 4) (c_needTown (nI a) (z_ok_nI ha (by decide))) dX9_distance_1 rfl kw_X9_77 (Nat.le_of_ble_eq_true rfl) ⟨Nat.le_refl _, Nat.le_refl _⟩ ?_ rfl
  refine g_iload_n (n := 5) dX9_distance_4 rfl rfl ?_
  refine g_cSn (n := 8) (c_needTown (nI b) (z_ok_nI hb (by decide))) dX9_distance_5 rfl kw_X9_77 (Nat.le_of_ble_eq_true rfl) ⟨Nat.le_refl _, Nat.le_refl _⟩ ?_ rfl
  refine g_iload_n (n := 9) dX9_distance_8 rfl rfl ?_
  refine g_iconst (n := 10) dX9_distance_9 rfl k_ic_1 ?_
  refine g_cSn (n := 13) (c_needFromZero (g := 1) (nI 1) (by decide) (by decide)) dX9_distance_10 rfl kw_X9_117 (Nat.le_of_ble_eq_true rfl) ⟨Nat.le_refl _, Nat.le_refl _⟩ ?_ rfl
  refine g_iload_n (n := 14) dX9_distance_13 rfl rfl ?_
  refine g_if_ne (n := 17) (t := 36) dX9_distance_14 rfl (by decide) (fun _ => ?_) (fun q9 => absurd q9 (by decide))
  refine g_aload_n (n := 37) dX9_distance_36 rfl rfl ?_
  refine gf_X9_10 (n := 40) dX9_distance_37 rfl rfl (z_lvP (by first | decide | assumption)) rfl ?_
  refine gf_X9_67 (n := 43) dX9_distance_40 rfl rfl (z_lvP (by first | decide | assumption)) rfl ?_
  refine g_iload_n (n := 44) dX9_distance_43 rfl rfl ?_
  refine g_iload_n (n := 45) dX9_distance_44 rfl rfl ?_
  refine g_cVv (n := 48) cl dX9_distance_45 rfl kw_X9_214 rfl (by decide) (z_lvP (by first | decide | assumption)) (Nat.le_of_ble_eq_true rfl) ⟨Nat.le_refl _, Nat.le_refl _⟩ ?_ rfl
  exact g_ireturn dX9_distance_48 rfl rfl rfl rfl
theorem t_exitOf1 (F : zF M s o h n) {x y : Int32} (hx : z_ok x s = false) : zC w mX9_exitOf (d + 9) [vR 9 0, vI x, vI y] (zP M O) (zrX xIOOB) (zP M O) := by
  refine zC_of (cr := 1) (L0 := [vR 9 0, vI x, vI y]) rfl (by decide) (by decide) rfl (Nat.le_of_ble_eq_true rfl) rfl ?_
  refine g_aload_n (n := 1) dX9_exitOf_0 rfl rfl ?_
  refine g_iload_n (n := 2) dX9_exitOf_1 rfl rfl ?_
  exact g_cVT (σ1 := (0, fun _ _ _ => false, fun _ _ _ => 0, fun _ => 0)) (t_needExit F.hs F.h8 x hx) dX9_exitOf_2 kw_X9_104 rfl (by decide) (z_lvP (by first | decide | assumption)) (Nat.le_of_ble_eq_true rfl) (Nat.le_refl _) rfl rfl rfl rfl
theorem t_exitOf2 (F : zF M s o h n) {x y : Int32} (hx : z_ok x s = true) (hy : z_ok y 5 = false) : zC w mX9_exitOf (d + 9) [vR 9 0, vI x, vI y] (zP M O) (zrX xIA) (zP M O) := by
  refine zC_of (cr := 1) (L0 := [vR 9 0, vI x, vI y]) rfl (by decide) (by decide) rfl (Nat.le_of_ble_eq_true rfl) rfl ?_
  refine g_aload_n (n := 1) dX9_exitOf_0 rfl rfl ?_
  refine g_iload_n (n := 2) dX9_exitOf_1 rfl rfl ?_
  refine g_cVn (n := 5) (c_needExit F.hs F.h8 x hx) dX9_exitOf_2 rfl kw_X9_104 rfl (by decide) (z_lvP (by first | decide | assumption)) (Nat.le_of_ble_eq_true rfl) ⟨Nat.le_refl _, Nat.le_refl _⟩ ?_ rfl
  refine g_iload_n (n := 6) dX9_exitOf_5 rfl rfl ?_
  refine g_iconst (n := 7) dX9_exitOf_6 rfl k_ic_4 ?_
  exact g_cST (σ1 := (0, fun _ _ _ => false, fun _ _ _ => 0, fun _ => 0)) (t_needFromZero (g := 4) y hy (by decide)) dX9_exitOf_7 kw_X9_117 (Nat.le_of_ble_eq_true rfl) (Nat.le_refl _) rfl rfl rfl rfl
def kEo (M : Nat → Nat → Nat → Int32) (e v : Nat) : Int32 := if v = 2 then zb (decide (M 15 0 e = nI 1)) else M (13 + v) 0 e
theorem c_exitOf (F : zF M s o h n) {e v : Nat} (he : e < s) (hv : v < 5) : zC w mX9_exitOf (d + 9) [vR 9 0, vI (nI e), vI (nI v)] (zP M O) (zrI (kEo M e v)) (zP M O) := by
  have h8 := F.h8
  have c0 := c_xtown (w := w) (d := d + 7) (O := O) (i := 0) (by decide) F.hs h8 (nI e)
  have c1 := c_xneighbour (w := w) (d := d + 7) (O := O) (i := 0) (by decide) F.hs h8 (nI e)
  have c2 := c_xisOpen (w := w) (d := d + 7) (O := O) (i := 0) (by decide) F.hs h8 (nI e)
  have c3 := c_xloaves (w := w) (d := d + 7) (O := O) (i := 0) (by decide) F.hs h8 (nI e)
  have c4 := c_xcosts (w := w) (d := d + 7) (O := O) (i := 0) (by decide) F.hs h8 (nI e)
  rw [xg_nI he (by omega)] at c0 c1 c2 c3 c4
  have hx := c_needExit (w := w) (d := d + 7) (O := O) F.hs h8 (nI e) (z_ok_nI he (by omega))
  have hy : ∀ v, v < 5 → zC w mX9_needFromZero (d + 8) [vI (nI v), vI (nI 4)] (zP M O) zrV (zP M O) := fun v hv => c_needFromZero (g := 4) (nI v) (z_ok_nI hv (by decide)) (by decide)
  unfold kEo
  refine zC_of (cr := 0) (L0 := [vR 9 0, vI (nI e), vI (nI v)]) rfl (by decide) (by decide) rfl (Nat.le_of_ble_eq_true rfl) rfl ?_
  refine g_aload_n (n := 1) dX9_exitOf_0 rfl rfl ?_
  refine g_iload_n (n := 2) dX9_exitOf_1 rfl rfl ?_
  refine g_cVn (n := 5) hx dX9_exitOf_2 rfl kw_X9_104 rfl (by decide) (z_lvP (by first | decide | assumption)) (Nat.le_of_ble_eq_true rfl) ⟨Nat.le_refl _, Nat.le_refl _⟩ ?_ rfl
  refine g_iload_n (n := 6) dX9_exitOf_5 rfl rfl ?_
  refine g_iconst (n := 7) dX9_exitOf_6 rfl k_ic_4 ?_
  refine g_cSn (n := 10) (hy v hv) dX9_exitOf_7 rfl kw_X9_117 (Nat.le_of_ble_eq_true rfl) ⟨Nat.le_refl _, Nat.le_refl _⟩ ?_ rfl
  match v, hv with
  | 0, _ =>
    refine g_iload_n (n := 11) dX9_exitOf_10 rfl rfl ?_
    refine g_tabIn (n := 0) (t := 40) dX9_exitOf_11 (by decide) (by decide) rfl (by decide) ?_
    refine g_aload_n (n := 41) dX9_exitOf_40 rfl rfl ?_
    refine gf_X9_10 (n := 44) dX9_exitOf_41 rfl rfl (z_lvP (by first | decide | assumption)) rfl ?_
    refine gf_X9_83 (n := 47) dX9_exitOf_44 rfl rfl (z_lvP (by first | decide | assumption)) rfl ?_
    refine g_iload_n (n := 48) dX9_exitOf_47 rfl rfl ?_
    refine g_cVv (n := 51) c0 dX9_exitOf_48 rfl kw_X9_216 rfl (by decide) (z_lvP (by first | decide | assumption)) (Nat.le_of_ble_eq_true rfl) ⟨Nat.le_refl _, Nat.le_refl _⟩ ?_ rfl
    exact g_ireturn dX9_exitOf_51 rfl rfl rfl rfl
  | 1, _ =>
    refine g_iload_n (n := 11) dX9_exitOf_10 rfl rfl ?_
    refine g_tabIn (n := 0) (t := 52) dX9_exitOf_11 (by decide) (by decide) rfl (by decide) ?_
    refine g_aload_n (n := 53) dX9_exitOf_52 rfl rfl ?_
    refine gf_X9_10 (n := 56) dX9_exitOf_53 rfl rfl (z_lvP (by first | decide | assumption)) rfl ?_
    refine gf_X9_83 (n := 59) dX9_exitOf_56 rfl rfl (z_lvP (by first | decide | assumption)) rfl ?_
    refine g_iload_n (n := 60) dX9_exitOf_59 rfl rfl ?_
    refine g_cVv (n := 63) c1 dX9_exitOf_60 rfl kw_X9_219 rfl (by decide) (z_lvP (by first | decide | assumption)) (Nat.le_of_ble_eq_true rfl) ⟨Nat.le_refl _, Nat.le_refl _⟩ ?_ rfl
    exact g_ireturn dX9_exitOf_63 rfl rfl rfl rfl
  | 2, _ =>
    rw [if_pos rfl]
    cases hb : decide (M 15 0 e = nI 1)
    · rw [hb] at c2
      refine g_iload_n (n := 11) dX9_exitOf_10 rfl rfl ?_
      refine g_tabIn (n := 0) (t := 64) dX9_exitOf_11 (by decide) (by decide) rfl (by decide) ?_
      refine g_aload_n (n := 65) dX9_exitOf_64 rfl rfl ?_
      refine gf_X9_10 (n := 68) dX9_exitOf_65 rfl rfl (z_lvP (by first | decide | assumption)) rfl ?_
      refine gf_X9_83 (n := 71) dX9_exitOf_68 rfl rfl (z_lvP (by first | decide | assumption)) rfl ?_
      refine g_iload_n (n := 72) dX9_exitOf_71 rfl rfl ?_
      refine g_cVv (n := 75) c2 dX9_exitOf_72 rfl kw_X9_110 rfl (by decide) (z_lvP (by first | decide | assumption)) (Nat.le_of_ble_eq_true rfl) ⟨Nat.le_refl _, Nat.le_refl _⟩ ?_ rfl
      refine g_if_eq (n := 78) (t := 82) dX9_exitOf_75 rfl (by decide) (fun _ => ?_) (fun q9 => absurd rfl q9)
      refine g_iconst (n := 83) dX9_exitOf_82 rfl k_ic_0 ?_
      exact g_ireturn dX9_exitOf_83 rfl rfl rfl rfl
    · rw [hb] at c2
      refine g_iload_n (n := 11) dX9_exitOf_10 rfl rfl ?_
      refine g_tabIn (n := 0) (t := 64) dX9_exitOf_11 (by decide) (by decide) rfl (by decide) ?_
      refine g_aload_n (n := 65) dX9_exitOf_64 rfl rfl ?_
      refine gf_X9_10 (n := 68) dX9_exitOf_65 rfl rfl (z_lvP (by first | decide | assumption)) rfl ?_
      refine gf_X9_83 (n := 71) dX9_exitOf_68 rfl rfl (z_lvP (by first | decide | assumption)) rfl ?_
      refine g_iload_n (n := 72) dX9_exitOf_71 rfl rfl ?_
      refine g_cVv (n := 75) c2 dX9_exitOf_72 rfl kw_X9_110 rfl (by decide) (z_lvP (by first | decide | assumption)) (Nat.le_of_ble_eq_true rfl) ⟨Nat.le_refl _, Nat.le_refl _⟩ ?_ rfl
      refine g_if_eq (n := 78) (t := 82) dX9_exitOf_75 rfl (by decide) (fun q9 => absurd q9 (by decide)) (fun _ => ?_)
      refine g_iconst (n := 79) dX9_exitOf_78 rfl k_ic_1 ?_
      refine g_goto (n := 0) (t := 83) dX9_exitOf_79 (by decide) ?_
      exact g_ireturn dX9_exitOf_83 rfl rfl rfl rfl
  | 3, _ =>
    refine g_iload_n (n := 11) dX9_exitOf_10 rfl rfl ?_
    refine g_tabIn (n := 0) (t := 84) dX9_exitOf_11 (by decide) (by decide) rfl (by decide) ?_
    refine g_aload_n (n := 85) dX9_exitOf_84 rfl rfl ?_
    refine gf_X9_10 (n := 88) dX9_exitOf_85 rfl rfl (z_lvP (by first | decide | assumption)) rfl ?_
    refine gf_X9_83 (n := 91) dX9_exitOf_88 rfl rfl (z_lvP (by first | decide | assumption)) rfl ?_
    refine g_iload_n (n := 92) dX9_exitOf_91 rfl rfl ?_
    refine g_cVv (n := 95) c3 dX9_exitOf_92 rfl kw_X9_222 rfl (by decide) (z_lvP (by first | decide | assumption)) (Nat.le_of_ble_eq_true rfl) ⟨Nat.le_refl _, Nat.le_refl _⟩ ?_ rfl
    exact g_ireturn dX9_exitOf_95 rfl rfl rfl rfl
  | 4, _ =>
    refine g_iload_n (n := 11) dX9_exitOf_10 rfl rfl ?_
    refine g_tabOut (n := 0) (t := 96) dX9_exitOf_11 (Or.inr (by decide)) (by decide) ?_
    refine g_aload_n (n := 97) dX9_exitOf_96 rfl rfl ?_
    refine gf_X9_10 (n := 100) dX9_exitOf_97 rfl rfl (z_lvP (by first | decide | assumption)) rfl ?_
    refine gf_X9_83 (n := 103) dX9_exitOf_100 rfl rfl (z_lvP (by first | decide | assumption)) rfl ?_
    refine g_iload_n (n := 104) dX9_exitOf_103 rfl rfl ?_
    refine g_cVv (n := 107) c4 dX9_exitOf_104 rfl kw_X9_225 rfl (by decide) (z_lvP (by first | decide | assumption)) (Nat.le_of_ble_eq_true rfl) ⟨Nat.le_refl _, Nat.le_refl _⟩ ?_ rfl
    exact g_ireturn dX9_exitOf_107 rfl rfl rfl rfl
theorem t_neighbourOf1 {x y : Int32} (h : z_ok x 4 = false) : zC w mX9_neighbourOf (d + 9) [vR 9 0, vI x, vI y] (zP M O) (zrX xIOOB) (zP M O) := by
  refine zC_of (cr := 1) (L0 := [vR 9 0, vI x, vI y]) rfl (by decide) (by decide) rfl (Nat.le_of_ble_eq_true rfl) rfl ?_
  refine g_iload_n (n := 1) dX9_neighbourOf_0 rfl rfl ?_
  exact g_cST (σ1 := (0, fun _ _ _ => false, fun _ _ _ => 0, fun _ => 0)) (t_needNeighbour x h) dX9_neighbourOf_1 kw_X9_80 (Nat.le_of_ble_eq_true rfl) (Nat.le_refl _) rfl rfl rfl rfl
theorem t_neighbourOf2 {x y : Int32} (hx : z_ok x 4 = true) (h : z_ok y 8 = false) : zC w mX9_neighbourOf (d + 9) [vR 9 0, vI x, vI y] (zP M O) (zrX xIA) (zP M O) := by
  refine zC_of (cr := 1) (L0 := [vR 9 0, vI x, vI y]) rfl (by decide) (by decide) rfl (Nat.le_of_ble_eq_true rfl) rfl ?_
  refine g_iload_n (n := 1) dX9_neighbourOf_0 rfl rfl ?_
  refine g_cSn (n := 4) (c_needNeighbour x hx) dX9_neighbourOf_1 rfl kw_X9_80 (Nat.le_of_ble_eq_true rfl) ⟨Nat.le_refl _, Nat.le_refl _⟩ ?_ rfl
  refine g_iload_n (n := 5) dX9_neighbourOf_4 rfl rfl ?_
  refine g_bipush (n := 7) dX9_neighbourOf_5 rfl k_bp_7 ?_
  exact g_cST (σ1 := (0, fun _ _ _ => false, fun _ _ _ => 0, fun _ => 0)) (t_needFromZero (g := 7) y h (by decide)) dX9_neighbourOf_7 kw_X9_117 (Nat.le_of_ble_eq_true rfl) (Nat.le_refl _) rfl rfl rfl rfl
def kNo (M : Nat → Nat → Nat → Int32) (a v : Nat) : Int32 := if v < 4 then M 22 0 (4 * a + v) else M (19 + v) 0 a
theorem c_neighbourOf {a v : Nat} (ha : a < 4) (hv : v < 8) : zC w mX9_neighbourOf (d + 9) [vR 9 0, vI (nI a), vI (nI v)] (zP M O) (zrI (kNo M a v)) (zP M O) := by
  have c4 := c_nboundOf (w := w) (d := d + 7) (M := M) (O := O) (i := 0) (by decide) (nI a)
  have c5 := c_ncame (w := w) (d := d + 7) (M := M) (O := O) (i := 0) (by decide) (nI a)
  have c6 := c_ncomplaintsSince (w := w) (d := d + 7) (M := M) (O := O) (i := 0) (by decide) (nI a)
  have c7 := c_ncomplaintsSoFar (w := w) (d := d + 7) (M := M) (O := O) (i := 0) (by decide) (nI a)
  rw [xg_nI ha (by decide)] at c4 c5 c6 c7
  have cl := c_nlength (w := w) (d := d + 7) (M := M) (O := O) (i := 0) (by decide) (nI a) (nI v)
  have hx := c_needNeighbour (w := w) (d := d + 7) (σ := zP M O) (nI a) (z_ok_nI ha (by decide))
  have hy : zC w mX9_needFromZero (d + 8) [vI (nI v), vI (nI 7)] (zP M O) zrV (zP M O) := c_needFromZero (g := 7) (nI v) (z_ok_nI hv (by decide)) (by decide)
  unfold kNo
  refine zC_of (cr := 0) (L0 := [vR 9 0, vI (nI a), vI (nI v)]) rfl (by decide) (by decide) rfl (Nat.le_of_ble_eq_true rfl) rfl ?_
  refine g_iload_n (n := 1) dX9_neighbourOf_0 rfl rfl ?_
  refine g_cSn (n := 4) hx dX9_neighbourOf_1 rfl kw_X9_80 (Nat.le_of_ble_eq_true rfl) ⟨Nat.le_refl _, Nat.le_refl _⟩ ?_ rfl
  refine g_iload_n (n := 5) dX9_neighbourOf_4 rfl rfl ?_
  refine g_bipush (n := 7) dX9_neighbourOf_5 rfl k_bp_7 ?_
  refine g_cSn (n := 10) hy dX9_neighbourOf_7 rfl kw_X9_117 (Nat.le_of_ble_eq_true rfl) ⟨Nat.le_refl _, Nat.le_refl _⟩ ?_ rfl
  by_cases h4 : v < 4
  · rw [if_pos h4]
    rw [xg2_nI ha (by decide) h4 (by decide)] at cl
    refine g_iload_n (n := 11) dX9_neighbourOf_10 rfl rfl ?_
    refine g_tabOut (n := 0) (t := 88) dX9_neighbourOf_11 (Or.inl (by rw [nI_toInt (by omega)]; omega)) (by decide) ?_
    refine g_aload_n (n := 89) dX9_neighbourOf_88 rfl rfl ?_
    refine gf_X9_10 (n := 92) dX9_neighbourOf_89 rfl rfl (z_lvP (by first | decide | assumption)) rfl ?_
    refine gf_X9_120 (n := 95) dX9_neighbourOf_92 rfl rfl (z_lvP (by first | decide | assumption)) rfl ?_
    refine g_iload_n (n := 96) dX9_neighbourOf_95 rfl rfl ?_
    refine g_iload_n (n := 97) dX9_neighbourOf_96 rfl rfl ?_
    refine g_cVv (n := 100) cl dX9_neighbourOf_97 rfl kw_X9_240 rfl (by decide) (z_lvP (by first | decide | assumption)) (Nat.le_of_ble_eq_true rfl) ⟨Nat.le_refl _, Nat.le_refl _⟩ ?_ rfl
    exact g_ireturn dX9_neighbourOf_100 rfl rfl rfl rfl
  · rw [if_neg h4]
    obtain h | h | h | h : v = 4 ∨ v = 5 ∨ v = 6 ∨ v = 7 := by omega
    · subst h
      refine g_iload_n (n := 11) dX9_neighbourOf_10 rfl rfl ?_
      refine g_tabIn (n := 0) (t := 40) dX9_neighbourOf_11 (by decide) (by decide) rfl (by decide) ?_
      refine g_aload_n (n := 41) dX9_neighbourOf_40 rfl rfl ?_
      refine gf_X9_10 (n := 44) dX9_neighbourOf_41 rfl rfl (z_lvP (by first | decide | assumption)) rfl ?_
      refine gf_X9_120 (n := 47) dX9_neighbourOf_44 rfl rfl (z_lvP (by first | decide | assumption)) rfl ?_
      refine g_iload_n (n := 48) dX9_neighbourOf_47 rfl rfl ?_
      refine g_cVv (n := 51) c4 dX9_neighbourOf_48 rfl kw_X9_228 rfl (by decide) (z_lvP (by first | decide | assumption)) (Nat.le_of_ble_eq_true rfl) ⟨Nat.le_refl _, Nat.le_refl _⟩ ?_ rfl
      exact g_ireturn dX9_neighbourOf_51 rfl rfl rfl rfl
    · subst h
      refine g_iload_n (n := 11) dX9_neighbourOf_10 rfl rfl ?_
      refine g_tabIn (n := 0) (t := 52) dX9_neighbourOf_11 (by decide) (by decide) rfl (by decide) ?_
      refine g_aload_n (n := 53) dX9_neighbourOf_52 rfl rfl ?_
      refine gf_X9_10 (n := 56) dX9_neighbourOf_53 rfl rfl (z_lvP (by first | decide | assumption)) rfl ?_
      refine gf_X9_120 (n := 59) dX9_neighbourOf_56 rfl rfl (z_lvP (by first | decide | assumption)) rfl ?_
      refine g_iload_n (n := 60) dX9_neighbourOf_59 rfl rfl ?_
      refine g_cVv (n := 63) c5 dX9_neighbourOf_60 rfl kw_X9_231 rfl (by decide) (z_lvP (by first | decide | assumption)) (Nat.le_of_ble_eq_true rfl) ⟨Nat.le_refl _, Nat.le_refl _⟩ ?_ rfl
      exact g_ireturn dX9_neighbourOf_63 rfl rfl rfl rfl
    · subst h
      refine g_iload_n (n := 11) dX9_neighbourOf_10 rfl rfl ?_
      refine g_tabIn (n := 0) (t := 64) dX9_neighbourOf_11 (by decide) (by decide) rfl (by decide) ?_
      refine g_aload_n (n := 65) dX9_neighbourOf_64 rfl rfl ?_
      refine gf_X9_10 (n := 68) dX9_neighbourOf_65 rfl rfl (z_lvP (by first | decide | assumption)) rfl ?_
      refine gf_X9_120 (n := 71) dX9_neighbourOf_68 rfl rfl (z_lvP (by first | decide | assumption)) rfl ?_
      refine g_iload_n (n := 72) dX9_neighbourOf_71 rfl rfl ?_
      refine g_cVv (n := 75) c6 dX9_neighbourOf_72 rfl kw_X9_234 rfl (by decide) (z_lvP (by first | decide | assumption)) (Nat.le_of_ble_eq_true rfl) ⟨Nat.le_refl _, Nat.le_refl _⟩ ?_ rfl
      exact g_ireturn dX9_neighbourOf_75 rfl rfl rfl rfl
    · subst h
      refine g_iload_n (n := 11) dX9_neighbourOf_10 rfl rfl ?_
      refine g_tabIn (n := 0) (t := 76) dX9_neighbourOf_11 (by decide) (by decide) rfl (by decide) ?_
      refine g_aload_n (n := 77) dX9_neighbourOf_76 rfl rfl ?_
      refine gf_X9_10 (n := 80) dX9_neighbourOf_77 rfl rfl (z_lvP (by first | decide | assumption)) rfl ?_
      refine gf_X9_120 (n := 83) dX9_neighbourOf_80 rfl rfl (z_lvP (by first | decide | assumption)) rfl ?_
      refine g_iload_n (n := 84) dX9_neighbourOf_83 rfl rfl ?_
      refine g_cVv (n := 87) c7 dX9_neighbourOf_84 rfl kw_X9_237 rfl (by decide) (z_lvP (by first | decide | assumption)) (Nat.le_of_ble_eq_true rfl) ⟨Nat.le_refl _, Nat.le_refl _⟩ ?_ rfl
      exact g_ireturn dX9_neighbourOf_87 rfl rfl rfl rfl
end LF

