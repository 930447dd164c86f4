/-! The reference: what the face refuses (written by gen/mkface.py). -/
theorem zb_n1 {a b : Bool} (h : zb a = 0) : nI 0 = zb (a && b) := by
  cases a
  · rfl
  · exact absurd h (by decide)
theorem zb_n2 {a b : Bool} (h2 : zb b = 0) : nI 0 = zb (a && b) := by
  cases b
  · cases a <;> rfl
  · exact absurd h2 (by decide)
theorem zb_y2 {a b : Bool} (h : ¬ zb a = 0) (h2 : ¬ zb b = 0) : nI 1 = zb (a && b) := by
  cases a
  · exact absurd rfl h
  · cases b
    · exact absurd rfl h2
    · rfl
theorem zb_n3 {a b c : Bool} (h2 : zb c = 0) : nI 0 = zb (a && (b && c)) := by
  cases c
  · cases a <;> cases b <;> rfl
  · exact absurd h2 (by decide)
theorem zb_y3 {a b c : Bool} (h : ¬ zb a = 0) (h2 : ¬ zb b = 0) (h3 : ¬ zb c = 0) : nI 1 = zb (a && (b && c)) := by
  cases a
  · exact absurd rfl h
  · cases b
    · exact absurd rfl h2
    · cases c
      · exact absurd rfl h3
      · rfl
theorem zb_dn {p : Prop} {q : Decidable p} (h : ¬ p) : nI 0 = zb (decide p) := by rw [decide_eq_false h]; rfl
theorem zb_dy {p : Prop} {q : Decidable p} (h : p) : nI 1 = zb (decide p) := by rw [decide_eq_true h]; rfl
theorem zb_pn {p : Prop} {q : Decidable p} {b : Bool} (h : ¬ p) : nI 0 = zb (decide p && b) := by rw [decide_eq_false h]; rfl
theorem zb_py {p : Prop} {q : Decidable p} {b : Bool} (h : p) (h2 : ¬ zb b = 0) : nI 1 = zb (decide p && b) := by
  rw [decide_eq_true h]
  cases b
  · exact absurd rfl h2
  · rfl
theorem rTh_0 {a b : Bool} (h : (a && b) = true) : rTh a b = nI 0 := by
  cases a
  · cases h
  · cases b
    · cases h
    · rfl
theorem z_ok_m1 {x : Int32} {s : Nat} (h8 : s ≤ 8) : tIn x (nI 0) (nI s - nI 1) = z_ok x s := by
  cases s with
  | zero =>
    rw [show nI 0 - nI 1 = (-1 : Int32) from rfl]
    unfold tIn z_ok
    by_cases h : x < 0
    · rw [decide_eq_false (show ¬ nI 0 ≤ x from Int32.not_le.mpr h), decide_eq_false (show ¬ (0 : Int32) ≤ x from Int32.not_le.mpr h)]
      rfl
    · rw [decide_eq_false (show ¬ x ≤ -1 from fun q => h (Int32.lt_of_le_of_lt q (by decide))), decide_eq_false (show ¬ x < nI 0 from h), Bool.and_false, Bool.and_false]
  | succ s =>
    rw [show nI (s + 1) - nI 1 = nI s from (pk_sub (by omega)).trans rfl]
    exact z_ok_tIn (by omega)
section L17
variable {w : zWp} {d s : Nat} {M : Nat → Nat → Nat → Int32} {O : Nat → Int64} {σ : zSt}
theorem r_inZ {n : Nat} (hn : n < 1000000) (x : Int32) : zC w mX10_in d [vI x, vI (nI 0), vI (nI n)] σ (zrI (zb (z_ok x (n + 1)))) σ := by
  have c := r_in (w := w) (d := d) (σ := σ) x (nI 0) (nI n)
  rw [z_ok_tIn hn] at c
  exact c
theorem r_isExit (hs : M 32 0 66 = nI s) (h8 : s ≤ 8) (x : Int32) : zC w mX10_isExit (d + 1) [vR 10 0, vI x] (zP M O) (zrI (zb (z_ok x s))) (zP M O) := by
  have c := r_in (w := w) (d := d) (σ := zP M O) x (nI 0) (nI s - nI 1)
  rw [z_ok_m1 h8] at c
  refine zC_of (cr := 0) (L0 := [vR 10 0, vI x]) rfl (by decide) (by decide) rfl (Nat.le_of_ble_eq_true rfl) rfl ?_
  refine g_iload_n (n := 1) dX10_isExit_0 rfl rfl ?_
  refine g_iconst (n := 2) dX10_isExit_1 rfl k_ic_0 ?_
  refine g_aload_n (n := 3) dX10_isExit_2 rfl rfl ?_
  refine gf_X10_7 (n := 6) dX10_isExit_3 rfl rfl (z_lvP (by first | decide | assumption)) rfl ?_
  refine g_bipush (n := 8) dX10_isExit_6 rfl k_bp_66 ?_
  refine g_iald (n := 9) dX10_isExit_8 rfl (by decide) (z_lvP (by first | decide | assumption)) rfl (by show _ < 1740; first | assumption | omega) ?_
  rw [hs]
  refine g_iconst (n := 10) dX10_isExit_9 rfl k_ic_1 ?_
  refine g_isub (n := 11) dX10_isExit_10 rfl ?_
  refine g_cSv (n := 14) c dX10_isExit_11 rfl kw_X10_45 (Nat.le_of_ble_eq_true rfl) ⟨Nat.le_refl _, Nat.le_refl _⟩ ?_ rfl
  exact g_ireturn dX10_isExit_14 rfl (by cases z_ok x s <;> rfl) rfl rfl
theorem r_goesT (a : Bool) : zC w mX10_goes d [vR 10 0, vI (zb a), vI (nI 1)] (zP M O) (zrI (zb (a && true))) (zP (u3 M 10 0 3 (rTh a true)) O) := r_goes a true

theorem r_road_s {x y z : Int32} {r : zRes} {M2 : Nat → Nat → Nat → Int32} (K : zG w mX10_road (d + 9) 0 40 [vR 10 0, vI x, vI y, vI z, vU] [vI (zb (decide (¬ x = y) && z_ok z 100)), vI (zb (z_ok x 8 && z_ok y 8)), vR 10 0] (zP M O) r (zP M2 O)) : zG w mX10_road (d + 9) 0 0 [vR 10 0, vI x, vI y, vI z, vU] [] (zP M O) r (zP M2 O) := by
  have t2 : ∀ v, v = zb (decide (¬ x = y) && z_ok z 100) → zG w mX10_road (d + 9) 0 40 [vR 10 0, vI x, vI y, vI z, vU] [vI v, vI (zb (z_ok x 8 && z_ok y 8)), vR 10 0] (zP M O) r (zP M2 O) := by
    intro v hv
    rw [hv]
    exact K
  have t1 : ∀ v, v = zb (z_ok x 8 && z_ok y 8) → zG w mX10_road (d + 9) 0 20 [vR 10 0, vI x, vI y, vI z, vU] [vI v, vR 10 0] (zP M O) r (zP M2 O) := by
    intro v hv
    rw [hv]
    refine g_iload_n (n := 21) dX10_road_20 rfl rfl ?_
    refine g_iload_n (n := 22) dX10_road_21 rfl rfl ?_
    refine g_icmp_eq (n := 25) (t := 39) dX10_road_22 rfl (by decide) (fun c22 => ?_) (fun c22 => ?_)
    · refine g_iconst (n := 40) dX10_road_39 rfl k_ic_0 ?_
      exact t2 _ (zb_pn (fun q => q c22))
    · refine g_iload_n (n := 26) dX10_road_25 rfl rfl ?_
      refine g_iconst (n := 27) dX10_road_26 rfl k_ic_0 ?_
      refine g_bipush (n := 29) dX10_road_27 rfl k_bp_99 ?_
      refine g_cSv (n := 32) (r_inZ (n := 99) (by decide) z) dX10_road_29 rfl kw_X10_45 (Nat.le_of_ble_eq_true rfl) ⟨Nat.le_refl _, Nat.le_refl _⟩ ?_ rfl
      refine g_if_eq (n := 35) (t := 39) dX10_road_32 rfl (by decide) (fun c32 => ?_) (fun c32 => ?_)
      · refine g_iconst (n := 40) dX10_road_39 rfl k_ic_0 ?_
        exact t2 _ (zb_n2 c32)
      · refine g_iconst (n := 36) dX10_road_35 rfl k_ic_1 ?_
        refine g_goto (n := 0) (t := 40) dX10_road_36 (by decide) ?_
        exact t2 _ (zb_py c22 c32)
  refine g_aload_n (n := 1) dX10_road_0 rfl rfl ?_
  refine g_iload_n (n := 2) dX10_road_1 rfl rfl ?_
  refine g_cSv (n := 5) (r_isTown x) dX10_road_2 rfl kw_X10_83 (Nat.le_of_ble_eq_true rfl) ⟨Nat.le_refl _, Nat.le_refl _⟩ ?_ rfl
  refine g_if_eq (n := 8) (t := 19) dX10_road_5 rfl (by decide) (fun c5 => ?_) (fun c5 => ?_)
  · refine g_iconst (n := 20) dX10_road_19 rfl k_ic_0 ?_
    exact t1 _ (zb_n1 c5)
  · refine g_iload_n (n := 9) dX10_road_8 rfl rfl ?_
    refine g_cSv (n := 12) (r_isTown y) dX10_road_9 rfl kw_X10_83 (Nat.le_of_ble_eq_true rfl) ⟨Nat.le_refl _, Nat.le_refl _⟩ ?_ rfl
    refine g_if_eq (n := 15) (t := 19) dX10_road_12 rfl (by decide) (fun c12 => ?_) (fun c12 => ?_)
    · refine g_iconst (n := 20) dX10_road_19 rfl k_ic_0 ?_
      exact t1 _ (zb_n2 c12)
    · refine g_iconst (n := 16) dX10_road_15 rfl k_ic_1 ?_
      refine g_goto (n := 0) (t := 20) dX10_road_16 (by decide) ?_
      exact t1 _ (zb_y2 c5 c12)
theorem r_road_no {x y z : Int32} (h : ((z_ok x 8 && z_ok y 8) && (decide (¬ x = y) && z_ok z 100)) = false) : zC w mX10_road (d + 9) [vR 10 0, vI x, vI y, vI z] (zP M O) (zrI (nI 0)) (zP (u3 M 10 0 3 (rTh (z_ok x 8 && z_ok y 8) (decide (¬ x = y) && z_ok z 100))) O) := by
  have cg := r_goes (w := w) (d := d + 8) (M := M) (O := O) (z_ok x 8 && z_ok y 8) (decide (¬ x = y) && z_ok z 100)
  rw [h] at cg
  refine zC_of (cr := 0) (L0 := [vR 10 0, vI x, vI y, vI z, vU]) rfl (by decide) (by decide) rfl (Nat.le_of_ble_eq_true rfl) rfl ?_
  refine r_road_s ?_
  refine g_cVv (n := 43) cg dX10_road_40 rfl kw_X10_87 rfl (by decide) (z_lvP (by first | decide | assumption)) (Nat.le_of_ble_eq_true rfl) ⟨Nat.le_refl _, Nat.le_refl _⟩ ?_ rfl
  refine g_if_ne (n := 46) (t := 48) dX10_road_43 rfl (by decide) (fun q9 => absurd rfl q9) (fun _ => ?_)
  refine g_iconst (n := 47) dX10_road_46 rfl k_ic_0 ?_
  exact g_ireturn dX10_road_47 rfl rfl rfl rfl
theorem r_road_y {x y z : Int32} {r : zRes} {M2 : Nat → Nat → Nat → Int32} (hcr : z_th r = 0) (h : ((z_ok x 8 && z_ok y 8) && (decide (¬ x = y) && z_ok z 100)) = true) (K : zG w mX10_road (d + 9) 0 48 [vR 10 0, vI x, vI y, vI z, vU] [] (zP (u3 M 10 0 3 (nI 0)) O) r (zP M2 O)) : zC w mX10_road (d + 9) [vR 10 0, vI x, vI y, vI z] (zP M O) r (zP M2 O) := by
  have cg := r_goes (w := w) (d := d + 8) (M := M) (O := O) (z_ok x 8 && z_ok y 8) (decide (¬ x = y) && z_ok z 100)
  rw [h, rTh_0 h] at cg
  refine zC_of (cr := 0) (L0 := [vR 10 0, vI x, vI y, vI z, vU]) hcr (by decide) (by decide) rfl (Nat.le_of_ble_eq_true rfl) rfl ?_
  refine r_road_s ?_
  refine g_cVv (n := 43) cg dX10_road_40 rfl kw_X10_87 rfl (by decide) (z_lvP (by first | decide | assumption)) (Nat.le_of_ble_eq_true rfl) ⟨Nat.le_refl _, Nat.le_refl _⟩ ?_ rfl
  refine g_if_ne (n := 46) (t := 48) dX10_road_43 rfl (by decide) (fun _ => ?_) (fun q9 => absurd q9 (by decide))
  exact K
theorem r_ifRoad_s {x y z : Int32} {r : zRes} {M2 : Nat → Nat → Nat → Int32} (K : zG w mX10_ifRoad (d + 9) 0 40 [vR 10 0, vI x, vI y, vI z] [vI (zb (decide (¬ x = y) && z_ok z 100)), vI (zb (z_ok x 8 && z_ok y 8)), vR 10 0] (zP M O) r (zP M2 O)) : zG w mX10_ifRoad (d + 9) 0 0 [vR 10 0, vI x, vI y, vI z] [] (zP M O) r (zP M2 O) := by
  have t2 : ∀ v, v = zb (decide (¬ x = y) && z_ok z 100) → zG w mX10_ifRoad (d + 9) 0 40 [vR 10 0, vI x, vI y, vI z] [vI v, vI (zb (z_ok x 8 && z_ok y 8)), vR 10 0] (zP M O) r (zP M2 O) := by
    intro v hv
    rw [hv]
    exact K
  have t1 : ∀ v, v = zb (z_ok x 8 && z_ok y 8) → zG w mX10_ifRoad (d + 9) 0 20 [vR 10 0, vI x, vI y, vI z] [vI v, vR 10 0] (zP M O) r (zP M2 O) := by
    intro v hv
    rw [hv]
    refine g_iload_n (n := 21) dX10_ifRoad_20 rfl rfl ?_
    refine g_iload_n (n := 22) dX10_ifRoad_21 rfl rfl ?_
    refine g_icmp_eq (n := 25) (t := 39) dX10_ifRoad_22 rfl (by decide) (fun c22 => ?_) (fun c22 => ?_)
    · refine g_iconst (n := 40) dX10_ifRoad_39 rfl k_ic_0 ?_
      exact t2 _ (zb_pn (fun q => q c22))
    · refine g_iload_n (n := 26) dX10_ifRoad_25 rfl rfl ?_
      refine g_iconst (n := 27) dX10_ifRoad_26 rfl k_ic_0 ?_
      refine g_bipush (n := 29) dX10_ifRoad_27 rfl k_bp_99 ?_
      refine g_cSv (n := 32) (r_inZ (n := 99) (by decide) z) dX10_ifRoad_29 rfl kw_X10_45 (Nat.le_of_ble_eq_true rfl) ⟨Nat.le_refl _, Nat.le_refl _⟩ ?_ rfl
      refine g_if_eq (n := 35) (t := 39) dX10_ifRoad_32 rfl (by decide) (fun c32 => ?_) (fun c32 => ?_)
      · refine g_iconst (n := 40) dX10_ifRoad_39 rfl k_ic_0 ?_
        exact t2 _ (zb_n2 c32)
      · refine g_iconst (n := 36) dX10_ifRoad_35 rfl k_ic_1 ?_
        refine g_goto (n := 0) (t := 40) dX10_ifRoad_36 (by decide) ?_
        exact t2 _ (zb_py c22 c32)
  refine g_aload_n (n := 1) dX10_ifRoad_0 rfl rfl ?_
  refine g_iload_n (n := 2) dX10_ifRoad_1 rfl rfl ?_
  refine g_cSv (n := 5) (r_isTown x) dX10_ifRoad_2 rfl kw_X10_83 (Nat.le_of_ble_eq_true rfl) ⟨Nat.le_refl _, Nat.le_refl _⟩ ?_ rfl
  refine g_if_eq (n := 8) (t := 19) dX10_ifRoad_5 rfl (by decide) (fun c5 => ?_) (fun c5 => ?_)
  · refine g_iconst (n := 20) dX10_ifRoad_19 rfl k_ic_0 ?_
    exact t1 _ (zb_n1 c5)
  · refine g_iload_n (n := 9) dX10_ifRoad_8 rfl rfl ?_
    refine g_cSv (n := 12) (r_isTown y) dX10_ifRoad_9 rfl kw_X10_83 (Nat.le_of_ble_eq_true rfl) ⟨Nat.le_refl _, Nat.le_refl _⟩ ?_ rfl
    refine g_if_eq (n := 15) (t := 19) dX10_ifRoad_12 rfl (by decide) (fun c12 => ?_) (fun c12 => ?_)
    · refine g_iconst (n := 20) dX10_ifRoad_19 rfl k_ic_0 ?_
      exact t1 _ (zb_n2 c12)
    · refine g_iconst (n := 16) dX10_ifRoad_15 rfl k_ic_1 ?_
      refine g_goto (n := 0) (t := 20) dX10_ifRoad_16 (by decide) ?_
      exact t1 _ (zb_y2 c5 c12)
theorem r_ifRoad_no {x y z : Int32} (h : ((z_ok x 8 && z_ok y 8) && (decide (¬ x = y) && z_ok z 100)) = false) : zC w mX10_ifRoad (d + 9) [vR 10 0, vI x, vI y, vI z] (zP M O) (zrI (nI 0)) (zP (u3 M 10 0 3 (rTh (z_ok x 8 && z_ok y 8) (decide (¬ x = y) && z_ok z 100))) O) := by
  have cg := r_goes (w := w) (d := d + 8) (M := M) (O := O) (z_ok x 8 && z_ok y 8) (decide (¬ x = y) && z_ok z 100)
  rw [h] at cg
  refine zC_of (cr := 0) (L0 := [vR 10 0, vI x, vI y, vI z]) rfl (by decide) (by decide) rfl (Nat.le_of_ble_eq_true rfl) rfl ?_
  refine r_ifRoad_s ?_
  refine g_cVv (n := 43) cg dX10_ifRoad_40 rfl kw_X10_87 rfl (by decide) (z_lvP (by first | decide | assumption)) (Nat.le_of_ble_eq_true rfl) ⟨Nat.le_refl _, Nat.le_refl _⟩ ?_ rfl
  refine g_if_eq (n := 46) (t := 56) dX10_ifRoad_43 rfl (by decide) (fun _ => ?_) (fun q9 => absurd rfl q9)
  refine g_iconst (n := 57) dX10_ifRoad_56 rfl k_ic_0 ?_
  exact g_ireturn dX10_ifRoad_57 rfl rfl rfl rfl
theorem r_ifRoad_y {x y z : Int32} {r : zRes} {M2 : Nat → Nat → Nat → Int32} (hcr : z_th r = 0) (h : ((z_ok x 8 && z_ok y 8) && (decide (¬ x = y) && z_ok z 100)) = true) (K : zG w mX10_ifRoad (d + 9) 0 46 [vR 10 0, vI x, vI y, vI z] [] (zP (u3 M 10 0 3 (nI 0)) O) r (zP M2 O)) : zC w mX10_ifRoad (d + 9) [vR 10 0, vI x, vI y, vI z] (zP M O) r (zP M2 O) := by
  have cg := r_goes (w := w) (d := d + 8) (M := M) (O := O) (z_ok x 8 && z_ok y 8) (decide (¬ x = y) && z_ok z 100)
  rw [h, rTh_0 h] at cg
  refine zC_of (cr := 0) (L0 := [vR 10 0, vI x, vI y, vI z]) hcr (by decide) (by decide) rfl (Nat.le_of_ble_eq_true rfl) rfl ?_
  refine r_ifRoad_s ?_
  refine g_cVv (n := 43) cg dX10_ifRoad_40 rfl kw_X10_87 rfl (by decide) (z_lvP (by first | decide | assumption)) (Nat.le_of_ble_eq_true rfl) ⟨Nat.le_refl _, Nat.le_refl _⟩ ?_ rfl
  refine g_if_eq (n := 46) (t := 56) dX10_ifRoad_43 rfl (by decide) (fun q9 => absurd q9 (by decide)) (fun _ => ?_)
  exact K
theorem r_idle_s {x y : Int32} {r : zRes} {M2 : Nat → Nat → Nat → Int32} (K : zG w mX10_idle (d + 9) 0 30 [vR 10 0, vI x, vI y] [vI (zb (decide (¬ x = y))), vI (zb (z_ok x 8 && z_ok y 8)), vR 10 0] (zP M O) r (zP M2 O)) : zG w mX10_idle (d + 9) 0 0 [vR 10 0, vI x, vI y] [] (zP M O) r (zP M2 O) := by
  have t2 : ∀ v, v = zb (decide (¬ x = y)) → zG w mX10_idle (d + 9) 0 30 [vR 10 0, vI x, vI y] [vI v, vI (zb (z_ok x 8 && z_ok y 8)), vR 10 0] (zP M O) r (zP M2 O) := by
    intro v hv
    rw [hv]
    exact K
  have t1 : ∀ v, v = zb (z_ok x 8 && z_ok y 8) → zG w mX10_idle (d + 9) 0 20 [vR 10 0, vI x, vI y] [vI v, vR 10 0] (zP M O) r (zP M2 O) := by
    intro v hv
    rw [hv]
    refine g_iload_n (n := 21) dX10_idle_20 rfl rfl ?_
    refine g_iload_n (n := 22) dX10_idle_21 rfl rfl ?_
    refine g_icmp_eq (n := 25) (t := 29) dX10_idle_22 rfl (by decide) (fun c22 => ?_) (fun c22 => ?_)
    · refine g_iconst (n := 30) dX10_idle_29 rfl k_ic_0 ?_
      exact t2 _ (zb_dn (fun q => q c22))
    · refine g_iconst (n := 26) dX10_idle_25 rfl k_ic_1 ?_
      refine g_goto (n := 0) (t := 30) dX10_idle_26 (by decide) ?_
      exact t2 _ (zb_dy c22)
  refine g_aload_n (n := 1) dX10_idle_0 rfl rfl ?_
  refine g_iload_n (n := 2) dX10_idle_1 rfl rfl ?_
  refine g_cSv (n := 5) (r_isTown x) dX10_idle_2 rfl kw_X10_83 (Nat.le_of_ble_eq_true rfl) ⟨Nat.le_refl _, Nat.le_refl _⟩ ?_ rfl
  refine g_if_eq (n := 8) (t := 19) dX10_idle_5 rfl (by decide) (fun c5 => ?_) (fun c5 => ?_)
  · refine g_iconst (n := 20) dX10_idle_19 rfl k_ic_0 ?_
    exact t1 _ (zb_n1 c5)
  · refine g_iload_n (n := 9) dX10_idle_8 rfl rfl ?_
    refine g_cSv (n := 12) (r_isTown y) dX10_idle_9 rfl kw_X10_83 (Nat.le_of_ble_eq_true rfl) ⟨Nat.le_refl _, Nat.le_refl _⟩ ?_ rfl
    refine g_if_eq (n := 15) (t := 19) dX10_idle_12 rfl (by decide) (fun c12 => ?_) (fun c12 => ?_)
    · refine g_iconst (n := 20) dX10_idle_19 rfl k_ic_0 ?_
      exact t1 _ (zb_n2 c12)
    · refine g_iconst (n := 16) dX10_idle_15 rfl k_ic_1 ?_
      refine g_goto (n := 0) (t := 20) dX10_idle_16 (by decide) ?_
      exact t1 _ (zb_y2 c5 c12)
theorem r_idle_no {x y : Int32} (h : ((z_ok x 8 && z_ok y 8) && (decide (¬ x = y))) = false) : zC w mX10_idle (d + 9) [vR 10 0, vI x, vI y] (zP M O) (zrI (nI 0)) (zP (u3 M 10 0 3 (rTh (z_ok x 8 && z_ok y 8) (decide (¬ x = y)))) O) := by
  have cg := r_goes (w := w) (d := d + 8) (M := M) (O := O) (z_ok x 8 && z_ok y 8) (decide (¬ x = y))
  rw [h] at cg
  refine zC_of (cr := 0) (L0 := [vR 10 0, vI x, vI y]) rfl (by decide) (by decide) rfl (Nat.le_of_ble_eq_true rfl) rfl ?_
  refine r_idle_s ?_
  refine g_cVv (n := 33) cg dX10_idle_30 rfl kw_X10_87 rfl (by decide) (z_lvP (by first | decide | assumption)) (Nat.le_of_ble_eq_true rfl) ⟨Nat.le_refl _, Nat.le_refl _⟩ ?_ rfl
  refine g_if_eq (n := 36) (t := 45) dX10_idle_33 rfl (by decide) (fun _ => ?_) (fun q9 => absurd rfl q9)
  refine g_iconst (n := 46) dX10_idle_45 rfl k_ic_0 ?_
  exact g_ireturn dX10_idle_46 rfl rfl rfl rfl
theorem r_idle_y {x y : Int32} {r : zRes} {M2 : Nat → Nat → Nat → Int32} (hcr : z_th r = 0) (h : ((z_ok x 8 && z_ok y 8) && (decide (¬ x = y))) = true) (K : zG w mX10_idle (d + 9) 0 36 [vR 10 0, vI x, vI y] [] (zP (u3 M 10 0 3 (nI 0)) O) r (zP M2 O)) : zC w mX10_idle (d + 9) [vR 10 0, vI x, vI y] (zP M O) r (zP M2 O) := by
  have cg := r_goes (w := w) (d := d + 8) (M := M) (O := O) (z_ok x 8 && z_ok y 8) (decide (¬ x = y))
  rw [h, rTh_0 h] at cg
  refine zC_of (cr := 0) (L0 := [vR 10 0, vI x, vI y]) hcr (by decide) (by decide) rfl (Nat.le_of_ble_eq_true rfl) rfl ?_
  refine r_idle_s ?_
  refine g_cVv (n := 33) cg dX10_idle_30 rfl kw_X10_87 rfl (by decide) (z_lvP (by first | decide | assumption)) (Nat.le_of_ble_eq_true rfl) ⟨Nat.le_refl _, Nat.le_refl _⟩ ?_ rfl
  refine g_if_eq (n := 36) (t := 45) dX10_idle_33 rfl (by decide) (fun q9 => absurd q9 (by decide)) (fun _ => ?_)
  exact K
theorem r_send_s {x y : Int32} {r : zRes} {M2 : Nat → Nat → Nat → Int32} (K : zG w mX10_send (d + 9) 0 39 [vR 10 0, vI x, vI y] [vI (zb (decide (M 32 0 171 < nI 9999))), vI (zb (z_ok x 8 && z_ok y 4)), vR 10 0] (zP M O) r (zP M2 O)) : zG w mX10_send (d + 9) 0 0 [vR 10 0, vI x, vI y] [] (zP M O) r (zP M2 O) := by
  have t2 : ∀ v, v = zb (decide (M 32 0 171 < nI 9999)) → zG w mX10_send (d + 9) 0 39 [vR 10 0, vI x, vI y] [vI v, vI (zb (z_ok x 8 && z_ok y 4)), vR 10 0] (zP M O) r (zP M2 O) := by
    intro v hv
    rw [hv]
    exact K
  have t1 : ∀ v, v = zb (z_ok x 8 && z_ok y 4) → zG w mX10_send (d + 9) 0 20 [vR 10 0, vI x, vI y] [vI v, vR 10 0] (zP M O) r (zP M2 O) := by
    intro v hv
    rw [hv]
    refine g_aload_n (n := 21) dX10_send_20 rfl rfl ?_
    refine gf_X10_7 (n := 24) dX10_send_21 rfl rfl (z_lvP (by first | decide | assumption)) rfl ?_
    refine g_sipush (n := 27) dX10_send_24 rfl k_sp_171 ?_
    refine g_iald (n := 28) dX10_send_27 rfl (by decide) (z_lvP (by first | decide | assumption)) rfl (by show _ < 1740; first | assumption | omega) ?_
    refine g_sipush (n := 31) dX10_send_28 rfl k_sp_9999 ?_
    refine g_icmp_ge (n := 34) (t := 38) dX10_send_31 rfl (by decide) (fun c31 => ?_) (fun c31 => ?_)
    · refine g_iconst (n := 39) dX10_send_38 rfl k_ic_0 ?_
      exact t2 _ (zb_dn (Int32.not_lt.mpr c31))
    · refine g_iconst (n := 35) dX10_send_34 rfl k_ic_1 ?_
      refine g_goto (n := 0) (t := 39) dX10_send_35 (by decide) ?_
      exact t2 _ (zb_dy (Int32.not_le.mp c31))
  refine g_aload_n (n := 1) dX10_send_0 rfl rfl ?_
  refine g_iload_n (n := 2) dX10_send_1 rfl rfl ?_
  refine g_cSv (n := 5) (r_isTown x) dX10_send_2 rfl kw_X10_83 (Nat.le_of_ble_eq_true rfl) ⟨Nat.le_refl _, Nat.le_refl _⟩ ?_ rfl
  refine g_if_eq (n := 8) (t := 19) dX10_send_5 rfl (by decide) (fun c5 => ?_) (fun c5 => ?_)
  · refine g_iconst (n := 20) dX10_send_19 rfl k_ic_0 ?_
    exact t1 _ (zb_n1 c5)
  · refine g_iload_n (n := 9) dX10_send_8 rfl rfl ?_
    refine g_cSv (n := 12) (r_isHouse y) dX10_send_9 rfl kw_X10_101 (Nat.le_of_ble_eq_true rfl) ⟨Nat.le_refl _, Nat.le_refl _⟩ ?_ rfl
    refine g_if_eq (n := 15) (t := 19) dX10_send_12 rfl (by decide) (fun c12 => ?_) (fun c12 => ?_)
    · refine g_iconst (n := 20) dX10_send_19 rfl k_ic_0 ?_
      exact t1 _ (zb_n2 c12)
    · refine g_iconst (n := 16) dX10_send_15 rfl k_ic_1 ?_
      refine g_goto (n := 0) (t := 20) dX10_send_16 (by decide) ?_
      exact t1 _ (zb_y2 c5 c12)
theorem r_send_no {x y : Int32} (h : ((z_ok x 8 && z_ok y 4) && (decide (M 32 0 171 < nI 9999))) = false) : zC w mX10_send (d + 9) [vR 10 0, vI x, vI y] (zP M O) (zrI (nI 0)) (zP (u3 M 10 0 3 (rTh (z_ok x 8 && z_ok y 4) (decide (M 32 0 171 < nI 9999)))) O) := by
  have cg := r_goes (w := w) (d := d + 8) (M := M) (O := O) (z_ok x 8 && z_ok y 4) (decide (M 32 0 171 < nI 9999))
  rw [h] at cg
  refine zC_of (cr := 0) (L0 := [vR 10 0, vI x, vI y]) rfl (by decide) (by decide) rfl (Nat.le_of_ble_eq_true rfl) rfl ?_
  refine r_send_s ?_
  refine g_cVv (n := 42) cg dX10_send_39 rfl kw_X10_87 rfl (by decide) (z_lvP (by first | decide | assumption)) (Nat.le_of_ble_eq_true rfl) ⟨Nat.le_refl _, Nat.le_refl _⟩ ?_ rfl
  refine g_if_ne (n := 45) (t := 47) dX10_send_42 rfl (by decide) (fun q9 => absurd rfl q9) (fun _ => ?_)
  refine g_iconst (n := 46) dX10_send_45 rfl k_ic_0 ?_
  exact g_ireturn dX10_send_46 rfl rfl rfl rfl
theorem r_send_y {x y : Int32} {r : zRes} {M2 : Nat → Nat → Nat → Int32} (hcr : z_th r = 0) (h : ((z_ok x 8 && z_ok y 4) && (decide (M 32 0 171 < nI 9999))) = true) (K : zG w mX10_send (d + 9) 0 47 [vR 10 0, vI x, vI y] [] (zP (u3 M 10 0 3 (nI 0)) O) r (zP M2 O)) : zC w mX10_send (d + 9) [vR 10 0, vI x, vI y] (zP M O) r (zP M2 O) := by
  have cg := r_goes (w := w) (d := d + 8) (M := M) (O := O) (z_ok x 8 && z_ok y 4) (decide (M 32 0 171 < nI 9999))
  rw [h, rTh_0 h] at cg
  refine zC_of (cr := 0) (L0 := [vR 10 0, vI x, vI y]) hcr (by decide) (by decide) rfl (Nat.le_of_ble_eq_true rfl) rfl ?_
  refine r_send_s ?_
  refine g_cVv (n := 42) cg dX10_send_39 rfl kw_X10_87 rfl (by decide) (z_lvP (by first | decide | assumption)) (Nat.le_of_ble_eq_true rfl) ⟨Nat.le_refl _, Nat.le_refl _⟩ ?_ rfl
  refine g_if_ne (n := 45) (t := 47) dX10_send_42 rfl (by decide) (fun _ => ?_) (fun q9 => absurd q9 (by decide))
  exact K
theorem r_choice_s {x y z : Int32} {r : zRes} {M2 : Nat → Nat → Nat → Int32} (K : zG w mX10_choice (d + 9) 0 26 [vR 10 0, vI x, vI y, vI z] [vI (zb (z_ok z 6)), vI (zb (z_ok x 8 && z_ok y 4)), vR 10 0] (zP M O) r (zP M2 O)) : zG w mX10_choice (d + 9) 0 0 [vR 10 0, vI x, vI y, vI z] [] (zP M O) r (zP M2 O) := by
  have t1 : ∀ v, v = zb (z_ok x 8 && z_ok y 4) → zG w mX10_choice (d + 9) 0 20 [vR 10 0, vI x, vI y, vI z] [vI v, vR 10 0] (zP M O) r (zP M2 O) := by
    intro v hv
    rw [hv]
    refine g_iload_n (n := 21) dX10_choice_20 rfl rfl ?_
    refine g_iconst (n := 22) dX10_choice_21 rfl k_ic_0 ?_
    refine g_iconst (n := 23) dX10_choice_22 rfl k_ic_5 ?_
    refine g_cSv (n := 26) (r_inZ (n := 5) (by decide) z) dX10_choice_23 rfl kw_X10_45 (Nat.le_of_ble_eq_true rfl) ⟨Nat.le_refl _, Nat.le_refl _⟩ ?_ rfl
    exact K
  refine g_aload_n (n := 1) dX10_choice_0 rfl rfl ?_
  refine g_iload_n (n := 2) dX10_choice_1 rfl rfl ?_
  refine g_cSv (n := 5) (r_isTown x) dX10_choice_2 rfl kw_X10_83 (Nat.le_of_ble_eq_true rfl) ⟨Nat.le_refl _, Nat.le_refl _⟩ ?_ rfl
  refine g_if_eq (n := 8) (t := 19) dX10_choice_5 rfl (by decide) (fun c5 => ?_) (fun c5 => ?_)
  · refine g_iconst (n := 20) dX10_choice_19 rfl k_ic_0 ?_
    exact t1 _ (zb_n1 c5)
  · refine g_iload_n (n := 9) dX10_choice_8 rfl rfl ?_
    refine g_cSv (n := 12) (r_isHouse y) dX10_choice_9 rfl kw_X10_101 (Nat.le_of_ble_eq_true rfl) ⟨Nat.le_refl _, Nat.le_refl _⟩ ?_ rfl
    refine g_if_eq (n := 15) (t := 19) dX10_choice_12 rfl (by decide) (fun c12 => ?_) (fun c12 => ?_)
    · refine g_iconst (n := 20) dX10_choice_19 rfl k_ic_0 ?_
      exact t1 _ (zb_n2 c12)
    · refine g_iconst (n := 16) dX10_choice_15 rfl k_ic_1 ?_
      refine g_goto (n := 0) (t := 20) dX10_choice_16 (by decide) ?_
      exact t1 _ (zb_y2 c5 c12)
theorem r_choice_no {x y z : Int32} (h : ((z_ok x 8 && z_ok y 4) && (z_ok z 6)) = false) : zC w mX10_choice (d + 9) [vR 10 0, vI x, vI y, vI z] (zP M O) (zrI (nI 0)) (zP (u3 M 10 0 3 (rTh (z_ok x 8 && z_ok y 4) (z_ok z 6))) O) := by
  have cg := r_goes (w := w) (d := d + 8) (M := M) (O := O) (z_ok x 8 && z_ok y 4) (z_ok z 6)
  rw [h] at cg
  refine zC_of (cr := 0) (L0 := [vR 10 0, vI x, vI y, vI z]) rfl (by decide) (by decide) rfl (Nat.le_of_ble_eq_true rfl) rfl ?_
  refine r_choice_s ?_
  refine g_cVv (n := 29) cg dX10_choice_26 rfl kw_X10_87 rfl (by decide) (z_lvP (by first | decide | assumption)) (Nat.le_of_ble_eq_true rfl) ⟨Nat.le_refl _, Nat.le_refl _⟩ ?_ rfl
  refine g_if_eq (n := 32) (t := 42) dX10_choice_29 rfl (by decide) (fun _ => ?_) (fun q9 => absurd rfl q9)
  refine g_iconst (n := 43) dX10_choice_42 rfl k_ic_0 ?_
  exact g_ireturn dX10_choice_43 rfl rfl rfl rfl
theorem r_choice_y {x y z : Int32} {r : zRes} {M2 : Nat → Nat → Nat → Int32} (hcr : z_th r = 0) (h : ((z_ok x 8 && z_ok y 4) && (z_ok z 6)) = true) (K : zG w mX10_choice (d + 9) 0 32 [vR 10 0, vI x, vI y, vI z] [] (zP (u3 M 10 0 3 (nI 0)) O) r (zP M2 O)) : zC w mX10_choice (d + 9) [vR 10 0, vI x, vI y, vI z] (zP M O) r (zP M2 O) := by
  have cg := r_goes (w := w) (d := d + 8) (M := M) (O := O) (z_ok x 8 && z_ok y 4) (z_ok z 6)
  rw [h, rTh_0 h] at cg
  refine zC_of (cr := 0) (L0 := [vR 10 0, vI x, vI y, vI z]) hcr (by decide) (by decide) rfl (Nat.le_of_ble_eq_true rfl) rfl ?_
  refine r_choice_s ?_
  refine g_cVv (n := 29) cg dX10_choice_26 rfl kw_X10_87 rfl (by decide) (z_lvP (by first | decide | assumption)) (Nat.le_of_ble_eq_true rfl) ⟨Nat.le_refl _, Nat.le_refl _⟩ ?_ rfl
  refine g_if_eq (n := 32) (t := 42) dX10_choice_29 rfl (by decide) (fun q9 => absurd q9 (by decide)) (fun _ => ?_)
  exact K
theorem r_distance_s {x y z : Int32} {r : zRes} {M2 : Nat → Nat → Nat → Int32} (K : zG w mX10_distance (d + 9) 0 26 [vR 10 0, vI x, vI y, vI z] [vI (zb (z_ok z 2)), vI (zb (z_ok x 8 && z_ok y 8)), vR 10 0] (zP M O) r (zP M2 O)) : zG w mX10_distance (d + 9) 0 0 [vR 10 0, vI x, vI y, vI z] [] (zP M O) r (zP M2 O) := by
  have t1 : ∀ v, v = zb (z_ok x 8 && z_ok y 8) → zG w mX10_distance (d + 9) 0 20 [vR 10 0, vI x, vI y, vI z] [vI v, vR 10 0] (zP M O) r (zP M2 O) := by
    intro v hv
    rw [hv]
    refine g_iload_n (n := 21) dX10_distance_20 rfl rfl ?_
    refine g_iconst (n := 22) dX10_distance_21 rfl k_ic_0 ?_
    refine g_iconst (n := 23) dX10_distance_22 rfl k_ic_1 ?_
    refine g_cSv (n := 26) (r_inZ (n := 1) (by decide) z) dX10_distance_23 rfl kw_X10_45 (Nat.le_of_ble_eq_true rfl) ⟨Nat.le_refl _, Nat.le_refl _⟩ ?_ rfl
    exact K
  refine g_aload_n (n := 1) dX10_distance_0 rfl rfl ?_
  refine g_iload_n (n := 2) dX10_distance_1 rfl rfl ?_
  refine g_cSv (n := 5) (r_isTown x) dX10_distance_2 rfl kw_X10_83 (Nat.le_of_ble_eq_true rfl) ⟨Nat.le_refl _, Nat.le_refl _⟩ ?_ rfl
  refine g_if_eq (n := 8) (t := 19) dX10_distance_5 rfl (by decide) (fun c5 => ?_) (fun c5 => ?_)
  · refine g_iconst (n := 20) dX10_distance_19 rfl k_ic_0 ?_
    exact t1 _ (zb_n1 c5)
  · refine g_iload_n (n := 9) dX10_distance_8 rfl rfl ?_
    refine g_cSv (n := 12) (r_isTown y) dX10_distance_9 rfl kw_X10_83 (Nat.le_of_ble_eq_true rfl) ⟨Nat.le_refl _, Nat.le_refl _⟩ ?_ rfl
    refine g_if_eq (n := 15) (t := 19) dX10_distance_12 rfl (by decide) (fun c12 => ?_) (fun c12 => ?_)
    · refine g_iconst (n := 20) dX10_distance_19 rfl k_ic_0 ?_
      exact t1 _ (zb_n2 c12)
    · refine g_iconst (n := 16) dX10_distance_15 rfl k_ic_1 ?_
      refine g_goto (n := 0) (t := 20) dX10_distance_16 (by decide) ?_
      exact t1 _ (zb_y2 c5 c12)
theorem r_distance_no {x y z : Int32} (h : ((z_ok x 8 && z_ok y 8) && (z_ok z 2)) = false) : zC w mX10_distance (d + 9) [vR 10 0, vI x, vI y, vI z] (zP M O) (zrI (nI 0)) (zP (u3 M 10 0 3 (rTh (z_ok x 8 && z_ok y 8) (z_ok z 2))) O) := by
  have cg := r_goes (w := w) (d := d + 8) (M := M) (O := O) (z_ok x 8 && z_ok y 8) (z_ok z 2)
  rw [h] at cg
  refine zC_of (cr := 0) (L0 := [vR 10 0, vI x, vI y, vI z]) rfl (by decide) (by decide) rfl (Nat.le_of_ble_eq_true rfl) rfl ?_
  refine r_distance_s ?_
  refine g_cVv (n := 29) cg dX10_distance_26 rfl kw_X10_87 rfl (by decide) (z_lvP (by first | decide | assumption)) (Nat.le_of_ble_eq_true rfl) ⟨Nat.le_refl _, Nat.le_refl _⟩ ?_ rfl
  refine g_if_eq (n := 32) (t := 41) dX10_distance_29 rfl (by decide) (fun _ => ?_) (fun q9 => absurd rfl q9)
  refine g_iconst (n := 42) dX10_distance_41 rfl k_ic_0 ?_
  exact g_ireturn dX10_distance_42 rfl rfl rfl rfl
theorem r_distance_y {x y z : Int32} {r : zRes} {M2 : Nat → Nat → Nat → Int32} (hcr : z_th r = 0) (h : ((z_ok x 8 && z_ok y 8) && (z_ok z 2)) = true) (K : zG w mX10_distance (d + 9) 0 32 [vR 10 0, vI x, vI y, vI z] [] (zP (u3 M 10 0 3 (nI 0)) O) r (zP M2 O)) : zC w mX10_distance (d + 9) [vR 10 0, vI x, vI y, vI z] (zP M O) r (zP M2 O) := by
  have cg := r_goes (w := w) (d := d + 8) (M := M) (O := O) (z_ok x 8 && z_ok y 8) (z_ok z 2)
  rw [h, rTh_0 h] at cg
  refine zC_of (cr := 0) (L0 := [vR 10 0, vI x, vI y, vI z]) hcr (by decide) (by decide) rfl (Nat.le_of_ble_eq_true rfl) rfl ?_
  refine r_distance_s ?_
  refine g_cVv (n := 29) cg dX10_distance_26 rfl kw_X10_87 rfl (by decide) (z_lvP (by first | decide | assumption)) (Nat.le_of_ble_eq_true rfl) ⟨Nat.le_refl _, Nat.le_refl _⟩ ?_ rfl
  refine g_if_eq (n := 32) (t := 41) dX10_distance_29 rfl (by decide) (fun q9 => absurd q9 (by decide)) (fun _ => ?_)
  exact K
theorem r_why_s (hs : M 32 0 66 = nI s) (h8 : s ≤ 8) {x y z : Int32} {r : zRes} {M2 : Nat → Nat → Nat → Int32} (K : zG w mX10_why (d + 9) 0 29 [vR 10 0, vI x, vI y, vI z] [vI (zb (true)), vI (zb (z_ok x 8 && (z_ok y 4 && z_ok z s))), vR 10 0] (zP M O) r (zP M2 O)) : zG w mX10_why (d + 9) 0 0 [vR 10 0, vI x, vI y, vI z] [] (zP M O) r (zP M2 O) := by
  have t1 : ∀ v, v = zb (z_ok x 8 && (z_ok y 4 && z_ok z s)) → zG w mX10_why (d + 9) 0 28 [vR 10 0, vI x, vI y, vI z] [vI v, vR 10 0] (zP M O) r (zP M2 O) := by
    intro v hv
    rw [hv]
    refine g_iconst (n := 29) dX10_why_28 rfl k_ic_1 ?_
    exact K
  refine g_aload_n (n := 1) dX10_why_0 rfl rfl ?_
  refine g_iload_n (n := 2) dX10_why_1 rfl rfl ?_
  refine g_cSv (n := 5) (r_isTown x) dX10_why_2 rfl kw_X10_83 (Nat.le_of_ble_eq_true rfl) ⟨Nat.le_refl _, Nat.le_refl _⟩ ?_ rfl
  refine g_if_eq (n := 8) (t := 27) dX10_why_5 rfl (by decide) (fun c5 => ?_) (fun c5 => ?_)
  · refine g_iconst (n := 28) dX10_why_27 rfl k_ic_0 ?_
    exact t1 _ (zb_n1 c5)
  · refine g_iload_n (n := 9) dX10_why_8 rfl rfl ?_
    refine g_cSv (n := 12) (r_isHouse y) dX10_why_9 rfl kw_X10_101 (Nat.le_of_ble_eq_true rfl) ⟨Nat.le_refl _, Nat.le_refl _⟩ ?_ rfl
    refine g_if_eq (n := 15) (t := 27) dX10_why_12 rfl (by decide) (fun c12 => ?_) (fun c12 => ?_)
    · refine g_iconst (n := 28) dX10_why_27 rfl k_ic_0 ?_
      exact t1 _ ((zb_n2 (zb_n1 c12).symm))
    · refine g_aload_n (n := 16) dX10_why_15 rfl rfl ?_
      refine g_iload_n (n := 17) dX10_why_16 rfl rfl ?_
      refine g_cVv (n := 20) (r_isExit hs h8 z) dX10_why_17 rfl kw_X10_94 rfl (by decide) (z_lvP (by first | decide | assumption)) (Nat.le_of_ble_eq_true rfl) ⟨Nat.le_refl _, Nat.le_refl _⟩ ?_ rfl
      refine g_if_eq (n := 23) (t := 27) dX10_why_20 rfl (by decide) (fun c20 => ?_) (fun c20 => ?_)
      · refine g_iconst (n := 28) dX10_why_27 rfl k_ic_0 ?_
        exact t1 _ (zb_n3 c20)
      · refine g_iconst (n := 24) dX10_why_23 rfl k_ic_1 ?_
        refine g_goto (n := 0) (t := 28) dX10_why_24 (by decide) ?_
        exact t1 _ (zb_y3 c5 c12 c20)
theorem r_why_no (hs : M 32 0 66 = nI s) (h8 : s ≤ 8) {x y z : Int32} (h : ((z_ok x 8 && (z_ok y 4 && z_ok z s)) && (true)) = false) : zC w mX10_why (d + 9) [vR 10 0, vI x, vI y, vI z] (zP M O) (zrI (nI 0)) (zP (u3 M 10 0 3 (rTh (z_ok x 8 && (z_ok y 4 && z_ok z s)) (true))) O) := by
  have cg := r_goes (w := w) (d := d + 8) (M := M) (O := O) (z_ok x 8 && (z_ok y 4 && z_ok z s)) (true)
  rw [h] at cg
  refine zC_of (cr := 0) (L0 := [vR 10 0, vI x, vI y, vI z]) rfl (by decide) (by decide) rfl (Nat.le_of_ble_eq_true rfl) rfl ?_
  refine r_why_s hs h8 ?_
  refine g_cVv (n := 32) cg dX10_why_29 rfl kw_X10_87 rfl (by decide) (z_lvP (by first | decide | assumption)) (Nat.le_of_ble_eq_true rfl) ⟨Nat.le_refl _, Nat.le_refl _⟩ ?_ rfl
  refine g_if_eq (n := 35) (t := 45) dX10_why_32 rfl (by decide) (fun _ => ?_) (fun q9 => absurd rfl q9)
  refine g_iconst (n := 46) dX10_why_45 rfl k_ic_0 ?_
  exact g_ireturn dX10_why_46 rfl rfl rfl rfl
theorem r_why_y (hs : M 32 0 66 = nI s) (h8 : s ≤ 8) {x y z : Int32} {r : zRes} {M2 : Nat → Nat → Nat → Int32} (hcr : z_th r = 0) (h : ((z_ok x 8 && (z_ok y 4 && z_ok z s)) && (true)) = true) (K : zG w mX10_why (d + 9) 0 35 [vR 10 0, vI x, vI y, vI z] [] (zP (u3 M 10 0 3 (nI 0)) O) r (zP M2 O)) : zC w mX10_why (d + 9) [vR 10 0, vI x, vI y, vI z] (zP M O) r (zP M2 O) := by
  have cg := r_goes (w := w) (d := d + 8) (M := M) (O := O) (z_ok x 8 && (z_ok y 4 && z_ok z s)) (true)
  rw [h, rTh_0 h] at cg
  refine zC_of (cr := 0) (L0 := [vR 10 0, vI x, vI y, vI z]) hcr (by decide) (by decide) rfl (Nat.le_of_ble_eq_true rfl) rfl ?_
  refine r_why_s hs h8 ?_
  refine g_cVv (n := 32) cg dX10_why_29 rfl kw_X10_87 rfl (by decide) (z_lvP (by first | decide | assumption)) (Nat.le_of_ble_eq_true rfl) ⟨Nat.le_refl _, Nat.le_refl _⟩ ?_ rfl
  refine g_if_eq (n := 35) (t := 45) dX10_why_32 rfl (by decide) (fun q9 => absurd q9 (by decide)) (fun _ => ?_)
  exact K
theorem r_roadOf_s {x y : Int32} {r : zRes} {M2 : Nat → Nat → Nat → Int32} (K : zG w mX10_roadOf (d + 9) 0 21 [vR 10 0, vI x, vI y] [vI (zb (true)), vI (zb (z_ok x 8 && z_ok y 8)), vR 10 0] (zP M O) r (zP M2 O)) : zG w mX10_roadOf (d + 9) 0 0 [vR 10 0, vI x, vI y] [] (zP M O) r (zP M2 O) := by
  have t1 : ∀ v, v = zb (z_ok x 8 && z_ok y 8) → zG w mX10_roadOf (d + 9) 0 20 [vR 10 0, vI x, vI y] [vI v, vR 10 0] (zP M O) r (zP M2 O) := by
    intro v hv
    rw [hv]
    refine g_iconst (n := 21) dX10_roadOf_20 rfl k_ic_1 ?_
    exact K
  refine g_aload_n (n := 1) dX10_roadOf_0 rfl rfl ?_
  refine g_iload_n (n := 2) dX10_roadOf_1 rfl rfl ?_
  refine g_cSv (n := 5) (r_isTown x) dX10_roadOf_2 rfl kw_X10_83 (Nat.le_of_ble_eq_true rfl) ⟨Nat.le_refl _, Nat.le_refl _⟩ ?_ rfl
  refine g_if_eq (n := 8) (t := 19) dX10_roadOf_5 rfl (by decide) (fun c5 => ?_) (fun c5 => ?_)
  · refine g_iconst (n := 20) dX10_roadOf_19 rfl k_ic_0 ?_
    exact t1 _ (zb_n1 c5)
  · refine g_iload_n (n := 9) dX10_roadOf_8 rfl rfl ?_
    refine g_cSv (n := 12) (r_isTown y) dX10_roadOf_9 rfl kw_X10_83 (Nat.le_of_ble_eq_true rfl) ⟨Nat.le_refl _, Nat.le_refl _⟩ ?_ rfl
    refine g_if_eq (n := 15) (t := 19) dX10_roadOf_12 rfl (by decide) (fun c12 => ?_) (fun c12 => ?_)
    · refine g_iconst (n := 20) dX10_roadOf_19 rfl k_ic_0 ?_
      exact t1 _ (zb_n2 c12)
    · refine g_iconst (n := 16) dX10_roadOf_15 rfl k_ic_1 ?_
      refine g_goto (n := 0) (t := 20) dX10_roadOf_16 (by decide) ?_
      exact t1 _ (zb_y2 c5 c12)
theorem r_roadOf_no {x y : Int32} (h : ((z_ok x 8 && z_ok y 8) && (true)) = false) : zC w mX10_roadOf (d + 9) [vR 10 0, vI x, vI y] (zP M O) (zrI (nI 0)) (zP (u3 M 10 0 3 (rTh (z_ok x 8 && z_ok y 8) (true))) O) := by
  have cg := r_goes (w := w) (d := d + 8) (M := M) (O := O) (z_ok x 8 && z_ok y 8) (true)
  rw [h] at cg
  refine zC_of (cr := 0) (L0 := [vR 10 0, vI x, vI y]) rfl (by decide) (by decide) rfl (Nat.le_of_ble_eq_true rfl) rfl ?_
  refine r_roadOf_s ?_
  refine g_cVv (n := 24) cg dX10_roadOf_21 rfl kw_X10_87 rfl (by decide) (z_lvP (by first | decide | assumption)) (Nat.le_of_ble_eq_true rfl) ⟨Nat.le_refl _, Nat.le_refl _⟩ ?_ rfl
  refine g_if_eq (n := 27) (t := 43) dX10_roadOf_24 rfl (by decide) (fun _ => ?_) (fun q9 => absurd rfl q9)
  refine g_iconst (n := 44) dX10_roadOf_43 rfl k_ic_0 ?_
  exact g_ireturn dX10_roadOf_44 rfl rfl rfl rfl
theorem r_roadOf_y {x y : Int32} {r : zRes} {M2 : Nat → Nat → Nat → Int32} (hcr : z_th r = 0) (h : ((z_ok x 8 && z_ok y 8) && (true)) = true) (K : zG w mX10_roadOf (d + 9) 0 27 [vR 10 0, vI x, vI y] [] (zP (u3 M 10 0 3 (nI 0)) O) r (zP M2 O)) : zC w mX10_roadOf (d + 9) [vR 10 0, vI x, vI y] (zP M O) r (zP M2 O) := by
  have cg := r_goes (w := w) (d := d + 8) (M := M) (O := O) (z_ok x 8 && z_ok y 8) (true)
  rw [h, rTh_0 h] at cg
  refine zC_of (cr := 0) (L0 := [vR 10 0, vI x, vI y]) hcr (by decide) (by decide) rfl (Nat.le_of_ble_eq_true rfl) rfl ?_
  refine r_roadOf_s ?_
  refine g_cVv (n := 24) cg dX10_roadOf_21 rfl kw_X10_87 rfl (by decide) (z_lvP (by first | decide | assumption)) (Nat.le_of_ble_eq_true rfl) ⟨Nat.le_refl _, Nat.le_refl _⟩ ?_ rfl
  refine g_if_eq (n := 27) (t := 43) dX10_roadOf_24 rfl (by decide) (fun q9 => absurd q9 (by decide)) (fun _ => ?_)
  exact K
theorem r_offer_s {x y z : Int32} {r : zRes} {M2 : Nat → Nat → Nat → Int32} (K : zG w mX10_offer (d + 9) 0 29 [vR 10 0, vI x, vI y, vI z] [vI (zb (z_ok z 10)), vI (zb (z_ok x 4 && z_ok y 4)), vR 10 0] (zP M O) r (zP M2 O)) : zG w mX10_offer (d + 9) 0 0 [vR 10 0, vI x, vI y, vI z] [] (zP M O) r (zP M2 O) := by
  have t1 : ∀ v, v = zb (z_ok x 4 && z_ok y 4) → zG w mX10_offer (d + 9) 0 22 [vR 10 0, vI x, vI y, vI z] [vI v, vR 10 0] (zP M O) r (zP M2 O) := by
    intro v hv
    rw [hv]
    refine g_iload_n (n := 23) dX10_offer_22 rfl rfl ?_
    refine g_iconst (n := 24) dX10_offer_23 rfl k_ic_0 ?_
    refine g_bipush (n := 26) dX10_offer_24 rfl k_bp_9 ?_
    refine g_cSv (n := 29) (r_inZ (n := 9) (by decide) z) dX10_offer_26 rfl kw_X10_45 (Nat.le_of_ble_eq_true rfl) ⟨Nat.le_refl _, Nat.le_refl _⟩ ?_ rfl
    exact K
  refine g_aload_n (n := 1) dX10_offer_0 rfl rfl ?_
  refine g_iload_n (n := 2) dX10_offer_1 rfl rfl ?_
  refine g_iconst (n := 3) dX10_offer_2 rfl k_ic_0 ?_
  refine g_iconst (n := 4) dX10_offer_3 rfl k_ic_3 ?_
  refine g_cSv (n := 7) (r_inZ (n := 3) (by decide) x) dX10_offer_4 rfl kw_X10_45 (Nat.le_of_ble_eq_true rfl) ⟨Nat.le_refl _, Nat.le_refl _⟩ ?_ rfl
  refine g_if_eq (n := 10) (t := 21) dX10_offer_7 rfl (by decide) (fun c7 => ?_) (fun c7 => ?_)
  · refine g_iconst (n := 22) dX10_offer_21 rfl k_ic_0 ?_
    exact t1 _ (zb_n1 c7)
  · refine g_iload_n (n := 11) dX10_offer_10 rfl rfl ?_
    refine g_cSv (n := 14) (r_isHouse y) dX10_offer_11 rfl kw_X10_101 (Nat.le_of_ble_eq_true rfl) ⟨Nat.le_refl _, Nat.le_refl _⟩ ?_ rfl
    refine g_if_eq (n := 17) (t := 21) dX10_offer_14 rfl (by decide) (fun c14 => ?_) (fun c14 => ?_)
    · refine g_iconst (n := 22) dX10_offer_21 rfl k_ic_0 ?_
      exact t1 _ (zb_n2 c14)
    · refine g_iconst (n := 18) dX10_offer_17 rfl k_ic_1 ?_
      refine g_goto (n := 0) (t := 22) dX10_offer_18 (by decide) ?_
      exact t1 _ (zb_y2 c7 c14)
theorem r_offer_no {x y z : Int32} (h : ((z_ok x 4 && z_ok y 4) && (z_ok z 10)) = false) : zC w mX10_offer (d + 9) [vR 10 0, vI x, vI y, vI z] (zP M O) (zrI (nI 0)) (zP (u3 M 10 0 3 (rTh (z_ok x 4 && z_ok y 4) (z_ok z 10))) O) := by
  have cg := r_goes (w := w) (d := d + 8) (M := M) (O := O) (z_ok x 4 && z_ok y 4) (z_ok z 10)
  rw [h] at cg
  refine zC_of (cr := 0) (L0 := [vR 10 0, vI x, vI y, vI z]) rfl (by decide) (by decide) rfl (Nat.le_of_ble_eq_true rfl) rfl ?_
  refine r_offer_s ?_
  refine g_cVv (n := 32) cg dX10_offer_29 rfl kw_X10_87 rfl (by decide) (z_lvP (by first | decide | assumption)) (Nat.le_of_ble_eq_true rfl) ⟨Nat.le_refl _, Nat.le_refl _⟩ ?_ rfl
  refine g_if_ne (n := 35) (t := 37) dX10_offer_32 rfl (by decide) (fun q9 => absurd rfl q9) (fun _ => ?_)
  refine g_iconst (n := 36) dX10_offer_35 rfl k_ic_0 ?_
  exact g_ireturn dX10_offer_36 rfl rfl rfl rfl
theorem r_offer_y {x y z : Int32} {r : zRes} {M2 : Nat → Nat → Nat → Int32} (hcr : z_th r = 0) (h : ((z_ok x 4 && z_ok y 4) && (z_ok z 10)) = true) (K : zG w mX10_offer (d + 9) 0 37 [vR 10 0, vI x, vI y, vI z] [] (zP (u3 M 10 0 3 (nI 0)) O) r (zP M2 O)) : zC w mX10_offer (d + 9) [vR 10 0, vI x, vI y, vI z] (zP M O) r (zP M2 O) := by
  have cg := r_goes (w := w) (d := d + 8) (M := M) (O := O) (z_ok x 4 && z_ok y 4) (z_ok z 10)
  rw [h, rTh_0 h] at cg
  refine zC_of (cr := 0) (L0 := [vR 10 0, vI x, vI y, vI z]) hcr (by decide) (by decide) rfl (Nat.le_of_ble_eq_true rfl) rfl ?_
  refine r_offer_s ?_
  refine g_cVv (n := 32) cg dX10_offer_29 rfl kw_X10_87 rfl (by decide) (z_lvP (by first | decide | assumption)) (Nat.le_of_ble_eq_true rfl) ⟨Nat.le_refl _, Nat.le_refl _⟩ ?_ rfl
  refine g_if_ne (n := 35) (t := 37) dX10_offer_32 rfl (by decide) (fun _ => ?_) (fun q9 => absurd q9 (by decide))
  exact K
theorem r_exit_s {x y : Int32} {r : zRes} {M2 : Nat → Nat → Nat → Int32} (K : zG w mX10_exit (d + 9) 0 39 [vR 10 0, vI x, vI y, vU] [vI (zb (decide (M 32 0 66 < nI 8))), vI (zb (z_ok x 8 && z_ok y 4)), vR 10 0] (zP M O) r (zP M2 O)) : zG w mX10_exit (d + 9) 0 0 [vR 10 0, vI x, vI y, vU] [] (zP M O) r (zP M2 O) := by
  have t2 : ∀ v, v = zb (decide (M 32 0 66 < nI 8)) → zG w mX10_exit (d + 9) 0 39 [vR 10 0, vI x, vI y, vU] [vI v, vI (zb (z_ok x 8 && z_ok y 4)), vR 10 0] (zP M O) r (zP M2 O) := by
    intro v hv
    rw [hv]
    exact K
  have t1 : ∀ v, v = zb (z_ok x 8 && z_ok y 4) → zG w mX10_exit (d + 9) 0 22 [vR 10 0, vI x, vI y, vU] [vI v, vR 10 0] (zP M O) r (zP M2 O) := by
    intro v hv
    rw [hv]
    refine g_aload_n (n := 23) dX10_exit_22 rfl rfl ?_
    refine gf_X10_7 (n := 26) dX10_exit_23 rfl rfl (z_lvP (by first | decide | assumption)) rfl ?_
    refine g_bipush (n := 28) dX10_exit_26 rfl k_bp_66 ?_
    refine g_iald (n := 29) dX10_exit_28 rfl (by decide) (z_lvP (by first | decide | assumption)) rfl (by show _ < 1740; first | assumption | omega) ?_
    refine g_bipush (n := 31) dX10_exit_29 rfl k_bp_8 ?_
    refine g_icmp_ge (n := 34) (t := 38) dX10_exit_31 rfl (by decide) (fun c31 => ?_) (fun c31 => ?_)
    · refine g_iconst (n := 39) dX10_exit_38 rfl k_ic_0 ?_
      exact t2 _ (zb_dn (Int32.not_lt.mpr c31))
    · refine g_iconst (n := 35) dX10_exit_34 rfl k_ic_1 ?_
      refine g_goto (n := 0) (t := 39) dX10_exit_35 (by decide) ?_
      exact t2 _ (zb_dy (Int32.not_le.mp c31))
  refine g_aload_n (n := 1) dX10_exit_0 rfl rfl ?_
  refine g_iload_n (n := 2) dX10_exit_1 rfl rfl ?_
  refine g_cSv (n := 5) (r_isTown x) dX10_exit_2 rfl kw_X10_83 (Nat.le_of_ble_eq_true rfl) ⟨Nat.le_refl _, Nat.le_refl _⟩ ?_ rfl
  refine g_if_eq (n := 8) (t := 21) dX10_exit_5 rfl (by decide) (fun c5 => ?_) (fun c5 => ?_)
  · refine g_iconst (n := 22) dX10_exit_21 rfl k_ic_0 ?_
    exact t1 _ (zb_n1 c5)
  · refine g_iload_n (n := 9) dX10_exit_8 rfl rfl ?_
    refine g_iconst (n := 10) dX10_exit_9 rfl k_ic_0 ?_
    refine g_iconst (n := 11) dX10_exit_10 rfl k_ic_3 ?_
    refine g_cSv (n := 14) (r_inZ (n := 3) (by decide) y) dX10_exit_11 rfl kw_X10_45 (Nat.le_of_ble_eq_true rfl) ⟨Nat.le_refl _, Nat.le_refl _⟩ ?_ rfl
    refine g_if_eq (n := 17) (t := 21) dX10_exit_14 rfl (by decide) (fun c14 => ?_) (fun c14 => ?_)
    · refine g_iconst (n := 22) dX10_exit_21 rfl k_ic_0 ?_
      exact t1 _ (zb_n2 c14)
    · refine g_iconst (n := 18) dX10_exit_17 rfl k_ic_1 ?_
      refine g_goto (n := 0) (t := 22) dX10_exit_18 (by decide) ?_
      exact t1 _ (zb_y2 c5 c14)
theorem r_exit_no {x y : Int32} (h : ((z_ok x 8 && z_ok y 4) && (decide (M 32 0 66 < nI 8))) = false) : zC w mX10_exit (d + 9) [vR 10 0, vI x, vI y] (zP M O) (zrI (nI 0)) (zP (u3 M 10 0 3 (rTh (z_ok x 8 && z_ok y 4) (decide (M 32 0 66 < nI 8)))) O) := by
  have cg := r_goes (w := w) (d := d + 8) (M := M) (O := O) (z_ok x 8 && z_ok y 4) (decide (M 32 0 66 < nI 8))
  rw [h] at cg
  refine zC_of (cr := 0) (L0 := [vR 10 0, vI x, vI y, vU]) rfl (by decide) (by decide) rfl (Nat.le_of_ble_eq_true rfl) rfl ?_
  refine r_exit_s ?_
  refine g_cVv (n := 42) cg dX10_exit_39 rfl kw_X10_87 rfl (by decide) (z_lvP (by first | decide | assumption)) (Nat.le_of_ble_eq_true rfl) ⟨Nat.le_refl _, Nat.le_refl _⟩ ?_ rfl
  refine g_if_ne (n := 45) (t := 47) dX10_exit_42 rfl (by decide) (fun q9 => absurd rfl q9) (fun _ => ?_)
  refine g_iconst (n := 46) dX10_exit_45 rfl k_ic_0 ?_
  exact g_ireturn dX10_exit_46 rfl rfl rfl rfl
theorem r_exit_y {x y : Int32} {r : zRes} {M2 : Nat → Nat → Nat → Int32} (hcr : z_th r = 0) (h : ((z_ok x 8 && z_ok y 4) && (decide (M 32 0 66 < nI 8))) = true) (K : zG w mX10_exit (d + 9) 0 47 [vR 10 0, vI x, vI y, vU] [] (zP (u3 M 10 0 3 (nI 0)) O) r (zP M2 O)) : zC w mX10_exit (d + 9) [vR 10 0, vI x, vI y] (zP M O) r (zP M2 O) := by
  have cg := r_goes (w := w) (d := d + 8) (M := M) (O := O) (z_ok x 8 && z_ok y 4) (decide (M 32 0 66 < nI 8))
  rw [h, rTh_0 h] at cg
  refine zC_of (cr := 0) (L0 := [vR 10 0, vI x, vI y, vU]) hcr (by decide) (by decide) rfl (Nat.le_of_ble_eq_true rfl) rfl ?_
  refine r_exit_s ?_
  refine g_cVv (n := 42) cg dX10_exit_39 rfl kw_X10_87 rfl (by decide) (z_lvP (by first | decide | assumption)) (Nat.le_of_ble_eq_true rfl) ⟨Nat.le_refl _, Nat.le_refl _⟩ ?_ rfl
  refine g_if_ne (n := 45) (t := 47) dX10_exit_42 rfl (by decide) (fun _ => ?_) (fun q9 => absurd q9 (by decide))
  exact K
theorem r_bound_s {x y : Int32} {r : zRes} {M2 : Nat → Nat → Nat → Int32} (K : zG w mX10_bound (d + 9) 0 14 [vR 10 0, vI x, vI y] [vI (zb (z_ok y 100)), vI (zb (z_ok x 4)), vR 10 0] (zP M O) r (zP M2 O)) : zG w mX10_bound (d + 9) 0 0 [vR 10 0, vI x, vI y] [] (zP M O) r (zP M2 O) := by
  refine g_aload_n (n := 1) dX10_bound_0 rfl rfl ?_
  refine g_iload_n (n := 2) dX10_bound_1 rfl rfl ?_
  refine g_iconst (n := 3) dX10_bound_2 rfl k_ic_0 ?_
  refine g_iconst (n := 4) dX10_bound_3 rfl k_ic_3 ?_
  refine g_cSv (n := 7) (r_inZ (n := 3) (by decide) x) dX10_bound_4 rfl kw_X10_45 (Nat.le_of_ble_eq_true rfl) ⟨Nat.le_refl _, Nat.le_refl _⟩ ?_ rfl
  refine g_iload_n (n := 8) dX10_bound_7 rfl rfl ?_
  refine g_iconst (n := 9) dX10_bound_8 rfl k_ic_0 ?_
  refine g_bipush (n := 11) dX10_bound_9 rfl k_bp_99 ?_
  refine g_cSv (n := 14) (r_inZ (n := 99) (by decide) y) dX10_bound_11 rfl kw_X10_45 (Nat.le_of_ble_eq_true rfl) ⟨Nat.le_refl _, Nat.le_refl _⟩ ?_ rfl
  exact K
theorem r_bound_no {x y : Int32} (h : ((z_ok x 4) && (z_ok y 100)) = false) : zC w mX10_bound (d + 9) [vR 10 0, vI x, vI y] (zP M O) (zrI (nI 0)) (zP (u3 M 10 0 3 (rTh (z_ok x 4) (z_ok y 100))) O) := by
  have cg := r_goes (w := w) (d := d + 8) (M := M) (O := O) (z_ok x 4) (z_ok y 100)
  rw [h] at cg
  refine zC_of (cr := 0) (L0 := [vR 10 0, vI x, vI y]) rfl (by decide) (by decide) rfl (Nat.le_of_ble_eq_true rfl) rfl ?_
  refine r_bound_s ?_
  refine g_cVv (n := 17) cg dX10_bound_14 rfl kw_X10_87 rfl (by decide) (z_lvP (by first | decide | assumption)) (Nat.le_of_ble_eq_true rfl) ⟨Nat.le_refl _, Nat.le_refl _⟩ ?_ rfl
  refine g_if_ne (n := 20) (t := 22) dX10_bound_17 rfl (by decide) (fun q9 => absurd rfl q9) (fun _ => ?_)
  refine g_iconst (n := 21) dX10_bound_20 rfl k_ic_0 ?_
  exact g_ireturn dX10_bound_21 rfl rfl rfl rfl
theorem r_bound_y {x y : Int32} {r : zRes} {M2 : Nat → Nat → Nat → Int32} (hcr : z_th r = 0) (h : ((z_ok x 4) && (z_ok y 100)) = true) (K : zG w mX10_bound (d + 9) 0 22 [vR 10 0, vI x, vI y] [] (zP (u3 M 10 0 3 (nI 0)) O) r (zP M2 O)) : zC w mX10_bound (d + 9) [vR 10 0, vI x, vI y] (zP M O) r (zP M2 O) := by
  have cg := r_goes (w := w) (d := d + 8) (M := M) (O := O) (z_ok x 4) (z_ok y 100)
  rw [h, rTh_0 h] at cg
  refine zC_of (cr := 0) (L0 := [vR 10 0, vI x, vI y]) hcr (by decide) (by decide) rfl (Nat.le_of_ble_eq_true rfl) rfl ?_
  refine r_bound_s ?_
  refine g_cVv (n := 17) cg dX10_bound_14 rfl kw_X10_87 rfl (by decide) (z_lvP (by first | decide | assumption)) (Nat.le_of_ble_eq_true rfl) ⟨Nat.le_refl _, Nat.le_refl _⟩ ?_ rfl
  refine g_if_ne (n := 20) (t := 22) dX10_bound_17 rfl (by decide) (fun _ => ?_) (fun q9 => absurd q9 (by decide))
  exact K
theorem r_set_s {x y : Int32} {r : zRes} {M2 : Nat → Nat → Nat → Int32} (K : zG w mX10_set (d + 9) 0 13 [vR 10 0, vI x, vI y] [vI (zb (z_ok y 2)), vI (zb (z_ok x 2)), vR 10 0] (zP M O) r (zP M2 O)) : zG w mX10_set (d + 9) 0 0 [vR 10 0, vI x, vI y] [] (zP M O) r (zP M2 O) := by
  refine g_aload_n (n := 1) dX10_set_0 rfl rfl ?_
  refine g_iload_n (n := 2) dX10_set_1 rfl rfl ?_
  refine g_iconst (n := 3) dX10_set_2 rfl k_ic_0 ?_
  refine g_iconst (n := 4) dX10_set_3 rfl k_ic_1 ?_
  refine g_cSv (n := 7) (r_inZ (n := 1) (by decide) x) dX10_set_4 rfl kw_X10_45 (Nat.le_of_ble_eq_true rfl) ⟨Nat.le_refl _, Nat.le_refl _⟩ ?_ rfl
  refine g_iload_n (n := 8) dX10_set_7 rfl rfl ?_
  refine g_iconst (n := 9) dX10_set_8 rfl k_ic_0 ?_
  refine g_iconst (n := 10) dX10_set_9 rfl k_ic_1 ?_
  refine g_cSv (n := 13) (r_inZ (n := 1) (by decide) y) dX10_set_10 rfl kw_X10_45 (Nat.le_of_ble_eq_true rfl) ⟨Nat.le_refl _, Nat.le_refl _⟩ ?_ rfl
  exact K
theorem r_set_no {x y : Int32} (h : ((z_ok x 2) && (z_ok y 2)) = false) : zC w mX10_set (d + 9) [vR 10 0, vI x, vI y] (zP M O) (zrI (nI 0)) (zP (u3 M 10 0 3 (rTh (z_ok x 2) (z_ok y 2))) O) := by
  have cg := r_goes (w := w) (d := d + 8) (M := M) (O := O) (z_ok x 2) (z_ok y 2)
  rw [h] at cg
  refine zC_of (cr := 0) (L0 := [vR 10 0, vI x, vI y]) rfl (by decide) (by decide) rfl (Nat.le_of_ble_eq_true rfl) rfl ?_
  refine r_set_s ?_
  refine g_cVv (n := 16) cg dX10_set_13 rfl kw_X10_87 rfl (by decide) (z_lvP (by first | decide | assumption)) (Nat.le_of_ble_eq_true rfl) ⟨Nat.le_refl _, Nat.le_refl _⟩ ?_ rfl
  refine g_if_ne (n := 19) (t := 21) dX10_set_16 rfl (by decide) (fun q9 => absurd rfl q9) (fun _ => ?_)
  refine g_iconst (n := 20) dX10_set_19 rfl k_ic_0 ?_
  exact g_ireturn dX10_set_20 rfl rfl rfl rfl
theorem r_set_y {x y : Int32} {r : zRes} {M2 : Nat → Nat → Nat → Int32} (hcr : z_th r = 0) (h : ((z_ok x 2) && (z_ok y 2)) = true) (K : zG w mX10_set (d + 9) 0 21 [vR 10 0, vI x, vI y] [] (zP (u3 M 10 0 3 (nI 0)) O) r (zP M2 O)) : zC w mX10_set (d + 9) [vR 10 0, vI x, vI y] (zP M O) r (zP M2 O) := by
  have cg := r_goes (w := w) (d := d + 8) (M := M) (O := O) (z_ok x 2) (z_ok y 2)
  rw [h, rTh_0 h] at cg
  refine zC_of (cr := 0) (L0 := [vR 10 0, vI x, vI y]) hcr (by decide) (by decide) rfl (Nat.le_of_ble_eq_true rfl) rfl ?_
  refine r_set_s ?_
  refine g_cVv (n := 16) cg dX10_set_13 rfl kw_X10_87 rfl (by decide) (z_lvP (by first | decide | assumption)) (Nat.le_of_ble_eq_true rfl) ⟨Nat.le_refl _, Nat.le_refl _⟩ ?_ rfl
  refine g_if_ne (n := 19) (t := 21) dX10_set_16 rfl (by decide) (fun _ => ?_) (fun q9 => absurd q9 (by decide))
  exact K
theorem r_exitOf_s (hs : M 32 0 66 = nI s) (h8 : s ≤ 8) {x y : Int32} {r : zRes} {M2 : Nat → Nat → Nat → Int32} (K : zG w mX10_exitOf (d + 9) 0 12 [vR 10 0, vI x, vI y] [vI (zb (z_ok y 5)), vI (zb (z_ok x s)), vR 10 0] (zP M O) r (zP M2 O)) : zG w mX10_exitOf (d + 9) 0 0 [vR 10 0, vI x, vI y] [] (zP M O) r (zP M2 O) := by
  refine g_aload_n (n := 1) dX10_exitOf_0 rfl rfl ?_
  refine g_aload_n (n := 2) dX10_exitOf_1 rfl rfl ?_
  refine g_iload_n (n := 3) dX10_exitOf_2 rfl rfl ?_
  refine g_cVv (n := 6) (r_isExit hs h8 x) dX10_exitOf_3 rfl kw_X10_94 rfl (by decide) (z_lvP (by first | decide | assumption)) (Nat.le_of_ble_eq_true rfl) ⟨Nat.le_refl _, Nat.le_refl _⟩ ?_ rfl
  refine g_iload_n (n := 7) dX10_exitOf_6 rfl rfl ?_
  refine g_iconst (n := 8) dX10_exitOf_7 rfl k_ic_0 ?_
  refine g_iconst (n := 9) dX10_exitOf_8 rfl k_ic_4 ?_
  refine g_cSv (n := 12) (r_inZ (n := 4) (by decide) y) dX10_exitOf_9 rfl kw_X10_45 (Nat.le_of_ble_eq_true rfl) ⟨Nat.le_refl _, Nat.le_refl _⟩ ?_ rfl
  exact K
theorem r_exitOf_no (hs : M 32 0 66 = nI s) (h8 : s ≤ 8) {x y : Int32} (h : ((z_ok x s) && (z_ok y 5)) = false) : zC w mX10_exitOf (d + 9) [vR 10 0, vI x, vI y] (zP M O) (zrI (nI 0)) (zP (u3 M 10 0 3 (rTh (z_ok x s) (z_ok y 5))) O) := by
  have cg := r_goes (w := w) (d := d + 8) (M := M) (O := O) (z_ok x s) (z_ok y 5)
  rw [h] at cg
  refine zC_of (cr := 0) (L0 := [vR 10 0, vI x, vI y]) rfl (by decide) (by decide) rfl (Nat.le_of_ble_eq_true rfl) rfl ?_
  refine r_exitOf_s hs h8 ?_
  refine g_cVv (n := 15) cg dX10_exitOf_12 rfl kw_X10_87 rfl (by decide) (z_lvP (by first | decide | assumption)) (Nat.le_of_ble_eq_true rfl) ⟨Nat.le_refl _, Nat.le_refl _⟩ ?_ rfl
  refine g_if_eq (n := 18) (t := 33) dX10_exitOf_15 rfl (by decide) (fun _ => ?_) (fun q9 => absurd rfl q9)
  refine g_iconst (n := 34) dX10_exitOf_33 rfl k_ic_0 ?_
  exact g_ireturn dX10_exitOf_34 rfl rfl rfl rfl
theorem r_exitOf_y (hs : M 32 0 66 = nI s) (h8 : s ≤ 8) {x y : Int32} {r : zRes} {M2 : Nat → Nat → Nat → Int32} (hcr : z_th r = 0) (h : ((z_ok x s) && (z_ok y 5)) = true) (K : zG w mX10_exitOf (d + 9) 0 18 [vR 10 0, vI x, vI y] [] (zP (u3 M 10 0 3 (nI 0)) O) r (zP M2 O)) : zC w mX10_exitOf (d + 9) [vR 10 0, vI x, vI y] (zP M O) r (zP M2 O) := by
  have cg := r_goes (w := w) (d := d + 8) (M := M) (O := O) (z_ok x s) (z_ok y 5)
  rw [h, rTh_0 h] at cg
  refine zC_of (cr := 0) (L0 := [vR 10 0, vI x, vI y]) hcr (by decide) (by decide) rfl (Nat.le_of_ble_eq_true rfl) rfl ?_
  refine r_exitOf_s hs h8 ?_
  refine g_cVv (n := 15) cg dX10_exitOf_12 rfl kw_X10_87 rfl (by decide) (z_lvP (by first | decide | assumption)) (Nat.le_of_ble_eq_true rfl) ⟨Nat.le_refl _, Nat.le_refl _⟩ ?_ rfl
  refine g_if_eq (n := 18) (t := 33) dX10_exitOf_15 rfl (by decide) (fun q9 => absurd q9 (by decide)) (fun _ => ?_)
  exact K
theorem r_neighbourOf_s {x y : Int32} {r : zRes} {M2 : Nat → Nat → Nat → Int32} (K : zG w mX10_neighbourOf (d + 9) 0 14 [vR 10 0, vI x, vI y] [vI (zb (z_ok y 8)), vI (zb (z_ok x 4)), vR 10 0] (zP M O) r (zP M2 O)) : zG w mX10_neighbourOf (d + 9) 0 0 [vR 10 0, vI x, vI y] [] (zP M O) r (zP M2 O) := by
  refine g_aload_n (n := 1) dX10_neighbourOf_0 rfl rfl ?_
  refine g_iload_n (n := 2) dX10_neighbourOf_1 rfl rfl ?_
  refine g_iconst (n := 3) dX10_neighbourOf_2 rfl k_ic_0 ?_
  refine g_iconst (n := 4) dX10_neighbourOf_3 rfl k_ic_3 ?_
  refine g_cSv (n := 7) (r_inZ (n := 3) (by decide) x) dX10_neighbourOf_4 rfl kw_X10_45 (Nat.le_of_ble_eq_true rfl) ⟨Nat.le_refl _, Nat.le_refl _⟩ ?_ rfl
  refine g_iload_n (n := 8) dX10_neighbourOf_7 rfl rfl ?_
  refine g_iconst (n := 9) dX10_neighbourOf_8 rfl k_ic_0 ?_
  refine g_bipush (n := 11) dX10_neighbourOf_9 rfl k_bp_7 ?_
  refine g_cSv (n := 14) (r_inZ (n := 7) (by decide) y) dX10_neighbourOf_11 rfl kw_X10_45 (Nat.le_of_ble_eq_true rfl) ⟨Nat.le_refl _, Nat.le_refl _⟩ ?_ rfl
  exact K
theorem r_neighbourOf_no {x y : Int32} (h : ((z_ok x 4) && (z_ok y 8)) = false) : zC w mX10_neighbourOf (d + 9) [vR 10 0, vI x, vI y] (zP M O) (zrI (nI 0)) (zP (u3 M 10 0 3 (rTh (z_ok x 4) (z_ok y 8))) O) := by
  have cg := r_goes (w := w) (d := d + 8) (M := M) (O := O) (z_ok x 4) (z_ok y 8)
  rw [h] at cg
  refine zC_of (cr := 0) (L0 := [vR 10 0, vI x, vI y]) rfl (by decide) (by decide) rfl (Nat.le_of_ble_eq_true rfl) rfl ?_
  refine r_neighbourOf_s ?_
  refine g_cVv (n := 17) cg dX10_neighbourOf_14 rfl kw_X10_87 rfl (by decide) (z_lvP (by first | decide | assumption)) (Nat.le_of_ble_eq_true rfl) ⟨Nat.le_refl _, Nat.le_refl _⟩ ?_ rfl
  refine g_if_eq (n := 20) (t := 29) dX10_neighbourOf_17 rfl (by decide) (fun _ => ?_) (fun q9 => absurd rfl q9)
  refine g_iconst (n := 30) dX10_neighbourOf_29 rfl k_ic_0 ?_
  exact g_ireturn dX10_neighbourOf_30 rfl rfl rfl rfl
theorem r_neighbourOf_y {x y : Int32} {r : zRes} {M2 : Nat → Nat → Nat → Int32} (hcr : z_th r = 0) (h : ((z_ok x 4) && (z_ok y 8)) = true) (K : zG w mX10_neighbourOf (d + 9) 0 20 [vR 10 0, vI x, vI y] [] (zP (u3 M 10 0 3 (nI 0)) O) r (zP M2 O)) : zC w mX10_neighbourOf (d + 9) [vR 10 0, vI x, vI y] (zP M O) r (zP M2 O) := by
  have cg := r_goes (w := w) (d := d + 8) (M := M) (O := O) (z_ok x 4) (z_ok y 8)
  rw [h, rTh_0 h] at cg
  refine zC_of (cr := 0) (L0 := [vR 10 0, vI x, vI y]) hcr (by decide) (by decide) rfl (Nat.le_of_ble_eq_true rfl) rfl ?_
  refine r_neighbourOf_s ?_
  refine g_cVv (n := 17) cg dX10_neighbourOf_14 rfl kw_X10_87 rfl (by decide) (z_lvP (by first | decide | assumption)) (Nat.le_of_ble_eq_true rfl) ⟨Nat.le_refl _, Nat.le_refl _⟩ ?_ rfl
  refine g_if_eq (n := 20) (t := 29) dX10_neighbourOf_17 rfl (by decide) (fun q9 => absurd q9 (by decide)) (fun _ => ?_)
  exact K
theorem r_turn_s (hs : M 32 0 66 = nI s) (h8 : s ≤ 8) {x : Int32} {r : zRes} {M2 : Nat → Nat → Nat → Int32} (K : zG w mX10_turn (d + 9) 0 7 [vR 10 0, vI x] [vI (zb (true)), vI (zb (z_ok x s)), vR 10 0] (zP M O) r (zP M2 O)) : zG w mX10_turn (d + 9) 0 0 [vR 10 0, vI x] [] (zP M O) r (zP M2 O) := by
  refine g_aload_n (n := 1) dX10_turn_0 rfl rfl ?_
  refine g_aload_n (n := 2) dX10_turn_1 rfl rfl ?_
  refine g_iload_n (n := 3) dX10_turn_2 rfl rfl ?_
  refine g_cVv (n := 6) (r_isExit hs h8 x) dX10_turn_3 rfl kw_X10_94 rfl (by decide) (z_lvP (by first | decide | assumption)) (Nat.le_of_ble_eq_true rfl) ⟨Nat.le_refl _, Nat.le_refl _⟩ ?_ rfl
  refine g_iconst (n := 7) dX10_turn_6 rfl k_ic_1 ?_
  exact K
theorem r_turn_no (hs : M 32 0 66 = nI s) (h8 : s ≤ 8) {x : Int32} (h : ((z_ok x s) && (true)) = false) : zC w mX10_turn (d + 9) [vR 10 0, vI x] (zP M O) (zrI (nI 0)) (zP (u3 M 10 0 3 (rTh (z_ok x s) (true))) O) := by
  have cg := r_goes (w := w) (d := d + 8) (M := M) (O := O) (z_ok x s) (true)
  rw [h] at cg
  refine zC_of (cr := 0) (L0 := [vR 10 0, vI x]) rfl (by decide) (by decide) rfl (Nat.le_of_ble_eq_true rfl) rfl ?_
  refine r_turn_s hs h8 ?_
  refine g_cVv (n := 10) cg dX10_turn_7 rfl kw_X10_87 rfl (by decide) (z_lvP (by first | decide | assumption)) (Nat.le_of_ble_eq_true rfl) ⟨Nat.le_refl _, Nat.le_refl _⟩ ?_ rfl
  refine g_if_ne (n := 13) (t := 15) dX10_turn_10 rfl (by decide) (fun q9 => absurd rfl q9) (fun _ => ?_)
  refine g_iconst (n := 14) dX10_turn_13 rfl k_ic_0 ?_
  exact g_ireturn dX10_turn_14 rfl rfl rfl rfl
theorem r_turn_y (hs : M 32 0 66 = nI s) (h8 : s ≤ 8) {x : Int32} {r : zRes} {M2 : Nat → Nat → Nat → Int32} (hcr : z_th r = 0) (h : ((z_ok x s) && (true)) = true) (K : zG w mX10_turn (d + 9) 0 15 [vR 10 0, vI x] [] (zP (u3 M 10 0 3 (nI 0)) O) r (zP M2 O)) : zC w mX10_turn (d + 9) [vR 10 0, vI x] (zP M O) r (zP M2 O) := by
  have cg := r_goes (w := w) (d := d + 8) (M := M) (O := O) (z_ok x s) (true)
  rw [h, rTh_0 h] at cg
  refine zC_of (cr := 0) (L0 := [vR 10 0, vI x]) hcr (by decide) (by decide) rfl (Nat.le_of_ble_eq_true rfl) rfl ?_
  refine r_turn_s hs h8 ?_
  refine g_cVv (n := 10) cg dX10_turn_7 rfl kw_X10_87 rfl (by decide) (z_lvP (by first | decide | assumption)) (Nat.le_of_ble_eq_true rfl) ⟨Nat.le_refl _, Nat.le_refl _⟩ ?_ rfl
  refine g_if_ne (n := 13) (t := 15) dX10_turn_10 rfl (by decide) (fun _ => ?_) (fun q9 => absurd q9 (by decide))
  exact K
theorem r_count_s {x : Int32} {r : zRes} {M2 : Nat → Nat → Nat → Int32} (K : zG w mX10_count (d + 9) 0 9 [vR 10 0, vI x] [vI (zb (true)), vI (zb (z_ok x 10)), vR 10 0] (zP M O) r (zP M2 O)) : zG w mX10_count (d + 9) 0 0 [vR 10 0, vI x] [] (zP M O) r (zP M2 O) := by
  refine g_aload_n (n := 1) dX10_count_0 rfl rfl ?_
  refine g_iload_n (n := 2) dX10_count_1 rfl rfl ?_
  refine g_iconst (n := 3) dX10_count_2 rfl k_ic_0 ?_
  refine g_bipush (n := 5) dX10_count_3 rfl k_bp_9 ?_
  refine g_cSv (n := 8) (r_inZ (n := 9) (by decide) x) dX10_count_5 rfl kw_X10_45 (Nat.le_of_ble_eq_true rfl) ⟨Nat.le_refl _, Nat.le_refl _⟩ ?_ rfl
  refine g_iconst (n := 9) dX10_count_8 rfl k_ic_1 ?_
  exact K
theorem r_count_no {x : Int32} (h : ((z_ok x 10) && (true)) = false) : zC w mX10_count (d + 9) [vR 10 0, vI x] (zP M O) (zrI (nI 0)) (zP (u3 M 10 0 3 (rTh (z_ok x 10) (true))) O) := by
  have cg := r_goes (w := w) (d := d + 8) (M := M) (O := O) (z_ok x 10) (true)
  rw [h] at cg
  refine zC_of (cr := 0) (L0 := [vR 10 0, vI x]) rfl (by decide) (by decide) rfl (Nat.le_of_ble_eq_true rfl) rfl ?_
  refine r_count_s ?_
  refine g_cVv (n := 12) cg dX10_count_9 rfl kw_X10_87 rfl (by decide) (z_lvP (by first | decide | assumption)) (Nat.le_of_ble_eq_true rfl) ⟨Nat.le_refl _, Nat.le_refl _⟩ ?_ rfl
  refine g_if_eq (n := 15) (t := 23) dX10_count_12 rfl (by decide) (fun _ => ?_) (fun q9 => absurd rfl q9)
  refine g_iconst (n := 24) dX10_count_23 rfl k_ic_0 ?_
  exact g_ireturn dX10_count_24 rfl rfl rfl rfl
theorem r_count_y {x : Int32} {r : zRes} {M2 : Nat → Nat → Nat → Int32} (hcr : z_th r = 0) (h : ((z_ok x 10) && (true)) = true) (K : zG w mX10_count (d + 9) 0 15 [vR 10 0, vI x] [] (zP (u3 M 10 0 3 (nI 0)) O) r (zP M2 O)) : zC w mX10_count (d + 9) [vR 10 0, vI x] (zP M O) r (zP M2 O) := by
  have cg := r_goes (w := w) (d := d + 8) (M := M) (O := O) (z_ok x 10) (true)
  rw [h, rTh_0 h] at cg
  refine zC_of (cr := 0) (L0 := [vR 10 0, vI x]) hcr (by decide) (by decide) rfl (Nat.le_of_ble_eq_true rfl) rfl ?_
  refine r_count_s ?_
  refine g_cVv (n := 12) cg dX10_count_9 rfl kw_X10_87 rfl (by decide) (z_lvP (by first | decide | assumption)) (Nat.le_of_ble_eq_true rfl) ⟨Nat.le_refl _, Nat.le_refl _⟩ ?_ rfl
  refine g_if_eq (n := 15) (t := 23) dX10_count_12 rfl (by decide) (fun q9 => absurd q9 (by decide)) (fun _ => ?_)
  exact K
theorem r_keep_s {x : Int32} {r : zRes} {M2 : Nat → Nat → Nat → Int32} (K : zG w mX10_keep (d + 9) 0 8 [vR 10 0, vI x] [vI (zb (true)), vI (zb (z_ok x 2)), vR 10 0] (zP M O) r (zP M2 O)) : zG w mX10_keep (d + 9) 0 0 [vR 10 0, vI x] [] (zP M O) r (zP M2 O) := by
  refine g_aload_n (n := 1) dX10_keep_0 rfl rfl ?_
  refine g_iload_n (n := 2) dX10_keep_1 rfl rfl ?_
  refine g_iconst (n := 3) dX10_keep_2 rfl k_ic_0 ?_
  refine g_iconst (n := 4) dX10_keep_3 rfl k_ic_1 ?_
  refine g_cSv (n := 7) (r_inZ (n := 1) (by decide) x) dX10_keep_4 rfl kw_X10_45 (Nat.le_of_ble_eq_true rfl) ⟨Nat.le_refl _, Nat.le_refl _⟩ ?_ rfl
  refine g_iconst (n := 8) dX10_keep_7 rfl k_ic_1 ?_
  exact K
theorem r_keep_no {x : Int32} (h : ((z_ok x 2) && (true)) = false) : zC w mX10_keep (d + 9) [vR 10 0, vI x] (zP M O) (zrI (nI 0)) (zP (u3 M 10 0 3 (rTh (z_ok x 2) (true))) O) := by
  have cg := r_goes (w := w) (d := d + 8) (M := M) (O := O) (z_ok x 2) (true)
  rw [h] at cg
  refine zC_of (cr := 0) (L0 := [vR 10 0, vI x]) rfl (by decide) (by decide) rfl (Nat.le_of_ble_eq_true rfl) rfl ?_
  refine r_keep_s ?_
  refine g_cVv (n := 11) cg dX10_keep_8 rfl kw_X10_87 rfl (by decide) (z_lvP (by first | decide | assumption)) (Nat.le_of_ble_eq_true rfl) ⟨Nat.le_refl _, Nat.le_refl _⟩ ?_ rfl
  refine g_if_ne (n := 14) (t := 16) dX10_keep_11 rfl (by decide) (fun q9 => absurd rfl q9) (fun _ => ?_)
  refine g_iconst (n := 15) dX10_keep_14 rfl k_ic_0 ?_
  exact g_ireturn dX10_keep_15 rfl rfl rfl rfl
theorem r_keep_y {x : Int32} {r : zRes} {M2 : Nat → Nat → Nat → Int32} (hcr : z_th r = 0) (h : ((z_ok x 2) && (true)) = true) (K : zG w mX10_keep (d + 9) 0 16 [vR 10 0, vI x] [] (zP (u3 M 10 0 3 (nI 0)) O) r (zP M2 O)) : zC w mX10_keep (d + 9) [vR 10 0, vI x] (zP M O) r (zP M2 O) := by
  have cg := r_goes (w := w) (d := d + 8) (M := M) (O := O) (z_ok x 2) (true)
  rw [h, rTh_0 h] at cg
  refine zC_of (cr := 0) (L0 := [vR 10 0, vI x]) hcr (by decide) (by decide) rfl (Nat.le_of_ble_eq_true rfl) rfl ?_
  refine r_keep_s ?_
  refine g_cVv (n := 11) cg dX10_keep_8 rfl kw_X10_87 rfl (by decide) (z_lvP (by first | decide | assumption)) (Nat.le_of_ble_eq_true rfl) ⟨Nat.le_refl _, Nat.le_refl _⟩ ?_ rfl
  refine g_if_ne (n := 14) (t := 16) dX10_keep_11 rfl (by decide) (fun _ => ?_) (fun q9 => absurd q9 (by decide))
  exact K
theorem r_append_s {x : Int32} {r : zRes} {M2 : Nat → Nat → Nat → Int32} (K : zG w mX10_append (d + 9) 0 23 [vR 10 0, vI x] [vI (zb (decide (M 10 0 5 < nI 60))), vI (zb (tIn x (nI 33) (nI 126))), vR 10 0] (zP M O) r (zP M2 O)) : zG w mX10_append (d + 9) 0 0 [vR 10 0, vI x] [] (zP M O) r (zP M2 O) := by
  have t2 : ∀ v, v = zb (decide (M 10 0 5 < nI 60)) → zG w mX10_append (d + 9) 0 23 [vR 10 0, vI x] [vI v, vI (zb (tIn x (nI 33) (nI 126))), vR 10 0] (zP M O) r (zP M2 O) := by
    intro v hv
    rw [hv]
    exact K
  refine g_aload_n (n := 1) dX10_append_0 rfl rfl ?_
  refine g_iload_n (n := 2) dX10_append_1 rfl rfl ?_
  refine g_bipush (n := 4) dX10_append_2 rfl k_bp_33 ?_
  refine g_bipush (n := 6) dX10_append_4 rfl k_bp_126 ?_
  refine g_cSv (n := 9) (r_in x (nI 33) (nI 126)) dX10_append_6 rfl kw_X10_45 (Nat.le_of_ble_eq_true rfl) ⟨Nat.le_refl _, Nat.le_refl _⟩ ?_ rfl
  refine g_aload_n (n := 10) dX10_append_9 rfl rfl ?_
  refine gf_X10_113 (n := 13) dX10_append_10 rfl rfl (z_lvP (by first | decide | assumption)) ?_
  refine g_bipush (n := 15) dX10_append_13 rfl k_bp_60 ?_
  refine g_icmp_ge (n := 18) (t := 22) dX10_append_15 rfl (by decide) (fun c15 => ?_) (fun c15 => ?_)
  · refine g_iconst (n := 23) dX10_append_22 rfl k_ic_0 ?_
    exact t2 _ (zb_dn (Int32.not_lt.mpr c15))
  · refine g_iconst (n := 19) dX10_append_18 rfl k_ic_1 ?_
    refine g_goto (n := 0) (t := 23) dX10_append_19 (by decide) ?_
    exact t2 _ (zb_dy (Int32.not_le.mp c15))
theorem r_append_no {x : Int32} (h : ((tIn x (nI 33) (nI 126)) && (decide (M 10 0 5 < nI 60))) = false) : zC w mX10_append (d + 9) [vR 10 0, vI x] (zP M O) (zrI (nI 0)) (zP (u3 M 10 0 3 (rTh (tIn x (nI 33) (nI 126)) (decide (M 10 0 5 < nI 60)))) O) := by
  have cg := r_goes (w := w) (d := d + 8) (M := M) (O := O) (tIn x (nI 33) (nI 126)) (decide (M 10 0 5 < nI 60))
  rw [h] at cg
  refine zC_of (cr := 0) (L0 := [vR 10 0, vI x]) rfl (by decide) (by decide) rfl (Nat.le_of_ble_eq_true rfl) rfl ?_
  refine r_append_s ?_
  refine g_cVv (n := 26) cg dX10_append_23 rfl kw_X10_87 rfl (by decide) (z_lvP (by first | decide | assumption)) (Nat.le_of_ble_eq_true rfl) ⟨Nat.le_refl _, Nat.le_refl _⟩ ?_ rfl
  refine g_if_ne (n := 29) (t := 31) dX10_append_26 rfl (by decide) (fun q9 => absurd rfl q9) (fun _ => ?_)
  refine g_iconst (n := 30) dX10_append_29 rfl k_ic_0 ?_
  exact g_ireturn dX10_append_30 rfl rfl rfl rfl
theorem r_append_y {x : Int32} {r : zRes} {M2 : Nat → Nat → Nat → Int32} (hcr : z_th r = 0) (h : ((tIn x (nI 33) (nI 126)) && (decide (M 10 0 5 < nI 60))) = true) (K : zG w mX10_append (d + 9) 0 31 [vR 10 0, vI x] [] (zP (u3 M 10 0 3 (nI 0)) O) r (zP M2 O)) : zC w mX10_append (d + 9) [vR 10 0, vI x] (zP M O) r (zP M2 O) := by
  have cg := r_goes (w := w) (d := d + 8) (M := M) (O := O) (tIn x (nI 33) (nI 126)) (decide (M 10 0 5 < nI 60))
  rw [h, rTh_0 h] at cg
  refine zC_of (cr := 0) (L0 := [vR 10 0, vI x]) hcr (by decide) (by decide) rfl (Nat.le_of_ble_eq_true rfl) rfl ?_
  refine r_append_s ?_
  refine g_cVv (n := 26) cg dX10_append_23 rfl kw_X10_87 rfl (by decide) (z_lvP (by first | decide | assumption)) (Nat.le_of_ble_eq_true rfl) ⟨Nat.le_refl _, Nat.le_refl _⟩ ?_ rfl
  refine g_if_ne (n := 29) (t := 31) dX10_append_26 rfl (by decide) (fun _ => ?_) (fun q9 => absurd q9 (by decide))
  exact K
theorem r_undo_s {r : zRes} {M2 : Nat → Nat → Nat → Int32} (K : zG w mX10_undo (d + 9) 0 14 [vR 10 0] [vI (zb (true)), vI (zb (decide (0 < M 10 0 1))), vR 10 0] (zP M O) r (zP M2 O)) : zG w mX10_undo (d + 9) 0 0 [vR 10 0] [] (zP M O) r (zP M2 O) := by
  have t1 : ∀ v, v = zb (decide (0 < M 10 0 1)) → zG w mX10_undo (d + 9) 0 13 [vR 10 0] [vI v, vR 10 0] (zP M O) r (zP M2 O) := by
    intro v hv
    rw [hv]
    refine g_iconst (n := 14) dX10_undo_13 rfl k_ic_1 ?_
    exact K
  refine g_aload_n (n := 1) dX10_undo_0 rfl rfl ?_
  refine g_aload_n (n := 2) dX10_undo_1 rfl rfl ?_
  refine gf_X10_38 (n := 5) dX10_undo_2 rfl rfl (z_lvP (by first | decide | assumption)) ?_
  refine g_if_le (n := 8) (t := 12) dX10_undo_5 rfl (by decide) (fun c5 => ?_) (fun c5 => ?_)
  · refine g_iconst (n := 13) dX10_undo_12 rfl k_ic_0 ?_
    exact t1 _ (zb_dn (Int32.not_lt.mpr c5))
  · refine g_iconst (n := 9) dX10_undo_8 rfl k_ic_1 ?_
    refine g_goto (n := 0) (t := 13) dX10_undo_9 (by decide) ?_
    exact t1 _ (zb_dy (Int32.not_le.mp c5))
theorem r_undo_no (h : ((decide (0 < M 10 0 1)) && (true)) = false) : zC w mX10_undo (d + 9) [vR 10 0] (zP M O) (zrI (nI 0)) (zP (u3 M 10 0 3 (rTh (decide (0 < M 10 0 1)) (true))) O) := by
  have cg := r_goes (w := w) (d := d + 8) (M := M) (O := O) (decide (0 < M 10 0 1)) (true)
  rw [h] at cg
  refine zC_of (cr := 0) (L0 := [vR 10 0]) rfl (by decide) (by decide) rfl (Nat.le_of_ble_eq_true rfl) rfl ?_
  refine r_undo_s ?_
  refine g_cVv (n := 17) cg dX10_undo_14 rfl kw_X10_87 rfl (by decide) (z_lvP (by first | decide | assumption)) (Nat.le_of_ble_eq_true rfl) ⟨Nat.le_refl _, Nat.le_refl _⟩ ?_ rfl
  refine g_if_ne (n := 20) (t := 22) dX10_undo_17 rfl (by decide) (fun q9 => absurd rfl q9) (fun _ => ?_)
  refine g_iconst (n := 21) dX10_undo_20 rfl k_ic_0 ?_
  exact g_ireturn dX10_undo_21 rfl rfl rfl rfl
theorem r_undo_y {r : zRes} {M2 : Nat → Nat → Nat → Int32} (hcr : z_th r = 0) (h : ((decide (0 < M 10 0 1)) && (true)) = true) (K : zG w mX10_undo (d + 9) 0 22 [vR 10 0] [] (zP (u3 M 10 0 3 (nI 0)) O) r (zP M2 O)) : zC w mX10_undo (d + 9) [vR 10 0] (zP M O) r (zP M2 O) := by
  have cg := r_goes (w := w) (d := d + 8) (M := M) (O := O) (decide (0 < M 10 0 1)) (true)
  rw [h, rTh_0 h] at cg
  refine zC_of (cr := 0) (L0 := [vR 10 0]) hcr (by decide) (by decide) rfl (Nat.le_of_ble_eq_true rfl) rfl ?_
  refine r_undo_s ?_
  refine g_cVv (n := 17) cg dX10_undo_14 rfl kw_X10_87 rfl (by decide) (z_lvP (by first | decide | assumption)) (Nat.le_of_ble_eq_true rfl) ⟨Nat.le_refl _, Nat.le_refl _⟩ ?_ rfl
  refine g_if_ne (n := 20) (t := 22) dX10_undo_17 rfl (by decide) (fun _ => ?_) (fun q9 => absurd q9 (by decide))
  exact K
end L17

