/-! The calls, each on both sides: what changes the land. -/
theorem zE_1 : xIOOB ≠ xIA := by decide +kernel
theorem zE_2 : xIOOB ≠ xIS := by decide +kernel
theorem zE_3 : xIA ≠ xIS := by decide +kernel
def zOf (w : zWp) (f : zMth) (av : List zAV) (E1 E2 : String) (O : Nat → Int64) (M M1 : Nat → Nat → Nat → Int32) (b e : Int32) : Prop :=
  (e = nI 0 ∧ zC w f 10 (vR 9 0 :: av) (zP M O) (zrI b) (zP M1 O)) ∨ (e = nI 1 ∧ zC w f 10 (vR 9 0 :: av) (zP M O) (zrX E1) (zP M1 O)) ∨ (E1 ≠ E2 ∧ e = nI 2 ∧ zC w f 10 (vR 9 0 :: av) (zP M O) (zrX E2) (zP M1 O))
def zOg (w : zWp) (g : zMth) (av : List zAV) (M1 : Nat → Nat → Nat → Int32) (b e : Int32) : Prop :=
  ∀ O : Nat → Int64, ∃ M2 : Nat → Nat → Nat → Int32, zInv M2 ∧ M2 10 0 3 = e ∧ zC w g 11 (vR 10 0 :: av) (zP M1 O) (zrI b) (zP M2 O)
def zOp (w : zWp) (f g : zMth) (av : List zAV) (E1 E2 : String) (O : Nat → Int64) (M : Nat → Nat → Nat → Int32) : Prop :=
  ∃ (M1 : Nat → Nat → Nat → Int32) (b e : Int32), zOf w f av E1 E2 O M M1 b e ∧ zOg w g av M1 b e
def zOp0 (w : zWp) (f g : zMth) (O : Nat → Int64) (M : Nat → Nat → Nat → Int32) : Prop :=
  ∃ (M1 M2 : Nat → Nat → Nat → Int32) (b : Int32), zInv M2 ∧ zC w f 11 [vR 9 0] (zP M O) (zrI b) (zP M1 O) ∧ zC w g 11 [vR 10 0] (zP M1 O) (zrI b) (zP M2 O)
section L27
variable {w : zWp} {M M1 : Nat → Nat → Nat → Int32} {O : Nat → Int64} {s o h n : Nat} {C : Nat → Nat} {K : Nat → Bool} {V : Nat → Int32} {f g : zMth} {av : List zAV} {E1 E2 : String}
theorem zInv_th (Z : zI M s o h n C K) (z : Int32) : zI (u3 M 10 0 3 z) s o h n C K := zI_q Z zSame.rf rQ.rf
theorem zOp_mk0 {M2 : Nat → Nat → Nat → Int32} {b : Int32} (i1 : zInv M2) (i2 : M2 10 0 3 = nI 0) (cf : zC w f 10 (vR 9 0 :: av) (zP M O) (zrI b) (zP M1 O)) (cg : ∀ {O : Nat → Int64}, zC w g 11 (vR 10 0 :: av) (zP M1 O) (zrI b) (zP M2 O)) : zOp w f g av E1 E2 O M :=
  ⟨M1, b, nI 0, Or.inl ⟨rfl, cf⟩, fun _ => ⟨M2, i1, i2, cg⟩⟩
theorem zOp_mkE {b : Int32} (cf : zC w f 10 (vR 9 0 :: av) (zP M O) (zrI b) (zP M1 O)) (H : zOg w g av M1 b (nI 0)) : zOp w f g av E1 E2 O M :=
  ⟨M1, b, nI 0, Or.inl ⟨rfl, cf⟩, H⟩
theorem zOp_no1 (Z : zI M s o h n C K) {p2 : Bool} (cf : zC w f 10 (vR 9 0 :: av) (zP M O) (zrX E1) (zP M O)) (cg : ∀ {O : Nat → Int64}, zC w g 11 (vR 10 0 :: av) (zP M O) (zrI (nI 0)) (zP (u3 M 10 0 3 (rTh false p2)) O)) : zOp w f g av E1 E2 O M :=
  ⟨M, nI 0, nI 1, Or.inr (Or.inl ⟨rfl, cf⟩), fun _ => ⟨_, ⟨_, _, _, _, _, _, zInv_th Z _⟩, u3_self, cg⟩⟩
theorem zOp_no2 (Z : zI M s o h n C K) (cf : zC w f 10 (vR 9 0 :: av) (zP M O) (zrX E2) (zP M O)) (cg : ∀ {O : Nat → Int64}, zC w g 11 (vR 10 0 :: av) (zP M O) (zrI (nI 0)) (zP (u3 M 10 0 3 (rTh true false)) O)) (hE : E1 ≠ E2 := by first | exact zE_1 | exact zE_2 | exact zE_3) : zOp w f g av E1 E2 O M :=
  ⟨M, nI 0, nI 2, Or.inr (Or.inr ⟨hE, rfl, cf⟩), fun _ => ⟨_, ⟨_, _, _, _, _, _, zInv_th Z _⟩, u3_self, cg⟩⟩
/-- facts behind the class's save -/
theorem sv10 (Q : cS (mSave M o h 0) M1) : M1 10 0 = M 10 0 := (Q 10 0 (by omega)).trans (mSave_0 (by decide))
theorem sv32 (Q : cS (mSave M o h 0) M1) : M1 32 0 = M 32 0 := (Q 32 0 (by omega)).trans (mSave_0 (by decide))
theorem svR (R : LandR M 0 V) : LandR (mSave M o h 0) 0 V := LandR_k (fun k hk => mSave_0 (fun z => by have := hk.2.1 (by omega); omega)) V R
theorem svS (Q : cS (mSave M o h 0) M1) : aeq 174 (rSave (M1 32 0) h) (rV M 0) := fun j hj => by
  rw [rSave_lo hj, sv32 Q]
  show M 32 0 j = M 32 0 (0 + j)
  rw [Nat.zero_add]
theorem zInv_save {S : Nat → Int32} (Z : zI M s o h n C K) (Q : cS (mSave M o h 0) M1) (h1 : ∀ j, 174 ≤ j → S j = rSave (M1 32 0) h j) (R : LandR M1 0 V) (H : aeq 174 S V) (W : WFV V) (P : WFP V) : zInv (u2 (mSv M1 h) 32 0 S) ∧ u2 (mSv M1 h) 32 0 S 10 0 3 = nI 0 := by
  obtain ⟨s', h8, hs⟩ := WFV_66 W
  obtain ⟨T, t5⟩ := rS_mSv (M := M1) (h := h) h1
  refine ⟨⟨_, _, _, _, _, _, zI_saveT Z Q T t5 R (fun j hj => ?_) W P hs h8⟩, ?_⟩
  · show S (0 + j) = V j
    rw [Nat.zero_add]
    exact H j hj
  · unfold mSv
    rfl
theorem zok_ex {x : Int32} {k : Nat} (hk : k < 2 ^ 31) (h : z_ok x k = true) : ∃ a, a < k ∧ x = nI a := z_ok_of h hk
theorem zok_ff {p q : Bool} (h : ¬ (p && q) = true) : (p && q) = false := by rw [Bool.not_eq_true] at h; exact h
theorem zok_f {p : Bool} (h : ¬ p = true) : p = false := by rw [Bool.not_eq_true] at h; exact h
theorem row_M (Z : zI M s o h n C K) {j : Nat} : M 32 0 j = rV M 0 j := by
  show M 32 0 j = M 32 0 (0 + j)
  rw [Nat.zero_add]
theorem roads_nn (Z : zI M s o h n C K) : ∀ j, j < 64 → 0 ≤ M 27 0 j := fun j hj => by
  rw [Z.G.1.2.1 j hj]
  obtain ⟨c, hc, ec⟩ := Z.G.2.1.2.1 j hj
  rw [ec]
  exact nI_pos' (by omega)
theorem o_road (Zv : zInv M) (x y z : Int32) : zOp w mX9_road mX10_road [vI x, vI y, vI z] xIOOB xIA O M := by
  obtain ⟨s, o, h, n, C, K, Z⟩ := Zv
  have F := Z.F
  by_cases p1 : (z_ok x 8 && z_ok y 8) = true
  · have p := Bool.and_eq_true_iff.mp p1
    obtain ⟨a, ha, rfl⟩ := zok_ex (by decide) p.1
    obtain ⟨b, hb, rfl⟩ := zok_ex (by decide) p.2
    by_cases e : a = b
    · subst e
      have r := fun {O : Nat → Int64} => r_road_no (w := w) (d := 2) (M := M) (O := O) (x := nI a) (y := nI a) (z := z) (by rw [decide_eq_false (fun q => q rfl), Bool.false_and, Bool.and_false])
      rw [p1, decide_eq_false (fun q : ¬ nI a = nI a => q rfl), Bool.false_and] at r
      exact zOp_no2 Z (t_road2 (d := 1) ha) r
    · have e2 : ¬ nI a = nI b := fun q => e ((nI_eq (by omega) (by omega)).mp q)
      by_cases hz : z_ok z 100 = true
      · obtain ⟨c, hc, rfl⟩ := zok_ex (by decide) hz
        have cf := c_road (w := w) (d := 1) (O := O) F ha hb e (show c ≤ 99 by omega) (roads_nn Z)
        have Q : cS (mSave M o h 0) (mLay (mSave M o h 0) 0 a b (nI c)) := by
          unfold mLay
          exact (cS_u2 (by omega)).tr (cS_u2 (by omega))
        have cg := fun {O : Nat → Int64} => r_road (w := w) (d := 2) (O := O) (M := mLay (mSave M o h 0) 0 a b (nI c)) (h := h) (by rw [sv10 Q]; exact Z.hh) F.h6 ha hb e (show c ≤ 99 by omega)
        rw [show mLay (mSave M o h 0) 0 a b (nI c) 32 0 (2 + (8 * a + b)) = M 27 0 (8 * a + b) by rw [sv32 Q, Z.G.1.2.1 _ (by omega), row_M Z]] at cg
        obtain ⟨i1, i2⟩ := zInv_save (S := rLay (rSave (mLay (mSave M o h 0) 0 a b (nI c) 32 0) h) 0 a b (nI c)) Z Q (fun j hj => by unfold rLay; rw [upd_o (by omega), upd_o (by omega)]) (LandR_lay (svR Z.G.1) ha hb) (fun j hj => by
          have := rLay_row (S := rSave (mLay (mSave M o h 0) 0 a b (nI c) 32 0) h) (b := 0) (a := a) (c := b) (x := nI c) j
          rw [Nat.zero_add] at this
          rw [this]
          exact vLay_c (fun i hi => by rw [Nat.zero_add]; exact svS Q i hi) j hj) (WFV_lay Z.G.2.1 ha hb e (show c ≤ 99 by omega)) (by unfold vLay; exact WFP_free (WFP_free Z.G.2.2 (by omega)) (by omega))
        exact zOp_mk0 i1 i2 cf cg
      · have hz' := zok_f hz
        have r := fun {O : Nat → Int64} => r_road_no (w := w) (d := 2) (M := M) (O := O) (x := nI a) (y := nI b) (z := z) (by rw [hz', Bool.and_false, Bool.and_false])
        rw [p1, hz', Bool.and_false] at r
        exact zOp_no2 Z (t_road3 (d := 1) ha hb e hz') r
  · have p1' := zok_ff p1
    have r := fun {O : Nat → Int64} => r_road_no (w := w) (d := 2) (M := M) (O := O) (x := x) (y := y) (z := z) (by rw [p1', Bool.false_and])
    rw [p1'] at r
    exact zOp_no1 Z (t_road1 (d := 1) p1') r
theorem upd_idV {V : Nat → Int32} {p : Nat} {x : Int32} (h : V p = x) : upd V p x = V := by
  funext j
  unfold upd
  by_cases e : j = p
  · rw [if_pos e, e, h]
  · rw [if_neg e]
theorem o_exit (Zv : zInv M) (x y : Int32) : zOp w mX9_exit mX10_exit [vI x, vI y] xIOOB xIS O M := by
  obtain ⟨s, o, h, n, C, K, Z⟩ := Zv
  have F := Z.F
  have h8 := F.h8
  have m66 : M 32 0 66 = nI s := (row_M Z).trans Z.ss
  by_cases px : z_ok x 8 = true
  · by_cases py : z_ok y 4 = true
    · by_cases l : s < 8
      · obtain ⟨a, ha, rfl⟩ := zok_ex (by decide) px
        obtain ⟨b, hb, rfl⟩ := zok_ex (by decide) py
        have cf := c_exit (w := w) (d := 1) (O := O) F px py l
        obtain ⟨M1, hM1⟩ : ∃ M1, M1 = u3 (u3 (u3 (u3 (mSave M o h 0) 13 0 s (nI a)) 14 0 s (nI b)) 15 0 s (nI 1)) 1 0 5 (nI (s + 1)) := ⟨_, rfl⟩
        have Q : cS (mSave M o h 0) M1 := by
          rw [hM1]
          exact (((cS_u3 (by omega)).tr (cS_u3 (by omega))).tr (cS_u3 (by omega))).tr (cS_u3 (by omega))
        have R1 := LandR_u3 (x := nI a) (svR (o := o) (h := h) Z.G.1) (show dmK 13 s = true from decide_eq_true l) (by decide)
        have R2 := LandR_u3 (x := nI b) R1 (show dmK 14 s = true from decide_eq_true l) (by decide)
        have R3 := LandR_u3 (x := nI 1) R2 (show dmK 15 s = true from decide_eq_true l) (by decide)
        have R4 := LandR_u3 (x := nI (s + 1)) R3 (show dmK 1 5 = true from rfl) (by decide)
        rw [← hM1] at cf R4
        have R5 : LandR M1 0 (vAdd (rV M 0) s a b) := R4
        have cg := fun {O : Nat → Int64} => r_exit (w := w) (d := 2) (O := O) (M := M1) (h := h) (s := s) (a := a) (c := b) (by rw [sv32 Q]; exact m66) l (by rw [sv10 Q]; exact Z.hh) F.h6 ha hb
        have Wz := Z.G.2.1.2.2.2.2.1
        obtain ⟨s', s8, e66, _, w7⟩ := Wz
        obtain rfl : s' = s := ((nI_eq (by omega) (by omega)).mp (Z.ss.symm.trans e66)).symm
        have hz := w7 s' (Nat.le_refl _) l
        obtain ⟨i1, i2⟩ := zInv_save (V := vAdd (rV M 0) s' a b) (S := upd (upd (upd (upd (upd (upd (rSave (M1 32 0) h) (67 + 5 * s') (nI a)) (68 + 5 * s') (nI b)) (69 + 5 * s') (nI 1)) (70 + 5 * s') (nI 0)) (71 + 5 * s') (nI 0)) 66 (nI (s' + 1))) Z Q (fun j hj => by rw [upd_o (by omega), upd_o (by omega), upd_o (by omega), upd_o (by omega), upd_o (by omega), upd_o (by omega)]) R5 (by
          have h1 := upd_c (p := 69 + 5 * s') (x := nI 1) (upd_c (p := 68 + 5 * s') (x := nI b) (upd_c (p := 67 + 5 * s') (x := nI a) (svS Q)))
          obtain ⟨U, hU⟩ : ∃ U, U = upd (upd (upd (rV M 0) (67 + 5 * s') (nI a)) (68 + 5 * s') (nI b)) (69 + 5 * s') (nI 1) := ⟨_, rfl⟩
          have u0 : U (70 + 5 * s') = nI 0 := by rw [hU, upd_o (by omega), upd_o (by omega), upd_o (by omega)]; exact hz.1
          have u1 : U (71 + 5 * s') = nI 0 := by rw [hU, upd_o (by omega), upd_o (by omega), upd_o (by omega)]; exact hz.2
          rw [← hU] at h1
          have h2 := upd_c (p := 71 + 5 * s') (x := nI 0) (upd_c (p := 70 + 5 * s') (x := nI 0) h1)
          rw [upd_idV u0, upd_idV u1] at h2
          unfold vAdd
          rw [← hU]
          exact upd_c h2) (WFV_add Z.G.2.1 Z.ss l ha hb) (by unfold vAdd; exact WFP_free (WFP_free (WFP_free (WFP_free Z.G.2.2 (by omega)) (by omega)) (by omega)) (by omega))
        exact zOp_mk0 i1 i2 cf cg
      · have e8 : s = 8 := by omega
        subst e8
        have r := fun {O : Nat → Int64} => r_exit_no (w := w) (d := 2) (M := M) (O := O) (x := x) (y := y) (by rw [m66, decide_eq_false (by decide), Bool.and_false])
        rw [px, py, m66, decide_eq_false (by decide)] at r
        exact zOp_no2 Z (t_exit3 (d := 1) px py F.hs) r
    · have py' := zok_f py
      have r := fun {O : Nat → Int64} => r_exit_no (w := w) (d := 2) (M := M) (O := O) (x := x) (y := y) (by rw [py', Bool.and_false, Bool.false_and])
      rw [py', Bool.and_false] at r
      exact zOp_no1 Z (t_exit2 (d := 1) px py') r
  · have px' := zok_f px
    have r := fun {O : Nat → Int64} => r_exit_no (w := w) (d := 2) (M := M) (O := O) (x := x) (y := y) (by rw [px', Bool.false_and, Bool.false_and])
    rw [px', Bool.false_and] at r
    exact zOp_no1 Z (t_exit1 (d := 1) px') r
theorem o_turn (Zv : zInv M) (x : Int32) : zOp w mX9_turn mX10_turn [vI x] xIOOB xIOOB O M := by
  obtain ⟨s, o, h, n, C, K, Z⟩ := Zv
  have F := Z.F
  have h8 := F.h8
  have m66 : M 32 0 66 = nI s := (row_M Z).trans Z.ss
  by_cases px : z_ok x s = true
  · obtain ⟨e, he, rfl⟩ := zok_ex (by omega) px
    have ev : M 15 0 e = rV M 0 (69 + 5 * e) := Z.G.1.2.2.2.1.2.2.1 e (by omega)
    have hv := (vEx Z.G.2.1 Z.ss h8 he).2.2
    have cf := c_turn (w := w) (d := 1) (O := O) F he
    rw [ev] at cf
    obtain ⟨M1, hM1⟩ : ∃ M1, M1 = u3 (mSave M o h 0) 15 0 e (nI 1 - rV M 0 (69 + 5 * e)) := ⟨_, rfl⟩
    have Q : cS (mSave M o h 0) M1 := by rw [hM1]; exact cS_u3 (by omega)
    have R1 := LandR_u3 (x := nI 1 - rV M 0 (69 + 5 * e)) (svR (o := o) (h := h) Z.G.1) (show dmK 15 e = true from decide_eq_true (by omega)) (by decide)
    rw [← hM1] at cf R1
    have cg := fun {O : Nat → Int64} => r_turn (w := w) (d := 2) (O := O) (M := M1) (h := h) (s := s) (by rw [sv32 Q]; exact m66) h8 (by rw [sv10 Q]; exact Z.hh) F.h6 he
    rw [sv32 Q, row_M Z] at cg
    have ea : zb (decide (nI 1 - rV M 0 (69 + 5 * e) = nI 1)) = nI 1 - rV M 0 (69 + 5 * e) := by
      rcases hv with z | z
      · rw [z]; rfl
      · rw [z]; rfl
    rw [ea] at cf
    have hx : nI 1 - rV M 0 (69 + 5 * e) = nI 0 ∨ nI 1 - rV M 0 (69 + 5 * e) = nI 1 := by
      rcases hv with z | z
      · rw [z]; exact Or.inr rfl
      · rw [z]; exact Or.inl rfl
    have hS := svS (M1 := M1) Q
    rw [sv32 Q] at hS
    obtain ⟨i1, i2⟩ := zInv_save (S := upd (rSave (M 32 0) h) (69 + 5 * e) (nI 1 - rV M 0 (69 + 5 * e))) Z Q (fun j hj => by rw [upd_o (by omega), sv32 Q]) R1 (upd_c hS) (WFV_turn Z.G.2.1 Z.ss h8 he hx) (WFP_free Z.G.2.2 (show 69 + 5 * e < 139 ∨ 172 ≤ 69 + 5 * e by omega))
    exact zOp_mk0 i1 i2 cf cg
  · have px' := zok_f px
    have r := fun {O : Nat → Int64} => r_turn_no (w := w) (d := 2) (M := M) (O := O) (s := s) m66 h8 (x := x) (by rw [px', Bool.false_and])
    rw [px'] at r
    exact zOp_no1 Z (t_turn (d := 1) F px') r
/-- one number of the land changes -/
theorem o_upd (Z : zI M s o h n C K) {k j : Nat} {x b : Int32} (hd : dmK k j = true) (h27 : k ≠ 27) (hk : k < 29 ∧ k ≠ 2 ∧ k ≠ 8 ∧ k ≠ 10) (W : WFV (upd (rV M 0) (plK k j) x)) (P : WFP (upd (rV M 0) (plK k j) x)) (hb : b = M k 0 j)
    (cf : zC w f 10 (vR 9 0 :: av) (zP M O) (zrI (M k 0 j)) (zP (u3 (mSave M o h 0) k 0 j x) O)) (cg : ∀ {O : Nat → Int64} N, N 10 0 1 = nI h → zC w g 11 (vR 10 0 :: av) (zP N O) (zrI (N 32 0 (plK k j))) (zP (u2 (mSv N h) 32 0 (upd (rSave (N 32 0) h) (plK k j) x)) O)) : zOp w f g av E1 E2 O M := by
  obtain ⟨M1, hM1⟩ : ∃ M1, M1 = u3 (mSave M o h 0) k 0 j x := ⟨_, rfl⟩
  have Q : cS (mSave M o h 0) M1 := by rw [hM1]; exact cS_u3 hk
  have R1 := LandR_u3 (x := x) (svR (o := o) (h := h) Z.G.1) hd h27
  rw [← hM1] at cf R1
  have c2 := fun {O : Nat → Int64} => cg (O := O) M1 (by rw [sv10 Q]; exact Z.hh)
  have hS := svS (M1 := M1) Q
  obtain ⟨b1, b2⟩ := dmK_lt hd
  have hp := plK_lt k b1 j b2 hd
  have ea : M1 32 0 (plK k j) = M k 0 j := by
    rw [sv32 Q, row_M Z]
    exact ((LandR_iff.mp Z.G.1).1 k j hd).symm
  rw [ea] at c2
  obtain ⟨i1, i2⟩ := zInv_save (S := upd (rSave (M1 32 0) h) (plK k j) x) Z Q (fun i hi => upd_o (by omega)) R1 (upd_c hS) W P
  exact zOp_mk0 i1 i2 cf c2
theorem o_offer (Zv : zInv M) (x y z : Int32) : zOp w mX9_offer mX10_offer [vI x, vI y, vI z] xIOOB xIA O M := by
  obtain ⟨s, o, h, n, C, K, Z⟩ := Zv
  have F := Z.F
  by_cases px : z_ok x 4 = true
  · by_cases py : z_ok y 4 = true
    · by_cases pz : z_ok z 10 = true
      · obtain ⟨a, ha, rfl⟩ := zok_ex (by decide) px
        obtain ⟨b, hb, rfl⟩ := zok_ex (by decide) py
        obtain ⟨c, hc, rfl⟩ := zok_ex (by decide) pz
        exact o_upd Z (k := 22) (j := 4 * a + b) (decide_eq_true (by omega)) (by decide) (by decide) (WFV_off Z.G.2.1 (by omega) (by omega)) (WFP_free Z.G.2.2 (show 107 + (4 * a + b) < 139 ∨ 172 ≤ 107 + (4 * a + b) by omega)) rfl (c_offer (d := 1) F ha hb pz) (fun N hN => r_offer (d := 2) hN F.h6 ha hb pz)
      · have pz' := zok_f pz
        have r := fun {O : Nat → Int64} => r_offer_no (w := w) (d := 2) (M := M) (O := O) (x := x) (y := y) (z := z) (by rw [pz', Bool.and_false])
        rw [px, py, pz'] at r
        exact zOp_no2 Z (t_offer3 (d := 1) px py pz') r
    · have py' := zok_f py
      have r := fun {O : Nat → Int64} => r_offer_no (w := w) (d := 2) (M := M) (O := O) (x := x) (y := y) (z := z) (by rw [py', Bool.and_false, Bool.false_and])
      rw [py', Bool.and_false] at r
      exact zOp_no1 Z (t_offer2 (d := 1) px py') r
  · have px' := zok_f px
    have r := fun {O : Nat → Int64} => r_offer_no (w := w) (d := 2) (M := M) (O := O) (x := x) (y := y) (z := z) (by rw [px', Bool.false_and, Bool.false_and])
    rw [px', Bool.false_and] at r
    exact zOp_no1 Z (t_offer1 (d := 1) px') r
theorem o_bound (Zv : zInv M) (x y : Int32) : zOp w mX9_bound mX10_bound [vI x, vI y] xIOOB xIA O M := by
  obtain ⟨s, o, h, n, C, K, Z⟩ := Zv
  have F := Z.F
  by_cases px : z_ok x 4 = true
  · by_cases py : z_ok y 100 = true
    · obtain ⟨a, ha, rfl⟩ := zok_ex (by decide) px
      exact o_upd Z (k := 23) (j := a) (decide_eq_true (by omega)) (by decide) (by decide) (WFV_free Z.G.2.1 Z.ss F.h8 (show (123 ≤ 123 + a ∧ 123 + a < 171) ∨ 173 ≤ 123 + a ∨ (67 ≤ 123 + a ∧ 123 + a < 67 + 5 * s ∧ ((123 + a) % 5 = 0 ∨ (123 + a) % 5 = 1)) by omega)) (WFP_free Z.G.2.2 (show 123 + a < 139 ∨ 172 ≤ 123 + a by omega)) rfl (c_bound (d := 1) F ha py) (fun N hN => r_bound (d := 2) hN F.h6 ha py)
    · have py' := zok_f py
      have r := fun {O : Nat → Int64} => r_bound_no (w := w) (d := 2) (M := M) (O := O) (x := x) (y := y) (by rw [py', Bool.and_false])
      rw [px, py'] at r
      exact zOp_no2 Z (t_bound2 (d := 1) px py') r
  · have px' := zok_f px
    have r := fun {O : Nat → Int64} => r_bound_no (w := w) (d := 2) (M := M) (O := O) (x := x) (y := y) (by rw [px', Bool.false_and])
    rw [px'] at r
    exact zOp_no1 Z (t_bound1 (d := 1) px') r
theorem o_set (Zv : zInv M) (x y : Int32) : zOp w mX9_set mX10_set [vI x, vI y] xIOOB xIA O M := by
  obtain ⟨s, o, h, n, C, K, Z⟩ := Zv
  have F := Z.F
  by_cases px : z_ok x 2 = true
  · obtain ⟨a, ha, rfl⟩ := zok_ex (by decide) px
    by_cases py : z_ok y 2 = true
    · obtain ⟨b, hb, rfl⟩ := zok_ex (by decide) py
      have hx : nI b = nI 0 ∨ nI b = nI 1 := by
        obtain e | e : b = 0 ∨ b = 1 := by omega
        · rw [e]; exact Or.inl rfl
        · rw [e]; exact Or.inr rfl
      exact o_upd Z (k := 18) (j := a) (decide_eq_true (by omega)) (by decide) (by decide) (WFV_set Z.G.2.1 ha hx) (WFP_free Z.G.2.2 (show a < 139 ∨ 172 ≤ a by omega)) rfl (c_set (d := 1) F ha py) (fun N hN => r_set (d := 2) hN F.h6 ha py)
    · have py' := zok_f py
      have r := fun {O : Nat → Int64} => r_set_no (w := w) (d := 2) (M := M) (O := O) (x := nI a) (y := y) (by rw [py', Bool.and_false])
      rw [px, py'] at r
      exact zOp_no2 Z (t_set2 (d := 1) ha py') r
  · have px' := zok_f px
    have r := fun {O : Nat → Int64} => r_set_no (w := w) (d := 2) (M := M) (O := O) (x := x) (y := y) (by rw [px', Bool.false_and])
    rw [px'] at r
    exact zOp_no1 Z (t_set1 (d := 1) px') r
theorem o_send (Zv : zInv M) (x y : Int32) : zOp w mX9_send mX10_send [vI x, vI y] xIOOB xIS O M := by
  obtain ⟨s, o, h, n, C, K, Z⟩ := Zv
  have F := Z.F
  have h8 := F.h8
  have m171 : M 32 0 171 = rV M 0 171 := row_M Z
  have l171 : M 3 0 5 = rV M 0 171 := Z.G.1.2.2.2.2.2.2.1
  by_cases px : z_ok x 8 = true
  · by_cases py : z_ok y 4 = true
    · by_cases l : rV M 0 171 < nI 9999
      · obtain ⟨t, ht, rfl⟩ := zok_ex (by decide) px
        obtain ⟨u, hu, rfl⟩ := zok_ex (by decide) py
        obtain ⟨M1, Q1, R1, cs⟩ := c_sendV (w := w) (d := 5) (O := O) (svR (o := o) (h := h) Z.G.1) Z.G.2.1 Z.ss h8 ht hu
        have cf := c_send (w := w) (d := 1) (O := O) F px py (by rw [l171]; exact l) cs
        have Q := Q1.S
        have m1 : M1 32 0 = M 32 0 := sv32 Q
        have RM : RowR M1 0 (rV M 0) := fun j hj => by
          show M1 32 0 (0 + j) = M 32 0 (0 + j)
          rw [m1]
        have cg := fun {O : Nat → Int64} => r_send (w := w) (d := 2) (O := O) (h := h) RM Z.G.2.1 Z.ss h8 (by rw [sv10 Q]; exact Z.hh) F.h6 ht hu (by rw [m1, m171]; exact l)
        obtain ⟨w1, w2, w3⟩ := vSnd_wf Z.G.2.1 Z.G.2.2 Z.ss h8 ht hu l
        have hS := svS (M1 := M1) Q
        have T : rS M1 (u2 (mMea (u2 (mSv M1 h) 32 0 (rSave (M1 32 0) h)) 0) 32 0 (rSnd (rSave (M1 32 0) h) (rV M 0) s t u)) h := by
          refine ⟨fun k i a b c _ _ => ?_, rfl, fun j hj => ?_⟩
          · rw [u2_ne (by omega)]
            unfold mMea
            rw [u2_ne (by omega), u2_ne (by omega)]
            unfold mSv
            rw [u3_kf a, u3_kf a]
          · rw [u2_self]
            exact rSnd_hi Z.G.2.1 Z.ss h8 ht hu hj
        refine zOp_mk0 (M1 := _) (M2 := _) ⟨_, _, _, _, _, _, zI_saveT Z Q T rfl R1 (fun j hj => ?_) w1 w2 w3 h8⟩ rfl cf cg
        show rSnd (rSave (M1 32 0) h) (rV M 0) s t u (0 + j) = _
        rw [Nat.zero_add]
        exact rSnd_row hS Z.G.2.1 Z.ss h8 ht hu j hj
      · have r := fun {O : Nat → Int64} => r_send_no (w := w) (d := 2) (M := M) (O := O) (x := x) (y := y) (by rw [m171, decide_eq_false l, Bool.and_false])
        rw [px, py, m171, decide_eq_false l] at r
        exact zOp_no2 Z (t_send3 (d := 1) px py (by rw [l171]; exact l)) r
    · have py' := zok_f py
      have r := fun {O : Nat → Int64} => r_send_no (w := w) (d := 2) (M := M) (O := O) (x := x) (y := y) (by rw [py', Bool.and_false, Bool.false_and])
      rw [py', Bool.and_false] at r
      exact zOp_no1 Z (t_send2 (d := 1) px py') r
  · have px' := zok_f px
    have r := fun {O : Nat → Int64} => r_send_no (w := w) (d := 2) (M := M) (O := O) (x := x) (y := y) (by rw [px', Bool.false_and, Bool.false_and])
    rw [px', Bool.false_and] at r
    exact zOp_no1 Z (t_send1 (d := 1) px') r
/-- the counts of the neighbours at 0 -/
def z8 (V : Nat → Int32) : Nat → Int32 := upd (upd (upd (upd (upd (upd (upd (upd V (127 + 0) (nI 0)) (131 + 0) (nI 0)) (127 + 1) (nI 0)) (131 + 1) (nI 0)) (127 + 2) (nI 0)) (131 + 2) (nI 0)) (127 + 3) (nI 0)) (131 + 3) (nI 0)
theorem z8_in {V : Nat → Int32} {j : Nat} (h1 : 127 ≤ j) (h2 : j < 135) : z8 V j = nI 0 := by
  obtain e | e | e | e | e | e | e | e : j = 127 ∨ j = 128 ∨ j = 129 ∨ j = 130 ∨ j = 131 ∨ j = 132 ∨ j = 133 ∨ j = 134 := by omega
  all_goals (subst e; rfl)
theorem z8_o {V : Nat → Int32} {j : Nat} (h : j < 127 ∨ 135 ≤ j) : z8 V j = V j := by
  unfold z8
  rw [upd_o (by omega), upd_o (by omega), upd_o (by omega), upd_o (by omega), upd_o (by omega), upd_o (by omega), upd_o (by omega), upd_o (by omega)]
theorem plK_8a : ∀ k, k < 30 → ∀ j, j < 64 → dmK k j = true → (k = 24 ∨ k = 25) ∨ (plK k j < 127 ∨ 135 ≤ plK k j) := by decide +kernel
theorem plK_8 (k : Nat) (hk : k < 30) (j : Nat) (hj : j < 64) (h : dmK k j = true) (h1 : k ≠ 24) (h2 : k ≠ 25) : plK k j < 127 ∨ 135 ≤ plK k j := (plK_8a k hk j hj h).elim (fun q => absurd q (fun z => z.elim h1 h2)) id
theorem LandR_z8 {N : Nat → Nat → Nat → Int32} {f g : Nat → Int32} (R : LandR N 0 V) : LandR (u2 (u2 N 25 0 (xfl (fun _ => nI 0) f 4)) 24 0 (xfl (fun _ => nI 0) g 4)) 0 (z8 V) := by
  obtain ⟨r, r18⟩ := LandR_iff.mp R
  refine LandR_iff.mpr ⟨fun k j h => ?_, fun j hj => ?_⟩
  · obtain ⟨b1, b2⟩ := dmK_lt h
    by_cases e24 : k = 24
    · subst e24
      have hj : j < 4 := of_decide_eq_true h
      rw [u2_self, xfl_in hj]
      exact (z8_in (j := 127 + j) (by omega) (by omega)).symm
    · by_cases e25 : k = 25
      · subst e25
        have hj : j < 4 := of_decide_eq_true h
        rw [u2_ne (by omega), u2_self, xfl_in hj]
        exact (z8_in (j := 131 + j) (by omega) (by omega)).symm
      · rw [u2_ne (by omega), u2_ne (by omega), r k j h, z8_o (plK_8 k b1 j b2 h e24 e25)]
  · rw [u2_ne (by omega), u2_ne (by omega), r18 j hj]
    refine fw_cong (fun c hc => ?_) j hj
    exact (z8_o (by omega)).symm
theorem WF_z8 (W : WFV V) (P : WFP V) (hs : V 66 = nI s) (h8 : s ≤ 8) : WFV (z8 V) ∧ WFP (z8 V) := by
  have fr : ∀ (U : Nat → Int32) (p : Nat) (x : Int32), (WFV U ∧ U 66 = nI s) ∧ WFP U → (127 ≤ p ∧ p < 135) → (WFV (upd U p x) ∧ upd U p x 66 = nI s) ∧ WFP (upd U p x) := fun U p x q hp => ⟨⟨WFV_free q.1.1 q.1.2 h8 (by omega), (upd_o (by omega)).trans q.1.2⟩, WFP_free q.2 (by omega)⟩
  unfold z8
  have f := fr _ (131 + 3) (nI 0) (fr _ (127 + 3) (nI 0) (fr _ (131 + 2) (nI 0) (fr _ (127 + 2) (nI 0) (fr _ (131 + 1) (nI 0) (fr _ (127 + 1) (nI 0) (fr _ (131 + 0) (nI 0) (fr V (127 + 0) (nI 0) ⟨⟨W, hs⟩, P⟩ (by omega)) (by omega)) (by omega)) (by omega)) (by omega)) (by omega)) (by omega)) (by omega)
  exact ⟨f.1.1, f.2⟩
theorem o_settle (Zv : zInv M) : zOp0 w mX9_settle mX10_settle O M := by
  obtain ⟨s, o, h, n, C, K, Z⟩ := Zv
  have F := Z.F
  have cf := c_settle (w := w) (d := 2) (O := O) F
  obtain ⟨M1, hM1⟩ : ∃ M1, M1 = u2 (u2 (mSave M o h 0) 25 0 (xfl (fun _ => nI 0) (M 25 0) 4)) 24 0 (xfl (fun _ => nI 0) (M 24 0) 4) := ⟨_, rfl⟩
  have Q : cS (mSave M o h 0) M1 := by rw [hM1]; exact (cS_u2 (by omega)).tr (cS_u2 (by omega))
  have R1 : LandR M1 0 (z8 (rV M 0)) := by rw [hM1]; exact LandR_z8 (svR Z.G.1)
  rw [← hM1] at cf
  have cg := r_settle (w := w) (d := 2) (O := O) (M := M1) (h := h) (by rw [sv10 Q]; exact Z.hh) F.h6
  have ea : sm (fun k => M1 32 0 (131 + k)) 4 = sm (M 25 0) 4 := sm_cong (fun j hj => by
    rw [sv32 Q, row_M Z]
    exact (Z.G.1.2.2.2.2.1.2.2.2.1 j hj).symm)
  rw [ea] at cg
  obtain ⟨w1, w2⟩ := WF_z8 Z.G.2.1 Z.G.2.2 Z.ss F.h8
  obtain ⟨i1, i2⟩ := zInv_save (S := z8 (rSave (M1 32 0) h)) Z Q (fun j hj => z8_o (by omega)) R1 (upd_c (upd_c (upd_c (upd_c (upd_c (upd_c (upd_c (upd_c (svS Q))))))))) w1 w2
  exact ⟨_, _, _, i1, cf, cg⟩
end L27

