/-! The calls, each on both sides: snapshots, the buffer, looks. -/
section L28
variable {w : zWp} {M M1 M2 : Nat → Nat → Nat → Int32} {O : Nat → Int64} {s o h n : Nat} {C : Nat → Nat} {K : Nat → Bool} {V : Nat → Int32} {f g : zMth} {av : List zAV} {E1 E2 : String}
/-- a look: the land is not touched on either side -/
theorem zOp_q (Z : zI M s o h n C K) {b : Int32} (S : zSame M M1) (Q : rQ (m0 M1) M2) (cf : zC w f 10 (vR 9 0 :: av) (zP M O) (zrI b) (zP M1 O)) (cg : ∀ {O : Nat → Int64}, zC w g 11 (vR 10 0 :: av) (zP M1 O) (zrI b) (zP M2 O)) : zOp w f g av E1 E2 O M :=
  zOp_mk0 ⟨_, _, _, _, _, _, zI_q Z S Q⟩ (by rw [Q.1 10 0 (by decide) (by decide) (by decide) (by decide)]; exact u3_self) cf cg
theorem zOp_qE (Z : zI M s o h n C K) {b : Int32} (S : zSame M M1) (cf : zC w f 10 (vR 9 0 :: av) (zP M O) (zrI b) (zP M1 O)) (H : ∀ O : Nat → Int64, ∃ M2, rQ (m0 M1) M2 ∧ zC w g 11 (vR 10 0 :: av) (zP M1 O) (zrI b) (zP M2 O)) : zOp w f g av E1 E2 O M :=
  zOp_mkE cf (fun O => by
    obtain ⟨M2, Q, cg⟩ := H O
    exact ⟨M2, ⟨_, _, _, _, _, _, zI_q Z S Q⟩, by rw [Q.1 10 0 (by decide) (by decide) (by decide) (by decide)]; exact u3_self, cg⟩)
/-- the reference's side of a memory that looks have made -/
theorem q10 (S : zSame M M1) : M1 10 0 = M 10 0 := S 10 0 (by decide) (by decide) (by decide) (by decide) (by decide) (Or.inl (by decide))
theorem q32 (S : zSame M M1) : M1 32 0 = M 32 0 := S 32 0 (by decide) (by decide) (by decide) (by decide) (by decide) (Or.inl (by decide))
theorem qRow (S : zSame M M1) : RowR M1 0 (rV M 0) := fun j hj => by
  show M1 32 0 (0 + j) = M 32 0 (0 + j)
  rw [q32 S]
theorem o_roadOf (Zv : zInv M) (x y : Int32) : zOp w mX9_roadOf mX10_roadOf [vI x, vI y] xIOOB xIOOB O M := by
  obtain ⟨s, o, h, n, C, K, Z⟩ := Zv
  by_cases p1 : (z_ok x 8 && z_ok y 8) = true
  · have p := Bool.and_eq_true_iff.mp p1
    obtain ⟨a, ha, rfl⟩ := zok_ex (by decide) p.1
    obtain ⟨b, hb, rfl⟩ := zok_ex (by decide) p.2
    have cg := fun {O : Nat → Int64} => r_roadOf (w := w) (d := 2) (M := M) (O := O) ha hb
    rw [show M 32 0 (2 + (8 * a + b)) = M 27 0 (8 * a + b) by rw [row_M Z, Z.G.1.2.1 _ (by omega)]] at cg
    exact zOp_q Z zSame.rf rQ.rf (c_roadOf (d := 1) ha hb) cg
  · have p1' := zok_ff p1
    have r := fun {O : Nat → Int64} => r_roadOf_no (w := w) (d := 2) (M := M) (O := O) (x := x) (y := y) (by rw [p1', Bool.false_and])
    rw [p1'] at r
    exact zOp_no1 Z (t_roadOf (d := 1) p1') r
theorem o_distance (Zv : zInv M) (x y z : Int32) : zOp w mX9_distance mX10_distance [vI x, vI y, vI z] xIOOB xIA O M := by
  obtain ⟨s, o, h, n, C, K, Z⟩ := Zv
  by_cases p1 : (z_ok x 8 && z_ok y 8) = true
  · have p := Bool.and_eq_true_iff.mp p1
    obtain ⟨a, ha, rfl⟩ := zok_ex (by decide) p.1
    obtain ⟨b, hb, rfl⟩ := zok_ex (by decide) p.2
    by_cases pz : z_ok z 2 = true
    · obtain ⟨v, hv, rfl⟩ := zok_ex (by decide) pz
      obtain e | e : v = 0 ∨ v = 1 := by omega
      · subst e
        have cf := c_distance0 (w := w) (d := 1) (M := M) (O := O) ha hb
        rw [kNd_of hb, kNd_v Z.G.1 Z.G.2.1 ha hb] at cf
        exact zOp_q Z mN_same rQ_mea cf (r_distance (d := 2) (qRow mN_same) ha hb (by decide))
      · subst e
        have cf := c_distance1 (w := w) (d := 1) (M := M) (O := O) ha hb
        rw [show M 28 0 (8 * a + b) = vDi (rV M 0) (8 * a + b) from Z.G.1.2.2.2.2.2.2.2.2.2 _ (by omega)] at cf
        exact zOp_q Z zSame.rf rQ_mea cf (r_distance (d := 2) (qRow zSame.rf) ha hb (by decide))
    · have pz' := zok_f pz
      have r := fun {O : Nat → Int64} => r_distance_no (w := w) (d := 2) (M := M) (O := O) (x := nI a) (y := nI b) (z := z) (by rw [pz', Bool.and_false])
      rw [p1, pz'] at r
      exact zOp_no2 Z (t_distance2 (d := 1) ha hb pz') r
  · have p1' := zok_ff p1
    have r := fun {O : Nat → Int64} => r_distance_no (w := w) (d := 2) (M := M) (O := O) (x := x) (y := y) (z := z) (by rw [p1', Bool.false_and])
    rw [p1'] at r
    exact zOp_no1 Z (t_distance1 (d := 1) p1') r
theorem o_exitOf (Zv : zInv M) (x y : Int32) : zOp w mX9_exitOf mX10_exitOf [vI x, vI y] xIOOB xIA O M := by
  obtain ⟨s, o, h, n, C, K, Z⟩ := Zv
  have F := Z.F
  have h8 := F.h8
  have m66 : M 32 0 66 = nI s := (row_M Z).trans Z.ss
  by_cases px : z_ok x s = true
  · obtain ⟨e, he, rfl⟩ := zok_ex (by omega) px
    by_cases py : z_ok y 5 = true
    · obtain ⟨v, hv, rfl⟩ := zok_ex (by decide) py
      have cf := c_exitOf (w := w) (d := 1) (O := O) F he hv
      rw [kEo_v Z.G.1 Z.G.2.1 Z.ss h8 he hv, ← row_M Z] at cf
      exact zOp_q Z zSame.rf rQ.rf cf (r_exitOf (d := 2) m66 h8 he hv)
    · have py' := zok_f py
      have r := fun {O : Nat → Int64} => r_exitOf_no (w := w) (d := 2) (M := M) (O := O) (s := s) m66 h8 (x := nI e) (y := y) (by rw [py', Bool.and_false])
      rw [px, py'] at r
      exact zOp_no2 Z (t_exitOf2 (d := 1) F px py') r
  · have px' := zok_f px
    have r := fun {O : Nat → Int64} => r_exitOf_no (w := w) (d := 2) (M := M) (O := O) (s := s) m66 h8 (x := x) (y := y) (by rw [px', Bool.false_and])
    rw [px'] at r
    exact zOp_no1 Z (t_exitOf1 (d := 1) F px') r
theorem o_neighbourOf (Zv : zInv M) (x y : Int32) : zOp w mX9_neighbourOf mX10_neighbourOf [vI x, vI y] xIOOB xIA O M := by
  obtain ⟨s, o, h, n, C, K, Z⟩ := Zv
  by_cases px : z_ok x 4 = true
  · by_cases py : z_ok y 8 = true
    · obtain ⟨a, ha, rfl⟩ := zok_ex (by decide) px
      obtain ⟨v, hv, rfl⟩ := zok_ex (by decide) py
      have cf := c_neighbourOf (w := w) (d := 1) (M := M) (O := O) ha hv
      have ev : kNo M a v = vNo (M 32 0) a v := by
        rw [kNo_v Z.G.1 ha hv]
        unfold vNo
        rw [row_M Z, row_M Z]
      rw [ev] at cf
      exact zOp_q Z zSame.rf rQ.rf cf (r_neighbourOf (d := 2) ha hv)
    · have py' := zok_f py
      have r := fun {O : Nat → Int64} => r_neighbourOf_no (w := w) (d := 2) (M := M) (O := O) (x := x) (y := y) (by rw [py', Bool.and_false])
      rw [px, py'] at r
      exact zOp_no2 Z (t_neighbourOf2 (d := 1) px py') r
  · have px' := zok_f px
    have r := fun {O : Nat → Int64} => r_neighbourOf_no (w := w) (d := 2) (M := M) (O := O) (x := x) (y := y) (by rw [px', Bool.false_and])
    rw [px'] at r
    exact zOp_no1 Z (t_neighbourOf1 (d := 1) px') r
theorem o_choice (Zv : zInv M) (x y z : Int32) : zOp w mX9_choice mX10_choice [vI x, vI y, vI z] xIOOB xIA O M := by
  obtain ⟨s, o, h, n, C, K, Z⟩ := Zv
  have F := Z.F
  have h8 := F.h8
  by_cases px : z_ok x 8 = true
  · by_cases py : z_ok y 4 = true
    · by_cases pz : z_ok z 6 = true
      · obtain ⟨t, ht, rfl⟩ := zok_ex (by decide) px
        obtain ⟨u, hu, rfl⟩ := zok_ex (by decide) py
        obtain ⟨v, hv, rfl⟩ := zok_ex (by decide) pz
        obtain ⟨M1, S, cf⟩ := c_choice (w := w) (d := 1) (O := O) (M := M) (M' := M) zSame.rf F.hs h8 ht hu hv
        rw [kCh_v Z.G.1 Z.G.2.1 Z.ss h8 ht hu hv] at cf
        exact zOp_q Z S rQ_mea cf (r_choice (d := 2) (qRow S) Z.G.2.1 Z.ss h8 ht hu hv)
      · have pz' := zok_f pz
        have r := fun {O : Nat → Int64} => r_choice_no (w := w) (d := 2) (M := M) (O := O) (x := x) (y := y) (z := z) (by rw [pz', Bool.and_false])
        rw [px, py, pz'] at r
        exact zOp_no2 Z (t_choice3 (d := 1) px py pz') r
    · have py' := zok_f py
      have r := fun {O : Nat → Int64} => r_choice_no (w := w) (d := 2) (M := M) (O := O) (x := x) (y := y) (z := z) (by rw [py', Bool.and_false, Bool.false_and])
      rw [py', Bool.and_false] at r
      exact zOp_no1 Z (t_choice2 (d := 1) px py') r
  · have px' := zok_f px
    have r := fun {O : Nat → Int64} => r_choice_no (w := w) (d := 2) (M := M) (O := O) (x := x) (y := y) (z := z) (by rw [px', Bool.false_and, Bool.false_and])
    rw [px', Bool.false_and] at r
    exact zOp_no1 Z (t_choice1 (d := 1) px') r
theorem o_why (Zv : zInv M) (x y z : Int32) : zOp w mX9_why mX10_why [vI x, vI y, vI z] xIOOB xIOOB O M := by
  obtain ⟨s, o, h, n, C, K, Z⟩ := Zv
  have F := Z.F
  have h8 := F.h8
  have m66 : M 32 0 66 = nI s := (row_M Z).trans Z.ss
  by_cases px : z_ok x 8 = true
  · by_cases py : z_ok y 4 = true
    · by_cases pz : z_ok z s = true
      · obtain ⟨t, ht, rfl⟩ := zok_ex (by decide) px
        obtain ⟨u, hu, rfl⟩ := zok_ex (by decide) py
        obtain ⟨e, he, rfl⟩ := zok_ex (by omega) pz
        obtain ⟨M1, S, cf⟩ := c_why (w := w) (d := 1) (O := O) (M := M) (M' := M) zSame.rf F.hs h8 ht hu he
        rw [kWy_v Z.G.1 Z.G.2.1 Z.ss h8 ht hu he] at cf
        exact zOp_q Z S rQ_mea cf (r_why (d := 2) (qRow S) Z.G.2.1 Z.ss h8 ht hu he)
      · have pz' := zok_f pz
        have r := fun {O : Nat → Int64} => r_why_no (w := w) (d := 2) (M := M) (O := O) (s := s) m66 h8 (x := x) (y := y) (z := z) (by rw [pz', Bool.and_false, Bool.and_false, Bool.false_and])
        rw [pz', Bool.and_false, Bool.and_false] at r
        exact zOp_no1 Z (t_why3 (d := 1) F px py pz') r
    · have py' := zok_f py
      have r := fun {O : Nat → Int64} => r_why_no (w := w) (d := 2) (M := M) (O := O) (s := s) m66 h8 (x := x) (y := y) (z := z) (by rw [py', Bool.false_and, Bool.and_false, Bool.false_and])
      rw [py', Bool.false_and, Bool.and_false] at r
      exact zOp_no1 Z (t_why2 (d := 1) px py') r
  · have px' := zok_f px
    have r := fun {O : Nat → Int64} => r_why_no (w := w) (d := 2) (M := M) (O := O) (s := s) m66 h8 (x := x) (y := y) (z := z) (by rw [px', Bool.false_and, Bool.false_and])
    rw [px', Bool.false_and] at r
    exact zOp_no1 Z (t_why1 (d := 1) px') r
theorem o_count (Zv : zInv M) (x : Int32) : zOp w mX9_count mX10_count [vI x] xIA xIA O M := by
  obtain ⟨s, o, h, n, C, K, Z⟩ := Zv
  have F := Z.F
  have h8 := F.h8
  by_cases px : z_ok x 10 = true
  · obtain ⟨v, hv, rfl⟩ := zok_ex (by decide) px
    obtain ⟨M1, S, cf⟩ := c_count (w := w) (d := 1) (O := O) (M := M) (M' := M) zSame.rf F.hs h8 hv
    rw [kCt_v Z.G.1 Z.G.2.1 Z.G.2.2 Z.ss h8 F.hh hv] at cf
    exact zOp_qE Z S cf (fun O => r_count (w := w) (d := 2) (O := O) (k := h) (qRow S) Z.G.2.1 Z.ss h8 (by rw [q10 S]; exact Z.hh) hv)
  · have px' := zok_f px
    have r := fun {O : Nat → Int64} => r_count_no (w := w) (d := 2) (M := M) (O := O) (x := x) (by rw [px', Bool.false_and])
    rw [px'] at r
    exact zOp_no1 Z (t_count (d := 1) px') r
theorem o_ifRoad (Zv : zInv M) (x y z : Int32) : zOp w mX9_ifRoad mX10_ifRoad [vI x, vI y, vI z] xIOOB xIA O M := by
  obtain ⟨s, o, h, n, C, K, Z⟩ := Zv
  have F := Z.F
  have h8 := F.h8
  by_cases p1 : (z_ok x 8 && z_ok y 8) = true
  · have p := Bool.and_eq_true_iff.mp p1
    obtain ⟨a, ha, rfl⟩ := zok_ex (by decide) p.1
    obtain ⟨b, hb, rfl⟩ := zok_ex (by decide) p.2
    by_cases e : a = b
    · subst e
      have r := fun {O : Nat → Int64} => r_ifRoad_no (w := w) (d := 2) (M := M) (O := O) (x := nI a) (y := nI a) (z := z) (by rw [decide_eq_false (fun q => q rfl), Bool.false_and, Bool.and_false])
      rw [p1, decide_eq_false (fun q : ¬ nI a = nI a => q rfl), Bool.false_and] at r
      exact zOp_no2 Z (t_ifRoad2 (d := 1) ha) r
    · by_cases hz : z_ok z 100 = true
      · obtain ⟨c, hc, rfl⟩ := zok_ex (by decide) hz
        obtain ⟨M1, S, cf⟩ := c_ifRoad (w := w) (d := 1) (M := M) (O := O) (s := s) F.hs h8 ha hb e (show c ≤ 99 by omega) (roads_nn Z)
        rw [kOt_try Z.G.1 Z.G.2.1 Z.ss h8 ha hb e (by omega)] at cf
        exact zOp_qE Z S cf (fun O => r_ifRoad (w := w) (d := 2) (O := O) (qRow S) Z.G.2.1 Z.ss h8 ha hb e (show c ≤ 99 by omega))
      · have hz' := zok_f hz
        have r := fun {O : Nat → Int64} => r_ifRoad_no (w := w) (d := 2) (M := M) (O := O) (x := nI a) (y := nI b) (z := z) (by rw [hz', Bool.and_false, Bool.and_false])
        rw [p1, hz', Bool.and_false] at r
        exact zOp_no2 Z (t_ifRoad3 (d := 1) ha hb e hz') r
  · have p1' := zok_ff p1
    have r := fun {O : Nat → Int64} => r_ifRoad_no (w := w) (d := 2) (M := M) (O := O) (x := x) (y := y) (z := z) (by rw [p1', Bool.false_and])
    rw [p1'] at r
    exact zOp_no1 Z (t_ifRoad1 (d := 1) p1') r
theorem o_idle (Zv : zInv M) (x y : Int32) : zOp w mX9_idle mX10_idle [vI x, vI y] xIOOB xIA O M := by
  obtain ⟨s, o, h, n, C, K, Z⟩ := Zv
  by_cases p1 : (z_ok x 8 && z_ok y 8) = true
  · have p := Bool.and_eq_true_iff.mp p1
    obtain ⟨a, ha, rfl⟩ := zok_ex (by decide) p.1
    obtain ⟨b, hb, rfl⟩ := zok_ex (by decide) p.2
    by_cases e : a = b
    · subst e
      have r := fun {O : Nat → Int64} => r_idle_no (w := w) (d := 2) (M := M) (O := O) (x := nI a) (y := nI a) (by rw [decide_eq_false (fun q => q rfl), Bool.and_false])
      rw [p1, decide_eq_false (fun q : ¬ nI a = nI a => q rfl)] at r
      exact zOp_no2 Z (t_idle2 (d := 1) ha) r
    · obtain ⟨M1, S, cf⟩ := c_idle (w := w) (d := 1) (M := M) (O := O) ha hb e (roads_nn Z)
      rw [kId_v Z.G.1 Z.G.2.1 ha hb e] at cf
      exact zOp_qE Z S cf (fun O => r_idle (w := w) (d := 2) (O := O) (qRow S) ha hb e)
  · have p1' := zok_ff p1
    have r := fun {O : Nat → Int64} => r_idle_no (w := w) (d := 2) (M := M) (O := O) (x := x) (y := y) (by rw [p1', Bool.false_and])
    rw [p1'] at r
    exact zOp_no1 Z (t_idle1 (d := 1) p1') r
theorem o_dearest (Zv : zInv M) : zOp0 w mX9_dearest mX10_dearest O M := by
  obtain ⟨s, o, h, n, C, K, Z⟩ := Zv
  have F := Z.F
  have h8 := F.h8
  obtain ⟨M1, S, cf⟩ := c_dearest (w := w) (d := 3) (O := O) (M := M) (M' := M) (s := s) zSame.rf F.hs h8
  rw [kDe_cp Z.G.1 Z.G.2.1 Z.ss h8] at cf
  obtain ⟨M2, Q, cg⟩ := r_dearest (w := w) (d := 2) (O := O) (qRow S) Z.G.2.1 Z.ss h8
  exact ⟨M1, M2, _, ⟨_, _, _, _, _, _, zI_q Z S Q⟩, cf, cg⟩
theorem o_hotShare (Zv : zInv M) : ∃ (M1 M2 : Nat → Nat → Nat → Int32) (x : UInt64), zInv M2 ∧ FP.Core.val64 x ≠ .nan ∧ zC w mX9_hotShare 11 [vR 9 0] (zP M O) (.inl (some (vD x))) (zP M1 O) ∧ zC w mX10_hotShare 11 [vR 10 0] (zP M1 O) (.inl (some (vD x))) (zP M2 O) := by
  obtain ⟨s, o, h, n, C, K, Z⟩ := Zv
  obtain ⟨t, c, ht, hc, et, ec⟩ := Z.G.2.1.2.2.2.2.2.2
  exact ⟨M, _, _, ⟨_, _, _, _, _, _, zI_q Z zSame.rf rQ.rf⟩, kSh_ne (by omega) ht, c_hotShare (Z.G.1.2.2.2.2.2.2.1.trans et) (Z.G.1.2.2.2.2.2.2.2.1.trans ec) hc ht, r_hotShare (d := 2) ((row_M Z).trans et) ((row_M Z).trans ec) hc ht⟩
theorem o_digest (Zv : zInv M) : ∃ (M1 M2 : Nat → Nat → Nat → Int32) (x : Int64), zInv M2 ∧ zC w mX9_digest 11 [vR 9 0] (zP M O) (zrJ x) (zP M1 O) ∧ zC w mX10_digest 11 [vR 10 0] (zP M1 O) (zrJ x) (zP M2 O) := by
  obtain ⟨s, o, h, n, C, K, Z⟩ := Zv
  have F := Z.F
  have X := Z.X
  have Y := Z.Y
  obtain ⟨t, c, ht, hc, et, ec⟩ := Z.G.2.1.2.2.2.2.2.2
  obtain ⟨M1, S, cf⟩ := c_digest (w := w) (d := 0) (O := O) (T := fun j => nI (C j)) (K := K) F Z.G.1 Z.G.2.1 Z.G.2.2 Z.ss (fun j hj => (X.2.2 j hj).1) (fun p hp => (Z.kk p hp).1) et ec hc ht
  obtain ⟨M2, Q, cg⟩ := r_digest (w := w) (d := 2) (O := O) (M0 := M1) (T := fun j => nI (C j)) (K := K) (k := h) (n := n) (qRow S) Z.G.2.1 Z.ss F.h8 (by rw [q10 S]; exact Z.hh) (by rw [q10 S]; exact Y.1) Y.2.1 (fun j hj => by rw [S 34 0 (by decide) (by decide) (by decide) (by decide) (by decide) (Or.inr (by decide))]; exact (Y.2.2 j hj).1) (fun p hp => by rw [S 33 0 (by decide) (by decide) (by decide) (by decide) (by decide) (Or.inr (by decide))]; exact (Z.kk p hp).2) et ec hc ht
  exact ⟨M1, M2, _, ⟨_, _, _, _, _, _, zI_q Z S Q⟩, cf, cg⟩
/-! the buffer -/
/-- the text alone is changed -/
theorem zI_t {n' : Nat} {C' : Nat → Nat} (Z : zI M s o h n C K) (e0 : ∀ k i, k ≠ 8 → k ≠ 31 → k ≠ 10 → k ≠ 34 → k ≠ 32 → k ≠ 35 → M2 k i = M k i) (e32 : M2 32 0 = M 32 0) (e1 : M2 10 0 1 = M 10 0 1) (X : cTx M2 C' n') (Y : rTx M2 C' n') : zI M2 s o h n' C' K := by
  have F := Z.F
  have el : ∀ i, ∀ V, LandR M i V → LandR M2 i V := fun i => LandR_k (fun k hk => e0 k i (fun q => by have := hk.2.1 (by omega); omega) (by have := hk.1; omega) hk.2.2.1 (by have := hk.1; omega) (by have := hk.1; omega) (by have := hk.1; omega))
  have e20 : M2 2 0 = M 2 0 := e0 2 0 (by decide) (by decide) (by decide) (by decide) (by decide) (by decide)
  have e10 : M2 1 0 = M 1 0 := e0 1 0 (by decide) (by decide) (by decide) (by decide) (by decide) (by decide)
  have e30 : M2 30 0 = M 30 0 := e0 30 0 (by decide) (by decide) (by decide) (by decide) (by decide) (by decide)
  have e33 : M2 33 0 = M 33 0 := e0 33 0 (by decide) (by decide) (by decide) (by decide) (by decide) (by decide)
  exact ⟨⟨by rw [e10]; exact F.hs, F.h8, by rw [e20]; exact F.ho, F.o6, by rw [e20]; exact F.hh, F.h6, X.1, X.2.1⟩, e1.trans Z.hh, ⟨X, Y⟩, by rw [e30, e33]; exact Z.kk, gR_mv Z.G (el 0) (fun j _ => by rw [e32]), fun j hj => gR_mv (Z.H j hj) (el _) (fun i _ => by rw [e32]), fun p hp hk => gR_mv (Z.S p hp hk) (el _) (fun i _ => by rw [e32])⟩
theorem o_append (Zv : zInv M) (x : Int32) : zOp w mX9_append mX10_append [vI x] xIA xIS O M := by
  obtain ⟨s, o, h, n, C, K, Z⟩ := Zv
  have F := Z.F
  have X := Z.X
  have Y := Z.Y
  have h60 := F.h60
  by_cases px : tIn x (nI 33) (nI 126) = true
  · by_cases l : n < 60
    · obtain ⟨p1, p2⟩ := tIn_le px
      have hx : ∃ c, 33 ≤ c ∧ c ≤ 126 ∧ x = nI c := by
        rcases pk_ix x (n := 127) (by decide) with q | q | ⟨c, q1, q2⟩
        · exact absurd (Int32.lt_of_le_of_lt p1 q) (by decide)
        · exact absurd (Int32.lt_of_lt_of_le (show nI 126 < nI 127 by decide) q) (Int32.not_lt.mpr p2)
        · rw [q2] at p1
          exact ⟨c, (nI_leI (by decide) (by omega)).mp p1, by omega, q2⟩
      obtain ⟨c, c1, c2, rfl⟩ := hx
      have cf := c_append (w := w) (d := 1) (M := M) (O := O) px F.hn l
      obtain ⟨M1, hM1⟩ : ∃ M1, M1 = u3 (u3 M 31 0 n (nI c)) 8 0 1 (nI (n + 1)) := ⟨_, rfl⟩
      have k0 : ∀ k i, k ≠ 8 → k ≠ 31 → M1 k i = M k i := fun k i a b => by rw [hM1, u3_kf a, u3_kf b]
      have m8 : M1 8 0 1 = nI (n + 1) := by rw [hM1]; exact u3_self
      have m31 : ∀ j, M1 31 0 j = if j = n then nI c else M 31 0 j := fun j => by
        rw [hM1, u3_nk (by decide)]
        unfold u3
        by_cases e : j = n
        · rw [if_pos ⟨rfl, rfl, e⟩, if_pos e]
        · rw [if_neg (fun z => e z.2.2), if_neg e]
      rw [← hM1] at cf
      have cg := fun {O : Nat → Int64} => r_append (w := w) (d := 2) (M := M1) (O := O) (n := n) (by rw [k0 10 0 (by decide) (by decide)]; exact Y.1) l c1 c2
      obtain ⟨M2, hM2⟩ : ∃ M2, M2 = u3 (u3 (m0 M1) 34 0 n (nI c)) 10 0 5 (nI (n + 1)) := ⟨_, rfl⟩
      rw [← hM2] at cg
      have k2 : ∀ k i, k ≠ 34 → k ≠ 10 → M2 k i = M1 k i := fun k i a b => by rw [hM2, u3_kf b, u3_kf a]; exact u3_kf b
      have m34 : ∀ j, M2 34 0 j = if j = n then nI c else M 34 0 j := fun j => by
        rw [hM2, u3_nk (by decide), ← k0 34 0 (by decide) (by decide)]
        unfold u3
        by_cases e : j = n
        · rw [if_pos ⟨rfl, rfl, e⟩, if_pos e]
        · rw [if_neg (fun z => e z.2.2), if_neg e]
          exact u3_nk (by decide)
      refine zOp_mk0 (M1 := M1) (M2 := M2) ⟨s, o, h, n + 1, fun j => if j = n then c else C j, K, zI_t Z (fun k i a b c d _ _ => (k2 k i d c).trans (k0 k i a b)) ((k2 32 0 (by decide) (by decide)).trans (k0 32 0 (by decide) (by decide))) ?_ ⟨?_, by omega, fun j hj => ?_⟩ ⟨?_, by omega, fun j hj => ?_⟩⟩ ?_ cf cg
      · rw [hM2, u3_nj (by decide), u3_nk (by decide)]
        exact (u3_nj (by decide)).trans (by rw [k0 10 0 (by decide) (by decide)])
      · rw [k2 8 0 (by decide) (by decide)]
        exact m8
      · show M2 31 0 j = nI (if j = n then c else C j) ∧ (if j = n then c else C j) ≤ 126
        rw [k2 31 0 (by decide) (by decide), m31]
        by_cases e : j = n
        · rw [if_pos e, if_pos e]
          exact ⟨rfl, c2⟩
        · rw [if_neg e, if_neg e]
          exact X.2.2 j (by omega)
      · rw [hM2]
        exact u3_self
      · show M2 34 0 j = nI (if j = n then c else C j) ∧ (if j = n then c else C j) ≤ 126
        rw [m34]
        by_cases e : j = n
        · rw [if_pos e, if_pos e]
          exact ⟨rfl, c2⟩
        · rw [if_neg e, if_neg e]
          exact Y.2.2 j (by omega)
      · rw [hM2, u3_nj (by decide), u3_nk (by decide)]
        exact u3_self
    · have e60 : n = 60 := by omega
      subst e60
      have r := fun {O : Nat → Int64} => r_append_no (w := w) (d := 2) (M := M) (O := O) (x := x) (by rw [Y.1, decide_eq_false (by decide), Bool.and_false])
      rw [px, Y.1, decide_eq_false (by decide)] at r
      exact zOp_no2 Z (t_append2 (d := 1) px F.hn) r
  · have px' := zok_f px
    have r := fun {O : Nat → Int64} => r_append_no (w := w) (d := 2) (M := M) (O := O) (x := x) (by rw [px', Bool.false_and])
    rw [px'] at r
    exact zOp_no1 Z (t_append1 (d := 1) px') r
theorem o_clear (Zv : zInv M) : zOp0 w mX9_clearBuffer mX10_clearBuffer O M := by
  obtain ⟨s, o, h, n, C, K, Z⟩ := Zv
  have cf := c_clear (w := w) (d := 2) (M := M) (O := O)
  have cg := r_clear (w := w) (d := 2) (M := u3 M 8 0 1 (nI 0)) (O := O)
  rw [Z.F.hn] at cf
  rw [show u3 M 8 0 1 (nI 0) 10 0 5 = nI n from (u3_nk (by decide)).trans Z.Y.1] at cg
  refine ⟨u3 M 8 0 1 (nI 0), u3 (m0 (u3 M 8 0 1 (nI 0))) 10 0 5 (nI 0), nI n, ⟨s, o, h, 0, C, K, zI_t Z (fun k i a _ c _ _ _ => ?_) rfl ?_ ⟨?_, Nat.zero_le _, fun j hj => absurd hj (Nat.not_lt_zero _)⟩ ⟨?_, Nat.zero_le _, fun j hj => absurd hj (Nat.not_lt_zero _)⟩⟩, cf, cg⟩
  · rw [u3_kf c]
    show u3 (u3 M 8 0 1 (nI 0)) 10 0 3 (nI 0) k i = _
    rw [u3_kf c, u3_kf a]
  · rw [u3_nj (by decide)]
    show u3 (u3 M 8 0 1 (nI 0)) 10 0 3 (nI 0) 10 0 1 = _
    rw [u3_nj (by decide), u3_nk (by decide)]
  · rw [u3_nk (by decide)]
    show u3 (u3 M 8 0 1 (nI 0)) 10 0 3 (nI 0) 8 0 1 = _
    rw [u3_nk (by decide)]
    exact u3_self
  · exact u3_self
theorem cTx_hT (X : cTx M C n) : ∀ j, j < n → M 31 0 j = nI (C j) ∧ C j < 1000 := fun j hj => ⟨(X.2.2 j hj).1, by have := (X.2.2 j hj).2; omega⟩
theorem o_firstError (Zv : zInv M) : zOp0 w mX9_firstError mX10_firstError O M := by
  obtain ⟨s, o, h, n, C, K, Z⟩ := Zv
  have X := Z.X
  have Y := Z.Y
  have cf := c_firstError (w := w) (d := 2) (M := M) (O := O) Z.F.hn Z.F.h60
  rw [tFF_pE (cTx_hT X)] at cf
  obtain ⟨a', x', y', v', cg⟩ := r_firstError (w := w) (d := 2) (O := O) Y
  have k0 : ∀ k i, k ≠ 10 → mT (u3 M 10 0 3 (nI 0)) a' x' y' v' k i = M k i := fun k i a => (u2_ne (fun q => a q.1)).trans (u3_kf a)
  have k1 : ∀ j, j < 6 → j ≠ 3 → mT (u3 M 10 0 3 (nI 0)) a' x' y' v' 10 0 j = M 10 0 j := fun j h6 h3 => (show tF (u3 M 10 0 3 (nI 0) 10 0) a' x' y' v' j = _ from (tF_o (Or.inl h6)).trans (u3_nj h3))
  exact ⟨M, _, _, ⟨s, o, h, n, C, K, zI_t Z (fun k i _ _ c _ _ _ => k0 k i c) rfl (k1 1 (by decide) (by decide)) ⟨by rw [k0 8 0 (by decide)]; exact X.1, X.2.1, by rw [k0 31 0 (by decide)]; exact X.2.2⟩ ⟨(k1 5 (by decide) (by decide)).trans Y.1, Y.2.1, by rw [k0 34 0 (by decide)]; exact Y.2.2⟩⟩, cf, cg⟩
theorem o_run (Zv : zInv M) : zOp w mX9_run mX10_run [] xIA xIA O M := by
  obtain ⟨s, o, h, n, C, K, Z⟩ := Zv
  have F := Z.F
  have X := Z.X
  have Y := Z.Y
  cases hp : pE C n (n + 1) 0 with
  | some e =>
    refine ⟨M, nI 0, nI 1, Or.inr (Or.inl ⟨rfl, t_run (d := 1) X hp⟩), fun O => ?_⟩
    obtain ⟨M2, q, q32, cg⟩ := r_runNo (w := w) (d := 2) (O := O) Y hp
    have k0 : ∀ k i, k ≠ 10 → k ≠ 32 → k ≠ 35 → M2 k i = M k i := fun k i a b c => (q.1 k i a b c).trans (u3_kf a)
    exact ⟨M2, ⟨s, o, h, n, C, K, zI_t Z (fun k i _ _ c _ b e => k0 k i c b e) q32 ((q.2.1 1 (Or.inl (by decide))).trans (u3_nj (by decide))) ⟨by rw [k0 8 0 (by decide) (by decide) (by decide)]; exact X.1, X.2.1, by rw [k0 31 0 (by decide) (by decide) (by decide)]; exact X.2.2⟩ ⟨((q.2.1 5 (Or.inl (by decide))).trans (u3_nj (by decide))).trans Y.1, Y.2.1, by rw [k0 34 0 (by decide) (by decide) (by decide)]; exact Y.2.2⟩⟩, (q.2.1 3 (Or.inl (by decide))).trans u3_self, cg⟩
  | none =>
    obtain ⟨N, Q, R, cf⟩ := c_runYes (w := w) (d := 1) (O := O) F X hp Z.G.1 Z.G.2.1 Z.G.2.2 Z.ss
    obtain ⟨M1, hM1⟩ : ∃ M1, M1 = u3 N 8 0 1 (nI 0) := ⟨_, rfl⟩
    rw [← hM1] at cf
    have n0 : ∀ k i, k ≠ 8 → M1 k i = N k i := fun k i a => by rw [hM1, u3_kf a]
    have QT : cT (mSave M o h 0) M1 := fun k i z => by
      by_cases e : k = 8 ∧ i = 0
      · omega
      · rw [hM1, u3_f e]
        exact Q k i (by omega)
    have m10 : M1 10 0 = M 10 0 := (QT 10 0 (by omega)).trans (mSave_0 (by decide))
    have m32 : M1 32 0 = M 32 0 := (QT 32 0 (by omega)).trans (mSave_0 (by decide))
    have m34 : M1 34 0 = M 34 0 := (QT 34 0 (by omega)).trans (mSave_0 (by decide))
    have RM : RowR M1 0 (rV M 0) := fun j hj => by
      show M1 32 0 (0 + j) = M 32 0 (0 + j)
      rw [m32]
    refine zOp_mkE (M1 := M1) cf (fun O => ?_)
    obtain ⟨M2, q, R2, cg⟩ := r_runYes (w := w) (d := 2) (O := O) (M := M1) (C := C) (n := n) (s := s) (h := h) ⟨by rw [m10]; exact Y.1, Y.2.1, by rw [m34]; exact Y.2.2⟩ hp (by rw [m10]; exact Z.hh) F.h6 F.h8 RM Z.G.2.1 Z.G.2.2 Z.ss
    have wf : ∀ k a (U : Nat → Int32), pE C n k a = none → a ≤ n → nSt C a = 0 → WFV U → WFP U → U 66 = nI s → WFV (vRun C n s k a U).1 ∧ WFP (vRun C n s k a U).1 ∧ (vRun C n s k a U).1 66 = nI s := by
      intro k
      induction k with
      | zero => intro a U hp2; cases hp2
      | succ k ih =>
        intro a U hp2 ha h0 WU PU us
        unfold pE at hp2
        obtain ⟨_, _, _, b5⟩ := pO_spec ha h0
        cases hb : (pO C n a).2
        · rw [hb, if_neg (by decide)] at hp2
          cases hp2
        · rw [hb, if_pos rfl] at hp2
          obtain ⟨al, Kk⟩ := pO_ok hb
          obtain ⟨_, f2, _, _⟩ := b5 hb
          obtain ⟨w1, w2, w3⟩ := vDo_wf (s := s) Kk WU PU us F.h8
          unfold vRun
          rw [if_pos al]
          cases hd : (vDo C n s a U).2
          · rw [if_neg (by decide)]
            exact ⟨w1, w2, w3⟩
          · rw [if_pos rfl]
            by_cases l : (pO C n a).1 = n
            · have rz : vRun C n s k ((pO C n a).1 + 1) (vDo C n s a U).1 = ((vDo C n s a U).1, 0) := by
                cases k with
                | zero => rfl
                | succ k =>
                  show (if (pO C n a).1 + 1 < n then _ else _) = _
                  rw [if_neg (by omega)]
              rw [rz]
              exact ⟨w1, w2, w3⟩
            · rw [if_neg l] at hp2
              by_cases c : C (pO C n a).1 = 59
              · rw [if_pos c] at hp2
                have b2 := (pO_spec ha h0).1.2
                have z := f2 (by omega)
                rw [if_pos c] at z
                exact ih _ _ hp2 (by omega) z w1 w2 w3
              · rw [if_neg c] at hp2
                cases hp2
    obtain ⟨w1, w2, w3⟩ := wf (n + 1) 0 _ hp (Nat.zero_le _) rfl Z.G.2.1 Z.G.2.2 Z.ss
    have RL : LandR M1 0 (vRun C n s (n + 1) 0 (rV M 0)).1 := LandR_k (fun k hk => n0 k 0 (fun z => by have := hk.2.1 (by omega); omega)) _ R
    have T : rS M1 M2 h := by
      refine ⟨fun k i a b c _ _ => ?_, (q.2.1 1 (Or.inl (by decide))).trans ?_, fun j hj => (q.2.2 j hj).trans ?_⟩
      · rw [q.1 k i a b c, u3_kf a, u2_ne (by omega)]
        unfold mSv
        rw [u3_kf a, u3_kf a]
      · rw [u3_nj (by decide)]
        show u3 (u3 M1 10 0 3 (nI 0)) 10 0 1 (nI (rSv h)) 10 0 1 = _
        exact u3_self
      · rw [u3_nk (by decide), u2_self]
    have m2 : ∀ k i, k ≠ 10 → k ≠ 32 → k ≠ 35 → M2 k i = M1 k i := fun k i a b c => by
      rw [q.1 k i a b c, u3_kf a, u2_ne (by omega)]
      unfold mSv
      rw [u3_kf a, u3_kf a]
    refine ⟨M2, ⟨_, _, _, 0, C, _, zI_save Z QT T RL R2 w1 w2 w3 F.h8 ⟨?_, Nat.zero_le _, fun j hj => absurd hj (Nat.not_lt_zero _)⟩ ⟨(q.2.1 5 (Or.inl (by decide))).trans u3_self, Nat.zero_le _, fun j hj => absurd hj (Nat.not_lt_zero _)⟩⟩, ?_, cg⟩
    · rw [m2 8 0 (by decide) (by decide) (by decide), hM1]
      exact u3_self
    · rw [q.2.1 3 (Or.inl (by decide)), u3_nj (by decide)]
      rfl
end L28

