/-! What the law's questions are answered. -/
section QS
variable {w : zWp} {d t : Nat} {M : Nat → Nat → Nat → Int32} {O : Nat → Int64} {s h a b c e v : Nat} {V : Nat → Int32} {x y z : Int32}
theorem q_roadOf (Z : zS t M s h V) (ha : a < 8) (hb : b < 8) : zCk w mL_roadOf 0 (d + 10) [vR 9 0, vI (nI a), vI (nI b)] (zP M O) (zrI (V (2 + (8 * a + b)))) (zP M O) := by
  obtain ⟨o, K, L, Z⟩ := Z
  have c := c_roadOf (w := w) (d := d) (M := M) (O := O) ha hb
  rw [Z.R.2.1 _ (by omega)] at c
  exact h_roadOf c
theorem q_dist0 (Z : zS t M s h V) (ha : a < 8) (hb : b < 8) : ∃ M1, zS t M1 s h V ∧ zCk w mL_distance 0 (d + 10) [vR 9 0, vI (nI a), vI (nI b), vI (nI 0)] (zP M O) (zrI (kFar V a b)) (zP M1 O) := by
  obtain ⟨o, K, L, Z⟩ := Z
  have c := c_distance0 (w := w) (d := d) (M := M) (O := O) ha hb
  rw [kNd_of hb, kNd_v Z.R Z.W ha hb] at c
  exact ⟨_, ⟨o, K, L, zJ_q Z mN_same⟩, h_distance c⟩
theorem q_dist1 (Z : zS t M s h V) (ha : a < 8) (hb : b < 8) : zCk w mL_distance 0 (d + 10) [vR 9 0, vI (nI a), vI (nI b), vI (nI 1)] (zP M O) (zrI (kFar V a b)) (zP M O) := by
  obtain ⟨o, K, L, Z⟩ := Z
  have c := c_distance1 (w := w) (d := d) (M := M) (O := O) ha hb
  rw [(LandR_iff.mp Z.R).2 _ (show 8 * a + b < 64 by omega)] at c
  exact h_distance c
theorem q_exitOf (Z : zS t M s h V) (he : e < s) (hv : v < 5) : zCk w mL_exitOf 0 (d + 10) [vR 9 0, vI (nI e), vI (nI v)] (zP M O) (zrI (V (67 + v + 5 * e))) (zP M O) := by
  obtain ⟨o, K, L, Z⟩ := Z
  have c := c_exitOf (w := w) (d := d) (O := O) Z.F he hv
  rw [kEo_v Z.R Z.W Z.ss Z.F.h8 he hv] at c
  exact h_exitOf c
theorem q_exitOfX (Z : zS t M s h V) (hx : z_ok x s = false) : zCk w mL_exitOf 1 (d + 10) [vR 9 0, vI x, vI y] (zP M O) (zrI (-2000001)) (zP M O) := by
  obtain ⟨o, K, L, Z⟩ := Z
  exact h_exitOf1 (t_exitOf1 Z.F hx)
theorem q_nb (Z : zS t M s h V) (ha : a < 4) (hv : v < 8) : zCk w mL_neighbourOf 0 (d + 10) [vR 9 0, vI (nI a), vI (nI v)] (zP M O) (zrI (vNo V a v)) (zP M O) := by
  obtain ⟨o, K, L, Z⟩ := Z
  have c := c_neighbourOf (w := w) (d := d) (M := M) (O := O) ha hv
  rw [kNo_v Z.R ha hv] at c
  exact h_neighbourOf c
theorem q_choice (Z : zS t M s h V) (ha : a < 8) (hb : b < 4) (hv : v < 6) : ∃ M1, zS t M1 s h V ∧ zCk w mL_choice 0 (d + 10) [vR 9 0, vI (nI a), vI (nI b), vI (nI v)] (zP M O) (zrI (vCh V s a b v)) (zP M1 O) := by
  obtain ⟨o, K, L, Z⟩ := Z
  obtain ⟨M1, S, c⟩ := c_choice (w := w) (d := d) (O := O) (M := M) zSame.rf Z.F.hs Z.F.h8 ha hb hv
  rw [kCh_v Z.R Z.W Z.ss Z.F.h8 ha hb hv] at c
  exact ⟨_, ⟨o, K, L, zJ_q Z S⟩, h_choice c⟩
theorem q_why (Z : zS t M s h V) (ha : a < 8) (hb : b < 4) (he : e < s) : ∃ M1, zS t M1 s h V ∧ zCk w mL_why 0 (d + 10) [vR 9 0, vI (nI a), vI (nI b), vI (nI e)] (zP M O) (zrI (nI (vY V s a b e))) (zP M1 O) := by
  obtain ⟨o, K, L, Z⟩ := Z
  obtain ⟨M1, S, c⟩ := c_why (w := w) (d := d) (O := O) (M := M) zSame.rf Z.F.hs Z.F.h8 ha hb he
  rw [kWy_v Z.R Z.W Z.ss Z.F.h8 ha hb he, vY_is Z.W Z.ss Z.F.h8 ha hb he] at c
  exact ⟨_, ⟨o, K, L, zJ_q Z S⟩, h_why c⟩
theorem q_count (Z : zS t M s h V) (hv : v < 10) : ∃ M1, zS t M1 s h V ∧ zCk w mL_count 0 (d + 10) [vR 9 0, vI (nI v)] (zP M O) (zrI (vCt V s h v)) (zP M1 O) := by
  obtain ⟨o, K, L, Z⟩ := Z
  obtain ⟨M1, S, c⟩ := c_count (w := w) (d := d) (O := O) (M := M) zSame.rf Z.F.hs Z.F.h8 hv
  rw [kCt_v Z.R Z.W Z.P Z.ss Z.F.h8 Z.F.hh hv] at c
  exact ⟨_, ⟨o, K, L, zJ_q Z S⟩, h_count c⟩
theorem q_ifRoad (Z : zS t M s h V) (ha : a < 8) (hb : b < 8) (hab : a ≠ b) (hc : c ≤ 99) : ∃ M1, zS t M1 s h V ∧ zCk w mL_ifRoad 0 (d + 10) [vR 9 0, vI (nI a), vI (nI b), vI (nI c)] (zP M O) (zrI (vOt V s a b c)) (zP M1 O) := by
  obtain ⟨o, K, L, Z⟩ := Z
  obtain ⟨M1, S, c⟩ := c_ifRoad (w := w) (d := d) (O := O) (M := M) Z.F.hs Z.F.h8 ha hb hab hc Z.nn
  rw [kOt_try Z.R Z.W Z.ss Z.F.h8 ha hb hab hc] at c
  exact ⟨_, ⟨o, K, L, zJ_q Z S⟩, h_ifRoad c⟩
theorem q_idle (Z : zS t M s h V) (ha : a < 8) (hb : b < 8) (hab : a ≠ b) : ∃ M1, zS t M1 s h V ∧ zCk w mL_idle 0 (d + 10) [vR 9 0, vI (nI a), vI (nI b)] (zP M O) (zrI (vId V a b)) (zP M1 O) := by
  obtain ⟨o, K, L, Z⟩ := Z
  obtain ⟨M1, S, c⟩ := c_idle (w := w) (d := d) (O := O) (M := M) ha hb hab Z.nn
  rw [kId_v Z.R Z.W ha hb hab] at c
  exact ⟨_, ⟨o, K, L, zJ_q Z S⟩, h_idle c⟩
theorem q_dearest (Z : zS t M s h V) : ∃ M1, zS t M1 s h V ∧ zC w mX9_dearest (d + 8) [vR 9 0] (zP M O) (zrI (vDx V s s).1) (zP M1 O) := by
  obtain ⟨o, K, L, Z⟩ := Z
  obtain ⟨M1, S, c⟩ := c_dearest (w := w) (d := d) (O := O) (M := M) (M' := M) zSame.rf Z.F.hs Z.F.h8
  rw [kDe_cp Z.R Z.W Z.ss Z.F.h8] at c
  exact ⟨_, ⟨o, K, L, zJ_q Z S⟩, c⟩
theorem q_hot (Z : zS t M s h V) : zC w mX9_hotShare d [vR 9 0] (zP M O) (.inl (some (vD (kSh (nv V 171 - nv V 172) (nv V 171))))) (zP M O) := by
  obtain ⟨o, K, L, Z⟩ := Z
  obtain ⟨a0, ⟨⟨a1, b1⟩, ⟨a2, b2⟩, a3⟩, _, _, ⟨a6, _⟩, _⟩ := Z.G.2.2
  exact c_hotShare (Z.R.2.2.2.2.2.2.1.trans a1) (Z.R.2.2.2.2.2.2.2.1.trans a2) (by omega) (by omega)
/-! refused questions -/
theorem q_roadOfX (h : (z_ok x 8 && z_ok y 8) = false) : zCk w mL_roadOf 1 (d + 10) [vR 9 0, vI x, vI y] (zP M O) (zrI (-2000001)) (zP M O) := h_roadOf1 (t_roadOf h)
theorem q_distX (ha : a < 8) (hb : b < 8) (h : z_ok z 2 = false) : zCk w mL_distance 1 (d + 10) [vR 9 0, vI (nI a), vI (nI b), vI z] (zP M O) (zrI (-2000002)) (zP M O) := h_distance2 (t_distance2 ha hb h)
theorem q_nbX (hx : z_ok x 4 = true) (h : z_ok y 8 = false) : zCk w mL_neighbourOf 1 (d + 10) [vR 9 0, vI x, vI y] (zP M O) (zrI (-2000002)) (zP M O) := h_neighbourOf2 (t_neighbourOf2 hx h)
theorem q_choiceX (hx : z_ok x 8 = true) (hy : z_ok y 4 = true) (h : z_ok z 6 = false) : zCk w mL_choice 1 (d + 10) [vR 9 0, vI x, vI y, vI z] (zP M O) (zrI (-2000002)) (zP M O) := h_choice2 (t_choice3 hx hy h)
theorem q_countX (h : z_ok x 10 = false) : zCk w mL_count 1 (d + 10) [vR 9 0, vI x] (zP M O) (zrI (-2000001)) (zP M O) := h_count1 (t_count h)
theorem q_ifRoadX (ha : a < 8) : zCk w mL_ifRoad 1 (d + 10) [vR 9 0, vI (nI a), vI (nI a), vI z] (zP M O) (zrI (-2000002)) (zP M O) := h_ifRoad2 (t_ifRoad2 ha)
theorem q_idleX (ha : a < 8) : zCk w mL_idle 1 (d + 10) [vR 9 0, vI (nI a), vI (nI a)] (zP M O) (zrI (-2000002)) (zP M O) := h_idle2 (t_idle2 ha)
theorem q_idleX1 (h : (z_ok x 8 && z_ok y 8) = false) : zCk w mL_idle 1 (d + 10) [vR 9 0, vI x, vI y] (zP M O) (zrI (-2000001)) (zP M O) := h_idle1 (t_idle1 h)
/-! acts -/
theorem rSv_6 : rSv h ≤ 6 := by
  unfold rSv
  split <;> omega
theorem a_road (Z : zS t M s h V) (ha : a < 8) (hb : b < 8) (hab : a ≠ b) (hc : c ≤ 99) : ∃ M1, zS t M1 s (rSv h) (vLay V a b (nI c)) ∧ zCk w mL_road 0 (d + 10) [vR 9 0, vI (nI a), vI (nI b), vI (nI c)] (zP M O) (zrI (V (2 + (8 * a + b)))) (zP M1 O) := by
  obtain ⟨o, K, L, Z⟩ := Z
  have cf := c_road (w := w) (d := d) (O := O) Z.F ha hb hab hc Z.nn
  rw [Z.R.2.1 _ (by omega)] at cf
  have Q : cS (mSave M o h 0) (mLay (mSave M o h 0) 0 a b (nI c)) := by
    unfold mLay
    exact (cS_u2 (by omega)).tr (cS_u2 (by omega))
  exact ⟨_, ⟨_, _, _, zJ_save Z (Nat.le_refl _) Z.G.2.2.t9 Q (LandR_lay (svR Z.R) ha hb) (vG_lay Z.G ha hb hab hc) ((vLay_o ha hb (by omega)).trans Z.ss) Z.F.h8⟩, h_road cf⟩
theorem a_exit (Z : zS t M s h V) (ha : a < 8) (hb : b < 4) (l : s < 8) : ∃ M1, zS t M1 (s + 1) (rSv h) (vAdd V s a b) ∧ zCk w mL_exit 0 (d + 10) [vR 9 0, vI (nI a), vI (nI b)] (zP M O) (zrI (nI s)) (zP M1 O) := by
  obtain ⟨o, K, L, Z⟩ := Z
  have cf := c_exit (w := w) (d := d) (O := O) Z.F (z_ok_nI ha (by decide)) (z_ok_nI hb (by decide)) l
  have Q : cS (mSave M o h 0) (u3 (u3 (u3 (u3 (mSave M o h 0) 13 0 s (nI a)) 14 0 s (nI b)) 15 0 s (nI 1)) 1 0 5 (nI (s + 1))) := (((cS_u3 (by omega)).tr (cS_u3 (by omega))).tr (cS_u3 (by omega))).tr (cS_u3 (by omega))
  have R1 := LandR_u3 (x := nI a) (svR (o := o) (h := h) Z.R) (show dmK 13 s = true from decide_eq_true l) (by decide)
  have R2 := LandR_u3 (x := nI b) R1 (show dmK 14 s = true from decide_eq_true l) (by decide)
  have R3 := LandR_u3 (x := nI 1) R2 (show dmK 15 s = true from decide_eq_true l) (by decide)
  have R4 := LandR_u3 (x := nI (s + 1)) R3 (show dmK 1 5 = true from rfl) (by decide)
  have us : vAdd V s a b 66 = nI (s + 1) := by
    unfold vAdd
    rw [pk_us]
  exact ⟨_, ⟨_, _, _, zJ_save Z (Nat.le_refl _) Z.G.2.2.t9 Q (show LandR _ 0 (vAdd V s a b) from R4) (vG_add Z.G Z.ss l ha hb) us (by omega)⟩, h_exit cf⟩
theorem a_exitX (Z : zS t M s h V) (ha : a < 8) (hb : b < 4) (l : ¬ s < 8) : zCk w mL_exit 1 (d + 10) [vR 9 0, vI (nI a), vI (nI b)] (zP M O) (zrI (-2000002)) (zP M O) := by
  obtain ⟨o, K, L, Z⟩ := Z
  have h8 := Z.F.h8
  exact h_exit2 (t_exit3 (z_ok_nI ha (by decide)) (z_ok_nI hb (by decide)) (Z.F.hs.trans (by rw [show s = 8 by omega])))
theorem a_turn (Z : zS t M s h V) (he : e < s) : ∃ M1 U r, zS t M1 s (rSv h) U ∧ r ≤ 1 ∧ zCk w mL_turn 0 (d + 10) [vR 9 0, vI (nI e)] (zP M O) (zrI (nI r)) (zP M1 O) := by
  obtain ⟨o, K, L, Z⟩ := Z
  have h8 := Z.F.h8
  have ev : M 15 0 e = V (69 + 5 * e) := Z.R.2.2.2.1.2.2.1 e (by omega)
  have hv := (vEx Z.W Z.ss h8 he).2.2
  have cf := c_turn (w := w) (d := d) (O := O) Z.F he
  rw [ev] at cf
  have Q : cS (mSave M o h 0) (u3 (mSave M o h 0) 15 0 e (nI 1 - V (69 + 5 * e))) := cS_u3 (by omega)
  have R1 := LandR_u3 (x := nI 1 - V (69 + 5 * e)) (svR (o := o) (h := h) Z.R) (show dmK 15 e = true from decide_eq_true (by omega)) (by decide)
  have hx : nI 1 - V (69 + 5 * e) = nI 0 ∨ nI 1 - V (69 + 5 * e) = nI 1 := by
    rcases hv with z | z
    · rw [z]; exact Or.inr rfl
    · rw [z]; exact Or.inl rfl
  have ea : ∃ r, r ≤ 1 ∧ zb (decide (nI 1 - V (69 + 5 * e) = nI 1)) = nI r := by
    rcases hv with z | z
    · rw [z]; exact ⟨1, by omega, rfl⟩
    · rw [z]; exact ⟨0, by omega, rfl⟩
  obtain ⟨r, hr, er⟩ := ea
  rw [er] at cf
  exact ⟨_, _, r, ⟨_, _, _, zJ_save Z (Nat.le_refl _) Z.G.2.2.t9 Q R1 (vG_turn Z.G Z.ss h8 he hx) ((upd_o (show 66 ≠ 69 + 5 * e by omega)).trans Z.ss) h8⟩, hr, h_turn cf⟩
theorem a_turnX (Z : zS t M s h V) (hx : z_ok x s = false) : zCk w mL_turn 1 (d + 10) [vR 9 0, vI x] (zP M O) (zrI (-2000001)) (zP M O) := by
  obtain ⟨o, K, L, Z⟩ := Z
  exact h_turn1 (t_turn Z.F hx)
theorem a_offer (Z : zS t M s h V) (ha : a < 4) (hb : b < 4) (hc : c ≤ 9) : ∃ M1 U r, zS t M1 s (rSv h) U ∧ r ≤ 9 ∧ zCk w mL_offer 0 (d + 10) [vR 9 0, vI (nI a), vI (nI b), vI (nI c)] (zP M O) (zrI (nI r)) (zP M1 O) := by
  obtain ⟨o, K, L, Z⟩ := Z
  have cf := c_offer (w := w) (d := d) (O := O) Z.F ha hb (z_ok_nI (show c < 10 by omega) (by decide))
  have Q : cS (mSave M o h 0) (u3 (mSave M o h 0) 22 0 (4 * a + b) (nI c)) := cS_u3 (by omega)
  have R1 := LandR_u3 (x := nI c) (svR (o := o) (h := h) Z.R) (show dmK 22 (4 * a + b) = true from decide_eq_true (by omega)) (by decide)
  obtain ⟨l, hl, el⟩ := Z.W.2.2.2.2.2.1 (4 * a + b) (by omega)
  rw [(LandR_iff.mp Z.R).1 22 (4 * a + b) (decide_eq_true (by omega)), show V (plK 22 (4 * a + b)) = nI l from el] at cf
  exact ⟨_, _, l, ⟨_, _, _, zJ_save Z (Nat.le_refl _) Z.G.2.2.t9 Q R1 (show vG t (upd V (107 + (4 * a + b)) (nI c)) from vG_off Z.G (by omega) hc) ((upd_o (show 66 ≠ 107 + (4 * a + b) by omega)).trans Z.ss) Z.F.h8⟩, hl, h_offer cf⟩
theorem a_bound (Z : zS t M s h V) (ha : a < 4) (hc : c ≤ 99) : ∃ M1 U r, zS t M1 s (rSv h) U ∧ r ≤ 99 ∧ zCk w mL_bound 0 (d + 10) [vR 9 0, vI (nI a), vI (nI c)] (zP M O) (zrI (nI r)) (zP M1 O) := by
  obtain ⟨o, K, L, Z⟩ := Z
  have cf := c_bound (w := w) (d := d) (O := O) Z.F ha (z_ok_nI (show c < 100 by omega) (by decide))
  have Q : cS (mSave M o h 0) (u3 (mSave M o h 0) 23 0 a (nI c)) := cS_u3 (by omega)
  have R1 := LandR_u3 (x := nI c) (svR (o := o) (h := h) Z.R) (show dmK 23 a = true from decide_eq_true (by omega)) (by decide)
  have zv := (Z.G.2.2.2.2.2.2.2 a ha).1
  rw [(LandR_iff.mp Z.R).1 23 a (decide_eq_true (by omega)), show V (plK 23 a) = nI (nv V (123 + a)) from zv.1] at cf
  exact ⟨_, _, _, ⟨_, _, _, zJ_save Z (Nat.le_refl _) Z.G.2.2.t9 Q R1 (show vG t (upd V (123 + a) (nI c)) from vG_bound Z.G Z.ss Z.F.h8 ha hc) ((upd_o (show 66 ≠ 123 + a by omega)).trans Z.ss) Z.F.h8⟩, zv.2, h_bound cf⟩
theorem bit_of (ha : a < 2) : nI a = nI 0 ∨ nI a = nI 1 := by
  obtain e | e : a = 0 ∨ a = 1 := by omega
  · rw [e]; exact Or.inl rfl
  · rw [e]; exact Or.inr rfl
theorem a_set (Z : zS t M s h V) (ha : a < 2) (hb : b < 2) : ∃ M1 U r, zS t M1 s (rSv h) U ∧ r ≤ 1 ∧ zCk w mL_set 0 (d + 10) [vR 9 0, vI (nI a), vI (nI b)] (zP M O) (zrI (nI r)) (zP M1 O) := by
  obtain ⟨o, K, L, Z⟩ := Z
  have cf := c_set (w := w) (d := d) (O := O) Z.F ha (z_ok_nI hb (by decide))
  have Q : cS (mSave M o h 0) (u3 (mSave M o h 0) 18 0 a (nI b)) := cS_u3 (by omega)
  have R1 := LandR_u3 (x := nI b) (svR (o := o) (h := h) Z.R) (show dmK 18 a = true from decide_eq_true ha) (by decide)
  have ev : ∃ r, r ≤ 1 ∧ V a = nI r := by
    rcases Z.W.1 a ha with z | z
    · exact ⟨0, by omega, z⟩
    · exact ⟨1, by omega, z⟩
  obtain ⟨r, hr, er⟩ := ev
  rw [(LandR_iff.mp Z.R).1 18 a (decide_eq_true ha), show V (plK 18 a) = nI r from er] at cf
  exact ⟨_, _, r, ⟨_, _, _, zJ_save Z (Nat.le_refl _) Z.G.2.2.t9 Q R1 (show vG t (upd V a (nI b)) from vG_set Z.G ha (bit_of hb)) ((upd_o (show 66 ≠ a by omega)).trans Z.ss) Z.F.h8⟩, hr, h_set cf⟩
theorem a_send (Z : zS t M s h V) (h9 : t + 1 ≤ 100) (ha : a < 8) (hb : b < 4) : ∃ M1, zS (t + 1) M1 s (rSv h) (vSnd V s a b) ∧ zCk w mL_send 0 (d + 10) [vR 9 0, vI (nI a), vI (nI b)] (zP M O) (zrI (vCho (vDi V) V s a b)) (zP M1 O) := by
  obtain ⟨o, K, L, Z⟩ := Z
  have h8 := Z.F.h8
  obtain ⟨M1, Q1, R1, cs⟩ := c_sendV (w := w) (d := d + 4) (O := O) (svR (o := o) (h := h) Z.R) Z.W Z.ss h8 ha hb
  have cf := c_send (w := w) (d := d) (O := O) Z.F (z_ok_nI ha (by decide)) (z_ok_nI hb (by decide)) (by rw [Z.R.2.2.2.2.2.2.1]; exact vG_171 Z.G) cs
  obtain ⟨g1, g2⟩ := vG_snd Z.G h9 Z.ss h8 ha hb
  exact ⟨_, ⟨_, _, _, zJ_save Z (Nat.le_succ _) h9 Q1.S R1 g1 g2 h8⟩, h_send cf⟩
theorem a_settle (Z : zS t M s h V) : ∃ M1 U r, zS t M1 s (rSv h) U ∧ r ≤ 400 ∧ zC w mX9_settle (d + 9) [vR 9 0] (zP M O) (zrI (nI r)) (zP M1 O) := by
  obtain ⟨o, K, L, Z⟩ := Z
  have cf := c_settle (w := w) (d := d) (O := O) Z.F
  have Q : cS (mSave M o h 0) (u2 (u2 (mSave M o h 0) 25 0 (xfl (fun _ => nI 0) (M 25 0) 4)) 24 0 (xfl (fun _ => nI 0) (M 24 0) 4)) := (cS_u2 (by omega)).tr (cS_u2 (by omega))
  have R1 : LandR (u2 (u2 (mSave M o h 0) 25 0 (xfl (fun _ => nI 0) (M 25 0) 4)) 24 0 (xfl (fun _ => nI 0) (M 24 0) 4)) 0 (z8 V) := LandR_z8 (svR Z.R)
  have ea : sm (M 25 0) 4 = nI (sN (fun q => nv V (131 + q)) 4) := by
    rw [← sm_nI]
    exact sm_cong (fun j hj => ((LandR_iff.mp Z.R).1 25 j (decide_eq_true hj)).trans (Z.G.2.2.2.2.2.2.2 j hj).2.2.1.1)
  rw [ea] at cf
  have t9 := Z.G.2.2.t9
  refine ⟨_, _, _, ⟨_, _, _, zJ_save Z (Nat.le_refl _) t9 Q R1 (vG_z8 Z.G Z.ss Z.F.h8) ((z8_o (by omega)).trans Z.ss) Z.F.h8⟩, ?_, cf⟩
  have := sN_le (f := fun q => nv V (131 + q)) (c := 100) (n := 4) (fun q hq => by have := (Z.G.2.2.2.2.2.2.2 q hq).2.2.1.2; omega)
  omega
theorem a_keep (Z : zS t M s h V) (ha : a < 2) : ∃ M1 r, zS t M1 s h V ∧ r ≤ 100 ∧ zCk w mL_keep 0 (d + 10) [vR 9 0, vI (nI a)] (zP M O) (zrI (nI r)) (zP M1 O) := by
  obtain ⟨o, K, L, Z⟩ := Z
  have cf := c_keep (w := w) (d := d) (M := M) (O := O) ha
  have t9 := Z.G.2.2.t9
  have zv := Z.G.2.2.2.1.1
  rw [Z.R.2.2.2.2.2.2.1, zv.1] at cf
  exact ⟨_, _, ⟨_, _, _, zJ_keep Z ha⟩, by have := zv.2; omega, h_keep cf⟩
theorem a_goBack (Z : zS t M s h V) (ha : a < 2) : (∃ M1 s1 U r, zS t M1 s1 (rSv h) U ∧ r ≤ 100 ∧ zCk w mL_goBack 0 (d + 10) [vR 9 0, vI (nI a)] (zP M O) (zrI (nI r)) (zP M1 O)) ∨ zCk w mL_goBack 1 (d + 10) [vR 9 0, vI (nI a)] (zP M O) (zrI (-2000002)) (zP M O) := by
  obtain ⟨o, K, L, Z⟩ := Z
  have kc := Z.kk a ha
  cases hk : K a
  · rw [hk] at kc
    exact Or.inr (h_goBack2 (t_goBack2 ha kc))
  · rw [hk] at kc
    obtain ⟨R, G⟩ := Z.S a ha hk
    have o6 := Z.F.o6
    have cf := c_goBack (w := w) (d := d) (O := O) Z.F ha (by rw [kc]; decide)
    have Q : cS (mSave M o h 0) (mCpL (mSave M o h 0) 0 (2 + a)) := fun k i z => mCpL_k (by omega)
    have R1 : LandR (mCpL (mSave M o h 0) 0 (2 + a)) 0 (L (2 + a)) := LandR_cp (LandR_k (fun k hk => mSave_o (by omega) (by omega) (by have := hk.1; omega)) _ R) (by omega)
    have zv := G.2.2.2.1.1
    have t9 := G.2.2.t9
    rw [R1.2.2.2.2.2.2.1, zv.1] at cf
    obtain ⟨s1, h8, hs⟩ := WFV_66 G.1
    exact Or.inl ⟨_, s1, _, _, ⟨_, _, _, zJ_save Z (Nat.le_refl _) t9 Q R1 G hs h8⟩, by have := zv.2; omega, h_goBack cf⟩
end QS
theorem a_setting {w : zWp} {d t : Nat} {M : Nat → Nat → Nat → Int32} {O : Nat → Int64} {s h : Nat} {V : Nat → Int32} (Z : zS t M s h V) : ∃ M1 h1, zS t M1 s h1 V ∧ zCk w mL_setting 0 (d + 11) [vR 9 0] (zP M O) (zrI (V 0)) (zP M1 O) := by
  obtain ⟨o, K, L, Z⟩ := Z
  have cf := c_set (w := w) (d := d) (O := O) Z.F (show 0 < 2 by decide) (z_ok_nI (show 0 < 2 by decide) (by decide))
  have Q : cS (mSave M o h 0) (u3 (mSave M o h 0) 18 0 0 (nI 0)) := cS_u3 (by omega)
  have R1 := LandR_u3 (x := nI 0) (svR (o := o) (h := h) Z.R) (show dmK 18 0 = true from rfl) (by decide)
  rw [(LandR_iff.mp Z.R).1 18 0 rfl] at cf
  have Z1 := zJ_save Z (Nat.le_refl _) Z.G.2.2.t9 Q R1 (show vG t (upd V 0 (nI 0)) from vG_set Z.G (by decide) (Or.inl rfl)) ((upd_o (show 66 ≠ 0 by omega)).trans Z.ss) Z.F.h8
  obtain ⟨h1, e1⟩ : ∃ h1, rSv h = h1 + 1 := by
    unfold rSv
    split
    · exact ⟨_, rfl⟩
    · exact ⟨5, rfl⟩
  have h6 := Z.F.h6
  have o6 := Z.F.o6
  have ei : 4 + (rO o h + h1) % 6 = 4 + (o + h) % 6 := by
    unfold rO rSv at *
    split at e1 <;> split <;> omega
  rw [e1] at Z1
  have cu := c_undo (w := w) (d := d) (O := O) Z1.F
  obtain ⟨s2, h8, Z2⟩ := zJ_rest Z1
  rw [ei, if_pos rfl] at Z2
  have es : s2 = s := by
    have q := Z2.ss
    rw [Z.ss] at q
    exact ((nI_eq (by have := Z.F.h8; omega) (by omega)).mp q).symm
  subst es
  refine ⟨_, h1, ⟨_, _, _, Z2⟩, ?_⟩
  have hu := Z2.F.h6
  refine zCk_of (L0 := [vR 9 0, vU]) (by decide) (by decide) rfl (Nat.le_of_ble_eq_true rfl) rfl rfl ?_
  refine g_aload_n (n := 1) dL_setting_0 rfl rfl ?_
  refine g_iconst (n := 2) dL_setting_1 rfl k_ic_0 ?_
  refine g_iconst (n := 3) dL_setting_2 rfl k_ic_0 ?_
  refine g_cKHv (c9 := 0) (n := 6) (h_set cf) dL_setting_3 rfl kz_L_99 rfl (Or.inl (Nat.le_of_ble_eq_true rfl)) (Nat.le_of_ble_eq_true rfl) rfl rfl ?_ rfl
  refine g_istore1 (n := 7) dL_setting_6 rfl (by decide) rfl ?_
  refine g_aload_n (n := 8) dL_setting_7 rfl rfl ?_
  refine g_cKHv (c9 := 0) (n := 11) (h_undo cu) dL_setting_8 rfl kz_L_131 rfl (Or.inl (Nat.le_of_ble_eq_true rfl)) (Nat.le_of_ble_eq_true rfl) rfl rfl ?_ rfl
  refine g_if_ge (n := 14) (t := 18) dL_setting_11 rfl (by decide) (fun _ => ?_) (fun q9 => absurd (nI_pos' (show h1 < 2 ^ 31 by omega)) q9)
  refine g_iload_n (n := 19) dL_setting_18 rfl rfl ?_
  exact g_ireturn dL_setting_19 rfl rfl rfl rfl

