/-! The whole new object; the new reference; the state behind both. -/
def nlC (N : Nat → Nat → Nat → Bool) : Prop := (∀ i, i < 10 → nlL N i) ∧ ((∀ q, q < 2 → N 29 0 q = false) ∧ (∀ q, q < 6 → N 29 1 q = false)) ∧ ((∀ j, j < 2 → N 7 0 j = false) ∧ (∀ j, j < 2 → N 7 1 j = false) ∧ (∀ j, j < 2 → N 0 0 j = false) ∧ (∀ j, j < 2 → N 4 0 j = false) ∧ N 8 0 0 = false ∧ N 2 0 0 = false) ∧ (∀ j, j < 7 → N 9 0 j = false)
theorem two_j {P : Nat → Prop} (h0 : P 0) (h1 : P 1) : ∀ j, j < 2 → P j := fun j hj => by
  obtain e | e : j = 0 ∨ j = 1 := by omega
  · rw [e]; exact h0
  · rw [e]; exact h1
theorem lnd0 (q : Nat) : z_landOf 0 q = 2 + q := if_pos rfl
theorem lnd1 (q : Nat) : z_landOf 1 q = 4 + q := if_neg (by decide)
section LN3
variable {w : zWp} {d i : Nat} {Nl : Nat → Nat → Nat → Bool} {M : Nat → Nat → Nat → Int32} {O : Nat → Int64}
theorem n_loaf : ∃ N' M', nlC N' ∧ (∀ i, i < 10 → LandR M' i V0) ∧ (M' 2 0 = (fun _ => 0) ∧ M' 8 0 = (fun _ => 0) ∧ M' 30 0 = (fun _ => 0)) ∧ zC w mX9_init (d + 6) [vR 9 0] (1, Nl, M, O) zrV (196, N', M', O) := by
  obtain ⟨N1, M1, f1, g1, r1, c1⟩ := n_land (w := w) (d := d + 2) (O := O) (i := 0) (Nl := u2 Nl 3 0 (fun _ => true)) (M := u2 M 3 0 (fun _ => 0)) (by decide) u2_self
  obtain ⟨N2, M2, f2, g2, r2, c2⟩ := n_land (w := w) (d := d + 2) (O := O) (i := 1) (Nl := u2 (u3 N1 9 0 0 false) 3 1 (fun _ => true)) (M := u2 M1 3 1 (fun _ => 0)) (by decide) u2_self
  obtain ⟨N3, M3, f3, g3, c3⟩ := n_chooser (w := w) (d := d + 4) (O := O) (Nl := u2 (u3 N2 9 0 1 false) 0 0 (fun _ => true)) (M := u2 M2 0 0 (fun _ => 0))
  obtain ⟨N4, M4, f4, g4, c4⟩ := n_nearest (w := w) (d := d + 4) (O := O) (Nl := u2 (u3 N3 9 0 2 false) 4 0 (fun _ => true)) (M := u2 M3 4 0 (fun _ => 0))
  obtain ⟨N5, M5, f5, g5, r5, c5⟩ := n_text (w := w) (d := d + 4) (O := O) (Nl := u2 (u3 N4 9 0 3 false) 8 0 (fun _ => true)) (M := u2 M4 8 0 (fun _ => 0))
  obtain ⟨N6, M6, f6, ⟨g6, g6'⟩, r6, c6⟩ := n_shelf (w := w) (d := d + 1) (O := O) (i := 0) (Nl := u2 (u3 N5 9 0 4 false) 7 0 (fun _ => true)) (M := u2 M5 7 0 (fun _ => 0)) (by decide) (len := 2) rfl
  obtain ⟨N7, M7, f7, ⟨g7, g7'⟩, ⟨g72, r7⟩, c7⟩ := n_hist (w := w) (d := d) (O := O) (Nl := u2 (u3 N6 9 0 5 false) 2 0 (fun _ => true)) (M := u2 M6 2 0 (fun _ => 0))
  rw [show z_lb 0 + 1 = 2 from rfl, show z_lb 0 + 18 = 19 from rfl] at c1
  rw [show z_lb 1 + 1 = 20 from rfl, show z_lb 1 + 18 = 37 from rfl] at c2
  rw [show z_B 0 - 2 = 46 from rfl, show z_B 0 + 18 * 2 = 84 from rfl] at c6
  have e7 : ∀ k a, ¬ (kL k ∧ 4 ≤ a ∧ a < 10) → ¬ (a = 1 ∧ (k = 7 ∨ k = 29 ∨ k = 30)) → ¬ (a = 0 ∧ k = 2) → ¬ (k = 9 ∧ a = 0) → N7 k a = N6 k a ∧ M7 k a = M6 k a := fun k a h1 h2 h3 h4 => by
    obtain ⟨x, y⟩ := f7 k a (fun z => by
      rcases z with ⟨z, q, q1, q2⟩ | z | z
      · rw [lnd1] at q2
        exact h1 ⟨z, by omega⟩
      · exact h2 z
      · exact h3 z)
    exact ⟨x.trans ((u2_ne (fun q => h3 ⟨q.2, q.1⟩)).trans (u3_f h4)), y.trans (u2_ne (fun q => h3 ⟨q.2, q.1⟩))⟩
  have e6 : ∀ k a, ¬ (kL k ∧ 2 ≤ a ∧ a < 4) → ¬ (a = 0 ∧ (k = 7 ∨ k = 29 ∨ k = 30)) → ¬ (k = 9 ∧ a = 0) → N6 k a = N5 k a ∧ M6 k a = M5 k a := fun k a h1 h2 h4 => by
    obtain ⟨x, y⟩ := f6 k a (fun z => by
      rcases z with ⟨z, q, q1, q2⟩ | z
      · rw [lnd0] at q2
        exact h1 ⟨z, by omega⟩
      · exact h2 z)
    exact ⟨x.trans ((u2_ne (fun q => h2 ⟨q.2, Or.inl q.1⟩)).trans (u3_f h4)), y.trans (u2_ne (fun q => h2 ⟨q.2, Or.inl q.1⟩))⟩
  have e5 : ∀ k a, ¬ (a = 0 ∧ (k = 8 ∨ k = 31)) → ¬ (k = 9 ∧ a = 0) → N5 k a = N4 k a ∧ M5 k a = M4 k a := fun k a h1 h4 => by
    obtain ⟨x, y⟩ := f5 k a h1
    exact ⟨x.trans ((u2_ne (fun q => h1 ⟨q.2, Or.inl q.1⟩)).trans (u3_f h4)), y.trans (u2_ne (fun q => h1 ⟨q.2, Or.inl q.1⟩))⟩
  have e4 : ∀ k a, ¬ (a = 0 ∧ (k = 4 ∨ k = 20 ∨ k = 21)) → ¬ (k = 9 ∧ a = 0) → N4 k a = N3 k a ∧ M4 k a = M3 k a := fun k a h1 h4 => by
    obtain ⟨x, y⟩ := f4 k a h1
    exact ⟨x.trans ((u2_ne (fun q => h1 ⟨q.2, Or.inl q.1⟩)).trans (u3_f h4)), y.trans (u2_ne (fun q => h1 ⟨q.2, Or.inl q.1⟩))⟩
  have e3 : ∀ k a, ¬ (a = 0 ∧ (k = 0 ∨ k = 11 ∨ k = 12)) → ¬ (k = 9 ∧ a = 0) → N3 k a = N2 k a ∧ M3 k a = M2 k a := fun k a h1 h4 => by
    obtain ⟨x, y⟩ := f3 k a h1
    exact ⟨x.trans ((u2_ne (fun q => h1 ⟨q.2, Or.inl q.1⟩)).trans (u3_f h4)), y.trans (u2_ne (fun q => h1 ⟨q.2, Or.inl q.1⟩))⟩
  have e2 : ∀ k a, ¬ (a = 1 ∧ kL k) → ¬ (k = 9 ∧ a = 0) → N2 k a = N1 k a ∧ M2 k a = M1 k a := fun k a h1 h4 => by
    obtain ⟨x, y⟩ := f2 k a h1
    exact ⟨x.trans ((u2_ne (fun q => h1 ⟨q.2, Or.inr (Or.inl q.1)⟩)).trans (u3_f h4)), y.trans (u2_ne (fun q => h1 ⟨q.2, Or.inr (Or.inl q.1)⟩))⟩
  -- a place of a land, by its number
  have l7 : ∀ k a, kL k → a < 4 → N7 k a = N6 k a ∧ M7 k a = M6 k a := fun k a hk ha => e7 k a (by omega) (by unfold kL at hk; omega) (by unfold kL at hk; omega) (by unfold kL at hk; omega)
  have l2 : ∀ k a, kL k → a < 2 → N7 k a = N2 k a ∧ M7 k a = M2 k a := fun k a hk ha => by
    obtain ⟨x7, y7⟩ := l7 k a hk (by omega)
    obtain ⟨x6, y6⟩ := e6 k a (by omega) (by unfold kL at hk; omega) (by unfold kL at hk; omega)
    obtain ⟨x5, y5⟩ := e5 k a (by unfold kL at hk; omega) (by unfold kL at hk; omega)
    obtain ⟨x4, y4⟩ := e4 k a (by unfold kL at hk; omega) (by unfold kL at hk; omega)
    obtain ⟨x3, y3⟩ := e3 k a (by unfold kL at hk; omega) (by unfold kL at hk; omega)
    exact ⟨by rw [x7, x6, x5, x4, x3], by rw [y7, y6, y5, y4, y3]⟩
  have kl : ∀ k, kLd k → kL k := fun k hk => by unfold kLd at hk; unfold kL; omega
  have mvN : ∀ (N N' : Nat → Nat → Nat → Bool) i, (∀ k, kL k → N' k i = N k i) → nlL N i → nlL N' i := fun N N' i h g => ⟨fun j hj => by rw [h 3 (by unfold kL; omega)]; exact g.1 j hj, fun j hj => by rw [h 1 (by unfold kL; omega)]; exact g.2.1 j hj, fun j hj => by rw [h 5 (by unfold kL; omega)]; exact g.2.2.1 j hj, fun j hj => by rw [h 6 (by unfold kL; omega)]; exact g.2.2.2 j hj⟩
  have lands : ∀ i, i < 10 → nlL N7 i ∧ LandR M7 i V0 := fun i hi => by
    obtain e | e | e | e : i = 0 ∨ i = 1 ∨ (2 ≤ i ∧ i < 4) ∨ (4 ≤ i ∧ i < 10) := by omega
    · subst e
      have h : ∀ k, kL k → N7 k 0 = N1 k 0 ∧ M7 k 0 = M1 k 0 := fun k hk => by
        obtain ⟨x, y⟩ := l2 k 0 hk (by decide)
        obtain ⟨x2, y2⟩ := e2 k 0 (by omega) (by unfold kL at hk; omega)
        exact ⟨x.trans x2, y.trans y2⟩
      exact ⟨mvN N1 N7 0 (fun k hk => (h k hk).1) g1, LandR_k (fun k hk => (h k (kl k hk)).2) _ r1⟩
    · subst e
      exact ⟨mvN N2 N7 1 (fun k hk => (l2 k 1 hk (by decide)).1) g2, LandR_k (fun k hk => (l2 k 1 (kl k hk) (by decide)).2) _ r2⟩
    · obtain ⟨q, rfl⟩ : ∃ q, i = 2 + q := ⟨i - 2, by omega⟩
      obtain ⟨a1, a2, _⟩ := g6 q (by omega)
      rw [lnd0] at a1 a2
      exact ⟨mvN N6 N7 _ (fun k hk => (l7 k _ hk (by omega)).1) a1, LandR_k (fun k hk => (l7 k _ (kl k hk) (by omega)).2) _ a2⟩
    · obtain ⟨q, rfl⟩ : ∃ q, i = 4 + q := ⟨i - 4, by omega⟩
      obtain ⟨a1, a2, _⟩ := g7 q (by omega)
      rw [lnd1] at a1 a2
      exact ⟨a1, a2⟩
  have h90 : ∀ k, k = 0 ∨ k = 4 ∨ k = 8 ∨ k = 7 ∨ k = 29 ∨ k = 30 ∨ k = 11 ∨ k = 12 ∨ k = 20 ∨ k = 21 ∨ k = 31 → N7 k 0 = N6 k 0 ∧ M7 k 0 = M6 k 0 := fun k hk => e7 k 0 (fun z => by omega) (by omega) (by omega) (by omega)
  have h85 : N7 8 0 = N5 8 0 ∧ M7 8 0 = M5 8 0 := by
    obtain ⟨x, y⟩ := h90 8 (by omega)
    obtain ⟨x6, y6⟩ := e6 8 0 (fun z => by omega) (by omega) (by omega)
    exact ⟨x.trans x6, y.trans y6⟩
  have h44 : N7 4 0 = N4 4 0 := by
    rw [(h90 4 (by omega)).1, (e6 4 0 (fun z => by omega) (by omega) (by omega)).1, (e5 4 0 (by omega) (by omega)).1]
  have h03 : N7 0 0 = N3 0 0 := by
    rw [(h90 0 (by omega)).1, (e6 0 0 (fun z => by omega) (by omega) (by omega)).1, (e5 0 0 (by omega) (by omega)).1, (e4 0 0 (by omega) (by omega)).1]
  -- the object's own fields
  have s7 : ∀ j, N7 9 0 j = u3 N6 9 0 5 false 9 0 j := fun j => congrFun ((f7 9 0 (fun z => by
      rcases z with ⟨z, _⟩ | z | z
      · unfold kL at z; omega
      · omega
      · omega)).1.trans (u2_ne (by omega))) j
  have s6 : ∀ j, N6 9 0 j = u3 N5 9 0 4 false 9 0 j := fun j => congrFun ((f6 9 0 (fun z => by
      rcases z with ⟨z, _⟩ | z
      · unfold kL at z; omega
      · omega)).1.trans (u2_ne (by omega))) j
  have s5 : ∀ j, N5 9 0 j = u3 N4 9 0 3 false 9 0 j := fun j => congrFun ((f5 9 0 (by omega)).1.trans (u2_ne (by omega))) j
  have s4 : ∀ j, N4 9 0 j = u3 N3 9 0 2 false 9 0 j := fun j => congrFun ((f4 9 0 (by omega)).1.trans (u2_ne (by omega))) j
  have s3 : ∀ j, N3 9 0 j = u3 N2 9 0 1 false 9 0 j := fun j => congrFun ((f3 9 0 (by omega)).1.trans (u2_ne (by omega))) j
  have s2 : ∀ j, N2 9 0 j = u3 N1 9 0 0 false 9 0 j := fun j => congrFun ((f2 9 0 (fun z => by have := z.1; omega)).1.trans (u2_ne (by omega))) j
  refine ⟨u3 N7 9 0 6 false, M7, ⟨fun i hi => ?_, ⟨fun q hq => ?_, fun q hq => ?_⟩, ⟨?_, ?_, ?_, ?_, ?_, ?_⟩, fun j hj => ?_⟩, fun i hi => (lands i hi).2, ⟨?_, ?_, ?_⟩, ?_⟩
  · exact mvN N7 _ i (fun k hk => u3_f (by unfold kL at hk; omega)) (lands i hi).1
  · rw [u3_f (by omega), (h90 29 (by omega)).1]
    exact (g6 q hq).2.2
  · rw [u3_f (by omega)]
    exact (g7 q hq).2.2
  · intro j hj
    rw [u3_f (by omega), (h90 7 (by omega)).1]
    exact two_j (P := fun j => N6 7 0 j = false) g6'.1 g6'.2 j hj
  · intro j hj
    rw [u3_f (by omega)]
    exact two_j (P := fun j => N7 7 1 j = false) g7'.1 g7'.2 j hj
  · intro j hj
    rw [u3_f (by omega), h03]
    exact two_j (P := fun j => N3 0 0 j = false) g3.1 g3.2 j hj
  · intro j hj
    rw [u3_f (by omega), h44]
    exact two_j (P := fun j => N4 4 0 j = false) g4.1 g4.2 j hj
  · rw [u3_f (by omega), h85.1]
    exact g5
  · rw [u3_f (by omega)]
    exact g72
  · obtain e | e | e | e | e | e | e : j = 0 ∨ j = 1 ∨ j = 2 ∨ j = 3 ∨ j = 4 ∨ j = 5 ∨ j = 6 := by omega
    · subst e
      rw [u3_nj (by decide), s7, u3_nj (by decide), s6, u3_nj (by decide), s5, u3_nj (by decide), s4, u3_nj (by decide), s3, u3_nj (by decide), s2]
      exact u3_self
    · subst e
      rw [u3_nj (by decide), s7, u3_nj (by decide), s6, u3_nj (by decide), s5, u3_nj (by decide), s4, u3_nj (by decide), s3]
      exact u3_self
    · subst e
      rw [u3_nj (by decide), s7, u3_nj (by decide), s6, u3_nj (by decide), s5, u3_nj (by decide), s4]
      exact u3_self
    · subst e
      rw [u3_nj (by decide), s7, u3_nj (by decide), s6, u3_nj (by decide), s5]
      exact u3_self
    · subst e
      rw [u3_nj (by decide), s7, u3_nj (by decide), s6]
      exact u3_self
    · subst e
      rw [u3_nj (by decide), s7]
      exact u3_self
    · subst e
      exact u3_self
  · rw [r7, u2_self]
  · rw [h85.2, r5, u2_self]
  · rw [(h90 30 (by omega)).2, r6]
  · refine zC_of (cr := 0) (L0 := [vR 9 0]) rfl (by decide) (by decide) rfl (Nat.le_of_ble_eq_true rfl) rfl ?_
    refine g_aload_n (n := 1) dX9_init_0 rfl rfl ?_
    refine g_objI (n := 4) dX9_init_1 rfl ko_X9_1 ko_1 ko_2 (by omega) ?_ rfl
    refine g_aload_n (n := 5) dX9_init_4 rfl rfl ?_
    refine g_new (n := 8) dX9_init_5 rfl (k := 3) (i := 0) rfl z_in3 tyX3_ok kn_X9_7 ki_3.1 ki_3.2 (by decide) rfl z_df3 (by decide +kernel) (by first | decide | omega) (by first | decide | (dsimp only; omega)) ?_
    refine g_dup (n := 9) dX9_init_8 rfl rfl ?_
    refine g_cINn (n := 12) c1 dX9_init_9 rfl kw_X9_9 (Nat.le_of_ble_eq_true rfl) (by constructor <;> first | decide | (dsimp only; omega)) ?_ rfl
    refine gw_X9_10 (n := 15) dX9_init_12 rfl rfl rfl ⟨(by first | decide | assumption), (by first | decide | (simp only [zx1, zx3, zx5, zx6, zx13, zx14, zx15, zx16, zx17, zx18, zx19, zx22, zx23, zx24, zx25, zx26, zx27, zx28]; omega))⟩ rfl ?_
    refine g_aload_n (n := 16) dX9_init_15 rfl rfl ?_
    refine g_new (n := 19) dX9_init_16 rfl (k := 3) (i := 1) rfl z_in3 tyX3_ok kn_X9_7 ki_3.1 ki_3.2 (by decide) rfl z_df3 (by decide +kernel) (by first | decide | omega) (by first | decide | (dsimp only; omega)) ?_
    refine g_dup (n := 20) dX9_init_19 rfl rfl ?_
    refine g_cINn (n := 23) c2 dX9_init_20 rfl kw_X9_9 (Nat.le_of_ble_eq_true rfl) (by constructor <;> first | decide | (dsimp only; omega)) ?_ rfl
    refine gw_X9_16 (n := 26) dX9_init_23 rfl rfl rfl ⟨(by first | decide | assumption), (by first | decide | (simp only [zx1, zx3, zx5, zx6, zx13, zx14, zx15, zx16, zx17, zx18, zx19, zx22, zx23, zx24, zx25, zx26, zx27, zx28]; omega))⟩ rfl ?_
    refine g_aload_n (n := 27) dX9_init_26 rfl rfl ?_
    refine g_new (n := 30) dX9_init_27 rfl (k := 0) (i := 0) rfl z_in0 tyX0_ok kn_X9_19 ki_0.1 ki_0.2 (by decide) rfl z_df0 (by decide +kernel) (by first | decide | omega) (by first | decide | (dsimp only; omega)) ?_
    refine g_dup (n := 31) dX9_init_30 rfl rfl ?_
    refine g_cINn (n := 34) c3 dX9_init_31 rfl kw_X9_21 (Nat.le_of_ble_eq_true rfl) (by constructor <;> first | decide | (dsimp only; omega)) ?_ rfl
    refine gw_X9_22 (n := 37) dX9_init_34 rfl rfl rfl ⟨(by first | decide | assumption), (by first | decide | (simp only [zx1, zx3, zx5, zx6, zx13, zx14, zx15, zx16, zx17, zx18, zx19, zx22, zx23, zx24, zx25, zx26, zx27, zx28]; omega))⟩ rfl ?_
    refine g_aload_n (n := 38) dX9_init_37 rfl rfl ?_
    refine g_new (n := 41) dX9_init_38 rfl (k := 4) (i := 0) rfl z_in4 tyX4_ok kn_X9_26 ki_4.1 ki_4.2 (by decide) rfl z_df4 (by decide +kernel) (by first | decide | omega) (by first | decide | (dsimp only; omega)) ?_
    refine g_dup (n := 42) dX9_init_41 rfl rfl ?_
    refine g_cINn (n := 45) c4 dX9_init_42 rfl kw_X9_28 (Nat.le_of_ble_eq_true rfl) (by constructor <;> first | decide | (dsimp only; omega)) ?_ rfl
    refine gw_X9_29 (n := 48) dX9_init_45 rfl rfl rfl ⟨(by first | decide | assumption), (by first | decide | (simp only [zx1, zx3, zx5, zx6, zx13, zx14, zx15, zx16, zx17, zx18, zx19, zx22, zx23, zx24, zx25, zx26, zx27, zx28]; omega))⟩ rfl ?_
    refine g_aload_n (n := 49) dX9_init_48 rfl rfl ?_
    refine g_new (n := 52) dX9_init_49 rfl (k := 8) (i := 0) rfl z_in8 tyX8_ok kn_X9_33 ki_8.1 ki_8.2 (by decide) rfl z_df8 (by decide +kernel) (by first | decide | omega) (by first | decide | (dsimp only; omega)) ?_
    refine g_dup (n := 53) dX9_init_52 rfl rfl ?_
    refine g_cINn (n := 56) c5 dX9_init_53 rfl kw_X9_35 (Nat.le_of_ble_eq_true rfl) (by constructor <;> first | decide | (dsimp only; omega)) ?_ rfl
    refine gw_X9_36 (n := 59) dX9_init_56 rfl rfl rfl ⟨(by first | decide | assumption), (by first | decide | (simp only [zx1, zx3, zx5, zx6, zx13, zx14, zx15, zx16, zx17, zx18, zx19, zx22, zx23, zx24, zx25, zx26, zx27, zx28]; omega))⟩ rfl ?_
    refine g_aload_n (n := 60) dX9_init_59 rfl rfl ?_
    refine g_new (n := 63) dX9_init_60 rfl (k := 7) (i := 0) rfl z_in7 tyX7_ok kn_X9_40 ki_7.1 ki_7.2 (by decide) rfl z_df7 (by decide +kernel) (by first | decide | omega) (by first | decide | (dsimp only; omega)) ?_
    refine g_dup (n := 64) dX9_init_63 rfl rfl ?_
    refine g_iconst (n := 65) dX9_init_64 rfl k_ic_2 ?_
    refine g_cIn (n := 68) c6 dX9_init_65 rfl kw_X9_42 (Nat.le_of_ble_eq_true rfl) (by constructor <;> first | decide | (dsimp only; omega)) ?_ rfl
    refine gw_X9_45 (n := 71) dX9_init_68 rfl rfl rfl ⟨(by first | decide | assumption), (by first | decide | (simp only [zx1, zx3, zx5, zx6, zx13, zx14, zx15, zx16, zx17, zx18, zx19, zx22, zx23, zx24, zx25, zx26, zx27, zx28]; omega))⟩ rfl ?_
    refine g_aload_n (n := 72) dX9_init_71 rfl rfl ?_
    refine g_new (n := 75) dX9_init_72 rfl (k := 2) (i := 0) rfl z_in2 tyX2_ok kn_X9_49 ki_2.1 ki_2.2 (by decide) rfl z_df2 (by decide +kernel) (by first | decide | omega) (by first | decide | (dsimp only; omega)) ?_
    refine g_dup (n := 76) dX9_init_75 rfl rfl ?_
    refine g_cINn (n := 79) c7 dX9_init_76 rfl kw_X9_51 (Nat.le_of_ble_eq_true rfl) (by constructor <;> first | decide | (dsimp only; omega)) ?_ rfl
    refine gw_X9_52 (n := 82) dX9_init_79 rfl rfl rfl ⟨(by first | decide | assumption), (by first | decide | (simp only [zx1, zx3, zx5, zx6, zx13, zx14, zx15, zx16, zx17, zx18, zx19, zx22, zx23, zx24, zx25, zx26, zx27, zx28]; omega))⟩ rfl ?_
    exact g_return dX9_init_82 rfl rfl rfl
end LN3

