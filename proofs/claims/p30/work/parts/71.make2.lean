/-! New shelves, the whole new object, the new reference. -/
def z_B (i : Nat) : Nat := if i = 0 then 48 else 88
theorem z_lfS : ∀ i, i < 2 → (z_LF (z_B i - 2) = (29, i) ∧ z_LF (z_B i - 1) = (30, i)) ∧ ∀ p, p < z_ln 29 i → z_LF (z_B i + 18 * p) = (3, z_landOf i p) ∧ z_lb (z_landOf i p) = z_B i + 18 * p := by decide +kernel
theorem z_ixS : ∀ i, i < 2 → z_ix 7 i + 3 = z_B i ∧ z_ix 29 i + 2 = z_B i ∧ z_ix 30 i + 1 = z_B i := by decide +kernel
theorem z_BS : ∀ i, i < 2 → z_B i + 18 * z_ln 29 i ≤ 196 ∧ 2 ≤ z_B i := by decide +kernel
theorem z_lnS : ∀ i, i < 2 → z_ln 29 i ≤ 6 ∧ ∀ p, p < z_ln 29 i → ∀ q, q < z_ln 29 i → z_landOf i p = z_landOf i q → p = q := by decide +kernel
section LN2
variable {w : zWp} {d i : Nat} {Nl : Nat → Nat → Nat → Bool} {M : Nat → Nat → Nat → Int32} {O : Nat → Int64}
theorem n_shelf (hi : i < 2) {len : Nat} (hlen : z_ln 29 i = len) : ∃ N' M', zFr (fun k a => (kL k ∧ ∃ q, q < len ∧ a = z_landOf i q) ∨ (a = i ∧ (k = 7 ∨ k = 29 ∨ k = 30))) Nl N' M M' ∧ ((∀ q, q < len → nlL N' (z_landOf i q) ∧ LandR M' (z_landOf i q) V0 ∧ N' 29 i q = false) ∧ (N' 7 i 0 = false ∧ N' 7 i 1 = false)) ∧ M' 30 i = (fun _ => 0) ∧ zC w mX7_init (d + 4) [vR 7 i, vI (nI len)] (z_B i - 2, Nl, M, O) zrV (z_B i + 18 * len, N', M', O) := by
  obtain ⟨⟨l29, l30⟩, lp⟩ := z_lfS i hi
  obtain ⟨x7, x29, x30⟩ := z_ixS i hi
  obtain ⟨b196, b2⟩ := z_BS i hi
  obtain ⟨len6, inj⟩ := z_lnS i hi
  have h10 : ∀ p, p < len → z_landOf i p < 10 := fun p hp => z_landOf_lt hi (by rw [hlen]; exact hp)
  rw [hlen] at lp b196 len6 inj
  have hmax : (if nI len < nI 0 then nI 0 else nI len) = nI len := if_neg (nI_pos (n := len) (by omega))
  have L : ∀ p, p ≤ len → ∀ N B, N 7 i 0 = false → ∃ N' M', zFr (fun k a => (kL k ∧ ∃ q, p ≤ q ∧ q < len ∧ a = z_landOf i q) ∨ (a = i ∧ k = 29)) N N' B M' ∧ ((∀ q, p ≤ q → q < len → nlL N' (z_landOf i q) ∧ LandR M' (z_landOf i q) V0 ∧ N' 29 i q = false) ∧ (∀ q, q < p → N' 29 i q = N 29 i q)) ∧ zG w mX7_init (d + 4) 0 29 [vR 7 i, vI (nI len), vI (nI p)] [] (z_B i + 18 * p, N, B, O) zrV (z_B i + 18 * len, N', M', O) := by
    refine z_loop (fun p => ∀ N B, N 7 i 0 = false → ∃ N' M', zFr (fun k a => (kL k ∧ ∃ q, p ≤ q ∧ q < len ∧ a = z_landOf i q) ∨ (a = i ∧ k = 29)) N N' B M' ∧ ((∀ q, p ≤ q → q < len → nlL N' (z_landOf i q) ∧ LandR M' (z_landOf i q) V0 ∧ N' 29 i q = false) ∧ (∀ q, q < p → N' 29 i q = N 29 i q)) ∧ zG w mX7_init (d + 4) 0 29 [vR 7 i, vI (nI len), vI (nI p)] [] (z_B i + 18 * p, N, B, O) zrV (z_B i + 18 * len, N', M', O)) len ?_ ?_
    · intro N B h7
      refine ⟨N, B, fun _ _ _ => ⟨rfl, rfl⟩, ⟨fun q h1 h2 => absurd h2 (by omega), fun _ _ => rfl⟩, ?_⟩
      have l7 : z_live (z_B i + 18 * len) 7 i := ⟨hi, by omega⟩
      have l29' : z_live (z_B i + 18 * len) 29 i := ⟨hi, by omega⟩
      refine g_iload_n (n := 30) dX7_init_29 rfl rfl ?_
      refine g_aload_n (n := 31) dX7_init_30 rfl rfl ?_
      refine gf_X7_15 (n := 34) dX7_init_31 rfl rfl l7 h7 ?_
      refine g_alen (n := 35) dX7_init_34 rfl (by decide) l29' ?_
      rw [hlen]
      refine g_icmp_ge (n := 38) (t := 57) dX7_init_35 rfl (by decide) (fun _ => ?_) (fun q9 => absurd (Int32.le_refl _) q9)
      exact g_return dX7_init_57 rfl rfl rfl
    · intro p hp ih N B h7
      obtain ⟨lf3, lb3⟩ := lp p hp
      have hj := h10 p hp
      have l7 : z_live (z_B i + 18 * p) 7 i := ⟨hi, by omega⟩
      have l29' : z_live (z_B i + 18 * p) 29 i := ⟨hi, by omega⟩
      obtain ⟨N1, M1, f1, g1, r1, c1⟩ := n_land (w := w) (d := d) (O := O) (Nl := u2 N 3 (z_landOf i p) (fun _ => true)) (M := u2 B 3 (z_landOf i p) (fun _ => 0)) hj u2_self
      rw [lb3] at c1
      have e1 : ∀ k a, ¬ (a = z_landOf i p ∧ kL k) → N1 k a = N k a ∧ M1 k a = B k a := fun k a q => by
        obtain ⟨x, y⟩ := f1 k a q
        have q3 : ¬ (k = 3 ∧ a = z_landOf i p) := fun z => q ⟨z.2, Or.inr (Or.inl z.1)⟩
        exact ⟨x.trans (u2_ne q3), y.trans (u2_ne q3)⟩
      have n7 : u3 N1 29 i p false 7 i 0 = false := by
        rw [u3_nk (by decide), (e1 7 i (fun z => by have := z.2; unfold kL at this; omega)).1]
        exact h7
      obtain ⟨N', M', f2, ⟨g2, g3⟩, G⟩ := ih (u3 N1 29 i p false) M1 n7
      have e2 : ∀ k, kL k → N' k (z_landOf i p) = N1 k (z_landOf i p) ∧ M' k (z_landOf i p) = M1 k (z_landOf i p) := fun k hk => by
        obtain ⟨x, y⟩ := f2 k (z_landOf i p) (fun z => by
          rcases z with ⟨_, q, q1, q2, q3⟩ | ⟨_, q⟩
          · have := inj p hp q q2 q3
            omega
          · unfold kL at hk
            omega)
        exact ⟨x.trans (u3_f (by unfold kL at hk; omega)), y⟩
      refine ⟨N', M', ?_, ⟨fun q h1 h2 => ?_, fun q hq => ?_⟩, ?_⟩
      · intro k a z
        obtain ⟨x, y⟩ := f2 k a (fun q => z (q.elim (fun q => Or.inl ⟨q.1, q.2.elim (fun r r1 => ⟨r, by omega, r1.2⟩)⟩) Or.inr))
        obtain ⟨x1, y1⟩ := e1 k a (fun q => z (Or.inl ⟨q.2, p, Nat.le_refl _, hp, q.1⟩))
        exact ⟨x.trans ((u3_f (fun q => z (Or.inr ⟨q.2, q.1⟩))).trans x1), y.trans y1⟩
      · by_cases e : q = p
        · subst e
          refine ⟨⟨fun j hj => ?_, fun j hj => ?_, fun j hj => ?_, fun j hj => ?_⟩, LandR_k (fun k hk => (e2 k (by unfold kLd at hk; unfold kL; omega)).2) _ r1, ?_⟩
          · rw [(e2 3 (by unfold kL; omega)).1]; exact g1.1 j hj
          · rw [(e2 1 (by unfold kL; omega)).1]; exact g1.2.1 j hj
          · rw [(e2 5 (by unfold kL; omega)).1]; exact g1.2.2.1 j hj
          · rw [(e2 6 (by unfold kL; omega)).1]; exact g1.2.2.2 j hj
          · rw [g3 q (by omega)]
            exact u3_self
        · exact g2 q (by omega) h2
      · rw [g3 q (by omega), u3_nj (by omega), (e1 29 i (fun z => by have := z.2; unfold kL at this; omega)).1]
      · rw [show z_B i + 18 * (p + 1) = z_B i + 18 * p + 18 by omega] at G
        have l3 : z_live (z_B i + 18 * p + 18) 3 (z_landOf i p) := ⟨hj, by rw [zx3, lb3]; omega⟩
        have l29'' : z_live (z_B i + 18 * p + 18) 29 i := ⟨hi, by omega⟩
        refine g_iload_n (n := 30) dX7_init_29 rfl rfl ?_
        refine g_aload_n (n := 31) dX7_init_30 rfl rfl ?_
        refine gf_X7_15 (n := 34) dX7_init_31 rfl rfl l7 h7 ?_
        refine g_alen (n := 35) dX7_init_34 rfl (by decide) l29' ?_
        rw [hlen]
        refine g_icmp_ge (n := 38) (t := 57) dX7_init_35 rfl (by decide) (fun q9 => absurd q9 (nI_ge hp (by omega))) (fun _ => ?_)
        refine g_aload_n (n := 39) dX7_init_38 rfl rfl ?_
        refine gf_X7_15 (n := 42) dX7_init_39 rfl rfl l7 h7 ?_
        refine g_iload_n (n := 43) dX7_init_42 rfl rfl ?_
        refine g_new (n := 46) dX7_init_43 rfl (k := 3) (i := (z_landOf i p)) rfl z_in3 tyX3_ok kn_X7_13 ki_3.1 ki_3.2 (by decide) rfl z_df3 lf3 (by first | decide | omega) (by first | decide | (dsimp only; omega)) ?_
        refine g_dup (n := 47) dX7_init_46 rfl rfl ?_
        refine g_cINn (n := 50) c1 dX7_init_47 rfl kw_X7_25 (Nat.le_of_ble_eq_true rfl) (by constructor <;> first | decide | (dsimp only; omega)) ?_ rfl
        refine g_aast (n := 51) dX7_init_50 rfl l29'' l3 rfl (show p < z_ln 29 i by omega) rfl ?_
        refine g_iinc2 (n := 54) dX7_init_51 rfl (by decide) rfl (z_inc1 _) ?_
        refine g_goto (n := 0) (t := 29) dX7_init_54 (by decide) ?_
        exact G
  obtain ⟨N0, hN0⟩ : ∃ N0, N0 = u3 (u2 (u3 (u2 Nl 29 i (fun _ => true)) 7 i 0 false) 30 i (fun _ => true)) 7 i 1 false := ⟨_, rfl⟩
  obtain ⟨B0, hB0⟩ : ∃ B0, B0 = u2 (u2 M 29 i (fun _ => 0)) 30 i (fun _ => 0) := ⟨_, rfl⟩
  have n70 : N0 7 i 0 = false := by
    rw [hN0, u3_nj (by decide), u2_ne (by omega)]
    exact u3_self
  obtain ⟨N', M', f, ⟨g1, g2⟩, G⟩ := L 0 (Nat.zero_le _) N0 B0 n70
  have e7 : N' 7 i = N0 7 i := (f 7 i (fun z => by
    rcases z with ⟨z, _⟩ | ⟨_, z⟩
    · unfold kL at z; omega
    · omega)).1
  refine ⟨N', M', ?_, ⟨fun q hq => g1 q (Nat.zero_le _) hq, ⟨by rw [e7]; exact n70, by rw [e7, hN0]; exact u3_self⟩⟩, ?_, ?_⟩
  · intro k a z
    obtain ⟨x, y⟩ := f k a (fun q => z (q.elim (fun q => Or.inl ⟨q.1, q.2.elim (fun r r1 => ⟨r, r1.2⟩)⟩) (fun q => Or.inr ⟨q.1, by omega⟩)))
    have z7 : ¬ (k = 7 ∧ a = i) := fun q => z (Or.inr ⟨q.2, by omega⟩)
    have z29 : ¬ (k = 29 ∧ a = i) := fun q => z (Or.inr ⟨q.2, by omega⟩)
    have z30 : ¬ (k = 30 ∧ a = i) := fun q => z (Or.inr ⟨q.2, by omega⟩)
    rw [x, y, hN0, hB0, u3_f z7, u2_ne z30, u3_f z7, u2_ne z29, u2_ne z30, u2_ne z29]
    exact ⟨rfl, rfl⟩
  · rw [(f 30 i (fun z => by
      rcases z with ⟨z, _⟩ | ⟨_, z⟩
      · unfold kL at z; omega
      · omega)).2, hB0, u2_self]
  · have l7a : z_live (z_B i - 2 + 1) 7 i := ⟨hi, by omega⟩
    have l7b : z_live (z_B i - 2 + 1 + 1) 7 i := ⟨hi, by omega⟩
    have eB : z_B i - 2 + 1 + 1 = z_B i + 18 * 0 := by omega
    have l30' : z_LF (z_B i - 2 + 1) = (30, i) := by rw [show z_B i - 2 + 1 = z_B i - 1 by omega]; exact l30
    refine zC_of (cr := 0) (L0 := [vR 7 i, vI (nI len), vU]) rfl (by decide) (by decide) rfl (Nat.le_of_ble_eq_true rfl) rfl ?_
    refine g_aload_n (n := 1) dX7_init_0 rfl rfl ?_
    refine g_objI (n := 4) dX7_init_1 rfl ko_X7_1 ko_1 ko_2 (by omega) ?_ rfl
    refine g_aload_n (n := 5) dX7_init_4 rfl rfl ?_
    refine g_iload_n (n := 6) dX7_init_5 rfl rfl ?_
    refine g_iconst (n := 7) dX7_init_6 rfl k_ic_0 ?_
    refine g_mmax (n := 10) dX7_init_7 rfl km_X7_7 km_maxS km_mI km_maxC (by omega) (Nat.le_of_ble_eq_true rfl) ?_
    rw [hmax]
    refine g_anew (n := 13) dX7_init_10 rfl kn_X7_13 rfl (len := len) (i := i) hlen.symm l29 (by first | decide | omega) (by first | decide | (dsimp only; omega)) ?_
    refine gw_X7_15 (n := 16) dX7_init_13 rfl rfl rfl l7a rfl ?_
    refine g_aload_n (n := 17) dX7_init_16 rfl rfl ?_
    refine g_iload_n (n := 18) dX7_init_17 rfl rfl ?_
    refine g_iconst (n := 19) dX7_init_18 rfl k_ic_0 ?_
    refine g_mmax (n := 22) dX7_init_19 rfl km_X7_7 km_maxS km_mI km_maxC (by omega) (Nat.le_of_ble_eq_true rfl) ?_
    rw [hmax]
    refine g_newa (n := 24) dX7_init_22 rfl ka_boolean rfl (t := 1) rfl (fun _ q => by cases q) rfl (show len * 1 ≤ 536870912 by omega) rfl (len := len) (k := 30) (i := i) hlen.symm (by decide) (fun _ => rfl) l30' (by first | decide | omega) (by first | decide | (dsimp only; omega)) ?_
    refine gw_X7_21 (n := 27) dX7_init_24 rfl rfl rfl l7b rfl ?_
    refine g_iconst (n := 28) dX7_init_27 rfl k_ic_0 ?_
    refine g_istore2 (n := 29) dX7_init_28 rfl (by decide) rfl ?_
    rw [← hN0, ← hB0, eB]
    exact G
theorem n_chooser : ∃ N' M', zFr (fun k a => a = 0 ∧ (k = 0 ∨ k = 11 ∨ k = 12)) Nl N' M M' ∧ (N' 0 0 0 = false ∧ N' 0 0 1 = false) ∧ zC w mX0_init (d + 1) [vR 0 0] (38, Nl, M, O) zrV (40, N', M', O) := by
  refine ⟨u3 (u2 (u3 (u2 Nl 11 0 (fun _ => true)) 0 0 0 false) 12 0 (fun _ => true)) 0 0 1 false, u2 (u2 M 11 0 (fun _ => 0)) 12 0 (fun _ => 0), ?_, ⟨rfl, rfl⟩, ?_⟩
  · intro k a q
    rw [u3_f (by omega), u2_ne (by omega), u3_f (by omega), u2_ne (by omega), u2_ne (by omega), u2_ne (by omega)]
    exact ⟨rfl, rfl⟩
  · refine zC_of (cr := 0) (L0 := [vR 0 0]) rfl (by decide) (by decide) rfl (Nat.le_of_ble_eq_true rfl) rfl ?_
    refine g_aload_n (n := 1) dX0_init_0 rfl rfl ?_
    refine g_objI (n := 4) dX0_init_1 rfl ko_X0_3 ko_1 ko_2 (by omega) ?_ rfl
    refine g_aload_n (n := 5) dX0_init_4 rfl rfl ?_
    refine g_bipush (n := 7) dX0_init_5 rfl k_bp_8 ?_
    refine g_newa (n := 9) dX0_init_7 rfl ka_int rfl (t := 0) rfl (fun _ q => by cases q) rfl (Nat.le_of_ble_eq_true rfl) rfl (len := 8) (k := 11) (i := 0) rfl (by decide) (fun _ => rfl) (by decide +kernel) (by first | decide | omega) (by first | decide | (dsimp only; omega)) ?_
    refine gw_X0_9 (n := 12) dX0_init_9 rfl rfl rfl ⟨(by first | decide | assumption), (by first | decide | (simp only [zx1, zx3, zx5, zx6, zx13, zx14, zx15, zx16, zx17, zx18, zx19, zx22, zx23, zx24, zx25, zx26, zx27, zx28]; omega))⟩ rfl ?_
    refine g_aload_n (n := 13) dX0_init_12 rfl rfl ?_
    refine g_bipush (n := 15) dX0_init_13 rfl k_bp_8 ?_
    refine g_newa (n := 17) dX0_init_15 rfl ka_int rfl (t := 0) rfl (fun _ q => by cases q) rfl (Nat.le_of_ble_eq_true rfl) rfl (len := 8) (k := 12) (i := 0) rfl (by decide) (fun _ => rfl) (by decide +kernel) (by first | decide | omega) (by first | decide | (dsimp only; omega)) ?_
    refine gw_X0_15 (n := 20) dX0_init_17 rfl rfl rfl ⟨(by first | decide | assumption), (by first | decide | (simp only [zx1, zx3, zx5, zx6, zx13, zx14, zx15, zx16, zx17, zx18, zx19, zx22, zx23, zx24, zx25, zx26, zx27, zx28]; omega))⟩ rfl ?_
    exact g_return dX0_init_20 rfl rfl rfl
theorem n_nearest : ∃ N' M', zFr (fun k a => a = 0 ∧ (k = 4 ∨ k = 20 ∨ k = 21)) Nl N' M M' ∧ (N' 4 0 0 = false ∧ N' 4 0 1 = false) ∧ zC w mX4_init (d + 1) [vR 4 0] (41, Nl, M, O) zrV (43, N', M', O) := by
  refine ⟨u3 (u2 (u3 (u2 Nl 20 0 (fun _ => true)) 4 0 0 false) 21 0 (fun _ => true)) 4 0 1 false, u2 (u2 M 20 0 (fun _ => 0)) 21 0 (fun _ => 0), ?_, ⟨rfl, rfl⟩, ?_⟩
  · intro k a q
    rw [u3_f (by omega), u2_ne (by omega), u3_f (by omega), u2_ne (by omega), u2_ne (by omega), u2_ne (by omega)]
    exact ⟨rfl, rfl⟩
  · refine zC_of (cr := 0) (L0 := [vR 4 0]) rfl (by decide) (by decide) rfl (Nat.le_of_ble_eq_true rfl) rfl ?_
    refine g_aload_n (n := 1) dX4_init_0 rfl rfl ?_
    refine g_objI (n := 4) dX4_init_1 rfl ko_X4_3 ko_1 ko_2 (by omega) ?_ rfl
    refine g_aload_n (n := 5) dX4_init_4 rfl rfl ?_
    refine g_bipush (n := 7) dX4_init_5 rfl k_bp_8 ?_
    refine g_newa (n := 9) dX4_init_7 rfl ka_int rfl (t := 0) rfl (fun _ q => by cases q) rfl (Nat.le_of_ble_eq_true rfl) rfl (len := 8) (k := 20) (i := 0) rfl (by decide) (fun _ => rfl) (by decide +kernel) (by first | decide | omega) (by first | decide | (dsimp only; omega)) ?_
    refine gw_X4_9 (n := 12) dX4_init_9 rfl rfl rfl ⟨(by first | decide | assumption), (by first | decide | (simp only [zx1, zx3, zx5, zx6, zx13, zx14, zx15, zx16, zx17, zx18, zx19, zx22, zx23, zx24, zx25, zx26, zx27, zx28]; omega))⟩ rfl ?_
    refine g_aload_n (n := 13) dX4_init_12 rfl rfl ?_
    refine g_bipush (n := 15) dX4_init_13 rfl k_bp_8 ?_
    refine g_newa (n := 17) dX4_init_15 rfl ka_boolean rfl (t := 1) rfl (fun _ q => by cases q) rfl (Nat.le_of_ble_eq_true rfl) rfl (len := 8) (k := 21) (i := 0) rfl (by decide) (fun _ => rfl) (by decide +kernel) (by first | decide | omega) (by first | decide | (dsimp only; omega)) ?_
    refine gw_X4_15 (n := 20) dX4_init_17 rfl rfl rfl ⟨(by first | decide | assumption), (by first | decide | (simp only [zx1, zx3, zx5, zx6, zx13, zx14, zx15, zx16, zx17, zx18, zx19, zx22, zx23, zx24, zx25, zx26, zx27, zx28]; omega))⟩ rfl ?_
    exact g_return dX4_init_20 rfl rfl rfl
theorem n_text : ∃ N' M', zFr (fun k a => a = 0 ∧ (k = 8 ∨ k = 31)) Nl N' M M' ∧ N' 8 0 0 = false ∧ M' 8 0 = M 8 0 ∧ zC w mX8_init (d + 1) [vR 8 0] (44, Nl, M, O) zrV (45, N', M', O) := by
  refine ⟨u3 (u2 Nl 31 0 (fun _ => true)) 8 0 0 false, u2 M 31 0 (fun _ => 0), ?_, rfl, rfl, ?_⟩
  · intro k a q
    rw [u3_f (by omega), u2_ne (by omega), u2_ne (by omega)]
    exact ⟨rfl, rfl⟩
  · refine zC_of (cr := 0) (L0 := [vR 8 0]) rfl (by decide) (by decide) rfl (Nat.le_of_ble_eq_true rfl) rfl ?_
    refine g_aload_n (n := 1) dX8_init_0 rfl rfl ?_
    refine g_objI (n := 4) dX8_init_1 rfl ko_X8_3 ko_1 ko_2 (by omega) ?_ rfl
    refine g_aload_n (n := 5) dX8_init_4 rfl rfl ?_
    refine g_bipush (n := 7) dX8_init_5 rfl k_bp_60 ?_
    refine g_newa (n := 9) dX8_init_7 rfl ka_int rfl (t := 0) rfl (fun _ q => by cases q) rfl (Nat.le_of_ble_eq_true rfl) rfl (len := 60) (k := 31) (i := 0) rfl (by decide) (fun _ => rfl) (by decide +kernel) (by first | decide | omega) (by first | decide | (dsimp only; omega)) ?_
    refine gw_X8_9 (n := 12) dX8_init_9 rfl rfl rfl ⟨(by first | decide | assumption), (by first | decide | (simp only [zx1, zx3, zx5, zx6, zx13, zx14, zx15, zx16, zx17, zx18, zx19, zx22, zx23, zx24, zx25, zx26, zx27, zx28]; omega))⟩ rfl ?_
    exact g_return dX8_init_12 rfl rfl rfl
theorem n_hist : ∃ N' M', zFr (fun k a => (kL k ∧ ∃ q, q < 6 ∧ a = z_landOf 1 q) ∨ (a = 1 ∧ (k = 7 ∨ k = 29 ∨ k = 30)) ∨ (a = 0 ∧ k = 2)) Nl N' M M' ∧ ((∀ q, q < 6 → nlL N' (z_landOf 1 q) ∧ LandR M' (z_landOf 1 q) V0 ∧ N' 29 1 q = false) ∧ (N' 7 1 0 = false ∧ N' 7 1 1 = false)) ∧ (N' 2 0 0 = false ∧ M' 2 0 = M 2 0) ∧ zC w mX2_init (d + 5) [vR 2 0] (85, Nl, M, O) zrV (196, N', M', O) := by
  obtain ⟨N1, M1, f1, ⟨g1, g2⟩, r1, c1⟩ := n_shelf (w := w) (d := d) (O := O) (i := 1) (Nl := u2 Nl 7 1 (fun _ => true)) (M := u2 M 7 1 (fun _ => 0)) (by decide) (len := 6) rfl
  rw [show z_B 1 - 2 = 86 from rfl, show z_B 1 + 18 * 6 = 196 from rfl] at c1
  have k2 : N1 2 0 = Nl 2 0 ∧ M1 2 0 = M 2 0 := by
    obtain ⟨x, y⟩ := f1 2 0 (fun z => by
      rcases z with ⟨z, _⟩ | ⟨z, _⟩
      · unfold kL at z; omega
      · omega)
    exact ⟨x.trans (u2_ne (by omega)), y.trans (u2_ne (by omega))⟩
  refine ⟨u3 N1 2 0 0 false, M1, ?_, ⟨fun q hq => ?_, ?_⟩, ⟨u3_self, k2.2⟩, ?_⟩
  · intro k a z
    obtain ⟨x, y⟩ := f1 k a (fun q => z (q.elim Or.inl (fun q => Or.inr (Or.inl q))))
    have z7 : ¬ (k = 7 ∧ a = 1) := fun q => z (Or.inr (Or.inl ⟨q.2, by omega⟩))
    have z2 : ¬ (k = 2 ∧ a = 0) := fun q => z (Or.inr (Or.inr ⟨q.2, q.1⟩))
    rw [u3_f z2, x, y, u2_ne z7, u2_ne z7]
    exact ⟨rfl, rfl⟩
  · obtain ⟨a1, a2, a3⟩ := g1 q hq
    exact ⟨⟨fun j hj => by rw [u3_f (by omega)]; exact a1.1 j hj, fun j hj => by rw [u3_f (by omega)]; exact a1.2.1 j hj, fun j hj => by rw [u3_f (by omega)]; exact a1.2.2.1 j hj, fun j hj => by rw [u3_f (by omega)]; exact a1.2.2.2 j hj⟩, a2, by rw [u3_f (by omega)]; exact a3⟩
  · exact ⟨by rw [u3_f (by omega)]; exact g2.1, by rw [u3_f (by omega)]; exact g2.2⟩
  · refine zC_of (cr := 0) (L0 := [vR 2 0]) rfl (by decide) (by decide) rfl (Nat.le_of_ble_eq_true rfl) rfl ?_
    refine g_aload_n (n := 1) dX2_init_0 rfl rfl ?_
    refine g_objI (n := 4) dX2_init_1 rfl ko_X2_3 ko_1 ko_2 (by omega) ?_ rfl
    refine g_aload_n (n := 5) dX2_init_4 rfl rfl ?_
    refine g_new (n := 8) dX2_init_5 rfl (k := 7) (i := 1) rfl z_in7 tyX7_ok kn_X2_9 ki_7.1 ki_7.2 (by decide) rfl z_df7 (by decide +kernel) (by first | decide | omega) (by first | decide | (dsimp only; omega)) ?_
    refine g_dup (n := 9) dX2_init_8 rfl rfl ?_
    refine g_bipush (n := 11) dX2_init_9 rfl k_bp_6 ?_
    refine g_cIn (n := 14) c1 dX2_init_11 rfl kw_X2_11 (Nat.le_of_ble_eq_true rfl) (by constructor <;> first | decide | (dsimp only; omega)) ?_ rfl
    refine gw_X2_14 (n := 17) dX2_init_14 rfl rfl rfl ⟨(by first | decide | assumption), (by first | decide | (simp only [zx1, zx3, zx5, zx6, zx13, zx14, zx15, zx16, zx17, zx18, zx19, zx22, zx23, zx24, zx25, zx26, zx27, zx28]; omega))⟩ rfl ?_
    exact g_return dX2_init_17 rfl rfl rfl
end LN2

