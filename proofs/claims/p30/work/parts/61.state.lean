/-! What the object is between its calls: t loaves sent at most, s exits, h saved states, the row V of now. -/
def zJ (t : Nat) (M : Nat → Nat → Nat → Int32) (s o h : Nat) (K : Nat → Bool) (V : Nat → Int32) (L : Nat → Nat → Int32) : Prop :=
  zF M s o h 0 ∧ V 66 = nI s ∧ (∀ p, p < 2 → M 30 0 p = zb (K p)) ∧ (LandR M 0 V ∧ vG t V) ∧ (∀ j, j < h → LandR M (4 + (o + j) % 6) (L (4 + (o + j) % 6)) ∧ vG t (L (4 + (o + j) % 6))) ∧ (∀ p, p < 2 → K p = true → LandR M (2 + p) (L (2 + p)) ∧ vG t (L (2 + p)))
def zS (t : Nat) (M : Nat → Nat → Nat → Int32) (s h : Nat) (V : Nat → Int32) : Prop := ∃ o K L, zJ t M s o h K V L
section ZJ
variable {t t' : Nat} {M M1 : Nat → Nat → Nat → Int32} {s s' o h p : Nat} {K : Nat → Bool} {V U : Nat → Int32} {L : Nat → Nat → Int32}
theorem zJ.F (Z : zJ t M s o h K V L) : zF M s o h 0 := Z.1
theorem zJ.ss (Z : zJ t M s o h K V L) : V 66 = nI s := Z.2.1
theorem zJ.kk (Z : zJ t M s o h K V L) : ∀ p, p < 2 → M 30 0 p = zb (K p) := Z.2.2.1
theorem zJ.R (Z : zJ t M s o h K V L) : LandR M 0 V := Z.2.2.2.1.1
theorem zJ.G (Z : zJ t M s o h K V L) : vG t V := Z.2.2.2.1.2
theorem zJ.W (Z : zJ t M s o h K V L) : WFV V := Z.2.2.2.1.2.1
theorem zJ.P (Z : zJ t M s o h K V L) : WFP V := Z.2.2.2.1.2.2.1
theorem zJ.H (Z : zJ t M s o h K V L) : ∀ j, j < h → LandR M (4 + (o + j) % 6) (L (4 + (o + j) % 6)) ∧ vG t (L (4 + (o + j) % 6)) := Z.2.2.2.2.1
theorem zJ.S (Z : zJ t M s o h K V L) : ∀ p, p < 2 → K p = true → LandR M (2 + p) (L (2 + p)) ∧ vG t (L (2 + p)) := Z.2.2.2.2.2
theorem zJ.nn (Z : zJ t M s o h K V L) : ∀ j, j < 64 → 0 ≤ M 27 0 j := fun j hj => by
  rw [Z.R.2.1 j hj]
  obtain ⟨c, hc, ec⟩ := Z.W.2.1 j hj
  rw [ec]
  exact nI_pos' (by omega)
theorem zS.ss (Z : zS t M s h V) : V 66 = nI s := by
  obtain ⟨o, K, L, Z⟩ := Z
  exact Z.ss
theorem zS.G (Z : zS t M s h V) : vG t V := by
  obtain ⟨o, K, L, Z⟩ := Z
  exact Z.G
theorem zS.W (Z : zS t M s h V) : WFV V := Z.G.1
theorem zS.P (Z : zS t M s h V) : WFP V := Z.G.2.1
theorem zS.A (Z : zS t M s h V) : AC t V := Z.G.2.2
theorem zS.h8 (Z : zS t M s h V) : s ≤ 8 := by
  obtain ⟨o, K, L, Z⟩ := Z
  exact Z.F.h8
theorem zS.h6 (Z : zS t M s h V) : h ≤ 6 := by
  obtain ⟨o, K, L, Z⟩ := Z
  exact Z.F.h6
theorem sameL (S : zSame M M1) {i : Nat} (hi : i ≠ 1) : ∀ V, LandR M i V → LandR M1 i V :=
  LandR_k (fun k hk => S k i (fun z => by have := hk.2.1 (by omega); omega) hk.2.2.2.1 hk.2.2.2.2.1 hk.2.2.2.2.2.1 hk.2.2.2.2.2.2 (Or.inl hi))
theorem zJ_q (Z : zJ t M s o h K V L) (S : zSame M M1) : zJ t M1 s o h K V L :=
  ⟨Z.F.same S, Z.ss, fun p hp => by rw [S 30 0 (by decide) (by decide) (by decide) (by decide) (by decide) (Or.inl (by decide))]; exact Z.kk p hp, ⟨sameL S (by decide) _ Z.R, Z.G⟩, fun j hj => ⟨sameL S (by omega) _ (Z.H j hj).1, (Z.H j hj).2⟩, fun p hp hk => ⟨sameL S (by omega) _ (Z.S p hp hk).1, (Z.S p hp hk).2⟩⟩
theorem zS_q (Z : zS t M s h V) (S : zSame M M1) : zS t M1 s h V := by
  obtain ⟨o, K, L, Z⟩ := Z
  exact ⟨o, K, L, zJ_q Z S⟩
theorem vG_66 (G : vG t V) (hs : V 66 = nI s) (hb : s < 2 ^ 31) : s ≤ 8 := by
  obtain ⟨x, h8, hx⟩ := WFV_66 G.1
  rw [hs] at hx
  have := (nI_eq hb (by omega)).mp hx
  omega
/-- behind a save -/
theorem zJ_save (Z : zJ t M s o h K V L) (ht : t ≤ t') (h9 : t' ≤ 100) (Q : cS (mSave M o h 0) M1) (R : LandR M1 0 U) (G : vG t' U) (us : U 66 = nI s') (h8 : s' ≤ 8) : zJ t' M1 s' (rO o h) (rSv h) K U (fun i => if i = 4 + (o + h) % 6 then V else L i) := by
  have F := Z.F
  have h6 := F.h6
  have o6 := F.o6
  have el : ∀ i, i ≠ 0 → ∀ V, LandR (mSave M o h 0) i V → LandR M1 i V := fun i hi => LandR_k (fun k hk => Q k i (Or.inl hi))
  have eo : ∀ i, i ≠ 4 + (o + h) % 6 → i ≠ 0 → ∀ V, LandR M i V → LandR M1 i V := fun i h1 h2 V r => el i h2 V (LandR_k (fun k hk => mSave_o h1 (by omega) (by have := hk.1; omega)) V r)
  obtain ⟨f1, f2⟩ := mSave_2 F
  have e20 : M1 2 0 = mSave M o h 0 2 0 := Q 2 0 (by omega)
  have e8 : M1 8 0 = M 8 0 := (Q 8 0 (by omega)).trans (mSave_0 (by decide))
  have e30 : M1 30 0 = M 30 0 := (Q 30 0 (by omega)).trans (mSave_0 (by decide))
  have s6 : rSv h ≤ 6 := by unfold rSv; split <;> omega
  have ro6 : rO o h < 6 := by unfold rO; split <;> omega
  refine ⟨⟨R.2.2.1.trans us, h8, by rw [e20]; exact f1, ro6, by rw [e20]; exact f2, s6, by rw [e8]; exact F.hn, F.h60⟩, us, by rw [e30]; exact Z.kk, ⟨R, G⟩, fun j hj => ?_, fun p hp hk => ?_⟩
  · dsimp only
    by_cases e : j + 1 = rSv h
    · have ei : 4 + (rO o h + j) % 6 = 4 + (o + h) % 6 := by
        unfold rO rSv at *
        split at e <;> split <;> omega
      rw [ei, if_pos rfl]
      exact ⟨el _ (by omega) _ (mSave_l Z.R), vG_mono Z.G ht h9⟩
    · by_cases l : h < 6
      · have eo' : rO o h = o := if_pos l
        have es : rSv h = h + 1 := if_pos l
        rw [eo', if_neg (by omega)]
        exact ⟨eo _ (by omega) (by omega) _ (Z.H j (by omega)).1, vG_mono (Z.H j (by omega)).2 ht h9⟩
      · have eo' : rO o h = (o + 1) % 6 := if_neg l
        have es : rSv h = 6 := if_neg l
        have ei : 4 + (rO o h + j) % 6 = 4 + (o + (j + 1)) % 6 := by rw [eo']; omega
        rw [ei, if_neg (by omega)]
        exact ⟨eo _ (by omega) (by omega) _ (Z.H (j + 1) (by omega)).1, vG_mono (Z.H (j + 1) (by omega)).2 ht h9⟩
  · dsimp only
    rw [if_neg (by omega)]
    exact ⟨eo _ (by omega) (by omega) _ (Z.S p hp hk).1, vG_mono (Z.S p hp hk).2 ht h9⟩
theorem zJ_rest (Z : zJ t M s o (h + 1) K V L) : ∃ s', s' ≤ 8 ∧ zJ t (mRest M o h 0) s' o h K (L (4 + (o + h) % 6)) L := by
  have F := Z.F
  have h6 := F.h6
  have o6 := F.o6
  have el : z_landOf 1 ((o + h) % 6) = 4 + (o + h) % 6 := if_neg (by decide)
  obtain ⟨M1, hM1⟩ : ∃ M1, M1 = mRest M o h 0 := ⟨_, rfl⟩
  have e1 : M1 = mCpL (u3 M 2 0 2 (nI h)) 0 (4 + (o + h) % 6) := by
    rw [hM1]
    unfold mRest
    rw [el]
  rw [← hM1]
  obtain ⟨R, G⟩ := Z.H h (by omega)
  have k1 : ∀ k a, (a ≠ 0 ∨ 29 ≤ k ∨ k = 8 ∨ k = 10) → M1 k a = M k a := fun k a z => by
    rw [e1, mCpL_k (by omega), u3_f (by omega)]
  have R1 : LandR M1 0 (L (4 + (o + h) % 6)) := by
    rw [e1]
    exact LandR_cp (LandR_k (fun k hk => u3_f (by have := hk.2.1; omega)) _ R) (by omega)
  obtain ⟨s', h8, hs⟩ := WFV_66 G.1
  have lo : ∀ a, a ≠ 0 → ∀ V, LandR M a V → LandR M1 a V := fun a ha => LandR_k (fun k hk => k1 k a (Or.inl ha))
  have m2 : ∀ j, M1 2 0 j = u3 M 2 0 2 (nI h) 2 0 j := fun j => by
    rw [e1, mCpL_k (by omega)]
  refine ⟨s', h8, ⟨R1.2.2.1.trans hs, h8, ?_, F.o6, ?_, by omega, ?_, F.h60⟩, hs, fun p hp => ?_, ⟨R1, G⟩, fun j hj => ⟨lo _ (by omega) _ (Z.H j (by omega)).1, (Z.H j (by omega)).2⟩, fun p hp hk => ⟨lo _ (by omega) _ (Z.S p hp hk).1, (Z.S p hp hk).2⟩⟩
  · rw [m2, u3_nj (by decide)]; exact F.ho
  · rw [m2]; exact u3_self
  · rw [k1 8 0 (by omega)]; exact F.hn
  · rw [k1 30 0 (by omega)]; exact Z.kk p hp
theorem zJ_keep (Z : zJ t M s o h K V L) (hp : p < 2) : zJ t (mPut M 0 p 0) s o h (fun q => if q = p then true else K q) V (fun i => if i = 2 + p then V else L i) := by
  have F := Z.F
  have el : z_landOf 0 p = 2 + p := if_pos rfl
  obtain ⟨M1, hM1⟩ : ∃ M1, M1 = mPut M 0 p 0 := ⟨_, rfl⟩
  have e1 : M1 = u3 (mCpL M (2 + p) 0) 30 0 p (nI 1) := by
    rw [hM1]
    unfold mPut
    rw [el]
  rw [← hM1]
  have k1 : ∀ k a, a ≠ 2 + p → ¬ (k = 30 ∧ a = 0) → M1 k a = M k a := fun k a h1 h2 => by
    rw [e1, u3_f h2, mCpL_ne h1]
  have q30 : ∀ q, M1 30 0 q = if q = p then nI 1 else M 30 0 q := fun q => by
    rw [e1]
    unfold u3
    by_cases e : q = p
    · rw [if_pos ⟨rfl, rfl, e⟩, if_pos e]
    · rw [if_neg (fun z => e z.2.2), if_neg e, mCpL_ne (by omega)]
  have lo : ∀ a, a ≠ 2 + p → ∀ V, LandR M a V → LandR M1 a V := fun a ha => LandR_k (fun k hk => k1 k a ha (by have := hk.1; omega))
  have lp : ∀ V, LandR M 0 V → LandR M1 (2 + p) V := fun V R => LandR_k (M := mCpL M (2 + p) 0) (fun k hk => by
    rw [e1, u3_f (by have := hk.1; omega)]) V (LandR_cp R (by omega))
  refine ⟨⟨?_, F.h8, ?_, F.o6, ?_, F.h6, ?_, F.h60⟩, Z.ss, fun q hq => ?_, ⟨lo 0 (by omega) _ Z.R, Z.G⟩, fun j hj => ?_, fun q hq hk => ?_⟩
  · rw [k1 1 0 (by omega) (by omega)]; exact F.hs
  · rw [k1 2 0 (by omega) (by omega)]; exact F.ho
  · rw [k1 2 0 (by omega) (by omega)]; exact F.hh
  · rw [k1 8 0 (by omega) (by omega)]; exact F.hn
  · show M1 30 0 q = zb (if q = p then true else K q)
    rw [q30]
    by_cases e : q = p
    · rw [if_pos e, if_pos e]; rfl
    · rw [if_neg e, if_neg e]; exact Z.kk q hq
  · dsimp only
    rw [if_neg (by omega)]
    exact ⟨lo _ (by omega) _ (Z.H j hj).1, (Z.H j hj).2⟩
  · dsimp only at hk ⊢
    by_cases e : q = p
    · subst e
      rw [if_pos rfl]
      exact ⟨lp _ Z.R, Z.G⟩
    · rw [if_neg e] at hk
      rw [if_neg (by omega)]
      exact ⟨lo _ (by omega) _ (Z.S q hq hk).1, (Z.S q hq hk).2⟩
end ZJ

