/-! What holds between the calls. -/
theorem u3_f {α : Type} {f : Nat → Nat → Nat → α} {k i j a b : Nat} {v : α} (h : ¬ (a = k ∧ b = i)) : u3 f k i j v a b = f a b := funext fun _ => if_neg (fun q => h ⟨q.1, q.2.1⟩)
/-- the class's land i and the reference's row from b on are the same land -/
def gR (M : Nat → Nat → Nat → Int32) (i b : Nat) : Prop := LandR M i (rV M b) ∧ WFV (rV M b) ∧ WFP (rV M b)
theorem gR_of {M : Nat → Nat → Nat → Int32} {i b : Nat} {V : Nat → Int32} (R : LandR M i V) (H : RowR M b V) (W : WFV V) (P : WFP V) : gR M i b := ⟨LandR_c R H.sy, WFV_c W H.sy, WFP_c P H.sy⟩
/-- kinds of a land -/
def kLd (k : Nat) : Prop := k < 29 ∧ (k < 10 → k = 1 ∨ k = 3) ∧ k ≠ 10 ∧ k ≠ 11 ∧ k ≠ 12 ∧ k ≠ 20 ∧ k ≠ 21
theorem gR_mv {M M' : Nat → Nat → Nat → Int32} {i i' b b' : Nat} (G : gR M i b) (h1 : ∀ V, LandR M i V → LandR M' i' V) (h2 : ∀ j, j < 174 → M' 32 0 (b' + j) = M 32 0 (b + j)) : gR M' i' b' :=
  gR_of (h1 _ G.1) (fun j hj => h2 j hj) G.2.1 G.2.2
theorem LandR_k {M M' : Nat → Nat → Nat → Int32} {i : Nat} (h : ∀ k, kLd k → M' k i = M k i) : ∀ V, LandR M i V → LandR M' i V := fun _ R => LandR_same R (fun k a b c d e f g => h k ⟨a, b, c, d, e, f, g⟩)
def zI (M : Nat → Nat → Nat → Int32) (s o h n : Nat) (C : Nat → Nat) (K : Nat → Bool) : Prop :=
  zF M s o h n ∧ M 10 0 1 = nI h ∧ (cTx M C n ∧ rTx M C n) ∧ (∀ p, p < 2 → M 30 0 p = zb (K p) ∧ M 33 0 p = zb (K p)) ∧ gR M 0 0 ∧ (∀ j, j < h → gR M (4 + (o + j) % 6) (174 * (j + 1))) ∧ (∀ p, p < 2 → K p = true → gR M (2 + p) (174 * (7 + p)))
def zInv (M : Nat → Nat → Nat → Int32) : Prop := ∃ s o h n C K, zI M s o h n C K
section L26
variable {M M1 M2 : Nat → Nat → Nat → Int32} {s o h n : Nat} {C : Nat → Nat} {K : Nat → Bool} {V : Nat → Int32}
theorem zI.F (Z : zI M s o h n C K) : zF M s o h n := Z.1
theorem zI.hh (Z : zI M s o h n C K) : M 10 0 1 = nI h := Z.2.1
theorem zI.X (Z : zI M s o h n C K) : cTx M C n := Z.2.2.1.1
theorem zI.Y (Z : zI M s o h n C K) : rTx M C n := Z.2.2.1.2
theorem zI.kk (Z : zI M s o h n C K) : ∀ p, p < 2 → M 30 0 p = zb (K p) ∧ M 33 0 p = zb (K p) := Z.2.2.2.1
theorem zI.G (Z : zI M s o h n C K) : gR M 0 0 := Z.2.2.2.2.1
theorem zI.H (Z : zI M s o h n C K) : ∀ j, j < h → gR M (4 + (o + j) % 6) (174 * (j + 1)) := Z.2.2.2.2.2.1
theorem zI.S (Z : zI M s o h n C K) : ∀ p, p < 2 → K p = true → gR M (2 + p) (174 * (7 + p)) := Z.2.2.2.2.2.2
theorem zI.ss (Z : zI M s o h n C K) : rV M 0 66 = nI s := (Z.G.1.2.2.1).symm.trans Z.F.hs
/-- nothing is changed but what questions write -/
theorem zI_q (Z : zI M s o h n C K) (S : zSame M M1) {z : Int32} (Q : rQ (u3 M1 10 0 3 z) M2) : zI M2 s o h n C K := by
  have e0 : ∀ k i, k ≠ 0 → k ≠ 10 → k ≠ 11 → k ≠ 12 → k ≠ 20 → k ≠ 21 → (i ≠ 1 ∨ 29 ≤ k) → k ≠ 32 → k ≠ 35 → k ≠ 36 → k ≠ 37 → M2 k i = M k i := fun k i a b c d e f g h1 h2 h3 h4 => (Q.1 k i h1 h2 h3 h4).trans ((u3_kf b).trans (S k i a c d e f g))
  have e10 : ∀ j, j ≠ 3 → M2 10 0 j = M 10 0 j := fun j hj => by
    rw [Q.1 10 0 (by decide) (by decide) (by decide) (by decide), u3_nj hj, S 10 0 (by decide) (by decide) (by decide) (by decide) (by decide) (Or.inl (by decide))]
  have e32 : ∀ j, j < 1566 → M2 32 0 j = M 32 0 j := fun j hj => by
    rw [Q.2 j hj, u3_nk (by decide), S 32 0 (by decide) (by decide) (by decide) (by decide) (by decide) (Or.inl (by decide))]
  have el : ∀ i, i ≠ 1 → ∀ V, LandR M i V → LandR M2 i V := fun i hi => LandR_k (fun k hk => e0 k i (fun q => by rcases hk.2.1 (by omega) with z | z <;> omega) hk.2.2.1 hk.2.2.2.1 hk.2.2.2.2.1 hk.2.2.2.2.2.1 hk.2.2.2.2.2.2 (Or.inl hi) (by have := hk.1; omega) (by have := hk.1; omega) (by have := hk.1; omega) (by have := hk.1; omega))
  have F := Z.F
  have X := Z.X
  have Y := Z.Y
  have h6 := F.h6
  have e1 : M2 1 0 = M 1 0 := e0 1 0 (by decide) (by decide) (by decide) (by decide) (by decide) (by decide) (Or.inl (by decide)) (by decide) (by decide) (by decide) (by decide)
  have e2 : M2 2 0 = M 2 0 := e0 2 0 (by decide) (by decide) (by decide) (by decide) (by decide) (by decide) (Or.inl (by decide)) (by decide) (by decide) (by decide) (by decide)
  have e8 : M2 8 0 = M 8 0 := e0 8 0 (by decide) (by decide) (by decide) (by decide) (by decide) (by decide) (Or.inl (by decide)) (by decide) (by decide) (by decide) (by decide)
  have e30 : M2 30 0 = M 30 0 := e0 30 0 (by decide) (by decide) (by decide) (by decide) (by decide) (by decide) (Or.inl (by decide)) (by decide) (by decide) (by decide) (by decide)
  have e31 : M2 31 0 = M 31 0 := e0 31 0 (by decide) (by decide) (by decide) (by decide) (by decide) (by decide) (Or.inl (by decide)) (by decide) (by decide) (by decide) (by decide)
  have e33 : M2 33 0 = M 33 0 := e0 33 0 (by decide) (by decide) (by decide) (by decide) (by decide) (by decide) (Or.inl (by decide)) (by decide) (by decide) (by decide) (by decide)
  have e34 : M2 34 0 = M 34 0 := e0 34 0 (by decide) (by decide) (by decide) (by decide) (by decide) (by decide) (Or.inl (by decide)) (by decide) (by decide) (by decide) (by decide)
  refine ⟨⟨by rw [e1]; exact F.hs, F.h8, by rw [e2]; exact F.ho, F.o6, by rw [e2]; exact F.hh, F.h6, by rw [e8]; exact F.hn, F.h60⟩, (e10 1 (by decide)).trans Z.hh, ⟨⟨by rw [e8]; exact X.1, X.2.1, by rw [e31]; exact X.2.2⟩, ⟨(e10 5 (by decide)).trans Y.1, Y.2.1, by rw [e34]; exact Y.2.2⟩⟩, by rw [e30, e33]; exact Z.kk, gR_mv Z.G (el 0 (by decide)) (fun j hj => e32 _ (by omega)), fun j hj => gR_mv (Z.H j hj) (el _ (by omega)) (fun i hi => e32 _ (by omega)), fun p hp hk => gR_mv (Z.S p hp hk) (el _ (by omega)) (fun i hi => e32 _ (by omega))⟩
/-- what a save of the class leaves -/
theorem mSave_o {k a : Nat} (h1 : a ≠ 4 + (o + h) % 6) (h2 : ¬ (k = 2 ∧ a = 0)) (h3 : ¬ (k = 30 ∧ a = 1)) : mSave M o h 0 k a = M k a := by
  have e : z_landOf 1 ((o + h) % 6) = 4 + (o + h) % 6 := if_neg (by decide)
  unfold mSave mPut
  split
  · rw [u3_f h2, u3_f h3, e, mCpL_ne h1]
  · rw [u3_f h2, u3_f h3, e, mCpL_ne h1]
theorem mSave_l (R : LandR M 0 V) : LandR (mSave M o h 0) (4 + (o + h) % 6) V := by
  have e : z_landOf 1 ((o + h) % 6) = 4 + (o + h) % 6 := if_neg (by decide)
  have R1 : LandR (mCpL M (4 + (o + h) % 6) 0) (4 + (o + h) % 6) V := LandR_cp R (by omega)
  refine LandR_k (fun k hk => ?_) V R1
  have k1 := hk.1
  unfold mSave mPut
  split
  · rw [u3_f (by omega), u3_f (by omega), e]
  · rw [u3_f (by omega), u3_f (by omega), e]
def rO (o h : Nat) : Nat := if h < 6 then o else (o + 1) % 6
theorem mSave_2 (F : zF M s o h n) : mSave M o h 0 2 0 1 = nI (rO o h) ∧ mSave M o h 0 2 0 2 = nI (rSv h) := by
  have h6 := F.h6
  unfold mSave rO rSv
  split
  · exact ⟨by rw [u3_nj (by decide), mPut_1]; exact F.ho, u3_self⟩
  · refine ⟨u3_self, ?_⟩
    rw [u3_nj (by decide), mPut_1, F.hh]
    congr 1
    omega
/-- beside land 0 of the class nothing is changed behind the save -/
def cS (M M' : Nat → Nat → Nat → Int32) : Prop := ∀ k i, (i ≠ 0 ∨ 29 ≤ k ∨ k = 2 ∨ k = 8 ∨ k = 10) → M' k i = M k i
def cT (M M' : Nat → Nat → Nat → Int32) : Prop := ∀ k i, (i ≠ 0 ∨ 29 ≤ k ∨ k = 2 ∨ k = 10) → M' k i = M k i
theorem cS.w (h : cS M M1) : cT M M1 := fun k i q => h k i (by omega)
theorem cS.rf : cS M M := fun _ _ _ => rfl
theorem cQ.S (h : cQ M M1) : cS M M1 := fun k i q => h k i (by omega)
theorem cS_u3 {k j : Nat} {x : Int32} (h : k < 29 ∧ k ≠ 2 ∧ k ≠ 8 ∧ k ≠ 10) : cS M (u3 M k 0 j x) := fun a i q => u3_f (by omega)
theorem cS_u2 {k : Nat} {S : Nat → Int32} (h : k < 29 ∧ k ≠ 2 ∧ k ≠ 8 ∧ k ≠ 10) : cS M (u2 M k 0 S) := fun a i q => u2_ne (by omega)
theorem cS.tr (h : cS M M1) (g : cS M1 M2) : cS M M2 := fun k i q => (g k i q).trans (h k i q)
/-- what the reference has done behind a save: of the memory M, saved states h -/
def rS (M M2 : Nat → Nat → Nat → Int32) (h : Nat) : Prop := (∀ k i, k ≠ 10 → k ≠ 32 → k ≠ 35 → k ≠ 36 → k ≠ 37 → M2 k i = M k i) ∧ M2 10 0 1 = nI (rSv h) ∧ (∀ j, 174 ≤ j → M2 32 0 j = rSave (M 32 0) h j)
/-- behind a save, and what follows it on both sides -/
theorem zI_save {s' n' : Nat} {C' : Nat → Nat} (Z : zI M s o h n C K) (Q : cT (mSave M o h 0) M1) (T : rS M1 M2 h) (R : LandR M1 0 V) (H : RowR M2 0 V) (W : WFV V) (P : WFP V) (hs : V 66 = nI s') (h8 : s' ≤ 8) (X : cTx M2 C' n') (Y : rTx M2 C' n') : zI M2 s' (rO o h) (rSv h) n' C' K := by
  have F := Z.F
  have h6 := F.h6
  have o6 := F.o6
  have m32 : M1 32 0 = M 32 0 := (Q 32 0 (by omega)).trans (mSave_0 (by decide))
  have e2 : ∀ k i, k ≠ 10 → k ≠ 32 → k ≠ 35 → k ≠ 36 → k ≠ 37 → (i ≠ 0 ∨ 29 ≤ k ∨ k = 2) → M2 k i = mSave M o h 0 k i := fun k i a b c d e f => (T.1 k i a b c d e).trans (Q k i (by omega))
  have el : ∀ i, i ≠ 0 → ∀ V, LandR (mSave M o h 0) i V → LandR M2 i V := fun i hi => LandR_k (fun k hk => e2 k i hk.2.2.1 (by have := hk.1; omega) (by have := hk.1; omega) (by have := hk.1; omega) (by have := hk.1; omega) (Or.inl hi))
  have eo : ∀ i, i ≠ 4 + (o + h) % 6 → i ≠ 0 → ∀ V, LandR M i V → LandR M2 i V := fun i h1 h2 V r => el i h2 V (LandR_k (fun k hk => mSave_o h1 (by omega) (by have := hk.1; omega)) V r)
  obtain ⟨f1, f2⟩ := mSave_2 F
  have e20 : M2 2 0 = mSave M o h 0 2 0 := e2 2 0 (by decide) (by decide) (by decide) (by decide) (by decide) (by omega)
  have e30 : M2 30 0 = M 30 0 := (e2 30 0 (by decide) (by decide) (by decide) (by decide) (by decide) (by omega)).trans (mSave_0 (by decide))
  have e33 : M2 33 0 = M 33 0 := (e2 33 0 (by decide) (by decide) (by decide) (by decide) (by decide) (by omega)).trans (mSave_0 (by decide))
  have s6 : rSv h ≤ 6 := by unfold rSv; split <;> omega
  have ro6 : rO o h < 6 := by unfold rO; split <;> omega
  have eR : LandR M2 0 V := LandR_k (fun k hk => T.1 k 0 hk.2.2.1 (by have := hk.1; omega) (by have := hk.1; omega) (by have := hk.1; omega) (by have := hk.1; omega)) V R
  have row : ∀ t, t < rSv h → ∀ i, i < 174 → M2 32 0 (174 * (t + 1) + i) = if t + 1 = rSv h then M 32 0 i else if h < 6 then M 32 0 (174 * (t + 1) + i) else M 32 0 (174 * (t + 2) + i) := fun t ht i hi => by
    rw [T.2.2 _ (by omega), m32, rSave_at hi t h6 ht]
  refine ⟨⟨(eR.2.2.1).trans hs, h8, by rw [e20]; exact f1, ro6, by rw [e20]; exact f2, s6, X.1, X.2.1⟩, T.2.1, ⟨X, Y⟩, by rw [e30, e33]; exact Z.kk, gR_of eR H W P, fun j hj => ?_, fun p hp hk => ?_⟩
  · by_cases e : j + 1 = rSv h
    · -- the state saved just now
      have ei : 4 + (rO o h + j) % 6 = 4 + (o + h) % 6 := by
        unfold rO rSv at *
        split at e <;> split <;> omega
      rw [ei]
      refine gR_mv Z.G (fun V r => el _ (by omega) V (mSave_l r)) (fun i hi => ?_)
      rw [row j hj i hi, if_pos e, Nat.zero_add]
    · by_cases l : h < 6
      · have eo' : rO o h = o := if_pos l
        have es : rSv h = h + 1 := if_pos l
        rw [eo']
        refine gR_mv (Z.H j (by omega)) (eo _ (by omega) (by omega)) (fun i hi => ?_)
        rw [row j hj i hi, if_neg e, if_pos l]
      · have eo' : rO o h = (o + 1) % 6 := if_neg l
        have es : rSv h = 6 := if_neg l
        have ei : 4 + (rO o h + j) % 6 = 4 + (o + (j + 1)) % 6 := by rw [eo']; omega
        rw [ei]
        refine gR_mv (Z.H (j + 1) (by omega)) (eo _ (by omega) (by omega)) (fun i hi => ?_)
        rw [row j hj i hi, if_neg e, if_neg l]
  · refine gR_mv (Z.S p hp hk) (eo _ (by omega) (by omega)) (fun i hi => ?_)
    rw [T.2.2 _ (by omega), m32, rSave_hi (by omega)]
/-- the text is not touched -/
theorem zI_saveT {s' : Nat} (Z : zI M s o h n C K) (Q : cS (mSave M o h 0) M1) (T : rS M1 M2 h) (h5 : M2 10 0 5 = M1 10 0 5) (R : LandR M1 0 V) (H : RowR M2 0 V) (W : WFV V) (P : WFP V) (hs : V 66 = nI s') (h8 : s' ≤ 8) : zI M2 s' (rO o h) (rSv h) n C K := by
  have X := Z.X
  have Y := Z.Y
  have g : ∀ k, k = 8 ∨ k = 31 ∨ k = 34 → M2 k 0 = M k 0 := fun k hk => (T.1 k 0 (by omega) (by omega) (by omega) (by omega) (by omega)).trans ((Q k 0 (by omega)).trans (mSave_0 (by omega)))
  refine zI_save Z Q.w T R H W P hs h8 ⟨by rw [g 8 (by omega)]; exact X.1, X.2.1, by rw [g 31 (by omega)]; exact X.2.2⟩ ⟨?_, Y.2.1, by rw [g 34 (by omega)]; exact Y.2.2⟩
  rw [h5, Q 10 0 (by omega), mSave_0 (by decide)]
  exact Y.1
/-- the reference behind mSv and a row of its own -/
theorem rS_mSv {S : Nat → Int32} (h1 : ∀ j, 174 ≤ j → S j = rSave (M 32 0) h j) : rS M (u2 (mSv M h) 32 0 S) h ∧ u2 (mSv M h) 32 0 S 10 0 5 = M 10 0 5 := by
  unfold mSv
  refine ⟨⟨fun k i a b _ _ _ => ?_, rfl, fun j hj => by rw [u2_self]; exact h1 j hj⟩, rfl⟩
  rw [u2_ne (by omega), u3_kf a, u3_kf a]
end L26

