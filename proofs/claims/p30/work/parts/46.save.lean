/-! The class between its calls: a land kept and brought back, a loaf sent. Out of whole's parts 56, 61, 65, 68, 69, 70, 72. -/
theorem ad_o {S : Nat → Int32} {p q : Nat} {x : Int32} (h : q ≠ p) : ad S p x q = S q := upd_o h
theorem ad_s {S : Nat → Int32} {p : Nat} {x : Int32} : ad S p x p = S p + x := pk_us
theorem ad_com {S : Nat → Int32} {p q : Nat} {x y : Int32} (h : p ≠ q) : ad (ad S p x) q y = ad (ad S q y) p x := by
  funext j
  unfold ad upd
  have h2 : ¬ q = p := fun z => h z.symm
  have h3 : ¬ p = q := h
  by_cases a : j = q
  · subst a
    simp only [h2, h3, if_pos, if_neg, if_false, if_true]
  · by_cases b : j = p
    · subst b
      simp only [h2, h3, if_pos, if_neg, if_false, if_true]
    · simp only [a, b, if_false]
theorem ad_0 {S : Nat → Int32} {p : Nat} : ad S p (nI 0) = S := by
  funext j
  unfold ad upd
  by_cases a : j = p
  · rw [if_pos a, a]
    exact Int32.add_zero _
  · rw [if_neg a]
section SV0
variable {V : Nat → Int32} {s t h : Nat}
theorem vCho_in2 (W : WFV V) (hs : V 66 = nI s) (h8 : s ≤ 8) (ht : t < 8) (hh : h < 4) : vCho (vDi V) V s t h = -1 ∨ ∃ e, e < s ∧ vCho (vDi V) V s t h = nI e := by
  rcases vCho_in W hs h8 ht hh with a | ⟨e, a, _, b⟩
  · exact Or.inl a
  · exact Or.inr ⟨e, a, b⟩
theorem upd_upd_id {V : Nat → Int32} {p q : Nat} {x y : Int32} (h : p ≠ q) (hy : V q = y) : upd (upd V p x) q y = upd V p x := by
  funext j
  unfold upd
  by_cases e : j = q
  · rw [if_pos e, if_neg (fun z => h (z.symm.trans e)), e, hy]
  · rw [if_neg e]
theorem WFV_66 {V : Nat → Int32} (W : WFV V) : ∃ s, s ≤ 8 ∧ V 66 = nI s := by
  obtain ⟨s, h8, hs, _⟩ := W.2.2.2.2.1
  exact ⟨s, h8, hs⟩
theorem vSnd_wf (W : WFV V) (P : WFP V) (hs : V 66 = nI s) (h8 : s ≤ 8) (ht : t < 8) (hh : h < 4) (hl : V 171 < nI 9999) : WFV (vSnd V s t h) ∧ WFP (vSnd V s t h) ∧ vSnd V s t h 66 = nI s := by
  obtain ⟨T, c, b1, b2, b3, b4⟩ := W.2.2.2.2.2.2
  have hT : T < 9999 := by
    rw [b3] at hl
    exact (nI_ltI (by omega) (by omega)).mp hl
  obtain ⟨T', p1, p2, p3⟩ := P
  obtain rfl : T' = T := by
    rw [b3] at p2
    exact ((nI_eq (by omega) (by omega)).mp p2).symm
  have a171 : ad V 171 (nI 1) = upd V 171 (nI (T' + 1)) := by
    unfold ad
    rw [b3, nI_add]
  have w1 : ∀ c', c' ≤ T' + 1 → WFV (upd (upd V 171 (nI (T' + 1))) 172 (nI c')) := fun c' h => WFV_sent W (by omega) h
  have pq : ∀ q, q < 172 → 139 ≤ q → q ≠ 171 → ∃ p, p ≤ T' ∧ V q = nI p := fun q h1 h2 h3 => by
    obtain ⟨p, e1, e2⟩ := p3 (q - 139) (by omega)
    rw [show 139 + (q - 139) = q by omega] at e2
    exact ⟨p, e1, e2⟩
  unfold vSnd
  rcases vCho_in2 W hs h8 ht hh with a | ⟨e, he, a⟩
  · rw [a, if_pos (by decide)]
    have ec : vCold V = upd (upd V 171 (nI (T' + 1))) 172 (nI (c + 1)) := by
      unfold vCold
      rw [a171]
      unfold ad
      rw [upd_o (by decide), b4, nI_add]
    rw [ec]
    refine ⟨w1 _ (by omega), ⟨T' + 1, by omega, by rw [upd_o (by decide), pk_us], fun j hj => ?_⟩, by rw [upd_o (by decide), upd_o (by decide)]; exact hs⟩
    obtain ⟨p, e1, e2⟩ := p3 j hj
    exact ⟨p, by omega, by rw [upd_o (by omega), upd_o (by omega)]; exact e2⟩
  · have hq := vNe_lt W hs h8 he
    rw [a, if_neg (nI_pos (by omega)), nI_clamp (by omega)]
    obtain ⟨q, hqe⟩ : ∃ q, q = vNe V e := ⟨_, rfl⟩
    obtain ⟨co, hco⟩ : ∃ co, co = vDe (vDi V) V s t h := ⟨_, rfl⟩
    rw [← hqe] at hq ⊢
    rw [← hco]
    have w0 : WFV (ad V 171 (nI 1)) := by
      rw [a171]
      have := w1 c (by omega)
      rw [upd_upd_id (by decide) b4] at this
      exact this
    have s0 : ad V 171 (nI 1) 66 = nI s := (ad_o (by decide)).trans hs
    have fr : ∀ (U : Nat → Int32) (p : Nat) (x : Int32), WFV U → U 66 = nI s → ((123 ≤ p ∧ p < 171) ∨ 173 ≤ p ∨ (67 ≤ p ∧ p < 67 + 5 * s ∧ (p % 5 = 0 ∨ p % 5 = 1))) → WFV (ad U p x) ∧ ad U p x 66 = nI s := fun U p x w u z => ⟨WFV_free w u h8 z, (ad_o (by omega)).trans u⟩
    unfold vTake
    obtain ⟨o, ho⟩ : ∃ o, o = vOv (vTk6 V e t h q co) q := ⟨_, rfl⟩
    rw [← ho]
    have f1 := fr _ (70 + 5 * e) (nI 1) w0 s0 (by omega)
    have f2 := fr _ (71 + 5 * e) co f1.1 f1.2 (by omega)
    have f3 := fr _ 173 co f2.1 f2.2 (by omega)
    have f4 := fr _ (139 + (4 * t + h)) (nI 1) f3.1 f3.2 (by omega)
    have f5 := fr _ (127 + q) (nI 1) f4.1 f4.2 (by omega)
    have f6 := fr _ (131 + q) o f5.1 f5.2 (by omega)
    have f7 := fr _ (135 + q) o f6.1 f6.2 (by omega)
    refine ⟨f7.1, ⟨T' + 1, by omega, ?_, fun j hj => ?_⟩, f7.2⟩
    · unfold vTk6
      rw [ad_o (by omega), ad_o (by omega), ad_o (by omega), ad_o (by omega), ad_o (by omega), ad_o (by omega), ad_o (by omega), a171, pk_us]
    · obtain ⟨p, e1, e2⟩ := p3 j hj
      unfold vTk6
      rw [ad_o (by omega), ad_o (by omega), ad_o (by omega)]
      by_cases z : j = 4 * t + h
      · refine ⟨p + 1, by omega, ?_⟩
        rw [z, ad_s, ad_o (by omega), ad_o (by omega), ad_o (by omega), ad_o (by omega), ← z, e2, nI_add]
      · refine ⟨p, by omega, ?_⟩
        rw [ad_o (by omega), ad_o (by omega), ad_o (by omega), ad_o (by omega), ad_o (by omega)]
        exact e2
end SV0
theorem u3_f {α : Type} {f : Nat → Nat → Nat → α} {k i j a b : Nat} {v : α} (h : ¬ (a = k ∧ b = i)) : u3 f k i j v a b = f a b := funext fun _ => if_neg (fun q => h ⟨q.1, q.2.1⟩)
def kLd (k : Nat) : Prop := k < 29 ∧ (k < 10 → k = 1 ∨ k = 3) ∧ k ≠ 10 ∧ k ≠ 11 ∧ k ≠ 12 ∧ k ≠ 20 ∧ k ≠ 21
theorem LandR_k {M M' : Nat → Nat → Nat → Int32} {i : Nat} (h : ∀ k, kLd k → M' k i = M k i) : ∀ V, LandR M i V → LandR M' i V := fun _ R => LandR_same R (fun k a b c d e f g => h k ⟨a, b, c, d, e, f, g⟩)
section SV1
variable {M M1 M2 : Nat → Nat → Nat → Int32} {s o h n : Nat} {V : Nat → Int32}
def cQ (M M' : Nat → Nat → Nat → Int32) : Prop := ∀ k i, ¬ (i = 0 ∧ (k = 0 ∨ k = 3 ∨ (11 ≤ k ∧ k < 29 ∧ k ≠ 20 ∧ k ≠ 21))) → M' k i = M k i
theorem cQ.rf {M : Nat → Nat → Nat → Int32} : cQ M M := fun _ _ _ => rfl
theorem cQ.tr {M M1 M2 : Nat → Nat → Nat → Int32} (h : cQ M M1) (g : cQ M1 M2) : cQ M M2 := fun k i q => (g k i q).trans (h k i q)
theorem cQ_look {M : Nat → Nat → Nat → Int32} {s t h : Nat} : cQ M (mLook M 0 s t h) := by
  intro k i q
  unfold mLook mK
  rw [u2_ne (fun z => q ⟨z.2, Or.inl z.1⟩), u2_ne (fun z => q ⟨z.2, Or.inr (Or.inr (by omega))⟩), u2_ne (fun z => q ⟨z.2, Or.inr (Or.inr (by omega))⟩)]
theorem cQ_u3 {M : Nat → Nat → Nat → Int32} {k j : Nat} {x : Int32} (h : k = 0 ∨ k = 3 ∨ (11 ≤ k ∧ k < 29 ∧ k ≠ 20 ∧ k ≠ 21)) : cQ M (u3 M k 0 j x) := by
  intro a i q
  funext c
  unfold u3
  rw [if_neg (fun z => q ⟨z.2.1, by rw [z.1]; exact h⟩)]
theorem cQ_u2 {M : Nat → Nat → Nat → Int32} {k : Nat} {S : Nat → Int32} (h : k = 0 ∨ k = 3 ∨ (11 ≤ k ∧ k < 29 ∧ k ≠ 20 ∧ k ≠ 21)) : cQ M (u2 M k 0 S) := by
  intro a i q
  exact u2_ne (fun z => q ⟨z.2, by rw [z.1]; exact h⟩)
theorem mSave_o {k a : Nat} (h1 : a ≠ 4 + (o + h) % 6) (h2 : ¬ (k = 2 ∧ a = 0)) (h3 : ¬ (k = 30 ∧ a = 1)) : mSave M o h 0 k a = M k a := by
  have e : z_landOf 1 ((o + h) % 6) = 4 + (o + h) % 6 := if_neg (by decide)
  unfold mSave mPut
  split
  · rw [u3_f h2, u3_f h3, e, mCpL_ne h1]
  · rw [u3_f h2, u3_f h3, e, mCpL_ne h1]
theorem mSave_l (R : LandR M 0 V) : LandR (mSave M o h 0) (4 + (o + h) % 6) V := by
  have e : z_landOf 1 ((o + h) % 6) = 4 + (o + h) % 6 := if_neg (by decide)
  have R1 : LandR (mCpL M (4 + (o + h) % 6) 0) (4 + (o + h) % 6) V := LandR_cp R (by omega)
  refine LandR_k (fun k hk => ?_) V R1
  have k1 := hk.1
  unfold mSave mPut
  split
  · rw [u3_f (by omega), u3_f (by omega), e]
  · rw [u3_f (by omega), u3_f (by omega), e]
def rO (o h : Nat) : Nat := if h < 6 then o else (o + 1) % 6
theorem mSave_2 (F : zF M s o h n) : mSave M o h 0 2 0 1 = nI (rO o h) ∧ mSave M o h 0 2 0 2 = nI (rSv h) := by
  have h6 := F.h6
  unfold mSave rO rSv
  split
  · exact ⟨by rw [u3_nj (by decide), mPut_1]; exact F.ho, u3_self⟩
  · refine ⟨u3_self, ?_⟩
    rw [u3_nj (by decide), mPut_1, F.hh]
    congr 1
    omega
def cS (M M' : Nat → Nat → Nat → Int32) : Prop := ∀ k i, (i ≠ 0 ∨ 29 ≤ k ∨ k = 2 ∨ k = 8 ∨ k = 10) → M' k i = M k i
theorem cS.rf : cS M M := fun _ _ _ => rfl
theorem cQ.S (h : cQ M M1) : cS M M1 := fun k i q => h k i (by omega)
theorem cS_u3 {k j : Nat} {x : Int32} (h : k < 29 ∧ k ≠ 2 ∧ k ≠ 8 ∧ k ≠ 10) : cS M (u3 M k 0 j x) := fun a i q => u3_f (by omega)
theorem cS_u2 {k : Nat} {S : Nat → Int32} (h : k < 29 ∧ k ≠ 2 ∧ k ≠ 8 ∧ k ≠ 10) : cS M (u2 M k 0 S) := fun a i q => u2_ne (by omega)
theorem cS.tr (h : cS M M1) (g : cS M1 M2) : cS M M2 := fun k i q => (g k i q).trans (h k i q)
end SV1
theorem LandR_ad {M : Nat → Nat → Nat → Int32} {i k j : Nat} {V : Nat → Int32} {x : Int32} (R : LandR M i V) (h : dmK k j = true) (h27 : k ≠ 27) : LandR (u3 M k i j (M k i j + x)) i (ad V (plK k j) x) := by
  have e := (LandR_iff.mp R).1 k j h
  rw [e]
  exact LandR_u3 R h h27
theorem LandR_look {M : Nat → Nat → Nat → Int32} {s t h : Nat} {V : Nat → Int32} (R : LandR M 0 V) : LandR (mLook M 0 s t h) 0 V := LandR_same R (fun k hk h1 _ h3 h4 _ _ => mLook_s k 0 (fun z => by rcases h1 (by omega) with q | q <;> omega) h3 h4)
theorem take_row {V : Nat → Int32} {e t h q : Nat} {co : Int32} (he : e < 8) (ht : t < 8) (hh : h < 4) (hq : q < 4) :
    ad (if ad (ad (ad (ad V 171 (nI 1)) 173 co) (70 + 5 * e) (nI 1)) (71 + 5 * e) co (127 + q) + nI 1 ≤ ad (ad (ad (ad V 171 (nI 1)) 173 co) (70 + 5 * e) (nI 1)) (71 + 5 * e) co (123 + q) then ad (ad (ad (ad (ad V 171 (nI 1)) 173 co) (70 + 5 * e) (nI 1)) (71 + 5 * e) co) (127 + q) (nI 1) else ad (ad (ad (ad (ad (ad (ad V 171 (nI 1)) 173 co) (70 + 5 * e) (nI 1)) (71 + 5 * e) co) (127 + q) (nI 1)) (131 + q) (nI 1)) (135 + q) (nI 1)) (139 + (4 * t + h)) (nI 1) = vTake V e t h q co := by
  have e1 : ad (ad (ad (ad V 171 (nI 1)) 173 co) (70 + 5 * e) (nI 1)) (71 + 5 * e) co = ad (ad (ad (ad V 171 (nI 1)) (70 + 5 * e) (nI 1)) (71 + 5 * e) co) 173 co := by
    rw [ad_com (S := ad V 171 (nI 1)) (p := 173) (q := 70 + 5 * e) (by omega), ad_com (p := 173) (q := 71 + 5 * e) (by omega)]
  rw [e1]
  have e6 : vTk6 V e t h q co = ad (ad (ad (ad (ad (ad V 171 (nI 1)) (70 + 5 * e) (nI 1)) (71 + 5 * e) co) 173 co) (139 + (4 * t + h)) (nI 1)) (127 + q) (nI 1) := rfl
  obtain ⟨U, hU⟩ : ∃ U, U = ad (ad (ad (ad V 171 (nI 1)) (70 + 5 * e) (nI 1)) (71 + 5 * e) co) 173 co := ⟨_, rfl⟩
  rw [← hU] at e6 ⊢
  have o1 : vTk6 V e t h q co (127 + q) = U (127 + q) + nI 1 := by rw [e6, ad_s, ad_o (by omega)]
  have o2 : vTk6 V e t h q co (123 + q) = U (123 + q) := by rw [e6, ad_o (by omega), ad_o (by omega)]
  have ev : vTake V e t h q co = ad (ad (vTk6 V e t h q co) (131 + q) (vOv (vTk6 V e t h q co) q)) (135 + q) (vOv (vTk6 V e t h q co) q) := rfl
  have eo : vOv (vTk6 V e t h q co) q = if U (127 + q) + nI 1 ≤ U (123 + q) then nI 0 else nI 1 := by
    unfold vOv
    rw [o1, o2]
  rw [ev, eo]
  by_cases l : U (127 + q) + nI 1 ≤ U (123 + q)
  · rw [if_pos l, if_pos l, ad_0, ad_0, e6, ad_com (p := 127 + q) (q := 139 + (4 * t + h)) (by omega)]
  · rw [if_neg l, if_neg l, e6, ad_com (S := U) (p := 139 + (4 * t + h)) (q := 127 + q) (by omega), ad_com (p := 135 + q) (q := 139 + (4 * t + h)) (by omega), ad_com (p := 131 + q) (q := 139 + (4 * t + h)) (by omega)]
theorem LandR_take {L : Nat → Nat → Nat → Int32} {V : Nat → Int32} {e t h q : Nat} {co : Int32} (R : LandR L 0 V) (he : e < 8) (ht : t < 8) (hh : h < 4) (hq : q < 4) : LandR (mLtake L 0 e q (4 * t + h) co) 0 (vTake V e t h q co) := by
  have R1 := LandR_ad (x := nI 1) R (show dmK 3 5 = true from rfl) (by decide)
  have R2 := LandR_ad (x := co) R1 (show dmK 3 7 = true from rfl) (by decide)
  have R3 := LandR_ad (x := nI 1) R2 (show dmK 16 e = true from decide_eq_true (by omega)) (by decide)
  have R4 := LandR_ad (x := co) R3 (show dmK 17 e = true from decide_eq_true (by omega)) (by decide)
  rw [show u3 (u3 (u3 L 3 0 5 (L 3 0 5 + nI 1)) 3 0 7 (u3 L 3 0 5 (L 3 0 5 + nI 1) 3 0 7 + co)) 16 0 e (u3 (u3 L 3 0 5 (L 3 0 5 + nI 1)) 3 0 7 (u3 L 3 0 5 (L 3 0 5 + nI 1) 3 0 7 + co) 16 0 e + nI 1) 17 0 e = u3 (u3 L 3 0 5 (L 3 0 5 + nI 1)) 3 0 7 (u3 L 3 0 5 (L 3 0 5 + nI 1) 3 0 7 + co) 17 0 e from u3_nk (by decide)] at R4
  rw [← take_row he ht hh hq]
  unfold mLtake
  obtain ⟨M3, h3⟩ : ∃ M3, M3 = u3 (u3 (u3 (u3 L 3 0 5 (L 3 0 5 + nI 1)) 3 0 7 (u3 L 3 0 5 (L 3 0 5 + nI 1) 3 0 7 + co)) 16 0 e (u3 (u3 L 3 0 5 (L 3 0 5 + nI 1)) 3 0 7 (u3 L 3 0 5 (L 3 0 5 + nI 1) 3 0 7 + co) 16 0 e + nI 1)) 17 0 e (u3 (u3 L 3 0 5 (L 3 0 5 + nI 1)) 3 0 7 (u3 L 3 0 5 (L 3 0 5 + nI 1) 3 0 7 + co) 17 0 e + co) := ⟨_, rfl⟩
  rw [← h3] at R4
  dsimp only
  rw [← h3]
  have R4' : LandR M3 0 (ad (ad (ad (ad V 171 (nI 1)) 173 co) (70 + 5 * e) (nI 1)) (71 + 5 * e) co) := R4
  obtain ⟨U, hU⟩ : ∃ U, U = ad (ad (ad (ad V 171 (nI 1)) 173 co) (70 + 5 * e) (nI 1)) (71 + 5 * e) co := ⟨_, rfl⟩
  rw [← hU] at R4' ⊢
  have d24 : dmK 24 q = true := decide_eq_true (by omega)
  have d25 : dmK 25 q = true := decide_eq_true (by omega)
  have d26 : dmK 26 q = true := decide_eq_true (by omega)
  have v24 : M3 24 0 q = U (127 + q) := (LandR_iff.mp R4').1 24 q d24
  have v23 : M3 23 0 q = U (123 + q) := (LandR_iff.mp R4').1 23 q (decide_eq_true (by omega))
  have d19 : dmK 19 (4 * t + h) = true := decide_eq_true (by omega)
  unfold mNtake
  have R5 := LandR_ad (x := nI 1) R4' d24 (by decide)
  by_cases l : U (127 + q) + nI 1 ≤ U (123 + q)
  · rw [if_pos l, if_pos (by rw [v24, v23]; exact l)]
    exact LandR_ad (x := nI 1) R5 d19 (by decide)
  · rw [if_neg l, if_neg (by rw [v24, v23]; exact l)]
    have R6 := LandR_ad (x := nI 1) R5 d25 (by decide)
    have R7 := LandR_ad (x := nI 1) R6 d26 (by decide)
    rw [show u3 M3 24 0 q (M3 24 0 q + nI 1) 25 0 q = M3 25 0 q from u3_nk (by decide), show u3 (u3 M3 24 0 q (M3 24 0 q + nI 1)) 25 0 q (M3 25 0 q + nI 1) 26 0 q = M3 26 0 q from (u3_nk (by decide)).trans (u3_nk (by decide))] at R7
    exact LandR_ad (x := nI 1) R7 d19 (by decide)
theorem cQ_take {L : Nat → Nat → Nat → Int32} {e q p : Nat} {co : Int32} : cQ L (mLtake L 0 e q p co) := by
  unfold mLtake mNtake
  dsimp only
  have a1 : cQ L (u3 L 3 0 5 (L 3 0 5 + nI 1)) := cQ_u3 (by omega)
  refine cQ.tr a1 ?_
  refine cQ.tr (cQ_u3 (k := 3) (j := 7) (x := u3 L 3 0 5 (L 3 0 5 + nI 1) 3 0 7 + co) (by omega)) ?_
  refine cQ.tr (cQ_u3 (k := 16) (j := e) (x := u3 (u3 L 3 0 5 (L 3 0 5 + nI 1)) 3 0 7 (u3 L 3 0 5 (L 3 0 5 + nI 1) 3 0 7 + co) 16 0 e + nI 1) (by omega)) ?_
  refine cQ.tr (cQ_u3 (k := 17) (j := e) (x := u3 (u3 L 3 0 5 (L 3 0 5 + nI 1)) 3 0 7 (u3 L 3 0 5 (L 3 0 5 + nI 1) 3 0 7 + co) 17 0 e + co) (by omega)) ?_
  split
  · exact (cQ_u3 (by omega)).tr (cQ_u3 (by omega))
  · exact (((cQ_u3 (by omega)).tr (cQ_u3 (by omega))).tr (cQ_u3 (by omega))).tr (cQ_u3 (by omega))
section SV2
variable {w : zWp} {d s t h n a : Nat} {M : Nat → Nat → Nat → Int32} {O : Nat → Int64} {V : Nat → Int32}
theorem c_sendV (R : LandR M 0 V) (W : WFV V) (hs : V 66 = nI s) (h8 : s ≤ 8) (ht : t < 8) (hh : h < 4) : ∃ M', cQ M M' ∧ LandR M' 0 (vSnd V s t h) ∧ zC w mX9_sendLoaf (d + 4) [vR 9 0, vI (nI t), vI (nI h)] (zP M O) (zrI (vCho (vDi V) V s t h)) (zP M' O) := by
  have ms : M 1 0 5 = nI s := R.2.2.1.trans hs
  have hx := kEx_v R W hs h8 ht hh
  have RL : LandR (mLook M 0 s t h) 0 V := LandR_look R
  unfold vSnd
  rcases vCho_in2 W hs h8 ht hh with z | ⟨e, he, z⟩
  · rw [z] at hx ⊢
    rw [if_pos (by decide)]
    have l3 : mLook M 0 s t h 3 0 = M 3 0 := mLook_s 3 0 (by decide) (by decide) (by decide)
    have R1 := LandR_ad (x := nI 1) RL (show dmK 3 5 = true from rfl) (by decide)
    have R2 := LandR_ad (x := nI 1) R1 (show dmK 3 6 = true from rfl) (by decide)
    rw [show u3 (mLook M 0 s t h) 3 0 5 (mLook M 0 s t h 3 0 5 + nI 1) 3 0 6 = mLook M 0 s t h 3 0 6 from u3_nj (by decide), l3] at R2
    refine ⟨_, ?_, R2, c_sendN ms h8 ht hh hx⟩
    exact (cQ_look.tr (cQ_u3 (by omega))).tr (cQ_u3 (by omega))
  · obtain ⟨_, ⟨q, hq, eq⟩, _⟩ := vEx W hs h8 he
    have hn : M 14 0 e = nI q := (R.2.2.2.1.2.1 e (by omega)).trans eq
    have hc := kCo_v R W hs h8 ht hh
    rw [z] at hx ⊢
    rw [if_neg (nI_pos (by omega)), nI_clamp (by omega), vNe_of hq eq, ← hc]
    refine ⟨_, cQ_look.tr cQ_take, LandR_take RL (by omega) ht hh hq, c_sendE ms h8 ht hh hx he hq hn⟩
end SV2
section SV3
variable {M M1 : Nat → Nat → Nat → Int32} {s o h n : Nat} {V : Nat → Int32}
theorem zE_1 : xIOOB ≠ xIA := by decide +kernel
theorem zE_2 : xIOOB ≠ xIS := by decide +kernel
theorem zE_3 : xIA ≠ xIS := by decide +kernel
theorem svR (R : LandR M 0 V) : LandR (mSave M o h 0) 0 V := LandR_k (fun k hk => mSave_0 (fun z => by have := hk.2.1 (by omega); omega)) V R
theorem zok_ex {x : Int32} {k : Nat} (hk : k < 2 ^ 31) (h : z_ok x k = true) : ∃ a, a < k ∧ x = nI a := z_ok_of h hk
theorem zok_ff {p q : Bool} (h : ¬ (p && q) = true) : (p && q) = false := by rw [Bool.not_eq_true] at h; exact h
theorem zok_f {p : Bool} (h : ¬ p = true) : p = false := by rw [Bool.not_eq_true] at h; exact h
theorem upd_idV {V : Nat → Int32} {p : Nat} {x : Int32} (h : V p = x) : upd V p x = V := by
  funext j
  unfold upd
  by_cases e : j = p
  · rw [if_pos e, e, h]
  · rw [if_neg e]
theorem z8_in {V : Nat → Int32} {j : Nat} (h1 : 127 ≤ j) (h2 : j < 135) : z8 V j = nI 0 := by
  obtain e | e | e | e | e | e | e | e : j = 127 ∨ j = 128 ∨ j = 129 ∨ j = 130 ∨ j = 131 ∨ j = 132 ∨ j = 133 ∨ j = 134 := by omega
  all_goals (subst e; rfl)
theorem z8_o {V : Nat → Int32} {j : Nat} (h : j < 127 ∨ 135 ≤ j) : z8 V j = V j := by
  unfold z8
  rw [upd_o (by omega), upd_o (by omega), upd_o (by omega), upd_o (by omega), upd_o (by omega), upd_o (by omega), upd_o (by omega), upd_o (by omega)]
theorem plK_8a : ∀ k, k < 30 → ∀ j, j < 64 → dmK k j = true → (k = 24 ∨ k = 25) ∨ (plK k j < 127 ∨ 135 ≤ plK k j) := by decide +kernel
theorem plK_8 (k : Nat) (hk : k < 30) (j : Nat) (hj : j < 64) (h : dmK k j = true) (h1 : k ≠ 24) (h2 : k ≠ 25) : plK k j < 127 ∨ 135 ≤ plK k j := (plK_8a k hk j hj h).elim (fun q => absurd q (fun z => z.elim h1 h2)) id
theorem LandR_z8 {N : Nat → Nat → Nat → Int32} {f g : Nat → Int32} (R : LandR N 0 V) : LandR (u2 (u2 N 25 0 (xfl (fun _ => nI 0) f 4)) 24 0 (xfl (fun _ => nI 0) g 4)) 0 (z8 V) := by
  obtain ⟨r, r18⟩ := LandR_iff.mp R
  refine LandR_iff.mpr ⟨fun k j h => ?_, fun j hj => ?_⟩
  · obtain ⟨b1, b2⟩ := dmK_lt h
    by_cases e24 : k = 24
    · subst e24
      have hj : j < 4 := of_decide_eq_true h
      rw [u2_self, xfl_in hj]
      exact (z8_in (j := 127 + j) (by omega) (by omega)).symm
    · by_cases e25 : k = 25
      · subst e25
        have hj : j < 4 := of_decide_eq_true h
        rw [u2_ne (by omega), u2_self, xfl_in hj]
        exact (z8_in (j := 131 + j) (by omega) (by omega)).symm
      · rw [u2_ne (by omega), u2_ne (by omega), r k j h, z8_o (plK_8 k b1 j b2 h e24 e25)]
  · rw [u2_ne (by omega), u2_ne (by omega), r18 j hj]
    refine fw_cong (fun c hc => ?_) j hj
    exact (z8_o (by omega)).symm
theorem WF_z8 (W : WFV V) (P : WFP V) (hs : V 66 = nI s) (h8 : s ≤ 8) : WFV (z8 V) ∧ WFP (z8 V) := by
  have fr : ∀ (U : Nat → Int32) (p : Nat) (x : Int32), (WFV U ∧ U 66 = nI s) ∧ WFP U → (127 ≤ p ∧ p < 135) → (WFV (upd U p x) ∧ upd U p x 66 = nI s) ∧ WFP (upd U p x) := fun U p x q hp => ⟨⟨WFV_free q.1.1 q.1.2 h8 (by omega), (upd_o (by omega)).trans q.1.2⟩, WFP_free q.2 (by omega)⟩
  unfold z8
  have f := fr _ (131 + 3) (nI 0) (fr _ (127 + 3) (nI 0) (fr _ (131 + 2) (nI 0) (fr _ (127 + 2) (nI 0) (fr _ (131 + 1) (nI 0) (fr _ (127 + 1) (nI 0) (fr _ (131 + 0) (nI 0) (fr V (127 + 0) (nI 0) ⟨⟨W, hs⟩, P⟩ (by omega)) (by omega)) (by omega)) (by omega)) (by omega)) (by omega)) (by omega)) (by omega)
  exact ⟨f.1.1, f.2⟩
theorem mCpL_k {M : Nat → Nat → Nat → Int32} {i j k a : Nat} (h : a ≠ i ∨ 29 ≤ k ∨ k = 2 ∨ k = 8 ∨ k = 10) : mCpL M i j k a = M k a := by
  unfold mCpL mCpN mCpE mCpR
  dsimp only
  rw [u3_f (by omega), u3_f (by omega), u3_f (by omega)]
  repeat rw [u2_ne (by omega)]
  rw [u3_f (by omega)]
  repeat rw [u2_ne (by omega)]
end SV3

