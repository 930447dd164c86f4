/-! The class sends a loaf and does a day's orders, told by the row. -/
theorem LandR_ad {M : Nat → Nat → Nat → Int32} {i k j : Nat} {V : Nat → Int32} {x : Int32} (R : LandR M i V) (h : dmK k j = true) (h27 : k ≠ 27) : LandR (u3 M k i j (M k i j + x)) i (ad V (plK k j) x) := by
  have e := (LandR_iff.mp R).1 k j h
  rw [e]
  exact LandR_u3 R h h27
/-- the same but for the land of now and what a look writes -/
def cQ (M M' : Nat → Nat → Nat → Int32) : Prop := ∀ k i, ¬ (i = 0 ∧ (k = 0 ∨ k = 3 ∨ (11 ≤ k ∧ k < 29 ∧ k ≠ 20 ∧ k ≠ 21))) → M' k i = M k i
theorem cQ.rf {M : Nat → Nat → Nat → Int32} : cQ M M := fun _ _ _ => rfl
theorem cQ.tr {M M1 M2 : Nat → Nat → Nat → Int32} (h : cQ M M1) (g : cQ M1 M2) : cQ M M2 := fun k i q => (g k i q).trans (h k i q)
theorem cQ_look {M : Nat → Nat → Nat → Int32} {s t h : Nat} : cQ M (mLook M 0 s t h) := by
  intro k i q
  unfold mLook mK
  rw [u2_ne (fun z => q ⟨z.2, Or.inl z.1⟩), u2_ne (fun z => q ⟨z.2, Or.inr (Or.inr (by omega))⟩), u2_ne (fun z => q ⟨z.2, Or.inr (Or.inr (by omega))⟩)]
theorem cQ_u3 {M : Nat → Nat → Nat → Int32} {k j : Nat} {x : Int32} (h : k = 0 ∨ k = 3 ∨ (11 ≤ k ∧ k < 29 ∧ k ≠ 20 ∧ k ≠ 21)) : cQ M (u3 M k 0 j x) := by
  intro a i q
  funext c
  unfold u3
  rw [if_neg (fun z => q ⟨z.2.1, by rw [z.1]; exact h⟩)]
theorem cQ_u2 {M : Nat → Nat → Nat → Int32} {k : Nat} {S : Nat → Int32} (h : k = 0 ∨ k = 3 ∨ (11 ≤ k ∧ k < 29 ∧ k ≠ 20 ∧ k ≠ 21)) : cQ M (u2 M k 0 S) := by
  intro a i q
  exact u2_ne (fun z => q ⟨z.2, by rw [z.1]; exact h⟩)
theorem LandR_look {M : Nat → Nat → Nat → Int32} {s t h : Nat} {V : Nat → Int32} (R : LandR M 0 V) : LandR (mLook M 0 s t h) 0 V := LandR_same R (fun k hk h1 _ h3 h4 _ _ => mLook_s k 0 (fun z => by rcases h1 (by omega) with q | q <;> omega) h3 h4)
theorem take_row {V : Nat → Int32} {e t h q : Nat} {co : Int32} (he : e < 8) (ht : t < 8) (hh : h < 4) (hq : q < 4) :
    ad (if ad (ad (ad (ad V 171 (nI 1)) 173 co) (70 + 5 * e) (nI 1)) (71 + 5 * e) co (127 + q) + nI 1 ≤ ad (ad (ad (ad V 171 (nI 1)) 173 co) (70 + 5 * e) (nI 1)) (71 + 5 * e) co (123 + q) then ad (ad (ad (ad (ad V 171 (nI 1)) 173 co) (70 + 5 * e) (nI 1)) (71 + 5 * e) co) (127 + q) (nI 1) else ad (ad (ad (ad (ad (ad (ad V 171 (nI 1)) 173 co) (70 + 5 * e) (nI 1)) (71 + 5 * e) co) (127 + q) (nI 1)) (131 + q) (nI 1)) (135 + q) (nI 1)) (139 + (4 * t + h)) (nI 1) = vTake V e t h q co := by
  have e1 : ad (ad (ad (ad V 171 (nI 1)) 173 co) (70 + 5 * e) (nI 1)) (71 + 5 * e) co = ad (ad (ad (ad V 171 (nI 1)) (70 + 5 * e) (nI 1)) (71 + 5 * e) co) 173 co := by
    rw [ad_com (S := ad V 171 (nI 1)) (p := 173) (q := 70 + 5 * e) (by omega), ad_com (p := 173) (q := 71 + 5 * e) (by omega)]
  rw [e1]
  have e6 : vTk6 V e t h q co = ad (ad (ad (ad (ad (ad V 171 (nI 1)) (70 + 5 * e) (nI 1)) (71 + 5 * e) co) 173 co) (139 + (4 * t + h)) (nI 1)) (127 + q) (nI 1) := rfl
  obtain ⟨U, hU⟩ : ∃ U, U = ad (ad (ad (ad V 171 (nI 1)) (70 + 5 * e) (nI 1)) (71 + 5 * e) co) 173 co := ⟨_, rfl⟩
  rw [← hU] at e6 ⊢
  have o1 : vTk6 V e t h q co (127 + q) = U (127 + q) + nI 1 := by rw [e6, ad_s, ad_o (by omega)]
  have o2 : vTk6 V e t h q co (123 + q) = U (123 + q) := by rw [e6, ad_o (by omega), ad_o (by omega)]
  have ev : vTake V e t h q co = ad (ad (vTk6 V e t h q co) (131 + q) (vOv (vTk6 V e t h q co) q)) (135 + q) (vOv (vTk6 V e t h q co) q) := rfl
  have eo : vOv (vTk6 V e t h q co) q = if U (127 + q) + nI 1 ≤ U (123 + q) then nI 0 else nI 1 := by
    unfold vOv
    rw [o1, o2]
  rw [ev, eo]
  by_cases l : U (127 + q) + nI 1 ≤ U (123 + q)
  · rw [if_pos l, if_pos l, ad_0, ad_0, e6, ad_com (p := 127 + q) (q := 139 + (4 * t + h)) (by omega)]
  · rw [if_neg l, if_neg l, e6, ad_com (S := U) (p := 139 + (4 * t + h)) (q := 127 + q) (by omega), ad_com (p := 135 + q) (q := 139 + (4 * t + h)) (by omega), ad_com (p := 131 + q) (q := 139 + (4 * t + h)) (by omega)]
theorem LandR_take {L : Nat → Nat → Nat → Int32} {V : Nat → Int32} {e t h q : Nat} {co : Int32} (R : LandR L 0 V) (he : e < 8) (ht : t < 8) (hh : h < 4) (hq : q < 4) : LandR (mLtake L 0 e q (4 * t + h) co) 0 (vTake V e t h q co) := by
  have R1 := LandR_ad (x := nI 1) R (show dmK 3 5 = true from rfl) (by decide)
  have R2 := LandR_ad (x := co) R1 (show dmK 3 7 = true from rfl) (by decide)
  have R3 := LandR_ad (x := nI 1) R2 (show dmK 16 e = true from decide_eq_true (by omega)) (by decide)
  have R4 := LandR_ad (x := co) R3 (show dmK 17 e = true from decide_eq_true (by omega)) (by decide)
  rw [show u3 (u3 (u3 L 3 0 5 (L 3 0 5 + nI 1)) 3 0 7 (u3 L 3 0 5 (L 3 0 5 + nI 1) 3 0 7 + co)) 16 0 e (u3 (u3 L 3 0 5 (L 3 0 5 + nI 1)) 3 0 7 (u3 L 3 0 5 (L 3 0 5 + nI 1) 3 0 7 + co) 16 0 e + nI 1) 17 0 e = u3 (u3 L 3 0 5 (L 3 0 5 + nI 1)) 3 0 7 (u3 L 3 0 5 (L 3 0 5 + nI 1) 3 0 7 + co) 17 0 e from u3_nk (by decide)] at R4
  rw [← take_row he ht hh hq]
  unfold mLtake
  obtain ⟨M3, h3⟩ : ∃ M3, M3 = u3 (u3 (u3 (u3 L 3 0 5 (L 3 0 5 + nI 1)) 3 0 7 (u3 L 3 0 5 (L 3 0 5 + nI 1) 3 0 7 + co)) 16 0 e (u3 (u3 L 3 0 5 (L 3 0 5 + nI 1)) 3 0 7 (u3 L 3 0 5 (L 3 0 5 + nI 1) 3 0 7 + co) 16 0 e + nI 1)) 17 0 e (u3 (u3 L 3 0 5 (L 3 0 5 + nI 1)) 3 0 7 (u3 L 3 0 5 (L 3 0 5 + nI 1) 3 0 7 + co) 17 0 e + co) := ⟨_, rfl⟩
  rw [← h3] at R4
  dsimp only
  rw [← h3]
  have R4' : LandR M3 0 (ad (ad (ad (ad V 171 (nI 1)) 173 co) (70 + 5 * e) (nI 1)) (71 + 5 * e) co) := R4
  obtain ⟨U, hU⟩ : ∃ U, U = ad (ad (ad (ad V 171 (nI 1)) 173 co) (70 + 5 * e) (nI 1)) (71 + 5 * e) co := ⟨_, rfl⟩
  rw [← hU] at R4' ⊢
  have d24 : dmK 24 q = true := decide_eq_true (by omega)
  have d25 : dmK 25 q = true := decide_eq_true (by omega)
  have d26 : dmK 26 q = true := decide_eq_true (by omega)
  have v24 : M3 24 0 q = U (127 + q) := (LandR_iff.mp R4').1 24 q d24
  have v23 : M3 23 0 q = U (123 + q) := (LandR_iff.mp R4').1 23 q (decide_eq_true (by omega))
  have d19 : dmK 19 (4 * t + h) = true := decide_eq_true (by omega)
  unfold mNtake
  have R5 := LandR_ad (x := nI 1) R4' d24 (by decide)
  by_cases l : U (127 + q) + nI 1 ≤ U (123 + q)
  · rw [if_pos l, if_pos (by rw [v24, v23]; exact l)]
    exact LandR_ad (x := nI 1) R5 d19 (by decide)
  · rw [if_neg l, if_neg (by rw [v24, v23]; exact l)]
    have R6 := LandR_ad (x := nI 1) R5 d25 (by decide)
    have R7 := LandR_ad (x := nI 1) R6 d26 (by decide)
    rw [show u3 M3 24 0 q (M3 24 0 q + nI 1) 25 0 q = M3 25 0 q from u3_nk (by decide), show u3 (u3 M3 24 0 q (M3 24 0 q + nI 1)) 25 0 q (M3 25 0 q + nI 1) 26 0 q = M3 26 0 q from (u3_nk (by decide)).trans (u3_nk (by decide))] at R7
    exact LandR_ad (x := nI 1) R7 d19 (by decide)
theorem cQ_take {L : Nat → Nat → Nat → Int32} {e q p : Nat} {co : Int32} : cQ L (mLtake L 0 e q p co) := by
  unfold mLtake mNtake
  dsimp only
  have a1 : cQ L (u3 L 3 0 5 (L 3 0 5 + nI 1)) := cQ_u3 (by omega)
  refine cQ.tr a1 ?_
  refine cQ.tr (cQ_u3 (k := 3) (j := 7) (x := u3 L 3 0 5 (L 3 0 5 + nI 1) 3 0 7 + co) (by omega)) ?_
  refine cQ.tr (cQ_u3 (k := 16) (j := e) (x := u3 (u3 L 3 0 5 (L 3 0 5 + nI 1)) 3 0 7 (u3 L 3 0 5 (L 3 0 5 + nI 1) 3 0 7 + co) 16 0 e + nI 1) (by omega)) ?_
  refine cQ.tr (cQ_u3 (k := 17) (j := e) (x := u3 (u3 L 3 0 5 (L 3 0 5 + nI 1)) 3 0 7 (u3 L 3 0 5 (L 3 0 5 + nI 1) 3 0 7 + co) 17 0 e + co) (by omega)) ?_
  split
  · exact (cQ_u3 (by omega)).tr (cQ_u3 (by omega))
  · exact (((cQ_u3 (by omega)).tr (cQ_u3 (by omega))).tr (cQ_u3 (by omega))).tr (cQ_u3 (by omega))
/-- the typed text of the class -/
def cTx (M : Nat → Nat → Nat → Int32) (C : Nat → Nat) (n : Nat) : Prop := M 8 0 1 = nI n ∧ n ≤ 60 ∧ ∀ j, j < n → M 31 0 j = nI (C j) ∧ C j ≤ 126
theorem cTx_cQ {M M' : Nat → Nat → Nat → Int32} {C : Nat → Nat} {n : Nat} (X : cTx M C n) (h : cQ M M') : cTx M' C n := ⟨by rw [h 8 0 (by omega)]; exact X.1, X.2.1, fun j hj => by rw [h 31 0 (by omega)]; exact X.2.2 j hj⟩
section L25
variable {w : zWp} {d s t h n a : Nat} {M : Nat → Nat → Nat → Int32} {O : Nat → Int64} {V : Nat → Int32} {C : Nat → Nat}
theorem c_sendV (R : LandR M 0 V) (W : WFV V) (hs : V 66 = nI s) (h8 : s ≤ 8) (ht : t < 8) (hh : h < 4) : ∃ M', cQ M M' ∧ LandR M' 0 (vSnd V s t h) ∧ zC w mX9_sendLoaf (d + 4) [vR 9 0, vI (nI t), vI (nI h)] (zP M O) (zrI (vCho (vDi V) V s t h)) (zP M' O) := by
  have ms : M 1 0 5 = nI s := R.2.2.1.trans hs
  have hx := kEx_v R W hs h8 ht hh
  have RL : LandR (mLook M 0 s t h) 0 V := LandR_look R
  unfold vSnd
  rcases vCho_in2 W hs h8 ht hh with z | ⟨e, he, z⟩
  · rw [z] at hx ⊢
    rw [if_pos (by decide)]
    have l3 : mLook M 0 s t h 3 0 = M 3 0 := mLook_s 3 0 (by decide) (by decide) (by decide)
    have R1 := LandR_ad (x := nI 1) RL (show dmK 3 5 = true from rfl) (by decide)
    have R2 := LandR_ad (x := nI 1) R1 (show dmK 3 6 = true from rfl) (by decide)
    rw [show u3 (mLook M 0 s t h) 3 0 5 (mLook M 0 s t h 3 0 5 + nI 1) 3 0 6 = mLook M 0 s t h 3 0 6 from u3_nj (by decide), l3] at R2
    refine ⟨_, ?_, R2, c_sendN ms h8 ht hh hx⟩
    exact (cQ_look.tr (cQ_u3 (by omega))).tr (cQ_u3 (by omega))
  · obtain ⟨_, ⟨q, hq, eq⟩, _⟩ := vEx W hs h8 he
    have hn : M 14 0 e = nI q := (R.2.2.2.1.2.1 e (by omega)).trans eq
    have hc := kCo_v R W hs h8 ht hh
    rw [z] at hx ⊢
    rw [if_neg (nI_pos (by omega)), nI_clamp (by omega), vNe_of hq eq, ← hc]
    refine ⟨_, cQ_look.tr cQ_take, LandR_take RL (by omega) ht hh hq, c_sendE ms h8 ht hh hx he hq hn⟩
theorem c_sendsN (h8 : s ≤ 8) (ht : t < 8) (hh : h < 4) {K : Nat} (hK : K ≤ 9) (R : LandR M 0 V) (W : WFV V) (P : WFP V) (hs : V 66 = nI s) :
    ∃ M', cQ M M' ∧ LandR M' 0 (vSN s t h K V).1 ∧ zC w mX9_areLoavesSent (d + 5) [vR 9 0, vI (nI t), vI (nI h), vI (nI K)] (zP M O) (zrI (zb (vSN s t h K V).2)) (zP M' O) := by
  have L : ∀ k m N U, m + k = K → LandR N 0 U → WFV U → WFP U → U 66 = nI s → ∃ M', cQ N M' ∧ LandR M' 0 (vSN s t h k U).1 ∧ zG w mX9_areLoavesSent (d + 5) 0 3 [vR 9 0, vI (nI t), vI (nI h), vI (nI K), vI (nI m)] [] (zP N O) (zrI (zb (vSN s t h k U).2)) (zP M' O) := by
    intro k
    induction k with
    | zero =>
      intro m N U hm RN WU PU us
      refine ⟨N, cQ.rf, RN, ?_⟩
      refine g_iload (n := 5) dX9_areLoavesSent_3 rfl rfl ?_
      refine g_iload_n (n := 6) dX9_areLoavesSent_5 rfl rfl ?_
      refine g_icmp_ge (n := 9) (t := 37) dX9_areLoavesSent_6 rfl (by decide) (fun _ => ?_) (fun q9 => absurd (nI_le (by omega) (by omega)) q9)
      refine g_iconst (n := 38) dX9_areLoavesSent_37 rfl k_ic_1 ?_
      exact g_ireturn dX9_areLoavesSent_38 rfl rfl rfl rfl
    | succ k ih =>
      intro m N U hm RN WU PU us
      have n1 : N 3 0 5 = U 171 := RN.2.2.2.2.2.2.1
      unfold vSN
      by_cases l : U 171 < nI 9999
      · rw [if_pos l]
        obtain ⟨w1, w2, w3⟩ := vSnd_wf WU PU us h8 ht hh l
        obtain ⟨M1, Q1, R1, cs⟩ := c_sendV (w := w) (d := d) (O := O) RN WU us h8 ht hh
        obtain ⟨M', Q', R', G⟩ := ih (m + 1) M1 _ (by omega) R1 w1 w2 w3
        refine ⟨M', Q1.tr Q', R', ?_⟩
        refine g_iload (n := 5) dX9_areLoavesSent_3 rfl rfl ?_
        refine g_iload_n (n := 6) dX9_areLoavesSent_5 rfl rfl ?_
        refine g_icmp_ge (n := 9) (t := 37) dX9_areLoavesSent_6 rfl (by decide) (fun q9 => absurd q9 (nI_ge (by omega) (by omega))) (fun _ => ?_)
        refine g_aload_n (n := 10) dX9_areLoavesSent_9 rfl rfl ?_
        refine gf_X9_10 (n := 13) dX9_areLoavesSent_10 rfl rfl (z_lvP (by first | decide | assumption)) rfl ?_
        refine gf_X9_140 (n := 16) dX9_areLoavesSent_13 rfl rfl (z_lvP (by first | decide | assumption)) ?_
        rw [n1]
        refine g_sipush (n := 19) dX9_areLoavesSent_16 rfl k_sp_9999 ?_
        refine g_icmp_lt (n := 22) (t := 24) dX9_areLoavesSent_19 rfl (by decide) (fun _ => ?_) (fun q9 => absurd l q9)
        refine g_aload_n (n := 25) dX9_areLoavesSent_24 rfl rfl ?_
        refine g_iload_n (n := 26) dX9_areLoavesSent_25 rfl rfl ?_
        refine g_iload_n (n := 27) dX9_areLoavesSent_26 rfl rfl ?_
        refine g_cVv (n := 30) cs dX9_areLoavesSent_27 rfl kw_X9_146 rfl (by decide) (z_lvP (by first | decide | assumption)) (Nat.le_of_ble_eq_true rfl) ⟨Nat.le_refl _, Nat.le_refl _⟩ ?_ rfl
        refine g_pop (n := 31) dX9_areLoavesSent_30 rfl rfl ?_
        refine g_iinc4 (n := 34) dX9_areLoavesSent_31 rfl (by decide) rfl (z_inc1 _) ?_
        refine g_goto (n := 0) (t := 3) dX9_areLoavesSent_34 (by decide) ?_
        exact G
      · rw [if_neg l]
        refine ⟨N, cQ.rf, RN, ?_⟩
        refine g_iload (n := 5) dX9_areLoavesSent_3 rfl rfl ?_
        refine g_iload_n (n := 6) dX9_areLoavesSent_5 rfl rfl ?_
        refine g_icmp_ge (n := 9) (t := 37) dX9_areLoavesSent_6 rfl (by decide) (fun q9 => absurd q9 (nI_ge (by omega) (by omega))) (fun _ => ?_)
        refine g_aload_n (n := 10) dX9_areLoavesSent_9 rfl rfl ?_
        refine gf_X9_10 (n := 13) dX9_areLoavesSent_10 rfl rfl (z_lvP (by first | decide | assumption)) rfl ?_
        refine gf_X9_140 (n := 16) dX9_areLoavesSent_13 rfl rfl (z_lvP (by first | decide | assumption)) ?_
        rw [n1]
        refine g_sipush (n := 19) dX9_areLoavesSent_16 rfl k_sp_9999 ?_
        refine g_icmp_lt (n := 22) (t := 24) dX9_areLoavesSent_19 rfl (by decide) (fun q9 => absurd q9 l) (fun _ => ?_)
        refine g_iconst (n := 23) dX9_areLoavesSent_22 rfl k_ic_0 ?_
        exact g_ireturn dX9_areLoavesSent_23 rfl rfl rfl rfl
  obtain ⟨M', Q, R', G⟩ := L K 0 M V (by omega) R W P hs
  refine ⟨M', Q, R', ?_⟩
  refine zC_of (cr := 0) (L0 := [vR 9 0, vI (nI t), vI (nI h), vI (nI K), vU]) rfl (by decide) (by decide) rfl (Nat.le_of_ble_eq_true rfl) rfl ?_
  refine g_iconst (n := 1) dX9_areLoavesSent_0 rfl k_ic_0 ?_
  refine g_istore4 (n := 3) dX9_areLoavesSent_1 rfl (by decide) rfl ?_
  exact G
theorem c_exitTurned {e : Nat} (he : e < 8) (h8 : s ≤ 8) (R : LandR M 0 V) (hs : V 66 = nI s) :
    ∃ M', cQ M M' ∧ LandR M' 0 (if e < s then (upd V (69 + 5 * e) (nI 1 - V (69 + 5 * e)), true) else (V, false)).1 ∧ zC w mX9_isExitTurned (d + 2) [vR 9 0, vI (nI e)] (zP M O) (zrI (zb (if e < s then (upd V (69 + 5 * e) (nI 1 - V (69 + 5 * e)), true) else (V, false)).2)) (zP M' O) := by
  have ms : M 1 0 5 = nI s := R.2.2.1.trans hs
  have ch := c_has (w := w) (d := d + 1) (M := M) (O := O) (i := 0) (by decide) ms h8 (nI e)
  by_cases l : e < s
  · rw [if_pos l]
    rw [z_ok_nI l (by omega)] at ch
    have cf := c_xflip (w := w) (d := d) (M := M) (O := O) (i := 0) (by decide) ms h8 l
    have r := LandR_u3 (x := nI 1 - M 15 0 e) R (show dmK 15 e = true from decide_eq_true he) (by decide)
    have ev : M 15 0 e = V (69 + 5 * e) := R.2.2.2.1.2.2.1 e he
    rw [ev] at r cf
    refine ⟨_, cQ_u3 (by omega), r, ?_⟩
    refine zC_of (cr := 0) (L0 := [vR 9 0, vI (nI e), vU]) rfl (by decide) (by decide) rfl (Nat.le_of_ble_eq_true rfl) rfl ?_
    refine g_aload_n (n := 1) dX9_isExitTurned_0 rfl rfl ?_
    refine gf_X9_10 (n := 4) dX9_isExitTurned_1 rfl rfl (z_lvP (by first | decide | assumption)) rfl ?_
    refine gf_X9_83 (n := 7) dX9_isExitTurned_4 rfl rfl (z_lvP (by first | decide | assumption)) rfl ?_
    refine g_iload_n (n := 8) dX9_isExitTurned_7 rfl rfl ?_
    refine g_cVv (n := 11) ch dX9_isExitTurned_8 rfl kw_X9_368 rfl (by decide) (z_lvP (by first | decide | assumption)) (Nat.le_of_ble_eq_true rfl) ⟨Nat.le_refl _, Nat.le_refl _⟩ ?_ rfl
    refine g_istore2 (n := 12) dX9_isExitTurned_11 rfl (by decide) rfl ?_
    refine g_aload_n (n := 13) dX9_isExitTurned_12 rfl rfl ?_
    refine gf_X9_10 (n := 16) dX9_isExitTurned_13 rfl rfl (z_lvP (by first | decide | assumption)) rfl ?_
    refine gf_X9_83 (n := 19) dX9_isExitTurned_16 rfl rfl (z_lvP (by first | decide | assumption)) rfl ?_
    refine g_iload_n (n := 20) dX9_isExitTurned_19 rfl rfl ?_
    refine g_cVn (n := 23) cf dX9_isExitTurned_20 rfl kw_X9_107 rfl (by decide) (z_lvP (by first | decide | assumption)) (Nat.le_of_ble_eq_true rfl) ⟨Nat.le_refl _, Nat.le_refl _⟩ ?_ rfl
    refine g_iload_n (n := 24) dX9_isExitTurned_23 rfl rfl ?_
    exact g_ireturn dX9_isExitTurned_24 rfl rfl rfl rfl
  · rw [if_neg l]
    have hz : z_ok (nI e) s = false := z_ok_ge (nI_le (by omega) (by omega))
    rw [hz] at ch
    refine ⟨M, cQ.rf, R, ?_⟩
    refine zC_of (cr := 0) (L0 := [vR 9 0, vI (nI e), vU]) rfl (by decide) (by decide) rfl (Nat.le_of_ble_eq_true rfl) rfl ?_
    refine g_aload_n (n := 1) dX9_isExitTurned_0 rfl rfl ?_
    refine gf_X9_10 (n := 4) dX9_isExitTurned_1 rfl rfl (z_lvP (by first | decide | assumption)) rfl ?_
    refine gf_X9_83 (n := 7) dX9_isExitTurned_4 rfl rfl (z_lvP (by first | decide | assumption)) rfl ?_
    refine g_iload_n (n := 8) dX9_isExitTurned_7 rfl rfl ?_
    refine g_cVv (n := 11) ch dX9_isExitTurned_8 rfl kw_X9_368 rfl (by decide) (z_lvP (by first | decide | assumption)) (Nat.le_of_ble_eq_true rfl) ⟨Nat.le_refl _, Nat.le_refl _⟩ ?_ rfl
    refine g_istore2 (n := 12) dX9_isExitTurned_11 rfl (by decide) rfl ?_
    refine g_aload_n (n := 13) dX9_isExitTurned_12 rfl rfl ?_
    refine gf_X9_10 (n := 16) dX9_isExitTurned_13 rfl rfl (z_lvP (by first | decide | assumption)) rfl ?_
    refine gf_X9_83 (n := 19) dX9_isExitTurned_16 rfl rfl (z_lvP (by first | decide | assumption)) rfl ?_
    refine g_iload_n (n := 20) dX9_isExitTurned_19 rfl rfl ?_
    refine g_cVn (n := 23) (c_xflipN (i := 0) (by decide) ms h8 hz) dX9_isExitTurned_20 rfl kw_X9_107 rfl (by decide) (z_lvP (by first | decide | assumption)) (Nat.le_of_ble_eq_true rfl) ⟨Nat.le_refl _, Nat.le_refl _⟩ ?_ rfl
    refine g_iload_n (n := 24) dX9_isExitTurned_23 rfl rfl ?_
    exact g_ireturn dX9_isExitTurned_24 rfl rfl rfl rfl
theorem tCode_n (X : cTx M C n) {j : Nat} (hj : j < n) : tCode (M 31 0) n j = nI (C j) := by
  unfold tCode
  rw [if_pos hj]
  exact (X.2.2 j hj).1
theorem tDig_n (X : cTx M C n) {j : Nat} (hj : j < n) (h48 : 48 ≤ C j) : tDig (M 31 0) n j = nI (C j - 48) := by
  unfold tDig
  rw [tCode_n X hj, pk_sub h48]
theorem tLoa_n (X : cTx M C n) (h : ch C n 42 (a + 4) = true → a + 5 < n ∧ 50 ≤ C (a + 5) ∧ C (a + 5) ≤ 57) : tLoa (M 31 0) n a = nI (pLo C n a) := by
  unfold tLoa pLo
  by_cases z : ch C n 42 (a + 4) = true
  · have e := of_decide_eq_true z
    obtain ⟨h1, h2, _⟩ := h z
    rw [if_pos z, tCode_n X e.1, e.2, if_pos rfl, tDig_n X h1 (by omega)]
  · rw [if_neg z, if_neg (fun q => z ?_)]
    by_cases l : a + 4 < n
    · rw [tCode_n X l] at q
      have := (X.2.2 _ l).2
      exact decide_eq_true ⟨l, (nI_eq (by omega) (by decide)).mp q⟩
    · unfold tCode at q
      rw [if_neg l] at q
      cases (nI_eq (a := 0) (b := 42) (by decide) (by decide)).mp q
theorem tCost_n (X : cTx M C n) (h4 : a + 4 < n) (c4 : 48 ≤ C (a + 4) ∧ C (a + 4) ≤ 57) (hz : C (a + 4) = 48 → ¬ dg C n 48 57 (a + 5) = true) : tCost (M 31 0) n a = nI (pCo C n a) := by
  unfold tCost pCo
  by_cases z : dg C n 48 57 (a + 5) = true
  · obtain ⟨l, z1, z2⟩ := of_decide_eq_true z
    have ht : tIn (tCode (M 31 0) n (a + 5)) (nI 48) (nI 57) = true := by
      rw [tCode_n X l, tIn_n (by omega) (by decide) (by decide)]
      exact decide_eq_true ⟨z1, z2⟩
    have hc : C (a + 4) ≠ 48 ∧ dg C n 48 57 (a + 5) = true := ⟨fun q => hz q z, z⟩
    rw [if_pos ht, if_pos hc, tDig_n X h4 c4.1, tDig_n X l z1, pk_mul, nI_add]
  · have hc : ¬ (C (a + 4) ≠ 48 ∧ dg C n 48 57 (a + 5) = true) := fun q => z q.2
    have ht : ¬ tIn (tCode (M 31 0) n (a + 5)) (nI 48) (nI 57) = true := by
      intro q
      by_cases l : a + 5 < n
      · have := (X.2.2 _ l).2
        rw [tCode_n X l, tIn_n (by omega) (by decide) (by decide)] at q
        exact z (decide_eq_true ⟨l, of_decide_eq_true q⟩)
      · unfold tCode at q
        rw [if_neg l] at q
        exact absurd q (by decide)
    rw [if_neg ht, if_neg hc, tDig_n X h4 c4.1]
theorem z_narb (b : Bool) : narrow FieldType.boolean (Value.int (zb b)) = Value.int (zb b) := by cases b <;> rfl
theorem c_order (X : cTx M C n) (ha : a < n) (K : pOk C n a) (hz : C a = 114 → C (a + 4) = 48 → ¬ dg C n 48 57 (a + 5) = true) (h8 : s ≤ 8) (R : LandR M 0 V) (W : WFV V) (P : WFP V) (hs : V 66 = nI s) :
    ∃ M', cQ M M' ∧ LandR M' 0 (vDo C n s a V).1 ∧ zC w mX9_isOrderDone (d + 6) [vR 9 0, vI (nI a)] (zP M O) (zrI (zb (vDo C n s a V).2)) (zP M' O) := by
  have h60 := X.2.1
  have cc := c_tcode (w := w) (d := d + 5) (O := O) X.1 h60 (j := a) (by omega)
  rw [tCode_n X ha] at cc
  unfold vDo
  rcases K with ⟨c, c1, c3, cl, l3, l5⟩ | ⟨c, c1, c2, cn, cx, l4, c4⟩ | ⟨c, c1, l1⟩
  · rw [if_neg (by omega), if_neg (by omega)]
    rw [c] at cc
    have d1 := c_tdigit (w := w) (d := d + 4) (O := O) X.1 h60 (j := a + 1) (by omega)
    have d3 := c_tdigit (w := w) (d := d + 4) (O := O) X.1 h60 (j := a + 3) (by omega)
    have dl := c_tloaves (w := w) (d := d + 3) (O := O) X.1 h60 (j := a) (by omega)
    rw [tDig_n X (by omega) c1.1] at d1
    rw [tDig_n X l3 c3.1] at d3
    rw [tLoa_n X l5] at dl
    obtain ⟨M', Q', R', cs⟩ := c_sendsN (w := w) (d := d) (O := O) (t := C (a + 1) - 48) (h := C (a + 3) - 48) (K := pLo C n a) h8 (by omega) (by omega) cl.2 R W P hs
    refine ⟨M', Q', R', ?_⟩
    refine zC_of (cr := 0) (L0 := [vR 9 0, vI (nI a)]) rfl (by decide) (by decide) rfl (Nat.le_of_ble_eq_true rfl) rfl ?_
    refine g_aload_n (n := 1) dX9_isOrderDone_0 rfl rfl ?_
    refine gf_X9_36 (n := 4) dX9_isOrderDone_1 rfl rfl (z_lvP (by first | decide | assumption)) rfl ?_
    refine g_iload_n (n := 5) dX9_isOrderDone_4 rfl rfl ?_
    refine g_cVv (n := 8) cc dX9_isOrderDone_5 rfl kw_X9_379 rfl (by decide) (z_lvP (by first | decide | assumption)) (Nat.le_of_ble_eq_true rfl) ⟨Nat.le_refl _, Nat.le_refl _⟩ ?_ rfl
    refine g_lookup (n := 0) (t := 36) dX9_isOrderDone_8 (by decide) rfl (by decide) ?_
    refine g_aload_n (n := 37) dX9_isOrderDone_36 rfl rfl ?_
    refine g_aload_n (n := 38) dX9_isOrderDone_37 rfl rfl ?_
    refine gf_X9_36 (n := 41) dX9_isOrderDone_38 rfl rfl (z_lvP (by first | decide | assumption)) rfl ?_
    refine g_iload_n (n := 42) dX9_isOrderDone_41 rfl rfl ?_
    refine g_iconst (n := 43) dX9_isOrderDone_42 rfl k_ic_1 ?_
    refine g_iadd (n := 44) dX9_isOrderDone_43 rfl ?_
    rw [nI_add]
    refine g_cVv (n := 47) d1 dX9_isOrderDone_44 rfl kw_X9_382 rfl (by decide) (z_lvP (by first | decide | assumption)) (Nat.le_of_ble_eq_true rfl) ⟨Nat.le_refl _, Nat.le_refl _⟩ ?_ rfl
    refine g_aload_n (n := 48) dX9_isOrderDone_47 rfl rfl ?_
    refine gf_X9_36 (n := 51) dX9_isOrderDone_48 rfl rfl (z_lvP (by first | decide | assumption)) rfl ?_
    refine g_iload_n (n := 52) dX9_isOrderDone_51 rfl rfl ?_
    refine g_iconst (n := 53) dX9_isOrderDone_52 rfl k_ic_3 ?_
    refine g_iadd (n := 54) dX9_isOrderDone_53 rfl ?_
    rw [nI_add]
    refine g_cVv (n := 57) d3 dX9_isOrderDone_54 rfl kw_X9_382 rfl (by decide) (z_lvP (by first | decide | assumption)) (Nat.le_of_ble_eq_true rfl) ⟨Nat.le_refl _, Nat.le_refl _⟩ ?_ rfl
    refine g_aload_n (n := 58) dX9_isOrderDone_57 rfl rfl ?_
    refine gf_X9_36 (n := 61) dX9_isOrderDone_58 rfl rfl (z_lvP (by first | decide | assumption)) rfl ?_
    refine g_iload_n (n := 62) dX9_isOrderDone_61 rfl rfl ?_
    refine g_cVv (n := 65) dl dX9_isOrderDone_62 rfl kw_X9_385 rfl (by decide) (z_lvP (by first | decide | assumption)) (Nat.le_of_ble_eq_true rfl) ⟨Nat.le_refl _, Nat.le_refl _⟩ ?_ rfl
    refine g_cVv (n := 68) cs dX9_isOrderDone_65 rfl kw_X9_386 rfl (by decide) (z_lvP (by first | decide | assumption)) (Nat.le_of_ble_eq_true rfl) ⟨Nat.le_refl _, Nat.le_refl _⟩ ?_ rfl
    exact g_ireturn dX9_isOrderDone_68 rfl (z_narb _) rfl rfl
  · rw [if_neg (by omega), if_pos c]
    rw [c] at cc
    have d1 := c_tdigit (w := w) (d := d + 4) (O := O) X.1 h60 (j := a + 1) (by omega)
    have d2 := c_tdigit (w := w) (d := d + 4) (O := O) X.1 h60 (j := a + 2) (by omega)
    have dc := c_tcost (w := w) (d := d + 3) (O := O) X.1 h60 (j := a) (by omega)
    rw [tDig_n X (by omega) c1.1] at d1
    rw [tDig_n X (by omega) c2.1] at d2
    rw [tCost_n X l4 c4 (hz c)] at dc
    have nn : ∀ j, j < 64 → 0 ≤ M 27 0 j := fun j hj => by
      rw [R.2.1 j hj]
      obtain ⟨c, hc, ec⟩ := W.2.1 j hj
      rw [ec]
      exact nI_pos' (by omega)
    have cy := c_rlay (w := w) (d := d + 2) (M := M) (O := O) (i := 0) (a := C (a + 1) - 48) (b := C (a + 2) - 48) (by decide) (by omega) (by omega) (nI (pCo C n a)) (nI_pos' (by omega)) nn
    refine ⟨mLay M 0 (C (a + 1) - 48) (C (a + 2) - 48) (nI (pCo C n a)), ?_, LandR_lay R (by omega) (by omega), ?_⟩
    · unfold mLay
      exact (cQ_u2 (by omega)).tr (cQ_u2 (by omega))
    refine zC_of (cr := 0) (L0 := [vR 9 0, vI (nI a)]) rfl (by decide) (by decide) rfl (Nat.le_of_ble_eq_true rfl) rfl ?_
    refine g_aload_n (n := 1) dX9_isOrderDone_0 rfl rfl ?_
    refine gf_X9_36 (n := 4) dX9_isOrderDone_1 rfl rfl (z_lvP (by first | decide | assumption)) rfl ?_
    refine g_iload_n (n := 5) dX9_isOrderDone_4 rfl rfl ?_
    refine g_cVv (n := 8) cc dX9_isOrderDone_5 rfl kw_X9_379 rfl (by decide) (z_lvP (by first | decide | assumption)) (Nat.le_of_ble_eq_true rfl) ⟨Nat.le_refl _, Nat.le_refl _⟩ ?_ rfl
    refine g_lookup (n := 0) (t := 69) dX9_isOrderDone_8 (by decide) rfl (by decide) ?_
    refine g_aload_n (n := 70) dX9_isOrderDone_69 rfl rfl ?_
    refine gf_X9_10 (n := 73) dX9_isOrderDone_70 rfl rfl (z_lvP (by first | decide | assumption)) rfl ?_
    refine gf_X9_67 (n := 76) dX9_isOrderDone_73 rfl rfl (z_lvP (by first | decide | assumption)) rfl ?_
    refine g_aload_n (n := 77) dX9_isOrderDone_76 rfl rfl ?_
    refine gf_X9_36 (n := 80) dX9_isOrderDone_77 rfl rfl (z_lvP (by first | decide | assumption)) rfl ?_
    refine g_iload_n (n := 81) dX9_isOrderDone_80 rfl rfl ?_
    refine g_iconst (n := 82) dX9_isOrderDone_81 rfl k_ic_1 ?_
    refine g_iadd (n := 83) dX9_isOrderDone_82 rfl ?_
    rw [nI_add]
    refine g_cVv (n := 86) d1 dX9_isOrderDone_83 rfl kw_X9_382 rfl (by decide) (z_lvP (by first | decide | assumption)) (Nat.le_of_ble_eq_true rfl) ⟨Nat.le_refl _, Nat.le_refl _⟩ ?_ rfl
    refine g_aload_n (n := 87) dX9_isOrderDone_86 rfl rfl ?_
    refine gf_X9_36 (n := 90) dX9_isOrderDone_87 rfl rfl (z_lvP (by first | decide | assumption)) rfl ?_
    refine g_iload_n (n := 91) dX9_isOrderDone_90 rfl rfl ?_
    refine g_iconst (n := 92) dX9_isOrderDone_91 rfl k_ic_2 ?_
    refine g_iadd (n := 93) dX9_isOrderDone_92 rfl ?_
    rw [nI_add]
    refine g_cVv (n := 96) d2 dX9_isOrderDone_93 rfl kw_X9_382 rfl (by decide) (z_lvP (by first | decide | assumption)) (Nat.le_of_ble_eq_true rfl) ⟨Nat.le_refl _, Nat.le_refl _⟩ ?_ rfl
    refine g_aload_n (n := 97) dX9_isOrderDone_96 rfl rfl ?_
    refine gf_X9_36 (n := 100) dX9_isOrderDone_97 rfl rfl (z_lvP (by first | decide | assumption)) rfl ?_
    refine g_iload_n (n := 101) dX9_isOrderDone_100 rfl rfl ?_
    refine g_cVv (n := 104) dc dX9_isOrderDone_101 rfl kw_X9_390 rfl (by decide) (z_lvP (by first | decide | assumption)) (Nat.le_of_ble_eq_true rfl) ⟨Nat.le_refl _, Nat.le_refl _⟩ ?_ rfl
    refine g_cVv (n := 107) cy dX9_isOrderDone_104 rfl kw_X9_71 rfl (by decide) (z_lvP (by first | decide | assumption)) (Nat.le_of_ble_eq_true rfl) ⟨Nat.le_refl _, Nat.le_refl _⟩ ?_ rfl
    refine g_pop (n := 108) dX9_isOrderDone_107 rfl rfl ?_
    refine g_iconst (n := 109) dX9_isOrderDone_108 rfl k_ic_1 ?_
    exact g_ireturn dX9_isOrderDone_109 rfl rfl rfl rfl
  · rw [if_pos c]
    rw [c] at cc
    have d1 := c_tdigit (w := w) (d := d + 4) (O := O) X.1 h60 (j := a + 1) (by omega)
    rw [tDig_n X (by omega) c1.1] at d1
    obtain ⟨M', Q', R', cs⟩ := c_exitTurned (w := w) (d := d + 3) (O := O) (e := C (a + 1) - 48) (by omega) h8 R hs
    refine ⟨M', Q', R', ?_⟩
    refine zC_of (cr := 0) (L0 := [vR 9 0, vI (nI a)]) rfl (by decide) (by decide) rfl (Nat.le_of_ble_eq_true rfl) rfl ?_
    refine g_aload_n (n := 1) dX9_isOrderDone_0 rfl rfl ?_
    refine gf_X9_36 (n := 4) dX9_isOrderDone_1 rfl rfl (z_lvP (by first | decide | assumption)) rfl ?_
    refine g_iload_n (n := 5) dX9_isOrderDone_4 rfl rfl ?_
    refine g_cVv (n := 8) cc dX9_isOrderDone_5 rfl kw_X9_379 rfl (by decide) (z_lvP (by first | decide | assumption)) (Nat.le_of_ble_eq_true rfl) ⟨Nat.le_refl _, Nat.le_refl _⟩ ?_ rfl
    refine g_lookup (n := 0) (t := 110) dX9_isOrderDone_8 (by decide) rfl (by decide) ?_
    refine g_aload_n (n := 111) dX9_isOrderDone_110 rfl rfl ?_
    refine g_aload_n (n := 112) dX9_isOrderDone_111 rfl rfl ?_
    refine gf_X9_36 (n := 115) dX9_isOrderDone_112 rfl rfl (z_lvP (by first | decide | assumption)) rfl ?_
    refine g_iload_n (n := 116) dX9_isOrderDone_115 rfl rfl ?_
    refine g_iconst (n := 117) dX9_isOrderDone_116 rfl k_ic_1 ?_
    refine g_iadd (n := 118) dX9_isOrderDone_117 rfl ?_
    rw [nI_add]
    refine g_cVv (n := 121) d1 dX9_isOrderDone_118 rfl kw_X9_382 rfl (by decide) (z_lvP (by first | decide | assumption)) (Nat.le_of_ble_eq_true rfl) ⟨Nat.le_refl _, Nat.le_refl _⟩ ?_ rfl
    refine g_cVv (n := 124) cs dX9_isOrderDone_121 rfl kw_X9_392 rfl (by decide) (z_lvP (by first | decide | assumption)) (Nat.le_of_ble_eq_true rfl) ⟨Nat.le_refl _, Nat.le_refl _⟩ ?_ rfl
    exact g_ireturn dX9_isOrderDone_124 rfl (z_narb _) rfl rfl
theorem tBeg_n (X : cTx M C n) {j : Nat} (hj : j < n) : tBeg (M 31 0) (j + 1) = decide (C j = 59) := by
  show decide (M 31 0 j = nI 59) = _
  obtain ⟨x1, x2⟩ := X.2.2 j hj
  rw [x1, decide_eq_decide, nI_eq (by omega) (by decide)]
theorem c_runL (h8 : s ≤ 8) : ∀ k a N (V : Nat → Int32) m, pE C n k a = none → a ≤ n → nSt C a = 0 → tBeg (N 31 0) a = true → cTx N C n → LandR N 0 V → WFV V → WFP V → V 66 = nI s → m + k < 1000 →
    ∃ M', cQ N M' ∧ LandR M' 0 (vRun C n s k a V).1 ∧ zG w mX9_run (d + 9) 0 35 [vR 9 0, vI (nI m), vI (nI a)] [] (zP N O) (zrI (nI (m + (vRun C n s k a V).2))) (zP (u3 M' 8 0 1 (nI 0)) O) := by
  intro k
  induction k with
  | zero => intro a N V m hp; cases hp
  | succ k ih =>
    intro a N V m hp ha h0 hbeg X R W P hs hm
    unfold pE at hp
    obtain ⟨⟨b1, b2⟩, b3, b4, b5⟩ := pO_spec ha h0
    have h60 := X.2.1
    cases hb : (pO C n a).2
    · rw [hb, if_neg (by decide)] at hp
      cases hp
    · rw [hb, if_pos rfl] at hp
      obtain ⟨al, K⟩ := pO_ok hb
      obtain ⟨f1, f2, f3, f4⟩ := b5 hb
      obtain ⟨e, he⟩ : ∃ e, e = (pO C n a).1 := ⟨_, rfl⟩
      rw [← he] at hp b2 f2 f3 f4
      have hz : C a = 114 → C (a + 4) = 48 → ¬ dg C n 48 57 (a + 5) = true := by
        intro q1 q2 q3
        have e5 : e = a + 5 := by
          have hx : (pO C n a).2 = true := hb
          rw [he]
          have n1 : ¬ ch C n 115 a = true := fun z => by have := of_decide_eq_true z; omega
          have n2 : ch C n 114 a = true := decide_eq_true ⟨al, q1⟩
          unfold pO at hx ⊢
          rw [if_neg n1, if_pos n2] at hx ⊢
          unfold pR at hx ⊢
          split at hx
          · rename_i d1
            rw [if_pos d1]
            split at hx
            · cases hx
            · rename_i dd
              rw [if_neg dd]
              split at hx
              · rename_i d2
                rw [if_pos d2]
                split at hx
                · rename_i d3
                  rw [if_pos d3]
                  split at hx
                  · rename_i d4
                    rw [if_pos d4, if_neg (fun z => z.1 q2)]
                  · cases hx
                · cases hx
              · cases hx
          · cases hx
        obtain ⟨g1, g2, g3⟩ := of_decide_eq_true q3
        rw [e5] at hp f2
        rw [if_neg (by omega)] at hp
        by_cases y : C (a + 5) = 59
        · omega
        · rw [if_neg y] at hp
          cases hp
      obtain ⟨M1, Q1, R1, co⟩ := c_order (w := w) (d := d + 2) (O := O) X al K hz h8 R W P hs
      have X1 := cTx_cQ X Q1
      obtain ⟨w1, w2, w3⟩ := vDo_wf (s := s) K W P hs h8
      have er : vRun C n s (k + 1) a V = if (vDo C n s a V).2 then ((vRun C n s k (e + 1) (vDo C n s a V).1).1, (vRun C n s k (e + 1) (vDo C n s a V).1).2 + 1) else ((vDo C n s a V).1, 0) := by
        rw [he]
        show (if a < n then _ else _) = _
        rw [if_pos al]
      rw [er]
      have cl := c_tlength (w := w) (d := d + 8) (M := N) (O := O)
      rw [X.1] at cl
      have cb := c_tbegins (w := w) (d := d + 7) (O := O) X.1 h60 (j := a) (by omega)
      rw [hbeg] at cb
      have tail : ∀ (mm : Int32) (y : zAV), zG w mX9_run (d + 9) 0 77 [vR 9 0, vI mm, y] [] (zP M1 O) (zrI mm) (zP (u3 M1 8 0 1 (nI 0)) O) := by
        intro mm y
        refine g_aload_n (n := 78) dX9_run_77 rfl rfl ?_
        refine gf_X9_36 (n := 81) dX9_run_78 rfl rfl (z_lvP (by first | decide | assumption)) rfl ?_
        refine g_cVv (n := 84) c_twipe dX9_run_81 rfl kw_X9_164 rfl (by decide) (z_lvP (by first | decide | assumption)) (Nat.le_of_ble_eq_true rfl) ⟨Nat.le_refl _, Nat.le_refl _⟩ ?_ rfl
        refine g_pop (n := 85) dX9_run_84 rfl rfl ?_
        refine g_iload_n (n := 86) dX9_run_85 rfl rfl ?_
        exact g_ireturn dX9_run_86 rfl rfl rfl rfl
      have cl1 := c_tlength (w := w) (d := d + 8) (M := M1) (O := O)
      rw [X1.1] at cl1
      cases hd : (vDo C n s a V).2
      · rw [hd] at co
        rw [if_neg (by decide)]
        refine ⟨M1, Q1, R1, ?_⟩
        refine g_iload_n (n := 36) dX9_run_35 rfl rfl ?_
        refine g_aload_n (n := 37) dX9_run_36 rfl rfl ?_
        refine gf_X9_36 (n := 40) dX9_run_37 rfl rfl (z_lvP (by first | decide | assumption)) rfl ?_
        refine g_cVv (n := 43) cl dX9_run_40 rfl kw_X9_175 rfl (by decide) (z_lvP (by first | decide | assumption)) (Nat.le_of_ble_eq_true rfl) ⟨Nat.le_refl _, Nat.le_refl _⟩ ?_ rfl
        refine g_icmp_ge (n := 46) (t := 77) dX9_run_43 rfl (by decide) (fun q9 => absurd q9 (nI_ge al (by omega))) (fun _ => ?_)
        refine g_aload_n (n := 47) dX9_run_46 rfl rfl ?_
        refine gf_X9_36 (n := 50) dX9_run_47 rfl rfl (z_lvP (by first | decide | assumption)) rfl ?_
        refine g_iload_n (n := 51) dX9_run_50 rfl rfl ?_
        refine g_cVv (n := 54) cb dX9_run_51 rfl kw_X9_178 rfl (by decide) (z_lvP (by first | decide | assumption)) (Nat.le_of_ble_eq_true rfl) ⟨Nat.le_refl _, Nat.le_refl _⟩ ?_ rfl
        refine g_if_eq (n := 57) (t := 71) dX9_run_54 rfl (by decide) (fun q9 => absurd q9 (by decide)) (fun _ => ?_)
        refine g_aload_n (n := 58) dX9_run_57 rfl rfl ?_
        refine g_iload_n (n := 59) dX9_run_58 rfl rfl ?_
        refine g_cVv (n := 62) co dX9_run_59 rfl kw_X9_181 rfl (by decide) (z_lvP (by first | decide | assumption)) (Nat.le_of_ble_eq_true rfl) ⟨Nat.le_refl _, Nat.le_refl _⟩ ?_ rfl
        refine g_if_ne (n := 65) (t := 68) dX9_run_62 rfl (by decide) (fun q9 => absurd rfl q9) (fun _ => ?_)
        refine g_goto (n := 0) (t := 77) dX9_run_65 (by decide) ?_
        exact tail _ _
      · rw [hd] at co
        rw [if_pos rfl]
        -- from the order's end on
        have rest : ∃ M', cQ N M' ∧ LandR M' 0 (vRun C n s k (e + 1) (vDo C n s a V).1).1 ∧ zG w mX9_run (d + 9) 0 35 [vR 9 0, vI (nI (m + 1)), vI (nI (if e < n then e + 1 else n))] [] (zP M1 O) (zrI (nI (m + ((vRun C n s k (e + 1) (vDo C n s a V).1).2 + 1)))) (zP (u3 M' 8 0 1 (nI 0)) O) := by
          by_cases l : e = n
          · have rz : vRun C n s k (e + 1) (vDo C n s a V).1 = ((vDo C n s a V).1, 0) := by
              cases k with
              | zero => rfl
              | succ k =>
                show (if e + 1 < n then _ else _) = _
                rw [if_neg (by omega)]
            rw [rz, if_neg (by omega)]
            refine ⟨M1, Q1, R1, ?_⟩
            refine g_iload_n (n := 36) dX9_run_35 rfl rfl ?_
            refine g_aload_n (n := 37) dX9_run_36 rfl rfl ?_
            refine gf_X9_36 (n := 40) dX9_run_37 rfl rfl (z_lvP (by first | decide | assumption)) rfl ?_
            refine g_cVv (n := 43) cl1 dX9_run_40 rfl kw_X9_175 rfl (by decide) (z_lvP (by first | decide | assumption)) (Nat.le_of_ble_eq_true rfl) ⟨Nat.le_refl _, Nat.le_refl _⟩ ?_ rfl
            refine g_icmp_ge (n := 46) (t := 77) dX9_run_43 rfl (by decide) (fun _ => ?_) (fun q9 => absurd (Int32.le_refl _) q9)
            exact tail _ _
          · rw [if_neg l] at hp
            have l2 : e < n := by omega
            by_cases c : C e = 59
            · rw [if_pos c] at hp
              have z := f2 l2
              rw [if_pos c] at z
              obtain ⟨M', Q', R', G⟩ := ih (e + 1) M1 _ (m + 1) hp (by omega) z (by rw [tBeg_n X1 l2]; exact decide_eq_true c) X1 R1 w1 w2 w3 (by omega)
              refine ⟨M', Q1.tr Q', R', ?_⟩
              rw [if_pos l2, show m + ((vRun C n s k (e + 1) (vDo C n s a V).1).2 + 1) = m + 1 + (vRun C n s k (e + 1) (vDo C n s a V).1).2 by omega]
              exact G
            · rw [if_neg c] at hp
              cases hp
        obtain ⟨M', Q', R', G⟩ := rest
        refine ⟨M', Q', R', ?_⟩
        have skip : ∀ i j, j + i = (if e < n then e + 1 else n) → a < j → zG w mX9_run (d + 9) 0 35 [vR 9 0, vI (nI (m + 1)), vI (nI j)] [] (zP M1 O) (zrI (nI (m + ((vRun C n s k (e + 1) (vDo C n s a V).1).2 + 1)))) (zP (u3 M' 8 0 1 (nI 0)) O) := by
          intro i
          induction i with
          | zero =>
            intro j hj _
            rw [show j = (if e < n then e + 1 else n) by omega]
            exact G
          | succ i ih2 =>
            intro j hj haj
            have hjn : j < n ∧ j ≤ e := by
              split at hj <;> omega
            obtain ⟨j', rfl⟩ : ∃ q, j = q + 1 := ⟨j - 1, by omega⟩
            have cb1 := c_tbegins (w := w) (d := d + 7) (O := O) X1.1 h60 (j := j' + 1) (by omega)
            rw [tBeg_n X1 (by omega), decide_eq_false (f4 j' (by omega) (by omega))] at cb1
            have nx := ih2 (j' + 1 + 1) (by omega) (by omega)
            refine g_iload_n (n := 36) dX9_run_35 rfl rfl ?_
            refine g_aload_n (n := 37) dX9_run_36 rfl rfl ?_
            refine gf_X9_36 (n := 40) dX9_run_37 rfl rfl (z_lvP (by first | decide | assumption)) rfl ?_
            refine g_cVv (n := 43) cl1 dX9_run_40 rfl kw_X9_175 rfl (by decide) (z_lvP (by first | decide | assumption)) (Nat.le_of_ble_eq_true rfl) ⟨Nat.le_refl _, Nat.le_refl _⟩ ?_ rfl
            refine g_icmp_ge (n := 46) (t := 77) dX9_run_43 rfl (by decide) (fun q9 => absurd q9 (nI_ge hjn.1 (by omega))) (fun _ => ?_)
            refine g_aload_n (n := 47) dX9_run_46 rfl rfl ?_
            refine gf_X9_36 (n := 50) dX9_run_47 rfl rfl (z_lvP (by first | decide | assumption)) rfl ?_
            refine g_iload_n (n := 51) dX9_run_50 rfl rfl ?_
            refine g_cVv (n := 54) cb1 dX9_run_51 rfl kw_X9_178 rfl (by decide) (z_lvP (by first | decide | assumption)) (Nat.le_of_ble_eq_true rfl) ⟨Nat.le_refl _, Nat.le_refl _⟩ ?_ rfl
            refine g_if_eq (n := 57) (t := 71) dX9_run_54 rfl (by decide) (fun _ => ?_) (fun q9 => absurd rfl q9)
            refine g_iinc2 (n := 74) dX9_run_71 rfl (by decide) rfl (z_inc1 _) ?_
            refine g_goto (n := 0) (t := 35) dX9_run_74 (by decide) ?_
            exact nx
        have nx := skip ((if e < n then e + 1 else n) - (a + 1)) (a + 1) (by split <;> omega) (by omega)
        refine g_iload_n (n := 36) dX9_run_35 rfl rfl ?_
        refine g_aload_n (n := 37) dX9_run_36 rfl rfl ?_
        refine gf_X9_36 (n := 40) dX9_run_37 rfl rfl (z_lvP (by first | decide | assumption)) rfl ?_
        refine g_cVv (n := 43) cl dX9_run_40 rfl kw_X9_175 rfl (by decide) (z_lvP (by first | decide | assumption)) (Nat.le_of_ble_eq_true rfl) ⟨Nat.le_refl _, Nat.le_refl _⟩ ?_ rfl
        refine g_icmp_ge (n := 46) (t := 77) dX9_run_43 rfl (by decide) (fun q9 => absurd q9 (nI_ge al (by omega))) (fun _ => ?_)
        refine g_aload_n (n := 47) dX9_run_46 rfl rfl ?_
        refine gf_X9_36 (n := 50) dX9_run_47 rfl rfl (z_lvP (by first | decide | assumption)) rfl ?_
        refine g_iload_n (n := 51) dX9_run_50 rfl rfl ?_
        refine g_cVv (n := 54) cb dX9_run_51 rfl kw_X9_178 rfl (by decide) (z_lvP (by first | decide | assumption)) (Nat.le_of_ble_eq_true rfl) ⟨Nat.le_refl _, Nat.le_refl _⟩ ?_ rfl
        refine g_if_eq (n := 57) (t := 71) dX9_run_54 rfl (by decide) (fun q9 => absurd q9 (by decide)) (fun _ => ?_)
        refine g_aload_n (n := 58) dX9_run_57 rfl rfl ?_
        refine g_iload_n (n := 59) dX9_run_58 rfl rfl ?_
        refine g_cVv (n := 62) co dX9_run_59 rfl kw_X9_181 rfl (by decide) (z_lvP (by first | decide | assumption)) (Nat.le_of_ble_eq_true rfl) ⟨Nat.le_refl _, Nat.le_refl _⟩ ?_ rfl
        refine g_if_ne (n := 65) (t := 68) dX9_run_62 rfl (by decide) (fun _ => ?_) (fun q9 => absurd q9 (by decide))
        refine g_iinc1 (n := 71) dX9_run_68 rfl (by decide) rfl (z_inc1 _) ?_
        refine g_iinc2 (n := 74) dX9_run_71 rfl (by decide) rfl (z_inc1 _) ?_
        refine g_goto (n := 0) (t := 35) dX9_run_74 (by decide) ?_
        exact nx
theorem t_run (X : cTx M C n) {e : Nat} (hp : pE C n (n + 1) 0 = some e) : zC w mX9_run (d + 9) [vR 9 0] (zP M O) (zrX xIA) (zP M O) := by
  have cd := c_tday (w := w) (d := d + 5) (O := O) X.1 X.2.1
  rw [tDay_pE (C := C) (fun j hj => ⟨(X.2.2 j hj).1, by have := (X.2.2 j hj).2; omega⟩), hp] at cd
  refine zC_of (cr := 1) (L0 := [vR 9 0, vU, vU]) rfl (by decide) (by decide) rfl (Nat.le_of_ble_eq_true rfl) rfl ?_
  refine g_aload_n (n := 1) dX9_run_0 rfl rfl ?_
  refine gf_X9_36 (n := 4) dX9_run_1 rfl rfl (z_lvP (by first | decide | assumption)) rfl ?_
  refine g_cVv (n := 7) cd dX9_run_4 rfl kw_X9_170 rfl (by decide) (z_lvP (by first | decide | assumption)) (Nat.le_of_ble_eq_true rfl) ⟨Nat.le_refl _, Nat.le_refl _⟩ ?_ rfl
  refine g_if_ne (n := 10) (t := 20) dX9_run_7 rfl (by decide) (fun q9 => absurd rfl q9) (fun _ => ?_)
  exact g_thr (q := z_exs[0]) (is := 173) (sa := 0) (text := "the buffer does not tell a day") (List.getElem_mem _) rfl rfl (by decide +kernel) (by omega) (Nat.le_of_ble_eq_true rfl) dX9_run_10 dX9_run_13 dX9_run_14 dX9_run_16 dX9_run_19 rfl rfl rfl
theorem c_runYes {o : Nat} (F : zF M s o h n) (X : cTx M C n) (hp : pE C n (n + 1) 0 = none) (R : LandR M 0 V) (W : WFV V) (P : WFP V) (hs : V 66 = nI s) :
    ∃ M', cQ (mSave M o h 0) M' ∧ LandR M' 0 (vRun C n s (n + 1) 0 V).1 ∧ zC w mX9_run (d + 9) [vR 9 0] (zP M O) (zrI (nI (vRun C n s (n + 1) 0 V).2)) (zP (u3 M' 8 0 1 (nI 0)) O) := by
  have cd := c_tday (w := w) (d := d + 5) (O := O) X.1 X.2.1
  rw [tDay_pE (C := C) (fun j hj => ⟨(X.2.2 j hj).1, by have := (X.2.2 j hj).2; omega⟩), hp] at cd
  have RS : LandR (mSave M o h 0) 0 V := LandR_same R (fun k hk h1 _ _ _ _ _ => mSave_0 (fun z => by rcases h1 (by omega) with q | q <;> omega))
  have h60 := X.2.1
  have XS : cTx (mSave M o h 0) C n := ⟨by rw [mSave_0 (by decide)]; exact X.1, h60, fun j hj => by rw [mSave_0 (by decide)]; exact X.2.2 j hj⟩
  obtain ⟨M', Q', R', G⟩ := c_runL (w := w) (d := d) (O := O) F.h8 (n + 1) 0 (mSave M o h 0) V 0 hp (Nat.zero_le _) rfl rfl XS RS W P hs (by omega)
  rw [Nat.zero_add] at G
  refine ⟨M', Q', R', ?_⟩
  refine zC_of (cr := 0) (L0 := [vR 9 0, vU, vU]) rfl (by decide) (by decide) rfl (Nat.le_of_ble_eq_true rfl) rfl ?_
  refine g_aload_n (n := 1) dX9_run_0 rfl rfl ?_
  refine gf_X9_36 (n := 4) dX9_run_1 rfl rfl (z_lvP (by first | decide | assumption)) rfl ?_
  refine g_cVv (n := 7) cd dX9_run_4 rfl kw_X9_170 rfl (by decide) (z_lvP (by first | decide | assumption)) (Nat.le_of_ble_eq_true rfl) ⟨Nat.le_refl _, Nat.le_refl _⟩ ?_ rfl
  refine g_if_ne (n := 10) (t := 20) dX9_run_7 rfl (by decide) (fun _ => ?_) (fun q9 => absurd q9 (by decide))
  refine g_aload_n (n := 21) dX9_run_20 rfl rfl ?_
  refine gf_X9_52 (n := 24) dX9_run_21 rfl rfl (z_lvP (by first | decide | assumption)) rfl ?_
  refine g_aload_n (n := 25) dX9_run_24 rfl rfl ?_
  refine gf_X9_10 (n := 28) dX9_run_25 rfl rfl (z_lvP (by first | decide | assumption)) rfl ?_
  refine g_cVn (n := 31) (c_save9 F) dX9_run_28 rfl kw_X9_63 rfl (by decide) (z_lvP (by first | decide | assumption)) (Nat.le_of_ble_eq_true rfl) ⟨Nat.le_refl _, Nat.le_refl _⟩ ?_ rfl
  refine g_iconst (n := 32) dX9_run_31 rfl k_ic_0 ?_
  refine g_istore1 (n := 33) dX9_run_32 rfl (by decide) rfl ?_
  refine g_iconst (n := 34) dX9_run_33 rfl k_ic_0 ?_
  refine g_istore2 (n := 35) dX9_run_34 rfl (by decide) rfl ?_
  exact G
end L25

