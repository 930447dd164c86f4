/-! A day's orders done: in rows, and by the reference. -/
theorem upd_upd_id {V : Nat → Int32} {p q : Nat} {x y : Int32} (h : p ≠ q) (hy : V q = y) : upd (upd V p x) q y = upd V p x := by
  funext j
  unfold upd
  by_cases e : j = q
  · rw [if_pos e, if_neg (fun z => h (z.symm.trans e)), e, hy]
  · rw [if_neg e]
theorem WFV_66 {V : Nat → Int32} (W : WFV V) : ∃ s, s ≤ 8 ∧ V 66 = nI s := by
  obtain ⟨s, h8, hs, _⟩ := W.2.2.2.2.1
  exact ⟨s, h8, hs⟩
section WS
variable {V : Nat → Int32} {s t h : Nat}
/-- a loaf more keeps a row a land's row -/
theorem vSnd_wf (W : WFV V) (P : WFP V) (hs : V 66 = nI s) (h8 : s ≤ 8) (ht : t < 8) (hh : h < 4) (hl : V 171 < nI 9999) : WFV (vSnd V s t h) ∧ WFP (vSnd V s t h) ∧ vSnd V s t h 66 = nI s := by
  obtain ⟨T, c, b1, b2, b3, b4⟩ := W.2.2.2.2.2.2
  have hT : T < 9999 := by
    rw [b3] at hl
    exact (nI_ltI (by omega) (by omega)).mp hl
  obtain ⟨T', p1, p2, p3⟩ := P
  obtain rfl : T' = T := by
    rw [b3] at p2
    exact ((nI_eq (by omega) (by omega)).mp p2).symm
  have a171 : ad V 171 (nI 1) = upd V 171 (nI (T' + 1)) := by
    unfold ad
    rw [b3, nI_add]
  have w1 : ∀ c', c' ≤ T' + 1 → WFV (upd (upd V 171 (nI (T' + 1))) 172 (nI c')) := fun c' h => WFV_sent W (by omega) h
  have pq : ∀ q, q < 172 → 139 ≤ q → q ≠ 171 → ∃ p, p ≤ T' ∧ V q = nI p := fun q h1 h2 h3 => by
    obtain ⟨p, e1, e2⟩ := p3 (q - 139) (by omega)
    rw [show 139 + (q - 139) = q by omega] at e2
    exact ⟨p, e1, e2⟩
  unfold vSnd
  rcases vCho_in2 W hs h8 ht hh with a | ⟨e, he, a⟩
  · rw [a, if_pos (by decide)]
    have ec : vCold V = upd (upd V 171 (nI (T' + 1))) 172 (nI (c + 1)) := by
      unfold vCold
      rw [a171]
      unfold ad
      rw [upd_o (by decide), b4, nI_add]
    rw [ec]
    refine ⟨w1 _ (by omega), ⟨T' + 1, by omega, by rw [upd_o (by decide), pk_us], fun j hj => ?_⟩, by rw [upd_o (by decide), upd_o (by decide)]; exact hs⟩
    obtain ⟨p, e1, e2⟩ := p3 j hj
    exact ⟨p, by omega, by rw [upd_o (by omega), upd_o (by omega)]; exact e2⟩
  · have hq := vNe_lt W hs h8 he
    rw [a, if_neg (nI_pos (by omega)), nI_clamp (by omega)]
    obtain ⟨q, hqe⟩ : ∃ q, q = vNe V e := ⟨_, rfl⟩
    obtain ⟨co, hco⟩ : ∃ co, co = vDe (vDi V) V s t h := ⟨_, rfl⟩
    rw [← hqe] at hq ⊢
    rw [← hco]
    have w0 : WFV (ad V 171 (nI 1)) := by
      rw [a171]
      have := w1 c (by omega)
      rw [upd_upd_id (by decide) b4] at this
      exact this
    have s0 : ad V 171 (nI 1) 66 = nI s := (ad_o (by decide)).trans hs
    have fr : ∀ (U : Nat → Int32) (p : Nat) (x : Int32), WFV U → U 66 = nI s → ((123 ≤ p ∧ p < 171) ∨ 173 ≤ p ∨ (67 ≤ p ∧ p < 67 + 5 * s ∧ (p % 5 = 0 ∨ p % 5 = 1))) → WFV (ad U p x) ∧ ad U p x 66 = nI s := fun U p x w u z => ⟨WFV_free w u h8 z, (ad_o (by omega)).trans u⟩
    unfold vTake
    obtain ⟨o, ho⟩ : ∃ o, o = vOv (vTk6 V e t h q co) q := ⟨_, rfl⟩
    rw [← ho]
    have f1 := fr _ (70 + 5 * e) (nI 1) w0 s0 (by omega)
    have f2 := fr _ (71 + 5 * e) co f1.1 f1.2 (by omega)
    have f3 := fr _ 173 co f2.1 f2.2 (by omega)
    have f4 := fr _ (139 + (4 * t + h)) (nI 1) f3.1 f3.2 (by omega)
    have f5 := fr _ (127 + q) (nI 1) f4.1 f4.2 (by omega)
    have f6 := fr _ (131 + q) o f5.1 f5.2 (by omega)
    have f7 := fr _ (135 + q) o f6.1 f6.2 (by omega)
    refine ⟨f7.1, ⟨T' + 1, by omega, ?_, fun j hj => ?_⟩, f7.2⟩
    · unfold vTk6
      rw [ad_o (by omega), ad_o (by omega), ad_o (by omega), ad_o (by omega), ad_o (by omega), ad_o (by omega), ad_o (by omega), a171, pk_us]
    · obtain ⟨p, e1, e2⟩ := p3 j hj
      unfold vTk6
      rw [ad_o (by omega), ad_o (by omega), ad_o (by omega)]
      by_cases z : j = 4 * t + h
      · refine ⟨p + 1, by omega, ?_⟩
        rw [z, ad_s, ad_o (by omega), ad_o (by omega), ad_o (by omega), ad_o (by omega), ← z, e2, nI_add]
      · refine ⟨p, by omega, ?_⟩
        rw [ad_o (by omega), ad_o (by omega), ad_o (by omega), ad_o (by omega), ad_o (by omega)]
        exact e2
end WS
/-- so many loaves sent, as long as it goes -/
def vSN (s t h : Nat) : Nat → (Nat → Int32) → (Nat → Int32) × Bool
  | 0, V => (V, true)
  | k + 1, V => if V 171 < nI 9999 then vSN s t h k (vSnd V s t h) else (V, false)
theorem vSN_wf {s t h : Nat} (h8 : s ≤ 8) (ht : t < 8) (hh : h < 4) : ∀ (k : Nat) (V : Nat → Int32), WFV V → WFP V → V 66 = nI s → WFV (vSN s t h k V).1 ∧ WFP (vSN s t h k V).1 ∧ (vSN s t h k V).1 66 = nI s
  | 0, V, W, P, hs => ⟨W, P, hs⟩
  | k + 1, V, W, P, hs => by
    unfold vSN
    by_cases l : V 171 < nI 9999
    · rw [if_pos l]
      obtain ⟨a, b, c⟩ := vSnd_wf W P hs h8 ht hh l
      exact vSN_wf h8 ht hh k _ a b c
    · rw [if_neg l]
      exact ⟨W, P, hs⟩
def pLo (C : Nat → Nat) (n a : Nat) : Nat := if ch C n 42 (a + 4) then C (a + 5) - 48 else 1
def pCo (C : Nat → Nat) (n a : Nat) : Nat := if C (a + 4) ≠ 48 ∧ dg C n 48 57 (a + 5) = true then 10 * (C (a + 4) - 48) + (C (a + 5) - 48) else C (a + 4) - 48
/-- an order done -/
def vDo (C : Nat → Nat) (n s a : Nat) (V : Nat → Int32) : (Nat → Int32) × Bool :=
  if C a = 120 then (if C (a + 1) - 48 < s then (upd V (69 + 5 * (C (a + 1) - 48)) (nI 1 - V (69 + 5 * (C (a + 1) - 48))), true) else (V, false))
  else if C a = 114 then (vLay V (C (a + 1) - 48) (C (a + 2) - 48) (nI (pCo C n a)), true)
  else vSN s (C (a + 1) - 48) (C (a + 3) - 48) (pLo C n a) V
def vRun (C : Nat → Nat) (n s : Nat) : Nat → Nat → (Nat → Int32) → (Nat → Int32) × Nat
  | 0, _, V => (V, 0)
  | k + 1, a, V => if a < n then (if (vDo C n s a V).2 then ((vRun C n s k ((pO C n a).1 + 1) (vDo C n s a V).1).1, (vRun C n s k ((pO C n a).1 + 1) (vDo C n s a V).1).2 + 1) else ((vDo C n s a V).1, 0)) else (V, 0)
section OK
variable {C : Nat → Nat} {n a : Nat}
/-- what stands in an order that is read -/
def pOk (C : Nat → Nat) (n a : Nat) : Prop :=
  (C a = 115 ∧ (48 ≤ C (a + 1) ∧ C (a + 1) ≤ 55) ∧ (48 ≤ C (a + 3) ∧ C (a + 3) ≤ 51) ∧ (1 ≤ pLo C n a ∧ pLo C n a ≤ 9) ∧ (a + 3 < n ∧ (ch C n 42 (a + 4) = true → a + 5 < n ∧ 50 ≤ C (a + 5) ∧ C (a + 5) ≤ 57))) ∨
  (C a = 114 ∧ (48 ≤ C (a + 1) ∧ C (a + 1) ≤ 55) ∧ (48 ≤ C (a + 2) ∧ C (a + 2) ≤ 55) ∧ C (a + 1) ≠ C (a + 2) ∧ pCo C n a ≤ 99 ∧ a + 4 < n ∧ (48 ≤ C (a + 4) ∧ C (a + 4) ≤ 57)) ∨
  (C a = 120 ∧ (48 ≤ C (a + 1) ∧ C (a + 1) ≤ 55) ∧ a + 1 < n)
theorem pO_ok (h : (pO C n a).2 = true) : a < n ∧ pOk C n a := by
  unfold pO at h
  by_cases c1 : ch C n 115 a = true
  · rw [if_pos c1] at h
    have e := of_decide_eq_true c1
    unfold pS at h
    by_cases d1 : dg C n 48 55 (a + 1) = true
    · rw [if_pos d1] at h
      by_cases d2 : ch C n 62 (a + 2) = true
      · rw [if_pos d2] at h
        by_cases d3 : dg C n 48 51 (a + 3) = true
        · rw [if_pos d3] at h
          have e1 := of_decide_eq_true d1
          have e3 := of_decide_eq_true d3
          refine ⟨e.1, Or.inl ⟨e.2, e1.2, e3.2, ?_, e3.1, ?_⟩⟩
          · unfold pLo
            by_cases d4 : ch C n 42 (a + 4) = true
            · rw [if_pos d4] at h ⊢
              by_cases d5 : dg C n 50 57 (a + 5) = true
              · have e5 := of_decide_eq_true d5
                omega
              · rw [if_neg d5] at h
                cases h
            · rw [if_neg d4]
              omega
          · intro d4
            rw [if_pos d4] at h
            by_cases d5 : dg C n 50 57 (a + 5) = true
            · exact of_decide_eq_true d5
            · rw [if_neg d5] at h
              cases h
        · rw [if_neg d3] at h
          cases h
      · rw [if_neg d2] at h
        cases h
    · rw [if_neg d1] at h
      cases h
  · rw [if_neg c1] at h
    by_cases c2 : ch C n 114 a = true
    · rw [if_pos c2] at h
      have e := of_decide_eq_true c2
      unfold pR at h
      by_cases d1 : dg C n 48 55 (a + 1) = true
      · rw [if_pos d1] at h
        by_cases dd : ch C n (C (a + 1)) (a + 2) = true
        · rw [if_pos dd] at h
          cases h
        · rw [if_neg dd] at h
          by_cases d2 : dg C n 48 55 (a + 2) = true
          · rw [if_pos d2] at h
            by_cases d3 : ch C n 61 (a + 3) = true
            · rw [if_pos d3] at h
              by_cases d4 : dg C n 48 57 (a + 4) = true
              · have e1 := of_decide_eq_true d1
                have e2 := of_decide_eq_true d2
                have e4 := of_decide_eq_true d4
                refine ⟨e.1, Or.inr (Or.inl ⟨e.2, e1.2, e2.2, fun z => dd (decide_eq_true ⟨e2.1, z.symm⟩), ?_, e4.1, e4.2⟩)⟩
                unfold pCo
                by_cases z : C (a + 4) ≠ 48 ∧ dg C n 48 57 (a + 5) = true
                · rw [if_pos z]
                  have e5 := of_decide_eq_true z.2
                  omega
                · rw [if_neg z]
                  omega
              · rw [if_neg d4] at h
                cases h
            · rw [if_neg d3] at h
              cases h
          · rw [if_neg d2] at h
            cases h
      · rw [if_neg d1] at h
        cases h
    · rw [if_neg c2] at h
      by_cases c3 : ch C n 120 a = true
      · rw [if_pos c3] at h
        have e := of_decide_eq_true c3
        unfold pX at h
        by_cases d1 : dg C n 48 55 (a + 1) = true
        · have e1 := of_decide_eq_true d1
          exact ⟨e.1, Or.inr (Or.inr ⟨e.2, e1.2, e1.1⟩)⟩
        · rw [if_neg d1] at h
          cases h
      · rw [if_neg c3] at h
        cases h
theorem vDo_wf {s : Nat} {V : Nat → Int32} (K : pOk C n a) (W : WFV V) (P : WFP V) (hs : V 66 = nI s) (h8 : s ≤ 8) : WFV (vDo C n s a V).1 ∧ WFP (vDo C n s a V).1 ∧ (vDo C n s a V).1 66 = nI s := by
  unfold vDo
  rcases K with ⟨c, c1, c3, cl, _⟩ | ⟨c, c1, c2, cn, cc, _⟩ | ⟨c, c1, _⟩
  · rw [if_neg (by omega), if_neg (by omega)]
    exact vSN_wf h8 (by omega) (by omega) _ V W P hs
  · rw [if_neg (by omega), if_pos c]
    refine ⟨WFV_lay W (by omega) (by omega) (by omega) cc, ?_, (vLay_o (by omega) (by omega) (by omega)).trans hs⟩
    unfold vLay
    exact WFP_free (WFP_free P (by omega)) (by omega)
  · rw [if_pos c]
    by_cases l : C (a + 1) - 48 < s
    · rw [if_pos l]
      refine ⟨WFV_turn W hs h8 l ?_, WFP_free P (by omega), (upd_o (by omega)).trans hs⟩
      rcases (vEx W hs h8 l).2.2 with z | z
      · rw [z]; exact Or.inr rfl
      · rw [z]; exact Or.inl rfl
    · rw [if_neg l]
      exact ⟨W, P, hs⟩
end OK
/-! the reference -/
/-- the same but for the row of now, what it measures, and where it reads -/
def rW (M M' : Nat → Nat → Nat → Int32) : Prop := (∀ k i, k ≠ 10 → k ≠ 32 → k ≠ 35 → M' k i = M k i) ∧ (∀ j, j < 6 ∨ 10 ≤ j → M' 10 0 j = M 10 0 j) ∧ (∀ j, 174 ≤ j → M' 32 0 j = M 32 0 j)
theorem rW.rf {M : Nat → Nat → Nat → Int32} : rW M M := ⟨fun _ _ _ _ _ => rfl, fun _ _ => rfl, fun _ _ => rfl⟩
theorem rW.tr {M M1 M2 : Nat → Nat → Nat → Int32} (h : rW M M1) (g : rW M1 M2) : rW M M2 := ⟨fun k i a b c => (g.1 k i a b c).trans (h.1 k i a b c), fun j hj => (g.2.1 j hj).trans (h.2.1 j hj), fun j hj => (g.2.2 j hj).trans (h.2.2 j hj)⟩
theorem rW_mT {M : Nat → Nat → Nat → Int32} {a x y v : Int32} : rW M (mT M a x y v) := ⟨fun k i a _ _ => u2_ne (fun q => a q.1), fun j hj => (show tF (M 10 0) a x y v j = M 10 0 j from tF_o hj), fun _ _ => rfl⟩
theorem rW_32 {M : Nat → Nat → Nat → Int32} {S : Nat → Int32} (h : ∀ j, 174 ≤ j → S j = M 32 0 j) : rW M (u2 M 32 0 S) := ⟨fun k i _ b _ => u2_ne (fun q => b q.1), fun _ _ => rfl, fun j hj => by rw [u2_self]; exact h j hj⟩
theorem rW_mea {M : Nat → Nat → Nat → Int32} {b : Nat} : rW M (mMea M b) := by
  unfold mMea
  exact ⟨fun k i _ _ c => u2_ne (fun q => c q.1), fun _ _ => rfl, fun _ _ => rfl⟩
theorem rTx_rW {M M' : Nat → Nat → Nat → Int32} {C : Nat → Nat} {n : Nat} (X : rTx M C n) (h : rW M M') : rTx M' C n := ⟨(h.2.1 5 (Or.inl (by decide))).trans X.1, X.2.1, fun j hj => by rw [h.1 34 0 (by decide) (by decide) (by decide)]; exact X.2.2 j hj⟩
section L21
variable {w : zWp} {d s t h n a : Nat} {M : Nat → Nat → Nat → Int32} {O : Nat → Int64} {V : Nat → Int32} {C : Nat → Nat}
theorem r_doesS (h7 : M 10 0 7 = nI t) (h8' : M 10 0 8 = nI h) {K : Nat} (h9 : M 10 0 9 = nI K) (hK : K ≤ 9) (h8 : s ≤ 8) (ht : t < 8) (hh : h < 4) (R : RowR M 0 V) (W : WFV V) (P : WFP V) (hs : V 66 = nI s) :
    ∃ M', (M' 10 = M 10 ∧ rW M M') ∧ RowR M' 0 (vSN s t h K V).1 ∧ zC w mX10_does (d + 7) [vR 10 0, vI (nI 115)] (zP M O) (zrI (zb (vSN s t h K V).2)) (zP M' O) := by
  have L : ∀ k m N U, m + k = K → N 10 = M 10 → RowR N 0 U → WFV U → WFP U → U 66 = nI s → ∃ M', (M' 10 = M 10 ∧ rW N M') ∧ RowR M' 0 (vSN s t h k U).1 ∧ zG w mX10_does (d + 7) 0 61 [vR 10 0, vI (nI 115), vI (nI m)] [] (zP N O) (zrI (zb (vSN s t h k U).2)) (zP M' O) := by
    intro k
    induction k with
    | zero =>
      intro m N U hm eN RN WU PU us
      refine ⟨N, ⟨eN, rW.rf⟩, RN, ?_⟩
      have n9 : N 10 0 9 = nI K := by rw [eN]; exact h9
      refine g_iload_n (n := 62) dX10_does_61 rfl rfl ?_
      refine g_aload_n (n := 63) dX10_does_62 rfl rfl ?_
      refine gf_X10_133 (n := 66) dX10_does_63 rfl rfl (z_lvP (by first | decide | assumption)) ?_
      rw [n9]
      refine g_icmp_ge (n := 69) (t := 110) dX10_does_66 rfl (by decide) (fun _ => ?_) (fun q9 => absurd (nI_le (by omega) (by omega)) q9)
      refine g_iload_n (n := 111) dX10_does_110 rfl rfl ?_
      refine g_aload_n (n := 112) dX10_does_111 rfl rfl ?_
      refine gf_X10_133 (n := 115) dX10_does_112 rfl rfl (z_lvP (by first | decide | assumption)) ?_
      rw [n9, show m = K by omega]
      refine g_icmp_ne (n := 118) (t := 122) dX10_does_115 rfl (by decide) (fun q9 => absurd rfl q9) (fun _ => ?_)
      refine g_iconst (n := 119) dX10_does_118 rfl k_ic_1 ?_
      refine g_goto (n := 0) (t := 123) dX10_does_119 (by decide) ?_
      exact g_ireturn dX10_does_123 rfl rfl rfl rfl
    | succ k ih =>
      intro m N U hm eN RN WU PU us
      have n7 : N 10 0 7 = nI t := by rw [eN]; exact h7
      have n8 : N 10 0 8 = nI h := by rw [eN]; exact h8'
      have n9 : N 10 0 9 = nI K := by rw [eN]; exact h9
      have n1 : N 32 0 171 = U 171 := RowR0 RN (by decide)
      unfold vSN
      by_cases l : U 171 < nI 9999
      · rw [if_pos l]
        obtain ⟨w1, w2, w3⟩ := vSnd_wf WU PU us h8 ht hh l
        have cs := r_sends (w := w) (d := d) (O := O) RN WU us h8 ht hh
        have R1 : RowR (u2 (mMea N 0) 32 0 (rSnd (N 32 0) U s t h)) 0 (vSnd U s t h) := fun j hj => by
          show rSnd (N 32 0) U s t h (0 + j) = _
          rw [Nat.zero_add]
          exact rSnd_row (fun i hi => RowR0 RN hi) WU us h8 ht hh j hj
        obtain ⟨M', ⟨e1, q1⟩, R2, G⟩ := ih (m + 1) _ _ (by omega) (show u2 (mMea N 0) 32 0 (rSnd (N 32 0) U s t h) 10 = M 10 from eN) R1 w1 w2 w3
        refine ⟨M', ⟨e1, (rW_mea.tr (rW_32 (fun j hj => rSnd_hi WU us h8 ht hh hj))).tr q1⟩, R2, ?_⟩
        have hge : ¬ vCho (vDi U) U s t h < -1 := by
          rcases vCho_in2 WU us h8 ht hh with z | ⟨e, he, z⟩
          · rw [z]; decide
          · rw [z]
            exact fun q => nI_pos (n := e) (by omega) (Int32.lt_trans q (by decide))
        refine g_iload_n (n := 62) dX10_does_61 rfl rfl ?_
        refine g_aload_n (n := 63) dX10_does_62 rfl rfl ?_
        refine gf_X10_133 (n := 66) dX10_does_63 rfl rfl (z_lvP (by first | decide | assumption)) ?_
        rw [n9]
        refine g_icmp_ge (n := 69) (t := 110) dX10_does_66 rfl (by decide) (fun q9 => absurd q9 (nI_ge (by omega) (by omega))) (fun _ => ?_)
        refine g_aload_n (n := 70) dX10_does_69 rfl rfl ?_
        refine gf_X10_7 (n := 73) dX10_does_70 rfl rfl (z_lvP (by first | decide | assumption)) rfl ?_
        refine g_sipush (n := 76) dX10_does_73 rfl k_sp_171 ?_
        refine g_iald (n := 77) dX10_does_76 rfl (by decide) (z_lvP (by first | decide | assumption)) rfl (by show _ < 1740; first | assumption | omega) ?_
        rw [n1]
        refine g_sipush (n := 80) dX10_does_77 rfl k_sp_9999 ?_
        refine g_icmp_ge (n := 83) (t := 110) dX10_does_80 rfl (by decide) (fun q9 => absurd q9 (Int32.not_le.mpr l)) (fun _ => ?_)
        refine g_iload_n (n := 84) dX10_does_83 rfl rfl ?_
        refine g_aload_n (n := 85) dX10_does_84 rfl rfl ?_
        refine g_aload_n (n := 86) dX10_does_85 rfl rfl ?_
        refine gf_X10_123 (n := 89) dX10_does_86 rfl rfl (z_lvP (by first | decide | assumption)) ?_
        rw [n7]
        refine g_aload_n (n := 90) dX10_does_89 rfl rfl ?_
        refine gf_X10_130 (n := 93) dX10_does_90 rfl rfl (z_lvP (by first | decide | assumption)) ?_
        rw [n8]
        refine g_cVv (n := 96) cs dX10_does_93 rfl kw_X10_107 rfl (by decide) (z_lvP (by first | decide | assumption)) (Nat.le_of_ble_eq_true rfl) ⟨Nat.le_refl _, Nat.le_refl _⟩ ?_ rfl
        refine g_iconst (n := 97) dX10_does_96 rfl k_ic_m1 ?_
        refine g_icmp_lt (n := 100) (t := 104) dX10_does_97 rfl (by decide) (fun q9 => absurd q9 hge) (fun _ => ?_)
        refine g_iconst (n := 101) dX10_does_100 rfl k_ic_1 ?_
        refine g_goto (n := 0) (t := 105) dX10_does_101 (by decide) ?_
        refine g_iadd (n := 106) dX10_does_105 rfl ?_
        rw [nI_add]
        refine g_istore2 (n := 107) dX10_does_106 rfl (by decide) rfl ?_
        refine g_goto (n := 0) (t := 61) dX10_does_107 (by decide) ?_
        exact G
      · rw [if_neg l]
        refine ⟨N, ⟨eN, rW.rf⟩, RN, ?_⟩
        refine g_iload_n (n := 62) dX10_does_61 rfl rfl ?_
        refine g_aload_n (n := 63) dX10_does_62 rfl rfl ?_
        refine gf_X10_133 (n := 66) dX10_does_63 rfl rfl (z_lvP (by first | decide | assumption)) ?_
        rw [n9]
        refine g_icmp_ge (n := 69) (t := 110) dX10_does_66 rfl (by decide) (fun q9 => absurd q9 (nI_ge (by omega) (by omega))) (fun _ => ?_)
        refine g_aload_n (n := 70) dX10_does_69 rfl rfl ?_
        refine gf_X10_7 (n := 73) dX10_does_70 rfl rfl (z_lvP (by first | decide | assumption)) rfl ?_
        refine g_sipush (n := 76) dX10_does_73 rfl k_sp_171 ?_
        refine g_iald (n := 77) dX10_does_76 rfl (by decide) (z_lvP (by first | decide | assumption)) rfl (by show _ < 1740; first | assumption | omega) ?_
        rw [n1]
        refine g_sipush (n := 80) dX10_does_77 rfl k_sp_9999 ?_
        refine g_icmp_ge (n := 83) (t := 110) dX10_does_80 rfl (by decide) (fun _ => ?_) (fun q9 => absurd (Int32.not_lt.mp l) q9)
        refine g_iload_n (n := 111) dX10_does_110 rfl rfl ?_
        refine g_aload_n (n := 112) dX10_does_111 rfl rfl ?_
        refine gf_X10_133 (n := 115) dX10_does_112 rfl rfl (z_lvP (by first | decide | assumption)) ?_
        rw [n9]
        refine g_icmp_ne (n := 118) (t := 122) dX10_does_115 rfl (by decide) (fun _ => ?_) (fun q9 => absurd q9 (fun q => by have := (nI_eq (by omega) (by omega)).mp q; omega))
        refine g_iconst (n := 123) dX10_does_122 rfl k_ic_0 ?_
        exact g_ireturn dX10_does_123 rfl rfl rfl rfl
  obtain ⟨M', Q, R', G⟩ := L K 0 M V (by omega) rfl R W P hs
  refine ⟨M', Q, R', ?_⟩
  refine zC_of (cr := 0) (L0 := [vR 10 0, vI (nI 115), vU]) rfl (by decide) (by decide) rfl (Nat.le_of_ble_eq_true rfl) rfl ?_
  refine g_iload_n (n := 1) dX10_does_0 rfl rfl ?_
  refine g_bipush (n := 3) dX10_does_1 rfl k_bp_120 ?_
  refine g_icmp_ne (n := 6) (t := 34) dX10_does_3 rfl (by decide) (fun _ => ?_) (fun q9 => absurd q9 (by decide))
  refine g_iload_n (n := 35) dX10_does_34 rfl rfl ?_
  refine g_bipush (n := 37) dX10_does_35 rfl k_bp_114 ?_
  refine g_icmp_ne (n := 40) (t := 59) dX10_does_37 rfl (by decide) (fun _ => ?_) (fun q9 => absurd q9 (by decide))
  refine g_iconst (n := 60) dX10_does_59 rfl k_ic_0 ?_
  refine g_istore2 (n := 61) dX10_does_60 rfl (by decide) rfl ?_
  exact G
theorem r_doesR {b c : Nat} (h7 : M 10 0 7 = nI a) (h8' : M 10 0 8 = nI b) (h9 : M 10 0 9 = nI c) (ha : a < 8) (hb : b < 8) (R : RowR M 0 V) :
    ∃ M', (M' 10 = M 10 ∧ rW M M') ∧ RowR M' 0 (vLay V a b (nI c)) ∧ zC w mX10_does (d + 7) [vR 10 0, vI (nI 114)] (zP M O) (zrI (nI 1)) (zP M' O) := by
  refine ⟨u2 M 32 0 (rLay (M 32 0) 0 a b (nI c)), ⟨rfl, rW_32 (fun j hj => ?_)⟩, fun j hj => ?_, ?_⟩
  · unfold rLay
    rw [upd_o (by omega), upd_o (by omega)]
  · show rLay (M 32 0) 0 a b (nI c) (0 + j) = _
    rw [rLay_row]
    exact vLay_c (fun i hi => R i hi) j hj
  · refine zC_of (cr := 0) (L0 := [vR 10 0, vI (nI 114), vU]) rfl (by decide) (by decide) rfl (Nat.le_of_ble_eq_true rfl) rfl ?_
    refine g_iload_n (n := 1) dX10_does_0 rfl rfl ?_
    refine g_bipush (n := 3) dX10_does_1 rfl k_bp_120 ?_
    refine g_icmp_ne (n := 6) (t := 34) dX10_does_3 rfl (by decide) (fun _ => ?_) (fun q9 => absurd q9 (by decide))
    refine g_iload_n (n := 35) dX10_does_34 rfl rfl ?_
    refine g_bipush (n := 37) dX10_does_35 rfl k_bp_114 ?_
    refine g_icmp_ne (n := 40) (t := 59) dX10_does_37 rfl (by decide) (fun q9 => absurd rfl q9) (fun _ => ?_)
    refine g_aload_n (n := 41) dX10_does_40 rfl rfl ?_
    refine g_iconst (n := 42) dX10_does_41 rfl k_ic_0 ?_
    refine g_aload_n (n := 43) dX10_does_42 rfl rfl ?_
    refine gf_X10_123 (n := 46) dX10_does_43 rfl rfl (z_lvP (by first | decide | assumption)) ?_
    rw [h7]
    refine g_aload_n (n := 47) dX10_does_46 rfl rfl ?_
    refine gf_X10_130 (n := 50) dX10_does_47 rfl rfl (z_lvP (by first | decide | assumption)) ?_
    rw [h8']
    refine g_aload_n (n := 51) dX10_does_50 rfl rfl ?_
    refine gf_X10_133 (n := 54) dX10_does_51 rfl rfl (z_lvP (by first | decide | assumption)) ?_
    rw [h9]
    refine g_cVn (n := 57) (r_laysM (b := 0) (by decide) ha hb) dX10_does_54 rfl kw_X10_30 rfl (by decide) (z_lvP (by first | decide | assumption)) (Nat.le_of_ble_eq_true rfl) ⟨Nat.le_refl _, Nat.le_refl _⟩ ?_ rfl
    refine g_iconst (n := 58) dX10_does_57 rfl k_ic_1 ?_
    exact g_ireturn dX10_does_58 rfl rfl rfl rfl
theorem r_doesX {e : Nat} (h7 : M 10 0 7 = nI e) (he : e < 8) (h8 : s ≤ 8) (R : RowR M 0 V) (W : WFV V) (hs : V 66 = nI s) :
    ∃ M', (M' 10 = M 10 ∧ rW M M') ∧ RowR M' 0 (if e < s then (upd V (69 + 5 * e) (nI 1 - V (69 + 5 * e)), true) else (V, false)).1 ∧ zC w mX10_does (d + 7) [vR 10 0, vI (nI 120)] (zP M O) (zrI (zb (if e < s then (upd V (69 + 5 * e) (nI 1 - V (69 + 5 * e)), true) else (V, false)).2)) (zP M' O) := by
  have ms : M 32 0 66 = nI s := (RowR0 R (by decide)).trans hs
  have ci := r_isExit (w := w) (d := d + 5) (O := O) ms h8 (nI e)
  by_cases l : e < s
  · rw [if_pos l]
    rw [z_ok_nI l (by omega)] at ci
    have ct := r_turns (w := w) (d := d + 5) (M := M) (O := O) (S := M 32 0) he
    have ev : M 32 0 (69 + 5 * e) = V (69 + 5 * e) := RowR0 R (by omega)
    rw [u2_id, ev] at ct
    have hp : ¬ nI 1 - V (69 + 5 * e) < 0 := by
      rcases (vEx W hs h8 l).2.2 with z | z
      · rw [z]; decide
      · rw [z]; decide
    refine ⟨u2 M 32 0 (upd (M 32 0) (69 + 5 * e) (nI 1 - V (69 + 5 * e))), ⟨rfl, rW_32 (fun j hj => upd_o (by omega))⟩, fun j hj => ?_, ?_⟩
    · show upd (M 32 0) (69 + 5 * e) (nI 1 - V (69 + 5 * e)) (0 + j) = _
      rw [Nat.zero_add]
      exact upd_c (n := 174) (fun i hi => RowR0 R hi) j hj
    · refine zC_of (cr := 0) (L0 := [vR 10 0, vI (nI 120), vU]) rfl (by decide) (by decide) rfl (Nat.le_of_ble_eq_true rfl) rfl ?_
      refine g_iload_n (n := 1) dX10_does_0 rfl rfl ?_
      refine g_bipush (n := 3) dX10_does_1 rfl k_bp_120 ?_
      refine g_icmp_ne (n := 6) (t := 34) dX10_does_3 rfl (by decide) (fun q9 => absurd rfl q9) (fun _ => ?_)
      refine g_aload_n (n := 7) dX10_does_6 rfl rfl ?_
      refine g_aload_n (n := 8) dX10_does_7 rfl rfl ?_
      refine gf_X10_123 (n := 11) dX10_does_8 rfl rfl (z_lvP (by first | decide | assumption)) ?_
      rw [h7]
      refine g_cVv (n := 14) ci dX10_does_11 rfl kw_X10_94 rfl (by decide) (z_lvP (by first | decide | assumption)) (Nat.le_of_ble_eq_true rfl) ⟨Nat.le_refl _, Nat.le_refl _⟩ ?_ rfl
      refine g_if_eq (n := 17) (t := 32) dX10_does_14 rfl (by decide) (fun q9 => absurd q9 (by decide)) (fun _ => ?_)
      refine g_aload_n (n := 18) dX10_does_17 rfl rfl ?_
      refine g_aload_n (n := 19) dX10_does_18 rfl rfl ?_
      refine gf_X10_123 (n := 22) dX10_does_19 rfl rfl (z_lvP (by first | decide | assumption)) ?_
      rw [h7]
      refine g_cVv (n := 25) ct dX10_does_22 rfl kw_X10_97 rfl (by decide) (z_lvP (by first | decide | assumption)) (Nat.le_of_ble_eq_true rfl) ⟨Nat.le_refl _, Nat.le_refl _⟩ ?_ rfl
      refine g_if_lt (n := 28) (t := 32) dX10_does_25 rfl (by decide) (fun q9 => absurd q9 hp) (fun _ => ?_)
      refine g_iconst (n := 29) dX10_does_28 rfl k_ic_1 ?_
      refine g_goto (n := 0) (t := 33) dX10_does_29 (by decide) ?_
      exact g_ireturn dX10_does_33 rfl rfl rfl rfl
  · rw [if_neg l]
    rw [z_ok_ge (nI_le (by omega) (by omega))] at ci
    refine ⟨M, ⟨rfl, rW.rf⟩, R, ?_⟩
    refine zC_of (cr := 0) (L0 := [vR 10 0, vI (nI 120), vU]) rfl (by decide) (by decide) rfl (Nat.le_of_ble_eq_true rfl) rfl ?_
    refine g_iload_n (n := 1) dX10_does_0 rfl rfl ?_
    refine g_bipush (n := 3) dX10_does_1 rfl k_bp_120 ?_
    refine g_icmp_ne (n := 6) (t := 34) dX10_does_3 rfl (by decide) (fun q9 => absurd rfl q9) (fun _ => ?_)
    refine g_aload_n (n := 7) dX10_does_6 rfl rfl ?_
    refine g_aload_n (n := 8) dX10_does_7 rfl rfl ?_
    refine gf_X10_123 (n := 11) dX10_does_8 rfl rfl (z_lvP (by first | decide | assumption)) ?_
    rw [h7]
    refine g_cVv (n := 14) ci dX10_does_11 rfl kw_X10_94 rfl (by decide) (z_lvP (by first | decide | assumption)) (Nat.le_of_ble_eq_true rfl) ⟨Nat.le_refl _, Nat.le_refl _⟩ ?_ rfl
    refine g_if_eq (n := 17) (t := 32) dX10_does_14 rfl (by decide) (fun _ => ?_) (fun q9 => absurd rfl q9)
    refine g_iconst (n := 33) dX10_does_32 rfl k_ic_0 ?_
    exact g_ireturn dX10_does_33 rfl rfl rfl rfl
theorem r_does (K : pOk C n a) (hv : pV C n a (M 10 0 7) (M 10 0 8) (M 10 0 9)) (h8 : s ≤ 8) (R : RowR M 0 V) (W : WFV V) (P : WFP V) (hs : V 66 = nI s) :
    ∃ M', (M' 10 = M 10 ∧ rW M M') ∧ RowR M' 0 (vDo C n s a V).1 ∧ zC w mX10_does (d + 7) [vR 10 0, vI (nI (C a))] (zP M O) (zrI (zb (vDo C n s a V).2)) (zP M' O) := by
  unfold vDo
  obtain ⟨v1, v2, v3⟩ := hv
  rcases K with ⟨c, c1, c3, cl, _⟩ | ⟨c, c1, c2, cn, cc, _⟩ | ⟨c, c1, _⟩
  · rw [if_neg (by omega), if_neg (by omega), c]
    obtain ⟨e1, e2, e3⟩ := v1 c
    exact r_doesS e1 e2 e3 cl.2 h8 (by omega) (by omega) R W P hs
  · rw [if_neg (by omega), if_pos c, c]
    obtain ⟨e1, e2, e3⟩ := v2 c
    exact r_doesR e1 e2 e3 (by omega) (by omega) R
  · rw [if_pos c, c]
    exact r_doesX (v3 c) (by omega) h8 R W hs
theorem mT_of {N : Nat → Nat → Nat → Int32} {a x y v : Int32} (h6 : N 10 0 6 = a) (h7 : N 10 0 7 = x) (h8 : N 10 0 8 = y) (h9 : N 10 0 9 = v) : N = mT N a x y v := by
  rw [← h6, ← h7, ← h8, ← h9, mT_id]
theorem r_runL (h8 : s ≤ 8) : ∀ k a N x y v (V : Nat → Int32) m, pE C n k a = none → a ≤ n → nSt C a = 0 → rTx N C n → RowR N 0 V → WFV V → WFP V → V 66 = nI s → m + k < 1000 →
    ∃ M', rW N M' ∧ RowR M' 0 (vRun C n s k a V).1 ∧ zG w mX10_run (d + 9) 0 35 [vR 10 0, vI (nI m), vI (nI 1)] [] (zP (mT N (nI a) x y v) O) (zrI (nI (m + (vRun C n s k a V).2))) (zP (u3 M' 10 0 5 (nI 0)) O) := by
  intro k
  induction k with
  | zero => intro a N x y v V m hp; cases hp
  | succ k ih =>
    intro a N x y v V m hp ha h0 X R W P hs hm
    unfold pE at hp
    obtain ⟨⟨b1, b2⟩, b3, b4, b5⟩ := pO_spec ha h0
    cases hb : (pO C n a).2
    · rw [hb, if_neg (by decide)] at hp
      cases hp
    · rw [hb, if_pos rfl] at hp
      obtain ⟨al, K⟩ := pO_ok hb
      obtain ⟨f1, f2, f3, f4⟩ := b5 hb
      obtain ⟨x1, y1, v1, co, hv⟩ := r_order (w := w) (d := d + 5) (O := O) (x := x) (y := y) (v := v) X ha
      have hv1 := hv hb
      obtain ⟨e, he⟩ : ∃ e, e = (pO C n a).1 := ⟨_, rfl⟩
      rw [hb, if_pos rfl] at co
      rw [← he] at co hp b2 f2 f3
      have h60 := X.2.1
      obtain ⟨M1, ⟨k1, q1⟩, R1, cd⟩ := r_does (w := w) (d := d + 1) (O := O) (M := mT N (nI e) x1 y1 v1) (s := s) (V := V) K hv1 h8 R W P hs
      have X1 : rTx M1 C n := rTx_rW (rTx_rW X rW_mT) q1
      obtain ⟨w1, w2, w3⟩ := vDo_wf (s := s) K W P hs h8
      have m6 : M1 10 0 6 = nI e := by rw [k1]; rfl
      have m7 : M1 10 0 7 = x1 := by rw [k1]; rfl
      have m8 : M1 10 0 8 = y1 := by rw [k1]; rfl
      have m9 : M1 10 0 9 = v1 := by rw [k1]; rfl
      have em := mT_of m6 m7 m8 m9
      have kt := r_takes (w := w) (d := d + 8) (O := O) (x := x1) (y := y1) (v := v1) X1 b2 (c := 59) (by decide)
      rw [← em] at kt
      have er : vRun C n s (k + 1) a V = if (vDo C n s a V).2 then ((vRun C n s k (e + 1) (vDo C n s a V).1).1, (vRun C n s k (e + 1) (vDo C n s a V).1).2 + 1) else ((vDo C n s a V).1, 0) := by
        rw [he]
        show (if a < n then _ else _) = _
        rw [if_pos al]
      rw [er]
      have n5 : mT N (nI a) x y v 10 0 5 = nI n := X.1
      have tail : ∀ (N2 : Nat → Nat → Nat → Int32) (mm z : Int32), zG w mX10_run (d + 9) 0 81 [vR 10 0, vI mm, vI z] [] (zP N2 O) (zrI mm) (zP (u3 N2 10 0 5 (nI 0)) O) := by
        intro N2 mm z
        refine g_aload_n (n := 82) dX10_run_81 rfl rfl ?_
        refine g_iconst (n := 83) dX10_run_82 rfl k_ic_0 ?_
        refine gw_X10_113 (n := 86) dX10_run_83 rfl rfl (z_lvP (by first | decide | assumption)) ?_
        refine g_iload_n (n := 87) dX10_run_86 rfl rfl ?_
        exact g_ireturn dX10_run_87 rfl rfl rfl rfl
      have m5 : ∀ q, mT M1 q x1 y1 v1 10 0 5 = nI n := fun _ => X1.1
      cases hd : (vDo C n s a V).2
      · rw [hd] at cd
        rw [if_neg (by decide)]
        refine ⟨_, (rW_mT.tr q1).tr (rW_mT (M := M1) (a := nI (if ch C n 59 e then e + 1 else e)) (x := x1) (y := y1) (v := v1)), R1, ?_⟩
        refine g_aload_n (n := 36) dX10_run_35 rfl rfl ?_
        refine gf_X10_116 (n := 39) dX10_run_36 rfl rfl (z_lvP (by first | decide | assumption)) ?_
        rw [show mT N (nI a) x y v 10 0 6 = nI a from rfl]
        refine g_aload_n (n := 40) dX10_run_39 rfl rfl ?_
        refine gf_X10_113 (n := 43) dX10_run_40 rfl rfl (z_lvP (by first | decide | assumption)) ?_
        rw [n5]
        refine g_icmp_ge (n := 46) (t := 81) dX10_run_43 rfl (by decide) (fun q9 => absurd q9 (nI_ge al (by omega))) (fun _ => ?_)
        refine g_iload_n (n := 47) dX10_run_46 rfl rfl ?_
        refine g_if_eq (n := 50) (t := 81) dX10_run_47 rfl (by decide) (fun q9 => absurd q9 (by decide)) (fun _ => ?_)
        refine g_aload_n (n := 51) dX10_run_50 rfl rfl ?_
        refine g_aload_n (n := 52) dX10_run_51 rfl rfl ?_
        refine g_cVv (n := 55) co dX10_run_52 rfl kw_X10_143 rfl (by decide) (z_lvP (by first | decide | assumption)) (Nat.le_of_ble_eq_true rfl) ⟨Nat.le_refl _, Nat.le_refl _⟩ ?_ rfl
        refine g_cVv (n := 58) cd dX10_run_55 rfl kw_X10_151 rfl (by decide) (z_lvP (by first | decide | assumption)) (Nat.le_of_ble_eq_true rfl) ⟨Nat.le_refl _, Nat.le_refl _⟩ ?_ rfl
        refine g_istore2 (n := 59) dX10_run_58 rfl (by decide) rfl ?_
        refine g_iload_n (n := 60) dX10_run_59 rfl rfl ?_
        refine g_iload_n (n := 61) dX10_run_60 rfl rfl ?_
        refine g_if_eq (n := 64) (t := 68) dX10_run_61 rfl (by decide) (fun _ => ?_) (fun q9 => absurd rfl q9)
        refine g_iconst (n := 69) dX10_run_68 rfl k_ic_0 ?_
        refine g_iadd (n := 70) dX10_run_69 rfl ?_
        rw [show nI m + nI 0 = nI m from nI_add m 0]
        refine g_istore1 (n := 71) dX10_run_70 rfl (by decide) rfl ?_
        refine g_aload_n (n := 72) dX10_run_71 rfl rfl ?_
        refine g_bipush (n := 74) dX10_run_72 rfl k_bp_59 ?_
        refine g_cVv (n := 77) kt dX10_run_74 rfl kw_X10_126 rfl (by decide) (z_lvP (by first | decide | assumption)) (Nat.le_of_ble_eq_true rfl) ⟨Nat.le_refl _, Nat.le_refl _⟩ ?_ rfl
        refine g_pop (n := 78) dX10_run_77 rfl rfl ?_
        refine g_goto (n := 0) (t := 35) dX10_run_78 (by decide) ?_
        refine g_aload_n (n := 36) dX10_run_35 rfl rfl ?_
        refine gf_X10_116 (n := 39) dX10_run_36 rfl rfl (z_lvP (by first | decide | assumption)) ?_
        obtain ⟨q, hq⟩ : ∃ q, q = nI (if ch C n 59 e then e + 1 else e) := ⟨_, rfl⟩
        rw [← hq]
        rw [show mT M1 q x1 y1 v1 10 0 6 = q from rfl]
        refine g_aload_n (n := 40) dX10_run_39 rfl rfl ?_
        refine gf_X10_113 (n := 43) dX10_run_40 rfl rfl (z_lvP (by first | decide | assumption)) ?_
        rw [m5]
        refine g_icmp_ge (n := 46) (t := 81) dX10_run_43 rfl (by decide) (fun c43 => ?_) (fun c43 => ?_)
        · exact tail _ _ _
        · refine g_iload_n (n := 47) dX10_run_46 rfl rfl ?_
          refine g_if_eq (n := 50) (t := 81) dX10_run_47 rfl (by decide) (fun _ => ?_) (fun q9 => absurd rfl q9)
          exact tail _ _ _
      · rw [hd] at cd
        rw [if_pos rfl]
        by_cases l : e = n
        · have l3 : ch C n 59 e = false := decide_eq_false (fun q => by have := q.1; omega)
          rw [l3, if_neg (by decide), ← em] at kt
          have rz : vRun C n s k (e + 1) (vDo C n s a V).1 = ((vDo C n s a V).1, 0) := by
            cases k with
            | zero => rfl
            | succ k =>
              show (if e + 1 < n then _ else _) = _
              rw [if_neg (by omega)]
          rw [rz]
          refine ⟨M1, rW_mT.tr q1, R1, ?_⟩
          refine g_aload_n (n := 36) dX10_run_35 rfl rfl ?_
          refine gf_X10_116 (n := 39) dX10_run_36 rfl rfl (z_lvP (by first | decide | assumption)) ?_
          rw [show mT N (nI a) x y v 10 0 6 = nI a from rfl]
          refine g_aload_n (n := 40) dX10_run_39 rfl rfl ?_
          refine gf_X10_113 (n := 43) dX10_run_40 rfl rfl (z_lvP (by first | decide | assumption)) ?_
          rw [n5]
          refine g_icmp_ge (n := 46) (t := 81) dX10_run_43 rfl (by decide) (fun q9 => absurd q9 (nI_ge al (by omega))) (fun _ => ?_)
          refine g_iload_n (n := 47) dX10_run_46 rfl rfl ?_
          refine g_if_eq (n := 50) (t := 81) dX10_run_47 rfl (by decide) (fun q9 => absurd q9 (by decide)) (fun _ => ?_)
          refine g_aload_n (n := 51) dX10_run_50 rfl rfl ?_
          refine g_aload_n (n := 52) dX10_run_51 rfl rfl ?_
          refine g_cVv (n := 55) co dX10_run_52 rfl kw_X10_143 rfl (by decide) (z_lvP (by first | decide | assumption)) (Nat.le_of_ble_eq_true rfl) ⟨Nat.le_refl _, Nat.le_refl _⟩ ?_ rfl
          refine g_cVv (n := 58) cd dX10_run_55 rfl kw_X10_151 rfl (by decide) (z_lvP (by first | decide | assumption)) (Nat.le_of_ble_eq_true rfl) ⟨Nat.le_refl _, Nat.le_refl _⟩ ?_ rfl
          refine g_istore2 (n := 59) dX10_run_58 rfl (by decide) rfl ?_
          refine g_iload_n (n := 60) dX10_run_59 rfl rfl ?_
          refine g_iload_n (n := 61) dX10_run_60 rfl rfl ?_
          refine g_if_eq (n := 64) (t := 68) dX10_run_61 rfl (by decide) (fun q9 => absurd q9 (by decide)) (fun _ => ?_)
          refine g_iconst (n := 65) dX10_run_64 rfl k_ic_1 ?_
          refine g_goto (n := 0) (t := 69) dX10_run_65 (by decide) ?_
          refine g_iadd (n := 70) dX10_run_69 rfl ?_
          rw [nI_add]
          refine g_istore1 (n := 71) dX10_run_70 rfl (by decide) rfl ?_
          refine g_aload_n (n := 72) dX10_run_71 rfl rfl ?_
          refine g_bipush (n := 74) dX10_run_72 rfl k_bp_59 ?_
          refine g_cVv (n := 77) kt dX10_run_74 rfl kw_X10_126 rfl (by decide) (z_lvP (by first | decide | assumption)) (Nat.le_of_ble_eq_true rfl) ⟨Nat.le_refl _, Nat.le_refl _⟩ ?_ rfl
          refine g_pop (n := 78) dX10_run_77 rfl rfl ?_
          refine g_goto (n := 0) (t := 35) dX10_run_78 (by decide) ?_
          refine g_aload_n (n := 36) dX10_run_35 rfl rfl ?_
          refine gf_X10_116 (n := 39) dX10_run_36 rfl rfl (z_lvP (by first | decide | assumption)) ?_
          rw [m6]
          refine g_aload_n (n := 40) dX10_run_39 rfl rfl ?_
          refine gf_X10_113 (n := 43) dX10_run_40 rfl rfl (z_lvP (by first | decide | assumption)) ?_
          rw [show M1 10 0 5 = nI n from X1.1]
          refine g_icmp_ge (n := 46) (t := 81) dX10_run_43 rfl (by decide) (fun _ => ?_) (fun q9 => absurd (by rw [l]; exact Int32.le_refl _) q9)
          exact tail _ _ _
        · rw [if_neg l] at hp
          have l2 : e < n := by omega
          by_cases c : C e = 59
          · rw [if_pos c] at hp
            have z := f2 l2
            rw [if_pos c] at z
            have l3 : ch C n 59 e = true := decide_eq_true ⟨l2, c⟩
            rw [l3, if_pos rfl] at kt
            obtain ⟨M', Q', R', G⟩ := ih (e + 1) M1 x1 y1 v1 _ (m + 1) hp (by omega) z X1 R1 w1 w2 w3 (by omega)
            refine ⟨M', (rW_mT.tr q1).tr Q', R', ?_⟩
            rw [show m + ((vRun C n s k (e + 1) (vDo C n s a V).1).2 + 1) = m + 1 + (vRun C n s k (e + 1) (vDo C n s a V).1).2 by omega]
            refine g_aload_n (n := 36) dX10_run_35 rfl rfl ?_
            refine gf_X10_116 (n := 39) dX10_run_36 rfl rfl (z_lvP (by first | decide | assumption)) ?_
            rw [show mT N (nI a) x y v 10 0 6 = nI a from rfl]
            refine g_aload_n (n := 40) dX10_run_39 rfl rfl ?_
            refine gf_X10_113 (n := 43) dX10_run_40 rfl rfl (z_lvP (by first | decide | assumption)) ?_
            rw [n5]
            refine g_icmp_ge (n := 46) (t := 81) dX10_run_43 rfl (by decide) (fun q9 => absurd q9 (nI_ge al (by omega))) (fun _ => ?_)
            refine g_iload_n (n := 47) dX10_run_46 rfl rfl ?_
            refine g_if_eq (n := 50) (t := 81) dX10_run_47 rfl (by decide) (fun q9 => absurd q9 (by decide)) (fun _ => ?_)
            refine g_aload_n (n := 51) dX10_run_50 rfl rfl ?_
            refine g_aload_n (n := 52) dX10_run_51 rfl rfl ?_
            refine g_cVv (n := 55) co dX10_run_52 rfl kw_X10_143 rfl (by decide) (z_lvP (by first | decide | assumption)) (Nat.le_of_ble_eq_true rfl) ⟨Nat.le_refl _, Nat.le_refl _⟩ ?_ rfl
            refine g_cVv (n := 58) cd dX10_run_55 rfl kw_X10_151 rfl (by decide) (z_lvP (by first | decide | assumption)) (Nat.le_of_ble_eq_true rfl) ⟨Nat.le_refl _, Nat.le_refl _⟩ ?_ rfl
            refine g_istore2 (n := 59) dX10_run_58 rfl (by decide) rfl ?_
            refine g_iload_n (n := 60) dX10_run_59 rfl rfl ?_
            refine g_iload_n (n := 61) dX10_run_60 rfl rfl ?_
            refine g_if_eq (n := 64) (t := 68) dX10_run_61 rfl (by decide) (fun q9 => absurd q9 (by decide)) (fun _ => ?_)
            refine g_iconst (n := 65) dX10_run_64 rfl k_ic_1 ?_
            refine g_goto (n := 0) (t := 69) dX10_run_65 (by decide) ?_
            refine g_iadd (n := 70) dX10_run_69 rfl ?_
            rw [nI_add]
            refine g_istore1 (n := 71) dX10_run_70 rfl (by decide) rfl ?_
            refine g_aload_n (n := 72) dX10_run_71 rfl rfl ?_
            refine g_bipush (n := 74) dX10_run_72 rfl k_bp_59 ?_
            refine g_cVv (n := 77) kt dX10_run_74 rfl kw_X10_126 rfl (by decide) (z_lvP (by first | decide | assumption)) (Nat.le_of_ble_eq_true rfl) ⟨Nat.le_refl _, Nat.le_refl _⟩ ?_ rfl
            refine g_pop (n := 78) dX10_run_77 rfl rfl ?_
            refine g_goto (n := 0) (t := 35) dX10_run_78 (by decide) ?_
            exact G
          · rw [if_neg c] at hp
            cases hp
theorem mT_set6 {N : Nat → Nat → Nat → Int32} {b : Int32} : u3 N 10 0 6 b = mT N b (N 10 0 7) (N 10 0 8) (N 10 0 9) := by
  rw [← u3_eq]
  unfold mT
  congr 1
  conv => lhs; arg 1; rw [tF_id (N 10 0)]
  rw [tF_6]
theorem rW_u3 {M M' : Nat → Nat → Nat → Int32} {j : Nat} {z : Int32} (h : rW M M') : rW (u3 M 10 0 j z) (u3 M' 10 0 j z) := by
  refine ⟨fun k i a b c => ?_, fun q hq => ?_, fun q hq => ?_⟩
  · rw [u3_kf a, u3_kf a]
    exact h.1 k i a b c
  · unfold u3
    by_cases e : q = j
    · rw [if_pos ⟨rfl, rfl, e⟩, if_pos ⟨rfl, rfl, e⟩]
    · rw [if_neg (fun z => e z.2.2), if_neg (fun z => e z.2.2)]
      exact h.2.1 q hq
  · rw [u3_nk (by decide), u3_nk (by decide)]
    exact h.2.2 q hq
theorem rW_row {M M' : Nat → Nat → Nat → Int32} {S : Nat → Int32} (h : rW M M') : rW (u2 M 32 0 S) (u2 M' 32 0 S) :=
  ⟨fun k i a b c => by rw [u2_ne (fun q => b q.1), u2_ne (fun q => b q.1)]; exact h.1 k i a b c, fun q hq => h.2.1 q hq, fun _ _ => rfl⟩
theorem r_runNo (X : rTx M C n) {e : Nat} (hp : pE C n (n + 1) 0 = some e) : ∃ M', rW (u3 M 10 0 3 (nI 1)) M' ∧ M' 32 0 = M 32 0 ∧ zC w mX10_run (d + 9) [vR 10 0] (zP M O) (zrI (nI 0)) (zP M' O) := by
  obtain ⟨a', x', y', v', ce⟩ := r_error (w := w) (d := d + 4) (O := O) X
  have hs := pE_spec (C := C) (n := n) (n + 1) 0 (Nat.zero_le _) (by omega) rfl
  rw [hp] at ce hs
  have e1 := hs.1.2
  have h60 := X.2.1
  have cg := r_goes (w := w) (d := d + 8) (M := mT M a' x' y' v') (O := O) false true
  refine ⟨u3 (mT M a' x' y' v') 10 0 3 (nI 1), rW_u3 rW_mT, rfl, ?_⟩
  refine zC_of (cr := 0) (L0 := [vR 10 0, vU, vU]) rfl (by decide) (by decide) rfl (Nat.le_of_ble_eq_true rfl) rfl ?_
  refine g_aload_n (n := 1) dX10_run_0 rfl rfl ?_
  refine g_aload_n (n := 2) dX10_run_1 rfl rfl ?_
  refine g_cVv (n := 5) ce dX10_run_2 rfl kw_X10_147 rfl (by decide) (z_lvP (by first | decide | assumption)) (Nat.le_of_ble_eq_true rfl) ⟨Nat.le_refl _, Nat.le_refl _⟩ ?_ rfl
  refine g_if_ge (n := 8) (t := 12) dX10_run_5 rfl (by decide) (fun _ => ?_) (fun q9 => absurd (nI_pos' (n := e) (by omega)) q9)
  refine g_iconst (n := 13) dX10_run_12 rfl k_ic_0 ?_
  refine g_iconst (n := 14) dX10_run_13 rfl k_ic_1 ?_
  refine g_cVv (n := 17) cg dX10_run_14 rfl kw_X10_87 rfl (by decide) (z_lvP (by first | decide | assumption)) (Nat.le_of_ble_eq_true rfl) ⟨Nat.le_refl _, Nat.le_refl _⟩ ?_ rfl
  refine g_if_ne (n := 20) (t := 22) dX10_run_17 rfl (by decide) (fun q9 => absurd rfl q9) (fun _ => ?_)
  refine g_iconst (n := 21) dX10_run_20 rfl k_ic_0 ?_
  exact g_ireturn dX10_run_21 rfl rfl rfl rfl
theorem r_runYes {h : Nat} (X : rTx M C n) (hp : pE C n (n + 1) 0 = none) (hh : M 10 0 1 = nI h) (h6 : h ≤ 6) (h8 : s ≤ 8) (R : RowR M 0 V) (W : WFV V) (P : WFP V) (hs : V 66 = nI s) :
    ∃ M', rW (u3 (u2 (mSv M h) 32 0 (rSave (M 32 0) h)) 10 0 5 (nI 0)) M' ∧ RowR M' 0 (vRun C n s (n + 1) 0 V).1 ∧ zC w mX10_run (d + 9) [vR 10 0] (zP M O) (zrI (nI (vRun C n s (n + 1) 0 V).2)) (zP M' O) := by
  obtain ⟨a', x', y', v', ce⟩ := r_error (w := w) (d := d + 4) (O := O) X
  rw [hp] at ce
  have h60 := X.2.1
  obtain ⟨Q, hQ⟩ : ∃ Q, Q = mT M a' x' y' v' := ⟨_, rfl⟩
  have q0 : rW M Q := by rw [hQ]; exact rW_mT
  have q32 : Q 32 0 = M 32 0 := by rw [hQ]; rfl
  have q1 : Q 10 0 1 = nI h := by rw [hQ]; exact hh
  rw [← hQ] at ce
  have cg := r_goes (w := w) (d := d + 8) (M := Q) (O := O) true true
  have cs := r_savesM (w := w) (d := d + 7) (M := Q) (O := O) q1 h6
  rw [q32] at cs
  have w0 : rW (u2 (mSv M h) 32 0 (rSave (M 32 0) h)) (u2 (mSv Q h) 32 0 (rSave (M 32 0) h)) := rW_row (rW_u3 (rW_u3 q0))
  have XG : rTx (u2 (mSv Q h) 32 0 (rSave (M 32 0) h)) C n := rTx_rW (M := u2 (mSv M h) 32 0 (rSave (M 32 0) h)) X w0
  have RG : RowR (u2 (mSv Q h) 32 0 (rSave (M 32 0) h)) 0 V := fun j hj => by
    show rSave (M 32 0) h (0 + j) = V j
    rw [rSave_lo (by omega)]
    exact R j hj
  obtain ⟨G, hG⟩ : ∃ G, G = u2 (mSv Q h) 32 0 (rSave (M 32 0) h) := ⟨_, rfl⟩
  rw [← hG] at cs w0 XG RG
  obtain ⟨M', Q', R', L⟩ := r_runL (w := w) (d := d) (O := O) h8 (n + 1) 0 G (G 10 0 7) (G 10 0 8) (G 10 0 9) V 0 hp (Nat.zero_le _) rfl XG RG W P hs (by omega)
  rw [← mT_set6, Nat.zero_add] at L
  refine ⟨u3 M' 10 0 5 (nI 0), rW_u3 (w0.tr Q'), R', ?_⟩
  refine zC_of (cr := 0) (L0 := [vR 10 0, vU, vU]) rfl (by decide) (by decide) rfl (Nat.le_of_ble_eq_true rfl) rfl ?_
  refine g_aload_n (n := 1) dX10_run_0 rfl rfl ?_
  refine g_aload_n (n := 2) dX10_run_1 rfl rfl ?_
  refine g_cVv (n := 5) ce dX10_run_2 rfl kw_X10_147 rfl (by decide) (z_lvP (by first | decide | assumption)) (Nat.le_of_ble_eq_true rfl) ⟨Nat.le_refl _, Nat.le_refl _⟩ ?_ rfl
  refine g_if_ge (n := 8) (t := 12) dX10_run_5 rfl (by decide) (fun q9 => absurd q9 (show ¬ (0 : Int32) ≤ -1 by decide)) (fun _ => ?_)
  refine g_iconst (n := 9) dX10_run_8 rfl k_ic_1 ?_
  refine g_goto (n := 0) (t := 13) dX10_run_9 (by decide) ?_
  refine g_iconst (n := 14) dX10_run_13 rfl k_ic_1 ?_
  refine g_cVv (n := 17) cg dX10_run_14 rfl kw_X10_87 rfl (by decide) (z_lvP (by first | decide | assumption)) (Nat.le_of_ble_eq_true rfl) ⟨Nat.le_refl _, Nat.le_refl _⟩ ?_ rfl
  refine g_if_ne (n := 20) (t := 22) dX10_run_17 rfl (by decide) (fun _ => ?_) (fun q9 => absurd q9 (by decide))
  refine g_aload_n (n := 23) dX10_run_22 rfl rfl ?_
  refine g_cVn (n := 26) cs dX10_run_23 rfl kw_X10_91 rfl (by decide) (z_lvP (by first | decide | assumption)) (Nat.le_of_ble_eq_true rfl) ⟨Nat.le_refl _, Nat.le_refl _⟩ ?_ rfl
  refine g_aload_n (n := 27) dX10_run_26 rfl rfl ?_
  refine g_iconst (n := 28) dX10_run_27 rfl k_ic_0 ?_
  refine gw_X10_116 (n := 31) dX10_run_28 rfl rfl (z_lvP (by first | decide | assumption)) ?_
  refine g_iconst (n := 32) dX10_run_31 rfl k_ic_0 ?_
  refine g_istore1 (n := 33) dX10_run_32 rfl (by decide) rfl ?_
  refine g_iconst (n := 34) dX10_run_33 rfl k_ic_1 ?_
  refine g_istore2 (n := 35) dX10_run_34 rfl (by decide) rfl ?_
  exact L
end L21

