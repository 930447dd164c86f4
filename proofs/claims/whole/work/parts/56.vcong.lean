/-! Marks, grades, the choice: of the row and of the distances they hang on these numbers alone. -/
theorem mfo_cong {p q : Nat → Bool} : ∀ (k t : Nat) (f r : Int32), (∀ e, t ≤ e → e < t + k → p e = q e) → mfo p t k f r = mfo q t k f r
  | 0, _, _, _, _ => rfl
  | k + 1, t, f, r, h => by
    unfold mfo
    rw [h t (Nat.le_refl _) (by omega), mfo_cong k (t + 1) _ _ (fun e a b => h e (by omega) (by omega))]
theorem LandR_c {M : Nat → Nat → Nat → Int32} {V V' : Nat → Int32} {i : Nat} (R : LandR M i V) (hV : aeq 174 V V') : LandR M i V' := by
  obtain ⟨r1, r2, r3, ⟨r4, r5, r6, r7, r8⟩, ⟨r9, r10, r11, r12, r13⟩, r14, r15, r16, r17, r18⟩ := R
  refine ⟨fun j hj => (r1 j hj).trans (hV _ (by omega)), fun j hj => (r2 j hj).trans (hV _ (by omega)), r3.trans (hV _ (by decide)), ⟨fun j hj => (r4 j hj).trans (hV _ (by omega)), fun j hj => (r5 j hj).trans (hV _ (by omega)), fun j hj => (r6 j hj).trans (hV _ (by omega)), fun j hj => (r7 j hj).trans (hV _ (by omega)), fun j hj => (r8 j hj).trans (hV _ (by omega))⟩, ⟨fun j hj => (r9 j hj).trans (hV _ (by omega)), fun j hj => (r10 j hj).trans (hV _ (by omega)), fun j hj => (r11 j hj).trans (hV _ (by omega)), fun j hj => (r12 j hj).trans (hV _ (by omega)), fun j hj => (r13 j hj).trans (hV _ (by omega))⟩, fun j hj => (r14 j hj).trans (hV _ (by omega)), r15.trans (hV _ (by decide)), r16.trans (hV _ (by decide)), r17.trans (hV _ (by decide)), fun j hj => (r18 j hj).trans ?_⟩
  exact fw_cong (fun k hk => hV (2 + k) (by omega)) j hj
theorem WFV_c {V V' : Nat → Int32} (W : WFV V) (hV : aeq 174 V V') : WFV V' := by
  obtain ⟨a1, a2, a3, a4, ⟨s, s8, a5, a6, a7⟩, a8, ⟨t, c, b1, b2, b3, b4⟩⟩ := W
  refine ⟨fun j hj => by rw [← hV j (by omega)]; exact a1 j hj, fun j hj => by rw [← hV (2 + j) (by omega)]; exact a2 j hj, fun a b ha hb => by rw [← hV (2 + (8 * a + b)) (by omega), ← hV (2 + (8 * b + a)) (by omega)]; exact a3 a b ha hb, fun a ha => by rw [← hV (2 + (8 * a + a)) (by omega)]; exact a4 a ha, ⟨s, s8, by rw [← hV 66 (by decide)]; exact a5, fun e he => ?_, fun e h1 h2 => ?_⟩, fun j hj => by rw [← hV (107 + j) (by omega)]; exact a8 j hj, ⟨t, c, b1, b2, by rw [← hV 171 (by decide)]; exact b3, by rw [← hV 172 (by decide)]; exact b4⟩⟩
  · rw [← hV (67 + 5 * e) (by omega), ← hV (68 + 5 * e) (by omega), ← hV (69 + 5 * e) (by omega)]
    exact a6 e he
  · rw [← hV (70 + 5 * e) (by omega), ← hV (71 + 5 * e) (by omega)]
    exact a7 e h1 h2
theorem WFP_c {V V' : Nat → Int32} (W : WFP V) (hV : aeq 174 V V') : WFP V' := by
  obtain ⟨t, h9, ht, hp⟩ := W
  exact ⟨t, h9, by rw [← hV 171 (by decide)]; exact ht, fun j hj => by rw [← hV (139 + j) (by omega)]; exact hp j hj⟩
theorem vDi_c {V V' : Nat → Int32} (hV : aeq 174 V V') : aeq 64 (vDi V) (vDi V') := fw_cong (fun k hk => hV (2 + k) (by omega))
section L14
variable {D D' V V' : Nat → Int32} {s t h : Nat}
theorem vTo_c (hV : aeq 174 V V') {e : Nat} (he : e < 8) : vTo V e = vTo V' e := by
  unfold vTo
  rw [hV (67 + 5 * e) (by omega)]
theorem vNe_c (hV : aeq 174 V V') {e : Nat} (he : e < 8) : vNe V e = vNe V' e := by
  unfold vNe
  rw [hV (68 + 5 * e) (by omega)]
theorem vLen_c (W : WFV V) (hs : V 66 = nI s) (h8 : s ≤ 8) (hV : aeq 174 V V') (hh : h < 4) {e : Nat} (he : e < s) : vLen V h e = vLen V' h e := by
  have hq := vNe_lt W hs h8 he
  unfold vLen
  rw [← vNe_c hV (by omega), hV (107 + (4 * vNe V e + h)) (by omega)]
theorem vFar_c (W : WFV V) (hs : V 66 = nI s) (h8 : s ≤ 8) (hV : aeq 174 V V') (hD : aeq 64 D D') (ht : t < 8) {e : Nat} (he : e < s) : vFar D V t e = vFar D' V' t e := by
  have hq := vTo_lt W hs h8 he
  unfold vFar
  rw [← vTo_c hV (by omega), hD (8 * t + vTo V e) (by omega)]
theorem vCan_c (W : WFV V) (hs : V 66 = nI s) (h8 : s ≤ 8) (hV : aeq 174 V V') (hD : aeq 64 D D') (ht : t < 8) (hh : h < 4) {e : Nat} (he : e < s) : vCan D V t h e = vCan D' V' t h e := by
  unfold vCan
  rw [vLen_c W hs h8 hV hh he, vFar_c W hs h8 hV hD ht he, hV (69 + 5 * e) (by omega)]
theorem vMk_c (W : WFV V) (hs : V 66 = nI s) (h8 : s ≤ 8) (hV : aeq 174 V V') (hD : aeq 64 D D') (ht : t < 8) (hh : h < 4) {e : Nat} (he : e < s) (k : Nat) : vMk D V t h e k = vMk D' V' t h e k := by
  unfold vMk
  rw [vLen_c W hs h8 hV hh he, vFar_c W hs h8 hV hD ht he, hV 0 (by decide)]
theorem vOwn_c (W : WFV V) (hs : V 66 = nI s) (h8 : s ≤ 8) (hV : aeq 174 V V') (hD : aeq 64 D D') (ht : t < 8) (hh : h < 4) {e k : Nat} (he : e < s) (hk : k < s) : vOwn D V t h e k = vOwn D' V' t h e k := by
  unfold vOwn
  rw [vMk_c W hs h8 hV hD ht hh he, vMk_c W hs h8 hV hD ht hh hk, vMk_c W hs h8 hV hD ht hh he, vMk_c W hs h8 hV hD ht hh hk]
theorem vGf_c (W : WFV V) (hs : V 66 = nI s) (h8 : s ≤ 8) (hV : aeq 174 V V') (hD : aeq 64 D D') (ht : t < 8) (hh : h < 4) {e : Nat} (he : e < s) : ∀ k, k ≤ s → vGf D V t h e k = vGf D' V' t h e k
  | 0, _ => rfl
  | k + 1, hk => by
    unfold vGf
    rw [vGf_c W hs h8 hV hD ht hh he k (by omega), vOwn_c W hs h8 hV hD ht hh he (by omega : k < s), vCan_c W hs h8 hV hD ht hh (by omega : k < s)]
theorem vGr_c (W : WFV V) (hs : V 66 = nI s) (h8 : s ≤ 8) (hV : aeq 174 V V') (hD : aeq 64 D D') (ht : t < 8) (hh : h < 4) {e : Nat} (he : e < s) : vGr D V s t h e = vGr D' V' s t h e := by
  unfold vGr
  rw [vGf_c W hs h8 hV hD ht hh he s (Nat.le_refl _), vCan_c W hs h8 hV hD ht hh he]
theorem vGd_c (W : WFV V) (hs : V 66 = nI s) (h8 : s ≤ 8) (hV : aeq 174 V V') (hD : aeq 64 D D') (ht : t < 8) (hh : h < 4) (l : Nat) : vGd D V s t h l = vGd D' V' s t h l := by
  unfold vGd
  exact sm_cong (fun k hk => by rw [vGr_c W hs h8 hV hD ht hh hk])
theorem vRk_c (hV : aeq 174 V V') (ht : t < 8) (hh : h < 4) (b : Int32) : vRk V t h b = vRk V' t h b := by
  unfold vRk
  rw [hV 1 (by decide), hV (139 + (4 * t + h)) (by omega)]
theorem vCho_c (W : WFV V) (hs : V 66 = nI s) (h8 : s ≤ 8) (hV : aeq 174 V V') (hD : aeq 64 D D') (ht : t < 8) (hh : h < 4) : vCho D V s t h = vCho D' V' s t h := by
  unfold vCho
  rw [vGd_c W hs h8 hV hD ht hh 3, vRk_c hV ht hh]
  rw [mfo_cong s 0 _ _ (fun e _ he => by rw [vGr_c W hs h8 hV hD ht hh (show e < s by omega)])]
theorem vCho_in2 (W : WFV V) (hs : V 66 = nI s) (h8 : s ≤ 8) (ht : t < 8) (hh : h < 4) : vCho (vDi V) V s t h = -1 ∨ ∃ e, e < s ∧ vCho (vDi V) V s t h = nI e := by
  rcases vCho_in W hs h8 ht hh with a | ⟨e, a, _, b⟩
  · exact Or.inl a
  · exact Or.inr ⟨e, a, b⟩
theorem vRe_c (W : WFV V) (hs : V 66 = nI s) (h8 : s ≤ 8) (hV : aeq 174 V V') (hD : aeq 64 D D') (ht : t < 8) (hh : h < 4) {e : Nat} (he : e < s) : vRe D V s t h e = vRe D' V' s t h e := by
  unfold vRe
  rw [vCho_c W hs h8 hV hD ht hh, vGr_c W hs h8 hV hD ht hh he, vLen_c W hs h8 hV hh he, hV (69 + 5 * e) (by omega)]
theorem vDe_c (W : WFV V) (hs : V 66 = nI s) (h8 : s ≤ 8) (hV : aeq 174 V V') (hD : aeq 64 D (vDi V)) (ht : t < 8) (hh : h < 4) : vDe D V s t h = vDe (vDi V') V' s t h := by
  have e1 := vCho_c W hs h8 (aeq.rf (n := 174) (f := V)) hD ht hh
  unfold vDe
  rw [← vCho_c W hs h8 hV (vDi_c hV) ht hh, e1]
  rcases vCho_in2 W hs h8 ht hh with a | ⟨e, he, a⟩
  · rw [a, if_pos (by decide), if_pos (by decide)]
  · rw [a, nI_clamp (by omega), vFar_c W hs h8 hV (hD.tr (vDi_c hV)) ht he]
theorem vNf_c (hV : aeq 174 V V') (hD : aeq 64 D D') {a g : Nat} (ha : a < 8) (hg : g < 8) : ∀ k, k ≤ 8 → vNf D V a g k = vNf D' V' a g k
  | 0, _ => rfl
  | k + 1, hk => by
    unfold vNf
    rw [vNf_c hV hD ha hg k (by omega), hV (2 + (8 * a + (7 - k))) (by omega), hD (8 * (7 - k) + g) (by omega), hD (8 * a + g) (by omega)]
theorem vNt_c (hV : aeq 174 V V') (hD : aeq 64 D D') {a g : Nat} (ha : a < 8) (hg : g < 8) : vNt D V a g = vNt D' V' a g := by
  unfold vNt
  rw [vNf_c hV hD ha hg 8 (Nat.le_refl _)]
end L14

