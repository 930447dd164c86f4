/-! Choices of a row: the reasons as whole numbers, what the law asks of them. -/
/-- the reason as a whole number -/
def vY (V : Nat → Int32) (s t h e : Nat) : Nat := if vCho (vDi V) V s t h = nI e then 0 else if V (69 + 5 * e) = 0 then 1 else if vLen V h e = 0 then 2 else if vGn V s t h e = 0 then 3 else 3 + vGn V s t h e
section CF
variable {V : Nat → Int32} {s t h e k : Nat}
theorem vY_is (W : WFV V) (hs : V 66 = nI s) (h8 : s ≤ 8) (ht : t < 8) (hh : h < 4) (he : e < s) : vRe (vDi V) V s t h e = nI (vY V s t h e) := by
  unfold vRe vY
  rw [vGr_n W hs h8 ht hh he]
  have g3 := vGn_le (V := V) (s := s) (t := t) (h := h) (e := e)
  split
  · rfl
  · split
    · rfl
    · split
      · rfl
      · by_cases z : vGn V s t h e = 0
        · rw [if_pos z, z]
          rfl
        · rw [if_neg z, if_neg (nI_ne0 (by omega) (by omega)), nI_add]
theorem vY_0 : vY V s t h e = 0 ↔ vCho (vDi V) V s t h = nI e := by
  unfold vY
  constructor
  · intro q
    by_cases z : vCho (vDi V) V s t h = nI e
    · exact z
    · rw [if_neg z] at q
      split at q
      · omega
      · split at q
        · omega
        · split at q <;> omega
  · intro q
    rw [if_pos q]
theorem vY_6 : vY V s t h e ≤ 6 := by
  have := vGn_le (V := V) (s := s) (t := t) (h := h) (e := e)
  unfold vY
  repeat' split
  all_goals omega
/-- an exit that can be taken -/
theorem cs_of (W : WFV V) (hs : V 66 = nI s) (h8 : s ≤ 8) (ht : t < 8) (hk : k < s) : vCs V s t h k = true ↔ V (69 + 5 * k) = nI 1 ∧ 0 < vLen V h k ∧ vFar (vDi V) V t k < xFAR := by
  unfold vCs vCan
  rw [decide_eq_true hk]
  simp
theorem vGn_cs (hc : vCs V s t h e = true) : vGn V s t h e = if vf V t h e = (vq V s t h).2.2.1 then (if vg V t h e = (vq V s t h).2.2.2 then 3 else 2) else 1 := if_pos hc
theorem vGn_no (hc : vCs V s t h e = false) : vGn V s t h e = 0 := by
  unfold vGn
  rw [hc]
  rfl
theorem cho_cs (W : WFV V) (hs : V 66 = nI s) (h8 : s ≤ 8) (ht : t < 8) (hh : h < 4) (hk : k < s) (hc : vCho (vDi V) V s t h = nI k) : vCs V s t h k = true := by
  rcases vCho_in W hs h8 ht hh with z | ⟨e, he, hce, z⟩
  · rw [z] at hc
    exact absurd hc (fun q => nI_nm1 (e := k) (by omega) q.symm)
  · rw [z] at hc
    rw [← (nI_eq (by omega) (by omega)).mp hc]
    exact hce
theorem open_v (W : WFV V) (hs : V 66 = nI s) (h8 : s ≤ 8) (hk : k < s) : V (69 + 5 * k) = nI 0 ∨ V (69 + 5 * k) = nI 1 := (vEx W hs h8 hk).2.2
/-- can be taken: no reason below 4 but 0 -/
theorem vY_can (W : WFV V) (hs : V 66 = nI s) (h8 : s ≤ 8) (ht : t < 8) (hk : k < s) (hc : vCs V s t h k = true) : vY V s t h k = if vCho (vDi V) V s t h = nI k then 0 else 3 + vGn V s t h k := by
  obtain ⟨h1, h2, h3⟩ := (cs_of W hs h8 ht hk).mp hc
  have g1 : vGn V s t h k ≠ 0 := by
    have := vGn_1 (V := V) (s := s) (t := t) (h := h) (e := k)
    rw [hc] at this
    have := of_decide_eq_true this
    omega
  unfold vY
  split
  · rfl
  · rw [if_neg (show ¬ V (69 + 5 * k) = 0 by rw [h1]; decide), if_neg (show ¬ vLen V h k = 0 from fun z => by rw [z] at h2; exact absurd h2 (by decide))]
theorem vY_not (W : WFV V) (hs : V 66 = nI s) (h8 : s ≤ 8) (ht : t < 8) (hh : h < 4) (hk : k < s) (hc : vCs V s t h k = false) : vY V s t h k = if V (69 + 5 * k) = 0 then 1 else if vLen V h k = 0 then 2 else 3 := by
  have n0 : ¬ vCho (vDi V) V s t h = nI k := fun z => by
    have := cho_cs W hs h8 ht hh hk z
    rw [hc] at this
    cases this
  unfold vY
  rw [if_neg n0, vGn_no hc, if_pos rfl]
/-- the chosen one is one of the best -/
theorem cho_best (W : WFV V) (hs : V 66 = nI s) (h8 : s ≤ 8) (ht : t < 8) (hh : h < 4) (hk : k < s) (hc : vCho (vDi V) V s t h = nI k) : vBe V s t h k = true := by
  have hcs := cho_cs W hs h8 ht hh hk hc
  unfold vCho at hc
  by_cases z : vGd (vDi V) V s t h 3 = 0
  · rw [if_pos z] at hc
    exact absurd hc (fun q => nI_nm1 (e := k) (by omega) q.symm)
  · rw [if_neg z] at hc
    rw [mfo_xrk _ _ _ _ (by omega)] at hc
    rcases xrk_in (p := fun k => decide (vGr (vDi V) V s t h k = nI 3)) s 0 (vRk V t h (vGd (vDi V) V s t h 3)) with q | ⟨e, _, he, hp, q⟩
    · rw [if_pos q] at hc
      exact absurd hc (fun q => nI_nm1 (e := k) (by omega) q.symm)
    · rw [q, if_neg (nI_nm1 (by omega))] at hc
      have ek : e = k := (nI_eq (by omega) (by omega)).mp hc
      subst ek
      have hg := of_decide_eq_true hp
      rw [vGr_n W hs h8 ht hh hk] at hg
      have g3 := vGn_le (V := V) (s := s) (t := t) (h := h) (e := e)
      have h3 : vGn V s t h e = 3 := (nI_eq (by omega) (by omega)).mp hg
      rw [← vGn_3]
      exact decide_eq_true h3
/-- grades by the chosen one's marks -/
theorem gn_by (W : WFV V) (hs : V 66 = nI s) (h8 : s ≤ 8) (ht : t < 8) (hh : h < 4) (hk : k < s) (he : e < s) (hc : vCs V s t h k = true) (hx : vCho (vDi V) V s t h = nI e) :
    (vf V t h e < vf V t h k ∧ vGn V s t h k = 1) ∨ (vf V t h k = vf V t h e ∧ vg V t h e < vg V t h k ∧ vGn V s t h k = 2) ∨ (vf V t h k = vf V t h e ∧ vg V t h k = vg V t h e ∧ vGn V s t h k = 3) := by
  have hb := cho_best W hs h8 ht hh he hx
  have q := vq_s W hs h8 ht hh
  obtain ⟨q1, q2, q3, q4, q5, q6⟩ := q
  have b : vf V t h e = (vq V s t h).2.2.1 ∧ vg V t h e = (vq V s t h).2.2.2 := by
    unfold vBe nBe at hb
    rw [Bool.and_eq_true, Bool.and_eq_true, decide_eq_true_eq, decide_eq_true_eq] at hb
    exact hb.2
  have hk3 := q3 k hk hc
  rw [vGn_cs hc]
  by_cases z : vf V t h k = (vq V s t h).2.2.1
  · by_cases y : vg V t h k = (vq V s t h).2.2.2
    · right
      right
      rw [if_pos z, if_pos y]
      exact ⟨by omega, by omega, rfl⟩
    · right
      left
      rw [if_pos z, if_neg y]
      exact ⟨by omega, by omega, rfl⟩
  · left
    rw [if_neg z]
    exact ⟨by omega, rfl⟩
/-- the counts -/
theorem cnt_could (W : WFV V) (hs : V 66 = nI s) (h8 : s ≤ 8) (ht : t < 8) (hh : h < 4) : vCh V s t h 3 = nI (cnt (vCs V s t h) s) := by
  show vGd (vDi V) V s t h 1 = _
  rw [vGd_1 W hs h8 ht hh, (vq_s W hs h8 ht hh).1]
theorem be_y (W : WFV V) (hs : V 66 = nI s) (h8 : s ≤ 8) (ht : t < 8) (hh : h < 4) (hk : k < s) : (decide (vY V s t h k = 0) || decide (vY V s t h k = 6)) = vBe V s t h k := by
  rw [← vGn_3]
  by_cases hc : vCs V s t h k = true
  · rw [vY_can W hs h8 ht hk hc]
    by_cases x : vCho (vDi V) V s t h = nI k
    · have hb := cho_best W hs h8 ht hh hk x
      rw [← vGn_3] at hb
      rw [if_pos x, hb]
      rfl
    · rw [if_neg x]
      by_cases g : vGn V s t h k = 3
      · rw [g]
        rfl
      · rw [decide_eq_false (show ¬ 3 + vGn V s t h k = 0 by omega), decide_eq_false (show ¬ 3 + vGn V s t h k = 6 by omega), decide_eq_false g]
        rfl
  · have hc' := zok_f hc
    rw [vGn_no hc', vY_not W hs h8 ht hh hk hc']
    split
    · rfl
    · split <;> rfl
theorem cnt_best (W : WFV V) (hs : V 66 = nI s) (h8 : s ≤ 8) (ht : t < 8) (hh : h < 4) : vCh V s t h 2 = nI (cnt (fun k => decide (vY V s t h k = 0) || decide (vY V s t h k = 6)) s) := by
  show vGd (vDi V) V s t h 3 = _
  rw [vGd_3 W hs h8 ht hh, (vq_s W hs h8 ht hh).2.1]
  congr 1
  exact cnt_cong (fun k hk => (be_y W hs h8 ht hh hk).symm)
theorem cho_some (W : WFV V) (P : WFP V) (hs : V 66 = nI s) (h8 : s ≤ 8) (ht : t < 8) (hh : h < 4) (hk : k < s) (hc : vCs V s t h k = true) : ∃ e, e < s ∧ vCho (vDi V) V s t h = nI e := by
  rcases vCho_in2 W hs h8 ht hh with z | z
  · exfalso
    have q := (vCho_none W P hs h8 ht hh).mp (by rw [z]; decide)
    rw [(vq_s W hs h8 ht hh).1] at q
    have := cnt_pos hk hc
    omega
  · exact z
theorem cho_cnt (W : WFV V) (P : WFP V) (hs : V 66 = nI s) (h8 : s ≤ 8) (ht : t < 8) (hh : h < 4) : vCho (vDi V) V s t h = -1 ↔ cnt (vCs V s t h) s = 0 := by
  have q := vCho_none W P hs h8 ht hh
  rw [(vq_s W hs h8 ht hh).1] at q
  constructor
  · intro z
    exact q.mp (by rw [z]; decide)
  · intro z
    have := q.mpr z
    rcases vCho_in2 W hs h8 ht hh with y | ⟨e, he, y⟩
    · exact y
    · rw [y] at this
      exact absurd this (nI_pos (by omega))
/-- the marks: lengths and distances -/
theorem mk_0 (h0 : V 0 = nI 0) : vMk (vDi V) V t h e 0 = vLen V h e ∧ vMk (vDi V) V t h e 1 = vFar (vDi V) V t e := by
  unfold vMk
  rw [h0, if_pos rfl, if_neg (by decide)]
  exact ⟨rfl, rfl⟩
theorem mk_1 (h0 : V 0 = nI 1) : vMk (vDi V) V t h e 0 = vFar (vDi V) V t e ∧ vMk (vDi V) V t h e 1 = vLen V h e := by
  unfold vMk
  rw [h0, if_neg (by decide), if_pos rfl]
  exact ⟨rfl, rfl⟩
/-- the distance to an exit's town, as the law asks for it -/
theorem far_cs (W : WFV V) (hs : V 66 = nI s) (h8 : s ≤ 8) (ht : t < 8) (hk : k < s) (hf : vFar (vDi V) V t k < xFAR) : kFar V t (vTo V k) = vFar (vDi V) V t k := if_pos hf
theorem len_nn (W : WFV V) (hs : V 66 = nI s) (h8 : s ≤ 8) (hh : h < 4) (hk : k < s) : ∃ l, l ≤ 9 ∧ vLen V h k = nI l := vLen_n W hs h8 hh hk
/-- the exit chosen, and what stands beside it -/
theorem de_cho (W : WFV V) (hs : V 66 = nI s) (h8 : s ≤ 8) (ht : t < 8) (hh : h < 4) (he : e < s) (hx : vCho (vDi V) V s t h = nI e) : vDe (vDi V) V s t h = nI (vdn V (8 * t + vTo V e)) ∧ vdn V (8 * t + vTo V e) < 1000000 ∧ kFar V t (vTo V e) = nI (vdn V (8 * t + vTo V e)) := by
  have hcs := cho_cs W hs h8 ht hh he hx
  obtain ⟨_, _, h3⟩ := (cs_of W hs h8 ht he).mp hcs
  have ht8 := vTo_lt W hs h8 he
  obtain ⟨d1, d2⟩ := vdn_n W (show 8 * t + vTo V e < 64 by omega)
  have e1 : vDe (vDi V) V s t h = vFar (vDi V) V t e := by
    unfold vDe
    rw [hx, if_neg (nI_pos (by omega)), nI_clamp (by omega)]
  have e2 : vFar (vDi V) V t e = nI (vdn V (8 * t + vTo V e)) := d2
  rw [e2] at h3
  have l : vdn V (8 * t + vTo V e) < 1000000 := (nI_ltI (b := 1000000) (by omega) (by omega)).mp h3
  exact ⟨e1.trans e2, l, by rw [kFar_is W ht ht8, if_pos l]⟩
theorem nf_is {D : Nat → Int32} {a g : Nat} : ∀ k, k ≤ 8 → (∃ t, 8 - k ≤ t ∧ t < 8 ∧ 0 < V (2 + (8 * a + t)) ∧ V (2 + (8 * a + t)) + D (8 * t + g) = D (8 * a + g)) → ∃ t, t < 8 ∧ 0 < V (2 + (8 * a + t)) ∧ V (2 + (8 * a + t)) + D (8 * t + g) = D (8 * a + g) ∧ vNf D V a g k = nI t
  | 0, _, ⟨t, h1, h2, _⟩ => by omega
  | k + 1, hk, ⟨t, h1, h2, h3, h4⟩ => by
    unfold vNf
    by_cases c : 0 < V (2 + (8 * a + (7 - k))) ∧ V (2 + (8 * a + (7 - k))) + D (8 * (7 - k) + g) = D (8 * a + g)
    · rw [if_pos c]
      exact ⟨7 - k, by omega, c.1, c.2, rfl⟩
    · rw [if_neg c]
      refine nf_is k (by omega) ⟨t, ?_, h2, h3, h4⟩
      by_cases e : t = 7 - k
      · rw [e] at h3 h4
        exact absurd ⟨h3, h4⟩ c
      · omega
/-- the next town: this one if the exit is here; else over a road, on a cheapest way -/
theorem nx_is (W : WFV V) {a g : Nat} (ha : a < 8) (hg : g < 8) (hf : vdn V (8 * a + g) < 1000000) : (a = g ∧ vNt (vDi V) V a g = nI a) ∨ (a ≠ g ∧ ∃ x, x < 8 ∧ x ≠ a ∧ 0 < vc V (8 * a + x) ∧ vc V (8 * a + x) + vdn V (8 * x + g) = vdn V (8 * a + g) ∧ vNt (vDi V) V a g = nI x) := by
  by_cases e : a = g
  · left
    refine ⟨e, ?_⟩
    unfold vNt
    rw [if_pos e]
  · right
    refine ⟨e, ?_⟩
    obtain ⟨x, hx, hc, es⟩ := nD_step (vc_z W) ha hg e hf
    have ci : ∀ y, y < 8 → V (2 + (8 * a + y)) = nI (vc V (8 * a + y)) := fun y hy => (vc_n W (by omega)).2
    have cl : ∀ y, y < 8 → vc V (8 * a + y) ≤ 99 := fun y hy => (vc_n W (by omega)).1
    have di : ∀ y, y < 8 → vDi V (8 * y + g) = nI (vdn V (8 * y + g)) := fun y hy => (vdn_n W (by omega)).2
    have dl : ∀ y, y < 8 → vdn V (8 * y + g) ≤ 1000000 := fun y hy => (vdn_n W (by omega)).1
    have es' : vc V (8 * a + x) + vdn V (8 * x + g) = vdn V (8 * a + g) := es
    obtain ⟨y, hy, c1, c2, c3⟩ := nf_is (V := V) (D := vDi V) (a := a) (g := g) 8 (Nat.le_refl _) ⟨x, by omega, hx, by
      rw [ci x hx]
      exact (nI_ltI (a := 0) (by omega) (by have := cl x hx; omega)).mpr hc, by
      rw [ci x hx, di x hx, di a ha, nI_add, es']⟩
    rw [ci y hy] at c1
    have p1 : 0 < vc V (8 * a + y) := (nI_ltI (a := 0) (by omega) (by have := cl y hy; omega)).mp c1
    rw [ci y hy, di y hy, di a ha, nI_add] at c2
    have c2' := (nI_eq (by have := cl y hy; have := dl y hy; omega) (by have := dl a ha; omega)).mp c2
    refine ⟨y, hy, fun z => ?_, p1, c2', ?_⟩
    · rw [z, vc_0 W ha] at p1
      omega
    · unfold vNt
      rw [if_neg e]
      exact c3
end CF

