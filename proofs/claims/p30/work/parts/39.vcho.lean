/-! The class's choice is the row's. -/
theorem sub_lt0 {a b : Nat} (ha : a < 2 ^ 30) (hb : b < 2 ^ 30) : nI a - nI b < 0 ↔ a < b := by
  rw [Int32.lt_iff_toInt_lt, pk_sub_toInt ha hb, show (0 : Int32).toInt = 0 from rfl]
  omega
theorem sub_eq0 {a b : Nat} (ha : a < 2 ^ 30) (hb : b < 2 ^ 30) : nI a - nI b = 0 ↔ a = b := by
  rw [Int32.sub_eq_iff_eq_add, Int32.zero_add, nI_eq (by omega) (by omega)]
def vq (V : Nat → Int32) (s t h : Nat) : Nat × Nat × Nat × Nat := nW (vCs V s t h) (vf V t h) (vg V t h) 8
def vBe (V : Nat → Int32) (s t h : Nat) : Nat → Bool := nBe (vCs V s t h) (vf V t h) (vg V t h) (vq V s t h).2.2.1 (vq V s t h).2.2.2
theorem vCs_out {V : Nat → Int32} {s t h k : Nat} (hk : s ≤ k) : vCs V s t h k = false := by
  unfold vCs
  rw [decide_eq_false (by omega)]
  rfl
theorem vCs_lt {V : Nat → Int32} {s t h k : Nat} (hk : vCs V s t h k = true) : k < s := by
  unfold vCs at hk
  rw [Bool.and_eq_true, decide_eq_true_eq] at hk
  exact hk.1
theorem vBe_out {V : Nat → Int32} {s t h k : Nat} (hk : s ≤ k) : vBe V s t h k = false := by
  unfold vBe nBe
  rw [vCs_out hk]
  rfl
section L5
variable {M : Nat → Nat → Nat → Int32} {V : Nat → Int32} {i s t h : Nat}
theorem vq_8 (W : WFV V) (hs : V 66 = nI s) (h8 : s ≤ 8) (ht : t < 8) (hh : h < 4) : nSpec (vCs V s t h) (vf V t h) (vg V t h) 8 (vq V s t h) := nW_spec (fun _ hc => (vfg W hs h8 ht hh hc).1) 8
theorem vq_s (W : WFV V) (hs : V 66 = nI s) (h8 : s ≤ 8) (ht : t < 8) (hh : h < 4) : nSpec (vCs V s t h) (vf V t h) (vg V t h) s (vq V s t h) := by
  obtain ⟨h1, h2, h3, h4, h5, h6⟩ := vq_8 W hs h8 ht hh
  have e8 : 8 = s + (8 - s) := by omega
  refine ⟨?_, ?_, fun k hk => h3 k (by omega), ?_, h5, h6⟩
  · rw [h1, e8]
    exact cnt_ext (fun k hk => vCs_out hk) _
  · rw [h2]
    have := cnt_ext (p := vBe V s t h) (fun k hk => vBe_out hk) (8 - s)
    rw [← e8] at this
    exact this
  · rcases h4 with ⟨m, hm, a, b, c⟩ | ⟨a, b, c⟩
    · exact Or.inl ⟨m, vCs_lt a, a, b, c⟩
    · exact Or.inr ⟨a, b, fun k hk => c k (by omega)⟩
theorem kQ_v (R : LandR M i V) (W : WFV V) (hs : V 66 = nI s) (h8 : s ≤ 8) (ht : t < 8) (hh : h < 4) : kQ M i s t h = (nI (vq V s t h).1, nI (vq V s t h).2.1, nI (vq V s t h).2.2.1, nI (vq V s t h).2.2.2) := by
  unfold kQ
  rw [kW_cong (can' := vCs V s t h) (F' := fun e => if vCs V s t h e then nI (vf V t h e) else xFAR) (S' := fun e => if vCs V s t h e then nI (vg V t h e) else xFAR) (fun e he => ⟨kCan_v R W hs h8 ht hh he, kFS_v R W hs h8 ht hh he⟩)]
  exact kW_nW (fun _ hc => (vfg W hs h8 ht hh hc).1) (fun e hc => by
    show (if vCs V s t h e then _ else _) = _ ∧ (if vCs V s t h e then _ else _) = _
    rw [hc]
    exact ⟨rfl, rfl⟩) 8
theorem vOwn_n (W : WFV V) (hs : V 66 = nI s) (h8 : s ≤ 8) (ht : t < 8) (hh : h < 4) {e k : Nat} (he : vCs V s t h e = true) (hk : vCs V s t h k = true) : vOwn (vDi V) V t h e k = nI (nOwn (vf V t h) (vg V t h) e k) := by
  obtain ⟨⟨a1, a2⟩, a3, a4⟩ := vfg W hs h8 ht hh he
  obtain ⟨⟨b1, b2⟩, b3, b4⟩ := vfg W hs h8 ht hh hk
  unfold vOwn nOwn
  rw [a3, a4, b3, b4]
  by_cases x : vf V t h k < vf V t h e
  · rw [if_pos ((sub_lt0 (by omega) (by omega)).mpr x), if_pos x]
  · rw [if_neg (fun z => x ((sub_lt0 (by omega) (by omega)).mp z)), if_neg x]
    by_cases y : vf V t h k = vf V t h e ∧ vg V t h k < vg V t h e
    · rw [if_pos ⟨(sub_eq0 (by omega) (by omega)).mpr y.1, (sub_lt0 (by omega) (by omega)).mpr y.2⟩, if_pos y]
    · rw [if_neg (fun z => y ⟨(sub_eq0 (by omega) (by omega)).mp z.1, (sub_lt0 (by omega) (by omega)).mp z.2⟩), if_neg y]
theorem vCan_s {k : Nat} (hk : k < s) : vCan (vDi V) V t h k = vCs V s t h k := by
  unfold vCs
  rw [decide_eq_true hk, Bool.true_and]
theorem vGf_n (W : WFV V) (hs : V 66 = nI s) (h8 : s ≤ 8) (ht : t < 8) (hh : h < 4) {e : Nat} (he : vCs V s t h e = true) : ∀ k, k ≤ s → vGf (vDi V) V t h e k = nI (nGf (vCs V s t h) (vf V t h) (vg V t h) e k)
  | 0, _ => rfl
  | k + 1, hk => by
    have ih := vGf_n W hs h8 ht hh he k (by omega)
    unfold vGf nGf
    rw [ih, vCan_s (by omega : k < s)]
    cases hc : vCs V s t h k
    · rfl
    · rw [if_pos rfl, if_pos rfl, vOwn_n W hs h8 ht hh he hc]
      have o1 := nOwn_3 (vf V t h) (vg V t h) e k
      have o2 := (nGf_lo (can := vCs V s t h) (f := vf V t h) (g := vg V t h) (e := e) k).1
      by_cases x : nOwn (vf V t h) (vg V t h) e k < nGf (vCs V s t h) (vf V t h) (vg V t h) e k
      · rw [if_pos ((nI_ltI (by omega) (by omega)).mpr x), if_pos x]
      · rw [if_neg (fun z => x ((nI_ltI (by omega) (by omega)).mp z)), if_neg x]
/-- the grade by the least marks -/
def vGn (V : Nat → Int32) (s t h e : Nat) : Nat := if vCs V s t h e then (if vf V t h e = (vq V s t h).2.2.1 then (if vg V t h e = (vq V s t h).2.2.2 then 3 else 2) else 1) else 0
theorem vGr_n (W : WFV V) (hs : V 66 = nI s) (h8 : s ≤ 8) (ht : t < 8) (hh : h < 4) {e : Nat} (he : e < s) : vGr (vDi V) V s t h e = nI (vGn V s t h e) := by
  unfold vGr vGn
  rw [vCan_s he]
  cases hc : vCs V s t h e
  · rfl
  · rw [if_pos rfl, if_pos rfl, vGf_n W hs h8 ht hh hc s (Nat.le_refl _), nGf_spec (vq_s W hs h8 ht hh) he hc]
theorem vGn_3 {e : Nat} : decide (vGn V s t h e = 3) = vBe V s t h e := by
  unfold vGn vBe nBe
  cases hc : vCs V s t h e
  · rfl
  · rw [if_pos rfl, Bool.true_and]
    by_cases a : vf V t h e = (vq V s t h).2.2.1
    · rw [if_pos a, decide_eq_true a, Bool.true_and]
      by_cases b : vg V t h e = (vq V s t h).2.2.2
      · rw [if_pos b, decide_eq_true b]; rfl
      · rw [if_neg b, decide_eq_false b]; rfl
    · rw [if_neg a, decide_eq_false a]; rfl
theorem vGn_le {e : Nat} : vGn V s t h e ≤ 3 := by
  unfold vGn
  split
  · split
    · split <;> omega
    · omega
  · omega
theorem vGn_1 {e : Nat} : decide (1 ≤ vGn V s t h e) = vCs V s t h e := by
  unfold vGn
  cases hc : vCs V s t h e
  · rfl
  · rw [if_pos rfl]
    apply decide_eq_true
    split
    · split <;> omega
    · omega
theorem vGd_3 (W : WFV V) (hs : V 66 = nI s) (h8 : s ≤ 8) (ht : t < 8) (hh : h < 4) : vGd (vDi V) V s t h 3 = nI (vq V s t h).2.1 := by
  unfold vGd
  have e1 : sm (fun k => zb (decide (nI 3 ≤ vGr (vDi V) V s t h k))) s = sm (fun k => zb (vBe V s t h k)) s := sm_cong (fun k hk => by
    rw [vGr_n W hs h8 ht hh hk, ← vGn_3]
    have := vGn_le (V := V) (s := s) (t := t) (h := h) (e := k)
    congr 1
    rw [decide_eq_decide, nI_leI (by omega) (by omega)]
    omega)
  rw [e1, sm_cnt]
  exact congrArg nI (vq_s W hs h8 ht hh).2.1.symm
theorem vGd_1 (W : WFV V) (hs : V 66 = nI s) (h8 : s ≤ 8) (ht : t < 8) (hh : h < 4) : vGd (vDi V) V s t h 1 = nI (vq V s t h).1 := by
  unfold vGd
  have e1 : sm (fun k => zb (decide (nI 1 ≤ vGr (vDi V) V s t h k))) s = sm (fun k => zb (vCs V s t h k)) s := sm_cong (fun k hk => by
    rw [vGr_n W hs h8 ht hh hk, ← vGn_1]
    have := vGn_le (V := V) (s := s) (t := t) (h := h) (e := k)
    congr 1
    rw [decide_eq_decide, nI_leI (by omega) (by omega)])
  rw [e1, sm_cnt]
  exact congrArg nI (vq_s W hs h8 ht hh).1.symm
theorem vq_be (W : WFV V) (hs : V 66 = nI s) (h8 : s ≤ 8) (ht : t < 8) (hh : h < 4) : (vq V s t h).2.1 ≤ 8 := by
  rw [(vq_s W hs h8 ht hh).2.1]
  exact Nat.le_trans (cnt_le _ _) h8
theorem kLo_v (R : LandR M i V) (W : WFV V) (ht : t < 8) (hh : h < 4) {b : Nat} (hb : 0 < b) (hb2 : b < 2 ^ 31) : kLo M i t h - kLo M i t h / nI b * nI b = vRk V t h (nI b) := by
  unfold kLo vRk
  rw [R.1 1 (by decide), R.2.2.2.2.2.1 (4 * t + h) (by omega)]
  rcases W.1 1 (by decide) with z | z
  · rw [z, if_neg (by decide), if_pos (show nI 0 = 0 from rfl)]
    exact (pk_rem (a := 0) (by omega) hb hb2).trans (by rw [Nat.zero_mod])
  · rw [z, if_pos rfl, if_neg (by decide)]
/-- the class's choice -/
theorem kEx_v (R : LandR M i V) (W : WFV V) (hs : V 66 = nI s) (h8 : s ≤ 8) (ht : t < 8) (hh : h < 4) : kEx M i s t h = vCho (vDi V) V s t h := by
  have hb8 := vq_be W hs h8 ht hh
  unfold kEx vCho
  rw [kQ_v R W hs h8 ht hh, vGd_3 W hs h8 ht hh]
  show (if 0 < nI (vq V s t h).2.1 then xrk (fun e => decide (kF M i s t h e = nI (vq V s t h).2.2.1) && decide (kS M i s t h e = nI (vq V s t h).2.2.2)) 0 8 (kLo M i t h - kLo M i t h / nI (vq V s t h).2.1 * nI (vq V s t h).2.1) else -1) = _
  by_cases hz : (vq V s t h).2.1 = 0
  · rw [hz, if_neg (by decide), if_pos (by decide)]
  · rw [if_pos (show 0 < nI (vq V s t h).2.1 from (nI_ltI (a := 0) (b := (vq V s t h).2.1) (by omega) (by omega)).mpr (by omega)), if_neg (nI_ne0 (by omega) (by omega)), kLo_v R W ht hh (by omega) (by omega)]
    obtain ⟨r, hr⟩ : ∃ r, r = vRk V t h (nI (vq V s t h).2.1) := ⟨_, rfl⟩
    rw [← hr]
    have Q := vq_8 W hs h8 ht hh
    have hl : (vq V s t h).2.2.1 < 1000000 := by
      rcases Q.2.2.2.1 with ⟨m, hm, a, b, c⟩ | ⟨a, b, c⟩
      · rw [← b]
        exact (vfg W hs h8 ht hh a).1.1
      · exfalso
        apply hz
        rw [Q.2.1]
        exact cnt_zero (fun k hk => by unfold nBe; rw [c k hk]; rfl)
    have e1 : xrk (fun e => decide (kF M i s t h e = nI (vq V s t h).2.2.1) && decide (kS M i s t h e = nI (vq V s t h).2.2.2)) 0 8 r = xrk (vBe V s t h) 0 8 r := by
      refine xrk_cong 8 0 r (fun e _ he => ?_)
      obtain ⟨a, b⟩ := kFS_v R W hs h8 ht hh (show e < 8 by omega)
      show (decide (kF M i s t h e = nI (vq V s t h).2.2.1) && decide (kS M i s t h e = nI (vq V s t h).2.2.2)) = _
      rw [a, b]
      unfold vBe nBe
      cases hc : vCs V s t h e
      · rw [if_neg (by decide), decide_eq_false (p := xFAR = nI (vq V s t h).2.2.1)]
        · rfl
        · intro q
          have := (nI_eq (a := 1000000) (by omega) (by omega)).mp q
          omega
      · have := (vfg W hs h8 ht hh hc).1
        have h6 := Q.2.2.2.2.2
        rw [if_pos rfl, if_pos rfl, Bool.true_and]
        congr 1
        · rw [decide_eq_decide, nI_eq (by omega) (by omega)]
        · rw [decide_eq_decide, nI_eq (by omega) (by omega)]
    have e2 : xrk (vBe V s t h) 0 8 r = xrk (vBe V s t h) 0 s r := by
      have := xrk_cut (p := vBe V s t h) (s := s) (fun k hk => vBe_out hk) s (8 - s) 0 r (by omega)
      rw [show s + (8 - s) = 8 by omega] at this
      exact this
    have e3 : mfo (fun k => decide (vGr (vDi V) V s t h k = nI 3)) 0 s (-1) r = xrk (vBe V s t h) 0 s r := by
      rw [mfo_xrk s 0 (-1) r (by omega)]
      rw [xrk_cong (p := fun k => decide (vGr (vDi V) V s t h k = nI 3)) (q := vBe V s t h) s 0 r (fun e _ he => by
        show decide (vGr (vDi V) V s t h e = nI 3) = _
        have := vGn_le (V := V) (s := s) (t := t) (h := h) (e := e)
        rw [vGr_n W hs h8 ht hh (by omega), ← vGn_3, decide_eq_decide, nI_eq (by omega) (by omega)])]
      split
      · rename_i q
        exact q.symm
      · rfl
    rw [e1, e2, e3]
/-- what is chosen can be taken -/
theorem vCho_in (W : WFV V) (hs : V 66 = nI s) (h8 : s ≤ 8) (ht : t < 8) (hh : h < 4) : vCho (vDi V) V s t h = -1 ∨ ∃ e, e < s ∧ vCs V s t h e = true ∧ vCho (vDi V) V s t h = nI e := by
  unfold vCho
  split
  · exact Or.inl rfl
  · rw [mfo_xrk s 0 _ _ (by omega)]
    obtain ⟨r, hr⟩ : ∃ r, r = vRk V t h (vGd (vDi V) V s t h 3) := ⟨_, rfl⟩
    rw [← hr]
    rcases xrk_in (p := fun k => decide (vGr (vDi V) V s t h k = nI 3)) s 0 r with a | ⟨e, a, b, c, d⟩
    · rw [if_pos a]
      exact Or.inl rfl
    · rw [d, if_neg (nI_nm1 (by omega))]
      refine Or.inr ⟨e, by omega, ?_, rfl⟩
      have h3 : vGr (vDi V) V s t h e = nI 3 := of_decide_eq_true c
      have hl := vGn_le (V := V) (s := s) (t := t) (h := h) (e := e)
      rw [vGr_n W hs h8 ht hh (by omega)] at h3
      have h4 := (nI_eq (by omega) (by omega)).mp h3
      rw [← vGn_1, h4]
      rfl
end L5

