/-! Costs, reasons and other looks of the class, told by the row. -/
def vDe (D V : Nat → Int32) (s t h : Nat) : Int32 := if vCho D V s t h < 0 then -1 else vFar D V t (vCho D V s t h).toNatClampNeg
def vRe (D V : Nat → Int32) (s t h e : Nat) : Int32 := if vCho D V s t h = nI e then nI 0 else if V (69 + 5 * e) = 0 then nI 1 else if vLen V h e = 0 then nI 2 else if vGr D V s t h e = 0 then nI 3 else nI 3 + vGr D V s t h e
theorem xfar_lt {v : Int32} (h : v < xFAR) : xfar v = v := if_pos h
section L6
variable {M : Nat → Nat → Nat → Int32} {V : Nat → Int32} {i s t h : Nat}
theorem vCs_far {e : Nat} (hc : vCs V s t h e = true) : vFar (vDi V) V t e < xFAR ∧ 0 < vLen V h e ∧ V (69 + 5 * e) = nI 1 := by
  unfold vCs vCan at hc
  rw [Bool.and_eq_true, Bool.and_eq_true, Bool.and_eq_true, decide_eq_true_eq, decide_eq_true_eq, decide_eq_true_eq, decide_eq_true_eq] at hc
  exact ⟨hc.2.2.2, hc.2.2.1, hc.2.1⟩
theorem kCo_v (R : LandR M i V) (W : WFV V) (hs : V 66 = nI s) (h8 : s ≤ 8) (ht : t < 8) (hh : h < 4) : kCo M i s t h = vDe (vDi V) V s t h := by
  unfold kCo vDe
  rw [kEx_v R W hs h8 ht hh]
  rcases vCho_in W hs h8 ht hh with a | ⟨e, he, hc, a⟩
  · rw [a, if_pos (by decide), xg_no (show z_ok (-1) s = false from z_ok_neg (by decide)), xg2_no (by rw [show z_ok (-1) 8 = false from rfl, Bool.and_false])]
    rfl
  · have hd := kDis_v R W hs h8 ht he
    unfold kDis at hd
    rw [a, if_neg (nI_pos (by omega)), nI_clamp (by omega), hd, xfar_lt (vCs_far hc).1]
theorem kWy_v (R : LandR M 0 V) (W : WFV V) (hs : V 66 = nI s) (h8 : s ≤ 8) (ht : t < 8) (hh : h < 4) {e : Nat} (he : e < s) : kWy M s t h e = vRe (vDi V) V s t h e := by
  unfold kWy vRe
  rw [kEx_v R W hs h8 ht hh, R.2.2.2.1.2.2.1 e (by omega), kLen_v R W hs h8 hh he, kDis_v R W hs h8 ht he, kQ_v R W hs h8 ht hh, (kFS_v R W hs h8 ht hh (show e < 8 by omega)).1, (kFS_v R W hs h8 ht hh (show e < 8 by omega)).2, vGr_n W hs h8 ht hh he]
  by_cases c1 : vCho (vDi V) V s t h = nI e
  · rw [if_pos c1.symm, if_pos c1]
  · rw [if_neg (fun q => c1 q.symm), if_neg c1]
    obtain ⟨_, _, ho⟩ := vEx W hs h8 he
    rcases ho with ho | ho
    · rw [ho, if_pos (by decide), if_pos (show nI 0 = 0 from rfl)]
    · rw [ho, if_neg (show ¬ ¬ nI 1 = nI 1 from fun q => q rfl), if_neg (show ¬ nI 1 = 0 by decide)]
      by_cases c2 : vLen V h e = 0
      · rw [if_pos c2, if_pos c2]
      · rw [if_neg c2, if_neg c2]
        obtain ⟨n, hn, en⟩ := vFar_n W hs h8 ht he
        obtain ⟨l, hl, el⟩ := vLen_n W hs h8 hh he
        cases hc : vCs V s t h e
        · have hf : ¬ nI n < xFAR := by
            intro q
            have : vCs V s t h e = true := by
              unfold vCs vCan
              rw [decide_eq_true he, decide_eq_true ho, en, decide_eq_true q, el, decide_eq_true]
              · rfl
              · rw [el] at c2
                refine (nI_ltI (a := 0) (b := l) (by omega) (by omega)).mpr ?_
                refine Nat.pos_of_ne_zero fun z => c2 ?_
                rw [z]; rfl
            rw [hc] at this
            cases this
          have hg : vGn V s t h e = 0 := by
            unfold vGn
            rw [hc]; rfl
          rw [en, hg, if_pos (show xfar (nI n) = -1 from if_neg hf), if_pos (show nI 0 = 0 from rfl)]
        · obtain ⟨f1, _, _⟩ := vCs_far hc
          have hfg := (vfg W hs h8 ht hh hc).1
          have hq := vq_s W hs h8 ht hh
          rw [xfar_lt f1, en, if_neg (nI_nm1 (by omega))]
          show (if ¬ nI (vf V t h e) = nI (vq V s t h).2.2.1 then nI 4 else if nI (vg V t h e) = nI (vq V s t h).2.2.2 then nI 6 else nI 5) = _
          unfold vGn
          rw [hc, if_pos rfl]
          have q5 := hq.2.2.2.2.1
          have q6 := hq.2.2.2.2.2
          by_cases a : vf V t h e = (vq V s t h).2.2.1
          · rw [if_neg (fun z => z (by rw [a])), if_pos a]
            by_cases b : vg V t h e = (vq V s t h).2.2.2
            · rw [if_pos (by rw [b]), if_pos b]
              rfl
            · rw [if_neg (fun z => b ((nI_eq (by omega) (by omega)).mp z)), if_neg b]
              rfl
          · rw [if_pos (fun z => a ((nI_eq (by omega) (by omega)).mp z)), if_neg a]
            rfl
theorem kOt_v (R0 : LandR M 0 V) {U : Nat → Int32} (R1 : LandR M 1 U) (W : WFV V) (WU : WFV U) (hs : V 66 = nI s) (hu : U 66 = nI s) (h8 : s ≤ 8) : kOt M s = sm (kPs (fun t h => decide (¬ vCho (vDi U) U s t h = vCho (vDi V) V s t h))) 32 := by
  unfold kOt
  refine sm_cong fun k hk => ?_
  show zb (decide (¬ kEx M 1 s (k / 4) (k % 4) = kEx M 0 s (k / 4) (k % 4))) = zb (decide (¬ vCho (vDi U) U s (k / 4) (k % 4) = vCho (vDi V) V s (k / 4) (k % 4)))
  rw [kEx_v R0 W hs h8 (by omega) (by omega), kEx_v R1 WU hu h8 (by omega) (by omega)]
end L6

