/-! The class's answers told by the row. -/
def sN (f : Nat → Nat) : Nat → Nat
  | 0 => 0
  | n + 1 => sN f n + f n
theorem sN_cong {f g : Nat → Nat} : ∀ {n : Nat}, (∀ a, a < n → f a = g a) → sN f n = sN g n
  | 0, _ => rfl
  | n + 1, h => by
    unfold sN
    rw [sN_cong (fun a ha => h a (by omega)), h n (by omega)]
theorem sN_add {f g : Nat → Nat} : ∀ {n : Nat}, sN (fun a => f a + g a) n = sN f n + sN g n
  | 0 => rfl
  | n + 1 => by
    unfold sN
    rw [sN_add]
    omega
theorem sN_cnt {p : Nat → Bool} : ∀ {n : Nat}, sN (fun a => if p a then 1 else 0) n = cnt p n
  | 0 => rfl
  | n + 1 => by
    unfold sN cnt
    rw [sN_cnt]
theorem sm_nI {f : Nat → Nat} : ∀ {n : Nat}, sm (fun a => nI (f a)) n = nI (sN f n)
  | 0 => rfl
  | n + 1 => by
    rw [sm_s, sm_nI, nI_add]
    rfl
theorem cnt_adn {p : Nat → Bool} {n : Nat} : ∀ k, cnt p (n + k) = cnt p n + cnt (fun j => p (n + j)) k
  | 0 => rfl
  | k + 1 => by
    show cnt p (n + k) + (if p (n + k) then 1 else 0) = cnt p n + (cnt (fun j => p (n + j)) k + (if p (n + k) then 1 else 0))
    rw [cnt_adn k]
    omega
theorem cnt_64 {p : Nat → Bool} : ∀ a, cnt p (8 * a) = sN (fun a => cnt (fun b => p (8 * a + b)) 8) a
  | 0 => rfl
  | a + 1 => by
    rw [show 8 * (a + 1) = 8 * a + 8 by omega, cnt_adn, cnt_64 a]
    rfl
theorem cnt_sym {p : Nat → Bool} (hs : ∀ a b, a < 8 → b < 8 → p (8 * a + b) = p (8 * b + a)) (hd : ∀ a, a < 8 → p (8 * a + a) = false) : ∀ n, n ≤ 8 → sN (fun a => cnt (fun b => p (8 * a + b)) n) n = 2 * sN (fun a => cnt (fun b => p (8 * a + b)) a) n
  | 0, _ => rfl
  | n + 1, hn => by
    have ih := cnt_sym hs hd n (by omega)
    have e1 : sN (fun a => cnt (fun b => p (8 * a + b)) (n + 1)) n = sN (fun a => cnt (fun b => p (8 * a + b)) n) n + cnt (fun b => p (8 * n + b)) n := by
      rw [← sN_cnt (p := fun b => p (8 * n + b)), ← sN_add]
      refine sN_cong fun a ha => ?_
      show cnt (fun b => p (8 * a + b)) n + (if p (8 * a + n) then 1 else 0) = _
      rw [hs a n (by omega) (by omega)]
    show sN (fun a => cnt (fun b => p (8 * a + b)) (n + 1)) n + (cnt (fun b => p (8 * n + b)) n + (if p (8 * n + n) then 1 else 0)) = 2 * (sN (fun a => cnt (fun b => p (8 * a + b)) a) n + cnt (fun b => p (8 * n + b)) n)
    rw [e1, ih, hd n (by omega), if_neg (by decide)]
    omega
theorem sN_le {f : Nat → Nat} {c : Nat} : ∀ {n : Nat}, (∀ a, a < n → f a ≤ c) → sN f n ≤ c * n
  | 0, _ => Nat.zero_le _
  | n + 1, h => by
    have h1 := sN_le (f := f) (c := c) (n := n) (fun a ha => h a (by omega))
    have h2 := h n (by omega)
    unfold sN
    rw [Nat.mul_succ]
    omega
section L23
variable {M : Nat → Nat → Nat → Int32} {V : Nat → Int32} {s t h k : Nat}
theorem count0_v (R : LandR M 0 V) (W : WFV V) : sm (fun a => sm (fun b => zb (decide (0 < M 27 0 (8 * a + b)))) a) 8 = sm (fun j => zb (decide (0 < V (2 + j)))) 64 / nI 2 := by
  obtain ⟨p, hp⟩ : ∃ p : Nat → Bool, p = fun j => decide (0 < V (2 + j)) := ⟨_, rfl⟩
  have ep : ∀ j, p j = decide (0 < V (2 + j)) := fun j => by rw [hp]
  have e1 : sm (fun j => zb (decide (0 < V (2 + j)))) 64 = nI (cnt p 64) := by
    rw [← sm_cnt]
    exact sm_cong (fun j _ => by rw [ep])
  have e2 : sm (fun a => sm (fun b => zb (decide (0 < M 27 0 (8 * a + b)))) a) 8 = nI (sN (fun a => cnt (fun b => p (8 * a + b)) a) 8) := by
    rw [← sm_nI]
    refine sm_cong fun a ha => ?_
    rw [← sm_cnt]
    refine sm_cong fun b hb => ?_
    rw [R.2.1 (8 * a + b) (by omega), ep]
  have e3 := cnt_sym (p := p) (fun a b ha hb => by rw [ep, ep, W.2.2.1 a b ha hb]) (fun a ha => by rw [ep, W.2.2.2.1 a ha]; rfl) 8 (Nat.le_refl _)
  have e4 := cnt_64 (p := p) 8
  have e5 : sN (fun a => cnt (fun b => p (8 * a + b)) a) 8 ≤ 8 * 8 := sN_le (fun a ha => Nat.le_trans (cnt_le _ _) (by omega))
  rw [e1, e2, show (64 : Nat) = 8 * 8 from rfl, e4, e3, pk_div (by omega) (by decide) (by decide)]
  congr 1
  omega
theorem kCt_v (R : LandR M 0 V) (W : WFV V) (P : WFP V) (hs : V 66 = nI s) (h8 : s ≤ 8) (hk : M 2 0 2 = nI k) {v : Nat} (hv : v < 10) : kCt M s v = vCt V s k v := by
  match v, hv with
  | 0, _ => exact count0_v R W
  | 1, _ => exact R.2.2.1
  | 2, _ =>
    show sm (fun e => zb (decide (M 15 0 e = nI 1))) s = sm (fun e => V (69 + 5 * e)) s
    refine sm_cong fun e he => ?_
    rw [R.2.2.2.1.2.2.1 e (by omega)]
    rcases (vEx W hs h8 he).2.2 with z | z
    · rw [z]; rfl
    · rw [z]; rfl
  | 3, _ =>
    show sm (fun j => zb (decide (0 < M 22 0 j))) 16 = sm (fun j => zb (decide (0 < V (107 + j)))) 16
    exact sm_cong (fun j hj => by rw [R.2.2.2.2.1.1 j hj])
  | 4, _ => exact R.2.2.2.2.2.2.1
  | 5, _ => exact R.2.2.2.2.2.2.2.1
  | 6, _ => exact R.2.2.2.2.2.2.2.2.1
  | 7, _ =>
    show sm (M 26 0) 4 = sm (fun j => V (135 + j)) 4
    exact sm_cong (fun j hj => R.2.2.2.2.1.2.2.2.2 j hj)
  | 8, _ =>
    show kWo M s = sm (fun k => zb (decide (vFs V s k < 0))) 32
    rw [kWo_v R W P hs h8]
    rfl
  | 9, _ => exact hk
theorem kCh_v (R : LandR M 0 V) (W : WFV V) (hs : V 66 = nI s) (h8 : s ≤ 8) (ht : t < 8) (hh : h < 4) {v : Nat} (hv : v < 6) : kCh M s t h v = vCh V s t h v := by
  match v, hv with
  | 0, _ => exact kEx_v R W hs h8 ht hh
  | 1, _ => exact kCo_v R W hs h8 ht hh
  | 2, _ =>
    show (kQ M 0 s t h).2.1 = vGd (vDi V) V s t h 3
    rw [kQ_v R W hs h8 ht hh, vGd_3 W hs h8 ht hh]
  | 3, _ =>
    show (kQ M 0 s t h).1 = vGd (vDi V) V s t h 1
    rw [kQ_v R W hs h8 ht hh, vGd_1 W hs h8 ht hh]
  | 4, _ => exact R.2.2.2.2.2.1 (4 * t + h) (by omega)
  | 5, _ => exact kNx_v R W hs h8 ht hh
theorem LandR_0of1 {M' : Nat → Nat → Nat → Int32} (R : LandR M 0 V) (h : ∀ k, k < 29 → M' k 0 = M k 0) : LandR M' 0 V := LandR_same R (fun k hk _ _ _ _ _ _ => h k hk)
theorem kOt_try (R : LandR M 0 V) (W : WFV V) (hs : V 66 = nI s) (h8 : s ≤ 8) {a b x : Nat} (ha : a < 8) (hb : b < 8) (hab : a ≠ b) (hx : x ≤ 99) : kOt (mTry M a b (nI x)) s = vOt V s a b x := by
  have R0 : LandR (mTry M a b (nI x)) 0 V := LandR_0of1 R (fun k _ => by
    unfold mTry mLay
    rw [u2_ni (by decide), u2_ni (by decide), mCpL_ne (by decide)])
  have R1 : LandR (mTry M a b (nI x)) 1 (vLay V a b (nI x)) := LandR_lay (LandR_cp R (by decide)) ha hb
  rw [kOt_v R0 R1 W (WFV_lay W ha hb hab hx) hs ((vLay_o ha hb (by omega)).trans hs) h8]
  rfl
theorem vDr_nn (V : Nat → Int32) (s e : Nat) : ∃ c, c ≤ 32 ∧ vDr V s e = nI c := ⟨_, cnt_le _ _, sm_cnt _⟩
theorem vDx_ge (V : Nat → Int32) (s : Nat) : ∀ e, -1 ≤ (vDx V s e).2
  | 0 => Int32.le_refl _
  | e + 1 => by
    have ih := vDx_ge V s e
    unfold vDx
    split
    · split
      · obtain ⟨c, hc, ec⟩ := vDr_nn V s e
        show -1 ≤ vDr V s e
        rw [ec]
        exact Int32.le_trans (by decide : (-1 : Int32) ≤ 0) (nI_pos' (by omega))
      · exact ih
    · exact ih
theorem kDe_v (R0 : LandR M 0 V) (R1 : LandR M 1 V) (W : WFV V) (hs : V 66 = nI s) (h8 : s ≤ 8) : ∀ e, e ≤ s → kDe M s e = vDx V s e
  | 0, _ => rfl
  | e + 1, he => by
    have ih := kDe_v R0 R1 W hs h8 e (by omega)
    have hd : V (69 + 5 * e) = nI 1 → kDr M s e = vDr V s e := by
      intro ho
      have RU : LandR (mFl M e) 1 (upd V (69 + 5 * e) (nI 0)) := by
        have r := LandR_u3 (x := nI 1 - M 15 1 e) R1 (show dmK 15 e = true from decide_eq_true (by omega)) (by decide)
        rw [R1.2.2.2.1.2.2.1 e (by omega), ho] at r
        unfold mFl
        rw [R1.2.2.2.1.2.2.1 e (by omega), ho]
        exact r
      have WU : WFV (upd V (69 + 5 * e) (nI 0)) := WFV_turn W hs h8 (by omega) (Or.inl rfl)
      have us : upd V (69 + 5 * e) (nI 0) 66 = nI s := (upd_o (by omega)).trans hs
      unfold kDr vDr
      refine sm_cong fun k hk => ?_
      show zb (kDb (kCo M 0 s (k / 4) (k % 4)) (kCo (mFl M e) 1 s (k / 4) (k % 4))) = zb (kDb (vGs V s k) (vGs (upd V (69 + 5 * e) (nI 0)) s k))
      rw [kCo_v R0 W hs h8 (by omega) (by omega), kCo_v RU WU us h8 (by omega) (by omega)]
      rfl
    have ho := R0.2.2.2.1.2.2.1 e (by omega)
    have e0 : kDe M s (e + 1) = if (kDe M s e).2 < (if M 15 0 e = nI 1 then kDr M s e else -1) then (nI e, if M 15 0 e = nI 1 then kDr M s e else -1) else kDe M s e := rfl
    have e1 : vDx V s (e + 1) = if V (69 + 5 * e) = nI 1 then (if (vDx V s e).2 < vDr V s e then (nI e, vDr V s e) else vDx V s e) else vDx V s e := rfl
    rw [e0, e1, ho, ih]
    by_cases o : V (69 + 5 * e) = nI 1
    · rw [if_pos o, if_pos o, hd o]
    · rw [if_neg o, if_neg o, if_neg (Int32.not_lt.mpr (vDx_ge V s e))]
theorem kDe_cp (R : LandR M 0 V) (W : WFV V) (hs : V 66 = nI s) (h8 : s ≤ 8) : (kDe (mCpL M 1 0) s s).1 = (vDx V s s).1 := by
  have R0 : LandR (mCpL M 1 0) 0 V := LandR_0of1 R (fun k _ => mCpL_ne (by decide))
  rw [kDe_v R0 (LandR_cp R (by decide)) W hs h8 s (Nat.le_refl _)]
theorem lay_28 {N : Nat → Nat → Nat → Int32} {i a b : Nat} {x : Int32} (h : ∀ j, j < 64 → N 27 i j = V (2 + j)) (ha : a < 8) (hb : b < 8) {j : Nat} (hj : j < 64) : mLay N i a b x 28 i j = vDi (vLay V a b x) j := by
  have h27 := vLay_r (x := x) (N 27 i) h ha hb
  have e1 : mLay N i a b x 28 i j = fwO (xfl (fwI (xlay (N 27 i) a b x)) (N 28 i) 64) 8 j := by
    unfold mLay
    rw [u2_self]
  rw [e1]
  exact (fw_of xfl_aeq j hj).trans (fw_cong h27 j hj)
theorem kId_v (R : LandR M 0 V) (W : WFV V) {a b : Nat} (ha : a < 8) (hb : b < 8) (hab : a ≠ b) : kId (mLay (mCpR M 1 0) 1 a b (nI 0) 28 1 (8 * a + b)) = vId V a b := by
  have h27 : ∀ j, j < 64 → mCpR M 1 0 27 1 j = V (2 + j) := fun j hj => by
    rw [show mCpR M 1 0 27 1 j = xcp 64 (M 27 0) (M 27 1) j from rfl]
    unfold xcp
    rw [if_pos hj]
    exact R.2.1 j hj
  rw [lay_28 h27 ha hb (by omega)]
  obtain ⟨m, hm, em⟩ := vDi_rng (WFV_lay (c := 0) W ha hb hab (by decide)) (8 * a + b) (by omega)
  unfold kId vId
  rw [em, nI_add]
  unfold xfar
  by_cases l : m < 1000000
  · have l1 : nI m < xFAR := (nI_ltI (b := 1000000) (by omega) (by omega)).mpr l
    rw [if_pos l1, if_neg (nI_nm1 (by omega)), nI_add]
    by_cases q : m < 99
    · rw [if_pos ((nI_ltI (b := 99) (by omega) (by omega)).mpr q), if_neg (fun z => by have := (nI_ltI (a := 99) (by omega) (by omega)).mp z; omega)]
    · rw [if_neg (fun z => q ((nI_ltI (b := 99) (by omega) (by omega)).mp z)), if_pos ((nI_ltI (a := 99) (by omega) (by omega)).mpr (by omega))]
  · have l1 : ¬ nI m < xFAR := fun z => l ((nI_ltI (b := 1000000) (by omega) (by omega)).mp z)
    rw [if_neg l1, if_pos rfl, if_pos ((nI_ltI (a := 99) (by omega) (by omega)).mpr (by omega))]
theorem kNd_v (R : LandR M 0 V) (W : WFV V) {a b : Nat} (ha : a < 8) (hb : b < 8) : kNd (M 27 0) a b = xfar (vDi V (8 * a + b)) := by
  have hc : zcn (M 27 0) (fun k => (V (2 + k)).toNatClampNeg) := fun j hj => by
    rw [R.2.1 j hj]
    exact vzc W j hj
  rw [kNd_is hc ha hb]
  exact congrArg xfar (fw_cong (fun j hj => R.2.1 j hj) _ (by omega))
theorem kEo_v (R : LandR M 0 V) (W : WFV V) (hs : V 66 = nI s) (h8 : s ≤ 8) {e v : Nat} (he : e < s) (hv : v < 5) : kEo M e v = V (67 + v + 5 * e) := by
  unfold kEo
  obtain ⟨r0, r1, r2, r3, r4⟩ := R.2.2.2.1
  by_cases z : v = 2
  · subst z
    rw [if_pos rfl, r2 e (by omega)]
    rcases (vEx W hs h8 he).2.2 with z | z
    · rw [show 67 + 2 + 5 * e = 69 + 5 * e by omega, z]; rfl
    · rw [show 67 + 2 + 5 * e = 69 + 5 * e by omega, z]; rfl
  · rw [if_neg z]
    obtain e1 | e1 | e1 | e1 : v = 0 ∨ v = 1 ∨ v = 3 ∨ v = 4 := by omega
    · rw [e1]; exact r0 e (by omega)
    · rw [e1]; exact r1 e (by omega)
    · rw [e1]; exact r3 e (by omega)
    · rw [e1]; exact r4 e (by omega)
theorem kNo_v (R : LandR M 0 V) {a v : Nat} (ha : a < 4) (hv : v < 8) : kNo M a v = vNo V a v := by
  unfold kNo vNo
  obtain ⟨r0, r1, r2, r3, r4⟩ := R.2.2.2.2.1
  by_cases z : v < 4
  · rw [if_pos z, if_pos z]
    exact r0 _ (by omega)
  · rw [if_neg z, if_neg z]
    obtain e1 | e1 | e1 | e1 : v = 4 ∨ v = 5 ∨ v = 6 ∨ v = 7 := by omega
    · rw [e1, show 123 + (4 * (4 - 4) + a) = 123 + a by omega]; exact r1 a ha
    · rw [e1, show 123 + (4 * (5 - 4) + a) = 127 + a by omega]; exact r2 a ha
    · rw [e1, show 123 + (4 * (6 - 4) + a) = 131 + a by omega]; exact r3 a ha
    · rw [e1, show 123 + (4 * (7 - 4) + a) = 135 + a by omega]; exact r4 a ha
end L23
/-! the class's digest -/
section L24
variable {w : zWp} {d s o k n b c : Nat} {M : Nat → Nat → Nat → Int32} {O : Nat → Int64} {V T : Nat → Int32} {K : Nat → Bool}
theorem c_digest (F : zF M s o k n) (R : LandR M 0 V) (W : WFV V) (P : WFP V) (hs : V 66 = nI s) (hT : aeq n (M 31 0) T) (hK : ∀ p, p < 2 → M 30 0 p = zb (K p)) (hb : V 171 = nI b) (hc : V 172 = nI c) (hcb : c ≤ b) (h9 : b ≤ 9999) :
    ∃ M2, zSame M M2 ∧ zC w mX9_digest (d + 11) [vR 9 0] (zP M O) (zrJ (gDig V s k K T n b c)) (zP M2 O) := by
  have h8 := F.h8
  have ms := F.hs
  have hnn : ∀ N, zSame M N → ∀ j, j < 64 → 0 ≤ N 27 0 j := fun N S j hj => by
    rw [S.lnd (i := 0) (by decide) 27 (by decide) (by decide) (by decide) (by decide), R.2.1 j hj]
    obtain ⟨c, hc, ec⟩ := W.2.1 j hj
    rw [ec]
    exact nI_pos' (by omega)
  have rr : ∀ N, zSame M N → LandR N 0 V := fun N S => LandR_same R (fun k hk h1 h2 h3 h4 h5 h6 => S k 0 (fun z => by rcases h1 (by omega) with q | q <;> omega) h3 h4 h5 h6 (Or.inl (by decide)))
  -- counts
  obtain ⟨M1, S1, c1⟩ := c_wCounts (w := w) (d := d) (O := O) (M := M) (M' := M) zSame.rf ms h8 3271
  rw [hfo_cong (fun v hv => kCt_v R W P hs h8 F.hh hv)] at c1
  obtain ⟨h1, e1⟩ : ∃ h1, h1 = hfo (vCt V s k) 10 3271 := ⟨_, rfl⟩
  rw [← e1] at c1
  have g0 := c_setting (w := w) (d := d + 10) (M := M1) (O := O) (i := 0) (by decide) (nI 0)
  have g1 := c_setting (w := w) (d := d + 10) (M := M1) (O := O) (i := 0) (by decide) (nI 1)
  rw [xg_nI (by decide) (by decide), S1.lnd (i := 0) (by decide) 18 (by decide) (by decide) (by decide) (by decide), R.1 0 (by decide)] at g0
  rw [xg_nI (by decide) (by decide), S1.lnd (i := 0) (by decide) 18 (by decide) (by decide) (by decide) (by decide), R.1 1 (by decide)] at g1
  obtain ⟨h2, e2⟩ : ∃ h2, h2 = hj (hj h1 (V 0)) (V 1) := ⟨_, rfl⟩
  -- roads
  obtain ⟨M2, S2, c2⟩ := c_wRoads (w := w) (d := d) (O := O) (M := M) (M' := M1) S1 h2
  rw [hf2_cong (f' := fun j => V (2 + j)) (g' := fun j => xfar (vDi V (8 * (j / 8) + j % 8))) (fun j hj => ⟨R.2.1 j hj, kNd_v R W (by omega) (by omega)⟩)] at c2
  obtain ⟨h3, e3⟩ : ∃ h3, h3 = gRd V h2 := ⟨_, rfl⟩
  rw [show hf2 (fun j => V (2 + j)) (fun j => xfar (vDi V (8 * (j / 8) + j % 8))) 64 h2 = h3 from e3.symm] at c2
  -- exits, neighbours
  have R2 := rr M2 S2
  have c3 := c_wExits (w := w) (d := d) (O := O) (M := M2) (F.same S2) h3
  rw [hfo_cong (g := fun j => V (67 + j % 5 + 5 * (j / 5))) (fun j hj => kEo_v R2 W hs h8 (by omega) (by omega))] at c3
  obtain ⟨h4, e4⟩ : ∃ h4, h4 = gEx V s h3 := ⟨_, rfl⟩
  rw [show hfo (fun j => V (67 + j % 5 + 5 * (j / 5))) (5 * s) h3 = h4 from e4.symm] at c3
  have c4 := c_wNeighbours (w := w) (d := d) (O := O) (M := M2) h4
  rw [hfo_cong (g := fun j => vNo V (j / 8) (j % 8)) (fun j hj => kNo_v R2 (by omega) (by omega))] at c4
  obtain ⟨h5, e5⟩ : ∃ h5, h5 = gNb V h4 := ⟨_, rfl⟩
  rw [show hfo (fun j => vNo V (j / 8) (j % 8)) 32 h4 = h5 from e5.symm] at c4
  -- choices, reasons
  obtain ⟨M5, S5, c5⟩ := c_wChoices (w := w) (d := d) (O := O) (M := M) (M' := M2) S2 ms h8 h5
  rw [hfo_cong (g := fun j => vCh V s (j / 24) (j / 6 % 4) (j % 6)) (fun j hj => kCh_v R W hs h8 (by omega) (by omega) (by omega))] at c5
  obtain ⟨h6, e6⟩ : ∃ h6, h6 = gCh V s h5 := ⟨_, rfl⟩
  rw [show hfo (fun j => vCh V s (j / 24) (j / 6 % 4) (j % 6)) 192 h5 = h6 from e6.symm] at c5
  obtain ⟨M6, S6, c6⟩ := c_wReasons (w := w) (d := d) (O := O) (M := M) (M' := M5) S5 ms h8 h6
  rw [hfo_cong (g := vRe (vDi V) V s 0 0) (fun j hj => kWy_v R W hs h8 (by decide) (by decide) hj)] at c6
  obtain ⟨h7, e7⟩ : ∃ h7, h7 = hfo (vRe (vDi V) V s 0 0) s h6 := ⟨_, rfl⟩
  rw [← e7] at c6
  -- tries
  have R6 := rr M6 S6
  obtain ⟨M7, S7, c7⟩ := c_ifRoad (w := w) (d := d + 1) (O := O) (M := M6) (s := s) (a := 0) (b := 7) (c := 5) (F.same S6).hs h8 (by decide) (by decide) (by decide) (by decide) (hnn M6 S6)
  rw [kOt_try R6 W hs h8 (by decide) (by decide) (by decide) (by decide)] at c7
  have R7 := rr M7 (S6.tr S7)
  obtain ⟨M8, S8, c8⟩ := c_dearest (w := w) (d := d + 2) (O := O) (M := M) (M' := M7) (s := s) (S6.tr S7) ms h8
  rw [kDe_cp R7 W hs h8] at c8
  have R8 := rr M8 S8
  obtain ⟨M9, S9, c9⟩ := c_idle (w := w) (d := d + 1) (O := O) (M := M8) (a := 0) (b := 7) (by decide) (by decide) (by decide) (hnn M8 S8)
  rw [kId_v R8 W (by decide) (by decide) (by decide)] at c9
  have S89 := S8.tr S9
  have R9 := rr M9 S89
  have F9 := F.same S89
  -- the share
  have cs := c_hotShare (w := w) (d := d + 10) (M := M9) (O := O) (R9.2.2.2.2.2.2.1.trans hb) (R9.2.2.2.2.2.2.2.1.trans hc) hcb h9
  have cb := c_bitsS (w := w) (d := d + 10) (σ := zP M9 O) (a := b - c) (b := b) (by omega) h9
  obtain ⟨h8', e8⟩ : ∃ h8', h8' = gTr V s h7 := ⟨_, rfl⟩
  have ck := c_wSlots (w := w) (d := d) (M := M9) (O := O) (gSh b c h8')
  rw [hfo_cong (g := fun p => zb (K p)) (fun p hp => by
    unfold kHo
    rw [S89 30 0 (by decide) (by decide) (by decide) (by decide) (by decide) (Or.inr (by decide)), hK p hp]
    cases K p <;> rfl)] at ck
  have ct := c_wText (w := w) (d := d) (M := M9) (O := O) F9.hn F9.h60 (gKp K (gSh b c h8'))
  rw [hfo_cong (g := T) (fun j hj => by rw [S89 31 0 (by decide) (by decide) (by decide) (by decide) (by decide) (Or.inr (by decide))]; exact hT j hj)] at ct
  refine ⟨M9, S89, ?_⟩
  have efin : gDig V s k K T n b c = gTx T n (gKp K (gSh b c h8')) := by
    unfold gDig gEnd
    rw [← e1, ← e2, ← e3, ← e4, ← e5, ← e6, ← e7, ← e8]
  rw [efin]
  have j1 : ∀ (h : Int64) (v : Int32) (σ : zSt), zC w mX9_joined (d + 10) [vJ h, vJ v.toInt64] σ (zrJ (hj h v)) σ := fun h v σ => c_hj h v
  refine zC_of (cr := 0) (L0 := [vR 9 0, vU, vU]) rfl (by decide) (by decide) rfl (Nat.le_of_ble_eq_true rfl) rfl ?_
  refine g_ldc2 (n := 3) dX9_digest_0 rfl kc_X9_300 ?_
  refine g_lstore1 (n := 4) dX9_digest_3 rfl (by decide) rfl ?_
  refine g_aload_n (n := 5) dX9_digest_4 rfl rfl ?_
  refine g_lload_n (n := 6) dX9_digest_5 rfl rfl ?_
  refine g_cVv (n := 9) c1 dX9_digest_6 rfl kw_X9_302 rfl (by decide) (z_lvP (by first | decide | assumption)) (Nat.le_of_ble_eq_true rfl) ⟨Nat.le_refl _, Nat.le_refl _⟩ ?_ rfl
  refine g_lstore1 (n := 10) dX9_digest_9 rfl (by decide) rfl ?_
  refine g_lload_n (n := 11) dX9_digest_10 rfl rfl ?_
  refine g_aload_n (n := 12) dX9_digest_11 rfl rfl ?_
  refine gf_X9_10 (n := 15) dX9_digest_12 rfl rfl (z_lvP (by first | decide | assumption)) rfl ?_
  refine g_iconst (n := 16) dX9_digest_15 rfl k_ic_0 ?_
  refine g_cVv (n := 19) g0 dX9_digest_16 rfl kw_X9_306 rfl (by decide) (z_lvP (by first | decide | assumption)) (Nat.le_of_ble_eq_true rfl) ⟨Nat.le_refl _, Nat.le_refl _⟩ ?_ rfl
  refine g_i2l (n := 20) dX9_digest_19 rfl ?_
  refine g_cSv (n := 23) (j1 _ _ _) dX9_digest_20 rfl kw_X9_309 (Nat.le_of_ble_eq_true rfl) ⟨Nat.le_refl _, Nat.le_refl _⟩ ?_ rfl
  refine g_lstore1 (n := 24) dX9_digest_23 rfl (by decide) rfl ?_
  refine g_lload_n (n := 25) dX9_digest_24 rfl rfl ?_
  refine g_aload_n (n := 26) dX9_digest_25 rfl rfl ?_
  refine gf_X9_10 (n := 29) dX9_digest_26 rfl rfl (z_lvP (by first | decide | assumption)) rfl ?_
  refine g_iconst (n := 30) dX9_digest_29 rfl k_ic_1 ?_
  refine g_cVv (n := 33) g1 dX9_digest_30 rfl kw_X9_306 rfl (by decide) (z_lvP (by first | decide | assumption)) (Nat.le_of_ble_eq_true rfl) ⟨Nat.le_refl _, Nat.le_refl _⟩ ?_ rfl
  refine g_i2l (n := 34) dX9_digest_33 rfl ?_
  refine g_cSv (n := 37) (j1 _ _ _) dX9_digest_34 rfl kw_X9_309 (Nat.le_of_ble_eq_true rfl) ⟨Nat.le_refl _, Nat.le_refl _⟩ ?_ rfl
  rw [← e2]
  refine g_lstore1 (n := 38) dX9_digest_37 rfl (by decide) rfl ?_
  refine g_aload_n (n := 39) dX9_digest_38 rfl rfl ?_
  refine g_lload_n (n := 40) dX9_digest_39 rfl rfl ?_
  refine g_cVv (n := 43) c2 dX9_digest_40 rfl kw_X9_313 rfl (by decide) (z_lvP (by first | decide | assumption)) (Nat.le_of_ble_eq_true rfl) ⟨Nat.le_refl _, Nat.le_refl _⟩ ?_ rfl
  refine g_lstore1 (n := 44) dX9_digest_43 rfl (by decide) rfl ?_
  refine g_aload_n (n := 45) dX9_digest_44 rfl rfl ?_
  refine g_lload_n (n := 46) dX9_digest_45 rfl rfl ?_
  refine g_cVv (n := 49) c3 dX9_digest_46 rfl kw_X9_316 rfl (by decide) (z_lvP (by first | decide | assumption)) (Nat.le_of_ble_eq_true rfl) ⟨Nat.le_refl _, Nat.le_refl _⟩ ?_ rfl
  refine g_lstore1 (n := 50) dX9_digest_49 rfl (by decide) rfl ?_
  refine g_aload_n (n := 51) dX9_digest_50 rfl rfl ?_
  refine g_lload_n (n := 52) dX9_digest_51 rfl rfl ?_
  refine g_cVv (n := 55) c4 dX9_digest_52 rfl kw_X9_319 rfl (by decide) (z_lvP (by first | decide | assumption)) (Nat.le_of_ble_eq_true rfl) ⟨Nat.le_refl _, Nat.le_refl _⟩ ?_ rfl
  refine g_lstore1 (n := 56) dX9_digest_55 rfl (by decide) rfl ?_
  refine g_aload_n (n := 57) dX9_digest_56 rfl rfl ?_
  refine g_lload_n (n := 58) dX9_digest_57 rfl rfl ?_
  refine g_cVv (n := 61) c5 dX9_digest_58 rfl kw_X9_322 rfl (by decide) (z_lvP (by first | decide | assumption)) (Nat.le_of_ble_eq_true rfl) ⟨Nat.le_refl _, Nat.le_refl _⟩ ?_ rfl
  refine g_lstore1 (n := 62) dX9_digest_61 rfl (by decide) rfl ?_
  refine g_aload_n (n := 63) dX9_digest_62 rfl rfl ?_
  refine g_lload_n (n := 64) dX9_digest_63 rfl rfl ?_
  refine g_cVv (n := 67) c6 dX9_digest_64 rfl kw_X9_325 rfl (by decide) (z_lvP (by first | decide | assumption)) (Nat.le_of_ble_eq_true rfl) ⟨Nat.le_refl _, Nat.le_refl _⟩ ?_ rfl
  refine g_lstore1 (n := 68) dX9_digest_67 rfl (by decide) rfl ?_
  refine g_lload_n (n := 69) dX9_digest_68 rfl rfl ?_
  refine g_aload_n (n := 70) dX9_digest_69 rfl rfl ?_
  refine g_iconst (n := 71) dX9_digest_70 rfl k_ic_0 ?_
  refine g_bipush (n := 73) dX9_digest_71 rfl k_bp_7 ?_
  refine g_iconst (n := 74) dX9_digest_73 rfl k_ic_5 ?_
  refine g_cVv (n := 77) c7 dX9_digest_74 rfl kw_X9_328 rfl (by decide) (z_lvP (by first | decide | assumption)) (Nat.le_of_ble_eq_true rfl) ⟨Nat.le_refl _, Nat.le_refl _⟩ ?_ rfl
  refine g_i2l (n := 78) dX9_digest_77 rfl ?_
  refine g_cSv (n := 81) (j1 _ _ _) dX9_digest_78 rfl kw_X9_309 (Nat.le_of_ble_eq_true rfl) ⟨Nat.le_refl _, Nat.le_refl _⟩ ?_ rfl
  refine g_lstore1 (n := 82) dX9_digest_81 rfl (by decide) rfl ?_
  refine g_lload_n (n := 83) dX9_digest_82 rfl rfl ?_
  refine g_aload_n (n := 84) dX9_digest_83 rfl rfl ?_
  refine g_cVv (n := 87) c8 dX9_digest_84 rfl kw_X9_331 rfl (by decide) (z_lvP (by first | decide | assumption)) (Nat.le_of_ble_eq_true rfl) ⟨Nat.le_refl _, Nat.le_refl _⟩ ?_ rfl
  refine g_i2l (n := 88) dX9_digest_87 rfl ?_
  refine g_cSv (n := 91) (j1 _ _ _) dX9_digest_88 rfl kw_X9_309 (Nat.le_of_ble_eq_true rfl) ⟨Nat.le_refl _, Nat.le_refl _⟩ ?_ rfl
  refine g_lstore1 (n := 92) dX9_digest_91 rfl (by decide) rfl ?_
  refine g_lload_n (n := 93) dX9_digest_92 rfl rfl ?_
  refine g_aload_n (n := 94) dX9_digest_93 rfl rfl ?_
  refine g_iconst (n := 95) dX9_digest_94 rfl k_ic_0 ?_
  refine g_bipush (n := 97) dX9_digest_95 rfl k_bp_7 ?_
  refine g_cVv (n := 100) c9 dX9_digest_97 rfl kw_X9_334 rfl (by decide) (z_lvP (by first | decide | assumption)) (Nat.le_of_ble_eq_true rfl) ⟨Nat.le_refl _, Nat.le_refl _⟩ ?_ rfl
  refine g_i2l (n := 101) dX9_digest_100 rfl ?_
  refine g_cSv (n := 104) (j1 _ _ _) dX9_digest_101 rfl kw_X9_309 (Nat.le_of_ble_eq_true rfl) ⟨Nat.le_refl _, Nat.le_refl _⟩ ?_ rfl
  rw [show hj (hj (hj h7 (vOt V s 0 7 5)) (vDx V s s).1) (vId V 0 7) = h8' from e8.symm]
  refine g_lstore1 (n := 105) dX9_digest_104 rfl (by decide) rfl ?_
  refine g_lload_n (n := 106) dX9_digest_105 rfl rfl ?_
  refine g_aload_n (n := 107) dX9_digest_106 rfl rfl ?_
  refine g_cVv (n := 110) cs dX9_digest_107 rfl kw_X9_337 rfl (by decide) (z_lvP (by first | decide | assumption)) (Nat.le_of_ble_eq_true rfl) ⟨Nat.le_refl _, Nat.le_refl _⟩ ?_ rfl
  refine g_cSv (n := 113) cb dX9_digest_110 rfl kw_X9_341 (Nat.le_of_ble_eq_true rfl) ⟨Nat.le_refl _, Nat.le_refl _⟩ ?_ rfl
  refine g_cSv (n := 116) (c_joined h8' (kSh (b - c) b).toInt64) dX9_digest_113 rfl kw_X9_309 (Nat.le_of_ble_eq_true rfl) ⟨Nat.le_refl _, Nat.le_refl _⟩ ?_ rfl
  refine g_lstore1 (n := 117) dX9_digest_116 rfl (by decide) rfl ?_
  refine g_aload_n (n := 118) dX9_digest_117 rfl rfl ?_
  refine g_lload_n (n := 119) dX9_digest_118 rfl rfl ?_
  refine g_cVv (n := 122) ck dX9_digest_119 rfl kw_X9_345 rfl (by decide) (z_lvP (by first | decide | assumption)) (Nat.le_of_ble_eq_true rfl) ⟨Nat.le_refl _, Nat.le_refl _⟩ ?_ rfl
  refine g_lstore1 (n := 123) dX9_digest_122 rfl (by decide) rfl ?_
  refine g_aload_n (n := 124) dX9_digest_123 rfl rfl ?_
  refine g_lload_n (n := 125) dX9_digest_124 rfl rfl ?_
  refine g_cVv (n := 128) ct dX9_digest_125 rfl kw_X9_348 rfl (by decide) (z_lvP (by first | decide | assumption)) (Nat.le_of_ble_eq_true rfl) ⟨Nat.le_refl _, Nat.le_refl _⟩ ?_ rfl
  exact g_lreturn dX9_digest_128 rfl rfl rfl
end L24

