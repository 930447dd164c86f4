/-! The row V: what the class answers of it. Out of whole's parts 33, 55, 58, 59, 61, 62, 67. -/
def rSv (h : Nat) : Nat := if h < 6 then h + 1 else 6
def vFs (V : Nat → Int32) (s k : Nat) : Int32 := vCho (vDi V) V s (k / 4) (k % 4)
def vGs (V : Nat → Int32) (s k : Nat) : Int32 := vDe (vDi V) V s (k / 4) (k % 4)
def vCh (V : Nat → Int32) (s t h v : Nat) : Int32 := match v with
  | 0 => vCho (vDi V) V s t h
  | 1 => vDe (vDi V) V s t h
  | 2 => vGd (vDi V) V s t h 3
  | 3 => vGd (vDi V) V s t h 1
  | 4 => V (139 + (4 * t + h))
  | _ => if vCho (vDi V) V s t h < 0 then -1 else vNt (vDi V) V t (vTo V (vCho (vDi V) V s t h).toNatClampNeg)
def vOt (V : Nat → Int32) (s a c x : Nat) : Int32 := sm (fun k => zb (decide (¬ vFs (vLay V a c (nI x)) s k = vFs V s k))) 32
def vId (V : Nat → Int32) (a c : Nat) : Int32 := if nI 99 < vDi (vLay V a c (nI 0)) (8 * a + c) + nI 1 then -1 else vDi (vLay V a c (nI 0)) (8 * a + c) + nI 1
def vDr (V : Nat → Int32) (s e : Nat) : Int32 := sm (fun k => zb (kDb (vGs V s k) (vGs (upd V (69 + 5 * e) (nI 0)) s k))) 32
def vDx (V : Nat → Int32) (s : Nat) : Nat → Int32 × Int32
  | 0 => (-1, -1)
  | e + 1 => if V (69 + 5 * e) = nI 1 then (if (vDx V s e).2 < vDr V s e then (nI e, vDr V s e) else vDx V s e) else vDx V s e
theorem vDi_upd {V : Nat → Int32} {p : Nat} {x : Int32} (hp : 66 ≤ p) : aeq 64 (vDi V) (vDi (upd V p x)) := fw_cong (fun k hk => (upd_o (V := V) (x := x) (show 2 + k ≠ p by omega)).symm)
def ad (S : Nat → Int32) (p : Nat) (x : Int32) : Nat → Int32 := upd S p (S p + x)
def vTk6 (V : Nat → Int32) (e t h q : Nat) (co : Int32) : Nat → Int32 := ad (ad (ad (ad (ad (ad V 171 (nI 1)) (70 + 5 * e) (nI 1)) (71 + 5 * e) co) 173 co) (139 + (4 * t + h)) (nI 1)) (127 + q) (nI 1)
def vOv (V : Nat → Int32) (q : Nat) : Int32 := if V (127 + q) ≤ V (123 + q) then nI 0 else nI 1
def vTake (V : Nat → Int32) (e t h q : Nat) (co : Int32) : Nat → Int32 := ad (ad (vTk6 V e t h q co) (131 + q) (vOv (vTk6 V e t h q co) q)) (135 + q) (vOv (vTk6 V e t h q co) q)
def vCold (V : Nat → Int32) : Nat → Int32 := ad (ad V 171 (nI 1)) 172 (nI 1)
def vSnd (V : Nat → Int32) (s t h : Nat) : Nat → Int32 := if vCho (vDi V) V s t h < 0 then vCold V else vTake V (vCho (vDi V) V s t h).toNatClampNeg t h (vNe V (vCho (vDi V) V s t h).toNatClampNeg) (vDe (vDi V) V s t h)
def vNo (V : Nat → Int32) (a v : Nat) : Int32 := if v < 4 then V (107 + (4 * a + v)) else V (123 + (4 * (v - 4) + a))
def vCt (V : Nat → Int32) (s k v : Nat) : Int32 := match v with
  | 0 => sm (fun j => zb (decide (0 < V (2 + j)))) 64 / nI 2
  | 1 => V 66
  | 2 => sm (fun e => V (69 + 5 * e)) s
  | 3 => sm (fun j => zb (decide (0 < V (107 + j)))) 16
  | 4 => V 171
  | 5 => V 172
  | 6 => V 173
  | 7 => sm (fun j => V (135 + j)) 4
  | 8 => sm (fun k => zb (decide (vFs V s k < 0))) 32
  | _ => nI k
def z8 (V : Nat → Int32) : Nat → Int32 := upd (upd (upd (upd (upd (upd (upd (upd V (127 + 0) (nI 0)) (131 + 0) (nI 0)) (127 + 1) (nI 0)) (131 + 1) (nI 0)) (127 + 2) (nI 0)) (131 + 2) (nI 0)) (127 + 3) (nI 0)) (131 + 3) (nI 0)
def sN (f : Nat → Nat) : Nat → Nat
  | 0 => 0
  | n + 1 => sN f n + f n
theorem sN_cong {f g : Nat → Nat} : ∀ {n : Nat}, (∀ a, a < n → f a = g a) → sN f n = sN g n
  | 0, _ => rfl
  | n + 1, h => by
    unfold sN
    rw [sN_cong (fun a ha => h a (by omega)), h n (by omega)]
theorem sN_add {f g : Nat → Nat} : ∀ {n : Nat}, sN (fun a => f a + g a) n = sN f n + sN g n
  | 0 => rfl
  | n + 1 => by
    unfold sN
    rw [sN_add]
    omega
theorem sN_cnt {p : Nat → Bool} : ∀ {n : Nat}, sN (fun a => if p a then 1 else 0) n = cnt p n
  | 0 => rfl
  | n + 1 => by
    unfold sN cnt
    rw [sN_cnt]
theorem sm_nI {f : Nat → Nat} : ∀ {n : Nat}, sm (fun a => nI (f a)) n = nI (sN f n)
  | 0 => rfl
  | n + 1 => by
    rw [sm_s, sm_nI, nI_add]
    rfl
theorem cnt_adn {p : Nat → Bool} {n : Nat} : ∀ k, cnt p (n + k) = cnt p n + cnt (fun j => p (n + j)) k
  | 0 => rfl
  | k + 1 => by
    show cnt p (n + k) + (if p (n + k) then 1 else 0) = cnt p n + (cnt (fun j => p (n + j)) k + (if p (n + k) then 1 else 0))
    rw [cnt_adn k]
    omega
theorem cnt_64 {p : Nat → Bool} : ∀ a, cnt p (8 * a) = sN (fun a => cnt (fun b => p (8 * a + b)) 8) a
  | 0 => rfl
  | a + 1 => by
    rw [show 8 * (a + 1) = 8 * a + 8 by omega, cnt_adn, cnt_64 a]
    rfl
theorem cnt_sym {p : Nat → Bool} (hs : ∀ a b, a < 8 → b < 8 → p (8 * a + b) = p (8 * b + a)) (hd : ∀ a, a < 8 → p (8 * a + a) = false) : ∀ n, n ≤ 8 → sN (fun a => cnt (fun b => p (8 * a + b)) n) n = 2 * sN (fun a => cnt (fun b => p (8 * a + b)) a) n
  | 0, _ => rfl
  | n + 1, hn => by
    have ih := cnt_sym hs hd n (by omega)
    have e1 : sN (fun a => cnt (fun b => p (8 * a + b)) (n + 1)) n = sN (fun a => cnt (fun b => p (8 * a + b)) n) n + cnt (fun b => p (8 * n + b)) n := by
      rw [← sN_cnt (p := fun b => p (8 * n + b)), ← sN_add]
      refine sN_cong fun a ha => ?_
      show cnt (fun b => p (8 * a + b)) n + (if p (8 * a + n) then 1 else 0) = _
      rw [hs a n (by omega) (by omega)]
    show sN (fun a => cnt (fun b => p (8 * a + b)) (n + 1)) n + (cnt (fun b => p (8 * n + b)) n + (if p (8 * n + n) then 1 else 0)) = 2 * (sN (fun a => cnt (fun b => p (8 * a + b)) a) n + cnt (fun b => p (8 * n + b)) n)
    rw [e1, ih, hd n (by omega), if_neg (by decide)]
    omega
theorem sN_le {f : Nat → Nat} {c : Nat} : ∀ {n : Nat}, (∀ a, a < n → f a ≤ c) → sN f n ≤ c * n
  | 0, _ => Nat.zero_le _
  | n + 1, h => by
    have h1 := sN_le (f := f) (c := c) (n := n) (fun a ha => h a (by omega))
    have h2 := h n (by omega)
    unfold sN
    rw [Nat.mul_succ]
    omega
section L23
variable {M : Nat → Nat → Nat → Int32} {V : Nat → Int32} {s t h k : Nat}
theorem count0_v (R : LandR M 0 V) (W : WFV V) : sm (fun a => sm (fun b => zb (decide (0 < M 27 0 (8 * a + b)))) a) 8 = sm (fun j => zb (decide (0 < V (2 + j)))) 64 / nI 2 := by
  obtain ⟨p, hp⟩ : ∃ p : Nat → Bool, p = fun j => decide (0 < V (2 + j)) := ⟨_, rfl⟩
  have ep : ∀ j, p j = decide (0 < V (2 + j)) := fun j => by rw [hp]
  have e1 : sm (fun j => zb (decide (0 < V (2 + j)))) 64 = nI (cnt p 64) := by
    rw [← sm_cnt]
    exact sm_cong (fun j _ => by rw [ep])
  have e2 : sm (fun a => sm (fun b => zb (decide (0 < M 27 0 (8 * a + b)))) a) 8 = nI (sN (fun a => cnt (fun b => p (8 * a + b)) a) 8) := by
    rw [← sm_nI]
    refine sm_cong fun a ha => ?_
    rw [← sm_cnt]
    refine sm_cong fun b hb => ?_
    rw [R.2.1 (8 * a + b) (by omega), ep]
  have e3 := cnt_sym (p := p) (fun a b ha hb => by rw [ep, ep, W.2.2.1 a b ha hb]) (fun a ha => by rw [ep, W.2.2.2.1 a ha]; rfl) 8 (Nat.le_refl _)
  have e4 := cnt_64 (p := p) 8
  have e5 : sN (fun a => cnt (fun b => p (8 * a + b)) a) 8 ≤ 8 * 8 := sN_le (fun a ha => Nat.le_trans (cnt_le _ _) (by omega))
  rw [e1, e2, show (64 : Nat) = 8 * 8 from rfl, e4, e3, pk_div (by omega) (by decide) (by decide)]
  congr 1
  omega
theorem kCt_v (R : LandR M 0 V) (W : WFV V) (P : WFP V) (hs : V 66 = nI s) (h8 : s ≤ 8) (hk : M 2 0 2 = nI k) {v : Nat} (hv : v < 10) : kCt M s v = vCt V s k v := by
  match v, hv with
  | 0, _ => exact count0_v R W
  | 1, _ => exact R.2.2.1
  | 2, _ =>
    show sm (fun e => zb (decide (M 15 0 e = nI 1))) s = sm (fun e => V (69 + 5 * e)) s
    refine sm_cong fun e he => ?_
    rw [R.2.2.2.1.2.2.1 e (by omega)]
    rcases (vEx W hs h8 he).2.2 with z | z
    · rw [z]; rfl
    · rw [z]; rfl
  | 3, _ =>
    show sm (fun j => zb (decide (0 < M 22 0 j))) 16 = sm (fun j => zb (decide (0 < V (107 + j)))) 16
    exact sm_cong (fun j hj => by rw [R.2.2.2.2.1.1 j hj])
  | 4, _ => exact R.2.2.2.2.2.2.1
  | 5, _ => exact R.2.2.2.2.2.2.2.1
  | 6, _ => exact R.2.2.2.2.2.2.2.2.1
  | 7, _ =>
    show sm (M 26 0) 4 = sm (fun j => V (135 + j)) 4
    exact sm_cong (fun j hj => R.2.2.2.2.1.2.2.2.2 j hj)
  | 8, _ =>
    show kWo M s = sm (fun k => zb (decide (vFs V s k < 0))) 32
    rw [kWo_v R W P hs h8]
    rfl
  | 9, _ => exact hk
theorem kCh_v (R : LandR M 0 V) (W : WFV V) (hs : V 66 = nI s) (h8 : s ≤ 8) (ht : t < 8) (hh : h < 4) {v : Nat} (hv : v < 6) : kCh M s t h v = vCh V s t h v := by
  match v, hv with
  | 0, _ => exact kEx_v R W hs h8 ht hh
  | 1, _ => exact kCo_v R W hs h8 ht hh
  | 2, _ =>
    show (kQ M 0 s t h).2.1 = vGd (vDi V) V s t h 3
    rw [kQ_v R W hs h8 ht hh, vGd_3 W hs h8 ht hh]
  | 3, _ =>
    show (kQ M 0 s t h).1 = vGd (vDi V) V s t h 1
    rw [kQ_v R W hs h8 ht hh, vGd_1 W hs h8 ht hh]
  | 4, _ => exact R.2.2.2.2.2.1 (4 * t + h) (by omega)
  | 5, _ => exact kNx_v R W hs h8 ht hh
theorem LandR_0of1 {M' : Nat → Nat → Nat → Int32} (R : LandR M 0 V) (h : ∀ k, k < 29 → M' k 0 = M k 0) : LandR M' 0 V := LandR_same R (fun k hk _ _ _ _ _ _ => h k hk)
theorem kOt_try (R : LandR M 0 V) (W : WFV V) (hs : V 66 = nI s) (h8 : s ≤ 8) {a b x : Nat} (ha : a < 8) (hb : b < 8) (hab : a ≠ b) (hx : x ≤ 99) : kOt (mTry M a b (nI x)) s = vOt V s a b x := by
  have R0 : LandR (mTry M a b (nI x)) 0 V := LandR_0of1 R (fun k _ => by
    unfold mTry mLay
    rw [u2_ni (by decide), u2_ni (by decide), mCpL_ne (by decide)])
  have R1 : LandR (mTry M a b (nI x)) 1 (vLay V a b (nI x)) := LandR_lay (LandR_cp R (by decide)) ha hb
  rw [kOt_v R0 R1 W (WFV_lay W ha hb hab hx) hs ((vLay_o ha hb (by omega)).trans hs) h8]
  rfl
theorem vDr_nn (V : Nat → Int32) (s e : Nat) : ∃ c, c ≤ 32 ∧ vDr V s e = nI c := ⟨_, cnt_le _ _, sm_cnt _⟩
theorem vDx_ge (V : Nat → Int32) (s : Nat) : ∀ e, -1 ≤ (vDx V s e).2
  | 0 => Int32.le_refl _
  | e + 1 => by
    have ih := vDx_ge V s e
    unfold vDx
    split
    · split
      · obtain ⟨c, hc, ec⟩ := vDr_nn V s e
        show -1 ≤ vDr V s e
        rw [ec]
        exact Int32.le_trans (by decide : (-1 : Int32) ≤ 0) (nI_pos' (by omega))
      · exact ih
    · exact ih
theorem kDe_v (R0 : LandR M 0 V) (R1 : LandR M 1 V) (W : WFV V) (hs : V 66 = nI s) (h8 : s ≤ 8) : ∀ e, e ≤ s → kDe M s e = vDx V s e
  | 0, _ => rfl
  | e + 1, he => by
    have ih := kDe_v R0 R1 W hs h8 e (by omega)
    have hd : V (69 + 5 * e) = nI 1 → kDr M s e = vDr V s e := by
      intro ho
      have RU : LandR (mFl M e) 1 (upd V (69 + 5 * e) (nI 0)) := by
        have r := LandR_u3 (x := nI 1 - M 15 1 e) R1 (show dmK 15 e = true from decide_eq_true (by omega)) (by decide)
        rw [R1.2.2.2.1.2.2.1 e (by omega), ho] at r
        unfold mFl
        rw [R1.2.2.2.1.2.2.1 e (by omega), ho]
        exact r
      have WU : WFV (upd V (69 + 5 * e) (nI 0)) := WFV_turn W hs h8 (by omega) (Or.inl rfl)
      have us : upd V (69 + 5 * e) (nI 0) 66 = nI s := (upd_o (by omega)).trans hs
      unfold kDr vDr
      refine sm_cong fun k hk => ?_
      show zb (kDb (kCo M 0 s (k / 4) (k % 4)) (kCo (mFl M e) 1 s (k / 4) (k % 4))) = zb (kDb (vGs V s k) (vGs (upd V (69 + 5 * e) (nI 0)) s k))
      rw [kCo_v R0 W hs h8 (by omega) (by omega), kCo_v RU WU us h8 (by omega) (by omega)]
      rfl
    have ho := R0.2.2.2.1.2.2.1 e (by omega)
    have e0 : kDe M s (e + 1) = if (kDe M s e).2 < (if M 15 0 e = nI 1 then kDr M s e else -1) then (nI e, if M 15 0 e = nI 1 then kDr M s e else -1) else kDe M s e := rfl
    have e1 : vDx V s (e + 1) = if V (69 + 5 * e) = nI 1 then (if (vDx V s e).2 < vDr V s e then (nI e, vDr V s e) else vDx V s e) else vDx V s e := rfl
    rw [e0, e1, ho, ih]
    by_cases o : V (69 + 5 * e) = nI 1
    · rw [if_pos o, if_pos o, hd o]
    · rw [if_neg o, if_neg o, if_neg (Int32.not_lt.mpr (vDx_ge V s e))]
theorem kDe_cp (R : LandR M 0 V) (W : WFV V) (hs : V 66 = nI s) (h8 : s ≤ 8) : (kDe (mCpL M 1 0) s s).1 = (vDx V s s).1 := by
  have R0 : LandR (mCpL M 1 0) 0 V := LandR_0of1 R (fun k _ => mCpL_ne (by decide))
  rw [kDe_v R0 (LandR_cp R (by decide)) W hs h8 s (Nat.le_refl _)]
theorem lay_28 {N : Nat → Nat → Nat → Int32} {i a b : Nat} {x : Int32} (h : ∀ j, j < 64 → N 27 i j = V (2 + j)) (ha : a < 8) (hb : b < 8) {j : Nat} (hj : j < 64) : mLay N i a b x 28 i j = vDi (vLay V a b x) j := by
  have h27 := vLay_r (x := x) (N 27 i) h ha hb
  have e1 : mLay N i a b x 28 i j = fwO (xfl (fwI (xlay (N 27 i) a b x)) (N 28 i) 64) 8 j := by
    unfold mLay
    rw [u2_self]
  rw [e1]
  exact (fw_of xfl_aeq j hj).trans (fw_cong h27 j hj)
theorem kId_v (R : LandR M 0 V) (W : WFV V) {a b : Nat} (ha : a < 8) (hb : b < 8) (hab : a ≠ b) : kId (mLay (mCpR M 1 0) 1 a b (nI 0) 28 1 (8 * a + b)) = vId V a b := by
  have h27 : ∀ j, j < 64 → mCpR M 1 0 27 1 j = V (2 + j) := fun j hj => by
    rw [show mCpR M 1 0 27 1 j = xcp 64 (M 27 0) (M 27 1) j from rfl]
    unfold xcp
    rw [if_pos hj]
    exact R.2.1 j hj
  rw [lay_28 h27 ha hb (by omega)]
  obtain ⟨m, hm, em⟩ := vDi_rng (WFV_lay (c := 0) W ha hb hab (by decide)) (8 * a + b) (by omega)
  unfold kId vId
  rw [em, nI_add]
  unfold xfar
  by_cases l : m < 1000000
  · have l1 : nI m < xFAR := (nI_ltI (b := 1000000) (by omega) (by omega)).mpr l
    rw [if_pos l1, if_neg (nI_nm1 (by omega)), nI_add]
    by_cases q : m < 99
    · rw [if_pos ((nI_ltI (b := 99) (by omega) (by omega)).mpr q), if_neg (fun z => by have := (nI_ltI (a := 99) (by omega) (by omega)).mp z; omega)]
    · rw [if_neg (fun z => q ((nI_ltI (b := 99) (by omega) (by omega)).mp z)), if_pos ((nI_ltI (a := 99) (by omega) (by omega)).mpr (by omega))]
  · have l1 : ¬ nI m < xFAR := fun z => l ((nI_ltI (b := 1000000) (by omega) (by omega)).mp z)
    rw [if_neg l1, if_pos rfl, if_pos ((nI_ltI (a := 99) (by omega) (by omega)).mpr (by omega))]
theorem kNd_v (R : LandR M 0 V) (W : WFV V) {a b : Nat} (ha : a < 8) (hb : b < 8) : kNd (M 27 0) a b = xfar (vDi V (8 * a + b)) := by
  have hc : zcn (M 27 0) (fun k => (V (2 + k)).toNatClampNeg) := fun j hj => by
    rw [R.2.1 j hj]
    exact vzc W j hj
  rw [kNd_is hc ha hb]
  exact congrArg xfar (fw_cong (fun j hj => R.2.1 j hj) _ (by omega))
theorem kEo_v (R : LandR M 0 V) (W : WFV V) (hs : V 66 = nI s) (h8 : s ≤ 8) {e v : Nat} (he : e < s) (hv : v < 5) : kEo M e v = V (67 + v + 5 * e) := by
  unfold kEo
  obtain ⟨r0, r1, r2, r3, r4⟩ := R.2.2.2.1
  by_cases z : v = 2
  · subst z
    rw [if_pos rfl, r2 e (by omega)]
    rcases (vEx W hs h8 he).2.2 with z | z
    · rw [show 67 + 2 + 5 * e = 69 + 5 * e by omega, z]; rfl
    · rw [show 67 + 2 + 5 * e = 69 + 5 * e by omega, z]; rfl
  · rw [if_neg z]
    obtain e1 | e1 | e1 | e1 : v = 0 ∨ v = 1 ∨ v = 3 ∨ v = 4 := by omega
    · rw [e1]; exact r0 e (by omega)
    · rw [e1]; exact r1 e (by omega)
    · rw [e1]; exact r3 e (by omega)
    · rw [e1]; exact r4 e (by omega)
theorem kNo_v (R : LandR M 0 V) {a v : Nat} (ha : a < 4) (hv : v < 8) : kNo M a v = vNo V a v := by
  unfold kNo vNo
  obtain ⟨r0, r1, r2, r3, r4⟩ := R.2.2.2.2.1
  by_cases z : v < 4
  · rw [if_pos z, if_pos z]
    exact r0 _ (by omega)
  · rw [if_neg z, if_neg z]
    obtain e1 | e1 | e1 | e1 : v = 4 ∨ v = 5 ∨ v = 6 ∨ v = 7 := by omega
    · rw [e1, show 123 + (4 * (4 - 4) + a) = 123 + a by omega]; exact r1 a ha
    · rw [e1, show 123 + (4 * (5 - 4) + a) = 127 + a by omega]; exact r2 a ha
    · rw [e1, show 123 + (4 * (6 - 4) + a) = 131 + a by omega]; exact r3 a ha
    · rw [e1, show 123 + (4 * (7 - 4) + a) = 135 + a by omega]; exact r4 a ha
end L23


