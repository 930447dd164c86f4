/-! The reference: sums, tries. -/
/-- the same but for what the reference's questions write -/
def rQ (M M' : Nat → Nat → Nat → Int32) : Prop := (∀ k i, k ≠ 32 → k ≠ 35 → k ≠ 36 → k ≠ 37 → M' k i = M k i) ∧ (∀ j, j < 1566 → M' 32 0 j = M 32 0 j)
theorem rQ.rf {M : Nat → Nat → Nat → Int32} : rQ M M := ⟨fun _ _ _ _ _ _ => rfl, fun _ _ => rfl⟩
theorem rQ.tr {M M1 M2 : Nat → Nat → Nat → Int32} (h : rQ M M1) (g : rQ M1 M2) : rQ M M2 := ⟨fun k i a b c e => (g.1 k i a b c e).trans (h.1 k i a b c e), fun j hj => (g.2 j hj).trans (h.2 j hj)⟩
theorem rQ.row {M M' : Nat → Nat → Nat → Int32} {V : Nat → Int32} {b : Nat} (h : rQ M M') (R : RowR M b V) (hb : b ≤ 1392) : RowR M' b V := fun j hj => (h.2 (b + j) (by omega)).trans (R j hj)
theorem rQ_mea {M : Nat → Nat → Nat → Int32} {b : Nat} : rQ M (mMea M b) := by
  unfold mMea
  exact ⟨fun k i _ b _ _ => u2_ne (fun q => b q.1), fun j _ => rfl⟩
theorem rQ_all {M : Nat → Nat → Nat → Int32} {V : Nat → Int32} {s : Nat} : rQ M (mAll M V s) := by
  refine rQ.tr (M1 := mMea M 0) rQ_mea ?_
  unfold mAll
  exact ⟨fun k i _ _ b c => (u2_ne (fun q => c q.1)).trans (u2_ne (fun q => b q.1)), fun j _ => rfl⟩
theorem rQ_u2 {M : Nat → Nat → Nat → Int32} {S : Nat → Int32} (h : ∀ j, j < 1566 → S j = M 32 0 j) : rQ M (u2 M 32 0 S) :=
  ⟨fun k i a _ _ _ => u2_ne (fun q => a q.1), fun j hj => by rw [u2_self]; exact h j hj⟩
theorem rCp_lo {S : Nat → Int32} {f t j : Nat} (h : j < 174 * t ∨ 174 * t + 174 ≤ j) : rCp S f t j = S j := by
  unfold rCp
  rw [if_neg (by omega)]
theorem rCp_in {S : Nat → Int32} {f t j : Nat} (h : j < 174) : rCp S f t (174 * t + j) = S (174 * f + j) := by
  unfold rCp
  rw [if_pos (by omega), show 174 * t + j - 174 * t = j by omega]
theorem vLay_c {V V' : Nat → Int32} {a b : Nat} {x : Int32} (h : aeq 174 V V') : aeq 174 (vLay V a b x) (vLay V' a b x) := by
  intro j hj
  unfold vLay upd
  rw [h j hj]
theorem rLay_row {S : Nat → Int32} {b a c : Nat} {x : Int32} (j : Nat) : rLay S b a c x (b + j) = vLay (fun j => S (b + j)) a c x j := by
  unfold rLay vLay upd
  by_cases e1 : j = 2 + (8 * c + a)
  · rw [if_pos (by omega), if_pos e1]
  · rw [if_neg (by omega), if_neg e1]
    by_cases e2 : j = 2 + (8 * a + c)
    · rw [if_pos (by omega), if_pos e2]
    · rw [if_neg (by omega), if_neg e2]
theorem rLay_lo {S : Nat → Int32} {b a c : Nat} {x : Int32} {j : Nat} (h : j < b) : rLay S b a c x j = S j := by
  unfold rLay upd
  rw [if_neg (by omega), if_neg (by omega)]
def vOt (V : Nat → Int32) (s a c x : Nat) : Int32 := sm (fun k => zb (decide (¬ vFs (vLay V a c (nI x)) s k = vFs V s k))) 32
def vId (V : Nat → Int32) (a c : Nat) : Int32 := if nI 99 < vDi (vLay V a c (nI 0)) (8 * a + c) + nI 1 then -1 else vDi (vLay V a c (nI 0)) (8 * a + c) + nI 1
def vDr (V : Nat → Int32) (s e : Nat) : Int32 := sm (fun k => zb (kDb (vGs V s k) (vGs (upd V (69 + 5 * e) (nI 0)) s k))) 32
def vDx (V : Nat → Int32) (s : Nat) : Nat → Int32 × Int32
  | 0 => (-1, -1)
  | e + 1 => if V (69 + 5 * e) = nI 1 then (if (vDx V s e).2 < vDr V s e then (nI e, vDr V s e) else vDx V s e) else vDx V s e
theorem vDi_upd {V : Nat → Int32} {p : Nat} {x : Int32} (hp : 66 ≤ p) : aeq 64 (vDi V) (vDi (upd V p x)) := fw_cong (fun k hk => (upd_o (V := V) (x := x) (show 2 + k ≠ p by omega)).symm)
theorem u3_idM {M : Nat → Nat → Nat → Int32} {k i j : Nat} {x : Int32} (h : M k i j = x) : u3 M k i j x = M := by
  funext a b c
  unfold u3
  by_cases e : a = k ∧ b = i ∧ c = j
  · rw [if_pos e, e.1, e.2.1, e.2.2, h]
  · rw [if_neg e]
section L16
variable {w : zWp} {d b s t h e : Nat} {M : Nat → Nat → Nat → Int32} {O : Nat → Int64} {V : Nat → Int32}
theorem vGs_no {k : Nat} (h : vFs V s k = -1) : vGs V s k = -1 := by
  unfold vFs at h
  unfold vGs vDe
  rw [h]
  rfl
theorem vGs_yes {k e : Nat} (h : vFs V s k = nI e) (he : e < 8) : vGs V s k = vFar (vDi V) V (k / 4) e := by
  unfold vFs at h
  unfold vGs vDe
  rw [h, if_neg (nI_pos (by omega)), nI_clamp (by omega)]
theorem r_copiesM {f t : Nat} (hf : f ≤ 9) (ht : t ≤ 9) (hft : f ≠ t) : zC w mX10_copies d [vR 10 0, vI (nI f), vI (nI t)] (zP M O) zrV (zP (u2 M 32 0 (rCp (M 32 0) f t)) O) := by
  have c := r_copies (w := w) (d := d) (M := M) (O := O) (S := M 32 0) hf ht hft
  rw [u2_id] at c
  exact c
theorem r_laysM {a c : Nat} {x : Int32} (hb : b ≤ 1566) (ha : a < 8) (hc : c < 8) : zC w mX10_lays d [vR 10 0, vI (nI b), vI (nI a), vI (nI c), vI x] (zP M O) zrV (zP (u2 M 32 0 (rLay (M 32 0) b a c x)) O) := by
  have c := r_lays (w := w) (d := d) (M := M) (O := O) (S := M 32 0) (x := x) hb ha hc
  rw [u2_id] at c
  exact c
theorem r_changed {a c x : Nat} (R : RowR M 0 V) (W : WFV V) (hs : V 66 = nI s) (h8 : s ≤ 8) (ha : a < 8) (hc : c < 8) (hac : a ≠ c) (hx : x ≤ 99) :
    ∃ M', rQ M M' ∧ zC w mX10_changed (d + 7) [vR 10 0, vI (nI a), vI (nI c), vI (nI x)] (zP M O) (zrI (vOt V s a c x)) (zP M' O) := by
  have ca := r_choosesAll (w := w) (d := d) (O := O) R W hs h8
  have RN : RowR (mAll M V s) 0 V := R
  have eN : ∀ k, k < 32 → mAll M V s 36 0 k = vFs V s k := fun k hk => xfl_in hk
  have QN : rQ M (mAll M V s) := rQ_all
  obtain ⟨N, hN⟩ : ∃ N, N = mAll M V s := ⟨_, rfl⟩
  rw [← hN] at ca RN eN QN
  obtain ⟨S, hS⟩ : ∃ S, S = rLay (rCp (N 32 0) 0 9) 1566 a c (nI x) := ⟨_, rfl⟩
  have RS : RowR (u2 N 32 0 S) 1566 (vLay V a c (nI x)) := by
    intro j hj
    show S (1566 + j) = _
    rw [hS, rLay_row]
    refine vLay_c (fun j hj => ?_) j hj
    show rCp (N 32 0) 0 9 (1566 + j) = V j
    rw [show 1566 = 174 * 9 from rfl, rCp_in hj]
    exact RN j hj
  have WU : WFV (vLay V a c (nI x)) := WFV_lay W ha hc hac hx
  have hu : vLay V a c (nI x) 66 = nI s := by rw [vLay_o ha hc (by omega)]; exact hs
  have QS : rQ N (u2 N 32 0 S) := rQ_u2 (fun j hj => by rw [hS, rLay_lo hj, rCp_lo (by omega)])
  have cm := r_measures (w := w) (d := d + 6) (M := u2 N 32 0 S) (O := O) (b := 1566) (by decide)
  have hd : rMd (mMea (u2 N 32 0 S) 1566) (vLay V a c (nI x)) := rMd_mea RS
  have hb : RowR (mMea (u2 N 32 0 S) 1566) 1566 (vLay V a c (nI x)) := RS
  have eB : ∀ k, k < 32 → mMea (u2 N 32 0 S) 1566 36 0 k = vFs V s k := eN
  have QB : rQ M (mMea (u2 N 32 0 S) 1566) := QN.tr (QS.tr rQ_mea)
  obtain ⟨B, hB⟩ : ∃ B, B = mMea (u2 N 32 0 S) 1566 := ⟨_, rfl⟩
  rw [← hB] at cm hd hb eB QB
  refine ⟨B, QB, ?_⟩
  have cc : ∀ t h, t < 8 → h < 4 → zC w mX10_chooses (d + 6) [vR 10 0, vI (nI 1566), vI (nI t), vI (nI h)] (zP B O) (zrI (vCho (vDi (vLay V a c (nI x))) (vLay V a c (nI x)) s t h)) (zP B O) := fun t h ht hh => r_choosesV hb hd WU hu h8 (by decide) ht hh
  unfold vOt
  obtain ⟨f, hf⟩ : ∃ f : Nat → Int32, f = fun k => zb (decide (¬ vFs (vLay V a c (nI x)) s k = vFs V s k)) := ⟨_, rfl⟩
  rw [← hf]
  have cl := r_laysM (w := w) (d := d + 6) (M := u2 N 32 0 (rCp (N 32 0) 0 9)) (O := O) (b := 1566) (x := nI x) (by decide) ha hc
  rw [u2_u2, u2_self, ← hS] at cl
  refine zC_of (cr := 0) (L0 := [vR 10 0, vI (nI a), vI (nI c), vI (nI x), vU, vU, vU]) rfl (by decide) (by decide) rfl (Nat.le_of_ble_eq_true rfl) rfl ?_
  refine g_aload_n (n := 1) dX10_changed_0 rfl rfl ?_
  refine g_cVn (n := 4) ca dX10_changed_1 rfl kw_X10_169 rfl (by decide) (z_lvP (by first | decide | assumption)) (Nat.le_of_ble_eq_true rfl) ⟨Nat.le_refl _, Nat.le_refl _⟩ ?_ rfl
  refine g_aload_n (n := 5) dX10_changed_4 rfl rfl ?_
  refine g_iconst (n := 6) dX10_changed_5 rfl k_ic_0 ?_
  refine g_bipush (n := 8) dX10_changed_6 rfl k_bp_9 ?_
  refine g_cVn (n := 11) (r_copiesM (f := 0) (t := 9) (by decide) (by decide) (by decide)) dX10_changed_8 rfl kw_X10_41 rfl (by decide) (z_lvP (by first | decide | assumption)) (Nat.le_of_ble_eq_true rfl) ⟨Nat.le_refl _, Nat.le_refl _⟩ ?_ rfl
  refine g_sipush (n := 14) dX10_changed_11 rfl k_sp_1566 ?_
  refine g_istore4 (n := 16) dX10_changed_14 rfl (by decide) rfl ?_
  refine g_aload_n (n := 17) dX10_changed_16 rfl rfl ?_
  refine g_iload (n := 19) dX10_changed_17 rfl rfl ?_
  refine g_iload_n (n := 20) dX10_changed_19 rfl rfl ?_
  refine g_iload_n (n := 21) dX10_changed_20 rfl rfl ?_
  refine g_iload_n (n := 22) dX10_changed_21 rfl rfl ?_
  refine g_cVn (n := 25) cl dX10_changed_22 rfl kw_X10_30 rfl (by decide) (z_lvP (by first | decide | assumption)) (Nat.le_of_ble_eq_true rfl) ⟨Nat.le_refl _, Nat.le_refl _⟩ ?_ rfl
  refine g_aload_n (n := 26) dX10_changed_25 rfl rfl ?_
  refine g_iload (n := 28) dX10_changed_26 rfl rfl ?_
  refine g_cVn (n := 31) cm dX10_changed_28 rfl kw_X10_76 rfl (by decide) (z_lvP (by first | decide | assumption)) (Nat.le_of_ble_eq_true rfl) ⟨Nat.le_refl _, Nat.le_refl _⟩ ?_ rfl
  refine g_iconst (n := 32) dX10_changed_31 rfl k_ic_0 ?_
  refine g_istore5 (n := 34) dX10_changed_32 rfl (by decide) rfl ?_
  refine g_iconst (n := 35) dX10_changed_34 rfl k_ic_0 ?_
  refine g_istore6 (n := 37) dX10_changed_35 rfl (by decide) rfl ?_
  refine z_loop (fun k => zG w mX10_changed (d + 7) 0 37 [vR 10 0, vI (nI a), vI (nI c), vI (nI x), vI (nI 1566), vI (sm f k), vI (nI k)] [] (zP B O) (zrI (sm f 32)) (zP B O)) 32 ?_ ?_ 0 (Nat.zero_le _)
  · refine g_iload (n := 39) dX10_changed_37 rfl rfl ?_
    refine g_bipush (n := 41) dX10_changed_39 rfl k_bp_32 ?_
    refine g_icmp_ge (n := 44) (t := 84) dX10_changed_41 rfl (by decide) (fun _ => ?_) (fun q9 => absurd (Int32.le_refl _) q9)
    refine g_iload (n := 86) dX10_changed_84 rfl rfl ?_
    exact g_ireturn dX10_changed_86 rfl rfl rfl rfl
  · intro k hk ih
    have i2 : nI k / nI 4 = nI (k / 4) := pk_div (by omega) (by decide) (by decide)
    have i3 : nI k - nI k / nI 4 * nI 4 = nI (k % 4) := pk_rem (by omega) (by decide) (by decide)
    have fk : f k = zb (decide (¬ vFs (vLay V a c (nI x)) s k = vFs V s k)) := by rw [hf]
    rw [sm_s, fk] at ih
    have uk : vFs (vLay V a c (nI x)) s k = vCho (vDi (vLay V a c (nI x))) (vLay V a c (nI x)) s (k / 4) (k % 4) := rfl
    have ck := cc (k / 4) (k % 4) (by omega) (by omega)
    rw [← uk] at ck
    refine g_iload (n := 39) dX10_changed_37 rfl rfl ?_
    refine g_bipush (n := 41) dX10_changed_39 rfl k_bp_32 ?_
    refine g_icmp_ge (n := 44) (t := 84) dX10_changed_41 rfl (by decide) (fun q9 => absurd q9 (nI_ge hk (by decide))) (fun _ => ?_)
    refine g_iload (n := 46) dX10_changed_44 rfl rfl ?_
    refine g_aload_n (n := 47) dX10_changed_46 rfl rfl ?_
    refine g_iload (n := 49) dX10_changed_47 rfl rfl ?_
    refine g_iload (n := 51) dX10_changed_49 rfl rfl ?_
    refine g_iconst (n := 52) dX10_changed_51 rfl k_ic_4 ?_
    refine g_idiv (n := 53) dX10_changed_52 rfl (by decide) ?_
    refine g_iload (n := 55) dX10_changed_53 rfl rfl ?_
    refine g_iconst (n := 56) dX10_changed_55 rfl k_ic_4 ?_
    refine g_irem (n := 57) dX10_changed_56 rfl (by decide) ?_
    rw [i3, i2]
    refine g_cVv (n := 60) ck dX10_changed_57 rfl kw_X10_80 rfl (by decide) (z_lvP (by first | decide | assumption)) (Nat.le_of_ble_eq_true rfl) ⟨Nat.le_refl _, Nat.le_refl _⟩ ?_ rfl
    refine g_aload_n (n := 61) dX10_changed_60 rfl rfl ?_
    refine gf_X10_24 (n := 64) dX10_changed_61 rfl rfl (z_lvP (by first | decide | assumption)) rfl ?_
    refine g_iload (n := 66) dX10_changed_64 rfl rfl ?_
    refine g_iald (n := 67) dX10_changed_66 rfl (by decide) (z_lvP (by first | decide | assumption)) rfl (by show _ < 32; first | assumption | omega) ?_
    rw [eB k hk]
    refine g_icmp_ne (n := 70) (t := 74) dX10_changed_67 rfl (by decide) (fun c67 => ?_) (fun c67 => ?_)
    · rw [decide_eq_true (show ¬ vFs (vLay V a c (nI x)) s k = vFs V s k from c67)] at ih
      refine g_iconst (n := 75) dX10_changed_74 rfl k_ic_1 ?_
      refine g_iadd (n := 76) dX10_changed_75 rfl ?_
      refine g_istore5 (n := 78) dX10_changed_76 rfl (by decide) rfl ?_
      refine g_iinc6 (n := 81) dX10_changed_78 rfl (by decide) rfl (z_inc1 _) ?_
      refine g_goto (n := 0) (t := 37) dX10_changed_81 (by decide) ?_
      exact ih
    · rw [decide_eq_false (fun q => q (show vFs (vLay V a c (nI x)) s k = vFs V s k from c67))] at ih
      refine g_iconst (n := 71) dX10_changed_70 rfl k_ic_0 ?_
      refine g_goto (n := 0) (t := 75) dX10_changed_71 (by decide) ?_
      refine g_iadd (n := 76) dX10_changed_75 rfl ?_
      refine g_istore5 (n := 78) dX10_changed_76 rfl (by decide) rfl ?_
      refine g_iinc6 (n := 81) dX10_changed_78 rfl (by decide) rfl (z_inc1 _) ?_
      refine g_goto (n := 0) (t := 37) dX10_changed_81 (by decide) ?_
      exact ih
theorem r_idles {a c : Nat} (R : RowR M 0 V) (ha : a < 8) (hc : c < 8) : ∃ M', rQ M M' ∧ zC w mX10_idles (d + 2) [vR 10 0, vI (nI a), vI (nI c)] (zP M O) (zrI (vId V a c)) (zP M' O) := by
  obtain ⟨S, hS⟩ : ∃ S, S = rLay (rCp (M 32 0) 0 9) 1566 a c (nI 0) := ⟨_, rfl⟩
  have RS : RowR (u2 M 32 0 S) 1566 (vLay V a c (nI 0)) := by
    intro j hj
    show S (1566 + j) = _
    rw [hS, rLay_row]
    refine vLay_c (fun j hj => ?_) j hj
    show rCp (M 32 0) 0 9 (1566 + j) = V j
    rw [show 1566 = 174 * 9 from rfl, rCp_in hj]
    exact R j hj
  have QS : rQ M (u2 M 32 0 S) := rQ_u2 (fun j hj => by rw [hS, rLay_lo hj, rCp_lo (by omega)])
  have cm := r_measures (w := w) (d := d + 1) (M := u2 M 32 0 S) (O := O) (b := 1566) (by decide)
  have hd : rMd (mMea (u2 M 32 0 S) 1566) (vLay V a c (nI 0)) := rMd_mea RS
  have QB : rQ M (mMea (u2 M 32 0 S) 1566) := QS.tr rQ_mea
  obtain ⟨B, hB⟩ : ∃ B, B = mMea (u2 M 32 0 S) 1566 := ⟨_, rfl⟩
  rw [← hB] at cm hd QB
  refine ⟨B, QB, ?_⟩
  have cl := r_laysM (w := w) (d := d + 1) (M := u2 M 32 0 (rCp (M 32 0) 0 9)) (O := O) (b := 1566) (x := nI 0) (by decide) ha hc
  rw [u2_u2, u2_self, ← hS] at cl
  have e1 : B 35 0 (8 * a + c) = vDi (vLay V a c (nI 0)) (8 * a + c) := hd _ (by omega)
  unfold vId
  obtain ⟨v, hv⟩ : ∃ v, v = vDi (vLay V a c (nI 0)) (8 * a + c) := ⟨_, rfl⟩
  rw [← hv] at e1 ⊢
  refine zC_of (cr := 0) (L0 := [vR 10 0, vI (nI a), vI (nI c), vU, vU]) rfl (by decide) (by decide) rfl (Nat.le_of_ble_eq_true rfl) rfl ?_
  refine g_aload_n (n := 1) dX10_idles_0 rfl rfl ?_
  refine g_iconst (n := 2) dX10_idles_1 rfl k_ic_0 ?_
  refine g_bipush (n := 4) dX10_idles_2 rfl k_bp_9 ?_
  refine g_cVn (n := 7) (r_copiesM (f := 0) (t := 9) (by decide) (by decide) (by decide)) dX10_idles_4 rfl kw_X10_41 rfl (by decide) (z_lvP (by first | decide | assumption)) (Nat.le_of_ble_eq_true rfl) ⟨Nat.le_refl _, Nat.le_refl _⟩ ?_ rfl
  refine g_sipush (n := 10) dX10_idles_7 rfl k_sp_1566 ?_
  refine g_istore3 (n := 11) dX10_idles_10 rfl (by decide) rfl ?_
  refine g_aload_n (n := 12) dX10_idles_11 rfl rfl ?_
  refine g_iload_n (n := 13) dX10_idles_12 rfl rfl ?_
  refine g_iload_n (n := 14) dX10_idles_13 rfl rfl ?_
  refine g_iload_n (n := 15) dX10_idles_14 rfl rfl ?_
  refine g_iconst (n := 16) dX10_idles_15 rfl k_ic_0 ?_
  refine g_cVn (n := 19) cl dX10_idles_16 rfl kw_X10_30 rfl (by decide) (z_lvP (by first | decide | assumption)) (Nat.le_of_ble_eq_true rfl) ⟨Nat.le_refl _, Nat.le_refl _⟩ ?_ rfl
  refine g_aload_n (n := 20) dX10_idles_19 rfl rfl ?_
  refine g_iload_n (n := 21) dX10_idles_20 rfl rfl ?_
  refine g_cVn (n := 24) cm dX10_idles_21 rfl kw_X10_76 rfl (by decide) (z_lvP (by first | decide | assumption)) (Nat.le_of_ble_eq_true rfl) ⟨Nat.le_refl _, Nat.le_refl _⟩ ?_ rfl
  refine g_aload_n (n := 25) dX10_idles_24 rfl rfl ?_
  refine gf_X10_21 (n := 28) dX10_idles_25 rfl rfl (z_lvP (by first | decide | assumption)) rfl ?_
  refine g_bipush (n := 30) dX10_idles_28 rfl k_bp_8 ?_
  refine g_iload_n (n := 31) dX10_idles_30 rfl rfl ?_
  refine g_imul (n := 32) dX10_idles_31 rfl ?_
  refine g_iload_n (n := 33) dX10_idles_32 rfl rfl ?_
  refine g_iadd (n := 34) dX10_idles_33 rfl ?_
  refine g_iald (a := (8 * a + c)) (n := 35) dX10_idles_34 rfl (by decide) (z_lvP (by first | decide | assumption)) (by rw [pk_mul, nI_add]) (by show _ < 64; first | assumption | omega) ?_
  rw [e1]
  refine g_iconst (n := 36) dX10_idles_35 rfl k_ic_1 ?_
  refine g_iadd (n := 37) dX10_idles_36 rfl ?_
  refine g_istore4 (n := 39) dX10_idles_37 rfl (by decide) rfl ?_
  refine g_iload (n := 41) dX10_idles_39 rfl rfl ?_
  refine g_bipush (n := 43) dX10_idles_41 rfl k_bp_99 ?_
  refine g_icmp_le (n := 46) (t := 50) dX10_idles_43 rfl (by decide) (fun c43 => ?_) (fun c43 => ?_)
  · rw [if_neg (Int32.not_lt.mpr c43)]
    refine g_iload (n := 52) dX10_idles_50 rfl rfl ?_
    exact g_ireturn dX10_idles_52 rfl rfl rfl rfl
  · rw [if_pos (Int32.not_le.mp c43)]
    refine g_iconst (n := 47) dX10_idles_46 rfl k_ic_m1 ?_
    refine g_goto (n := 0) (t := 52) dX10_idles_47 (by decide) ?_
    exact g_ireturn dX10_idles_52 rfl rfl rfl rfl
theorem r_dearestExit (R : RowR M 0 V) (W : WFV V) (hs : V 66 = nI s) (h8 : s ≤ 8) : ∃ M', rQ M M' ∧ zC w mX10_dearestExit (d + 7) [vR 10 0] (zP M O) (zrI (vDx V s s).1) (zP M' O) := by
  have ca := r_choosesAll (w := w) (d := d) (O := O) R W hs h8
  have RN : RowR (mAll M V s) 0 V := R
  have eN : ∀ k, k < 32 → mAll M V s 36 0 k = vFs V s k := fun k hk => xfl_in hk
  have gN : ∀ k, k < 32 → mAll M V s 37 0 k = vGs V s k := fun k hk => xfl_in hk
  have QN : rQ M (mAll M V s) := rQ_all
  have dN : rMd (mAll M V s) V := rMd_mea R
  have cp := r_copiesM (w := w) (d := d + 6) (M := mAll M V s) (O := O) (f := 0) (t := 9) (by decide) (by decide) (by decide)
  obtain ⟨N0, hN0⟩ : ∃ N0, N0 = mAll M V s := ⟨_, rfl⟩
  rw [← hN0] at ca RN eN gN QN dN cp
  have R1 : RowR (u2 N0 32 0 (rCp (N0 32 0) 0 9)) 0 V := fun j hj => by
    show rCp (N0 32 0) 0 9 (0 + j) = V j
    rw [rCp_lo (by omega)]
    exact RN j hj
  have R9 : RowR (u2 N0 32 0 (rCp (N0 32 0) 0 9)) 1566 V := fun j hj => by
    show rCp (N0 32 0) 0 9 (1566 + j) = V j
    rw [show 1566 = 174 * 9 from rfl, rCp_in hj]
    exact RN j hj
  have e2 : ∀ k, k < 32 → u2 N0 32 0 (rCp (N0 32 0) 0 9) 36 0 k = vFs V s k := eN
  have g2 : ∀ k, k < 32 → u2 N0 32 0 (rCp (N0 32 0) 0 9) 37 0 k = vGs V s k := gN
  have d2 : rMd (u2 N0 32 0 (rCp (N0 32 0) 0 9)) V := dN
  have Q2 : rQ M (u2 N0 32 0 (rCp (N0 32 0) 0 9)) := QN.tr (rQ_u2 (fun j hj => rCp_lo (by omega)))
  obtain ⟨N, hN⟩ : ∃ N, N = u2 N0 32 0 (rCp (N0 32 0) 0 9) := ⟨_, rfl⟩
  rw [← hN] at cp R1 R9 e2 g2 d2 Q2
  have hm : N 32 0 66 = nI s := (RowR0 R1 (by decide)).trans hs
  refine ⟨N, Q2, ?_⟩
  refine zC_of (cr := 0) (L0 := [vR 10 0, vU, vU, vU, vU, vU, vU, vU]) rfl (by decide) (by decide) rfl (Nat.le_of_ble_eq_true rfl) rfl ?_
  refine g_aload_n (n := 1) dX10_dearestExit_0 rfl rfl ?_
  refine g_cVn (n := 4) ca dX10_dearestExit_1 rfl kw_X10_169 rfl (by decide) (z_lvP (by first | decide | assumption)) (Nat.le_of_ble_eq_true rfl) ⟨Nat.le_refl _, Nat.le_refl _⟩ ?_ rfl
  refine g_aload_n (n := 5) dX10_dearestExit_4 rfl rfl ?_
  refine g_iconst (n := 6) dX10_dearestExit_5 rfl k_ic_0 ?_
  refine g_bipush (n := 8) dX10_dearestExit_6 rfl k_bp_9 ?_
  refine g_cVn (n := 11) cp dX10_dearestExit_8 rfl kw_X10_41 rfl (by decide) (z_lvP (by first | decide | assumption)) (Nat.le_of_ble_eq_true rfl) ⟨Nat.le_refl _, Nat.le_refl _⟩ ?_ rfl
  refine g_sipush (n := 14) dX10_dearestExit_11 rfl k_sp_1566 ?_
  refine g_istore1 (n := 15) dX10_dearestExit_14 rfl (by decide) rfl ?_
  refine g_iconst (n := 16) dX10_dearestExit_15 rfl k_ic_m1 ?_
  refine g_istore2 (n := 17) dX10_dearestExit_16 rfl (by decide) rfl ?_
  refine g_iconst (n := 18) dX10_dearestExit_17 rfl k_ic_m1 ?_
  refine g_istore3 (n := 19) dX10_dearestExit_18 rfl (by decide) rfl ?_
  refine g_iconst (n := 20) dX10_dearestExit_19 rfl k_ic_0 ?_
  refine g_istore4 (n := 22) dX10_dearestExit_20 rfl (by decide) rfl ?_
  suffices H : zG w mX10_dearestExit (d + 7) 0 22 [vR 10 0, vI (nI 1566), vI (vDx V s 0).1, vI (vDx V s 0).2, vI (nI 0), vU, vU, vU] [] (zP N O) (zrI (vDx V s s).1) (zP N O) by
    exact H
  refine z_loop (fun e => zG w mX10_dearestExit (d + 7) 0 22 [vR 10 0, vI (nI 1566), vI (vDx V s e).1, vI (vDx V s e).2, vI (nI e), vU, vU, vU] [] (zP N O) (zrI (vDx V s s).1) (zP N O)) s ?_ ?_ 0 (Nat.zero_le _)
  · refine g_iload (n := 24) dX10_dearestExit_22 rfl rfl ?_
    refine g_aload_n (n := 25) dX10_dearestExit_24 rfl rfl ?_
    refine gf_X10_7 (n := 28) dX10_dearestExit_25 rfl rfl (z_lvP (by first | decide | assumption)) rfl ?_
    refine g_bipush (n := 30) dX10_dearestExit_28 rfl k_bp_66 ?_
    refine g_iald (n := 31) dX10_dearestExit_30 rfl (by decide) (z_lvP (by first | decide | assumption)) rfl (by show _ < 1740; first | assumption | omega) ?_
    rw [hm]
    refine g_icmp_ge (n := 34) (t := 205) dX10_dearestExit_31 rfl (by decide) (fun _ => ?_) (fun q9 => absurd (Int32.le_refl _) q9)
    refine g_iload_n (n := 206) dX10_dearestExit_205 rfl rfl ?_
    exact g_ireturn dX10_dearestExit_206 rfl rfl rfl rfl
  · intro e he ih
    obtain ⟨q, hq⟩ : ∃ q, q = vDx V s e := ⟨_, rfl⟩
    have e0 : vDx V s (e + 1) = if V (69 + 5 * e) = nI 1 then (if q.2 < vDr V s e then (nI e, vDr V s e) else q) else q := by rw [hq]; rfl
    rw [e0] at ih
    rw [← hq]
    have eo : N 32 0 (0 + (69 + 5 * e)) = V (69 + 5 * e) := R1 _ (by omega)
    refine g_iload (n := 24) dX10_dearestExit_22 rfl rfl ?_
    refine g_aload_n (n := 25) dX10_dearestExit_24 rfl rfl ?_
    refine gf_X10_7 (n := 28) dX10_dearestExit_25 rfl rfl (z_lvP (by first | decide | assumption)) rfl ?_
    refine g_bipush (n := 30) dX10_dearestExit_28 rfl k_bp_66 ?_
    refine g_iald (n := 31) dX10_dearestExit_30 rfl (by decide) (z_lvP (by first | decide | assumption)) rfl (by show _ < 1740; first | assumption | omega) ?_
    rw [hm]
    refine g_icmp_ge (n := 34) (t := 205) dX10_dearestExit_31 rfl (by decide) (fun q9 => absurd q9 (nI_ge he (by omega))) (fun _ => ?_)
    refine g_aload_n (n := 35) dX10_dearestExit_34 rfl rfl ?_
    refine gf_X10_7 (n := 38) dX10_dearestExit_35 rfl rfl (z_lvP (by first | decide | assumption)) rfl ?_
    refine g_iconst (n := 39) dX10_dearestExit_38 rfl k_ic_0 ?_
    refine g_iload (n := 41) dX10_dearestExit_39 rfl rfl ?_
    refine g_cSv (n := 44) (r_exitAt 0 e) dX10_dearestExit_41 rfl kw_X10_50 (Nat.le_of_ble_eq_true rfl) ⟨Nat.le_refl _, Nat.le_refl _⟩ ?_ rfl
    refine g_iconst (n := 45) dX10_dearestExit_44 rfl k_ic_2 ?_
    refine g_iadd (n := 46) dX10_dearestExit_45 rfl ?_
    refine g_iald (a := (0 + (69 + 5 * e))) (n := 47) dX10_dearestExit_46 rfl (by decide) (z_lvP (by first | decide | assumption)) r_ix (by show _ < 1740; first | assumption | omega) ?_
    refine g_iconst (n := 48) dX10_dearestExit_47 rfl k_ic_1 ?_
    rw [eo]
    refine g_icmp_ne (n := 51) (t := 199) dX10_dearestExit_48 rfl (by decide) (fun c48 => ?_) (fun c48 => ?_)
    · rw [if_neg (show ¬ V (69 + 5 * e) = nI 1 from c48)] at ih
      refine g_iinc4 (n := 202) dX10_dearestExit_199 rfl (by decide) rfl (z_inc1 _) ?_
      refine g_goto (n := 0) (t := 22) dX10_dearestExit_202 (by decide) ?_
      exact ih
    · rw [if_pos (show V (69 + 5 * e) = nI 1 from c48)] at ih
      have i1 : nI (1566 + (67 + 5 * e)) + nI 2 = nI (1566 + (69 + 5 * e)) := r_ix
      refine g_aload_n (n := 52) dX10_dearestExit_51 rfl rfl ?_
      refine gf_X10_7 (n := 55) dX10_dearestExit_52 rfl rfl (z_lvP (by first | decide | assumption)) rfl ?_
      refine g_iload_n (n := 56) dX10_dearestExit_55 rfl rfl ?_
      refine g_iload (n := 58) dX10_dearestExit_56 rfl rfl ?_
      refine g_cSv (n := 61) (r_exitAt 1566 e) dX10_dearestExit_58 rfl kw_X10_50 (Nat.le_of_ble_eq_true rfl) ⟨Nat.le_refl _, Nat.le_refl _⟩ ?_ rfl
      refine g_iconst (n := 62) dX10_dearestExit_61 rfl k_ic_2 ?_
      refine g_iadd (n := 63) dX10_dearestExit_62 rfl ?_
      rw [i1]
      refine g_iconst (n := 64) dX10_dearestExit_63 rfl k_ic_0 ?_
      refine g_iast (n := 65) dX10_dearestExit_64 rfl (by decide) (z_lvP (by first | decide | assumption)) rfl (by show _ < 1740; first | assumption | omega) ?_
      obtain ⟨U, hU⟩ : ∃ U, U = upd V (69 + 5 * e) (nI 0) := ⟨_, rfl⟩
      have WU : WFV U := by rw [hU]; exact WFV_turn W hs h8 he (Or.inl rfl)
      have us : U 66 = nI s := by rw [hU, upd_o (by omega)]; exact hs
      have RU : RowR (u3 N 32 0 (1566 + (69 + 5 * e)) (nI 0)) 1566 U := by
        intro j hj
        have := R9 j hj
        rw [hU]
        show u3 N 32 0 (1566 + (69 + 5 * e)) (nI 0) 32 0 (1566 + j) = upd V (69 + 5 * e) (nI 0) j
        unfold u3 upd
        by_cases z : j = 69 + 5 * e
        · rw [if_pos ⟨rfl, rfl, by rw [z]⟩, if_pos z]
        · rw [if_neg (fun y => z (by have := y.2.2; omega)), if_neg z]
          exact this
      have DU : rMd (u3 N 32 0 (1566 + (69 + 5 * e)) (nI 0)) U := by
        rw [hU]
        exact aeq.tr (show aeq 64 _ (vDi V) from d2) (vDi_upd (by omega))
      have back : u3 (u3 N 32 0 (1566 + (69 + 5 * e)) (nI 0)) 32 0 (1566 + (69 + 5 * e)) (nI 1) = N := by
        rw [u3_u3]
        exact u3_idM ((R9 _ (by omega)).trans c48)
      have e3 : ∀ k, k < 32 → u3 N 32 0 (1566 + (69 + 5 * e)) (nI 0) 36 0 k = vFs V s k := fun k hk => (u3_nk (by decide)).trans (e2 k hk)
      have g3 : ∀ k, k < 32 → u3 N 32 0 (1566 + (69 + 5 * e)) (nI 0) 37 0 k = vGs V s k := fun k hk => (u3_nk (by decide)).trans (g2 k hk)
      obtain ⟨P, hP⟩ : ∃ P, P = u3 N 32 0 (1566 + (69 + 5 * e)) (nI 0) := ⟨_, rfl⟩
      rw [← hP] at RU DU back e3 g3 ⊢
      have dr : vDr V s e = sm (fun k => zb (kDb (vGs V s k) (vGs U s k))) 32 := by rw [hU]; rfl
      obtain ⟨f, hf⟩ : ∃ f : Nat → Int32, f = fun k => zb (kDb (vGs V s k) (vGs U s k)) := ⟨_, rfl⟩
      rw [← hf] at dr
      rw [dr] at ih
      have cc : ∀ t h, t < 8 → h < 4 → zC w mX10_chooses (d + 6) [vR 10 0, vI (nI 1566), vI (nI t), vI (nI h)] (zP P O) (zrI (vCho (vDi U) U s t h)) (zP P O) := fun t h ht hh => r_choosesV RU DU WU us h8 (by decide) ht hh
      have cf : ∀ t e, t < 8 → e < s → zC w mX10_farOf (d + 6) [vR 10 0, vI (nI 1566), vI (nI t), vI (nI e)] (zP P O) (zrI (vFar (vDi U) U t e)) (zP P O) := fun t e ht he => r_farOfV RU DU WU us h8 (by decide) he ht
      refine g_iconst (n := 66) dX10_dearestExit_65 rfl k_ic_0 ?_
      refine g_istore5 (n := 68) dX10_dearestExit_66 rfl (by decide) rfl ?_
      refine g_iconst (n := 69) dX10_dearestExit_68 rfl k_ic_0 ?_
      refine g_istore6 (n := 71) dX10_dearestExit_69 rfl (by decide) rfl ?_
      refine z_loop (fun k => zG w mX10_dearestExit (d + 7) 0 71 [vR 10 0, vI (nI 1566), vI q.1, vI q.2, vI (nI e), vI (sm f k), vI (nI k), vU] [] (zP P O) (zrI (vDx V s s).1) (zP N O)) 32 ?_ ?_ 0 (Nat.zero_le _)
      · obtain ⟨m, hm2⟩ : ∃ m, m = sm f 32 := ⟨_, rfl⟩
        rw [← hm2] at ih ⊢
        refine g_iload (n := 73) dX10_dearestExit_71 rfl rfl ?_
        refine g_bipush (n := 75) dX10_dearestExit_73 rfl k_bp_32 ?_
        refine g_icmp_ge (n := 78) (t := 159) dX10_dearestExit_75 rfl (by decide) (fun _ => ?_) (fun q9 => absurd (Int32.le_refl _) q9)
        refine g_aload_n (n := 160) dX10_dearestExit_159 rfl rfl ?_
        refine gf_X10_7 (n := 163) dX10_dearestExit_160 rfl rfl (z_lvP (by first | decide | assumption)) rfl ?_
        refine g_iload_n (n := 164) dX10_dearestExit_163 rfl rfl ?_
        refine g_iload (n := 166) dX10_dearestExit_164 rfl rfl ?_
        refine g_cSv (n := 169) (r_exitAt 1566 e) dX10_dearestExit_166 rfl kw_X10_50 (Nat.le_of_ble_eq_true rfl) ⟨Nat.le_refl _, Nat.le_refl _⟩ ?_ rfl
        refine g_iconst (n := 170) dX10_dearestExit_169 rfl k_ic_2 ?_
        refine g_iadd (n := 171) dX10_dearestExit_170 rfl ?_
        rw [i1]
        refine g_iconst (n := 172) dX10_dearestExit_171 rfl k_ic_1 ?_
        refine g_iast (n := 173) dX10_dearestExit_172 rfl (by decide) (z_lvP (by first | decide | assumption)) rfl (by show _ < 1740; first | assumption | omega) ?_
        rw [back]
        refine g_iload (n := 175) dX10_dearestExit_173 rfl rfl ?_
        refine g_iload_n (n := 176) dX10_dearestExit_175 rfl rfl ?_
        refine g_icmp_le (n := 179) (t := 184) dX10_dearestExit_176 rfl (by decide) (fun c176 => ?_) (fun c176 => ?_)
        · have hl : ¬ q.2 < m := Int32.not_lt.mpr c176
          rw [if_neg hl] at ih
          refine g_iload_n (n := 185) dX10_dearestExit_184 rfl rfl ?_
          refine g_istore2 (n := 186) dX10_dearestExit_185 rfl (by decide) rfl ?_
          refine g_iload (n := 188) dX10_dearestExit_186 rfl rfl ?_
          refine g_iload_n (n := 189) dX10_dearestExit_188 rfl rfl ?_
          refine g_icmp_le (n := 192) (t := 197) dX10_dearestExit_189 rfl (by decide) (fun _ => ?_) (fun q9 => absurd c176 q9)
          refine g_iload_n (n := 198) dX10_dearestExit_197 rfl rfl ?_
          refine g_istore3 (n := 199) dX10_dearestExit_198 rfl (by decide) rfl ?_
          refine g_iinc4 (n := 202) dX10_dearestExit_199 rfl (by decide) rfl (z_inc1 _) ?_
          refine g_goto (n := 0) (t := 22) dX10_dearestExit_202 (by decide) ?_
          refine g_drop 5 (g_drop 6 ?_)
          exact ih
        · have hl : q.2 < m := Int32.not_le.mp c176
          rw [if_pos hl] at ih
          refine g_iload (n := 181) dX10_dearestExit_179 rfl rfl ?_
          refine g_goto (n := 0) (t := 185) dX10_dearestExit_181 (by decide) ?_
          refine g_istore2 (n := 186) dX10_dearestExit_185 rfl (by decide) rfl ?_
          refine g_iload (n := 188) dX10_dearestExit_186 rfl rfl ?_
          refine g_iload_n (n := 189) dX10_dearestExit_188 rfl rfl ?_
          refine g_icmp_le (n := 192) (t := 197) dX10_dearestExit_189 rfl (by decide) (fun q9 => absurd q9 c176) (fun _ => ?_)
          refine g_iload (n := 194) dX10_dearestExit_192 rfl rfl ?_
          refine g_goto (n := 0) (t := 198) dX10_dearestExit_194 (by decide) ?_
          refine g_istore3 (n := 199) dX10_dearestExit_198 rfl (by decide) rfl ?_
          refine g_iinc4 (n := 202) dX10_dearestExit_199 rfl (by decide) rfl (z_inc1 _) ?_
          refine g_goto (n := 0) (t := 22) dX10_dearestExit_202 (by decide) ?_
          refine g_drop 5 (g_drop 6 ?_)
          exact ih
      · intro k hk ih2
        have i2 : nI k / nI 4 = nI (k / 4) := pk_div (by omega) (by decide) (by decide)
        have i3 : nI k - nI k / nI 4 * nI 4 = nI (k % 4) := pk_rem (by omega) (by decide) (by decide)
        have fk : f k = zb (kDb (vGs V s k) (vGs U s k)) := by rw [hf]
        rw [sm_s, fk] at ih2
        have uk : vFs U s k = vCho (vDi U) U s (k / 4) (k % 4) := rfl
        have ck := cc (k / 4) (k % 4) (by omega) (by omega)
        rw [← uk] at ck
        have tail : ∀ (D : Bool) (y : Int32), D = kDb (vGs V s k) (vGs U s k) → zG w mX10_dearestExit (d + 7) 0 150 [vR 10 0, vI (nI 1566), vI q.1, vI q.2, vI (nI e), vI (sm f k), vI (nI k), vI y] [vI (zb D), vI (sm f k)] (zP P O) (zrI (vDx V s s).1) (zP N O) := by
          intro D y hD
          rw [← hD] at ih2
          refine g_iadd (n := 151) dX10_dearestExit_150 rfl ?_
          refine g_istore5 (n := 153) dX10_dearestExit_151 rfl (by decide) rfl ?_
          refine g_iinc6 (n := 156) dX10_dearestExit_153 rfl (by decide) rfl (z_inc1 _) ?_
          refine g_goto (n := 0) (t := 71) dX10_dearestExit_156 (by decide) ?_
          refine g_drop 7 ?_
          exact ih2
        refine g_iload (n := 73) dX10_dearestExit_71 rfl rfl ?_
        refine g_bipush (n := 75) dX10_dearestExit_73 rfl k_bp_32 ?_
        refine g_icmp_ge (n := 78) (t := 159) dX10_dearestExit_75 rfl (by decide) (fun q9 => absurd q9 (nI_ge hk (by decide))) (fun _ => ?_)
        refine g_aload_n (n := 79) dX10_dearestExit_78 rfl rfl ?_
        refine gf_X10_24 (n := 82) dX10_dearestExit_79 rfl rfl (z_lvP (by first | decide | assumption)) rfl ?_
        refine g_iload (n := 84) dX10_dearestExit_82 rfl rfl ?_
        refine g_iald (n := 85) dX10_dearestExit_84 rfl (by decide) (z_lvP (by first | decide | assumption)) rfl (by show _ < 32; first | assumption | omega) ?_
        rw [e3 k hk]
        rcases vCho_in2 W hs h8 (show k / 4 < 8 by omega) (show k % 4 < 4 by omega) with a | ⟨e1, he1, a⟩
        · have a2 : vFs V s k = -1 := a
          rw [a2]
          refine g_if_ge (n := 88) (t := 92) dX10_dearestExit_85 rfl (by decide) (fun q9 => absurd q9 (by decide)) (fun _ => ?_)
          refine g_iconst (n := 89) dX10_dearestExit_88 rfl k_ic_m1 ?_
          refine g_goto (n := 0) (t := 105) dX10_dearestExit_89 (by decide) ?_
          refine g_istore7 (n := 107) dX10_dearestExit_105 rfl (by decide) rfl ?_
          refine g_iload (n := 109) dX10_dearestExit_107 rfl rfl ?_
          refine g_aload_n (n := 110) dX10_dearestExit_109 rfl rfl ?_
          refine gf_X10_24 (n := 113) dX10_dearestExit_110 rfl rfl (z_lvP (by first | decide | assumption)) rfl ?_
          refine g_iload (n := 115) dX10_dearestExit_113 rfl rfl ?_
          refine g_iald (n := 116) dX10_dearestExit_115 rfl (by decide) (z_lvP (by first | decide | assumption)) rfl (by show _ < 32; first | assumption | omega) ?_
          rw [e3 k hk, a2]
          refine g_if_lt (n := 119) (t := 149) dX10_dearestExit_116 rfl (by decide) (fun _ => ?_) (fun q9 => absurd (by decide) q9)
          refine g_iconst (n := 150) dX10_dearestExit_149 rfl k_ic_0 ?_
          exact tail false _ (by rw [vGs_no a2]; rfl)
        · have a2 : vFs V s k = nI e1 := a
          obtain ⟨n1, hn1, en1⟩ := vFar_n W hs h8 (show k / 4 < 8 by omega) he1
          have gv : vGs V s k = nI n1 := (vGs_yes a2 (by omega)).trans en1
          rw [a2]
          refine g_if_ge (n := 88) (t := 92) dX10_dearestExit_85 rfl (by decide) (fun _ => ?_) (fun q9 => absurd (nI_pos' (by omega)) q9)
          refine g_aload_n (n := 93) dX10_dearestExit_92 rfl rfl ?_
          refine g_iload_n (n := 94) dX10_dearestExit_93 rfl rfl ?_
          refine g_iload (n := 96) dX10_dearestExit_94 rfl rfl ?_
          refine g_iconst (n := 97) dX10_dearestExit_96 rfl k_ic_4 ?_
          refine g_idiv (n := 98) dX10_dearestExit_97 rfl (by decide) ?_
          refine g_iload (n := 100) dX10_dearestExit_98 rfl rfl ?_
          refine g_iconst (n := 101) dX10_dearestExit_100 rfl k_ic_4 ?_
          refine g_irem (n := 102) dX10_dearestExit_101 rfl (by decide) ?_
          rw [i3, i2]
          refine g_cVv (n := 105) ck dX10_dearestExit_102 rfl kw_X10_80 rfl (by decide) (z_lvP (by first | decide | assumption)) (Nat.le_of_ble_eq_true rfl) ⟨Nat.le_refl _, Nat.le_refl _⟩ ?_ rfl
          refine g_istore7 (n := 107) dX10_dearestExit_105 rfl (by decide) rfl ?_
          refine g_iload (n := 109) dX10_dearestExit_107 rfl rfl ?_
          refine g_aload_n (n := 110) dX10_dearestExit_109 rfl rfl ?_
          refine gf_X10_24 (n := 113) dX10_dearestExit_110 rfl rfl (z_lvP (by first | decide | assumption)) rfl ?_
          refine g_iload (n := 115) dX10_dearestExit_113 rfl rfl ?_
          refine g_iald (n := 116) dX10_dearestExit_115 rfl (by decide) (z_lvP (by first | decide | assumption)) rfl (by show _ < 32; first | assumption | omega) ?_
          rw [e3 k hk, a2]
          refine g_if_lt (n := 119) (t := 149) dX10_dearestExit_116 rfl (by decide) (fun q9 => absurd q9 (nI_pos (by omega))) (fun _ => ?_)
          refine g_iload (n := 121) dX10_dearestExit_119 rfl rfl ?_
          rcases vCho_in2 WU us h8 (show k / 4 < 8 by omega) (show k % 4 < 4 by omega) with u | ⟨e4, he4, u⟩
          · have u2 : vFs U s k = -1 := u
            rw [u2]
            refine g_if_lt (n := 124) (t := 145) dX10_dearestExit_121 rfl (by decide) (fun _ => ?_) (fun q9 => absurd (by decide) q9)
            refine g_iconst (n := 146) dX10_dearestExit_145 rfl k_ic_1 ?_
            refine g_goto (n := 0) (t := 150) dX10_dearestExit_146 (by decide) ?_
            refine tail true _ ?_
            rw [gv, vGs_no u2]
            unfold kDb
            rw [decide_eq_true (nI_nm1 (by omega)), decide_eq_true rfl]
            rfl
          · have u2 : vFs U s k = nI e4 := u
            obtain ⟨n4, hn4, en4⟩ := vFar_n WU us h8 (show k / 4 < 8 by omega) he4
            have gu : vGs U s k = nI n4 := (vGs_yes u2 (by omega)).trans en4
            have cf4 := cf (k / 4) e4 (by omega) he4
            rw [en4] at cf4
            rw [u2]
            refine g_if_lt (n := 124) (t := 145) dX10_dearestExit_121 rfl (by decide) (fun q9 => absurd q9 (nI_pos (by omega))) (fun _ => ?_)
            refine g_aload_n (n := 125) dX10_dearestExit_124 rfl rfl ?_
            refine g_iload_n (n := 126) dX10_dearestExit_125 rfl rfl ?_
            refine g_iload (n := 128) dX10_dearestExit_126 rfl rfl ?_
            refine g_iconst (n := 129) dX10_dearestExit_128 rfl k_ic_4 ?_
            refine g_idiv (n := 130) dX10_dearestExit_129 rfl (by decide) ?_
            rw [i2]
            refine g_iload (n := 132) dX10_dearestExit_130 rfl rfl ?_
            refine g_cVv (n := 135) cf4 dX10_dearestExit_132 rfl kw_X10_58 rfl (by decide) (z_lvP (by first | decide | assumption)) (Nat.le_of_ble_eq_true rfl) ⟨Nat.le_refl _, Nat.le_refl _⟩ ?_ rfl
            refine g_aload_n (n := 136) dX10_dearestExit_135 rfl rfl ?_
            refine gf_X10_27 (n := 139) dX10_dearestExit_136 rfl rfl (z_lvP (by first | decide | assumption)) rfl ?_
            refine g_iload (n := 141) dX10_dearestExit_139 rfl rfl ?_
            refine g_iald (n := 142) dX10_dearestExit_141 rfl (by decide) (z_lvP (by first | decide | assumption)) rfl (by show _ < 32; first | assumption | omega) ?_
            rw [g3 k hk, gv]
            have kd : kDb (vGs V s k) (vGs U s k) = decide (nI n1 < nI n4) := by
              rw [gv, gu]
              unfold kDb
              rw [decide_eq_true (nI_nm1 (by omega)), decide_eq_false (nI_nm1 (show n4 < 2 ^ 31 by omega))]
              rfl
            refine g_icmp_le (n := 145) (t := 149) dX10_dearestExit_142 rfl (by decide) (fun c142 => ?_) (fun c142 => ?_)
            · refine g_iconst (n := 150) dX10_dearestExit_149 rfl k_ic_0 ?_
              exact tail false _ (by rw [kd, decide_eq_false (Int32.not_lt.mpr c142)])
            · refine g_iconst (n := 146) dX10_dearestExit_145 rfl k_ic_1 ?_
              refine g_goto (n := 0) (t := 150) dX10_dearestExit_146 (by decide) ?_
              exact tail true _ (by rw [kd, decide_eq_true (Int32.not_le.mp c142)])
end L16

