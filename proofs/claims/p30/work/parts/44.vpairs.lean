/-! A rank within the best is found; pairs without an exit. -/
/-- how many loaves each pair sent: none above all loaves -/
def WFP (V : Nat → Int32) : Prop := ∃ t, t ≤ 9999 ∧ V 171 = nI t ∧ ∀ j, j < 32 → ∃ p, p ≤ t ∧ V (139 + j) = nI p
theorem cnt_front {p : Nat → Bool} : ∀ k, cnt p (k + 1) = (if p 0 then 1 else 0) + cnt (fun j => p (j + 1)) k
  | 0 => by
    show 0 + (if p 0 then 1 else 0) = (if p 0 then 1 else 0) + 0
    omega
  | k + 1 => by
    have ih := cnt_front (p := p) k
    show cnt p (k + 1) + (if p (k + 1) then 1 else 0) = (if p 0 then 1 else 0) + (cnt (fun j => p (j + 1)) k + (if p (k + 1) then 1 else 0))
    rw [ih]
    omega
theorem xrk_found {p : Nat → Bool} : ∀ (k t r : Nat), r < cnt (fun j => p (t + j)) k → t + k < 1000 → ∃ e, e < t + k ∧ xrk p t k (nI r) = nI e
  | 0, _, _, h, _ => absurd h (Nat.not_lt_zero _)
  | k + 1, t, r, h, hk => by
    have e0 : xrk p t (k + 1) (nI r) = if p t then (if nI r = 0 then nI t else xrk p (t + 1) k (nI r + (-1))) else xrk p (t + 1) k (nI r) := rfl
    have cl := cnt_le (fun j => p (t + j)) (k + 1)
    have e1 : (fun j => p (t + (j + 1))) = (fun j => p (t + 1 + j)) := funext fun j => by rw [show t + (j + 1) = t + 1 + j by omega]
    rw [cnt_front] at h cl
    rw [e1, Nat.add_zero] at h cl
    rw [e0]
    cases hp : p t
    · rw [hp, if_neg (by decide), Nat.zero_add] at h
      rw [if_neg (by decide)]
      obtain ⟨e, a, b⟩ := xrk_found k (t + 1) r h (by omega)
      exact ⟨e, by omega, b⟩
    · rw [hp, if_pos rfl] at h cl
      rw [if_pos rfl]
      cases r with
      | zero =>
        rw [if_pos (show nI 0 = 0 from rfl)]
        exact ⟨t, by omega, rfl⟩
      | succ r =>
        rw [if_neg (nI_ne0 (by omega) (by omega)), pk_m1]
        obtain ⟨e, a, b⟩ := xrk_found (p := p) k (t + 1) r (by omega) (by omega)
        exact ⟨e, by omega, b⟩
theorem vCho_none {V : Nat → Int32} {s t h : Nat} (W : WFV V) (P : WFP V) (hs : V 66 = nI s) (h8 : s ≤ 8) (ht : t < 8) (hh : h < 4) : vCho (vDi V) V s t h < 0 ↔ (vq V s t h).1 = 0 := by
  have Q := vq_s W hs h8 ht hh
  rcases vCho_in W hs h8 ht hh with a | ⟨e, he, hc, a⟩
  · refine ⟨fun _ => ?_, fun _ => by rw [a]; decide⟩
    refine Nat.eq_zero_of_not_pos fun hp => ?_
    -- some exit can be taken, so some is best
    have hb : 0 < (vq V s t h).2.1 := by
      rcases Q.2.2.2.1 with ⟨m, hm, c1, c2, c3⟩ | ⟨_, _, c⟩
      · rw [Q.2.1]
        refine cnt_pos hm ?_
        unfold nBe
        rw [c1, decide_eq_true c2, decide_eq_true c3]
        rfl
      · rw [Q.1, cnt_zero c] at hp
        omega
    have hb8 := vq_be W hs h8 ht hh
    have hr : ∃ r, r < (vq V s t h).2.1 ∧ vRk V t h (nI (vq V s t h).2.1) = nI r := by
      unfold vRk
      rcases W.1 1 (by decide) with z | z
      · rw [z, if_pos (show nI 0 = 0 from rfl)]
        exact ⟨0, hb, rfl⟩
      · obtain ⟨tt, h1, _, h3⟩ := P
        obtain ⟨p, hp1, hp2⟩ := h3 (4 * t + h) (by omega)
        rw [z, if_neg (by decide), hp2, pk_rem (by omega) hb (by omega)]
        exact ⟨p % (vq V s t h).2.1, Nat.mod_lt _ hb, rfl⟩
    obtain ⟨r, hr1, hr2⟩ := hr
    unfold vCho at a
    rw [vGd_3 W hs h8 ht hh, if_neg (nI_ne0 hb (by omega)), hr2, mfo_xrk s 0 _ _ (by omega)] at a
    rw [xrk_cong (p := fun k => decide (vGr (vDi V) V s t h k = nI 3)) (q := vBe V s t h) s 0 (nI r) (fun e _ he => by
        show decide (vGr (vDi V) V s t h e = nI 3) = _
        have := vGn_le (V := V) (s := s) (t := t) (h := h) (e := e)
        rw [vGr_n W hs h8 ht hh (by omega), ← vGn_3, decide_eq_decide, nI_eq (by omega) (by omega)])] at a
    obtain ⟨e, he, hx⟩ := xrk_found (p := vBe V s t h) s 0 r (by
      have q2 := Q.2.1
      rw [q2] at hr1
      have e1 : (fun j => vBe V s t h (0 + j)) = vBe V s t h := funext fun j => by rw [Nat.zero_add]
      rw [e1]
      exact hr1) (by omega)
    rw [hx, if_neg (nI_nm1 (by omega))] at a
    exact nI_nm1 (by omega) a
  · rw [a]
    refine ⟨fun z => absurd z (nI_pos (by omega)), fun z => ?_⟩
    exfalso
    have hp := cnt_pos (p := vCs V s t h) he hc
    rw [← Q.1] at hp
    omega
theorem kWo_v {M : Nat → Nat → Nat → Int32} {V : Nat → Int32} {s : Nat} (R : LandR M 0 V) (W : WFV V) (P : WFP V) (hs : V 66 = nI s) (h8 : s ≤ 8) : kWo M s = sm (kPs (fun t h => decide (vCho (vDi V) V s t h < 0))) 32 := by
  unfold kWo
  refine sm_cong fun k hk => ?_
  have ht : k / 4 < 8 := by omega
  have hh : k % 4 < 4 := by omega
  show zb (decide ((kQ M 0 s (k / 4) (k % 4)).1 = 0)) = zb (decide (vCho (vDi V) V s (k / 4) (k % 4) < 0))
  rw [kQ_v R W hs h8 ht hh]
  congr 1
  rw [decide_eq_decide, vCho_none W P hs h8 ht hh]
  show nI (vq V s (k / 4) (k % 4)).1 = 0 ↔ _
  have h1 : (vq V s (k / 4) (k % 4)).1 ≤ 8 := by
    rw [(vq_s W hs h8 ht hh).1]
    exact Nat.le_trans (cnt_le _ _) h8
  exact nI_eq (b := 0) (by omega) (by omega)

