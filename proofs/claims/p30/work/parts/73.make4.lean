/-! The row of a new object; places that are no longer null. -/
theorem WFV_V0 : WFV V0 := by
  have z : ∀ p, (p < 2 ∨ 66 ≤ p) → (p < 123 ∨ 127 ≤ p) → V0 p = nI 0 := fun p a b => by
    unfold V0
    rw [if_neg (by omega), if_neg (by omega)]
  refine ⟨fun j hj => Or.inl (z j (by omega) (by omega)), fun j hj => ?_, fun a b ha hb => ?_, fun a ha => ?_, ⟨0, by decide, z 66 (by decide) (by decide), fun e he => absurd he (Nat.not_lt_zero _), fun e _ he => ⟨z _ (by omega) (by omega), z _ (by omega) (by omega)⟩⟩, fun j hj => ⟨0, by decide, z _ (by omega) (by omega)⟩, ⟨0, 0, by decide, by decide, z 171 (by decide) (by decide), z 172 (by decide) (by decide)⟩⟩
  · rw [V0_r hj]
    unfold iR
    split
    · exact ⟨10, by decide, rfl⟩
    · exact ⟨0, by decide, rfl⟩
  · rw [V0_r (by omega), V0_r (by omega)]
    unfold iR
    have e : iC 7 (8 * a + b) = iC 7 (8 * b + a) := by
      unfold iC
      rw [decide_eq_decide]
      omega
    rw [e]
  · rw [V0_r (by omega)]
    unfold iR
    rw [if_neg (fun q => by have := of_decide_eq_true q; omega)]
theorem WFP_V0 : WFP V0 := by
  have z : ∀ p, (p < 2 ∨ 66 ≤ p) → (p < 123 ∨ 127 ≤ p) → V0 p = nI 0 := fun p a b => by
    unfold V0
    rw [if_neg (by omega), if_neg (by omega)]
  exact ⟨0, by decide, z 171 (by decide) (by decide), fun j hj => ⟨0, Nat.le_refl _, z _ (by omega) (by omega)⟩⟩
/-! places that are no longer null -/
def nlA (N : Nat → Nat → Nat → Bool) : Prop := (∀ k i, k ≤ 10 → i < z_cnt k → ∀ j q, (z_ft k)[j]? = some (some q) → N k i j = false) ∧ (∀ i, i < 2 → ∀ j, j < z_ln 29 i → N 29 i j = false)
theorem z_flds_eq {w : zWp} {k i : Nat} {nl nl' : Nat → Bool} {m : Nat → Int32} (h : ∀ j q, (z_ft k)[j]? = some (some q) → nl j = nl' j) : z_flds w k i nl m = z_flds w k i nl' m := by
  unfold z_flds
  refine List.ext_getElem? fun j => ?_
  rw [List.getElem?_mapIdx, List.getElem?_mapIdx]
  cases hf : (z_ft k)[j]? with
  | none => rfl
  | some f =>
    cases f with
    | none => rfl
    | some q =>
      show some (z_fv w i (some q) (nl j) (m j)) = some (z_fv w i (some q) (nl' j) (m j))
      rw [h j q hf]
theorem arrV_eq {c : ClassId} {n : Nat} {f g : Nat → Value} (h : ∀ j, j < n → f j = g j) : arrV c n f = arrV c n g := by
  unfold arrV
  have e : (fun j : Fin n => f j.val) = (fun j : Fin n => g j.val) := funext fun j => h j.val j.isLt
  rw [e]
theorem z_hp_nl {w : zWp} {N : Nat → Nat → Nat → Bool} {M : Nat → Nat → Nat → Int32} {O : Nat → Int64} {H : Heap} (h : nlA N) (hp : z_hp w (196, N, M, O) H) : z_hp w (zP M O) H := by
  refine ⟨fun k q hq => ?_, hp.2.1, hp.2.2⟩
  have hk : ∃ r, r < 196 ∧ k = r ∧ q = z_ent w (zP M O) r := by
    unfold z_ws at hq
    rw [List.getElem?_map] at hq
    cases hr : (List.range (zP M O).1)[k]? with
    | none => rw [hr] at hq; cases hq
    | some r =>
      rw [hr] at hq
      obtain ⟨h1, h2⟩ := List.getElem?_eq_some_iff.mp hr
      rw [List.getElem_range] at h2
      rw [List.length_range] at h1
      cases hq
      exact ⟨r, by rw [← h2]; exact h1, h2, rfl⟩
  obtain ⟨r, hr, rfl, rfl⟩ := hk
  have h0 : (z_ws w (196, N, M, O))[k]? = some (z_ent w (196, N, M, O) k) := by
    unfold z_ws
    rw [List.getElem?_map, List.getElem?_range hr]
    rfl
  have hv := hp.1 k _ h0
  obtain ⟨b1, b2, b3⟩ := z_bwd k hr
  obtain ⟨kk, hkk⟩ : ∃ kk, kk = (z_LF k).1 := ⟨_, rfl⟩
  obtain ⟨ii, hii⟩ : ∃ ii, ii = (z_LF k).2 := ⟨_, rfl⟩
  unfold z_ent at hv ⊢
  rw [← hkk, ← hii] at hv b2 ⊢
  dsimp only at hv ⊢
  by_cases c10 : kk ≤ 10
  · rw [z_cel_obj c10] at hv ⊢
    rw [z_flds_eq (nl' := N kk ii) (fun j q hf => (h.1 kk ii c10 b2 j q hf).symm)]
    exact hv
  · by_cases c29 : kk = 29
    · rw [c29] at hv b2 ⊢
      rw [z_cel_lan] at hv ⊢
      have ei : arrV (w.2.1 3) (z_ln 29 ii) (fun j => va_rf (if N 29 ii j then none else some (z_adr w 3 (z_landOf ii j)))) = arrV (w.2.1 3) (z_ln 29 ii) (fun j => va_rf (if false then none else some (z_adr w 3 (z_landOf ii j)))) := arrV_eq (fun j hj => by rw [h.2 ii b2 j hj])
      show H[_]? = some (arrV (w.2.1 3) (z_ln 29 ii) (fun j => va_rf (if false then none else some (z_adr w 3 (z_landOf ii j)))))
      rw [← ei]
      exact hv
    · have e : z_cel w kk ii (fun _ => false) (M kk ii) O = z_cel w kk ii (N kk ii) (M kk ii) O := by
        unfold z_cel
        rw [if_neg c10, if_neg c10, if_neg c29, if_neg c29]
      rw [e]
      exact hv
theorem zG_nl {w : zWp} {f : zMth} {d cr pc : Nat} {lv stk : List zAV} {N : Nat → Nat → Nat → Bool} {M : Nat → Nat → Nat → Int32} {O : Nat → Int64} {r : zRes} {σ' : zSt} (h : nlA N) (G : zG w f d cr pc lv stk (zP M O) r σ') : zG w f d cr pc lv stk (196, N, M, O) r σ' :=
  fun p l e R s m args below meth c mc ms H locs cells slots ls X hl hP hS hB => G p l e R s m args below meth c mc ms H locs cells slots ls X hl (z_hp_nl h hP) hS hB
theorem nlA_of {N : Nat → Nat → Nat → Bool} (C : nlC N) : nlA N := by
  obtain ⟨c1, ⟨c2, c3⟩, ⟨c4, c5, c6, c7, c8, c9⟩, c10⟩ := C
  have fin : ∀ {n j : Nat} {l : List (Option (Nat × Option Nat))} {q : Nat × Option Nat}, l[j]? = some (some q) → l.length = n → j < n := fun h hl => by
    rw [← hl]
    exact (List.getElem?_eq_some_iff.mp h).1
  refine ⟨fun k i hk hi j q hq => ?_, fun i hi j hj => ?_⟩
  · have hk : k = 0 ∨ k = 1 ∨ k = 2 ∨ k = 3 ∨ k = 4 ∨ k = 5 ∨ k = 6 ∨ k = 7 ∨ k = 8 ∨ k = 9 ∨ k = 10 := by omega
    rcases hk with h | h | h | h | h | h | h | h | h | h | h <;> subst h
    · have hj := fin hq (n := 8) rfl
      obtain rfl : i = 0 := by have : z_cnt 0 = 1 := rfl; omega
      by_cases h2 : j < 2
      · exact c6 j h2
      · exfalso
        obtain h | h | h | h | h | h : j = 2 ∨ j = 3 ∨ j = 4 ∨ j = 5 ∨ j = 6 ∨ j = 7 := by omega
        all_goals (subst h; cases hq)
    · have hj := fin hq (n := 6) rfl
      have hi : i < 10 := hi
      by_cases h2 : j < 5
      · exact (c1 i hi).2.1 j h2
      · exfalso
        obtain h : j = 5 := by omega
        subst h
        cases hq
    · have hj := fin hq (n := 3) rfl
      obtain rfl : i = 0 := by have : z_cnt 2 = 1 := rfl; omega
      obtain h | h | h : j = 0 ∨ j = 1 ∨ j = 2 := by omega
      · subst h; exact c9
      · subst h; cases hq
      · subst h; cases hq
    · have hj := fin hq (n := 8) rfl
      have hi : i < 10 := hi
      by_cases h2 : j < 5
      · exact (c1 i hi).1 j h2
      · exfalso
        obtain h | h | h : j = 5 ∨ j = 6 ∨ j = 7 := by omega
        all_goals (subst h; cases hq)
    · have hj := fin hq (n := 2) rfl
      obtain rfl : i = 0 := by have : z_cnt 4 = 1 := rfl; omega
      exact c7 j hj
    · have hj := fin hq (n := 5) rfl
      have hi : i < 10 := hi
      exact (c1 i hi).2.2.1 j hj
    · have hj := fin hq (n := 2) rfl
      have hi : i < 10 := hi
      exact (c1 i hi).2.2.2 j hj
    · have hj := fin hq (n := 2) rfl
      have hi : i < 2 := hi
      obtain h | h : i = 0 ∨ i = 1 := by omega
      · subst h; exact c4 j hj
      · subst h; exact c5 j hj
    · have hj := fin hq (n := 2) rfl
      obtain rfl : i = 0 := by have : z_cnt 8 = 1 := rfl; omega
      obtain h | h : j = 0 ∨ j = 1 := by omega
      · subst h; exact c8
      · subst h; cases hq
    · have hj := fin hq (n := 7) rfl
      obtain rfl : i = 0 := by have : z_cnt 9 = 1 := rfl; omega
      exact c10 j hj
    · exact absurd hi (Nat.not_lt_zero _)
  · obtain h | h : i = 0 ∨ i = 1 := by omega
    · subst h; exact c2 j hj
    · subst h; exact c3 j hj


