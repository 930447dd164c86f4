/-! The nearest ways do not hang on what stood in the rows before. -/
theorem nU_cong {R R' Z Z' : Nat → Int32} (hR : aeq 8 R R') (hZ : aeq 8 Z Z') : ∀ j, j ≤ 8 → nU R Z j = nU R' Z' j
  | 0, _ => rfl
  | j + 1, hj => by
    unfold nU
    rw [nU_cong hR hZ j (by omega), hR j (by omega), hZ j (by omega)]
theorem upd_aeq {n j : Nat} {R R' : Nat → Int32} {v : Int32} (h : aeq n R R') : aeq n (upd R j v) (upd R' j v) := by
  intro k hk
  unfold upd
  split
  · rfl
  · exact h k hk
theorem nX_cong {c R R' : Nat → Int32} {x : Nat} (hx : x < 8) (hR : aeq 8 R R') : ∀ j, j ≤ 8 → aeq 8 (nX c x R j) (nX c x R' j)
  | 0, _ => hR
  | j + 1, hj => by
    have ih := nX_cong (c := c) hx hR j (by omega)
    unfold nX
    rw [ih x hx, ih j (by omega)]
    split
    · exact upd_aeq ih
    · exact ih
theorem nR_cong {c : Nat → Int32} {Q Q' : (Nat → Int32) × (Nat → Int32)} (hR : aeq 8 Q.1 Q'.1) (hZ : aeq 8 Q.2 Q'.2) : aeq 8 (nR c Q).1 (nR c Q').1 ∧ aeq 8 (nR c Q).2 (nR c Q').2 := by
  unfold nR
  rw [nU_cong hR hZ 8 (Nat.le_refl _)]
  cases hx : z_ok (nU Q'.1 Q'.2 8).1 8
  · exact ⟨hR, hZ⟩
  · obtain ⟨x, hx8, hxe⟩ := z_ok_of hx (by decide)
    rw [if_pos rfl, if_pos rfl, hxe, nI_clamp (by omega)]
    exact ⟨nX_cong hx8 hR 8 (Nat.le_refl _), upd_aeq hZ⟩
theorem nRs_cong {c : Nat → Int32} {Q Q' : (Nat → Int32) × (Nat → Int32)} (hR : aeq 8 Q.1 Q'.1) (hZ : aeq 8 Q.2 Q'.2) : ∀ k, aeq 8 (nRs c Q k).1 (nRs c Q' k).1 ∧ aeq 8 (nRs c Q k).2 (nRs c Q' k).2
  | 0 => ⟨hR, hZ⟩
  | k + 1 => nR_cong (nRs_cong hR hZ k).1 (nRs_cong hR hZ k).2
theorem xfl_aeq {F g : Nat → Int32} {n : Nat} : aeq n (xfl F g n) F := fun _ h => xfl_in h
def kNd (c : Nat → Int32) (a b : Nat) : Int32 := xfar ((nRs c (nB a, fun _ => nI 0) 8).1 b)
theorem kNd_of {c R Z : Nat → Int32} {a b : Nat} (hb : b < 8) : xfar ((nRs c (xfl (nB a) R 8, xfl (fun _ => nI 0) Z 8) 8).1 b) = kNd c a b := by
  unfold kNd
  rw [(nRs_cong (c := c) (Q := (xfl (nB a) R 8, xfl (fun _ => nI 0) Z 8)) (Q' := (nB a, fun _ => nI 0)) xfl_aeq xfl_aeq 8).1 b hb]
section LD
variable {w : zWp} {d s o h n : Nat} {M M1 M2 : Nat → Nat → Nat → Int32} {O : Nat → Int64}
theorem zF.same {M' : Nat → Nat → Nat → Int32} (F : zF M s o h n) (S : zSame M M') : zF M' s o h n := by
  refine ⟨?_, F.h8, ?_, F.o6, ?_, F.h6, ?_, F.h60⟩
  · rw [S 1 0 (by decide) (by decide) (by decide) (by decide) (by decide) (Or.inl (by decide))]; exact F.hs
  · rw [S 2 0 (by decide) (by decide) (by decide) (by decide) (by decide) (Or.inl (by decide))]; exact F.ho
  · rw [S 2 0 (by decide) (by decide) (by decide) (by decide) (by decide) (Or.inl (by decide))]; exact F.hh
  · rw [S 8 0 (by decide) (by decide) (by decide) (by decide) (by decide) (Or.inl (by decide))]; exact F.hn
end LD

