/-! The text in whole numbers: the automaton, and the reader of orders. -/
section TX
variable {C : Nat → Nat} {n a : Nat}
def nLet (c : Nat) : Nat := if c = 115 then 1 else if c = 114 then 6 else if c = 120 then 11 else 13
def nOrd (c : Nat) : Nat := if c = 59 then 0 else 13
def nFst (c : Nat) : Nat := if c = 48 then 12 else if 49 ≤ c ∧ c ≤ 57 then 10 else 13
def nPl (p : Nat) (c q : Nat) : Nat := match p with
  | 0 => nLet c
  | 1 => if 48 ≤ c ∧ c ≤ 55 then 2 else 13
  | 2 => if c = 62 then 3 else 13
  | 3 => if 48 ≤ c ∧ c ≤ 51 then 4 else 13
  | 4 => if c = 42 then 5 else nOrd c
  | 5 => if 50 ≤ c ∧ c ≤ 57 then 12 else 13
  | 6 => if 48 ≤ c ∧ c ≤ 55 then 7 else 13
  | 7 => if 48 ≤ c ∧ c ≤ 55 then (if c = q then 13 else 8) else 13
  | 8 => if c = 61 then 9 else 13
  | 9 => nFst c
  | 10 => if 48 ≤ c ∧ c ≤ 57 then 12 else nOrd c
  | 11 => if 48 ≤ c ∧ c ≤ 55 then 12 else 13
  | 12 => nOrd c
  | _ => 13
def nPv (C : Nat → Nat) : Nat → Nat
  | 0 => 0
  | j + 1 => C j
def nSt (C : Nat → Nat) : Nat → Nat
  | 0 => 0
  | j + 1 => nPl (nSt C j) (C j) (nPv C j)
theorem nSt_s (C : Nat → Nat) (j : Nat) : nSt C (j + 1) = nPl (nSt C j) (C j) (nPv C j) := rfl
/-- a digit from l to u, a sign c, at j -/
def dg (C : Nat → Nat) (n l u j : Nat) : Bool := decide (j < n ∧ l ≤ C j ∧ C j ≤ u)
def ch (C : Nat → Nat) (n c j : Nat) : Bool := decide (j < n ∧ C j = c)
/-- an order read from a on: where it ends, or where it breaks -/
def pS (C : Nat → Nat) (n a : Nat) : Nat × Bool := if dg C n 48 55 (a + 1) then (if ch C n 62 (a + 2) then (if dg C n 48 51 (a + 3) then (if ch C n 42 (a + 4) then (if dg C n 50 57 (a + 5) then (a + 6, true) else (a + 5, false)) else (a + 4, true)) else (a + 3, false)) else (a + 2, false)) else (a + 1, false)
def pR (C : Nat → Nat) (n a : Nat) : Nat × Bool := if dg C n 48 55 (a + 1) then (if ch C n (C (a + 1)) (a + 2) then (a + 2, false) else if dg C n 48 55 (a + 2) then (if ch C n 61 (a + 3) then (if dg C n 48 57 (a + 4) then (if C (a + 4) ≠ 48 ∧ dg C n 48 57 (a + 5) = true then (a + 6, true) else (a + 5, true)) else (a + 4, false)) else (a + 3, false)) else (a + 2, false)) else (a + 1, false)
def pX (C : Nat → Nat) (n a : Nat) : Nat × Bool := if dg C n 48 55 (a + 1) then (a + 2, true) else (a + 1, false)
def pO (C : Nat → Nat) (n a : Nat) : Nat × Bool := if ch C n 115 a then pS C n a else if ch C n 114 a then pR C n a else if ch C n 120 a then pX C n a else (a, false)
def nEnd (p : Nat) : Prop := p = 4 ∨ p = 10 ∨ p = 12
/-- what the automaton finds over an order -/
def pSpec (C : Nat → Nat) (n a : Nat) (q : Nat × Bool) : Prop :=
  (a ≤ q.1 ∧ q.1 ≤ n) ∧ (∀ j, a ≤ j → j < q.1 → nSt C (j + 1) ≠ 13) ∧
  (q.2 = false → (q.1 < n → nSt C (q.1 + 1) = 13) ∧ ¬ nEnd (nSt C q.1)) ∧
  (q.2 = true → nEnd (nSt C q.1) ∧ (q.1 < n → nSt C (q.1 + 1) = if C q.1 = 59 then 0 else 13) ∧ a + 2 ≤ q.1 ∧ ∀ j, a ≤ j → j < q.1 → C j ≠ 59)
theorem nOrd_eq (c : Nat) : nOrd c = if c = 59 then 0 else 13 := rfl
theorem pS_spec (ha : a < n) (h0 : nSt C a = 0) (hc : C a = 115) : pSpec C n a (pS C n a) := by
  have s1 : nSt C (a + 1) = 1 := by rw [nSt_s, h0, hc]; rfl
  unfold pS
  by_cases d1 : dg C n 48 55 (a + 1) = true
  · rw [if_pos d1]
    have e1 := of_decide_eq_true d1
    have s2 : nSt C (a + 2) = 2 := by rw [nSt_s, s1]; exact if_pos e1.2
    by_cases d2 : ch C n 62 (a + 2) = true
    · rw [if_pos d2]
      have e2 := of_decide_eq_true d2
      have s3 : nSt C (a + 3) = 3 := by rw [nSt_s, s2]; exact if_pos e2.2
      by_cases d3 : dg C n 48 51 (a + 3) = true
      · rw [if_pos d3]
        have e3 := of_decide_eq_true d3
        have s4 : nSt C (a + 4) = 4 := by rw [nSt_s, s3]; exact if_pos e3.2
        by_cases d4 : ch C n 42 (a + 4) = true
        · rw [if_pos d4]
          have e4 := of_decide_eq_true d4
          have s5 : nSt C (a + 5) = 5 := by rw [nSt_s, s4]; exact if_pos e4.2
          by_cases d5 : dg C n 50 57 (a + 5) = true
          · rw [if_pos d5]
            have e5 := of_decide_eq_true d5
            have s6 : nSt C (a + 6) = 12 := by rw [nSt_s, s5]; exact if_pos e5.2
            refine ⟨⟨by omega, by show a + 6 ≤ n; omega⟩, fun j h1 h2 => ?_, fun h => (by cases h), fun _ => ⟨Or.inr (Or.inr s6), fun h => ?_, Nat.le_add_right (a + 2) 4, fun j h1 h2 => ?_⟩⟩
            · obtain e | e | e | e | e | e : j = a ∨ j = a + 1 ∨ j = a + 2 ∨ j = a + 3 ∨ j = a + 4 ∨ j = a + 5 := by have h3 : j < a + 6 := h2; omega
              all_goals (rw [e]; first | rw [s1] | rw [s2] | rw [s3] | rw [s4] | rw [s5] | rw [s6]); all_goals decide
            · show nSt C (a + 6 + 1) = _
              rw [nSt_s, s6]
              rfl
            · have h3 : j < a + 6 := h2
              obtain e | e | e | e | e | e : j = a ∨ j = a + 1 ∨ j = a + 2 ∨ j = a + 3 ∨ j = a + 4 ∨ j = a + 5 := by omega
              all_goals (rw [e]; omega)
          · rw [if_neg d5]
            refine ⟨⟨by omega, by show a + 5 ≤ n; omega⟩, fun j h1 h2 => ?_, fun _ => ⟨fun h => ?_, ?_⟩, fun h => by cases h⟩
            · obtain e | e | e | e | e : j = a ∨ j = a + 1 ∨ j = a + 2 ∨ j = a + 3 ∨ j = a + 4 := by have h3 : j < a + 5 := h2; omega
              all_goals (rw [e]; first | rw [s1] | rw [s2] | rw [s3] | rw [s4] | rw [s5]); all_goals decide
            · show nSt C (a + 5 + 1) = 13
              rw [nSt_s, s5]
              exact if_neg (fun q => d5 (decide_eq_true ⟨h, q⟩))
            · show ¬ nEnd (nSt C (a + 5))
              rw [s5]; unfold nEnd; decide
        · rw [if_neg d4]
          refine ⟨⟨by omega, by show a + 4 ≤ n; omega⟩, fun j h1 h2 => ?_, fun h => (by cases h), fun _ => ⟨Or.inl s4, fun h => ?_, Nat.le_add_right (a + 2) 2, fun j h1 h2 => ?_⟩⟩
          · obtain e | e | e | e : j = a ∨ j = a + 1 ∨ j = a + 2 ∨ j = a + 3 := by have h3 : j < a + 4 := h2; omega
            all_goals (rw [e]; first | rw [s1] | rw [s2] | rw [s3] | rw [s4]); all_goals decide
          · show nSt C (a + 4 + 1) = _
            rw [nSt_s, s4]
            exact if_neg (fun q => d4 (decide_eq_true ⟨h, q⟩))
          · have h3 : j < a + 4 := h2
            obtain e | e | e | e : j = a ∨ j = a + 1 ∨ j = a + 2 ∨ j = a + 3 := by omega
            all_goals (rw [e]; omega)
      · rw [if_neg d3]
        refine ⟨⟨by omega, by show a + 3 ≤ n; omega⟩, fun j h1 h2 => ?_, fun _ => ⟨fun h => ?_, ?_⟩, fun h => by cases h⟩
        · obtain e | e | e : j = a ∨ j = a + 1 ∨ j = a + 2 := by have h3 : j < a + 3 := h2; omega
          all_goals (rw [e]; first | rw [s1] | rw [s2] | rw [s3]); all_goals decide
        · show nSt C (a + 3 + 1) = 13
          rw [nSt_s, s3]
          exact if_neg (fun q => d3 (decide_eq_true ⟨h, q⟩))
        · show ¬ nEnd (nSt C (a + 3))
          rw [s3]; unfold nEnd; decide
    · rw [if_neg d2]
      refine ⟨⟨by omega, by show a + 2 ≤ n; omega⟩, fun j h1 h2 => ?_, fun _ => ⟨fun h => ?_, ?_⟩, fun h => by cases h⟩
      · obtain e | e : j = a ∨ j = a + 1 := by have h3 : j < a + 2 := h2; omega
        all_goals (rw [e]; first | rw [s1] | rw [s2]); all_goals decide
      · show nSt C (a + 2 + 1) = 13
        rw [nSt_s, s2]
        exact if_neg (fun q => d2 (decide_eq_true ⟨h, q⟩))
      · show ¬ nEnd (nSt C (a + 2))
        rw [s2]; unfold nEnd; decide
  · rw [if_neg d1]
    refine ⟨⟨by omega, by show a + 1 ≤ n; omega⟩, fun j h1 h2 => ?_, fun _ => ⟨fun h => ?_, ?_⟩, fun h => by cases h⟩
    · obtain e : j = a := by have h3 : j < a + 1 := h2; omega
      rw [e, s1]; decide
    · show nSt C (a + 1 + 1) = 13
      rw [nSt_s, s1]
      exact if_neg (fun q => d1 (decide_eq_true ⟨h, q⟩))
    · show ¬ nEnd (nSt C (a + 1))
      rw [s1]; unfold nEnd; decide
theorem pR_spec (ha : a < n) (h0 : nSt C a = 0) (hc : C a = 114) : pSpec C n a (pR C n a) := by
  have s1 : nSt C (a + 1) = 6 := by rw [nSt_s, h0, hc]; rfl
  unfold pR
  by_cases d1 : dg C n 48 55 (a + 1) = true
  · rw [if_pos d1]
    have e1 := of_decide_eq_true d1
    have s2 : nSt C (a + 2) = 7 := by rw [nSt_s, s1]; exact if_pos e1.2
    by_cases dd : ch C n (C (a + 1)) (a + 2) = true
    · rw [if_pos dd]
      have ee := of_decide_eq_true dd
      refine ⟨⟨by omega, by show a + 2 ≤ n; omega⟩, fun j h1 h2 => ?_, fun _ => ⟨fun h => ?_, ?_⟩, fun h => by cases h⟩
      · obtain e | e : j = a ∨ j = a + 1 := by have h3 : j < a + 2 := h2; omega
        all_goals (rw [e]; first | rw [s1] | rw [s2]); all_goals decide
      · show nSt C (a + 2 + 1) = 13
        rw [nSt_s, s2]
        show (if 48 ≤ C (a + 2) ∧ C (a + 2) ≤ 55 then (if C (a + 2) = C (a + 1) then 13 else 8) else 13) = 13
        rw [if_pos ee.2]
        split <;> rfl
      · show ¬ nEnd (nSt C (a + 2))
        rw [s2]; unfold nEnd; decide
    · rw [if_neg dd]
      by_cases d2 : dg C n 48 55 (a + 2) = true
      · rw [if_pos d2]
        have e2 := of_decide_eq_true d2
        have s3 : nSt C (a + 3) = 8 := by
          rw [nSt_s, s2]
          show (if 48 ≤ C (a + 2) ∧ C (a + 2) ≤ 55 then (if C (a + 2) = C (a + 1) then 13 else 8) else 13) = 8
          rw [if_pos e2.2, if_neg (fun q => dd (decide_eq_true ⟨e2.1, q⟩))]
        by_cases d3 : ch C n 61 (a + 3) = true
        · rw [if_pos d3]
          have e3 := of_decide_eq_true d3
          have s4 : nSt C (a + 4) = 9 := by rw [nSt_s, s3]; exact if_pos e3.2
          by_cases d4 : dg C n 48 57 (a + 4) = true
          · rw [if_pos d4]
            have e4 := of_decide_eq_true d4
            by_cases z : C (a + 4) = 48
            · rw [if_neg (fun q => q.1 z)]
              have s5 : nSt C (a + 5) = 12 := by
                rw [nSt_s, s4]
                exact if_pos z
              refine ⟨⟨by omega, by show a + 5 ≤ n; omega⟩, fun j h1 h2 => ?_, fun h => (by cases h), fun _ => ⟨Or.inr (Or.inr s5), fun h => ?_, Nat.le_add_right (a + 2) 3, fun j h1 h2 => ?_⟩⟩
              · obtain e | e | e | e | e : j = a ∨ j = a + 1 ∨ j = a + 2 ∨ j = a + 3 ∨ j = a + 4 := by have h3 : j < a + 5 := h2; omega
                all_goals (rw [e]; first | rw [s1] | rw [s2] | rw [s3] | rw [s4] | rw [s5]); all_goals decide
              · show nSt C (a + 5 + 1) = _
                rw [nSt_s, s5]
                rfl
              · have h3 : j < a + 5 := h2
                obtain e | e | e | e | e : j = a ∨ j = a + 1 ∨ j = a + 2 ∨ j = a + 3 ∨ j = a + 4 := by omega
                all_goals (rw [e]; omega)
            · have s5 : nSt C (a + 5) = 10 := by
                rw [nSt_s, s4]
                exact (if_neg z).trans (if_pos (by omega))
              by_cases d5 : dg C n 48 57 (a + 5) = true
              · rw [if_pos ⟨z, d5⟩]
                have e5 := of_decide_eq_true d5
                have s6 : nSt C (a + 6) = 12 := by rw [nSt_s, s5]; exact if_pos e5.2
                refine ⟨⟨by omega, by show a + 6 ≤ n; omega⟩, fun j h1 h2 => ?_, fun h => (by cases h), fun _ => ⟨Or.inr (Or.inr s6), fun h => ?_, Nat.le_add_right (a + 2) 4, fun j h1 h2 => ?_⟩⟩
                · obtain e | e | e | e | e | e : j = a ∨ j = a + 1 ∨ j = a + 2 ∨ j = a + 3 ∨ j = a + 4 ∨ j = a + 5 := by have h3 : j < a + 6 := h2; omega
                  all_goals (rw [e]; first | rw [s1] | rw [s2] | rw [s3] | rw [s4] | rw [s5] | rw [s6]); all_goals decide
                · show nSt C (a + 6 + 1) = _
                  rw [nSt_s, s6]
                  rfl
                · have h3 : j < a + 6 := h2
                  obtain e | e | e | e | e | e : j = a ∨ j = a + 1 ∨ j = a + 2 ∨ j = a + 3 ∨ j = a + 4 ∨ j = a + 5 := by omega
                  all_goals (rw [e]; omega)
              · rw [if_neg (fun q => d5 q.2)]
                refine ⟨⟨by omega, by show a + 5 ≤ n; omega⟩, fun j h1 h2 => ?_, fun h => (by cases h), fun _ => ⟨Or.inr (Or.inl s5), fun h => ?_, Nat.le_add_right (a + 2) 3, fun j h1 h2 => ?_⟩⟩
                · obtain e | e | e | e | e : j = a ∨ j = a + 1 ∨ j = a + 2 ∨ j = a + 3 ∨ j = a + 4 := by have h3 : j < a + 5 := h2; omega
                  all_goals (rw [e]; first | rw [s1] | rw [s2] | rw [s3] | rw [s4] | rw [s5]); all_goals decide
                · show nSt C (a + 5 + 1) = _
                  rw [nSt_s, s5]
                  exact if_neg (fun q => d5 (decide_eq_true ⟨h, q⟩))
                · have h3 : j < a + 5 := h2
                  obtain e | e | e | e | e : j = a ∨ j = a + 1 ∨ j = a + 2 ∨ j = a + 3 ∨ j = a + 4 := by omega
                  all_goals (rw [e]; omega)
          · rw [if_neg d4]
            refine ⟨⟨by omega, by show a + 4 ≤ n; omega⟩, fun j h1 h2 => ?_, fun _ => ⟨fun h => ?_, ?_⟩, fun h => by cases h⟩
            · obtain e | e | e | e : j = a ∨ j = a + 1 ∨ j = a + 2 ∨ j = a + 3 := by have h3 : j < a + 4 := h2; omega
              all_goals (rw [e]; first | rw [s1] | rw [s2] | rw [s3] | rw [s4]); all_goals decide
            · show nSt C (a + 4 + 1) = 13
              rw [nSt_s, s4]
              have hx : ¬ (48 ≤ C (a + 4) ∧ C (a + 4) ≤ 57) := fun q => d4 (decide_eq_true ⟨h, q⟩)
              exact (if_neg (by omega)).trans (if_neg (by omega))
            · show ¬ nEnd (nSt C (a + 4))
              rw [s4]; unfold nEnd; decide
        · rw [if_neg d3]
          refine ⟨⟨by omega, by show a + 3 ≤ n; omega⟩, fun j h1 h2 => ?_, fun _ => ⟨fun h => ?_, ?_⟩, fun h => by cases h⟩
          · obtain e | e | e : j = a ∨ j = a + 1 ∨ j = a + 2 := by have h3 : j < a + 3 := h2; omega
            all_goals (rw [e]; first | rw [s1] | rw [s2] | rw [s3]); all_goals decide
          · show nSt C (a + 3 + 1) = 13
            rw [nSt_s, s3]
            exact if_neg (fun q => d3 (decide_eq_true ⟨h, q⟩))
          · show ¬ nEnd (nSt C (a + 3))
            rw [s3]; unfold nEnd; decide
      · rw [if_neg d2]
        refine ⟨⟨by omega, by show a + 2 ≤ n; omega⟩, fun j h1 h2 => ?_, fun _ => ⟨fun h => ?_, ?_⟩, fun h => by cases h⟩
        · obtain e | e : j = a ∨ j = a + 1 := by have h3 : j < a + 2 := h2; omega
          all_goals (rw [e]; first | rw [s1] | rw [s2]); all_goals decide
        · show nSt C (a + 2 + 1) = 13
          rw [nSt_s, s2]
          exact if_neg (fun q => d2 (decide_eq_true ⟨h, q⟩))
        · show ¬ nEnd (nSt C (a + 2))
          rw [s2]; unfold nEnd; decide
  · rw [if_neg d1]
    refine ⟨⟨by omega, by show a + 1 ≤ n; omega⟩, fun j h1 h2 => ?_, fun _ => ⟨fun h => ?_, ?_⟩, fun h => by cases h⟩
    · obtain e : j = a := by have h3 : j < a + 1 := h2; omega
      rw [e, s1]; decide
    · show nSt C (a + 1 + 1) = 13
      rw [nSt_s, s1]
      exact if_neg (fun q => d1 (decide_eq_true ⟨h, q⟩))
    · show ¬ nEnd (nSt C (a + 1))
      rw [s1]; unfold nEnd; decide
theorem pX_spec (ha : a < n) (h0 : nSt C a = 0) (hc : C a = 120) : pSpec C n a (pX C n a) := by
  have s1 : nSt C (a + 1) = 11 := by rw [nSt_s, h0, hc]; rfl
  unfold pX
  by_cases d1 : dg C n 48 55 (a + 1) = true
  · rw [if_pos d1]
    have e1 := of_decide_eq_true d1
    have s2 : nSt C (a + 2) = 12 := by rw [nSt_s, s1]; exact if_pos e1.2
    refine ⟨⟨by omega, by show a + 2 ≤ n; omega⟩, fun j h1 h2 => ?_, fun h => (by cases h), fun _ => ⟨Or.inr (Or.inr s2), fun h => ?_, Nat.le_refl _, fun j h1 h2 => ?_⟩⟩
    · obtain e | e : j = a ∨ j = a + 1 := by have h3 : j < a + 2 := h2; omega
      all_goals (rw [e]; first | rw [s1] | rw [s2]); all_goals decide
    · show nSt C (a + 2 + 1) = _
      rw [nSt_s, s2]
      rfl
    · have h3 : j < a + 2 := h2
      obtain e | e : j = a ∨ j = a + 1 := by omega
      all_goals (rw [e]; omega)
  · rw [if_neg d1]
    refine ⟨⟨by omega, by show a + 1 ≤ n; omega⟩, fun j h1 h2 => ?_, fun _ => ⟨fun h => ?_, ?_⟩, fun h => by cases h⟩
    · obtain e : j = a := by have h3 : j < a + 1 := h2; omega
      rw [e, s1]; decide
    · show nSt C (a + 1 + 1) = 13
      rw [nSt_s, s1]
      exact if_neg (fun q => d1 (decide_eq_true ⟨h, q⟩))
    · show ¬ nEnd (nSt C (a + 1))
      rw [s1]; unfold nEnd; decide
theorem pO_spec (ha : a ≤ n) (h0 : nSt C a = 0) : pSpec C n a (pO C n a) := by
  unfold pO
  by_cases c1 : ch C n 115 a = true
  · rw [if_pos c1]
    have e := of_decide_eq_true c1
    exact pS_spec e.1 h0 e.2
  · rw [if_neg c1]
    by_cases c2 : ch C n 114 a = true
    · rw [if_pos c2]
      have e := of_decide_eq_true c2
      exact pR_spec e.1 h0 e.2
    · rw [if_neg c2]
      by_cases c3 : ch C n 120 a = true
      · rw [if_pos c3]
        have e := of_decide_eq_true c3
        exact pX_spec e.1 h0 e.2
      · rw [if_neg c3]
        refine ⟨⟨Nat.le_refl _, ha⟩, fun j h1 h2 => absurd h2 (Nat.not_lt.mpr h1), fun _ => ⟨fun h => ?_, ?_⟩, fun h => by cases h⟩
        · show nSt C (a + 1) = 13
          rw [nSt_s, h0]
          exact (if_neg (fun q => c1 (decide_eq_true ⟨h, q⟩))).trans ((if_neg (fun q => c2 (decide_eq_true ⟨h, q⟩))).trans (if_neg (fun q => c3 (decide_eq_true ⟨h, q⟩))))
        · show ¬ nEnd (nSt C a)
          rw [h0]; unfold nEnd; decide
/-- the whole text read: where it breaks, if it does -/
def pE (C : Nat → Nat) (n : Nat) : Nat → Nat → Option Nat
  | 0, a => some a
  | k + 1, a => if (pO C n a).2 then (if (pO C n a).1 = n then none else if C (pO C n a).1 = 59 then pE C n k ((pO C n a).1 + 1) else some (pO C n a).1) else some (pO C n a).1
def pESpec (C : Nat → Nat) (n a : Nat) (q : Option Nat) : Prop := match q with
  | none => nEnd (nSt C n) ∧ ∀ j, a ≤ j → j < n → nSt C (j + 1) ≠ 13
  | some e => (a ≤ e ∧ e ≤ n) ∧ (∀ j, a ≤ j → j < e → nSt C (j + 1) ≠ 13) ∧ ((e < n ∧ nSt C (e + 1) = 13) ∨ (e = n ∧ ¬ nEnd (nSt C n)))
theorem pE_spec : ∀ k a, a ≤ n → n < a + k → nSt C a = 0 → pESpec C n a (pE C n k a)
  | 0, a, h1, h2, _ => absurd h2 (by omega)
  | k + 1, a, h1, h2, h0 => by
    obtain ⟨⟨b1, b2⟩, b3, b4, b5⟩ := pO_spec h1 h0
    unfold pE
    cases hq : (pO C n a).2
    · rw [if_neg (by decide)]
      obtain ⟨f1, f2⟩ := b4 hq
      refine ⟨⟨b1, b2⟩, b3, ?_⟩
      by_cases l : (pO C n a).1 < n
      · exact Or.inl ⟨l, f1 l⟩
      · have e : (pO C n a).1 = n := by omega
        rw [e] at f2
        exact Or.inr ⟨e, f2⟩
    · rw [if_pos rfl]
      obtain ⟨f1, f2, f3, _⟩ := b5 hq
      by_cases l : (pO C n a).1 = n
      · rw [if_pos l]
        rw [l] at f1 b3
        exact ⟨f1, b3⟩
      · rw [if_neg l]
        have l2 : (pO C n a).1 < n := by omega
        by_cases c : C (pO C n a).1 = 59
        · rw [if_pos c]
          have z := f2 l2
          rw [if_pos c] at z
          have ih := pE_spec k ((pO C n a).1 + 1) (by omega) (by omega) z
          have b6 : ∀ j, a ≤ j → j < (pO C n a).1 + 1 → nSt C (j + 1) ≠ 13 := fun j h1 h2 => by
            by_cases y : j = (pO C n a).1
            · rw [y, z]; decide
            · exact b3 j h1 (by omega)
          cases hp : pE C n k ((pO C n a).1 + 1) with
          | none =>
            rw [hp] at ih
            exact ⟨ih.1, fun j h1 h2 => by
              by_cases y : j < (pO C n a).1 + 1
              · exact b6 j h1 y
              · exact ih.2 j (by omega) h2⟩
          | some e =>
            rw [hp] at ih
            exact ⟨⟨by have := ih.1.1; omega, ih.1.2⟩, fun j h1 h2 => by
              by_cases y : j < (pO C n a).1 + 1
              · exact b6 j h1 y
              · exact ih.2.1 j (by omega) h2, ih.2.2⟩
        · rw [if_neg c]
          have z := f2 l2
          rw [if_neg c] at z
          exact ⟨⟨b1, b2⟩, b3, Or.inl ⟨l2, z⟩⟩
/-! the class's automaton is this one -/
theorem tIn_n {a l u : Nat} (ha : a < 1000) (hl : l < 1000) (hu : u < 1000) : tIn (nI a) (nI l) (nI u) = decide (l ≤ a ∧ a ≤ u) := by
  unfold tIn
  rw [Bool.eq_iff_iff, Bool.and_eq_true, decide_eq_true_eq, decide_eq_true_eq, decide_eq_true_eq, nI_leI (by omega) (by omega), nI_leI (by omega) (by omega)]
theorem if_dec {α : Type} {p q : Prop} {dp : Decidable p} {dq : Decidable q} {x y : α} (h : p ↔ q) : (if p then x else y) = (if q then x else y) := by
  by_cases a : p
  · rw [if_pos a, if_pos (h.mp a)]
  · rw [if_neg a, if_neg (fun z => a (h.mpr z))]
theorem tPl_n {c q : Nat} (hc : c < 1000) (hq : q < 1000) (p : Nat) : tPl p (nI c) (nI q) = nPl p c q := by
  have E : ∀ k, k < 1000 → (nI c = nI k ↔ c = k) := fun k hk => nI_eq (by omega) (by omega)
  have I : ∀ l u, l < 1000 → u < 1000 → ((tIn (nI c) (nI l) (nI u) = true) ↔ (l ≤ c ∧ c ≤ u)) := fun l u hl hu => by rw [tIn_n hc hl hu, decide_eq_true_eq]
  have O : tOrd (nI c) = nOrd c := if_dec (E 59 (by decide))
  have F : tFst (nI c) = nFst c := by
    unfold tFst nFst
    rw [if_dec (E 48 (by decide)), if_dec (I 49 57 (by decide) (by decide))]
  have L : tLet (nI c) = nLet c := by
    unfold tLet nLet
    rw [if_dec (E 115 (by decide)), if_dec (E 114 (by decide)), if_dec (E 120 (by decide))]
  match p with
  | 0 => exact L
  | 1 => exact if_dec (I 48 55 (by decide) (by decide))
  | 2 => exact if_dec (E 62 (by decide))
  | 3 => exact if_dec (I 48 51 (by decide) (by decide))
  | 4 => show (if nI c = nI 42 then 5 else tOrd (nI c)) = _; rw [O]; exact if_dec (E 42 (by decide))
  | 5 => exact if_dec (I 50 57 (by decide) (by decide))
  | 6 => exact if_dec (I 48 55 (by decide) (by decide))
  | 7 => show (if tIn (nI c) (nI 48) (nI 55) then (if nI c = nI q then 13 else 8) else 13) = _; rw [if_dec (E q hq)]; exact if_dec (I 48 55 (by decide) (by decide))
  | 8 => exact if_dec (E 61 (by decide))
  | 9 => exact F
  | 10 => show (if tIn (nI c) (nI 48) (nI 57) then 12 else tOrd (nI c)) = _; rw [O]; exact if_dec (I 48 57 (by decide) (by decide))
  | 11 => exact if_dec (I 48 55 (by decide) (by decide))
  | 12 => exact O
  | p + 13 => rfl
theorem tSt_n {T : Nat → Int32} (hT : ∀ j, j < n → T j = nI (C j) ∧ C j < 1000) : ∀ j, j ≤ n → tSt T j = nSt C j
  | 0, _ => rfl
  | j + 1, hj => by
    have ih := tSt_n hT j (by omega)
    obtain ⟨e1, e2⟩ := hT j (by omega)
    show tPl (tSt T j) (T j) (tPv T j) = nPl (nSt C j) (C j) (nPv C j)
    rw [ih, e1]
    cases j with
    | zero => exact tPl_n (q := 0) e2 (by decide) _
    | succ i =>
      obtain ⟨f1, f2⟩ := hT i (by omega)
      show tPl (nSt C (i + 1)) (nI (C (i + 1))) (T i) = _
      rw [f1]
      exact tPl_n e2 f2 _
theorem nSt_13 {j : Nat} (h : nSt C j = 13) : ∀ k, nSt C (j + k) = 13
  | 0 => h
  | k + 1 => by
    show nPl (nSt C (j + k)) _ _ = 13
    rw [nSt_13 h k]
    rfl
theorem tFF_n {T : Nat → Int32} (hT : ∀ j, j < n → T j = nI (C j) ∧ C j < 1000) : ∀ k j e, j + k = n → j ≤ e → e ≤ n → (∀ i, j ≤ i → i < e → nSt C (i + 1) ≠ 13) → (e < n → nSt C (e + 1) = 13) → tFF T k j = e
  | 0, j, e, h1, h2, h3, _, _ => by
    show j = e
    omega
  | k + 1, j, e, h1, h2, h3, h4, h5 => by
    have e1 : tFF T (k + 1) j = if tSt T (j + 1) = 13 then j else tFF T k (j + 1) := rfl
    rw [e1, tSt_n hT (j + 1) (by omega)]
    by_cases l : j = e
    · rw [l, if_pos (h5 (by omega))]
    · rw [if_neg (h4 j (Nat.le_refl _) (by omega))]
      exact tFF_n hT k (j + 1) e (by omega) (by omega) h3 (fun i a b => h4 i (by omega) b) h5
/-- the first fault of the class and the break of the reader -/
theorem tFF_pE {T : Nat → Int32} (hT : ∀ j, j < n → T j = nI (C j) ∧ C j < 1000) : tFF T n 0 = (pE C n (n + 1) 0).getD n := by
  have h := pE_spec (C := C) (n := n) (n + 1) 0 (Nat.zero_le _) (by omega) rfl
  cases hp : pE C n (n + 1) 0 with
  | none =>
    rw [hp] at h
    exact tFF_n hT n 0 n (Nat.zero_add n) (Nat.zero_le _) (Nat.le_refl _) h.2 (fun z => absurd z (Nat.lt_irrefl _))
  | some e =>
    rw [hp] at h
    obtain ⟨⟨_, g1⟩, g2, g3⟩ := h
    refine tFF_n hT n 0 e (Nat.zero_add n) (Nat.zero_le _) g1 g2 (fun z => ?_)
    rcases g3 with g3 | g3
    · exact g3.2
    · omega
theorem tDay_pE {T : Nat → Int32} (hT : ∀ j, j < n → T j = nI (C j) ∧ C j < 1000) : tDay T n = (pE C n (n + 1) 0).isNone := by
  have h := pE_spec (C := C) (n := n) (n + 1) 0 (Nat.zero_le _) (by omega) rfl
  have e0 : tDay T n = true ↔ nEnd (nSt C n) := by
    unfold tDay nEnd
    rw [tSt_n hT n (Nat.le_refl _), Bool.or_eq_true, Bool.or_eq_true, decide_eq_true_eq, decide_eq_true_eq, decide_eq_true_eq, or_assoc]
  cases hp : pE C n (n + 1) 0 with
  | none =>
    rw [hp] at h
    exact e0.mpr h.1
  | some e =>
    rw [hp] at h
    show tDay T n = false
    refine Bool.eq_false_iff.mpr (fun z => ?_)
    have z2 := e0.mp z
    rcases h.2.2 with g | g
    · have := nSt_13 g.2 (n - (e + 1))
      rw [show e + 1 + (n - (e + 1)) = n by omega] at this
      rw [this] at z2
      unfold nEnd at z2
      omega
    · exact g.2 z2
end TX

