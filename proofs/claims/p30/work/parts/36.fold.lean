/-! The best exits: the class's one pass, and how each exit stands among the others. -/
def cnt (p : Nat → Bool) : Nat → Nat
  | 0 => 0
  | n + 1 => cnt p n + (if p n then 1 else 0)
theorem cnt_le (p : Nat → Bool) : ∀ n, cnt p n ≤ n
  | 0 => Nat.le_refl _
  | n + 1 => by
    have := cnt_le p n
    unfold cnt
    split <;> omega
theorem cnt_cong {p q : Nat → Bool} : ∀ {n : Nat}, (∀ k, k < n → p k = q k) → cnt p n = cnt q n
  | 0, _ => rfl
  | n + 1, h => by
    unfold cnt
    rw [cnt_cong (fun k hk => h k (by omega)), h n (by omega)]
theorem cnt_zero {p : Nat → Bool} : ∀ {n : Nat}, (∀ k, k < n → p k = false) → cnt p n = 0
  | 0, _ => rfl
  | n + 1, h => by
    unfold cnt
    rw [cnt_zero (fun k hk => h k (by omega)), h n (by omega)]
    rfl
theorem cnt_pos {p : Nat → Bool} : ∀ {n m : Nat}, m < n → p m = true → 0 < cnt p n
  | 0, _, h, _ => absurd h (by omega)
  | n + 1, m, h, hm => by
    unfold cnt
    by_cases e : m = n
    · subst e
      rw [hm, if_pos rfl]
      omega
    · have := cnt_pos (p := p) (n := n) (m := m) (by omega) hm
      omega
/-- none beyond s -/
theorem cnt_ext {p : Nat → Bool} {s : Nat} (h : ∀ k, s ≤ k → p k = false) : ∀ j, cnt p (s + j) = cnt p s
  | 0 => rfl
  | j + 1 => by
    show cnt p (s + j) + (if p (s + j) then 1 else 0) = _
    rw [cnt_ext h j, h (s + j) (by omega)]
    rfl
theorem sm_cnt {p : Nat → Bool} : ∀ n, sm (fun e => zb (p e)) n = nI (cnt p n)
  | 0 => rfl
  | n + 1 => by
    show sm (fun e => zb (p e)) n + zb (p n) = nI (cnt p n + (if p n then 1 else 0))
    rw [sm_cnt n]
    cases p n
    · exact Int32.add_zero _
    · exact nI_1 _
/-- the pass, in whole numbers -/
def nW (can : Nat → Bool) (f g : Nat → Nat) : Nat → Nat × Nat × Nat × Nat
  | 0 => (0, 0, 1000000, 1000000)
  | e + 1 =>
    let q := nW can f g e
    if can e then (if f e < q.2.2.1 ∨ (f e = q.2.2.1 ∧ g e < q.2.2.2) then (q.1 + 1, 1, f e, g e) else (q.1 + 1, q.2.1 + (if f e = q.2.2.1 ∧ g e = q.2.2.2 then 1 else 0), q.2.2.1, q.2.2.2)) else q
/-- an exit of the best -/
def nBe (can : Nat → Bool) (f g : Nat → Nat) (lf ls : Nat) (e : Nat) : Bool := can e && (decide (f e = lf) && decide (g e = ls))
def nSpec (can : Nat → Bool) (f g : Nat → Nat) (n : Nat) (q : Nat × Nat × Nat × Nat) : Prop :=
  q.1 = cnt can n ∧ q.2.1 = cnt (nBe can f g q.2.2.1 q.2.2.2) n ∧ (∀ k, k < n → can k = true → q.2.2.1 < f k ∨ (q.2.2.1 = f k ∧ q.2.2.2 ≤ g k)) ∧
  ((∃ m, m < n ∧ can m = true ∧ f m = q.2.2.1 ∧ g m = q.2.2.2) ∨ (q.2.2.1 = 1000000 ∧ q.2.2.2 = 1000000 ∧ ∀ k, k < n → can k = false)) ∧ q.2.2.1 ≤ 1000000 ∧ q.2.2.2 ≤ 1000000
theorem nW_spec {can : Nat → Bool} {f g : Nat → Nat} (hf : ∀ e, can e = true → f e < 1000000 ∧ g e < 1000000) : ∀ n, nSpec can f g n (nW can f g n)
  | 0 => ⟨rfl, rfl, fun k h _ => absurd h (by omega), Or.inr ⟨rfl, rfl, fun k h => absurd h (by omega)⟩, Nat.le_refl _, Nat.le_refl _⟩
  | n + 1 => by
    obtain ⟨h1, h2, h3, h4, h5, h6⟩ := nW_spec hf n
    obtain ⟨q, hq⟩ : ∃ q, q = nW can f g n := ⟨_, rfl⟩
    have e0 : nW can f g (n + 1) = if can n then (if f n < q.2.2.1 ∨ (f n = q.2.2.1 ∧ g n < q.2.2.2) then (q.1 + 1, 1, f n, g n) else (q.1 + 1, q.2.1 + (if f n = q.2.2.1 ∧ g n = q.2.2.2 then 1 else 0), q.2.2.1, q.2.2.2)) else q := by
      rw [hq]; rfl
    rw [← hq] at h1 h2 h3 h4 h5 h6
    rw [e0]
    cases hc : can n
    · rw [if_neg (by decide)]
      refine ⟨?_, ?_, ?_, ?_, h5, h6⟩
      · unfold cnt
        rw [hc, h1]; rfl
      · unfold cnt
        rw [show nBe can f g q.2.2.1 q.2.2.2 n = false by unfold nBe; rw [hc]; rfl, ← h2]; rfl
      · intro k hk hk2
        by_cases e : k = n
        · rw [e, hc] at hk2; cases hk2
        · exact h3 k (by omega) hk2
      · rcases h4 with ⟨m, hm, a, b, c⟩ | ⟨a, b, c⟩
        · exact Or.inl ⟨m, by omega, a, b, c⟩
        · refine Or.inr ⟨a, b, fun k hk => ?_⟩
          by_cases e : k = n
          · rw [e]; exact hc
          · exact c k (by omega)
    · rw [if_pos rfl]
      have hfn := hf n hc
      by_cases hl : f n < q.2.2.1 ∨ (f n = q.2.2.1 ∧ g n < q.2.2.2)
      · rw [if_pos hl]
        refine ⟨?_, ?_, ?_, Or.inl ⟨n, by omega, hc, rfl, rfl⟩, by show f n ≤ _; omega, by show g n ≤ _; omega⟩
        · show q.1 + 1 = cnt can n + _
          rw [hc, h1]; rfl
        · show 1 = cnt (nBe can f g (f n) (g n)) n + (if nBe can f g (f n) (g n) n then 1 else 0)
          rw [cnt_zero, show nBe can f g (f n) (g n) n = true by unfold nBe; rw [hc, decide_eq_true rfl, decide_eq_true rfl]; rfl]
          · rfl
          · intro k hk
            unfold nBe
            cases hck : can k
            · rfl
            · have := h3 k hk hck
              by_cases a : f k = f n
              · by_cases b : g k = g n
                · omega
                · rw [decide_eq_false b, Bool.and_false]; rfl
              · rw [decide_eq_false a]; rfl
        · intro k hk hk2
          show f n < f k ∨ (f n = f k ∧ g n ≤ g k)
          by_cases e : k = n
          · subst e
            exact Or.inr ⟨rfl, Nat.le_refl _⟩
          · have := h3 k (by omega) hk2
            omega
      · rw [if_neg hl]
        refine ⟨?_, ?_, ?_, ?_, h5, h6⟩
        · show q.1 + 1 = cnt can n + _
          rw [hc, h1]; rfl
        · show q.2.1 + (if f n = q.2.2.1 ∧ g n = q.2.2.2 then 1 else 0) = cnt (nBe can f g q.2.2.1 q.2.2.2) n + (if nBe can f g q.2.2.1 q.2.2.2 n then 1 else 0)
          rw [← h2]
          congr 1
          unfold nBe
          rw [hc]
          by_cases a : f n = q.2.2.1
          · by_cases b : g n = q.2.2.2
            · rw [if_pos ⟨a, b⟩, decide_eq_true a, decide_eq_true b]; rfl
            · rw [if_neg (fun z => b z.2), decide_eq_false b, Bool.and_false]; rfl
          · rw [if_neg (fun z => a z.1), decide_eq_false a]; rfl
        · intro k hk hk2
          show q.2.2.1 < f k ∨ (q.2.2.1 = f k ∧ q.2.2.2 ≤ g k)
          by_cases e : k = n
          · subst e
            omega
          · exact h3 k (by omega) hk2
        · rcases h4 with ⟨m, hm, a, b, c⟩ | ⟨a, b, c⟩
          · exact Or.inl ⟨m, by omega, a, b, c⟩
          · exfalso
            omega
theorem xles_nI {a b c d : Nat} (ha : a ≤ 1000000) (hb : b ≤ 1000000) (hc : c ≤ 1000000) (hd : d ≤ 1000000) : xles (nI a) (nI b) (nI c) (nI d) = decide (a < c ∨ (a = c ∧ b < d)) := by
  unfold xles
  rw [Bool.eq_iff_iff, Bool.or_eq_true, Bool.and_eq_true, decide_eq_true_eq, decide_eq_true_eq, decide_eq_true_eq, decide_eq_true_eq, nI_ltI (by omega) (by omega), nI_eq (by omega) (by omega), nI_ltI (by omega) (by omega)]
/-- the pass, in the machine's numbers -/
theorem kW_nW {can : Nat → Bool} {F S : Nat → Int32} {f g : Nat → Nat} (hf : ∀ e, can e = true → f e < 1000000 ∧ g e < 1000000) (hF : ∀ e, can e = true → F e = nI (f e) ∧ S e = nI (g e)) : ∀ n, kW can F S n = (nI (nW can f g n).1, nI (nW can f g n).2.1, nI (nW can f g n).2.2.1, nI (nW can f g n).2.2.2)
  | 0 => rfl
  | n + 1 => by
    have ih := kW_nW hf hF n
    obtain ⟨_, _, _, _, h5, h6⟩ := nW_spec hf n
    obtain ⟨q, hq⟩ : ∃ q, q = nW can f g n := ⟨_, rfl⟩
    obtain ⟨k, hk⟩ : ∃ k, k = kW can F S n := ⟨_, rfl⟩
    have e0 : nW can f g (n + 1) = if can n then (if f n < q.2.2.1 ∨ (f n = q.2.2.1 ∧ g n < q.2.2.2) then (q.1 + 1, 1, f n, g n) else (q.1 + 1, q.2.1 + (if f n = q.2.2.1 ∧ g n = q.2.2.2 then 1 else 0), q.2.2.1, q.2.2.2)) else q := by
      rw [hq]; rfl
    have e1 : kW can F S (n + 1) = if can n then (if xles (F n) (S n) k.2.2.1 k.2.2.2 then (k.1 + nI 1, nI 0 + nI 1, F n, S n) else (k.1 + nI 1, k.2.1 + zb (decide (F n = k.2.2.1) && decide (S n = k.2.2.2)), k.2.2.1, k.2.2.2)) else k := by
      rw [hk]; rfl
    rw [← hq] at ih h5 h6
    rw [← hk] at ih
    rw [e0, e1, ih]
    cases hc : can n
    · rfl
    · rw [if_pos rfl, if_pos rfl, (hF n hc).1, (hF n hc).2]
      have hfn := hf n hc
      show (if xles (nI (f n)) (nI (g n)) (nI q.2.2.1) (nI q.2.2.2) then _ else _) = _
      rw [xles_nI (by omega) (by omega) h5 h6]
      by_cases hl : f n < q.2.2.1 ∨ (f n = q.2.2.1 ∧ g n < q.2.2.2)
      · rw [decide_eq_true hl, if_pos rfl, if_pos hl, nI_add]
        rfl
      · rw [decide_eq_false hl, if_neg (by decide), if_neg hl]
        show (nI q.1 + nI 1, nI q.2.1 + zb (decide (nI (f n) = nI q.2.2.1) && decide (nI (g n) = nI q.2.2.2)), nI q.2.2.1, nI q.2.2.2) = (nI (q.1 + 1), nI (q.2.1 + (if f n = q.2.2.1 ∧ g n = q.2.2.2 then 1 else 0)), nI q.2.2.1, nI q.2.2.2)
        rw [nI_add, ← nI_add q.2.1]
        congr 2
        congr 1
        by_cases a : f n = q.2.2.1
        · by_cases b : g n = q.2.2.2
          · rw [if_pos ⟨a, b⟩, decide_eq_true (by rw [a]), decide_eq_true (by rw [b])]; rfl
          · rw [if_neg (fun z => b z.2), decide_eq_false (fun z => b ((nI_eq (by omega) (by omega)).mp z)), Bool.and_false]; rfl
        · rw [if_neg (fun z => a z.1), decide_eq_false (fun z => a ((nI_eq (by omega) (by omega)).mp z))]; rfl

