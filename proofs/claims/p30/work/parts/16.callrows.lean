/-! Calls that give a value, calls that give none. -/
section GV
variable {w : zWp} {f : zMth} {d cr pc n : Nat} {lv stk : List zAV} {σ : zSt} {r : zRes} {σ' : zSt}
theorem g_cVv {g : zMth} {As rest : List zAV} {ix : Nat} {σ1 : zSt} {k i : Nat} {T : u_T} {N : Nat} {v : zAV} (hC : zC w g d (vR k i :: As) σ (.inl (some v)) σ1) (hd : decode f.2.1 pc = .ok (.invokevirtual ix, 3)) (hn : pc + 3 = n) (hkw : z_kwV f.1.cls ix g As.length) (hc : vwCl[k]? = some (g.1.cls, T, N)) (hk : k ≤ 10) (hl0 : z_live σ.1 k i) (hcat : (rest.map (fun v => if z_c2 v then 2 else 1)).sum ≤ 8) (hm : σ.1 ≤ σ1.1 ∧ σ1.1 ≤ σ'.1) (kk : zG w f (d + 1) cr n lv (v :: rest) σ1 r σ') (hst : As.reverse ++ vR k i :: rest = stk) : zG w f (d + 1) cr pc lv stk σ r σ' :=
  g_cVR hC hd hn hkw hc hk hl0 hcat hm kk hst
theorem g_cVn {g : zMth} {As rest : List zAV} {ix : Nat} {σ1 : zSt} {k i : Nat} {T : u_T} {N : Nat} (hC : zC w g d (vR k i :: As) σ (.inl none) σ1) (hd : decode f.2.1 pc = .ok (.invokevirtual ix, 3)) (hn : pc + 3 = n) (hkw : z_kwV f.1.cls ix g As.length) (hc : vwCl[k]? = some (g.1.cls, T, N)) (hk : k ≤ 10) (hl0 : z_live σ.1 k i) (hcat : (rest.map (fun v => if z_c2 v then 2 else 1)).sum ≤ 8) (hm : σ.1 ≤ σ1.1 ∧ σ1.1 ≤ σ'.1) (kk : zG w f (d + 1) cr n lv (rest) σ1 r σ') (hst : As.reverse ++ vR k i :: rest = stk) : zG w f (d + 1) cr pc lv stk σ r σ' :=
  g_cVR hC hd hn hkw hc hk hl0 hcat hm kk hst
theorem g_cSv {g : zMth} {As rest : List zAV} {ix : Nat} {σ1 : zSt} {v : zAV} (hC : zC w g d (As) σ (.inl (some v)) σ1) (hd : decode f.2.1 pc = .ok (.invokestatic ix, 3)) (hn : pc + 3 = n) (hkw : z_kwS f.1.cls ix g As.length) (hcat : (rest.map (fun v => if z_c2 v then 2 else 1)).sum ≤ 8) (hm : σ.1 ≤ σ1.1 ∧ σ1.1 ≤ σ'.1) (kk : zG w f (d + 1) cr n lv (v :: rest) σ1 r σ') (hst : As.reverse ++ rest = stk) : zG w f (d + 1) cr pc lv stk σ r σ' :=
  g_cSR hC hd hn hkw hcat hm kk hst
theorem g_cSn {g : zMth} {As rest : List zAV} {ix : Nat} {σ1 : zSt} (hC : zC w g d (As) σ (.inl none) σ1) (hd : decode f.2.1 pc = .ok (.invokestatic ix, 3)) (hn : pc + 3 = n) (hkw : z_kwS f.1.cls ix g As.length) (hcat : (rest.map (fun v => if z_c2 v then 2 else 1)).sum ≤ 8) (hm : σ.1 ≤ σ1.1 ∧ σ1.1 ≤ σ'.1) (kk : zG w f (d + 1) cr n lv (rest) σ1 r σ') (hst : As.reverse ++ rest = stk) : zG w f (d + 1) cr pc lv stk σ r σ' :=
  g_cSR hC hd hn hkw hcat hm kk hst
theorem g_cIv {g : zMth} {As rest : List zAV} {ix : Nat} {σ1 : zSt} {k i : Nat} {v : zAV} (hC : zC w g d (vR k i :: As) σ (.inl (some v)) σ1) (hd : decode f.2.1 pc = .ok (.invokespecial ix, 3)) (hn : pc + 3 = n) (hkw : z_kwI f.1.cls ix g As.length) (hcat : (rest.map (fun v => if z_c2 v then 2 else 1)).sum ≤ 8) (hm : σ.1 ≤ σ1.1 ∧ σ1.1 ≤ σ'.1) (kk : zG w f (d + 1) cr n lv (v :: rest) σ1 r σ') (hst : As.reverse ++ vR k i :: rest = stk) : zG w f (d + 1) cr pc lv stk σ r σ' :=
  g_cIR hC hd hn hkw hcat hm kk hst
theorem g_cIn {g : zMth} {As rest : List zAV} {ix : Nat} {σ1 : zSt} {k i : Nat} (hC : zC w g d (vR k i :: As) σ (.inl none) σ1) (hd : decode f.2.1 pc = .ok (.invokespecial ix, 3)) (hn : pc + 3 = n) (hkw : z_kwI f.1.cls ix g As.length) (hcat : (rest.map (fun v => if z_c2 v then 2 else 1)).sum ≤ 8) (hm : σ.1 ≤ σ1.1 ∧ σ1.1 ≤ σ'.1) (kk : zG w f (d + 1) cr n lv (rest) σ1 r σ') (hst : As.reverse ++ vR k i :: rest = stk) : zG w f (d + 1) cr pc lv stk σ r σ' :=
  g_cIR hC hd hn hkw hcat hm kk hst
theorem g_cSNv {g : zMth} {As rest : List zAV} {ix : Nat} {σ1 : zSt} {host : String} {v : zAV} (hC : zC w g d (As) σ (.inl (some v)) σ1) (hd : decode f.2.1 pc = .ok (.invokestatic ix, 3)) (hn : pc + 3 = n) (hkw : z_kwN f.1.cls ix g As.length host ∧ Cond.static g.1 ∈ zUW) (hcat : (rest.map (fun v => if z_c2 v then 2 else 1)).sum ≤ 8) (hm : σ.1 ≤ σ1.1 ∧ σ1.1 ≤ σ'.1) (kk : zG w f (d + 1) cr n lv (v :: rest) σ1 r σ') (hst : As.reverse ++ rest = stk) : zG w f (d + 1) cr pc lv stk σ r σ' :=
  g_cSNR hC hd hn hkw hcat hm kk hst
theorem g_cSNn {g : zMth} {As rest : List zAV} {ix : Nat} {σ1 : zSt} {host : String} (hC : zC w g d (As) σ (.inl none) σ1) (hd : decode f.2.1 pc = .ok (.invokestatic ix, 3)) (hn : pc + 3 = n) (hkw : z_kwN f.1.cls ix g As.length host ∧ Cond.static g.1 ∈ zUW) (hcat : (rest.map (fun v => if z_c2 v then 2 else 1)).sum ≤ 8) (hm : σ.1 ≤ σ1.1 ∧ σ1.1 ≤ σ'.1) (kk : zG w f (d + 1) cr n lv (rest) σ1 r σ') (hst : As.reverse ++ rest = stk) : zG w f (d + 1) cr pc lv stk σ r σ' :=
  g_cSNR hC hd hn hkw hcat hm kk hst
theorem g_cINv {g : zMth} {As rest : List zAV} {ix : Nat} {σ1 : zSt} {host : String} {k i : Nat} {v : zAV} (hC : zC w g d (vR k i :: As) σ (.inl (some v)) σ1) (hd : decode f.2.1 pc = .ok (.invokespecial ix, 3)) (hn : pc + 3 = n) (hkw : z_kwN f.1.cls ix g As.length host ∧ Cond.instanceMethod g.1 ∈ zUW ∧ g.1.name = "<init>" ∧ g.2.2.2.1 = none) (hcat : (rest.map (fun v => if z_c2 v then 2 else 1)).sum ≤ 8) (hm : σ.1 ≤ σ1.1 ∧ σ1.1 ≤ σ'.1) (kk : zG w f (d + 1) cr n lv (v :: rest) σ1 r σ') (hst : As.reverse ++ vR k i :: rest = stk) : zG w f (d + 1) cr pc lv stk σ r σ' :=
  g_cINR hC hd hn hkw hcat hm kk hst
theorem g_cINn {g : zMth} {As rest : List zAV} {ix : Nat} {σ1 : zSt} {host : String} {k i : Nat} (hC : zC w g d (vR k i :: As) σ (.inl none) σ1) (hd : decode f.2.1 pc = .ok (.invokespecial ix, 3)) (hn : pc + 3 = n) (hkw : z_kwN f.1.cls ix g As.length host ∧ Cond.instanceMethod g.1 ∈ zUW ∧ g.1.name = "<init>" ∧ g.2.2.2.1 = none) (hcat : (rest.map (fun v => if z_c2 v then 2 else 1)).sum ≤ 8) (hm : σ.1 ≤ σ1.1 ∧ σ1.1 ≤ σ'.1) (kk : zG w f (d + 1) cr n lv (rest) σ1 r σ') (hst : As.reverse ++ vR k i :: rest = stk) : zG w f (d + 1) cr pc lv stk σ r σ' :=
  g_cINR hC hd hn hkw hcat hm kk hst
theorem zG_r {r2 : zRes} {σ2 : zSt} (e1 : r = r2) (e2 : σ' = σ2) (h : zG w f d cr pc lv stk σ r2 σ2) : zG w f d cr pc lv stk σ r σ' := by subst e1; subst e2; exact h
end GV
/-- true and false as numbers -/
def zb (b : Bool) : Int32 := if b then 1 else 0
theorem zb_t : zb true = 1 := rfl
theorem zb_f : zb false = 0 := rfl
/-- 0 to n - 1 -/
def z_ok (x : Int32) (n : Nat) : Bool := decide (0 ≤ x) && decide (x < nI n)
theorem z_ok_nI {a n : Nat} (h : a < n) (hn : n < 2 ^ 31) : z_ok (nI a) n = true := by
  unfold z_ok
  rw [decide_eq_true (nI_pos' (by omega)), decide_eq_true (nI_lt h hn)]
  rfl
theorem z_ok_of {x : Int32} {n : Nat} (h : z_ok x n = true) (hn : n < 2 ^ 31) : ∃ a, a < n ∧ x = nI a := by
  unfold z_ok at h
  rw [Bool.and_eq_true, decide_eq_true_eq, decide_eq_true_eq] at h
  rcases pk_ix x hn with q | q | q
  · exact absurd h.1 (Int32.not_le.mpr q)
  · exact absurd h.2 (Int32.not_lt.mpr q)
  · obtain ⟨j, h1, h2⟩ := q
    exact ⟨j, h1, h2⟩
theorem z_ok_neg {x : Int32} {n : Nat} (h : x < 0) : z_ok x n = false := by
  unfold z_ok
  rw [decide_eq_false (Int32.not_le.mpr h)]
  rfl
theorem z_ok_ge {x : Int32} {n : Nat} (h : nI n ≤ x) : z_ok x n = false := by
  unfold z_ok
  rw [decide_eq_false (Int32.not_lt.mpr h), Bool.and_false]
theorem z_ok_in {x : Int32} {n : Nat} (h0 : ¬ x < 0) (h1 : ¬ nI n ≤ x) : z_ok x n = true := by
  unfold z_ok
  rw [decide_eq_true (Int32.not_lt.mp h0), decide_eq_true (Int32.not_le.mp h1)]
  rfl
