/-! Rows of the heap: fields, rows of numbers, calls, returns, throws. -/
def u3 {α : Type} (f : Nat → Nat → Nat → α) (k i j : Nat) (x : α) : Nat → Nat → Nat → α := fun a b c => if a = k ∧ b = i ∧ c = j then x else f a b c
theorem u3_eq (M : Nat → Nat → Nat → Int32) (k i j : Nat) (x : Int32) : u2 M k i (upd (M k i) j x) = u3 M k i j x := by
  funext a b c
  unfold u2 u3 upd
  by_cases h : a = k ∧ b = i
  · obtain ⟨rfl, rfl⟩ := h
    rw [if_pos ⟨rfl, rfl⟩]
    by_cases hc : c = j
    · rw [if_pos hc, if_pos ⟨rfl, rfl, hc⟩]
    · rw [if_neg hc, if_neg (fun q => hc q.2.2)]
  · rw [if_neg h, if_neg (fun q => h ⟨q.1, q.2.1⟩)]
theorem u3_eqb (N : Nat → Nat → Nat → Bool) (k i j : Nat) (x : Bool) : u2 N k i (va_up (N k i) j x) = u3 N k i j x := by
  funext a b c
  unfold u2 u3 va_up
  by_cases h : a = k ∧ b = i
  · obtain ⟨rfl, rfl⟩ := h
    rw [if_pos ⟨rfl, rfl⟩]
    by_cases hc : c = j
    · rw [if_pos hc, if_pos ⟨rfl, rfl, hc⟩]
    · rw [if_neg hc, if_neg (fun q => hc q.2.2)]
  · rw [if_neg h, if_neg (fun q => h ⟨q.1, q.2.1⟩)]
theorem u2_id {α : Type} (f : Nat → Nat → α) (k i : Nat) : u2 f k i (f k i) = f := by
  funext a b
  unfold u2
  by_cases h : a = k ∧ b = i
  · rw [if_pos h, h.1, h.2]
  · rw [if_neg h]
theorem z_cel_obj {w : zWp} {k i : Nat} {nl : Nat → Bool} {m : Nat → Int32} {o : Nat → Int64} (h : k ≤ 10) : z_cel w k i nl m o = .inr (k, z_flds w k i nl m) := if_pos h
theorem z_cel_num {w : zWp} {k i : Nat} {nl : Nat → Bool} {m : Nat → Int32} {o : Nat → Int64} (h : 10 < k ∧ k ≠ 29 ∧ k ≠ 38) : z_cel w k i nl m o = .inl (w.2.1 (z_tk k), z_ln k i, .inl m) := by
  unfold z_cel
  rw [if_neg (by omega), if_neg h.2.1, if_neg h.2.2]
theorem z_cel_lan {w : zWp} {i : Nat} {nl : Nat → Bool} {m : Nat → Int32} {o : Nat → Int64} : z_cel w 29 i nl m o = .inl (w.2.1 3, z_ln 29 i, .inr (.inr (.inr (.inr (fun j => if nl j then none else some (z_adr w 3 (z_landOf i j))))))) := rfl
theorem z_cel_lng {w : zWp} {i : Nat} {nl : Nat → Bool} {m : Nat → Int32} {o : Nat → Int64} : z_cel w 38 i nl m o = .inl (w.2.1 4, 1, .inr (.inl o)) := rfl
theorem z_fget {w : zWp} {k i j : Nat} {nl : Nat → Bool} {m : Nat → Int32} {fs : Option (Nat × Option Nat)} (hj : (z_ft k)[j]? = some fs) : (z_flds w k i nl m)[j]? = some (z_fv w i fs (nl j) (m j)) := by
  unfold z_flds
  rw [List.getElem?_mapIdx, hj]
  rfl
theorem z_flen {w : zWp} {k i : Nat} {nl : Nat → Bool} {m : Nat → Int32} : (z_flds w k i nl m).length = (z_ft k).length := by
  unfold z_flds
  rw [List.length_mapIdx]
theorem z_fset {w : zWp} {k i j : Nat} {nl nl2 : Nat → Bool} {m m2 : Nat → Int32} {fs : Option (Nat × Option Nat)} {v : Value} (hj : (z_ft k)[j]? = some fs) (hv : v = z_fv w i fs (nl2 j) (m2 j)) (hn : ∀ c, c ≠ j → nl2 c = nl c) (hm : ∀ c, c ≠ j → m2 c = m c) : (z_flds w k i nl m).set j v = z_flds w k i nl2 m2 := by
  refine List.ext_getElem? fun c => ?_
  rw [List.getElem?_set]
  by_cases hc : j = c
  · subst hc
    have hl : j < (z_flds w k i nl m).length := by
      rw [z_flen]
      exact (List.getElem?_eq_some_iff.mp hj).1
    rw [if_pos rfl, if_pos hl, z_fget hj, hv]
  · rw [if_neg hc]
    unfold z_flds
    rw [List.getElem?_mapIdx, List.getElem?_mapIdx, hn c (fun e => hc e.symm), hm c (fun e => hc e.symm)]
theorem z_ln_le (k i : Nat) : z_ln k i ≤ 1740 := by
  unfold z_ln
  split <;> first | omega | (split <;> omega)
section GH
variable {w : zWp} {f : zMth} {d cr pc n : Nat} {lv stk : List zAV} {r : zRes} {σ' : zSt} {nn : Nat} {Nl : Nat → Nat → Nat → Bool} {M : Nat → Nat → Nat → Int32} {O : Nat → Int64}
theorem z_obj {k i : Nat} (hk : k ≤ 10) (hl0 : z_live nn k i) : (z_ws w (nn, Nl, M, O))[z_ix k i]? = some (z_adr w k i, .inr (k, z_flds w k i (Nl k i) (M k i))) := (z_get (w := w) (σ := (nn, Nl, M, O)) hl0).trans (by rw [z_cel_obj hk])
theorem z_num {k i : Nat} (hk : 10 < k ∧ k ≠ 29 ∧ k ≠ 38) (hl0 : z_live nn k i) : (z_ws w (nn, Nl, M, O))[z_ix k i]? = some (z_adr w k i, .inl (w.2.1 (z_tk k), z_ln k i, .inl (M k i))) := (z_get (w := w) (σ := (nn, Nl, M, O)) hl0).trans (by rw [z_cel_num hk])
theorem g_get {k i j ix N : Nat} {C : String} {T : u_T} {fs : Option (Nat × Option Nat)} {v : zAV} (hd : decode f.2.1 pc = .ok (.getfield ix, 3)) (hn : pc + 3 = n) (hc : vwCl[k]? = some (C, T, N)) (hin : ∀ w ∈ u_ws C T N, w ∈ zUW) (hj : j < N)
    (hlk : Cond.fieldLink f.1.cls ix (T j).1 (T j).2.1 (T j).2.2.1 ∈ zUW) (hf : (z_ft k)[j]? = some fs) (hk : k ≤ 10) (hl0 : z_live nn k i) (hv : z_fv w i fs (Nl k i j) (M k i j) = z_tr w v)
    (kk : zG w f d cr n lv (v :: stk) (nn, Nl, M, O) r σ') : zG w f d cr pc lv (vR k i :: stk) (nn, Nl, M, O) r σ' := by
  intro p l e R s m args below meth c mc ms H locs cells slots ls X hl hP hS hB
  subst hn
  exact va_get X.exec X.code X.hts hin X.own X.K hP.1 (z_ix k i) (z_obj hk hl0) hc j hj (X.hts _ hlk) (fun _ h => h) ((z_fget hf).trans (congrArg some hv)) hd (kk p l e R s m args below meth c mc ms H locs cells slots ls X hl hP hS hB)
theorem g_getN {k i j ix N : Nat} {C host : String} {T : u_T} {fs : Option (Nat × Option Nat)} {v : zAV} (hd : decode f.2.1 pc = .ok (.getfield ix, 3)) (hn : pc + 3 = n) (hc : vwCl[k]? = some (C, T, N)) (hin : ∀ w ∈ u_ws C T N, w ∈ zUW) (hj : j < N)
    (hlk : (f.1.cls, ix, (T j).1, (T j).2.1, (T j).2.2.1, host) ∈ z_nF) (hf : (z_ft k)[j]? = some fs) (hk : k ≤ 10) (hl0 : z_live nn k i) (hv : z_fv w i fs (Nl k i j) (M k i j) = z_tr w v)
    (kk : zG w f d cr n lv (v :: stk) (nn, Nl, M, O) r σ') : zG w f d cr pc lv (vR k i :: stk) (nn, Nl, M, O) r σ' := by
  intro p l e R s m args below meth c mc ms H locs cells slots ls X hl hP hS hB
  subst hn
  exact va_getN X.exec X.code X.hts hin X.own X.K hP.1 (z_ix k i) (z_obj hk hl0) hc j hj (va_Nw.use rfl (X.nst.1 _ hlk)) (fun _ h => h) ((z_fget hf).trans (congrArg some hv)) hd (kk p l e R s m args below meth c mc ms H locs cells slots ls X hl hP hS hB)
/-- a write in place of what the place holds -/
theorem z_wr {k i : Nat} {nl : Nat → Bool} {m2 : Nat → Int32} {e : va_E} {H H1 : Heap} (hP : z_hp w (nn, Nl, M, O) H) (hl0 : z_live nn k i) (he : e = z_cel w k i nl m2 O) (hP1 : va_P w.1 vwCl ((z_ws w (nn, Nl, M, O)).set (z_ix k i) (z_adr w k i, e)) H1) (hz : w.2.2.1 ≤ H1.size) : z_hp w (nn, u2 Nl k i nl, u2 M k i m2, O) H1 := by
  have hset := z_set (w := w) (σ := (nn, Nl, M, O)) hl0 hP.2.1 nl m2 e he
  rw [hset] at hP1
  exact ⟨hP1, hP.2.1, hz⟩
theorem g_put {k i j ix N : Nat} {C : String} {T : u_T} {x : Int32} {ty0 : Nat → FieldType} (hd : decode f.2.1 pc = .ok (.putfield ix, 3)) (hn : pc + 3 = n) (hc : vwCl[k]? = some (C, T, N)) (hin : ∀ w ∈ u_ws C T N, w ∈ zUW) (hj : j < N)
    (hlk : Cond.fieldLink f.1.cls ix (T j).1 (T j).2.1 (T j).2.2.1 ∈ zUW) (hty : ∀ k, k < N → parseFieldDescriptor (T k).2.2.1 = some (ty0 k)) (hnm : ∀ a, a < N → ∀ b, b < N → a ≠ b → (T a).2.1 ≠ (T b).2.1) (hfin : (T j).2.2.2 = false) (hti : parseFieldDescriptor (T j).2.2.1 = some .int)
    (hf : (z_ft k)[j]? = some none) (hk : k ≤ 10) (hl0 : z_live nn k i)
    (kk : zG w f d cr n lv stk (nn, Nl, u3 M k i j x, O) r σ') : zG w f d cr pc lv (vI x :: vR k i :: stk) (nn, Nl, M, O) r σ' := by
  intro p l e R s m args below meth c mc ms H locs cells slots ls X hl hP hS hB
  subst hn
  have hq : (z_flds w k i (Nl k i) (M k i)).set j (.int x) = z_flds w k i (Nl k i) (upd (M k i) j x) := z_fset hf (by show _ = Value.int (upd (M k i) j x j); unfold upd; rw [if_pos rfl]) (fun _ _ => rfl) (fun c h => by unfold upd; rw [if_neg h])
  refine va_put X.exec X.code X.hts hin ty0 hty hnm X.own X.K hP.1 z_wsD hS (z_ix k i) (z_obj hk hl0) hc j hj (X.hts _ hlk) (fun _ h => h) hfin hti rfl rfl (by rw [z_flen]; exact (List.getElem?_eq_some_iff.mp hf).1) hd (fun H1 locs1 hP1 hD1 hS1 => ?_)
  have hh := z_wr (w := w) hP hl0 (nl := Nl k i) (m2 := upd (M k i) j x) (by rw [z_cel_obj hk]; exact congrArg (fun q => Sum.inr (k, q)) hq) hP1 (Nat.le_trans X.bas hS1.1)
  rw [u3_eq, u2_id] at hh
  exact kk p l e R s m args below meth c mc ms H1 locs1 cells slots ls X hl hh hS1 hB
/-- a final field that is a reference, in a constructor -/
theorem g_putF {k i j ix N k2 i2 : Nat} {C : String} {T : u_T} {o : Option Nat} {ty0 : Nat → FieldType} {ty : FieldType} (hd : decode f.2.1 pc = .ok (.putfield ix, 3)) (hn : pc + 3 = n) (hc : vwCl[k]? = some (C, T, N)) (hin : ∀ w ∈ u_ws C T N, w ∈ zUW) (hj : j < N)
    (hlk : Cond.fieldLink f.1.cls ix (T j).1 (T j).2.1 (T j).2.2.1 ∈ zUW) (hty : ∀ k, k < N → parseFieldDescriptor (T k).2.2.1 = some (ty0 k)) (hnm : ∀ a, a < N → ∀ b, b < N → a ≠ b → (T a).2.1 ≠ (T b).2.1) (hfin : (T j).2.2.2 = true) (hi9 : f.1.name = "<init>") (hdc : (T j).1 = f.1.cls) (hti : parseFieldDescriptor (T j).2.2.1 = some ty)
    (hnr : ∀ a : Nat, narrow ty (.ref a) = .ref a ∧ fits ty (.ref a) = true) (hf : (z_ft k)[j]? = some (some (k2, o))) (hi2 : i2 = o.getD i) (hk : k ≤ 10) (hl0 : z_live nn k i)
    (kk : zG w f d cr n lv stk (nn, u3 Nl k i j false, M, O) r σ') : zG w f d cr pc lv (vR k2 i2 :: vR k i :: stk) (nn, Nl, M, O) r σ' := by
  intro p l e R s m args below meth c mc ms H locs cells slots ls X hl hP hS hB
  subst hn
  subst hi2
  have hq : (z_flds w k i (Nl k i) (M k i)).set j (.ref (z_adr w k2 (o.getD i))) = z_flds w k i (va_up (Nl k i) j false) (M k i) := z_fset hf (by show _ = (if (va_up (Nl k i) j false j) then Value.null else _); rw [va_up_self]; rfl) (fun c h => va_up_ne _ _ h) (fun _ _ => rfl)
  refine va_putF X.exec X.code X.hts hin ty0 hty hnm X.own X.K hP.1 z_wsD hS (z_ix k i) (z_obj hk hl0) hc j hj (X.hts _ hlk) (fun _ h => h) hfin (X.ini hi9) hdc hti (hnr _).1 (hnr _).2 (by rw [z_flen]; exact (List.getElem?_eq_some_iff.mp hf).1) hd (fun H1 locs1 hP1 hD1 hS1 => ?_)
  have hh := z_wr (w := w) hP hl0 (nl := va_up (Nl k i) j false) (m2 := M k i) (by rw [z_cel_obj hk]; exact congrArg (fun q => Sum.inr (k, q)) hq) hP1 (Nat.le_trans X.bas hS1.1)
  rw [u3_eqb, u2_id] at hh
  exact kk p l e R s m args below meth c mc ms H1 locs1 cells slots ls X hl hh hS1 hB
theorem g_iald {k i a : Nat} {x : Int32} (hd : decode f.2.1 pc = .ok (.iaload, 1)) (hn : pc + 1 = n) (hk : (10 < k ∧ k ≠ 29 ∧ k ≠ 38) ∧ z_tk k = 0) (hl0 : z_live nn k i) (hx : x = nI a) (ha : a < z_ln k i)
    (kk : zG w f d cr n lv (vI (M k i a) :: stk) (nn, Nl, M, O) r σ') : zG w f d cr pc lv (vI x :: vR k i :: stk) (nn, Nl, M, O) r σ' := by
  intro p l e R s m args below meth c mc ms H locs cells slots ls X hl hP hS hB
  subst hn
  subst hx
  have hb := z_ln_le k i
  refine va_iald X.exec X.code X.K hP.1 (z_ix k i) 0 (z_num hk.1 hl0) (by rw [hk.2]; rfl) (vp_in_nI ha (by omega)) hd ?_
  rw [nI_clamp (by omega)]
  exact kk p l e R s m args below meth c mc ms H locs cells slots ls X hl hP hS hB
theorem g_zald {k i a : Nat} {x : Int32} (hd : decode f.2.1 pc = .ok (.baload, 1)) (hn : pc + 1 = n) (hk : (10 < k ∧ k ≠ 29 ∧ k ≠ 38) ∧ z_tk k = 1) (hl0 : z_live nn k i) (hx : x = nI a) (ha : a < z_ln k i)
    (kk : zG w f d cr n lv (vI (M k i a) :: stk) (nn, Nl, M, O) r σ') : zG w f d cr pc lv (vI x :: vR k i :: stk) (nn, Nl, M, O) r σ' := by
  intro p l e R s m args below meth c mc ms H locs cells slots ls X hl hP hS hB
  subst hn
  subst hx
  have hb := z_ln_le k i
  refine va_zald X.exec X.code X.K hP.1 (z_ix k i) 1 (z_num hk.1 hl0) (by rw [hk.2]; rfl) (vp_in_nI ha (by omega)) hd ?_
  rw [nI_clamp (by omega)]
  exact kk p l e R s m args below meth c mc ms H locs cells slots ls X hl hP hS hB
theorem g_aald {i a : Nat} {x : Int32} (hd : decode f.2.1 pc = .ok (.aaload, 1)) (hn : pc + 1 = n) (hl0 : z_live nn 29 i) (hx : x = nI a) (ha : a < z_ln 29 i) (hnl : Nl 29 i a = false)
    (kk : zG w f d cr n lv (vR 3 (z_landOf i a) :: stk) (nn, Nl, M, O) r σ') : zG w f d cr pc lv (vI x :: vR 29 i :: stk) (nn, Nl, M, O) r σ' := by
  intro p l e R s m args below meth c mc ms H locs cells slots ls X hl hP hS hB
  subst hn
  subst hx
  have hb := z_ln_le 29 i
  refine va_aldq X.exec X.code X.K hP.1 (z_ix 29 i) 3 (z_get (w := w) (σ := (nn, Nl, M, O)) hl0) rfl (vp_in_nI ha (by omega)) hd ?_
  rw [nI_clamp (by omega)]
  have e1 : va_rf (if Nl 29 i a then none else some (z_adr w 3 (z_landOf i a))) = z_tr w (vR 3 (z_landOf i a)) := by rw [hnl]; rfl
  dsimp only
  rw [e1]
  exact kk p l e R s m args below meth c mc ms H locs cells slots ls X hl hP hS hB
theorem g_iast {k i a : Nat} {x y : Int32} (hd : decode f.2.1 pc = .ok (.iastore, 1)) (hn : pc + 1 = n) (hk : (10 < k ∧ k ≠ 29 ∧ k ≠ 38) ∧ z_tk k = 0) (hl0 : z_live nn k i) (hx : x = nI a) (ha : a < z_ln k i)
    (kk : zG w f d cr n lv stk (nn, Nl, u3 M k i a y, O) r σ') : zG w f d cr pc lv (vI y :: vI x :: vR k i :: stk) (nn, Nl, M, O) r σ' := by
  intro p l e R s m args below meth c mc ms H locs cells slots ls X hl hP hS hB
  subst hn
  subst hx
  have hb := z_ln_le k i
  refine va_iast X.exec X.code X.K hP.1 z_wsD hS (z_ix k i) 0 (z_num hk.1 hl0) (by rw [hk.2]; rfl) (vp_in_nI ha (by omega)) hd (fun H1 locs1 hP1 hD1 hS1 => ?_)
  rw [nI_clamp (by omega)] at hP1
  have hh := z_wr (w := w) hP hl0 (nl := Nl k i) (m2 := upd (M k i) a y) (by rw [z_cel_num hk.1]) hP1 (Nat.le_trans X.bas hS1.1)
  rw [u3_eq, u2_id] at hh
  exact kk p l e R s m args below meth c mc ms H1 locs1 cells slots ls X hl hh hS1 hB
theorem g_zast {k i a : Nat} {x y : Int32} (hd : decode f.2.1 pc = .ok (.bastore, 1)) (hn : pc + 1 = n) (hk : (10 < k ∧ k ≠ 29 ∧ k ≠ 38) ∧ z_tk k = 1) (hl0 : z_live nn k i) (hx : x = nI a) (ha : a < z_ln k i) (hy : vp_nar .boolean y = y)
    (kk : zG w f d cr n lv stk (nn, Nl, u3 M k i a y, O) r σ') : zG w f d cr pc lv (vI y :: vI x :: vR k i :: stk) (nn, Nl, M, O) r σ' := by
  intro p l e R s m args below meth c mc ms H locs cells slots ls X hl hP hS hB
  subst hn
  subst hx
  have hb := z_ln_le k i
  refine va_zast X.exec X.code X.K hP.1 z_wsD hS (z_ix k i) 1 (z_num hk.1 hl0) (by rw [hk.2]; rfl) (vp_in_nI ha (by omega)) hd (fun H1 locs1 hP1 hD1 hS1 => ?_)
  rw [nI_clamp (by omega), hy] at hP1
  have hh := z_wr (w := w) hP hl0 (nl := Nl k i) (m2 := upd (M k i) a y) (by rw [z_cel_num hk.1]) hP1 (Nat.le_trans X.bas hS1.1)
  rw [u3_eq, u2_id] at hh
  exact kk p l e R s m args below meth c mc ms H1 locs1 cells slots ls X hl hh hS1 hB
theorem g_alen {k i : Nat} (hd : decode f.2.1 pc = .ok (.arraylength, 1)) (hn : pc + 1 = n) (hk : 10 < k) (hl0 : z_live nn k i)
    (kk : zG w f d cr n lv (vI (nI (z_ln k i)) :: stk) (nn, Nl, M, O) r σ') : zG w f d cr pc lv (vR k i :: stk) (nn, Nl, M, O) r σ' := by
  intro p l e R s m args below meth c mc ms H locs cells slots ls X hl hP hS hB
  subst hn
  by_cases h1 : k = 29
  · subst h1
    exact va_alen X.exec X.code X.K hP.1 (z_ix 29 i) 3 (z_get (w := w) (σ := (nn, Nl, M, O)) hl0) rfl rfl hd (kk p l e R s m args below meth c mc ms H locs cells slots ls X hl hP hS hB)
  · by_cases h2 : k = 38
    · subst h2
      exact va_alen X.exec X.code X.K hP.1 (z_ix 38 i) 4 (z_get (w := w) (σ := (nn, Nl, M, O)) hl0) rfl rfl hd (kk p l e R s m args below meth c mc ms H locs cells slots ls X hl hP hS hB)
    · have hty : ∃ ty, (z_tys w)[z_tk k]? = some (w.2.1 (z_tk k), ty) := by
        have hk2 : z_tk k = 0 ∨ z_tk k = 1 ∨ z_tk k = 2 ∨ z_tk k = 3 ∨ z_tk k = 4 := by unfold z_tk; split <;> simp
        rcases hk2 with h | h | h | h | h <;> rw [h] <;> exact ⟨_, rfl⟩
      obtain ⟨ty, hty⟩ := hty
      exact va_alen X.exec X.code X.K hP.1 (z_ix k i) (z_tk k) (z_num ⟨hk, h1, h2⟩ hl0) hty rfl hd (kk p l e R s m args below meth c mc ms H locs cells slots ls X hl hP hS hB)
/-- the law's script -/
theorem g_sld {x : Int32} {a : Nat} (hd : decode f.2.1 pc = .ok (.iaload, 1)) (hn : pc + 1 = n) (hx : x = nI a) (ha : a < w.2.2.2.2.1) (ha2 : a < 2 ^ 31) (hL : w.2.2.2.2.1 < 2 ^ 31)
    (kk : zG w f d cr n lv (vI (w.2.2.2.2.2 a) :: stk) (nn, Nl, M, O) r σ') : zG w f d cr pc lv (vI x :: .inl (.ref w.2.2.2.1) :: stk) (nn, Nl, M, O) r σ' := by
  intro p l e R s m args below meth c mc ms H locs cells slots ls X hl hP hS hB
  subst hn
  subst hx
  obtain ⟨hX, hb⟩ := X.scr
  refine va_sld X.exec X.code hX (Nat.lt_of_lt_of_le hb X.bas) (fun h => absurd hb (Nat.not_lt_of_le h)) hS (vp_in_nI ha hL) hd ?_
  rw [nI_clamp ha2]
  exact kk p l e R s m args below meth c mc ms H locs cells slots ls X hl hP hS hB
theorem g_slen (hd : decode f.2.1 pc = .ok (.arraylength, 1)) (hn : pc + 1 = n)
    (kk : zG w f d cr n lv (vI (nI w.2.2.2.2.1) :: stk) (nn, Nl, M, O) r σ') : zG w f d cr pc lv (.inl (.ref w.2.2.2.1) :: stk) (nn, Nl, M, O) r σ' := by
  intro p l e R s m args below meth c mc ms H locs cells slots ls X hl hP hS hB
  subst hn
  obtain ⟨hX, hb⟩ := X.scr
  exact va_slen X.exec X.code hX (Nat.lt_of_lt_of_le hb X.bas) (fun h => absurd hb (Nat.not_lt_of_le h)) hS hd (kk p l e R s m args below meth c mc ms H locs cells slots ls X hl hP hS hB)
end GH
