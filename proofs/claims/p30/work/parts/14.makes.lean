/-! Throws, new places, the library's own methods. -/
def z_en : List String := ["java/lang/RuntimeException", "java/lang/Exception"]
def z_exs : List (String × Nat × Nat) := [("java/lang/IllegalArgumentException", 153, 157), ("java/lang/IndexOutOfBoundsException", 132, 136), ("java/lang/IllegalStateException", 93, 97)]
theorem z_atG : ∀ q ∈ z_exs, ∀ w ∈ (vx_atS RX9 q.2.2 q.1 z_en).filter goodWord, w ∈ lw_tbl := by decide +kernel
theorem z_atB : ∀ q ∈ z_exs, ∀ w ∈ (vx_atS RX9 q.2.2 q.1 z_en).filter (fun w => !goodWord w), w ∈ Cond.castable q.1 q.1 :: z_dl.map Cond.declares := by decide +kernel
theorem z_atT : ∀ q ∈ z_exs, ∀ w ∈ Cond.classLink RX9 q.2.1 q.1 :: Cond.initialized q.1 :: vx_atS RX9 q.2.2 q.1 z_en, vx_ot w = true := by decide +kernel
theorem z_atK : ∀ q ∈ z_exs, Cond.classLink RX9 q.2.1 q.1 ∈ lw_tbl ∧ Cond.initialized q.1 ∈ lw_tbl ∧ goodWord (Cond.classLink RX9 q.2.1 q.1) = true ∧ goodWord (Cond.initialized q.1) = true ∧ Bundle.fit q.1 = true ∧ q.1 ∈ z_ex := by decide +kernel
theorem z_enF : ∀ n ∈ z_en, Bundle.fit n = true := by decide +kernel
section GM
variable {w : zWp} {f : zMth} {d cr pc n : Nat} {lv stk : List zAV} {r : zRes} {σ' : zSt} {nn : Nat} {Nl : Nat → Nat → Nat → Bool} {M : Nat → Nat → Nat → Int32} {O : Nat → Int64}
theorem z_at {p : Program} {l : Launch} {R : Room} {s : State} {m : MethodId} {args : Array Value} {meth : Method} {c : Code} (X : zX w f d p l R s m args meth c) {q : String × Nat × Nat} (hq : q ∈ z_exs) : ∀ w9 ∈ vx_atS RX9 q.2.2 q.1 z_en, w9.before args s = true := by
  refine vx_hat (B := Cond.castable q.1 q.1 :: z_dl.map Cond.declares) (fun w9 h => ?_) (z_atB q hq) (fun w9 h => ?_)
  · exact X.hts w9 (List.mem_filter.mpr ⟨z_atG q hq w9 h, (List.mem_filter.mp h).2⟩)
  · rcases List.mem_cons.mp h with h | h
    · rw [h]
      exact va_Nw.use rfl (X.nst.2.2.1 _ (z_atK q hq).2.2.2.2.2)
    · obtain ⟨x, hx, rfl⟩ := List.mem_map.mp h
      exact va_Nw.use rfl (X.nst.2.2.2.2.1 x hx)
theorem z_thrX {s t : State} {H : Heap} {locs : List Loc} {E : String} (hP : z_hp w (196, Nl, M, O) H) (hS : va_S (z_A w) s.heap H locs) (h1 : H.size ≤ t.heap.size) (h2 : ∀ q : Nat, q < H.size → t.heap[q]? = H[q]?) : z_X w (.inr E) (196, Nl, M, O) E s t :=
  ⟨rfl, ⟨hP.1.kept (fun k q hq => h2 q.1 ((hP.1 k q hq).lt)), hP.2.1, Nat.le_trans hP.2.2 h1⟩, fun h => absurd (show 196 < 196 from h) (Nat.lt_irrefl _), Nat.le_trans hS.1 h1, fun q a1 a2 => (h2 q (Nat.lt_of_lt_of_le a1 hS.1)).trans (hS.2.1 q a1 a2)⟩
theorem g_thr {q : String × Nat × Nat} {is sa : Nat} {text : String} (hq : q ∈ z_exs) (ho : f.1.cls = RX9) (htab : f.2.2.2.2 = []) (hs : (is, text) ∈ z_strs) (hd6 : 6 ≤ d) (hcat : (stk.map (fun v => if z_c2 v then 2 else 1)).sum ≤ 8)
    (d0 : decode f.2.1 pc = .ok (.new q.2.1, 3)) (d3 : decode f.2.1 (pc + 3) = .ok (.dup, 1)) (d4 : decode f.2.1 (pc + 4) = .ok (.ldc is, 2)) (d6 : decode f.2.1 (pc + 6) = .ok (.invokespecial q.2.2, 3)) (d9 : decode f.2.1 (pc + 9) = .ok (.athrow, 1))
    (e1 : r = .inr q.1) (e2 : σ' = (196, Nl, M, O)) (e3 : nn = 196) : zG w f d (cr + 1) pc lv stk (nn, Nl, M, O) r σ' := by
  intro p l e R s m args below meth c mc ms H locs cells slots ls X hl hP hS hB
  subst e1
  subst e2
  subst e3
  obtain ⟨sa, hsa⟩ := X.txt _ hs
  have hown := X.own
  rw [ho] at hown
  have hk := z_atK q hq
  have hc := z_cats (w := w) hcat
  have hf := X.frm
  have hlo := X.loc
  have b1 := hB.1
  have b2 := hB.2.1
  have b3 := hB.2.2.1
  have b4 := hB.2.2.2.1
  exact vx_throwS X.exec X.code X.tra hown hk.2.2.2.2.1 z_enF (X.hts _ (List.mem_filter.mpr ⟨hk.1, hk.2.2.1⟩)) (X.hts _ (List.mem_filter.mpr ⟨hk.2.1, hk.2.2.2.1⟩)) hsa (z_at X hq) (z_atT q hq) X.sta.1 X.sta.2.1 hS (hl.1.trans X.maxl.symm) d0 d3 d4 d6 d9
    (fun x hx => by rw [X.tab, htab] at hx; cases hx) (by show 2 + 3 < R.frames; omega) (by show _ + (13 * (2 + 1) + 43) ≤ R.locals; omega) (by omega) (by omega) X.lck (fun t _ h1 h2 => z_thrX hP hS h1 h2) hS.2.2 (by omega) (by omega)
theorem g_thrW {q : String × Nat × Nat} {is sa : Nat} {text : String} (hq : q ∈ z_exs) (ho : f.1.cls = RX9) (htab : f.2.2.2.2 = []) (hs : (is, text) ∈ z_strs) (hd6 : 6 ≤ d) (hcat : (stk.map (fun v => if z_c2 v then 2 else 1)).sum ≤ 8)
    (d0 : decode f.2.1 pc = .ok (.new q.2.1, 3)) (d3 : decode f.2.1 (pc + 3) = .ok (.dup, 1)) (d4 : decode f.2.1 (pc + 4) = .ok (.ldc_w is, 3)) (d7 : decode f.2.1 (pc + 7) = .ok (.invokespecial q.2.2, 3)) (d10 : decode f.2.1 (pc + 10) = .ok (.athrow, 1))
    (e1 : r = .inr q.1) (e2 : σ' = (196, Nl, M, O)) (e3 : nn = 196) : zG w f d (cr + 1) pc lv stk (nn, Nl, M, O) r σ' := by
  intro p l e R s m args below meth c mc ms H locs cells slots ls X hl hP hS hB
  subst e1
  subst e2
  subst e3
  obtain ⟨sa, hsa⟩ := X.txt _ hs
  have hown := X.own
  rw [ho] at hown
  have hk := z_atK q hq
  have hc := z_cats (w := w) hcat
  have hf := X.frm
  have hlo := X.loc
  have b1 := hB.1
  have b2 := hB.2.1
  have b3 := hB.2.2.1
  have b4 := hB.2.2.2.1
  exact vx_throwSW X.exec X.code X.tra hown hk.2.2.2.2.1 z_enF (X.hts _ (List.mem_filter.mpr ⟨hk.1, hk.2.2.1⟩)) (X.hts _ (List.mem_filter.mpr ⟨hk.2.1, hk.2.2.2.1⟩)) hsa (z_at X hq) (z_atT q hq) X.sta.1 X.sta.2.1 hS (hl.1.trans X.maxl.symm) d0 d3 d4 d7 d10
    (fun x hx => by rw [X.tab, htab] at hx; cases hx) (by show 2 + 3 < R.frames; omega) (by show _ + (13 * (2 + 1) + 43) ≤ R.locals; omega) (by omega) (by omega) X.lck (fun t _ h1 h2 => z_thrX hP hS h1 h2) hS.2.2 (by omega) (by omega)
/-! new places -/
theorem z_sl_at {k i : Nat} (h : z_LF nn = (k, i)) : z_sl (nn + 1) = z_sl nn + (if k ≤ 10 then (z_ft k).length else z_ln k i) := by
  unfold z_sl
  rw [List.range_succ, List.map_append, List.sum_append, List.map_cons, h]
  simp
/-- a place that is new lies just behind the others -/
theorem z_newq {p : Program} {l : Launch} {e : Env} {R : Room} {s T : State} {m : MethodId} {args : Array Value} {below : List Frame} {meth : Method} {c : Code} {H1 : Heap} {locs : List Loc} {cells slots q : Nat} {E : va_E}
    (XX : Stand p l e R s m args below meth c T locs (cells + 1) slots) (hT : T.heap = H1) (hz : s.heap.size + cells = w.2.2.1 + nn) (hP1 : va_P w.1 vwCl (z_ws w (nn, Nl, M, O) ++ [(q, E)]) H1) (hD1 : va_D (z_A w) (z_ws w (nn, Nl, M, O) ++ [(q, E)])) : q = w.2.2.1 + nn := by
  have hlen : (z_ws w (nn, Nl, M, O)).length = nn := by unfold z_ws; rw [List.length_map, List.length_range]
  have hlast : (z_ws w (nn, Nl, M, O) ++ [(q, E)])[nn]? = some (q, E) := by
    rw [List.getElem?_append_right (by omega), hlen]
    simp
  have h1 := (hP1 nn _ hlast).lt
  have h2 := XX.heapSize
  rw [hT] at h2
  have h3 : w.2.2.1 ≤ q := hD1.2 nn _ hlast
  rcases Nat.lt_or_ge q (w.2.2.1 + nn) with a | a
  · exfalso
    have h4 : (z_ws w (nn, Nl, M, O) ++ [(q, E)])[q - w.2.2.1]? = some (z_ent w (nn, Nl, M, O) (q - w.2.2.1)) := by
      rw [List.getElem?_append_left (by omega)]
      unfold z_ws
      rw [List.getElem?_map, List.getElem?_range (by show q - w.2.2.1 < nn; omega)]
      rfl
    have h5 := hD1.1 _ _ _ _ hlast h4 (by show q = w.2.2.1 + (q - w.2.2.1); omega)
    omega
  · have h6 : (q, E).1 = q := rfl
    rw [h6] at h1
    omega
theorem z_adrN {k i : Nat} (h : z_LF nn = (k, i)) (hn : nn < 196) : z_adr w k i = w.2.2.1 + nn := by
  unfold z_adr
  rw [← z_LFi hn h]
theorem z_bud1 {k i : Nat} {N1 : Nat → Nat → Nat → Bool} {M1 : Nat → Nat → Nat → Int32} {s : State} {cells slots mc ms sz : Nat} {R : Room} (hB : z_bud w (nn, Nl, M, O) σ' cr s cells slots mc ms R) (h : z_LF nn = (k, i)) (hn : nn < 196) (hm : nn + 1 ≤ σ'.1) (hsz : sz = if k ≤ 10 then (z_ft k).length else z_ln k i) :
    z_bud w (nn + 1, N1, M1, O) σ' cr s (cells + 1) (slots + sz) mc ms R ∧ cells + 1 ≤ R.cells ∧ slots + sz ≤ R.slots ∧ s.heap.size + cells = w.2.2.1 + nn := by
  obtain ⟨h1, h2, h3, h4, h5⟩ := hB
  have e1 := z_sl_at h
  rw [← hsz] at e1
  have a2 := z_sl_mono hm
  dsimp only at h1 h2 h5
  have h6 := h5 hn
  refine ⟨⟨?_, ?_, h3, h4, fun _ => ?_⟩, ?_, ?_, h6⟩
  · dsimp only; omega
  · dsimp only; omega
  · dsimp only; omega
  · omega
  · omega
theorem g_new {k i ix N : Nat} {C : String} {T : u_T} {ty0 : Nat → FieldType} (hd : decode f.2.1 pc = .ok (.new ix, 3)) (hn : pc + 3 = n) (hc : vwCl[k]? = some (C, T, N)) (hin : ∀ w ∈ u_ws C T N, w ∈ zUW) (hty : ∀ k, k < N → parseFieldDescriptor (T k).2.2.1 = some (ty0 k)) (hcl : Cond.classLink f.1.cls ix C ∈ zUW) (hins : Cond.instantiable C N ∈ zUW) (hini : Cond.initialized C ∈ zUW)
    (hk : k ≤ 10) (hN : N = (z_ft k).length) (hdf : ∀ j, j < N → defaultValue (ty0 j) = vp_V (z_flds w k i (fun _ => true) (fun _ => 0)) j) (hLF : z_LF nn = (k, i)) (h204 : nn < 196) (hm : nn + 1 ≤ σ'.1)
    (kk : zG w f d cr n lv (vR k i :: stk) (nn + 1, u2 Nl k i (fun _ => true), u2 M k i (fun _ => 0), O) r σ') : zG w f d cr pc lv stk (nn, Nl, M, O) r σ' := by
  intro p l e R s m args below meth c mc ms H locs cells slots ls X hl hP hS hB
  subst hn
  obtain ⟨b1, b2, b3, b4⟩ := z_bud1 (N1 := u2 Nl k i (fun _ => true)) (M1 := u2 M k i (fun _ => 0)) hB hLF h204 hm (sz := N) (by rw [if_pos hk]; exact hN)
  refine va_new X.exec X.code X.hts hin ty0 hty X.own (X.hts _ hcl) (X.hts _ hins) (X.hts _ hini) X.K hP.1 z_wsD hS X.hA hc hdf b2 b3 hd (fun q H1 hP1 hD1 hS1 => ?_)
  intro T0 hT XX
  have hq := z_newq XX hT b4 hP1 hD1
  subst hq
  have hp := z_push (w := w) (σ := (nn, Nl, M, O)) hLF h204 (fun _ => true) (fun _ => 0) _ (z_cel_obj hk).symm
  dsimp only at hp
  rw [hp] at hP1
  have k9 := kk p l e R s m args below meth c mc ms H1 locs _ _ ls X hl ⟨hP1, h204, Nat.le_trans X.bas hS1.1⟩ hS1 b1
  rw [List.map_cons, show z_tr w (vR k i) = Value.ref (w.2.2.1 + nn) from congrArg Value.ref (z_adrN hLF h204)] at k9
  exact k9 T0 hT XX
theorem g_newa {k i len t : Nat} {at9 : ArrayType} {x : Int32} {ty : FieldType} (hd : decode f.2.1 pc = .ok (.newarray at9, 2)) (hn : pc + 2 = n) (hw : Cond.arrayClass (newarray.typeOf at9) ∈ zUW) (hty9 : newarray.typeOf at9 = ty) (htys : (z_tys w)[t]? = some (w.2.1 t, ty)) (hno : ∀ C, ty ≠ .object C) (hdv : defaultValue ty = .int 0) (hcb : len * componentBytes ty ≤ 536870912) (hx : x = nI len) (hlen : len = z_ln k i) (hk : (10 < k ∧ k ≠ 29 ∧ k ≠ 38) ∧ z_tk k = t)
    (hcel : ∀ cA : ClassId, vp_cell cA (len, .inl (fun _ => 0)) = arrV cA len (fun _ => defaultValue ty)) (hLF : z_LF nn = (k, i)) (h204 : nn < 196) (hm : nn + 1 ≤ σ'.1)
    (kk : zG w f d cr n lv (vR k i :: stk) (nn + 1, u2 Nl k i (fun _ => true), u2 M k i (fun _ => 0), O) r σ') : zG w f d cr pc lv (vI x :: stk) (nn, Nl, M, O) r σ' := by
  intro p l e R s m args below meth c mc ms H locs cells slots ls X hl hP hS hB
  subst hn
  subst hx
  have hb := z_ln_le k i
  obtain ⟨b1, b2, b3, b4⟩ := z_bud1 (N1 := u2 Nl k i (fun _ => true)) (M1 := u2 M k i (fun _ => 0)) hB hLF h204 hm (sz := len) (by rw [if_neg (by omega)]; exact hlen)
  refine va_newa X.exec X.code (X.hts _ hw) hty9 X.K hP.1 z_wsD hS X.hA hcel (nI_pos (by omega)) (nI_clamp (by omega)) hcb b2 b3 hd (fun q cA H1 hK1 hP1 hD1 hS1 => ?_)
  have hcA : cA = w.2.1 t := by
    have h1 := (hK1.2 5 (cA, ty) rfl).2
    have h2 := (X.K.2 t _ htys).2
    dsimp only at h1 h2
    unfold va_RA at h1 h2
    cases ty <;> first | exact absurd rfl (hno _) | exact Option.some.inj (h1.symm.trans h2)
  subst hcA
  intro T0 hT XX
  have hq := z_newq XX hT b4 hP1 hD1
  subst hq
  have hp := z_push (w := w) (σ := (nn, Nl, M, O)) hLF h204 (fun _ => true) (fun _ => 0) (.inl (w.2.1 t, len, .inl (fun _ => 0))) (by rw [z_cel_num hk.1, hk.2, hlen])
  dsimp only at hp
  rw [hp] at hP1
  have k9 := kk p l e R s m args below meth c mc ms H1 locs _ _ ls X hl ⟨hP1, h204, Nat.le_trans X.bas hS1.1⟩ hS1 b1
  rw [List.map_cons, show z_tr w (vR k i) = Value.ref (w.2.2.1 + nn) from congrArg Value.ref (z_adrN hLF h204)] at k9
  exact k9 T0 hT XX
theorem g_anew {i ix len : Nat} {x : Int32} (hd : decode f.2.1 pc = .ok (.anewarray ix, 3)) (hn : pc + 3 = n) (hcl : Cond.classLink f.1.cls ix "LoafExits$Land" ∈ zUW) (hx : x = nI len) (hlen : len = z_ln 29 i) (hLF : z_LF nn = (29, i)) (h204 : nn < 196) (hm : nn + 1 ≤ σ'.1)
    (kk : zG w f d cr n lv (vR 29 i :: stk) (nn + 1, u2 Nl 29 i (fun _ => true), u2 M 29 i (fun _ => 0), O) r σ') : zG w f d cr pc lv (vI x :: stk) (nn, Nl, M, O) r σ' := by
  intro p l e R s m args below meth c mc ms H locs cells slots ls X hl hP hS hB
  subst hn
  subst hx
  have hb := z_ln_le 29 i
  obtain ⟨b1, b2, b3, b4⟩ := z_bud1 (N1 := u2 Nl 29 i (fun _ => true)) (M1 := u2 M 29 i (fun _ => 0)) hB hLF h204 hm (sz := len) (by rw [if_neg (by decide)]; exact hlen)
  refine va_newq X.exec X.code X.own (X.hts _ hcl) X.nst.2.2.2.2.2 X.K hP.1 z_wsD hS X.hA (nI_pos (by omega)) (nI_clamp (by omega)) (by omega) b2 b3 hd (fun q cA H1 hK1 hP1 hD1 hS1 => ?_)
  have hcA : cA = w.2.1 3 := by
    obtain ⟨kA, comp, h1, h2, h3, h4⟩ := (hK1.2 5 (cA, .object "LoafExits$Land") rfl).2
    obtain ⟨kB, comp2, g1, g2, g3, g4⟩ := (X.K.2 3 _ rfl).2
    exact Option.some.inj (h4.symm.trans g4)
  subst hcA
  intro T0 hT XX
  have hq := z_newq XX hT b4 hP1 hD1
  subst hq
  have hp := z_push (w := w) (σ := (nn, Nl, M, O)) hLF h204 (fun _ => true) (fun _ => 0) (.inl (w.2.1 3, len, .inr (.inr (.inr (.inr (fun _ => none)))))) (by rw [z_cel_lan, hlen]; rfl)
  dsimp only at hp
  rw [hp] at hP1
  have k9 := kk p l e R s m args below meth c mc ms H1 locs _ _ ls X hl ⟨hP1, h204, Nat.le_trans X.bas hS1.1⟩ hS1 b1
  rw [List.map_cons, show z_tr w (vR 29 i) = Value.ref (w.2.2.1 + nn) from congrArg Value.ref (z_adrN hLF h204)] at k9
  exact k9 T0 hT XX
theorem g_aast {i a j : Nat} {x : Int32} (hd : decode f.2.1 pc = .ok (.aastore, 1)) (hn : pc + 1 = n) (hl0 : z_live nn 29 i) (hl3 : z_live nn 3 j) (hx : x = nI a) (ha : a < z_ln 29 i) (hj : j = z_landOf i a)
    (kk : zG w f d cr n lv stk (nn, u3 Nl 29 i a false, M, O) r σ') : zG w f d cr pc lv (vR 3 j :: vI x :: vR 29 i :: stk) (nn, Nl, M, O) r σ' := by
  intro p l e R s m args below meth c mc ms H locs cells slots ls X hl hP hS hB
  subst hn
  subst hx
  subst hj
  have hb := z_ln_le 29 i
  refine va_astq (r := (RX3, TX3, 8)) X.exec X.code X.K hP.1 z_wsD hS (z_ix 29 i) 3 (z_ix 3 (z_landOf i a)) 3 (z_get (w := w) (σ := (nn, Nl, M, O)) hl0) rfl (z_obj (by decide) hl3) rfl (vp_in_nI ha (by omega)) hd (fun H1 locs1 hP1 hD1 hS1 => ?_)
  rw [nI_clamp (by omega)] at hP1
  have hh := z_wr (w := w) hP hl0 (nl := va_up (Nl 29 i) a false) (m2 := M 29 i) (by
    rw [z_cel_lan]
    refine congrArg (fun q : Nat → Option Nat => (Sum.inl (w.2.1 3, z_ln 29 i, Sum.inr (Sum.inr (Sum.inr (Sum.inr q)))) : va_E)) (funext fun b => ?_)
    unfold va_up
    dsimp only
    by_cases hba : b = a
    · rw [if_pos hba, if_pos hba, hba]; rfl
    · rw [if_neg hba, if_neg hba]) hP1 (Nat.le_trans X.bas hS1.1)
  rw [u3_eqb, u2_id] at hh
  exact kk p l e R s m args below meth c mc ms H1 locs1 cells slots ls X hl hh hS1 hB
theorem g_objI {ix k i : Nat} (hd : decode f.2.1 pc = .ok (.invokespecial ix, 3)) (hn : pc + 3 = n) (hlk : Cond.methodLink f.1.cls ix objectInit ∈ zUW) (hin : Cond.instanceMethod objectInit ∈ zUW) (hco : Cond.code objectInit ⟨#[0xb1]⟩ 1 none ∈ zUW) (hd1 : 1 ≤ d)
    (kk : zG w f d cr n lv stk (nn, Nl, M, O) r σ') (hst : stk = []) : zG w f d cr pc lv (vR k i :: stk) (nn, Nl, M, O) r σ' := by
  intro p l e R s m args below meth c mc ms H locs cells slots ls X hl hP hS hB
  subst hn
  subst hst
  have hf := X.frm
  have hlo := X.loc
  refine W.objInit X.exec X.code X.own (X.hts _ hlk) (X.hts _ hin) (X.hts _ hco) rfl (by rw [X.maxl]; exact hl.1) rfl hd (by omega) (by show 2 * 0 + 0 + 12 ≤ R.locals; omega) ?_
  exact kk p l e R s m args below meth c mc ms H locs cells slots ls X hl hP hS hB
/-! the library's own -/
theorem g_mmin {ix : Nat} {x y : Int32} (hd : decode f.2.1 pc = .ok (.invokestatic ix, 3)) (hn : pc + 3 = n) (hlk : Cond.methodLink f.1.cls ix Lib.Math.min.name ∈ zUW) (hst : Cond.static Lib.Math.min.name ∈ zUW) (hini : Cond.initialized "java/lang/Math" ∈ zUW) (hco : Cond.code Lib.Math.min.name Lib.Math.min.code 2 (some .int) ∈ zUW) (hd1 : 1 ≤ d) (hcat : (stk.map (fun v => if z_c2 v then 2 else 1)).sum ≤ 8)
    (kk : zG w f d cr n lv (vI (if y < x then y else x) :: stk) (nn, Nl, M, O) r σ') : zG w f d cr pc lv (vI y :: vI x :: stk) (nn, Nl, M, O) r σ' := by
  intro p l e R s m args below meth c mc ms H locs cells slots ls X hl hP hS hB
  subst hn
  have hf := X.frm
  have hlo := X.loc
  have hc := z_cats (w := w) hcat
  have b1 := hB.1
  have b2 := hB.2.1
  have b3 := hB.2.2.1
  have b4 := hB.2.2.2.1
  exact va_mmin X.exec X.code (X.maxl.trans hl.1.symm) X.own (X.hts _ hlk) (X.hts _ hst) (X.hts _ hini) (X.hts _ hco) (by omega) (by omega) (by omega) (by omega) hd (kk p l e R s m args below meth c mc ms H locs cells slots ls X hl hP hS hB)
theorem g_mmax {ix : Nat} {x y : Int32} (hd : decode f.2.1 pc = .ok (.invokestatic ix, 3)) (hn : pc + 3 = n) (hlk : Cond.methodLink f.1.cls ix Lib.Math.max.name ∈ zUW) (hst : Cond.static Lib.Math.max.name ∈ zUW) (hini : Cond.initialized "java/lang/Math" ∈ zUW) (hco : Cond.code Lib.Math.max.name Lib.Math.max.code 2 (some .int) ∈ zUW) (hd1 : 1 ≤ d) (hcat : (stk.map (fun v => if z_c2 v then 2 else 1)).sum ≤ 8)
    (kk : zG w f d cr n lv (vI (if x < y then y else x) :: stk) (nn, Nl, M, O) r σ') : zG w f d cr pc lv (vI y :: vI x :: stk) (nn, Nl, M, O) r σ' := by
  intro p l e R s m args below meth c mc ms H locs cells slots ls X hl hP hS hB
  subst hn
  have hf := X.frm
  have hlo := X.loc
  have hc := z_cats (w := w) hcat
  have b1 := hB.1
  have b2 := hB.2.1
  have b3 := hB.2.2.1
  have b4 := hB.2.2.2.1
  exact va_mmax X.exec X.code (X.maxl.trans hl.1.symm) X.own (X.hts _ hlk) (X.hts _ hst) (X.hts _ hini) (X.hts _ hco) (by omega) (by omega) (by omega) (by omega) hd (kk p l e R s m args below meth c mc ms H locs cells slots ls X hl hP hS hB)
theorem g_d2raw {ix : Nat} {x : UInt64} (hd : decode f.2.1 pc = .ok (.invokestatic ix, 3)) (hn : pc + 3 = n) (hlk : Cond.methodLink f.1.cls ix ⟨"java/lang/Double", "doubleToRawLongBits", "(D)J"⟩ ∈ zUW) (hnat : Cond.native ⟨"java/lang/Double", "doubleToRawLongBits", "(D)J"⟩ ∈ zUW) (hst : Cond.static ⟨"java/lang/Double", "doubleToRawLongBits", "(D)J"⟩ ∈ zUW) (hini : Cond.initialized "java/lang/Double" ∈ zUW) (hd1 : 1 ≤ d) (hcat : (stk.map (fun v => if z_c2 v then 2 else 1)).sum ≤ 8)
    (kk : zG w f d cr n lv (vJ x.toInt64 :: stk) (nn, Nl, M, O) r σ') : zG w f d cr pc lv (vD x :: stk) (nn, Nl, M, O) r σ' := by
  intro p l e R s m args below meth c mc ms H locs cells slots ls X hl hP hS hB
  subst hn
  have hf := X.frm
  have hlo := X.loc
  have hc := z_cats (w := w) hcat
  exact vn_d2l X.exec X.code (X.maxl.trans hl.1.symm) X.own (X.hts _ hlk) (X.hts _ hnat) (X.hts _ hst) (X.hts _ hini) (by omega) (by omega) hd (kk p l e R s m args below meth c mc ms H locs cells slots ls X hl hP hS hB)
/-- System.arraycopy of a whole row of ints -/
theorem g_acopy {ix k i k2 i2 len : Nat} {x : Int32} (hd : decode f.2.1 pc = .ok (.invokestatic ix, 3)) (hn : pc + 3 = n) (hlk : Cond.methodLink f.1.cls ix arraycopyName ∈ zUW) (hnat : Cond.native arraycopyName ∈ zUW) (hst : Cond.static arraycopyName ∈ zUW) (hini : Cond.initialized "java/lang/System" ∈ zUW) (hd1 : 1 ≤ d) (hcat : (stk.map (fun v => if z_c2 v then 2 else 1)).sum ≤ 8)
    (hk : (10 < k ∧ k ≠ 29 ∧ k ≠ 38) ∧ z_tk k = 0) (hk2 : (10 < k2 ∧ k2 ≠ 29 ∧ k2 ≠ 38) ∧ z_tk k2 = 0) (hl1 : z_live nn k i) (hl2 : z_live nn k2 i2) (hx : x = nI len) (h1 : len = z_ln k i) (h2 : len = z_ln k2 i2)
    (kk : zG w f d cr n lv stk (nn, Nl, u2 M k2 i2 (va_cpy (M k i) (M k2 i2) 0 0 len), O) r σ') : zG w f d cr pc lv (vI x :: vI 0 :: vR k2 i2 :: vI 0 :: vR k i :: stk) (nn, Nl, M, O) r σ' := by
  intro p l e R s m args below meth c mc ms H locs cells slots ls X hl hP hS hB
  subst hn
  subst hx
  have hf := X.frm
  have hlo := X.loc
  have hc := z_cats (w := w) hcat
  have hb := z_ln_le k i
  have hz : (0 : Int32).toNatClampNeg = 0 := rfl
  have hcl : (nI len).toNatClampNeg = len := nI_clamp (by omega)
  have hwd : nativeFrameWords "java/lang/System" "arraycopy" 5 ≤ 12 := by decide +kernel
  refine va_copyi X.exec X.code (X.maxl.trans hl.1.symm) X.own (X.hts _ hlk) (X.hts _ hnat) (X.hts _ hst) (X.hts _ hini) X.K hP.1 z_wsD hS (z_ix k i) (z_ix k2 i2) 0 0 (z_num hk.1 hl1) (z_num hk2.1 hl2) (by rw [hk.2]; rfl) (by rw [hk2.2]; rfl) rfl (by decide) (by decide) (nI_pos (by omega)) (by rw [hz, hcl]; omega) (by rw [hz, hcl]; omega) (fun _ _ => rfl) (by omega) (by omega) hd (fun H1 locs1 hP1 hD1 hS1 => ?_)
  rw [hz, hcl] at hP1
  have hh := z_wr (w := w) hP hl2 (nl := Nl k2 i2) (m2 := va_cpy (M k i) (M k2 i2) 0 0 len) (by rw [z_cel_num hk2.1]) hP1 (Nat.le_trans X.bas hS1.1)
  rw [u2_id] at hh
  exact kk p l e R s m args below meth c mc ms H1 locs1 cells slots ls X hl hh hS1 hB
end GM
