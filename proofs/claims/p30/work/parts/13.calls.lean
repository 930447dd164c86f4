/-! Calls, returns, throws, new places. -/
theorem z_sl_succ (n : Nat) : z_sl n ≤ z_sl (n + 1) := by
  unfold z_sl
  rw [List.range_succ, List.map_append, List.sum_append]
  omega
theorem z_sl_mono {a b : Nat} (h : a ≤ b) : z_sl a ≤ z_sl b := by
  induction b with
  | zero => rw [Nat.le_zero.mp h]; exact Nat.le_refl _
  | succ b ih =>
    rcases Nat.lt_or_ge a (b + 1) with q | q
    · exact Nat.le_trans (ih (by omega)) (z_sl_succ b)
    · rw [show a = b + 1 by omega]; exact Nat.le_refl _
section GC
variable {w : zWp} {f : zMth} {d cr pc n : Nat} {lv stk : List zAV} {σ : zSt} {r : zRes} {σ' : zSt}
section
variable {p : Program} {l : Launch} {e : Env} {R : Room} {s : State} {m : MethodId} {args : Array Value} {below : List Frame} {meth : Method} {c : Code} {H : Heap} {locs : List Loc} {cells slots : Nat} {Q : State → Prop} {ls : Array Slot}
theorem z_afterR {mc1 ms1 : Nat} {a9 : Array Value} {v : Option zAV} {σ1 : zSt} {rest st0 : List Value} (hr : vx_Run p l e R s m args below meth c H locs cells slots mc1 ms1 (F0 m pc ls st0) rest (z_Q w (.inl v) σ1 a9) (z_X w (.inl v) σ1) (z_A w)) (hS : va_S (z_A w) s.heap H locs)
    (kk : ∀ (H1 : Heap) (locs1 : List Loc), z_hp w σ1 H1 → va_S (z_A w) s.heap H1 locs1 → W p l e R s m args below meth c H1 locs1 (cells + mc1) (slots + ms1) Q (F0 m (pc + 3) ls ((v.map (z_tr w)).toList ++ rest))) : W p l e R s m args below meth c H locs cells slots Q (F0 m pc ls st0) := by
  intro T hT X
  rcases hr T hT X with ⟨v9, st₀, t, T', L, h0, X', hL, e1, e2, ⟨⟨v1, hv1, hv2⟩, hW, hZ, hF⟩, st⟩ | ⟨q, st₀, t, T', L, E, ce, h0, X', hL, e1, e2, ⟨hE, -, -, -⟩, hce, hcv, hcl, st⟩
  · cases hv1
    cases hv2
    obtain ⟨k1, k2, k3⟩ := vx_keep h0 e1 hS (fun q _ h => h) (fun q h => h) hL hF
    obtain ⟨t2, a1, b1⟩ := kk T'.heap (locs ++ L) (by rw [e1]; exact hW) k3 T' rfl X'
    exact ⟨t2, st t2 a1, b1⟩
  · cases hE
theorem z_afterT {mc1 ms1 mc ms : Nat} {a9 : Array Value} {E : String} {rest st0 : List Value} (hr : vx_Run p l e R s m args below meth c H locs cells slots mc1 ms1 (F0 m pc ls st0) rest (z_Q w (.inr E) σ' a9) (z_X w (.inr E) σ') (z_A w)) (hS : va_S (z_A w) s.heap H locs)
    (htab : c.exceptionTable.toList = []) (hlk : meth.locks = false) (hc : cells + mc1 ≤ mc) (hs : slots + ms1 ≤ ms) : W p l e R s m args below meth c H locs cells slots (vx_MQ below (z_Q w (.inr E) σ') (z_X w (.inr E) σ') args s mc ms (z_A w)) (F0 m pc ls st0) := by
  intro T hT X
  rcases hr T hT X with ⟨v9, st₀, t, T', L, h0, X', hL, e1, e2, ⟨⟨v1, hv1, hv2⟩, hW, hZ, hF⟩, st⟩ | ⟨q, st₀, t, T', L, E9, ce, h0, X', hL, e1, e2, ⟨hE, hW, hZ, hF⟩, hce, hcv, hcl, st⟩
  · cases hv1
  · cases hE
    obtain ⟨k1, k2, k3⟩ := vx_keep h0 e1 hS (fun q _ h => h) (fun q h => h) hL hF
    obtain ⟨t2, a1, b1⟩ := vx_out (rest := rest) (ls := ls) (pc := pc) (Qc := z_Q w (.inr E) σ') (XC := z_X w (.inr E) σ') (free := z_A w) (mc := mc) (ms := ms) (fun x hx => by rw [htab] at hx; cases hx) hlk (by rw [e1]; exact hce) hcv hcl
      (fun t3 h3 hv3 => ⟨rfl, by rw [h3, e1]; exact hW, by rw [h3, e1]; exact hZ, k3.F h3⟩) k3.2.2 hc hs T' rfl X'
    exact ⟨t2, st.trans a1, b1⟩
/-- thrown by a call, and taken by a row of the method's table -/
theorem z_afterH {mc1 ms1 : Nat} {a9 : Array Value} {E : String} {σ1 : zSt} {rest st0 : List Value} (hr : vx_Run p l e R s m args below meth c H locs cells slots mc1 ms1 (F0 m pc ls st0) rest (z_Q w (.inr E) σ1 a9) (z_X w (.inr E) σ1) (z_A w)) (hS : va_S (z_A w) s.heap H locs) {own : String} (hown : s.vm.findClass own = some m.cls)
    (pre : List ExceptionTableEntry) (x : ExceptionTableEntry) (suf : List ExceptionTableEntry) (hsplit : c.exceptionTable.toList = pre ++ x :: suf)
    (hpass : ∀ z ∈ pre, covers z pc = false ∨ (z.catchType ≠ 0 ∧ ∃ nm : String, (Cond.classLink own z.catchType nm).before args s = true ∧ va_Nc E nm s)) (hx : covers x pc = true) (h0 : x.catchType ≠ 0)
    (hlink : (Cond.classLink own x.catchType E).before args s = true) (hcast : (Cond.castable E E).before args s = true)
    (kk : ∀ (q : Nat) (H1 : Heap) (locs1 : List Loc), z_hp w σ1 H1 → va_S (z_A w) s.heap H1 locs1 → W p l e R s m args below meth c H1 locs1 (cells + mc1) (slots + ms1) Q (F0 m x.handlerPc ls [.ref q])) : W p l e R s m args below meth c H locs cells slots Q (F0 m pc ls st0) := by
  intro T hT X
  rcases hr T hT X with ⟨v9, st₀, t, T', L, h1, X', hL, e1, e2, ⟨⟨v1, hv1, hv2⟩, hW, hZ, hF⟩, st⟩ | ⟨q, st₀, t, T', L, E9, ce, h1, X', hL, e1, e2, ⟨hE, hW, hZ, hF⟩, hce, hcv, hcl, st⟩
  · cases hv1
  · cases hE
    obtain ⟨k1, k2, k3⟩ := vx_keep h1 e1 hS (fun q _ h => h) (fun q h => h) hL hF
    obtain ⟨t2, a1, b1⟩ := vx_catch (rest := rest) (ls := ls) (pc := pc) (Q := Q) (H := T'.heap) (locs := locs ++ L) (cells := cells + mc1) (slots := slots + ms1) hown pre x suf hsplit hpass hx h0 hlink hcast (by rw [e1]; exact hce) hcv hcl (kk q T'.heap (locs ++ L) (by rw [e1]; exact hW) k3) T' rfl X'
    exact ⟨t2, st.trans a1, b1⟩
end
/-! the words of a call -/
def z_kwB (own : String) (ix : Nat) (g : zMth) (k : Nat) : Prop := (Cond.methodLink own ix g.1 ∈ zUW ∧ Cond.initialized g.1.cls ∈ zUW ∧ z_codeW g ∈ zUW) ∧ g.2.2.2.2 = [] ∧ g.2.2.1 ≤ 13 ∧ g.1.cls ≠ "java/lang/invoke/MethodHandle" ∧ g.1.cls ≠ "java/lang/invoke/VarHandle" ∧ (parseMethodDescriptor g.1.desc).map (fun d => d.parameters.length) = some k
def z_kwV (own : String) (ix : Nat) (g : zMth) (k : Nat) : Prop := z_kwB own ix g k ∧ Cond.instanceMethod g.1 ∈ zUW ∧ Cond.selects g.1.cls g.1 g.1 ∈ zUW
def z_kwS (own : String) (ix : Nat) (g : zMth) (k : Nat) : Prop := z_kwB own ix g k ∧ Cond.static g.1 ∈ zUW
def z_kwI (own : String) (ix : Nat) (g : zMth) (k : Nat) : Prop := z_kwB own ix g k ∧ Cond.instanceMethod g.1 ∈ zUW ∧ g.1.name = "<init>" ∧ g.2.2.2.1 = none
def z_kwN (own : String) (ix : Nat) (g : zMth) (k : Nat) (host : String) : Prop := ((own, ix, g.1, host) ∈ z_nM ∧ Cond.initialized g.1.cls ∈ zUW ∧ z_codeW g ∈ zUW) ∧ g.2.2.2.2 = [] ∧ g.2.2.1 ≤ 13 ∧ g.1.cls ≠ "java/lang/invoke/MethodHandle" ∧ g.1.cls ≠ "java/lang/invoke/VarHandle" ∧ (parseMethodDescriptor g.1.desc).map (fun d => d.parameters.length) = some k
theorem z_goodC {g : zMth} (h : z_codeW g ∈ zUW) : GoodIn zUW (z_codeW g :: zUW) := fun w hw => (List.mem_cons.mp hw).elim (fun e => by rw [e]; exact z_good _ h) (fun h => z_good _ h)
theorem z_blind {av : List Value} {w : zWp} {σ : zSt} : FrameBlind (va_Pc av (z_Wd w σ)) := fun a U g mk q => ⟨q.1, z_Wd_blind q.2⟩
section
variable {p : Program} {l : Launch} {R : Room} {s : State} {m : MethodId} {args : Array Value} {meth : Method} {c : Code} {g : zMth} {mc1 ms1 k ix : Nat}
theorem z_CB (X : zX w f (d + 1) p l R s m args meth c) (h : z_kwB f.1.cls ix g k) : CallB R s args f.1.cls ix g.1 g.2.1 g.2.2.1 g.2.2.2.1 (z_codeW g :: zUW) ({ frames := d, cells := mc1, slots := ms1, locals := 32 * d } : Room) mc1 ms1 k := by
  obtain ⟨⟨h1, h2, h3⟩, h4, h5, h6, h7, h8⟩ := h
  have e : z_codeW g = .code g.1 g.2.1 g.2.2.1 g.2.2.2.1 := by unfold z_codeW; rw [h4]
  have hf := X.frm
  have hl := X.loc
  exact callB_of k X.hts (z_goodC h3) (by rw [e]) rfl rfl (X.hts _ h2) (X.hts _ h1) ⟨h6, h7, h8⟩ ⟨hf, by show 8 + (g.2.2.1 + 11) + 32 * d ≤ R.locals; omega⟩
theorem z_CN {host : String} (X : zX w f (d + 1) p l R s m args meth c) (h : z_kwN f.1.cls ix g k host) : va_CN R s args f.1.cls ix g.1 host g.2.1 g.2.2.1 g.2.2.2.1 (z_codeW g :: zUW) ({ frames := d, cells := mc1, slots := ms1, locals := 32 * d } : Room) mc1 ms1 k := by
  obtain ⟨⟨h1, h2, h3⟩, h4, h5, h6, h7, h8⟩ := h
  have e : z_codeW g = .code g.1 g.2.1 g.2.2.1 g.2.2.2.1 := by unfold z_codeW; rw [h4]
  have hf := X.frm
  have hl := X.loc
  exact va_cnB k X.hts (z_goodC h3) (by rw [e]) rfl rfl (X.nst.2.1 _ h1) (X.hts _ h2) ⟨h6, h7, h8⟩ ⟨hf, by show 8 + (g.2.2.1 + 11) + 32 * d ≤ R.locals; omega⟩
end
theorem z_bud2 {σ1 : zSt} {s : State} {cells slots mc ms : Nat} {R : Room} (hB : z_bud w σ σ' cr s cells slots mc ms R) (hm : σ.1 ≤ σ1.1 ∧ σ1.1 ≤ σ'.1) : z_bud w σ1 σ' cr s (cells + ((σ1.1 - σ.1) + 0)) (slots + ((z_sl σ1.1 - z_sl σ.1) + 6 * 0)) mc ms R ∧ cells + ((σ1.1 - σ.1) + 0) ≤ R.cells ∧ slots + ((z_sl σ1.1 - z_sl σ.1) + 6 * 0) ≤ R.slots := by
  obtain ⟨h1, h2, h3, h4, h5⟩ := hB
  have a1 := z_sl_mono hm.1
  have a2 := z_sl_mono hm.2
  exact ⟨⟨by omega, by omega, h3, h4, fun h => by have := h5 (by omega); omega⟩, by omega, by omega⟩
theorem z_bud3 {σ1 : zSt} {s : State} {cells slots mc ms : Nat} {R : Room} (hB : z_bud w σ σ' (cr + 1) s cells slots mc ms R) (hm : σ.1 ≤ σ1.1 ∧ σ1.1 ≤ σ'.1) (h204 : σ1.1 = 196) : z_bud w σ1 σ' cr s (cells + ((σ1.1 - σ.1) + 1)) (slots + ((z_sl σ1.1 - z_sl σ.1) + 6 * 1)) mc ms R ∧ cells + ((σ1.1 - σ.1) + 1) ≤ R.cells ∧ slots + ((z_sl σ1.1 - z_sl σ.1) + 6 * 1) ≤ R.slots := by
  obtain ⟨h1, h2, h3, h4, h5⟩ := hB
  have a1 := z_sl_mono hm.1
  have a2 := z_sl_mono hm.2
  exact ⟨⟨by omega, by omega, h3, h4, fun h => by omega⟩, by omega, by omega⟩
theorem z_objS {k i : Nat} (hk : k ≤ 10) (hl0 : z_live σ.1 k i) : (z_ws w σ)[z_ix k i]? = some (z_adr w k i, .inr (k, z_flds w k i (σ.2.1 k i) (σ.2.2.1 k i))) := (z_get (w := w) hl0).trans (by rw [z_cel_obj hk])
theorem z_cats {rest : List zAV} (h : (rest.map (fun v => if z_c2 v then 2 else 1)).sum ≤ 8) : ((rest.map (z_tr w)).map fun v => v.category).sum ≤ 8 := by
  have e : ((rest.map (z_tr w)).map fun v => v.category) = rest.map (fun v => if z_c2 v then 2 else 1) := by
    rw [List.map_map]
    refine List.map_congr_left fun v _ => ?_
    rcases v with x | q
    · cases x <;> rfl
    · rfl
  rw [e]
  exact h
theorem g_cVR {g : zMth} {As rest : List zAV} {ix : Nat} {σ1 : zSt} {k i : Nat} {T : u_T} {N : Nat} {v : Option zAV} (hC : zC w g d (vR k i :: As) σ (.inl v) σ1) (hd : decode f.2.1 pc = .ok (.invokevirtual ix, 3)) (hn : pc + 3 = n) (hkw : z_kwV f.1.cls ix g As.length) (hc : vwCl[k]? = some (g.1.cls, T, N)) (hk : k ≤ 10) (hl0 : z_live σ.1 k i) (hcat : (rest.map (fun v => if z_c2 v then 2 else 1)).sum ≤ 8) (hm : σ.1 ≤ σ1.1 ∧ σ1.1 ≤ σ'.1) (kk : zG w f (d + 1) cr n lv (v.toList ++ rest) σ1 r σ') (hst : As.reverse ++ vR k i :: rest = stk) : zG w f (d + 1) cr pc lv stk σ r σ' := by
  intro p l e R s m args below meth c mc ms H locs cells slots ls X hl hP hS hB
  subst hst
  subst hn
  intro T0 hT XX
  have hz := z_szOf XX hT hP hB
  obtain ⟨b1, b2, b3⟩ := z_bud2 hB hm
  have hr : vx_Run p l e R s m args below meth c H locs cells slots ((σ1.1 - σ.1) + 0) ((z_sl σ1.1 - z_sl σ.1) + 6 * 0) (F0 m pc ls ((As.reverse ++ vR k i :: rest).map (z_tr w))) (rest.map (z_tr w)) (z_Q w (.inl v) σ1 (((vR k i :: As).map (z_tr w)).toArray)) (z_X w (.inl v) σ1) (z_A w) := vx_runV (g := F0 m pc ls ((As.reverse ++ vR k i :: rest).map (z_tr w))) (As := As.map (z_tr w)) (rest := rest.map (z_tr w)) (b := z_adr w k i) (cells := cells) (slots := slots) ⟨X.exec, X.code, X.maxl, X.own, X.hts⟩ (hC l X.tra) ⟨z_CB X hkw.1, X.hts _ hkw.2.1, X.hts _ hkw.2.2⟩ ⟨z_blind, va_recv X.K hP.1 hc (z_objS hk hl0), fun U hU hW => ⟨rfl, X.wd hP hz hS hU hW⟩⟩ rfl (List.length_map _) hl.1 (by simp [List.map_reverse]; try rfl) (lv_room (z_cats hcat)) hd ⟨b2, b3⟩
  exact z_afterR hr hS (fun H1 locs1 hP1 hS1 => by
    have hk9 := kk p l e R s m args below meth c mc ms H1 locs1 _ _ ls X hl hP1 hS1 b1
    rw [List.map_append] at hk9
    cases v <;> exact hk9) T0 hT XX
theorem g_cVT {g : zMth} {As rest : List zAV} {ix : Nat} {σ1 : zSt} {k i : Nat} {T : u_T} {N : Nat} {E : String} (hC : zC w g d (vR k i :: As) σ (.inr E) σ') (hd : decode f.2.1 pc = .ok (.invokevirtual ix, 3)) (hkw : z_kwV f.1.cls ix g As.length) (hc : vwCl[k]? = some (g.1.cls, T, N)) (hk : k ≤ 10) (hl0 : z_live σ.1 k i) (hcat : (rest.map (fun v => if z_c2 v then 2 else 1)).sum ≤ 8) (hm : σ.1 ≤ σ'.1) (h204 : σ'.1 = 196) (htab : f.2.2.2.2 = []) (e1 : r = .inr E) (hst : As.reverse ++ vR k i :: rest = stk) : zG w f (d + 1) (cr + 1) pc lv stk σ r σ' := by
  intro p l e R s m args below meth c mc ms H locs cells slots ls X hl hP hS hB
  subst hst
  subst e1
  intro T0 hT XX
  have hz := z_szOf XX hT hP hB
  obtain ⟨b1, b2, b3⟩ := z_bud3 (σ1 := σ') hB ⟨hm, Nat.le_refl _⟩ h204
  have hr : vx_Run p l e R s m args below meth c H locs cells slots ((σ'.1 - σ.1) + 1) ((z_sl σ'.1 - z_sl σ.1) + 6 * 1) (F0 m pc ls ((As.reverse ++ vR k i :: rest).map (z_tr w))) (rest.map (z_tr w)) (z_Q w (.inr E) σ' (((vR k i :: As).map (z_tr w)).toArray)) (z_X w (.inr E) σ') (z_A w) := vx_runV (g := F0 m pc ls ((As.reverse ++ vR k i :: rest).map (z_tr w))) (As := As.map (z_tr w)) (rest := rest.map (z_tr w)) (b := z_adr w k i) (cells := cells) (slots := slots) ⟨X.exec, X.code, X.maxl, X.own, X.hts⟩ (hC l X.tra) ⟨z_CB X hkw.1, X.hts _ hkw.2.1, X.hts _ hkw.2.2⟩ ⟨z_blind, va_recv X.K hP.1 hc (z_objS hk hl0), fun U hU hW => ⟨rfl, X.wd hP hz hS hU hW⟩⟩ rfl (List.length_map _) hl.1 (by simp [List.map_reverse]; try rfl) (lv_room (z_cats hcat)) hd ⟨b2, b3⟩
  exact z_afterT hr hS (by rw [X.tab, htab]; rfl) X.lck (by have := b1.1; omega) (by have := b1.2.1; omega) T0 hT XX
theorem g_cSR {g : zMth} {As rest : List zAV} {ix : Nat} {σ1 : zSt} {v : Option zAV} (hC : zC w g d (As) σ (.inl v) σ1) (hd : decode f.2.1 pc = .ok (.invokestatic ix, 3)) (hn : pc + 3 = n) (hkw : z_kwS f.1.cls ix g As.length) (hcat : (rest.map (fun v => if z_c2 v then 2 else 1)).sum ≤ 8) (hm : σ.1 ≤ σ1.1 ∧ σ1.1 ≤ σ'.1) (kk : zG w f (d + 1) cr n lv (v.toList ++ rest) σ1 r σ') (hst : As.reverse ++ rest = stk) : zG w f (d + 1) cr pc lv stk σ r σ' := by
  intro p l e R s m args below meth c mc ms H locs cells slots ls X hl hP hS hB
  subst hst
  subst hn
  intro T0 hT XX
  have hz := z_szOf XX hT hP hB
  obtain ⟨b1, b2, b3⟩ := z_bud2 hB hm
  have hr : vx_Run p l e R s m args below meth c H locs cells slots ((σ1.1 - σ.1) + 0) ((z_sl σ1.1 - z_sl σ.1) + 6 * 0) (F0 m pc ls ((As.reverse ++ rest).map (z_tr w))) (rest.map (z_tr w)) (z_Q w (.inl v) σ1 (((As).map (z_tr w)).toArray)) (z_X w (.inl v) σ1) (z_A w) := vx_runS (g := F0 m pc ls ((As.reverse ++ rest).map (z_tr w))) (As := As.map (z_tr w)) (rest := rest.map (z_tr w)) (cells := cells) (slots := slots) ⟨X.exec, X.code, X.maxl, X.own, X.hts⟩ (hC l X.tra) ⟨z_CB X hkw.1, X.hts _ hkw.2⟩ ⟨z_blind, fun U hU hW => ⟨rfl, X.wd hP hz hS hU hW⟩⟩ rfl (List.length_map _) hl.1 (by simp [List.map_reverse]; try rfl) (lv_room (z_cats hcat)) hd ⟨b2, b3⟩
  exact z_afterR hr hS (fun H1 locs1 hP1 hS1 => by
    have hk9 := kk p l e R s m args below meth c mc ms H1 locs1 _ _ ls X hl hP1 hS1 b1
    rw [List.map_append] at hk9
    cases v <;> exact hk9) T0 hT XX
theorem g_cST {g : zMth} {As rest : List zAV} {ix : Nat} {σ1 : zSt} {E : String} (hC : zC w g d (As) σ (.inr E) σ') (hd : decode f.2.1 pc = .ok (.invokestatic ix, 3)) (hkw : z_kwS f.1.cls ix g As.length) (hcat : (rest.map (fun v => if z_c2 v then 2 else 1)).sum ≤ 8) (hm : σ.1 ≤ σ'.1) (h204 : σ'.1 = 196) (htab : f.2.2.2.2 = []) (e1 : r = .inr E) (hst : As.reverse ++ rest = stk) : zG w f (d + 1) (cr + 1) pc lv stk σ r σ' := by
  intro p l e R s m args below meth c mc ms H locs cells slots ls X hl hP hS hB
  subst hst
  subst e1
  intro T0 hT XX
  have hz := z_szOf XX hT hP hB
  obtain ⟨b1, b2, b3⟩ := z_bud3 (σ1 := σ') hB ⟨hm, Nat.le_refl _⟩ h204
  have hr : vx_Run p l e R s m args below meth c H locs cells slots ((σ'.1 - σ.1) + 1) ((z_sl σ'.1 - z_sl σ.1) + 6 * 1) (F0 m pc ls ((As.reverse ++ rest).map (z_tr w))) (rest.map (z_tr w)) (z_Q w (.inr E) σ' (((As).map (z_tr w)).toArray)) (z_X w (.inr E) σ') (z_A w) := vx_runS (g := F0 m pc ls ((As.reverse ++ rest).map (z_tr w))) (As := As.map (z_tr w)) (rest := rest.map (z_tr w)) (cells := cells) (slots := slots) ⟨X.exec, X.code, X.maxl, X.own, X.hts⟩ (hC l X.tra) ⟨z_CB X hkw.1, X.hts _ hkw.2⟩ ⟨z_blind, fun U hU hW => ⟨rfl, X.wd hP hz hS hU hW⟩⟩ rfl (List.length_map _) hl.1 (by simp [List.map_reverse]; try rfl) (lv_room (z_cats hcat)) hd ⟨b2, b3⟩
  exact z_afterT hr hS (by rw [X.tab, htab]; rfl) X.lck (by have := b1.1; omega) (by have := b1.2.1; omega) T0 hT XX
theorem g_cIR {g : zMth} {As rest : List zAV} {ix : Nat} {σ1 : zSt} {k i : Nat} {v : Option zAV} (hC : zC w g d (vR k i :: As) σ (.inl v) σ1) (hd : decode f.2.1 pc = .ok (.invokespecial ix, 3)) (hn : pc + 3 = n) (hkw : z_kwI f.1.cls ix g As.length) (hcat : (rest.map (fun v => if z_c2 v then 2 else 1)).sum ≤ 8) (hm : σ.1 ≤ σ1.1 ∧ σ1.1 ≤ σ'.1) (kk : zG w f (d + 1) cr n lv (v.toList ++ rest) σ1 r σ') (hst : As.reverse ++ vR k i :: rest = stk) : zG w f (d + 1) cr pc lv stk σ r σ' := by
  intro p l e R s m args below meth c mc ms H locs cells slots ls X hl hP hS hB
  subst hst
  subst hn
  intro T0 hT XX
  have hz := z_szOf XX hT hP hB
  obtain ⟨b1, b2, b3⟩ := z_bud2 hB hm
  have hr : vx_Run p l e R s m args below meth c H locs cells slots ((σ1.1 - σ.1) + 0) ((z_sl σ1.1 - z_sl σ.1) + 6 * 0) (F0 m pc ls ((As.reverse ++ vR k i :: rest).map (z_tr w))) (rest.map (z_tr w)) (z_Q w (.inl v) σ1 (((vR k i :: As).map (z_tr w)).toArray)) (z_X w (.inl v) σ1) (z_A w) := vx_runI (g := F0 m pc ls ((As.reverse ++ vR k i :: rest).map (z_tr w))) (As := As.map (z_tr w)) (rest := rest.map (z_tr w)) (b := z_adr w k i) (cells := cells) (slots := slots) ⟨X.exec, X.code, X.maxl, X.own, X.hts⟩ (hC l X.tra) ⟨by rw [← hkw.2.2.2]; exact z_CB X hkw.1, hkw.2.2.1, X.hts _ hkw.2.1⟩ ⟨z_blind, fun U hU hW => ⟨rfl, X.wd hP hz hS hU hW⟩⟩ rfl (List.length_map _) hl.1 (by simp [List.map_reverse]; try rfl) (lv_room (z_cats hcat)) hd ⟨b2, b3⟩
  exact z_afterR hr hS (fun H1 locs1 hP1 hS1 => by
    have hk9 := kk p l e R s m args below meth c mc ms H1 locs1 _ _ ls X hl hP1 hS1 b1
    rw [List.map_append] at hk9
    cases v <;> exact hk9) T0 hT XX
theorem g_cSNR {g : zMth} {As rest : List zAV} {ix : Nat} {σ1 : zSt} {host : String} {v : Option zAV} (hC : zC w g d (As) σ (.inl v) σ1) (hd : decode f.2.1 pc = .ok (.invokestatic ix, 3)) (hn : pc + 3 = n) (hkw : z_kwN f.1.cls ix g As.length host ∧ Cond.static g.1 ∈ zUW) (hcat : (rest.map (fun v => if z_c2 v then 2 else 1)).sum ≤ 8) (hm : σ.1 ≤ σ1.1 ∧ σ1.1 ≤ σ'.1) (kk : zG w f (d + 1) cr n lv (v.toList ++ rest) σ1 r σ') (hst : As.reverse ++ rest = stk) : zG w f (d + 1) cr pc lv stk σ r σ' := by
  intro p l e R s m args below meth c mc ms H locs cells slots ls X hl hP hS hB
  subst hst
  subst hn
  intro T0 hT XX
  have hz := z_szOf XX hT hP hB
  obtain ⟨b1, b2, b3⟩ := z_bud2 hB hm
  have hr : vx_Run p l e R s m args below meth c H locs cells slots ((σ1.1 - σ.1) + 0) ((z_sl σ1.1 - z_sl σ.1) + 6 * 0) (F0 m pc ls ((As.reverse ++ rest).map (z_tr w))) (rest.map (z_tr w)) (z_Q w (.inl v) σ1 (((As).map (z_tr w)).toArray)) (z_X w (.inl v) σ1) (z_A w) := vx_runSN (g := F0 m pc ls ((As.reverse ++ rest).map (z_tr w))) (As := As.map (z_tr w)) (rest := rest.map (z_tr w)) (cells := cells) (slots := slots) ⟨X.exec, X.code, X.maxl, X.own, X.hts⟩ (hC l X.tra) ⟨z_CN X hkw.1, X.hts _ hkw.2, trivial⟩ ⟨z_blind, fun U hU hW => ⟨rfl, X.wd hP hz hS hU hW⟩⟩ rfl (List.length_map _) hl.1 (by simp [List.map_reverse]; try rfl) (lv_room (z_cats hcat)) hd ⟨b2, b3⟩
  exact z_afterR hr hS (fun H1 locs1 hP1 hS1 => by
    have hk9 := kk p l e R s m args below meth c mc ms H1 locs1 _ _ ls X hl hP1 hS1 b1
    rw [List.map_append] at hk9
    cases v <;> exact hk9) T0 hT XX
theorem g_cINR {g : zMth} {As rest : List zAV} {ix : Nat} {σ1 : zSt} {host : String} {k i : Nat} {v : Option zAV} (hC : zC w g d (vR k i :: As) σ (.inl v) σ1) (hd : decode f.2.1 pc = .ok (.invokespecial ix, 3)) (hn : pc + 3 = n) (hkw : z_kwN f.1.cls ix g As.length host ∧ Cond.instanceMethod g.1 ∈ zUW ∧ g.1.name = "<init>" ∧ g.2.2.2.1 = none) (hcat : (rest.map (fun v => if z_c2 v then 2 else 1)).sum ≤ 8) (hm : σ.1 ≤ σ1.1 ∧ σ1.1 ≤ σ'.1) (kk : zG w f (d + 1) cr n lv (v.toList ++ rest) σ1 r σ') (hst : As.reverse ++ vR k i :: rest = stk) : zG w f (d + 1) cr pc lv stk σ r σ' := by
  intro p l e R s m args below meth c mc ms H locs cells slots ls X hl hP hS hB
  subst hst
  subst hn
  intro T0 hT XX
  have hz := z_szOf XX hT hP hB
  obtain ⟨b1, b2, b3⟩ := z_bud2 hB hm
  have hr : vx_Run p l e R s m args below meth c H locs cells slots ((σ1.1 - σ.1) + 0) ((z_sl σ1.1 - z_sl σ.1) + 6 * 0) (F0 m pc ls ((As.reverse ++ vR k i :: rest).map (z_tr w))) (rest.map (z_tr w)) (z_Q w (.inl v) σ1 (((vR k i :: As).map (z_tr w)).toArray)) (z_X w (.inl v) σ1) (z_A w) := vx_runIN (g := F0 m pc ls ((As.reverse ++ vR k i :: rest).map (z_tr w))) (As := As.map (z_tr w)) (rest := rest.map (z_tr w)) (b := z_adr w k i) (cells := cells) (slots := slots) ⟨X.exec, X.code, X.maxl, X.own, X.hts⟩ (hC l X.tra) ⟨by rw [← hkw.2.2.2]; exact z_CN X hkw.1, hkw.2.2.1, X.hts _ hkw.2.1⟩ ⟨z_blind, fun U hU hW => ⟨rfl, X.wd hP hz hS hU hW⟩⟩ rfl (List.length_map _) hl.1 (by simp [List.map_reverse]; try rfl) (lv_room (z_cats hcat)) hd ⟨b2, b3⟩
  exact z_afterR hr hS (fun H1 locs1 hP1 hS1 => by
    have hk9 := kk p l e R s m args below meth c mc ms H1 locs1 _ _ ls X hl hP1 hS1 b1
    rw [List.map_append] at hk9
    cases v <;> exact hk9) T0 hT XX
/-! ends -/
theorem g_ireturn {x : Int32} {ty : FieldType} (hd : decode f.2.1 pc = .ok (.ireturn, 1)) (hr : f.2.2.2.1 = some ty) (hx : narrow ty (.int x) = .int x) (e1 : r = .inl (some (vI x))) (e2 : σ = σ') : zG w f d cr pc lv [vI x] σ r σ' := by
  intro p l e R s m args below meth c mc ms H locs cells slots ls X hl hP hS hB
  subst e1
  subst e2
  intro T hT XX
  have hz := z_szOf XX hT hP hB
  exact W.widen (k := mc) (n := ms) (by have := hB.1; omega) (by have := hB.2.1; omega) (vx_ret (W.zret X.exec X.code (X.ret.trans hr) hx (fun t ht hW => ⟨⟨_, rfl, rfl⟩, by rw [ht]; exact hP, by rw [ht]; exact hz, hS.F ht⟩) hS.2.2 hd X.lck)) T hT XX
theorem g_lreturn {x : Int64} (hd : decode f.2.1 pc = .ok (.lreturn, 1)) (hr : f.2.2.2.1 = some .long) (e1 : r = .inl (some (vJ x))) (e2 : σ = σ') : zG w f d cr pc lv [vJ x] σ r σ' := by
  intro p l e R s m args below meth c mc ms H locs cells slots ls X hl hP hS hB
  subst e1
  subst e2
  intro T hT XX
  have hz := z_szOf XX hT hP hB
  exact W.widen (k := mc) (n := ms) (by have := hB.1; omega) (by have := hB.2.1; omega) (vx_ret (W.lret X.exec X.code (X.ret.trans hr) (fun t ht hW => ⟨⟨_, rfl, rfl⟩, by rw [ht]; exact hP, by rw [ht]; exact hz, hS.F ht⟩) hS.2.2 hd X.lck)) T hT XX
theorem g_dreturn {x : UInt64} (hd : decode f.2.1 pc = .ok (.dreturn, 1)) (hr : f.2.2.2.1 = some .double) (e1 : r = .inl (some (vD x))) (e2 : σ = σ') : zG w f d cr pc lv [vD x] σ r σ' := by
  intro p l e R s m args below meth c mc ms H locs cells slots ls X hl hP hS hB
  subst e1
  subst e2
  intro T hT XX
  have hz := z_szOf XX hT hP hB
  exact W.widen (k := mc) (n := ms) (by have := hB.1; omega) (by have := hB.2.1; omega) (vx_ret (W.dret X.exec X.code (X.ret.trans hr) (fun t ht hW => ⟨⟨_, rfl, rfl⟩, by rw [ht]; exact hP, by rw [ht]; exact hz, hS.F ht⟩) hS.2.2 hd X.lck)) T hT XX
theorem g_areturn {k i : Nat} {C : String} (hd : decode f.2.1 pc = .ok (.areturn, 1)) (hr : f.2.2.2.1 = some (.object C)) (e1 : r = .inl (some (vR k i))) (e2 : σ = σ') : zG w f d cr pc lv [vR k i] σ r σ' := by
  intro p l e R s m args below meth c mc ms H locs cells slots ls X hl hP hS hB
  subst e1
  subst e2
  intro T hT XX
  have hz := z_szOf XX hT hP hB
  exact W.widen (k := mc) (n := ms) (by have := hB.1; omega) (by have := hB.2.1; omega) (vx_ret (W.aret X.exec X.code (X.ret.trans hr) (Or.inl ⟨_, rfl⟩) (Or.inr ⟨_, rfl⟩) (fun t ht hW => ⟨⟨_, rfl, rfl⟩, by rw [ht]; exact hP, by rw [ht]; exact hz, hS.F ht⟩) hS.2.2 hd X.lck)) T hT XX
theorem g_return (hd : decode f.2.1 pc = .ok (.return_, 1)) (hr : f.2.2.2.1 = none) (e1 : r = .inl none) (e2 : σ = σ') : zG w f d cr pc lv [] σ r σ' := by
  intro p l e R s m args below meth c mc ms H locs cells slots ls X hl hP hS hB
  subst e1
  subst e2
  intro T hT XX
  have hz := z_szOf XX hT hP hB
  exact W.widen (k := mc) (n := ms) (by have := hB.1; omega) (by have := hB.2.1; omega) (vx_ret (W.vret X.exec X.code (X.ret.trans hr) (fun t ht hW => ⟨⟨_, rfl, rfl⟩, by rw [ht]; exact hP, by rw [ht]; exact hz, hS.F ht⟩) hS.2.2 hd X.lck)) T hT XX
/-! entry -/
def z_lo : List zAV → List zAV
  | [] => []
  | v :: vs => if z_c2 v then v :: vU :: z_lo vs else v :: z_lo vs
theorem z_kn_rep (k b : Nat) : z_kn w b (List.replicate k vU) = [] := by
  induction k generalizing b with
  | zero => rfl
  | succ k ih =>
    rw [List.replicate_succ]
    unfold z_kn
    rw [if_pos (show z_isU vU = true from rfl)]
    exact ih (b + 1)
theorem z_entL (k : Nat) : ∀ (vs : List zAV) (b : Nat) (q : Nat × Value), q ∈ z_kn w b (z_lo vs ++ List.replicate k vU) → q ∈ lv_args b (vs.map (z_tr w))
  | [], b, q, h => by
    have h : q ∈ z_kn w b (List.replicate k vU) := h
    rw [z_kn_rep] at h
    cases h
  | v :: vs, b, q, h => by
    unfold z_lo at h
    rw [List.map_cons]
    unfold lv_args
    by_cases hc : z_c2 v = true
    · rw [if_pos hc] at h
      have hcat : (z_tr w v).category = 2 := by
        rcases v with x | y
        · cases x <;> first | rfl | cases hc
        · cases hc
      rw [if_pos hcat]
      rw [List.cons_append, List.cons_append] at h
      unfold z_kn at h
      by_cases hu : z_isU v = true
      · rcases v with x | y
        · cases x <;> first | exact absurd hu Bool.false_ne_true | exact absurd hc Bool.false_ne_true
        · exact absurd hu Bool.false_ne_true
      · rw [if_neg hu] at h
        unfold z_kn at h
        rw [if_pos (show z_isU vU = true from rfl)] at h
        rcases List.mem_cons.mp h with h | h
        · rw [h]; exact List.mem_cons_self
        · exact List.mem_cons_of_mem _ (z_entL k vs (b + 2) q h)
    · rw [if_neg hc] at h
      have hcat : (z_tr w v).category = 1 := z_c2_cat v (by simpa using hc)
      rw [if_neg (by rw [hcat]; decide)]
      rw [List.cons_append] at h
      unfold z_kn at h
      by_cases hu : z_isU v = true
      · rw [if_pos hu] at h
        exact List.mem_cons_of_mem _ (z_entL k vs (b + 1) q h)
      · rw [if_neg hu] at h
        rcases List.mem_cons.mp h with h | h
        · rw [h]; exact List.mem_cons_self
        · exact List.mem_cons_of_mem _ (z_entL k vs (b + 1) q h)
theorem z_loL : ∀ vs : List zAV, (lg_sl (vs.map (z_tr w))).length = (z_lo vs).length
  | [] => rfl
  | v :: vs => by
    have ih := z_loL vs
    unfold z_lo
    rw [List.map_cons]
    unfold lg_sl at ih ⊢
    rw [List.flatMap_cons, List.length_append, ih]
    by_cases hc : z_c2 v = true
    · have hcat : (z_tr w v).category = 2 := by
        rcases v with x | y
        · cases x <;> first | rfl | cases hc
        · cases hc
      rw [if_pos hc, if_pos hcat]
      simp
      omega
    · have hcat : (z_tr w v).category = 1 := z_c2_cat v (by simpa using hc)
      rw [if_neg hc, if_neg (by rw [hcat]; decide)]
      simp
      omega
theorem z_entry {vs : List zAV} {nL : Nat} (hL : (z_lo vs).length ≤ nL) : lv_has ((lg_sl (vs.map (z_tr w)) ++ List.replicate (nL - (lg_sl (vs.map (z_tr w))).length) Slot.unset).toArray) nL (z_kn w 0 (z_lo vs ++ List.replicate (nL - (z_lo vs).length) vU)) := by
  have h := lv_entry (vs.map (z_tr w)) (n := nL) (by rw [z_loL]; exact hL)
  exact ⟨h.1, h.2.1, fun q hq => h.2.2 q (z_entL _ vs 0 q hq)⟩
theorem z_bud0 {s : State} {l : Launch} (ws : List Cond) (hz : z_sz w σ s.heap) : z_bud w σ σ' (z_th r) s 0 0 ((σ'.1 - σ.1) + z_th r) ((z_sl σ'.1 - z_sl σ.1) + 6 * z_th r) (headSpec ws ({ frames := d, cells := (σ'.1 - σ.1) + z_th r, slots := (z_sl σ'.1 - z_sl σ.1) + 6 * z_th r, locals := 32 * d } : Room)).room :=
  ⟨by omega, by omega, Nat.le_refl _, Nat.le_refl _, fun h => by have := hz h; omega⟩
/-- a contract out of the walk of the body -/
theorem zC_of {vs : List zAV} {L0 : List zAV} {cr : Nat} (hcr : z_th r = cr) (hpl : plainName f.1.cls = true) (hlaw : f.1.name ≠ "law") (htab : f.2.2.2.2 = []) (hL : (z_lo vs).length ≤ f.2.2.1) (hL0 : z_lo vs ++ List.replicate (f.2.2.1 - (z_lo vs).length) vU = L0)
    (hG : zG w f d cr 0 L0 [] σ r σ') : zC w f d vs σ r σ' := by
  intro l hl0
  subst hL0
  subst hcr
  refine vx_ofW (cc := f.2.1) (maxL := f.2.2.1) (ret := f.2.2.2.1) (ws' := zUW) hpl (by unfold z_codeW; rw [htab]) ?_
  intro p e s m args below meth c s₁ B hml ht hv
  obtain ⟨rfl, hP, hz, hK, hst, htx, hns⟩ := hv
  have hts : ∀ w9 ∈ z_codeW f :: zUW, w9.before ((vs.map (z_tr w)).toArray) s = true := atoms_spec (ws := z_codeW f :: zUW) B.pre
  rw [lg_entry_eq]
  refine hG p l e _ s m _ below meth c _ _ s.heap [] 0 0 _ ⟨B.exec, B.bytes, B.returns, hml, findClass_of_methodNamed B.named, fun w9 h => hts w9 (List.mem_cons_of_mem _ h), B.notSynchronized, ?_, hl0, Nat.le_refl _, Nat.le_refl _, hK, hst, htx, hns, hP.2.2, fun h => ?_, fun h => absurd h hlaw⟩ (z_entry hL) hP va_S.rf (z_bud0 (l := l) _ hz)
  · rw [htab]
    rcases hcl : c.exceptionTable.toList with _ | ⟨x, xs⟩
    · rfl
    · exact (ht x (by rw [hcl]; exact List.mem_cons_self)).elim
  · rw [← h]; exact (name_of_methodNamed B.named B.method).1
end GC
