/-! The law's methods: contracts that may cost cells (an exception made and taken inside), calls of them. -/
def zCk (w : zWp) (f : zMth) (c d : Nat) (av : List zAV) (σ : zSt) (r : zRes) (σ' : zSt) : Prop := ∀ l : Launch, l.stackTraces = false →
  vx_Met l f.1 (z_codeW f :: zUW) ({ frames := d, cells := c, slots := 6 * c, locals := 32 * d } : Room) (va_Pc (av.map (z_tr w)) (z_Wd w σ)) (z_Q w r σ') (z_X w r σ') c (6 * c) (z_A w)
section LH
variable {w : zWp} {f g : zMth} {c9 d cr pc n : Nat} {lv stk : List zAV} {σ σ1 : zSt} {r : zRes} {σ' : zSt}
theorem zCk_ofH {vs L0 : List zAV} {x : Nat × Nat × Nat × Nat} {hh : List (Nat × Nat × Nat × Nat)} (hpl : plainName f.1.cls = true) (hlaw : f.1.name ≠ "law") (htab : f.2.2.2.2 = x :: hh) (hL : (z_lo vs).length ≤ f.2.2.1) (hL0 : z_lo vs ++ List.replicate (f.2.2.1 - (z_lo vs).length) vU = L0) (h196 : σ'.1 = σ.1)
    (hG : zG w f d c9 0 L0 [] σ r σ') : zCk w f c9 d vs σ r σ' := by
  intro l hl0
  subst hL0
  have hcw : z_codeW f = .codeWith f.1 f.2.1 f.2.2.1 f.2.2.2.1 f.2.2.2.2 := by
    unfold z_codeW
    rw [htab]
  refine vx_ofWH (cc := f.2.1) (maxL := f.2.2.1) (ret := f.2.2.2.1) (hh := f.2.2.2.2) (ws' := zUW) hpl (by rw [hcw]) ?_
  intro p e s m args below meth c s₁ B hml hv
  obtain ⟨rfl, hP, hz, hK, hst, htx, hns⟩ := hv
  have hts : ∀ w9 ∈ z_codeW f :: zUW, w9.before ((vs.map (z_tr w)).toArray) s = true := atoms_spec (ws := z_codeW f :: zUW) B.pre
  have hc9 := hts _ List.mem_cons_self
  rw [hcw] at hc9
  rw [lg_entry_eq]
  exact hG p l e _ s m _ below meth c c9 (6 * c9) s.heap [] 0 0 _ ⟨B.exec, B.bytes, B.returns, hml, findClass_of_methodNamed B.named, fun w9 h => hts w9 (List.mem_cons_of_mem _ h), B.notSynchronized, vx_table (x := f.1) B hc9, hl0, Nat.le_refl _, Nat.le_refl _, hK, hst, htx, hns, hP.2.2, fun h => by rw [← h]; exact (name_of_methodNamed B.named B.method).1, fun h => absurd h hlaw⟩ (z_entry hL) hP va_S.rf
    ⟨by rw [h196]; omega, by rw [h196]; omega, Nat.le_refl _, Nat.le_refl _, fun h => by have := hz h; omega⟩
theorem zCk_of {vs L0 : List zAV} (hpl : plainName f.1.cls = true) (hlaw : f.1.name ≠ "law") (htab : f.2.2.2.2 = []) (hL : (z_lo vs).length ≤ f.2.2.1) (hL0 : z_lo vs ++ List.replicate (f.2.2.1 - (z_lo vs).length) vU = L0) (h196 : σ'.1 = σ.1)
    (hG : zG w f d c9 0 L0 [] σ r σ') : zCk w f c9 d vs σ r σ' := by
  intro l hl0
  subst hL0
  refine vx_ofW (cc := f.2.1) (maxL := f.2.2.1) (ret := f.2.2.2.1) (ws' := zUW) hpl (by unfold z_codeW; rw [htab]) ?_
  intro p e s m args below meth c s₁ B hml ht hv
  obtain ⟨rfl, hP, hz, hK, hst, htx, hns⟩ := hv
  have hts : ∀ w9 ∈ z_codeW f :: zUW, w9.before ((vs.map (z_tr w)).toArray) s = true := atoms_spec (ws := z_codeW f :: zUW) B.pre
  rw [lg_entry_eq]
  refine hG p l e _ s m _ below meth c c9 (6 * c9) s.heap [] 0 0 _ ⟨B.exec, B.bytes, B.returns, hml, findClass_of_methodNamed B.named, fun w9 h => hts w9 (List.mem_cons_of_mem _ h), B.notSynchronized, ?_, hl0, Nat.le_refl _, Nat.le_refl _, hK, hst, htx, hns, hP.2.2, fun h => ?_, fun h => absurd h hlaw⟩ (z_entry hL) hP va_S.rf
    ⟨by rw [h196]; omega, by rw [h196]; omega, Nat.le_refl _, Nat.le_refl _, fun h => by have := hz h; omega⟩
  · rw [htab]
    rcases hcl : c.exceptionTable.toList with _ | ⟨x, xs⟩
    · rfl
    · exact (ht x (by rw [hcl]; exact List.mem_cons_self)).elim
  · rw [← h]; exact (name_of_methodNamed B.named B.method).1
def z_kwK (own : String) (ix : Nat) (g : zMth) (k : Nat) : Prop := ((Cond.methodLink own ix g.1 ∈ zUW ∧ Cond.initialized g.1.cls ∈ zUW ∧ z_codeW g ∈ zUW) ∧ Cond.static g.1 ∈ zUW) ∧ g.1.cls ≠ "java/lang/invoke/MethodHandle" ∧ g.1.cls ≠ "java/lang/invoke/VarHandle" ∧ (parseMethodDescriptor g.1.desc).map (fun d => d.parameters.length) = some k
/-- room for the callee's locals -/
def z_lcl (f g : zMth) (d : Nat) : Prop := g.2.2.1 ≤ 13 ∨ (f.1.name = "law" ∧ g.2.2.1 ≤ 40 ∧ d ≤ 12)
theorem z_lclR {p : Program} {l : Launch} {R : Room} {s : State} {m : MethodId} {args : Array Value} {meth : Method} {c : Code} (X : zX w f (d + 1) p l R s m args meth c) (h : z_lcl f g d) : 8 + (g.2.2.1 + 11) + 32 * d ≤ R.locals := by
  have h1 := X.loc
  rcases h with h | ⟨h2, h3, h4⟩
  · omega
  · have := X.lwl h2
    omega
theorem z_budK {s : State} {cells slots mc ms : Nat} {R : Room} (hB : z_bud w σ σ' (cr + c9) s cells slots mc ms R) (hm : σ1.1 = σ.1) (h196 : σ.1 = 196) : z_bud w σ1 σ' cr s (cells + c9) (slots + 6 * c9) mc ms R ∧ cells + c9 ≤ R.cells ∧ slots + 6 * c9 ≤ R.slots := by
  obtain ⟨h1, h2, h3, h4, h5⟩ := hB
  unfold z_bud
  rw [hm]
  exact ⟨⟨by omega, by omega, h3, h4, fun h => by omega⟩, by omega, by omega⟩
/-- a static call of a method with a table -/
theorem g_cKH {As rest : List zAV} {ix : Nat} {v : Option zAV} {x9 : Nat × Nat × Nat × Nat} {hh9 : List (Nat × Nat × Nat × Nat)} (hC : zCk w g c9 d As σ (.inl v) σ1) (hd : decode f.2.1 pc = .ok (.invokestatic ix, 3)) (hn : pc + 3 = n) (hkw : z_kwK f.1.cls ix g As.length) (k9 : g.2.2.2.2 = x9 :: hh9) (hlc : z_lcl f g d) (hcat : (rest.map (fun v => if z_c2 v then 2 else 1)).sum ≤ 8) (hm : σ1.1 = σ.1) (h196 : σ.1 = 196)
    (kk : zG w f (d + 1) cr n lv (v.toList ++ rest) σ1 r σ') (hst : As.reverse ++ rest = stk) : zG w f (d + 1) (cr + c9) pc lv stk σ r σ' := by
  intro p l e R s m args below meth c mc ms H locs cells slots ls X hl hP hS hB
  subst hst
  subst hn
  intro T0 hT XX
  have hz := z_szOf XX hT hP hB
  obtain ⟨b1, b2, b3⟩ := z_budK hB hm h196
  obtain ⟨⟨⟨k1, k2, k3⟩, k4⟩, k6, k7, k8⟩ := hkw
  have hcw : z_codeW g = .codeWith g.1 g.2.1 g.2.2.1 g.2.2.2.1 g.2.2.2.2 := by
    unfold z_codeW
    rw [k9]
  have hf := X.frm
  have hG : GoodIn zUW (va_wsS f.1.cls ix g.1 (z_codeW g :: zUW)) := fun w9 h => by
    unfold va_wsS at h
    rcases List.mem_append.mp h with h | h
    · rcases List.mem_cons.mp h with h | h
      · rw [h]; exact z_good _ k1
      · rcases List.mem_cons.mp h with h | h
        · rw [h]; exact z_good _ k4
        · rw [List.mem_singleton.mp h]; exact z_good _ k2
    · exact z_goodC k3 w9 h
  have cw : vx_CSW R s args f.1.cls ix g.1 g.2.1 g.2.2.1 g.2.2.2.1 g.2.2.2.2 (z_codeW g :: zUW) ({ frames := d, cells := c9, slots := 6 * c9, locals := 32 * d } : Room) c9 (6 * c9) As.length :=
    vx_cwSW As.length X.hts hG (by rw [hcw]) rfl rfl ⟨k6, k7, k8⟩ ⟨hf, z_lclR X hlc⟩
  have hr : vx_Run p l e R s m args below meth c H locs cells slots c9 (6 * c9) (F0 m pc ls ((As.reverse ++ rest).map (z_tr w))) (rest.map (z_tr w)) (z_Q w (.inl v) σ1 (((As).map (z_tr w)).toArray)) (z_X w (.inl v) σ1) (z_A w) := vx_runSX (g := F0 m pc ls ((As.reverse ++ rest).map (z_tr w))) (As := As.map (z_tr w)) (rest := rest.map (z_tr w)) (cells := cells) (slots := slots) ⟨X.exec, X.code, X.maxl, X.own, X.hts⟩ (hC l X.tra) cw ⟨z_blind, fun U hU hW => ⟨rfl, X.wd hP hz hS hU hW⟩⟩ rfl (List.length_map _) hl.1 (by simp [List.map_reverse]; try rfl) (lv_room (z_cats hcat)) hd ⟨b2, b3⟩
  exact z_afterR hr hS (fun H1 locs1 hP1 hS1 => by
    have hk9 := kk p l e R s m args below meth c mc ms H1 locs1 _ _ ls X hl hP1 hS1 b1
    rw [List.map_append] at hk9
    cases v <;> exact hk9) T0 hT XX
/-- a static call of a method without one -/
theorem g_cKP {As rest : List zAV} {ix : Nat} {v : Option zAV} (hC : zCk w g c9 d As σ (.inl v) σ1) (hd : decode f.2.1 pc = .ok (.invokestatic ix, 3)) (hn : pc + 3 = n) (hkw : z_kwK f.1.cls ix g As.length) (k9 : g.2.2.2.2 = []) (hlc : z_lcl f g d) (hcat : (rest.map (fun v => if z_c2 v then 2 else 1)).sum ≤ 8) (hm : σ1.1 = σ.1) (h196 : σ.1 = 196)
    (kk : zG w f (d + 1) cr n lv (v.toList ++ rest) σ1 r σ') (hst : As.reverse ++ rest = stk) : zG w f (d + 1) (cr + c9) pc lv stk σ r σ' := by
  intro p l e R s m args below meth c mc ms H locs cells slots ls X hl hP hS hB
  subst hst
  subst hn
  intro T0 hT XX
  have hz := z_szOf XX hT hP hB
  obtain ⟨b1, b2, b3⟩ := z_budK hB hm h196
  obtain ⟨⟨⟨k1, k2, k3⟩, k4⟩, k6, k7, k8⟩ := hkw
  have hcw : z_codeW g = .code g.1 g.2.1 g.2.2.1 g.2.2.2.1 := by
    unfold z_codeW
    rw [k9]
  have hf := X.frm
  have cb : CallB R s args f.1.cls ix g.1 g.2.1 g.2.2.1 g.2.2.2.1 (z_codeW g :: zUW) ({ frames := d, cells := c9, slots := 6 * c9, locals := 32 * d } : Room) c9 (6 * c9) As.length :=
    callB_of As.length X.hts (z_goodC k3) (by rw [hcw]) rfl rfl (X.hts _ k2) (X.hts _ k1) ⟨k6, k7, k8⟩ ⟨hf, z_lclR X hlc⟩
  have hr : vx_Run p l e R s m args below meth c H locs cells slots c9 (6 * c9) (F0 m pc ls ((As.reverse ++ rest).map (z_tr w))) (rest.map (z_tr w)) (z_Q w (.inl v) σ1 (((As).map (z_tr w)).toArray)) (z_X w (.inl v) σ1) (z_A w) := vx_runS (g := F0 m pc ls ((As.reverse ++ rest).map (z_tr w))) (As := As.map (z_tr w)) (rest := rest.map (z_tr w)) (cells := cells) (slots := slots) ⟨X.exec, X.code, X.maxl, X.own, X.hts⟩ (hC l X.tra) ⟨cb, X.hts _ k4⟩ ⟨z_blind, fun U hU hW => ⟨rfl, X.wd hP hz hS hU hW⟩⟩ rfl (List.length_map _) hl.1 (by simp [List.map_reverse]; try rfl) (lv_room (z_cats hcat)) hd ⟨b2, b3⟩
  exact z_afterR hr hS (fun H1 locs1 hP1 hS1 => by
    have hk9 := kk p l e R s m args below meth c mc ms H1 locs1 _ _ ls X hl hP1 hS1 b1
    rw [List.map_append] at hk9
    cases v <;> exact hk9) T0 hT XX
theorem g_cKHv {As rest : List zAV} {ix : Nat} {v : zAV} {x9 : Nat × Nat × Nat × Nat} {hh9 : List (Nat × Nat × Nat × Nat)} (hC : zCk w g c9 d As σ (.inl (some v)) σ1) (hd : decode f.2.1 pc = .ok (.invokestatic ix, 3)) (hn : pc + 3 = n) (hkw : z_kwK f.1.cls ix g As.length) (k9 : g.2.2.2.2 = x9 :: hh9) (hlc : z_lcl f g d) (hcat : (rest.map (fun v => if z_c2 v then 2 else 1)).sum ≤ 8) (hm : σ1.1 = σ.1) (h196 : σ.1 = 196)
    (kk : zG w f (d + 1) cr n lv (v :: rest) σ1 r σ') (hst : As.reverse ++ rest = stk) : zG w f (d + 1) (cr + c9) pc lv stk σ r σ' := g_cKH hC hd hn hkw k9 hlc hcat hm h196 kk hst
theorem g_cKPv {As rest : List zAV} {ix : Nat} {v : zAV} (hC : zCk w g c9 d As σ (.inl (some v)) σ1) (hd : decode f.2.1 pc = .ok (.invokestatic ix, 3)) (hn : pc + 3 = n) (hkw : z_kwK f.1.cls ix g As.length) (k9 : g.2.2.2.2 = []) (hlc : z_lcl f g d) (hcat : (rest.map (fun v => if z_c2 v then 2 else 1)).sum ≤ 8) (hm : σ1.1 = σ.1) (h196 : σ.1 = 196)
    (kk : zG w f (d + 1) cr n lv (v :: rest) σ1 r σ') (hst : As.reverse ++ rest = stk) : zG w f (d + 1) (cr + c9) pc lv stk σ r σ' := g_cKP hC hd hn hkw k9 hlc hcat hm h196 kk hst
/-- cells that are not used -/
theorem zG_cr (k : Nat) (G : zG w f d cr pc lv stk σ r σ') : zG w f d (cr + k) pc lv stk σ r σ' :=
  fun p l e R s m args below meth c mc ms H locs cells slots ls X hl hP hS hB => G p l e R s m args below meth c mc ms H locs cells slots ls X hl hP hS ⟨by have := hB.1; omega, by have := hB.2.1; omega, hB.2.2⟩
/-- a call that throws what a row of the table takes -/
theorem g_cVH {As rest : List zAV} {ix : Nat} {k i : Nat} {T : u_T} {N : Nat} {E : String} {pre suf : List ExceptionTableEntry} {x : ExceptionTableEntry} (hC : zC w g d (vR k i :: As) σ (.inr E) σ1) (hd : decode f.2.1 pc = .ok (.invokevirtual ix, 3)) (hkw : z_kwV f.1.cls ix g As.length) (hc : vwCl[k]? = some (g.1.cls, T, N)) (hk : k ≤ 10) (hl0 : z_live σ.1 k i) (hcat : (rest.map (fun v => if z_c2 v then 2 else 1)).sum ≤ 8) (hm : σ.1 ≤ σ1.1 ∧ σ1.1 ≤ σ'.1) (h196 : σ1.1 = 196)
    (htab : tableOf f.2.2.2.2 = pre ++ x :: suf) (hpass : ∀ z ∈ pre, covers z pc = false ∨ (z.catchType ≠ 0 ∧ ∃ nm : String, nm ∈ z_ex ∧ E ≠ nm ∧ Cond.classLink f.1.cls z.catchType nm ∈ zUW)) (hE : E ∈ z_ex) (hx : covers x pc = true) (h0 : x.catchType ≠ 0) (hlink : Cond.classLink f.1.cls x.catchType E ∈ zUW)
    (kk : ∀ q : Nat, zG w f (d + 1) cr x.handlerPc lv [.inl (.ref q)] σ1 r σ') (hst : As.reverse ++ vR k i :: rest = stk) : zG w f (d + 1) (cr + 1) pc lv stk σ r σ' := by
  intro p l e R s m args below meth c mc ms H locs cells slots ls X hl hP hS hB
  subst hst
  intro T0 hT XX
  have hz := z_szOf XX hT hP hB
  obtain ⟨b1, b2, b3⟩ := z_bud3 (σ1 := σ1) hB hm h196
  have hr : vx_Run p l e R s m args below meth c H locs cells slots ((σ1.1 - σ.1) + 1) ((z_sl σ1.1 - z_sl σ.1) + 6 * 1) (F0 m pc ls ((As.reverse ++ vR k i :: rest).map (z_tr w))) (rest.map (z_tr w)) (z_Q w (.inr E) σ1 (((vR k i :: As).map (z_tr w)).toArray)) (z_X w (.inr E) σ1) (z_A w) := vx_runV (g := F0 m pc ls ((As.reverse ++ vR k i :: rest).map (z_tr w))) (As := As.map (z_tr w)) (rest := rest.map (z_tr w)) (b := z_adr w k i) (cells := cells) (slots := slots) ⟨X.exec, X.code, X.maxl, X.own, X.hts⟩ (hC l X.tra) ⟨z_CB X hkw.1, X.hts _ hkw.2.1, X.hts _ hkw.2.2⟩ ⟨z_blind, va_recv X.K hP.1 hc (z_objS hk hl0), fun U hU hW => ⟨rfl, X.wd hP hz hS hU hW⟩⟩ rfl (List.length_map _) hl.1 (by simp [List.map_reverse]; try rfl) (lv_room (z_cats hcat)) hd ⟨b2, b3⟩
  refine z_afterH hr hS X.own pre x suf (by rw [X.tab, htab]) (fun z hz9 => ?_) hx h0 (X.hts _ hlink) (va_Nw.use rfl (X.nst.2.2.1 _ hE)) (fun q H1 locs1 hP1 hS1 => kk q p l e R s m args below meth c mc ms H1 locs1 _ _ ls X hl hP1 hS1 b1) T0 hT XX
  rcases hpass z hz9 with h | ⟨h1, nm, h2, h3, h4⟩
  · exact Or.inl h
  · exact Or.inr ⟨h1, nm, X.hts _ h4, X.nst.2.2.2.1 _ hE _ h2 h3⟩
end LH
theorem zE_i1 : xIOOB ∈ z_ex := List.mem_cons_self
theorem zE_i2 : xIA ∈ z_ex := List.mem_cons_of_mem _ List.mem_cons_self
theorem zE_i3 : xIS ∈ z_ex := List.mem_cons_of_mem _ (List.mem_cons_of_mem _ List.mem_cons_self)
/-- true and false as 1 and 0 -/
def bN (b : Bool) : Nat := if b then 1 else 0
theorem bN_1 (b : Bool) : bN b ≤ 1 := by
  unfold bN
  split <;> omega
section DIA
variable {w : zWp} {f : zMth} {d cr pc t n : Nat} {lv stk : List zAV} {σ : zSt} {r : zRes} {σ' : zSt}
theorem g_iaddN {a b : Nat} (hd : decode f.2.1 pc = .ok (.iadd, 1)) (hn : pc + 1 = n) (kk : zG w f d cr n lv (vI (nI (a + b)) :: stk) σ r σ') : zG w f d cr pc lv (vI (nI b) :: vI (nI a) :: stk) σ r σ' :=
  g_iadd hd hn (by rw [nI_add]; exact kk)
theorem g_dia_if_eq {x : Int32} {b g : Int} (hd1 : decode f.2.1 pc = .ok (.ifCond .eq b, 3)) (ht : (pc : Int) + b = (t : Int)) (hd2 : decode f.2.1 (pc + 3) = .ok (.iconst 1, 1)) (hd3 : decode f.2.1 (pc + 3 + 1) = .ok (.goto g, 3)) (hg : ((pc + 3 + 1 : Nat) : Int) + g = ((t + 1 : Nat) : Int)) (hd4 : decode f.2.1 t = .ok (.iconst 0, 1)) (kk : zG w f d cr (t + 1) lv (vI (nI (bN (decide (¬ x = 0)))) :: stk) σ r σ') : zG w f d cr pc lv (vI x :: stk) σ r σ' := by
  refine g_if_eq (n := pc + 3) (t := t) hd1 rfl ht (fun q => ?_) (fun q => ?_)
  · refine g_iconst (n := t + 1) hd4 rfl k_ic_0 ?_
    rw [decide_eq_false (fun z => z q)] at kk
    exact kk
  · refine g_iconst (n := pc + 3 + 1) hd2 rfl k_ic_1 ?_
    refine g_goto (n := 0) (t := t + 1) hd3 hg ?_
    rw [decide_eq_true q] at kk
    exact kk
theorem g_dia_if_ne {x : Int32} {b g : Int} (hd1 : decode f.2.1 pc = .ok (.ifCond .ne b, 3)) (ht : (pc : Int) + b = (t : Int)) (hd2 : decode f.2.1 (pc + 3) = .ok (.iconst 1, 1)) (hd3 : decode f.2.1 (pc + 3 + 1) = .ok (.goto g, 3)) (hg : ((pc + 3 + 1 : Nat) : Int) + g = ((t + 1 : Nat) : Int)) (hd4 : decode f.2.1 t = .ok (.iconst 0, 1)) (kk : zG w f d cr (t + 1) lv (vI (nI (bN (decide (x = 0)))) :: stk) σ r σ') : zG w f d cr pc lv (vI x :: stk) σ r σ' := by
  refine g_if_ne (n := pc + 3) (t := t) hd1 rfl ht (fun q => ?_) (fun q => ?_)
  · refine g_iconst (n := t + 1) hd4 rfl k_ic_0 ?_
    rw [decide_eq_false q] at kk
    exact kk
  · refine g_iconst (n := pc + 3 + 1) hd2 rfl k_ic_1 ?_
    refine g_goto (n := 0) (t := t + 1) hd3 hg ?_
    rw [decide_eq_true q] at kk
    exact kk
theorem g_dia_if_lt {x : Int32} {b g : Int} (hd1 : decode f.2.1 pc = .ok (.ifCond .lt b, 3)) (ht : (pc : Int) + b = (t : Int)) (hd2 : decode f.2.1 (pc + 3) = .ok (.iconst 1, 1)) (hd3 : decode f.2.1 (pc + 3 + 1) = .ok (.goto g, 3)) (hg : ((pc + 3 + 1 : Nat) : Int) + g = ((t + 1 : Nat) : Int)) (hd4 : decode f.2.1 t = .ok (.iconst 0, 1)) (kk : zG w f d cr (t + 1) lv (vI (nI (bN (decide (¬ x < 0)))) :: stk) σ r σ') : zG w f d cr pc lv (vI x :: stk) σ r σ' := by
  refine g_if_lt (n := pc + 3) (t := t) hd1 rfl ht (fun q => ?_) (fun q => ?_)
  · refine g_iconst (n := t + 1) hd4 rfl k_ic_0 ?_
    rw [decide_eq_false (fun z => z q)] at kk
    exact kk
  · refine g_iconst (n := pc + 3 + 1) hd2 rfl k_ic_1 ?_
    refine g_goto (n := 0) (t := t + 1) hd3 hg ?_
    rw [decide_eq_true q] at kk
    exact kk
theorem g_dia_if_ge {x : Int32} {b g : Int} (hd1 : decode f.2.1 pc = .ok (.ifCond .ge b, 3)) (ht : (pc : Int) + b = (t : Int)) (hd2 : decode f.2.1 (pc + 3) = .ok (.iconst 1, 1)) (hd3 : decode f.2.1 (pc + 3 + 1) = .ok (.goto g, 3)) (hg : ((pc + 3 + 1 : Nat) : Int) + g = ((t + 1 : Nat) : Int)) (hd4 : decode f.2.1 t = .ok (.iconst 0, 1)) (kk : zG w f d cr (t + 1) lv (vI (nI (bN (decide (¬ 0 ≤ x)))) :: stk) σ r σ') : zG w f d cr pc lv (vI x :: stk) σ r σ' := by
  refine g_if_ge (n := pc + 3) (t := t) hd1 rfl ht (fun q => ?_) (fun q => ?_)
  · refine g_iconst (n := t + 1) hd4 rfl k_ic_0 ?_
    rw [decide_eq_false (fun z => z q)] at kk
    exact kk
  · refine g_iconst (n := pc + 3 + 1) hd2 rfl k_ic_1 ?_
    refine g_goto (n := 0) (t := t + 1) hd3 hg ?_
    rw [decide_eq_true q] at kk
    exact kk
theorem g_dia_if_gt {x : Int32} {b g : Int} (hd1 : decode f.2.1 pc = .ok (.ifCond .gt b, 3)) (ht : (pc : Int) + b = (t : Int)) (hd2 : decode f.2.1 (pc + 3) = .ok (.iconst 1, 1)) (hd3 : decode f.2.1 (pc + 3 + 1) = .ok (.goto g, 3)) (hg : ((pc + 3 + 1 : Nat) : Int) + g = ((t + 1 : Nat) : Int)) (hd4 : decode f.2.1 t = .ok (.iconst 0, 1)) (kk : zG w f d cr (t + 1) lv (vI (nI (bN (decide (¬ 0 < x)))) :: stk) σ r σ') : zG w f d cr pc lv (vI x :: stk) σ r σ' := by
  refine g_if_gt (n := pc + 3) (t := t) hd1 rfl ht (fun q => ?_) (fun q => ?_)
  · refine g_iconst (n := t + 1) hd4 rfl k_ic_0 ?_
    rw [decide_eq_false (fun z => z q)] at kk
    exact kk
  · refine g_iconst (n := pc + 3 + 1) hd2 rfl k_ic_1 ?_
    refine g_goto (n := 0) (t := t + 1) hd3 hg ?_
    rw [decide_eq_true q] at kk
    exact kk
theorem g_dia_if_le {x : Int32} {b g : Int} (hd1 : decode f.2.1 pc = .ok (.ifCond .le b, 3)) (ht : (pc : Int) + b = (t : Int)) (hd2 : decode f.2.1 (pc + 3) = .ok (.iconst 1, 1)) (hd3 : decode f.2.1 (pc + 3 + 1) = .ok (.goto g, 3)) (hg : ((pc + 3 + 1 : Nat) : Int) + g = ((t + 1 : Nat) : Int)) (hd4 : decode f.2.1 t = .ok (.iconst 0, 1)) (kk : zG w f d cr (t + 1) lv (vI (nI (bN (decide (¬ x ≤ 0)))) :: stk) σ r σ') : zG w f d cr pc lv (vI x :: stk) σ r σ' := by
  refine g_if_le (n := pc + 3) (t := t) hd1 rfl ht (fun q => ?_) (fun q => ?_)
  · refine g_iconst (n := t + 1) hd4 rfl k_ic_0 ?_
    rw [decide_eq_false (fun z => z q)] at kk
    exact kk
  · refine g_iconst (n := pc + 3 + 1) hd2 rfl k_ic_1 ?_
    refine g_goto (n := 0) (t := t + 1) hd3 hg ?_
    rw [decide_eq_true q] at kk
    exact kk
theorem g_dia_icmp_eq {x y : Int32} {b g : Int} (hd1 : decode f.2.1 pc = .ok (.if_icmp .eq b, 3)) (ht : (pc : Int) + b = (t : Int)) (hd2 : decode f.2.1 (pc + 3) = .ok (.iconst 1, 1)) (hd3 : decode f.2.1 (pc + 3 + 1) = .ok (.goto g, 3)) (hg : ((pc + 3 + 1 : Nat) : Int) + g = ((t + 1 : Nat) : Int)) (hd4 : decode f.2.1 t = .ok (.iconst 0, 1)) (kk : zG w f d cr (t + 1) lv (vI (nI (bN (decide (¬ x = y)))) :: stk) σ r σ') : zG w f d cr pc lv (vI y :: vI x :: stk) σ r σ' := by
  refine g_icmp_eq (n := pc + 3) (t := t) hd1 rfl ht (fun q => ?_) (fun q => ?_)
  · refine g_iconst (n := t + 1) hd4 rfl k_ic_0 ?_
    rw [decide_eq_false (fun z => z q)] at kk
    exact kk
  · refine g_iconst (n := pc + 3 + 1) hd2 rfl k_ic_1 ?_
    refine g_goto (n := 0) (t := t + 1) hd3 hg ?_
    rw [decide_eq_true q] at kk
    exact kk
theorem g_dia_icmp_ne {x y : Int32} {b g : Int} (hd1 : decode f.2.1 pc = .ok (.if_icmp .ne b, 3)) (ht : (pc : Int) + b = (t : Int)) (hd2 : decode f.2.1 (pc + 3) = .ok (.iconst 1, 1)) (hd3 : decode f.2.1 (pc + 3 + 1) = .ok (.goto g, 3)) (hg : ((pc + 3 + 1 : Nat) : Int) + g = ((t + 1 : Nat) : Int)) (hd4 : decode f.2.1 t = .ok (.iconst 0, 1)) (kk : zG w f d cr (t + 1) lv (vI (nI (bN (decide (x = y)))) :: stk) σ r σ') : zG w f d cr pc lv (vI y :: vI x :: stk) σ r σ' := by
  refine g_icmp_ne (n := pc + 3) (t := t) hd1 rfl ht (fun q => ?_) (fun q => ?_)
  · refine g_iconst (n := t + 1) hd4 rfl k_ic_0 ?_
    rw [decide_eq_false q] at kk
    exact kk
  · refine g_iconst (n := pc + 3 + 1) hd2 rfl k_ic_1 ?_
    refine g_goto (n := 0) (t := t + 1) hd3 hg ?_
    rw [decide_eq_true q] at kk
    exact kk
theorem g_dia_icmp_lt {x y : Int32} {b g : Int} (hd1 : decode f.2.1 pc = .ok (.if_icmp .lt b, 3)) (ht : (pc : Int) + b = (t : Int)) (hd2 : decode f.2.1 (pc + 3) = .ok (.iconst 1, 1)) (hd3 : decode f.2.1 (pc + 3 + 1) = .ok (.goto g, 3)) (hg : ((pc + 3 + 1 : Nat) : Int) + g = ((t + 1 : Nat) : Int)) (hd4 : decode f.2.1 t = .ok (.iconst 0, 1)) (kk : zG w f d cr (t + 1) lv (vI (nI (bN (decide (¬ x < y)))) :: stk) σ r σ') : zG w f d cr pc lv (vI y :: vI x :: stk) σ r σ' := by
  refine g_icmp_lt (n := pc + 3) (t := t) hd1 rfl ht (fun q => ?_) (fun q => ?_)
  · refine g_iconst (n := t + 1) hd4 rfl k_ic_0 ?_
    rw [decide_eq_false (fun z => z q)] at kk
    exact kk
  · refine g_iconst (n := pc + 3 + 1) hd2 rfl k_ic_1 ?_
    refine g_goto (n := 0) (t := t + 1) hd3 hg ?_
    rw [decide_eq_true q] at kk
    exact kk
theorem g_dia_icmp_ge {x y : Int32} {b g : Int} (hd1 : decode f.2.1 pc = .ok (.if_icmp .ge b, 3)) (ht : (pc : Int) + b = (t : Int)) (hd2 : decode f.2.1 (pc + 3) = .ok (.iconst 1, 1)) (hd3 : decode f.2.1 (pc + 3 + 1) = .ok (.goto g, 3)) (hg : ((pc + 3 + 1 : Nat) : Int) + g = ((t + 1 : Nat) : Int)) (hd4 : decode f.2.1 t = .ok (.iconst 0, 1)) (kk : zG w f d cr (t + 1) lv (vI (nI (bN (decide (¬ y ≤ x)))) :: stk) σ r σ') : zG w f d cr pc lv (vI y :: vI x :: stk) σ r σ' := by
  refine g_icmp_ge (n := pc + 3) (t := t) hd1 rfl ht (fun q => ?_) (fun q => ?_)
  · refine g_iconst (n := t + 1) hd4 rfl k_ic_0 ?_
    rw [decide_eq_false (fun z => z q)] at kk
    exact kk
  · refine g_iconst (n := pc + 3 + 1) hd2 rfl k_ic_1 ?_
    refine g_goto (n := 0) (t := t + 1) hd3 hg ?_
    rw [decide_eq_true q] at kk
    exact kk
theorem g_dia_icmp_gt {x y : Int32} {b g : Int} (hd1 : decode f.2.1 pc = .ok (.if_icmp .gt b, 3)) (ht : (pc : Int) + b = (t : Int)) (hd2 : decode f.2.1 (pc + 3) = .ok (.iconst 1, 1)) (hd3 : decode f.2.1 (pc + 3 + 1) = .ok (.goto g, 3)) (hg : ((pc + 3 + 1 : Nat) : Int) + g = ((t + 1 : Nat) : Int)) (hd4 : decode f.2.1 t = .ok (.iconst 0, 1)) (kk : zG w f d cr (t + 1) lv (vI (nI (bN (decide (¬ y < x)))) :: stk) σ r σ') : zG w f d cr pc lv (vI y :: vI x :: stk) σ r σ' := by
  refine g_icmp_gt (n := pc + 3) (t := t) hd1 rfl ht (fun q => ?_) (fun q => ?_)
  · refine g_iconst (n := t + 1) hd4 rfl k_ic_0 ?_
    rw [decide_eq_false (fun z => z q)] at kk
    exact kk
  · refine g_iconst (n := pc + 3 + 1) hd2 rfl k_ic_1 ?_
    refine g_goto (n := 0) (t := t + 1) hd3 hg ?_
    rw [decide_eq_true q] at kk
    exact kk
theorem g_dia_icmp_le {x y : Int32} {b g : Int} (hd1 : decode f.2.1 pc = .ok (.if_icmp .le b, 3)) (ht : (pc : Int) + b = (t : Int)) (hd2 : decode f.2.1 (pc + 3) = .ok (.iconst 1, 1)) (hd3 : decode f.2.1 (pc + 3 + 1) = .ok (.goto g, 3)) (hg : ((pc + 3 + 1 : Nat) : Int) + g = ((t + 1 : Nat) : Int)) (hd4 : decode f.2.1 t = .ok (.iconst 0, 1)) (kk : zG w f d cr (t + 1) lv (vI (nI (bN (decide (¬ x ≤ y)))) :: stk) σ r σ') : zG w f d cr pc lv (vI y :: vI x :: stk) σ r σ' := by
  refine g_icmp_le (n := pc + 3) (t := t) hd1 rfl ht (fun q => ?_) (fun q => ?_)
  · refine g_iconst (n := t + 1) hd4 rfl k_ic_0 ?_
    rw [decide_eq_false (fun z => z q)] at kk
    exact kk
  · refine g_iconst (n := pc + 3 + 1) hd2 rfl k_ic_1 ?_
    refine g_goto (n := 0) (t := t + 1) hd3 hg ?_
    rw [decide_eq_true q] at kk
    exact kk
end DIA
section LH2
variable {w : zWp} {d : Nat} {M M1 : Nat → Nat → Nat → Int32} {O : Nat → Int64} {x y z b : Int32}
theorem h_road (cf : zC w mX9_road (d + 9) [vR 9 0, vI x, vI y, vI z] (zP M O) (zrI b) (zP M1 O)) : zCk w mL_road 0 (d + 10) [vR 9 0, vI x, vI y, vI z] (zP M O) (zrI b) (zP M1 O) := by
  refine zCk_ofH (L0 := [vR 9 0, vI x, vI y, vI z, vU]) (by decide) (by decide) rfl (Nat.le_of_ble_eq_true rfl) rfl rfl ?_
  refine g_aload_n (n := 1) dL_road_0 rfl rfl ?_
  refine g_iload_n (n := 2) dL_road_1 rfl rfl ?_
  refine g_iload_n (n := 3) dL_road_2 rfl rfl ?_
  refine g_iload_n (n := 4) dL_road_3 rfl rfl ?_
  refine g_cVv (n := 7) cf dL_road_4 rfl kw_L_9 rfl (by decide) (z_lvP (by first | decide | assumption)) (Nat.le_of_ble_eq_true rfl) ⟨Nat.le_refl _, Nat.le_refl _⟩ ?_ rfl
  exact g_ireturn dL_road_7 rfl rfl rfl rfl
theorem h_road1 (cf : zC w mX9_road (d + 9) [vR 9 0, vI x, vI y, vI z] (zP M O) (zrX xIOOB) (zP M1 O)) : zCk w mL_road 1 (d + 10) [vR 9 0, vI x, vI y, vI z] (zP M O) (zrI (-2000001)) (zP M1 O) := by
  refine zCk_ofH (L0 := [vR 9 0, vI x, vI y, vI z, vU]) (by decide) (by decide) rfl (Nat.le_of_ble_eq_true rfl) rfl rfl ?_
  refine g_aload_n (n := 1) dL_road_0 rfl rfl ?_
  refine g_iload_n (n := 2) dL_road_1 rfl rfl ?_
  refine g_iload_n (n := 3) dL_road_2 rfl rfl ?_
  refine g_iload_n (n := 4) dL_road_3 rfl rfl ?_
  refine g_cVH (cr := 0) (pre := []) (x := ⟨0, 7, 8, 15⟩) (suf := [⟨0, 7, 13, 18⟩]) cf dL_road_4 kw_L_9 rfl (by decide) (z_lvP (by decide)) (Nat.le_of_ble_eq_true rfl) ⟨Nat.le_refl _, Nat.le_refl _⟩ rfl rfl (fun z h => by cases h) zE_i1 rfl (by decide) kx_L_15 (fun q => ?_) rfl
  refine g_astoreX (k := 4) dL_road_8 rfl (by decide) (fun u _ h => by cases h; rfl) rfl ?_
  refine g_ldc (n := 12) dL_road_10 rfl kc_L_17 ?_
  exact g_ireturn dL_road_12 rfl rfl rfl rfl
theorem h_road2 (cf : zC w mX9_road (d + 9) [vR 9 0, vI x, vI y, vI z] (zP M O) (zrX xIA) (zP M1 O)) : zCk w mL_road 1 (d + 10) [vR 9 0, vI x, vI y, vI z] (zP M O) (zrI (-2000002)) (zP M1 O) := by
  refine zCk_ofH (L0 := [vR 9 0, vI x, vI y, vI z, vU]) (by decide) (by decide) rfl (Nat.le_of_ble_eq_true rfl) rfl rfl ?_
  refine g_aload_n (n := 1) dL_road_0 rfl rfl ?_
  refine g_iload_n (n := 2) dL_road_1 rfl rfl ?_
  refine g_iload_n (n := 3) dL_road_2 rfl rfl ?_
  refine g_iload_n (n := 4) dL_road_3 rfl rfl ?_
  refine g_cVH (cr := 0) (pre := [⟨0, 7, 8, 15⟩]) (x := ⟨0, 7, 13, 18⟩) (suf := []) cf dL_road_4 kw_L_9 rfl (by decide) (z_lvP (by decide)) (Nat.le_of_ble_eq_true rfl) ⟨Nat.le_refl _, Nat.le_refl _⟩ rfl rfl (fun z h => by rw [List.mem_singleton.mp h]; exact Or.inr ⟨by decide, xIOOB, zE_i1, zE_1.symm, kx_L_15⟩) zE_i2 rfl (by decide) kx_L_18 (fun q => ?_) rfl
  refine g_astoreX (k := 4) dL_road_13 rfl (by decide) (fun u _ h => by cases h; rfl) rfl ?_
  refine g_ldc (n := 17) dL_road_15 rfl kc_L_20 ?_
  exact g_ireturn dL_road_17 rfl rfl rfl rfl
theorem h_exit (cf : zC w mX9_exit (d + 9) [vR 9 0, vI x, vI y] (zP M O) (zrI b) (zP M1 O)) : zCk w mL_exit 0 (d + 10) [vR 9 0, vI x, vI y] (zP M O) (zrI b) (zP M1 O) := by
  refine zCk_ofH (L0 := [vR 9 0, vI x, vI y, vU]) (by decide) (by decide) rfl (Nat.le_of_ble_eq_true rfl) rfl rfl ?_
  refine g_aload_n (n := 1) dL_exit_0 rfl rfl ?_
  refine g_iload_n (n := 2) dL_exit_1 rfl rfl ?_
  refine g_iload_n (n := 3) dL_exit_2 rfl rfl ?_
  refine g_cVv (n := 6) cf dL_exit_3 rfl kw_L_21 rfl (by decide) (z_lvP (by first | decide | assumption)) (Nat.le_of_ble_eq_true rfl) ⟨Nat.le_refl _, Nat.le_refl _⟩ ?_ rfl
  exact g_ireturn dL_exit_6 rfl rfl rfl rfl
theorem h_exit1 (cf : zC w mX9_exit (d + 9) [vR 9 0, vI x, vI y] (zP M O) (zrX xIOOB) (zP M1 O)) : zCk w mL_exit 1 (d + 10) [vR 9 0, vI x, vI y] (zP M O) (zrI (-2000001)) (zP M1 O) := by
  refine zCk_ofH (L0 := [vR 9 0, vI x, vI y, vU]) (by decide) (by decide) rfl (Nat.le_of_ble_eq_true rfl) rfl rfl ?_
  refine g_aload_n (n := 1) dL_exit_0 rfl rfl ?_
  refine g_iload_n (n := 2) dL_exit_1 rfl rfl ?_
  refine g_iload_n (n := 3) dL_exit_2 rfl rfl ?_
  refine g_cVH (cr := 0) (pre := []) (x := ⟨0, 6, 7, 15⟩) (suf := [⟨0, 6, 11, 25⟩]) cf dL_exit_3 kw_L_21 rfl (by decide) (z_lvP (by decide)) (Nat.le_of_ble_eq_true rfl) ⟨Nat.le_refl _, Nat.le_refl _⟩ rfl rfl (fun z h => by cases h) zE_i1 rfl (by decide) kx_L_15 (fun q => ?_) rfl
  refine g_astore_nX (k := 3) (k4 := 3) rfl dL_exit_7 rfl (by decide) (fun u _ h => by cases h; rfl) rfl ?_
  refine g_ldc (n := 10) dL_exit_8 rfl kc_L_17 ?_
  exact g_ireturn dL_exit_10 rfl rfl rfl rfl
theorem h_exit2 (cf : zC w mX9_exit (d + 9) [vR 9 0, vI x, vI y] (zP M O) (zrX xIS) (zP M1 O)) : zCk w mL_exit 1 (d + 10) [vR 9 0, vI x, vI y] (zP M O) (zrI (-2000002)) (zP M1 O) := by
  refine zCk_ofH (L0 := [vR 9 0, vI x, vI y, vU]) (by decide) (by decide) rfl (Nat.le_of_ble_eq_true rfl) rfl rfl ?_
  refine g_aload_n (n := 1) dL_exit_0 rfl rfl ?_
  refine g_iload_n (n := 2) dL_exit_1 rfl rfl ?_
  refine g_iload_n (n := 3) dL_exit_2 rfl rfl ?_
  refine g_cVH (cr := 0) (pre := [⟨0, 6, 7, 15⟩]) (x := ⟨0, 6, 11, 25⟩) (suf := []) cf dL_exit_3 kw_L_21 rfl (by decide) (z_lvP (by decide)) (Nat.le_of_ble_eq_true rfl) ⟨Nat.le_refl _, Nat.le_refl _⟩ rfl rfl (fun z h => by rw [List.mem_singleton.mp h]; exact Or.inr ⟨by decide, xIOOB, zE_i1, zE_2.symm, kx_L_15⟩) zE_i3 rfl (by decide) kx_L_25 (fun q => ?_) rfl
  refine g_astore_nX (k := 3) (k4 := 3) rfl dL_exit_11 rfl (by decide) (fun u _ h => by cases h; rfl) rfl ?_
  refine g_ldc (n := 14) dL_exit_12 rfl kc_L_20 ?_
  exact g_ireturn dL_exit_14 rfl rfl rfl rfl
theorem h_turn (cf : zC w mX9_turn (d + 9) [vR 9 0, vI x] (zP M O) (zrI b) (zP M1 O)) : zCk w mL_turn 0 (d + 10) [vR 9 0, vI x] (zP M O) (zrI b) (zP M1 O) := by
  refine zCk_ofH (L0 := [vR 9 0, vI x, vU]) (by decide) (by decide) rfl (Nat.le_of_ble_eq_true rfl) rfl rfl ?_
  refine g_aload_n (n := 1) dL_turn_0 rfl rfl ?_
  refine g_iload_n (n := 2) dL_turn_1 rfl rfl ?_
  refine g_cVv (n := 5) cf dL_turn_2 rfl kw_L_27 rfl (by decide) (z_lvP (by first | decide | assumption)) (Nat.le_of_ble_eq_true rfl) ⟨Nat.le_refl _, Nat.le_refl _⟩ ?_ rfl
  exact g_ireturn dL_turn_5 rfl rfl rfl rfl
theorem h_turn1 (cf : zC w mX9_turn (d + 9) [vR 9 0, vI x] (zP M O) (zrX xIOOB) (zP M1 O)) : zCk w mL_turn 1 (d + 10) [vR 9 0, vI x] (zP M O) (zrI (-2000001)) (zP M1 O) := by
  refine zCk_ofH (L0 := [vR 9 0, vI x, vU]) (by decide) (by decide) rfl (Nat.le_of_ble_eq_true rfl) rfl rfl ?_
  refine g_aload_n (n := 1) dL_turn_0 rfl rfl ?_
  refine g_iload_n (n := 2) dL_turn_1 rfl rfl ?_
  refine g_cVH (cr := 0) (pre := []) (x := ⟨0, 5, 6, 15⟩) (suf := []) cf dL_turn_2 kw_L_27 rfl (by decide) (z_lvP (by decide)) (Nat.le_of_ble_eq_true rfl) ⟨Nat.le_refl _, Nat.le_refl _⟩ rfl rfl (fun z h => by cases h) zE_i1 rfl (by decide) kx_L_15 (fun q => ?_) rfl
  refine g_astore_nX (k := 2) (k4 := 2) rfl dL_turn_6 rfl (by decide) (fun u _ h => by cases h; rfl) rfl ?_
  refine g_ldc (n := 9) dL_turn_7 rfl kc_L_17 ?_
  exact g_ireturn dL_turn_9 rfl rfl rfl rfl
theorem h_offer (cf : zC w mX9_offer (d + 9) [vR 9 0, vI x, vI y, vI z] (zP M O) (zrI b) (zP M1 O)) : zCk w mL_offer 0 (d + 10) [vR 9 0, vI x, vI y, vI z] (zP M O) (zrI b) (zP M1 O) := by
  refine zCk_ofH (L0 := [vR 9 0, vI x, vI y, vI z, vU]) (by decide) (by decide) rfl (Nat.le_of_ble_eq_true rfl) rfl rfl ?_
  refine g_aload_n (n := 1) dL_offer_0 rfl rfl ?_
  refine g_iload_n (n := 2) dL_offer_1 rfl rfl ?_
  refine g_iload_n (n := 3) dL_offer_2 rfl rfl ?_
  refine g_iload_n (n := 4) dL_offer_3 rfl rfl ?_
  refine g_cVv (n := 7) cf dL_offer_4 rfl kw_L_31 rfl (by decide) (z_lvP (by first | decide | assumption)) (Nat.le_of_ble_eq_true rfl) ⟨Nat.le_refl _, Nat.le_refl _⟩ ?_ rfl
  exact g_ireturn dL_offer_7 rfl rfl rfl rfl
theorem h_offer1 (cf : zC w mX9_offer (d + 9) [vR 9 0, vI x, vI y, vI z] (zP M O) (zrX xIOOB) (zP M1 O)) : zCk w mL_offer 1 (d + 10) [vR 9 0, vI x, vI y, vI z] (zP M O) (zrI (-2000001)) (zP M1 O) := by
  refine zCk_ofH (L0 := [vR 9 0, vI x, vI y, vI z, vU]) (by decide) (by decide) rfl (Nat.le_of_ble_eq_true rfl) rfl rfl ?_
  refine g_aload_n (n := 1) dL_offer_0 rfl rfl ?_
  refine g_iload_n (n := 2) dL_offer_1 rfl rfl ?_
  refine g_iload_n (n := 3) dL_offer_2 rfl rfl ?_
  refine g_iload_n (n := 4) dL_offer_3 rfl rfl ?_
  refine g_cVH (cr := 0) (pre := []) (x := ⟨0, 7, 8, 15⟩) (suf := [⟨0, 7, 13, 18⟩]) cf dL_offer_4 kw_L_31 rfl (by decide) (z_lvP (by decide)) (Nat.le_of_ble_eq_true rfl) ⟨Nat.le_refl _, Nat.le_refl _⟩ rfl rfl (fun z h => by cases h) zE_i1 rfl (by decide) kx_L_15 (fun q => ?_) rfl
  refine g_astoreX (k := 4) dL_offer_8 rfl (by decide) (fun u _ h => by cases h; rfl) rfl ?_
  refine g_ldc (n := 12) dL_offer_10 rfl kc_L_17 ?_
  exact g_ireturn dL_offer_12 rfl rfl rfl rfl
theorem h_offer2 (cf : zC w mX9_offer (d + 9) [vR 9 0, vI x, vI y, vI z] (zP M O) (zrX xIA) (zP M1 O)) : zCk w mL_offer 1 (d + 10) [vR 9 0, vI x, vI y, vI z] (zP M O) (zrI (-2000002)) (zP M1 O) := by
  refine zCk_ofH (L0 := [vR 9 0, vI x, vI y, vI z, vU]) (by decide) (by decide) rfl (Nat.le_of_ble_eq_true rfl) rfl rfl ?_
  refine g_aload_n (n := 1) dL_offer_0 rfl rfl ?_
  refine g_iload_n (n := 2) dL_offer_1 rfl rfl ?_
  refine g_iload_n (n := 3) dL_offer_2 rfl rfl ?_
  refine g_iload_n (n := 4) dL_offer_3 rfl rfl ?_
  refine g_cVH (cr := 0) (pre := [⟨0, 7, 8, 15⟩]) (x := ⟨0, 7, 13, 18⟩) (suf := []) cf dL_offer_4 kw_L_31 rfl (by decide) (z_lvP (by decide)) (Nat.le_of_ble_eq_true rfl) ⟨Nat.le_refl _, Nat.le_refl _⟩ rfl rfl (fun z h => by rw [List.mem_singleton.mp h]; exact Or.inr ⟨by decide, xIOOB, zE_i1, zE_1.symm, kx_L_15⟩) zE_i2 rfl (by decide) kx_L_18 (fun q => ?_) rfl
  refine g_astoreX (k := 4) dL_offer_13 rfl (by decide) (fun u _ h => by cases h; rfl) rfl ?_
  refine g_ldc (n := 17) dL_offer_15 rfl kc_L_20 ?_
  exact g_ireturn dL_offer_17 rfl rfl rfl rfl
theorem h_bound (cf : zC w mX9_bound (d + 9) [vR 9 0, vI x, vI y] (zP M O) (zrI b) (zP M1 O)) : zCk w mL_bound 0 (d + 10) [vR 9 0, vI x, vI y] (zP M O) (zrI b) (zP M1 O) := by
  refine zCk_ofH (L0 := [vR 9 0, vI x, vI y, vU]) (by decide) (by decide) rfl (Nat.le_of_ble_eq_true rfl) rfl rfl ?_
  refine g_aload_n (n := 1) dL_bound_0 rfl rfl ?_
  refine g_iload_n (n := 2) dL_bound_1 rfl rfl ?_
  refine g_iload_n (n := 3) dL_bound_2 rfl rfl ?_
  refine g_cVv (n := 6) cf dL_bound_3 rfl kw_L_34 rfl (by decide) (z_lvP (by first | decide | assumption)) (Nat.le_of_ble_eq_true rfl) ⟨Nat.le_refl _, Nat.le_refl _⟩ ?_ rfl
  exact g_ireturn dL_bound_6 rfl rfl rfl rfl
theorem h_bound1 (cf : zC w mX9_bound (d + 9) [vR 9 0, vI x, vI y] (zP M O) (zrX xIOOB) (zP M1 O)) : zCk w mL_bound 1 (d + 10) [vR 9 0, vI x, vI y] (zP M O) (zrI (-2000001)) (zP M1 O) := by
  refine zCk_ofH (L0 := [vR 9 0, vI x, vI y, vU]) (by decide) (by decide) rfl (Nat.le_of_ble_eq_true rfl) rfl rfl ?_
  refine g_aload_n (n := 1) dL_bound_0 rfl rfl ?_
  refine g_iload_n (n := 2) dL_bound_1 rfl rfl ?_
  refine g_iload_n (n := 3) dL_bound_2 rfl rfl ?_
  refine g_cVH (cr := 0) (pre := []) (x := ⟨0, 6, 7, 15⟩) (suf := [⟨0, 6, 11, 18⟩]) cf dL_bound_3 kw_L_34 rfl (by decide) (z_lvP (by decide)) (Nat.le_of_ble_eq_true rfl) ⟨Nat.le_refl _, Nat.le_refl _⟩ rfl rfl (fun z h => by cases h) zE_i1 rfl (by decide) kx_L_15 (fun q => ?_) rfl
  refine g_astore_nX (k := 3) (k4 := 3) rfl dL_bound_7 rfl (by decide) (fun u _ h => by cases h; rfl) rfl ?_
  refine g_ldc (n := 10) dL_bound_8 rfl kc_L_17 ?_
  exact g_ireturn dL_bound_10 rfl rfl rfl rfl
theorem h_bound2 (cf : zC w mX9_bound (d + 9) [vR 9 0, vI x, vI y] (zP M O) (zrX xIA) (zP M1 O)) : zCk w mL_bound 1 (d + 10) [vR 9 0, vI x, vI y] (zP M O) (zrI (-2000002)) (zP M1 O) := by
  refine zCk_ofH (L0 := [vR 9 0, vI x, vI y, vU]) (by decide) (by decide) rfl (Nat.le_of_ble_eq_true rfl) rfl rfl ?_
  refine g_aload_n (n := 1) dL_bound_0 rfl rfl ?_
  refine g_iload_n (n := 2) dL_bound_1 rfl rfl ?_
  refine g_iload_n (n := 3) dL_bound_2 rfl rfl ?_
  refine g_cVH (cr := 0) (pre := [⟨0, 6, 7, 15⟩]) (x := ⟨0, 6, 11, 18⟩) (suf := []) cf dL_bound_3 kw_L_34 rfl (by decide) (z_lvP (by decide)) (Nat.le_of_ble_eq_true rfl) ⟨Nat.le_refl _, Nat.le_refl _⟩ rfl rfl (fun z h => by rw [List.mem_singleton.mp h]; exact Or.inr ⟨by decide, xIOOB, zE_i1, zE_1.symm, kx_L_15⟩) zE_i2 rfl (by decide) kx_L_18 (fun q => ?_) rfl
  refine g_astore_nX (k := 3) (k4 := 3) rfl dL_bound_11 rfl (by decide) (fun u _ h => by cases h; rfl) rfl ?_
  refine g_ldc (n := 14) dL_bound_12 rfl kc_L_20 ?_
  exact g_ireturn dL_bound_14 rfl rfl rfl rfl
theorem h_set (cf : zC w mX9_set (d + 9) [vR 9 0, vI x, vI y] (zP M O) (zrI b) (zP M1 O)) : zCk w mL_set 0 (d + 10) [vR 9 0, vI x, vI y] (zP M O) (zrI b) (zP M1 O) := by
  refine zCk_ofH (L0 := [vR 9 0, vI x, vI y, vU]) (by decide) (by decide) rfl (Nat.le_of_ble_eq_true rfl) rfl rfl ?_
  refine g_aload_n (n := 1) dL_set_0 rfl rfl ?_
  refine g_iload_n (n := 2) dL_set_1 rfl rfl ?_
  refine g_iload_n (n := 3) dL_set_2 rfl rfl ?_
  refine g_cVv (n := 6) cf dL_set_3 rfl kw_L_37 rfl (by decide) (z_lvP (by first | decide | assumption)) (Nat.le_of_ble_eq_true rfl) ⟨Nat.le_refl _, Nat.le_refl _⟩ ?_ rfl
  exact g_ireturn dL_set_6 rfl rfl rfl rfl
theorem h_set1 (cf : zC w mX9_set (d + 9) [vR 9 0, vI x, vI y] (zP M O) (zrX xIOOB) (zP M1 O)) : zCk w mL_set 1 (d + 10) [vR 9 0, vI x, vI y] (zP M O) (zrI (-2000001)) (zP M1 O) := by
  refine zCk_ofH (L0 := [vR 9 0, vI x, vI y, vU]) (by decide) (by decide) rfl (Nat.le_of_ble_eq_true rfl) rfl rfl ?_
  refine g_aload_n (n := 1) dL_set_0 rfl rfl ?_
  refine g_iload_n (n := 2) dL_set_1 rfl rfl ?_
  refine g_iload_n (n := 3) dL_set_2 rfl rfl ?_
  refine g_cVH (cr := 0) (pre := []) (x := ⟨0, 6, 7, 15⟩) (suf := [⟨0, 6, 11, 18⟩]) cf dL_set_3 kw_L_37 rfl (by decide) (z_lvP (by decide)) (Nat.le_of_ble_eq_true rfl) ⟨Nat.le_refl _, Nat.le_refl _⟩ rfl rfl (fun z h => by cases h) zE_i1 rfl (by decide) kx_L_15 (fun q => ?_) rfl
  refine g_astore_nX (k := 3) (k4 := 3) rfl dL_set_7 rfl (by decide) (fun u _ h => by cases h; rfl) rfl ?_
  refine g_ldc (n := 10) dL_set_8 rfl kc_L_17 ?_
  exact g_ireturn dL_set_10 rfl rfl rfl rfl
theorem h_set2 (cf : zC w mX9_set (d + 9) [vR 9 0, vI x, vI y] (zP M O) (zrX xIA) (zP M1 O)) : zCk w mL_set 1 (d + 10) [vR 9 0, vI x, vI y] (zP M O) (zrI (-2000002)) (zP M1 O) := by
  refine zCk_ofH (L0 := [vR 9 0, vI x, vI y, vU]) (by decide) (by decide) rfl (Nat.le_of_ble_eq_true rfl) rfl rfl ?_
  refine g_aload_n (n := 1) dL_set_0 rfl rfl ?_
  refine g_iload_n (n := 2) dL_set_1 rfl rfl ?_
  refine g_iload_n (n := 3) dL_set_2 rfl rfl ?_
  refine g_cVH (cr := 0) (pre := [⟨0, 6, 7, 15⟩]) (x := ⟨0, 6, 11, 18⟩) (suf := []) cf dL_set_3 kw_L_37 rfl (by decide) (z_lvP (by decide)) (Nat.le_of_ble_eq_true rfl) ⟨Nat.le_refl _, Nat.le_refl _⟩ rfl rfl (fun z h => by rw [List.mem_singleton.mp h]; exact Or.inr ⟨by decide, xIOOB, zE_i1, zE_1.symm, kx_L_15⟩) zE_i2 rfl (by decide) kx_L_18 (fun q => ?_) rfl
  refine g_astore_nX (k := 3) (k4 := 3) rfl dL_set_11 rfl (by decide) (fun u _ h => by cases h; rfl) rfl ?_
  refine g_ldc (n := 14) dL_set_12 rfl kc_L_20 ?_
  exact g_ireturn dL_set_14 rfl rfl rfl rfl
theorem h_send (cf : zC w mX9_send (d + 9) [vR 9 0, vI x, vI y] (zP M O) (zrI b) (zP M1 O)) : zCk w mL_send 0 (d + 10) [vR 9 0, vI x, vI y] (zP M O) (zrI b) (zP M1 O) := by
  refine zCk_ofH (L0 := [vR 9 0, vI x, vI y, vU]) (by decide) (by decide) rfl (Nat.le_of_ble_eq_true rfl) rfl rfl ?_
  refine g_aload_n (n := 1) dL_send_0 rfl rfl ?_
  refine g_iload_n (n := 2) dL_send_1 rfl rfl ?_
  refine g_iload_n (n := 3) dL_send_2 rfl rfl ?_
  refine g_cVv (n := 6) cf dL_send_3 rfl kw_L_40 rfl (by decide) (z_lvP (by first | decide | assumption)) (Nat.le_of_ble_eq_true rfl) ⟨Nat.le_refl _, Nat.le_refl _⟩ ?_ rfl
  exact g_ireturn dL_send_6 rfl rfl rfl rfl
theorem h_send1 (cf : zC w mX9_send (d + 9) [vR 9 0, vI x, vI y] (zP M O) (zrX xIOOB) (zP M1 O)) : zCk w mL_send 1 (d + 10) [vR 9 0, vI x, vI y] (zP M O) (zrI (-2000001)) (zP M1 O) := by
  refine zCk_ofH (L0 := [vR 9 0, vI x, vI y, vU]) (by decide) (by decide) rfl (Nat.le_of_ble_eq_true rfl) rfl rfl ?_
  refine g_aload_n (n := 1) dL_send_0 rfl rfl ?_
  refine g_iload_n (n := 2) dL_send_1 rfl rfl ?_
  refine g_iload_n (n := 3) dL_send_2 rfl rfl ?_
  refine g_cVH (cr := 0) (pre := []) (x := ⟨0, 6, 7, 15⟩) (suf := [⟨0, 6, 11, 25⟩]) cf dL_send_3 kw_L_40 rfl (by decide) (z_lvP (by decide)) (Nat.le_of_ble_eq_true rfl) ⟨Nat.le_refl _, Nat.le_refl _⟩ rfl rfl (fun z h => by cases h) zE_i1 rfl (by decide) kx_L_15 (fun q => ?_) rfl
  refine g_astore_nX (k := 3) (k4 := 3) rfl dL_send_7 rfl (by decide) (fun u _ h => by cases h; rfl) rfl ?_
  refine g_ldc (n := 10) dL_send_8 rfl kc_L_17 ?_
  exact g_ireturn dL_send_10 rfl rfl rfl rfl
theorem h_send2 (cf : zC w mX9_send (d + 9) [vR 9 0, vI x, vI y] (zP M O) (zrX xIS) (zP M1 O)) : zCk w mL_send 1 (d + 10) [vR 9 0, vI x, vI y] (zP M O) (zrI (-2000002)) (zP M1 O) := by
  refine zCk_ofH (L0 := [vR 9 0, vI x, vI y, vU]) (by decide) (by decide) rfl (Nat.le_of_ble_eq_true rfl) rfl rfl ?_
  refine g_aload_n (n := 1) dL_send_0 rfl rfl ?_
  refine g_iload_n (n := 2) dL_send_1 rfl rfl ?_
  refine g_iload_n (n := 3) dL_send_2 rfl rfl ?_
  refine g_cVH (cr := 0) (pre := [⟨0, 6, 7, 15⟩]) (x := ⟨0, 6, 11, 25⟩) (suf := []) cf dL_send_3 kw_L_40 rfl (by decide) (z_lvP (by decide)) (Nat.le_of_ble_eq_true rfl) ⟨Nat.le_refl _, Nat.le_refl _⟩ rfl rfl (fun z h => by rw [List.mem_singleton.mp h]; exact Or.inr ⟨by decide, xIOOB, zE_i1, zE_2.symm, kx_L_15⟩) zE_i3 rfl (by decide) kx_L_25 (fun q => ?_) rfl
  refine g_astore_nX (k := 3) (k4 := 3) rfl dL_send_11 rfl (by decide) (fun u _ h => by cases h; rfl) rfl ?_
  refine g_ldc (n := 14) dL_send_12 rfl kc_L_20 ?_
  exact g_ireturn dL_send_14 rfl rfl rfl rfl
theorem h_append (cf : zC w mX9_append (d + 9) [vR 9 0, vI x] (zP M O) (zrI b) (zP M1 O)) : zCk w mL_append 0 (d + 10) [vR 9 0, vI x] (zP M O) (zrI b) (zP M1 O) := by
  refine zCk_ofH (L0 := [vR 9 0, vI x, vU]) (by decide) (by decide) rfl (Nat.le_of_ble_eq_true rfl) rfl rfl ?_
  refine g_aload_n (n := 1) dL_append_0 rfl rfl ?_
  refine g_iload_n (n := 2) dL_append_1 rfl rfl ?_
  refine g_cVv (n := 5) cf dL_append_2 rfl kw_L_43 rfl (by decide) (z_lvP (by first | decide | assumption)) (Nat.le_of_ble_eq_true rfl) ⟨Nat.le_refl _, Nat.le_refl _⟩ ?_ rfl
  exact g_ireturn dL_append_5 rfl rfl rfl rfl
theorem h_append1 (cf : zC w mX9_append (d + 9) [vR 9 0, vI x] (zP M O) (zrX xIA) (zP M1 O)) : zCk w mL_append 1 (d + 10) [vR 9 0, vI x] (zP M O) (zrI (-2000001)) (zP M1 O) := by
  refine zCk_ofH (L0 := [vR 9 0, vI x, vU]) (by decide) (by decide) rfl (Nat.le_of_ble_eq_true rfl) rfl rfl ?_
  refine g_aload_n (n := 1) dL_append_0 rfl rfl ?_
  refine g_iload_n (n := 2) dL_append_1 rfl rfl ?_
  refine g_cVH (cr := 0) (pre := []) (x := ⟨0, 5, 6, 18⟩) (suf := [⟨0, 5, 10, 25⟩]) cf dL_append_2 kw_L_43 rfl (by decide) (z_lvP (by decide)) (Nat.le_of_ble_eq_true rfl) ⟨Nat.le_refl _, Nat.le_refl _⟩ rfl rfl (fun z h => by cases h) zE_i2 rfl (by decide) kx_L_18 (fun q => ?_) rfl
  refine g_astore_nX (k := 2) (k4 := 2) rfl dL_append_6 rfl (by decide) (fun u _ h => by cases h; rfl) rfl ?_
  refine g_ldc (n := 9) dL_append_7 rfl kc_L_17 ?_
  exact g_ireturn dL_append_9 rfl rfl rfl rfl
theorem h_append2 (cf : zC w mX9_append (d + 9) [vR 9 0, vI x] (zP M O) (zrX xIS) (zP M1 O)) : zCk w mL_append 1 (d + 10) [vR 9 0, vI x] (zP M O) (zrI (-2000002)) (zP M1 O) := by
  refine zCk_ofH (L0 := [vR 9 0, vI x, vU]) (by decide) (by decide) rfl (Nat.le_of_ble_eq_true rfl) rfl rfl ?_
  refine g_aload_n (n := 1) dL_append_0 rfl rfl ?_
  refine g_iload_n (n := 2) dL_append_1 rfl rfl ?_
  refine g_cVH (cr := 0) (pre := [⟨0, 5, 6, 18⟩]) (x := ⟨0, 5, 10, 25⟩) (suf := []) cf dL_append_2 kw_L_43 rfl (by decide) (z_lvP (by decide)) (Nat.le_of_ble_eq_true rfl) ⟨Nat.le_refl _, Nat.le_refl _⟩ rfl rfl (fun z h => by rw [List.mem_singleton.mp h]; exact Or.inr ⟨by decide, xIA, zE_i2, zE_3.symm, kx_L_18⟩) zE_i3 rfl (by decide) kx_L_25 (fun q => ?_) rfl
  refine g_astore_nX (k := 2) (k4 := 2) rfl dL_append_10 rfl (by decide) (fun u _ h => by cases h; rfl) rfl ?_
  refine g_ldc (n := 13) dL_append_11 rfl kc_L_20 ?_
  exact g_ireturn dL_append_13 rfl rfl rfl rfl
theorem h_run (cf : zC w mX9_run (d + 9) [vR 9 0] (zP M O) (zrI b) (zP M1 O)) : zCk w mL_run 0 (d + 10) [vR 9 0] (zP M O) (zrI b) (zP M1 O) := by
  refine zCk_ofH (L0 := [vR 9 0, vU]) (by decide) (by decide) rfl (Nat.le_of_ble_eq_true rfl) rfl rfl ?_
  refine g_aload_n (n := 1) dL_run_0 rfl rfl ?_
  refine g_cVv (n := 4) cf dL_run_1 rfl kw_L_46 rfl (by decide) (z_lvP (by first | decide | assumption)) (Nat.le_of_ble_eq_true rfl) ⟨Nat.le_refl _, Nat.le_refl _⟩ ?_ rfl
  exact g_ireturn dL_run_4 rfl rfl rfl rfl
theorem h_run1 (cf : zC w mX9_run (d + 9) [vR 9 0] (zP M O) (zrX xIA) (zP M1 O)) : zCk w mL_run 1 (d + 10) [vR 9 0] (zP M O) (zrI (-2000001)) (zP M1 O) := by
  refine zCk_ofH (L0 := [vR 9 0, vU]) (by decide) (by decide) rfl (Nat.le_of_ble_eq_true rfl) rfl rfl ?_
  refine g_aload_n (n := 1) dL_run_0 rfl rfl ?_
  refine g_cVH (cr := 0) (pre := []) (x := ⟨0, 4, 5, 18⟩) (suf := []) cf dL_run_1 kw_L_46 rfl (by decide) (z_lvP (by decide)) (Nat.le_of_ble_eq_true rfl) ⟨Nat.le_refl _, Nat.le_refl _⟩ rfl rfl (fun z h => by cases h) zE_i2 rfl (by decide) kx_L_18 (fun q => ?_) rfl
  refine g_astore_nX (k := 1) (k4 := 1) rfl dL_run_5 rfl (by decide) (fun u _ h => by cases h; rfl) rfl ?_
  refine g_ldc (n := 8) dL_run_6 rfl kc_L_17 ?_
  exact g_ireturn dL_run_8 rfl rfl rfl rfl
theorem h_keep (cf : zC w mX9_keep (d + 9) [vR 9 0, vI x] (zP M O) (zrI b) (zP M1 O)) : zCk w mL_keep 0 (d + 10) [vR 9 0, vI x] (zP M O) (zrI b) (zP M1 O) := by
  refine zCk_ofH (L0 := [vR 9 0, vI x, vU]) (by decide) (by decide) rfl (Nat.le_of_ble_eq_true rfl) rfl rfl ?_
  refine g_aload_n (n := 1) dL_keep_0 rfl rfl ?_
  refine g_iload_n (n := 2) dL_keep_1 rfl rfl ?_
  refine g_cVv (n := 5) cf dL_keep_2 rfl kw_L_50 rfl (by decide) (z_lvP (by first | decide | assumption)) (Nat.le_of_ble_eq_true rfl) ⟨Nat.le_refl _, Nat.le_refl _⟩ ?_ rfl
  exact g_ireturn dL_keep_5 rfl rfl rfl rfl
theorem h_keep1 (cf : zC w mX9_keep (d + 9) [vR 9 0, vI x] (zP M O) (zrX xIA) (zP M1 O)) : zCk w mL_keep 1 (d + 10) [vR 9 0, vI x] (zP M O) (zrI (-2000001)) (zP M1 O) := by
  refine zCk_ofH (L0 := [vR 9 0, vI x, vU]) (by decide) (by decide) rfl (Nat.le_of_ble_eq_true rfl) rfl rfl ?_
  refine g_aload_n (n := 1) dL_keep_0 rfl rfl ?_
  refine g_iload_n (n := 2) dL_keep_1 rfl rfl ?_
  refine g_cVH (cr := 0) (pre := []) (x := ⟨0, 5, 6, 18⟩) (suf := []) cf dL_keep_2 kw_L_50 rfl (by decide) (z_lvP (by decide)) (Nat.le_of_ble_eq_true rfl) ⟨Nat.le_refl _, Nat.le_refl _⟩ rfl rfl (fun z h => by cases h) zE_i2 rfl (by decide) kx_L_18 (fun q => ?_) rfl
  refine g_astore_nX (k := 2) (k4 := 2) rfl dL_keep_6 rfl (by decide) (fun u _ h => by cases h; rfl) rfl ?_
  refine g_ldc (n := 9) dL_keep_7 rfl kc_L_17 ?_
  exact g_ireturn dL_keep_9 rfl rfl rfl rfl
theorem h_goBack (cf : zC w mX9_goBack (d + 9) [vR 9 0, vI x] (zP M O) (zrI b) (zP M1 O)) : zCk w mL_goBack 0 (d + 10) [vR 9 0, vI x] (zP M O) (zrI b) (zP M1 O) := by
  refine zCk_ofH (L0 := [vR 9 0, vI x, vU]) (by decide) (by decide) rfl (Nat.le_of_ble_eq_true rfl) rfl rfl ?_
  refine g_aload_n (n := 1) dL_goBack_0 rfl rfl ?_
  refine g_iload_n (n := 2) dL_goBack_1 rfl rfl ?_
  refine g_cVv (n := 5) cf dL_goBack_2 rfl kw_L_53 rfl (by decide) (z_lvP (by first | decide | assumption)) (Nat.le_of_ble_eq_true rfl) ⟨Nat.le_refl _, Nat.le_refl _⟩ ?_ rfl
  exact g_ireturn dL_goBack_5 rfl rfl rfl rfl
theorem h_goBack1 (cf : zC w mX9_goBack (d + 9) [vR 9 0, vI x] (zP M O) (zrX xIA) (zP M1 O)) : zCk w mL_goBack 1 (d + 10) [vR 9 0, vI x] (zP M O) (zrI (-2000001)) (zP M1 O) := by
  refine zCk_ofH (L0 := [vR 9 0, vI x, vU]) (by decide) (by decide) rfl (Nat.le_of_ble_eq_true rfl) rfl rfl ?_
  refine g_aload_n (n := 1) dL_goBack_0 rfl rfl ?_
  refine g_iload_n (n := 2) dL_goBack_1 rfl rfl ?_
  refine g_cVH (cr := 0) (pre := []) (x := ⟨0, 5, 6, 18⟩) (suf := [⟨0, 5, 10, 25⟩]) cf dL_goBack_2 kw_L_53 rfl (by decide) (z_lvP (by decide)) (Nat.le_of_ble_eq_true rfl) ⟨Nat.le_refl _, Nat.le_refl _⟩ rfl rfl (fun z h => by cases h) zE_i2 rfl (by decide) kx_L_18 (fun q => ?_) rfl
  refine g_astore_nX (k := 2) (k4 := 2) rfl dL_goBack_6 rfl (by decide) (fun u _ h => by cases h; rfl) rfl ?_
  refine g_ldc (n := 9) dL_goBack_7 rfl kc_L_17 ?_
  exact g_ireturn dL_goBack_9 rfl rfl rfl rfl
theorem h_goBack2 (cf : zC w mX9_goBack (d + 9) [vR 9 0, vI x] (zP M O) (zrX xIS) (zP M1 O)) : zCk w mL_goBack 1 (d + 10) [vR 9 0, vI x] (zP M O) (zrI (-2000002)) (zP M1 O) := by
  refine zCk_ofH (L0 := [vR 9 0, vI x, vU]) (by decide) (by decide) rfl (Nat.le_of_ble_eq_true rfl) rfl rfl ?_
  refine g_aload_n (n := 1) dL_goBack_0 rfl rfl ?_
  refine g_iload_n (n := 2) dL_goBack_1 rfl rfl ?_
  refine g_cVH (cr := 0) (pre := [⟨0, 5, 6, 18⟩]) (x := ⟨0, 5, 10, 25⟩) (suf := []) cf dL_goBack_2 kw_L_53 rfl (by decide) (z_lvP (by decide)) (Nat.le_of_ble_eq_true rfl) ⟨Nat.le_refl _, Nat.le_refl _⟩ rfl rfl (fun z h => by rw [List.mem_singleton.mp h]; exact Or.inr ⟨by decide, xIA, zE_i2, zE_3.symm, kx_L_18⟩) zE_i3 rfl (by decide) kx_L_25 (fun q => ?_) rfl
  refine g_astore_nX (k := 2) (k4 := 2) rfl dL_goBack_10 rfl (by decide) (fun u _ h => by cases h; rfl) rfl ?_
  refine g_ldc (n := 13) dL_goBack_11 rfl kc_L_20 ?_
  exact g_ireturn dL_goBack_13 rfl rfl rfl rfl
theorem h_undo (cf : zC w mX9_undo (d + 9) [vR 9 0] (zP M O) (zrI b) (zP M1 O)) : zCk w mL_undo 0 (d + 10) [vR 9 0] (zP M O) (zrI b) (zP M1 O) := by
  refine zCk_ofH (L0 := [vR 9 0, vU]) (by decide) (by decide) rfl (Nat.le_of_ble_eq_true rfl) rfl rfl ?_
  refine g_aload_n (n := 1) dL_undo_0 rfl rfl ?_
  refine g_cVv (n := 4) cf dL_undo_1 rfl kw_L_56 rfl (by decide) (z_lvP (by first | decide | assumption)) (Nat.le_of_ble_eq_true rfl) ⟨Nat.le_refl _, Nat.le_refl _⟩ ?_ rfl
  exact g_ireturn dL_undo_4 rfl rfl rfl rfl
theorem h_undo1 (cf : zC w mX9_undo (d + 9) [vR 9 0] (zP M O) (zrX xIS) (zP M1 O)) : zCk w mL_undo 1 (d + 10) [vR 9 0] (zP M O) (zrI (-2000001)) (zP M1 O) := by
  refine zCk_ofH (L0 := [vR 9 0, vU]) (by decide) (by decide) rfl (Nat.le_of_ble_eq_true rfl) rfl rfl ?_
  refine g_aload_n (n := 1) dL_undo_0 rfl rfl ?_
  refine g_cVH (cr := 0) (pre := []) (x := ⟨0, 4, 5, 25⟩) (suf := []) cf dL_undo_1 kw_L_56 rfl (by decide) (z_lvP (by decide)) (Nat.le_of_ble_eq_true rfl) ⟨Nat.le_refl _, Nat.le_refl _⟩ rfl rfl (fun z h => by cases h) zE_i3 rfl (by decide) kx_L_25 (fun q => ?_) rfl
  refine g_astore_nX (k := 1) (k4 := 1) rfl dL_undo_5 rfl (by decide) (fun u _ h => by cases h; rfl) rfl ?_
  refine g_ldc (n := 8) dL_undo_6 rfl kc_L_17 ?_
  exact g_ireturn dL_undo_8 rfl rfl rfl rfl
theorem h_roadOf (cf : zC w mX9_roadOf (d + 9) [vR 9 0, vI x, vI y] (zP M O) (zrI b) (zP M1 O)) : zCk w mL_roadOf 0 (d + 10) [vR 9 0, vI x, vI y] (zP M O) (zrI b) (zP M1 O) := by
  refine zCk_ofH (L0 := [vR 9 0, vI x, vI y, vU]) (by decide) (by decide) rfl (Nat.le_of_ble_eq_true rfl) rfl rfl ?_
  refine g_aload_n (n := 1) dL_roadOf_0 rfl rfl ?_
  refine g_iload_n (n := 2) dL_roadOf_1 rfl rfl ?_
  refine g_iload_n (n := 3) dL_roadOf_2 rfl rfl ?_
  refine g_cVv (n := 6) cf dL_roadOf_3 rfl kw_L_59 rfl (by decide) (z_lvP (by first | decide | assumption)) (Nat.le_of_ble_eq_true rfl) ⟨Nat.le_refl _, Nat.le_refl _⟩ ?_ rfl
  exact g_ireturn dL_roadOf_6 rfl rfl rfl rfl
theorem h_roadOf1 (cf : zC w mX9_roadOf (d + 9) [vR 9 0, vI x, vI y] (zP M O) (zrX xIOOB) (zP M1 O)) : zCk w mL_roadOf 1 (d + 10) [vR 9 0, vI x, vI y] (zP M O) (zrI (-2000001)) (zP M1 O) := by
  refine zCk_ofH (L0 := [vR 9 0, vI x, vI y, vU]) (by decide) (by decide) rfl (Nat.le_of_ble_eq_true rfl) rfl rfl ?_
  refine g_aload_n (n := 1) dL_roadOf_0 rfl rfl ?_
  refine g_iload_n (n := 2) dL_roadOf_1 rfl rfl ?_
  refine g_iload_n (n := 3) dL_roadOf_2 rfl rfl ?_
  refine g_cVH (cr := 0) (pre := []) (x := ⟨0, 6, 7, 15⟩) (suf := []) cf dL_roadOf_3 kw_L_59 rfl (by decide) (z_lvP (by decide)) (Nat.le_of_ble_eq_true rfl) ⟨Nat.le_refl _, Nat.le_refl _⟩ rfl rfl (fun z h => by cases h) zE_i1 rfl (by decide) kx_L_15 (fun q => ?_) rfl
  refine g_astore_nX (k := 3) (k4 := 3) rfl dL_roadOf_7 rfl (by decide) (fun u _ h => by cases h; rfl) rfl ?_
  refine g_ldc (n := 10) dL_roadOf_8 rfl kc_L_17 ?_
  exact g_ireturn dL_roadOf_10 rfl rfl rfl rfl
theorem h_distance (cf : zC w mX9_distance (d + 9) [vR 9 0, vI x, vI y, vI z] (zP M O) (zrI b) (zP M1 O)) : zCk w mL_distance 0 (d + 10) [vR 9 0, vI x, vI y, vI z] (zP M O) (zrI b) (zP M1 O) := by
  refine zCk_ofH (L0 := [vR 9 0, vI x, vI y, vI z, vU]) (by decide) (by decide) rfl (Nat.le_of_ble_eq_true rfl) rfl rfl ?_
  refine g_aload_n (n := 1) dL_distance_0 rfl rfl ?_
  refine g_iload_n (n := 2) dL_distance_1 rfl rfl ?_
  refine g_iload_n (n := 3) dL_distance_2 rfl rfl ?_
  refine g_iload_n (n := 4) dL_distance_3 rfl rfl ?_
  refine g_cVv (n := 7) cf dL_distance_4 rfl kw_L_62 rfl (by decide) (z_lvP (by first | decide | assumption)) (Nat.le_of_ble_eq_true rfl) ⟨Nat.le_refl _, Nat.le_refl _⟩ ?_ rfl
  exact g_ireturn dL_distance_7 rfl rfl rfl rfl
theorem h_distance1 (cf : zC w mX9_distance (d + 9) [vR 9 0, vI x, vI y, vI z] (zP M O) (zrX xIOOB) (zP M1 O)) : zCk w mL_distance 1 (d + 10) [vR 9 0, vI x, vI y, vI z] (zP M O) (zrI (-2000001)) (zP M1 O) := by
  refine zCk_ofH (L0 := [vR 9 0, vI x, vI y, vI z, vU]) (by decide) (by decide) rfl (Nat.le_of_ble_eq_true rfl) rfl rfl ?_
  refine g_aload_n (n := 1) dL_distance_0 rfl rfl ?_
  refine g_iload_n (n := 2) dL_distance_1 rfl rfl ?_
  refine g_iload_n (n := 3) dL_distance_2 rfl rfl ?_
  refine g_iload_n (n := 4) dL_distance_3 rfl rfl ?_
  refine g_cVH (cr := 0) (pre := []) (x := ⟨0, 7, 8, 15⟩) (suf := [⟨0, 7, 13, 18⟩]) cf dL_distance_4 kw_L_62 rfl (by decide) (z_lvP (by decide)) (Nat.le_of_ble_eq_true rfl) ⟨Nat.le_refl _, Nat.le_refl _⟩ rfl rfl (fun z h => by cases h) zE_i1 rfl (by decide) kx_L_15 (fun q => ?_) rfl
  refine g_astoreX (k := 4) dL_distance_8 rfl (by decide) (fun u _ h => by cases h; rfl) rfl ?_
  refine g_ldc (n := 12) dL_distance_10 rfl kc_L_17 ?_
  exact g_ireturn dL_distance_12 rfl rfl rfl rfl
theorem h_distance2 (cf : zC w mX9_distance (d + 9) [vR 9 0, vI x, vI y, vI z] (zP M O) (zrX xIA) (zP M1 O)) : zCk w mL_distance 1 (d + 10) [vR 9 0, vI x, vI y, vI z] (zP M O) (zrI (-2000002)) (zP M1 O) := by
  refine zCk_ofH (L0 := [vR 9 0, vI x, vI y, vI z, vU]) (by decide) (by decide) rfl (Nat.le_of_ble_eq_true rfl) rfl rfl ?_
  refine g_aload_n (n := 1) dL_distance_0 rfl rfl ?_
  refine g_iload_n (n := 2) dL_distance_1 rfl rfl ?_
  refine g_iload_n (n := 3) dL_distance_2 rfl rfl ?_
  refine g_iload_n (n := 4) dL_distance_3 rfl rfl ?_
  refine g_cVH (cr := 0) (pre := [⟨0, 7, 8, 15⟩]) (x := ⟨0, 7, 13, 18⟩) (suf := []) cf dL_distance_4 kw_L_62 rfl (by decide) (z_lvP (by decide)) (Nat.le_of_ble_eq_true rfl) ⟨Nat.le_refl _, Nat.le_refl _⟩ rfl rfl (fun z h => by rw [List.mem_singleton.mp h]; exact Or.inr ⟨by decide, xIOOB, zE_i1, zE_1.symm, kx_L_15⟩) zE_i2 rfl (by decide) kx_L_18 (fun q => ?_) rfl
  refine g_astoreX (k := 4) dL_distance_13 rfl (by decide) (fun u _ h => by cases h; rfl) rfl ?_
  refine g_ldc (n := 17) dL_distance_15 rfl kc_L_20 ?_
  exact g_ireturn dL_distance_17 rfl rfl rfl rfl
theorem h_exitOf (cf : zC w mX9_exitOf (d + 9) [vR 9 0, vI x, vI y] (zP M O) (zrI b) (zP M1 O)) : zCk w mL_exitOf 0 (d + 10) [vR 9 0, vI x, vI y] (zP M O) (zrI b) (zP M1 O) := by
  refine zCk_ofH (L0 := [vR 9 0, vI x, vI y, vU]) (by decide) (by decide) rfl (Nat.le_of_ble_eq_true rfl) rfl rfl ?_
  refine g_aload_n (n := 1) dL_exitOf_0 rfl rfl ?_
  refine g_iload_n (n := 2) dL_exitOf_1 rfl rfl ?_
  refine g_iload_n (n := 3) dL_exitOf_2 rfl rfl ?_
  refine g_cVv (n := 6) cf dL_exitOf_3 rfl kw_L_65 rfl (by decide) (z_lvP (by first | decide | assumption)) (Nat.le_of_ble_eq_true rfl) ⟨Nat.le_refl _, Nat.le_refl _⟩ ?_ rfl
  exact g_ireturn dL_exitOf_6 rfl rfl rfl rfl
theorem h_exitOf1 (cf : zC w mX9_exitOf (d + 9) [vR 9 0, vI x, vI y] (zP M O) (zrX xIOOB) (zP M1 O)) : zCk w mL_exitOf 1 (d + 10) [vR 9 0, vI x, vI y] (zP M O) (zrI (-2000001)) (zP M1 O) := by
  refine zCk_ofH (L0 := [vR 9 0, vI x, vI y, vU]) (by decide) (by decide) rfl (Nat.le_of_ble_eq_true rfl) rfl rfl ?_
  refine g_aload_n (n := 1) dL_exitOf_0 rfl rfl ?_
  refine g_iload_n (n := 2) dL_exitOf_1 rfl rfl ?_
  refine g_iload_n (n := 3) dL_exitOf_2 rfl rfl ?_
  refine g_cVH (cr := 0) (pre := []) (x := ⟨0, 6, 7, 15⟩) (suf := [⟨0, 6, 11, 18⟩]) cf dL_exitOf_3 kw_L_65 rfl (by decide) (z_lvP (by decide)) (Nat.le_of_ble_eq_true rfl) ⟨Nat.le_refl _, Nat.le_refl _⟩ rfl rfl (fun z h => by cases h) zE_i1 rfl (by decide) kx_L_15 (fun q => ?_) rfl
  refine g_astore_nX (k := 3) (k4 := 3) rfl dL_exitOf_7 rfl (by decide) (fun u _ h => by cases h; rfl) rfl ?_
  refine g_ldc (n := 10) dL_exitOf_8 rfl kc_L_17 ?_
  exact g_ireturn dL_exitOf_10 rfl rfl rfl rfl
theorem h_exitOf2 (cf : zC w mX9_exitOf (d + 9) [vR 9 0, vI x, vI y] (zP M O) (zrX xIA) (zP M1 O)) : zCk w mL_exitOf 1 (d + 10) [vR 9 0, vI x, vI y] (zP M O) (zrI (-2000002)) (zP M1 O) := by
  refine zCk_ofH (L0 := [vR 9 0, vI x, vI y, vU]) (by decide) (by decide) rfl (Nat.le_of_ble_eq_true rfl) rfl rfl ?_
  refine g_aload_n (n := 1) dL_exitOf_0 rfl rfl ?_
  refine g_iload_n (n := 2) dL_exitOf_1 rfl rfl ?_
  refine g_iload_n (n := 3) dL_exitOf_2 rfl rfl ?_
  refine g_cVH (cr := 0) (pre := [⟨0, 6, 7, 15⟩]) (x := ⟨0, 6, 11, 18⟩) (suf := []) cf dL_exitOf_3 kw_L_65 rfl (by decide) (z_lvP (by decide)) (Nat.le_of_ble_eq_true rfl) ⟨Nat.le_refl _, Nat.le_refl _⟩ rfl rfl (fun z h => by rw [List.mem_singleton.mp h]; exact Or.inr ⟨by decide, xIOOB, zE_i1, zE_1.symm, kx_L_15⟩) zE_i2 rfl (by decide) kx_L_18 (fun q => ?_) rfl
  refine g_astore_nX (k := 3) (k4 := 3) rfl dL_exitOf_11 rfl (by decide) (fun u _ h => by cases h; rfl) rfl ?_
  refine g_ldc (n := 14) dL_exitOf_12 rfl kc_L_20 ?_
  exact g_ireturn dL_exitOf_14 rfl rfl rfl rfl
theorem h_neighbourOf (cf : zC w mX9_neighbourOf (d + 9) [vR 9 0, vI x, vI y] (zP M O) (zrI b) (zP M1 O)) : zCk w mL_neighbourOf 0 (d + 10) [vR 9 0, vI x, vI y] (zP M O) (zrI b) (zP M1 O) := by
  refine zCk_ofH (L0 := [vR 9 0, vI x, vI y, vU]) (by decide) (by decide) rfl (Nat.le_of_ble_eq_true rfl) rfl rfl ?_
  refine g_aload_n (n := 1) dL_neighbourOf_0 rfl rfl ?_
  refine g_iload_n (n := 2) dL_neighbourOf_1 rfl rfl ?_
  refine g_iload_n (n := 3) dL_neighbourOf_2 rfl rfl ?_
  refine g_cVv (n := 6) cf dL_neighbourOf_3 rfl kw_L_68 rfl (by decide) (z_lvP (by first | decide | assumption)) (Nat.le_of_ble_eq_true rfl) ⟨Nat.le_refl _, Nat.le_refl _⟩ ?_ rfl
  exact g_ireturn dL_neighbourOf_6 rfl rfl rfl rfl
theorem h_neighbourOf1 (cf : zC w mX9_neighbourOf (d + 9) [vR 9 0, vI x, vI y] (zP M O) (zrX xIOOB) (zP M1 O)) : zCk w mL_neighbourOf 1 (d + 10) [vR 9 0, vI x, vI y] (zP M O) (zrI (-2000001)) (zP M1 O) := by
  refine zCk_ofH (L0 := [vR 9 0, vI x, vI y, vU]) (by decide) (by decide) rfl (Nat.le_of_ble_eq_true rfl) rfl rfl ?_
  refine g_aload_n (n := 1) dL_neighbourOf_0 rfl rfl ?_
  refine g_iload_n (n := 2) dL_neighbourOf_1 rfl rfl ?_
  refine g_iload_n (n := 3) dL_neighbourOf_2 rfl rfl ?_
  refine g_cVH (cr := 0) (pre := []) (x := ⟨0, 6, 7, 15⟩) (suf := [⟨0, 6, 11, 18⟩]) cf dL_neighbourOf_3 kw_L_68 rfl (by decide) (z_lvP (by decide)) (Nat.le_of_ble_eq_true rfl) ⟨Nat.le_refl _, Nat.le_refl _⟩ rfl rfl (fun z h => by cases h) zE_i1 rfl (by decide) kx_L_15 (fun q => ?_) rfl
  refine g_astore_nX (k := 3) (k4 := 3) rfl dL_neighbourOf_7 rfl (by decide) (fun u _ h => by cases h; rfl) rfl ?_
  refine g_ldc (n := 10) dL_neighbourOf_8 rfl kc_L_17 ?_
  exact g_ireturn dL_neighbourOf_10 rfl rfl rfl rfl
theorem h_neighbourOf2 (cf : zC w mX9_neighbourOf (d + 9) [vR 9 0, vI x, vI y] (zP M O) (zrX xIA) (zP M1 O)) : zCk w mL_neighbourOf 1 (d + 10) [vR 9 0, vI x, vI y] (zP M O) (zrI (-2000002)) (zP M1 O) := by
  refine zCk_ofH (L0 := [vR 9 0, vI x, vI y, vU]) (by decide) (by decide) rfl (Nat.le_of_ble_eq_true rfl) rfl rfl ?_
  refine g_aload_n (n := 1) dL_neighbourOf_0 rfl rfl ?_
  refine g_iload_n (n := 2) dL_neighbourOf_1 rfl rfl ?_
  refine g_iload_n (n := 3) dL_neighbourOf_2 rfl rfl ?_
  refine g_cVH (cr := 0) (pre := [⟨0, 6, 7, 15⟩]) (x := ⟨0, 6, 11, 18⟩) (suf := []) cf dL_neighbourOf_3 kw_L_68 rfl (by decide) (z_lvP (by decide)) (Nat.le_of_ble_eq_true rfl) ⟨Nat.le_refl _, Nat.le_refl _⟩ rfl rfl (fun z h => by rw [List.mem_singleton.mp h]; exact Or.inr ⟨by decide, xIOOB, zE_i1, zE_1.symm, kx_L_15⟩) zE_i2 rfl (by decide) kx_L_18 (fun q => ?_) rfl
  refine g_astore_nX (k := 3) (k4 := 3) rfl dL_neighbourOf_11 rfl (by decide) (fun u _ h => by cases h; rfl) rfl ?_
  refine g_ldc (n := 14) dL_neighbourOf_12 rfl kc_L_20 ?_
  exact g_ireturn dL_neighbourOf_14 rfl rfl rfl rfl
theorem h_choice (cf : zC w mX9_choice (d + 9) [vR 9 0, vI x, vI y, vI z] (zP M O) (zrI b) (zP M1 O)) : zCk w mL_choice 0 (d + 10) [vR 9 0, vI x, vI y, vI z] (zP M O) (zrI b) (zP M1 O) := by
  refine zCk_ofH (L0 := [vR 9 0, vI x, vI y, vI z, vU]) (by decide) (by decide) rfl (Nat.le_of_ble_eq_true rfl) rfl rfl ?_
  refine g_aload_n (n := 1) dL_choice_0 rfl rfl ?_
  refine g_iload_n (n := 2) dL_choice_1 rfl rfl ?_
  refine g_iload_n (n := 3) dL_choice_2 rfl rfl ?_
  refine g_iload_n (n := 4) dL_choice_3 rfl rfl ?_
  refine g_cVv (n := 7) cf dL_choice_4 rfl kw_L_71 rfl (by decide) (z_lvP (by first | decide | assumption)) (Nat.le_of_ble_eq_true rfl) ⟨Nat.le_refl _, Nat.le_refl _⟩ ?_ rfl
  exact g_ireturn dL_choice_7 rfl rfl rfl rfl
theorem h_choice1 (cf : zC w mX9_choice (d + 9) [vR 9 0, vI x, vI y, vI z] (zP M O) (zrX xIOOB) (zP M1 O)) : zCk w mL_choice 1 (d + 10) [vR 9 0, vI x, vI y, vI z] (zP M O) (zrI (-2000001)) (zP M1 O) := by
  refine zCk_ofH (L0 := [vR 9 0, vI x, vI y, vI z, vU]) (by decide) (by decide) rfl (Nat.le_of_ble_eq_true rfl) rfl rfl ?_
  refine g_aload_n (n := 1) dL_choice_0 rfl rfl ?_
  refine g_iload_n (n := 2) dL_choice_1 rfl rfl ?_
  refine g_iload_n (n := 3) dL_choice_2 rfl rfl ?_
  refine g_iload_n (n := 4) dL_choice_3 rfl rfl ?_
  refine g_cVH (cr := 0) (pre := []) (x := ⟨0, 7, 8, 15⟩) (suf := [⟨0, 7, 13, 18⟩]) cf dL_choice_4 kw_L_71 rfl (by decide) (z_lvP (by decide)) (Nat.le_of_ble_eq_true rfl) ⟨Nat.le_refl _, Nat.le_refl _⟩ rfl rfl (fun z h => by cases h) zE_i1 rfl (by decide) kx_L_15 (fun q => ?_) rfl
  refine g_astoreX (k := 4) dL_choice_8 rfl (by decide) (fun u _ h => by cases h; rfl) rfl ?_
  refine g_ldc (n := 12) dL_choice_10 rfl kc_L_17 ?_
  exact g_ireturn dL_choice_12 rfl rfl rfl rfl
theorem h_choice2 (cf : zC w mX9_choice (d + 9) [vR 9 0, vI x, vI y, vI z] (zP M O) (zrX xIA) (zP M1 O)) : zCk w mL_choice 1 (d + 10) [vR 9 0, vI x, vI y, vI z] (zP M O) (zrI (-2000002)) (zP M1 O) := by
  refine zCk_ofH (L0 := [vR 9 0, vI x, vI y, vI z, vU]) (by decide) (by decide) rfl (Nat.le_of_ble_eq_true rfl) rfl rfl ?_
  refine g_aload_n (n := 1) dL_choice_0 rfl rfl ?_
  refine g_iload_n (n := 2) dL_choice_1 rfl rfl ?_
  refine g_iload_n (n := 3) dL_choice_2 rfl rfl ?_
  refine g_iload_n (n := 4) dL_choice_3 rfl rfl ?_
  refine g_cVH (cr := 0) (pre := [⟨0, 7, 8, 15⟩]) (x := ⟨0, 7, 13, 18⟩) (suf := []) cf dL_choice_4 kw_L_71 rfl (by decide) (z_lvP (by decide)) (Nat.le_of_ble_eq_true rfl) ⟨Nat.le_refl _, Nat.le_refl _⟩ rfl rfl (fun z h => by rw [List.mem_singleton.mp h]; exact Or.inr ⟨by decide, xIOOB, zE_i1, zE_1.symm, kx_L_15⟩) zE_i2 rfl (by decide) kx_L_18 (fun q => ?_) rfl
  refine g_astoreX (k := 4) dL_choice_13 rfl (by decide) (fun u _ h => by cases h; rfl) rfl ?_
  refine g_ldc (n := 17) dL_choice_15 rfl kc_L_20 ?_
  exact g_ireturn dL_choice_17 rfl rfl rfl rfl
theorem h_why (cf : zC w mX9_why (d + 9) [vR 9 0, vI x, vI y, vI z] (zP M O) (zrI b) (zP M1 O)) : zCk w mL_why 0 (d + 10) [vR 9 0, vI x, vI y, vI z] (zP M O) (zrI b) (zP M1 O) := by
  refine zCk_ofH (L0 := [vR 9 0, vI x, vI y, vI z, vU]) (by decide) (by decide) rfl (Nat.le_of_ble_eq_true rfl) rfl rfl ?_
  refine g_aload_n (n := 1) dL_why_0 rfl rfl ?_
  refine g_iload_n (n := 2) dL_why_1 rfl rfl ?_
  refine g_iload_n (n := 3) dL_why_2 rfl rfl ?_
  refine g_iload_n (n := 4) dL_why_3 rfl rfl ?_
  refine g_cVv (n := 7) cf dL_why_4 rfl kw_L_74 rfl (by decide) (z_lvP (by first | decide | assumption)) (Nat.le_of_ble_eq_true rfl) ⟨Nat.le_refl _, Nat.le_refl _⟩ ?_ rfl
  exact g_ireturn dL_why_7 rfl rfl rfl rfl
theorem h_why1 (cf : zC w mX9_why (d + 9) [vR 9 0, vI x, vI y, vI z] (zP M O) (zrX xIOOB) (zP M1 O)) : zCk w mL_why 1 (d + 10) [vR 9 0, vI x, vI y, vI z] (zP M O) (zrI (-2000001)) (zP M1 O) := by
  refine zCk_ofH (L0 := [vR 9 0, vI x, vI y, vI z, vU]) (by decide) (by decide) rfl (Nat.le_of_ble_eq_true rfl) rfl rfl ?_
  refine g_aload_n (n := 1) dL_why_0 rfl rfl ?_
  refine g_iload_n (n := 2) dL_why_1 rfl rfl ?_
  refine g_iload_n (n := 3) dL_why_2 rfl rfl ?_
  refine g_iload_n (n := 4) dL_why_3 rfl rfl ?_
  refine g_cVH (cr := 0) (pre := []) (x := ⟨0, 7, 8, 15⟩) (suf := []) cf dL_why_4 kw_L_74 rfl (by decide) (z_lvP (by decide)) (Nat.le_of_ble_eq_true rfl) ⟨Nat.le_refl _, Nat.le_refl _⟩ rfl rfl (fun z h => by cases h) zE_i1 rfl (by decide) kx_L_15 (fun q => ?_) rfl
  refine g_astoreX (k := 4) dL_why_8 rfl (by decide) (fun u _ h => by cases h; rfl) rfl ?_
  refine g_ldc (n := 12) dL_why_10 rfl kc_L_17 ?_
  exact g_ireturn dL_why_12 rfl rfl rfl rfl
theorem h_count (cf : zC w mX9_count (d + 9) [vR 9 0, vI x] (zP M O) (zrI b) (zP M1 O)) : zCk w mL_count 0 (d + 10) [vR 9 0, vI x] (zP M O) (zrI b) (zP M1 O) := by
  refine zCk_ofH (L0 := [vR 9 0, vI x, vU]) (by decide) (by decide) rfl (Nat.le_of_ble_eq_true rfl) rfl rfl ?_
  refine g_aload_n (n := 1) dL_count_0 rfl rfl ?_
  refine g_iload_n (n := 2) dL_count_1 rfl rfl ?_
  refine g_cVv (n := 5) cf dL_count_2 rfl kw_L_77 rfl (by decide) (z_lvP (by first | decide | assumption)) (Nat.le_of_ble_eq_true rfl) ⟨Nat.le_refl _, Nat.le_refl _⟩ ?_ rfl
  exact g_ireturn dL_count_5 rfl rfl rfl rfl
theorem h_count1 (cf : zC w mX9_count (d + 9) [vR 9 0, vI x] (zP M O) (zrX xIA) (zP M1 O)) : zCk w mL_count 1 (d + 10) [vR 9 0, vI x] (zP M O) (zrI (-2000001)) (zP M1 O) := by
  refine zCk_ofH (L0 := [vR 9 0, vI x, vU]) (by decide) (by decide) rfl (Nat.le_of_ble_eq_true rfl) rfl rfl ?_
  refine g_aload_n (n := 1) dL_count_0 rfl rfl ?_
  refine g_iload_n (n := 2) dL_count_1 rfl rfl ?_
  refine g_cVH (cr := 0) (pre := []) (x := ⟨0, 5, 6, 18⟩) (suf := []) cf dL_count_2 kw_L_77 rfl (by decide) (z_lvP (by decide)) (Nat.le_of_ble_eq_true rfl) ⟨Nat.le_refl _, Nat.le_refl _⟩ rfl rfl (fun z h => by cases h) zE_i2 rfl (by decide) kx_L_18 (fun q => ?_) rfl
  refine g_astore_nX (k := 2) (k4 := 2) rfl dL_count_6 rfl (by decide) (fun u _ h => by cases h; rfl) rfl ?_
  refine g_ldc (n := 9) dL_count_7 rfl kc_L_17 ?_
  exact g_ireturn dL_count_9 rfl rfl rfl rfl
theorem h_ifRoad (cf : zC w mX9_ifRoad (d + 9) [vR 9 0, vI x, vI y, vI z] (zP M O) (zrI b) (zP M1 O)) : zCk w mL_ifRoad 0 (d + 10) [vR 9 0, vI x, vI y, vI z] (zP M O) (zrI b) (zP M1 O) := by
  refine zCk_ofH (L0 := [vR 9 0, vI x, vI y, vI z, vU]) (by decide) (by decide) rfl (Nat.le_of_ble_eq_true rfl) rfl rfl ?_
  refine g_aload_n (n := 1) dL_ifRoad_0 rfl rfl ?_
  refine g_iload_n (n := 2) dL_ifRoad_1 rfl rfl ?_
  refine g_iload_n (n := 3) dL_ifRoad_2 rfl rfl ?_
  refine g_iload_n (n := 4) dL_ifRoad_3 rfl rfl ?_
  refine g_cVv (n := 7) cf dL_ifRoad_4 rfl kw_L_80 rfl (by decide) (z_lvP (by first | decide | assumption)) (Nat.le_of_ble_eq_true rfl) ⟨Nat.le_refl _, Nat.le_refl _⟩ ?_ rfl
  exact g_ireturn dL_ifRoad_7 rfl rfl rfl rfl
theorem h_ifRoad1 (cf : zC w mX9_ifRoad (d + 9) [vR 9 0, vI x, vI y, vI z] (zP M O) (zrX xIOOB) (zP M1 O)) : zCk w mL_ifRoad 1 (d + 10) [vR 9 0, vI x, vI y, vI z] (zP M O) (zrI (-2000001)) (zP M1 O) := by
  refine zCk_ofH (L0 := [vR 9 0, vI x, vI y, vI z, vU]) (by decide) (by decide) rfl (Nat.le_of_ble_eq_true rfl) rfl rfl ?_
  refine g_aload_n (n := 1) dL_ifRoad_0 rfl rfl ?_
  refine g_iload_n (n := 2) dL_ifRoad_1 rfl rfl ?_
  refine g_iload_n (n := 3) dL_ifRoad_2 rfl rfl ?_
  refine g_iload_n (n := 4) dL_ifRoad_3 rfl rfl ?_
  refine g_cVH (cr := 0) (pre := []) (x := ⟨0, 7, 8, 15⟩) (suf := [⟨0, 7, 13, 18⟩]) cf dL_ifRoad_4 kw_L_80 rfl (by decide) (z_lvP (by decide)) (Nat.le_of_ble_eq_true rfl) ⟨Nat.le_refl _, Nat.le_refl _⟩ rfl rfl (fun z h => by cases h) zE_i1 rfl (by decide) kx_L_15 (fun q => ?_) rfl
  refine g_astoreX (k := 4) dL_ifRoad_8 rfl (by decide) (fun u _ h => by cases h; rfl) rfl ?_
  refine g_ldc (n := 12) dL_ifRoad_10 rfl kc_L_17 ?_
  exact g_ireturn dL_ifRoad_12 rfl rfl rfl rfl
theorem h_ifRoad2 (cf : zC w mX9_ifRoad (d + 9) [vR 9 0, vI x, vI y, vI z] (zP M O) (zrX xIA) (zP M1 O)) : zCk w mL_ifRoad 1 (d + 10) [vR 9 0, vI x, vI y, vI z] (zP M O) (zrI (-2000002)) (zP M1 O) := by
  refine zCk_ofH (L0 := [vR 9 0, vI x, vI y, vI z, vU]) (by decide) (by decide) rfl (Nat.le_of_ble_eq_true rfl) rfl rfl ?_
  refine g_aload_n (n := 1) dL_ifRoad_0 rfl rfl ?_
  refine g_iload_n (n := 2) dL_ifRoad_1 rfl rfl ?_
  refine g_iload_n (n := 3) dL_ifRoad_2 rfl rfl ?_
  refine g_iload_n (n := 4) dL_ifRoad_3 rfl rfl ?_
  refine g_cVH (cr := 0) (pre := [⟨0, 7, 8, 15⟩]) (x := ⟨0, 7, 13, 18⟩) (suf := []) cf dL_ifRoad_4 kw_L_80 rfl (by decide) (z_lvP (by decide)) (Nat.le_of_ble_eq_true rfl) ⟨Nat.le_refl _, Nat.le_refl _⟩ rfl rfl (fun z h => by rw [List.mem_singleton.mp h]; exact Or.inr ⟨by decide, xIOOB, zE_i1, zE_1.symm, kx_L_15⟩) zE_i2 rfl (by decide) kx_L_18 (fun q => ?_) rfl
  refine g_astoreX (k := 4) dL_ifRoad_13 rfl (by decide) (fun u _ h => by cases h; rfl) rfl ?_
  refine g_ldc (n := 17) dL_ifRoad_15 rfl kc_L_20 ?_
  exact g_ireturn dL_ifRoad_17 rfl rfl rfl rfl
theorem h_idle (cf : zC w mX9_idle (d + 9) [vR 9 0, vI x, vI y] (zP M O) (zrI b) (zP M1 O)) : zCk w mL_idle 0 (d + 10) [vR 9 0, vI x, vI y] (zP M O) (zrI b) (zP M1 O) := by
  refine zCk_ofH (L0 := [vR 9 0, vI x, vI y, vU]) (by decide) (by decide) rfl (Nat.le_of_ble_eq_true rfl) rfl rfl ?_
  refine g_aload_n (n := 1) dL_idle_0 rfl rfl ?_
  refine g_iload_n (n := 2) dL_idle_1 rfl rfl ?_
  refine g_iload_n (n := 3) dL_idle_2 rfl rfl ?_
  refine g_cVv (n := 6) cf dL_idle_3 rfl kw_L_83 rfl (by decide) (z_lvP (by first | decide | assumption)) (Nat.le_of_ble_eq_true rfl) ⟨Nat.le_refl _, Nat.le_refl _⟩ ?_ rfl
  exact g_ireturn dL_idle_6 rfl rfl rfl rfl
theorem h_idle1 (cf : zC w mX9_idle (d + 9) [vR 9 0, vI x, vI y] (zP M O) (zrX xIOOB) (zP M1 O)) : zCk w mL_idle 1 (d + 10) [vR 9 0, vI x, vI y] (zP M O) (zrI (-2000001)) (zP M1 O) := by
  refine zCk_ofH (L0 := [vR 9 0, vI x, vI y, vU]) (by decide) (by decide) rfl (Nat.le_of_ble_eq_true rfl) rfl rfl ?_
  refine g_aload_n (n := 1) dL_idle_0 rfl rfl ?_
  refine g_iload_n (n := 2) dL_idle_1 rfl rfl ?_
  refine g_iload_n (n := 3) dL_idle_2 rfl rfl ?_
  refine g_cVH (cr := 0) (pre := []) (x := ⟨0, 6, 7, 15⟩) (suf := [⟨0, 6, 11, 18⟩]) cf dL_idle_3 kw_L_83 rfl (by decide) (z_lvP (by decide)) (Nat.le_of_ble_eq_true rfl) ⟨Nat.le_refl _, Nat.le_refl _⟩ rfl rfl (fun z h => by cases h) zE_i1 rfl (by decide) kx_L_15 (fun q => ?_) rfl
  refine g_astore_nX (k := 3) (k4 := 3) rfl dL_idle_7 rfl (by decide) (fun u _ h => by cases h; rfl) rfl ?_
  refine g_ldc (n := 10) dL_idle_8 rfl kc_L_17 ?_
  exact g_ireturn dL_idle_10 rfl rfl rfl rfl
theorem h_idle2 (cf : zC w mX9_idle (d + 9) [vR 9 0, vI x, vI y] (zP M O) (zrX xIA) (zP M1 O)) : zCk w mL_idle 1 (d + 10) [vR 9 0, vI x, vI y] (zP M O) (zrI (-2000002)) (zP M1 O) := by
  refine zCk_ofH (L0 := [vR 9 0, vI x, vI y, vU]) (by decide) (by decide) rfl (Nat.le_of_ble_eq_true rfl) rfl rfl ?_
  refine g_aload_n (n := 1) dL_idle_0 rfl rfl ?_
  refine g_iload_n (n := 2) dL_idle_1 rfl rfl ?_
  refine g_iload_n (n := 3) dL_idle_2 rfl rfl ?_
  refine g_cVH (cr := 0) (pre := [⟨0, 6, 7, 15⟩]) (x := ⟨0, 6, 11, 18⟩) (suf := []) cf dL_idle_3 kw_L_83 rfl (by decide) (z_lvP (by decide)) (Nat.le_of_ble_eq_true rfl) ⟨Nat.le_refl _, Nat.le_refl _⟩ rfl rfl (fun z h => by rw [List.mem_singleton.mp h]; exact Or.inr ⟨by decide, xIOOB, zE_i1, zE_1.symm, kx_L_15⟩) zE_i2 rfl (by decide) kx_L_18 (fun q => ?_) rfl
  refine g_astore_nX (k := 3) (k4 := 3) rfl dL_idle_11 rfl (by decide) (fun u _ h => by cases h; rfl) rfl ?_
  refine g_ldc (n := 14) dL_idle_12 rfl kc_L_20 ?_
  exact g_ireturn dL_idle_14 rfl rfl rfl rfl
theorem kz_L_86 : z_kwK RL 86 mL_exit 3 := ⟨kh_L_86, by decide +kernel, by decide +kernel, by decide +kernel⟩
theorem kz_L_91 : z_kwK RL 91 mL_offer 4 := ⟨kh_L_91, by decide +kernel, by decide +kernel, by decide +kernel⟩
theorem kz_L_94 : z_kwK RL 94 mL_road 4 := ⟨kh_L_94, by decide +kernel, by decide +kernel, by decide +kernel⟩
theorem kz_L_96 : z_kwK RL 96 mL_turn 2 := ⟨kh_L_96, by decide +kernel, by decide +kernel, by decide +kernel⟩
theorem kz_L_99 : z_kwK RL 99 mL_set 3 := ⟨kh_L_99, by decide +kernel, by decide +kernel, by decide +kernel⟩
theorem kz_L_101 : z_kwK RL 101 mL_bound 3 := ⟨kh_L_101, by decide +kernel, by decide +kernel, by decide +kernel⟩
theorem kz_L_106 : z_kwK RL 106 mL_goBack 2 := ⟨kh_L_106, by decide +kernel, by decide +kernel, by decide +kernel⟩
theorem kz_L_108 : z_kwK RL 108 mL_keep 2 := ⟨kh_L_108, by decide +kernel, by decide +kernel, by decide +kernel⟩
theorem kz_L_110 : z_kwK RL 110 mL_send 3 := ⟨kh_L_110, by decide +kernel, by decide +kernel, by decide +kernel⟩
theorem kz_L_112 : z_kwK RL 112 mL_distance 4 := ⟨kh_L_112, by decide +kernel, by decide +kernel, by decide +kernel⟩
theorem kz_L_115 : z_kwK RL 115 mL_roadOf 3 := ⟨kh_L_115, by decide +kernel, by decide +kernel, by decide +kernel⟩
theorem kz_L_117 : z_kwK RL 117 mL_count 2 := ⟨kh_L_117, by decide +kernel, by decide +kernel, by decide +kernel⟩
theorem kz_L_119 : z_kwK RL 119 mL_choice 4 := ⟨kh_L_119, by decide +kernel, by decide +kernel, by decide +kernel⟩
theorem kz_L_121 : z_kwK RL 121 mL_setting 1 := ⟨kh_L_121, by decide +kernel, by decide +kernel, by decide +kernel⟩
theorem kz_L_125 : z_kwK RL 125 mL_exitOf 3 := ⟨kh_L_125, by decide +kernel, by decide +kernel, by decide +kernel⟩
theorem kz_L_127 : z_kwK RL 127 mL_neighbourOf 3 := ⟨kh_L_127, by decide +kernel, by decide +kernel, by decide +kernel⟩
theorem kz_L_129 : z_kwK RL 129 mL_why 4 := ⟨kh_L_129, by decide +kernel, by decide +kernel, by decide +kernel⟩
theorem kz_L_131 : z_kwK RL 131 mL_undo 1 := ⟨kh_L_131, by decide +kernel, by decide +kernel, by decide +kernel⟩
theorem kz_L_133 : z_kwK RL 133 mL_ways 2 := ⟨kh_L_133, by decide +kernel, by decide +kernel, by decide +kernel⟩
theorem kz_L_145 : z_kwK RL 145 mL_run 1 := ⟨kh_L_145, by decide +kernel, by decide +kernel, by decide +kernel⟩
theorem kz_L_147 : z_kwK RL 147 mL_hangs 2 := ⟨kh_L_147, by decide +kernel, by decide +kernel, by decide +kernel⟩
theorem kz_L_150 : z_kwK RL 150 mL_cell 2 := ⟨kh_L_150, by decide +kernel, by decide +kernel, by decide +kernel⟩
theorem kz_L_154 : z_kwK RL 154 mL_ifRoad 4 := ⟨kh_L_154, by decide +kernel, by decide +kernel, by decide +kernel⟩
theorem kz_L_156 : z_kwK RL 156 mL_acts 2 := ⟨kh_L_156, by decide +kernel, by decide +kernel, by decide +kernel⟩
theorem kz_L_160 : z_kwK RL 160 mL_idle 3 := ⟨kh_L_160, by decide +kernel, by decide +kernel, by decide +kernel⟩
theorem kz_L_166 : z_kwK RL 166 mL_append 2 := ⟨kh_L_166, by decide +kernel, by decide +kernel, by decide +kernel⟩
theorem kz_L_162 : z_kwK RL 162 mL_choices 3 := ⟨kh_L_162, by decide +kernel, by decide +kernel, by decide +kernel⟩
end LH2

