/-! The law's helpers: methods with a table of their own. -/
/-- the contract of a helper: one exception may be made and taken inside -/
def zC1 (w : zWp) (f : zMth) (d : Nat) (av : List zAV) (σ : zSt) (r : zRes) (σ' : zSt) : Prop := ∀ l : Launch, l.stackTraces = false →
  vx_Met l f.1 (z_codeW f :: zUW) ({ frames := d, cells := 1, slots := 6, locals := 32 * d } : Room) (va_Pc (av.map (z_tr w)) (z_Wd w σ)) (z_Q w r σ') (z_X w r σ') 1 6 (z_A w)
section LH
variable {w : zWp} {f g : zMth} {d cr pc n : Nat} {lv stk : List zAV} {σ σ1 : zSt} {r : zRes} {σ' : zSt}
theorem zC1_of {vs L0 : List zAV} {x : Nat × Nat × Nat × Nat} {hh : List (Nat × Nat × Nat × Nat)} (hpl : plainName f.1.cls = true) (hlaw : f.1.name ≠ "law") (htab : f.2.2.2.2 = x :: hh) (hL : (z_lo vs).length ≤ f.2.2.1) (hL0 : z_lo vs ++ List.replicate (f.2.2.1 - (z_lo vs).length) vU = L0) (h204 : σ'.1 = σ.1)
    (hG : zG w f d 1 0 L0 [] σ r σ') : zC1 w f d vs σ r σ' := by
  intro l hl0
  subst hL0
  have hcw : z_codeW f = .codeWith f.1 f.2.1 f.2.2.1 f.2.2.2.1 f.2.2.2.2 := by
    unfold z_codeW
    rw [htab]
  refine vx_ofWH (cc := f.2.1) (maxL := f.2.2.1) (ret := f.2.2.2.1) (hh := f.2.2.2.2) (ws' := zUW) hpl (by rw [hcw]) ?_
  intro p e s m args below meth c s₁ B hml hv
  obtain ⟨rfl, hP, hz, hK, hst, htx, hns⟩ := hv
  have hts : ∀ w9 ∈ z_codeW f :: zUW, w9.before ((vs.map (z_tr w)).toArray) s = true := atoms_spec (ws := z_codeW f :: zUW) B.pre
  have hc9 := hts _ List.mem_cons_self
  rw [hcw] at hc9
  rw [lg_entry_eq]
  exact hG p l e _ s m _ below meth c 1 6 s.heap [] 0 0 _ ⟨B.exec, B.bytes, B.returns, hml, findClass_of_methodNamed B.named, fun w9 h => hts w9 (List.mem_cons_of_mem _ h), B.notSynchronized, vx_table (x := f.1) B hc9, hl0, Nat.le_refl _, Nat.le_refl _, hK, hst, htx, hns, hP.2.2, fun h => by rw [← h]; exact (name_of_methodNamed B.named B.method).1, fun h => absurd h hlaw⟩ (z_entry hL) hP va_S.rf
    ⟨by rw [h204]; omega, by rw [h204]; omega, Nat.le_refl _, Nat.le_refl _, fun h => by have := hz h; omega⟩
def z_kwH (own : String) (ix : Nat) (g : zMth) (k : Nat) : Prop := ((Cond.methodLink own ix g.1 ∈ zUW ∧ Cond.initialized g.1.cls ∈ zUW ∧ z_codeW g ∈ zUW) ∧ Cond.static g.1 ∈ zUW) ∧ g.2.2.1 ≤ 13 ∧ g.1.cls ≠ "java/lang/invoke/MethodHandle" ∧ g.1.cls ≠ "java/lang/invoke/VarHandle" ∧ (parseMethodDescriptor g.1.desc).map (fun d => d.parameters.length) = some k ∧ ∃ x hh, g.2.2.2.2 = x :: hh
/-- a static call of a method with a table -/
theorem g_cHR {As rest : List zAV} {ix : Nat} {v : Option zAV} (hC : zC1 w g d As σ (.inl v) σ1) (hd : decode f.2.1 pc = .ok (.invokestatic ix, 3)) (hn : pc + 3 = n) (hkw : z_kwH f.1.cls ix g As.length) (hcat : (rest.map (fun v => if z_c2 v then 2 else 1)).sum ≤ 8) (hm : σ1.1 = σ.1) (h204 : σ.1 = 204)
    (kk : zG w f (d + 1) cr n lv (v.toList ++ rest) σ1 r σ') (hst : As.reverse ++ rest = stk) : zG w f (d + 1) (cr + 1) pc lv stk σ r σ' := by
  intro p l e R s m args below meth c mc ms H locs cells slots ls X hl hP hS hB
  subst hst
  subst hn
  intro T0 hT XX
  have hz := z_szOf XX hT hP hB
  have hb : z_bud w σ1 σ' cr s (cells + 1) (slots + 6) mc ms R ∧ cells + 1 ≤ R.cells ∧ slots + 6 ≤ R.slots := by
    obtain ⟨h1, h2, h3, h4, h5⟩ := hB
    unfold z_bud
    rw [hm]
    exact ⟨⟨by omega, by omega, h3, h4, fun h => by omega⟩, by omega, by omega⟩
  obtain ⟨b1, b2, b3⟩ := hb
  obtain ⟨⟨⟨k1, k2, k3⟩, k4⟩, k5, k6, k7, k8, x9, hh9, k9⟩ := hkw
  have hcw : z_codeW g = .codeWith g.1 g.2.1 g.2.2.1 g.2.2.2.1 g.2.2.2.2 := by
    unfold z_codeW
    rw [k9]
  have hf := X.frm
  have hlo := X.loc
  have hG : GoodIn zUW (va_wsS f.1.cls ix g.1 (z_codeW g :: zUW)) := fun w9 h => by
    unfold va_wsS at h
    rcases List.mem_append.mp h with h | h
    · rcases List.mem_cons.mp h with h | h
      · rw [h]; exact z_good _ k1
      · rcases List.mem_cons.mp h with h | h
        · rw [h]; exact z_good _ k4
        · rw [List.mem_singleton.mp h]; exact z_good _ k2
    · exact z_goodC k3 w9 h
  have cw : vx_CSW R s args f.1.cls ix g.1 g.2.1 g.2.2.1 g.2.2.2.1 g.2.2.2.2 (z_codeW g :: zUW) ({ frames := d, cells := 1, slots := 6, locals := 32 * d } : Room) 1 6 As.length :=
    vx_cwSW As.length X.hts hG (by rw [hcw]) rfl rfl ⟨k6, k7, k8⟩ ⟨hf, by show 8 + (g.2.2.1 + 11) + 32 * d ≤ R.locals; omega⟩
  have hr : vx_Run p l e R s m args below meth c H locs cells slots 1 6 (F0 m pc ls ((As.reverse ++ rest).map (z_tr w))) (rest.map (z_tr w)) (z_Q w (.inl v) σ1 (((As).map (z_tr w)).toArray)) (z_X w (.inl v) σ1) (z_A w) := vx_runSX (g := F0 m pc ls ((As.reverse ++ rest).map (z_tr w))) (As := As.map (z_tr w)) (rest := rest.map (z_tr w)) (cells := cells) (slots := slots) ⟨X.exec, X.code, X.maxl, X.own, X.hts⟩ (hC l X.tra) cw ⟨z_blind, fun U hU hW => ⟨rfl, X.wd hP hz hS hU hW⟩⟩ rfl (List.length_map _) hl.1 (by simp [List.map_reverse]; try rfl) (lv_room (z_cats hcat)) hd ⟨b2, b3⟩
  exact z_afterR hr hS (fun H1 locs1 hP1 hS1 => by
    have hk9 := kk p l e R s m args below meth c mc ms H1 locs1 _ _ ls X hl hP1 hS1 b1
    rw [List.map_append] at hk9
    cases v <;> exact hk9) T0 hT XX
/-- a call that throws what a row of the table takes -/
theorem g_cVH {As rest : List zAV} {ix : Nat} {k i : Nat} {T : u_T} {N : Nat} {E : String} {pre suf : List ExceptionTableEntry} {x : ExceptionTableEntry} (hC : zC w g d (vR k i :: As) σ (.inr E) σ1) (hd : decode f.2.1 pc = .ok (.invokevirtual ix, 3)) (hkw : z_kwV f.1.cls ix g As.length) (hc : vwCl[k]? = some (g.1.cls, T, N)) (hk : k ≤ 10) (hl0 : z_live σ.1 k i) (hcat : (rest.map (fun v => if z_c2 v then 2 else 1)).sum ≤ 8) (hm : σ.1 ≤ σ1.1 ∧ σ1.1 ≤ σ'.1) (h204 : σ1.1 = 204)
    (htab : tableOf f.2.2.2.2 = pre ++ x :: suf) (hpass : ∀ z ∈ pre, covers z pc = false ∨ (z.catchType ≠ 0 ∧ ∃ nm : String, nm ∈ z_ex ∧ E ≠ nm ∧ Cond.classLink f.1.cls z.catchType nm ∈ zUW)) (hE : E ∈ z_ex) (hx : covers x pc = true) (h0 : x.catchType ≠ 0) (hlink : Cond.classLink f.1.cls x.catchType E ∈ zUW)
    (kk : ∀ q : Nat, zG w f (d + 1) cr x.handlerPc lv [.inl (.ref q)] σ1 r σ') (hst : As.reverse ++ vR k i :: rest = stk) : zG w f (d + 1) (cr + 1) pc lv stk σ r σ' := by
  intro p l e R s m args below meth c mc ms H locs cells slots ls X hl hP hS hB
  subst hst
  intro T0 hT XX
  have hz := z_szOf XX hT hP hB
  obtain ⟨b1, b2, b3⟩ := z_bud3 (σ1 := σ1) hB hm h204
  have hr : vx_Run p l e R s m args below meth c H locs cells slots ((σ1.1 - σ.1) + 1) ((z_sl σ1.1 - z_sl σ.1) + 6 * 1) (F0 m pc ls ((As.reverse ++ vR k i :: rest).map (z_tr w))) (rest.map (z_tr w)) (z_Q w (.inr E) σ1 (((vR k i :: As).map (z_tr w)).toArray)) (z_X w (.inr E) σ1) (z_A w) := vx_runV (g := F0 m pc ls ((As.reverse ++ vR k i :: rest).map (z_tr w))) (As := As.map (z_tr w)) (rest := rest.map (z_tr w)) (b := z_adr w k i) (cells := cells) (slots := slots) ⟨X.exec, X.code, X.maxl, X.own, X.hts⟩ (hC l X.tra) ⟨z_CB X hkw.1, X.hts _ hkw.2.1, X.hts _ hkw.2.2⟩ ⟨z_blind, va_recv X.K hP.1 hc (z_objS hk hl0), fun U hU hW => ⟨rfl, X.wd hP hz hS hU hW⟩⟩ rfl (List.length_map _) hl.1 (by simp [List.map_reverse]; try rfl) (lv_room (z_cats hcat)) hd ⟨b2, b3⟩
  refine z_afterH hr hS X.own pre x suf (by rw [X.tab, htab]) (fun z hz9 => ?_) hx h0 (X.hts _ hlink) (va_Nw.use rfl (X.nst.2.2.1 _ hE)) (fun q H1 locs1 hP1 hS1 => kk q p l e R s m args below meth c mc ms H1 locs1 _ _ ls X hl hP1 hS1 b1) T0 hT XX
  rcases hpass z hz9 with h | ⟨h1, nm, h2, h3, h4⟩
  · exact Or.inl h
  · exact Or.inr ⟨h1, nm, X.hts _ h4, X.nst.2.2.2.1 _ hE _ h2 h3⟩
end LH
theorem zE_i1 : xIOOB ∈ z_ex := List.mem_cons_self
theorem zE_i2 : xIA ∈ z_ex := List.mem_cons_of_mem _ List.mem_cons_self
theorem zE_i3 : xIS ∈ z_ex := List.mem_cons_of_mem _ (List.mem_cons_of_mem _ List.mem_cons_self)
/-- a helper and the reference's call after it -/
def zHp (w : zWp) (h g : zMth) (av : List zAV) (O : Nat → Int64) (M : Nat → Nat → Nat → Int32) : Prop :=
  ∃ (M1 : Nat → Nat → Nat → Int32) (b e : Int32) (O1 : Nat → Int64), zC1 w h 11 (vR 9 0 :: (av ++ [vR 38 0])) (zP M O) (zrI e) (zP M1 O1) ∧ (e = nI 0 → O1 0 = b.toInt64) ∧ zOg w g av M1 b e
section LH2
variable {w : zWp} {M : Nat → Nat → Nat → Int32} {O : Nat → Int64}
theorem h_road (x y z : Int32) (H : zOp w mX9_road mX10_road [vI x, vI y, vI z] xIOOB xIA O M) : zHp w mL_road mX10_road [vI x, vI y, vI z] O M := by
  obtain ⟨M1, b, e, H | H | H, Hg⟩ := H
  · obtain ⟨rfl, cf⟩ := H
    refine ⟨M1, b, nI 0, fun j => if j = 0 then b.toInt64 else O j, ?_, fun _ => rfl, Hg⟩
    refine zC1_of (L0 := [vR 9 0, vI x, vI y, vI z, vR 38 0, vU]) (by decide) (by decide) rfl (Nat.le_of_ble_eq_true rfl) rfl rfl ?_
    refine g_aload (n := 2) dL_road_0 rfl rfl ?_
    refine g_iconst (n := 3) dL_road_2 rfl k_ic_0 ?_
    refine g_aload_n (n := 4) dL_road_3 rfl rfl ?_
    refine g_iload_n (n := 5) dL_road_4 rfl rfl ?_
    refine g_iload_n (n := 6) dL_road_5 rfl rfl ?_
    refine g_iload_n (n := 7) dL_road_6 rfl rfl ?_
    refine g_cVv (n := 10) cf dL_road_7 rfl kw_L_7 rfl (by decide) (z_lvP (by first | decide | assumption)) (Nat.le_of_ble_eq_true rfl) ⟨Nat.le_refl _, Nat.le_refl _⟩ ?_ rfl
    refine g_i2l (n := 11) dL_road_10 rfl ?_
    refine g_last (n := 12) dL_road_11 rfl (z_lvP (by first | decide | assumption)) rfl ?_
    refine g_goto (n := 0) (t := 23) dL_road_12 (by decide) ?_
    refine g_iconst (n := 24) dL_road_23 rfl k_ic_0 ?_
    exact g_ireturn dL_road_24 rfl rfl rfl rfl
  · obtain ⟨rfl, cf⟩ := H
    refine ⟨M1, b, nI 1, O, ?_, fun h => absurd h (by decide), Hg⟩
    refine zC1_of (L0 := [vR 9 0, vI x, vI y, vI z, vR 38 0, vU]) (by decide) (by decide) rfl (Nat.le_of_ble_eq_true rfl) rfl rfl ?_
    refine g_aload (n := 2) dL_road_0 rfl rfl ?_
    refine g_iconst (n := 3) dL_road_2 rfl k_ic_0 ?_
    refine g_aload_n (n := 4) dL_road_3 rfl rfl ?_
    refine g_iload_n (n := 5) dL_road_4 rfl rfl ?_
    refine g_iload_n (n := 6) dL_road_5 rfl rfl ?_
    refine g_iload_n (n := 7) dL_road_6 rfl rfl ?_
    refine g_cVH (pre := []) (x := ⟨0, 12, 15, 13⟩) (suf := [⟨0, 12, 19, 15⟩]) cf dL_road_7 kw_L_7 rfl (by decide) (z_lvP (by decide)) (Nat.le_of_ble_eq_true rfl) ⟨Nat.le_refl _, Nat.le_refl _⟩ rfl rfl (fun z h => by cases h) zE_i1 rfl (by decide) kx_L_13 (fun q => ?_) rfl
    refine g_astoreX (k := 5) dL_road_15 rfl (by decide) (fun u _ h => by cases h; rfl) rfl ?_
    refine g_iconst (n := 18) dL_road_17 rfl k_ic_1 ?_
    exact g_ireturn dL_road_18 rfl rfl rfl rfl
  · obtain ⟨_, rfl, cf⟩ := H
    refine ⟨M1, b, nI 2, O, ?_, fun h => absurd h (by decide), Hg⟩
    refine zC1_of (L0 := [vR 9 0, vI x, vI y, vI z, vR 38 0, vU]) (by decide) (by decide) rfl (Nat.le_of_ble_eq_true rfl) rfl rfl ?_
    refine g_aload (n := 2) dL_road_0 rfl rfl ?_
    refine g_iconst (n := 3) dL_road_2 rfl k_ic_0 ?_
    refine g_aload_n (n := 4) dL_road_3 rfl rfl ?_
    refine g_iload_n (n := 5) dL_road_4 rfl rfl ?_
    refine g_iload_n (n := 6) dL_road_5 rfl rfl ?_
    refine g_iload_n (n := 7) dL_road_6 rfl rfl ?_
    refine g_cVH (pre := [⟨0, 12, 15, 13⟩]) (x := ⟨0, 12, 19, 15⟩) (suf := []) cf dL_road_7 kw_L_7 rfl (by decide) (z_lvP (by decide)) (Nat.le_of_ble_eq_true rfl) ⟨Nat.le_refl _, Nat.le_refl _⟩ rfl rfl (fun z h => by rw [List.mem_singleton.mp h]; exact Or.inr ⟨by decide, xIOOB, zE_i1, zE_1.symm, kx_L_13⟩) zE_i2 rfl (by decide) kx_L_15 (fun q => ?_) rfl
    refine g_astoreX (k := 5) dL_road_19 rfl (by decide) (fun u _ h => by cases h; rfl) rfl ?_
    refine g_iconst (n := 22) dL_road_21 rfl k_ic_2 ?_
    exact g_ireturn dL_road_22 rfl rfl rfl rfl
theorem h_exit (x y : Int32) (H : zOp w mX9_exit mX10_exit [vI x, vI y] xIOOB xIS O M) : zHp w mL_exit mX10_exit [vI x, vI y] O M := by
  obtain ⟨M1, b, e, H | H | H, Hg⟩ := H
  · obtain ⟨rfl, cf⟩ := H
    refine ⟨M1, b, nI 0, fun j => if j = 0 then b.toInt64 else O j, ?_, fun _ => rfl, Hg⟩
    refine zC1_of (L0 := [vR 9 0, vI x, vI y, vR 38 0, vU]) (by decide) (by decide) rfl (Nat.le_of_ble_eq_true rfl) rfl rfl ?_
    refine g_aload_n (n := 1) dL_exit_0 rfl rfl ?_
    refine g_iconst (n := 2) dL_exit_1 rfl k_ic_0 ?_
    refine g_aload_n (n := 3) dL_exit_2 rfl rfl ?_
    refine g_iload_n (n := 4) dL_exit_3 rfl rfl ?_
    refine g_iload_n (n := 5) dL_exit_4 rfl rfl ?_
    refine g_cVv (n := 8) cf dL_exit_5 rfl kw_L_17 rfl (by decide) (z_lvP (by first | decide | assumption)) (Nat.le_of_ble_eq_true rfl) ⟨Nat.le_refl _, Nat.le_refl _⟩ ?_ rfl
    refine g_i2l (n := 9) dL_exit_8 rfl ?_
    refine g_last (n := 10) dL_exit_9 rfl (z_lvP (by first | decide | assumption)) rfl ?_
    refine g_goto (n := 0) (t := 21) dL_exit_10 (by decide) ?_
    refine g_iconst (n := 22) dL_exit_21 rfl k_ic_0 ?_
    exact g_ireturn dL_exit_22 rfl rfl rfl rfl
  · obtain ⟨rfl, cf⟩ := H
    refine ⟨M1, b, nI 1, O, ?_, fun h => absurd h (by decide), Hg⟩
    refine zC1_of (L0 := [vR 9 0, vI x, vI y, vR 38 0, vU]) (by decide) (by decide) rfl (Nat.le_of_ble_eq_true rfl) rfl rfl ?_
    refine g_aload_n (n := 1) dL_exit_0 rfl rfl ?_
    refine g_iconst (n := 2) dL_exit_1 rfl k_ic_0 ?_
    refine g_aload_n (n := 3) dL_exit_2 rfl rfl ?_
    refine g_iload_n (n := 4) dL_exit_3 rfl rfl ?_
    refine g_iload_n (n := 5) dL_exit_4 rfl rfl ?_
    refine g_cVH (pre := []) (x := ⟨0, 10, 13, 13⟩) (suf := [⟨0, 10, 17, 21⟩]) cf dL_exit_5 kw_L_17 rfl (by decide) (z_lvP (by decide)) (Nat.le_of_ble_eq_true rfl) ⟨Nat.le_refl _, Nat.le_refl _⟩ rfl rfl (fun z h => by cases h) zE_i1 rfl (by decide) kx_L_13 (fun q => ?_) rfl
    refine g_astoreX (k := 4) dL_exit_13 rfl (by decide) (fun u _ h => by cases h; rfl) rfl ?_
    refine g_iconst (n := 16) dL_exit_15 rfl k_ic_1 ?_
    exact g_ireturn dL_exit_16 rfl rfl rfl rfl
  · obtain ⟨_, rfl, cf⟩ := H
    refine ⟨M1, b, nI 2, O, ?_, fun h => absurd h (by decide), Hg⟩
    refine zC1_of (L0 := [vR 9 0, vI x, vI y, vR 38 0, vU]) (by decide) (by decide) rfl (Nat.le_of_ble_eq_true rfl) rfl rfl ?_
    refine g_aload_n (n := 1) dL_exit_0 rfl rfl ?_
    refine g_iconst (n := 2) dL_exit_1 rfl k_ic_0 ?_
    refine g_aload_n (n := 3) dL_exit_2 rfl rfl ?_
    refine g_iload_n (n := 4) dL_exit_3 rfl rfl ?_
    refine g_iload_n (n := 5) dL_exit_4 rfl rfl ?_
    refine g_cVH (pre := [⟨0, 10, 13, 13⟩]) (x := ⟨0, 10, 17, 21⟩) (suf := []) cf dL_exit_5 kw_L_17 rfl (by decide) (z_lvP (by decide)) (Nat.le_of_ble_eq_true rfl) ⟨Nat.le_refl _, Nat.le_refl _⟩ rfl rfl (fun z h => by rw [List.mem_singleton.mp h]; exact Or.inr ⟨by decide, xIOOB, zE_i1, zE_2.symm, kx_L_13⟩) zE_i3 rfl (by decide) kx_L_21 (fun q => ?_) rfl
    refine g_astoreX (k := 4) dL_exit_17 rfl (by decide) (fun u _ h => by cases h; rfl) rfl ?_
    refine g_iconst (n := 20) dL_exit_19 rfl k_ic_2 ?_
    exact g_ireturn dL_exit_20 rfl rfl rfl rfl
theorem h_turn (x : Int32) (H : zOp w mX9_turn mX10_turn [vI x] xIOOB xIOOB O M) : zHp w mL_turn mX10_turn [vI x] O M := by
  obtain ⟨M1, b, e, H | H | H, Hg⟩ := H
  · obtain ⟨rfl, cf⟩ := H
    refine ⟨M1, b, nI 0, fun j => if j = 0 then b.toInt64 else O j, ?_, fun _ => rfl, Hg⟩
    refine zC1_of (L0 := [vR 9 0, vI x, vR 38 0, vU]) (by decide) (by decide) rfl (Nat.le_of_ble_eq_true rfl) rfl rfl ?_
    refine g_aload_n (n := 1) dL_turn_0 rfl rfl ?_
    refine g_iconst (n := 2) dL_turn_1 rfl k_ic_0 ?_
    refine g_aload_n (n := 3) dL_turn_2 rfl rfl ?_
    refine g_iload_n (n := 4) dL_turn_3 rfl rfl ?_
    refine g_cVv (n := 7) cf dL_turn_4 rfl kw_L_23 rfl (by decide) (z_lvP (by first | decide | assumption)) (Nat.le_of_ble_eq_true rfl) ⟨Nat.le_refl _, Nat.le_refl _⟩ ?_ rfl
    refine g_i2l (n := 8) dL_turn_7 rfl ?_
    refine g_last (n := 9) dL_turn_8 rfl (z_lvP (by first | decide | assumption)) rfl ?_
    refine g_goto (n := 0) (t := 15) dL_turn_9 (by decide) ?_
    refine g_iconst (n := 16) dL_turn_15 rfl k_ic_0 ?_
    exact g_ireturn dL_turn_16 rfl rfl rfl rfl
  · obtain ⟨rfl, cf⟩ := H
    refine ⟨M1, b, nI 1, O, ?_, fun h => absurd h (by decide), Hg⟩
    refine zC1_of (L0 := [vR 9 0, vI x, vR 38 0, vU]) (by decide) (by decide) rfl (Nat.le_of_ble_eq_true rfl) rfl rfl ?_
    refine g_aload_n (n := 1) dL_turn_0 rfl rfl ?_
    refine g_iconst (n := 2) dL_turn_1 rfl k_ic_0 ?_
    refine g_aload_n (n := 3) dL_turn_2 rfl rfl ?_
    refine g_iload_n (n := 4) dL_turn_3 rfl rfl ?_
    refine g_cVH (pre := []) (x := ⟨0, 9, 12, 13⟩) (suf := []) cf dL_turn_4 kw_L_23 rfl (by decide) (z_lvP (by decide)) (Nat.le_of_ble_eq_true rfl) ⟨Nat.le_refl _, Nat.le_refl _⟩ rfl rfl (fun z h => by cases h) zE_i1 rfl (by decide) kx_L_13 (fun q => ?_) rfl
    refine g_astore_nX (k := 3) (k4 := 3) rfl dL_turn_12 rfl (by decide) (fun u _ h => by cases h; rfl) rfl ?_
    refine g_iconst (n := 14) dL_turn_13 rfl k_ic_1 ?_
    exact g_ireturn dL_turn_14 rfl rfl rfl rfl
  · exact absurd rfl H.1
theorem h_offer (x y z : Int32) (H : zOp w mX9_offer mX10_offer [vI x, vI y, vI z] xIOOB xIA O M) : zHp w mL_offer mX10_offer [vI x, vI y, vI z] O M := by
  obtain ⟨M1, b, e, H | H | H, Hg⟩ := H
  · obtain ⟨rfl, cf⟩ := H
    refine ⟨M1, b, nI 0, fun j => if j = 0 then b.toInt64 else O j, ?_, fun _ => rfl, Hg⟩
    refine zC1_of (L0 := [vR 9 0, vI x, vI y, vI z, vR 38 0, vU]) (by decide) (by decide) rfl (Nat.le_of_ble_eq_true rfl) rfl rfl ?_
    refine g_aload (n := 2) dL_offer_0 rfl rfl ?_
    refine g_iconst (n := 3) dL_offer_2 rfl k_ic_0 ?_
    refine g_aload_n (n := 4) dL_offer_3 rfl rfl ?_
    refine g_iload_n (n := 5) dL_offer_4 rfl rfl ?_
    refine g_iload_n (n := 6) dL_offer_5 rfl rfl ?_
    refine g_iload_n (n := 7) dL_offer_6 rfl rfl ?_
    refine g_cVv (n := 10) cf dL_offer_7 rfl kw_L_27 rfl (by decide) (z_lvP (by first | decide | assumption)) (Nat.le_of_ble_eq_true rfl) ⟨Nat.le_refl _, Nat.le_refl _⟩ ?_ rfl
    refine g_i2l (n := 11) dL_offer_10 rfl ?_
    refine g_last (n := 12) dL_offer_11 rfl (z_lvP (by first | decide | assumption)) rfl ?_
    refine g_goto (n := 0) (t := 23) dL_offer_12 (by decide) ?_
    refine g_iconst (n := 24) dL_offer_23 rfl k_ic_0 ?_
    exact g_ireturn dL_offer_24 rfl rfl rfl rfl
  · obtain ⟨rfl, cf⟩ := H
    refine ⟨M1, b, nI 1, O, ?_, fun h => absurd h (by decide), Hg⟩
    refine zC1_of (L0 := [vR 9 0, vI x, vI y, vI z, vR 38 0, vU]) (by decide) (by decide) rfl (Nat.le_of_ble_eq_true rfl) rfl rfl ?_
    refine g_aload (n := 2) dL_offer_0 rfl rfl ?_
    refine g_iconst (n := 3) dL_offer_2 rfl k_ic_0 ?_
    refine g_aload_n (n := 4) dL_offer_3 rfl rfl ?_
    refine g_iload_n (n := 5) dL_offer_4 rfl rfl ?_
    refine g_iload_n (n := 6) dL_offer_5 rfl rfl ?_
    refine g_iload_n (n := 7) dL_offer_6 rfl rfl ?_
    refine g_cVH (pre := []) (x := ⟨0, 12, 15, 13⟩) (suf := [⟨0, 12, 19, 15⟩]) cf dL_offer_7 kw_L_27 rfl (by decide) (z_lvP (by decide)) (Nat.le_of_ble_eq_true rfl) ⟨Nat.le_refl _, Nat.le_refl _⟩ rfl rfl (fun z h => by cases h) zE_i1 rfl (by decide) kx_L_13 (fun q => ?_) rfl
    refine g_astoreX (k := 5) dL_offer_15 rfl (by decide) (fun u _ h => by cases h; rfl) rfl ?_
    refine g_iconst (n := 18) dL_offer_17 rfl k_ic_1 ?_
    exact g_ireturn dL_offer_18 rfl rfl rfl rfl
  · obtain ⟨_, rfl, cf⟩ := H
    refine ⟨M1, b, nI 2, O, ?_, fun h => absurd h (by decide), Hg⟩
    refine zC1_of (L0 := [vR 9 0, vI x, vI y, vI z, vR 38 0, vU]) (by decide) (by decide) rfl (Nat.le_of_ble_eq_true rfl) rfl rfl ?_
    refine g_aload (n := 2) dL_offer_0 rfl rfl ?_
    refine g_iconst (n := 3) dL_offer_2 rfl k_ic_0 ?_
    refine g_aload_n (n := 4) dL_offer_3 rfl rfl ?_
    refine g_iload_n (n := 5) dL_offer_4 rfl rfl ?_
    refine g_iload_n (n := 6) dL_offer_5 rfl rfl ?_
    refine g_iload_n (n := 7) dL_offer_6 rfl rfl ?_
    refine g_cVH (pre := [⟨0, 12, 15, 13⟩]) (x := ⟨0, 12, 19, 15⟩) (suf := []) cf dL_offer_7 kw_L_27 rfl (by decide) (z_lvP (by decide)) (Nat.le_of_ble_eq_true rfl) ⟨Nat.le_refl _, Nat.le_refl _⟩ rfl rfl (fun z h => by rw [List.mem_singleton.mp h]; exact Or.inr ⟨by decide, xIOOB, zE_i1, zE_1.symm, kx_L_13⟩) zE_i2 rfl (by decide) kx_L_15 (fun q => ?_) rfl
    refine g_astoreX (k := 5) dL_offer_19 rfl (by decide) (fun u _ h => by cases h; rfl) rfl ?_
    refine g_iconst (n := 22) dL_offer_21 rfl k_ic_2 ?_
    exact g_ireturn dL_offer_22 rfl rfl rfl rfl
theorem h_bound (x y : Int32) (H : zOp w mX9_bound mX10_bound [vI x, vI y] xIOOB xIA O M) : zHp w mL_bound mX10_bound [vI x, vI y] O M := by
  obtain ⟨M1, b, e, H | H | H, Hg⟩ := H
  · obtain ⟨rfl, cf⟩ := H
    refine ⟨M1, b, nI 0, fun j => if j = 0 then b.toInt64 else O j, ?_, fun _ => rfl, Hg⟩
    refine zC1_of (L0 := [vR 9 0, vI x, vI y, vR 38 0, vU]) (by decide) (by decide) rfl (Nat.le_of_ble_eq_true rfl) rfl rfl ?_
    refine g_aload_n (n := 1) dL_bound_0 rfl rfl ?_
    refine g_iconst (n := 2) dL_bound_1 rfl k_ic_0 ?_
    refine g_aload_n (n := 3) dL_bound_2 rfl rfl ?_
    refine g_iload_n (n := 4) dL_bound_3 rfl rfl ?_
    refine g_iload_n (n := 5) dL_bound_4 rfl rfl ?_
    refine g_cVv (n := 8) cf dL_bound_5 rfl kw_L_30 rfl (by decide) (z_lvP (by first | decide | assumption)) (Nat.le_of_ble_eq_true rfl) ⟨Nat.le_refl _, Nat.le_refl _⟩ ?_ rfl
    refine g_i2l (n := 9) dL_bound_8 rfl ?_
    refine g_last (n := 10) dL_bound_9 rfl (z_lvP (by first | decide | assumption)) rfl ?_
    refine g_goto (n := 0) (t := 21) dL_bound_10 (by decide) ?_
    refine g_iconst (n := 22) dL_bound_21 rfl k_ic_0 ?_
    exact g_ireturn dL_bound_22 rfl rfl rfl rfl
  · obtain ⟨rfl, cf⟩ := H
    refine ⟨M1, b, nI 1, O, ?_, fun h => absurd h (by decide), Hg⟩
    refine zC1_of (L0 := [vR 9 0, vI x, vI y, vR 38 0, vU]) (by decide) (by decide) rfl (Nat.le_of_ble_eq_true rfl) rfl rfl ?_
    refine g_aload_n (n := 1) dL_bound_0 rfl rfl ?_
    refine g_iconst (n := 2) dL_bound_1 rfl k_ic_0 ?_
    refine g_aload_n (n := 3) dL_bound_2 rfl rfl ?_
    refine g_iload_n (n := 4) dL_bound_3 rfl rfl ?_
    refine g_iload_n (n := 5) dL_bound_4 rfl rfl ?_
    refine g_cVH (pre := []) (x := ⟨0, 10, 13, 13⟩) (suf := [⟨0, 10, 17, 15⟩]) cf dL_bound_5 kw_L_30 rfl (by decide) (z_lvP (by decide)) (Nat.le_of_ble_eq_true rfl) ⟨Nat.le_refl _, Nat.le_refl _⟩ rfl rfl (fun z h => by cases h) zE_i1 rfl (by decide) kx_L_13 (fun q => ?_) rfl
    refine g_astoreX (k := 4) dL_bound_13 rfl (by decide) (fun u _ h => by cases h; rfl) rfl ?_
    refine g_iconst (n := 16) dL_bound_15 rfl k_ic_1 ?_
    exact g_ireturn dL_bound_16 rfl rfl rfl rfl
  · obtain ⟨_, rfl, cf⟩ := H
    refine ⟨M1, b, nI 2, O, ?_, fun h => absurd h (by decide), Hg⟩
    refine zC1_of (L0 := [vR 9 0, vI x, vI y, vR 38 0, vU]) (by decide) (by decide) rfl (Nat.le_of_ble_eq_true rfl) rfl rfl ?_
    refine g_aload_n (n := 1) dL_bound_0 rfl rfl ?_
    refine g_iconst (n := 2) dL_bound_1 rfl k_ic_0 ?_
    refine g_aload_n (n := 3) dL_bound_2 rfl rfl ?_
    refine g_iload_n (n := 4) dL_bound_3 rfl rfl ?_
    refine g_iload_n (n := 5) dL_bound_4 rfl rfl ?_
    refine g_cVH (pre := [⟨0, 10, 13, 13⟩]) (x := ⟨0, 10, 17, 15⟩) (suf := []) cf dL_bound_5 kw_L_30 rfl (by decide) (z_lvP (by decide)) (Nat.le_of_ble_eq_true rfl) ⟨Nat.le_refl _, Nat.le_refl _⟩ rfl rfl (fun z h => by rw [List.mem_singleton.mp h]; exact Or.inr ⟨by decide, xIOOB, zE_i1, zE_1.symm, kx_L_13⟩) zE_i2 rfl (by decide) kx_L_15 (fun q => ?_) rfl
    refine g_astoreX (k := 4) dL_bound_17 rfl (by decide) (fun u _ h => by cases h; rfl) rfl ?_
    refine g_iconst (n := 20) dL_bound_19 rfl k_ic_2 ?_
    exact g_ireturn dL_bound_20 rfl rfl rfl rfl
theorem h_set (x y : Int32) (H : zOp w mX9_set mX10_set [vI x, vI y] xIOOB xIA O M) : zHp w mL_set mX10_set [vI x, vI y] O M := by
  obtain ⟨M1, b, e, H | H | H, Hg⟩ := H
  · obtain ⟨rfl, cf⟩ := H
    refine ⟨M1, b, nI 0, fun j => if j = 0 then b.toInt64 else O j, ?_, fun _ => rfl, Hg⟩
    refine zC1_of (L0 := [vR 9 0, vI x, vI y, vR 38 0, vU]) (by decide) (by decide) rfl (Nat.le_of_ble_eq_true rfl) rfl rfl ?_
    refine g_aload_n (n := 1) dL_set_0 rfl rfl ?_
    refine g_iconst (n := 2) dL_set_1 rfl k_ic_0 ?_
    refine g_aload_n (n := 3) dL_set_2 rfl rfl ?_
    refine g_iload_n (n := 4) dL_set_3 rfl rfl ?_
    refine g_iload_n (n := 5) dL_set_4 rfl rfl ?_
    refine g_cVv (n := 8) cf dL_set_5 rfl kw_L_33 rfl (by decide) (z_lvP (by first | decide | assumption)) (Nat.le_of_ble_eq_true rfl) ⟨Nat.le_refl _, Nat.le_refl _⟩ ?_ rfl
    refine g_i2l (n := 9) dL_set_8 rfl ?_
    refine g_last (n := 10) dL_set_9 rfl (z_lvP (by first | decide | assumption)) rfl ?_
    refine g_goto (n := 0) (t := 21) dL_set_10 (by decide) ?_
    refine g_iconst (n := 22) dL_set_21 rfl k_ic_0 ?_
    exact g_ireturn dL_set_22 rfl rfl rfl rfl
  · obtain ⟨rfl, cf⟩ := H
    refine ⟨M1, b, nI 1, O, ?_, fun h => absurd h (by decide), Hg⟩
    refine zC1_of (L0 := [vR 9 0, vI x, vI y, vR 38 0, vU]) (by decide) (by decide) rfl (Nat.le_of_ble_eq_true rfl) rfl rfl ?_
    refine g_aload_n (n := 1) dL_set_0 rfl rfl ?_
    refine g_iconst (n := 2) dL_set_1 rfl k_ic_0 ?_
    refine g_aload_n (n := 3) dL_set_2 rfl rfl ?_
    refine g_iload_n (n := 4) dL_set_3 rfl rfl ?_
    refine g_iload_n (n := 5) dL_set_4 rfl rfl ?_
    refine g_cVH (pre := []) (x := ⟨0, 10, 13, 13⟩) (suf := [⟨0, 10, 17, 15⟩]) cf dL_set_5 kw_L_33 rfl (by decide) (z_lvP (by decide)) (Nat.le_of_ble_eq_true rfl) ⟨Nat.le_refl _, Nat.le_refl _⟩ rfl rfl (fun z h => by cases h) zE_i1 rfl (by decide) kx_L_13 (fun q => ?_) rfl
    refine g_astoreX (k := 4) dL_set_13 rfl (by decide) (fun u _ h => by cases h; rfl) rfl ?_
    refine g_iconst (n := 16) dL_set_15 rfl k_ic_1 ?_
    exact g_ireturn dL_set_16 rfl rfl rfl rfl
  · obtain ⟨_, rfl, cf⟩ := H
    refine ⟨M1, b, nI 2, O, ?_, fun h => absurd h (by decide), Hg⟩
    refine zC1_of (L0 := [vR 9 0, vI x, vI y, vR 38 0, vU]) (by decide) (by decide) rfl (Nat.le_of_ble_eq_true rfl) rfl rfl ?_
    refine g_aload_n (n := 1) dL_set_0 rfl rfl ?_
    refine g_iconst (n := 2) dL_set_1 rfl k_ic_0 ?_
    refine g_aload_n (n := 3) dL_set_2 rfl rfl ?_
    refine g_iload_n (n := 4) dL_set_3 rfl rfl ?_
    refine g_iload_n (n := 5) dL_set_4 rfl rfl ?_
    refine g_cVH (pre := [⟨0, 10, 13, 13⟩]) (x := ⟨0, 10, 17, 15⟩) (suf := []) cf dL_set_5 kw_L_33 rfl (by decide) (z_lvP (by decide)) (Nat.le_of_ble_eq_true rfl) ⟨Nat.le_refl _, Nat.le_refl _⟩ rfl rfl (fun z h => by rw [List.mem_singleton.mp h]; exact Or.inr ⟨by decide, xIOOB, zE_i1, zE_1.symm, kx_L_13⟩) zE_i2 rfl (by decide) kx_L_15 (fun q => ?_) rfl
    refine g_astoreX (k := 4) dL_set_17 rfl (by decide) (fun u _ h => by cases h; rfl) rfl ?_
    refine g_iconst (n := 20) dL_set_19 rfl k_ic_2 ?_
    exact g_ireturn dL_set_20 rfl rfl rfl rfl
theorem h_send (x y : Int32) (H : zOp w mX9_send mX10_send [vI x, vI y] xIOOB xIS O M) : zHp w mL_send mX10_send [vI x, vI y] O M := by
  obtain ⟨M1, b, e, H | H | H, Hg⟩ := H
  · obtain ⟨rfl, cf⟩ := H
    refine ⟨M1, b, nI 0, fun j => if j = 0 then b.toInt64 else O j, ?_, fun _ => rfl, Hg⟩
    refine zC1_of (L0 := [vR 9 0, vI x, vI y, vR 38 0, vU]) (by decide) (by decide) rfl (Nat.le_of_ble_eq_true rfl) rfl rfl ?_
    refine g_aload_n (n := 1) dL_send_0 rfl rfl ?_
    refine g_iconst (n := 2) dL_send_1 rfl k_ic_0 ?_
    refine g_aload_n (n := 3) dL_send_2 rfl rfl ?_
    refine g_iload_n (n := 4) dL_send_3 rfl rfl ?_
    refine g_iload_n (n := 5) dL_send_4 rfl rfl ?_
    refine g_cVv (n := 8) cf dL_send_5 rfl kw_L_36 rfl (by decide) (z_lvP (by first | decide | assumption)) (Nat.le_of_ble_eq_true rfl) ⟨Nat.le_refl _, Nat.le_refl _⟩ ?_ rfl
    refine g_i2l (n := 9) dL_send_8 rfl ?_
    refine g_last (n := 10) dL_send_9 rfl (z_lvP (by first | decide | assumption)) rfl ?_
    refine g_goto (n := 0) (t := 21) dL_send_10 (by decide) ?_
    refine g_iconst (n := 22) dL_send_21 rfl k_ic_0 ?_
    exact g_ireturn dL_send_22 rfl rfl rfl rfl
  · obtain ⟨rfl, cf⟩ := H
    refine ⟨M1, b, nI 1, O, ?_, fun h => absurd h (by decide), Hg⟩
    refine zC1_of (L0 := [vR 9 0, vI x, vI y, vR 38 0, vU]) (by decide) (by decide) rfl (Nat.le_of_ble_eq_true rfl) rfl rfl ?_
    refine g_aload_n (n := 1) dL_send_0 rfl rfl ?_
    refine g_iconst (n := 2) dL_send_1 rfl k_ic_0 ?_
    refine g_aload_n (n := 3) dL_send_2 rfl rfl ?_
    refine g_iload_n (n := 4) dL_send_3 rfl rfl ?_
    refine g_iload_n (n := 5) dL_send_4 rfl rfl ?_
    refine g_cVH (pre := []) (x := ⟨0, 10, 13, 13⟩) (suf := [⟨0, 10, 17, 21⟩]) cf dL_send_5 kw_L_36 rfl (by decide) (z_lvP (by decide)) (Nat.le_of_ble_eq_true rfl) ⟨Nat.le_refl _, Nat.le_refl _⟩ rfl rfl (fun z h => by cases h) zE_i1 rfl (by decide) kx_L_13 (fun q => ?_) rfl
    refine g_astoreX (k := 4) dL_send_13 rfl (by decide) (fun u _ h => by cases h; rfl) rfl ?_
    refine g_iconst (n := 16) dL_send_15 rfl k_ic_1 ?_
    exact g_ireturn dL_send_16 rfl rfl rfl rfl
  · obtain ⟨_, rfl, cf⟩ := H
    refine ⟨M1, b, nI 2, O, ?_, fun h => absurd h (by decide), Hg⟩
    refine zC1_of (L0 := [vR 9 0, vI x, vI y, vR 38 0, vU]) (by decide) (by decide) rfl (Nat.le_of_ble_eq_true rfl) rfl rfl ?_
    refine g_aload_n (n := 1) dL_send_0 rfl rfl ?_
    refine g_iconst (n := 2) dL_send_1 rfl k_ic_0 ?_
    refine g_aload_n (n := 3) dL_send_2 rfl rfl ?_
    refine g_iload_n (n := 4) dL_send_3 rfl rfl ?_
    refine g_iload_n (n := 5) dL_send_4 rfl rfl ?_
    refine g_cVH (pre := [⟨0, 10, 13, 13⟩]) (x := ⟨0, 10, 17, 21⟩) (suf := []) cf dL_send_5 kw_L_36 rfl (by decide) (z_lvP (by decide)) (Nat.le_of_ble_eq_true rfl) ⟨Nat.le_refl _, Nat.le_refl _⟩ rfl rfl (fun z h => by rw [List.mem_singleton.mp h]; exact Or.inr ⟨by decide, xIOOB, zE_i1, zE_2.symm, kx_L_13⟩) zE_i3 rfl (by decide) kx_L_21 (fun q => ?_) rfl
    refine g_astoreX (k := 4) dL_send_17 rfl (by decide) (fun u _ h => by cases h; rfl) rfl ?_
    refine g_iconst (n := 20) dL_send_19 rfl k_ic_2 ?_
    exact g_ireturn dL_send_20 rfl rfl rfl rfl
theorem h_append (x : Int32) (H : zOp w mX9_append mX10_append [vI x] xIA xIS O M) : zHp w mL_append mX10_append [vI x] O M := by
  obtain ⟨M1, b, e, H | H | H, Hg⟩ := H
  · obtain ⟨rfl, cf⟩ := H
    refine ⟨M1, b, nI 0, fun j => if j = 0 then b.toInt64 else O j, ?_, fun _ => rfl, Hg⟩
    refine zC1_of (L0 := [vR 9 0, vI x, vR 38 0, vU]) (by decide) (by decide) rfl (Nat.le_of_ble_eq_true rfl) rfl rfl ?_
    refine g_aload_n (n := 1) dL_append_0 rfl rfl ?_
    refine g_iconst (n := 2) dL_append_1 rfl k_ic_0 ?_
    refine g_aload_n (n := 3) dL_append_2 rfl rfl ?_
    refine g_iload_n (n := 4) dL_append_3 rfl rfl ?_
    refine g_cVv (n := 7) cf dL_append_4 rfl kw_L_39 rfl (by decide) (z_lvP (by first | decide | assumption)) (Nat.le_of_ble_eq_true rfl) ⟨Nat.le_refl _, Nat.le_refl _⟩ ?_ rfl
    refine g_i2l (n := 8) dL_append_7 rfl ?_
    refine g_last (n := 9) dL_append_8 rfl (z_lvP (by first | decide | assumption)) rfl ?_
    refine g_goto (n := 0) (t := 18) dL_append_9 (by decide) ?_
    refine g_iconst (n := 19) dL_append_18 rfl k_ic_0 ?_
    exact g_ireturn dL_append_19 rfl rfl rfl rfl
  · obtain ⟨rfl, cf⟩ := H
    refine ⟨M1, b, nI 1, O, ?_, fun h => absurd h (by decide), Hg⟩
    refine zC1_of (L0 := [vR 9 0, vI x, vR 38 0, vU]) (by decide) (by decide) rfl (Nat.le_of_ble_eq_true rfl) rfl rfl ?_
    refine g_aload_n (n := 1) dL_append_0 rfl rfl ?_
    refine g_iconst (n := 2) dL_append_1 rfl k_ic_0 ?_
    refine g_aload_n (n := 3) dL_append_2 rfl rfl ?_
    refine g_iload_n (n := 4) dL_append_3 rfl rfl ?_
    refine g_cVH (pre := []) (x := ⟨0, 9, 12, 15⟩) (suf := [⟨0, 9, 15, 21⟩]) cf dL_append_4 kw_L_39 rfl (by decide) (z_lvP (by decide)) (Nat.le_of_ble_eq_true rfl) ⟨Nat.le_refl _, Nat.le_refl _⟩ rfl rfl (fun z h => by cases h) zE_i2 rfl (by decide) kx_L_15 (fun q => ?_) rfl
    refine g_astore_nX (k := 3) (k4 := 3) rfl dL_append_12 rfl (by decide) (fun u _ h => by cases h; rfl) rfl ?_
    refine g_iconst (n := 14) dL_append_13 rfl k_ic_1 ?_
    exact g_ireturn dL_append_14 rfl rfl rfl rfl
  · obtain ⟨_, rfl, cf⟩ := H
    refine ⟨M1, b, nI 2, O, ?_, fun h => absurd h (by decide), Hg⟩
    refine zC1_of (L0 := [vR 9 0, vI x, vR 38 0, vU]) (by decide) (by decide) rfl (Nat.le_of_ble_eq_true rfl) rfl rfl ?_
    refine g_aload_n (n := 1) dL_append_0 rfl rfl ?_
    refine g_iconst (n := 2) dL_append_1 rfl k_ic_0 ?_
    refine g_aload_n (n := 3) dL_append_2 rfl rfl ?_
    refine g_iload_n (n := 4) dL_append_3 rfl rfl ?_
    refine g_cVH (pre := [⟨0, 9, 12, 15⟩]) (x := ⟨0, 9, 15, 21⟩) (suf := []) cf dL_append_4 kw_L_39 rfl (by decide) (z_lvP (by decide)) (Nat.le_of_ble_eq_true rfl) ⟨Nat.le_refl _, Nat.le_refl _⟩ rfl rfl (fun z h => by rw [List.mem_singleton.mp h]; exact Or.inr ⟨by decide, xIA, zE_i2, zE_3.symm, kx_L_15⟩) zE_i3 rfl (by decide) kx_L_21 (fun q => ?_) rfl
    refine g_astore_nX (k := 3) (k4 := 3) rfl dL_append_15 rfl (by decide) (fun u _ h => by cases h; rfl) rfl ?_
    refine g_iconst (n := 17) dL_append_16 rfl k_ic_2 ?_
    exact g_ireturn dL_append_17 rfl rfl rfl rfl
theorem h_run (H : zOp w mX9_run mX10_run [] xIA xIA O M) : zHp w mL_run mX10_run [] O M := by
  obtain ⟨M1, b, e, H | H | H, Hg⟩ := H
  · obtain ⟨rfl, cf⟩ := H
    refine ⟨M1, b, nI 0, fun j => if j = 0 then b.toInt64 else O j, ?_, fun _ => rfl, Hg⟩
    refine zC1_of (L0 := [vR 9 0, vR 38 0, vU]) (by decide) (by decide) rfl (Nat.le_of_ble_eq_true rfl) rfl rfl ?_
    refine g_aload_n (n := 1) dL_run_0 rfl rfl ?_
    refine g_iconst (n := 2) dL_run_1 rfl k_ic_0 ?_
    refine g_aload_n (n := 3) dL_run_2 rfl rfl ?_
    refine g_cVv (n := 6) cf dL_run_3 rfl kw_L_42 rfl (by decide) (z_lvP (by first | decide | assumption)) (Nat.le_of_ble_eq_true rfl) ⟨Nat.le_refl _, Nat.le_refl _⟩ ?_ rfl
    refine g_i2l (n := 7) dL_run_6 rfl ?_
    refine g_last (n := 8) dL_run_7 rfl (z_lvP (by first | decide | assumption)) rfl ?_
    refine g_goto (n := 0) (t := 14) dL_run_8 (by decide) ?_
    refine g_iconst (n := 15) dL_run_14 rfl k_ic_0 ?_
    exact g_ireturn dL_run_15 rfl rfl rfl rfl
  · obtain ⟨rfl, cf⟩ := H
    refine ⟨M1, b, nI 1, O, ?_, fun h => absurd h (by decide), Hg⟩
    refine zC1_of (L0 := [vR 9 0, vR 38 0, vU]) (by decide) (by decide) rfl (Nat.le_of_ble_eq_true rfl) rfl rfl ?_
    refine g_aload_n (n := 1) dL_run_0 rfl rfl ?_
    refine g_iconst (n := 2) dL_run_1 rfl k_ic_0 ?_
    refine g_aload_n (n := 3) dL_run_2 rfl rfl ?_
    refine g_cVH (pre := []) (x := ⟨0, 8, 11, 15⟩) (suf := []) cf dL_run_3 kw_L_42 rfl (by decide) (z_lvP (by decide)) (Nat.le_of_ble_eq_true rfl) ⟨Nat.le_refl _, Nat.le_refl _⟩ rfl rfl (fun z h => by cases h) zE_i2 rfl (by decide) kx_L_15 (fun q => ?_) rfl
    refine g_astore_nX (k := 2) (k4 := 2) rfl dL_run_11 rfl (by decide) (fun u _ h => by cases h; rfl) rfl ?_
    refine g_iconst (n := 13) dL_run_12 rfl k_ic_1 ?_
    exact g_ireturn dL_run_13 rfl rfl rfl rfl
  · exact absurd rfl H.1
theorem h_keep (x : Int32) (H : zOp w mX9_keep mX10_keep [vI x] xIA xIA O M) : zHp w mL_keep mX10_keep [vI x] O M := by
  obtain ⟨M1, b, e, H | H | H, Hg⟩ := H
  · obtain ⟨rfl, cf⟩ := H
    refine ⟨M1, b, nI 0, fun j => if j = 0 then b.toInt64 else O j, ?_, fun _ => rfl, Hg⟩
    refine zC1_of (L0 := [vR 9 0, vI x, vR 38 0, vU]) (by decide) (by decide) rfl (Nat.le_of_ble_eq_true rfl) rfl rfl ?_
    refine g_aload_n (n := 1) dL_keep_0 rfl rfl ?_
    refine g_iconst (n := 2) dL_keep_1 rfl k_ic_0 ?_
    refine g_aload_n (n := 3) dL_keep_2 rfl rfl ?_
    refine g_iload_n (n := 4) dL_keep_3 rfl rfl ?_
    refine g_cVv (n := 7) cf dL_keep_4 rfl kw_L_46 rfl (by decide) (z_lvP (by first | decide | assumption)) (Nat.le_of_ble_eq_true rfl) ⟨Nat.le_refl _, Nat.le_refl _⟩ ?_ rfl
    refine g_i2l (n := 8) dL_keep_7 rfl ?_
    refine g_last (n := 9) dL_keep_8 rfl (z_lvP (by first | decide | assumption)) rfl ?_
    refine g_goto (n := 0) (t := 15) dL_keep_9 (by decide) ?_
    refine g_iconst (n := 16) dL_keep_15 rfl k_ic_0 ?_
    exact g_ireturn dL_keep_16 rfl rfl rfl rfl
  · obtain ⟨rfl, cf⟩ := H
    refine ⟨M1, b, nI 1, O, ?_, fun h => absurd h (by decide), Hg⟩
    refine zC1_of (L0 := [vR 9 0, vI x, vR 38 0, vU]) (by decide) (by decide) rfl (Nat.le_of_ble_eq_true rfl) rfl rfl ?_
    refine g_aload_n (n := 1) dL_keep_0 rfl rfl ?_
    refine g_iconst (n := 2) dL_keep_1 rfl k_ic_0 ?_
    refine g_aload_n (n := 3) dL_keep_2 rfl rfl ?_
    refine g_iload_n (n := 4) dL_keep_3 rfl rfl ?_
    refine g_cVH (pre := []) (x := ⟨0, 9, 12, 15⟩) (suf := []) cf dL_keep_4 kw_L_46 rfl (by decide) (z_lvP (by decide)) (Nat.le_of_ble_eq_true rfl) ⟨Nat.le_refl _, Nat.le_refl _⟩ rfl rfl (fun z h => by cases h) zE_i2 rfl (by decide) kx_L_15 (fun q => ?_) rfl
    refine g_astore_nX (k := 3) (k4 := 3) rfl dL_keep_12 rfl (by decide) (fun u _ h => by cases h; rfl) rfl ?_
    refine g_iconst (n := 14) dL_keep_13 rfl k_ic_1 ?_
    exact g_ireturn dL_keep_14 rfl rfl rfl rfl
  · exact absurd rfl H.1
theorem h_goBack (x : Int32) (H : zOp w mX9_goBack mX10_goBack [vI x] xIA xIS O M) : zHp w mL_goBack mX10_goBack [vI x] O M := by
  obtain ⟨M1, b, e, H | H | H, Hg⟩ := H
  · obtain ⟨rfl, cf⟩ := H
    refine ⟨M1, b, nI 0, fun j => if j = 0 then b.toInt64 else O j, ?_, fun _ => rfl, Hg⟩
    refine zC1_of (L0 := [vR 9 0, vI x, vR 38 0, vU]) (by decide) (by decide) rfl (Nat.le_of_ble_eq_true rfl) rfl rfl ?_
    refine g_aload_n (n := 1) dL_goBack_0 rfl rfl ?_
    refine g_iconst (n := 2) dL_goBack_1 rfl k_ic_0 ?_
    refine g_aload_n (n := 3) dL_goBack_2 rfl rfl ?_
    refine g_iload_n (n := 4) dL_goBack_3 rfl rfl ?_
    refine g_cVv (n := 7) cf dL_goBack_4 rfl kw_L_49 rfl (by decide) (z_lvP (by first | decide | assumption)) (Nat.le_of_ble_eq_true rfl) ⟨Nat.le_refl _, Nat.le_refl _⟩ ?_ rfl
    refine g_i2l (n := 8) dL_goBack_7 rfl ?_
    refine g_last (n := 9) dL_goBack_8 rfl (z_lvP (by first | decide | assumption)) rfl ?_
    refine g_goto (n := 0) (t := 18) dL_goBack_9 (by decide) ?_
    refine g_iconst (n := 19) dL_goBack_18 rfl k_ic_0 ?_
    exact g_ireturn dL_goBack_19 rfl rfl rfl rfl
  · obtain ⟨rfl, cf⟩ := H
    refine ⟨M1, b, nI 1, O, ?_, fun h => absurd h (by decide), Hg⟩
    refine zC1_of (L0 := [vR 9 0, vI x, vR 38 0, vU]) (by decide) (by decide) rfl (Nat.le_of_ble_eq_true rfl) rfl rfl ?_
    refine g_aload_n (n := 1) dL_goBack_0 rfl rfl ?_
    refine g_iconst (n := 2) dL_goBack_1 rfl k_ic_0 ?_
    refine g_aload_n (n := 3) dL_goBack_2 rfl rfl ?_
    refine g_iload_n (n := 4) dL_goBack_3 rfl rfl ?_
    refine g_cVH (pre := []) (x := ⟨0, 9, 12, 15⟩) (suf := [⟨0, 9, 15, 21⟩]) cf dL_goBack_4 kw_L_49 rfl (by decide) (z_lvP (by decide)) (Nat.le_of_ble_eq_true rfl) ⟨Nat.le_refl _, Nat.le_refl _⟩ rfl rfl (fun z h => by cases h) zE_i2 rfl (by decide) kx_L_15 (fun q => ?_) rfl
    refine g_astore_nX (k := 3) (k4 := 3) rfl dL_goBack_12 rfl (by decide) (fun u _ h => by cases h; rfl) rfl ?_
    refine g_iconst (n := 14) dL_goBack_13 rfl k_ic_1 ?_
    exact g_ireturn dL_goBack_14 rfl rfl rfl rfl
  · obtain ⟨_, rfl, cf⟩ := H
    refine ⟨M1, b, nI 2, O, ?_, fun h => absurd h (by decide), Hg⟩
    refine zC1_of (L0 := [vR 9 0, vI x, vR 38 0, vU]) (by decide) (by decide) rfl (Nat.le_of_ble_eq_true rfl) rfl rfl ?_
    refine g_aload_n (n := 1) dL_goBack_0 rfl rfl ?_
    refine g_iconst (n := 2) dL_goBack_1 rfl k_ic_0 ?_
    refine g_aload_n (n := 3) dL_goBack_2 rfl rfl ?_
    refine g_iload_n (n := 4) dL_goBack_3 rfl rfl ?_
    refine g_cVH (pre := [⟨0, 9, 12, 15⟩]) (x := ⟨0, 9, 15, 21⟩) (suf := []) cf dL_goBack_4 kw_L_49 rfl (by decide) (z_lvP (by decide)) (Nat.le_of_ble_eq_true rfl) ⟨Nat.le_refl _, Nat.le_refl _⟩ rfl rfl (fun z h => by rw [List.mem_singleton.mp h]; exact Or.inr ⟨by decide, xIA, zE_i2, zE_3.symm, kx_L_15⟩) zE_i3 rfl (by decide) kx_L_21 (fun q => ?_) rfl
    refine g_astore_nX (k := 3) (k4 := 3) rfl dL_goBack_15 rfl (by decide) (fun u _ h => by cases h; rfl) rfl ?_
    refine g_iconst (n := 17) dL_goBack_16 rfl k_ic_2 ?_
    exact g_ireturn dL_goBack_17 rfl rfl rfl rfl
theorem h_undo (H : zOp w mX9_undo mX10_undo [] xIS xIS O M) : zHp w mL_undo mX10_undo [] O M := by
  obtain ⟨M1, b, e, H | H | H, Hg⟩ := H
  · obtain ⟨rfl, cf⟩ := H
    refine ⟨M1, b, nI 0, fun j => if j = 0 then b.toInt64 else O j, ?_, fun _ => rfl, Hg⟩
    refine zC1_of (L0 := [vR 9 0, vR 38 0, vU]) (by decide) (by decide) rfl (Nat.le_of_ble_eq_true rfl) rfl rfl ?_
    refine g_aload_n (n := 1) dL_undo_0 rfl rfl ?_
    refine g_iconst (n := 2) dL_undo_1 rfl k_ic_0 ?_
    refine g_aload_n (n := 3) dL_undo_2 rfl rfl ?_
    refine g_cVv (n := 6) cf dL_undo_3 rfl kw_L_52 rfl (by decide) (z_lvP (by first | decide | assumption)) (Nat.le_of_ble_eq_true rfl) ⟨Nat.le_refl _, Nat.le_refl _⟩ ?_ rfl
    refine g_i2l (n := 7) dL_undo_6 rfl ?_
    refine g_last (n := 8) dL_undo_7 rfl (z_lvP (by first | decide | assumption)) rfl ?_
    refine g_goto (n := 0) (t := 14) dL_undo_8 (by decide) ?_
    refine g_iconst (n := 15) dL_undo_14 rfl k_ic_0 ?_
    exact g_ireturn dL_undo_15 rfl rfl rfl rfl
  · obtain ⟨rfl, cf⟩ := H
    refine ⟨M1, b, nI 1, O, ?_, fun h => absurd h (by decide), Hg⟩
    refine zC1_of (L0 := [vR 9 0, vR 38 0, vU]) (by decide) (by decide) rfl (Nat.le_of_ble_eq_true rfl) rfl rfl ?_
    refine g_aload_n (n := 1) dL_undo_0 rfl rfl ?_
    refine g_iconst (n := 2) dL_undo_1 rfl k_ic_0 ?_
    refine g_aload_n (n := 3) dL_undo_2 rfl rfl ?_
    refine g_cVH (pre := []) (x := ⟨0, 8, 11, 21⟩) (suf := []) cf dL_undo_3 kw_L_52 rfl (by decide) (z_lvP (by decide)) (Nat.le_of_ble_eq_true rfl) ⟨Nat.le_refl _, Nat.le_refl _⟩ rfl rfl (fun z h => by cases h) zE_i3 rfl (by decide) kx_L_21 (fun q => ?_) rfl
    refine g_astore_nX (k := 2) (k4 := 2) rfl dL_undo_11 rfl (by decide) (fun u _ h => by cases h; rfl) rfl ?_
    refine g_iconst (n := 13) dL_undo_12 rfl k_ic_1 ?_
    exact g_ireturn dL_undo_13 rfl rfl rfl rfl
  · exact absurd rfl H.1
theorem h_roadOf (x y : Int32) (H : zOp w mX9_roadOf mX10_roadOf [vI x, vI y] xIOOB xIOOB O M) : zHp w mL_roadOf mX10_roadOf [vI x, vI y] O M := by
  obtain ⟨M1, b, e, H | H | H, Hg⟩ := H
  · obtain ⟨rfl, cf⟩ := H
    refine ⟨M1, b, nI 0, fun j => if j = 0 then b.toInt64 else O j, ?_, fun _ => rfl, Hg⟩
    refine zC1_of (L0 := [vR 9 0, vI x, vI y, vR 38 0, vU]) (by decide) (by decide) rfl (Nat.le_of_ble_eq_true rfl) rfl rfl ?_
    refine g_aload_n (n := 1) dL_roadOf_0 rfl rfl ?_
    refine g_iconst (n := 2) dL_roadOf_1 rfl k_ic_0 ?_
    refine g_aload_n (n := 3) dL_roadOf_2 rfl rfl ?_
    refine g_iload_n (n := 4) dL_roadOf_3 rfl rfl ?_
    refine g_iload_n (n := 5) dL_roadOf_4 rfl rfl ?_
    refine g_cVv (n := 8) cf dL_roadOf_5 rfl kw_L_55 rfl (by decide) (z_lvP (by first | decide | assumption)) (Nat.le_of_ble_eq_true rfl) ⟨Nat.le_refl _, Nat.le_refl _⟩ ?_ rfl
    refine g_i2l (n := 9) dL_roadOf_8 rfl ?_
    refine g_last (n := 10) dL_roadOf_9 rfl (z_lvP (by first | decide | assumption)) rfl ?_
    refine g_goto (n := 0) (t := 17) dL_roadOf_10 (by decide) ?_
    refine g_iconst (n := 18) dL_roadOf_17 rfl k_ic_0 ?_
    exact g_ireturn dL_roadOf_18 rfl rfl rfl rfl
  · obtain ⟨rfl, cf⟩ := H
    refine ⟨M1, b, nI 1, O, ?_, fun h => absurd h (by decide), Hg⟩
    refine zC1_of (L0 := [vR 9 0, vI x, vI y, vR 38 0, vU]) (by decide) (by decide) rfl (Nat.le_of_ble_eq_true rfl) rfl rfl ?_
    refine g_aload_n (n := 1) dL_roadOf_0 rfl rfl ?_
    refine g_iconst (n := 2) dL_roadOf_1 rfl k_ic_0 ?_
    refine g_aload_n (n := 3) dL_roadOf_2 rfl rfl ?_
    refine g_iload_n (n := 4) dL_roadOf_3 rfl rfl ?_
    refine g_iload_n (n := 5) dL_roadOf_4 rfl rfl ?_
    refine g_cVH (pre := []) (x := ⟨0, 10, 13, 13⟩) (suf := []) cf dL_roadOf_5 kw_L_55 rfl (by decide) (z_lvP (by decide)) (Nat.le_of_ble_eq_true rfl) ⟨Nat.le_refl _, Nat.le_refl _⟩ rfl rfl (fun z h => by cases h) zE_i1 rfl (by decide) kx_L_13 (fun q => ?_) rfl
    refine g_astoreX (k := 4) dL_roadOf_13 rfl (by decide) (fun u _ h => by cases h; rfl) rfl ?_
    refine g_iconst (n := 16) dL_roadOf_15 rfl k_ic_1 ?_
    exact g_ireturn dL_roadOf_16 rfl rfl rfl rfl
  · exact absurd rfl H.1
theorem h_distance (x y z : Int32) (H : zOp w mX9_distance mX10_distance [vI x, vI y, vI z] xIOOB xIA O M) : zHp w mL_distance mX10_distance [vI x, vI y, vI z] O M := by
  obtain ⟨M1, b, e, H | H | H, Hg⟩ := H
  · obtain ⟨rfl, cf⟩ := H
    refine ⟨M1, b, nI 0, fun j => if j = 0 then b.toInt64 else O j, ?_, fun _ => rfl, Hg⟩
    refine zC1_of (L0 := [vR 9 0, vI x, vI y, vI z, vR 38 0, vU]) (by decide) (by decide) rfl (Nat.le_of_ble_eq_true rfl) rfl rfl ?_
    refine g_aload (n := 2) dL_distance_0 rfl rfl ?_
    refine g_iconst (n := 3) dL_distance_2 rfl k_ic_0 ?_
    refine g_aload_n (n := 4) dL_distance_3 rfl rfl ?_
    refine g_iload_n (n := 5) dL_distance_4 rfl rfl ?_
    refine g_iload_n (n := 6) dL_distance_5 rfl rfl ?_
    refine g_iload_n (n := 7) dL_distance_6 rfl rfl ?_
    refine g_cVv (n := 10) cf dL_distance_7 rfl kw_L_58 rfl (by decide) (z_lvP (by first | decide | assumption)) (Nat.le_of_ble_eq_true rfl) ⟨Nat.le_refl _, Nat.le_refl _⟩ ?_ rfl
    refine g_i2l (n := 11) dL_distance_10 rfl ?_
    refine g_last (n := 12) dL_distance_11 rfl (z_lvP (by first | decide | assumption)) rfl ?_
    refine g_goto (n := 0) (t := 23) dL_distance_12 (by decide) ?_
    refine g_iconst (n := 24) dL_distance_23 rfl k_ic_0 ?_
    exact g_ireturn dL_distance_24 rfl rfl rfl rfl
  · obtain ⟨rfl, cf⟩ := H
    refine ⟨M1, b, nI 1, O, ?_, fun h => absurd h (by decide), Hg⟩
    refine zC1_of (L0 := [vR 9 0, vI x, vI y, vI z, vR 38 0, vU]) (by decide) (by decide) rfl (Nat.le_of_ble_eq_true rfl) rfl rfl ?_
    refine g_aload (n := 2) dL_distance_0 rfl rfl ?_
    refine g_iconst (n := 3) dL_distance_2 rfl k_ic_0 ?_
    refine g_aload_n (n := 4) dL_distance_3 rfl rfl ?_
    refine g_iload_n (n := 5) dL_distance_4 rfl rfl ?_
    refine g_iload_n (n := 6) dL_distance_5 rfl rfl ?_
    refine g_iload_n (n := 7) dL_distance_6 rfl rfl ?_
    refine g_cVH (pre := []) (x := ⟨0, 12, 15, 13⟩) (suf := [⟨0, 12, 19, 15⟩]) cf dL_distance_7 kw_L_58 rfl (by decide) (z_lvP (by decide)) (Nat.le_of_ble_eq_true rfl) ⟨Nat.le_refl _, Nat.le_refl _⟩ rfl rfl (fun z h => by cases h) zE_i1 rfl (by decide) kx_L_13 (fun q => ?_) rfl
    refine g_astoreX (k := 5) dL_distance_15 rfl (by decide) (fun u _ h => by cases h; rfl) rfl ?_
    refine g_iconst (n := 18) dL_distance_17 rfl k_ic_1 ?_
    exact g_ireturn dL_distance_18 rfl rfl rfl rfl
  · obtain ⟨_, rfl, cf⟩ := H
    refine ⟨M1, b, nI 2, O, ?_, fun h => absurd h (by decide), Hg⟩
    refine zC1_of (L0 := [vR 9 0, vI x, vI y, vI z, vR 38 0, vU]) (by decide) (by decide) rfl (Nat.le_of_ble_eq_true rfl) rfl rfl ?_
    refine g_aload (n := 2) dL_distance_0 rfl rfl ?_
    refine g_iconst (n := 3) dL_distance_2 rfl k_ic_0 ?_
    refine g_aload_n (n := 4) dL_distance_3 rfl rfl ?_
    refine g_iload_n (n := 5) dL_distance_4 rfl rfl ?_
    refine g_iload_n (n := 6) dL_distance_5 rfl rfl ?_
    refine g_iload_n (n := 7) dL_distance_6 rfl rfl ?_
    refine g_cVH (pre := [⟨0, 12, 15, 13⟩]) (x := ⟨0, 12, 19, 15⟩) (suf := []) cf dL_distance_7 kw_L_58 rfl (by decide) (z_lvP (by decide)) (Nat.le_of_ble_eq_true rfl) ⟨Nat.le_refl _, Nat.le_refl _⟩ rfl rfl (fun z h => by rw [List.mem_singleton.mp h]; exact Or.inr ⟨by decide, xIOOB, zE_i1, zE_1.symm, kx_L_13⟩) zE_i2 rfl (by decide) kx_L_15 (fun q => ?_) rfl
    refine g_astoreX (k := 5) dL_distance_19 rfl (by decide) (fun u _ h => by cases h; rfl) rfl ?_
    refine g_iconst (n := 22) dL_distance_21 rfl k_ic_2 ?_
    exact g_ireturn dL_distance_22 rfl rfl rfl rfl
theorem h_exitOf (x y : Int32) (H : zOp w mX9_exitOf mX10_exitOf [vI x, vI y] xIOOB xIA O M) : zHp w mL_exitOf mX10_exitOf [vI x, vI y] O M := by
  obtain ⟨M1, b, e, H | H | H, Hg⟩ := H
  · obtain ⟨rfl, cf⟩ := H
    refine ⟨M1, b, nI 0, fun j => if j = 0 then b.toInt64 else O j, ?_, fun _ => rfl, Hg⟩
    refine zC1_of (L0 := [vR 9 0, vI x, vI y, vR 38 0, vU]) (by decide) (by decide) rfl (Nat.le_of_ble_eq_true rfl) rfl rfl ?_
    refine g_aload_n (n := 1) dL_exitOf_0 rfl rfl ?_
    refine g_iconst (n := 2) dL_exitOf_1 rfl k_ic_0 ?_
    refine g_aload_n (n := 3) dL_exitOf_2 rfl rfl ?_
    refine g_iload_n (n := 4) dL_exitOf_3 rfl rfl ?_
    refine g_iload_n (n := 5) dL_exitOf_4 rfl rfl ?_
    refine g_cVv (n := 8) cf dL_exitOf_5 rfl kw_L_61 rfl (by decide) (z_lvP (by first | decide | assumption)) (Nat.le_of_ble_eq_true rfl) ⟨Nat.le_refl _, Nat.le_refl _⟩ ?_ rfl
    refine g_i2l (n := 9) dL_exitOf_8 rfl ?_
    refine g_last (n := 10) dL_exitOf_9 rfl (z_lvP (by first | decide | assumption)) rfl ?_
    refine g_goto (n := 0) (t := 21) dL_exitOf_10 (by decide) ?_
    refine g_iconst (n := 22) dL_exitOf_21 rfl k_ic_0 ?_
    exact g_ireturn dL_exitOf_22 rfl rfl rfl rfl
  · obtain ⟨rfl, cf⟩ := H
    refine ⟨M1, b, nI 1, O, ?_, fun h => absurd h (by decide), Hg⟩
    refine zC1_of (L0 := [vR 9 0, vI x, vI y, vR 38 0, vU]) (by decide) (by decide) rfl (Nat.le_of_ble_eq_true rfl) rfl rfl ?_
    refine g_aload_n (n := 1) dL_exitOf_0 rfl rfl ?_
    refine g_iconst (n := 2) dL_exitOf_1 rfl k_ic_0 ?_
    refine g_aload_n (n := 3) dL_exitOf_2 rfl rfl ?_
    refine g_iload_n (n := 4) dL_exitOf_3 rfl rfl ?_
    refine g_iload_n (n := 5) dL_exitOf_4 rfl rfl ?_
    refine g_cVH (pre := []) (x := ⟨0, 10, 13, 13⟩) (suf := [⟨0, 10, 17, 15⟩]) cf dL_exitOf_5 kw_L_61 rfl (by decide) (z_lvP (by decide)) (Nat.le_of_ble_eq_true rfl) ⟨Nat.le_refl _, Nat.le_refl _⟩ rfl rfl (fun z h => by cases h) zE_i1 rfl (by decide) kx_L_13 (fun q => ?_) rfl
    refine g_astoreX (k := 4) dL_exitOf_13 rfl (by decide) (fun u _ h => by cases h; rfl) rfl ?_
    refine g_iconst (n := 16) dL_exitOf_15 rfl k_ic_1 ?_
    exact g_ireturn dL_exitOf_16 rfl rfl rfl rfl
  · obtain ⟨_, rfl, cf⟩ := H
    refine ⟨M1, b, nI 2, O, ?_, fun h => absurd h (by decide), Hg⟩
    refine zC1_of (L0 := [vR 9 0, vI x, vI y, vR 38 0, vU]) (by decide) (by decide) rfl (Nat.le_of_ble_eq_true rfl) rfl rfl ?_
    refine g_aload_n (n := 1) dL_exitOf_0 rfl rfl ?_
    refine g_iconst (n := 2) dL_exitOf_1 rfl k_ic_0 ?_
    refine g_aload_n (n := 3) dL_exitOf_2 rfl rfl ?_
    refine g_iload_n (n := 4) dL_exitOf_3 rfl rfl ?_
    refine g_iload_n (n := 5) dL_exitOf_4 rfl rfl ?_
    refine g_cVH (pre := [⟨0, 10, 13, 13⟩]) (x := ⟨0, 10, 17, 15⟩) (suf := []) cf dL_exitOf_5 kw_L_61 rfl (by decide) (z_lvP (by decide)) (Nat.le_of_ble_eq_true rfl) ⟨Nat.le_refl _, Nat.le_refl _⟩ rfl rfl (fun z h => by rw [List.mem_singleton.mp h]; exact Or.inr ⟨by decide, xIOOB, zE_i1, zE_1.symm, kx_L_13⟩) zE_i2 rfl (by decide) kx_L_15 (fun q => ?_) rfl
    refine g_astoreX (k := 4) dL_exitOf_17 rfl (by decide) (fun u _ h => by cases h; rfl) rfl ?_
    refine g_iconst (n := 20) dL_exitOf_19 rfl k_ic_2 ?_
    exact g_ireturn dL_exitOf_20 rfl rfl rfl rfl
theorem h_neighbourOf (x y : Int32) (H : zOp w mX9_neighbourOf mX10_neighbourOf [vI x, vI y] xIOOB xIA O M) : zHp w mL_neighbourOf mX10_neighbourOf [vI x, vI y] O M := by
  obtain ⟨M1, b, e, H | H | H, Hg⟩ := H
  · obtain ⟨rfl, cf⟩ := H
    refine ⟨M1, b, nI 0, fun j => if j = 0 then b.toInt64 else O j, ?_, fun _ => rfl, Hg⟩
    refine zC1_of (L0 := [vR 9 0, vI x, vI y, vR 38 0, vU]) (by decide) (by decide) rfl (Nat.le_of_ble_eq_true rfl) rfl rfl ?_
    refine g_aload_n (n := 1) dL_neighbourOf_0 rfl rfl ?_
    refine g_iconst (n := 2) dL_neighbourOf_1 rfl k_ic_0 ?_
    refine g_aload_n (n := 3) dL_neighbourOf_2 rfl rfl ?_
    refine g_iload_n (n := 4) dL_neighbourOf_3 rfl rfl ?_
    refine g_iload_n (n := 5) dL_neighbourOf_4 rfl rfl ?_
    refine g_cVv (n := 8) cf dL_neighbourOf_5 rfl kw_L_64 rfl (by decide) (z_lvP (by first | decide | assumption)) (Nat.le_of_ble_eq_true rfl) ⟨Nat.le_refl _, Nat.le_refl _⟩ ?_ rfl
    refine g_i2l (n := 9) dL_neighbourOf_8 rfl ?_
    refine g_last (n := 10) dL_neighbourOf_9 rfl (z_lvP (by first | decide | assumption)) rfl ?_
    refine g_goto (n := 0) (t := 21) dL_neighbourOf_10 (by decide) ?_
    refine g_iconst (n := 22) dL_neighbourOf_21 rfl k_ic_0 ?_
    exact g_ireturn dL_neighbourOf_22 rfl rfl rfl rfl
  · obtain ⟨rfl, cf⟩ := H
    refine ⟨M1, b, nI 1, O, ?_, fun h => absurd h (by decide), Hg⟩
    refine zC1_of (L0 := [vR 9 0, vI x, vI y, vR 38 0, vU]) (by decide) (by decide) rfl (Nat.le_of_ble_eq_true rfl) rfl rfl ?_
    refine g_aload_n (n := 1) dL_neighbourOf_0 rfl rfl ?_
    refine g_iconst (n := 2) dL_neighbourOf_1 rfl k_ic_0 ?_
    refine g_aload_n (n := 3) dL_neighbourOf_2 rfl rfl ?_
    refine g_iload_n (n := 4) dL_neighbourOf_3 rfl rfl ?_
    refine g_iload_n (n := 5) dL_neighbourOf_4 rfl rfl ?_
    refine g_cVH (pre := []) (x := ⟨0, 10, 13, 13⟩) (suf := [⟨0, 10, 17, 15⟩]) cf dL_neighbourOf_5 kw_L_64 rfl (by decide) (z_lvP (by decide)) (Nat.le_of_ble_eq_true rfl) ⟨Nat.le_refl _, Nat.le_refl _⟩ rfl rfl (fun z h => by cases h) zE_i1 rfl (by decide) kx_L_13 (fun q => ?_) rfl
    refine g_astoreX (k := 4) dL_neighbourOf_13 rfl (by decide) (fun u _ h => by cases h; rfl) rfl ?_
    refine g_iconst (n := 16) dL_neighbourOf_15 rfl k_ic_1 ?_
    exact g_ireturn dL_neighbourOf_16 rfl rfl rfl rfl
  · obtain ⟨_, rfl, cf⟩ := H
    refine ⟨M1, b, nI 2, O, ?_, fun h => absurd h (by decide), Hg⟩
    refine zC1_of (L0 := [vR 9 0, vI x, vI y, vR 38 0, vU]) (by decide) (by decide) rfl (Nat.le_of_ble_eq_true rfl) rfl rfl ?_
    refine g_aload_n (n := 1) dL_neighbourOf_0 rfl rfl ?_
    refine g_iconst (n := 2) dL_neighbourOf_1 rfl k_ic_0 ?_
    refine g_aload_n (n := 3) dL_neighbourOf_2 rfl rfl ?_
    refine g_iload_n (n := 4) dL_neighbourOf_3 rfl rfl ?_
    refine g_iload_n (n := 5) dL_neighbourOf_4 rfl rfl ?_
    refine g_cVH (pre := [⟨0, 10, 13, 13⟩]) (x := ⟨0, 10, 17, 15⟩) (suf := []) cf dL_neighbourOf_5 kw_L_64 rfl (by decide) (z_lvP (by decide)) (Nat.le_of_ble_eq_true rfl) ⟨Nat.le_refl _, Nat.le_refl _⟩ rfl rfl (fun z h => by rw [List.mem_singleton.mp h]; exact Or.inr ⟨by decide, xIOOB, zE_i1, zE_1.symm, kx_L_13⟩) zE_i2 rfl (by decide) kx_L_15 (fun q => ?_) rfl
    refine g_astoreX (k := 4) dL_neighbourOf_17 rfl (by decide) (fun u _ h => by cases h; rfl) rfl ?_
    refine g_iconst (n := 20) dL_neighbourOf_19 rfl k_ic_2 ?_
    exact g_ireturn dL_neighbourOf_20 rfl rfl rfl rfl
theorem h_choice (x y z : Int32) (H : zOp w mX9_choice mX10_choice [vI x, vI y, vI z] xIOOB xIA O M) : zHp w mL_choice mX10_choice [vI x, vI y, vI z] O M := by
  obtain ⟨M1, b, e, H | H | H, Hg⟩ := H
  · obtain ⟨rfl, cf⟩ := H
    refine ⟨M1, b, nI 0, fun j => if j = 0 then b.toInt64 else O j, ?_, fun _ => rfl, Hg⟩
    refine zC1_of (L0 := [vR 9 0, vI x, vI y, vI z, vR 38 0, vU]) (by decide) (by decide) rfl (Nat.le_of_ble_eq_true rfl) rfl rfl ?_
    refine g_aload (n := 2) dL_choice_0 rfl rfl ?_
    refine g_iconst (n := 3) dL_choice_2 rfl k_ic_0 ?_
    refine g_aload_n (n := 4) dL_choice_3 rfl rfl ?_
    refine g_iload_n (n := 5) dL_choice_4 rfl rfl ?_
    refine g_iload_n (n := 6) dL_choice_5 rfl rfl ?_
    refine g_iload_n (n := 7) dL_choice_6 rfl rfl ?_
    refine g_cVv (n := 10) cf dL_choice_7 rfl kw_L_67 rfl (by decide) (z_lvP (by first | decide | assumption)) (Nat.le_of_ble_eq_true rfl) ⟨Nat.le_refl _, Nat.le_refl _⟩ ?_ rfl
    refine g_i2l (n := 11) dL_choice_10 rfl ?_
    refine g_last (n := 12) dL_choice_11 rfl (z_lvP (by first | decide | assumption)) rfl ?_
    refine g_goto (n := 0) (t := 23) dL_choice_12 (by decide) ?_
    refine g_iconst (n := 24) dL_choice_23 rfl k_ic_0 ?_
    exact g_ireturn dL_choice_24 rfl rfl rfl rfl
  · obtain ⟨rfl, cf⟩ := H
    refine ⟨M1, b, nI 1, O, ?_, fun h => absurd h (by decide), Hg⟩
    refine zC1_of (L0 := [vR 9 0, vI x, vI y, vI z, vR 38 0, vU]) (by decide) (by decide) rfl (Nat.le_of_ble_eq_true rfl) rfl rfl ?_
    refine g_aload (n := 2) dL_choice_0 rfl rfl ?_
    refine g_iconst (n := 3) dL_choice_2 rfl k_ic_0 ?_
    refine g_aload_n (n := 4) dL_choice_3 rfl rfl ?_
    refine g_iload_n (n := 5) dL_choice_4 rfl rfl ?_
    refine g_iload_n (n := 6) dL_choice_5 rfl rfl ?_
    refine g_iload_n (n := 7) dL_choice_6 rfl rfl ?_
    refine g_cVH (pre := []) (x := ⟨0, 12, 15, 13⟩) (suf := [⟨0, 12, 19, 15⟩]) cf dL_choice_7 kw_L_67 rfl (by decide) (z_lvP (by decide)) (Nat.le_of_ble_eq_true rfl) ⟨Nat.le_refl _, Nat.le_refl _⟩ rfl rfl (fun z h => by cases h) zE_i1 rfl (by decide) kx_L_13 (fun q => ?_) rfl
    refine g_astoreX (k := 5) dL_choice_15 rfl (by decide) (fun u _ h => by cases h; rfl) rfl ?_
    refine g_iconst (n := 18) dL_choice_17 rfl k_ic_1 ?_
    exact g_ireturn dL_choice_18 rfl rfl rfl rfl
  · obtain ⟨_, rfl, cf⟩ := H
    refine ⟨M1, b, nI 2, O, ?_, fun h => absurd h (by decide), Hg⟩
    refine zC1_of (L0 := [vR 9 0, vI x, vI y, vI z, vR 38 0, vU]) (by decide) (by decide) rfl (Nat.le_of_ble_eq_true rfl) rfl rfl ?_
    refine g_aload (n := 2) dL_choice_0 rfl rfl ?_
    refine g_iconst (n := 3) dL_choice_2 rfl k_ic_0 ?_
    refine g_aload_n (n := 4) dL_choice_3 rfl rfl ?_
    refine g_iload_n (n := 5) dL_choice_4 rfl rfl ?_
    refine g_iload_n (n := 6) dL_choice_5 rfl rfl ?_
    refine g_iload_n (n := 7) dL_choice_6 rfl rfl ?_
    refine g_cVH (pre := [⟨0, 12, 15, 13⟩]) (x := ⟨0, 12, 19, 15⟩) (suf := []) cf dL_choice_7 kw_L_67 rfl (by decide) (z_lvP (by decide)) (Nat.le_of_ble_eq_true rfl) ⟨Nat.le_refl _, Nat.le_refl _⟩ rfl rfl (fun z h => by rw [List.mem_singleton.mp h]; exact Or.inr ⟨by decide, xIOOB, zE_i1, zE_1.symm, kx_L_13⟩) zE_i2 rfl (by decide) kx_L_15 (fun q => ?_) rfl
    refine g_astoreX (k := 5) dL_choice_19 rfl (by decide) (fun u _ h => by cases h; rfl) rfl ?_
    refine g_iconst (n := 22) dL_choice_21 rfl k_ic_2 ?_
    exact g_ireturn dL_choice_22 rfl rfl rfl rfl
theorem h_why (x y z : Int32) (H : zOp w mX9_why mX10_why [vI x, vI y, vI z] xIOOB xIOOB O M) : zHp w mL_why mX10_why [vI x, vI y, vI z] O M := by
  obtain ⟨M1, b, e, H | H | H, Hg⟩ := H
  · obtain ⟨rfl, cf⟩ := H
    refine ⟨M1, b, nI 0, fun j => if j = 0 then b.toInt64 else O j, ?_, fun _ => rfl, Hg⟩
    refine zC1_of (L0 := [vR 9 0, vI x, vI y, vI z, vR 38 0, vU]) (by decide) (by decide) rfl (Nat.le_of_ble_eq_true rfl) rfl rfl ?_
    refine g_aload (n := 2) dL_why_0 rfl rfl ?_
    refine g_iconst (n := 3) dL_why_2 rfl k_ic_0 ?_
    refine g_aload_n (n := 4) dL_why_3 rfl rfl ?_
    refine g_iload_n (n := 5) dL_why_4 rfl rfl ?_
    refine g_iload_n (n := 6) dL_why_5 rfl rfl ?_
    refine g_iload_n (n := 7) dL_why_6 rfl rfl ?_
    refine g_cVv (n := 10) cf dL_why_7 rfl kw_L_70 rfl (by decide) (z_lvP (by first | decide | assumption)) (Nat.le_of_ble_eq_true rfl) ⟨Nat.le_refl _, Nat.le_refl _⟩ ?_ rfl
    refine g_i2l (n := 11) dL_why_10 rfl ?_
    refine g_last (n := 12) dL_why_11 rfl (z_lvP (by first | decide | assumption)) rfl ?_
    refine g_goto (n := 0) (t := 19) dL_why_12 (by decide) ?_
    refine g_iconst (n := 20) dL_why_19 rfl k_ic_0 ?_
    exact g_ireturn dL_why_20 rfl rfl rfl rfl
  · obtain ⟨rfl, cf⟩ := H
    refine ⟨M1, b, nI 1, O, ?_, fun h => absurd h (by decide), Hg⟩
    refine zC1_of (L0 := [vR 9 0, vI x, vI y, vI z, vR 38 0, vU]) (by decide) (by decide) rfl (Nat.le_of_ble_eq_true rfl) rfl rfl ?_
    refine g_aload (n := 2) dL_why_0 rfl rfl ?_
    refine g_iconst (n := 3) dL_why_2 rfl k_ic_0 ?_
    refine g_aload_n (n := 4) dL_why_3 rfl rfl ?_
    refine g_iload_n (n := 5) dL_why_4 rfl rfl ?_
    refine g_iload_n (n := 6) dL_why_5 rfl rfl ?_
    refine g_iload_n (n := 7) dL_why_6 rfl rfl ?_
    refine g_cVH (pre := []) (x := ⟨0, 12, 15, 13⟩) (suf := []) cf dL_why_7 kw_L_70 rfl (by decide) (z_lvP (by decide)) (Nat.le_of_ble_eq_true rfl) ⟨Nat.le_refl _, Nat.le_refl _⟩ rfl rfl (fun z h => by cases h) zE_i1 rfl (by decide) kx_L_13 (fun q => ?_) rfl
    refine g_astoreX (k := 5) dL_why_15 rfl (by decide) (fun u _ h => by cases h; rfl) rfl ?_
    refine g_iconst (n := 18) dL_why_17 rfl k_ic_1 ?_
    exact g_ireturn dL_why_18 rfl rfl rfl rfl
  · exact absurd rfl H.1
theorem h_count (x : Int32) (H : zOp w mX9_count mX10_count [vI x] xIA xIA O M) : zHp w mL_count mX10_count [vI x] O M := by
  obtain ⟨M1, b, e, H | H | H, Hg⟩ := H
  · obtain ⟨rfl, cf⟩ := H
    refine ⟨M1, b, nI 0, fun j => if j = 0 then b.toInt64 else O j, ?_, fun _ => rfl, Hg⟩
    refine zC1_of (L0 := [vR 9 0, vI x, vR 38 0, vU]) (by decide) (by decide) rfl (Nat.le_of_ble_eq_true rfl) rfl rfl ?_
    refine g_aload_n (n := 1) dL_count_0 rfl rfl ?_
    refine g_iconst (n := 2) dL_count_1 rfl k_ic_0 ?_
    refine g_aload_n (n := 3) dL_count_2 rfl rfl ?_
    refine g_iload_n (n := 4) dL_count_3 rfl rfl ?_
    refine g_cVv (n := 7) cf dL_count_4 rfl kw_L_73 rfl (by decide) (z_lvP (by first | decide | assumption)) (Nat.le_of_ble_eq_true rfl) ⟨Nat.le_refl _, Nat.le_refl _⟩ ?_ rfl
    refine g_i2l (n := 8) dL_count_7 rfl ?_
    refine g_last (n := 9) dL_count_8 rfl (z_lvP (by first | decide | assumption)) rfl ?_
    refine g_goto (n := 0) (t := 15) dL_count_9 (by decide) ?_
    refine g_iconst (n := 16) dL_count_15 rfl k_ic_0 ?_
    exact g_ireturn dL_count_16 rfl rfl rfl rfl
  · obtain ⟨rfl, cf⟩ := H
    refine ⟨M1, b, nI 1, O, ?_, fun h => absurd h (by decide), Hg⟩
    refine zC1_of (L0 := [vR 9 0, vI x, vR 38 0, vU]) (by decide) (by decide) rfl (Nat.le_of_ble_eq_true rfl) rfl rfl ?_
    refine g_aload_n (n := 1) dL_count_0 rfl rfl ?_
    refine g_iconst (n := 2) dL_count_1 rfl k_ic_0 ?_
    refine g_aload_n (n := 3) dL_count_2 rfl rfl ?_
    refine g_iload_n (n := 4) dL_count_3 rfl rfl ?_
    refine g_cVH (pre := []) (x := ⟨0, 9, 12, 15⟩) (suf := []) cf dL_count_4 kw_L_73 rfl (by decide) (z_lvP (by decide)) (Nat.le_of_ble_eq_true rfl) ⟨Nat.le_refl _, Nat.le_refl _⟩ rfl rfl (fun z h => by cases h) zE_i2 rfl (by decide) kx_L_15 (fun q => ?_) rfl
    refine g_astore_nX (k := 3) (k4 := 3) rfl dL_count_12 rfl (by decide) (fun u _ h => by cases h; rfl) rfl ?_
    refine g_iconst (n := 14) dL_count_13 rfl k_ic_1 ?_
    exact g_ireturn dL_count_14 rfl rfl rfl rfl
  · exact absurd rfl H.1
theorem h_ifRoad (x y z : Int32) (H : zOp w mX9_ifRoad mX10_ifRoad [vI x, vI y, vI z] xIOOB xIA O M) : zHp w mL_ifRoad mX10_ifRoad [vI x, vI y, vI z] O M := by
  obtain ⟨M1, b, e, H | H | H, Hg⟩ := H
  · obtain ⟨rfl, cf⟩ := H
    refine ⟨M1, b, nI 0, fun j => if j = 0 then b.toInt64 else O j, ?_, fun _ => rfl, Hg⟩
    refine zC1_of (L0 := [vR 9 0, vI x, vI y, vI z, vR 38 0, vU]) (by decide) (by decide) rfl (Nat.le_of_ble_eq_true rfl) rfl rfl ?_
    refine g_aload (n := 2) dL_ifRoad_0 rfl rfl ?_
    refine g_iconst (n := 3) dL_ifRoad_2 rfl k_ic_0 ?_
    refine g_aload_n (n := 4) dL_ifRoad_3 rfl rfl ?_
    refine g_iload_n (n := 5) dL_ifRoad_4 rfl rfl ?_
    refine g_iload_n (n := 6) dL_ifRoad_5 rfl rfl ?_
    refine g_iload_n (n := 7) dL_ifRoad_6 rfl rfl ?_
    refine g_cVv (n := 10) cf dL_ifRoad_7 rfl kw_L_76 rfl (by decide) (z_lvP (by first | decide | assumption)) (Nat.le_of_ble_eq_true rfl) ⟨Nat.le_refl _, Nat.le_refl _⟩ ?_ rfl
    refine g_i2l (n := 11) dL_ifRoad_10 rfl ?_
    refine g_last (n := 12) dL_ifRoad_11 rfl (z_lvP (by first | decide | assumption)) rfl ?_
    refine g_goto (n := 0) (t := 23) dL_ifRoad_12 (by decide) ?_
    refine g_iconst (n := 24) dL_ifRoad_23 rfl k_ic_0 ?_
    exact g_ireturn dL_ifRoad_24 rfl rfl rfl rfl
  · obtain ⟨rfl, cf⟩ := H
    refine ⟨M1, b, nI 1, O, ?_, fun h => absurd h (by decide), Hg⟩
    refine zC1_of (L0 := [vR 9 0, vI x, vI y, vI z, vR 38 0, vU]) (by decide) (by decide) rfl (Nat.le_of_ble_eq_true rfl) rfl rfl ?_
    refine g_aload (n := 2) dL_ifRoad_0 rfl rfl ?_
    refine g_iconst (n := 3) dL_ifRoad_2 rfl k_ic_0 ?_
    refine g_aload_n (n := 4) dL_ifRoad_3 rfl rfl ?_
    refine g_iload_n (n := 5) dL_ifRoad_4 rfl rfl ?_
    refine g_iload_n (n := 6) dL_ifRoad_5 rfl rfl ?_
    refine g_iload_n (n := 7) dL_ifRoad_6 rfl rfl ?_
    refine g_cVH (pre := []) (x := ⟨0, 12, 15, 13⟩) (suf := [⟨0, 12, 19, 15⟩]) cf dL_ifRoad_7 kw_L_76 rfl (by decide) (z_lvP (by decide)) (Nat.le_of_ble_eq_true rfl) ⟨Nat.le_refl _, Nat.le_refl _⟩ rfl rfl (fun z h => by cases h) zE_i1 rfl (by decide) kx_L_13 (fun q => ?_) rfl
    refine g_astoreX (k := 5) dL_ifRoad_15 rfl (by decide) (fun u _ h => by cases h; rfl) rfl ?_
    refine g_iconst (n := 18) dL_ifRoad_17 rfl k_ic_1 ?_
    exact g_ireturn dL_ifRoad_18 rfl rfl rfl rfl
  · obtain ⟨_, rfl, cf⟩ := H
    refine ⟨M1, b, nI 2, O, ?_, fun h => absurd h (by decide), Hg⟩
    refine zC1_of (L0 := [vR 9 0, vI x, vI y, vI z, vR 38 0, vU]) (by decide) (by decide) rfl (Nat.le_of_ble_eq_true rfl) rfl rfl ?_
    refine g_aload (n := 2) dL_ifRoad_0 rfl rfl ?_
    refine g_iconst (n := 3) dL_ifRoad_2 rfl k_ic_0 ?_
    refine g_aload_n (n := 4) dL_ifRoad_3 rfl rfl ?_
    refine g_iload_n (n := 5) dL_ifRoad_4 rfl rfl ?_
    refine g_iload_n (n := 6) dL_ifRoad_5 rfl rfl ?_
    refine g_iload_n (n := 7) dL_ifRoad_6 rfl rfl ?_
    refine g_cVH (pre := [⟨0, 12, 15, 13⟩]) (x := ⟨0, 12, 19, 15⟩) (suf := []) cf dL_ifRoad_7 kw_L_76 rfl (by decide) (z_lvP (by decide)) (Nat.le_of_ble_eq_true rfl) ⟨Nat.le_refl _, Nat.le_refl _⟩ rfl rfl (fun z h => by rw [List.mem_singleton.mp h]; exact Or.inr ⟨by decide, xIOOB, zE_i1, zE_1.symm, kx_L_13⟩) zE_i2 rfl (by decide) kx_L_15 (fun q => ?_) rfl
    refine g_astoreX (k := 5) dL_ifRoad_19 rfl (by decide) (fun u _ h => by cases h; rfl) rfl ?_
    refine g_iconst (n := 22) dL_ifRoad_21 rfl k_ic_2 ?_
    exact g_ireturn dL_ifRoad_22 rfl rfl rfl rfl
theorem h_idle (x y : Int32) (H : zOp w mX9_idle mX10_idle [vI x, vI y] xIOOB xIA O M) : zHp w mL_idle mX10_idle [vI x, vI y] O M := by
  obtain ⟨M1, b, e, H | H | H, Hg⟩ := H
  · obtain ⟨rfl, cf⟩ := H
    refine ⟨M1, b, nI 0, fun j => if j = 0 then b.toInt64 else O j, ?_, fun _ => rfl, Hg⟩
    refine zC1_of (L0 := [vR 9 0, vI x, vI y, vR 38 0, vU]) (by decide) (by decide) rfl (Nat.le_of_ble_eq_true rfl) rfl rfl ?_
    refine g_aload_n (n := 1) dL_idle_0 rfl rfl ?_
    refine g_iconst (n := 2) dL_idle_1 rfl k_ic_0 ?_
    refine g_aload_n (n := 3) dL_idle_2 rfl rfl ?_
    refine g_iload_n (n := 4) dL_idle_3 rfl rfl ?_
    refine g_iload_n (n := 5) dL_idle_4 rfl rfl ?_
    refine g_cVv (n := 8) cf dL_idle_5 rfl kw_L_79 rfl (by decide) (z_lvP (by first | decide | assumption)) (Nat.le_of_ble_eq_true rfl) ⟨Nat.le_refl _, Nat.le_refl _⟩ ?_ rfl
    refine g_i2l (n := 9) dL_idle_8 rfl ?_
    refine g_last (n := 10) dL_idle_9 rfl (z_lvP (by first | decide | assumption)) rfl ?_
    refine g_goto (n := 0) (t := 21) dL_idle_10 (by decide) ?_
    refine g_iconst (n := 22) dL_idle_21 rfl k_ic_0 ?_
    exact g_ireturn dL_idle_22 rfl rfl rfl rfl
  · obtain ⟨rfl, cf⟩ := H
    refine ⟨M1, b, nI 1, O, ?_, fun h => absurd h (by decide), Hg⟩
    refine zC1_of (L0 := [vR 9 0, vI x, vI y, vR 38 0, vU]) (by decide) (by decide) rfl (Nat.le_of_ble_eq_true rfl) rfl rfl ?_
    refine g_aload_n (n := 1) dL_idle_0 rfl rfl ?_
    refine g_iconst (n := 2) dL_idle_1 rfl k_ic_0 ?_
    refine g_aload_n (n := 3) dL_idle_2 rfl rfl ?_
    refine g_iload_n (n := 4) dL_idle_3 rfl rfl ?_
    refine g_iload_n (n := 5) dL_idle_4 rfl rfl ?_
    refine g_cVH (pre := []) (x := ⟨0, 10, 13, 13⟩) (suf := [⟨0, 10, 17, 15⟩]) cf dL_idle_5 kw_L_79 rfl (by decide) (z_lvP (by decide)) (Nat.le_of_ble_eq_true rfl) ⟨Nat.le_refl _, Nat.le_refl _⟩ rfl rfl (fun z h => by cases h) zE_i1 rfl (by decide) kx_L_13 (fun q => ?_) rfl
    refine g_astoreX (k := 4) dL_idle_13 rfl (by decide) (fun u _ h => by cases h; rfl) rfl ?_
    refine g_iconst (n := 16) dL_idle_15 rfl k_ic_1 ?_
    exact g_ireturn dL_idle_16 rfl rfl rfl rfl
  · obtain ⟨_, rfl, cf⟩ := H
    refine ⟨M1, b, nI 2, O, ?_, fun h => absurd h (by decide), Hg⟩
    refine zC1_of (L0 := [vR 9 0, vI x, vI y, vR 38 0, vU]) (by decide) (by decide) rfl (Nat.le_of_ble_eq_true rfl) rfl rfl ?_
    refine g_aload_n (n := 1) dL_idle_0 rfl rfl ?_
    refine g_iconst (n := 2) dL_idle_1 rfl k_ic_0 ?_
    refine g_aload_n (n := 3) dL_idle_2 rfl rfl ?_
    refine g_iload_n (n := 4) dL_idle_3 rfl rfl ?_
    refine g_iload_n (n := 5) dL_idle_4 rfl rfl ?_
    refine g_cVH (pre := [⟨0, 10, 13, 13⟩]) (x := ⟨0, 10, 17, 15⟩) (suf := []) cf dL_idle_5 kw_L_79 rfl (by decide) (z_lvP (by decide)) (Nat.le_of_ble_eq_true rfl) ⟨Nat.le_refl _, Nat.le_refl _⟩ rfl rfl (fun z h => by rw [List.mem_singleton.mp h]; exact Or.inr ⟨by decide, xIOOB, zE_i1, zE_1.symm, kx_L_13⟩) zE_i2 rfl (by decide) kx_L_15 (fun q => ?_) rfl
    refine g_astoreX (k := 4) dL_idle_17 rfl (by decide) (fun u _ h => by cases h; rfl) rfl ?_
    refine g_iconst (n := 20) dL_idle_19 rfl k_ic_2 ?_
    exact g_ireturn dL_idle_20 rfl rfl rfl rfl
theorem kz_L_86 : z_kwH RL 86 mL_road 5 := ⟨kh_L_86, by decide, by decide +kernel, by decide +kernel, by decide +kernel, _, _, rfl⟩
theorem kz_L_95 : z_kwH RL 95 mL_exit 4 := ⟨kh_L_95, by decide, by decide +kernel, by decide +kernel, by decide +kernel, _, _, rfl⟩
theorem kz_L_99 : z_kwH RL 99 mL_turn 3 := ⟨kh_L_99, by decide, by decide +kernel, by decide +kernel, by decide +kernel, _, _, rfl⟩
theorem kz_L_103 : z_kwH RL 103 mL_offer 5 := ⟨kh_L_103, by decide, by decide +kernel, by decide +kernel, by decide +kernel, _, _, rfl⟩
theorem kz_L_106 : z_kwH RL 106 mL_bound 4 := ⟨kh_L_106, by decide, by decide +kernel, by decide +kernel, by decide +kernel, _, _, rfl⟩
theorem kz_L_109 : z_kwH RL 109 mL_set 4 := ⟨kh_L_109, by decide, by decide +kernel, by decide +kernel, by decide +kernel, _, _, rfl⟩
theorem kz_L_112 : z_kwH RL 112 mL_send 4 := ⟨kh_L_112, by decide, by decide +kernel, by decide +kernel, by decide +kernel, _, _, rfl⟩
theorem kz_L_119 : z_kwH RL 119 mL_append 3 := ⟨kh_L_119, by decide, by decide +kernel, by decide +kernel, by decide +kernel, _, _, rfl⟩
theorem kz_L_130 : z_kwH RL 130 mL_run 2 := ⟨kh_L_130, by decide, by decide +kernel, by decide +kernel, by decide +kernel, _, _, rfl⟩
theorem kz_L_134 : z_kwH RL 134 mL_keep 3 := ⟨kh_L_134, by decide, by decide +kernel, by decide +kernel, by decide +kernel, _, _, rfl⟩
theorem kz_L_137 : z_kwH RL 137 mL_goBack 3 := ⟨kh_L_137, by decide, by decide +kernel, by decide +kernel, by decide +kernel, _, _, rfl⟩
theorem kz_L_140 : z_kwH RL 140 mL_undo 2 := ⟨kh_L_140, by decide, by decide +kernel, by decide +kernel, by decide +kernel, _, _, rfl⟩
theorem kz_L_143 : z_kwH RL 143 mL_roadOf 4 := ⟨kh_L_143, by decide, by decide +kernel, by decide +kernel, by decide +kernel, _, _, rfl⟩
theorem kz_L_146 : z_kwH RL 146 mL_distance 5 := ⟨kh_L_146, by decide, by decide +kernel, by decide +kernel, by decide +kernel, _, _, rfl⟩
theorem kz_L_149 : z_kwH RL 149 mL_exitOf 4 := ⟨kh_L_149, by decide, by decide +kernel, by decide +kernel, by decide +kernel, _, _, rfl⟩
theorem kz_L_152 : z_kwH RL 152 mL_neighbourOf 4 := ⟨kh_L_152, by decide, by decide +kernel, by decide +kernel, by decide +kernel, _, _, rfl⟩
theorem kz_L_155 : z_kwH RL 155 mL_choice 5 := ⟨kh_L_155, by decide, by decide +kernel, by decide +kernel, by decide +kernel, _, _, rfl⟩
theorem kz_L_158 : z_kwH RL 158 mL_why 5 := ⟨kh_L_158, by decide, by decide +kernel, by decide +kernel, by decide +kernel, _, _, rfl⟩
theorem kz_L_161 : z_kwH RL 161 mL_count 3 := ⟨kh_L_161, by decide, by decide +kernel, by decide +kernel, by decide +kernel, _, _, rfl⟩
theorem kz_L_164 : z_kwH RL 164 mL_ifRoad 5 := ⟨kh_L_164, by decide, by decide +kernel, by decide +kernel, by decide +kernel, _, _, rfl⟩
theorem kz_L_171 : z_kwH RL 171 mL_idle 4 := ⟨kh_L_171, by decide, by decide +kernel, by decide +kernel, by decide +kernel, _, _, rfl⟩
end LH2

