/-! Rows over the world of places: an instruction each. -/
/-- what stands fast inside a method -/
def zX (w : zWp) (f : zMth) (d : Nat) (p : Program) (l : Launch) (R : Room) (s : State) (m : MethodId) (args : Array Value) (meth : Method) (c : Code) : Prop :=
  p.tables.exec = Jvm.exec ∧ c.code = f.2.1 ∧ meth.sig.returnType = f.2.2.2.1 ∧ c.maxLocals = f.2.2.1 ∧ s.vm.findClass f.1.cls = some m.cls ∧ (∀ w9 ∈ zUW, w9.before args s = true) ∧ meth.locks = false ∧ c.exceptionTable.toList = tableOf f.2.2.2.2 ∧ l.stackTraces = false ∧
  d ≤ R.frames ∧ 32 * d ≤ R.locals ∧ va_K w.1 vwCl (z_tys w) s ∧ z_sta w s s.heap ∧ z_txt s ∧ z_nst s ∧ w.2.2.1 ≤ s.heap.size ∧ (f.1.name = "<init>" → meth.name = "<init>") ∧
  (f.1.name = "law" → 460 ≤ R.locals)
section ZX
variable {w : zWp} {f : zMth} {d : Nat} {p : Program} {l : Launch} {R : Room} {s : State} {m : MethodId} {args : Array Value} {meth : Method} {c : Code}
theorem zX.exec (h : zX w f d p l R s m args meth c) : p.tables.exec = Jvm.exec := h.1
theorem zX.code (h : zX w f d p l R s m args meth c) : c.code = f.2.1 := h.2.1
theorem zX.ret (h : zX w f d p l R s m args meth c) : meth.sig.returnType = f.2.2.2.1 := h.2.2.1
theorem zX.maxl (h : zX w f d p l R s m args meth c) : c.maxLocals = f.2.2.1 := h.2.2.2.1
theorem zX.own (h : zX w f d p l R s m args meth c) : s.vm.findClass f.1.cls = some m.cls := h.2.2.2.2.1
theorem zX.hts (h : zX w f d p l R s m args meth c) : ∀ w9 ∈ zUW, w9.before args s = true := h.2.2.2.2.2.1
theorem zX.lck (h : zX w f d p l R s m args meth c) : meth.locks = false := h.2.2.2.2.2.2.1
theorem zX.tab (h : zX w f d p l R s m args meth c) : c.exceptionTable.toList = tableOf f.2.2.2.2 := h.2.2.2.2.2.2.2.1
theorem zX.tra (h : zX w f d p l R s m args meth c) : l.stackTraces = false := h.2.2.2.2.2.2.2.2.1
theorem zX.frm (h : zX w f d p l R s m args meth c) : d ≤ R.frames := h.2.2.2.2.2.2.2.2.2.1
theorem zX.loc (h : zX w f d p l R s m args meth c) : 32 * d ≤ R.locals := h.2.2.2.2.2.2.2.2.2.2.1
theorem zX.K (h : zX w f d p l R s m args meth c) : va_K w.1 vwCl (z_tys w) s := h.2.2.2.2.2.2.2.2.2.2.2.1
theorem zX.sta (h : zX w f d p l R s m args meth c) : z_sta w s s.heap := h.2.2.2.2.2.2.2.2.2.2.2.2.1
theorem zX.txt (h : zX w f d p l R s m args meth c) : z_txt s := h.2.2.2.2.2.2.2.2.2.2.2.2.2.1
theorem zX.nst (h : zX w f d p l R s m args meth c) : z_nst s := h.2.2.2.2.2.2.2.2.2.2.2.2.2.2.1
theorem zX.bas (h : zX w f d p l R s m args meth c) : w.2.2.1 ≤ s.heap.size := h.2.2.2.2.2.2.2.2.2.2.2.2.2.2.2.1
theorem zX.ini (h : zX w f d p l R s m args meth c) : f.1.name = "<init>" → meth.name = "<init>" := h.2.2.2.2.2.2.2.2.2.2.2.2.2.2.2.2.1
theorem zX.lwl (h : zX w f d p l R s m args meth c) : f.1.name = "law" → 460 ≤ R.locals := h.2.2.2.2.2.2.2.2.2.2.2.2.2.2.2.2.2
theorem zX.scr (h : zX w f d p l R s m args meth c) : va_X w.2.2.2.1 w.2.2.2.2.1 w.2.2.2.2.2 s s.heap ∧ w.2.2.2.1 < w.2.2.1 := ⟨h.sta.2.2.1, h.sta.2.2.2.1⟩
theorem zX.hA (h : zX w f d p l R s m args meth c) : ∀ q : Nat, s.heap.size ≤ q → z_A w q := fun _ hq => Nat.le_trans h.bas hq
/-- the world at a state that this method's own heap has come to -/
theorem zX.wd (h : zX w f d p l R s m args meth c) {σ : zSt} {H : Heap} {locs : List Loc} {U : State} (hP : z_hp w σ H) (hZ : z_sz w σ H) (hS : va_S (z_A w) s.heap H locs) (hU : U.heap = H) (hW : s.WarmedH U.vm) : z_Wd w σ U :=
  ⟨by rw [hU]; exact hP, by rw [hU]; exact hZ, va_K.moved hW.alike h.K, by rw [hU]; exact z_sta_moved hW.alike (z_sta_kept h.sta hS.2.1), z_txt_warm hW h.txt, z_nst_warm hW h.nst⟩
end ZX
def z_bud (w : zWp) (σ σ' : zSt) (cr : Nat) (s : State) (cells slots mc ms : Nat) (R : Room) : Prop := cells + (σ'.1 - σ.1) + cr ≤ mc ∧ slots + (z_sl σ'.1 - z_sl σ.1) + 6 * cr ≤ ms ∧ mc ≤ R.cells ∧ ms ≤ R.slots ∧ (σ.1 < 196 → s.heap.size + cells = w.2.2.1 + σ.1)
theorem z_szOf {w : zWp} {σ σ' : zSt} {cr mc ms cells slots : Nat} {p : Program} {l : Launch} {e : Env} {R : Room} {s T : State} {m : MethodId} {args : Array Value} {below : List Frame} {meth : Method} {c : Code} {locs : List Loc} {H : Heap} (X : Stand p l e R s m args below meth c T locs cells slots) (hT : T.heap = H) (hP : z_hp w σ H) (hB : z_bud w σ σ' cr s cells slots mc ms R) : z_sz w σ H := by
  intro h
  have h1 := X.heapSize
  have h2 := z_low hP
  have h3 := hB.2.2.2.2 h
  rw [hT] at h1
  omega
/-- at pc, with these locals, stack and state, the method comes to the outcome r and the state σ' (d frames, cr exceptions may still be made) -/
def zG (w : zWp) (f : zMth) (d cr pc : Nat) (lv stk : List zAV) (σ : zSt) (r : zRes) (σ' : zSt) : Prop :=
  ∀ (p : Program) (l : Launch) (e : Env) (R : Room) (s : State) (m : MethodId) (args : Array Value) (below : List Frame) (meth : Method) (c : Code) (mc ms : Nat) (H : Heap) (locs : List Loc) (cells slots : Nat) (ls : Array Slot),
    zX w f d p l R s m args meth c → lv_has ls f.2.2.1 (z_kn w 0 lv) → z_hp w σ H → va_S (z_A w) s.heap H locs → z_bud w σ σ' cr s cells slots mc ms R →
    W p l e R s m args below meth c H locs cells slots (vx_MQ below (z_Q w r σ') (z_X w r σ') args s mc ms (z_A w)) (F0 m pc ls (stk.map (z_tr w)))

theorem g_iconst {w : zWp} {f : zMth} {d cr pc n : Nat} {lv stk : List zAV} {σ : zSt} {r : zRes} {σ' : zSt} {x : Int} {v : Int32} (hd : decode f.2.1 pc = .ok (.iconst x, 1)) (hn : pc + 1 = n) (hv : Int32.ofInt x = v) (kk : zG w f d cr n (lv) (vI v :: stk) σ r σ') : zG w f d cr pc (lv) (stk) σ r σ' := by
  intro p l e R s m args below meth c mc ms H locs cells slots ls X hl hP hS hB
  subst hn
  exact lv_iconst X.exec X.code hd hv (kk p l e R s m args below meth c mc ms H locs cells slots ls X hl hP hS hB)
theorem g_bipush {w : zWp} {f : zMth} {d cr pc n : Nat} {lv stk : List zAV} {σ : zSt} {r : zRes} {σ' : zSt} {x : Int} {v : Int32} (hd : decode f.2.1 pc = .ok (.bipush x, 2)) (hn : pc + 2 = n) (hv : (Int8.ofInt x).toInt32 = v) (kk : zG w f d cr n (lv) (vI v :: stk) σ r σ') : zG w f d cr pc (lv) (stk) σ r σ' := by
  intro p l e R s m args below meth c mc ms H locs cells slots ls X hl hP hS hB
  subst hn
  exact lv_bipush X.exec X.code hd hv (kk p l e R s m args below meth c mc ms H locs cells slots ls X hl hP hS hB)
theorem g_sipush {w : zWp} {f : zMth} {d cr pc n : Nat} {lv stk : List zAV} {σ : zSt} {r : zRes} {σ' : zSt} {x : Int} {v : Int32} (hd : decode f.2.1 pc = .ok (.sipush x, 3)) (hn : pc + 3 = n) (hv : (Int16.ofInt x).toInt32 = v) (kk : zG w f d cr n (lv) (vI v :: stk) σ r σ') : zG w f d cr pc (lv) (stk) σ r σ' := by
  intro p l e R s m args below meth c mc ms H locs cells slots ls X hl hP hS hB
  subst hn
  exact lv_sipush X.exec X.code hd hv (kk p l e R s m args below meth c mc ms H locs cells slots ls X hl hP hS hB)
theorem g_ldc {w : zWp} {f : zMth} {d cr pc n : Nat} {lv stk : List zAV} {σ : zSt} {r : zRes} {σ' : zSt} {ix : Nat} {v : Int32} (hd : decode f.2.1 pc = .ok (.ldc ix, 2)) (hn : pc + 2 = n) (hw : Cond.constant f.1.cls ix v ∈ zUW) (kk : zG w f d cr n (lv) (vI v :: stk) σ r σ') : zG w f d cr pc (lv) (stk) σ r σ' := by
  intro p l e R s m args below meth c mc ms H locs cells slots ls X hl hP hS hB
  subst hn
  exact lv_ldc X.exec X.code X.own (X.hts _ hw) hd (kk p l e R s m args below meth c mc ms H locs cells slots ls X hl hP hS hB)
theorem g_ldc2 {w : zWp} {f : zMth} {d cr pc n : Nat} {lv stk : List zAV} {σ : zSt} {r : zRes} {σ' : zSt} {ix : Nat} {v : Int64} (hd : decode f.2.1 pc = .ok (.ldc2_w ix, 3)) (hn : pc + 3 = n) (hw : Cond.constantLong f.1.cls ix v ∈ zUW) (kk : zG w f d cr n (lv) (vJ v :: stk) σ r σ') : zG w f d cr pc (lv) (stk) σ r σ' := by
  intro p l e R s m args below meth c mc ms H locs cells slots ls X hl hP hS hB
  subst hn
  exact lv_ldc2 X.exec X.code X.own (X.hts _ hw) hd (kk p l e R s m args below meth c mc ms H locs cells slots ls X hl hP hS hB)
theorem g_ldc2d {w : zWp} {f : zMth} {d cr pc n : Nat} {lv stk : List zAV} {σ : zSt} {r : zRes} {σ' : zSt} {ix : Nat} {v : UInt64} (hd : decode f.2.1 pc = .ok (.ldc2_w ix, 3)) (hn : pc + 3 = n) (hw : Cond.constantDouble f.1.cls ix v ∈ zUW) (kk : zG w f d cr n (lv) (vD v :: stk) σ r σ') : zG w f d cr pc (lv) (stk) σ r σ' := by
  intro p l e R s m args below meth c mc ms H locs cells slots ls X hl hP hS hB
  subst hn
  exact lv_ldc2d X.exec X.code X.own (X.hts _ hw) hd (kk p l e R s m args below meth c mc ms H locs cells slots ls X hl hP hS hB)
theorem g_iload_n {w : zWp} {f : zMth} {d cr pc n : Nat} {lv stk : List zAV} {σ : zSt} {r : zRes} {σ' : zSt} {k : Fin 4} {x : Int32} (hd : decode f.2.1 pc = .ok (.iload_n k, 1)) (hn : pc + 1 = n) (hv : lv[(k : Nat)]? = some (vI x)) (kk : zG w f d cr n (lv) (vI x :: stk) σ r σ') : zG w f d cr pc (lv) (stk) σ r σ' := by
  intro p l e R s m args below meth c mc ms H locs cells slots ls X hl hP hS hB
  subst hn
  exact lv_iload_n X.exec X.code hd rfl (z_ld hl hv rfl) (kk p l e R s m args below meth c mc ms H locs cells slots ls X hl hP hS hB)
theorem g_iload {w : zWp} {f : zMth} {d cr pc n : Nat} {lv stk : List zAV} {σ : zSt} {r : zRes} {σ' : zSt} {k : Nat} {x : Int32} (hd : decode f.2.1 pc = .ok (.iload k, 2)) (hn : pc + 2 = n) (hv : lv[k]? = some (vI x)) (kk : zG w f d cr n (lv) (vI x :: stk) σ r σ') : zG w f d cr pc (lv) (stk) σ r σ' := by
  intro p l e R s m args below meth c mc ms H locs cells slots ls X hl hP hS hB
  subst hn
  exact lv_iload X.exec X.code hd (z_ld hl hv rfl) (kk p l e R s m args below meth c mc ms H locs cells slots ls X hl hP hS hB)
theorem g_lload_n {w : zWp} {f : zMth} {d cr pc n : Nat} {lv stk : List zAV} {σ : zSt} {r : zRes} {σ' : zSt} {k : Fin 4} {x : Int64} (hd : decode f.2.1 pc = .ok (.lload_n k, 1)) (hn : pc + 1 = n) (hv : lv[(k : Nat)]? = some (vJ x)) (kk : zG w f d cr n (lv) (vJ x :: stk) σ r σ') : zG w f d cr pc (lv) (stk) σ r σ' := by
  intro p l e R s m args below meth c mc ms H locs cells slots ls X hl hP hS hB
  subst hn
  exact lv_lload_n X.exec X.code hd rfl (z_ld hl hv rfl) (kk p l e R s m args below meth c mc ms H locs cells slots ls X hl hP hS hB)
theorem g_lload {w : zWp} {f : zMth} {d cr pc n : Nat} {lv stk : List zAV} {σ : zSt} {r : zRes} {σ' : zSt} {k : Nat} {x : Int64} (hd : decode f.2.1 pc = .ok (.lload k, 2)) (hn : pc + 2 = n) (hv : lv[k]? = some (vJ x)) (kk : zG w f d cr n (lv) (vJ x :: stk) σ r σ') : zG w f d cr pc (lv) (stk) σ r σ' := by
  intro p l e R s m args below meth c mc ms H locs cells slots ls X hl hP hS hB
  subst hn
  exact lv_lload X.exec X.code hd (z_ld hl hv rfl) (kk p l e R s m args below meth c mc ms H locs cells slots ls X hl hP hS hB)
theorem g_dload_n {w : zWp} {f : zMth} {d cr pc n : Nat} {lv stk : List zAV} {σ : zSt} {r : zRes} {σ' : zSt} {k : Fin 4} {x : UInt64} (hd : decode f.2.1 pc = .ok (.dload_n k, 1)) (hn : pc + 1 = n) (hv : lv[(k : Nat)]? = some (vD x)) (kk : zG w f d cr n (lv) (vD x :: stk) σ r σ') : zG w f d cr pc (lv) (stk) σ r σ' := by
  intro p l e R s m args below meth c mc ms H locs cells slots ls X hl hP hS hB
  subst hn
  exact lv_dload_n X.exec X.code hd rfl (z_ld hl hv rfl) (kk p l e R s m args below meth c mc ms H locs cells slots ls X hl hP hS hB)
theorem g_dload {w : zWp} {f : zMth} {d cr pc n : Nat} {lv stk : List zAV} {σ : zSt} {r : zRes} {σ' : zSt} {k : Nat} {x : UInt64} (hd : decode f.2.1 pc = .ok (.dload k, 2)) (hn : pc + 2 = n) (hv : lv[k]? = some (vD x)) (kk : zG w f d cr n (lv) (vD x :: stk) σ r σ') : zG w f d cr pc (lv) (stk) σ r σ' := by
  intro p l e R s m args below meth c mc ms H locs cells slots ls X hl hP hS hB
  subst hn
  exact lv_dload X.exec X.code hd (z_ld hl hv rfl) (kk p l e R s m args below meth c mc ms H locs cells slots ls X hl hP hS hB)
theorem g_aload_n {w : zWp} {f : zMth} {d cr pc n : Nat} {lv stk : List zAV} {σ : zSt} {r : zRes} {σ' : zSt} {k : Fin 4} {a i : Nat} (hd : decode f.2.1 pc = .ok (.aload_n k, 1)) (hn : pc + 1 = n) (hv : lv[(k : Nat)]? = some (vR a i)) (kk : zG w f d cr n (lv) (vR a i :: stk) σ r σ') : zG w f d cr pc (lv) (stk) σ r σ' := by
  intro p l e R s m args below meth c mc ms H locs cells slots ls X hl hP hS hB
  subst hn
  exact lv_aload_n X.exec X.code hd rfl (z_ld hl hv rfl) (kk p l e R s m args below meth c mc ms H locs cells slots ls X hl hP hS hB)
theorem g_aload {w : zWp} {f : zMth} {d cr pc n : Nat} {lv stk : List zAV} {σ : zSt} {r : zRes} {σ' : zSt} {k : Nat} {a i : Nat} (hd : decode f.2.1 pc = .ok (.aload k, 2)) (hn : pc + 2 = n) (hv : lv[k]? = some (vR a i)) (kk : zG w f d cr n (lv) (vR a i :: stk) σ r σ') : zG w f d cr pc (lv) (stk) σ r σ' := by
  intro p l e R s m args below meth c mc ms H locs cells slots ls X hl hP hS hB
  subst hn
  exact lv_aload X.exec X.code hd (z_ld hl hv rfl) (kk p l e R s m args below meth c mc ms H locs cells slots ls X hl hP hS hB)
theorem g_aload_nX {w : zWp} {f : zMth} {d cr pc n : Nat} {lv stk : List zAV} {σ : zSt} {r : zRes} {σ' : zSt} {k : Fin 4} {a : Nat} (hd : decode f.2.1 pc = .ok (.aload_n k, 1)) (hn : pc + 1 = n) (hv : lv[(k : Nat)]? = some (.inl (.ref a))) (kk : zG w f d cr n (lv) (.inl (.ref a) :: stk) σ r σ') : zG w f d cr pc (lv) (stk) σ r σ' := by
  intro p l e R s m args below meth c mc ms H locs cells slots ls X hl hP hS hB
  subst hn
  exact lv_aload_n X.exec X.code hd rfl (z_ld hl hv rfl) (kk p l e R s m args below meth c mc ms H locs cells slots ls X hl hP hS hB)
theorem g_istore_n {w : zWp} {f : zMth} {d cr pc n : Nat} {lv stk : List zAV} {σ : zSt} {r : zRes} {σ' : zSt} {lv' : List zAV} {k : Nat} {k4 : Fin 4} {x : Int32} (hk4 : (k4 : Nat) = k) (hd : decode f.2.1 pc = .ok (.istore_n k4, 1)) (hn : pc + 1 = n) (hk : k < f.2.2.1) (hc : ∀ u, 0 < k → lv[k - 1]? = some u → z_c2 u = false) (hL : lv.set k (vI x) = lv') (kk : zG w f d cr n (lv') (stk) σ r σ') : zG w f d cr pc (lv) ((vI x) :: stk) σ r σ' := by
  intro p l e R s m args below meth c mc ms H locs cells slots ls X hl hP hS hB
  subst hn
  subst hL
  exact lv_istore_n X.exec X.code hd hk4 hl hk rfl (fun ls' h' => kk p l e R s m args below meth c mc ms H locs cells slots ls' X (z_store1 (v := (vI x)) hc h') hP hS hB)
theorem g_istore {w : zWp} {f : zMth} {d cr pc n : Nat} {lv stk : List zAV} {σ : zSt} {r : zRes} {σ' : zSt} {lv' : List zAV} {k : Nat} {x : Int32} (hd : decode f.2.1 pc = .ok (.istore k, 2)) (hn : pc + 2 = n) (hk : k < f.2.2.1) (hc : ∀ u, 0 < k → lv[k - 1]? = some u → z_c2 u = false) (hL : lv.set k (vI x) = lv') (kk : zG w f d cr n (lv') (stk) σ r σ') : zG w f d cr pc (lv) ((vI x) :: stk) σ r σ' := by
  intro p l e R s m args below meth c mc ms H locs cells slots ls X hl hP hS hB
  subst hn
  subst hL
  exact lv_istore X.exec X.code hd  hl hk rfl (fun ls' h' => kk p l e R s m args below meth c mc ms H locs cells slots ls' X (z_store1 (v := (vI x)) hc h') hP hS hB)
theorem g_lstore_n {w : zWp} {f : zMth} {d cr pc n : Nat} {lv stk : List zAV} {σ : zSt} {r : zRes} {σ' : zSt} {lv' : List zAV} {k : Nat} {k4 : Fin 4} {x : Int64} (hk4 : (k4 : Nat) = k) (hd : decode f.2.1 pc = .ok (.lstore_n k4, 1)) (hn : pc + 1 = n) (hk : k + 1 < f.2.2.1) (hc : ∀ u, 0 < k → lv[k - 1]? = some u → z_c2 u = false) (hL : (lv.set k (vJ x)).set (k + 1) vU = lv') (kk : zG w f d cr n (lv') (stk) σ r σ') : zG w f d cr pc (lv) ((vJ x) :: stk) σ r σ' := by
  intro p l e R s m args below meth c mc ms H locs cells slots ls X hl hP hS hB
  subst hn
  subst hL
  exact lv_lstore_n X.exec X.code hd hk4 hl hk rfl (fun ls' h' => kk p l e R s m args below meth c mc ms H locs cells slots ls' X (z_store2 (v := (vJ x)) hc h') hP hS hB)
theorem g_lstore {w : zWp} {f : zMth} {d cr pc n : Nat} {lv stk : List zAV} {σ : zSt} {r : zRes} {σ' : zSt} {lv' : List zAV} {k : Nat} {x : Int64} (hd : decode f.2.1 pc = .ok (.lstore k, 2)) (hn : pc + 2 = n) (hk : k + 1 < f.2.2.1) (hc : ∀ u, 0 < k → lv[k - 1]? = some u → z_c2 u = false) (hL : (lv.set k (vJ x)).set (k + 1) vU = lv') (kk : zG w f d cr n (lv') (stk) σ r σ') : zG w f d cr pc (lv) ((vJ x) :: stk) σ r σ' := by
  intro p l e R s m args below meth c mc ms H locs cells slots ls X hl hP hS hB
  subst hn
  subst hL
  exact lv_lstore X.exec X.code hd  hl hk rfl (fun ls' h' => kk p l e R s m args below meth c mc ms H locs cells slots ls' X (z_store2 (v := (vJ x)) hc h') hP hS hB)
theorem g_dstore_n {w : zWp} {f : zMth} {d cr pc n : Nat} {lv stk : List zAV} {σ : zSt} {r : zRes} {σ' : zSt} {lv' : List zAV} {k : Nat} {k4 : Fin 4} {x : UInt64} (hk4 : (k4 : Nat) = k) (hd : decode f.2.1 pc = .ok (.dstore_n k4, 1)) (hn : pc + 1 = n) (hk : k + 1 < f.2.2.1) (hc : ∀ u, 0 < k → lv[k - 1]? = some u → z_c2 u = false) (hL : (lv.set k (vD x)).set (k + 1) vU = lv') (kk : zG w f d cr n (lv') (stk) σ r σ') : zG w f d cr pc (lv) ((vD x) :: stk) σ r σ' := by
  intro p l e R s m args below meth c mc ms H locs cells slots ls X hl hP hS hB
  subst hn
  subst hL
  exact lv_dstore_n X.exec X.code hd hk4 hl hk rfl (fun ls' h' => kk p l e R s m args below meth c mc ms H locs cells slots ls' X (z_store2 (v := (vD x)) hc h') hP hS hB)
theorem g_dstore {w : zWp} {f : zMth} {d cr pc n : Nat} {lv stk : List zAV} {σ : zSt} {r : zRes} {σ' : zSt} {lv' : List zAV} {k : Nat} {x : UInt64} (hd : decode f.2.1 pc = .ok (.dstore k, 2)) (hn : pc + 2 = n) (hk : k + 1 < f.2.2.1) (hc : ∀ u, 0 < k → lv[k - 1]? = some u → z_c2 u = false) (hL : (lv.set k (vD x)).set (k + 1) vU = lv') (kk : zG w f d cr n (lv') (stk) σ r σ') : zG w f d cr pc (lv) ((vD x) :: stk) σ r σ' := by
  intro p l e R s m args below meth c mc ms H locs cells slots ls X hl hP hS hB
  subst hn
  subst hL
  exact lv_dstore X.exec X.code hd  hl hk rfl (fun ls' h' => kk p l e R s m args below meth c mc ms H locs cells slots ls' X (z_store2 (v := (vD x)) hc h') hP hS hB)
theorem g_astore_n {w : zWp} {f : zMth} {d cr pc n : Nat} {lv stk : List zAV} {σ : zSt} {r : zRes} {σ' : zSt} {lv' : List zAV} {k : Nat} {k4 : Fin 4} {a i : Nat} (hk4 : (k4 : Nat) = k) (hd : decode f.2.1 pc = .ok (.astore_n k4, 1)) (hn : pc + 1 = n) (hk : k < f.2.2.1) (hc : ∀ u, 0 < k → lv[k - 1]? = some u → z_c2 u = false) (hL : lv.set k (vR a i) = lv') (kk : zG w f d cr n (lv') (stk) σ r σ') : zG w f d cr pc (lv) ((vR a i) :: stk) σ r σ' := by
  intro p l e R s m args below meth c mc ms H locs cells slots ls X hl hP hS hB
  subst hn
  subst hL
  exact lv_astore_n X.exec X.code hd hk4 hl hk rfl (fun ls' h' => kk p l e R s m args below meth c mc ms H locs cells slots ls' X (z_store1 (v := (vR a i)) hc h') hP hS hB)
theorem g_astore {w : zWp} {f : zMth} {d cr pc n : Nat} {lv stk : List zAV} {σ : zSt} {r : zRes} {σ' : zSt} {lv' : List zAV} {k : Nat} {a i : Nat} (hd : decode f.2.1 pc = .ok (.astore k, 2)) (hn : pc + 2 = n) (hk : k < f.2.2.1) (hc : ∀ u, 0 < k → lv[k - 1]? = some u → z_c2 u = false) (hL : lv.set k (vR a i) = lv') (kk : zG w f d cr n (lv') (stk) σ r σ') : zG w f d cr pc (lv) ((vR a i) :: stk) σ r σ' := by
  intro p l e R s m args below meth c mc ms H locs cells slots ls X hl hP hS hB
  subst hn
  subst hL
  exact lv_astore X.exec X.code hd  hl hk rfl (fun ls' h' => kk p l e R s m args below meth c mc ms H locs cells slots ls' X (z_store1 (v := (vR a i)) hc h') hP hS hB)
theorem g_astore_nX {w : zWp} {f : zMth} {d cr pc n : Nat} {lv stk : List zAV} {σ : zSt} {r : zRes} {σ' : zSt} {lv' : List zAV} {k : Nat} {k4 : Fin 4} {a : Nat} (hk4 : (k4 : Nat) = k) (hd : decode f.2.1 pc = .ok (.astore_n k4, 1)) (hn : pc + 1 = n) (hk : k < f.2.2.1) (hc : ∀ u, 0 < k → lv[k - 1]? = some u → z_c2 u = false) (hL : lv.set k (.inl (.ref a) : zAV) = lv') (kk : zG w f d cr n (lv') (stk) σ r σ') : zG w f d cr pc (lv) ((.inl (.ref a) : zAV) :: stk) σ r σ' := by
  intro p l e R s m args below meth c mc ms H locs cells slots ls X hl hP hS hB
  subst hn
  subst hL
  exact lv_astore_n X.exec X.code hd hk4 hl hk rfl (fun ls' h' => kk p l e R s m args below meth c mc ms H locs cells slots ls' X (z_store1 (v := (.inl (.ref a) : zAV)) hc h') hP hS hB)
theorem g_astoreX {w : zWp} {f : zMth} {d cr pc n : Nat} {lv stk : List zAV} {σ : zSt} {r : zRes} {σ' : zSt} {lv' : List zAV} {k : Nat} {a : Nat} (hd : decode f.2.1 pc = .ok (.astore k, 2)) (hn : pc + 2 = n) (hk : k < f.2.2.1) (hc : ∀ u, 0 < k → lv[k - 1]? = some u → z_c2 u = false) (hL : lv.set k (.inl (.ref a) : zAV) = lv') (kk : zG w f d cr n (lv') (stk) σ r σ') : zG w f d cr pc (lv) ((.inl (.ref a) : zAV) :: stk) σ r σ' := by
  intro p l e R s m args below meth c mc ms H locs cells slots ls X hl hP hS hB
  subst hn
  subst hL
  exact lv_astore X.exec X.code hd  hl hk rfl (fun ls' h' => kk p l e R s m args below meth c mc ms H locs cells slots ls' X (z_store1 (v := (.inl (.ref a) : zAV)) hc h') hP hS hB)
theorem z_knat {w : zWp} {L : List zAV} {i : Nat} {v : zAV} (hv : L[i]? = some v) (hu : z_isU v = false) : ∃ k : Nat, (z_kn w 0 L)[k]? = some (i, z_tr w v) :=
  List.getElem?_of_mem ((z_kn_mem _ _ _).mpr ⟨i, v, by rw [Nat.zero_add], hv, hu⟩)
theorem g_iinc {w : zWp} {f : zMth} {d cr pc n : Nat} {lv stk : List zAV} {σ : zSt} {r : zRes} {σ' : zSt} {lv' : List zAV} {k : Nat} {x v : Int32} {b : Int} (hd : decode f.2.1 pc = .ok (.iinc k b, 3)) (hn : pc + 3 = n) (hk : k < f.2.2.1) (hc : ∀ u, 0 < k → lv[k - 1]? = some u → z_c2 u = false) (hx : lv[k]? = some (vI x)) (hv : x + Int32.ofInt b = v) (hL : lv.set k (vI v) = lv') (kk : zG w f d cr n (lv') (stk) σ r σ') : zG w f d cr pc (lv) (stk) σ r σ' := by
  intro p l e R s m args below meth c mc ms H locs cells slots ls X hl hP hS hB
  subst hn
  subst hL
  obtain ⟨j, hj⟩ := z_knat (w := w) hx rfl
  exact lv_iinc X.exec X.code hd hl hj hv hk rfl (fun ls' h' => kk p l e R s m args below meth c mc ms H locs cells slots ls' X (z_store1 (v := vI v) hc h') hP hS hB)
theorem g_iadd {w : zWp} {f : zMth} {d cr pc n : Nat} {lv stk : List zAV} {σ : zSt} {r : zRes} {σ' : zSt} {x y : Int32} (hd : decode f.2.1 pc = .ok (.iadd, 1)) (hn : pc + 1 = n)  (kk : zG w f d cr n (lv) (vI (x + y) :: stk) σ r σ') : zG w f d cr pc (lv) (vI y :: vI x :: stk) σ r σ' := by
  intro p l e R s m args below meth c mc ms H locs cells slots ls X hl hP hS hB
  subst hn
  exact lv_iadd X.exec X.code hd (kk p l e R s m args below meth c mc ms H locs cells slots ls X hl hP hS hB)
theorem g_isub {w : zWp} {f : zMth} {d cr pc n : Nat} {lv stk : List zAV} {σ : zSt} {r : zRes} {σ' : zSt} {x y : Int32} (hd : decode f.2.1 pc = .ok (.isub, 1)) (hn : pc + 1 = n)  (kk : zG w f d cr n (lv) (vI (x - y) :: stk) σ r σ') : zG w f d cr pc (lv) (vI y :: vI x :: stk) σ r σ' := by
  intro p l e R s m args below meth c mc ms H locs cells slots ls X hl hP hS hB
  subst hn
  exact lv_isub X.exec X.code hd (kk p l e R s m args below meth c mc ms H locs cells slots ls X hl hP hS hB)
theorem g_imul {w : zWp} {f : zMth} {d cr pc n : Nat} {lv stk : List zAV} {σ : zSt} {r : zRes} {σ' : zSt} {x y : Int32} (hd : decode f.2.1 pc = .ok (.imul, 1)) (hn : pc + 1 = n)  (kk : zG w f d cr n (lv) (vI (x * y) :: stk) σ r σ') : zG w f d cr pc (lv) (vI y :: vI x :: stk) σ r σ' := by
  intro p l e R s m args below meth c mc ms H locs cells slots ls X hl hP hS hB
  subst hn
  exact lv_imul X.exec X.code hd (kk p l e R s m args below meth c mc ms H locs cells slots ls X hl hP hS hB)
theorem g_iand {w : zWp} {f : zMth} {d cr pc n : Nat} {lv stk : List zAV} {σ : zSt} {r : zRes} {σ' : zSt} {x y : Int32} (hd : decode f.2.1 pc = .ok (.iand, 1)) (hn : pc + 1 = n)  (kk : zG w f d cr n (lv) (vI (x &&& y) :: stk) σ r σ') : zG w f d cr pc (lv) (vI y :: vI x :: stk) σ r σ' := by
  intro p l e R s m args below meth c mc ms H locs cells slots ls X hl hP hS hB
  subst hn
  exact lv_iand X.exec X.code hd (kk p l e R s m args below meth c mc ms H locs cells slots ls X hl hP hS hB)
theorem g_idiv {w : zWp} {f : zMth} {d cr pc n : Nat} {lv stk : List zAV} {σ : zSt} {r : zRes} {σ' : zSt} {x y : Int32} (hd : decode f.2.1 pc = .ok (.idiv, 1)) (hn : pc + 1 = n) (h0 : ¬ y = 0) (kk : zG w f d cr n (lv) (vI (x / y) :: stk) σ r σ') : zG w f d cr pc (lv) (vI y :: vI x :: stk) σ r σ' := by
  intro p l e R s m args below meth c mc ms H locs cells slots ls X hl hP hS hB
  subst hn
  exact lv_idiv X.exec X.code hd h0 (kk p l e R s m args below meth c mc ms H locs cells slots ls X hl hP hS hB)
theorem g_irem {w : zWp} {f : zMth} {d cr pc n : Nat} {lv stk : List zAV} {σ : zSt} {r : zRes} {σ' : zSt} {x y : Int32} (hd : decode f.2.1 pc = .ok (.irem, 1)) (hn : pc + 1 = n) (h0 : ¬ y = 0) (kk : zG w f d cr n (lv) (vI (x - x / y * y) :: stk) σ r σ') : zG w f d cr pc (lv) (vI y :: vI x :: stk) σ r σ' := by
  intro p l e R s m args below meth c mc ms H locs cells slots ls X hl hP hS hB
  subst hn
  exact lv_irem X.exec X.code hd h0 (kk p l e R s m args below meth c mc ms H locs cells slots ls X hl hP hS hB)
theorem g_ladd {w : zWp} {f : zMth} {d cr pc n : Nat} {lv stk : List zAV} {σ : zSt} {r : zRes} {σ' : zSt} {x y : Int64} (hd : decode f.2.1 pc = .ok (.ladd, 1)) (hn : pc + 1 = n)  (kk : zG w f d cr n (lv) (vJ (x + y) :: stk) σ r σ') : zG w f d cr pc (lv) (vJ y :: vJ x :: stk) σ r σ' := by
  intro p l e R s m args below meth c mc ms H locs cells slots ls X hl hP hS hB
  subst hn
  exact lv_ladd X.exec X.code hd (kk p l e R s m args below meth c mc ms H locs cells slots ls X hl hP hS hB)
theorem g_lsub {w : zWp} {f : zMth} {d cr pc n : Nat} {lv stk : List zAV} {σ : zSt} {r : zRes} {σ' : zSt} {x y : Int64} (hd : decode f.2.1 pc = .ok (.lsub, 1)) (hn : pc + 1 = n)  (kk : zG w f d cr n (lv) (vJ (x - y) :: stk) σ r σ') : zG w f d cr pc (lv) (vJ y :: vJ x :: stk) σ r σ' := by
  intro p l e R s m args below meth c mc ms H locs cells slots ls X hl hP hS hB
  subst hn
  exact lv_lsub X.exec X.code hd (kk p l e R s m args below meth c mc ms H locs cells slots ls X hl hP hS hB)
theorem g_lmul {w : zWp} {f : zMth} {d cr pc n : Nat} {lv stk : List zAV} {σ : zSt} {r : zRes} {σ' : zSt} {x y : Int64} (hd : decode f.2.1 pc = .ok (.lmul, 1)) (hn : pc + 1 = n)  (kk : zG w f d cr n (lv) (vJ (x * y) :: stk) σ r σ') : zG w f d cr pc (lv) (vJ y :: vJ x :: stk) σ r σ' := by
  intro p l e R s m args below meth c mc ms H locs cells slots ls X hl hP hS hB
  subst hn
  exact lv_lmul X.exec X.code hd (kk p l e R s m args below meth c mc ms H locs cells slots ls X hl hP hS hB)
theorem g_i2l {w : zWp} {f : zMth} {d cr pc n : Nat} {lv stk : List zAV} {σ : zSt} {r : zRes} {σ' : zSt} {x : Int32} (hd : decode f.2.1 pc = .ok (.i2l, 1)) (hn : pc + 1 = n)  (kk : zG w f d cr n (lv) (vJ x.toInt64 :: stk) σ r σ') : zG w f d cr pc (lv) (vI x :: stk) σ r σ' := by
  intro p l e R s m args below meth c mc ms H locs cells slots ls X hl hP hS hB
  subst hn
  exact lv_i2l X.exec X.code hd rfl (kk p l e R s m args below meth c mc ms H locs cells slots ls X hl hP hS hB)
theorem g_i2c {w : zWp} {f : zMth} {d cr pc n : Nat} {lv stk : List zAV} {σ : zSt} {r : zRes} {σ' : zSt} {x : Int32} (hd : decode f.2.1 pc = .ok (.i2c, 1)) (hn : pc + 1 = n)  (kk : zG w f d cr n (lv) (vI (x.toUInt32 % 65536).toInt32 :: stk) σ r σ') : zG w f d cr pc (lv) (vI x :: stk) σ r σ' := by
  intro p l e R s m args below meth c mc ms H locs cells slots ls X hl hP hS hB
  subst hn
  exact lv_i2c X.exec X.code hd rfl (kk p l e R s m args below meth c mc ms H locs cells slots ls X hl hP hS hB)
theorem g_i2d {w : zWp} {f : zMth} {d cr pc n : Nat} {lv stk : List zAV} {σ : zSt} {r : zRes} {σ' : zSt} {x : Int32} (hd : decode f.2.1 pc = .ok (.i2d, 1)) (hn : pc + 1 = n)  (kk : zG w f d cr n (lv) (vD (FP.i2d x) :: stk) σ r σ') : zG w f d cr pc (lv) (vI x :: stk) σ r σ' := by
  intro p l e R s m args below meth c mc ms H locs cells slots ls X hl hP hS hB
  subst hn
  exact lv_i2d X.exec X.code hd (kk p l e R s m args below meth c mc ms H locs cells slots ls X hl hP hS hB)
theorem g_l2d {w : zWp} {f : zMth} {d cr pc n : Nat} {lv stk : List zAV} {σ : zSt} {r : zRes} {σ' : zSt} {x : Int64} (hd : decode f.2.1 pc = .ok (.l2d, 1)) (hn : pc + 1 = n)  (kk : zG w f d cr n (lv) (vD (FP.l2d x) :: stk) σ r σ') : zG w f d cr pc (lv) (vJ x :: stk) σ r σ' := by
  intro p l e R s m args below meth c mc ms H locs cells slots ls X hl hP hS hB
  subst hn
  exact lv_l2d X.exec X.code hd (kk p l e R s m args below meth c mc ms H locs cells slots ls X hl hP hS hB)
theorem g_d2l {w : zWp} {f : zMth} {d cr pc n : Nat} {lv stk : List zAV} {σ : zSt} {r : zRes} {σ' : zSt} {x : UInt64} (hd : decode f.2.1 pc = .ok (.d2l, 1)) (hn : pc + 1 = n)  (kk : zG w f d cr n (lv) (vJ (FP.d2l x) :: stk) σ r σ') : zG w f d cr pc (lv) (vD x :: stk) σ r σ' := by
  intro p l e R s m args below meth c mc ms H locs cells slots ls X hl hP hS hB
  subst hn
  exact lv_d2l X.exec X.code hd (kk p l e R s m args below meth c mc ms H locs cells slots ls X hl hP hS hB)
theorem g_ddiv {w : zWp} {f : zMth} {d cr pc n : Nat} {lv stk : List zAV} {σ : zSt} {r : zRes} {σ' : zSt} {x y : UInt64} (hd : decode f.2.1 pc = .ok (.ddiv, 1)) (hn : pc + 1 = n) (h0 : vf_n64 (FP.ddiv x y)) (kk : zG w f d cr n (lv) (vD (FP.ddiv x y) :: stk) σ r σ') : zG w f d cr pc (lv) (vD y :: vD x :: stk) σ r σ' := by
  intro p l e R s m args below meth c mc ms H locs cells slots ls X hl hP hS hB
  subst hn
  exact lv_ddiv X.exec X.code hd h0 (kk p l e R s m args below meth c mc ms H locs cells slots ls X hl hP hS hB)
theorem g_dmul {w : zWp} {f : zMth} {d cr pc n : Nat} {lv stk : List zAV} {σ : zSt} {r : zRes} {σ' : zSt} {x y : UInt64} (hd : decode f.2.1 pc = .ok (.dmul, 1)) (hn : pc + 1 = n) (h0 : vf_n64 (FP.dmul x y)) (kk : zG w f d cr n (lv) (vD (FP.dmul x y) :: stk) σ r σ') : zG w f d cr pc (lv) (vD y :: vD x :: stk) σ r σ' := by
  intro p l e R s m args below meth c mc ms H locs cells slots ls X hl hP hS hB
  subst hn
  exact lv_dmul X.exec X.code hd h0 (kk p l e R s m args below meth c mc ms H locs cells slots ls X hl hP hS hB)
theorem g_dsub {w : zWp} {f : zMth} {d cr pc n : Nat} {lv stk : List zAV} {σ : zSt} {r : zRes} {σ' : zSt} {x y : UInt64} (hd : decode f.2.1 pc = .ok (.dsub, 1)) (hn : pc + 1 = n) (h0 : vf_n64 (FP.dsub x y)) (kk : zG w f d cr n (lv) (vD (FP.dsub x y) :: stk) σ r σ') : zG w f d cr pc (lv) (vD y :: vD x :: stk) σ r σ' := by
  intro p l e R s m args below meth c mc ms H locs cells slots ls X hl hP hS hB
  subst hn
  exact lv_dsub X.exec X.code hd h0 (kk p l e R s m args below meth c mc ms H locs cells slots ls X hl hP hS hB)
theorem g_lcmp {w : zWp} {f : zMth} {d cr pc n : Nat} {lv stk : List zAV} {σ : zSt} {r : zRes} {σ' : zSt} {x y : Int64} (hd : decode f.2.1 pc = .ok (.lcmp, 1)) (hn : pc + 1 = n)  (kk : zG w f d cr n (lv) (vI (lg_cmp x y) :: stk) σ r σ') : zG w f d cr pc (lv) (vJ y :: vJ x :: stk) σ r σ' := by
  intro p l e R s m args below meth c mc ms H locs cells slots ls X hl hP hS hB
  subst hn
  exact W.lcmp X.exec X.code hd (kk p l e R s m args below meth c mc ms H locs cells slots ls X hl hP hS hB)
theorem g_dcmp {w : zWp} {f : zMth} {d cr pc n : Nat} {lv stk : List zAV} {σ : zSt} {r : zRes} {σ' : zSt} {x y : UInt64} {o : CmpOp} (hd : decode f.2.1 pc = .ok (.dcmp o, 1)) (hn : pc + 1 = n)  (kk : zG w f d cr n (lv) (vI (Op.cmpValue (FP.dcmp x y) o) :: stk) σ r σ') : zG w f d cr pc (lv) (vD y :: vD x :: stk) σ r σ' := by
  intro p l e R s m args below meth c mc ms H locs cells slots ls X hl hP hS hB
  subst hn
  exact lv_dcmp X.exec X.code hd (kk p l e R s m args below meth c mc ms H locs cells slots ls X hl hP hS hB)
theorem g_dconst0 {w : zWp} {f : zMth} {d cr pc n : Nat} {lv stk : List zAV} {σ : zSt} {r : zRes} {σ' : zSt}  (hd : decode f.2.1 pc = .ok (.dconst 0, 1)) (hn : pc + 1 = n)  (kk : zG w f d cr n (lv) (vD 0 :: stk) σ r σ') : zG w f d cr pc (lv) (stk) σ r σ' := by
  intro p l e R s m args below meth c mc ms H locs cells slots ls X hl hP hS hB
  subst hn
  exact lv_dconst0 X.exec X.code hd (kk p l e R s m args below meth c mc ms H locs cells slots ls X hl hP hS hB)
theorem g_dup {w : zWp} {f : zMth} {d cr pc n : Nat} {lv stk : List zAV} {σ : zSt} {r : zRes} {σ' : zSt} {v : zAV} (hd : decode f.2.1 pc = .ok (.dup, 1)) (hn : pc + 1 = n) (hc : z_c2 v = false) (kk : zG w f d cr n (lv) (v :: v :: stk) σ r σ') : zG w f d cr pc (lv) (v :: stk) σ r σ' := by
  intro p l e R s m args below meth c mc ms H locs cells slots ls X hl hP hS hB
  subst hn
  exact lv_dup X.exec X.code hd (z_c2_cat v hc) (kk p l e R s m args below meth c mc ms H locs cells slots ls X hl hP hS hB)
theorem g_pop {w : zWp} {f : zMth} {d cr pc n : Nat} {lv stk : List zAV} {σ : zSt} {r : zRes} {σ' : zSt} {v : zAV} (hd : decode f.2.1 pc = .ok (.pop, 1)) (hn : pc + 1 = n) (hc : z_c2 v = false) (kk : zG w f d cr n (lv) (stk) σ r σ') : zG w f d cr pc (lv) (v :: stk) σ r σ' := by
  intro p l e R s m args below meth c mc ms H locs cells slots ls X hl hP hS hB
  subst hn
  exact lv_pop X.exec X.code hd (z_c2_cat v hc) (kk p l e R s m args below meth c mc ms H locs cells slots ls X hl hP hS hB)
theorem g_dup2 {w : zWp} {f : zMth} {d cr pc n : Nat} {lv stk : List zAV} {σ : zSt} {r : zRes} {σ' : zSt} {u v : zAV} (hd : decode f.2.1 pc = .ok (.dup2, 1)) (hn : pc + 1 = n) (hc : z_c2 v = false) (hu : z_c2 u = false) (kk : zG w f d cr n (lv) (v :: u :: v :: u :: stk) σ r σ') : zG w f d cr pc (lv) (v :: u :: stk) σ r σ' := by
  intro p l e R s m args below meth c mc ms H locs cells slots ls X hl hP hS hB
  subst hn
  exact lv_dup2_11 X.exec X.code hd (z_c2_cat v hc) (z_c2_cat u hu) (kk p l e R s m args below meth c mc ms H locs cells slots ls X hl hP hS hB)
theorem g_if_eq {w : zWp} {f : zMth} {d cr pc n : Nat} {lv stk : List zAV} {σ : zSt} {r : zRes} {σ' : zSt} {x : Int32} {b : Int} {t : Nat} (hd : decode f.2.1 pc = .ok (.ifCond .eq b, 3)) (hn : pc + 3 = n) (ht : (pc : Int) + b = (t : Int)) (kt : (x = 0) → zG w f d cr t (lv) (stk) σ r σ') (kf : ¬ x = 0 → zG w f d cr n (lv) (stk) σ r σ') : zG w f d cr pc (lv) (vI x :: stk) σ r σ' := by
  intro p l e R s m args below meth c mc ms H locs cells slots ls X hl hP hS hB
  subst hn
  exact lv_if_eq X.exec X.code hd ht (fun q => kt q p l e R s m args below meth c mc ms H locs cells slots ls X hl hP hS hB) (fun q => kf q p l e R s m args below meth c mc ms H locs cells slots ls X hl hP hS hB)
theorem g_icmp_eq {w : zWp} {f : zMth} {d cr pc n : Nat} {lv stk : List zAV} {σ : zSt} {r : zRes} {σ' : zSt} {x y : Int32} {b : Int} {t : Nat} (hd : decode f.2.1 pc = .ok (.if_icmp .eq b, 3)) (hn : pc + 3 = n) (ht : (pc : Int) + b = (t : Int)) (kt : (x = y) → zG w f d cr t (lv) (stk) σ r σ') (kf : ¬ x = y → zG w f d cr n (lv) (stk) σ r σ') : zG w f d cr pc (lv) (vI y :: vI x :: stk) σ r σ' := by
  intro p l e R s m args below meth c mc ms H locs cells slots ls X hl hP hS hB
  subst hn
  exact lv_icmp_eq X.exec X.code hd ht (fun q => kt q p l e R s m args below meth c mc ms H locs cells slots ls X hl hP hS hB) (fun q => kf q p l e R s m args below meth c mc ms H locs cells slots ls X hl hP hS hB)
theorem g_if_ne {w : zWp} {f : zMth} {d cr pc n : Nat} {lv stk : List zAV} {σ : zSt} {r : zRes} {σ' : zSt} {x : Int32} {b : Int} {t : Nat} (hd : decode f.2.1 pc = .ok (.ifCond .ne b, 3)) (hn : pc + 3 = n) (ht : (pc : Int) + b = (t : Int)) (kt : (¬ x = 0) → zG w f d cr t (lv) (stk) σ r σ') (kf : x = 0 → zG w f d cr n (lv) (stk) σ r σ') : zG w f d cr pc (lv) (vI x :: stk) σ r σ' := by
  intro p l e R s m args below meth c mc ms H locs cells slots ls X hl hP hS hB
  subst hn
  exact lv_if_ne X.exec X.code hd ht (fun q => kt q p l e R s m args below meth c mc ms H locs cells slots ls X hl hP hS hB) (fun q => kf q p l e R s m args below meth c mc ms H locs cells slots ls X hl hP hS hB)
theorem g_icmp_ne {w : zWp} {f : zMth} {d cr pc n : Nat} {lv stk : List zAV} {σ : zSt} {r : zRes} {σ' : zSt} {x y : Int32} {b : Int} {t : Nat} (hd : decode f.2.1 pc = .ok (.if_icmp .ne b, 3)) (hn : pc + 3 = n) (ht : (pc : Int) + b = (t : Int)) (kt : (¬ x = y) → zG w f d cr t (lv) (stk) σ r σ') (kf : x = y → zG w f d cr n (lv) (stk) σ r σ') : zG w f d cr pc (lv) (vI y :: vI x :: stk) σ r σ' := by
  intro p l e R s m args below meth c mc ms H locs cells slots ls X hl hP hS hB
  subst hn
  exact lv_icmp_ne X.exec X.code hd ht (fun q => kt q p l e R s m args below meth c mc ms H locs cells slots ls X hl hP hS hB) (fun q => kf q p l e R s m args below meth c mc ms H locs cells slots ls X hl hP hS hB)
theorem g_if_lt {w : zWp} {f : zMth} {d cr pc n : Nat} {lv stk : List zAV} {σ : zSt} {r : zRes} {σ' : zSt} {x : Int32} {b : Int} {t : Nat} (hd : decode f.2.1 pc = .ok (.ifCond .lt b, 3)) (hn : pc + 3 = n) (ht : (pc : Int) + b = (t : Int)) (kt : (x < 0) → zG w f d cr t (lv) (stk) σ r σ') (kf : ¬ x < 0 → zG w f d cr n (lv) (stk) σ r σ') : zG w f d cr pc (lv) (vI x :: stk) σ r σ' := by
  intro p l e R s m args below meth c mc ms H locs cells slots ls X hl hP hS hB
  subst hn
  exact lv_if_lt X.exec X.code hd ht (fun q => kt q p l e R s m args below meth c mc ms H locs cells slots ls X hl hP hS hB) (fun q => kf q p l e R s m args below meth c mc ms H locs cells slots ls X hl hP hS hB)
theorem g_icmp_lt {w : zWp} {f : zMth} {d cr pc n : Nat} {lv stk : List zAV} {σ : zSt} {r : zRes} {σ' : zSt} {x y : Int32} {b : Int} {t : Nat} (hd : decode f.2.1 pc = .ok (.if_icmp .lt b, 3)) (hn : pc + 3 = n) (ht : (pc : Int) + b = (t : Int)) (kt : (x < y) → zG w f d cr t (lv) (stk) σ r σ') (kf : ¬ x < y → zG w f d cr n (lv) (stk) σ r σ') : zG w f d cr pc (lv) (vI y :: vI x :: stk) σ r σ' := by
  intro p l e R s m args below meth c mc ms H locs cells slots ls X hl hP hS hB
  subst hn
  exact lv_icmp_lt X.exec X.code hd ht (fun q => kt q p l e R s m args below meth c mc ms H locs cells slots ls X hl hP hS hB) (fun q => kf q p l e R s m args below meth c mc ms H locs cells slots ls X hl hP hS hB)
theorem g_if_ge {w : zWp} {f : zMth} {d cr pc n : Nat} {lv stk : List zAV} {σ : zSt} {r : zRes} {σ' : zSt} {x : Int32} {b : Int} {t : Nat} (hd : decode f.2.1 pc = .ok (.ifCond .ge b, 3)) (hn : pc + 3 = n) (ht : (pc : Int) + b = (t : Int)) (kt : (0 ≤ x) → zG w f d cr t (lv) (stk) σ r σ') (kf : ¬ 0 ≤ x → zG w f d cr n (lv) (stk) σ r σ') : zG w f d cr pc (lv) (vI x :: stk) σ r σ' := by
  intro p l e R s m args below meth c mc ms H locs cells slots ls X hl hP hS hB
  subst hn
  exact lv_if_ge X.exec X.code hd ht (fun q => kt q p l e R s m args below meth c mc ms H locs cells slots ls X hl hP hS hB) (fun q => kf q p l e R s m args below meth c mc ms H locs cells slots ls X hl hP hS hB)
theorem g_icmp_ge {w : zWp} {f : zMth} {d cr pc n : Nat} {lv stk : List zAV} {σ : zSt} {r : zRes} {σ' : zSt} {x y : Int32} {b : Int} {t : Nat} (hd : decode f.2.1 pc = .ok (.if_icmp .ge b, 3)) (hn : pc + 3 = n) (ht : (pc : Int) + b = (t : Int)) (kt : (y ≤ x) → zG w f d cr t (lv) (stk) σ r σ') (kf : ¬ y ≤ x → zG w f d cr n (lv) (stk) σ r σ') : zG w f d cr pc (lv) (vI y :: vI x :: stk) σ r σ' := by
  intro p l e R s m args below meth c mc ms H locs cells slots ls X hl hP hS hB
  subst hn
  exact lv_icmp_ge X.exec X.code hd ht (fun q => kt q p l e R s m args below meth c mc ms H locs cells slots ls X hl hP hS hB) (fun q => kf q p l e R s m args below meth c mc ms H locs cells slots ls X hl hP hS hB)
theorem g_if_gt {w : zWp} {f : zMth} {d cr pc n : Nat} {lv stk : List zAV} {σ : zSt} {r : zRes} {σ' : zSt} {x : Int32} {b : Int} {t : Nat} (hd : decode f.2.1 pc = .ok (.ifCond .gt b, 3)) (hn : pc + 3 = n) (ht : (pc : Int) + b = (t : Int)) (kt : (0 < x) → zG w f d cr t (lv) (stk) σ r σ') (kf : ¬ 0 < x → zG w f d cr n (lv) (stk) σ r σ') : zG w f d cr pc (lv) (vI x :: stk) σ r σ' := by
  intro p l e R s m args below meth c mc ms H locs cells slots ls X hl hP hS hB
  subst hn
  exact lv_if_gt X.exec X.code hd ht (fun q => kt q p l e R s m args below meth c mc ms H locs cells slots ls X hl hP hS hB) (fun q => kf q p l e R s m args below meth c mc ms H locs cells slots ls X hl hP hS hB)
theorem g_icmp_gt {w : zWp} {f : zMth} {d cr pc n : Nat} {lv stk : List zAV} {σ : zSt} {r : zRes} {σ' : zSt} {x y : Int32} {b : Int} {t : Nat} (hd : decode f.2.1 pc = .ok (.if_icmp .gt b, 3)) (hn : pc + 3 = n) (ht : (pc : Int) + b = (t : Int)) (kt : (y < x) → zG w f d cr t (lv) (stk) σ r σ') (kf : ¬ y < x → zG w f d cr n (lv) (stk) σ r σ') : zG w f d cr pc (lv) (vI y :: vI x :: stk) σ r σ' := by
  intro p l e R s m args below meth c mc ms H locs cells slots ls X hl hP hS hB
  subst hn
  exact lv_icmp_gt X.exec X.code hd ht (fun q => kt q p l e R s m args below meth c mc ms H locs cells slots ls X hl hP hS hB) (fun q => kf q p l e R s m args below meth c mc ms H locs cells slots ls X hl hP hS hB)
theorem g_if_le {w : zWp} {f : zMth} {d cr pc n : Nat} {lv stk : List zAV} {σ : zSt} {r : zRes} {σ' : zSt} {x : Int32} {b : Int} {t : Nat} (hd : decode f.2.1 pc = .ok (.ifCond .le b, 3)) (hn : pc + 3 = n) (ht : (pc : Int) + b = (t : Int)) (kt : (x ≤ 0) → zG w f d cr t (lv) (stk) σ r σ') (kf : ¬ x ≤ 0 → zG w f d cr n (lv) (stk) σ r σ') : zG w f d cr pc (lv) (vI x :: stk) σ r σ' := by
  intro p l e R s m args below meth c mc ms H locs cells slots ls X hl hP hS hB
  subst hn
  exact lv_if_le X.exec X.code hd ht (fun q => kt q p l e R s m args below meth c mc ms H locs cells slots ls X hl hP hS hB) (fun q => kf q p l e R s m args below meth c mc ms H locs cells slots ls X hl hP hS hB)
theorem g_icmp_le {w : zWp} {f : zMth} {d cr pc n : Nat} {lv stk : List zAV} {σ : zSt} {r : zRes} {σ' : zSt} {x y : Int32} {b : Int} {t : Nat} (hd : decode f.2.1 pc = .ok (.if_icmp .le b, 3)) (hn : pc + 3 = n) (ht : (pc : Int) + b = (t : Int)) (kt : (x ≤ y) → zG w f d cr t (lv) (stk) σ r σ') (kf : ¬ x ≤ y → zG w f d cr n (lv) (stk) σ r σ') : zG w f d cr pc (lv) (vI y :: vI x :: stk) σ r σ' := by
  intro p l e R s m args below meth c mc ms H locs cells slots ls X hl hP hS hB
  subst hn
  exact lv_icmp_le X.exec X.code hd ht (fun q => kt q p l e R s m args below meth c mc ms H locs cells slots ls X hl hP hS hB) (fun q => kf q p l e R s m args below meth c mc ms H locs cells slots ls X hl hP hS hB)
theorem g_goto {w : zWp} {f : zMth} {d cr pc n : Nat} {lv stk : List zAV} {σ : zSt} {r : zRes} {σ' : zSt} {b : Int} {t : Nat} (hd : decode f.2.1 pc = .ok (.goto b, 3)) (ht : (pc : Int) + b = (t : Int)) (kk : zG w f d cr t (lv) (stk) σ r σ') : zG w f d cr pc (lv) (stk) σ r σ' := by
  intro p l e R s m args below meth c mc ms H locs cells slots ls X hl hP hS hB
  exact lv_goto X.exec X.code hd ht (kk p l e R s m args below meth c mc ms H locs cells slots ls X hl hP hS hB)
theorem g_tabIn {w : zWp} {f : zMth} {d cr pc n : Nat} {lv stk : List zAV} {σ : zSt} {r : zRes} {σ' : zSt} {x : Int32} {df lo hi b : Int} {os : Array Int} {len t : Nat} (hd : decode f.2.1 pc = .ok (.tableswitch df lo hi os, len)) (h1 : ¬ x.toInt < lo) (h2 : ¬ hi < x.toInt) (ho : os[(x.toInt - lo).toNat]? = some b) (ht : (pc : Int) + b = (t : Int)) (kk : zG w f d cr t (lv) (stk) σ r σ') : zG w f d cr pc (lv) (vI x :: stk) σ r σ' := by
  intro p l e R s m args below meth c mc ms H locs cells slots ls X hl hP hS hB
  exact lv_tableIn X.exec X.code hd h1 h2 ho ht (kk p l e R s m args below meth c mc ms H locs cells slots ls X hl hP hS hB)
theorem g_tabOut {w : zWp} {f : zMth} {d cr pc n : Nat} {lv stk : List zAV} {σ : zSt} {r : zRes} {σ' : zSt} {x : Int32} {df lo hi : Int} {os : Array Int} {len t : Nat} (hd : decode f.2.1 pc = .ok (.tableswitch df lo hi os, len)) (h : x.toInt < lo ∨ hi < x.toInt) (ht : (pc : Int) + df = (t : Int)) (kk : zG w f d cr t (lv) (stk) σ r σ') : zG w f d cr pc (lv) (vI x :: stk) σ r σ' := by
  intro p l e R s m args below meth c mc ms H locs cells slots ls X hl hP hS hB
  exact lv_tableOut X.exec X.code hd h ht (kk p l e R s m args below meth c mc ms H locs cells slots ls X hl hP hS hB)
theorem g_lookup {w : zWp} {f : zMth} {d cr pc n : Nat} {lv stk : List zAV} {σ : zSt} {r : zRes} {σ' : zSt} {x : Int32} {df b : Int} {ps : Array (Int × Int)} {len t : Nat} (hd : decode f.2.1 pc = .ok (.lookupswitch df ps, len)) (hp : (ps.toList.zip (ps.toList.drop 1)).all (fun (a, next) => a.1 < next.1) = true) (ho : Op.lookupswitch.offset ps.toList df x.toInt = b) (ht : (pc : Int) + b = (t : Int)) (kk : zG w f d cr t (lv) (stk) σ r σ') : zG w f d cr pc (lv) (vI x :: stk) σ r σ' := by
  intro p l e R s m args below meth c mc ms H locs cells slots ls X hl hP hS hB
  exact lv_lookup X.exec X.code hd hp ho ht (kk p l e R s m args below meth c mc ms H locs cells slots ls X hl hP hS hB)
theorem g_ifnull {w : zWp} {f : zMth} {d cr pc n : Nat} {lv stk : List zAV} {σ : zSt} {r : zRes} {σ' : zSt} {k i : Nat} {b : Int} (hd : decode f.2.1 pc = .ok (.ifnull b, 3)) (hn : pc + 3 = n) (kk : zG w f d cr n (lv) (stk) σ r σ') : zG w f d cr pc (lv) (vR k i :: stk) σ r σ' := by
  intro p l e R s m args below meth c mc ms H locs cells slots ls X hl hP hS hB
  subst hn
  exact lv_ifnull X.exec X.code hd (kk p l e R s m args below meth c mc ms H locs cells slots ls X hl hP hS hB)
