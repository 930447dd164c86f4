/-! The world of the claim as numbered places (k, i): kind k, number i; each place has its address behind 'base' by the order in which the law makes it. -/
abbrev zAV : Type := Value ⊕ (Nat × Nat)
abbrev vI (x : Int32) : zAV := .inl (.int x)
abbrev vJ (x : Int64) : zAV := .inl (.long x)
abbrev vD (x : UInt64) : zAV := .inl (.double x)
abbrev vR (k i : Nat) : zAV := .inr (k, i)
abbrev vU : zAV := .inl .null
/-- how many places are made; which references are still null; the numbers; the law's own long -/
abbrev zSt : Type := Nat × (Nat → Nat → Nat → Bool) × (Nat → Nat → Nat → Int32) × (Nat → Int64)
abbrev zRes : Type := Option zAV ⊕ String
/-- the tables' numbers, the rows' classes, base, and the law's script: its address, length and numbers -/
abbrev zWp : Type := va_G × (Nat → ClassId) × Nat × Nat × Nat × (Nat → Int32)
/-- a method: its name, its code, its locals, what it returns, its handlers -/
abbrev zMth : Type := MethodName × ByteArray × Nat × Option FieldType × List (Nat × Nat × Nat × Nat)
def z_lb (i : Nat) : Nat := if i < 2 then 1 + 18 * i else if i < 4 then 12 + 18 * i else 16 + 18 * i
/-- the number of a place in the order of making -/
def z_ix (k i : Nat) : Nat := match k with
  | 0 => 37 | 1 => z_lb i + 4 | 2 => 84 | 3 => z_lb i | 4 => 40 | 5 => z_lb i + 10 | 6 => z_lb i + 1 | 7 => if i = 0 then 45 else 85 | 8 => 43 | 9 => 0 | 10 => 196
  | 11 => 38 | 12 => 39 | 13 => z_lb i + 5 | 14 => z_lb i + 6 | 15 => z_lb i + 7 | 16 => z_lb i + 8 | 17 => z_lb i + 9 | 18 => z_lb i + 16 | 19 => z_lb i + 17
  | 20 => 41 | 21 => 42 | 22 => z_lb i + 11 | 23 => z_lb i + 12 | 24 => z_lb i + 13 | 25 => z_lb i + 14 | 26 => z_lb i + 15 | 27 => z_lb i + 2 | 28 => z_lb i + 3
  | 29 => if i = 0 then 46 else 86 | 30 => if i = 0 then 47 else 87 | 31 => 44 | 32 => 197 | 33 => 198 | 34 => 199 | 35 => 200 | 36 => 201 | 37 => 202 | 38 => 203 | _ => 196
def z_cntL : List Nat := [1, 10, 1, 10, 1, 10, 10, 2, 1, 1, 0, 1, 1, 10, 10, 10, 10, 10, 10, 10, 1, 1, 10, 10, 10, 10, 10, 10, 10, 2, 2, 1, 0, 0, 0, 0, 0, 0, 0]
def z_cnt (k : Nat) : Nat := z_cntL.getD k 0
def z_landL (i : Nat) : List (Nat × Nat) := [3, 6, 27, 28, 1, 13, 14, 15, 16, 17, 5, 22, 23, 24, 25, 26, 18, 19].map (fun k => (k, i))
def z_LFl : List (Nat × Nat) := [(9, 0)] ++ z_landL 0 ++ z_landL 1 ++ [(0, 0), (11, 0), (12, 0), (4, 0), (20, 0), (21, 0), (8, 0), (31, 0), (7, 0), (29, 0), (30, 0)] ++ z_landL 2 ++ z_landL 3 ++ [(2, 0), (7, 1), (29, 1), (30, 1)] ++ z_landL 4 ++ z_landL 5 ++ z_landL 6 ++ z_landL 7 ++ z_landL 8 ++ z_landL 9
def z_LF (n : Nat) : Nat × Nat := z_LFl.getD n (99, 0)
def z_live (n k i : Nat) : Prop := i < z_cnt k ∧ z_ix k i < n
theorem z_fwd : ∀ k, k < 39 → ∀ i, i < z_cnt k → z_LF (z_ix k i) = (k, i) := by decide +kernel
theorem z_bwd : ∀ n, n < 196 → (z_LF n).1 < 39 ∧ (z_LF n).2 < z_cnt (z_LF n).1 ∧ z_ix (z_LF n).1 (z_LF n).2 = n := by decide +kernel
theorem z_all : ∀ k, k < 39 → ∀ i, i < z_cnt k → z_ix k i < 196 := by decide +kernel
theorem z_cnt0 {k i : Nat} (h : i < z_cnt k) : k < 39 := by
  rcases Nat.lt_or_ge k 39 with q | q
  · exact q
  · exfalso
    have h1 : z_cnt k = 0 := by
      show z_cntL.getD k 0 = 0
      rw [List.getD_eq_getElem?_getD, List.getElem?_eq_none (by show 39 ≤ k; exact q)]
      rfl
    omega
theorem z_LFi {n k i : Nat} (hn : n < 196) (h : z_LF n = (k, i)) : n = z_ix k i := by
  have h1 := (z_bwd n hn).2.2
  rw [h] at h1
  exact h1.symm
/-- a kind's fields: none: a number; some (k, c): a reference to the place (k, c), or (k, i) of the same number -/
def z_ft (k : Nat) : List (Option (Nat × Option Nat)) := match k with
  | 0 => [some (11, some 0), some (12, some 0), none, none, none, none, none, none]
  | 1 => [some (13, none), some (14, none), some (15, none), some (16, none), some (17, none), none]
  | 2 => [some (7, some 1), none, none]
  | 3 => [some (6, none), some (1, none), some (5, none), some (18, none), some (19, none), none, none, none]
  | 4 => [some (20, some 0), some (21, some 0)]
  | 5 => [some (22, none), some (23, none), some (24, none), some (25, none), some (26, none)]
  | 6 => [some (27, none), some (28, none)]
  | 7 => [some (29, none), some (30, none)]
  | 8 => [some (31, some 0), none]
  | 9 => [some (3, some 0), some (3, some 1), some (0, some 0), some (4, some 0), some (8, some 0), some (7, some 0), some (2, some 0)]
  | 10 => [some (32, some 0), none, some (33, some 0), none, some (34, some 0), none, none, none, none, none, some (35, some 0), some (36, some 0), some (37, some 0)]
  | _ => []
def z_adr (w : zWp) (k i : Nat) : Nat := w.2.2.1 + z_ix k i
def z_tr (w : zWp) (v : zAV) : Value := match v with
  | .inl x => x
  | .inr q => .ref (z_adr w q.1 q.2)
def z_fv (w : zWp) (i : Nat) (f : Option (Nat × Option Nat)) (nl : Bool) (x : Int32) : Value := match f with
  | none => .int x
  | some (k, o) => if nl then .null else .ref (z_adr w k (o.getD i))
def z_flds (w : zWp) (k i : Nat) (nl : Nat → Bool) (m : Nat → Int32) : List Value := (z_ft k).mapIdx (fun j f => z_fv w i f (nl j) (m j))
def z_ln (k i : Nat) : Nat := match k with
  | 11 => 8 | 12 => 8 | 13 => 8 | 14 => 8 | 15 => 8 | 16 => 8 | 17 => 8 | 18 => 2 | 19 => 32 | 20 => 8 | 21 => 8 | 22 => 16 | 23 => 4 | 24 => 4 | 25 => 4 | 26 => 4 | 27 => 64 | 28 => 64
  | 29 => if i = 0 then 2 else 6 | 30 => if i = 0 then 2 else 6 | 31 => 60 | 32 => 1740 | 33 => 2 | 34 => 60 | 35 => 64 | 36 => 32 | 37 => 32 | 38 => 1 | _ => 0
/-- which kind of row: 0 int, 1 boolean, 2 char, 3 lands, 4 long -/
def z_tk (k : Nat) : Nat := match k with
  | 21 => 1 | 30 => 1 | 33 => 1 | 34 => 2 | 29 => 3 | 38 => 4 | _ => 0
def z_landOf (i j : Nat) : Nat := if i = 0 then 2 + j else 4 + j
def z_cel (w : zWp) (k i : Nat) (nl : Nat → Bool) (m : Nat → Int32) (o : Nat → Int64) : va_E :=
  if k ≤ 10 then .inr (k, z_flds w k i nl m)
  else if k = 29 then .inl (w.2.1 3, z_ln k i, .inr (.inr (.inr (.inr (fun j => if nl j then none else some (z_adr w 3 (z_landOf i j)))))))
  else if k = 38 then .inl (w.2.1 4, 1, .inr (.inl o))
  else .inl (w.2.1 (z_tk k), z_ln k i, .inl m)
def z_ent (w : zWp) (σ : zSt) (n : Nat) : Nat × va_E := (w.2.2.1 + n, z_cel w (z_LF n).1 (z_LF n).2 (σ.2.1 (z_LF n).1 (z_LF n).2) (σ.2.2.1 (z_LF n).1 (z_LF n).2) σ.2.2.2)
def z_ws (w : zWp) (σ : zSt) : va_W := (List.range σ.1).map (z_ent w σ)
def z_A (w : zWp) : Nat → Prop := fun q => w.2.2.1 ≤ q
def z_tys (w : zWp) : List (ClassId × FieldType) := [(w.2.1 0, .int), (w.2.1 1, .boolean), (w.2.1 2, .int), (w.2.1 3, .object "LoafExits$Land"), (w.2.1 4, .int)]
theorem z_get {w : zWp} {σ : zSt} {k i : Nat} (h : z_live σ.1 k i) : (z_ws w σ)[z_ix k i]? = some (z_adr w k i, z_cel w k i (σ.2.1 k i) (σ.2.2.1 k i) σ.2.2.2) := by
  have h1 : ((List.range σ.1).map (z_ent w σ))[z_ix k i]? = some (z_ent w σ (z_ix k i)) := by
    rw [List.getElem?_map, List.getElem?_range h.2]
    rfl
  rw [z_ws, h1]
  have h2 := z_fwd k (z_cnt0 h.1) i h.1
  unfold z_ent
  rw [h2]
  rfl
theorem z_wsD {w : zWp} {σ : zSt} : va_D (z_A w) (z_ws w σ) := by
  have key : ∀ (k : Nat) (q : Nat × va_E), (z_ws w σ)[k]? = some q → q.1 = w.2.2.1 + k := by
    intro k q h
    unfold z_ws at h
    rw [List.getElem?_map] at h
    cases hr : (List.range σ.1)[k]? with
    | none => rw [hr] at h; cases h
    | some r =>
      rw [hr] at h
      have e : r = k := by
        have := List.getElem?_eq_some_iff.mp hr
        obtain ⟨h1, h2⟩ := this
        rw [List.getElem_range] at h2
        exact h2.symm
      subst e
      cases h
      rfl
  refine ⟨fun i j p q hp hq h => ?_, fun k q hq => ?_⟩
  · have h1 := key i p hp
    have h2 := key j q hq
    omega
  · have h1 := key k q hq
    show w.2.2.1 ≤ q.1
    omega
/-- two maps of a place and of a number in it -/
def u2 {α : Type} (f : Nat → Nat → α) (k i : Nat) (v : α) : Nat → Nat → α := fun a b => if a = k ∧ b = i then v else f a b
theorem u2_self {α : Type} {f : Nat → Nat → α} {k i : Nat} {v : α} : u2 f k i v k i = v := if_pos ⟨rfl, rfl⟩
theorem u2_ne {α : Type} {f : Nat → Nat → α} {k i a b : Nat} {v : α} (h : ¬ (a = k ∧ b = i)) : u2 f k i v a b = f a b := if_neg h
theorem z_set {w : zWp} {σ : zSt} {k i : Nat} (h : z_live σ.1 k i) (hn : σ.1 ≤ 196) (nl : Nat → Bool) (m : Nat → Int32) (e : va_E) (he : e = z_cel w k i nl m σ.2.2.2) : (z_ws w σ).set (z_ix k i) (z_adr w k i, e) = z_ws w (σ.1, u2 σ.2.1 k i nl, u2 σ.2.2.1 k i m, σ.2.2.2) := by
  subst he
  refine List.ext_getElem? fun j => ?_
  rw [List.getElem?_set]
  by_cases hj : z_ix k i = j
  · subst hj
    have hl : z_ix k i < (z_ws w σ).length := by unfold z_ws; rw [List.length_map, List.length_range]; exact h.2
    rw [if_pos rfl, if_pos hl]
    have h2 := z_get (w := w) (σ := (σ.1, u2 σ.2.1 k i nl, u2 σ.2.2.1 k i m, σ.2.2.2)) h
    rw [h2]
    dsimp only
    rw [u2_self, u2_self]
  · rw [if_neg hj]
    unfold z_ws
    rw [List.getElem?_map, List.getElem?_map]
    dsimp only
    cases hr : (List.range σ.1)[j]? with
    | none => rfl
    | some r =>
      have e : r = j := by
        obtain ⟨h1, h2⟩ := List.getElem?_eq_some_iff.mp hr
        rw [List.getElem_range] at h2
        exact h2.symm
      have hj2 : j < 196 := by
        obtain ⟨h1, -⟩ := List.getElem?_eq_some_iff.mp hr
        rw [List.length_range] at h1
        omega
      subst e
      have hne : ¬ ((z_LF r).1 = k ∧ (z_LF r).2 = i) := fun hh => hj (z_LFi hj2 (Prod.ext hh.1 hh.2)).symm
      show some (z_ent w σ r) = some (z_ent w (σ.1, u2 σ.2.1 k i nl, u2 σ.2.2.1 k i m, σ.2.2.2) r)
      unfold z_ent
      dsimp only
      rw [u2_ne hne, u2_ne hne]
theorem z_push {w : zWp} {σ : zSt} {k i : Nat} (h : z_LF σ.1 = (k, i)) (hn : σ.1 < 196) (nl : Nat → Bool) (m : Nat → Int32) (e : va_E) (he : e = z_cel w k i nl m σ.2.2.2) : z_ws w σ ++ [(w.2.2.1 + σ.1, e)] = z_ws w (σ.1 + 1, u2 σ.2.1 k i nl, u2 σ.2.2.1 k i m, σ.2.2.2) := by
  subst he
  unfold z_ws
  dsimp only
  rw [List.range_succ, List.map_append]
  congr 1
  · refine List.map_congr_left fun r hr => ?_
    have hr2 : r < σ.1 := List.mem_range.mp hr
    have hne : ¬ ((z_LF r).1 = k ∧ (z_LF r).2 = i) := fun hh => by
      have h1 := z_LFi (by omega) (Prod.ext hh.1 hh.2 : z_LF r = (k, i))
      have h2 := z_LFi hn h
      omega
    unfold z_ent
    dsimp only
    rw [u2_ne hne, u2_ne hne]
  · show [_] = [z_ent w _ σ.1]
    unfold z_ent
    dsimp only
    rw [h]
    dsimp only
    rw [u2_self, u2_self]
/-- the words that every method is given -/
def zUW : List Cond := lw_tbl.filter goodWord
theorem z_good : GoodIn zUW zUW := fun w h => ⟨h, good_of_word (List.mem_filter.mp h).2⟩
theorem z_inT : ∀ w ∈ zUW, w ∈ lw_tbl := fun _ h => (List.mem_filter.mp h).1
theorem z_in {w : Cond} (i : Nat) (h : lw_tbl[i]? = some w) (g : goodWord w = true) : w ∈ zUW := List.mem_filter.mpr ⟨List.mem_of_getElem? h, g⟩
theorem z_ins {ws : List Cond} (is : List Nat) (h : is.filterMap (fun i => lw_tbl[i]?) = ws) (g : ws.all goodWord = true) : ∀ w ∈ ws, w ∈ zUW := by
  intro w hw
  have h1 := List.all_eq_true.mp g w hw
  rw [← h] at hw
  obtain ⟨i, -, hi⟩ := List.mem_filterMap.mp hw
  exact z_in i hi h1
/-- the two statics of Throwable, the texts -/
def z_strs : List (Nat × String) := [(134, "no such setting"), (144, "9999 loaves were sent"), (155, "the code is not 33 to 126"), (159, "the buffer has 60 characters"), (173, "the buffer does not tell a day"), (194, "there is no snapshot in the slot"), (202, "there is no saved state"), (354, "no such town"), (356, "both towns are the same"), (361, "no such house"), (366, "no such neighbour"), (371, "no such exit"), (373, "a value is out of range"), (95, "there are 8 exits")]
def z_txt (U : State) : Prop := ∀ q ∈ z_strs, ∃ a : Nat, vk_R RX9 q.1 q.2 a U
/-- the words that a call doesn't carry by itself: of nest mates, of casts -/
def z_nstF (q : String × Nat × String × String × String × String) : Cond := .fieldLinkNest q.1 q.2.1 q.2.2.1 q.2.2.2.1 q.2.2.2.2.1 q.2.2.2.2.2
def z_nstM (q : String × Nat × MethodName × String) : Cond := .methodLinkNest q.1 q.2.1 q.2.2.1 q.2.2.2
def z_nF : List (String × Nat × String × String × String × String) := [("LoafExits", 67, "LoafExits$Land", "roads", "LLoafExits$Roads;", "LoafExits"), ("LoafExits$Chooser", 46, "LoafExits$Land", "roads", "LLoafExits$Roads;", "LoafExits"), ("LoafExits$Chooser", 31, "LoafExits$Land", "exits", "LLoafExits$Exits;", "LoafExits"), ("LoafExits", 83, "LoafExits$Land", "exits", "LLoafExits$Exits;", "LoafExits"), ("LoafExits$Chooser", 27, "LoafExits$Land", "neighbours", "LLoafExits$Neighbours;", "LoafExits"), ("LoafExits", 120, "LoafExits$Land", "neighbours", "LLoafExits$Neighbours;", "LoafExits"), ("LoafExits", 140, "LoafExits$Land", "sent", "I", "LoafExits"), ("LoafExits", 277, "LoafExits$Land", "cold", "I", "LoafExits"), ("LoafExits", 280, "LoafExits$Land", "costs", "I", "LoafExits"), ("LoafExits", 254, "LoafExits$Chooser", "takeable", "I", "LoafExits"), ("LoafExits", 251, "LoafExits$Chooser", "best", "I", "LoafExits"), ("LoafExits", 246, "LoafExits$Chooser", "exit", "I", "LoafExits"), ("LoafExits", 249, "LoafExits$Chooser", "cost", "I", "LoafExits")]
def z_nM : List (String × Nat × MethodName × String) := [("LoafExits", 9, ⟨"LoafExits$Land", "<init>", "()V"⟩, "LoafExits"), ("LoafExits$Land", 20, ⟨"LoafExits$Exits", "<init>", "()V"⟩, "LoafExits"), ("LoafExits", 21, ⟨"LoafExits$Chooser", "<init>", "()V"⟩, "LoafExits"), ("LoafExits", 28, ⟨"LoafExits$Nearest", "<init>", "()V"⟩, "LoafExits"), ("LoafExits", 35, ⟨"LoafExits$Text", "<init>", "()V"⟩, "LoafExits"), ("LoafExits$Shelf", 25, ⟨"LoafExits$Land", "<init>", "()V"⟩, "LoafExits"), ("LoafExits", 51, ⟨"LoafExits$History", "<init>", "()V"⟩, "LoafExits"), ("LoafExits$Roads", 21, ⟨"LoafExits", "copyRow", "([I[I)V"⟩, "LoafExits"), ("LoafExits$Exits", 27, ⟨"LoafExits", "copyRow", "([I[I)V"⟩, "LoafExits"), ("LoafExits$Neighbours", 27, ⟨"LoafExits", "copyRow", "([I[I)V"⟩, "LoafExits"), ("LoafExits$Land", 49, ⟨"LoafExits", "copyRow", "([I[I)V"⟩, "LoafExits"), ("LoafExits$Neighbours", 31, ⟨"LoafExits", "isNeighbour", "(I)Z"⟩, "LoafExits"), ("LoafExits$Neighbours", 35, ⟨"LoafExits", "isHouse", "(I)Z"⟩, "LoafExits"), ("LoafExits$Roads", 25, ⟨"LoafExits", "isTown", "(I)Z"⟩, "LoafExits"), ("LoafExits$Land", 67, ⟨"LoafExits", "isTown", "(I)Z"⟩, "LoafExits"), ("LoafExits$Land", 71, ⟨"LoafExits", "isHouse", "(I)Z"⟩, "LoafExits"), ("LoafExits$Nearest", 31, ⟨"LoafExits", "isTown", "(I)Z"⟩, "LoafExits")]
def z_dl : List MethodName := [⟨"java/lang/RuntimeException", "<init>", "()V"⟩, ⟨"java/lang/RuntimeException", "<init>", "(Ljava/lang/String;)V"⟩, ⟨"java/lang/Exception", "<init>", "()V"⟩, ⟨"java/lang/Exception", "<init>", "(Ljava/lang/String;)V"⟩, ⟨"java/lang/Throwable", "<init>", "()V"⟩, ⟨"java/lang/Throwable", "<init>", "(Ljava/lang/String;)V"⟩]
def z_ex : List String := ["java/lang/IndexOutOfBoundsException", "java/lang/IllegalArgumentException", "java/lang/IllegalStateException"]
def z_nst (U : State) : Prop := (∀ q ∈ z_nF, va_Nw (z_nstF q) U) ∧ (∀ q ∈ z_nM, va_Nw (z_nstM q) U) ∧ (∀ E ∈ z_ex, va_Nw (.castable E E) U) ∧ (∀ E ∈ z_ex, ∀ T ∈ z_ex, E ≠ T → va_Nc E T U) ∧ (∀ x ∈ z_dl, va_Nw (.declares x) U) ∧ va_AO "LoafExits$Land" U
theorem z_nst_warm {u U : State} (hv : u.WarmedH U.vm) (h : z_nst u) : z_nst U :=
  ⟨fun q hq => va_Nw.warmF hv (h.1 q hq), fun q hq => va_Nw.warmM hv (h.2.1 q hq), fun E hE => va_Nw.warmC hv (h.2.2.1 E hE), fun E hE T hT n => (h.2.2.2.1 E hE T hT n).moved hv.alike, fun x hx => va_Nw.warmD hv (h.2.2.2.2.1 x hx), va_AO.moved hv.alike h.2.2.2.2.2⟩
theorem z_nst_same {u U : State} (hv : u.vm = U.vm) (h : z_nst u) : z_nst U :=
  ⟨fun q hq => va_Nw.same rfl hv (h.1 q hq), fun q hq => va_Nw.same rfl hv (h.2.1 q hq), fun E hE => va_Nw.same rfl hv (h.2.2.1 E hE), fun E hE T hT n => (h.2.2.2.1 E hE T hT n).moved (by rw [hv]; exact Vm.Alike.refl _), fun x hx => va_Nw.same rfl hv (h.2.2.2.2.1 x hx), va_AO.moved (by rw [hv]; exact Vm.Alike.refl _) h.2.2.2.2.2⟩
def z_sta (w : zWp) (U : State) (H : Heap) : Prop := vx_Zq Bundle.tN "UNASSIGNED_STACK" Bundle.steD (z_A w) U H ∧ vx_Zq Bundle.tN "SUPPRESSED_SENTINEL" Bundle.listD (z_A w) U H ∧ va_X w.2.2.2.1 w.2.2.2.2.1 w.2.2.2.2.2 U H ∧ w.2.2.2.1 < w.2.2.1 ∧ w.2.2.2.1 < H.size
theorem z_txt_same {u U : State} (hv : U.vm = u.vm) (h : z_txt u) : z_txt U := fun q hq => by
  obtain ⟨a, ha⟩ := h q hq
  exact ⟨a, vk_R.same hv ha⟩
theorem z_txt_warm {u U : State} (hv : u.WarmedH U.vm) (h : z_txt u) : z_txt U := fun q hq => by
  obtain ⟨a, ha⟩ := h q hq
  exact ⟨a, vk_R.warm hv ha⟩
theorem z_sta_moved {w : zWp} {u U : State} {H : Heap} (hv : u.vm.Alike U.vm) (h : z_sta w u H) : z_sta w U H := ⟨vx_Zq.moved hv h.1, vx_Zq.moved hv h.2.1, va_X.moved hv h.2.2.1, h.2.2.2⟩
theorem z_sta_kept {w : zWp} {u : State} {H H1 : Heap} (h : z_sta w u H) (hq : ∀ a : Nat, a < H.size → ¬ z_A w a → H1[a]? = H[a]?) : z_sta w u H1 := by
  have h9 := hq _ h.2.2.2.2 (fun q => Nat.not_le.mpr h.2.2.2.1 q)
  exact ⟨vx_Zq.kept h.1 hq, vx_Zq.kept h.2.1 hq, va_X.kept h.2.2.1 h9, h.2.2.2.1, by
    obtain ⟨scr, h1, -⟩ := h.2.2.1
    rw [← h9] at h1
    exact (Array.getElem?_eq_some_iff.mp h1).1⟩
/-- the heap holds the state; at a method's start and end, while places are being made, nothing else is in the heap behind base -/
def z_hp (w : zWp) (σ : zSt) (H : Heap) : Prop := va_P w.1 vwCl (z_ws w σ) H ∧ σ.1 ≤ 196 ∧ w.2.2.1 ≤ H.size
def z_sz (w : zWp) (σ : zSt) (H : Heap) : Prop := σ.1 < 196 → H.size = w.2.2.1 + σ.1
theorem z_low {w : zWp} {σ : zSt} {H : Heap} (h : z_hp w σ H) : w.2.2.1 + σ.1 ≤ H.size := by
  rcases Nat.eq_zero_or_pos σ.1 with e | e
  · rw [e]
    exact h.2.2
  · have h1 : (z_ws w σ)[σ.1 - 1]? = some (z_ent w σ (σ.1 - 1)) := by
      unfold z_ws
      rw [List.getElem?_map, List.getElem?_range (by omega)]
      rfl
    have h2 := (h.1 _ _ h1).lt
    have h3 : (z_ent w σ (σ.1 - 1)).1 = w.2.2.1 + (σ.1 - 1) := rfl
    omega
/-- what a method is given, and gives back -/
def z_Wd (w : zWp) (σ : zSt) (U : State) : Prop := z_hp w σ U.heap ∧ z_sz w σ U.heap ∧ va_K w.1 vwCl (z_tys w) U ∧ z_sta w U U.heap ∧ z_txt U ∧ z_nst U
theorem z_Wd_blind {w : zWp} {σ : zSt} {a : Array Value} {U : State} {g : JFrame} {mk : MethodId} (h : z_Wd w σ U) : z_Wd w σ (U.calling g mk a) :=
  ⟨h.1, h.2.1, va_K.moved (u := U) (U := U.calling g mk a) (Vm.Alike.refl U.vm) h.2.2.1, z_sta_moved (u := U) (U := U.calling g mk a) (Vm.Alike.refl U.vm) h.2.2.2.1, z_txt_same (u := U) (U := U.calling g mk a) rfl h.2.2.2.2.1, z_nst_same (u := U) (U := U.calling g mk a) rfl h.2.2.2.2.2⟩
def z_Q (w : zWp) (r : zRes) (σ' : zSt) : Array Value → State → Outcome → State → Prop := fun _ st oc t => (∃ v, r = .inl v ∧ oc = .returned (v.map (z_tr w))) ∧ z_hp w σ' t.heap ∧ z_sz w σ' t.heap ∧ va_F (z_A w) st t
def z_X (w : zWp) (r : zRes) (σ' : zSt) : String → State → State → Prop := fun E st t => r = .inr E ∧ z_hp w σ' t.heap ∧ z_sz w σ' t.heap ∧ va_F (z_A w) st t
/-- the slots of the places made so far -/
def z_sl (n : Nat) : Nat := ((List.range n).map (fun j => if (z_LF j).1 ≤ 10 then (z_ft (z_LF j).1).length else z_ln (z_LF j).1 (z_LF j).2)).sum
def z_th (r : zRes) : Nat := match r with
  | .inl _ => 0
  | .inr _ => 1
def z_codeW (f : zMth) : Cond := match f.2.2.2.2 with
  | [] => .code f.1 f.2.1 f.2.2.1 f.2.2.2.1
  | hh => .codeWith f.1 f.2.1 f.2.2.1 f.2.2.2.1 hh
/-- the contract of a method: on these arguments and this state it has this outcome and this state, d frames deep at most -/
def zC (w : zWp) (f : zMth) (d : Nat) (av : List zAV) (σ : zSt) (r : zRes) (σ' : zSt) : Prop := ∀ l : Launch, l.stackTraces = false →
  vx_Met l f.1 (z_codeW f :: zUW) ({ frames := d, cells := (σ'.1 - σ.1) + z_th r, slots := (z_sl σ'.1 - z_sl σ.1) + 6 * z_th r, locals := 32 * d } : Room)
    (va_Pc (av.map (z_tr w)) (z_Wd w σ)) (z_Q w r σ') (z_X w r σ') ((σ'.1 - σ.1) + z_th r) ((z_sl σ'.1 - z_sl σ.1) + 6 * z_th r) (z_A w)
/-- the locals that are known -/
def z_isU (v : zAV) : Bool := match v with
  | .inl .null => true
  | _ => false
def z_kn (w : zWp) : Nat → List zAV → List (Nat × Value)
  | _, [] => []
  | i, v :: L => if z_isU v then z_kn w (i + 1) L else (i, z_tr w v) :: z_kn w (i + 1) L
theorem z_kn_mem {w : zWp} : ∀ (L : List zAV) (b : Nat) (q : Nat × Value), q ∈ z_kn w b L ↔ ∃ (j : Nat) (u : zAV), q = (b + j, z_tr w u) ∧ L[j]? = some u ∧ z_isU u = false
  | [], b, q => by simp [z_kn]
  | v :: L, b, q => by
    have ih := z_kn_mem (w := w) L (b + 1) q
    unfold z_kn
    by_cases hv : z_isU v = true
    · rw [if_pos hv, ih]
      constructor
      · rintro ⟨j, u, h1, h2, h3⟩
        exact ⟨j + 1, u, by rw [h1]; congr 1; omega, by simpa using h2, h3⟩
      · rintro ⟨j, u, h1, h2, h3⟩
        cases j with
        | zero =>
          simp at h2
          subst h2
          rw [hv] at h3
          cases h3
        | succ j => exact ⟨j, u, by rw [h1]; congr 1; omega, by simpa using h2, h3⟩
    · have hv' : z_isU v = false := by simpa using hv
      rw [if_neg hv, List.mem_cons, ih]
      constructor
      · rintro (h | ⟨j, u, h1, h2, h3⟩)
        · exact ⟨0, v, h, by simp, hv'⟩
        · exact ⟨j + 1, u, by rw [h1]; congr 1; omega, by simpa using h2, h3⟩
      · rintro ⟨j, u, h1, h2, h3⟩
        cases j with
        | zero =>
          simp at h2
          subst h2
          exact Or.inl h1
        | succ j => exact Or.inr ⟨j, u, by rw [h1]; congr 1; omega, by simpa using h2, h3⟩
def z_c2 (v : zAV) : Bool := match v with
  | .inl (.long _) => true
  | .inl (.double _) => true
  | _ => false
theorem z_c2_cat {w : zWp} (v : zAV) (h : z_c2 v = false) : (z_tr w v).category = 1 := by
  rcases v with x | q
  · cases x <;> first | rfl | cases h
  · rfl
theorem z_store1 {w : zWp} {ls : Array Slot} {nL i : Nat} {L : List zAV} {v : zAV} (hc : ∀ u, 0 < i → L[i - 1]? = some u → z_c2 u = false)
    (h : lv_has ls nL ((i, z_tr w v) :: (z_kn w 0 L).filter (fun q => !(q.1 == i) && !(q.1 + 1 == i && q.2.category == 2)))) : lv_has ls nL (z_kn w 0 (L.set i v)) := by
  refine ⟨h.1, h.2.1, fun q hq => h.2.2 q ?_⟩
  obtain ⟨j, u, h1, h2, h3⟩ := (z_kn_mem _ _ _).mp hq
  rw [Nat.zero_add] at h1
  subst h1
  rw [List.getElem?_set] at h2
  by_cases hj : i = j
  · subst hj
    rw [if_pos rfl] at h2
    split at h2
    · cases h2
      exact List.mem_cons_self
    · cases h2
  · rw [if_neg hj] at h2
    refine List.mem_cons_of_mem _ (List.mem_filter.mpr ⟨(z_kn_mem _ _ _).mpr ⟨j, u, by rw [Nat.zero_add], h2, h3⟩, ?_⟩)
    have e1 : (j == i) = false := by simpa using fun e : j = i => hj e.symm
    dsimp only
    rw [e1]
    by_cases hji : j + 1 = i
    · have hcu : z_c2 u = false := hc u (by omega) (by rw [show i - 1 = j by omega]; exact h2)
      rw [z_c2_cat u hcu]
      simp
    · have e2 : (j + 1 == i) = false := by simpa using hji
      rw [e2]
      rfl
theorem z_store2 {w : zWp} {ls : Array Slot} {nL i : Nat} {L : List zAV} {v : zAV} (hc : ∀ u, 0 < i → L[i - 1]? = some u → z_c2 u = false)
    (h : lv_has ls nL ((i, z_tr w v) :: (z_kn w 0 L).filter (fun q => !(q.1 == i) && (!(q.1 == i + 1) && !(q.1 + 1 == i && q.2.category == 2))))) : lv_has ls nL (z_kn w 0 ((L.set i v).set (i + 1) vU)) := by
  refine ⟨h.1, h.2.1, fun q hq => h.2.2 q ?_⟩
  obtain ⟨j, u, h1, h2, h3⟩ := (z_kn_mem _ _ _).mp hq
  rw [Nat.zero_add] at h1
  subst h1
  rw [List.getElem?_set] at h2
  by_cases hj2 : i + 1 = j
  · rw [if_pos hj2] at h2
    split at h2
    · cases h2
      cases h3
    · cases h2
  · rw [if_neg hj2, List.getElem?_set] at h2
    by_cases hj : i = j
    · subst hj
      rw [if_pos rfl] at h2
      split at h2
      · cases h2
        exact List.mem_cons_self
      · cases h2
    · rw [if_neg hj] at h2
      refine List.mem_cons_of_mem _ (List.mem_filter.mpr ⟨(z_kn_mem _ _ _).mpr ⟨j, u, by rw [Nat.zero_add], h2, h3⟩, ?_⟩)
      have e1 : (j == i) = false := by simpa using fun e : j = i => hj e.symm
      have e3 : (j == i + 1) = false := by simpa using fun e : j = i + 1 => hj2 e.symm
      dsimp only
      rw [e1, e3]
      by_cases hji : j + 1 = i
      · have hcu : z_c2 u = false := hc u (by omega) (by rw [show i - 1 = j by omega]; exact h2)
        rw [z_c2_cat u hcu]
        simp
      · have e2 : (j + 1 == i) = false := by simpa using hji
        rw [e2]
        rfl
theorem z_ld {w : zWp} {ls : Array Slot} {nL i : Nat} {L : List zAV} {v : zAV} (h : lv_has ls nL (z_kn w 0 L)) (hv : L[i]? = some v) (hu : z_isU v = false) : ls[i]? = some (.val (z_tr w v)) :=
  h.2.2 (i, z_tr w v) ((z_kn_mem _ _ _).mpr ⟨i, v, by rw [Nat.zero_add], hv, hu⟩)
