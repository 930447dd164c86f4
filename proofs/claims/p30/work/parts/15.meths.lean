/-! Written by program: the methods, the words of links, a row for each field link. -/
abbrev mX0_init : zMth := (yX0_init, cX0_init, 1, none, [])
abbrev mX0_look : zMth := (yX0_look, cX0_look, 9, none, [])
abbrev mX0_reasonAgainst : zMth := (yX0_reasonAgainst, cX0_reasonAgainst, 5, some .int, [])
abbrev mX0_begin : zMth := (yX0_begin, cX0_begin, 1, none, [])
abbrev mX0_weigh : zMth := (yX0_weigh, cX0_weigh, 3, none, [])
abbrev mX0_bestOfRank : zMth := (yX0_bestOfRank, cX0_bestOfRank, 4, some .int, [])
abbrev mX0_isBest : zMth := (yX0_isBest, cX0_isBest, 3, some .boolean, [])
abbrev mX1_init : zMth := (yX1_init, cX1_init, 1, none, [])
abbrev mX1_copyFrom : zMth := (yX1_copyFrom, cX1_copyFrom, 2, none, [])
abbrev mX1_size : zMth := (yX1_size, cX1_size, 1, some .int, [])
abbrev mX1_isFull : zMth := (yX1_isFull, cX1_isFull, 1, some .boolean, [])
abbrev mX1_has : zMth := (yX1_has, cX1_has, 2, some .boolean, [])
abbrev mX1_town : zMth := (yX1_town, cX1_town, 2, some .int, [])
abbrev mX1_neighbour : zMth := (yX1_neighbour, cX1_neighbour, 2, some .int, [])
abbrev mX1_isOpen : zMth := (yX1_isOpen, cX1_isOpen, 2, some .boolean, [])
abbrev mX1_loaves : zMth := (yX1_loaves, cX1_loaves, 2, some .int, [])
abbrev mX1_costs : zMth := (yX1_costs, cX1_costs, 2, some .int, [])
abbrev mX1_openOnes : zMth := (yX1_openOnes, cX1_openOnes, 3, some .int, [])
abbrev mX1_add : zMth := (yX1_add, cX1_add, 4, some .int, [])
abbrev mX1_flip : zMth := (yX1_flip, cX1_flip, 2, none, [])
abbrev mX1_takeLoaf : zMth := (yX1_takeLoaf, cX1_takeLoaf, 3, none, [])
abbrev mX2_init : zMth := (yX2_init, cX2_init, 1, none, [])
abbrev mX2_size : zMth := (yX2_size, cX2_size, 1, some .int, [])
abbrev mX2_save : zMth := (yX2_save, cX2_save, 2, none, [])
abbrev mX2_restore : zMth := (yX2_restore, cX2_restore, 2, none, [])
abbrev mX3_init : zMth := (yX3_init, cX3_init, 1, none, [])
abbrev mX3_copyFrom : zMth := (yX3_copyFrom, cX3_copyFrom, 2, none, [])
abbrev mX3_setting : zMth := (yX3_setting, cX3_setting, 2, some .int, [])
abbrev mX3_changeSetting : zMth := (yX3_changeSetting, cX3_changeSetting, 4, some .int, [])
abbrev mX3_loavesOut : zMth := (yX3_loavesOut, cX3_loavesOut, 3, some .int, [])
abbrev mX3_takeLoaf : zMth := (yX3_takeLoaf, cX3_takeLoaf, 5, none, [])
abbrev mX4_init : zMth := (yX4_init, cX4_init, 1, none, [])
abbrev mX4_way : zMth := (yX4_way, cX4_way, 5, some .int, [])
abbrev mX4_begin : zMth := (yX4_begin, cX4_begin, 3, none, [])
abbrev mX4_nearestUnsettled : zMth := (yX4_nearestUnsettled, cX4_nearestUnsettled, 4, some .int, [])
abbrev mX4_fix : zMth := (yX4_fix, cX4_fix, 5, none, [])
abbrev mX5_init : zMth := (yX5_init, cX5_init, 2, none, [])
abbrev mX5_copyFrom : zMth := (yX5_copyFrom, cX5_copyFrom, 2, none, [])
abbrev mX5_length : zMth := (yX5_length, cX5_length, 3, some .int, [])
abbrev mX5_boundOf : zMth := (yX5_boundOf, cX5_boundOf, 2, some .int, [])
abbrev mX5_came : zMth := (yX5_came, cX5_came, 2, some .int, [])
abbrev mX5_complaintsSince : zMth := (yX5_complaintsSince, cX5_complaintsSince, 2, some .int, [])
abbrev mX5_complaintsSoFar : zMth := (yX5_complaintsSoFar, cX5_complaintsSoFar, 2, some .int, [])
abbrev mX5_ways : zMth := (yX5_ways, cX5_ways, 3, some .int, [])
abbrev mX5_allComplaints : zMth := (yX5_allComplaints, cX5_allComplaints, 3, some .int, [])
abbrev mX5_changeLength : zMth := (yX5_changeLength, cX5_changeLength, 5, some .int, [])
abbrev mX5_changeBound : zMth := (yX5_changeBound, cX5_changeBound, 4, some .int, [])
abbrev mX5_beginAnew : zMth := (yX5_beginAnew, cX5_beginAnew, 3, some .int, [])
abbrev mX5_takeLoaf : zMth := (yX5_takeLoaf, cX5_takeLoaf, 2, none, [])
abbrev mX6_init : zMth := (yX6_init, cX6_init, 2, none, [])
abbrev mX6_copyFrom : zMth := (yX6_copyFrom, cX6_copyFrom, 2, none, [])
abbrev mX6_cost : zMth := (yX6_cost, cX6_cost, 3, some .int, [])
abbrev mX6_way : zMth := (yX6_way, cX6_way, 4, some .int, [])
abbrev mX6_lay : zMth := (yX6_lay, cX6_lay, 5, some .int, [])
abbrev mX6_number : zMth := (yX6_number, cX6_number, 4, some .int, [])
abbrev mX6_nextTown : zMth := (yX6_nextTown, cX6_nextTown, 6, some .int, [])
abbrev mX6_measure : zMth := (yX6_measure, cX6_measure, 5, none, [])
abbrev mX6_allowRoadsAlone : zMth := (yX6_allowRoadsAlone, cX6_allowRoadsAlone, 4, none, [])
abbrev mX7_init : zMth := (yX7_init, cX7_init, 3, none, [])
abbrev mX7_holds : zMth := (yX7_holds, cX7_holds, 2, some .boolean, [])
abbrev mX7_put : zMth := (yX7_put, cX7_put, 4, none, [])
abbrev mX7_copyTo : zMth := (yX7_copyTo, cX7_copyTo, 4, none, [])
abbrev mX7_at : zMth := (yX7_at, cX7_at, 2, some (.object "LoafExits$Land"), [])
abbrev mX8_init : zMth := (yX8_init, cX8_init, 1, none, [])
abbrev mX8_length : zMth := (yX8_length, cX8_length, 1, some .int, [])
abbrev mX8_isFull : zMth := (yX8_isFull, cX8_isFull, 1, some .boolean, [])
abbrev mX8_code : zMth := (yX8_code, cX8_code, 2, some .int, [])
abbrev mX8_digit : zMth := (yX8_digit, cX8_digit, 2, some .int, [])
abbrev mX8_add : zMth := (yX8_add, cX8_add, 2, some .int, [])
abbrev mX8_wipe : zMth := (yX8_wipe, cX8_wipe, 2, some .int, [])
abbrev mX8_isDay : zMth := (yX8_isDay, cX8_isDay, 3, some .boolean, [])
abbrev mX8_beginsOrder : zMth := (yX8_beginsOrder, cX8_beginsOrder, 2, some .boolean, [])
abbrev mX8_loaves : zMth := (yX8_loaves, cX8_loaves, 2, some .int, [])
abbrev mX8_cost : zMth := (yX8_cost, cX8_cost, 2, some .int, [])
abbrev mX8_placeAfter : zMth := (yX8_placeAfter, cX8_placeAfter, 4, some .int, [])
abbrev mX8_afterLetter : zMth := (yX8_afterLetter, cX8_afterLetter, 1, some .int, [])
abbrev mX8_afterFirstDigit : zMth := (yX8_afterFirstDigit, cX8_afterFirstDigit, 1, some .int, [])
abbrev mX8_afterOrder : zMth := (yX8_afterOrder, cX8_afterOrder, 1, some .int, [])
abbrev mX8_isTownDigit : zMth := (yX8_isTownDigit, cX8_isTownDigit, 1, some .boolean, [])
abbrev mX8_isIn : zMth := (yX8_isIn, cX8_isIn, 3, some .boolean, [])
abbrev mX9_init : zMth := (yX9_init, cX9_init, 1, none, [])
abbrev mX9_road : zMth := (yX9_road, cX9_road, 4, some .int, [])
abbrev mX9_exit : zMth := (yX9_exit, cX9_exit, 3, some .int, [])
abbrev mX9_turn : zMth := (yX9_turn, cX9_turn, 2, some .int, [])
abbrev mX9_offer : zMth := (yX9_offer, cX9_offer, 4, some .int, [])
abbrev mX9_bound : zMth := (yX9_bound, cX9_bound, 3, some .int, [])
abbrev mX9_set : zMth := (yX9_set, cX9_set, 3, some .int, [])
abbrev mX9_send : zMth := (yX9_send, cX9_send, 3, some .int, [])
abbrev mX9_settle : zMth := (yX9_settle, cX9_settle, 1, some .int, [])
abbrev mX9_append : zMth := (yX9_append, cX9_append, 2, some .int, [])
abbrev mX9_run : zMth := (yX9_run, cX9_run, 3, some .int, [])
abbrev mX9_keep : zMth := (yX9_keep, cX9_keep, 2, some .int, [])
abbrev mX9_goBack : zMth := (yX9_goBack, cX9_goBack, 2, some .int, [])
abbrev mX9_undo : zMth := (yX9_undo, cX9_undo, 1, some .int, [])
abbrev mX9_roadOf : zMth := (yX9_roadOf, cX9_roadOf, 3, some .int, [])
abbrev mX9_distance : zMth := (yX9_distance, cX9_distance, 4, some .int, [])
abbrev mX9_exitOf : zMth := (yX9_exitOf, cX9_exitOf, 3, some .int, [])
abbrev mX9_neighbourOf : zMth := (yX9_neighbourOf, cX9_neighbourOf, 3, some .int, [])
abbrev mX9_choice : zMth := (yX9_choice, cX9_choice, 4, some .int, [])
abbrev mX9_why : zMth := (yX9_why, cX9_why, 4, some .int, [])
abbrev mX9_count : zMth := (yX9_count, cX9_count, 2, some .int, [])
abbrev mX9_ifRoad : zMth := (yX9_ifRoad, cX9_ifRoad, 4, some .int, [])
abbrev mX9_dearest : zMth := (yX9_dearest, cX9_dearest, 5, some .int, [])
abbrev mX9_idle : zMth := (yX9_idle, cX9_idle, 4, some .int, [])
abbrev mX9_hotShare : zMth := (yX9_hotShare, cX9_hotShare, 1, some .double, [])
abbrev mX9_isTown : zMth := (yX9_isTown, cX9_isTown, 1, some .boolean, [])
abbrev mX9_isHouse : zMth := (yX9_isHouse, cX9_isHouse, 1, some .boolean, [])
abbrev mX9_isNeighbour : zMth := (yX9_isNeighbour, cX9_isNeighbour, 1, some .boolean, [])
abbrev mX9_needTown : zMth := (yX9_needTown, cX9_needTown, 1, none, [])
abbrev mX9_needTwoTowns : zMth := (yX9_needTwoTowns, cX9_needTwoTowns, 2, none, [])
abbrev mX9_needHouse : zMth := (yX9_needHouse, cX9_needHouse, 1, none, [])
abbrev mX9_needNeighbour : zMth := (yX9_needNeighbour, cX9_needNeighbour, 1, none, [])
abbrev mX9_needExit : zMth := (yX9_needExit, cX9_needExit, 2, none, [])
abbrev mX9_needCost : zMth := (yX9_needCost, cX9_needCost, 1, none, [])
abbrev mX9_needSlot : zMth := (yX9_needSlot, cX9_needSlot, 1, none, [])
abbrev mX9_needFromZero : zMth := (yX9_needFromZero, cX9_needFromZero, 2, none, [])
abbrev mX9_sendLoaf : zMth := (yX9_sendLoaf, cX9_sendLoaf, 3, some .int, [])
abbrev mX9_isOrderDone : zMth := (yX9_isOrderDone, cX9_isOrderDone, 2, some .boolean, [])
abbrev mX9_areLoavesSent : zMth := (yX9_areLoavesSent, cX9_areLoavesSent, 5, some .boolean, [])
abbrev mX9_isExitTurned : zMth := (yX9_isExitTurned, cX9_isExitTurned, 3, some .boolean, [])
abbrev mX9_pairsWithoutExit : zMth := (yX9_pairsWithoutExit, cX9_pairsWithoutExit, 4, some .int, [])
abbrev mX9_pairsDearerWithout : zMth := (yX9_pairsDearerWithout, cX9_pairsDearerWithout, 7, some .int, [])
abbrev mX9_pairsOtherOnTrial : zMth := (yX9_pairsOtherOnTrial, cX9_pairsOtherOnTrial, 5, some .int, [])
abbrev mX9_copyRow : zMth := (yX9_copyRow, cX9_copyRow, 2, none, [])
abbrev mL_cell : zMth := (yL_cell, cL_cell, 2, some .int, [])
abbrev mL_road : zMth := (yL_road, cL_road, 5, some .int, [(0, 7, 8, 15), (0, 7, 13, 18)])
abbrev mL_exit : zMth := (yL_exit, cL_exit, 4, some .int, [(0, 6, 7, 15), (0, 6, 11, 25)])
abbrev mL_turn : zMth := (yL_turn, cL_turn, 3, some .int, [(0, 5, 6, 15)])
abbrev mL_offer : zMth := (yL_offer, cL_offer, 5, some .int, [(0, 7, 8, 15), (0, 7, 13, 18)])
abbrev mL_bound : zMth := (yL_bound, cL_bound, 4, some .int, [(0, 6, 7, 15), (0, 6, 11, 18)])
abbrev mL_set : zMth := (yL_set, cL_set, 4, some .int, [(0, 6, 7, 15), (0, 6, 11, 18)])
abbrev mL_send : zMth := (yL_send, cL_send, 4, some .int, [(0, 6, 7, 15), (0, 6, 11, 25)])
abbrev mL_append : zMth := (yL_append, cL_append, 3, some .int, [(0, 5, 6, 18), (0, 5, 10, 25)])
abbrev mL_run : zMth := (yL_run, cL_run, 2, some .int, [(0, 4, 5, 18)])
abbrev mL_keep : zMth := (yL_keep, cL_keep, 3, some .int, [(0, 5, 6, 18)])
abbrev mL_goBack : zMth := (yL_goBack, cL_goBack, 3, some .int, [(0, 5, 6, 18), (0, 5, 10, 25)])
abbrev mL_undo : zMth := (yL_undo, cL_undo, 2, some .int, [(0, 4, 5, 25)])
abbrev mL_roadOf : zMth := (yL_roadOf, cL_roadOf, 4, some .int, [(0, 6, 7, 15)])
abbrev mL_distance : zMth := (yL_distance, cL_distance, 5, some .int, [(0, 7, 8, 15), (0, 7, 13, 18)])
abbrev mL_exitOf : zMth := (yL_exitOf, cL_exitOf, 4, some .int, [(0, 6, 7, 15), (0, 6, 11, 18)])
abbrev mL_neighbourOf : zMth := (yL_neighbourOf, cL_neighbourOf, 4, some .int, [(0, 6, 7, 15), (0, 6, 11, 18)])
abbrev mL_choice : zMth := (yL_choice, cL_choice, 5, some .int, [(0, 7, 8, 15), (0, 7, 13, 18)])
abbrev mL_why : zMth := (yL_why, cL_why, 5, some .int, [(0, 7, 8, 15)])
abbrev mL_count : zMth := (yL_count, cL_count, 3, some .int, [(0, 5, 6, 18)])
abbrev mL_ifRoad : zMth := (yL_ifRoad, cL_ifRoad, 5, some .int, [(0, 7, 8, 15), (0, 7, 13, 18)])
abbrev mL_idle : zMth := (yL_idle, cL_idle, 4, some .int, [(0, 6, 7, 15), (0, 6, 11, 18)])
abbrev mL_acts : zMth := (yL_acts, cL_acts, 3, some .int, [])
abbrev mL_ways : zMth := (yL_ways, cL_ways, 9, some .boolean, [])
abbrev mL_choices : zMth := (yL_choices, cL_choices, 18, some .boolean, [])
abbrev mL_setting : zMth := (yL_setting, cL_setting, 2, some .int, [])
abbrev mL_hangs : zMth := (yL_hangs, cL_hangs, 13, some .boolean, [])
abbrev mL_law : zMth := (yL_law, cL_law, 25, some .boolean, [])
set_option maxRecDepth 20000 in
theorem z_in0 : ∀ w ∈ u_ws RX0 TX0 8, w ∈ zUW := z_ins [178, 180, 182, 184, 186, 188, 190, 192] (by decide +kernel) (by decide +kernel)
set_option maxRecDepth 20000 in
theorem z_in1 : ∀ w ∈ u_ws RX1 TX1 6, w ∈ zUW := z_ins [91, 93, 95, 97, 99, 101] (by decide +kernel) (by decide +kernel)
set_option maxRecDepth 20000 in
theorem z_in2 : ∀ w ∈ u_ws RX2 TX2 3, w ∈ zUW := z_ins [252, 254, 256] (by decide +kernel) (by decide +kernel)
set_option maxRecDepth 20000 in
theorem z_in3 : ∀ w ∈ u_ws RX3 TX3 8, w ∈ zUW := z_ins [143, 145, 147, 149, 151, 153, 155, 157] (by decide +kernel) (by decide +kernel)
set_option maxRecDepth 20000 in
theorem z_in4 : ∀ w ∈ u_ws RX4 TX4 2, w ∈ zUW := z_ins [203, 205] (by decide +kernel) (by decide +kernel)
set_option maxRecDepth 20000 in
theorem z_in5 : ∀ w ∈ u_ws RX5 TX5 5, w ∈ zUW := z_ins [115, 117, 119, 121, 123] (by decide +kernel) (by decide +kernel)
set_option maxRecDepth 20000 in
theorem z_in6 : ∀ w ∈ u_ws RX6 TX6 2, w ∈ zUW := z_ins [73, 75] (by decide +kernel) (by decide +kernel)
set_option maxRecDepth 20000 in
theorem z_in7 : ∀ w ∈ u_ws RX7 TX7 2, w ∈ zUW := z_ins [236, 238] (by decide +kernel) (by decide +kernel)
set_option maxRecDepth 20000 in
theorem z_in8 : ∀ w ∈ u_ws RX8 TX8 2, w ∈ zUW := z_ins [217, 219] (by decide +kernel) (by decide +kernel)
set_option maxRecDepth 20000 in
theorem z_in9 : ∀ w ∈ u_ws RX9 TX9 7, w ∈ zUW := z_ins [266, 268, 270, 272, 274, 276, 278] (by decide +kernel) (by decide +kernel)
theorem lk_X9_10 : Cond.fieldLink RX9 10 (TX9 0).1 (TX9 0).2.1 (TX9 0).2.2.1 ∈ zUW := z_in 259 (by decide +kernel) rfl
theorem gf_X9_10 {w : zWp} {f : zMth} {d cr pc n : Nat} {lv stk : List zAV} {r : zRes} {σ' : zSt} {nn : Nat} {Nl : Nat → Nat → Nat → Bool} {M : Nat → Nat → Nat → Int32} {O : Nat → Int64} {i : Nat} (hd : decode f.2.1 pc = .ok (.getfield 10, 3)) (hn : pc + 3 = n) (ho : f.1.cls = RX9) (hl0 : z_live nn 9 i) (hnl : Nl 9 i 0 = false) (kk : zG w f d cr n lv (vR 3 0 :: stk) (nn, Nl, M, O) r σ') : zG w f d cr pc lv (vR 9 i :: stk) (nn, Nl, M, O) r σ' :=
  g_get (j := 0) (fs := some (3, some 0)) hd hn rfl z_in9 (by decide) (by rw [ho]; exact lk_X9_10) rfl (by decide) hl0 (by rw [hnl]; rfl) kk
theorem gw_X9_10 {w : zWp} {f : zMth} {d cr pc n : Nat} {lv stk : List zAV} {r : zRes} {σ' : zSt} {nn : Nat} {Nl : Nat → Nat → Nat → Bool} {M : Nat → Nat → Nat → Int32} {O : Nat → Int64} {i i2 : Nat} (hd : decode f.2.1 pc = .ok (.putfield 10, 3)) (hn : pc + 3 = n) (ho : f.1.cls = RX9) (hi9 : f.1.name = "<init>") (hl0 : z_live nn 9 i) (hi2 : i2 = 0) (kk : zG w f d cr n lv stk (nn, u3 Nl 9 i 0 false, M, O) r σ') : zG w f d cr pc lv (vR 3 i2 :: vR 9 i :: stk) (nn, Nl, M, O) r σ' :=
  g_putF (j := 0) (o := some 0) hd hn rfl z_in9 (by decide) (by rw [ho]; exact lk_X9_10) tyX9_ok nmX9 rfl hi9 (by rw [ho]; rfl) (tyX9_ok 0 (by decide)) (fun _ => ⟨rfl, rfl⟩) rfl hi2 (by decide) hl0 kk
theorem lk_X9_16 : Cond.fieldLink RX9 16 (TX9 1).1 (TX9 1).2.1 (TX9 1).2.2.1 ∈ zUW := z_in 260 (by decide +kernel) rfl
theorem gf_X9_16 {w : zWp} {f : zMth} {d cr pc n : Nat} {lv stk : List zAV} {r : zRes} {σ' : zSt} {nn : Nat} {Nl : Nat → Nat → Nat → Bool} {M : Nat → Nat → Nat → Int32} {O : Nat → Int64} {i : Nat} (hd : decode f.2.1 pc = .ok (.getfield 16, 3)) (hn : pc + 3 = n) (ho : f.1.cls = RX9) (hl0 : z_live nn 9 i) (hnl : Nl 9 i 1 = false) (kk : zG w f d cr n lv (vR 3 1 :: stk) (nn, Nl, M, O) r σ') : zG w f d cr pc lv (vR 9 i :: stk) (nn, Nl, M, O) r σ' :=
  g_get (j := 1) (fs := some (3, some 1)) hd hn rfl z_in9 (by decide) (by rw [ho]; exact lk_X9_16) rfl (by decide) hl0 (by rw [hnl]; rfl) kk
theorem gw_X9_16 {w : zWp} {f : zMth} {d cr pc n : Nat} {lv stk : List zAV} {r : zRes} {σ' : zSt} {nn : Nat} {Nl : Nat → Nat → Nat → Bool} {M : Nat → Nat → Nat → Int32} {O : Nat → Int64} {i i2 : Nat} (hd : decode f.2.1 pc = .ok (.putfield 16, 3)) (hn : pc + 3 = n) (ho : f.1.cls = RX9) (hi9 : f.1.name = "<init>") (hl0 : z_live nn 9 i) (hi2 : i2 = 1) (kk : zG w f d cr n lv stk (nn, u3 Nl 9 i 1 false, M, O) r σ') : zG w f d cr pc lv (vR 3 i2 :: vR 9 i :: stk) (nn, Nl, M, O) r σ' :=
  g_putF (j := 1) (o := some 1) hd hn rfl z_in9 (by decide) (by rw [ho]; exact lk_X9_16) tyX9_ok nmX9 rfl hi9 (by rw [ho]; rfl) (tyX9_ok 1 (by decide)) (fun _ => ⟨rfl, rfl⟩) rfl hi2 (by decide) hl0 kk
theorem lk_X9_22 : Cond.fieldLink RX9 22 (TX9 2).1 (TX9 2).2.1 (TX9 2).2.2.1 ∈ zUW := z_in 261 (by decide +kernel) rfl
theorem gf_X9_22 {w : zWp} {f : zMth} {d cr pc n : Nat} {lv stk : List zAV} {r : zRes} {σ' : zSt} {nn : Nat} {Nl : Nat → Nat → Nat → Bool} {M : Nat → Nat → Nat → Int32} {O : Nat → Int64} {i : Nat} (hd : decode f.2.1 pc = .ok (.getfield 22, 3)) (hn : pc + 3 = n) (ho : f.1.cls = RX9) (hl0 : z_live nn 9 i) (hnl : Nl 9 i 2 = false) (kk : zG w f d cr n lv (vR 0 0 :: stk) (nn, Nl, M, O) r σ') : zG w f d cr pc lv (vR 9 i :: stk) (nn, Nl, M, O) r σ' :=
  g_get (j := 2) (fs := some (0, some 0)) hd hn rfl z_in9 (by decide) (by rw [ho]; exact lk_X9_22) rfl (by decide) hl0 (by rw [hnl]; rfl) kk
theorem gw_X9_22 {w : zWp} {f : zMth} {d cr pc n : Nat} {lv stk : List zAV} {r : zRes} {σ' : zSt} {nn : Nat} {Nl : Nat → Nat → Nat → Bool} {M : Nat → Nat → Nat → Int32} {O : Nat → Int64} {i i2 : Nat} (hd : decode f.2.1 pc = .ok (.putfield 22, 3)) (hn : pc + 3 = n) (ho : f.1.cls = RX9) (hi9 : f.1.name = "<init>") (hl0 : z_live nn 9 i) (hi2 : i2 = 0) (kk : zG w f d cr n lv stk (nn, u3 Nl 9 i 2 false, M, O) r σ') : zG w f d cr pc lv (vR 0 i2 :: vR 9 i :: stk) (nn, Nl, M, O) r σ' :=
  g_putF (j := 2) (o := some 0) hd hn rfl z_in9 (by decide) (by rw [ho]; exact lk_X9_22) tyX9_ok nmX9 rfl hi9 (by rw [ho]; rfl) (tyX9_ok 2 (by decide)) (fun _ => ⟨rfl, rfl⟩) rfl hi2 (by decide) hl0 kk
theorem lk_X9_29 : Cond.fieldLink RX9 29 (TX9 3).1 (TX9 3).2.1 (TX9 3).2.2.1 ∈ zUW := z_in 262 (by decide +kernel) rfl
theorem gf_X9_29 {w : zWp} {f : zMth} {d cr pc n : Nat} {lv stk : List zAV} {r : zRes} {σ' : zSt} {nn : Nat} {Nl : Nat → Nat → Nat → Bool} {M : Nat → Nat → Nat → Int32} {O : Nat → Int64} {i : Nat} (hd : decode f.2.1 pc = .ok (.getfield 29, 3)) (hn : pc + 3 = n) (ho : f.1.cls = RX9) (hl0 : z_live nn 9 i) (hnl : Nl 9 i 3 = false) (kk : zG w f d cr n lv (vR 4 0 :: stk) (nn, Nl, M, O) r σ') : zG w f d cr pc lv (vR 9 i :: stk) (nn, Nl, M, O) r σ' :=
  g_get (j := 3) (fs := some (4, some 0)) hd hn rfl z_in9 (by decide) (by rw [ho]; exact lk_X9_29) rfl (by decide) hl0 (by rw [hnl]; rfl) kk
theorem gw_X9_29 {w : zWp} {f : zMth} {d cr pc n : Nat} {lv stk : List zAV} {r : zRes} {σ' : zSt} {nn : Nat} {Nl : Nat → Nat → Nat → Bool} {M : Nat → Nat → Nat → Int32} {O : Nat → Int64} {i i2 : Nat} (hd : decode f.2.1 pc = .ok (.putfield 29, 3)) (hn : pc + 3 = n) (ho : f.1.cls = RX9) (hi9 : f.1.name = "<init>") (hl0 : z_live nn 9 i) (hi2 : i2 = 0) (kk : zG w f d cr n lv stk (nn, u3 Nl 9 i 3 false, M, O) r σ') : zG w f d cr pc lv (vR 4 i2 :: vR 9 i :: stk) (nn, Nl, M, O) r σ' :=
  g_putF (j := 3) (o := some 0) hd hn rfl z_in9 (by decide) (by rw [ho]; exact lk_X9_29) tyX9_ok nmX9 rfl hi9 (by rw [ho]; rfl) (tyX9_ok 3 (by decide)) (fun _ => ⟨rfl, rfl⟩) rfl hi2 (by decide) hl0 kk
theorem lk_X9_36 : Cond.fieldLink RX9 36 (TX9 4).1 (TX9 4).2.1 (TX9 4).2.2.1 ∈ zUW := z_in 263 (by decide +kernel) rfl
theorem gf_X9_36 {w : zWp} {f : zMth} {d cr pc n : Nat} {lv stk : List zAV} {r : zRes} {σ' : zSt} {nn : Nat} {Nl : Nat → Nat → Nat → Bool} {M : Nat → Nat → Nat → Int32} {O : Nat → Int64} {i : Nat} (hd : decode f.2.1 pc = .ok (.getfield 36, 3)) (hn : pc + 3 = n) (ho : f.1.cls = RX9) (hl0 : z_live nn 9 i) (hnl : Nl 9 i 4 = false) (kk : zG w f d cr n lv (vR 8 0 :: stk) (nn, Nl, M, O) r σ') : zG w f d cr pc lv (vR 9 i :: stk) (nn, Nl, M, O) r σ' :=
  g_get (j := 4) (fs := some (8, some 0)) hd hn rfl z_in9 (by decide) (by rw [ho]; exact lk_X9_36) rfl (by decide) hl0 (by rw [hnl]; rfl) kk
theorem gw_X9_36 {w : zWp} {f : zMth} {d cr pc n : Nat} {lv stk : List zAV} {r : zRes} {σ' : zSt} {nn : Nat} {Nl : Nat → Nat → Nat → Bool} {M : Nat → Nat → Nat → Int32} {O : Nat → Int64} {i i2 : Nat} (hd : decode f.2.1 pc = .ok (.putfield 36, 3)) (hn : pc + 3 = n) (ho : f.1.cls = RX9) (hi9 : f.1.name = "<init>") (hl0 : z_live nn 9 i) (hi2 : i2 = 0) (kk : zG w f d cr n lv stk (nn, u3 Nl 9 i 4 false, M, O) r σ') : zG w f d cr pc lv (vR 8 i2 :: vR 9 i :: stk) (nn, Nl, M, O) r σ' :=
  g_putF (j := 4) (o := some 0) hd hn rfl z_in9 (by decide) (by rw [ho]; exact lk_X9_36) tyX9_ok nmX9 rfl hi9 (by rw [ho]; rfl) (tyX9_ok 4 (by decide)) (fun _ => ⟨rfl, rfl⟩) rfl hi2 (by decide) hl0 kk
theorem lk_X9_45 : Cond.fieldLink RX9 45 (TX9 5).1 (TX9 5).2.1 (TX9 5).2.2.1 ∈ zUW := z_in 264 (by decide +kernel) rfl
theorem gf_X9_45 {w : zWp} {f : zMth} {d cr pc n : Nat} {lv stk : List zAV} {r : zRes} {σ' : zSt} {nn : Nat} {Nl : Nat → Nat → Nat → Bool} {M : Nat → Nat → Nat → Int32} {O : Nat → Int64} {i : Nat} (hd : decode f.2.1 pc = .ok (.getfield 45, 3)) (hn : pc + 3 = n) (ho : f.1.cls = RX9) (hl0 : z_live nn 9 i) (hnl : Nl 9 i 5 = false) (kk : zG w f d cr n lv (vR 7 0 :: stk) (nn, Nl, M, O) r σ') : zG w f d cr pc lv (vR 9 i :: stk) (nn, Nl, M, O) r σ' :=
  g_get (j := 5) (fs := some (7, some 0)) hd hn rfl z_in9 (by decide) (by rw [ho]; exact lk_X9_45) rfl (by decide) hl0 (by rw [hnl]; rfl) kk
theorem gw_X9_45 {w : zWp} {f : zMth} {d cr pc n : Nat} {lv stk : List zAV} {r : zRes} {σ' : zSt} {nn : Nat} {Nl : Nat → Nat → Nat → Bool} {M : Nat → Nat → Nat → Int32} {O : Nat → Int64} {i i2 : Nat} (hd : decode f.2.1 pc = .ok (.putfield 45, 3)) (hn : pc + 3 = n) (ho : f.1.cls = RX9) (hi9 : f.1.name = "<init>") (hl0 : z_live nn 9 i) (hi2 : i2 = 0) (kk : zG w f d cr n lv stk (nn, u3 Nl 9 i 5 false, M, O) r σ') : zG w f d cr pc lv (vR 7 i2 :: vR 9 i :: stk) (nn, Nl, M, O) r σ' :=
  g_putF (j := 5) (o := some 0) hd hn rfl z_in9 (by decide) (by rw [ho]; exact lk_X9_45) tyX9_ok nmX9 rfl hi9 (by rw [ho]; rfl) (tyX9_ok 5 (by decide)) (fun _ => ⟨rfl, rfl⟩) rfl hi2 (by decide) hl0 kk
theorem lk_X9_52 : Cond.fieldLink RX9 52 (TX9 6).1 (TX9 6).2.1 (TX9 6).2.2.1 ∈ zUW := z_in 265 (by decide +kernel) rfl
theorem gf_X9_52 {w : zWp} {f : zMth} {d cr pc n : Nat} {lv stk : List zAV} {r : zRes} {σ' : zSt} {nn : Nat} {Nl : Nat → Nat → Nat → Bool} {M : Nat → Nat → Nat → Int32} {O : Nat → Int64} {i : Nat} (hd : decode f.2.1 pc = .ok (.getfield 52, 3)) (hn : pc + 3 = n) (ho : f.1.cls = RX9) (hl0 : z_live nn 9 i) (hnl : Nl 9 i 6 = false) (kk : zG w f d cr n lv (vR 2 0 :: stk) (nn, Nl, M, O) r σ') : zG w f d cr pc lv (vR 9 i :: stk) (nn, Nl, M, O) r σ' :=
  g_get (j := 6) (fs := some (2, some 0)) hd hn rfl z_in9 (by decide) (by rw [ho]; exact lk_X9_52) rfl (by decide) hl0 (by rw [hnl]; rfl) kk
theorem gw_X9_52 {w : zWp} {f : zMth} {d cr pc n : Nat} {lv stk : List zAV} {r : zRes} {σ' : zSt} {nn : Nat} {Nl : Nat → Nat → Nat → Bool} {M : Nat → Nat → Nat → Int32} {O : Nat → Int64} {i i2 : Nat} (hd : decode f.2.1 pc = .ok (.putfield 52, 3)) (hn : pc + 3 = n) (ho : f.1.cls = RX9) (hi9 : f.1.name = "<init>") (hl0 : z_live nn 9 i) (hi2 : i2 = 0) (kk : zG w f d cr n lv stk (nn, u3 Nl 9 i 6 false, M, O) r σ') : zG w f d cr pc lv (vR 2 i2 :: vR 9 i :: stk) (nn, Nl, M, O) r σ' :=
  g_putF (j := 6) (o := some 0) hd hn rfl z_in9 (by decide) (by rw [ho]; exact lk_X9_52) tyX9_ok nmX9 rfl hi9 (by rw [ho]; rfl) (tyX9_ok 6 (by decide)) (fun _ => ⟨rfl, rfl⟩) rfl hi2 (by decide) hl0 kk
theorem lk_X9_67 : (RX9, 67, (TX3 0).1, (TX3 0).2.1, (TX3 0).2.2.1, "LoafExits") ∈ z_nF := by decide +kernel
theorem gf_X9_67 {w : zWp} {f : zMth} {d cr pc n : Nat} {lv stk : List zAV} {r : zRes} {σ' : zSt} {nn : Nat} {Nl : Nat → Nat → Nat → Bool} {M : Nat → Nat → Nat → Int32} {O : Nat → Int64} {i : Nat} (hd : decode f.2.1 pc = .ok (.getfield 67, 3)) (hn : pc + 3 = n) (ho : f.1.cls = RX9) (hl0 : z_live nn 3 i) (hnl : Nl 3 i 0 = false) (kk : zG w f d cr n lv (vR 6 i :: stk) (nn, Nl, M, O) r σ') : zG w f d cr pc lv (vR 3 i :: stk) (nn, Nl, M, O) r σ' :=
  g_getN (j := 0) (fs := some (6, none)) hd hn rfl z_in3 (by decide) (by rw [ho]; exact lk_X9_67) rfl (by decide) hl0 (by rw [hnl]; rfl) kk
theorem lk_X9_83 : (RX9, 83, (TX3 1).1, (TX3 1).2.1, (TX3 1).2.2.1, "LoafExits") ∈ z_nF := by decide +kernel
theorem gf_X9_83 {w : zWp} {f : zMth} {d cr pc n : Nat} {lv stk : List zAV} {r : zRes} {σ' : zSt} {nn : Nat} {Nl : Nat → Nat → Nat → Bool} {M : Nat → Nat → Nat → Int32} {O : Nat → Int64} {i : Nat} (hd : decode f.2.1 pc = .ok (.getfield 83, 3)) (hn : pc + 3 = n) (ho : f.1.cls = RX9) (hl0 : z_live nn 3 i) (hnl : Nl 3 i 1 = false) (kk : zG w f d cr n lv (vR 1 i :: stk) (nn, Nl, M, O) r σ') : zG w f d cr pc lv (vR 3 i :: stk) (nn, Nl, M, O) r σ' :=
  g_getN (j := 1) (fs := some (1, none)) hd hn rfl z_in3 (by decide) (by rw [ho]; exact lk_X9_83) rfl (by decide) hl0 (by rw [hnl]; rfl) kk
theorem lk_X9_120 : (RX9, 120, (TX3 2).1, (TX3 2).2.1, (TX3 2).2.2.1, "LoafExits") ∈ z_nF := by decide +kernel
theorem gf_X9_120 {w : zWp} {f : zMth} {d cr pc n : Nat} {lv stk : List zAV} {r : zRes} {σ' : zSt} {nn : Nat} {Nl : Nat → Nat → Nat → Bool} {M : Nat → Nat → Nat → Int32} {O : Nat → Int64} {i : Nat} (hd : decode f.2.1 pc = .ok (.getfield 120, 3)) (hn : pc + 3 = n) (ho : f.1.cls = RX9) (hl0 : z_live nn 3 i) (hnl : Nl 3 i 2 = false) (kk : zG w f d cr n lv (vR 5 i :: stk) (nn, Nl, M, O) r σ') : zG w f d cr pc lv (vR 3 i :: stk) (nn, Nl, M, O) r σ' :=
  g_getN (j := 2) (fs := some (5, none)) hd hn rfl z_in3 (by decide) (by rw [ho]; exact lk_X9_120) rfl (by decide) hl0 (by rw [hnl]; rfl) kk
theorem lk_X9_140 : (RX9, 140, (TX3 5).1, (TX3 5).2.1, (TX3 5).2.2.1, "LoafExits") ∈ z_nF := by decide +kernel
theorem gf_X9_140 {w : zWp} {f : zMth} {d cr pc n : Nat} {lv stk : List zAV} {r : zRes} {σ' : zSt} {nn : Nat} {Nl : Nat → Nat → Nat → Bool} {M : Nat → Nat → Nat → Int32} {O : Nat → Int64} {i : Nat} (hd : decode f.2.1 pc = .ok (.getfield 140, 3)) (hn : pc + 3 = n) (ho : f.1.cls = RX9) (hl0 : z_live nn 3 i) (kk : zG w f d cr n lv (vI (M 3 i 5) :: stk) (nn, Nl, M, O) r σ') : zG w f d cr pc lv (vR 3 i :: stk) (nn, Nl, M, O) r σ' :=
  g_getN (j := 5) (fs := none) hd hn rfl z_in3 (by decide) (by rw [ho]; exact lk_X9_140) rfl (by decide) hl0 rfl kk
theorem lk_X9_246 : (RX9, 246, (TX0 4).1, (TX0 4).2.1, (TX0 4).2.2.1, "LoafExits") ∈ z_nF := by decide +kernel
theorem gf_X9_246 {w : zWp} {f : zMth} {d cr pc n : Nat} {lv stk : List zAV} {r : zRes} {σ' : zSt} {nn : Nat} {Nl : Nat → Nat → Nat → Bool} {M : Nat → Nat → Nat → Int32} {O : Nat → Int64} {i : Nat} (hd : decode f.2.1 pc = .ok (.getfield 246, 3)) (hn : pc + 3 = n) (ho : f.1.cls = RX9) (hl0 : z_live nn 0 i) (kk : zG w f d cr n lv (vI (M 0 i 4) :: stk) (nn, Nl, M, O) r σ') : zG w f d cr pc lv (vR 0 i :: stk) (nn, Nl, M, O) r σ' :=
  g_getN (j := 4) (fs := none) hd hn rfl z_in0 (by decide) (by rw [ho]; exact lk_X9_246) rfl (by decide) hl0 rfl kk
theorem lk_X9_249 : (RX9, 249, (TX0 5).1, (TX0 5).2.1, (TX0 5).2.2.1, "LoafExits") ∈ z_nF := by decide +kernel
theorem gf_X9_249 {w : zWp} {f : zMth} {d cr pc n : Nat} {lv stk : List zAV} {r : zRes} {σ' : zSt} {nn : Nat} {Nl : Nat → Nat → Nat → Bool} {M : Nat → Nat → Nat → Int32} {O : Nat → Int64} {i : Nat} (hd : decode f.2.1 pc = .ok (.getfield 249, 3)) (hn : pc + 3 = n) (ho : f.1.cls = RX9) (hl0 : z_live nn 0 i) (kk : zG w f d cr n lv (vI (M 0 i 5) :: stk) (nn, Nl, M, O) r σ') : zG w f d cr pc lv (vR 0 i :: stk) (nn, Nl, M, O) r σ' :=
  g_getN (j := 5) (fs := none) hd hn rfl z_in0 (by decide) (by rw [ho]; exact lk_X9_249) rfl (by decide) hl0 rfl kk
theorem lk_X9_251 : (RX9, 251, (TX0 3).1, (TX0 3).2.1, (TX0 3).2.2.1, "LoafExits") ∈ z_nF := by decide +kernel
theorem gf_X9_251 {w : zWp} {f : zMth} {d cr pc n : Nat} {lv stk : List zAV} {r : zRes} {σ' : zSt} {nn : Nat} {Nl : Nat → Nat → Nat → Bool} {M : Nat → Nat → Nat → Int32} {O : Nat → Int64} {i : Nat} (hd : decode f.2.1 pc = .ok (.getfield 251, 3)) (hn : pc + 3 = n) (ho : f.1.cls = RX9) (hl0 : z_live nn 0 i) (kk : zG w f d cr n lv (vI (M 0 i 3) :: stk) (nn, Nl, M, O) r σ') : zG w f d cr pc lv (vR 0 i :: stk) (nn, Nl, M, O) r σ' :=
  g_getN (j := 3) (fs := none) hd hn rfl z_in0 (by decide) (by rw [ho]; exact lk_X9_251) rfl (by decide) hl0 rfl kk
theorem lk_X9_254 : (RX9, 254, (TX0 2).1, (TX0 2).2.1, (TX0 2).2.2.1, "LoafExits") ∈ z_nF := by decide +kernel
theorem gf_X9_254 {w : zWp} {f : zMth} {d cr pc n : Nat} {lv stk : List zAV} {r : zRes} {σ' : zSt} {nn : Nat} {Nl : Nat → Nat → Nat → Bool} {M : Nat → Nat → Nat → Int32} {O : Nat → Int64} {i : Nat} (hd : decode f.2.1 pc = .ok (.getfield 254, 3)) (hn : pc + 3 = n) (ho : f.1.cls = RX9) (hl0 : z_live nn 0 i) (kk : zG w f d cr n lv (vI (M 0 i 2) :: stk) (nn, Nl, M, O) r σ') : zG w f d cr pc lv (vR 0 i :: stk) (nn, Nl, M, O) r σ' :=
  g_getN (j := 2) (fs := none) hd hn rfl z_in0 (by decide) (by rw [ho]; exact lk_X9_254) rfl (by decide) hl0 rfl kk
theorem lk_X9_277 : (RX9, 277, (TX3 6).1, (TX3 6).2.1, (TX3 6).2.2.1, "LoafExits") ∈ z_nF := by decide +kernel
theorem gf_X9_277 {w : zWp} {f : zMth} {d cr pc n : Nat} {lv stk : List zAV} {r : zRes} {σ' : zSt} {nn : Nat} {Nl : Nat → Nat → Nat → Bool} {M : Nat → Nat → Nat → Int32} {O : Nat → Int64} {i : Nat} (hd : decode f.2.1 pc = .ok (.getfield 277, 3)) (hn : pc + 3 = n) (ho : f.1.cls = RX9) (hl0 : z_live nn 3 i) (kk : zG w f d cr n lv (vI (M 3 i 6) :: stk) (nn, Nl, M, O) r σ') : zG w f d cr pc lv (vR 3 i :: stk) (nn, Nl, M, O) r σ' :=
  g_getN (j := 6) (fs := none) hd hn rfl z_in3 (by decide) (by rw [ho]; exact lk_X9_277) rfl (by decide) hl0 rfl kk
theorem lk_X9_280 : (RX9, 280, (TX3 7).1, (TX3 7).2.1, (TX3 7).2.2.1, "LoafExits") ∈ z_nF := by decide +kernel
theorem gf_X9_280 {w : zWp} {f : zMth} {d cr pc n : Nat} {lv stk : List zAV} {r : zRes} {σ' : zSt} {nn : Nat} {Nl : Nat → Nat → Nat → Bool} {M : Nat → Nat → Nat → Int32} {O : Nat → Int64} {i : Nat} (hd : decode f.2.1 pc = .ok (.getfield 280, 3)) (hn : pc + 3 = n) (ho : f.1.cls = RX9) (hl0 : z_live nn 3 i) (kk : zG w f d cr n lv (vI (M 3 i 7) :: stk) (nn, Nl, M, O) r σ') : zG w f d cr pc lv (vR 3 i :: stk) (nn, Nl, M, O) r σ' :=
  g_getN (j := 7) (fs := none) hd hn rfl z_in3 (by decide) (by rw [ho]; exact lk_X9_280) rfl (by decide) hl0 rfl kk
theorem lk_X0_9 : Cond.fieldLink RX0 9 (TX0 0).1 (TX0 0).2.1 (TX0 0).2.2.1 ∈ zUW := z_in 166 (by decide +kernel) rfl
theorem gf_X0_9 {w : zWp} {f : zMth} {d cr pc n : Nat} {lv stk : List zAV} {r : zRes} {σ' : zSt} {nn : Nat} {Nl : Nat → Nat → Nat → Bool} {M : Nat → Nat → Nat → Int32} {O : Nat → Int64} {i : Nat} (hd : decode f.2.1 pc = .ok (.getfield 9, 3)) (hn : pc + 3 = n) (ho : f.1.cls = RX0) (hl0 : z_live nn 0 i) (hnl : Nl 0 i 0 = false) (kk : zG w f d cr n lv (vR 11 0 :: stk) (nn, Nl, M, O) r σ') : zG w f d cr pc lv (vR 0 i :: stk) (nn, Nl, M, O) r σ' :=
  g_get (j := 0) (fs := some (11, some 0)) hd hn rfl z_in0 (by decide) (by rw [ho]; exact lk_X0_9) rfl (by decide) hl0 (by rw [hnl]; rfl) kk
theorem gw_X0_9 {w : zWp} {f : zMth} {d cr pc n : Nat} {lv stk : List zAV} {r : zRes} {σ' : zSt} {nn : Nat} {Nl : Nat → Nat → Nat → Bool} {M : Nat → Nat → Nat → Int32} {O : Nat → Int64} {i i2 : Nat} (hd : decode f.2.1 pc = .ok (.putfield 9, 3)) (hn : pc + 3 = n) (ho : f.1.cls = RX0) (hi9 : f.1.name = "<init>") (hl0 : z_live nn 0 i) (hi2 : i2 = 0) (kk : zG w f d cr n lv stk (nn, u3 Nl 0 i 0 false, M, O) r σ') : zG w f d cr pc lv (vR 11 i2 :: vR 0 i :: stk) (nn, Nl, M, O) r σ' :=
  g_putF (j := 0) (o := some 0) hd hn rfl z_in0 (by decide) (by rw [ho]; exact lk_X0_9) tyX0_ok nmX0 rfl hi9 (by rw [ho]; rfl) (tyX0_ok 0 (by decide)) (fun _ => ⟨rfl, rfl⟩) rfl hi2 (by decide) hl0 kk
theorem lk_X0_15 : Cond.fieldLink RX0 15 (TX0 1).1 (TX0 1).2.1 (TX0 1).2.2.1 ∈ zUW := z_in 167 (by decide +kernel) rfl
theorem gf_X0_15 {w : zWp} {f : zMth} {d cr pc n : Nat} {lv stk : List zAV} {r : zRes} {σ' : zSt} {nn : Nat} {Nl : Nat → Nat → Nat → Bool} {M : Nat → Nat → Nat → Int32} {O : Nat → Int64} {i : Nat} (hd : decode f.2.1 pc = .ok (.getfield 15, 3)) (hn : pc + 3 = n) (ho : f.1.cls = RX0) (hl0 : z_live nn 0 i) (hnl : Nl 0 i 1 = false) (kk : zG w f d cr n lv (vR 12 0 :: stk) (nn, Nl, M, O) r σ') : zG w f d cr pc lv (vR 0 i :: stk) (nn, Nl, M, O) r σ' :=
  g_get (j := 1) (fs := some (12, some 0)) hd hn rfl z_in0 (by decide) (by rw [ho]; exact lk_X0_15) rfl (by decide) hl0 (by rw [hnl]; rfl) kk
theorem gw_X0_15 {w : zWp} {f : zMth} {d cr pc n : Nat} {lv stk : List zAV} {r : zRes} {σ' : zSt} {nn : Nat} {Nl : Nat → Nat → Nat → Bool} {M : Nat → Nat → Nat → Int32} {O : Nat → Int64} {i i2 : Nat} (hd : decode f.2.1 pc = .ok (.putfield 15, 3)) (hn : pc + 3 = n) (ho : f.1.cls = RX0) (hi9 : f.1.name = "<init>") (hl0 : z_live nn 0 i) (hi2 : i2 = 0) (kk : zG w f d cr n lv stk (nn, u3 Nl 0 i 1 false, M, O) r σ') : zG w f d cr pc lv (vR 12 i2 :: vR 0 i :: stk) (nn, Nl, M, O) r σ' :=
  g_putF (j := 1) (o := some 0) hd hn rfl z_in0 (by decide) (by rw [ho]; exact lk_X0_15) tyX0_ok nmX0 rfl hi9 (by rw [ho]; rfl) (tyX0_ok 1 (by decide)) (fun _ => ⟨rfl, rfl⟩) rfl hi2 (by decide) hl0 kk
theorem lk_X0_27 : (RX0, 27, (TX3 2).1, (TX3 2).2.1, (TX3 2).2.2.1, "LoafExits") ∈ z_nF := by decide +kernel
theorem gf_X0_27 {w : zWp} {f : zMth} {d cr pc n : Nat} {lv stk : List zAV} {r : zRes} {σ' : zSt} {nn : Nat} {Nl : Nat → Nat → Nat → Bool} {M : Nat → Nat → Nat → Int32} {O : Nat → Int64} {i : Nat} (hd : decode f.2.1 pc = .ok (.getfield 27, 3)) (hn : pc + 3 = n) (ho : f.1.cls = RX0) (hl0 : z_live nn 3 i) (hnl : Nl 3 i 2 = false) (kk : zG w f d cr n lv (vR 5 i :: stk) (nn, Nl, M, O) r σ') : zG w f d cr pc lv (vR 3 i :: stk) (nn, Nl, M, O) r σ' :=
  g_getN (j := 2) (fs := some (5, none)) hd hn rfl z_in3 (by decide) (by rw [ho]; exact lk_X0_27) rfl (by decide) hl0 (by rw [hnl]; rfl) kk
theorem lk_X0_31 : (RX0, 31, (TX3 1).1, (TX3 1).2.1, (TX3 1).2.2.1, "LoafExits") ∈ z_nF := by decide +kernel
theorem gf_X0_31 {w : zWp} {f : zMth} {d cr pc n : Nat} {lv stk : List zAV} {r : zRes} {σ' : zSt} {nn : Nat} {Nl : Nat → Nat → Nat → Bool} {M : Nat → Nat → Nat → Int32} {O : Nat → Int64} {i : Nat} (hd : decode f.2.1 pc = .ok (.getfield 31, 3)) (hn : pc + 3 = n) (ho : f.1.cls = RX0) (hl0 : z_live nn 3 i) (hnl : Nl 3 i 1 = false) (kk : zG w f d cr n lv (vR 1 i :: stk) (nn, Nl, M, O) r σ') : zG w f d cr pc lv (vR 3 i :: stk) (nn, Nl, M, O) r σ' :=
  g_getN (j := 1) (fs := some (1, none)) hd hn rfl z_in3 (by decide) (by rw [ho]; exact lk_X0_31) rfl (by decide) hl0 (by rw [hnl]; rfl) kk
theorem lk_X0_46 : (RX0, 46, (TX3 0).1, (TX3 0).2.1, (TX3 0).2.2.1, "LoafExits") ∈ z_nF := by decide +kernel
theorem gf_X0_46 {w : zWp} {f : zMth} {d cr pc n : Nat} {lv stk : List zAV} {r : zRes} {σ' : zSt} {nn : Nat} {Nl : Nat → Nat → Nat → Bool} {M : Nat → Nat → Nat → Int32} {O : Nat → Int64} {i : Nat} (hd : decode f.2.1 pc = .ok (.getfield 46, 3)) (hn : pc + 3 = n) (ho : f.1.cls = RX0) (hl0 : z_live nn 3 i) (hnl : Nl 3 i 0 = false) (kk : zG w f d cr n lv (vR 6 i :: stk) (nn, Nl, M, O) r σ') : zG w f d cr pc lv (vR 3 i :: stk) (nn, Nl, M, O) r σ' :=
  g_getN (j := 0) (fs := some (6, none)) hd hn rfl z_in3 (by decide) (by rw [ho]; exact lk_X0_46) rfl (by decide) hl0 (by rw [hnl]; rfl) kk
theorem lk_X0_70 : Cond.fieldLink RX0 70 (TX0 3).1 (TX0 3).2.1 (TX0 3).2.2.1 ∈ zUW := z_in 170 (by decide +kernel) rfl
theorem gf_X0_70 {w : zWp} {f : zMth} {d cr pc n : Nat} {lv stk : List zAV} {r : zRes} {σ' : zSt} {nn : Nat} {Nl : Nat → Nat → Nat → Bool} {M : Nat → Nat → Nat → Int32} {O : Nat → Int64} {i : Nat} (hd : decode f.2.1 pc = .ok (.getfield 70, 3)) (hn : pc + 3 = n) (ho : f.1.cls = RX0) (hl0 : z_live nn 0 i) (kk : zG w f d cr n lv (vI (M 0 i 3) :: stk) (nn, Nl, M, O) r σ') : zG w f d cr pc lv (vR 0 i :: stk) (nn, Nl, M, O) r σ' :=
  g_get (j := 3) (fs := none) hd hn rfl z_in0 (by decide) (by rw [ho]; exact lk_X0_70) rfl (by decide) hl0 rfl kk
theorem gw_X0_70 {w : zWp} {f : zMth} {d cr pc n : Nat} {lv stk : List zAV} {r : zRes} {σ' : zSt} {nn : Nat} {Nl : Nat → Nat → Nat → Bool} {M : Nat → Nat → Nat → Int32} {O : Nat → Int64} {i : Nat} {x : Int32} (hd : decode f.2.1 pc = .ok (.putfield 70, 3)) (hn : pc + 3 = n) (ho : f.1.cls = RX0) (hl0 : z_live nn 0 i) (kk : zG w f d cr n lv stk (nn, Nl, u3 M 0 i 3 x, O) r σ') : zG w f d cr pc lv (vI x :: vR 0 i :: stk) (nn, Nl, M, O) r σ' :=
  g_put (j := 3) hd hn rfl z_in0 (by decide) (by rw [ho]; exact lk_X0_70) tyX0_ok nmX0 rfl (tyX0_ok 3 (by decide)) rfl (by decide) hl0 kk
theorem lk_X0_77 : Cond.fieldLink RX0 77 (TX0 4).1 (TX0 4).2.1 (TX0 4).2.2.1 ∈ zUW := z_in 172 (by decide +kernel) rfl
theorem gf_X0_77 {w : zWp} {f : zMth} {d cr pc n : Nat} {lv stk : List zAV} {r : zRes} {σ' : zSt} {nn : Nat} {Nl : Nat → Nat → Nat → Bool} {M : Nat → Nat → Nat → Int32} {O : Nat → Int64} {i : Nat} (hd : decode f.2.1 pc = .ok (.getfield 77, 3)) (hn : pc + 3 = n) (ho : f.1.cls = RX0) (hl0 : z_live nn 0 i) (kk : zG w f d cr n lv (vI (M 0 i 4) :: stk) (nn, Nl, M, O) r σ') : zG w f d cr pc lv (vR 0 i :: stk) (nn, Nl, M, O) r σ' :=
  g_get (j := 4) (fs := none) hd hn rfl z_in0 (by decide) (by rw [ho]; exact lk_X0_77) rfl (by decide) hl0 rfl kk
theorem gw_X0_77 {w : zWp} {f : zMth} {d cr pc n : Nat} {lv stk : List zAV} {r : zRes} {σ' : zSt} {nn : Nat} {Nl : Nat → Nat → Nat → Bool} {M : Nat → Nat → Nat → Int32} {O : Nat → Int64} {i : Nat} {x : Int32} (hd : decode f.2.1 pc = .ok (.putfield 77, 3)) (hn : pc + 3 = n) (ho : f.1.cls = RX0) (hl0 : z_live nn 0 i) (kk : zG w f d cr n lv stk (nn, Nl, u3 M 0 i 4 x, O) r σ') : zG w f d cr pc lv (vI x :: vR 0 i :: stk) (nn, Nl, M, O) r σ' :=
  g_put (j := 4) hd hn rfl z_in0 (by decide) (by rw [ho]; exact lk_X0_77) tyX0_ok nmX0 rfl (tyX0_ok 4 (by decide)) rfl (by decide) hl0 kk
theorem lk_X0_80 : Cond.fieldLink RX0 80 (TX0 5).1 (TX0 5).2.1 (TX0 5).2.2.1 ∈ zUW := z_in 174 (by decide +kernel) rfl
theorem gw_X0_80 {w : zWp} {f : zMth} {d cr pc n : Nat} {lv stk : List zAV} {r : zRes} {σ' : zSt} {nn : Nat} {Nl : Nat → Nat → Nat → Bool} {M : Nat → Nat → Nat → Int32} {O : Nat → Int64} {i : Nat} {x : Int32} (hd : decode f.2.1 pc = .ok (.putfield 80, 3)) (hn : pc + 3 = n) (ho : f.1.cls = RX0) (hl0 : z_live nn 0 i) (kk : zG w f d cr n lv stk (nn, Nl, u3 M 0 i 5 x, O) r σ') : zG w f d cr pc lv (vI x :: vR 0 i :: stk) (nn, Nl, M, O) r σ' :=
  g_put (j := 5) hd hn rfl z_in0 (by decide) (by rw [ho]; exact lk_X0_80) tyX0_ok nmX0 rfl (tyX0_ok 5 (by decide)) rfl (by decide) hl0 kk
theorem lk_X0_83 : Cond.fieldLink RX0 83 (TX0 6).1 (TX0 6).2.1 (TX0 6).2.2.1 ∈ zUW := z_in 176 (by decide +kernel) rfl
theorem gf_X0_83 {w : zWp} {f : zMth} {d cr pc n : Nat} {lv stk : List zAV} {r : zRes} {σ' : zSt} {nn : Nat} {Nl : Nat → Nat → Nat → Bool} {M : Nat → Nat → Nat → Int32} {O : Nat → Int64} {i : Nat} (hd : decode f.2.1 pc = .ok (.getfield 83, 3)) (hn : pc + 3 = n) (ho : f.1.cls = RX0) (hl0 : z_live nn 0 i) (kk : zG w f d cr n lv (vI (M 0 i 6) :: stk) (nn, Nl, M, O) r σ') : zG w f d cr pc lv (vR 0 i :: stk) (nn, Nl, M, O) r σ' :=
  g_get (j := 6) (fs := none) hd hn rfl z_in0 (by decide) (by rw [ho]; exact lk_X0_83) rfl (by decide) hl0 rfl kk
theorem gw_X0_83 {w : zWp} {f : zMth} {d cr pc n : Nat} {lv stk : List zAV} {r : zRes} {σ' : zSt} {nn : Nat} {Nl : Nat → Nat → Nat → Bool} {M : Nat → Nat → Nat → Int32} {O : Nat → Int64} {i : Nat} {x : Int32} (hd : decode f.2.1 pc = .ok (.putfield 83, 3)) (hn : pc + 3 = n) (ho : f.1.cls = RX0) (hl0 : z_live nn 0 i) (kk : zG w f d cr n lv stk (nn, Nl, u3 M 0 i 6 x, O) r σ') : zG w f d cr pc lv (vI x :: vR 0 i :: stk) (nn, Nl, M, O) r σ' :=
  g_put (j := 6) hd hn rfl z_in0 (by decide) (by rw [ho]; exact lk_X0_83) tyX0_ok nmX0 rfl (tyX0_ok 6 (by decide)) rfl (by decide) hl0 kk
theorem lk_X0_86 : Cond.fieldLink RX0 86 (TX0 7).1 (TX0 7).2.1 (TX0 7).2.2.1 ∈ zUW := z_in 177 (by decide +kernel) rfl
theorem gf_X0_86 {w : zWp} {f : zMth} {d cr pc n : Nat} {lv stk : List zAV} {r : zRes} {σ' : zSt} {nn : Nat} {Nl : Nat → Nat → Nat → Bool} {M : Nat → Nat → Nat → Int32} {O : Nat → Int64} {i : Nat} (hd : decode f.2.1 pc = .ok (.getfield 86, 3)) (hn : pc + 3 = n) (ho : f.1.cls = RX0) (hl0 : z_live nn 0 i) (kk : zG w f d cr n lv (vI (M 0 i 7) :: stk) (nn, Nl, M, O) r σ') : zG w f d cr pc lv (vR 0 i :: stk) (nn, Nl, M, O) r σ' :=
  g_get (j := 7) (fs := none) hd hn rfl z_in0 (by decide) (by rw [ho]; exact lk_X0_86) rfl (by decide) hl0 rfl kk
theorem gw_X0_86 {w : zWp} {f : zMth} {d cr pc n : Nat} {lv stk : List zAV} {r : zRes} {σ' : zSt} {nn : Nat} {Nl : Nat → Nat → Nat → Bool} {M : Nat → Nat → Nat → Int32} {O : Nat → Int64} {i : Nat} {x : Int32} (hd : decode f.2.1 pc = .ok (.putfield 86, 3)) (hn : pc + 3 = n) (ho : f.1.cls = RX0) (hl0 : z_live nn 0 i) (kk : zG w f d cr n lv stk (nn, Nl, u3 M 0 i 7 x, O) r σ') : zG w f d cr pc lv (vI x :: vR 0 i :: stk) (nn, Nl, M, O) r σ' :=
  g_put (j := 7) hd hn rfl z_in0 (by decide) (by rw [ho]; exact lk_X0_86) tyX0_ok nmX0 rfl (tyX0_ok 7 (by decide)) rfl (by decide) hl0 kk
theorem lk_X0_89 : Cond.fieldLink RX0 89 (TX0 2).1 (TX0 2).2.1 (TX0 2).2.2.1 ∈ zUW := z_in 168 (by decide +kernel) rfl
theorem gf_X0_89 {w : zWp} {f : zMth} {d cr pc n : Nat} {lv stk : List zAV} {r : zRes} {σ' : zSt} {nn : Nat} {Nl : Nat → Nat → Nat → Bool} {M : Nat → Nat → Nat → Int32} {O : Nat → Int64} {i : Nat} (hd : decode f.2.1 pc = .ok (.getfield 89, 3)) (hn : pc + 3 = n) (ho : f.1.cls = RX0) (hl0 : z_live nn 0 i) (kk : zG w f d cr n lv (vI (M 0 i 2) :: stk) (nn, Nl, M, O) r σ') : zG w f d cr pc lv (vR 0 i :: stk) (nn, Nl, M, O) r σ' :=
  g_get (j := 2) (fs := none) hd hn rfl z_in0 (by decide) (by rw [ho]; exact lk_X0_89) rfl (by decide) hl0 rfl kk
theorem gw_X0_89 {w : zWp} {f : zMth} {d cr pc n : Nat} {lv stk : List zAV} {r : zRes} {σ' : zSt} {nn : Nat} {Nl : Nat → Nat → Nat → Bool} {M : Nat → Nat → Nat → Int32} {O : Nat → Int64} {i : Nat} {x : Int32} (hd : decode f.2.1 pc = .ok (.putfield 89, 3)) (hn : pc + 3 = n) (ho : f.1.cls = RX0) (hl0 : z_live nn 0 i) (kk : zG w f d cr n lv stk (nn, Nl, u3 M 0 i 2 x, O) r σ') : zG w f d cr pc lv (vI x :: vR 0 i :: stk) (nn, Nl, M, O) r σ' :=
  g_put (j := 2) hd hn rfl z_in0 (by decide) (by rw [ho]; exact lk_X0_89) tyX0_ok nmX0 rfl (tyX0_ok 2 (by decide)) rfl (by decide) hl0 kk
theorem lk_X1_9 : Cond.fieldLink RX1 9 (TX1 0).1 (TX1 0).2.1 (TX1 0).2.2.1 ∈ zUW := z_in 85 (by decide +kernel) rfl
theorem gf_X1_9 {w : zWp} {f : zMth} {d cr pc n : Nat} {lv stk : List zAV} {r : zRes} {σ' : zSt} {nn : Nat} {Nl : Nat → Nat → Nat → Bool} {M : Nat → Nat → Nat → Int32} {O : Nat → Int64} {i : Nat} (hd : decode f.2.1 pc = .ok (.getfield 9, 3)) (hn : pc + 3 = n) (ho : f.1.cls = RX1) (hl0 : z_live nn 1 i) (hnl : Nl 1 i 0 = false) (kk : zG w f d cr n lv (vR 13 i :: stk) (nn, Nl, M, O) r σ') : zG w f d cr pc lv (vR 1 i :: stk) (nn, Nl, M, O) r σ' :=
  g_get (j := 0) (fs := some (13, none)) hd hn rfl z_in1 (by decide) (by rw [ho]; exact lk_X1_9) rfl (by decide) hl0 (by rw [hnl]; rfl) kk
theorem gw_X1_9 {w : zWp} {f : zMth} {d cr pc n : Nat} {lv stk : List zAV} {r : zRes} {σ' : zSt} {nn : Nat} {Nl : Nat → Nat → Nat → Bool} {M : Nat → Nat → Nat → Int32} {O : Nat → Int64} {i i2 : Nat} (hd : decode f.2.1 pc = .ok (.putfield 9, 3)) (hn : pc + 3 = n) (ho : f.1.cls = RX1) (hi9 : f.1.name = "<init>") (hl0 : z_live nn 1 i) (hi2 : i2 = i) (kk : zG w f d cr n lv stk (nn, u3 Nl 1 i 0 false, M, O) r σ') : zG w f d cr pc lv (vR 13 i2 :: vR 1 i :: stk) (nn, Nl, M, O) r σ' :=
  g_putF (j := 0) (o := none) hd hn rfl z_in1 (by decide) (by rw [ho]; exact lk_X1_9) tyX1_ok nmX1 rfl hi9 (by rw [ho]; rfl) (tyX1_ok 0 (by decide)) (fun _ => ⟨rfl, rfl⟩) rfl hi2 (by decide) hl0 kk
theorem lk_X1_15 : Cond.fieldLink RX1 15 (TX1 1).1 (TX1 1).2.1 (TX1 1).2.2.1 ∈ zUW := z_in 86 (by decide +kernel) rfl
theorem gf_X1_15 {w : zWp} {f : zMth} {d cr pc n : Nat} {lv stk : List zAV} {r : zRes} {σ' : zSt} {nn : Nat} {Nl : Nat → Nat → Nat → Bool} {M : Nat → Nat → Nat → Int32} {O : Nat → Int64} {i : Nat} (hd : decode f.2.1 pc = .ok (.getfield 15, 3)) (hn : pc + 3 = n) (ho : f.1.cls = RX1) (hl0 : z_live nn 1 i) (hnl : Nl 1 i 1 = false) (kk : zG w f d cr n lv (vR 14 i :: stk) (nn, Nl, M, O) r σ') : zG w f d cr pc lv (vR 1 i :: stk) (nn, Nl, M, O) r σ' :=
  g_get (j := 1) (fs := some (14, none)) hd hn rfl z_in1 (by decide) (by rw [ho]; exact lk_X1_15) rfl (by decide) hl0 (by rw [hnl]; rfl) kk
theorem gw_X1_15 {w : zWp} {f : zMth} {d cr pc n : Nat} {lv stk : List zAV} {r : zRes} {σ' : zSt} {nn : Nat} {Nl : Nat → Nat → Nat → Bool} {M : Nat → Nat → Nat → Int32} {O : Nat → Int64} {i i2 : Nat} (hd : decode f.2.1 pc = .ok (.putfield 15, 3)) (hn : pc + 3 = n) (ho : f.1.cls = RX1) (hi9 : f.1.name = "<init>") (hl0 : z_live nn 1 i) (hi2 : i2 = i) (kk : zG w f d cr n lv stk (nn, u3 Nl 1 i 1 false, M, O) r σ') : zG w f d cr pc lv (vR 14 i2 :: vR 1 i :: stk) (nn, Nl, M, O) r σ' :=
  g_putF (j := 1) (o := none) hd hn rfl z_in1 (by decide) (by rw [ho]; exact lk_X1_15) tyX1_ok nmX1 rfl hi9 (by rw [ho]; rfl) (tyX1_ok 1 (by decide)) (fun _ => ⟨rfl, rfl⟩) rfl hi2 (by decide) hl0 kk
theorem lk_X1_18 : Cond.fieldLink RX1 18 (TX1 2).1 (TX1 2).2.1 (TX1 2).2.2.1 ∈ zUW := z_in 87 (by decide +kernel) rfl
theorem gf_X1_18 {w : zWp} {f : zMth} {d cr pc n : Nat} {lv stk : List zAV} {r : zRes} {σ' : zSt} {nn : Nat} {Nl : Nat → Nat → Nat → Bool} {M : Nat → Nat → Nat → Int32} {O : Nat → Int64} {i : Nat} (hd : decode f.2.1 pc = .ok (.getfield 18, 3)) (hn : pc + 3 = n) (ho : f.1.cls = RX1) (hl0 : z_live nn 1 i) (hnl : Nl 1 i 2 = false) (kk : zG w f d cr n lv (vR 15 i :: stk) (nn, Nl, M, O) r σ') : zG w f d cr pc lv (vR 1 i :: stk) (nn, Nl, M, O) r σ' :=
  g_get (j := 2) (fs := some (15, none)) hd hn rfl z_in1 (by decide) (by rw [ho]; exact lk_X1_18) rfl (by decide) hl0 (by rw [hnl]; rfl) kk
theorem gw_X1_18 {w : zWp} {f : zMth} {d cr pc n : Nat} {lv stk : List zAV} {r : zRes} {σ' : zSt} {nn : Nat} {Nl : Nat → Nat → Nat → Bool} {M : Nat → Nat → Nat → Int32} {O : Nat → Int64} {i i2 : Nat} (hd : decode f.2.1 pc = .ok (.putfield 18, 3)) (hn : pc + 3 = n) (ho : f.1.cls = RX1) (hi9 : f.1.name = "<init>") (hl0 : z_live nn 1 i) (hi2 : i2 = i) (kk : zG w f d cr n lv stk (nn, u3 Nl 1 i 2 false, M, O) r σ') : zG w f d cr pc lv (vR 15 i2 :: vR 1 i :: stk) (nn, Nl, M, O) r σ' :=
  g_putF (j := 2) (o := none) hd hn rfl z_in1 (by decide) (by rw [ho]; exact lk_X1_18) tyX1_ok nmX1 rfl hi9 (by rw [ho]; rfl) (tyX1_ok 2 (by decide)) (fun _ => ⟨rfl, rfl⟩) rfl hi2 (by decide) hl0 kk
theorem lk_X1_21 : Cond.fieldLink RX1 21 (TX1 3).1 (TX1 3).2.1 (TX1 3).2.2.1 ∈ zUW := z_in 88 (by decide +kernel) rfl
theorem gf_X1_21 {w : zWp} {f : zMth} {d cr pc n : Nat} {lv stk : List zAV} {r : zRes} {σ' : zSt} {nn : Nat} {Nl : Nat → Nat → Nat → Bool} {M : Nat → Nat → Nat → Int32} {O : Nat → Int64} {i : Nat} (hd : decode f.2.1 pc = .ok (.getfield 21, 3)) (hn : pc + 3 = n) (ho : f.1.cls = RX1) (hl0 : z_live nn 1 i) (hnl : Nl 1 i 3 = false) (kk : zG w f d cr n lv (vR 16 i :: stk) (nn, Nl, M, O) r σ') : zG w f d cr pc lv (vR 1 i :: stk) (nn, Nl, M, O) r σ' :=
  g_get (j := 3) (fs := some (16, none)) hd hn rfl z_in1 (by decide) (by rw [ho]; exact lk_X1_21) rfl (by decide) hl0 (by rw [hnl]; rfl) kk
theorem gw_X1_21 {w : zWp} {f : zMth} {d cr pc n : Nat} {lv stk : List zAV} {r : zRes} {σ' : zSt} {nn : Nat} {Nl : Nat → Nat → Nat → Bool} {M : Nat → Nat → Nat → Int32} {O : Nat → Int64} {i i2 : Nat} (hd : decode f.2.1 pc = .ok (.putfield 21, 3)) (hn : pc + 3 = n) (ho : f.1.cls = RX1) (hi9 : f.1.name = "<init>") (hl0 : z_live nn 1 i) (hi2 : i2 = i) (kk : zG w f d cr n lv stk (nn, u3 Nl 1 i 3 false, M, O) r σ') : zG w f d cr pc lv (vR 16 i2 :: vR 1 i :: stk) (nn, Nl, M, O) r σ' :=
  g_putF (j := 3) (o := none) hd hn rfl z_in1 (by decide) (by rw [ho]; exact lk_X1_21) tyX1_ok nmX1 rfl hi9 (by rw [ho]; rfl) (tyX1_ok 3 (by decide)) (fun _ => ⟨rfl, rfl⟩) rfl hi2 (by decide) hl0 kk
theorem lk_X1_24 : Cond.fieldLink RX1 24 (TX1 4).1 (TX1 4).2.1 (TX1 4).2.2.1 ∈ zUW := z_in 89 (by decide +kernel) rfl
theorem gf_X1_24 {w : zWp} {f : zMth} {d cr pc n : Nat} {lv stk : List zAV} {r : zRes} {σ' : zSt} {nn : Nat} {Nl : Nat → Nat → Nat → Bool} {M : Nat → Nat → Nat → Int32} {O : Nat → Int64} {i : Nat} (hd : decode f.2.1 pc = .ok (.getfield 24, 3)) (hn : pc + 3 = n) (ho : f.1.cls = RX1) (hl0 : z_live nn 1 i) (hnl : Nl 1 i 4 = false) (kk : zG w f d cr n lv (vR 17 i :: stk) (nn, Nl, M, O) r σ') : zG w f d cr pc lv (vR 1 i :: stk) (nn, Nl, M, O) r σ' :=
  g_get (j := 4) (fs := some (17, none)) hd hn rfl z_in1 (by decide) (by rw [ho]; exact lk_X1_24) rfl (by decide) hl0 (by rw [hnl]; rfl) kk
theorem gw_X1_24 {w : zWp} {f : zMth} {d cr pc n : Nat} {lv stk : List zAV} {r : zRes} {σ' : zSt} {nn : Nat} {Nl : Nat → Nat → Nat → Bool} {M : Nat → Nat → Nat → Int32} {O : Nat → Int64} {i i2 : Nat} (hd : decode f.2.1 pc = .ok (.putfield 24, 3)) (hn : pc + 3 = n) (ho : f.1.cls = RX1) (hi9 : f.1.name = "<init>") (hl0 : z_live nn 1 i) (hi2 : i2 = i) (kk : zG w f d cr n lv stk (nn, u3 Nl 1 i 4 false, M, O) r σ') : zG w f d cr pc lv (vR 17 i2 :: vR 1 i :: stk) (nn, Nl, M, O) r σ' :=
  g_putF (j := 4) (o := none) hd hn rfl z_in1 (by decide) (by rw [ho]; exact lk_X1_24) tyX1_ok nmX1 rfl hi9 (by rw [ho]; rfl) (tyX1_ok 4 (by decide)) (fun _ => ⟨rfl, rfl⟩) rfl hi2 (by decide) hl0 kk
theorem lk_X1_31 : Cond.fieldLink RX1 31 (TX1 5).1 (TX1 5).2.1 (TX1 5).2.2.1 ∈ zUW := z_in 90 (by decide +kernel) rfl
theorem gf_X1_31 {w : zWp} {f : zMth} {d cr pc n : Nat} {lv stk : List zAV} {r : zRes} {σ' : zSt} {nn : Nat} {Nl : Nat → Nat → Nat → Bool} {M : Nat → Nat → Nat → Int32} {O : Nat → Int64} {i : Nat} (hd : decode f.2.1 pc = .ok (.getfield 31, 3)) (hn : pc + 3 = n) (ho : f.1.cls = RX1) (hl0 : z_live nn 1 i) (kk : zG w f d cr n lv (vI (M 1 i 5) :: stk) (nn, Nl, M, O) r σ') : zG w f d cr pc lv (vR 1 i :: stk) (nn, Nl, M, O) r σ' :=
  g_get (j := 5) (fs := none) hd hn rfl z_in1 (by decide) (by rw [ho]; exact lk_X1_31) rfl (by decide) hl0 rfl kk
theorem gw_X1_31 {w : zWp} {f : zMth} {d cr pc n : Nat} {lv stk : List zAV} {r : zRes} {σ' : zSt} {nn : Nat} {Nl : Nat → Nat → Nat → Bool} {M : Nat → Nat → Nat → Int32} {O : Nat → Int64} {i : Nat} {x : Int32} (hd : decode f.2.1 pc = .ok (.putfield 31, 3)) (hn : pc + 3 = n) (ho : f.1.cls = RX1) (hl0 : z_live nn 1 i) (kk : zG w f d cr n lv stk (nn, Nl, u3 M 1 i 5 x, O) r σ') : zG w f d cr pc lv (vI x :: vR 1 i :: stk) (nn, Nl, M, O) r σ' :=
  g_put (j := 5) hd hn rfl z_in1 (by decide) (by rw [ho]; exact lk_X1_31) tyX1_ok nmX1 rfl (tyX1_ok 5 (by decide)) rfl (by decide) hl0 kk
theorem lk_X2_14 : Cond.fieldLink RX2 14 (TX2 0).1 (TX2 0).2.1 (TX2 0).2.2.1 ∈ zUW := z_in 249 (by decide +kernel) rfl
theorem gf_X2_14 {w : zWp} {f : zMth} {d cr pc n : Nat} {lv stk : List zAV} {r : zRes} {σ' : zSt} {nn : Nat} {Nl : Nat → Nat → Nat → Bool} {M : Nat → Nat → Nat → Int32} {O : Nat → Int64} {i : Nat} (hd : decode f.2.1 pc = .ok (.getfield 14, 3)) (hn : pc + 3 = n) (ho : f.1.cls = RX2) (hl0 : z_live nn 2 i) (hnl : Nl 2 i 0 = false) (kk : zG w f d cr n lv (vR 7 1 :: stk) (nn, Nl, M, O) r σ') : zG w f d cr pc lv (vR 2 i :: stk) (nn, Nl, M, O) r σ' :=
  g_get (j := 0) (fs := some (7, some 1)) hd hn rfl z_in2 (by decide) (by rw [ho]; exact lk_X2_14) rfl (by decide) hl0 (by rw [hnl]; rfl) kk
theorem gw_X2_14 {w : zWp} {f : zMth} {d cr pc n : Nat} {lv stk : List zAV} {r : zRes} {σ' : zSt} {nn : Nat} {Nl : Nat → Nat → Nat → Bool} {M : Nat → Nat → Nat → Int32} {O : Nat → Int64} {i i2 : Nat} (hd : decode f.2.1 pc = .ok (.putfield 14, 3)) (hn : pc + 3 = n) (ho : f.1.cls = RX2) (hi9 : f.1.name = "<init>") (hl0 : z_live nn 2 i) (hi2 : i2 = 1) (kk : zG w f d cr n lv stk (nn, u3 Nl 2 i 0 false, M, O) r σ') : zG w f d cr pc lv (vR 7 i2 :: vR 2 i :: stk) (nn, Nl, M, O) r σ' :=
  g_putF (j := 0) (o := some 1) hd hn rfl z_in2 (by decide) (by rw [ho]; exact lk_X2_14) tyX2_ok nmX2 rfl hi9 (by rw [ho]; rfl) (tyX2_ok 0 (by decide)) (fun _ => ⟨rfl, rfl⟩) rfl hi2 (by decide) hl0 kk
theorem lk_X2_20 : Cond.fieldLink RX2 20 (TX2 2).1 (TX2 2).2.1 (TX2 2).2.2.1 ∈ zUW := z_in 251 (by decide +kernel) rfl
theorem gf_X2_20 {w : zWp} {f : zMth} {d cr pc n : Nat} {lv stk : List zAV} {r : zRes} {σ' : zSt} {nn : Nat} {Nl : Nat → Nat → Nat → Bool} {M : Nat → Nat → Nat → Int32} {O : Nat → Int64} {i : Nat} (hd : decode f.2.1 pc = .ok (.getfield 20, 3)) (hn : pc + 3 = n) (ho : f.1.cls = RX2) (hl0 : z_live nn 2 i) (kk : zG w f d cr n lv (vI (M 2 i 2) :: stk) (nn, Nl, M, O) r σ') : zG w f d cr pc lv (vR 2 i :: stk) (nn, Nl, M, O) r σ' :=
  g_get (j := 2) (fs := none) hd hn rfl z_in2 (by decide) (by rw [ho]; exact lk_X2_20) rfl (by decide) hl0 rfl kk
theorem gw_X2_20 {w : zWp} {f : zMth} {d cr pc n : Nat} {lv stk : List zAV} {r : zRes} {σ' : zSt} {nn : Nat} {Nl : Nat → Nat → Nat → Bool} {M : Nat → Nat → Nat → Int32} {O : Nat → Int64} {i : Nat} {x : Int32} (hd : decode f.2.1 pc = .ok (.putfield 20, 3)) (hn : pc + 3 = n) (ho : f.1.cls = RX2) (hl0 : z_live nn 2 i) (kk : zG w f d cr n lv stk (nn, Nl, u3 M 2 i 2 x, O) r σ') : zG w f d cr pc lv (vI x :: vR 2 i :: stk) (nn, Nl, M, O) r σ' :=
  g_put (j := 2) hd hn rfl z_in2 (by decide) (by rw [ho]; exact lk_X2_20) tyX2_ok nmX2 rfl (tyX2_ok 2 (by decide)) rfl (by decide) hl0 kk
theorem lk_X2_24 : Cond.fieldLink RX2 24 (TX2 1).1 (TX2 1).2.1 (TX2 1).2.2.1 ∈ zUW := z_in 250 (by decide +kernel) rfl
theorem gf_X2_24 {w : zWp} {f : zMth} {d cr pc n : Nat} {lv stk : List zAV} {r : zRes} {σ' : zSt} {nn : Nat} {Nl : Nat → Nat → Nat → Bool} {M : Nat → Nat → Nat → Int32} {O : Nat → Int64} {i : Nat} (hd : decode f.2.1 pc = .ok (.getfield 24, 3)) (hn : pc + 3 = n) (ho : f.1.cls = RX2) (hl0 : z_live nn 2 i) (kk : zG w f d cr n lv (vI (M 2 i 1) :: stk) (nn, Nl, M, O) r σ') : zG w f d cr pc lv (vR 2 i :: stk) (nn, Nl, M, O) r σ' :=
  g_get (j := 1) (fs := none) hd hn rfl z_in2 (by decide) (by rw [ho]; exact lk_X2_24) rfl (by decide) hl0 rfl kk
theorem gw_X2_24 {w : zWp} {f : zMth} {d cr pc n : Nat} {lv stk : List zAV} {r : zRes} {σ' : zSt} {nn : Nat} {Nl : Nat → Nat → Nat → Bool} {M : Nat → Nat → Nat → Int32} {O : Nat → Int64} {i : Nat} {x : Int32} (hd : decode f.2.1 pc = .ok (.putfield 24, 3)) (hn : pc + 3 = n) (ho : f.1.cls = RX2) (hl0 : z_live nn 2 i) (kk : zG w f d cr n lv stk (nn, Nl, u3 M 2 i 1 x, O) r σ') : zG w f d cr pc lv (vI x :: vR 2 i :: stk) (nn, Nl, M, O) r σ' :=
  g_put (j := 1) hd hn rfl z_in2 (by decide) (by rw [ho]; exact lk_X2_24) tyX2_ok nmX2 rfl (tyX2_ok 1 (by decide)) rfl (by decide) hl0 kk
theorem lk_X3_12 : Cond.fieldLink RX3 12 (TX3 0).1 (TX3 0).2.1 (TX3 0).2.2.1 ∈ zUW := z_in 126 (by decide +kernel) rfl
theorem gf_X3_12 {w : zWp} {f : zMth} {d cr pc n : Nat} {lv stk : List zAV} {r : zRes} {σ' : zSt} {nn : Nat} {Nl : Nat → Nat → Nat → Bool} {M : Nat → Nat → Nat → Int32} {O : Nat → Int64} {i : Nat} (hd : decode f.2.1 pc = .ok (.getfield 12, 3)) (hn : pc + 3 = n) (ho : f.1.cls = RX3) (hl0 : z_live nn 3 i) (hnl : Nl 3 i 0 = false) (kk : zG w f d cr n lv (vR 6 i :: stk) (nn, Nl, M, O) r σ') : zG w f d cr pc lv (vR 3 i :: stk) (nn, Nl, M, O) r σ' :=
  g_get (j := 0) (fs := some (6, none)) hd hn rfl z_in3 (by decide) (by rw [ho]; exact lk_X3_12) rfl (by decide) hl0 (by rw [hnl]; rfl) kk
theorem gw_X3_12 {w : zWp} {f : zMth} {d cr pc n : Nat} {lv stk : List zAV} {r : zRes} {σ' : zSt} {nn : Nat} {Nl : Nat → Nat → Nat → Bool} {M : Nat → Nat → Nat → Int32} {O : Nat → Int64} {i i2 : Nat} (hd : decode f.2.1 pc = .ok (.putfield 12, 3)) (hn : pc + 3 = n) (ho : f.1.cls = RX3) (hi9 : f.1.name = "<init>") (hl0 : z_live nn 3 i) (hi2 : i2 = i) (kk : zG w f d cr n lv stk (nn, u3 Nl 3 i 0 false, M, O) r σ') : zG w f d cr pc lv (vR 6 i2 :: vR 3 i :: stk) (nn, Nl, M, O) r σ' :=
  g_putF (j := 0) (o := none) hd hn rfl z_in3 (by decide) (by rw [ho]; exact lk_X3_12) tyX3_ok nmX3 rfl hi9 (by rw [ho]; rfl) (tyX3_ok 0 (by decide)) (fun _ => ⟨rfl, rfl⟩) rfl hi2 (by decide) hl0 kk
theorem lk_X3_21 : Cond.fieldLink RX3 21 (TX3 1).1 (TX3 1).2.1 (TX3 1).2.2.1 ∈ zUW := z_in 129 (by decide +kernel) rfl
theorem gf_X3_21 {w : zWp} {f : zMth} {d cr pc n : Nat} {lv stk : List zAV} {r : zRes} {σ' : zSt} {nn : Nat} {Nl : Nat → Nat → Nat → Bool} {M : Nat → Nat → Nat → Int32} {O : Nat → Int64} {i : Nat} (hd : decode f.2.1 pc = .ok (.getfield 21, 3)) (hn : pc + 3 = n) (ho : f.1.cls = RX3) (hl0 : z_live nn 3 i) (hnl : Nl 3 i 1 = false) (kk : zG w f d cr n lv (vR 1 i :: stk) (nn, Nl, M, O) r σ') : zG w f d cr pc lv (vR 3 i :: stk) (nn, Nl, M, O) r σ' :=
  g_get (j := 1) (fs := some (1, none)) hd hn rfl z_in3 (by decide) (by rw [ho]; exact lk_X3_21) rfl (by decide) hl0 (by rw [hnl]; rfl) kk
theorem gw_X3_21 {w : zWp} {f : zMth} {d cr pc n : Nat} {lv stk : List zAV} {r : zRes} {σ' : zSt} {nn : Nat} {Nl : Nat → Nat → Nat → Bool} {M : Nat → Nat → Nat → Int32} {O : Nat → Int64} {i i2 : Nat} (hd : decode f.2.1 pc = .ok (.putfield 21, 3)) (hn : pc + 3 = n) (ho : f.1.cls = RX3) (hi9 : f.1.name = "<init>") (hl0 : z_live nn 3 i) (hi2 : i2 = i) (kk : zG w f d cr n lv stk (nn, u3 Nl 3 i 1 false, M, O) r σ') : zG w f d cr pc lv (vR 1 i2 :: vR 3 i :: stk) (nn, Nl, M, O) r σ' :=
  g_putF (j := 1) (o := none) hd hn rfl z_in3 (by decide) (by rw [ho]; exact lk_X3_21) tyX3_ok nmX3 rfl hi9 (by rw [ho]; rfl) (tyX3_ok 1 (by decide)) (fun _ => ⟨rfl, rfl⟩) rfl hi2 (by decide) hl0 kk
theorem lk_X3_28 : Cond.fieldLink RX3 28 (TX3 2).1 (TX3 2).2.1 (TX3 2).2.2.1 ∈ zUW := z_in 132 (by decide +kernel) rfl
theorem gf_X3_28 {w : zWp} {f : zMth} {d cr pc n : Nat} {lv stk : List zAV} {r : zRes} {σ' : zSt} {nn : Nat} {Nl : Nat → Nat → Nat → Bool} {M : Nat → Nat → Nat → Int32} {O : Nat → Int64} {i : Nat} (hd : decode f.2.1 pc = .ok (.getfield 28, 3)) (hn : pc + 3 = n) (ho : f.1.cls = RX3) (hl0 : z_live nn 3 i) (hnl : Nl 3 i 2 = false) (kk : zG w f d cr n lv (vR 5 i :: stk) (nn, Nl, M, O) r σ') : zG w f d cr pc lv (vR 3 i :: stk) (nn, Nl, M, O) r σ' :=
  g_get (j := 2) (fs := some (5, none)) hd hn rfl z_in3 (by decide) (by rw [ho]; exact lk_X3_28) rfl (by decide) hl0 (by rw [hnl]; rfl) kk
theorem gw_X3_28 {w : zWp} {f : zMth} {d cr pc n : Nat} {lv stk : List zAV} {r : zRes} {σ' : zSt} {nn : Nat} {Nl : Nat → Nat → Nat → Bool} {M : Nat → Nat → Nat → Int32} {O : Nat → Int64} {i i2 : Nat} (hd : decode f.2.1 pc = .ok (.putfield 28, 3)) (hn : pc + 3 = n) (ho : f.1.cls = RX3) (hi9 : f.1.name = "<init>") (hl0 : z_live nn 3 i) (hi2 : i2 = i) (kk : zG w f d cr n lv stk (nn, u3 Nl 3 i 2 false, M, O) r σ') : zG w f d cr pc lv (vR 5 i2 :: vR 3 i :: stk) (nn, Nl, M, O) r σ' :=
  g_putF (j := 2) (o := none) hd hn rfl z_in3 (by decide) (by rw [ho]; exact lk_X3_28) tyX3_ok nmX3 rfl hi9 (by rw [ho]; rfl) (tyX3_ok 2 (by decide)) (fun _ => ⟨rfl, rfl⟩) rfl hi2 (by decide) hl0 kk
theorem lk_X3_32 : Cond.fieldLink RX3 32 (TX3 3).1 (TX3 3).2.1 (TX3 3).2.2.1 ∈ zUW := z_in 135 (by decide +kernel) rfl
theorem gf_X3_32 {w : zWp} {f : zMth} {d cr pc n : Nat} {lv stk : List zAV} {r : zRes} {σ' : zSt} {nn : Nat} {Nl : Nat → Nat → Nat → Bool} {M : Nat → Nat → Nat → Int32} {O : Nat → Int64} {i : Nat} (hd : decode f.2.1 pc = .ok (.getfield 32, 3)) (hn : pc + 3 = n) (ho : f.1.cls = RX3) (hl0 : z_live nn 3 i) (hnl : Nl 3 i 3 = false) (kk : zG w f d cr n lv (vR 18 i :: stk) (nn, Nl, M, O) r σ') : zG w f d cr pc lv (vR 3 i :: stk) (nn, Nl, M, O) r σ' :=
  g_get (j := 3) (fs := some (18, none)) hd hn rfl z_in3 (by decide) (by rw [ho]; exact lk_X3_32) rfl (by decide) hl0 (by rw [hnl]; rfl) kk
theorem gw_X3_32 {w : zWp} {f : zMth} {d cr pc n : Nat} {lv stk : List zAV} {r : zRes} {σ' : zSt} {nn : Nat} {Nl : Nat → Nat → Nat → Bool} {M : Nat → Nat → Nat → Int32} {O : Nat → Int64} {i i2 : Nat} (hd : decode f.2.1 pc = .ok (.putfield 32, 3)) (hn : pc + 3 = n) (ho : f.1.cls = RX3) (hi9 : f.1.name = "<init>") (hl0 : z_live nn 3 i) (hi2 : i2 = i) (kk : zG w f d cr n lv stk (nn, u3 Nl 3 i 3 false, M, O) r σ') : zG w f d cr pc lv (vR 18 i2 :: vR 3 i :: stk) (nn, Nl, M, O) r σ' :=
  g_putF (j := 3) (o := none) hd hn rfl z_in3 (by decide) (by rw [ho]; exact lk_X3_32) tyX3_ok nmX3 rfl hi9 (by rw [ho]; rfl) (tyX3_ok 3 (by decide)) (fun _ => ⟨rfl, rfl⟩) rfl hi2 (by decide) hl0 kk
theorem lk_X3_36 : Cond.fieldLink RX3 36 (TX3 4).1 (TX3 4).2.1 (TX3 4).2.2.1 ∈ zUW := z_in 136 (by decide +kernel) rfl
theorem gf_X3_36 {w : zWp} {f : zMth} {d cr pc n : Nat} {lv stk : List zAV} {r : zRes} {σ' : zSt} {nn : Nat} {Nl : Nat → Nat → Nat → Bool} {M : Nat → Nat → Nat → Int32} {O : Nat → Int64} {i : Nat} (hd : decode f.2.1 pc = .ok (.getfield 36, 3)) (hn : pc + 3 = n) (ho : f.1.cls = RX3) (hl0 : z_live nn 3 i) (hnl : Nl 3 i 4 = false) (kk : zG w f d cr n lv (vR 19 i :: stk) (nn, Nl, M, O) r σ') : zG w f d cr pc lv (vR 3 i :: stk) (nn, Nl, M, O) r σ' :=
  g_get (j := 4) (fs := some (19, none)) hd hn rfl z_in3 (by decide) (by rw [ho]; exact lk_X3_36) rfl (by decide) hl0 (by rw [hnl]; rfl) kk
theorem gw_X3_36 {w : zWp} {f : zMth} {d cr pc n : Nat} {lv stk : List zAV} {r : zRes} {σ' : zSt} {nn : Nat} {Nl : Nat → Nat → Nat → Bool} {M : Nat → Nat → Nat → Int32} {O : Nat → Int64} {i i2 : Nat} (hd : decode f.2.1 pc = .ok (.putfield 36, 3)) (hn : pc + 3 = n) (ho : f.1.cls = RX3) (hi9 : f.1.name = "<init>") (hl0 : z_live nn 3 i) (hi2 : i2 = i) (kk : zG w f d cr n lv stk (nn, u3 Nl 3 i 4 false, M, O) r σ') : zG w f d cr pc lv (vR 19 i2 :: vR 3 i :: stk) (nn, Nl, M, O) r σ' :=
  g_putF (j := 4) (o := none) hd hn rfl z_in3 (by decide) (by rw [ho]; exact lk_X3_36) tyX3_ok nmX3 rfl hi9 (by rw [ho]; rfl) (tyX3_ok 4 (by decide)) (fun _ => ⟨rfl, rfl⟩) rfl hi2 (by decide) hl0 kk
theorem lk_X3_53 : Cond.fieldLink RX3 53 (TX3 5).1 (TX3 5).2.1 (TX3 5).2.2.1 ∈ zUW := z_in 137 (by decide +kernel) rfl
theorem gf_X3_53 {w : zWp} {f : zMth} {d cr pc n : Nat} {lv stk : List zAV} {r : zRes} {σ' : zSt} {nn : Nat} {Nl : Nat → Nat → Nat → Bool} {M : Nat → Nat → Nat → Int32} {O : Nat → Int64} {i : Nat} (hd : decode f.2.1 pc = .ok (.getfield 53, 3)) (hn : pc + 3 = n) (ho : f.1.cls = RX3) (hl0 : z_live nn 3 i) (kk : zG w f d cr n lv (vI (M 3 i 5) :: stk) (nn, Nl, M, O) r σ') : zG w f d cr pc lv (vR 3 i :: stk) (nn, Nl, M, O) r σ' :=
  g_get (j := 5) (fs := none) hd hn rfl z_in3 (by decide) (by rw [ho]; exact lk_X3_53) rfl (by decide) hl0 rfl kk
theorem gw_X3_53 {w : zWp} {f : zMth} {d cr pc n : Nat} {lv stk : List zAV} {r : zRes} {σ' : zSt} {nn : Nat} {Nl : Nat → Nat → Nat → Bool} {M : Nat → Nat → Nat → Int32} {O : Nat → Int64} {i : Nat} {x : Int32} (hd : decode f.2.1 pc = .ok (.putfield 53, 3)) (hn : pc + 3 = n) (ho : f.1.cls = RX3) (hl0 : z_live nn 3 i) (kk : zG w f d cr n lv stk (nn, Nl, u3 M 3 i 5 x, O) r σ') : zG w f d cr pc lv (vI x :: vR 3 i :: stk) (nn, Nl, M, O) r σ' :=
  g_put (j := 5) hd hn rfl z_in3 (by decide) (by rw [ho]; exact lk_X3_53) tyX3_ok nmX3 rfl (tyX3_ok 5 (by decide)) rfl (by decide) hl0 kk
theorem lk_X3_57 : Cond.fieldLink RX3 57 (TX3 6).1 (TX3 6).2.1 (TX3 6).2.2.1 ∈ zUW := z_in 139 (by decide +kernel) rfl
theorem gf_X3_57 {w : zWp} {f : zMth} {d cr pc n : Nat} {lv stk : List zAV} {r : zRes} {σ' : zSt} {nn : Nat} {Nl : Nat → Nat → Nat → Bool} {M : Nat → Nat → Nat → Int32} {O : Nat → Int64} {i : Nat} (hd : decode f.2.1 pc = .ok (.getfield 57, 3)) (hn : pc + 3 = n) (ho : f.1.cls = RX3) (hl0 : z_live nn 3 i) (kk : zG w f d cr n lv (vI (M 3 i 6) :: stk) (nn, Nl, M, O) r σ') : zG w f d cr pc lv (vR 3 i :: stk) (nn, Nl, M, O) r σ' :=
  g_get (j := 6) (fs := none) hd hn rfl z_in3 (by decide) (by rw [ho]; exact lk_X3_57) rfl (by decide) hl0 rfl kk
theorem gw_X3_57 {w : zWp} {f : zMth} {d cr pc n : Nat} {lv stk : List zAV} {r : zRes} {σ' : zSt} {nn : Nat} {Nl : Nat → Nat → Nat → Bool} {M : Nat → Nat → Nat → Int32} {O : Nat → Int64} {i : Nat} {x : Int32} (hd : decode f.2.1 pc = .ok (.putfield 57, 3)) (hn : pc + 3 = n) (ho : f.1.cls = RX3) (hl0 : z_live nn 3 i) (kk : zG w f d cr n lv stk (nn, Nl, u3 M 3 i 6 x, O) r σ') : zG w f d cr pc lv (vI x :: vR 3 i :: stk) (nn, Nl, M, O) r σ' :=
  g_put (j := 6) hd hn rfl z_in3 (by decide) (by rw [ho]; exact lk_X3_57) tyX3_ok nmX3 rfl (tyX3_ok 6 (by decide)) rfl (by decide) hl0 kk
theorem lk_X3_60 : Cond.fieldLink RX3 60 (TX3 7).1 (TX3 7).2.1 (TX3 7).2.2.1 ∈ zUW := z_in 141 (by decide +kernel) rfl
theorem gf_X3_60 {w : zWp} {f : zMth} {d cr pc n : Nat} {lv stk : List zAV} {r : zRes} {σ' : zSt} {nn : Nat} {Nl : Nat → Nat → Nat → Bool} {M : Nat → Nat → Nat → Int32} {O : Nat → Int64} {i : Nat} (hd : decode f.2.1 pc = .ok (.getfield 60, 3)) (hn : pc + 3 = n) (ho : f.1.cls = RX3) (hl0 : z_live nn 3 i) (kk : zG w f d cr n lv (vI (M 3 i 7) :: stk) (nn, Nl, M, O) r σ') : zG w f d cr pc lv (vR 3 i :: stk) (nn, Nl, M, O) r σ' :=
  g_get (j := 7) (fs := none) hd hn rfl z_in3 (by decide) (by rw [ho]; exact lk_X3_60) rfl (by decide) hl0 rfl kk
theorem gw_X3_60 {w : zWp} {f : zMth} {d cr pc n : Nat} {lv stk : List zAV} {r : zRes} {σ' : zSt} {nn : Nat} {Nl : Nat → Nat → Nat → Bool} {M : Nat → Nat → Nat → Int32} {O : Nat → Int64} {i : Nat} {x : Int32} (hd : decode f.2.1 pc = .ok (.putfield 60, 3)) (hn : pc + 3 = n) (ho : f.1.cls = RX3) (hl0 : z_live nn 3 i) (kk : zG w f d cr n lv stk (nn, Nl, u3 M 3 i 7 x, O) r σ') : zG w f d cr pc lv (vI x :: vR 3 i :: stk) (nn, Nl, M, O) r σ' :=
  g_put (j := 7) hd hn rfl z_in3 (by decide) (by rw [ho]; exact lk_X3_60) tyX3_ok nmX3 rfl (tyX3_ok 7 (by decide)) rfl (by decide) hl0 kk
theorem lk_X4_9 : Cond.fieldLink RX4 9 (TX4 0).1 (TX4 0).2.1 (TX4 0).2.2.1 ∈ zUW := z_in 201 (by decide +kernel) rfl
theorem gf_X4_9 {w : zWp} {f : zMth} {d cr pc n : Nat} {lv stk : List zAV} {r : zRes} {σ' : zSt} {nn : Nat} {Nl : Nat → Nat → Nat → Bool} {M : Nat → Nat → Nat → Int32} {O : Nat → Int64} {i : Nat} (hd : decode f.2.1 pc = .ok (.getfield 9, 3)) (hn : pc + 3 = n) (ho : f.1.cls = RX4) (hl0 : z_live nn 4 i) (hnl : Nl 4 i 0 = false) (kk : zG w f d cr n lv (vR 20 0 :: stk) (nn, Nl, M, O) r σ') : zG w f d cr pc lv (vR 4 i :: stk) (nn, Nl, M, O) r σ' :=
  g_get (j := 0) (fs := some (20, some 0)) hd hn rfl z_in4 (by decide) (by rw [ho]; exact lk_X4_9) rfl (by decide) hl0 (by rw [hnl]; rfl) kk
theorem gw_X4_9 {w : zWp} {f : zMth} {d cr pc n : Nat} {lv stk : List zAV} {r : zRes} {σ' : zSt} {nn : Nat} {Nl : Nat → Nat → Nat → Bool} {M : Nat → Nat → Nat → Int32} {O : Nat → Int64} {i i2 : Nat} (hd : decode f.2.1 pc = .ok (.putfield 9, 3)) (hn : pc + 3 = n) (ho : f.1.cls = RX4) (hi9 : f.1.name = "<init>") (hl0 : z_live nn 4 i) (hi2 : i2 = 0) (kk : zG w f d cr n lv stk (nn, u3 Nl 4 i 0 false, M, O) r σ') : zG w f d cr pc lv (vR 20 i2 :: vR 4 i :: stk) (nn, Nl, M, O) r σ' :=
  g_putF (j := 0) (o := some 0) hd hn rfl z_in4 (by decide) (by rw [ho]; exact lk_X4_9) tyX4_ok nmX4 rfl hi9 (by rw [ho]; rfl) (tyX4_ok 0 (by decide)) (fun _ => ⟨rfl, rfl⟩) rfl hi2 (by decide) hl0 kk
theorem lk_X4_15 : Cond.fieldLink RX4 15 (TX4 1).1 (TX4 1).2.1 (TX4 1).2.2.1 ∈ zUW := z_in 202 (by decide +kernel) rfl
theorem gf_X4_15 {w : zWp} {f : zMth} {d cr pc n : Nat} {lv stk : List zAV} {r : zRes} {σ' : zSt} {nn : Nat} {Nl : Nat → Nat → Nat → Bool} {M : Nat → Nat → Nat → Int32} {O : Nat → Int64} {i : Nat} (hd : decode f.2.1 pc = .ok (.getfield 15, 3)) (hn : pc + 3 = n) (ho : f.1.cls = RX4) (hl0 : z_live nn 4 i) (hnl : Nl 4 i 1 = false) (kk : zG w f d cr n lv (vR 21 0 :: stk) (nn, Nl, M, O) r σ') : zG w f d cr pc lv (vR 4 i :: stk) (nn, Nl, M, O) r σ' :=
  g_get (j := 1) (fs := some (21, some 0)) hd hn rfl z_in4 (by decide) (by rw [ho]; exact lk_X4_15) rfl (by decide) hl0 (by rw [hnl]; rfl) kk
theorem gw_X4_15 {w : zWp} {f : zMth} {d cr pc n : Nat} {lv stk : List zAV} {r : zRes} {σ' : zSt} {nn : Nat} {Nl : Nat → Nat → Nat → Bool} {M : Nat → Nat → Nat → Int32} {O : Nat → Int64} {i i2 : Nat} (hd : decode f.2.1 pc = .ok (.putfield 15, 3)) (hn : pc + 3 = n) (ho : f.1.cls = RX4) (hi9 : f.1.name = "<init>") (hl0 : z_live nn 4 i) (hi2 : i2 = 0) (kk : zG w f d cr n lv stk (nn, u3 Nl 4 i 1 false, M, O) r σ') : zG w f d cr pc lv (vR 21 i2 :: vR 4 i :: stk) (nn, Nl, M, O) r σ' :=
  g_putF (j := 1) (o := some 0) hd hn rfl z_in4 (by decide) (by rw [ho]; exact lk_X4_15) tyX4_ok nmX4 rfl hi9 (by rw [ho]; rfl) (tyX4_ok 1 (by decide)) (fun _ => ⟨rfl, rfl⟩) rfl hi2 (by decide) hl0 kk
theorem lk_X5_9 : Cond.fieldLink RX5 9 (TX5 0).1 (TX5 0).2.1 (TX5 0).2.2.1 ∈ zUW := z_in 110 (by decide +kernel) rfl
theorem gf_X5_9 {w : zWp} {f : zMth} {d cr pc n : Nat} {lv stk : List zAV} {r : zRes} {σ' : zSt} {nn : Nat} {Nl : Nat → Nat → Nat → Bool} {M : Nat → Nat → Nat → Int32} {O : Nat → Int64} {i : Nat} (hd : decode f.2.1 pc = .ok (.getfield 9, 3)) (hn : pc + 3 = n) (ho : f.1.cls = RX5) (hl0 : z_live nn 5 i) (hnl : Nl 5 i 0 = false) (kk : zG w f d cr n lv (vR 22 i :: stk) (nn, Nl, M, O) r σ') : zG w f d cr pc lv (vR 5 i :: stk) (nn, Nl, M, O) r σ' :=
  g_get (j := 0) (fs := some (22, none)) hd hn rfl z_in5 (by decide) (by rw [ho]; exact lk_X5_9) rfl (by decide) hl0 (by rw [hnl]; rfl) kk
theorem gw_X5_9 {w : zWp} {f : zMth} {d cr pc n : Nat} {lv stk : List zAV} {r : zRes} {σ' : zSt} {nn : Nat} {Nl : Nat → Nat → Nat → Bool} {M : Nat → Nat → Nat → Int32} {O : Nat → Int64} {i i2 : Nat} (hd : decode f.2.1 pc = .ok (.putfield 9, 3)) (hn : pc + 3 = n) (ho : f.1.cls = RX5) (hi9 : f.1.name = "<init>") (hl0 : z_live nn 5 i) (hi2 : i2 = i) (kk : zG w f d cr n lv stk (nn, u3 Nl 5 i 0 false, M, O) r σ') : zG w f d cr pc lv (vR 22 i2 :: vR 5 i :: stk) (nn, Nl, M, O) r σ' :=
  g_putF (j := 0) (o := none) hd hn rfl z_in5 (by decide) (by rw [ho]; exact lk_X5_9) tyX5_ok nmX5 rfl hi9 (by rw [ho]; rfl) (tyX5_ok 0 (by decide)) (fun _ => ⟨rfl, rfl⟩) rfl hi2 (by decide) hl0 kk
theorem lk_X5_15 : Cond.fieldLink RX5 15 (TX5 1).1 (TX5 1).2.1 (TX5 1).2.2.1 ∈ zUW := z_in 111 (by decide +kernel) rfl
theorem gf_X5_15 {w : zWp} {f : zMth} {d cr pc n : Nat} {lv stk : List zAV} {r : zRes} {σ' : zSt} {nn : Nat} {Nl : Nat → Nat → Nat → Bool} {M : Nat → Nat → Nat → Int32} {O : Nat → Int64} {i : Nat} (hd : decode f.2.1 pc = .ok (.getfield 15, 3)) (hn : pc + 3 = n) (ho : f.1.cls = RX5) (hl0 : z_live nn 5 i) (hnl : Nl 5 i 1 = false) (kk : zG w f d cr n lv (vR 23 i :: stk) (nn, Nl, M, O) r σ') : zG w f d cr pc lv (vR 5 i :: stk) (nn, Nl, M, O) r σ' :=
  g_get (j := 1) (fs := some (23, none)) hd hn rfl z_in5 (by decide) (by rw [ho]; exact lk_X5_15) rfl (by decide) hl0 (by rw [hnl]; rfl) kk
theorem gw_X5_15 {w : zWp} {f : zMth} {d cr pc n : Nat} {lv stk : List zAV} {r : zRes} {σ' : zSt} {nn : Nat} {Nl : Nat → Nat → Nat → Bool} {M : Nat → Nat → Nat → Int32} {O : Nat → Int64} {i i2 : Nat} (hd : decode f.2.1 pc = .ok (.putfield 15, 3)) (hn : pc + 3 = n) (ho : f.1.cls = RX5) (hi9 : f.1.name = "<init>") (hl0 : z_live nn 5 i) (hi2 : i2 = i) (kk : zG w f d cr n lv stk (nn, u3 Nl 5 i 1 false, M, O) r σ') : zG w f d cr pc lv (vR 23 i2 :: vR 5 i :: stk) (nn, Nl, M, O) r σ' :=
  g_putF (j := 1) (o := none) hd hn rfl z_in5 (by decide) (by rw [ho]; exact lk_X5_15) tyX5_ok nmX5 rfl hi9 (by rw [ho]; rfl) (tyX5_ok 1 (by decide)) (fun _ => ⟨rfl, rfl⟩) rfl hi2 (by decide) hl0 kk
theorem lk_X5_18 : Cond.fieldLink RX5 18 (TX5 2).1 (TX5 2).2.1 (TX5 2).2.2.1 ∈ zUW := z_in 112 (by decide +kernel) rfl
theorem gf_X5_18 {w : zWp} {f : zMth} {d cr pc n : Nat} {lv stk : List zAV} {r : zRes} {σ' : zSt} {nn : Nat} {Nl : Nat → Nat → Nat → Bool} {M : Nat → Nat → Nat → Int32} {O : Nat → Int64} {i : Nat} (hd : decode f.2.1 pc = .ok (.getfield 18, 3)) (hn : pc + 3 = n) (ho : f.1.cls = RX5) (hl0 : z_live nn 5 i) (hnl : Nl 5 i 2 = false) (kk : zG w f d cr n lv (vR 24 i :: stk) (nn, Nl, M, O) r σ') : zG w f d cr pc lv (vR 5 i :: stk) (nn, Nl, M, O) r σ' :=
  g_get (j := 2) (fs := some (24, none)) hd hn rfl z_in5 (by decide) (by rw [ho]; exact lk_X5_18) rfl (by decide) hl0 (by rw [hnl]; rfl) kk
theorem gw_X5_18 {w : zWp} {f : zMth} {d cr pc n : Nat} {lv stk : List zAV} {r : zRes} {σ' : zSt} {nn : Nat} {Nl : Nat → Nat → Nat → Bool} {M : Nat → Nat → Nat → Int32} {O : Nat → Int64} {i i2 : Nat} (hd : decode f.2.1 pc = .ok (.putfield 18, 3)) (hn : pc + 3 = n) (ho : f.1.cls = RX5) (hi9 : f.1.name = "<init>") (hl0 : z_live nn 5 i) (hi2 : i2 = i) (kk : zG w f d cr n lv stk (nn, u3 Nl 5 i 2 false, M, O) r σ') : zG w f d cr pc lv (vR 24 i2 :: vR 5 i :: stk) (nn, Nl, M, O) r σ' :=
  g_putF (j := 2) (o := none) hd hn rfl z_in5 (by decide) (by rw [ho]; exact lk_X5_18) tyX5_ok nmX5 rfl hi9 (by rw [ho]; rfl) (tyX5_ok 2 (by decide)) (fun _ => ⟨rfl, rfl⟩) rfl hi2 (by decide) hl0 kk
theorem lk_X5_21 : Cond.fieldLink RX5 21 (TX5 3).1 (TX5 3).2.1 (TX5 3).2.2.1 ∈ zUW := z_in 113 (by decide +kernel) rfl
theorem gf_X5_21 {w : zWp} {f : zMth} {d cr pc n : Nat} {lv stk : List zAV} {r : zRes} {σ' : zSt} {nn : Nat} {Nl : Nat → Nat → Nat → Bool} {M : Nat → Nat → Nat → Int32} {O : Nat → Int64} {i : Nat} (hd : decode f.2.1 pc = .ok (.getfield 21, 3)) (hn : pc + 3 = n) (ho : f.1.cls = RX5) (hl0 : z_live nn 5 i) (hnl : Nl 5 i 3 = false) (kk : zG w f d cr n lv (vR 25 i :: stk) (nn, Nl, M, O) r σ') : zG w f d cr pc lv (vR 5 i :: stk) (nn, Nl, M, O) r σ' :=
  g_get (j := 3) (fs := some (25, none)) hd hn rfl z_in5 (by decide) (by rw [ho]; exact lk_X5_21) rfl (by decide) hl0 (by rw [hnl]; rfl) kk
theorem gw_X5_21 {w : zWp} {f : zMth} {d cr pc n : Nat} {lv stk : List zAV} {r : zRes} {σ' : zSt} {nn : Nat} {Nl : Nat → Nat → Nat → Bool} {M : Nat → Nat → Nat → Int32} {O : Nat → Int64} {i i2 : Nat} (hd : decode f.2.1 pc = .ok (.putfield 21, 3)) (hn : pc + 3 = n) (ho : f.1.cls = RX5) (hi9 : f.1.name = "<init>") (hl0 : z_live nn 5 i) (hi2 : i2 = i) (kk : zG w f d cr n lv stk (nn, u3 Nl 5 i 3 false, M, O) r σ') : zG w f d cr pc lv (vR 25 i2 :: vR 5 i :: stk) (nn, Nl, M, O) r σ' :=
  g_putF (j := 3) (o := none) hd hn rfl z_in5 (by decide) (by rw [ho]; exact lk_X5_21) tyX5_ok nmX5 rfl hi9 (by rw [ho]; rfl) (tyX5_ok 3 (by decide)) (fun _ => ⟨rfl, rfl⟩) rfl hi2 (by decide) hl0 kk
theorem lk_X5_24 : Cond.fieldLink RX5 24 (TX5 4).1 (TX5 4).2.1 (TX5 4).2.2.1 ∈ zUW := z_in 114 (by decide +kernel) rfl
theorem gf_X5_24 {w : zWp} {f : zMth} {d cr pc n : Nat} {lv stk : List zAV} {r : zRes} {σ' : zSt} {nn : Nat} {Nl : Nat → Nat → Nat → Bool} {M : Nat → Nat → Nat → Int32} {O : Nat → Int64} {i : Nat} (hd : decode f.2.1 pc = .ok (.getfield 24, 3)) (hn : pc + 3 = n) (ho : f.1.cls = RX5) (hl0 : z_live nn 5 i) (hnl : Nl 5 i 4 = false) (kk : zG w f d cr n lv (vR 26 i :: stk) (nn, Nl, M, O) r σ') : zG w f d cr pc lv (vR 5 i :: stk) (nn, Nl, M, O) r σ' :=
  g_get (j := 4) (fs := some (26, none)) hd hn rfl z_in5 (by decide) (by rw [ho]; exact lk_X5_24) rfl (by decide) hl0 (by rw [hnl]; rfl) kk
theorem gw_X5_24 {w : zWp} {f : zMth} {d cr pc n : Nat} {lv stk : List zAV} {r : zRes} {σ' : zSt} {nn : Nat} {Nl : Nat → Nat → Nat → Bool} {M : Nat → Nat → Nat → Int32} {O : Nat → Int64} {i i2 : Nat} (hd : decode f.2.1 pc = .ok (.putfield 24, 3)) (hn : pc + 3 = n) (ho : f.1.cls = RX5) (hi9 : f.1.name = "<init>") (hl0 : z_live nn 5 i) (hi2 : i2 = i) (kk : zG w f d cr n lv stk (nn, u3 Nl 5 i 4 false, M, O) r σ') : zG w f d cr pc lv (vR 26 i2 :: vR 5 i :: stk) (nn, Nl, M, O) r σ' :=
  g_putF (j := 4) (o := none) hd hn rfl z_in5 (by decide) (by rw [ho]; exact lk_X5_24) tyX5_ok nmX5 rfl hi9 (by rw [ho]; rfl) (tyX5_ok 4 (by decide)) (fun _ => ⟨rfl, rfl⟩) rfl hi2 (by decide) hl0 kk
theorem lk_X6_9 : Cond.fieldLink RX6 9 (TX6 0).1 (TX6 0).2.1 (TX6 0).2.2.1 ∈ zUW := z_in 71 (by decide +kernel) rfl
theorem gf_X6_9 {w : zWp} {f : zMth} {d cr pc n : Nat} {lv stk : List zAV} {r : zRes} {σ' : zSt} {nn : Nat} {Nl : Nat → Nat → Nat → Bool} {M : Nat → Nat → Nat → Int32} {O : Nat → Int64} {i : Nat} (hd : decode f.2.1 pc = .ok (.getfield 9, 3)) (hn : pc + 3 = n) (ho : f.1.cls = RX6) (hl0 : z_live nn 6 i) (hnl : Nl 6 i 0 = false) (kk : zG w f d cr n lv (vR 27 i :: stk) (nn, Nl, M, O) r σ') : zG w f d cr pc lv (vR 6 i :: stk) (nn, Nl, M, O) r σ' :=
  g_get (j := 0) (fs := some (27, none)) hd hn rfl z_in6 (by decide) (by rw [ho]; exact lk_X6_9) rfl (by decide) hl0 (by rw [hnl]; rfl) kk
theorem gw_X6_9 {w : zWp} {f : zMth} {d cr pc n : Nat} {lv stk : List zAV} {r : zRes} {σ' : zSt} {nn : Nat} {Nl : Nat → Nat → Nat → Bool} {M : Nat → Nat → Nat → Int32} {O : Nat → Int64} {i i2 : Nat} (hd : decode f.2.1 pc = .ok (.putfield 9, 3)) (hn : pc + 3 = n) (ho : f.1.cls = RX6) (hi9 : f.1.name = "<init>") (hl0 : z_live nn 6 i) (hi2 : i2 = i) (kk : zG w f d cr n lv stk (nn, u3 Nl 6 i 0 false, M, O) r σ') : zG w f d cr pc lv (vR 27 i2 :: vR 6 i :: stk) (nn, Nl, M, O) r σ' :=
  g_putF (j := 0) (o := none) hd hn rfl z_in6 (by decide) (by rw [ho]; exact lk_X6_9) tyX6_ok nmX6 rfl hi9 (by rw [ho]; rfl) (tyX6_ok 0 (by decide)) (fun _ => ⟨rfl, rfl⟩) rfl hi2 (by decide) hl0 kk
theorem lk_X6_15 : Cond.fieldLink RX6 15 (TX6 1).1 (TX6 1).2.1 (TX6 1).2.2.1 ∈ zUW := z_in 72 (by decide +kernel) rfl
theorem gf_X6_15 {w : zWp} {f : zMth} {d cr pc n : Nat} {lv stk : List zAV} {r : zRes} {σ' : zSt} {nn : Nat} {Nl : Nat → Nat → Nat → Bool} {M : Nat → Nat → Nat → Int32} {O : Nat → Int64} {i : Nat} (hd : decode f.2.1 pc = .ok (.getfield 15, 3)) (hn : pc + 3 = n) (ho : f.1.cls = RX6) (hl0 : z_live nn 6 i) (hnl : Nl 6 i 1 = false) (kk : zG w f d cr n lv (vR 28 i :: stk) (nn, Nl, M, O) r σ') : zG w f d cr pc lv (vR 6 i :: stk) (nn, Nl, M, O) r σ' :=
  g_get (j := 1) (fs := some (28, none)) hd hn rfl z_in6 (by decide) (by rw [ho]; exact lk_X6_15) rfl (by decide) hl0 (by rw [hnl]; rfl) kk
theorem gw_X6_15 {w : zWp} {f : zMth} {d cr pc n : Nat} {lv stk : List zAV} {r : zRes} {σ' : zSt} {nn : Nat} {Nl : Nat → Nat → Nat → Bool} {M : Nat → Nat → Nat → Int32} {O : Nat → Int64} {i i2 : Nat} (hd : decode f.2.1 pc = .ok (.putfield 15, 3)) (hn : pc + 3 = n) (ho : f.1.cls = RX6) (hi9 : f.1.name = "<init>") (hl0 : z_live nn 6 i) (hi2 : i2 = i) (kk : zG w f d cr n lv stk (nn, u3 Nl 6 i 1 false, M, O) r σ') : zG w f d cr pc lv (vR 28 i2 :: vR 6 i :: stk) (nn, Nl, M, O) r σ' :=
  g_putF (j := 1) (o := none) hd hn rfl z_in6 (by decide) (by rw [ho]; exact lk_X6_15) tyX6_ok nmX6 rfl hi9 (by rw [ho]; rfl) (tyX6_ok 1 (by decide)) (fun _ => ⟨rfl, rfl⟩) rfl hi2 (by decide) hl0 kk
theorem lk_X7_15 : Cond.fieldLink RX7 15 (TX7 0).1 (TX7 0).2.1 (TX7 0).2.2.1 ∈ zUW := z_in 234 (by decide +kernel) rfl
theorem gf_X7_15 {w : zWp} {f : zMth} {d cr pc n : Nat} {lv stk : List zAV} {r : zRes} {σ' : zSt} {nn : Nat} {Nl : Nat → Nat → Nat → Bool} {M : Nat → Nat → Nat → Int32} {O : Nat → Int64} {i : Nat} (hd : decode f.2.1 pc = .ok (.getfield 15, 3)) (hn : pc + 3 = n) (ho : f.1.cls = RX7) (hl0 : z_live nn 7 i) (hnl : Nl 7 i 0 = false) (kk : zG w f d cr n lv (vR 29 i :: stk) (nn, Nl, M, O) r σ') : zG w f d cr pc lv (vR 7 i :: stk) (nn, Nl, M, O) r σ' :=
  g_get (j := 0) (fs := some (29, none)) hd hn rfl z_in7 (by decide) (by rw [ho]; exact lk_X7_15) rfl (by decide) hl0 (by rw [hnl]; rfl) kk
theorem gw_X7_15 {w : zWp} {f : zMth} {d cr pc n : Nat} {lv stk : List zAV} {r : zRes} {σ' : zSt} {nn : Nat} {Nl : Nat → Nat → Nat → Bool} {M : Nat → Nat → Nat → Int32} {O : Nat → Int64} {i i2 : Nat} (hd : decode f.2.1 pc = .ok (.putfield 15, 3)) (hn : pc + 3 = n) (ho : f.1.cls = RX7) (hi9 : f.1.name = "<init>") (hl0 : z_live nn 7 i) (hi2 : i2 = i) (kk : zG w f d cr n lv stk (nn, u3 Nl 7 i 0 false, M, O) r σ') : zG w f d cr pc lv (vR 29 i2 :: vR 7 i :: stk) (nn, Nl, M, O) r σ' :=
  g_putF (j := 0) (o := none) hd hn rfl z_in7 (by decide) (by rw [ho]; exact lk_X7_15) tyX7_ok nmX7 rfl hi9 (by rw [ho]; rfl) (tyX7_ok 0 (by decide)) (fun _ => ⟨rfl, rfl⟩) rfl hi2 (by decide) hl0 kk
theorem lk_X7_21 : Cond.fieldLink RX7 21 (TX7 1).1 (TX7 1).2.1 (TX7 1).2.2.1 ∈ zUW := z_in 235 (by decide +kernel) rfl
theorem gf_X7_21 {w : zWp} {f : zMth} {d cr pc n : Nat} {lv stk : List zAV} {r : zRes} {σ' : zSt} {nn : Nat} {Nl : Nat → Nat → Nat → Bool} {M : Nat → Nat → Nat → Int32} {O : Nat → Int64} {i : Nat} (hd : decode f.2.1 pc = .ok (.getfield 21, 3)) (hn : pc + 3 = n) (ho : f.1.cls = RX7) (hl0 : z_live nn 7 i) (hnl : Nl 7 i 1 = false) (kk : zG w f d cr n lv (vR 30 i :: stk) (nn, Nl, M, O) r σ') : zG w f d cr pc lv (vR 7 i :: stk) (nn, Nl, M, O) r σ' :=
  g_get (j := 1) (fs := some (30, none)) hd hn rfl z_in7 (by decide) (by rw [ho]; exact lk_X7_21) rfl (by decide) hl0 (by rw [hnl]; rfl) kk
theorem gw_X7_21 {w : zWp} {f : zMth} {d cr pc n : Nat} {lv stk : List zAV} {r : zRes} {σ' : zSt} {nn : Nat} {Nl : Nat → Nat → Nat → Bool} {M : Nat → Nat → Nat → Int32} {O : Nat → Int64} {i i2 : Nat} (hd : decode f.2.1 pc = .ok (.putfield 21, 3)) (hn : pc + 3 = n) (ho : f.1.cls = RX7) (hi9 : f.1.name = "<init>") (hl0 : z_live nn 7 i) (hi2 : i2 = i) (kk : zG w f d cr n lv stk (nn, u3 Nl 7 i 1 false, M, O) r σ') : zG w f d cr pc lv (vR 30 i2 :: vR 7 i :: stk) (nn, Nl, M, O) r σ' :=
  g_putF (j := 1) (o := none) hd hn rfl z_in7 (by decide) (by rw [ho]; exact lk_X7_21) tyX7_ok nmX7 rfl hi9 (by rw [ho]; rfl) (tyX7_ok 1 (by decide)) (fun _ => ⟨rfl, rfl⟩) rfl hi2 (by decide) hl0 kk
theorem lk_X8_9 : Cond.fieldLink RX8 9 (TX8 0).1 (TX8 0).2.1 (TX8 0).2.2.1 ∈ zUW := z_in 215 (by decide +kernel) rfl
theorem gf_X8_9 {w : zWp} {f : zMth} {d cr pc n : Nat} {lv stk : List zAV} {r : zRes} {σ' : zSt} {nn : Nat} {Nl : Nat → Nat → Nat → Bool} {M : Nat → Nat → Nat → Int32} {O : Nat → Int64} {i : Nat} (hd : decode f.2.1 pc = .ok (.getfield 9, 3)) (hn : pc + 3 = n) (ho : f.1.cls = RX8) (hl0 : z_live nn 8 i) (hnl : Nl 8 i 0 = false) (kk : zG w f d cr n lv (vR 31 0 :: stk) (nn, Nl, M, O) r σ') : zG w f d cr pc lv (vR 8 i :: stk) (nn, Nl, M, O) r σ' :=
  g_get (j := 0) (fs := some (31, some 0)) hd hn rfl z_in8 (by decide) (by rw [ho]; exact lk_X8_9) rfl (by decide) hl0 (by rw [hnl]; rfl) kk
theorem gw_X8_9 {w : zWp} {f : zMth} {d cr pc n : Nat} {lv stk : List zAV} {r : zRes} {σ' : zSt} {nn : Nat} {Nl : Nat → Nat → Nat → Bool} {M : Nat → Nat → Nat → Int32} {O : Nat → Int64} {i i2 : Nat} (hd : decode f.2.1 pc = .ok (.putfield 9, 3)) (hn : pc + 3 = n) (ho : f.1.cls = RX8) (hi9 : f.1.name = "<init>") (hl0 : z_live nn 8 i) (hi2 : i2 = 0) (kk : zG w f d cr n lv stk (nn, u3 Nl 8 i 0 false, M, O) r σ') : zG w f d cr pc lv (vR 31 i2 :: vR 8 i :: stk) (nn, Nl, M, O) r σ' :=
  g_putF (j := 0) (o := some 0) hd hn rfl z_in8 (by decide) (by rw [ho]; exact lk_X8_9) tyX8_ok nmX8 rfl hi9 (by rw [ho]; rfl) (tyX8_ok 0 (by decide)) (fun _ => ⟨rfl, rfl⟩) rfl hi2 (by decide) hl0 kk
theorem lk_X8_15 : Cond.fieldLink RX8 15 (TX8 1).1 (TX8 1).2.1 (TX8 1).2.2.1 ∈ zUW := z_in 216 (by decide +kernel) rfl
theorem gf_X8_15 {w : zWp} {f : zMth} {d cr pc n : Nat} {lv stk : List zAV} {r : zRes} {σ' : zSt} {nn : Nat} {Nl : Nat → Nat → Nat → Bool} {M : Nat → Nat → Nat → Int32} {O : Nat → Int64} {i : Nat} (hd : decode f.2.1 pc = .ok (.getfield 15, 3)) (hn : pc + 3 = n) (ho : f.1.cls = RX8) (hl0 : z_live nn 8 i) (kk : zG w f d cr n lv (vI (M 8 i 1) :: stk) (nn, Nl, M, O) r σ') : zG w f d cr pc lv (vR 8 i :: stk) (nn, Nl, M, O) r σ' :=
  g_get (j := 1) (fs := none) hd hn rfl z_in8 (by decide) (by rw [ho]; exact lk_X8_15) rfl (by decide) hl0 rfl kk
theorem gw_X8_15 {w : zWp} {f : zMth} {d cr pc n : Nat} {lv stk : List zAV} {r : zRes} {σ' : zSt} {nn : Nat} {Nl : Nat → Nat → Nat → Bool} {M : Nat → Nat → Nat → Int32} {O : Nat → Int64} {i : Nat} {x : Int32} (hd : decode f.2.1 pc = .ok (.putfield 15, 3)) (hn : pc + 3 = n) (ho : f.1.cls = RX8) (hl0 : z_live nn 8 i) (kk : zG w f d cr n lv stk (nn, Nl, u3 M 8 i 1 x, O) r σ') : zG w f d cr pc lv (vI x :: vR 8 i :: stk) (nn, Nl, M, O) r σ' :=
  g_put (j := 1) hd hn rfl z_in8 (by decide) (by rw [ho]; exact lk_X8_15) tyX8_ok nmX8 rfl (tyX8_ok 1 (by decide)) rfl (by decide) hl0 kk
