/-- the tables' words, by a list and a place in it -/
def jtk (k : Nat) : List Cond := match k with
  | 1 => tables_1_1
  | 2 => tables_1_2
  | 3 => tables_1_3
  | 4 => tables_1_4
  | 5 => tables_1_5
  | 6 => tables_1_6
  | 7 => tables_1_7
  | 8 => tables_1_8
  | 9 => tables_1_9
  | 21 => k2_sels lw_privs_1
  | 22 => k2_sels lw_privs_2
  | 23 => k2_sels lw_privs_3
  | 24 => k2_sels lw_privs_4
  | 25 => k2_sels lw_privs_5
  | 26 => k2_sels lw_privs_6
  | 27 => k2_sels lw_privs_7
  | 28 => k2_sels lw_privs_8
  | 29 => k2_sels lw_privs_9
  | 30 => k2_sels lw_privs_10
  | _ => []
theorem jtk_mem {k : Nat} {w : Cond} (h : w ∈ jtk k) : w ∈ lw_tbl := by
  unfold lw_tbl tables_1 lw_privs k2_sels
  simp only [List.map_append, List.mem_append]
  match k, h with
  | 1, h => have h : w ∈ tables_1_1 := h; simp only [h, true_or, or_true]
  | 2, h => have h : w ∈ tables_1_2 := h; simp only [h, true_or, or_true]
  | 3, h => have h : w ∈ tables_1_3 := h; simp only [h, true_or, or_true]
  | 4, h => have h : w ∈ tables_1_4 := h; simp only [h, true_or, or_true]
  | 5, h => have h : w ∈ tables_1_5 := h; simp only [h, true_or, or_true]
  | 6, h => have h : w ∈ tables_1_6 := h; simp only [h, true_or, or_true]
  | 7, h => have h : w ∈ tables_1_7 := h; simp only [h, true_or, or_true]
  | 8, h => have h : w ∈ tables_1_8 := h; simp only [h, true_or, or_true]
  | 9, h => have h : w ∈ tables_1_9 := h; simp only [h, true_or, or_true]
  | 21, h => have h : w ∈ k2_sels lw_privs_1 := h; unfold k2_sels at h; simp only [h, true_or, or_true]
  | 22, h => have h : w ∈ k2_sels lw_privs_2 := h; unfold k2_sels at h; simp only [h, true_or, or_true]
  | 23, h => have h : w ∈ k2_sels lw_privs_3 := h; unfold k2_sels at h; simp only [h, true_or, or_true]
  | 24, h => have h : w ∈ k2_sels lw_privs_4 := h; unfold k2_sels at h; simp only [h, true_or, or_true]
  | 25, h => have h : w ∈ k2_sels lw_privs_5 := h; unfold k2_sels at h; simp only [h, true_or, or_true]
  | 26, h => have h : w ∈ k2_sels lw_privs_6 := h; unfold k2_sels at h; simp only [h, true_or, or_true]
  | 27, h => have h : w ∈ k2_sels lw_privs_7 := h; unfold k2_sels at h; simp only [h, true_or, or_true]
  | 28, h => have h : w ∈ k2_sels lw_privs_8 := h; unfold k2_sels at h; simp only [h, true_or, or_true]
  | 29, h => have h : w ∈ k2_sels lw_privs_9 := h; unfold k2_sels at h; simp only [h, true_or, or_true]
  | 30, h => have h : w ∈ k2_sels lw_privs_10 := h; unfold k2_sels at h; simp only [h, true_or, or_true]
def jat (c : Nat) (w : Cond) : Bool := decide ((jtk (c / 1000))[c % 1000]? = some w) && goodWord w
theorem jat_mem {c : Nat} {w : Cond} (h : jat c w = true) : w ∈ jtbl := by
  simp only [jat, Bool.and_eq_true, decide_eq_true_eq] at h
  exact List.mem_filter.mpr ⟨jtk_mem (List.mem_of_getElem? h.1), h.2⟩
def mX11_init : jI := (yX11_init, cX11_init, 1, none, 6, 129)
def mX3_init : jI := (yX3_init, cX3_init, 2, none, 3, 64)
def mX4_init : jI := (yX4_init, cX4_init, 1, none, 2, 44)
def mX4_clear : jI := (yX4_clear, cX4_clear, 1, none, 1, 24)
def mX4_set : jI := (yX4_set, cX4_set, 5, none, 0, 0)
def mX0_init : jI := (yX0_init, cX0_init, 1, none, 1, 20)
def mX3_clear : jI := (yX3_clear, cX3_clear, 1, none, 2, 44)
def mX7_init : jI := (yX7_init, cX7_init, 4, none, 5, 106)
def mX2_init : jI := (yX2_init, cX2_init, 2, none, 3, 64)
def mX6_init : jI := (yX6_init, cX6_init, 1, none, 1, 20)
def mX1_init : jI := (yX1_init, cX1_init, 4, none, 3, 60)
def mX5_init : jI := (yX5_init, cX5_init, 1, none, 2, 40)
def mX8_init : jI := (yX8_init, cX8_init, 1, none, 1, 20)
def mX10_init : jI := (yX10_init, cX10_init, 2, none, 2, 40)
def mX9_init : jI := (yX9_init, cX9_init, 1, none, 2, 40)
def mX11_feed : jI := (yX11_feed, cX11_feed, 6, (some .int), 1, 22)
def mX11_tapeFour : jI := (yX11_tapeFour, cX11_tapeFour, 3, none, 0, 0)
def mX11_text : jI := (yX11_text, cX11_text, 3, (some .int), 7, 166)
def mX7_read : jI := (yX7_read, cX7_read, 5, none, 6, 142)
def mJ9_min_7cf53 : jI := (yJ9_min_7cf53, cJ9_min_7cf53, 2, (some .int), 0, 0)
def mX7_nextToken : jI := (yX7_nextToken, cX7_nextToken, 2, none, 1, 20)
def mX7_takeWord : jI := (yX7_takeWord, cX7_takeWord, 1, none, 0, 0)
def mX7_takeDigits : jI := (yX7_takeDigits, cX7_takeDigits, 1, none, 0, 0)
def mX7_readLine : jI := (yX7_readLine, cX7_readLine, 1, none, 5, 122)
def mX7_wordOfLanguage : jI := (yX7_wordOfLanguage, cX7_wordOfLanguage, 2, (some .int), 0, 0)
def mX7_readMode : jI := (yX7_readMode, cX7_readMode, 4, none, 3, 74)
def mX7_failUnless : jI := (yX7_failUnless, cX7_failUnless, 4, none, 1, 22)
def mX7_fail : jI := (yX7_fail, cX7_fail, 3, none, 0, 0)
def mX3_modeOf : jI := (yX3_modeOf, cX3_modeOf, 3, (some .int), 0, 0)
def mX7_readNumber : jI := (yX7_readNumber, cX7_readNumber, 6, (some .int), 2, 45)
def mX7_readNormal : jI := (yX7_readNormal, cX7_readNormal, 5, (some .int), 2, 50)
def mX6_divisor : jI := (yX6_divisor, cX6_divisor, 11, (some .long), 0, 0)
def mX4_number : jI := (yX4_number, cX4_number, 7, (some .int), 1, 24)
def mX4_find : jI := (yX4_find, cX4_find, 4, (some .int), 0, 0)
def mX3_addMode : jI := (yX3_addMode, cX3_addMode, 4, none, 0, 0)
def mX7_readKeep : jI := (yX7_readKeep, cX7_readKeep, 2, none, 4, 101)
def mX7_readModeName : jI := (yX7_readModeName, cX7_readModeName, 2, (some .int), 2, 45)
def mX7_readBound : jI := (yX7_readBound, cX7_readBound, 8, none, 3, 74)
def mX7_readHarm : jI := (yX7_readHarm, cX7_readHarm, 2, none, 4, 101)
def mX7_readEdge : jI := (yX7_readEdge, cX7_readEdge, 3, none, 3, 66)
def mX3_addEdge : jI := (yX3_addEdge, cX3_addEdge, 4, none, 0, 0)
def mX7_readWhen : jI := (yX7_readWhen, cX7_readWhen, 2, none, 4, 101)
def mX7_readDone : jI := (yX7_readDone, cX7_readDone, 6, none, 3, 70)
def mX7_readStart : jI := (yX7_readStart, cX7_readStart, 5, none, 3, 70)
def mX7_readMost : jI := (yX7_readMost, cX7_readMost, 2, none, 3, 70)
def mX1_take : jI := (yX1_take, cX1_take, 3, none, 0, 0)
def mX1_restart : jI := (yX1_restart, cX1_restart, 3, none, 3, 82)
def mX2_loadBox : jI := (yX2_loadBox, cX2_loadBox, 8, none, 0, 0)
def mX2_cut : jI := (yX2_cut, cX2_cut, 3, none, 1, 25)
def mX2_cutAt : jI := (yX2_cutAt, cX2_cutAt, 6, none, 0, 0)
def mX1_tighten : jI := (yX1_tighten, cX1_tighten, 2, (some .boolean), 2, 61)
def mX2_shrink : jI := (yX2_shrink, cX2_shrink, 10, (some .boolean), 1, 23)
def mX2_linkRing : jI := (yX2_linkRing, cX2_linkRing, 4, none, 0, 0)
def mX4_turn : jI := (yX4_turn, cX4_turn, 3, (some .long), 0, 0)
def mX2_settle : jI := (yX2_settle, cX2_settle, 12, (some .boolean), 1, 30)
def mX6_isTooFine : jI := (yX6_isTooFine, cX6_isTooFine, 4, (some .boolean), 0, 0)
def mX2_load : jI := (yX2_load, cX2_load, 4, none, 0, 0)
def mX1_grow : jI := (yX1_grow, cX1_grow, 2, none, 2, 47)
def mX2_growAlong : jI := (yX2_growAlong, cX2_growAlong, 6, none, 0, 0)
def mX2_cutToBox : jI := (yX2_cutToBox, cX2_cutToBox, 2, none, 1, 25)
def mX1_addPart : jI := (yX1_addPart, cX1_addPart, 3, none, 2, 52)
def mX11_fault : jI := (yX11_fault, cX11_fault, 2, (some .int), 0, 0)
def mX11_step : jI := (yX11_step, cX11_step, 2, (some .int), 6, 154)
def mX11_isStepCount : jI := (yX11_isStepCount, cX11_isStepCount, 1, (some .boolean), 0, 0)
def mX1_run : jI := (yX1_run, cX1_run, 6, (some .int), 5, 129)
def mX1_firstOpen : jI := (yX1_firstOpen, cX1_firstOpen, 2, (some .int), 0, 0)
def mX1_firstHarmed : jI := (yX1_firstHarmed, cX1_firstHarmed, 3, (some .int), 0, 0)
def mX1_follow : jI := (yX1_follow, cX1_follow, 5, none, 4, 105)
def mX2_loadMoved : jI := (yX2_loadMoved, cX2_loadMoved, 16, none, 1, 21)
def mJ9_abs_067f4 : jI := (yJ9_abs_067f4, cJ9_abs_067f4, 2, (some .long), 0, 0)
def mX1_isCovered : jI := (yX1_isCovered, cX1_isCovered, 4, (some .boolean), 1, 23)
def mX1_isOf : jI := (yX1_isOf, cX1_isOf, 3, (some .boolean), 0, 0)
def mX8_liesIn : jI := (yX8_liesIn, cX8_liesIn, 4, (some .boolean), 0, 0)
def mX1_partsOf : jI := (yX1_partsOf, cX1_partsOf, 4, (some .int), 1, 22)
def mX1_joinLast : jI := (yX1_joinLast, cX1_joinLast, 4, (some .boolean), 3, 82)
def mX1_lastOf : jI := (yX1_lastOf, cX1_lastOf, 4, (some .int), 1, 22)
def mX2_join : jI := (yX2_join, cX2_join, 3, none, 0, 0)
def mX11_check : jI := (yX11_check, cX11_check, 2, (some .int), 2, 42)
def mX1_isSafe : jI := (yX1_isSafe, cX1_isSafe, 1, (some .boolean), 1, 22)
def mX11_bit : jI := (yX11_bit, cX11_bit, 1, (some .int), 0, 0)
def mX1_openParts : jI := (yX1_openParts, cX1_openParts, 3, (some .int), 1, 20)
def mX1_goneParts : jI := (yX1_goneParts, cX1_goneParts, 3, (some .int), 1, 20)
def mX1_harmedParts : jI := (yX1_harmedParts, cX1_harmedParts, 3, (some .int), 1, 20)
def mX11_edge : jI := (yX11_edge, cX11_edge, 3, (some .int), 1, 21)
def mX11_isEdge : jI := (yX11_isEdge, cX11_isEdge, 2, (some .boolean), 0, 0)
def mX11_normal : jI := (yX11_normal, cX11_normal, 3, (some .int), 1, 21)
def mX11_isNormal : jI := (yX11_isNormal, cX11_isNormal, 2, (some .boolean), 0, 0)
def mX11_normalOf : jI := (yX11_normalOf, cX11_normalOf, 4, (some .int), 1, 23)
def mX11_part : jI := (yX11_part, cX11_part, 4, (some .int), 5, 124)
def mX11_isPart : jI := (yX11_isPart, cX11_isPart, 2, (some .boolean), 0, 0)
def mX2_listCorners : jI := (yX2_listCorners, cX2_listCorners, 5, (some .int), 4, 100)
def mX2_meet : jI := (yX2_meet, cX2_meet, 7, none, 2, 56)
def mX6_let : jI := (yX6_let, cX6_let, 7, none, 1, 30)
def mX2_isNewCorner : jI := (yX2_isNewCorner, cX2_isNewCorner, 3, (some .boolean), 3, 76)
def mX2_orderOfCorners : jI := (yX2_orderOfCorners, cX2_orderOfCorners, 4, (some .int), 2, 53)
def mX6_order : jI := (yX6_order, cX6_order, 9, (some .int), 1, 25)
def mJ9_floorDiv_f86c9 : jI := (yJ9_floorDiv_f86c9, cJ9_floorDiv_f86c9, 6, (some .long), 0, 0)
def mJ13_compare_74951 : jI := (yJ13_compare_74951, cJ13_compare_74951, 4, (some .int), 0, 0)
def mJ9_floorMod_f86c9 : jI := (yJ9_floorMod_f86c9, cJ9_floorMod_f86c9, 6, (some .long), 0, 0)
def mX2_sinkCorner : jI := (yX2_sinkCorner, cX2_sinkCorner, 5, none, 3, 76)
def mX11_limit : jI := (yX11_limit, cX11_limit, 6, (some .int), 1, 22)
def mX11_isChoice : jI := (yX11_isChoice, cX11_isChoice, 1, (some .boolean), 0, 0)
def mX11_regionOf : jI := (yX11_regionOf, cX11_regionOf, 3, (some (.object "SlopeChecker$Region")), 0, 0)
def mX11_corner : jI := (yX11_corner, cX11_corner, 6, (some .long), 5, 124)
def mX11_has : jI := (yX11_has, cX11_has, 6, (some .int), 2, 43)
def mX11_isPoint : jI := (yX11_isPoint, cX11_isPoint, 3, (some .boolean), 1, 21)
def mX11_isWithin : jI := (yX11_isWithin, cX11_isWithin, 2, (some .boolean), 0, 0)
def mX8_holds : jI := (yX8_holds, cX8_holds, 13, (some .boolean), 0, 0)
def mX11_where : jI := (yX11_where, cX11_where, 5, (some .int), 2, 62)
def mX11_isMode : jI := (yX11_isMode, cX11_isMode, 2, (some .boolean), 0, 0)
def mX1_firstWith : jI := (yX1_firstWith, cX1_firstWith, 11, (some .int), 1, 32)
def mX11_within : jI := (yX11_within, cX11_within, 3, (some .int), 1, 23)
def mX11_meets : jI := (yX11_meets, cX11_meets, 7, (some .int), 2, 52)
def mX11_isBound : jI := (yX11_isBound, cX11_isBound, 3, (some .boolean), 1, 21)
def mX11_way : jI := (yX11_way, cX11_way, 3, (some .int), 7, 183)
def mX11_noWay : jI := (yX11_noWay, cX11_noWay, 2, (some .int), 6, 162)
def mX10_find : jI := (yX10_find, cX10_find, 7, (some .boolean), 5, 136)
def mX10_beginLast : jI := (yX10_beginLast, cX10_beginLast, 3, none, 4, 107)
def mX2_least : jI := (yX2_least, cX2_least, 6, none, 3, 82)
def mX10_note : jI := (yX10_note, cX10_note, 4, (some .boolean), 2, 43)
def mX6_isBeyond : jI := (yX6_isBeyond, cX6_isBeyond, 1, (some .boolean), 1, 23)
def mX10_goBack : jI := (yX10_goBack, cX10_goBack, 17, none, 2, 56)
def mX10_noteTime : jI := (yX10_noteTime, cX10_noteTime, 2, (some .boolean), 2, 43)
def mX10_shift : jI := (yX10_shift, cX10_shift, 4, none, 2, 56)
def mX10_jumpBack : jI := (yX10_jumpBack, cX10_jumpBack, 6, none, 4, 111)
def mX2_leastX : jI := (yX2_leastX, cX2_leastX, 3, none, 3, 89)
def mX2_leastOf : jI := (yX2_leastOf, cX2_leastOf, 14, none, 2, 56)
def mX2_leastY : jI := (yX2_leastY, cX2_leastY, 3, none, 3, 89)
def mX11_onWay : jI := (yX11_onWay, cX11_onWay, 4, (some .int), 7, 183)
def mX11_wayTime : jI := (yX11_wayTime, cX11_wayTime, 4, (some .long), 7, 183)
def mX10_addTimes : jI := (yX10_addTimes, cX10_addTimes, 6, (some .boolean), 2, 56)
def mX11_ride : jI := (yX11_ride, cX11_ride, 6, (some .int), 6, 152)
def mX9_canBegin : jI := (yX9_canBegin, cX9_canBegin, 6, (some .boolean), 1, 21)
def mX9_go : jI := (yX9_go, cX9_go, 7, none, 5, 126)
def mX9_note : jI := (yX9_note, cX9_note, 4, none, 0, 0)
def mX9_firstEdge : jI := (yX9_firstEdge, cX9_firstEdge, 9, (some .int), 4, 98)
def mX9_canTake : jI := (yX9_canTake, cX9_canTake, 6, (some .boolean), 3, 73)
def mX9_narrow : jI := (yX9_narrow, cX9_narrow, 3, none, 1, 30)
def mX9_narrowBy : jI := (yX9_narrowBy, cX9_narrowBy, 11, none, 0, 0)
def mX9_narrowToMode : jI := (yX9_narrowToMode, cX9_narrowToMode, 2, none, 2, 52)
def mX9_jump : jI := (yX9_jump, cX9_jump, 4, (some .boolean), 3, 84)
def mX9_moveSize : jI := (yX9_moveSize, cX9_moveSize, 9, none, 2, 56)
def mX11_ridden : jI := (yX11_ridden, cX11_ridden, 3, (some .int), 0, 0)
def mX11_ended : jI := (yX11_ended, cX11_ended, 1, (some .int), 0, 0)
def mX11_followed : jI := (yX11_followed, cX11_followed, 5, (some .int), 2, 62)
def mX11_ifStart : jI := (yX11_ifStart, cX11_ifStart, 7, (some .int), 7, 176)
def mX11_isSpan : jI := (yX11_isSpan, cX11_isSpan, 2, (some .boolean), 1, 21)
def mX11_isForesight : jI := (yX11_isForesight, cX11_isForesight, 2, (some .boolean), 1, 20)
def mX11_foresee : jI := (yX11_foresee, cX11_foresee, 3, (some .int), 6, 154)
def mX11_ifMost : jI := (yX11_ifMost, cX11_ifMost, 4, (some .int), 7, 176)
def mX11_ifWithout : jI := (yX11_ifWithout, cX11_ifWithout, 4, (some .int), 7, 176)
def mX11_blamed : jI := (yX11_blamed, cX11_blamed, 4, (some .int), 6, 154)
def mX11_count : jI := (yX11_count, cX11_count, 2, (some .int), 0, 0)
def mX11_mode : jI := (yX11_mode, cX11_mode, 3, (some .int), 6, 132)
def mX3_edgesFrom : jI := (yX3_edgesFrom, cX3_edgesFrom, 4, (some .int), 0, 0)
def mX12_init : jI := (yX12_init, cX12_init, 1, none, 14, 314)
def mX12_readText : jI := (yX12_readText, cX12_readText, 3, none, 13, 292)
def mX12_normalFor : jI := (yX12_normalFor, cX12_normalFor, 6, (some .int), 1, 24)
def mX12_common : jI := (yX12_common, cX12_common, 5, (some .int), 0, 0)
def mX12_normalIn : jI := (yX12_normalIn, cX12_normalIn, 4, (some .int), 0, 0)
def mX12_wrongAt : jI := (yX12_wrongAt, cX12_wrongAt, 3, none, 0, 0)
def mX12_token : jI := (yX12_token, cX12_token, 2, none, 6, 129)
def mX12_here : jI := (yX12_here, cX12_here, 1, (some .int), 0, 0)
def mX12_isSmall : jI := (yX12_isSmall, cX12_isSmall, 1, (some .boolean), 0, 0)
def mX12_wordHere : jI := (yX12_wordHere, cX12_wordHere, 4, (some .int), 5, 106)
def mX12_isDigit : jI := (yX12_isDigit, cX12_isDigit, 1, (some .boolean), 0, 0)
def mX12_readLine : jI := (yX12_readLine, cX12_readLine, 3, none, 12, 270)
def mX12_readOwn : jI := (yX12_readOwn, cX12_readOwn, 6, none, 10, 218)
def mX12_wrong : jI := (yX12_wrong, cX12_wrong, 2, none, 1, 22)
def mX12_goOn : jI := (yX12_goOn, cX12_goOn, 1, none, 7, 150)
def mX12_isName : jI := (yX12_isName, cX12_isName, 1, (some .boolean), 0, 0)
def mX12_modeOf : jI := (yX12_modeOf, cX12_modeOf, 2, (some .int), 0, 0)
def mX12_number : jI := (yX12_number, cX12_number, 3, (some .int), 9, 196)
def mX12_numeral : jI := (yX12_numeral, cX12_numeral, 7, (some .int), 8, 170)
def mX12_isSign : jI := (yX12_isSign, cX12_isSign, 2, (some .boolean), 0, 0)
def mX12_readKept : jI := (yX12_readKept, cX12_readKept, 5, none, 11, 246)
def mX12_readMode : jI := (yX12_readMode, cX12_readMode, 2, (some .int), 8, 170)
def mX12_readBound : jI := (yX12_readBound, cX12_readBound, 9, none, 10, 218)
def mX12_readEdge : jI := (yX12_readEdge, cX12_readEdge, 4, none, 9, 191)
def mX12_readWhen : jI := (yX12_readWhen, cX12_readWhen, 2, none, 11, 246)
def mX12_latest : jI := (yX12_latest, cX12_latest, 1, (some .int), 0, 0)
def mX12_readDeed : jI := (yX12_readDeed, cX12_readDeed, 6, none, 10, 218)
def mX12_readStart : jI := (yX12_readStart, cX12_readStart, 6, none, 10, 218)
def mX12_readMost : jI := (yX12_readMost, cX12_readMost, 1, none, 10, 218)
def mX12_becomes : jI := (yX12_becomes, cX12_becomes, 2, none, 7, 187)
def mX12_begins : jI := (yX12_begins, cX12_begins, 2, none, 6, 166)
def mX12_clears : jI := (yX12_clears, cX12_clears, 1, none, 0, 0)
def mX12_normals : jI := (yX12_normals, cX12_normals, 1, (some .int), 0, 0)
def mX12_sets : jI := (yX12_sets, cX12_sets, 4, none, 0, 0)
def mX12_kept : jI := (yX12_kept, cX12_kept, 2, none, 4, 117)
def mX12_boxed : jI := (yX12_boxed, cX12_boxed, 2, none, 3, 94)
def mX12_cuts : jI := (yX12_cuts, cX12_cuts, 6, none, 2, 69)
def mX12_compares : jI := (yX12_compares, cX12_compares, 25, (some .int), 1, 25)
def mX12_floor : jI := (yX12_floor, cX12_floor, 6, (some .long), 0, 0)
def mX12_modeAt : jI := (yX12_modeAt, cX12_modeAt, 1, (some .int), 0, 0)
def mX12_cutsBy : jI := (yX12_cutsBy, cX12_cutsBy, 4, none, 3, 94)
def mX12_tightens : jI := (yX12_tightens, cX12_tightens, 7, (some .boolean), 3, 96)
def mX12_isCorner : jI := (yX12_isCorner, cX12_isCorner, 8, (some .boolean), 2, 69)
def mX12_ofNormal : jI := (yX12_ofNormal, cX12_ofNormal, 3, (some .long), 0, 0)
def mX12_gcd : jI := (yX12_gcd, cX12_gcd, 10, (some .long), 0, 0)
def mX12_isTooFar : jI := (yX12_isTooFar, cX12_isTooFar, 2, (some .boolean), 1, 23)
def mX12_isBeyond : jI := (yX12_isBeyond, cX12_isBeyond, 4, (some .boolean), 0, 0)
def mX12_halts : jI := (yX12_halts, cX12_halts, 2, none, 0, 0)
def mX12_laysSet : jI := (yX12_laysSet, cX12_laysSet, 4, none, 1, 21)
def mX12_setAt : jI := (yX12_setAt, cX12_setAt, 2, (some .int), 0, 0)
def mX12_grows : jI := (yX12_grows, cX12_grows, 7, (some .boolean), 5, 138)
def mX12_makes : jI := (yX12_makes, cX12_makes, 7, none, 5, 140)
def mX12_isHarm : jI := (yX12_isHarm, cX12_isHarm, 3, (some .boolean), 4, 118)
def mX12_isSome : jI := (yX12_isSome, cX12_isSome, 3, (some .boolean), 3, 96)
def mX12_thrown : jI := (yX12_thrown, cX12_thrown, 1, (some .int), 0, 0)
def mX12_feed : jI := (yX12_feed, cX12_feed, 8, (some .int), 0, 0)
def mX12_text : jI := (yX12_text, cX12_text, 2, (some .int), 14, 314)
def mX12_fault : jI := (yX12_fault, cX12_fault, 2, (some .int), 0, 0)
def mX12_step : jI := (yX12_step, cX12_step, 2, (some .int), 9, 238)
def mX12_runs : jI := (yX12_runs, cX12_runs, 5, (some .int), 8, 214)
def mX12_firstOpen : jI := (yX12_firstOpen, cX12_firstOpen, 2, (some .int), 1, 22)
def mX12_its : jI := (yX12_its, cX12_its, 3, (some .int), 0, 0)
def mX12_edgeAt : jI := (yX12_edgeAt, cX12_edgeAt, 1, (some .int), 0, 0)
def mX12_goes : jI := (yX12_goes, cX12_goes, 4, none, 7, 191)
def mX12_takesSet : jI := (yX12_takesSet, cX12_takesSet, 4, none, 1, 21)
def mX12_jumps : jI := (yX12_jumps, cX12_jumps, 10, none, 1, 23)
def mX12_comes : jI := (yX12_comes, cX12_comes, 6, none, 6, 166)
def mX12_isCovered : jI := (yX12_isCovered, cX12_isCovered, 3, (some .boolean), 3, 91)
def mX12_isWithin : jI := (yX12_isWithin, cX12_isWithin, 3, (some .boolean), 2, 69)
def mX12_livingOf : jI := (yX12_livingOf, cX12_livingOf, 4, (some .int), 1, 22)
def mX12_joins : jI := (yX12_joins, cX12_joins, 7, none, 2, 69)
def mX12_check : jI := (yX12_check, cX12_check, 2, (some .int), 3, 64)
def mX12_safe : jI := (yX12_safe, cX12_safe, 1, (some .int), 2, 44)
def mX12_firstHarmed : jI := (yX12_firstHarmed, cX12_firstHarmed, 3, (some .int), 1, 22)
def mX12_manyOf : jI := (yX12_manyOf, cX12_manyOf, 4, (some .int), 1, 22)
def mX12_mode : jI := (yX12_mode, cX12_mode, 3, (some .int), 2, 45)
def mX12_isMode : jI := (yX12_isMode, cX12_isMode, 2, (some .boolean), 0, 0)
def mX12_edgesFrom : jI := (yX12_edgesFrom, cX12_edgesFrom, 4, (some .int), 1, 20)
def mX12_edge : jI := (yX12_edge, cX12_edge, 3, (some .int), 1, 20)
def mX12_normal : jI := (yX12_normal, cX12_normal, 3, (some .int), 1, 22)
def mX12_normalOf : jI := (yX12_normalOf, cX12_normalOf, 4, (some .int), 1, 23)
def mX12_part : jI := (yX12_part, cX12_part, 3, (some .int), 4, 120)
def mX12_isPart : jI := (yX12_isPart, cX12_isPart, 2, (some .boolean), 0, 0)
def mX12_cornersOf : jI := (yX12_cornersOf, cX12_cornersOf, 5, (some .int), 3, 96)
def mX12_laysCorner : jI := (yX12_laysCorner, cX12_laysCorner, 8, none, 2, 69)
def mX12_limit : jI := (yX12_limit, cX12_limit, 5, (some .int), 2, 43)
def mX12_isSet : jI := (yX12_isSet, cX12_isSet, 3, (some .boolean), 1, 21)
def mX12_corner : jI := (yX12_corner, cX12_corner, 5, (some .long), 4, 120)
def mX12_has : jI := (yX12_has, cX12_has, 6, (some .int), 3, 96)
def mX12_isPoint : jI := (yX12_isPoint, cX12_isPoint, 3, (some .boolean), 0, 0)
def mX12_holds : jI := (yX12_holds, cX12_holds, 8, (some .boolean), 2, 69)
def mX12_where : jI := (yX12_where, cX12_where, 5, (some .int), 4, 124)
def mX12_partWith : jI := (yX12_partWith, cX12_partWith, 9, (some .int), 3, 96)
def mX12_within : jI := (yX12_within, cX12_within, 3, (some .int), 3, 91)
def mX12_meets : jI := (yX12_meets, cX12_meets, 8, (some .int), 4, 118)
def mX12_way : jI := (yX12_way, cX12_way, 2, (some .int), 6, 172)
def mX12_laysWay : jI := (yX12_laysWay, cX12_laysWay, 3, (some .boolean), 5, 150)
def mX12_chains : jI := (yX12_chains, cX12_chains, 4, none, 1, 22)
def mX12_findsLeast : jI := (yX12_findsLeast, cX12_findsLeast, 5, (some .boolean), 3, 96)
def mX12_laysOut : jI := (yX12_laysOut, cX12_laysOut, 3, none, 0, 0)
def mX12_laysIn : jI := (yX12_laysIn, cX12_laysIn, 5, (some .boolean), 4, 126)
def mX12_isOff : jI := (yX12_isOff, cX12_isOff, 4, (some .boolean), 1, 23)
def mX12_goesBack : jI := (yX12_goesBack, cX12_goesBack, 6, (some .boolean), 3, 101)
def mX12_anyTime : jI := (yX12_anyTime, cX12_anyTime, 1, none, 0, 0)
def mX12_over : jI := (yX12_over, cX12_over, 17, none, 1, 29)
def mX12_mustBe : jI := (yX12_mustBe, cX12_mustBe, 13, none, 2, 69)
def mX12_canBe : jI := (yX12_canBe, cX12_canBe, 1, (some .boolean), 2, 69)
def mX12_moved : jI := (yX12_moved, cX12_moved, 18, none, 1, 29)
def mX12_laysAhead : jI := (yX12_laysAhead, cX12_laysAhead, 5, (some .boolean), 4, 120)
def mX12_equals : jI := (yX12_equals, cX12_equals, 7, none, 3, 94)
def mX12_onWay : jI := (yX12_onWay, cX12_onWay, 4, (some .int), 6, 172)
def mX12_wayTime : jI := (yX12_wayTime, cX12_wayTime, 10, (some .long), 6, 172)
def mX12_ride : jI := (yX12_ride, cX12_ride, 11, (some .int), 7, 212)
def mX12_canBegin : jI := (yX12_canBegin, cX12_canBegin, 9, (some .boolean), 5, 138)
def mX12_jumpsOn : jI := (yX12_jumpsOn, cX12_jumpsOn, 11, (some .boolean), 6, 182)
def mX12_canTake : jI := (yX12_canTake, cX12_canTake, 8, (some .boolean), 5, 155)
def mX12_takesPoint : jI := (yX12_takesPoint, cX12_takesPoint, 3, none, 0, 0)
def mX12_asks : jI := (yX12_asks, cX12_asks, 9, none, 3, 101)
def mX12_asksMode : jI := (yX12_asksMode, cX12_asksMode, 7, none, 4, 129)
def mX12_changes : jI := (yX12_changes, cX12_changes, 6, none, 1, 20)
def mX12_ridden : jI := (yX12_ridden, cX12_ridden, 3, (some .int), 0, 0)
def mX12_ended : jI := (yX12_ended, cX12_ended, 1, (some .int), 0, 0)
def mX12_followed : jI := (yX12_followed, cX12_followed, 7, (some .int), 4, 124)
def mX12_ifStart : jI := (yX12_ifStart, cX12_ifStart, 13, (some .int), 10, 261)
def mX12_isSize : jI := (yX12_isSize, cX12_isSize, 1, (some .boolean), 0, 0)
def mX12_canTry : jI := (yX12_canTry, cX12_canTry, 2, (some .boolean), 0, 0)
def mX12_startsAt : jI := (yX12_startsAt, cX12_startsAt, 5, none, 0, 0)
def mX12_tries : jI := (yX12_tries, cX12_tries, 4, (some .int), 9, 238)
def mX12_goesAside : jI := (yX12_goesAside, cX12_goesAside, 2, none, 0, 0)
def mX12_comesBack : jI := (yX12_comesBack, cX12_comesBack, 2, none, 0, 0)
def mX12_ifMost : jI := (yX12_ifMost, cX12_ifMost, 6, (some .int), 10, 261)
def mX12_ifWithout : jI := (yX12_ifWithout, cX12_ifWithout, 4, (some .int), 11, 285)
def mX12_triesWithout : jI := (yX12_triesWithout, cX12_triesWithout, 5, (some .int), 10, 261)
def mX12_blamed : jI := (yX12_blamed, cX12_blamed, 4, (some .int), 11, 285)
def mX12_count : jI := (yX12_count, cX12_count, 2, (some .int), 0, 0)
/-- the methods, by number -/
def jtm (n : Nat) : jI := match n with
  | 0 => mX11_init
  | 1 => mX3_init
  | 2 => mX4_init
  | 3 => mX4_clear
  | 4 => mX4_set
  | 5 => mX0_init
  | 6 => mX3_clear
  | 7 => mX7_init
  | 8 => mX2_init
  | 9 => mX6_init
  | 10 => mX1_init
  | 11 => mX5_init
  | 12 => mX8_init
  | 13 => mX10_init
  | 14 => mX9_init
  | 15 => mX11_feed
  | 16 => mX11_tapeFour
  | 17 => mX11_text
  | 18 => mX7_read
  | 19 => mJ9_min_7cf53
  | 20 => mX7_nextToken
  | 21 => mX7_takeWord
  | 22 => mX7_takeDigits
  | 23 => mX7_readLine
  | 24 => mX7_wordOfLanguage
  | 25 => mX7_readMode
  | 26 => mX7_failUnless
  | 27 => mX7_fail
  | 28 => mX3_modeOf
  | 29 => mX7_readNumber
  | 30 => mX7_readNormal
  | 31 => mX6_divisor
  | 32 => mX4_number
  | 33 => mX4_find
  | 34 => mX3_addMode
  | 35 => mX7_readKeep
  | 36 => mX7_readModeName
  | 37 => mX7_readBound
  | 38 => mX7_readHarm
  | 39 => mX7_readEdge
  | 40 => mX3_addEdge
  | 41 => mX7_readWhen
  | 42 => mX7_readDone
  | 43 => mX7_readStart
  | 44 => mX7_readMost
  | 45 => mX1_take
  | 46 => mX1_restart
  | 47 => mX2_loadBox
  | 48 => mX2_cut
  | 49 => mX2_cutAt
  | 50 => mX1_tighten
  | 51 => mX2_shrink
  | 52 => mX2_linkRing
  | 53 => mX4_turn
  | 54 => mX2_settle
  | 55 => mX6_isTooFine
  | 56 => mX2_load
  | 57 => mX1_grow
  | 58 => mX2_growAlong
  | 59 => mX2_cutToBox
  | 60 => mX1_addPart
  | 61 => mX11_fault
  | 62 => mX11_step
  | 63 => mX11_isStepCount
  | 64 => mX1_run
  | 65 => mX1_firstOpen
  | 66 => mX1_firstHarmed
  | 67 => mX1_follow
  | 68 => mX2_loadMoved
  | 69 => mJ9_abs_067f4
  | 70 => mX1_isCovered
  | 71 => mX1_isOf
  | 72 => mX8_liesIn
  | 73 => mX1_partsOf
  | 74 => mX1_joinLast
  | 75 => mX1_lastOf
  | 76 => mX2_join
  | 77 => mX11_check
  | 78 => mX1_isSafe
  | 79 => mX11_bit
  | 80 => mX1_openParts
  | 81 => mX1_goneParts
  | 82 => mX1_harmedParts
  | 83 => mX11_edge
  | 84 => mX11_isEdge
  | 85 => mX11_normal
  | 86 => mX11_isNormal
  | 87 => mX11_normalOf
  | 88 => mX11_part
  | 89 => mX11_isPart
  | 90 => mX2_listCorners
  | 91 => mX2_meet
  | 92 => mX6_let
  | 93 => mX2_isNewCorner
  | 94 => mX2_orderOfCorners
  | 95 => mX6_order
  | 96 => mJ9_floorDiv_f86c9
  | 97 => mJ13_compare_74951
  | 98 => mJ9_floorMod_f86c9
  | 99 => mX2_sinkCorner
  | 100 => mX11_limit
  | 101 => mX11_isChoice
  | 102 => mX11_regionOf
  | 103 => mX11_corner
  | 104 => mX11_has
  | 105 => mX11_isPoint
  | 106 => mX11_isWithin
  | 107 => mX8_holds
  | 108 => mX11_where
  | 109 => mX11_isMode
  | 110 => mX1_firstWith
  | 111 => mX11_within
  | 112 => mX11_meets
  | 113 => mX11_isBound
  | 114 => mX11_way
  | 115 => mX11_noWay
  | 116 => mX10_find
  | 117 => mX10_beginLast
  | 118 => mX2_least
  | 119 => mX10_note
  | 120 => mX6_isBeyond
  | 121 => mX10_goBack
  | 122 => mX10_noteTime
  | 123 => mX10_shift
  | 124 => mX10_jumpBack
  | 125 => mX2_leastX
  | 126 => mX2_leastOf
  | 127 => mX2_leastY
  | 128 => mX11_onWay
  | 129 => mX11_wayTime
  | 130 => mX10_addTimes
  | 131 => mX11_ride
  | 132 => mX9_canBegin
  | 133 => mX9_go
  | 134 => mX9_note
  | 135 => mX9_firstEdge
  | 136 => mX9_canTake
  | 137 => mX9_narrow
  | 138 => mX9_narrowBy
  | 139 => mX9_narrowToMode
  | 140 => mX9_jump
  | 141 => mX9_moveSize
  | 142 => mX11_ridden
  | 143 => mX11_ended
  | 144 => mX11_followed
  | 145 => mX11_ifStart
  | 146 => mX11_isSpan
  | 147 => mX11_isForesight
  | 148 => mX11_foresee
  | 149 => mX11_ifMost
  | 150 => mX11_ifWithout
  | 151 => mX11_blamed
  | 152 => mX11_count
  | 153 => mX11_mode
  | 154 => mX3_edgesFrom
  | 155 => mX12_init
  | 156 => mX12_readText
  | 157 => mX12_normalFor
  | 158 => mX12_common
  | 159 => mX12_normalIn
  | 160 => mX12_wrongAt
  | 161 => mX12_token
  | 162 => mX12_here
  | 163 => mX12_isSmall
  | 164 => mX12_wordHere
  | 165 => mX12_isDigit
  | 166 => mX12_readLine
  | 167 => mX12_readOwn
  | 168 => mX12_wrong
  | 169 => mX12_goOn
  | 170 => mX12_isName
  | 171 => mX12_modeOf
  | 172 => mX12_number
  | 173 => mX12_numeral
  | 174 => mX12_isSign
  | 175 => mX12_readKept
  | 176 => mX12_readMode
  | 177 => mX12_readBound
  | 178 => mX12_readEdge
  | 179 => mX12_readWhen
  | 180 => mX12_latest
  | 181 => mX12_readDeed
  | 182 => mX12_readStart
  | 183 => mX12_readMost
  | 184 => mX12_becomes
  | 185 => mX12_begins
  | 186 => mX12_clears
  | 187 => mX12_normals
  | 188 => mX12_sets
  | 189 => mX12_kept
  | 190 => mX12_boxed
  | 191 => mX12_cuts
  | 192 => mX12_compares
  | 193 => mX12_floor
  | 194 => mX12_modeAt
  | 195 => mX12_cutsBy
  | 196 => mX12_tightens
  | 197 => mX12_isCorner
  | 198 => mX12_ofNormal
  | 199 => mX12_gcd
  | 200 => mX12_isTooFar
  | 201 => mX12_isBeyond
  | 202 => mX12_halts
  | 203 => mX12_laysSet
  | 204 => mX12_setAt
  | 205 => mX12_grows
  | 206 => mX12_makes
  | 207 => mX12_isHarm
  | 208 => mX12_isSome
  | 209 => mX12_thrown
  | 210 => mX12_feed
  | 211 => mX12_text
  | 212 => mX12_fault
  | 213 => mX12_step
  | 214 => mX12_runs
  | 215 => mX12_firstOpen
  | 216 => mX12_its
  | 217 => mX12_edgeAt
  | 218 => mX12_goes
  | 219 => mX12_takesSet
  | 220 => mX12_jumps
  | 221 => mX12_comes
  | 222 => mX12_isCovered
  | 223 => mX12_isWithin
  | 224 => mX12_livingOf
  | 225 => mX12_joins
  | 226 => mX12_check
  | 227 => mX12_safe
  | 228 => mX12_firstHarmed
  | 229 => mX12_manyOf
  | 230 => mX12_mode
  | 231 => mX12_isMode
  | 232 => mX12_edgesFrom
  | 233 => mX12_edge
  | 234 => mX12_normal
  | 235 => mX12_normalOf
  | 236 => mX12_part
  | 237 => mX12_isPart
  | 238 => mX12_cornersOf
  | 239 => mX12_laysCorner
  | 240 => mX12_limit
  | 241 => mX12_isSet
  | 242 => mX12_corner
  | 243 => mX12_has
  | 244 => mX12_isPoint
  | 245 => mX12_holds
  | 246 => mX12_where
  | 247 => mX12_partWith
  | 248 => mX12_within
  | 249 => mX12_meets
  | 250 => mX12_way
  | 251 => mX12_laysWay
  | 252 => mX12_chains
  | 253 => mX12_findsLeast
  | 254 => mX12_laysOut
  | 255 => mX12_laysIn
  | 256 => mX12_isOff
  | 257 => mX12_goesBack
  | 258 => mX12_anyTime
  | 259 => mX12_over
  | 260 => mX12_mustBe
  | 261 => mX12_canBe
  | 262 => mX12_moved
  | 263 => mX12_laysAhead
  | 264 => mX12_equals
  | 265 => mX12_onWay
  | 266 => mX12_wayTime
  | 267 => mX12_ride
  | 268 => mX12_canBegin
  | 269 => mX12_jumpsOn
  | 270 => mX12_canTake
  | 271 => mX12_takesPoint
  | 272 => mX12_asks
  | 273 => mX12_asksMode
  | 274 => mX12_changes
  | 275 => mX12_ridden
  | 276 => mX12_ended
  | 277 => mX12_followed
  | 278 => mX12_ifStart
  | 279 => mX12_isSize
  | 280 => mX12_canTry
  | 281 => mX12_startsAt
  | 282 => mX12_tries
  | 283 => mX12_goesAside
  | 284 => mX12_comesBack
  | 285 => mX12_ifMost
  | 286 => mX12_ifWithout
  | 287 => mX12_triesWithout
  | 288 => mX12_blamed
  | 289 => mX12_count
  | _ => mX11_init
theorem jtm_0 : jtm 0 = mX11_init := rfl
theorem jtm_1 : jtm 1 = mX3_init := rfl
theorem jtm_2 : jtm 2 = mX4_init := rfl
theorem jtm_3 : jtm 3 = mX4_clear := rfl
theorem jtm_4 : jtm 4 = mX4_set := rfl
theorem jtm_5 : jtm 5 = mX0_init := rfl
theorem jtm_6 : jtm 6 = mX3_clear := rfl
theorem jtm_7 : jtm 7 = mX7_init := rfl
theorem jtm_8 : jtm 8 = mX2_init := rfl
theorem jtm_9 : jtm 9 = mX6_init := rfl
theorem jtm_10 : jtm 10 = mX1_init := rfl
theorem jtm_11 : jtm 11 = mX5_init := rfl
theorem jtm_12 : jtm 12 = mX8_init := rfl
theorem jtm_13 : jtm 13 = mX10_init := rfl
theorem jtm_14 : jtm 14 = mX9_init := rfl
theorem jtm_15 : jtm 15 = mX11_feed := rfl
theorem jtm_16 : jtm 16 = mX11_tapeFour := rfl
theorem jtm_17 : jtm 17 = mX11_text := rfl
theorem jtm_18 : jtm 18 = mX7_read := rfl
theorem jtm_19 : jtm 19 = mJ9_min_7cf53 := rfl
theorem jtm_20 : jtm 20 = mX7_nextToken := rfl
theorem jtm_21 : jtm 21 = mX7_takeWord := rfl
theorem jtm_22 : jtm 22 = mX7_takeDigits := rfl
theorem jtm_23 : jtm 23 = mX7_readLine := rfl
theorem jtm_24 : jtm 24 = mX7_wordOfLanguage := rfl
theorem jtm_25 : jtm 25 = mX7_readMode := rfl
theorem jtm_26 : jtm 26 = mX7_failUnless := rfl
theorem jtm_27 : jtm 27 = mX7_fail := rfl
theorem jtm_28 : jtm 28 = mX3_modeOf := rfl
theorem jtm_29 : jtm 29 = mX7_readNumber := rfl
theorem jtm_30 : jtm 30 = mX7_readNormal := rfl
theorem jtm_31 : jtm 31 = mX6_divisor := rfl
theorem jtm_32 : jtm 32 = mX4_number := rfl
theorem jtm_33 : jtm 33 = mX4_find := rfl
theorem jtm_34 : jtm 34 = mX3_addMode := rfl
theorem jtm_35 : jtm 35 = mX7_readKeep := rfl
theorem jtm_36 : jtm 36 = mX7_readModeName := rfl
theorem jtm_37 : jtm 37 = mX7_readBound := rfl
theorem jtm_38 : jtm 38 = mX7_readHarm := rfl
theorem jtm_39 : jtm 39 = mX7_readEdge := rfl
theorem jtm_40 : jtm 40 = mX3_addEdge := rfl
theorem jtm_41 : jtm 41 = mX7_readWhen := rfl
theorem jtm_42 : jtm 42 = mX7_readDone := rfl
theorem jtm_43 : jtm 43 = mX7_readStart := rfl
theorem jtm_44 : jtm 44 = mX7_readMost := rfl
theorem jtm_45 : jtm 45 = mX1_take := rfl
theorem jtm_46 : jtm 46 = mX1_restart := rfl
theorem jtm_47 : jtm 47 = mX2_loadBox := rfl
theorem jtm_48 : jtm 48 = mX2_cut := rfl
theorem jtm_49 : jtm 49 = mX2_cutAt := rfl
theorem jtm_50 : jtm 50 = mX1_tighten := rfl
theorem jtm_51 : jtm 51 = mX2_shrink := rfl
theorem jtm_52 : jtm 52 = mX2_linkRing := rfl
theorem jtm_53 : jtm 53 = mX4_turn := rfl
theorem jtm_54 : jtm 54 = mX2_settle := rfl
theorem jtm_55 : jtm 55 = mX6_isTooFine := rfl
theorem jtm_56 : jtm 56 = mX2_load := rfl
theorem jtm_57 : jtm 57 = mX1_grow := rfl
theorem jtm_58 : jtm 58 = mX2_growAlong := rfl
theorem jtm_59 : jtm 59 = mX2_cutToBox := rfl
theorem jtm_60 : jtm 60 = mX1_addPart := rfl
theorem jtm_61 : jtm 61 = mX11_fault := rfl
theorem jtm_62 : jtm 62 = mX11_step := rfl
theorem jtm_63 : jtm 63 = mX11_isStepCount := rfl
theorem jtm_64 : jtm 64 = mX1_run := rfl
theorem jtm_65 : jtm 65 = mX1_firstOpen := rfl
theorem jtm_66 : jtm 66 = mX1_firstHarmed := rfl
theorem jtm_67 : jtm 67 = mX1_follow := rfl
theorem jtm_68 : jtm 68 = mX2_loadMoved := rfl
theorem jtm_69 : jtm 69 = mJ9_abs_067f4 := rfl
theorem jtm_70 : jtm 70 = mX1_isCovered := rfl
theorem jtm_71 : jtm 71 = mX1_isOf := rfl
theorem jtm_72 : jtm 72 = mX8_liesIn := rfl
theorem jtm_73 : jtm 73 = mX1_partsOf := rfl
theorem jtm_74 : jtm 74 = mX1_joinLast := rfl
theorem jtm_75 : jtm 75 = mX1_lastOf := rfl
theorem jtm_76 : jtm 76 = mX2_join := rfl
theorem jtm_77 : jtm 77 = mX11_check := rfl
theorem jtm_78 : jtm 78 = mX1_isSafe := rfl
theorem jtm_79 : jtm 79 = mX11_bit := rfl
theorem jtm_80 : jtm 80 = mX1_openParts := rfl
theorem jtm_81 : jtm 81 = mX1_goneParts := rfl
theorem jtm_82 : jtm 82 = mX1_harmedParts := rfl
theorem jtm_83 : jtm 83 = mX11_edge := rfl
theorem jtm_84 : jtm 84 = mX11_isEdge := rfl
theorem jtm_85 : jtm 85 = mX11_normal := rfl
theorem jtm_86 : jtm 86 = mX11_isNormal := rfl
theorem jtm_87 : jtm 87 = mX11_normalOf := rfl
theorem jtm_88 : jtm 88 = mX11_part := rfl
theorem jtm_89 : jtm 89 = mX11_isPart := rfl
theorem jtm_90 : jtm 90 = mX2_listCorners := rfl
theorem jtm_91 : jtm 91 = mX2_meet := rfl
theorem jtm_92 : jtm 92 = mX6_let := rfl
theorem jtm_93 : jtm 93 = mX2_isNewCorner := rfl
theorem jtm_94 : jtm 94 = mX2_orderOfCorners := rfl
theorem jtm_95 : jtm 95 = mX6_order := rfl
theorem jtm_96 : jtm 96 = mJ9_floorDiv_f86c9 := rfl
theorem jtm_97 : jtm 97 = mJ13_compare_74951 := rfl
theorem jtm_98 : jtm 98 = mJ9_floorMod_f86c9 := rfl
theorem jtm_99 : jtm 99 = mX2_sinkCorner := rfl
theorem jtm_100 : jtm 100 = mX11_limit := rfl
theorem jtm_101 : jtm 101 = mX11_isChoice := rfl
theorem jtm_102 : jtm 102 = mX11_regionOf := rfl
theorem jtm_103 : jtm 103 = mX11_corner := rfl
theorem jtm_104 : jtm 104 = mX11_has := rfl
theorem jtm_105 : jtm 105 = mX11_isPoint := rfl
theorem jtm_106 : jtm 106 = mX11_isWithin := rfl
theorem jtm_107 : jtm 107 = mX8_holds := rfl
theorem jtm_108 : jtm 108 = mX11_where := rfl
theorem jtm_109 : jtm 109 = mX11_isMode := rfl
theorem jtm_110 : jtm 110 = mX1_firstWith := rfl
theorem jtm_111 : jtm 111 = mX11_within := rfl
theorem jtm_112 : jtm 112 = mX11_meets := rfl
theorem jtm_113 : jtm 113 = mX11_isBound := rfl
theorem jtm_114 : jtm 114 = mX11_way := rfl
theorem jtm_115 : jtm 115 = mX11_noWay := rfl
theorem jtm_116 : jtm 116 = mX10_find := rfl
theorem jtm_117 : jtm 117 = mX10_beginLast := rfl
theorem jtm_118 : jtm 118 = mX2_least := rfl
theorem jtm_119 : jtm 119 = mX10_note := rfl
theorem jtm_120 : jtm 120 = mX6_isBeyond := rfl
theorem jtm_121 : jtm 121 = mX10_goBack := rfl
theorem jtm_122 : jtm 122 = mX10_noteTime := rfl
theorem jtm_123 : jtm 123 = mX10_shift := rfl
theorem jtm_124 : jtm 124 = mX10_jumpBack := rfl
theorem jtm_125 : jtm 125 = mX2_leastX := rfl
theorem jtm_126 : jtm 126 = mX2_leastOf := rfl
theorem jtm_127 : jtm 127 = mX2_leastY := rfl
theorem jtm_128 : jtm 128 = mX11_onWay := rfl
theorem jtm_129 : jtm 129 = mX11_wayTime := rfl
theorem jtm_130 : jtm 130 = mX10_addTimes := rfl
theorem jtm_131 : jtm 131 = mX11_ride := rfl
theorem jtm_132 : jtm 132 = mX9_canBegin := rfl
theorem jtm_133 : jtm 133 = mX9_go := rfl
theorem jtm_134 : jtm 134 = mX9_note := rfl
theorem jtm_135 : jtm 135 = mX9_firstEdge := rfl
theorem jtm_136 : jtm 136 = mX9_canTake := rfl
theorem jtm_137 : jtm 137 = mX9_narrow := rfl
theorem jtm_138 : jtm 138 = mX9_narrowBy := rfl
theorem jtm_139 : jtm 139 = mX9_narrowToMode := rfl
theorem jtm_140 : jtm 140 = mX9_jump := rfl
theorem jtm_141 : jtm 141 = mX9_moveSize := rfl
theorem jtm_142 : jtm 142 = mX11_ridden := rfl
theorem jtm_143 : jtm 143 = mX11_ended := rfl
theorem jtm_144 : jtm 144 = mX11_followed := rfl
theorem jtm_145 : jtm 145 = mX11_ifStart := rfl
theorem jtm_146 : jtm 146 = mX11_isSpan := rfl
theorem jtm_147 : jtm 147 = mX11_isForesight := rfl
theorem jtm_148 : jtm 148 = mX11_foresee := rfl
theorem jtm_149 : jtm 149 = mX11_ifMost := rfl
theorem jtm_150 : jtm 150 = mX11_ifWithout := rfl
theorem jtm_151 : jtm 151 = mX11_blamed := rfl
theorem jtm_152 : jtm 152 = mX11_count := rfl
theorem jtm_153 : jtm 153 = mX11_mode := rfl
theorem jtm_154 : jtm 154 = mX3_edgesFrom := rfl
theorem jtm_155 : jtm 155 = mX12_init := rfl
theorem jtm_156 : jtm 156 = mX12_readText := rfl
theorem jtm_157 : jtm 157 = mX12_normalFor := rfl
theorem jtm_158 : jtm 158 = mX12_common := rfl
theorem jtm_159 : jtm 159 = mX12_normalIn := rfl
theorem jtm_160 : jtm 160 = mX12_wrongAt := rfl
theorem jtm_161 : jtm 161 = mX12_token := rfl
theorem jtm_162 : jtm 162 = mX12_here := rfl
theorem jtm_163 : jtm 163 = mX12_isSmall := rfl
theorem jtm_164 : jtm 164 = mX12_wordHere := rfl
theorem jtm_165 : jtm 165 = mX12_isDigit := rfl
theorem jtm_166 : jtm 166 = mX12_readLine := rfl
theorem jtm_167 : jtm 167 = mX12_readOwn := rfl
theorem jtm_168 : jtm 168 = mX12_wrong := rfl
theorem jtm_169 : jtm 169 = mX12_goOn := rfl
theorem jtm_170 : jtm 170 = mX12_isName := rfl
theorem jtm_171 : jtm 171 = mX12_modeOf := rfl
theorem jtm_172 : jtm 172 = mX12_number := rfl
theorem jtm_173 : jtm 173 = mX12_numeral := rfl
theorem jtm_174 : jtm 174 = mX12_isSign := rfl
theorem jtm_175 : jtm 175 = mX12_readKept := rfl
theorem jtm_176 : jtm 176 = mX12_readMode := rfl
theorem jtm_177 : jtm 177 = mX12_readBound := rfl
theorem jtm_178 : jtm 178 = mX12_readEdge := rfl
theorem jtm_179 : jtm 179 = mX12_readWhen := rfl
theorem jtm_180 : jtm 180 = mX12_latest := rfl
theorem jtm_181 : jtm 181 = mX12_readDeed := rfl
theorem jtm_182 : jtm 182 = mX12_readStart := rfl
theorem jtm_183 : jtm 183 = mX12_readMost := rfl
theorem jtm_184 : jtm 184 = mX12_becomes := rfl
theorem jtm_185 : jtm 185 = mX12_begins := rfl
theorem jtm_186 : jtm 186 = mX12_clears := rfl
theorem jtm_187 : jtm 187 = mX12_normals := rfl
theorem jtm_188 : jtm 188 = mX12_sets := rfl
theorem jtm_189 : jtm 189 = mX12_kept := rfl
theorem jtm_190 : jtm 190 = mX12_boxed := rfl
theorem jtm_191 : jtm 191 = mX12_cuts := rfl
theorem jtm_192 : jtm 192 = mX12_compares := rfl
theorem jtm_193 : jtm 193 = mX12_floor := rfl
theorem jtm_194 : jtm 194 = mX12_modeAt := rfl
theorem jtm_195 : jtm 195 = mX12_cutsBy := rfl
theorem jtm_196 : jtm 196 = mX12_tightens := rfl
theorem jtm_197 : jtm 197 = mX12_isCorner := rfl
theorem jtm_198 : jtm 198 = mX12_ofNormal := rfl
theorem jtm_199 : jtm 199 = mX12_gcd := rfl
theorem jtm_200 : jtm 200 = mX12_isTooFar := rfl
theorem jtm_201 : jtm 201 = mX12_isBeyond := rfl
theorem jtm_202 : jtm 202 = mX12_halts := rfl
theorem jtm_203 : jtm 203 = mX12_laysSet := rfl
theorem jtm_204 : jtm 204 = mX12_setAt := rfl
theorem jtm_205 : jtm 205 = mX12_grows := rfl
theorem jtm_206 : jtm 206 = mX12_makes := rfl
theorem jtm_207 : jtm 207 = mX12_isHarm := rfl
theorem jtm_208 : jtm 208 = mX12_isSome := rfl
theorem jtm_209 : jtm 209 = mX12_thrown := rfl
theorem jtm_210 : jtm 210 = mX12_feed := rfl
theorem jtm_211 : jtm 211 = mX12_text := rfl
theorem jtm_212 : jtm 212 = mX12_fault := rfl
theorem jtm_213 : jtm 213 = mX12_step := rfl
theorem jtm_214 : jtm 214 = mX12_runs := rfl
theorem jtm_215 : jtm 215 = mX12_firstOpen := rfl
theorem jtm_216 : jtm 216 = mX12_its := rfl
theorem jtm_217 : jtm 217 = mX12_edgeAt := rfl
theorem jtm_218 : jtm 218 = mX12_goes := rfl
theorem jtm_219 : jtm 219 = mX12_takesSet := rfl
theorem jtm_220 : jtm 220 = mX12_jumps := rfl
theorem jtm_221 : jtm 221 = mX12_comes := rfl
theorem jtm_222 : jtm 222 = mX12_isCovered := rfl
theorem jtm_223 : jtm 223 = mX12_isWithin := rfl
theorem jtm_224 : jtm 224 = mX12_livingOf := rfl
theorem jtm_225 : jtm 225 = mX12_joins := rfl
theorem jtm_226 : jtm 226 = mX12_check := rfl
theorem jtm_227 : jtm 227 = mX12_safe := rfl
theorem jtm_228 : jtm 228 = mX12_firstHarmed := rfl
theorem jtm_229 : jtm 229 = mX12_manyOf := rfl
theorem jtm_230 : jtm 230 = mX12_mode := rfl
theorem jtm_231 : jtm 231 = mX12_isMode := rfl
theorem jtm_232 : jtm 232 = mX12_edgesFrom := rfl
theorem jtm_233 : jtm 233 = mX12_edge := rfl
theorem jtm_234 : jtm 234 = mX12_normal := rfl
theorem jtm_235 : jtm 235 = mX12_normalOf := rfl
theorem jtm_236 : jtm 236 = mX12_part := rfl
theorem jtm_237 : jtm 237 = mX12_isPart := rfl
theorem jtm_238 : jtm 238 = mX12_cornersOf := rfl
theorem jtm_239 : jtm 239 = mX12_laysCorner := rfl
theorem jtm_240 : jtm 240 = mX12_limit := rfl
theorem jtm_241 : jtm 241 = mX12_isSet := rfl
theorem jtm_242 : jtm 242 = mX12_corner := rfl
theorem jtm_243 : jtm 243 = mX12_has := rfl
theorem jtm_244 : jtm 244 = mX12_isPoint := rfl
theorem jtm_245 : jtm 245 = mX12_holds := rfl
theorem jtm_246 : jtm 246 = mX12_where := rfl
theorem jtm_247 : jtm 247 = mX12_partWith := rfl
theorem jtm_248 : jtm 248 = mX12_within := rfl
theorem jtm_249 : jtm 249 = mX12_meets := rfl
theorem jtm_250 : jtm 250 = mX12_way := rfl
theorem jtm_251 : jtm 251 = mX12_laysWay := rfl
theorem jtm_252 : jtm 252 = mX12_chains := rfl
theorem jtm_253 : jtm 253 = mX12_findsLeast := rfl
theorem jtm_254 : jtm 254 = mX12_laysOut := rfl
theorem jtm_255 : jtm 255 = mX12_laysIn := rfl
theorem jtm_256 : jtm 256 = mX12_isOff := rfl
theorem jtm_257 : jtm 257 = mX12_goesBack := rfl
theorem jtm_258 : jtm 258 = mX12_anyTime := rfl
theorem jtm_259 : jtm 259 = mX12_over := rfl
theorem jtm_260 : jtm 260 = mX12_mustBe := rfl
theorem jtm_261 : jtm 261 = mX12_canBe := rfl
theorem jtm_262 : jtm 262 = mX12_moved := rfl
theorem jtm_263 : jtm 263 = mX12_laysAhead := rfl
theorem jtm_264 : jtm 264 = mX12_equals := rfl
theorem jtm_265 : jtm 265 = mX12_onWay := rfl
theorem jtm_266 : jtm 266 = mX12_wayTime := rfl
theorem jtm_267 : jtm 267 = mX12_ride := rfl
theorem jtm_268 : jtm 268 = mX12_canBegin := rfl
theorem jtm_269 : jtm 269 = mX12_jumpsOn := rfl
theorem jtm_270 : jtm 270 = mX12_canTake := rfl
theorem jtm_271 : jtm 271 = mX12_takesPoint := rfl
theorem jtm_272 : jtm 272 = mX12_asks := rfl
theorem jtm_273 : jtm 273 = mX12_asksMode := rfl
theorem jtm_274 : jtm 274 = mX12_changes := rfl
theorem jtm_275 : jtm 275 = mX12_ridden := rfl
theorem jtm_276 : jtm 276 = mX12_ended := rfl
theorem jtm_277 : jtm 277 = mX12_followed := rfl
theorem jtm_278 : jtm 278 = mX12_ifStart := rfl
theorem jtm_279 : jtm 279 = mX12_isSize := rfl
theorem jtm_280 : jtm 280 = mX12_canTry := rfl
theorem jtm_281 : jtm 281 = mX12_startsAt := rfl
theorem jtm_282 : jtm 282 = mX12_tries := rfl
theorem jtm_283 : jtm 283 = mX12_goesAside := rfl
theorem jtm_284 : jtm 284 = mX12_comesBack := rfl
theorem jtm_285 : jtm 285 = mX12_ifMost := rfl
theorem jtm_286 : jtm 286 = mX12_ifWithout := rfl
theorem jtm_287 : jtm 287 = mX12_triesWithout := rfl
theorem jtm_288 : jtm 288 = mX12_blamed := rfl
theorem jtm_289 : jtm 289 = mX12_count := rfl
def jtsw (n : Nat) : Nat × List Nat := match n with
  | 0 => (141, [76, 83, 90, 97, 104, 111, 119, 127, 134])
  | 1 => (129, [52, 63, 72, 81, 89, 97, 105, 113, 121])
  | 2 => (141, [56, 66, 76, 89, 101, 113, 127])
  | 3 => (166, [76, 81, 86, 91, 96, 104, 112, 120, 128, 147])
  | 4 => (140, [88, 101, 114, 127])
  | 5 => (96, [60, 68, 77, 85])
  | 6 => (100, [44, 52, 60, 71, 79, 87, 95])
  | 7 => (120, [56, 66, 76, 89, 102, 111])
  | 8 => (108, [56, 61, 67, 73, 78, 84, 91, 98, 103])
  | 9 => (84, [60, 60, 60, 60, 72, 78])
  | 10 => (91, [48, 55, 62, 69, 74, 79, 86])
  | _ => (0, [])
theorem jtsw_0 : jtsw 0 = (141, [76, 83, 90, 97, 104, 111, 119, 127, 134]) := rfl
theorem jtsw_1 : jtsw 1 = (129, [52, 63, 72, 81, 89, 97, 105, 113, 121]) := rfl
theorem jtsw_2 : jtsw 2 = (141, [56, 66, 76, 89, 101, 113, 127]) := rfl
theorem jtsw_3 : jtsw 3 = (166, [76, 81, 86, 91, 96, 104, 112, 120, 128, 147]) := rfl
theorem jtsw_4 : jtsw 4 = (140, [88, 101, 114, 127]) := rfl
theorem jtsw_5 : jtsw 5 = (96, [60, 68, 77, 85]) := rfl
theorem jtsw_6 : jtsw 6 = (100, [44, 52, 60, 71, 79, 87, 95]) := rfl
theorem jtsw_7 : jtsw 7 = (120, [56, 66, 76, 89, 102, 111]) := rfl
theorem jtsw_8 : jtsw 8 = (108, [56, 61, 67, 73, 78, 84, 91, 98, 103]) := rfl
theorem jtsw_9 : jtsw 9 = (84, [60, 60, 60, 60, 72, 78]) := rfl
theorem jtsw_10 : jtsw 10 = (91, [48, 55, 62, 69, 74, 79, 86]) := rfl
def jtsl (n : Nat) : Nat × List (Int × Nat) := match n with
  | 0 => (38, [(0, 28), (1, 33)])
  | 1 => (66, [(0, 40), (1, 53)])
  | _ => (0, [])
theorem jin0 : ∀ k, k < 6 → jat (([1111, 1113, 1115, 1117, 1119, 1121] : List Nat).getD k 0) (u_lay RX0 TX0 k) = true := by decide +kernel
theorem jfc0 : ∀ k, k < 6 → (jtf 0)[k]? = some (jtc (tyX0 k)) := by decide +kernel
theorem jin1 : ∀ k, k < 12 → jat (([3026, 3028, 3030, 3032, 3034, 3036, 3038, 3040, 3042, 3044, 3046, 3048] : List Nat).getD k 0) (u_lay RX1 TX1 k) = true := by decide +kernel
theorem jfc1 : ∀ k, k < 12 → (jtf 1)[k]? = some (jtc (tyX1 k)) := by decide +kernel
theorem jin2 : ∀ k, k < 9 → jat (([2140, 2142, 2144, 2146, 2148, 2150, 2152, 2154, 2156] : List Nat).getD k 0) (u_lay RX2 TX2 k) = true := by decide +kernel
theorem jfc2 : ∀ k, k < 9 → (jtf 2)[k]? = some (jtc (tyX2 k)) := by decide +kernel
theorem jin3 : ∀ k, k < 16 → jat (([1201, 1203, 1205, 1207, 1209, 1211, 1213, 1215, 1217, 1219, 1221, 1223, 1225, 1227, 1229, 1231] : List Nat).getD k 0) (u_lay RX3 TX3 k) = true := by decide +kernel
theorem jfc3 : ∀ k, k < 16 → (jtf 3)[k]? = some (jtc (tyX3 k)) := by decide +kernel
theorem jin4 : ∀ k, k < 4 → jat (([1071, 1073, 1075, 1077] : List Nat).getD k 0) (u_lay RX4 TX4 k) = true := by decide +kernel
theorem jfc4 : ∀ k, k < 4 → (jtf 4)[k]? = some (jtc (tyX4 k)) := by decide +kernel
theorem jin5 : ∀ k, k < 10 → jat (([2220, 2222, 2224, 2226, 2228, 2230, 2232, 2234, 2236, 2238] : List Nat).getD k 0) (u_lay RX5 TX5 k) = true := by decide +kernel
theorem jfc5 : ∀ k, k < 10 → (jtf 5)[k]? = some (jtc (tyX5 k)) := by decide +kernel
theorem jin6 : ∀ k, k < 2 → jat (([2121, 2123] : List Nat).getD k 0) (u_lay RX6 TX6 k) = true := by decide +kernel
theorem jfc6 : ∀ k, k < 2 → (jtf 6)[k]? = some (jtc (tyX6 k)) := by decide +kernel
theorem jin7 : ∀ k, k < 15 → jat (([2067, 2069, 2071, 2073, 2075, 2077, 2079, 2081, 2083, 2085, 2087, 2089, 2091, 2093, 2095] : List Nat).getD k 0) (u_lay RX7 TX7 k) = true := by decide +kernel
theorem jfc7 : ∀ k, k < 15 → (jtf 7)[k]? = some (jtc (tyX7 k)) := by decide +kernel
theorem jin8 : ∀ k, k < 2 → jat (([2186, 2188] : List Nat).getD k 0) (u_lay RX8 TX8 k) = true := by decide +kernel
theorem jfc8 : ∀ k, k < 2 → (jtf 8)[k]? = some (jtc (tyX8 k)) := by decide +kernel
theorem jin9 : ∀ k, k < 17 → jat (([3112, 3114, 3116, 3118, 3120, 3122, 3124, 3126, 3128, 3130, 3132, 3134, 3136, 3138, 3140, 3142, 3144] : List Nat).getD k 0) (u_lay RX9 TX9 k) = true := by decide +kernel
theorem jfc9 : ∀ k, k < 17 → (jtf 9)[k]? = some (jtc (tyX9 k)) := by decide +kernel
theorem jin10 : ∀ k, k < 6 → jat (([3068, 3070, 3072, 3074, 3076, 3078] : List Nat).getD k 0) (u_lay RX10 TX10 k) = true := by decide +kernel
theorem jfc10 : ∀ k, k < 6 → (jtf 10)[k]? = some (jtc (tyX10 k)) := by decide +kernel
theorem jin11 : ∀ k, k < 12 → jat (([3159, 3161, 3163, 3165, 3167, 3169, 3171, 3173, 3175, 3177, 3179, 3181] : List Nat).getD k 0) (u_lay RX11 TX11 k) = true := by decide +kernel
theorem jfc11 : ∀ k, k < 12 → (jtf 11)[k]? = some (jtc (tyX11 k)) := by decide +kernel
theorem jin12 : ∀ k, k < 55 → jat (([7164, 7166, 7168, 7170, 7172, 7174, 7176, 7178, 7180, 7182, 7184, 7186, 7188, 7190, 7192, 7194, 7196, 7198, 7200, 7202, 7204, 7206, 7208, 7210, 7212, 7214, 7216, 7218, 7220, 7222, 7224, 7226, 7228, 7230, 7232, 7234, 7236, 7238, 8000, 8002, 8004, 8006, 8008, 8010, 8012, 8014, 8016, 8018, 8020, 8022, 8024, 8026, 8028, 8030, 8032] : List Nat).getD k 0) (u_lay RX12 TX12 k) = true := by decide +kernel
theorem jfc12 : ∀ k, k < 55 → (jtf 12)[k]? = some (jtc (tyX12 k)) := by decide +kernel
theorem jcls_all : ∀ (ci : Nat) (r : vw_C), vwCl[ci]? = some r → jcls ci r := by
  intro ci r h
  match ci, h with
  | 0, h => cases h; exact ⟨fun w hw => by obtain ⟨k, hk, rfl⟩ := List.mem_map.mp hw; exact jat_mem (jin0 k (List.mem_range.mp hk)), ⟨tyX0, fun k hk => ⟨tyX0_ok k hk, jfc0 k hk⟩⟩, nmX0, rfl⟩
  | 1, h => cases h; exact ⟨fun w hw => by obtain ⟨k, hk, rfl⟩ := List.mem_map.mp hw; exact jat_mem (jin1 k (List.mem_range.mp hk)), ⟨tyX1, fun k hk => ⟨tyX1_ok k hk, jfc1 k hk⟩⟩, nmX1, rfl⟩
  | 2, h => cases h; exact ⟨fun w hw => by obtain ⟨k, hk, rfl⟩ := List.mem_map.mp hw; exact jat_mem (jin2 k (List.mem_range.mp hk)), ⟨tyX2, fun k hk => ⟨tyX2_ok k hk, jfc2 k hk⟩⟩, nmX2, rfl⟩
  | 3, h => cases h; exact ⟨fun w hw => by obtain ⟨k, hk, rfl⟩ := List.mem_map.mp hw; exact jat_mem (jin3 k (List.mem_range.mp hk)), ⟨tyX3, fun k hk => ⟨tyX3_ok k hk, jfc3 k hk⟩⟩, nmX3, rfl⟩
  | 4, h => cases h; exact ⟨fun w hw => by obtain ⟨k, hk, rfl⟩ := List.mem_map.mp hw; exact jat_mem (jin4 k (List.mem_range.mp hk)), ⟨tyX4, fun k hk => ⟨tyX4_ok k hk, jfc4 k hk⟩⟩, nmX4, rfl⟩
  | 5, h => cases h; exact ⟨fun w hw => by obtain ⟨k, hk, rfl⟩ := List.mem_map.mp hw; exact jat_mem (jin5 k (List.mem_range.mp hk)), ⟨tyX5, fun k hk => ⟨tyX5_ok k hk, jfc5 k hk⟩⟩, nmX5, rfl⟩
  | 6, h => cases h; exact ⟨fun w hw => by obtain ⟨k, hk, rfl⟩ := List.mem_map.mp hw; exact jat_mem (jin6 k (List.mem_range.mp hk)), ⟨tyX6, fun k hk => ⟨tyX6_ok k hk, jfc6 k hk⟩⟩, nmX6, rfl⟩
  | 7, h => cases h; exact ⟨fun w hw => by obtain ⟨k, hk, rfl⟩ := List.mem_map.mp hw; exact jat_mem (jin7 k (List.mem_range.mp hk)), ⟨tyX7, fun k hk => ⟨tyX7_ok k hk, jfc7 k hk⟩⟩, nmX7, rfl⟩
  | 8, h => cases h; exact ⟨fun w hw => by obtain ⟨k, hk, rfl⟩ := List.mem_map.mp hw; exact jat_mem (jin8 k (List.mem_range.mp hk)), ⟨tyX8, fun k hk => ⟨tyX8_ok k hk, jfc8 k hk⟩⟩, nmX8, rfl⟩
  | 9, h => cases h; exact ⟨fun w hw => by obtain ⟨k, hk, rfl⟩ := List.mem_map.mp hw; exact jat_mem (jin9 k (List.mem_range.mp hk)), ⟨tyX9, fun k hk => ⟨tyX9_ok k hk, jfc9 k hk⟩⟩, nmX9, rfl⟩
  | 10, h => cases h; exact ⟨fun w hw => by obtain ⟨k, hk, rfl⟩ := List.mem_map.mp hw; exact jat_mem (jin10 k (List.mem_range.mp hk)), ⟨tyX10, fun k hk => ⟨tyX10_ok k hk, jfc10 k hk⟩⟩, nmX10, rfl⟩
  | 11, h => cases h; exact ⟨fun w hw => by obtain ⟨k, hk, rfl⟩ := List.mem_map.mp hw; exact jat_mem (jin11 k (List.mem_range.mp hk)), ⟨tyX11, fun k hk => ⟨tyX11_ok k hk, jfc11 k hk⟩⟩, nmX11, rfl⟩
  | 12, h => cases h; exact ⟨fun w hw => by obtain ⟨k, hk, rfl⟩ := List.mem_map.mp hw; exact jat_mem (jin12 k (List.mem_range.mp hk)), ⟨tyX12, fun k hk => ⟨tyX12_ok k hk, jfc12 k hk⟩⟩, nmX12, rfl⟩
  | n + 13, h => simp [vwCl] at h
/-- the classes' names -/
def jcn (o : Nat) : String := match o with
  | 0 => RX0
  | 1 => RX1
  | 2 => RX2
  | 3 => RX3
  | 4 => RX4
  | 5 => RX5
  | 6 => RX6
  | 7 => RX7
  | 8 => RX8
  | 9 => RX9
  | 10 => RX10
  | 11 => RX11
  | 12 => RX12
  | 13 => RJ9
  | 14 => RJ13
  | 15 => RL
  | _ => ""
theorem jat_m2 {k l : Nat} {w : Cond} (h : (jtk k)[l]? = some w) (hg : goodWord w = true) : w ∈ jtbl := List.mem_filter.mpr ⟨jtk_mem (List.mem_of_getElem? h), hg⟩
/-- tables in rows of sixteen -/
def jT {α : Type} (t : List (List α)) (d : α) (n : Nat) : α := (t.getD (n / 16) []).getD (n % 16) d
theorem jT_ok {α : Type} {F : α → Prop} {t : List (List α)} (h : ∀ r ∈ t, ∀ e ∈ r, F e) (d : α) (n : Nat) : jT t d n = d ∨ F (jT t d n) := by
  unfold jT
  generalize n / 16 = a
  generalize n % 16 = b
  by_cases ha : a < t.length
  · by_cases hb : b < (t.getD a []).length
    · refine Or.inr (h (t.getD a []) ?_ _ ?_)
      · rw [List.getD_eq_getElem?_getD, List.getElem?_eq_getElem ha]
        exact List.getElem_mem ha
      · rw [List.getD_eq_getElem?_getD (l := t.getD a []), List.getElem?_eq_getElem hb]
        exact List.getElem_mem hb
    · exact Or.inl (by rw [List.getD_eq_getElem?_getD (l := t.getD a []), List.getElem?_eq_none (by omega)]; rfl)
  · exact Or.inl (by rw [List.getD_eq_getElem?_getD (l := t), List.getElem?_eq_none (by omega)]; rfl)
def jfl_F (e : Nat × Nat × Nat × Nat) : Prop := ∃ r : vw_C, vwCl[e.2.2.1]? = some r ∧ Cond.fieldLink (jcn e.1) e.2.1 (r.2.1 e.2.2.2).1 (r.2.1 e.2.2.2).2.1 (r.2.1 e.2.2.2).2.2.1 ∈ jtbl
def jfl_r0 : List (Nat × Nat × Nat × Nat) := [(4, 24, 4, 3), (4, 9, 4, 0), (4, 15, 4, 1), (4, 18, 4, 2), (3, 12, 3, 0), (3, 60, 3, 12), (3, 64, 3, 13), (3, 67, 3, 14), (3, 70, 3, 15), (11, 69, 11, 1), (11, 9, 11, 0), (11, 30, 11, 6), (11, 24, 11, 5), (11, 80, 7, 13), (11, 83, 11, 2), (11, 84, 7, 14)]
set_option maxRecDepth 8000 in
theorem jfl_0 : jfl_F (4, 24, 4, 3) := ⟨(RX4, TX4, 4), rfl, jat_m2 (k := 1) (l := 65) rfl rfl⟩
set_option maxRecDepth 8000 in
theorem jfl_1 : jfl_F (4, 9, 4, 0) := ⟨(RX4, TX4, 4), rfl, jat_m2 (k := 1) (l := 53) rfl rfl⟩
set_option maxRecDepth 8000 in
theorem jfl_2 : jfl_F (4, 15, 4, 1) := ⟨(RX4, TX4, 4), rfl, jat_m2 (k := 1) (l := 58) rfl rfl⟩
set_option maxRecDepth 8000 in
theorem jfl_3 : jfl_F (4, 18, 4, 2) := ⟨(RX4, TX4, 4), rfl, jat_m2 (k := 1) (l := 63) rfl rfl⟩
set_option maxRecDepth 8000 in
theorem jfl_4 : jfl_F (3, 12, 3, 0) := ⟨(RX3, TX3, 16), rfl, jat_m2 (k := 1) (l := 129) rfl rfl⟩
set_option maxRecDepth 8000 in
theorem jfl_5 : jfl_F (3, 60, 3, 12) := ⟨(RX3, TX3, 16), rfl, jat_m2 (k := 1) (l := 185) rfl rfl⟩
set_option maxRecDepth 8000 in
theorem jfl_6 : jfl_F (3, 64, 3, 13) := ⟨(RX3, TX3, 16), rfl, jat_m2 (k := 1) (l := 188) rfl rfl⟩
set_option maxRecDepth 8000 in
theorem jfl_7 : jfl_F (3, 67, 3, 14) := ⟨(RX3, TX3, 16), rfl, jat_m2 (k := 1) (l := 193) rfl rfl⟩
set_option maxRecDepth 8000 in
theorem jfl_8 : jfl_F (3, 70, 3, 15) := ⟨(RX3, TX3, 16), rfl, jat_m2 (k := 1) (l := 198) rfl rfl⟩
set_option maxRecDepth 8000 in
theorem jfl_9 : jfl_F (11, 69, 11, 1) := ⟨(RX11, TX11, 12), rfl, jat_m2 (k := 3) (l := 148) rfl rfl⟩
set_option maxRecDepth 8000 in
theorem jfl_10 : jfl_F (11, 9, 11, 0) := ⟨(RX11, TX11, 12), rfl, jat_m2 (k := 3) (l := 147) rfl rfl⟩
set_option maxRecDepth 8000 in
theorem jfl_11 : jfl_F (11, 30, 11, 6) := ⟨(RX11, TX11, 12), rfl, jat_m2 (k := 3) (l := 153) rfl rfl⟩
set_option maxRecDepth 8000 in
theorem jfl_12 : jfl_F (11, 24, 11, 5) := ⟨(RX11, TX11, 12), rfl, jat_m2 (k := 3) (l := 152) rfl rfl⟩
set_option maxRecDepth 8000 in
theorem jfl_13 : jfl_F (11, 80, 7, 13) := ⟨(RX7, TX7, 15), rfl, jat_m2 (k := 2) (l := 64) rfl rfl⟩
set_option maxRecDepth 8000 in
theorem jfl_14 : jfl_F (11, 83, 11, 2) := ⟨(RX11, TX11, 12), rfl, jat_m2 (k := 3) (l := 149) rfl rfl⟩
set_option maxRecDepth 8000 in
theorem jfl_15 : jfl_F (11, 84, 7, 14) := ⟨(RX7, TX7, 15), rfl, jat_m2 (k := 2) (l := 66) rfl rfl⟩
theorem jfl_o0 : ∀ e ∈ jfl_r0, jfl_F e := List.forall_mem_cons.mpr ⟨jfl_0, List.forall_mem_cons.mpr ⟨jfl_1, List.forall_mem_cons.mpr ⟨jfl_2, List.forall_mem_cons.mpr ⟨jfl_3, List.forall_mem_cons.mpr ⟨jfl_4, List.forall_mem_cons.mpr ⟨jfl_5, List.forall_mem_cons.mpr ⟨jfl_6, List.forall_mem_cons.mpr ⟨jfl_7, List.forall_mem_cons.mpr ⟨jfl_8, List.forall_mem_cons.mpr ⟨jfl_9, List.forall_mem_cons.mpr ⟨jfl_10, List.forall_mem_cons.mpr ⟨jfl_11, List.forall_mem_cons.mpr ⟨jfl_12, List.forall_mem_cons.mpr ⟨jfl_13, List.forall_mem_cons.mpr ⟨jfl_14, List.forall_mem_cons.mpr ⟨jfl_15, fun _ h => absurd h List.not_mem_nil⟩⟩⟩⟩⟩⟩⟩⟩⟩⟩⟩⟩⟩⟩⟩⟩
def jfl_r1 : List (Nat × Nat × Nat × Nat) := [(11, 13, 11, 3), (11, 20, 11, 4), (11, 46, 11, 8), (11, 65, 11, 11), (11, 92, 9, 3), (11, 96, 7, 12), (7, 27, 7, 1), (7, 37, 7, 2), (7, 40, 7, 3), (7, 43, 7, 12), (7, 46, 7, 13), (7, 49, 7, 14), (7, 52, 7, 10), (7, 56, 7, 11), (7, 68, 7, 4), (7, 74, 7, 5)]
set_option maxRecDepth 8000 in
theorem jfl_16 : jfl_F (11, 13, 11, 3) := ⟨(RX11, TX11, 12), rfl, jat_m2 (k := 3) (l := 150) rfl rfl⟩
set_option maxRecDepth 8000 in
theorem jfl_17 : jfl_F (11, 20, 11, 4) := ⟨(RX11, TX11, 12), rfl, jat_m2 (k := 3) (l := 151) rfl rfl⟩
set_option maxRecDepth 8000 in
theorem jfl_18 : jfl_F (11, 46, 11, 8) := ⟨(RX11, TX11, 12), rfl, jat_m2 (k := 3) (l := 155) rfl rfl⟩
set_option maxRecDepth 8000 in
theorem jfl_19 : jfl_F (11, 65, 11, 11) := ⟨(RX11, TX11, 12), rfl, jat_m2 (k := 3) (l := 158) rfl rfl⟩
set_option maxRecDepth 8000 in
theorem jfl_20 : jfl_F (11, 92, 9, 3) := ⟨(RX9, TX9, 17), rfl, jat_m2 (k := 3) (l := 96) rfl rfl⟩
set_option maxRecDepth 8000 in
theorem jfl_21 : jfl_F (11, 96, 7, 12) := ⟨(RX7, TX7, 15), rfl, jat_m2 (k := 2) (l := 62) rfl rfl⟩
set_option maxRecDepth 8000 in
theorem jfl_22 : jfl_F (7, 27, 7, 1) := ⟨(RX7, TX7, 15), rfl, jat_m2 (k := 2) (l := 50) rfl rfl⟩
set_option maxRecDepth 8000 in
theorem jfl_23 : jfl_F (7, 37, 7, 2) := ⟨(RX7, TX7, 15), rfl, jat_m2 (k := 2) (l := 51) rfl rfl⟩
set_option maxRecDepth 8000 in
theorem jfl_24 : jfl_F (7, 40, 7, 3) := ⟨(RX7, TX7, 15), rfl, jat_m2 (k := 2) (l := 52) rfl rfl⟩
set_option maxRecDepth 8000 in
theorem jfl_25 : jfl_F (7, 43, 7, 12) := ⟨(RX7, TX7, 15), rfl, jat_m2 (k := 2) (l := 61) rfl rfl⟩
set_option maxRecDepth 8000 in
theorem jfl_26 : jfl_F (7, 46, 7, 13) := ⟨(RX7, TX7, 15), rfl, jat_m2 (k := 2) (l := 63) rfl rfl⟩
set_option maxRecDepth 8000 in
theorem jfl_27 : jfl_F (7, 49, 7, 14) := ⟨(RX7, TX7, 15), rfl, jat_m2 (k := 2) (l := 65) rfl rfl⟩
set_option maxRecDepth 8000 in
theorem jfl_28 : jfl_F (7, 52, 7, 10) := ⟨(RX7, TX7, 15), rfl, jat_m2 (k := 2) (l := 59) rfl rfl⟩
set_option maxRecDepth 8000 in
theorem jfl_29 : jfl_F (7, 56, 7, 11) := ⟨(RX7, TX7, 15), rfl, jat_m2 (k := 2) (l := 60) rfl rfl⟩
set_option maxRecDepth 8000 in
theorem jfl_30 : jfl_F (7, 68, 7, 4) := ⟨(RX7, TX7, 15), rfl, jat_m2 (k := 2) (l := 53) rfl rfl⟩
set_option maxRecDepth 8000 in
theorem jfl_31 : jfl_F (7, 74, 7, 5) := ⟨(RX7, TX7, 15), rfl, jat_m2 (k := 2) (l := 54) rfl rfl⟩
theorem jfl_o1 : ∀ e ∈ jfl_r1, jfl_F e := List.forall_mem_cons.mpr ⟨jfl_16, List.forall_mem_cons.mpr ⟨jfl_17, List.forall_mem_cons.mpr ⟨jfl_18, List.forall_mem_cons.mpr ⟨jfl_19, List.forall_mem_cons.mpr ⟨jfl_20, List.forall_mem_cons.mpr ⟨jfl_21, List.forall_mem_cons.mpr ⟨jfl_22, List.forall_mem_cons.mpr ⟨jfl_23, List.forall_mem_cons.mpr ⟨jfl_24, List.forall_mem_cons.mpr ⟨jfl_25, List.forall_mem_cons.mpr ⟨jfl_26, List.forall_mem_cons.mpr ⟨jfl_27, List.forall_mem_cons.mpr ⟨jfl_28, List.forall_mem_cons.mpr ⟨jfl_29, List.forall_mem_cons.mpr ⟨jfl_30, List.forall_mem_cons.mpr ⟨jfl_31, fun _ h => absurd h List.not_mem_nil⟩⟩⟩⟩⟩⟩⟩⟩⟩⟩⟩⟩⟩⟩⟩⟩
def jfl_r2 : List (Nat × Nat × Nat × Nat) := [(7, 119, 7, 6), (7, 212, 7, 7), (7, 77, 7, 8), (7, 11, 7, 0), (7, 116, 3, 12), (3, 18, 3, 1), (7, 179, 7, 9), (7, 203, 3, 0), (3, 22, 3, 2), (3, 25, 3, 3), (3, 30, 3, 4), (3, 73, 0, 5), (3, 34, 3, 5), (7, 139, 3, 4), (7, 174, 0, 5), (7, 182, 0, 0)]
set_option maxRecDepth 8000 in
theorem jfl_32 : jfl_F (7, 119, 7, 6) := ⟨(RX7, TX7, 15), rfl, jat_m2 (k := 2) (l := 55) rfl rfl⟩
set_option maxRecDepth 8000 in
theorem jfl_33 : jfl_F (7, 212, 7, 7) := ⟨(RX7, TX7, 15), rfl, jat_m2 (k := 2) (l := 56) rfl rfl⟩
set_option maxRecDepth 8000 in
theorem jfl_34 : jfl_F (7, 77, 7, 8) := ⟨(RX7, TX7, 15), rfl, jat_m2 (k := 2) (l := 57) rfl rfl⟩
set_option maxRecDepth 8000 in
theorem jfl_35 : jfl_F (7, 11, 7, 0) := ⟨(RX7, TX7, 15), rfl, jat_m2 (k := 2) (l := 49) rfl rfl⟩
set_option maxRecDepth 8000 in
theorem jfl_36 : jfl_F (7, 116, 3, 12) := ⟨(RX3, TX3, 16), rfl, jat_m2 (k := 1) (l := 186) rfl rfl⟩
set_option maxRecDepth 8000 in
theorem jfl_37 : jfl_F (3, 18, 3, 1) := ⟨(RX3, TX3, 16), rfl, jat_m2 (k := 1) (l := 135) rfl rfl⟩
set_option maxRecDepth 8000 in
theorem jfl_38 : jfl_F (7, 179, 7, 9) := ⟨(RX7, TX7, 15), rfl, jat_m2 (k := 2) (l := 58) rfl rfl⟩
set_option maxRecDepth 8000 in
theorem jfl_39 : jfl_F (7, 203, 3, 0) := ⟨(RX3, TX3, 16), rfl, jat_m2 (k := 1) (l := 134) rfl rfl⟩
set_option maxRecDepth 8000 in
theorem jfl_40 : jfl_F (3, 22, 3, 2) := ⟨(RX3, TX3, 16), rfl, jat_m2 (k := 1) (l := 136) rfl rfl⟩
set_option maxRecDepth 8000 in
theorem jfl_41 : jfl_F (3, 25, 3, 3) := ⟨(RX3, TX3, 16), rfl, jat_m2 (k := 1) (l := 141) rfl rfl⟩
set_option maxRecDepth 8000 in
theorem jfl_42 : jfl_F (3, 30, 3, 4) := ⟨(RX3, TX3, 16), rfl, jat_m2 (k := 1) (l := 146) rfl rfl⟩
set_option maxRecDepth 8000 in
theorem jfl_43 : jfl_F (3, 73, 0, 5) := ⟨(RX0, TX0, 6), rfl, jat_m2 (k := 1) (l := 106) rfl rfl⟩
set_option maxRecDepth 8000 in
theorem jfl_44 : jfl_F (3, 34, 3, 5) := ⟨(RX3, TX3, 16), rfl, jat_m2 (k := 1) (l := 151) rfl rfl⟩
set_option maxRecDepth 8000 in
theorem jfl_45 : jfl_F (7, 139, 3, 4) := ⟨(RX3, TX3, 16), rfl, jat_m2 (k := 1) (l := 148) rfl rfl⟩
set_option maxRecDepth 8000 in
theorem jfl_46 : jfl_F (7, 174, 0, 5) := ⟨(RX0, TX0, 6), rfl, jat_m2 (k := 1) (l := 110) rfl rfl⟩
set_option maxRecDepth 8000 in
theorem jfl_47 : jfl_F (7, 182, 0, 0) := ⟨(RX0, TX0, 6), rfl, jat_m2 (k := 1) (l := 91) rfl rfl⟩
theorem jfl_o2 : ∀ e ∈ jfl_r2, jfl_F e := List.forall_mem_cons.mpr ⟨jfl_32, List.forall_mem_cons.mpr ⟨jfl_33, List.forall_mem_cons.mpr ⟨jfl_34, List.forall_mem_cons.mpr ⟨jfl_35, List.forall_mem_cons.mpr ⟨jfl_36, List.forall_mem_cons.mpr ⟨jfl_37, List.forall_mem_cons.mpr ⟨jfl_38, List.forall_mem_cons.mpr ⟨jfl_39, List.forall_mem_cons.mpr ⟨jfl_40, List.forall_mem_cons.mpr ⟨jfl_41, List.forall_mem_cons.mpr ⟨jfl_42, List.forall_mem_cons.mpr ⟨jfl_43, List.forall_mem_cons.mpr ⟨jfl_44, List.forall_mem_cons.mpr ⟨jfl_45, List.forall_mem_cons.mpr ⟨jfl_46, List.forall_mem_cons.mpr ⟨jfl_47, fun _ h => absurd h List.not_mem_nil⟩⟩⟩⟩⟩⟩⟩⟩⟩⟩⟩⟩⟩⟩⟩⟩
def jfl_r3 : List (Nat × Nat × Nat × Nat) := [(7, 185, 0, 1), (7, 188, 0, 2), (7, 191, 0, 3), (7, 194, 0, 4), (7, 147, 3, 5), (7, 150, 3, 13), (3, 38, 3, 6), (3, 41, 3, 7), (3, 44, 3, 8), (3, 47, 3, 9), (3, 50, 3, 10), (7, 156, 3, 8), (7, 159, 3, 9), (7, 162, 3, 10), (7, 165, 3, 14), (7, 168, 3, 11)]
set_option maxRecDepth 8000 in
theorem jfl_48 : jfl_F (7, 185, 0, 1) := ⟨(RX0, TX0, 6), rfl, jat_m2 (k := 1) (l := 94) rfl rfl⟩
set_option maxRecDepth 8000 in
theorem jfl_49 : jfl_F (7, 188, 0, 2) := ⟨(RX0, TX0, 6), rfl, jat_m2 (k := 1) (l := 98) rfl rfl⟩
set_option maxRecDepth 8000 in
theorem jfl_50 : jfl_F (7, 191, 0, 3) := ⟨(RX0, TX0, 6), rfl, jat_m2 (k := 1) (l := 101) rfl rfl⟩
set_option maxRecDepth 8000 in
theorem jfl_51 : jfl_F (7, 194, 0, 4) := ⟨(RX0, TX0, 6), rfl, jat_m2 (k := 1) (l := 104) rfl rfl⟩
set_option maxRecDepth 8000 in
theorem jfl_52 : jfl_F (7, 147, 3, 5) := ⟨(RX3, TX3, 16), rfl, jat_m2 (k := 1) (l := 153) rfl rfl⟩
set_option maxRecDepth 8000 in
theorem jfl_53 : jfl_F (7, 150, 3, 13) := ⟨(RX3, TX3, 16), rfl, jat_m2 (k := 1) (l := 191) rfl rfl⟩
set_option maxRecDepth 8000 in
theorem jfl_54 : jfl_F (3, 38, 3, 6) := ⟨(RX3, TX3, 16), rfl, jat_m2 (k := 1) (l := 156) rfl rfl⟩
set_option maxRecDepth 8000 in
theorem jfl_55 : jfl_F (3, 41, 3, 7) := ⟨(RX3, TX3, 16), rfl, jat_m2 (k := 1) (l := 160) rfl rfl⟩
set_option maxRecDepth 8000 in
theorem jfl_56 : jfl_F (3, 44, 3, 8) := ⟨(RX3, TX3, 16), rfl, jat_m2 (k := 1) (l := 164) rfl rfl⟩
set_option maxRecDepth 8000 in
theorem jfl_57 : jfl_F (3, 47, 3, 9) := ⟨(RX3, TX3, 16), rfl, jat_m2 (k := 1) (l := 170) rfl rfl⟩
set_option maxRecDepth 8000 in
theorem jfl_58 : jfl_F (3, 50, 3, 10) := ⟨(RX3, TX3, 16), rfl, jat_m2 (k := 1) (l := 176) rfl rfl⟩
set_option maxRecDepth 8000 in
theorem jfl_59 : jfl_F (7, 156, 3, 8) := ⟨(RX3, TX3, 16), rfl, jat_m2 (k := 1) (l := 168) rfl rfl⟩
set_option maxRecDepth 8000 in
theorem jfl_60 : jfl_F (7, 159, 3, 9) := ⟨(RX3, TX3, 16), rfl, jat_m2 (k := 1) (l := 175) rfl rfl⟩
set_option maxRecDepth 8000 in
theorem jfl_61 : jfl_F (7, 162, 3, 10) := ⟨(RX3, TX3, 16), rfl, jat_m2 (k := 1) (l := 181) rfl rfl⟩
set_option maxRecDepth 8000 in
theorem jfl_62 : jfl_F (7, 165, 3, 14) := ⟨(RX3, TX3, 16), rfl, jat_m2 (k := 1) (l := 195) rfl rfl⟩
set_option maxRecDepth 8000 in
theorem jfl_63 : jfl_F (7, 168, 3, 11) := ⟨(RX3, TX3, 16), rfl, jat_m2 (k := 1) (l := 184) rfl rfl⟩
theorem jfl_o3 : ∀ e ∈ jfl_r3, jfl_F e := List.forall_mem_cons.mpr ⟨jfl_48, List.forall_mem_cons.mpr ⟨jfl_49, List.forall_mem_cons.mpr ⟨jfl_50, List.forall_mem_cons.mpr ⟨jfl_51, List.forall_mem_cons.mpr ⟨jfl_52, List.forall_mem_cons.mpr ⟨jfl_53, List.forall_mem_cons.mpr ⟨jfl_54, List.forall_mem_cons.mpr ⟨jfl_55, List.forall_mem_cons.mpr ⟨jfl_56, List.forall_mem_cons.mpr ⟨jfl_57, List.forall_mem_cons.mpr ⟨jfl_58, List.forall_mem_cons.mpr ⟨jfl_59, List.forall_mem_cons.mpr ⟨jfl_60, List.forall_mem_cons.mpr ⟨jfl_61, List.forall_mem_cons.mpr ⟨jfl_62, List.forall_mem_cons.mpr ⟨jfl_63, fun _ h => absurd h List.not_mem_nil⟩⟩⟩⟩⟩⟩⟩⟩⟩⟩⟩⟩⟩⟩⟩⟩
def jfl_r4 : List (Nat × Nat × Nat × Nat) := [(7, 171, 3, 15), (1, 33, 1, 9), (1, 37, 3, 15), (1, 43, 1, 2), (1, 44, 1, 3), (1, 18, 1, 1), (1, 47, 3, 11), (1, 48, 1, 4), (1, 51, 1, 5), (1, 54, 1, 6), (1, 57, 1, 7), (1, 60, 1, 8), (1, 63, 3, 14), (1, 11, 1, 0), (1, 22, 1, 10), (1, 66, 3, 0)]
set_option maxRecDepth 8000 in
theorem jfl_64 : jfl_F (7, 171, 3, 15) := ⟨(RX3, TX3, 16), rfl, jat_m2 (k := 1) (l := 199) rfl rfl⟩
set_option maxRecDepth 8000 in
theorem jfl_65 : jfl_F (1, 33, 1, 9) := ⟨(RX1, TX1, 12), rfl, jat_m2 (k := 3) (l := 22) rfl rfl⟩
set_option maxRecDepth 8000 in
theorem jfl_66 : jfl_F (1, 37, 3, 15) := ⟨(RX3, TX3, 16), rfl, jat_m2 (k := 1) (l := 197) rfl rfl⟩
set_option maxRecDepth 8000 in
theorem jfl_67 : jfl_F (1, 43, 1, 2) := ⟨(RX1, TX1, 12), rfl, jat_m2 (k := 3) (l := 8) rfl rfl⟩
set_option maxRecDepth 8000 in
theorem jfl_68 : jfl_F (1, 44, 1, 3) := ⟨(RX1, TX1, 12), rfl, jat_m2 (k := 3) (l := 10) rfl rfl⟩
set_option maxRecDepth 8000 in
theorem jfl_69 : jfl_F (1, 18, 1, 1) := ⟨(RX1, TX1, 12), rfl, jat_m2 (k := 3) (l := 6) rfl rfl⟩
set_option maxRecDepth 8000 in
theorem jfl_70 : jfl_F (1, 47, 3, 11) := ⟨(RX3, TX3, 16), rfl, jat_m2 (k := 1) (l := 183) rfl rfl⟩
set_option maxRecDepth 8000 in
theorem jfl_71 : jfl_F (1, 48, 1, 4) := ⟨(RX1, TX1, 12), rfl, jat_m2 (k := 3) (l := 12) rfl rfl⟩
set_option maxRecDepth 8000 in
theorem jfl_72 : jfl_F (1, 51, 1, 5) := ⟨(RX1, TX1, 12), rfl, jat_m2 (k := 3) (l := 14) rfl rfl⟩
set_option maxRecDepth 8000 in
theorem jfl_73 : jfl_F (1, 54, 1, 6) := ⟨(RX1, TX1, 12), rfl, jat_m2 (k := 3) (l := 16) rfl rfl⟩
set_option maxRecDepth 8000 in
theorem jfl_74 : jfl_F (1, 57, 1, 7) := ⟨(RX1, TX1, 12), rfl, jat_m2 (k := 3) (l := 18) rfl rfl⟩
set_option maxRecDepth 8000 in
theorem jfl_75 : jfl_F (1, 60, 1, 8) := ⟨(RX1, TX1, 12), rfl, jat_m2 (k := 3) (l := 20) rfl rfl⟩
set_option maxRecDepth 8000 in
theorem jfl_76 : jfl_F (1, 63, 3, 14) := ⟨(RX3, TX3, 16), rfl, jat_m2 (k := 1) (l := 194) rfl rfl⟩
set_option maxRecDepth 8000 in
theorem jfl_77 : jfl_F (1, 11, 1, 0) := ⟨(RX1, TX1, 12), rfl, jat_m2 (k := 3) (l := 3) rfl rfl⟩
set_option maxRecDepth 8000 in
theorem jfl_78 : jfl_F (1, 22, 1, 10) := ⟨(RX1, TX1, 12), rfl, jat_m2 (k := 3) (l := 24) rfl rfl⟩
set_option maxRecDepth 8000 in
theorem jfl_79 : jfl_F (1, 66, 3, 0) := ⟨(RX3, TX3, 16), rfl, jat_m2 (k := 1) (l := 131) rfl rfl⟩
theorem jfl_o4 : ∀ e ∈ jfl_r4, jfl_F e := List.forall_mem_cons.mpr ⟨jfl_64, List.forall_mem_cons.mpr ⟨jfl_65, List.forall_mem_cons.mpr ⟨jfl_66, List.forall_mem_cons.mpr ⟨jfl_67, List.forall_mem_cons.mpr ⟨jfl_68, List.forall_mem_cons.mpr ⟨jfl_69, List.forall_mem_cons.mpr ⟨jfl_70, List.forall_mem_cons.mpr ⟨jfl_71, List.forall_mem_cons.mpr ⟨jfl_72, List.forall_mem_cons.mpr ⟨jfl_73, List.forall_mem_cons.mpr ⟨jfl_74, List.forall_mem_cons.mpr ⟨jfl_75, List.forall_mem_cons.mpr ⟨jfl_76, List.forall_mem_cons.mpr ⟨jfl_77, List.forall_mem_cons.mpr ⟨jfl_78, List.forall_mem_cons.mpr ⟨jfl_79, fun _ h => absurd h List.not_mem_nil⟩⟩⟩⟩⟩⟩⟩⟩⟩⟩⟩⟩⟩⟩⟩⟩
def jfl_r5 : List (Nat × Nat × Nat × Nat) := [(1, 76, 3, 4), (1, 84, 5, 0), (1, 99, 5, 1), (1, 102, 5, 3), (1, 105, 5, 4), (1, 108, 5, 5), (1, 111, 5, 6), (2, 38, 2, 6), (2, 42, 4, 3), (2, 52, 4, 0), (2, 55, 4, 1), (2, 9, 2, 2), (2, 15, 2, 3), (2, 73, 0, 5), (2, 76, 0, 3), (2, 79, 0, 2)]
set_option maxRecDepth 8000 in
theorem jfl_80 : jfl_F (1, 76, 3, 4) := ⟨(RX3, TX3, 16), rfl, jat_m2 (k := 1) (l := 147) rfl rfl⟩
set_option maxRecDepth 8000 in
theorem jfl_81 : jfl_F (1, 84, 5, 0) := ⟨(RX5, TX5, 10), rfl, jat_m2 (k := 2) (l := 192) rfl rfl⟩
set_option maxRecDepth 8000 in
theorem jfl_82 : jfl_F (1, 99, 5, 1) := ⟨(RX5, TX5, 10), rfl, jat_m2 (k := 2) (l := 197) rfl rfl⟩
set_option maxRecDepth 8000 in
theorem jfl_83 : jfl_F (1, 102, 5, 3) := ⟨(RX5, TX5, 10), rfl, jat_m2 (k := 2) (l := 203) rfl rfl⟩
set_option maxRecDepth 8000 in
theorem jfl_84 : jfl_F (1, 105, 5, 4) := ⟨(RX5, TX5, 10), rfl, jat_m2 (k := 2) (l := 206) rfl rfl⟩
set_option maxRecDepth 8000 in
theorem jfl_85 : jfl_F (1, 108, 5, 5) := ⟨(RX5, TX5, 10), rfl, jat_m2 (k := 2) (l := 209) rfl rfl⟩
set_option maxRecDepth 8000 in
theorem jfl_86 : jfl_F (1, 111, 5, 6) := ⟨(RX5, TX5, 10), rfl, jat_m2 (k := 2) (l := 211) rfl rfl⟩
set_option maxRecDepth 8000 in
theorem jfl_87 : jfl_F (2, 38, 2, 6) := ⟨(RX2, TX2, 9), rfl, jat_m2 (k := 2) (l := 137) rfl rfl⟩
set_option maxRecDepth 8000 in
theorem jfl_88 : jfl_F (2, 42, 4, 3) := ⟨(RX4, TX4, 4), rfl, jat_m2 (k := 1) (l := 66) rfl rfl⟩
set_option maxRecDepth 8000 in
theorem jfl_89 : jfl_F (2, 52, 4, 0) := ⟨(RX4, TX4, 4), rfl, jat_m2 (k := 1) (l := 55) rfl rfl⟩
set_option maxRecDepth 8000 in
theorem jfl_90 : jfl_F (2, 55, 4, 1) := ⟨(RX4, TX4, 4), rfl, jat_m2 (k := 1) (l := 60) rfl rfl⟩
set_option maxRecDepth 8000 in
theorem jfl_91 : jfl_F (2, 9, 2, 2) := ⟨(RX2, TX2, 9), rfl, jat_m2 (k := 2) (l := 133) rfl rfl⟩
set_option maxRecDepth 8000 in
theorem jfl_92 : jfl_F (2, 15, 2, 3) := ⟨(RX2, TX2, 9), rfl, jat_m2 (k := 2) (l := 134) rfl rfl⟩
set_option maxRecDepth 8000 in
theorem jfl_93 : jfl_F (2, 73, 0, 5) := ⟨(RX0, TX0, 6), rfl, jat_m2 (k := 1) (l := 107) rfl rfl⟩
set_option maxRecDepth 8000 in
theorem jfl_94 : jfl_F (2, 76, 0, 3) := ⟨(RX0, TX0, 6), rfl, jat_m2 (k := 1) (l := 100) rfl rfl⟩
set_option maxRecDepth 8000 in
theorem jfl_95 : jfl_F (2, 79, 0, 2) := ⟨(RX0, TX0, 6), rfl, jat_m2 (k := 1) (l := 97) rfl rfl⟩
theorem jfl_o5 : ∀ e ∈ jfl_r5, jfl_F e := List.forall_mem_cons.mpr ⟨jfl_80, List.forall_mem_cons.mpr ⟨jfl_81, List.forall_mem_cons.mpr ⟨jfl_82, List.forall_mem_cons.mpr ⟨jfl_83, List.forall_mem_cons.mpr ⟨jfl_84, List.forall_mem_cons.mpr ⟨jfl_85, List.forall_mem_cons.mpr ⟨jfl_86, List.forall_mem_cons.mpr ⟨jfl_87, List.forall_mem_cons.mpr ⟨jfl_88, List.forall_mem_cons.mpr ⟨jfl_89, List.forall_mem_cons.mpr ⟨jfl_90, List.forall_mem_cons.mpr ⟨jfl_91, List.forall_mem_cons.mpr ⟨jfl_92, List.forall_mem_cons.mpr ⟨jfl_93, List.forall_mem_cons.mpr ⟨jfl_94, List.forall_mem_cons.mpr ⟨jfl_95, fun _ h => absurd h List.not_mem_nil⟩⟩⟩⟩⟩⟩⟩⟩⟩⟩⟩⟩⟩⟩⟩⟩
def jfl_r6 : List (Nat × Nat × Nat × Nat) := [(2, 82, 0, 4), (2, 94, 2, 7), (2, 97, 2, 8), (2, 22, 2, 5), (2, 18, 2, 4), (2, 104, 4, 2), (2, 46, 8, 0), (2, 50, 8, 1), (1, 189, 3, 2), (1, 192, 3, 3), (1, 134, 5, 2), (1, 126, 5, 7), (1, 173, 5, 8), (1, 176, 5, 9), (1, 179, 3, 5), (1, 182, 0, 5)]
set_option maxRecDepth 8000 in
theorem jfl_96 : jfl_F (2, 82, 0, 4) := ⟨(RX0, TX0, 6), rfl, jat_m2 (k := 1) (l := 103) rfl rfl⟩
set_option maxRecDepth 8000 in
theorem jfl_97 : jfl_F (2, 94, 2, 7) := ⟨(RX2, TX2, 9), rfl, jat_m2 (k := 2) (l := 138) rfl rfl⟩
set_option maxRecDepth 8000 in
theorem jfl_98 : jfl_F (2, 97, 2, 8) := ⟨(RX2, TX2, 9), rfl, jat_m2 (k := 2) (l := 139) rfl rfl⟩
set_option maxRecDepth 8000 in
theorem jfl_99 : jfl_F (2, 22, 2, 5) := ⟨(RX2, TX2, 9), rfl, jat_m2 (k := 2) (l := 136) rfl rfl⟩
set_option maxRecDepth 8000 in
theorem jfl_100 : jfl_F (2, 18, 2, 4) := ⟨(RX2, TX2, 9), rfl, jat_m2 (k := 2) (l := 135) rfl rfl⟩
set_option maxRecDepth 8000 in
theorem jfl_101 : jfl_F (2, 104, 4, 2) := ⟨(RX4, TX4, 4), rfl, jat_m2 (k := 1) (l := 64) rfl rfl⟩
set_option maxRecDepth 8000 in
theorem jfl_102 : jfl_F (2, 46, 8, 0) := ⟨(RX8, TX8, 2), rfl, jat_m2 (k := 2) (l := 179) rfl rfl⟩
set_option maxRecDepth 8000 in
theorem jfl_103 : jfl_F (2, 50, 8, 1) := ⟨(RX8, TX8, 2), rfl, jat_m2 (k := 2) (l := 183) rfl rfl⟩
set_option maxRecDepth 8000 in
theorem jfl_104 : jfl_F (1, 189, 3, 2) := ⟨(RX3, TX3, 16), rfl, jat_m2 (k := 1) (l := 140) rfl rfl⟩
set_option maxRecDepth 8000 in
theorem jfl_105 : jfl_F (1, 192, 3, 3) := ⟨(RX3, TX3, 16), rfl, jat_m2 (k := 1) (l := 145) rfl rfl⟩
set_option maxRecDepth 8000 in
theorem jfl_106 : jfl_F (1, 134, 5, 2) := ⟨(RX5, TX5, 10), rfl, jat_m2 (k := 2) (l := 200) rfl rfl⟩
set_option maxRecDepth 8000 in
theorem jfl_107 : jfl_F (1, 126, 5, 7) := ⟨(RX5, TX5, 10), rfl, jat_m2 (k := 2) (l := 213) rfl rfl⟩
set_option maxRecDepth 8000 in
theorem jfl_108 : jfl_F (1, 173, 5, 8) := ⟨(RX5, TX5, 10), rfl, jat_m2 (k := 2) (l := 215) rfl rfl⟩
set_option maxRecDepth 8000 in
theorem jfl_109 : jfl_F (1, 176, 5, 9) := ⟨(RX5, TX5, 10), rfl, jat_m2 (k := 2) (l := 218) rfl rfl⟩
set_option maxRecDepth 8000 in
theorem jfl_110 : jfl_F (1, 179, 3, 5) := ⟨(RX3, TX3, 16), rfl, jat_m2 (k := 1) (l := 154) rfl rfl⟩
set_option maxRecDepth 8000 in
theorem jfl_111 : jfl_F (1, 182, 0, 5) := ⟨(RX0, TX0, 6), rfl, jat_m2 (k := 1) (l := 108) rfl rfl⟩
theorem jfl_o6 : ∀ e ∈ jfl_r6, jfl_F e := List.forall_mem_cons.mpr ⟨jfl_96, List.forall_mem_cons.mpr ⟨jfl_97, List.forall_mem_cons.mpr ⟨jfl_98, List.forall_mem_cons.mpr ⟨jfl_99, List.forall_mem_cons.mpr ⟨jfl_100, List.forall_mem_cons.mpr ⟨jfl_101, List.forall_mem_cons.mpr ⟨jfl_102, List.forall_mem_cons.mpr ⟨jfl_103, List.forall_mem_cons.mpr ⟨jfl_104, List.forall_mem_cons.mpr ⟨jfl_105, List.forall_mem_cons.mpr ⟨jfl_106, List.forall_mem_cons.mpr ⟨jfl_107, List.forall_mem_cons.mpr ⟨jfl_108, List.forall_mem_cons.mpr ⟨jfl_109, List.forall_mem_cons.mpr ⟨jfl_110, List.forall_mem_cons.mpr ⟨jfl_111, fun _ h => absurd h List.not_mem_nil⟩⟩⟩⟩⟩⟩⟩⟩⟩⟩⟩⟩⟩⟩⟩⟩
def jfl_r7 : List (Nat × Nat × Nat × Nat) := [(1, 129, 3, 13), (1, 132, 3, 6), (1, 141, 3, 7), (1, 144, 3, 8), (1, 29, 1, 11), (2, 58, 3, 0), (2, 61, 3, 9), (2, 70, 3, 10), (1, 206, 4, 3), (8, 9, 8, 0), (8, 15, 8, 1), (11, 118, 1, 6), (11, 131, 1, 7), (11, 134, 1, 8), (11, 181, 3, 6), (11, 184, 3, 7)]
set_option maxRecDepth 8000 in
theorem jfl_112 : jfl_F (1, 129, 3, 13) := ⟨(RX3, TX3, 16), rfl, jat_m2 (k := 1) (l := 190) rfl rfl⟩
set_option maxRecDepth 8000 in
theorem jfl_113 : jfl_F (1, 132, 3, 6) := ⟨(RX3, TX3, 16), rfl, jat_m2 (k := 1) (l := 158) rfl rfl⟩
set_option maxRecDepth 8000 in
theorem jfl_114 : jfl_F (1, 141, 3, 7) := ⟨(RX3, TX3, 16), rfl, jat_m2 (k := 1) (l := 162) rfl rfl⟩
set_option maxRecDepth 8000 in
theorem jfl_115 : jfl_F (1, 144, 3, 8) := ⟨(RX3, TX3, 16), rfl, jat_m2 (k := 1) (l := 165) rfl rfl⟩
set_option maxRecDepth 8000 in
theorem jfl_116 : jfl_F (1, 29, 1, 11) := ⟨(RX1, TX1, 12), rfl, jat_m2 (k := 3) (l := 25) rfl rfl⟩
set_option maxRecDepth 8000 in
theorem jfl_117 : jfl_F (2, 58, 3, 0) := ⟨(RX3, TX3, 16), rfl, jat_m2 (k := 1) (l := 132) rfl rfl⟩
set_option maxRecDepth 8000 in
theorem jfl_118 : jfl_F (2, 61, 3, 9) := ⟨(RX3, TX3, 16), rfl, jat_m2 (k := 1) (l := 171) rfl rfl⟩
set_option maxRecDepth 8000 in
theorem jfl_119 : jfl_F (2, 70, 3, 10) := ⟨(RX3, TX3, 16), rfl, jat_m2 (k := 1) (l := 177) rfl rfl⟩
set_option maxRecDepth 8000 in
theorem jfl_120 : jfl_F (1, 206, 4, 3) := ⟨(RX4, TX4, 4), rfl, jat_m2 (k := 1) (l := 69) rfl rfl⟩
set_option maxRecDepth 8000 in
theorem jfl_121 : jfl_F (8, 9, 8, 0) := ⟨(RX8, TX8, 2), rfl, jat_m2 (k := 2) (l := 178) rfl rfl⟩
set_option maxRecDepth 8000 in
theorem jfl_122 : jfl_F (8, 15, 8, 1) := ⟨(RX8, TX8, 2), rfl, jat_m2 (k := 2) (l := 182) rfl rfl⟩
set_option maxRecDepth 8000 in
theorem jfl_123 : jfl_F (11, 118, 1, 6) := ⟨(RX1, TX1, 12), rfl, jat_m2 (k := 3) (l := 17) rfl rfl⟩
set_option maxRecDepth 8000 in
theorem jfl_124 : jfl_F (11, 131, 1, 7) := ⟨(RX1, TX1, 12), rfl, jat_m2 (k := 3) (l := 19) rfl rfl⟩
set_option maxRecDepth 8000 in
theorem jfl_125 : jfl_F (11, 134, 1, 8) := ⟨(RX1, TX1, 12), rfl, jat_m2 (k := 3) (l := 21) rfl rfl⟩
set_option maxRecDepth 8000 in
theorem jfl_126 : jfl_F (11, 181, 3, 6) := ⟨(RX3, TX3, 16), rfl, jat_m2 (k := 1) (l := 159) rfl rfl⟩
set_option maxRecDepth 8000 in
theorem jfl_127 : jfl_F (11, 184, 3, 7) := ⟨(RX3, TX3, 16), rfl, jat_m2 (k := 1) (l := 163) rfl rfl⟩
theorem jfl_o7 : ∀ e ∈ jfl_r7, jfl_F e := List.forall_mem_cons.mpr ⟨jfl_112, List.forall_mem_cons.mpr ⟨jfl_113, List.forall_mem_cons.mpr ⟨jfl_114, List.forall_mem_cons.mpr ⟨jfl_115, List.forall_mem_cons.mpr ⟨jfl_116, List.forall_mem_cons.mpr ⟨jfl_117, List.forall_mem_cons.mpr ⟨jfl_118, List.forall_mem_cons.mpr ⟨jfl_119, List.forall_mem_cons.mpr ⟨jfl_120, List.forall_mem_cons.mpr ⟨jfl_121, List.forall_mem_cons.mpr ⟨jfl_122, List.forall_mem_cons.mpr ⟨jfl_123, List.forall_mem_cons.mpr ⟨jfl_124, List.forall_mem_cons.mpr ⟨jfl_125, List.forall_mem_cons.mpr ⟨jfl_126, List.forall_mem_cons.mpr ⟨jfl_127, fun _ h => absurd h List.not_mem_nil⟩⟩⟩⟩⟩⟩⟩⟩⟩⟩⟩⟩⟩⟩⟩⟩
def jfl_r8 : List (Nat × Nat × Nat × Nat) := [(11, 187, 3, 8), (11, 158, 0, 5), (11, 190, 3, 9), (11, 193, 3, 10), (11, 396, 3, 13), (11, 199, 3, 0), (11, 203, 4, 0), (11, 208, 4, 1), (11, 306, 4, 3), (11, 218, 1, 0), (11, 222, 5, 2), (11, 227, 5, 3), (11, 229, 5, 4), (11, 232, 5, 5), (11, 235, 5, 6), (11, 238, 5, 7)]
set_option maxRecDepth 8000 in
theorem jfl_128 : jfl_F (11, 187, 3, 8) := ⟨(RX3, TX3, 16), rfl, jat_m2 (k := 1) (l := 169) rfl rfl⟩
set_option maxRecDepth 8000 in
theorem jfl_129 : jfl_F (11, 158, 0, 5) := ⟨(RX0, TX0, 6), rfl, jat_m2 (k := 1) (l := 109) rfl rfl⟩
set_option maxRecDepth 8000 in
theorem jfl_130 : jfl_F (11, 190, 3, 9) := ⟨(RX3, TX3, 16), rfl, jat_m2 (k := 1) (l := 174) rfl rfl⟩
set_option maxRecDepth 8000 in
theorem jfl_131 : jfl_F (11, 193, 3, 10) := ⟨(RX3, TX3, 16), rfl, jat_m2 (k := 1) (l := 180) rfl rfl⟩
set_option maxRecDepth 8000 in
theorem jfl_132 : jfl_F (11, 396, 3, 13) := ⟨(RX3, TX3, 16), rfl, jat_m2 (k := 1) (l := 192) rfl rfl⟩
set_option maxRecDepth 8000 in
theorem jfl_133 : jfl_F (11, 199, 3, 0) := ⟨(RX3, TX3, 16), rfl, jat_m2 (k := 1) (l := 133) rfl rfl⟩
set_option maxRecDepth 8000 in
theorem jfl_134 : jfl_F (11, 203, 4, 0) := ⟨(RX4, TX4, 4), rfl, jat_m2 (k := 1) (l := 57) rfl rfl⟩
set_option maxRecDepth 8000 in
theorem jfl_135 : jfl_F (11, 208, 4, 1) := ⟨(RX4, TX4, 4), rfl, jat_m2 (k := 1) (l := 62) rfl rfl⟩
set_option maxRecDepth 8000 in
theorem jfl_136 : jfl_F (11, 306, 4, 3) := ⟨(RX4, TX4, 4), rfl, jat_m2 (k := 1) (l := 70) rfl rfl⟩
set_option maxRecDepth 8000 in
theorem jfl_137 : jfl_F (11, 218, 1, 0) := ⟨(RX1, TX1, 12), rfl, jat_m2 (k := 3) (l := 5) rfl rfl⟩
set_option maxRecDepth 8000 in
theorem jfl_138 : jfl_F (11, 222, 5, 2) := ⟨(RX5, TX5, 10), rfl, jat_m2 (k := 2) (l := 201) rfl rfl⟩
set_option maxRecDepth 8000 in
theorem jfl_139 : jfl_F (11, 227, 5, 3) := ⟨(RX5, TX5, 10), rfl, jat_m2 (k := 2) (l := 204) rfl rfl⟩
set_option maxRecDepth 8000 in
theorem jfl_140 : jfl_F (11, 229, 5, 4) := ⟨(RX5, TX5, 10), rfl, jat_m2 (k := 2) (l := 207) rfl rfl⟩
set_option maxRecDepth 8000 in
theorem jfl_141 : jfl_F (11, 232, 5, 5) := ⟨(RX5, TX5, 10), rfl, jat_m2 (k := 2) (l := 210) rfl rfl⟩
set_option maxRecDepth 8000 in
theorem jfl_142 : jfl_F (11, 235, 5, 6) := ⟨(RX5, TX5, 10), rfl, jat_m2 (k := 2) (l := 212) rfl rfl⟩
set_option maxRecDepth 8000 in
theorem jfl_143 : jfl_F (11, 238, 5, 7) := ⟨(RX5, TX5, 10), rfl, jat_m2 (k := 2) (l := 214) rfl rfl⟩
theorem jfl_o8 : ∀ e ∈ jfl_r8, jfl_F e := List.forall_mem_cons.mpr ⟨jfl_128, List.forall_mem_cons.mpr ⟨jfl_129, List.forall_mem_cons.mpr ⟨jfl_130, List.forall_mem_cons.mpr ⟨jfl_131, List.forall_mem_cons.mpr ⟨jfl_132, List.forall_mem_cons.mpr ⟨jfl_133, List.forall_mem_cons.mpr ⟨jfl_134, List.forall_mem_cons.mpr ⟨jfl_135, List.forall_mem_cons.mpr ⟨jfl_136, List.forall_mem_cons.mpr ⟨jfl_137, List.forall_mem_cons.mpr ⟨jfl_138, List.forall_mem_cons.mpr ⟨jfl_139, List.forall_mem_cons.mpr ⟨jfl_140, List.forall_mem_cons.mpr ⟨jfl_141, List.forall_mem_cons.mpr ⟨jfl_142, List.forall_mem_cons.mpr ⟨jfl_143, fun _ h => absurd h List.not_mem_nil⟩⟩⟩⟩⟩⟩⟩⟩⟩⟩⟩⟩⟩⟩⟩⟩
def jfl_r9 : List (Nat × Nat × Nat × Nat) := [(11, 241, 5, 8), (11, 244, 5, 9), (11, 37, 11, 7), (11, 247, 5, 1), (11, 255, 5, 0), (11, 402, 1, 4), (2, 27, 2, 0), (2, 31, 2, 1), (6, 17, 6, 0), (6, 7, 6, 1), (2, 127, 6, 0), (2, 130, 6, 1), (11, 268, 8, 0), (11, 273, 8, 1), (11, 280, 2, 0), (11, 284, 6, 0)]
set_option maxRecDepth 8000 in
theorem jfl_144 : jfl_F (11, 241, 5, 8) := ⟨(RX5, TX5, 10), rfl, jat_m2 (k := 2) (l := 216) rfl rfl⟩
set_option maxRecDepth 8000 in
theorem jfl_145 : jfl_F (11, 244, 5, 9) := ⟨(RX5, TX5, 10), rfl, jat_m2 (k := 2) (l := 219) rfl rfl⟩
set_option maxRecDepth 8000 in
theorem jfl_146 : jfl_F (11, 37, 11, 7) := ⟨(RX11, TX11, 12), rfl, jat_m2 (k := 3) (l := 154) rfl rfl⟩
set_option maxRecDepth 8000 in
theorem jfl_147 : jfl_F (11, 247, 5, 1) := ⟨(RX5, TX5, 10), rfl, jat_m2 (k := 2) (l := 198) rfl rfl⟩
set_option maxRecDepth 8000 in
theorem jfl_148 : jfl_F (11, 255, 5, 0) := ⟨(RX5, TX5, 10), rfl, jat_m2 (k := 2) (l := 194) rfl rfl⟩
set_option maxRecDepth 8000 in
theorem jfl_149 : jfl_F (11, 402, 1, 4) := ⟨(RX1, TX1, 12), rfl, jat_m2 (k := 3) (l := 13) rfl rfl⟩
set_option maxRecDepth 8000 in
theorem jfl_150 : jfl_F (2, 27, 2, 0) := ⟨(RX2, TX2, 9), rfl, jat_m2 (k := 2) (l := 129) rfl rfl⟩
set_option maxRecDepth 8000 in
theorem jfl_151 : jfl_F (2, 31, 2, 1) := ⟨(RX2, TX2, 9), rfl, jat_m2 (k := 2) (l := 131) rfl rfl⟩
set_option maxRecDepth 8000 in
theorem jfl_152 : jfl_F (6, 17, 6, 0) := ⟨(RX6, TX6, 2), rfl, jat_m2 (k := 2) (l := 111) rfl rfl⟩
set_option maxRecDepth 8000 in
theorem jfl_153 : jfl_F (6, 7, 6, 1) := ⟨(RX6, TX6, 2), rfl, jat_m2 (k := 2) (l := 116) rfl rfl⟩
set_option maxRecDepth 8000 in
theorem jfl_154 : jfl_F (2, 127, 6, 0) := ⟨(RX6, TX6, 2), rfl, jat_m2 (k := 2) (l := 115) rfl rfl⟩
set_option maxRecDepth 8000 in
theorem jfl_155 : jfl_F (2, 130, 6, 1) := ⟨(RX6, TX6, 2), rfl, jat_m2 (k := 2) (l := 120) rfl rfl⟩
set_option maxRecDepth 8000 in
theorem jfl_156 : jfl_F (11, 268, 8, 0) := ⟨(RX8, TX8, 2), rfl, jat_m2 (k := 2) (l := 181) rfl rfl⟩
set_option maxRecDepth 8000 in
theorem jfl_157 : jfl_F (11, 273, 8, 1) := ⟨(RX8, TX8, 2), rfl, jat_m2 (k := 2) (l := 185) rfl rfl⟩
set_option maxRecDepth 8000 in
theorem jfl_158 : jfl_F (11, 280, 2, 0) := ⟨(RX2, TX2, 9), rfl, jat_m2 (k := 2) (l := 130) rfl rfl⟩
set_option maxRecDepth 8000 in
theorem jfl_159 : jfl_F (11, 284, 6, 0) := ⟨(RX6, TX6, 2), rfl, jat_m2 (k := 2) (l := 114) rfl rfl⟩
theorem jfl_o9 : ∀ e ∈ jfl_r9, jfl_F e := List.forall_mem_cons.mpr ⟨jfl_144, List.forall_mem_cons.mpr ⟨jfl_145, List.forall_mem_cons.mpr ⟨jfl_146, List.forall_mem_cons.mpr ⟨jfl_147, List.forall_mem_cons.mpr ⟨jfl_148, List.forall_mem_cons.mpr ⟨jfl_149, List.forall_mem_cons.mpr ⟨jfl_150, List.forall_mem_cons.mpr ⟨jfl_151, List.forall_mem_cons.mpr ⟨jfl_152, List.forall_mem_cons.mpr ⟨jfl_153, List.forall_mem_cons.mpr ⟨jfl_154, List.forall_mem_cons.mpr ⟨jfl_155, List.forall_mem_cons.mpr ⟨jfl_156, List.forall_mem_cons.mpr ⟨jfl_157, List.forall_mem_cons.mpr ⟨jfl_158, List.forall_mem_cons.mpr ⟨jfl_159, fun _ h => absurd h List.not_mem_nil⟩⟩⟩⟩⟩⟩⟩⟩⟩⟩⟩⟩⟩⟩⟩⟩
def jfl_r10 : List (Nat × Nat × Nat × Nat) := [(11, 289, 6, 1), (11, 291, 2, 1), (8, 18, 4, 3), (8, 24, 4, 0), (8, 27, 4, 1), (11, 399, 3, 12), (11, 58, 11, 10), (11, 332, 10, 2), (10, 32, 1, 9), (10, 38, 1, 0), (10, 42, 5, 5), (10, 54, 10, 2), (10, 11, 10, 0), (10, 22, 10, 3), (10, 72, 3, 2), (10, 77, 5, 2)]
set_option maxRecDepth 8000 in
theorem jfl_160 : jfl_F (11, 289, 6, 1) := ⟨(RX6, TX6, 2), rfl, jat_m2 (k := 2) (l := 119) rfl rfl⟩
set_option maxRecDepth 8000 in
theorem jfl_161 : jfl_F (11, 291, 2, 1) := ⟨(RX2, TX2, 9), rfl, jat_m2 (k := 2) (l := 132) rfl rfl⟩
set_option maxRecDepth 8000 in
theorem jfl_162 : jfl_F (8, 18, 4, 3) := ⟨(RX4, TX4, 4), rfl, jat_m2 (k := 1) (l := 67) rfl rfl⟩
set_option maxRecDepth 8000 in
theorem jfl_163 : jfl_F (8, 24, 4, 0) := ⟨(RX4, TX4, 4), rfl, jat_m2 (k := 1) (l := 54) rfl rfl⟩
set_option maxRecDepth 8000 in
theorem jfl_164 : jfl_F (8, 27, 4, 1) := ⟨(RX4, TX4, 4), rfl, jat_m2 (k := 1) (l := 59) rfl rfl⟩
set_option maxRecDepth 8000 in
theorem jfl_165 : jfl_F (11, 399, 3, 12) := ⟨(RX3, TX3, 16), rfl, jat_m2 (k := 1) (l := 187) rfl rfl⟩
set_option maxRecDepth 8000 in
theorem jfl_166 : jfl_F (11, 58, 11, 10) := ⟨(RX11, TX11, 12), rfl, jat_m2 (k := 3) (l := 157) rfl rfl⟩
set_option maxRecDepth 8000 in
theorem jfl_167 : jfl_F (11, 332, 10, 2) := ⟨(RX10, TX10, 6), rfl, jat_m2 (k := 3) (l := 64) rfl rfl⟩
set_option maxRecDepth 8000 in
theorem jfl_168 : jfl_F (10, 32, 1, 9) := ⟨(RX1, TX1, 12), rfl, jat_m2 (k := 3) (l := 23) rfl rfl⟩
set_option maxRecDepth 8000 in
theorem jfl_169 : jfl_F (10, 38, 1, 0) := ⟨(RX1, TX1, 12), rfl, jat_m2 (k := 3) (l := 4) rfl rfl⟩
set_option maxRecDepth 8000 in
theorem jfl_170 : jfl_F (10, 42, 5, 5) := ⟨(RX5, TX5, 10), rfl, jat_m2 (k := 2) (l := 208) rfl rfl⟩
set_option maxRecDepth 8000 in
theorem jfl_171 : jfl_F (10, 54, 10, 2) := ⟨(RX10, TX10, 6), rfl, jat_m2 (k := 3) (l := 63) rfl rfl⟩
set_option maxRecDepth 8000 in
theorem jfl_172 : jfl_F (10, 11, 10, 0) := ⟨(RX10, TX10, 6), rfl, jat_m2 (k := 3) (l := 59) rfl rfl⟩
set_option maxRecDepth 8000 in
theorem jfl_173 : jfl_F (10, 22, 10, 3) := ⟨(RX10, TX10, 6), rfl, jat_m2 (k := 3) (l := 65) rfl rfl⟩
set_option maxRecDepth 8000 in
theorem jfl_174 : jfl_F (10, 72, 3, 2) := ⟨(RX3, TX3, 16), rfl, jat_m2 (k := 1) (l := 137) rfl rfl⟩
set_option maxRecDepth 8000 in
theorem jfl_175 : jfl_F (10, 77, 5, 2) := ⟨(RX5, TX5, 10), rfl, jat_m2 (k := 2) (l := 199) rfl rfl⟩
theorem jfl_o10 : ∀ e ∈ jfl_r10, jfl_F e := List.forall_mem_cons.mpr ⟨jfl_160, List.forall_mem_cons.mpr ⟨jfl_161, List.forall_mem_cons.mpr ⟨jfl_162, List.forall_mem_cons.mpr ⟨jfl_163, List.forall_mem_cons.mpr ⟨jfl_164, List.forall_mem_cons.mpr ⟨jfl_165, List.forall_mem_cons.mpr ⟨jfl_166, List.forall_mem_cons.mpr ⟨jfl_167, List.forall_mem_cons.mpr ⟨jfl_168, List.forall_mem_cons.mpr ⟨jfl_169, List.forall_mem_cons.mpr ⟨jfl_170, List.forall_mem_cons.mpr ⟨jfl_171, List.forall_mem_cons.mpr ⟨jfl_172, List.forall_mem_cons.mpr ⟨jfl_173, List.forall_mem_cons.mpr ⟨jfl_174, List.forall_mem_cons.mpr ⟨jfl_175, fun _ h => absurd h List.not_mem_nil⟩⟩⟩⟩⟩⟩⟩⟩⟩⟩⟩⟩⟩⟩⟩⟩
def jfl_r11 : List (Nat × Nat × Nat × Nat) := [(10, 25, 10, 4), (10, 84, 3, 3), (10, 87, 5, 3), (10, 90, 5, 4), (10, 93, 5, 1), (10, 28, 10, 5), (10, 101, 3, 0), (10, 111, 5, 9), (10, 115, 3, 5), (10, 142, 6, 0), (10, 146, 6, 1), (10, 131, 4, 3), (10, 136, 4, 0), (10, 139, 4, 1), (10, 149, 5, 0), (10, 152, 8, 1)]
set_option maxRecDepth 8000 in
theorem jfl_176 : jfl_F (10, 25, 10, 4) := ⟨(RX10, TX10, 6), rfl, jat_m2 (k := 3) (l := 66) rfl rfl⟩
set_option maxRecDepth 8000 in
theorem jfl_177 : jfl_F (10, 84, 3, 3) := ⟨(RX3, TX3, 16), rfl, jat_m2 (k := 1) (l := 142) rfl rfl⟩
set_option maxRecDepth 8000 in
theorem jfl_178 : jfl_F (10, 87, 5, 3) := ⟨(RX5, TX5, 10), rfl, jat_m2 (k := 2) (l := 202) rfl rfl⟩
set_option maxRecDepth 8000 in
theorem jfl_179 : jfl_F (10, 90, 5, 4) := ⟨(RX5, TX5, 10), rfl, jat_m2 (k := 2) (l := 205) rfl rfl⟩
set_option maxRecDepth 8000 in
theorem jfl_180 : jfl_F (10, 93, 5, 1) := ⟨(RX5, TX5, 10), rfl, jat_m2 (k := 2) (l := 196) rfl rfl⟩
set_option maxRecDepth 8000 in
theorem jfl_181 : jfl_F (10, 28, 10, 5) := ⟨(RX10, TX10, 6), rfl, jat_m2 (k := 3) (l := 67) rfl rfl⟩
set_option maxRecDepth 8000 in
theorem jfl_182 : jfl_F (10, 101, 3, 0) := ⟨(RX3, TX3, 16), rfl, jat_m2 (k := 1) (l := 130) rfl rfl⟩
set_option maxRecDepth 8000 in
theorem jfl_183 : jfl_F (10, 111, 5, 9) := ⟨(RX5, TX5, 10), rfl, jat_m2 (k := 2) (l := 217) rfl rfl⟩
set_option maxRecDepth 8000 in
theorem jfl_184 : jfl_F (10, 115, 3, 5) := ⟨(RX3, TX3, 16), rfl, jat_m2 (k := 1) (l := 152) rfl rfl⟩
set_option maxRecDepth 8000 in
theorem jfl_185 : jfl_F (10, 142, 6, 0) := ⟨(RX6, TX6, 2), rfl, jat_m2 (k := 2) (l := 112) rfl rfl⟩
set_option maxRecDepth 8000 in
theorem jfl_186 : jfl_F (10, 146, 6, 1) := ⟨(RX6, TX6, 2), rfl, jat_m2 (k := 2) (l := 118) rfl rfl⟩
set_option maxRecDepth 8000 in
theorem jfl_187 : jfl_F (10, 131, 4, 3) := ⟨(RX4, TX4, 4), rfl, jat_m2 (k := 1) (l := 68) rfl rfl⟩
set_option maxRecDepth 8000 in
theorem jfl_188 : jfl_F (10, 136, 4, 0) := ⟨(RX4, TX4, 4), rfl, jat_m2 (k := 1) (l := 56) rfl rfl⟩
set_option maxRecDepth 8000 in
theorem jfl_189 : jfl_F (10, 139, 4, 1) := ⟨(RX4, TX4, 4), rfl, jat_m2 (k := 1) (l := 61) rfl rfl⟩
set_option maxRecDepth 8000 in
theorem jfl_190 : jfl_F (10, 149, 5, 0) := ⟨(RX5, TX5, 10), rfl, jat_m2 (k := 2) (l := 193) rfl rfl⟩
set_option maxRecDepth 8000 in
theorem jfl_191 : jfl_F (10, 152, 8, 1) := ⟨(RX8, TX8, 2), rfl, jat_m2 (k := 2) (l := 184) rfl rfl⟩
theorem jfl_o11 : ∀ e ∈ jfl_r11, jfl_F e := List.forall_mem_cons.mpr ⟨jfl_176, List.forall_mem_cons.mpr ⟨jfl_177, List.forall_mem_cons.mpr ⟨jfl_178, List.forall_mem_cons.mpr ⟨jfl_179, List.forall_mem_cons.mpr ⟨jfl_180, List.forall_mem_cons.mpr ⟨jfl_181, List.forall_mem_cons.mpr ⟨jfl_182, List.forall_mem_cons.mpr ⟨jfl_183, List.forall_mem_cons.mpr ⟨jfl_184, List.forall_mem_cons.mpr ⟨jfl_185, List.forall_mem_cons.mpr ⟨jfl_186, List.forall_mem_cons.mpr ⟨jfl_187, List.forall_mem_cons.mpr ⟨jfl_188, List.forall_mem_cons.mpr ⟨jfl_189, List.forall_mem_cons.mpr ⟨jfl_190, List.forall_mem_cons.mpr ⟨jfl_191, fun _ h => absurd h List.not_mem_nil⟩⟩⟩⟩⟩⟩⟩⟩⟩⟩⟩⟩⟩⟩⟩⟩
def jfl_r12 : List (Nat × Nat × Nat × Nat) := [(10, 156, 8, 0), (10, 18, 10, 1), (10, 166, 3, 9), (10, 169, 3, 8), (10, 172, 3, 10), (11, 335, 10, 0), (11, 345, 10, 1), (11, 154, 3, 4), (11, 353, 9, 1), (11, 360, 9, 2), (11, 367, 9, 4), (9, 28, 0, 5), (9, 34, 0, 0), (9, 37, 0, 1), (9, 40, 0, 2), (9, 47, 9, 3)]
set_option maxRecDepth 8000 in
theorem jfl_192 : jfl_F (10, 156, 8, 0) := ⟨(RX8, TX8, 2), rfl, jat_m2 (k := 2) (l := 180) rfl rfl⟩
set_option maxRecDepth 8000 in
theorem jfl_193 : jfl_F (10, 18, 10, 1) := ⟨(RX10, TX10, 6), rfl, jat_m2 (k := 3) (l := 61) rfl rfl⟩
set_option maxRecDepth 8000 in
theorem jfl_194 : jfl_F (10, 166, 3, 9) := ⟨(RX3, TX3, 16), rfl, jat_m2 (k := 1) (l := 173) rfl rfl⟩
set_option maxRecDepth 8000 in
theorem jfl_195 : jfl_F (10, 169, 3, 8) := ⟨(RX3, TX3, 16), rfl, jat_m2 (k := 1) (l := 167) rfl rfl⟩
set_option maxRecDepth 8000 in
theorem jfl_196 : jfl_F (10, 172, 3, 10) := ⟨(RX3, TX3, 16), rfl, jat_m2 (k := 1) (l := 179) rfl rfl⟩
set_option maxRecDepth 8000 in
theorem jfl_197 : jfl_F (11, 335, 10, 0) := ⟨(RX10, TX10, 6), rfl, jat_m2 (k := 3) (l := 60) rfl rfl⟩
set_option maxRecDepth 8000 in
theorem jfl_198 : jfl_F (11, 345, 10, 1) := ⟨(RX10, TX10, 6), rfl, jat_m2 (k := 3) (l := 62) rfl rfl⟩
set_option maxRecDepth 8000 in
theorem jfl_199 : jfl_F (11, 154, 3, 4) := ⟨(RX3, TX3, 16), rfl, jat_m2 (k := 1) (l := 150) rfl rfl⟩
set_option maxRecDepth 8000 in
theorem jfl_200 : jfl_F (11, 353, 9, 1) := ⟨(RX9, TX9, 17), rfl, jat_m2 (k := 3) (l := 92) rfl rfl⟩
set_option maxRecDepth 8000 in
theorem jfl_201 : jfl_F (11, 360, 9, 2) := ⟨(RX9, TX9, 17), rfl, jat_m2 (k := 3) (l := 94) rfl rfl⟩
set_option maxRecDepth 8000 in
theorem jfl_202 : jfl_F (11, 367, 9, 4) := ⟨(RX9, TX9, 17), rfl, jat_m2 (k := 3) (l := 98) rfl rfl⟩
set_option maxRecDepth 8000 in
theorem jfl_203 : jfl_F (9, 28, 0, 5) := ⟨(RX0, TX0, 6), rfl, jat_m2 (k := 1) (l := 105) rfl rfl⟩
set_option maxRecDepth 8000 in
theorem jfl_204 : jfl_F (9, 34, 0, 0) := ⟨(RX0, TX0, 6), rfl, jat_m2 (k := 1) (l := 90) rfl rfl⟩
set_option maxRecDepth 8000 in
theorem jfl_205 : jfl_F (9, 37, 0, 1) := ⟨(RX0, TX0, 6), rfl, jat_m2 (k := 1) (l := 93) rfl rfl⟩
set_option maxRecDepth 8000 in
theorem jfl_206 : jfl_F (9, 40, 0, 2) := ⟨(RX0, TX0, 6), rfl, jat_m2 (k := 1) (l := 96) rfl rfl⟩
set_option maxRecDepth 8000 in
theorem jfl_207 : jfl_F (9, 47, 9, 3) := ⟨(RX9, TX9, 17), rfl, jat_m2 (k := 3) (l := 95) rfl rfl⟩
theorem jfl_o12 : ∀ e ∈ jfl_r12, jfl_F e := List.forall_mem_cons.mpr ⟨jfl_192, List.forall_mem_cons.mpr ⟨jfl_193, List.forall_mem_cons.mpr ⟨jfl_194, List.forall_mem_cons.mpr ⟨jfl_195, List.forall_mem_cons.mpr ⟨jfl_196, List.forall_mem_cons.mpr ⟨jfl_197, List.forall_mem_cons.mpr ⟨jfl_198, List.forall_mem_cons.mpr ⟨jfl_199, List.forall_mem_cons.mpr ⟨jfl_200, List.forall_mem_cons.mpr ⟨jfl_201, List.forall_mem_cons.mpr ⟨jfl_202, List.forall_mem_cons.mpr ⟨jfl_203, List.forall_mem_cons.mpr ⟨jfl_204, List.forall_mem_cons.mpr ⟨jfl_205, List.forall_mem_cons.mpr ⟨jfl_206, List.forall_mem_cons.mpr ⟨jfl_207, fun _ h => absurd h List.not_mem_nil⟩⟩⟩⟩⟩⟩⟩⟩⟩⟩⟩⟩⟩⟩⟩⟩
def jfl_r13 : List (Nat × Nat × Nat × Nat) := [(9, 51, 9, 4), (9, 54, 9, 5), (9, 25, 9, 6), (9, 73, 3, 7), (9, 11, 9, 0), (9, 18, 9, 1), (9, 107, 6, 0), (9, 78, 6, 1), (9, 22, 9, 2), (9, 82, 9, 7), (9, 85, 3, 13), (9, 88, 3, 6), (9, 95, 9, 12), (9, 98, 9, 13), (9, 101, 9, 16), (9, 104, 9, 15)]
set_option maxRecDepth 8000 in
theorem jfl_208 : jfl_F (9, 51, 9, 4) := ⟨(RX9, TX9, 17), rfl, jat_m2 (k := 3) (l := 97) rfl rfl⟩
set_option maxRecDepth 8000 in
theorem jfl_209 : jfl_F (9, 54, 9, 5) := ⟨(RX9, TX9, 17), rfl, jat_m2 (k := 3) (l := 99) rfl rfl⟩
set_option maxRecDepth 8000 in
theorem jfl_210 : jfl_F (9, 25, 9, 6) := ⟨(RX9, TX9, 17), rfl, jat_m2 (k := 3) (l := 101) rfl rfl⟩
set_option maxRecDepth 8000 in
theorem jfl_211 : jfl_F (9, 73, 3, 7) := ⟨(RX3, TX3, 16), rfl, jat_m2 (k := 1) (l := 161) rfl rfl⟩
set_option maxRecDepth 8000 in
theorem jfl_212 : jfl_F (9, 11, 9, 0) := ⟨(RX9, TX9, 17), rfl, jat_m2 (k := 3) (l := 89) rfl rfl⟩
set_option maxRecDepth 8000 in
theorem jfl_213 : jfl_F (9, 18, 9, 1) := ⟨(RX9, TX9, 17), rfl, jat_m2 (k := 3) (l := 91) rfl rfl⟩
set_option maxRecDepth 8000 in
theorem jfl_214 : jfl_F (9, 107, 6, 0) := ⟨(RX6, TX6, 2), rfl, jat_m2 (k := 2) (l := 113) rfl rfl⟩
set_option maxRecDepth 8000 in
theorem jfl_215 : jfl_F (9, 78, 6, 1) := ⟨(RX6, TX6, 2), rfl, jat_m2 (k := 2) (l := 117) rfl rfl⟩
set_option maxRecDepth 8000 in
theorem jfl_216 : jfl_F (9, 22, 9, 2) := ⟨(RX9, TX9, 17), rfl, jat_m2 (k := 3) (l := 93) rfl rfl⟩
set_option maxRecDepth 8000 in
theorem jfl_217 : jfl_F (9, 82, 9, 7) := ⟨(RX9, TX9, 17), rfl, jat_m2 (k := 3) (l := 102) rfl rfl⟩
set_option maxRecDepth 8000 in
theorem jfl_218 : jfl_F (9, 85, 3, 13) := ⟨(RX3, TX3, 16), rfl, jat_m2 (k := 1) (l := 189) rfl rfl⟩
set_option maxRecDepth 8000 in
theorem jfl_219 : jfl_F (9, 88, 3, 6) := ⟨(RX3, TX3, 16), rfl, jat_m2 (k := 1) (l := 157) rfl rfl⟩
set_option maxRecDepth 8000 in
theorem jfl_220 : jfl_F (9, 95, 9, 12) := ⟨(RX9, TX9, 17), rfl, jat_m2 (k := 3) (l := 107) rfl rfl⟩
set_option maxRecDepth 8000 in
theorem jfl_221 : jfl_F (9, 98, 9, 13) := ⟨(RX9, TX9, 17), rfl, jat_m2 (k := 3) (l := 108) rfl rfl⟩
set_option maxRecDepth 8000 in
theorem jfl_222 : jfl_F (9, 101, 9, 16) := ⟨(RX9, TX9, 17), rfl, jat_m2 (k := 3) (l := 111) rfl rfl⟩
set_option maxRecDepth 8000 in
theorem jfl_223 : jfl_F (9, 104, 9, 15) := ⟨(RX9, TX9, 17), rfl, jat_m2 (k := 3) (l := 110) rfl rfl⟩
theorem jfl_o13 : ∀ e ∈ jfl_r13, jfl_F e := List.forall_mem_cons.mpr ⟨jfl_208, List.forall_mem_cons.mpr ⟨jfl_209, List.forall_mem_cons.mpr ⟨jfl_210, List.forall_mem_cons.mpr ⟨jfl_211, List.forall_mem_cons.mpr ⟨jfl_212, List.forall_mem_cons.mpr ⟨jfl_213, List.forall_mem_cons.mpr ⟨jfl_214, List.forall_mem_cons.mpr ⟨jfl_215, List.forall_mem_cons.mpr ⟨jfl_216, List.forall_mem_cons.mpr ⟨jfl_217, List.forall_mem_cons.mpr ⟨jfl_218, List.forall_mem_cons.mpr ⟨jfl_219, List.forall_mem_cons.mpr ⟨jfl_220, List.forall_mem_cons.mpr ⟨jfl_221, List.forall_mem_cons.mpr ⟨jfl_222, List.forall_mem_cons.mpr ⟨jfl_223, fun _ h => absurd h List.not_mem_nil⟩⟩⟩⟩⟩⟩⟩⟩⟩⟩⟩⟩⟩⟩⟩⟩
def jfl_r14 : List (Nat × Nat × Nat × Nat) := [(9, 110, 9, 8), (9, 113, 9, 9), (9, 116, 3, 2), (9, 119, 9, 10), (9, 121, 3, 3), (9, 124, 9, 11), (9, 126, 3, 8), (9, 134, 3, 4), (9, 140, 3, 9), (9, 143, 3, 10), (9, 146, 9, 14), (11, 370, 9, 0), (11, 371, 9, 5), (11, 50, 11, 9), (11, 381, 1, 1), (11, 393, 3, 14)]
set_option maxRecDepth 8000 in
theorem jfl_224 : jfl_F (9, 110, 9, 8) := ⟨(RX9, TX9, 17), rfl, jat_m2 (k := 3) (l := 103) rfl rfl⟩
set_option maxRecDepth 8000 in
theorem jfl_225 : jfl_F (9, 113, 9, 9) := ⟨(RX9, TX9, 17), rfl, jat_m2 (k := 3) (l := 104) rfl rfl⟩
set_option maxRecDepth 8000 in
theorem jfl_226 : jfl_F (9, 116, 3, 2) := ⟨(RX3, TX3, 16), rfl, jat_m2 (k := 1) (l := 138) rfl rfl⟩
set_option maxRecDepth 8000 in
theorem jfl_227 : jfl_F (9, 119, 9, 10) := ⟨(RX9, TX9, 17), rfl, jat_m2 (k := 3) (l := 105) rfl rfl⟩
set_option maxRecDepth 8000 in
theorem jfl_228 : jfl_F (9, 121, 3, 3) := ⟨(RX3, TX3, 16), rfl, jat_m2 (k := 1) (l := 143) rfl rfl⟩
set_option maxRecDepth 8000 in
theorem jfl_229 : jfl_F (9, 124, 9, 11) := ⟨(RX9, TX9, 17), rfl, jat_m2 (k := 3) (l := 106) rfl rfl⟩
set_option maxRecDepth 8000 in
theorem jfl_230 : jfl_F (9, 126, 3, 8) := ⟨(RX3, TX3, 16), rfl, jat_m2 (k := 1) (l := 166) rfl rfl⟩
set_option maxRecDepth 8000 in
theorem jfl_231 : jfl_F (9, 134, 3, 4) := ⟨(RX3, TX3, 16), rfl, jat_m2 (k := 1) (l := 149) rfl rfl⟩
set_option maxRecDepth 8000 in
theorem jfl_232 : jfl_F (9, 140, 3, 9) := ⟨(RX3, TX3, 16), rfl, jat_m2 (k := 1) (l := 172) rfl rfl⟩
set_option maxRecDepth 8000 in
theorem jfl_233 : jfl_F (9, 143, 3, 10) := ⟨(RX3, TX3, 16), rfl, jat_m2 (k := 1) (l := 178) rfl rfl⟩
set_option maxRecDepth 8000 in
theorem jfl_234 : jfl_F (9, 146, 9, 14) := ⟨(RX9, TX9, 17), rfl, jat_m2 (k := 3) (l := 109) rfl rfl⟩
set_option maxRecDepth 8000 in
theorem jfl_235 : jfl_F (11, 370, 9, 0) := ⟨(RX9, TX9, 17), rfl, jat_m2 (k := 3) (l := 90) rfl rfl⟩
set_option maxRecDepth 8000 in
theorem jfl_236 : jfl_F (11, 371, 9, 5) := ⟨(RX9, TX9, 17), rfl, jat_m2 (k := 3) (l := 100) rfl rfl⟩
set_option maxRecDepth 8000 in
theorem jfl_237 : jfl_F (11, 50, 11, 9) := ⟨(RX11, TX11, 12), rfl, jat_m2 (k := 3) (l := 156) rfl rfl⟩
set_option maxRecDepth 8000 in
theorem jfl_238 : jfl_F (11, 381, 1, 1) := ⟨(RX1, TX1, 12), rfl, jat_m2 (k := 3) (l := 7) rfl rfl⟩
set_option maxRecDepth 8000 in
theorem jfl_239 : jfl_F (11, 393, 3, 14) := ⟨(RX3, TX3, 16), rfl, jat_m2 (k := 1) (l := 196) rfl rfl⟩
theorem jfl_o14 : ∀ e ∈ jfl_r14, jfl_F e := List.forall_mem_cons.mpr ⟨jfl_224, List.forall_mem_cons.mpr ⟨jfl_225, List.forall_mem_cons.mpr ⟨jfl_226, List.forall_mem_cons.mpr ⟨jfl_227, List.forall_mem_cons.mpr ⟨jfl_228, List.forall_mem_cons.mpr ⟨jfl_229, List.forall_mem_cons.mpr ⟨jfl_230, List.forall_mem_cons.mpr ⟨jfl_231, List.forall_mem_cons.mpr ⟨jfl_232, List.forall_mem_cons.mpr ⟨jfl_233, List.forall_mem_cons.mpr ⟨jfl_234, List.forall_mem_cons.mpr ⟨jfl_235, List.forall_mem_cons.mpr ⟨jfl_236, List.forall_mem_cons.mpr ⟨jfl_237, List.forall_mem_cons.mpr ⟨jfl_238, List.forall_mem_cons.mpr ⟨jfl_239, fun _ h => absurd h List.not_mem_nil⟩⟩⟩⟩⟩⟩⟩⟩⟩⟩⟩⟩⟩⟩⟩⟩
def jfl_r15 : List (Nat × Nat × Nat × Nat) := [(11, 387, 1, 2), (11, 390, 1, 3), (11, 403, 1, 5), (11, 406, 3, 15), (11, 147, 3, 2), (11, 151, 3, 3), (11, 163, 3, 5), (12, 16, 12, 4), (12, 196, 12, 16), (12, 98, 12, 6), (12, 95, 12, 7), (12, 139, 12, 12), (12, 108, 12, 9), (12, 142, 12, 13), (12, 105, 12, 8), (12, 115, 12, 11)]
set_option maxRecDepth 8000 in
theorem jfl_240 : jfl_F (11, 387, 1, 2) := ⟨(RX1, TX1, 12), rfl, jat_m2 (k := 3) (l := 9) rfl rfl⟩
set_option maxRecDepth 8000 in
theorem jfl_241 : jfl_F (11, 390, 1, 3) := ⟨(RX1, TX1, 12), rfl, jat_m2 (k := 3) (l := 11) rfl rfl⟩
set_option maxRecDepth 8000 in
theorem jfl_242 : jfl_F (11, 403, 1, 5) := ⟨(RX1, TX1, 12), rfl, jat_m2 (k := 3) (l := 15) rfl rfl⟩
set_option maxRecDepth 8000 in
theorem jfl_243 : jfl_F (11, 406, 3, 15) := ⟨(RX3, TX3, 16), rfl, jat_m2 (k := 1) (l := 200) rfl rfl⟩
set_option maxRecDepth 8000 in
theorem jfl_244 : jfl_F (11, 147, 3, 2) := ⟨(RX3, TX3, 16), rfl, jat_m2 (k := 1) (l := 139) rfl rfl⟩
set_option maxRecDepth 8000 in
theorem jfl_245 : jfl_F (11, 151, 3, 3) := ⟨(RX3, TX3, 16), rfl, jat_m2 (k := 1) (l := 144) rfl rfl⟩
set_option maxRecDepth 8000 in
theorem jfl_246 : jfl_F (11, 163, 3, 5) := ⟨(RX3, TX3, 16), rfl, jat_m2 (k := 1) (l := 155) rfl rfl⟩
set_option maxRecDepth 8000 in
theorem jfl_247 : jfl_F (12, 16, 12, 4) := ⟨(RX12, TX12, 55), rfl, jat_m2 (k := 7) (l := 113) rfl rfl⟩
set_option maxRecDepth 8000 in
theorem jfl_248 : jfl_F (12, 196, 12, 16) := ⟨(RX12, TX12, 55), rfl, jat_m2 (k := 7) (l := 125) rfl rfl⟩
set_option maxRecDepth 8000 in
theorem jfl_249 : jfl_F (12, 98, 12, 6) := ⟨(RX12, TX12, 55), rfl, jat_m2 (k := 7) (l := 115) rfl rfl⟩
set_option maxRecDepth 8000 in
theorem jfl_250 : jfl_F (12, 95, 12, 7) := ⟨(RX12, TX12, 55), rfl, jat_m2 (k := 7) (l := 116) rfl rfl⟩
set_option maxRecDepth 8000 in
theorem jfl_251 : jfl_F (12, 139, 12, 12) := ⟨(RX12, TX12, 55), rfl, jat_m2 (k := 7) (l := 121) rfl rfl⟩
set_option maxRecDepth 8000 in
theorem jfl_252 : jfl_F (12, 108, 12, 9) := ⟨(RX12, TX12, 55), rfl, jat_m2 (k := 7) (l := 118) rfl rfl⟩
set_option maxRecDepth 8000 in
theorem jfl_253 : jfl_F (12, 142, 12, 13) := ⟨(RX12, TX12, 55), rfl, jat_m2 (k := 7) (l := 122) rfl rfl⟩
set_option maxRecDepth 8000 in
theorem jfl_254 : jfl_F (12, 105, 12, 8) := ⟨(RX12, TX12, 55), rfl, jat_m2 (k := 7) (l := 117) rfl rfl⟩
set_option maxRecDepth 8000 in
theorem jfl_255 : jfl_F (12, 115, 12, 11) := ⟨(RX12, TX12, 55), rfl, jat_m2 (k := 7) (l := 120) rfl rfl⟩
theorem jfl_o15 : ∀ e ∈ jfl_r15, jfl_F e := List.forall_mem_cons.mpr ⟨jfl_240, List.forall_mem_cons.mpr ⟨jfl_241, List.forall_mem_cons.mpr ⟨jfl_242, List.forall_mem_cons.mpr ⟨jfl_243, List.forall_mem_cons.mpr ⟨jfl_244, List.forall_mem_cons.mpr ⟨jfl_245, List.forall_mem_cons.mpr ⟨jfl_246, List.forall_mem_cons.mpr ⟨jfl_247, List.forall_mem_cons.mpr ⟨jfl_248, List.forall_mem_cons.mpr ⟨jfl_249, List.forall_mem_cons.mpr ⟨jfl_250, List.forall_mem_cons.mpr ⟨jfl_251, List.forall_mem_cons.mpr ⟨jfl_252, List.forall_mem_cons.mpr ⟨jfl_253, List.forall_mem_cons.mpr ⟨jfl_254, List.forall_mem_cons.mpr ⟨jfl_255, fun _ h => absurd h List.not_mem_nil⟩⟩⟩⟩⟩⟩⟩⟩⟩⟩⟩⟩⟩⟩⟩⟩
def jfl_r16 : List (Nat × Nat × Nat × Nat) := [(12, 121, 12, 10), (12, 7, 12, 1), (12, 19, 12, 5), (12, 13, 12, 3), (12, 70, 12, 50), (12, 26, 12, 17), (12, 306, 12, 27), (12, 303, 12, 28), (12, 309, 12, 29), (12, 312, 12, 30), (12, 315, 12, 31), (12, 30, 12, 18), (12, 34, 12, 19), (12, 244, 12, 22), (12, 248, 12, 23), (12, 251, 12, 24)]
set_option maxRecDepth 8000 in
theorem jfl_256 : jfl_F (12, 121, 12, 10) := ⟨(RX12, TX12, 55), rfl, jat_m2 (k := 7) (l := 119) rfl rfl⟩
set_option maxRecDepth 8000 in
theorem jfl_257 : jfl_F (12, 7, 12, 1) := ⟨(RX12, TX12, 55), rfl, jat_m2 (k := 7) (l := 110) rfl rfl⟩
set_option maxRecDepth 8000 in
theorem jfl_258 : jfl_F (12, 19, 12, 5) := ⟨(RX12, TX12, 55), rfl, jat_m2 (k := 7) (l := 114) rfl rfl⟩
set_option maxRecDepth 8000 in
theorem jfl_259 : jfl_F (12, 13, 12, 3) := ⟨(RX12, TX12, 55), rfl, jat_m2 (k := 7) (l := 112) rfl rfl⟩
set_option maxRecDepth 8000 in
theorem jfl_260 : jfl_F (12, 70, 12, 50) := ⟨(RX12, TX12, 55), rfl, jat_m2 (k := 7) (l := 159) rfl rfl⟩
set_option maxRecDepth 8000 in
theorem jfl_261 : jfl_F (12, 26, 12, 17) := ⟨(RX12, TX12, 55), rfl, jat_m2 (k := 7) (l := 126) rfl rfl⟩
set_option maxRecDepth 8000 in
theorem jfl_262 : jfl_F (12, 306, 12, 27) := ⟨(RX12, TX12, 55), rfl, jat_m2 (k := 7) (l := 136) rfl rfl⟩
set_option maxRecDepth 8000 in
theorem jfl_263 : jfl_F (12, 303, 12, 28) := ⟨(RX12, TX12, 55), rfl, jat_m2 (k := 7) (l := 137) rfl rfl⟩
set_option maxRecDepth 8000 in
theorem jfl_264 : jfl_F (12, 309, 12, 29) := ⟨(RX12, TX12, 55), rfl, jat_m2 (k := 7) (l := 138) rfl rfl⟩
set_option maxRecDepth 8000 in
theorem jfl_265 : jfl_F (12, 312, 12, 30) := ⟨(RX12, TX12, 55), rfl, jat_m2 (k := 7) (l := 139) rfl rfl⟩
set_option maxRecDepth 8000 in
theorem jfl_266 : jfl_F (12, 315, 12, 31) := ⟨(RX12, TX12, 55), rfl, jat_m2 (k := 7) (l := 140) rfl rfl⟩
set_option maxRecDepth 8000 in
theorem jfl_267 : jfl_F (12, 30, 12, 18) := ⟨(RX12, TX12, 55), rfl, jat_m2 (k := 7) (l := 127) rfl rfl⟩
set_option maxRecDepth 8000 in
theorem jfl_268 : jfl_F (12, 34, 12, 19) := ⟨(RX12, TX12, 55), rfl, jat_m2 (k := 7) (l := 128) rfl rfl⟩
set_option maxRecDepth 8000 in
theorem jfl_269 : jfl_F (12, 244, 12, 22) := ⟨(RX12, TX12, 55), rfl, jat_m2 (k := 7) (l := 131) rfl rfl⟩
set_option maxRecDepth 8000 in
theorem jfl_270 : jfl_F (12, 248, 12, 23) := ⟨(RX12, TX12, 55), rfl, jat_m2 (k := 7) (l := 132) rfl rfl⟩
set_option maxRecDepth 8000 in
theorem jfl_271 : jfl_F (12, 251, 12, 24) := ⟨(RX12, TX12, 55), rfl, jat_m2 (k := 7) (l := 133) rfl rfl⟩
theorem jfl_o16 : ∀ e ∈ jfl_r16, jfl_F e := List.forall_mem_cons.mpr ⟨jfl_256, List.forall_mem_cons.mpr ⟨jfl_257, List.forall_mem_cons.mpr ⟨jfl_258, List.forall_mem_cons.mpr ⟨jfl_259, List.forall_mem_cons.mpr ⟨jfl_260, List.forall_mem_cons.mpr ⟨jfl_261, List.forall_mem_cons.mpr ⟨jfl_262, List.forall_mem_cons.mpr ⟨jfl_263, List.forall_mem_cons.mpr ⟨jfl_264, List.forall_mem_cons.mpr ⟨jfl_265, List.forall_mem_cons.mpr ⟨jfl_266, List.forall_mem_cons.mpr ⟨jfl_267, List.forall_mem_cons.mpr ⟨jfl_268, List.forall_mem_cons.mpr ⟨jfl_269, List.forall_mem_cons.mpr ⟨jfl_270, List.forall_mem_cons.mpr ⟨jfl_271, fun _ h => absurd h List.not_mem_nil⟩⟩⟩⟩⟩⟩⟩⟩⟩⟩⟩⟩⟩⟩⟩⟩
def jfl_r17 : List (Nat × Nat × Nat × Nat) := [(12, 37, 12, 20), (12, 40, 12, 21), (12, 46, 12, 26), (12, 43, 12, 25), (12, 89, 12, 0), (12, 92, 12, 2), (12, 227, 12, 14), (12, 22, 12, 15), (12, 49, 12, 32), (12, 349, 12, 33), (12, 406, 12, 35), (12, 52, 12, 34), (12, 426, 12, 38), (12, 58, 12, 37), (12, 61, 12, 39), (12, 55, 12, 36)]
set_option maxRecDepth 8000 in
theorem jfl_272 : jfl_F (12, 37, 12, 20) := ⟨(RX12, TX12, 55), rfl, jat_m2 (k := 7) (l := 129) rfl rfl⟩
set_option maxRecDepth 8000 in
theorem jfl_273 : jfl_F (12, 40, 12, 21) := ⟨(RX12, TX12, 55), rfl, jat_m2 (k := 7) (l := 130) rfl rfl⟩
set_option maxRecDepth 8000 in
theorem jfl_274 : jfl_F (12, 46, 12, 26) := ⟨(RX12, TX12, 55), rfl, jat_m2 (k := 7) (l := 135) rfl rfl⟩
set_option maxRecDepth 8000 in
theorem jfl_275 : jfl_F (12, 43, 12, 25) := ⟨(RX12, TX12, 55), rfl, jat_m2 (k := 7) (l := 134) rfl rfl⟩
set_option maxRecDepth 8000 in
theorem jfl_276 : jfl_F (12, 89, 12, 0) := ⟨(RX12, TX12, 55), rfl, jat_m2 (k := 7) (l := 109) rfl rfl⟩
set_option maxRecDepth 8000 in
theorem jfl_277 : jfl_F (12, 92, 12, 2) := ⟨(RX12, TX12, 55), rfl, jat_m2 (k := 7) (l := 111) rfl rfl⟩
set_option maxRecDepth 8000 in
theorem jfl_278 : jfl_F (12, 227, 12, 14) := ⟨(RX12, TX12, 55), rfl, jat_m2 (k := 7) (l := 123) rfl rfl⟩
set_option maxRecDepth 8000 in
theorem jfl_279 : jfl_F (12, 22, 12, 15) := ⟨(RX12, TX12, 55), rfl, jat_m2 (k := 7) (l := 124) rfl rfl⟩
set_option maxRecDepth 8000 in
theorem jfl_280 : jfl_F (12, 49, 12, 32) := ⟨(RX12, TX12, 55), rfl, jat_m2 (k := 7) (l := 141) rfl rfl⟩
set_option maxRecDepth 8000 in
theorem jfl_281 : jfl_F (12, 349, 12, 33) := ⟨(RX12, TX12, 55), rfl, jat_m2 (k := 7) (l := 142) rfl rfl⟩
set_option maxRecDepth 8000 in
theorem jfl_282 : jfl_F (12, 406, 12, 35) := ⟨(RX12, TX12, 55), rfl, jat_m2 (k := 7) (l := 144) rfl rfl⟩
set_option maxRecDepth 8000 in
theorem jfl_283 : jfl_F (12, 52, 12, 34) := ⟨(RX12, TX12, 55), rfl, jat_m2 (k := 7) (l := 143) rfl rfl⟩
set_option maxRecDepth 8000 in
theorem jfl_284 : jfl_F (12, 426, 12, 38) := ⟨(RX12, TX12, 55), rfl, jat_m2 (k := 7) (l := 147) rfl rfl⟩
set_option maxRecDepth 8000 in
theorem jfl_285 : jfl_F (12, 58, 12, 37) := ⟨(RX12, TX12, 55), rfl, jat_m2 (k := 7) (l := 146) rfl rfl⟩
set_option maxRecDepth 8000 in
theorem jfl_286 : jfl_F (12, 61, 12, 39) := ⟨(RX12, TX12, 55), rfl, jat_m2 (k := 7) (l := 148) rfl rfl⟩
set_option maxRecDepth 8000 in
theorem jfl_287 : jfl_F (12, 55, 12, 36) := ⟨(RX12, TX12, 55), rfl, jat_m2 (k := 7) (l := 145) rfl rfl⟩
theorem jfl_o17 : ∀ e ∈ jfl_r17, jfl_F e := List.forall_mem_cons.mpr ⟨jfl_272, List.forall_mem_cons.mpr ⟨jfl_273, List.forall_mem_cons.mpr ⟨jfl_274, List.forall_mem_cons.mpr ⟨jfl_275, List.forall_mem_cons.mpr ⟨jfl_276, List.forall_mem_cons.mpr ⟨jfl_277, List.forall_mem_cons.mpr ⟨jfl_278, List.forall_mem_cons.mpr ⟨jfl_279, List.forall_mem_cons.mpr ⟨jfl_280, List.forall_mem_cons.mpr ⟨jfl_281, List.forall_mem_cons.mpr ⟨jfl_282, List.forall_mem_cons.mpr ⟨jfl_283, List.forall_mem_cons.mpr ⟨jfl_284, List.forall_mem_cons.mpr ⟨jfl_285, List.forall_mem_cons.mpr ⟨jfl_286, List.forall_mem_cons.mpr ⟨jfl_287, fun _ h => absurd h List.not_mem_nil⟩⟩⟩⟩⟩⟩⟩⟩⟩⟩⟩⟩⟩⟩⟩⟩
def jfl_r18 : List (Nat × Nat × Nat × Nat) := [(12, 64, 12, 46), (12, 429, 12, 40), (12, 432, 12, 41), (12, 447, 12, 47), (12, 450, 12, 48), (12, 435, 12, 44), (12, 438, 12, 45), (12, 441, 12, 42), (12, 444, 12, 43), (12, 67, 12, 49), (12, 525, 12, 51), (12, 73, 12, 52), (12, 76, 12, 53), (12, 79, 12, 54)]
set_option maxRecDepth 8000 in
theorem jfl_288 : jfl_F (12, 64, 12, 46) := ⟨(RX12, TX12, 55), rfl, jat_m2 (k := 7) (l := 155) rfl rfl⟩
set_option maxRecDepth 8000 in
theorem jfl_289 : jfl_F (12, 429, 12, 40) := ⟨(RX12, TX12, 55), rfl, jat_m2 (k := 7) (l := 149) rfl rfl⟩
set_option maxRecDepth 8000 in
theorem jfl_290 : jfl_F (12, 432, 12, 41) := ⟨(RX12, TX12, 55), rfl, jat_m2 (k := 7) (l := 150) rfl rfl⟩
set_option maxRecDepth 8000 in
theorem jfl_291 : jfl_F (12, 447, 12, 47) := ⟨(RX12, TX12, 55), rfl, jat_m2 (k := 7) (l := 156) rfl rfl⟩
set_option maxRecDepth 8000 in
theorem jfl_292 : jfl_F (12, 450, 12, 48) := ⟨(RX12, TX12, 55), rfl, jat_m2 (k := 7) (l := 157) rfl rfl⟩
set_option maxRecDepth 8000 in
theorem jfl_293 : jfl_F (12, 435, 12, 44) := ⟨(RX12, TX12, 55), rfl, jat_m2 (k := 7) (l := 153) rfl rfl⟩
set_option maxRecDepth 8000 in
theorem jfl_294 : jfl_F (12, 438, 12, 45) := ⟨(RX12, TX12, 55), rfl, jat_m2 (k := 7) (l := 154) rfl rfl⟩
set_option maxRecDepth 8000 in
theorem jfl_295 : jfl_F (12, 441, 12, 42) := ⟨(RX12, TX12, 55), rfl, jat_m2 (k := 7) (l := 151) rfl rfl⟩
set_option maxRecDepth 8000 in
theorem jfl_296 : jfl_F (12, 444, 12, 43) := ⟨(RX12, TX12, 55), rfl, jat_m2 (k := 7) (l := 152) rfl rfl⟩
set_option maxRecDepth 8000 in
theorem jfl_297 : jfl_F (12, 67, 12, 49) := ⟨(RX12, TX12, 55), rfl, jat_m2 (k := 7) (l := 158) rfl rfl⟩
set_option maxRecDepth 8000 in
theorem jfl_298 : jfl_F (12, 525, 12, 51) := ⟨(RX12, TX12, 55), rfl, jat_m2 (k := 7) (l := 160) rfl rfl⟩
set_option maxRecDepth 8000 in
theorem jfl_299 : jfl_F (12, 73, 12, 52) := ⟨(RX12, TX12, 55), rfl, jat_m2 (k := 7) (l := 161) rfl rfl⟩
set_option maxRecDepth 8000 in
theorem jfl_300 : jfl_F (12, 76, 12, 53) := ⟨(RX12, TX12, 55), rfl, jat_m2 (k := 7) (l := 162) rfl rfl⟩
set_option maxRecDepth 8000 in
theorem jfl_301 : jfl_F (12, 79, 12, 54) := ⟨(RX12, TX12, 55), rfl, jat_m2 (k := 7) (l := 163) rfl rfl⟩
theorem jfl_o18 : ∀ e ∈ jfl_r18, jfl_F e := List.forall_mem_cons.mpr ⟨jfl_288, List.forall_mem_cons.mpr ⟨jfl_289, List.forall_mem_cons.mpr ⟨jfl_290, List.forall_mem_cons.mpr ⟨jfl_291, List.forall_mem_cons.mpr ⟨jfl_292, List.forall_mem_cons.mpr ⟨jfl_293, List.forall_mem_cons.mpr ⟨jfl_294, List.forall_mem_cons.mpr ⟨jfl_295, List.forall_mem_cons.mpr ⟨jfl_296, List.forall_mem_cons.mpr ⟨jfl_297, List.forall_mem_cons.mpr ⟨jfl_298, List.forall_mem_cons.mpr ⟨jfl_299, List.forall_mem_cons.mpr ⟨jfl_300, List.forall_mem_cons.mpr ⟨jfl_301, fun _ h => absurd h List.not_mem_nil⟩⟩⟩⟩⟩⟩⟩⟩⟩⟩⟩⟩⟩⟩
def jfl_t : List (List (Nat × Nat × Nat × Nat)) := [jfl_r0, jfl_r1, jfl_r2, jfl_r3, jfl_r4, jfl_r5, jfl_r6, jfl_r7, jfl_r8, jfl_r9, jfl_r10, jfl_r11, jfl_r12, jfl_r13, jfl_r14, jfl_r15, jfl_r16, jfl_r17, jfl_r18]
theorem jfl_all : ∀ r ∈ jfl_t, ∀ e ∈ r, jfl_F e := List.forall_mem_cons.mpr ⟨jfl_o0, List.forall_mem_cons.mpr ⟨jfl_o1, List.forall_mem_cons.mpr ⟨jfl_o2, List.forall_mem_cons.mpr ⟨jfl_o3, List.forall_mem_cons.mpr ⟨jfl_o4, List.forall_mem_cons.mpr ⟨jfl_o5, List.forall_mem_cons.mpr ⟨jfl_o6, List.forall_mem_cons.mpr ⟨jfl_o7, List.forall_mem_cons.mpr ⟨jfl_o8, List.forall_mem_cons.mpr ⟨jfl_o9, List.forall_mem_cons.mpr ⟨jfl_o10, List.forall_mem_cons.mpr ⟨jfl_o11, List.forall_mem_cons.mpr ⟨jfl_o12, List.forall_mem_cons.mpr ⟨jfl_o13, List.forall_mem_cons.mpr ⟨jfl_o14, List.forall_mem_cons.mpr ⟨jfl_o15, List.forall_mem_cons.mpr ⟨jfl_o16, List.forall_mem_cons.mpr ⟨jfl_o17, List.forall_mem_cons.mpr ⟨jfl_o18, fun _ h => absurd h List.not_mem_nil⟩⟩⟩⟩⟩⟩⟩⟩⟩⟩⟩⟩⟩⟩⟩⟩⟩⟩⟩
def jfl : Nat → Nat × Nat × Nat × Nat := jT jfl_t (99, 0, 99, 99)
theorem jfl_ok (n : Nat) {o x a b : Nat} (h : jfl n = (o, x, a, b)) (hb : b < (jtf a).length) : ∃ r : vw_C, vwCl[a]? = some r ∧ Cond.fieldLink (jcn o) x (r.2.1 b).1 (r.2.1 b).2.1 (r.2.1 b).2.2.1 ∈ jtbl := by
  rcases jT_ok jfl_all (99, 0, 99, 99) n with q | q
  · have h : jT jfl_t (99, 0, 99, 99) n = _ := h
    rw [q] at h
    cases h
    exact absurd hb (by decide)
  · have h : jT jfl_t (99, 0, 99, 99) n = _ := h
    rw [h] at q
    exact q
def jml_F (e : Nat × Nat × Nat) : Prop := e.1 = 99 ∨ Cond.methodLink (jcn e.1) e.2.1 (jtm e.2.2).1 ∈ jtbl
def jml_r0 : List (Nat × Nat × Nat) := [(4, 28, 4), (3, 59, 3), (11, 72, 16), (11, 76, 18), (11, 85, 45), (11, 89, 46), (7, 31, 19), (7, 60, 6), (7, 65, 20), (7, 71, 23), (7, 215, 21), (7, 218, 22), (7, 80, 24), (7, 83, 25), (7, 86, 35), (7, 89, 38)]
set_option maxRecDepth 8000 in
theorem jml_0 : jml_F (4, 28, 4) := Or.inr (jat_m2 (k := 1) (l := 49) rfl rfl)
set_option maxRecDepth 8000 in
theorem jml_1 : jml_F (3, 59, 3) := Or.inr (jat_m2 (k := 1) (l := 128) rfl rfl)
set_option maxRecDepth 8000 in
theorem jml_2 : jml_F (11, 72, 16) := Or.inr (jat_m2 (k := 3) (l := 188) rfl rfl)
set_option maxRecDepth 8000 in
theorem jml_3 : jml_F (11, 76, 18) := Or.inr (jat_m2 (k := 3) (l := 196) rfl rfl)
set_option maxRecDepth 8000 in
theorem jml_4 : jml_F (11, 85, 45) := Or.inr (jat_m2 (k := 4) (l := 64) rfl rfl)
set_option maxRecDepth 8000 in
theorem jml_5 : jml_F (11, 89, 46) := Or.inr (jat_m2 (k := 4) (l := 68) rfl rfl)
set_option maxRecDepth 8000 in
theorem jml_6 : jml_F (7, 31, 19) := Or.inr (jat_m2 (k := 3) (l := 200) rfl rfl)
set_option maxRecDepth 8000 in
theorem jml_7 : jml_F (7, 60, 6) := Or.inr (jat_m2 (k := 3) (l := 203) rfl rfl)
set_option maxRecDepth 8000 in
theorem jml_8 : jml_F (7, 65, 20) := Or.inr (jat_m2 (k := 3) (l := 204) rfl rfl)
set_option maxRecDepth 8000 in
theorem jml_9 : jml_F (7, 71, 23) := Or.inr (jat_m2 (k := 3) (l := 217) rfl rfl)
set_option maxRecDepth 8000 in
theorem jml_10 : jml_F (7, 215, 21) := Or.inr (jat_m2 (k := 3) (l := 208) rfl rfl)
set_option maxRecDepth 8000 in
theorem jml_11 : jml_F (7, 218, 22) := Or.inr (jat_m2 (k := 3) (l := 212) rfl rfl)
set_option maxRecDepth 8000 in
theorem jml_12 : jml_F (7, 80, 24) := Or.inr (jat_m2 (k := 3) (l := 221) rfl rfl)
set_option maxRecDepth 8000 in
theorem jml_13 : jml_F (7, 83, 25) := Or.inr (jat_m2 (k := 3) (l := 225) rfl rfl)
set_option maxRecDepth 8000 in
theorem jml_14 : jml_F (7, 86, 35) := Or.inr (jat_m2 (k := 4) (l := 24) rfl rfl)
set_option maxRecDepth 8000 in
theorem jml_15 : jml_F (7, 89, 38) := Or.inr (jat_m2 (k := 4) (l := 36) rfl rfl)
theorem jml_o0 : ∀ e ∈ jml_r0, jml_F e := List.forall_mem_cons.mpr ⟨jml_0, List.forall_mem_cons.mpr ⟨jml_1, List.forall_mem_cons.mpr ⟨jml_2, List.forall_mem_cons.mpr ⟨jml_3, List.forall_mem_cons.mpr ⟨jml_4, List.forall_mem_cons.mpr ⟨jml_5, List.forall_mem_cons.mpr ⟨jml_6, List.forall_mem_cons.mpr ⟨jml_7, List.forall_mem_cons.mpr ⟨jml_8, List.forall_mem_cons.mpr ⟨jml_9, List.forall_mem_cons.mpr ⟨jml_10, List.forall_mem_cons.mpr ⟨jml_11, List.forall_mem_cons.mpr ⟨jml_12, List.forall_mem_cons.mpr ⟨jml_13, List.forall_mem_cons.mpr ⟨jml_14, List.forall_mem_cons.mpr ⟨jml_15, fun _ h => absurd h List.not_mem_nil⟩⟩⟩⟩⟩⟩⟩⟩⟩⟩⟩⟩⟩⟩⟩⟩
def jml_r1 : List (Nat × Nat × Nat) := [(7, 92, 39), (7, 95, 41), (7, 98, 42), (7, 102, 43), (7, 105, 44), (7, 108, 27), (7, 112, 26), (7, 122, 28), (7, 126, 29), (7, 129, 30), (7, 132, 34), (7, 197, 31), (7, 207, 32), (4, 32, 33), (7, 136, 36), (7, 143, 37)]
set_option maxRecDepth 8000 in
theorem jml_16 : jml_F (7, 92, 39) := Or.inr (jat_m2 (k := 4) (l := 40) rfl rfl)
set_option maxRecDepth 8000 in
theorem jml_17 : jml_F (7, 95, 41) := Or.inr (jat_m2 (k := 4) (l := 48) rfl rfl)
set_option maxRecDepth 8000 in
theorem jml_18 : jml_F (7, 98, 42) := Or.inr (jat_m2 (k := 4) (l := 52) rfl rfl)
set_option maxRecDepth 8000 in
theorem jml_19 : jml_F (7, 102, 43) := Or.inr (jat_m2 (k := 4) (l := 56) rfl rfl)
set_option maxRecDepth 8000 in
theorem jml_20 : jml_F (7, 105, 44) := Or.inr (jat_m2 (k := 4) (l := 60) rfl rfl)
set_option maxRecDepth 8000 in
theorem jml_21 : jml_F (7, 108, 27) := Or.inr (jat_m2 (k := 3) (l := 233) rfl rfl)
set_option maxRecDepth 8000 in
theorem jml_22 : jml_F (7, 112, 26) := Or.inr (jat_m2 (k := 3) (l := 229) rfl rfl)
set_option maxRecDepth 8000 in
theorem jml_23 : jml_F (7, 122, 28) := Or.inr (jat_m2 (k := 3) (l := 237) rfl rfl)
set_option maxRecDepth 8000 in
theorem jml_24 : jml_F (7, 126, 29) := Or.inr (jat_m2 (k := 4) (l := 1) rfl rfl)
set_option maxRecDepth 8000 in
theorem jml_25 : jml_F (7, 129, 30) := Or.inr (jat_m2 (k := 4) (l := 5) rfl rfl)
set_option maxRecDepth 8000 in
theorem jml_26 : jml_F (7, 132, 34) := Or.inr (jat_m2 (k := 4) (l := 20) rfl rfl)
set_option maxRecDepth 8000 in
theorem jml_27 : jml_F (7, 197, 31) := Or.inr (jat_m2 (k := 4) (l := 9) rfl rfl)
set_option maxRecDepth 8000 in
theorem jml_28 : jml_F (7, 207, 32) := Or.inr (jat_m2 (k := 4) (l := 12) rfl rfl)
set_option maxRecDepth 8000 in
theorem jml_29 : jml_F (4, 32, 33) := Or.inr (jat_m2 (k := 4) (l := 16) rfl rfl)
set_option maxRecDepth 8000 in
theorem jml_30 : jml_F (7, 136, 36) := Or.inr (jat_m2 (k := 4) (l := 28) rfl rfl)
set_option maxRecDepth 8000 in
theorem jml_31 : jml_F (7, 143, 37) := Or.inr (jat_m2 (k := 4) (l := 32) rfl rfl)
theorem jml_o1 : ∀ e ∈ jml_r1, jml_F e := List.forall_mem_cons.mpr ⟨jml_16, List.forall_mem_cons.mpr ⟨jml_17, List.forall_mem_cons.mpr ⟨jml_18, List.forall_mem_cons.mpr ⟨jml_19, List.forall_mem_cons.mpr ⟨jml_20, List.forall_mem_cons.mpr ⟨jml_21, List.forall_mem_cons.mpr ⟨jml_22, List.forall_mem_cons.mpr ⟨jml_23, List.forall_mem_cons.mpr ⟨jml_24, List.forall_mem_cons.mpr ⟨jml_25, List.forall_mem_cons.mpr ⟨jml_26, List.forall_mem_cons.mpr ⟨jml_27, List.forall_mem_cons.mpr ⟨jml_28, List.forall_mem_cons.mpr ⟨jml_29, List.forall_mem_cons.mpr ⟨jml_30, List.forall_mem_cons.mpr ⟨jml_31, fun _ h => absurd h List.not_mem_nil⟩⟩⟩⟩⟩⟩⟩⟩⟩⟩⟩⟩⟩⟩⟩⟩
def jml_r2 : List (Nat × Nat × Nat) := [(7, 153, 40), (1, 70, 47), (1, 80, 48), (1, 87, 50), (1, 91, 56), (1, 95, 57), (1, 115, 60), (2, 85, 49), (1, 185, 51), (1, 199, 54), (2, 91, 52), (2, 100, 53), (2, 107, 31), (2, 111, 55), (1, 195, 58), (1, 151, 59)]
set_option maxRecDepth 8000 in
theorem jml_32 : jml_F (7, 153, 40) := Or.inr (jat_m2 (k := 4) (l := 44) rfl rfl)
set_option maxRecDepth 8000 in
theorem jml_33 : jml_F (1, 70, 47) := Or.inr (jat_m2 (k := 4) (l := 72) rfl rfl)
set_option maxRecDepth 8000 in
theorem jml_34 : jml_F (1, 80, 48) := Or.inr (jat_m2 (k := 4) (l := 76) rfl rfl)
set_option maxRecDepth 8000 in
theorem jml_35 : jml_F (1, 87, 50) := Or.inr (jat_m2 (k := 4) (l := 84) rfl rfl)
set_option maxRecDepth 8000 in
theorem jml_36 : jml_F (1, 91, 56) := Or.inr (jat_m2 (k := 4) (l := 111) rfl rfl)
set_option maxRecDepth 8000 in
theorem jml_37 : jml_F (1, 95, 57) := Or.inr (jat_m2 (k := 4) (l := 115) rfl rfl)
set_option maxRecDepth 8000 in
theorem jml_38 : jml_F (1, 115, 60) := Or.inr (jat_m2 (k := 4) (l := 128) rfl rfl)
set_option maxRecDepth 8000 in
theorem jml_39 : jml_F (2, 85, 49) := Or.inr (jat_m2 (k := 4) (l := 80) rfl rfl)
set_option maxRecDepth 8000 in
theorem jml_40 : jml_F (1, 185, 51) := Or.inr (jat_m2 (k := 4) (l := 88) rfl rfl)
set_option maxRecDepth 8000 in
theorem jml_41 : jml_F (1, 199, 54) := Or.inr (jat_m2 (k := 4) (l := 100) rfl rfl)
set_option maxRecDepth 8000 in
theorem jml_42 : jml_F (2, 91, 52) := Or.inr (jat_m2 (k := 4) (l := 92) rfl rfl)
set_option maxRecDepth 8000 in
theorem jml_43 : jml_F (2, 100, 53) := Or.inr (jat_m2 (k := 4) (l := 96) rfl rfl)
set_option maxRecDepth 8000 in
theorem jml_44 : jml_F (2, 107, 31) := Or.inr (jat_m2 (k := 4) (l := 104) rfl rfl)
set_option maxRecDepth 8000 in
theorem jml_45 : jml_F (2, 111, 55) := Or.inr (jat_m2 (k := 4) (l := 105) rfl rfl)
set_option maxRecDepth 8000 in
theorem jml_46 : jml_F (1, 195, 58) := Or.inr (jat_m2 (k := 4) (l := 119) rfl rfl)
set_option maxRecDepth 8000 in
theorem jml_47 : jml_F (1, 151, 59) := Or.inr (jat_m2 (k := 4) (l := 123) rfl rfl)
theorem jml_o2 : ∀ e ∈ jml_r2, jml_F e := List.forall_mem_cons.mpr ⟨jml_32, List.forall_mem_cons.mpr ⟨jml_33, List.forall_mem_cons.mpr ⟨jml_34, List.forall_mem_cons.mpr ⟨jml_35, List.forall_mem_cons.mpr ⟨jml_36, List.forall_mem_cons.mpr ⟨jml_37, List.forall_mem_cons.mpr ⟨jml_38, List.forall_mem_cons.mpr ⟨jml_39, List.forall_mem_cons.mpr ⟨jml_40, List.forall_mem_cons.mpr ⟨jml_41, List.forall_mem_cons.mpr ⟨jml_42, List.forall_mem_cons.mpr ⟨jml_43, List.forall_mem_cons.mpr ⟨jml_44, List.forall_mem_cons.mpr ⟨jml_45, List.forall_mem_cons.mpr ⟨jml_46, List.forall_mem_cons.mpr ⟨jml_47, fun _ h => absurd h List.not_mem_nil⟩⟩⟩⟩⟩⟩⟩⟩⟩⟩⟩⟩⟩⟩⟩⟩
def jml_r3 : List (Nat × Nat × Nat) := [(11, 99, 63), (11, 103, 64), (1, 118, 65), (1, 122, 66), (1, 137, 67), (1, 147, 68), (1, 154, 70), (1, 158, 73), (1, 162, 74), (2, 64, 69), (1, 202, 71), (1, 209, 72), (1, 166, 75), (1, 169, 76), (11, 107, 78), (11, 111, 79)]
set_option maxRecDepth 8000 in
theorem jml_48 : jml_F (11, 99, 63) := Or.inr (jat_m2 (k := 4) (l := 140) rfl rfl)
set_option maxRecDepth 8000 in
theorem jml_49 : jml_F (11, 103, 64) := Or.inr (jat_m2 (k := 4) (l := 143) rfl rfl)
set_option maxRecDepth 8000 in
theorem jml_50 : jml_F (1, 118, 65) := Or.inr (jat_m2 (k := 4) (l := 147) rfl rfl)
set_option maxRecDepth 8000 in
theorem jml_51 : jml_F (1, 122, 66) := Or.inr (jat_m2 (k := 4) (l := 151) rfl rfl)
set_option maxRecDepth 8000 in
theorem jml_52 : jml_F (1, 137, 67) := Or.inr (jat_m2 (k := 4) (l := 155) rfl rfl)
set_option maxRecDepth 8000 in
theorem jml_53 : jml_F (1, 147, 68) := Or.inr (jat_m2 (k := 4) (l := 159) rfl rfl)
set_option maxRecDepth 8000 in
theorem jml_54 : jml_F (1, 154, 70) := Or.inr (jat_m2 (k := 4) (l := 166) rfl rfl)
set_option maxRecDepth 8000 in
theorem jml_55 : jml_F (1, 158, 73) := Or.inr (jat_m2 (k := 4) (l := 178) rfl rfl)
set_option maxRecDepth 8000 in
theorem jml_56 : jml_F (1, 162, 74) := Or.inr (jat_m2 (k := 4) (l := 182) rfl rfl)
set_option maxRecDepth 8000 in
theorem jml_57 : jml_F (2, 64, 69) := Or.inr (jat_m2 (k := 4) (l := 163) rfl rfl)
set_option maxRecDepth 8000 in
theorem jml_58 : jml_F (1, 202, 71) := Or.inr (jat_m2 (k := 4) (l := 170) rfl rfl)
set_option maxRecDepth 8000 in
theorem jml_59 : jml_F (1, 209, 72) := Or.inr (jat_m2 (k := 4) (l := 174) rfl rfl)
set_option maxRecDepth 8000 in
theorem jml_60 : jml_F (1, 166, 75) := Or.inr (jat_m2 (k := 4) (l := 186) rfl rfl)
set_option maxRecDepth 8000 in
theorem jml_61 : jml_F (1, 169, 76) := Or.inr (jat_m2 (k := 4) (l := 190) rfl rfl)
set_option maxRecDepth 8000 in
theorem jml_62 : jml_F (11, 107, 78) := Or.inr (jat_m2 (k := 4) (l := 198) rfl rfl)
set_option maxRecDepth 8000 in
theorem jml_63 : jml_F (11, 111, 79) := Or.inr (jat_m2 (k := 4) (l := 202) rfl rfl)
theorem jml_o3 : ∀ e ∈ jml_r3, jml_F e := List.forall_mem_cons.mpr ⟨jml_48, List.forall_mem_cons.mpr ⟨jml_49, List.forall_mem_cons.mpr ⟨jml_50, List.forall_mem_cons.mpr ⟨jml_51, List.forall_mem_cons.mpr ⟨jml_52, List.forall_mem_cons.mpr ⟨jml_53, List.forall_mem_cons.mpr ⟨jml_54, List.forall_mem_cons.mpr ⟨jml_55, List.forall_mem_cons.mpr ⟨jml_56, List.forall_mem_cons.mpr ⟨jml_57, List.forall_mem_cons.mpr ⟨jml_58, List.forall_mem_cons.mpr ⟨jml_59, List.forall_mem_cons.mpr ⟨jml_60, List.forall_mem_cons.mpr ⟨jml_61, List.forall_mem_cons.mpr ⟨jml_62, List.forall_mem_cons.mpr ⟨jml_63, fun _ h => absurd h List.not_mem_nil⟩⟩⟩⟩⟩⟩⟩⟩⟩⟩⟩⟩⟩⟩⟩⟩
def jml_r4 : List (Nat × Nat × Nat) := [(11, 115, 66), (11, 121, 80), (11, 125, 81), (11, 128, 82), (11, 178, 84), (11, 196, 86), (11, 211, 33), (11, 215, 89), (11, 251, 90), (2, 136, 56), (2, 119, 91), (2, 140, 93), (2, 144, 99), (2, 115, 92), (6, 13, 31), (2, 148, 94)]
set_option maxRecDepth 8000 in
theorem jml_64 : jml_F (11, 115, 66) := Or.inr (jat_m2 (k := 4) (l := 205) rfl rfl)
set_option maxRecDepth 8000 in
theorem jml_65 : jml_F (11, 121, 80) := Or.inr (jat_m2 (k := 4) (l := 206) rfl rfl)
set_option maxRecDepth 8000 in
theorem jml_66 : jml_F (11, 125, 81) := Or.inr (jat_m2 (k := 4) (l := 211) rfl rfl)
set_option maxRecDepth 8000 in
theorem jml_67 : jml_F (11, 128, 82) := Or.inr (jat_m2 (k := 4) (l := 215) rfl rfl)
set_option maxRecDepth 8000 in
theorem jml_68 : jml_F (11, 178, 84) := Or.inr (jat_m2 (k := 4) (l := 223) rfl rfl)
set_option maxRecDepth 8000 in
theorem jml_69 : jml_F (11, 196, 86) := Or.inr (jat_m2 (k := 4) (l := 231) rfl rfl)
set_option maxRecDepth 8000 in
theorem jml_70 : jml_F (11, 211, 33) := Or.inr (jat_m2 (k := 4) (l := 239) rfl rfl)
set_option maxRecDepth 8000 in
theorem jml_71 : jml_F (11, 215, 89) := Or.inr (jat_m2 (k := 5) (l := 4) rfl rfl)
set_option maxRecDepth 8000 in
theorem jml_72 : jml_F (11, 251, 90) := Or.inr (jat_m2 (k := 5) (l := 8) rfl rfl)
set_option maxRecDepth 8000 in
theorem jml_73 : jml_F (2, 136, 56) := Or.inr (jat_m2 (k := 5) (l := 12) rfl rfl)
set_option maxRecDepth 8000 in
theorem jml_74 : jml_F (2, 119, 91) := Or.inr (jat_m2 (k := 5) (l := 13) rfl rfl)
set_option maxRecDepth 8000 in
theorem jml_75 : jml_F (2, 140, 93) := Or.inr (jat_m2 (k := 5) (l := 22) rfl rfl)
set_option maxRecDepth 8000 in
theorem jml_76 : jml_F (2, 144, 99) := Or.inr (jat_m2 (k := 5) (l := 42) rfl rfl)
set_option maxRecDepth 8000 in
theorem jml_77 : jml_F (2, 115, 92) := Or.inr (jat_m2 (k := 5) (l := 17) rfl rfl)
set_option maxRecDepth 8000 in
theorem jml_78 : jml_F (6, 13, 31) := Or.inr (jat_m2 (k := 5) (l := 21) rfl rfl)
set_option maxRecDepth 8000 in
theorem jml_79 : jml_F (2, 148, 94) := Or.inr (jat_m2 (k := 5) (l := 26) rfl rfl)
theorem jml_o4 : ∀ e ∈ jml_r4, jml_F e := List.forall_mem_cons.mpr ⟨jml_64, List.forall_mem_cons.mpr ⟨jml_65, List.forall_mem_cons.mpr ⟨jml_66, List.forall_mem_cons.mpr ⟨jml_67, List.forall_mem_cons.mpr ⟨jml_68, List.forall_mem_cons.mpr ⟨jml_69, List.forall_mem_cons.mpr ⟨jml_70, List.forall_mem_cons.mpr ⟨jml_71, List.forall_mem_cons.mpr ⟨jml_72, List.forall_mem_cons.mpr ⟨jml_73, List.forall_mem_cons.mpr ⟨jml_74, List.forall_mem_cons.mpr ⟨jml_75, List.forall_mem_cons.mpr ⟨jml_76, List.forall_mem_cons.mpr ⟨jml_77, List.forall_mem_cons.mpr ⟨jml_78, List.forall_mem_cons.mpr ⟨jml_79, fun _ h => absurd h List.not_mem_nil⟩⟩⟩⟩⟩⟩⟩⟩⟩⟩⟩⟩⟩⟩⟩⟩
def jml_r5 : List (Nat × Nat × Nat) := [(2, 132, 95), (6, 30, 96), (6, 35, 97), (6, 41, 98), (11, 258, 101), (11, 264, 102), (11, 294, 105), (11, 298, 107), (11, 407, 106), (11, 137, 109), (11, 302, 110), (1, 213, 107), (11, 307, 72), (11, 311, 113), (11, 314, 31), (11, 318, 56)]
set_option maxRecDepth 8000 in
theorem jml_80 : jml_F (2, 132, 95) := Or.inr (jat_m2 (k := 5) (l := 30) rfl rfl)
set_option maxRecDepth 8000 in
theorem jml_81 : jml_F (6, 30, 96) := Or.inr (jat_m2 (k := 5) (l := 33) rfl rfl)
set_option maxRecDepth 8000 in
theorem jml_82 : jml_F (6, 35, 97) := Or.inr (jat_m2 (k := 5) (l := 36) rfl rfl)
set_option maxRecDepth 8000 in
theorem jml_83 : jml_F (6, 41, 98) := Or.inr (jat_m2 (k := 5) (l := 39) rfl rfl)
set_option maxRecDepth 8000 in
theorem jml_84 : jml_F (11, 258, 101) := Or.inr (jat_m2 (k := 5) (l := 50) rfl rfl)
set_option maxRecDepth 8000 in
theorem jml_85 : jml_F (11, 264, 102) := Or.inr (jat_m2 (k := 5) (l := 54) rfl rfl)
set_option maxRecDepth 8000 in
theorem jml_86 : jml_F (11, 294, 105) := Or.inr (jat_m2 (k := 5) (l := 67) rfl rfl)
set_option maxRecDepth 8000 in
theorem jml_87 : jml_F (11, 298, 107) := Or.inr (jat_m2 (k := 5) (l := 73) rfl rfl)
set_option maxRecDepth 8000 in
theorem jml_88 : jml_F (11, 407, 106) := Or.inr (jat_m2 (k := 5) (l := 70) rfl rfl)
set_option maxRecDepth 8000 in
theorem jml_89 : jml_F (11, 137, 109) := Or.inr (jat_m2 (k := 5) (l := 81) rfl rfl)
set_option maxRecDepth 8000 in
theorem jml_90 : jml_F (11, 302, 110) := Or.inr (jat_m2 (k := 5) (l := 85) rfl rfl)
set_option maxRecDepth 8000 in
theorem jml_91 : jml_F (1, 213, 107) := Or.inr (jat_m2 (k := 5) (l := 89) rfl rfl)
set_option maxRecDepth 8000 in
theorem jml_92 : jml_F (11, 307, 72) := Or.inr (jat_m2 (k := 5) (l := 94) rfl rfl)
set_option maxRecDepth 8000 in
theorem jml_93 : jml_F (11, 311, 113) := Or.inr (jat_m2 (k := 5) (l := 99) rfl rfl)
set_option maxRecDepth 8000 in
theorem jml_94 : jml_F (11, 314, 31) := Or.inr (jat_m2 (k := 5) (l := 102) rfl rfl)
set_option maxRecDepth 8000 in
theorem jml_95 : jml_F (11, 318, 56) := Or.inr (jat_m2 (k := 5) (l := 103) rfl rfl)
theorem jml_o5 : ∀ e ∈ jml_r5, jml_F e := List.forall_mem_cons.mpr ⟨jml_80, List.forall_mem_cons.mpr ⟨jml_81, List.forall_mem_cons.mpr ⟨jml_82, List.forall_mem_cons.mpr ⟨jml_83, List.forall_mem_cons.mpr ⟨jml_84, List.forall_mem_cons.mpr ⟨jml_85, List.forall_mem_cons.mpr ⟨jml_86, List.forall_mem_cons.mpr ⟨jml_87, List.forall_mem_cons.mpr ⟨jml_88, List.forall_mem_cons.mpr ⟨jml_89, List.forall_mem_cons.mpr ⟨jml_90, List.forall_mem_cons.mpr ⟨jml_91, List.forall_mem_cons.mpr ⟨jml_92, List.forall_mem_cons.mpr ⟨jml_93, List.forall_mem_cons.mpr ⟨jml_94, List.forall_mem_cons.mpr ⟨jml_95, fun _ h => absurd h List.not_mem_nil⟩⟩⟩⟩⟩⟩⟩⟩⟩⟩⟩⟩⟩⟩⟩⟩
def jml_r6 : List (Nat × Nat × Nat) := [(11, 322, 49), (11, 326, 51), (11, 329, 115), (11, 410, 116), (10, 48, 19), (10, 57, 117), (10, 61, 119), (10, 65, 121), (10, 68, 122), (10, 80, 123), (10, 97, 124), (10, 105, 56), (10, 119, 48), (10, 123, 51), (10, 127, 118), (10, 181, 120)]
set_option maxRecDepth 8000 in
theorem jml_96 : jml_F (11, 322, 49) := Or.inr (jat_m2 (k := 5) (l := 104) rfl rfl)
set_option maxRecDepth 8000 in
theorem jml_97 : jml_F (11, 326, 51) := Or.inr (jat_m2 (k := 5) (l := 105) rfl rfl)
set_option maxRecDepth 8000 in
theorem jml_98 : jml_F (11, 329, 115) := Or.inr (jat_m2 (k := 5) (l := 110) rfl rfl)
set_option maxRecDepth 8000 in
theorem jml_99 : jml_F (11, 410, 116) := Or.inr (jat_m2 (k := 5) (l := 114) rfl rfl)
set_option maxRecDepth 8000 in
theorem jml_100 : jml_F (10, 48, 19) := Or.inr (jat_m2 (k := 5) (l := 118) rfl rfl)
set_option maxRecDepth 8000 in
theorem jml_101 : jml_F (10, 57, 117) := Or.inr (jat_m2 (k := 5) (l := 119) rfl rfl)
set_option maxRecDepth 8000 in
theorem jml_102 : jml_F (10, 61, 119) := Or.inr (jat_m2 (k := 5) (l := 130) rfl rfl)
set_option maxRecDepth 8000 in
theorem jml_103 : jml_F (10, 65, 121) := Or.inr (jat_m2 (k := 5) (l := 139) rfl rfl)
set_option maxRecDepth 8000 in
theorem jml_104 : jml_F (10, 68, 122) := Or.inr (jat_m2 (k := 5) (l := 145) rfl rfl)
set_option maxRecDepth 8000 in
theorem jml_105 : jml_F (10, 80, 123) := Or.inr (jat_m2 (k := 5) (l := 149) rfl rfl)
set_option maxRecDepth 8000 in
theorem jml_106 : jml_F (10, 97, 124) := Or.inr (jat_m2 (k := 5) (l := 153) rfl rfl)
set_option maxRecDepth 8000 in
theorem jml_107 : jml_F (10, 105, 56) := Or.inr (jat_m2 (k := 5) (l := 123) rfl rfl)
set_option maxRecDepth 8000 in
theorem jml_108 : jml_F (10, 119, 48) := Or.inr (jat_m2 (k := 5) (l := 124) rfl rfl)
set_option maxRecDepth 8000 in
theorem jml_109 : jml_F (10, 123, 51) := Or.inr (jat_m2 (k := 5) (l := 125) rfl rfl)
set_option maxRecDepth 8000 in
theorem jml_110 : jml_F (10, 127, 118) := Or.inr (jat_m2 (k := 5) (l := 126) rfl rfl)
set_option maxRecDepth 8000 in
theorem jml_111 : jml_F (10, 181, 120) := Or.inr (jat_m2 (k := 5) (l := 134) rfl rfl)
theorem jml_o6 : ∀ e ∈ jml_r6, jml_F e := List.forall_mem_cons.mpr ⟨jml_96, List.forall_mem_cons.mpr ⟨jml_97, List.forall_mem_cons.mpr ⟨jml_98, List.forall_mem_cons.mpr ⟨jml_99, List.forall_mem_cons.mpr ⟨jml_100, List.forall_mem_cons.mpr ⟨jml_101, List.forall_mem_cons.mpr ⟨jml_102, List.forall_mem_cons.mpr ⟨jml_103, List.forall_mem_cons.mpr ⟨jml_104, List.forall_mem_cons.mpr ⟨jml_105, List.forall_mem_cons.mpr ⟨jml_106, List.forall_mem_cons.mpr ⟨jml_107, List.forall_mem_cons.mpr ⟨jml_108, List.forall_mem_cons.mpr ⟨jml_109, List.forall_mem_cons.mpr ⟨jml_110, List.forall_mem_cons.mpr ⟨jml_111, fun _ h => absurd h List.not_mem_nil⟩⟩⟩⟩⟩⟩⟩⟩⟩⟩⟩⟩⟩⟩⟩⟩
def jml_r7 : List (Nat × Nat × Nat) := [(6, 20, 55), (10, 158, 95), (10, 162, 92), (10, 175, 125), (10, 178, 127), (2, 123, 126), (11, 340, 130), (11, 349, 132), (11, 356, 92), (11, 363, 133), (9, 57, 92), (9, 61, 134), (9, 65, 135), (9, 69, 140), (9, 91, 136), (9, 130, 137)]
set_option maxRecDepth 8000 in
theorem jml_112 : jml_F (6, 20, 55) := Or.inr (jat_m2 (k := 5) (l := 138) rfl rfl)
set_option maxRecDepth 8000 in
theorem jml_113 : jml_F (10, 158, 95) := Or.inr (jat_m2 (k := 5) (l := 143) rfl rfl)
set_option maxRecDepth 8000 in
theorem jml_114 : jml_F (10, 162, 92) := Or.inr (jat_m2 (k := 5) (l := 144) rfl rfl)
set_option maxRecDepth 8000 in
theorem jml_115 : jml_F (10, 175, 125) := Or.inr (jat_m2 (k := 5) (l := 157) rfl rfl)
set_option maxRecDepth 8000 in
theorem jml_116 : jml_F (10, 178, 127) := Or.inr (jat_m2 (k := 5) (l := 165) rfl rfl)
set_option maxRecDepth 8000 in
theorem jml_117 : jml_F (2, 123, 126) := Or.inr (jat_m2 (k := 5) (l := 161) rfl rfl)
set_option maxRecDepth 8000 in
theorem jml_118 : jml_F (11, 340, 130) := Or.inr (jat_m2 (k := 5) (l := 178) rfl rfl)
set_option maxRecDepth 8000 in
theorem jml_119 : jml_F (11, 349, 132) := Or.inr (jat_m2 (k := 5) (l := 189) rfl rfl)
set_option maxRecDepth 8000 in
theorem jml_120 : jml_F (11, 356, 92) := Or.inr (jat_m2 (k := 5) (l := 194) rfl rfl)
set_option maxRecDepth 8000 in
theorem jml_121 : jml_F (11, 363, 133) := Or.inr (jat_m2 (k := 5) (l := 195) rfl rfl)
set_option maxRecDepth 8000 in
theorem jml_122 : jml_F (9, 57, 92) := Or.inr (jat_m2 (k := 5) (l := 199) rfl rfl)
set_option maxRecDepth 8000 in
theorem jml_123 : jml_F (9, 61, 134) := Or.inr (jat_m2 (k := 5) (l := 200) rfl rfl)
set_option maxRecDepth 8000 in
theorem jml_124 : jml_F (9, 65, 135) := Or.inr (jat_m2 (k := 5) (l := 204) rfl rfl)
set_option maxRecDepth 8000 in
theorem jml_125 : jml_F (9, 69, 140) := Or.inr (jat_m2 (k := 5) (l := 226) rfl rfl)
set_option maxRecDepth 8000 in
theorem jml_126 : jml_F (9, 91, 136) := Or.inr (jat_m2 (k := 5) (l := 208) rfl rfl)
set_option maxRecDepth 8000 in
theorem jml_127 : jml_F (9, 130, 137) := Or.inr (jat_m2 (k := 5) (l := 212) rfl rfl)
theorem jml_o7 : ∀ e ∈ jml_r7, jml_F e := List.forall_mem_cons.mpr ⟨jml_112, List.forall_mem_cons.mpr ⟨jml_113, List.forall_mem_cons.mpr ⟨jml_114, List.forall_mem_cons.mpr ⟨jml_115, List.forall_mem_cons.mpr ⟨jml_116, List.forall_mem_cons.mpr ⟨jml_117, List.forall_mem_cons.mpr ⟨jml_118, List.forall_mem_cons.mpr ⟨jml_119, List.forall_mem_cons.mpr ⟨jml_120, List.forall_mem_cons.mpr ⟨jml_121, List.forall_mem_cons.mpr ⟨jml_122, List.forall_mem_cons.mpr ⟨jml_123, List.forall_mem_cons.mpr ⟨jml_124, List.forall_mem_cons.mpr ⟨jml_125, List.forall_mem_cons.mpr ⟨jml_126, List.forall_mem_cons.mpr ⟨jml_127, fun _ h => absurd h List.not_mem_nil⟩⟩⟩⟩⟩⟩⟩⟩⟩⟩⟩⟩⟩⟩⟩⟩
def jml_r8 : List (Nat × Nat × Nat) := [(9, 137, 139), (9, 151, 138), (9, 157, 120), (9, 161, 141), (11, 374, 146), (11, 378, 147), (11, 384, 148), (11, 166, 154), (11, 170, 73), (12, 183, 157), (12, 149, 161), (12, 221, 166), (12, 172, 158), (12, 176, 159), (12, 145, 160), (12, 101, 162)]
set_option maxRecDepth 8000 in
theorem jml_128 : jml_F (9, 137, 139) := Or.inr (jat_m2 (k := 5) (l := 220) rfl rfl)
set_option maxRecDepth 8000 in
theorem jml_129 : jml_F (9, 151, 138) := Or.inr (jat_m2 (k := 5) (l := 216) rfl rfl)
set_option maxRecDepth 8000 in
theorem jml_130 : jml_F (9, 157, 120) := Or.inr (jat_m2 (k := 5) (l := 230) rfl rfl)
set_option maxRecDepth 8000 in
theorem jml_131 : jml_F (9, 161, 141) := Or.inr (jat_m2 (k := 5) (l := 231) rfl rfl)
set_option maxRecDepth 8000 in
theorem jml_132 : jml_F (11, 374, 146) := Or.inr (jat_m2 (k := 6) (l := 11) rfl rfl)
set_option maxRecDepth 8000 in
theorem jml_133 : jml_F (11, 378, 147) := Or.inr (jat_m2 (k := 6) (l := 14) rfl rfl)
set_option maxRecDepth 8000 in
theorem jml_134 : jml_F (11, 384, 148) := Or.inr (jat_m2 (k := 6) (l := 17) rfl rfl)
set_option maxRecDepth 8000 in
theorem jml_135 : jml_F (11, 166, 154) := Or.inr (jat_m2 (k := 6) (l := 112) rfl rfl)
set_option maxRecDepth 8000 in
theorem jml_136 : jml_F (11, 170, 73) := Or.inr (jat_m2 (k := 6) (l := 116) rfl rfl)
set_option maxRecDepth 8000 in
theorem jml_137 : jml_F (12, 183, 157) := Or.inr (jat_m2 (k := 6) (l := 143) rfl rfl)
set_option maxRecDepth 8000 in
theorem jml_138 : jml_F (12, 149, 161) := Or.inr (jat_m2 (k := 6) (l := 157) rfl rfl)
set_option maxRecDepth 8000 in
theorem jml_139 : jml_F (12, 221, 166) := Or.inr (jat_m2 (k := 6) (l := 179) rfl rfl)
set_option maxRecDepth 8000 in
theorem jml_140 : jml_F (12, 172, 158) := Or.inr (jat_m2 (k := 6) (l := 147) rfl rfl)
set_option maxRecDepth 8000 in
theorem jml_141 : jml_F (12, 176, 159) := Or.inr (jat_m2 (k := 6) (l := 150) rfl rfl)
set_option maxRecDepth 8000 in
theorem jml_142 : jml_F (12, 145, 160) := Or.inr (jat_m2 (k := 6) (l := 153) rfl rfl)
set_option maxRecDepth 8000 in
theorem jml_143 : jml_F (12, 101, 162) := Or.inr (jat_m2 (k := 6) (l := 161) rfl rfl)
theorem jml_o8 : ∀ e ∈ jml_r8, jml_F e := List.forall_mem_cons.mpr ⟨jml_128, List.forall_mem_cons.mpr ⟨jml_129, List.forall_mem_cons.mpr ⟨jml_130, List.forall_mem_cons.mpr ⟨jml_131, List.forall_mem_cons.mpr ⟨jml_132, List.forall_mem_cons.mpr ⟨jml_133, List.forall_mem_cons.mpr ⟨jml_134, List.forall_mem_cons.mpr ⟨jml_135, List.forall_mem_cons.mpr ⟨jml_136, List.forall_mem_cons.mpr ⟨jml_137, List.forall_mem_cons.mpr ⟨jml_138, List.forall_mem_cons.mpr ⟨jml_139, List.forall_mem_cons.mpr ⟨jml_140, List.forall_mem_cons.mpr ⟨jml_141, List.forall_mem_cons.mpr ⟨jml_142, List.forall_mem_cons.mpr ⟨jml_143, fun _ h => absurd h List.not_mem_nil⟩⟩⟩⟩⟩⟩⟩⟩⟩⟩⟩⟩⟩⟩⟩⟩
def jml_r9 : List (Nat × Nat × Nat) := [(12, 111, 163), (12, 118, 164), (12, 124, 165), (12, 200, 167), (12, 203, 175), (12, 206, 178), (12, 209, 179), (12, 212, 181), (12, 215, 182), (12, 218, 183), (12, 158, 168), (12, 152, 174), (12, 155, 169), (12, 165, 170), (12, 169, 171), (12, 180, 172)]
set_option maxRecDepth 8000 in
theorem jml_144 : jml_F (12, 111, 163) := Or.inr (jat_m2 (k := 6) (l := 165) rfl rfl)
set_option maxRecDepth 8000 in
theorem jml_145 : jml_F (12, 118, 164) := Or.inr (jat_m2 (k := 6) (l := 168) rfl rfl)
set_option maxRecDepth 8000 in
theorem jml_146 : jml_F (12, 124, 165) := Or.inr (jat_m2 (k := 6) (l := 175) rfl rfl)
set_option maxRecDepth 8000 in
theorem jml_147 : jml_F (12, 200, 167) := Or.inr (jat_m2 (k := 6) (l := 183) rfl rfl)
set_option maxRecDepth 8000 in
theorem jml_148 : jml_F (12, 203, 175) := Or.inr (jat_m2 (k := 6) (l := 215) rfl rfl)
set_option maxRecDepth 8000 in
theorem jml_149 : jml_F (12, 206, 178) := Or.inr (jat_m2 (k := 6) (l := 227) rfl rfl)
set_option maxRecDepth 8000 in
theorem jml_150 : jml_F (12, 209, 179) := Or.inr (jat_m2 (k := 6) (l := 231) rfl rfl)
set_option maxRecDepth 8000 in
theorem jml_151 : jml_F (12, 212, 181) := Or.inr (jat_m2 (k := 6) (l := 239) rfl rfl)
set_option maxRecDepth 8000 in
theorem jml_152 : jml_F (12, 215, 182) := Or.inr (jat_m2 (k := 7) (l := 3) rfl rfl)
set_option maxRecDepth 8000 in
theorem jml_153 : jml_F (12, 218, 183) := Or.inr (jat_m2 (k := 7) (l := 7) rfl rfl)
set_option maxRecDepth 8000 in
theorem jml_154 : jml_F (12, 158, 168) := Or.inr (jat_m2 (k := 6) (l := 187) rfl rfl)
set_option maxRecDepth 8000 in
theorem jml_155 : jml_F (12, 152, 174) := Or.inr (jat_m2 (k := 6) (l := 211) rfl rfl)
set_option maxRecDepth 8000 in
theorem jml_156 : jml_F (12, 155, 169) := Or.inr (jat_m2 (k := 6) (l := 191) rfl rfl)
set_option maxRecDepth 8000 in
theorem jml_157 : jml_F (12, 165, 170) := Or.inr (jat_m2 (k := 6) (l := 195) rfl rfl)
set_option maxRecDepth 8000 in
theorem jml_158 : jml_F (12, 169, 171) := Or.inr (jat_m2 (k := 6) (l := 199) rfl rfl)
set_option maxRecDepth 8000 in
theorem jml_159 : jml_F (12, 180, 172) := Or.inr (jat_m2 (k := 6) (l := 203) rfl rfl)
theorem jml_o9 : ∀ e ∈ jml_r9, jml_F e := List.forall_mem_cons.mpr ⟨jml_144, List.forall_mem_cons.mpr ⟨jml_145, List.forall_mem_cons.mpr ⟨jml_146, List.forall_mem_cons.mpr ⟨jml_147, List.forall_mem_cons.mpr ⟨jml_148, List.forall_mem_cons.mpr ⟨jml_149, List.forall_mem_cons.mpr ⟨jml_150, List.forall_mem_cons.mpr ⟨jml_151, List.forall_mem_cons.mpr ⟨jml_152, List.forall_mem_cons.mpr ⟨jml_153, List.forall_mem_cons.mpr ⟨jml_154, List.forall_mem_cons.mpr ⟨jml_155, List.forall_mem_cons.mpr ⟨jml_156, List.forall_mem_cons.mpr ⟨jml_157, List.forall_mem_cons.mpr ⟨jml_158, List.forall_mem_cons.mpr ⟨jml_159, fun _ h => absurd h List.not_mem_nil⟩⟩⟩⟩⟩⟩⟩⟩⟩⟩⟩⟩⟩⟩⟩⟩
def jml_r10 : List (Nat × Nat × Nat) := [(12, 161, 173), (12, 187, 176), (12, 190, 177), (12, 193, 180), (12, 224, 185), (12, 318, 186), (12, 257, 187), (12, 297, 188), (12, 288, 189), (12, 291, 196), (12, 321, 200), (12, 324, 202), (12, 327, 203), (12, 330, 205), (12, 333, 206), (12, 278, 190)]
set_option maxRecDepth 8000 in
theorem jml_160 : jml_F (12, 161, 173) := Or.inr (jat_m2 (k := 6) (l := 207) rfl rfl)
set_option maxRecDepth 8000 in
theorem jml_161 : jml_F (12, 187, 176) := Or.inr (jat_m2 (k := 6) (l := 219) rfl rfl)
set_option maxRecDepth 8000 in
theorem jml_162 : jml_F (12, 190, 177) := Or.inr (jat_m2 (k := 6) (l := 223) rfl rfl)
set_option maxRecDepth 8000 in
theorem jml_163 : jml_F (12, 193, 180) := Or.inr (jat_m2 (k := 6) (l := 235) rfl rfl)
set_option maxRecDepth 8000 in
theorem jml_164 : jml_F (12, 224, 185) := Or.inr (jat_m2 (k := 7) (l := 15) rfl rfl)
set_option maxRecDepth 8000 in
theorem jml_165 : jml_F (12, 318, 186) := Or.inr (jat_m2 (k := 7) (l := 19) rfl rfl)
set_option maxRecDepth 8000 in
theorem jml_166 : jml_F (12, 257, 187) := Or.inr (jat_m2 (k := 7) (l := 23) rfl rfl)
set_option maxRecDepth 8000 in
theorem jml_167 : jml_F (12, 297, 188) := Or.inr (jat_m2 (k := 7) (l := 27) rfl rfl)
set_option maxRecDepth 8000 in
theorem jml_168 : jml_F (12, 288, 189) := Or.inr (jat_m2 (k := 7) (l := 31) rfl rfl)
set_option maxRecDepth 8000 in
theorem jml_169 : jml_F (12, 291, 196) := Or.inr (jat_m2 (k := 7) (l := 57) rfl rfl)
set_option maxRecDepth 8000 in
theorem jml_170 : jml_F (12, 321, 200) := Or.inr (jat_m2 (k := 7) (l := 72) rfl rfl)
set_option maxRecDepth 8000 in
theorem jml_171 : jml_F (12, 324, 202) := Or.inr (jat_m2 (k := 7) (l := 82) rfl rfl)
set_option maxRecDepth 8000 in
theorem jml_172 : jml_F (12, 327, 203) := Or.inr (jat_m2 (k := 7) (l := 86) rfl rfl)
set_option maxRecDepth 8000 in
theorem jml_173 : jml_F (12, 330, 205) := Or.inr (jat_m2 (k := 7) (l := 93) rfl rfl)
set_option maxRecDepth 8000 in
theorem jml_174 : jml_F (12, 333, 206) := Or.inr (jat_m2 (k := 7) (l := 97) rfl rfl)
set_option maxRecDepth 8000 in
theorem jml_175 : jml_F (12, 278, 190) := Or.inr (jat_m2 (k := 7) (l := 35) rfl rfl)
theorem jml_o10 : ∀ e ∈ jml_r10, jml_F e := List.forall_mem_cons.mpr ⟨jml_160, List.forall_mem_cons.mpr ⟨jml_161, List.forall_mem_cons.mpr ⟨jml_162, List.forall_mem_cons.mpr ⟨jml_163, List.forall_mem_cons.mpr ⟨jml_164, List.forall_mem_cons.mpr ⟨jml_165, List.forall_mem_cons.mpr ⟨jml_166, List.forall_mem_cons.mpr ⟨jml_167, List.forall_mem_cons.mpr ⟨jml_168, List.forall_mem_cons.mpr ⟨jml_169, List.forall_mem_cons.mpr ⟨jml_170, List.forall_mem_cons.mpr ⟨jml_171, List.forall_mem_cons.mpr ⟨jml_172, List.forall_mem_cons.mpr ⟨jml_173, List.forall_mem_cons.mpr ⟨jml_174, List.forall_mem_cons.mpr ⟨jml_175, fun _ h => absurd h List.not_mem_nil⟩⟩⟩⟩⟩⟩⟩⟩⟩⟩⟩⟩⟩⟩⟩⟩
def jml_r11 : List (Nat × Nat × Nat) := [(12, 281, 194), (12, 285, 195), (12, 272, 191), (12, 260, 192), (12, 230, 193), (12, 264, 197), (12, 240, 198), (12, 254, 199), (12, 268, 201), (12, 300, 204), (12, 337, 207), (12, 340, 208), (12, 82, 156), (12, 86, 184), (12, 377, 214), (12, 371, 215)]
set_option maxRecDepth 8000 in
theorem jml_176 : jml_F (12, 281, 194) := Or.inr (jat_m2 (k := 7) (l := 50) rfl rfl)
set_option maxRecDepth 8000 in
theorem jml_177 : jml_F (12, 285, 195) := Or.inr (jat_m2 (k := 7) (l := 53) rfl rfl)
set_option maxRecDepth 8000 in
theorem jml_178 : jml_F (12, 272, 191) := Or.inr (jat_m2 (k := 7) (l := 40) rfl rfl)
set_option maxRecDepth 8000 in
theorem jml_179 : jml_F (12, 260, 192) := Or.inr (jat_m2 (k := 7) (l := 44) rfl rfl)
set_option maxRecDepth 8000 in
theorem jml_180 : jml_F (12, 230, 193) := Or.inr (jat_m2 (k := 7) (l := 47) rfl rfl)
set_option maxRecDepth 8000 in
theorem jml_181 : jml_F (12, 264, 197) := Or.inr (jat_m2 (k := 7) (l := 61) rfl rfl)
set_option maxRecDepth 8000 in
theorem jml_182 : jml_F (12, 240, 198) := Or.inr (jat_m2 (k := 7) (l := 65) rfl rfl)
set_option maxRecDepth 8000 in
theorem jml_183 : jml_F (12, 254, 199) := Or.inr (jat_m2 (k := 7) (l := 69) rfl rfl)
set_option maxRecDepth 8000 in
theorem jml_184 : jml_F (12, 268, 201) := Or.inr (jat_m2 (k := 7) (l := 76) rfl rfl)
set_option maxRecDepth 8000 in
theorem jml_185 : jml_F (12, 300, 204) := Or.inr (jat_m2 (k := 7) (l := 90) rfl rfl)
set_option maxRecDepth 8000 in
theorem jml_186 : jml_F (12, 337, 207) := Or.inr (jat_m2 (k := 7) (l := 101) rfl rfl)
set_option maxRecDepth 8000 in
theorem jml_187 : jml_F (12, 340, 208) := Or.inr (jat_m2 (k := 7) (l := 105) rfl rfl)
set_option maxRecDepth 8000 in
theorem jml_188 : jml_F (12, 82, 156) := Or.inr (jat_m2 (k := 6) (l := 139) rfl rfl)
set_option maxRecDepth 8000 in
theorem jml_189 : jml_F (12, 86, 184) := Or.inr (jat_m2 (k := 7) (l := 11) rfl rfl)
set_option maxRecDepth 8000 in
theorem jml_190 : jml_F (12, 377, 214) := Or.inr (jat_m2 (k := 8) (l := 56) rfl rfl)
set_option maxRecDepth 8000 in
theorem jml_191 : jml_F (12, 371, 215) := Or.inr (jat_m2 (k := 8) (l := 60) rfl rfl)
theorem jml_o11 : ∀ e ∈ jml_r11, jml_F e := List.forall_mem_cons.mpr ⟨jml_176, List.forall_mem_cons.mpr ⟨jml_177, List.forall_mem_cons.mpr ⟨jml_178, List.forall_mem_cons.mpr ⟨jml_179, List.forall_mem_cons.mpr ⟨jml_180, List.forall_mem_cons.mpr ⟨jml_181, List.forall_mem_cons.mpr ⟨jml_182, List.forall_mem_cons.mpr ⟨jml_183, List.forall_mem_cons.mpr ⟨jml_184, List.forall_mem_cons.mpr ⟨jml_185, List.forall_mem_cons.mpr ⟨jml_186, List.forall_mem_cons.mpr ⟨jml_187, List.forall_mem_cons.mpr ⟨jml_188, List.forall_mem_cons.mpr ⟨jml_189, List.forall_mem_cons.mpr ⟨jml_190, List.forall_mem_cons.mpr ⟨jml_191, fun _ h => absurd h List.not_mem_nil⟩⟩⟩⟩⟩⟩⟩⟩⟩⟩⟩⟩⟩⟩⟩⟩
def jml_r12 : List (Nat × Nat × Nat) := [(12, 294, 217), (12, 343, 216), (12, 374, 218), (12, 352, 219), (12, 355, 220), (12, 358, 221), (12, 362, 222), (12, 365, 224), (12, 368, 225), (12, 346, 223), (12, 384, 227), (12, 380, 228), (12, 387, 229), (12, 390, 231), (12, 393, 232), (12, 396, 237)]
set_option maxRecDepth 8000 in
theorem jml_192 : jml_F (12, 294, 217) := Or.inr (jat_m2 (k := 8) (l := 68) rfl rfl)
set_option maxRecDepth 8000 in
theorem jml_193 : jml_F (12, 343, 216) := Or.inr (jat_m2 (k := 8) (l := 64) rfl rfl)
set_option maxRecDepth 8000 in
theorem jml_194 : jml_F (12, 374, 218) := Or.inr (jat_m2 (k := 8) (l := 71) rfl rfl)
set_option maxRecDepth 8000 in
theorem jml_195 : jml_F (12, 352, 219) := Or.inr (jat_m2 (k := 8) (l := 75) rfl rfl)
set_option maxRecDepth 8000 in
theorem jml_196 : jml_F (12, 355, 220) := Or.inr (jat_m2 (k := 8) (l := 79) rfl rfl)
set_option maxRecDepth 8000 in
theorem jml_197 : jml_F (12, 358, 221) := Or.inr (jat_m2 (k := 8) (l := 83) rfl rfl)
set_option maxRecDepth 8000 in
theorem jml_198 : jml_F (12, 362, 222) := Or.inr (jat_m2 (k := 8) (l := 87) rfl rfl)
set_option maxRecDepth 8000 in
theorem jml_199 : jml_F (12, 365, 224) := Or.inr (jat_m2 (k := 8) (l := 95) rfl rfl)
set_option maxRecDepth 8000 in
theorem jml_200 : jml_F (12, 368, 225) := Or.inr (jat_m2 (k := 8) (l := 99) rfl rfl)
set_option maxRecDepth 8000 in
theorem jml_201 : jml_F (12, 346, 223) := Or.inr (jat_m2 (k := 8) (l := 91) rfl rfl)
set_option maxRecDepth 8000 in
theorem jml_202 : jml_F (12, 384, 227) := Or.inr (jat_m2 (k := 8) (l := 107) rfl rfl)
set_option maxRecDepth 8000 in
theorem jml_203 : jml_F (12, 380, 228) := Or.inr (jat_m2 (k := 8) (l := 111) rfl rfl)
set_option maxRecDepth 8000 in
theorem jml_204 : jml_F (12, 387, 229) := Or.inr (jat_m2 (k := 8) (l := 115) rfl rfl)
set_option maxRecDepth 8000 in
theorem jml_205 : jml_F (12, 390, 231) := Or.inr (jat_m2 (k := 8) (l := 123) rfl rfl)
set_option maxRecDepth 8000 in
theorem jml_206 : jml_F (12, 393, 232) := Or.inr (jat_m2 (k := 8) (l := 127) rfl rfl)
set_option maxRecDepth 8000 in
theorem jml_207 : jml_F (12, 396, 237) := Or.inr (jat_m2 (k := 8) (l := 147) rfl rfl)
theorem jml_o12 : ∀ e ∈ jml_r12, jml_F e := List.forall_mem_cons.mpr ⟨jml_192, List.forall_mem_cons.mpr ⟨jml_193, List.forall_mem_cons.mpr ⟨jml_194, List.forall_mem_cons.mpr ⟨jml_195, List.forall_mem_cons.mpr ⟨jml_196, List.forall_mem_cons.mpr ⟨jml_197, List.forall_mem_cons.mpr ⟨jml_198, List.forall_mem_cons.mpr ⟨jml_199, List.forall_mem_cons.mpr ⟨jml_200, List.forall_mem_cons.mpr ⟨jml_201, List.forall_mem_cons.mpr ⟨jml_202, List.forall_mem_cons.mpr ⟨jml_203, List.forall_mem_cons.mpr ⟨jml_204, List.forall_mem_cons.mpr ⟨jml_205, List.forall_mem_cons.mpr ⟨jml_206, List.forall_mem_cons.mpr ⟨jml_207, fun _ h => absurd h List.not_mem_nil⟩⟩⟩⟩⟩⟩⟩⟩⟩⟩⟩⟩⟩⟩⟩⟩
def jml_r13 : List (Nat × Nat × Nat) := [(12, 399, 238), (12, 409, 239), (12, 402, 241), (12, 414, 244), (12, 418, 245), (12, 422, 247), (12, 496, 251), (12, 487, 252), (12, 481, 253), (12, 484, 254), (12, 490, 255), (12, 493, 263), (12, 467, 256), (12, 470, 257), (12, 473, 262), (12, 453, 258)]
set_option maxRecDepth 8000 in
theorem jml_208 : jml_F (12, 399, 238) := Or.inr (jat_m2 (k := 8) (l := 151) rfl rfl)
set_option maxRecDepth 8000 in
theorem jml_209 : jml_F (12, 409, 239) := Or.inr (jat_m2 (k := 8) (l := 155) rfl rfl)
set_option maxRecDepth 8000 in
theorem jml_210 : jml_F (12, 402, 241) := Or.inr (jat_m2 (k := 8) (l := 163) rfl rfl)
set_option maxRecDepth 8000 in
theorem jml_211 : jml_F (12, 414, 244) := Or.inr (jat_m2 (k := 8) (l := 177) rfl rfl)
set_option maxRecDepth 8000 in
theorem jml_212 : jml_F (12, 418, 245) := Or.inr (jat_m2 (k := 8) (l := 180) rfl rfl)
set_option maxRecDepth 8000 in
theorem jml_213 : jml_F (12, 422, 247) := Or.inr (jat_m2 (k := 8) (l := 188) rfl rfl)
set_option maxRecDepth 8000 in
theorem jml_214 : jml_F (12, 496, 251) := Or.inr (jat_m2 (k := 8) (l := 204) rfl rfl)
set_option maxRecDepth 8000 in
theorem jml_215 : jml_F (12, 487, 252) := Or.inr (jat_m2 (k := 8) (l := 208) rfl rfl)
set_option maxRecDepth 8000 in
theorem jml_216 : jml_F (12, 481, 253) := Or.inr (jat_m2 (k := 8) (l := 212) rfl rfl)
set_option maxRecDepth 8000 in
theorem jml_217 : jml_F (12, 484, 254) := Or.inr (jat_m2 (k := 8) (l := 216) rfl rfl)
set_option maxRecDepth 8000 in
theorem jml_218 : jml_F (12, 490, 255) := Or.inr (jat_m2 (k := 8) (l := 220) rfl rfl)
set_option maxRecDepth 8000 in
theorem jml_219 : jml_F (12, 493, 263) := Or.inr (jat_m2 (k := 9) (l := 11) rfl rfl)
set_option maxRecDepth 8000 in
theorem jml_220 : jml_F (12, 467, 256) := Or.inr (jat_m2 (k := 8) (l := 224) rfl rfl)
set_option maxRecDepth 8000 in
theorem jml_221 : jml_F (12, 470, 257) := Or.inr (jat_m2 (k := 8) (l := 228) rfl rfl)
set_option maxRecDepth 8000 in
theorem jml_222 : jml_F (12, 473, 262) := Or.inr (jat_m2 (k := 9) (l := 8) rfl rfl)
set_option maxRecDepth 8000 in
theorem jml_223 : jml_F (12, 453, 258) := Or.inr (jat_m2 (k := 8) (l := 232) rfl rfl)
theorem jml_o13 : ∀ e ∈ jml_r13, jml_F e := List.forall_mem_cons.mpr ⟨jml_208, List.forall_mem_cons.mpr ⟨jml_209, List.forall_mem_cons.mpr ⟨jml_210, List.forall_mem_cons.mpr ⟨jml_211, List.forall_mem_cons.mpr ⟨jml_212, List.forall_mem_cons.mpr ⟨jml_213, List.forall_mem_cons.mpr ⟨jml_214, List.forall_mem_cons.mpr ⟨jml_215, List.forall_mem_cons.mpr ⟨jml_216, List.forall_mem_cons.mpr ⟨jml_217, List.forall_mem_cons.mpr ⟨jml_218, List.forall_mem_cons.mpr ⟨jml_219, List.forall_mem_cons.mpr ⟨jml_220, List.forall_mem_cons.mpr ⟨jml_221, List.forall_mem_cons.mpr ⟨jml_222, List.forall_mem_cons.mpr ⟨jml_223, fun _ h => absurd h List.not_mem_nil⟩⟩⟩⟩⟩⟩⟩⟩⟩⟩⟩⟩⟩⟩⟩⟩
def jml_r14 : List (Nat × Nat × Nat) := [(12, 456, 259), (12, 460, 260), (12, 464, 261), (12, 477, 264), (12, 528, 268), (12, 532, 269), (12, 522, 270), (12, 513, 271), (12, 519, 274), (12, 509, 272), (12, 516, 273), (12, 541, 279), (12, 544, 280), (12, 547, 281), (12, 551, 282), (12, 535, 283)]
set_option maxRecDepth 8000 in
theorem jml_224 : jml_F (12, 456, 259) := Or.inr (jat_m2 (k := 8) (l := 236) rfl rfl)
set_option maxRecDepth 8000 in
theorem jml_225 : jml_F (12, 460, 260) := Or.inr (jat_m2 (k := 9) (l := 0) rfl rfl)
set_option maxRecDepth 8000 in
theorem jml_226 : jml_F (12, 464, 261) := Or.inr (jat_m2 (k := 9) (l := 4) rfl rfl)
set_option maxRecDepth 8000 in
theorem jml_227 : jml_F (12, 477, 264) := Or.inr (jat_m2 (k := 9) (l := 15) rfl rfl)
set_option maxRecDepth 8000 in
theorem jml_228 : jml_F (12, 528, 268) := Or.inr (jat_m2 (k := 9) (l := 36) rfl rfl)
set_option maxRecDepth 8000 in
theorem jml_229 : jml_F (12, 532, 269) := Or.inr (jat_m2 (k := 9) (l := 40) rfl rfl)
set_option maxRecDepth 8000 in
theorem jml_230 : jml_F (12, 522, 270) := Or.inr (jat_m2 (k := 9) (l := 44) rfl rfl)
set_option maxRecDepth 8000 in
theorem jml_231 : jml_F (12, 513, 271) := Or.inr (jat_m2 (k := 9) (l := 48) rfl rfl)
set_option maxRecDepth 8000 in
theorem jml_232 : jml_F (12, 519, 274) := Or.inr (jat_m2 (k := 9) (l := 60) rfl rfl)
set_option maxRecDepth 8000 in
theorem jml_233 : jml_F (12, 509, 272) := Or.inr (jat_m2 (k := 9) (l := 52) rfl rfl)
set_option maxRecDepth 8000 in
theorem jml_234 : jml_F (12, 516, 273) := Or.inr (jat_m2 (k := 9) (l := 56) rfl rfl)
set_option maxRecDepth 8000 in
theorem jml_235 : jml_F (12, 541, 279) := Or.inr (jat_m2 (k := 9) (l := 80) rfl rfl)
set_option maxRecDepth 8000 in
theorem jml_236 : jml_F (12, 544, 280) := Or.inr (jat_m2 (k := 9) (l := 83) rfl rfl)
set_option maxRecDepth 8000 in
theorem jml_237 : jml_F (12, 547, 281) := Or.inr (jat_m2 (k := 9) (l := 86) rfl rfl)
set_option maxRecDepth 8000 in
theorem jml_238 : jml_F (12, 551, 282) := Or.inr (jat_m2 (k := 9) (l := 90) rfl rfl)
set_option maxRecDepth 8000 in
theorem jml_239 : jml_F (12, 535, 283) := Or.inr (jat_m2 (k := 9) (l := 94) rfl rfl)
theorem jml_o14 : ∀ e ∈ jml_r14, jml_F e := List.forall_mem_cons.mpr ⟨jml_224, List.forall_mem_cons.mpr ⟨jml_225, List.forall_mem_cons.mpr ⟨jml_226, List.forall_mem_cons.mpr ⟨jml_227, List.forall_mem_cons.mpr ⟨jml_228, List.forall_mem_cons.mpr ⟨jml_229, List.forall_mem_cons.mpr ⟨jml_230, List.forall_mem_cons.mpr ⟨jml_231, List.forall_mem_cons.mpr ⟨jml_232, List.forall_mem_cons.mpr ⟨jml_233, List.forall_mem_cons.mpr ⟨jml_234, List.forall_mem_cons.mpr ⟨jml_235, List.forall_mem_cons.mpr ⟨jml_236, List.forall_mem_cons.mpr ⟨jml_237, List.forall_mem_cons.mpr ⟨jml_238, List.forall_mem_cons.mpr ⟨jml_239, fun _ h => absurd h List.not_mem_nil⟩⟩⟩⟩⟩⟩⟩⟩⟩⟩⟩⟩⟩⟩⟩⟩
def jml_r15 : List (Nat × Nat × Nat) := [(12, 538, 284), (12, 554, 287)]
set_option maxRecDepth 8000 in
theorem jml_240 : jml_F (12, 538, 284) := Or.inr (jat_m2 (k := 9) (l := 98) rfl rfl)
set_option maxRecDepth 8000 in
theorem jml_241 : jml_F (12, 554, 287) := Or.inr (jat_m2 (k := 9) (l := 110) rfl rfl)
theorem jml_o15 : ∀ e ∈ jml_r15, jml_F e := List.forall_mem_cons.mpr ⟨jml_240, List.forall_mem_cons.mpr ⟨jml_241, fun _ h => absurd h List.not_mem_nil⟩⟩
def jml_t : List (List (Nat × Nat × Nat)) := [jml_r0, jml_r1, jml_r2, jml_r3, jml_r4, jml_r5, jml_r6, jml_r7, jml_r8, jml_r9, jml_r10, jml_r11, jml_r12, jml_r13, jml_r14, jml_r15]
theorem jml_all : ∀ r ∈ jml_t, ∀ e ∈ r, jml_F e := List.forall_mem_cons.mpr ⟨jml_o0, List.forall_mem_cons.mpr ⟨jml_o1, List.forall_mem_cons.mpr ⟨jml_o2, List.forall_mem_cons.mpr ⟨jml_o3, List.forall_mem_cons.mpr ⟨jml_o4, List.forall_mem_cons.mpr ⟨jml_o5, List.forall_mem_cons.mpr ⟨jml_o6, List.forall_mem_cons.mpr ⟨jml_o7, List.forall_mem_cons.mpr ⟨jml_o8, List.forall_mem_cons.mpr ⟨jml_o9, List.forall_mem_cons.mpr ⟨jml_o10, List.forall_mem_cons.mpr ⟨jml_o11, List.forall_mem_cons.mpr ⟨jml_o12, List.forall_mem_cons.mpr ⟨jml_o13, List.forall_mem_cons.mpr ⟨jml_o14, List.forall_mem_cons.mpr ⟨jml_o15, fun _ h => absurd h List.not_mem_nil⟩⟩⟩⟩⟩⟩⟩⟩⟩⟩⟩⟩⟩⟩⟩⟩
def jml : Nat → Nat × Nat × Nat := jT jml_t (99, 0, 0)
def jnl_F (e : Nat × Nat × Nat) : Prop := e.1 = 99 ∨ Cond.methodLinkNest (jcn e.1) e.2.1 (jtm e.2.2).1 RX11 ∈ jnest
def jnl_r0 : List (Nat × Nat × Nat) := [(1, 217, 79), (9, 43, 106)]
set_option maxRecDepth 8000 in
theorem jnl_0 : jnl_F (1, 217, 79) := Or.inr (List.mem_of_getElem? (i := 0) rfl)
set_option maxRecDepth 8000 in
theorem jnl_1 : jnl_F (9, 43, 106) := Or.inr (List.mem_of_getElem? (i := 1) rfl)
theorem jnl_o0 : ∀ e ∈ jnl_r0, jnl_F e := List.forall_mem_cons.mpr ⟨jnl_0, List.forall_mem_cons.mpr ⟨jnl_1, fun _ h => absurd h List.not_mem_nil⟩⟩
def jnl_t : List (List (Nat × Nat × Nat)) := [jnl_r0]
theorem jnl_all : ∀ r ∈ jnl_t, ∀ e ∈ r, jnl_F e := List.forall_mem_cons.mpr ⟨jnl_o0, fun _ h => absurd h List.not_mem_nil⟩
def jnl : Nat → Nat × Nat × Nat := jT jnl_t (99, 0, 0)
theorem jml_ok (n : Nat) (o x a : Nat) (h : jml n = (o, x, a)) : o = 99 ∨ Cond.methodLink (jcn o) x (jtm a).1 ∈ jtbl := by
  have h : jT jml_t (99, 0, 0) n = _ := h
  rcases jT_ok jml_all (99, 0, 0) n with q | q
  · rw [q] at h
    cases h
    exact Or.inl rfl
  · rw [h] at q
    exact q
theorem jnl_ok (n : Nat) (o x a : Nat) (h : jnl n = (o, x, a)) : o = 99 ∨ Cond.methodLinkNest (jcn o) x (jtm a).1 RX11 ∈ jnest := by
  have h : jT jnl_t (99, 0, 0) n = _ := h
  rcases jT_ok jnl_all (99, 0, 0) n with q | q
  · rw [q] at h
    cases h
    exact Or.inl rfl
  · rw [h] at q
    exact q
def jmw (n : Nat) (b : Nat) : Prop := Cond.code (jtm n).1 (jtm n).2.1 (jtm n).2.2.1 (jtm n).2.2.2.1 ∈ jtbl ∧ Cond.initialized (jtm n).1.cls ∈ jtbl ∧ (jtm n).1.cls ≠ "java/lang/invoke/MethodHandle" ∧ (jtm n).1.cls ≠ "java/lang/invoke/VarHandle" ∧ (parseMethodDescriptor (jtm n).1.desc).map (fun d => d.parameters.length) = some b
def jmv (n ci s : Nat) : Prop := (s = 0 → Cond.instanceMethod (jtm n).1 ∈ jtbl ∧ Cond.selects (jtm n).1.cls (jtm n).1 (jtm n).1 ∈ jtbl ∧ ∃ r : vw_C, vwCl[ci]? = some r ∧ r.1 = (jtm n).1.cls) ∧ (s = 1 → Cond.static (jtm n).1 ∈ jtbl)
def jmf_F (e : Nat × Nat × Nat × Nat) : Prop := e.2.2.1 < 2 → jmw e.1 e.2.2.2 ∧ jmv e.1 e.2.1 e.2.2.1
def jmf_r0 : List (Nat × Nat × Nat × Nat) := [(0, 11, 2, 0), (1, 3, 2, 0), (2, 4, 2, 0), (3, 4, 0, 0), (4, 4, 0, 4), (5, 0, 2, 0), (6, 3, 0, 0), (7, 7, 2, 0), (8, 2, 2, 0), (9, 6, 2, 0), (10, 1, 2, 2), (11, 5, 2, 0), (12, 8, 2, 0), (13, 10, 2, 1), (14, 9, 2, 0), (15, 11, 0, 5)]
set_option maxRecDepth 8000 in
theorem jmf_0 : jmf_F (0, 11, 2, 0) := fun h => absurd h (by decide)
set_option maxRecDepth 8000 in
theorem jmf_1 : jmf_F (1, 3, 2, 0) := fun h => absurd h (by decide)
set_option maxRecDepth 8000 in
theorem jmf_2 : jmf_F (2, 4, 2, 0) := fun h => absurd h (by decide)
set_option maxRecDepth 8000 in
theorem jmf_3 : jmf_F (3, 4, 0, 0) := fun _ => ⟨⟨jat_m2 (k := 1) (l := 48) rfl rfl, jat_m2 (k := 1) (l := 3) rfl rfl, by decide +kernel, by decide +kernel, by decide +kernel⟩, ⟨fun _ => ⟨jat_m2 (k := 1) (l := 46) rfl rfl, jat_m2 (k := 1) (l := 47) rfl rfl, _, rfl, rfl⟩, fun h => absurd h (by decide)⟩⟩
set_option maxRecDepth 8000 in
theorem jmf_4 : jmf_F (4, 4, 0, 4) := fun _ => ⟨⟨jat_m2 (k := 1) (l := 52) rfl rfl, jat_m2 (k := 1) (l := 3) rfl rfl, by decide +kernel, by decide +kernel, by decide +kernel⟩, ⟨fun _ => ⟨jat_m2 (k := 1) (l := 51) rfl rfl, jat_m2 (k := 21) (l := 0) rfl rfl, _, rfl, rfl⟩, fun h => absurd h (by decide)⟩⟩
set_option maxRecDepth 8000 in
theorem jmf_5 : jmf_F (5, 0, 2, 0) := fun h => absurd h (by decide)
set_option maxRecDepth 8000 in
theorem jmf_6 : jmf_F (6, 3, 0, 0) := fun _ => ⟨⟨jat_m2 (k := 1) (l := 127) rfl rfl, jat_m2 (k := 1) (l := 2) rfl rfl, by decide +kernel, by decide +kernel, by decide +kernel⟩, ⟨fun _ => ⟨jat_m2 (k := 1) (l := 125) rfl rfl, jat_m2 (k := 1) (l := 126) rfl rfl, _, rfl, rfl⟩, fun h => absurd h (by decide)⟩⟩
set_option maxRecDepth 8000 in
theorem jmf_7 : jmf_F (7, 7, 2, 0) := fun h => absurd h (by decide)
set_option maxRecDepth 8000 in
theorem jmf_8 : jmf_F (8, 2, 2, 0) := fun h => absurd h (by decide)
set_option maxRecDepth 8000 in
theorem jmf_9 : jmf_F (9, 6, 2, 0) := fun h => absurd h (by decide)
set_option maxRecDepth 8000 in
theorem jmf_10 : jmf_F (10, 1, 2, 2) := fun h => absurd h (by decide)
set_option maxRecDepth 8000 in
theorem jmf_11 : jmf_F (11, 5, 2, 0) := fun h => absurd h (by decide)
set_option maxRecDepth 8000 in
theorem jmf_12 : jmf_F (12, 8, 2, 0) := fun h => absurd h (by decide)
set_option maxRecDepth 8000 in
theorem jmf_13 : jmf_F (13, 10, 2, 1) := fun h => absurd h (by decide)
set_option maxRecDepth 8000 in
theorem jmf_14 : jmf_F (14, 9, 2, 0) := fun h => absurd h (by decide)
set_option maxRecDepth 8000 in
theorem jmf_15 : jmf_F (15, 11, 0, 5) := fun _ => ⟨⟨jat_m2 (k := 3) (l := 187) rfl rfl, jat_m2 (k := 1) (l := 1) rfl rfl, by decide +kernel, by decide +kernel, by decide +kernel⟩, ⟨fun _ => ⟨jat_m2 (k := 3) (l := 185) rfl rfl, jat_m2 (k := 3) (l := 186) rfl rfl, _, rfl, rfl⟩, fun h => absurd h (by decide)⟩⟩
theorem jmf_o0 : ∀ e ∈ jmf_r0, jmf_F e := List.forall_mem_cons.mpr ⟨jmf_0, List.forall_mem_cons.mpr ⟨jmf_1, List.forall_mem_cons.mpr ⟨jmf_2, List.forall_mem_cons.mpr ⟨jmf_3, List.forall_mem_cons.mpr ⟨jmf_4, List.forall_mem_cons.mpr ⟨jmf_5, List.forall_mem_cons.mpr ⟨jmf_6, List.forall_mem_cons.mpr ⟨jmf_7, List.forall_mem_cons.mpr ⟨jmf_8, List.forall_mem_cons.mpr ⟨jmf_9, List.forall_mem_cons.mpr ⟨jmf_10, List.forall_mem_cons.mpr ⟨jmf_11, List.forall_mem_cons.mpr ⟨jmf_12, List.forall_mem_cons.mpr ⟨jmf_13, List.forall_mem_cons.mpr ⟨jmf_14, List.forall_mem_cons.mpr ⟨jmf_15, fun _ h => absurd h List.not_mem_nil⟩⟩⟩⟩⟩⟩⟩⟩⟩⟩⟩⟩⟩⟩⟩⟩
def jmf_r1 : List (Nat × Nat × Nat × Nat) := [(16, 11, 0, 1), (17, 11, 0, 1), (18, 7, 0, 3), (19, 99, 1, 2), (20, 7, 0, 0), (21, 7, 0, 0), (22, 7, 0, 0), (23, 7, 0, 0), (24, 7, 0, 0), (25, 7, 0, 0), (26, 7, 0, 3), (27, 7, 0, 2), (28, 3, 0, 1), (29, 7, 0, 2), (30, 7, 0, 2), (31, 6, 1, 2)]
set_option maxRecDepth 8000 in
theorem jmf_16 : jmf_F (16, 11, 0, 1) := fun _ => ⟨⟨jat_m2 (k := 3) (l := 191) rfl rfl, jat_m2 (k := 1) (l := 1) rfl rfl, by decide +kernel, by decide +kernel, by decide +kernel⟩, ⟨fun _ => ⟨jat_m2 (k := 3) (l := 190) rfl rfl, jat_m2 (k := 21) (l := 1) rfl rfl, _, rfl, rfl⟩, fun h => absurd h (by decide)⟩⟩
set_option maxRecDepth 8000 in
theorem jmf_17 : jmf_F (17, 11, 0, 1) := fun _ => ⟨⟨jat_m2 (k := 3) (l := 195) rfl rfl, jat_m2 (k := 1) (l := 1) rfl rfl, by decide +kernel, by decide +kernel, by decide +kernel⟩, ⟨fun _ => ⟨jat_m2 (k := 3) (l := 193) rfl rfl, jat_m2 (k := 3) (l := 194) rfl rfl, _, rfl, rfl⟩, fun h => absurd h (by decide)⟩⟩
set_option maxRecDepth 8000 in
theorem jmf_18 : jmf_F (18, 7, 0, 3) := fun _ => ⟨⟨jat_m2 (k := 3) (l := 199) rfl rfl, jat_m2 (k := 1) (l := 5) rfl rfl, by decide +kernel, by decide +kernel, by decide +kernel⟩, ⟨fun _ => ⟨jat_m2 (k := 3) (l := 197) rfl rfl, jat_m2 (k := 3) (l := 198) rfl rfl, _, rfl, rfl⟩, fun h => absurd h (by decide)⟩⟩
set_option maxRecDepth 8000 in
theorem jmf_19 : jmf_F (19, 99, 1, 2) := fun _ => ⟨⟨jat_m2 (k := 3) (l := 202) rfl rfl, jat_m2 (k := 1) (l := 18) rfl rfl, by decide +kernel, by decide +kernel, by decide +kernel⟩, ⟨fun h => absurd h (by decide), fun _ => jat_m2 (k := 3) (l := 201) rfl rfl⟩⟩
set_option maxRecDepth 8000 in
theorem jmf_20 : jmf_F (20, 7, 0, 0) := fun _ => ⟨⟨jat_m2 (k := 3) (l := 207) rfl rfl, jat_m2 (k := 1) (l := 5) rfl rfl, by decide +kernel, by decide +kernel, by decide +kernel⟩, ⟨fun _ => ⟨jat_m2 (k := 3) (l := 206) rfl rfl, jat_m2 (k := 21) (l := 2) rfl rfl, _, rfl, rfl⟩, fun h => absurd h (by decide)⟩⟩
set_option maxRecDepth 8000 in
theorem jmf_21 : jmf_F (21, 7, 0, 0) := fun _ => ⟨⟨jat_m2 (k := 3) (l := 211) rfl rfl, jat_m2 (k := 1) (l := 5) rfl rfl, by decide +kernel, by decide +kernel, by decide +kernel⟩, ⟨fun _ => ⟨jat_m2 (k := 3) (l := 210) rfl rfl, jat_m2 (k := 21) (l := 3) rfl rfl, _, rfl, rfl⟩, fun h => absurd h (by decide)⟩⟩
set_option maxRecDepth 8000 in
theorem jmf_22 : jmf_F (22, 7, 0, 0) := fun _ => ⟨⟨jat_m2 (k := 3) (l := 215) rfl rfl, jat_m2 (k := 1) (l := 5) rfl rfl, by decide +kernel, by decide +kernel, by decide +kernel⟩, ⟨fun _ => ⟨jat_m2 (k := 3) (l := 214) rfl rfl, jat_m2 (k := 21) (l := 4) rfl rfl, _, rfl, rfl⟩, fun h => absurd h (by decide)⟩⟩
set_option maxRecDepth 8000 in
theorem jmf_23 : jmf_F (23, 7, 0, 0) := fun _ => ⟨⟨jat_m2 (k := 3) (l := 220) rfl rfl, jat_m2 (k := 1) (l := 5) rfl rfl, by decide +kernel, by decide +kernel, by decide +kernel⟩, ⟨fun _ => ⟨jat_m2 (k := 3) (l := 219) rfl rfl, jat_m2 (k := 21) (l := 5) rfl rfl, _, rfl, rfl⟩, fun h => absurd h (by decide)⟩⟩
set_option maxRecDepth 8000 in
theorem jmf_24 : jmf_F (24, 7, 0, 0) := fun _ => ⟨⟨jat_m2 (k := 3) (l := 224) rfl rfl, jat_m2 (k := 1) (l := 5) rfl rfl, by decide +kernel, by decide +kernel, by decide +kernel⟩, ⟨fun _ => ⟨jat_m2 (k := 3) (l := 223) rfl rfl, jat_m2 (k := 21) (l := 6) rfl rfl, _, rfl, rfl⟩, fun h => absurd h (by decide)⟩⟩
set_option maxRecDepth 8000 in
theorem jmf_25 : jmf_F (25, 7, 0, 0) := fun _ => ⟨⟨jat_m2 (k := 3) (l := 228) rfl rfl, jat_m2 (k := 1) (l := 5) rfl rfl, by decide +kernel, by decide +kernel, by decide +kernel⟩, ⟨fun _ => ⟨jat_m2 (k := 3) (l := 227) rfl rfl, jat_m2 (k := 21) (l := 7) rfl rfl, _, rfl, rfl⟩, fun h => absurd h (by decide)⟩⟩
set_option maxRecDepth 8000 in
theorem jmf_26 : jmf_F (26, 7, 0, 3) := fun _ => ⟨⟨jat_m2 (k := 3) (l := 232) rfl rfl, jat_m2 (k := 1) (l := 5) rfl rfl, by decide +kernel, by decide +kernel, by decide +kernel⟩, ⟨fun _ => ⟨jat_m2 (k := 3) (l := 231) rfl rfl, jat_m2 (k := 21) (l := 8) rfl rfl, _, rfl, rfl⟩, fun h => absurd h (by decide)⟩⟩
set_option maxRecDepth 8000 in
theorem jmf_27 : jmf_F (27, 7, 0, 2) := fun _ => ⟨⟨jat_m2 (k := 3) (l := 236) rfl rfl, jat_m2 (k := 1) (l := 5) rfl rfl, by decide +kernel, by decide +kernel, by decide +kernel⟩, ⟨fun _ => ⟨jat_m2 (k := 3) (l := 235) rfl rfl, jat_m2 (k := 21) (l := 9) rfl rfl, _, rfl, rfl⟩, fun h => absurd h (by decide)⟩⟩
set_option maxRecDepth 8000 in
theorem jmf_28 : jmf_F (28, 3, 0, 1) := fun _ => ⟨⟨jat_m2 (k := 4) (l := 0) rfl rfl, jat_m2 (k := 1) (l := 2) rfl rfl, by decide +kernel, by decide +kernel, by decide +kernel⟩, ⟨fun _ => ⟨jat_m2 (k := 3) (l := 238) rfl rfl, jat_m2 (k := 3) (l := 239) rfl rfl, _, rfl, rfl⟩, fun h => absurd h (by decide)⟩⟩
set_option maxRecDepth 8000 in
theorem jmf_29 : jmf_F (29, 7, 0, 2) := fun _ => ⟨⟨jat_m2 (k := 4) (l := 4) rfl rfl, jat_m2 (k := 1) (l := 5) rfl rfl, by decide +kernel, by decide +kernel, by decide +kernel⟩, ⟨fun _ => ⟨jat_m2 (k := 4) (l := 3) rfl rfl, jat_m2 (k := 21) (l := 10) rfl rfl, _, rfl, rfl⟩, fun h => absurd h (by decide)⟩⟩
set_option maxRecDepth 8000 in
theorem jmf_30 : jmf_F (30, 7, 0, 2) := fun _ => ⟨⟨jat_m2 (k := 4) (l := 8) rfl rfl, jat_m2 (k := 1) (l := 5) rfl rfl, by decide +kernel, by decide +kernel, by decide +kernel⟩, ⟨fun _ => ⟨jat_m2 (k := 4) (l := 7) rfl rfl, jat_m2 (k := 21) (l := 11) rfl rfl, _, rfl, rfl⟩, fun h => absurd h (by decide)⟩⟩
set_option maxRecDepth 8000 in
theorem jmf_31 : jmf_F (31, 6, 1, 2) := fun _ => ⟨⟨jat_m2 (k := 4) (l := 11) rfl rfl, jat_m2 (k := 1) (l := 11) rfl rfl, by decide +kernel, by decide +kernel, by decide +kernel⟩, ⟨fun h => absurd h (by decide), fun _ => jat_m2 (k := 4) (l := 10) rfl rfl⟩⟩
theorem jmf_o1 : ∀ e ∈ jmf_r1, jmf_F e := List.forall_mem_cons.mpr ⟨jmf_16, List.forall_mem_cons.mpr ⟨jmf_17, List.forall_mem_cons.mpr ⟨jmf_18, List.forall_mem_cons.mpr ⟨jmf_19, List.forall_mem_cons.mpr ⟨jmf_20, List.forall_mem_cons.mpr ⟨jmf_21, List.forall_mem_cons.mpr ⟨jmf_22, List.forall_mem_cons.mpr ⟨jmf_23, List.forall_mem_cons.mpr ⟨jmf_24, List.forall_mem_cons.mpr ⟨jmf_25, List.forall_mem_cons.mpr ⟨jmf_26, List.forall_mem_cons.mpr ⟨jmf_27, List.forall_mem_cons.mpr ⟨jmf_28, List.forall_mem_cons.mpr ⟨jmf_29, List.forall_mem_cons.mpr ⟨jmf_30, List.forall_mem_cons.mpr ⟨jmf_31, fun _ h => absurd h List.not_mem_nil⟩⟩⟩⟩⟩⟩⟩⟩⟩⟩⟩⟩⟩⟩⟩⟩
def jmf_r2 : List (Nat × Nat × Nat × Nat) := [(32, 4, 0, 2), (33, 4, 0, 2), (34, 3, 0, 3), (35, 7, 0, 0), (36, 7, 0, 0), (37, 7, 0, 2), (38, 7, 0, 0), (39, 7, 0, 0), (40, 3, 0, 2), (41, 7, 0, 0), (42, 7, 0, 1), (43, 7, 0, 0), (44, 7, 0, 0), (45, 1, 0, 1), (46, 1, 0, 0), (47, 2, 0, 2)]
set_option maxRecDepth 8000 in
theorem jmf_32 : jmf_F (32, 4, 0, 2) := fun _ => ⟨⟨jat_m2 (k := 4) (l := 15) rfl rfl, jat_m2 (k := 1) (l := 3) rfl rfl, by decide +kernel, by decide +kernel, by decide +kernel⟩, ⟨fun _ => ⟨jat_m2 (k := 4) (l := 13) rfl rfl, jat_m2 (k := 4) (l := 14) rfl rfl, _, rfl, rfl⟩, fun h => absurd h (by decide)⟩⟩
set_option maxRecDepth 8000 in
theorem jmf_33 : jmf_F (33, 4, 0, 2) := fun _ => ⟨⟨jat_m2 (k := 4) (l := 19) rfl rfl, jat_m2 (k := 1) (l := 3) rfl rfl, by decide +kernel, by decide +kernel, by decide +kernel⟩, ⟨fun _ => ⟨jat_m2 (k := 4) (l := 17) rfl rfl, jat_m2 (k := 4) (l := 18) rfl rfl, _, rfl, rfl⟩, fun h => absurd h (by decide)⟩⟩
set_option maxRecDepth 8000 in
theorem jmf_34 : jmf_F (34, 3, 0, 3) := fun _ => ⟨⟨jat_m2 (k := 4) (l := 23) rfl rfl, jat_m2 (k := 1) (l := 2) rfl rfl, by decide +kernel, by decide +kernel, by decide +kernel⟩, ⟨fun _ => ⟨jat_m2 (k := 4) (l := 21) rfl rfl, jat_m2 (k := 4) (l := 22) rfl rfl, _, rfl, rfl⟩, fun h => absurd h (by decide)⟩⟩
set_option maxRecDepth 8000 in
theorem jmf_35 : jmf_F (35, 7, 0, 0) := fun _ => ⟨⟨jat_m2 (k := 4) (l := 27) rfl rfl, jat_m2 (k := 1) (l := 5) rfl rfl, by decide +kernel, by decide +kernel, by decide +kernel⟩, ⟨fun _ => ⟨jat_m2 (k := 4) (l := 26) rfl rfl, jat_m2 (k := 21) (l := 12) rfl rfl, _, rfl, rfl⟩, fun h => absurd h (by decide)⟩⟩
set_option maxRecDepth 8000 in
theorem jmf_36 : jmf_F (36, 7, 0, 0) := fun _ => ⟨⟨jat_m2 (k := 4) (l := 31) rfl rfl, jat_m2 (k := 1) (l := 5) rfl rfl, by decide +kernel, by decide +kernel, by decide +kernel⟩, ⟨fun _ => ⟨jat_m2 (k := 4) (l := 30) rfl rfl, jat_m2 (k := 21) (l := 13) rfl rfl, _, rfl, rfl⟩, fun h => absurd h (by decide)⟩⟩
set_option maxRecDepth 8000 in
theorem jmf_37 : jmf_F (37, 7, 0, 2) := fun _ => ⟨⟨jat_m2 (k := 4) (l := 35) rfl rfl, jat_m2 (k := 1) (l := 5) rfl rfl, by decide +kernel, by decide +kernel, by decide +kernel⟩, ⟨fun _ => ⟨jat_m2 (k := 4) (l := 34) rfl rfl, jat_m2 (k := 21) (l := 14) rfl rfl, _, rfl, rfl⟩, fun h => absurd h (by decide)⟩⟩
set_option maxRecDepth 8000 in
theorem jmf_38 : jmf_F (38, 7, 0, 0) := fun _ => ⟨⟨jat_m2 (k := 4) (l := 39) rfl rfl, jat_m2 (k := 1) (l := 5) rfl rfl, by decide +kernel, by decide +kernel, by decide +kernel⟩, ⟨fun _ => ⟨jat_m2 (k := 4) (l := 38) rfl rfl, jat_m2 (k := 21) (l := 15) rfl rfl, _, rfl, rfl⟩, fun h => absurd h (by decide)⟩⟩
set_option maxRecDepth 8000 in
theorem jmf_39 : jmf_F (39, 7, 0, 0) := fun _ => ⟨⟨jat_m2 (k := 4) (l := 43) rfl rfl, jat_m2 (k := 1) (l := 5) rfl rfl, by decide +kernel, by decide +kernel, by decide +kernel⟩, ⟨fun _ => ⟨jat_m2 (k := 4) (l := 42) rfl rfl, jat_m2 (k := 22) (l := 0) rfl rfl, _, rfl, rfl⟩, fun h => absurd h (by decide)⟩⟩
set_option maxRecDepth 8000 in
theorem jmf_40 : jmf_F (40, 3, 0, 2) := fun _ => ⟨⟨jat_m2 (k := 4) (l := 47) rfl rfl, jat_m2 (k := 1) (l := 2) rfl rfl, by decide +kernel, by decide +kernel, by decide +kernel⟩, ⟨fun _ => ⟨jat_m2 (k := 4) (l := 45) rfl rfl, jat_m2 (k := 4) (l := 46) rfl rfl, _, rfl, rfl⟩, fun h => absurd h (by decide)⟩⟩
set_option maxRecDepth 8000 in
theorem jmf_41 : jmf_F (41, 7, 0, 0) := fun _ => ⟨⟨jat_m2 (k := 4) (l := 51) rfl rfl, jat_m2 (k := 1) (l := 5) rfl rfl, by decide +kernel, by decide +kernel, by decide +kernel⟩, ⟨fun _ => ⟨jat_m2 (k := 4) (l := 50) rfl rfl, jat_m2 (k := 22) (l := 1) rfl rfl, _, rfl, rfl⟩, fun h => absurd h (by decide)⟩⟩
set_option maxRecDepth 8000 in
theorem jmf_42 : jmf_F (42, 7, 0, 1) := fun _ => ⟨⟨jat_m2 (k := 4) (l := 55) rfl rfl, jat_m2 (k := 1) (l := 5) rfl rfl, by decide +kernel, by decide +kernel, by decide +kernel⟩, ⟨fun _ => ⟨jat_m2 (k := 4) (l := 54) rfl rfl, jat_m2 (k := 22) (l := 2) rfl rfl, _, rfl, rfl⟩, fun h => absurd h (by decide)⟩⟩
set_option maxRecDepth 8000 in
theorem jmf_43 : jmf_F (43, 7, 0, 0) := fun _ => ⟨⟨jat_m2 (k := 4) (l := 59) rfl rfl, jat_m2 (k := 1) (l := 5) rfl rfl, by decide +kernel, by decide +kernel, by decide +kernel⟩, ⟨fun _ => ⟨jat_m2 (k := 4) (l := 58) rfl rfl, jat_m2 (k := 22) (l := 3) rfl rfl, _, rfl, rfl⟩, fun h => absurd h (by decide)⟩⟩
set_option maxRecDepth 8000 in
theorem jmf_44 : jmf_F (44, 7, 0, 0) := fun _ => ⟨⟨jat_m2 (k := 4) (l := 63) rfl rfl, jat_m2 (k := 1) (l := 5) rfl rfl, by decide +kernel, by decide +kernel, by decide +kernel⟩, ⟨fun _ => ⟨jat_m2 (k := 4) (l := 62) rfl rfl, jat_m2 (k := 22) (l := 4) rfl rfl, _, rfl, rfl⟩, fun h => absurd h (by decide)⟩⟩
set_option maxRecDepth 8000 in
theorem jmf_45 : jmf_F (45, 1, 0, 1) := fun _ => ⟨⟨jat_m2 (k := 4) (l := 67) rfl rfl, jat_m2 (k := 1) (l := 12) rfl rfl, by decide +kernel, by decide +kernel, by decide +kernel⟩, ⟨fun _ => ⟨jat_m2 (k := 4) (l := 65) rfl rfl, jat_m2 (k := 4) (l := 66) rfl rfl, _, rfl, rfl⟩, fun h => absurd h (by decide)⟩⟩
set_option maxRecDepth 8000 in
theorem jmf_46 : jmf_F (46, 1, 0, 0) := fun _ => ⟨⟨jat_m2 (k := 4) (l := 71) rfl rfl, jat_m2 (k := 1) (l := 12) rfl rfl, by decide +kernel, by decide +kernel, by decide +kernel⟩, ⟨fun _ => ⟨jat_m2 (k := 4) (l := 69) rfl rfl, jat_m2 (k := 4) (l := 70) rfl rfl, _, rfl, rfl⟩, fun h => absurd h (by decide)⟩⟩
set_option maxRecDepth 8000 in
theorem jmf_47 : jmf_F (47, 2, 0, 2) := fun _ => ⟨⟨jat_m2 (k := 4) (l := 75) rfl rfl, jat_m2 (k := 1) (l := 10) rfl rfl, by decide +kernel, by decide +kernel, by decide +kernel⟩, ⟨fun _ => ⟨jat_m2 (k := 4) (l := 73) rfl rfl, jat_m2 (k := 4) (l := 74) rfl rfl, _, rfl, rfl⟩, fun h => absurd h (by decide)⟩⟩
theorem jmf_o2 : ∀ e ∈ jmf_r2, jmf_F e := List.forall_mem_cons.mpr ⟨jmf_32, List.forall_mem_cons.mpr ⟨jmf_33, List.forall_mem_cons.mpr ⟨jmf_34, List.forall_mem_cons.mpr ⟨jmf_35, List.forall_mem_cons.mpr ⟨jmf_36, List.forall_mem_cons.mpr ⟨jmf_37, List.forall_mem_cons.mpr ⟨jmf_38, List.forall_mem_cons.mpr ⟨jmf_39, List.forall_mem_cons.mpr ⟨jmf_40, List.forall_mem_cons.mpr ⟨jmf_41, List.forall_mem_cons.mpr ⟨jmf_42, List.forall_mem_cons.mpr ⟨jmf_43, List.forall_mem_cons.mpr ⟨jmf_44, List.forall_mem_cons.mpr ⟨jmf_45, List.forall_mem_cons.mpr ⟨jmf_46, List.forall_mem_cons.mpr ⟨jmf_47, fun _ h => absurd h List.not_mem_nil⟩⟩⟩⟩⟩⟩⟩⟩⟩⟩⟩⟩⟩⟩⟩⟩
def jmf_r3 : List (Nat × Nat × Nat × Nat) := [(48, 2, 0, 1), (49, 2, 0, 3), (50, 1, 0, 1), (51, 2, 0, 0), (52, 2, 0, 0), (53, 4, 0, 2), (54, 2, 0, 1), (55, 6, 1, 2), (56, 2, 0, 2), (57, 1, 0, 1), (58, 2, 0, 2), (59, 2, 0, 0), (60, 1, 0, 1), (61, 11, 0, 1), (62, 11, 0, 1), (63, 11, 1, 1)]
set_option maxRecDepth 8000 in
theorem jmf_48 : jmf_F (48, 2, 0, 1) := fun _ => ⟨⟨jat_m2 (k := 4) (l := 79) rfl rfl, jat_m2 (k := 1) (l := 10) rfl rfl, by decide +kernel, by decide +kernel, by decide +kernel⟩, ⟨fun _ => ⟨jat_m2 (k := 4) (l := 77) rfl rfl, jat_m2 (k := 4) (l := 78) rfl rfl, _, rfl, rfl⟩, fun h => absurd h (by decide)⟩⟩
set_option maxRecDepth 8000 in
theorem jmf_49 : jmf_F (49, 2, 0, 3) := fun _ => ⟨⟨jat_m2 (k := 4) (l := 83) rfl rfl, jat_m2 (k := 1) (l := 10) rfl rfl, by decide +kernel, by decide +kernel, by decide +kernel⟩, ⟨fun _ => ⟨jat_m2 (k := 4) (l := 81) rfl rfl, jat_m2 (k := 4) (l := 82) rfl rfl, _, rfl, rfl⟩, fun h => absurd h (by decide)⟩⟩
set_option maxRecDepth 8000 in
theorem jmf_50 : jmf_F (50, 1, 0, 1) := fun _ => ⟨⟨jat_m2 (k := 4) (l := 87) rfl rfl, jat_m2 (k := 1) (l := 12) rfl rfl, by decide +kernel, by decide +kernel, by decide +kernel⟩, ⟨fun _ => ⟨jat_m2 (k := 4) (l := 86) rfl rfl, jat_m2 (k := 22) (l := 5) rfl rfl, _, rfl, rfl⟩, fun h => absurd h (by decide)⟩⟩
set_option maxRecDepth 8000 in
theorem jmf_51 : jmf_F (51, 2, 0, 0) := fun _ => ⟨⟨jat_m2 (k := 4) (l := 91) rfl rfl, jat_m2 (k := 1) (l := 10) rfl rfl, by decide +kernel, by decide +kernel, by decide +kernel⟩, ⟨fun _ => ⟨jat_m2 (k := 4) (l := 89) rfl rfl, jat_m2 (k := 4) (l := 90) rfl rfl, _, rfl, rfl⟩, fun h => absurd h (by decide)⟩⟩
set_option maxRecDepth 8000 in
theorem jmf_52 : jmf_F (52, 2, 0, 0) := fun _ => ⟨⟨jat_m2 (k := 4) (l := 95) rfl rfl, jat_m2 (k := 1) (l := 10) rfl rfl, by decide +kernel, by decide +kernel, by decide +kernel⟩, ⟨fun _ => ⟨jat_m2 (k := 4) (l := 94) rfl rfl, jat_m2 (k := 22) (l := 6) rfl rfl, _, rfl, rfl⟩, fun h => absurd h (by decide)⟩⟩
set_option maxRecDepth 8000 in
theorem jmf_53 : jmf_F (53, 4, 0, 2) := fun _ => ⟨⟨jat_m2 (k := 4) (l := 99) rfl rfl, jat_m2 (k := 1) (l := 3) rfl rfl, by decide +kernel, by decide +kernel, by decide +kernel⟩, ⟨fun _ => ⟨jat_m2 (k := 4) (l := 97) rfl rfl, jat_m2 (k := 4) (l := 98) rfl rfl, _, rfl, rfl⟩, fun h => absurd h (by decide)⟩⟩
set_option maxRecDepth 8000 in
theorem jmf_54 : jmf_F (54, 2, 0, 1) := fun _ => ⟨⟨jat_m2 (k := 4) (l := 103) rfl rfl, jat_m2 (k := 1) (l := 10) rfl rfl, by decide +kernel, by decide +kernel, by decide +kernel⟩, ⟨fun _ => ⟨jat_m2 (k := 4) (l := 101) rfl rfl, jat_m2 (k := 4) (l := 102) rfl rfl, _, rfl, rfl⟩, fun h => absurd h (by decide)⟩⟩
set_option maxRecDepth 8000 in
theorem jmf_55 : jmf_F (55, 6, 1, 2) := fun _ => ⟨⟨jat_m2 (k := 4) (l := 107) rfl rfl, jat_m2 (k := 1) (l := 11) rfl rfl, by decide +kernel, by decide +kernel, by decide +kernel⟩, ⟨fun h => absurd h (by decide), fun _ => jat_m2 (k := 4) (l := 106) rfl rfl⟩⟩
set_option maxRecDepth 8000 in
theorem jmf_56 : jmf_F (56, 2, 0, 2) := fun _ => ⟨⟨jat_m2 (k := 4) (l := 114) rfl rfl, jat_m2 (k := 1) (l := 10) rfl rfl, by decide +kernel, by decide +kernel, by decide +kernel⟩, ⟨fun _ => ⟨jat_m2 (k := 4) (l := 112) rfl rfl, jat_m2 (k := 4) (l := 113) rfl rfl, _, rfl, rfl⟩, fun h => absurd h (by decide)⟩⟩
set_option maxRecDepth 8000 in
theorem jmf_57 : jmf_F (57, 1, 0, 1) := fun _ => ⟨⟨jat_m2 (k := 4) (l := 118) rfl rfl, jat_m2 (k := 1) (l := 12) rfl rfl, by decide +kernel, by decide +kernel, by decide +kernel⟩, ⟨fun _ => ⟨jat_m2 (k := 4) (l := 117) rfl rfl, jat_m2 (k := 22) (l := 7) rfl rfl, _, rfl, rfl⟩, fun h => absurd h (by decide)⟩⟩
set_option maxRecDepth 8000 in
theorem jmf_58 : jmf_F (58, 2, 0, 2) := fun _ => ⟨⟨jat_m2 (k := 4) (l := 122) rfl rfl, jat_m2 (k := 1) (l := 10) rfl rfl, by decide +kernel, by decide +kernel, by decide +kernel⟩, ⟨fun _ => ⟨jat_m2 (k := 4) (l := 120) rfl rfl, jat_m2 (k := 4) (l := 121) rfl rfl, _, rfl, rfl⟩, fun h => absurd h (by decide)⟩⟩
set_option maxRecDepth 8000 in
theorem jmf_59 : jmf_F (59, 2, 0, 0) := fun _ => ⟨⟨jat_m2 (k := 4) (l := 126) rfl rfl, jat_m2 (k := 1) (l := 10) rfl rfl, by decide +kernel, by decide +kernel, by decide +kernel⟩, ⟨fun _ => ⟨jat_m2 (k := 4) (l := 124) rfl rfl, jat_m2 (k := 4) (l := 125) rfl rfl, _, rfl, rfl⟩, fun h => absurd h (by decide)⟩⟩
set_option maxRecDepth 8000 in
theorem jmf_60 : jmf_F (60, 1, 0, 1) := fun _ => ⟨⟨jat_m2 (k := 4) (l := 131) rfl rfl, jat_m2 (k := 1) (l := 12) rfl rfl, by decide +kernel, by decide +kernel, by decide +kernel⟩, ⟨fun _ => ⟨jat_m2 (k := 4) (l := 130) rfl rfl, jat_m2 (k := 22) (l := 8) rfl rfl, _, rfl, rfl⟩, fun h => absurd h (by decide)⟩⟩
set_option maxRecDepth 8000 in
theorem jmf_61 : jmf_F (61, 11, 0, 1) := fun _ => ⟨⟨jat_m2 (k := 4) (l := 135) rfl rfl, jat_m2 (k := 1) (l := 1) rfl rfl, by decide +kernel, by decide +kernel, by decide +kernel⟩, ⟨fun _ => ⟨jat_m2 (k := 4) (l := 133) rfl rfl, jat_m2 (k := 4) (l := 134) rfl rfl, _, rfl, rfl⟩, fun h => absurd h (by decide)⟩⟩
set_option maxRecDepth 8000 in
theorem jmf_62 : jmf_F (62, 11, 0, 1) := fun _ => ⟨⟨jat_m2 (k := 4) (l := 139) rfl rfl, jat_m2 (k := 1) (l := 1) rfl rfl, by decide +kernel, by decide +kernel, by decide +kernel⟩, ⟨fun _ => ⟨jat_m2 (k := 4) (l := 137) rfl rfl, jat_m2 (k := 4) (l := 138) rfl rfl, _, rfl, rfl⟩, fun h => absurd h (by decide)⟩⟩
set_option maxRecDepth 8000 in
theorem jmf_63 : jmf_F (63, 11, 1, 1) := fun _ => ⟨⟨jat_m2 (k := 4) (l := 142) rfl rfl, jat_m2 (k := 1) (l := 1) rfl rfl, by decide +kernel, by decide +kernel, by decide +kernel⟩, ⟨fun h => absurd h (by decide), fun _ => jat_m2 (k := 4) (l := 141) rfl rfl⟩⟩
theorem jmf_o3 : ∀ e ∈ jmf_r3, jmf_F e := List.forall_mem_cons.mpr ⟨jmf_48, List.forall_mem_cons.mpr ⟨jmf_49, List.forall_mem_cons.mpr ⟨jmf_50, List.forall_mem_cons.mpr ⟨jmf_51, List.forall_mem_cons.mpr ⟨jmf_52, List.forall_mem_cons.mpr ⟨jmf_53, List.forall_mem_cons.mpr ⟨jmf_54, List.forall_mem_cons.mpr ⟨jmf_55, List.forall_mem_cons.mpr ⟨jmf_56, List.forall_mem_cons.mpr ⟨jmf_57, List.forall_mem_cons.mpr ⟨jmf_58, List.forall_mem_cons.mpr ⟨jmf_59, List.forall_mem_cons.mpr ⟨jmf_60, List.forall_mem_cons.mpr ⟨jmf_61, List.forall_mem_cons.mpr ⟨jmf_62, List.forall_mem_cons.mpr ⟨jmf_63, fun _ h => absurd h List.not_mem_nil⟩⟩⟩⟩⟩⟩⟩⟩⟩⟩⟩⟩⟩⟩⟩⟩
def jmf_r4 : List (Nat × Nat × Nat × Nat) := [(64, 1, 0, 2), (65, 1, 0, 0), (66, 1, 0, 1), (67, 1, 0, 2), (68, 2, 0, 3), (69, 99, 1, 1), (70, 1, 0, 2), (71, 1, 0, 2), (72, 8, 0, 2), (73, 1, 0, 1), (74, 1, 0, 1), (75, 1, 0, 1), (76, 2, 0, 1), (77, 11, 0, 1), (78, 1, 0, 0), (79, 11, 1, 1)]
set_option maxRecDepth 8000 in
theorem jmf_64 : jmf_F (64, 1, 0, 2) := fun _ => ⟨⟨jat_m2 (k := 4) (l := 146) rfl rfl, jat_m2 (k := 1) (l := 12) rfl rfl, by decide +kernel, by decide +kernel, by decide +kernel⟩, ⟨fun _ => ⟨jat_m2 (k := 4) (l := 144) rfl rfl, jat_m2 (k := 4) (l := 145) rfl rfl, _, rfl, rfl⟩, fun h => absurd h (by decide)⟩⟩
set_option maxRecDepth 8000 in
theorem jmf_65 : jmf_F (65, 1, 0, 0) := fun _ => ⟨⟨jat_m2 (k := 4) (l := 150) rfl rfl, jat_m2 (k := 1) (l := 12) rfl rfl, by decide +kernel, by decide +kernel, by decide +kernel⟩, ⟨fun _ => ⟨jat_m2 (k := 4) (l := 149) rfl rfl, jat_m2 (k := 22) (l := 9) rfl rfl, _, rfl, rfl⟩, fun h => absurd h (by decide)⟩⟩
set_option maxRecDepth 8000 in
theorem jmf_66 : jmf_F (66, 1, 0, 1) := fun _ => ⟨⟨jat_m2 (k := 4) (l := 154) rfl rfl, jat_m2 (k := 1) (l := 12) rfl rfl, by decide +kernel, by decide +kernel, by decide +kernel⟩, ⟨fun _ => ⟨jat_m2 (k := 4) (l := 152) rfl rfl, jat_m2 (k := 4) (l := 153) rfl rfl, _, rfl, rfl⟩, fun h => absurd h (by decide)⟩⟩
set_option maxRecDepth 8000 in
theorem jmf_67 : jmf_F (67, 1, 0, 2) := fun _ => ⟨⟨jat_m2 (k := 4) (l := 158) rfl rfl, jat_m2 (k := 1) (l := 12) rfl rfl, by decide +kernel, by decide +kernel, by decide +kernel⟩, ⟨fun _ => ⟨jat_m2 (k := 4) (l := 157) rfl rfl, jat_m2 (k := 22) (l := 10) rfl rfl, _, rfl, rfl⟩, fun h => absurd h (by decide)⟩⟩
set_option maxRecDepth 8000 in
theorem jmf_68 : jmf_F (68, 2, 0, 3) := fun _ => ⟨⟨jat_m2 (k := 4) (l := 162) rfl rfl, jat_m2 (k := 1) (l := 10) rfl rfl, by decide +kernel, by decide +kernel, by decide +kernel⟩, ⟨fun _ => ⟨jat_m2 (k := 4) (l := 160) rfl rfl, jat_m2 (k := 4) (l := 161) rfl rfl, _, rfl, rfl⟩, fun h => absurd h (by decide)⟩⟩
set_option maxRecDepth 8000 in
theorem jmf_69 : jmf_F (69, 99, 1, 1) := fun _ => ⟨⟨jat_m2 (k := 4) (l := 165) rfl rfl, jat_m2 (k := 1) (l := 18) rfl rfl, by decide +kernel, by decide +kernel, by decide +kernel⟩, ⟨fun h => absurd h (by decide), fun _ => jat_m2 (k := 4) (l := 164) rfl rfl⟩⟩
set_option maxRecDepth 8000 in
theorem jmf_70 : jmf_F (70, 1, 0, 2) := fun _ => ⟨⟨jat_m2 (k := 4) (l := 169) rfl rfl, jat_m2 (k := 1) (l := 12) rfl rfl, by decide +kernel, by decide +kernel, by decide +kernel⟩, ⟨fun _ => ⟨jat_m2 (k := 4) (l := 168) rfl rfl, jat_m2 (k := 22) (l := 11) rfl rfl, _, rfl, rfl⟩, fun h => absurd h (by decide)⟩⟩
set_option maxRecDepth 8000 in
theorem jmf_71 : jmf_F (71, 1, 0, 2) := fun _ => ⟨⟨jat_m2 (k := 4) (l := 173) rfl rfl, jat_m2 (k := 1) (l := 12) rfl rfl, by decide +kernel, by decide +kernel, by decide +kernel⟩, ⟨fun _ => ⟨jat_m2 (k := 4) (l := 172) rfl rfl, jat_m2 (k := 22) (l := 12) rfl rfl, _, rfl, rfl⟩, fun h => absurd h (by decide)⟩⟩
set_option maxRecDepth 8000 in
theorem jmf_72 : jmf_F (72, 8, 0, 2) := fun _ => ⟨⟨jat_m2 (k := 4) (l := 177) rfl rfl, jat_m2 (k := 1) (l := 14) rfl rfl, by decide +kernel, by decide +kernel, by decide +kernel⟩, ⟨fun _ => ⟨jat_m2 (k := 4) (l := 175) rfl rfl, jat_m2 (k := 4) (l := 176) rfl rfl, _, rfl, rfl⟩, fun h => absurd h (by decide)⟩⟩
set_option maxRecDepth 8000 in
theorem jmf_73 : jmf_F (73, 1, 0, 1) := fun _ => ⟨⟨jat_m2 (k := 4) (l := 181) rfl rfl, jat_m2 (k := 1) (l := 12) rfl rfl, by decide +kernel, by decide +kernel, by decide +kernel⟩, ⟨fun _ => ⟨jat_m2 (k := 4) (l := 179) rfl rfl, jat_m2 (k := 4) (l := 180) rfl rfl, _, rfl, rfl⟩, fun h => absurd h (by decide)⟩⟩
set_option maxRecDepth 8000 in
theorem jmf_74 : jmf_F (74, 1, 0, 1) := fun _ => ⟨⟨jat_m2 (k := 4) (l := 185) rfl rfl, jat_m2 (k := 1) (l := 12) rfl rfl, by decide +kernel, by decide +kernel, by decide +kernel⟩, ⟨fun _ => ⟨jat_m2 (k := 4) (l := 184) rfl rfl, jat_m2 (k := 22) (l := 13) rfl rfl, _, rfl, rfl⟩, fun h => absurd h (by decide)⟩⟩
set_option maxRecDepth 8000 in
theorem jmf_75 : jmf_F (75, 1, 0, 1) := fun _ => ⟨⟨jat_m2 (k := 4) (l := 189) rfl rfl, jat_m2 (k := 1) (l := 12) rfl rfl, by decide +kernel, by decide +kernel, by decide +kernel⟩, ⟨fun _ => ⟨jat_m2 (k := 4) (l := 188) rfl rfl, jat_m2 (k := 22) (l := 14) rfl rfl, _, rfl, rfl⟩, fun h => absurd h (by decide)⟩⟩
set_option maxRecDepth 8000 in
theorem jmf_76 : jmf_F (76, 2, 0, 1) := fun _ => ⟨⟨jat_m2 (k := 4) (l := 193) rfl rfl, jat_m2 (k := 1) (l := 10) rfl rfl, by decide +kernel, by decide +kernel, by decide +kernel⟩, ⟨fun _ => ⟨jat_m2 (k := 4) (l := 191) rfl rfl, jat_m2 (k := 4) (l := 192) rfl rfl, _, rfl, rfl⟩, fun h => absurd h (by decide)⟩⟩
set_option maxRecDepth 8000 in
theorem jmf_77 : jmf_F (77, 11, 0, 1) := fun _ => ⟨⟨jat_m2 (k := 4) (l := 197) rfl rfl, jat_m2 (k := 1) (l := 1) rfl rfl, by decide +kernel, by decide +kernel, by decide +kernel⟩, ⟨fun _ => ⟨jat_m2 (k := 4) (l := 195) rfl rfl, jat_m2 (k := 4) (l := 196) rfl rfl, _, rfl, rfl⟩, fun h => absurd h (by decide)⟩⟩
set_option maxRecDepth 8000 in
theorem jmf_78 : jmf_F (78, 1, 0, 0) := fun _ => ⟨⟨jat_m2 (k := 4) (l := 201) rfl rfl, jat_m2 (k := 1) (l := 12) rfl rfl, by decide +kernel, by decide +kernel, by decide +kernel⟩, ⟨fun _ => ⟨jat_m2 (k := 4) (l := 199) rfl rfl, jat_m2 (k := 4) (l := 200) rfl rfl, _, rfl, rfl⟩, fun h => absurd h (by decide)⟩⟩
set_option maxRecDepth 8000 in
theorem jmf_79 : jmf_F (79, 11, 1, 1) := fun _ => ⟨⟨jat_m2 (k := 4) (l := 204) rfl rfl, jat_m2 (k := 1) (l := 1) rfl rfl, by decide +kernel, by decide +kernel, by decide +kernel⟩, ⟨fun h => absurd h (by decide), fun _ => jat_m2 (k := 4) (l := 203) rfl rfl⟩⟩
theorem jmf_o4 : ∀ e ∈ jmf_r4, jmf_F e := List.forall_mem_cons.mpr ⟨jmf_64, List.forall_mem_cons.mpr ⟨jmf_65, List.forall_mem_cons.mpr ⟨jmf_66, List.forall_mem_cons.mpr ⟨jmf_67, List.forall_mem_cons.mpr ⟨jmf_68, List.forall_mem_cons.mpr ⟨jmf_69, List.forall_mem_cons.mpr ⟨jmf_70, List.forall_mem_cons.mpr ⟨jmf_71, List.forall_mem_cons.mpr ⟨jmf_72, List.forall_mem_cons.mpr ⟨jmf_73, List.forall_mem_cons.mpr ⟨jmf_74, List.forall_mem_cons.mpr ⟨jmf_75, List.forall_mem_cons.mpr ⟨jmf_76, List.forall_mem_cons.mpr ⟨jmf_77, List.forall_mem_cons.mpr ⟨jmf_78, List.forall_mem_cons.mpr ⟨jmf_79, fun _ h => absurd h List.not_mem_nil⟩⟩⟩⟩⟩⟩⟩⟩⟩⟩⟩⟩⟩⟩⟩⟩
def jmf_r5 : List (Nat × Nat × Nat × Nat) := [(80, 1, 0, 0), (81, 1, 0, 0), (82, 1, 0, 0), (83, 11, 0, 2), (84, 11, 0, 1), (85, 11, 0, 2), (86, 11, 0, 1), (87, 11, 0, 2), (88, 11, 0, 2), (89, 11, 0, 1), (90, 2, 0, 2), (91, 2, 0, 4), (92, 6, 0, 2), (93, 2, 0, 1), (94, 2, 0, 2), (95, 6, 1, 4)]
set_option maxRecDepth 8000 in
theorem jmf_80 : jmf_F (80, 1, 0, 0) := fun _ => ⟨⟨jat_m2 (k := 4) (l := 209) rfl rfl, jat_m2 (k := 1) (l := 12) rfl rfl, by decide +kernel, by decide +kernel, by decide +kernel⟩, ⟨fun _ => ⟨jat_m2 (k := 4) (l := 207) rfl rfl, jat_m2 (k := 4) (l := 208) rfl rfl, _, rfl, rfl⟩, fun h => absurd h (by decide)⟩⟩
set_option maxRecDepth 8000 in
theorem jmf_81 : jmf_F (81, 1, 0, 0) := fun _ => ⟨⟨jat_m2 (k := 4) (l := 214) rfl rfl, jat_m2 (k := 1) (l := 12) rfl rfl, by decide +kernel, by decide +kernel, by decide +kernel⟩, ⟨fun _ => ⟨jat_m2 (k := 4) (l := 212) rfl rfl, jat_m2 (k := 4) (l := 213) rfl rfl, _, rfl, rfl⟩, fun h => absurd h (by decide)⟩⟩
set_option maxRecDepth 8000 in
theorem jmf_82 : jmf_F (82, 1, 0, 0) := fun _ => ⟨⟨jat_m2 (k := 4) (l := 218) rfl rfl, jat_m2 (k := 1) (l := 12) rfl rfl, by decide +kernel, by decide +kernel, by decide +kernel⟩, ⟨fun _ => ⟨jat_m2 (k := 4) (l := 216) rfl rfl, jat_m2 (k := 4) (l := 217) rfl rfl, _, rfl, rfl⟩, fun h => absurd h (by decide)⟩⟩
set_option maxRecDepth 8000 in
theorem jmf_83 : jmf_F (83, 11, 0, 2) := fun _ => ⟨⟨jat_m2 (k := 4) (l := 222) rfl rfl, jat_m2 (k := 1) (l := 1) rfl rfl, by decide +kernel, by decide +kernel, by decide +kernel⟩, ⟨fun _ => ⟨jat_m2 (k := 4) (l := 220) rfl rfl, jat_m2 (k := 4) (l := 221) rfl rfl, _, rfl, rfl⟩, fun h => absurd h (by decide)⟩⟩
set_option maxRecDepth 8000 in
theorem jmf_84 : jmf_F (84, 11, 0, 1) := fun _ => ⟨⟨jat_m2 (k := 4) (l := 226) rfl rfl, jat_m2 (k := 1) (l := 1) rfl rfl, by decide +kernel, by decide +kernel, by decide +kernel⟩, ⟨fun _ => ⟨jat_m2 (k := 4) (l := 225) rfl rfl, jat_m2 (k := 22) (l := 15) rfl rfl, _, rfl, rfl⟩, fun h => absurd h (by decide)⟩⟩
set_option maxRecDepth 8000 in
theorem jmf_85 : jmf_F (85, 11, 0, 2) := fun _ => ⟨⟨jat_m2 (k := 4) (l := 230) rfl rfl, jat_m2 (k := 1) (l := 1) rfl rfl, by decide +kernel, by decide +kernel, by decide +kernel⟩, ⟨fun _ => ⟨jat_m2 (k := 4) (l := 228) rfl rfl, jat_m2 (k := 4) (l := 229) rfl rfl, _, rfl, rfl⟩, fun h => absurd h (by decide)⟩⟩
set_option maxRecDepth 8000 in
theorem jmf_86 : jmf_F (86, 11, 0, 1) := fun _ => ⟨⟨jat_m2 (k := 4) (l := 234) rfl rfl, jat_m2 (k := 1) (l := 1) rfl rfl, by decide +kernel, by decide +kernel, by decide +kernel⟩, ⟨fun _ => ⟨jat_m2 (k := 4) (l := 233) rfl rfl, jat_m2 (k := 23) (l := 0) rfl rfl, _, rfl, rfl⟩, fun h => absurd h (by decide)⟩⟩
set_option maxRecDepth 8000 in
theorem jmf_87 : jmf_F (87, 11, 0, 2) := fun _ => ⟨⟨jat_m2 (k := 4) (l := 238) rfl rfl, jat_m2 (k := 1) (l := 1) rfl rfl, by decide +kernel, by decide +kernel, by decide +kernel⟩, ⟨fun _ => ⟨jat_m2 (k := 4) (l := 236) rfl rfl, jat_m2 (k := 4) (l := 237) rfl rfl, _, rfl, rfl⟩, fun h => absurd h (by decide)⟩⟩
set_option maxRecDepth 8000 in
theorem jmf_88 : jmf_F (88, 11, 0, 2) := fun _ => ⟨⟨jat_m2 (k := 5) (l := 3) rfl rfl, jat_m2 (k := 1) (l := 1) rfl rfl, by decide +kernel, by decide +kernel, by decide +kernel⟩, ⟨fun _ => ⟨jat_m2 (k := 5) (l := 1) rfl rfl, jat_m2 (k := 5) (l := 2) rfl rfl, _, rfl, rfl⟩, fun h => absurd h (by decide)⟩⟩
set_option maxRecDepth 8000 in
theorem jmf_89 : jmf_F (89, 11, 0, 1) := fun _ => ⟨⟨jat_m2 (k := 5) (l := 7) rfl rfl, jat_m2 (k := 1) (l := 1) rfl rfl, by decide +kernel, by decide +kernel, by decide +kernel⟩, ⟨fun _ => ⟨jat_m2 (k := 5) (l := 6) rfl rfl, jat_m2 (k := 23) (l := 1) rfl rfl, _, rfl, rfl⟩, fun h => absurd h (by decide)⟩⟩
set_option maxRecDepth 8000 in
theorem jmf_90 : jmf_F (90, 2, 0, 2) := fun _ => ⟨⟨jat_m2 (k := 5) (l := 11) rfl rfl, jat_m2 (k := 1) (l := 10) rfl rfl, by decide +kernel, by decide +kernel, by decide +kernel⟩, ⟨fun _ => ⟨jat_m2 (k := 5) (l := 9) rfl rfl, jat_m2 (k := 5) (l := 10) rfl rfl, _, rfl, rfl⟩, fun h => absurd h (by decide)⟩⟩
set_option maxRecDepth 8000 in
theorem jmf_91 : jmf_F (91, 2, 0, 4) := fun _ => ⟨⟨jat_m2 (k := 5) (l := 16) rfl rfl, jat_m2 (k := 1) (l := 10) rfl rfl, by decide +kernel, by decide +kernel, by decide +kernel⟩, ⟨fun _ => ⟨jat_m2 (k := 5) (l := 15) rfl rfl, jat_m2 (k := 23) (l := 2) rfl rfl, _, rfl, rfl⟩, fun h => absurd h (by decide)⟩⟩
set_option maxRecDepth 8000 in
theorem jmf_92 : jmf_F (92, 6, 0, 2) := fun _ => ⟨⟨jat_m2 (k := 5) (l := 20) rfl rfl, jat_m2 (k := 1) (l := 11) rfl rfl, by decide +kernel, by decide +kernel, by decide +kernel⟩, ⟨fun _ => ⟨jat_m2 (k := 5) (l := 18) rfl rfl, jat_m2 (k := 5) (l := 19) rfl rfl, _, rfl, rfl⟩, fun h => absurd h (by decide)⟩⟩
set_option maxRecDepth 8000 in
theorem jmf_93 : jmf_F (93, 2, 0, 1) := fun _ => ⟨⟨jat_m2 (k := 5) (l := 25) rfl rfl, jat_m2 (k := 1) (l := 10) rfl rfl, by decide +kernel, by decide +kernel, by decide +kernel⟩, ⟨fun _ => ⟨jat_m2 (k := 5) (l := 24) rfl rfl, jat_m2 (k := 23) (l := 3) rfl rfl, _, rfl, rfl⟩, fun h => absurd h (by decide)⟩⟩
set_option maxRecDepth 8000 in
theorem jmf_94 : jmf_F (94, 2, 0, 2) := fun _ => ⟨⟨jat_m2 (k := 5) (l := 29) rfl rfl, jat_m2 (k := 1) (l := 10) rfl rfl, by decide +kernel, by decide +kernel, by decide +kernel⟩, ⟨fun _ => ⟨jat_m2 (k := 5) (l := 28) rfl rfl, jat_m2 (k := 23) (l := 4) rfl rfl, _, rfl, rfl⟩, fun h => absurd h (by decide)⟩⟩
set_option maxRecDepth 8000 in
theorem jmf_95 : jmf_F (95, 6, 1, 4) := fun _ => ⟨⟨jat_m2 (k := 5) (l := 32) rfl rfl, jat_m2 (k := 1) (l := 11) rfl rfl, by decide +kernel, by decide +kernel, by decide +kernel⟩, ⟨fun h => absurd h (by decide), fun _ => jat_m2 (k := 5) (l := 31) rfl rfl⟩⟩
theorem jmf_o5 : ∀ e ∈ jmf_r5, jmf_F e := List.forall_mem_cons.mpr ⟨jmf_80, List.forall_mem_cons.mpr ⟨jmf_81, List.forall_mem_cons.mpr ⟨jmf_82, List.forall_mem_cons.mpr ⟨jmf_83, List.forall_mem_cons.mpr ⟨jmf_84, List.forall_mem_cons.mpr ⟨jmf_85, List.forall_mem_cons.mpr ⟨jmf_86, List.forall_mem_cons.mpr ⟨jmf_87, List.forall_mem_cons.mpr ⟨jmf_88, List.forall_mem_cons.mpr ⟨jmf_89, List.forall_mem_cons.mpr ⟨jmf_90, List.forall_mem_cons.mpr ⟨jmf_91, List.forall_mem_cons.mpr ⟨jmf_92, List.forall_mem_cons.mpr ⟨jmf_93, List.forall_mem_cons.mpr ⟨jmf_94, List.forall_mem_cons.mpr ⟨jmf_95, fun _ h => absurd h List.not_mem_nil⟩⟩⟩⟩⟩⟩⟩⟩⟩⟩⟩⟩⟩⟩⟩⟩
def jmf_r6 : List (Nat × Nat × Nat × Nat) := [(96, 99, 1, 2), (97, 99, 1, 2), (98, 99, 1, 2), (99, 2, 0, 1), (100, 11, 0, 4), (101, 11, 1, 1), (102, 11, 0, 2), (103, 11, 0, 4), (104, 11, 0, 5), (105, 11, 1, 3), (106, 11, 1, 2), (107, 8, 0, 5), (108, 11, 0, 4), (109, 11, 0, 1), (110, 1, 0, 5), (111, 11, 0, 2)]
set_option maxRecDepth 8000 in
theorem jmf_96 : jmf_F (96, 99, 1, 2) := fun _ => ⟨⟨jat_m2 (k := 5) (l := 35) rfl rfl, jat_m2 (k := 1) (l := 18) rfl rfl, by decide +kernel, by decide +kernel, by decide +kernel⟩, ⟨fun h => absurd h (by decide), fun _ => jat_m2 (k := 5) (l := 34) rfl rfl⟩⟩
set_option maxRecDepth 8000 in
theorem jmf_97 : jmf_F (97, 99, 1, 2) := fun _ => ⟨⟨jat_m2 (k := 5) (l := 38) rfl rfl, jat_m2 (k := 1) (l := 24) rfl rfl, by decide +kernel, by decide +kernel, by decide +kernel⟩, ⟨fun h => absurd h (by decide), fun _ => jat_m2 (k := 5) (l := 37) rfl rfl⟩⟩
set_option maxRecDepth 8000 in
theorem jmf_98 : jmf_F (98, 99, 1, 2) := fun _ => ⟨⟨jat_m2 (k := 5) (l := 41) rfl rfl, jat_m2 (k := 1) (l := 18) rfl rfl, by decide +kernel, by decide +kernel, by decide +kernel⟩, ⟨fun h => absurd h (by decide), fun _ => jat_m2 (k := 5) (l := 40) rfl rfl⟩⟩
set_option maxRecDepth 8000 in
theorem jmf_99 : jmf_F (99, 2, 0, 1) := fun _ => ⟨⟨jat_m2 (k := 5) (l := 45) rfl rfl, jat_m2 (k := 1) (l := 10) rfl rfl, by decide +kernel, by decide +kernel, by decide +kernel⟩, ⟨fun _ => ⟨jat_m2 (k := 5) (l := 44) rfl rfl, jat_m2 (k := 23) (l := 5) rfl rfl, _, rfl, rfl⟩, fun h => absurd h (by decide)⟩⟩
set_option maxRecDepth 8000 in
theorem jmf_100 : jmf_F (100, 11, 0, 4) := fun _ => ⟨⟨jat_m2 (k := 5) (l := 49) rfl rfl, jat_m2 (k := 1) (l := 1) rfl rfl, by decide +kernel, by decide +kernel, by decide +kernel⟩, ⟨fun _ => ⟨jat_m2 (k := 5) (l := 47) rfl rfl, jat_m2 (k := 5) (l := 48) rfl rfl, _, rfl, rfl⟩, fun h => absurd h (by decide)⟩⟩
set_option maxRecDepth 8000 in
theorem jmf_101 : jmf_F (101, 11, 1, 1) := fun _ => ⟨⟨jat_m2 (k := 5) (l := 52) rfl rfl, jat_m2 (k := 1) (l := 1) rfl rfl, by decide +kernel, by decide +kernel, by decide +kernel⟩, ⟨fun h => absurd h (by decide), fun _ => jat_m2 (k := 5) (l := 51) rfl rfl⟩⟩
set_option maxRecDepth 8000 in
theorem jmf_102 : jmf_F (102, 11, 0, 2) := fun _ => ⟨⟨jat_m2 (k := 5) (l := 57) rfl rfl, jat_m2 (k := 1) (l := 1) rfl rfl, by decide +kernel, by decide +kernel, by decide +kernel⟩, ⟨fun _ => ⟨jat_m2 (k := 5) (l := 56) rfl rfl, jat_m2 (k := 23) (l := 6) rfl rfl, _, rfl, rfl⟩, fun h => absurd h (by decide)⟩⟩
set_option maxRecDepth 8000 in
theorem jmf_103 : jmf_F (103, 11, 0, 4) := fun _ => ⟨⟨jat_m2 (k := 5) (l := 61) rfl rfl, jat_m2 (k := 1) (l := 1) rfl rfl, by decide +kernel, by decide +kernel, by decide +kernel⟩, ⟨fun _ => ⟨jat_m2 (k := 5) (l := 59) rfl rfl, jat_m2 (k := 5) (l := 60) rfl rfl, _, rfl, rfl⟩, fun h => absurd h (by decide)⟩⟩
set_option maxRecDepth 8000 in
theorem jmf_104 : jmf_F (104, 11, 0, 5) := fun _ => ⟨⟨jat_m2 (k := 5) (l := 66) rfl rfl, jat_m2 (k := 1) (l := 1) rfl rfl, by decide +kernel, by decide +kernel, by decide +kernel⟩, ⟨fun _ => ⟨jat_m2 (k := 5) (l := 64) rfl rfl, jat_m2 (k := 5) (l := 65) rfl rfl, _, rfl, rfl⟩, fun h => absurd h (by decide)⟩⟩
set_option maxRecDepth 8000 in
theorem jmf_105 : jmf_F (105, 11, 1, 3) := fun _ => ⟨⟨jat_m2 (k := 5) (l := 69) rfl rfl, jat_m2 (k := 1) (l := 1) rfl rfl, by decide +kernel, by decide +kernel, by decide +kernel⟩, ⟨fun h => absurd h (by decide), fun _ => jat_m2 (k := 5) (l := 68) rfl rfl⟩⟩
set_option maxRecDepth 8000 in
theorem jmf_106 : jmf_F (106, 11, 1, 2) := fun _ => ⟨⟨jat_m2 (k := 5) (l := 72) rfl rfl, jat_m2 (k := 1) (l := 1) rfl rfl, by decide +kernel, by decide +kernel, by decide +kernel⟩, ⟨fun h => absurd h (by decide), fun _ => jat_m2 (k := 5) (l := 71) rfl rfl⟩⟩
set_option maxRecDepth 8000 in
theorem jmf_107 : jmf_F (107, 8, 0, 5) := fun _ => ⟨⟨jat_m2 (k := 5) (l := 76) rfl rfl, jat_m2 (k := 1) (l := 14) rfl rfl, by decide +kernel, by decide +kernel, by decide +kernel⟩, ⟨fun _ => ⟨jat_m2 (k := 5) (l := 74) rfl rfl, jat_m2 (k := 5) (l := 75) rfl rfl, _, rfl, rfl⟩, fun h => absurd h (by decide)⟩⟩
set_option maxRecDepth 8000 in
theorem jmf_108 : jmf_F (108, 11, 0, 4) := fun _ => ⟨⟨jat_m2 (k := 5) (l := 80) rfl rfl, jat_m2 (k := 1) (l := 1) rfl rfl, by decide +kernel, by decide +kernel, by decide +kernel⟩, ⟨fun _ => ⟨jat_m2 (k := 5) (l := 78) rfl rfl, jat_m2 (k := 5) (l := 79) rfl rfl, _, rfl, rfl⟩, fun h => absurd h (by decide)⟩⟩
set_option maxRecDepth 8000 in
theorem jmf_109 : jmf_F (109, 11, 0, 1) := fun _ => ⟨⟨jat_m2 (k := 5) (l := 84) rfl rfl, jat_m2 (k := 1) (l := 1) rfl rfl, by decide +kernel, by decide +kernel, by decide +kernel⟩, ⟨fun _ => ⟨jat_m2 (k := 5) (l := 83) rfl rfl, jat_m2 (k := 23) (l := 7) rfl rfl, _, rfl, rfl⟩, fun h => absurd h (by decide)⟩⟩
set_option maxRecDepth 8000 in
theorem jmf_110 : jmf_F (110, 1, 0, 5) := fun _ => ⟨⟨jat_m2 (k := 5) (l := 88) rfl rfl, jat_m2 (k := 1) (l := 12) rfl rfl, by decide +kernel, by decide +kernel, by decide +kernel⟩, ⟨fun _ => ⟨jat_m2 (k := 5) (l := 86) rfl rfl, jat_m2 (k := 5) (l := 87) rfl rfl, _, rfl, rfl⟩, fun h => absurd h (by decide)⟩⟩
set_option maxRecDepth 8000 in
theorem jmf_111 : jmf_F (111, 11, 0, 2) := fun _ => ⟨⟨jat_m2 (k := 5) (l := 93) rfl rfl, jat_m2 (k := 1) (l := 1) rfl rfl, by decide +kernel, by decide +kernel, by decide +kernel⟩, ⟨fun _ => ⟨jat_m2 (k := 5) (l := 91) rfl rfl, jat_m2 (k := 5) (l := 92) rfl rfl, _, rfl, rfl⟩, fun h => absurd h (by decide)⟩⟩
theorem jmf_o6 : ∀ e ∈ jmf_r6, jmf_F e := List.forall_mem_cons.mpr ⟨jmf_96, List.forall_mem_cons.mpr ⟨jmf_97, List.forall_mem_cons.mpr ⟨jmf_98, List.forall_mem_cons.mpr ⟨jmf_99, List.forall_mem_cons.mpr ⟨jmf_100, List.forall_mem_cons.mpr ⟨jmf_101, List.forall_mem_cons.mpr ⟨jmf_102, List.forall_mem_cons.mpr ⟨jmf_103, List.forall_mem_cons.mpr ⟨jmf_104, List.forall_mem_cons.mpr ⟨jmf_105, List.forall_mem_cons.mpr ⟨jmf_106, List.forall_mem_cons.mpr ⟨jmf_107, List.forall_mem_cons.mpr ⟨jmf_108, List.forall_mem_cons.mpr ⟨jmf_109, List.forall_mem_cons.mpr ⟨jmf_110, List.forall_mem_cons.mpr ⟨jmf_111, fun _ h => absurd h List.not_mem_nil⟩⟩⟩⟩⟩⟩⟩⟩⟩⟩⟩⟩⟩⟩⟩⟩
def jmf_r7 : List (Nat × Nat × Nat × Nat) := [(112, 11, 0, 4), (113, 11, 1, 3), (114, 11, 0, 1), (115, 11, 0, 1), (116, 10, 0, 2), (117, 10, 0, 2), (118, 2, 0, 2), (119, 10, 0, 2), (120, 6, 0, 0), (121, 10, 0, 2), (122, 10, 0, 1), (123, 10, 0, 2), (124, 10, 0, 3), (125, 2, 0, 2), (126, 2, 0, 4), (127, 2, 0, 2)]
set_option maxRecDepth 8000 in
theorem jmf_112 : jmf_F (112, 11, 0, 4) := fun _ => ⟨⟨jat_m2 (k := 5) (l := 98) rfl rfl, jat_m2 (k := 1) (l := 1) rfl rfl, by decide +kernel, by decide +kernel, by decide +kernel⟩, ⟨fun _ => ⟨jat_m2 (k := 5) (l := 96) rfl rfl, jat_m2 (k := 5) (l := 97) rfl rfl, _, rfl, rfl⟩, fun h => absurd h (by decide)⟩⟩
set_option maxRecDepth 8000 in
theorem jmf_113 : jmf_F (113, 11, 1, 3) := fun _ => ⟨⟨jat_m2 (k := 5) (l := 101) rfl rfl, jat_m2 (k := 1) (l := 1) rfl rfl, by decide +kernel, by decide +kernel, by decide +kernel⟩, ⟨fun h => absurd h (by decide), fun _ => jat_m2 (k := 5) (l := 100) rfl rfl⟩⟩
set_option maxRecDepth 8000 in
theorem jmf_114 : jmf_F (114, 11, 0, 1) := fun _ => ⟨⟨jat_m2 (k := 5) (l := 109) rfl rfl, jat_m2 (k := 1) (l := 1) rfl rfl, by decide +kernel, by decide +kernel, by decide +kernel⟩, ⟨fun _ => ⟨jat_m2 (k := 5) (l := 107) rfl rfl, jat_m2 (k := 5) (l := 108) rfl rfl, _, rfl, rfl⟩, fun h => absurd h (by decide)⟩⟩
set_option maxRecDepth 8000 in
theorem jmf_115 : jmf_F (115, 11, 0, 1) := fun _ => ⟨⟨jat_m2 (k := 5) (l := 113) rfl rfl, jat_m2 (k := 1) (l := 1) rfl rfl, by decide +kernel, by decide +kernel, by decide +kernel⟩, ⟨fun _ => ⟨jat_m2 (k := 5) (l := 112) rfl rfl, jat_m2 (k := 23) (l := 8) rfl rfl, _, rfl, rfl⟩, fun h => absurd h (by decide)⟩⟩
set_option maxRecDepth 8000 in
theorem jmf_116 : jmf_F (116, 10, 0, 2) := fun _ => ⟨⟨jat_m2 (k := 5) (l := 117) rfl rfl, jat_m2 (k := 1) (l := 15) rfl rfl, by decide +kernel, by decide +kernel, by decide +kernel⟩, ⟨fun _ => ⟨jat_m2 (k := 5) (l := 115) rfl rfl, jat_m2 (k := 5) (l := 116) rfl rfl, _, rfl, rfl⟩, fun h => absurd h (by decide)⟩⟩
set_option maxRecDepth 8000 in
theorem jmf_117 : jmf_F (117, 10, 0, 2) := fun _ => ⟨⟨jat_m2 (k := 5) (l := 122) rfl rfl, jat_m2 (k := 1) (l := 15) rfl rfl, by decide +kernel, by decide +kernel, by decide +kernel⟩, ⟨fun _ => ⟨jat_m2 (k := 5) (l := 121) rfl rfl, jat_m2 (k := 23) (l := 9) rfl rfl, _, rfl, rfl⟩, fun h => absurd h (by decide)⟩⟩
set_option maxRecDepth 8000 in
theorem jmf_118 : jmf_F (118, 2, 0, 2) := fun _ => ⟨⟨jat_m2 (k := 5) (l := 129) rfl rfl, jat_m2 (k := 1) (l := 10) rfl rfl, by decide +kernel, by decide +kernel, by decide +kernel⟩, ⟨fun _ => ⟨jat_m2 (k := 5) (l := 127) rfl rfl, jat_m2 (k := 5) (l := 128) rfl rfl, _, rfl, rfl⟩, fun h => absurd h (by decide)⟩⟩
set_option maxRecDepth 8000 in
theorem jmf_119 : jmf_F (119, 10, 0, 2) := fun _ => ⟨⟨jat_m2 (k := 5) (l := 133) rfl rfl, jat_m2 (k := 1) (l := 15) rfl rfl, by decide +kernel, by decide +kernel, by decide +kernel⟩, ⟨fun _ => ⟨jat_m2 (k := 5) (l := 132) rfl rfl, jat_m2 (k := 23) (l := 10) rfl rfl, _, rfl, rfl⟩, fun h => absurd h (by decide)⟩⟩
set_option maxRecDepth 8000 in
theorem jmf_120 : jmf_F (120, 6, 0, 0) := fun _ => ⟨⟨jat_m2 (k := 5) (l := 137) rfl rfl, jat_m2 (k := 1) (l := 11) rfl rfl, by decide +kernel, by decide +kernel, by decide +kernel⟩, ⟨fun _ => ⟨jat_m2 (k := 5) (l := 135) rfl rfl, jat_m2 (k := 5) (l := 136) rfl rfl, _, rfl, rfl⟩, fun h => absurd h (by decide)⟩⟩
set_option maxRecDepth 8000 in
theorem jmf_121 : jmf_F (121, 10, 0, 2) := fun _ => ⟨⟨jat_m2 (k := 5) (l := 142) rfl rfl, jat_m2 (k := 1) (l := 15) rfl rfl, by decide +kernel, by decide +kernel, by decide +kernel⟩, ⟨fun _ => ⟨jat_m2 (k := 5) (l := 141) rfl rfl, jat_m2 (k := 23) (l := 11) rfl rfl, _, rfl, rfl⟩, fun h => absurd h (by decide)⟩⟩
set_option maxRecDepth 8000 in
theorem jmf_122 : jmf_F (122, 10, 0, 1) := fun _ => ⟨⟨jat_m2 (k := 5) (l := 148) rfl rfl, jat_m2 (k := 1) (l := 15) rfl rfl, by decide +kernel, by decide +kernel, by decide +kernel⟩, ⟨fun _ => ⟨jat_m2 (k := 5) (l := 147) rfl rfl, jat_m2 (k := 23) (l := 12) rfl rfl, _, rfl, rfl⟩, fun h => absurd h (by decide)⟩⟩
set_option maxRecDepth 8000 in
theorem jmf_123 : jmf_F (123, 10, 0, 2) := fun _ => ⟨⟨jat_m2 (k := 5) (l := 152) rfl rfl, jat_m2 (k := 1) (l := 15) rfl rfl, by decide +kernel, by decide +kernel, by decide +kernel⟩, ⟨fun _ => ⟨jat_m2 (k := 5) (l := 151) rfl rfl, jat_m2 (k := 23) (l := 13) rfl rfl, _, rfl, rfl⟩, fun h => absurd h (by decide)⟩⟩
set_option maxRecDepth 8000 in
theorem jmf_124 : jmf_F (124, 10, 0, 3) := fun _ => ⟨⟨jat_m2 (k := 5) (l := 156) rfl rfl, jat_m2 (k := 1) (l := 15) rfl rfl, by decide +kernel, by decide +kernel, by decide +kernel⟩, ⟨fun _ => ⟨jat_m2 (k := 5) (l := 155) rfl rfl, jat_m2 (k := 23) (l := 14) rfl rfl, _, rfl, rfl⟩, fun h => absurd h (by decide)⟩⟩
set_option maxRecDepth 8000 in
theorem jmf_125 : jmf_F (125, 2, 0, 2) := fun _ => ⟨⟨jat_m2 (k := 5) (l := 160) rfl rfl, jat_m2 (k := 1) (l := 10) rfl rfl, by decide +kernel, by decide +kernel, by decide +kernel⟩, ⟨fun _ => ⟨jat_m2 (k := 5) (l := 158) rfl rfl, jat_m2 (k := 5) (l := 159) rfl rfl, _, rfl, rfl⟩, fun h => absurd h (by decide)⟩⟩
set_option maxRecDepth 8000 in
theorem jmf_126 : jmf_F (126, 2, 0, 4) := fun _ => ⟨⟨jat_m2 (k := 5) (l := 164) rfl rfl, jat_m2 (k := 1) (l := 10) rfl rfl, by decide +kernel, by decide +kernel, by decide +kernel⟩, ⟨fun _ => ⟨jat_m2 (k := 5) (l := 163) rfl rfl, jat_m2 (k := 23) (l := 15) rfl rfl, _, rfl, rfl⟩, fun h => absurd h (by decide)⟩⟩
set_option maxRecDepth 8000 in
theorem jmf_127 : jmf_F (127, 2, 0, 2) := fun _ => ⟨⟨jat_m2 (k := 5) (l := 168) rfl rfl, jat_m2 (k := 1) (l := 10) rfl rfl, by decide +kernel, by decide +kernel, by decide +kernel⟩, ⟨fun _ => ⟨jat_m2 (k := 5) (l := 166) rfl rfl, jat_m2 (k := 5) (l := 167) rfl rfl, _, rfl, rfl⟩, fun h => absurd h (by decide)⟩⟩
theorem jmf_o7 : ∀ e ∈ jmf_r7, jmf_F e := List.forall_mem_cons.mpr ⟨jmf_112, List.forall_mem_cons.mpr ⟨jmf_113, List.forall_mem_cons.mpr ⟨jmf_114, List.forall_mem_cons.mpr ⟨jmf_115, List.forall_mem_cons.mpr ⟨jmf_116, List.forall_mem_cons.mpr ⟨jmf_117, List.forall_mem_cons.mpr ⟨jmf_118, List.forall_mem_cons.mpr ⟨jmf_119, List.forall_mem_cons.mpr ⟨jmf_120, List.forall_mem_cons.mpr ⟨jmf_121, List.forall_mem_cons.mpr ⟨jmf_122, List.forall_mem_cons.mpr ⟨jmf_123, List.forall_mem_cons.mpr ⟨jmf_124, List.forall_mem_cons.mpr ⟨jmf_125, List.forall_mem_cons.mpr ⟨jmf_126, List.forall_mem_cons.mpr ⟨jmf_127, fun _ h => absurd h List.not_mem_nil⟩⟩⟩⟩⟩⟩⟩⟩⟩⟩⟩⟩⟩⟩⟩⟩
def jmf_r8 : List (Nat × Nat × Nat × Nat) := [(128, 11, 0, 3), (129, 11, 0, 2), (130, 10, 0, 0), (131, 11, 0, 5), (132, 9, 0, 4), (133, 9, 0, 3), (134, 9, 0, 2), (135, 9, 0, 2), (136, 9, 0, 2), (137, 9, 0, 1), (138, 9, 0, 3), (139, 9, 0, 1), (140, 9, 0, 3), (141, 9, 0, 4), (142, 11, 0, 2), (143, 11, 0, 0)]
set_option maxRecDepth 8000 in
theorem jmf_128 : jmf_F (128, 11, 0, 3) := fun _ => ⟨⟨jat_m2 (k := 5) (l := 172) rfl rfl, jat_m2 (k := 1) (l := 1) rfl rfl, by decide +kernel, by decide +kernel, by decide +kernel⟩, ⟨fun _ => ⟨jat_m2 (k := 5) (l := 170) rfl rfl, jat_m2 (k := 5) (l := 171) rfl rfl, _, rfl, rfl⟩, fun h => absurd h (by decide)⟩⟩
set_option maxRecDepth 8000 in
theorem jmf_129 : jmf_F (129, 11, 0, 2) := fun _ => ⟨⟨jat_m2 (k := 5) (l := 176) rfl rfl, jat_m2 (k := 1) (l := 1) rfl rfl, by decide +kernel, by decide +kernel, by decide +kernel⟩, ⟨fun _ => ⟨jat_m2 (k := 5) (l := 174) rfl rfl, jat_m2 (k := 5) (l := 175) rfl rfl, _, rfl, rfl⟩, fun h => absurd h (by decide)⟩⟩
set_option maxRecDepth 8000 in
theorem jmf_130 : jmf_F (130, 10, 0, 0) := fun _ => ⟨⟨jat_m2 (k := 5) (l := 181) rfl rfl, jat_m2 (k := 1) (l := 15) rfl rfl, by decide +kernel, by decide +kernel, by decide +kernel⟩, ⟨fun _ => ⟨jat_m2 (k := 5) (l := 179) rfl rfl, jat_m2 (k := 5) (l := 180) rfl rfl, _, rfl, rfl⟩, fun h => absurd h (by decide)⟩⟩
set_option maxRecDepth 8000 in
theorem jmf_131 : jmf_F (131, 11, 0, 5) := fun _ => ⟨⟨jat_m2 (k := 5) (l := 188) rfl rfl, jat_m2 (k := 1) (l := 1) rfl rfl, by decide +kernel, by decide +kernel, by decide +kernel⟩, ⟨fun _ => ⟨jat_m2 (k := 5) (l := 186) rfl rfl, jat_m2 (k := 5) (l := 187) rfl rfl, _, rfl, rfl⟩, fun h => absurd h (by decide)⟩⟩
set_option maxRecDepth 8000 in
theorem jmf_132 : jmf_F (132, 9, 0, 4) := fun _ => ⟨⟨jat_m2 (k := 5) (l := 192) rfl rfl, jat_m2 (k := 1) (l := 16) rfl rfl, by decide +kernel, by decide +kernel, by decide +kernel⟩, ⟨fun _ => ⟨jat_m2 (k := 5) (l := 190) rfl rfl, jat_m2 (k := 5) (l := 191) rfl rfl, _, rfl, rfl⟩, fun h => absurd h (by decide)⟩⟩
set_option maxRecDepth 8000 in
theorem jmf_133 : jmf_F (133, 9, 0, 3) := fun _ => ⟨⟨jat_m2 (k := 5) (l := 198) rfl rfl, jat_m2 (k := 1) (l := 16) rfl rfl, by decide +kernel, by decide +kernel, by decide +kernel⟩, ⟨fun _ => ⟨jat_m2 (k := 5) (l := 196) rfl rfl, jat_m2 (k := 5) (l := 197) rfl rfl, _, rfl, rfl⟩, fun h => absurd h (by decide)⟩⟩
set_option maxRecDepth 8000 in
theorem jmf_134 : jmf_F (134, 9, 0, 2) := fun _ => ⟨⟨jat_m2 (k := 5) (l := 203) rfl rfl, jat_m2 (k := 1) (l := 16) rfl rfl, by decide +kernel, by decide +kernel, by decide +kernel⟩, ⟨fun _ => ⟨jat_m2 (k := 5) (l := 202) rfl rfl, jat_m2 (k := 24) (l := 0) rfl rfl, _, rfl, rfl⟩, fun h => absurd h (by decide)⟩⟩
set_option maxRecDepth 8000 in
theorem jmf_135 : jmf_F (135, 9, 0, 2) := fun _ => ⟨⟨jat_m2 (k := 5) (l := 207) rfl rfl, jat_m2 (k := 1) (l := 16) rfl rfl, by decide +kernel, by decide +kernel, by decide +kernel⟩, ⟨fun _ => ⟨jat_m2 (k := 5) (l := 206) rfl rfl, jat_m2 (k := 24) (l := 1) rfl rfl, _, rfl, rfl⟩, fun h => absurd h (by decide)⟩⟩
set_option maxRecDepth 8000 in
theorem jmf_136 : jmf_F (136, 9, 0, 2) := fun _ => ⟨⟨jat_m2 (k := 5) (l := 211) rfl rfl, jat_m2 (k := 1) (l := 16) rfl rfl, by decide +kernel, by decide +kernel, by decide +kernel⟩, ⟨fun _ => ⟨jat_m2 (k := 5) (l := 210) rfl rfl, jat_m2 (k := 24) (l := 2) rfl rfl, _, rfl, rfl⟩, fun h => absurd h (by decide)⟩⟩
set_option maxRecDepth 8000 in
theorem jmf_137 : jmf_F (137, 9, 0, 1) := fun _ => ⟨⟨jat_m2 (k := 5) (l := 215) rfl rfl, jat_m2 (k := 1) (l := 16) rfl rfl, by decide +kernel, by decide +kernel, by decide +kernel⟩, ⟨fun _ => ⟨jat_m2 (k := 5) (l := 214) rfl rfl, jat_m2 (k := 24) (l := 3) rfl rfl, _, rfl, rfl⟩, fun h => absurd h (by decide)⟩⟩
set_option maxRecDepth 8000 in
theorem jmf_138 : jmf_F (138, 9, 0, 3) := fun _ => ⟨⟨jat_m2 (k := 5) (l := 219) rfl rfl, jat_m2 (k := 1) (l := 16) rfl rfl, by decide +kernel, by decide +kernel, by decide +kernel⟩, ⟨fun _ => ⟨jat_m2 (k := 5) (l := 218) rfl rfl, jat_m2 (k := 24) (l := 4) rfl rfl, _, rfl, rfl⟩, fun h => absurd h (by decide)⟩⟩
set_option maxRecDepth 8000 in
theorem jmf_139 : jmf_F (139, 9, 0, 1) := fun _ => ⟨⟨jat_m2 (k := 5) (l := 223) rfl rfl, jat_m2 (k := 1) (l := 16) rfl rfl, by decide +kernel, by decide +kernel, by decide +kernel⟩, ⟨fun _ => ⟨jat_m2 (k := 5) (l := 222) rfl rfl, jat_m2 (k := 24) (l := 5) rfl rfl, _, rfl, rfl⟩, fun h => absurd h (by decide)⟩⟩
set_option maxRecDepth 8000 in
theorem jmf_140 : jmf_F (140, 9, 0, 3) := fun _ => ⟨⟨jat_m2 (k := 5) (l := 229) rfl rfl, jat_m2 (k := 1) (l := 16) rfl rfl, by decide +kernel, by decide +kernel, by decide +kernel⟩, ⟨fun _ => ⟨jat_m2 (k := 5) (l := 228) rfl rfl, jat_m2 (k := 24) (l := 6) rfl rfl, _, rfl, rfl⟩, fun h => absurd h (by decide)⟩⟩
set_option maxRecDepth 8000 in
theorem jmf_141 : jmf_F (141, 9, 0, 4) := fun _ => ⟨⟨jat_m2 (k := 5) (l := 234) rfl rfl, jat_m2 (k := 1) (l := 16) rfl rfl, by decide +kernel, by decide +kernel, by decide +kernel⟩, ⟨fun _ => ⟨jat_m2 (k := 5) (l := 233) rfl rfl, jat_m2 (k := 24) (l := 7) rfl rfl, _, rfl, rfl⟩, fun h => absurd h (by decide)⟩⟩
set_option maxRecDepth 8000 in
theorem jmf_142 : jmf_F (142, 11, 0, 2) := fun _ => ⟨⟨jat_m2 (k := 5) (l := 238) rfl rfl, jat_m2 (k := 1) (l := 1) rfl rfl, by decide +kernel, by decide +kernel, by decide +kernel⟩, ⟨fun _ => ⟨jat_m2 (k := 5) (l := 236) rfl rfl, jat_m2 (k := 5) (l := 237) rfl rfl, _, rfl, rfl⟩, fun h => absurd h (by decide)⟩⟩
set_option maxRecDepth 8000 in
theorem jmf_143 : jmf_F (143, 11, 0, 0) := fun _ => ⟨⟨jat_m2 (k := 6) (l := 2) rfl rfl, jat_m2 (k := 1) (l := 1) rfl rfl, by decide +kernel, by decide +kernel, by decide +kernel⟩, ⟨fun _ => ⟨jat_m2 (k := 6) (l := 0) rfl rfl, jat_m2 (k := 6) (l := 1) rfl rfl, _, rfl, rfl⟩, fun h => absurd h (by decide)⟩⟩
theorem jmf_o8 : ∀ e ∈ jmf_r8, jmf_F e := List.forall_mem_cons.mpr ⟨jmf_128, List.forall_mem_cons.mpr ⟨jmf_129, List.forall_mem_cons.mpr ⟨jmf_130, List.forall_mem_cons.mpr ⟨jmf_131, List.forall_mem_cons.mpr ⟨jmf_132, List.forall_mem_cons.mpr ⟨jmf_133, List.forall_mem_cons.mpr ⟨jmf_134, List.forall_mem_cons.mpr ⟨jmf_135, List.forall_mem_cons.mpr ⟨jmf_136, List.forall_mem_cons.mpr ⟨jmf_137, List.forall_mem_cons.mpr ⟨jmf_138, List.forall_mem_cons.mpr ⟨jmf_139, List.forall_mem_cons.mpr ⟨jmf_140, List.forall_mem_cons.mpr ⟨jmf_141, List.forall_mem_cons.mpr ⟨jmf_142, List.forall_mem_cons.mpr ⟨jmf_143, fun _ h => absurd h List.not_mem_nil⟩⟩⟩⟩⟩⟩⟩⟩⟩⟩⟩⟩⟩⟩⟩⟩
def jmf_r9 : List (Nat × Nat × Nat × Nat) := [(144, 11, 0, 0), (145, 11, 0, 6), (146, 11, 1, 2), (147, 11, 1, 2), (148, 11, 0, 2), (149, 11, 0, 3), (150, 11, 0, 3), (151, 11, 0, 1), (152, 11, 0, 1), (153, 11, 0, 2), (154, 3, 0, 1), (155, 12, 2, 0), (156, 12, 0, 1), (157, 12, 0, 3), (158, 12, 1, 2), (159, 12, 1, 3)]
set_option maxRecDepth 8000 in
theorem jmf_144 : jmf_F (144, 11, 0, 0) := fun _ => ⟨⟨jat_m2 (k := 6) (l := 6) rfl rfl, jat_m2 (k := 1) (l := 1) rfl rfl, by decide +kernel, by decide +kernel, by decide +kernel⟩, ⟨fun _ => ⟨jat_m2 (k := 6) (l := 4) rfl rfl, jat_m2 (k := 6) (l := 5) rfl rfl, _, rfl, rfl⟩, fun h => absurd h (by decide)⟩⟩
set_option maxRecDepth 8000 in
theorem jmf_145 : jmf_F (145, 11, 0, 6) := fun _ => ⟨⟨jat_m2 (k := 6) (l := 10) rfl rfl, jat_m2 (k := 1) (l := 1) rfl rfl, by decide +kernel, by decide +kernel, by decide +kernel⟩, ⟨fun _ => ⟨jat_m2 (k := 6) (l := 8) rfl rfl, jat_m2 (k := 6) (l := 9) rfl rfl, _, rfl, rfl⟩, fun h => absurd h (by decide)⟩⟩
set_option maxRecDepth 8000 in
theorem jmf_146 : jmf_F (146, 11, 1, 2) := fun _ => ⟨⟨jat_m2 (k := 6) (l := 13) rfl rfl, jat_m2 (k := 1) (l := 1) rfl rfl, by decide +kernel, by decide +kernel, by decide +kernel⟩, ⟨fun h => absurd h (by decide), fun _ => jat_m2 (k := 6) (l := 12) rfl rfl⟩⟩
set_option maxRecDepth 8000 in
theorem jmf_147 : jmf_F (147, 11, 1, 2) := fun _ => ⟨⟨jat_m2 (k := 6) (l := 16) rfl rfl, jat_m2 (k := 1) (l := 1) rfl rfl, by decide +kernel, by decide +kernel, by decide +kernel⟩, ⟨fun h => absurd h (by decide), fun _ => jat_m2 (k := 6) (l := 15) rfl rfl⟩⟩
set_option maxRecDepth 8000 in
theorem jmf_148 : jmf_F (148, 11, 0, 2) := fun _ => ⟨⟨jat_m2 (k := 6) (l := 20) rfl rfl, jat_m2 (k := 1) (l := 1) rfl rfl, by decide +kernel, by decide +kernel, by decide +kernel⟩, ⟨fun _ => ⟨jat_m2 (k := 6) (l := 19) rfl rfl, jat_m2 (k := 24) (l := 8) rfl rfl, _, rfl, rfl⟩, fun h => absurd h (by decide)⟩⟩
set_option maxRecDepth 8000 in
theorem jmf_149 : jmf_F (149, 11, 0, 3) := fun _ => ⟨⟨jat_m2 (k := 6) (l := 24) rfl rfl, jat_m2 (k := 1) (l := 1) rfl rfl, by decide +kernel, by decide +kernel, by decide +kernel⟩, ⟨fun _ => ⟨jat_m2 (k := 6) (l := 22) rfl rfl, jat_m2 (k := 6) (l := 23) rfl rfl, _, rfl, rfl⟩, fun h => absurd h (by decide)⟩⟩
set_option maxRecDepth 8000 in
theorem jmf_150 : jmf_F (150, 11, 0, 3) := fun _ => ⟨⟨jat_m2 (k := 6) (l := 28) rfl rfl, jat_m2 (k := 1) (l := 1) rfl rfl, by decide +kernel, by decide +kernel, by decide +kernel⟩, ⟨fun _ => ⟨jat_m2 (k := 6) (l := 26) rfl rfl, jat_m2 (k := 6) (l := 27) rfl rfl, _, rfl, rfl⟩, fun h => absurd h (by decide)⟩⟩
set_option maxRecDepth 8000 in
theorem jmf_151 : jmf_F (151, 11, 0, 1) := fun _ => ⟨⟨jat_m2 (k := 6) (l := 32) rfl rfl, jat_m2 (k := 1) (l := 1) rfl rfl, by decide +kernel, by decide +kernel, by decide +kernel⟩, ⟨fun _ => ⟨jat_m2 (k := 6) (l := 30) rfl rfl, jat_m2 (k := 6) (l := 31) rfl rfl, _, rfl, rfl⟩, fun h => absurd h (by decide)⟩⟩
set_option maxRecDepth 8000 in
theorem jmf_152 : jmf_F (152, 11, 0, 1) := fun _ => ⟨⟨jat_m2 (k := 6) (l := 36) rfl rfl, jat_m2 (k := 1) (l := 1) rfl rfl, by decide +kernel, by decide +kernel, by decide +kernel⟩, ⟨fun _ => ⟨jat_m2 (k := 6) (l := 34) rfl rfl, jat_m2 (k := 6) (l := 35) rfl rfl, _, rfl, rfl⟩, fun h => absurd h (by decide)⟩⟩
set_option maxRecDepth 8000 in
theorem jmf_153 : jmf_F (153, 11, 0, 2) := fun _ => ⟨⟨jat_m2 (k := 6) (l := 45) rfl rfl, jat_m2 (k := 1) (l := 1) rfl rfl, by decide +kernel, by decide +kernel, by decide +kernel⟩, ⟨fun _ => ⟨jat_m2 (k := 6) (l := 43) rfl rfl, jat_m2 (k := 6) (l := 44) rfl rfl, _, rfl, rfl⟩, fun h => absurd h (by decide)⟩⟩
set_option maxRecDepth 8000 in
theorem jmf_154 : jmf_F (154, 3, 0, 1) := fun _ => ⟨⟨jat_m2 (k := 6) (l := 115) rfl rfl, jat_m2 (k := 1) (l := 2) rfl rfl, by decide +kernel, by decide +kernel, by decide +kernel⟩, ⟨fun _ => ⟨jat_m2 (k := 6) (l := 113) rfl rfl, jat_m2 (k := 6) (l := 114) rfl rfl, _, rfl, rfl⟩, fun h => absurd h (by decide)⟩⟩
set_option maxRecDepth 8000 in
theorem jmf_155 : jmf_F (155, 12, 2, 0) := fun h => absurd h (by decide)
set_option maxRecDepth 8000 in
theorem jmf_156 : jmf_F (156, 12, 0, 1) := fun _ => ⟨⟨jat_m2 (k := 6) (l := 142) rfl rfl, jat_m2 (k := 1) (l := 17) rfl rfl, by decide +kernel, by decide +kernel, by decide +kernel⟩, ⟨fun _ => ⟨jat_m2 (k := 6) (l := 141) rfl rfl, jat_m2 (k := 24) (l := 10) rfl rfl, _, rfl, rfl⟩, fun h => absurd h (by decide)⟩⟩
set_option maxRecDepth 8000 in
theorem jmf_157 : jmf_F (157, 12, 0, 3) := fun _ => ⟨⟨jat_m2 (k := 6) (l := 146) rfl rfl, jat_m2 (k := 1) (l := 17) rfl rfl, by decide +kernel, by decide +kernel, by decide +kernel⟩, ⟨fun _ => ⟨jat_m2 (k := 6) (l := 145) rfl rfl, jat_m2 (k := 24) (l := 11) rfl rfl, _, rfl, rfl⟩, fun h => absurd h (by decide)⟩⟩
set_option maxRecDepth 8000 in
theorem jmf_158 : jmf_F (158, 12, 1, 2) := fun _ => ⟨⟨jat_m2 (k := 6) (l := 149) rfl rfl, jat_m2 (k := 1) (l := 17) rfl rfl, by decide +kernel, by decide +kernel, by decide +kernel⟩, ⟨fun h => absurd h (by decide), fun _ => jat_m2 (k := 6) (l := 148) rfl rfl⟩⟩
set_option maxRecDepth 8000 in
theorem jmf_159 : jmf_F (159, 12, 1, 3) := fun _ => ⟨⟨jat_m2 (k := 6) (l := 152) rfl rfl, jat_m2 (k := 1) (l := 17) rfl rfl, by decide +kernel, by decide +kernel, by decide +kernel⟩, ⟨fun h => absurd h (by decide), fun _ => jat_m2 (k := 6) (l := 151) rfl rfl⟩⟩
theorem jmf_o9 : ∀ e ∈ jmf_r9, jmf_F e := List.forall_mem_cons.mpr ⟨jmf_144, List.forall_mem_cons.mpr ⟨jmf_145, List.forall_mem_cons.mpr ⟨jmf_146, List.forall_mem_cons.mpr ⟨jmf_147, List.forall_mem_cons.mpr ⟨jmf_148, List.forall_mem_cons.mpr ⟨jmf_149, List.forall_mem_cons.mpr ⟨jmf_150, List.forall_mem_cons.mpr ⟨jmf_151, List.forall_mem_cons.mpr ⟨jmf_152, List.forall_mem_cons.mpr ⟨jmf_153, List.forall_mem_cons.mpr ⟨jmf_154, List.forall_mem_cons.mpr ⟨jmf_155, List.forall_mem_cons.mpr ⟨jmf_156, List.forall_mem_cons.mpr ⟨jmf_157, List.forall_mem_cons.mpr ⟨jmf_158, List.forall_mem_cons.mpr ⟨jmf_159, fun _ h => absurd h List.not_mem_nil⟩⟩⟩⟩⟩⟩⟩⟩⟩⟩⟩⟩⟩⟩⟩⟩
def jmf_r10 : List (Nat × Nat × Nat × Nat) := [(160, 12, 0, 2), (161, 12, 0, 0), (162, 12, 0, 0), (163, 12, 1, 1), (164, 12, 0, 0), (165, 12, 1, 1), (166, 12, 0, 0), (167, 12, 0, 1), (168, 12, 0, 1), (169, 12, 0, 0), (170, 12, 0, 0), (171, 12, 0, 0), (172, 12, 0, 2), (173, 12, 0, 3), (174, 12, 0, 1), (175, 12, 0, 2)]
set_option maxRecDepth 8000 in
theorem jmf_160 : jmf_F (160, 12, 0, 2) := fun _ => ⟨⟨jat_m2 (k := 6) (l := 156) rfl rfl, jat_m2 (k := 1) (l := 17) rfl rfl, by decide +kernel, by decide +kernel, by decide +kernel⟩, ⟨fun _ => ⟨jat_m2 (k := 6) (l := 155) rfl rfl, jat_m2 (k := 24) (l := 12) rfl rfl, _, rfl, rfl⟩, fun h => absurd h (by decide)⟩⟩
set_option maxRecDepth 8000 in
theorem jmf_161 : jmf_F (161, 12, 0, 0) := fun _ => ⟨⟨jat_m2 (k := 6) (l := 160) rfl rfl, jat_m2 (k := 1) (l := 17) rfl rfl, by decide +kernel, by decide +kernel, by decide +kernel⟩, ⟨fun _ => ⟨jat_m2 (k := 6) (l := 159) rfl rfl, jat_m2 (k := 24) (l := 13) rfl rfl, _, rfl, rfl⟩, fun h => absurd h (by decide)⟩⟩
set_option maxRecDepth 8000 in
theorem jmf_162 : jmf_F (162, 12, 0, 0) := fun _ => ⟨⟨jat_m2 (k := 6) (l := 164) rfl rfl, jat_m2 (k := 1) (l := 17) rfl rfl, by decide +kernel, by decide +kernel, by decide +kernel⟩, ⟨fun _ => ⟨jat_m2 (k := 6) (l := 163) rfl rfl, jat_m2 (k := 24) (l := 14) rfl rfl, _, rfl, rfl⟩, fun h => absurd h (by decide)⟩⟩
set_option maxRecDepth 8000 in
theorem jmf_163 : jmf_F (163, 12, 1, 1) := fun _ => ⟨⟨jat_m2 (k := 6) (l := 167) rfl rfl, jat_m2 (k := 1) (l := 17) rfl rfl, by decide +kernel, by decide +kernel, by decide +kernel⟩, ⟨fun h => absurd h (by decide), fun _ => jat_m2 (k := 6) (l := 166) rfl rfl⟩⟩
set_option maxRecDepth 8000 in
theorem jmf_164 : jmf_F (164, 12, 0, 0) := fun _ => ⟨⟨jat_m2 (k := 6) (l := 171) rfl rfl, jat_m2 (k := 1) (l := 17) rfl rfl, by decide +kernel, by decide +kernel, by decide +kernel⟩, ⟨fun _ => ⟨jat_m2 (k := 6) (l := 170) rfl rfl, jat_m2 (k := 24) (l := 15) rfl rfl, _, rfl, rfl⟩, fun h => absurd h (by decide)⟩⟩
set_option maxRecDepth 8000 in
theorem jmf_165 : jmf_F (165, 12, 1, 1) := fun _ => ⟨⟨jat_m2 (k := 6) (l := 177) rfl rfl, jat_m2 (k := 1) (l := 17) rfl rfl, by decide +kernel, by decide +kernel, by decide +kernel⟩, ⟨fun h => absurd h (by decide), fun _ => jat_m2 (k := 6) (l := 176) rfl rfl⟩⟩
set_option maxRecDepth 8000 in
theorem jmf_166 : jmf_F (166, 12, 0, 0) := fun _ => ⟨⟨jat_m2 (k := 6) (l := 182) rfl rfl, jat_m2 (k := 1) (l := 17) rfl rfl, by decide +kernel, by decide +kernel, by decide +kernel⟩, ⟨fun _ => ⟨jat_m2 (k := 6) (l := 181) rfl rfl, jat_m2 (k := 25) (l := 0) rfl rfl, _, rfl, rfl⟩, fun h => absurd h (by decide)⟩⟩
set_option maxRecDepth 8000 in
theorem jmf_167 : jmf_F (167, 12, 0, 1) := fun _ => ⟨⟨jat_m2 (k := 6) (l := 186) rfl rfl, jat_m2 (k := 1) (l := 17) rfl rfl, by decide +kernel, by decide +kernel, by decide +kernel⟩, ⟨fun _ => ⟨jat_m2 (k := 6) (l := 185) rfl rfl, jat_m2 (k := 25) (l := 1) rfl rfl, _, rfl, rfl⟩, fun h => absurd h (by decide)⟩⟩
set_option maxRecDepth 8000 in
theorem jmf_168 : jmf_F (168, 12, 0, 1) := fun _ => ⟨⟨jat_m2 (k := 6) (l := 190) rfl rfl, jat_m2 (k := 1) (l := 17) rfl rfl, by decide +kernel, by decide +kernel, by decide +kernel⟩, ⟨fun _ => ⟨jat_m2 (k := 6) (l := 189) rfl rfl, jat_m2 (k := 25) (l := 2) rfl rfl, _, rfl, rfl⟩, fun h => absurd h (by decide)⟩⟩
set_option maxRecDepth 8000 in
theorem jmf_169 : jmf_F (169, 12, 0, 0) := fun _ => ⟨⟨jat_m2 (k := 6) (l := 194) rfl rfl, jat_m2 (k := 1) (l := 17) rfl rfl, by decide +kernel, by decide +kernel, by decide +kernel⟩, ⟨fun _ => ⟨jat_m2 (k := 6) (l := 193) rfl rfl, jat_m2 (k := 25) (l := 3) rfl rfl, _, rfl, rfl⟩, fun h => absurd h (by decide)⟩⟩
set_option maxRecDepth 8000 in
theorem jmf_170 : jmf_F (170, 12, 0, 0) := fun _ => ⟨⟨jat_m2 (k := 6) (l := 198) rfl rfl, jat_m2 (k := 1) (l := 17) rfl rfl, by decide +kernel, by decide +kernel, by decide +kernel⟩, ⟨fun _ => ⟨jat_m2 (k := 6) (l := 197) rfl rfl, jat_m2 (k := 25) (l := 4) rfl rfl, _, rfl, rfl⟩, fun h => absurd h (by decide)⟩⟩
set_option maxRecDepth 8000 in
theorem jmf_171 : jmf_F (171, 12, 0, 0) := fun _ => ⟨⟨jat_m2 (k := 6) (l := 202) rfl rfl, jat_m2 (k := 1) (l := 17) rfl rfl, by decide +kernel, by decide +kernel, by decide +kernel⟩, ⟨fun _ => ⟨jat_m2 (k := 6) (l := 201) rfl rfl, jat_m2 (k := 25) (l := 5) rfl rfl, _, rfl, rfl⟩, fun h => absurd h (by decide)⟩⟩
set_option maxRecDepth 8000 in
theorem jmf_172 : jmf_F (172, 12, 0, 2) := fun _ => ⟨⟨jat_m2 (k := 6) (l := 206) rfl rfl, jat_m2 (k := 1) (l := 17) rfl rfl, by decide +kernel, by decide +kernel, by decide +kernel⟩, ⟨fun _ => ⟨jat_m2 (k := 6) (l := 205) rfl rfl, jat_m2 (k := 25) (l := 6) rfl rfl, _, rfl, rfl⟩, fun h => absurd h (by decide)⟩⟩
set_option maxRecDepth 8000 in
theorem jmf_173 : jmf_F (173, 12, 0, 3) := fun _ => ⟨⟨jat_m2 (k := 6) (l := 210) rfl rfl, jat_m2 (k := 1) (l := 17) rfl rfl, by decide +kernel, by decide +kernel, by decide +kernel⟩, ⟨fun _ => ⟨jat_m2 (k := 6) (l := 209) rfl rfl, jat_m2 (k := 25) (l := 7) rfl rfl, _, rfl, rfl⟩, fun h => absurd h (by decide)⟩⟩
set_option maxRecDepth 8000 in
theorem jmf_174 : jmf_F (174, 12, 0, 1) := fun _ => ⟨⟨jat_m2 (k := 6) (l := 214) rfl rfl, jat_m2 (k := 1) (l := 17) rfl rfl, by decide +kernel, by decide +kernel, by decide +kernel⟩, ⟨fun _ => ⟨jat_m2 (k := 6) (l := 213) rfl rfl, jat_m2 (k := 25) (l := 8) rfl rfl, _, rfl, rfl⟩, fun h => absurd h (by decide)⟩⟩
set_option maxRecDepth 8000 in
theorem jmf_175 : jmf_F (175, 12, 0, 2) := fun _ => ⟨⟨jat_m2 (k := 6) (l := 218) rfl rfl, jat_m2 (k := 1) (l := 17) rfl rfl, by decide +kernel, by decide +kernel, by decide +kernel⟩, ⟨fun _ => ⟨jat_m2 (k := 6) (l := 217) rfl rfl, jat_m2 (k := 25) (l := 9) rfl rfl, _, rfl, rfl⟩, fun h => absurd h (by decide)⟩⟩
theorem jmf_o10 : ∀ e ∈ jmf_r10, jmf_F e := List.forall_mem_cons.mpr ⟨jmf_160, List.forall_mem_cons.mpr ⟨jmf_161, List.forall_mem_cons.mpr ⟨jmf_162, List.forall_mem_cons.mpr ⟨jmf_163, List.forall_mem_cons.mpr ⟨jmf_164, List.forall_mem_cons.mpr ⟨jmf_165, List.forall_mem_cons.mpr ⟨jmf_166, List.forall_mem_cons.mpr ⟨jmf_167, List.forall_mem_cons.mpr ⟨jmf_168, List.forall_mem_cons.mpr ⟨jmf_169, List.forall_mem_cons.mpr ⟨jmf_170, List.forall_mem_cons.mpr ⟨jmf_171, List.forall_mem_cons.mpr ⟨jmf_172, List.forall_mem_cons.mpr ⟨jmf_173, List.forall_mem_cons.mpr ⟨jmf_174, List.forall_mem_cons.mpr ⟨jmf_175, fun _ h => absurd h List.not_mem_nil⟩⟩⟩⟩⟩⟩⟩⟩⟩⟩⟩⟩⟩⟩⟩⟩
def jmf_r11 : List (Nat × Nat × Nat × Nat) := [(176, 12, 0, 0), (177, 12, 0, 2), (178, 12, 0, 0), (179, 12, 0, 1), (180, 12, 0, 0), (181, 12, 0, 2), (182, 12, 0, 0), (183, 12, 0, 0), (184, 12, 0, 0), (185, 12, 0, 0), (186, 12, 0, 0), (187, 12, 0, 0), (188, 12, 0, 2), (189, 12, 0, 1), (190, 12, 0, 0), (191, 12, 0, 3)]
set_option maxRecDepth 8000 in
theorem jmf_176 : jmf_F (176, 12, 0, 0) := fun _ => ⟨⟨jat_m2 (k := 6) (l := 222) rfl rfl, jat_m2 (k := 1) (l := 17) rfl rfl, by decide +kernel, by decide +kernel, by decide +kernel⟩, ⟨fun _ => ⟨jat_m2 (k := 6) (l := 221) rfl rfl, jat_m2 (k := 25) (l := 10) rfl rfl, _, rfl, rfl⟩, fun h => absurd h (by decide)⟩⟩
set_option maxRecDepth 8000 in
theorem jmf_177 : jmf_F (177, 12, 0, 2) := fun _ => ⟨⟨jat_m2 (k := 6) (l := 226) rfl rfl, jat_m2 (k := 1) (l := 17) rfl rfl, by decide +kernel, by decide +kernel, by decide +kernel⟩, ⟨fun _ => ⟨jat_m2 (k := 6) (l := 225) rfl rfl, jat_m2 (k := 25) (l := 11) rfl rfl, _, rfl, rfl⟩, fun h => absurd h (by decide)⟩⟩
set_option maxRecDepth 8000 in
theorem jmf_178 : jmf_F (178, 12, 0, 0) := fun _ => ⟨⟨jat_m2 (k := 6) (l := 230) rfl rfl, jat_m2 (k := 1) (l := 17) rfl rfl, by decide +kernel, by decide +kernel, by decide +kernel⟩, ⟨fun _ => ⟨jat_m2 (k := 6) (l := 229) rfl rfl, jat_m2 (k := 25) (l := 12) rfl rfl, _, rfl, rfl⟩, fun h => absurd h (by decide)⟩⟩
set_option maxRecDepth 8000 in
theorem jmf_179 : jmf_F (179, 12, 0, 1) := fun _ => ⟨⟨jat_m2 (k := 6) (l := 234) rfl rfl, jat_m2 (k := 1) (l := 17) rfl rfl, by decide +kernel, by decide +kernel, by decide +kernel⟩, ⟨fun _ => ⟨jat_m2 (k := 6) (l := 233) rfl rfl, jat_m2 (k := 25) (l := 13) rfl rfl, _, rfl, rfl⟩, fun h => absurd h (by decide)⟩⟩
set_option maxRecDepth 8000 in
theorem jmf_180 : jmf_F (180, 12, 0, 0) := fun _ => ⟨⟨jat_m2 (k := 6) (l := 238) rfl rfl, jat_m2 (k := 1) (l := 17) rfl rfl, by decide +kernel, by decide +kernel, by decide +kernel⟩, ⟨fun _ => ⟨jat_m2 (k := 6) (l := 237) rfl rfl, jat_m2 (k := 25) (l := 14) rfl rfl, _, rfl, rfl⟩, fun h => absurd h (by decide)⟩⟩
set_option maxRecDepth 8000 in
theorem jmf_181 : jmf_F (181, 12, 0, 2) := fun _ => ⟨⟨jat_m2 (k := 7) (l := 2) rfl rfl, jat_m2 (k := 1) (l := 17) rfl rfl, by decide +kernel, by decide +kernel, by decide +kernel⟩, ⟨fun _ => ⟨jat_m2 (k := 7) (l := 1) rfl rfl, jat_m2 (k := 25) (l := 15) rfl rfl, _, rfl, rfl⟩, fun h => absurd h (by decide)⟩⟩
set_option maxRecDepth 8000 in
theorem jmf_182 : jmf_F (182, 12, 0, 0) := fun _ => ⟨⟨jat_m2 (k := 7) (l := 6) rfl rfl, jat_m2 (k := 1) (l := 17) rfl rfl, by decide +kernel, by decide +kernel, by decide +kernel⟩, ⟨fun _ => ⟨jat_m2 (k := 7) (l := 5) rfl rfl, jat_m2 (k := 26) (l := 0) rfl rfl, _, rfl, rfl⟩, fun h => absurd h (by decide)⟩⟩
set_option maxRecDepth 8000 in
theorem jmf_183 : jmf_F (183, 12, 0, 0) := fun _ => ⟨⟨jat_m2 (k := 7) (l := 10) rfl rfl, jat_m2 (k := 1) (l := 17) rfl rfl, by decide +kernel, by decide +kernel, by decide +kernel⟩, ⟨fun _ => ⟨jat_m2 (k := 7) (l := 9) rfl rfl, jat_m2 (k := 26) (l := 1) rfl rfl, _, rfl, rfl⟩, fun h => absurd h (by decide)⟩⟩
set_option maxRecDepth 8000 in
theorem jmf_184 : jmf_F (184, 12, 0, 0) := fun _ => ⟨⟨jat_m2 (k := 7) (l := 14) rfl rfl, jat_m2 (k := 1) (l := 17) rfl rfl, by decide +kernel, by decide +kernel, by decide +kernel⟩, ⟨fun _ => ⟨jat_m2 (k := 7) (l := 13) rfl rfl, jat_m2 (k := 26) (l := 2) rfl rfl, _, rfl, rfl⟩, fun h => absurd h (by decide)⟩⟩
set_option maxRecDepth 8000 in
theorem jmf_185 : jmf_F (185, 12, 0, 0) := fun _ => ⟨⟨jat_m2 (k := 7) (l := 18) rfl rfl, jat_m2 (k := 1) (l := 17) rfl rfl, by decide +kernel, by decide +kernel, by decide +kernel⟩, ⟨fun _ => ⟨jat_m2 (k := 7) (l := 17) rfl rfl, jat_m2 (k := 26) (l := 3) rfl rfl, _, rfl, rfl⟩, fun h => absurd h (by decide)⟩⟩
set_option maxRecDepth 8000 in
theorem jmf_186 : jmf_F (186, 12, 0, 0) := fun _ => ⟨⟨jat_m2 (k := 7) (l := 22) rfl rfl, jat_m2 (k := 1) (l := 17) rfl rfl, by decide +kernel, by decide +kernel, by decide +kernel⟩, ⟨fun _ => ⟨jat_m2 (k := 7) (l := 21) rfl rfl, jat_m2 (k := 26) (l := 4) rfl rfl, _, rfl, rfl⟩, fun h => absurd h (by decide)⟩⟩
set_option maxRecDepth 8000 in
theorem jmf_187 : jmf_F (187, 12, 0, 0) := fun _ => ⟨⟨jat_m2 (k := 7) (l := 26) rfl rfl, jat_m2 (k := 1) (l := 17) rfl rfl, by decide +kernel, by decide +kernel, by decide +kernel⟩, ⟨fun _ => ⟨jat_m2 (k := 7) (l := 25) rfl rfl, jat_m2 (k := 26) (l := 5) rfl rfl, _, rfl, rfl⟩, fun h => absurd h (by decide)⟩⟩
set_option maxRecDepth 8000 in
theorem jmf_188 : jmf_F (188, 12, 0, 2) := fun _ => ⟨⟨jat_m2 (k := 7) (l := 30) rfl rfl, jat_m2 (k := 1) (l := 17) rfl rfl, by decide +kernel, by decide +kernel, by decide +kernel⟩, ⟨fun _ => ⟨jat_m2 (k := 7) (l := 29) rfl rfl, jat_m2 (k := 26) (l := 6) rfl rfl, _, rfl, rfl⟩, fun h => absurd h (by decide)⟩⟩
set_option maxRecDepth 8000 in
theorem jmf_189 : jmf_F (189, 12, 0, 1) := fun _ => ⟨⟨jat_m2 (k := 7) (l := 34) rfl rfl, jat_m2 (k := 1) (l := 17) rfl rfl, by decide +kernel, by decide +kernel, by decide +kernel⟩, ⟨fun _ => ⟨jat_m2 (k := 7) (l := 33) rfl rfl, jat_m2 (k := 26) (l := 7) rfl rfl, _, rfl, rfl⟩, fun h => absurd h (by decide)⟩⟩
set_option maxRecDepth 8000 in
theorem jmf_190 : jmf_F (190, 12, 0, 0) := fun _ => ⟨⟨jat_m2 (k := 7) (l := 38) rfl rfl, jat_m2 (k := 1) (l := 17) rfl rfl, by decide +kernel, by decide +kernel, by decide +kernel⟩, ⟨fun _ => ⟨jat_m2 (k := 7) (l := 37) rfl rfl, jat_m2 (k := 26) (l := 8) rfl rfl, _, rfl, rfl⟩, fun h => absurd h (by decide)⟩⟩
set_option maxRecDepth 8000 in
theorem jmf_191 : jmf_F (191, 12, 0, 3) := fun _ => ⟨⟨jat_m2 (k := 7) (l := 43) rfl rfl, jat_m2 (k := 1) (l := 17) rfl rfl, by decide +kernel, by decide +kernel, by decide +kernel⟩, ⟨fun _ => ⟨jat_m2 (k := 7) (l := 42) rfl rfl, jat_m2 (k := 26) (l := 9) rfl rfl, _, rfl, rfl⟩, fun h => absurd h (by decide)⟩⟩
theorem jmf_o11 : ∀ e ∈ jmf_r11, jmf_F e := List.forall_mem_cons.mpr ⟨jmf_176, List.forall_mem_cons.mpr ⟨jmf_177, List.forall_mem_cons.mpr ⟨jmf_178, List.forall_mem_cons.mpr ⟨jmf_179, List.forall_mem_cons.mpr ⟨jmf_180, List.forall_mem_cons.mpr ⟨jmf_181, List.forall_mem_cons.mpr ⟨jmf_182, List.forall_mem_cons.mpr ⟨jmf_183, List.forall_mem_cons.mpr ⟨jmf_184, List.forall_mem_cons.mpr ⟨jmf_185, List.forall_mem_cons.mpr ⟨jmf_186, List.forall_mem_cons.mpr ⟨jmf_187, List.forall_mem_cons.mpr ⟨jmf_188, List.forall_mem_cons.mpr ⟨jmf_189, List.forall_mem_cons.mpr ⟨jmf_190, List.forall_mem_cons.mpr ⟨jmf_191, fun _ h => absurd h List.not_mem_nil⟩⟩⟩⟩⟩⟩⟩⟩⟩⟩⟩⟩⟩⟩⟩⟩
def jmf_r12 : List (Nat × Nat × Nat × Nat) := [(192, 12, 1, 4), (193, 12, 1, 2), (194, 12, 1, 1), (195, 12, 0, 2), (196, 12, 0, 0), (197, 12, 0, 2), (198, 12, 0, 2), (199, 12, 1, 2), (200, 12, 0, 0), (201, 12, 1, 2), (202, 12, 0, 1), (203, 12, 0, 2), (204, 12, 1, 2), (205, 12, 0, 1), (206, 12, 0, 5), (207, 12, 0, 1)]
set_option maxRecDepth 8000 in
theorem jmf_192 : jmf_F (192, 12, 1, 4) := fun _ => ⟨⟨jat_m2 (k := 7) (l := 46) rfl rfl, jat_m2 (k := 1) (l := 17) rfl rfl, by decide +kernel, by decide +kernel, by decide +kernel⟩, ⟨fun h => absurd h (by decide), fun _ => jat_m2 (k := 7) (l := 45) rfl rfl⟩⟩
set_option maxRecDepth 8000 in
theorem jmf_193 : jmf_F (193, 12, 1, 2) := fun _ => ⟨⟨jat_m2 (k := 7) (l := 49) rfl rfl, jat_m2 (k := 1) (l := 17) rfl rfl, by decide +kernel, by decide +kernel, by decide +kernel⟩, ⟨fun h => absurd h (by decide), fun _ => jat_m2 (k := 7) (l := 48) rfl rfl⟩⟩
set_option maxRecDepth 8000 in
theorem jmf_194 : jmf_F (194, 12, 1, 1) := fun _ => ⟨⟨jat_m2 (k := 7) (l := 52) rfl rfl, jat_m2 (k := 1) (l := 17) rfl rfl, by decide +kernel, by decide +kernel, by decide +kernel⟩, ⟨fun h => absurd h (by decide), fun _ => jat_m2 (k := 7) (l := 51) rfl rfl⟩⟩
set_option maxRecDepth 8000 in
theorem jmf_195 : jmf_F (195, 12, 0, 2) := fun _ => ⟨⟨jat_m2 (k := 7) (l := 56) rfl rfl, jat_m2 (k := 1) (l := 17) rfl rfl, by decide +kernel, by decide +kernel, by decide +kernel⟩, ⟨fun _ => ⟨jat_m2 (k := 7) (l := 55) rfl rfl, jat_m2 (k := 26) (l := 10) rfl rfl, _, rfl, rfl⟩, fun h => absurd h (by decide)⟩⟩
set_option maxRecDepth 8000 in
theorem jmf_196 : jmf_F (196, 12, 0, 0) := fun _ => ⟨⟨jat_m2 (k := 7) (l := 60) rfl rfl, jat_m2 (k := 1) (l := 17) rfl rfl, by decide +kernel, by decide +kernel, by decide +kernel⟩, ⟨fun _ => ⟨jat_m2 (k := 7) (l := 59) rfl rfl, jat_m2 (k := 26) (l := 11) rfl rfl, _, rfl, rfl⟩, fun h => absurd h (by decide)⟩⟩
set_option maxRecDepth 8000 in
theorem jmf_197 : jmf_F (197, 12, 0, 2) := fun _ => ⟨⟨jat_m2 (k := 7) (l := 64) rfl rfl, jat_m2 (k := 1) (l := 17) rfl rfl, by decide +kernel, by decide +kernel, by decide +kernel⟩, ⟨fun _ => ⟨jat_m2 (k := 7) (l := 63) rfl rfl, jat_m2 (k := 26) (l := 12) rfl rfl, _, rfl, rfl⟩, fun h => absurd h (by decide)⟩⟩
set_option maxRecDepth 8000 in
theorem jmf_198 : jmf_F (198, 12, 0, 2) := fun _ => ⟨⟨jat_m2 (k := 7) (l := 68) rfl rfl, jat_m2 (k := 1) (l := 17) rfl rfl, by decide +kernel, by decide +kernel, by decide +kernel⟩, ⟨fun _ => ⟨jat_m2 (k := 7) (l := 67) rfl rfl, jat_m2 (k := 26) (l := 13) rfl rfl, _, rfl, rfl⟩, fun h => absurd h (by decide)⟩⟩
set_option maxRecDepth 8000 in
theorem jmf_199 : jmf_F (199, 12, 1, 2) := fun _ => ⟨⟨jat_m2 (k := 7) (l := 71) rfl rfl, jat_m2 (k := 1) (l := 17) rfl rfl, by decide +kernel, by decide +kernel, by decide +kernel⟩, ⟨fun h => absurd h (by decide), fun _ => jat_m2 (k := 7) (l := 70) rfl rfl⟩⟩
set_option maxRecDepth 8000 in
theorem jmf_200 : jmf_F (200, 12, 0, 0) := fun _ => ⟨⟨jat_m2 (k := 7) (l := 75) rfl rfl, jat_m2 (k := 1) (l := 17) rfl rfl, by decide +kernel, by decide +kernel, by decide +kernel⟩, ⟨fun _ => ⟨jat_m2 (k := 7) (l := 74) rfl rfl, jat_m2 (k := 26) (l := 14) rfl rfl, _, rfl, rfl⟩, fun h => absurd h (by decide)⟩⟩
set_option maxRecDepth 8000 in
theorem jmf_201 : jmf_F (201, 12, 1, 2) := fun _ => ⟨⟨jat_m2 (k := 7) (l := 78) rfl rfl, jat_m2 (k := 1) (l := 17) rfl rfl, by decide +kernel, by decide +kernel, by decide +kernel⟩, ⟨fun h => absurd h (by decide), fun _ => jat_m2 (k := 7) (l := 77) rfl rfl⟩⟩
set_option maxRecDepth 8000 in
theorem jmf_202 : jmf_F (202, 12, 0, 1) := fun _ => ⟨⟨jat_m2 (k := 7) (l := 85) rfl rfl, jat_m2 (k := 1) (l := 17) rfl rfl, by decide +kernel, by decide +kernel, by decide +kernel⟩, ⟨fun _ => ⟨jat_m2 (k := 7) (l := 84) rfl rfl, jat_m2 (k := 26) (l := 15) rfl rfl, _, rfl, rfl⟩, fun h => absurd h (by decide)⟩⟩
set_option maxRecDepth 8000 in
theorem jmf_203 : jmf_F (203, 12, 0, 2) := fun _ => ⟨⟨jat_m2 (k := 7) (l := 89) rfl rfl, jat_m2 (k := 1) (l := 17) rfl rfl, by decide +kernel, by decide +kernel, by decide +kernel⟩, ⟨fun _ => ⟨jat_m2 (k := 7) (l := 88) rfl rfl, jat_m2 (k := 27) (l := 0) rfl rfl, _, rfl, rfl⟩, fun h => absurd h (by decide)⟩⟩
set_option maxRecDepth 8000 in
theorem jmf_204 : jmf_F (204, 12, 1, 2) := fun _ => ⟨⟨jat_m2 (k := 7) (l := 92) rfl rfl, jat_m2 (k := 1) (l := 17) rfl rfl, by decide +kernel, by decide +kernel, by decide +kernel⟩, ⟨fun h => absurd h (by decide), fun _ => jat_m2 (k := 7) (l := 91) rfl rfl⟩⟩
set_option maxRecDepth 8000 in
theorem jmf_205 : jmf_F (205, 12, 0, 1) := fun _ => ⟨⟨jat_m2 (k := 7) (l := 96) rfl rfl, jat_m2 (k := 1) (l := 17) rfl rfl, by decide +kernel, by decide +kernel, by decide +kernel⟩, ⟨fun _ => ⟨jat_m2 (k := 7) (l := 95) rfl rfl, jat_m2 (k := 27) (l := 1) rfl rfl, _, rfl, rfl⟩, fun h => absurd h (by decide)⟩⟩
set_option maxRecDepth 8000 in
theorem jmf_206 : jmf_F (206, 12, 0, 5) := fun _ => ⟨⟨jat_m2 (k := 7) (l := 100) rfl rfl, jat_m2 (k := 1) (l := 17) rfl rfl, by decide +kernel, by decide +kernel, by decide +kernel⟩, ⟨fun _ => ⟨jat_m2 (k := 7) (l := 99) rfl rfl, jat_m2 (k := 27) (l := 2) rfl rfl, _, rfl, rfl⟩, fun h => absurd h (by decide)⟩⟩
set_option maxRecDepth 8000 in
theorem jmf_207 : jmf_F (207, 12, 0, 1) := fun _ => ⟨⟨jat_m2 (k := 7) (l := 104) rfl rfl, jat_m2 (k := 1) (l := 17) rfl rfl, by decide +kernel, by decide +kernel, by decide +kernel⟩, ⟨fun _ => ⟨jat_m2 (k := 7) (l := 103) rfl rfl, jat_m2 (k := 27) (l := 3) rfl rfl, _, rfl, rfl⟩, fun h => absurd h (by decide)⟩⟩
theorem jmf_o12 : ∀ e ∈ jmf_r12, jmf_F e := List.forall_mem_cons.mpr ⟨jmf_192, List.forall_mem_cons.mpr ⟨jmf_193, List.forall_mem_cons.mpr ⟨jmf_194, List.forall_mem_cons.mpr ⟨jmf_195, List.forall_mem_cons.mpr ⟨jmf_196, List.forall_mem_cons.mpr ⟨jmf_197, List.forall_mem_cons.mpr ⟨jmf_198, List.forall_mem_cons.mpr ⟨jmf_199, List.forall_mem_cons.mpr ⟨jmf_200, List.forall_mem_cons.mpr ⟨jmf_201, List.forall_mem_cons.mpr ⟨jmf_202, List.forall_mem_cons.mpr ⟨jmf_203, List.forall_mem_cons.mpr ⟨jmf_204, List.forall_mem_cons.mpr ⟨jmf_205, List.forall_mem_cons.mpr ⟨jmf_206, List.forall_mem_cons.mpr ⟨jmf_207, fun _ h => absurd h List.not_mem_nil⟩⟩⟩⟩⟩⟩⟩⟩⟩⟩⟩⟩⟩⟩⟩⟩
def jmf_r13 : List (Nat × Nat × Nat × Nat) := [(208, 12, 0, 0), (209, 12, 0, 0), (210, 12, 0, 5), (211, 12, 0, 1), (212, 12, 0, 1), (213, 12, 0, 1), (214, 12, 0, 1), (215, 12, 0, 0), (216, 12, 0, 2), (217, 12, 1, 1), (218, 12, 0, 2), (219, 12, 0, 2), (220, 12, 0, 1), (221, 12, 0, 3), (222, 12, 0, 1), (223, 12, 0, 1)]
set_option maxRecDepth 8000 in
theorem jmf_208 : jmf_F (208, 12, 0, 0) := fun _ => ⟨⟨jat_m2 (k := 7) (l := 108) rfl rfl, jat_m2 (k := 1) (l := 17) rfl rfl, by decide +kernel, by decide +kernel, by decide +kernel⟩, ⟨fun _ => ⟨jat_m2 (k := 7) (l := 107) rfl rfl, jat_m2 (k := 27) (l := 4) rfl rfl, _, rfl, rfl⟩, fun h => absurd h (by decide)⟩⟩
set_option maxRecDepth 8000 in
theorem jmf_209 : jmf_F (209, 12, 0, 0) := fun _ => ⟨⟨jat_m2 (k := 8) (l := 39) rfl rfl, jat_m2 (k := 1) (l := 17) rfl rfl, by decide +kernel, by decide +kernel, by decide +kernel⟩, ⟨fun _ => ⟨jat_m2 (k := 8) (l := 37) rfl rfl, jat_m2 (k := 8) (l := 38) rfl rfl, _, rfl, rfl⟩, fun h => absurd h (by decide)⟩⟩
set_option maxRecDepth 8000 in
theorem jmf_210 : jmf_F (210, 12, 0, 5) := fun _ => ⟨⟨jat_m2 (k := 8) (l := 43) rfl rfl, jat_m2 (k := 1) (l := 17) rfl rfl, by decide +kernel, by decide +kernel, by decide +kernel⟩, ⟨fun _ => ⟨jat_m2 (k := 8) (l := 41) rfl rfl, jat_m2 (k := 8) (l := 42) rfl rfl, _, rfl, rfl⟩, fun h => absurd h (by decide)⟩⟩
set_option maxRecDepth 8000 in
theorem jmf_211 : jmf_F (211, 12, 0, 1) := fun _ => ⟨⟨jat_m2 (k := 8) (l := 47) rfl rfl, jat_m2 (k := 1) (l := 17) rfl rfl, by decide +kernel, by decide +kernel, by decide +kernel⟩, ⟨fun _ => ⟨jat_m2 (k := 8) (l := 45) rfl rfl, jat_m2 (k := 8) (l := 46) rfl rfl, _, rfl, rfl⟩, fun h => absurd h (by decide)⟩⟩
set_option maxRecDepth 8000 in
theorem jmf_212 : jmf_F (212, 12, 0, 1) := fun _ => ⟨⟨jat_m2 (k := 8) (l := 51) rfl rfl, jat_m2 (k := 1) (l := 17) rfl rfl, by decide +kernel, by decide +kernel, by decide +kernel⟩, ⟨fun _ => ⟨jat_m2 (k := 8) (l := 49) rfl rfl, jat_m2 (k := 8) (l := 50) rfl rfl, _, rfl, rfl⟩, fun h => absurd h (by decide)⟩⟩
set_option maxRecDepth 8000 in
theorem jmf_213 : jmf_F (213, 12, 0, 1) := fun _ => ⟨⟨jat_m2 (k := 8) (l := 55) rfl rfl, jat_m2 (k := 1) (l := 17) rfl rfl, by decide +kernel, by decide +kernel, by decide +kernel⟩, ⟨fun _ => ⟨jat_m2 (k := 8) (l := 53) rfl rfl, jat_m2 (k := 8) (l := 54) rfl rfl, _, rfl, rfl⟩, fun h => absurd h (by decide)⟩⟩
set_option maxRecDepth 8000 in
theorem jmf_214 : jmf_F (214, 12, 0, 1) := fun _ => ⟨⟨jat_m2 (k := 8) (l := 59) rfl rfl, jat_m2 (k := 1) (l := 17) rfl rfl, by decide +kernel, by decide +kernel, by decide +kernel⟩, ⟨fun _ => ⟨jat_m2 (k := 8) (l := 58) rfl rfl, jat_m2 (k := 27) (l := 5) rfl rfl, _, rfl, rfl⟩, fun h => absurd h (by decide)⟩⟩
set_option maxRecDepth 8000 in
theorem jmf_215 : jmf_F (215, 12, 0, 0) := fun _ => ⟨⟨jat_m2 (k := 8) (l := 63) rfl rfl, jat_m2 (k := 1) (l := 17) rfl rfl, by decide +kernel, by decide +kernel, by decide +kernel⟩, ⟨fun _ => ⟨jat_m2 (k := 8) (l := 62) rfl rfl, jat_m2 (k := 27) (l := 6) rfl rfl, _, rfl, rfl⟩, fun h => absurd h (by decide)⟩⟩
set_option maxRecDepth 8000 in
theorem jmf_216 : jmf_F (216, 12, 0, 2) := fun _ => ⟨⟨jat_m2 (k := 8) (l := 67) rfl rfl, jat_m2 (k := 1) (l := 17) rfl rfl, by decide +kernel, by decide +kernel, by decide +kernel⟩, ⟨fun _ => ⟨jat_m2 (k := 8) (l := 66) rfl rfl, jat_m2 (k := 27) (l := 7) rfl rfl, _, rfl, rfl⟩, fun h => absurd h (by decide)⟩⟩
set_option maxRecDepth 8000 in
theorem jmf_217 : jmf_F (217, 12, 1, 1) := fun _ => ⟨⟨jat_m2 (k := 8) (l := 70) rfl rfl, jat_m2 (k := 1) (l := 17) rfl rfl, by decide +kernel, by decide +kernel, by decide +kernel⟩, ⟨fun h => absurd h (by decide), fun _ => jat_m2 (k := 8) (l := 69) rfl rfl⟩⟩
set_option maxRecDepth 8000 in
theorem jmf_218 : jmf_F (218, 12, 0, 2) := fun _ => ⟨⟨jat_m2 (k := 8) (l := 74) rfl rfl, jat_m2 (k := 1) (l := 17) rfl rfl, by decide +kernel, by decide +kernel, by decide +kernel⟩, ⟨fun _ => ⟨jat_m2 (k := 8) (l := 73) rfl rfl, jat_m2 (k := 27) (l := 8) rfl rfl, _, rfl, rfl⟩, fun h => absurd h (by decide)⟩⟩
set_option maxRecDepth 8000 in
theorem jmf_219 : jmf_F (219, 12, 0, 2) := fun _ => ⟨⟨jat_m2 (k := 8) (l := 78) rfl rfl, jat_m2 (k := 1) (l := 17) rfl rfl, by decide +kernel, by decide +kernel, by decide +kernel⟩, ⟨fun _ => ⟨jat_m2 (k := 8) (l := 77) rfl rfl, jat_m2 (k := 27) (l := 9) rfl rfl, _, rfl, rfl⟩, fun h => absurd h (by decide)⟩⟩
set_option maxRecDepth 8000 in
theorem jmf_220 : jmf_F (220, 12, 0, 1) := fun _ => ⟨⟨jat_m2 (k := 8) (l := 82) rfl rfl, jat_m2 (k := 1) (l := 17) rfl rfl, by decide +kernel, by decide +kernel, by decide +kernel⟩, ⟨fun _ => ⟨jat_m2 (k := 8) (l := 81) rfl rfl, jat_m2 (k := 27) (l := 10) rfl rfl, _, rfl, rfl⟩, fun h => absurd h (by decide)⟩⟩
set_option maxRecDepth 8000 in
theorem jmf_221 : jmf_F (221, 12, 0, 3) := fun _ => ⟨⟨jat_m2 (k := 8) (l := 86) rfl rfl, jat_m2 (k := 1) (l := 17) rfl rfl, by decide +kernel, by decide +kernel, by decide +kernel⟩, ⟨fun _ => ⟨jat_m2 (k := 8) (l := 85) rfl rfl, jat_m2 (k := 27) (l := 11) rfl rfl, _, rfl, rfl⟩, fun h => absurd h (by decide)⟩⟩
set_option maxRecDepth 8000 in
theorem jmf_222 : jmf_F (222, 12, 0, 1) := fun _ => ⟨⟨jat_m2 (k := 8) (l := 90) rfl rfl, jat_m2 (k := 1) (l := 17) rfl rfl, by decide +kernel, by decide +kernel, by decide +kernel⟩, ⟨fun _ => ⟨jat_m2 (k := 8) (l := 89) rfl rfl, jat_m2 (k := 27) (l := 12) rfl rfl, _, rfl, rfl⟩, fun h => absurd h (by decide)⟩⟩
set_option maxRecDepth 8000 in
theorem jmf_223 : jmf_F (223, 12, 0, 1) := fun _ => ⟨⟨jat_m2 (k := 8) (l := 94) rfl rfl, jat_m2 (k := 1) (l := 17) rfl rfl, by decide +kernel, by decide +kernel, by decide +kernel⟩, ⟨fun _ => ⟨jat_m2 (k := 8) (l := 93) rfl rfl, jat_m2 (k := 27) (l := 13) rfl rfl, _, rfl, rfl⟩, fun h => absurd h (by decide)⟩⟩
theorem jmf_o13 : ∀ e ∈ jmf_r13, jmf_F e := List.forall_mem_cons.mpr ⟨jmf_208, List.forall_mem_cons.mpr ⟨jmf_209, List.forall_mem_cons.mpr ⟨jmf_210, List.forall_mem_cons.mpr ⟨jmf_211, List.forall_mem_cons.mpr ⟨jmf_212, List.forall_mem_cons.mpr ⟨jmf_213, List.forall_mem_cons.mpr ⟨jmf_214, List.forall_mem_cons.mpr ⟨jmf_215, List.forall_mem_cons.mpr ⟨jmf_216, List.forall_mem_cons.mpr ⟨jmf_217, List.forall_mem_cons.mpr ⟨jmf_218, List.forall_mem_cons.mpr ⟨jmf_219, List.forall_mem_cons.mpr ⟨jmf_220, List.forall_mem_cons.mpr ⟨jmf_221, List.forall_mem_cons.mpr ⟨jmf_222, List.forall_mem_cons.mpr ⟨jmf_223, fun _ h => absurd h List.not_mem_nil⟩⟩⟩⟩⟩⟩⟩⟩⟩⟩⟩⟩⟩⟩⟩⟩
def jmf_r14 : List (Nat × Nat × Nat × Nat) := [(224, 12, 0, 1), (225, 12, 0, 1), (226, 12, 0, 1), (227, 12, 0, 0), (228, 12, 0, 1), (229, 12, 0, 1), (230, 12, 0, 2), (231, 12, 0, 1), (232, 12, 0, 1), (233, 12, 0, 2), (234, 12, 0, 2), (235, 12, 0, 2), (236, 12, 0, 2), (237, 12, 0, 1), (238, 12, 0, 2), (239, 12, 0, 0)]
set_option maxRecDepth 8000 in
theorem jmf_224 : jmf_F (224, 12, 0, 1) := fun _ => ⟨⟨jat_m2 (k := 8) (l := 98) rfl rfl, jat_m2 (k := 1) (l := 17) rfl rfl, by decide +kernel, by decide +kernel, by decide +kernel⟩, ⟨fun _ => ⟨jat_m2 (k := 8) (l := 97) rfl rfl, jat_m2 (k := 27) (l := 14) rfl rfl, _, rfl, rfl⟩, fun h => absurd h (by decide)⟩⟩
set_option maxRecDepth 8000 in
theorem jmf_225 : jmf_F (225, 12, 0, 1) := fun _ => ⟨⟨jat_m2 (k := 8) (l := 102) rfl rfl, jat_m2 (k := 1) (l := 17) rfl rfl, by decide +kernel, by decide +kernel, by decide +kernel⟩, ⟨fun _ => ⟨jat_m2 (k := 8) (l := 101) rfl rfl, jat_m2 (k := 27) (l := 15) rfl rfl, _, rfl, rfl⟩, fun h => absurd h (by decide)⟩⟩
set_option maxRecDepth 8000 in
theorem jmf_226 : jmf_F (226, 12, 0, 1) := fun _ => ⟨⟨jat_m2 (k := 8) (l := 106) rfl rfl, jat_m2 (k := 1) (l := 17) rfl rfl, by decide +kernel, by decide +kernel, by decide +kernel⟩, ⟨fun _ => ⟨jat_m2 (k := 8) (l := 104) rfl rfl, jat_m2 (k := 8) (l := 105) rfl rfl, _, rfl, rfl⟩, fun h => absurd h (by decide)⟩⟩
set_option maxRecDepth 8000 in
theorem jmf_227 : jmf_F (227, 12, 0, 0) := fun _ => ⟨⟨jat_m2 (k := 8) (l := 110) rfl rfl, jat_m2 (k := 1) (l := 17) rfl rfl, by decide +kernel, by decide +kernel, by decide +kernel⟩, ⟨fun _ => ⟨jat_m2 (k := 8) (l := 109) rfl rfl, jat_m2 (k := 28) (l := 0) rfl rfl, _, rfl, rfl⟩, fun h => absurd h (by decide)⟩⟩
set_option maxRecDepth 8000 in
theorem jmf_228 : jmf_F (228, 12, 0, 1) := fun _ => ⟨⟨jat_m2 (k := 8) (l := 114) rfl rfl, jat_m2 (k := 1) (l := 17) rfl rfl, by decide +kernel, by decide +kernel, by decide +kernel⟩, ⟨fun _ => ⟨jat_m2 (k := 8) (l := 113) rfl rfl, jat_m2 (k := 28) (l := 1) rfl rfl, _, rfl, rfl⟩, fun h => absurd h (by decide)⟩⟩
set_option maxRecDepth 8000 in
theorem jmf_229 : jmf_F (229, 12, 0, 1) := fun _ => ⟨⟨jat_m2 (k := 8) (l := 118) rfl rfl, jat_m2 (k := 1) (l := 17) rfl rfl, by decide +kernel, by decide +kernel, by decide +kernel⟩, ⟨fun _ => ⟨jat_m2 (k := 8) (l := 117) rfl rfl, jat_m2 (k := 28) (l := 2) rfl rfl, _, rfl, rfl⟩, fun h => absurd h (by decide)⟩⟩
set_option maxRecDepth 8000 in
theorem jmf_230 : jmf_F (230, 12, 0, 2) := fun _ => ⟨⟨jat_m2 (k := 8) (l := 122) rfl rfl, jat_m2 (k := 1) (l := 17) rfl rfl, by decide +kernel, by decide +kernel, by decide +kernel⟩, ⟨fun _ => ⟨jat_m2 (k := 8) (l := 120) rfl rfl, jat_m2 (k := 8) (l := 121) rfl rfl, _, rfl, rfl⟩, fun h => absurd h (by decide)⟩⟩
set_option maxRecDepth 8000 in
theorem jmf_231 : jmf_F (231, 12, 0, 1) := fun _ => ⟨⟨jat_m2 (k := 8) (l := 126) rfl rfl, jat_m2 (k := 1) (l := 17) rfl rfl, by decide +kernel, by decide +kernel, by decide +kernel⟩, ⟨fun _ => ⟨jat_m2 (k := 8) (l := 125) rfl rfl, jat_m2 (k := 28) (l := 3) rfl rfl, _, rfl, rfl⟩, fun h => absurd h (by decide)⟩⟩
set_option maxRecDepth 8000 in
theorem jmf_232 : jmf_F (232, 12, 0, 1) := fun _ => ⟨⟨jat_m2 (k := 8) (l := 130) rfl rfl, jat_m2 (k := 1) (l := 17) rfl rfl, by decide +kernel, by decide +kernel, by decide +kernel⟩, ⟨fun _ => ⟨jat_m2 (k := 8) (l := 129) rfl rfl, jat_m2 (k := 28) (l := 4) rfl rfl, _, rfl, rfl⟩, fun h => absurd h (by decide)⟩⟩
set_option maxRecDepth 8000 in
theorem jmf_233 : jmf_F (233, 12, 0, 2) := fun _ => ⟨⟨jat_m2 (k := 8) (l := 134) rfl rfl, jat_m2 (k := 1) (l := 17) rfl rfl, by decide +kernel, by decide +kernel, by decide +kernel⟩, ⟨fun _ => ⟨jat_m2 (k := 8) (l := 132) rfl rfl, jat_m2 (k := 8) (l := 133) rfl rfl, _, rfl, rfl⟩, fun h => absurd h (by decide)⟩⟩
set_option maxRecDepth 8000 in
theorem jmf_234 : jmf_F (234, 12, 0, 2) := fun _ => ⟨⟨jat_m2 (k := 8) (l := 138) rfl rfl, jat_m2 (k := 1) (l := 17) rfl rfl, by decide +kernel, by decide +kernel, by decide +kernel⟩, ⟨fun _ => ⟨jat_m2 (k := 8) (l := 136) rfl rfl, jat_m2 (k := 8) (l := 137) rfl rfl, _, rfl, rfl⟩, fun h => absurd h (by decide)⟩⟩
set_option maxRecDepth 8000 in
theorem jmf_235 : jmf_F (235, 12, 0, 2) := fun _ => ⟨⟨jat_m2 (k := 8) (l := 142) rfl rfl, jat_m2 (k := 1) (l := 17) rfl rfl, by decide +kernel, by decide +kernel, by decide +kernel⟩, ⟨fun _ => ⟨jat_m2 (k := 8) (l := 140) rfl rfl, jat_m2 (k := 8) (l := 141) rfl rfl, _, rfl, rfl⟩, fun h => absurd h (by decide)⟩⟩
set_option maxRecDepth 8000 in
theorem jmf_236 : jmf_F (236, 12, 0, 2) := fun _ => ⟨⟨jat_m2 (k := 8) (l := 146) rfl rfl, jat_m2 (k := 1) (l := 17) rfl rfl, by decide +kernel, by decide +kernel, by decide +kernel⟩, ⟨fun _ => ⟨jat_m2 (k := 8) (l := 144) rfl rfl, jat_m2 (k := 8) (l := 145) rfl rfl, _, rfl, rfl⟩, fun h => absurd h (by decide)⟩⟩
set_option maxRecDepth 8000 in
theorem jmf_237 : jmf_F (237, 12, 0, 1) := fun _ => ⟨⟨jat_m2 (k := 8) (l := 150) rfl rfl, jat_m2 (k := 1) (l := 17) rfl rfl, by decide +kernel, by decide +kernel, by decide +kernel⟩, ⟨fun _ => ⟨jat_m2 (k := 8) (l := 149) rfl rfl, jat_m2 (k := 28) (l := 5) rfl rfl, _, rfl, rfl⟩, fun h => absurd h (by decide)⟩⟩
set_option maxRecDepth 8000 in
theorem jmf_238 : jmf_F (238, 12, 0, 2) := fun _ => ⟨⟨jat_m2 (k := 8) (l := 154) rfl rfl, jat_m2 (k := 1) (l := 17) rfl rfl, by decide +kernel, by decide +kernel, by decide +kernel⟩, ⟨fun _ => ⟨jat_m2 (k := 8) (l := 153) rfl rfl, jat_m2 (k := 28) (l := 6) rfl rfl, _, rfl, rfl⟩, fun h => absurd h (by decide)⟩⟩
set_option maxRecDepth 8000 in
theorem jmf_239 : jmf_F (239, 12, 0, 0) := fun _ => ⟨⟨jat_m2 (k := 8) (l := 158) rfl rfl, jat_m2 (k := 1) (l := 17) rfl rfl, by decide +kernel, by decide +kernel, by decide +kernel⟩, ⟨fun _ => ⟨jat_m2 (k := 8) (l := 157) rfl rfl, jat_m2 (k := 28) (l := 7) rfl rfl, _, rfl, rfl⟩, fun h => absurd h (by decide)⟩⟩
theorem jmf_o14 : ∀ e ∈ jmf_r14, jmf_F e := List.forall_mem_cons.mpr ⟨jmf_224, List.forall_mem_cons.mpr ⟨jmf_225, List.forall_mem_cons.mpr ⟨jmf_226, List.forall_mem_cons.mpr ⟨jmf_227, List.forall_mem_cons.mpr ⟨jmf_228, List.forall_mem_cons.mpr ⟨jmf_229, List.forall_mem_cons.mpr ⟨jmf_230, List.forall_mem_cons.mpr ⟨jmf_231, List.forall_mem_cons.mpr ⟨jmf_232, List.forall_mem_cons.mpr ⟨jmf_233, List.forall_mem_cons.mpr ⟨jmf_234, List.forall_mem_cons.mpr ⟨jmf_235, List.forall_mem_cons.mpr ⟨jmf_236, List.forall_mem_cons.mpr ⟨jmf_237, List.forall_mem_cons.mpr ⟨jmf_238, List.forall_mem_cons.mpr ⟨jmf_239, fun _ h => absurd h List.not_mem_nil⟩⟩⟩⟩⟩⟩⟩⟩⟩⟩⟩⟩⟩⟩⟩⟩
def jmf_r15 : List (Nat × Nat × Nat × Nat) := [(240, 12, 0, 4), (241, 12, 0, 2), (242, 12, 0, 4), (243, 12, 0, 5), (244, 12, 1, 3), (245, 12, 0, 3), (246, 12, 0, 4), (247, 12, 0, 4), (248, 12, 0, 2), (249, 12, 0, 4), (250, 12, 0, 1), (251, 12, 0, 1), (252, 12, 0, 1), (253, 12, 0, 0), (254, 12, 0, 1), (255, 12, 0, 1)]
set_option maxRecDepth 8000 in
theorem jmf_240 : jmf_F (240, 12, 0, 4) := fun _ => ⟨⟨jat_m2 (k := 8) (l := 162) rfl rfl, jat_m2 (k := 1) (l := 17) rfl rfl, by decide +kernel, by decide +kernel, by decide +kernel⟩, ⟨fun _ => ⟨jat_m2 (k := 8) (l := 160) rfl rfl, jat_m2 (k := 8) (l := 161) rfl rfl, _, rfl, rfl⟩, fun h => absurd h (by decide)⟩⟩
set_option maxRecDepth 8000 in
theorem jmf_241 : jmf_F (241, 12, 0, 2) := fun _ => ⟨⟨jat_m2 (k := 8) (l := 166) rfl rfl, jat_m2 (k := 1) (l := 17) rfl rfl, by decide +kernel, by decide +kernel, by decide +kernel⟩, ⟨fun _ => ⟨jat_m2 (k := 8) (l := 165) rfl rfl, jat_m2 (k := 28) (l := 8) rfl rfl, _, rfl, rfl⟩, fun h => absurd h (by decide)⟩⟩
set_option maxRecDepth 8000 in
theorem jmf_242 : jmf_F (242, 12, 0, 4) := fun _ => ⟨⟨jat_m2 (k := 8) (l := 171) rfl rfl, jat_m2 (k := 1) (l := 17) rfl rfl, by decide +kernel, by decide +kernel, by decide +kernel⟩, ⟨fun _ => ⟨jat_m2 (k := 8) (l := 169) rfl rfl, jat_m2 (k := 8) (l := 170) rfl rfl, _, rfl, rfl⟩, fun h => absurd h (by decide)⟩⟩
set_option maxRecDepth 8000 in
theorem jmf_243 : jmf_F (243, 12, 0, 5) := fun _ => ⟨⟨jat_m2 (k := 8) (l := 176) rfl rfl, jat_m2 (k := 1) (l := 17) rfl rfl, by decide +kernel, by decide +kernel, by decide +kernel⟩, ⟨fun _ => ⟨jat_m2 (k := 8) (l := 174) rfl rfl, jat_m2 (k := 8) (l := 175) rfl rfl, _, rfl, rfl⟩, fun h => absurd h (by decide)⟩⟩
set_option maxRecDepth 8000 in
theorem jmf_244 : jmf_F (244, 12, 1, 3) := fun _ => ⟨⟨jat_m2 (k := 8) (l := 179) rfl rfl, jat_m2 (k := 1) (l := 17) rfl rfl, by decide +kernel, by decide +kernel, by decide +kernel⟩, ⟨fun h => absurd h (by decide), fun _ => jat_m2 (k := 8) (l := 178) rfl rfl⟩⟩
set_option maxRecDepth 8000 in
theorem jmf_245 : jmf_F (245, 12, 0, 3) := fun _ => ⟨⟨jat_m2 (k := 8) (l := 183) rfl rfl, jat_m2 (k := 1) (l := 17) rfl rfl, by decide +kernel, by decide +kernel, by decide +kernel⟩, ⟨fun _ => ⟨jat_m2 (k := 8) (l := 182) rfl rfl, jat_m2 (k := 28) (l := 9) rfl rfl, _, rfl, rfl⟩, fun h => absurd h (by decide)⟩⟩
set_option maxRecDepth 8000 in
theorem jmf_246 : jmf_F (246, 12, 0, 4) := fun _ => ⟨⟨jat_m2 (k := 8) (l := 187) rfl rfl, jat_m2 (k := 1) (l := 17) rfl rfl, by decide +kernel, by decide +kernel, by decide +kernel⟩, ⟨fun _ => ⟨jat_m2 (k := 8) (l := 185) rfl rfl, jat_m2 (k := 8) (l := 186) rfl rfl, _, rfl, rfl⟩, fun h => absurd h (by decide)⟩⟩
set_option maxRecDepth 8000 in
theorem jmf_247 : jmf_F (247, 12, 0, 4) := fun _ => ⟨⟨jat_m2 (k := 8) (l := 191) rfl rfl, jat_m2 (k := 1) (l := 17) rfl rfl, by decide +kernel, by decide +kernel, by decide +kernel⟩, ⟨fun _ => ⟨jat_m2 (k := 8) (l := 190) rfl rfl, jat_m2 (k := 28) (l := 10) rfl rfl, _, rfl, rfl⟩, fun h => absurd h (by decide)⟩⟩
set_option maxRecDepth 8000 in
theorem jmf_248 : jmf_F (248, 12, 0, 2) := fun _ => ⟨⟨jat_m2 (k := 8) (l := 195) rfl rfl, jat_m2 (k := 1) (l := 17) rfl rfl, by decide +kernel, by decide +kernel, by decide +kernel⟩, ⟨fun _ => ⟨jat_m2 (k := 8) (l := 193) rfl rfl, jat_m2 (k := 8) (l := 194) rfl rfl, _, rfl, rfl⟩, fun h => absurd h (by decide)⟩⟩
set_option maxRecDepth 8000 in
theorem jmf_249 : jmf_F (249, 12, 0, 4) := fun _ => ⟨⟨jat_m2 (k := 8) (l := 199) rfl rfl, jat_m2 (k := 1) (l := 17) rfl rfl, by decide +kernel, by decide +kernel, by decide +kernel⟩, ⟨fun _ => ⟨jat_m2 (k := 8) (l := 197) rfl rfl, jat_m2 (k := 8) (l := 198) rfl rfl, _, rfl, rfl⟩, fun h => absurd h (by decide)⟩⟩
set_option maxRecDepth 8000 in
theorem jmf_250 : jmf_F (250, 12, 0, 1) := fun _ => ⟨⟨jat_m2 (k := 8) (l := 203) rfl rfl, jat_m2 (k := 1) (l := 17) rfl rfl, by decide +kernel, by decide +kernel, by decide +kernel⟩, ⟨fun _ => ⟨jat_m2 (k := 8) (l := 201) rfl rfl, jat_m2 (k := 8) (l := 202) rfl rfl, _, rfl, rfl⟩, fun h => absurd h (by decide)⟩⟩
set_option maxRecDepth 8000 in
theorem jmf_251 : jmf_F (251, 12, 0, 1) := fun _ => ⟨⟨jat_m2 (k := 8) (l := 207) rfl rfl, jat_m2 (k := 1) (l := 17) rfl rfl, by decide +kernel, by decide +kernel, by decide +kernel⟩, ⟨fun _ => ⟨jat_m2 (k := 8) (l := 206) rfl rfl, jat_m2 (k := 28) (l := 11) rfl rfl, _, rfl, rfl⟩, fun h => absurd h (by decide)⟩⟩
set_option maxRecDepth 8000 in
theorem jmf_252 : jmf_F (252, 12, 0, 1) := fun _ => ⟨⟨jat_m2 (k := 8) (l := 211) rfl rfl, jat_m2 (k := 1) (l := 17) rfl rfl, by decide +kernel, by decide +kernel, by decide +kernel⟩, ⟨fun _ => ⟨jat_m2 (k := 8) (l := 210) rfl rfl, jat_m2 (k := 28) (l := 12) rfl rfl, _, rfl, rfl⟩, fun h => absurd h (by decide)⟩⟩
set_option maxRecDepth 8000 in
theorem jmf_253 : jmf_F (253, 12, 0, 0) := fun _ => ⟨⟨jat_m2 (k := 8) (l := 215) rfl rfl, jat_m2 (k := 1) (l := 17) rfl rfl, by decide +kernel, by decide +kernel, by decide +kernel⟩, ⟨fun _ => ⟨jat_m2 (k := 8) (l := 214) rfl rfl, jat_m2 (k := 28) (l := 13) rfl rfl, _, rfl, rfl⟩, fun h => absurd h (by decide)⟩⟩
set_option maxRecDepth 8000 in
theorem jmf_254 : jmf_F (254, 12, 0, 1) := fun _ => ⟨⟨jat_m2 (k := 8) (l := 219) rfl rfl, jat_m2 (k := 1) (l := 17) rfl rfl, by decide +kernel, by decide +kernel, by decide +kernel⟩, ⟨fun _ => ⟨jat_m2 (k := 8) (l := 218) rfl rfl, jat_m2 (k := 28) (l := 14) rfl rfl, _, rfl, rfl⟩, fun h => absurd h (by decide)⟩⟩
set_option maxRecDepth 8000 in
theorem jmf_255 : jmf_F (255, 12, 0, 1) := fun _ => ⟨⟨jat_m2 (k := 8) (l := 223) rfl rfl, jat_m2 (k := 1) (l := 17) rfl rfl, by decide +kernel, by decide +kernel, by decide +kernel⟩, ⟨fun _ => ⟨jat_m2 (k := 8) (l := 222) rfl rfl, jat_m2 (k := 28) (l := 15) rfl rfl, _, rfl, rfl⟩, fun h => absurd h (by decide)⟩⟩
theorem jmf_o15 : ∀ e ∈ jmf_r15, jmf_F e := List.forall_mem_cons.mpr ⟨jmf_240, List.forall_mem_cons.mpr ⟨jmf_241, List.forall_mem_cons.mpr ⟨jmf_242, List.forall_mem_cons.mpr ⟨jmf_243, List.forall_mem_cons.mpr ⟨jmf_244, List.forall_mem_cons.mpr ⟨jmf_245, List.forall_mem_cons.mpr ⟨jmf_246, List.forall_mem_cons.mpr ⟨jmf_247, List.forall_mem_cons.mpr ⟨jmf_248, List.forall_mem_cons.mpr ⟨jmf_249, List.forall_mem_cons.mpr ⟨jmf_250, List.forall_mem_cons.mpr ⟨jmf_251, List.forall_mem_cons.mpr ⟨jmf_252, List.forall_mem_cons.mpr ⟨jmf_253, List.forall_mem_cons.mpr ⟨jmf_254, List.forall_mem_cons.mpr ⟨jmf_255, fun _ h => absurd h List.not_mem_nil⟩⟩⟩⟩⟩⟩⟩⟩⟩⟩⟩⟩⟩⟩⟩⟩
def jmf_r16 : List (Nat × Nat × Nat × Nat) := [(256, 12, 0, 2), (257, 12, 0, 2), (258, 12, 0, 0), (259, 12, 0, 4), (260, 12, 0, 3), (261, 12, 0, 0), (262, 12, 1, 7), (263, 12, 0, 1), (264, 12, 0, 3), (265, 12, 0, 3), (266, 12, 0, 2), (267, 12, 0, 5), (268, 12, 0, 4), (269, 12, 0, 1), (270, 12, 0, 2), (271, 12, 0, 1)]
set_option maxRecDepth 8000 in
theorem jmf_256 : jmf_F (256, 12, 0, 2) := fun _ => ⟨⟨jat_m2 (k := 8) (l := 227) rfl rfl, jat_m2 (k := 1) (l := 17) rfl rfl, by decide +kernel, by decide +kernel, by decide +kernel⟩, ⟨fun _ => ⟨jat_m2 (k := 8) (l := 226) rfl rfl, jat_m2 (k := 29) (l := 0) rfl rfl, _, rfl, rfl⟩, fun h => absurd h (by decide)⟩⟩
set_option maxRecDepth 8000 in
theorem jmf_257 : jmf_F (257, 12, 0, 2) := fun _ => ⟨⟨jat_m2 (k := 8) (l := 231) rfl rfl, jat_m2 (k := 1) (l := 17) rfl rfl, by decide +kernel, by decide +kernel, by decide +kernel⟩, ⟨fun _ => ⟨jat_m2 (k := 8) (l := 230) rfl rfl, jat_m2 (k := 29) (l := 1) rfl rfl, _, rfl, rfl⟩, fun h => absurd h (by decide)⟩⟩
set_option maxRecDepth 8000 in
theorem jmf_258 : jmf_F (258, 12, 0, 0) := fun _ => ⟨⟨jat_m2 (k := 8) (l := 235) rfl rfl, jat_m2 (k := 1) (l := 17) rfl rfl, by decide +kernel, by decide +kernel, by decide +kernel⟩, ⟨fun _ => ⟨jat_m2 (k := 8) (l := 234) rfl rfl, jat_m2 (k := 29) (l := 2) rfl rfl, _, rfl, rfl⟩, fun h => absurd h (by decide)⟩⟩
set_option maxRecDepth 8000 in
theorem jmf_259 : jmf_F (259, 12, 0, 4) := fun _ => ⟨⟨jat_m2 (k := 8) (l := 239) rfl rfl, jat_m2 (k := 1) (l := 17) rfl rfl, by decide +kernel, by decide +kernel, by decide +kernel⟩, ⟨fun _ => ⟨jat_m2 (k := 8) (l := 238) rfl rfl, jat_m2 (k := 29) (l := 3) rfl rfl, _, rfl, rfl⟩, fun h => absurd h (by decide)⟩⟩
set_option maxRecDepth 8000 in
theorem jmf_260 : jmf_F (260, 12, 0, 3) := fun _ => ⟨⟨jat_m2 (k := 9) (l := 3) rfl rfl, jat_m2 (k := 1) (l := 17) rfl rfl, by decide +kernel, by decide +kernel, by decide +kernel⟩, ⟨fun _ => ⟨jat_m2 (k := 9) (l := 2) rfl rfl, jat_m2 (k := 29) (l := 4) rfl rfl, _, rfl, rfl⟩, fun h => absurd h (by decide)⟩⟩
set_option maxRecDepth 8000 in
theorem jmf_261 : jmf_F (261, 12, 0, 0) := fun _ => ⟨⟨jat_m2 (k := 9) (l := 7) rfl rfl, jat_m2 (k := 1) (l := 17) rfl rfl, by decide +kernel, by decide +kernel, by decide +kernel⟩, ⟨fun _ => ⟨jat_m2 (k := 9) (l := 6) rfl rfl, jat_m2 (k := 29) (l := 5) rfl rfl, _, rfl, rfl⟩, fun h => absurd h (by decide)⟩⟩
set_option maxRecDepth 8000 in
theorem jmf_262 : jmf_F (262, 12, 1, 7) := fun _ => ⟨⟨jat_m2 (k := 9) (l := 10) rfl rfl, jat_m2 (k := 1) (l := 17) rfl rfl, by decide +kernel, by decide +kernel, by decide +kernel⟩, ⟨fun h => absurd h (by decide), fun _ => jat_m2 (k := 9) (l := 9) rfl rfl⟩⟩
set_option maxRecDepth 8000 in
theorem jmf_263 : jmf_F (263, 12, 0, 1) := fun _ => ⟨⟨jat_m2 (k := 9) (l := 14) rfl rfl, jat_m2 (k := 1) (l := 17) rfl rfl, by decide +kernel, by decide +kernel, by decide +kernel⟩, ⟨fun _ => ⟨jat_m2 (k := 9) (l := 13) rfl rfl, jat_m2 (k := 29) (l := 6) rfl rfl, _, rfl, rfl⟩, fun h => absurd h (by decide)⟩⟩
set_option maxRecDepth 8000 in
theorem jmf_264 : jmf_F (264, 12, 0, 3) := fun _ => ⟨⟨jat_m2 (k := 9) (l := 18) rfl rfl, jat_m2 (k := 1) (l := 17) rfl rfl, by decide +kernel, by decide +kernel, by decide +kernel⟩, ⟨fun _ => ⟨jat_m2 (k := 9) (l := 17) rfl rfl, jat_m2 (k := 29) (l := 7) rfl rfl, _, rfl, rfl⟩, fun h => absurd h (by decide)⟩⟩
set_option maxRecDepth 8000 in
theorem jmf_265 : jmf_F (265, 12, 0, 3) := fun _ => ⟨⟨jat_m2 (k := 9) (l := 22) rfl rfl, jat_m2 (k := 1) (l := 17) rfl rfl, by decide +kernel, by decide +kernel, by decide +kernel⟩, ⟨fun _ => ⟨jat_m2 (k := 9) (l := 20) rfl rfl, jat_m2 (k := 9) (l := 21) rfl rfl, _, rfl, rfl⟩, fun h => absurd h (by decide)⟩⟩
set_option maxRecDepth 8000 in
theorem jmf_266 : jmf_F (266, 12, 0, 2) := fun _ => ⟨⟨jat_m2 (k := 9) (l := 26) rfl rfl, jat_m2 (k := 1) (l := 17) rfl rfl, by decide +kernel, by decide +kernel, by decide +kernel⟩, ⟨fun _ => ⟨jat_m2 (k := 9) (l := 24) rfl rfl, jat_m2 (k := 9) (l := 25) rfl rfl, _, rfl, rfl⟩, fun h => absurd h (by decide)⟩⟩
set_option maxRecDepth 8000 in
theorem jmf_267 : jmf_F (267, 12, 0, 5) := fun _ => ⟨⟨jat_m2 (k := 9) (l := 35) rfl rfl, jat_m2 (k := 1) (l := 17) rfl rfl, by decide +kernel, by decide +kernel, by decide +kernel⟩, ⟨fun _ => ⟨jat_m2 (k := 9) (l := 33) rfl rfl, jat_m2 (k := 9) (l := 34) rfl rfl, _, rfl, rfl⟩, fun h => absurd h (by decide)⟩⟩
set_option maxRecDepth 8000 in
theorem jmf_268 : jmf_F (268, 12, 0, 4) := fun _ => ⟨⟨jat_m2 (k := 9) (l := 39) rfl rfl, jat_m2 (k := 1) (l := 17) rfl rfl, by decide +kernel, by decide +kernel, by decide +kernel⟩, ⟨fun _ => ⟨jat_m2 (k := 9) (l := 38) rfl rfl, jat_m2 (k := 29) (l := 8) rfl rfl, _, rfl, rfl⟩, fun h => absurd h (by decide)⟩⟩
set_option maxRecDepth 8000 in
theorem jmf_269 : jmf_F (269, 12, 0, 1) := fun _ => ⟨⟨jat_m2 (k := 9) (l := 43) rfl rfl, jat_m2 (k := 1) (l := 17) rfl rfl, by decide +kernel, by decide +kernel, by decide +kernel⟩, ⟨fun _ => ⟨jat_m2 (k := 9) (l := 42) rfl rfl, jat_m2 (k := 29) (l := 9) rfl rfl, _, rfl, rfl⟩, fun h => absurd h (by decide)⟩⟩
set_option maxRecDepth 8000 in
theorem jmf_270 : jmf_F (270, 12, 0, 2) := fun _ => ⟨⟨jat_m2 (k := 9) (l := 47) rfl rfl, jat_m2 (k := 1) (l := 17) rfl rfl, by decide +kernel, by decide +kernel, by decide +kernel⟩, ⟨fun _ => ⟨jat_m2 (k := 9) (l := 46) rfl rfl, jat_m2 (k := 29) (l := 10) rfl rfl, _, rfl, rfl⟩, fun h => absurd h (by decide)⟩⟩
set_option maxRecDepth 8000 in
theorem jmf_271 : jmf_F (271, 12, 0, 1) := fun _ => ⟨⟨jat_m2 (k := 9) (l := 51) rfl rfl, jat_m2 (k := 1) (l := 17) rfl rfl, by decide +kernel, by decide +kernel, by decide +kernel⟩, ⟨fun _ => ⟨jat_m2 (k := 9) (l := 50) rfl rfl, jat_m2 (k := 29) (l := 11) rfl rfl, _, rfl, rfl⟩, fun h => absurd h (by decide)⟩⟩
theorem jmf_o16 : ∀ e ∈ jmf_r16, jmf_F e := List.forall_mem_cons.mpr ⟨jmf_256, List.forall_mem_cons.mpr ⟨jmf_257, List.forall_mem_cons.mpr ⟨jmf_258, List.forall_mem_cons.mpr ⟨jmf_259, List.forall_mem_cons.mpr ⟨jmf_260, List.forall_mem_cons.mpr ⟨jmf_261, List.forall_mem_cons.mpr ⟨jmf_262, List.forall_mem_cons.mpr ⟨jmf_263, List.forall_mem_cons.mpr ⟨jmf_264, List.forall_mem_cons.mpr ⟨jmf_265, List.forall_mem_cons.mpr ⟨jmf_266, List.forall_mem_cons.mpr ⟨jmf_267, List.forall_mem_cons.mpr ⟨jmf_268, List.forall_mem_cons.mpr ⟨jmf_269, List.forall_mem_cons.mpr ⟨jmf_270, List.forall_mem_cons.mpr ⟨jmf_271, fun _ h => absurd h List.not_mem_nil⟩⟩⟩⟩⟩⟩⟩⟩⟩⟩⟩⟩⟩⟩⟩⟩
def jmf_r17 : List (Nat × Nat × Nat × Nat) := [(272, 12, 0, 4), (273, 12, 0, 3), (274, 12, 0, 1), (275, 12, 0, 2), (276, 12, 0, 0), (277, 12, 0, 0), (278, 12, 0, 6), (279, 12, 1, 1), (280, 12, 1, 2), (281, 12, 0, 4), (282, 12, 0, 2), (283, 12, 0, 0), (284, 12, 0, 0), (285, 12, 0, 3), (286, 12, 0, 3), (287, 12, 0, 3)]
set_option maxRecDepth 8000 in
theorem jmf_272 : jmf_F (272, 12, 0, 4) := fun _ => ⟨⟨jat_m2 (k := 9) (l := 55) rfl rfl, jat_m2 (k := 1) (l := 17) rfl rfl, by decide +kernel, by decide +kernel, by decide +kernel⟩, ⟨fun _ => ⟨jat_m2 (k := 9) (l := 54) rfl rfl, jat_m2 (k := 29) (l := 12) rfl rfl, _, rfl, rfl⟩, fun h => absurd h (by decide)⟩⟩
set_option maxRecDepth 8000 in
theorem jmf_273 : jmf_F (273, 12, 0, 3) := fun _ => ⟨⟨jat_m2 (k := 9) (l := 59) rfl rfl, jat_m2 (k := 1) (l := 17) rfl rfl, by decide +kernel, by decide +kernel, by decide +kernel⟩, ⟨fun _ => ⟨jat_m2 (k := 9) (l := 58) rfl rfl, jat_m2 (k := 29) (l := 13) rfl rfl, _, rfl, rfl⟩, fun h => absurd h (by decide)⟩⟩
set_option maxRecDepth 8000 in
theorem jmf_274 : jmf_F (274, 12, 0, 1) := fun _ => ⟨⟨jat_m2 (k := 9) (l := 63) rfl rfl, jat_m2 (k := 1) (l := 17) rfl rfl, by decide +kernel, by decide +kernel, by decide +kernel⟩, ⟨fun _ => ⟨jat_m2 (k := 9) (l := 62) rfl rfl, jat_m2 (k := 29) (l := 14) rfl rfl, _, rfl, rfl⟩, fun h => absurd h (by decide)⟩⟩
set_option maxRecDepth 8000 in
theorem jmf_275 : jmf_F (275, 12, 0, 2) := fun _ => ⟨⟨jat_m2 (k := 9) (l := 67) rfl rfl, jat_m2 (k := 1) (l := 17) rfl rfl, by decide +kernel, by decide +kernel, by decide +kernel⟩, ⟨fun _ => ⟨jat_m2 (k := 9) (l := 65) rfl rfl, jat_m2 (k := 9) (l := 66) rfl rfl, _, rfl, rfl⟩, fun h => absurd h (by decide)⟩⟩
set_option maxRecDepth 8000 in
theorem jmf_276 : jmf_F (276, 12, 0, 0) := fun _ => ⟨⟨jat_m2 (k := 9) (l := 71) rfl rfl, jat_m2 (k := 1) (l := 17) rfl rfl, by decide +kernel, by decide +kernel, by decide +kernel⟩, ⟨fun _ => ⟨jat_m2 (k := 9) (l := 69) rfl rfl, jat_m2 (k := 9) (l := 70) rfl rfl, _, rfl, rfl⟩, fun h => absurd h (by decide)⟩⟩
set_option maxRecDepth 8000 in
theorem jmf_277 : jmf_F (277, 12, 0, 0) := fun _ => ⟨⟨jat_m2 (k := 9) (l := 75) rfl rfl, jat_m2 (k := 1) (l := 17) rfl rfl, by decide +kernel, by decide +kernel, by decide +kernel⟩, ⟨fun _ => ⟨jat_m2 (k := 9) (l := 73) rfl rfl, jat_m2 (k := 9) (l := 74) rfl rfl, _, rfl, rfl⟩, fun h => absurd h (by decide)⟩⟩
set_option maxRecDepth 8000 in
theorem jmf_278 : jmf_F (278, 12, 0, 6) := fun _ => ⟨⟨jat_m2 (k := 9) (l := 79) rfl rfl, jat_m2 (k := 1) (l := 17) rfl rfl, by decide +kernel, by decide +kernel, by decide +kernel⟩, ⟨fun _ => ⟨jat_m2 (k := 9) (l := 77) rfl rfl, jat_m2 (k := 9) (l := 78) rfl rfl, _, rfl, rfl⟩, fun h => absurd h (by decide)⟩⟩
set_option maxRecDepth 8000 in
theorem jmf_279 : jmf_F (279, 12, 1, 1) := fun _ => ⟨⟨jat_m2 (k := 9) (l := 82) rfl rfl, jat_m2 (k := 1) (l := 17) rfl rfl, by decide +kernel, by decide +kernel, by decide +kernel⟩, ⟨fun h => absurd h (by decide), fun _ => jat_m2 (k := 9) (l := 81) rfl rfl⟩⟩
set_option maxRecDepth 8000 in
theorem jmf_280 : jmf_F (280, 12, 1, 2) := fun _ => ⟨⟨jat_m2 (k := 9) (l := 85) rfl rfl, jat_m2 (k := 1) (l := 17) rfl rfl, by decide +kernel, by decide +kernel, by decide +kernel⟩, ⟨fun h => absurd h (by decide), fun _ => jat_m2 (k := 9) (l := 84) rfl rfl⟩⟩
set_option maxRecDepth 8000 in
theorem jmf_281 : jmf_F (281, 12, 0, 4) := fun _ => ⟨⟨jat_m2 (k := 9) (l := 89) rfl rfl, jat_m2 (k := 1) (l := 17) rfl rfl, by decide +kernel, by decide +kernel, by decide +kernel⟩, ⟨fun _ => ⟨jat_m2 (k := 9) (l := 88) rfl rfl, jat_m2 (k := 29) (l := 15) rfl rfl, _, rfl, rfl⟩, fun h => absurd h (by decide)⟩⟩
set_option maxRecDepth 8000 in
theorem jmf_282 : jmf_F (282, 12, 0, 2) := fun _ => ⟨⟨jat_m2 (k := 9) (l := 93) rfl rfl, jat_m2 (k := 1) (l := 17) rfl rfl, by decide +kernel, by decide +kernel, by decide +kernel⟩, ⟨fun _ => ⟨jat_m2 (k := 9) (l := 92) rfl rfl, jat_m2 (k := 30) (l := 0) rfl rfl, _, rfl, rfl⟩, fun h => absurd h (by decide)⟩⟩
set_option maxRecDepth 8000 in
theorem jmf_283 : jmf_F (283, 12, 0, 0) := fun _ => ⟨⟨jat_m2 (k := 9) (l := 97) rfl rfl, jat_m2 (k := 1) (l := 17) rfl rfl, by decide +kernel, by decide +kernel, by decide +kernel⟩, ⟨fun _ => ⟨jat_m2 (k := 9) (l := 96) rfl rfl, jat_m2 (k := 30) (l := 1) rfl rfl, _, rfl, rfl⟩, fun h => absurd h (by decide)⟩⟩
set_option maxRecDepth 8000 in
theorem jmf_284 : jmf_F (284, 12, 0, 0) := fun _ => ⟨⟨jat_m2 (k := 9) (l := 101) rfl rfl, jat_m2 (k := 1) (l := 17) rfl rfl, by decide +kernel, by decide +kernel, by decide +kernel⟩, ⟨fun _ => ⟨jat_m2 (k := 9) (l := 100) rfl rfl, jat_m2 (k := 30) (l := 2) rfl rfl, _, rfl, rfl⟩, fun h => absurd h (by decide)⟩⟩
set_option maxRecDepth 8000 in
theorem jmf_285 : jmf_F (285, 12, 0, 3) := fun _ => ⟨⟨jat_m2 (k := 9) (l := 105) rfl rfl, jat_m2 (k := 1) (l := 17) rfl rfl, by decide +kernel, by decide +kernel, by decide +kernel⟩, ⟨fun _ => ⟨jat_m2 (k := 9) (l := 103) rfl rfl, jat_m2 (k := 9) (l := 104) rfl rfl, _, rfl, rfl⟩, fun h => absurd h (by decide)⟩⟩
set_option maxRecDepth 8000 in
theorem jmf_286 : jmf_F (286, 12, 0, 3) := fun _ => ⟨⟨jat_m2 (k := 9) (l := 109) rfl rfl, jat_m2 (k := 1) (l := 17) rfl rfl, by decide +kernel, by decide +kernel, by decide +kernel⟩, ⟨fun _ => ⟨jat_m2 (k := 9) (l := 107) rfl rfl, jat_m2 (k := 9) (l := 108) rfl rfl, _, rfl, rfl⟩, fun h => absurd h (by decide)⟩⟩
set_option maxRecDepth 8000 in
theorem jmf_287 : jmf_F (287, 12, 0, 3) := fun _ => ⟨⟨jat_m2 (k := 9) (l := 113) rfl rfl, jat_m2 (k := 1) (l := 17) rfl rfl, by decide +kernel, by decide +kernel, by decide +kernel⟩, ⟨fun _ => ⟨jat_m2 (k := 9) (l := 112) rfl rfl, jat_m2 (k := 30) (l := 3) rfl rfl, _, rfl, rfl⟩, fun h => absurd h (by decide)⟩⟩
theorem jmf_o17 : ∀ e ∈ jmf_r17, jmf_F e := List.forall_mem_cons.mpr ⟨jmf_272, List.forall_mem_cons.mpr ⟨jmf_273, List.forall_mem_cons.mpr ⟨jmf_274, List.forall_mem_cons.mpr ⟨jmf_275, List.forall_mem_cons.mpr ⟨jmf_276, List.forall_mem_cons.mpr ⟨jmf_277, List.forall_mem_cons.mpr ⟨jmf_278, List.forall_mem_cons.mpr ⟨jmf_279, List.forall_mem_cons.mpr ⟨jmf_280, List.forall_mem_cons.mpr ⟨jmf_281, List.forall_mem_cons.mpr ⟨jmf_282, List.forall_mem_cons.mpr ⟨jmf_283, List.forall_mem_cons.mpr ⟨jmf_284, List.forall_mem_cons.mpr ⟨jmf_285, List.forall_mem_cons.mpr ⟨jmf_286, List.forall_mem_cons.mpr ⟨jmf_287, fun _ h => absurd h List.not_mem_nil⟩⟩⟩⟩⟩⟩⟩⟩⟩⟩⟩⟩⟩⟩⟩⟩
def jmf_r18 : List (Nat × Nat × Nat × Nat) := [(288, 12, 0, 1), (289, 12, 0, 1)]
set_option maxRecDepth 8000 in
theorem jmf_288 : jmf_F (288, 12, 0, 1) := fun _ => ⟨⟨jat_m2 (k := 9) (l := 117) rfl rfl, jat_m2 (k := 1) (l := 17) rfl rfl, by decide +kernel, by decide +kernel, by decide +kernel⟩, ⟨fun _ => ⟨jat_m2 (k := 9) (l := 115) rfl rfl, jat_m2 (k := 9) (l := 116) rfl rfl, _, rfl, rfl⟩, fun h => absurd h (by decide)⟩⟩
set_option maxRecDepth 8000 in
theorem jmf_289 : jmf_F (289, 12, 0, 1) := fun _ => ⟨⟨jat_m2 (k := 9) (l := 121) rfl rfl, jat_m2 (k := 1) (l := 17) rfl rfl, by decide +kernel, by decide +kernel, by decide +kernel⟩, ⟨fun _ => ⟨jat_m2 (k := 9) (l := 119) rfl rfl, jat_m2 (k := 9) (l := 120) rfl rfl, _, rfl, rfl⟩, fun h => absurd h (by decide)⟩⟩
theorem jmf_o18 : ∀ e ∈ jmf_r18, jmf_F e := List.forall_mem_cons.mpr ⟨jmf_288, List.forall_mem_cons.mpr ⟨jmf_289, fun _ h => absurd h List.not_mem_nil⟩⟩
def jmf_t : List (List (Nat × Nat × Nat × Nat)) := [jmf_r0, jmf_r1, jmf_r2, jmf_r3, jmf_r4, jmf_r5, jmf_r6, jmf_r7, jmf_r8, jmf_r9, jmf_r10, jmf_r11, jmf_r12, jmf_r13, jmf_r14, jmf_r15, jmf_r16, jmf_r17, jmf_r18]
theorem jmf_all : ∀ r ∈ jmf_t, ∀ e ∈ r, jmf_F e := List.forall_mem_cons.mpr ⟨jmf_o0, List.forall_mem_cons.mpr ⟨jmf_o1, List.forall_mem_cons.mpr ⟨jmf_o2, List.forall_mem_cons.mpr ⟨jmf_o3, List.forall_mem_cons.mpr ⟨jmf_o4, List.forall_mem_cons.mpr ⟨jmf_o5, List.forall_mem_cons.mpr ⟨jmf_o6, List.forall_mem_cons.mpr ⟨jmf_o7, List.forall_mem_cons.mpr ⟨jmf_o8, List.forall_mem_cons.mpr ⟨jmf_o9, List.forall_mem_cons.mpr ⟨jmf_o10, List.forall_mem_cons.mpr ⟨jmf_o11, List.forall_mem_cons.mpr ⟨jmf_o12, List.forall_mem_cons.mpr ⟨jmf_o13, List.forall_mem_cons.mpr ⟨jmf_o14, List.forall_mem_cons.mpr ⟨jmf_o15, List.forall_mem_cons.mpr ⟨jmf_o16, List.forall_mem_cons.mpr ⟨jmf_o17, List.forall_mem_cons.mpr ⟨jmf_o18, fun _ h => absurd h List.not_mem_nil⟩⟩⟩⟩⟩⟩⟩⟩⟩⟩⟩⟩⟩⟩⟩⟩⟩⟩⟩
def jmf : Nat → Nat × Nat × Nat × Nat := jT jmf_t (9999, 99, 2, 0)
/-- of a method: its class, whether it is static, how many arguments -/
def jtp (n : Nat) : Nat × Nat × Nat := (jmf n).2
theorem jmf_ok (n s b : Nat) (h : (jmf n).1 = n ∧ (jtp n).2 = (s, b)) (hs : s < 2) : jmw n b ∧ jmv n (jtp n).1 s := by
  rcases jT_ok jmf_all (9999, 99, 2, 0) n with q | q
  · have h2 : (jmf n).2.2 = (s, b) := h.2
    have q : jmf n = _ := q
    rw [q] at h2
    cases h2
    exact absurd hs (by decide)
  · have q : jmf_F (jmf n) := q
    unfold jmf_F at q
    have h2 : (jmf n).2.2 = (s, b) := h.2
    rw [h.1, h2] at q
    exact q hs
