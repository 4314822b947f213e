/-- the words of the tables that a callee may take over -/
def lwg : List Cond := lw_tbl.filter goodWord
theorem lwg_of {w : Cond} (i : Nat) (h : tables_1[i]? = some w) (hg : goodWord w = true) : w ∈ lwg := List.mem_filter.mpr ⟨List.mem_append_right _ (List.mem_of_getElem? h), hg⟩
theorem lwg_sel {w : Cond} (i : Nat) (h : (k2_sels lw_privs)[i]? = some w) (hg : goodWord w = true) : w ∈ lwg := List.mem_filter.mpr ⟨List.mem_append_left _ (List.mem_of_getElem? h), hg⟩
/-- the places of the heap: an int array of so many, or an object of a class (its number in vwCl) with its fields: 0 an int, 1 a boolean, k + 2 a reference to place k -/
def SH : List (Nat ⊕ (Nat × List Nat)) := [.inr (7, [3, 9, 12, 17, 20, 23, 31]),
  .inr (6, [4, 5, 6, 7, 8, 0, 0, 0, 0, 0]),
  .inl 60,
  .inl 60,
  .inl 12,
  .inl 12,
  .inl 5,
  .inr (4, [10, 11, 0]),
  .inl 120,
  .inl 120,
  .inr (5, [3, 13, 14, 15, 16, 0]),
  .inl 74,
  .inl 74,
  .inl 74,
  .inl 62,
  .inr (3, [3, 12, 9, 18, 19, 0]),
  .inl 61,
  .inl 61,
  .inr (0, [3, 9, 21, 22, 0]),
  .inl 60,
  .inl 60,
  .inr (1, [3, 12, 9, 24, 25, 26, 27, 28, 29, 30, 1, 0, 0, 0, 0, 0]),
  .inl 7381,
  .inl 120,
  .inl 120,
  .inl 120,
  .inl 60,
  .inl 60,
  .inl 60,
  .inr (2, [32, 33, 0]),
  .inl 60,
  .inl 60,
  .inr (8, [35, 36, 37, 38, 0, 39, 40, 0, 0, 0, 41, 0, 42, 43, 0, 0, 44, 45, 46, 0, 47, 48, 0, 49, 50, 0, 51, 1, 0, 52, 53, 54, 55, 0, 0]),
  .inl 60,
  .inl 60,
  .inl 60,
  .inl 60,
  .inl 12,
  .inl 12,
  .inl 5,
  .inl 120,
  .inl 120,
  .inl 61,
  .inl 61,
  .inl 61,
  .inl 120,
  .inl 120,
  .inl 14,
  .inl 14,
  .inl 7381,
  .inl 7400,
  .inl 7400,
  .inl 7400,
  .inl 7400]
/-- the place behind them: the constant array of the first costs -/
abbrev roP : Nat := 54
def MT : List (MethodName × ByteArray × Nat × Option FieldType) := [(yX0_init, cX0_init, 3, none),
  (yX0_look, cX0_look, 3, none),
  (yX0_timeGone, cX0_timeGone, 1, (some .int)),
  (yX0_startGrown, cX0_startGrown, 1, (some .int)),
  (yX0_expected, cX0_expected, 4, (some .long)),
  (yX0_firstOfLatest, cX0_firstOfLatest, 1, (some .int)),
  (yX1_init, cX1_init, 4, none),
  (yX1_find, cX1_find, 2, none),
  (yX1_tell, cX1_tell, 6, (some .int)),
  (yX1_isTouched, cX1_isTouched, 2, (some .boolean)),
  (yX1_isFaultless, cX1_isFaultless, 2, (some .boolean)),
  (yX1_restAt, cX1_restAt, 3, (some .int)),
  (yX1_lowerRest, cX1_lowerRest, 5, none),
  (yX1_playPrice, cX1_playPrice, 3, (some .int)),
  (yX1_leapPrice, cX1_leapPrice, 3, (some .int)),
  (yX1_passPrice, cX1_passPrice, 2, (some .int)),
  (yX1_weighTaking, cX1_weighTaking, 5, none),
  (yX1_weighPassing, cX1_weighPassing, 6, none),
  (yX1_walk, cX1_walk, 3, none),
  (yX1_forgetCourse, cX1_forgetCourse, 2, none),
  (yX1_walkThrough, cX1_walkThrough, 5, (some .int)),
  (yX1_match, cX1_match, 3, none),
  (yX1_eventOf, cX1_eventOf, 3, (some .int)),
  (yX1_choose, cX1_choose, 3, none),
  (yX1_plays, cX1_plays, 5, (some .boolean)),
  (yX1_stays, cX1_stays, 4, (some .boolean)),
  (yX1_passes, cX1_passes, 5, (some .boolean)),
  (yX1_leaps, cX1_leaps, 5, (some .boolean)),
  (yX1_chosen, cX1_chosen, 4, (some .boolean)),
  (yX2_init, cX2_init, 1, none),
  (yX2_open, cX2_open, 2, none),
  (yX2_raise, cX2_raise, 2, none),
  (yX2_drop, cX2_drop, 2, none),
  (yX2_put, cX2_put, 3, none),
  (yX2_countDue, cX2_countDue, 4, (some .int)),
  (yX2_dueAt, cX2_dueAt, 6, (some .int)),
  (yX3_init, cX3_init, 4, none),
  (yX3_begin, cX3_begin, 2, none),
  (yX3_valueAt, cX3_valueAt, 2, (some .int)),
  (yX3_follow, cX3_follow, 2, none),
  (yX3_passOn, cX3_passOn, 3, none),
  (yX3_passOnce, cX3_passOnce, 5, (some .boolean)),
  (yX3_take, cX3_take, 6, none),
  (yX3_lower, cX3_lower, 3, none),
  (yX3_nearestOfLeast, cX3_nearestOfLeast, 6, (some .int)),
  (yX3_forgetFar, cX3_forgetFar, 2, none),
  (yX4_init, cX4_init, 1, none),
  (yX4_add, cX4_add, 3, (some .int)),
  (yX4_lastTime, cX4_lastTime, 1, (some .int)),
  (yX5_init, cX5_init, 2, none),
  (yX5_lay, cX5_lay, 2, none),
  (yX5_layFrom, cX5_layFrom, 4, none),
  (yX5_add, cX5_add, 4, none),
  (yX5_beginOf, cX5_beginOf, 2, (some .int)),
  (yX5_endOf, cX5_endOf, 2, (some .int)),
  (yX6_init, cX6_init, 1, none),
  (yX6_empty, cX6_empty, 2, none),
  (yX6_addNote, cX6_addNote, 3, (some .int)),
  (yX6_addWay, cX6_addWay, 3, (some .int)),
  (yX6_isNote, cX6_isNote, 2, (some .boolean)),
  (yX6_hasWay, cX6_hasWay, 4, (some .boolean)),
  (yX6_hasLoop, cX6_hasLoop, 1, (some .boolean)),
  (yX6_lastStart, cX6_lastStart, 1, (some .int)),
  (yX6_firstThere, cX6_firstThere, 1, (some .int)),
  (yX6_lastThere, cX6_lastThere, 1, (some .int)),
  (yX6_isThere, cX6_isThere, 2, (some .boolean)),
  (yX6_mistake, cX6_mistake, 3, (some .int)),
  (yX7_init, cX7_init, 1, none),
  (yX7_clear, cX7_clear, 1, none),
  (yX7_note, cX7_note, 4, (some .int)),
  (yX7_way, cX7_way, 3, (some .int)),
  (yX7_loop, cX7_loop, 5, (some .int)),
  (yX7_cost, cX7_cost, 5, (some .int)),
  (yX7_span, cX7_span, 3, (some .int)),
  (yX7_hear, cX7_hear, 3, (some .int)),
  (yX7_cut, cX7_cut, 3, (some .int)),
  (yX7_valueOf, cX7_valueOf, 3, (some .int)),
  (yX7_tempo, cX7_tempo, 2, (some .int)),
  (yX7_ahead, cX7_ahead, 2, (some .long)),
  (yX7_align, cX7_align, 1, (some .int)),
  (yX7_step, cX7_step, 3, (some .int)),
  (yX7_steps, cX7_steps, 1, (some .int)),
  (yX7_matched, cX7_matched, 2, (some .int)),
  (yX7_grade, cX7_grade, 3, (some .int)),
  (yX7_mean, cX7_mean, 3, (some .int)),
  (yX7_end, cX7_end, 2, (some .int)),
  (yX7_due, cX7_due, 2, (some .int)),
  (yX7_of, cX7_of, 3, (some .int)),
  (yX7_told, cX7_told, 2, (some .int)),
  (yX7_hearNothing, cX7_hearNothing, 1, none),
  (yX7_followOn, cX7_followOn, 2, none),
  (yX7_isWithin, cX7_isWithin, 3, (some .boolean)),
  (yX7_sumOf, cX7_sumOf, 4, (some .int)),
  (yX7_lowestTerms, cX7_lowestTerms, 5, (some .int)),
  (yX7_commonDivisor, cX7_commonDivisor, 6, (some .int)),
  (yX8_init, cX8_init, 1, none),
  (yX8_thrown, cX8_thrown, 1, (some .int)),
  (yX8_begin, cX8_begin, 1, none),
  (yX8_fresh, cX8_fresh, 1, none),
  (yX8_clear, cX8_clear, 1, none),
  (yX8_isThere, cX8_isThere, 2, (some .boolean)),
  (yX8_note, cX8_note, 3, (some .int)),
  (yX8_way, cX8_way, 5, (some .int)),
  (yX8_loop, cX8_loop, 4, (some .int)),
  (yX8_cost, cX8_cost, 4, (some .int)),
  (yX8_span, cX8_span, 3, (some .int)),
  (yX8_nextsOf, cX8_nextsOf, 4, none),
  (yX8_lay, cX8_lay, 3, none),
  (yX8_wrong, cX8_wrong, 3, (some .int)),
  (yX8_follow, cX8_follow, 2, none),
  (yX8_further, cX8_further, 2, none),
  (yX8_pass, cX8_pass, 5, none),
  (yX8_take, cX8_take, 6, none),
  (yX8_choose, cX8_choose, 6, none),
  (yX8_anchor, cX8_anchor, 2, none),
  (yX8_hear, cX8_hear, 3, (some .int)),
  (yX8_cut, cX8_cut, 2, (some .int)),
  (yX8_valueOf, cX8_valueOf, 2, (some .int)),
  (yX8_common, cX8_common, 5, (some .int)),
  (yX8_tempoOf, cX8_tempoOf, 6, (some .int)),
  (yX8_tempo, cX8_tempo, 2, (some .int)),
  (yX8_ahead, cX8_ahead, 8, (some .long)),
  (yX8_at, cX8_at, 3, (some .int)),
  (yX8_left, cX8_left, 6, none),
  (yX8_put, cX8_put, 5, none),
  (yX8_choose_, cX8_choose_, 6, none),
  (yX8_align, cX8_align, 3, (some .int)),
  (yX8_step, cX8_step, 3, (some .int)),
  (yX8_steps, cX8_steps, 1, (some .int)),
  (yX8_matched, cX8_matched, 4, (some .int)),
  (yX8_count, cX8_count, 7, (some .int)),
  (yX8_grade, cX8_grade, 3, (some .int)),
  (yX8_mean, cX8_mean, 5, (some .int)),
  (yX8_end, cX8_end, 4, (some .int)),
  (yX8_due, cX8_due, 6, (some .int)),
  (yX8_of, cX8_of, 3, (some .int)),
  (yX8_told, cX8_told, 2, (some .int)),
  (yJ9_floorDiv_f86c9, cJ9_floorDiv_f86c9, 6, (some .long)),
  (yJ9_abs_0f7a4, cJ9_abs_0f7a4, 1, (some .int)),
  (yJ9_max_7cf53, cJ9_max_7cf53, 2, (some .int)),
  (yJ9_min_7cf53, cJ9_min_7cf53, 2, (some .int))]
def mt_get (mi : Nat) : MethodName × ByteArray × Nat × Option FieldType := MT.getD mi (yX0_init, cX0_init, 0, none)
def mY (mi : Nat) : MethodName := (mt_get mi).1
def mB (mi : Nat) : ByteArray := (mt_get mi).2.1
def mX (mi : Nat) : Nat := (mt_get mi).2.2.1
def mR (mi : Nat) : Option FieldType := (mt_get mi).2.2.2
abbrev m_X0_init : Nat := 0
abbrev m_X0_look : Nat := 1
abbrev m_X0_timeGone : Nat := 2
abbrev m_X0_startGrown : Nat := 3
abbrev m_X0_expected : Nat := 4
abbrev m_X0_firstOfLatest : Nat := 5
abbrev m_X1_init : Nat := 6
abbrev m_X1_find : Nat := 7
abbrev m_X1_tell : Nat := 8
abbrev m_X1_isTouched : Nat := 9
abbrev m_X1_isFaultless : Nat := 10
abbrev m_X1_restAt : Nat := 11
abbrev m_X1_lowerRest : Nat := 12
abbrev m_X1_playPrice : Nat := 13
abbrev m_X1_leapPrice : Nat := 14
abbrev m_X1_passPrice : Nat := 15
abbrev m_X1_weighTaking : Nat := 16
abbrev m_X1_weighPassing : Nat := 17
abbrev m_X1_walk : Nat := 18
abbrev m_X1_forgetCourse : Nat := 19
abbrev m_X1_walkThrough : Nat := 20
abbrev m_X1_match : Nat := 21
abbrev m_X1_eventOf : Nat := 22
abbrev m_X1_choose : Nat := 23
abbrev m_X1_plays : Nat := 24
abbrev m_X1_stays : Nat := 25
abbrev m_X1_passes : Nat := 26
abbrev m_X1_leaps : Nat := 27
abbrev m_X1_chosen : Nat := 28
abbrev m_X2_init : Nat := 29
abbrev m_X2_open : Nat := 30
abbrev m_X2_raise : Nat := 31
abbrev m_X2_drop : Nat := 32
abbrev m_X2_put : Nat := 33
abbrev m_X2_countDue : Nat := 34
abbrev m_X2_dueAt : Nat := 35
abbrev m_X3_init : Nat := 36
abbrev m_X3_begin : Nat := 37
abbrev m_X3_valueAt : Nat := 38
abbrev m_X3_follow : Nat := 39
abbrev m_X3_passOn : Nat := 40
abbrev m_X3_passOnce : Nat := 41
abbrev m_X3_take : Nat := 42
abbrev m_X3_lower : Nat := 43
abbrev m_X3_nearestOfLeast : Nat := 44
abbrev m_X3_forgetFar : Nat := 45
abbrev m_X4_init : Nat := 46
abbrev m_X4_add : Nat := 47
abbrev m_X4_lastTime : Nat := 48
abbrev m_X5_init : Nat := 49
abbrev m_X5_lay : Nat := 50
abbrev m_X5_layFrom : Nat := 51
abbrev m_X5_add : Nat := 52
abbrev m_X5_beginOf : Nat := 53
abbrev m_X5_endOf : Nat := 54
abbrev m_X6_init : Nat := 55
abbrev m_X6_empty : Nat := 56
abbrev m_X6_addNote : Nat := 57
abbrev m_X6_addWay : Nat := 58
abbrev m_X6_isNote : Nat := 59
abbrev m_X6_hasWay : Nat := 60
abbrev m_X6_hasLoop : Nat := 61
abbrev m_X6_lastStart : Nat := 62
abbrev m_X6_firstThere : Nat := 63
abbrev m_X6_lastThere : Nat := 64
abbrev m_X6_isThere : Nat := 65
abbrev m_X6_mistake : Nat := 66
abbrev m_X7_init : Nat := 67
abbrev m_X7_clear : Nat := 68
abbrev m_X7_note : Nat := 69
abbrev m_X7_way : Nat := 70
abbrev m_X7_loop : Nat := 71
abbrev m_X7_cost : Nat := 72
abbrev m_X7_span : Nat := 73
abbrev m_X7_hear : Nat := 74
abbrev m_X7_cut : Nat := 75
abbrev m_X7_valueOf : Nat := 76
abbrev m_X7_tempo : Nat := 77
abbrev m_X7_ahead : Nat := 78
abbrev m_X7_align : Nat := 79
abbrev m_X7_step : Nat := 80
abbrev m_X7_steps : Nat := 81
abbrev m_X7_matched : Nat := 82
abbrev m_X7_grade : Nat := 83
abbrev m_X7_mean : Nat := 84
abbrev m_X7_end : Nat := 85
abbrev m_X7_due : Nat := 86
abbrev m_X7_of : Nat := 87
abbrev m_X7_told : Nat := 88
abbrev m_X7_hearNothing : Nat := 89
abbrev m_X7_followOn : Nat := 90
abbrev m_X7_isWithin : Nat := 91
abbrev m_X7_sumOf : Nat := 92
abbrev m_X7_lowestTerms : Nat := 93
abbrev m_X7_commonDivisor : Nat := 94
abbrev m_X8_init : Nat := 95
abbrev m_X8_thrown : Nat := 96
abbrev m_X8_begin : Nat := 97
abbrev m_X8_fresh : Nat := 98
abbrev m_X8_clear : Nat := 99
abbrev m_X8_isThere : Nat := 100
abbrev m_X8_note : Nat := 101
abbrev m_X8_way : Nat := 102
abbrev m_X8_loop : Nat := 103
abbrev m_X8_cost : Nat := 104
abbrev m_X8_span : Nat := 105
abbrev m_X8_nextsOf : Nat := 106
abbrev m_X8_lay : Nat := 107
abbrev m_X8_wrong : Nat := 108
abbrev m_X8_follow : Nat := 109
abbrev m_X8_further : Nat := 110
abbrev m_X8_pass : Nat := 111
abbrev m_X8_take : Nat := 112
abbrev m_X8_choose : Nat := 113
abbrev m_X8_anchor : Nat := 114
abbrev m_X8_hear : Nat := 115
abbrev m_X8_cut : Nat := 116
abbrev m_X8_valueOf : Nat := 117
abbrev m_X8_common : Nat := 118
abbrev m_X8_tempoOf : Nat := 119
abbrev m_X8_tempo : Nat := 120
abbrev m_X8_ahead : Nat := 121
abbrev m_X8_at : Nat := 122
abbrev m_X8_left : Nat := 123
abbrev m_X8_put : Nat := 124
abbrev m_X8_choose_ : Nat := 125
abbrev m_X8_align : Nat := 126
abbrev m_X8_step : Nat := 127
abbrev m_X8_steps : Nat := 128
abbrev m_X8_matched : Nat := 129
abbrev m_X8_count : Nat := 130
abbrev m_X8_grade : Nat := 131
abbrev m_X8_mean : Nat := 132
abbrev m_X8_end : Nat := 133
abbrev m_X8_due : Nat := 134
abbrev m_X8_of : Nat := 135
abbrev m_X8_told : Nat := 136
abbrev m_J9_floorDiv_f86c9 : Nat := 137
abbrev m_J9_abs_0f7a4 : Nat := 138
abbrev m_J9_max_7cf53 : Nat := 139
abbrev m_J9_min_7cf53 : Nat := 140
def ra_F (own : String) (idx ci k : Nat) : Prop := ∃ (C : String) (T : u_T) (N : Nat), vwCl[ci]? = some (C, T, N) ∧ k < N ∧ (T k).1 = C ∧ Cond.fieldLink own idx C (T k).2.1 (T k).2.2.1 ∈ lwg
def ra_FP (own : String) (idx ci k kd : Nat) : Prop := ∃ (C : String) (T : u_T) (N : Nat), vwCl[ci]? = some (C, T, N) ∧ k < N ∧ (T k).1 = C ∧ Cond.fieldLink own idx C (T k).2.1 (T k).2.2.1 ∈ lwg ∧ (T k).2.2.2 = false ∧ parseFieldDescriptor (T k).2.2.1 = some (if kd = 0 then .int else .boolean)
def ra_C (own : String) (idx : Nat) (z : Int) : Prop := Cond.constant own idx (Int32.ofInt z) ∈ lwg ∧ -2147483648 ≤ z ∧ z ≤ 2147483647
def ra_CJ (own : String) (idx : Nat) (z : Int) : Prop := Cond.constantLong own idx (Int64.ofInt z) ∈ lwg ∧ -9223372036854775808 ≤ z ∧ z ≤ 9223372036854775807
def ra_ok (mi : Nat) : Prop := (plainFor (mY mi) = true ∧ (mY mi).cls ≠ "java/lang/invoke/MethodHandle" ∧ (mY mi).cls ≠ "java/lang/invoke/VarHandle") ∧ Cond.code (mY mi) (mB mi) (mX mi) (mR mi) ∈ lwg ∧ Cond.initialized (mY mi).cls ∈ lwg ∧ mX mi ≤ 15
def ra_CV (own : String) (idx mi n : Nat) : Prop := Cond.methodLink own idx (mY mi) ∈ lwg ∧ Cond.instanceMethod (mY mi) ∈ lwg ∧ Cond.selects (mY mi).cls (mY mi) (mY mi) ∈ lwg ∧ (parseMethodDescriptor (mY mi).desc).map (fun d => d.parameters.length) = some n ∧ ra_ok mi
def ra_CS (own : String) (idx mi n : Nat) : Prop := Cond.methodLink own idx (mY mi) ∈ lwg ∧ Cond.static (mY mi) ∈ lwg ∧ (parseMethodDescriptor (mY mi).desc).map (fun d => d.parameters.length) = some n ∧ ra_ok mi
def ra_gw : Cond := Cond.fieldLinkNest RX6 24 "FollowScore" "FIRST_COSTS" "[I" "FollowScore"
theorem ra_gw_in : ra_gw ∈ lw_tbl := List.mem_append_right _ (List.mem_of_getElem? (i := 29) (by decide +kernel))
def ra_G (own : String) (idx : Nat) : Prop := own = RX6 ∧ idx = 24
set_option maxRecDepth 30000 in
theorem ok_X0_init : ra_ok 0 := ⟨⟨by decide +kernel, by decide +kernel, by decide +kernel⟩, lwg_of 180 rfl rfl, lwg_of 6 rfl rfl, by decide⟩
set_option maxRecDepth 30000 in
theorem ok_X0_look : ra_ok 1 := ⟨⟨by decide +kernel, by decide +kernel, by decide +kernel⟩, lwg_of 455 rfl rfl, lwg_of 6 rfl rfl, by decide⟩
set_option maxRecDepth 30000 in
theorem ok_X0_timeGone : ra_ok 2 := ⟨⟨by decide +kernel, by decide +kernel, by decide +kernel⟩, lwg_of 474 rfl rfl, lwg_of 6 rfl rfl, by decide⟩
set_option maxRecDepth 30000 in
theorem ok_X0_startGrown : ra_ok 3 := ⟨⟨by decide +kernel, by decide +kernel, by decide +kernel⟩, lwg_of 485 rfl rfl, lwg_of 6 rfl rfl, by decide⟩
set_option maxRecDepth 30000 in
theorem ok_X0_expected : ra_ok 4 := ⟨⟨by decide +kernel, by decide +kernel, by decide +kernel⟩, lwg_of 501 rfl rfl, lwg_of 6 rfl rfl, by decide⟩
set_option maxRecDepth 30000 in
theorem ok_X0_firstOfLatest : ra_ok 5 := ⟨⟨by decide +kernel, by decide +kernel, by decide +kernel⟩, lwg_of 478 rfl rfl, lwg_of 6 rfl rfl, by decide⟩
set_option maxRecDepth 30000 in
theorem ok_X1_init : ra_ok 6 := ⟨⟨by decide +kernel, by decide +kernel, by decide +kernel⟩, lwg_of 203 rfl rfl, lwg_of 7 rfl rfl, by decide⟩
set_option maxRecDepth 30000 in
theorem ok_X1_find : ra_ok 7 := ⟨⟨by decide +kernel, by decide +kernel, by decide +kernel⟩, lwg_of 515 rfl rfl, lwg_of 7 rfl rfl, by decide⟩
set_option maxRecDepth 30000 in
theorem ok_X1_tell : ra_ok 8 := ⟨⟨by decide +kernel, by decide +kernel, by decide +kernel⟩, lwg_of 604 rfl rfl, lwg_of 7 rfl rfl, by decide⟩
set_option maxRecDepth 30000 in
theorem ok_X1_isTouched : ra_ok 9 := ⟨⟨by decide +kernel, by decide +kernel, by decide +kernel⟩, lwg_of 641 rfl rfl, lwg_of 7 rfl rfl, by decide⟩
set_option maxRecDepth 30000 in
theorem ok_X1_isFaultless : ra_ok 10 := ⟨⟨by decide +kernel, by decide +kernel, by decide +kernel⟩, lwg_of 628 rfl rfl, lwg_of 7 rfl rfl, by decide⟩
set_option maxRecDepth 30000 in
theorem ok_X1_restAt : ra_ok 11 := ⟨⟨by decide +kernel, by decide +kernel, by decide +kernel⟩, lwg_of 531 rfl rfl, lwg_of 7 rfl rfl, by decide⟩
set_option maxRecDepth 30000 in
theorem ok_X1_lowerRest : ra_ok 12 := ⟨⟨by decide +kernel, by decide +kernel, by decide +kernel⟩, lwg_of 540 rfl rfl, lwg_of 7 rfl rfl, by decide⟩
set_option maxRecDepth 30000 in
theorem ok_X1_playPrice : ra_ok 13 := ⟨⟨by decide +kernel, by decide +kernel, by decide +kernel⟩, lwg_of 536 rfl rfl, lwg_of 7 rfl rfl, by decide⟩
set_option maxRecDepth 30000 in
theorem ok_X1_leapPrice : ra_ok 14 := ⟨⟨by decide +kernel, by decide +kernel, by decide +kernel⟩, lwg_of 526 rfl rfl, lwg_of 7 rfl rfl, by decide⟩
set_option maxRecDepth 30000 in
theorem ok_X1_passPrice : ra_ok 15 := ⟨⟨by decide +kernel, by decide +kernel, by decide +kernel⟩, lwg_of 548 rfl rfl, lwg_of 7 rfl rfl, by decide⟩
set_option maxRecDepth 30000 in
theorem ok_X1_weighTaking : ra_ok 16 := ⟨⟨by decide +kernel, by decide +kernel, by decide +kernel⟩, lwg_of 519 rfl rfl, lwg_of 7 rfl rfl, by decide⟩
set_option maxRecDepth 30000 in
theorem ok_X1_weighPassing : ra_ok 17 := ⟨⟨by decide +kernel, by decide +kernel, by decide +kernel⟩, lwg_of 544 rfl rfl, lwg_of 7 rfl rfl, by decide⟩
set_option maxRecDepth 30000 in
theorem ok_X1_walk : ra_ok 18 := ⟨⟨by decide +kernel, by decide +kernel, by decide +kernel⟩, lwg_of 552 rfl rfl, lwg_of 7 rfl rfl, by decide⟩
set_option maxRecDepth 30000 in
theorem ok_X1_forgetCourse : ra_ok 19 := ⟨⟨by decide +kernel, by decide +kernel, by decide +kernel⟩, lwg_of 556 rfl rfl, lwg_of 7 rfl rfl, by decide⟩
set_option maxRecDepth 30000 in
theorem ok_X1_walkThrough : ra_ok 20 := ⟨⟨by decide +kernel, by decide +kernel, by decide +kernel⟩, lwg_of 560 rfl rfl, lwg_of 7 rfl rfl, by decide⟩
set_option maxRecDepth 30000 in
theorem ok_X1_match : ra_ok 21 := ⟨⟨by decide +kernel, by decide +kernel, by decide +kernel⟩, lwg_of 596 rfl rfl, lwg_of 7 rfl rfl, by decide⟩
set_option maxRecDepth 30000 in
theorem ok_X1_eventOf : ra_ok 22 := ⟨⟨by decide +kernel, by decide +kernel, by decide +kernel⟩, lwg_of 608 rfl rfl, lwg_of 7 rfl rfl, by decide⟩
set_option maxRecDepth 30000 in
theorem ok_X1_choose : ra_ok 23 := ⟨⟨by decide +kernel, by decide +kernel, by decide +kernel⟩, lwg_of 564 rfl rfl, lwg_of 7 rfl rfl, by decide⟩
set_option maxRecDepth 30000 in
theorem ok_X1_plays : ra_ok 24 := ⟨⟨by decide +kernel, by decide +kernel, by decide +kernel⟩, lwg_of 568 rfl rfl, lwg_of 7 rfl rfl, by decide⟩
set_option maxRecDepth 30000 in
theorem ok_X1_stays : ra_ok 25 := ⟨⟨by decide +kernel, by decide +kernel, by decide +kernel⟩, lwg_of 584 rfl rfl, lwg_of 7 rfl rfl, by decide⟩
set_option maxRecDepth 30000 in
theorem ok_X1_passes : ra_ok 26 := ⟨⟨by decide +kernel, by decide +kernel, by decide +kernel⟩, lwg_of 588 rfl rfl, lwg_of 7 rfl rfl, by decide⟩
set_option maxRecDepth 30000 in
theorem ok_X1_leaps : ra_ok 27 := ⟨⟨by decide +kernel, by decide +kernel, by decide +kernel⟩, lwg_of 592 rfl rfl, lwg_of 7 rfl rfl, by decide⟩
set_option maxRecDepth 30000 in
theorem ok_X1_chosen : ra_ok 28 := ⟨⟨by decide +kernel, by decide +kernel, by decide +kernel⟩, lwg_of 580 rfl rfl, lwg_of 7 rfl rfl, by decide⟩
set_option maxRecDepth 30000 in
theorem ok_X2_init : ra_ok 29 := ⟨⟨by decide +kernel, by decide +kernel, by decide +kernel⟩, lwg_of 265 rfl rfl, lwg_of 8 rfl rfl, by decide⟩
set_option maxRecDepth 30000 in
theorem ok_X2_open : ra_ok 30 := ⟨⟨by decide +kernel, by decide +kernel, by decide +kernel⟩, lwg_of 335 rfl rfl, lwg_of 8 rfl rfl, by decide⟩
set_option maxRecDepth 30000 in
theorem ok_X2_raise : ra_ok 31 := ⟨⟨by decide +kernel, by decide +kernel, by decide +kernel⟩, lwg_of 632 rfl rfl, lwg_of 8 rfl rfl, by decide⟩
set_option maxRecDepth 30000 in
theorem ok_X2_drop : ra_ok 32 := ⟨⟨by decide +kernel, by decide +kernel, by decide +kernel⟩, lwg_of 645 rfl rfl, lwg_of 8 rfl rfl, by decide⟩
set_option maxRecDepth 30000 in
theorem ok_X2_put : ra_ok 33 := ⟨⟨by decide +kernel, by decide +kernel, by decide +kernel⟩, lwg_of 637 rfl rfl, lwg_of 8 rfl rfl, by decide⟩
set_option maxRecDepth 30000 in
theorem ok_X2_countDue : ra_ok 34 := ⟨⟨by decide +kernel, by decide +kernel, by decide +kernel⟩, lwg_of 649 rfl rfl, lwg_of 8 rfl rfl, by decide⟩
set_option maxRecDepth 30000 in
theorem ok_X2_dueAt : ra_ok 35 := ⟨⟨by decide +kernel, by decide +kernel, by decide +kernel⟩, lwg_of 657 rfl rfl, lwg_of 8 rfl rfl, by decide⟩
set_option maxRecDepth 30000 in
theorem ok_X3_init : ra_ok 36 := ⟨⟨by decide +kernel, by decide +kernel, by decide +kernel⟩, lwg_of 149 rfl rfl, lwg_of 5 rfl rfl, by decide⟩
set_option maxRecDepth 30000 in
theorem ok_X3_begin : ra_ok 37 := ⟨⟨by decide +kernel, by decide +kernel, by decide +kernel⟩, lwg_of 154 rfl rfl, lwg_of 5 rfl rfl, by decide⟩
set_option maxRecDepth 30000 in
theorem ok_X3_valueAt : ra_ok 38 := ⟨⟨by decide +kernel, by decide +kernel, by decide +kernel⟩, lwg_of 444 rfl rfl, lwg_of 5 rfl rfl, by decide⟩
set_option maxRecDepth 30000 in
theorem ok_X3_follow : ra_ok 39 := ⟨⟨by decide +kernel, by decide +kernel, by decide +kernel⟩, lwg_of 411 rfl rfl, lwg_of 5 rfl rfl, by decide⟩
set_option maxRecDepth 30000 in
theorem ok_X3_passOn : ra_ok 40 := ⟨⟨by decide +kernel, by decide +kernel, by decide +kernel⟩, lwg_of 415 rfl rfl, lwg_of 5 rfl rfl, by decide⟩
set_option maxRecDepth 30000 in
theorem ok_X3_passOnce : ra_ok 41 := ⟨⟨by decide +kernel, by decide +kernel, by decide +kernel⟩, lwg_of 419 rfl rfl, lwg_of 5 rfl rfl, by decide⟩
set_option maxRecDepth 30000 in
theorem ok_X3_take : ra_ok 42 := ⟨⟨by decide +kernel, by decide +kernel, by decide +kernel⟩, lwg_of 423 rfl rfl, lwg_of 5 rfl rfl, by decide⟩
set_option maxRecDepth 30000 in
theorem ok_X3_lower : ra_ok 43 := ⟨⟨by decide +kernel, by decide +kernel, by decide +kernel⟩, lwg_of 436 rfl rfl, lwg_of 5 rfl rfl, by decide⟩
set_option maxRecDepth 30000 in
theorem ok_X3_nearestOfLeast : ra_ok 44 := ⟨⟨by decide +kernel, by decide +kernel, by decide +kernel⟩, lwg_of 440 rfl rfl, lwg_of 5 rfl rfl, by decide⟩
set_option maxRecDepth 30000 in
theorem ok_X3_forgetFar : ra_ok 45 := ⟨⟨by decide +kernel, by decide +kernel, by decide +kernel⟩, lwg_of 451 rfl rfl, lwg_of 5 rfl rfl, by decide⟩
set_option maxRecDepth 30000 in
theorem ok_X4_init : ra_ok 46 := ⟨⟨by decide +kernel, by decide +kernel, by decide +kernel⟩, lwg_of 94 rfl rfl, lwg_of 3 rfl rfl, by decide⟩
set_option maxRecDepth 30000 in
theorem ok_X4_add : ra_ok 47 := ⟨⟨by decide +kernel, by decide +kernel, by decide +kernel⟩, lwg_of 403 rfl rfl, lwg_of 3 rfl rfl, by decide⟩
set_option maxRecDepth 30000 in
theorem ok_X4_lastTime : ra_ok 48 := ⟨⟨by decide +kernel, by decide +kernel, by decide +kernel⟩, lwg_of 372 rfl rfl, lwg_of 3 rfl rfl, by decide⟩
set_option maxRecDepth 30000 in
theorem ok_X5_init : ra_ok 49 := ⟨⟨by decide +kernel, by decide +kernel, by decide +kernel⟩, lwg_of 116 rfl rfl, lwg_of 4 rfl rfl, by decide⟩
set_option maxRecDepth 30000 in
theorem ok_X5_lay : ra_ok 50 := ⟨⟨by decide +kernel, by decide +kernel, by decide +kernel⟩, lwg_of 376 rfl rfl, lwg_of 4 rfl rfl, by decide⟩
set_option maxRecDepth 30000 in
theorem ok_X5_layFrom : ra_ok 51 := ⟨⟨by decide +kernel, by decide +kernel, by decide +kernel⟩, lwg_of 393 rfl rfl, lwg_of 4 rfl rfl, by decide⟩
set_option maxRecDepth 30000 in
theorem ok_X5_add : ra_ok 52 := ⟨⟨by decide +kernel, by decide +kernel, by decide +kernel⟩, lwg_of 398 rfl rfl, lwg_of 4 rfl rfl, by decide⟩
set_option maxRecDepth 30000 in
theorem ok_X5_beginOf : ra_ok 53 := ⟨⟨by decide +kernel, by decide +kernel, by decide +kernel⟩, lwg_of 572 rfl rfl, lwg_of 4 rfl rfl, by decide⟩
set_option maxRecDepth 30000 in
theorem ok_X5_endOf : ra_ok 54 := ⟨⟨by decide +kernel, by decide +kernel, by decide +kernel⟩, lwg_of 576 rfl rfl, lwg_of 4 rfl rfl, by decide⟩
set_option maxRecDepth 30000 in
theorem ok_X6_init : ra_ok 55 := ⟨⟨by decide +kernel, by decide +kernel, by decide +kernel⟩, lwg_of 27 rfl rfl, lwg_of 2 rfl rfl, by decide⟩
set_option maxRecDepth 30000 in
theorem ok_X6_empty : ra_ok 56 := ⟨⟨by decide +kernel, by decide +kernel, by decide +kernel⟩, lwg_of 34 rfl rfl, lwg_of 2 rfl rfl, by decide⟩
set_option maxRecDepth 30000 in
theorem ok_X6_addNote : ra_ok 57 := ⟨⟨by decide +kernel, by decide +kernel, by decide +kernel⟩, lwg_of 331 rfl rfl, lwg_of 2 rfl rfl, by decide⟩
set_option maxRecDepth 30000 in
theorem ok_X6_addWay : ra_ok 58 := ⟨⟨by decide +kernel, by decide +kernel, by decide +kernel⟩, lwg_of 351 rfl rfl, lwg_of 2 rfl rfl, by decide⟩
set_option maxRecDepth 30000 in
theorem ok_X6_isNote : ra_ok 59 := ⟨⟨by decide +kernel, by decide +kernel, by decide +kernel⟩, lwg_of 343 rfl rfl, lwg_of 2 rfl rfl, by decide⟩
set_option maxRecDepth 30000 in
theorem ok_X6_hasWay : ra_ok 60 := ⟨⟨by decide +kernel, by decide +kernel, by decide +kernel⟩, lwg_of 347 rfl rfl, lwg_of 2 rfl rfl, by decide⟩
set_option maxRecDepth 30000 in
theorem ok_X6_hasLoop : ra_ok 61 := ⟨⟨by decide +kernel, by decide +kernel, by decide +kernel⟩, lwg_of 327 rfl rfl, lwg_of 2 rfl rfl, by decide⟩
set_option maxRecDepth 30000 in
theorem ok_X6_lastStart : ra_ok 62 := ⟨⟨by decide +kernel, by decide +kernel, by decide +kernel⟩, lwg_of 323 rfl rfl, lwg_of 2 rfl rfl, by decide⟩
set_option maxRecDepth 30000 in
theorem ok_X6_firstThere : ra_ok 63 := ⟨⟨by decide +kernel, by decide +kernel, by decide +kernel⟩, lwg_of 384 rfl rfl, lwg_of 2 rfl rfl, by decide⟩
set_option maxRecDepth 30000 in
theorem ok_X6_lastThere : ra_ok 64 := ⟨⟨by decide +kernel, by decide +kernel, by decide +kernel⟩, lwg_of 389 rfl rfl, lwg_of 2 rfl rfl, by decide⟩
set_option maxRecDepth 30000 in
theorem ok_X6_isThere : ra_ok 65 := ⟨⟨by decide +kernel, by decide +kernel, by decide +kernel⟩, lwg_of 380 rfl rfl, lwg_of 2 rfl rfl, by decide⟩
set_option maxRecDepth 30000 in
theorem ok_X6_mistake : ra_ok 66 := ⟨⟨by decide +kernel, by decide +kernel, by decide +kernel⟩, lwg_of 432 rfl rfl, lwg_of 2 rfl rfl, by decide⟩
set_option maxRecDepth 30000 in
theorem ok_X7_init : ra_ok 67 := ⟨⟨by decide +kernel, by decide +kernel, by decide +kernel⟩, lwg_of 19 rfl rfl, lwg_of 1 rfl rfl, by decide⟩
set_option maxRecDepth 30000 in
theorem ok_X7_clear : ra_ok 68 := ⟨⟨by decide +kernel, by decide +kernel, by decide +kernel⟩, lwg_of 305 rfl rfl, lwg_of 1 rfl rfl, by decide⟩
set_option maxRecDepth 30000 in
theorem ok_X7_note : ra_ok 69 := ⟨⟨by decide +kernel, by decide +kernel, by decide +kernel⟩, lwg_of 315 rfl rfl, lwg_of 1 rfl rfl, by decide⟩
set_option maxRecDepth 30000 in
theorem ok_X7_way : ra_ok 70 := ⟨⟨by decide +kernel, by decide +kernel, by decide +kernel⟩, lwg_of 339 rfl rfl, lwg_of 1 rfl rfl, by decide⟩
set_option maxRecDepth 30000 in
theorem ok_X7_loop : ra_ok 71 := ⟨⟨by decide +kernel, by decide +kernel, by decide +kernel⟩, lwg_of 355 rfl rfl, lwg_of 1 rfl rfl, by decide⟩
set_option maxRecDepth 30000 in
theorem ok_X7_cost : ra_ok 72 := ⟨⟨by decide +kernel, by decide +kernel, by decide +kernel⟩, lwg_of 359 rfl rfl, lwg_of 1 rfl rfl, by decide⟩
set_option maxRecDepth 30000 in
theorem ok_X7_span : ra_ok 73 := ⟨⟨by decide +kernel, by decide +kernel, by decide +kernel⟩, lwg_of 363 rfl rfl, lwg_of 1 rfl rfl, by decide⟩
set_option maxRecDepth 30000 in
theorem ok_X7_hear : ra_ok 74 := ⟨⟨by decide +kernel, by decide +kernel, by decide +kernel⟩, lwg_of 367 rfl rfl, lwg_of 1 rfl rfl, by decide⟩
set_option maxRecDepth 30000 in
theorem ok_X7_cut : ra_ok 75 := ⟨⟨by decide +kernel, by decide +kernel, by decide +kernel⟩, lwg_of 460 rfl rfl, lwg_of 1 rfl rfl, by decide⟩
set_option maxRecDepth 30000 in
theorem ok_X7_valueOf : ra_ok 76 := ⟨⟨by decide +kernel, by decide +kernel, by decide +kernel⟩, lwg_of 464 rfl rfl, lwg_of 1 rfl rfl, by decide⟩
set_option maxRecDepth 30000 in
theorem ok_X7_tempo : ra_ok 77 := ⟨⟨by decide +kernel, by decide +kernel, by decide +kernel⟩, lwg_of 470 rfl rfl, lwg_of 1 rfl rfl, by decide⟩
set_option maxRecDepth 30000 in
theorem ok_X7_ahead : ra_ok 78 := ⟨⟨by decide +kernel, by decide +kernel, by decide +kernel⟩, lwg_of 495 rfl rfl, lwg_of 1 rfl rfl, by decide⟩
set_option maxRecDepth 30000 in
theorem ok_X7_align : ra_ok 79 := ⟨⟨by decide +kernel, by decide +kernel, by decide +kernel⟩, lwg_of 511 rfl rfl, lwg_of 1 rfl rfl, by decide⟩
set_option maxRecDepth 30000 in
theorem ok_X7_step : ra_ok 80 := ⟨⟨by decide +kernel, by decide +kernel, by decide +kernel⟩, lwg_of 600 rfl rfl, lwg_of 1 rfl rfl, by decide⟩
set_option maxRecDepth 30000 in
theorem ok_X7_steps : ra_ok 81 := ⟨⟨by decide +kernel, by decide +kernel, by decide +kernel⟩, lwg_of 612 rfl rfl, lwg_of 1 rfl rfl, by decide⟩
set_option maxRecDepth 30000 in
theorem ok_X7_matched : ra_ok 82 := ⟨⟨by decide +kernel, by decide +kernel, by decide +kernel⟩, lwg_of 616 rfl rfl, lwg_of 1 rfl rfl, by decide⟩
set_option maxRecDepth 30000 in
theorem ok_X7_grade : ra_ok 83 := ⟨⟨by decide +kernel, by decide +kernel, by decide +kernel⟩, lwg_of 620 rfl rfl, lwg_of 1 rfl rfl, by decide⟩
set_option maxRecDepth 30000 in
theorem ok_X7_mean : ra_ok 84 := ⟨⟨by decide +kernel, by decide +kernel, by decide +kernel⟩, lwg_of 673 rfl rfl, lwg_of 1 rfl rfl, by decide⟩
set_option maxRecDepth 30000 in
theorem ok_X7_end : ra_ok 85 := ⟨⟨by decide +kernel, by decide +kernel, by decide +kernel⟩, lwg_of 624 rfl rfl, lwg_of 1 rfl rfl, by decide⟩
set_option maxRecDepth 30000 in
theorem ok_X7_due : ra_ok 86 := ⟨⟨by decide +kernel, by decide +kernel, by decide +kernel⟩, lwg_of 653 rfl rfl, lwg_of 1 rfl rfl, by decide⟩
set_option maxRecDepth 30000 in
theorem ok_X7_of : ra_ok 87 := ⟨⟨by decide +kernel, by decide +kernel, by decide +kernel⟩, lwg_of 661 rfl rfl, lwg_of 1 rfl rfl, by decide⟩
set_option maxRecDepth 30000 in
theorem ok_X7_told : ra_ok 88 := ⟨⟨by decide +kernel, by decide +kernel, by decide +kernel⟩, lwg_of 665 rfl rfl, lwg_of 1 rfl rfl, by decide⟩
set_option maxRecDepth 30000 in
theorem ok_X7_hearNothing : ra_ok 89 := ⟨⟨by decide +kernel, by decide +kernel, by decide +kernel⟩, lwg_of 310 rfl rfl, lwg_of 1 rfl rfl, by decide⟩
set_option maxRecDepth 30000 in
theorem ok_X7_followOn : ra_ok 90 := ⟨⟨by decide +kernel, by decide +kernel, by decide +kernel⟩, lwg_of 407 rfl rfl, lwg_of 1 rfl rfl, by decide⟩
set_option maxRecDepth 30000 in
theorem ok_X7_isWithin : ra_ok 91 := ⟨⟨by decide +kernel, by decide +kernel, by decide +kernel⟩, lwg_of 318 rfl rfl, lwg_of 1 rfl rfl, by decide⟩
set_option maxRecDepth 30000 in
theorem ok_X7_sumOf : ra_ok 92 := ⟨⟨by decide +kernel, by decide +kernel, by decide +kernel⟩, lwg_of 676 rfl rfl, lwg_of 1 rfl rfl, by decide⟩
set_option maxRecDepth 30000 in
theorem ok_X7_lowestTerms : ra_ok 93 := ⟨⟨by decide +kernel, by decide +kernel, by decide +kernel⟩, lwg_of 488 rfl rfl, lwg_of 1 rfl rfl, by decide⟩
set_option maxRecDepth 30000 in
theorem ok_X7_commonDivisor : ra_ok 94 := ⟨⟨by decide +kernel, by decide +kernel, by decide +kernel⟩, lwg_of 491 rfl rfl, lwg_of 1 rfl rfl, by decide⟩
set_option maxRecDepth 30000 in
theorem ok_X8_init : ra_ok 95 := ⟨⟨by decide +kernel, by decide +kernel, by decide +kernel⟩, lwg_of 747 rfl rfl, lwg_of 9 rfl rfl, by decide⟩
set_option maxRecDepth 30000 in
theorem ok_X8_thrown : ra_ok 96 := ⟨⟨by decide +kernel, by decide +kernel, by decide +kernel⟩, lwg_of 907 rfl rfl, lwg_of 9 rfl rfl, by decide⟩
set_option maxRecDepth 30000 in
theorem ok_X8_begin : ra_ok 97 := ⟨⟨by decide +kernel, by decide +kernel, by decide +kernel⟩, lwg_of 752 rfl rfl, lwg_of 9 rfl rfl, by decide⟩
set_option maxRecDepth 30000 in
theorem ok_X8_fresh : ra_ok 98 := ⟨⟨by decide +kernel, by decide +kernel, by decide +kernel⟩, lwg_of 756 rfl rfl, lwg_of 9 rfl rfl, by decide⟩
set_option maxRecDepth 30000 in
theorem ok_X8_clear : ra_ok 99 := ⟨⟨by decide +kernel, by decide +kernel, by decide +kernel⟩, lwg_of 911 rfl rfl, lwg_of 9 rfl rfl, by decide⟩
set_option maxRecDepth 30000 in
theorem ok_X8_isThere : ra_ok 100 := ⟨⟨by decide +kernel, by decide +kernel, by decide +kernel⟩, lwg_of 777 rfl rfl, lwg_of 9 rfl rfl, by decide⟩
set_option maxRecDepth 30000 in
theorem ok_X8_note : ra_ok 101 := ⟨⟨by decide +kernel, by decide +kernel, by decide +kernel⟩, lwg_of 915 rfl rfl, lwg_of 9 rfl rfl, by decide⟩
set_option maxRecDepth 30000 in
theorem ok_X8_way : ra_ok 102 := ⟨⟨by decide +kernel, by decide +kernel, by decide +kernel⟩, lwg_of 920 rfl rfl, lwg_of 9 rfl rfl, by decide⟩
set_option maxRecDepth 30000 in
theorem ok_X8_loop : ra_ok 103 := ⟨⟨by decide +kernel, by decide +kernel, by decide +kernel⟩, lwg_of 924 rfl rfl, lwg_of 9 rfl rfl, by decide⟩
set_option maxRecDepth 30000 in
theorem ok_X8_cost : ra_ok 104 := ⟨⟨by decide +kernel, by decide +kernel, by decide +kernel⟩, lwg_of 928 rfl rfl, lwg_of 9 rfl rfl, by decide⟩
set_option maxRecDepth 30000 in
theorem ok_X8_span : ra_ok 105 := ⟨⟨by decide +kernel, by decide +kernel, by decide +kernel⟩, lwg_of 932 rfl rfl, lwg_of 9 rfl rfl, by decide⟩
set_option maxRecDepth 30000 in
theorem ok_X8_nextsOf : ra_ok 106 := ⟨⟨by decide +kernel, by decide +kernel, by decide +kernel⟩, lwg_of 773 rfl rfl, lwg_of 9 rfl rfl, by decide⟩
set_option maxRecDepth 30000 in
theorem ok_X8_lay : ra_ok 107 := ⟨⟨by decide +kernel, by decide +kernel, by decide +kernel⟩, lwg_of 781 rfl rfl, lwg_of 9 rfl rfl, by decide⟩
set_option maxRecDepth 30000 in
theorem ok_X8_wrong : ra_ok 108 := ⟨⟨by decide +kernel, by decide +kernel, by decide +kernel⟩, lwg_of 789 rfl rfl, lwg_of 9 rfl rfl, by decide⟩
set_option maxRecDepth 30000 in
theorem ok_X8_follow : ra_ok 109 := ⟨⟨by decide +kernel, by decide +kernel, by decide +kernel⟩, lwg_of 760 rfl rfl, lwg_of 9 rfl rfl, by decide⟩
set_option maxRecDepth 30000 in
theorem ok_X8_further : ra_ok 110 := ⟨⟨by decide +kernel, by decide +kernel, by decide +kernel⟩, lwg_of 765 rfl rfl, lwg_of 9 rfl rfl, by decide⟩
set_option maxRecDepth 30000 in
theorem ok_X8_pass : ra_ok 111 := ⟨⟨by decide +kernel, by decide +kernel, by decide +kernel⟩, lwg_of 769 rfl rfl, lwg_of 9 rfl rfl, by decide⟩
set_option maxRecDepth 30000 in
theorem ok_X8_take : ra_ok 112 := ⟨⟨by decide +kernel, by decide +kernel, by decide +kernel⟩, lwg_of 785 rfl rfl, lwg_of 9 rfl rfl, by decide⟩
set_option maxRecDepth 30000 in
theorem ok_X8_choose : ra_ok 113 := ⟨⟨by decide +kernel, by decide +kernel, by decide +kernel⟩, lwg_of 793 rfl rfl, lwg_of 9 rfl rfl, by decide⟩
set_option maxRecDepth 30000 in
theorem ok_X8_anchor : ra_ok 114 := ⟨⟨by decide +kernel, by decide +kernel, by decide +kernel⟩, lwg_of 797 rfl rfl, lwg_of 9 rfl rfl, by decide⟩
set_option maxRecDepth 30000 in
theorem ok_X8_hear : ra_ok 115 := ⟨⟨by decide +kernel, by decide +kernel, by decide +kernel⟩, lwg_of 936 rfl rfl, lwg_of 9 rfl rfl, by decide⟩
set_option maxRecDepth 30000 in
theorem ok_X8_cut : ra_ok 116 := ⟨⟨by decide +kernel, by decide +kernel, by decide +kernel⟩, lwg_of 941 rfl rfl, lwg_of 9 rfl rfl, by decide⟩
set_option maxRecDepth 30000 in
theorem ok_X8_valueOf : ra_ok 117 := ⟨⟨by decide +kernel, by decide +kernel, by decide +kernel⟩, lwg_of 945 rfl rfl, lwg_of 9 rfl rfl, by decide⟩
set_option maxRecDepth 30000 in
theorem ok_X8_common : ra_ok 118 := ⟨⟨by decide +kernel, by decide +kernel, by decide +kernel⟩, lwg_of 956 rfl rfl, lwg_of 9 rfl rfl, by decide⟩
set_option maxRecDepth 30000 in
theorem ok_X8_tempoOf : ra_ok 119 := ⟨⟨by decide +kernel, by decide +kernel, by decide +kernel⟩, lwg_of 953 rfl rfl, lwg_of 9 rfl rfl, by decide⟩
set_option maxRecDepth 30000 in
theorem ok_X8_tempo : ra_ok 120 := ⟨⟨by decide +kernel, by decide +kernel, by decide +kernel⟩, lwg_of 949 rfl rfl, lwg_of 9 rfl rfl, by decide⟩
set_option maxRecDepth 30000 in
theorem ok_X8_ahead : ra_ok 121 := ⟨⟨by decide +kernel, by decide +kernel, by decide +kernel⟩, lwg_of 960 rfl rfl, lwg_of 9 rfl rfl, by decide⟩
set_option maxRecDepth 30000 in
theorem ok_X8_at : ra_ok 122 := ⟨⟨by decide +kernel, by decide +kernel, by decide +kernel⟩, lwg_of 974 rfl rfl, lwg_of 9 rfl rfl, by decide⟩
set_option maxRecDepth 30000 in
theorem ok_X8_left : ra_ok 123 := ⟨⟨by decide +kernel, by decide +kernel, by decide +kernel⟩, lwg_of 970 rfl rfl, lwg_of 9 rfl rfl, by decide⟩
set_option maxRecDepth 30000 in
theorem ok_X8_put : ra_ok 124 := ⟨⟨by decide +kernel, by decide +kernel, by decide +kernel⟩, lwg_of 982 rfl rfl, lwg_of 9 rfl rfl, by decide⟩
set_option maxRecDepth 30000 in
theorem ok_X8_choose_ : ra_ok 125 := ⟨⟨by decide +kernel, by decide +kernel, by decide +kernel⟩, lwg_of 978 rfl rfl, lwg_of 9 rfl rfl, by decide⟩
set_option maxRecDepth 30000 in
theorem ok_X8_align : ra_ok 126 := ⟨⟨by decide +kernel, by decide +kernel, by decide +kernel⟩, lwg_of 966 rfl rfl, lwg_of 9 rfl rfl, by decide⟩
set_option maxRecDepth 30000 in
theorem ok_X8_step : ra_ok 127 := ⟨⟨by decide +kernel, by decide +kernel, by decide +kernel⟩, lwg_of 986 rfl rfl, lwg_of 9 rfl rfl, by decide⟩
set_option maxRecDepth 30000 in
theorem ok_X8_steps : ra_ok 128 := ⟨⟨by decide +kernel, by decide +kernel, by decide +kernel⟩, lwg_of 990 rfl rfl, lwg_of 9 rfl rfl, by decide⟩
set_option maxRecDepth 30000 in
theorem ok_X8_matched : ra_ok 129 := ⟨⟨by decide +kernel, by decide +kernel, by decide +kernel⟩, lwg_of 994 rfl rfl, lwg_of 9 rfl rfl, by decide⟩
set_option maxRecDepth 30000 in
theorem ok_X8_count : ra_ok 130 := ⟨⟨by decide +kernel, by decide +kernel, by decide +kernel⟩, lwg_of 1002 rfl rfl, lwg_of 9 rfl rfl, by decide⟩
set_option maxRecDepth 30000 in
theorem ok_X8_grade : ra_ok 131 := ⟨⟨by decide +kernel, by decide +kernel, by decide +kernel⟩, lwg_of 998 rfl rfl, lwg_of 9 rfl rfl, by decide⟩
set_option maxRecDepth 30000 in
theorem ok_X8_mean : ra_ok 132 := ⟨⟨by decide +kernel, by decide +kernel, by decide +kernel⟩, lwg_of 1006 rfl rfl, lwg_of 9 rfl rfl, by decide⟩
set_option maxRecDepth 30000 in
theorem ok_X8_end : ra_ok 133 := ⟨⟨by decide +kernel, by decide +kernel, by decide +kernel⟩, lwg_of 1010 rfl rfl, lwg_of 9 rfl rfl, by decide⟩
set_option maxRecDepth 30000 in
theorem ok_X8_due : ra_ok 134 := ⟨⟨by decide +kernel, by decide +kernel, by decide +kernel⟩, lwg_of 1014 rfl rfl, lwg_of 9 rfl rfl, by decide⟩
set_option maxRecDepth 30000 in
theorem ok_X8_of : ra_ok 135 := ⟨⟨by decide +kernel, by decide +kernel, by decide +kernel⟩, lwg_of 1018 rfl rfl, lwg_of 9 rfl rfl, by decide⟩
set_option maxRecDepth 30000 in
theorem ok_X8_told : ra_ok 136 := ⟨⟨by decide +kernel, by decide +kernel, by decide +kernel⟩, lwg_of 1022 rfl rfl, lwg_of 9 rfl rfl, by decide⟩
set_option maxRecDepth 30000 in
theorem ok_J9_floorDiv_f86c9 : ra_ok 137 := ⟨⟨by decide +kernel, by decide +kernel, by decide +kernel⟩, lwg_of 507 rfl rfl, lwg_of 10 rfl rfl, by decide⟩
set_option maxRecDepth 30000 in
theorem ok_J9_abs_0f7a4 : ra_ok 138 := ⟨⟨by decide +kernel, by decide +kernel, by decide +kernel⟩, lwg_of 447 rfl rfl, lwg_of 10 rfl rfl, by decide⟩
set_option maxRecDepth 30000 in
theorem ok_J9_max_7cf53 : ra_ok 139 := ⟨⟨by decide +kernel, by decide +kernel, by decide +kernel⟩, lwg_of 481 rfl rfl, lwg_of 10 rfl rfl, by decide⟩
set_option maxRecDepth 30000 in
theorem ok_J9_min_7cf53 : ra_ok 140 := ⟨⟨by decide +kernel, by decide +kernel, by decide +kernel⟩, lwg_of 426 rfl rfl, lwg_of 10 rfl rfl, by decide⟩
theorem rf_X7_12 : ra_F RX7 12 7 0 := ⟨RX7, TX7, 7, rfl, by decide, rfl, lwg_of 280 (by decide +kernel) rfl⟩
theorem rf_X7_19 : ra_F RX7 19 7 1 := ⟨RX7, TX7, 7, rfl, by decide, rfl, lwg_of 281 (by decide +kernel) rfl⟩
theorem rf_X7_28 : ra_F RX7 28 7 2 := ⟨RX7, TX7, 7, rfl, by decide, rfl, lwg_of 282 (by decide +kernel) rfl⟩
theorem rf_X7_37 : ra_F RX7 37 7 3 := ⟨RX7, TX7, 7, rfl, by decide, rfl, lwg_of 283 (by decide +kernel) rfl⟩
theorem rf_X7_46 : ra_F RX7 46 7 4 := ⟨RX7, TX7, 7, rfl, by decide, rfl, lwg_of 284 (by decide +kernel) rfl⟩
theorem rf_X7_53 : ra_F RX7 53 7 5 := ⟨RX7, TX7, 7, rfl, by decide, rfl, lwg_of 285 (by decide +kernel) rfl⟩
theorem rf_X7_60 : ra_F RX7 60 7 6 := ⟨RX7, TX7, 7, rfl, by decide, rfl, lwg_of 286 (by decide +kernel) rfl⟩
theorem rm_X7_64 : ra_CV RX7 64 56 0 := ⟨lwg_of 306 (by decide +kernel) rfl, lwg_of 32 (by decide +kernel) rfl, lwg_of 33 (by decide +kernel) rfl, by decide +kernel, ok_X6_empty⟩
theorem rf_X7_67 : ra_F RX7 67 2 2 := ⟨RX2, TX2, 3, rfl, by decide, rfl, lwg_of 271 (by decide +kernel) rfl⟩
theorem rp_X7_67 : ra_FP RX7 67 2 2 0 := ⟨RX2, TX2, 3, rfl, by decide, rfl, lwg_of 271 (by decide +kernel) rfl, rfl, by decide +kernel⟩
theorem rm_X7_71 : ra_CV RX7 71 89 0 := ⟨lwg_of 307 (by decide +kernel) rfl, lwg_of 309 (by decide +kernel) rfl, lwg_sel 0 (by decide +kernel) rfl, by decide +kernel, ok_X7_hearNothing⟩
theorem rm_X7_74 : ra_CS RX7 74 91 3 := ⟨lwg_of 316 (by decide +kernel) rfl, lwg_of 317 (by decide +kernel) rfl, by decide +kernel, ok_X7_isWithin⟩
theorem rc_X7_78 : ra_C RX7 78 1000000 := ⟨lwg_of 319 (by decide +kernel) rfl, by decide, by decide⟩
theorem rm_X7_79 : ra_CV RX7 79 62 0 := ⟨lwg_of 320 (by decide +kernel) rfl, lwg_of 321 (by decide +kernel) rfl, lwg_of 322 (by decide +kernel) rfl, by decide +kernel, ok_X6_lastStart⟩
theorem rf_X7_83 : ra_F RX7 83 4 2 := ⟨RX4, TX4, 3, rfl, by decide, rfl, lwg_of 104 (by decide +kernel) rfl⟩
theorem rp_X7_83 : ra_FP RX7 83 4 2 0 := ⟨RX4, TX4, 3, rfl, by decide, rfl, lwg_of 104 (by decide +kernel) rfl, rfl, by decide +kernel⟩
theorem rm_X7_86 : ra_CV RX7 86 61 0 := ⟨lwg_of 324 (by decide +kernel) rfl, lwg_of 325 (by decide +kernel) rfl, lwg_of 326 (by decide +kernel) rfl, by decide +kernel, ok_X6_hasLoop⟩
theorem rf_X7_90 : ra_F RX7 90 6 5 := ⟨RX6, TX6, 10, rfl, by decide, rfl, lwg_of 54 (by decide +kernel) rfl⟩
theorem rm_X7_93 : ra_CV RX7 93 57 2 := ⟨lwg_of 328 (by decide +kernel) rfl, lwg_of 329 (by decide +kernel) rfl, lwg_of 330 (by decide +kernel) rfl, by decide +kernel, ok_X6_addNote⟩
theorem rm_X7_97 : ra_CV RX7 97 30 1 := ⟨lwg_of 332 (by decide +kernel) rfl, lwg_of 333 (by decide +kernel) rfl, lwg_of 334 (by decide +kernel) rfl, by decide +kernel, ok_X2_open⟩
theorem rm_X7_101 : ra_CV RX7 101 59 1 := ⟨lwg_of 340 (by decide +kernel) rfl, lwg_of 341 (by decide +kernel) rfl, lwg_of 342 (by decide +kernel) rfl, by decide +kernel, ok_X6_isNote⟩
theorem rm_X7_105 : ra_CV RX7 105 60 2 := ⟨lwg_of 344 (by decide +kernel) rfl, lwg_of 345 (by decide +kernel) rfl, lwg_of 346 (by decide +kernel) rfl, by decide +kernel, ok_X6_hasWay⟩
theorem rf_X7_109 : ra_F RX7 109 6 6 := ⟨RX6, TX6, 10, rfl, by decide, rfl, lwg_of 58 (by decide +kernel) rfl⟩
theorem rm_X7_112 : ra_CV RX7 112 58 2 := ⟨lwg_of 348 (by decide +kernel) rfl, lwg_of 349 (by decide +kernel) rfl, lwg_of 350 (by decide +kernel) rfl, by decide +kernel, ok_X6_addWay⟩
theorem rf_X7_115 : ra_F RX7 115 6 7 := ⟨RX6, TX6, 10, rfl, by decide, rfl, lwg_of 61 (by decide +kernel) rfl⟩
theorem rp_X7_115 : ra_FP RX7 115 6 7 0 := ⟨RX6, TX6, 10, rfl, by decide, rfl, lwg_of 61 (by decide +kernel) rfl, rfl, by decide +kernel⟩
theorem rf_X7_118 : ra_F RX7 118 6 8 := ⟨RX6, TX6, 10, rfl, by decide, rfl, lwg_of 64 (by decide +kernel) rfl⟩
theorem rp_X7_118 : ra_FP RX7 118 6 8 0 := ⟨RX6, TX6, 10, rfl, by decide, rfl, lwg_of 64 (by decide +kernel) rfl, rfl, by decide +kernel⟩
theorem rf_X7_121 : ra_F RX7 121 6 4 := ⟨RX6, TX6, 10, rfl, by decide, rfl, lwg_of 49 (by decide +kernel) rfl⟩
theorem rf_X7_125 : ra_F RX7 125 6 9 := ⟨RX6, TX6, 10, rfl, by decide, rfl, lwg_of 66 (by decide +kernel) rfl⟩
theorem rp_X7_125 : ra_FP RX7 125 6 9 0 := ⟨RX6, TX6, 10, rfl, by decide, rfl, lwg_of 66 (by decide +kernel) rfl, rfl, by decide +kernel⟩
theorem rc_X7_128 : ra_C RX7 128 10000000 := ⟨lwg_of 368 (by decide +kernel) rfl, by decide, by decide⟩
theorem rm_X7_129 : ra_CV RX7 129 48 0 := ⟨lwg_of 369 (by decide +kernel) rfl, lwg_of 370 (by decide +kernel) rfl, lwg_of 371 (by decide +kernel) rfl, by decide +kernel, ok_X4_lastTime⟩
theorem rm_X7_132 : ra_CV RX7 132 50 0 := ⟨lwg_of 373 (by decide +kernel) rfl, lwg_of 374 (by decide +kernel) rfl, lwg_of 375 (by decide +kernel) rfl, by decide +kernel, ok_X5_lay⟩
theorem rm_X7_135 : ra_CV RX7 135 47 2 := ⟨lwg_of 400 (by decide +kernel) rfl, lwg_of 401 (by decide +kernel) rfl, lwg_of 402 (by decide +kernel) rfl, by decide +kernel, ok_X4_add⟩
theorem rm_X7_138 : ra_CV RX7 138 90 1 := ⟨lwg_of 404 (by decide +kernel) rfl, lwg_of 406 (by decide +kernel) rfl, lwg_sel 3 (by decide +kernel) rfl, by decide +kernel, ok_X7_followOn⟩
theorem rf_X7_141 : ra_F RX7 141 1 10 := ⟨RX1, TX1, 16, rfl, by decide, rfl, lwg_of 220 (by decide +kernel) rfl⟩
theorem rp_X7_141 : ra_FP RX7 141 1 10 1 := ⟨RX1, TX1, 16, rfl, by decide, rfl, lwg_of 220 (by decide +kernel) rfl, rfl, by decide +kernel⟩
theorem rf_X7_145 : ra_F RX7 145 3 5 := ⟨RX3, TX3, 6, rfl, by decide, rfl, lwg_of 162 (by decide +kernel) rfl⟩
theorem rm_X7_148 : ra_CV RX7 148 38 1 := ⟨lwg_of 465 (by decide +kernel) rfl, lwg_of 442 (by decide +kernel) rfl, lwg_of 443 (by decide +kernel) rfl, by decide +kernel, ok_X3_valueAt⟩
theorem rc_X7_152 : ra_C RX7 152 1000000000 := ⟨lwg_of 466 (by decide +kernel) rfl, by decide, by decide⟩
theorem rm_X7_153 : ra_CV RX7 153 2 0 := ⟨lwg_of 471 (by decide +kernel) rfl, lwg_of 472 (by decide +kernel) rfl, lwg_of 473 (by decide +kernel) rfl, by decide +kernel, ok_X0_timeGone⟩
theorem rm_X7_156 : ra_CV RX7 156 3 0 := ⟨lwg_of 482 (by decide +kernel) rfl, lwg_of 483 (by decide +kernel) rfl, lwg_of 484 (by decide +kernel) rfl, by decide +kernel, ok_X0_startGrown⟩
theorem rm_X7_159 : ra_CS RX7 159 93 3 := ⟨lwg_of 486 (by decide +kernel) rfl, lwg_of 487 (by decide +kernel) rfl, by decide +kernel, ok_X7_lowestTerms⟩
theorem rc_X7_163 : ra_CJ RX7 163 (-2) := ⟨lwg_of 496 (by decide +kernel) rfl, by decide, by decide⟩
theorem rf_X7_165 : ra_F RX7 165 0 4 := ⟨RX0, TX0, 5, rfl, by decide, rfl, lwg_of 187 (by decide +kernel) rfl⟩
theorem rp_X7_165 : ra_FP RX7 165 0 4 0 := ⟨RX0, TX0, 5, rfl, by decide, rfl, lwg_of 187 (by decide +kernel) rfl, rfl, by decide +kernel⟩
theorem rc_X7_166 : ra_CJ RX7 166 (-3) := ⟨lwg_of 497 (by decide +kernel) rfl, by decide, by decide⟩
theorem rm_X7_168 : ra_CV RX7 168 4 1 := ⟨lwg_of 498 (by decide +kernel) rfl, lwg_of 499 (by decide +kernel) rfl, lwg_of 500 (by decide +kernel) rfl, by decide +kernel, ok_X0_expected⟩
theorem rm_X7_172 : ra_CV RX7 172 7 0 := ⟨lwg_of 512 (by decide +kernel) rfl, lwg_of 513 (by decide +kernel) rfl, lwg_of 514 (by decide +kernel) rfl, by decide +kernel, ok_X1_find⟩
theorem rf_X7_175 : ra_F RX7 175 1 11 := ⟨RX1, TX1, 16, rfl, by decide, rfl, lwg_of 222 (by decide +kernel) rfl⟩
theorem rf_X7_178 : ra_F RX7 178 1 12 := ⟨RX1, TX1, 16, rfl, by decide, rfl, lwg_of 224 (by decide +kernel) rfl⟩
theorem rm_X7_179 : ra_CV RX7 179 8 2 := ⟨lwg_of 601 (by decide +kernel) rfl, lwg_of 602 (by decide +kernel) rfl, lwg_of 603 (by decide +kernel) rfl, by decide +kernel, ok_X1_tell⟩
theorem rf_X7_182 : ra_F RX7 182 1 6 := ⟨RX1, TX1, 16, rfl, by decide, rfl, lwg_of 212 (by decide +kernel) rfl⟩
theorem rf_X7_185 : ra_F RX7 185 1 7 := ⟨RX1, TX1, 16, rfl, by decide, rfl, lwg_of 214 (by decide +kernel) rfl⟩
theorem rf_X7_188 : ra_F RX7 188 1 8 := ⟨RX1, TX1, 16, rfl, by decide, rfl, lwg_of 216 (by decide +kernel) rfl⟩
theorem rf_X7_191 : ra_F RX7 191 1 9 := ⟨RX1, TX1, 16, rfl, by decide, rfl, lwg_of 218 (by decide +kernel) rfl⟩
theorem rm_X7_194 : ra_CS RX7 194 92 2 := ⟨lwg_of 674 (by decide +kernel) rfl, lwg_of 675 (by decide +kernel) rfl, by decide +kernel, ok_X7_sumOf⟩
theorem rm_X7_205 : ra_CV RX7 205 10 1 := ⟨lwg_of 625 (by decide +kernel) rfl, lwg_of 626 (by decide +kernel) rfl, lwg_of 627 (by decide +kernel) rfl, by decide +kernel, ok_X1_isFaultless⟩
theorem rm_X7_208 : ra_CV RX7 208 31 1 := ⟨lwg_of 629 (by decide +kernel) rfl, lwg_of 630 (by decide +kernel) rfl, lwg_of 631 (by decide +kernel) rfl, by decide +kernel, ok_X2_raise⟩
theorem rm_X7_211 : ra_CV RX7 211 9 1 := ⟨lwg_of 638 (by decide +kernel) rfl, lwg_of 639 (by decide +kernel) rfl, lwg_of 640 (by decide +kernel) rfl, by decide +kernel, ok_X1_isTouched⟩
theorem rm_X7_214 : ra_CV RX7 214 32 1 := ⟨lwg_of 642 (by decide +kernel) rfl, lwg_of 643 (by decide +kernel) rfl, lwg_of 644 (by decide +kernel) rfl, by decide +kernel, ok_X2_drop⟩
theorem rm_X7_217 : ra_CV RX7 217 34 1 := ⟨lwg_of 646 (by decide +kernel) rfl, lwg_of 647 (by decide +kernel) rfl, lwg_of 648 (by decide +kernel) rfl, by decide +kernel, ok_X2_countDue⟩
theorem rm_X7_220 : ra_CV RX7 220 35 2 := ⟨lwg_of 654 (by decide +kernel) rfl, lwg_of 655 (by decide +kernel) rfl, lwg_of 656 (by decide +kernel) rfl, by decide +kernel, ok_X2_dueAt⟩
theorem rf_X7_223 : ra_F RX7 223 6 0 := ⟨RX6, TX6, 10, rfl, by decide, rfl, lwg_of 38 (by decide +kernel) rfl⟩
theorem rf_X7_226 : ra_F RX7 226 6 1 := ⟨RX6, TX6, 10, rfl, by decide, rfl, lwg_of 41 (by decide +kernel) rfl⟩
theorem rf_X7_229 : ra_F RX7 229 2 0 := ⟨RX2, TX2, 3, rfl, by decide, rfl, lwg_of 268 (by decide +kernel) rfl⟩
theorem rf_X7_232 : ra_F RX7 232 2 1 := ⟨RX2, TX2, 3, rfl, by decide, rfl, lwg_of 270 (by decide +kernel) rfl⟩
theorem rm_X7_235 : ra_CV RX7 235 37 0 := ⟨lwg_of 311 (by decide +kernel) rfl, lwg_of 152 (by decide +kernel) rfl, lwg_of 153 (by decide +kernel) rfl, by decide +kernel, ok_X3_begin⟩
theorem rm_X7_238 : ra_CV RX7 238 39 1 := ⟨lwg_of 408 (by decide +kernel) rfl, lwg_of 409 (by decide +kernel) rfl, lwg_of 410 (by decide +kernel) rfl, by decide +kernel, ok_X3_follow⟩
theorem rm_X7_241 : ra_CV RX7 241 1 2 := ⟨lwg_of 452 (by decide +kernel) rfl, lwg_of 453 (by decide +kernel) rfl, lwg_of 454 (by decide +kernel) rfl, by decide +kernel, ok_X0_look⟩
theorem rm_X7_245 : ra_CS RX7 245 94 2 := ⟨lwg_of 489 (by decide +kernel) rfl, lwg_of 490 (by decide +kernel) rfl, by decide +kernel, ok_X7_commonDivisor⟩
theorem rf_X0_9 : ra_F RX0 9 0 2 := ⟨RX0, TX0, 5, rfl, by decide, rfl, lwg_of 184 (by decide +kernel) rfl⟩
theorem rf_X0_15 : ra_F RX0 15 0 3 := ⟨RX0, TX0, 5, rfl, by decide, rfl, lwg_of 185 (by decide +kernel) rfl⟩
theorem rf_X0_18 : ra_F RX0 18 0 0 := ⟨RX0, TX0, 5, rfl, by decide, rfl, lwg_of 182 (by decide +kernel) rfl⟩
theorem rf_X0_22 : ra_F RX0 22 0 1 := ⟨RX0, TX0, 5, rfl, by decide, rfl, lwg_of 183 (by decide +kernel) rfl⟩
theorem rm_X0_26 : ra_CV RX0 26 59 1 := ⟨lwg_of 456 (by decide +kernel) rfl, lwg_of 341 (by decide +kernel) rfl, lwg_of 342 (by decide +kernel) rfl, by decide +kernel, ok_X6_isNote⟩
theorem rf_X0_32 : ra_F RX0 32 6 0 := ⟨RX6, TX6, 10, rfl, by decide, rfl, lwg_of 36 (by decide +kernel) rfl⟩
theorem rf_X0_35 : ra_F RX0 35 4 0 := ⟨RX4, TX4, 3, rfl, by decide, rfl, lwg_of 97 (by decide +kernel) rfl⟩
theorem rf_X0_38 : ra_F RX0 38 0 4 := ⟨RX0, TX0, 5, rfl, by decide, rfl, lwg_of 186 (by decide +kernel) rfl⟩
theorem rp_X0_38 : ra_FP RX0 38 0 4 0 := ⟨RX0, TX0, 5, rfl, by decide, rfl, lwg_of 186 (by decide +kernel) rfl, rfl, by decide +kernel⟩
theorem rf_X0_42 : ra_F RX0 42 4 1 := ⟨RX4, TX4, 3, rfl, by decide, rfl, lwg_of 101 (by decide +kernel) rfl⟩
theorem rm_X0_45 : ra_CV RX0 45 5 0 := ⟨lwg_of 475 (by decide +kernel) rfl, lwg_of 477 (by decide +kernel) rfl, lwg_sel 10 (by decide +kernel) rfl, by decide +kernel, ok_X0_firstOfLatest⟩
theorem rf_X0_49 : ra_F RX0 49 6 1 := ⟨RX6, TX6, 10, rfl, by decide, rfl, lwg_of 40 (by decide +kernel) rfl⟩
theorem rm_X0_52 : ra_CS RX0 52 139 2 := ⟨lwg_of 479 (by decide +kernel) rfl, lwg_of 480 (by decide +kernel) rfl, by decide +kernel, ok_J9_max_7cf53⟩
theorem rc_X0_58 : ra_CJ RX0 58 (-3) := ⟨lwg_of 502 (by decide +kernel) rfl, by decide, by decide⟩
theorem rm_X0_60 : ra_CV RX0 60 2 0 := ⟨lwg_of 503 (by decide +kernel) rfl, lwg_of 472 (by decide +kernel) rfl, lwg_of 473 (by decide +kernel) rfl, by decide +kernel, ok_X0_timeGone⟩
theorem rm_X0_63 : ra_CV RX0 63 3 0 := ⟨lwg_of 504 (by decide +kernel) rfl, lwg_of 483 (by decide +kernel) rfl, lwg_of 484 (by decide +kernel) rfl, by decide +kernel, ok_X0_startGrown⟩
theorem rm_X0_66 : ra_CS RX0 66 137 2 := ⟨lwg_of 505 (by decide +kernel) rfl, lwg_of 506 (by decide +kernel) rfl, by decide +kernel, ok_J9_floorDiv_f86c9⟩
theorem rf_X1_9 : ra_F RX1 9 1 3 := ⟨RX1, TX1, 16, rfl, by decide, rfl, lwg_of 208 (by decide +kernel) rfl⟩
theorem rf_X1_15 : ra_F RX1 15 1 4 := ⟨RX1, TX1, 16, rfl, by decide, rfl, lwg_of 209 (by decide +kernel) rfl⟩
theorem rf_X1_18 : ra_F RX1 18 1 5 := ⟨RX1, TX1, 16, rfl, by decide, rfl, lwg_of 210 (by decide +kernel) rfl⟩
theorem rf_X1_21 : ra_F RX1 21 1 6 := ⟨RX1, TX1, 16, rfl, by decide, rfl, lwg_of 211 (by decide +kernel) rfl⟩
theorem rf_X1_24 : ra_F RX1 24 1 7 := ⟨RX1, TX1, 16, rfl, by decide, rfl, lwg_of 213 (by decide +kernel) rfl⟩
theorem rf_X1_27 : ra_F RX1 27 1 8 := ⟨RX1, TX1, 16, rfl, by decide, rfl, lwg_of 215 (by decide +kernel) rfl⟩
theorem rf_X1_30 : ra_F RX1 30 1 9 := ⟨RX1, TX1, 16, rfl, by decide, rfl, lwg_of 217 (by decide +kernel) rfl⟩
theorem rf_X1_33 : ra_F RX1 33 1 0 := ⟨RX1, TX1, 16, rfl, by decide, rfl, lwg_of 205 (by decide +kernel) rfl⟩
theorem rf_X1_37 : ra_F RX1 37 1 1 := ⟨RX1, TX1, 16, rfl, by decide, rfl, lwg_of 206 (by decide +kernel) rfl⟩
theorem rf_X1_41 : ra_F RX1 41 1 2 := ⟨RX1, TX1, 16, rfl, by decide, rfl, lwg_of 207 (by decide +kernel) rfl⟩
theorem rf_X1_45 : ra_F RX1 45 6 5 := ⟨RX6, TX6, 10, rfl, by decide, rfl, lwg_of 52 (by decide +kernel) rfl⟩
theorem rf_X1_51 : ra_F RX1 51 4 2 := ⟨RX4, TX4, 3, rfl, by decide, rfl, lwg_of 103 (by decide +kernel) rfl⟩
theorem rm_X1_56 : ra_CV RX1 56 16 1 := ⟨lwg_of 516 (by decide +kernel) rfl, lwg_of 518 (by decide +kernel) rfl, lwg_sel 11 (by decide +kernel) rfl, by decide +kernel, ok_X1_weighTaking⟩
theorem rm_X1_60 : ra_CV RX1 60 17 1 := ⟨lwg_of 541 (by decide +kernel) rfl, lwg_of 543 (by decide +kernel) rfl, lwg_sel 16 (by decide +kernel) rfl, by decide +kernel, ok_X1_weighPassing⟩
theorem rm_X1_63 : ra_CV RX1 63 11 2 := ⟨lwg_of 528 (by decide +kernel) rfl, lwg_of 530 (by decide +kernel) rfl, lwg_sel 13 (by decide +kernel) rfl, by decide +kernel, ok_X1_restAt⟩
theorem rf_X1_67 : ra_F RX1 67 1 11 := ⟨RX1, TX1, 16, rfl, by decide, rfl, lwg_of 221 (by decide +kernel) rfl⟩
theorem rp_X1_67 : ra_FP RX1 67 1 11 0 := ⟨RX1, TX1, 16, rfl, by decide, rfl, lwg_of 221 (by decide +kernel) rfl, rfl, by decide +kernel⟩
theorem rm_X1_70 : ra_CV RX1 70 18 0 := ⟨lwg_of 549 (by decide +kernel) rfl, lwg_of 551 (by decide +kernel) rfl, lwg_sel 18 (by decide +kernel) rfl, by decide +kernel, ok_X1_walk⟩
theorem rf_X1_73 : ra_F RX1 73 1 10 := ⟨RX1, TX1, 16, rfl, by decide, rfl, lwg_of 219 (by decide +kernel) rfl⟩
theorem rp_X1_73 : ra_FP RX1 73 1 10 1 := ⟨RX1, TX1, 16, rfl, by decide, rfl, lwg_of 219 (by decide +kernel) rfl, rfl, by decide +kernel⟩
theorem rm_X1_77 : ra_CV RX1 77 22 1 := ⟨lwg_of 605 (by decide +kernel) rfl, lwg_of 607 (by decide +kernel) rfl, lwg_sel 28 (by decide +kernel) rfl, by decide +kernel, ok_X1_eventOf⟩
theorem rm_X1_81 : ra_CV RX1 81 23 2 := ⟨lwg_of 561 (by decide +kernel) rfl, lwg_of 563 (by decide +kernel) rfl, lwg_sel 21 (by decide +kernel) rfl, by decide +kernel, ok_X1_choose⟩
theorem rf_X1_85 : ra_F RX1 85 1 14 := ⟨RX1, TX1, 16, rfl, by decide, rfl, lwg_of 226 (by decide +kernel) rfl⟩
theorem rp_X1_85 : ra_FP RX1 85 1 14 0 := ⟨RX1, TX1, 16, rfl, by decide, rfl, lwg_of 226 (by decide +kernel) rfl, rfl, by decide +kernel⟩
theorem rf_X1_88 : ra_F RX1 88 1 13 := ⟨RX1, TX1, 16, rfl, by decide, rfl, lwg_of 225 (by decide +kernel) rfl⟩
theorem rp_X1_88 : ra_FP RX1 88 1 13 0 := ⟨RX1, TX1, 16, rfl, by decide, rfl, lwg_of 225 (by decide +kernel) rfl, rfl, by decide +kernel⟩
theorem rf_X1_91 : ra_F RX1 91 1 15 := ⟨RX1, TX1, 16, rfl, by decide, rfl, lwg_of 227 (by decide +kernel) rfl⟩
theorem rp_X1_91 : ra_FP RX1 91 1 15 0 := ⟨RX1, TX1, 16, rfl, by decide, rfl, lwg_of 227 (by decide +kernel) rfl, rfl, by decide +kernel⟩
theorem rm_X1_94 : ra_CS RX1 94 140 2 := ⟨lwg_of 532 (by decide +kernel) rfl, lwg_of 425 (by decide +kernel) rfl, by decide +kernel, ok_J9_min_7cf53⟩
theorem rf_X1_99 : ra_F RX1 99 5 3 := ⟨RX5, TX5, 6, rfl, by decide, rfl, lwg_of 127 (by decide +kernel) rfl⟩
theorem rf_X1_104 : ra_F RX1 104 5 2 := ⟨RX5, TX5, 6, rfl, by decide, rfl, lwg_of 124 (by decide +kernel) rfl⟩
theorem rf_X1_107 : ra_F RX1 107 4 0 := ⟨RX4, TX4, 3, rfl, by decide, rfl, lwg_of 99 (by decide +kernel) rfl⟩
theorem rm_X1_110 : ra_CV RX1 110 66 2 := ⟨lwg_of 527 (by decide +kernel) rfl, lwg_of 430 (by decide +kernel) rfl, lwg_of 431 (by decide +kernel) rfl, by decide +kernel, ok_X6_mistake⟩
theorem rf_X1_113 : ra_F RX1 113 6 4 := ⟨RX6, TX6, 10, rfl, by decide, rfl, lwg_of 50 (by decide +kernel) rfl⟩
theorem rc_X1_116 : ra_C RX1 116 1000000000 := ⟨lwg_of 520 (by decide +kernel) rfl, by decide, by decide⟩
theorem rm_X1_117 : ra_CV RX1 117 63 0 := ⟨lwg_of 521 (by decide +kernel) rfl, lwg_of 382 (by decide +kernel) rfl, lwg_of 383 (by decide +kernel) rfl, by decide +kernel, ok_X6_firstThere⟩
theorem rm_X1_121 : ra_CV RX1 121 64 0 := ⟨lwg_of 522 (by decide +kernel) rfl, lwg_of 387 (by decide +kernel) rfl, lwg_of 388 (by decide +kernel) rfl, by decide +kernel, ok_X6_lastThere⟩
theorem rm_X1_124 : ra_CV RX1 124 14 2 := ⟨lwg_of 523 (by decide +kernel) rfl, lwg_of 525 (by decide +kernel) rfl, lwg_sel 12 (by decide +kernel) rfl, by decide +kernel, ok_X1_leapPrice⟩
theorem rf_X1_127 : ra_F RX1 127 5 5 := ⟨RX5, TX5, 6, rfl, by decide, rfl, lwg_of 131 (by decide +kernel) rfl⟩
theorem rm_X1_128 : ra_CV RX1 128 13 2 := ⟨lwg_of 533 (by decide +kernel) rfl, lwg_of 535 (by decide +kernel) rfl, lwg_sel 14 (by decide +kernel) rfl, by decide +kernel, ok_X1_playPrice⟩
theorem rf_X1_131 : ra_F RX1 131 5 1 := ⟨RX5, TX5, 6, rfl, by decide, rfl, lwg_of 121 (by decide +kernel) rfl⟩
theorem rm_X1_134 : ra_CV RX1 134 12 3 := ⟨lwg_of 537 (by decide +kernel) rfl, lwg_of 539 (by decide +kernel) rfl, lwg_sel 15 (by decide +kernel) rfl, by decide +kernel, ok_X1_lowerRest⟩
theorem rm_X1_138 : ra_CV RX1 138 15 1 := ⟨lwg_of 545 (by decide +kernel) rfl, lwg_of 547 (by decide +kernel) rfl, lwg_sel 17 (by decide +kernel) rfl, by decide +kernel, ok_X1_passPrice⟩
theorem rm_X1_141 : ra_CV RX1 141 19 0 := ⟨lwg_of 553 (by decide +kernel) rfl, lwg_of 555 (by decide +kernel) rfl, lwg_sel 19 (by decide +kernel) rfl, by decide +kernel, ok_X1_forgetCourse⟩
theorem rf_X1_144 : ra_F RX1 144 1 12 := ⟨RX1, TX1, 16, rfl, by decide, rfl, lwg_of 223 (by decide +kernel) rfl⟩
theorem rp_X1_144 : ra_FP RX1 144 1 12 0 := ⟨RX1, TX1, 16, rfl, by decide, rfl, lwg_of 223 (by decide +kernel) rfl, rfl, by decide +kernel⟩
theorem rm_X1_145 : ra_CV RX1 145 20 2 := ⟨lwg_of 557 (by decide +kernel) rfl, lwg_of 559 (by decide +kernel) rfl, lwg_sel 20 (by decide +kernel) rfl, by decide +kernel, ok_X1_walkThrough⟩
theorem rm_X1_148 : ra_CV RX1 148 21 1 := ⟨lwg_of 593 (by decide +kernel) rfl, lwg_of 595 (by decide +kernel) rfl, lwg_sel 27 (by decide +kernel) rfl, by decide +kernel, ok_X1_match⟩
theorem rf_X1_151 : ra_F RX1 151 6 0 := ⟨RX6, TX6, 10, rfl, by decide, rfl, lwg_of 37 (by decide +kernel) rfl⟩
theorem rm_X1_152 : ra_CV RX1 152 24 2 := ⟨lwg_of 565 (by decide +kernel) rfl, lwg_of 567 (by decide +kernel) rfl, lwg_sel 22 (by decide +kernel) rfl, by decide +kernel, ok_X1_plays⟩
theorem rm_X1_156 : ra_CV RX1 156 25 2 := ⟨lwg_of 581 (by decide +kernel) rfl, lwg_of 583 (by decide +kernel) rfl, lwg_sel 24 (by decide +kernel) rfl, by decide +kernel, ok_X1_stays⟩
theorem rm_X1_159 : ra_CV RX1 159 26 2 := ⟨lwg_of 585 (by decide +kernel) rfl, lwg_of 587 (by decide +kernel) rfl, lwg_sel 25 (by decide +kernel) rfl, by decide +kernel, ok_X1_passes⟩
theorem rm_X1_162 : ra_CV RX1 162 27 2 := ⟨lwg_of 589 (by decide +kernel) rfl, lwg_of 591 (by decide +kernel) rfl, lwg_sel 26 (by decide +kernel) rfl, by decide +kernel, ok_X1_leaps⟩
theorem rm_X1_165 : ra_CV RX1 165 53 1 := ⟨lwg_of 569 (by decide +kernel) rfl, lwg_of 570 (by decide +kernel) rfl, lwg_of 571 (by decide +kernel) rfl, by decide +kernel, ok_X5_beginOf⟩
theorem rm_X1_168 : ra_CV RX1 168 54 1 := ⟨lwg_of 573 (by decide +kernel) rfl, lwg_of 574 (by decide +kernel) rfl, lwg_of 575 (by decide +kernel) rfl, by decide +kernel, ok_X5_endOf⟩
theorem rm_X1_171 : ra_CV RX1 171 28 3 := ⟨lwg_of 577 (by decide +kernel) rfl, lwg_of 579 (by decide +kernel) rfl, lwg_sel 23 (by decide +kernel) rfl, by decide +kernel, ok_X1_chosen⟩
theorem rf_X2_9 : ra_F RX2 9 2 0 := ⟨RX2, TX2, 3, rfl, by decide, rfl, lwg_of 267 (by decide +kernel) rfl⟩
theorem rf_X2_15 : ra_F RX2 15 2 1 := ⟨RX2, TX2, 3, rfl, by decide, rfl, lwg_of 269 (by decide +kernel) rfl⟩
theorem rm_X2_18 : ra_CS RX2 18 140 2 := ⟨lwg_of 633 (by decide +kernel) rfl, lwg_of 425 (by decide +kernel) rfl, by decide +kernel, ok_J9_min_7cf53⟩
theorem rm_X2_24 : ra_CV RX2 24 33 2 := ⟨lwg_of 634 (by decide +kernel) rfl, lwg_of 636 (by decide +kernel) rfl, lwg_sel 29 (by decide +kernel) rfl, by decide +kernel, ok_X2_put⟩
theorem rf_X2_28 : ra_F RX2 28 2 2 := ⟨RX2, TX2, 3, rfl, by decide, rfl, lwg_of 272 (by decide +kernel) rfl⟩
theorem rf_X3_9 : ra_F RX3 9 3 3 := ⟨RX3, TX3, 6, rfl, by decide, rfl, lwg_of 159 (by decide +kernel) rfl⟩
theorem rf_X3_15 : ra_F RX3 15 3 4 := ⟨RX3, TX3, 6, rfl, by decide, rfl, lwg_of 160 (by decide +kernel) rfl⟩
theorem rf_X3_18 : ra_F RX3 18 3 0 := ⟨RX3, TX3, 6, rfl, by decide, rfl, lwg_of 156 (by decide +kernel) rfl⟩
theorem rf_X3_22 : ra_F RX3 22 3 1 := ⟨RX3, TX3, 6, rfl, by decide, rfl, lwg_of 157 (by decide +kernel) rfl⟩
theorem rf_X3_26 : ra_F RX3 26 3 2 := ⟨RX3, TX3, 6, rfl, by decide, rfl, lwg_of 158 (by decide +kernel) rfl⟩
theorem rm_X3_30 : ra_CV RX3 30 37 0 := ⟨lwg_of 151 (by decide +kernel) rfl, lwg_of 152 (by decide +kernel) rfl, lwg_of 153 (by decide +kernel) rfl, by decide +kernel, ok_X3_begin⟩
theorem rc_X3_33 : ra_C RX3 33 1000000000 := ⟨lwg_of 155 (by decide +kernel) rfl, by decide, by decide⟩
theorem rf_X3_34 : ra_F RX3 34 3 5 := ⟨RX3, TX3, 6, rfl, by decide, rfl, lwg_of 161 (by decide +kernel) rfl⟩
theorem rp_X3_34 : ra_FP RX3 34 3 5 0 := ⟨RX3, TX3, 6, rfl, by decide, rfl, lwg_of 161 (by decide +kernel) rfl, rfl, by decide +kernel⟩
theorem rm_X3_38 : ra_CV RX3 38 40 0 := ⟨lwg_of 412 (by decide +kernel) rfl, lwg_of 414 (by decide +kernel) rfl, lwg_sel 4 (by decide +kernel) rfl, by decide +kernel, ok_X3_passOn⟩
theorem rf_X3_41 : ra_F RX3 41 4 0 := ⟨RX4, TX4, 3, rfl, by decide, rfl, lwg_of 98 (by decide +kernel) rfl⟩
theorem rm_X3_46 : ra_CV RX3 46 42 1 := ⟨lwg_of 420 (by decide +kernel) rfl, lwg_of 422 (by decide +kernel) rfl, lwg_sel 6 (by decide +kernel) rfl, by decide +kernel, ok_X3_take⟩
theorem rm_X3_50 : ra_CV RX3 50 44 1 := ⟨lwg_of 437 (by decide +kernel) rfl, lwg_of 439 (by decide +kernel) rfl, lwg_sel 8 (by decide +kernel) rfl, by decide +kernel, ok_X3_nearestOfLeast⟩
theorem rm_X3_54 : ra_CV RX3 54 45 0 := ⟨lwg_of 448 (by decide +kernel) rfl, lwg_of 450 (by decide +kernel) rfl, lwg_sel 9 (by decide +kernel) rfl, by decide +kernel, ok_X3_forgetFar⟩
theorem rf_X3_57 : ra_F RX3 57 6 5 := ⟨RX6, TX6, 10, rfl, by decide, rfl, lwg_of 55 (by decide +kernel) rfl⟩
theorem rm_X3_62 : ra_CV RX3 62 41 0 := ⟨lwg_of 416 (by decide +kernel) rfl, lwg_of 418 (by decide +kernel) rfl, lwg_sel 5 (by decide +kernel) rfl, by decide +kernel, ok_X3_passOnce⟩
theorem rf_X3_66 : ra_F RX3 66 5 5 := ⟨RX5, TX5, 6, rfl, by decide, rfl, lwg_of 130 (by decide +kernel) rfl⟩
theorem rf_X3_71 : ra_F RX3 71 5 1 := ⟨RX5, TX5, 6, rfl, by decide, rfl, lwg_of 120 (by decide +kernel) rfl⟩
theorem rf_X3_74 : ra_F RX3 74 5 3 := ⟨RX5, TX5, 6, rfl, by decide, rfl, lwg_of 126 (by decide +kernel) rfl⟩
theorem rf_X3_77 : ra_F RX3 77 6 4 := ⟨RX6, TX6, 10, rfl, by decide, rfl, lwg_of 48 (by decide +kernel) rfl⟩
theorem rf_X3_80 : ra_F RX3 80 5 2 := ⟨RX5, TX5, 6, rfl, by decide, rfl, lwg_of 123 (by decide +kernel) rfl⟩
theorem rm_X3_83 : ra_CS RX3 83 140 2 := ⟨lwg_of 424 (by decide +kernel) rfl, lwg_of 425 (by decide +kernel) rfl, by decide +kernel, ok_J9_min_7cf53⟩
theorem rm_X3_89 : ra_CV RX3 89 63 0 := ⟨lwg_of 427 (by decide +kernel) rfl, lwg_of 382 (by decide +kernel) rfl, lwg_of 383 (by decide +kernel) rfl, by decide +kernel, ok_X6_firstThere⟩
theorem rm_X3_93 : ra_CV RX3 93 64 0 := ⟨lwg_of 428 (by decide +kernel) rfl, lwg_of 387 (by decide +kernel) rfl, lwg_of 388 (by decide +kernel) rfl, by decide +kernel, ok_X6_lastThere⟩
theorem rm_X3_96 : ra_CV RX3 96 66 2 := ⟨lwg_of 429 (by decide +kernel) rfl, lwg_of 430 (by decide +kernel) rfl, lwg_of 431 (by decide +kernel) rfl, by decide +kernel, ok_X6_mistake⟩
theorem rm_X3_99 : ra_CV RX3 99 43 2 := ⟨lwg_of 433 (by decide +kernel) rfl, lwg_of 435 (by decide +kernel) rfl, lwg_sel 7 (by decide +kernel) rfl, by decide +kernel, ok_X3_lower⟩
theorem rm_X3_103 : ra_CV RX3 103 38 1 := ⟨lwg_of 441 (by decide +kernel) rfl, lwg_of 442 (by decide +kernel) rfl, lwg_of 443 (by decide +kernel) rfl, by decide +kernel, ok_X3_valueAt⟩
theorem rm_X3_106 : ra_CS RX3 106 138 1 := ⟨lwg_of 445 (by decide +kernel) rfl, lwg_of 446 (by decide +kernel) rfl, by decide +kernel, ok_J9_abs_0f7a4⟩
theorem rf_X3_109 : ra_F RX3 109 6 9 := ⟨RX6, TX6, 10, rfl, by decide, rfl, lwg_of 67 (by decide +kernel) rfl⟩
theorem rf_X4_9 : ra_F RX4 9 4 0 := ⟨RX4, TX4, 3, rfl, by decide, rfl, lwg_of 96 (by decide +kernel) rfl⟩
theorem rf_X4_15 : ra_F RX4 15 4 1 := ⟨RX4, TX4, 3, rfl, by decide, rfl, lwg_of 100 (by decide +kernel) rfl⟩
theorem rf_X4_18 : ra_F RX4 18 4 2 := ⟨RX4, TX4, 3, rfl, by decide, rfl, lwg_of 102 (by decide +kernel) rfl⟩
theorem rp_X4_18 : ra_FP RX4 18 4 2 0 := ⟨RX4, TX4, 3, rfl, by decide, rfl, lwg_of 102 (by decide +kernel) rfl, rfl, by decide +kernel⟩
theorem rf_X5_9 : ra_F RX5 9 5 1 := ⟨RX5, TX5, 6, rfl, by decide, rfl, lwg_of 119 (by decide +kernel) rfl⟩
theorem rf_X5_15 : ra_F RX5 15 5 2 := ⟨RX5, TX5, 6, rfl, by decide, rfl, lwg_of 122 (by decide +kernel) rfl⟩
theorem rf_X5_18 : ra_F RX5 18 5 3 := ⟨RX5, TX5, 6, rfl, by decide, rfl, lwg_of 125 (by decide +kernel) rfl⟩
theorem rf_X5_21 : ra_F RX5 21 5 4 := ⟨RX5, TX5, 6, rfl, by decide, rfl, lwg_of 128 (by decide +kernel) rfl⟩
theorem rf_X5_24 : ra_F RX5 24 5 0 := ⟨RX5, TX5, 6, rfl, by decide, rfl, lwg_of 118 (by decide +kernel) rfl⟩
theorem rf_X5_28 : ra_F RX5 28 5 5 := ⟨RX5, TX5, 6, rfl, by decide, rfl, lwg_of 129 (by decide +kernel) rfl⟩
theorem rp_X5_28 : ra_FP RX5 28 5 5 0 := ⟨RX5, TX5, 6, rfl, by decide, rfl, lwg_of 129 (by decide +kernel) rfl, rfl, by decide +kernel⟩
theorem rf_X5_32 : ra_F RX5 32 6 5 := ⟨RX6, TX6, 10, rfl, by decide, rfl, lwg_of 53 (by decide +kernel) rfl⟩
theorem rm_X5_37 : ra_CV RX5 37 65 1 := ⟨lwg_of 377 (by decide +kernel) rfl, lwg_of 378 (by decide +kernel) rfl, lwg_of 379 (by decide +kernel) rfl, by decide +kernel, ok_X6_isThere⟩
theorem rm_X5_41 : ra_CV RX5 41 51 1 := ⟨lwg_of 390 (by decide +kernel) rfl, lwg_of 392 (by decide +kernel) rfl, lwg_sel 1 (by decide +kernel) rfl, by decide +kernel, ok_X5_layFrom⟩
theorem rm_X5_45 : ra_CV RX5 45 63 0 := ⟨lwg_of 394 (by decide +kernel) rfl, lwg_of 382 (by decide +kernel) rfl, lwg_of 383 (by decide +kernel) rfl, by decide +kernel, ok_X6_firstThere⟩
theorem rm_X5_49 : ra_CV RX5 49 52 3 := ⟨lwg_of 395 (by decide +kernel) rfl, lwg_of 397 (by decide +kernel) rfl, lwg_sel 2 (by decide +kernel) rfl, by decide +kernel, ok_X5_add⟩
theorem rm_X5_53 : ra_CV RX5 53 61 0 := ⟨lwg_of 399 (by decide +kernel) rfl, lwg_of 325 (by decide +kernel) rfl, lwg_of 326 (by decide +kernel) rfl, by decide +kernel, ok_X6_hasLoop⟩
theorem rf_X5_57 : ra_F RX5 57 6 8 := ⟨RX6, TX6, 10, rfl, by decide, rfl, lwg_of 63 (by decide +kernel) rfl⟩
theorem rf_X5_60 : ra_F RX5 60 6 7 := ⟨RX6, TX6, 10, rfl, by decide, rfl, lwg_of 60 (by decide +kernel) rfl⟩
theorem rf_X5_63 : ra_F RX5 63 6 6 := ⟨RX6, TX6, 10, rfl, by decide, rfl, lwg_of 57 (by decide +kernel) rfl⟩
theorem rf_X5_66 : ra_F RX5 66 6 2 := ⟨RX6, TX6, 10, rfl, by decide, rfl, lwg_of 43 (by decide +kernel) rfl⟩
theorem rf_X5_69 : ra_F RX5 69 6 3 := ⟨RX6, TX6, 10, rfl, by decide, rfl, lwg_of 45 (by decide +kernel) rfl⟩
theorem rf_X5_72 : ra_F RX5 72 6 4 := ⟨RX6, TX6, 10, rfl, by decide, rfl, lwg_of 47 (by decide +kernel) rfl⟩
theorem rf_X6_9 : ra_F RX6 9 6 0 := ⟨RX6, TX6, 10, rfl, by decide, rfl, lwg_of 35 (by decide +kernel) rfl⟩
theorem rf_X6_15 : ra_F RX6 15 6 1 := ⟨RX6, TX6, 10, rfl, by decide, rfl, lwg_of 39 (by decide +kernel) rfl⟩
theorem rf_X6_18 : ra_F RX6 18 6 2 := ⟨RX6, TX6, 10, rfl, by decide, rfl, lwg_of 42 (by decide +kernel) rfl⟩
theorem rf_X6_21 : ra_F RX6 21 6 3 := ⟨RX6, TX6, 10, rfl, by decide, rfl, lwg_of 44 (by decide +kernel) rfl⟩
theorem rg_X6_24 : ra_G RX6 24 := ⟨rfl, rfl⟩
theorem rf_X6_27 : ra_F RX6 27 6 4 := ⟨RX6, TX6, 10, rfl, by decide, rfl, lwg_of 46 (by decide +kernel) rfl⟩
theorem rm_X6_30 : ra_CV RX6 30 56 0 := ⟨lwg_of 31 (by decide +kernel) rfl, lwg_of 32 (by decide +kernel) rfl, lwg_of 33 (by decide +kernel) rfl, by decide +kernel, ok_X6_empty⟩
theorem rf_X6_33 : ra_F RX6 33 6 5 := ⟨RX6, TX6, 10, rfl, by decide, rfl, lwg_of 51 (by decide +kernel) rfl⟩
theorem rp_X6_33 : ra_FP RX6 33 6 5 0 := ⟨RX6, TX6, 10, rfl, by decide, rfl, lwg_of 51 (by decide +kernel) rfl, rfl, by decide +kernel⟩
theorem rf_X6_37 : ra_F RX6 37 6 6 := ⟨RX6, TX6, 10, rfl, by decide, rfl, lwg_of 56 (by decide +kernel) rfl⟩
theorem rp_X6_37 : ra_FP RX6 37 6 6 0 := ⟨RX6, TX6, 10, rfl, by decide, rfl, lwg_of 56 (by decide +kernel) rfl, rfl, by decide +kernel⟩
theorem rf_X6_40 : ra_F RX6 40 6 7 := ⟨RX6, TX6, 10, rfl, by decide, rfl, lwg_of 59 (by decide +kernel) rfl⟩
theorem rp_X6_40 : ra_FP RX6 40 6 7 0 := ⟨RX6, TX6, 10, rfl, by decide, rfl, lwg_of 59 (by decide +kernel) rfl, rfl, by decide +kernel⟩
theorem rf_X6_43 : ra_F RX6 43 6 8 := ⟨RX6, TX6, 10, rfl, by decide, rfl, lwg_of 62 (by decide +kernel) rfl⟩
theorem rp_X6_43 : ra_FP RX6 43 6 8 0 := ⟨RX6, TX6, 10, rfl, by decide, rfl, lwg_of 62 (by decide +kernel) rfl, rfl, by decide +kernel⟩
theorem rf_X6_46 : ra_F RX6 46 6 9 := ⟨RX6, TX6, 10, rfl, by decide, rfl, lwg_of 65 (by decide +kernel) rfl⟩
theorem rp_X6_46 : ra_FP RX6 46 6 9 0 := ⟨RX6, TX6, 10, rfl, by decide, rfl, lwg_of 65 (by decide +kernel) rfl, rfl, by decide +kernel⟩
theorem rm_X6_49 : ra_CV RX6 49 61 0 := ⟨lwg_of 385 (by decide +kernel) rfl, lwg_of 325 (by decide +kernel) rfl, lwg_of 326 (by decide +kernel) rfl, by decide +kernel, ok_X6_hasLoop⟩
theorem rm_X6_53 : ra_CV RX6 53 63 0 := ⟨lwg_of 381 (by decide +kernel) rfl, lwg_of 382 (by decide +kernel) rfl, lwg_of 383 (by decide +kernel) rfl, by decide +kernel, ok_X6_firstThere⟩
theorem rm_X6_57 : ra_CV RX6 57 64 0 := ⟨lwg_of 386 (by decide +kernel) rfl, lwg_of 387 (by decide +kernel) rfl, lwg_of 388 (by decide +kernel) rfl, by decide +kernel, ok_X6_lastThere⟩
theorem rm_L_7 : ra_CV RL 7 84 1 := ⟨lwg_of 670 (by decide +kernel) rfl, lwg_of 671 (by decide +kernel) rfl, lwg_of 672 (by decide +kernel) rfl, by decide +kernel, ok_X7_mean⟩
theorem rm_L_19 : ra_CV RL 19 68 0 := ⟨lwg_of 302 (by decide +kernel) rfl, lwg_of 303 (by decide +kernel) rfl, lwg_of 304 (by decide +kernel) rfl, by decide +kernel, ok_X7_clear⟩
theorem rm_L_22 : ra_CV RL 22 99 0 := ⟨lwg_of 908 (by decide +kernel) rfl, lwg_of 909 (by decide +kernel) rfl, lwg_of 910 (by decide +kernel) rfl, by decide +kernel, ok_X8_clear⟩
theorem rm_L_23 : ra_CV RL 23 69 2 := ⟨lwg_of 312 (by decide +kernel) rfl, lwg_of 313 (by decide +kernel) rfl, lwg_of 314 (by decide +kernel) rfl, by decide +kernel, ok_X7_note⟩
theorem rm_L_27 : ra_CV RL 27 101 2 := ⟨lwg_of 912 (by decide +kernel) rfl, lwg_of 913 (by decide +kernel) rfl, lwg_of 914 (by decide +kernel) rfl, by decide +kernel, ok_X8_note⟩
theorem rm_L_28 : ra_CV RL 28 70 2 := ⟨lwg_of 336 (by decide +kernel) rfl, lwg_of 337 (by decide +kernel) rfl, lwg_of 338 (by decide +kernel) rfl, by decide +kernel, ok_X7_way⟩
theorem rm_L_31 : ra_CV RL 31 102 2 := ⟨lwg_of 917 (by decide +kernel) rfl, lwg_of 918 (by decide +kernel) rfl, lwg_of 919 (by decide +kernel) rfl, by decide +kernel, ok_X8_way⟩
theorem rm_L_32 : ra_CV RL 32 71 2 := ⟨lwg_of 352 (by decide +kernel) rfl, lwg_of 353 (by decide +kernel) rfl, lwg_of 354 (by decide +kernel) rfl, by decide +kernel, ok_X7_loop⟩
theorem rm_L_35 : ra_CV RL 35 103 2 := ⟨lwg_of 921 (by decide +kernel) rfl, lwg_of 922 (by decide +kernel) rfl, lwg_of 923 (by decide +kernel) rfl, by decide +kernel, ok_X8_loop⟩
theorem rm_L_36 : ra_CV RL 36 72 2 := ⟨lwg_of 356 (by decide +kernel) rfl, lwg_of 357 (by decide +kernel) rfl, lwg_of 358 (by decide +kernel) rfl, by decide +kernel, ok_X7_cost⟩
theorem rm_L_39 : ra_CV RL 39 104 2 := ⟨lwg_of 925 (by decide +kernel) rfl, lwg_of 926 (by decide +kernel) rfl, lwg_of 927 (by decide +kernel) rfl, by decide +kernel, ok_X8_cost⟩
theorem rm_L_40 : ra_CV RL 40 73 1 := ⟨lwg_of 360 (by decide +kernel) rfl, lwg_of 361 (by decide +kernel) rfl, lwg_of 362 (by decide +kernel) rfl, by decide +kernel, ok_X7_span⟩
theorem rm_L_43 : ra_CV RL 43 105 1 := ⟨lwg_of 929 (by decide +kernel) rfl, lwg_of 930 (by decide +kernel) rfl, lwg_of 931 (by decide +kernel) rfl, by decide +kernel, ok_X8_span⟩
theorem rm_L_44 : ra_CV RL 44 74 2 := ⟨lwg_of 364 (by decide +kernel) rfl, lwg_of 365 (by decide +kernel) rfl, lwg_of 366 (by decide +kernel) rfl, by decide +kernel, ok_X7_hear⟩
theorem rm_L_47 : ra_CV RL 47 115 2 := ⟨lwg_of 933 (by decide +kernel) rfl, lwg_of 934 (by decide +kernel) rfl, lwg_of 935 (by decide +kernel) rfl, by decide +kernel, ok_X8_hear⟩
theorem rm_L_48 : ra_CV RL 48 75 1 := ⟨lwg_of 457 (by decide +kernel) rfl, lwg_of 458 (by decide +kernel) rfl, lwg_of 459 (by decide +kernel) rfl, by decide +kernel, ok_X7_cut⟩
theorem rm_L_51 : ra_CV RL 51 116 1 := ⟨lwg_of 938 (by decide +kernel) rfl, lwg_of 939 (by decide +kernel) rfl, lwg_of 940 (by decide +kernel) rfl, by decide +kernel, ok_X8_cut⟩
theorem rm_L_52 : ra_CV RL 52 76 1 := ⟨lwg_of 461 (by decide +kernel) rfl, lwg_of 462 (by decide +kernel) rfl, lwg_of 463 (by decide +kernel) rfl, by decide +kernel, ok_X7_valueOf⟩
theorem rm_L_55 : ra_CV RL 55 117 1 := ⟨lwg_of 942 (by decide +kernel) rfl, lwg_of 943 (by decide +kernel) rfl, lwg_of 944 (by decide +kernel) rfl, by decide +kernel, ok_X8_valueOf⟩
theorem rm_L_56 : ra_CV RL 56 77 1 := ⟨lwg_of 467 (by decide +kernel) rfl, lwg_of 468 (by decide +kernel) rfl, lwg_of 469 (by decide +kernel) rfl, by decide +kernel, ok_X7_tempo⟩
theorem rm_L_59 : ra_CV RL 59 120 1 := ⟨lwg_of 946 (by decide +kernel) rfl, lwg_of 947 (by decide +kernel) rfl, lwg_of 948 (by decide +kernel) rfl, by decide +kernel, ok_X8_tempo⟩
theorem rm_L_60 : ra_CV RL 60 78 1 := ⟨lwg_of 492 (by decide +kernel) rfl, lwg_of 493 (by decide +kernel) rfl, lwg_of 494 (by decide +kernel) rfl, by decide +kernel, ok_X7_ahead⟩
theorem rm_L_64 : ra_CV RL 64 121 1 := ⟨lwg_of 957 (by decide +kernel) rfl, lwg_of 958 (by decide +kernel) rfl, lwg_of 959 (by decide +kernel) rfl, by decide +kernel, ok_X8_ahead⟩
theorem rm_L_65 : ra_CV RL 65 79 0 := ⟨lwg_of 508 (by decide +kernel) rfl, lwg_of 509 (by decide +kernel) rfl, lwg_of 510 (by decide +kernel) rfl, by decide +kernel, ok_X7_align⟩
theorem rm_L_69 : ra_CV RL 69 126 0 := ⟨lwg_of 963 (by decide +kernel) rfl, lwg_of 964 (by decide +kernel) rfl, lwg_of 965 (by decide +kernel) rfl, by decide +kernel, ok_X8_align⟩
theorem rm_L_70 : ra_CV RL 70 80 2 := ⟨lwg_of 597 (by decide +kernel) rfl, lwg_of 598 (by decide +kernel) rfl, lwg_of 599 (by decide +kernel) rfl, by decide +kernel, ok_X7_step⟩
theorem rm_L_73 : ra_CV RL 73 127 2 := ⟨lwg_of 983 (by decide +kernel) rfl, lwg_of 984 (by decide +kernel) rfl, lwg_of 985 (by decide +kernel) rfl, by decide +kernel, ok_X8_step⟩
theorem rm_L_74 : ra_CV RL 74 81 0 := ⟨lwg_of 609 (by decide +kernel) rfl, lwg_of 610 (by decide +kernel) rfl, lwg_of 611 (by decide +kernel) rfl, by decide +kernel, ok_X7_steps⟩
theorem rm_L_77 : ra_CV RL 77 128 0 := ⟨lwg_of 987 (by decide +kernel) rfl, lwg_of 988 (by decide +kernel) rfl, lwg_of 989 (by decide +kernel) rfl, by decide +kernel, ok_X8_steps⟩
theorem rm_L_78 : ra_CV RL 78 82 1 := ⟨lwg_of 613 (by decide +kernel) rfl, lwg_of 614 (by decide +kernel) rfl, lwg_of 615 (by decide +kernel) rfl, by decide +kernel, ok_X7_matched⟩
theorem rm_L_81 : ra_CV RL 81 129 1 := ⟨lwg_of 991 (by decide +kernel) rfl, lwg_of 992 (by decide +kernel) rfl, lwg_of 993 (by decide +kernel) rfl, by decide +kernel, ok_X8_matched⟩
theorem rm_L_82 : ra_CV RL 82 83 2 := ⟨lwg_of 617 (by decide +kernel) rfl, lwg_of 618 (by decide +kernel) rfl, lwg_of 619 (by decide +kernel) rfl, by decide +kernel, ok_X7_grade⟩
theorem rm_L_85 : ra_CV RL 85 131 2 := ⟨lwg_of 995 (by decide +kernel) rfl, lwg_of 996 (by decide +kernel) rfl, lwg_of 997 (by decide +kernel) rfl, by decide +kernel, ok_X8_grade⟩
theorem rm_L_91 : ra_CV RL 91 132 1 := ⟨lwg_of 1003 (by decide +kernel) rfl, lwg_of 1004 (by decide +kernel) rfl, lwg_of 1005 (by decide +kernel) rfl, by decide +kernel, ok_X8_mean⟩
theorem rm_L_92 : ra_CV RL 92 96 0 := ⟨lwg_of 904 (by decide +kernel) rfl, lwg_of 905 (by decide +kernel) rfl, lwg_of 906 (by decide +kernel) rfl, by decide +kernel, ok_X8_thrown⟩
theorem rm_L_95 : ra_CV RL 95 85 0 := ⟨lwg_of 621 (by decide +kernel) rfl, lwg_of 622 (by decide +kernel) rfl, lwg_of 623 (by decide +kernel) rfl, by decide +kernel, ok_X7_end⟩
theorem rm_L_98 : ra_CV RL 98 133 0 := ⟨lwg_of 1007 (by decide +kernel) rfl, lwg_of 1008 (by decide +kernel) rfl, lwg_of 1009 (by decide +kernel) rfl, by decide +kernel, ok_X8_end⟩
theorem rm_L_99 : ra_CV RL 99 86 1 := ⟨lwg_of 650 (by decide +kernel) rfl, lwg_of 651 (by decide +kernel) rfl, lwg_of 652 (by decide +kernel) rfl, by decide +kernel, ok_X7_due⟩
theorem rm_L_102 : ra_CV RL 102 134 1 := ⟨lwg_of 1011 (by decide +kernel) rfl, lwg_of 1012 (by decide +kernel) rfl, lwg_of 1013 (by decide +kernel) rfl, by decide +kernel, ok_X8_due⟩
theorem rm_L_103 : ra_CV RL 103 87 2 := ⟨lwg_of 658 (by decide +kernel) rfl, lwg_of 659 (by decide +kernel) rfl, lwg_of 660 (by decide +kernel) rfl, by decide +kernel, ok_X7_of⟩
theorem rm_L_106 : ra_CV RL 106 135 2 := ⟨lwg_of 1015 (by decide +kernel) rfl, lwg_of 1016 (by decide +kernel) rfl, lwg_of 1017 (by decide +kernel) rfl, by decide +kernel, ok_X8_of⟩
theorem rm_L_107 : ra_CV RL 107 88 1 := ⟨lwg_of 662 (by decide +kernel) rfl, lwg_of 663 (by decide +kernel) rfl, lwg_of 664 (by decide +kernel) rfl, by decide +kernel, ok_X7_told⟩
theorem rm_L_110 : ra_CV RL 110 136 1 := ⟨lwg_of 1019 (by decide +kernel) rfl, lwg_of 1020 (by decide +kernel) rfl, lwg_of 1021 (by decide +kernel) rfl, by decide +kernel, ok_X8_told⟩
theorem rf_X8_7 : ra_F RX8 7 8 0 := ⟨RX8, TX8, 35, rfl, by decide, rfl, lwg_of 798 (by decide +kernel) rfl⟩
theorem rf_X8_13 : ra_F RX8 13 8 1 := ⟨RX8, TX8, 35, rfl, by decide, rfl, lwg_of 799 (by decide +kernel) rfl⟩
theorem rf_X8_16 : ra_F RX8 16 8 2 := ⟨RX8, TX8, 35, rfl, by decide, rfl, lwg_of 800 (by decide +kernel) rfl⟩
theorem rf_X8_19 : ra_F RX8 19 8 3 := ⟨RX8, TX8, 35, rfl, by decide, rfl, lwg_of 801 (by decide +kernel) rfl⟩
theorem rf_X8_22 : ra_F RX8 22 8 5 := ⟨RX8, TX8, 35, rfl, by decide, rfl, lwg_of 803 (by decide +kernel) rfl⟩
theorem rf_X8_25 : ra_F RX8 25 8 6 := ⟨RX8, TX8, 35, rfl, by decide, rfl, lwg_of 804 (by decide +kernel) rfl⟩
theorem rf_X8_28 : ra_F RX8 28 8 8 := ⟨RX8, TX8, 35, rfl, by decide, rfl, lwg_of 806 (by decide +kernel) rfl⟩
theorem rp_X8_28 : ra_FP RX8 28 8 8 0 := ⟨RX8, TX8, 35, rfl, by decide, rfl, lwg_of 806 (by decide +kernel) rfl, rfl, by decide +kernel⟩
theorem rf_X8_32 : ra_F RX8 32 8 9 := ⟨RX8, TX8, 35, rfl, by decide, rfl, lwg_of 807 (by decide +kernel) rfl⟩
theorem rp_X8_32 : ra_FP RX8 32 8 9 0 := ⟨RX8, TX8, 35, rfl, by decide, rfl, lwg_of 807 (by decide +kernel) rfl, rfl, by decide +kernel⟩
theorem rf_X8_35 : ra_F RX8 35 8 10 := ⟨RX8, TX8, 35, rfl, by decide, rfl, lwg_of 808 (by decide +kernel) rfl⟩
theorem rf_X8_38 : ra_F RX8 38 8 12 := ⟨RX8, TX8, 35, rfl, by decide, rfl, lwg_of 810 (by decide +kernel) rfl⟩
theorem rf_X8_41 : ra_F RX8 41 8 13 := ⟨RX8, TX8, 35, rfl, by decide, rfl, lwg_of 811 (by decide +kernel) rfl⟩
theorem rf_X8_44 : ra_F RX8 44 8 16 := ⟨RX8, TX8, 35, rfl, by decide, rfl, lwg_of 814 (by decide +kernel) rfl⟩
theorem rf_X8_47 : ra_F RX8 47 8 17 := ⟨RX8, TX8, 35, rfl, by decide, rfl, lwg_of 815 (by decide +kernel) rfl⟩
theorem rf_X8_50 : ra_F RX8 50 8 18 := ⟨RX8, TX8, 35, rfl, by decide, rfl, lwg_of 816 (by decide +kernel) rfl⟩
theorem rf_X8_53 : ra_F RX8 53 8 20 := ⟨RX8, TX8, 35, rfl, by decide, rfl, lwg_of 818 (by decide +kernel) rfl⟩
theorem rf_X8_56 : ra_F RX8 56 8 21 := ⟨RX8, TX8, 35, rfl, by decide, rfl, lwg_of 819 (by decide +kernel) rfl⟩
theorem rf_X8_59 : ra_F RX8 59 8 23 := ⟨RX8, TX8, 35, rfl, by decide, rfl, lwg_of 821 (by decide +kernel) rfl⟩
theorem rf_X8_62 : ra_F RX8 62 8 24 := ⟨RX8, TX8, 35, rfl, by decide, rfl, lwg_of 822 (by decide +kernel) rfl⟩
theorem rf_X8_65 : ra_F RX8 65 8 26 := ⟨RX8, TX8, 35, rfl, by decide, rfl, lwg_of 824 (by decide +kernel) rfl⟩
theorem rf_X8_68 : ra_F RX8 68 8 29 := ⟨RX8, TX8, 35, rfl, by decide, rfl, lwg_of 827 (by decide +kernel) rfl⟩
theorem rf_X8_71 : ra_F RX8 71 8 30 := ⟨RX8, TX8, 35, rfl, by decide, rfl, lwg_of 828 (by decide +kernel) rfl⟩
theorem rf_X8_74 : ra_F RX8 74 8 31 := ⟨RX8, TX8, 35, rfl, by decide, rfl, lwg_of 829 (by decide +kernel) rfl⟩
theorem rf_X8_77 : ra_F RX8 77 8 32 := ⟨RX8, TX8, 35, rfl, by decide, rfl, lwg_of 830 (by decide +kernel) rfl⟩
theorem rm_X8_80 : ra_CV RX8 80 97 0 := ⟨lwg_of 749 (by decide +kernel) rfl, lwg_of 751 (by decide +kernel) rfl, lwg_sel 31 (by decide +kernel) rfl, by decide +kernel, ok_X8_begin⟩
theorem rf_X8_83 : ra_F RX8 83 8 34 := ⟨RX8, TX8, 35, rfl, by decide, rfl, lwg_of 832 (by decide +kernel) rfl⟩
theorem rp_X8_83 : ra_FP RX8 83 8 34 0 := ⟨RX8, TX8, 35, rfl, by decide, rfl, lwg_of 832 (by decide +kernel) rfl, rfl, by decide +kernel⟩
theorem rf_X8_86 : ra_F RX8 86 8 4 := ⟨RX8, TX8, 35, rfl, by decide, rfl, lwg_of 802 (by decide +kernel) rfl⟩
theorem rp_X8_86 : ra_FP RX8 86 8 4 0 := ⟨RX8, TX8, 35, rfl, by decide, rfl, lwg_of 802 (by decide +kernel) rfl, rfl, by decide +kernel⟩
theorem rf_X8_89 : ra_F RX8 89 8 7 := ⟨RX8, TX8, 35, rfl, by decide, rfl, lwg_of 805 (by decide +kernel) rfl⟩
theorem rp_X8_89 : ra_FP RX8 89 8 7 0 := ⟨RX8, TX8, 35, rfl, by decide, rfl, lwg_of 805 (by decide +kernel) rfl, rfl, by decide +kernel⟩
theorem rf_X8_92 : ra_F RX8 92 8 11 := ⟨RX8, TX8, 35, rfl, by decide, rfl, lwg_of 809 (by decide +kernel) rfl⟩
theorem rp_X8_92 : ra_FP RX8 92 8 11 0 := ⟨RX8, TX8, 35, rfl, by decide, rfl, lwg_of 809 (by decide +kernel) rfl, rfl, by decide +kernel⟩
theorem rf_X8_95 : ra_F RX8 95 8 15 := ⟨RX8, TX8, 35, rfl, by decide, rfl, lwg_of 813 (by decide +kernel) rfl⟩
theorem rp_X8_95 : ra_FP RX8 95 8 15 0 := ⟨RX8, TX8, 35, rfl, by decide, rfl, lwg_of 813 (by decide +kernel) rfl, rfl, by decide +kernel⟩
theorem rm_X8_98 : ra_CV RX8 98 98 0 := ⟨lwg_of 753 (by decide +kernel) rfl, lwg_of 755 (by decide +kernel) rfl, lwg_sel 32 (by decide +kernel) rfl, by decide +kernel, ok_X8_fresh⟩
theorem rf_X8_101 : ra_F RX8 101 8 14 := ⟨RX8, TX8, 35, rfl, by decide, rfl, lwg_of 812 (by decide +kernel) rfl⟩
theorem rp_X8_101 : ra_FP RX8 101 8 14 0 := ⟨RX8, TX8, 35, rfl, by decide, rfl, lwg_of 812 (by decide +kernel) rfl, rfl, by decide +kernel⟩
theorem rf_X8_104 : ra_F RX8 104 8 27 := ⟨RX8, TX8, 35, rfl, by decide, rfl, lwg_of 825 (by decide +kernel) rfl⟩
theorem rp_X8_104 : ra_FP RX8 104 8 27 1 := ⟨RX8, TX8, 35, rfl, by decide, rfl, lwg_of 825 (by decide +kernel) rfl, rfl, by decide +kernel⟩
theorem rm_X8_108 : ra_CV RX8 108 109 0 := ⟨lwg_of 757 (by decide +kernel) rfl, lwg_of 759 (by decide +kernel) rfl, lwg_sel 33 (by decide +kernel) rfl, by decide +kernel, ok_X8_follow⟩
theorem rc_X8_111 : ra_C RX8 111 1000000 := ⟨lwg_of 916 (by decide +kernel) rfl, by decide, by decide⟩
theorem rf_X8_112 : ra_F RX8 112 8 25 := ⟨RX8, TX8, 35, rfl, by decide, rfl, lwg_of 823 (by decide +kernel) rfl⟩
theorem rp_X8_112 : ra_FP RX8 112 8 25 0 := ⟨RX8, TX8, 35, rfl, by decide, rfl, lwg_of 823 (by decide +kernel) rfl, rfl, by decide +kernel⟩
theorem rm_X8_115 : ra_CV RX8 115 100 1 := ⟨lwg_of 774 (by decide +kernel) rfl, lwg_of 776 (by decide +kernel) rfl, lwg_sel 37 (by decide +kernel) rfl, by decide +kernel, ok_X8_isThere⟩
theorem rm_X8_119 : ra_CV RX8 119 107 2 := ⟨lwg_of 778 (by decide +kernel) rfl, lwg_of 780 (by decide +kernel) rfl, lwg_sel 38 (by decide +kernel) rfl, by decide +kernel, ok_X8_lay⟩
theorem rc_X8_123 : ra_C RX8 123 1000000000 := ⟨lwg_of 761 (by decide +kernel) rfl, by decide, by decide⟩
theorem rf_X8_124 : ra_F RX8 124 8 19 := ⟨RX8, TX8, 35, rfl, by decide, rfl, lwg_of 817 (by decide +kernel) rfl⟩
theorem rp_X8_124 : ra_FP RX8 124 8 19 0 := ⟨RX8, TX8, 35, rfl, by decide, rfl, lwg_of 817 (by decide +kernel) rfl, rfl, by decide +kernel⟩
theorem rf_X8_127 : ra_F RX8 127 8 22 := ⟨RX8, TX8, 35, rfl, by decide, rfl, lwg_of 820 (by decide +kernel) rfl⟩
theorem rp_X8_127 : ra_FP RX8 127 8 22 0 := ⟨RX8, TX8, 35, rfl, by decide, rfl, lwg_of 820 (by decide +kernel) rfl, rfl, by decide +kernel⟩
theorem rm_X8_130 : ra_CV RX8 130 110 1 := ⟨lwg_of 762 (by decide +kernel) rfl, lwg_of 764 (by decide +kernel) rfl, lwg_sel 34 (by decide +kernel) rfl, by decide +kernel, ok_X8_further⟩
theorem rm_X8_134 : ra_CV RX8 134 111 0 := ⟨lwg_of 766 (by decide +kernel) rfl, lwg_of 768 (by decide +kernel) rfl, lwg_sel 35 (by decide +kernel) rfl, by decide +kernel, ok_X8_pass⟩
theorem rm_X8_137 : ra_CV RX8 137 112 1 := ⟨lwg_of 782 (by decide +kernel) rfl, lwg_of 784 (by decide +kernel) rfl, lwg_sel 39 (by decide +kernel) rfl, by decide +kernel, ok_X8_take⟩
theorem rm_X8_140 : ra_CV RX8 140 113 0 := ⟨lwg_of 790 (by decide +kernel) rfl, lwg_of 792 (by decide +kernel) rfl, lwg_sel 41 (by decide +kernel) rfl, by decide +kernel, ok_X8_choose⟩
theorem rm_X8_143 : ra_CV RX8 143 114 1 := ⟨lwg_of 794 (by decide +kernel) rfl, lwg_of 796 (by decide +kernel) rfl, lwg_sel 42 (by decide +kernel) rfl, by decide +kernel, ok_X8_anchor⟩
theorem rm_X8_146 : ra_CV RX8 146 106 1 := ⟨lwg_of 770 (by decide +kernel) rfl, lwg_of 772 (by decide +kernel) rfl, lwg_sel 36 (by decide +kernel) rfl, by decide +kernel, ok_X8_nextsOf⟩
theorem rm_X8_149 : ra_CV RX8 149 108 2 := ⟨lwg_of 786 (by decide +kernel) rfl, lwg_of 788 (by decide +kernel) rfl, lwg_sel 40 (by decide +kernel) rfl, by decide +kernel, ok_X8_wrong⟩
theorem rc_X8_153 : ra_C RX8 153 10000000 := ⟨lwg_of 937 (by decide +kernel) rfl, by decide, by decide⟩
theorem rm_X8_154 : ra_CS RX8 154 118 2 := ⟨lwg_of 954 (by decide +kernel) rfl, lwg_of 955 (by decide +kernel) rfl, by decide +kernel, ok_X8_common⟩
theorem rm_X8_157 : ra_CV RX8 157 119 1 := ⟨lwg_of 950 (by decide +kernel) rfl, lwg_of 952 (by decide +kernel) rfl, lwg_sel 43 (by decide +kernel) rfl, by decide +kernel, ok_X8_tempoOf⟩
theorem rc_X8_161 : ra_CJ RX8 161 (-2) := ⟨lwg_of 961 (by decide +kernel) rfl, by decide, by decide⟩
theorem rc_X8_163 : ra_CJ RX8 163 (-3) := ⟨lwg_of 962 (by decide +kernel) rfl, by decide, by decide⟩
theorem rm_X8_165 : ra_CV RX8 165 122 2 := ⟨lwg_of 971 (by decide +kernel) rfl, lwg_of 973 (by decide +kernel) rfl, lwg_sel 45 (by decide +kernel) rfl, by decide +kernel, ok_X8_at⟩
theorem rf_X8_168 : ra_F RX8 168 8 33 := ⟨RX8, TX8, 35, rfl, by decide, rfl, lwg_of 831 (by decide +kernel) rfl⟩
theorem rp_X8_168 : ra_FP RX8 168 8 33 0 := ⟨RX8, TX8, 35, rfl, by decide, rfl, lwg_of 831 (by decide +kernel) rfl, rfl, by decide +kernel⟩
theorem rm_X8_171 : ra_CV RX8 171 124 4 := ⟨lwg_of 979 (by decide +kernel) rfl, lwg_of 981 (by decide +kernel) rfl, lwg_sel 47 (by decide +kernel) rfl, by decide +kernel, ok_X8_put⟩
theorem rm_X8_175 : ra_CV RX8 175 123 1 := ⟨lwg_of 967 (by decide +kernel) rfl, lwg_of 969 (by decide +kernel) rfl, lwg_sel 44 (by decide +kernel) rfl, by decide +kernel, ok_X8_left⟩
theorem rf_X8_178 : ra_F RX8 178 8 28 := ⟨RX8, TX8, 35, rfl, by decide, rfl, lwg_of 826 (by decide +kernel) rfl⟩
theorem rp_X8_178 : ra_FP RX8 178 8 28 0 := ⟨RX8, TX8, 35, rfl, by decide, rfl, lwg_of 826 (by decide +kernel) rfl, rfl, by decide +kernel⟩
theorem rm_X8_181 : ra_CV RX8 181 125 2 := ⟨lwg_of 975 (by decide +kernel) rfl, lwg_of 977 (by decide +kernel) rfl, lwg_sel 46 (by decide +kernel) rfl, by decide +kernel, ok_X8_choose_⟩
theorem rm_X8_183 : ra_CV RX8 183 130 2 := ⟨lwg_of 999 (by decide +kernel) rfl, lwg_of 1001 (by decide +kernel) rfl, lwg_sel 48 (by decide +kernel) rfl, by decide +kernel, ok_X8_count⟩
