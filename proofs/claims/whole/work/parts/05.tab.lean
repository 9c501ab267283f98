theorem in_tb {w : Cond} (i : Nat) (h : lw_tbl[i]? = some w) (hg : goodWord w = true) : w ∈ am_tb := List.mem_filter.mpr ⟨List.mem_of_getElem? h, hg⟩
/-! the heap: 0 BeltArms, 1 its two images, 2.. 19.. 36.. the three States (State, Belt and 3 rows, Things and 5 rows, Arms and 5 rows), 53.. 60.. the two Plans (and 6 rows), 67 Trays (68, 69), 70 the reference and its rows 71 to 85 -/
def am_tab : List am_C := [.inl (6, [some 2, some 1, none, some 53, some 60, some 67, none]),
  .inr (.inr [19, 36]),
  .inl (3, [some 3, some 7, some 13, none, none]),
  .inl (1, [none, none, some 4, some 5, some 6]),
  .inr (.inl (0, 8)),
  .inr (.inl (0, 8)),
  .inr (.inl (0, 301)),
  .inl (4, [none, some 8, some 9, some 10, some 11, some 12]),
  .inr (.inl (0, 20)),
  .inr (.inl (0, 20)),
  .inr (.inl (0, 20)),
  .inr (.inl (0, 20)),
  .inr (.inl (2, 100)),
  .inl (0, [some 14, some 15, some 16, some 17, some 18]),
  .inr (.inl (0, 4)),
  .inr (.inl (0, 4)),
  .inr (.inl (0, 4)),
  .inr (.inl (0, 4)),
  .inr (.inl (0, 4)),
  .inl (3, [some 20, some 24, some 30, none, none]),
  .inl (1, [none, none, some 21, some 22, some 23]),
  .inr (.inl (0, 8)),
  .inr (.inl (0, 8)),
  .inr (.inl (0, 301)),
  .inl (4, [none, some 25, some 26, some 27, some 28, some 29]),
  .inr (.inl (0, 20)),
  .inr (.inl (0, 20)),
  .inr (.inl (0, 20)),
  .inr (.inl (0, 20)),
  .inr (.inl (2, 100)),
  .inl (0, [some 31, some 32, some 33, some 34, some 35]),
  .inr (.inl (0, 4)),
  .inr (.inl (0, 4)),
  .inr (.inl (0, 4)),
  .inr (.inl (0, 4)),
  .inr (.inl (0, 4)),
  .inl (3, [some 37, some 41, some 47, none, none]),
  .inl (1, [none, none, some 38, some 39, some 40]),
  .inr (.inl (0, 8)),
  .inr (.inl (0, 8)),
  .inr (.inl (0, 301)),
  .inl (4, [none, some 42, some 43, some 44, some 45, some 46]),
  .inr (.inl (0, 20)),
  .inr (.inl (0, 20)),
  .inr (.inl (0, 20)),
  .inr (.inl (0, 20)),
  .inr (.inl (2, 100)),
  .inl (0, [some 48, some 49, some 50, some 51, some 52]),
  .inr (.inl (0, 4)),
  .inr (.inl (0, 4)),
  .inr (.inl (0, 4)),
  .inr (.inl (0, 4)),
  .inr (.inl (0, 4)),
  .inl (2, [none, none, some 54, some 55, some 56, some 57, some 58, some 59, none, none, none]),
  .inr (.inl (0, 400)),
  .inr (.inl (0, 20)),
  .inr (.inl (0, 20)),
  .inr (.inl (0, 1204)),
  .inr (.inl (0, 20)),
  .inr (.inl (0, 20)),
  .inl (2, [none, none, some 61, some 62, some 63, some 64, some 65, some 66, none, none, none]),
  .inr (.inl (0, 400)),
  .inr (.inl (0, 20)),
  .inr (.inl (0, 20)),
  .inr (.inl (0, 1204)),
  .inr (.inl (0, 20)),
  .inr (.inl (0, 20)),
  .inl (5, [some 68, some 69]),
  .inr (.inl (0, 20)),
  .inr (.inl (0, 18)),
  .inl (7, [some 71, some 72, some 73, some 74, some 75, some 76, some 77, some 78, some 79, some 80, some 81, some 82, some 83, none, some 84, some 85]),
  .inr (.inl (0, 6424)),
  .inr (.inl (0, 12848)),
  .inr (.inl (1, 2)),
  .inr (.inl (0, 301)),
  .inr (.inl (0, 6020)),
  .inr (.inl (0, 1204)),
  .inr (.inl (1, 1204)),
  .inr (.inl (1, 20)),
  .inr (.inl (0, 20)),
  .inr (.inl (0, 1204)),
  .inr (.inl (0, 20)),
  .inr (.inl (0, 20)),
  .inr (.inl (0, 20)),
  .inr (.inl (0, 18)),
  .inr (.inl (0, 20))]
abbrev mX0_copyFrom : am_M := (yX0_copyFrom, cX0_copyFrom, 2, none, am_rm 1, (0, 0))
abbrev mX0_othersReach : am_M := (yX0_othersReach, cX0_othersReach, 5, (some .boolean), am_rm 0, (0, 0))
abbrev mX0_hasLane : am_M := (yX0_hasLane, cX0_hasLane, 3, (some .boolean), am_rm 0, (0, 0))
abbrev mX0_reaches : am_M := (yX0_reaches, cX0_reaches, 3, (some .boolean), am_rm 1, (0, 0))
abbrev mX0_hasBeatAt : am_M := (yX0_hasBeatAt, cX0_hasBeatAt, 3, (some .boolean), am_rm 2, (0, 0))
abbrev mX0_beatFrom : am_M := (yX0_beatFrom, cX0_beatFrom, 4, (some .int), am_rm 1, (0, 0))
abbrev mX0_beatTill : am_M := (yX0_beatTill, cX0_beatTill, 4, (some .int), am_rm 1, (0, 0))
abbrev mX0_nextAlong : am_M := (yX0_nextAlong, cX0_nextAlong, 4, (some .int), am_rm 0, (0, 0))
abbrev mX1_copyFrom : am_M := (yX1_copyFrom, cX1_copyFrom, 2, none, am_rm 1, (0, 0))
abbrev mX1_begunBy : am_M := (yX1_begunBy, cX1_begunBy, 3, (some .int), am_rm 0, (0, 0))
abbrev mX1_speedAt : am_M := (yX1_speedAt, cX1_speedAt, 3, (some .int), am_rm 1, (0, 0))
abbrev mX1_changeAt : am_M := (yX1_changeAt, cX1_changeAt, 3, (some .int), am_rm 1, (0, 0))
abbrev mX1_tell : am_M := (yX1_tell, cX1_tell, 4, none, am_rm 2, (0, 0))
abbrev mX1_insert : am_M := (yX1_insert, cX1_insert, 5, none, am_rm 0, (0, 0))
abbrev mX1_forget : am_M := (yX1_forget, cX1_forget, 3, none, am_rm 1, (0, 0))
abbrev mX1_addUp : am_M := (yX1_addUp, cX1_addUp, 5, none, am_rm 0, (0, 0))
abbrev mX1_firstTickGone : am_M := (yX1_firstTickGone, cX1_firstTickGone, 4, (some .int), am_rm 0, (0, 0))
abbrev mX2_takeMost : am_M := (yX2_takeMost, cX2_takeMost, 4, none, am_rm 5, (0, 0))
abbrev mX2_listSlots : am_M := (yX2_listSlots, cX2_listSlots, 6, none, am_rm 4, (0, 0))
abbrev mX2_listSlotsOf : am_M := (yX2_listSlotsOf, cX2_listSlotsOf, 7, none, am_rm 3, (0, 0))
abbrev mX2_settle : am_M := (yX2_settle, cX2_settle, 4, none, am_rm 4, (0, 0))
abbrev mX2_settleAt : am_M := (yX2_settleAt, cX2_settleAt, 5, (some .boolean), am_rm 3, (0, 0))
abbrev mX2_hold : am_M := (yX2_hold, cX2_hold, 3, none, am_rm 0, (0, 0))
abbrev mX2_leave : am_M := (yX2_leave, cX2_leave, 3, none, am_rm 0, (0, 0))
abbrev mX2_takeOneMore : am_M := (yX2_takeOneMore, cX2_takeOneMore, 5, (some .boolean), am_rm 2, (0, 0))
abbrev mX2_freeSlot : am_M := (yX2_freeSlot, cX2_freeSlot, 6, (some .int), am_rm 1, (0, 0))
abbrev mX2_enqueue : am_M := (yX2_enqueue, cX2_enqueue, 3, none, am_rm 0, (0, 0))
abbrev mX2_moveUp : am_M := (yX2_moveUp, cX2_moveUp, 7, none, am_rm 1, (0, 0))
abbrev mX2_tickOf : am_M := (yX2_tickOf, cX2_tickOf, 2, (some .int), am_rm 0, (0, 0))
abbrev mX2_armOf : am_M := (yX2_armOf, cX2_armOf, 2, (some .int), am_rm 0, (0, 0))
abbrev mX2_takenAt : am_M := (yX2_takenAt, cX2_takenAt, 3, (some .int), am_rm 0, (0, 0))
abbrev mX2_takenBy : am_M := (yX2_takenBy, cX2_takenBy, 4, (some .int), am_rm 1, (0, 0))
abbrev mX2_lastTick : am_M := (yX2_lastTick, cX2_lastTick, 3, (some .int), am_rm 1, (0, 0))
abbrev mX2_missedSet : am_M := (yX2_missedSet, cX2_missedSet, 3, (some .int), am_rm 0, (0, 0))
abbrev mX2_neededSet : am_M := (yX2_neededSet, cX2_neededSet, 1, (some .int), am_rm 0, (0, 0))
abbrev mX2_nextTaken : am_M := (yX2_nextTaken, cX2_nextTaken, 4, (some .int), am_rm 0, (0, 0))
abbrev mX3_copyFrom : am_M := (yX3_copyFrom, cX3_copyFrom, 2, none, am_rm 2, (0, 0))
abbrev mX3_placeAt : am_M := (yX3_placeAt, cX3_placeAt, 3, (some .int), am_rm 0, (0, 0))
abbrev mX3_nearest : am_M := (yX3_nearest, cX3_nearest, 9, (some .int), am_rm 1, (0, 0))
abbrev mX3_canTake : am_M := (yX3_canTake, cX3_canTake, 4, (some .boolean), am_rm 3, (0, 0))
abbrev mX3_firstChanceOf : am_M := (yX3_firstChanceOf, cX3_firstChanceOf, 4, (some .int), am_rm 2, (0, 0))
abbrev mX3_lastChanceOf : am_M := (yX3_lastChanceOf, cX3_lastChanceOf, 4, (some .int), am_rm 2, (0, 0))
abbrev mX3_firstChance : am_M := (yX3_firstChance, cX3_firstChance, 5, (some .int), am_rm 3, (0, 0))
abbrev mX3_lastChance : am_M := (yX3_lastChance, cX3_lastChance, 5, (some .int), am_rm 3, (0, 0))
abbrev mX3_chances : am_M := (yX3_chances, cX3_chances, 5, (some .int), am_rm 3, (0, 0))
abbrev mX4_copyFrom : am_M := (yX4_copyFrom, cX4_copyFrom, 2, none, am_rm 1, (0, 0))
abbrev mX4_append : am_M := (yX4_append, cX4_append, 6, none, am_rm 1, (0, 0))
abbrev mX4_remove : am_M := (yX4_remove, cX4_remove, 3, none, am_rm 1, (0, 0))
abbrev mX4_markSeen : am_M := (yX4_markSeen, cX4_markSeen, 3, none, am_rm 0, (0, 0))
abbrev mX4_wasSeen : am_M := (yX4_wasSeen, cX4_wasSeen, 3, (some .boolean), am_rm 0, (0, 0))
abbrev mX4_timesSeen : am_M := (yX4_timesSeen, cX4_timesSeen, 4, (some .int), am_rm 1, (0, 0))
abbrev mX4_seenOften : am_M := (yX4_seenOften, cX4_seenOften, 3, (some .int), am_rm 2, (0, 0))
abbrev mX4_ofKind : am_M := (yX4_ofKind, cX4_ofKind, 4, (some .int), am_rm 0, (0, 0))
abbrev mX5_lay : am_M := (yX5_lay, cX5_lay, 7, none, am_rm 1, (0, 0))
abbrev mX5_emptiest : am_M := (yX5_emptiest, cX5_emptiest, 5, (some .int), am_rm 0, (0, 0))
abbrev mX6_speed : am_M := (yX6_speed, cX6_speed, 5, (some .int), am_rm 3, (0, 0))
abbrev mX6_level : am_M := (yX6_level, cX6_level, 3, (some .int), am_rm 2, (0, 0))
abbrev mX6_gone : am_M := (yX6_gone, cX6_gone, 2, (some .int), am_rm 2, (0, 0))
abbrev mX6_see : am_M := (yX6_see, cX6_see, 7, (some .int), am_rm 2, (0, 0))
abbrev mX6_drop : am_M := (yX6_drop, cX6_drop, 2, (some .int), am_rm 2, (0, 0))
abbrev mX6_thing : am_M := (yX6_thing, cX6_thing, 4, (some .int), am_rm 7, (0, 0))
abbrev mX6_place : am_M := (yX6_place, cX6_place, 3, (some .int), am_rm 2, (0, 0))
abbrev mX6_reach : am_M := (yX6_reach, cX6_reach, 4, (some .int), am_rm 2, (0, 0))
abbrev mX6_beat : am_M := (yX6_beat, cX6_beat, 4, (some .int), am_rm 2, (0, 0))
abbrev mX6_lanes : am_M := (yX6_lanes, cX6_lanes, 4, (some .int), am_rm 2, (0, 0))
abbrev mX6_arm : am_M := (yX6_arm, cX6_arm, 4, (some .int), am_rm 7, (0, 0))
abbrev mX6_can : am_M := (yX6_can, cX6_can, 4, (some .int), am_rm 4, (0, 0))
abbrev mX6_takes : am_M := (yX6_takes, cX6_takes, 4, (some .int), am_rm 7, (0, 0))
abbrev mX6_plan : am_M := (yX6_plan, cX6_plan, 2, (some .int), am_rm 7, (0, 0))
abbrev mX6_tray : am_M := (yX6_tray, cX6_tray, 3, (some .int), am_rm 7, (0, 0))
abbrev mX6_set : am_M := (yX6_set, cX6_set, 4, (some .int), am_rm 1, (0, 0))
abbrev mX6_image : am_M := (yX6_image, cX6_image, 2, (some .int), am_rm 3, (0, 0))
abbrev mX6_restore : am_M := (yX6_restore, cX6_restore, 2, (some .int), am_rm 3, (0, 0))
abbrev mX6_count : am_M := (yX6_count, cX6_count, 2, (some .int), am_rm 3, (0, 0))
abbrev mX6_isWithin : am_M := (yX6_isWithin, cX6_isWithin, 3, (some .boolean), am_rm 0, (0, 0))
abbrev mX6_isTick : am_M := (yX6_isTick, cX6_isTick, 1, (some .boolean), am_rm 1, (0, 0))
abbrev mX6_isArm : am_M := (yX6_isArm, cX6_isArm, 1, (some .boolean), am_rm 1, (0, 0))
abbrev mX6_isThing : am_M := (yX6_isThing, cX6_isThing, 2, (some .boolean), am_rm 1, (0, 0))
abbrev mX6_freshPlan : am_M := (yX6_freshPlan, cX6_freshPlan, 1, (some (.object "BeltArms$Plan")), am_rm 6, (0, 0))
abbrev mX7_in : am_M := (yX7_in, cX7_in, 3, (some .boolean), am_rm 0, (0, 0))
abbrev mX7_isTick : am_M := (yX7_isTick, cX7_isTick, 1, (some .boolean), am_rm 1, (0, 0))
abbrev mX7_isThing : am_M := (yX7_isThing, cX7_isThing, 2, (some .boolean), am_rm 1, (0, 0))
abbrev mX7_isArm : am_M := (yX7_isArm, cX7_isArm, 1, (some .boolean), am_rm 1, (0, 0))
abbrev mX7_size : am_M := (yX7_size, cX7_size, 1, (some .int), am_rm 0, (0, 0))
abbrev mX7_changes : am_M := (yX7_changes, cX7_changes, 3, (some .int), am_rm 0, (0, 0))
abbrev mX7_speedAt : am_M := (yX7_speedAt, cX7_speedAt, 3, (some .int), am_rm 0, (0, 0))
abbrev mX7_speed : am_M := (yX7_speed, cX7_speed, 4, (some .int), am_rm 2, (0, 0))
abbrev mX7_level : am_M := (yX7_level, cX7_level, 2, (some .int), am_rm 1, (0, 0))
abbrev mX7_layGone : am_M := (yX7_layGone, cX7_layGone, 2, none, am_rm 1, (0, 0))
abbrev mX7_gone : am_M := (yX7_gone, cX7_gone, 2, (some .int), am_rm 2, (0, 0))
abbrev mX7_placeOf : am_M := (yX7_placeOf, cX7_placeOf, 3, (some .int), am_rm 0, (0, 0))
abbrev mX7_wasSeen : am_M := (yX7_wasSeen, cX7_wasSeen, 3, (some .boolean), am_rm 0, (0, 0))
abbrev mX7_see : am_M := (yX7_see, cX7_see, 9, (some .int), am_rm 2, (0, 0))
abbrev mX7_drop : am_M := (yX7_drop, cX7_drop, 4, (some .int), am_rm 2, (0, 0))
abbrev mX7_place : am_M := (yX7_place, cX7_place, 3, (some .int), am_rm 2, (0, 0))
abbrev mX7_seenOf : am_M := (yX7_seenOf, cX7_seenOf, 4, (some .int), am_rm 1, (0, 0))
abbrev mX7_reach : am_M := (yX7_reach, cX7_reach, 5, (some .int), am_rm 2, (0, 0))
abbrev mX7_beat : am_M := (yX7_beat, cX7_beat, 4, (some .int), am_rm 2, (0, 0))
abbrev mX7_lanes : am_M := (yX7_lanes, cX7_lanes, 4, (some .int), am_rm 2, (0, 0))
abbrev mX7_canTake : am_M := (yX7_canTake, cX7_canTake, 7, (some .boolean), am_rm 1, (0, 0))
abbrev mX7_can : am_M := (yX7_can, cX7_can, 4, (some .int), am_rm 2, (0, 0))
abbrev mX7_layArms : am_M := (yX7_layArms, cX7_layArms, 6, none, am_rm 2, (0, 0))
abbrev mX7_slot : am_M := (yX7_slot, cX7_slot, 2, (some .int), am_rm 0, (0, 0))
abbrev mX7_find : am_M := (yX7_find, cX7_find, 8, (some .boolean), am_rm 1, (0, 0))
abbrev mX7_turn : am_M := (yX7_turn, cX7_turn, 7, none, am_rm 0, (0, 0))
abbrev mX7_most : am_M := (yX7_most, cX7_most, 4, (some .int), am_rm 2, (0, 0))
abbrev mX7_clear : am_M := (yX7_clear, cX7_clear, 2, none, am_rm 0, (0, 0))
abbrev mX7_layPlan : am_M := (yX7_layPlan, cX7_layPlan, 5, none, am_rm 3, (0, 0))
abbrev mX7_mostWithout : am_M := (yX7_mostWithout, cX7_mostWithout, 2, (some .int), am_rm 3, (0, 0))
abbrev mX7_layTrays : am_M := (yX7_layTrays, cX7_layTrays, 8, none, am_rm 0, (0, 0))
abbrev mX7_tray : am_M := (yX7_tray, cX7_tray, 3, (some .int), am_rm 4, (0, 0))
abbrev mX7_canAt : am_M := (yX7_canAt, cX7_canAt, 7, (some .int), am_rm 3, (0, 0))
abbrev mX7_planned : am_M := (yX7_planned, cX7_planned, 3, (some .int), am_rm 4, (0, 0))
abbrev mX7_thing : am_M := (yX7_thing, cX7_thing, 3, (some .int), am_rm 5, (0, 0))
abbrev mX7_takenBy : am_M := (yX7_takenBy, cX7_takenBy, 4, (some .int), am_rm 4, (0, 0))
abbrev mX7_arm : am_M := (yX7_arm, cX7_arm, 3, (some .int), am_rm 5, (0, 0))
abbrev mX7_takes : am_M := (yX7_takes, cX7_takes, 5, (some .int), am_rm 4, (0, 0))
abbrev mX7_inEach : am_M := (yX7_inEach, cX7_inEach, 4, (some .int), am_rm 4, (0, 0))
abbrev mX7_plan : am_M := (yX7_plan, cX7_plan, 5, (some .int), am_rm 5, (0, 0))
abbrev mX7_set : am_M := (yX7_set, cX7_set, 4, (some .int), am_rm 1, (0, 0))
abbrev mX7_image : am_M := (yX7_image, cX7_image, 3, (some .int), am_rm 1, (0, 0))
abbrev mX7_restore : am_M := (yX7_restore, cX7_restore, 3, (some .int), am_rm 1, (0, 0))
abbrev mX7_seenTwice : am_M := (yX7_seenTwice, cX7_seenTwice, 3, (some .int), am_rm 2, (0, 0))
abbrev mX7_ofKind : am_M := (yX7_ofKind, cX7_ofKind, 4, (some .int), am_rm 0, (0, 0))
abbrev mX7_count : am_M := (yX7_count, cX7_count, 2, (some .int), am_rm 3, (0, 0))
abbrev mJ13_bitCount_95d88 : am_M := (yJ13_bitCount_95d88, cJ13_bitCount_95d88, 2, (some .int), am_rm 0, (0, 0))
abbrev mJ9_floorMod_7cf53 : am_M := (yJ9_floorMod_7cf53, cJ9_floorMod_7cf53, 3, (some .int), am_rm 0, (0, 0))
abbrev mJ9_abs_0f7a4 : am_M := (yJ9_abs_0f7a4, cJ9_abs_0f7a4, 1, (some .int), am_rm 0, (0, 0))
abbrev mJ9_max_7cf53 : am_M := (yJ9_max_7cf53, cJ9_max_7cf53, 2, (some .int), am_rm 0, (0, 0))
abbrev mJ9_min_7cf53 : am_M := (yJ9_min_7cf53, cJ9_min_7cf53, 2, (some .int), am_rm 0, (0, 0))
abbrev mJ7_fill_53178 : am_M := (yJ7_fill_53178, cJ7_fill_53178, 4, none, am_rm 0, (0, 0))
def am_fitb (M y : am_M) : Bool := Nat.beq y.2.2.2.2.1.cells 0 && Nat.beq y.2.2.2.2.1.slots 0 && Nat.beq y.2.2.2.2.2.1 0 && Nat.beq y.2.2.2.2.2.2 0 && Nat.ble (y.2.2.2.2.1.frames + 1) M.2.2.2.2.1.frames && Nat.ble (8 + (y.2.2.1 + 11) + y.2.2.2.2.1.locals) M.2.2.2.2.1.locals && Nat.ble M.2.2.2.2.2.1 M.2.2.2.2.1.cells && Nat.ble M.2.2.2.2.2.2 M.2.2.2.2.1.slots
theorem am_fit_b {M y : am_M} (h : am_fitb M y = true) : am_fit M y := by
  simp only [am_fitb, Bool.and_eq_true] at h
  obtain ⟨⟨⟨⟨⟨⟨⟨h1, h2⟩, h3⟩, h4⟩, h5⟩, h6⟩, h7⟩, h8⟩ := h
  exact ⟨Nat.eq_of_beq_eq_true h1, Nat.eq_of_beq_eq_true h2, Prod.ext (Nat.eq_of_beq_eq_true h3) (Nat.eq_of_beq_eq_true h4), Nat.le_of_ble_eq_true h5, Nat.le_of_ble_eq_true h6, Nat.le_of_ble_eq_true h7, Nat.le_of_ble_eq_true h8⟩
theorem wtX0 : ∀ w ∈ u_ws RX0 TX0 5, w ∈ am_tb := List.forall_mem_cons.mpr ⟨(in_tb 152 (by decide +kernel) rfl), List.forall_mem_cons.mpr ⟨(in_tb 154 (by decide +kernel) rfl), List.forall_mem_cons.mpr ⟨(in_tb 156 (by decide +kernel) rfl), List.forall_mem_cons.mpr ⟨(in_tb 158 (by decide +kernel) rfl), List.forall_mem_cons.mpr ⟨(in_tb 160 (by decide +kernel) rfl), fun _ h => absurd h List.not_mem_nil⟩⟩⟩⟩⟩
theorem wtX1 : ∀ w ∈ u_ws RX1 TX1 5, w ∈ am_tb := List.forall_mem_cons.mpr ⟨(in_tb 82 (by decide +kernel) rfl), List.forall_mem_cons.mpr ⟨(in_tb 84 (by decide +kernel) rfl), List.forall_mem_cons.mpr ⟨(in_tb 86 (by decide +kernel) rfl), List.forall_mem_cons.mpr ⟨(in_tb 88 (by decide +kernel) rfl), List.forall_mem_cons.mpr ⟨(in_tb 90 (by decide +kernel) rfl), fun _ h => absurd h List.not_mem_nil⟩⟩⟩⟩⟩
theorem wtX2 : ∀ w ∈ u_ws RX2 TX2 11, w ∈ am_tb := List.forall_mem_cons.mpr ⟨(in_tb 208 (by decide +kernel) rfl), List.forall_mem_cons.mpr ⟨(in_tb 210 (by decide +kernel) rfl), List.forall_mem_cons.mpr ⟨(in_tb 212 (by decide +kernel) rfl), List.forall_mem_cons.mpr ⟨(in_tb 214 (by decide +kernel) rfl), List.forall_mem_cons.mpr ⟨(in_tb 216 (by decide +kernel) rfl), List.forall_mem_cons.mpr ⟨(in_tb 218 (by decide +kernel) rfl), List.forall_mem_cons.mpr ⟨(in_tb 220 (by decide +kernel) rfl), List.forall_mem_cons.mpr ⟨(in_tb 222 (by decide +kernel) rfl), List.forall_mem_cons.mpr ⟨(in_tb 224 (by decide +kernel) rfl), List.forall_mem_cons.mpr ⟨(in_tb 226 (by decide +kernel) rfl), List.forall_mem_cons.mpr ⟨(in_tb 228 (by decide +kernel) rfl), fun _ h => absurd h List.not_mem_nil⟩⟩⟩⟩⟩⟩⟩⟩⟩⟩⟩
theorem wtX3 : ∀ w ∈ u_ws RX3 TX3 5, w ∈ am_tb := List.forall_mem_cons.mpr ⟨(in_tb 177 (by decide +kernel) rfl), List.forall_mem_cons.mpr ⟨(in_tb 179 (by decide +kernel) rfl), List.forall_mem_cons.mpr ⟨(in_tb 181 (by decide +kernel) rfl), List.forall_mem_cons.mpr ⟨(in_tb 183 (by decide +kernel) rfl), List.forall_mem_cons.mpr ⟨(in_tb 185 (by decide +kernel) rfl), fun _ h => absurd h List.not_mem_nil⟩⟩⟩⟩⟩
theorem wtX4 : ∀ w ∈ u_ws RX4 TX4 6, w ∈ am_tb := List.forall_mem_cons.mpr ⟨(in_tb 118 (by decide +kernel) rfl), List.forall_mem_cons.mpr ⟨(in_tb 120 (by decide +kernel) rfl), List.forall_mem_cons.mpr ⟨(in_tb 122 (by decide +kernel) rfl), List.forall_mem_cons.mpr ⟨(in_tb 124 (by decide +kernel) rfl), List.forall_mem_cons.mpr ⟨(in_tb 126 (by decide +kernel) rfl), List.forall_mem_cons.mpr ⟨(in_tb 128 (by decide +kernel) rfl), fun _ h => absurd h List.not_mem_nil⟩⟩⟩⟩⟩⟩
theorem wtX5 : ∀ w ∈ u_ws RX5 TX5 2, w ∈ am_tb := List.forall_mem_cons.mpr ⟨(in_tb 241 (by decide +kernel) rfl), List.forall_mem_cons.mpr ⟨(in_tb 243 (by decide +kernel) rfl), fun _ h => absurd h List.not_mem_nil⟩⟩
theorem wtX6 : ∀ w ∈ u_ws RX6 TX6 7, w ∈ am_tb := List.forall_mem_cons.mpr ⟨(in_tb 253 (by decide +kernel) rfl), List.forall_mem_cons.mpr ⟨(in_tb 255 (by decide +kernel) rfl), List.forall_mem_cons.mpr ⟨(in_tb 257 (by decide +kernel) rfl), List.forall_mem_cons.mpr ⟨(in_tb 259 (by decide +kernel) rfl), List.forall_mem_cons.mpr ⟨(in_tb 261 (by decide +kernel) rfl), List.forall_mem_cons.mpr ⟨(in_tb 263 (by decide +kernel) rfl), List.forall_mem_cons.mpr ⟨(in_tb 265 (by decide +kernel) rfl), fun _ h => absurd h List.not_mem_nil⟩⟩⟩⟩⟩⟩⟩
theorem wtX7 : ∀ w ∈ u_ws RX7 TX7 16, w ∈ am_tb := List.forall_mem_cons.mpr ⟨(in_tb 639 (by decide +kernel) rfl), List.forall_mem_cons.mpr ⟨(in_tb 641 (by decide +kernel) rfl), List.forall_mem_cons.mpr ⟨(in_tb 643 (by decide +kernel) rfl), List.forall_mem_cons.mpr ⟨(in_tb 645 (by decide +kernel) rfl), List.forall_mem_cons.mpr ⟨(in_tb 647 (by decide +kernel) rfl), List.forall_mem_cons.mpr ⟨(in_tb 649 (by decide +kernel) rfl), List.forall_mem_cons.mpr ⟨(in_tb 651 (by decide +kernel) rfl), List.forall_mem_cons.mpr ⟨(in_tb 653 (by decide +kernel) rfl), List.forall_mem_cons.mpr ⟨(in_tb 655 (by decide +kernel) rfl), List.forall_mem_cons.mpr ⟨(in_tb 657 (by decide +kernel) rfl), List.forall_mem_cons.mpr ⟨(in_tb 659 (by decide +kernel) rfl), List.forall_mem_cons.mpr ⟨(in_tb 661 (by decide +kernel) rfl), List.forall_mem_cons.mpr ⟨(in_tb 663 (by decide +kernel) rfl), List.forall_mem_cons.mpr ⟨(in_tb 665 (by decide +kernel) rfl), List.forall_mem_cons.mpr ⟨(in_tb 667 (by decide +kernel) rfl), List.forall_mem_cons.mpr ⟨(in_tb 669 (by decide +kernel) rfl), fun _ h => absurd h List.not_mem_nil⟩⟩⟩⟩⟩⟩⟩⟩⟩⟩⟩⟩⟩⟩⟩⟩
theorem fX1_9 : am_fl RX1 9 1 0 := ⟨RX1, TX1, 5, rfl, by decide, wtX1, (in_tb 74 (by decide +kernel) rfl), rfl⟩
theorem pX1_9 : am_fp RX1 9 1 0 .int := ⟨RX1, TX1, 5, tyX1, rfl, by decide, wtX1, (in_tb 74 (by decide +kernel) rfl), rfl, tyX1_ok, nmX1, rfl, by decide +kernel⟩
theorem fX1_15 : am_fl RX1 15 1 1 := ⟨RX1, TX1, 5, rfl, by decide, wtX1, (in_tb 75 (by decide +kernel) rfl), rfl⟩
theorem pX1_15 : am_fp RX1 15 1 1 .int := ⟨RX1, TX1, 5, tyX1, rfl, by decide, wtX1, (in_tb 75 (by decide +kernel) rfl), rfl, tyX1_ok, nmX1, rfl, by decide +kernel⟩
theorem fX6_63 : am_fl RX6 63 1 1 := ⟨RX1, TX1, 5, rfl, by decide, wtX1, (in_tb 76 (by decide +kernel) rfl), rfl⟩
theorem pX6_63 : am_fp RX6 63 1 1 .int := ⟨RX1, TX1, 5, tyX1, rfl, by decide, wtX1, (in_tb 76 (by decide +kernel) rfl), rfl, tyX1_ok, nmX1, rfl, by decide +kernel⟩
theorem fX1_18 : am_fl RX1 18 1 2 := ⟨RX1, TX1, 5, rfl, by decide, wtX1, (in_tb 77 (by decide +kernel) rfl), rfl⟩
theorem fX1_22 : am_fl RX1 22 1 3 := ⟨RX1, TX1, 5, rfl, by decide, wtX1, (in_tb 78 (by decide +kernel) rfl), rfl⟩
theorem fX1_25 : am_fl RX1 25 1 4 := ⟨RX1, TX1, 5, rfl, by decide, wtX1, (in_tb 79 (by decide +kernel) rfl), rfl⟩
theorem fX3_53 : am_fl RX3 53 1 4 := ⟨RX1, TX1, 5, rfl, by decide, wtX1, (in_tb 80 (by decide +kernel) rfl), rfl⟩
theorem fX6_77 : am_fl RX6 77 1 4 := ⟨RX1, TX1, 5, rfl, by decide, wtX1, (in_tb 81 (by decide +kernel) rfl), rfl⟩
theorem fX4_11 : am_fl RX4 11 4 0 := ⟨RX4, TX4, 6, rfl, by decide, wtX4, (in_tb 100 (by decide +kernel) rfl), rfl⟩
theorem pX4_11 : am_fp RX4 11 4 0 .int := ⟨RX4, TX4, 6, tyX4, rfl, by decide, wtX4, (in_tb 100 (by decide +kernel) rfl), rfl, tyX4_ok, nmX4, rfl, by decide +kernel⟩
theorem fX2_52 : am_fl RX2 52 4 0 := ⟨RX4, TX4, 6, rfl, by decide, wtX4, (in_tb 101 (by decide +kernel) rfl), rfl⟩
theorem pX2_52 : am_fp RX2 52 4 0 .int := ⟨RX4, TX4, 6, tyX4, rfl, by decide, wtX4, (in_tb 101 (by decide +kernel) rfl), rfl, tyX4_ok, nmX4, rfl, by decide +kernel⟩
theorem fX3_59 : am_fl RX3 59 4 0 := ⟨RX4, TX4, 6, rfl, by decide, wtX4, (in_tb 102 (by decide +kernel) rfl), rfl⟩
theorem pX3_59 : am_fp RX3 59 4 0 .int := ⟨RX4, TX4, 6, tyX4, rfl, by decide, wtX4, (in_tb 102 (by decide +kernel) rfl), rfl, tyX4_ok, nmX4, rfl, by decide +kernel⟩
theorem fX6_94 : am_fl RX6 94 4 0 := ⟨RX4, TX4, 6, rfl, by decide, wtX4, (in_tb 103 (by decide +kernel) rfl), rfl⟩
theorem pX6_94 : am_fp RX6 94 4 0 .int := ⟨RX4, TX4, 6, tyX4, rfl, by decide, wtX4, (in_tb 103 (by decide +kernel) rfl), rfl, tyX4_ok, nmX4, rfl, by decide +kernel⟩
theorem fX4_15 : am_fl RX4 15 4 1 := ⟨RX4, TX4, 6, rfl, by decide, wtX4, (in_tb 104 (by decide +kernel) rfl), rfl⟩
theorem fX3_56 : am_fl RX3 56 4 1 := ⟨RX4, TX4, 6, rfl, by decide, wtX4, (in_tb 105 (by decide +kernel) rfl), rfl⟩
theorem fX6_107 : am_fl RX6 107 4 1 := ⟨RX4, TX4, 6, rfl, by decide, wtX4, (in_tb 106 (by decide +kernel) rfl), rfl⟩
theorem fX4_19 : am_fl RX4 19 4 2 := ⟨RX4, TX4, 6, rfl, by decide, wtX4, (in_tb 107 (by decide +kernel) rfl), rfl⟩
theorem fX3_62 : am_fl RX3 62 4 2 := ⟨RX4, TX4, 6, rfl, by decide, wtX4, (in_tb 108 (by decide +kernel) rfl), rfl⟩
theorem fX6_110 : am_fl RX6 110 4 2 := ⟨RX4, TX4, 6, rfl, by decide, wtX4, (in_tb 109 (by decide +kernel) rfl), rfl⟩
theorem fX4_22 : am_fl RX4 22 4 3 := ⟨RX4, TX4, 6, rfl, by decide, wtX4, (in_tb 110 (by decide +kernel) rfl), rfl⟩
theorem fX3_49 : am_fl RX3 49 4 3 := ⟨RX4, TX4, 6, rfl, by decide, wtX4, (in_tb 111 (by decide +kernel) rfl), rfl⟩
theorem fX6_113 : am_fl RX6 113 4 3 := ⟨RX4, TX4, 6, rfl, by decide, wtX4, (in_tb 112 (by decide +kernel) rfl), rfl⟩
theorem fX4_25 : am_fl RX4 25 4 4 := ⟨RX4, TX4, 6, rfl, by decide, wtX4, (in_tb 113 (by decide +kernel) rfl), rfl⟩
theorem fX5_36 : am_fl RX5 36 4 4 := ⟨RX4, TX4, 6, rfl, by decide, wtX4, (in_tb 114 (by decide +kernel) rfl), rfl⟩
theorem fX3_65 : am_fl RX3 65 4 4 := ⟨RX4, TX4, 6, rfl, by decide, wtX4, (in_tb 115 (by decide +kernel) rfl), rfl⟩
theorem fX6_116 : am_fl RX6 116 4 4 := ⟨RX4, TX4, 6, rfl, by decide, wtX4, (in_tb 116 (by decide +kernel) rfl), rfl⟩
theorem fX4_28 : am_fl RX4 28 4 5 := ⟨RX4, TX4, 6, rfl, by decide, wtX4, (in_tb 117 (by decide +kernel) rfl), rfl⟩
theorem fX0_9 : am_fl RX0 9 0 0 := ⟨RX0, TX0, 5, rfl, by decide, wtX0, (in_tb 138 (by decide +kernel) rfl), rfl⟩
theorem fX2_82 : am_fl RX2 82 0 0 := ⟨RX0, TX0, 5, rfl, by decide, wtX0, (in_tb 139 (by decide +kernel) rfl), rfl⟩
theorem fX3_91 : am_fl RX3 91 0 0 := ⟨RX0, TX0, 5, rfl, by decide, wtX0, (in_tb 140 (by decide +kernel) rfl), rfl⟩
theorem fX6_160 : am_fl RX6 160 0 0 := ⟨RX0, TX0, 5, rfl, by decide, wtX0, (in_tb 141 (by decide +kernel) rfl), rfl⟩
theorem fX0_15 : am_fl RX0 15 0 1 := ⟨RX0, TX0, 5, rfl, by decide, wtX0, (in_tb 142 (by decide +kernel) rfl), rfl⟩
theorem fX3_103 : am_fl RX3 103 0 1 := ⟨RX0, TX0, 5, rfl, by decide, wtX0, (in_tb 143 (by decide +kernel) rfl), rfl⟩
theorem fX6_163 : am_fl RX6 163 0 1 := ⟨RX0, TX0, 5, rfl, by decide, wtX0, (in_tb 144 (by decide +kernel) rfl), rfl⟩
theorem fX0_18 : am_fl RX0 18 0 2 := ⟨RX0, TX0, 5, rfl, by decide, wtX0, (in_tb 145 (by decide +kernel) rfl), rfl⟩
theorem fX3_118 : am_fl RX3 118 0 2 := ⟨RX0, TX0, 5, rfl, by decide, wtX0, (in_tb 146 (by decide +kernel) rfl), rfl⟩
theorem fX6_166 : am_fl RX6 166 0 2 := ⟨RX0, TX0, 5, rfl, by decide, wtX0, (in_tb 147 (by decide +kernel) rfl), rfl⟩
theorem fX0_21 : am_fl RX0 21 0 3 := ⟨RX0, TX0, 5, rfl, by decide, wtX0, (in_tb 148 (by decide +kernel) rfl), rfl⟩
theorem fX6_169 : am_fl RX6 169 0 3 := ⟨RX0, TX0, 5, rfl, by decide, wtX0, (in_tb 149 (by decide +kernel) rfl), rfl⟩
theorem fX0_24 : am_fl RX0 24 0 4 := ⟨RX0, TX0, 5, rfl, by decide, wtX0, (in_tb 150 (by decide +kernel) rfl), rfl⟩
theorem fX6_172 : am_fl RX6 172 0 4 := ⟨RX0, TX0, 5, rfl, by decide, wtX0, (in_tb 151 (by decide +kernel) rfl), rfl⟩
theorem fX3_12 : am_fl RX3 12 3 0 := ⟨RX3, TX3, 5, rfl, by decide, wtX3, (in_tb 163 (by decide +kernel) rfl), rfl⟩
theorem fX6_53 : am_fl RX6 53 3 0 := ⟨RX3, TX3, 5, rfl, by decide, wtX3, (in_tb 164 (by decide +kernel) rfl), rfl⟩
theorem fX3_21 : am_fl RX3 21 3 1 := ⟨RX3, TX3, 5, rfl, by decide, wtX3, (in_tb 165 (by decide +kernel) rfl), rfl⟩
theorem fX2_46 : am_fl RX2 46 3 1 := ⟨RX3, TX3, 5, rfl, by decide, wtX3, (in_tb 166 (by decide +kernel) rfl), rfl⟩
theorem fX5_30 : am_fl RX5 30 3 1 := ⟨RX3, TX3, 5, rfl, by decide, wtX3, (in_tb 167 (by decide +kernel) rfl), rfl⟩
theorem fX6_81 : am_fl RX6 81 3 1 := ⟨RX3, TX3, 5, rfl, by decide, wtX3, (in_tb 168 (by decide +kernel) rfl), rfl⟩
theorem fX3_28 : am_fl RX3 28 3 2 := ⟨RX3, TX3, 5, rfl, by decide, wtX3, (in_tb 169 (by decide +kernel) rfl), rfl⟩
theorem fX2_69 : am_fl RX2 69 3 2 := ⟨RX3, TX3, 5, rfl, by decide, wtX3, (in_tb 170 (by decide +kernel) rfl), rfl⟩
theorem fX6_151 : am_fl RX6 151 3 2 := ⟨RX3, TX3, 5, rfl, by decide, wtX3, (in_tb 171 (by decide +kernel) rfl), rfl⟩
theorem fX3_32 : am_fl RX3 32 3 3 := ⟨RX3, TX3, 5, rfl, by decide, wtX3, (in_tb 172 (by decide +kernel) rfl), rfl⟩
theorem pX3_32 : am_fp RX3 32 3 3 .int := ⟨RX3, TX3, 5, tyX3, rfl, by decide, wtX3, (in_tb 172 (by decide +kernel) rfl), rfl, tyX3_ok, nmX3, rfl, by decide +kernel⟩
theorem fX6_207 : am_fl RX6 207 3 3 := ⟨RX3, TX3, 5, rfl, by decide, wtX3, (in_tb 173 (by decide +kernel) rfl), rfl⟩
theorem pX6_207 : am_fp RX6 207 3 3 .int := ⟨RX3, TX3, 5, tyX3, rfl, by decide, wtX3, (in_tb 173 (by decide +kernel) rfl), rfl, tyX3_ok, nmX3, rfl, by decide +kernel⟩
theorem fX3_36 : am_fl RX3 36 3 4 := ⟨RX3, TX3, 5, rfl, by decide, wtX3, (in_tb 174 (by decide +kernel) rfl), rfl⟩
theorem pX3_36 : am_fp RX3 36 3 4 .int := ⟨RX3, TX3, 5, tyX3, rfl, by decide, wtX3, (in_tb 174 (by decide +kernel) rfl), rfl, tyX3_ok, nmX3, rfl, by decide +kernel⟩
theorem fX5_41 : am_fl RX5 41 3 4 := ⟨RX3, TX3, 5, rfl, by decide, wtX3, (in_tb 175 (by decide +kernel) rfl), rfl⟩
theorem pX5_41 : am_fp RX5 41 3 4 .int := ⟨RX3, TX3, 5, tyX3, rfl, by decide, wtX3, (in_tb 175 (by decide +kernel) rfl), rfl, tyX3_ok, nmX3, rfl, by decide +kernel⟩
theorem fX6_201 : am_fl RX6 201 3 4 := ⟨RX3, TX3, 5, rfl, by decide, wtX3, (in_tb 176 (by decide +kernel) rfl), rfl⟩
theorem pX6_201 : am_fp RX6 201 3 4 .int := ⟨RX3, TX3, 5, tyX3, rfl, by decide, wtX3, (in_tb 176 (by decide +kernel) rfl), rfl, tyX3_ok, nmX3, rfl, by decide +kernel⟩
theorem fX2_9 : am_fl RX2 9 2 0 := ⟨RX2, TX2, 11, rfl, by decide, wtX2, (in_tb 195 (by decide +kernel) rfl), rfl⟩
theorem pX2_9 : am_fp RX2 9 2 0 .int := ⟨RX2, TX2, 11, tyX2, rfl, by decide, wtX2, (in_tb 195 (by decide +kernel) rfl), rfl, tyX2_ok, nmX2, rfl, by decide +kernel⟩
theorem fX2_15 : am_fl RX2 15 2 1 := ⟨RX2, TX2, 11, rfl, by decide, wtX2, (in_tb 196 (by decide +kernel) rfl), rfl⟩
theorem pX2_15 : am_fp RX2 15 2 1 .int := ⟨RX2, TX2, 11, tyX2, rfl, by decide, wtX2, (in_tb 196 (by decide +kernel) rfl), rfl, tyX2_ok, nmX2, rfl, by decide +kernel⟩
theorem fX6_182 : am_fl RX6 182 2 1 := ⟨RX2, TX2, 11, rfl, by decide, wtX2, (in_tb 197 (by decide +kernel) rfl), rfl⟩
theorem pX6_182 : am_fp RX6 182 2 1 .int := ⟨RX2, TX2, 11, tyX2, rfl, by decide, wtX2, (in_tb 197 (by decide +kernel) rfl), rfl, tyX2_ok, nmX2, rfl, by decide +kernel⟩
theorem fX2_18 : am_fl RX2 18 2 2 := ⟨RX2, TX2, 11, rfl, by decide, wtX2, (in_tb 198 (by decide +kernel) rfl), rfl⟩
theorem fX2_22 : am_fl RX2 22 2 3 := ⟨RX2, TX2, 11, rfl, by decide, wtX2, (in_tb 199 (by decide +kernel) rfl), rfl⟩
theorem fX2_25 : am_fl RX2 25 2 4 := ⟨RX2, TX2, 11, rfl, by decide, wtX2, (in_tb 200 (by decide +kernel) rfl), rfl⟩
theorem fX5_49 : am_fn RX5 49 2 4 := ⟨RX2, TX2, 11, "BeltArms", rfl, by decide, wtX2, fun U h => h.1, rfl⟩
theorem fX2_28 : am_fl RX2 28 2 5 := ⟨RX2, TX2, 11, rfl, by decide, wtX2, (in_tb 202 (by decide +kernel) rfl), rfl⟩
theorem fX2_31 : am_fl RX2 31 2 6 := ⟨RX2, TX2, 11, rfl, by decide, wtX2, (in_tb 203 (by decide +kernel) rfl), rfl⟩
theorem fX2_34 : am_fl RX2 34 2 7 := ⟨RX2, TX2, 11, rfl, by decide, wtX2, (in_tb 204 (by decide +kernel) rfl), rfl⟩
theorem fX2_37 : am_fl RX2 37 2 8 := ⟨RX2, TX2, 11, rfl, by decide, wtX2, (in_tb 205 (by decide +kernel) rfl), rfl⟩
theorem pX2_37 : am_fp RX2 37 2 8 .int := ⟨RX2, TX2, 11, tyX2, rfl, by decide, wtX2, (in_tb 205 (by decide +kernel) rfl), rfl, tyX2_ok, nmX2, rfl, by decide +kernel⟩
theorem fX2_40 : am_fl RX2 40 2 9 := ⟨RX2, TX2, 11, rfl, by decide, wtX2, (in_tb 206 (by decide +kernel) rfl), rfl⟩
theorem pX2_40 : am_fp RX2 40 2 9 .int := ⟨RX2, TX2, 11, tyX2, rfl, by decide, wtX2, (in_tb 206 (by decide +kernel) rfl), rfl, tyX2_ok, nmX2, rfl, by decide +kernel⟩
theorem fX2_43 : am_fl RX2 43 2 10 := ⟨RX2, TX2, 11, rfl, by decide, wtX2, (in_tb 207 (by decide +kernel) rfl), rfl⟩
theorem pX2_43 : am_fp RX2 43 2 10 .int := ⟨RX2, TX2, 11, tyX2, rfl, by decide, wtX2, (in_tb 207 (by decide +kernel) rfl), rfl, tyX2_ok, nmX2, rfl, by decide +kernel⟩
theorem fX5_9 : am_fl RX5 9 5 0 := ⟨RX5, TX5, 2, rfl, by decide, wtX5, (in_tb 237 (by decide +kernel) rfl), rfl⟩
theorem fX6_132 : am_fl RX6 132 5 0 := ⟨RX5, TX5, 2, rfl, by decide, wtX5, (in_tb 238 (by decide +kernel) rfl), rfl⟩
theorem fX5_15 : am_fl RX5 15 5 1 := ⟨RX5, TX5, 2, rfl, by decide, wtX5, (in_tb 239 (by decide +kernel) rfl), rfl⟩
theorem fX6_204 : am_fl RX6 204 5 1 := ⟨RX5, TX5, 2, rfl, by decide, wtX5, (in_tb 240 (by decide +kernel) rfl), rfl⟩
theorem fX6_12 : am_fl RX6 12 6 0 := ⟨RX6, TX6, 7, rfl, by decide, wtX6, (in_tb 246 (by decide +kernel) rfl), rfl⟩
theorem fX6_16 : am_fl RX6 16 6 1 := ⟨RX6, TX6, 7, rfl, by decide, wtX6, (in_tb 247 (by decide +kernel) rfl), rfl⟩
theorem fX6_20 : am_fl RX6 20 6 2 := ⟨RX6, TX6, 7, rfl, by decide, wtX6, (in_tb 248 (by decide +kernel) rfl), rfl⟩
theorem pX6_20 : am_fp RX6 20 6 2 .int := ⟨RX6, TX6, 7, tyX6, rfl, by decide, wtX6, (in_tb 248 (by decide +kernel) rfl), rfl, tyX6_ok, nmX6, rfl, by decide +kernel⟩
theorem fX6_27 : am_fl RX6 27 6 3 := ⟨RX6, TX6, 7, rfl, by decide, wtX6, (in_tb 249 (by decide +kernel) rfl), rfl⟩
theorem fX6_31 : am_fl RX6 31 6 4 := ⟨RX6, TX6, 7, rfl, by decide, wtX6, (in_tb 250 (by decide +kernel) rfl), rfl⟩
theorem fX6_37 : am_fl RX6 37 6 5 := ⟨RX6, TX6, 7, rfl, by decide, wtX6, (in_tb 251 (by decide +kernel) rfl), rfl⟩
theorem fX6_41 : am_fl RX6 41 6 6 := ⟨RX6, TX6, 7, rfl, by decide, wtX6, (in_tb 252 (by decide +kernel) rfl), rfl⟩
theorem pX6_41 : am_fp RX6 41 6 6 .boolean := ⟨RX6, TX6, 7, tyX6, rfl, by decide, wtX6, (in_tb 252 (by decide +kernel) rfl), rfl, tyX6_ok, nmX6, rfl, by decide +kernel⟩
theorem fX7_7 : am_fl RX7 7 7 0 := ⟨RX7, TX7, 16, rfl, by decide, wtX7, (in_tb 623 (by decide +kernel) rfl), rfl⟩
theorem fX7_13 : am_fl RX7 13 7 1 := ⟨RX7, TX7, 16, rfl, by decide, wtX7, (in_tb 624 (by decide +kernel) rfl), rfl⟩
theorem fX7_16 : am_fl RX7 16 7 2 := ⟨RX7, TX7, 16, rfl, by decide, wtX7, (in_tb 625 (by decide +kernel) rfl), rfl⟩
theorem fX7_20 : am_fl RX7 20 7 3 := ⟨RX7, TX7, 16, rfl, by decide, wtX7, (in_tb 626 (by decide +kernel) rfl), rfl⟩
theorem fX7_23 : am_fl RX7 23 7 4 := ⟨RX7, TX7, 16, rfl, by decide, wtX7, (in_tb 627 (by decide +kernel) rfl), rfl⟩
theorem fX7_26 : am_fl RX7 26 7 5 := ⟨RX7, TX7, 16, rfl, by decide, wtX7, (in_tb 628 (by decide +kernel) rfl), rfl⟩
theorem fX7_29 : am_fl RX7 29 7 6 := ⟨RX7, TX7, 16, rfl, by decide, wtX7, (in_tb 629 (by decide +kernel) rfl), rfl⟩
theorem fX7_32 : am_fl RX7 32 7 7 := ⟨RX7, TX7, 16, rfl, by decide, wtX7, (in_tb 630 (by decide +kernel) rfl), rfl⟩
theorem fX7_35 : am_fl RX7 35 7 8 := ⟨RX7, TX7, 16, rfl, by decide, wtX7, (in_tb 631 (by decide +kernel) rfl), rfl⟩
theorem fX7_38 : am_fl RX7 38 7 9 := ⟨RX7, TX7, 16, rfl, by decide, wtX7, (in_tb 632 (by decide +kernel) rfl), rfl⟩
theorem fX7_41 : am_fl RX7 41 7 10 := ⟨RX7, TX7, 16, rfl, by decide, wtX7, (in_tb 633 (by decide +kernel) rfl), rfl⟩
theorem fX7_44 : am_fl RX7 44 7 11 := ⟨RX7, TX7, 16, rfl, by decide, wtX7, (in_tb 634 (by decide +kernel) rfl), rfl⟩
theorem fX7_47 : am_fl RX7 47 7 12 := ⟨RX7, TX7, 16, rfl, by decide, wtX7, (in_tb 635 (by decide +kernel) rfl), rfl⟩
theorem fX7_115 : am_fl RX7 115 7 13 := ⟨RX7, TX7, 16, rfl, by decide, wtX7, (in_tb 636 (by decide +kernel) rfl), rfl⟩
theorem pX7_115 : am_fp RX7 115 7 13 .int := ⟨RX7, TX7, 16, tyX7, rfl, by decide, wtX7, (in_tb 636 (by decide +kernel) rfl), rfl, tyX7_ok, nmX7, rfl, by decide +kernel⟩
theorem fX7_50 : am_fl RX7 50 7 14 := ⟨RX7, TX7, 16, rfl, by decide, wtX7, (in_tb 637 (by decide +kernel) rfl), rfl⟩
theorem fX7_53 : am_fl RX7 53 7 15 := ⟨RX7, TX7, 16, rfl, by decide, wtX7, (in_tb 638 (by decide +kernel) rfl), rfl⟩
theorem kX1_28 : am_lv' RX1 28 mX1_addUp 0 := ⟨⟨(in_tb 70 (by decide +kernel) rfl), (in_tb 73 (by decide +kernel) rfl), (in_tb 40 (by decide +kernel) rfl), by decide +kernel, by decide +kernel⟩, (in_tb 72 (by decide +kernel) rfl), (in_tb 0 (by decide +kernel) rfl)⟩
theorem kL_13 : am_lv' RL 13 mX6_speed 2 := ⟨⟨(in_tb 268 (by decide +kernel) rfl), (in_tb 271 (by decide +kernel) rfl), (in_tb 38 (by decide +kernel) rfl), by decide +kernel, by decide +kernel⟩, (in_tb 269 (by decide +kernel) rfl), (in_tb 270 (by decide +kernel) rfl)⟩
theorem kX6_45 : am_ls RX6 45 mX6_isTick 1 := ⟨⟨(in_tb 272 (by decide +kernel) rfl), (in_tb 274 (by decide +kernel) rfl), (in_tb 38 (by decide +kernel) rfl), by decide +kernel, by decide +kernel⟩, (in_tb 273 (by decide +kernel) rfl)⟩
theorem kX6_49 : am_ls RX6 49 mX6_isWithin 3 := ⟨⟨(in_tb 275 (by decide +kernel) rfl), (in_tb 277 (by decide +kernel) rfl), (in_tb 38 (by decide +kernel) rfl), by decide +kernel, by decide +kernel⟩, (in_tb 276 (by decide +kernel) rfl)⟩
theorem kX6_57 : am_lv' RX6 57 mX1_changeAt 1 := ⟨⟨(in_tb 278 (by decide +kernel) rfl), (in_tb 281 (by decide +kernel) rfl), (in_tb 40 (by decide +kernel) rfl), by decide +kernel, by decide +kernel⟩, (in_tb 279 (by decide +kernel) rfl), (in_tb 280 (by decide +kernel) rfl)⟩
theorem kX1_37 : am_lv' RX1 37 mX1_begunBy 1 := ⟨⟨(in_tb 282 (by decide +kernel) rfl), (in_tb 285 (by decide +kernel) rfl), (in_tb 40 (by decide +kernel) rfl), by decide +kernel, by decide +kernel⟩, (in_tb 284 (by decide +kernel) rfl), (in_tb 1 (by decide +kernel) rfl)⟩
theorem kX6_66 : am_lv' RX6 66 mX1_speedAt 1 := ⟨⟨(in_tb 286 (by decide +kernel) rfl), (in_tb 289 (by decide +kernel) rfl), (in_tb 40 (by decide +kernel) rfl), by decide +kernel, by decide +kernel⟩, (in_tb 287 (by decide +kernel) rfl), (in_tb 288 (by decide +kernel) rfl)⟩
theorem kX6_69 : am_lv' RX6 69 mX1_tell 2 := ⟨⟨(in_tb 290 (by decide +kernel) rfl), (in_tb 293 (by decide +kernel) rfl), (in_tb 40 (by decide +kernel) rfl), by decide +kernel, by decide +kernel⟩, (in_tb 291 (by decide +kernel) rfl), (in_tb 292 (by decide +kernel) rfl)⟩
theorem kX1_41 : am_lv' RX1 41 mX1_changeAt 1 := ⟨⟨(in_tb 294 (by decide +kernel) rfl), (in_tb 281 (by decide +kernel) rfl), (in_tb 40 (by decide +kernel) rfl), by decide +kernel, by decide +kernel⟩, (in_tb 279 (by decide +kernel) rfl), (in_tb 280 (by decide +kernel) rfl)⟩
theorem kX1_44 : am_lv' RX1 44 mX1_insert 3 := ⟨⟨(in_tb 295 (by decide +kernel) rfl), (in_tb 298 (by decide +kernel) rfl), (in_tb 40 (by decide +kernel) rfl), by decide +kernel, by decide +kernel⟩, (in_tb 297 (by decide +kernel) rfl), (in_tb 2 (by decide +kernel) rfl)⟩
theorem kL_18 : am_lv' RL 18 mX6_level 1 := ⟨⟨(in_tb 299 (by decide +kernel) rfl), (in_tb 302 (by decide +kernel) rfl), (in_tb 38 (by decide +kernel) rfl), by decide +kernel, by decide +kernel⟩, (in_tb 300 (by decide +kernel) rfl), (in_tb 301 (by decide +kernel) rfl)⟩
theorem kX6_73 : am_lv' RX6 73 mX1_forget 1 := ⟨⟨(in_tb 303 (by decide +kernel) rfl), (in_tb 306 (by decide +kernel) rfl), (in_tb 40 (by decide +kernel) rfl), by decide +kernel, by decide +kernel⟩, (in_tb 304 (by decide +kernel) rfl), (in_tb 305 (by decide +kernel) rfl)⟩
theorem kL_23 : am_lv' RL 23 mX6_gone 1 := ⟨⟨(in_tb 307 (by decide +kernel) rfl), (in_tb 310 (by decide +kernel) rfl), (in_tb 38 (by decide +kernel) rfl), by decide +kernel, by decide +kernel⟩, (in_tb 308 (by decide +kernel) rfl), (in_tb 309 (by decide +kernel) rfl)⟩
theorem kL_27 : am_lv' RL 27 mX6_see 4 := ⟨⟨(in_tb 311 (by decide +kernel) rfl), (in_tb 314 (by decide +kernel) rfl), (in_tb 38 (by decide +kernel) rfl), by decide +kernel, by decide +kernel⟩, (in_tb 312 (by decide +kernel) rfl), (in_tb 313 (by decide +kernel) rfl)⟩
theorem kX6_85 : am_lv' RX6 85 mX3_nearest 4 := ⟨⟨(in_tb 315 (by decide +kernel) rfl), (in_tb 318 (by decide +kernel) rfl), (in_tb 39 (by decide +kernel) rfl), by decide +kernel, by decide +kernel⟩, (in_tb 316 (by decide +kernel) rfl), (in_tb 317 (by decide +kernel) rfl)⟩
theorem kX3_68 : am_lv' RX3 68 mX4_wasSeen 2 := ⟨⟨(in_tb 319 (by decide +kernel) rfl), (in_tb 322 (by decide +kernel) rfl), (in_tb 41 (by decide +kernel) rfl), by decide +kernel, by decide +kernel⟩, (in_tb 320 (by decide +kernel) rfl), (in_tb 321 (by decide +kernel) rfl)⟩
theorem kX3_72 : am_lv' RX3 72 mX3_placeAt 2 := ⟨⟨(in_tb 323 (by decide +kernel) rfl), (in_tb 326 (by decide +kernel) rfl), (in_tb 39 (by decide +kernel) rfl), by decide +kernel, by decide +kernel⟩, (in_tb 324 (by decide +kernel) rfl), (in_tb 325 (by decide +kernel) rfl)⟩
theorem kX3_76 : am_ls RX3 76 mJ9_abs_0f7a4 1 := ⟨⟨(in_tb 327 (by decide +kernel) rfl), (in_tb 329 (by decide +kernel) rfl), (in_tb 46 (by decide +kernel) rfl), by decide +kernel, by decide +kernel⟩, (in_tb 328 (by decide +kernel) rfl)⟩
theorem kX6_89 : am_lv' RX6 89 mX4_markSeen 2 := ⟨⟨(in_tb 330 (by decide +kernel) rfl), (in_tb 333 (by decide +kernel) rfl), (in_tb 41 (by decide +kernel) rfl), by decide +kernel, by decide +kernel⟩, (in_tb 331 (by decide +kernel) rfl), (in_tb 332 (by decide +kernel) rfl)⟩
theorem kX6_97 : am_lv' RX6 97 mX4_append 4 := ⟨⟨(in_tb 334 (by decide +kernel) rfl), (in_tb 337 (by decide +kernel) rfl), (in_tb 41 (by decide +kernel) rfl), by decide +kernel, by decide +kernel⟩, (in_tb 335 (by decide +kernel) rfl), (in_tb 336 (by decide +kernel) rfl)⟩
theorem kX4_38 : am_lv' RX4 38 mX4_markSeen 2 := ⟨⟨(in_tb 338 (by decide +kernel) rfl), (in_tb 333 (by decide +kernel) rfl), (in_tb 41 (by decide +kernel) rfl), by decide +kernel, by decide +kernel⟩, (in_tb 331 (by decide +kernel) rfl), (in_tb 332 (by decide +kernel) rfl)⟩
theorem kL_32 : am_lv' RL 32 mX6_drop 1 := ⟨⟨(in_tb 339 (by decide +kernel) rfl), (in_tb 342 (by decide +kernel) rfl), (in_tb 38 (by decide +kernel) rfl), by decide +kernel, by decide +kernel⟩, (in_tb 340 (by decide +kernel) rfl), (in_tb 341 (by decide +kernel) rfl)⟩
theorem kX6_101 : am_lv' RX6 101 mX6_isThing 1 := ⟨⟨(in_tb 343 (by decide +kernel) rfl), (in_tb 346 (by decide +kernel) rfl), (in_tb 38 (by decide +kernel) rfl), by decide +kernel, by decide +kernel⟩, (in_tb 345 (by decide +kernel) rfl), (in_tb 3 (by decide +kernel) rfl)⟩
theorem kX6_104 : am_lv' RX6 104 mX4_remove 1 := ⟨⟨(in_tb 347 (by decide +kernel) rfl), (in_tb 350 (by decide +kernel) rfl), (in_tb 41 (by decide +kernel) rfl), by decide +kernel, by decide +kernel⟩, (in_tb 348 (by decide +kernel) rfl), (in_tb 349 (by decide +kernel) rfl)⟩
theorem kX4_32 : Cond.methodLink RX4 32 arraycopyName ∈ am_tb ∧ Cond.native arraycopyName ∈ am_tb ∧ Cond.static arraycopyName ∈ am_tb ∧ Cond.initialized "java/lang/System" ∈ am_tb := ⟨(in_tb 351 (by decide +kernel) rfl), (in_tb 353 (by decide +kernel) rfl), (in_tb 352 (by decide +kernel) rfl), (in_tb 47 (by decide +kernel) rfl)⟩
theorem kL_36 : am_lv' RL 36 mX6_thing 2 := ⟨⟨(in_tb 354 (by decide +kernel) rfl), (in_tb 357 (by decide +kernel) rfl), (in_tb 38 (by decide +kernel) rfl), by decide +kernel, by decide +kernel⟩, (in_tb 355 (by decide +kernel) rfl), (in_tb 356 (by decide +kernel) rfl)⟩
theorem kX6_119 : am_lv' RX6 119 mX4_timesSeen 1 := ⟨⟨(in_tb 358 (by decide +kernel) rfl), (in_tb 361 (by decide +kernel) rfl), (in_tb 41 (by decide +kernel) rfl), by decide +kernel, by decide +kernel⟩, (in_tb 359 (by decide +kernel) rfl), (in_tb 360 (by decide +kernel) rfl)⟩
theorem kX4_42 : am_ls RX4 42 mJ13_bitCount_95d88 1 := ⟨⟨(in_tb 362 (by decide +kernel) rfl), (in_tb 364 (by decide +kernel) rfl), (in_tb 48 (by decide +kernel) rfl), by decide +kernel, by decide +kernel⟩, (in_tb 363 (by decide +kernel) rfl)⟩
theorem kX6_122 : am_lv' RX6 122 mX6_freshPlan 0 := ⟨⟨(in_tb 368 (by decide +kernel) rfl), (in_tb 371 (by decide +kernel) rfl), (in_tb 38 (by decide +kernel) rfl), by decide +kernel, by decide +kernel⟩, (in_tb 370 (by decide +kernel) rfl), (in_tb 4 (by decide +kernel) rfl)⟩
theorem kX6_178 : am_lv' RX6 178 mX2_takeMost 2 := ⟨⟨(in_tb 372 (by decide +kernel) rfl), (in_tb 375 (by decide +kernel) rfl), (in_tb 43 (by decide +kernel) rfl), by decide +kernel, by decide +kernel⟩, (in_tb 373 (by decide +kernel) rfl), (in_tb 374 (by decide +kernel) rfl)⟩
theorem kX2_55 : am_ls RX2 55 mJ7_fill_53178 2 := ⟨⟨(in_tb 376 (by decide +kernel) rfl), (in_tb 378 (by decide +kernel) rfl), (in_tb 49 (by decide +kernel) rfl), by decide +kernel, by decide +kernel⟩, (in_tb 377 (by decide +kernel) rfl)⟩
theorem kX2_61 : am_lv' RX2 61 mX2_listSlots 3 := ⟨⟨(in_tb 379 (by decide +kernel) rfl), (in_tb 382 (by decide +kernel) rfl), (in_tb 43 (by decide +kernel) rfl), by decide +kernel, by decide +kernel⟩, (in_tb 381 (by decide +kernel) rfl), (in_tb 5 (by decide +kernel) rfl)⟩
theorem kX2_73 : am_lv' RX2 73 mX0_nextAlong 1 := ⟨⟨(in_tb 383 (by decide +kernel) rfl), (in_tb 386 (by decide +kernel) rfl), (in_tb 42 (by decide +kernel) rfl), by decide +kernel, by decide +kernel⟩, (in_tb 384 (by decide +kernel) rfl), (in_tb 385 (by decide +kernel) rfl)⟩
theorem kX2_79 : am_lv' RX2 79 mX2_listSlotsOf 3 := ⟨⟨(in_tb 387 (by decide +kernel) rfl), (in_tb 390 (by decide +kernel) rfl), (in_tb 43 (by decide +kernel) rfl), by decide +kernel, by decide +kernel⟩, (in_tb 389 (by decide +kernel) rfl), (in_tb 6 (by decide +kernel) rfl)⟩
theorem kX2_85 : am_lv' RX2 85 mX3_lastChanceOf 2 := ⟨⟨(in_tb 391 (by decide +kernel) rfl), (in_tb 394 (by decide +kernel) rfl), (in_tb 39 (by decide +kernel) rfl), by decide +kernel, by decide +kernel⟩, (in_tb 392 (by decide +kernel) rfl), (in_tb 393 (by decide +kernel) rfl)⟩
theorem kX3_85 : am_lv' RX3 85 mX0_hasLane 2 := ⟨⟨(in_tb 395 (by decide +kernel) rfl), (in_tb 398 (by decide +kernel) rfl), (in_tb 42 (by decide +kernel) rfl), by decide +kernel, by decide +kernel⟩, (in_tb 396 (by decide +kernel) rfl), (in_tb 397 (by decide +kernel) rfl)⟩
theorem kX3_94 : am_lv' RX3 94 mX1_firstTickGone 1 := ⟨⟨(in_tb 399 (by decide +kernel) rfl), (in_tb 402 (by decide +kernel) rfl), (in_tb 40 (by decide +kernel) rfl), by decide +kernel, by decide +kernel⟩, (in_tb 400 (by decide +kernel) rfl), (in_tb 401 (by decide +kernel) rfl)⟩
theorem kX3_106 : am_lv' RX3 106 mX0_beatTill 2 := ⟨⟨(in_tb 403 (by decide +kernel) rfl), (in_tb 406 (by decide +kernel) rfl), (in_tb 42 (by decide +kernel) rfl), by decide +kernel, by decide +kernel⟩, (in_tb 404 (by decide +kernel) rfl), (in_tb 405 (by decide +kernel) rfl)⟩
theorem kX0_41 : am_ls RX0 41 mJ9_max_7cf53 2 := ⟨⟨(in_tb 407 (by decide +kernel) rfl), (in_tb 409 (by decide +kernel) rfl), (in_tb 46 (by decide +kernel) rfl), by decide +kernel, by decide +kernel⟩, (in_tb 408 (by decide +kernel) rfl)⟩
theorem kX0_46 : am_ls RX0 46 mJ9_floorMod_7cf53 2 := ⟨⟨(in_tb 410 (by decide +kernel) rfl), (in_tb 412 (by decide +kernel) rfl), (in_tb 46 (by decide +kernel) rfl), by decide +kernel, by decide +kernel⟩, (in_tb 411 (by decide +kernel) rfl)⟩
theorem kX2_89 : am_lv' RX2 89 mX3_firstChanceOf 2 := ⟨⟨(in_tb 413 (by decide +kernel) rfl), (in_tb 416 (by decide +kernel) rfl), (in_tb 39 (by decide +kernel) rfl), by decide +kernel, by decide +kernel⟩, (in_tb 414 (by decide +kernel) rfl), (in_tb 415 (by decide +kernel) rfl)⟩
theorem kX3_97 : am_ls RX3 97 mJ9_max_7cf53 2 := ⟨⟨(in_tb 417 (by decide +kernel) rfl), (in_tb 409 (by decide +kernel) rfl), (in_tb 46 (by decide +kernel) rfl), by decide +kernel, by decide +kernel⟩, (in_tb 408 (by decide +kernel) rfl)⟩
theorem kX3_100 : am_lv' RX3 100 mX0_beatFrom 2 := ⟨⟨(in_tb 418 (by decide +kernel) rfl), (in_tb 421 (by decide +kernel) rfl), (in_tb 42 (by decide +kernel) rfl), by decide +kernel, by decide +kernel⟩, (in_tb 419 (by decide +kernel) rfl), (in_tb 420 (by decide +kernel) rfl)⟩
theorem kX2_92 : am_lv' RX2 92 mX0_beatFrom 2 := ⟨⟨(in_tb 422 (by decide +kernel) rfl), (in_tb 421 (by decide +kernel) rfl), (in_tb 42 (by decide +kernel) rfl), by decide +kernel, by decide +kernel⟩, (in_tb 419 (by decide +kernel) rfl), (in_tb 420 (by decide +kernel) rfl)⟩
theorem kX2_65 : am_lv' RX2 65 mX2_takeOneMore 1 := ⟨⟨(in_tb 423 (by decide +kernel) rfl), (in_tb 426 (by decide +kernel) rfl), (in_tb 43 (by decide +kernel) rfl), by decide +kernel, by decide +kernel⟩, (in_tb 425 (by decide +kernel) rfl), (in_tb 7 (by decide +kernel) rfl)⟩
theorem kX2_107 : am_lv' RX2 107 mX2_enqueue 2 := ⟨⟨(in_tb 427 (by decide +kernel) rfl), (in_tb 430 (by decide +kernel) rfl), (in_tb 43 (by decide +kernel) rfl), by decide +kernel, by decide +kernel⟩, (in_tb 429 (by decide +kernel) rfl), (in_tb 8 (by decide +kernel) rfl)⟩
theorem kX2_110 : am_lv' RX2 110 mX2_freeSlot 2 := ⟨⟨(in_tb 431 (by decide +kernel) rfl), (in_tb 434 (by decide +kernel) rfl), (in_tb 43 (by decide +kernel) rfl), by decide +kernel, by decide +kernel⟩, (in_tb 433 (by decide +kernel) rfl), (in_tb 9 (by decide +kernel) rfl)⟩
theorem kX2_113 : am_lv' RX2 113 mX2_moveUp 2 := ⟨⟨(in_tb 435 (by decide +kernel) rfl), (in_tb 438 (by decide +kernel) rfl), (in_tb 43 (by decide +kernel) rfl), by decide +kernel, by decide +kernel⟩, (in_tb 437 (by decide +kernel) rfl), (in_tb 10 (by decide +kernel) rfl)⟩
theorem kX2_103 : am_lv' RX2 103 mX2_hold 2 := ⟨⟨(in_tb 439 (by decide +kernel) rfl), (in_tb 442 (by decide +kernel) rfl), (in_tb 43 (by decide +kernel) rfl), by decide +kernel, by decide +kernel⟩, (in_tb 441 (by decide +kernel) rfl), (in_tb 11 (by decide +kernel) rfl)⟩
theorem kX6_220 : am_lv' RX6 220 mX2_settle 0 := ⟨⟨(in_tb 443 (by decide +kernel) rfl), (in_tb 446 (by decide +kernel) rfl), (in_tb 43 (by decide +kernel) rfl), by decide +kernel, by decide +kernel⟩, (in_tb 444 (by decide +kernel) rfl), (in_tb 445 (by decide +kernel) rfl)⟩
theorem kX2_95 : am_lv' RX2 95 mX2_settleAt 2 := ⟨⟨(in_tb 447 (by decide +kernel) rfl), (in_tb 450 (by decide +kernel) rfl), (in_tb 43 (by decide +kernel) rfl), by decide +kernel, by decide +kernel⟩, (in_tb 449 (by decide +kernel) rfl), (in_tb 12 (by decide +kernel) rfl)⟩
theorem kX2_99 : am_lv' RX2 99 mX2_leave 1 := ⟨⟨(in_tb 451 (by decide +kernel) rfl), (in_tb 454 (by decide +kernel) rfl), (in_tb 43 (by decide +kernel) rfl), by decide +kernel, by decide +kernel⟩, (in_tb 453 (by decide +kernel) rfl), (in_tb 13 (by decide +kernel) rfl)⟩
theorem kX6_223 : am_lv' RX6 223 mX5_lay 2 := ⟨⟨(in_tb 455 (by decide +kernel) rfl), (in_tb 458 (by decide +kernel) rfl), (in_tb 44 (by decide +kernel) rfl), by decide +kernel, by decide +kernel⟩, (in_tb 456 (by decide +kernel) rfl), (in_tb 457 (by decide +kernel) rfl)⟩
theorem kX5_18 : am_ls RX5 18 mJ7_fill_53178 2 := ⟨⟨(in_tb 459 (by decide +kernel) rfl), (in_tb 378 (by decide +kernel) rfl), (in_tb 49 (by decide +kernel) rfl), by decide +kernel, by decide +kernel⟩, (in_tb 377 (by decide +kernel) rfl)⟩
theorem kX5_24 : am_lv' RX5 24 mX2_nextTaken 1 := ⟨⟨(in_tb 460 (by decide +kernel) rfl), (in_tb 463 (by decide +kernel) rfl), (in_tb 43 (by decide +kernel) rfl), by decide +kernel, by decide +kernel⟩, (in_tb 461 (by decide +kernel) rfl), (in_tb 462 (by decide +kernel) rfl)⟩
theorem kX5_45 : am_lv' RX5 45 mX5_emptiest 2 := ⟨⟨(in_tb 464 (by decide +kernel) rfl), (in_tb 467 (by decide +kernel) rfl), (in_tb 44 (by decide +kernel) rfl), by decide +kernel, by decide +kernel⟩, (in_tb 466 (by decide +kernel) rfl), (in_tb 14 (by decide +kernel) rfl)⟩
theorem kX6_126 : am_lv' RX6 126 mX2_tickOf 1 := ⟨⟨(in_tb 468 (by decide +kernel) rfl), (in_tb 471 (by decide +kernel) rfl), (in_tb 43 (by decide +kernel) rfl), by decide +kernel, by decide +kernel⟩, (in_tb 469 (by decide +kernel) rfl), (in_tb 470 (by decide +kernel) rfl)⟩
theorem kX6_129 : am_lv' RX6 129 mX2_armOf 1 := ⟨⟨(in_tb 472 (by decide +kernel) rfl), (in_tb 475 (by decide +kernel) rfl), (in_tb 43 (by decide +kernel) rfl), by decide +kernel, by decide +kernel⟩, (in_tb 473 (by decide +kernel) rfl), (in_tb 474 (by decide +kernel) rfl)⟩
theorem kX6_135 : am_lv' RX6 135 mX3_firstChance 1 := ⟨⟨(in_tb 476 (by decide +kernel) rfl), (in_tb 479 (by decide +kernel) rfl), (in_tb 39 (by decide +kernel) rfl), by decide +kernel, by decide +kernel⟩, (in_tb 477 (by decide +kernel) rfl), (in_tb 478 (by decide +kernel) rfl)⟩
theorem kX3_109 : am_lv' RX3 109 mX3_firstChanceOf 2 := ⟨⟨(in_tb 480 (by decide +kernel) rfl), (in_tb 416 (by decide +kernel) rfl), (in_tb 39 (by decide +kernel) rfl), by decide +kernel, by decide +kernel⟩, (in_tb 414 (by decide +kernel) rfl), (in_tb 415 (by decide +kernel) rfl)⟩
theorem kX3_112 : am_lv' RX3 112 mX3_lastChanceOf 2 := ⟨⟨(in_tb 481 (by decide +kernel) rfl), (in_tb 394 (by decide +kernel) rfl), (in_tb 39 (by decide +kernel) rfl), by decide +kernel, by decide +kernel⟩, (in_tb 392 (by decide +kernel) rfl), (in_tb 393 (by decide +kernel) rfl)⟩
theorem kX3_115 : am_ls RX3 115 mJ9_min_7cf53 2 := ⟨⟨(in_tb 482 (by decide +kernel) rfl), (in_tb 484 (by decide +kernel) rfl), (in_tb 46 (by decide +kernel) rfl), by decide +kernel, by decide +kernel⟩, (in_tb 483 (by decide +kernel) rfl)⟩
theorem kX6_138 : am_lv' RX6 138 mX3_lastChance 1 := ⟨⟨(in_tb 485 (by decide +kernel) rfl), (in_tb 488 (by decide +kernel) rfl), (in_tb 39 (by decide +kernel) rfl), by decide +kernel, by decide +kernel⟩, (in_tb 486 (by decide +kernel) rfl), (in_tb 487 (by decide +kernel) rfl)⟩
theorem kX6_141 : am_lv' RX6 141 mX3_chances 1 := ⟨⟨(in_tb 489 (by decide +kernel) rfl), (in_tb 492 (by decide +kernel) rfl), (in_tb 39 (by decide +kernel) rfl), by decide +kernel, by decide +kernel⟩, (in_tb 490 (by decide +kernel) rfl), (in_tb 491 (by decide +kernel) rfl)⟩
theorem kL_40 : am_lv' RL 40 mX6_place 2 := ⟨⟨(in_tb 493 (by decide +kernel) rfl), (in_tb 496 (by decide +kernel) rfl), (in_tb 38 (by decide +kernel) rfl), by decide +kernel, by decide +kernel⟩, (in_tb 494 (by decide +kernel) rfl), (in_tb 495 (by decide +kernel) rfl)⟩
theorem kX6_144 : am_lv' RX6 144 mX3_placeAt 2 := ⟨⟨(in_tb 497 (by decide +kernel) rfl), (in_tb 326 (by decide +kernel) rfl), (in_tb 39 (by decide +kernel) rfl), by decide +kernel, by decide +kernel⟩, (in_tb 324 (by decide +kernel) rfl), (in_tb 325 (by decide +kernel) rfl)⟩
theorem kL_44 : am_lv' RL 44 mX6_reach 3 := ⟨⟨(in_tb 498 (by decide +kernel) rfl), (in_tb 501 (by decide +kernel) rfl), (in_tb 38 (by decide +kernel) rfl), by decide +kernel, by decide +kernel⟩, (in_tb 499 (by decide +kernel) rfl), (in_tb 500 (by decide +kernel) rfl)⟩
theorem kX6_148 : am_ls RX6 148 mX6_isArm 1 := ⟨⟨(in_tb 502 (by decide +kernel) rfl), (in_tb 504 (by decide +kernel) rfl), (in_tb 38 (by decide +kernel) rfl), by decide +kernel, by decide +kernel⟩, (in_tb 503 (by decide +kernel) rfl)⟩
theorem kX6_155 : am_lv' RX6 155 mX0_othersReach 3 := ⟨⟨(in_tb 505 (by decide +kernel) rfl), (in_tb 508 (by decide +kernel) rfl), (in_tb 42 (by decide +kernel) rfl), by decide +kernel, by decide +kernel⟩, (in_tb 506 (by decide +kernel) rfl), (in_tb 507 (by decide +kernel) rfl)⟩
theorem kL_49 : am_lv' RL 49 mX6_beat 3 := ⟨⟨(in_tb 509 (by decide +kernel) rfl), (in_tb 512 (by decide +kernel) rfl), (in_tb 38 (by decide +kernel) rfl), by decide +kernel, by decide +kernel⟩, (in_tb 510 (by decide +kernel) rfl), (in_tb 511 (by decide +kernel) rfl)⟩
theorem kL_53 : am_lv' RL 53 mX6_lanes 2 := ⟨⟨(in_tb 513 (by decide +kernel) rfl), (in_tb 516 (by decide +kernel) rfl), (in_tb 38 (by decide +kernel) rfl), by decide +kernel, by decide +kernel⟩, (in_tb 514 (by decide +kernel) rfl), (in_tb 515 (by decide +kernel) rfl)⟩
theorem kL_57 : am_lv' RL 57 mX6_arm 2 := ⟨⟨(in_tb 517 (by decide +kernel) rfl), (in_tb 520 (by decide +kernel) rfl), (in_tb 38 (by decide +kernel) rfl), by decide +kernel, by decide +kernel⟩, (in_tb 518 (by decide +kernel) rfl), (in_tb 519 (by decide +kernel) rfl)⟩
theorem kX6_175 : am_lv' RX6 175 mX2_takenBy 1 := ⟨⟨(in_tb 521 (by decide +kernel) rfl), (in_tb 524 (by decide +kernel) rfl), (in_tb 43 (by decide +kernel) rfl), by decide +kernel, by decide +kernel⟩, (in_tb 522 (by decide +kernel) rfl), (in_tb 523 (by decide +kernel) rfl)⟩
theorem kX2_116 : am_lv' RX2 116 mX2_armOf 1 := ⟨⟨(in_tb 525 (by decide +kernel) rfl), (in_tb 475 (by decide +kernel) rfl), (in_tb 43 (by decide +kernel) rfl), by decide +kernel, by decide +kernel⟩, (in_tb 473 (by decide +kernel) rfl), (in_tb 474 (by decide +kernel) rfl)⟩
theorem kL_61 : am_lv' RL 61 mX6_can 3 := ⟨⟨(in_tb 526 (by decide +kernel) rfl), (in_tb 529 (by decide +kernel) rfl), (in_tb 38 (by decide +kernel) rfl), by decide +kernel, by decide +kernel⟩, (in_tb 527 (by decide +kernel) rfl), (in_tb 528 (by decide +kernel) rfl)⟩
theorem kX6_185 : am_lv' RX6 185 mX3_canTake 3 := ⟨⟨(in_tb 530 (by decide +kernel) rfl), (in_tb 533 (by decide +kernel) rfl), (in_tb 39 (by decide +kernel) rfl), by decide +kernel, by decide +kernel⟩, (in_tb 531 (by decide +kernel) rfl), (in_tb 532 (by decide +kernel) rfl)⟩
theorem kX3_82 : am_lv' RX3 82 mX0_hasBeatAt 2 := ⟨⟨(in_tb 534 (by decide +kernel) rfl), (in_tb 537 (by decide +kernel) rfl), (in_tb 42 (by decide +kernel) rfl), by decide +kernel, by decide +kernel⟩, (in_tb 535 (by decide +kernel) rfl), (in_tb 536 (by decide +kernel) rfl)⟩
theorem kX0_37 : am_lv' RX0 37 mX0_beatFrom 2 := ⟨⟨(in_tb 538 (by decide +kernel) rfl), (in_tb 421 (by decide +kernel) rfl), (in_tb 42 (by decide +kernel) rfl), by decide +kernel, by decide +kernel⟩, (in_tb 419 (by decide +kernel) rfl), (in_tb 420 (by decide +kernel) rfl)⟩
theorem kX3_88 : am_lv' RX3 88 mX0_reaches 2 := ⟨⟨(in_tb 539 (by decide +kernel) rfl), (in_tb 542 (by decide +kernel) rfl), (in_tb 42 (by decide +kernel) rfl), by decide +kernel, by decide +kernel⟩, (in_tb 540 (by decide +kernel) rfl), (in_tb 541 (by decide +kernel) rfl)⟩
theorem kX0_33 : Cond.code mX6_isWithin.1 mX6_isWithin.2.1 mX6_isWithin.2.2.1 mX6_isWithin.2.2.2.1 ∈ am_tb ∧ Cond.initialized mX6_isWithin.1.cls ∈ am_tb ∧ (mX6_isWithin.1.cls ≠ "java/lang/invoke/MethodHandle" ∧ mX6_isWithin.1.cls ≠ "java/lang/invoke/VarHandle") ∧ (parseMethodDescriptor mX6_isWithin.1.desc).map (fun d => d.parameters.length) = some 3 ∧ Cond.static mX6_isWithin.1 ∈ am_tb := ⟨(in_tb 277 (by decide +kernel) rfl), (in_tb 38 (by decide +kernel) rfl), by decide +kernel, by decide +kernel, (in_tb 276 (by decide +kernel) rfl)⟩
theorem kL_65 : am_lv' RL 65 mX6_takes 2 := ⟨⟨(in_tb 544 (by decide +kernel) rfl), (in_tb 547 (by decide +kernel) rfl), (in_tb 38 (by decide +kernel) rfl), by decide +kernel, by decide +kernel⟩, (in_tb 545 (by decide +kernel) rfl), (in_tb 546 (by decide +kernel) rfl)⟩
theorem kX6_188 : am_lv' RX6 188 mX2_takenAt 2 := ⟨⟨(in_tb 548 (by decide +kernel) rfl), (in_tb 551 (by decide +kernel) rfl), (in_tb 43 (by decide +kernel) rfl), by decide +kernel, by decide +kernel⟩, (in_tb 549 (by decide +kernel) rfl), (in_tb 550 (by decide +kernel) rfl)⟩
theorem kL_69 : am_lv' RL 69 mX6_plan 1 := ⟨⟨(in_tb 552 (by decide +kernel) rfl), (in_tb 555 (by decide +kernel) rfl), (in_tb 38 (by decide +kernel) rfl), by decide +kernel, by decide +kernel⟩, (in_tb 553 (by decide +kernel) rfl), (in_tb 554 (by decide +kernel) rfl)⟩
theorem kX6_191 : am_lv' RX6 191 mX2_lastTick 0 := ⟨⟨(in_tb 556 (by decide +kernel) rfl), (in_tb 559 (by decide +kernel) rfl), (in_tb 43 (by decide +kernel) rfl), by decide +kernel, by decide +kernel⟩, (in_tb 557 (by decide +kernel) rfl), (in_tb 558 (by decide +kernel) rfl)⟩
theorem kX2_119 : am_lv' RX2 119 mX2_tickOf 1 := ⟨⟨(in_tb 560 (by decide +kernel) rfl), (in_tb 471 (by decide +kernel) rfl), (in_tb 43 (by decide +kernel) rfl), by decide +kernel, by decide +kernel⟩, (in_tb 469 (by decide +kernel) rfl), (in_tb 470 (by decide +kernel) rfl)⟩
theorem kX2_122 : am_ls RX2 122 mJ9_max_7cf53 2 := ⟨⟨(in_tb 561 (by decide +kernel) rfl), (in_tb 409 (by decide +kernel) rfl), (in_tb 46 (by decide +kernel) rfl), by decide +kernel, by decide +kernel⟩, (in_tb 408 (by decide +kernel) rfl)⟩
theorem kX6_195 : am_lv' RX6 195 mX2_missedSet 0 := ⟨⟨(in_tb 562 (by decide +kernel) rfl), (in_tb 565 (by decide +kernel) rfl), (in_tb 43 (by decide +kernel) rfl), by decide +kernel, by decide +kernel⟩, (in_tb 563 (by decide +kernel) rfl), (in_tb 564 (by decide +kernel) rfl)⟩
theorem kX6_198 : am_lv' RX6 198 mX2_neededSet 0 := ⟨⟨(in_tb 566 (by decide +kernel) rfl), (in_tb 569 (by decide +kernel) rfl), (in_tb 43 (by decide +kernel) rfl), by decide +kernel, by decide +kernel⟩, (in_tb 567 (by decide +kernel) rfl), (in_tb 568 (by decide +kernel) rfl)⟩
theorem kL_73 : am_lv' RL 73 mX6_tray 2 := ⟨⟨(in_tb 570 (by decide +kernel) rfl), (in_tb 573 (by decide +kernel) rfl), (in_tb 38 (by decide +kernel) rfl), by decide +kernel, by decide +kernel⟩, (in_tb 571 (by decide +kernel) rfl), (in_tb 572 (by decide +kernel) rfl)⟩
theorem kL_77 : am_lv' RL 77 mX6_set 2 := ⟨⟨(in_tb 574 (by decide +kernel) rfl), (in_tb 577 (by decide +kernel) rfl), (in_tb 38 (by decide +kernel) rfl), by decide +kernel, by decide +kernel⟩, (in_tb 575 (by decide +kernel) rfl), (in_tb 576 (by decide +kernel) rfl)⟩
theorem kL_81 : am_lv' RL 81 mX6_image 1 := ⟨⟨(in_tb 578 (by decide +kernel) rfl), (in_tb 581 (by decide +kernel) rfl), (in_tb 38 (by decide +kernel) rfl), by decide +kernel, by decide +kernel⟩, (in_tb 579 (by decide +kernel) rfl), (in_tb 580 (by decide +kernel) rfl)⟩
theorem kX6_210 : am_lv' RX6 210 mX3_copyFrom 1 := ⟨⟨(in_tb 582 (by decide +kernel) rfl), (in_tb 585 (by decide +kernel) rfl), (in_tb 39 (by decide +kernel) rfl), by decide +kernel, by decide +kernel⟩, (in_tb 583 (by decide +kernel) rfl), (in_tb 584 (by decide +kernel) rfl)⟩
theorem kX3_39 : am_lv' RX3 39 mX1_copyFrom 1 := ⟨⟨(in_tb 586 (by decide +kernel) rfl), (in_tb 589 (by decide +kernel) rfl), (in_tb 40 (by decide +kernel) rfl), by decide +kernel, by decide +kernel⟩, (in_tb 587 (by decide +kernel) rfl), (in_tb 588 (by decide +kernel) rfl)⟩
theorem kX1_31 : Cond.methodLink RX1 31 arraycopyName ∈ am_tb ∧ Cond.native arraycopyName ∈ am_tb ∧ Cond.static arraycopyName ∈ am_tb ∧ Cond.initialized "java/lang/System" ∈ am_tb := ⟨(in_tb 590 (by decide +kernel) rfl), (in_tb 353 (by decide +kernel) rfl), (in_tb 352 (by decide +kernel) rfl), (in_tb 47 (by decide +kernel) rfl)⟩
theorem kX3_43 : am_lv' RX3 43 mX4_copyFrom 1 := ⟨⟨(in_tb 591 (by decide +kernel) rfl), (in_tb 594 (by decide +kernel) rfl), (in_tb 41 (by decide +kernel) rfl), by decide +kernel, by decide +kernel⟩, (in_tb 592 (by decide +kernel) rfl), (in_tb 593 (by decide +kernel) rfl)⟩
theorem kX3_46 : am_lv' RX3 46 mX0_copyFrom 1 := ⟨⟨(in_tb 595 (by decide +kernel) rfl), (in_tb 598 (by decide +kernel) rfl), (in_tb 42 (by decide +kernel) rfl), by decide +kernel, by decide +kernel⟩, (in_tb 596 (by decide +kernel) rfl), (in_tb 597 (by decide +kernel) rfl)⟩
theorem kX0_27 : Cond.methodLink RX0 27 arraycopyName ∈ am_tb ∧ Cond.native arraycopyName ∈ am_tb ∧ Cond.static arraycopyName ∈ am_tb ∧ Cond.initialized "java/lang/System" ∈ am_tb := ⟨(in_tb 599 (by decide +kernel) rfl), (in_tb 353 (by decide +kernel) rfl), (in_tb 352 (by decide +kernel) rfl), (in_tb 47 (by decide +kernel) rfl)⟩
theorem kL_85 : am_lv' RL 85 mX6_restore 1 := ⟨⟨(in_tb 600 (by decide +kernel) rfl), (in_tb 603 (by decide +kernel) rfl), (in_tb 38 (by decide +kernel) rfl), by decide +kernel, by decide +kernel⟩, (in_tb 601 (by decide +kernel) rfl), (in_tb 602 (by decide +kernel) rfl)⟩
theorem kL_89 : am_lv' RL 89 mX6_count 1 := ⟨⟨(in_tb 604 (by decide +kernel) rfl), (in_tb 607 (by decide +kernel) rfl), (in_tb 38 (by decide +kernel) rfl), by decide +kernel, by decide +kernel⟩, (in_tb 605 (by decide +kernel) rfl), (in_tb 606 (by decide +kernel) rfl)⟩
theorem kX6_214 : am_lv' RX6 214 mX4_seenOften 0 := ⟨⟨(in_tb 608 (by decide +kernel) rfl), (in_tb 611 (by decide +kernel) rfl), (in_tb 41 (by decide +kernel) rfl), by decide +kernel, by decide +kernel⟩, (in_tb 609 (by decide +kernel) rfl), (in_tb 610 (by decide +kernel) rfl)⟩
theorem kX4_48 : am_lv' RX4 48 mX4_timesSeen 1 := ⟨⟨(in_tb 612 (by decide +kernel) rfl), (in_tb 361 (by decide +kernel) rfl), (in_tb 41 (by decide +kernel) rfl), by decide +kernel, by decide +kernel⟩, (in_tb 359 (by decide +kernel) rfl), (in_tb 360 (by decide +kernel) rfl)⟩
theorem kX6_217 : am_lv' RX6 217 mX4_ofKind 1 := ⟨⟨(in_tb 613 (by decide +kernel) rfl), (in_tb 616 (by decide +kernel) rfl), (in_tb 41 (by decide +kernel) rfl), by decide +kernel, by decide +kernel⟩, (in_tb 614 (by decide +kernel) rfl), (in_tb 615 (by decide +kernel) rfl)⟩
theorem kL_17 : am_lv' RL 17 mX7_speed 2 := ⟨⟨(in_tb 673 (by decide +kernel) rfl), (in_tb 676 (by decide +kernel) rfl), (in_tb 45 (by decide +kernel) rfl), by decide +kernel, by decide +kernel⟩, (in_tb 674 (by decide +kernel) rfl), (in_tb 675 (by decide +kernel) rfl)⟩
theorem kX7_60 : am_ls RX7 60 mX7_isTick 1 := ⟨⟨(in_tb 677 (by decide +kernel) rfl), (in_tb 679 (by decide +kernel) rfl), (in_tb 45 (by decide +kernel) rfl), by decide +kernel, by decide +kernel⟩, (in_tb 678 (by decide +kernel) rfl)⟩
theorem kX7_56 : am_ls RX7 56 mX7_in 3 := ⟨⟨(in_tb 680 (by decide +kernel) rfl), (in_tb 682 (by decide +kernel) rfl), (in_tb 45 (by decide +kernel) rfl), by decide +kernel, by decide +kernel⟩, (in_tb 681 (by decide +kernel) rfl)⟩
theorem kX7_64 : am_lv' RX7 64 mX7_changes 0 := ⟨⟨(in_tb 683 (by decide +kernel) rfl), (in_tb 686 (by decide +kernel) rfl), (in_tb 45 (by decide +kernel) rfl), by decide +kernel, by decide +kernel⟩, (in_tb 685 (by decide +kernel) rfl), (in_tb 15 (by decide +kernel) rfl)⟩
theorem kX7_68 : am_lv' RX7 68 mX7_speedAt 1 := ⟨⟨(in_tb 687 (by decide +kernel) rfl), (in_tb 690 (by decide +kernel) rfl), (in_tb 45 (by decide +kernel) rfl), by decide +kernel, by decide +kernel⟩, (in_tb 689 (by decide +kernel) rfl), (in_tb 16 (by decide +kernel) rfl)⟩
theorem kL_22 : am_lv' RL 22 mX7_level 1 := ⟨⟨(in_tb 691 (by decide +kernel) rfl), (in_tb 694 (by decide +kernel) rfl), (in_tb 45 (by decide +kernel) rfl), by decide +kernel, by decide +kernel⟩, (in_tb 692 (by decide +kernel) rfl), (in_tb 693 (by decide +kernel) rfl)⟩
theorem kL_26 : am_lv' RL 26 mX7_gone 1 := ⟨⟨(in_tb 695 (by decide +kernel) rfl), (in_tb 698 (by decide +kernel) rfl), (in_tb 45 (by decide +kernel) rfl), by decide +kernel, by decide +kernel⟩, (in_tb 696 (by decide +kernel) rfl), (in_tb 697 (by decide +kernel) rfl)⟩
theorem kX7_72 : am_lv' RX7 72 mX7_layGone 0 := ⟨⟨(in_tb 699 (by decide +kernel) rfl), (in_tb 702 (by decide +kernel) rfl), (in_tb 45 (by decide +kernel) rfl), by decide +kernel, by decide +kernel⟩, (in_tb 701 (by decide +kernel) rfl), (in_tb 17 (by decide +kernel) rfl)⟩
theorem kL_31 : am_lv' RL 31 mX7_see 4 := ⟨⟨(in_tb 703 (by decide +kernel) rfl), (in_tb 706 (by decide +kernel) rfl), (in_tb 45 (by decide +kernel) rfl), by decide +kernel, by decide +kernel⟩, (in_tb 704 (by decide +kernel) rfl), (in_tb 705 (by decide +kernel) rfl)⟩
theorem kX7_75 : am_lv' RX7 75 mX7_placeOf 2 := ⟨⟨(in_tb 707 (by decide +kernel) rfl), (in_tb 710 (by decide +kernel) rfl), (in_tb 45 (by decide +kernel) rfl), by decide +kernel, by decide +kernel⟩, (in_tb 709 (by decide +kernel) rfl), (in_tb 18 (by decide +kernel) rfl)⟩
theorem kX7_79 : am_ls RX7 79 mX7_size 1 := ⟨⟨(in_tb 711 (by decide +kernel) rfl), (in_tb 713 (by decide +kernel) rfl), (in_tb 45 (by decide +kernel) rfl), by decide +kernel, by decide +kernel⟩, (in_tb 712 (by decide +kernel) rfl)⟩
theorem kX7_82 : am_lv' RX7 82 mX7_wasSeen 2 := ⟨⟨(in_tb 714 (by decide +kernel) rfl), (in_tb 717 (by decide +kernel) rfl), (in_tb 45 (by decide +kernel) rfl), by decide +kernel, by decide +kernel⟩, (in_tb 716 (by decide +kernel) rfl), (in_tb 19 (by decide +kernel) rfl)⟩
theorem kL_35 : am_lv' RL 35 mX7_drop 1 := ⟨⟨(in_tb 718 (by decide +kernel) rfl), (in_tb 721 (by decide +kernel) rfl), (in_tb 45 (by decide +kernel) rfl), by decide +kernel, by decide +kernel⟩, (in_tb 719 (by decide +kernel) rfl), (in_tb 720 (by decide +kernel) rfl)⟩
theorem kX7_86 : am_lv' RX7 86 mX7_isThing 1 := ⟨⟨(in_tb 722 (by decide +kernel) rfl), (in_tb 725 (by decide +kernel) rfl), (in_tb 45 (by decide +kernel) rfl), by decide +kernel, by decide +kernel⟩, (in_tb 724 (by decide +kernel) rfl), (in_tb 20 (by decide +kernel) rfl)⟩
theorem kL_43 : am_lv' RL 43 mX7_place 2 := ⟨⟨(in_tb 726 (by decide +kernel) rfl), (in_tb 729 (by decide +kernel) rfl), (in_tb 45 (by decide +kernel) rfl), by decide +kernel, by decide +kernel⟩, (in_tb 727 (by decide +kernel) rfl), (in_tb 728 (by decide +kernel) rfl)⟩
theorem kL_48 : am_lv' RL 48 mX7_reach 3 := ⟨⟨(in_tb 730 (by decide +kernel) rfl), (in_tb 733 (by decide +kernel) rfl), (in_tb 45 (by decide +kernel) rfl), by decide +kernel, by decide +kernel⟩, (in_tb 731 (by decide +kernel) rfl), (in_tb 732 (by decide +kernel) rfl)⟩
theorem kX7_89 : am_ls RX7 89 mX7_isArm 1 := ⟨⟨(in_tb 734 (by decide +kernel) rfl), (in_tb 736 (by decide +kernel) rfl), (in_tb 45 (by decide +kernel) rfl), by decide +kernel, by decide +kernel⟩, (in_tb 735 (by decide +kernel) rfl)⟩
theorem kL_52 : am_lv' RL 52 mX7_beat 3 := ⟨⟨(in_tb 737 (by decide +kernel) rfl), (in_tb 740 (by decide +kernel) rfl), (in_tb 45 (by decide +kernel) rfl), by decide +kernel, by decide +kernel⟩, (in_tb 738 (by decide +kernel) rfl), (in_tb 739 (by decide +kernel) rfl)⟩
theorem kL_56 : am_lv' RL 56 mX7_lanes 2 := ⟨⟨(in_tb 741 (by decide +kernel) rfl), (in_tb 744 (by decide +kernel) rfl), (in_tb 45 (by decide +kernel) rfl), by decide +kernel, by decide +kernel⟩, (in_tb 742 (by decide +kernel) rfl), (in_tb 743 (by decide +kernel) rfl)⟩
theorem kL_64 : am_lv' RL 64 mX7_can 3 := ⟨⟨(in_tb 745 (by decide +kernel) rfl), (in_tb 748 (by decide +kernel) rfl), (in_tb 45 (by decide +kernel) rfl), by decide +kernel, by decide +kernel⟩, (in_tb 746 (by decide +kernel) rfl), (in_tb 747 (by decide +kernel) rfl)⟩
theorem kX7_92 : am_lv' RX7 92 mX7_canTake 3 := ⟨⟨(in_tb 749 (by decide +kernel) rfl), (in_tb 752 (by decide +kernel) rfl), (in_tb 45 (by decide +kernel) rfl), by decide +kernel, by decide +kernel⟩, (in_tb 751 (by decide +kernel) rfl), (in_tb 21 (by decide +kernel) rfl)⟩
theorem kL_76 : am_lv' RL 76 mX7_tray 2 := ⟨⟨(in_tb 753 (by decide +kernel) rfl), (in_tb 756 (by decide +kernel) rfl), (in_tb 45 (by decide +kernel) rfl), by decide +kernel, by decide +kernel⟩, (in_tb 754 (by decide +kernel) rfl), (in_tb 755 (by decide +kernel) rfl)⟩
theorem kX7_119 : am_lv' RX7 119 mX7_layPlan 0 := ⟨⟨(in_tb 757 (by decide +kernel) rfl), (in_tb 760 (by decide +kernel) rfl), (in_tb 45 (by decide +kernel) rfl), by decide +kernel, by decide +kernel⟩, (in_tb 759 (by decide +kernel) rfl), (in_tb 22 (by decide +kernel) rfl)⟩
theorem kX7_105 : am_lv' RX7 105 mX7_layArms 1 := ⟨⟨(in_tb 761 (by decide +kernel) rfl), (in_tb 764 (by decide +kernel) rfl), (in_tb 45 (by decide +kernel) rfl), by decide +kernel, by decide +kernel⟩, (in_tb 763 (by decide +kernel) rfl), (in_tb 23 (by decide +kernel) rfl)⟩
theorem kX7_109 : am_lv' RX7 109 mX7_clear 0 := ⟨⟨(in_tb 765 (by decide +kernel) rfl), (in_tb 768 (by decide +kernel) rfl), (in_tb 45 (by decide +kernel) rfl), by decide +kernel, by decide +kernel⟩, (in_tb 767 (by decide +kernel) rfl), (in_tb 24 (by decide +kernel) rfl)⟩
theorem kX7_112 : am_lv' RX7 112 mX7_most 1 := ⟨⟨(in_tb 769 (by decide +kernel) rfl), (in_tb 772 (by decide +kernel) rfl), (in_tb 45 (by decide +kernel) rfl), by decide +kernel, by decide +kernel⟩, (in_tb 771 (by decide +kernel) rfl), (in_tb 25 (by decide +kernel) rfl)⟩
theorem kX7_102 : am_lv' RX7 102 mX7_find 1 := ⟨⟨(in_tb 773 (by decide +kernel) rfl), (in_tb 776 (by decide +kernel) rfl), (in_tb 45 (by decide +kernel) rfl), by decide +kernel, by decide +kernel⟩, (in_tb 775 (by decide +kernel) rfl), (in_tb 26 (by decide +kernel) rfl)⟩
theorem kX7_95 : am_ls RX7 95 mX7_slot 2 := ⟨⟨(in_tb 777 (by decide +kernel) rfl), (in_tb 779 (by decide +kernel) rfl), (in_tb 45 (by decide +kernel) rfl), by decide +kernel, by decide +kernel⟩, (in_tb 778 (by decide +kernel) rfl)⟩
theorem kX7_98 : am_lv' RX7 98 mX7_turn 2 := ⟨⟨(in_tb 780 (by decide +kernel) rfl), (in_tb 783 (by decide +kernel) rfl), (in_tb 45 (by decide +kernel) rfl), by decide +kernel, by decide +kernel⟩, (in_tb 782 (by decide +kernel) rfl), (in_tb 27 (by decide +kernel) rfl)⟩
theorem kX7_122 : am_lv' RX7 122 mX7_layTrays 0 := ⟨⟨(in_tb 784 (by decide +kernel) rfl), (in_tb 787 (by decide +kernel) rfl), (in_tb 45 (by decide +kernel) rfl), by decide +kernel, by decide +kernel⟩, (in_tb 786 (by decide +kernel) rfl), (in_tb 28 (by decide +kernel) rfl)⟩
theorem kL_39 : am_lv' RL 39 mX7_thing 2 := ⟨⟨(in_tb 788 (by decide +kernel) rfl), (in_tb 791 (by decide +kernel) rfl), (in_tb 45 (by decide +kernel) rfl), by decide +kernel, by decide +kernel⟩, (in_tb 789 (by decide +kernel) rfl), (in_tb 790 (by decide +kernel) rfl)⟩
theorem kX7_125 : am_lv' RX7 125 mX7_seenOf 1 := ⟨⟨(in_tb 792 (by decide +kernel) rfl), (in_tb 795 (by decide +kernel) rfl), (in_tb 45 (by decide +kernel) rfl), by decide +kernel, by decide +kernel⟩, (in_tb 794 (by decide +kernel) rfl), (in_tb 29 (by decide +kernel) rfl)⟩
theorem kX7_128 : am_lv' RX7 128 mX7_planned 2 := ⟨⟨(in_tb 796 (by decide +kernel) rfl), (in_tb 799 (by decide +kernel) rfl), (in_tb 45 (by decide +kernel) rfl), by decide +kernel, by decide +kernel⟩, (in_tb 798 (by decide +kernel) rfl), (in_tb 30 (by decide +kernel) rfl)⟩
theorem kX7_131 : am_lv' RX7 131 mX7_canAt 2 := ⟨⟨(in_tb 800 (by decide +kernel) rfl), (in_tb 803 (by decide +kernel) rfl), (in_tb 45 (by decide +kernel) rfl), by decide +kernel, by decide +kernel⟩, (in_tb 802 (by decide +kernel) rfl), (in_tb 31 (by decide +kernel) rfl)⟩
theorem kL_60 : am_lv' RL 60 mX7_arm 2 := ⟨⟨(in_tb 804 (by decide +kernel) rfl), (in_tb 807 (by decide +kernel) rfl), (in_tb 45 (by decide +kernel) rfl), by decide +kernel, by decide +kernel⟩, (in_tb 805 (by decide +kernel) rfl), (in_tb 806 (by decide +kernel) rfl)⟩
theorem kX7_134 : am_lv' RX7 134 mX7_takenBy 1 := ⟨⟨(in_tb 808 (by decide +kernel) rfl), (in_tb 811 (by decide +kernel) rfl), (in_tb 45 (by decide +kernel) rfl), by decide +kernel, by decide +kernel⟩, (in_tb 810 (by decide +kernel) rfl), (in_tb 32 (by decide +kernel) rfl)⟩
theorem kX7_137 : am_lv' RX7 137 mX7_mostWithout 1 := ⟨⟨(in_tb 812 (by decide +kernel) rfl), (in_tb 815 (by decide +kernel) rfl), (in_tb 45 (by decide +kernel) rfl), by decide +kernel, by decide +kernel⟩, (in_tb 814 (by decide +kernel) rfl), (in_tb 33 (by decide +kernel) rfl)⟩
theorem kL_68 : am_lv' RL 68 mX7_takes 2 := ⟨⟨(in_tb 816 (by decide +kernel) rfl), (in_tb 819 (by decide +kernel) rfl), (in_tb 45 (by decide +kernel) rfl), by decide +kernel, by decide +kernel⟩, (in_tb 817 (by decide +kernel) rfl), (in_tb 818 (by decide +kernel) rfl)⟩
theorem kL_72 : am_lv' RL 72 mX7_plan 1 := ⟨⟨(in_tb 820 (by decide +kernel) rfl), (in_tb 823 (by decide +kernel) rfl), (in_tb 45 (by decide +kernel) rfl), by decide +kernel, by decide +kernel⟩, (in_tb 821 (by decide +kernel) rfl), (in_tb 822 (by decide +kernel) rfl)⟩
theorem kX7_140 : am_lv' RX7 140 mX7_inEach 0 := ⟨⟨(in_tb 824 (by decide +kernel) rfl), (in_tb 827 (by decide +kernel) rfl), (in_tb 45 (by decide +kernel) rfl), by decide +kernel, by decide +kernel⟩, (in_tb 826 (by decide +kernel) rfl), (in_tb 34 (by decide +kernel) rfl)⟩
theorem kL_80 : am_lv' RL 80 mX7_set 2 := ⟨⟨(in_tb 828 (by decide +kernel) rfl), (in_tb 831 (by decide +kernel) rfl), (in_tb 45 (by decide +kernel) rfl), by decide +kernel, by decide +kernel⟩, (in_tb 829 (by decide +kernel) rfl), (in_tb 830 (by decide +kernel) rfl)⟩
theorem kL_84 : am_lv' RL 84 mX7_image 1 := ⟨⟨(in_tb 832 (by decide +kernel) rfl), (in_tb 835 (by decide +kernel) rfl), (in_tb 45 (by decide +kernel) rfl), by decide +kernel, by decide +kernel⟩, (in_tb 833 (by decide +kernel) rfl), (in_tb 834 (by decide +kernel) rfl)⟩
theorem kL_88 : am_lv' RL 88 mX7_restore 1 := ⟨⟨(in_tb 836 (by decide +kernel) rfl), (in_tb 839 (by decide +kernel) rfl), (in_tb 45 (by decide +kernel) rfl), by decide +kernel, by decide +kernel⟩, (in_tb 837 (by decide +kernel) rfl), (in_tb 838 (by decide +kernel) rfl)⟩
theorem kL_92 : am_lv' RL 92 mX7_count 1 := ⟨⟨(in_tb 840 (by decide +kernel) rfl), (in_tb 843 (by decide +kernel) rfl), (in_tb 45 (by decide +kernel) rfl), by decide +kernel, by decide +kernel⟩, (in_tb 841 (by decide +kernel) rfl), (in_tb 842 (by decide +kernel) rfl)⟩
theorem kX7_143 : am_lv' RX7 143 mX7_ofKind 1 := ⟨⟨(in_tb 844 (by decide +kernel) rfl), (in_tb 847 (by decide +kernel) rfl), (in_tb 45 (by decide +kernel) rfl), by decide +kernel, by decide +kernel⟩, (in_tb 846 (by decide +kernel) rfl), (in_tb 35 (by decide +kernel) rfl)⟩
theorem kX7_146 : am_lv' RX7 146 mX7_seenTwice 0 := ⟨⟨(in_tb 848 (by decide +kernel) rfl), (in_tb 851 (by decide +kernel) rfl), (in_tb 45 (by decide +kernel) rfl), by decide +kernel, by decide +kernel⟩, (in_tb 850 (by decide +kernel) rfl), (in_tb 36 (by decide +kernel) rfl)⟩
