/-! the heap: 0 BeltArms, 1 its two images, 2.. 19.. 36.. the three States (State, Belt and 3 rows, Things and 5 rows, Arms and 5 rows), 53.. 60.. the two Plans (and 6 rows), 67 Trays (68, 69), 70 the reference and its rows 71 to 85 -/
def am_tab : List am_C := [.inl (6, [some 2, some 1, none, some 53, some 60, some 67, none]),
  .inr (.inr [19, 36]),
  .inl (3, [some 3, some 7, some 13, none, none]),
  .inl (1, [none, none, some 4, some 5, some 6]),
  .inr (.inl (0, 8)),
  .inr (.inl (0, 8)),
  .inr (.inl (0, 301)),
  .inl (4, [none, some 8, some 9, some 10, some 11, some 12]),
  .inr (.inl (0, 20)),
  .inr (.inl (0, 20)),
  .inr (.inl (0, 20)),
  .inr (.inl (0, 20)),
  .inr (.inl (2, 100)),
  .inl (0, [some 14, some 15, some 16, some 17, some 18]),
  .inr (.inl (0, 4)),
  .inr (.inl (0, 4)),
  .inr (.inl (0, 4)),
  .inr (.inl (0, 4)),
  .inr (.inl (0, 4)),
  .inl (3, [some 20, some 24, some 30, none, none]),
  .inl (1, [none, none, some 21, some 22, some 23]),
  .inr (.inl (0, 8)),
  .inr (.inl (0, 8)),
  .inr (.inl (0, 301)),
  .inl (4, [none, some 25, some 26, some 27, some 28, some 29]),
  .inr (.inl (0, 20)),
  .inr (.inl (0, 20)),
  .inr (.inl (0, 20)),
  .inr (.inl (0, 20)),
  .inr (.inl (2, 100)),
  .inl (0, [some 31, some 32, some 33, some 34, some 35]),
  .inr (.inl (0, 4)),
  .inr (.inl (0, 4)),
  .inr (.inl (0, 4)),
  .inr (.inl (0, 4)),
  .inr (.inl (0, 4)),
  .inl (3, [some 37, some 41, some 47, none, none]),
  .inl (1, [none, none, some 38, some 39, some 40]),
  .inr (.inl (0, 8)),
  .inr (.inl (0, 8)),
  .inr (.inl (0, 301)),
  .inl (4, [none, some 42, some 43, some 44, some 45, some 46]),
  .inr (.inl (0, 20)),
  .inr (.inl (0, 20)),
  .inr (.inl (0, 20)),
  .inr (.inl (0, 20)),
  .inr (.inl (2, 100)),
  .inl (0, [some 48, some 49, some 50, some 51, some 52]),
  .inr (.inl (0, 4)),
  .inr (.inl (0, 4)),
  .inr (.inl (0, 4)),
  .inr (.inl (0, 4)),
  .inr (.inl (0, 4)),
  .inl (2, [none, none, some 54, some 55, some 56, some 57, some 58, some 59, none, none, none]),
  .inr (.inl (0, 400)),
  .inr (.inl (0, 20)),
  .inr (.inl (0, 20)),
  .inr (.inl (0, 1204)),
  .inr (.inl (0, 20)),
  .inr (.inl (0, 20)),
  .inl (2, [none, none, some 61, some 62, some 63, some 64, some 65, some 66, none, none, none]),
  .inr (.inl (0, 400)),
  .inr (.inl (0, 20)),
  .inr (.inl (0, 20)),
  .inr (.inl (0, 1204)),
  .inr (.inl (0, 20)),
  .inr (.inl (0, 20)),
  .inl (5, [some 68, some 69]),
  .inr (.inl (0, 20)),
  .inr (.inl (0, 18)),
  .inl (7, [some 71, some 72, some 73, some 74, some 75, some 76, some 77, some 78, some 79, some 80, some 81, some 82, some 83, none, some 84, some 85]),
  .inr (.inl (0, 6424)),
  .inr (.inl (0, 12848)),
  .inr (.inl (1, 2)),
  .inr (.inl (0, 301)),
  .inr (.inl (0, 6020)),
  .inr (.inl (0, 1204)),
  .inr (.inl (1, 1204)),
  .inr (.inl (1, 20)),
  .inr (.inl (0, 20)),
  .inr (.inl (0, 1204)),
  .inr (.inl (0, 20)),
  .inr (.inl (0, 20)),
  .inr (.inl (0, 20)),
  .inr (.inl (0, 18)),
  .inr (.inl (0, 20))]
abbrev mX0_copyFrom : am_M := (yX0_copyFrom, cX0_copyFrom, 2, none, am_rm 1, (0, 0))
abbrev mX0_othersReach : am_M := (yX0_othersReach, cX0_othersReach, 5, (some .boolean), am_rm 0, (0, 0))
abbrev mX0_hasLane : am_M := (yX0_hasLane, cX0_hasLane, 3, (some .boolean), am_rm 0, (0, 0))
abbrev mX0_reaches : am_M := (yX0_reaches, cX0_reaches, 3, (some .boolean), am_rm 1, (0, 0))
abbrev mX0_hasBeatAt : am_M := (yX0_hasBeatAt, cX0_hasBeatAt, 3, (some .boolean), am_rm 2, (0, 0))
abbrev mX0_beatFrom : am_M := (yX0_beatFrom, cX0_beatFrom, 4, (some .int), am_rm 1, (0, 0))
abbrev mX0_beatTill : am_M := (yX0_beatTill, cX0_beatTill, 4, (some .int), am_rm 1, (0, 0))
abbrev mX0_nextAlong : am_M := (yX0_nextAlong, cX0_nextAlong, 4, (some .int), am_rm 0, (0, 0))
abbrev mX1_copyFrom : am_M := (yX1_copyFrom, cX1_copyFrom, 2, none, am_rm 1, (0, 0))
abbrev mX1_begunBy : am_M := (yX1_begunBy, cX1_begunBy, 3, (some .int), am_rm 0, (0, 0))
abbrev mX1_speedAt : am_M := (yX1_speedAt, cX1_speedAt, 3, (some .int), am_rm 1, (0, 0))
abbrev mX1_changeAt : am_M := (yX1_changeAt, cX1_changeAt, 3, (some .int), am_rm 1, (0, 0))
abbrev mX1_tell : am_M := (yX1_tell, cX1_tell, 4, none, am_rm 2, (0, 0))
abbrev mX1_insert : am_M := (yX1_insert, cX1_insert, 5, none, am_rm 0, (0, 0))
abbrev mX1_forget : am_M := (yX1_forget, cX1_forget, 3, none, am_rm 1, (0, 0))
abbrev mX1_addUp : am_M := (yX1_addUp, cX1_addUp, 5, none, am_rm 0, (0, 0))
abbrev mX1_firstTickGone : am_M := (yX1_firstTickGone, cX1_firstTickGone, 4, (some .int), am_rm 0, (0, 0))
abbrev mX2_takeMost : am_M := (yX2_takeMost, cX2_takeMost, 4, none, am_rm 5, (0, 0))
abbrev mX2_listSlots : am_M := (yX2_listSlots, cX2_listSlots, 6, none, am_rm 4, (0, 0))
abbrev mX2_listSlotsOf : am_M := (yX2_listSlotsOf, cX2_listSlotsOf, 7, none, am_rm 3, (0, 0))
abbrev mX2_settle : am_M := (yX2_settle, cX2_settle, 4, none, am_rm 4, (0, 0))
abbrev mX2_settleAt : am_M := (yX2_settleAt, cX2_settleAt, 5, (some .boolean), am_rm 3, (0, 0))
abbrev mX2_hold : am_M := (yX2_hold, cX2_hold, 3, none, am_rm 0, (0, 0))
abbrev mX2_leave : am_M := (yX2_leave, cX2_leave, 3, none, am_rm 0, (0, 0))
abbrev mX2_takeOneMore : am_M := (yX2_takeOneMore, cX2_takeOneMore, 5, (some .boolean), am_rm 2, (0, 0))
abbrev mX2_freeSlot : am_M := (yX2_freeSlot, cX2_freeSlot, 6, (some .int), am_rm 1, (0, 0))
abbrev mX2_enqueue : am_M := (yX2_enqueue, cX2_enqueue, 3, none, am_rm 0, (0, 0))
abbrev mX2_moveUp : am_M := (yX2_moveUp, cX2_moveUp, 7, none, am_rm 1, (0, 0))
abbrev mX2_tickOf : am_M := (yX2_tickOf, cX2_tickOf, 2, (some .int), am_rm 0, (0, 0))
abbrev mX2_armOf : am_M := (yX2_armOf, cX2_armOf, 2, (some .int), am_rm 0, (0, 0))
abbrev mX2_takenAt : am_M := (yX2_takenAt, cX2_takenAt, 3, (some .int), am_rm 0, (0, 0))
abbrev mX2_takenBy : am_M := (yX2_takenBy, cX2_takenBy, 4, (some .int), am_rm 1, (0, 0))
abbrev mX2_lastTick : am_M := (yX2_lastTick, cX2_lastTick, 3, (some .int), am_rm 1, (0, 0))
abbrev mX2_missedSet : am_M := (yX2_missedSet, cX2_missedSet, 3, (some .int), am_rm 0, (0, 0))
abbrev mX2_neededSet : am_M := (yX2_neededSet, cX2_neededSet, 1, (some .int), am_rm 0, (0, 0))
abbrev mX2_nextTaken : am_M := (yX2_nextTaken, cX2_nextTaken, 4, (some .int), am_rm 0, (0, 0))
abbrev mX3_copyFrom : am_M := (yX3_copyFrom, cX3_copyFrom, 2, none, am_rm 2, (0, 0))
abbrev mX3_placeAt : am_M := (yX3_placeAt, cX3_placeAt, 3, (some .int), am_rm 0, (0, 0))
abbrev mX3_nearest : am_M := (yX3_nearest, cX3_nearest, 9, (some .int), am_rm 1, (0, 0))
abbrev mX3_canTake : am_M := (yX3_canTake, cX3_canTake, 4, (some .boolean), am_rm 3, (0, 0))
abbrev mX3_firstChanceOf : am_M := (yX3_firstChanceOf, cX3_firstChanceOf, 4, (some .int), am_rm 2, (0, 0))
abbrev mX3_lastChanceOf : am_M := (yX3_lastChanceOf, cX3_lastChanceOf, 4, (some .int), am_rm 2, (0, 0))
abbrev mX3_firstChance : am_M := (yX3_firstChance, cX3_firstChance, 5, (some .int), am_rm 3, (0, 0))
abbrev mX3_lastChance : am_M := (yX3_lastChance, cX3_lastChance, 5, (some .int), am_rm 3, (0, 0))
abbrev mX3_chances : am_M := (yX3_chances, cX3_chances, 5, (some .int), am_rm 3, (0, 0))
abbrev mX4_copyFrom : am_M := (yX4_copyFrom, cX4_copyFrom, 2, none, am_rm 1, (0, 0))
abbrev mX4_append : am_M := (yX4_append, cX4_append, 6, none, am_rm 1, (0, 0))
abbrev mX4_remove : am_M := (yX4_remove, cX4_remove, 3, none, am_rm 1, (0, 0))
abbrev mX4_markSeen : am_M := (yX4_markSeen, cX4_markSeen, 3, none, am_rm 0, (0, 0))
abbrev mX4_wasSeen : am_M := (yX4_wasSeen, cX4_wasSeen, 3, (some .boolean), am_rm 0, (0, 0))
abbrev mX4_timesSeen : am_M := (yX4_timesSeen, cX4_timesSeen, 4, (some .int), am_rm 1, (0, 0))
abbrev mX4_seenOften : am_M := (yX4_seenOften, cX4_seenOften, 3, (some .int), am_rm 2, (0, 0))
abbrev mX4_ofKind : am_M := (yX4_ofKind, cX4_ofKind, 4, (some .int), am_rm 0, (0, 0))
abbrev mX5_lay : am_M := (yX5_lay, cX5_lay, 7, none, am_rm 1, (0, 0))
abbrev mX5_emptiest : am_M := (yX5_emptiest, cX5_emptiest, 5, (some .int), am_rm 0, (0, 0))
abbrev mX6_speed : am_M := (yX6_speed, cX6_speed, 5, (some .int), am_rm 3, (0, 0))
abbrev mX6_level : am_M := (yX6_level, cX6_level, 3, (some .int), am_rm 2, (0, 0))
abbrev mX6_gone : am_M := (yX6_gone, cX6_gone, 2, (some .int), am_rm 2, (0, 0))
abbrev mX6_see : am_M := (yX6_see, cX6_see, 7, (some .int), am_rm 2, (0, 0))
abbrev mX6_drop : am_M := (yX6_drop, cX6_drop, 2, (some .int), am_rm 2, (0, 0))
abbrev mX6_thing : am_M := (yX6_thing, cX6_thing, 4, (some .int), am_rm 7, (0, 0))
abbrev mX6_place : am_M := (yX6_place, cX6_place, 3, (some .int), am_rm 2, (0, 0))
abbrev mX6_reach : am_M := (yX6_reach, cX6_reach, 4, (some .int), am_rm 2, (0, 0))
abbrev mX6_beat : am_M := (yX6_beat, cX6_beat, 4, (some .int), am_rm 2, (0, 0))
abbrev mX6_lanes : am_M := (yX6_lanes, cX6_lanes, 4, (some .int), am_rm 2, (0, 0))
abbrev mX6_arm : am_M := (yX6_arm, cX6_arm, 4, (some .int), am_rm 7, (0, 0))
abbrev mX6_can : am_M := (yX6_can, cX6_can, 4, (some .int), am_rm 4, (0, 0))
abbrev mX6_takes : am_M := (yX6_takes, cX6_takes, 4, (some .int), am_rm 7, (0, 0))
abbrev mX6_plan : am_M := (yX6_plan, cX6_plan, 2, (some .int), am_rm 7, (0, 0))
abbrev mX6_tray : am_M := (yX6_tray, cX6_tray, 3, (some .int), am_rm 7, (0, 0))
abbrev mX6_set : am_M := (yX6_set, cX6_set, 4, (some .int), am_rm 1, (0, 0))
abbrev mX6_image : am_M := (yX6_image, cX6_image, 2, (some .int), am_rm 3, (0, 0))
abbrev mX6_restore : am_M := (yX6_restore, cX6_restore, 2, (some .int), am_rm 3, (0, 0))
abbrev mX6_count : am_M := (yX6_count, cX6_count, 2, (some .int), am_rm 3, (0, 0))
abbrev mX6_isWithin : am_M := (yX6_isWithin, cX6_isWithin, 3, (some .boolean), am_rm 0, (0, 0))
abbrev mX6_isTick : am_M := (yX6_isTick, cX6_isTick, 1, (some .boolean), am_rm 1, (0, 0))
abbrev mX6_isArm : am_M := (yX6_isArm, cX6_isArm, 1, (some .boolean), am_rm 1, (0, 0))
abbrev mX6_isThing : am_M := (yX6_isThing, cX6_isThing, 2, (some .boolean), am_rm 1, (0, 0))
abbrev mX6_freshPlan : am_M := (yX6_freshPlan, cX6_freshPlan, 1, (some (.object "BeltArms$Plan")), am_rm 6, (0, 0))
abbrev mX7_in : am_M := (yX7_in, cX7_in, 3, (some .boolean), am_rm 0, (0, 0))
abbrev mX7_isTick : am_M := (yX7_isTick, cX7_isTick, 1, (some .boolean), am_rm 1, (0, 0))
abbrev mX7_isThing : am_M := (yX7_isThing, cX7_isThing, 2, (some .boolean), am_rm 1, (0, 0))
abbrev mX7_isArm : am_M := (yX7_isArm, cX7_isArm, 1, (some .boolean), am_rm 1, (0, 0))
abbrev mX7_size : am_M := (yX7_size, cX7_size, 1, (some .int), am_rm 0, (0, 0))
abbrev mX7_changes : am_M := (yX7_changes, cX7_changes, 3, (some .int), am_rm 0, (0, 0))
abbrev mX7_speedAt : am_M := (yX7_speedAt, cX7_speedAt, 3, (some .int), am_rm 0, (0, 0))
abbrev mX7_speed : am_M := (yX7_speed, cX7_speed, 4, (some .int), am_rm 2, (0, 0))
abbrev mX7_level : am_M := (yX7_level, cX7_level, 2, (some .int), am_rm 1, (0, 0))
abbrev mX7_layGone : am_M := (yX7_layGone, cX7_layGone, 2, none, am_rm 1, (0, 0))
abbrev mX7_gone : am_M := (yX7_gone, cX7_gone, 2, (some .int), am_rm 2, (0, 0))
abbrev mX7_placeOf : am_M := (yX7_placeOf, cX7_placeOf, 3, (some .int), am_rm 0, (0, 0))
abbrev mX7_wasSeen : am_M := (yX7_wasSeen, cX7_wasSeen, 3, (some .boolean), am_rm 0, (0, 0))
abbrev mX7_see : am_M := (yX7_see, cX7_see, 9, (some .int), am_rm 2, (0, 0))
abbrev mX7_drop : am_M := (yX7_drop, cX7_drop, 4, (some .int), am_rm 2, (0, 0))
abbrev mX7_place : am_M := (yX7_place, cX7_place, 3, (some .int), am_rm 2, (0, 0))
abbrev mX7_seenOf : am_M := (yX7_seenOf, cX7_seenOf, 4, (some .int), am_rm 1, (0, 0))
abbrev mX7_reach : am_M := (yX7_reach, cX7_reach, 5, (some .int), am_rm 2, (0, 0))
abbrev mX7_beat : am_M := (yX7_beat, cX7_beat, 4, (some .int), am_rm 2, (0, 0))
abbrev mX7_lanes : am_M := (yX7_lanes, cX7_lanes, 4, (some .int), am_rm 2, (0, 0))
abbrev mX7_canTake : am_M := (yX7_canTake, cX7_canTake, 7, (some .boolean), am_rm 1, (0, 0))
abbrev mX7_can : am_M := (yX7_can, cX7_can, 4, (some .int), am_rm 2, (0, 0))
abbrev mX7_layArms : am_M := (yX7_layArms, cX7_layArms, 6, none, am_rm 2, (0, 0))
abbrev mX7_slot : am_M := (yX7_slot, cX7_slot, 2, (some .int), am_rm 0, (0, 0))
abbrev mX7_find : am_M := (yX7_find, cX7_find, 8, (some .boolean), am_rm 1, (0, 0))
abbrev mX7_turn : am_M := (yX7_turn, cX7_turn, 7, none, am_rm 0, (0, 0))
abbrev mX7_most : am_M := (yX7_most, cX7_most, 4, (some .int), am_rm 2, (0, 0))
abbrev mX7_clear : am_M := (yX7_clear, cX7_clear, 2, none, am_rm 0, (0, 0))
abbrev mX7_layPlan : am_M := (yX7_layPlan, cX7_layPlan, 5, none, am_rm 3, (0, 0))
abbrev mX7_mostWithout : am_M := (yX7_mostWithout, cX7_mostWithout, 2, (some .int), am_rm 3, (0, 0))
abbrev mX7_layTrays : am_M := (yX7_layTrays, cX7_layTrays, 8, none, am_rm 0, (0, 0))
abbrev mX7_tray : am_M := (yX7_tray, cX7_tray, 3, (some .int), am_rm 4, (0, 0))
abbrev mX7_canAt : am_M := (yX7_canAt, cX7_canAt, 7, (some .int), am_rm 3, (0, 0))
abbrev mX7_planned : am_M := (yX7_planned, cX7_planned, 3, (some .int), am_rm 4, (0, 0))
abbrev mX7_thing : am_M := (yX7_thing, cX7_thing, 3, (some .int), am_rm 5, (0, 0))
abbrev mX7_takenBy : am_M := (yX7_takenBy, cX7_takenBy, 4, (some .int), am_rm 4, (0, 0))
abbrev mX7_arm : am_M := (yX7_arm, cX7_arm, 3, (some .int), am_rm 5, (0, 0))
abbrev mX7_takes : am_M := (yX7_takes, cX7_takes, 5, (some .int), am_rm 4, (0, 0))
abbrev mX7_inEach : am_M := (yX7_inEach, cX7_inEach, 4, (some .int), am_rm 4, (0, 0))
abbrev mX7_plan : am_M := (yX7_plan, cX7_plan, 5, (some .int), am_rm 5, (0, 0))
abbrev mX7_set : am_M := (yX7_set, cX7_set, 4, (some .int), am_rm 1, (0, 0))
abbrev mX7_image : am_M := (yX7_image, cX7_image, 3, (some .int), am_rm 1, (0, 0))
abbrev mX7_restore : am_M := (yX7_restore, cX7_restore, 3, (some .int), am_rm 1, (0, 0))
abbrev mX7_seenTwice : am_M := (yX7_seenTwice, cX7_seenTwice, 3, (some .int), am_rm 2, (0, 0))
abbrev mX7_ofKind : am_M := (yX7_ofKind, cX7_ofKind, 4, (some .int), am_rm 0, (0, 0))
abbrev mX7_count : am_M := (yX7_count, cX7_count, 2, (some .int), am_rm 3, (0, 0))
abbrev mJ13_bitCount_95d88 : am_M := (yJ13_bitCount_95d88, cJ13_bitCount_95d88, 2, (some .int), am_rm 0, (0, 0))
abbrev mJ9_floorMod_7cf53 : am_M := (yJ9_floorMod_7cf53, cJ9_floorMod_7cf53, 3, (some .int), am_rm 0, (0, 0))
abbrev mJ9_abs_0f7a4 : am_M := (yJ9_abs_0f7a4, cJ9_abs_0f7a4, 1, (some .int), am_rm 0, (0, 0))
abbrev mJ9_max_7cf53 : am_M := (yJ9_max_7cf53, cJ9_max_7cf53, 2, (some .int), am_rm 0, (0, 0))
abbrev mJ9_min_7cf53 : am_M := (yJ9_min_7cf53, cJ9_min_7cf53, 2, (some .int), am_rm 0, (0, 0))
abbrev mJ7_fill_53178 : am_M := (yJ7_fill_53178, cJ7_fill_53178, 4, none, am_rm 0, (0, 0))
def am_fitb (M y : am_M) : Bool := Nat.beq y.2.2.2.2.1.cells 0 && Nat.beq y.2.2.2.2.1.slots 0 && Nat.beq y.2.2.2.2.2.1 0 && Nat.beq y.2.2.2.2.2.2 0 && Nat.ble (y.2.2.2.2.1.frames + 1) M.2.2.2.2.1.frames && Nat.ble (8 + (y.2.2.1 + 11) + y.2.2.2.2.1.locals) M.2.2.2.2.1.locals && Nat.ble M.2.2.2.2.2.1 M.2.2.2.2.1.cells && Nat.ble M.2.2.2.2.2.2 M.2.2.2.2.1.slots
theorem am_fit_b {M y : am_M} (h : am_fitb M y = true) : am_fit M y := by
  simp only [am_fitb, Bool.and_eq_true] at h
  obtain ⟨⟨⟨⟨⟨⟨⟨h1, h2⟩, h3⟩, h4⟩, h5⟩, h6⟩, h7⟩, h8⟩ := h
  exact ⟨Nat.eq_of_beq_eq_true h1, Nat.eq_of_beq_eq_true h2, Prod.ext (Nat.eq_of_beq_eq_true h3) (Nat.eq_of_beq_eq_true h4), Nat.le_of_ble_eq_true h5, Nat.le_of_ble_eq_true h6, Nat.le_of_ble_eq_true h7, Nat.le_of_ble_eq_true h8⟩
theorem wtX0 : ∀ w ∈ u_ws RX0 TX0 5, w ∈ am_tb := by decide +kernel
theorem wtX1 : ∀ w ∈ u_ws RX1 TX1 5, w ∈ am_tb := by decide +kernel
theorem wtX2 : ∀ w ∈ u_ws RX2 TX2 11, w ∈ am_tb := by decide +kernel
theorem wtX3 : ∀ w ∈ u_ws RX3 TX3 5, w ∈ am_tb := by decide +kernel
theorem wtX4 : ∀ w ∈ u_ws RX4 TX4 6, w ∈ am_tb := by decide +kernel
theorem wtX5 : ∀ w ∈ u_ws RX5 TX5 2, w ∈ am_tb := by decide +kernel
theorem wtX6 : ∀ w ∈ u_ws RX6 TX6 7, w ∈ am_tb := by decide +kernel
theorem wtX7 : ∀ w ∈ u_ws RX7 TX7 16, w ∈ am_tb := by decide +kernel
theorem fX1_9 : am_fl RX1 9 1 0 := ⟨RX1, TX1, 5, rfl, by decide, wtX1, by decide +kernel, rfl⟩
theorem pX1_9 : am_fp RX1 9 1 0 .int := ⟨RX1, TX1, 5, tyX1, rfl, by decide, wtX1, by decide +kernel, rfl, tyX1_ok, nmX1, rfl, by decide +kernel⟩
theorem fX1_15 : am_fl RX1 15 1 1 := ⟨RX1, TX1, 5, rfl, by decide, wtX1, by decide +kernel, rfl⟩
theorem pX1_15 : am_fp RX1 15 1 1 .int := ⟨RX1, TX1, 5, tyX1, rfl, by decide, wtX1, by decide +kernel, rfl, tyX1_ok, nmX1, rfl, by decide +kernel⟩
theorem fX6_63 : am_fl RX6 63 1 1 := ⟨RX1, TX1, 5, rfl, by decide, wtX1, by decide +kernel, rfl⟩
theorem pX6_63 : am_fp RX6 63 1 1 .int := ⟨RX1, TX1, 5, tyX1, rfl, by decide, wtX1, by decide +kernel, rfl, tyX1_ok, nmX1, rfl, by decide +kernel⟩
theorem fX1_18 : am_fl RX1 18 1 2 := ⟨RX1, TX1, 5, rfl, by decide, wtX1, by decide +kernel, rfl⟩
theorem fX1_22 : am_fl RX1 22 1 3 := ⟨RX1, TX1, 5, rfl, by decide, wtX1, by decide +kernel, rfl⟩
theorem fX1_25 : am_fl RX1 25 1 4 := ⟨RX1, TX1, 5, rfl, by decide, wtX1, by decide +kernel, rfl⟩
theorem fX3_53 : am_fl RX3 53 1 4 := ⟨RX1, TX1, 5, rfl, by decide, wtX1, by decide +kernel, rfl⟩
theorem fX6_77 : am_fl RX6 77 1 4 := ⟨RX1, TX1, 5, rfl, by decide, wtX1, by decide +kernel, rfl⟩
theorem fX4_11 : am_fl RX4 11 4 0 := ⟨RX4, TX4, 6, rfl, by decide, wtX4, by decide +kernel, rfl⟩
theorem pX4_11 : am_fp RX4 11 4 0 .int := ⟨RX4, TX4, 6, tyX4, rfl, by decide, wtX4, by decide +kernel, rfl, tyX4_ok, nmX4, rfl, by decide +kernel⟩
theorem fX2_52 : am_fl RX2 52 4 0 := ⟨RX4, TX4, 6, rfl, by decide, wtX4, by decide +kernel, rfl⟩
theorem pX2_52 : am_fp RX2 52 4 0 .int := ⟨RX4, TX4, 6, tyX4, rfl, by decide, wtX4, by decide +kernel, rfl, tyX4_ok, nmX4, rfl, by decide +kernel⟩
theorem fX3_59 : am_fl RX3 59 4 0 := ⟨RX4, TX4, 6, rfl, by decide, wtX4, by decide +kernel, rfl⟩
theorem pX3_59 : am_fp RX3 59 4 0 .int := ⟨RX4, TX4, 6, tyX4, rfl, by decide, wtX4, by decide +kernel, rfl, tyX4_ok, nmX4, rfl, by decide +kernel⟩
theorem fX6_94 : am_fl RX6 94 4 0 := ⟨RX4, TX4, 6, rfl, by decide, wtX4, by decide +kernel, rfl⟩
theorem pX6_94 : am_fp RX6 94 4 0 .int := ⟨RX4, TX4, 6, tyX4, rfl, by decide, wtX4, by decide +kernel, rfl, tyX4_ok, nmX4, rfl, by decide +kernel⟩
theorem fX4_15 : am_fl RX4 15 4 1 := ⟨RX4, TX4, 6, rfl, by decide, wtX4, by decide +kernel, rfl⟩
theorem fX3_56 : am_fl RX3 56 4 1 := ⟨RX4, TX4, 6, rfl, by decide, wtX4, by decide +kernel, rfl⟩
theorem fX6_107 : am_fl RX6 107 4 1 := ⟨RX4, TX4, 6, rfl, by decide, wtX4, by decide +kernel, rfl⟩
theorem fX4_19 : am_fl RX4 19 4 2 := ⟨RX4, TX4, 6, rfl, by decide, wtX4, by decide +kernel, rfl⟩
theorem fX3_62 : am_fl RX3 62 4 2 := ⟨RX4, TX4, 6, rfl, by decide, wtX4, by decide +kernel, rfl⟩
theorem fX6_110 : am_fl RX6 110 4 2 := ⟨RX4, TX4, 6, rfl, by decide, wtX4, by decide +kernel, rfl⟩
theorem fX4_22 : am_fl RX4 22 4 3 := ⟨RX4, TX4, 6, rfl, by decide, wtX4, by decide +kernel, rfl⟩
theorem fX3_49 : am_fl RX3 49 4 3 := ⟨RX4, TX4, 6, rfl, by decide, wtX4, by decide +kernel, rfl⟩
theorem fX6_113 : am_fl RX6 113 4 3 := ⟨RX4, TX4, 6, rfl, by decide, wtX4, by decide +kernel, rfl⟩
theorem fX4_25 : am_fl RX4 25 4 4 := ⟨RX4, TX4, 6, rfl, by decide, wtX4, by decide +kernel, rfl⟩
theorem fX5_36 : am_fl RX5 36 4 4 := ⟨RX4, TX4, 6, rfl, by decide, wtX4, by decide +kernel, rfl⟩
theorem fX3_65 : am_fl RX3 65 4 4 := ⟨RX4, TX4, 6, rfl, by decide, wtX4, by decide +kernel, rfl⟩
theorem fX6_116 : am_fl RX6 116 4 4 := ⟨RX4, TX4, 6, rfl, by decide, wtX4, by decide +kernel, rfl⟩
theorem fX4_28 : am_fl RX4 28 4 5 := ⟨RX4, TX4, 6, rfl, by decide, wtX4, by decide +kernel, rfl⟩
theorem fX0_9 : am_fl RX0 9 0 0 := ⟨RX0, TX0, 5, rfl, by decide, wtX0, by decide +kernel, rfl⟩
theorem fX2_82 : am_fl RX2 82 0 0 := ⟨RX0, TX0, 5, rfl, by decide, wtX0, by decide +kernel, rfl⟩
theorem fX3_91 : am_fl RX3 91 0 0 := ⟨RX0, TX0, 5, rfl, by decide, wtX0, by decide +kernel, rfl⟩
theorem fX6_160 : am_fl RX6 160 0 0 := ⟨RX0, TX0, 5, rfl, by decide, wtX0, by decide +kernel, rfl⟩
theorem fX0_15 : am_fl RX0 15 0 1 := ⟨RX0, TX0, 5, rfl, by decide, wtX0, by decide +kernel, rfl⟩
theorem fX3_103 : am_fl RX3 103 0 1 := ⟨RX0, TX0, 5, rfl, by decide, wtX0, by decide +kernel, rfl⟩
theorem fX6_163 : am_fl RX6 163 0 1 := ⟨RX0, TX0, 5, rfl, by decide, wtX0, by decide +kernel, rfl⟩
theorem fX0_18 : am_fl RX0 18 0 2 := ⟨RX0, TX0, 5, rfl, by decide, wtX0, by decide +kernel, rfl⟩
theorem fX3_118 : am_fl RX3 118 0 2 := ⟨RX0, TX0, 5, rfl, by decide, wtX0, by decide +kernel, rfl⟩
theorem fX6_166 : am_fl RX6 166 0 2 := ⟨RX0, TX0, 5, rfl, by decide, wtX0, by decide +kernel, rfl⟩
theorem fX0_21 : am_fl RX0 21 0 3 := ⟨RX0, TX0, 5, rfl, by decide, wtX0, by decide +kernel, rfl⟩
theorem fX6_169 : am_fl RX6 169 0 3 := ⟨RX0, TX0, 5, rfl, by decide, wtX0, by decide +kernel, rfl⟩
theorem fX0_24 : am_fl RX0 24 0 4 := ⟨RX0, TX0, 5, rfl, by decide, wtX0, by decide +kernel, rfl⟩
theorem fX6_172 : am_fl RX6 172 0 4 := ⟨RX0, TX0, 5, rfl, by decide, wtX0, by decide +kernel, rfl⟩
theorem fX3_12 : am_fl RX3 12 3 0 := ⟨RX3, TX3, 5, rfl, by decide, wtX3, by decide +kernel, rfl⟩
theorem fX6_53 : am_fl RX6 53 3 0 := ⟨RX3, TX3, 5, rfl, by decide, wtX3, by decide +kernel, rfl⟩
theorem fX3_21 : am_fl RX3 21 3 1 := ⟨RX3, TX3, 5, rfl, by decide, wtX3, by decide +kernel, rfl⟩
theorem fX2_46 : am_fl RX2 46 3 1 := ⟨RX3, TX3, 5, rfl, by decide, wtX3, by decide +kernel, rfl⟩
theorem fX5_30 : am_fl RX5 30 3 1 := ⟨RX3, TX3, 5, rfl, by decide, wtX3, by decide +kernel, rfl⟩
theorem fX6_81 : am_fl RX6 81 3 1 := ⟨RX3, TX3, 5, rfl, by decide, wtX3, by decide +kernel, rfl⟩
theorem fX3_28 : am_fl RX3 28 3 2 := ⟨RX3, TX3, 5, rfl, by decide, wtX3, by decide +kernel, rfl⟩
theorem fX2_69 : am_fl RX2 69 3 2 := ⟨RX3, TX3, 5, rfl, by decide, wtX3, by decide +kernel, rfl⟩
theorem fX6_151 : am_fl RX6 151 3 2 := ⟨RX3, TX3, 5, rfl, by decide, wtX3, by decide +kernel, rfl⟩
theorem fX3_32 : am_fl RX3 32 3 3 := ⟨RX3, TX3, 5, rfl, by decide, wtX3, by decide +kernel, rfl⟩
theorem pX3_32 : am_fp RX3 32 3 3 .int := ⟨RX3, TX3, 5, tyX3, rfl, by decide, wtX3, by decide +kernel, rfl, tyX3_ok, nmX3, rfl, by decide +kernel⟩
theorem fX6_207 : am_fl RX6 207 3 3 := ⟨RX3, TX3, 5, rfl, by decide, wtX3, by decide +kernel, rfl⟩
theorem pX6_207 : am_fp RX6 207 3 3 .int := ⟨RX3, TX3, 5, tyX3, rfl, by decide, wtX3, by decide +kernel, rfl, tyX3_ok, nmX3, rfl, by decide +kernel⟩
theorem fX3_36 : am_fl RX3 36 3 4 := ⟨RX3, TX3, 5, rfl, by decide, wtX3, by decide +kernel, rfl⟩
theorem pX3_36 : am_fp RX3 36 3 4 .int := ⟨RX3, TX3, 5, tyX3, rfl, by decide, wtX3, by decide +kernel, rfl, tyX3_ok, nmX3, rfl, by decide +kernel⟩
theorem fX5_41 : am_fl RX5 41 3 4 := ⟨RX3, TX3, 5, rfl, by decide, wtX3, by decide +kernel, rfl⟩
theorem pX5_41 : am_fp RX5 41 3 4 .int := ⟨RX3, TX3, 5, tyX3, rfl, by decide, wtX3, by decide +kernel, rfl, tyX3_ok, nmX3, rfl, by decide +kernel⟩
theorem fX6_201 : am_fl RX6 201 3 4 := ⟨RX3, TX3, 5, rfl, by decide, wtX3, by decide +kernel, rfl⟩
theorem pX6_201 : am_fp RX6 201 3 4 .int := ⟨RX3, TX3, 5, tyX3, rfl, by decide, wtX3, by decide +kernel, rfl, tyX3_ok, nmX3, rfl, by decide +kernel⟩
theorem fX2_9 : am_fl RX2 9 2 0 := ⟨RX2, TX2, 11, rfl, by decide, wtX2, by decide +kernel, rfl⟩
theorem pX2_9 : am_fp RX2 9 2 0 .int := ⟨RX2, TX2, 11, tyX2, rfl, by decide, wtX2, by decide +kernel, rfl, tyX2_ok, nmX2, rfl, by decide +kernel⟩
theorem fX2_15 : am_fl RX2 15 2 1 := ⟨RX2, TX2, 11, rfl, by decide, wtX2, by decide +kernel, rfl⟩
theorem pX2_15 : am_fp RX2 15 2 1 .int := ⟨RX2, TX2, 11, tyX2, rfl, by decide, wtX2, by decide +kernel, rfl, tyX2_ok, nmX2, rfl, by decide +kernel⟩
theorem fX6_182 : am_fl RX6 182 2 1 := ⟨RX2, TX2, 11, rfl, by decide, wtX2, by decide +kernel, rfl⟩
theorem pX6_182 : am_fp RX6 182 2 1 .int := ⟨RX2, TX2, 11, tyX2, rfl, by decide, wtX2, by decide +kernel, rfl, tyX2_ok, nmX2, rfl, by decide +kernel⟩
theorem fX2_18 : am_fl RX2 18 2 2 := ⟨RX2, TX2, 11, rfl, by decide, wtX2, by decide +kernel, rfl⟩
theorem fX2_22 : am_fl RX2 22 2 3 := ⟨RX2, TX2, 11, rfl, by decide, wtX2, by decide +kernel, rfl⟩
theorem fX2_25 : am_fl RX2 25 2 4 := ⟨RX2, TX2, 11, rfl, by decide, wtX2, by decide +kernel, rfl⟩
theorem fX5_49 : am_fn RX5 49 2 4 := ⟨RX2, TX2, 11, "BeltArms", rfl, by decide, wtX2, fun U h => h.1, rfl⟩
theorem fX2_28 : am_fl RX2 28 2 5 := ⟨RX2, TX2, 11, rfl, by decide, wtX2, by decide +kernel, rfl⟩
theorem fX2_31 : am_fl RX2 31 2 6 := ⟨RX2, TX2, 11, rfl, by decide, wtX2, by decide +kernel, rfl⟩
theorem fX2_34 : am_fl RX2 34 2 7 := ⟨RX2, TX2, 11, rfl, by decide, wtX2, by decide +kernel, rfl⟩
theorem fX2_37 : am_fl RX2 37 2 8 := ⟨RX2, TX2, 11, rfl, by decide, wtX2, by decide +kernel, rfl⟩
theorem pX2_37 : am_fp RX2 37 2 8 .int := ⟨RX2, TX2, 11, tyX2, rfl, by decide, wtX2, by decide +kernel, rfl, tyX2_ok, nmX2, rfl, by decide +kernel⟩
theorem fX2_40 : am_fl RX2 40 2 9 := ⟨RX2, TX2, 11, rfl, by decide, wtX2, by decide +kernel, rfl⟩
theorem pX2_40 : am_fp RX2 40 2 9 .int := ⟨RX2, TX2, 11, tyX2, rfl, by decide, wtX2, by decide +kernel, rfl, tyX2_ok, nmX2, rfl, by decide +kernel⟩
theorem fX2_43 : am_fl RX2 43 2 10 := ⟨RX2, TX2, 11, rfl, by decide, wtX2, by decide +kernel, rfl⟩
theorem pX2_43 : am_fp RX2 43 2 10 .int := ⟨RX2, TX2, 11, tyX2, rfl, by decide, wtX2, by decide +kernel, rfl, tyX2_ok, nmX2, rfl, by decide +kernel⟩
theorem fX5_9 : am_fl RX5 9 5 0 := ⟨RX5, TX5, 2, rfl, by decide, wtX5, by decide +kernel, rfl⟩
theorem fX6_132 : am_fl RX6 132 5 0 := ⟨RX5, TX5, 2, rfl, by decide, wtX5, by decide +kernel, rfl⟩
theorem fX5_15 : am_fl RX5 15 5 1 := ⟨RX5, TX5, 2, rfl, by decide, wtX5, by decide +kernel, rfl⟩
theorem fX6_204 : am_fl RX6 204 5 1 := ⟨RX5, TX5, 2, rfl, by decide, wtX5, by decide +kernel, rfl⟩
theorem fX6_12 : am_fl RX6 12 6 0 := ⟨RX6, TX6, 7, rfl, by decide, wtX6, by decide +kernel, rfl⟩
theorem fX6_16 : am_fl RX6 16 6 1 := ⟨RX6, TX6, 7, rfl, by decide, wtX6, by decide +kernel, rfl⟩
theorem fX6_20 : am_fl RX6 20 6 2 := ⟨RX6, TX6, 7, rfl, by decide, wtX6, by decide +kernel, rfl⟩
theorem pX6_20 : am_fp RX6 20 6 2 .int := ⟨RX6, TX6, 7, tyX6, rfl, by decide, wtX6, by decide +kernel, rfl, tyX6_ok, nmX6, rfl, by decide +kernel⟩
theorem fX6_27 : am_fl RX6 27 6 3 := ⟨RX6, TX6, 7, rfl, by decide, wtX6, by decide +kernel, rfl⟩
theorem fX6_31 : am_fl RX6 31 6 4 := ⟨RX6, TX6, 7, rfl, by decide, wtX6, by decide +kernel, rfl⟩
theorem fX6_37 : am_fl RX6 37 6 5 := ⟨RX6, TX6, 7, rfl, by decide, wtX6, by decide +kernel, rfl⟩
theorem fX6_41 : am_fl RX6 41 6 6 := ⟨RX6, TX6, 7, rfl, by decide, wtX6, by decide +kernel, rfl⟩
theorem pX6_41 : am_fp RX6 41 6 6 .boolean := ⟨RX6, TX6, 7, tyX6, rfl, by decide, wtX6, by decide +kernel, rfl, tyX6_ok, nmX6, rfl, by decide +kernel⟩
theorem fX7_7 : am_fl RX7 7 7 0 := ⟨RX7, TX7, 16, rfl, by decide, wtX7, by decide +kernel, rfl⟩
theorem fX7_13 : am_fl RX7 13 7 1 := ⟨RX7, TX7, 16, rfl, by decide, wtX7, by decide +kernel, rfl⟩
theorem fX7_16 : am_fl RX7 16 7 2 := ⟨RX7, TX7, 16, rfl, by decide, wtX7, by decide +kernel, rfl⟩
theorem fX7_20 : am_fl RX7 20 7 3 := ⟨RX7, TX7, 16, rfl, by decide, wtX7, by decide +kernel, rfl⟩
theorem fX7_23 : am_fl RX7 23 7 4 := ⟨RX7, TX7, 16, rfl, by decide, wtX7, by decide +kernel, rfl⟩
theorem fX7_26 : am_fl RX7 26 7 5 := ⟨RX7, TX7, 16, rfl, by decide, wtX7, by decide +kernel, rfl⟩
theorem fX7_29 : am_fl RX7 29 7 6 := ⟨RX7, TX7, 16, rfl, by decide, wtX7, by decide +kernel, rfl⟩
theorem fX7_32 : am_fl RX7 32 7 7 := ⟨RX7, TX7, 16, rfl, by decide, wtX7, by decide +kernel, rfl⟩
theorem fX7_35 : am_fl RX7 35 7 8 := ⟨RX7, TX7, 16, rfl, by decide, wtX7, by decide +kernel, rfl⟩
theorem fX7_38 : am_fl RX7 38 7 9 := ⟨RX7, TX7, 16, rfl, by decide, wtX7, by decide +kernel, rfl⟩
theorem fX7_41 : am_fl RX7 41 7 10 := ⟨RX7, TX7, 16, rfl, by decide, wtX7, by decide +kernel, rfl⟩
theorem fX7_44 : am_fl RX7 44 7 11 := ⟨RX7, TX7, 16, rfl, by decide, wtX7, by decide +kernel, rfl⟩
theorem fX7_47 : am_fl RX7 47 7 12 := ⟨RX7, TX7, 16, rfl, by decide, wtX7, by decide +kernel, rfl⟩
theorem fX7_115 : am_fl RX7 115 7 13 := ⟨RX7, TX7, 16, rfl, by decide, wtX7, by decide +kernel, rfl⟩
theorem pX7_115 : am_fp RX7 115 7 13 .int := ⟨RX7, TX7, 16, tyX7, rfl, by decide, wtX7, by decide +kernel, rfl, tyX7_ok, nmX7, rfl, by decide +kernel⟩
theorem fX7_50 : am_fl RX7 50 7 14 := ⟨RX7, TX7, 16, rfl, by decide, wtX7, by decide +kernel, rfl⟩
theorem fX7_53 : am_fl RX7 53 7 15 := ⟨RX7, TX7, 16, rfl, by decide, wtX7, by decide +kernel, rfl⟩
theorem kX1_28 : am_lv' RX1 28 mX1_addUp 0 := by unfold am_lv' am_lk; decide +kernel
theorem kL_13 : am_lv' RL 13 mX6_speed 2 := by unfold am_lv' am_lk; decide +kernel
theorem kX6_45 : am_ls RX6 45 mX6_isTick 1 := by unfold am_ls am_lk; decide +kernel
theorem kX6_49 : am_ls RX6 49 mX6_isWithin 3 := by unfold am_ls am_lk; decide +kernel
theorem kX6_57 : am_lv' RX6 57 mX1_changeAt 1 := by unfold am_lv' am_lk; decide +kernel
theorem kX1_37 : am_lv' RX1 37 mX1_begunBy 1 := by unfold am_lv' am_lk; decide +kernel
theorem kX6_66 : am_lv' RX6 66 mX1_speedAt 1 := by unfold am_lv' am_lk; decide +kernel
theorem kX6_69 : am_lv' RX6 69 mX1_tell 2 := by unfold am_lv' am_lk; decide +kernel
theorem kX1_41 : am_lv' RX1 41 mX1_changeAt 1 := by unfold am_lv' am_lk; decide +kernel
theorem kX1_44 : am_lv' RX1 44 mX1_insert 3 := by unfold am_lv' am_lk; decide +kernel
theorem kL_18 : am_lv' RL 18 mX6_level 1 := by unfold am_lv' am_lk; decide +kernel
theorem kX6_73 : am_lv' RX6 73 mX1_forget 1 := by unfold am_lv' am_lk; decide +kernel
theorem kL_23 : am_lv' RL 23 mX6_gone 1 := by unfold am_lv' am_lk; decide +kernel
theorem kL_27 : am_lv' RL 27 mX6_see 4 := by unfold am_lv' am_lk; decide +kernel
theorem kX6_85 : am_lv' RX6 85 mX3_nearest 4 := by unfold am_lv' am_lk; decide +kernel
theorem kX3_68 : am_lv' RX3 68 mX4_wasSeen 2 := by unfold am_lv' am_lk; decide +kernel
theorem kX3_72 : am_lv' RX3 72 mX3_placeAt 2 := by unfold am_lv' am_lk; decide +kernel
theorem kX3_76 : am_ls RX3 76 mJ9_abs_0f7a4 1 := by unfold am_ls am_lk; decide +kernel
theorem kX6_89 : am_lv' RX6 89 mX4_markSeen 2 := by unfold am_lv' am_lk; decide +kernel
theorem kX6_97 : am_lv' RX6 97 mX4_append 4 := by unfold am_lv' am_lk; decide +kernel
theorem kX4_38 : am_lv' RX4 38 mX4_markSeen 2 := by unfold am_lv' am_lk; decide +kernel
theorem kL_32 : am_lv' RL 32 mX6_drop 1 := by unfold am_lv' am_lk; decide +kernel
theorem kX6_101 : am_lv' RX6 101 mX6_isThing 1 := by unfold am_lv' am_lk; decide +kernel
theorem kX6_104 : am_lv' RX6 104 mX4_remove 1 := by unfold am_lv' am_lk; decide +kernel
theorem kX4_32 : Cond.methodLink RX4 32 arraycopyName ∈ am_tb ∧ Cond.native arraycopyName ∈ am_tb ∧ Cond.static arraycopyName ∈ am_tb ∧ Cond.initialized "java/lang/System" ∈ am_tb := by decide +kernel
theorem kL_36 : am_lv' RL 36 mX6_thing 2 := by unfold am_lv' am_lk; decide +kernel
theorem kX6_119 : am_lv' RX6 119 mX4_timesSeen 1 := by unfold am_lv' am_lk; decide +kernel
theorem kX4_42 : am_ls RX4 42 mJ13_bitCount_95d88 1 := by unfold am_ls am_lk; decide +kernel
theorem kX6_122 : am_lv' RX6 122 mX6_freshPlan 0 := by unfold am_lv' am_lk; decide +kernel
theorem kX6_178 : am_lv' RX6 178 mX2_takeMost 2 := by unfold am_lv' am_lk; decide +kernel
theorem kX2_55 : am_ls RX2 55 mJ7_fill_53178 2 := by unfold am_ls am_lk; decide +kernel
theorem kX2_61 : am_lv' RX2 61 mX2_listSlots 3 := by unfold am_lv' am_lk; decide +kernel
theorem kX2_73 : am_lv' RX2 73 mX0_nextAlong 1 := by unfold am_lv' am_lk; decide +kernel
theorem kX2_79 : am_lv' RX2 79 mX2_listSlotsOf 3 := by unfold am_lv' am_lk; decide +kernel
theorem kX2_85 : am_lv' RX2 85 mX3_lastChanceOf 2 := by unfold am_lv' am_lk; decide +kernel
theorem kX3_85 : am_lv' RX3 85 mX0_hasLane 2 := by unfold am_lv' am_lk; decide +kernel
theorem kX3_94 : am_lv' RX3 94 mX1_firstTickGone 1 := by unfold am_lv' am_lk; decide +kernel
theorem kX3_106 : am_lv' RX3 106 mX0_beatTill 2 := by unfold am_lv' am_lk; decide +kernel
theorem kX0_41 : am_ls RX0 41 mJ9_max_7cf53 2 := by unfold am_ls am_lk; decide +kernel
theorem kX0_46 : am_ls RX0 46 mJ9_floorMod_7cf53 2 := by unfold am_ls am_lk; decide +kernel
theorem kX2_89 : am_lv' RX2 89 mX3_firstChanceOf 2 := by unfold am_lv' am_lk; decide +kernel
theorem kX3_97 : am_ls RX3 97 mJ9_max_7cf53 2 := by unfold am_ls am_lk; decide +kernel
theorem kX3_100 : am_lv' RX3 100 mX0_beatFrom 2 := by unfold am_lv' am_lk; decide +kernel
theorem kX2_92 : am_lv' RX2 92 mX0_beatFrom 2 := by unfold am_lv' am_lk; decide +kernel
theorem kX2_65 : am_lv' RX2 65 mX2_takeOneMore 1 := by unfold am_lv' am_lk; decide +kernel
theorem kX2_107 : am_lv' RX2 107 mX2_enqueue 2 := by unfold am_lv' am_lk; decide +kernel
theorem kX2_110 : am_lv' RX2 110 mX2_freeSlot 2 := by unfold am_lv' am_lk; decide +kernel
theorem kX2_113 : am_lv' RX2 113 mX2_moveUp 2 := by unfold am_lv' am_lk; decide +kernel
theorem kX2_103 : am_lv' RX2 103 mX2_hold 2 := by unfold am_lv' am_lk; decide +kernel
theorem kX6_220 : am_lv' RX6 220 mX2_settle 0 := by unfold am_lv' am_lk; decide +kernel
theorem kX2_95 : am_lv' RX2 95 mX2_settleAt 2 := by unfold am_lv' am_lk; decide +kernel
theorem kX2_99 : am_lv' RX2 99 mX2_leave 1 := by unfold am_lv' am_lk; decide +kernel
theorem kX6_223 : am_lv' RX6 223 mX5_lay 2 := by unfold am_lv' am_lk; decide +kernel
theorem kX5_18 : am_ls RX5 18 mJ7_fill_53178 2 := by unfold am_ls am_lk; decide +kernel
theorem kX5_24 : am_lv' RX5 24 mX2_nextTaken 1 := by unfold am_lv' am_lk; decide +kernel
theorem kX5_45 : am_lv' RX5 45 mX5_emptiest 2 := by unfold am_lv' am_lk; decide +kernel
theorem kX6_126 : am_lv' RX6 126 mX2_tickOf 1 := by unfold am_lv' am_lk; decide +kernel
theorem kX6_129 : am_lv' RX6 129 mX2_armOf 1 := by unfold am_lv' am_lk; decide +kernel
theorem kX6_135 : am_lv' RX6 135 mX3_firstChance 1 := by unfold am_lv' am_lk; decide +kernel
theorem kX3_109 : am_lv' RX3 109 mX3_firstChanceOf 2 := by unfold am_lv' am_lk; decide +kernel
theorem kX3_112 : am_lv' RX3 112 mX3_lastChanceOf 2 := by unfold am_lv' am_lk; decide +kernel
theorem kX3_115 : am_ls RX3 115 mJ9_min_7cf53 2 := by unfold am_ls am_lk; decide +kernel
theorem kX6_138 : am_lv' RX6 138 mX3_lastChance 1 := by unfold am_lv' am_lk; decide +kernel
theorem kX6_141 : am_lv' RX6 141 mX3_chances 1 := by unfold am_lv' am_lk; decide +kernel
theorem kL_40 : am_lv' RL 40 mX6_place 2 := by unfold am_lv' am_lk; decide +kernel
theorem kX6_144 : am_lv' RX6 144 mX3_placeAt 2 := by unfold am_lv' am_lk; decide +kernel
theorem kL_44 : am_lv' RL 44 mX6_reach 3 := by unfold am_lv' am_lk; decide +kernel
theorem kX6_148 : am_ls RX6 148 mX6_isArm 1 := by unfold am_ls am_lk; decide +kernel
theorem kX6_155 : am_lv' RX6 155 mX0_othersReach 3 := by unfold am_lv' am_lk; decide +kernel
theorem kL_49 : am_lv' RL 49 mX6_beat 3 := by unfold am_lv' am_lk; decide +kernel
theorem kL_53 : am_lv' RL 53 mX6_lanes 2 := by unfold am_lv' am_lk; decide +kernel
theorem kL_57 : am_lv' RL 57 mX6_arm 2 := by unfold am_lv' am_lk; decide +kernel
theorem kX6_175 : am_lv' RX6 175 mX2_takenBy 1 := by unfold am_lv' am_lk; decide +kernel
theorem kX2_116 : am_lv' RX2 116 mX2_armOf 1 := by unfold am_lv' am_lk; decide +kernel
theorem kL_61 : am_lv' RL 61 mX6_can 3 := by unfold am_lv' am_lk; decide +kernel
theorem kX6_185 : am_lv' RX6 185 mX3_canTake 3 := by unfold am_lv' am_lk; decide +kernel
theorem kX3_82 : am_lv' RX3 82 mX0_hasBeatAt 2 := by unfold am_lv' am_lk; decide +kernel
theorem kX0_37 : am_lv' RX0 37 mX0_beatFrom 2 := by unfold am_lv' am_lk; decide +kernel
theorem kX3_88 : am_lv' RX3 88 mX0_reaches 2 := by unfold am_lv' am_lk; decide +kernel
theorem kX0_33 : Cond.code mX6_isWithin.1 mX6_isWithin.2.1 mX6_isWithin.2.2.1 mX6_isWithin.2.2.2.1 ∈ am_tb ∧ Cond.initialized mX6_isWithin.1.cls ∈ am_tb ∧ (mX6_isWithin.1.cls ≠ "java/lang/invoke/MethodHandle" ∧ mX6_isWithin.1.cls ≠ "java/lang/invoke/VarHandle") ∧ (parseMethodDescriptor mX6_isWithin.1.desc).map (fun d => d.parameters.length) = some 3 ∧ Cond.static mX6_isWithin.1 ∈ am_tb := by decide +kernel
theorem kL_65 : am_lv' RL 65 mX6_takes 2 := by unfold am_lv' am_lk; decide +kernel
theorem kX6_188 : am_lv' RX6 188 mX2_takenAt 2 := by unfold am_lv' am_lk; decide +kernel
theorem kL_69 : am_lv' RL 69 mX6_plan 1 := by unfold am_lv' am_lk; decide +kernel
theorem kX6_191 : am_lv' RX6 191 mX2_lastTick 0 := by unfold am_lv' am_lk; decide +kernel
theorem kX2_119 : am_lv' RX2 119 mX2_tickOf 1 := by unfold am_lv' am_lk; decide +kernel
theorem kX2_122 : am_ls RX2 122 mJ9_max_7cf53 2 := by unfold am_ls am_lk; decide +kernel
theorem kX6_195 : am_lv' RX6 195 mX2_missedSet 0 := by unfold am_lv' am_lk; decide +kernel
theorem kX6_198 : am_lv' RX6 198 mX2_neededSet 0 := by unfold am_lv' am_lk; decide +kernel
theorem kL_73 : am_lv' RL 73 mX6_tray 2 := by unfold am_lv' am_lk; decide +kernel
theorem kL_77 : am_lv' RL 77 mX6_set 2 := by unfold am_lv' am_lk; decide +kernel
theorem kL_81 : am_lv' RL 81 mX6_image 1 := by unfold am_lv' am_lk; decide +kernel
theorem kX6_210 : am_lv' RX6 210 mX3_copyFrom 1 := by unfold am_lv' am_lk; decide +kernel
theorem kX3_39 : am_lv' RX3 39 mX1_copyFrom 1 := by unfold am_lv' am_lk; decide +kernel
theorem kX1_31 : Cond.methodLink RX1 31 arraycopyName ∈ am_tb ∧ Cond.native arraycopyName ∈ am_tb ∧ Cond.static arraycopyName ∈ am_tb ∧ Cond.initialized "java/lang/System" ∈ am_tb := by decide +kernel
theorem kX3_43 : am_lv' RX3 43 mX4_copyFrom 1 := by unfold am_lv' am_lk; decide +kernel
theorem kX3_46 : am_lv' RX3 46 mX0_copyFrom 1 := by unfold am_lv' am_lk; decide +kernel
theorem kX0_27 : Cond.methodLink RX0 27 arraycopyName ∈ am_tb ∧ Cond.native arraycopyName ∈ am_tb ∧ Cond.static arraycopyName ∈ am_tb ∧ Cond.initialized "java/lang/System" ∈ am_tb := by decide +kernel
theorem kL_85 : am_lv' RL 85 mX6_restore 1 := by unfold am_lv' am_lk; decide +kernel
theorem kL_89 : am_lv' RL 89 mX6_count 1 := by unfold am_lv' am_lk; decide +kernel
theorem kX6_214 : am_lv' RX6 214 mX4_seenOften 0 := by unfold am_lv' am_lk; decide +kernel
theorem kX4_48 : am_lv' RX4 48 mX4_timesSeen 1 := by unfold am_lv' am_lk; decide +kernel
theorem kX6_217 : am_lv' RX6 217 mX4_ofKind 1 := by unfold am_lv' am_lk; decide +kernel
theorem kL_17 : am_lv' RL 17 mX7_speed 2 := by unfold am_lv' am_lk; decide +kernel
theorem kX7_60 : am_ls RX7 60 mX7_isTick 1 := by unfold am_ls am_lk; decide +kernel
theorem kX7_56 : am_ls RX7 56 mX7_in 3 := by unfold am_ls am_lk; decide +kernel
theorem kX7_64 : am_lv' RX7 64 mX7_changes 0 := by unfold am_lv' am_lk; decide +kernel
theorem kX7_68 : am_lv' RX7 68 mX7_speedAt 1 := by unfold am_lv' am_lk; decide +kernel
theorem kL_22 : am_lv' RL 22 mX7_level 1 := by unfold am_lv' am_lk; decide +kernel
theorem kL_26 : am_lv' RL 26 mX7_gone 1 := by unfold am_lv' am_lk; decide +kernel
theorem kX7_72 : am_lv' RX7 72 mX7_layGone 0 := by unfold am_lv' am_lk; decide +kernel
theorem kL_31 : am_lv' RL 31 mX7_see 4 := by unfold am_lv' am_lk; decide +kernel
theorem kX7_75 : am_lv' RX7 75 mX7_placeOf 2 := by unfold am_lv' am_lk; decide +kernel
theorem kX7_79 : am_ls RX7 79 mX7_size 1 := by unfold am_ls am_lk; decide +kernel
theorem kX7_82 : am_lv' RX7 82 mX7_wasSeen 2 := by unfold am_lv' am_lk; decide +kernel
theorem kL_35 : am_lv' RL 35 mX7_drop 1 := by unfold am_lv' am_lk; decide +kernel
theorem kX7_86 : am_lv' RX7 86 mX7_isThing 1 := by unfold am_lv' am_lk; decide +kernel
theorem kL_43 : am_lv' RL 43 mX7_place 2 := by unfold am_lv' am_lk; decide +kernel
theorem kL_48 : am_lv' RL 48 mX7_reach 3 := by unfold am_lv' am_lk; decide +kernel
theorem kX7_89 : am_ls RX7 89 mX7_isArm 1 := by unfold am_ls am_lk; decide +kernel
theorem kL_52 : am_lv' RL 52 mX7_beat 3 := by unfold am_lv' am_lk; decide +kernel
theorem kL_56 : am_lv' RL 56 mX7_lanes 2 := by unfold am_lv' am_lk; decide +kernel
theorem kL_64 : am_lv' RL 64 mX7_can 3 := by unfold am_lv' am_lk; decide +kernel
theorem kX7_92 : am_lv' RX7 92 mX7_canTake 3 := by unfold am_lv' am_lk; decide +kernel
theorem kL_76 : am_lv' RL 76 mX7_tray 2 := by unfold am_lv' am_lk; decide +kernel
theorem kX7_119 : am_lv' RX7 119 mX7_layPlan 0 := by unfold am_lv' am_lk; decide +kernel
theorem kX7_105 : am_lv' RX7 105 mX7_layArms 1 := by unfold am_lv' am_lk; decide +kernel
theorem kX7_109 : am_lv' RX7 109 mX7_clear 0 := by unfold am_lv' am_lk; decide +kernel
theorem kX7_112 : am_lv' RX7 112 mX7_most 1 := by unfold am_lv' am_lk; decide +kernel
theorem kX7_102 : am_lv' RX7 102 mX7_find 1 := by unfold am_lv' am_lk; decide +kernel
theorem kX7_95 : am_ls RX7 95 mX7_slot 2 := by unfold am_ls am_lk; decide +kernel
theorem kX7_98 : am_lv' RX7 98 mX7_turn 2 := by unfold am_lv' am_lk; decide +kernel
theorem kX7_122 : am_lv' RX7 122 mX7_layTrays 0 := by unfold am_lv' am_lk; decide +kernel
theorem kL_39 : am_lv' RL 39 mX7_thing 2 := by unfold am_lv' am_lk; decide +kernel
theorem kX7_125 : am_lv' RX7 125 mX7_seenOf 1 := by unfold am_lv' am_lk; decide +kernel
theorem kX7_128 : am_lv' RX7 128 mX7_planned 2 := by unfold am_lv' am_lk; decide +kernel
theorem kX7_131 : am_lv' RX7 131 mX7_canAt 2 := by unfold am_lv' am_lk; decide +kernel
theorem kL_60 : am_lv' RL 60 mX7_arm 2 := by unfold am_lv' am_lk; decide +kernel
theorem kX7_134 : am_lv' RX7 134 mX7_takenBy 1 := by unfold am_lv' am_lk; decide +kernel
theorem kX7_137 : am_lv' RX7 137 mX7_mostWithout 1 := by unfold am_lv' am_lk; decide +kernel
theorem kL_68 : am_lv' RL 68 mX7_takes 2 := by unfold am_lv' am_lk; decide +kernel
theorem kL_72 : am_lv' RL 72 mX7_plan 1 := by unfold am_lv' am_lk; decide +kernel
theorem kX7_140 : am_lv' RX7 140 mX7_inEach 0 := by unfold am_lv' am_lk; decide +kernel
theorem kL_80 : am_lv' RL 80 mX7_set 2 := by unfold am_lv' am_lk; decide +kernel
theorem kL_84 : am_lv' RL 84 mX7_image 1 := by unfold am_lv' am_lk; decide +kernel
theorem kL_88 : am_lv' RL 88 mX7_restore 1 := by unfold am_lv' am_lk; decide +kernel
theorem kL_92 : am_lv' RL 92 mX7_count 1 := by unfold am_lv' am_lk; decide +kernel
theorem kX7_143 : am_lv' RX7 143 mX7_ofKind 1 := by unfold am_lv' am_lk; decide +kernel
theorem kX7_146 : am_lv' RX7 146 mX7_seenTwice 0 := by unfold am_lv' am_lk; decide +kernel
