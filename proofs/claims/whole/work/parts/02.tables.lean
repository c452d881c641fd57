def ownN : Nat → String := fun i => match i with
  | 0 => RX0
  | 1 => RX1
  | 2 => RX2
  | 3 => RX3
  | 4 => RX4
  | 5 => RX5
  | 6 => RX6
  | 7 => RX7
  | 8 => RX8
  | 9 => RL
  | 10 => RJ6
  | 11 => RJ13
  | _ => RJ9
def clT : Nat → u_T := fun i => match i with
  | 0 => TX0
  | 1 => TX1
  | 2 => TX2
  | 3 => TX3
  | 4 => TX4
  | 5 => TX5
  | 6 => TX6
  | 7 => TX7
  | _ => TX8
def clF : Nat → Nat → FieldType := fun i => match i with
  | 0 => tyX0
  | 1 => tyX1
  | 2 => tyX2
  | 3 => tyX3
  | 4 => tyX4
  | 5 => tyX5
  | 6 => tyX6
  | 7 => tyX7
  | _ => tyX8
def clN : Nat → Nat := fun i => match i with
  | 0 => 9
  | 1 => 3
  | 2 => 5
  | 3 => 2
  | 4 => 4
  | 5 => 8
  | 6 => 8
  | 7 => 17
  | _ => 26
def mTab0 : List (Nat × MethodName × ByteArray × Nat × Option FieldType × Nat × Bool) := [
  (0, yX0_init, cX0_init, 4, none, 3, false),
  (0, yX0_search, cX0_search, 3, none, 0, false),
  (0, yX0_tryAllBehind, cX0_tryAllBehind, 8, none, 5, false),
  (0, yX0_tryBehind, cX0_tryBehind, 8, none, 5, false),
  (0, yX0_isHopeless, cX0_isHopeless, 3, (some .boolean), 2, false),
  (0, yX0_isBetter, cX0_isBetter, 4, (some .boolean), 3, false),
  (0, yX0_take, cX0_take, 7, none, 4, false),
  (0, yX0_nearAhead, cX0_nearAhead, 6, (some .int), 2, false),
  (1, yX1_init, cX1_init, 1, none, 0, false),
  (1, yX1_search, cX1_search, 10, (some .int), 2, false),
  (1, yX1_fewest, cX1_fewest, 9, (some .int), 3, false),
  (1, yX1_riversIn, cX1_riversIn, 4, (some .int), 3, true),
  (2, yX2_init, cX2_init, 1, none, 0, false),
  (2, yX2_begin, cX2_begin, 3, none, 1, false),
  (2, yX2_become, cX2_become, 3, none, 1, false),
  (2, yX2_placeOf, cX2_placeOf, 3, (some .int), 1, false),
  (2, yX2_isLost, cX2_isLost, 2, (some .boolean), 1, false),
  (2, yX2_isLate, cX2_isLate, 2, (some .boolean), 1, false),
  (2, yX2_setLate, cX2_setLate, 3, none, 2, false),
  (2, yX2_isRiver, cX2_isRiver, 2, (some .boolean), 1, false),
  (2, yX2_takeOut, cX2_takeOut, 4, none, 1, false),
  (2, yX2_addBehind, cX2_addBehind, 2, none, 1, false),
  (2, yX2_turnAbout, cX2_turnAbout, 3, none, 0, false),
  (2, yX2_widthOfAll, cX2_widthOfAll, 3, (some .int), 0, false),
  (2, yX2_cartsAt, cX2_cartsAt, 4, (some .int), 1, false)]
def mTab1 : List (Nat × MethodName × ByteArray × Nat × Option FieldType × Nat × Bool) := [
  (3, yX3_init, cX3_init, 1, none, 0, false),
  (3, yX3_measure, cX3_measure, 7, none, 2, false),
  (3, yX3_firstFor, cX3_firstFor, 3, (some .int), 2, false),
  (3, yX3_setUp, cX3_setUp, 9, (some .int), 4, false),
  (4, yX4_init, cX4_init, 2, none, 0, false),
  (4, yX4_begin, cX4_begin, 2, none, 1, false),
  (4, yX4_become, cX4_become, 3, none, 1, false),
  (4, yX4_remember, cX4_remember, 1, none, 0, false),
  (4, yX4_loseOldest, cX4_loseOldest, 3, none, 0, false),
  (4, yX4_recall, cX4_recall, 1, (some .boolean), 0, false),
  (5, yX5_init, cX5_init, 1, none, 0, false),
  (5, yX5_add, cX5_add, 2, (some .boolean), 1, false),
  (5, yX5_drop, cX5_drop, 1, none, 0, false),
  (5, yX5_readInto, cX5_readInto, 3, (some .int), 1, false),
  (5, yX5_readItem, cX5_readItem, 2, (some .boolean), 1, false),
  (5, yX5_readCart, cX5_readCart, 3, (some .boolean), 1, false),
  (5, yX5_readFeud, cX5_readFeud, 3, (some .boolean), 1, false),
  (5, yX5_readApart, cX5_readApart, 2, (some .boolean), 1, false),
  (5, yX5_readMiles, cX5_readMiles, 2, (some .boolean), 1, false),
  (5, yX5_readGround, cX5_readGround, 2, (some .boolean), 1, false),
  (5, yX5_groundOfToken, cX5_groundOfToken, 1, (some .int), 0, false),
  (5, yX5_readNumber, cX5_readNumber, 3, (some .boolean), 2, false),
  (5, yX5_readSemicolon, cX5_readSemicolon, 1, (some .boolean), 0, false),
  (5, yX5_readToken, cX5_readToken, 1, none, 0, false),
  (5, yX5_readDigits, cX5_readDigits, 2, none, 0, false)]
def mTab2 : List (Nat × MethodName × ByteArray × Nat × Option FieldType × Nat × Bool) := [
  (5, yX5_readDigits, cX5_readDigits, 2, none, 0, false),
  (6, yX6_init, cX6_init, 1, none, 0, false),
  (6, yX6_empty, cX6_empty, 1, none, 0, false),
  (6, yX6_become, cX6_become, 3, none, 1, false),
  (6, yX6_addCart, cX6_addCart, 3, none, 2, false),
  (6, yX6_addFeud, cX6_addFeud, 3, none, 2, false),
  (6, yX6_addCell, cX6_addCell, 2, none, 1, false),
  (6, yX6_isFeud, cX6_isFeud, 3, (some .boolean), 2, false),
  (6, yX6_hours, cX6_hours, 3, (some .int), 1, false),
  (6, yX6_riverBits, cX6_riverBits, 4, (some .long), 0, false),
  (7, yX7_init, cX7_init, 2, none, 0, false),
  (7, yX7_type, cX7_type, 2, (some .int), 1, false),
  (7, yX7_clear, cX7_clear, 2, (some .int), 0, false),
  (7, yX7_town, cX7_town, 2, (some .int), 0, false),
  (7, yX7_cart, cX7_cart, 3, (some .int), 2, false),
  (7, yX7_ground, cX7_ground, 2, (some .int), 1, false),
  (7, yX7_takes, cX7_takes, 4, (some .int), 1, false),
  (7, yX7_late, cX7_late, 3, (some .int), 2, false),
  (7, yX7_nine, cX7_nine, 2, (some .int), 0, false),
  (7, yX7_pin, cX7_pin, 3, (some .int), 1, false),
  (7, yX7_storm, cX7_storm, 1, (some .int), 0, false),
  (7, yX7_widens, cX7_widens, 2, (some .int), 1, false),
  (7, yX7_floods, cX7_floods, 3, (some .int), 2, false),
  (7, yX7_loses, cX7_loses, 3, (some .int), 2, false),
  (7, yX7_undo, cX7_undo, 1, (some .int), 0, false)]
def mTab3 : List (Nat × MethodName × ByteArray × Nat × Option FieldType × Nat × Bool) := [
  (7, yX7_now, cX7_now, 2, (some .int), 1, false),
  (7, yX7_order, cX7_order, 2, (some .int), 1, false),
  (7, yX7_between, cX7_between, 3, (some .int), 2, false),
  (7, yX7_windward, cX7_windward, 5, (some .int), 2, false),
  (7, yX7_best, cX7_best, 2, (some .int), 1, false),
  (7, yX7_ropes, cX7_ropes, 3, (some .int), 1, false),
  (7, yX7_dark, cX7_dark, 3, (some .int), 1, false),
  (7, yX7_soon, cX7_soon, 5, (some .int), 2, false),
  (7, yX7_saw, cX7_saw, 3, (some .int), 2, false),
  (7, yX7_forget, cX7_forget, 2, (some .int), 0, false),
  (7, yX7_who, cX7_who, 4, (some .int), 0, false),
  (7, yX7_odds, cX7_odds, 8, (some .int), 4, false),
  (7, yX7_mark, cX7_mark, 3, (some .int), 2, false),
  (7, yX7_keep, cX7_keep, 2, (some .int), 1, false),
  (7, yX7_back, cX7_back, 2, (some .int), 1, false),
  (7, yX7_count, cX7_count, 2, (some .int), 1, false),
  (7, yX7_trace, cX7_trace, 1, (some .long), 0, false),
  (7, yX7_isCart, cX7_isCart, 2, (some .boolean), 1, false),
  (7, yX7_areTwo, cX7_areTwo, 3, (some .boolean), 2, false),
  (7, yX7_isCell, cX7_isCell, 2, (some .boolean), 1, false),
  (7, yX7_isFlag, cX7_isFlag, 1, (some .boolean), 1, true),
  (7, yX7_isHour, cX7_isHour, 1, (some .boolean), 1, true),
  (7, yX7_startAsTold, cX7_startAsTold, 2, none, 0, false),
  (7, yX7_settle, cX7_settle, 1, none, 0, false),
  (7, yX7_groundNow, cX7_groundNow, 2, (some .int), 1, false)]
def mTab4 : List (Nat × MethodName × ByteArray × Nat × Option FieldType × Nat × Bool) := [
  (7, yX7_cellOf, cX7_cellOf, 2, (some .int), 1, false),
  (7, yX7_cellsBetween, cX7_cellsBetween, 5, (some .int), 2, false),
  (7, yX7_gap, cX7_gap, 4, (some .int), 4, true),
  (7, yX7_breaks, cX7_breaks, 5, (some .int), 0, false),
  (7, yX7_nearTwos, cX7_nearTwos, 5, (some .int), 0, false),
  (7, yX7_onHills, cX7_onHills, 4, (some .int), 0, false),
  (7, yX7_hasHill, cX7_hasHill, 4, (some .boolean), 2, false),
  (7, yX7_lastTaken, cX7_lastTaken, 3, (some .int), 0, false),
  (7, yX7_partRow, cX7_partRow, 6, none, 1, false),
  (7, yX7_isQuick, cX7_isQuick, 3, (some .boolean), 2, false),
  (7, yX7_ithOfPace, cX7_ithOfPace, 6, (some .int), 3, false),
  (7, yX7_allSeenIn, cX7_allSeenIn, 3, (some .boolean), 1, false),
  (7, yX7_standsRightAhead, cX7_standsRightAhead, 5, (some .boolean), 3, false),
  (7, yX7_waysToStandAt, cX7_waysToStandAt, 9, (some .int), 3, false),
  (7, yX7_power, cX7_power, 4, (some .int), 2, true),
  (7, yX7_commonDivisor, cX7_commonDivisor, 6, (some .int), 2, true),
  (7, yX7_markOfCart, cX7_markOfCart, 2, (some .int), 1, false),
  (7, yX7_markOfChurch, cX7_markOfChurch, 2, (some .int), 1, false),
  (7, yX7_markOfBaker, cX7_markOfBaker, 3, (some .int), 1, false),
  (7, yX7_markOfMill, cX7_markOfMill, 2, (some .int), 1, false),
  (7, yX7_markOfDyer, cX7_markOfDyer, 2, (some .int), 1, false),
  (7, yX7_markOfGuest, cX7_markOfGuest, 2, (some .int), 1, false),
  (8, yX8_init, cX8_init, 1, none, 0, false),
  (8, yX8_in, cX8_in, 3, (some .boolean), 3, true),
  (8, yX8_type, cX8_type, 2, (some .int), 1, false)]
def mTab5 : List (Nat × MethodName × ByteArray × Nat × Option FieldType × Nat × Bool) := [
  (8, yX8_clear, cX8_clear, 2, (some .int), 0, false),
  (8, yX8_here, cX8_here, 1, (some .int), 0, false),
  (8, yX8_step, cX8_step, 2, none, 0, false),
  (8, yX8_due, cX8_due, 3, (some .int), 1, false),
  (8, yX8_number, cX8_number, 3, (some .int), 2, false),
  (8, yX8_mayBe, cX8_mayBe, 2, (some .boolean), 1, false),
  (8, yX8_groundOf, cX8_groundOf, 1, (some .int), 1, true),
  (8, yX8_readGround, cX8_readGround, 3, none, 0, false),
  (8, yX8_readRow, cX8_readRow, 4, none, 1, false),
  (8, yX8_plain, cX8_plain, 2, none, 0, false),
  (8, yX8_takeDraft, cX8_takeDraft, 2, none, 0, false),
  (8, yX8_town, cX8_town, 3, (some .int), 0, false),
  (8, yX8_isCart, cX8_isCart, 2, (some .boolean), 1, false),
  (8, yX8_isCell, cX8_isCell, 2, (some .boolean), 1, false),
  (8, yX8_isLate, cX8_isLate, 2, (some .boolean), 1, false),
  (8, yX8_manyOf, cX8_manyOf, 3, (some .int), 1, true),
  (8, yX8_placeOf, cX8_placeOf, 3, (some .int), 1, false),
  (8, yX8_takeLand, cX8_takeLand, 2, none, 0, false),
  (8, yX8_takeRow, cX8_takeRow, 2, none, 0, false),
  (8, yX8_isFree, cX8_isFree, 5, (some .boolean), 2, false),
  (8, yX8_setUp, cX8_setUp, 6, none, 0, false),
  (8, yX8_setUpNow, cX8_setUpNow, 1, none, 0, false),
  (8, yX8_cellOf, cX8_cellOf, 2, (some .int), 1, false),
  (8, yX8_breaks, cX8_breaks, 5, (some .int), 0, false),
  (8, yX8_betweenOf, cX8_betweenOf, 3, (some .int), 2, false)]
def mTab6 : List (Nat × MethodName × ByteArray × Nat × Option FieldType × Nat × Bool) := [
  (8, yX8_nearOf, cX8_nearOf, 8, (some .int), 1, false),
  (8, yX8_outs, cX8_outs, 3, (some .int), 0, false),
  (8, yX8_lastOf, cX8_lastOf, 6, (some .int), 1, false),
  (8, yX8_onHills, cX8_onHills, 5, (some .int), 0, false),
  (8, yX8_least, cX8_least, 3, (some .int), 0, false),
  (8, yX8_cart, cX8_cart, 3, (some .int), 2, false),
  (8, yX8_ground, cX8_ground, 2, (some .int), 1, false),
  (8, yX8_takes, cX8_takes, 5, (some .int), 1, false),
  (8, yX8_know, cX8_know, 2, none, 0, false),
  (8, yX8_goBehind, cX8_goBehind, 4, none, 1, false),
  (8, yX8_late, cX8_late, 3, (some .int), 2, false),
  (8, yX8_nine, cX8_nine, 4, (some .int), 0, false),
  (8, yX8_pin, cX8_pin, 3, (some .int), 1, false),
  (8, yX8_storm, cX8_storm, 4, (some .int), 0, false),
  (8, yX8_widens, cX8_widens, 2, (some .int), 1, false),
  (8, yX8_floods, cX8_floods, 3, (some .int), 2, false),
  (8, yX8_loses, cX8_loses, 4, (some .int), 2, false),
  (8, yX8_undo, cX8_undo, 2, (some .int), 0, false),
  (8, yX8_now, cX8_now, 2, (some .int), 1, false),
  (8, yX8_order, cX8_order, 2, (some .int), 1, false),
  (8, yX8_doesStand, cX8_doesStand, 2, (some .boolean), 1, false),
  (8, yX8_between, cX8_between, 3, (some .int), 2, false),
  (8, yX8_windward, cX8_windward, 3, (some .int), 2, false),
  (8, yX8_firstRow, cX8_firstRow, 2, none, 0, false),
  (8, yX8_nextRow, cX8_nextRow, 6, (some .boolean), 0, false)]
def mTab7 : List (Nat × MethodName × ByteArray × Nat × Option FieldType × Nat × Bool) := [
  (8, yX8_keepRow, cX8_keepRow, 2, none, 0, false),
  (8, yX8_best, cX8_best, 9, (some .int), 1, false),
  (8, yX8_isDone, cX8_isDone, 4, (some .boolean), 3, false),
  (8, yX8_isRiver, cX8_isRiver, 2, (some .boolean), 1, false),
  (8, yX8_ropes, cX8_ropes, 6, (some .int), 1, false),
  (8, yX8_inBy, cX8_inBy, 6, (some .int), 1, false),
  (8, yX8_dark, cX8_dark, 2, (some .int), 1, false),
  (8, yX8_soon, cX8_soon, 6, (some .int), 2, false),
  (8, yX8_saw, cX8_saw, 3, (some .int), 2, false),
  (8, yX8_forget, cX8_forget, 2, (some .int), 0, false),
  (8, yX8_isSo, cX8_isSo, 6, (some .boolean), 1, false),
  (8, yX8_who, cX8_who, 3, (some .int), 0, false),
  (8, yX8_odds, cX8_odds, 12, (some .int), 4, false),
  (8, yX8_mark, cX8_mark, 6, (some .int), 2, false),
  (8, yX8_keep, cX8_keep, 3, (some .int), 1, false),
  (8, yX8_back, cX8_back, 3, (some .int), 1, false),
  (8, yX8_count, cX8_count, 2, (some .int), 1, false),
  (8, yX8_trace, cX8_trace, 1, (some .long), 0, false),
  (10, yJ6_bitCount_0f7a4, cJ6_bitCount_0f7a4, 1, (some .int), 1, true),
  (11, yJ13_bitCount_95d88, cJ13_bitCount_95d88, 2, (some .int), 1, true)]
def mTab : List (Nat × MethodName × ByteArray × Nat × Option FieldType × Nat × Bool) := mTab0 ++ (mTab1 ++ (mTab2 ++ (mTab3 ++ (mTab4 ++ (mTab5 ++ (mTab6 ++ (mTab7)))))))
def fldT : List ((Nat × Nat) × Nat × Nat × Bool) := [
((0, 9), 0, 0, false), ((0, 15), 0, 4, false), ((0, 18), 0, 5, false), ((0, 21), 0, 6, false), ((0, 25), 0, 7, false), ((0, 29), 0, 8, false), ((0, 33), 0, 1, false), ((0, 37), 2, 2, true), ((0, 42), 2, 0, true), ((0, 55), 6, 4, true), ((0, 60), 2, 1, true), ((0, 83), 0, 2, false), ((0, 86), 0, 3, false), ((0, 98), 6, 6, true), ((1, 9), 1, 0, false), ((1, 15), 1, 1, false), ((1, 18), 1, 2, false), ((1, 21), 2, 4, true), ((1, 33), 2, 2, true), ((1, 37), 2, 1, true), ((1, 40), 2, 0, true), ((2, 9), 2, 0, false), ((2, 15), 2, 1, false), ((2, 18), 6, 4, true), ((2, 24), 6, 0, true), ((2, 25), 2, 2, false), ((2, 28), 2, 3, false), ((2, 35), 2, 4, false), ((3, 11), 3, 0, false), ((3, 16), 3, 1, false), ((4, 12), 4, 0, false), ((4, 18), 4, 1, false), ((4, 26), 4, 2, false), ((5, 9), 5, 0, false), ((5, 15), 5, 1, false), ((5, 24), 5, 6, false), ((5, 28), 5, 7, false), ((5, 31), 5, 2, false), ((5, 37), 5, 4, false), ((5, 44), 5, 3, false), ((5, 47), 5, 5, false), ((5, 65), 6, 4, true), ((5, 83), 6, 6, true), ((5, 86), 6, 7, true), ((5, 89), 6, 5, true), ((6, 9), 6, 0, false), ((6, 15), 6, 1, false), ((6, 18), 6, 2, false), ((6, 21), 6, 3, false), ((6, 27), 6, 4, false), ((6, 31), 6, 5, false), ((6, 34), 6, 6, false), ((6, 37), 6, 7, false), ((7, 10), 7, 0, false), ((7, 19), 7, 1, false), ((7, 23), 7, 2, false), ((7, 29), 7, 3, false), ((7, 33), 7, 4, false), ((7, 40), 7, 5, false), ((7, 44), 7, 6, false), ((7, 50), 4, 0, true), ((7, 57), 7, 8, false), ((7, 64), 7, 10, false), ((7, 68), 7, 11, false), ((7, 71), 7, 12, false), ((7, 74), 7, 15, false), ((7, 77), 7, 16, false), ((7, 87), 5, 1, true), ((7, 105), 2, 1, true), ((7, 110), 6, 1, true), ((7, 119), 6, 2, true), ((7, 135), 6, 4, true), ((7, 151), 2, 3, true), ((7, 163), 2, 0, true), ((7, 166), 2, 2, true), ((7, 187), 2, 4, true), ((7, 195), 4, 2, true), ((7, 198), 7, 7, false), ((7, 225), 7, 9, false), ((7, 232), 0, 1, true), ((7, 235), 0, 2, true), ((7, 238), 0, 3, true), ((7, 241), 0, 0, true), ((7, 242), 6, 5, true), ((7, 248), 1, 0, true), ((7, 264), 7, 13, false), ((7, 303), 4, 3, true), ((7, 306), 6, 6, true), ((7, 309), 6, 7, true), ((7, 312), 7, 14, false), ((7, 326), 6, 3, true), ((8, 7), 8, 1, false), ((8, 13), 8, 3, false), ((8, 17), 8, 4, false), ((8, 20), 8, 5, false), ((8, 23), 8, 6, false), ((8, 26), 8, 7, false), ((8, 29), 8, 8, false), ((8, 32), 8, 9, false), ((8, 35), 8, 16, false), ((8, 38), 8, 17, false), ((8, 42), 8, 18, false), ((8, 45), 8, 20, false), ((8, 48), 8, 21, false), ((8, 51), 8, 22, false), ((8, 54), 8, 23, false), ((8, 57), 8, 24, false), ((8, 70), 8, 2, false), ((8, 74), 8, 11, false), ((8, 81), 8, 12, false), ((8, 84), 8, 14, false), ((8, 87), 8, 13, false), ((8, 90), 8, 15, false), ((8, 100), 8, 10, false), ((8, 114), 8, 25, false), ((8, 125), 8, 19, false), ((8, 213), 8, 0, false)]
def mthT : List ((Nat × Nat) × Nat × Bool) := [
((0, 3), 901, false), ((0, 43), 23, true), ((0, 47), 2, false), ((0, 51), 4, false), ((0, 63), 27, true), ((0, 69), 3, false), ((0, 72), 5, false), ((0, 76), 6, false), ((0, 80), 7, false), ((0, 89), 900, false), ((0, 95), 57, true), ((1, 3), 901, false), ((1, 27), 10, false), ((1, 43), 11, false), ((1, 47), 902, false), ((1, 53), 194, false), ((2, 3), 901, false), ((2, 31), 59, true), ((2, 39), 15, false), ((3, 3), 901, false), ((3, 20), 27, false), ((4, 3), 901, false), ((4, 11), 12, true), ((4, 22), 13, true), ((4, 30), 14, true), ((4, 34), 33, false), ((5, 3), 901, false), ((5, 19), 52, true), ((5, 34), 48, false), ((5, 40), 39, false), ((5, 50), 40, false), ((5, 53), 41, false), ((5, 56), 42, false), ((5, 59), 43, false), ((5, 62), 44, false), ((5, 68), 46, false), ((5, 72), 54, true), ((5, 76), 47, false), ((5, 80), 55, true), ((5, 92), 45, false), ((5, 96), 56, true), ((5, 100), 49, false), ((6, 3), 901, false), ((6, 24), 52, false), ((7, 1), 901, false), ((7, 9), 35, true), ((7, 18), 51, true), ((7, 28), 29, true), ((7, 39), 25, true), ((7, 54), 0, true), ((7, 63), 8, true), ((7, 80), 97, false), ((7, 83), 36, true), ((7, 91), 37, true), ((7, 94), 38, true), ((7, 98), 53, true), ((7, 102), 92, false), ((7, 113), 17, true), ((7, 116), 16, true), ((7, 122), 100, false), ((7, 126), 15, true), ((7, 129), 94, false), ((7, 132), 99, false), ((7, 138), 95, false), ((7, 141), 32, true), ((7, 144), 18, true), ((7, 148), 98, false), ((7, 154), 193, false), ((7, 159), 108, false), ((7, 169), 900, false), ((7, 175), 20, true), ((7, 178), 21, true), ((7, 181), 22, true), ((7, 184), 19, true), ((7, 191), 34, true), ((7, 201), 103, false), ((7, 205), 104, false), ((7, 208), 105, false), ((7, 211), 107, false), ((7, 214), 23, true), ((7, 217), 93, false), ((7, 221), 101, false), ((7, 229), 1, true), ((7, 245), 9, true), ((7, 251), 96, false), ((7, 254), 58, true), ((7, 257), 109, false), ((7, 260), 110, false), ((7, 267), 111, false), ((7, 271), 113, false), ((7, 275), 114, false), ((7, 278), 115, false), ((7, 282), 116, false), ((7, 285), 117, false), ((7, 288), 118, false), ((7, 291), 119, false), ((7, 294), 120, false), ((7, 297), 121, false), ((7, 300), 31, true), ((7, 315), 30, true), ((7, 318), 26, true), ((7, 322), 28, true), ((7, 329), 102, false), ((7, 333), 57, true), ((7, 336), 106, false), ((7, 339), 112, false), ((7, 343), 24, true), ((8, 1), 901, false), ((8, 60), 134, false), ((8, 63), 135, false), ((8, 66), 123, false), ((8, 77), 126, false), ((8, 93), 127, false), ((8, 96), 128, false), ((8, 103), 131, false), ((8, 107), 129, false), ((8, 111), 132, false), ((8, 117), 130, false), ((8, 121), 133, false), ((8, 128), 144, false), ((8, 132), 142, false), ((8, 135), 143, false), ((8, 138), 145, false), ((8, 141), 141, false), ((8, 144), 139, false), ((8, 147), 146, false), ((8, 150), 149, false), ((8, 153), 137, false), ((8, 156), 147, false), ((8, 159), 138, false), ((8, 162), 158, false), ((8, 165), 159, false), ((8, 168), 151, false), ((8, 171), 148, false), ((8, 174), 150, false), ((8, 177), 153, false), ((8, 180), 152, false), ((8, 183), 154, false), ((8, 186), 170, false), ((8, 189), 173, false), ((8, 193), 175, false), ((8, 196), 174, false), ((8, 200), 178, false), ((8, 203), 177, false), ((8, 206), 180, false), ((8, 209), 185, false), ((8, 225), 140, false)]
def cstT : List ((Nat × Nat) × Int) := [((7, 281), -1000000), ((8, 192), 100000), ((8, 212), -1000000), ((10, 265), 1431655765), ((10, 266), 858993459), ((10, 267), 252645135)]
def cstL : List ((Nat × Nat) × Int) := [((1, 31), -1), ((7, 346), 10), ((7, 348), 100), ((7, 350), 1000), ((7, 352), 10000), ((7, 354), 100000), ((8, 217), 11), ((8, 219), 101), ((8, 221), 1011), ((8, 223), 10101), ((8, 228), 100001), ((11, 314), 6148914691236517205), ((11, 316), 3689348814741910323), ((11, 318), 1085102592571150095)]
def clsT : List ((Nat × Nat) × Nat) := [((3, 9), 105), ((4, 9), 2), ((7, 7), 5), ((7, 16), 6), ((7, 26), 4), ((7, 37), 3), ((7, 48), 0), ((7, 61), 1)]
