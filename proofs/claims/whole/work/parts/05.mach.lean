/-! the abstract machine: tables -/
abbrev am_I : Type := MethodName × ByteArray × Nat × Nat × Nat × Option FieldType × List (Nat × Nat × Nat × Nat)
def am_ms : List am_I := [
  (yX4_init, cX4_init, 4, 2, 9, none, []),
  (yX4_sum, cX4_sum, 4, 7, 9, (some .int), []),
  (yX4_number, cX4_number, 4, 4, 10, (some .int), []),
  (yX4_get, cX4_get, 4, 2, 9, (some .int), []),
  (yX4_set, cX4_set, 4, 3, 9, none, []),
  (yX4_isSame, cX4_isSame, 4, 6, 10, (some .boolean), []),
  (yX4_setNumber, cX4_setNumber, 4, 4, 10, none, []),
  (yX4_copyPart, cX4_copyPart, 4, 6, 10, none, []),
  (yX4_copyFrom, cX4_copyFrom, 4, 2, 9, none, []),
  (yX4_clear, cX4_clear, 4, 1, 10, none, []),
  (yX4_flip, cX4_flip, 4, 3, 10, none, []),
  (yX2_init, cX2_init, 2, 1, 10, none, []),
  (yX2_extend, cX2_extend, 2, 2, 10, (some .boolean), []),
  (yX2_length, cX2_length, 2, 1, 9, (some .int), []),
  (yX2_recordSize, cX2_recordSize, 2, 1, 10, (some .int), []),
  (yX2_recordSizeOf, cX2_recordSizeOf, 2, 1, 9, (some .int), []),
  (yX2_hash, cX2_hash, 2, 1, 10, (some .int), []),
  (yX2_isAt, cX2_isAt, 2, 3, 11, (some .boolean), []),
  (yX2_writeRecord, cX2_writeRecord, 2, 4, 11, none, []),
  (yX2_clear, cX2_clear, 2, 1, 9, none, []),
  (yX2_readRecord, cX2_readRecord, 2, 3, 11, none, []),
  (yX0_init, cX0_init, 0, 2, 10, none, []),
  (yX0_any, cX0_any, 0, 1, 9, (some .boolean), []),
  (yX0_clear, cX0_clear, 0, 1, 11, none, []),
  (yX0_flip, cX0_flip, 0, 6, 11, none, []),
  (yX0_maskOf, cX0_maskOf, 0, 3, 10, (some .int), []),
  (yX1_init, cX1_init, 1, 1, 10, none, []),
  (yX1_hasRoomFor, cX1_hasRoomFor, 1, 2, 11, (some .boolean), []),
  (yX1_append, cX1_append, 1, 3, 12, none, []),
  (yX1_checkByte, cX1_checkByte, 1, 3, 10, (some .int), []),
  (yX1_cutTo, cX1_cutTo, 1, 2, 9, none, []),
  (yX1_length, cX1_length, 1, 1, 9, (some .int), []),
  (yX1_isWholeAt, cX1_isWholeAt, 1, 4, 11, (some .boolean), []),
  (yX1_actSizeAt, cX1_actSizeAt, 1, 2, 10, (some .int), []),
  (yX1_readName, cX1_readName, 1, 3, 12, none, []),
  (yX1_numberAt, cX1_numberAt, 1, 2, 11, (some .int), []),
  (yX1_flip, cX1_flip, 1, 3, 11, none, []),
  (yX3_init, cX3_init, 3, 1, 10, none, []),
  (yX3_isBad, cX3_isBad, 3, 1, 11, (some .boolean), []),
  (yX3_placeOf, cX3_placeOf, 3, 5, 12, (some .int), []),
  (yX3_records, cX3_records, 3, 1, 10, (some .int), []),
  (yX3_recordSizeAt, cX3_recordSizeAt, 3, 2, 10, (some .int), []),
  (yX3_renumber, cX3_renumber, 3, 3, 12, none, []),
  (yX3_numberPlace, cX3_numberPlace, 3, 2, 10, (some .int), []),
  (yX3_seal, cX3_seal, 3, 1, 11, none, []),
  (yX3_depth, cX3_depth, 3, 1, 10, (some .int), []),
  (yX3_bytesOfKin, cX3_bytesOfKin, 3, 8, 11, (some .int), []),
  (yX3_hashAt, cX3_hashAt, 3, 2, 10, (some .int), []),
  (yX3_copyFrom, cX3_copyFrom, 3, 2, 10, none, []),
  (yX3_empty, cX3_empty, 3, 2, 11, none, []),
  (yX3_dealTo, cX3_dealTo, 3, 9, 11, none, []),
  (yX3_countRecord, cX3_countRecord, 3, 2, 10, none, []),
  (yX3_append, cX3_append, 3, 3, 12, none, []),
  (yX3_numberAt, cX3_numberAt, 3, 2, 11, (some .int), []),
  (yX3_flip, cX3_flip, 3, 3, 11, none, []),
  (yX3_byteOf, cX3_byteOf, 3, 2, 10, (some .int), []),
  (yX5_init, cX5_init, 5, 3, 11, none, []),
  (yX5_size, cX5_size, 5, 1, 9, (some .int), []),
  (yX5_page, cX5_page, 5, 2, 9, (some (.object "FormulaPages$Page")), []),
  (yX5_acts, cX5_acts, 5, 1, 9, (some .int), []),
  (yX5_accept, cX5_accept, 5, 8, 13, (some .boolean), []),
  (yX5_pageFor, cX5_pageFor, 5, 2, 11, (some (.object "FormulaPages$Page")), []),
  (yX5_pageNumberFor, cX5_pageNumberFor, 5, 2, 10, (some .int), []),
  (yX5_entries, cX5_entries, 5, 1, 9, (some .int), []),
  (yX5_splitsFor, cX5_splitsFor, 5, 7, 12, (some .int), []),
  (yX5_split, cX5_split, 5, 6, 12, none, []),
  (yX5_doubleTable, cX5_doubleTable, 5, 1, 11, none, []),
  (yX5_redirect, cX5_redirect, 5, 5, 10, none, []),
  (yX5_holds, cX5_holds, 5, 2, 13, (some .boolean), []),
  (yX5_numberOf, cX5_numberOf, 5, 4, 13, (some .int), []),
  (yX5_copyFrom, cX5_copyFrom, 5, 3, 11, none, []),
  (yX5_pageAtEntry, cX5_pageAtEntry, 5, 2, 10, (some .int), []),
  (yX5_depth, cX5_depth, 5, 1, 9, (some .int), []),
  (yX5_used, cX5_used, 5, 1, 9, (some .int), []),
  (yX5_names, cX5_names, 5, 3, 11, (some .int), []),
  (yX6_init, cX6_init, 6, 3, 12, none, []),
  (yX6_badAt, cX6_badAt, 6, 2, 12, (some .int), []),
  (yX6_feed, cX6_feed, 6, 2, 11, (some .boolean), []),
  (yX6_put, cX6_put, 6, 3, 15, (some .int), []),
  (yX6_requireSoundAndFed, cX6_requireSoundAndFed, 6, 1, 11, none, []),
  (yX6_requireSound, cX6_requireSound, 6, 1, 10, none, []),
  (yX6_act, cX6_act, 6, 3, 14, (some .int), []),
  (yX6_has, cX6_has, 6, 2, 14, (some .boolean), []),
  (yX6_find, cX6_find, 6, 2, 14, (some .int), []),
  (yX6_save, cX6_save, 6, 1, 12, (some .int), []),
  (yX6_crash, cX6_crash, 6, 2, 15, (some .int), []),
  (yX6_replay, cX6_replay, 6, 3, 14, (some .int), []),
  (yX6_poke, cX6_poke, 6, 4, 12, none, []),
  (yX6_requirePageByte, cX6_requirePageByte, 6, 3, 10, none, []),
  (yX6_requireMask, cX6_requireMask, 6, 2, 9, none, []),
  (yX6_pokeJournal, cX6_pokeJournal, 6, 3, 12, none, []),
  (yX6_byteAt, cX6_byteAt, 6, 3, 11, (some .int), []),
  (yX6_entry, cX6_entry, 6, 2, 11, (some .int), []),
  (yX6_count, cX6_count, 6, 2, 12, (some .int), []),
  (yX7_init, cX7_init, 7, 2, 10, none, []),
  (yX7_copy, cX7_copy, 7, 4, 9, none, []),
  (yX7_thrown, cX7_thrown, 7, 1, 9, (some .int), []),
  (yX7_feed, cX7_feed, 7, 2, 10, (some .boolean), []),
  (yX7_in, cX7_in, 7, 3, 9, (some .boolean), []),
  (yX7_put, cX7_put, 7, 6, 12, (some .int), []),
  (yX7_may, cX7_may, 7, 1, 10, (some .boolean), []),
  (yX7_isAltered, cX7_isAltered, 7, 3, 9, (some .boolean), []),
  (yX7_comes, cX7_comes, 7, 4, 11, (some .boolean), []),
  (yX7_look, cX7_look, 7, 4, 9, (some .int), []),
  (yX7_hashOf, cX7_hashOf, 7, 3, 10, (some .int), []),
  (yX7_more, cX7_more, 7, 3, 9, (some .int), []),
  (yX7_length, cX7_length, 7, 4, 9, (some .int), []),
  (yX7_splits, cX7_splits, 7, 7, 9, (some .boolean), []),
  (yX7_write, cX7_write, 7, 3, 10, (some .int), []),
  (yX7_has, cX7_has, 7, 2, 11, (some .boolean), []),
  (yX7_find, cX7_find, 7, 2, 11, (some .int), []),
  (yX7_save, cX7_save, 7, 1, 10, (some .int), []),
  (yX7_crash, cX7_crash, 7, 4, 13, (some .int), []),
  (yX7_replays, cX7_replays, 7, 7, 12, (some .boolean), []),
  (yX7_poke, cX7_poke, 7, 4, 10, none, []),
  (yX7_pokeJournal, cX7_pokeJournal, 7, 3, 10, none, []),
  (yX7_badAt, cX7_badAt, 7, 4, 11, (some .int), []),
  (yX7_fill, cX7_fill, 7, 6, 10, none, []),
  (yX7_byteAt, cX7_byteAt, 7, 3, 11, (some .int), []),
  (yX7_entry, cX7_entry, 7, 2, 10, (some .int), []),
  (yX7_count, cX7_count, 7, 4, 10, (some .int), []),
  (yX7_raise, cX7_raise, 7, 2, 9, (some .int), []),
  (yJ7_fill_53178, cJ7_fill_53178, 10, 4, 9, none, []),
  (yL_cell, cL_cell, 8, 2, 9, (some .int), []),
  (yL_feed, cL_feed, 8, 4, 12, (some .int), [(0, 16, 19, 13)]),
  (yL_put, cL_put, 8, 4, 16, (some .int), [(0, 9, 12, 19)]),
  (yL_has, cL_has, 8, 3, 15, (some .int), [(0, 15, 18, 19)]),
  (yL_find, cL_find, 8, 3, 15, (some .int), [(0, 8, 11, 19)]),
  (yL_save, cL_save, 8, 3, 13, (some .int), [(0, 8, 11, 19)]),
  (yL_crash, cL_crash, 8, 4, 16, (some .int), [(0, 9, 12, 13)]),
  (yL_poke, cL_poke, 8, 5, 13, (some .int), [(0, 7, 10, 39), (0, 7, 14, 13)]),
  (yL_pokeJournal, cL_pokeJournal, 8, 4, 13, (some .int), [(0, 6, 9, 39), (0, 6, 12, 13)]),
  (yL_byteAt, cL_byteAt, 8, 5, 12, (some .int), [(0, 10, 13, 39)]),
  (yL_entry, cL_entry, 8, 4, 12, (some .int), [(0, 9, 12, 39)]),
  (yL_count, cL_count, 8, 4, 13, (some .int), [(0, 9, 12, 19)]),
  (yL_law, cL_law, 8, 7, 20, (some .boolean), [])]
def am_m (M : Nat) : am_I := am_ms.getD M (yL_cell, cL_cell, 99, 0, 0, none, [])
abbrev am_y (M : Nat) : MethodName := (am_m M).1
abbrev am_cod (M : Nat) : ByteArray := (am_m M).2.1
abbrev am_own (M : Nat) : Nat := (am_m M).2.2.1
abbrev am_nL (M : Nat) : Nat := (am_m M).2.2.2.1
abbrev am_fr (M : Nat) : Nat := (am_m M).2.2.2.2.1
abbrev am_ret (M : Nat) : Option FieldType := (am_m M).2.2.2.2.2.1
abbrev am_hh (M : Nat) : List (Nat × Nat × Nat × Nat) := (am_m M).2.2.2.2.2.2
def am_ons : List String := [RX0, RX1, RX2, RX3, RX4, RX5, RX6, RX7, RL, RJ9, RJ7]
def am_on (o : Nat) : String := am_ons.getD o ""
/-- (owner, pool place) to (class, field, is an int, is final) -/
def am_fT : List ((Nat × Nat) × (Nat × Nat × Bool × Bool)) := [((4, 15), (4, 0, false, true)), ((1, 14), (1, 0, false, true)), ((1, 20), (1, 1, true, false)), ((2, 14), (2, 0, false, true)), ((2, 20), (2, 1, true, false)), ((3, 14), (3, 0, false, true)), ((3, 20), (3, 1, true, false)), ((5, 43), (5, 0, false, true)), ((5, 12), (5, 1, false, true)), ((5, 23), (5, 2, false, true)), ((5, 27), (5, 3, true, false)), ((5, 31), (5, 4, true, false)), ((5, 34), (5, 5, true, false)), ((0, 20), (0, 0, false, true)), ((0, 9), (0, 1, true, false)), ((6, 40), (6, 0, false, true)), ((6, 44), (6, 1, false, true)), ((6, 50), (6, 2, false, true)), ((6, 10), (6, 3, false, true)), ((6, 19), (6, 4, false, true)), ((6, 23), (6, 5, false, true)), ((7, 67), (7, 0, true, false)), ((7, 59), (7, 1, true, true)), ((7, 7), (7, 2, false, true)), ((7, 13), (7, 3, false, true)), ((7, 16), (7, 4, false, true)), ((7, 19), (7, 5, false, true)), ((7, 22), (7, 6, false, true)), ((7, 25), (7, 7, false, true)), ((7, 28), (7, 8, false, true)), ((7, 32), (7, 9, false, true)), ((7, 35), (7, 10, false, true)), ((7, 38), (7, 11, false, true)), ((7, 41), (7, 12, false, true)), ((7, 44), (7, 13, false, true)), ((7, 47), (7, 14, false, true)), ((7, 101), (7, 15, true, false)), ((7, 50), (7, 16, false, true)), ((7, 75), (7, 17, true, false)), ((7, 53), (7, 18, false, true)), ((7, 56), (7, 19, false, true))]
/-- (owner, pool place) to (kind, callee, how many arguments): 0 virtual, 1 static, 2 static with a table, 3 a constructor, 4 a nest mate's, 5 Object's, 6 arraycopy, 7 and 8 Math.max and min -/
def am_cT : List ((Nat × Nat) × (Nat × Nat × Nat)) := [((8, 61), (3, 75, 1)), ((6, 1), (5, 0, 0)), ((6, 9), (4, 26, 0)), ((1, 3), (5, 0, 0)), ((1, 11), (3, 0, 1)), ((4, 3), (5, 0, 0)), ((4, 9), (7, 0, 2)), ((6, 18), (4, 11, 0)), ((2, 3), (5, 0, 0)), ((2, 11), (3, 0, 1)), ((6, 26), (8, 0, 2)), ((6, 32), (7, 0, 2)), ((6, 37), (3, 56, 1)), ((5, 3), (5, 0, 0)), ((5, 11), (4, 37, 0)), ((3, 3), (5, 0, 0)), ((3, 11), (3, 0, 1)), ((5, 20), (3, 0, 1)), ((5, 37), (7, 0, 2)), ((6, 49), (3, 21, 1)), ((0, 3), (5, 0, 0)), ((0, 17), (3, 0, 1)), ((8, 98), (0, 76, 0)), ((6, 131), (0, 57, 0)), ((6, 113), (0, 58, 1)), ((6, 134), (0, 38, 0)), ((3, 32), (0, 1, 2)), ((3, 36), (0, 2, 1)), ((4, 21), (0, 3, 1)), ((8, 55), (1, 123, 2)), ((8, 67), (2, 124, 3)), ((8, 7), (0, 77, 1)), ((6, 61), (0, 12, 1)), ((2, 32), (0, 4, 2)), ((8, 74), (2, 125, 3)), ((8, 15), (0, 78, 1)), ((6, 65), (0, 79, 0)), ((6, 83), (0, 80, 0)), ((6, 158), (0, 22, 0)), ((6, 166), (0, 13, 0)), ((6, 68), (0, 81, 1)), ((6, 173), (0, 27, 1)), ((1, 24), (0, 14, 0)), ((2, 24), (1, 15, 1)), ((6, 93), (0, 59, 0)), ((6, 176), (0, 60, 2)), ((5, 55), (0, 16, 0)), ((2, 28), (0, 1, 2)), ((5, 60), (0, 61, 1)), ((5, 82), (0, 62, 1)), ((5, 102), (0, 63, 0)), ((5, 47), (0, 3, 1)), ((5, 92), (0, 58, 1)), ((5, 64), (0, 39, 1)), ((3, 39), (0, 40, 0)), ((3, 24), (0, 3, 1)), ((3, 43), (0, 17, 2)), ((2, 36), (0, 3, 1)), ((2, 39), (0, 5, 4)), ((3, 49), (0, 41, 1)), ((3, 88), (1, 15, 1)), ((5, 71), (0, 42, 2)), ((3, 52), (0, 43, 1)), ((3, 55), (0, 6, 2)), ((4, 25), (0, 4, 2)), ((3, 58), (0, 44, 0)), ((5, 75), (0, 14, 0)), ((5, 78), (0, 64, 3)), ((5, 105), (0, 45, 0)), ((5, 107), (0, 46, 2)), ((3, 61), (0, 47, 1)), ((5, 85), (0, 65, 1)), ((5, 110), (0, 66, 0)), ((5, 127), (0, 7, 4)), ((5, 95), (0, 48, 1)), ((3, 84), (0, 8, 1)), ((4, 30), (8, 0, 2)), ((4, 33), (6, 0, 5)), ((5, 113), (0, 49, 1)), ((3, 78), (0, 9, 0)), ((4, 39), (1, 122, 2)), ((3, 81), (0, 4, 2)), ((5, 116), (0, 50, 3)), ((3, 74), (0, 7, 4)), ((3, 71), (0, 51, 1)), ((5, 120), (0, 44, 0)), ((5, 123), (0, 67, 3)), ((5, 131), (0, 4, 2)), ((5, 88), (0, 52, 2)), ((3, 64), (0, 18, 3)), ((2, 43), (0, 7, 4)), ((2, 47), (0, 6, 2)), ((3, 68), (0, 14, 0)), ((6, 180), (0, 28, 2)), ((1, 30), (0, 18, 3)), ((1, 34), (0, 29, 2)), ((1, 62), (0, 1, 2)), ((1, 38), (0, 4, 2)), ((6, 72), (0, 19, 0)), ((8, 77), (2, 126, 2)), ((8, 21), (0, 82, 0)), ((6, 75), (0, 68, 1)), ((8, 81), (2, 127, 2)), ((8, 25), (0, 83, 0)), ((6, 79), (0, 69, 1)), ((5, 68), (0, 53, 1)), ((8, 84), (2, 128, 2)), ((8, 29), (0, 84, 0)), ((6, 86), (0, 70, 1)), ((5, 99), (0, 8, 1)), ((6, 90), (0, 30, 1)), ((8, 87), (2, 129, 3)), ((8, 32), (0, 85, 1)), ((6, 97), (0, 31, 0)), ((6, 102), (0, 23, 0)), ((0, 36), (0, 9, 0)), ((6, 103), (0, 86, 0)), ((6, 184), (0, 32, 1)), ((1, 45), (0, 3, 1)), ((1, 49), (0, 33, 1)), ((1, 52), (1, 15, 1)), ((6, 187), (0, 34, 2)), ((1, 55), (0, 20, 2)), ((2, 50), (8, 0, 2)), ((2, 55), (7, 0, 2)), ((6, 191), (0, 35, 1)), ((1, 59), (0, 2, 1)), ((6, 194), (0, 33, 1)), ((8, 90), (2, 130, 4)), ((8, 35), (0, 87, 3)), ((6, 106), (0, 88, 2)), ((6, 110), (0, 89, 1)), ((6, 117), (0, 54, 2)), ((3, 28), (0, 10, 2)), ((6, 122), (0, 24, 3)), ((0, 28), (0, 25, 2)), ((0, 24), (0, 3, 1)), ((0, 32), (0, 4, 2)), ((8, 94), (2, 131, 3)), ((8, 41), (0, 90, 2)), ((6, 130), (0, 36, 2)), ((1, 42), (0, 10, 2)), ((8, 102), (2, 132, 4)), ((8, 45), (0, 91, 2)), ((6, 138), (0, 55, 1)), ((8, 106), (2, 133, 3)), ((8, 49), (0, 92, 1)), ((6, 141), (0, 63, 0)), ((6, 146), (0, 71, 1)), ((8, 109), (2, 134, 3)), ((8, 52), (0, 93, 1)), ((6, 149), (0, 72, 0)), ((6, 152), (0, 73, 0)), ((6, 155), (0, 74, 0)), ((5, 51), (0, 40, 0)), ((8, 66), (3, 94, 1)), ((7, 1), (5, 0, 0)), ((7, 63), (0, 95, 2)), ((8, 71), (0, 96, 0)), ((8, 70), (0, 97, 1)), ((7, 71), (1, 98, 3)), ((8, 76), (0, 99, 1)), ((7, 104), (0, 100, 0)), ((7, 78), (0, 101, 0)), ((7, 107), (0, 102, 1)), ((7, 86), (0, 103, 0)), ((7, 90), (0, 104, 0)), ((7, 82), (1, 105, 2)), ((7, 93), (0, 106, 1)), ((7, 97), (0, 107, 1)), ((7, 110), (0, 108, 2)), ((8, 80), (0, 109, 0)), ((8, 83), (0, 110, 0)), ((8, 86), (0, 111, 0)), ((8, 89), (0, 112, 1)), ((7, 113), (0, 113, 2)), ((8, 93), (0, 114, 3)), ((8, 97), (0, 115, 2)), ((8, 101), (0, 116, 0)), ((7, 117), (0, 117, 1)), ((8, 105), (0, 118, 2)), ((8, 108), (0, 119, 1)), ((8, 111), (0, 120, 1)), ((7, 121), (0, 121, 1))]
def am_kT : List ((Nat × Nat) × Nat) := [((8, 8), 6), ((6, 7), 1), ((1, 9), 4), ((6, 16), 2), ((2, 9), 4), ((6, 35), 5), ((5, 9), 3), ((3, 9), 4), ((5, 18), 4), ((6, 47), 0), ((0, 15), 4), ((8, 64), 7)]
def am_xT : List ((Nat × Nat) × Nat) := [((8, 13), 0), ((6, 54), 0), ((8, 19), 1), ((6, 161), 1), ((8, 39), 2), ((6, 125), 2)]
def am_iT : List ((Nat × Nat) × Nat) := [((6, 58), 0), ((6, 165), 1), ((6, 129), 2)]
def am_sT : List (Nat × Nat) := [(6, 56), (6, 163), (6, 167), (6, 100), (6, 169), (6, 171), (6, 127), (6, 144)]
def am_ens : List String := ["java/lang/IllegalArgumentException", "java/lang/IllegalStateException", "java/lang/ArrayIndexOutOfBoundsException"]
def am_en (E : Nat) : String := am_ens.getD E ""
def am_vT : List ((Nat × Nat) × Int32) := [((4, 29), -1640531535), ((7, 70), -1640531535)]
def am_df : List (List Value) := [[.null, .int 0], [.null, .int 0], [.null, .int 0], [.null, .int 0], [.null], [.null, .null, .null, .int 0, .int 0, .int 0], [.null, .null, .null, .null, .null, .null], [.int 0, .int 0, .null, .null, .null, .null, .null, .null, .null, .null, .null, .null, .null, .null, .null, .int 0, .null, .int 0, .null, .null]]
/-! the abstract machine: its states and steps. A state: what lies at each address, the next address (0: nothing more may be made), cells and slots made so far -/
abbrev am_S : Type := (Nat → Option va_E) × Nat × Nat × Nat
abbrev am_C : Type := Nat × Nat × List Value × List Value × am_S
abbrev am_R : Type := (Option Value ⊕ Nat) × am_S
abbrev am_N : Type := am_C ⊕ am_R ⊕ (am_C × (am_R → Option (am_C ⊕ am_R)))
def am_up (f : Nat → Option va_E) (a : Nat) (c : va_E) : Nat → Option va_E := fun b => if b = a then some c else f b
abbrev am_jk : Value := .retAddr 0
abbrev am_ix (j : Int32) (n : Nat) : Prop := 0 ≤ j.toInt ∧ j.toInt < (n : Int)
def am_go (pc : Nat) (off : Int) (ls st : List Value) : Option (Nat × List Value × List Value) := if 0 ≤ (pc : Int) + off then some (((pc : Int) + off).toNat, ls, st) else none
def am_br (b : Prop) [Decidable b] (pc : Nat) (off : Int) (ls st : List Value) : Option (Nat × List Value × List Value) := if 0 ≤ (pc : Int) + off then some (if b then ((pc : Int) + off).toNat else pc + 3, ls, st) else none
def am_ld (i : Nat) (isI : Bool) (pc : Nat) (ls st : List Value) : Option (Nat × List Value × List Value) := match isI, ls[i]? with
  | true, some (.int x) => some (pc, ls, .int x :: st)
  | false, some (.ref a) => some (pc, ls, .ref a :: st)
  | _, _ => none
def am_sto (i : Nat) (isI : Bool) (pc : Nat) (ls st : List Value) : Option (Nat × List Value × List Value) := if i < ls.length then (match isI, st with
  | true, .int x :: r => some (pc, ls.set i (.int x), r)
  | false, .ref a :: r => some (pc, ls.set i (.ref a), r)
  | _, _ => none) else none
def am_bin (f : Int32 → Int32 → Int32) (pc : Nat) (ls st : List Value) : Option (Nat × List Value × List Value) := match st with
  | .int y :: .int x :: r => some (pc + 1, ls, .int (f x y) :: r)
  | _ => none
/-- steps that touch no heap -/
def am_i1 (o : Nat) (i : Instr) (len pc : Nat) (ls st : List Value) : Option (Nat × List Value × List Value) := match i with
  | .iconst n => if len = 1 then some (pc + 1, ls, .int (Int32.ofInt n) :: st) else none
  | .bipush n => if len = 2 then some (pc + 2, ls, .int (Int8.ofInt n).toInt32 :: st) else none
  | .sipush n => if len = 3 then some (pc + 3, ls, .int (Int16.ofInt n).toInt32 :: st) else none
  | .lconst n => if len = 1 then some (pc + 1, ls, .long (Int64.ofNat n.val) :: st) else none
  | .ldc k => if len = 2 then (match am_vT.lookup (o, k) with
    | some v => some (pc + 2, ls, .int v :: st)
    | none => none) else none
  | .iload k => if len = 2 then am_ld k true (pc + 2) ls st else none
  | .iload_n k => if len = 1 then am_ld k.val true (pc + 1) ls st else none
  | .aload k => if len = 2 then am_ld k false (pc + 2) ls st else none
  | .aload_n k => if len = 1 then am_ld k.val false (pc + 1) ls st else none
  | .istore k => if len = 2 then am_sto k true (pc + 2) ls st else none
  | .istore_n k => if len = 1 then am_sto k.val true (pc + 1) ls st else none
  | .astore k => if len = 2 then am_sto k false (pc + 2) ls st else none
  | .astore_n k => if len = 1 then am_sto k.val false (pc + 1) ls st else none
  | .iinc k n => if len = 3 then (match ls[k]? with
    | some (.int x) => some (pc + 3, ls.set k (.int (x + Int32.ofInt n)), st)
    | _ => none) else none
  | .iadd => if len = 1 then am_bin (fun x y => x + y) pc ls st else none
  | .isub => if len = 1 then am_bin (fun x y => x - y) pc ls st else none
  | .imul => if len = 1 then am_bin (fun x y => x * y) pc ls st else none
  | .iand => if len = 1 then am_bin (fun x y => x &&& y) pc ls st else none
  | .ior => if len = 1 then am_bin (fun x y => x ||| y) pc ls st else none
  | .ixor => if len = 1 then am_bin (fun x y => x ^^^ y) pc ls st else none
  | .ishl => if len = 1 then am_bin (fun x y => x <<< (y &&& 31)) pc ls st else none
  | .ishr => if len = 1 then am_bin (fun x y => x >>> (y &&& 31)) pc ls st else none
  | .iushr => if len = 1 then am_bin (fun x y => (x.toUInt32 >>> (y.toUInt32 &&& Int32.toUInt32 31)).toInt32) pc ls st else none
  | .i2l => if len = 1 then (match st with
    | .int x :: r => some (pc + 1, ls, .long x.toInt64 :: r)
    | _ => none) else none
  | .lcmp => if len = 1 then (match st with
    | .long y :: .long x :: r => some (pc + 1, ls, .int (lg_cmp x y) :: r)
    | _ => none) else none
  | .dup => if len = 1 then (match st with
    | .int x :: r => some (pc + 1, ls, .int x :: .int x :: r)
    | .ref x :: r => some (pc + 1, ls, .ref x :: .ref x :: r)
    | _ => none) else none
  | .dup2 => if len = 1 then (match st with
    | .int x :: .ref a :: r => some (pc + 1, ls, .int x :: .ref a :: .int x :: .ref a :: r)
    | _ => none) else none
  | .pop => if len = 1 then (match st with
    | .int _ :: r => some (pc + 1, ls, r)
    | _ => none) else none
  | .goto off => if len = 3 then am_go pc off ls st else none
  | .ifCond cd off => if len = 3 then (match cd, st with
    | .eq, .int x :: r => am_br (x = 0) pc off ls r
    | .ne, .int x :: r => am_br (¬ x = 0) pc off ls r
    | .lt, .int x :: r => am_br (x < 0) pc off ls r
    | .ge, .int x :: r => am_br (0 ≤ x) pc off ls r
    | .gt, .int x :: r => am_br (0 < x) pc off ls r
    | .le, .int x :: r => am_br (x ≤ 0) pc off ls r
    | _, _ => none) else none
  | .if_icmp cd off => if len = 3 then (match cd, st with
    | .eq, .int y :: .int x :: r => am_br (x = y) pc off ls r
    | .ne, .int y :: .int x :: r => am_br (¬ x = y) pc off ls r
    | .lt, .int y :: .int x :: r => am_br (x < y) pc off ls r
    | .ge, .int y :: .int x :: r => am_br (y ≤ x) pc off ls r
    | .gt, .int y :: .int x :: r => am_br (y < x) pc off ls r
    | .le, .int y :: .int x :: r => am_br (x ≤ y) pc off ls r
    | _, _ => none) else none
  | .tableswitch df lo hi offs => (match st with
    | .int x :: r => if x.toInt < lo ∨ hi < x.toInt then am_go pc df ls r else (match offs[(x.toInt - lo).toNat]? with
      | some off => am_go pc off ls r
      | none => none)
    | _ => none)
  | _ => none
def am_fit (isI : Bool) (v : Value) : Bool := match isI, v with
  | true, .int _ => true
  | false, .ref _ => true
  | _, _ => false
/-- steps that read or write the heap -/
def am_i2 (M : Nat) (i : Instr) (len pc : Nat) (st : List Value) (σ : am_S) : Option (Nat × List Value × am_S) := match i with
  | .getfield k => if len = 3 then (match am_fT.lookup (am_own M, k), st with
    | some (ci, j, _, _), .ref a :: r => (match σ.1 a with
      | some (.inr (cj, fs)) => if cj = ci then (match fs[j]? with
        | some v => some (pc + 3, v :: r, σ)
        | none => none) else none
      | _ => none)
    | _, _ => none) else none
  | .putfield k => if len = 3 then (match am_fT.lookup (am_own M, k), st with
    | some (ci, j, isI, fin), v :: .ref a :: r => (match σ.1 a with
      | some (.inr (cj, fs)) => if cj = ci ∧ j < fs.length ∧ (fin = true → (am_y M).name = "<init>" ∧ am_own M = ci) ∧ am_fit isI v = true then some (pc + 3, r, (am_up σ.1 a (.inr (cj, fs.set j v)), σ.2)) else none
      | _ => none)
    | _, _ => none) else none
  | .iaload => if len = 1 then (match st with
    | .int j :: .ref a :: r => (match σ.1 a with
      | some (.inl (t, n, .inl f)) => if (t = 0 ∨ t = 4) ∧ am_ix j n then some (pc + 1, .int (f j.toNatClampNeg) :: r, σ) else none
      | _ => none)
    | _ => none) else none
  | .baload => if len = 1 then (match st with
    | .int j :: .ref a :: r => (match σ.1 a with
      | some (.inl (t, n, .inl f)) => if t = 1 ∧ am_ix j n then some (pc + 1, .int (f j.toNatClampNeg) :: r, σ) else none
      | _ => none)
    | _ => none) else none
  | .laload => if len = 1 then (match st with
    | .int j :: .ref a :: r => (match σ.1 a with
      | some (.inl (t, n, .inr (.inl f))) => if t = 2 ∧ am_ix j n then some (pc + 1, .long (f j.toNatClampNeg) :: r, σ) else none
      | _ => none)
    | _ => none) else none
  | .aaload => if len = 1 then (match st with
    | .int j :: .ref a :: r => (match σ.1 a with
      | some (.inl (t, n, .inr (.inr (.inr (.inr f))))) => if t = 3 ∧ am_ix j n then some (pc + 1, va_rf (f j.toNatClampNeg) :: r, σ) else none
      | _ => none)
    | _ => none) else none
  | .iastore => if len = 1 then (match st with
    | .int x :: .int j :: .ref a :: r => (match σ.1 a with
      | some (.inl (t, n, .inl f)) => if t = 0 ∧ am_ix j n then some (pc + 1, r, (am_up σ.1 a (.inl (0, n, .inl (upd f j.toNatClampNeg x))), σ.2)) else none
      | _ => none)
    | _ => none) else none
  | .bastore => if len = 1 then (match st with
    | .int x :: .int j :: .ref a :: r => (match σ.1 a with
      | some (.inl (t, n, .inl f)) => if t = 1 ∧ am_ix j n then some (pc + 1, r, (am_up σ.1 a (.inl (1, n, .inl (upd f j.toNatClampNeg (vp_nar .boolean x)))), σ.2)) else none
      | _ => none)
    | _ => none) else none
  | .lastore => if len = 1 then (match st with
    | .long x :: .int j :: .ref a :: r => (match σ.1 a with
      | some (.inl (t, n, .inr (.inl f))) => if t = 2 ∧ am_ix j n then some (pc + 1, r, (am_up σ.1 a (.inl (2, n, .inr (.inl (vp_updL f j.toNatClampNeg x)))), σ.2)) else none
      | _ => none)
    | _ => none) else none
  | .aastore => if len = 1 then (match st with
    | .ref x :: .int j :: .ref a :: r => (match σ.1 a, σ.1 x with
      | some (.inl (t, n, .inr (.inr (.inr (.inr f))))), some (.inr (cj, _)) => if t = 3 ∧ cj = 3 ∧ am_ix j n then some (pc + 1, r, (am_up σ.1 a (.inl (3, n, .inr (.inr (.inr (.inr (va_up f j.toNatClampNeg (some x))))))), σ.2)) else none
      | _, _ => none)
    | _ => none) else none
  | .arraylength => if len = 1 then (match st with
    | .ref a :: r => (match σ.1 a with
      | some (.inl (t, x)) => if t < 5 then some (pc + 1, .int (Int32.ofNat x.1) :: r, σ) else none
      | _ => none)
    | _ => none) else none
  | .new k => if len = 3 then (match am_kT.lookup (am_own M, k) with
    | some ci => if σ.2.1 = 0 then none else (match am_df[ci]? with
      | some fs => some (pc + 3, .ref σ.2.1 :: st, (am_up σ.1 σ.2.1 (.inr (ci, fs)), σ.2.1 + 1, σ.2.2.1 + 1, σ.2.2.2 + fs.length))
      | none => none)
    | none => none) else none
  | .newarray ty => if len = 2 then (match ty, st with
    | .int, .int n :: r => if σ.2.1 = 0 ∨ n < 0 ∨ 100000 < n.toNatClampNeg then none else some (pc + 2, .ref σ.2.1 :: r, (am_up σ.1 σ.2.1 (.inl (0, n.toNatClampNeg, .inl (fun _ => 0))), σ.2.1 + 1, σ.2.2.1 + 1, σ.2.2.2 + n.toNatClampNeg))
    | .boolean, .int n :: r => if σ.2.1 = 0 ∨ n < 0 ∨ 100000 < n.toNatClampNeg then none else some (pc + 2, .ref σ.2.1 :: r, (am_up σ.1 σ.2.1 (.inl (1, n.toNatClampNeg, .inl (fun _ => 0))), σ.2.1 + 1, σ.2.2.1 + 1, σ.2.2.2 + n.toNatClampNeg))
    | .long, .int n :: r => if σ.2.1 = 0 ∨ n < 0 ∨ 100000 < n.toNatClampNeg then none else some (pc + 2, .ref σ.2.1 :: r, (am_up σ.1 σ.2.1 (.inl (2, n.toNatClampNeg, .inr (.inl (fun _ => 0)))), σ.2.1 + 1, σ.2.2.1 + 1, σ.2.2.2 + n.toNatClampNeg))
    | _, _ => none) else none
  | .anewarray k => if len = 3 then (match am_kT.lookup (am_own M, k), st with
    | some 3, .int n :: r => if σ.2.1 = 0 ∨ n < 0 ∨ 100000 < n.toNatClampNeg then none else some (pc + 3, .ref σ.2.1 :: r, (am_up σ.1 σ.2.1 (.inl (3, n.toNatClampNeg, .inr (.inr (.inr (.inr (fun _ => none)))))), σ.2.1 + 1, σ.2.2.1 + 1, σ.2.2.2 + n.toNatClampNeg))
    | _, _ => none) else none
  | .invokespecial k => if len = 3 then (match am_cT.lookup (am_own M, k), st with
    | some (5, _, _), .ref _ :: r => if r.length ≤ 4 then some (pc + 3, r, σ) else none
    | _, _ => none) else none
  | .invokestatic k => if len = 3 then (match am_cT.lookup (am_own M, k), st with
    | some (6, _, _), .int n :: .int dp :: .ref a :: .int sp :: .ref a0 :: r => (match σ.1 a0, σ.1 a with
      | some (.inl (t0, n0, .inl f)), some (.inl (t1, n1, .inl g)) => if t0 = 0 ∧ t1 = 0 ∧ r.length ≤ 4 ∧ ¬ sp < 0 ∧ ¬ dp < 0 ∧ ¬ n < 0 ∧ sp.toNatClampNeg + n.toNatClampNeg ≤ n0 ∧ dp.toNatClampNeg + n.toNatClampNeg ≤ n1 then
          some (pc + 3, r, (am_up σ.1 a (.inl (0, n1, .inl (va_cpy f g sp.toNatClampNeg dp.toNatClampNeg n.toNatClampNeg))), σ.2)) else none
      | _, _ => none)
    | some (7, _, _), .int y :: .int x :: r => if r.length ≤ 4 then some (pc + 3, .int (if x < y then y else x) :: r, σ) else none
    | some (8, _, _), .int y :: .int x :: r => if r.length ≤ 4 then some (pc + 3, .int (if y < x then y else x) :: r, σ) else none
    | _, _ => none) else none
  | _ => none
/-- what is thrown comes to this method at this place: it leaves it, or is caught, and lies in a variable then -/
def am_ct (M pc : Nat) (ls : List Value) (E : Nat) (σ : am_S) : List (Nat × Nat × Nat × Nat) → Option (am_C ⊕ am_R)
  | [] => some (.inr (.inr E, σ))
  | (a, b, h, t) :: r => if a ≤ pc ∧ pc < b then (match am_xT.lookup (am_own M, t) with
    | some E' => if E' = E then (match decode (am_cod M) h with
      | .ok (.astore_n k, 1) => if k.val < ls.length then some (.inl (M, h + 1, ls.set k.val am_jk, [], σ)) else none
      | .ok (.astore k, 2) => if k < ls.length then some (.inl (M, h + 2, ls.set k am_jk, [], σ)) else none
      | _ => none) else am_ct M pc ls E σ r
    | none => none) else am_ct M pc ls E σ r
def am_k (ini : Bool) (M pc : Nat) (ls rest : List Value) : am_R → Option (am_C ⊕ am_R) := fun r => match r with
  | (.inl v, σ) => some (.inl (M, pc + 3, ls, v.toList ++ rest, σ))
  | (.inr E, σ) => if ini then none else am_ct M pc ls E σ (am_hh M)
def am_call (ini : Bool) (M pc : Nat) (ls rest : List Value) (M' : Nat) (As : List Value) (σ : am_S) : Option am_N :=
  if am_fr M' < am_fr M ∧ rest.length ≤ 4 ∧ As.length ≤ am_nL M' ∧ (∀ v ∈ As, v.category = 1) then some (.inr (.inr ((M', 0, As ++ List.replicate (am_nL M' - As.length) am_jk, [], σ), am_k ini M pc ls rest))) else none
/-- returns, throws, calls -/
def am_i3 (M : Nat) (i : Instr) (len pc : Nat) (ls st : List Value) (σ : am_S) : Option am_N := match i with
  | .return_ => if len = 1 ∧ st = [] ∧ am_ret M = none then some (.inr (.inl (.inl none, σ))) else none
  | .ireturn => if len = 1 then (match st, am_ret M with
    | [.int x], some .int => some (.inr (.inl (.inl (some (.int x)), σ)))
    | [.int x], some .boolean => if x = 0 ∨ x = 1 then some (.inr (.inl (.inl (some (.int x)), σ))) else none
    | _, _ => none) else none
  | .areturn => if len = 1 then (match st, am_ret M with
    | [.ref x], some (.object _) => some (.inr (.inl (.inl (some (.ref x)), σ)))
    | _, _ => none) else none
  | .new k => if len = 3 ∧ am_hh M = [] ∧ st = [] ∧ decode (am_cod M) (pc + 3) = .ok (.dup, 1) ∧ decode (am_cod M) (pc + 9) = .ok (.athrow, 1) then (match am_xT.lookup (am_own M, k), decode (am_cod M) (pc + 4), decode (am_cod M) (pc + 6) with
    | some E, .ok (.ldc is, 2), .ok (.invokespecial ic, 3) => if (am_own M, is) ∈ am_sT ∧ am_iT.lookup (am_own M, ic) = some E then some (.inr (.inl (.inr E, (σ.1, 0, σ.2.2.1 + 1, σ.2.2.2 + 6)))) else none
    | _, _, _ => none) else none
  | .invokevirtual k => if len = 3 then (match am_cT.lookup (am_own M, k) with
    | some (0, M', n) => (match st.drop n with
      | .ref b :: rest => (match σ.1 b with
        | some (.inr (cj, _)) => if cj = am_own M' ∧ (st.take n).length = n then am_call false M pc ls rest M' (.ref b :: (st.take n).reverse) σ else none
        | _ => none)
      | _ => none)
    | _ => none) else none
  | .invokestatic k => if len = 3 then (match am_cT.lookup (am_own M, k) with
    | some (1, M', n) => if (st.take n).length = n then am_call false M pc ls (st.drop n) M' (st.take n).reverse σ else none
    | some (2, M', n) => if (st.take n).length = n then am_call false M pc ls (st.drop n) M' (st.take n).reverse σ else none
    | _ => none) else none
  | .invokespecial k => if len = 3 then (match am_cT.lookup (am_own M, k) with
    | some (3, M', n) => (match st.drop n with
      | .ref b :: rest => if (st.take n).length = n then am_call true M pc ls rest M' (.ref b :: (st.take n).reverse) σ else none
      | _ => none)
    | some (4, M', n) => (match st.drop n with
      | .ref b :: rest => if (st.take n).length = n then am_call true M pc ls rest M' (.ref b :: (st.take n).reverse) σ else none
      | _ => none)
    | _ => none) else none
  | _ => none
def am_step (c : am_C) : Option am_N := match c with
  | (M, pc, ls, st, σ) => match decode (am_cod M) pc with
    | .ok (i, len) => (match am_i1 (am_own M) i len pc ls st with
      | some (pc', ls', st') => some (.inl (M, pc', ls', st', σ))
      | none => (match am_i2 M i len pc st σ with
        | some (pc', st', σ') => some (.inl (M, pc', ls, st', σ'))
        | none => am_i3 M i len pc ls st σ))
    | _ => none
def am_ex : Nat → am_C → Option am_R
  | 0, _ => none
  | n + 1, c => match am_step c with
    | none => none
    | some (.inl c') => am_ex n c'
    | some (.inr (.inl r)) => some r
    | some (.inr (.inr (c', k))) => match am_ex n c' with
      | none => none
      | some r => match k r with
        | none => none
        | some (.inl c2) => am_ex n c2
        | some (.inr r2) => some r2
theorem am_mono : ∀ (n : Nat) (c : am_C) (r : am_R), am_ex n c = some r → am_ex (n + 1) c = some r := by
  intro n
  induction n with
  | zero => intro c r h; simp [am_ex] at h
  | succ n ih =>
    intro c r h
    rw [am_ex] at h
    rw [am_ex]
    cases hs : am_step c with
    | none => simp [hs] at h
    | some x =>
      rw [hs] at h
      match x, h with
      | .inl c', h => exact ih _ _ h
      | .inr (.inl r'), h => exact h
      | .inr (.inr (c', k)), h =>
        dsimp only at h ⊢
        cases h1 : am_ex n c' with
        | none => simp [h1] at h
        | some r1 =>
          rw [h1] at h
          rw [ih _ _ h1]
          dsimp only at h ⊢
          cases h2 : k r1 with
          | none => simp [h2] at h
          | some y =>
            rw [h2] at h
            match y, h with
            | .inl c2, h => exact ih _ _ h
            | .inr r2, h => exact h
theorem am_mono_le {n m : Nat} (hnm : n ≤ m) {c : am_C} {r : am_R} (h : am_ex n c = some r) : am_ex m c = some r := by
  induction hnm with
  | refl => exact h
  | step _ ih => exact am_mono _ _ _ ih
theorem am_det {n m : Nat} {c : am_C} {r r' : am_R} (h : am_ex n c = some r) (h' : am_ex m c = some r') : r = r' := by
  have h1 := am_mono_le (Nat.le_max_left n m) h
  have h2 := am_mono_le (Nat.le_max_right n m) h'
  rw [h1] at h2
  exact Option.some.inj h2
noncomputable def am_run (c : am_C) : Option am_R := @dite _ (∃ (n : Nat) (r : am_R), am_ex n c = some r) (Classical.propDecidable _) (fun h => some (Classical.choose (Classical.choose_spec h))) (fun _ => none)
theorem am_run_of {n : Nat} {c : am_C} {r : am_R} (h : am_ex n c = some r) : am_run c = some r := by
  have hx : ∃ (n : Nat) (r : am_R), am_ex n c = some r := ⟨n, r, h⟩
  unfold am_run
  rw [dif_pos hx]
  exact congrArg some (am_det (Classical.choose_spec (Classical.choose_spec hx)) h)
theorem am_run_ex {c : am_C} {r : am_R} (h : am_run c = some r) : ∃ n, am_ex n c = some r := by
  unfold am_run at h
  by_cases hx : ∃ (n : Nat) (r : am_R), am_ex n c = some r
  · rw [dif_pos hx] at h
    have h1 := Classical.choose_spec (Classical.choose_spec hx)
    rw [Option.some.inj h] at h1
    exact ⟨_, h1⟩
  · rw [dif_neg hx] at h
    cases h
theorem am_run_eq {c d : am_C} (h1 : ∀ n r, am_ex n c = some r → ∃ m, am_ex m d = some r) (h2 : ∀ n r, am_ex n d = some r → ∃ m, am_ex m c = some r) : am_run c = am_run d := by
  cases hc : am_run c with
  | some r =>
    obtain ⟨n, hn⟩ := am_run_ex hc
    obtain ⟨m, hm⟩ := h1 n r hn
    exact (am_run_of hm).symm
  | none =>
    cases hd : am_run d with
    | none => rfl
    | some r =>
      obtain ⟨n, hn⟩ := am_run_ex hd
      obtain ⟨m, hm⟩ := h2 n r hn
      rw [am_run_of hm] at hc
      cases hc
theorem am_next {c c' : am_C} (h : am_step c = some (.inl c')) : am_run c = am_run c' := by
  refine am_run_eq (fun n r hn => ?_) (fun n r hn => ⟨n + 1, by rw [am_ex, h]; exact hn⟩)
  cases n with
  | zero => simp [am_ex] at hn
  | succ n => rw [am_ex, h] at hn; exact ⟨n, hn⟩
theorem am_done {c : am_C} {r : am_R} (h : am_step c = some (.inr (.inl r))) : am_run c = some r := am_run_of (n := 1) (by rw [am_ex, h])
def am_fin (x : am_C ⊕ am_R) (f : am_C → Option am_R) : Option am_R := match x with
  | .inl c => f c
  | .inr r => some r
theorem am_calls {c c' : am_C} {k : am_R → Option (am_C ⊕ am_R)} {r : am_R} {x : am_C ⊕ am_R} (h : am_step c = some (.inr (.inr (c', k)))) (hr : am_run c' = some r) (hk : k r = some x) : am_run c = am_fin x am_run := by
  obtain ⟨n, hn⟩ := am_run_ex hr
  match x, hk with
  | .inr r2, hk => exact am_run_of (n := n + 1) (by rw [am_ex, h]; dsimp only; rw [hn]; dsimp only; rw [hk])
  | .inl c2, hk =>
    refine am_run_eq (fun m q hm => ?_) (fun m q hm => ?_)
    · cases m with
      | zero => simp [am_ex] at hm
      | succ m =>
        rw [am_ex, h] at hm
        dsimp only at hm
        cases h1 : am_ex m c' with
        | none => simp [h1] at hm
        | some r1 =>
          cases am_det h1 hn
          rw [h1] at hm
          dsimp only at hm
          rw [hk] at hm
          exact ⟨m, hm⟩
    · refine ⟨max n m + 1, ?_⟩
      rw [am_ex, h]
      dsimp only
      rw [am_mono_le (Nat.le_max_left n m) hn]
      dsimp only
      rw [hk]
      exact am_mono_le (Nat.le_max_right n m) hm
/-- the machine from a place of a method -/
noncomputable def rn (M pc : Nat) (ls st : List Value) (σ : am_S) : Option am_R := am_run (M, pc, ls, st, σ)
/-- a method called -/
noncomputable def cl (M : Nat) (As : List Value) (σ : am_S) : Option am_R := rn M 0 (As ++ List.replicate (am_nL M - As.length) am_jk) [] σ

