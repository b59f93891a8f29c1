def zzR : Nat → String := fun o => match o with
  | 0 => RX0
  | 1 => RX1
  | 2 => RX2
  | 3 => RX3
  | 4 => RX4
  | 5 => RL
  | 6 => RJ6
  | 7 => RJ7
  | _ => RJ9
def zzML0 : List (MethodName × ByteArray × Nat × Option FieldType × Nat × Nat × Bool) := [(yX3_letter, cX3_letter, 2, (some .int), 3, 1, false), (yX3_blank, cX3_blank, 2, (some .int), 3, 0, false), (yX3_fault, cX3_fault, 3, (some .int), 3, 0, false), (yX3_isSign, cX3_isSign, 1, (some .boolean), 3, 1, true), (yX3_sea, cX3_sea, 2, (some .int), 3, 0, false), (yX2_clear, cX2_clear, 1, none, 2, 0, false), (yX3_currentOf, cX3_currentOf, 1, (some .int), 3, 1, true), (yX2_currents, cX2_currents, 3, (some .int), 2, 0, false), (yX3_place, cX3_place, 3, (some .int), 3, 2, false), (yX3_isPlace, cX3_isPlace, 2, (some .boolean), 3, 1, false), (yX2_islandAt, cX2_islandAt, 3, (some .int), 2, 1, false), (yX3_wind, cX3_wind, 3, (some .int), 3, 1, false), (yX3_island, cX3_island, 4, (some .int), 3, 3, false), (yX3_isKind, cX3_isKind, 1, (some .boolean), 3, 1, true), (yX2_add, cX2_add, 5, (some .int), 2, 3, false), (yX3_about, cX3_about, 3, (some .int), 3, 2, false), (yX3_isIsland, cX3_isIsland, 2, (some .boolean), 3, 1, false), (yX2_pushOf, cX2_pushOf, 4, (some .int), 2, 1, false), (yX2_isAnchored, cX2_isAnchored, 2, (some .boolean), 2, 1, false), (yX2_neighbours, cX2_neighbours, 4, (some .int), 2, 1, false)]
def zzML1 : List (MethodName × ByteArray × Nat × Option FieldType × Nat × Nat × Bool) := [(yX2_areBeside, cX2_areBeside, 3, (some .boolean), 2, 2, false), (yX2_stepped, cX2_stepped, 3, (some .int), 2, 2, true), (yX3_as, cX3_as, 5, (some .int), 3, 2, false), (yX3_anchor, cX3_anchor, 4, (some .int), 3, 2, false), (yX3_wed, cX3_wed, 3, (some .int), 3, 2, false), (yX3_areTwo, cX3_areTwo, 3, (some .boolean), 3, 2, false), (yX2_areRoped, cX2_areRoped, 3, (some .boolean), 2, 2, false), (yX2_tie, cX2_tie, 3, none, 2, 2, false), (yX2_findParties, cX2_findParties, 2, none, 2, 0, false), (yX2_tiedTo, cX2_tiedTo, 5, (some .int), 2, 1, false), (yX3_axe, cX3_axe, 3, (some .int), 3, 2, false), (yX2_cut, cX2_cut, 3, none, 2, 2, false), (yX3_day, cX3_day, 1, (some .int), 3, 0, false), (yX2_drift, cX2_drift, 3, (some .int), 2, 0, false), (yX2_leads, cX2_leads, 2, (some .boolean), 2, 1, false), (yX2_moves, cX2_moves, 4, (some .boolean), 2, 1, false), (yX2_stepOf, cX2_stepOf, 4, (some .int), 2, 1, false), (yJ6_compare_7cf53, cJ6_compare_7cf53, 2, (some .int), 6, 2, true), (yX2_isBarred, cX2_isBarred, 6, (some .boolean), 2, 2, false), (yX3_meet, cX3_meet, 3, (some .int), 3, 2, false)]
def zzML2 : List (MethodName × ByteArray × Nat × Option FieldType × Nat × Nat × Bool) := [(yX3_firstMeeting, cX3_firstMeeting, 6, (some .int), 3, 4, false), (yX2_copy, cX2_copy, 2, none, 2, 1, false), (yX3_anchors, cX3_anchors, 6, (some .int), 3, 4, false), (yX3_fewestAnchors, cX3_fewestAnchors, 7, (some .int), 3, 3, false), (yJ6_bitCount_0f7a4, cJ6_bitCount_0f7a4, 1, (some .int), 6, 1, true), (yX3_stable, cX3_stable, 3, (some .int), 3, 1, false), (yX3_meetAll, cX3_meetAll, 3, none, 3, 1, false), (yJ7_fill_53178, cJ7_fill_53178, 4, none, 7, 2, true), (yX2_noteMeetings, cX2_noteMeetings, 5, none, 2, 2, false), (yX0_solve, cX0_solve, 6, none, 0, 2, false), (yX0_goThrough, cX0_goThrough, 4, none, 0, 2, false), (yX0_weigh, cX0_weigh, 2, none, 0, 1, false), (yX0_isStable, cX0_isStable, 4, (some .boolean), 0, 0, false), (yX0_likesBetter, cX0_likesBetter, 3, (some .boolean), 0, 2, false), (yX3_matchesTell, cX3_matchesTell, 3, (some .int), 3, 1, false), (yX3_parting, cX3_parting, 3, (some .int), 3, 2, false), (yX2_fewestCuts, cX2_fewestCuts, 6, (some .int), 2, 2, false), (yX2_ropesOutOf, cX2_ropesOutOf, 4, (some .int), 2, 1, false), (yX3_shell, cX3_shell, 5, (some .int), 3, 4, false), (yX1_add, cX1_add, 5, (some .int), 1, 4, false)]
def zzML3 : List (MethodName × ByteArray × Nat × Option FieldType × Nat × Nat × Bool) := [(yX3_forget, cX3_forget, 2, (some .int), 3, 0, false), (yX3_guess, cX3_guess, 8, (some .int), 3, 2, false), (yX3_shellsWouldHold, cX3_shellsWouldHold, 6, (some .boolean), 3, 3, false), (yX1_lastDay, cX1_lastDay, 3, (some .int), 1, 0, false), (yX1_holdOn, cX1_holdOn, 4, (some .boolean), 1, 2, false), (yX3_seasons, cX3_seasons, 7, (some .int), 3, 3, false), (yX3_nextSeed, cX3_nextSeed, 1, (some .int), 3, 1, true), (yX2_pairsBeside, cX2_pairsBeside, 3, (some .int), 2, 0, false), (yX3_image, cX3_image, 1, (some .int), 3, 0, false), (yX1_copy, cX1_copy, 3, none, 1, 1, false), (yX3_restore, cX3_restore, 1, (some .int), 3, 0, false), (yX3_count, cX3_count, 2, (some .int), 3, 1, false), (yX2_parties, cX2_parties, 3, (some .int), 2, 0, false), (yX3_digest, cX3_digest, 4, (some .long), 3, 0, false), (yX3_digestIslands, cX3_digestIslands, 7, (some .long), 3, 1, false), (yX3_digestMatches, cX3_digestMatches, 6, (some .long), 3, 1, false), (yX4_letter, cX4_letter, 2, (some .int), 4, 1, false), (yX4_in, cX4_in, 6, (some .boolean), 4, 3, true), (yX4_blank, cX4_blank, 2, (some .int), 4, 0, false), (yX4_fault, cX4_fault, 1, (some .int), 4, 0, false)]
def zzML4 : List (MethodName × ByteArray × Nat × Option FieldType × Nat × Nat × Bool) := [(yX4_faultOf, cX4_faultOf, 2, (some .int), 4, 0, false), (yX4_sea, cX4_sea, 2, (some .int), 4, 0, false), (yX4_currentMany, cX4_currentMany, 3, (some .int), 4, 0, false), (yX4_place, cX4_place, 3, (some .int), 4, 2, false), (yX4_whoIsAt, cX4_whoIsAt, 4, (some .int), 4, 1, false), (yX4_wind, cX4_wind, 3, (some .int), 4, 1, false), (yX4_island, cX4_island, 4, (some .int), 4, 3, false), (yX4_about, cX4_about, 3, (some .int), 4, 2, false), (yX4_isIsland, cX4_isIsland, 2, (some .boolean), 4, 1, false), (yX4_tell, cX4_tell, 3, (some .int), 4, 2, false), (yX4_asItIs, cX4_asItIs, 2, none, 4, 0, false), (yX4_pushOf, cX4_pushOf, 3, (some .int), 4, 1, false), (yX4_partyOf, cX4_partyOf, 2, (some .int), 4, 1, false), (yX4_partyBy, cX4_partyBy, 7, (some .int), 4, 2, false), (yX4_besideBits, cX4_besideBits, 4, (some .int), 4, 1, false), (yX4_areBeside, cX4_areBeside, 2, (some .boolean), 4, 2, true), (yX4_ropedBits, cX4_ropedBits, 4, (some .int), 4, 1, false), (yX4_areRoped, cX4_areRoped, 5, (some .boolean), 4, 2, false), (yX4_as, cX4_as, 5, (some .int), 4, 2, false), (yX4_anchor, cX4_anchor, 4, (some .int), 4, 2, false)]
def zzML5 : List (MethodName × ByteArray × Nat × Option FieldType × Nat × Nat × Bool) := [(yX4_wed, cX4_wed, 3, (some .int), 4, 2, false), (yX4_arePair, cX4_arePair, 3, (some .boolean), 4, 2, false), (yX4_axe, cX4_axe, 8, (some .int), 4, 2, false), (yX4_day, cX4_day, 3, (some .int), 4, 0, false), (yX4_passes, cX4_passes, 3, (some .int), 4, 0, false), (yX4_isFirst, cX4_isFirst, 2, (some .boolean), 4, 1, false), (yX4_drifts, cX4_drifts, 7, (some .int), 4, 1, false), (yX4_meet, cX4_meet, 3, (some .int), 4, 2, false), (yX4_meetBy, cX4_meetBy, 7, (some .int), 4, 4, false), (yX4_anchors, cX4_anchors, 6, (some .int), 4, 4, false), (yX4_anchorsOf, cX4_anchorsOf, 7, (some .int), 4, 3, false), (yX4_ones, cX4_ones, 3, (some .int), 4, 1, true), (yX4_stable, cX4_stable, 2, (some .int), 4, 1, false), (yX4_layStable, cX4_layStable, 5, none, 4, 0, false), (yX4_isMatch, cX4_isMatch, 5, (some .boolean), 4, 1, false), (yX4_isStable, cX4_isStable, 5, (some .boolean), 4, 0, false), (yX4_likes, cX4_likes, 3, (some .boolean), 4, 2, false), (yX4_copy, cX4_copy, 3, none, 4, 2, true), (yX4_tellStable, cX4_tellStable, 2, (some .int), 4, 1, false), (yX4_parting, cX4_parting, 6, (some .int), 4, 2, false)]
def zzML6 : List (MethodName × ByteArray × Nat × Option FieldType × Nat × Nat × Bool) := [(yX4_shell, cX4_shell, 5, (some .int), 4, 4, false), (yX4_forget, cX4_forget, 2, (some .int), 4, 0, false), (yX4_guess, cX4_guess, 3, (some .int), 4, 2, false), (yX4_guessOf, cX4_guessOf, 7, (some .int), 4, 2, false), (yX4_isSo, cX4_isSo, 8, (some .boolean), 4, 3, false), (yX4_seasons, cX4_seasons, 8, (some .int), 4, 3, false), (yX4_draw, cX4_draw, 2, (some .int), 4, 1, false), (yX4_image, cX4_image, 1, (some .int), 4, 0, false), (yX4_restore, cX4_restore, 1, (some .int), 4, 0, false), (yX4_count, cX4_count, 2, (some .int), 4, 1, false), (yX4_countOf, cX4_countOf, 2, (some .int), 4, 1, false), (yX4_partyMany, cX4_partyMany, 3, (some .int), 4, 0, false), (yX4_digest, cX4_digest, 2, (some .long), 4, 0, false), (yX4_say, cX4_say, 3, none, 4, 1, false), (yX4_sayIsland, cX4_sayIsland, 3, none, 4, 1, false)]
def zzML : List (MethodName × ByteArray × Nat × Option FieldType × Nat × Nat × Bool) := zzML0 ++ (zzML1 ++ (zzML2 ++ (zzML3 ++ (zzML4 ++ (zzML5 ++ (zzML6))))))
def zzNM : Nat := 135
def zzm (k : Nat) : MethodName × ByteArray × Nat × Option FieldType × Nat × Nat × Bool := zzML.getD k (yX3_letter, cX3_letter, 0, none, 0, 0, false)
def zzy (k : Nat) : MethodName := (zzm k).1
def zzc (k : Nat) : ByteArray := (zzm k).2.1
def zzl (k : Nat) : Nat := (zzm k).2.2.1
def zzr (k : Nat) : Option FieldType := (zzm k).2.2.2.1
def zzo (k : Nat) : Nat := (zzm k).2.2.2.2.1
def zzn (k : Nat) : Nat := (zzm k).2.2.2.2.2.1
def zzs (k : Nat) : Bool := (zzm k).2.2.2.2.2.2
def zzfT : List ((Nat × Nat) × (Nat × Nat × Bool)) := [((2, 9), (2, 0, false)), ((3, 80), (2, 0, true)), ((2, 15), (2, 1, false)), ((3, 115), (2, 1, true)), ((2, 18), (2, 2, false)), ((0, 37), (2, 2, true)), ((3, 118), (2, 2, true)), ((2, 21), (2, 3, false)), ((3, 121), (2, 3, true)), ((2, 24), (2, 4, false)), ((3, 136), (2, 4, true)), ((2, 27), (2, 5, false)), ((3, 130), (2, 5, true)), ((2, 30), (2, 6, false)), ((0, 34), (2, 6, true)), ((3, 105), (2, 6, true)), ((2, 34), (2, 7, false)), ((3, 152), (2, 7, true)), ((2, 37), (2, 8, false)), ((3, 139), (2, 8, true)), ((2, 40), (2, 9, false)), ((3, 99), (2, 9, true)), ((2, 43), (2, 10, false)), ((3, 211), (2, 10, true)), ((2, 46), (2, 11, false)), ((3, 217), (2, 11, true)), ((1, 9), (1, 0, false)), ((1, 15), (1, 1, false)), ((1, 18), (1, 2, false)), ((1, 21), (1, 3, false)), ((1, 25), (1, 4, false)), ((3, 87), (1, 4, true)), ((0, 9), (0, 0, false)), ((0, 15), (0, 1, false)), ((0, 18), (0, 2, false)), ((0, 21), (0, 3, false)), ((3, 258), (0, 3, true)), ((0, 24), (0, 4, false)), ((0, 28), (0, 5, false)), ((3, 249), (0, 5, true)), ((0, 31), (0, 6, false)), ((3, 252), (0, 6, true)), ((3, 9), (3, 0, false)), ((3, 13), (3, 1, false)), ((3, 17), (3, 2, false)), ((3, 21), (3, 3, false)), ((3, 24), (3, 4, false)), ((3, 27), (3, 5, false)), ((3, 33), (3, 6, false)), ((3, 37), (3, 7, false)), ((3, 40), (3, 8, false)), ((3, 46), (3, 9, false)), ((3, 50), (3, 10, false)), ((3, 53), (3, 11, false)), ((3, 59), (3, 12, false)), ((4, 7), (4, 0, false)), ((4, 56), (4, 1, false)), ((4, 63), (4, 2, false)), ((4, 67), (4, 3, false)), ((4, 70), (4, 4, false)), ((4, 73), (4, 5, false)), ((4, 85), (4, 6, false)), ((4, 13), (4, 7, false)), ((4, 76), (4, 8, false)), ((4, 79), (4, 9, false)), ((4, 16), (4, 10, false)), ((4, 19), (4, 11, false)), ((4, 22), (4, 12, false)), ((4, 107), (4, 13, false)), ((4, 110), (4, 14, false)), ((4, 113), (4, 15, false)), ((4, 166), (4, 16, false)), ((4, 25), (4, 17, false)), ((4, 28), (4, 18, false)), ((4, 31), (4, 19, false)), ((4, 176), (4, 20, false)), ((4, 179), (4, 21, false)), ((4, 82), (4, 22, false)), ((4, 34), (4, 23, false)), ((4, 214), (4, 24, false)), ((4, 46), (4, 25, false)), ((4, 229), (4, 26, false)), ((4, 232), (4, 27, false)), ((4, 235), (4, 28, false)), ((4, 238), (4, 29, false)), ((4, 241), (4, 30, false)), ((4, 244), (4, 31, false)), ((4, 37), (4, 32, false)), ((4, 40), (4, 33, false)), ((4, 43), (4, 34, false)), ((4, 255), (4, 35, false))]
def zzf (o idx : Nat) : Option (Nat × Nat × Bool) := zzfT.lookup (o, idx)
def zzmT : List ((Nat × Nat) × (Nat × Nat)) := [((5, 13), (0, 0)), ((5, 18), (0, 1)), ((5, 23), (0, 2)), ((3, 69), (2, 3)), ((5, 27), (0, 4)), ((3, 73), (0, 2)), ((3, 77), (1, 5)), ((3, 83), (2, 6)), ((3, 90), (1, 7)), ((5, 31), (0, 8)), ((3, 93), (0, 9)), ((3, 96), (1, 10)), ((5, 36), (0, 11)), ((5, 40), (0, 12)), ((3, 102), (2, 13)), ((3, 108), (1, 14)), ((5, 45), (0, 15)), ((3, 112), (0, 16)), ((3, 124), (1, 17)), ((3, 127), (1, 18)), ((3, 133), (1, 19)), ((2, 65), (0, 20)), ((2, 61), (2, 21)), ((5, 49), (0, 22)), ((5, 53), (0, 23)), ((5, 58), (0, 24)), ((3, 142), (0, 25)), ((3, 146), (1, 26)), ((3, 149), (1, 20)), ((3, 155), (1, 27)), ((2, 78), (0, 28)), ((2, 81), (0, 29)), ((5, 62), (0, 30)), ((3, 159), (1, 31)), ((5, 66), (0, 32)), ((3, 162), (1, 33)), ((2, 84), (0, 34)), ((2, 96), (0, 35)), ((2, 99), (0, 36)), ((2, 105), (0, 17)), ((2, 108), (2, 37)), ((2, 102), (0, 38)), ((5, 70), (0, 39)), ((3, 165), (0, 40)), ((3, 198), (1, 41)), ((5, 74), (0, 42)), ((3, 169), (0, 43)), ((3, 172), (2, 44)), ((5, 79), (0, 45)), ((3, 177), (0, 46)), ((3, 240), (2, 47)), ((3, 246), (1, 48)), ((3, 181), (1, 49)), ((0, 38), (2, 47)), ((0, 44), (0, 50)), ((0, 48), (0, 51)), ((0, 52), (0, 52)), ((0, 62), (0, 53)), ((3, 185), (0, 54)), ((5, 83), (0, 55)), ((3, 188), (1, 56)), ((2, 88), (0, 57)), ((2, 73), (2, 44)), ((5, 87), (0, 58)), ((3, 191), (1, 59)), ((5, 92), (0, 60)), ((5, 96), (0, 61)), ((3, 194), (0, 62)), ((3, 261), (1, 63)), ((3, 264), (1, 64)), ((1, 35), (1, 20)), ((5, 100), (0, 65)), ((3, 202), (2, 66)), ((3, 205), (1, 67)), ((2, 69), (0, 19)), ((5, 104), (0, 68)), ((3, 208), (1, 69)), ((5, 108), (0, 70)), ((5, 112), (0, 71)), ((3, 214), (1, 72)), ((5, 116), (0, 73)), ((3, 224), (0, 74)), ((3, 268), (0, 15)), ((3, 228), (0, 75)), ((3, 231), (0, 71)), ((5, 17), (0, 76)), ((4, 52), (2, 77)), ((5, 22), (0, 78)), ((5, 26), (0, 79)), ((4, 59), (0, 80)), ((5, 30), (0, 81)), ((4, 88), (0, 82)), ((5, 35), (0, 83)), ((4, 97), (0, 84)), ((5, 39), (0, 85)), ((5, 44), (0, 86)), ((5, 48), (0, 87)), ((4, 91), (0, 88)), ((4, 148), (0, 89)), ((4, 139), (0, 90)), ((4, 123), (0, 91)), ((4, 120), (0, 92)), ((4, 116), (0, 93)), ((4, 142), (0, 94)), ((4, 132), (2, 95)), ((4, 145), (0, 96)), ((4, 136), (0, 97)), ((5, 52), (0, 98)), ((5, 57), (0, 99)), ((5, 61), (0, 100)), ((4, 151), (0, 101)), ((5, 65), (0, 102)), ((5, 69), (0, 103)), ((4, 154), (0, 104)), ((4, 126), (0, 105)), ((4, 129), (0, 106)), ((5, 73), (0, 107)), ((4, 157), (0, 108)), ((5, 78), (0, 109)), ((4, 169), (0, 110)), ((4, 161), (2, 111)), ((5, 82), (0, 112)), ((4, 197), (0, 113)), ((4, 182), (0, 114)), ((4, 185), (0, 115)), ((4, 173), (0, 116)), ((4, 189), (2, 117)), ((4, 200), (0, 118)), ((5, 86), (0, 119)), ((5, 91), (0, 120)), ((5, 95), (0, 121)), ((5, 99), (0, 122)), ((4, 209), (0, 123)), ((4, 205), (0, 124)), ((5, 103), (0, 125)), ((4, 226), (0, 126)), ((5, 107), (0, 127)), ((5, 111), (0, 128)), ((5, 115), (0, 129)), ((4, 250), (0, 130)), ((4, 247), (0, 131)), ((5, 120), (0, 132)), ((4, 259), (0, 133)), ((4, 265), (0, 134))]
def zzmt (o idx : Nat) : Option (Nat × Nat) := zzmT.lookup (o, idx)
def zzac (o idx : Nat) : Bool := [(2, 49), (0, 56)].contains (o, idx)
def zzmn (o idx : Nat) : Bool := [(3, 63), (2, 91)].contains (o, idx)
def zzmx (o idx : Nat) : Bool := [(3, 255), (1, 29)].contains (o, idx)
def zzkiT : List ((Nat × Nat) × Int32) := [((6, 265), 1431655765), ((6, 266), 858993459), ((6, 267), 252645135), ((4, 221), 65536)]
def zzki (o idx : Nat) : Option Int32 := zzkiT.lookup (o, idx)
def zzklT : List ((Nat × Nat) × Int64) := [((3, 234), 1103515245), ((3, 236), 12345), ((3, 238), 2147483647), ((3, 220), 857), ((3, 222), 31), ((4, 50), 126), ((4, 95), 11), ((4, 101), -1), ((4, 103), 4), ((4, 105), 9), ((4, 164), 30), ((4, 193), 10), ((4, 195), 14), ((4, 203), 20), ((4, 222), 60), ((4, 224), 2), ((4, 212), 1103515245), ((4, 217), 12345), ((4, 219), 2147483647), ((4, 263), 857), ((4, 253), 31)]
def zzkl (o idx : Nat) : Option Int64 := zzklT.lookup (o, idx)
theorem zf_2_9 : zzf 2 9 = some (2, 0, false) := by decide +kernel
theorem zf_3_80 : zzf 3 80 = some (2, 0, true) := by decide +kernel
theorem zf_2_15 : zzf 2 15 = some (2, 1, false) := by decide +kernel
theorem zf_3_115 : zzf 3 115 = some (2, 1, true) := by decide +kernel
theorem zf_2_18 : zzf 2 18 = some (2, 2, false) := by decide +kernel
theorem zf_0_37 : zzf 0 37 = some (2, 2, true) := by decide +kernel
theorem zf_3_118 : zzf 3 118 = some (2, 2, true) := by decide +kernel
theorem zf_2_21 : zzf 2 21 = some (2, 3, false) := by decide +kernel
theorem zf_3_121 : zzf 3 121 = some (2, 3, true) := by decide +kernel
theorem zf_2_24 : zzf 2 24 = some (2, 4, false) := by decide +kernel
theorem zf_3_136 : zzf 3 136 = some (2, 4, true) := by decide +kernel
theorem zf_2_27 : zzf 2 27 = some (2, 5, false) := by decide +kernel
theorem zf_3_130 : zzf 3 130 = some (2, 5, true) := by decide +kernel
theorem zf_2_30 : zzf 2 30 = some (2, 6, false) := by decide +kernel
theorem zf_0_34 : zzf 0 34 = some (2, 6, true) := by decide +kernel
theorem zf_3_105 : zzf 3 105 = some (2, 6, true) := by decide +kernel
theorem zf_2_34 : zzf 2 34 = some (2, 7, false) := by decide +kernel
theorem zf_3_152 : zzf 3 152 = some (2, 7, true) := by decide +kernel
theorem zf_2_37 : zzf 2 37 = some (2, 8, false) := by decide +kernel
theorem zf_3_139 : zzf 3 139 = some (2, 8, true) := by decide +kernel
theorem zf_2_40 : zzf 2 40 = some (2, 9, false) := by decide +kernel
theorem zf_3_99 : zzf 3 99 = some (2, 9, true) := by decide +kernel
theorem zf_2_43 : zzf 2 43 = some (2, 10, false) := by decide +kernel
theorem zf_3_211 : zzf 3 211 = some (2, 10, true) := by decide +kernel
theorem zf_2_46 : zzf 2 46 = some (2, 11, false) := by decide +kernel
theorem zf_3_217 : zzf 3 217 = some (2, 11, true) := by decide +kernel
theorem zf_1_9 : zzf 1 9 = some (1, 0, false) := by decide +kernel
theorem zf_1_15 : zzf 1 15 = some (1, 1, false) := by decide +kernel
theorem zf_1_18 : zzf 1 18 = some (1, 2, false) := by decide +kernel
theorem zf_1_21 : zzf 1 21 = some (1, 3, false) := by decide +kernel
theorem zf_1_25 : zzf 1 25 = some (1, 4, false) := by decide +kernel
theorem zf_3_87 : zzf 3 87 = some (1, 4, true) := by decide +kernel
theorem zf_0_9 : zzf 0 9 = some (0, 0, false) := by decide +kernel
theorem zf_0_15 : zzf 0 15 = some (0, 1, false) := by decide +kernel
theorem zf_0_18 : zzf 0 18 = some (0, 2, false) := by decide +kernel
theorem zf_0_21 : zzf 0 21 = some (0, 3, false) := by decide +kernel
theorem zf_3_258 : zzf 3 258 = some (0, 3, true) := by decide +kernel
theorem zf_0_24 : zzf 0 24 = some (0, 4, false) := by decide +kernel
theorem zf_0_28 : zzf 0 28 = some (0, 5, false) := by decide +kernel
theorem zf_3_249 : zzf 3 249 = some (0, 5, true) := by decide +kernel
theorem zf_0_31 : zzf 0 31 = some (0, 6, false) := by decide +kernel
theorem zf_3_252 : zzf 3 252 = some (0, 6, true) := by decide +kernel
theorem zf_3_9 : zzf 3 9 = some (3, 0, false) := by decide +kernel
theorem zf_3_13 : zzf 3 13 = some (3, 1, false) := by decide +kernel
theorem zf_3_17 : zzf 3 17 = some (3, 2, false) := by decide +kernel
theorem zf_3_21 : zzf 3 21 = some (3, 3, false) := by decide +kernel
theorem zf_3_24 : zzf 3 24 = some (3, 4, false) := by decide +kernel
theorem zf_3_27 : zzf 3 27 = some (3, 5, false) := by decide +kernel
theorem zf_3_33 : zzf 3 33 = some (3, 6, false) := by decide +kernel
theorem zf_3_37 : zzf 3 37 = some (3, 7, false) := by decide +kernel
theorem zf_3_40 : zzf 3 40 = some (3, 8, false) := by decide +kernel
theorem zf_3_46 : zzf 3 46 = some (3, 9, false) := by decide +kernel
theorem zf_3_50 : zzf 3 50 = some (3, 10, false) := by decide +kernel
theorem zf_3_53 : zzf 3 53 = some (3, 11, false) := by decide +kernel
theorem zf_3_59 : zzf 3 59 = some (3, 12, false) := by decide +kernel
theorem zf_4_7 : zzf 4 7 = some (4, 0, false) := by decide +kernel
theorem zf_4_56 : zzf 4 56 = some (4, 1, false) := by decide +kernel
theorem zf_4_63 : zzf 4 63 = some (4, 2, false) := by decide +kernel
theorem zf_4_67 : zzf 4 67 = some (4, 3, false) := by decide +kernel
theorem zf_4_70 : zzf 4 70 = some (4, 4, false) := by decide +kernel
theorem zf_4_73 : zzf 4 73 = some (4, 5, false) := by decide +kernel
theorem zf_4_85 : zzf 4 85 = some (4, 6, false) := by decide +kernel
theorem zf_4_13 : zzf 4 13 = some (4, 7, false) := by decide +kernel
theorem zf_4_76 : zzf 4 76 = some (4, 8, false) := by decide +kernel
theorem zf_4_79 : zzf 4 79 = some (4, 9, false) := by decide +kernel
theorem zf_4_16 : zzf 4 16 = some (4, 10, false) := by decide +kernel
theorem zf_4_19 : zzf 4 19 = some (4, 11, false) := by decide +kernel
theorem zf_4_22 : zzf 4 22 = some (4, 12, false) := by decide +kernel
theorem zf_4_107 : zzf 4 107 = some (4, 13, false) := by decide +kernel
theorem zf_4_110 : zzf 4 110 = some (4, 14, false) := by decide +kernel
theorem zf_4_113 : zzf 4 113 = some (4, 15, false) := by decide +kernel
theorem zf_4_166 : zzf 4 166 = some (4, 16, false) := by decide +kernel
theorem zf_4_25 : zzf 4 25 = some (4, 17, false) := by decide +kernel
theorem zf_4_28 : zzf 4 28 = some (4, 18, false) := by decide +kernel
theorem zf_4_31 : zzf 4 31 = some (4, 19, false) := by decide +kernel
theorem zf_4_176 : zzf 4 176 = some (4, 20, false) := by decide +kernel
theorem zf_4_179 : zzf 4 179 = some (4, 21, false) := by decide +kernel
theorem zf_4_82 : zzf 4 82 = some (4, 22, false) := by decide +kernel
theorem zf_4_34 : zzf 4 34 = some (4, 23, false) := by decide +kernel
theorem zf_4_214 : zzf 4 214 = some (4, 24, false) := by decide +kernel
theorem zf_4_46 : zzf 4 46 = some (4, 25, false) := by decide +kernel
theorem zf_4_229 : zzf 4 229 = some (4, 26, false) := by decide +kernel
theorem zf_4_232 : zzf 4 232 = some (4, 27, false) := by decide +kernel
theorem zf_4_235 : zzf 4 235 = some (4, 28, false) := by decide +kernel
theorem zf_4_238 : zzf 4 238 = some (4, 29, false) := by decide +kernel
theorem zf_4_241 : zzf 4 241 = some (4, 30, false) := by decide +kernel
theorem zf_4_244 : zzf 4 244 = some (4, 31, false) := by decide +kernel
theorem zf_4_37 : zzf 4 37 = some (4, 32, false) := by decide +kernel
theorem zf_4_40 : zzf 4 40 = some (4, 33, false) := by decide +kernel
theorem zf_4_43 : zzf 4 43 = some (4, 34, false) := by decide +kernel
theorem zf_4_255 : zzf 4 255 = some (4, 35, false) := by decide +kernel
theorem zm_5_13 : zzmt 5 13 = some (0, 0) := by decide +kernel
theorem zm_5_18 : zzmt 5 18 = some (0, 1) := by decide +kernel
theorem zm_5_23 : zzmt 5 23 = some (0, 2) := by decide +kernel
theorem zm_3_69 : zzmt 3 69 = some (2, 3) := by decide +kernel
theorem zm_5_27 : zzmt 5 27 = some (0, 4) := by decide +kernel
theorem zm_3_73 : zzmt 3 73 = some (0, 2) := by decide +kernel
theorem zm_3_77 : zzmt 3 77 = some (1, 5) := by decide +kernel
theorem zm_3_83 : zzmt 3 83 = some (2, 6) := by decide +kernel
theorem zm_3_90 : zzmt 3 90 = some (1, 7) := by decide +kernel
theorem zm_5_31 : zzmt 5 31 = some (0, 8) := by decide +kernel
theorem zm_3_93 : zzmt 3 93 = some (0, 9) := by decide +kernel
theorem zm_3_96 : zzmt 3 96 = some (1, 10) := by decide +kernel
theorem zm_5_36 : zzmt 5 36 = some (0, 11) := by decide +kernel
theorem zm_5_40 : zzmt 5 40 = some (0, 12) := by decide +kernel
theorem zm_3_102 : zzmt 3 102 = some (2, 13) := by decide +kernel
theorem zm_3_108 : zzmt 3 108 = some (1, 14) := by decide +kernel
theorem zm_5_45 : zzmt 5 45 = some (0, 15) := by decide +kernel
theorem zm_3_112 : zzmt 3 112 = some (0, 16) := by decide +kernel
theorem zm_3_124 : zzmt 3 124 = some (1, 17) := by decide +kernel
theorem zm_3_127 : zzmt 3 127 = some (1, 18) := by decide +kernel
theorem zm_3_133 : zzmt 3 133 = some (1, 19) := by decide +kernel
theorem zm_2_65 : zzmt 2 65 = some (0, 20) := by decide +kernel
theorem zm_2_61 : zzmt 2 61 = some (2, 21) := by decide +kernel
theorem zm_5_49 : zzmt 5 49 = some (0, 22) := by decide +kernel
theorem zm_5_53 : zzmt 5 53 = some (0, 23) := by decide +kernel
theorem zm_5_58 : zzmt 5 58 = some (0, 24) := by decide +kernel
theorem zm_3_142 : zzmt 3 142 = some (0, 25) := by decide +kernel
theorem zm_3_146 : zzmt 3 146 = some (1, 26) := by decide +kernel
theorem zm_3_149 : zzmt 3 149 = some (1, 20) := by decide +kernel
theorem zm_3_155 : zzmt 3 155 = some (1, 27) := by decide +kernel
theorem zm_2_78 : zzmt 2 78 = some (0, 28) := by decide +kernel
theorem zm_2_81 : zzmt 2 81 = some (0, 29) := by decide +kernel
theorem zm_5_62 : zzmt 5 62 = some (0, 30) := by decide +kernel
theorem zm_3_159 : zzmt 3 159 = some (1, 31) := by decide +kernel
theorem zm_5_66 : zzmt 5 66 = some (0, 32) := by decide +kernel
theorem zm_3_162 : zzmt 3 162 = some (1, 33) := by decide +kernel
theorem zm_2_84 : zzmt 2 84 = some (0, 34) := by decide +kernel
theorem zm_2_96 : zzmt 2 96 = some (0, 35) := by decide +kernel
theorem zm_2_99 : zzmt 2 99 = some (0, 36) := by decide +kernel
theorem zm_2_105 : zzmt 2 105 = some (0, 17) := by decide +kernel
theorem zm_2_108 : zzmt 2 108 = some (2, 37) := by decide +kernel
theorem zm_2_102 : zzmt 2 102 = some (0, 38) := by decide +kernel
theorem zm_5_70 : zzmt 5 70 = some (0, 39) := by decide +kernel
theorem zm_3_165 : zzmt 3 165 = some (0, 40) := by decide +kernel
theorem zm_3_198 : zzmt 3 198 = some (1, 41) := by decide +kernel
theorem zm_5_74 : zzmt 5 74 = some (0, 42) := by decide +kernel
theorem zm_3_169 : zzmt 3 169 = some (0, 43) := by decide +kernel
theorem zm_3_172 : zzmt 3 172 = some (2, 44) := by decide +kernel
theorem zm_5_79 : zzmt 5 79 = some (0, 45) := by decide +kernel
theorem zm_3_177 : zzmt 3 177 = some (0, 46) := by decide +kernel
theorem zm_3_240 : zzmt 3 240 = some (2, 47) := by decide +kernel
theorem zm_3_246 : zzmt 3 246 = some (1, 48) := by decide +kernel
theorem zm_3_181 : zzmt 3 181 = some (1, 49) := by decide +kernel
theorem zm_0_38 : zzmt 0 38 = some (2, 47) := by decide +kernel
theorem zm_0_44 : zzmt 0 44 = some (0, 50) := by decide +kernel
theorem zm_0_48 : zzmt 0 48 = some (0, 51) := by decide +kernel
theorem zm_0_52 : zzmt 0 52 = some (0, 52) := by decide +kernel
theorem zm_0_62 : zzmt 0 62 = some (0, 53) := by decide +kernel
theorem zm_3_185 : zzmt 3 185 = some (0, 54) := by decide +kernel
theorem zm_5_83 : zzmt 5 83 = some (0, 55) := by decide +kernel
theorem zm_3_188 : zzmt 3 188 = some (1, 56) := by decide +kernel
theorem zm_2_88 : zzmt 2 88 = some (0, 57) := by decide +kernel
theorem zm_2_73 : zzmt 2 73 = some (2, 44) := by decide +kernel
theorem zm_5_87 : zzmt 5 87 = some (0, 58) := by decide +kernel
theorem zm_3_191 : zzmt 3 191 = some (1, 59) := by decide +kernel
theorem zm_5_92 : zzmt 5 92 = some (0, 60) := by decide +kernel
theorem zm_5_96 : zzmt 5 96 = some (0, 61) := by decide +kernel
theorem zm_3_194 : zzmt 3 194 = some (0, 62) := by decide +kernel
theorem zm_3_261 : zzmt 3 261 = some (1, 63) := by decide +kernel
theorem zm_3_264 : zzmt 3 264 = some (1, 64) := by decide +kernel
theorem zm_1_35 : zzmt 1 35 = some (1, 20) := by decide +kernel
theorem zm_5_100 : zzmt 5 100 = some (0, 65) := by decide +kernel
theorem zm_3_202 : zzmt 3 202 = some (2, 66) := by decide +kernel
theorem zm_3_205 : zzmt 3 205 = some (1, 67) := by decide +kernel
theorem zm_2_69 : zzmt 2 69 = some (0, 19) := by decide +kernel
theorem zm_5_104 : zzmt 5 104 = some (0, 68) := by decide +kernel
theorem zm_3_208 : zzmt 3 208 = some (1, 69) := by decide +kernel
theorem zm_5_108 : zzmt 5 108 = some (0, 70) := by decide +kernel
theorem zm_5_112 : zzmt 5 112 = some (0, 71) := by decide +kernel
theorem zm_3_214 : zzmt 3 214 = some (1, 72) := by decide +kernel
theorem zm_5_116 : zzmt 5 116 = some (0, 73) := by decide +kernel
theorem zm_3_224 : zzmt 3 224 = some (0, 74) := by decide +kernel
theorem zm_3_268 : zzmt 3 268 = some (0, 15) := by decide +kernel
theorem zm_3_228 : zzmt 3 228 = some (0, 75) := by decide +kernel
theorem zm_3_231 : zzmt 3 231 = some (0, 71) := by decide +kernel
theorem zm_5_17 : zzmt 5 17 = some (0, 76) := by decide +kernel
theorem zm_4_52 : zzmt 4 52 = some (2, 77) := by decide +kernel
theorem zm_5_22 : zzmt 5 22 = some (0, 78) := by decide +kernel
theorem zm_5_26 : zzmt 5 26 = some (0, 79) := by decide +kernel
theorem zm_4_59 : zzmt 4 59 = some (0, 80) := by decide +kernel
theorem zm_5_30 : zzmt 5 30 = some (0, 81) := by decide +kernel
theorem zm_4_88 : zzmt 4 88 = some (0, 82) := by decide +kernel
theorem zm_5_35 : zzmt 5 35 = some (0, 83) := by decide +kernel
theorem zm_4_97 : zzmt 4 97 = some (0, 84) := by decide +kernel
theorem zm_5_39 : zzmt 5 39 = some (0, 85) := by decide +kernel
theorem zm_5_44 : zzmt 5 44 = some (0, 86) := by decide +kernel
theorem zm_5_48 : zzmt 5 48 = some (0, 87) := by decide +kernel
theorem zm_4_91 : zzmt 4 91 = some (0, 88) := by decide +kernel
theorem zm_4_148 : zzmt 4 148 = some (0, 89) := by decide +kernel
theorem zm_4_139 : zzmt 4 139 = some (0, 90) := by decide +kernel
theorem zm_4_123 : zzmt 4 123 = some (0, 91) := by decide +kernel
theorem zm_4_120 : zzmt 4 120 = some (0, 92) := by decide +kernel
theorem zm_4_116 : zzmt 4 116 = some (0, 93) := by decide +kernel
theorem zm_4_142 : zzmt 4 142 = some (0, 94) := by decide +kernel
theorem zm_4_132 : zzmt 4 132 = some (2, 95) := by decide +kernel
theorem zm_4_145 : zzmt 4 145 = some (0, 96) := by decide +kernel
theorem zm_4_136 : zzmt 4 136 = some (0, 97) := by decide +kernel
theorem zm_5_52 : zzmt 5 52 = some (0, 98) := by decide +kernel
theorem zm_5_57 : zzmt 5 57 = some (0, 99) := by decide +kernel
theorem zm_5_61 : zzmt 5 61 = some (0, 100) := by decide +kernel
theorem zm_4_151 : zzmt 4 151 = some (0, 101) := by decide +kernel
theorem zm_5_65 : zzmt 5 65 = some (0, 102) := by decide +kernel
theorem zm_5_69 : zzmt 5 69 = some (0, 103) := by decide +kernel
theorem zm_4_154 : zzmt 4 154 = some (0, 104) := by decide +kernel
theorem zm_4_126 : zzmt 4 126 = some (0, 105) := by decide +kernel
theorem zm_4_129 : zzmt 4 129 = some (0, 106) := by decide +kernel
theorem zm_5_73 : zzmt 5 73 = some (0, 107) := by decide +kernel
theorem zm_4_157 : zzmt 4 157 = some (0, 108) := by decide +kernel
theorem zm_5_78 : zzmt 5 78 = some (0, 109) := by decide +kernel
theorem zm_4_169 : zzmt 4 169 = some (0, 110) := by decide +kernel
theorem zm_4_161 : zzmt 4 161 = some (2, 111) := by decide +kernel
theorem zm_5_82 : zzmt 5 82 = some (0, 112) := by decide +kernel
theorem zm_4_197 : zzmt 4 197 = some (0, 113) := by decide +kernel
theorem zm_4_182 : zzmt 4 182 = some (0, 114) := by decide +kernel
theorem zm_4_185 : zzmt 4 185 = some (0, 115) := by decide +kernel
theorem zm_4_173 : zzmt 4 173 = some (0, 116) := by decide +kernel
theorem zm_4_189 : zzmt 4 189 = some (2, 117) := by decide +kernel
theorem zm_4_200 : zzmt 4 200 = some (0, 118) := by decide +kernel
theorem zm_5_86 : zzmt 5 86 = some (0, 119) := by decide +kernel
theorem zm_5_91 : zzmt 5 91 = some (0, 120) := by decide +kernel
theorem zm_5_95 : zzmt 5 95 = some (0, 121) := by decide +kernel
theorem zm_5_99 : zzmt 5 99 = some (0, 122) := by decide +kernel
theorem zm_4_209 : zzmt 4 209 = some (0, 123) := by decide +kernel
theorem zm_4_205 : zzmt 4 205 = some (0, 124) := by decide +kernel
theorem zm_5_103 : zzmt 5 103 = some (0, 125) := by decide +kernel
theorem zm_4_226 : zzmt 4 226 = some (0, 126) := by decide +kernel
theorem zm_5_107 : zzmt 5 107 = some (0, 127) := by decide +kernel
theorem zm_5_111 : zzmt 5 111 = some (0, 128) := by decide +kernel
theorem zm_5_115 : zzmt 5 115 = some (0, 129) := by decide +kernel
theorem zm_4_250 : zzmt 4 250 = some (0, 130) := by decide +kernel
theorem zm_4_247 : zzmt 4 247 = some (0, 131) := by decide +kernel
theorem zm_5_120 : zzmt 5 120 = some (0, 132) := by decide +kernel
theorem zm_4_259 : zzmt 4 259 = some (0, 133) := by decide +kernel
theorem zm_4_265 : zzmt 4 265 = some (0, 134) := by decide +kernel
theorem zk_6_265 : zzki 6 265 = some 1431655765 := by decide +kernel
theorem zk_6_266 : zzki 6 266 = some 858993459 := by decide +kernel
theorem zk_6_267 : zzki 6 267 = some 252645135 := by decide +kernel
theorem zk_4_221 : zzki 4 221 = some 65536 := by decide +kernel
theorem zk_3_234 : zzkl 3 234 = some (1103515245) := by decide +kernel
theorem zk_3_236 : zzkl 3 236 = some (12345) := by decide +kernel
theorem zk_3_238 : zzkl 3 238 = some (2147483647) := by decide +kernel
theorem zk_3_220 : zzkl 3 220 = some (857) := by decide +kernel
theorem zk_3_222 : zzkl 3 222 = some (31) := by decide +kernel
theorem zk_4_50 : zzkl 4 50 = some (126) := by decide +kernel
theorem zk_4_95 : zzkl 4 95 = some (11) := by decide +kernel
theorem zk_4_101 : zzkl 4 101 = some (-1) := by decide +kernel
theorem zk_4_103 : zzkl 4 103 = some (4) := by decide +kernel
theorem zk_4_105 : zzkl 4 105 = some (9) := by decide +kernel
theorem zk_4_164 : zzkl 4 164 = some (30) := by decide +kernel
theorem zk_4_193 : zzkl 4 193 = some (10) := by decide +kernel
theorem zk_4_195 : zzkl 4 195 = some (14) := by decide +kernel
theorem zk_4_203 : zzkl 4 203 = some (20) := by decide +kernel
theorem zk_4_222 : zzkl 4 222 = some (60) := by decide +kernel
theorem zk_4_224 : zzkl 4 224 = some (2) := by decide +kernel
theorem zk_4_212 : zzkl 4 212 = some (1103515245) := by decide +kernel
theorem zk_4_217 : zzkl 4 217 = some (12345) := by decide +kernel
theorem zk_4_219 : zzkl 4 219 = some (2147483647) := by decide +kernel
theorem zk_4_263 : zzkl 4 263 = some (857) := by decide +kernel
theorem zk_4_253 : zzkl 4 253 = some (31) := by decide +kernel
theorem zn_3_63 : zzmn 3 63 = true := by decide +kernel
theorem zn_2_91 : zzmn 2 91 = true := by decide +kernel
theorem zx_3_255 : zzmx 3 255 = true := by decide +kernel
theorem zx_1_29 : zzmx 1 29 = true := by decide +kernel
theorem za_2_49 : zzac 2 49 = true := by decide +kernel
theorem za_0_56 : zzac 0 56 = true := by decide +kernel
theorem zc_X3_letter : zzm 0 = (yX3_letter, cX3_letter, 2, (some .int), 3, 1, false) := rfl
theorem zc_X3_blank : zzm 1 = (yX3_blank, cX3_blank, 2, (some .int), 3, 0, false) := rfl
theorem zc_X3_fault : zzm 2 = (yX3_fault, cX3_fault, 3, (some .int), 3, 0, false) := rfl
theorem zc_X3_isSign : zzm 3 = (yX3_isSign, cX3_isSign, 1, (some .boolean), 3, 1, true) := rfl
theorem zc_X3_sea : zzm 4 = (yX3_sea, cX3_sea, 2, (some .int), 3, 0, false) := rfl
theorem zc_X2_clear : zzm 5 = (yX2_clear, cX2_clear, 1, none, 2, 0, false) := rfl
theorem zc_X3_currentOf : zzm 6 = (yX3_currentOf, cX3_currentOf, 1, (some .int), 3, 1, true) := rfl
theorem zc_X2_currents : zzm 7 = (yX2_currents, cX2_currents, 3, (some .int), 2, 0, false) := rfl
theorem zc_X3_place : zzm 8 = (yX3_place, cX3_place, 3, (some .int), 3, 2, false) := rfl
theorem zc_X3_isPlace : zzm 9 = (yX3_isPlace, cX3_isPlace, 2, (some .boolean), 3, 1, false) := rfl
theorem zc_X2_islandAt : zzm 10 = (yX2_islandAt, cX2_islandAt, 3, (some .int), 2, 1, false) := rfl
theorem zc_X3_wind : zzm 11 = (yX3_wind, cX3_wind, 3, (some .int), 3, 1, false) := rfl
theorem zc_X3_island : zzm 12 = (yX3_island, cX3_island, 4, (some .int), 3, 3, false) := rfl
theorem zc_X3_isKind : zzm 13 = (yX3_isKind, cX3_isKind, 1, (some .boolean), 3, 1, true) := rfl
theorem zc_X2_add : zzm 14 = (yX2_add, cX2_add, 5, (some .int), 2, 3, false) := rfl
theorem zc_X3_about : zzm 15 = (yX3_about, cX3_about, 3, (some .int), 3, 2, false) := rfl
theorem zc_X3_isIsland : zzm 16 = (yX3_isIsland, cX3_isIsland, 2, (some .boolean), 3, 1, false) := rfl
theorem zc_X2_pushOf : zzm 17 = (yX2_pushOf, cX2_pushOf, 4, (some .int), 2, 1, false) := rfl
theorem zc_X2_isAnchored : zzm 18 = (yX2_isAnchored, cX2_isAnchored, 2, (some .boolean), 2, 1, false) := rfl
theorem zc_X2_neighbours : zzm 19 = (yX2_neighbours, cX2_neighbours, 4, (some .int), 2, 1, false) := rfl
theorem zc_X2_areBeside : zzm 20 = (yX2_areBeside, cX2_areBeside, 3, (some .boolean), 2, 2, false) := rfl
theorem zc_X2_stepped : zzm 21 = (yX2_stepped, cX2_stepped, 3, (some .int), 2, 2, true) := rfl
theorem zc_X3_as : zzm 22 = (yX3_as, cX3_as, 5, (some .int), 3, 2, false) := rfl
theorem zc_X3_anchor : zzm 23 = (yX3_anchor, cX3_anchor, 4, (some .int), 3, 2, false) := rfl
theorem zc_X3_wed : zzm 24 = (yX3_wed, cX3_wed, 3, (some .int), 3, 2, false) := rfl
theorem zc_X3_areTwo : zzm 25 = (yX3_areTwo, cX3_areTwo, 3, (some .boolean), 3, 2, false) := rfl
theorem zc_X2_areRoped : zzm 26 = (yX2_areRoped, cX2_areRoped, 3, (some .boolean), 2, 2, false) := rfl
theorem zc_X2_tie : zzm 27 = (yX2_tie, cX2_tie, 3, none, 2, 2, false) := rfl
theorem zc_X2_findParties : zzm 28 = (yX2_findParties, cX2_findParties, 2, none, 2, 0, false) := rfl
theorem zc_X2_tiedTo : zzm 29 = (yX2_tiedTo, cX2_tiedTo, 5, (some .int), 2, 1, false) := rfl
theorem zc_X3_axe : zzm 30 = (yX3_axe, cX3_axe, 3, (some .int), 3, 2, false) := rfl
theorem zc_X2_cut : zzm 31 = (yX2_cut, cX2_cut, 3, none, 2, 2, false) := rfl
theorem zc_X3_day : zzm 32 = (yX3_day, cX3_day, 1, (some .int), 3, 0, false) := rfl
theorem zc_X2_drift : zzm 33 = (yX2_drift, cX2_drift, 3, (some .int), 2, 0, false) := rfl
theorem zc_X2_leads : zzm 34 = (yX2_leads, cX2_leads, 2, (some .boolean), 2, 1, false) := rfl
theorem zc_X2_moves : zzm 35 = (yX2_moves, cX2_moves, 4, (some .boolean), 2, 1, false) := rfl
theorem zc_X2_stepOf : zzm 36 = (yX2_stepOf, cX2_stepOf, 4, (some .int), 2, 1, false) := rfl
theorem zc_J6_compare_7cf53 : zzm 37 = (yJ6_compare_7cf53, cJ6_compare_7cf53, 2, (some .int), 6, 2, true) := rfl
theorem zc_X2_isBarred : zzm 38 = (yX2_isBarred, cX2_isBarred, 6, (some .boolean), 2, 2, false) := rfl
theorem zc_X3_meet : zzm 39 = (yX3_meet, cX3_meet, 3, (some .int), 3, 2, false) := rfl
theorem zc_X3_firstMeeting : zzm 40 = (yX3_firstMeeting, cX3_firstMeeting, 6, (some .int), 3, 4, false) := rfl
theorem zc_X2_copy : zzm 41 = (yX2_copy, cX2_copy, 2, none, 2, 1, false) := rfl
theorem zc_X3_anchors : zzm 42 = (yX3_anchors, cX3_anchors, 6, (some .int), 3, 4, false) := rfl
theorem zc_X3_fewestAnchors : zzm 43 = (yX3_fewestAnchors, cX3_fewestAnchors, 7, (some .int), 3, 3, false) := rfl
theorem zc_J6_bitCount_0f7a4 : zzm 44 = (yJ6_bitCount_0f7a4, cJ6_bitCount_0f7a4, 1, (some .int), 6, 1, true) := rfl
theorem zc_X3_stable : zzm 45 = (yX3_stable, cX3_stable, 3, (some .int), 3, 1, false) := rfl
theorem zc_X3_meetAll : zzm 46 = (yX3_meetAll, cX3_meetAll, 3, none, 3, 1, false) := rfl
theorem zc_J7_fill_53178 : zzm 47 = (yJ7_fill_53178, cJ7_fill_53178, 4, none, 7, 2, true) := rfl
theorem zc_X2_noteMeetings : zzm 48 = (yX2_noteMeetings, cX2_noteMeetings, 5, none, 2, 2, false) := rfl
theorem zc_X0_solve : zzm 49 = (yX0_solve, cX0_solve, 6, none, 0, 2, false) := rfl
theorem zc_X0_goThrough : zzm 50 = (yX0_goThrough, cX0_goThrough, 4, none, 0, 2, false) := rfl
theorem zc_X0_weigh : zzm 51 = (yX0_weigh, cX0_weigh, 2, none, 0, 1, false) := rfl
theorem zc_X0_isStable : zzm 52 = (yX0_isStable, cX0_isStable, 4, (some .boolean), 0, 0, false) := rfl
theorem zc_X0_likesBetter : zzm 53 = (yX0_likesBetter, cX0_likesBetter, 3, (some .boolean), 0, 2, false) := rfl
theorem zc_X3_matchesTell : zzm 54 = (yX3_matchesTell, cX3_matchesTell, 3, (some .int), 3, 1, false) := rfl
theorem zc_X3_parting : zzm 55 = (yX3_parting, cX3_parting, 3, (some .int), 3, 2, false) := rfl
theorem zc_X2_fewestCuts : zzm 56 = (yX2_fewestCuts, cX2_fewestCuts, 6, (some .int), 2, 2, false) := rfl
theorem zc_X2_ropesOutOf : zzm 57 = (yX2_ropesOutOf, cX2_ropesOutOf, 4, (some .int), 2, 1, false) := rfl
theorem zc_X3_shell : zzm 58 = (yX3_shell, cX3_shell, 5, (some .int), 3, 4, false) := rfl
theorem zc_X1_add : zzm 59 = (yX1_add, cX1_add, 5, (some .int), 1, 4, false) := rfl
theorem zc_X3_forget : zzm 60 = (yX3_forget, cX3_forget, 2, (some .int), 3, 0, false) := rfl
theorem zc_X3_guess : zzm 61 = (yX3_guess, cX3_guess, 8, (some .int), 3, 2, false) := rfl
theorem zc_X3_shellsWouldHold : zzm 62 = (yX3_shellsWouldHold, cX3_shellsWouldHold, 6, (some .boolean), 3, 3, false) := rfl
theorem zc_X1_lastDay : zzm 63 = (yX1_lastDay, cX1_lastDay, 3, (some .int), 1, 0, false) := rfl
theorem zc_X1_holdOn : zzm 64 = (yX1_holdOn, cX1_holdOn, 4, (some .boolean), 1, 2, false) := rfl
theorem zc_X3_seasons : zzm 65 = (yX3_seasons, cX3_seasons, 7, (some .int), 3, 3, false) := rfl
theorem zc_X3_nextSeed : zzm 66 = (yX3_nextSeed, cX3_nextSeed, 1, (some .int), 3, 1, true) := rfl
theorem zc_X2_pairsBeside : zzm 67 = (yX2_pairsBeside, cX2_pairsBeside, 3, (some .int), 2, 0, false) := rfl
theorem zc_X3_image : zzm 68 = (yX3_image, cX3_image, 1, (some .int), 3, 0, false) := rfl
theorem zc_X1_copy : zzm 69 = (yX1_copy, cX1_copy, 3, none, 1, 1, false) := rfl
theorem zc_X3_restore : zzm 70 = (yX3_restore, cX3_restore, 1, (some .int), 3, 0, false) := rfl
theorem zc_X3_count : zzm 71 = (yX3_count, cX3_count, 2, (some .int), 3, 1, false) := rfl
theorem zc_X2_parties : zzm 72 = (yX2_parties, cX2_parties, 3, (some .int), 2, 0, false) := rfl
theorem zc_X3_digest : zzm 73 = (yX3_digest, cX3_digest, 4, (some .long), 3, 0, false) := rfl
theorem zc_X3_digestIslands : zzm 74 = (yX3_digestIslands, cX3_digestIslands, 7, (some .long), 3, 1, false) := rfl
theorem zc_X3_digestMatches : zzm 75 = (yX3_digestMatches, cX3_digestMatches, 6, (some .long), 3, 1, false) := rfl
theorem zc_X4_letter : zzm 76 = (yX4_letter, cX4_letter, 2, (some .int), 4, 1, false) := rfl
theorem zc_X4_in : zzm 77 = (yX4_in, cX4_in, 6, (some .boolean), 4, 3, true) := rfl
theorem zc_X4_blank : zzm 78 = (yX4_blank, cX4_blank, 2, (some .int), 4, 0, false) := rfl
theorem zc_X4_fault : zzm 79 = (yX4_fault, cX4_fault, 1, (some .int), 4, 0, false) := rfl
theorem zc_X4_faultOf : zzm 80 = (yX4_faultOf, cX4_faultOf, 2, (some .int), 4, 0, false) := rfl
theorem zc_X4_sea : zzm 81 = (yX4_sea, cX4_sea, 2, (some .int), 4, 0, false) := rfl
theorem zc_X4_currentMany : zzm 82 = (yX4_currentMany, cX4_currentMany, 3, (some .int), 4, 0, false) := rfl
theorem zc_X4_place : zzm 83 = (yX4_place, cX4_place, 3, (some .int), 4, 2, false) := rfl
theorem zc_X4_whoIsAt : zzm 84 = (yX4_whoIsAt, cX4_whoIsAt, 4, (some .int), 4, 1, false) := rfl
theorem zc_X4_wind : zzm 85 = (yX4_wind, cX4_wind, 3, (some .int), 4, 1, false) := rfl
theorem zc_X4_island : zzm 86 = (yX4_island, cX4_island, 4, (some .int), 4, 3, false) := rfl
theorem zc_X4_about : zzm 87 = (yX4_about, cX4_about, 3, (some .int), 4, 2, false) := rfl
theorem zc_X4_isIsland : zzm 88 = (yX4_isIsland, cX4_isIsland, 2, (some .boolean), 4, 1, false) := rfl
theorem zc_X4_tell : zzm 89 = (yX4_tell, cX4_tell, 3, (some .int), 4, 2, false) := rfl
theorem zc_X4_asItIs : zzm 90 = (yX4_asItIs, cX4_asItIs, 2, none, 4, 0, false) := rfl
theorem zc_X4_pushOf : zzm 91 = (yX4_pushOf, cX4_pushOf, 3, (some .int), 4, 1, false) := rfl
theorem zc_X4_partyOf : zzm 92 = (yX4_partyOf, cX4_partyOf, 2, (some .int), 4, 1, false) := rfl
theorem zc_X4_partyBy : zzm 93 = (yX4_partyBy, cX4_partyBy, 7, (some .int), 4, 2, false) := rfl
theorem zc_X4_besideBits : zzm 94 = (yX4_besideBits, cX4_besideBits, 4, (some .int), 4, 1, false) := rfl
theorem zc_X4_areBeside : zzm 95 = (yX4_areBeside, cX4_areBeside, 2, (some .boolean), 4, 2, true) := rfl
theorem zc_X4_ropedBits : zzm 96 = (yX4_ropedBits, cX4_ropedBits, 4, (some .int), 4, 1, false) := rfl
theorem zc_X4_areRoped : zzm 97 = (yX4_areRoped, cX4_areRoped, 5, (some .boolean), 4, 2, false) := rfl
theorem zc_X4_as : zzm 98 = (yX4_as, cX4_as, 5, (some .int), 4, 2, false) := rfl
theorem zc_X4_anchor : zzm 99 = (yX4_anchor, cX4_anchor, 4, (some .int), 4, 2, false) := rfl
theorem zc_X4_wed : zzm 100 = (yX4_wed, cX4_wed, 3, (some .int), 4, 2, false) := rfl
theorem zc_X4_arePair : zzm 101 = (yX4_arePair, cX4_arePair, 3, (some .boolean), 4, 2, false) := rfl
theorem zc_X4_axe : zzm 102 = (yX4_axe, cX4_axe, 8, (some .int), 4, 2, false) := rfl
theorem zc_X4_day : zzm 103 = (yX4_day, cX4_day, 3, (some .int), 4, 0, false) := rfl
theorem zc_X4_passes : zzm 104 = (yX4_passes, cX4_passes, 3, (some .int), 4, 0, false) := rfl
theorem zc_X4_isFirst : zzm 105 = (yX4_isFirst, cX4_isFirst, 2, (some .boolean), 4, 1, false) := rfl
theorem zc_X4_drifts : zzm 106 = (yX4_drifts, cX4_drifts, 7, (some .int), 4, 1, false) := rfl
theorem zc_X4_meet : zzm 107 = (yX4_meet, cX4_meet, 3, (some .int), 4, 2, false) := rfl
theorem zc_X4_meetBy : zzm 108 = (yX4_meetBy, cX4_meetBy, 7, (some .int), 4, 4, false) := rfl
theorem zc_X4_anchors : zzm 109 = (yX4_anchors, cX4_anchors, 6, (some .int), 4, 4, false) := rfl
theorem zc_X4_anchorsOf : zzm 110 = (yX4_anchorsOf, cX4_anchorsOf, 7, (some .int), 4, 3, false) := rfl
theorem zc_X4_ones : zzm 111 = (yX4_ones, cX4_ones, 3, (some .int), 4, 1, true) := rfl
theorem zc_X4_stable : zzm 112 = (yX4_stable, cX4_stable, 2, (some .int), 4, 1, false) := rfl
theorem zc_X4_layStable : zzm 113 = (yX4_layStable, cX4_layStable, 5, none, 4, 0, false) := rfl
theorem zc_X4_isMatch : zzm 114 = (yX4_isMatch, cX4_isMatch, 5, (some .boolean), 4, 1, false) := rfl
theorem zc_X4_isStable : zzm 115 = (yX4_isStable, cX4_isStable, 5, (some .boolean), 4, 0, false) := rfl
theorem zc_X4_likes : zzm 116 = (yX4_likes, cX4_likes, 3, (some .boolean), 4, 2, false) := rfl
theorem zc_X4_copy : zzm 117 = (yX4_copy, cX4_copy, 3, none, 4, 2, true) := rfl
theorem zc_X4_tellStable : zzm 118 = (yX4_tellStable, cX4_tellStable, 2, (some .int), 4, 1, false) := rfl
theorem zc_X4_parting : zzm 119 = (yX4_parting, cX4_parting, 6, (some .int), 4, 2, false) := rfl
theorem zc_X4_shell : zzm 120 = (yX4_shell, cX4_shell, 5, (some .int), 4, 4, false) := rfl
theorem zc_X4_forget : zzm 121 = (yX4_forget, cX4_forget, 2, (some .int), 4, 0, false) := rfl
theorem zc_X4_guess : zzm 122 = (yX4_guess, cX4_guess, 3, (some .int), 4, 2, false) := rfl
theorem zc_X4_guessOf : zzm 123 = (yX4_guessOf, cX4_guessOf, 7, (some .int), 4, 2, false) := rfl
theorem zc_X4_isSo : zzm 124 = (yX4_isSo, cX4_isSo, 8, (some .boolean), 4, 3, false) := rfl
theorem zc_X4_seasons : zzm 125 = (yX4_seasons, cX4_seasons, 8, (some .int), 4, 3, false) := rfl
theorem zc_X4_draw : zzm 126 = (yX4_draw, cX4_draw, 2, (some .int), 4, 1, false) := rfl
theorem zc_X4_image : zzm 127 = (yX4_image, cX4_image, 1, (some .int), 4, 0, false) := rfl
theorem zc_X4_restore : zzm 128 = (yX4_restore, cX4_restore, 1, (some .int), 4, 0, false) := rfl
theorem zc_X4_count : zzm 129 = (yX4_count, cX4_count, 2, (some .int), 4, 1, false) := rfl
theorem zc_X4_countOf : zzm 130 = (yX4_countOf, cX4_countOf, 2, (some .int), 4, 1, false) := rfl
theorem zc_X4_partyMany : zzm 131 = (yX4_partyMany, cX4_partyMany, 3, (some .int), 4, 0, false) := rfl
theorem zc_X4_digest : zzm 132 = (yX4_digest, cX4_digest, 2, (some .long), 4, 0, false) := rfl
theorem zc_X4_say : zzm 133 = (yX4_say, cX4_say, 3, none, 4, 1, false) := rfl
theorem zc_X4_sayIsland : zzm 134 = (yX4_sayIsland, cX4_sayIsland, 3, none, 4, 1, false) := rfl
