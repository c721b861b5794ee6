/-! The program as tables. -/
def GW : List Cond := lw_tbl.filter zgood
theorem inGW {w : Cond} (h : w ∈ lw_tbl) (hg : zgood w = true) : w ∈ GW := List.mem_filter.mpr ⟨h, hg⟩
theorem GW_good : ∀ w ∈ GW, zgood w = true := fun _ h => (List.mem_filter.mp h).2
def inB (w : Cond) : Bool := decide (w ∈ lw_tbl) && zgood w
theorem inB_in {w : Cond} (h : inB w = true) : w ∈ GW := by
  unfold inB at h
  rw [Bool.and_eq_true, decide_eq_true_eq] at h
  exact inGW h.1 h.2
def Ow (o : Nat) : String := ([RX0, RX1, RX2, RX3, RX4, RL, RJ7] : List String).getD o ""
def Xn (x : Nat) : String := (["java/lang/IllegalArgumentException", "java/lang/IllegalStateException", "java/lang/IndexOutOfBoundsException"] : List String).getD x ""
def cl0 : List vw_C := [(RX0, TX0, 3), (RX1, TX1, 3), (RX2, TX2, 2), (RX3, TX3, 10), (RX4, TX4, 15)]
def NmL : List MethodName := [yX0_init, yX0_stretch, yX0_throwPick, yX0_has, yX0_isOver, yX0_put, yX0_count, yX0_line, yX0_picksUnder, yX0_firstLike, yX0_leastShift, yX0_repeatsAfter, yX1_init, yX1_sort, yX1_layDirectly, yX1_followOthers, yX1_numberFromBottom, yX1_lowestFree, yX1_isFree, yX1_holds, yX2_init, yX2_kindOrNone, yX2_append, yX2_appendRepeated, yX2_appendTurned, yX2_copyFrom, yX2_numberLines, yX3_init, yX3_run, yX3_again, yX3_clear, yX3_tie, yX3_draft, yX3_colour, yX3_weave, yX3_unweave, yX3_over, yX3_seen, yX3_longest, yX3_layers, yX3_layer, yX3_period, yX3_picture, yX3_paint, yX3_factor, yX3_isKind, yX3_withBit, yX3_isPick, yX3_isThread, yX3_rowOf, yX3_isTied, yX3_tiedOrNone, yX3_requireRoom, yX3_requireCloth, yX3_endsRaisedBy, yX3_longestStretch, yX3_adoptPaintedDraft, yX4_init, yX4_thrown, yX4_count, yX4_append, yX4_mayAppend, yX4_isOne, yX4_run, yX4_again, yX4_clear, yX4_tie, yX4_draft, yX4_colour, yX4_weave, yX4_unweave, yX4_isCrossing, yX4_over, yX4_seen, yX4_threadOf, yX4_longest, yX4_isSeen, yX4_spread, yX4_together, yX4_isFree, yX4_number, yX4_layers, yX4_layer, yX4_sameEnds, yX4_samePicks, yX4_period, yX4_picture, yX4_paint, yX4_samePainted, yX4_sort, yX4_factor, yJ7_fill_53178, yL_run, yL_again, yL_clear, yL_tie, yL_draft, yL_colour, yL_weave, yL_unweave, yL_over, yL_seen, yL_longest, yL_layers, yL_layer, yL_period, yL_picture, yL_paint, yL_factor, yL_law]
def Nm (y : Nat) : MethodName := NmL.getD y yL_law
def CdL : List ByteArray := [cX0_init, cX0_stretch, cX0_throwPick, cX0_has, cX0_isOver, cX0_put, cX0_count, cX0_line, cX0_picksUnder, cX0_firstLike, cX0_leastShift, cX0_repeatsAfter, cX1_init, cX1_sort, cX1_layDirectly, cX1_followOthers, cX1_numberFromBottom, cX1_lowestFree, cX1_isFree, cX1_holds, cX2_init, cX2_kindOrNone, cX2_append, cX2_appendRepeated, cX2_appendTurned, cX2_copyFrom, cX2_numberLines, cX3_init, cX3_run, cX3_again, cX3_clear, cX3_tie, cX3_draft, cX3_colour, cX3_weave, cX3_unweave, cX3_over, cX3_seen, cX3_longest, cX3_layers, cX3_layer, cX3_period, cX3_picture, cX3_paint, cX3_factor, cX3_isKind, cX3_withBit, cX3_isPick, cX3_isThread, cX3_rowOf, cX3_isTied, cX3_tiedOrNone, cX3_requireRoom, cX3_requireCloth, cX3_endsRaisedBy, cX3_longestStretch, cX3_adoptPaintedDraft, cX4_init, cX4_thrown, cX4_count, cX4_append, cX4_mayAppend, cX4_isOne, cX4_run, cX4_again, cX4_clear, cX4_tie, cX4_draft, cX4_colour, cX4_weave, cX4_unweave, cX4_isCrossing, cX4_over, cX4_seen, cX4_threadOf, cX4_longest, cX4_isSeen, cX4_spread, cX4_together, cX4_isFree, cX4_number, cX4_layers, cX4_layer, cX4_sameEnds, cX4_samePicks, cX4_period, cX4_picture, cX4_paint, cX4_samePainted, cX4_sort, cX4_factor, cJ7_fill_53178, cL_run, cL_again, cL_clear, cL_tie, cL_draft, cL_colour, cL_weave, cL_unweave, cL_over, cL_seen, cL_longest, cL_layers, cL_layer, cL_period, cL_picture, cL_paint, cL_factor, cL_law]
def Cd (y : Nat) : ByteArray := CdL.getD y cL_law
def DL : List zD := [(1, 0, 1, none, 2, 1, 48), (3, 0, 3, none, 1, 1, 23), (2, 0, 2, none, 1, 0, 0), (3, 0, 3, (some .boolean), 1, 0, 0), (3, 0, 3, (some .boolean), 1, 0, 0), (4, 0, 4, none, 1, 1, 22), (2, 0, 2, (some .int), 1, 0, 0), (3, 0, 3, (some .int), 1, 2, 45), (4, 0, 2, (some .int), 1, 1, 22), (5, 0, 3, (some .int), 1, 3, 67), (4, 0, 2, (some .int), 1, 4, 91), (5, 0, 3, (some .boolean), 1, 3, 67), (1, 1, 1, none, 2, 1, 48), (2, 1, 2, (some .int), 1, 4, 97), (6, 1, 2, none, 1, 3, 67), (3, 1, 1, none, 1, 1, 22), (7, 1, 1, (some .int), 1, 3, 71), (4, 1, 2, (some .int), 1, 2, 48), (7, 1, 3, (some .boolean), 1, 1, 22), (3, 1, 2, (some .boolean), 0, 0, 0), (1, 2, 1, none, 2, 1, 48), (2, 2, 2, (some .int), 1, 0, 0), (2, 2, 2, none, 1, 0, 0), (4, 2, 3, none, 1, 1, 21), (4, 2, 2, none, 1, 1, 21), (2, 2, 2, none, 1, 1, 48), (6, 2, 3, (some .int), 1, 4, 91), (1, 3, 1, none, 2, 2, 68), (8, 3, 4, (some .int), 1, 7, 113), (8, 3, 5, (some .int), 1, 7, 113), (3, 3, 2, (some .int), 1, 6, 90), (5, 3, 4, (some .boolean), 1, 6, 90), (4, 3, 4, (some .int), 1, 6, 90), (6, 3, 4, (some .int), 1, 6, 90), (4, 3, 2, (some .int), 1, 6, 90), (2, 3, 2, none, 1, 6, 90), (3, 3, 3, (some .int), 1, 6, 90), (5, 3, 4, (some .int), 1, 6, 90), (3, 3, 3, (some .int), 1, 6, 90), (1, 3, 1, (some .int), 1, 7, 118), (2, 3, 2, (some .int), 1, 7, 118), (2, 3, 2, (some .int), 1, 7, 114), (3, 3, 3, none, 1, 6, 90), (5, 3, 4, (some .boolean), 1, 6, 90), (4, 3, 2, (some .int), 1, 6, 116), (1, 3, 1, (some .boolean), 0, 0, 0), (3, 3, 3, (some .int), 0, 0, 0), (1, 3, 1, (some .boolean), 0, 0, 0), (2, 3, 2, (some .boolean), 1, 1, 20), (2, 3, 2, (some (.object "ShaftLoom$Row")), 1, 0, 0), (3, 3, 3, (some .boolean), 1, 0, 0), (3, 3, 3, (some .int), 1, 1, 22), (4, 3, 3, none, 1, 6, 90), (1, 3, 1, none, 1, 6, 90), (4, 3, 2, (some .int), 1, 1, 22), (7, 3, 3, (some .int), 0, 1, 48), (4, 3, 1, none, 1, 2, 69), (1, 4, 1, none, 2, 1, 48), (1, 4, 1, (some .int), 1, 0, 0), (2, 4, 2, (some .int), 1, 0, 0), (3, 4, 3, none, 1, 0, 0), (4, 4, 3, (some .boolean), 1, 1, 21), (1, 4, 1, (some .boolean), 0, 0, 0), (6, 4, 4, (some .int), 1, 2, 44), (8, 4, 5, (some .int), 1, 2, 44), (2, 4, 2, (some .int), 1, 1, 21), (5, 4, 4, (some .boolean), 1, 1, 20), (4, 4, 4, (some .int), 1, 1, 20), (6, 4, 4, (some .int), 1, 0, 0), (4, 4, 2, (some .int), 1, 0, 0), (2, 4, 2, none, 1, 0, 0), (4, 4, 3, (some .boolean), 1, 0, 0), (3, 4, 3, (some .int), 1, 1, 23), (4, 4, 4, (some .int), 1, 1, 23), (2, 4, 2, (some .int), 1, 0, 0), (8, 4, 3, (some .int), 1, 1, 25), (6, 4, 4, (some .boolean), 1, 0, 0), (5, 4, 1, none, 1, 0, 0), (3, 4, 3, (some .boolean), 1, 0, 0), (4, 4, 3, (some .boolean), 1, 0, 0), (4, 4, 1, none, 1, 1, 24), (1, 4, 1, (some .int), 1, 2, 47), (3, 4, 2, (some .int), 1, 2, 47), (5, 4, 3, (some .boolean), 1, 0, 0), (5, 4, 3, (some .boolean), 1, 0, 0), (6, 4, 2, (some .int), 1, 1, 24), (4, 4, 3, none, 1, 0, 0), (5, 4, 4, (some .boolean), 1, 0, 0), (7, 4, 4, (some .boolean), 1, 0, 0), (7, 4, 2, (some .int), 1, 1, 26), (6, 4, 2, (some .int), 1, 2, 52), (4, 6, 2, none, 0, 0, 0), (6, 5, 5, (some .int), 0, 8, 140), (7, 5, 6, (some .int), 0, 8, 140), (4, 5, 3, (some .int), 0, 7, 112), (6, 5, 5, (some .int), 0, 7, 114), (6, 5, 5, (some .int), 0, 7, 113), (6, 5, 5, (some .int), 0, 7, 115), (4, 5, 3, (some .int), 0, 7, 113), (3, 5, 2, (some .int), 0, 7, 111), (5, 5, 4, (some .int), 0, 7, 112), (6, 5, 5, (some .int), 0, 7, 114), (5, 5, 4, (some .int), 0, 7, 112), (3, 5, 2, (some .int), 0, 8, 138), (4, 5, 3, (some .int), 0, 8, 139), (4, 5, 3, (some .int), 0, 8, 135), (4, 5, 3, (some .int), 0, 7, 112), (6, 5, 5, (some .int), 0, 7, 114), (4, 5, 3, (some .int), 0, 7, 139), (7, 5, 1, (some .boolean), 0, 9, 166)]
def eD (y : Nat) : zD := DL.getD y (0, 0, 0, none, 0, 0, 0)
def HhL : List (Nat × List (Nat × Nat × Nat × Nat)) := [(92, [(0, 12, 15, 13), (0, 12, 19, 15)]), (93, [(0, 14, 17, 13), (0, 14, 21, 15)]), (94, [(0, 9, 12, 15)]), (95, [(0, 19, 22, 13)]), (96, [(0, 12, 15, 13)]), (97, [(0, 12, 15, 13)]), (98, [(0, 9, 12, 13), (0, 9, 15, 15)]), (99, [(0, 5, 8, 13)]), (100, [(0, 10, 13, 48)]), (101, [(0, 12, 15, 48)]), (102, [(0, 10, 13, 48)]), (103, [(0, 8, 11, 15)]), (104, [(0, 9, 12, 15), (0, 9, 15, 48)]), (105, [(0, 9, 12, 15)]), (106, [(0, 6, 9, 13)]), (107, [(0, 19, 22, 48)]), (108, [(0, 9, 12, 15)])]
def Hh (y : Nat) : List (Nat × Nat × Nat × Nat) := ((HhL.find? fun r => r.1 == y).map fun r => r.2).getD []
def eHL : List (Nat × List (Nat × Nat × Nat × Nat × Nat)) := [(92, [(0, 12, 0, 17, 5), (0, 12, 1, 21, 5)]), (93, [(0, 14, 0, 19, 6), (0, 14, 1, 23, 6)]), (94, [(0, 9, 1, 13, 3)]), (95, [(0, 19, 0, 24, 5)]), (96, [(0, 12, 0, 17, 5)]), (97, [(0, 12, 0, 17, 5)]), (98, [(0, 9, 0, 13, 3), (0, 9, 1, 16, 3)]), (99, [(0, 5, 0, 9, 2)]), (100, [(0, 10, 2, 15, 4)]), (101, [(0, 12, 2, 17, 5)]), (102, [(0, 10, 2, 15, 4)]), (103, [(0, 8, 1, 12, 2)]), (104, [(0, 9, 1, 13, 3), (0, 9, 2, 16, 3)]), (105, [(0, 9, 1, 13, 3)]), (106, [(0, 6, 0, 10, 3)]), (107, [(0, 19, 2, 24, 5)]), (108, [(0, 9, 1, 13, 3)])]
def eH (y : Nat) : List (Nat × Nat × Nat × Nat × Nat) := ((eHL.find? fun r => r.1 == y).map fun r => r.2).getD []
def FL : List (Nat × Nat × Nat × Nat × Bool) := [(0, 9, 0, 0, false), (0, 15, 0, 1, false), (0, 19, 0, 2, false), (1, 9, 1, 0, false), (1, 15, 1, 1, false), (1, 19, 0, 1, true), (1, 25, 0, 2, true), (1, 28, 1, 2, false), (2, 9, 2, 0, false), (2, 15, 2, 1, false), (3, 10, 3, 0, false), (3, 16, 3, 1, false), (3, 19, 3, 2, false), (3, 23, 3, 3, false), (3, 26, 3, 4, false), (3, 32, 3, 5, false), (3, 39, 3, 6, false), (3, 43, 3, 7, false), (3, 46, 3, 8, false), (3, 49, 3, 9, false), (3, 85, 2, 1, true), (3, 99, 0, 2, true), (3, 135, 0, 1, true), (3, 138, 2, 0, true), (3, 182, 1, 1, true), (4, 7, 4, 1, false), (4, 13, 4, 5, false), (4, 17, 4, 6, false), (4, 20, 4, 7, false), (4, 23, 4, 8, false), (4, 26, 4, 9, false), (4, 29, 4, 11, false), (4, 33, 4, 12, false), (4, 36, 4, 13, false), (4, 39, 4, 14, false), (4, 42, 4, 0, false), (4, 45, 4, 2, false), (4, 48, 4, 3, false), (4, 57, 4, 4, false), (4, 87, 4, 10, false)]
def eF (own n : Nat) : Option (Nat × Nat) := (FL.find? fun r => r.1 == own && r.2.1 == n).map fun r => (r.2.2.1, r.2.2.2.1)
def ML : List (Nat × Nat × Nat × Bool) := [(0, 22, 91, false), (0, 28, 46, true), (0, 32, 8, false), (0, 36, 4, false), (0, 40, 7, false), (0, 44, 6, false), (0, 48, 11, false), (1, 31, 14, false), (1, 35, 15, false), (1, 38, 16, false), (1, 42, 7, true), (1, 46, 19, false), (1, 50, 17, false), (1, 56, 18, false), (2, 19, 22, false), (2, 29, 6, true), (2, 35, 9, true), (3, 9, 20, true), (3, 31, 0, true), (3, 38, 12, true), (3, 52, 1, true), (3, 56, 45, false), (3, 73, 52, false), (3, 77, 49, false), (3, 81, 22, true), (3, 93, 24, true), (3, 96, 23, true), (3, 107, 50, false), (3, 111, 46, false), (3, 115, 21, true), (3, 118, 51, false), (3, 141, 54, false), (3, 144, 2, true), (3, 149, 3, true), (3, 157, 4, true), (3, 160, 48, false), (3, 165, 47, false), (3, 168, 7, true), (3, 172, 55, false), (3, 175, 53, false), (3, 178, 13, true), (3, 185, 10, true), (3, 191, 5, true), (3, 195, 26, true), (3, 201, 56, false), (3, 211, 25, true), (3, 215, 91, false), (4, 51, 59, false), (4, 60, 62, false), (4, 64, 61, false), (4, 68, 60, false), (4, 72, 71, false), (4, 76, 74, false), (4, 80, 76, false), (4, 84, 77, false), (4, 90, 79, false), (4, 93, 78, false), (4, 96, 80, false), (4, 99, 84, false), (4, 102, 83, false), (4, 105, 88, false), (4, 109, 89, false), (5, 7, 28, false), (5, 17, 29, false), (5, 21, 30, false), (5, 25, 31, false), (5, 29, 32, false), (5, 33, 33, false), (5, 36, 34, false), (5, 40, 35, false), (5, 44, 36, false), (5, 50, 37, false), (5, 54, 38, false), (5, 58, 39, false), (5, 62, 40, false), (5, 65, 41, false), (5, 68, 42, false), (5, 72, 43, false), (5, 75, 44, false), (5, 78, 27, false), (5, 81, 57, false), (5, 82, 92, false), (5, 87, 63, false), (5, 88, 58, false), (5, 91, 93, false), (5, 94, 64, false), (5, 95, 94, false), (5, 98, 65, false), (5, 99, 95, false), (5, 102, 66, false), (5, 103, 96, false), (5, 106, 67, false), (5, 107, 97, false), (5, 109, 68, false), (5, 110, 98, false), (5, 113, 69, false), (5, 114, 99, false), (5, 117, 70, false), (5, 118, 100, false), (5, 121, 72, false), (5, 122, 101, false), (5, 124, 73, false), (5, 125, 102, false), (5, 128, 75, false), (5, 129, 103, false), (5, 132, 81, false), (5, 133, 104, false), (5, 135, 82, false), (5, 136, 105, false), (5, 138, 85, false), (5, 139, 106, false), (5, 142, 86, false), (5, 143, 107, false), (5, 145, 87, false), (5, 146, 108, false), (5, 148, 90, false)]
def eM (own n : Nat) : Option Nat := (ML.find? fun r => r.1 == own && r.2.1 == n).map fun r => r.2.2.1
def NL : List (Nat × Nat × Nat) := [(0, 3, 0), (1, 3, 0), (2, 3, 0), (2, 23, 4), (3, 1, 0), (3, 67, 3), (3, 132, 2), (3, 208, 1), (4, 1, 0)]
def eN (own n : Nat) : Option Nat := (NL.find? fun r => r.1 == own && r.2.1 == n).map fun r => r.2.2
def CL : List (Nat × Nat × Nat) := [(3, 7, 2), (3, 29, 0), (3, 36, 1), (5, 8, 3), (5, 79, 4)]
def eC (own n : Nat) : Option Nat := (CL.find? fun r => r.1 == own && r.2.1 == n).map fun r => r.2.2
def XL : List (Nat × Nat × Nat × Nat × Nat × Nat × String) := [(28, 14, 0, 60, 62, 64, "no such shaft or treadle"), (29, 21, 0, 60, 89, 64, "there are not that many to append again"), (29, 40, 0, 60, 91, 64, "times below 0"), (30, 14, 1, 102, 104, 106, "something is woven"), (31, 14, 0, 60, 62, 64, "no such shaft or treadle"), (32, 89, 0, 60, 122, 64, "what is not 0 to 5"), (33, 10, 0, 60, 124, 64, "no such end or pick"), (33, 30, 0, 60, 126, 64, "no such colour"), (34, 4, 0, 60, 128, 64, "picks below 0"), (34, 24, 1, 102, 130, 106, "there are no ends"), (35, 15, 0, 60, 147, 64, "not that many picks are woven"), (36, 12, 2, 152, 154, 156, "no such crossing"), (37, 12, 2, 152, 154, 156, "no such crossing"), (38, 8, 2, 152, 163, 156, "no such thread"), (40, 12, 2, 152, 163, 156, "no such thread"), (42, 22, 0, 60, 189, 64, "a picture has 1 to 30 ends and picks"), (43, 12, 2, 152, 154, 156, "no such crossing"), (44, 42, 1, 102, 199, 106, "more than 12 shafts or treadles"), (52, 14, 1, 102, 104, 106, "something is woven"), (52, 41, 1, 102, 204, 106, "more than 30"), (53, 10, 1, 102, 206, 106, "nothing is woven")]
def eX (y pc : Nat) : Option Nat := (XL.find? fun r => r.1 == y && r.2.1 == pc).map fun r => r.2.2.1
def SL : List (String × Nat × String) := [(RX3, 62, "no such shaft or treadle"), (RX3, 89, "there are not that many to append again"), (RX3, 91, "times below 0"), (RX3, 104, "something is woven"), (RX3, 122, "what is not 0 to 5"), (RX3, 124, "no such end or pick"), (RX3, 126, "no such colour"), (RX3, 128, "picks below 0"), (RX3, 130, "there are no ends"), (RX3, 147, "not that many picks are woven"), (RX3, 154, "no such crossing"), (RX3, 163, "no such thread"), (RX3, 189, "a picture has 1 to 30 ends and picks"), (RX3, 199, "more than 12 shafts or treadles"), (RX3, 204, "more than 30"), (RX3, 206, "nothing is woven")]
def KL : List (List Value × List FieldType × List Bool) := [([.null, .int 0, .int 0], [.array .int, .int, .int], [true, false, false]), ([.null, .null, .int 0], [.array .long, .array .int, .int], [true, true, false]), ([.null, .int 0], [.array .int, .int], [true, false]), ([.null, .null, .null, .null, .null, .null, .null, .null, .null, .null], [.object "ShaftLoom$Row", .object "ShaftLoom$Row", .array .int, .array .int, .array .int, .object "ShaftLoom$Crossings", .object "ShaftLoom$Pile", .object "ShaftLoom$Crossings", .object "ShaftLoom$Row", .object "ShaftLoom$Row"], [true, true, true, true, true, true, true, true, true, true]), ([.int 0, .null, .int 0, .int 0, .int 0, .null, .null, .null, .null, .null, .int 0, .int 0, .int 0, .null, .null], [.int, .array .int, .int, .int, .int, .array .boolean, .array .int, .array .boolean, .array .boolean, .array .int, .int, .int, .int, .array .boolean, .array .int], [false, true, false, false, false, true, true, true, true, true, false, false, false, true, true])]
def eK (ci : Nat) : List Value × List FieldType × List Bool := KL.getD ci ([], [], [])
def eJ (own n : Nat) : Option Int64 := if own = 1 ∧ n = 54 then some (-1) else if own = 4 ∧ n = 55 then some (30) else none
def eI (_ _ : Nat) : Option Int32 := none
def zT0 (Cd : Nat → ByteArray) (y pc : Nat) : Option (Instr × Nat) := match decode (Cd y) pc with
  | .ok (i, n) => if (zlen i = some n ∨ zlen i = none) ∧ 0 ≤ (pc : Int) + (zoff i).getD 0 then some (i, ((pc : Int) + (zoff i).getD 0).toNat) else none
  | _ => none
def E0 : zEnv := (zT0 Cd, eF, eM, eN, eC, eX, eH, eD, eK, eJ, eI)
theorem okT0 : okT E0 Cd := by
  intro y pc i tg h
  change zT0 Cd y pc = some (i, tg) at h
  unfold zT0 at h
  split at h
  · rename_i i' n hd
    split at h
    · rename_i hg
      cases h
      refine ⟨n, hd, hg.1, fun o9 ho => ?_⟩
      have h2 := hg.2
      rw [ho] at h2 ⊢
      exact (Int.toNat_of_nonneg h2).symm
    · cases h
  · cases h
theorem zfindm {α β : Type} {L : List α} {p : α → Bool} {f : α → β} {v : β} (h : (L.find? p).map f = some v) : ∃ r ∈ L, p r = true ∧ f r = v := by
  cases hr : L.find? p with
  | none => rw [hr] at h; cases h
  | some r => rw [hr] at h; exact ⟨r, List.mem_of_find?_eq_some hr, List.find?_some hr, Option.some.inj h⟩
def Fchk (r : Nat × Nat × Nat × Nat × Bool) : Bool := match cl0[r.2.2.1]? with
  | some (_, T, N) => decide (r.2.2.2.1 < N) && (if r.2.2.2.2 = true then (!(r.1 == r.2.2.1)) && inB (.fieldLinkNest (Ow r.1) r.2.1 (T r.2.2.2.1).1 (T r.2.2.2.1).2.1 (T r.2.2.2.1).2.2.1 "ShaftLoom") else inB (.fieldLink (Ow r.1) r.2.1 (T r.2.2.2.1).1 (T r.2.2.2.1).2.1 (T r.2.2.2.1).2.2.1))
  | none => false
theorem FL_ok : FL.all Fchk = true := by decide +kernel
theorem okF0 : okF E0 Ow cl0 GW := by
  intro own n ci k h
  obtain ⟨r, hr, hp, hv⟩ := zfindm (show (FL.find? fun r => r.1 == own && r.2.1 == n).map (fun r => (r.2.2.1, r.2.2.2.1)) = some (ci, k) from h)
  have hc := List.all_eq_true.mp FL_ok r hr
  rw [Bool.and_eq_true, beq_iff_eq, beq_iff_eq] at hp
  obtain ⟨r1, r2, r3, r4, r5⟩ := r
  obtain ⟨rfl, rfl⟩ := hp
  cases hv
  unfold Fchk at hc
  dsimp only at hc
  cases hcl : cl0[r3]? with
  | none => rw [hcl] at hc; cases hc
  | some q =>
    obtain ⟨C, T, N⟩ := q
    rw [hcl] at hc
    dsimp only at hc
    rw [Bool.and_eq_true, decide_eq_true_eq] at hc
    refine ⟨C, T, N, rfl, hc.1, ?_⟩
    cases r5 with
    | true =>
      have h2 := hc.2
      rw [if_pos rfl, Bool.and_eq_true] at h2
      exact Or.inr ⟨by simpa using h2.1, _, inB_in h2.2⟩
    | false =>
      have h2 := hc.2
      rw [if_neg (by decide)] at h2
      exact Or.inl (inB_in h2)
def NewChk (r : Nat × Nat × Nat) : Bool := match cl0[r.2.2]? with
  | some (C, _, _) => inB (.classLink (Ow r.1) r.2.1 C)
  | none => false
theorem CL_ok : CL.all NewChk = true := by decide +kernel
theorem okNew0 : okNew E0 Ow cl0 GW := by
  intro own n ci h
  obtain ⟨r, hr, hp, hv⟩ := zfindm (show (CL.find? fun r => r.1 == own && r.2.1 == n).map (fun r => r.2.2) = some ci from h)
  have hc := List.all_eq_true.mp CL_ok r hr
  rw [Bool.and_eq_true, beq_iff_eq, beq_iff_eq] at hp
  obtain ⟨r1, r2, r3⟩ := r
  obtain ⟨rfl, rfl⟩ := hp
  cases hv
  unfold NewChk at hc
  dsimp only at hc
  cases hcl : cl0[r3]? with
  | none => rw [hcl] at hc; cases hc
  | some q =>
    obtain ⟨C, T, N⟩ := q
    rw [hcl] at hc
    exact ⟨C, T, N, rfl, inB_in hc⟩
theorem NL_ok : NL.all (fun r => (zNatW (Ow r.1) r.2.1 r.2.2).all inB) = true := by decide +kernel
theorem okN0 : okN E0 Ow GW := by
  intro own n k h
  obtain ⟨r, hr, hp, hv⟩ := zfindm (show (NL.find? fun r => r.1 == own && r.2.1 == n).map (fun r => r.2.2) = some k from h)
  have hc := List.all_eq_true.mp NL_ok r hr
  rw [Bool.and_eq_true, beq_iff_eq, beq_iff_eq] at hp
  obtain ⟨r1, r2, r3⟩ := r
  obtain ⟨rfl, rfl⟩ := hp
  cases hv
  exact fun w hw => inB_in (List.all_eq_true.mp hc w hw)

theorem okK0 : okK E0 Ow GW := by
  refine ⟨fun own n v h => ?_, fun own n v h => (by cases h), inB_in (by decide +kernel), inB_in (by decide +kernel), inB_in (by decide +kernel)⟩
  change eJ own n = some v at h
  unfold eJ at h
  split at h
  · rename_i hg
    obtain ⟨rfl, rfl⟩ := hg
    cases h
    exact inB_in (by decide +kernel)
  split at h
  · rename_i hg
    obtain ⟨rfl, rfl⟩ := hg
    cases h
    exact inB_in (by decide +kernel)
  cases h
theorem okC_0 : (∀ w ∈ u_ws RX0 TX0 3, w ∈ GW) := fun w hw => inB_in (List.all_eq_true.mp (show (u_ws RX0 TX0 3).all inB = true by decide +kernel) w hw)
theorem okC_1 : (∀ w ∈ u_ws RX1 TX1 3, w ∈ GW) := fun w hw => inB_in (List.all_eq_true.mp (show (u_ws RX1 TX1 3).all inB = true by decide +kernel) w hw)
theorem okC_2 : (∀ w ∈ u_ws RX2 TX2 2, w ∈ GW) := fun w hw => inB_in (List.all_eq_true.mp (show (u_ws RX2 TX2 2).all inB = true by decide +kernel) w hw)
theorem okC_3 : (∀ w ∈ u_ws RX3 TX3 10, w ∈ GW) := fun w hw => inB_in (List.all_eq_true.mp (show (u_ws RX3 TX3 10).all inB = true by decide +kernel) w hw)
theorem okC_4 : (∀ w ∈ u_ws RX4 TX4 15, w ∈ GW) := fun w hw => inB_in (List.all_eq_true.mp (show (u_ws RX4 TX4 15).all inB = true by decide +kernel) w hw)
theorem okC0 : okC E0 Ow cl0 GW := by
  intro ci C T N h
  match ci, h with
  | 0, h =>
    cases h
    exact ⟨okC_0, rfl, by decide +kernel, ⟨tyX0, tyX0_ok, by decide +kernel, by decide +kernel⟩, nmX0, rfl, by decide +kernel, by decide +kernel, inB_in (by decide +kernel), inB_in (by decide +kernel)⟩
  | 1, h =>
    cases h
    exact ⟨okC_1, rfl, by decide +kernel, ⟨tyX1, tyX1_ok, by decide +kernel, by decide +kernel⟩, nmX1, rfl, by decide +kernel, by decide +kernel, inB_in (by decide +kernel), inB_in (by decide +kernel)⟩
  | 2, h =>
    cases h
    exact ⟨okC_2, rfl, by decide +kernel, ⟨tyX2, tyX2_ok, by decide +kernel, by decide +kernel⟩, nmX2, rfl, by decide +kernel, by decide +kernel, inB_in (by decide +kernel), inB_in (by decide +kernel)⟩
  | 3, h =>
    cases h
    exact ⟨okC_3, rfl, by decide +kernel, ⟨tyX3, tyX3_ok, by decide +kernel, by decide +kernel⟩, nmX3, rfl, by decide +kernel, by decide +kernel, inB_in (by decide +kernel), inB_in (by decide +kernel)⟩
  | 4, h =>
    cases h
    exact ⟨okC_4, rfl, by decide +kernel, ⟨tyX4, tyX4_ok, by decide +kernel, by decide +kernel⟩, nmX4, rfl, by decide +kernel, by decide +kernel, inB_in (by decide +kernel), inB_in (by decide +kernel)⟩
  | k + 5, h => simp [cl0] at h
set_option maxRecDepth 100000 in
theorem cw_0 : zcw E0 Nm Cd Hh 0 ∈ GW := inGW (List.mem_of_getElem? (i := 89) rfl) rfl
set_option maxRecDepth 100000 in
theorem cw_1 : zcw E0 Nm Cd Hh 1 ∈ GW := inGW (List.mem_of_getElem? (i := 126) rfl) rfl
set_option maxRecDepth 100000 in
theorem cw_2 : zcw E0 Nm Cd Hh 2 ∈ GW := inGW (List.mem_of_getElem? (i := 356) rfl) rfl
set_option maxRecDepth 100000 in
theorem cw_3 : zcw E0 Nm Cd Hh 3 ∈ GW := inGW (List.mem_of_getElem? (i := 376) rfl) rfl
set_option maxRecDepth 100000 in
theorem cw_4 : zcw E0 Nm Cd Hh 4 ∈ GW := inGW (List.mem_of_getElem? (i := 396) rfl) rfl
set_option maxRecDepth 100000 in
theorem cw_5 : zcw E0 Nm Cd Hh 5 ∈ GW := inGW (List.mem_of_getElem? (i := 521) rfl) rfl
set_option maxRecDepth 100000 in
theorem cw_6 : zcw E0 Nm Cd Hh 6 ∈ GW := inGW (List.mem_of_getElem? (i := 497) rfl) rfl
set_option maxRecDepth 100000 in
theorem cw_7 : zcw E0 Nm Cd Hh 7 ∈ GW := inGW (List.mem_of_getElem? (i := 422) rfl) rfl
set_option maxRecDepth 100000 in
theorem cw_8 : zcw E0 Nm Cd Hh 8 ∈ GW := inGW (List.mem_of_getElem? (i := 426) rfl) rfl
set_option maxRecDepth 100000 in
theorem cw_9 : zcw E0 Nm Cd Hh 9 ∈ GW := inGW (List.mem_of_getElem? (i := 537) rfl) rfl
set_option maxRecDepth 100000 in
theorem cw_10 : zcw E0 Nm Cd Hh 10 ∈ GW := inGW (List.mem_of_getElem? (i := 493) rfl) rfl
set_option maxRecDepth 100000 in
theorem cw_11 : zcw E0 Nm Cd Hh 11 ∈ GW := inGW (List.mem_of_getElem? (i := 501) rfl) rfl
set_option maxRecDepth 100000 in
theorem cw_12 : zcw E0 Nm Cd Hh 12 ∈ GW := inGW (List.mem_of_getElem? (i := 109) rfl) rfl
set_option maxRecDepth 100000 in
theorem cw_13 : zcw E0 Nm Cd Hh 13 ∈ GW := inGW (List.mem_of_getElem? (i := 450) rfl) rfl
set_option maxRecDepth 100000 in
theorem cw_14 : zcw E0 Nm Cd Hh 14 ∈ GW := inGW (List.mem_of_getElem? (i := 454) rfl) rfl
set_option maxRecDepth 100000 in
theorem cw_15 : zcw E0 Nm Cd Hh 15 ∈ GW := inGW (List.mem_of_getElem? (i := 459) rfl) rfl
set_option maxRecDepth 100000 in
theorem cw_16 : zcw E0 Nm Cd Hh 16 ∈ GW := inGW (List.mem_of_getElem? (i := 466) rfl) rfl
set_option maxRecDepth 100000 in
theorem cw_17 : zcw E0 Nm Cd Hh 17 ∈ GW := inGW (List.mem_of_getElem? (i := 470) rfl) rfl
set_option maxRecDepth 100000 in
theorem cw_18 : zcw E0 Nm Cd Hh 18 ∈ GW := inGW (List.mem_of_getElem? (i := 474) rfl) rfl
set_option maxRecDepth 100000 in
theorem cw_19 : zcw E0 Nm Cd Hh 19 ∈ GW := inGW (List.mem_of_getElem? (i := 462) rfl) rfl
set_option maxRecDepth 100000 in
theorem cw_20 : zcw E0 Nm Cd Hh 20 ∈ GW := inGW (List.mem_of_getElem? (i := 73) rfl) rfl
set_option maxRecDepth 100000 in
theorem cw_21 : zcw E0 Nm Cd Hh 21 ∈ GW := inGW (List.mem_of_getElem? (i := 322) rfl) rfl
set_option maxRecDepth 100000 in
theorem cw_22 : zcw E0 Nm Cd Hh 22 ∈ GW := inGW (List.mem_of_getElem? (i := 272) rfl) rfl
set_option maxRecDepth 100000 in
theorem cw_23 : zcw E0 Nm Cd Hh 23 ∈ GW := inGW (List.mem_of_getElem? (i := 290) rfl) rfl
set_option maxRecDepth 100000 in
theorem cw_24 : zcw E0 Nm Cd Hh 24 ∈ GW := inGW (List.mem_of_getElem? (i := 285) rfl) rfl
set_option maxRecDepth 100000 in
theorem cw_25 : zcw E0 Nm Cd Hh 25 ∈ GW := inGW (List.mem_of_getElem? (i := 546) rfl) rfl
set_option maxRecDepth 100000 in
theorem cw_26 : zcw E0 Nm Cd Hh 26 ∈ GW := inGW (List.mem_of_getElem? (i := 532) rfl) rfl
set_option maxRecDepth 100000 in
theorem cw_27 : zcw E0 Nm Cd Hh 27 ∈ GW := inGW (List.mem_of_getElem? (i := 65) rfl) rfl
set_option maxRecDepth 100000 in
theorem cw_28 : zcw E0 Nm Cd Hh 28 ∈ GW := inGW (List.mem_of_getElem? (i := 169) rfl) rfl
set_option maxRecDepth 100000 in
theorem cw_29 : zcw E0 Nm Cd Hh 29 ∈ GW := inGW (List.mem_of_getElem? (i := 279) rfl) rfl
set_option maxRecDepth 100000 in
theorem cw_30 : zcw E0 Nm Cd Hh 30 ∈ GW := inGW (List.mem_of_getElem? (i := 297) rfl) rfl
set_option maxRecDepth 100000 in
theorem cw_31 : zcw E0 Nm Cd Hh 31 ∈ GW := inGW (List.mem_of_getElem? (i := 304) rfl) rfl
set_option maxRecDepth 100000 in
theorem cw_32 : zcw E0 Nm Cd Hh 32 ∈ GW := inGW (List.mem_of_getElem? (i := 318) rfl) rfl
set_option maxRecDepth 100000 in
theorem cw_33 : zcw E0 Nm Cd Hh 33 ∈ GW := inGW (List.mem_of_getElem? (i := 334) rfl) rfl
set_option maxRecDepth 100000 in
theorem cw_34 : zcw E0 Nm Cd Hh 34 ∈ GW := inGW (List.mem_of_getElem? (i := 343) rfl) rfl
set_option maxRecDepth 100000 in
theorem cw_35 : zcw E0 Nm Cd Hh 35 ∈ GW := inGW (List.mem_of_getElem? (i := 363) rfl) rfl
set_option maxRecDepth 100000 in
theorem cw_36 : zcw E0 Nm Cd Hh 36 ∈ GW := inGW (List.mem_of_getElem? (i := 372) rfl) rfl
set_option maxRecDepth 100000 in
theorem cw_37 : zcw E0 Nm Cd Hh 37 ∈ GW := inGW (List.mem_of_getElem? (i := 403) rfl) rfl
set_option maxRecDepth 100000 in
theorem cw_38 : zcw E0 Nm Cd Hh 38 ∈ GW := inGW (List.mem_of_getElem? (i := 410) rfl) rfl
set_option maxRecDepth 100000 in
theorem cw_39 : zcw E0 Nm Cd Hh 39 ∈ GW := inGW (List.mem_of_getElem? (i := 441) rfl) rfl
set_option maxRecDepth 100000 in
theorem cw_40 : zcw E0 Nm Cd Hh 40 ∈ GW := inGW (List.mem_of_getElem? (i := 482) rfl) rfl
set_option maxRecDepth 100000 in
theorem cw_41 : zcw E0 Nm Cd Hh 41 ∈ GW := inGW (List.mem_of_getElem? (i := 489) rfl) rfl
set_option maxRecDepth 100000 in
theorem cw_42 : zcw E0 Nm Cd Hh 42 ∈ GW := inGW (List.mem_of_getElem? (i := 509) rfl) rfl
set_option maxRecDepth 100000 in
theorem cw_43 : zcw E0 Nm Cd Hh 43 ∈ GW := inGW (List.mem_of_getElem? (i := 517) rfl) rfl
set_option maxRecDepth 100000 in
theorem cw_44 : zcw E0 Nm Cd Hh 44 ∈ GW := inGW (List.mem_of_getElem? (i := 528) rfl) rfl
set_option maxRecDepth 100000 in
theorem cw_45 : zcw E0 Nm Cd Hh 45 ∈ GW := inGW (List.mem_of_getElem? (i := 172) rfl) rfl
set_option maxRecDepth 100000 in
theorem cw_46 : zcw E0 Nm Cd Hh 46 ∈ GW := inGW (List.mem_of_getElem? (i := 311) rfl) rfl
set_option maxRecDepth 100000 in
theorem cw_47 : zcw E0 Nm Cd Hh 47 ∈ GW := inGW (List.mem_of_getElem? (i := 417) rfl) rfl
set_option maxRecDepth 100000 in
theorem cw_48 : zcw E0 Nm Cd Hh 48 ∈ GW := inGW (List.mem_of_getElem? (i := 414) rfl) rfl
set_option maxRecDepth 100000 in
theorem cw_49 : zcw E0 Nm Cd Hh 49 ∈ GW := inGW (List.mem_of_getElem? (i := 267) rfl) rfl
set_option maxRecDepth 100000 in
theorem cw_50 : zcw E0 Nm Cd Hh 50 ∈ GW := inGW (List.mem_of_getElem? (i := 308) rfl) rfl
set_option maxRecDepth 100000 in
theorem cw_51 : zcw E0 Nm Cd Hh 51 ∈ GW := inGW (List.mem_of_getElem? (i := 326) rfl) rfl
set_option maxRecDepth 100000 in
theorem cw_52 : zcw E0 Nm Cd Hh 52 ∈ GW := inGW (List.mem_of_getElem? (i := 247) rfl) rfl
set_option maxRecDepth 100000 in
theorem cw_53 : zcw E0 Nm Cd Hh 53 ∈ GW := inGW (List.mem_of_getElem? (i := 445) rfl) rfl
set_option maxRecDepth 100000 in
theorem cw_54 : zcw E0 Nm Cd Hh 54 ∈ GW := inGW (List.mem_of_getElem? (i := 352) rfl) rfl
set_option maxRecDepth 100000 in
theorem cw_55 : zcw E0 Nm Cd Hh 55 ∈ GW := inGW (List.mem_of_getElem? (i := 431) rfl) rfl
set_option maxRecDepth 100000 in
theorem cw_56 : zcw E0 Nm Cd Hh 56 ∈ GW := inGW (List.mem_of_getElem? (i := 542) rfl) rfl
set_option maxRecDepth 100000 in
theorem cw_57 : zcw E0 Nm Cd Hh 57 ∈ GW := inGW (List.mem_of_getElem? (i := 555) rfl) rfl
set_option maxRecDepth 100000 in
theorem cw_58 : zcw E0 Nm Cd Hh 58 ∈ GW := inGW (List.mem_of_getElem? (i := 607) rfl) rfl
set_option maxRecDepth 100000 in
theorem cw_59 : zcw E0 Nm Cd Hh 59 ∈ GW := inGW (List.mem_of_getElem? (i := 622) rfl) rfl
set_option maxRecDepth 100000 in
theorem cw_60 : zcw E0 Nm Cd Hh 60 ∈ GW := inGW (List.mem_of_getElem? (i := 627) rfl) rfl
set_option maxRecDepth 100000 in
theorem cw_61 : zcw E0 Nm Cd Hh 61 ∈ GW := inGW (List.mem_of_getElem? (i := 618) rfl) rfl
set_option maxRecDepth 100000 in
theorem cw_62 : zcw E0 Nm Cd Hh 62 ∈ GW := inGW (List.mem_of_getElem? (i := 614) rfl) rfl
set_option maxRecDepth 100000 in
theorem cw_63 : zcw E0 Nm Cd Hh 63 ∈ GW := inGW (List.mem_of_getElem? (i := 611) rfl) rfl
set_option maxRecDepth 100000 in
theorem cw_64 : zcw E0 Nm Cd Hh 64 ∈ GW := inGW (List.mem_of_getElem? (i := 631) rfl) rfl
set_option maxRecDepth 100000 in
theorem cw_65 : zcw E0 Nm Cd Hh 65 ∈ GW := inGW (List.mem_of_getElem? (i := 635) rfl) rfl
set_option maxRecDepth 100000 in
theorem cw_66 : zcw E0 Nm Cd Hh 66 ∈ GW := inGW (List.mem_of_getElem? (i := 639) rfl) rfl
set_option maxRecDepth 100000 in
theorem cw_67 : zcw E0 Nm Cd Hh 67 ∈ GW := inGW (List.mem_of_getElem? (i := 643) rfl) rfl
set_option maxRecDepth 100000 in
theorem cw_68 : zcw E0 Nm Cd Hh 68 ∈ GW := inGW (List.mem_of_getElem? (i := 647) rfl) rfl
set_option maxRecDepth 100000 in
theorem cw_69 : zcw E0 Nm Cd Hh 69 ∈ GW := inGW (List.mem_of_getElem? (i := 651) rfl) rfl
set_option maxRecDepth 100000 in
theorem cw_70 : zcw E0 Nm Cd Hh 70 ∈ GW := inGW (List.mem_of_getElem? (i := 655) rfl) rfl
set_option maxRecDepth 100000 in
theorem cw_71 : zcw E0 Nm Cd Hh 71 ∈ GW := inGW (List.mem_of_getElem? (i := 663) rfl) rfl
set_option maxRecDepth 100000 in
theorem cw_72 : zcw E0 Nm Cd Hh 72 ∈ GW := inGW (List.mem_of_getElem? (i := 659) rfl) rfl
set_option maxRecDepth 100000 in
theorem cw_73 : zcw E0 Nm Cd Hh 73 ∈ GW := inGW (List.mem_of_getElem? (i := 667) rfl) rfl
set_option maxRecDepth 100000 in
theorem cw_74 : zcw E0 Nm Cd Hh 74 ∈ GW := inGW (List.mem_of_getElem? (i := 675) rfl) rfl
set_option maxRecDepth 100000 in
theorem cw_75 : zcw E0 Nm Cd Hh 75 ∈ GW := inGW (List.mem_of_getElem? (i := 671) rfl) rfl
set_option maxRecDepth 100000 in
theorem cw_76 : zcw E0 Nm Cd Hh 76 ∈ GW := inGW (List.mem_of_getElem? (i := 679) rfl) rfl
set_option maxRecDepth 100000 in
theorem cw_77 : zcw E0 Nm Cd Hh 77 ∈ GW := inGW (List.mem_of_getElem? (i := 691) rfl) rfl
set_option maxRecDepth 100000 in
theorem cw_78 : zcw E0 Nm Cd Hh 78 ∈ GW := inGW (List.mem_of_getElem? (i := 699) rfl) rfl
set_option maxRecDepth 100000 in
theorem cw_79 : zcw E0 Nm Cd Hh 79 ∈ GW := inGW (List.mem_of_getElem? (i := 695) rfl) rfl
set_option maxRecDepth 100000 in
theorem cw_80 : zcw E0 Nm Cd Hh 80 ∈ GW := inGW (List.mem_of_getElem? (i := 687) rfl) rfl
set_option maxRecDepth 100000 in
theorem cw_81 : zcw E0 Nm Cd Hh 81 ∈ GW := inGW (List.mem_of_getElem? (i := 683) rfl) rfl
set_option maxRecDepth 100000 in
theorem cw_82 : zcw E0 Nm Cd Hh 82 ∈ GW := inGW (List.mem_of_getElem? (i := 703) rfl) rfl
set_option maxRecDepth 100000 in
theorem cw_83 : zcw E0 Nm Cd Hh 83 ∈ GW := inGW (List.mem_of_getElem? (i := 715) rfl) rfl
set_option maxRecDepth 100000 in
theorem cw_84 : zcw E0 Nm Cd Hh 84 ∈ GW := inGW (List.mem_of_getElem? (i := 711) rfl) rfl
set_option maxRecDepth 100000 in
theorem cw_85 : zcw E0 Nm Cd Hh 85 ∈ GW := inGW (List.mem_of_getElem? (i := 707) rfl) rfl
set_option maxRecDepth 100000 in
theorem cw_86 : zcw E0 Nm Cd Hh 86 ∈ GW := inGW (List.mem_of_getElem? (i := 719) rfl) rfl
set_option maxRecDepth 100000 in
theorem cw_87 : zcw E0 Nm Cd Hh 87 ∈ GW := inGW (List.mem_of_getElem? (i := 723) rfl) rfl
set_option maxRecDepth 100000 in
theorem cw_88 : zcw E0 Nm Cd Hh 88 ∈ GW := inGW (List.mem_of_getElem? (i := 735) rfl) rfl
set_option maxRecDepth 100000 in
theorem cw_89 : zcw E0 Nm Cd Hh 89 ∈ GW := inGW (List.mem_of_getElem? (i := 731) rfl) rfl
set_option maxRecDepth 100000 in
theorem cw_90 : zcw E0 Nm Cd Hh 90 ∈ GW := inGW (List.mem_of_getElem? (i := 727) rfl) rfl
set_option maxRecDepth 100000 in
theorem cw_91 : zcw E0 Nm Cd Hh 91 ∈ GW := inGW (List.mem_of_getElem? (i := 129) rfl) rfl
set_option maxRecDepth 100000 in
theorem cw_92 : zcw E0 Nm Cd Hh 92 ∈ GW := inGW (List.mem_of_getElem? (i := 163) rfl) rfl
set_option maxRecDepth 100000 in
theorem cw_93 : zcw E0 Nm Cd Hh 93 ∈ GW := inGW (List.mem_of_getElem? (i := 275) rfl) rfl
set_option maxRecDepth 100000 in
theorem cw_94 : zcw E0 Nm Cd Hh 94 ∈ GW := inGW (List.mem_of_getElem? (i := 293) rfl) rfl
set_option maxRecDepth 100000 in
theorem cw_95 : zcw E0 Nm Cd Hh 95 ∈ GW := inGW (List.mem_of_getElem? (i := 300) rfl) rfl
set_option maxRecDepth 100000 in
theorem cw_96 : zcw E0 Nm Cd Hh 96 ∈ GW := inGW (List.mem_of_getElem? (i := 314) rfl) rfl
set_option maxRecDepth 100000 in
theorem cw_97 : zcw E0 Nm Cd Hh 97 ∈ GW := inGW (List.mem_of_getElem? (i := 330) rfl) rfl
set_option maxRecDepth 100000 in
theorem cw_98 : zcw E0 Nm Cd Hh 98 ∈ GW := inGW (List.mem_of_getElem? (i := 339) rfl) rfl
set_option maxRecDepth 100000 in
theorem cw_99 : zcw E0 Nm Cd Hh 99 ∈ GW := inGW (List.mem_of_getElem? (i := 359) rfl) rfl
set_option maxRecDepth 100000 in
theorem cw_100 : zcw E0 Nm Cd Hh 100 ∈ GW := inGW (List.mem_of_getElem? (i := 367) rfl) rfl
set_option maxRecDepth 100000 in
theorem cw_101 : zcw E0 Nm Cd Hh 101 ∈ GW := inGW (List.mem_of_getElem? (i := 399) rfl) rfl
set_option maxRecDepth 100000 in
theorem cw_102 : zcw E0 Nm Cd Hh 102 ∈ GW := inGW (List.mem_of_getElem? (i := 406) rfl) rfl
set_option maxRecDepth 100000 in
theorem cw_103 : zcw E0 Nm Cd Hh 103 ∈ GW := inGW (List.mem_of_getElem? (i := 437) rfl) rfl
set_option maxRecDepth 100000 in
theorem cw_104 : zcw E0 Nm Cd Hh 104 ∈ GW := inGW (List.mem_of_getElem? (i := 478) rfl) rfl
set_option maxRecDepth 100000 in
theorem cw_105 : zcw E0 Nm Cd Hh 105 ∈ GW := inGW (List.mem_of_getElem? (i := 485) rfl) rfl
set_option maxRecDepth 100000 in
theorem cw_106 : zcw E0 Nm Cd Hh 106 ∈ GW := inGW (List.mem_of_getElem? (i := 505) rfl) rfl
set_option maxRecDepth 100000 in
theorem cw_107 : zcw E0 Nm Cd Hh 107 ∈ GW := inGW (List.mem_of_getElem? (i := 513) rfl) rfl
set_option maxRecDepth 100000 in
theorem cw_108 : zcw E0 Nm Cd Hh 108 ∈ GW := inGW (List.mem_of_getElem? (i := 524) rfl) rfl
def cwIdx : List Nat := [0, 1, 2, 3, 4, 5, 6, 7, 8, 9, 10, 11, 12, 13, 14, 15, 16, 17, 18, 19, 20, 21, 22, 23, 24, 25, 26, 27, 28, 29, 30, 31, 32, 33, 34, 35, 36, 37, 38, 39, 40, 41, 42, 43, 44, 45, 46, 47, 48, 49, 50, 51, 52, 53, 54, 55, 56, 57, 58, 59, 60, 61, 62, 63, 64, 65, 66, 67, 68, 69, 70, 71, 72, 73, 74, 75, 76, 77, 78, 79, 80, 81, 82, 83, 84, 85, 86, 87, 88, 89, 90, 91, 92, 93, 94, 95, 96, 97, 98, 99, 100, 101, 102, 103, 104, 105, 106, 107, 108]
theorem cwC_0 : ∀ y ∈ ([0, 1, 2, 3, 4, 5, 6, 7, 8, 9, 10, 11, 12, 13, 14, 15] : List Nat), zcw E0 Nm Cd Hh y ∈ GW := List.forall_mem_cons.mpr ⟨cw_0, List.forall_mem_cons.mpr ⟨cw_1, List.forall_mem_cons.mpr ⟨cw_2, List.forall_mem_cons.mpr ⟨cw_3, List.forall_mem_cons.mpr ⟨cw_4, List.forall_mem_cons.mpr ⟨cw_5, List.forall_mem_cons.mpr ⟨cw_6, List.forall_mem_cons.mpr ⟨cw_7, List.forall_mem_cons.mpr ⟨cw_8, List.forall_mem_cons.mpr ⟨cw_9, List.forall_mem_cons.mpr ⟨cw_10, List.forall_mem_cons.mpr ⟨cw_11, List.forall_mem_cons.mpr ⟨cw_12, List.forall_mem_cons.mpr ⟨cw_13, List.forall_mem_cons.mpr ⟨cw_14, List.forall_mem_cons.mpr ⟨cw_15, fun _ h => absurd h List.not_mem_nil⟩⟩⟩⟩⟩⟩⟩⟩⟩⟩⟩⟩⟩⟩⟩⟩
theorem cwC_1 : ∀ y ∈ ([16, 17, 18, 19, 20, 21, 22, 23, 24, 25, 26, 27, 28, 29, 30, 31] : List Nat), zcw E0 Nm Cd Hh y ∈ GW := List.forall_mem_cons.mpr ⟨cw_16, List.forall_mem_cons.mpr ⟨cw_17, List.forall_mem_cons.mpr ⟨cw_18, List.forall_mem_cons.mpr ⟨cw_19, List.forall_mem_cons.mpr ⟨cw_20, List.forall_mem_cons.mpr ⟨cw_21, List.forall_mem_cons.mpr ⟨cw_22, List.forall_mem_cons.mpr ⟨cw_23, List.forall_mem_cons.mpr ⟨cw_24, List.forall_mem_cons.mpr ⟨cw_25, List.forall_mem_cons.mpr ⟨cw_26, List.forall_mem_cons.mpr ⟨cw_27, List.forall_mem_cons.mpr ⟨cw_28, List.forall_mem_cons.mpr ⟨cw_29, List.forall_mem_cons.mpr ⟨cw_30, List.forall_mem_cons.mpr ⟨cw_31, fun _ h => absurd h List.not_mem_nil⟩⟩⟩⟩⟩⟩⟩⟩⟩⟩⟩⟩⟩⟩⟩⟩
theorem cwC_2 : ∀ y ∈ ([32, 33, 34, 35, 36, 37, 38, 39, 40, 41, 42, 43, 44, 45, 46, 47] : List Nat), zcw E0 Nm Cd Hh y ∈ GW := List.forall_mem_cons.mpr ⟨cw_32, List.forall_mem_cons.mpr ⟨cw_33, List.forall_mem_cons.mpr ⟨cw_34, List.forall_mem_cons.mpr ⟨cw_35, List.forall_mem_cons.mpr ⟨cw_36, List.forall_mem_cons.mpr ⟨cw_37, List.forall_mem_cons.mpr ⟨cw_38, List.forall_mem_cons.mpr ⟨cw_39, List.forall_mem_cons.mpr ⟨cw_40, List.forall_mem_cons.mpr ⟨cw_41, List.forall_mem_cons.mpr ⟨cw_42, List.forall_mem_cons.mpr ⟨cw_43, List.forall_mem_cons.mpr ⟨cw_44, List.forall_mem_cons.mpr ⟨cw_45, List.forall_mem_cons.mpr ⟨cw_46, List.forall_mem_cons.mpr ⟨cw_47, fun _ h => absurd h List.not_mem_nil⟩⟩⟩⟩⟩⟩⟩⟩⟩⟩⟩⟩⟩⟩⟩⟩
theorem cwC_3 : ∀ y ∈ ([48, 49, 50, 51, 52, 53, 54, 55, 56, 57, 58, 59, 60, 61, 62, 63] : List Nat), zcw E0 Nm Cd Hh y ∈ GW := List.forall_mem_cons.mpr ⟨cw_48, List.forall_mem_cons.mpr ⟨cw_49, List.forall_mem_cons.mpr ⟨cw_50, List.forall_mem_cons.mpr ⟨cw_51, List.forall_mem_cons.mpr ⟨cw_52, List.forall_mem_cons.mpr ⟨cw_53, List.forall_mem_cons.mpr ⟨cw_54, List.forall_mem_cons.mpr ⟨cw_55, List.forall_mem_cons.mpr ⟨cw_56, List.forall_mem_cons.mpr ⟨cw_57, List.forall_mem_cons.mpr ⟨cw_58, List.forall_mem_cons.mpr ⟨cw_59, List.forall_mem_cons.mpr ⟨cw_60, List.forall_mem_cons.mpr ⟨cw_61, List.forall_mem_cons.mpr ⟨cw_62, List.forall_mem_cons.mpr ⟨cw_63, fun _ h => absurd h List.not_mem_nil⟩⟩⟩⟩⟩⟩⟩⟩⟩⟩⟩⟩⟩⟩⟩⟩
theorem cwC_4 : ∀ y ∈ ([64, 65, 66, 67, 68, 69, 70, 71, 72, 73, 74, 75, 76, 77, 78, 79] : List Nat), zcw E0 Nm Cd Hh y ∈ GW := List.forall_mem_cons.mpr ⟨cw_64, List.forall_mem_cons.mpr ⟨cw_65, List.forall_mem_cons.mpr ⟨cw_66, List.forall_mem_cons.mpr ⟨cw_67, List.forall_mem_cons.mpr ⟨cw_68, List.forall_mem_cons.mpr ⟨cw_69, List.forall_mem_cons.mpr ⟨cw_70, List.forall_mem_cons.mpr ⟨cw_71, List.forall_mem_cons.mpr ⟨cw_72, List.forall_mem_cons.mpr ⟨cw_73, List.forall_mem_cons.mpr ⟨cw_74, List.forall_mem_cons.mpr ⟨cw_75, List.forall_mem_cons.mpr ⟨cw_76, List.forall_mem_cons.mpr ⟨cw_77, List.forall_mem_cons.mpr ⟨cw_78, List.forall_mem_cons.mpr ⟨cw_79, fun _ h => absurd h List.not_mem_nil⟩⟩⟩⟩⟩⟩⟩⟩⟩⟩⟩⟩⟩⟩⟩⟩
theorem cwC_5 : ∀ y ∈ ([80, 81, 82, 83, 84, 85, 86, 87, 88, 89, 90, 91, 92, 93, 94, 95] : List Nat), zcw E0 Nm Cd Hh y ∈ GW := List.forall_mem_cons.mpr ⟨cw_80, List.forall_mem_cons.mpr ⟨cw_81, List.forall_mem_cons.mpr ⟨cw_82, List.forall_mem_cons.mpr ⟨cw_83, List.forall_mem_cons.mpr ⟨cw_84, List.forall_mem_cons.mpr ⟨cw_85, List.forall_mem_cons.mpr ⟨cw_86, List.forall_mem_cons.mpr ⟨cw_87, List.forall_mem_cons.mpr ⟨cw_88, List.forall_mem_cons.mpr ⟨cw_89, List.forall_mem_cons.mpr ⟨cw_90, List.forall_mem_cons.mpr ⟨cw_91, List.forall_mem_cons.mpr ⟨cw_92, List.forall_mem_cons.mpr ⟨cw_93, List.forall_mem_cons.mpr ⟨cw_94, List.forall_mem_cons.mpr ⟨cw_95, fun _ h => absurd h List.not_mem_nil⟩⟩⟩⟩⟩⟩⟩⟩⟩⟩⟩⟩⟩⟩⟩⟩
theorem cwC_6 : ∀ y ∈ ([96, 97, 98, 99, 100, 101, 102, 103, 104, 105, 106, 107, 108] : List Nat), zcw E0 Nm Cd Hh y ∈ GW := List.forall_mem_cons.mpr ⟨cw_96, List.forall_mem_cons.mpr ⟨cw_97, List.forall_mem_cons.mpr ⟨cw_98, List.forall_mem_cons.mpr ⟨cw_99, List.forall_mem_cons.mpr ⟨cw_100, List.forall_mem_cons.mpr ⟨cw_101, List.forall_mem_cons.mpr ⟨cw_102, List.forall_mem_cons.mpr ⟨cw_103, List.forall_mem_cons.mpr ⟨cw_104, List.forall_mem_cons.mpr ⟨cw_105, List.forall_mem_cons.mpr ⟨cw_106, List.forall_mem_cons.mpr ⟨cw_107, List.forall_mem_cons.mpr ⟨cw_108, fun _ h => absurd h List.not_mem_nil⟩⟩⟩⟩⟩⟩⟩⟩⟩⟩⟩⟩⟩
theorem cwAll (y : Nat) (h : cwIdx.any (fun i => i == y) = true) : zcw E0 Nm Cd Hh y ∈ GW := by
  have h1 : ∀ y ∈ ([0, 1, 2, 3, 4, 5, 6, 7, 8, 9, 10, 11, 12, 13, 14, 15] ++ ([16, 17, 18, 19, 20, 21, 22, 23, 24, 25, 26, 27, 28, 29, 30, 31] ++ ([32, 33, 34, 35, 36, 37, 38, 39, 40, 41, 42, 43, 44, 45, 46, 47] ++ ([48, 49, 50, 51, 52, 53, 54, 55, 56, 57, 58, 59, 60, 61, 62, 63] ++ ([64, 65, 66, 67, 68, 69, 70, 71, 72, 73, 74, 75, 76, 77, 78, 79] ++ ([80, 81, 82, 83, 84, 85, 86, 87, 88, 89, 90, 91, 92, 93, 94, 95] ++ ([96, 97, 98, 99, 100, 101, 102, 103, 104, 105, 106, 107, 108])))))) : List Nat), zcw E0 Nm Cd Hh y ∈ GW := List.forall_mem_append.mpr ⟨cwC_0, List.forall_mem_append.mpr ⟨cwC_1, List.forall_mem_append.mpr ⟨cwC_2, List.forall_mem_append.mpr ⟨cwC_3, List.forall_mem_append.mpr ⟨cwC_4, List.forall_mem_append.mpr ⟨cwC_5, cwC_6⟩⟩⟩⟩⟩⟩
  obtain ⟨i, hi, e9⟩ := List.any_eq_true.mp h
  rw [beq_iff_eq] at e9
  rw [← e9]
  exact h1 i hi
def zMB (y : Nat) : Bool := plainName (Nm y).cls && !((Nm y).cls == "java/lang/invoke/MethodHandle") && !((Nm y).cls == "java/lang/invoke/VarHandle") && ((Nm y).cls == Ow (zOwn (eD y))) && inB (.initialized (Nm y).cls) &&
  decide ((parseMethodDescriptor (Nm y).desc).map (fun d => d.parameters.length) = some (zAr (eD y) - (if zKd (eD y) = 0 then 0 else 1))) &&
  (if zKd (eD y) = 0 then inB (.static (Nm y)) else if zKd (eD y) = 1 then inB (.instanceMethod (Nm y)) && inB (.selects (Ow (zOwn (eD y))) (Nm y) (Nm y)) else ((Nm y).name == "<init>") && inB (.instanceMethod (Nm y)) && decide (Hh y = []) && decide (zRet (eD y) = none))
theorem zMB_ok {y : Nat} (hc : zcw E0 Nm Cd Hh y ∈ GW) (h : zMB y = true) : zMok E0 Nm Cd Ow Hh GW y := by
  unfold zMB at h
  simp only [Bool.and_eq_true, Bool.not_eq_true', beq_eq_false_iff_ne, beq_iff_eq, decide_eq_true_eq] at h
  obtain ⟨⟨⟨⟨⟨⟨h1, h2⟩, h3⟩, h4⟩, h6⟩, h7⟩, h8⟩ := h
  refine ⟨h1, ⟨h2, h3⟩, h4, hc, inB_in h6, h7, fun hk => ?_, fun hk => ?_, fun hk => ?_⟩
  · rw [if_pos (show zKd (eD y) = 0 from hk)] at h8
    exact inB_in h8
  · have hk : zKd (eD y) = 1 := hk
    rw [if_neg (by rw [hk]; decide), if_pos hk, Bool.and_eq_true] at h8
    exact ⟨inB_in h8.1, inB_in h8.2⟩
  · have hk : zKd (eD y) = 2 := hk
    rw [if_neg (by rw [hk]; decide), if_neg (by rw [hk]; decide)] at h8
    simp only [Bool.and_eq_true, beq_iff_eq, decide_eq_true_eq] at h8
    exact ⟨h8.1.1.1, inB_in h8.1.1.2, h8.1.2, h8.2⟩
def Mchk (r : Nat × Nat × Nat × Bool) : Bool := (if r.2.2.2 = true then inB (.methodLinkNest (Ow r.1) r.2.1 (Nm r.2.2.1) "ShaftLoom") else inB (.methodLink (Ow r.1) r.2.1 (Nm r.2.2.1)))
theorem ML_ok : ML.all Mchk = true := by decide +kernel
theorem MLm_ok : (ML.map fun r => r.2.2.1).all zMB = true := by decide +kernel
theorem MLr_ok : (ML.map fun r => r.2.2.1).all (fun y => cwIdx.any (fun i => i == y)) = true := by decide +kernel
theorem okM0 : okM E0 Nm Cd Ow Hh GW := by
  intro own n y h
  obtain ⟨r, hr, hp, hv⟩ := zfindm (show (ML.find? fun r => r.1 == own && r.2.1 == n).map (fun r => r.2.2.1) = some y from h)
  have hc := List.all_eq_true.mp ML_ok r hr
  have hm := List.all_eq_true.mp MLm_ok r.2.2.1 (List.mem_map.mpr ⟨r, hr, rfl⟩)
  rw [Bool.and_eq_true, beq_iff_eq, beq_iff_eq] at hp
  obtain ⟨r1, r2, r3, r4⟩ := r
  obtain ⟨rfl, rfl⟩ := hp
  cases hv
  refine ⟨?_, zMB_ok (cwAll r3 (List.all_eq_true.mp MLr_ok _ (List.mem_map.mpr ⟨_, hr, rfl⟩))) hm⟩
  unfold Mchk at hc
  dsimp only at hc
  cases r4 with
  | true => rw [if_pos rfl] at hc; exact Or.inr ⟨_, inB_in hc⟩
  | false => rw [if_neg (by decide)] at hc; exact Or.inl (inB_in hc)
def Xchk (r : Nat × Nat × Nat × Nat × Nat × Nat × String) : Bool :=
  decide (Hh r.1 = []) && Bundle.fit (Xn r.2.2.1) && decide (decode (Cd r.1) r.2.1 = .ok (.new r.2.2.2.1, 3)) && decide (decode (Cd r.1) (r.2.1 + 3) = .ok (.dup, 1)) && decide (decode (Cd r.1) (r.2.1 + 4) = .ok (.ldc r.2.2.2.2.1, 2)) && decide (decode (Cd r.1) (r.2.1 + 6) = .ok (.invokespecial r.2.2.2.2.2.1, 3)) && decide (decode (Cd r.1) (r.2.1 + 9) = .ok (.athrow, 1)) &&
  inB (.classLink (Ow (zOwn (eD r.1))) r.2.2.2.1 (Xn r.2.2.1)) && inB (.initialized (Xn r.2.2.1)) && (vx_atS (Ow (zOwn (eD r.1))) r.2.2.2.2.2.1 (Xn r.2.2.1) zNames).all inB &&
  (Cond.classLink (Ow (zOwn (eD r.1))) r.2.2.2.1 (Xn r.2.2.1) :: Cond.initialized (Xn r.2.2.1) :: vx_atS (Ow (zOwn (eD r.1))) r.2.2.2.2.2.1 (Xn r.2.2.1) zNames).all vx_ot && decide ((Ow (zOwn (eD r.1)), r.2.2.2.2.1, r.2.2.2.2.2.2) ∈ SL)
theorem XA_ok : (vx_atS RX3 64 (Xn 0) zNames).all inB = true := by decide +kernel
theorem XB_ok : (vx_atS RX3 64 (Xn 0) zNames).all zgood = true := by decide +kernel
theorem XD_ok : (vx_atS RX3 64 (Xn 0) zNames).all vx_ot = true := by decide +kernel
theorem XL_ok : XL.all Xchk = true := by decide +kernel
theorem okX0 : okX E0 Cd Ow Xn Hh GW SL := by
  intro y pc x h
  obtain ⟨r, hr, hp, hv⟩ := zfindm (show (XL.find? fun r => r.1 == y && r.2.1 == pc).map (fun r => r.2.2.1) = some x from h)
  have hc := List.all_eq_true.mp XL_ok r hr
  rw [Bool.and_eq_true, beq_iff_eq, beq_iff_eq] at hp
  obtain ⟨r1, r2, r3, r4, r5, r6, r7⟩ := r
  obtain ⟨rfl, rfl⟩ := hp
  cases hv
  unfold Xchk at hc
  dsimp only at hc
  simp only [Bool.and_eq_true, decide_eq_true_eq] at hc
  obtain ⟨⟨⟨⟨⟨⟨⟨⟨⟨⟨⟨c1, c2⟩, c3⟩, c4⟩, c5⟩, c6⟩, c7⟩, c8⟩, c9⟩, c10⟩, c11⟩, c12⟩ := hc
  exact ⟨c1, c2, r4, r5, r6, r7, c3, c4, c5, c6, c7, inB_in c8, inB_in c9, fun w hw => inB_in (List.all_eq_true.mp c10 w hw), fun w hw => List.all_eq_true.mp c11 w hw, c12⟩
def Hchk (y : Nat) (p : (Nat × Nat × Nat × Nat × Nat) × (Nat × Nat × Nat × Nat)) : Bool :=
  (p.1.1 == p.2.1) && (p.1.2.1 == p.2.2.1) && !(p.2.2.2.2 == 0) && decide (p.1.2.2.1 < 3) && inB (.classLink (Ow (zOwn (eD y))) p.2.2.2.2 (Xn p.1.2.2.1)) && decide (p.1.2.2.2.2 < zMax (eD y)) &&
  ((if hh : p.1.2.2.2.2 < 4 then decide (decode (Cd y) p.2.2.2.1 = .ok (.astore_n ⟨p.1.2.2.2.2, hh⟩, 1)) && (p.1.2.2.2.1 == p.2.2.2.1 + 1) else false) || (decide (decode (Cd y) p.2.2.2.1 = .ok (.astore p.1.2.2.2.2, 2)) && (p.1.2.2.2.1 == p.2.2.2.1 + 2)))
theorem eHL_ok : (eHL.map fun r => r.1).all (fun y => ((Hh y).length == (eH y).length) && ((eH y).zip (Hh y)).all (Hchk y)) = true := by decide +kernel
theorem HhL_eq : HhL.map (fun r => r.1) = eHL.map (fun r => r.1) := by decide +kernel
theorem okH0 : okH E0 Cd Ow Xn Hh GW := by
  refine ⟨fun x hx => ?_, fun y => ?_⟩
  · match x, hx with
    | 0, _ => exact inB_in (by decide +kernel)
    | 1, _ => exact inB_in (by decide +kernel)
    | 2, _ => exact inB_in (by decide +kernel)
  · change (Hh y).length = (eH y).length ∧ ∀ (j a b x h i : Nat), (eH y)[j]? = some (a, b, x, h, i) → _
    by_cases hy : y ∈ eHL.map (fun r => r.1)
    · have hc := List.all_eq_true.mp eHL_ok y hy
      rw [Bool.and_eq_true, beq_iff_eq] at hc
      refine ⟨hc.1, fun j a b x h i hj => ?_⟩
      have hjl : j < (Hh y).length := by rw [hc.1]; exact (List.getElem?_eq_some_iff.mp hj).1
      obtain ⟨⟨a', b', hp, cp⟩, hq⟩ : ∃ r, (Hh y)[j]? = some r := ⟨_, List.getElem?_eq_getElem hjl⟩
      have hz : ((eH y).zip (Hh y))[j]? = some ((a, b, x, h, i), (a', b', hp, cp)) := by rw [List.getElem?_zip_eq_some]; exact ⟨hj, hq⟩
      have h1 := List.all_eq_true.mp hc.2 _ (List.mem_of_getElem? hz)
      unfold Hchk at h1
      simp only [Bool.and_eq_true, Bool.or_eq_true, beq_iff_eq, Bool.not_eq_true', beq_eq_false_iff_ne, decide_eq_true_eq] at h1
      obtain ⟨⟨⟨⟨⟨⟨c1, c2⟩, c3⟩, c4⟩, c5⟩, c6⟩, c7⟩ := h1
      subst c1; subst c2
      refine ⟨hp, cp, hq, c3, c4, inB_in c5, c6, ?_⟩
      rcases c7 with c7 | c7
      · split at c7
        · rename_i hh
          simp only [Bool.and_eq_true, beq_iff_eq, decide_eq_true_eq] at c7
          exact Or.inl ⟨⟨i, hh⟩, rfl, c7.1, c7.2⟩
        · cases c7
      · exact Or.inr c7
    · have e1 : eH y = [] := by
        unfold eH
        rw [List.find?_eq_none.mpr (fun r hr => by simp only [beq_iff_eq]; exact fun e => hy (List.mem_map.mpr ⟨r, hr, e⟩))]
        rfl
      have e2 : Hh y = [] := by
        unfold Hh
        rw [List.find?_eq_none.mpr (fun r hr => by simp only [beq_iff_eq]; exact fun e => hy (by rw [← HhL_eq]; exact List.mem_map.mpr ⟨r, hr, e⟩))]
        rfl
      rw [e1, e2]
      exact ⟨rfl, fun j a b x h i hj => by simp at hj⟩
theorem sound0 (D : va_G) (ct : Nat → ClassId) : ∀ f, zSound E0 Cd Ow Xn Hh cl0 GW SL D ct f := z_sound GW_good okT0 okF0 okC0 okNew0 okK0 okN0 okM0 okX0 okH0
