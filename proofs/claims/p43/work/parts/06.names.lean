def gn_T0 : u_T := fun k => match k with
  | 0 => ("GravyRound", "tape", "[B", true)
  | 1 => ("GravyRound", "tapeLength", "I", false)
  | 2 => ("GravyRound", "faultKind", "I", false)
  | 3 => ("GravyRound", "faultPlace", "I", false)
  | 4 => ("GravyRound", "told", "LGravyRound$Dinner;", true)
  | 5 => ("GravyRound", "draft", "LGravyRound$Dinner;", true)
  | 6 => ("GravyRound", "reader", "LGravyRound$Reader;", true)
  | 7 => ("GravyRound", "live", "LGravyRound$Table;", true)
  | 8 => ("GravyRound", "trial", "LGravyRound$Table;", true)
  | 9 => ("GravyRound", "acts", "LGravyRound$Acts;", true)
  | 10 => ("GravyRound", "boxes", "[LGravyRound$Table;", true)
  | 11 => ("GravyRound", "filledBoxes", "I", false)
  | 12 => ("GravyRound", "lying", "LGravyRound$Row;", true)
  | 13 => ("GravyRound", "orders", "LGravyRound$Orders;", true)
  | 14 => ("GravyRound", "shares", "LGravyRound$Shares;", true)
  | 15 => ("GravyRound", "company", "LGravyRound$Company;", true)
  | _ => ("GravyRound", "sights", "LGravyRound$Sights;", true)
def gn_ty0 : Nat → FieldType := fun k => match k with
  | 0 => .array .byte
  | 1 => .int
  | 2 => .int
  | 3 => .int
  | 4 => .object "GravyRound$Dinner"
  | 5 => .object "GravyRound$Dinner"
  | 6 => .object "GravyRound$Reader"
  | 7 => .object "GravyRound$Table"
  | 8 => .object "GravyRound$Table"
  | 9 => .object "GravyRound$Acts"
  | 10 => .array (.object "GravyRound$Table")
  | 11 => .int
  | 12 => .object "GravyRound$Row"
  | 13 => .object "GravyRound$Orders"
  | 14 => .object "GravyRound$Shares"
  | 15 => .object "GravyRound$Company"
  | _ => .object "GravyRound$Sights"
def gn_T1 : u_T := fun k => match k with
  | 0 => ("GravyRoundModel", "tape", "[B", true)
  | 1 => ("GravyRoundModel", "text", "[B", true)
  | 2 => ("GravyRoundModel", "taped", "I", false)
  | 3 => ("GravyRoundModel", "size", "I", false)
  | 4 => ("GravyRoundModel", "faultKind", "I", false)
  | 5 => ("GravyRoundModel", "faultPlace", "I", false)
  | 6 => ("GravyRoundModel", "at", "I", false)
  | 7 => ("GravyRoundModel", "end", "I", false)
  | 8 => ("GravyRoundModel", "token", "I", false)
  | 9 => ("GravyRoundModel", "number", "I", false)
  | 10 => ("GravyRoundModel", "name", "J", false)
  | 11 => ("GravyRoundModel", "guests", "[I", true)
  | 12 => ("GravyRoundModel", "feuds", "[I", true)
  | 13 => ("GravyRoundModel", "units", "[I", true)
  | 14 => ("GravyRoundModel", "boat", "[I", true)
  | 15 => ("GravyRoundModel", "heat", "[I", true)
  | 16 => ("GravyRoundModel", "across", "[I", true)
  | 17 => ("GravyRoundModel", "leans", "[I", true)
  | 18 => ("GravyRoundModel", "draw", "[I", true)
  | 19 => ("GravyRoundModel", "told", "[I", true)
  | 20 => ("GravyRoundModel", "takes", "[I", true)
  | 21 => ("GravyRoundModel", "slow", "[I", true)
  | 22 => ("GravyRoundModel", "one", "[I", true)
  | 23 => ("GravyRoundModel", "other", "[I", true)
  | 24 => ("GravyRoundModel", "ruleFrom", "[I", true)
  | 25 => ("GravyRoundModel", "ruleTo", "[I", true)
  | 26 => ("GravyRoundModel", "gName", "[J", true)
  | 27 => ("GravyRoundModel", "code", "[I", true)
  | 28 => ("GravyRoundModel", "codeNumber", "[I", true)
  | 29 => ("GravyRoundModel", "eWhat", "[I", true)
  | 30 => ("GravyRoundModel", "eSign", "[I", true)
  | 31 => ("GravyRoundModel", "pile", "[I", true)
  | 32 => ("GravyRoundModel", "bank", "I", false)
  | 33 => ("GravyRoundModel", "rb", "I", false)
  | 34 => ("GravyRoundModel", "codes", "I", false)
  | 35 => ("GravyRoundModel", "within", "I", false)
  | 36 => ("GravyRoundModel", "piled", "I", false)
  | 37 => ("GravyRoundModel", "unitsInRule", "I", false)
  | 38 => ("GravyRoundModel", "all", "[I", true)
  | 39 => ("GravyRoundModel", "kept", "[I", true)
  | 40 => ("GravyRoundModel", "servedAt", "[I", true)
  | 41 => ("GravyRoundModel", "thoughtTakes", "[I", true)
  | 42 => ("GravyRoundModel", "thoughtSlow", "I", false)
  | 43 => ("GravyRoundModel", "thoughtFirst", "I", false)
  | 44 => ("GravyRoundModel", "isThought", "Z", false)
  | 45 => ("GravyRoundModel", "was", "[I", true)
  | 46 => ("GravyRoundModel", "acts", "I", false)
  | 47 => ("GravyRoundModel", "undone", "I", false)
  | 48 => ("GravyRoundModel", "laidRow", "[I", true)
  | 49 => ("GravyRoundModel", "inOrder", "[I", true)
  | 50 => ("GravyRoundModel", "bestOrder", "[I", true)
  | 51 => ("GravyRoundModel", "laid", "I", false)
  | 52 => ("GravyRoundModel", "gainOne", "[I", true)
  | 53 => ("GravyRoundModel", "gainOther", "[I", true)
  | 54 => ("GravyRoundModel", "standsIf", "[I", true)
  | 55 => ("GravyRoundModel", "sMinutes", "[I", true)
  | 56 => ("GravyRoundModel", "sSeat", "[I", true)
  | 57 => ("GravyRoundModel", "sIs", "[I", true)
  | 58 => ("GravyRoundModel", "sTold", "[I", true)
  | 59 => ("GravyRoundModel", "sUntold", "[I", true)
  | 60 => ("GravyRoundModel", "parts", "[I", true)
  | 61 => ("GravyRoundModel", "seens", "I", false)
  | 62 => ("GravyRoundModel", "time", "I", false)
  | 63 => ("GravyRoundModel", "boxAll", "[I", true)
  | _ => ("GravyRoundModel", "isBoxed", "[Z", true)
def gn_ty1 : Nat → FieldType := fun k => match k with
  | 0 => .array .byte
  | 1 => .array .byte
  | 2 => .int
  | 3 => .int
  | 4 => .int
  | 5 => .int
  | 6 => .int
  | 7 => .int
  | 8 => .int
  | 9 => .int
  | 10 => .long
  | 11 => .array .int
  | 12 => .array .int
  | 13 => .array .int
  | 14 => .array .int
  | 15 => .array .int
  | 16 => .array .int
  | 17 => .array .int
  | 18 => .array .int
  | 19 => .array .int
  | 20 => .array .int
  | 21 => .array .int
  | 22 => .array .int
  | 23 => .array .int
  | 24 => .array .int
  | 25 => .array .int
  | 26 => .array .long
  | 27 => .array .int
  | 28 => .array .int
  | 29 => .array .int
  | 30 => .array .int
  | 31 => .array .int
  | 32 => .int
  | 33 => .int
  | 34 => .int
  | 35 => .int
  | 36 => .int
  | 37 => .int
  | 38 => .array .int
  | 39 => .array .int
  | 40 => .array .int
  | 41 => .array .int
  | 42 => .int
  | 43 => .int
  | 44 => .boolean
  | 45 => .array .int
  | 46 => .int
  | 47 => .int
  | 48 => .array .int
  | 49 => .array .int
  | 50 => .array .int
  | 51 => .int
  | 52 => .array .int
  | 53 => .array .int
  | 54 => .array .int
  | 55 => .array .int
  | 56 => .array .int
  | 57 => .array .int
  | 58 => .array .int
  | 59 => .array .int
  | 60 => .array .int
  | 61 => .int
  | 62 => .int
  | 63 => .array .int
  | _ => .array .boolean
def gn_T2 : u_T := fun k => match k with
  | 0 => ("GravyRound$Acts", "tables", "[LGravyRound$Table;", true)
  | 1 => ("GravyRound$Acts", "first", "I", false)
  | 2 => ("GravyRound$Acts", "done", "I", false)
  | _ => ("GravyRound$Acts", "kept", "I", false)
def gn_ty2 : Nat → FieldType := fun k => match k with
  | 0 => .array (.object "GravyRound$Table")
  | 1 => .int
  | 2 => .int
  | _ => .int
def gn_T3 : u_T := fun k => match k with
  | 0 => ("GravyRound$Company", "foes", "[I", true)
  | 1 => ("GravyRound$Company", "guests", "I", false)
  | _ => ("GravyRound$Company", "table", "[I", true)
def gn_ty3 : Nat → FieldType := fun k => match k with
  | 0 => .array .int
  | 1 => .int
  | _ => .array .int
def gn_T4 : u_T := fun k => match k with
  | 0 => ("GravyRound$Dinner", "guests", "I", false)
  | 1 => ("GravyRound$Dinner", "names", "[J", true)
  | 2 => ("GravyRound$Dinner", "takes", "[I", true)
  | 3 => ("GravyRound$Dinner", "slow", "[I", true)
  | 4 => ("GravyRound$Dinner", "feuds", "I", false)
  | 5 => ("GravyRound$Dinner", "feudFirst", "[I", true)
  | 6 => ("GravyRound$Dinner", "feudOther", "[I", true)
  | 7 => ("GravyRound$Dinner", "boat", "I", false)
  | 8 => ("GravyRound$Dinner", "heat", "I", false)
  | 9 => ("GravyRound$Dinner", "across", "I", false)
  | 10 => ("GravyRound$Dinner", "leans", "I", false)
  | 11 => ("GravyRound$Dinner", "draw", "I", false)
  | _ => ("GravyRound$Dinner", "cools", "LGravyRound$Formula;", true)
def gn_ty4 : Nat → FieldType := fun k => match k with
  | 0 => .int
  | 1 => .array .long
  | 2 => .array .int
  | 3 => .array .int
  | 4 => .int
  | 5 => .array .int
  | 6 => .array .int
  | 7 => .int
  | 8 => .int
  | 9 => .int
  | 10 => .int
  | 11 => .int
  | _ => .object "GravyRound$Formula"
def gn_T5 : u_T := fun k => match k with
  | 0 => ("GravyRound$Formula", "steps", "[I", true)
  | 1 => ("GravyRound$Formula", "length", "I", false)
  | 2 => ("GravyRound$Formula", "units", "I", false)
  | 3 => ("GravyRound$Formula", "known", "[I", true)
  | _ => ("GravyRound$Formula", "stack", "[I", true)
def gn_ty5 : Nat → FieldType := fun k => match k with
  | 0 => .array .int
  | 1 => .int
  | 2 => .int
  | 3 => .array .int
  | _ => .array .int
def gn_T6 : u_T := fun k => match k with
  | 0 => ("GravyRound$Orders", "told", "LGravyRound$Dinner;", true)
  | 1 => ("GravyRound$Orders", "foes", "[I", true)
  | 2 => ("GravyRound$Orders", "order", "[I", true)
  | 3 => ("GravyRound$Orders", "heats", "[I", true)
  | 4 => ("GravyRound$Orders", "boats", "[I", true)
  | 5 => ("GravyRound$Orders", "firstSeat", "I", false)
  | 6 => ("GravyRound$Orders", "free", "I", false)
  | 7 => ("GravyRound$Orders", "price", "I", false)
  | 8 => ("GravyRound$Orders", "bestYet", "I", false)
  | 9 => ("GravyRound$Orders", "found", "[I", true)
  | _ => ("GravyRound$Orders", "size", "I", false)
def gn_ty6 : Nat → FieldType := fun k => match k with
  | 0 => .object "GravyRound$Dinner"
  | 1 => .array .int
  | 2 => .array .int
  | 3 => .array .int
  | 4 => .array .int
  | 5 => .int
  | 6 => .int
  | 7 => .int
  | 8 => .int
  | 9 => .array .int
  | _ => .int
def gn_T7 : u_T := fun k => match k with
  | 0 => ("GravyRound$Reader", "tokens", "LGravyRound$Tokens;", true)
  | 1 => ("GravyRound$Reader", "into", "LGravyRound$Dinner;", true)
  | 2 => ("GravyRound$Reader", "toldOnce", "I", false)
  | 3 => ("GravyRound$Reader", "faultKind", "I", false)
  | _ => ("GravyRound$Reader", "faultPlace", "I", false)
def gn_ty7 : Nat → FieldType := fun k => match k with
  | 0 => .object "GravyRound$Tokens"
  | 1 => .object "GravyRound$Dinner"
  | 2 => .int
  | 3 => .int
  | _ => .int
def gn_T8 : u_T := fun k => match k with
  | 0 => ("GravyRound$Row", "numbers", "[I", true)
  | _ => ("GravyRound$Row", "count", "I", false)
def gn_ty8 : Nat → FieldType := fun k => match k with
  | 0 => .array .int
  | _ => .int
def gn_T9 : u_T := fun k => match k with
  | 0 => ("GravyRound$Shares", "takes", "[I", true)
  | 1 => ("GravyRound$Shares", "gainFirst", "[I", true)
  | 2 => ("GravyRound$Shares", "gainOther", "[I", true)
  | 3 => ("GravyRound$Shares", "got", "[I", true)
  | 4 => ("GravyRound$Shares", "restFirst", "I", false)
  | _ => ("GravyRound$Shares", "restOther", "I", false)
def gn_ty9 : Nat → FieldType := fun k => match k with
  | 0 => .array .int
  | 1 => .array .int
  | 2 => .array .int
  | 3 => .array .int
  | 4 => .int
  | _ => .int
def gn_T10 : u_T := fun k => match k with
  | 0 => ("GravyRound$Sights", "told", "LGravyRound$Dinner;", true)
  | 1 => ("GravyRound$Sights", "minutes", "[I", true)
  | 2 => ("GravyRound$Sights", "seats", "[I", true)
  | 3 => ("GravyRound$Sights", "stood", "[Z", true)
  | 4 => ("GravyRound$Sights", "toldAt", "[I", true)
  | 5 => ("GravyRound$Sights", "untoldAt", "[I", true)
  | 6 => ("GravyRound$Sights", "waits", "[I", true)
  | 7 => ("GravyRound$Sights", "tally", "[I", true)
  | 8 => ("GravyRound$Sights", "count", "I", false)
  | _ => ("GravyRound$Sights", "time", "I", false)
def gn_ty10 : Nat → FieldType := fun k => match k with
  | 0 => .object "GravyRound$Dinner"
  | 1 => .array .int
  | 2 => .array .int
  | 3 => .array .boolean
  | 4 => .array .int
  | 5 => .array .int
  | 6 => .array .int
  | 7 => .array .int
  | 8 => .int
  | _ => .int
def gn_T11 : u_T := fun k => match k with
  | 0 => ("GravyRound$Table", "told", "LGravyRound$Dinner;", true)
  | 1 => ("GravyRound$Table", "who", "[I", true)
  | 2 => ("GravyRound$Table", "got", "[I", true)
  | 3 => ("GravyRound$Table", "warmth", "[I", true)
  | 4 => ("GravyRound$Table", "boat", "I", false)
  | 5 => ("GravyRound$Table", "heat", "I", false)
  | 6 => ("GravyRound$Table", "stand", "I", false)
  | 7 => ("GravyRound$Table", "waiting", "I", false)
  | 8 => ("GravyRound$Table", "ended", "I", false)
  | 9 => ("GravyRound$Table", "minute", "I", false)
  | _ => ("GravyRound$Table", "seed", "I", false)
def gn_ty11 : Nat → FieldType := fun k => match k with
  | 0 => .object "GravyRound$Dinner"
  | 1 => .array .int
  | 2 => .array .int
  | 3 => .array .int
  | 4 => .int
  | 5 => .int
  | 6 => .int
  | 7 => .int
  | 8 => .int
  | 9 => .int
  | _ => .int
def gn_T12 : u_T := fun k => match k with
  | 0 => ("GravyRound$Tokens", "text", "[B", true)
  | 1 => ("GravyRound$Tokens", "words", "[J", true)
  | 2 => ("GravyRound$Tokens", "length", "I", false)
  | 3 => ("GravyRound$Tokens", "next", "I", false)
  | 4 => ("GravyRound$Tokens", "kind", "I", false)
  | 5 => ("GravyRound$Tokens", "start", "I", false)
  | 6 => ("GravyRound$Tokens", "number", "I", false)
  | _ => ("GravyRound$Tokens", "name", "J", false)
def gn_ty12 : Nat → FieldType := fun k => match k with
  | 0 => .array .byte
  | 1 => .array .long
  | 2 => .int
  | 3 => .int
  | 4 => .int
  | 5 => .int
  | 6 => .int
  | _ => .long
/-- the classes whose objects the worlds hold -/
abbrev gm_cl : List vw_C := [("GravyRound", gn_T0, 17), ("GravyRoundModel", gn_T1, 65), ("GravyRound$Acts", gn_T2, 4), ("GravyRound$Company", gn_T3, 3), ("GravyRound$Dinner", gn_T4, 13), ("GravyRound$Formula", gn_T5, 5), ("GravyRound$Orders", gn_T6, 11), ("GravyRound$Reader", gn_T7, 5), ("GravyRound$Row", gn_T8, 2), ("GravyRound$Shares", gn_T9, 6), ("GravyRound$Sights", gn_T10, 10), ("GravyRound$Table", gn_T11, 11), ("GravyRound$Tokens", gn_T12, 8)]
/-- a field's first value -/
def ga_cv (v : Nat) : Value := if v = 0 then .int 0 else if v = 5 then .long 0 else .null
/-- what the tables say of a class -/
def gn_ok (ci : Nat) (q : vw_C) : Prop := (∀ w ∈ u_ws q.1 q.2.1 q.2.2, w ∈ gw_tbl) ∧ (∀ a, a < q.2.2 → ∀ b, b < q.2.2 → a ≠ b → (q.2.1 a).2.1 ≠ (q.2.1 b).2.1) ∧ (∃ ty : Nat → FieldType, (∀ k, k < q.2.2 → parseFieldDescriptor (q.2.1 k).2.2.1 = some (ty k)) ∧ ∀ j, j < q.2.2 → defaultValue (ty j) = vp_V ((gm_df ci).map ga_cv) j) ∧ Cond.instantiable q.1 q.2.2 ∈ gw_tbl ∧ Cond.initialized q.1 ∈ gw_tbl ∧ ci < 100 ∧ (gm_df ci).length = q.2.2 ∧ ∀ v ∈ gm_df ci, v = 0 ∨ v = 4 ∨ v = 5
theorem gw_of {l : List Cond} (ps : List Nat) (h : decide (l = ps.filterMap (fun i => lw_tbl[i]?)) = true) (hg : l.all goodWord = true) : ∀ w ∈ l, w ∈ gw_tbl := by
  intro w hw
  have h1 := of_decide_eq_true h
  have hm : w ∈ lw_tbl := by
    rw [h1] at hw
    obtain ⟨i, -, hi⟩ := List.mem_filterMap.mp hw
    exact List.mem_of_getElem? hi
  exact List.mem_filter.mpr ⟨hm, List.all_eq_true.mp hg w hw⟩
theorem gn_in0 : ∀ w ∈ u_ws "GravyRound" gn_T0 17, w ∈ gw_tbl := gw_of [680, 682, 684, 686, 688, 690, 692, 694, 696, 698, 700, 702, 704, 706, 708, 710, 712] (by decide +kernel) (by decide +kernel)
theorem gn_nm0 : ∀ a, a < 17 → ∀ b, b < 17 → a ≠ b → (gn_T0 a).2.1 ≠ (gn_T0 b).2.1 := by decide +kernel
theorem gn_tk0 : ∀ k, k < 17 → parseFieldDescriptor (gn_T0 k).2.2.1 = some (gn_ty0 k) := by decide +kernel
theorem gn_dv0 : ∀ j, j < 17 → defaultValue (gn_ty0 j) = vp_V ((gm_df 0).map ga_cv) j := by decide +kernel
theorem gn_ok0 : gn_ok 0 ("GravyRound", gn_T0, 17) := ⟨gn_in0, gn_nm0, ⟨gn_ty0, gn_tk0, gn_dv0⟩, gw_mem (i := 144) (by decide +kernel), gw_mem (i := 122) (by decide +kernel), by decide, by decide +kernel, by decide +kernel⟩
theorem gn_in1 : ∀ w ∈ u_ws "GravyRoundModel" gn_T1 65, w ∈ gw_tbl := gw_of [1506, 1508, 1510, 1512, 1514, 1516, 1518, 1520, 1522, 1524, 1526, 1528, 1530, 1532, 1534, 1536, 1538, 1540, 1542, 1544, 1546, 1548, 1550, 1552, 1554, 1556, 1558, 1560, 1562, 1564, 1566, 1568, 1570, 1572, 1574, 1576, 1578, 1580, 1582, 1584, 1586, 1588, 1590, 1592, 1594, 1596, 1598, 1600, 1602, 1604, 1606, 1608, 1610, 1612, 1614, 1616, 1618, 1620, 1622, 1624, 1626, 1628, 1630, 1632, 1634] (by decide +kernel) (by decide +kernel)
theorem gn_nm1 : ∀ a, a < 65 → ∀ b, b < 65 → a ≠ b → (gn_T1 a).2.1 ≠ (gn_T1 b).2.1 := by decide +kernel
theorem gn_tk1 : ∀ k, k < 65 → parseFieldDescriptor (gn_T1 k).2.2.1 = some (gn_ty1 k) := by decide +kernel
theorem gn_dv1 : ∀ j, j < 65 → defaultValue (gn_ty1 j) = vp_V ((gm_df 1).map ga_cv) j := by decide +kernel
theorem gn_ok1 : gn_ok 1 ("GravyRoundModel", gn_T1, 65) := ⟨gn_in1, gn_nm1, ⟨gn_ty1, gn_tk1, gn_dv1⟩, gw_mem (i := 1382) (by decide +kernel), gw_mem (i := 140) (by decide +kernel), by decide, by decide +kernel, by decide +kernel⟩
theorem gn_in2 : ∀ w ∈ u_ws "GravyRound$Acts" gn_T2 4, w ∈ gw_tbl := gw_of [461, 463, 465, 467] (by decide +kernel) (by decide +kernel)
theorem gn_nm2 : ∀ a, a < 4 → ∀ b, b < 4 → a ≠ b → (gn_T2 a).2.1 ≠ (gn_T2 b).2.1 := by decide +kernel
theorem gn_tk2 : ∀ k, k < 4 → parseFieldDescriptor (gn_T2 k).2.2.1 = some (gn_ty2 k) := by decide +kernel
theorem gn_dv2 : ∀ j, j < 4 → defaultValue (gn_ty2 j) = vp_V ((gm_df 2).map ga_cv) j := by decide +kernel
theorem gn_ok2 : gn_ok 2 ("GravyRound$Acts", gn_T2, 4) := ⟨gn_in2, gn_nm2, ⟨gn_ty2, gn_tk2, gn_dv2⟩, gw_mem (i := 447) (by decide +kernel), gw_mem (i := 132) (by decide +kernel), by decide, by decide +kernel, by decide +kernel⟩
theorem gn_in3 : ∀ w ∈ u_ws "GravyRound$Company" gn_T3 3, w ∈ gw_tbl := gw_of [565, 567, 569] (by decide +kernel) (by decide +kernel)
theorem gn_nm3 : ∀ a, a < 3 → ∀ b, b < 3 → a ≠ b → (gn_T3 a).2.1 ≠ (gn_T3 b).2.1 := by decide +kernel
theorem gn_tk3 : ∀ k, k < 3 → parseFieldDescriptor (gn_T3 k).2.2.1 = some (gn_ty3 k) := by decide +kernel
theorem gn_dv3 : ∀ j, j < 3 → defaultValue (gn_ty3 j) = vp_V ((gm_df 3).map ga_cv) j := by decide +kernel
theorem gn_ok3 : gn_ok 3 ("GravyRound$Company", gn_T3, 3) := ⟨gn_in3, gn_nm3, ⟨gn_ty3, gn_tk3, gn_dv3⟩, gw_mem (i := 556) (by decide +kernel), gw_mem (i := 136) (by decide +kernel), by decide, by decide +kernel, by decide +kernel⟩
theorem gn_in4 : ∀ w ∈ u_ws "GravyRound$Dinner" gn_T4 13, w ∈ gw_tbl := gw_of [241, 243, 245, 247, 249, 251, 253, 255, 257, 259, 261, 263, 265] (by decide +kernel) (by decide +kernel)
theorem gn_nm4 : ∀ a, a < 13 → ∀ b, b < 13 → a ≠ b → (gn_T4 a).2.1 ≠ (gn_T4 b).2.1 := by decide +kernel
theorem gn_tk4 : ∀ k, k < 13 → parseFieldDescriptor (gn_T4 k).2.2.1 = some (gn_ty4 k) := by decide +kernel
theorem gn_dv4 : ∀ j, j < 13 → defaultValue (gn_ty4 j) = vp_V ((gm_df 4).map ga_cv) j := by decide +kernel
theorem gn_ok4 : gn_ok 4 ("GravyRound$Dinner", gn_T4, 13) := ⟨gn_in4, gn_nm4, ⟨gn_ty4, gn_tk4, gn_dv4⟩, gw_mem (i := 152) (by decide +kernel), gw_mem (i := 123) (by decide +kernel), by decide, by decide +kernel, by decide +kernel⟩
theorem gn_in5 : ∀ w ∈ u_ws "GravyRound$Formula" gn_T5 5, w ∈ gw_tbl := gw_of [171, 173, 175, 177, 179] (by decide +kernel) (by decide +kernel)
theorem gn_nm5 : ∀ a, a < 5 → ∀ b, b < 5 → a ≠ b → (gn_T5 a).2.1 ≠ (gn_T5 b).2.1 := by decide +kernel
theorem gn_tk5 : ∀ k, k < 5 → parseFieldDescriptor (gn_T5 k).2.2.1 = some (gn_ty5 k) := by decide +kernel
theorem gn_dv5 : ∀ j, j < 5 → defaultValue (gn_ty5 j) = vp_V ((gm_df 5).map ga_cv) j := by decide +kernel
theorem gn_ok5 : gn_ok 5 ("GravyRound$Formula", gn_T5, 5) := ⟨gn_in5, gn_nm5, ⟨gn_ty5, gn_tk5, gn_dv5⟩, gw_mem (i := 158) (by decide +kernel), gw_mem (i := 124) (by decide +kernel), by decide, by decide +kernel, by decide +kernel⟩
theorem gn_in6 : ∀ w ∈ u_ws "GravyRound$Orders" gn_T6 11, w ∈ gw_tbl := gw_of [504, 506, 508, 510, 512, 514, 516, 518, 520, 522, 524] (by decide +kernel) (by decide +kernel)
theorem gn_nm6 : ∀ a, a < 11 → ∀ b, b < 11 → a ≠ b → (gn_T6 a).2.1 ≠ (gn_T6 b).2.1 := by decide +kernel
theorem gn_tk6 : ∀ k, k < 11 → parseFieldDescriptor (gn_T6 k).2.2.1 = some (gn_ty6 k) := by decide +kernel
theorem gn_dv6 : ∀ j, j < 11 → defaultValue (gn_ty6 j) = vp_V ((gm_df 6).map ga_cv) j := by decide +kernel
theorem gn_ok6 : gn_ok 6 ("GravyRound$Orders", gn_T6, 11) := ⟨gn_in6, gn_nm6, ⟨gn_ty6, gn_tk6, gn_dv6⟩, gw_mem (i := 486) (by decide +kernel), gw_mem (i := 134) (by decide +kernel), by decide, by decide +kernel, by decide +kernel⟩
theorem gn_in7 : ∀ w ∈ u_ws "GravyRound$Reader" gn_T7 5, w ∈ gw_tbl := gw_of [373, 375, 377, 379, 381] (by decide +kernel) (by decide +kernel)
theorem gn_nm7 : ∀ a, a < 5 → ∀ b, b < 5 → a ≠ b → (gn_T7 a).2.1 ≠ (gn_T7 b).2.1 := by decide +kernel
theorem gn_tk7 : ∀ k, k < 5 → parseFieldDescriptor (gn_T7 k).2.2.1 = some (gn_ty7 k) := by decide +kernel
theorem gn_dv7 : ∀ j, j < 5 → defaultValue (gn_ty7 j) = vp_V ((gm_df 7).map ga_cv) j := by decide +kernel
theorem gn_ok7 : gn_ok 7 ("GravyRound$Reader", gn_T7, 5) := ⟨gn_in7, gn_nm7, ⟨gn_ty7, gn_tk7, gn_dv7⟩, gw_mem (i := 269) (by decide +kernel), gw_mem (i := 125) (by decide +kernel), by decide, by decide +kernel, by decide +kernel⟩
theorem gn_in8 : ∀ w ∈ u_ws "GravyRound$Row" gn_T8 2, w ∈ gw_tbl := gw_of [480, 482] (by decide +kernel) (by decide +kernel)
theorem gn_nm8 : ∀ a, a < 2 → ∀ b, b < 2 → a ≠ b → (gn_T8 a).2.1 ≠ (gn_T8 b).2.1 := by decide +kernel
theorem gn_tk8 : ∀ k, k < 2 → parseFieldDescriptor (gn_T8 k).2.2.1 = some (gn_ty8 k) := by decide +kernel
theorem gn_dv8 : ∀ j, j < 2 → defaultValue (gn_ty8 j) = vp_V ((gm_df 8).map ga_cv) j := by decide +kernel
theorem gn_ok8 : gn_ok 8 ("GravyRound$Row", gn_T8, 2) := ⟨gn_in8, gn_nm8, ⟨gn_ty8, gn_tk8, gn_dv8⟩, gw_mem (i := 471) (by decide +kernel), gw_mem (i := 133) (by decide +kernel), by decide, by decide +kernel, by decide +kernel⟩
theorem gn_in9 : ∀ w ∈ u_ws "GravyRound$Shares" gn_T9 6, w ∈ gw_tbl := gw_of [542, 544, 546, 548, 550, 552] (by decide +kernel) (by decide +kernel)
theorem gn_nm9 : ∀ a, a < 6 → ∀ b, b < 6 → a ≠ b → (gn_T9 a).2.1 ≠ (gn_T9 b).2.1 := by decide +kernel
theorem gn_tk9 : ∀ k, k < 6 → parseFieldDescriptor (gn_T9 k).2.2.1 = some (gn_ty9 k) := by decide +kernel
theorem gn_dv9 : ∀ j, j < 6 → defaultValue (gn_ty9 j) = vp_V ((gm_df 9).map ga_cv) j := by decide +kernel
theorem gn_ok9 : gn_ok 9 ("GravyRound$Shares", gn_T9, 6) := ⟨gn_in9, gn_nm9, ⟨gn_ty9, gn_tk9, gn_dv9⟩, gw_mem (i := 528) (by decide +kernel), gw_mem (i := 135) (by decide +kernel), by decide, by decide +kernel, by decide +kernel⟩
theorem gn_in10 : ∀ w ∈ u_ws "GravyRound$Sights" gn_T10 10, w ∈ gw_tbl := gw_of [590, 592, 594, 596, 598, 600, 602, 604, 606, 608] (by decide +kernel) (by decide +kernel)
theorem gn_nm10 : ∀ a, a < 10 → ∀ b, b < 10 → a ≠ b → (gn_T10 a).2.1 ≠ (gn_T10 b).2.1 := by decide +kernel
theorem gn_tk10 : ∀ k, k < 10 → parseFieldDescriptor (gn_T10 k).2.2.1 = some (gn_ty10 k) := by decide +kernel
theorem gn_dv10 : ∀ j, j < 10 → defaultValue (gn_ty10 j) = vp_V ((gm_df 10).map ga_cv) j := by decide +kernel
theorem gn_ok10 : gn_ok 10 ("GravyRound$Sights", gn_T10, 10) := ⟨gn_in10, gn_nm10, ⟨gn_ty10, gn_tk10, gn_dv10⟩, gw_mem (i := 573) (by decide +kernel), gw_mem (i := 137) (by decide +kernel), by decide, by decide +kernel, by decide +kernel⟩
theorem gn_in11 : ∀ w ∈ u_ws "GravyRound$Table" gn_T11 11, w ∈ gw_tbl := gw_of [423, 425, 427, 429, 431, 433, 435, 437, 439, 441, 443] (by decide +kernel) (by decide +kernel)
theorem gn_nm11 : ∀ a, a < 11 → ∀ b, b < 11 → a ≠ b → (gn_T11 a).2.1 ≠ (gn_T11 b).2.1 := by decide +kernel
theorem gn_tk11 : ∀ k, k < 11 → parseFieldDescriptor (gn_T11 k).2.2.1 = some (gn_ty11 k) := by decide +kernel
theorem gn_dv11 : ∀ j, j < 11 → defaultValue (gn_ty11 j) = vp_V ((gm_df 11).map ga_cv) j := by decide +kernel
theorem gn_ok11 : gn_ok 11 ("GravyRound$Table", gn_T11, 11) := ⟨gn_in11, gn_nm11, ⟨gn_ty11, gn_tk11, gn_dv11⟩, gw_mem (i := 385) (by decide +kernel), gw_mem (i := 131) (by decide +kernel), by decide, by decide +kernel, by decide +kernel⟩
theorem gn_in12 : ∀ w ∈ u_ws "GravyRound$Tokens" gn_T12 8, w ∈ gw_tbl := gw_of [349, 351, 353, 355, 357, 359, 361, 363] (by decide +kernel) (by decide +kernel)
theorem gn_nm12 : ∀ a, a < 8 → ∀ b, b < 8 → a ≠ b → (gn_T12 a).2.1 ≠ (gn_T12 b).2.1 := by decide +kernel
theorem gn_tk12 : ∀ k, k < 8 → parseFieldDescriptor (gn_T12 k).2.2.1 = some (gn_ty12 k) := by decide +kernel
theorem gn_dv12 : ∀ j, j < 8 → defaultValue (gn_ty12 j) = vp_V ((gm_df 12).map ga_cv) j := by decide +kernel
theorem gn_ok12 : gn_ok 12 ("GravyRound$Tokens", gn_T12, 8) := ⟨gn_in12, gn_nm12, ⟨gn_ty12, gn_tk12, gn_dv12⟩, gw_mem (i := 275) (by decide +kernel), gw_mem (i := 126) (by decide +kernel), by decide, by decide +kernel, by decide +kernel⟩
theorem gn_all : ∀ (ci : Nat) (q : vw_C), gm_cl[ci]? = some q → gn_ok ci q := by
  intro ci q hq
  match ci, hq with
  | 0, hq => cases hq; exact gn_ok0
  | 1, hq => cases hq; exact gn_ok1
  | 2, hq => cases hq; exact gn_ok2
  | 3, hq => cases hq; exact gn_ok3
  | 4, hq => cases hq; exact gn_ok4
  | 5, hq => cases hq; exact gn_ok5
  | 6, hq => cases hq; exact gn_ok6
  | 7, hq => cases hq; exact gn_ok7
  | 8, hq => cases hq; exact gn_ok8
  | 9, hq => cases hq; exact gn_ok9
  | 10, hq => cases hq; exact gn_ok10
  | 11, hq => cases hq; exact gn_ok11
  | 12, hq => cases hq; exact gn_ok12
  | k + 13, hq => simp [gm_cl] at hq
